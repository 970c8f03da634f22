theorem vpn_b (b : Bool) : vp_nar .boolean (b2i b) = b2i b := by cases b <;> decide
theorem MT_37 {g : Mem} {B : Bs} {k : Nat} {v : Int32} (h : MT g B) : MT (up g 37 0 0 k v) B := by
  obtain ⟨hM0, hM1, hM2, hM3, hM4, hM5, hM6, hM7, hM8, hM9, hM10⟩ := h
  exact ⟨by simpa [up] using hM0, by simpa [up] using hM1, by simpa [up] using hM2, by simpa [up] using hM3, by simpa [up] using hM4, by simpa [up] using hM5, by simpa [up] using hM6, by simpa [up] using hM7, by simpa [up] using hM8, by simpa [up] using hM9, by simpa [up] using hM10⟩
theorem MT_27 {g : Mem} {B : Bs} {v : Nat} (h : MT g B) : MT (up g 24 27 0 0 (nI v)) (ub B 5 0 v) := by
  obtain ⟨hM0, hM1, hM2, hM3, hM4, hM5, hM6, hM7, hM8, hM9, hM10⟩ := h
  exact ⟨by simpa [up, ub] using hM0, by simpa [up, ub] using hM1, by simpa [up, ub] using hM2, by simpa [up, ub] using hM3, by simpa [up, ub] using hM4, by simp [up, ub], by simpa [up, ub] using hM6, by simpa [up, ub] using hM7, by simpa [up, ub] using hM8, by simpa [up, ub] using hM9, by simpa [up, ub] using hM10⟩
theorem FrM.up27 {g : Mem} {v : Int32} : FrM g (_root_.Jvm.Pilot.@@N@@.up g 24 27 0 0 v) := by
  intro k' j' o' i' h
  unfold _root_.Jvm.Pilot.@@N@@.up
  rw [if_neg]
  rintro ⟨rfl, rfl, -⟩
  rcases h with h | h | h | h <;> omega
theorem on_4 {B : Bs} {S k : Nat} (hW : WF S B) : (on (-4) (hd B k) = -4) ↔ (hd B k).isSome = false := by
  cases hz : hd B k with
  | none => simp [on]
  | some c =>
    have hn := hW.2.1
    have := (hd_some hz).1
    simp only [Option.isSome_some, Bool.true_eq_false, iff_false]
    exact nI_neg4 (by omega)
section Mod
variable {g : Mem} {B : Bs} {S : Nat}
theorem m_fights (hM : MT g B) (hW : WF S B) : Ok (f_X10_fights g) (fun g' => MT g' (fights B) ∧ FrM g g') := by
  have hW' := hW
  obtain ⟨hW0, hW1, hW2, hW3, hW4, hW5, hW6, hW7, hW8, hW9, hW10, hW11, hW12⟩ := hW
  unfold f_X10_fights
  apply ok_obd
  refine (ok_up (K := fun g' => MT g' B ∧ FrM g g' ∧ ∀ i, i < B 6 0 → g' 37 0 0 (B 8 i) = b2i (lo B (B 8 i))) (B 6 0) (fun j a => a.1 = nI j ∧ MT a.2 B ∧ FrM g a.2 ∧ ∀ i, i < j → a.2 37 0 0 (B 8 i) = b2i (lo B (B 8 i))) (by omega) ?_ ?_ _ ⟨rfl, hM, FrM.rf, fun i hi => by omega⟩).mono ?_
  · rintro j ⟨x, g1⟩ hj ⟨hx, hM1, hF, hd1⟩
    dsimp only at hx hM1 hF hd1 ⊢
    subst hx
    have e6 : g1 24 26 0 0 = nI (B 6 0) := hM1.2.2.2.2.2.2.1
    rw [if_neg (show ¬ g1 24 26 0 0 ≤ nI j by rw [e6]; exact nI_ge hj (by omega))]
    refine ok_gd (inb_nI (by omega) (by decide)) (ok_bnd ?_)
    have hk := hW8 j hj
    have e8 : g1 36 0 0 (nI j).toNatClampNeg = nI (B 8 j) := by rw [nI_clamp (by omega)]; exact hM1.2.2.2.2.2.2.2.2.1 j hj
    rw [e8]
    generalize hke : B 8 j = k at hk
    apply ok_obd
    refine ok_eq (m_heldBy hM1 hW' (by omega)) ?_
    apply ok_obd
    have h74 : Ok (if on (-4) (hd B k) = -4 then some false else some true) (fun a => a = (hd B k).isSome) := by
      refine ok_ite (fun hc => ok_some ((on_4 hW').mp hc).symm) (fun hc => ok_some ?_)
      cases hz : (hd B k).isSome with
      | true => rfl
      | false => exact absurd ((on_4 hW').mpr hz) hc
    refine h74.mono (fun a74 ea => ?_)
    subst ea
    apply ok_obd
    refine (ok_up (K := fun r => r = (ff (fun i => bt B k (B 8 i)) (B 6 0)).isSome) (B 6 0) (fun i a => a.2 = nI i ∧ a.1 = (ff (fun i => bt B k (B 8 i)) i).isSome) (by omega) ?_ ?_ _ ⟨rfl, rfl⟩).mono ?_
    · rintro i ⟨r, x⟩ hi ⟨hx, hr⟩
      dsimp only at hx hr ⊢
      subst hx
      rw [if_neg (show ¬ g1 24 26 0 0 ≤ nI i by rw [e6]; exact nI_ge hi (by omega))]
      refine ok_gd (inb_nI (by omega) (by decide)) (ok_bnd ?_)
      have hu := hW8 i hi
      have eu : g1 36 0 0 (nI i).toNatClampNeg = nI (B 8 i) := by rw [nI_clamp (by omega)]; exact hM1.2.2.2.2.2.2.2.2.1 i hi
      rw [eu]
      obtain ⟨p1, p2, p3, p4⟩ := hM1.2.2.2.2.2.2.2.2.2.2 k hk
      obtain ⟨u1, u2, u3, u4⟩ := hM1.2.2.2.2.2.2.2.2.2.2 _ hu
      obtain ⟨q1, q2, q3, q4⟩ := hW12 k hk
      obtain ⟨v1, v2, v3, v4⟩ := hW12 _ hu
      have f1 : g1 35 0 0 (nI (B 8 i)).toNatClampNeg = nI (B 15 (B 8 i)) := by rw [nI_clamp (by omega)]; exact u4
      have f2 : g1 35 0 0 (nI k).toNatClampNeg = nI (B 15 k) := by rw [nI_clamp (by omega)]; exact p4
      have f3 : g1 32 0 0 (nI (B 8 i)).toNatClampNeg = nI (B 12 (B 8 i)) := by rw [nI_clamp (by omega)]; exact u1
      have f4 : g1 32 0 0 (nI k).toNatClampNeg = nI (B 12 k) := by rw [nI_clamp (by omega)]; exact p1
      apply ok_obd
      have hmeet : Ok (if nI (B 8 i) = nI k then some false else gd (inb (nI (B 8 i)) 4) (gd (inb (nI k) 4) (if g1 35 0 0 (nI (B 8 i)).toNatClampNeg = g1 35 0 0 (nI k).toNatClampNeg then obd (f_X10_heldBy (nI (B 8 i)) g1) (fun r96 => if r96 = -4 then some false else some true) else some false))) (fun a => a = (B 8 i != k && (B 15 (B 8 i) == B 15 k && (hd B (B 8 i)).isSome))) := by
        refine ok_ite (fun h1 => ?_) (fun h1 => ?_)
        · have h1 := nI_inj (by omega) (by omega) h1
          exact ok_some (by simp [h1])
        · have h1 : ¬ B 8 i = k := fun e => h1 (by rw [e])
          refine ok_gd (inb_nI (by omega) (by decide)) (ok_gd (inb_nI (by omega) (by decide)) ?_)
          rw [f1, f2]
          refine ok_ite (fun h2 => ?_) (fun h2 => ?_)
          · have h2 := nI_inj (by omega) (by omega) h2
            apply ok_obd
            refine ok_eq (m_heldBy hM1 hW' (by omega)) ?_
            refine ok_ite (fun h3 => ?_) (fun h3 => ?_)
            · exact ok_some (by rw [(on_4 hW').mp h3]; simp)
            · have h3 : (hd B (B 8 i)).isSome = true := by
                cases hz : (hd B (B 8 i)).isSome with
                | true => rfl
                | false => exact absurd ((on_4 hW').mpr hz) h3
              exact ok_some (by simp [h1, h2, h3])
          · have h2 : ¬ B 15 (B 8 i) = B 15 k := fun e => h2 (by rw [e])
            exact ok_some (by simp [h2])
      refine hmeet.mono (fun a97 ea => ?_)
      have hff : (ff (fun i => bt B k (B 8 i)) (i + 1)).isSome = (r || bt B k (B 8 i)) := by
        rw [Bool.eq_iff_iff, ff_isSome, Bool.or_eq_true, hr, ff_isSome]
        constructor
        · rintro ⟨c, c1, c2⟩
          rcases Nat.lt_succ_iff_lt_or_eq.mp c1 with c1 | c1
          · exact Or.inl ⟨c, c1, c2⟩
          · subst c1; exact Or.inr c2
        · rintro (⟨c, c1, c2⟩ | c2)
          · exact ⟨c, by omega, c2⟩
          · exact ⟨i, by omega, c2⟩
      refine ok_ite (fun h1 => ?_) (fun h1 => ?_)
      · exact ok_bnd (ok_some ⟨nI_1 i, by rw [hff, h1]; rfl⟩)
      · have h1 : r = false := by simpa using h1
        refine ok_ite (fun h2 => ?_) (fun h2 => ?_)
        · rw [ea] at h2
          simp only [Bool.and_eq_true, bne_iff_ne, beq_iff_eq] at h2
          refine ok_gd (inb_nI (by omega) (by decide)) (ok_gd (inb_nI (by omega) (by decide)) ?_)
          refine ok_ite (fun h3 => ?_) (fun h3 => ?_)
          · rw [f3, f4] at h3
            have h3 := (nI_ltI (by omega) (by omega)).mp h3
            refine ok_bnd (ok_some ⟨nI_1 i, ?_⟩)
            rw [hff, h1]
            simp [bt]
            intro _ _ _
            omega
          · rw [f3, f4] at h3
            have h3 : ¬ B 12 (B 8 i) < B 12 k := fun e => h3 ((nI_ltI (by omega) (by omega)).mpr e)
            refine ok_bnd (ok_some ⟨nI_1 i, ?_⟩)
            rw [hff, h1]
            simp [bt, h2]
            omega
        · rw [ea] at h2
          refine ok_bnd (ok_some ⟨nI_1 i, ?_⟩)
          rw [hff, h1]
          simp only [Bool.false_or]
          symm
          unfold bt
          rw [Bool.eq_false_iff]
          intro h3
          apply h2
          simp only [Bool.and_eq_true] at h3 ⊢
          exact ⟨h3.1, h3.2.1, h3.2.2.1⟩
    · rintro ⟨r, x⟩ ⟨hx, hr⟩
      dsimp only at hx hr ⊢
      subst hx
      rw [if_pos (show g1 24 26 0 0 ≤ nI (B 6 0) by rw [e6]; exact Int32.le_refl _)]
      exact ok_some hr
    · intro e102 he
      apply ok_obd
      have h103 : Ok (if (hd B k).isSome = true then (if e102 = true then some true else some false) else some false) (fun a => a = lo B k) := by
        unfold lo
        rw [← he]
        refine ok_ite (fun h1 => ?_) (fun h1 => ?_)
        · refine ok_ite (fun h2 => ok_some (by simp [h1, h2])) (fun h2 => ok_some (by simp [h2]))
        · exact ok_some (by simp [h1])
      refine h103.mono (fun a ea => ?_)
      subst ea
      refine ok_gd (inb_nI (by omega) (by decide)) (ok_bnd (ok_bnd (ok_some ⟨nI_1 j, MT_37 hM1, hF.tr (FrM.up (by decide)), fun i hi => ?_⟩)))
      dsimp only
      rw [nI_clamp (by omega), vpn_b]
      rcases Nat.lt_succ_iff_lt_or_eq.mp hi with g | g
      · have : ¬ B 8 i = k := fun e => by
          have := hW9 i j (by omega) hj (by omega)
          omega
        simpa [up, this] using hd1 i g
      · subst g
        rw [hke]
        simp [up]
  · rintro ⟨x, g1⟩ ⟨hx, hM1, hF, hd1⟩
    dsimp only at hx hM1 hF hd1 ⊢
    subst hx
    have e6 : g1 24 26 0 0 = nI (B 6 0) := hM1.2.2.2.2.2.2.1
    rw [if_pos (show g1 24 26 0 0 ≤ nI (B 6 0) by rw [e6]; exact Int32.le_refl _)]
    exact ok_some ⟨hM1, hF, hd1⟩
  · rintro g1 ⟨hM1, hF1, hd1⟩
    apply ok_obd
    refine (ok_up (K := fun g' => MT g' (fights B) ∧ FrM g g') (B 6 0) (fun j a => a.1 = nI j ∧ MT a.2 (dr (am B j) B) ∧ FrM g a.2 ∧ ∀ i, i < B 6 0 → a.2 37 0 0 (B 8 i) = b2i (lo B (B 8 i))) (by omega) ?_ ?_ _ ⟨rfl, ?_, hF1, hd1⟩).mono (fun a ha => ok_some ha)
    · rintro j ⟨x, g2⟩ hj ⟨hx, hM2, hF2, hd2⟩
      dsimp only at hx hM2 hF2 hd2 ⊢
      subst hx
      have e6 : g2 24 26 0 0 = nI (B 6 0) := by rw [hM2.2.2.2.2.2.2.1, dr_f (by decide)]
      rw [if_neg (show ¬ g2 24 26 0 0 ≤ nI j by rw [e6]; exact nI_ge hj (by omega))]
      refine ok_gd (inb_nI (by omega) (by decide)) (ok_bnd ?_)
      have hk := hW8 j hj
      have e8 : g2 36 0 0 (nI j).toNatClampNeg = nI (B 8 j) := by
        rw [nI_clamp (by omega), hM2.2.2.2.2.2.2.2.2.1 j (by rw [dr_f (by decide)]; exact hj), dr_f (by decide)]
      rw [e8]
      refine ok_gd (inb_nI (by omega) (by decide)) ?_
      have ed : g2 37 0 0 (nI (B 8 j)).toNatClampNeg = b2i (lo B (B 8 j)) := by rw [nI_clamp (by omega)]; exact hd2 j hj
      refine ok_ite (fun h1 => ?_) (fun h1 => ?_)
      · rw [ed] at h1
        have h1 := b2i_0.mp h1
        rw [dr_same (Z' := am B (j + 1)) h1 (fun i => am_s)] at hM2
        exact ok_bnd (ok_some ⟨nI_1 j, hM2, hF2, hd2⟩)
      · rw [ed] at h1
        have h1 : lo B (B 8 j) = true := by
          cases hz : lo B (B 8 j) with
          | true => rfl
          | false => exact absurd (by rw [hz]; rfl) h1
        obtain ⟨c, hc⟩ := lo_hd h1
        obtain ⟨c1, c2⟩ := hd_some hc
        have hnot : am B j (B 8 j) = false := by
          cases hz : am B j (B 8 j) with
          | false => rfl
          | true =>
            obtain ⟨i, i1, i2⟩ := am_iff.mp hz
            have := hW9 i j (by omega) hj i2
            omega
        have hh : hd (dr (am B j) B) (B 8 j) = some c := by
          rw [hd_dr hW' hk, hnot]; simpa using hc
        apply ok_obd
        refine ok_eq (m_heldBy hM2 (WF_dr hW') (by omega)) ?_
        rw [hh]
        refine ok_gd (inb_nI (by omega) (by decide)) (ok_gd (inb_nI (by omega) (by decide)) (ok_bnd (ok_bnd (ok_some ?_))))
        have ep : g2 35 0 0 (nI (B 8 j)).toNatClampNeg = nI (B 15 (B 8 j)) := by
          rw [nI_clamp (by omega), (hM2.2.2.2.2.2.2.2.2.2.2 (B 8 j) (by rw [dr_f (by decide)]; exact hk)).2.2.2, dr_f (by decide)]
        rw [ep, show (on (-4) (some c)).toNatClampNeg = c from nI_clamp (by omega)]
        refine ⟨nI_1 j, ?_, hF2.tr (FrM.up (by decide)), fun i hi => by simpa [up] using hd2 i hi⟩
        show MT _ (dr (am B (j + 1)) B)
        rw [← dr_add hW' hk hc h1 (fun i => am_s)]
        exact MT_31 hM2
    · rintro ⟨x, g2⟩ ⟨hx, hM2, hF2, hd2⟩
      dsimp only at hx hM2 hF2 hd2 ⊢
      subst hx
      have e6 : g2 24 26 0 0 = nI (B 6 0) := by rw [hM2.2.2.2.2.2.2.1, dr_f (by decide)]
      rw [if_pos (show g2 24 26 0 0 ≤ nI (B 6 0) by rw [e6]; exact Int32.le_refl _)]
      exact ok_some ⟨hM2, hF2⟩
    · dsimp only
      rw [dr_none (fun k => by simp [am, ff])]
      exact hM1
end Mod
