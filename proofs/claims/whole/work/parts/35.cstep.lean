theorem bit_set : ∀ M, M < 16 → ∀ k, k < 4 → nI M ||| ((1 : Int32) <<< (nI k &&& 31)) = nI (M ||| 2 ^ k) := by decide +kernel
theorem bit_get : ∀ M, M < 16 → ∀ k, k < 4 → (((nI M >>> (nI k &&& 31)) &&& 1 = 1) ↔ M.testBit k = true) := by decide +kernel
theorem bit_or : ∀ M, M < 16 → ∀ k, k < 4 → (M ||| 2 ^ k < 16 ∧ ∀ j, j < 4 → (M ||| 2 ^ k).testBit j = (M.testBit j || k == j)) := by decide +kernel
section Cls
variable {h : Mem} {o : Nat} {B : Bs} {S : Nat}
theorem c_loses (hC : CB0 h o B) (hH : HL h o B) (hW : WF S B) {k : Nat} (hk : k < B 2 0) : f_X0_losesFight o (nI k) h = some (lo B k) := by
  have hC' := hC
  have hW' := hW
  obtain ⟨hM0, hM1, hM2, hM3, hM4, hM5, hM6, hM7, hM8, hM9, hM10⟩ := hC
  obtain ⟨hW0, hW1, hW2, hW3, hW4, hW5, hW6, hW7, hW8, hW9, hW10, hW11, hW12⟩ := hW
  apply Ok.eqv
  unfold f_X0_losesFight
  refine ok_gd (inb_nI (by omega) (by decide)) ?_
  rw [nI_clamp (by omega)]
  apply ok_obd
  rw [hM6]
  refine (ok_up (K := Sum.elim (fun r => r = lo B k) (fun _ => lo B k = false)) (B 6 0) (fun j a => a = nI j ∧ ∀ i, i < j → bt B k (B 8 i) = false) (by omega) ?_ ?_ _ ⟨rfl, fun c hc => by omega⟩).mono ?_
  · rintro j a hj ⟨rfl, hf⟩
    rw [if_neg (nI_ge hj (by omega))]
    apply ok_obd
    refine ok_eq (c_holds hH hW' hk) ?_
    refine ok_ite (fun h1 => ?_) (fun h1 => ?_)
    · have hu := hW8 j hj
      have e1 : h 5 0 o (nI j).toNatClampNeg = nI (B 8 j) := by rw [nI_clamp (by omega)]; exact hM8 j hj
      rw [e1]
      refine ok_gd (inb_nI (by omega) (by decide)) (ok_gd (inb_nI (by omega) (by decide)) (ok_gd (inb_nI (by omega) (by decide)) ?_))
      rw [nI_clamp (show B 8 j < 2 ^ 31 by omega)]
      have next : bt B k (B 8 j) = false → Ok (bnd (nI j + 1) (fun x => some (Sum.inl x : Int32 ⊕ (Bool ⊕ Unit)))) (Sum.elim (fun a => a = nI (j + 1) ∧ ∀ i, i < j + 1 → bt B k (B 8 i) = false) (Sum.elim (fun r => r = lo B k) (fun _ => lo B k = false))) := by
        intro hb
        refine ok_bnd (ok_some ⟨nI_1 j, fun c hc' => ?_⟩)
        rcases Nat.lt_succ_iff_lt_or_eq.mp hc' with g | g
        · exact hf c g
        · subst g; exact hb
      obtain ⟨p1, p2, p3, p4⟩ := hM10 k hk
      obtain ⟨u1, u2, u3, u4⟩ := hM10 _ hu
      obtain ⟨q1, q2, q3, q4⟩ := hW12 k hk
      obtain ⟨v1, v2, v3, v4⟩ := hW12 _ hu
      refine ok_ite (fun h2 => ?_) (fun h2 => ?_)
      · have h2 := nI_inj (by omega) (by omega) h2
        exact next (by simp [bt, h2])
      · have h2 : ¬ B 8 j = k := fun e => h2 (by rw [e])
        apply ok_obd
        refine ok_eq (c_holds hH hW' hu) ?_
        refine ok_ite (fun h3 => ?_) (fun h3 => ?_)
        · rw [u4, p4, u1, p1]
          refine ok_ite (fun h4 => ?_) (fun h4 => ?_)
          · have h4 := nI_inj (by omega) (by omega) h4
            refine ok_ite (fun h5 => ?_) (fun h5 => ?_)
            · have h5 := (nI_ltI (by omega) (by omega)).mp h5
              exact next (by simp [bt]; intro _ _ _; omega)
            · have h5 : ¬ B 12 (B 8 j) < B 12 k := fun h => h5 ((nI_ltI (by omega) (by omega)).mpr h)
              refine ok_some ?_
              show true = lo B k
              unfold lo
              rw [h1, Bool.true_and]
              symm
              rw [ff_isSome]
              exact ⟨j, hj, by simp [bt, h2, h3, h4]; omega⟩
          · have h4 : ¬ B 15 (B 8 j) = B 15 k := fun e => h4 (by rw [e])
            exact next (by simp [bt, h4])
        · exact next (by simp [bt, h3])
    · refine ok_some ?_
      show lo B k = false
      unfold lo
      simp [h1]
  · rintro a ⟨rfl, hf⟩
    rw [if_pos (Int32.le_refl _)]
    refine ok_some ?_
    show lo B k = false
    unfold lo
    rw [ff_none.mpr hf]; simp
  · intro z hz
    cases z with
    | inl r => exact ok_some hz
    | inr u => exact ok_some (Eq.symm hz)
theorem c_settle (hC : CB0 h o B) (hH : HL h o B) (hW : WF S B) : Ok (f_X0_settleFights o h) (fun h' => CB0 h' o (fights B) ∧ HL h' o (fights B) ∧ FrB h h' o) := by
  have hC' := hC
  have hW' := hW
  obtain ⟨hM0, hM1, hM2, hM3, hM4, hM5, hM6, hM7, hM8, hM9, hM10⟩ := hC
  obtain ⟨hW0, hW1, hW2, hW3, hW4, hW5, hW6, hW7, hW8, hW9, hW10, hW11, hW12⟩ := hW
  unfold f_X0_settleFights
  apply ok_obd
  rw [hM6]
  refine (ok_up (K := fun e => ∃ M, M < 16 ∧ e = nI M ∧ ∀ k, k < 4 → M.testBit k = (am B (B 6 0) k && lo B k)) (B 6 0) (fun j a => a.2 = nI j ∧ ∃ M, M < 16 ∧ a.1 = nI M ∧ ∀ k, k < 4 → M.testBit k = (am B j k && lo B k)) (by omega) ?_ ?_ _ ⟨rfl, 0, by decide, rfl, fun k _ => by simp [am, ff]⟩).mono ?_
  · rintro j ⟨r, x⟩ hj ⟨hx, M, hM, hr, hb⟩
    dsimp only at hx hr ⊢
    subst hx
    subst hr
    rw [if_neg (nI_ge hj (by omega))]
    have hu := hW8 j hj
    have e1 : h 5 0 o (nI j).toNatClampNeg = nI (B 8 j) := by rw [nI_clamp (by omega)]; exact hM8 j hj
    rw [e1]
    refine ok_gd (inb_nI (by omega) (by decide)) ?_
    apply ok_obd
    refine ok_eq (c_loses hC' hH hW' hu) ?_
    refine ok_ite (fun h1 => ?_) (fun h1 => ?_)
    · refine ok_gd (inb_nI (by omega) (by decide)) (ok_bnd (ok_bnd (ok_some ⟨nI_1 j, M ||| 2 ^ B 8 j, (bit_or M hM (B 8 j) (by omega)).1, bit_set M hM (B 8 j) (by omega), fun k hk => ?_⟩)))
      rw [(bit_or M hM (B 8 j) (by omega)).2 k hk, hb k hk, am_s]
      by_cases e : B 8 j = k
      · subst e; simp [h1]
      · rw [beq_eq_false_iff_ne.mpr e]; simp
    · refine ok_bnd (ok_some ⟨nI_1 j, M, hM, rfl, fun k hk => ?_⟩)
      rw [hb k hk, am_s]
      by_cases e : B 8 j = k
      · subst e; simp [h1]
      · rw [beq_eq_false_iff_ne.mpr e]; simp
  · rintro ⟨r, x⟩ ⟨hx, M, hM, hr, hb⟩
    dsimp only at hx hr ⊢
    subst hx
    rw [if_pos (Int32.le_refl _)]
    exact ok_some ⟨M, hM, hr, hb⟩
  · rintro e ⟨M, hM, rfl, hb⟩
    apply ok_obd
    -- those who have dropped: losers below j
    refine (ok_up (K := fun h' => CB0 h' o (fights B) ∧ HL h' o (fights B) ∧ FrB h h' o) (B 2 0) (fun j a => a.1 = nI j ∧ CB0 a.2 o (dr (fun k => decide (k < j) && am B (B 6 0) k) B) ∧ HL a.2 o (dr (fun k => decide (k < j) && am B (B 6 0) k) B) ∧ FrB h a.2 o) (by omega) ?_ ?_ _ ⟨rfl, ?_, ?_, FrB.rf⟩).mono (fun a ha => ok_some ha)
    · rintro j ⟨x, h'⟩ hj ⟨hx, hC2, hH2, hF⟩
      dsimp only at hx hC2 hH2 hF ⊢
      subst hx
      have hj4 : j < 4 := by omega
      have e14 : h' 1 4 o 0 = nI (B 2 0) := by rw [hC2.2.2.1, dr_f (by decide)]
      rw [if_neg (show ¬ h' 1 4 o 0 ≤ nI j by rw [e14]; exact nI_ge hj (by omega))]
      refine ok_ite (fun h0 => ?_) (fun h0 => ?_)
      · -- nobody loses
        have h0 : M = 0 := nI_inj (by omega) (by decide) h0
        subst h0
        have hno : dr (fun k => decide (k < j) && am B (B 6 0) k) B = fights B := by
          refine dr_congr hW' (fun k hk hl => ?_)
          have := hb k (by omega)
          rw [hl] at this
          simp at this
          simp [this]
        rw [hno] at hC2 hH2
        exact ok_some ⟨hC2, hH2, hF⟩
      · have step : ∀ k, (decide (k < j + 1) && am B (B 6 0) k) = ((decide (k < j) && am B (B 6 0) k) || (am B (B 6 0) j && j == k)) := by
          intro k
          by_cases e : j = k
          · subst e; simp
          · have : (decide (k < j + 1)) = decide (k < j) := by rw [decide_eq_decide]; omega
            rw [this]; simp [e]
        refine ok_ite (fun h1 => ?_) (fun h1 => ?_)
        · have h1 := (bit_get M hM j hj4).mp h1
          rw [hb j hj4, Bool.and_eq_true] at h1
          obtain ⟨ha, hl⟩ := h1
          obtain ⟨c, hc⟩ := lo_hd hl
          obtain ⟨c1, c2⟩ := hd_some hc
          refine ok_gd (inb_nI hj4 (by decide)) ?_
          have hh : hd (dr (fun k => decide (k < j) && am B (B 6 0) k) B) j = some c := by
            rw [hd_dr hW' hj, if_neg (by simp), hc]
          have eh : h' 7 4 o (nI j).toNatClampNeg = nI c := by
            rw [nI_clamp (by omega), hH2 j (by rw [dr_f (by decide)]; exact hj), hh]; rfl
          have ep : h' 7 3 o (nI j).toNatClampNeg = nI (B 15 j) := by
            rw [nI_clamp (by omega), (hC2.2.2.2.2.2.2.2.2.2.2 j (by rw [dr_f (by decide)]; exact hj)).2.2.2, dr_f (by decide)]
          refine ok_gd (by rw [eh]; exact inb_nI (by omega) (by decide)) (ok_gd (inb_nI hj4 (by decide)) (ok_bnd (ok_gd (inb_nI hj4 (by decide)) (ok_bnd (ok_bnd (ok_some ?_))))))
          rw [eh, ep]
          have hZ : ∀ k, (decide (k < j + 1) && am B (B 6 0) k) = ((decide (k < j) && am B (B 6 0) k) || j == k) := by
            intro k; rw [step k, ha, Bool.true_and]
          have hadd := dr_add (Z := fun k => decide (k < j) && am B (B 6 0) k) (Z' := fun k => decide (k < j + 1) && am B (B 6 0) k) hW' hj hc hl hZ
          rw [nI_clamp (show c < 2 ^ 31 by omega), nI_clamp (show j < 2 ^ 31 by omega)]
          refine ⟨nI_1 j, ?_, ?_, hF.tr ((FrB.up (by decide)).tr (FrB.up (by decide)))⟩
          · show CB0 _ o (dr (fun k => decide (k < j + 1) && am B (B 6 0) k) B)
            rw [← hadd]
            exact CB0_74 (CB0_62 hC2)
          · intro k' hk'
            have hk2 : k' < B 2 0 := by rw [dr_f (by decide)] at hk'; exact hk'
            have old := hH2 k' (by rw [dr_f (by decide)]; exact hk2)
            rw [hd_dr hW' hk2] at old ⊢
            by_cases e : k' = j
            · subst e
              simp [up, ha, hl, on]
            · have : ¬ j = k' := fun h => e h.symm
              rw [hZ k']
              simp only [up, e, and_false, if_false]
              simp [this]
              simpa using old
        · have h1 : ¬ (M.testBit j = true) := fun h => h1 ((bit_get M hM j hj4).mpr h)
          rw [hb j hj4] at h1
          have hsame : dr (fun k => decide (k < j) && am B (B 6 0) k) B = dr (fun k => decide (k < j + 1) && am B (B 6 0) k) B := by
            refine dr_congr hW' (fun k hk hl => ?_)
            rw [step k]
            by_cases e : j = k
            · subst e
              rw [hl] at h1
              simp at h1
              simp [h1]
            · simp [e]
          rw [hsame] at hC2 hH2
          exact ok_bnd (ok_some ⟨nI_1 j, hC2, hH2, hF⟩)
    · rintro ⟨x, h'⟩ ⟨hx, hC2, hH2, hF⟩
      dsimp only at hx hC2 hH2 hF ⊢
      subst hx
      have e14 : h' 1 4 o 0 = nI (B 2 0) := by rw [hC2.2.2.1, dr_f (by decide)]
      rw [if_pos (show h' 1 4 o 0 ≤ nI (B 2 0) by rw [e14]; exact Int32.le_refl _)]
      have hall : dr (fun k => decide (k < B 2 0) && am B (B 6 0) k) B = fights B := dr_congr hW' (fun k hk _ => by simp [hk])
      rw [hall] at hC2 hH2
      exact ok_some ⟨hC2, hH2, hF⟩
    · dsimp only; rw [dr_none (fun k => by simp)]; exact hC'
    · dsimp only; rw [dr_none (fun k => by simp)]; exact hH
end Cls
