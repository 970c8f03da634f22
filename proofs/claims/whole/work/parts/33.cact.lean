section Cls
variable {h : Mem} {o : Nat} {B : Bs} {S : Nat}
theorem c_holds (hH : HL h o B) (hW : WF S B) {k : Nat} (hk : k < B 2 0) : f_X2_holds o k h = some (hd B k).isSome := by
  unfold f_X2_holds
  rw [hH k hk]
  cases hz : hd B k with
  | none => rfl
  | some c =>
    have hn := hW.2.1
    rw [if_neg (show ¬ on (-1) (some c) = -1 from nI_neg1 (by have := (hd_some hz).1; omega))]
    rfl
theorem c_isFitBy (hC : CB0 h o B) (hW : WF S B) {c k : Nat} (hc : c < B 1 0) (hk : k < B 2 0) : f_X2_isFitBy o k o c h = some (fit B c k) := by
  obtain ⟨hM0, hM1, hM2, hM3, hM4, hM5, hM6, hM7, hM8, hM9, hM10⟩ := hC
  obtain ⟨hW0, hW1, hW2, hW3, hW4, hW5, hW6, hW7, hW8, hW9, hW10, hW11, hW12⟩ := hW
  apply Ok.eqv
  unfold f_X2_isFitBy
  have b1 := (hW10 c hc).1
  have b2 := (hW10 c hc).2.1
  have b3 := (hW12 k hk).1
  rw [(hM9 c hc).2.1, (hM9 c hc).1, (hM10 k hk).1]
  refine ok_ite (fun h0 => ?_) (fun h0 => ?_)
  · have h0 : B 10 c = 0 := nI_inj (by omega) (by decide) h0
    refine ok_ite (fun h1 => ?_) (fun h1 => ?_)
    · have h1 := nI_inj (by omega) (by omega) h1
      exact ok_some (by simp [fit, h0, h1])
    · rw [nI_dec b3.1]
      refine ok_ite (fun h2 => ?_) (fun h2 => ?_)
      · have h2 := nI_inj (by omega) (by omega) h2
        exact ok_some (by simp [fit, h0]; omega)
      · refine ok_some ?_
        have h1 : ¬ B 9 c = B 12 k := fun e => h1 (by rw [e])
        have h2 : ¬ B 9 c = B 12 k - 1 := fun e => h2 (by rw [e])
        simp [fit, h0]; omega
  · have h0 : ¬ B 10 c = 0 := fun e => h0 (by rw [e]; rfl)
    exact ok_some (by simp [fit, h0])
theorem c_walk (hC : CB0 h o B) (hW : WF S B) {k : Nat} (hk : k < B 2 0) : f_X2_walk o k (nI (B 0 0)) h = some (up h 7 3 o k (nI (wlk B k))) := by
  obtain ⟨hM0, hM1, hM2, hM3, hM4, hM5, hM6, hM7, hM8, hM9, hM10⟩ := hC
  obtain ⟨hW0, hW1, hW2, hW3, hW4, hW5, hW6, hW7, hW8, hW9, hW10, hW11, hW12⟩ := hW
  obtain ⟨p1, p2, p3, p4⟩ := hM10 k hk
  obtain ⟨q1, q2, q3, q4⟩ := hW12 k hk
  apply Ok.eqv
  unfold f_X2_walk
  rw [p3, p4]
  refine ok_ite (fun h0 => ?_) (fun h0 => ?_)
  · have h0 : B 14 k = 0 := nI_inj (by omega) (by decide) h0
    apply ok_obd
    refine ok_ite (fun h1 => ?_) (fun h1 => ?_)
    · have h1 : B 15 k = 0 := nI_inj (by omega) (by decide) h1
      refine ok_some (ok_bnd (ok_some ?_))
      rw [nI_dec (by omega)]
      unfold wlk; rw [if_pos h0, if_pos h1]
    · have h1 : ¬ B 15 k = 0 := fun e => h1 (by rw [e]; rfl)
      refine ok_some (ok_bnd (ok_some ?_))
      rw [nI_dec (by omega)]
      unfold wlk; rw [if_pos h0, if_neg h1]
  · have h0 : ¬ B 14 k = 0 := fun e => h0 (by rw [e]; rfl)
    apply ok_obd
    rw [nI_1]
    refine ok_ite (fun h1 => ?_) (fun h1 => ?_)
    · have h1 : B 15 k + 1 = B 0 0 := nI_inj (by omega) (by omega) h1
      refine ok_some (ok_bnd (ok_some ?_))
      unfold wlk; rw [if_neg h0, if_pos h1]; rfl
    · have h1 : ¬ B 15 k + 1 = B 0 0 := fun e => h1 (by rw [e])
      refine ok_some (ok_bnd (ok_some ?_))
      unfold wlk; rw [if_neg h0, if_neg h1]
theorem c_firstFitting (hC : CB0 h o B) (hW : WF S B) {k : Nat} (hk : k < B 2 0) : f_X0_firstFitting o o k h = some (on (-1) (lyf B k)) := by
  have hC' := hC
  have hW' := hW
  obtain ⟨hM0, hM1, hM2, hM3, hM4, hM5, hM6, hM7, hM8, hM9, hM10⟩ := hC
  obtain ⟨hW0, hW1, hW2, hW3, hW4, hW5, hW6, hW7, hW8, hW9, hW10, hW11, hW12⟩ := hW
  obtain ⟨p1, p2, p3, p4⟩ := hM10 k hk
  obtain ⟨q1, q2, q3, q4⟩ := hW12 k hk
  apply Ok.eqv
  unfold f_X0_firstFitting
  apply ok_obd
  rw [hM1, p4]
  refine (ok_up (K := Sum.elim (fun r => r = on (-1) (lyf B k)) (fun _ => lyf B k = none)) (B 1 0) (fun j a => a = nI j ∧ ∀ c, c < j → (B 11 c == B 15 k && fit B c k) = false) (by omega) ?_ ?_ _ ⟨rfl, fun c hc => by omega⟩).mono ?_
  · rintro j a hj ⟨rfl, hf⟩
    rw [if_neg (nI_ge hj (by omega))]
    refine ok_gd (inb_nI (by omega) (by decide)) ?_
    have hb := wok_lt hW2 (hW10 j hj).2.2
    have e1 : h 6 2 o (nI j).toNatClampNeg = nI (B 11 j) := by rw [nI_clamp (by omega)]; exact (hM9 j hj).2.2
    rw [e1]
    refine ok_ite (fun hc => ?_) (fun hc => ?_)
    · have hc := nI_inj (by omega) (by omega) hc
      refine ok_gd (inb_nI (by omega) (by decide)) ?_
      apply ok_obd
      rw [nI_clamp (by omega)]
      refine ok_eq (c_isFitBy hC' hW' hj hk) ?_
      refine ok_ite (fun h1 => ?_) (fun h1 => ?_)
      · refine ok_some ?_
        show nI j = on (-1) (lyf B k)
        rw [show lyf B k = some j from ff_some.mpr ⟨hj, by simp [hc, h1], hf⟩]
        rfl
      · refine ok_bnd (ok_some ⟨nI_1 j, fun c hc' => ?_⟩)
        rcases Nat.lt_succ_iff_lt_or_eq.mp hc' with g | g
        · exact hf c g
        · subst g; simp [h1]
    · refine ok_bnd (ok_some ⟨nI_1 j, fun c hc' => ?_⟩)
      rcases Nat.lt_succ_iff_lt_or_eq.mp hc' with g | g
      · exact hf c g
      · subst g
        simp only [Bool.and_eq_false_iff, beq_eq_false_iff_ne]
        exact Or.inl (fun e => hc (by rw [e]))
  · rintro a ⟨rfl, hf⟩
    rw [if_pos (Int32.le_refl _)]
    exact ok_some (ff_none.mpr hf)
  · intro z hz
    cases z with
    | inl r => exact ok_some hz
    | inr u =>
      refine ok_some ?_
      have hz : lyf B k = none := hz
      rw [hz]; rfl
theorem c_act (hC : CB0 h o B) (hH : HL h o B) (hW : WF S B) {k : Nat} (hk : k < B 2 0) : Ok (f_X0_act o (nI k) h) (fun h' => CB0 h' o (act B k) ∧ HL h' o (act B k) ∧ FrB h h' o) := by
  have hC' := hC
  have hW' := hW
  obtain ⟨hM0, hM1, hM2, hM3, hM4, hM5, hM6, hM7, hM8, hM9, hM10⟩ := hC
  obtain ⟨hW0, hW1, hW2, hW3, hW4, hW5, hW6, hW7, hW8, hW9, hW10, hW11, hW12⟩ := hW
  obtain ⟨p1, p2, p3, p4⟩ := hM10 k hk
  obtain ⟨q1, q2, q3, q4⟩ := hW12 k hk
  have q5 := hW7 (B 15 k) (by omega)
  unfold f_X0_act
  refine ok_gd (inb_nI (by omega) (by decide)) ?_
  rw [nI_clamp (by omega)]
  apply ok_obd
  refine ok_eq (c_holds hH hW' hk) ?_
  rw [p4, p2, hM0]
  have walk : act B k = ub B 15 k (wlk B k) → Ok (obd (f_X2_walk o k (nI (B 0 0)) h) (fun h8 => some h8)) (fun h' => CB0 h' o (act B k) ∧ HL h' o (act B k) ∧ FrB h h' o) := by
    intro ha
    apply ok_obd
    refine ok_eq (c_walk hC' hW' hk) (ok_some ?_)
    rw [ha]
    refine ⟨CB0_73 hC', fun k' hk' => ?_, FrB.up (by decide)⟩
    rw [hd_15]
    have : k' < B 2 0 := by simpa [ub] using hk'
    simpa [up] using hH k' this
  cases hz : hd B k with
  | some c =>
    obtain ⟨c1, c2⟩ := hd_some hz
    rw [if_pos (show (some c).isSome = true from rfl)]
    refine ok_gd (inb_nI (by omega) (by decide)) ?_
    have e4 : h 2 0 o (nI (B 15 k)).toNatClampNeg = nI (B 7 (B 15 k)) := by rw [nI_clamp (by omega)]; exact hM7 _ (by omega)
    rw [e4]
    have hact : act B k = if B 13 k ≤ B 7 (B 15 k) then ub B 11 c (20 + B 15 k) else ub B 15 k (wlk B k) := by unfold act; rw [hz]
    refine ok_ite (fun h1 => ?_) (fun h1 => ?_)
    · have h1 := (nI_ltI (by omega) (by omega)).mp h1
      exact walk (by rw [hact, if_neg (by omega)])
    · have h1 : ¬ B 7 (B 15 k) < B 13 k := fun h => h1 ((nI_ltI (by omega) (by omega)).mpr h)
      rw [hH k hk, hz]
      refine ok_gd (inb_nI (by omega) (by decide)) (ok_bnd (ok_bnd (ok_some ?_)))
      rw [show (on (-1) (some c)).toNatClampNeg = c from nI_clamp (by omega), nI_twenty, hact, if_pos (by omega)]
      refine ⟨CB0_74 (CB0_62 hC'), fun k' hk' => ?_, (FrB.up (by decide)).tr (FrB.up (by decide))⟩
      have hk2 : k' < B 2 0 := by simpa [ub] using hk'
      by_cases e : k' = k
      · subst e
        rw [hd_gone hW' hk hz (by omega)]
        simp [up, on]
      · rw [hd_ne (by omega) (by rw [c2]; omega)]
        simpa [up, e] using hH k' hk2
  | none =>
    rw [if_neg (show ¬ (none : Option Nat).isSome = true by simp)]
    apply ok_obd
    refine ok_eq (c_firstFitting hC' hW' hk) ?_
    cases hy : lyf B k with
    | none =>
      rw [if_pos (show on (-1) none = -1 from rfl)]
      exact walk (by unfold act; rw [hz, hy])
    | some c =>
      obtain ⟨c1, c2⟩ := lyf_some hy
      have hact : act B k = ub B 11 c (10 + k) := by unfold act; rw [hz, hy]
      rw [if_neg (show ¬ on (-1) (some c) = -1 from nI_neg1 (by omega))]
      refine ok_gd (inb_nI (by omega) (by decide)) (ok_bnd (ok_bnd (ok_some ?_)))
      rw [show (on (-1) (some c)).toNatClampNeg = c from nI_clamp (by omega), nI_ten, hact]
      refine ⟨CB0_74 (CB0_62 hC'), fun k' hk' => ?_, (FrB.up (by decide)).tr (FrB.up (by decide))⟩
      have hk2 : k' < B 2 0 := by simpa [ub] using hk'
      by_cases e : k' = k
      · subst e
        rw [hd_new hz c1]
        simp [up]
      · rw [hd_ne (by omega) (by omega)]
        simpa [up, e] using hH k' hk2
end Cls
