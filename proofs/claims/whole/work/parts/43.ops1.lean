theorem m64_0 : (0 : Int64) = (nI 0).toInt64 := by decide
theorem m64_1 : (1 : Int64) = (nI 1).toInt64 := by decide
theorem m64_2 : (2 : Int64) = (nI 2).toInt64 := by decide
theorem m64_3 : (3 : Int64) = (nI 3).toInt64 := by decide
theorem m64_7 : (7 : Int64) = (nI 7).toInt64 := by decide
theorem m64_8 : (8 : Int64) = (nI 8).toInt64 := by decide
theorem m64_9 : (9 : Int64) = (nI 9).toInt64 := by decide
theorem m64_10 : (10 : Int64) = (nI 10).toInt64 := by decide
theorem m64_13 : (13 : Int64) = (nI 13).toInt64 := by decide
theorem m64_20 : (20 : Int64) = (nI 20).toInt64 := by decide
theorem m64_27 : (27 : Int64) = (nI 27).toInt64 := by decide
theorem m64_60 : (60 : Int64) = (nI 60).toInt64 := by decide
theorem nI_le_s1 {i n : Nat} (hi : i < 2 ^ 31) (hn : n < 2 ^ 30) : (nI i ≤ nI n - nI 1) ↔ i < n := by
  rw [le_toInt, show (nI n - nI 1 : Int32) = nI n - 1 from rfl, toInt_sub1 hn, nI_toInt hi]; omega
theorem win1 {x : Int32} {n : Nat} (hn : n < 2 ^ 30) : (nI 0 ≤ x ∧ x ≤ nI n - nI 1) ↔ inb x n := win_inb hn
theorem rng {p : Int32} {a b : Nat} (ha : a < 2 ^ 31) (hb : b < 2 ^ 31) (h : nI a ≤ p ∧ p ≤ nI b) : ∃ v, a ≤ v ∧ v ≤ b ∧ p = nI v := by
  have h1 := le_toInt.mp h.1
  have h2 := le_toInt.mp h.2
  rw [nI_toInt ha] at h1
  rw [nI_toInt hb] at h2
  have h0 : (0 : Int32).toInt = 0 := by decide
  obtain ⟨j, hj, rfl⟩ := nI_of (x := p) (by rw [lt_toInt]; omega)
  rw [nI_toInt hj] at h1 h2
  exact ⟨j, by omega, by omega, rfl⟩
theorem i2b_n {v : Nat} (h : v ≤ 1) : i2b (nI v) = some (v == 1) := by
  have : v = 0 ∨ v = 1 := by omega
  rcases this with rfl | rfl <;> decide
theorem b2i_n {v : Nat} (h : v ≤ 1) : b2i (v == 1) = nI v := by
  have : v = 0 ∨ v = 1 := by omega
  rcases this with rfl | rfl <;> decide
theorem b2i_b (b : Bool) : b2i b = nI (if b = true then 1 else 0) := by cases b <;> rfl
theorem ub_n {B : Bs} {f i v f' i' : Nat} (h : f' ≠ f) : ub B f i v f' i' = B f' i' := by unfold ub; rw [if_neg (by omega)]
section Ops
variable {h : Mem} {B T : Bs}
theorem RI_up {k j i p f v : Nat} (hK : KN h B T) (hR : RN h B T) (hW : WN B T) (hRs : RST h) (hC' : CB0 (up h k j 0 i (nI v)) 0 (ub B f i v)) (hkj : 1 ≤ k ∧ k ≤ 7 ∧ ¬ (k = 7 ∧ j = 4)) (hf : f ≠ 0 ∧ f ≠ 1 ∧ f ≠ 2 ∧ f ≠ 6 ∧ f ≠ 8 ∧ f ≠ 11) (hp : p < 46) (hSN' : SN (up h 25 0 0 p (nI v) 25 0 0) (ub B f i v)) (hWF : WF 999 (ub B f i v)) : RI (up (up h k j 0 i (nI v)) 25 0 0 p (nI v)) := by
  obtain ⟨hC, hH, hS⟩ := hK
  obtain ⟨⟨hSN, hm0, hm2⟩, hT⟩ := hR
  obtain ⟨hW1, hO, hWT⟩ := hW
  obtain ⟨f0, f1, f2, f6, f8, f11⟩ := hf
  refine ⟨ub B f i v, T, ⟨?_, ?_, ?_⟩, ⟨⟨?_, ?_, ?_⟩, ?_⟩, ⟨hWF, NO_ub hO ⟨f2, f6, f8⟩, ?_⟩, ?_⟩
  · exact CB0_fr hC' (fun k' j' i' a b => up_o (by omega))
  · have := HL_up (k := k) (j := j) (i := i) (v := nI v) (B' := ub B f i v) hH hkj.2.2 (ub_n (by omega)) (ub_n (by omega)) (fun c _ => ub_n (by omega))
    exact HL_fr this (fun k' j' i' a b => up_o (by omega))
  · exact CSg_fr hS (fun k' j' i' a b => by rw [up_o (by omega), up_o (by omega)])
  · refine SN_fr ?_ ?_ hSN' (fun m hm => ?_)
    · rw [ub_n (by omega)]; exact hW1.2.1
    · rw [ub_n (by omega)]; exact hW1.2.2.1
    · by_cases e : m = p
      · subst e; rw [up_s, up_s]
      · rw [up_o (by omega), up_o (by omega), up_o (by omega)]
  · rw [up_o (by omega), up_o (by omega), ub_n (by omega)]; exact hm0
  · rw [up_o (by omega), up_o (by omega), ub_n (by omega)]; exact hm2
  · exact TN_fr hWT.1 hT (fun m h1 h2 => by rw [up_o (by omega), up_o (by omega)])
  · refine ⟨hWT.1, fun m hm => ?_⟩
    rw [ub_n (by omega)]; exact hWT.2 m hm
  · exact RST_fr hRs ((FR.up (by unfold rst; omega)).tr (FR.up (by unfold rst; omega)))
theorem c_countBetween {o S : Nat} (hC : CB0 h o B) (hW : WF S B) (a b : Int32) : f_X0_countBetween o a b h = some (nI (cnt (fun c => decide (a ≤ nI (B 11 c) ∧ nI (B 11 c) ≤ b)) (B 1 0))) := by
  apply Ok.eqv
  have hn := hW.2.1
  have h1 := hC.2.1
  unfold f_X0_countBetween
  rw [wp_obd]
  refine (ok_up (K := fun e => e = nI (cnt (fun c => decide (a ≤ nI (B 11 c) ∧ nI (B 11 c) ≤ b)) (B 1 0))) (B 1 0) (fun j z => z.2 = nI j ∧ z.1 = nI (cnt (fun c => decide (a ≤ nI (B 11 c) ∧ nI (B 11 c) ≤ b)) j)) (by omega) ?_ ?_ _ ⟨rfl, rfl⟩).mono (fun a ha => wp_some.mpr ha)
  · rintro j ⟨b, x⟩ hj ⟨hx, hb⟩
    dsimp only at hx hb
    subst hx
    subst hb
    have e := (hC.2.2.2.2.2.2.2.2.2.1 j hj).2.2
    simp (disch := omega) only [wp_some, wp_obd, wp_ob2, wp_bnd, wp_gd, wp_ite, wp_true, wp_ff, ↓l_n1, ↓l_n2, ↓l_n3, ↓l_n4, ↓l_n10, ↓l_n20, l_0, l_1, l_2, l_3, l_4, l_5, l_6, l_7, l_8, l_9, l_10, l_13, l_14, l_15, l_16, l_20, l_21, l_24, l_27, l_28, l_30, l_31, l_32, l_35, l_36, l_39, l_40, l_41, l_43, l_44, l_45, l_46, l_47, l_48, l_49, l_56, l_57, l_59, l_60, l_79, l_97, l_122, l_160, l_237, l_255, l_320, l_999, l_1000, nI_add, pk_mul, nI_eq, nI_leI, nI_ltI, nI_clamp, inb_nI_iff, e_within, e_in32, e_asNumber, e_flag, decide_eq_true_eq, Sum.elim_inl, Sum.elim_inr, true_implies, not_true_eq_false, not_false_eq_true, false_implies, and_true, true_and, nI_nn, nn_nI, nn_nn, ↓reduceIte, if_true, if_false, Nat.le_refl, implies_true, Nat.lt_irrefl, and_self_left, h1, e, cnt]
    repeat' (with_reducible (first | apply And.intro | intro _))
    all_goals first | omega | (simp [*])
  · rintro ⟨b, x⟩ ⟨hx, hb⟩
    dsimp only at hx hb
    subst hx
    subst hb
    simp (disch := omega) only [wp_some, wp_obd, wp_ob2, wp_bnd, wp_gd, wp_ite, wp_true, wp_ff, ↓l_n1, ↓l_n2, ↓l_n3, ↓l_n4, ↓l_n10, ↓l_n20, l_0, l_1, l_2, l_3, l_4, l_5, l_6, l_7, l_8, l_9, l_10, l_13, l_14, l_15, l_16, l_20, l_21, l_24, l_27, l_28, l_30, l_31, l_32, l_35, l_36, l_39, l_40, l_41, l_43, l_44, l_45, l_46, l_47, l_48, l_49, l_56, l_57, l_59, l_60, l_79, l_97, l_122, l_160, l_237, l_255, l_320, l_999, l_1000, nI_add, pk_mul, nI_eq, nI_leI, nI_ltI, nI_clamp, inb_nI_iff, e_within, e_in32, e_asNumber, e_flag, decide_eq_true_eq, Sum.elim_inl, Sum.elim_inr, true_implies, not_true_eq_false, not_false_eq_true, false_implies, and_true, true_and, nI_nn, nn_nI, nn_nn, ↓reduceIte, if_true, if_false, Nat.le_refl, implies_true, Nat.lt_irrefl, and_self_left, h1]
theorem m_manyAt {S : Nat} (hM : SN (h 25 0 0) B) (hW : WF S B) (v : Int32) : f_X10_manyAt v h = some (nI (cnt (fun c => decide (nI (B 11 c) = v)) (B 1 0))) := by
  apply Ok.eqv
  have hn := hW.2.1
  have h1 := hM.2.1
  unfold f_X10_manyAt
  rw [wp_obd]
  refine (ok_up (K := fun e => e = nI (cnt (fun c => decide (nI (B 11 c) = v)) (B 1 0))) (B 1 0) (fun j z => z.2 = nI j ∧ z.1 = nI (cnt (fun c => decide (nI (B 11 c) = v)) j)) (by omega) ?_ ?_ _ ⟨rfl, rfl⟩).mono (fun a ha => wp_some.mpr ha)
  · rintro j ⟨b, x⟩ hj ⟨hx, hb⟩
    dsimp only at hx hb
    subst hx
    subst hb
    have e := (hM.2.2.1 j hj).2.2
    simp (disch := omega) only [wp_some, wp_obd, wp_ob2, wp_bnd, wp_gd, wp_ite, wp_true, wp_ff, ↓l_n1, ↓l_n2, ↓l_n3, ↓l_n4, ↓l_n10, ↓l_n20, l_0, l_1, l_2, l_3, l_4, l_5, l_6, l_7, l_8, l_9, l_10, l_13, l_14, l_15, l_16, l_20, l_21, l_24, l_27, l_28, l_30, l_31, l_32, l_35, l_36, l_39, l_40, l_41, l_43, l_44, l_45, l_46, l_47, l_48, l_49, l_56, l_57, l_59, l_60, l_79, l_97, l_122, l_160, l_237, l_255, l_320, l_999, l_1000, nI_add, pk_mul, nI_eq, nI_leI, nI_ltI, nI_clamp, inb_nI_iff, e_within, e_in32, e_asNumber, e_flag, decide_eq_true_eq, Sum.elim_inl, Sum.elim_inr, true_implies, not_true_eq_false, not_false_eq_true, false_implies, and_true, true_and, nI_nn, nn_nI, nn_nn, ↓reduceIte, if_true, if_false, Nat.le_refl, implies_true, Nat.lt_irrefl, and_self_left, h1, e, cnt, b2i_b]
    repeat' (with_reducible (first | apply And.intro | intro _))
    all_goals first | omega | (simp [*])
  · rintro ⟨b, x⟩ ⟨hx, hb⟩
    dsimp only at hx hb
    subst hx
    subst hb
    simp (disch := omega) only [wp_some, wp_obd, wp_ob2, wp_bnd, wp_gd, wp_ite, wp_true, wp_ff, ↓l_n1, ↓l_n2, ↓l_n3, ↓l_n4, ↓l_n10, ↓l_n20, l_0, l_1, l_2, l_3, l_4, l_5, l_6, l_7, l_8, l_9, l_10, l_13, l_14, l_15, l_16, l_20, l_21, l_24, l_27, l_28, l_30, l_31, l_32, l_35, l_36, l_39, l_40, l_41, l_43, l_44, l_45, l_46, l_47, l_48, l_49, l_56, l_57, l_59, l_60, l_79, l_97, l_122, l_160, l_237, l_255, l_320, l_999, l_1000, nI_add, pk_mul, nI_eq, nI_leI, nI_ltI, nI_clamp, inb_nI_iff, e_within, e_in32, e_asNumber, e_flag, decide_eq_true_eq, Sum.elim_inl, Sum.elim_inr, true_implies, not_true_eq_false, not_false_eq_true, false_implies, and_true, true_and, nI_nn, nn_nI, nn_nn, ↓reduceIte, if_true, if_false, Nat.le_refl, implies_true, Nat.lt_irrefl, and_self_left, h1]
theorem o_dig (x v : Int32) (hR : RI h) : Ok (f_X9_dig x v h) (fun q => Ok (f_X10_dig x v q.2) (fun r => q.1 = r.1 ∧ RI r.2)) := by
  have hR0 := hR
  obtain ⟨B, T, hK, hN, hW, hRs⟩ := hR
  obtain ⟨hM0, hM1, hM2, hM3, hM4, hM5, hM6, hM7, hM8, hM9, hM10⟩ := hK.1
  obtain ⟨⟨⟨s0, s1, s2, s3, s4, s5, s6⟩, n0, n2⟩, hT⟩ := id hN
  have w0 := hW.1.1
  have w1 := hW.1.2.1
  have w2 := hW.1.2.2.1
  unfold f_X9_dig f_X10_dig f_X9_isPlace f_X10_isPlace
  by_cases hx : inb x (B 0 0)
  · obtain ⟨i, hi, rfl⟩ := inb_of hx (by omega)
    by_cases hv : nI 0 ≤ v ∧ v ≤ nI 9
    · obtain ⟨d, -, hd, rfl⟩ := rng (by decide) (by decide) hv
      obtain ⟨N, hNl, e1, e2⟩ : ∃ N, N ≤ 6 ∧ f_X0_countBetween 0 (nI (20 + i)) (nI (20 + i)) h = some (nI N) ∧ (∀ h', SN (h' 25 0 0) B → f_X10_manyAt (nI (20 + i)) h' = some (nI N)) := by
        refine ⟨_, ?_, c_countBetween hK.1 hW.1 _ _, fun h' hS => ?_⟩
        · exact Nat.le_trans cnt_le w1
        · rw [m_manyAt hS hW.1]
          congr 2
          refine cnt_congr (fun c hc => ?_)
          rw [decide_eq_decide]
          constructor
          · intro e; rw [e]; exact ⟨Int32.le_refl _, Int32.le_refl _⟩
          · rintro ⟨a, b⟩; exact Int32.le_antisymm b a
      have e3 := e2 h hN.1.1
      have e4 := e2 (up h 2 0 0 i (nI d)) (SN_fr w1 w2 hN.1.1 (fun m _ => up_o (by omega)))
      have e7 := hM7 i (by omega)
      have f7 := s0 i (by omega)
      have hRI : RI (up (up h 2 0 0 i (nI d)) 25 0 0 i (nI d)) := RI_up (f := 7) hK hN hW hRs (CB_7 hK.1) (by decide) (by decide) (by omega) (SN_7 hN.1.1 w1 w2 (by omega) up_s (fun m hm => up_o (by omega))) (WF_7 hW.1 hd)
      unfold f_X10_becomes
      simp (disch := omega) only [wp_some, wp_obd, wp_ob2, wp_bnd, wp_gd, wp_ite, wp_true, wp_ff, ↓l_n1, ↓l_n2, ↓l_n3, ↓l_n4, ↓l_n10, ↓l_n20, l_0, l_1, l_2, l_3, l_4, l_5, l_6, l_7, l_8, l_9, l_10, l_13, l_14, l_15, l_16, l_20, l_21, l_24, l_27, l_28, l_30, l_31, l_32, l_35, l_36, l_39, l_40, l_41, l_43, l_44, l_45, l_46, l_47, l_48, l_49, l_56, l_57, l_59, l_60, l_79, l_97, l_122, l_160, l_237, l_255, l_320, l_999, l_1000, nI_add, pk_mul, nI_eq, nI_leI, nI_ltI, nI_clamp, inb_nI_iff, e_within, e_in32, e_asNumber, e_flag, decide_eq_true_eq, Sum.elim_inl, Sum.elim_inr, true_implies, not_true_eq_false, not_false_eq_true, false_implies, and_true, true_and, nI_nn, nn_nI, nn_nn, ↓reduceIte, if_true, if_false, Nat.le_refl, implies_true, Nat.lt_irrefl, and_self_left, win1, nI_le_s1, Nat.zero_le, up_s, up_o, Nat.zero_add, m64_0, m64_1, m64_2, m64_3, m64_7, m64_8, m64_9, m64_10, m64_13, m64_20, m64_27, m64_60, hM0, n0, hi, hd, e1, e3, e4, e7, f7]
      repeat' (with_reducible (first | apply And.intro | intro _))
      all_goals first | omega | exact hR0 | exact hRI
    · simp (disch := omega) only [wp_some, wp_obd, wp_ob2, wp_bnd, wp_gd, wp_ite, wp_true, wp_ff, ↓l_n1, ↓l_n2, ↓l_n3, ↓l_n4, ↓l_n10, ↓l_n20, l_0, l_1, l_2, l_3, l_4, l_5, l_6, l_7, l_8, l_9, l_10, l_13, l_14, l_15, l_16, l_20, l_21, l_24, l_27, l_28, l_30, l_31, l_32, l_35, l_36, l_39, l_40, l_41, l_43, l_44, l_45, l_46, l_47, l_48, l_49, l_56, l_57, l_59, l_60, l_79, l_97, l_122, l_160, l_237, l_255, l_320, l_999, l_1000, nI_add, pk_mul, nI_eq, nI_leI, nI_ltI, nI_clamp, inb_nI_iff, e_within, e_in32, e_asNumber, e_flag, decide_eq_true_eq, Sum.elim_inl, Sum.elim_inr, true_implies, not_true_eq_false, not_false_eq_true, false_implies, and_true, true_and, nI_nn, nn_nI, nn_nn, ↓reduceIte, if_true, if_false, Nat.le_refl, implies_true, Nat.lt_irrefl, and_self_left, win1, nI_le_s1, Nat.zero_le, up_s, up_o, Nat.zero_add, m64_0, m64_1, m64_2, m64_3, m64_7, m64_8, m64_9, m64_10, m64_13, m64_20, m64_27, m64_60, hM0, n0, hv, hi]
      exact hR0
  · simp (disch := omega) only [wp_some, wp_obd, wp_ob2, wp_bnd, wp_gd, wp_ite, wp_true, wp_ff, ↓l_n1, ↓l_n2, ↓l_n3, ↓l_n4, ↓l_n10, ↓l_n20, l_0, l_1, l_2, l_3, l_4, l_5, l_6, l_7, l_8, l_9, l_10, l_13, l_14, l_15, l_16, l_20, l_21, l_24, l_27, l_28, l_30, l_31, l_32, l_35, l_36, l_39, l_40, l_41, l_43, l_44, l_45, l_46, l_47, l_48, l_49, l_56, l_57, l_59, l_60, l_79, l_97, l_122, l_160, l_237, l_255, l_320, l_999, l_1000, nI_add, pk_mul, nI_eq, nI_leI, nI_ltI, nI_clamp, inb_nI_iff, e_within, e_in32, e_asNumber, e_flag, decide_eq_true_eq, Sum.elim_inl, Sum.elim_inr, true_implies, not_true_eq_false, not_false_eq_true, false_implies, and_true, true_and, nI_nn, nn_nI, nn_nn, ↓reduceIte, if_true, if_false, Nat.le_refl, implies_true, Nat.lt_irrefl, and_self_left, win1, nI_le_s1, Nat.zero_le, up_s, up_o, Nat.zero_add, m64_0, m64_1, m64_2, m64_3, m64_7, m64_8, m64_9, m64_10, m64_13, m64_20, m64_27, m64_60, hM0, n0, hx]
    exact hR0
theorem o_set (x v : Int32) (hR : RI h) : Ok (f_X9_set x v h) (fun q => Ok (f_X10_set x v q.2) (fun r => q.1 = r.1 ∧ RI r.2)) := by
  have hR0 := hR
  obtain ⟨B, T, hK, hN, hW, hRs⟩ := hR
  obtain ⟨hM0, hM1, hM2, hM3, hM4, hM5, hM6, hM7, hM8, hM9, hM10⟩ := hK.1
  obtain ⟨⟨⟨s0, s1, s2, s3, s4, s5, s6⟩, n0, n2⟩, hT⟩ := id hN
  have w0 := hW.1.1
  have w1 := hW.1.2.1
  have w2 := hW.1.2.2.1
  unfold f_X9_set f_X10_set f_X9_isPlace f_X10_isPlace f_X9_isCrab f_X10_isCrab
  by_cases hx : inb x (B 2 0)
  · obtain ⟨i, hi, rfl⟩ := inb_of hx (by omega)
    by_cases hv : inb v (B 0 0)
    · obtain ⟨d, hd, rfl⟩ := inb_of hv (by omega)
      have e7 := (hM10 i hi).2.2.2
      have f7 := (s3 i hi).2.2.2
      have hRI : RI (up (up h 7 3 0 i (nI d)) 25 0 0 (39 + i) (nI d)) := RI_up (f := 15) hK hN hW hRs (CB0_73 hK.1) (by decide) (by decide) (by omega) (SN_15 hN.1.1 w1 w2 (by omega) up_s (fun m hm => up_o (by omega))) (WF_15 hW.1 hd)
      unfold f_X10_becomes
      simp (disch := omega) only [wp_some, wp_obd, wp_ob2, wp_bnd, wp_gd, wp_ite, wp_true, wp_ff, ↓l_n1, ↓l_n2, ↓l_n3, ↓l_n4, ↓l_n10, ↓l_n20, l_0, l_1, l_2, l_3, l_4, l_5, l_6, l_7, l_8, l_9, l_10, l_13, l_14, l_15, l_16, l_20, l_21, l_24, l_27, l_28, l_30, l_31, l_32, l_35, l_36, l_39, l_40, l_41, l_43, l_44, l_45, l_46, l_47, l_48, l_49, l_56, l_57, l_59, l_60, l_79, l_97, l_122, l_160, l_237, l_255, l_320, l_999, l_1000, nI_add, pk_mul, nI_eq, nI_leI, nI_ltI, nI_clamp, inb_nI_iff, e_within, e_in32, e_asNumber, e_flag, decide_eq_true_eq, Sum.elim_inl, Sum.elim_inr, true_implies, not_true_eq_false, not_false_eq_true, false_implies, and_true, true_and, nI_nn, nn_nI, nn_nn, ↓reduceIte, if_true, if_false, Nat.le_refl, implies_true, Nat.lt_irrefl, and_self_left, win1, nI_le_s1, Nat.zero_le, up_s, up_o, Nat.zero_add, m64_0, m64_1, m64_2, m64_3, m64_7, m64_8, m64_9, m64_10, m64_13, m64_20, m64_27, m64_60, hM0, n0, hM2, n2, hi, hd, e7, f7]
      repeat' (with_reducible (first | apply And.intro | intro _))
      all_goals first | omega | exact hR0 | exact hRI
    · simp (disch := omega) only [wp_some, wp_obd, wp_ob2, wp_bnd, wp_gd, wp_ite, wp_true, wp_ff, ↓l_n1, ↓l_n2, ↓l_n3, ↓l_n4, ↓l_n10, ↓l_n20, l_0, l_1, l_2, l_3, l_4, l_5, l_6, l_7, l_8, l_9, l_10, l_13, l_14, l_15, l_16, l_20, l_21, l_24, l_27, l_28, l_30, l_31, l_32, l_35, l_36, l_39, l_40, l_41, l_43, l_44, l_45, l_46, l_47, l_48, l_49, l_56, l_57, l_59, l_60, l_79, l_97, l_122, l_160, l_237, l_255, l_320, l_999, l_1000, nI_add, pk_mul, nI_eq, nI_leI, nI_ltI, nI_clamp, inb_nI_iff, e_within, e_in32, e_asNumber, e_flag, decide_eq_true_eq, Sum.elim_inl, Sum.elim_inr, true_implies, not_true_eq_false, not_false_eq_true, false_implies, and_true, true_and, nI_nn, nn_nI, nn_nn, ↓reduceIte, if_true, if_false, Nat.le_refl, implies_true, Nat.lt_irrefl, and_self_left, win1, nI_le_s1, Nat.zero_le, up_s, up_o, Nat.zero_add, m64_0, m64_1, m64_2, m64_3, m64_7, m64_8, m64_9, m64_10, m64_13, m64_20, m64_27, m64_60, hM0, n0, hM2, n2, hi, hv]
      exact hR0
  · simp (disch := omega) only [wp_some, wp_obd, wp_ob2, wp_bnd, wp_gd, wp_ite, wp_true, wp_ff, ↓l_n1, ↓l_n2, ↓l_n3, ↓l_n4, ↓l_n10, ↓l_n20, l_0, l_1, l_2, l_3, l_4, l_5, l_6, l_7, l_8, l_9, l_10, l_13, l_14, l_15, l_16, l_20, l_21, l_24, l_27, l_28, l_30, l_31, l_32, l_35, l_36, l_39, l_40, l_41, l_43, l_44, l_45, l_46, l_47, l_48, l_49, l_56, l_57, l_59, l_60, l_79, l_97, l_122, l_160, l_237, l_255, l_320, l_999, l_1000, nI_add, pk_mul, nI_eq, nI_leI, nI_ltI, nI_clamp, inb_nI_iff, e_within, e_in32, e_asNumber, e_flag, decide_eq_true_eq, Sum.elim_inl, Sum.elim_inr, true_implies, not_true_eq_false, not_false_eq_true, false_implies, and_true, true_and, nI_nn, nn_nI, nn_nn, ↓reduceIte, if_true, if_false, Nat.le_refl, implies_true, Nat.lt_irrefl, and_self_left, win1, nI_le_s1, Nat.zero_le, up_s, up_o, Nat.zero_add, m64_0, m64_1, m64_2, m64_3, m64_7, m64_8, m64_9, m64_10, m64_13, m64_20, m64_27, m64_60, hM0, n0, hM2, n2, hx]
    exact hR0
theorem o_hand (x v : Int32) (hR : RI h) : Ok (f_X9_hand x v h) (fun q => Ok (f_X10_hand x v q.2) (fun r => q.1 = r.1 ∧ RI r.2)) := by
  have hR0 := hR
  obtain ⟨B, T, hK, hN, hW, hRs⟩ := hR
  obtain ⟨hM0, hM1, hM2, hM3, hM4, hM5, hM6, hM7, hM8, hM9, hM10⟩ := hK.1
  obtain ⟨⟨⟨s0, s1, s2, s3, s4, s5, s6⟩, n0, n2⟩, hT⟩ := id hN
  have w0 := hW.1.1
  have w1 := hW.1.2.1
  have w2 := hW.1.2.2.1
  unfold f_X9_hand f_X10_hand f_X9_isCrab f_X10_isCrab
  by_cases hx : inb x (B 2 0)
  · obtain ⟨i, hi, rfl⟩ := inb_of hx (by omega)
    by_cases hv : nI 0 ≤ v ∧ v ≤ nI 1
    · obtain ⟨d, -, hd, rfl⟩ := rng (by decide) (by decide) hv
      have e7 := (hM10 i hi).2.2.1
      have f7 := (s3 i hi).2.2.1
      have hRI : RI (up (up h 7 2 0 i (nI d)) 25 0 0 (35 + i) (nI d)) := RI_up (f := 14) hK hN hW hRs (CB_14 hK.1) (by decide) (by decide) (by omega) (SN_14 hN.1.1 w1 w2 (by omega) up_s (fun m hm => up_o (by omega))) (WF_14 hW.1 hd)
      unfold f_X10_becomes
      simp (disch := omega) only [wp_some, wp_obd, wp_ob2, wp_bnd, wp_gd, wp_ite, wp_true, wp_ff, ↓l_n1, ↓l_n2, ↓l_n3, ↓l_n4, ↓l_n10, ↓l_n20, l_0, l_1, l_2, l_3, l_4, l_5, l_6, l_7, l_8, l_9, l_10, l_13, l_14, l_15, l_16, l_20, l_21, l_24, l_27, l_28, l_30, l_31, l_32, l_35, l_36, l_39, l_40, l_41, l_43, l_44, l_45, l_46, l_47, l_48, l_49, l_56, l_57, l_59, l_60, l_79, l_97, l_122, l_160, l_237, l_255, l_320, l_999, l_1000, nI_add, pk_mul, nI_eq, nI_leI, nI_ltI, nI_clamp, inb_nI_iff, e_within, e_in32, e_asNumber, e_flag, decide_eq_true_eq, Sum.elim_inl, Sum.elim_inr, true_implies, not_true_eq_false, not_false_eq_true, false_implies, and_true, true_and, nI_nn, nn_nI, nn_nn, ↓reduceIte, if_true, if_false, Nat.le_refl, implies_true, Nat.lt_irrefl, and_self_left, win1, nI_le_s1, Nat.zero_le, up_s, up_o, Nat.zero_add, m64_0, m64_1, m64_2, m64_3, m64_7, m64_8, m64_9, m64_10, m64_13, m64_20, m64_27, m64_60, hM2, n2, hi, hd, e7, f7]
      repeat' (with_reducible (first | apply And.intro | intro _))
      all_goals first | omega | exact hR0 | exact hRI
    · simp (disch := omega) only [wp_some, wp_obd, wp_ob2, wp_bnd, wp_gd, wp_ite, wp_true, wp_ff, ↓l_n1, ↓l_n2, ↓l_n3, ↓l_n4, ↓l_n10, ↓l_n20, l_0, l_1, l_2, l_3, l_4, l_5, l_6, l_7, l_8, l_9, l_10, l_13, l_14, l_15, l_16, l_20, l_21, l_24, l_27, l_28, l_30, l_31, l_32, l_35, l_36, l_39, l_40, l_41, l_43, l_44, l_45, l_46, l_47, l_48, l_49, l_56, l_57, l_59, l_60, l_79, l_97, l_122, l_160, l_237, l_255, l_320, l_999, l_1000, nI_add, pk_mul, nI_eq, nI_leI, nI_ltI, nI_clamp, inb_nI_iff, e_within, e_in32, e_asNumber, e_flag, decide_eq_true_eq, Sum.elim_inl, Sum.elim_inr, true_implies, not_true_eq_false, not_false_eq_true, false_implies, and_true, true_and, nI_nn, nn_nI, nn_nn, ↓reduceIte, if_true, if_false, Nat.le_refl, implies_true, Nat.lt_irrefl, and_self_left, win1, nI_le_s1, Nat.zero_le, up_s, up_o, Nat.zero_add, m64_0, m64_1, m64_2, m64_3, m64_7, m64_8, m64_9, m64_10, m64_13, m64_20, m64_27, m64_60, hM2, n2, hi, hv]
      exact hR0
  · simp (disch := omega) only [wp_some, wp_obd, wp_ob2, wp_bnd, wp_gd, wp_ite, wp_true, wp_ff, ↓l_n1, ↓l_n2, ↓l_n3, ↓l_n4, ↓l_n10, ↓l_n20, l_0, l_1, l_2, l_3, l_4, l_5, l_6, l_7, l_8, l_9, l_10, l_13, l_14, l_15, l_16, l_20, l_21, l_24, l_27, l_28, l_30, l_31, l_32, l_35, l_36, l_39, l_40, l_41, l_43, l_44, l_45, l_46, l_47, l_48, l_49, l_56, l_57, l_59, l_60, l_79, l_97, l_122, l_160, l_237, l_255, l_320, l_999, l_1000, nI_add, pk_mul, nI_eq, nI_leI, nI_ltI, nI_clamp, inb_nI_iff, e_within, e_in32, e_asNumber, e_flag, decide_eq_true_eq, Sum.elim_inl, Sum.elim_inr, true_implies, not_true_eq_false, not_false_eq_true, false_implies, and_true, true_and, nI_nn, nn_nI, nn_nn, ↓reduceIte, if_true, if_false, Nat.le_refl, implies_true, Nat.lt_irrefl, and_self_left, win1, nI_le_s1, Nat.zero_le, up_s, up_o, Nat.zero_add, m64_0, m64_1, m64_2, m64_3, m64_7, m64_8, m64_9, m64_10, m64_13, m64_20, m64_27, m64_60, hM2, n2, hx]
    exact hR0
theorem o_fake (x : Int32) (b : Bool) (hR : RI h) : Ok (f_X9_fake x b h) (fun q => Ok (f_X10_fake x b q.2) (fun r => q.1 = r.1 ∧ RI r.2)) := by
  have hR0 := hR
  obtain ⟨B, T, hK, hN, hW, hRs⟩ := hR
  obtain ⟨hM0, hM1, hM2, hM3, hM4, hM5, hM6, hM7, hM8, hM9, hM10⟩ := hK.1
  obtain ⟨⟨⟨s0, s1, s2, s3, s4, s5, s6⟩, n0, n2⟩, hT⟩ := id hN
  have w0 := hW.1.1
  have w1 := hW.1.2.1
  have w2 := hW.1.2.2.1
  unfold f_X9_fake f_X10_fake f_X9_isCoin f_X10_isCoin
  by_cases hx : inb x (B 1 0)
  · obtain ⟨i, hi, rfl⟩ := inb_of hx (by omega)
    have b7 := (hW.1.2.2.2.2.2.2.2.2.2.2.1 i hi).2.1
    have e7 := (hM9 i hi).2.1
    have f7 := (s2 i hi).2.1
    have hRI : RI (up (up h 6 1 0 i (nI (if b = true then 1 else 0))) 25 0 0 (15 + i) (nI (if b = true then 1 else 0))) := RI_up (f := 10) hK hN hW hRs (CB_10 hK.1) (by decide) (by decide) (by omega) (SN_10 hN.1.1 w1 w2 (by omega) up_s (fun m hm => up_o (by omega))) (WF_10 hW.1 (by split <;> omega))
    unfold f_X10_becomes
    simp (disch := omega) only [wp_some, wp_obd, wp_ob2, wp_bnd, wp_gd, wp_ite, wp_true, wp_ff, ↓l_n1, ↓l_n2, ↓l_n3, ↓l_n4, ↓l_n10, ↓l_n20, l_0, l_1, l_2, l_3, l_4, l_5, l_6, l_7, l_8, l_9, l_10, l_13, l_14, l_15, l_16, l_20, l_21, l_24, l_27, l_28, l_30, l_31, l_32, l_35, l_36, l_39, l_40, l_41, l_43, l_44, l_45, l_46, l_47, l_48, l_49, l_56, l_57, l_59, l_60, l_79, l_97, l_122, l_160, l_237, l_255, l_320, l_999, l_1000, nI_add, pk_mul, nI_eq, nI_leI, nI_ltI, nI_clamp, inb_nI_iff, e_within, e_in32, e_asNumber, e_flag, decide_eq_true_eq, Sum.elim_inl, Sum.elim_inr, true_implies, not_true_eq_false, not_false_eq_true, false_implies, and_true, true_and, nI_nn, nn_nI, nn_nn, ↓reduceIte, if_true, if_false, Nat.le_refl, implies_true, Nat.lt_irrefl, and_self_left, win1, nI_le_s1, Nat.zero_le, up_s, up_o, Nat.zero_add, m64_0, m64_1, m64_2, m64_3, m64_7, m64_8, m64_9, m64_10, m64_13, m64_20, m64_27, m64_60, hM1, s1, hi, e7, f7, i2b_n, b2i_n, b2i_b b]
    repeat' (with_reducible (first | apply And.intro | intro _))
    all_goals first | omega | exact hR0 | exact hRI
  · simp (disch := omega) only [wp_some, wp_obd, wp_ob2, wp_bnd, wp_gd, wp_ite, wp_true, wp_ff, ↓l_n1, ↓l_n2, ↓l_n3, ↓l_n4, ↓l_n10, ↓l_n20, l_0, l_1, l_2, l_3, l_4, l_5, l_6, l_7, l_8, l_9, l_10, l_13, l_14, l_15, l_16, l_20, l_21, l_24, l_27, l_28, l_30, l_31, l_32, l_35, l_36, l_39, l_40, l_41, l_43, l_44, l_45, l_46, l_47, l_48, l_49, l_56, l_57, l_59, l_60, l_79, l_97, l_122, l_160, l_237, l_255, l_320, l_999, l_1000, nI_add, pk_mul, nI_eq, nI_leI, nI_ltI, nI_clamp, inb_nI_iff, e_within, e_in32, e_asNumber, e_flag, decide_eq_true_eq, Sum.elim_inl, Sum.elim_inr, true_implies, not_true_eq_false, not_false_eq_true, false_implies, and_true, true_and, nI_nn, nn_nI, nn_nn, ↓reduceIte, if_true, if_false, Nat.le_refl, implies_true, Nat.lt_irrefl, and_self_left, win1, nI_le_s1, Nat.zero_le, up_s, up_o, Nat.zero_add, m64_0, m64_1, m64_2, m64_3, m64_7, m64_8, m64_9, m64_10, m64_13, m64_20, m64_27, m64_60, hM1, s1, hx]
    exact hR0
theorem o_tide (x v : Int32) (hR : RI h) : Ok (f_X9_tide x v h) (fun q => Ok (f_X10_tide x v q.2) (fun r => q.1 = r.1 ∧ RI r.2)) := by
  have hR0 := hR
  obtain ⟨B, T, hK, hN, hW, hRs⟩ := hR
  obtain ⟨hM0, hM1, hM2, hM3, hM4, hM5, hM6, hM7, hM8, hM9, hM10⟩ := hK.1
  obtain ⟨⟨⟨s0, s1, s2, s3, s4, s5, s6⟩, n0, n2⟩, hT⟩ := id hN
  have w0 := hW.1.1
  have w1 := hW.1.2.1
  have w2 := hW.1.2.2.1
  unfold f_X9_tide f_X10_tide
  by_cases hx : nI 0 ≤ x ∧ x ≤ nI 9
  · obtain ⟨i, -, hi, rfl⟩ := rng (by decide) (by decide) hx
    by_cases hv : nI 0 ≤ v ∧ v ≤ nI 8
    · obtain ⟨d, -, hd, rfl⟩ := rng (by decide) (by decide) hv
      have hRI : RI (up (up h 1 6 0 0 (nI i)) 25 0 0 43 (nI i)) := RI_up (f := 3) hK hN hW hRs (CB_3 hK.1) (by decide) (by decide) (by omega) (SN_3 hN.1.1 w1 w2 up_s (fun m hm => up_o (by omega))) (WF_3 hW.1 hi)
      have hRJ : RI (up (up (up (up h 1 6 0 0 (nI i)) 25 0 0 43 (nI i)) 1 7 0 0 (nI d)) 25 0 0 44 (nI d)) := by
        have hK1 : KN (up (up h 1 6 0 0 (nI i)) 25 0 0 43 (nI i)) (ub B 3 0 i) T := by
          refine ⟨CB0_fr (CB_3 hK.1) (fun k' j' i' a b => up_o (by omega)), HL_fr (HL_up (B' := ub B 3 0 i) hK.2.1 (by decide) (ub_n (by decide)) (ub_n (by decide)) (fun c _ => ub_n (by decide))) (fun k' j' i' a b => up_o (by omega)), CSg_fr hK.2.2 (fun k' j' i' a b => by rw [up_o (by omega), up_o (by omega)])⟩
        have hN1 : RN (up (up h 1 6 0 0 (nI i)) 25 0 0 43 (nI i)) (ub B 3 0 i) T := by
          refine ⟨⟨SN_3 hN.1.1 w1 w2 up_s (fun m hm => by rw [up_o (by omega), up_o (by omega)]), ?_, ?_⟩, TN_fr hW.2.2.1 hT (fun m h1 h2 => by rw [up_o (by omega), up_o (by omega)])⟩
          · rw [up_o (by omega), up_o (by omega), ub_n (by omega)]; exact n0
          · rw [up_o (by omega), up_o (by omega), ub_n (by omega)]; exact n2
        have hW1 : WN (ub B 3 0 i) T := ⟨WF_3 hW.1 hi, NO_ub hW.2.1 (by decide), hW.2.2.1, fun m hm => by rw [ub_n (by omega)]; exact hW.2.2.2 m hm⟩
        exact RI_up (f := 4) hK1 hN1 hW1 (RST_fr hRs ((FR.up (by unfold rst; omega)).tr (FR.up (by unfold rst; omega)))) (CB_4 hK1.1) (by decide) (by decide) (by omega) (SN_4 hN1.1.1 (by rw [ub_n (by omega)]; exact w1) (by rw [ub_n (by omega)]; exact w2) up_s (fun m hm => up_o (by omega))) (WF_4 hW1.1 hd)
      have hsw : up (up (up (up h 1 6 0 0 (nI i)) 25 0 0 43 (nI i)) 1 7 0 0 (nI d)) 25 0 0 44 (nI d) = up (up (up (up h 1 6 0 0 (nI i)) 1 7 0 0 (nI d)) 25 0 0 44 (nI d)) 25 0 0 43 (nI i) := by
        funext k' j' o' i'
        unfold up
        split <;> split <;> first | rfl | omega | (split <;> first | rfl | omega | (split <;> first | rfl | omega))
      rw [hsw] at hRJ
      unfold f_X10_becomes
      simp (disch := omega) only [wp_some, wp_obd, wp_ob2, wp_bnd, wp_gd, wp_ite, wp_true, wp_ff, ↓l_n1, ↓l_n2, ↓l_n3, ↓l_n4, ↓l_n10, ↓l_n20, l_0, l_1, l_2, l_3, l_4, l_5, l_6, l_7, l_8, l_9, l_10, l_13, l_14, l_15, l_16, l_20, l_21, l_24, l_27, l_28, l_30, l_31, l_32, l_35, l_36, l_39, l_40, l_41, l_43, l_44, l_45, l_46, l_47, l_48, l_49, l_56, l_57, l_59, l_60, l_79, l_97, l_122, l_160, l_237, l_255, l_320, l_999, l_1000, nI_add, pk_mul, nI_eq, nI_leI, nI_ltI, nI_clamp, inb_nI_iff, e_within, e_in32, e_asNumber, e_flag, decide_eq_true_eq, Sum.elim_inl, Sum.elim_inr, true_implies, not_true_eq_false, not_false_eq_true, false_implies, and_true, true_and, nI_nn, nn_nI, nn_nn, ↓reduceIte, if_true, if_false, Nat.le_refl, implies_true, Nat.lt_irrefl, and_self_left, win1, nI_le_s1, Nat.zero_le, up_s, up_o, Nat.zero_add, m64_0, m64_1, m64_2, m64_3, m64_7, m64_8, m64_9, m64_10, m64_13, m64_20, m64_27, m64_60, hM3, s4, hi, hd]
      repeat' (with_reducible (first | apply And.intro | intro _))
      all_goals first | omega | exact hR0 | exact hRJ
    · simp (disch := omega) only [wp_some, wp_obd, wp_ob2, wp_bnd, wp_gd, wp_ite, wp_true, wp_ff, ↓l_n1, ↓l_n2, ↓l_n3, ↓l_n4, ↓l_n10, ↓l_n20, l_0, l_1, l_2, l_3, l_4, l_5, l_6, l_7, l_8, l_9, l_10, l_13, l_14, l_15, l_16, l_20, l_21, l_24, l_27, l_28, l_30, l_31, l_32, l_35, l_36, l_39, l_40, l_41, l_43, l_44, l_45, l_46, l_47, l_48, l_49, l_56, l_57, l_59, l_60, l_79, l_97, l_122, l_160, l_237, l_255, l_320, l_999, l_1000, nI_add, pk_mul, nI_eq, nI_leI, nI_ltI, nI_clamp, inb_nI_iff, e_within, e_in32, e_asNumber, e_flag, decide_eq_true_eq, Sum.elim_inl, Sum.elim_inr, true_implies, not_true_eq_false, not_false_eq_true, false_implies, and_true, true_and, nI_nn, nn_nI, nn_nn, ↓reduceIte, if_true, if_false, Nat.le_refl, implies_true, Nat.lt_irrefl, and_self_left, win1, nI_le_s1, Nat.zero_le, up_s, up_o, Nat.zero_add, m64_0, m64_1, m64_2, m64_3, m64_7, m64_8, m64_9, m64_10, m64_13, m64_20, m64_27, m64_60, hv, hi]
      exact hR0
  · simp (disch := omega) only [wp_some, wp_obd, wp_ob2, wp_bnd, wp_gd, wp_ite, wp_true, wp_ff, ↓l_n1, ↓l_n2, ↓l_n3, ↓l_n4, ↓l_n10, ↓l_n20, l_0, l_1, l_2, l_3, l_4, l_5, l_6, l_7, l_8, l_9, l_10, l_13, l_14, l_15, l_16, l_20, l_21, l_24, l_27, l_28, l_30, l_31, l_32, l_35, l_36, l_39, l_40, l_41, l_43, l_44, l_45, l_46, l_47, l_48, l_49, l_56, l_57, l_59, l_60, l_79, l_97, l_122, l_160, l_237, l_255, l_320, l_999, l_1000, nI_add, pk_mul, nI_eq, nI_leI, nI_ltI, nI_clamp, inb_nI_iff, e_within, e_in32, e_asNumber, e_flag, decide_eq_true_eq, Sum.elim_inl, Sum.elim_inr, true_implies, not_true_eq_false, not_false_eq_true, false_implies, and_true, true_and, nI_nn, nn_nI, nn_nn, ↓reduceIte, if_true, if_false, Nat.le_refl, implies_true, Nat.lt_irrefl, and_self_left, win1, nI_le_s1, Nat.zero_le, up_s, up_o, Nat.zero_add, m64_0, m64_1, m64_2, m64_3, m64_7, m64_8, m64_9, m64_10, m64_13, m64_20, m64_27, m64_60, hx]
    exact hR0
end Ops
