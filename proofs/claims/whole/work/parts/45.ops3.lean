theorem RN_lo2 {h h' : Mem} {B T : Bs} (hC : RN h B T) (hW : WN B T) (hF : ∀ k j o i, (k = 25 ∧ i < 79) ∨ (k = 24 ∧ (j = 2 ∨ j = 3)) → h' k j o i = h k j o i) : RN h' B T :=
  ⟨⟨SN_fr hW.1.2.1 hW.1.2.2.1 hC.1.1 (fun i hi => hF _ _ _ _ (by omega)), (hF _ _ _ _ (by omega)).trans hC.1.2.1, (hF _ _ _ _ (by omega)).trans hC.1.2.2⟩, TN_fr hW.2.2.1 hC.2 (fun i h1 h2 => hF _ _ _ _ (by omega))⟩
theorem l_m8 : (-8 : Int32) = nn 8 := by decide
theorem l_m11 : (-11 : Int32) = nn 11 := by decide
theorem l_m12 : (-12 : Int32) = nn 12 := by decide
theorem l_m14 : (-14 : Int32) = nn 14 := by decide
theorem vpn_n {v : Nat} (h : v ≤ 1) : vp_nar .boolean (nI v) = nI v := by
  have : v = 0 ∨ v = 1 := by omega
  rcases this with rfl | rfl <;> decide
theorem nn10_1 : nn 10 - nI 1 = nn 11 := by decide
theorem nn10_2 : nn 10 - nI 2 = nn 12 := by decide
section Ops
variable {h : Mem} {B T : Bs}
theorem o_forget (x : Int32) (hR : RI h) : Ok (f_X9_forget x h) (fun q => Ok (f_X10_forget x q.2) (fun r => q.1 = r.1 ∧ RI r.2)) := by
  have hR0 := hR
  obtain ⟨B, T, hK, hN, hW, hRs⟩ := hR
  obtain ⟨hM0, hM1, hM2, hM3, hM4, hM5, hM6, hM7, hM8, hM9, hM10⟩ := hK.1
  obtain ⟨⟨⟨s0, s1, s2, s3, s4, s5, s6⟩, n0, n2⟩, hT⟩ := id hN
  have w0 := hW.1.1
  have w1 := hW.1.2.1
  have w2 := hW.1.2.2.1
  obtain ⟨c1, c2⟩ := hK.2.2
  obtain ⟨t1, t2⟩ := hT
  have w3 := hW.2.2.1
  unfold f_X9_forget f_X10_forget
  by_cases hx : nI 0 ≤ x ∧ x ≤ nI (T 0 0)
  · obtain ⟨n, -, hn, rfl⟩ := rng (by decide) (by omega) hx
    have hRI : RI (up (up h 8 0 0 0 (nI n)) 25 0 0 46 (nI n)) := by
      have e0 : ub T 0 0 n 0 0 = n := by simp [ub]
      refine ⟨B, ub T 0 0 n, ⟨CB0_fr hK.1 (fun k' j' i' a b => by simp (disch := omega) only [up_s, up_o]), HL_fr hK.2.1 (fun k' j' i' a b => by simp (disch := omega) only [up_s, up_o]), ?_, fun i hi => ?_⟩, ⟨⟨SN_fr w1 w2 hN.1.1 (fun m hm => by simp (disch := omega) only [up_s, up_o]), ?_, ?_⟩, ?_, fun i hi => ?_⟩, ⟨hW.1, hW.2.1, by rw [e0]; omega, fun i hi => ?_⟩, RST_fr hRs ((FR.up (by unfold rst; omega)).tr (FR.up (by unfold rst; omega)))⟩
      · rw [e0]; (try simp (disch := omega) only [up_s, up_o, and_self])
      · rw [e0] at hi
        rw [ub_n (by decide), ub_n (by decide), ub_n (by decide), ub_n (by decide)]; (try simp (disch := omega) only [up_s, up_o, and_self]); exact c2 i (by omega)
      · (try simp (disch := omega) only [up_s, up_o, and_self]); exact n0
      · (try simp (disch := omega) only [up_s, up_o, and_self]); exact n2
      · rw [e0]; (try simp (disch := omega) only [up_s, up_o, and_self])
      · rw [e0] at hi
        rw [ub_n (by decide), ub_n (by decide), ub_n (by decide), ub_n (by decide)]; (try simp (disch := omega) only [up_s, up_o, and_self]); exact t2 i (by omega)
      · rw [e0] at hi
        rw [ub_n (by decide), ub_n (by decide), ub_n (by decide), ub_n (by decide)]; exact hW.2.2.2 i (by omega)
    simp (disch := omega) only [wp_some, wp_obd, wp_ob2, wp_bnd, wp_gd, wp_ite, wp_true, wp_ff, ↓l_n1, ↓l_n2, ↓l_n3, ↓l_n4, ↓l_n10, ↓l_n20, l_0, l_1, l_2, l_3, l_4, l_5, l_6, l_7, l_8, l_9, l_10, l_13, l_14, l_15, l_16, l_20, l_21, l_24, l_27, l_28, l_30, l_31, l_32, l_35, l_36, l_39, l_40, l_41, l_43, l_44, l_45, l_46, l_47, l_48, l_49, l_56, l_57, l_59, l_60, l_79, l_97, l_122, l_160, l_237, l_255, l_320, l_999, l_1000, nI_add, pk_mul, nI_eq, nI_leI, nI_ltI, nI_clamp, inb_nI_iff, e_within, e_in32, e_asNumber, e_flag, decide_eq_true_eq, Sum.elim_inl, Sum.elim_inr, true_implies, not_true_eq_false, not_false_eq_true, false_implies, and_true, true_and, nI_nn, nn_nI, nn_nn, ↓reduceIte, if_true, if_false, Nat.le_refl, implies_true, Nat.lt_irrefl, and_self_left, win1, nI_le_s1, Nat.zero_le, up_s, up_o, Nat.zero_add, m64_0, m64_1, m64_2, m64_3, m64_7, m64_8, m64_9, m64_10, m64_13, m64_20, m64_27, m64_60, c1, t1, hn]
    exact hRI
  · simp (disch := omega) only [wp_some, wp_obd, wp_ob2, wp_bnd, wp_gd, wp_ite, wp_true, wp_ff, ↓l_n1, ↓l_n2, ↓l_n3, ↓l_n4, ↓l_n10, ↓l_n20, l_0, l_1, l_2, l_3, l_4, l_5, l_6, l_7, l_8, l_9, l_10, l_13, l_14, l_15, l_16, l_20, l_21, l_24, l_27, l_28, l_30, l_31, l_32, l_35, l_36, l_39, l_40, l_41, l_43, l_44, l_45, l_46, l_47, l_48, l_49, l_56, l_57, l_59, l_60, l_79, l_97, l_122, l_160, l_237, l_255, l_320, l_999, l_1000, nI_add, pk_mul, nI_eq, nI_leI, nI_ltI, nI_clamp, inb_nI_iff, e_within, e_in32, e_asNumber, e_flag, decide_eq_true_eq, Sum.elim_inl, Sum.elim_inr, true_implies, not_true_eq_false, not_false_eq_true, false_implies, and_true, true_and, nI_nn, nn_nI, nn_nn, ↓reduceIte, if_true, if_false, Nat.le_refl, implies_true, Nat.lt_irrefl, and_self_left, win1, nI_le_s1, Nat.zero_le, up_s, up_o, Nat.zero_add, m64_0, m64_1, m64_2, m64_3, m64_7, m64_8, m64_9, m64_10, m64_13, m64_20, m64_27, m64_60, c1, t1, hx]
    exact hR0
theorem o_end (x : Int32) (hR : RI h) : Ok (f_X9_end x h) (fun q => Ok (f_X10_end x q.2) (fun r => q.1 = r.1 ∧ RI r.2)) := by
  have hR0 := hR
  obtain ⟨B, T, hK, hN, hW, hRs⟩ := hR
  obtain ⟨hM0, hM1, hM2, hM3, hM4, hM5, hM6, hM7, hM8, hM9, hM10⟩ := hK.1
  obtain ⟨⟨⟨s0, s1, s2, s3, s4, s5, s6⟩, n0, n2⟩, hT⟩ := id hN
  have w0 := hW.1.1
  have w1 := hW.1.2.1
  have w2 := hW.1.2.2.1
  obtain ⟨i1, i2, ⟨t, u, t1, t2, t3, t4⟩, i4⟩ := id hRs
  unfold f_X9_end f_X10_end
  by_cases hx : nI 0 ≤ x ∧ x ≤ nI t
  · obtain ⟨n, -, hn, rfl⟩ := rng (by decide) (by omega) hx
    have hRI : RI (up (up h 17 1 0 0 (nI n)) 24 10 0 0 (nI n)) := by
      refine ⟨B, T, KN_hi hK (fun k j o i hk => by simp (disch := omega) only [up_s, up_o]), RN_lo2 hN hW (fun k j o i hk => by simp (disch := omega) only [up_s, up_o]), hW, fun k hk => IM_fr hk (i1 k hk) (fun k' j o i hh => by simp (disch := omega) only [up_s, up_o]), fun k hk => SH_fr hk (i2 k hk) (fun k' j o i hh => by simp (disch := omega) only [up_s, up_o]), ⟨n, u, by omega, by (try simp (disch := omega) only [up_s, up_o, and_self]), by (try simp (disch := omega) only [up_s, up_o, and_self]), fun i hi => ?_⟩, TR_fr i4 (fun k' j o i hh => by simp (disch := omega) only [up_s, up_o])⟩
      (try simp (disch := omega) only [up_s, up_o, and_self]); exact t4 i (by omega)
    simp (disch := omega) only [wp_some, wp_obd, wp_ob2, wp_bnd, wp_gd, wp_ite, wp_true, wp_ff, ↓l_n1, ↓l_n2, ↓l_n3, ↓l_n4, ↓l_n10, ↓l_n20, l_0, l_1, l_2, l_3, l_4, l_5, l_6, l_7, l_8, l_9, l_10, l_13, l_14, l_15, l_16, l_20, l_21, l_24, l_27, l_28, l_30, l_31, l_32, l_35, l_36, l_39, l_40, l_41, l_43, l_44, l_45, l_46, l_47, l_48, l_49, l_56, l_57, l_59, l_60, l_79, l_97, l_122, l_160, l_237, l_255, l_320, l_999, l_1000, nI_add, pk_mul, nI_eq, nI_leI, nI_ltI, nI_clamp, inb_nI_iff, e_within, e_in32, e_asNumber, e_flag, decide_eq_true_eq, Sum.elim_inl, Sum.elim_inr, true_implies, not_true_eq_false, not_false_eq_true, false_implies, and_true, true_and, nI_nn, nn_nI, nn_nn, ↓reduceIte, if_true, if_false, Nat.le_refl, implies_true, Nat.lt_irrefl, and_self_left, win1, nI_le_s1, Nat.zero_le, up_s, up_o, Nat.zero_add, m64_0, m64_1, m64_2, m64_3, m64_7, m64_8, m64_9, m64_10, m64_13, m64_20, m64_27, m64_60, t2, t3, hn]
    exact hRI
  · simp (disch := omega) only [wp_some, wp_obd, wp_ob2, wp_bnd, wp_gd, wp_ite, wp_true, wp_ff, ↓l_n1, ↓l_n2, ↓l_n3, ↓l_n4, ↓l_n10, ↓l_n20, l_0, l_1, l_2, l_3, l_4, l_5, l_6, l_7, l_8, l_9, l_10, l_13, l_14, l_15, l_16, l_20, l_21, l_24, l_27, l_28, l_30, l_31, l_32, l_35, l_36, l_39, l_40, l_41, l_43, l_44, l_45, l_46, l_47, l_48, l_49, l_56, l_57, l_59, l_60, l_79, l_97, l_122, l_160, l_237, l_255, l_320, l_999, l_1000, nI_add, pk_mul, nI_eq, nI_leI, nI_ltI, nI_clamp, inb_nI_iff, e_within, e_in32, e_asNumber, e_flag, decide_eq_true_eq, Sum.elim_inl, Sum.elim_inr, true_implies, not_true_eq_false, not_false_eq_true, false_implies, and_true, true_and, nI_nn, nn_nI, nn_nn, ↓reduceIte, if_true, if_false, Nat.le_refl, implies_true, Nat.lt_irrefl, and_self_left, win1, nI_le_s1, Nat.zero_le, up_s, up_o, Nat.zero_add, m64_0, m64_1, m64_2, m64_3, m64_7, m64_8, m64_9, m64_10, m64_13, m64_20, m64_27, m64_60, t2, t3, hx]
    exact hR0
theorem isWhere_eq (x : Int32) (h h' : Mem) : ∃ b : Bool, f_X9_isWhere x h = some b ∧ f_X10_isWhere x h' = some b ∧ (b = true → ∃ v, v ≤ 30 ∧ x = nI v) := by
  refine ⟨decide ((nI 0 ≤ x ∧ x ≤ nI 7) ∨ (nI 10 ≤ x ∧ x ≤ nI 13) ∨ (nI 20 ≤ x ∧ x ≤ nI 27) ∨ x = nI 30), ?_, ?_, fun hb => ?_⟩
  · apply Ok.eqv
    unfold f_X9_isWhere
    simp (disch := omega) only [wp_some, wp_obd, wp_ob2, wp_bnd, wp_gd, wp_ite, wp_true, wp_ff, ↓l_n1, ↓l_n2, ↓l_n3, ↓l_n4, ↓l_n10, ↓l_n20, l_0, l_1, l_2, l_3, l_4, l_5, l_6, l_7, l_8, l_9, l_10, l_13, l_14, l_15, l_16, l_20, l_21, l_24, l_27, l_28, l_30, l_31, l_32, l_35, l_36, l_39, l_40, l_41, l_43, l_44, l_45, l_46, l_47, l_48, l_49, l_56, l_57, l_59, l_60, l_79, l_97, l_122, l_160, l_237, l_255, l_320, l_999, l_1000, nI_add, pk_mul, nI_eq, nI_leI, nI_ltI, nI_clamp, inb_nI_iff, e_within, e_in32, e_asNumber, e_flag, decide_eq_true_eq, Sum.elim_inl, Sum.elim_inr, true_implies, not_true_eq_false, not_false_eq_true, false_implies, and_true, true_and, nI_nn, nn_nI, nn_nn, ↓reduceIte, if_true, if_false, Nat.le_refl, implies_true, Nat.lt_irrefl, and_self_left, win1, nI_le_s1, Nat.zero_le, up_s, up_o, Nat.zero_add, m64_0, m64_1, m64_2, m64_3, m64_7, m64_8, m64_9, m64_10, m64_13, m64_20, m64_27, m64_60]
    by_cases h1 : nI 0 ≤ x ∧ x ≤ nI 7
    · simp [h1]
    by_cases h2 : nI 10 ≤ x ∧ x ≤ nI 13
    · simp [h1, h2]
    by_cases h3 : nI 20 ≤ x ∧ x ≤ nI 27
    · simp [h1, h2, h3]
    by_cases h4 : x = nI 30
    · have h5 : (nI 0 ≤ x ∧ x ≤ nI 7 ∨ nI 10 ≤ x ∧ x ≤ nI 13 ∨ nI 20 ≤ x ∧ x ≤ nI 27 ∨ x = nI 30) := Or.inr (Or.inr (Or.inr h4))
      rw [decide_eq_true h5]
      simp [h1, h2, h3, eq_true h4, wp_some]
    · have h5 : ¬ (nI 0 ≤ x ∧ x ≤ nI 7 ∨ nI 10 ≤ x ∧ x ≤ nI 13 ∨ nI 20 ≤ x ∧ x ≤ nI 27 ∨ x = nI 30) := by rintro (a | a | a | a) <;> contradiction
      rw [decide_eq_false h5]
      simp [h1, h2, h3, h4, wp_some]
  · apply Ok.eqv
    unfold f_X10_isWhere
    simp (disch := omega) only [wp_some, wp_obd, wp_ob2, wp_bnd, wp_gd, wp_ite, wp_true, wp_ff, ↓l_n1, ↓l_n2, ↓l_n3, ↓l_n4, ↓l_n10, ↓l_n20, l_0, l_1, l_2, l_3, l_4, l_5, l_6, l_7, l_8, l_9, l_10, l_13, l_14, l_15, l_16, l_20, l_21, l_24, l_27, l_28, l_30, l_31, l_32, l_35, l_36, l_39, l_40, l_41, l_43, l_44, l_45, l_46, l_47, l_48, l_49, l_56, l_57, l_59, l_60, l_79, l_97, l_122, l_160, l_237, l_255, l_320, l_999, l_1000, nI_add, pk_mul, nI_eq, nI_leI, nI_ltI, nI_clamp, inb_nI_iff, e_within, e_in32, e_asNumber, e_flag, decide_eq_true_eq, Sum.elim_inl, Sum.elim_inr, true_implies, not_true_eq_false, not_false_eq_true, false_implies, and_true, true_and, nI_nn, nn_nI, nn_nn, ↓reduceIte, if_true, if_false, Nat.le_refl, implies_true, Nat.lt_irrefl, and_self_left, win1, nI_le_s1, Nat.zero_le, up_s, up_o, Nat.zero_add, m64_0, m64_1, m64_2, m64_3, m64_7, m64_8, m64_9, m64_10, m64_13, m64_20, m64_27, m64_60]
    by_cases h1 : nI 0 ≤ x ∧ x ≤ nI 7
    · simp [h1]
    by_cases h2 : nI 10 ≤ x ∧ x ≤ nI 13
    · simp [h1, h2]
    by_cases h3 : nI 20 ≤ x ∧ x ≤ nI 27
    · simp [h1, h2, h3]
    by_cases h4 : x = nI 30
    · have h5 : (nI 0 ≤ x ∧ x ≤ nI 7 ∨ nI 10 ≤ x ∧ x ≤ nI 13 ∨ nI 20 ≤ x ∧ x ≤ nI 27 ∨ x = nI 30) := Or.inr (Or.inr (Or.inr h4))
      rw [decide_eq_true h5]
      simp [h1, h2, h3, eq_true h4, wp_some]
    · have h5 : ¬ (nI 0 ≤ x ∧ x ≤ nI 7 ∨ nI 10 ≤ x ∧ x ≤ nI 13 ∨ nI 20 ≤ x ∧ x ≤ nI 27 ∨ x = nI 30) := by rintro (a | a | a | a) <;> contradiction
      rw [decide_eq_false h5]
      simp [h1, h2, h3, h4, wp_some]
  · rw [decide_eq_true_eq] at hb
    rcases hb with hb | hb | hb | hb
    · obtain ⟨v, -, a, b⟩ := rng (by decide) (by decide) hb; exact ⟨v, by omega, b⟩
    · obtain ⟨v, -, a, b⟩ := rng (by decide) (by decide) hb; exact ⟨v, by omega, b⟩
    · obtain ⟨v, -, a, b⟩ := rng (by decide) (by decide) hb; exact ⟨v, by omega, b⟩
    · exact ⟨30, by omega, hb⟩
theorem o_see (n c x : Int32) (b : Bool) (hR : RI h) : Ok (f_X9_see n c x b h) (fun q => Ok (f_X10_see n c x b q.2) (fun r => q.1 = r.1 ∧ RI r.2)) := by
  have hR0 := hR
  obtain ⟨B, T, hK, hN, hW, hRs⟩ := hR
  obtain ⟨hM0, hM1, hM2, hM3, hM4, hM5, hM6, hM7, hM8, hM9, hM10⟩ := hK.1
  obtain ⟨⟨⟨s0, s1, s2, s3, s4, s5, s6⟩, n0, n2⟩, hT⟩ := id hN
  have w0 := hW.1.1
  have w1 := hW.1.2.1
  have w2 := hW.1.2.2.1
  obtain ⟨c1, c2⟩ := hK.2.2
  obtain ⟨t1, t2⟩ := hT
  have w3 := hW.2.2.1
  unfold f_X9_see f_X10_see f_X9_isCoin f_X10_isCoin
  by_cases hn : nI 0 ≤ n ∧ n ≤ nI 20
  · obtain ⟨n', -, hn', rfl⟩ := rng (by decide) (by decide) hn
    by_cases hc : inb c (B 1 0)
    · obtain ⟨c', hc', rfl⟩ := inb_of hc (by omega)
      obtain ⟨b1, e1, -, e2⟩ := isWhere_eq x h h
      have e3 : ∀ h', f_X10_isWhere x h' = some b1 := fun h' => by
        obtain ⟨b2, f1, f2, -⟩ := isWhere_eq x h h'
        rw [f2]; rw [e1] at f1; exact f1.symm
      cases hb1 : b1 with
      | false =>
        rw [hb1] at e1 e3
        simp (disch := omega) only [wp_some, wp_obd, wp_ob2, wp_bnd, wp_gd, wp_ite, wp_true, wp_ff, ↓l_n1, ↓l_n2, ↓l_n3, ↓l_n4, ↓l_n10, ↓l_n20, l_0, l_1, l_2, l_3, l_4, l_5, l_6, l_7, l_8, l_9, l_10, l_13, l_14, l_15, l_16, l_20, l_21, l_24, l_27, l_28, l_30, l_31, l_32, l_35, l_36, l_39, l_40, l_41, l_43, l_44, l_45, l_46, l_47, l_48, l_49, l_56, l_57, l_59, l_60, l_79, l_97, l_122, l_160, l_237, l_255, l_320, l_999, l_1000, nI_add, pk_mul, nI_eq, nI_leI, nI_ltI, nI_clamp, inb_nI_iff, e_within, e_in32, e_asNumber, e_flag, decide_eq_true_eq, Sum.elim_inl, Sum.elim_inr, true_implies, not_true_eq_false, not_false_eq_true, false_implies, and_true, true_and, nI_nn, nn_nI, nn_nn, ↓reduceIte, if_true, if_false, Nat.le_refl, implies_true, Nat.lt_irrefl, and_self_left, win1, nI_le_s1, Nat.zero_le, up_s, up_o, Nat.zero_add, m64_0, m64_1, m64_2, m64_3, m64_7, m64_8, m64_9, m64_10, m64_13, m64_20, m64_27, m64_60, hM1, s1, hn', hc', e1, e3]
        exact hR0
      | true =>
        obtain ⟨v, hv, rfl⟩ := e2 hb1
        rw [hb1] at e1 e3
        by_cases h8 : T 0 0 < 8
        · have g8 : ¬ 8 ≤ T 0 0 := by omega
          have g9 : ¬ T 0 0 = 8 := by omega
          generalize hbb : (if b = true then 1 else 0 : Nat) = d at *
          have hd1 : d ≤ 1 := by rw [← hbb]; split <;> omega
          have hRI : RI (up (up (up (up (up (up (up (up (up (up h 9 0 0 (T 0 0) (nI n')) 10 0 0 (T 0 0) (nI c')) 11 0 0 (T 0 0) (nI v)) 12 0 0 (T 0 0) (nI d)) 8 0 0 0 (nI (T 0 0 + 1))) 25 0 0 (47 + 4 * T 0 0) (nI n')) 25 0 0 (47 + 4 * T 0 0 + 1) (nI c')) 25 0 0 (47 + 4 * T 0 0 + 2) (nI v)) 25 0 0 (47 + 4 * T 0 0 + 3) (nI d)) 25 0 0 46 (nI (T 0 0 + 1))) := by
            refine ⟨B, fun f i => if f = 0 ∧ i = 0 then T 0 0 + 1 else if i = T 0 0 then (if f = 1 then n' else if f = 2 then c' else if f = 3 then v else if f = 4 then d else T f i) else T f i, ⟨CB0_fr hK.1 (fun k' j' i' a b => by simp (disch := omega) only [up_s, up_o]), HL_fr hK.2.1 (fun k' j' i' a b => by simp (disch := omega) only [up_s, up_o]), ?_, fun i hi => ?_⟩, ⟨⟨SN_fr w1 w2 hN.1.1 (fun m hm => by simp (disch := omega) only [up_s, up_o]), ?_, ?_⟩, ?_, fun i hi => ?_⟩, ⟨hW.1, hW.2.1, by simp; omega, fun i hi => ?_⟩, RST_fr hRs (fun k j o i hr => by unfold rst at hr; simp (disch := omega) only [up_s, up_o])⟩
            · (try simp (disch := omega) only [up_s, up_o, and_self]); simp
            · simp at hi
              by_cases e : i = T 0 0
              · subst e; (try simp (disch := omega) only [up_s, up_o, and_self]); simp
              · (try simp (disch := omega) only [up_s, up_o, and_self]); simpa [e] using c2 i (by omega)
            · (try simp (disch := omega) only [up_s, up_o, and_self]); exact n0
            · (try simp (disch := omega) only [up_s, up_o, and_self]); exact n2
            · (try simp (disch := omega) only [up_s, up_o, and_self]); simp
            · simp at hi
              by_cases e : i = T 0 0
              · subst e; (try simp (disch := omega) only [up_s, up_o, and_self]); simp
              · (try simp (disch := omega) only [up_s, up_o, and_self]); simpa [e] using t2 i (by omega)
            · simp at hi
              by_cases e : i = T 0 0
              · subst e; simp; omega
              · simpa [e] using hW.2.2.2 i (by omega)
          unfold f_X6_add
          simp (disch := omega) only [wp_some, wp_obd, wp_ob2, wp_bnd, wp_gd, wp_ite, wp_true, wp_ff, ↓l_n1, ↓l_n2, ↓l_n3, ↓l_n4, ↓l_n10, ↓l_n20, l_0, l_1, l_2, l_3, l_4, l_5, l_6, l_7, l_8, l_9, l_10, l_13, l_14, l_15, l_16, l_20, l_21, l_24, l_27, l_28, l_30, l_31, l_32, l_35, l_36, l_39, l_40, l_41, l_43, l_44, l_45, l_46, l_47, l_48, l_49, l_56, l_57, l_59, l_60, l_79, l_97, l_122, l_160, l_237, l_255, l_320, l_999, l_1000, nI_add, pk_mul, nI_eq, nI_leI, nI_ltI, nI_clamp, inb_nI_iff, e_within, e_in32, e_asNumber, e_flag, decide_eq_true_eq, Sum.elim_inl, Sum.elim_inr, true_implies, not_true_eq_false, not_false_eq_true, false_implies, and_true, true_and, nI_nn, nn_nI, nn_nn, ↓reduceIte, if_true, if_false, Nat.le_refl, implies_true, Nat.lt_irrefl, and_self_left, win1, nI_le_s1, Nat.zero_le, up_s, up_o, Nat.zero_add, m64_0, m64_1, m64_2, m64_3, m64_7, m64_8, m64_9, m64_10, m64_13, m64_20, m64_27, m64_60, hM1, s1, hn', hc', e1, e3, c1, t1, h8, g8, g9, vpn_n, b2i_b, hbb]
          repeat' (with_reducible (first | apply And.intro | intro _))
          all_goals first | omega | exact hRI
        · have g9 : T 0 0 = 8 := by omega
          simp (disch := omega) only [wp_some, wp_obd, wp_ob2, wp_bnd, wp_gd, wp_ite, wp_true, wp_ff, ↓l_n1, ↓l_n2, ↓l_n3, ↓l_n4, ↓l_n10, ↓l_n20, l_0, l_1, l_2, l_3, l_4, l_5, l_6, l_7, l_8, l_9, l_10, l_13, l_14, l_15, l_16, l_20, l_21, l_24, l_27, l_28, l_30, l_31, l_32, l_35, l_36, l_39, l_40, l_41, l_43, l_44, l_45, l_46, l_47, l_48, l_49, l_56, l_57, l_59, l_60, l_79, l_97, l_122, l_160, l_237, l_255, l_320, l_999, l_1000, nI_add, pk_mul, nI_eq, nI_leI, nI_ltI, nI_clamp, inb_nI_iff, e_within, e_in32, e_asNumber, e_flag, decide_eq_true_eq, Sum.elim_inl, Sum.elim_inr, true_implies, not_true_eq_false, not_false_eq_true, false_implies, and_true, true_and, nI_nn, nn_nI, nn_nn, ↓reduceIte, if_true, if_false, Nat.le_refl, implies_true, Nat.lt_irrefl, and_self_left, win1, nI_le_s1, Nat.zero_le, up_s, up_o, Nat.zero_add, m64_0, m64_1, m64_2, m64_3, m64_7, m64_8, m64_9, m64_10, m64_13, m64_20, m64_27, m64_60, hM1, s1, hn', hc', e1, e3, c1, t1, h8, g9]
          exact hR0
    · simp (disch := omega) only [wp_some, wp_obd, wp_ob2, wp_bnd, wp_gd, wp_ite, wp_true, wp_ff, ↓l_n1, ↓l_n2, ↓l_n3, ↓l_n4, ↓l_n10, ↓l_n20, l_0, l_1, l_2, l_3, l_4, l_5, l_6, l_7, l_8, l_9, l_10, l_13, l_14, l_15, l_16, l_20, l_21, l_24, l_27, l_28, l_30, l_31, l_32, l_35, l_36, l_39, l_40, l_41, l_43, l_44, l_45, l_46, l_47, l_48, l_49, l_56, l_57, l_59, l_60, l_79, l_97, l_122, l_160, l_237, l_255, l_320, l_999, l_1000, nI_add, pk_mul, nI_eq, nI_leI, nI_ltI, nI_clamp, inb_nI_iff, e_within, e_in32, e_asNumber, e_flag, decide_eq_true_eq, Sum.elim_inl, Sum.elim_inr, true_implies, not_true_eq_false, not_false_eq_true, false_implies, and_true, true_and, nI_nn, nn_nI, nn_nn, ↓reduceIte, if_true, if_false, Nat.le_refl, implies_true, Nat.lt_irrefl, and_self_left, win1, nI_le_s1, Nat.zero_le, up_s, up_o, Nat.zero_add, m64_0, m64_1, m64_2, m64_3, m64_7, m64_8, m64_9, m64_10, m64_13, m64_20, m64_27, m64_60, hM1, s1, hn', hc]
      exact hR0
  · simp (disch := omega) only [wp_some, wp_obd, wp_ob2, wp_bnd, wp_gd, wp_ite, wp_true, wp_ff, ↓l_n1, ↓l_n2, ↓l_n3, ↓l_n4, ↓l_n10, ↓l_n20, l_0, l_1, l_2, l_3, l_4, l_5, l_6, l_7, l_8, l_9, l_10, l_13, l_14, l_15, l_16, l_20, l_21, l_24, l_27, l_28, l_30, l_31, l_32, l_35, l_36, l_39, l_40, l_41, l_43, l_44, l_45, l_46, l_47, l_48, l_49, l_56, l_57, l_59, l_60, l_79, l_97, l_122, l_160, l_237, l_255, l_320, l_999, l_1000, nI_add, pk_mul, nI_eq, nI_leI, nI_ltI, nI_clamp, inb_nI_iff, e_within, e_in32, e_asNumber, e_flag, decide_eq_true_eq, Sum.elim_inl, Sum.elim_inr, true_implies, not_true_eq_false, not_false_eq_true, false_implies, and_true, true_and, nI_nn, nn_nI, nn_nn, ↓reduceIte, if_true, if_false, Nat.le_refl, implies_true, Nat.lt_irrefl, and_self_left, win1, nI_le_s1, Nat.zero_le, up_s, up_o, Nat.zero_add, m64_0, m64_1, m64_2, m64_3, m64_7, m64_8, m64_9, m64_10, m64_13, m64_20, m64_27, m64_60, hn]
    exact hR0
theorem o_sheet (k l n : Int32) (hR : RI h) : Ok (f_X9_sheet k l n h) (fun q => Ok (f_X10_sheet k l n q.2) (fun r => q.1 = r.1 ∧ RI r.2)) := by
  have hR0 := hR
  obtain ⟨B, T, hK, hN, hW, hRs⟩ := hR
  obtain ⟨hM0, hM1, hM2, hM3, hM4, hM5, hM6, hM7, hM8, hM9, hM10⟩ := hK.1
  obtain ⟨⟨⟨s0, s1, s2, s3, s4, s5, s6⟩, n0, n2⟩, hT⟩ := id hN
  have w0 := hW.1.1
  have w1 := hW.1.2.1
  have w2 := hW.1.2.2.1
  obtain ⟨i1, i2, i3, i4⟩ := id hRs
  unfold f_X9_sheet f_X10_sheet f_X9_isSheet f_X9_isLane f_X10_isSheet
  by_cases hk : nI 0 ≤ k ∧ k ≤ nI 3
  · obtain ⟨k', -, hk', rfl⟩ := rng (by decide) (by decide) hk
    by_cases hl : nI 0 ≤ l ∧ l ≤ nI 2
    · obtain ⟨l', -, hl', rfl⟩ := rng (by decide) (by decide) hl
      by_cases hn : n ≤ nI 40
      · by_cases hn0 : nI 0 ≤ n
        · obtain ⟨n', -, hn', rfl⟩ := rng (by decide) (by decide) ⟨hn0, hn⟩
          simp (disch := omega) only [wp_some, wp_obd, wp_ob2, wp_bnd, wp_gd, wp_ite, wp_true, wp_ff, ↓l_n1, ↓l_n2, ↓l_n3, ↓l_n4, ↓l_n10, ↓l_n20, l_0, l_1, l_2, l_3, l_4, l_5, l_6, l_7, l_8, l_9, l_10, l_13, l_14, l_15, l_16, l_20, l_21, l_24, l_27, l_28, l_30, l_31, l_32, l_35, l_36, l_39, l_40, l_41, l_43, l_44, l_45, l_46, l_47, l_48, l_49, l_56, l_57, l_59, l_60, l_79, l_97, l_122, l_160, l_237, l_255, l_320, l_999, l_1000, nI_add, pk_mul, nI_eq, nI_leI, nI_ltI, nI_clamp, inb_nI_iff, e_within, e_in32, e_asNumber, e_flag, decide_eq_true_eq, Sum.elim_inl, Sum.elim_inr, true_implies, not_true_eq_false, not_false_eq_true, false_implies, and_true, true_and, nI_nn, nn_nI, nn_nn, ↓reduceIte, if_true, if_false, Nat.le_refl, implies_true, Nat.lt_irrefl, and_self_left, win1, nI_le_s1, Nat.zero_le, up_s, up_o, Nat.zero_add, m64_0, m64_1, m64_2, m64_3, m64_7, m64_8, m64_9, m64_10, m64_13, m64_20, m64_27, m64_60, hk', hl', hn']
          refine ⟨by omega, ?_⟩
          unfold f_X5_renew
          simp only [wp_bnd, wp_obd]
          refine (ok_up (K := fun h1 => (∀ k j o i, ¬ (k = 23 ∧ o = k') → h1 k j o i = up (up h 22 1 k' 0 (nI l')) 22 2 k' 0 (nI n') k j o i) ∧ ∀ i, i < 40 → h1 23 0 k' i = nI 0) 40 (fun j z => z.1 = nI j ∧ (∀ k j o i, ¬ (k = 23 ∧ o = k') → z.2 k j o i = up (up h 22 1 k' 0 (nI l')) 22 2 k' 0 (nI n') k j o i) ∧ ∀ i, i < j → z.2 23 0 k' i = nI 0) (by omega) ?_ ?_ _ ⟨rfl, fun _ _ _ _ _ => rfl, fun i hi => by omega⟩).mono ?_
          · rintro j ⟨x, z⟩ hj ⟨hx, h1, h2⟩
            dsimp only at hx h1 h2
            subst hx
            simp (disch := omega) only [wp_some, wp_obd, wp_ob2, wp_bnd, wp_gd, wp_ite, wp_true, wp_ff, ↓l_n1, ↓l_n2, ↓l_n3, ↓l_n4, ↓l_n10, ↓l_n20, l_0, l_1, l_2, l_3, l_4, l_5, l_6, l_7, l_8, l_9, l_10, l_13, l_14, l_15, l_16, l_20, l_21, l_24, l_27, l_28, l_30, l_31, l_32, l_35, l_36, l_39, l_40, l_41, l_43, l_44, l_45, l_46, l_47, l_48, l_49, l_56, l_57, l_59, l_60, l_79, l_97, l_122, l_160, l_237, l_255, l_320, l_999, l_1000, nI_add, pk_mul, nI_eq, nI_leI, nI_ltI, nI_clamp, inb_nI_iff, e_within, e_in32, e_asNumber, e_flag, decide_eq_true_eq, Sum.elim_inl, Sum.elim_inr, true_implies, not_true_eq_false, not_false_eq_true, false_implies, and_true, true_and, nI_nn, nn_nI, nn_nn, ↓reduceIte, if_true, if_false, Nat.le_refl, implies_true, Nat.lt_irrefl, and_self_left]
            refine ⟨fun e => by omega, fun _ => ⟨hj, fun k j' o i hh => ?_, fun i hi => ?_⟩⟩
            · rw [up_o (by omega)]; exact h1 k j' o i hh
            · by_cases e : i = j
              · subst e; (try simp (disch := omega) only [up_s, up_o, and_self])
              · rw [up_o (by omega)]; exact h2 i (by omega)
          · rintro ⟨x, z⟩ ⟨hx, h1, h2⟩
            dsimp only at hx h1 h2
            subst hx
            simp (disch := omega) only [wp_some, wp_obd, wp_ob2, wp_bnd, wp_gd, wp_ite, wp_true, wp_ff, ↓l_n1, ↓l_n2, ↓l_n3, ↓l_n4, ↓l_n10, ↓l_n20, l_0, l_1, l_2, l_3, l_4, l_5, l_6, l_7, l_8, l_9, l_10, l_13, l_14, l_15, l_16, l_20, l_21, l_24, l_27, l_28, l_30, l_31, l_32, l_35, l_36, l_39, l_40, l_41, l_43, l_44, l_45, l_46, l_47, l_48, l_49, l_56, l_57, l_59, l_60, l_79, l_97, l_122, l_160, l_237, l_255, l_320, l_999, l_1000, nI_add, pk_mul, nI_eq, nI_leI, nI_ltI, nI_clamp, inb_nI_iff, e_within, e_in32, e_asNumber, e_flag, decide_eq_true_eq, Sum.elim_inl, Sum.elim_inr, true_implies, not_true_eq_false, not_false_eq_true, false_implies, and_true, true_and, nI_nn, nn_nI, nn_nn, ↓reduceIte, if_true, if_false, Nat.le_refl, implies_true, Nat.lt_irrefl, and_self_left]
            exact ⟨h1, h2⟩
          rintro h1 ⟨f1, f2⟩
          simp (disch := omega) only [wp_some, wp_obd, wp_ob2, wp_bnd, wp_gd, wp_ite, wp_true, wp_ff, ↓l_n1, ↓l_n2, ↓l_n3, ↓l_n4, ↓l_n10, ↓l_n20, l_0, l_1, l_2, l_3, l_4, l_5, l_6, l_7, l_8, l_9, l_10, l_13, l_14, l_15, l_16, l_20, l_21, l_24, l_27, l_28, l_30, l_31, l_32, l_35, l_36, l_39, l_40, l_41, l_43, l_44, l_45, l_46, l_47, l_48, l_49, l_56, l_57, l_59, l_60, l_79, l_97, l_122, l_160, l_237, l_255, l_320, l_999, l_1000, nI_add, pk_mul, nI_eq, nI_leI, nI_ltI, nI_clamp, inb_nI_iff, e_within, e_in32, e_asNumber, e_flag, decide_eq_true_eq, Sum.elim_inl, Sum.elim_inr, true_implies, not_true_eq_false, not_false_eq_true, false_implies, and_true, true_and, nI_nn, nn_nI, nn_nn, ↓reduceIte, if_true, if_false, Nat.le_refl, implies_true, Nat.lt_irrefl, and_self_left]
          refine ⟨by omega, ?_⟩
          refine (ok_up (K := fun h2 => (∀ k j o i, ¬ (k = 42 ∧ 40 * k' ≤ i ∧ i < 40 * k' + 40) → h2 k j o i = up (up h1 40 0 0 k' (nI l')) 41 0 0 k' (nI n') k j o i) ∧ ∀ i, i < 40 → h2 42 0 0 (40 * k' + i) = nI 0) 40 (fun j z => z.1 = nI j ∧ (∀ k j o i, ¬ (k = 42 ∧ 40 * k' ≤ i ∧ i < 40 * k' + 40) → z.2 k j o i = up (up h1 40 0 0 k' (nI l')) 41 0 0 k' (nI n') k j o i) ∧ ∀ i, i < j → z.2 42 0 0 (40 * k' + i) = nI 0) (by omega) ?_ ?_ _ ⟨rfl, fun _ _ _ _ _ => rfl, fun i hi => by omega⟩).mono ?_
          · rintro j ⟨x, z⟩ hj ⟨hx, h1, h2⟩
            dsimp only at hx h1 h2
            subst hx
            simp (disch := omega) only [wp_some, wp_obd, wp_ob2, wp_bnd, wp_gd, wp_ite, wp_true, wp_ff, ↓l_n1, ↓l_n2, ↓l_n3, ↓l_n4, ↓l_n10, ↓l_n20, l_0, l_1, l_2, l_3, l_4, l_5, l_6, l_7, l_8, l_9, l_10, l_13, l_14, l_15, l_16, l_20, l_21, l_24, l_27, l_28, l_30, l_31, l_32, l_35, l_36, l_39, l_40, l_41, l_43, l_44, l_45, l_46, l_47, l_48, l_49, l_56, l_57, l_59, l_60, l_79, l_97, l_122, l_160, l_237, l_255, l_320, l_999, l_1000, nI_add, pk_mul, nI_eq, nI_leI, nI_ltI, nI_clamp, inb_nI_iff, e_within, e_in32, e_asNumber, e_flag, decide_eq_true_eq, Sum.elim_inl, Sum.elim_inr, true_implies, not_true_eq_false, not_false_eq_true, false_implies, and_true, true_and, nI_nn, nn_nI, nn_nn, ↓reduceIte, if_true, if_false, Nat.le_refl, implies_true, Nat.lt_irrefl, and_self_left]
            refine ⟨fun e => by omega, fun _ => ⟨by omega, fun k j' o i hh => ?_, fun i hi => ?_⟩⟩
            · rw [up_o (by omega)]; exact h1 k j' o i hh
            · by_cases e : i = j
              · subst e; (try simp (disch := omega) only [up_s, up_o, and_self])
              · rw [up_o (by omega)]; exact h2 i (by omega)
          · rintro ⟨x, z⟩ ⟨hx, h1, h2⟩
            dsimp only at hx h1 h2
            subst hx
            simp (disch := omega) only [wp_some, wp_obd, wp_ob2, wp_bnd, wp_gd, wp_ite, wp_true, wp_ff, ↓l_n1, ↓l_n2, ↓l_n3, ↓l_n4, ↓l_n10, ↓l_n20, l_0, l_1, l_2, l_3, l_4, l_5, l_6, l_7, l_8, l_9, l_10, l_13, l_14, l_15, l_16, l_20, l_21, l_24, l_27, l_28, l_30, l_31, l_32, l_35, l_36, l_39, l_40, l_41, l_43, l_44, l_45, l_46, l_47, l_48, l_49, l_56, l_57, l_59, l_60, l_79, l_97, l_122, l_160, l_237, l_255, l_320, l_999, l_1000, nI_add, pk_mul, nI_eq, nI_leI, nI_ltI, nI_clamp, inb_nI_iff, e_within, e_in32, e_asNumber, e_flag, decide_eq_true_eq, Sum.elim_inl, Sum.elim_inr, true_implies, not_true_eq_false, not_false_eq_true, false_implies, and_true, true_and, nI_nn, nn_nI, nn_nn, ↓reduceIte, if_true, if_false, Nat.le_refl, implies_true, Nat.lt_irrefl, and_self_left]
            exact ⟨h1, h2⟩
          rintro h2 ⟨g1, g2⟩
          have fr : ∀ k j o i, ¬ (k = 42 ∧ 40 * k' ≤ i ∧ i < 40 * k' + 40) → ¬ (k = 23 ∧ o = k') → ¬ (k = 22 ∧ o = k') → ¬ ((k = 40 ∨ k = 41) ∧ i = k') → h2 k j o i = h k j o i := by
            intro k j o i a1 a2 a3 a4
            rw [g1 k j o i a1, up_o (by omega), up_o (by omega), f1 k j o i a2, up_o (by omega), up_o (by omega)]
          refine ⟨B, T, KN_hi hK (fun k j o i hh => fr _ _ _ _ (by omega) (by omega) (by omega) (by omega)), RN_lo hN hW (fun k j o i hh => fr _ _ _ _ (by omega) (by omega) (by omega) (by omega)), hW, fun k hk => IM_fr hk (i1 k hk) (fun k' j o i hh => fr _ _ _ _ (by omega) (by omega) (by omega) (by omega)), fun k hk => ?_, TP_fr i3 (fun k' j o i hh => fr _ _ _ _ (by omega) (by omega) (by omega) (by omega)), TR_fr i4 (fun k' j o i hh => fr _ _ _ _ (by omega) (by omega) (by omega) (by omega))⟩
          by_cases e : k = k'
          · subst e
            refine ⟨some l', ?_, ?_, fun v hv => ?_, fun i hi => ?_⟩
            · rw [g1 _ _ _ _ (by omega), up_o (by omega), up_o (by omega), f1 _ _ _ _ (by omega), up_o (by omega), up_s]; rfl
            · rw [g1 _ _ _ _ (by omega), up_o (by omega), up_s]; rfl
            · cases hv
              refine ⟨hl', n', hn', ?_, ?_⟩
              · rw [g1 _ _ _ _ (by omega), up_o (by omega), up_o (by omega), f1 _ _ _ _ (by omega), up_s]
              · rw [g1 _ _ _ _ (by omega), up_s]
            · rw [g1 23 _ _ _ (by omega), up_o (by omega), up_o (by omega), f2 i hi, g2 i hi]
          · exact SH_fr hk (i2 k hk) (fun k' j o i hh => fr _ _ _ _ (by omega) (by omega) (by omega) (by omega))
        · simp (disch := omega) only [wp_some, wp_obd, wp_ob2, wp_bnd, wp_gd, wp_ite, wp_true, wp_ff, ↓l_n1, ↓l_n2, ↓l_n3, ↓l_n4, ↓l_n10, ↓l_n20, l_0, l_1, l_2, l_3, l_4, l_5, l_6, l_7, l_8, l_9, l_10, l_13, l_14, l_15, l_16, l_20, l_21, l_24, l_27, l_28, l_30, l_31, l_32, l_35, l_36, l_39, l_40, l_41, l_43, l_44, l_45, l_46, l_47, l_48, l_49, l_56, l_57, l_59, l_60, l_79, l_97, l_122, l_160, l_237, l_255, l_320, l_999, l_1000, nI_add, pk_mul, nI_eq, nI_leI, nI_ltI, nI_clamp, inb_nI_iff, e_within, e_in32, e_asNumber, e_flag, decide_eq_true_eq, Sum.elim_inl, Sum.elim_inr, true_implies, not_true_eq_false, not_false_eq_true, false_implies, and_true, true_and, nI_nn, nn_nI, nn_nn, ↓reduceIte, if_true, if_false, Nat.le_refl, implies_true, Nat.lt_irrefl, and_self_left, win1, nI_le_s1, Nat.zero_le, up_s, up_o, Nat.zero_add, m64_0, m64_1, m64_2, m64_3, m64_7, m64_8, m64_9, m64_10, m64_13, m64_20, m64_27, m64_60, hk', hl', hn, hn0, ↓l_m14]
          exact hR0
      · simp (disch := omega) only [wp_some, wp_obd, wp_ob2, wp_bnd, wp_gd, wp_ite, wp_true, wp_ff, ↓l_n1, ↓l_n2, ↓l_n3, ↓l_n4, ↓l_n10, ↓l_n20, l_0, l_1, l_2, l_3, l_4, l_5, l_6, l_7, l_8, l_9, l_10, l_13, l_14, l_15, l_16, l_20, l_21, l_24, l_27, l_28, l_30, l_31, l_32, l_35, l_36, l_39, l_40, l_41, l_43, l_44, l_45, l_46, l_47, l_48, l_49, l_56, l_57, l_59, l_60, l_79, l_97, l_122, l_160, l_237, l_255, l_320, l_999, l_1000, nI_add, pk_mul, nI_eq, nI_leI, nI_ltI, nI_clamp, inb_nI_iff, e_within, e_in32, e_asNumber, e_flag, decide_eq_true_eq, Sum.elim_inl, Sum.elim_inr, true_implies, not_true_eq_false, not_false_eq_true, false_implies, and_true, true_and, nI_nn, nn_nI, nn_nn, ↓reduceIte, if_true, if_false, Nat.le_refl, implies_true, Nat.lt_irrefl, and_self_left, win1, nI_le_s1, Nat.zero_le, up_s, up_o, Nat.zero_add, m64_0, m64_1, m64_2, m64_3, m64_7, m64_8, m64_9, m64_10, m64_13, m64_20, m64_27, m64_60, hk', hl', hn]
        exact hR0
    · simp (disch := omega) only [wp_some, wp_obd, wp_ob2, wp_bnd, wp_gd, wp_ite, wp_true, wp_ff, ↓l_n1, ↓l_n2, ↓l_n3, ↓l_n4, ↓l_n10, ↓l_n20, l_0, l_1, l_2, l_3, l_4, l_5, l_6, l_7, l_8, l_9, l_10, l_13, l_14, l_15, l_16, l_20, l_21, l_24, l_27, l_28, l_30, l_31, l_32, l_35, l_36, l_39, l_40, l_41, l_43, l_44, l_45, l_46, l_47, l_48, l_49, l_56, l_57, l_59, l_60, l_79, l_97, l_122, l_160, l_237, l_255, l_320, l_999, l_1000, nI_add, pk_mul, nI_eq, nI_leI, nI_ltI, nI_clamp, inb_nI_iff, e_within, e_in32, e_asNumber, e_flag, decide_eq_true_eq, Sum.elim_inl, Sum.elim_inr, true_implies, not_true_eq_false, not_false_eq_true, false_implies, and_true, true_and, nI_nn, nn_nI, nn_nn, ↓reduceIte, if_true, if_false, Nat.le_refl, implies_true, Nat.lt_irrefl, and_self_left, win1, nI_le_s1, Nat.zero_le, up_s, up_o, Nat.zero_add, m64_0, m64_1, m64_2, m64_3, m64_7, m64_8, m64_9, m64_10, m64_13, m64_20, m64_27, m64_60, hk', hl]
      exact hR0
  · simp (disch := omega) only [wp_some, wp_obd, wp_ob2, wp_bnd, wp_gd, wp_ite, wp_true, wp_ff, ↓l_n1, ↓l_n2, ↓l_n3, ↓l_n4, ↓l_n10, ↓l_n20, l_0, l_1, l_2, l_3, l_4, l_5, l_6, l_7, l_8, l_9, l_10, l_13, l_14, l_15, l_16, l_20, l_21, l_24, l_27, l_28, l_30, l_31, l_32, l_35, l_36, l_39, l_40, l_41, l_43, l_44, l_45, l_46, l_47, l_48, l_49, l_56, l_57, l_59, l_60, l_79, l_97, l_122, l_160, l_237, l_255, l_320, l_999, l_1000, nI_add, pk_mul, nI_eq, nI_leI, nI_ltI, nI_clamp, inb_nI_iff, e_within, e_in32, e_asNumber, e_flag, decide_eq_true_eq, Sum.elim_inl, Sum.elim_inr, true_implies, not_true_eq_false, not_false_eq_true, false_implies, and_true, true_and, nI_nn, nn_nI, nn_nn, ↓reduceIte, if_true, if_false, Nat.le_refl, implies_true, Nat.lt_irrefl, and_self_left, win1, nI_le_s1, Nat.zero_le, up_s, up_o, Nat.zero_add, m64_0, m64_1, m64_2, m64_3, m64_7, m64_8, m64_9, m64_10, m64_13, m64_20, m64_27, m64_60, hk]
    exact hR0
theorem o_lay (k x v : Int32) (hR : RI h) : Ok (f_X9_lay k x v h) (fun q => Ok (f_X10_lay k x v q.2) (fun r => q.1 = r.1 ∧ RI r.2)) := by
  have hR0 := hR
  obtain ⟨B, T, hK, hN, hW, hRs⟩ := hR
  obtain ⟨hM0, hM1, hM2, hM3, hM4, hM5, hM6, hM7, hM8, hM9, hM10⟩ := hK.1
  obtain ⟨⟨⟨s0, s1, s2, s3, s4, s5, s6⟩, n0, n2⟩, hT⟩ := id hN
  have w0 := hW.1.1
  have w1 := hW.1.2.1
  have w2 := hW.1.2.2.1
  obtain ⟨i1, i2, i3, i4⟩ := id hRs
  unfold f_X9_lay f_X10_lay f_X9_isSheet f_X10_isSheet
  by_cases hk : nI 0 ≤ k ∧ k ≤ nI 3
  · obtain ⟨k', -, hk', rfl⟩ := rng (by decide) (by decide) hk
    obtain ⟨l, a1, a2, a3, a4⟩ := i2 k' (by omega)
    unfold f_X5_put f_X5_faultAt
    cases l with
    | none =>
      rw [on_none] at a1 a2
      simp (disch := omega) only [wp_some, wp_obd, wp_ob2, wp_bnd, wp_gd, wp_ite, wp_true, wp_ff, ↓l_n1, ↓l_n2, ↓l_n3, ↓l_n4, ↓l_n10, ↓l_n20, l_0, l_1, l_2, l_3, l_4, l_5, l_6, l_7, l_8, l_9, l_10, l_13, l_14, l_15, l_16, l_20, l_21, l_24, l_27, l_28, l_30, l_31, l_32, l_35, l_36, l_39, l_40, l_41, l_43, l_44, l_45, l_46, l_47, l_48, l_49, l_56, l_57, l_59, l_60, l_79, l_97, l_122, l_160, l_237, l_255, l_320, l_999, l_1000, nI_add, pk_mul, nI_eq, nI_leI, nI_ltI, nI_clamp, inb_nI_iff, e_within, e_in32, e_asNumber, e_flag, decide_eq_true_eq, Sum.elim_inl, Sum.elim_inr, true_implies, not_true_eq_false, not_false_eq_true, false_implies, and_true, true_and, nI_nn, nn_nI, nn_nn, ↓reduceIte, if_true, if_false, Nat.le_refl, implies_true, Nat.lt_irrefl, and_self_left, win1, nI_le_s1, Nat.zero_le, up_s, up_o, Nat.zero_add, m64_0, m64_1, m64_2, m64_3, m64_7, m64_8, m64_9, m64_10, m64_13, m64_20, m64_27, m64_60, hk', a1, a2, nn10_1, ↓l_m11]
      repeat' (with_reducible (first | apply And.intro | intro _))
      all_goals first | omega | exact hR0
    | some l =>
      rw [on_sm] at a1 a2
      obtain ⟨hl, n, hn, b1, b2⟩ := a3 l rfl
      by_cases hx : inb x n
      · obtain ⟨x', hx', rfl⟩ := inb_of hx (by omega)
        have fin : ∀ w : Int32, RI (up (up h 23 0 k' x' w) 42 0 0 (40 * k' + x') w) := by
          intro w
          refine ⟨B, T, KN_hi hK (fun k j o i hh => by simp (disch := omega) only [up_s, up_o]), RN_lo hN hW (fun k j o i hh => by simp (disch := omega) only [up_s, up_o]), hW, fun k hk => IM_fr hk (i1 k hk) (fun k' j o i hh => by simp (disch := omega) only [up_s, up_o]), fun k hk => ?_, TP_fr i3 (fun k' j o i hh => by simp (disch := omega) only [up_s, up_o]), TR_fr i4 (fun k' j o i hh => by simp (disch := omega) only [up_s, up_o])⟩
          by_cases e : k = k'
          · subst e
            refine ⟨some l, by (try simp (disch := omega) only [up_s, up_o, and_self]); exact a1, by (try simp (disch := omega) only [up_s, up_o, and_self]); exact a2, fun v hv => ?_, fun i hi => ?_⟩
            · cases hv
              exact ⟨hl, n, hn, by (try simp (disch := omega) only [up_s, up_o, and_self]); exact b1, by (try simp (disch := omega) only [up_s, up_o, and_self]); exact b2⟩
            · by_cases e : i = x'
              · subst e; (try simp (disch := omega) only [up_s, up_o, and_self])
              · (try simp (disch := omega) only [up_s, up_o, and_self]); exact a4 i hi
          · exact SH_fr hk (i2 k hk) (fun k' j o i hh => by simp (disch := omega) only [up_s, up_o])
        simp (disch := omega) only [wp_some, wp_obd, wp_ob2, wp_bnd, wp_gd, wp_ite, wp_true, wp_ff, ↓l_n1, ↓l_n2, ↓l_n3, ↓l_n4, ↓l_n10, ↓l_n20, l_0, l_1, l_2, l_3, l_4, l_5, l_6, l_7, l_8, l_9, l_10, l_13, l_14, l_15, l_16, l_20, l_21, l_24, l_27, l_28, l_30, l_31, l_32, l_35, l_36, l_39, l_40, l_41, l_43, l_44, l_45, l_46, l_47, l_48, l_49, l_56, l_57, l_59, l_60, l_79, l_97, l_122, l_160, l_237, l_255, l_320, l_999, l_1000, nI_add, pk_mul, nI_eq, nI_leI, nI_ltI, nI_clamp, inb_nI_iff, e_within, e_in32, e_asNumber, e_flag, decide_eq_true_eq, Sum.elim_inl, Sum.elim_inr, true_implies, not_true_eq_false, not_false_eq_true, false_implies, and_true, true_and, nI_nn, nn_nI, nn_nn, ↓reduceIte, if_true, if_false, Nat.le_refl, implies_true, Nat.lt_irrefl, and_self_left, win1, nI_le_s1, Nat.zero_le, up_s, up_o, Nat.zero_add, m64_0, m64_1, m64_2, m64_3, m64_7, m64_8, m64_9, m64_10, m64_13, m64_20, m64_27, m64_60, hk', a1, a2, b1, b2, hx']
        repeat' (with_reducible (first | apply And.intro | intro _))
        all_goals first | omega | exact fin _ | exact hR0
      · simp (disch := omega) only [wp_some, wp_obd, wp_ob2, wp_bnd, wp_gd, wp_ite, wp_true, wp_ff, ↓l_n1, ↓l_n2, ↓l_n3, ↓l_n4, ↓l_n10, ↓l_n20, l_0, l_1, l_2, l_3, l_4, l_5, l_6, l_7, l_8, l_9, l_10, l_13, l_14, l_15, l_16, l_20, l_21, l_24, l_27, l_28, l_30, l_31, l_32, l_35, l_36, l_39, l_40, l_41, l_43, l_44, l_45, l_46, l_47, l_48, l_49, l_56, l_57, l_59, l_60, l_79, l_97, l_122, l_160, l_237, l_255, l_320, l_999, l_1000, nI_add, pk_mul, nI_eq, nI_leI, nI_ltI, nI_clamp, inb_nI_iff, e_within, e_in32, e_asNumber, e_flag, decide_eq_true_eq, Sum.elim_inl, Sum.elim_inr, true_implies, not_true_eq_false, not_false_eq_true, false_implies, and_true, true_and, nI_nn, nn_nI, nn_nn, ↓reduceIte, if_true, if_false, Nat.le_refl, implies_true, Nat.lt_irrefl, and_self_left, win1, nI_le_s1, Nat.zero_le, up_s, up_o, Nat.zero_add, m64_0, m64_1, m64_2, m64_3, m64_7, m64_8, m64_9, m64_10, m64_13, m64_20, m64_27, m64_60, hk', a1, a2, b1, b2, hx, nn10_2, ↓l_m12]
        repeat' (with_reducible (first | apply And.intro | intro _))
        all_goals first | omega | exact hR0
  · simp (disch := omega) only [wp_some, wp_obd, wp_ob2, wp_bnd, wp_gd, wp_ite, wp_true, wp_ff, ↓l_n1, ↓l_n2, ↓l_n3, ↓l_n4, ↓l_n10, ↓l_n20, l_0, l_1, l_2, l_3, l_4, l_5, l_6, l_7, l_8, l_9, l_10, l_13, l_14, l_15, l_16, l_20, l_21, l_24, l_27, l_28, l_30, l_31, l_32, l_35, l_36, l_39, l_40, l_41, l_43, l_44, l_45, l_46, l_47, l_48, l_49, l_56, l_57, l_59, l_60, l_79, l_97, l_122, l_160, l_237, l_255, l_320, l_999, l_1000, nI_add, pk_mul, nI_eq, nI_leI, nI_ltI, nI_clamp, inb_nI_iff, e_within, e_in32, e_asNumber, e_flag, decide_eq_true_eq, Sum.elim_inl, Sum.elim_inr, true_implies, not_true_eq_false, not_false_eq_true, false_implies, and_true, true_and, nI_nn, nn_nI, nn_nn, ↓reduceIte, if_true, if_false, Nat.le_refl, implies_true, Nat.lt_irrefl, and_self_left, win1, nI_le_s1, Nat.zero_le, up_s, up_o, Nat.zero_add, m64_0, m64_1, m64_2, m64_3, m64_7, m64_8, m64_9, m64_10, m64_13, m64_20, m64_27, m64_60, hk]
    exact hR0
theorem o_count (x : Int32) (hR : RI h) : Ok (f_X9_count x h) (fun q => Ok (f_X10_count x h) (fun r => q = r.1 ∧ RI r.2)) := by
  have hR0 := hR
  obtain ⟨B, T, hK, hN, hW, hRs⟩ := hR
  obtain ⟨hM0, hM1, hM2, hM3, hM4, hM5, hM6, hM7, hM8, hM9, hM10⟩ := hK.1
  obtain ⟨⟨⟨s0, s1, s2, s3, s4, s5, s6⟩, n0, n2⟩, hT⟩ := id hN
  have w0 := hW.1.1
  have w1 := hW.1.2.1
  have w2 := hW.1.2.2.1
  obtain ⟨i1, i2, ⟨t, u, t1, t2, t3, t4⟩, i4⟩ := id hRs
  obtain ⟨y0, y1, y2, -⟩ := i1 0 (by omega)
  obtain ⟨z0, z1, z2, -⟩ := i1 1 (by omega)
  obtain ⟨l, a1, a2, a3, -⟩ := i2 0 (by omega)
  have cb := fun a b => c_countBetween hK.1 hW.1 a b
  unfold f_X9_count f_X10_count
  have hlp : Ok (lp fu (fun a23 => (if (h 25 0 0 8) ≤ a23.2.2.2 then some (.inr (a23.1, a23.2.1, a23.2.2.1)) else gd (inb ((21 : Int32) + a23.2.2.2) 237) (obd ((if (8 : Int32) ≤ (h 25 0 0 ((21 : Int32) + a23.2.2.2).toNatClampNeg) then some false else some true)) (fun a24 => obd (f_X10_flag a24 h) (fun r25 => bnd (a23.1 + r25) (fun x26 => gd (inb ((21 : Int32) + a23.2.2.2) 237) (obd (f_X10_in ((h 25 0 0 ((21 : Int32) + a23.2.2.2).toNatClampNeg).toInt64) (10 : Int64) (13 : Int64) h) (fun r27 => obd (f_X10_flag r27 h) (fun r28 => bnd (a23.2.1 + r28) (fun x29 => gd (inb ((21 : Int32) + a23.2.2.2) 237) (obd (f_X10_in ((h 25 0 0 ((21 : Int32) + a23.2.2.2).toNatClampNeg).toInt64) (20 : Int64) (27 : Int64) h) (fun r30 => obd (f_X10_flag r30 h) (fun r31 => bnd (a23.2.2.1 + r31) (fun x32 => bnd (a23.2.2.2 + (1 : Int32)) (fun x33 => some (.inl (x26, x29, x32, x33))))))))))))))))) ((0 : Int32), (0 : Int32), (0 : Int32), (0 : Int32))) (fun e => e.1 = nI (cnt (fun c => decide (nI 0 ≤ nI (B 11 c) ∧ nI (B 11 c) ≤ nI 7)) (B 1 0)) ∧ e.2.1 = nI (cnt (fun c => decide (nI 10 ≤ nI (B 11 c) ∧ nI (B 11 c) ≤ nI 13)) (B 1 0)) ∧ e.2.2 = nI (cnt (fun c => decide (nI 20 ≤ nI (B 11 c) ∧ nI (B 11 c) ≤ nI 27)) (B 1 0))) := by
    refine ok_up (B 1 0) (fun j z => z.2.2.2 = nI j ∧ z.1 = nI (cnt (fun c => decide (nI 0 ≤ nI (B 11 c) ∧ nI (B 11 c) ≤ nI 7)) j) ∧ z.2.1 = nI (cnt (fun c => decide (nI 10 ≤ nI (B 11 c) ∧ nI (B 11 c) ≤ nI 13)) j) ∧ z.2.2.1 = nI (cnt (fun c => decide (nI 20 ≤ nI (B 11 c) ∧ nI (B 11 c) ≤ nI 27)) j)) (by omega) ?_ ?_ _ ⟨rfl, rfl, rfl, rfl⟩
    · rintro j ⟨p0, p1, p2, x⟩ hj ⟨hx, h0, h1, h2⟩
      dsimp only at hx h0 h1 h2
      subst hx h0 h1 h2
      have e := (s2 j hj).2.2
      have hb := wok_lt w2 (hW.1.2.2.2.2.2.2.2.2.2.2.1 j hj).2.2
      simp (disch := omega) only [wp_some, wp_obd, wp_ob2, wp_bnd, wp_gd, wp_ite, wp_true, wp_ff, ↓l_n1, ↓l_n2, ↓l_n3, ↓l_n4, ↓l_n10, ↓l_n20, l_0, l_1, l_2, l_3, l_4, l_5, l_6, l_7, l_8, l_9, l_10, l_13, l_14, l_15, l_16, l_20, l_21, l_24, l_27, l_28, l_30, l_31, l_32, l_35, l_36, l_39, l_40, l_41, l_43, l_44, l_45, l_46, l_47, l_48, l_49, l_56, l_57, l_59, l_60, l_79, l_97, l_122, l_160, l_237, l_255, l_320, l_999, l_1000, nI_add, pk_mul, nI_eq, nI_leI, nI_ltI, nI_clamp, inb_nI_iff, e_within, e_in32, e_asNumber, e_flag, decide_eq_true_eq, Sum.elim_inl, Sum.elim_inr, true_implies, not_true_eq_false, not_false_eq_true, false_implies, and_true, true_and, nI_nn, nn_nI, nn_nn, ↓reduceIte, if_true, if_false, Nat.le_refl, implies_true, Nat.lt_irrefl, and_self_left, win1, nI_le_s1, Nat.zero_le, up_s, up_o, Nat.zero_add, m64_0, m64_1, m64_2, m64_3, m64_7, m64_8, m64_9, m64_10, m64_13, m64_20, m64_27, m64_60, s1, e, b2i_b, cnt]
      repeat' (with_reducible (first | apply And.intro | intro _))
      all_goals first | omega | (refine congrArg nI ?_; (repeat' split) <;> first | omega | rfl | (exfalso; simp at *; omega))
    · rintro ⟨p0, p1, p2, x⟩ ⟨hx, h0, h1, h2⟩
      dsimp only at hx h0 h1 h2
      subst hx h0 h1 h2
      simp (disch := omega) only [wp_some, wp_obd, wp_ob2, wp_bnd, wp_gd, wp_ite, wp_true, wp_ff, ↓l_n1, ↓l_n2, ↓l_n3, ↓l_n4, ↓l_n10, ↓l_n20, l_0, l_1, l_2, l_3, l_4, l_5, l_6, l_7, l_8, l_9, l_10, l_13, l_14, l_15, l_16, l_20, l_21, l_24, l_27, l_28, l_30, l_31, l_32, l_35, l_36, l_39, l_40, l_41, l_43, l_44, l_45, l_46, l_47, l_48, l_49, l_56, l_57, l_59, l_60, l_79, l_97, l_122, l_160, l_237, l_255, l_320, l_999, l_1000, nI_add, pk_mul, nI_eq, nI_leI, nI_ltI, nI_clamp, inb_nI_iff, e_within, e_in32, e_asNumber, e_flag, decide_eq_true_eq, Sum.elim_inl, Sum.elim_inr, true_implies, not_true_eq_false, not_false_eq_true, false_implies, and_true, true_and, nI_nn, nn_nI, nn_nn, ↓reduceIte, if_true, if_false, Nat.le_refl, implies_true, Nat.lt_irrefl, and_self_left, win1, nI_le_s1, Nat.zero_le, up_s, up_o, Nat.zero_add, m64_0, m64_1, m64_2, m64_3, m64_7, m64_8, m64_9, m64_10, m64_13, m64_20, m64_27, m64_60, s1]
  have hst : Ok (f_X10_starts h) (fun g => f_X10_rightMany g = some (nI (cnt (rgt B) (B 1 0))) ∧ RI g) := (m_starts hN.1 hW.1 hW.2.1).mono (fun g hg => ⟨m_rightMany hg.1 hW.1, RI_fra hR0 hg.2.fra⟩)
  have hcr := c_countRight hK.1 hW.1
  have hma := m_manyAt hN.1.1 hW.1 (nI 30)
  have hsea : cnt (fun c => decide (nI 30 ≤ nI (B 11 c) ∧ nI (B 11 c) ≤ nI 30)) (B 1 0) = cnt (fun c => decide (nI (B 11 c) = nI 30)) (B 1 0) := by
    refine cnt_congr (fun c hc => ?_)
    rw [decide_eq_decide]
    constructor
    · rintro ⟨a, b⟩; exact Int32.le_antisymm b a
    · intro e; rw [e]; exact ⟨Int32.le_refl _, Int32.le_refl _⟩
  obtain ⟨⟨e0, e1, e2⟩, he, hp0, hp1, hp2⟩ := hlp
  dsimp only at hp0 hp1 hp2
  subst hp0 hp1 hp2
  rw [he]
  clear he
  have cb0 := cb (nI 0) (nI 7)
  have cb1 := cb (nI 10) (nI 13)
  have cb2 := cb (nI 20) (nI 27)
  have cb3 := cb (nI 30) (nI 30)
  rw [hsea] at cb3
  generalize cnt (fun c => decide (nI 0 ≤ nI (B 11 c) ∧ nI (B 11 c) ≤ nI 7)) (B 1 0) = N0 at cb0 ⊢
  generalize cnt (fun c => decide (nI 10 ≤ nI (B 11 c) ∧ nI (B 11 c) ≤ nI 13)) (B 1 0) = N1 at cb1 ⊢
  generalize cnt (fun c => decide (nI 20 ≤ nI (B 11 c) ∧ nI (B 11 c) ≤ nI 27)) (B 1 0) = N2 at cb2 ⊢
  generalize cnt (fun c => decide (nI (B 11 c) = nI 30)) (B 1 0) = N3 at cb3 hma
  generalize cnt (rgt B) (B 1 0) = N4 at hcr hst
  by_cases h0 : x = nI 0
  · subst h0; simp (disch := omega) only [wp_some, wp_obd, wp_ob2, wp_bnd, wp_gd, wp_ite, wp_true, wp_ff, ↓l_n1, ↓l_n2, ↓l_n3, ↓l_n4, ↓l_n10, ↓l_n20, l_0, l_1, l_2, l_3, l_4, l_5, l_6, l_7, l_8, l_9, l_10, l_13, l_14, l_15, l_16, l_20, l_21, l_24, l_27, l_28, l_30, l_31, l_32, l_35, l_36, l_39, l_40, l_41, l_43, l_44, l_45, l_46, l_47, l_48, l_49, l_56, l_57, l_59, l_60, l_79, l_97, l_122, l_160, l_237, l_255, l_320, l_999, l_1000, nI_add, pk_mul, nI_eq, nI_leI, nI_ltI, nI_clamp, inb_nI_iff, e_within, e_in32, e_asNumber, e_flag, decide_eq_true_eq, Sum.elim_inl, Sum.elim_inr, true_implies, not_true_eq_false, not_false_eq_true, false_implies, and_true, true_and, nI_nn, nn_nI, nn_nn, ↓reduceIte, if_true, if_false, Nat.le_refl, implies_true, Nat.lt_irrefl, and_self_left, win1, nI_le_s1, Nat.zero_le, up_s, up_o, Nat.zero_add, m64_0, m64_1, m64_2, m64_3, m64_7, m64_8, m64_9, m64_10, m64_13, m64_20, m64_27, m64_60, cb0, Nat.reduceEqDiff]; exact hR0
  by_cases h1 : x = nI 1
  · subst h1; simp (disch := omega) only [wp_some, wp_obd, wp_ob2, wp_bnd, wp_gd, wp_ite, wp_true, wp_ff, ↓l_n1, ↓l_n2, ↓l_n3, ↓l_n4, ↓l_n10, ↓l_n20, l_0, l_1, l_2, l_3, l_4, l_5, l_6, l_7, l_8, l_9, l_10, l_13, l_14, l_15, l_16, l_20, l_21, l_24, l_27, l_28, l_30, l_31, l_32, l_35, l_36, l_39, l_40, l_41, l_43, l_44, l_45, l_46, l_47, l_48, l_49, l_56, l_57, l_59, l_60, l_79, l_97, l_122, l_160, l_237, l_255, l_320, l_999, l_1000, nI_add, pk_mul, nI_eq, nI_leI, nI_ltI, nI_clamp, inb_nI_iff, e_within, e_in32, e_asNumber, e_flag, decide_eq_true_eq, Sum.elim_inl, Sum.elim_inr, true_implies, not_true_eq_false, not_false_eq_true, false_implies, and_true, true_and, nI_nn, nn_nI, nn_nn, ↓reduceIte, if_true, if_false, Nat.le_refl, implies_true, Nat.lt_irrefl, and_self_left, win1, nI_le_s1, Nat.zero_le, up_s, up_o, Nat.zero_add, m64_0, m64_1, m64_2, m64_3, m64_7, m64_8, m64_9, m64_10, m64_13, m64_20, m64_27, m64_60, cb1, Nat.reduceEqDiff]; exact hR0
  by_cases h2 : x = nI 2
  · subst h2; simp (disch := omega) only [wp_some, wp_obd, wp_ob2, wp_bnd, wp_gd, wp_ite, wp_true, wp_ff, ↓l_n1, ↓l_n2, ↓l_n3, ↓l_n4, ↓l_n10, ↓l_n20, l_0, l_1, l_2, l_3, l_4, l_5, l_6, l_7, l_8, l_9, l_10, l_13, l_14, l_15, l_16, l_20, l_21, l_24, l_27, l_28, l_30, l_31, l_32, l_35, l_36, l_39, l_40, l_41, l_43, l_44, l_45, l_46, l_47, l_48, l_49, l_56, l_57, l_59, l_60, l_79, l_97, l_122, l_160, l_237, l_255, l_320, l_999, l_1000, nI_add, pk_mul, nI_eq, nI_leI, nI_ltI, nI_clamp, inb_nI_iff, e_within, e_in32, e_asNumber, e_flag, decide_eq_true_eq, Sum.elim_inl, Sum.elim_inr, true_implies, not_true_eq_false, not_false_eq_true, false_implies, and_true, true_and, nI_nn, nn_nI, nn_nn, ↓reduceIte, if_true, if_false, Nat.le_refl, implies_true, Nat.lt_irrefl, and_self_left, win1, nI_le_s1, Nat.zero_le, up_s, up_o, Nat.zero_add, m64_0, m64_1, m64_2, m64_3, m64_7, m64_8, m64_9, m64_10, m64_13, m64_20, m64_27, m64_60, cb2, Nat.reduceEqDiff]; exact hR0
  by_cases h3 : x = nI 3
  · subst h3; simp (disch := omega) only [wp_some, wp_obd, wp_ob2, wp_bnd, wp_gd, wp_ite, wp_true, wp_ff, ↓l_n1, ↓l_n2, ↓l_n3, ↓l_n4, ↓l_n10, ↓l_n20, l_0, l_1, l_2, l_3, l_4, l_5, l_6, l_7, l_8, l_9, l_10, l_13, l_14, l_15, l_16, l_20, l_21, l_24, l_27, l_28, l_30, l_31, l_32, l_35, l_36, l_39, l_40, l_41, l_43, l_44, l_45, l_46, l_47, l_48, l_49, l_56, l_57, l_59, l_60, l_79, l_97, l_122, l_160, l_237, l_255, l_320, l_999, l_1000, nI_add, pk_mul, nI_eq, nI_leI, nI_ltI, nI_clamp, inb_nI_iff, e_within, e_in32, e_asNumber, e_flag, decide_eq_true_eq, Sum.elim_inl, Sum.elim_inr, true_implies, not_true_eq_false, not_false_eq_true, false_implies, and_true, true_and, nI_nn, nn_nI, nn_nn, ↓reduceIte, if_true, if_false, Nat.le_refl, implies_true, Nat.lt_irrefl, and_self_left, win1, nI_le_s1, Nat.zero_le, up_s, up_o, Nat.zero_add, m64_0, m64_1, m64_2, m64_3, m64_7, m64_8, m64_9, m64_10, m64_13, m64_20, m64_27, m64_60, cb3, hma, Nat.reduceEqDiff]; exact hR0
  by_cases h4 : x = nI 4
  · subst h4; simp (disch := omega) only [wp_some, wp_obd, wp_ob2, wp_bnd, wp_gd, wp_ite, wp_true, wp_ff, ↓l_n1, ↓l_n2, ↓l_n3, ↓l_n4, ↓l_n10, ↓l_n20, l_0, l_1, l_2, l_3, l_4, l_5, l_6, l_7, l_8, l_9, l_10, l_13, l_14, l_15, l_16, l_20, l_21, l_24, l_27, l_28, l_30, l_31, l_32, l_35, l_36, l_39, l_40, l_41, l_43, l_44, l_45, l_46, l_47, l_48, l_49, l_56, l_57, l_59, l_60, l_79, l_97, l_122, l_160, l_237, l_255, l_320, l_999, l_1000, nI_add, pk_mul, nI_eq, nI_leI, nI_ltI, nI_clamp, inb_nI_iff, e_within, e_in32, e_asNumber, e_flag, decide_eq_true_eq, Sum.elim_inl, Sum.elim_inr, true_implies, not_true_eq_false, not_false_eq_true, false_implies, and_true, true_and, nI_nn, nn_nI, nn_nn, ↓reduceIte, if_true, if_false, Nat.le_refl, implies_true, Nat.lt_irrefl, and_self_left, win1, nI_le_s1, Nat.zero_le, up_s, up_o, Nat.zero_add, m64_0, m64_1, m64_2, m64_3, m64_7, m64_8, m64_9, m64_10, m64_13, m64_20, m64_27, m64_60, hcr, Nat.reduceEqDiff]; exact hst.mono (fun g hg => by rw [hg.1]; simp (disch := omega) only [wp_some, wp_obd, wp_ob2, wp_bnd, wp_gd, wp_ite, wp_true, wp_ff, ↓l_n1, ↓l_n2, ↓l_n3, ↓l_n4, ↓l_n10, ↓l_n20, l_0, l_1, l_2, l_3, l_4, l_5, l_6, l_7, l_8, l_9, l_10, l_13, l_14, l_15, l_16, l_20, l_21, l_24, l_27, l_28, l_30, l_31, l_32, l_35, l_36, l_39, l_40, l_41, l_43, l_44, l_45, l_46, l_47, l_48, l_49, l_56, l_57, l_59, l_60, l_79, l_97, l_122, l_160, l_237, l_255, l_320, l_999, l_1000, nI_add, pk_mul, nI_eq, nI_leI, nI_ltI, nI_clamp, inb_nI_iff, e_within, e_in32, e_asNumber, e_flag, decide_eq_true_eq, Sum.elim_inl, Sum.elim_inr, true_implies, not_true_eq_false, not_false_eq_true, false_implies, and_true, true_and, nI_nn, nn_nI, nn_nn, ↓reduceIte, if_true, if_false, Nat.le_refl, implies_true, Nat.lt_irrefl, and_self_left, win1, nI_le_s1, Nat.zero_le, up_s, up_o, Nat.zero_add, m64_0, m64_1, m64_2, m64_3, m64_7, m64_8, m64_9, m64_10, m64_13, m64_20, m64_27, m64_60]; exact hg.2)
  by_cases h5 : x = nI 5
  · subst h5; simp (disch := omega) only [wp_some, wp_obd, wp_ob2, wp_bnd, wp_gd, wp_ite, wp_true, wp_ff, ↓l_n1, ↓l_n2, ↓l_n3, ↓l_n4, ↓l_n10, ↓l_n20, l_0, l_1, l_2, l_3, l_4, l_5, l_6, l_7, l_8, l_9, l_10, l_13, l_14, l_15, l_16, l_20, l_21, l_24, l_27, l_28, l_30, l_31, l_32, l_35, l_36, l_39, l_40, l_41, l_43, l_44, l_45, l_46, l_47, l_48, l_49, l_56, l_57, l_59, l_60, l_79, l_97, l_122, l_160, l_237, l_255, l_320, l_999, l_1000, nI_add, pk_mul, nI_eq, nI_leI, nI_ltI, nI_clamp, inb_nI_iff, e_within, e_in32, e_asNumber, e_flag, decide_eq_true_eq, Sum.elim_inl, Sum.elim_inr, true_implies, not_true_eq_false, not_false_eq_true, false_implies, and_true, true_and, nI_nn, nn_nI, nn_nn, ↓reduceIte, if_true, if_false, Nat.le_refl, implies_true, Nat.lt_irrefl, and_self_left, win1, nI_le_s1, Nat.zero_le, up_s, up_o, Nat.zero_add, m64_0, m64_1, m64_2, m64_3, m64_7, m64_8, m64_9, m64_10, m64_13, m64_20, m64_27, m64_60, hK.2.2.1, hT.1, Nat.reduceEqDiff]; exact hR0
  by_cases h6 : x = nI 6
  · subst h6; simp (disch := omega) only [wp_some, wp_obd, wp_ob2, wp_bnd, wp_gd, wp_ite, wp_true, wp_ff, ↓l_n1, ↓l_n2, ↓l_n3, ↓l_n4, ↓l_n10, ↓l_n20, l_0, l_1, l_2, l_3, l_4, l_5, l_6, l_7, l_8, l_9, l_10, l_13, l_14, l_15, l_16, l_20, l_21, l_24, l_27, l_28, l_30, l_31, l_32, l_35, l_36, l_39, l_40, l_41, l_43, l_44, l_45, l_46, l_47, l_48, l_49, l_56, l_57, l_59, l_60, l_79, l_97, l_122, l_160, l_237, l_255, l_320, l_999, l_1000, nI_add, pk_mul, nI_eq, nI_leI, nI_ltI, nI_clamp, inb_nI_iff, e_within, e_in32, e_asNumber, e_flag, decide_eq_true_eq, Sum.elim_inl, Sum.elim_inr, true_implies, not_true_eq_false, not_false_eq_true, false_implies, and_true, true_and, nI_nn, nn_nI, nn_nn, ↓reduceIte, if_true, if_false, Nat.le_refl, implies_true, Nat.lt_irrefl, and_self_left, win1, nI_le_s1, Nat.zero_le, up_s, up_o, Nat.zero_add, m64_0, m64_1, m64_2, m64_3, m64_7, m64_8, m64_9, m64_10, m64_13, m64_20, m64_27, m64_60, y1, y2, z1, z2, e_i2b, Nat.reduceEqDiff]; exact hR0
  by_cases h7 : x = nI 7
  · subst h7; simp (disch := omega) only [wp_some, wp_obd, wp_ob2, wp_bnd, wp_gd, wp_ite, wp_true, wp_ff, ↓l_n1, ↓l_n2, ↓l_n3, ↓l_n4, ↓l_n10, ↓l_n20, l_0, l_1, l_2, l_3, l_4, l_5, l_6, l_7, l_8, l_9, l_10, l_13, l_14, l_15, l_16, l_20, l_21, l_24, l_27, l_28, l_30, l_31, l_32, l_35, l_36, l_39, l_40, l_41, l_43, l_44, l_45, l_46, l_47, l_48, l_49, l_56, l_57, l_59, l_60, l_79, l_97, l_122, l_160, l_237, l_255, l_320, l_999, l_1000, nI_add, pk_mul, nI_eq, nI_leI, nI_ltI, nI_clamp, inb_nI_iff, e_within, e_in32, e_asNumber, e_flag, decide_eq_true_eq, Sum.elim_inl, Sum.elim_inr, true_implies, not_true_eq_false, not_false_eq_true, false_implies, and_true, true_and, nI_nn, nn_nI, nn_nn, ↓reduceIte, if_true, if_false, Nat.le_refl, implies_true, Nat.lt_irrefl, and_self_left, win1, nI_le_s1, Nat.zero_le, up_s, up_o, Nat.zero_add, m64_0, m64_1, m64_2, m64_3, m64_7, m64_8, m64_9, m64_10, m64_13, m64_20, m64_27, m64_60, t2, t3, Nat.reduceEqDiff]; exact hR0
  by_cases h8 : x = nI 8
  · subst h8
    cases l with
    | none =>
      rw [on_none] at a1 a2
      simp (disch := omega) only [wp_some, wp_obd, wp_ob2, wp_bnd, wp_gd, wp_ite, wp_true, wp_ff, ↓l_n1, ↓l_n2, ↓l_n3, ↓l_n4, ↓l_n10, ↓l_n20, l_0, l_1, l_2, l_3, l_4, l_5, l_6, l_7, l_8, l_9, l_10, l_13, l_14, l_15, l_16, l_20, l_21, l_24, l_27, l_28, l_30, l_31, l_32, l_35, l_36, l_39, l_40, l_41, l_43, l_44, l_45, l_46, l_47, l_48, l_49, l_56, l_57, l_59, l_60, l_79, l_97, l_122, l_160, l_237, l_255, l_320, l_999, l_1000, nI_add, pk_mul, nI_eq, nI_leI, nI_ltI, nI_clamp, inb_nI_iff, e_within, e_in32, e_asNumber, e_flag, decide_eq_true_eq, Sum.elim_inl, Sum.elim_inr, true_implies, not_true_eq_false, not_false_eq_true, false_implies, and_true, true_and, nI_nn, nn_nI, nn_nn, ↓reduceIte, if_true, if_false, Nat.le_refl, implies_true, Nat.lt_irrefl, and_self_left, win1, nI_le_s1, Nat.zero_le, up_s, up_o, Nat.zero_add, m64_0, m64_1, m64_2, m64_3, m64_7, m64_8, m64_9, m64_10, m64_13, m64_20, m64_27, m64_60, a1, a2, Nat.reduceEqDiff]; exact hR0
    | some l =>
      obtain ⟨hl, n, hn, b1, b2⟩ := a3 l rfl
      rw [on_sm] at a1 a2
      simp (disch := omega) only [wp_some, wp_obd, wp_ob2, wp_bnd, wp_gd, wp_ite, wp_true, wp_ff, ↓l_n1, ↓l_n2, ↓l_n3, ↓l_n4, ↓l_n10, ↓l_n20, l_0, l_1, l_2, l_3, l_4, l_5, l_6, l_7, l_8, l_9, l_10, l_13, l_14, l_15, l_16, l_20, l_21, l_24, l_27, l_28, l_30, l_31, l_32, l_35, l_36, l_39, l_40, l_41, l_43, l_44, l_45, l_46, l_47, l_48, l_49, l_56, l_57, l_59, l_60, l_79, l_97, l_122, l_160, l_237, l_255, l_320, l_999, l_1000, nI_add, pk_mul, nI_eq, nI_leI, nI_ltI, nI_clamp, inb_nI_iff, e_within, e_in32, e_asNumber, e_flag, decide_eq_true_eq, Sum.elim_inl, Sum.elim_inr, true_implies, not_true_eq_false, not_false_eq_true, false_implies, and_true, true_and, nI_nn, nn_nI, nn_nn, ↓reduceIte, if_true, if_false, Nat.le_refl, implies_true, Nat.lt_irrefl, and_self_left, win1, nI_le_s1, Nat.zero_le, up_s, up_o, Nat.zero_add, m64_0, m64_1, m64_2, m64_3, m64_7, m64_8, m64_9, m64_10, m64_13, m64_20, m64_27, m64_60, a1, a2, b1, b2, Nat.reduceEqDiff]; exact hR0
  simp (disch := omega) only [wp_some, wp_obd, wp_ob2, wp_bnd, wp_gd, wp_ite, wp_true, wp_ff, ↓l_n1, ↓l_n2, ↓l_n3, ↓l_n4, ↓l_n10, ↓l_n20, l_0, l_1, l_2, l_3, l_4, l_5, l_6, l_7, l_8, l_9, l_10, l_13, l_14, l_15, l_16, l_20, l_21, l_24, l_27, l_28, l_30, l_31, l_32, l_35, l_36, l_39, l_40, l_41, l_43, l_44, l_45, l_46, l_47, l_48, l_49, l_56, l_57, l_59, l_60, l_79, l_97, l_122, l_160, l_237, l_255, l_320, l_999, l_1000, nI_add, pk_mul, nI_eq, nI_leI, nI_ltI, nI_clamp, inb_nI_iff, e_within, e_in32, e_asNumber, e_flag, decide_eq_true_eq, Sum.elim_inl, Sum.elim_inr, true_implies, not_true_eq_false, not_false_eq_true, false_implies, and_true, true_and, nI_nn, nn_nI, nn_nn, ↓reduceIte, if_true, if_false, Nat.le_refl, implies_true, Nat.lt_irrefl, and_self_left, win1, nI_le_s1, Nat.zero_le, up_s, up_o, Nat.zero_add, m64_0, m64_1, m64_2, m64_3, m64_7, m64_8, m64_9, m64_10, m64_13, m64_20, m64_27, m64_60, h0, h1, h2, h3, h4, h5, h6, h7, h8]
  exact hR0
end Ops
