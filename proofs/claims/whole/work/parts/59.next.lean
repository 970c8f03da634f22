theorem in_l (x : Int32) (h : Mem) : f_X10_in x.toInt64 (97 : Int64) (122 : Int64) h = some (decide (nI 97 ≤ x ∧ x ≤ nI 122)) := by
  have : (97 : Int64) = (nI 97).toInt64 := by decide
  have h2 : (122 : Int64) = (nI 122).toInt64 := by decide
  rw [this, h2, e_in32]
theorem in_d (x : Int32) (h : Mem) : f_X10_in x.toInt64 (48 : Int64) (57 : Int64) h = some (decide (nI 48 ≤ x ∧ x ≤ nI 57)) := by
  have : (48 : Int64) = (nI 48).toInt64 := by decide
  have h2 : (57 : Int64) = (nI 57).toInt64 := by decide
  rw [this, h2, e_in32]
theorem nn1_l : (nI 97 ≤ nn 1 ∧ nn 1 ≤ nI 122) ↔ False := by decide
theorem nn1_d : (nI 48 ≤ nn 1 ∧ nn 1 ≤ nI 57) ↔ False := by decide
theorem nn1_0 : (nI 0 ≤ nn 1) ↔ False := by decide
theorem sub_n {a b : Nat} (h : a ≤ b) : nI b - nI a = nI (b - a) := by
  have : b = (b - a) + a := by omega
  rw [this, ← nI_add]
  exact (Int32.add_sub_cancel _ _).trans (by first | (congr 1; omega) | congr 1)
section Cl
variable {h g : Mem} {t : Nat} {u : Nat → Nat} {s : Nat}
theorem e_look {z : Mem} {i : Nat} (hR : RT z t u) (hU : UB t u) (hi : i < t) : f_X10_look (nI i) z = some (nI (u i)) := by
  obtain ⟨r1, r2⟩ := hR
  obtain ⟨u1, u2⟩ := hU
  have e := r2 i hi
  apply Ok.eqv
  unfold f_X10_look
  simp (disch := omega) only [wp_some, wp_obd, wp_ob2, wp_bnd, wp_gd, wp_ite, wp_true, wp_ff, ↓l_n1, ↓l_n2, ↓l_n3, ↓l_n4, ↓l_n10, ↓l_n20, l_0, l_1, l_2, l_3, l_4, l_5, l_6, l_7, l_8, l_9, l_10, l_13, l_14, l_15, l_16, l_20, l_21, l_24, l_27, l_28, l_30, l_31, l_32, l_35, l_36, l_39, l_40, l_41, l_43, l_44, l_45, l_46, l_47, l_48, l_49, l_56, l_57, l_59, l_60, l_79, l_97, l_122, l_160, l_237, l_255, l_320, l_999, l_1000, nI_add, pk_mul, nI_eq, nI_leI, nI_ltI, nI_clamp, inb_nI_iff, e_within, e_in32, e_asNumber, e_flag, decide_eq_true_eq, Sum.elim_inl, Sum.elim_inr, true_implies, not_true_eq_false, not_false_eq_true, false_implies, and_true, true_and, nI_nn, nn_nI, nn_nn, ↓reduceIte, if_true, if_false, Nat.le_refl, implies_true, Nat.lt_irrefl, and_self_left, win1, nI_le_s1, Nat.zero_le, up_s, up_o, Nat.zero_add, m64_0, m64_1, m64_2, m64_3, m64_7, m64_8, m64_9, m64_10, m64_13, m64_20, m64_27, m64_60, r1, e]
  exact ⟨fun e => by omega, fun _ => by omega⟩
theorem e_look1 {z : Mem} {i : Nat} (hR : RT z t u) (hU : UB t u) (hi : t ≤ i) (h2 : i < 1000) : f_X10_look (nI i) z = some (nn 1) := by
  obtain ⟨r1, r2⟩ := hR
  obtain ⟨u1, u2⟩ := hU
  apply Ok.eqv
  unfold f_X10_look
  simp (disch := omega) only [wp_some, wp_obd, wp_ob2, wp_bnd, wp_gd, wp_ite, wp_true, wp_ff, ↓l_n1, ↓l_n2, ↓l_n3, ↓l_n4, ↓l_n10, ↓l_n20, l_0, l_1, l_2, l_3, l_4, l_5, l_6, l_7, l_8, l_9, l_10, l_13, l_14, l_15, l_16, l_20, l_21, l_24, l_27, l_28, l_30, l_31, l_32, l_35, l_36, l_39, l_40, l_41, l_43, l_44, l_45, l_46, l_47, l_48, l_49, l_56, l_57, l_59, l_60, l_79, l_97, l_122, l_160, l_237, l_255, l_320, l_999, l_1000, nI_add, pk_mul, nI_eq, nI_leI, nI_ltI, nI_clamp, inb_nI_iff, e_within, e_in32, e_asNumber, e_flag, decide_eq_true_eq, Sum.elim_inl, Sum.elim_inr, true_implies, not_true_eq_false, not_false_eq_true, false_implies, and_true, true_and, nI_nn, nn_nI, nn_nn, ↓reduceIte, if_true, if_false, Nat.le_refl, implies_true, Nat.lt_irrefl, and_self_left, win1, nI_le_s1, Nat.zero_le, up_s, up_o, Nat.zero_add, m64_0, m64_1, m64_2, m64_3, m64_7, m64_8, m64_9, m64_10, m64_13, m64_20, m64_27, m64_60, r1, hi]
theorem m_next (hR : RT g t u) (hU : UB t u) (hs : s ≤ t) (h11 : g 24 11 0 0 = nI s) (h15 : g 24 15 0 0 = nI 0) : Ok (f_X10_next g) (fun q => q 24 12 0 0 = nI (ta t u s) ∧ (bad t u s → q 24 15 0 0 = nI 1 ∧ q 24 16 0 0 = nI (ta t u s)) ∧ (¬ bad t u s → q 24 15 0 0 = nI 0 ∧ q 24 13 0 0 = nI (tkd t u s) ∧ q 24 11 0 0 = nI (tb t u s) ∧ (tkd t u s = 2 → q 24 14 0 0 = nI (tv t u s))) ∧ ∀ k j o i, ¬ (k = 24 ∧ 11 ≤ j ∧ j ≤ 16) → q k j o i = g k j o i) := by
  have ha := ta_b (u := u) hs
  have hb := tb_b (u := u) hs
  have hz := tkd_0 (u := u) hs
  have t4 := hU.2
  have t3 := hU.1
  have frR : ∀ z : Mem, (∀ k j o i, ¬ (k = 24 ∧ 11 ≤ j ∧ j ≤ 16) → z k j o i = g k j o i) → RT z t u := fun z hF => RT_fr hR (fun k j o i hh => hF _ _ _ _ (by omega))
  unfold f_X10_next
  refine ok_ite (fun _ => ?_) (fun e => absurd (by rw [h15]; decide) e)
  rw [wp_obd]
  refine (ok_up (K := fun e => e 24 11 0 0 = nI (ta t u s) ∧ ∀ k j o i, ¬ (k = 24 ∧ j = 11) → e k j o i = g k j o i) (t - s) (fun j z => z 24 11 0 0 = nI (s + j) ∧ s + j ≤ t ∧ rn (fun i => u i == 32) t (s + j) = ta t u s ∧ ∀ k j o i, ¬ (k = 24 ∧ j = 11) → z k j o i = g k j o i) (by omega) ?_ ?_ _ ⟨h11, by omega, rfl, fun k j o i hh => rfl⟩).mono ?_
  · rintro j z hj ⟨k1, k2, k3, k4⟩
    have e1 := e_look (frR z (fun k j o i hh => k4 _ _ _ _ (by omega))) hU (i := s + j) (by omega)
    have e3 := t4 (s + j) (by omega)
    by_cases q : u (s + j) = 32
    · simp (disch := omega) only [wp_some, wp_obd, wp_ob2, wp_bnd, wp_gd, wp_ite, wp_true, wp_ff, ↓l_n1, ↓l_n2, ↓l_n3, ↓l_n4, ↓l_n10, ↓l_n20, l_0, l_1, l_2, l_3, l_4, l_5, l_6, l_7, l_8, l_9, l_10, l_13, l_14, l_15, l_16, l_20, l_21, l_24, l_27, l_28, l_30, l_31, l_32, l_35, l_36, l_39, l_40, l_41, l_43, l_44, l_45, l_46, l_47, l_48, l_49, l_56, l_57, l_59, l_60, l_79, l_97, l_122, l_160, l_237, l_255, l_320, l_999, l_1000, nI_add, pk_mul, nI_eq, nI_leI, nI_ltI, nI_clamp, inb_nI_iff, e_within, e_in32, e_asNumber, e_flag, decide_eq_true_eq, Sum.elim_inl, Sum.elim_inr, true_implies, not_true_eq_false, not_false_eq_true, false_implies, and_true, true_and, nI_nn, nn_nI, nn_nn, ↓reduceIte, if_true, if_false, Nat.le_refl, implies_true, Nat.lt_irrefl, and_self_left, win1, nI_le_s1, Nat.zero_le, up_s, up_o, Nat.zero_add, m64_0, m64_1, m64_2, m64_3, m64_7, m64_8, m64_9, m64_10, m64_13, m64_20, m64_27, m64_60, k1, e1, q]
      refine ⟨by omega, by omega, ?_, fun k j' o i hh => ?_⟩
      · rw [← Nat.add_assoc, ← rn_t (p := fun i => u i == 32) (by omega) (by simp [q])]; exact k3
      · (try simp (disch := omega) only [up_s, up_o, and_self]); exact k4 k j' o i hh
    · have e5 : ta t u s = s + j := by rw [← k3]; exact rn_f (fun w => q (by simpa using w.2))
      simp (disch := omega) only [wp_some, wp_obd, wp_ob2, wp_bnd, wp_gd, wp_ite, wp_true, wp_ff, ↓l_n1, ↓l_n2, ↓l_n3, ↓l_n4, ↓l_n10, ↓l_n20, l_0, l_1, l_2, l_3, l_4, l_5, l_6, l_7, l_8, l_9, l_10, l_13, l_14, l_15, l_16, l_20, l_21, l_24, l_27, l_28, l_30, l_31, l_32, l_35, l_36, l_39, l_40, l_41, l_43, l_44, l_45, l_46, l_47, l_48, l_49, l_56, l_57, l_59, l_60, l_79, l_97, l_122, l_160, l_237, l_255, l_320, l_999, l_1000, nI_add, pk_mul, nI_eq, nI_leI, nI_ltI, nI_clamp, inb_nI_iff, e_within, e_in32, e_asNumber, e_flag, decide_eq_true_eq, Sum.elim_inl, Sum.elim_inr, true_implies, not_true_eq_false, not_false_eq_true, false_implies, and_true, true_and, nI_nn, nn_nI, nn_nn, ↓reduceIte, if_true, if_false, Nat.le_refl, implies_true, Nat.lt_irrefl, and_self_left, win1, nI_le_s1, Nat.zero_le, up_s, up_o, Nat.zero_add, m64_0, m64_1, m64_2, m64_3, m64_7, m64_8, m64_9, m64_10, m64_13, m64_20, m64_27, m64_60, k1, e1, q]
      exact ⟨by omega, k4⟩
  · rintro z ⟨k1, k2, k3, k4⟩
    have e1 := e_look1 (frR z (fun k j o i hh => k4 _ _ _ _ (by omega))) hU (i := s + (t - s)) (by omega) (by omega)
    have e5 : ta t u s = s + (t - s) := by rw [← k3]; exact rn_f (fun w => by omega)
    simp (disch := omega) only [wp_some, wp_obd, wp_ob2, wp_bnd, wp_gd, wp_ite, wp_true, wp_ff, ↓l_n1, ↓l_n2, ↓l_n3, ↓l_n4, ↓l_n10, ↓l_n20, l_0, l_1, l_2, l_3, l_4, l_5, l_6, l_7, l_8, l_9, l_10, l_13, l_14, l_15, l_16, l_20, l_21, l_24, l_27, l_28, l_30, l_31, l_32, l_35, l_36, l_39, l_40, l_41, l_43, l_44, l_45, l_46, l_47, l_48, l_49, l_56, l_57, l_59, l_60, l_79, l_97, l_122, l_160, l_237, l_255, l_320, l_999, l_1000, nI_add, pk_mul, nI_eq, nI_leI, nI_ltI, nI_clamp, inb_nI_iff, e_within, e_in32, e_asNumber, e_flag, decide_eq_true_eq, Sum.elim_inl, Sum.elim_inr, true_implies, not_true_eq_false, not_false_eq_true, false_implies, and_true, true_and, nI_nn, nn_nI, nn_nn, ↓reduceIte, if_true, if_false, Nat.le_refl, implies_true, Nat.lt_irrefl, and_self_left, win1, nI_le_s1, Nat.zero_le, up_s, up_o, Nat.zero_add, m64_0, m64_1, m64_2, m64_3, m64_7, m64_8, m64_9, m64_10, m64_13, m64_20, m64_27, m64_60, k1, e1]
    exact ⟨by omega, k4⟩
  rintro e7 ⟨a1, a2⟩
  rw [wp_bnd]
  have f8 : ∀ k j o i, ¬ (k = 24 ∧ 11 ≤ j ∧ j ≤ 16) → up e7 24 12 0 0 (e7 24 11 0 0) k j o i = g k j o i := fun k j o i hh => by
    rw [up_o (by omega)]; exact a2 _ _ _ _ (by omega)
  have e11 : up e7 24 12 0 0 (e7 24 11 0 0) 24 11 0 0 = nI (ta t u s) := by rw [up_o (by omega)]; exact a1
  have e12 : up e7 24 12 0 0 (e7 24 11 0 0) 24 12 0 0 = nI (ta t u s) := by rw [up_s]; exact a1
  have e15 : up e7 24 12 0 0 (e7 24 11 0 0) 24 15 0 0 = nI 0 := by rw [up_o (by omega), a2 _ _ _ _ (by omega)]; exact h15
  generalize up e7 24 12 0 0 (e7 24 11 0 0) = h8 at f8 e11 e12 e15
  have hk4 : tkd t u s ≤ 4 := by
    unfold tkd; split
    · exact (kd_b _).2
    · omega
  have hbad : bad t u s ↔ tkd t u s = 4 ∨ (tkd t u s = 2 ∧ 2 < tb t u s - ta t u s) := Iff.rfl
  by_cases q0 : ta t u s = t
  · -- the end
    have hK : tkd t u s = 0 := hz.mpr q0
    have hb1 : ¬ bad t u s := fun e => by have := hbad.mp e; omega
    have etb : tb t u s = ta t u s := by unfold tb; rw [if_pos hK]
    have e1 := e_look1 (frR h8 f8) hU (i := ta t u s) (by omega) (by omega)
    rw [hK, etb]
    simp (disch := omega) only [wp_some, wp_obd, wp_ob2, wp_bnd, wp_gd, wp_ite, wp_true, wp_ff, ↓l_n1, ↓l_n2, ↓l_n3, ↓l_n4, ↓l_n10, ↓l_n20, l_0, l_1, l_2, l_3, l_4, l_5, l_6, l_7, l_8, l_9, l_10, l_13, l_14, l_15, l_16, l_20, l_21, l_24, l_27, l_28, l_30, l_31, l_32, l_35, l_36, l_39, l_40, l_41, l_43, l_44, l_45, l_46, l_47, l_48, l_49, l_56, l_57, l_59, l_60, l_79, l_97, l_122, l_160, l_237, l_255, l_320, l_999, l_1000, nI_add, pk_mul, nI_eq, nI_leI, nI_ltI, nI_clamp, inb_nI_iff, e_within, e_in32, e_asNumber, e_flag, decide_eq_true_eq, Sum.elim_inl, Sum.elim_inr, true_implies, not_true_eq_false, not_false_eq_true, false_implies, and_true, true_and, nI_nn, nn_nI, nn_nn, ↓reduceIte, if_true, if_false, Nat.le_refl, implies_true, Nat.lt_irrefl, and_self_left, win1, nI_le_s1, Nat.zero_le, up_s, up_o, Nat.zero_add, m64_0, m64_1, m64_2, m64_3, m64_7, m64_8, m64_9, m64_10, m64_13, m64_20, m64_27, m64_60, e11, e1, nn1_0]
    refine ⟨e12, fun e => absurd e hb1, fun _ => ⟨e15, fun e => by omega⟩, fun k j o i hh => ?_⟩
    (try simp (disch := omega) only [up_s, up_o, and_self]); exact f8 k j o i hh
  · have qa : ta t u s < t := by omega
    have hK : tkd t u s = kd (u (ta t u s)) := by unfold tkd; rw [if_pos qa]
    have e1 := e_look (frR h8 f8) hU qa
    have e3 := t4 _ qa
    have kb := kd_b (u (ta t u s))
    by_cases l1 : 97 ≤ u (ta t u s) ∧ u (ta t u s) ≤ 122
    · have hK1 : tkd t u s = 1 := by rw [hK]; exact kd_1.mpr l1
      have hb1 : ¬ bad t u s := fun e => by have := hbad.mp e; omega
      have etb : tb t u s = rn (fun i => kd (u i) == 1) t (ta t u s) := by
        rw [rn_t (p := fun i => kd (u i) == 1) qa (by simp [kd_1.mpr l1])]
        unfold tb; rw [hK1, if_neg (by decide), if_pos (Or.inl rfl)]
      simp (disch := omega) only [wp_some, wp_obd, wp_ob2, wp_bnd, wp_gd, wp_ite, wp_true, wp_ff, ↓l_n1, ↓l_n2, ↓l_n3, ↓l_n4, ↓l_n10, ↓l_n20, l_0, l_1, l_2, l_3, l_4, l_5, l_6, l_7, l_8, l_9, l_10, l_13, l_14, l_15, l_16, l_20, l_21, l_24, l_27, l_28, l_30, l_31, l_32, l_35, l_36, l_39, l_40, l_41, l_43, l_44, l_45, l_46, l_47, l_48, l_49, l_56, l_57, l_59, l_60, l_79, l_97, l_122, l_160, l_237, l_255, l_320, l_999, l_1000, nI_add, pk_mul, nI_eq, nI_leI, nI_ltI, nI_clamp, inb_nI_iff, e_within, e_in32, e_asNumber, e_flag, decide_eq_true_eq, Sum.elim_inl, Sum.elim_inr, true_implies, not_true_eq_false, not_false_eq_true, false_implies, and_true, true_and, nI_nn, nn_nI, nn_nn, ↓reduceIte, if_true, if_false, Nat.le_refl, implies_true, Nat.lt_irrefl, and_self_left, win1, nI_le_s1, Nat.zero_le, up_s, up_o, Nat.zero_add, m64_0, m64_1, m64_2, m64_3, m64_7, m64_8, m64_9, m64_10, m64_13, m64_20, m64_27, m64_60, e11, e1, in_l, l1]
      refine (ok_up (K := Sum.elim (fun e => e 24 11 0 0 = nI (tb t u s) ∧ e 24 12 0 0 = nI (ta t u s) ∧ e 24 13 0 0 = nI 1 ∧ e 24 15 0 0 = nI 0 ∧ ∀ k j o i, ¬ (k = 24 ∧ 11 ≤ j ∧ j ≤ 16) → e k j o i = g k j o i) (fun _ => False)) (t - ta t u s) (fun j z => z 24 11 0 0 = nI (ta t u s + j) ∧ ta t u s + j ≤ t ∧ rn (fun i => kd (u i) == 1) t (ta t u s + j) = tb t u s ∧ z 24 12 0 0 = nI (ta t u s) ∧ z 24 13 0 0 = nI 1 ∧ z 24 15 0 0 = nI 0 ∧ ∀ k j o i, ¬ (k = 24 ∧ 11 ≤ j ∧ j ≤ 16) → z k j o i = g k j o i) (by omega) ?_ ?_ _ ⟨by (try simp (disch := omega) only [up_s, up_o, and_self]); exact e11, by omega, etb.symm, by (try simp (disch := omega) only [up_s, up_o, and_self]); exact e12, by (try simp (disch := omega) only [up_s, up_o, and_self]), by (try simp (disch := omega) only [up_s, up_o, and_self]); exact e15, fun k j o i hh => by (try simp (disch := omega) only [up_s, up_o, and_self]); exact f8 k j o i hh⟩).mono ?_
      · rintro j z hj ⟨k1, k2, k3, k4, k5, k6, k7⟩
        have g1 := e_look (frR z k7) hU (i := ta t u s + j) (by omega)
        have g3 := t4 (ta t u s + j) (by omega)
        by_cases w : 97 ≤ u (ta t u s + j) ∧ u (ta t u s + j) ≤ 122
        · simp (disch := omega) only [wp_some, wp_obd, wp_ob2, wp_bnd, wp_gd, wp_ite, wp_true, wp_ff, ↓l_n1, ↓l_n2, ↓l_n3, ↓l_n4, ↓l_n10, ↓l_n20, l_0, l_1, l_2, l_3, l_4, l_5, l_6, l_7, l_8, l_9, l_10, l_13, l_14, l_15, l_16, l_20, l_21, l_24, l_27, l_28, l_30, l_31, l_32, l_35, l_36, l_39, l_40, l_41, l_43, l_44, l_45, l_46, l_47, l_48, l_49, l_56, l_57, l_59, l_60, l_79, l_97, l_122, l_160, l_237, l_255, l_320, l_999, l_1000, nI_add, pk_mul, nI_eq, nI_leI, nI_ltI, nI_clamp, inb_nI_iff, e_within, e_in32, e_asNumber, e_flag, decide_eq_true_eq, Sum.elim_inl, Sum.elim_inr, true_implies, not_true_eq_false, not_false_eq_true, false_implies, and_true, true_and, nI_nn, nn_nI, nn_nn, ↓reduceIte, if_true, if_false, Nat.le_refl, implies_true, Nat.lt_irrefl, and_self_left, win1, nI_le_s1, Nat.zero_le, up_s, up_o, Nat.zero_add, m64_0, m64_1, m64_2, m64_3, m64_7, m64_8, m64_9, m64_10, m64_13, m64_20, m64_27, m64_60, k1, g1, in_l, w]
          refine ⟨by omega, by omega, ?_, k4, k5, k6, fun k j' o i hh => ?_⟩
          · rw [← Nat.add_assoc, ← rn_t (p := fun i => kd (u i) == 1) (by omega) (by simp [kd_1.mpr w])]; exact k3
          · (try simp (disch := omega) only [up_s, up_o, and_self]); exact k7 k j' o i hh
        · have e5 : tb t u s = ta t u s + j := by rw [← k3]; exact rn_f (fun w' => w (kd_1.mp (by simpa using w'.2)))
          simp (disch := omega) only [wp_some, wp_obd, wp_ob2, wp_bnd, wp_gd, wp_ite, wp_true, wp_ff, ↓l_n1, ↓l_n2, ↓l_n3, ↓l_n4, ↓l_n10, ↓l_n20, l_0, l_1, l_2, l_3, l_4, l_5, l_6, l_7, l_8, l_9, l_10, l_13, l_14, l_15, l_16, l_20, l_21, l_24, l_27, l_28, l_30, l_31, l_32, l_35, l_36, l_39, l_40, l_41, l_43, l_44, l_45, l_46, l_47, l_48, l_49, l_56, l_57, l_59, l_60, l_79, l_97, l_122, l_160, l_237, l_255, l_320, l_999, l_1000, nI_add, pk_mul, nI_eq, nI_leI, nI_ltI, nI_clamp, inb_nI_iff, e_within, e_in32, e_asNumber, e_flag, decide_eq_true_eq, Sum.elim_inl, Sum.elim_inr, true_implies, not_true_eq_false, not_false_eq_true, false_implies, and_true, true_and, nI_nn, nn_nI, nn_nn, ↓reduceIte, if_true, if_false, Nat.le_refl, implies_true, Nat.lt_irrefl, and_self_left, win1, nI_le_s1, Nat.zero_le, up_s, up_o, Nat.zero_add, m64_0, m64_1, m64_2, m64_3, m64_7, m64_8, m64_9, m64_10, m64_13, m64_20, m64_27, m64_60, k1, g1, in_l, w]
          exact ⟨by omega, k4, k5, k6, k7⟩
      · rintro z ⟨k1, k2, k3, k4, k5, k6, k7⟩
        have g1 := e_look1 (frR z k7) hU (i := ta t u s + (t - ta t u s)) (by omega) (by omega)
        have e5 : tb t u s = ta t u s + (t - ta t u s) := by rw [← k3]; exact rn_f (fun w' => by omega)
        simp (disch := omega) only [wp_some, wp_obd, wp_ob2, wp_bnd, wp_gd, wp_ite, wp_true, wp_ff, ↓l_n1, ↓l_n2, ↓l_n3, ↓l_n4, ↓l_n10, ↓l_n20, l_0, l_1, l_2, l_3, l_4, l_5, l_6, l_7, l_8, l_9, l_10, l_13, l_14, l_15, l_16, l_20, l_21, l_24, l_27, l_28, l_30, l_31, l_32, l_35, l_36, l_39, l_40, l_41, l_43, l_44, l_45, l_46, l_47, l_48, l_49, l_56, l_57, l_59, l_60, l_79, l_97, l_122, l_160, l_237, l_255, l_320, l_999, l_1000, nI_add, pk_mul, nI_eq, nI_leI, nI_ltI, nI_clamp, inb_nI_iff, e_within, e_in32, e_asNumber, e_flag, decide_eq_true_eq, Sum.elim_inl, Sum.elim_inr, true_implies, not_true_eq_false, not_false_eq_true, false_implies, and_true, true_and, nI_nn, nn_nI, nn_nn, ↓reduceIte, if_true, if_false, Nat.le_refl, implies_true, Nat.lt_irrefl, and_self_left, win1, nI_le_s1, Nat.zero_le, up_s, up_o, Nat.zero_add, m64_0, m64_1, m64_2, m64_3, m64_7, m64_8, m64_9, m64_10, m64_13, m64_20, m64_27, m64_60, k1, g1, in_l, nn1_l]
        exact ⟨by omega, k4, k5, k6, k7⟩
      rintro z hz'
      cases z with
      | inr r => exact hz'.elim
      | inl e =>
        obtain ⟨k1, k2, k3, k4, k5⟩ := hz'
        rw [hK1]
        exact wp_some.mpr ⟨k2, fun e => absurd e hb1, fun _ => ⟨k4, k3, k1, fun e => by omega⟩, k5⟩
    · by_cases l2 : 48 ≤ u (ta t u s) ∧ u (ta t u s) ≤ 57
      · have hK2 : tkd t u s = 2 := by rw [hK]; exact kd_2.mpr l2
        have hlt := hb.2.2 (by omega)
        have etb : tb t u s = rn (fun i => kd (u i) == 2) t (ta t u s) := by
          rw [rn_t (p := fun i => kd (u i) == 2) qa (by simp [kd_2.mpr l2])]
          unfold tb; rw [hK2, if_neg (by decide), if_pos (Or.inr rfl)]
        obtain ⟨vl, v0, v1, v2⟩ : ∃ vl : Nat → Nat, vl 0 = 0 ∧ vl 1 = u (ta t u s) - 48 ∧ ∀ j, 2 ≤ j → vl j = 10 * (u (ta t u s) - 48) + (u (ta t u s + 1) - 48) := ⟨fun j => if j = 0 then 0 else if j = 1 then u (ta t u s) - 48 else 10 * (u (ta t u s) - 48) + (u (ta t u s + 1) - 48), rfl, rfl, fun j hj => by dsimp only; rw [if_neg (by omega), if_neg (by omega)]⟩
        simp (disch := omega) only [wp_some, wp_obd, wp_ob2, wp_bnd, wp_gd, wp_ite, wp_true, wp_ff, ↓l_n1, ↓l_n2, ↓l_n3, ↓l_n4, ↓l_n10, ↓l_n20, l_0, l_1, l_2, l_3, l_4, l_5, l_6, l_7, l_8, l_9, l_10, l_13, l_14, l_15, l_16, l_20, l_21, l_24, l_27, l_28, l_30, l_31, l_32, l_35, l_36, l_39, l_40, l_41, l_43, l_44, l_45, l_46, l_47, l_48, l_49, l_56, l_57, l_59, l_60, l_79, l_97, l_122, l_160, l_237, l_255, l_320, l_999, l_1000, nI_add, pk_mul, nI_eq, nI_leI, nI_ltI, nI_clamp, inb_nI_iff, e_within, e_in32, e_asNumber, e_flag, decide_eq_true_eq, Sum.elim_inl, Sum.elim_inr, true_implies, not_true_eq_false, not_false_eq_true, false_implies, and_true, true_and, nI_nn, nn_nI, nn_nn, ↓reduceIte, if_true, if_false, Nat.le_refl, implies_true, Nat.lt_irrefl, and_self_left, win1, nI_le_s1, Nat.zero_le, up_s, up_o, Nat.zero_add, m64_0, m64_1, m64_2, m64_3, m64_7, m64_8, m64_9, m64_10, m64_13, m64_20, m64_27, m64_60, e11, e1, in_l, l1, in_d, l2]
        refine (ok_up (K := fun e => e 24 11 0 0 = nI (tb t u s) ∧ e 24 12 0 0 = nI (ta t u s) ∧ e 24 13 0 0 = nI 2 ∧ e 24 14 0 0 = nI (vl (tb t u s - ta t u s)) ∧ e 24 15 0 0 = nI 0 ∧ ∀ k j o i, ¬ (k = 24 ∧ 11 ≤ j ∧ j ≤ 16) → e k j o i = g k j o i) (t - ta t u s) (fun j z => z 24 11 0 0 = nI (ta t u s + j) ∧ ta t u s + j ≤ t ∧ rn (fun i => kd (u i) == 2) t (ta t u s + j) = tb t u s ∧ z 24 12 0 0 = nI (ta t u s) ∧ z 24 13 0 0 = nI 2 ∧ z 24 14 0 0 = nI (vl j) ∧ z 24 15 0 0 = nI 0 ∧ ∀ k j o i, ¬ (k = 24 ∧ 11 ≤ j ∧ j ≤ 16) → z k j o i = g k j o i) (by omega) ?_ ?_ _ ⟨by (try simp (disch := omega) only [up_s, up_o, and_self]); exact e11, by omega, etb.symm, by (try simp (disch := omega) only [up_s, up_o, and_self]); exact e12, by (try simp (disch := omega) only [up_s, up_o, and_self]), by rw [v0]; (try simp (disch := omega) only [up_s, up_o, and_self]), by (try simp (disch := omega) only [up_s, up_o, and_self]); exact e15, fun k j o i hh => by (try simp (disch := omega) only [up_s, up_o, and_self]); exact f8 k j o i hh⟩).mono ?_
        · rintro j z hj ⟨k1, k2, k3, k4, k5, k8, k6, k7⟩
          have g1 := e_look (frR z k7) hU (i := ta t u s + j) (by omega)
          have g3 := t4 (ta t u s + j) (by omega)
          have es : nI (ta t u s + j) - nI (ta t u s) = nI j := by rw [sub_n (by omega), Nat.add_sub_cancel_left]
          by_cases w : 48 ≤ u (ta t u s + j) ∧ u (ta t u s + j) ≤ 57
          · have nxt : rn (fun i => kd (u i) == 2) t (ta t u s + (j + 1)) = tb t u s := by
              rw [← Nat.add_assoc, ← rn_t (p := fun i => kd (u i) == 2) (by omega) (by simp [kd_2.mpr w])]; exact k3
            by_cases j2 : 2 ≤ j
            · have ev : vl (j + 1) = vl j := by rw [v2 _ (by omega), v2 _ j2]
              rw [ev]
              simp (disch := omega) only [wp_some, wp_obd, wp_ob2, wp_bnd, wp_gd, wp_ite, wp_true, wp_ff, ↓l_n1, ↓l_n2, ↓l_n3, ↓l_n4, ↓l_n10, ↓l_n20, l_0, l_1, l_2, l_3, l_4, l_5, l_6, l_7, l_8, l_9, l_10, l_13, l_14, l_15, l_16, l_20, l_21, l_24, l_27, l_28, l_30, l_31, l_32, l_35, l_36, l_39, l_40, l_41, l_43, l_44, l_45, l_46, l_47, l_48, l_49, l_56, l_57, l_59, l_60, l_79, l_97, l_122, l_160, l_237, l_255, l_320, l_999, l_1000, nI_add, pk_mul, nI_eq, nI_leI, nI_ltI, nI_clamp, inb_nI_iff, e_within, e_in32, e_asNumber, e_flag, decide_eq_true_eq, Sum.elim_inl, Sum.elim_inr, true_implies, not_true_eq_false, not_false_eq_true, false_implies, and_true, true_and, nI_nn, nn_nI, nn_nn, ↓reduceIte, if_true, if_false, Nat.le_refl, implies_true, Nat.lt_irrefl, and_self_left, win1, nI_le_s1, Nat.zero_le, up_s, up_o, Nat.zero_add, m64_0, m64_1, m64_2, m64_3, m64_7, m64_8, m64_9, m64_10, m64_13, m64_20, m64_27, m64_60, k1, g1, in_d, w, k4, es, j2, k8]
              refine ⟨by omega, by omega, nxt, k5, k6, fun k j' o i hh => ?_⟩
              (try simp (disch := omega) only [up_s, up_o, and_self]); exact k7 k j' o i hh
            · have ev : nI (10 * vl j + u (ta t u s + j)) - nI 48 = nI (vl (j + 1)) := by
                rw [sub_n (by omega)]
                have : j = 0 ∨ j = 1 := by omega
                rcases this with rfl | rfl
                · rw [v0, v1, Nat.add_zero]; congr 1; omega
                · rw [v1, v2 2 (by omega)]; congr 1; omega
              simp (disch := omega) only [wp_some, wp_obd, wp_ob2, wp_bnd, wp_gd, wp_ite, wp_true, wp_ff, ↓l_n1, ↓l_n2, ↓l_n3, ↓l_n4, ↓l_n10, ↓l_n20, l_0, l_1, l_2, l_3, l_4, l_5, l_6, l_7, l_8, l_9, l_10, l_13, l_14, l_15, l_16, l_20, l_21, l_24, l_27, l_28, l_30, l_31, l_32, l_35, l_36, l_39, l_40, l_41, l_43, l_44, l_45, l_46, l_47, l_48, l_49, l_56, l_57, l_59, l_60, l_79, l_97, l_122, l_160, l_237, l_255, l_320, l_999, l_1000, nI_add, pk_mul, nI_eq, nI_leI, nI_ltI, nI_clamp, inb_nI_iff, e_within, e_in32, e_asNumber, e_flag, decide_eq_true_eq, Sum.elim_inl, Sum.elim_inr, true_implies, not_true_eq_false, not_false_eq_true, false_implies, and_true, true_and, nI_nn, nn_nI, nn_nn, ↓reduceIte, if_true, if_false, Nat.le_refl, implies_true, Nat.lt_irrefl, and_self_left, win1, nI_le_s1, Nat.zero_le, up_s, up_o, Nat.zero_add, m64_0, m64_1, m64_2, m64_3, m64_7, m64_8, m64_9, m64_10, m64_13, m64_20, m64_27, m64_60, k1, g1, in_d, w, k4, es, j2, k8, ev]
              refine ⟨by omega, by omega, nxt, k5, k6, fun k j' o i hh => ?_⟩
              (try simp (disch := omega) only [up_s, up_o, and_self]); exact k7 k j' o i hh
          · have e5 : tb t u s = ta t u s + j := by rw [← k3]; exact rn_f (fun w' => w (kd_2.mp (by simpa using w'.2)))
            have e6 : tb t u s - ta t u s = j := by omega
            rw [e6]
            simp (disch := omega) only [wp_some, wp_obd, wp_ob2, wp_bnd, wp_gd, wp_ite, wp_true, wp_ff, ↓l_n1, ↓l_n2, ↓l_n3, ↓l_n4, ↓l_n10, ↓l_n20, l_0, l_1, l_2, l_3, l_4, l_5, l_6, l_7, l_8, l_9, l_10, l_13, l_14, l_15, l_16, l_20, l_21, l_24, l_27, l_28, l_30, l_31, l_32, l_35, l_36, l_39, l_40, l_41, l_43, l_44, l_45, l_46, l_47, l_48, l_49, l_56, l_57, l_59, l_60, l_79, l_97, l_122, l_160, l_237, l_255, l_320, l_999, l_1000, nI_add, pk_mul, nI_eq, nI_leI, nI_ltI, nI_clamp, inb_nI_iff, e_within, e_in32, e_asNumber, e_flag, decide_eq_true_eq, Sum.elim_inl, Sum.elim_inr, true_implies, not_true_eq_false, not_false_eq_true, false_implies, and_true, true_and, nI_nn, nn_nI, nn_nn, ↓reduceIte, if_true, if_false, Nat.le_refl, implies_true, Nat.lt_irrefl, and_self_left, win1, nI_le_s1, Nat.zero_le, up_s, up_o, Nat.zero_add, m64_0, m64_1, m64_2, m64_3, m64_7, m64_8, m64_9, m64_10, m64_13, m64_20, m64_27, m64_60, k1, g1, in_d, w]
            exact ⟨by omega, k4, k5, k8, k6, k7⟩
        · rintro z ⟨k1, k2, k3, k4, k5, k8, k6, k7⟩
          have g1 := e_look1 (frR z k7) hU (i := ta t u s + (t - ta t u s)) (by omega) (by omega)
          have e5 : tb t u s = ta t u s + (t - ta t u s) := by rw [← k3]; exact rn_f (fun w' => by omega)
          have e6 : tb t u s - ta t u s = t - ta t u s := by omega
          rw [e6]
          simp (disch := omega) only [wp_some, wp_obd, wp_ob2, wp_bnd, wp_gd, wp_ite, wp_true, wp_ff, ↓l_n1, ↓l_n2, ↓l_n3, ↓l_n4, ↓l_n10, ↓l_n20, l_0, l_1, l_2, l_3, l_4, l_5, l_6, l_7, l_8, l_9, l_10, l_13, l_14, l_15, l_16, l_20, l_21, l_24, l_27, l_28, l_30, l_31, l_32, l_35, l_36, l_39, l_40, l_41, l_43, l_44, l_45, l_46, l_47, l_48, l_49, l_56, l_57, l_59, l_60, l_79, l_97, l_122, l_160, l_237, l_255, l_320, l_999, l_1000, nI_add, pk_mul, nI_eq, nI_leI, nI_ltI, nI_clamp, inb_nI_iff, e_within, e_in32, e_asNumber, e_flag, decide_eq_true_eq, Sum.elim_inl, Sum.elim_inr, true_implies, not_true_eq_false, not_false_eq_true, false_implies, and_true, true_and, nI_nn, nn_nI, nn_nn, ↓reduceIte, if_true, if_false, Nat.le_refl, implies_true, Nat.lt_irrefl, and_self_left, win1, nI_le_s1, Nat.zero_le, up_s, up_o, Nat.zero_add, m64_0, m64_1, m64_2, m64_3, m64_7, m64_8, m64_9, m64_10, m64_13, m64_20, m64_27, m64_60, k1, g1, in_d, nn1_d]
          exact ⟨by omega, k4, k5, k8, k6, k7⟩
        rintro e ⟨k1, k2, k3, k8, k4, k5⟩
        have es : nI (tb t u s) - nI (ta t u s) = nI (tb t u s - ta t u s) := sub_n (by omega)
        unfold f_X10_needs
        by_cases w : 2 < tb t u s - ta t u s
        · have hb1 : bad t u s := hbad.mpr (Or.inr ⟨hK2, w⟩)
          simp (disch := omega) only [wp_some, wp_obd, wp_ob2, wp_bnd, wp_gd, wp_ite, wp_true, wp_ff, ↓l_n1, ↓l_n2, ↓l_n3, ↓l_n4, ↓l_n10, ↓l_n20, l_0, l_1, l_2, l_3, l_4, l_5, l_6, l_7, l_8, l_9, l_10, l_13, l_14, l_15, l_16, l_20, l_21, l_24, l_27, l_28, l_30, l_31, l_32, l_35, l_36, l_39, l_40, l_41, l_43, l_44, l_45, l_46, l_47, l_48, l_49, l_56, l_57, l_59, l_60, l_79, l_97, l_122, l_160, l_237, l_255, l_320, l_999, l_1000, nI_add, pk_mul, nI_eq, nI_leI, nI_ltI, nI_clamp, inb_nI_iff, e_within, e_in32, e_asNumber, e_flag, decide_eq_true_eq, Sum.elim_inl, Sum.elim_inr, true_implies, not_true_eq_false, not_false_eq_true, false_implies, and_true, true_and, nI_nn, nn_nI, nn_nn, ↓reduceIte, if_true, if_false, Nat.le_refl, implies_true, Nat.lt_irrefl, and_self_left, win1, nI_le_s1, Nat.zero_le, up_s, up_o, Nat.zero_add, m64_0, m64_1, m64_2, m64_3, m64_7, m64_8, m64_9, m64_10, m64_13, m64_20, m64_27, m64_60, k1, k2, es, w, k4]
          refine ⟨fun e => absurd hb1 e, fun k j o i hh => ?_⟩
          (try simp (disch := omega) only [up_s, up_o, and_self]); exact k5 k j o i hh
        · have hb1 : ¬ bad t u s := fun e => by have := hbad.mp e; omega
          have etv : tv t u s = vl (tb t u s - ta t u s) := by
            unfold tv
            by_cases w1 : tb t u s - ta t u s = 1
            · rw [if_pos w1, w1, v1]
            · rw [if_neg w1, v2 _ (by omega)]
          rw [hK2, etv]
          simp (disch := omega) only [wp_some, wp_obd, wp_ob2, wp_bnd, wp_gd, wp_ite, wp_true, wp_ff, ↓l_n1, ↓l_n2, ↓l_n3, ↓l_n4, ↓l_n10, ↓l_n20, l_0, l_1, l_2, l_3, l_4, l_5, l_6, l_7, l_8, l_9, l_10, l_13, l_14, l_15, l_16, l_20, l_21, l_24, l_27, l_28, l_30, l_31, l_32, l_35, l_36, l_39, l_40, l_41, l_43, l_44, l_45, l_46, l_47, l_48, l_49, l_56, l_57, l_59, l_60, l_79, l_97, l_122, l_160, l_237, l_255, l_320, l_999, l_1000, nI_add, pk_mul, nI_eq, nI_leI, nI_ltI, nI_clamp, inb_nI_iff, e_within, e_in32, e_asNumber, e_flag, decide_eq_true_eq, Sum.elim_inl, Sum.elim_inr, true_implies, not_true_eq_false, not_false_eq_true, false_implies, and_true, true_and, nI_nn, nn_nI, nn_nn, ↓reduceIte, if_true, if_false, Nat.le_refl, implies_true, Nat.lt_irrefl, and_self_left, win1, nI_le_s1, Nat.zero_le, up_s, up_o, Nat.zero_add, m64_0, m64_1, m64_2, m64_3, m64_7, m64_8, m64_9, m64_10, m64_13, m64_20, m64_27, m64_60, k1, k2, es, w]
          exact ⟨fun e => absurd e hb1, fun _ => ⟨k4, k3, k8⟩, k5⟩
      · have hK34 : tkd t u s ≠ 1 ∧ tkd t u s ≠ 2 := ⟨fun e => l1 (kd_1.mp (hK ▸ e)), fun e => l2 (kd_2.mp (hK ▸ e))⟩
        have etb : tb t u s = ta t u s + 1 := by
          unfold tb; rw [if_neg (by omega), if_neg (by omega)]
        unfold f_X10_needs
        by_cases w : u (ta t u s) = 59
        · have hK3 : tkd t u s = 3 := by rw [hK]; exact kd_3.mpr w
          have hb1 : ¬ bad t u s := fun e => by have := hbad.mp e; omega
          have l1' : ¬ (97 ≤ 59 ∧ 59 ≤ 122) := by omega
          rw [w] at e1
          rw [hK3, etb]
          simp (disch := omega) only [wp_some, wp_obd, wp_ob2, wp_bnd, wp_gd, wp_ite, wp_true, wp_ff, ↓l_n1, ↓l_n2, ↓l_n3, ↓l_n4, ↓l_n10, ↓l_n20, l_0, l_1, l_2, l_3, l_4, l_5, l_6, l_7, l_8, l_9, l_10, l_13, l_14, l_15, l_16, l_20, l_21, l_24, l_27, l_28, l_30, l_31, l_32, l_35, l_36, l_39, l_40, l_41, l_43, l_44, l_45, l_46, l_47, l_48, l_49, l_56, l_57, l_59, l_60, l_79, l_97, l_122, l_160, l_237, l_255, l_320, l_999, l_1000, nI_add, pk_mul, nI_eq, nI_leI, nI_ltI, nI_clamp, inb_nI_iff, e_within, e_in32, e_asNumber, e_flag, decide_eq_true_eq, Sum.elim_inl, Sum.elim_inr, true_implies, not_true_eq_false, not_false_eq_true, false_implies, and_true, true_and, nI_nn, nn_nI, nn_nn, ↓reduceIte, if_true, if_false, Nat.le_refl, implies_true, Nat.lt_irrefl, and_self_left, win1, nI_le_s1, Nat.zero_le, up_s, up_o, Nat.zero_add, m64_0, m64_1, m64_2, m64_3, m64_7, m64_8, m64_9, m64_10, m64_13, m64_20, m64_27, m64_60, e11, e1, in_l, in_d, Nat.reduceLeDiff, and_false, false_and]
          refine ⟨e12, fun e => absurd e hb1, fun _ => ⟨e15, ?_⟩, fun k j o i hh => ?_⟩
          · exact fun e => by omega
          · (try simp (disch := omega) only [up_s, up_o, and_self]); exact f8 k j o i hh
        · have hK3 : tkd t u s = 4 := by
            have : tkd t u s ≠ 3 := fun e => w (kd_3.mp (hK ▸ e))
            omega
          have hb1 : bad t u s := hbad.mpr (Or.inl hK3)
          simp (disch := omega) only [wp_some, wp_obd, wp_ob2, wp_bnd, wp_gd, wp_ite, wp_true, wp_ff, ↓l_n1, ↓l_n2, ↓l_n3, ↓l_n4, ↓l_n10, ↓l_n20, l_0, l_1, l_2, l_3, l_4, l_5, l_6, l_7, l_8, l_9, l_10, l_13, l_14, l_15, l_16, l_20, l_21, l_24, l_27, l_28, l_30, l_31, l_32, l_35, l_36, l_39, l_40, l_41, l_43, l_44, l_45, l_46, l_47, l_48, l_49, l_56, l_57, l_59, l_60, l_79, l_97, l_122, l_160, l_237, l_255, l_320, l_999, l_1000, nI_add, pk_mul, nI_eq, nI_leI, nI_ltI, nI_clamp, inb_nI_iff, e_within, e_in32, e_asNumber, e_flag, decide_eq_true_eq, Sum.elim_inl, Sum.elim_inr, true_implies, not_true_eq_false, not_false_eq_true, false_implies, and_true, true_and, nI_nn, nn_nI, nn_nn, ↓reduceIte, if_true, if_false, Nat.le_refl, implies_true, Nat.lt_irrefl, and_self_left, win1, nI_le_s1, Nat.zero_le, up_s, up_o, Nat.zero_add, m64_0, m64_1, m64_2, m64_3, m64_7, m64_8, m64_9, m64_10, m64_13, m64_20, m64_27, m64_60, e11, e1, in_l, l1, in_d, l2, w, e15, e12]
          refine ⟨fun e => absurd hb1 e, fun k j o i hh => ?_⟩
          (try simp (disch := omega) only [up_s, up_o, and_self]); exact f8 k j o i hh
end Cl
