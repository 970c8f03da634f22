/-- the words of the text -/
def wrd (i : Nat) : List Nat := match i with
  | 0 => [112, 108, 97, 99, 101, 115]
  | 1 => [104, 111, 108, 101]
  | 2 => [99, 111, 105, 110]
  | 3 => [102, 97, 108, 115, 101]
  | 4 => [99, 114, 97, 98]
  | 5 => [114, 105, 103, 104, 116]
  | 6 => [108, 101, 102, 116]
  | _ => [116, 105, 100, 101]
theorem wrd_ok : ∀ i, i < 8 → sln i = nI (wrd i).length ∧ sLen.getD i 0 = (wrd i).length ∧ (wrd i).length ≤ 6 ∧ ∀ j, j < (wrd i).length → sch i j = nI ((wrd i).getD j 0) ∧ (wrd i).getD j 0 < 128 := by decide +kernel
def nm (t : Nat) (u : Nat → Nat) (s i : Nat) : Bool := decide (tkd t u s = 1 ∧ tb t u s = ta t u s + (wrd i).length ∧ ∀ j, j < (wrd i).length → u (ta t u s + j) = (wrd i).getD j 0)
theorem all4 {P : Nat → Prop} : (∀ j, j < 4 → P j) ↔ P 0 ∧ P 1 ∧ P 2 ∧ P 3 := by
  constructor
  · intro h; exact ⟨h 0 (by omega), h 1 (by omega), h 2 (by omega), h 3 (by omega)⟩
  · rintro ⟨h0, h1, h2, h3⟩ j hj
    have : j = 0 ∨ j = 1 ∨ j = 2 ∨ j = 3 := by omega
    rcases this with rfl | rfl | rfl | rfl <;> assumption
theorem all5 {P : Nat → Prop} : (∀ j, j < 5 → P j) ↔ P 0 ∧ P 1 ∧ P 2 ∧ P 3 ∧ P 4 := by
  constructor
  · intro h; exact ⟨h 0 (by omega), h 1 (by omega), h 2 (by omega), h 3 (by omega), h 4 (by omega)⟩
  · rintro ⟨h0, h1, h2, h3, h4⟩ j hj
    have : j = 0 ∨ j = 1 ∨ j = 2 ∨ j = 3 ∨ j = 4 := by omega
    rcases this with rfl | rfl | rfl | rfl | rfl <;> assumption
theorem all6 {P : Nat → Prop} : (∀ j, j < 6 → P j) ↔ P 0 ∧ P 1 ∧ P 2 ∧ P 3 ∧ P 4 ∧ P 5 := by
  constructor
  · intro h; exact ⟨h 0 (by omega), h 1 (by omega), h 2 (by omega), h 3 (by omega), h 4 (by omega), h 5 (by omega)⟩
  · rintro ⟨h0, h1, h2, h3, h4, h5⟩ j hj
    have : j = 0 ∨ j = 1 ∨ j = 2 ∨ j = 3 ∨ j = 4 ∨ j = 5 := by omega
    rcases this with rfl | rfl | rfl | rfl | rfl | rfl <;> assumption
section Cl
variable {h g : Mem} {t : Nat} {u : Nat → Nat} {s : Nat}
theorem c_name (hC : CT h t u) (hU : UB t u) (hs : s ≤ t) (h6 : h 16 6 0 0 = nI (tkd t u s)) (h7 : h 16 7 0 0 = nI (ta t u s)) (h8 : h 16 8 0 0 = nI (tb t u s)) {i : Nat} (hi : i < 8) : f_X8_isName i h = some (nm t u s i) := by
  obtain ⟨t1, t2⟩ := hC
  obtain ⟨t3, t4⟩ := hU
  have hb := tb_b (u := u) hs
  obtain ⟨d1, d2, d3, d4⟩ := wrd_ok i hi
  have hk4 : tkd t u s ≤ 4 := by
    unfold tkd; split
    · exact (kd_b _).2
    · omega
  apply Ok.eqv
  unfold f_X8_isName nm
  rw [d1, d2]
  generalize hn : (wrd i).length = n at d1 d2 d3 d4
  generalize hw : (fun j => (wrd i).getD j 0) = w at d4
  have d5 : ∀ j, j < n → sch i j = nI (w j) ∧ w j < 128 := fun j hj => by rw [← hw]; exact d4 j hj
  have hw' : ∀ j, (wrd i).getD j 0 = w j := fun j => by rw [← hw]
  simp only [hw']
  clear d4 hw hw' d1 d2
  by_cases q1 : tkd t u s = 1
  · have es : nI (tb t u s) - nI (ta t u s) = nI (tb t u s - ta t u s) := sub_n (by omega)
    by_cases q2 : tb t u s = ta t u s + n
    · have q3 : tb t u s - ta t u s = n := by omega
      refine ok_ite (fun _ => ?_) (fun e => absurd (by rw [h6, q1]; rfl) e)
      refine ok_ite (fun _ => ?_) (fun e => absurd (by rw [h7, h8, es, q3]) e)
      refine ok_obd ?_
      refine (ok_up (K := Sum.elim (fun r => r = false ∧ ∃ j, j < n ∧ u (ta t u s + j) ≠ w j) (fun _ => ∀ j, j < n → u (ta t u s + j) = w j)) n (fun j z => z = nI j ∧ ∀ i, i < j → u (ta t u s + i) = w i) (by omega) ?_ ?_ _ ⟨rfl, fun i hi => by omega⟩).mono ?_
      · rintro j z hj ⟨rfl, k2⟩
        have f1 : h 18 0 0 (ta t u s + j) = sby (u (ta t u s + j)) := t2 _ (by omega)
        obtain ⟨c1, c2⟩ := d5 j hj
        have f2 := sby_eq (t4 (ta t u s + j) (by omega)) c2
        by_cases w1 : u (ta t u s + j) = w j
        · have f3 := f2.mpr w1
          rw [f3] at f1
          simp (disch := omega) only [wp_some, wp_obd, wp_ob2, wp_bnd, wp_gd, wp_ite, wp_true, wp_ff, ↓l_n1, ↓l_n2, ↓l_n3, ↓l_n4, ↓l_n10, ↓l_n20, l_0, l_1, l_2, l_3, l_4, l_5, l_6, l_7, l_8, l_9, l_10, l_13, l_14, l_15, l_16, l_20, l_21, l_24, l_27, l_28, l_30, l_31, l_32, l_35, l_36, l_39, l_40, l_41, l_43, l_44, l_45, l_46, l_47, l_48, l_49, l_56, l_57, l_59, l_60, l_79, l_97, l_122, l_160, l_237, l_255, l_320, l_999, l_1000, nI_add, pk_mul, nI_eq, nI_leI, nI_ltI, nI_clamp, inb_nI_iff, e_within, e_in32, e_asNumber, e_flag, decide_eq_true_eq, Sum.elim_inl, Sum.elim_inr, true_implies, not_true_eq_false, not_false_eq_true, false_implies, and_true, true_and, nI_nn, nn_nI, nn_nn, ↓reduceIte, if_true, if_false, Nat.le_refl, implies_true, Nat.lt_irrefl, and_self_left, win1, nI_le_s1, Nat.zero_le, up_s, up_o, Nat.zero_add, m64_0, m64_1, m64_2, m64_3, m64_7, m64_8, m64_9, m64_10, m64_13, m64_20, m64_27, m64_60, h7, f1, c1]
          refine ⟨fun e => by omega, fun _ => ⟨by omega, by omega, fun i hi => ?_⟩⟩
          by_cases e : i = j
          · rw [e]; exact w1
          · exact k2 i (by omega)
        · have f3 : ¬ sby (u (ta t u s + j)) = nI (w j) := fun e => w1 (f2.mp e)
          generalize sby (u (ta t u s + j)) = y at f1 f3
          simp (disch := omega) only [wp_some, wp_obd, wp_ob2, wp_bnd, wp_gd, wp_ite, wp_true, wp_ff, ↓l_n1, ↓l_n2, ↓l_n3, ↓l_n4, ↓l_n10, ↓l_n20, l_0, l_1, l_2, l_3, l_4, l_5, l_6, l_7, l_8, l_9, l_10, l_13, l_14, l_15, l_16, l_20, l_21, l_24, l_27, l_28, l_30, l_31, l_32, l_35, l_36, l_39, l_40, l_41, l_43, l_44, l_45, l_46, l_47, l_48, l_49, l_56, l_57, l_59, l_60, l_79, l_97, l_122, l_160, l_237, l_255, l_320, l_999, l_1000, nI_add, pk_mul, nI_eq, nI_leI, nI_ltI, nI_clamp, inb_nI_iff, e_within, e_in32, e_asNumber, e_flag, decide_eq_true_eq, Sum.elim_inl, Sum.elim_inr, true_implies, not_true_eq_false, not_false_eq_true, false_implies, and_true, true_and, nI_nn, nn_nI, nn_nn, ↓reduceIte, if_true, if_false, Nat.le_refl, implies_true, Nat.lt_irrefl, and_self_left, win1, nI_le_s1, Nat.zero_le, up_s, up_o, Nat.zero_add, m64_0, m64_1, m64_2, m64_3, m64_7, m64_8, m64_9, m64_10, m64_13, m64_20, m64_27, m64_60, h7, f1, c1, f3]
          exact ⟨fun e => by omega, fun _ => ⟨by omega, by omega, j, hj, w1⟩⟩
      · rintro z ⟨rfl, k2⟩
        simp (disch := omega) only [wp_some, wp_obd, wp_ob2, wp_bnd, wp_gd, wp_ite, wp_true, wp_ff, ↓l_n1, ↓l_n2, ↓l_n3, ↓l_n4, ↓l_n10, ↓l_n20, l_0, l_1, l_2, l_3, l_4, l_5, l_6, l_7, l_8, l_9, l_10, l_13, l_14, l_15, l_16, l_20, l_21, l_24, l_27, l_28, l_30, l_31, l_32, l_35, l_36, l_39, l_40, l_41, l_43, l_44, l_45, l_46, l_47, l_48, l_49, l_56, l_57, l_59, l_60, l_79, l_97, l_122, l_160, l_237, l_255, l_320, l_999, l_1000, nI_add, pk_mul, nI_eq, nI_leI, nI_ltI, nI_clamp, inb_nI_iff, e_within, e_in32, e_asNumber, e_flag, decide_eq_true_eq, Sum.elim_inl, Sum.elim_inr, true_implies, not_true_eq_false, not_false_eq_true, false_implies, and_true, true_and, nI_nn, nn_nI, nn_nn, ↓reduceIte, if_true, if_false, Nat.le_refl, implies_true, Nat.lt_irrefl, and_self_left, win1, nI_le_s1, Nat.zero_le, up_s, up_o, Nat.zero_add, m64_0, m64_1, m64_2, m64_3, m64_7, m64_8, m64_9, m64_10, m64_13, m64_20, m64_27, m64_60]
        exact k2
      · rintro z hz
        cases z with
        | inl r =>
          obtain ⟨rfl, j, hj, hne⟩ := hz
          refine wp_some.mpr ?_
          symm
          rw [decide_eq_false_iff_not]
          exact fun e => hne (e.2.2 j hj)
        | inr r =>
          refine wp_some.mpr ?_
          symm
          rw [decide_eq_true_eq]
          exact ⟨q1, q2, hz⟩
    · have q3 : ¬ tb t u s - ta t u s = n := by omega
      have q4 : ¬ (tkd t u s = 1 ∧ tb t u s = ta t u s + n ∧ ∀ j, j < n → u (ta t u s + j) = w j) := fun e => q2 e.2.1
      rw [decide_eq_false q4]
      simp (disch := omega) only [wp_some, wp_obd, wp_ob2, wp_bnd, wp_gd, wp_ite, wp_true, wp_ff, ↓l_n1, ↓l_n2, ↓l_n3, ↓l_n4, ↓l_n10, ↓l_n20, l_0, l_1, l_2, l_3, l_4, l_5, l_6, l_7, l_8, l_9, l_10, l_13, l_14, l_15, l_16, l_20, l_21, l_24, l_27, l_28, l_30, l_31, l_32, l_35, l_36, l_39, l_40, l_41, l_43, l_44, l_45, l_46, l_47, l_48, l_49, l_56, l_57, l_59, l_60, l_79, l_97, l_122, l_160, l_237, l_255, l_320, l_999, l_1000, nI_add, pk_mul, nI_eq, nI_leI, nI_ltI, nI_clamp, inb_nI_iff, e_within, e_in32, e_asNumber, e_flag, decide_eq_true_eq, Sum.elim_inl, Sum.elim_inr, true_implies, not_true_eq_false, not_false_eq_true, false_implies, and_true, true_and, nI_nn, nn_nI, nn_nn, ↓reduceIte, if_true, if_false, Nat.le_refl, implies_true, Nat.lt_irrefl, and_self_left, win1, nI_le_s1, Nat.zero_le, up_s, up_o, Nat.zero_add, m64_0, m64_1, m64_2, m64_3, m64_7, m64_8, m64_9, m64_10, m64_13, m64_20, m64_27, m64_60, h6, h7, h8, q1, es, q3]
  · have q4 : ¬ (tkd t u s = 1 ∧ tb t u s = ta t u s + n ∧ ∀ j, j < n → u (ta t u s + j) = w j) := fun e => q1 e.1
    rw [decide_eq_false q4]
    simp (disch := omega) only [wp_some, wp_obd, wp_ob2, wp_bnd, wp_gd, wp_ite, wp_true, wp_ff, ↓l_n1, ↓l_n2, ↓l_n3, ↓l_n4, ↓l_n10, ↓l_n20, l_0, l_1, l_2, l_3, l_4, l_5, l_6, l_7, l_8, l_9, l_10, l_13, l_14, l_15, l_16, l_20, l_21, l_24, l_27, l_28, l_30, l_31, l_32, l_35, l_36, l_39, l_40, l_41, l_43, l_44, l_45, l_46, l_47, l_48, l_49, l_56, l_57, l_59, l_60, l_79, l_97, l_122, l_160, l_237, l_255, l_320, l_999, l_1000, nI_add, pk_mul, nI_eq, nI_leI, nI_ltI, nI_clamp, inb_nI_iff, e_within, e_in32, e_asNumber, e_flag, decide_eq_true_eq, Sum.elim_inl, Sum.elim_inr, true_implies, not_true_eq_false, not_false_eq_true, false_implies, and_true, true_and, nI_nn, nn_nI, nn_nn, ↓reduceIte, if_true, if_false, Nat.le_refl, implies_true, Nat.lt_irrefl, and_self_left, win1, nI_le_s1, Nat.zero_le, up_s, up_o, Nat.zero_add, m64_0, m64_1, m64_2, m64_3, m64_7, m64_8, m64_9, m64_10, m64_13, m64_20, m64_27, m64_60, h6, q1]
theorem nm4 {i a b c d : Nat} (hw : wrd i = [a, b, c, d]) (hk : tkd t u s = 1) : nm t u s i = true ↔ tb t u s = ta t u s + 4 ∧ u (ta t u s) = a ∧ u (ta t u s + 1) = b ∧ u (ta t u s + 2) = c ∧ u (ta t u s + 3) = d := by
  unfold nm
  rw [hw, decide_eq_true_eq]
  show _ ∧ _ ∧ (∀ j, j < 4 → _) ↔ _
  rw [all4]
  exact ⟨fun e => ⟨e.2.1, e.2.2⟩, fun e => ⟨hk, e.1, e.2⟩⟩
theorem nm5 {i a b c d e : Nat} (hw : wrd i = [a, b, c, d, e]) (hk : tkd t u s = 1) : nm t u s i = true ↔ tb t u s = ta t u s + 5 ∧ u (ta t u s) = a ∧ u (ta t u s + 1) = b ∧ u (ta t u s + 2) = c ∧ u (ta t u s + 3) = d ∧ u (ta t u s + 4) = e := by
  unfold nm
  rw [hw, decide_eq_true_eq]
  show _ ∧ _ ∧ (∀ j, j < 5 → _) ↔ _
  rw [all5]
  exact ⟨fun e => ⟨e.2.1, e.2.2⟩, fun e => ⟨hk, e.1, e.2⟩⟩
theorem nm6 {i a b c d e f : Nat} (hw : wrd i = [a, b, c, d, e, f]) (hk : tkd t u s = 1) : nm t u s i = true ↔ tb t u s = ta t u s + 6 ∧ u (ta t u s) = a ∧ u (ta t u s + 1) = b ∧ u (ta t u s + 2) = c ∧ u (ta t u s + 3) = d ∧ u (ta t u s + 4) = e ∧ u (ta t u s + 5) = f := by
  unfold nm
  rw [hw, decide_eq_true_eq]
  show _ ∧ _ ∧ (∀ j, j < 6 → _) ↔ _
  rw [all6]
  exact ⟨fun e => ⟨e.2.1, e.2.2⟩, fun e => ⟨hk, e.1, e.2⟩⟩
/-- a question in two parts, and its answer -/
def Tri (x y : Option Bool) (N : Bool) : Prop := (x = some true ∧ y = some true ∧ N = true) ∨ (x = some false ∧ N = false) ∨ (x = some true ∧ y = some false ∧ N = false)
theorem m_is (hR : RT h t u) (hU : UB t u) (hs : s ≤ t) (h11 : h 24 11 0 0 = nI (tb t u s)) (h12 : h 24 12 0 0 = nI (ta t u s)) {n a b c : Nat} (hn : 3 ≤ n ∧ n ≤ 6) (hc : a < 128 ∧ b < 128 ∧ c < 128) : (f_X10_is (nI n) (nI a) (nI b) (nI c) h = some true ∧ tb t u s = ta t u s + n ∧ u (ta t u s) = a ∧ u (ta t u s + 1) = b ∧ u (ta t u s + 2) = c) ∨ (f_X10_is (nI n) (nI a) (nI b) (nI c) h = some false ∧ ¬ (tb t u s = ta t u s + n ∧ u (ta t u s) = a ∧ u (ta t u s + 1) = b ∧ u (ta t u s + 2) = c)) := by
  have hb := tb_b (u := u) hs
  have t3 := hU.1
  have es : nI (tb t u s) - nI (ta t u s) = nI (tb t u s - ta t u s) := sub_n (by omega)
  unfold f_X10_is
  by_cases q : tb t u s = ta t u s + n
  · have q3 : tb t u s - ta t u s = n := by omega
    have l0 := e_look hR hU (i := ta t u s) (by omega)
    have l1 := e_look hR hU (i := ta t u s + 1) (by omega)
    have l2 := e_look hR hU (i := ta t u s + 2) (by omega)
    have b0 := hU.2 (ta t u s) (by omega)
    have b1 := hU.2 (ta t u s + 1) (by omega)
    have b2 := hU.2 (ta t u s + 2) (by omega)
    by_cases q0 : u (ta t u s) = a
    · by_cases q1 : u (ta t u s + 1) = b
      · by_cases q2 : u (ta t u s + 2) = c
        · refine Or.inl ⟨?_, q, q0, q1, q2⟩
          apply Ok.eqv
          simp (disch := omega) only [wp_some, wp_obd, wp_ob2, wp_bnd, wp_gd, wp_ite, wp_true, wp_ff, ↓l_n1, ↓l_n2, ↓l_n3, ↓l_n4, ↓l_n10, ↓l_n20, l_0, l_1, l_2, l_3, l_4, l_5, l_6, l_7, l_8, l_9, l_10, l_13, l_14, l_15, l_16, l_20, l_21, l_24, l_27, l_28, l_30, l_31, l_32, l_35, l_36, l_39, l_40, l_41, l_43, l_44, l_45, l_46, l_47, l_48, l_49, l_56, l_57, l_59, l_60, l_79, l_97, l_122, l_160, l_237, l_255, l_320, l_999, l_1000, nI_add, pk_mul, nI_eq, nI_leI, nI_ltI, nI_clamp, inb_nI_iff, e_within, e_in32, e_asNumber, e_flag, decide_eq_true_eq, Sum.elim_inl, Sum.elim_inr, true_implies, not_true_eq_false, not_false_eq_true, false_implies, and_true, true_and, nI_nn, nn_nI, nn_nn, ↓reduceIte, if_true, if_false, Nat.le_refl, implies_true, Nat.lt_irrefl, and_self_left, win1, nI_le_s1, Nat.zero_le, up_s, up_o, Nat.zero_add, m64_0, m64_1, m64_2, m64_3, m64_7, m64_8, m64_9, m64_10, m64_13, m64_20, m64_27, m64_60, h11, h12, es, q3, l0, l1, l2, q0, q1, q2]
        · refine Or.inr ⟨?_, fun e => q2 e.2.2.2⟩
          apply Ok.eqv
          simp (disch := omega) only [wp_some, wp_obd, wp_ob2, wp_bnd, wp_gd, wp_ite, wp_true, wp_ff, ↓l_n1, ↓l_n2, ↓l_n3, ↓l_n4, ↓l_n10, ↓l_n20, l_0, l_1, l_2, l_3, l_4, l_5, l_6, l_7, l_8, l_9, l_10, l_13, l_14, l_15, l_16, l_20, l_21, l_24, l_27, l_28, l_30, l_31, l_32, l_35, l_36, l_39, l_40, l_41, l_43, l_44, l_45, l_46, l_47, l_48, l_49, l_56, l_57, l_59, l_60, l_79, l_97, l_122, l_160, l_237, l_255, l_320, l_999, l_1000, nI_add, pk_mul, nI_eq, nI_leI, nI_ltI, nI_clamp, inb_nI_iff, e_within, e_in32, e_asNumber, e_flag, decide_eq_true_eq, Sum.elim_inl, Sum.elim_inr, true_implies, not_true_eq_false, not_false_eq_true, false_implies, and_true, true_and, nI_nn, nn_nI, nn_nn, ↓reduceIte, if_true, if_false, Nat.le_refl, implies_true, Nat.lt_irrefl, and_self_left, win1, nI_le_s1, Nat.zero_le, up_s, up_o, Nat.zero_add, m64_0, m64_1, m64_2, m64_3, m64_7, m64_8, m64_9, m64_10, m64_13, m64_20, m64_27, m64_60, h11, h12, es, q3, l0, l1, l2, q0, q1, q2]
      · refine Or.inr ⟨?_, fun e => q1 e.2.2.1⟩
        apply Ok.eqv
        simp (disch := omega) only [wp_some, wp_obd, wp_ob2, wp_bnd, wp_gd, wp_ite, wp_true, wp_ff, ↓l_n1, ↓l_n2, ↓l_n3, ↓l_n4, ↓l_n10, ↓l_n20, l_0, l_1, l_2, l_3, l_4, l_5, l_6, l_7, l_8, l_9, l_10, l_13, l_14, l_15, l_16, l_20, l_21, l_24, l_27, l_28, l_30, l_31, l_32, l_35, l_36, l_39, l_40, l_41, l_43, l_44, l_45, l_46, l_47, l_48, l_49, l_56, l_57, l_59, l_60, l_79, l_97, l_122, l_160, l_237, l_255, l_320, l_999, l_1000, nI_add, pk_mul, nI_eq, nI_leI, nI_ltI, nI_clamp, inb_nI_iff, e_within, e_in32, e_asNumber, e_flag, decide_eq_true_eq, Sum.elim_inl, Sum.elim_inr, true_implies, not_true_eq_false, not_false_eq_true, false_implies, and_true, true_and, nI_nn, nn_nI, nn_nn, ↓reduceIte, if_true, if_false, Nat.le_refl, implies_true, Nat.lt_irrefl, and_self_left, win1, nI_le_s1, Nat.zero_le, up_s, up_o, Nat.zero_add, m64_0, m64_1, m64_2, m64_3, m64_7, m64_8, m64_9, m64_10, m64_13, m64_20, m64_27, m64_60, h11, h12, es, q3, l0, l1, q0, q1]
    · refine Or.inr ⟨?_, fun e => q0 e.2.1⟩
      apply Ok.eqv
      simp (disch := omega) only [wp_some, wp_obd, wp_ob2, wp_bnd, wp_gd, wp_ite, wp_true, wp_ff, ↓l_n1, ↓l_n2, ↓l_n3, ↓l_n4, ↓l_n10, ↓l_n20, l_0, l_1, l_2, l_3, l_4, l_5, l_6, l_7, l_8, l_9, l_10, l_13, l_14, l_15, l_16, l_20, l_21, l_24, l_27, l_28, l_30, l_31, l_32, l_35, l_36, l_39, l_40, l_41, l_43, l_44, l_45, l_46, l_47, l_48, l_49, l_56, l_57, l_59, l_60, l_79, l_97, l_122, l_160, l_237, l_255, l_320, l_999, l_1000, nI_add, pk_mul, nI_eq, nI_leI, nI_ltI, nI_clamp, inb_nI_iff, e_within, e_in32, e_asNumber, e_flag, decide_eq_true_eq, Sum.elim_inl, Sum.elim_inr, true_implies, not_true_eq_false, not_false_eq_true, false_implies, and_true, true_and, nI_nn, nn_nI, nn_nn, ↓reduceIte, if_true, if_false, Nat.le_refl, implies_true, Nat.lt_irrefl, and_self_left, win1, nI_le_s1, Nat.zero_le, up_s, up_o, Nat.zero_add, m64_0, m64_1, m64_2, m64_3, m64_7, m64_8, m64_9, m64_10, m64_13, m64_20, m64_27, m64_60, h11, h12, es, q3, l0, q0]
  · refine Or.inr ⟨?_, fun e => q e.1⟩
    apply Ok.eqv
    have q3 : ¬ tb t u s - ta t u s = n := by omega
    simp (disch := omega) only [wp_some, wp_obd, wp_ob2, wp_bnd, wp_gd, wp_ite, wp_true, wp_ff, ↓l_n1, ↓l_n2, ↓l_n3, ↓l_n4, ↓l_n10, ↓l_n20, l_0, l_1, l_2, l_3, l_4, l_5, l_6, l_7, l_8, l_9, l_10, l_13, l_14, l_15, l_16, l_20, l_21, l_24, l_27, l_28, l_30, l_31, l_32, l_35, l_36, l_39, l_40, l_41, l_43, l_44, l_45, l_46, l_47, l_48, l_49, l_56, l_57, l_59, l_60, l_79, l_97, l_122, l_160, l_237, l_255, l_320, l_999, l_1000, nI_add, pk_mul, nI_eq, nI_leI, nI_ltI, nI_clamp, inb_nI_iff, e_within, e_in32, e_asNumber, e_flag, decide_eq_true_eq, Sum.elim_inl, Sum.elim_inr, true_implies, not_true_eq_false, not_false_eq_true, false_implies, and_true, true_and, nI_nn, nn_nI, nn_nn, ↓reduceIte, if_true, if_false, Nat.le_refl, implies_true, Nat.lt_irrefl, and_self_left, win1, nI_le_s1, Nat.zero_le, up_s, up_o, Nat.zero_add, m64_0, m64_1, m64_2, m64_3, m64_7, m64_8, m64_9, m64_10, m64_13, m64_20, m64_27, m64_60, h11, h12, es, q3]
theorem m_w4 (hR : RT h t u) (hU : UB t u) (hs : s ≤ t) (h11 : h 24 11 0 0 = nI (tb t u s)) (h12 : h 24 12 0 0 = nI (ta t u s)) (hk : tkd t u s = 1) {i a b c d : Nat} (hw : wrd i = [a, b, c, d]) (hc : a < 128 ∧ b < 128 ∧ c < 128 ∧ d < 128) : Tri (f_X10_is (nI 4) (nI a) (nI b) (nI c) h) (f_X10_ends (nI d) (nI 0) (nI 0) h) (nm t u s i) := by
  have hb := tb_b (u := u) hs
  have t3 := hU.1
  have hN := nm4 (t := t) (u := u) (s := s) hw hk
  rcases m_is hR hU hs h11 h12 (n := 4) (a := a) (b := b) (c := c) (by omega) (by omega) with ⟨e1, e2⟩ | ⟨e1, e2⟩
  · have l0 := e_look hR hU (i := ta t u s + 3) (by omega)
    have b0 := hU.2 (ta t u s + 3) (by omega)
    by_cases q : u (ta t u s + 3) = d
    · refine Or.inl ⟨e1, ?_, hN.mpr ⟨e2.1, e2.2.1, e2.2.2.1, e2.2.2.2, q⟩⟩
      apply Ok.eqv
      unfold f_X10_ends
      simp (disch := omega) only [wp_some, wp_obd, wp_ob2, wp_bnd, wp_gd, wp_ite, wp_true, wp_ff, ↓l_n1, ↓l_n2, ↓l_n3, ↓l_n4, ↓l_n10, ↓l_n20, l_0, l_1, l_2, l_3, l_4, l_5, l_6, l_7, l_8, l_9, l_10, l_13, l_14, l_15, l_16, l_20, l_21, l_24, l_27, l_28, l_30, l_31, l_32, l_35, l_36, l_39, l_40, l_41, l_43, l_44, l_45, l_46, l_47, l_48, l_49, l_56, l_57, l_59, l_60, l_79, l_97, l_122, l_160, l_237, l_255, l_320, l_999, l_1000, nI_add, pk_mul, nI_eq, nI_leI, nI_ltI, nI_clamp, inb_nI_iff, e_within, e_in32, e_asNumber, e_flag, decide_eq_true_eq, Sum.elim_inl, Sum.elim_inr, true_implies, not_true_eq_false, not_false_eq_true, false_implies, and_true, true_and, nI_nn, nn_nI, nn_nn, ↓reduceIte, if_true, if_false, Nat.le_refl, implies_true, Nat.lt_irrefl, and_self_left, win1, nI_le_s1, Nat.zero_le, up_s, up_o, Nat.zero_add, m64_0, m64_1, m64_2, m64_3, m64_7, m64_8, m64_9, m64_10, m64_13, m64_20, m64_27, m64_60, h12, l0, q]
    · refine Or.inr (Or.inr ⟨e1, ?_, by rw [← Bool.not_eq_true, hN]; exact fun e => q e.2.2.2.2⟩)
      apply Ok.eqv
      unfold f_X10_ends
      simp (disch := omega) only [wp_some, wp_obd, wp_ob2, wp_bnd, wp_gd, wp_ite, wp_true, wp_ff, ↓l_n1, ↓l_n2, ↓l_n3, ↓l_n4, ↓l_n10, ↓l_n20, l_0, l_1, l_2, l_3, l_4, l_5, l_6, l_7, l_8, l_9, l_10, l_13, l_14, l_15, l_16, l_20, l_21, l_24, l_27, l_28, l_30, l_31, l_32, l_35, l_36, l_39, l_40, l_41, l_43, l_44, l_45, l_46, l_47, l_48, l_49, l_56, l_57, l_59, l_60, l_79, l_97, l_122, l_160, l_237, l_255, l_320, l_999, l_1000, nI_add, pk_mul, nI_eq, nI_leI, nI_ltI, nI_clamp, inb_nI_iff, e_within, e_in32, e_asNumber, e_flag, decide_eq_true_eq, Sum.elim_inl, Sum.elim_inr, true_implies, not_true_eq_false, not_false_eq_true, false_implies, and_true, true_and, nI_nn, nn_nI, nn_nn, ↓reduceIte, if_true, if_false, Nat.le_refl, implies_true, Nat.lt_irrefl, and_self_left, win1, nI_le_s1, Nat.zero_le, up_s, up_o, Nat.zero_add, m64_0, m64_1, m64_2, m64_3, m64_7, m64_8, m64_9, m64_10, m64_13, m64_20, m64_27, m64_60, h12, l0, q]
  · refine Or.inr (Or.inl ⟨e1, by rw [← Bool.not_eq_true, hN]; exact fun e => e2 ⟨e.1, e.2.1, e.2.2.1, e.2.2.2.1⟩⟩)
theorem m_w5 (hR : RT h t u) (hU : UB t u) (hs : s ≤ t) (h11 : h 24 11 0 0 = nI (tb t u s)) (h12 : h 24 12 0 0 = nI (ta t u s)) (hk : tkd t u s = 1) {i a b c d e : Nat} (hw : wrd i = [a, b, c, d, e]) (hc : a < 128 ∧ b < 128 ∧ c < 128 ∧ d < 128 ∧ 0 < e ∧ e < 128) : Tri (f_X10_is (nI 5) (nI a) (nI b) (nI c) h) (f_X10_ends (nI d) (nI e) (nI 0) h) (nm t u s i) := by
  have hb := tb_b (u := u) hs
  have t3 := hU.1
  have hN := nm5 (t := t) (u := u) (s := s) hw hk
  have z1 : ¬ e = 0 := by omega
  rcases m_is hR hU hs h11 h12 (n := 5) (a := a) (b := b) (c := c) (by omega) (by omega) with ⟨e1, e2⟩ | ⟨e1, e2⟩
  · have l0 := e_look hR hU (i := ta t u s + 3) (by omega)
    have l1 := e_look hR hU (i := ta t u s + 4) (by omega)
    have b0 := hU.2 (ta t u s + 3) (by omega)
    have b1 := hU.2 (ta t u s + 4) (by omega)
    by_cases q : u (ta t u s + 3) = d
    · by_cases q1 : u (ta t u s + 4) = e
      · refine Or.inl ⟨e1, ?_, hN.mpr ⟨e2.1, e2.2.1, e2.2.2.1, e2.2.2.2, q, q1⟩⟩
        apply Ok.eqv
        unfold f_X10_ends
        simp (disch := omega) only [wp_some, wp_obd, wp_ob2, wp_bnd, wp_gd, wp_ite, wp_true, wp_ff, ↓l_n1, ↓l_n2, ↓l_n3, ↓l_n4, ↓l_n10, ↓l_n20, l_0, l_1, l_2, l_3, l_4, l_5, l_6, l_7, l_8, l_9, l_10, l_13, l_14, l_15, l_16, l_20, l_21, l_24, l_27, l_28, l_30, l_31, l_32, l_35, l_36, l_39, l_40, l_41, l_43, l_44, l_45, l_46, l_47, l_48, l_49, l_56, l_57, l_59, l_60, l_79, l_97, l_122, l_160, l_237, l_255, l_320, l_999, l_1000, nI_add, pk_mul, nI_eq, nI_leI, nI_ltI, nI_clamp, inb_nI_iff, e_within, e_in32, e_asNumber, e_flag, decide_eq_true_eq, Sum.elim_inl, Sum.elim_inr, true_implies, not_true_eq_false, not_false_eq_true, false_implies, and_true, true_and, nI_nn, nn_nI, nn_nn, ↓reduceIte, if_true, if_false, Nat.le_refl, implies_true, Nat.lt_irrefl, and_self_left, win1, nI_le_s1, Nat.zero_le, up_s, up_o, Nat.zero_add, m64_0, m64_1, m64_2, m64_3, m64_7, m64_8, m64_9, m64_10, m64_13, m64_20, m64_27, m64_60, h12, l0, q, l1, q1, z1]
      · refine Or.inr (Or.inr ⟨e1, ?_, by rw [← Bool.not_eq_true, hN]; exact fun e => q1 e.2.2.2.2.2⟩)
        apply Ok.eqv
        unfold f_X10_ends
        simp (disch := omega) only [wp_some, wp_obd, wp_ob2, wp_bnd, wp_gd, wp_ite, wp_true, wp_ff, ↓l_n1, ↓l_n2, ↓l_n3, ↓l_n4, ↓l_n10, ↓l_n20, l_0, l_1, l_2, l_3, l_4, l_5, l_6, l_7, l_8, l_9, l_10, l_13, l_14, l_15, l_16, l_20, l_21, l_24, l_27, l_28, l_30, l_31, l_32, l_35, l_36, l_39, l_40, l_41, l_43, l_44, l_45, l_46, l_47, l_48, l_49, l_56, l_57, l_59, l_60, l_79, l_97, l_122, l_160, l_237, l_255, l_320, l_999, l_1000, nI_add, pk_mul, nI_eq, nI_leI, nI_ltI, nI_clamp, inb_nI_iff, e_within, e_in32, e_asNumber, e_flag, decide_eq_true_eq, Sum.elim_inl, Sum.elim_inr, true_implies, not_true_eq_false, not_false_eq_true, false_implies, and_true, true_and, nI_nn, nn_nI, nn_nn, ↓reduceIte, if_true, if_false, Nat.le_refl, implies_true, Nat.lt_irrefl, and_self_left, win1, nI_le_s1, Nat.zero_le, up_s, up_o, Nat.zero_add, m64_0, m64_1, m64_2, m64_3, m64_7, m64_8, m64_9, m64_10, m64_13, m64_20, m64_27, m64_60, h12, l0, q, l1, q1, z1]
    · refine Or.inr (Or.inr ⟨e1, ?_, by rw [← Bool.not_eq_true, hN]; exact fun e => q e.2.2.2.2.1⟩)
      apply Ok.eqv
      unfold f_X10_ends
      simp (disch := omega) only [wp_some, wp_obd, wp_ob2, wp_bnd, wp_gd, wp_ite, wp_true, wp_ff, ↓l_n1, ↓l_n2, ↓l_n3, ↓l_n4, ↓l_n10, ↓l_n20, l_0, l_1, l_2, l_3, l_4, l_5, l_6, l_7, l_8, l_9, l_10, l_13, l_14, l_15, l_16, l_20, l_21, l_24, l_27, l_28, l_30, l_31, l_32, l_35, l_36, l_39, l_40, l_41, l_43, l_44, l_45, l_46, l_47, l_48, l_49, l_56, l_57, l_59, l_60, l_79, l_97, l_122, l_160, l_237, l_255, l_320, l_999, l_1000, nI_add, pk_mul, nI_eq, nI_leI, nI_ltI, nI_clamp, inb_nI_iff, e_within, e_in32, e_asNumber, e_flag, decide_eq_true_eq, Sum.elim_inl, Sum.elim_inr, true_implies, not_true_eq_false, not_false_eq_true, false_implies, and_true, true_and, nI_nn, nn_nI, nn_nn, ↓reduceIte, if_true, if_false, Nat.le_refl, implies_true, Nat.lt_irrefl, and_self_left, win1, nI_le_s1, Nat.zero_le, up_s, up_o, Nat.zero_add, m64_0, m64_1, m64_2, m64_3, m64_7, m64_8, m64_9, m64_10, m64_13, m64_20, m64_27, m64_60, h12, l0, q]
  · refine Or.inr (Or.inl ⟨e1, by rw [← Bool.not_eq_true, hN]; exact fun e => e2 ⟨e.1, e.2.1, e.2.2.1, e.2.2.2.1⟩⟩)
theorem m_w6 (hR : RT h t u) (hU : UB t u) (hs : s ≤ t) (h11 : h 24 11 0 0 = nI (tb t u s)) (h12 : h 24 12 0 0 = nI (ta t u s)) (hk : tkd t u s = 1) {i a b c d e f : Nat} (hw : wrd i = [a, b, c, d, e, f]) (hc : a < 128 ∧ b < 128 ∧ c < 128 ∧ d < 128 ∧ 0 < e ∧ e < 128 ∧ 0 < f ∧ f < 128) : Tri (f_X10_is (nI 6) (nI a) (nI b) (nI c) h) (f_X10_ends (nI d) (nI e) (nI f) h) (nm t u s i) := by
  have hb := tb_b (u := u) hs
  have t3 := hU.1
  have hN := nm6 (t := t) (u := u) (s := s) hw hk
  have z1 : ¬ e = 0 := by omega
  have z2 : ¬ f = 0 := by omega
  rcases m_is hR hU hs h11 h12 (n := 6) (a := a) (b := b) (c := c) (by omega) (by omega) with ⟨e1, e2⟩ | ⟨e1, e2⟩
  · have l0 := e_look hR hU (i := ta t u s + 3) (by omega)
    have l1 := e_look hR hU (i := ta t u s + 4) (by omega)
    have l2 := e_look hR hU (i := ta t u s + 5) (by omega)
    have b0 := hU.2 (ta t u s + 3) (by omega)
    have b1 := hU.2 (ta t u s + 4) (by omega)
    have b2 := hU.2 (ta t u s + 5) (by omega)
    by_cases q : u (ta t u s + 3) = d
    · by_cases q1 : u (ta t u s + 4) = e
      · by_cases q2 : u (ta t u s + 5) = f
        · refine Or.inl ⟨e1, ?_, hN.mpr ⟨e2.1, e2.2.1, e2.2.2.1, e2.2.2.2, q, q1, q2⟩⟩
          apply Ok.eqv
          unfold f_X10_ends
          simp (disch := omega) only [wp_some, wp_obd, wp_ob2, wp_bnd, wp_gd, wp_ite, wp_true, wp_ff, ↓l_n1, ↓l_n2, ↓l_n3, ↓l_n4, ↓l_n10, ↓l_n20, l_0, l_1, l_2, l_3, l_4, l_5, l_6, l_7, l_8, l_9, l_10, l_13, l_14, l_15, l_16, l_20, l_21, l_24, l_27, l_28, l_30, l_31, l_32, l_35, l_36, l_39, l_40, l_41, l_43, l_44, l_45, l_46, l_47, l_48, l_49, l_56, l_57, l_59, l_60, l_79, l_97, l_122, l_160, l_237, l_255, l_320, l_999, l_1000, nI_add, pk_mul, nI_eq, nI_leI, nI_ltI, nI_clamp, inb_nI_iff, e_within, e_in32, e_asNumber, e_flag, decide_eq_true_eq, Sum.elim_inl, Sum.elim_inr, true_implies, not_true_eq_false, not_false_eq_true, false_implies, and_true, true_and, nI_nn, nn_nI, nn_nn, ↓reduceIte, if_true, if_false, Nat.le_refl, implies_true, Nat.lt_irrefl, and_self_left, win1, nI_le_s1, Nat.zero_le, up_s, up_o, Nat.zero_add, m64_0, m64_1, m64_2, m64_3, m64_7, m64_8, m64_9, m64_10, m64_13, m64_20, m64_27, m64_60, h12, l0, q, l1, q1, l2, q2, z1, z2]
        · refine Or.inr (Or.inr ⟨e1, ?_, by rw [← Bool.not_eq_true, hN]; exact fun e => q2 e.2.2.2.2.2.2⟩)
          apply Ok.eqv
          unfold f_X10_ends
          simp (disch := omega) only [wp_some, wp_obd, wp_ob2, wp_bnd, wp_gd, wp_ite, wp_true, wp_ff, ↓l_n1, ↓l_n2, ↓l_n3, ↓l_n4, ↓l_n10, ↓l_n20, l_0, l_1, l_2, l_3, l_4, l_5, l_6, l_7, l_8, l_9, l_10, l_13, l_14, l_15, l_16, l_20, l_21, l_24, l_27, l_28, l_30, l_31, l_32, l_35, l_36, l_39, l_40, l_41, l_43, l_44, l_45, l_46, l_47, l_48, l_49, l_56, l_57, l_59, l_60, l_79, l_97, l_122, l_160, l_237, l_255, l_320, l_999, l_1000, nI_add, pk_mul, nI_eq, nI_leI, nI_ltI, nI_clamp, inb_nI_iff, e_within, e_in32, e_asNumber, e_flag, decide_eq_true_eq, Sum.elim_inl, Sum.elim_inr, true_implies, not_true_eq_false, not_false_eq_true, false_implies, and_true, true_and, nI_nn, nn_nI, nn_nn, ↓reduceIte, if_true, if_false, Nat.le_refl, implies_true, Nat.lt_irrefl, and_self_left, win1, nI_le_s1, Nat.zero_le, up_s, up_o, Nat.zero_add, m64_0, m64_1, m64_2, m64_3, m64_7, m64_8, m64_9, m64_10, m64_13, m64_20, m64_27, m64_60, h12, l0, q, l1, q1, l2, q2, z1, z2]
      · refine Or.inr (Or.inr ⟨e1, ?_, by rw [← Bool.not_eq_true, hN]; exact fun e => q1 e.2.2.2.2.2.1⟩)
        apply Ok.eqv
        unfold f_X10_ends
        simp (disch := omega) only [wp_some, wp_obd, wp_ob2, wp_bnd, wp_gd, wp_ite, wp_true, wp_ff, ↓l_n1, ↓l_n2, ↓l_n3, ↓l_n4, ↓l_n10, ↓l_n20, l_0, l_1, l_2, l_3, l_4, l_5, l_6, l_7, l_8, l_9, l_10, l_13, l_14, l_15, l_16, l_20, l_21, l_24, l_27, l_28, l_30, l_31, l_32, l_35, l_36, l_39, l_40, l_41, l_43, l_44, l_45, l_46, l_47, l_48, l_49, l_56, l_57, l_59, l_60, l_79, l_97, l_122, l_160, l_237, l_255, l_320, l_999, l_1000, nI_add, pk_mul, nI_eq, nI_leI, nI_ltI, nI_clamp, inb_nI_iff, e_within, e_in32, e_asNumber, e_flag, decide_eq_true_eq, Sum.elim_inl, Sum.elim_inr, true_implies, not_true_eq_false, not_false_eq_true, false_implies, and_true, true_and, nI_nn, nn_nI, nn_nn, ↓reduceIte, if_true, if_false, Nat.le_refl, implies_true, Nat.lt_irrefl, and_self_left, win1, nI_le_s1, Nat.zero_le, up_s, up_o, Nat.zero_add, m64_0, m64_1, m64_2, m64_3, m64_7, m64_8, m64_9, m64_10, m64_13, m64_20, m64_27, m64_60, h12, l0, q, l1, q1, z1]
    · refine Or.inr (Or.inr ⟨e1, ?_, by rw [← Bool.not_eq_true, hN]; exact fun e => q e.2.2.2.2.1⟩)
      apply Ok.eqv
      unfold f_X10_ends
      simp (disch := omega) only [wp_some, wp_obd, wp_ob2, wp_bnd, wp_gd, wp_ite, wp_true, wp_ff, ↓l_n1, ↓l_n2, ↓l_n3, ↓l_n4, ↓l_n10, ↓l_n20, l_0, l_1, l_2, l_3, l_4, l_5, l_6, l_7, l_8, l_9, l_10, l_13, l_14, l_15, l_16, l_20, l_21, l_24, l_27, l_28, l_30, l_31, l_32, l_35, l_36, l_39, l_40, l_41, l_43, l_44, l_45, l_46, l_47, l_48, l_49, l_56, l_57, l_59, l_60, l_79, l_97, l_122, l_160, l_237, l_255, l_320, l_999, l_1000, nI_add, pk_mul, nI_eq, nI_leI, nI_ltI, nI_clamp, inb_nI_iff, e_within, e_in32, e_asNumber, e_flag, decide_eq_true_eq, Sum.elim_inl, Sum.elim_inr, true_implies, not_true_eq_false, not_false_eq_true, false_implies, and_true, true_and, nI_nn, nn_nI, nn_nn, ↓reduceIte, if_true, if_false, Nat.le_refl, implies_true, Nat.lt_irrefl, and_self_left, win1, nI_le_s1, Nat.zero_le, up_s, up_o, Nat.zero_add, m64_0, m64_1, m64_2, m64_3, m64_7, m64_8, m64_9, m64_10, m64_13, m64_20, m64_27, m64_60, h12, l0, q]
  · refine Or.inr (Or.inl ⟨e1, by rw [← Bool.not_eq_true, hN]; exact fun e => e2 ⟨e.1, e.2.1, e.2.2.1, e.2.2.2.1⟩⟩)
theorem nmA {β γ : Type} {x y : Option Bool} {N : Bool} {F : β ⊕ Unit → Option γ} {k : β} {K : γ → Prop} (h3 : Tri x y N) (hT : N = true → Ok (F (.inl k)) K) (hF : N = false → Ok (F (.inr ())) K) : Ok (obd x (fun r1 => obd (if r1 = true then obd y (fun r3 => if r3 = true then some (.inl k) else some (.inr ())) else some (.inr ())) F)) K := by
  rcases h3 with ⟨rfl, rfl, hn⟩ | ⟨rfl, hn⟩ | ⟨rfl, rfl, hn⟩
  · exact hT hn
  · exact hF hn
  · exact hF hn
theorem nmC {γ : Type} {x y : Option Bool} {N : Bool} {F : Bool → Option γ} {K : γ → Prop} (h3 : Tri x y N) (hT : Ok (F N) K) : Ok (obd x (fun r1 => obd (if r1 = true then obd y (fun r3 => if r3 = true then some true else some false) else some false) F)) K := by
  rcases h3 with ⟨rfl, rfl, rfl⟩ | ⟨rfl, rfl⟩ | ⟨rfl, rfl, rfl⟩
  · exact hT
  · exact hT
  · exact hT
theorem nmD {x y : Option Bool} {N : Bool} (h3 : Tri x y N) : obd x (fun r1 => if r1 = true then obd y (fun r3 => if r3 = true then some true else some false) else some false) = some N := by
  rcases h3 with ⟨rfl, rfl, rfl⟩ | ⟨rfl, rfl⟩ | ⟨rfl, rfl, rfl⟩ <;> rfl
/-- which line: as the reference numbers them -/
def lk (t : Nat) (u : Nat → Nat) (s : Nat) : Nat := if nm t u s 0 = true then 0 else if nm t u s 7 = true then 1 else if nm t u s 1 = true then 2 else if nm t u s 2 = true then 3 else if nm t u s 4 = true then 4 else 5
def lkv (n : Nat) : Int32 := if n = 5 then nn 4 else nI n
theorem m_lineNow (hR : RT h t u) (hU : UB t u) (hs : s ≤ t) (h11 : h 24 11 0 0 = nI (tb t u s)) (h12 : h 24 12 0 0 = nI (ta t u s)) (hk : tkd t u s = 1) : f_X10_lineNow h = some (lkv (lk t u s)) := by
  apply Ok.eqv
  unfold f_X10_lineNow lk
  refine nmA (m_w6 hR hU hs h11 h12 hk (i := 0) rfl (by decide)) (fun e => ?_) (fun e => ?_)
  · rw [if_pos e]; exact wp_some.mpr rfl
  rw [if_neg (by rw [e]; decide)]
  refine nmA (m_w4 hR hU hs h11 h12 hk (i := 7) rfl (by decide)) (fun e => ?_) (fun e => ?_)
  · rw [if_pos e]; exact wp_some.mpr rfl
  rw [if_neg (by rw [e]; decide)]
  refine nmA (m_w4 hR hU hs h11 h12 hk (i := 1) rfl (by decide)) (fun e => ?_) (fun e => ?_)
  · rw [if_pos e]; exact wp_some.mpr rfl
  rw [if_neg (by rw [e]; decide)]
  refine nmA (m_w4 hR hU hs h11 h12 hk (i := 2) rfl (by decide)) (fun e => ?_) (fun e => ?_)
  · rw [if_pos e]; exact wp_some.mpr rfl
  rw [if_neg (by rw [e]; decide)]
  have h3 := m_w4 hR hU hs h11 h12 hk (i := 4) rfl (by decide)
  rcases h3 with ⟨a, b, c⟩ | ⟨a, c⟩ | ⟨a, b, c⟩
  · rw [if_pos c]; exact ok_obd (ok_eq a (ok_ite (fun _ => ok_obd (ok_eq b (ok_ite (fun _ => ok_some rfl) (fun e => absurd rfl e)))) (fun e => absurd rfl e)))
  · rw [if_neg (by rw [c]; decide)]; exact ok_obd (ok_eq a (ok_ite (fun e => by cases e) (fun _ => ok_some rfl)))
  · rw [if_neg (by rw [c]; decide)]; exact ok_obd (ok_eq a (ok_ite (fun _ => ok_obd (ok_eq b (ok_ite (fun e => by cases e) (fun _ => ok_some rfl)))) (fun e => absurd rfl e)))
theorem lk_lt : lk t u s ≤ 5 := by
  unfold lk
  split
  · omega
  · split
    · omega
    · split
      · omega
      · split
        · omega
        · split <;> omega
/-- the words keep apart -/
theorem nm_one {i j : Nat} (hi : nm t u s i = true) (hj : nm t u s j = true) (hne : (wrd i).length ≠ (wrd j).length ∨ ∃ k, k < (wrd i).length ∧ (wrd i).getD k 0 ≠ (wrd j).getD k 0) : False := by
  unfold nm at hi hj
  rw [decide_eq_true_eq] at hi hj
  obtain ⟨a1, a2, a3⟩ := hi
  obtain ⟨b1, b2, b3⟩ := hj
  by_cases e : (wrd i).length = (wrd j).length
  · rcases hne with h | ⟨k, hk, h⟩
    · exact h e
    · exact h ((a3 k hk).symm.trans (b3 k (by omega)))
  · omega
end Cl
