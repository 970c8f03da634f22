theorem up_o {h : Mem} {k j o i : Nat} {v : Int32} {k' j' o' i' : Nat} (hn : ¬ (k' = k ∧ j' = j ∧ o' = o ∧ i' = i)) : up h k j o i v k' j' o' i' = h k' j' o' i' := if_neg hn
theorem up_s {h : Mem} {k j o i : Nat} {v : Int32} : up h k j o i v k j o i = v := if_pos ⟨rfl, rfl, rfl, rfl⟩
/-- the reference's row, or one of its images, holds B -/
def SN (s : Nat → Int32) (B : Bs) : Prop :=
  (∀ x, x < 8 → s x = nI (B 7 x)) ∧ s 8 = nI (B 1 0) ∧ (∀ c, c < B 1 0 → s (9 + c) = nI (B 9 c) ∧ s (15 + c) = nI (B 10 c) ∧ s (21 + c) = nI (B 11 c)) ∧
  (∀ k, k < B 2 0 → s (27 + k) = nI (B 12 k) ∧ s (31 + k) = nI (B 13 k) ∧ s (35 + k) = nI (B 14 k) ∧ s (39 + k) = nI (B 15 k)) ∧ s 43 = nI (B 3 0) ∧ s 44 = nI (B 4 0) ∧ s 45 = nI (B 5 0)
def MN (g : Mem) (B : Bs) : Prop := SN (g 25 0 0) B ∧ g 24 2 0 0 = nI (B 0 0) ∧ g 24 3 0 0 = nI (B 2 0)
/-- all act, by their numbers -/
def NO (B : Bs) : Prop := B 6 0 = B 2 0 ∧ ∀ i, i < B 2 0 → B 8 i = i
theorem l64_0 : (0 : Int64) = (nI 0).toInt64 := by decide
section Cls
variable {h g : Mem} {o : Nat} {B : Bs} {S : Nat}
theorem c_copy {a b : Nat} (hab : a ≠ b) (hC : CB0 h a B) (hH : HL h a B) (hW : WF S B) (h62 : B 6 0 ≤ B 2 0) : Ok (f_X0_copyFrom b a h) (fun h' => CB0 h' b B ∧ HL h' b B ∧ FrO h h' b) := by
  obtain ⟨hM0, hM1, hM2, hM3, hM4, hM5, hM6, hM7, hM8, hM9, hM10⟩ := hC
  obtain ⟨hW0, hW1, hW2, hW3, hW4, hW5, hW6, hW7, hW8, hW9, hW10, hW11, hW12⟩ := hW
  unfold f_X0_copyFrom
  simp only [wp_bnd]
  -- the fields
  have hF0 : FrO h (up (up (up (up (up (up (up h 1 0 b 0 (h 1 0 a 0)) 1 2 b 0 (up h 1 0 b 0 (h 1 0 a 0) 1 2 a 0)) 1 4 b 0 (up (up h 1 0 b 0 (h 1 0 a 0)) 1 2 b 0 (up h 1 0 b 0 (h 1 0 a 0) 1 2 a 0) 1 4 a 0)) 1 10 b 0 (h 1 10 a 0)) 1 6 b 0 (h 1 6 a 0)) 1 7 b 0 (h 1 7 a 0)) 1 8 b 0 (h 1 8 a 0)) b := by
    refine FrO.tr (FrO.up (by decide)) (FrO.tr (FrO.up (by decide)) (FrO.tr (FrO.up (by decide)) (FrO.tr (FrO.up (by decide)) (FrO.tr (FrO.up (by decide)) (FrO.tr (FrO.up (by decide)) (FrO.up (by decide)))))))
  simp (disch := omega) only [up_s, up_o] at hF0
  simp (disch := omega) only [up_s, up_o]
  generalize hh7 : up (up (up (up (up (up (up h 1 0 b 0 (h 1 0 a 0)) 1 2 b 0 (h 1 2 a 0)) 1 4 b 0 (h 1 4 a 0)) 1 10 b 0 (h 1 10 a 0)) 1 6 b 0 (h 1 6 a 0)) 1 7 b 0 (h 1 7 a 0)) 1 8 b 0 (h 1 8 a 0) = h7 at hF0 ⊢
  have f0 : h7 1 0 b 0 = nI (B 0 0) := by rw [← hh7, ← hM0]; simp (disch := omega) only [up_s, up_o]
  have f1 : h7 1 2 b 0 = nI (B 1 0) := by rw [← hh7, ← hM1]; simp (disch := omega) only [up_s, up_o]
  have f2 : h7 1 4 b 0 = nI (B 2 0) := by rw [← hh7, ← hM2]; simp (disch := omega) only [up_s, up_o]
  have f3 : h7 1 6 b 0 = nI (B 3 0) := by rw [← hh7, ← hM3]; simp (disch := omega) only [up_s, up_o]
  have f4 : h7 1 7 b 0 = nI (B 4 0) := by rw [← hh7, ← hM4]; simp (disch := omega) only [up_s, up_o]
  have f5 : h7 1 8 b 0 = nI (B 5 0) := by rw [← hh7, ← hM5]; simp (disch := omega) only [up_s, up_o]
  have f6 : h7 1 10 b 0 = nI (B 6 0) := by rw [← hh7, ← hM6]; simp (disch := omega) only [up_s, up_o]
  clear hh7
  rw [wp_obd]
  refine (ok_up (K := fun h' => FrO h h' b ∧ (∀ j i, h' 1 j b i = h7 1 j b i) ∧ ∀ x, x < 8 → h' 2 0 b x = nI (B 7 x)) 8 (fun j z => z.1 = nI j ∧ FrO h z.2 b ∧ (∀ j i, z.2 1 j b i = h7 1 j b i) ∧ ∀ x, x < j → z.2 2 0 b x = nI (B 7 x)) (by omega) ?_ ?_ _ ⟨rfl, hF0, fun _ _ => rfl, fun x hx => by omega⟩).mono ?_
  · rintro j ⟨x, z⟩ hj ⟨hx, hF, h1, h2⟩
    dsimp only at hx hF h1 h2
    subst hx
    have e1 : z 2 0 a j = nI (B 7 j) := (hF 2 0 a j (Or.inl hab)).trans (hM7 j hj)
    simp (disch := omega) only [wp_some, wp_obd, wp_ob2, wp_bnd, wp_gd, wp_ite, wp_true, wp_ff, ↓l_n1, ↓l_n2, ↓l_n3, ↓l_n4, ↓l_n10, ↓l_n20, l_0, l_1, l_2, l_3, l_4, l_5, l_6, l_7, l_8, l_9, l_10, l_13, l_14, l_15, l_16, l_20, l_21, l_24, l_27, l_28, l_30, l_31, l_32, l_35, l_36, l_39, l_40, l_41, l_43, l_44, l_45, l_46, l_47, l_48, l_49, l_56, l_57, l_59, l_60, l_79, l_97, l_122, l_160, l_237, l_255, l_320, l_999, l_1000, nI_add, pk_mul, nI_eq, nI_leI, nI_ltI, nI_clamp, inb_nI_iff, e_within, e_in32, e_asNumber, e_flag, decide_eq_true_eq, Sum.elim_inl, Sum.elim_inr, true_implies, not_true_eq_false, not_false_eq_true, false_implies, and_true, true_and, nI_nn, nn_nI, nn_nn, ↓reduceIte, if_true, if_false, Nat.le_refl, implies_true, Nat.lt_irrefl, and_self_left, e1]
    refine ⟨fun e => by omega, fun _ => ⟨hj, hF.tr (FrO.up (by decide)), fun j' i => ?_, fun x hx => ?_⟩⟩
    · (try simp (disch := omega) only [up_s, up_o, and_self]); exact h1 j' i
    · by_cases e : x = j
      · subst e; (try simp (disch := omega) only [up_s, up_o, and_self])
      · (try simp (disch := omega) only [up_s, up_o, and_self]); exact h2 x (by omega)
  · rintro ⟨x, z⟩ ⟨hx, hF, h1, h2⟩
    dsimp only at hx hF h1 h2
    subst hx
    simp (disch := omega) only [wp_some, wp_obd, wp_ob2, wp_bnd, wp_gd, wp_ite, wp_true, wp_ff, ↓l_n1, ↓l_n2, ↓l_n3, ↓l_n4, ↓l_n10, ↓l_n20, l_0, l_1, l_2, l_3, l_4, l_5, l_6, l_7, l_8, l_9, l_10, l_13, l_14, l_15, l_16, l_20, l_21, l_24, l_27, l_28, l_30, l_31, l_32, l_35, l_36, l_39, l_40, l_41, l_43, l_44, l_45, l_46, l_47, l_48, l_49, l_56, l_57, l_59, l_60, l_79, l_97, l_122, l_160, l_237, l_255, l_320, l_999, l_1000, nI_add, pk_mul, nI_eq, nI_leI, nI_ltI, nI_clamp, inb_nI_iff, e_within, e_in32, e_asNumber, e_flag, decide_eq_true_eq, Sum.elim_inl, Sum.elim_inr, true_implies, not_true_eq_false, not_false_eq_true, false_implies, and_true, true_and, nI_nn, nn_nI, nn_nn, ↓reduceIte, if_true, if_false, Nat.le_refl, implies_true, Nat.lt_irrefl, and_self_left]
    exact ⟨hF, h1, h2⟩
  rintro h8 ⟨hF8, h81, h82⟩
  rw [wp_obd]
  refine (ok_up (K := fun h' => FrO h h' b ∧ (∀ j i, h' 1 j b i = h7 1 j b i) ∧ (∀ x, x < 8 → h' 2 0 b x = nI (B 7 x)) ∧ ∀ c, c < B 1 0 → h' 6 0 b c = nI (B 9 c) ∧ h' 6 1 b c = nI (B 10 c) ∧ h' 6 2 b c = nI (B 11 c)) (B 1 0) (fun j z => z.1 = nI j ∧ FrO h z.2 b ∧ (∀ j i, z.2 1 j b i = h7 1 j b i) ∧ (∀ x, x < 8 → z.2 2 0 b x = nI (B 7 x)) ∧ ∀ c, c < j → z.2 6 0 b c = nI (B 9 c) ∧ z.2 6 1 b c = nI (B 10 c) ∧ z.2 6 2 b c = nI (B 11 c)) (by omega) ?_ ?_ _ ⟨rfl, hF8, h81, h82, fun x hx => by omega⟩).mono ?_
  · rintro j ⟨x, z⟩ hj ⟨hx, hF, h1, h2, h3⟩
    dsimp only at hx hF h1 h2 h3
    subst hx
    have e0 : z 1 2 b 0 = nI (B 1 0) := (h1 2 0).trans f1
    have e1 : z 6 0 a j = nI (B 9 j) := (hF 6 0 a j (Or.inl hab)).trans (hM9 j hj).1
    have e2 : z 6 1 a j = nI (B 10 j) := (hF 6 1 a j (Or.inl hab)).trans (hM9 j hj).2.1
    have e3 : z 6 2 a j = nI (B 11 j) := (hF 6 2 a j (Or.inl hab)).trans (hM9 j hj).2.2
    have b2 := (hW10 j hj).2.1
    unfold f_X1_copyFrom
    simp (disch := omega) only [wp_some, wp_obd, wp_ob2, wp_bnd, wp_gd, wp_ite, wp_true, wp_ff, ↓l_n1, ↓l_n2, ↓l_n3, ↓l_n4, ↓l_n10, ↓l_n20, l_0, l_1, l_2, l_3, l_4, l_5, l_6, l_7, l_8, l_9, l_10, l_13, l_14, l_15, l_16, l_20, l_21, l_24, l_27, l_28, l_30, l_31, l_32, l_35, l_36, l_39, l_40, l_41, l_43, l_44, l_45, l_46, l_47, l_48, l_49, l_56, l_57, l_59, l_60, l_79, l_97, l_122, l_160, l_237, l_255, l_320, l_999, l_1000, nI_add, pk_mul, nI_eq, nI_leI, nI_ltI, nI_clamp, inb_nI_iff, e_within, e_in32, e_asNumber, e_flag, decide_eq_true_eq, Sum.elim_inl, Sum.elim_inr, true_implies, not_true_eq_false, not_false_eq_true, false_implies, and_true, true_and, nI_nn, nn_nI, nn_nn, ↓reduceIte, if_true, if_false, Nat.le_refl, implies_true, Nat.lt_irrefl, and_self_left, e0, up_s, up_o, e1, e2, e3]
    refine ⟨fun e => by omega, fun _ => ⟨by omega, by omega, hF.tr (FrO.tr (FrO.up (by decide)) (FrO.tr (FrO.up (by decide)) (FrO.up (by decide)))), fun j' i => ?_, fun x hx => ?_, fun c hc => ?_⟩⟩
    · (try simp (disch := omega) only [up_s, up_o, and_self]); exact h1 j' i
    · (try simp (disch := omega) only [up_s, up_o, and_self]); exact h2 x hx
    · by_cases e : c = j
      · subst e; (try simp (disch := omega) only [up_s, up_o, and_self])
      · (try simp (disch := omega) only [up_s, up_o, and_self]); exact h3 c (by omega)
  · rintro ⟨x, z⟩ ⟨hx, hF, h1, h2, h3⟩
    dsimp only at hx hF h1 h2 h3
    subst hx
    have e0 : z 1 2 b 0 = nI (B 1 0) := (h1 2 0).trans f1
    simp (disch := omega) only [wp_some, wp_obd, wp_ob2, wp_bnd, wp_gd, wp_ite, wp_true, wp_ff, ↓l_n1, ↓l_n2, ↓l_n3, ↓l_n4, ↓l_n10, ↓l_n20, l_0, l_1, l_2, l_3, l_4, l_5, l_6, l_7, l_8, l_9, l_10, l_13, l_14, l_15, l_16, l_20, l_21, l_24, l_27, l_28, l_30, l_31, l_32, l_35, l_36, l_39, l_40, l_41, l_43, l_44, l_45, l_46, l_47, l_48, l_49, l_56, l_57, l_59, l_60, l_79, l_97, l_122, l_160, l_237, l_255, l_320, l_999, l_1000, nI_add, pk_mul, nI_eq, nI_leI, nI_ltI, nI_clamp, inb_nI_iff, e_within, e_in32, e_asNumber, e_flag, decide_eq_true_eq, Sum.elim_inl, Sum.elim_inr, true_implies, not_true_eq_false, not_false_eq_true, false_implies, and_true, true_and, nI_nn, nn_nI, nn_nn, ↓reduceIte, if_true, if_false, Nat.le_refl, implies_true, Nat.lt_irrefl, and_self_left, e0]
    exact ⟨hF, h1, h2, h3⟩
  rintro h9 ⟨hF9, h91, h92, h93⟩
  rw [wp_obd]
  refine (ok_up (K := fun h' => FrO h h' b ∧ (∀ j i, h' 1 j b i = h7 1 j b i) ∧ (∀ x, x < 8 → h' 2 0 b x = nI (B 7 x)) ∧ (∀ c, c < B 1 0 → h' 6 0 b c = nI (B 9 c) ∧ h' 6 1 b c = nI (B 10 c) ∧ h' 6 2 b c = nI (B 11 c)) ∧ ∀ k, k < B 2 0 → (h' 7 0 b k = nI (B 12 k) ∧ h' 7 1 b k = nI (B 13 k) ∧ h' 7 2 b k = nI (B 14 k) ∧ h' 7 3 b k = nI (B 15 k)) ∧ h' 7 4 b k = on (-1) (hd B k) ∧ h' 5 0 b k = h 5 0 a k) (B 2 0) (fun j z => z.1 = nI j ∧ FrO h z.2 b ∧ (∀ j i, z.2 1 j b i = h7 1 j b i) ∧ (∀ x, x < 8 → z.2 2 0 b x = nI (B 7 x)) ∧ (∀ c, c < B 1 0 → z.2 6 0 b c = nI (B 9 c) ∧ z.2 6 1 b c = nI (B 10 c) ∧ z.2 6 2 b c = nI (B 11 c)) ∧ ∀ k, k < j → (z.2 7 0 b k = nI (B 12 k) ∧ z.2 7 1 b k = nI (B 13 k) ∧ z.2 7 2 b k = nI (B 14 k) ∧ z.2 7 3 b k = nI (B 15 k)) ∧ z.2 7 4 b k = on (-1) (hd B k) ∧ z.2 5 0 b k = h 5 0 a k) (by omega) ?_ ?_ _ ⟨rfl, hF9, h91, h92, h93, fun x hx => by omega⟩).mono ?_
  · rintro j ⟨x, z⟩ hj ⟨hx, hF, h1, h2, h3, h4⟩
    dsimp only at hx hF h1 h2 h3 h4
    subst hx
    have e0 : z 1 4 b 0 = nI (B 2 0) := (h1 4 0).trans f2
    have e1 : z 7 0 a j = nI (B 12 j) := (hF 7 0 a j (Or.inl hab)).trans (hM10 j hj).1
    have e2 : z 7 1 a j = nI (B 13 j) := (hF 7 1 a j (Or.inl hab)).trans (hM10 j hj).2.1
    have e3 : z 7 2 a j = nI (B 14 j) := (hF 7 2 a j (Or.inl hab)).trans (hM10 j hj).2.2.1
    have e4 : z 7 3 a j = nI (B 15 j) := (hF 7 3 a j (Or.inl hab)).trans (hM10 j hj).2.2.2
    have e5 : z 7 4 a j = on (-1) (hd B j) := (hF 7 4 a j (Or.inl hab)).trans (hH j hj)
    have e6 : z 5 0 a j = h 5 0 a j := hF 5 0 a j (Or.inl hab)
    unfold f_X2_copyFrom
    simp (disch := omega) only [wp_some, wp_obd, wp_ob2, wp_bnd, wp_gd, wp_ite, wp_true, wp_ff, ↓l_n1, ↓l_n2, ↓l_n3, ↓l_n4, ↓l_n10, ↓l_n20, l_0, l_1, l_2, l_3, l_4, l_5, l_6, l_7, l_8, l_9, l_10, l_13, l_14, l_15, l_16, l_20, l_21, l_24, l_27, l_28, l_30, l_31, l_32, l_35, l_36, l_39, l_40, l_41, l_43, l_44, l_45, l_46, l_47, l_48, l_49, l_56, l_57, l_59, l_60, l_79, l_97, l_122, l_160, l_237, l_255, l_320, l_999, l_1000, nI_add, pk_mul, nI_eq, nI_leI, nI_ltI, nI_clamp, inb_nI_iff, e_within, e_in32, e_asNumber, e_flag, decide_eq_true_eq, Sum.elim_inl, Sum.elim_inr, true_implies, not_true_eq_false, not_false_eq_true, false_implies, and_true, true_and, nI_nn, nn_nI, nn_nn, ↓reduceIte, if_true, if_false, Nat.le_refl, implies_true, Nat.lt_irrefl, and_self_left, e0, up_s, up_o, e1, e2, e3, e4, e5, e6]
    refine ⟨fun e => by omega, fun _ => ⟨by omega, hF.tr (FrO.tr (FrO.up (by decide)) (FrO.tr (FrO.up (by decide)) (FrO.tr (FrO.up (by decide)) (FrO.tr (FrO.up (by decide)) (FrO.tr (FrO.up (by decide)) (FrO.up (by decide))))))), fun j' i => ?_, fun x hx => ?_, fun c hc => ?_, fun k hk => ?_⟩⟩
    · (try simp (disch := omega) only [up_s, up_o, and_self]); exact h1 j' i
    · (try simp (disch := omega) only [up_s, up_o, and_self]); exact h2 x hx
    · (try simp (disch := omega) only [up_s, up_o, and_self]); exact h3 c hc
    · by_cases e : k = j
      · subst e; (try simp (disch := omega) only [up_s, up_o, and_self])
      · have := h4 k (by omega)
        rw [l_n1] at this
        simp (disch := omega) only [up_s, up_o]; exact this
  · rintro ⟨x, z⟩ ⟨hx, hF, h1, h2, h3, h4⟩
    dsimp only at hx hF h1 h2 h3 h4
    subst hx
    have e0 : z 1 4 b 0 = nI (B 2 0) := (h1 4 0).trans f2
    simp only [l_n1] at h4
    simp (disch := omega) only [wp_some, wp_obd, wp_ob2, wp_bnd, wp_gd, wp_ite, wp_true, wp_ff, ↓l_n1, ↓l_n2, ↓l_n3, ↓l_n4, ↓l_n10, ↓l_n20, l_0, l_1, l_2, l_3, l_4, l_5, l_6, l_7, l_8, l_9, l_10, l_13, l_14, l_15, l_16, l_20, l_21, l_24, l_27, l_28, l_30, l_31, l_32, l_35, l_36, l_39, l_40, l_41, l_43, l_44, l_45, l_46, l_47, l_48, l_49, l_56, l_57, l_59, l_60, l_79, l_97, l_122, l_160, l_237, l_255, l_320, l_999, l_1000, nI_add, pk_mul, nI_eq, nI_leI, nI_ltI, nI_clamp, inb_nI_iff, e_within, e_in32, e_asNumber, e_flag, decide_eq_true_eq, Sum.elim_inl, Sum.elim_inr, true_implies, not_true_eq_false, not_false_eq_true, false_implies, and_true, true_and, nI_nn, nn_nI, nn_nn, ↓reduceIte, if_true, if_false, Nat.le_refl, implies_true, Nat.lt_irrefl, and_self_left, e0]
    exact ⟨hF, h1, h2, h3, h4⟩
  rintro h10 ⟨hF, h1, h2, h3, h4⟩
  rw [wp_some]
  exact ⟨⟨(h1 _ _).trans f0, (h1 _ _).trans f1, (h1 _ _).trans f2, (h1 _ _).trans f3, (h1 _ _).trans f4, (h1 _ _).trans f5, (h1 _ _).trans f6, h2, fun i hi => (h4 i (by omega)).2.2.trans (hM8 i hi), h3, fun k hk => (h4 k hk).1⟩, fun k hk => (h4 k hk).2.1, hF⟩
theorem m_starts (hM : MN g B) (hW : WF S B) (hO : NO B) : Ok (f_X10_starts g) (fun g' => MT g' B ∧ FrM g g') := by
  obtain ⟨⟨s0, s1, s2, s3, s4, s5, s6⟩, n0, n2⟩ := hM
  obtain ⟨hW0, hW1, hW2, hW3, hW4, hW5, hW6, hW7, hW8, hW9, hW10, hW11, hW12⟩ := hW
  unfold f_X10_starts
  rw [wp_obd]
  refine (ok_up (K := fun g' => FrM g g' ∧ (∀ j o i, g' 25 j o i = g 25 j o i) ∧ ∀ x, x < 8 → g' 29 0 0 x = nI (B 7 x)) 8 (fun j z => z.1 = nI j ∧ FrM g z.2 ∧ (∀ j o i, z.2 25 j o i = g 25 j o i) ∧ ∀ x, x < j → z.2 29 0 0 x = nI (B 7 x)) (by omega) ?_ ?_ _ ⟨rfl, FrM.rf, fun _ _ _ => rfl, fun x hx => by omega⟩).mono ?_
  · rintro j ⟨x, z⟩ hj ⟨hx, hF, h1, h2⟩
    dsimp only at hx hF h1 h2
    subst hx
    have e1 : z 25 0 0 j = nI (B 7 j) := (h1 _ _ _).trans (s0 j hj)
    simp (disch := omega) only [wp_some, wp_obd, wp_ob2, wp_bnd, wp_gd, wp_ite, wp_true, wp_ff, ↓l_n1, ↓l_n2, ↓l_n3, ↓l_n4, ↓l_n10, ↓l_n20, l_0, l_1, l_2, l_3, l_4, l_5, l_6, l_7, l_8, l_9, l_10, l_13, l_14, l_15, l_16, l_20, l_21, l_24, l_27, l_28, l_30, l_31, l_32, l_35, l_36, l_39, l_40, l_41, l_43, l_44, l_45, l_46, l_47, l_48, l_49, l_56, l_57, l_59, l_60, l_79, l_97, l_122, l_160, l_237, l_255, l_320, l_999, l_1000, nI_add, pk_mul, nI_eq, nI_leI, nI_ltI, nI_clamp, inb_nI_iff, e_within, e_in32, e_asNumber, e_flag, decide_eq_true_eq, Sum.elim_inl, Sum.elim_inr, true_implies, not_true_eq_false, not_false_eq_true, false_implies, and_true, true_and, nI_nn, nn_nI, nn_nn, ↓reduceIte, if_true, if_false, Nat.le_refl, implies_true, Nat.lt_irrefl, and_self_left, Nat.zero_add, e1]
    refine ⟨fun e => by omega, fun _ => ⟨by omega, hj, hF.tr (FrM.up (by decide)), fun j' o i => ?_, fun x hx => ?_⟩⟩
    · (try simp (disch := omega) only [up_s, up_o, and_self]); exact h1 j' o i
    · by_cases e : x = j
      · subst e; (try simp (disch := omega) only [up_s, up_o, and_self])
      · (try simp (disch := omega) only [up_s, up_o, and_self]); exact h2 x (by omega)
  · rintro ⟨x, z⟩ ⟨hx, hF, h1, h2⟩
    dsimp only at hx hF h1 h2
    subst hx
    simp (disch := omega) only [wp_some, wp_obd, wp_ob2, wp_bnd, wp_gd, wp_ite, wp_true, wp_ff, ↓l_n1, ↓l_n2, ↓l_n3, ↓l_n4, ↓l_n10, ↓l_n20, l_0, l_1, l_2, l_3, l_4, l_5, l_6, l_7, l_8, l_9, l_10, l_13, l_14, l_15, l_16, l_20, l_21, l_24, l_27, l_28, l_30, l_31, l_32, l_35, l_36, l_39, l_40, l_41, l_43, l_44, l_45, l_46, l_47, l_48, l_49, l_56, l_57, l_59, l_60, l_79, l_97, l_122, l_160, l_237, l_255, l_320, l_999, l_1000, nI_add, pk_mul, nI_eq, nI_leI, nI_ltI, nI_clamp, inb_nI_iff, e_within, e_in32, e_asNumber, e_flag, decide_eq_true_eq, Sum.elim_inl, Sum.elim_inr, true_implies, not_true_eq_false, not_false_eq_true, false_implies, and_true, true_and, nI_nn, nn_nI, nn_nn, ↓reduceIte, if_true, if_false, Nat.le_refl, implies_true, Nat.lt_irrefl, and_self_left]
    exact ⟨hF, h1, h2⟩
  rintro g1 ⟨hF1, h11, h12⟩
  rw [wp_obd]
  refine (ok_up (K := fun g' => FrM g g' ∧ (∀ j o i, g' 25 j o i = g 25 j o i) ∧ (∀ x, x < 8 → g' 29 0 0 x = nI (B 7 x)) ∧ ∀ c, c < 6 → g' 30 0 0 c = g 25 0 0 (15 + c) ∧ g' 31 0 0 c = g 25 0 0 (21 + c)) 6 (fun j z => z.1 = nI j ∧ FrM g z.2 ∧ (∀ j o i, z.2 25 j o i = g 25 j o i) ∧ (∀ x, x < 8 → z.2 29 0 0 x = nI (B 7 x)) ∧ ∀ c, c < j → z.2 30 0 0 c = g 25 0 0 (15 + c) ∧ z.2 31 0 0 c = g 25 0 0 (21 + c)) (by omega) ?_ ?_ _ ⟨rfl, hF1, h11, h12, fun x hx => by omega⟩).mono ?_
  · rintro j ⟨x, z⟩ hj ⟨hx, hF, h1, h2, h3⟩
    dsimp only at hx hF h1 h2 h3
    subst hx
    have e1 : z 25 0 0 (15 + j) = g 25 0 0 (15 + j) := h1 _ _ _
    have e2 : z 25 0 0 (21 + j) = g 25 0 0 (21 + j) := h1 _ _ _
    simp (disch := omega) only [wp_some, wp_obd, wp_ob2, wp_bnd, wp_gd, wp_ite, wp_true, wp_ff, ↓l_n1, ↓l_n2, ↓l_n3, ↓l_n4, ↓l_n10, ↓l_n20, l_0, l_1, l_2, l_3, l_4, l_5, l_6, l_7, l_8, l_9, l_10, l_13, l_14, l_15, l_16, l_20, l_21, l_24, l_27, l_28, l_30, l_31, l_32, l_35, l_36, l_39, l_40, l_41, l_43, l_44, l_45, l_46, l_47, l_48, l_49, l_56, l_57, l_59, l_60, l_79, l_97, l_122, l_160, l_237, l_255, l_320, l_999, l_1000, nI_add, pk_mul, nI_eq, nI_leI, nI_ltI, nI_clamp, inb_nI_iff, e_within, e_in32, e_asNumber, e_flag, decide_eq_true_eq, Sum.elim_inl, Sum.elim_inr, true_implies, not_true_eq_false, not_false_eq_true, false_implies, and_true, true_and, nI_nn, nn_nI, nn_nn, ↓reduceIte, if_true, if_false, Nat.le_refl, implies_true, Nat.lt_irrefl, and_self_left, up_s, up_o, e1, e2]
    refine ⟨fun e => by omega, fun _ => ?_⟩
    repeat (refine ⟨by omega, ?_⟩)
    refine ⟨hF.tr (FrM.tr (FrM.up (by decide)) (FrM.up (by decide))), fun j' o i => ?_, fun x hx => ?_, fun c hc => ?_⟩
    · (try simp (disch := omega) only [up_s, up_o, and_self]); exact h1 j' o i
    · (try simp (disch := omega) only [up_s, up_o, and_self]); exact h2 x hx
    · by_cases e : c = j
      · subst e; (try simp (disch := omega) only [up_s, up_o, and_self])
      · (try simp (disch := omega) only [up_s, up_o, and_self]); exact h3 c (by omega)
  · rintro ⟨x, z⟩ ⟨hx, hF, h1, h2, h3⟩
    dsimp only at hx hF h1 h2 h3
    subst hx
    simp (disch := omega) only [wp_some, wp_obd, wp_ob2, wp_bnd, wp_gd, wp_ite, wp_true, wp_ff, ↓l_n1, ↓l_n2, ↓l_n3, ↓l_n4, ↓l_n10, ↓l_n20, l_0, l_1, l_2, l_3, l_4, l_5, l_6, l_7, l_8, l_9, l_10, l_13, l_14, l_15, l_16, l_20, l_21, l_24, l_27, l_28, l_30, l_31, l_32, l_35, l_36, l_39, l_40, l_41, l_43, l_44, l_45, l_46, l_47, l_48, l_49, l_56, l_57, l_59, l_60, l_79, l_97, l_122, l_160, l_237, l_255, l_320, l_999, l_1000, nI_add, pk_mul, nI_eq, nI_leI, nI_ltI, nI_clamp, inb_nI_iff, e_within, e_in32, e_asNumber, e_flag, decide_eq_true_eq, Sum.elim_inl, Sum.elim_inr, true_implies, not_true_eq_false, not_false_eq_true, false_implies, and_true, true_and, nI_nn, nn_nI, nn_nn, ↓reduceIte, if_true, if_false, Nat.le_refl, implies_true, Nat.lt_irrefl, and_self_left]
    exact ⟨hF, h1, h2, h3⟩
  rintro g2 ⟨hF2, h21, h22, h23⟩
  rw [wp_obd]
  refine (ok_up (K := fun g' => FrM g g' ∧ (∀ j o i, g' 25 j o i = g 25 j o i) ∧ (∀ x, x < 8 → g' 29 0 0 x = nI (B 7 x)) ∧ (∀ c, c < 6 → g' 30 0 0 c = g 25 0 0 (15 + c) ∧ g' 31 0 0 c = g 25 0 0 (21 + c)) ∧ ∀ k, k < 4 → g' 32 0 0 k = g 25 0 0 (27 + k) ∧ g' 33 0 0 k = g 25 0 0 (31 + k) ∧ g' 34 0 0 k = g 25 0 0 (35 + k) ∧ g' 35 0 0 k = g 25 0 0 (39 + k) ∧ g' 36 0 0 k = nI k) 4 (fun j z => z.1 = nI j ∧ FrM g z.2 ∧ (∀ j o i, z.2 25 j o i = g 25 j o i) ∧ (∀ x, x < 8 → z.2 29 0 0 x = nI (B 7 x)) ∧ (∀ c, c < 6 → z.2 30 0 0 c = g 25 0 0 (15 + c) ∧ z.2 31 0 0 c = g 25 0 0 (21 + c)) ∧ ∀ k, k < j → z.2 32 0 0 k = g 25 0 0 (27 + k) ∧ z.2 33 0 0 k = g 25 0 0 (31 + k) ∧ z.2 34 0 0 k = g 25 0 0 (35 + k) ∧ z.2 35 0 0 k = g 25 0 0 (39 + k) ∧ z.2 36 0 0 k = nI k) (by omega) ?_ ?_ _ ⟨rfl, hF2, h21, h22, h23, fun x hx => by omega⟩).mono ?_
  · rintro j ⟨x, z⟩ hj ⟨hx, hF, h1, h2, h3, h4⟩
    dsimp only at hx hF h1 h2 h3 h4
    subst hx
    have e1 : z 25 0 0 (27 + j) = g 25 0 0 (27 + j) := h1 _ _ _
    have e2 : z 25 0 0 (31 + j) = g 25 0 0 (31 + j) := h1 _ _ _
    have e3 : z 25 0 0 (35 + j) = g 25 0 0 (35 + j) := h1 _ _ _
    have e4 : z 25 0 0 (39 + j) = g 25 0 0 (39 + j) := h1 _ _ _
    simp (disch := omega) only [wp_some, wp_obd, wp_ob2, wp_bnd, wp_gd, wp_ite, wp_true, wp_ff, ↓l_n1, ↓l_n2, ↓l_n3, ↓l_n4, ↓l_n10, ↓l_n20, l_0, l_1, l_2, l_3, l_4, l_5, l_6, l_7, l_8, l_9, l_10, l_13, l_14, l_15, l_16, l_20, l_21, l_24, l_27, l_28, l_30, l_31, l_32, l_35, l_36, l_39, l_40, l_41, l_43, l_44, l_45, l_46, l_47, l_48, l_49, l_56, l_57, l_59, l_60, l_79, l_97, l_122, l_160, l_237, l_255, l_320, l_999, l_1000, nI_add, pk_mul, nI_eq, nI_leI, nI_ltI, nI_clamp, inb_nI_iff, e_within, e_in32, e_asNumber, e_flag, decide_eq_true_eq, Sum.elim_inl, Sum.elim_inr, true_implies, not_true_eq_false, not_false_eq_true, false_implies, and_true, true_and, nI_nn, nn_nI, nn_nn, ↓reduceIte, if_true, if_false, Nat.le_refl, implies_true, Nat.lt_irrefl, and_self_left, up_s, up_o, e1, e2, e3, e4]
    refine ⟨fun e => by omega, fun _ => ?_⟩
    repeat (refine ⟨by omega, ?_⟩)
    refine ⟨hF.tr (FrM.tr (FrM.up (by decide)) (FrM.tr (FrM.up (by decide)) (FrM.tr (FrM.up (by decide)) (FrM.tr (FrM.up (by decide)) (FrM.up (by decide)))))), fun j' o i => ?_, fun x hx => ?_, fun c hc => ?_, fun k hk => ?_⟩
    · (try simp (disch := omega) only [up_s, up_o, and_self]); exact h1 j' o i
    · (try simp (disch := omega) only [up_s, up_o, and_self]); exact h2 x hx
    · (try simp (disch := omega) only [up_s, up_o, and_self]); exact h3 c hc
    · by_cases e : k = j
      · subst e; (try simp (disch := omega) only [up_s, up_o, and_self])
      · (try simp (disch := omega) only [up_s, up_o, and_self]); exact h4 k (by omega)
  · rintro ⟨x, z⟩ ⟨hx, hF, h1, h2, h3, h4⟩
    dsimp only at hx hF h1 h2 h3 h4
    subst hx
    simp (disch := omega) only [wp_some, wp_obd, wp_ob2, wp_bnd, wp_gd, wp_ite, wp_true, wp_ff, ↓l_n1, ↓l_n2, ↓l_n3, ↓l_n4, ↓l_n10, ↓l_n20, l_0, l_1, l_2, l_3, l_4, l_5, l_6, l_7, l_8, l_9, l_10, l_13, l_14, l_15, l_16, l_20, l_21, l_24, l_27, l_28, l_30, l_31, l_32, l_35, l_36, l_39, l_40, l_41, l_43, l_44, l_45, l_46, l_47, l_48, l_49, l_56, l_57, l_59, l_60, l_79, l_97, l_122, l_160, l_237, l_255, l_320, l_999, l_1000, nI_add, pk_mul, nI_eq, nI_leI, nI_ltI, nI_clamp, inb_nI_iff, e_within, e_in32, e_asNumber, e_flag, decide_eq_true_eq, Sum.elim_inl, Sum.elim_inr, true_implies, not_true_eq_false, not_false_eq_true, false_implies, and_true, true_and, nI_nn, nn_nI, nn_nn, ↓reduceIte, if_true, if_false, Nat.le_refl, implies_true, Nat.lt_irrefl, and_self_left]
    exact ⟨hF, h1, h2, h3, h4⟩
  rintro g3 ⟨hF, h1, h2, h3, h4⟩
  have e3 : g3 24 3 0 0 = nI (B 2 0) := (hF 24 3 0 0 (by simp)).trans n2
  have e2 : g3 24 2 0 0 = nI (B 0 0) := (hF 24 2 0 0 (by simp)).trans n0
  have e45 : g3 25 0 0 45 = nI (B 5 0) := (h1 _ _ _).trans s6
  simp (disch := omega) only [wp_some, wp_obd, wp_ob2, wp_bnd, wp_gd, wp_ite, wp_true, wp_ff, ↓l_n1, ↓l_n2, ↓l_n3, ↓l_n4, ↓l_n10, ↓l_n20, l_0, l_1, l_2, l_3, l_4, l_5, l_6, l_7, l_8, l_9, l_10, l_13, l_14, l_15, l_16, l_20, l_21, l_24, l_27, l_28, l_30, l_31, l_32, l_35, l_36, l_39, l_40, l_41, l_43, l_44, l_45, l_46, l_47, l_48, l_49, l_56, l_57, l_59, l_60, l_79, l_97, l_122, l_160, l_237, l_255, l_320, l_999, l_1000, nI_add, pk_mul, nI_eq, nI_leI, nI_ltI, nI_clamp, inb_nI_iff, e_within, e_in32, e_asNumber, e_flag, decide_eq_true_eq, Sum.elim_inl, Sum.elim_inr, true_implies, not_true_eq_false, not_false_eq_true, false_implies, and_true, true_and, nI_nn, nn_nI, nn_nn, ↓reduceIte, if_true, if_false, Nat.le_refl, implies_true, Nat.lt_irrefl, and_self_left, up_s, up_o, e3, e45]
  obtain ⟨o1, o2⟩ := hO
  refine ⟨⟨?_, ?_, ?_, ?_, ?_, ?_, ?_, fun x hx => ?_, fun i hi => ?_, fun c hc => ?_, fun k hk => ?_⟩, hF.tr (FrM.tr ?_ FrM.up27)⟩
  · (try simp (disch := omega) only [up_s, up_o, and_self]); exact e2
  · (try simp (disch := omega) only [up_s, up_o, and_self]); exact (h1 _ _ _).trans s1
  · (try simp (disch := omega) only [up_s, up_o, and_self]); exact e3
  · (try simp (disch := omega) only [up_s, up_o, and_self]); exact (h1 _ _ _).trans s4
  · (try simp (disch := omega) only [up_s, up_o, and_self]); exact (h1 _ _ _).trans s5
  · (try simp (disch := omega) only [up_s, up_o, and_self])
  · (try simp (disch := omega) only [up_s, up_o, and_self]); rw [o1]
  · (try simp (disch := omega) only [up_s, up_o, and_self]); exact h2 x hx
  · rw [o1] at hi
    (try simp (disch := omega) only [up_s, up_o, and_self]); rw [o2 i hi]; exact (h4 i (by omega)).2.2.2.2
  · (try simp (disch := omega) only [up_s, up_o, and_self])
    exact ⟨(h1 _ _ _).trans (s2 c hc).1, (h3 c (by omega)).1.trans (s2 c hc).2.1, (h3 c (by omega)).2.trans (s2 c hc).2.2⟩
  · (try simp (disch := omega) only [up_s, up_o, and_self])
    obtain ⟨a1, a2, a3, a4, -⟩ := h4 k (by omega)
    obtain ⟨c1, c2, c3, c4⟩ := s3 k hk
    exact ⟨a1.trans c1, a2.trans c2, a3.trans c3, a4.trans c4⟩
  · intro k' j' o' i' h
    rw [up_o (by omega)]
end Cls
