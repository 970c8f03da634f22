/-- the first of the smallest holes that coin c fits, among the first n places -/
def bp (B : Bs) (c : Nat) : Nat → Option Nat
  | 0 => none
  | n + 1 => match bp B c n with
    | none => if B 9 c ≤ B 7 n then some n else none
    | some y => if B 9 c ≤ B 7 n ∧ B 7 n < B 7 y then some n else some y
theorem bp_lt {B : Bs} {c : Nat} : ∀ {n y : Nat}, bp B c n = some y → y < n
  | 0, y, h => by cases h
  | n + 1, y, h => by
    unfold bp at h
    cases hz : bp B c n with
    | none =>
      rw [hz] at h
      dsimp only at h
      split at h
      · cases h; omega
      · cases h
    | some z =>
      rw [hz] at h
      dsimp only at h
      have := bp_lt hz
      split at h
      · cases h; omega
      · cases h; omega
def gl (B : Bs) (c : Nat) : Option Nat := if B 10 c = 0 then bp B c (B 0 0) else none
def rgt (B : Bs) (c : Nat) : Bool := match gl B c with
  | none => true
  | some x => B 11 c == 20 + x
def cnt (p : Nat → Bool) : Nat → Nat
  | 0 => 0
  | n + 1 => cnt p n + (if p n = true then 1 else 0)
theorem cnt_le {p : Nat → Bool} : ∀ {n : Nat}, cnt p n ≤ n
  | 0 => Nat.le_refl _
  | n + 1 => by
    have := cnt_le (p := p) (n := n)
    unfold cnt
    split <;> omega
theorem cnt_all {p : Nat → Bool} : ∀ {n : Nat}, cnt p n = n ↔ ∀ c, c < n → p c = true
  | 0 => by simp [cnt]
  | n + 1 => by
    have h1 := cnt_le (p := p) (n := n)
    have h2 := cnt_all (p := p) (n := n)
    unfold cnt
    by_cases hp : p n = true
    · simp only [hp, if_true]
      constructor
      · intro h c hc
        rcases Nat.lt_succ_iff_lt_or_eq.mp hc with g | g
        · exact h2.mp (by omega) c g
        · subst g; exact hp
      · intro h
        have := h2.mpr (fun c hc => h c (by omega))
        omega
    · simp only [hp]
      constructor
      · intro h; simp at h; omega
      · intro h; exact absurd (h n (by omega)) hp
theorem cnt_congr {p q : Nat → Bool} : ∀ {n : Nat}, (∀ c, c < n → p c = q c) → cnt p n = cnt q n
  | 0, _ => rfl
  | n + 1, h => by
    unfold cnt
    rw [cnt_congr (fun c hc => h c (by omega)), h n (by omega)]
theorem on_none {v : Int32} : on v none = v := rfl
theorem on_sm {v : Int32} {c : Nat} : on v (some c) = nI c := rfl
section Cls
variable {h g : Mem} {o : Nat} {B : Bs} {S : Nat}
theorem c_rightPlace (hC : CB0 h o B) (hW : WF S B) {c : Nat} (hc : c < B 1 0) : f_X0_rightPlace o o c h = some (on (-1) (gl B c)) := by
  obtain ⟨hM0, hM1, hM2, hM3, hM4, hM5, hM6, hM7, hM8, hM9, hM10⟩ := hC
  obtain ⟨hW0, hW1, hW2, hW3, hW4, hW5, hW6, hW7, hW8, hW9, hW10, hW11, hW12⟩ := hW
  obtain ⟨p1, p2, p3⟩ := hM9 c hc
  obtain ⟨q1, q2, q3⟩ := hW10 c hc
  apply Ok.eqv
  unfold f_X0_rightPlace
  rw [wp_obd]
  refine (ok_up (K := fun e => e = on (nn 1) (gl B c)) (B 0 0) (fun j a => a.2 = nI j ∧ a.1 = on (nn 1) (if B 10 c = 0 then bp B c j else none)) (by omega) ?_ ?_ _ ⟨rfl, by simp [bp, on_none, l_n1]⟩).mono ?_
  · rintro j ⟨b, x⟩ hj ⟨hx, hb⟩
    dsimp only at hx hb
    subst hx
    subst hb
    have e7 := hM7 j (by omega)
    have b7 := hW7 j (by omega)
    by_cases h0 : B 10 c = 0
    · cases hz : bp B c j with
      | none =>
        simp (disch := omega) only [wp_some, wp_obd, wp_ob2, wp_bnd, wp_gd, wp_ite, wp_true, wp_ff, ↓l_n1, ↓l_n2, ↓l_n3, ↓l_n4, ↓l_n10, ↓l_n20, l_0, l_1, l_2, l_3, l_4, l_5, l_6, l_7, l_8, l_9, l_10, l_13, l_14, l_15, l_16, l_20, l_21, l_24, l_27, l_28, l_30, l_31, l_32, l_35, l_36, l_39, l_40, l_41, l_43, l_44, l_45, l_46, l_47, l_48, l_49, l_56, l_57, l_59, l_60, l_79, l_97, l_122, l_160, l_237, l_255, l_320, l_999, l_1000, nI_add, pk_mul, nI_eq, nI_leI, nI_ltI, nI_clamp, inb_nI_iff, e_within, e_in32, e_asNumber, e_flag, decide_eq_true_eq, Sum.elim_inl, Sum.elim_inr, true_implies, not_true_eq_false, not_false_eq_true, false_implies, and_true, true_and, nI_nn, nn_nI, nn_nn, ↓reduceIte, if_true, if_false, Nat.le_refl, implies_true, Nat.lt_irrefl, hM0, p1, p2, p3, e7, h0, on_none, if_pos, hz]
        unfold bp
        rw [hz]
        dsimp only
        repeat' (with_reducible (first | apply And.intro | intro _))
        all_goals (first | omega | rfl | trivial | ((repeat' split) <;> first | omega | rfl | contradiction))
      | some y =>
        have hy := bp_lt hz
        have f7 := hM7 y (by omega)
        have c7 := hW7 y (by omega)
        simp (disch := omega) only [wp_some, wp_obd, wp_ob2, wp_bnd, wp_gd, wp_ite, wp_true, wp_ff, ↓l_n1, ↓l_n2, ↓l_n3, ↓l_n4, ↓l_n10, ↓l_n20, l_0, l_1, l_2, l_3, l_4, l_5, l_6, l_7, l_8, l_9, l_10, l_13, l_14, l_15, l_16, l_20, l_21, l_24, l_27, l_28, l_30, l_31, l_32, l_35, l_36, l_39, l_40, l_41, l_43, l_44, l_45, l_46, l_47, l_48, l_49, l_56, l_57, l_59, l_60, l_79, l_97, l_122, l_160, l_237, l_255, l_320, l_999, l_1000, nI_add, pk_mul, nI_eq, nI_leI, nI_ltI, nI_clamp, inb_nI_iff, e_within, e_in32, e_asNumber, e_flag, decide_eq_true_eq, Sum.elim_inl, Sum.elim_inr, true_implies, not_true_eq_false, not_false_eq_true, false_implies, and_true, true_and, nI_nn, nn_nI, nn_nn, ↓reduceIte, if_true, if_false, Nat.le_refl, implies_true, Nat.lt_irrefl, hM0, p1, p2, p3, e7, f7, h0, on_sm, if_pos, hz]
        unfold bp
        rw [hz]
        dsimp only
        repeat' (with_reducible (first | apply And.intro | intro _))
        all_goals (first | omega | rfl | trivial | ((repeat' split) <;> first | omega | rfl | contradiction))
    · simp (disch := omega) only [wp_some, wp_obd, wp_ob2, wp_bnd, wp_gd, wp_ite, wp_true, wp_ff, ↓l_n1, ↓l_n2, ↓l_n3, ↓l_n4, ↓l_n10, ↓l_n20, l_0, l_1, l_2, l_3, l_4, l_5, l_6, l_7, l_8, l_9, l_10, l_13, l_14, l_15, l_16, l_20, l_21, l_24, l_27, l_28, l_30, l_31, l_32, l_35, l_36, l_39, l_40, l_41, l_43, l_44, l_45, l_46, l_47, l_48, l_49, l_56, l_57, l_59, l_60, l_79, l_97, l_122, l_160, l_237, l_255, l_320, l_999, l_1000, nI_add, pk_mul, nI_eq, nI_leI, nI_ltI, nI_clamp, inb_nI_iff, e_within, e_in32, e_asNumber, e_flag, decide_eq_true_eq, Sum.elim_inl, Sum.elim_inr, true_implies, not_true_eq_false, not_false_eq_true, false_implies, and_true, true_and, nI_nn, nn_nI, nn_nn, ↓reduceIte, if_true, if_false, Nat.le_refl, implies_true, Nat.lt_irrefl, hM0, p1, p2, p3, e7, h0, on_none, if_neg, gl]
      repeat' (with_reducible (first | apply And.intro | intro _))
      all_goals (first | omega | rfl | trivial | ((repeat' split) <;> first | omega | rfl | contradiction))
  · rintro ⟨b, x⟩ ⟨hx, hb⟩
    dsimp only at hx hb
    subst hx
    subst hb
    simp (disch := omega) only [wp_some, wp_obd, wp_ob2, wp_bnd, wp_gd, wp_ite, wp_true, wp_ff, ↓l_n1, ↓l_n2, ↓l_n3, ↓l_n4, ↓l_n10, ↓l_n20, l_0, l_1, l_2, l_3, l_4, l_5, l_6, l_7, l_8, l_9, l_10, l_13, l_14, l_15, l_16, l_20, l_21, l_24, l_27, l_28, l_30, l_31, l_32, l_35, l_36, l_39, l_40, l_41, l_43, l_44, l_45, l_46, l_47, l_48, l_49, l_56, l_57, l_59, l_60, l_79, l_97, l_122, l_160, l_237, l_255, l_320, l_999, l_1000, nI_add, pk_mul, nI_eq, nI_leI, nI_ltI, nI_clamp, inb_nI_iff, e_within, e_in32, e_asNumber, e_flag, decide_eq_true_eq, Sum.elim_inl, Sum.elim_inr, true_implies, not_true_eq_false, not_false_eq_true, false_implies, and_true, true_and, nI_nn, nn_nI, nn_nn, ↓reduceIte, if_true, if_false, Nat.le_refl, implies_true, Nat.lt_irrefl, hM0, gl]
    repeat' (with_reducible (first | apply And.intro | intro _))
    all_goals (first | omega | rfl | trivial | ((repeat' split) <;> first | omega | rfl | contradiction))
  · intro a ha
    rw [wp_some, ha, l_n1]
theorem m_rightPlace (hM : MT g B) (hW : WF S B) {c : Nat} (hc : c < B 1 0) : f_X10_rightPlace (nI c) g = some (on (-4) (bp B c (B 0 0))) := by
  obtain ⟨hM0, hM1, hM2, hM3, hM4, hM5, hM6, hM7, hM8, hM9, hM10⟩ := hM
  obtain ⟨hW0, hW1, hW2, hW3, hW4, hW5, hW6, hW7, hW8, hW9, hW10, hW11, hW12⟩ := hW
  obtain ⟨p1, p2, p3⟩ := hM9 c hc
  obtain ⟨q1, q2, q3⟩ := hW10 c hc
  apply Ok.eqv
  unfold f_X10_rightPlace
  rw [wp_obd]
  refine (ok_up (K := fun e => e = on (nn 4) (bp B c (B 0 0))) (B 0 0) (fun j a => a.2 = nI j ∧ a.1 = on (nn 4) (bp B c j)) (by omega) ?_ ?_ _ ⟨rfl, by simp [bp, on_none, l_n4]⟩).mono ?_
  · rintro j ⟨b, x⟩ hj ⟨hx, hb⟩
    dsimp only at hx hb
    subst hx
    subst hb
    have e7 := hM7 j (by omega)
    have b7 := hW7 j (by omega)
    cases hz : bp B c j with
    | none =>
      simp (disch := omega) only [wp_some, wp_obd, wp_ob2, wp_bnd, wp_gd, wp_ite, wp_true, wp_ff, ↓l_n1, ↓l_n2, ↓l_n3, ↓l_n4, ↓l_n10, ↓l_n20, l_0, l_1, l_2, l_3, l_4, l_5, l_6, l_7, l_8, l_9, l_10, l_13, l_14, l_15, l_16, l_20, l_21, l_24, l_27, l_28, l_30, l_31, l_32, l_35, l_36, l_39, l_40, l_41, l_43, l_44, l_45, l_46, l_47, l_48, l_49, l_56, l_57, l_59, l_60, l_79, l_97, l_122, l_160, l_237, l_255, l_320, l_999, l_1000, nI_add, pk_mul, nI_eq, nI_leI, nI_ltI, nI_clamp, inb_nI_iff, e_within, e_in32, e_asNumber, e_flag, decide_eq_true_eq, Sum.elim_inl, Sum.elim_inr, true_implies, not_true_eq_false, not_false_eq_true, false_implies, and_true, true_and, nI_nn, nn_nI, nn_nn, ↓reduceIte, if_true, if_false, Nat.le_refl, implies_true, Nat.lt_irrefl, hM0, p1, p2, p3, e7, on_none, if_pos, hz]
      unfold bp
      rw [hz]
      dsimp only
      repeat' (with_reducible (first | apply And.intro | intro _))
      all_goals (first | omega | rfl | trivial | ((repeat' split) <;> first | omega | rfl | contradiction))
    | some y =>
      have hy := bp_lt hz
      have f7 := hM7 y (by omega)
      have c7 := hW7 y (by omega)
      simp (disch := omega) only [wp_some, wp_obd, wp_ob2, wp_bnd, wp_gd, wp_ite, wp_true, wp_ff, ↓l_n1, ↓l_n2, ↓l_n3, ↓l_n4, ↓l_n10, ↓l_n20, l_0, l_1, l_2, l_3, l_4, l_5, l_6, l_7, l_8, l_9, l_10, l_13, l_14, l_15, l_16, l_20, l_21, l_24, l_27, l_28, l_30, l_31, l_32, l_35, l_36, l_39, l_40, l_41, l_43, l_44, l_45, l_46, l_47, l_48, l_49, l_56, l_57, l_59, l_60, l_79, l_97, l_122, l_160, l_237, l_255, l_320, l_999, l_1000, nI_add, pk_mul, nI_eq, nI_leI, nI_ltI, nI_clamp, inb_nI_iff, e_within, e_in32, e_asNumber, e_flag, decide_eq_true_eq, Sum.elim_inl, Sum.elim_inr, true_implies, not_true_eq_false, not_false_eq_true, false_implies, and_true, true_and, nI_nn, nn_nI, nn_nn, ↓reduceIte, if_true, if_false, Nat.le_refl, implies_true, Nat.lt_irrefl, hM0, p1, p2, p3, e7, f7, on_sm, if_pos, hz]
      unfold bp
      rw [hz]
      dsimp only
      repeat' (with_reducible (first | apply And.intro | intro _))
      all_goals (first | omega | rfl | trivial | ((repeat' split) <;> first | omega | rfl | contradiction))
  · rintro ⟨b, x⟩ ⟨hx, hb⟩
    dsimp only at hx hb
    subst hx
    subst hb
    simp (disch := omega) only [wp_some, wp_obd, wp_ob2, wp_bnd, wp_gd, wp_ite, wp_true, wp_ff, ↓l_n1, ↓l_n2, ↓l_n3, ↓l_n4, ↓l_n10, ↓l_n20, l_0, l_1, l_2, l_3, l_4, l_5, l_6, l_7, l_8, l_9, l_10, l_13, l_14, l_15, l_16, l_20, l_21, l_24, l_27, l_28, l_30, l_31, l_32, l_35, l_36, l_39, l_40, l_41, l_43, l_44, l_45, l_46, l_47, l_48, l_49, l_56, l_57, l_59, l_60, l_79, l_97, l_122, l_160, l_237, l_255, l_320, l_999, l_1000, nI_add, pk_mul, nI_eq, nI_leI, nI_ltI, nI_clamp, inb_nI_iff, e_within, e_in32, e_asNumber, e_flag, decide_eq_true_eq, Sum.elim_inl, Sum.elim_inr, true_implies, not_true_eq_false, not_false_eq_true, false_implies, and_true, true_and, nI_nn, nn_nI, nn_nn, ↓reduceIte, if_true, if_false, Nat.le_refl, implies_true, Nat.lt_irrefl, hM0]
    repeat' (with_reducible (first | apply And.intro | intro _))
    all_goals (first | omega | rfl | trivial | ((repeat' split) <;> first | omega | rfl | contradiction))
  · intro a ha
    rw [wp_some, ha, l_n4]
theorem c_isRight (hC : CB0 h o B) (hW : WF S B) {c : Nat} (hc : c < B 1 0) : f_X0_isRight o o c h = some (rgt B c) := by
  apply Ok.eqv
  have p3 := (hC.2.2.2.2.2.2.2.2.2.1 c hc).2.2
  have hb := wok_lt hW.2.2.1 (hW.2.2.2.2.2.2.2.2.2.2.1 c hc).2.2
  have hP := hW.1
  unfold f_X0_isRight
  rw [wp_obd, c_rightPlace hC hW hc]
  unfold rgt
  cases hz : gl B c with
  | none =>
    simp (disch := omega) only [wp_some, wp_obd, wp_ob2, wp_bnd, wp_gd, wp_ite, wp_true, wp_ff, ↓l_n1, ↓l_n2, ↓l_n3, ↓l_n4, ↓l_n10, ↓l_n20, l_0, l_1, l_2, l_3, l_4, l_5, l_6, l_7, l_8, l_9, l_10, l_13, l_14, l_15, l_16, l_20, l_21, l_24, l_27, l_28, l_30, l_31, l_32, l_35, l_36, l_39, l_40, l_41, l_43, l_44, l_45, l_46, l_47, l_48, l_49, l_56, l_57, l_59, l_60, l_79, l_97, l_122, l_160, l_237, l_255, l_320, l_999, l_1000, nI_add, pk_mul, nI_eq, nI_leI, nI_ltI, nI_clamp, inb_nI_iff, e_within, e_in32, e_asNumber, e_flag, decide_eq_true_eq, Sum.elim_inl, Sum.elim_inr, true_implies, not_true_eq_false, not_false_eq_true, false_implies, and_true, true_and, nI_nn, nn_nI, nn_nn, ↓reduceIte, if_true, if_false, Nat.le_refl, implies_true, Nat.lt_irrefl, on_none]
  | some y =>
    have hy : y < B 0 0 := by
      unfold gl at hz
      split at hz
      · exact bp_lt hz
      · cases hz
    simp (disch := omega) only [wp_some, wp_obd, wp_ob2, wp_bnd, wp_gd, wp_ite, wp_true, wp_ff, ↓l_n1, ↓l_n2, ↓l_n3, ↓l_n4, ↓l_n10, ↓l_n20, l_0, l_1, l_2, l_3, l_4, l_5, l_6, l_7, l_8, l_9, l_10, l_13, l_14, l_15, l_16, l_20, l_21, l_24, l_27, l_28, l_30, l_31, l_32, l_35, l_36, l_39, l_40, l_41, l_43, l_44, l_45, l_46, l_47, l_48, l_49, l_56, l_57, l_59, l_60, l_79, l_97, l_122, l_160, l_237, l_255, l_320, l_999, l_1000, nI_add, pk_mul, nI_eq, nI_leI, nI_ltI, nI_clamp, inb_nI_iff, e_within, e_in32, e_asNumber, e_flag, decide_eq_true_eq, Sum.elim_inl, Sum.elim_inr, true_implies, not_true_eq_false, not_false_eq_true, false_implies, and_true, true_and, nI_nn, nn_nI, nn_nn, ↓reduceIte, if_true, if_false, Nat.le_refl, implies_true, Nat.lt_irrefl, on_sm, p3]
    refine ⟨fun e => by simp [e], fun e => by simp [e]⟩
theorem m_isRight (hM : MT g B) (hW : WF S B) {c : Nat} (hc : c < B 1 0) : f_X10_isRight (nI c) g = some (rgt B c) := by
  apply Ok.eqv
  obtain ⟨p1, p2, p3⟩ := hM.2.2.2.2.2.2.2.2.2.1 c hc
  have hb := wok_lt hW.2.2.1 (hW.2.2.2.2.2.2.2.2.2.2.1 c hc).2.2
  have h10 := (hW.2.2.2.2.2.2.2.2.2.2.1 c hc).2.1
  have hP := hW.1
  have hn := hW.2.1
  unfold f_X10_isRight
  rw [wp_obd, m_rightPlace hM hW hc]
  unfold rgt gl
  by_cases h0 : B 10 c = 0
  · rw [if_pos h0]
    cases hz : bp B c (B 0 0) with
    | none =>
      simp (disch := omega) only [wp_some, wp_obd, wp_ob2, wp_bnd, wp_gd, wp_ite, wp_true, wp_ff, ↓l_n1, ↓l_n2, ↓l_n3, ↓l_n4, ↓l_n10, ↓l_n20, l_0, l_1, l_2, l_3, l_4, l_5, l_6, l_7, l_8, l_9, l_10, l_13, l_14, l_15, l_16, l_20, l_21, l_24, l_27, l_28, l_30, l_31, l_32, l_35, l_36, l_39, l_40, l_41, l_43, l_44, l_45, l_46, l_47, l_48, l_49, l_56, l_57, l_59, l_60, l_79, l_97, l_122, l_160, l_237, l_255, l_320, l_999, l_1000, nI_add, pk_mul, nI_eq, nI_leI, nI_ltI, nI_clamp, inb_nI_iff, e_within, e_in32, e_asNumber, e_flag, decide_eq_true_eq, Sum.elim_inl, Sum.elim_inr, true_implies, not_true_eq_false, not_false_eq_true, false_implies, and_true, true_and, nI_nn, nn_nI, nn_nn, ↓reduceIte, if_true, if_false, Nat.le_refl, implies_true, Nat.lt_irrefl, on_none, p2, p3]
      repeat' (with_reducible (first | apply And.intro | intro _))
      all_goals (first | omega | rfl | trivial | ((repeat' split) <;> first | omega | rfl | contradiction))
    | some y =>
      have hy := bp_lt hz
      simp (disch := omega) only [wp_some, wp_obd, wp_ob2, wp_bnd, wp_gd, wp_ite, wp_true, wp_ff, ↓l_n1, ↓l_n2, ↓l_n3, ↓l_n4, ↓l_n10, ↓l_n20, l_0, l_1, l_2, l_3, l_4, l_5, l_6, l_7, l_8, l_9, l_10, l_13, l_14, l_15, l_16, l_20, l_21, l_24, l_27, l_28, l_30, l_31, l_32, l_35, l_36, l_39, l_40, l_41, l_43, l_44, l_45, l_46, l_47, l_48, l_49, l_56, l_57, l_59, l_60, l_79, l_97, l_122, l_160, l_237, l_255, l_320, l_999, l_1000, nI_add, pk_mul, nI_eq, nI_leI, nI_ltI, nI_clamp, inb_nI_iff, e_within, e_in32, e_asNumber, e_flag, decide_eq_true_eq, Sum.elim_inl, Sum.elim_inr, true_implies, not_true_eq_false, not_false_eq_true, false_implies, and_true, true_and, nI_nn, nn_nI, nn_nn, ↓reduceIte, if_true, if_false, Nat.le_refl, implies_true, Nat.lt_irrefl, on_sm, p2, p3]
      repeat' (with_reducible (first | apply And.intro | intro _))
      all_goals first | omega | (rename_i e; simp [e])
  · rw [if_neg h0]
    have h1 : B 10 c = 1 := by omega
    cases hz : bp B c (B 0 0) with
    | none =>
      simp (disch := omega) only [wp_some, wp_obd, wp_ob2, wp_bnd, wp_gd, wp_ite, wp_true, wp_ff, ↓l_n1, ↓l_n2, ↓l_n3, ↓l_n4, ↓l_n10, ↓l_n20, l_0, l_1, l_2, l_3, l_4, l_5, l_6, l_7, l_8, l_9, l_10, l_13, l_14, l_15, l_16, l_20, l_21, l_24, l_27, l_28, l_30, l_31, l_32, l_35, l_36, l_39, l_40, l_41, l_43, l_44, l_45, l_46, l_47, l_48, l_49, l_56, l_57, l_59, l_60, l_79, l_97, l_122, l_160, l_237, l_255, l_320, l_999, l_1000, nI_add, pk_mul, nI_eq, nI_leI, nI_ltI, nI_clamp, inb_nI_iff, e_within, e_in32, e_asNumber, e_flag, decide_eq_true_eq, Sum.elim_inl, Sum.elim_inr, true_implies, not_true_eq_false, not_false_eq_true, false_implies, and_true, true_and, nI_nn, nn_nI, nn_nn, ↓reduceIte, if_true, if_false, Nat.le_refl, implies_true, Nat.lt_irrefl, on_none, p2, p3, h1]
      repeat' (with_reducible (first | apply And.intro | intro _))
      all_goals (first | omega | rfl | trivial | ((repeat' split) <;> first | omega | rfl | contradiction))
    | some y =>
      have hy := bp_lt hz
      simp (disch := omega) only [wp_some, wp_obd, wp_ob2, wp_bnd, wp_gd, wp_ite, wp_true, wp_ff, ↓l_n1, ↓l_n2, ↓l_n3, ↓l_n4, ↓l_n10, ↓l_n20, l_0, l_1, l_2, l_3, l_4, l_5, l_6, l_7, l_8, l_9, l_10, l_13, l_14, l_15, l_16, l_20, l_21, l_24, l_27, l_28, l_30, l_31, l_32, l_35, l_36, l_39, l_40, l_41, l_43, l_44, l_45, l_46, l_47, l_48, l_49, l_56, l_57, l_59, l_60, l_79, l_97, l_122, l_160, l_237, l_255, l_320, l_999, l_1000, nI_add, pk_mul, nI_eq, nI_leI, nI_ltI, nI_clamp, inb_nI_iff, e_within, e_in32, e_asNumber, e_flag, decide_eq_true_eq, Sum.elim_inl, Sum.elim_inr, true_implies, not_true_eq_false, not_false_eq_true, false_implies, and_true, true_and, nI_nn, nn_nI, nn_nn, ↓reduceIte, if_true, if_false, Nat.le_refl, implies_true, Nat.lt_irrefl, on_sm, p2, p3, h1]
      repeat' (with_reducible (first | apply And.intro | intro _))
      all_goals (first | omega | rfl | trivial | ((repeat' split) <;> first | omega | rfl | contradiction))
theorem c_countRight (hC : CB0 h o B) (hW : WF S B) : f_X0_countRight o h = some (nI (cnt (rgt B) (B 1 0))) := by
  apply Ok.eqv
  have hn := hW.2.1
  have h1 := hC.2.1
  unfold f_X0_countRight
  rw [wp_obd]
  refine (ok_up (K := fun e => e = nI (cnt (rgt B) (B 1 0))) (B 1 0) (fun j a => a.2 = nI j ∧ a.1 = nI (cnt (rgt B) j)) (by omega) ?_ ?_ _ ⟨rfl, rfl⟩).mono (fun a ha => wp_some.mpr ha)
  · rintro j ⟨b, x⟩ hj ⟨hx, hb⟩
    dsimp only at hx hb
    subst hx
    subst hb
    simp (disch := omega) only [wp_some, wp_obd, wp_ob2, wp_bnd, wp_gd, wp_ite, wp_true, wp_ff, ↓l_n1, ↓l_n2, ↓l_n3, ↓l_n4, ↓l_n10, ↓l_n20, l_0, l_1, l_2, l_3, l_4, l_5, l_6, l_7, l_8, l_9, l_10, l_13, l_14, l_15, l_16, l_20, l_21, l_24, l_27, l_28, l_30, l_31, l_32, l_35, l_36, l_39, l_40, l_41, l_43, l_44, l_45, l_46, l_47, l_48, l_49, l_56, l_57, l_59, l_60, l_79, l_97, l_122, l_160, l_237, l_255, l_320, l_999, l_1000, nI_add, pk_mul, nI_eq, nI_leI, nI_ltI, nI_clamp, inb_nI_iff, e_within, e_in32, e_asNumber, e_flag, decide_eq_true_eq, Sum.elim_inl, Sum.elim_inr, true_implies, not_true_eq_false, not_false_eq_true, false_implies, and_true, true_and, nI_nn, nn_nI, nn_nn, ↓reduceIte, if_true, if_false, Nat.le_refl, implies_true, Nat.lt_irrefl, h1, c_isRight hC hW hj, cnt]
    repeat' (with_reducible (first | apply And.intro | intro _))
    all_goals first | omega | (simp [*])
  · rintro ⟨b, x⟩ ⟨hx, hb⟩
    dsimp only at hx hb
    subst hx
    subst hb
    simp (disch := omega) only [wp_some, wp_obd, wp_ob2, wp_bnd, wp_gd, wp_ite, wp_true, wp_ff, ↓l_n1, ↓l_n2, ↓l_n3, ↓l_n4, ↓l_n10, ↓l_n20, l_0, l_1, l_2, l_3, l_4, l_5, l_6, l_7, l_8, l_9, l_10, l_13, l_14, l_15, l_16, l_20, l_21, l_24, l_27, l_28, l_30, l_31, l_32, l_35, l_36, l_39, l_40, l_41, l_43, l_44, l_45, l_46, l_47, l_48, l_49, l_56, l_57, l_59, l_60, l_79, l_97, l_122, l_160, l_237, l_255, l_320, l_999, l_1000, nI_add, pk_mul, nI_eq, nI_leI, nI_ltI, nI_clamp, inb_nI_iff, e_within, e_in32, e_asNumber, e_flag, decide_eq_true_eq, Sum.elim_inl, Sum.elim_inr, true_implies, not_true_eq_false, not_false_eq_true, false_implies, and_true, true_and, nI_nn, nn_nI, nn_nn, ↓reduceIte, if_true, if_false, Nat.le_refl, implies_true, Nat.lt_irrefl, h1]
    repeat' (with_reducible (first | apply And.intro | intro _))
    all_goals (first | omega | rfl | trivial | ((repeat' split) <;> first | omega | rfl | contradiction))
theorem m_rightMany (hM : MT g B) (hW : WF S B) : f_X10_rightMany g = some (nI (cnt (rgt B) (B 1 0))) := by
  apply Ok.eqv
  have hn := hW.2.1
  have h1 := hM.2.1
  unfold f_X10_rightMany
  rw [wp_obd]
  refine (ok_up (K := fun e => e = nI (cnt (rgt B) (B 1 0))) (B 1 0) (fun j a => a.2 = nI j ∧ a.1 = nI (cnt (rgt B) j)) (by omega) ?_ ?_ _ ⟨rfl, rfl⟩).mono (fun a ha => wp_some.mpr ha)
  · rintro j ⟨b, x⟩ hj ⟨hx, hb⟩
    dsimp only at hx hb
    subst hx
    subst hb
    have hf : b2i (rgt B j) = nI (if rgt B j = true then 1 else 0) := by unfold b2i; split <;> rfl
    simp (disch := omega) only [wp_some, wp_obd, wp_ob2, wp_bnd, wp_gd, wp_ite, wp_true, wp_ff, ↓l_n1, ↓l_n2, ↓l_n3, ↓l_n4, ↓l_n10, ↓l_n20, l_0, l_1, l_2, l_3, l_4, l_5, l_6, l_7, l_8, l_9, l_10, l_13, l_14, l_15, l_16, l_20, l_21, l_24, l_27, l_28, l_30, l_31, l_32, l_35, l_36, l_39, l_40, l_41, l_43, l_44, l_45, l_46, l_47, l_48, l_49, l_56, l_57, l_59, l_60, l_79, l_97, l_122, l_160, l_237, l_255, l_320, l_999, l_1000, nI_add, pk_mul, nI_eq, nI_leI, nI_ltI, nI_clamp, inb_nI_iff, e_within, e_in32, e_asNumber, e_flag, decide_eq_true_eq, Sum.elim_inl, Sum.elim_inr, true_implies, not_true_eq_false, not_false_eq_true, false_implies, and_true, true_and, nI_nn, nn_nI, nn_nn, ↓reduceIte, if_true, if_false, Nat.le_refl, implies_true, Nat.lt_irrefl, h1, m_isRight hM hW hj, cnt, hf]
    repeat' (with_reducible (first | apply And.intro | intro _))
    all_goals first | omega | (simp [*])
  · rintro ⟨b, x⟩ ⟨hx, hb⟩
    dsimp only at hx hb
    subst hx
    subst hb
    simp (disch := omega) only [wp_some, wp_obd, wp_ob2, wp_bnd, wp_gd, wp_ite, wp_true, wp_ff, ↓l_n1, ↓l_n2, ↓l_n3, ↓l_n4, ↓l_n10, ↓l_n20, l_0, l_1, l_2, l_3, l_4, l_5, l_6, l_7, l_8, l_9, l_10, l_13, l_14, l_15, l_16, l_20, l_21, l_24, l_27, l_28, l_30, l_31, l_32, l_35, l_36, l_39, l_40, l_41, l_43, l_44, l_45, l_46, l_47, l_48, l_49, l_56, l_57, l_59, l_60, l_79, l_97, l_122, l_160, l_237, l_255, l_320, l_999, l_1000, nI_add, pk_mul, nI_eq, nI_leI, nI_ltI, nI_clamp, inb_nI_iff, e_within, e_in32, e_asNumber, e_flag, decide_eq_true_eq, Sum.elim_inl, Sum.elim_inr, true_implies, not_true_eq_false, not_false_eq_true, false_implies, and_true, true_and, nI_nn, nn_nI, nn_nn, ↓reduceIte, if_true, if_false, Nat.le_refl, implies_true, Nat.lt_irrefl, h1]
    repeat' (with_reducible (first | apply And.intro | intro _))
    all_goals (first | omega | rfl | trivial | ((repeat' split) <;> first | omega | rfl | contradiction))
end Cls
