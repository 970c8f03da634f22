def prs (t : Nat) (u : Nat → Nat) : Nat → Nat → Nat → Bs → Bool → Bool → Nat → Flt ⊕ (Nat × Bs × Nat)
  | 0, _, _, _, _, _, _ => .inl (0, 0)
  | n + 1, j, s, B, pt, tt, hi => if tkd t u s = 4 ∨ (tkd t u s = 2 ∧ 2 < tb t u s - ta t u s) then .inl (1, ta t u s) else if tkd t u s = 0 then .inr (j, B, hi) else match line t u s B pt tt hi with
    | .inl f => .inl f
    | .inr q => prs t u n (j + 1) q.1 q.2.1 q.2.2.1 q.2.2.2.1 q.2.2.2.2
def fin (t : Nat) (R : Flt ⊕ (Nat × Bs × Nat)) : Flt ⊕ (Nat × Bs) := match R with
  | .inl f => .inl f
  | .inr q => if q.2.2 ≤ q.2.1 0 0 then .inr (q.1, q.2.1) else .inl (6, t)
theorem fin_l {t : Nat} {f : Flt} : fin t (.inl f) = .inl f := rfl
theorem fin_r {t n hi : Nat} {B : Bs} : fin t (.inr (n, B, hi)) = if hi ≤ B 0 0 then .inr (n, B) else .inl (6, t) := rfl
/-- the beach before all is told -/
def BZ : Bs := fun f _ => if f = 0 then 4 else 0
theorem PW_Z : PW BZ := by
  unfold PW NO BZ
  simp
theorem HI_Z : HI BZ 0 := by
  unfold HI BZ
  simp
def prs0 (t : Nat) (u : Nat → Nat) : Flt ⊕ (Nat × Bs × Nat) := prs t u 161 0 0 BZ false false 0
theorem PW_hd {B : Bs} {k : Nat} (h : PW B) : hd B k = none := by
  unfold hd
  rw [ff_none]
  intro c hc
  have := (h.2.2.2.2.2.2.2.2.1 c hc).2.2
  simp; omega
theorem PW_WF {B : Bs} {hi : Nat} (h : PW B) (hH : HI B hi) (hb : hi ≤ B 0 0) : WF 999 B := by
  obtain ⟨a0, a1, a2, a3, a4, a5, a7, aO, a9, a12⟩ := h
  refine ⟨a0, a1, a2, a3, a4, by omega, by rw [aO.1]; exact a2, a7, fun i hi => ?_, fun i j hi hj e => ?_, fun c hc => ⟨(a9 c hc).1, (a9 c hc).2.1, Or.inl (a9 c hc).2.2⟩, fun c d hc hd h1 h2 h3 => ?_, fun k hk => ⟨(a12 k hk).1, (a12 k hk).2.1, (a12 k hk).2.2.1, by have := hH.2.2.2.1 k hk; omega⟩⟩
  · rw [aO.1] at hi; rw [aO.2 i hi]; exact hi
  · rw [aO.1] at hi hj; rw [aO.2 i hi, aO.2 j hj] at e; exact e
  · have := (a9 c hc).2.2; omega
section Cl
variable {h h0 g : Mem} {t : Nat} {u : Nat → Nat} {s a b hi : Nat} {B : Bs} {pt tt : Bool}
theorem c_has (hB : BC h B) (hP : PW B) (hH : HI B hi) : Ok (f_X0_hasItsPlaces 2 h) (fun r => r = decide (hi ≤ B 0 0)) := by
  obtain ⟨hM0, hM1, hM2, hM3, hM4, hM5, hM6, hM7, hM8, hM9, hM10⟩ := hB.1
  obtain ⟨a0, a1, a2, a3, a4, a5, a7, aO, a9, a12⟩ := hP
  obtain ⟨b0, b1, b2, b3, b4⟩ := hH
  unfold f_X0_hasItsPlaces
  refine ok_bnd (ok_obd ?_)
  rw [hM0]
  refine (ok_up (K := Sum.elim (fun r => r = false ∧ ¬ hi ≤ B 0 0) (fun _ => ∀ x, B 0 0 ≤ x → x < 8 → B 7 x = 0)) (8 - B 0 0) (fun j z => z = nI (B 0 0 + j) ∧ ∀ x, B 0 0 ≤ x → x < B 0 0 + j → B 7 x = 0) (by omega) ?_ ?_ _ ⟨rfl, fun x h1 h2 => by omega⟩).mono ?_
  · rintro j z hj ⟨rfl, k1⟩
    have f7 := hM7 (B 0 0 + j) (by omega)
    have w7 := a7 (B 0 0 + j) (by omega)
    by_cases q : B 7 (B 0 0 + j) = 0
    · simp (disch := omega) only [wp_some, wp_obd, wp_ob2, wp_bnd, wp_gd, wp_ite, wp_true, wp_ff, ↓l_n1, ↓l_n2, ↓l_n3, ↓l_n4, ↓l_n10, ↓l_n20, l_0, l_1, l_2, l_3, l_4, l_5, l_6, l_7, l_8, l_9, l_10, l_13, l_14, l_15, l_16, l_20, l_21, l_24, l_27, l_28, l_30, l_31, l_32, l_35, l_36, l_39, l_40, l_41, l_43, l_44, l_45, l_46, l_47, l_48, l_49, l_56, l_57, l_59, l_60, l_79, l_97, l_122, l_160, l_237, l_255, l_320, l_999, l_1000, nI_add, pk_mul, nI_eq, nI_leI, nI_ltI, nI_clamp, inb_nI_iff, e_within, e_in32, e_asNumber, e_flag, decide_eq_true_eq, Sum.elim_inl, Sum.elim_inr, true_implies, not_true_eq_false, not_false_eq_true, false_implies, and_true, true_and, nI_nn, nn_nI, nn_nn, ↓reduceIte, if_true, if_false, Nat.le_refl, implies_true, Nat.lt_irrefl, and_self_left, win1, nI_le_s1, Nat.zero_le, up_s, up_o, Nat.zero_add, m64_0, m64_1, m64_2, m64_3, m64_7, m64_8, m64_9, m64_10, m64_13, m64_20, m64_27, m64_60, f7, q]
      refine ⟨fun e => by omega, fun _ => ⟨by omega, by omega, fun x h1 h2 => ?_⟩⟩
      by_cases e : x = B 0 0 + j
      · rw [e]; exact q
      · exact k1 x h1 (by omega)
    · simp (disch := omega) only [wp_some, wp_obd, wp_ob2, wp_bnd, wp_gd, wp_ite, wp_true, wp_ff, ↓l_n1, ↓l_n2, ↓l_n3, ↓l_n4, ↓l_n10, ↓l_n20, l_0, l_1, l_2, l_3, l_4, l_5, l_6, l_7, l_8, l_9, l_10, l_13, l_14, l_15, l_16, l_20, l_21, l_24, l_27, l_28, l_30, l_31, l_32, l_35, l_36, l_39, l_40, l_41, l_43, l_44, l_45, l_46, l_47, l_48, l_49, l_56, l_57, l_59, l_60, l_79, l_97, l_122, l_160, l_237, l_255, l_320, l_999, l_1000, nI_add, pk_mul, nI_eq, nI_leI, nI_ltI, nI_clamp, inb_nI_iff, e_within, e_in32, e_asNumber, e_flag, decide_eq_true_eq, Sum.elim_inl, Sum.elim_inr, true_implies, not_true_eq_false, not_false_eq_true, false_implies, and_true, true_and, nI_nn, nn_nI, nn_nn, ↓reduceIte, if_true, if_false, Nat.le_refl, implies_true, Nat.lt_irrefl, and_self_left, win1, nI_le_s1, Nat.zero_le, up_s, up_o, Nat.zero_add, m64_0, m64_1, m64_2, m64_3, m64_7, m64_8, m64_9, m64_10, m64_13, m64_20, m64_27, m64_60, f7, q]
      exact ⟨fun e => by omega, fun _ => ⟨by omega, by have := b1 (B 0 0 + j) (by omega) q; omega⟩⟩
  · rintro z ⟨rfl, k1⟩
    simp (disch := omega) only [wp_some, wp_obd, wp_ob2, wp_bnd, wp_gd, wp_ite, wp_true, wp_ff, ↓l_n1, ↓l_n2, ↓l_n3, ↓l_n4, ↓l_n10, ↓l_n20, l_0, l_1, l_2, l_3, l_4, l_5, l_6, l_7, l_8, l_9, l_10, l_13, l_14, l_15, l_16, l_20, l_21, l_24, l_27, l_28, l_30, l_31, l_32, l_35, l_36, l_39, l_40, l_41, l_43, l_44, l_45, l_46, l_47, l_48, l_49, l_56, l_57, l_59, l_60, l_79, l_97, l_122, l_160, l_237, l_255, l_320, l_999, l_1000, nI_add, pk_mul, nI_eq, nI_leI, nI_ltI, nI_clamp, inb_nI_iff, e_within, e_in32, e_asNumber, e_flag, decide_eq_true_eq, Sum.elim_inl, Sum.elim_inr, true_implies, not_true_eq_false, not_false_eq_true, false_implies, and_true, true_and, nI_nn, nn_nI, nn_nn, ↓reduceIte, if_true, if_false, Nat.le_refl, implies_true, Nat.lt_irrefl, and_self_left, win1, nI_le_s1, Nat.zero_le, up_s, up_o, Nat.zero_add, m64_0, m64_1, m64_2, m64_3, m64_7, m64_8, m64_9, m64_10, m64_13, m64_20, m64_27, m64_60]
    exact ⟨fun _ x h1 h2 => k1 x h1 (by omega), fun e => by omega⟩
  rintro z hz
  cases z with
  | inl r => exact ok_some (by rw [hz.1]; symm; rw [decide_eq_false_iff_not]; exact hz.2)
  | inr r =>
    refine ok_obd ?_
    refine (ok_up (K := Sum.elim (fun r => r = false ∧ ¬ hi ≤ B 0 0) (fun _ => ∀ c, c < B 1 0 → B 11 c < B 0 0)) (B 1 0) (fun j z => z = nI j ∧ ∀ c, c < j → B 11 c < B 0 0) (by omega) ?_ ?_ _ ⟨rfl, fun x h1 => by omega⟩).mono ?_
    · rintro j z hj ⟨rfl, k1⟩
      have f7 := (hM9 j hj).2.2
      have w7 := (a9 j hj).2.2
      have v7 := b2 j hj
      by_cases q : B 11 j < B 0 0
      · simp (disch := omega) only [wp_some, wp_obd, wp_ob2, wp_bnd, wp_gd, wp_ite, wp_true, wp_ff, ↓l_n1, ↓l_n2, ↓l_n3, ↓l_n4, ↓l_n10, ↓l_n20, l_0, l_1, l_2, l_3, l_4, l_5, l_6, l_7, l_8, l_9, l_10, l_13, l_14, l_15, l_16, l_20, l_21, l_24, l_27, l_28, l_30, l_31, l_32, l_35, l_36, l_39, l_40, l_41, l_43, l_44, l_45, l_46, l_47, l_48, l_49, l_56, l_57, l_59, l_60, l_79, l_97, l_122, l_160, l_237, l_255, l_320, l_999, l_1000, nI_add, pk_mul, nI_eq, nI_leI, nI_ltI, nI_clamp, inb_nI_iff, e_within, e_in32, e_asNumber, e_flag, decide_eq_true_eq, Sum.elim_inl, Sum.elim_inr, true_implies, not_true_eq_false, not_false_eq_true, false_implies, and_true, true_and, nI_nn, nn_nI, nn_nn, ↓reduceIte, if_true, if_false, Nat.le_refl, implies_true, Nat.lt_irrefl, and_self_left, win1, nI_le_s1, Nat.zero_le, up_s, up_o, Nat.zero_add, m64_0, m64_1, m64_2, m64_3, m64_7, m64_8, m64_9, m64_10, m64_13, m64_20, m64_27, m64_60, hM1, hM0, f7, q]
        refine ⟨fun e => by omega, fun _ => ⟨by omega, fun x h1 => ?_⟩⟩
        by_cases e : x = j
        · rw [e]; exact q
        · exact k1 x (by omega)
      · simp (disch := omega) only [wp_some, wp_obd, wp_ob2, wp_bnd, wp_gd, wp_ite, wp_true, wp_ff, ↓l_n1, ↓l_n2, ↓l_n3, ↓l_n4, ↓l_n10, ↓l_n20, l_0, l_1, l_2, l_3, l_4, l_5, l_6, l_7, l_8, l_9, l_10, l_13, l_14, l_15, l_16, l_20, l_21, l_24, l_27, l_28, l_30, l_31, l_32, l_35, l_36, l_39, l_40, l_41, l_43, l_44, l_45, l_46, l_47, l_48, l_49, l_56, l_57, l_59, l_60, l_79, l_97, l_122, l_160, l_237, l_255, l_320, l_999, l_1000, nI_add, pk_mul, nI_eq, nI_leI, nI_ltI, nI_clamp, inb_nI_iff, e_within, e_in32, e_asNumber, e_flag, decide_eq_true_eq, Sum.elim_inl, Sum.elim_inr, true_implies, not_true_eq_false, not_false_eq_true, false_implies, and_true, true_and, nI_nn, nn_nI, nn_nn, ↓reduceIte, if_true, if_false, Nat.le_refl, implies_true, Nat.lt_irrefl, and_self_left, win1, nI_le_s1, Nat.zero_le, up_s, up_o, Nat.zero_add, m64_0, m64_1, m64_2, m64_3, m64_7, m64_8, m64_9, m64_10, m64_13, m64_20, m64_27, m64_60, hM1, hM0, f7, q]
        exact ⟨fun e => by omega, fun _ => ⟨by omega, by omega⟩⟩
    · rintro z ⟨rfl, k1⟩
      simp (disch := omega) only [wp_some, wp_obd, wp_ob2, wp_bnd, wp_gd, wp_ite, wp_true, wp_ff, ↓l_n1, ↓l_n2, ↓l_n3, ↓l_n4, ↓l_n10, ↓l_n20, l_0, l_1, l_2, l_3, l_4, l_5, l_6, l_7, l_8, l_9, l_10, l_13, l_14, l_15, l_16, l_20, l_21, l_24, l_27, l_28, l_30, l_31, l_32, l_35, l_36, l_39, l_40, l_41, l_43, l_44, l_45, l_46, l_47, l_48, l_49, l_56, l_57, l_59, l_60, l_79, l_97, l_122, l_160, l_237, l_255, l_320, l_999, l_1000, nI_add, pk_mul, nI_eq, nI_leI, nI_ltI, nI_clamp, inb_nI_iff, e_within, e_in32, e_asNumber, e_flag, decide_eq_true_eq, Sum.elim_inl, Sum.elim_inr, true_implies, not_true_eq_false, not_false_eq_true, false_implies, and_true, true_and, nI_nn, nn_nI, nn_nn, ↓reduceIte, if_true, if_false, Nat.le_refl, implies_true, Nat.lt_irrefl, and_self_left, win1, nI_le_s1, Nat.zero_le, up_s, up_o, Nat.zero_add, m64_0, m64_1, m64_2, m64_3, m64_7, m64_8, m64_9, m64_10, m64_13, m64_20, m64_27, m64_60, hM1]
      exact k1
    rintro z hz2
    cases z with
    | inl r => exact ok_some (by rw [hz2.1]; symm; rw [decide_eq_false_iff_not]; exact hz2.2)
    | inr r =>
      refine ok_obd ?_
      refine (ok_up (K := Sum.elim (fun r => r = false ∧ ¬ hi ≤ B 0 0) (fun _ => ∀ c, c < B 2 0 → B 15 c < B 0 0)) (B 2 0) (fun j z => z = nI j ∧ ∀ c, c < j → B 15 c < B 0 0) (by omega) ?_ ?_ _ ⟨rfl, fun x h1 => by omega⟩).mono ?_
      · rintro j z hj ⟨rfl, k1⟩
        have f7 := (hM10 j hj).2.2.2
        have w7 := (a12 j hj).2.2.2
        have v7 := b3 j hj
        by_cases q : B 15 j < B 0 0
        · simp (disch := omega) only [wp_some, wp_obd, wp_ob2, wp_bnd, wp_gd, wp_ite, wp_true, wp_ff, ↓l_n1, ↓l_n2, ↓l_n3, ↓l_n4, ↓l_n10, ↓l_n20, l_0, l_1, l_2, l_3, l_4, l_5, l_6, l_7, l_8, l_9, l_10, l_13, l_14, l_15, l_16, l_20, l_21, l_24, l_27, l_28, l_30, l_31, l_32, l_35, l_36, l_39, l_40, l_41, l_43, l_44, l_45, l_46, l_47, l_48, l_49, l_56, l_57, l_59, l_60, l_79, l_97, l_122, l_160, l_237, l_255, l_320, l_999, l_1000, nI_add, pk_mul, nI_eq, nI_leI, nI_ltI, nI_clamp, inb_nI_iff, e_within, e_in32, e_asNumber, e_flag, decide_eq_true_eq, Sum.elim_inl, Sum.elim_inr, true_implies, not_true_eq_false, not_false_eq_true, false_implies, and_true, true_and, nI_nn, nn_nI, nn_nn, ↓reduceIte, if_true, if_false, Nat.le_refl, implies_true, Nat.lt_irrefl, and_self_left, win1, nI_le_s1, Nat.zero_le, up_s, up_o, Nat.zero_add, m64_0, m64_1, m64_2, m64_3, m64_7, m64_8, m64_9, m64_10, m64_13, m64_20, m64_27, m64_60, hM2, hM0, f7, q]
          refine ⟨fun e => by omega, fun _ => ⟨by omega, fun x h1 => ?_⟩⟩
          by_cases e : x = j
          · rw [e]; exact q
          · exact k1 x (by omega)
        · simp (disch := omega) only [wp_some, wp_obd, wp_ob2, wp_bnd, wp_gd, wp_ite, wp_true, wp_ff, ↓l_n1, ↓l_n2, ↓l_n3, ↓l_n4, ↓l_n10, ↓l_n20, l_0, l_1, l_2, l_3, l_4, l_5, l_6, l_7, l_8, l_9, l_10, l_13, l_14, l_15, l_16, l_20, l_21, l_24, l_27, l_28, l_30, l_31, l_32, l_35, l_36, l_39, l_40, l_41, l_43, l_44, l_45, l_46, l_47, l_48, l_49, l_56, l_57, l_59, l_60, l_79, l_97, l_122, l_160, l_237, l_255, l_320, l_999, l_1000, nI_add, pk_mul, nI_eq, nI_leI, nI_ltI, nI_clamp, inb_nI_iff, e_within, e_in32, e_asNumber, e_flag, decide_eq_true_eq, Sum.elim_inl, Sum.elim_inr, true_implies, not_true_eq_false, not_false_eq_true, false_implies, and_true, true_and, nI_nn, nn_nI, nn_nn, ↓reduceIte, if_true, if_false, Nat.le_refl, implies_true, Nat.lt_irrefl, and_self_left, win1, nI_le_s1, Nat.zero_le, up_s, up_o, Nat.zero_add, m64_0, m64_1, m64_2, m64_3, m64_7, m64_8, m64_9, m64_10, m64_13, m64_20, m64_27, m64_60, hM2, hM0, f7, q]
          exact ⟨fun e => by omega, fun _ => ⟨by omega, by omega⟩⟩
      · rintro z ⟨rfl, k1⟩
        simp (disch := omega) only [wp_some, wp_obd, wp_ob2, wp_bnd, wp_gd, wp_ite, wp_true, wp_ff, ↓l_n1, ↓l_n2, ↓l_n3, ↓l_n4, ↓l_n10, ↓l_n20, l_0, l_1, l_2, l_3, l_4, l_5, l_6, l_7, l_8, l_9, l_10, l_13, l_14, l_15, l_16, l_20, l_21, l_24, l_27, l_28, l_30, l_31, l_32, l_35, l_36, l_39, l_40, l_41, l_43, l_44, l_45, l_46, l_47, l_48, l_49, l_56, l_57, l_59, l_60, l_79, l_97, l_122, l_160, l_237, l_255, l_320, l_999, l_1000, nI_add, pk_mul, nI_eq, nI_leI, nI_ltI, nI_clamp, inb_nI_iff, e_within, e_in32, e_asNumber, e_flag, decide_eq_true_eq, Sum.elim_inl, Sum.elim_inr, true_implies, not_true_eq_false, not_false_eq_true, false_implies, and_true, true_and, nI_nn, nn_nI, nn_nn, ↓reduceIte, if_true, if_false, Nat.le_refl, implies_true, Nat.lt_irrefl, and_self_left, win1, nI_le_s1, Nat.zero_le, up_s, up_o, Nat.zero_add, m64_0, m64_1, m64_2, m64_3, m64_7, m64_8, m64_9, m64_10, m64_13, m64_20, m64_27, m64_60, hM2]
        exact k1
      rintro z hz3
      cases z with
      | inl r => exact ok_some (by rw [hz3.1]; symm; rw [decide_eq_false_iff_not]; exact hz3.2)
      | inr r =>
        refine ok_some ?_
        symm
        rw [decide_eq_true_eq]
        by_cases q : 0 < hi
        · rcases b4 q with ⟨x, x1, x2, x3⟩ | ⟨c, c1, c2⟩ | ⟨k, k1, k2⟩
          · have : x < B 0 0 := by
              by_cases w : x < B 0 0
              · exact w
              · exact absurd (hz x (by omega) x1) x2
            omega
          · have := hz2 c c1; omega
          · have := hz3 k k1; omega
        · omega
theorem c_clear : Ok (f_X0_clear 2 h) (fun h' => BC h' BZ ∧ GF h h') := by
  unfold f_X0_clear
  rw [wp_bnd, wp_bnd, wp_bnd, wp_bnd, wp_bnd, wp_bnd, wp_bnd, wp_obd]
  refine (ok_up (K := fun h' => BC h' BZ ∧ GF h h') 8 (fun j z => z.1 = nI j ∧ GF h z.2 ∧ z.2 1 0 2 0 = nI 4 ∧ z.2 1 2 2 0 = nI 0 ∧ z.2 1 4 2 0 = nI 0 ∧ z.2 1 6 2 0 = nI 0 ∧ z.2 1 7 2 0 = nI 0 ∧ z.2 1 8 2 0 = nI 0 ∧ z.2 1 10 2 0 = nI 0 ∧ ∀ x, x < j → z.2 2 0 2 x = nI 0) (by omega) ?_ ?_ _ ⟨rfl, fun k j o i hh => by (try simp (disch := omega) only [up_s, up_o, and_self]), by (try simp (disch := omega) only [up_s, up_o, and_self]); rfl, by (try simp (disch := omega) only [up_s, up_o, and_self]); rfl, by (try simp (disch := omega) only [up_s, up_o, and_self]); rfl, by (try simp (disch := omega) only [up_s, up_o, and_self]); rfl, by (try simp (disch := omega) only [up_s, up_o, and_self]); rfl, by (try simp (disch := omega) only [up_s, up_o, and_self]); rfl, by (try simp (disch := omega) only [up_s, up_o, and_self]); rfl, fun x hx => by omega⟩).mono (fun a ha => wp_some.mpr ha)
  · rintro j ⟨x, z⟩ hj ⟨hx, k0, k1, k2, k3, k4, k5, k6, k7, k8⟩
    dsimp only at hx k0 k1 k2 k3 k4 k5 k6 k7 k8
    subst hx
    simp (disch := omega) only [wp_some, wp_obd, wp_ob2, wp_bnd, wp_gd, wp_ite, wp_true, wp_ff, ↓l_n1, ↓l_n2, ↓l_n3, ↓l_n4, ↓l_n10, ↓l_n20, l_0, l_1, l_2, l_3, l_4, l_5, l_6, l_7, l_8, l_9, l_10, l_13, l_14, l_15, l_16, l_20, l_21, l_24, l_27, l_28, l_30, l_31, l_32, l_35, l_36, l_39, l_40, l_41, l_43, l_44, l_45, l_46, l_47, l_48, l_49, l_56, l_57, l_59, l_60, l_79, l_97, l_122, l_160, l_237, l_255, l_320, l_999, l_1000, nI_add, pk_mul, nI_eq, nI_leI, nI_ltI, nI_clamp, inb_nI_iff, e_within, e_in32, e_asNumber, e_flag, decide_eq_true_eq, Sum.elim_inl, Sum.elim_inr, true_implies, not_true_eq_false, not_false_eq_true, false_implies, and_true, true_and, nI_nn, nn_nI, nn_nn, ↓reduceIte, if_true, if_false, Nat.le_refl, implies_true, Nat.lt_irrefl, and_self_left, win1, nI_le_s1, Nat.zero_le, up_s, up_o, Nat.zero_add, m64_0, m64_1, m64_2, m64_3, m64_7, m64_8, m64_9, m64_10, m64_13, m64_20, m64_27, m64_60, k1, k2, k3, k4, k5, k6, k7]
    refine ⟨fun e => by omega, fun _ => ⟨by omega, k0.tr (GF.up (by omega)), fun x hx => ?_⟩⟩
    by_cases e : x = j
    · subst e; (try simp (disch := omega) only [up_s, up_o, and_self])
    · (try simp (disch := omega) only [up_s, up_o, and_self]); exact k8 x (by omega)
  · rintro ⟨x, z⟩ ⟨hx, k0, k1, k2, k3, k4, k5, k6, k7, k8⟩
    dsimp only at hx k0 k1 k2 k3 k4 k5 k6 k7 k8
    subst hx
    simp (disch := omega) only [wp_some, wp_obd, wp_ob2, wp_bnd, wp_gd, wp_ite, wp_true, wp_ff, ↓l_n1, ↓l_n2, ↓l_n3, ↓l_n4, ↓l_n10, ↓l_n20, l_0, l_1, l_2, l_3, l_4, l_5, l_6, l_7, l_8, l_9, l_10, l_13, l_14, l_15, l_16, l_20, l_21, l_24, l_27, l_28, l_30, l_31, l_32, l_35, l_36, l_39, l_40, l_41, l_43, l_44, l_45, l_46, l_47, l_48, l_49, l_56, l_57, l_59, l_60, l_79, l_97, l_122, l_160, l_237, l_255, l_320, l_999, l_1000, nI_add, pk_mul, nI_eq, nI_leI, nI_ltI, nI_clamp, inb_nI_iff, e_within, e_in32, e_asNumber, e_flag, decide_eq_true_eq, Sum.elim_inl, Sum.elim_inr, true_implies, not_true_eq_false, not_false_eq_true, false_implies, and_true, true_and, nI_nn, nn_nI, nn_nn, ↓reduceIte, if_true, if_false, Nat.le_refl, implies_true, Nat.lt_irrefl, and_self_left, win1, nI_le_s1, Nat.zero_le, up_s, up_o, Nat.zero_add, m64_0, m64_1, m64_2, m64_3, m64_7, m64_8, m64_9, m64_10, m64_13, m64_20, m64_27, m64_60]
    refine ⟨⟨⟨k1, k2, k3, k4, k5, k6, k7, k8, fun i hi => ?_, fun i hi => ?_, fun i hi => ?_⟩, fun i hi => ?_⟩, k0⟩
    · simp [BZ] at hi
    · simp [BZ] at hi
    · simp [BZ] at hi
    · simp [BZ] at hi
theorem c_tell (hC : CT h t u) (hU : UB t u) : Ok (f_X8_tellAll h) (fun q => GF h q.2 ∧ ((∃ f, fin t (prs0 t u) = .inl f ∧ (1 ≤ f.1 ∧ f.1 ≤ 6) ∧ FTl q.2 f) ∨ (∃ n B hi, fin t (prs0 t u) = .inr (n, B) ∧ prs0 t u = .inr (n, B, hi) ∧ q.1 = nI n ∧ q.2 16 2 0 0 = nI 0 ∧ BC q.2 B ∧ PW B ∧ HI B hi ∧ hi ≤ B 0 0))) := by
  have hU1 := hU.1
  unfold f_X8_tellAll
  rw [wp_obd]
  refine c_clear.mono ?_
  rintro h1 ⟨a1, a2⟩
  rw [wp_bnd, wp_bnd, wp_bnd, wp_bnd, wp_bnd, wp_obd]
  have hG : GF h (up (up (up (up (up h1 16 2 0 0 0) 16 3 0 0 0) 16 4 0 0 0) 16 5 0 0 0) 16 8 0 0 0) := a2.tr ((GF.up (by omega)).tr ((GF.up (by omega)).tr ((GF.up (by omega)).tr ((GF.up (by omega)).tr (GF.up (by omega))))))
  refine (ok_up (K := fun e => GF h e.2 ∧ ((∃ f, prs0 t u = .inl f ∧ (1 ≤ f.1 ∧ f.1 ≤ 6) ∧ FTl e.2 f) ∨ (∃ n B hi, prs0 t u = .inr (n, B, hi) ∧ e.1 = nI n ∧ e.2 16 2 0 0 = nI 0 ∧ BC e.2 B ∧ PW B ∧ HI B hi))) 161 (fun j z => ∃ s B pt tt hi, z.1 = nI j ∧ GF h z.2 ∧ z.2 16 8 0 0 = nI s ∧ z.2 16 2 0 0 = nI 0 ∧ BC z.2 B ∧ FG z.2 pt tt ∧ PW B ∧ HI B hi ∧ 2 * j ≤ s ∧ s ≤ t ∧ prs t u (161 - j) j s B pt tt hi = prs0 t u) (by omega) ?_ ?_ _ ⟨0, BZ, false, false, 0, rfl, hG, by (try simp (disch := omega) only [up_s, up_o, and_self]); rfl, by (try simp (disch := omega) only [up_s, up_o, and_self]); rfl, ?_, ⟨by (try simp (disch := omega) only [up_s, up_o, and_self]); rfl, by (try simp (disch := omega) only [up_s, up_o, and_self]); rfl⟩, PW_Z, HI_Z, by omega, by omega, rfl⟩).mono ?_
  · rintro j ⟨x, z⟩ hj ⟨s, B, pt, tt, hi, hx, k1, k2, k3, k4, k5, k6, k7, k8, k9, k10⟩
    dsimp only at hx k1 k2 k3 k4 k5
    subst hx
    obtain ⟨m, hm⟩ : ∃ m, 161 - j = m + 1 := ⟨160 - j, by omega⟩
    rw [hm] at k10
    have hbb := tb_b (u := u) k9
    have haa := ta_b (u := u) k9
    refine ok_ite (fun e => absurd ((nI_leI (a := 320) (by omega) (by omega)).mp e) (by omega)) (fun _ => ok_ob2 ?_)
    refine (c_token (CT_gf hC k1) hU k9 k2).mono ?_
    rintro ⟨r, h9⟩ ⟨c1, c2, c3, c4⟩
    dsimp only at c1 c2 c3 c4
    have hT9 : TF z h9 := fun k j o i hh => c4 _ _ _ _ (by omega)
    have hG9 : GF h h9 := k1.tr hT9.g
    have hk4 : tkd t u s ≤ 4 := by
      unfold tkd; split
      · exact (kd_b _).2
      · omega
    by_cases q : bad t u s
    · obtain ⟨rfl, b2, b3⟩ := c2 q
      have q' : tkd t u s = 4 ∨ (tkd t u s = 2 ∧ 2 < tb t u s - ta t u s) := q
      have eR : prs0 t u = .inl (1, ta t u s) := by
        rw [← k10]
        show (if _ then _ else _) = _
        rw [if_pos q']
      exact ok_ite (fun e => by cases e) (fun _ => ok_some ⟨hG9, Or.inl ⟨(1, ta t u s), eR, (show 1 ≤ 1 ∧ 1 ≤ 6 by omega), b2, b3⟩⟩)
    · obtain ⟨rfl, b6, b8, b9, b2⟩ := c3 q
      have b2' : h9 16 2 0 0 = nI 0 := b2.trans k3
      have q' : ¬ (tkd t u s = 4 ∨ (tkd t u s = 2 ∧ 2 < tb t u s - ta t u s)) := q
      have hB9 := BC_tf k4 hT9
      have hF9 := FG_tf k5 hT9
      refine ok_ite (fun _ => ?_) (fun e => absurd rfl e)
      by_cases q0 : tkd t u s = 0
      · have eR : prs0 t u = .inr (j, B, hi) := by
          rw [← k10]
          show (if _ then _ else _) = _
          rw [if_neg q', if_pos q0]
        exact ok_ite (fun _ => ok_some ⟨hG9, Or.inr ⟨j, B, hi, eR, rfl, b2', hB9, k6, k7⟩⟩) (fun e => absurd (show h9 16 6 0 0 = 0 from by rw [b6, q0]; rfl) e)
      · refine ok_ite (fun e => absurd (nI_inj (b := 0) (by omega) (by omega) (b6.symm.trans e)) q0) (fun _ => ok_ob2 ?_)
        refine (c_line (CT_gf hC hG9) hU k9 b6 c1 b8 b2' hB9 hF9 k6 k7).mono ?_
        rintro ⟨r, h10⟩ ⟨d1, d2⟩
        have hG10 : GF h h10 := hG9.tr d1
        have hlt := hbb.2.2 q0
        rcases d2 with ⟨f, e1, e2, e3, e4⟩ | ⟨e, B', pt', tt', hi', e1, e2, e3, e4, e5, e6, e7, e8, e9, e10⟩
        · dsimp only at e3 e4
          subst e3
          have eR : prs0 t u = .inl f := by
            rw [← k10]
            show (if _ then _ else _) = _
            rw [if_neg q', if_neg q0, e1]
          exact ok_ite (fun e => by cases e) (fun _ => ok_some ⟨hG10, Or.inl ⟨f, eR, e2, e4⟩⟩)
        · dsimp only at e2 e3 e4 e5 e6
          subst e2
          refine ok_ite (fun _ => ok_bnd (ok_some ⟨e, B', pt', tt', hi', ?_, hG10, e6, e5, e3, e4, e9, e10, by omega, e8, ?_⟩)) (fun e => absurd rfl e)
          · exact nI_add j 1
          · have : 161 - (j + 1) = m := by omega
            rw [this, ← k10]
            symm
            show (if _ then _ else _) = _
            rw [if_neg q', if_neg q0, e1]
  · rintro ⟨x, z⟩ ⟨s, B, pt, tt, hi, hx, k1, k2, k3, k4, k5, k6, k7, k8, k9, k10⟩
    omega
  · exact BC_16 (BC_16 (BC_16 (BC_16 (BC_16 a1))))
  rintro ⟨x, z⟩ ⟨k1, k2⟩
  dsimp only at k1 k2
  rcases k2 with ⟨f, e1, e2, e3⟩ | ⟨n, B, hi, e1, e2, e3, e4, e5, e6⟩
  · refine ok_ite (fun e => ?_) (fun _ => ok_some ⟨k1, Or.inl ⟨f, by rw [e1]; rfl, e2, e3⟩⟩)
    exact absurd (e3.1.symm.trans e) (fun w => by
      have := nI_inj (b := 0) (by omega) (by omega) w
      omega)
  · refine ok_ite (fun _ => ok_obd ?_) (fun e => absurd e3 e)
    refine (c_has e4 e5 e6).mono ?_
    rintro r rfl
    by_cases q : hi ≤ B 0 0
    · refine ok_ite (fun _ => ok_some ⟨k1, Or.inr ⟨n, B, hi, by rw [e1, fin_r, if_pos q], e1, e2, e3, e4, e5, e6, q⟩⟩) (fun e => absurd (decide_eq_true q) e)
    · refine ok_ite (fun e => absurd (of_decide_eq_true e) q) (fun _ => ?_)
      unfold f_X8_refuse
      refine ok_ob2 (ok_bnd (ok_bnd (ok_some (ok_some ⟨k1.tr ((GF.up (by omega)).tr (GF.up (by omega))), Or.inl ⟨(6, t), by rw [e1, fin_r, if_neg q], (show 1 ≤ 6 ∧ 6 ≤ 6 by omega), FTl_mk z 6 t _ ?_⟩⟩))))
      exact (CT_gf hC k1).1
end Cl
