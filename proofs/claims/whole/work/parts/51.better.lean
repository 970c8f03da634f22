theorem ff_lo {p : Nat → Bool} {m M n : Nat} (h : ff p M = some n) (hm : n < m) (hM : m ≤ M) : ff p m = some n := by
  obtain ⟨a, b, c⟩ := ff_some.mp h
  exact ff_some.mpr ⟨hm, b, c⟩
theorem ff_hi {p : Nat → Bool} {m M n : Nat} (h : ff p M = some n) (hm : m ≤ n) : ff p m = none := by
  obtain ⟨a, b, c⟩ := ff_some.mp h
  exact ff_none.mpr (fun d hd => c d (by omega))
theorem ff_no {p : Nat → Bool} {m M : Nat} (h : ff p M = none) (hm : m ≤ M) : ff p m = none := ff_none.mpr (fun d hd => ff_none.mp h d (by omega))
/-- one hole dug anew: is it sooner -/
def bst (B : Bs) (x v : Nat) (st : Nat × Int32) : Nat × Int32 := if v = B 7 x then st else match srt (ub B 7 x v) st.1 with
  | some n => (n, nI (10 * x + v))
  | none => st
def inn (B : Bs) (x : Nat) (st : Nat × Int32) : Nat → Nat × Int32
  | 0 => st
  | j + 1 => bst B x (j + 1) (inn B x st j)
def oux (B : Bs) (st : Nat × Int32) : Nat → Nat × Int32
  | 0 => st
  | x + 1 => inn B x (oux B st x) 9
def bok (st : Nat × Int32) : Prop := st.1 ≤ 41 ∧ (st.2 = nn 4 ∨ st.1 < 41)
theorem bok_bst {B : Bs} {x v : Nat} {st : Nat × Int32} (h : bok st) : bok (bst B x v st) := by
  unfold bst
  split
  · exact h
  · cases e : srt (ub B 7 x v) st.1 with
    | none => exact h
    | some n => have := srt_lt e; have := h.1; exact ⟨by show n ≤ 41; omega, Or.inr (by show n < 41; omega)⟩
theorem bok_inn {B : Bs} {x : Nat} {st : Nat × Int32} (h : bok st) : ∀ j, bok (inn B x st j)
  | 0 => h
  | j + 1 => bok_bst (bok_inn h j)
theorem bok_oux {B : Bs} {st : Nat × Int32} (h : bok st) : ∀ j, bok (oux B st j)
  | 0 => h
  | j + 1 => bok_inn (bok_oux h j) 9
/-- the reference's word for how soon -/
def rs (m : Nat) : Int32 := if m = 41 then nn 4 else nI m
theorem rs_41 : rs 41 = nn 4 := rfl
theorem rs_n {m : Nat} (h : m < 41) : rs m = nI m := by unfold rs; rw [if_neg (by omega)]
section Tri
variable {h g : Mem} {B T : Bs} {o S : Nat}
theorem c_withHole (hK : KN h B T) (hW : WN B T) {x v m : Nat} (hx : x < 8) (hv : v ≤ 9) (hm : m ≤ 41) : Ok (f_X9_stepsWithHole (nI x) (nI v) (nI m - nI 1) h) (fun q => q.1 = on (-4) (srt (ub B 7 x v) m) ∧ FrO h q.2 1) := by
  unfold f_X9_stepsWithHole
  simp (disch := omega) only [wp_some, wp_obd, wp_ob2, wp_bnd, wp_gd, wp_ite, wp_true, wp_ff, ↓l_n1, ↓l_n2, ↓l_n3, ↓l_n4, ↓l_n10, ↓l_n20, l_0, l_1, l_2, l_3, l_4, l_5, l_6, l_7, l_8, l_9, l_10, l_13, l_14, l_15, l_16, l_20, l_21, l_24, l_27, l_28, l_30, l_31, l_32, l_35, l_36, l_39, l_40, l_41, l_43, l_44, l_45, l_46, l_47, l_48, l_49, l_56, l_57, l_59, l_60, l_79, l_97, l_122, l_160, l_237, l_255, l_320, l_999, l_1000, nI_add, pk_mul, nI_eq, nI_leI, nI_ltI, nI_clamp, inb_nI_iff, e_within, e_in32, e_asNumber, e_flag, decide_eq_true_eq, Sum.elim_inl, Sum.elim_inr, true_implies, not_true_eq_false, not_false_eq_true, false_implies, and_true, true_and, nI_nn, nn_nI, nn_nn, ↓reduceIte, if_true, if_false, Nat.le_refl, implies_true, Nat.lt_irrefl, and_self_left, win1, nI_le_s1, Nat.zero_le, up_s, up_o, Nat.zero_add, m64_0, m64_1, m64_2, m64_3, m64_7, m64_8, m64_9, m64_10, m64_13, m64_20, m64_27, m64_60]
  refine (t_copy hK hW).mono ?_
  rintro h1 ⟨a1, a2, a3⟩
  refine ⟨by omega, ?_⟩
  refine (c_sorted (CB_7 a1) (HL_up a2 (by decide) (ub_n (by decide)) (ub_n (by decide)) (fun c _ => ub_n (by decide))) (WF_7 hW.1 hv) hm (by omega)).mono ?_
  rintro ⟨r, h2⟩ ⟨b1, b2⟩
  dsimp only at b1 b2
  refine ⟨?_, a3.tr ((FrO.up (by decide)).tr b2)⟩
  first | exact b1 | (rw [b1]; rfl)
theorem o_better (p : Int32) (hR : RI h) : Ok (f_X9_better p h) (fun q => Ok (f_X10_better p q.2) (fun r => q.1 = r.1 ∧ RI r.2)) := by
  have hR0 := hR
  obtain ⟨B, T, hK, hN, hW, hRs⟩ := hR
  obtain ⟨hM0, hM1, hM2, hM3, hM4, hM5, hM6, hM7, hM8, hM9, hM10⟩ := hK.1
  obtain ⟨⟨⟨s0, s1, s2, s3, s4, s5, s6⟩, n0, n2⟩, hT⟩ := id hN
  have w0 := hW.1.1
  have w1 := hW.1.2.1
  have w2 := hW.1.2.2.1
  by_cases hp : nI 0 ≤ p ∧ p ≤ nI 1
  · obtain ⟨m0, hm0, hm0'⟩ : ∃ m0, m0 ≤ 41 ∧ ((srt B 41 = none ∧ m0 = 41) ∨ (srt B 41 = some m0 ∧ m0 < 41)) := by
      cases e : srt B 41 with
      | none => exact ⟨41, by omega, Or.inl ⟨rfl, rfl⟩⟩
      | some n => exact ⟨n, by have := srt_lt e; omega, Or.inr ⟨rfl, srt_lt e⟩⟩
    have hb0 : bok (m0, nn 4) := ⟨hm0, Or.inl rfl⟩
    have hbo := fun x => bok_oux (B := B) hb0 x
    have hbi := fun x j => bok_inn (B := B) (x := x) (hbo x) j
    refine comb (v := if (oux B (m0, nn 4) (B 0 0)).2 = nn 4 then nn 4 else if p = nI 0 then (oux B (m0, nn 4) (B 0 0)).2 else nI (oux B (m0, nn 4) (B 0 0)).1) hR0 hN hW ?_ (fun g hg => ?_)
    · unfold f_X9_better
      simp (disch := omega) only [wp_some, wp_obd, wp_ob2, wp_bnd, wp_gd, wp_ite, wp_true, wp_ff, ↓l_n1, ↓l_n2, ↓l_n3, ↓l_n4, ↓l_n10, ↓l_n20, l_0, l_1, l_2, l_3, l_4, l_5, l_6, l_7, l_8, l_9, l_10, l_13, l_14, l_15, l_16, l_20, l_21, l_24, l_27, l_28, l_30, l_31, l_32, l_35, l_36, l_39, l_40, l_41, l_43, l_44, l_45, l_46, l_47, l_48, l_49, l_56, l_57, l_59, l_60, l_79, l_97, l_122, l_160, l_237, l_255, l_320, l_999, l_1000, nI_add, pk_mul, nI_eq, nI_leI, nI_ltI, nI_clamp, inb_nI_iff, e_within, e_in32, e_asNumber, e_flag, decide_eq_true_eq, Sum.elim_inl, Sum.elim_inr, true_implies, not_true_eq_false, not_false_eq_true, false_implies, and_true, true_and, nI_nn, nn_nI, nn_nn, ↓reduceIte, if_true, if_false, Nat.le_refl, implies_true, Nat.lt_irrefl, and_self_left, win1, nI_le_s1, Nat.zero_le, up_s, up_o, Nat.zero_add, m64_0, m64_1, m64_2, m64_3, m64_7, m64_8, m64_9, m64_10, m64_13, m64_20, m64_27, m64_60, hp]
      refine (t_copy hK hW).mono ?_
      rintro h1 ⟨a1, a2, a3⟩
      refine (c_sorted40 a1 a2 hW.1 (by omega)).mono ?_
      rintro ⟨r, h2⟩ ⟨b1, b2⟩
      dsimp only at b1 b2
      subst b1
      have key : Ok (lp fu (fun a66 => (if (a66.2.2.2 1 0 0 0) ≤ a66.2.2.1 then some (.inr (a66.1, a66.2.1, a66.2.2.2)) else obd (lp fu (fun a85 => (if nI 9 < a85.2.2.1 then some (.inr (a85.1, a85.2.1, a85.2.2.2)) else gd (inb a66.2.2.1 8) (obd ((if a85.2.2.1 = (a85.2.2.2 2 0 0 a66.2.2.1.toNatClampNeg) then some (nn 4, a85.2.2.2) else ob2 (f_X9_stepsWithHole a66.2.2.1 a85.2.2.1 (a85.1 - nI 1) a85.2.2.2) (fun r88 h89 => some (r88, h89)))) (fun a90 => (if a90.1 = nn 4 then bnd (a85.2.2.1 + nI 1) (fun x91 => some (.inl (a85.1, a85.2.1, x91, a90.2))) else bnd ((nI 10 * a66.2.2.1) + a85.2.2.1) (fun x92 => bnd (a85.2.2.1 + nI 1) (fun x93 => some (.inl (a90.1, x92, x93, a90.2))))))))) (a66.1, a66.2.1, nI 1, a66.2.2.2)) (fun e94 => bnd (a66.2.2.1 + nI 1) (fun x95 => some (.inl (e94.1, e94.2.1, x95, e94.2.2)))))) (nI m0, nn 4, nI 0, h2)) (fun e => e.1 = nI (oux B (m0, nn 4) (B 0 0)).1 ∧ e.2.1 = (oux B (m0, nn 4) (B 0 0)).2 ∧ FrO h e.2.2 1) := by
        refine ok_up (B 0 0) (fun x z => z.1 = nI (oux B (m0, nn 4) x).1 ∧ z.2.1 = (oux B (m0, nn 4) x).2 ∧ z.2.2.1 = nI x ∧ FrO h z.2.2.2 1) (by omega) ?_ ?_ _ ⟨rfl, rfl, rfl, a3.tr b2⟩
        · rintro x ⟨v1, v2, v3, z⟩ hx ⟨e1, e2, e3, hF⟩
          dsimp only at e1 e2 e3 hF
          subst e1 e2 e3
          have f0 : z 1 0 0 0 = nI (B 0 0) := (hF _ _ _ _ (by omega)).trans hM0
          simp (disch := omega) only [wp_some, wp_obd, wp_ob2, wp_bnd, wp_gd, wp_ite, wp_true, wp_ff, ↓l_n1, ↓l_n2, ↓l_n3, ↓l_n4, ↓l_n10, ↓l_n20, l_0, l_1, l_2, l_3, l_4, l_5, l_6, l_7, l_8, l_9, l_10, l_13, l_14, l_15, l_16, l_20, l_21, l_24, l_27, l_28, l_30, l_31, l_32, l_35, l_36, l_39, l_40, l_41, l_43, l_44, l_45, l_46, l_47, l_48, l_49, l_56, l_57, l_59, l_60, l_79, l_97, l_122, l_160, l_237, l_255, l_320, l_999, l_1000, nI_add, pk_mul, nI_eq, nI_leI, nI_ltI, nI_clamp, inb_nI_iff, e_within, e_in32, e_asNumber, e_flag, decide_eq_true_eq, Sum.elim_inl, Sum.elim_inr, true_implies, not_true_eq_false, not_false_eq_true, false_implies, and_true, true_and, nI_nn, nn_nI, nn_nn, ↓reduceIte, if_true, if_false, Nat.le_refl, implies_true, Nat.lt_irrefl, and_self_left, win1, nI_le_s1, Nat.zero_le, up_s, up_o, Nat.zero_add, m64_0, m64_1, m64_2, m64_3, m64_7, m64_8, m64_9, m64_10, m64_13, m64_20, m64_27, m64_60, f0]
          refine ⟨fun e => by omega, fun _ => ?_⟩
          refine (ok_up (K := fun e => e.1 = nI (inn B x (oux B (m0, nn 4) x) 9).1 ∧ e.2.1 = (inn B x (oux B (m0, nn 4) x) 9).2 ∧ FrO h e.2.2 1) 9 (fun j y => y.1 = nI (inn B x (oux B (m0, nn 4) x) j).1 ∧ y.2.1 = (inn B x (oux B (m0, nn 4) x) j).2 ∧ y.2.2.1 = nI (j + 1) ∧ FrO h y.2.2.2 1) (by omega) ?_ ?_ _ ⟨rfl, rfl, rfl, hF⟩).mono ?_
          · rintro j ⟨u1, u2, u3, y⟩ hj ⟨e1, e2, e3, hF2⟩
            dsimp only at e1 e2 e3 hF2
            subst e1 e2 e3
            have f7 : y 2 0 0 x = nI (B 7 x) := (hF2 _ _ _ _ (by omega)).trans (hM7 x (by omega))
            have w7 := hW.1.2.2.2.2.2.2.2.1 x (by omega)
            have hb := hbi x j
            have hst : inn B x (oux B (m0, nn 4) x) (j + 1) = bst B x (j + 1) (inn B x (oux B (m0, nn 4) x) j) := rfl
            generalize inn B x (oux B (m0, nn 4) x) j = st at hb hst
            have hb1 := hb.1
            by_cases hq : j + 1 = B 7 x
            · have e5 : bst B x (j + 1) st = st := by unfold bst; rw [if_pos hq]
              rw [hst, e5]
              rw [← hq] at f7
              simp (disch := omega) only [wp_some, wp_obd, wp_ob2, wp_bnd, wp_gd, wp_ite, wp_true, wp_ff, ↓l_n1, ↓l_n2, ↓l_n3, ↓l_n4, ↓l_n10, ↓l_n20, l_0, l_1, l_2, l_3, l_4, l_5, l_6, l_7, l_8, l_9, l_10, l_13, l_14, l_15, l_16, l_20, l_21, l_24, l_27, l_28, l_30, l_31, l_32, l_35, l_36, l_39, l_40, l_41, l_43, l_44, l_45, l_46, l_47, l_48, l_49, l_56, l_57, l_59, l_60, l_79, l_97, l_122, l_160, l_237, l_255, l_320, l_999, l_1000, nI_add, pk_mul, nI_eq, nI_leI, nI_ltI, nI_clamp, inb_nI_iff, e_within, e_in32, e_asNumber, e_flag, decide_eq_true_eq, Sum.elim_inl, Sum.elim_inr, true_implies, not_true_eq_false, not_false_eq_true, false_implies, and_true, true_and, nI_nn, nn_nI, nn_nn, ↓reduceIte, if_true, if_false, Nat.le_refl, implies_true, Nat.lt_irrefl, and_self_left, win1, nI_le_s1, Nat.zero_le, up_s, up_o, Nat.zero_add, m64_0, m64_1, m64_2, m64_3, m64_7, m64_8, m64_9, m64_10, m64_13, m64_20, m64_27, m64_60, f7]
              exact ⟨fun e => by omega, fun _ => ⟨by omega, hF2⟩⟩
            · have e5 : bst B x (j + 1) st = match srt (ub B 7 x (j + 1)) st.1 with
                | some n => (n, nI (10 * x + (j + 1)))
                | none => st := by unfold bst; rw [if_neg hq]
              rw [hst, e5]
              simp (disch := omega) only [wp_some, wp_obd, wp_ob2, wp_bnd, wp_gd, wp_ite, wp_true, wp_ff, ↓l_n1, ↓l_n2, ↓l_n3, ↓l_n4, ↓l_n10, ↓l_n20, l_0, l_1, l_2, l_3, l_4, l_5, l_6, l_7, l_8, l_9, l_10, l_13, l_14, l_15, l_16, l_20, l_21, l_24, l_27, l_28, l_30, l_31, l_32, l_35, l_36, l_39, l_40, l_41, l_43, l_44, l_45, l_46, l_47, l_48, l_49, l_56, l_57, l_59, l_60, l_79, l_97, l_122, l_160, l_237, l_255, l_320, l_999, l_1000, nI_add, pk_mul, nI_eq, nI_leI, nI_ltI, nI_clamp, inb_nI_iff, e_within, e_in32, e_asNumber, e_flag, decide_eq_true_eq, Sum.elim_inl, Sum.elim_inr, true_implies, not_true_eq_false, not_false_eq_true, false_implies, and_true, true_and, nI_nn, nn_nI, nn_nn, ↓reduceIte, if_true, if_false, Nat.le_refl, implies_true, Nat.lt_irrefl, and_self_left, win1, nI_le_s1, Nat.zero_le, up_s, up_o, Nat.zero_add, m64_0, m64_1, m64_2, m64_3, m64_7, m64_8, m64_9, m64_10, m64_13, m64_20, m64_27, m64_60, f7, hq]
              refine ⟨fun e => by omega, fun _ => ⟨by omega, ?_⟩⟩
              refine (c_withHole (KN_o hK hF2) hW (by omega) (by omega) hb1).mono ?_
              rintro ⟨r, h3⟩ ⟨c1, c2⟩
              dsimp only at c1 c2
              subst c1
              have hF3 := hF2.tr c2
              cases hs : srt (ub B 7 x (j + 1)) st.1 with
              | none =>
                simp (disch := omega) only [wp_some, wp_obd, wp_ob2, wp_bnd, wp_gd, wp_ite, wp_true, wp_ff, ↓l_n1, ↓l_n2, ↓l_n3, ↓l_n4, ↓l_n10, ↓l_n20, l_0, l_1, l_2, l_3, l_4, l_5, l_6, l_7, l_8, l_9, l_10, l_13, l_14, l_15, l_16, l_20, l_21, l_24, l_27, l_28, l_30, l_31, l_32, l_35, l_36, l_39, l_40, l_41, l_43, l_44, l_45, l_46, l_47, l_48, l_49, l_56, l_57, l_59, l_60, l_79, l_97, l_122, l_160, l_237, l_255, l_320, l_999, l_1000, nI_add, pk_mul, nI_eq, nI_leI, nI_ltI, nI_clamp, inb_nI_iff, e_within, e_in32, e_asNumber, e_flag, decide_eq_true_eq, Sum.elim_inl, Sum.elim_inr, true_implies, not_true_eq_false, not_false_eq_true, false_implies, and_true, true_and, nI_nn, nn_nI, nn_nn, ↓reduceIte, if_true, if_false, Nat.le_refl, implies_true, Nat.lt_irrefl, and_self_left, win1, nI_le_s1, Nat.zero_le, up_s, up_o, Nat.zero_add, m64_0, m64_1, m64_2, m64_3, m64_7, m64_8, m64_9, m64_10, m64_13, m64_20, m64_27, m64_60, on_none]
                exact hF3
              | some n =>
                have := srt_lt hs
                simp (disch := omega) only [wp_some, wp_obd, wp_ob2, wp_bnd, wp_gd, wp_ite, wp_true, wp_ff, ↓l_n1, ↓l_n2, ↓l_n3, ↓l_n4, ↓l_n10, ↓l_n20, l_0, l_1, l_2, l_3, l_4, l_5, l_6, l_7, l_8, l_9, l_10, l_13, l_14, l_15, l_16, l_20, l_21, l_24, l_27, l_28, l_30, l_31, l_32, l_35, l_36, l_39, l_40, l_41, l_43, l_44, l_45, l_46, l_47, l_48, l_49, l_56, l_57, l_59, l_60, l_79, l_97, l_122, l_160, l_237, l_255, l_320, l_999, l_1000, nI_add, pk_mul, nI_eq, nI_leI, nI_ltI, nI_clamp, inb_nI_iff, e_within, e_in32, e_asNumber, e_flag, decide_eq_true_eq, Sum.elim_inl, Sum.elim_inr, true_implies, not_true_eq_false, not_false_eq_true, false_implies, and_true, true_and, nI_nn, nn_nI, nn_nn, ↓reduceIte, if_true, if_false, Nat.le_refl, implies_true, Nat.lt_irrefl, and_self_left, win1, nI_le_s1, Nat.zero_le, up_s, up_o, Nat.zero_add, m64_0, m64_1, m64_2, m64_3, m64_7, m64_8, m64_9, m64_10, m64_13, m64_20, m64_27, m64_60, on_sm]
                exact hF3
          · rintro ⟨u1, u2, u3, y⟩ ⟨e1, e2, e3, hF2⟩
            dsimp only at e1 e2 e3 hF2
            subst e1 e2 e3
            simp (disch := omega) only [wp_some, wp_obd, wp_ob2, wp_bnd, wp_gd, wp_ite, wp_true, wp_ff, ↓l_n1, ↓l_n2, ↓l_n3, ↓l_n4, ↓l_n10, ↓l_n20, l_0, l_1, l_2, l_3, l_4, l_5, l_6, l_7, l_8, l_9, l_10, l_13, l_14, l_15, l_16, l_20, l_21, l_24, l_27, l_28, l_30, l_31, l_32, l_35, l_36, l_39, l_40, l_41, l_43, l_44, l_45, l_46, l_47, l_48, l_49, l_56, l_57, l_59, l_60, l_79, l_97, l_122, l_160, l_237, l_255, l_320, l_999, l_1000, nI_add, pk_mul, nI_eq, nI_leI, nI_ltI, nI_clamp, inb_nI_iff, e_within, e_in32, e_asNumber, e_flag, decide_eq_true_eq, Sum.elim_inl, Sum.elim_inr, true_implies, not_true_eq_false, not_false_eq_true, false_implies, and_true, true_and, nI_nn, nn_nI, nn_nn, ↓reduceIte, if_true, if_false, Nat.le_refl, implies_true, Nat.lt_irrefl, and_self_left, win1, nI_le_s1, Nat.zero_le, up_s, up_o, Nat.zero_add, m64_0, m64_1, m64_2, m64_3, m64_7, m64_8, m64_9, m64_10, m64_13, m64_20, m64_27, m64_60]
            exact ⟨fun _ => hF2, fun e => by omega⟩
          rintro ⟨u1, u2, y⟩ ⟨e1, e2, hF2⟩
          exact ⟨e1, e2, hF2⟩
        · rintro ⟨v1, v2, v3, z⟩ ⟨e1, e2, e3, hF⟩
          dsimp only at e1 e2 e3 hF
          subst e1 e2 e3
          have f0 : z 1 0 0 0 = nI (B 0 0) := (hF _ _ _ _ (by omega)).trans hM0
          simp (disch := omega) only [wp_some, wp_obd, wp_ob2, wp_bnd, wp_gd, wp_ite, wp_true, wp_ff, ↓l_n1, ↓l_n2, ↓l_n3, ↓l_n4, ↓l_n10, ↓l_n20, l_0, l_1, l_2, l_3, l_4, l_5, l_6, l_7, l_8, l_9, l_10, l_13, l_14, l_15, l_16, l_20, l_21, l_24, l_27, l_28, l_30, l_31, l_32, l_35, l_36, l_39, l_40, l_41, l_43, l_44, l_45, l_46, l_47, l_48, l_49, l_56, l_57, l_59, l_60, l_79, l_97, l_122, l_160, l_237, l_255, l_320, l_999, l_1000, nI_add, pk_mul, nI_eq, nI_leI, nI_ltI, nI_clamp, inb_nI_iff, e_within, e_in32, e_asNumber, e_flag, decide_eq_true_eq, Sum.elim_inl, Sum.elim_inr, true_implies, not_true_eq_false, not_false_eq_true, false_implies, and_true, true_and, nI_nn, nn_nI, nn_nn, ↓reduceIte, if_true, if_false, Nat.le_refl, implies_true, Nat.lt_irrefl, and_self_left, win1, nI_le_s1, Nat.zero_le, up_s, up_o, Nat.zero_add, m64_0, m64_1, m64_2, m64_3, m64_7, m64_8, m64_9, m64_10, m64_13, m64_20, m64_27, m64_60, f0]
          exact hF
      rcases hm0' with ⟨hs, rfl⟩ | ⟨hs, hlt⟩
      · rw [hs]
        simp (disch := omega) only [wp_some, wp_obd, wp_ob2, wp_bnd, wp_gd, wp_ite, wp_true, wp_ff, ↓l_n1, ↓l_n2, ↓l_n3, ↓l_n4, ↓l_n10, ↓l_n20, l_0, l_1, l_2, l_3, l_4, l_5, l_6, l_7, l_8, l_9, l_10, l_13, l_14, l_15, l_16, l_20, l_21, l_24, l_27, l_28, l_30, l_31, l_32, l_35, l_36, l_39, l_40, l_41, l_43, l_44, l_45, l_46, l_47, l_48, l_49, l_56, l_57, l_59, l_60, l_79, l_97, l_122, l_160, l_237, l_255, l_320, l_999, l_1000, nI_add, pk_mul, nI_eq, nI_leI, nI_ltI, nI_clamp, inb_nI_iff, e_within, e_in32, e_asNumber, e_flag, decide_eq_true_eq, Sum.elim_inl, Sum.elim_inr, true_implies, not_true_eq_false, not_false_eq_true, false_implies, and_true, true_and, nI_nn, nn_nI, nn_nn, ↓reduceIte, if_true, if_false, Nat.le_refl, implies_true, Nat.lt_irrefl, and_self_left, win1, nI_le_s1, Nat.zero_le, up_s, up_o, Nat.zero_add, m64_0, m64_1, m64_2, m64_3, m64_7, m64_8, m64_9, m64_10, m64_13, m64_20, m64_27, m64_60, on_none]
        refine key.mono ?_
        rintro ⟨u1, u2, y⟩ ⟨e1, e2, hF2⟩
        dsimp only at e1 e2 hF2 ⊢
        subst e1 e2
        have hF3 := hF2.fra (Or.inl rfl)
        refine ⟨fun q => ⟨by rw [if_pos q, q], hF3⟩, fun q => ?_⟩
        rw [if_neg q]
        by_cases q2 : p = nI 0
        · rw [if_pos q2]; exact ok_ite (fun _ => wp_some.mpr ⟨rfl, hF3⟩) (fun e => absurd q2 e)
        · rw [if_neg q2]; exact ok_ite (fun e => absurd e q2) (fun _ => wp_some.mpr ⟨rfl, hF3⟩)
      · rw [hs]
        simp (disch := omega) only [wp_some, wp_obd, wp_ob2, wp_bnd, wp_gd, wp_ite, wp_true, wp_ff, ↓l_n1, ↓l_n2, ↓l_n3, ↓l_n4, ↓l_n10, ↓l_n20, l_0, l_1, l_2, l_3, l_4, l_5, l_6, l_7, l_8, l_9, l_10, l_13, l_14, l_15, l_16, l_20, l_21, l_24, l_27, l_28, l_30, l_31, l_32, l_35, l_36, l_39, l_40, l_41, l_43, l_44, l_45, l_46, l_47, l_48, l_49, l_56, l_57, l_59, l_60, l_79, l_97, l_122, l_160, l_237, l_255, l_320, l_999, l_1000, nI_add, pk_mul, nI_eq, nI_leI, nI_ltI, nI_clamp, inb_nI_iff, e_within, e_in32, e_asNumber, e_flag, decide_eq_true_eq, Sum.elim_inl, Sum.elim_inr, true_implies, not_true_eq_false, not_false_eq_true, false_implies, and_true, true_and, nI_nn, nn_nI, nn_nn, ↓reduceIte, if_true, if_false, Nat.le_refl, implies_true, Nat.lt_irrefl, and_self_left, win1, nI_le_s1, Nat.zero_le, up_s, up_o, Nat.zero_add, m64_0, m64_1, m64_2, m64_3, m64_7, m64_8, m64_9, m64_10, m64_13, m64_20, m64_27, m64_60, on_sm]
        refine key.mono ?_
        rintro ⟨u1, u2, y⟩ ⟨e1, e2, hF2⟩
        dsimp only at e1 e2 hF2 ⊢
        subst e1 e2
        have hF3 := hF2.fra (Or.inl rfl)
        refine ⟨fun q => ⟨by rw [if_pos q, q], hF3⟩, fun q => ?_⟩
        rw [if_neg q]
        by_cases q2 : p = nI 0
        · rw [if_pos q2]; exact ok_ite (fun _ => wp_some.mpr ⟨rfl, hF3⟩) (fun e => absurd q2 e)
        · rw [if_neg q2]; exact ok_ite (fun e => absurd e q2) (fun _ => wp_some.mpr ⟨rfl, hF3⟩)
    · unfold f_X10_better
      simp (disch := omega) only [wp_some, wp_obd, wp_ob2, wp_bnd, wp_gd, wp_ite, wp_true, wp_ff, ↓l_n1, ↓l_n2, ↓l_n3, ↓l_n4, ↓l_n10, ↓l_n20, l_0, l_1, l_2, l_3, l_4, l_5, l_6, l_7, l_8, l_9, l_10, l_13, l_14, l_15, l_16, l_20, l_21, l_24, l_27, l_28, l_30, l_31, l_32, l_35, l_36, l_39, l_40, l_41, l_43, l_44, l_45, l_46, l_47, l_48, l_49, l_56, l_57, l_59, l_60, l_79, l_97, l_122, l_160, l_237, l_255, l_320, l_999, l_1000, nI_add, pk_mul, nI_eq, nI_leI, nI_ltI, nI_clamp, inb_nI_iff, e_within, e_in32, e_asNumber, e_flag, decide_eq_true_eq, Sum.elim_inl, Sum.elim_inr, true_implies, not_true_eq_false, not_false_eq_true, false_implies, and_true, true_and, nI_nn, nn_nI, nn_nn, ↓reduceIte, if_true, if_false, Nat.le_refl, implies_true, Nat.lt_irrefl, and_self_left, win1, nI_le_s1, Nat.zero_le, up_s, up_o, Nat.zero_add, m64_0, m64_1, m64_2, m64_3, m64_7, m64_8, m64_9, m64_10, m64_13, m64_20, m64_27, m64_60, hp]
      refine (t_starts hg hW).mono ?_
      rintro h1 ⟨a1, a2⟩
      refine (m_sorted a1 hW.1 (by omega)).mono ?_
      rintro ⟨r, h2⟩ ⟨b1, b2⟩
      dsimp only at b1 b2
      have hr : r = rs m0 := by
        rcases hm0' with ⟨hs, rfl⟩ | ⟨hs, hlt⟩
        · rw [b1, hs]; rfl
        · rw [b1, hs, rs_n hlt]; rfl
      subst hr
      refine (ok_up (K := fun e => e.1 = rs (oux B (m0, nn 4) (B 0 0)).1 ∧ e.2.1 = (oux B (m0, nn 4) (B 0 0)).2 ∧ FrM g e.2.2) (B 0 0) (fun x z => z.1 = rs (oux B (m0, nn 4) x).1 ∧ z.2.1 = (oux B (m0, nn 4) x).2 ∧ z.2.2.1 = nI x ∧ FrM g z.2.2.2) (by omega) ?_ ?_ _ ⟨rfl, rfl, rfl, a2.tr b2⟩).mono ?_
      · rintro x ⟨v1, v2, v3, z⟩ hx ⟨e1, e2, e3, hF⟩
        dsimp only at e1 e2 e3 hF
        subst e1 e2 e3
        have f0 : z 24 2 0 0 = nI (B 0 0) := (hF _ _ _ _ (by omega)).trans hg.1.2.1
        simp (disch := omega) only [wp_some, wp_obd, wp_ob2, wp_bnd, wp_gd, wp_ite, wp_true, wp_ff, ↓l_n1, ↓l_n2, ↓l_n3, ↓l_n4, ↓l_n10, ↓l_n20, l_0, l_1, l_2, l_3, l_4, l_5, l_6, l_7, l_8, l_9, l_10, l_13, l_14, l_15, l_16, l_20, l_21, l_24, l_27, l_28, l_30, l_31, l_32, l_35, l_36, l_39, l_40, l_41, l_43, l_44, l_45, l_46, l_47, l_48, l_49, l_56, l_57, l_59, l_60, l_79, l_97, l_122, l_160, l_237, l_255, l_320, l_999, l_1000, nI_add, pk_mul, nI_eq, nI_leI, nI_ltI, nI_clamp, inb_nI_iff, e_within, e_in32, e_asNumber, e_flag, decide_eq_true_eq, Sum.elim_inl, Sum.elim_inr, true_implies, not_true_eq_false, not_false_eq_true, false_implies, and_true, true_and, nI_nn, nn_nI, nn_nn, ↓reduceIte, if_true, if_false, Nat.le_refl, implies_true, Nat.lt_irrefl, and_self_left, win1, nI_le_s1, Nat.zero_le, up_s, up_o, Nat.zero_add, m64_0, m64_1, m64_2, m64_3, m64_7, m64_8, m64_9, m64_10, m64_13, m64_20, m64_27, m64_60, f0]
        refine ⟨fun e => by omega, fun _ => ?_⟩
        refine (ok_up (K := fun e => e.1 = rs (inn B x (oux B (m0, nn 4) x) 9).1 ∧ e.2.1 = (inn B x (oux B (m0, nn 4) x) 9).2 ∧ FrM g e.2.2) 9 (fun j y => y.1 = rs (inn B x (oux B (m0, nn 4) x) j).1 ∧ y.2.1 = (inn B x (oux B (m0, nn 4) x) j).2 ∧ y.2.2.1 = nI (j + 1) ∧ FrM g y.2.2.2) (by omega) ?_ ?_ _ ⟨rfl, rfl, rfl, hF⟩).mono ?_
        · rintro j ⟨u1, u2, u3, y⟩ hj ⟨e1, e2, e3, hF2⟩
          dsimp only at e1 e2 e3 hF2
          subst e1 e2 e3
          have w7 := hW.1.2.2.2.2.2.2.2.1 x (by omega)
          have hb := hbi x j
          have hst : inn B x (oux B (m0, nn 4) x) (j + 1) = bst B x (j + 1) (inn B x (oux B (m0, nn 4) x) j) := rfl
          generalize inn B x (oux B (m0, nn 4) x) j = st at hb hst
          have hb1 := hb.1
          simp (disch := omega) only [wp_some, wp_obd, wp_ob2, wp_bnd, wp_gd, wp_ite, wp_true, wp_ff, ↓l_n1, ↓l_n2, ↓l_n3, ↓l_n4, ↓l_n10, ↓l_n20, l_0, l_1, l_2, l_3, l_4, l_5, l_6, l_7, l_8, l_9, l_10, l_13, l_14, l_15, l_16, l_20, l_21, l_24, l_27, l_28, l_30, l_31, l_32, l_35, l_36, l_39, l_40, l_41, l_43, l_44, l_45, l_46, l_47, l_48, l_49, l_56, l_57, l_59, l_60, l_79, l_97, l_122, l_160, l_237, l_255, l_320, l_999, l_1000, nI_add, pk_mul, nI_eq, nI_leI, nI_ltI, nI_clamp, inb_nI_iff, e_within, e_in32, e_asNumber, e_flag, decide_eq_true_eq, Sum.elim_inl, Sum.elim_inr, true_implies, not_true_eq_false, not_false_eq_true, false_implies, and_true, true_and, nI_nn, nn_nI, nn_nn, ↓reduceIte, if_true, if_false, Nat.le_refl, implies_true, Nat.lt_irrefl, and_self_left, win1, nI_le_s1, Nat.zero_le, up_s, up_o, Nat.zero_add, m64_0, m64_1, m64_2, m64_3, m64_7, m64_8, m64_9, m64_10, m64_13, m64_20, m64_27, m64_60]
          refine ⟨fun e => by omega, fun _ => ?_⟩
          refine (t_starts (RN_m hg hW hF2) hW).mono ?_
          rintro h3 ⟨c1, c2⟩
          have f7 : h3 29 0 0 x = nI (B 7 x) := c1.2.2.2.2.2.2.2.1 x (by omega)
          by_cases hq : j + 1 = B 7 x
          · have e5 : bst B x (j + 1) st = st := by unfold bst; rw [if_pos hq]
            rw [hst, e5]
            rw [← hq] at f7
            simp (disch := omega) only [wp_some, wp_obd, wp_ob2, wp_bnd, wp_gd, wp_ite, wp_true, wp_ff, ↓l_n1, ↓l_n2, ↓l_n3, ↓l_n4, ↓l_n10, ↓l_n20, l_0, l_1, l_2, l_3, l_4, l_5, l_6, l_7, l_8, l_9, l_10, l_13, l_14, l_15, l_16, l_20, l_21, l_24, l_27, l_28, l_30, l_31, l_32, l_35, l_36, l_39, l_40, l_41, l_43, l_44, l_45, l_46, l_47, l_48, l_49, l_56, l_57, l_59, l_60, l_79, l_97, l_122, l_160, l_237, l_255, l_320, l_999, l_1000, nI_add, pk_mul, nI_eq, nI_leI, nI_ltI, nI_clamp, inb_nI_iff, e_within, e_in32, e_asNumber, e_flag, decide_eq_true_eq, Sum.elim_inl, Sum.elim_inr, true_implies, not_true_eq_false, not_false_eq_true, false_implies, and_true, true_and, nI_nn, nn_nI, nn_nn, ↓reduceIte, if_true, if_false, Nat.le_refl, implies_true, Nat.lt_irrefl, and_self_left, win1, nI_le_s1, Nat.zero_le, up_s, up_o, Nat.zero_add, m64_0, m64_1, m64_2, m64_3, m64_7, m64_8, m64_9, m64_10, m64_13, m64_20, m64_27, m64_60, f7]
            exact ⟨by omega, hF2.tr c2⟩
          · have e5 : bst B x (j + 1) st = match srt (ub B 7 x (j + 1)) st.1 with
              | some n => (n, nI (10 * x + (j + 1)))
              | none => st := by unfold bst; rw [if_neg hq]
            rw [hst, e5]
            have hq2 : ¬ B 7 x = j + 1 := fun e => hq e.symm
            simp (disch := omega) only [wp_some, wp_obd, wp_ob2, wp_bnd, wp_gd, wp_ite, wp_true, wp_ff, ↓l_n1, ↓l_n2, ↓l_n3, ↓l_n4, ↓l_n10, ↓l_n20, l_0, l_1, l_2, l_3, l_4, l_5, l_6, l_7, l_8, l_9, l_10, l_13, l_14, l_15, l_16, l_20, l_21, l_24, l_27, l_28, l_30, l_31, l_32, l_35, l_36, l_39, l_40, l_41, l_43, l_44, l_45, l_46, l_47, l_48, l_49, l_56, l_57, l_59, l_60, l_79, l_97, l_122, l_160, l_237, l_255, l_320, l_999, l_1000, nI_add, pk_mul, nI_eq, nI_leI, nI_ltI, nI_clamp, inb_nI_iff, e_within, e_in32, e_asNumber, e_flag, decide_eq_true_eq, Sum.elim_inl, Sum.elim_inr, true_implies, not_true_eq_false, not_false_eq_true, false_implies, and_true, true_and, nI_nn, nn_nI, nn_nn, ↓reduceIte, if_true, if_false, Nat.le_refl, implies_true, Nat.lt_irrefl, and_self_left, win1, nI_le_s1, Nat.zero_le, up_s, up_o, Nat.zero_add, m64_0, m64_1, m64_2, m64_3, m64_7, m64_8, m64_9, m64_10, m64_13, m64_20, m64_27, m64_60, f7, hq2]
            refine ⟨by omega, ?_⟩
            refine (m_sorted (MT_29 c1) (WF_7 hW.1 (by omega)) (by omega)).mono ?_
            rintro ⟨r, h4⟩ ⟨d1, d2⟩
            dsimp only at d1 d2
            subst d1
            have hF3 : FrM g h4 := hF2.tr (c2.tr ((FrM.up (by decide)).tr d2))
            cases hs : srt (ub B 7 x (j + 1)) 41 with
            | none =>
              have hs2 : srt (ub B 7 x (j + 1)) st.1 = none := ff_no hs hb1
              simp (disch := omega) only [wp_some, wp_obd, wp_ob2, wp_bnd, wp_gd, wp_ite, wp_true, wp_ff, ↓l_n1, ↓l_n2, ↓l_n3, ↓l_n4, ↓l_n10, ↓l_n20, l_0, l_1, l_2, l_3, l_4, l_5, l_6, l_7, l_8, l_9, l_10, l_13, l_14, l_15, l_16, l_20, l_21, l_24, l_27, l_28, l_30, l_31, l_32, l_35, l_36, l_39, l_40, l_41, l_43, l_44, l_45, l_46, l_47, l_48, l_49, l_56, l_57, l_59, l_60, l_79, l_97, l_122, l_160, l_237, l_255, l_320, l_999, l_1000, nI_add, pk_mul, nI_eq, nI_leI, nI_ltI, nI_clamp, inb_nI_iff, e_within, e_in32, e_asNumber, e_flag, decide_eq_true_eq, Sum.elim_inl, Sum.elim_inr, true_implies, not_true_eq_false, not_false_eq_true, false_implies, and_true, true_and, nI_nn, nn_nI, nn_nn, ↓reduceIte, if_true, if_false, Nat.le_refl, implies_true, Nat.lt_irrefl, and_self_left, win1, nI_le_s1, Nat.zero_le, up_s, up_o, Nat.zero_add, m64_0, m64_1, m64_2, m64_3, m64_7, m64_8, m64_9, m64_10, m64_13, m64_20, m64_27, m64_60, on_none, hs2]
              exact hF3
            | some n =>
              have hn := srt_lt hs
              by_cases hl : n < st.1
              · have hs2 : srt (ub B 7 x (j + 1)) st.1 = some n := ff_lo hs hl hb1
                have e6 : rs n = nI n := rs_n (by omega)
                by_cases h41 : st.1 = 41
                · simp (disch := omega) only [wp_some, wp_obd, wp_ob2, wp_bnd, wp_gd, wp_ite, wp_true, wp_ff, ↓l_n1, ↓l_n2, ↓l_n3, ↓l_n4, ↓l_n10, ↓l_n20, l_0, l_1, l_2, l_3, l_4, l_5, l_6, l_7, l_8, l_9, l_10, l_13, l_14, l_15, l_16, l_20, l_21, l_24, l_27, l_28, l_30, l_31, l_32, l_35, l_36, l_39, l_40, l_41, l_43, l_44, l_45, l_46, l_47, l_48, l_49, l_56, l_57, l_59, l_60, l_79, l_97, l_122, l_160, l_237, l_255, l_320, l_999, l_1000, nI_add, pk_mul, nI_eq, nI_leI, nI_ltI, nI_clamp, inb_nI_iff, e_within, e_in32, e_asNumber, e_flag, decide_eq_true_eq, Sum.elim_inl, Sum.elim_inr, true_implies, not_true_eq_false, not_false_eq_true, false_implies, and_true, true_and, nI_nn, nn_nI, nn_nn, ↓reduceIte, if_true, if_false, Nat.le_refl, implies_true, Nat.lt_irrefl, and_self_left, win1, nI_le_s1, Nat.zero_le, up_s, up_o, Nat.zero_add, m64_0, m64_1, m64_2, m64_3, m64_7, m64_8, m64_9, m64_10, m64_13, m64_20, m64_27, m64_60, on_sm, hs2, hs, h41, rs_41, e6]
                  exact hF3
                · have e7 : rs st.1 = nI st.1 := rs_n (by omega)
                  have hl2 : ¬ st.1 ≤ n := by omega
                  simp (disch := omega) only [wp_some, wp_obd, wp_ob2, wp_bnd, wp_gd, wp_ite, wp_true, wp_ff, ↓l_n1, ↓l_n2, ↓l_n3, ↓l_n4, ↓l_n10, ↓l_n20, l_0, l_1, l_2, l_3, l_4, l_5, l_6, l_7, l_8, l_9, l_10, l_13, l_14, l_15, l_16, l_20, l_21, l_24, l_27, l_28, l_30, l_31, l_32, l_35, l_36, l_39, l_40, l_41, l_43, l_44, l_45, l_46, l_47, l_48, l_49, l_56, l_57, l_59, l_60, l_79, l_97, l_122, l_160, l_237, l_255, l_320, l_999, l_1000, nI_add, pk_mul, nI_eq, nI_leI, nI_ltI, nI_clamp, inb_nI_iff, e_within, e_in32, e_asNumber, e_flag, decide_eq_true_eq, Sum.elim_inl, Sum.elim_inr, true_implies, not_true_eq_false, not_false_eq_true, false_implies, and_true, true_and, nI_nn, nn_nI, nn_nn, ↓reduceIte, if_true, if_false, Nat.le_refl, implies_true, Nat.lt_irrefl, and_self_left, win1, nI_le_s1, Nat.zero_le, up_s, up_o, Nat.zero_add, m64_0, m64_1, m64_2, m64_3, m64_7, m64_8, m64_9, m64_10, m64_13, m64_20, m64_27, m64_60, on_sm, hs2, e7, e6, hl2]
                  exact hF3
              · have hs2 : srt (ub B 7 x (j + 1)) st.1 = none := ff_hi hs (by omega)
                have e7 : rs st.1 = nI st.1 := rs_n (by omega)
                have hl2 : st.1 ≤ n := by omega
                simp (disch := omega) only [wp_some, wp_obd, wp_ob2, wp_bnd, wp_gd, wp_ite, wp_true, wp_ff, ↓l_n1, ↓l_n2, ↓l_n3, ↓l_n4, ↓l_n10, ↓l_n20, l_0, l_1, l_2, l_3, l_4, l_5, l_6, l_7, l_8, l_9, l_10, l_13, l_14, l_15, l_16, l_20, l_21, l_24, l_27, l_28, l_30, l_31, l_32, l_35, l_36, l_39, l_40, l_41, l_43, l_44, l_45, l_46, l_47, l_48, l_49, l_56, l_57, l_59, l_60, l_79, l_97, l_122, l_160, l_237, l_255, l_320, l_999, l_1000, nI_add, pk_mul, nI_eq, nI_leI, nI_ltI, nI_clamp, inb_nI_iff, e_within, e_in32, e_asNumber, e_flag, decide_eq_true_eq, Sum.elim_inl, Sum.elim_inr, true_implies, not_true_eq_false, not_false_eq_true, false_implies, and_true, true_and, nI_nn, nn_nI, nn_nn, ↓reduceIte, if_true, if_false, Nat.le_refl, implies_true, Nat.lt_irrefl, and_self_left, win1, nI_le_s1, Nat.zero_le, up_s, up_o, Nat.zero_add, m64_0, m64_1, m64_2, m64_3, m64_7, m64_8, m64_9, m64_10, m64_13, m64_20, m64_27, m64_60, on_sm, hs2, e7, hl2]
                exact hF3
        · rintro ⟨u1, u2, u3, y⟩ ⟨e1, e2, e3, hF2⟩
          dsimp only at e1 e2 e3 hF2
          subst e1 e2 e3
          simp (disch := omega) only [wp_some, wp_obd, wp_ob2, wp_bnd, wp_gd, wp_ite, wp_true, wp_ff, ↓l_n1, ↓l_n2, ↓l_n3, ↓l_n4, ↓l_n10, ↓l_n20, l_0, l_1, l_2, l_3, l_4, l_5, l_6, l_7, l_8, l_9, l_10, l_13, l_14, l_15, l_16, l_20, l_21, l_24, l_27, l_28, l_30, l_31, l_32, l_35, l_36, l_39, l_40, l_41, l_43, l_44, l_45, l_46, l_47, l_48, l_49, l_56, l_57, l_59, l_60, l_79, l_97, l_122, l_160, l_237, l_255, l_320, l_999, l_1000, nI_add, pk_mul, nI_eq, nI_leI, nI_ltI, nI_clamp, inb_nI_iff, e_within, e_in32, e_asNumber, e_flag, decide_eq_true_eq, Sum.elim_inl, Sum.elim_inr, true_implies, not_true_eq_false, not_false_eq_true, false_implies, and_true, true_and, nI_nn, nn_nI, nn_nn, ↓reduceIte, if_true, if_false, Nat.le_refl, implies_true, Nat.lt_irrefl, and_self_left, win1, nI_le_s1, Nat.zero_le, up_s, up_o, Nat.zero_add, m64_0, m64_1, m64_2, m64_3, m64_7, m64_8, m64_9, m64_10, m64_13, m64_20, m64_27, m64_60]
          exact ⟨fun _ => hF2, fun e => by omega⟩
        rintro ⟨u1, u2, y⟩ ⟨e1, e2, hF2⟩
        exact ⟨e1, e2, hF2⟩
      · rintro ⟨v1, v2, v3, z⟩ ⟨e1, e2, e3, hF⟩
        dsimp only at e1 e2 e3 hF
        subst e1 e2 e3
        have f0 : z 24 2 0 0 = nI (B 0 0) := (hF _ _ _ _ (by omega)).trans hg.1.2.1
        simp (disch := omega) only [wp_some, wp_obd, wp_ob2, wp_bnd, wp_gd, wp_ite, wp_true, wp_ff, ↓l_n1, ↓l_n2, ↓l_n3, ↓l_n4, ↓l_n10, ↓l_n20, l_0, l_1, l_2, l_3, l_4, l_5, l_6, l_7, l_8, l_9, l_10, l_13, l_14, l_15, l_16, l_20, l_21, l_24, l_27, l_28, l_30, l_31, l_32, l_35, l_36, l_39, l_40, l_41, l_43, l_44, l_45, l_46, l_47, l_48, l_49, l_56, l_57, l_59, l_60, l_79, l_97, l_122, l_160, l_237, l_255, l_320, l_999, l_1000, nI_add, pk_mul, nI_eq, nI_leI, nI_ltI, nI_clamp, inb_nI_iff, e_within, e_in32, e_asNumber, e_flag, decide_eq_true_eq, Sum.elim_inl, Sum.elim_inr, true_implies, not_true_eq_false, not_false_eq_true, false_implies, and_true, true_and, nI_nn, nn_nI, nn_nn, ↓reduceIte, if_true, if_false, Nat.le_refl, implies_true, Nat.lt_irrefl, and_self_left, win1, nI_le_s1, Nat.zero_le, up_s, up_o, Nat.zero_add, m64_0, m64_1, m64_2, m64_3, m64_7, m64_8, m64_9, m64_10, m64_13, m64_20, m64_27, m64_60, f0]
        exact hF
      rintro ⟨u1, u2, y⟩ ⟨e1, e2, hF2⟩
      dsimp only at e1 e2 hF2 ⊢
      subst e1 e2
      have hF3 := hF2.fra
      by_cases q : (oux B (m0, nn 4) (B 0 0)).2 = nn 4
      · simp only [q, if_true]
        exact ⟨fun _ => ⟨trivial, hF3⟩, fun e => absurd trivial e⟩
      · have e7 : rs (oux B (m0, nn 4) (B 0 0)).1 = nI (oux B (m0, nn 4) (B 0 0)).1 := rs_n (by
          rcases (hbo (B 0 0)).2 with e | e
          · exact absurd e q
          · exact e)
        rw [if_neg q, e7]
        refine ⟨fun e => absurd e q, fun _ => ?_⟩
        by_cases q2 : p = nI 0
        · rw [if_pos q2]; exact ok_ite (fun _ => wp_some.mpr ⟨rfl, hF3⟩) (fun e => absurd q2 e)
        · rw [if_neg q2]; exact ok_ite (fun e => absurd e q2) (fun _ => wp_some.mpr ⟨rfl, hF3⟩)
  · unfold f_X9_better f_X10_better
    simp (disch := omega) only [wp_some, wp_obd, wp_ob2, wp_bnd, wp_gd, wp_ite, wp_true, wp_ff, ↓l_n1, ↓l_n2, ↓l_n3, ↓l_n4, ↓l_n10, ↓l_n20, l_0, l_1, l_2, l_3, l_4, l_5, l_6, l_7, l_8, l_9, l_10, l_13, l_14, l_15, l_16, l_20, l_21, l_24, l_27, l_28, l_30, l_31, l_32, l_35, l_36, l_39, l_40, l_41, l_43, l_44, l_45, l_46, l_47, l_48, l_49, l_56, l_57, l_59, l_60, l_79, l_97, l_122, l_160, l_237, l_255, l_320, l_999, l_1000, nI_add, pk_mul, nI_eq, nI_leI, nI_ltI, nI_clamp, inb_nI_iff, e_within, e_in32, e_asNumber, e_flag, decide_eq_true_eq, Sum.elim_inl, Sum.elim_inr, true_implies, not_true_eq_false, not_false_eq_true, false_implies, and_true, true_and, nI_nn, nn_nI, nn_nn, ↓reduceIte, if_true, if_false, Nat.le_refl, implies_true, Nat.lt_irrefl, and_self_left, win1, nI_le_s1, Nat.zero_le, up_s, up_o, Nat.zero_add, m64_0, m64_1, m64_2, m64_3, m64_7, m64_8, m64_9, m64_10, m64_13, m64_20, m64_27, m64_60, hp]
    exact hR0
end Tri
