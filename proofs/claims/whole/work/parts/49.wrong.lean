theorem KN_o {h h' : Mem} {B T : Bs} (hK : KN h B T) (hF : FrO h h' 1) : KN h' B T := KN_fra hK (hF.fra (Or.inl rfl))
theorem RN_m {h h' : Mem} {B T : Bs} (hK : RN h B T) (hW : WN B T) (hF : FrM h h') : RN h' B T := RN_fra hK hW hF.fra
theorem WT_of {B B' T : Bs} (h : WT B T) (e : B' 1 0 = B 1 0) : WT B' T := ⟨h.1, fun i hi => by rw [e]; exact h.2 i hi⟩
def fk (B : Bs) (s n : Nat) : Bs := fun f i => if f = 10 ∧ i < n then s / 2 ^ i % 2 else B f i
theorem fk_f {B : Bs} {s n f i : Nat} (h1 : f ≠ 10) : fk B s n f i = B f i := by
  unfold fk; rw [if_neg (by omega)]
theorem fk_0 {B : Bs} {s : Nat} : fk B s 0 = B := by funext f i; unfold fk; rw [if_neg (by omega)]
theorem fk_s {B : Bs} {s n : Nat} : ub (fk B s n) 10 n (s / 2 ^ n % 2) = fk B s (n + 1) := by
  funext f i
  unfold ub fk
  by_cases a : f = 10
  · subst a
    by_cases b : i = n
    · subst b; simp
    · have : i < n ↔ i < n + 1 := by omega
      simp [b, this]
  · simp [a]
theorem WF_fk {B : Bs} {S s : Nat} (hW : WF S B) : ∀ n, WF S (fk B s n)
  | 0 => by rw [fk_0]; exact hW
  | n + 1 => by rw [← fk_s]; exact WF_10 (WF_fk hW n) (by omega)
/-- what the sets of false coins tell -/
def fks (p : Nat → Bool) (a : Int32) : Nat → Int32 × Int32 × Int32 × Int32
  | 0 => (nI 0, nn 4, a, nI 0)
  | n + 1 => if p n = true then ((fks p a n).1 + nI 1, if (fks p a n).1 = nI 0 then nI n else (fks p a n).2.1, (fks p a n).2.2.1 &&& nI n, (fks p a n).2.2.2 ||| nI n) else fks p a n
theorem fks_f {p : Nat → Bool} {a : Int32} {n : Nat} (h : p n = false) : fks p a (n + 1) = fks p a n := by
  show (if p n = true then _ else _) = _
  rw [h]; rfl
theorem fks_t {p : Nat → Bool} {a : Int32} {n : Nat} (h : p n = true) : fks p a (n + 1) = ((fks p a n).1 + nI 1, if (fks p a n).1 = nI 0 then nI n else (fks p a n).2.1, (fks p a n).2.2.1 &&& nI n, (fks p a n).2.2.2 ||| nI n) := by
  show (if p n = true then _ else _) = _
  rw [h]; rfl
def fkr (p1 a : Int32) (q : Int32 × Int32 × Int32 × Int32) : Int32 := if p1 = nI 0 then q.1 else if q.1 = nI 0 then nn 4 else if p1 = nI 1 then q.2.1 else if p1 = nI 2 then q.2.2.1 else a &&& (q.2.2.2 ^^^ nn 1)
section Tri
variable {h g : Mem} {B T : Bs} {o S : Nat}
theorem o_weeks (hR : RI h) : Ok (f_X9_weeks  h) (fun q => Ok (f_X10_weeks  q.2) (fun r => q.1 = r.1 ∧ RI r.2)) := by
  have hR0 := hR
  obtain ⟨B, T, hK, hN, hW, hRs⟩ := hR
  obtain ⟨hM0, hM1, hM2, hM3, hM4, hM5, hM6, hM7, hM8, hM9, hM10⟩ := hK.1
  obtain ⟨⟨⟨s0, s1, s2, s3, s4, s5, s6⟩, n0, n2⟩, hT⟩ := id hN
  have w0 := hW.1.1
  have w1 := hW.1.2.1
  have w2 := hW.1.2.2.1
  refine comb (v := bits (fun w => (srt (grw B w (B 2 0)) 41).isSome) (nI 0) 9) hR0 hN hW ?_ (fun g hg => ?_)
  · unfold f_X9_weeks
    rw [wp_obd]
    refine (ok_up (K := fun e => e.1 = bits (fun w => (srt (grw B w (B 2 0)) 41).isSome) (nI 0) 9 ∧ FrO h e.2 1) 9 (fun j z => z.2.1 = nI j ∧ z.1 = bits (fun w => (srt (grw B w (B 2 0)) 41).isSome) (nI 0) j ∧ FrO h z.2.2 1) (by omega) ?_ ?_ _ ⟨rfl, rfl, FrO.rf⟩).mono (fun a ha => wp_some.mpr ⟨ha.1, ha.2.fra (Or.inl rfl)⟩)
    · rintro j ⟨v, x, z⟩ hj ⟨hx, hv, hF⟩
      dsimp only at hx hv hF
      subst hx hv
      simp (disch := omega) only [wp_some, wp_obd, wp_ob2, wp_bnd, wp_gd, wp_ite, wp_true, wp_ff, ↓l_n1, ↓l_n2, ↓l_n3, ↓l_n4, ↓l_n10, ↓l_n20, l_0, l_1, l_2, l_3, l_4, l_5, l_6, l_7, l_8, l_9, l_10, l_13, l_14, l_15, l_16, l_20, l_21, l_24, l_27, l_28, l_30, l_31, l_32, l_35, l_36, l_39, l_40, l_41, l_43, l_44, l_45, l_46, l_47, l_48, l_49, l_56, l_57, l_59, l_60, l_79, l_97, l_122, l_160, l_237, l_255, l_320, l_999, l_1000, nI_add, pk_mul, nI_eq, nI_leI, nI_ltI, nI_clamp, inb_nI_iff, e_within, e_in32, e_asNumber, e_flag, decide_eq_true_eq, Sum.elim_inl, Sum.elim_inr, true_implies, not_true_eq_false, not_false_eq_true, false_implies, and_true, true_and, nI_nn, nn_nI, nn_nn, ↓reduceIte, if_true, if_false, Nat.le_refl, implies_true, Nat.lt_irrefl, and_self_left, win1, nI_le_s1, Nat.zero_le, up_s, up_o, Nat.zero_add, m64_0, m64_1, m64_2, m64_3, m64_7, m64_8, m64_9, m64_10, m64_13, m64_20, m64_27, m64_60]
      refine ⟨fun e => by omega, fun _ => ?_⟩
      refine (t_copy (KN_o hK hF) hW).mono ?_
      rintro h1 ⟨a1, a2, a3⟩
      refine (c_grow a1 a2 hW.1 (by omega)).mono ?_
      rintro h2 ⟨b1, b2, b3⟩
      refine (c_sorted40 b1 b2 (WF_grw hW.1) (by omega)).mono ?_
      rintro ⟨r, h3⟩ ⟨c1, c2⟩
      dsimp only at c1 c2
      subst c1
      have hF3 : FrO h h3 1 := hF.tr (a3.tr (b3.o.tr c2))
      cases hs : srt (grw B j (B 2 0)) 41 with
      | none =>
        simp (disch := omega) only [wp_some, wp_obd, wp_ob2, wp_bnd, wp_gd, wp_ite, wp_true, wp_ff, ↓l_n1, ↓l_n2, ↓l_n3, ↓l_n4, ↓l_n10, ↓l_n20, l_0, l_1, l_2, l_3, l_4, l_5, l_6, l_7, l_8, l_9, l_10, l_13, l_14, l_15, l_16, l_20, l_21, l_24, l_27, l_28, l_30, l_31, l_32, l_35, l_36, l_39, l_40, l_41, l_43, l_44, l_45, l_46, l_47, l_48, l_49, l_56, l_57, l_59, l_60, l_79, l_97, l_122, l_160, l_237, l_255, l_320, l_999, l_1000, nI_add, pk_mul, nI_eq, nI_leI, nI_ltI, nI_clamp, inb_nI_iff, e_within, e_in32, e_asNumber, e_flag, decide_eq_true_eq, Sum.elim_inl, Sum.elim_inr, true_implies, not_true_eq_false, not_false_eq_true, false_implies, and_true, true_and, nI_nn, nn_nI, nn_nn, ↓reduceIte, if_true, if_false, Nat.le_refl, implies_true, Nat.lt_irrefl, and_self_left, win1, nI_le_s1, Nat.zero_le, up_s, up_o, Nat.zero_add, m64_0, m64_1, m64_2, m64_3, m64_7, m64_8, m64_9, m64_10, m64_13, m64_20, m64_27, m64_60, on_none]
        exact ⟨bits_f (by simp [hs]), hF3⟩
      | some v =>
        have := srt_lt hs
        simp (disch := omega) only [wp_some, wp_obd, wp_ob2, wp_bnd, wp_gd, wp_ite, wp_true, wp_ff, ↓l_n1, ↓l_n2, ↓l_n3, ↓l_n4, ↓l_n10, ↓l_n20, l_0, l_1, l_2, l_3, l_4, l_5, l_6, l_7, l_8, l_9, l_10, l_13, l_14, l_15, l_16, l_20, l_21, l_24, l_27, l_28, l_30, l_31, l_32, l_35, l_36, l_39, l_40, l_41, l_43, l_44, l_45, l_46, l_47, l_48, l_49, l_56, l_57, l_59, l_60, l_79, l_97, l_122, l_160, l_237, l_255, l_320, l_999, l_1000, nI_add, pk_mul, nI_eq, nI_leI, nI_ltI, nI_clamp, inb_nI_iff, e_within, e_in32, e_asNumber, e_flag, decide_eq_true_eq, Sum.elim_inl, Sum.elim_inr, true_implies, not_true_eq_false, not_false_eq_true, false_implies, and_true, true_and, nI_nn, nn_nI, nn_nn, ↓reduceIte, if_true, if_false, Nat.le_refl, implies_true, Nat.lt_irrefl, and_self_left, win1, nI_le_s1, Nat.zero_le, up_s, up_o, Nat.zero_add, m64_0, m64_1, m64_2, m64_3, m64_7, m64_8, m64_9, m64_10, m64_13, m64_20, m64_27, m64_60, on_sm]
        exact ⟨bits_t (by simp [hs]), hF3⟩
    · rintro ⟨v, x, z⟩ ⟨hx, hv, hF⟩
      dsimp only at hx hv hF
      subst hx hv
      simp (disch := omega) only [wp_some, wp_obd, wp_ob2, wp_bnd, wp_gd, wp_ite, wp_true, wp_ff, ↓l_n1, ↓l_n2, ↓l_n3, ↓l_n4, ↓l_n10, ↓l_n20, l_0, l_1, l_2, l_3, l_4, l_5, l_6, l_7, l_8, l_9, l_10, l_13, l_14, l_15, l_16, l_20, l_21, l_24, l_27, l_28, l_30, l_31, l_32, l_35, l_36, l_39, l_40, l_41, l_43, l_44, l_45, l_46, l_47, l_48, l_49, l_56, l_57, l_59, l_60, l_79, l_97, l_122, l_160, l_237, l_255, l_320, l_999, l_1000, nI_add, pk_mul, nI_eq, nI_leI, nI_ltI, nI_clamp, inb_nI_iff, e_within, e_in32, e_asNumber, e_flag, decide_eq_true_eq, Sum.elim_inl, Sum.elim_inr, true_implies, not_true_eq_false, not_false_eq_true, false_implies, and_true, true_and, nI_nn, nn_nI, nn_nn, ↓reduceIte, if_true, if_false, Nat.le_refl, implies_true, Nat.lt_irrefl, and_self_left, win1, nI_le_s1, Nat.zero_le, up_s, up_o, Nat.zero_add, m64_0, m64_1, m64_2, m64_3, m64_7, m64_8, m64_9, m64_10, m64_13, m64_20, m64_27, m64_60]
      exact ⟨fun _ => hF, fun e => by omega⟩
  · unfold f_X10_weeks
    rw [wp_obd]
    refine (ok_up (K := fun e => e.1 = bits (fun w => (srt (grw B w (B 2 0)) 41).isSome) (nI 0) 9 ∧ FrM g e.2) 9 (fun j z => z.2.1 = nI j ∧ z.1 = bits (fun w => (srt (grw B w (B 2 0)) 41).isSome) (nI 0) j ∧ FrM g z.2.2) (by omega) ?_ ?_ _ ⟨rfl, rfl, FrM.rf⟩).mono (fun a ha => wp_some.mpr ⟨ha.1, ha.2.fra⟩)
    · rintro j ⟨v, x, z⟩ hj ⟨hx, hv, hF⟩
      dsimp only at hx hv hF
      subst hx hv
      simp (disch := omega) only [wp_some, wp_obd, wp_ob2, wp_bnd, wp_gd, wp_ite, wp_true, wp_ff, ↓l_n1, ↓l_n2, ↓l_n3, ↓l_n4, ↓l_n10, ↓l_n20, l_0, l_1, l_2, l_3, l_4, l_5, l_6, l_7, l_8, l_9, l_10, l_13, l_14, l_15, l_16, l_20, l_21, l_24, l_27, l_28, l_30, l_31, l_32, l_35, l_36, l_39, l_40, l_41, l_43, l_44, l_45, l_46, l_47, l_48, l_49, l_56, l_57, l_59, l_60, l_79, l_97, l_122, l_160, l_237, l_255, l_320, l_999, l_1000, nI_add, pk_mul, nI_eq, nI_leI, nI_ltI, nI_clamp, inb_nI_iff, e_within, e_in32, e_asNumber, e_flag, decide_eq_true_eq, Sum.elim_inl, Sum.elim_inr, true_implies, not_true_eq_false, not_false_eq_true, false_implies, and_true, true_and, nI_nn, nn_nI, nn_nn, ↓reduceIte, if_true, if_false, Nat.le_refl, implies_true, Nat.lt_irrefl, and_self_left, win1, nI_le_s1, Nat.zero_le, up_s, up_o, Nat.zero_add, m64_0, m64_1, m64_2, m64_3, m64_7, m64_8, m64_9, m64_10, m64_13, m64_20, m64_27, m64_60]
      refine ⟨fun e => by omega, fun _ => ?_⟩
      refine (t_starts (RN_m hg hW hF) hW).mono ?_
      rintro h1 ⟨a1, a2⟩
      refine (ok_up (K := fun h' => MT h' (grw B j (B 2 0)) ∧ FrM h1 h') (B 2 0) (fun i y => y.1 = nI i ∧ MT y.2 (grw B j i) ∧ FrM h1 y.2) (by omega) ?_ ?_ _ ⟨rfl, by rw [grw_0]; exact a1, FrM.rf⟩).mono ?_
      · rintro i ⟨x, y⟩ hi ⟨hx, q1, q2⟩
        dsimp only at hx q1 q2
        subst hx
        have hk : i < grw B j i 2 0 := by rw [grw_f (by decide) (by decide)]; exact hi
        have e2 : y 24 3 0 0 = nI (B 2 0) := by rw [q1.2.2.1, grw_f (by decide) (by decide)]
        have e3 : y 32 0 0 i = nI (B 12 i) := by rw [(q1.2.2.2.2.2.2.2.2.2.2 i hk).1, grw_12 (Nat.le_refl _)]
        have e4 : y 33 0 0 i = nI (B 13 i) := by rw [(q1.2.2.2.2.2.2.2.2.2.2 i hk).2.1, grw_13 (Nat.le_refl _)]
        have b1 := (hW.1.2.2.2.2.2.2.2.2.2.2.2.2 i hi).1
        have b2 := (hW.1.2.2.2.2.2.2.2.2.2.2.2.2 i hi).2.1
        have fin : ∀ a b : Nat, a = min 9 (B 12 i + j) → b = min 9 (B 13 i + j) → MT (up (up y 32 0 0 i (nI a)) 33 0 0 i (nI b)) (grw B j (i + 1)) ∧ FrM h1 (up (up y 32 0 0 i (nI a)) 33 0 0 i (nI b)) := by
          rintro a b rfl rfl
          exact ⟨by rw [← grw_s]; exact MT_33 (MT_32 q1), q2.tr ((FrM.up (by decide)).tr (FrM.up (by decide)))⟩
        simp (disch := omega) only [wp_some, wp_obd, wp_ob2, wp_bnd, wp_gd, wp_ite, wp_true, wp_ff, ↓l_n1, ↓l_n2, ↓l_n3, ↓l_n4, ↓l_n10, ↓l_n20, l_0, l_1, l_2, l_3, l_4, l_5, l_6, l_7, l_8, l_9, l_10, l_13, l_14, l_15, l_16, l_20, l_21, l_24, l_27, l_28, l_30, l_31, l_32, l_35, l_36, l_39, l_40, l_41, l_43, l_44, l_45, l_46, l_47, l_48, l_49, l_56, l_57, l_59, l_60, l_79, l_97, l_122, l_160, l_237, l_255, l_320, l_999, l_1000, nI_add, pk_mul, nI_eq, nI_leI, nI_ltI, nI_clamp, inb_nI_iff, e_within, e_in32, e_asNumber, e_flag, decide_eq_true_eq, Sum.elim_inl, Sum.elim_inr, true_implies, not_true_eq_false, not_false_eq_true, false_implies, and_true, true_and, nI_nn, nn_nI, nn_nn, ↓reduceIte, if_true, if_false, Nat.le_refl, implies_true, Nat.lt_irrefl, and_self_left, win1, nI_le_s1, Nat.zero_le, up_s, up_o, Nat.zero_add, m64_0, m64_1, m64_2, m64_3, m64_7, m64_8, m64_9, m64_10, m64_13, m64_20, m64_27, m64_60, e2, e3, e4]
        refine ⟨fun e => by omega, fun _ => ?_⟩
        repeat' (with_reducible (first | apply And.intro | intro _))
        all_goals first | omega | (refine (fin _ _ ?_ ?_).1 <;> omega) | (refine (fin _ _ ?_ ?_).2 <;> omega)
      · rintro ⟨x, y⟩ ⟨hx, q1, q2⟩
        dsimp only at hx q1 q2
        subst hx
        have e2 : y 24 3 0 0 = nI (B 2 0) := by rw [q1.2.2.1, grw_f (by decide) (by decide)]
        simp (disch := omega) only [wp_some, wp_obd, wp_ob2, wp_bnd, wp_gd, wp_ite, wp_true, wp_ff, ↓l_n1, ↓l_n2, ↓l_n3, ↓l_n4, ↓l_n10, ↓l_n20, l_0, l_1, l_2, l_3, l_4, l_5, l_6, l_7, l_8, l_9, l_10, l_13, l_14, l_15, l_16, l_20, l_21, l_24, l_27, l_28, l_30, l_31, l_32, l_35, l_36, l_39, l_40, l_41, l_43, l_44, l_45, l_46, l_47, l_48, l_49, l_56, l_57, l_59, l_60, l_79, l_97, l_122, l_160, l_237, l_255, l_320, l_999, l_1000, nI_add, pk_mul, nI_eq, nI_leI, nI_ltI, nI_clamp, inb_nI_iff, e_within, e_in32, e_asNumber, e_flag, decide_eq_true_eq, Sum.elim_inl, Sum.elim_inr, true_implies, not_true_eq_false, not_false_eq_true, false_implies, and_true, true_and, nI_nn, nn_nI, nn_nn, ↓reduceIte, if_true, if_false, Nat.le_refl, implies_true, Nat.lt_irrefl, and_self_left, win1, nI_le_s1, Nat.zero_le, up_s, up_o, Nat.zero_add, m64_0, m64_1, m64_2, m64_3, m64_7, m64_8, m64_9, m64_10, m64_13, m64_20, m64_27, m64_60, e2]
        exact ⟨q1, q2⟩
      rintro h2 ⟨b1, b2⟩
      refine (m_sorted b1 (WF_grw hW.1) (by omega)).mono ?_
      rintro ⟨r, h3⟩ ⟨c1, c2⟩
      dsimp only at c1 c2
      subst c1
      have hF3 : FrM g h3 := hF.tr (a2.tr (b2.tr c2))
      cases hs : srt (grw B j (B 2 0)) 41 with
      | none =>
        simp (disch := omega) only [wp_some, wp_obd, wp_ob2, wp_bnd, wp_gd, wp_ite, wp_true, wp_ff, ↓l_n1, ↓l_n2, ↓l_n3, ↓l_n4, ↓l_n10, ↓l_n20, l_0, l_1, l_2, l_3, l_4, l_5, l_6, l_7, l_8, l_9, l_10, l_13, l_14, l_15, l_16, l_20, l_21, l_24, l_27, l_28, l_30, l_31, l_32, l_35, l_36, l_39, l_40, l_41, l_43, l_44, l_45, l_46, l_47, l_48, l_49, l_56, l_57, l_59, l_60, l_79, l_97, l_122, l_160, l_237, l_255, l_320, l_999, l_1000, nI_add, pk_mul, nI_eq, nI_leI, nI_ltI, nI_clamp, inb_nI_iff, e_within, e_in32, e_asNumber, e_flag, decide_eq_true_eq, Sum.elim_inl, Sum.elim_inr, true_implies, not_true_eq_false, not_false_eq_true, false_implies, and_true, true_and, nI_nn, nn_nI, nn_nn, ↓reduceIte, if_true, if_false, Nat.le_refl, implies_true, Nat.lt_irrefl, and_self_left, win1, nI_le_s1, Nat.zero_le, up_s, up_o, Nat.zero_add, m64_0, m64_1, m64_2, m64_3, m64_7, m64_8, m64_9, m64_10, m64_13, m64_20, m64_27, m64_60, on_none]
        exact ⟨bits_s (by simp [hs]), hF3⟩
      | some v =>
        have := srt_lt hs
        simp (disch := omega) only [wp_some, wp_obd, wp_ob2, wp_bnd, wp_gd, wp_ite, wp_true, wp_ff, ↓l_n1, ↓l_n2, ↓l_n3, ↓l_n4, ↓l_n10, ↓l_n20, l_0, l_1, l_2, l_3, l_4, l_5, l_6, l_7, l_8, l_9, l_10, l_13, l_14, l_15, l_16, l_20, l_21, l_24, l_27, l_28, l_30, l_31, l_32, l_35, l_36, l_39, l_40, l_41, l_43, l_44, l_45, l_46, l_47, l_48, l_49, l_56, l_57, l_59, l_60, l_79, l_97, l_122, l_160, l_237, l_255, l_320, l_999, l_1000, nI_add, pk_mul, nI_eq, nI_leI, nI_ltI, nI_clamp, inb_nI_iff, e_within, e_in32, e_asNumber, e_flag, decide_eq_true_eq, Sum.elim_inl, Sum.elim_inr, true_implies, not_true_eq_false, not_false_eq_true, false_implies, and_true, true_and, nI_nn, nn_nI, nn_nn, ↓reduceIte, if_true, if_false, Nat.le_refl, implies_true, Nat.lt_irrefl, and_self_left, win1, nI_le_s1, Nat.zero_le, up_s, up_o, Nat.zero_add, m64_0, m64_1, m64_2, m64_3, m64_7, m64_8, m64_9, m64_10, m64_13, m64_20, m64_27, m64_60, on_sm]
        exact ⟨bits_s (by simp [hs]), hF3⟩
    · rintro ⟨v, x, z⟩ ⟨hx, hv, hF⟩
      dsimp only at hx hv hF
      subst hx hv
      simp (disch := omega) only [wp_some, wp_obd, wp_ob2, wp_bnd, wp_gd, wp_ite, wp_true, wp_ff, ↓l_n1, ↓l_n2, ↓l_n3, ↓l_n4, ↓l_n10, ↓l_n20, l_0, l_1, l_2, l_3, l_4, l_5, l_6, l_7, l_8, l_9, l_10, l_13, l_14, l_15, l_16, l_20, l_21, l_24, l_27, l_28, l_30, l_31, l_32, l_35, l_36, l_39, l_40, l_41, l_43, l_44, l_45, l_46, l_47, l_48, l_49, l_56, l_57, l_59, l_60, l_79, l_97, l_122, l_160, l_237, l_255, l_320, l_999, l_1000, nI_add, pk_mul, nI_eq, nI_leI, nI_ltI, nI_clamp, inb_nI_iff, e_within, e_in32, e_asNumber, e_flag, decide_eq_true_eq, Sum.elim_inl, Sum.elim_inr, true_implies, not_true_eq_false, not_false_eq_true, false_implies, and_true, true_and, nI_nn, nn_nI, nn_nn, ↓reduceIte, if_true, if_false, Nat.le_refl, implies_true, Nat.lt_irrefl, and_self_left, win1, nI_le_s1, Nat.zero_le, up_s, up_o, Nat.zero_add, m64_0, m64_1, m64_2, m64_3, m64_7, m64_8, m64_9, m64_10, m64_13, m64_20, m64_27, m64_60]
      exact ⟨fun _ => hF, fun e => by omega⟩
theorem o_wrong (hR : RI h) : Ok (f_X9_wrong  h) (fun q => Ok (f_X10_wrong  q.2) (fun r => q.1 = r.1 ∧ RI r.2)) := by
  have hR0 := hR
  obtain ⟨B, T, hK, hN, hW, hRs⟩ := hR
  obtain ⟨hM0, hM1, hM2, hM3, hM4, hM5, hM6, hM7, hM8, hM9, hM10⟩ := hK.1
  obtain ⟨⟨⟨s0, s1, s2, s3, s4, s5, s6⟩, n0, n2⟩, hT⟩ := id hN
  have w0 := hW.1.1
  have w1 := hW.1.2.1
  have w2 := hW.1.2.2.1
  have key : ∀ k, k < B 2 0 → WF 999 (ub B 14 k (1 - B 14 k)) ∧ WT (ub B 14 k (1 - B 14 k)) T := fun k hk => ⟨WF_14 hW.1 (by have := (hW.1.2.2.2.2.2.2.2.2.2.2.2.2 k hk).2.2.1; omega), WT_of hW.2.2 (ub_n (by decide))⟩
  generalize hv0 : (if hld B T = true then nI 16 else nI 0) = v0
  refine comb (v := bits (fun k => hld (ub B 14 k (1 - B 14 k)) T) v0 (B 2 0)) hR0 hN hW ?_ (fun g hg => ?_)
  · unfold f_X9_wrong
    rw [wp_obd]
    refine (t_copy hK hW).mono ?_
    rintro h1 ⟨a1, a2, a3⟩
    rw [wp_ob2]
    refine (c_holdFor a1 a2 (CSg_fr hK.2.2 (fun a b c d e => a3 _ _ _ _ (by omega))) hW.2.2 hW.1 (by omega)).mono ?_
    rintro ⟨r, h2⟩ ⟨b1, b2⟩
    dsimp only at b1 b2
    subst b1
    have e0 : Ok (if hld B T = true then some (16 : Int32) else some (0 : Int32)) (fun r => r = v0) := by
      rw [← hv0]; split <;> exact wp_some.mpr rfl
    rw [wp_obd]
    refine e0.mono ?_
    rintro r rfl
    rw [wp_obd]
    refine (ok_up (K := fun e => e.1 = bits (fun k => hld (ub B 14 k (1 - B 14 k)) T) r (B 2 0) ∧ FrO h e.2 1) (B 2 0) (fun j z => z.2.1 = nI j ∧ z.1 = bits (fun k => hld (ub B 14 k (1 - B 14 k)) T) r j ∧ FrO h z.2.2 1) (by omega) ?_ ?_ _ ⟨rfl, rfl, a3.tr b2.o⟩).mono (fun a ha => wp_some.mpr ⟨ha.1, ha.2.fra (Or.inl rfl)⟩)
    · rintro j ⟨v, x, z⟩ hj ⟨hx, hv, hF⟩
      dsimp only at hx hv hF
      subst hx hv
      have e2 : z 1 4 0 0 = nI (B 2 0) := (hF _ _ _ _ (by omega)).trans hM2
      simp (disch := omega) only [wp_some, wp_obd, wp_ob2, wp_bnd, wp_gd, wp_ite, wp_true, wp_ff, ↓l_n1, ↓l_n2, ↓l_n3, ↓l_n4, ↓l_n10, ↓l_n20, l_0, l_1, l_2, l_3, l_4, l_5, l_6, l_7, l_8, l_9, l_10, l_13, l_14, l_15, l_16, l_20, l_21, l_24, l_27, l_28, l_30, l_31, l_32, l_35, l_36, l_39, l_40, l_41, l_43, l_44, l_45, l_46, l_47, l_48, l_49, l_56, l_57, l_59, l_60, l_79, l_97, l_122, l_160, l_237, l_255, l_320, l_999, l_1000, nI_add, pk_mul, nI_eq, nI_leI, nI_ltI, nI_clamp, inb_nI_iff, e_within, e_in32, e_asNumber, e_flag, decide_eq_true_eq, Sum.elim_inl, Sum.elim_inr, true_implies, not_true_eq_false, not_false_eq_true, false_implies, and_true, true_and, nI_nn, nn_nI, nn_nn, ↓reduceIte, if_true, if_false, Nat.le_refl, implies_true, Nat.lt_irrefl, and_self_left, win1, nI_le_s1, Nat.zero_le, up_s, up_o, Nat.zero_add, m64_0, m64_1, m64_2, m64_3, m64_7, m64_8, m64_9, m64_10, m64_13, m64_20, m64_27, m64_60, e2]
      refine ⟨fun e => by omega, fun _ => ?_⟩
      refine (t_copy (KN_o hK hF) hW).mono ?_
      rintro h3 ⟨c1, c2, c3⟩
      have e3 : h3 7 2 1 j = nI (B 14 j) := (c1.2.2.2.2.2.2.2.2.2.2 j hj).2.2.1
      have hb := (hW.1.2.2.2.2.2.2.2.2.2.2.2.2 j hj).2.2.1
      simp (disch := omega) only [wp_some, wp_obd, wp_ob2, wp_bnd, wp_gd, wp_ite, wp_true, wp_ff, ↓l_n1, ↓l_n2, ↓l_n3, ↓l_n4, ↓l_n10, ↓l_n20, l_0, l_1, l_2, l_3, l_4, l_5, l_6, l_7, l_8, l_9, l_10, l_13, l_14, l_15, l_16, l_20, l_21, l_24, l_27, l_28, l_30, l_31, l_32, l_35, l_36, l_39, l_40, l_41, l_43, l_44, l_45, l_46, l_47, l_48, l_49, l_56, l_57, l_59, l_60, l_79, l_97, l_122, l_160, l_237, l_255, l_320, l_999, l_1000, nI_add, pk_mul, nI_eq, nI_leI, nI_ltI, nI_clamp, inb_nI_iff, e_within, e_in32, e_asNumber, e_flag, decide_eq_true_eq, Sum.elim_inl, Sum.elim_inr, true_implies, not_true_eq_false, not_false_eq_true, false_implies, and_true, true_and, nI_nn, nn_nI, nn_nn, ↓reduceIte, if_true, if_false, Nat.le_refl, implies_true, Nat.lt_irrefl, and_self_left, win1, nI_le_s1, Nat.zero_le, up_s, up_o, Nat.zero_add, m64_0, m64_1, m64_2, m64_3, m64_7, m64_8, m64_9, m64_10, m64_13, m64_20, m64_27, m64_60, e3, sub1v]
      refine ⟨by omega, ?_⟩
      refine (c_holdFor (CB_14 c1) (HL_up c2 (by decide) (ub_n (by decide)) (ub_n (by decide)) (fun c _ => ub_n (by decide))) (CSg_fr hK.2.2 (fun a b c d e => ?_)) (key j hj).2 (key j hj).1 (by omega)).mono ?_
      · rw [up_o (by omega), c3 _ _ _ _ (by omega), hF _ _ _ _ (by omega)]
      rintro ⟨r, h4⟩ ⟨d1, d2⟩
      dsimp only at d1 d2
      subst d1
      have hF3 : FrO h h4 1 := hF.tr (c3.tr ((FrO.up (by decide)).tr d2.o))
      cases hs : hld (ub B 14 j (1 - B 14 j)) T with
      | false =>
        simp (disch := omega) only [wp_some, wp_obd, wp_ob2, wp_bnd, wp_gd, wp_ite, wp_true, wp_ff, ↓l_n1, ↓l_n2, ↓l_n3, ↓l_n4, ↓l_n10, ↓l_n20, l_0, l_1, l_2, l_3, l_4, l_5, l_6, l_7, l_8, l_9, l_10, l_13, l_14, l_15, l_16, l_20, l_21, l_24, l_27, l_28, l_30, l_31, l_32, l_35, l_36, l_39, l_40, l_41, l_43, l_44, l_45, l_46, l_47, l_48, l_49, l_56, l_57, l_59, l_60, l_79, l_97, l_122, l_160, l_237, l_255, l_320, l_999, l_1000, nI_add, pk_mul, nI_eq, nI_leI, nI_ltI, nI_clamp, inb_nI_iff, e_within, e_in32, e_asNumber, e_flag, decide_eq_true_eq, Sum.elim_inl, Sum.elim_inr, true_implies, not_true_eq_false, not_false_eq_true, false_implies, and_true, true_and, nI_nn, nn_nI, nn_nn, ↓reduceIte, if_true, if_false, Nat.le_refl, implies_true, Nat.lt_irrefl, and_self_left, win1, nI_le_s1, Nat.zero_le, up_s, up_o, Nat.zero_add, m64_0, m64_1, m64_2, m64_3, m64_7, m64_8, m64_9, m64_10, m64_13, m64_20, m64_27, m64_60]
        exact ⟨bits_f hs, hF3⟩
      | true =>
        simp (disch := omega) only [wp_some, wp_obd, wp_ob2, wp_bnd, wp_gd, wp_ite, wp_true, wp_ff, ↓l_n1, ↓l_n2, ↓l_n3, ↓l_n4, ↓l_n10, ↓l_n20, l_0, l_1, l_2, l_3, l_4, l_5, l_6, l_7, l_8, l_9, l_10, l_13, l_14, l_15, l_16, l_20, l_21, l_24, l_27, l_28, l_30, l_31, l_32, l_35, l_36, l_39, l_40, l_41, l_43, l_44, l_45, l_46, l_47, l_48, l_49, l_56, l_57, l_59, l_60, l_79, l_97, l_122, l_160, l_237, l_255, l_320, l_999, l_1000, nI_add, pk_mul, nI_eq, nI_leI, nI_ltI, nI_clamp, inb_nI_iff, e_within, e_in32, e_asNumber, e_flag, decide_eq_true_eq, Sum.elim_inl, Sum.elim_inr, true_implies, not_true_eq_false, not_false_eq_true, false_implies, and_true, true_and, nI_nn, nn_nI, nn_nn, ↓reduceIte, if_true, if_false, Nat.le_refl, implies_true, Nat.lt_irrefl, and_self_left, win1, nI_le_s1, Nat.zero_le, up_s, up_o, Nat.zero_add, m64_0, m64_1, m64_2, m64_3, m64_7, m64_8, m64_9, m64_10, m64_13, m64_20, m64_27, m64_60]
        exact ⟨bits_t hs, hF3⟩
    · rintro ⟨v, x, z⟩ ⟨hx, hv, hF⟩
      dsimp only at hx hv hF
      subst hx hv
      have e2 : z 1 4 0 0 = nI (B 2 0) := (hF _ _ _ _ (by omega)).trans hM2
      simp (disch := omega) only [wp_some, wp_obd, wp_ob2, wp_bnd, wp_gd, wp_ite, wp_true, wp_ff, ↓l_n1, ↓l_n2, ↓l_n3, ↓l_n4, ↓l_n10, ↓l_n20, l_0, l_1, l_2, l_3, l_4, l_5, l_6, l_7, l_8, l_9, l_10, l_13, l_14, l_15, l_16, l_20, l_21, l_24, l_27, l_28, l_30, l_31, l_32, l_35, l_36, l_39, l_40, l_41, l_43, l_44, l_45, l_46, l_47, l_48, l_49, l_56, l_57, l_59, l_60, l_79, l_97, l_122, l_160, l_237, l_255, l_320, l_999, l_1000, nI_add, pk_mul, nI_eq, nI_leI, nI_ltI, nI_clamp, inb_nI_iff, e_within, e_in32, e_asNumber, e_flag, decide_eq_true_eq, Sum.elim_inl, Sum.elim_inr, true_implies, not_true_eq_false, not_false_eq_true, false_implies, and_true, true_and, nI_nn, nn_nI, nn_nn, ↓reduceIte, if_true, if_false, Nat.le_refl, implies_true, Nat.lt_irrefl, and_self_left, win1, nI_le_s1, Nat.zero_le, up_s, up_o, Nat.zero_add, m64_0, m64_1, m64_2, m64_3, m64_7, m64_8, m64_9, m64_10, m64_13, m64_20, m64_27, m64_60, e2]
      exact hF
  · unfold f_X10_wrong
    rw [wp_obd]
    refine (t_starts hg hW).mono ?_
    rintro h1 ⟨a1, a2⟩
    rw [wp_ob2]
    refine (m_isSo a1 (TN_fr hW.2.2.1 hg.2 (fun i p q => a2 _ _ _ _ (by omega))) hW.2.2 hW.1 (by omega)).mono ?_
    rintro ⟨r, h2⟩ ⟨b1, b2⟩
    dsimp only at b1 b2
    subst b1
    have e0 : Ok (if hld B T = true then some (16 : Int32) else some (0 : Int32)) (fun r => r = v0) := by
      rw [← hv0]; split <;> exact wp_some.mpr rfl
    rw [wp_obd]
    refine e0.mono ?_
    rintro r rfl
    rw [wp_obd]
    refine (ok_up (K := fun e => e.1 = bits (fun k => hld (ub B 14 k (1 - B 14 k)) T) r (B 2 0) ∧ FrM g e.2) (B 2 0) (fun j z => z.2.1 = nI j ∧ z.1 = bits (fun k => hld (ub B 14 k (1 - B 14 k)) T) r j ∧ FrM g z.2.2) (by omega) ?_ ?_ _ ⟨rfl, rfl, a2.tr b2⟩).mono (fun a ha => wp_some.mpr ⟨ha.1, ha.2.fra⟩)
    · rintro j ⟨v, x, z⟩ hj ⟨hx, hv, hF⟩
      dsimp only at hx hv hF
      subst hx hv
      have e2 : z 24 3 0 0 = nI (B 2 0) := (hF _ _ _ _ (by omega)).trans hg.1.2.2
      simp (disch := omega) only [wp_some, wp_obd, wp_ob2, wp_bnd, wp_gd, wp_ite, wp_true, wp_ff, ↓l_n1, ↓l_n2, ↓l_n3, ↓l_n4, ↓l_n10, ↓l_n20, l_0, l_1, l_2, l_3, l_4, l_5, l_6, l_7, l_8, l_9, l_10, l_13, l_14, l_15, l_16, l_20, l_21, l_24, l_27, l_28, l_30, l_31, l_32, l_35, l_36, l_39, l_40, l_41, l_43, l_44, l_45, l_46, l_47, l_48, l_49, l_56, l_57, l_59, l_60, l_79, l_97, l_122, l_160, l_237, l_255, l_320, l_999, l_1000, nI_add, pk_mul, nI_eq, nI_leI, nI_ltI, nI_clamp, inb_nI_iff, e_within, e_in32, e_asNumber, e_flag, decide_eq_true_eq, Sum.elim_inl, Sum.elim_inr, true_implies, not_true_eq_false, not_false_eq_true, false_implies, and_true, true_and, nI_nn, nn_nI, nn_nn, ↓reduceIte, if_true, if_false, Nat.le_refl, implies_true, Nat.lt_irrefl, and_self_left, win1, nI_le_s1, Nat.zero_le, up_s, up_o, Nat.zero_add, m64_0, m64_1, m64_2, m64_3, m64_7, m64_8, m64_9, m64_10, m64_13, m64_20, m64_27, m64_60, e2]
      refine ⟨fun e => by omega, fun _ => ?_⟩
      refine (t_starts (RN_m hg hW hF) hW).mono ?_
      rintro h3 ⟨c1, c3⟩
      have e3 : h3 34 0 0 j = nI (B 14 j) := (c1.2.2.2.2.2.2.2.2.2.2 j hj).2.2.1
      have hb := (hW.1.2.2.2.2.2.2.2.2.2.2.2.2 j hj).2.2.1
      simp (disch := omega) only [wp_some, wp_obd, wp_ob2, wp_bnd, wp_gd, wp_ite, wp_true, wp_ff, ↓l_n1, ↓l_n2, ↓l_n3, ↓l_n4, ↓l_n10, ↓l_n20, l_0, l_1, l_2, l_3, l_4, l_5, l_6, l_7, l_8, l_9, l_10, l_13, l_14, l_15, l_16, l_20, l_21, l_24, l_27, l_28, l_30, l_31, l_32, l_35, l_36, l_39, l_40, l_41, l_43, l_44, l_45, l_46, l_47, l_48, l_49, l_56, l_57, l_59, l_60, l_79, l_97, l_122, l_160, l_237, l_255, l_320, l_999, l_1000, nI_add, pk_mul, nI_eq, nI_leI, nI_ltI, nI_clamp, inb_nI_iff, e_within, e_in32, e_asNumber, e_flag, decide_eq_true_eq, Sum.elim_inl, Sum.elim_inr, true_implies, not_true_eq_false, not_false_eq_true, false_implies, and_true, true_and, nI_nn, nn_nI, nn_nn, ↓reduceIte, if_true, if_false, Nat.le_refl, implies_true, Nat.lt_irrefl, and_self_left, win1, nI_le_s1, Nat.zero_le, up_s, up_o, Nat.zero_add, m64_0, m64_1, m64_2, m64_3, m64_7, m64_8, m64_9, m64_10, m64_13, m64_20, m64_27, m64_60, e3, sub1v]
      refine ⟨by omega, ?_⟩
      refine (m_isSo (MT_34 c1) (TN_fr hW.2.2.1 hg.2 (fun i p q => ?_)) (key j hj).2 (key j hj).1 (by omega)).mono ?_
      · rw [up_o (by omega), c3 _ _ _ _ (by omega), hF _ _ _ _ (by omega)]
      rintro ⟨r, h4⟩ ⟨d1, d2⟩
      dsimp only at d1 d2
      subst d1
      have hF3 : FrM g h4 := hF.tr (c3.tr ((FrM.up (by decide)).tr d2))
      exact ⟨rfl, hF3⟩
    · rintro ⟨v, x, z⟩ ⟨hx, hv, hF⟩
      dsimp only at hx hv hF
      subst hx hv
      have e2 : z 24 3 0 0 = nI (B 2 0) := (hF _ _ _ _ (by omega)).trans hg.1.2.2
      simp (disch := omega) only [wp_some, wp_obd, wp_ob2, wp_bnd, wp_gd, wp_ite, wp_true, wp_ff, ↓l_n1, ↓l_n2, ↓l_n3, ↓l_n4, ↓l_n10, ↓l_n20, l_0, l_1, l_2, l_3, l_4, l_5, l_6, l_7, l_8, l_9, l_10, l_13, l_14, l_15, l_16, l_20, l_21, l_24, l_27, l_28, l_30, l_31, l_32, l_35, l_36, l_39, l_40, l_41, l_43, l_44, l_45, l_46, l_47, l_48, l_49, l_56, l_57, l_59, l_60, l_79, l_97, l_122, l_160, l_237, l_255, l_320, l_999, l_1000, nI_add, pk_mul, nI_eq, nI_leI, nI_ltI, nI_clamp, inb_nI_iff, e_within, e_in32, e_asNumber, e_flag, decide_eq_true_eq, Sum.elim_inl, Sum.elim_inr, true_implies, not_true_eq_false, not_false_eq_true, false_implies, and_true, true_and, nI_nn, nn_nI, nn_nn, ↓reduceIte, if_true, if_false, Nat.le_refl, implies_true, Nat.lt_irrefl, and_self_left, win1, nI_le_s1, Nat.zero_le, up_s, up_o, Nat.zero_add, m64_0, m64_1, m64_2, m64_3, m64_7, m64_8, m64_9, m64_10, m64_13, m64_20, m64_27, m64_60, e2]
      exact hF
theorem c_seenFalse (hK : KN h B T) (hW : WN B T) {s : Nat} (hs : s < 64) : Ok (f_X9_isSeenWithFalse (nI s) h) (fun q => q.1 = hld (fk B s (B 1 0)) T ∧ FrO h q.2 1) := by
  have w1 := hW.1.2.1
  unfold f_X9_isSeenWithFalse
  rw [wp_obd]
  refine (t_copy hK hW).mono ?_
  rintro h1 ⟨a1, a2, a3⟩
  rw [wp_obd]
  refine (ok_up (K := fun h' => CB0 h' 1 (fk B s (B 1 0)) ∧ HL h' 1 (fk B s (B 1 0)) ∧ FrB h1 h' 1) (B 1 0) (fun j z => z.1 = nI j ∧ CB0 z.2 1 (fk B s j) ∧ HL z.2 1 (fk B s j) ∧ FrB h1 z.2 1) (by omega) ?_ ?_ _ ⟨rfl, by rw [fk_0]; exact a1, by rw [fk_0]; exact a2, FrB.rf⟩).mono ?_
  · rintro j ⟨x, z⟩ hj ⟨hx, k1, k2, k3⟩
    dsimp only at hx k1 k2 k3
    subst hx
    have e1 : z 1 2 1 0 = nI (B 1 0) := by rw [k1.2.1, fk_f (by decide)]
    have eb := bit6 s hs j (by omega)
    have hb : s / 2 ^ j % 2 < 2 := Nat.mod_lt _ (by decide)
    have fin : ∀ v, v = s / 2 ^ j % 2 → CB0 (up z 6 1 1 j (nI v)) 1 (fk B s (j + 1)) ∧ HL (up z 6 1 1 j (nI v)) 1 (fk B s (j + 1)) ∧ FrB h1 (up z 6 1 1 j (nI v)) 1 := by
      rintro v rfl
      rw [← fk_s]
      exact ⟨CB_10 k1, HL_up k2 (by decide) (ub_n (by decide)) (ub_n (by decide)) (fun c _ => ub_n (by decide)), k3.tr (FrB.up (by decide))⟩
    generalize s / 2 ^ j % 2 = d at eb hb fin
    simp (disch := omega) only [wp_some, wp_obd, wp_ob2, wp_bnd, wp_gd, wp_ite, wp_true, wp_ff, ↓l_n1, ↓l_n2, ↓l_n3, ↓l_n4, ↓l_n10, ↓l_n20, l_0, l_1, l_2, l_3, l_4, l_5, l_6, l_7, l_8, l_9, l_10, l_13, l_14, l_15, l_16, l_20, l_21, l_24, l_27, l_28, l_30, l_31, l_32, l_35, l_36, l_39, l_40, l_41, l_43, l_44, l_45, l_46, l_47, l_48, l_49, l_56, l_57, l_59, l_60, l_79, l_97, l_122, l_160, l_237, l_255, l_320, l_999, l_1000, nI_add, pk_mul, nI_eq, nI_leI, nI_ltI, nI_clamp, inb_nI_iff, e_within, e_in32, e_asNumber, e_flag, decide_eq_true_eq, Sum.elim_inl, Sum.elim_inr, true_implies, not_true_eq_false, not_false_eq_true, false_implies, and_true, true_and, nI_nn, nn_nI, nn_nn, ↓reduceIte, if_true, if_false, Nat.le_refl, implies_true, Nat.lt_irrefl, and_self_left, win1, nI_le_s1, Nat.zero_le, up_s, up_o, Nat.zero_add, m64_0, m64_1, m64_2, m64_3, m64_7, m64_8, m64_9, m64_10, m64_13, m64_20, m64_27, m64_60, e1, eb]
    refine ⟨fun e => by omega, fun _ => ⟨by omega, ?_⟩⟩
    have : d = 0 ∨ d = 1 := by omega
    rcases this with rfl | rfl
    · repeat' (with_reducible (first | apply And.intro | intro _))
      all_goals first | omega | exact (fin _ rfl).1 | exact (fin _ rfl).2.1 | exact (fin _ rfl).2.2 | contradiction
    · repeat' (with_reducible (first | apply And.intro | intro _))
      all_goals first | omega | exact (fin _ rfl).1 | exact (fin _ rfl).2.1 | exact (fin _ rfl).2.2 | contradiction
  · rintro ⟨x, z⟩ ⟨hx, k1, k2, k3⟩
    dsimp only at hx k1 k2 k3
    subst hx
    have e1 : z 1 2 1 0 = nI (B 1 0) := by rw [k1.2.1, fk_f (by decide)]
    simp (disch := omega) only [wp_some, wp_obd, wp_ob2, wp_bnd, wp_gd, wp_ite, wp_true, wp_ff, ↓l_n1, ↓l_n2, ↓l_n3, ↓l_n4, ↓l_n10, ↓l_n20, l_0, l_1, l_2, l_3, l_4, l_5, l_6, l_7, l_8, l_9, l_10, l_13, l_14, l_15, l_16, l_20, l_21, l_24, l_27, l_28, l_30, l_31, l_32, l_35, l_36, l_39, l_40, l_41, l_43, l_44, l_45, l_46, l_47, l_48, l_49, l_56, l_57, l_59, l_60, l_79, l_97, l_122, l_160, l_237, l_255, l_320, l_999, l_1000, nI_add, pk_mul, nI_eq, nI_leI, nI_ltI, nI_clamp, inb_nI_iff, e_within, e_in32, e_asNumber, e_flag, decide_eq_true_eq, Sum.elim_inl, Sum.elim_inr, true_implies, not_true_eq_false, not_false_eq_true, false_implies, and_true, true_and, nI_nn, nn_nI, nn_nn, ↓reduceIte, if_true, if_false, Nat.le_refl, implies_true, Nat.lt_irrefl, and_self_left, win1, nI_le_s1, Nat.zero_le, up_s, up_o, Nat.zero_add, m64_0, m64_1, m64_2, m64_3, m64_7, m64_8, m64_9, m64_10, m64_13, m64_20, m64_27, m64_60, e1]
    exact ⟨k1, k2, k3⟩
  rintro h2 ⟨b1, b2, b3⟩
  rw [wp_ob2]
  refine (c_holdFor b1 b2 (CSg_fr hK.2.2 (fun a b c d e => ?_)) (WT_of hW.2.2 (fk_f (by decide))) (WF_fk hW.1 _) (by omega)).mono ?_
  · rw [b3 _ _ _ _ (by omega), a3 _ _ _ _ (by omega)]
  rintro ⟨r, h4⟩ ⟨d1, d2⟩
  exact wp_some.mpr ⟨d1, a3.tr (b3.o.tr d2.o)⟩
theorem o_fakes (p : Int32) (hR : RI h) : Ok (f_X9_fakes p h) (fun q => Ok (f_X10_fakes p q.2) (fun r => q.1 = r.1 ∧ RI r.2)) := by
  have hR0 := hR
  obtain ⟨B, T, hK, hN, hW, hRs⟩ := hR
  obtain ⟨hM0, hM1, hM2, hM3, hM4, hM5, hM6, hM7, hM8, hM9, hM10⟩ := hK.1
  obtain ⟨⟨⟨s0, s1, s2, s3, s4, s5, s6⟩, n0, n2⟩, hT⟩ := id hN
  have w0 := hW.1.1
  have w1 := hW.1.2.1
  have w2 := hW.1.2.2.1
  by_cases hp : nI 0 ≤ p ∧ p ≤ nI 3
  · have hN2 : 1 ≤ 2 ^ B 1 0 ∧ 2 ^ B 1 0 ≤ 64 := ⟨Nat.one_le_two_pow, Nat.pow_le_pow_right (n := 2) (by decide) w1⟩
    have hsh := sh1 (B 1 0) w1
    generalize 2 ^ B 1 0 = N at hN2 hsh
    have hsb : nI N - nI 1 = nI (N - 1) := nI_dec hN2.1
    refine comb (v := fkr p (nI (N - 1)) (fks (fun s => hld (fk B s (B 1 0)) T) (nI (N - 1)) N)) hR0 hN hW ?_ (fun g hg => ?_)
    · unfold f_X9_fakes
      simp (disch := omega) only [wp_some, wp_obd, wp_ob2, wp_bnd, wp_gd, wp_ite, wp_true, wp_ff, ↓l_n1, ↓l_n2, ↓l_n3, ↓l_n4, ↓l_n10, ↓l_n20, l_0, l_1, l_2, l_3, l_4, l_5, l_6, l_7, l_8, l_9, l_10, l_13, l_14, l_15, l_16, l_20, l_21, l_24, l_27, l_28, l_30, l_31, l_32, l_35, l_36, l_39, l_40, l_41, l_43, l_44, l_45, l_46, l_47, l_48, l_49, l_56, l_57, l_59, l_60, l_79, l_97, l_122, l_160, l_237, l_255, l_320, l_999, l_1000, nI_add, pk_mul, nI_eq, nI_leI, nI_ltI, nI_clamp, inb_nI_iff, e_within, e_in32, e_asNumber, e_flag, decide_eq_true_eq, Sum.elim_inl, Sum.elim_inr, true_implies, not_true_eq_false, not_false_eq_true, false_implies, and_true, true_and, nI_nn, nn_nI, nn_nn, ↓reduceIte, if_true, if_false, Nat.le_refl, implies_true, Nat.lt_irrefl, and_self_left, win1, nI_le_s1, Nat.zero_le, up_s, up_o, Nat.zero_add, m64_0, m64_1, m64_2, m64_3, m64_7, m64_8, m64_9, m64_10, m64_13, m64_20, m64_27, m64_60, hp, hM1, hsh, hsb]
      refine (ok_up (K := fun e => (e.1, e.2.1, e.2.2.1, e.2.2.2.1) = fks (fun s => hld (fk B s (B 1 0)) T) (nI (N - 1)) N ∧ FrO h e.2.2.2.2 1) N (fun j z => z.2.2.2.2.1 = nI j ∧ (z.1, z.2.1, z.2.2.1, z.2.2.2.1) = fks (fun s => hld (fk B s (B 1 0)) T) (nI (N - 1)) j ∧ FrO h z.2.2.2.2.2 1) (by omega) ?_ ?_ _ ⟨rfl, rfl, FrO.rf⟩).mono ?_
      · rintro j ⟨q1, q2, q3, q4, x, z⟩ hj ⟨hx, hv, hF⟩
        dsimp only at hx hv hF
        subst hx
        simp (disch := omega) only [wp_some, wp_obd, wp_ob2, wp_bnd, wp_gd, wp_ite, wp_true, wp_ff, ↓l_n1, ↓l_n2, ↓l_n3, ↓l_n4, ↓l_n10, ↓l_n20, l_0, l_1, l_2, l_3, l_4, l_5, l_6, l_7, l_8, l_9, l_10, l_13, l_14, l_15, l_16, l_20, l_21, l_24, l_27, l_28, l_30, l_31, l_32, l_35, l_36, l_39, l_40, l_41, l_43, l_44, l_45, l_46, l_47, l_48, l_49, l_56, l_57, l_59, l_60, l_79, l_97, l_122, l_160, l_237, l_255, l_320, l_999, l_1000, nI_add, pk_mul, nI_eq, nI_leI, nI_ltI, nI_clamp, inb_nI_iff, e_within, e_in32, e_asNumber, e_flag, decide_eq_true_eq, Sum.elim_inl, Sum.elim_inr, true_implies, not_true_eq_false, not_false_eq_true, false_implies, and_true, true_and, nI_nn, nn_nI, nn_nn, ↓reduceIte, if_true, if_false, Nat.le_refl, implies_true, Nat.lt_irrefl, and_self_left, win1, nI_le_s1, Nat.zero_le, up_s, up_o, Nat.zero_add, m64_0, m64_1, m64_2, m64_3, m64_7, m64_8, m64_9, m64_10, m64_13, m64_20, m64_27, m64_60]
        refine ⟨fun e => by omega, fun _ => ?_⟩
        refine (c_seenFalse (KN_o hK hF) hW (by omega)).mono ?_
        rintro ⟨r, h1⟩ ⟨a1, a2⟩
        dsimp only at a1 a2
        subst a1
        cases hs : hld (fk B j (B 1 0)) T with
        | false =>
          simp (disch := omega) only [wp_some, wp_obd, wp_ob2, wp_bnd, wp_gd, wp_ite, wp_true, wp_ff, ↓l_n1, ↓l_n2, ↓l_n3, ↓l_n4, ↓l_n10, ↓l_n20, l_0, l_1, l_2, l_3, l_4, l_5, l_6, l_7, l_8, l_9, l_10, l_13, l_14, l_15, l_16, l_20, l_21, l_24, l_27, l_28, l_30, l_31, l_32, l_35, l_36, l_39, l_40, l_41, l_43, l_44, l_45, l_46, l_47, l_48, l_49, l_56, l_57, l_59, l_60, l_79, l_97, l_122, l_160, l_237, l_255, l_320, l_999, l_1000, nI_add, pk_mul, nI_eq, nI_leI, nI_ltI, nI_clamp, inb_nI_iff, e_within, e_in32, e_asNumber, e_flag, decide_eq_true_eq, Sum.elim_inl, Sum.elim_inr, true_implies, not_true_eq_false, not_false_eq_true, false_implies, and_true, true_and, nI_nn, nn_nI, nn_nn, ↓reduceIte, if_true, if_false, Nat.le_refl, implies_true, Nat.lt_irrefl, and_self_left, win1, nI_le_s1, Nat.zero_le, up_s, up_o, Nat.zero_add, m64_0, m64_1, m64_2, m64_3, m64_7, m64_8, m64_9, m64_10, m64_13, m64_20, m64_27, m64_60]
          exact ⟨by rw [fks_f hs]; exact hv, hF.tr a2⟩
        | true =>
          have hv2 := fks_t (p := fun s => hld (fk B s (B 1 0)) T) (a := nI (N - 1)) (n := j) hs
          rw [← hv] at hv2
          dsimp only at hv2
          rw [hv2]
          by_cases h0 : q1 = nI 0
          · subst h0
            simp (disch := omega) only [wp_some, wp_obd, wp_ob2, wp_bnd, wp_gd, wp_ite, wp_true, wp_ff, ↓l_n1, ↓l_n2, ↓l_n3, ↓l_n4, ↓l_n10, ↓l_n20, l_0, l_1, l_2, l_3, l_4, l_5, l_6, l_7, l_8, l_9, l_10, l_13, l_14, l_15, l_16, l_20, l_21, l_24, l_27, l_28, l_30, l_31, l_32, l_35, l_36, l_39, l_40, l_41, l_43, l_44, l_45, l_46, l_47, l_48, l_49, l_56, l_57, l_59, l_60, l_79, l_97, l_122, l_160, l_237, l_255, l_320, l_999, l_1000, nI_add, pk_mul, nI_eq, nI_leI, nI_ltI, nI_clamp, inb_nI_iff, e_within, e_in32, e_asNumber, e_flag, decide_eq_true_eq, Sum.elim_inl, Sum.elim_inr, true_implies, not_true_eq_false, not_false_eq_true, false_implies, and_true, true_and, nI_nn, nn_nI, nn_nn, ↓reduceIte, if_true, if_false, Nat.le_refl, implies_true, Nat.lt_irrefl, and_self_left, win1, nI_le_s1, Nat.zero_le, up_s, up_o, Nat.zero_add, m64_0, m64_1, m64_2, m64_3, m64_7, m64_8, m64_9, m64_10, m64_13, m64_20, m64_27, m64_60]
            exact hF.tr a2
          · simp (disch := omega) only [wp_some, wp_obd, wp_ob2, wp_bnd, wp_gd, wp_ite, wp_true, wp_ff, ↓l_n1, ↓l_n2, ↓l_n3, ↓l_n4, ↓l_n10, ↓l_n20, l_0, l_1, l_2, l_3, l_4, l_5, l_6, l_7, l_8, l_9, l_10, l_13, l_14, l_15, l_16, l_20, l_21, l_24, l_27, l_28, l_30, l_31, l_32, l_35, l_36, l_39, l_40, l_41, l_43, l_44, l_45, l_46, l_47, l_48, l_49, l_56, l_57, l_59, l_60, l_79, l_97, l_122, l_160, l_237, l_255, l_320, l_999, l_1000, nI_add, pk_mul, nI_eq, nI_leI, nI_ltI, nI_clamp, inb_nI_iff, e_within, e_in32, e_asNumber, e_flag, decide_eq_true_eq, Sum.elim_inl, Sum.elim_inr, true_implies, not_true_eq_false, not_false_eq_true, false_implies, and_true, true_and, nI_nn, nn_nI, nn_nn, ↓reduceIte, if_true, if_false, Nat.le_refl, implies_true, Nat.lt_irrefl, and_self_left, win1, nI_le_s1, Nat.zero_le, up_s, up_o, Nat.zero_add, m64_0, m64_1, m64_2, m64_3, m64_7, m64_8, m64_9, m64_10, m64_13, m64_20, m64_27, m64_60, h0]
            exact hF.tr a2
      · rintro ⟨q1, q2, q3, q4, x, z⟩ ⟨hx, hv, hF⟩
        dsimp only at hx hv hF
        subst hx
        simp (disch := omega) only [wp_some, wp_obd, wp_ob2, wp_bnd, wp_gd, wp_ite, wp_true, wp_ff, ↓l_n1, ↓l_n2, ↓l_n3, ↓l_n4, ↓l_n10, ↓l_n20, l_0, l_1, l_2, l_3, l_4, l_5, l_6, l_7, l_8, l_9, l_10, l_13, l_14, l_15, l_16, l_20, l_21, l_24, l_27, l_28, l_30, l_31, l_32, l_35, l_36, l_39, l_40, l_41, l_43, l_44, l_45, l_46, l_47, l_48, l_49, l_56, l_57, l_59, l_60, l_79, l_97, l_122, l_160, l_237, l_255, l_320, l_999, l_1000, nI_add, pk_mul, nI_eq, nI_leI, nI_ltI, nI_clamp, inb_nI_iff, e_within, e_in32, e_asNumber, e_flag, decide_eq_true_eq, Sum.elim_inl, Sum.elim_inr, true_implies, not_true_eq_false, not_false_eq_true, false_implies, and_true, true_and, nI_nn, nn_nI, nn_nn, ↓reduceIte, if_true, if_false, Nat.le_refl, implies_true, Nat.lt_irrefl, and_self_left, win1, nI_le_s1, Nat.zero_le, up_s, up_o, Nat.zero_add, m64_0, m64_1, m64_2, m64_3, m64_7, m64_8, m64_9, m64_10, m64_13, m64_20, m64_27, m64_60]
        exact ⟨fun _ => ⟨hv, hF⟩, fun e => by omega⟩
      rintro ⟨q1, q2, q3, q4, h2⟩ ⟨e1, e2⟩
      dsimp only at e1 e2
      by_cases h0 : p = nI 0
      · subst h0
        simp (disch := omega) only [wp_some, wp_obd, wp_ob2, wp_bnd, wp_gd, wp_ite, wp_true, wp_ff, ↓l_n1, ↓l_n2, ↓l_n3, ↓l_n4, ↓l_n10, ↓l_n20, l_0, l_1, l_2, l_3, l_4, l_5, l_6, l_7, l_8, l_9, l_10, l_13, l_14, l_15, l_16, l_20, l_21, l_24, l_27, l_28, l_30, l_31, l_32, l_35, l_36, l_39, l_40, l_41, l_43, l_44, l_45, l_46, l_47, l_48, l_49, l_56, l_57, l_59, l_60, l_79, l_97, l_122, l_160, l_237, l_255, l_320, l_999, l_1000, nI_add, pk_mul, nI_eq, nI_leI, nI_ltI, nI_clamp, inb_nI_iff, e_within, e_in32, e_asNumber, e_flag, decide_eq_true_eq, Sum.elim_inl, Sum.elim_inr, true_implies, not_true_eq_false, not_false_eq_true, false_implies, and_true, true_and, nI_nn, nn_nI, nn_nn, ↓reduceIte, if_true, if_false, Nat.le_refl, implies_true, Nat.lt_irrefl, and_self_left, win1, nI_le_s1, Nat.zero_le, up_s, up_o, Nat.zero_add, m64_0, m64_1, m64_2, m64_3, m64_7, m64_8, m64_9, m64_10, m64_13, m64_20, m64_27, m64_60]
        exact ⟨by rw [← e1]; simp [fkr], e2.fra (Or.inl rfl)⟩
      · by_cases h1 : q1 = nI 0
        · subst h1
          simp (disch := omega) only [wp_some, wp_obd, wp_ob2, wp_bnd, wp_gd, wp_ite, wp_true, wp_ff, ↓l_n1, ↓l_n2, ↓l_n3, ↓l_n4, ↓l_n10, ↓l_n20, l_0, l_1, l_2, l_3, l_4, l_5, l_6, l_7, l_8, l_9, l_10, l_13, l_14, l_15, l_16, l_20, l_21, l_24, l_27, l_28, l_30, l_31, l_32, l_35, l_36, l_39, l_40, l_41, l_43, l_44, l_45, l_46, l_47, l_48, l_49, l_56, l_57, l_59, l_60, l_79, l_97, l_122, l_160, l_237, l_255, l_320, l_999, l_1000, nI_add, pk_mul, nI_eq, nI_leI, nI_ltI, nI_clamp, inb_nI_iff, e_within, e_in32, e_asNumber, e_flag, decide_eq_true_eq, Sum.elim_inl, Sum.elim_inr, true_implies, not_true_eq_false, not_false_eq_true, false_implies, and_true, true_and, nI_nn, nn_nI, nn_nn, ↓reduceIte, if_true, if_false, Nat.le_refl, implies_true, Nat.lt_irrefl, and_self_left, win1, nI_le_s1, Nat.zero_le, up_s, up_o, Nat.zero_add, m64_0, m64_1, m64_2, m64_3, m64_7, m64_8, m64_9, m64_10, m64_13, m64_20, m64_27, m64_60, h0]
          exact ⟨by rw [← e1]; simp [fkr, h0], e2.fra (Or.inl rfl)⟩
        · by_cases h11 : p = nI 1
          · have h0' := h0
            subst h11
            simp (disch := omega) only [wp_some, wp_obd, wp_ob2, wp_bnd, wp_gd, wp_ite, wp_true, wp_ff, ↓l_n1, ↓l_n2, ↓l_n3, ↓l_n4, ↓l_n10, ↓l_n20, l_0, l_1, l_2, l_3, l_4, l_5, l_6, l_7, l_8, l_9, l_10, l_13, l_14, l_15, l_16, l_20, l_21, l_24, l_27, l_28, l_30, l_31, l_32, l_35, l_36, l_39, l_40, l_41, l_43, l_44, l_45, l_46, l_47, l_48, l_49, l_56, l_57, l_59, l_60, l_79, l_97, l_122, l_160, l_237, l_255, l_320, l_999, l_1000, nI_add, pk_mul, nI_eq, nI_leI, nI_ltI, nI_clamp, inb_nI_iff, e_within, e_in32, e_asNumber, e_flag, decide_eq_true_eq, Sum.elim_inl, Sum.elim_inr, true_implies, not_true_eq_false, not_false_eq_true, false_implies, and_true, true_and, nI_nn, nn_nI, nn_nn, ↓reduceIte, if_true, if_false, Nat.le_refl, implies_true, Nat.lt_irrefl, and_self_left, win1, nI_le_s1, Nat.zero_le, up_s, up_o, Nat.zero_add, m64_0, m64_1, m64_2, m64_3, m64_7, m64_8, m64_9, m64_10, m64_13, m64_20, m64_27, m64_60, h1, Nat.reduceEqDiff]
            exact ⟨by rw [← e1]; unfold fkr; rw [if_neg h0', if_neg h1, if_pos rfl], e2.fra (Or.inl rfl)⟩
          · by_cases h12 : p = nI 2
            · have h0' := h0
              have h11' := h11
              subst h12
              simp (disch := omega) only [wp_some, wp_obd, wp_ob2, wp_bnd, wp_gd, wp_ite, wp_true, wp_ff, ↓l_n1, ↓l_n2, ↓l_n3, ↓l_n4, ↓l_n10, ↓l_n20, l_0, l_1, l_2, l_3, l_4, l_5, l_6, l_7, l_8, l_9, l_10, l_13, l_14, l_15, l_16, l_20, l_21, l_24, l_27, l_28, l_30, l_31, l_32, l_35, l_36, l_39, l_40, l_41, l_43, l_44, l_45, l_46, l_47, l_48, l_49, l_56, l_57, l_59, l_60, l_79, l_97, l_122, l_160, l_237, l_255, l_320, l_999, l_1000, nI_add, pk_mul, nI_eq, nI_leI, nI_ltI, nI_clamp, inb_nI_iff, e_within, e_in32, e_asNumber, e_flag, decide_eq_true_eq, Sum.elim_inl, Sum.elim_inr, true_implies, not_true_eq_false, not_false_eq_true, false_implies, and_true, true_and, nI_nn, nn_nI, nn_nn, ↓reduceIte, if_true, if_false, Nat.le_refl, implies_true, Nat.lt_irrefl, and_self_left, win1, nI_le_s1, Nat.zero_le, up_s, up_o, Nat.zero_add, m64_0, m64_1, m64_2, m64_3, m64_7, m64_8, m64_9, m64_10, m64_13, m64_20, m64_27, m64_60, h1, Nat.reduceEqDiff]
              exact ⟨by rw [← e1]; unfold fkr; rw [if_neg h0', if_neg h1, if_neg h11', if_pos rfl], e2.fra (Or.inl rfl)⟩
            · simp (disch := omega) only [wp_some, wp_obd, wp_ob2, wp_bnd, wp_gd, wp_ite, wp_true, wp_ff, ↓l_n1, ↓l_n2, ↓l_n3, ↓l_n4, ↓l_n10, ↓l_n20, l_0, l_1, l_2, l_3, l_4, l_5, l_6, l_7, l_8, l_9, l_10, l_13, l_14, l_15, l_16, l_20, l_21, l_24, l_27, l_28, l_30, l_31, l_32, l_35, l_36, l_39, l_40, l_41, l_43, l_44, l_45, l_46, l_47, l_48, l_49, l_56, l_57, l_59, l_60, l_79, l_97, l_122, l_160, l_237, l_255, l_320, l_999, l_1000, nI_add, pk_mul, nI_eq, nI_leI, nI_ltI, nI_clamp, inb_nI_iff, e_within, e_in32, e_asNumber, e_flag, decide_eq_true_eq, Sum.elim_inl, Sum.elim_inr, true_implies, not_true_eq_false, not_false_eq_true, false_implies, and_true, true_and, nI_nn, nn_nI, nn_nn, ↓reduceIte, if_true, if_false, Nat.le_refl, implies_true, Nat.lt_irrefl, and_self_left, win1, nI_le_s1, Nat.zero_le, up_s, up_o, Nat.zero_add, m64_0, m64_1, m64_2, m64_3, m64_7, m64_8, m64_9, m64_10, m64_13, m64_20, m64_27, m64_60, h0, h1, h11, h12]
              exact ⟨by rw [← e1]; unfold fkr; rw [if_neg h0, if_neg h1, if_neg h11, if_neg h12], e2.fra (Or.inl rfl)⟩
    · unfold f_X10_fakes
      simp (disch := omega) only [wp_some, wp_obd, wp_ob2, wp_bnd, wp_gd, wp_ite, wp_true, wp_ff, ↓l_n1, ↓l_n2, ↓l_n3, ↓l_n4, ↓l_n10, ↓l_n20, l_0, l_1, l_2, l_3, l_4, l_5, l_6, l_7, l_8, l_9, l_10, l_13, l_14, l_15, l_16, l_20, l_21, l_24, l_27, l_28, l_30, l_31, l_32, l_35, l_36, l_39, l_40, l_41, l_43, l_44, l_45, l_46, l_47, l_48, l_49, l_56, l_57, l_59, l_60, l_79, l_97, l_122, l_160, l_237, l_255, l_320, l_999, l_1000, nI_add, pk_mul, nI_eq, nI_leI, nI_ltI, nI_clamp, inb_nI_iff, e_within, e_in32, e_asNumber, e_flag, decide_eq_true_eq, Sum.elim_inl, Sum.elim_inr, true_implies, not_true_eq_false, not_false_eq_true, false_implies, and_true, true_and, nI_nn, nn_nI, nn_nn, ↓reduceIte, if_true, if_false, Nat.le_refl, implies_true, Nat.lt_irrefl, and_self_left, win1, nI_le_s1, Nat.zero_le, up_s, up_o, Nat.zero_add, m64_0, m64_1, m64_2, m64_3, m64_7, m64_8, m64_9, m64_10, m64_13, m64_20, m64_27, m64_60, hp, hg.1.1.2.1, hsh, hsb]
      refine (ok_up (K := fun e => (e.1, e.2.1, e.2.2.1, e.2.2.2.1) = fks (fun s => hld (fk B s (B 1 0)) T) (nI (N - 1)) N ∧ FrM g e.2.2.2.2) N (fun j z => z.2.2.2.2.1 = nI j ∧ (z.1, z.2.1, z.2.2.1, z.2.2.2.1) = fks (fun s => hld (fk B s (B 1 0)) T) (nI (N - 1)) j ∧ FrM g z.2.2.2.2.2) (by omega) ?_ ?_ _ ⟨rfl, rfl, FrM.rf⟩).mono ?_
      · rintro j ⟨q1, q2, q3, q4, x, z⟩ hj ⟨hx, hv, hF⟩
        dsimp only at hx hv hF
        subst hx
        simp (disch := omega) only [wp_some, wp_obd, wp_ob2, wp_bnd, wp_gd, wp_ite, wp_true, wp_ff, ↓l_n1, ↓l_n2, ↓l_n3, ↓l_n4, ↓l_n10, ↓l_n20, l_0, l_1, l_2, l_3, l_4, l_5, l_6, l_7, l_8, l_9, l_10, l_13, l_14, l_15, l_16, l_20, l_21, l_24, l_27, l_28, l_30, l_31, l_32, l_35, l_36, l_39, l_40, l_41, l_43, l_44, l_45, l_46, l_47, l_48, l_49, l_56, l_57, l_59, l_60, l_79, l_97, l_122, l_160, l_237, l_255, l_320, l_999, l_1000, nI_add, pk_mul, nI_eq, nI_leI, nI_ltI, nI_clamp, inb_nI_iff, e_within, e_in32, e_asNumber, e_flag, decide_eq_true_eq, Sum.elim_inl, Sum.elim_inr, true_implies, not_true_eq_false, not_false_eq_true, false_implies, and_true, true_and, nI_nn, nn_nI, nn_nn, ↓reduceIte, if_true, if_false, Nat.le_refl, implies_true, Nat.lt_irrefl, and_self_left, win1, nI_le_s1, Nat.zero_le, up_s, up_o, Nat.zero_add, m64_0, m64_1, m64_2, m64_3, m64_7, m64_8, m64_9, m64_10, m64_13, m64_20, m64_27, m64_60]
        refine ⟨fun e => by omega, fun _ => ?_⟩
        refine (t_starts (RN_m hg hW hF) hW).mono ?_
        rintro h3 ⟨c1, c3⟩
        refine (ok_up (K := fun h' => MT h' (fk B j (B 1 0)) ∧ FrM h3 h') (B 1 0) (fun i y => y.1 = nI i ∧ MT y.2 (fk B j i) ∧ FrM h3 y.2) (by omega) ?_ ?_ _ ⟨rfl, by rw [fk_0]; exact c1, FrM.rf⟩).mono ?_
        · rintro i ⟨x, y⟩ hi ⟨hx, h1, h2⟩
          dsimp only at hx h1 h2
          subst hx
          have e1 : y 25 0 0 8 = nI (B 1 0) := by rw [h1.2.1, fk_f (by decide)]
          have eb := bit6 j (by omega) i (by omega)
          simp (disch := omega) only [wp_some, wp_obd, wp_ob2, wp_bnd, wp_gd, wp_ite, wp_true, wp_ff, ↓l_n1, ↓l_n2, ↓l_n3, ↓l_n4, ↓l_n10, ↓l_n20, l_0, l_1, l_2, l_3, l_4, l_5, l_6, l_7, l_8, l_9, l_10, l_13, l_14, l_15, l_16, l_20, l_21, l_24, l_27, l_28, l_30, l_31, l_32, l_35, l_36, l_39, l_40, l_41, l_43, l_44, l_45, l_46, l_47, l_48, l_49, l_56, l_57, l_59, l_60, l_79, l_97, l_122, l_160, l_237, l_255, l_320, l_999, l_1000, nI_add, pk_mul, nI_eq, nI_leI, nI_ltI, nI_clamp, inb_nI_iff, e_within, e_in32, e_asNumber, e_flag, decide_eq_true_eq, Sum.elim_inl, Sum.elim_inr, true_implies, not_true_eq_false, not_false_eq_true, false_implies, and_true, true_and, nI_nn, nn_nI, nn_nn, ↓reduceIte, if_true, if_false, Nat.le_refl, implies_true, Nat.lt_irrefl, and_self_left, win1, nI_le_s1, Nat.zero_le, up_s, up_o, Nat.zero_add, m64_0, m64_1, m64_2, m64_3, m64_7, m64_8, m64_9, m64_10, m64_13, m64_20, m64_27, m64_60, e1, eb]
          refine ⟨fun e => by omega, fun _ => ⟨by omega, ?_⟩⟩
          rw [← fk_s]
          exact ⟨MT_30 h1, h2.tr (FrM.up (by decide))⟩
        · rintro ⟨x, y⟩ ⟨hx, h1, h2⟩
          dsimp only at hx h1 h2
          subst hx
          have e1 : y 25 0 0 8 = nI (B 1 0) := by rw [h1.2.1, fk_f (by decide)]
          simp (disch := omega) only [wp_some, wp_obd, wp_ob2, wp_bnd, wp_gd, wp_ite, wp_true, wp_ff, ↓l_n1, ↓l_n2, ↓l_n3, ↓l_n4, ↓l_n10, ↓l_n20, l_0, l_1, l_2, l_3, l_4, l_5, l_6, l_7, l_8, l_9, l_10, l_13, l_14, l_15, l_16, l_20, l_21, l_24, l_27, l_28, l_30, l_31, l_32, l_35, l_36, l_39, l_40, l_41, l_43, l_44, l_45, l_46, l_47, l_48, l_49, l_56, l_57, l_59, l_60, l_79, l_97, l_122, l_160, l_237, l_255, l_320, l_999, l_1000, nI_add, pk_mul, nI_eq, nI_leI, nI_ltI, nI_clamp, inb_nI_iff, e_within, e_in32, e_asNumber, e_flag, decide_eq_true_eq, Sum.elim_inl, Sum.elim_inr, true_implies, not_true_eq_false, not_false_eq_true, false_implies, and_true, true_and, nI_nn, nn_nI, nn_nn, ↓reduceIte, if_true, if_false, Nat.le_refl, implies_true, Nat.lt_irrefl, and_self_left, win1, nI_le_s1, Nat.zero_le, up_s, up_o, Nat.zero_add, m64_0, m64_1, m64_2, m64_3, m64_7, m64_8, m64_9, m64_10, m64_13, m64_20, m64_27, m64_60, e1]
          exact ⟨h1, h2⟩
        rintro h4 ⟨d1, d2⟩
        refine (m_isSo d1 (TN_fr hW.2.2.1 hg.2 (fun i p q => ?_)) (WT_of hW.2.2 (fk_f (by decide))) (WF_fk hW.1 _) (by omega)).mono ?_
        · rw [d2 _ _ _ _ (by omega), c3 _ _ _ _ (by omega), hF _ _ _ _ (by omega)]
        rintro ⟨r, h1⟩ ⟨a1, a2'⟩
        dsimp only at a1 a2'
        subst a1
        have a2 := c3.tr (d2.tr a2')
        cases hs : hld (fk B j (B 1 0)) T with
        | false =>
          simp (disch := omega) only [wp_some, wp_obd, wp_ob2, wp_bnd, wp_gd, wp_ite, wp_true, wp_ff, ↓l_n1, ↓l_n2, ↓l_n3, ↓l_n4, ↓l_n10, ↓l_n20, l_0, l_1, l_2, l_3, l_4, l_5, l_6, l_7, l_8, l_9, l_10, l_13, l_14, l_15, l_16, l_20, l_21, l_24, l_27, l_28, l_30, l_31, l_32, l_35, l_36, l_39, l_40, l_41, l_43, l_44, l_45, l_46, l_47, l_48, l_49, l_56, l_57, l_59, l_60, l_79, l_97, l_122, l_160, l_237, l_255, l_320, l_999, l_1000, nI_add, pk_mul, nI_eq, nI_leI, nI_ltI, nI_clamp, inb_nI_iff, e_within, e_in32, e_asNumber, e_flag, decide_eq_true_eq, Sum.elim_inl, Sum.elim_inr, true_implies, not_true_eq_false, not_false_eq_true, false_implies, and_true, true_and, nI_nn, nn_nI, nn_nn, ↓reduceIte, if_true, if_false, Nat.le_refl, implies_true, Nat.lt_irrefl, and_self_left, win1, nI_le_s1, Nat.zero_le, up_s, up_o, Nat.zero_add, m64_0, m64_1, m64_2, m64_3, m64_7, m64_8, m64_9, m64_10, m64_13, m64_20, m64_27, m64_60]
          exact ⟨by rw [fks_f hs]; exact hv, hF.tr a2⟩
        | true =>
          have hv2 := fks_t (p := fun s => hld (fk B s (B 1 0)) T) (a := nI (N - 1)) (n := j) hs
          rw [← hv] at hv2
          dsimp only at hv2
          rw [hv2]
          by_cases h0 : q1 = nI 0
          · subst h0
            simp (disch := omega) only [wp_some, wp_obd, wp_ob2, wp_bnd, wp_gd, wp_ite, wp_true, wp_ff, ↓l_n1, ↓l_n2, ↓l_n3, ↓l_n4, ↓l_n10, ↓l_n20, l_0, l_1, l_2, l_3, l_4, l_5, l_6, l_7, l_8, l_9, l_10, l_13, l_14, l_15, l_16, l_20, l_21, l_24, l_27, l_28, l_30, l_31, l_32, l_35, l_36, l_39, l_40, l_41, l_43, l_44, l_45, l_46, l_47, l_48, l_49, l_56, l_57, l_59, l_60, l_79, l_97, l_122, l_160, l_237, l_255, l_320, l_999, l_1000, nI_add, pk_mul, nI_eq, nI_leI, nI_ltI, nI_clamp, inb_nI_iff, e_within, e_in32, e_asNumber, e_flag, decide_eq_true_eq, Sum.elim_inl, Sum.elim_inr, true_implies, not_true_eq_false, not_false_eq_true, false_implies, and_true, true_and, nI_nn, nn_nI, nn_nn, ↓reduceIte, if_true, if_false, Nat.le_refl, implies_true, Nat.lt_irrefl, and_self_left, win1, nI_le_s1, Nat.zero_le, up_s, up_o, Nat.zero_add, m64_0, m64_1, m64_2, m64_3, m64_7, m64_8, m64_9, m64_10, m64_13, m64_20, m64_27, m64_60]
            exact hF.tr a2
          · simp (disch := omega) only [wp_some, wp_obd, wp_ob2, wp_bnd, wp_gd, wp_ite, wp_true, wp_ff, ↓l_n1, ↓l_n2, ↓l_n3, ↓l_n4, ↓l_n10, ↓l_n20, l_0, l_1, l_2, l_3, l_4, l_5, l_6, l_7, l_8, l_9, l_10, l_13, l_14, l_15, l_16, l_20, l_21, l_24, l_27, l_28, l_30, l_31, l_32, l_35, l_36, l_39, l_40, l_41, l_43, l_44, l_45, l_46, l_47, l_48, l_49, l_56, l_57, l_59, l_60, l_79, l_97, l_122, l_160, l_237, l_255, l_320, l_999, l_1000, nI_add, pk_mul, nI_eq, nI_leI, nI_ltI, nI_clamp, inb_nI_iff, e_within, e_in32, e_asNumber, e_flag, decide_eq_true_eq, Sum.elim_inl, Sum.elim_inr, true_implies, not_true_eq_false, not_false_eq_true, false_implies, and_true, true_and, nI_nn, nn_nI, nn_nn, ↓reduceIte, if_true, if_false, Nat.le_refl, implies_true, Nat.lt_irrefl, and_self_left, win1, nI_le_s1, Nat.zero_le, up_s, up_o, Nat.zero_add, m64_0, m64_1, m64_2, m64_3, m64_7, m64_8, m64_9, m64_10, m64_13, m64_20, m64_27, m64_60, h0]
            exact hF.tr a2
      · rintro ⟨q1, q2, q3, q4, x, z⟩ ⟨hx, hv, hF⟩
        dsimp only at hx hv hF
        subst hx
        simp (disch := omega) only [wp_some, wp_obd, wp_ob2, wp_bnd, wp_gd, wp_ite, wp_true, wp_ff, ↓l_n1, ↓l_n2, ↓l_n3, ↓l_n4, ↓l_n10, ↓l_n20, l_0, l_1, l_2, l_3, l_4, l_5, l_6, l_7, l_8, l_9, l_10, l_13, l_14, l_15, l_16, l_20, l_21, l_24, l_27, l_28, l_30, l_31, l_32, l_35, l_36, l_39, l_40, l_41, l_43, l_44, l_45, l_46, l_47, l_48, l_49, l_56, l_57, l_59, l_60, l_79, l_97, l_122, l_160, l_237, l_255, l_320, l_999, l_1000, nI_add, pk_mul, nI_eq, nI_leI, nI_ltI, nI_clamp, inb_nI_iff, e_within, e_in32, e_asNumber, e_flag, decide_eq_true_eq, Sum.elim_inl, Sum.elim_inr, true_implies, not_true_eq_false, not_false_eq_true, false_implies, and_true, true_and, nI_nn, nn_nI, nn_nn, ↓reduceIte, if_true, if_false, Nat.le_refl, implies_true, Nat.lt_irrefl, and_self_left, win1, nI_le_s1, Nat.zero_le, up_s, up_o, Nat.zero_add, m64_0, m64_1, m64_2, m64_3, m64_7, m64_8, m64_9, m64_10, m64_13, m64_20, m64_27, m64_60]
        exact ⟨fun _ => ⟨hv, hF⟩, fun e => by omega⟩
      rintro ⟨q1, q2, q3, q4, h2⟩ ⟨e1, e2⟩
      dsimp only at e1 e2
      by_cases h0 : p = nI 0
      · subst h0
        simp (disch := omega) only [wp_some, wp_obd, wp_ob2, wp_bnd, wp_gd, wp_ite, wp_true, wp_ff, ↓l_n1, ↓l_n2, ↓l_n3, ↓l_n4, ↓l_n10, ↓l_n20, l_0, l_1, l_2, l_3, l_4, l_5, l_6, l_7, l_8, l_9, l_10, l_13, l_14, l_15, l_16, l_20, l_21, l_24, l_27, l_28, l_30, l_31, l_32, l_35, l_36, l_39, l_40, l_41, l_43, l_44, l_45, l_46, l_47, l_48, l_49, l_56, l_57, l_59, l_60, l_79, l_97, l_122, l_160, l_237, l_255, l_320, l_999, l_1000, nI_add, pk_mul, nI_eq, nI_leI, nI_ltI, nI_clamp, inb_nI_iff, e_within, e_in32, e_asNumber, e_flag, decide_eq_true_eq, Sum.elim_inl, Sum.elim_inr, true_implies, not_true_eq_false, not_false_eq_true, false_implies, and_true, true_and, nI_nn, nn_nI, nn_nn, ↓reduceIte, if_true, if_false, Nat.le_refl, implies_true, Nat.lt_irrefl, and_self_left, win1, nI_le_s1, Nat.zero_le, up_s, up_o, Nat.zero_add, m64_0, m64_1, m64_2, m64_3, m64_7, m64_8, m64_9, m64_10, m64_13, m64_20, m64_27, m64_60]
        exact ⟨by rw [← e1]; simp [fkr], e2.fra⟩
      · by_cases h1 : q1 = nI 0
        · subst h1
          simp (disch := omega) only [wp_some, wp_obd, wp_ob2, wp_bnd, wp_gd, wp_ite, wp_true, wp_ff, ↓l_n1, ↓l_n2, ↓l_n3, ↓l_n4, ↓l_n10, ↓l_n20, l_0, l_1, l_2, l_3, l_4, l_5, l_6, l_7, l_8, l_9, l_10, l_13, l_14, l_15, l_16, l_20, l_21, l_24, l_27, l_28, l_30, l_31, l_32, l_35, l_36, l_39, l_40, l_41, l_43, l_44, l_45, l_46, l_47, l_48, l_49, l_56, l_57, l_59, l_60, l_79, l_97, l_122, l_160, l_237, l_255, l_320, l_999, l_1000, nI_add, pk_mul, nI_eq, nI_leI, nI_ltI, nI_clamp, inb_nI_iff, e_within, e_in32, e_asNumber, e_flag, decide_eq_true_eq, Sum.elim_inl, Sum.elim_inr, true_implies, not_true_eq_false, not_false_eq_true, false_implies, and_true, true_and, nI_nn, nn_nI, nn_nn, ↓reduceIte, if_true, if_false, Nat.le_refl, implies_true, Nat.lt_irrefl, and_self_left, win1, nI_le_s1, Nat.zero_le, up_s, up_o, Nat.zero_add, m64_0, m64_1, m64_2, m64_3, m64_7, m64_8, m64_9, m64_10, m64_13, m64_20, m64_27, m64_60, h0]
          exact ⟨by rw [← e1]; simp [fkr, h0], e2.fra⟩
        · by_cases h11 : p = nI 1
          · have h0' := h0
            subst h11
            simp (disch := omega) only [wp_some, wp_obd, wp_ob2, wp_bnd, wp_gd, wp_ite, wp_true, wp_ff, ↓l_n1, ↓l_n2, ↓l_n3, ↓l_n4, ↓l_n10, ↓l_n20, l_0, l_1, l_2, l_3, l_4, l_5, l_6, l_7, l_8, l_9, l_10, l_13, l_14, l_15, l_16, l_20, l_21, l_24, l_27, l_28, l_30, l_31, l_32, l_35, l_36, l_39, l_40, l_41, l_43, l_44, l_45, l_46, l_47, l_48, l_49, l_56, l_57, l_59, l_60, l_79, l_97, l_122, l_160, l_237, l_255, l_320, l_999, l_1000, nI_add, pk_mul, nI_eq, nI_leI, nI_ltI, nI_clamp, inb_nI_iff, e_within, e_in32, e_asNumber, e_flag, decide_eq_true_eq, Sum.elim_inl, Sum.elim_inr, true_implies, not_true_eq_false, not_false_eq_true, false_implies, and_true, true_and, nI_nn, nn_nI, nn_nn, ↓reduceIte, if_true, if_false, Nat.le_refl, implies_true, Nat.lt_irrefl, and_self_left, win1, nI_le_s1, Nat.zero_le, up_s, up_o, Nat.zero_add, m64_0, m64_1, m64_2, m64_3, m64_7, m64_8, m64_9, m64_10, m64_13, m64_20, m64_27, m64_60, h1, Nat.reduceEqDiff]
            exact ⟨by rw [← e1]; unfold fkr; rw [if_neg h0', if_neg h1, if_pos rfl], e2.fra⟩
          · by_cases h12 : p = nI 2
            · have h0' := h0
              have h11' := h11
              subst h12
              simp (disch := omega) only [wp_some, wp_obd, wp_ob2, wp_bnd, wp_gd, wp_ite, wp_true, wp_ff, ↓l_n1, ↓l_n2, ↓l_n3, ↓l_n4, ↓l_n10, ↓l_n20, l_0, l_1, l_2, l_3, l_4, l_5, l_6, l_7, l_8, l_9, l_10, l_13, l_14, l_15, l_16, l_20, l_21, l_24, l_27, l_28, l_30, l_31, l_32, l_35, l_36, l_39, l_40, l_41, l_43, l_44, l_45, l_46, l_47, l_48, l_49, l_56, l_57, l_59, l_60, l_79, l_97, l_122, l_160, l_237, l_255, l_320, l_999, l_1000, nI_add, pk_mul, nI_eq, nI_leI, nI_ltI, nI_clamp, inb_nI_iff, e_within, e_in32, e_asNumber, e_flag, decide_eq_true_eq, Sum.elim_inl, Sum.elim_inr, true_implies, not_true_eq_false, not_false_eq_true, false_implies, and_true, true_and, nI_nn, nn_nI, nn_nn, ↓reduceIte, if_true, if_false, Nat.le_refl, implies_true, Nat.lt_irrefl, and_self_left, win1, nI_le_s1, Nat.zero_le, up_s, up_o, Nat.zero_add, m64_0, m64_1, m64_2, m64_3, m64_7, m64_8, m64_9, m64_10, m64_13, m64_20, m64_27, m64_60, h1, Nat.reduceEqDiff]
              exact ⟨by rw [← e1]; unfold fkr; rw [if_neg h0', if_neg h1, if_neg h11', if_pos rfl], e2.fra⟩
            · simp (disch := omega) only [wp_some, wp_obd, wp_ob2, wp_bnd, wp_gd, wp_ite, wp_true, wp_ff, ↓l_n1, ↓l_n2, ↓l_n3, ↓l_n4, ↓l_n10, ↓l_n20, l_0, l_1, l_2, l_3, l_4, l_5, l_6, l_7, l_8, l_9, l_10, l_13, l_14, l_15, l_16, l_20, l_21, l_24, l_27, l_28, l_30, l_31, l_32, l_35, l_36, l_39, l_40, l_41, l_43, l_44, l_45, l_46, l_47, l_48, l_49, l_56, l_57, l_59, l_60, l_79, l_97, l_122, l_160, l_237, l_255, l_320, l_999, l_1000, nI_add, pk_mul, nI_eq, nI_leI, nI_ltI, nI_clamp, inb_nI_iff, e_within, e_in32, e_asNumber, e_flag, decide_eq_true_eq, Sum.elim_inl, Sum.elim_inr, true_implies, not_true_eq_false, not_false_eq_true, false_implies, and_true, true_and, nI_nn, nn_nI, nn_nn, ↓reduceIte, if_true, if_false, Nat.le_refl, implies_true, Nat.lt_irrefl, and_self_left, win1, nI_le_s1, Nat.zero_le, up_s, up_o, Nat.zero_add, m64_0, m64_1, m64_2, m64_3, m64_7, m64_8, m64_9, m64_10, m64_13, m64_20, m64_27, m64_60, h0, h1, h11, h12]
              exact ⟨by rw [← e1]; unfold fkr; rw [if_neg h0, if_neg h1, if_neg h11, if_neg h12], e2.fra⟩
  · unfold f_X9_fakes f_X10_fakes
    simp (disch := omega) only [wp_some, wp_obd, wp_ob2, wp_bnd, wp_gd, wp_ite, wp_true, wp_ff, ↓l_n1, ↓l_n2, ↓l_n3, ↓l_n4, ↓l_n10, ↓l_n20, l_0, l_1, l_2, l_3, l_4, l_5, l_6, l_7, l_8, l_9, l_10, l_13, l_14, l_15, l_16, l_20, l_21, l_24, l_27, l_28, l_30, l_31, l_32, l_35, l_36, l_39, l_40, l_41, l_43, l_44, l_45, l_46, l_47, l_48, l_49, l_56, l_57, l_59, l_60, l_79, l_97, l_122, l_160, l_237, l_255, l_320, l_999, l_1000, nI_add, pk_mul, nI_eq, nI_leI, nI_ltI, nI_clamp, inb_nI_iff, e_within, e_in32, e_asNumber, e_flag, decide_eq_true_eq, Sum.elim_inl, Sum.elim_inr, true_implies, not_true_eq_false, not_false_eq_true, false_implies, and_true, true_and, nI_nn, nn_nI, nn_nn, ↓reduceIte, if_true, if_false, Nat.le_refl, implies_true, Nat.lt_irrefl, and_self_left, win1, nI_le_s1, Nat.zero_le, up_s, up_o, Nat.zero_add, m64_0, m64_1, m64_2, m64_3, m64_7, m64_8, m64_9, m64_10, m64_13, m64_20, m64_27, m64_60, hp]
    exact hR0
end Tri
