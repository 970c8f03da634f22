theorem bvm : ∀ i, i < 32 → 15 ≤ i → (32767#32).getLsbD i = false := by decide
/-- what is drawn from a seed -/
def drw (x : Int32) : Nat := ((x.toBitVec >>> 16) &&& 32767#32).toNat
theorem draw (x : Int32) : drw x < 32768 ∧ (ush x (nI 16)) &&& (32767 : Int32) = nI (drw x) ∧ (x >>> (nI 16 &&& nI 31)) &&& (32767 : Int32) = nI (drw x) := by
  have a : (ush x (nI 16)).toBitVec = x.toBitVec >>> 16 := rfl
  have b : (x >>> (nI 16 &&& nI 31)).toBitVec = x.toBitVec.sshiftRight 16 := rfl
  have c : (x.toBitVec >>> 16) &&& 32767#32 = x.toBitVec.sshiftRight 16 &&& 32767#32 := by
    apply BitVec.eq_of_getLsbD_eq
    intro i hi
    rw [BitVec.getLsbD_and, BitVec.getLsbD_and, BitVec.getLsbD_ushiftRight, BitVec.getLsbD_sshiftRight]
    by_cases h : 15 ≤ i
    · rw [bvm i hi h]; simp
    · have h1 : ¬ 32 ≤ i := by omega
      have h2 : 16 + i < 32 := by omega
      simp [h1, h2]
  have e : ∀ y : Int32, y.toBitVec = x.toBitVec >>> 16 ∨ y.toBitVec = x.toBitVec.sshiftRight 16 → y &&& (32767 : Int32) = nI (((x.toBitVec >>> 16) &&& 32767#32).toNat) := by
    intro y hy
    apply Int32.toBitVec_inj.mp
    show y.toBitVec &&& 32767#32 = BitVec.ofNat 32 _
    rw [BitVec.ofNat_toNat, BitVec.setWidth_eq]
    rcases hy with hy | hy
    · rw [hy]
    · rw [hy, c]
  refine ⟨?_, e _ (Or.inl a), e _ (Or.inr b)⟩
  unfold drw
  rw [BitVec.toNat_and]
  exact Nat.lt_of_le_of_lt Nat.and_le_right (by decide)
def sq (x : Int32) : Nat → Int32
  | 0 => x
  | n + 1 => sq x n * (1103515245 : Int32) + (12345 : Int32)
def gs (B : Bs) (x : Int32) : Nat → Bs
  | 0 => B
  | n + 1 => stp (wsh (fun v => v == drw (sq x (n + 1)) % B 0 0) (B 1 0) (gs B x n))
theorem gs_f {B : Bs} {x : Int32} {f i : Nat} (h1 : f ≠ 11) (h2 : f ≠ 5) (h3 : f ≠ 15) : ∀ {n : Nat}, gs B x n f i = B f i
  | 0 => rfl
  | n + 1 => by show stp _ f i = _; rw [stp_f h1 h2 h3, wsh_f h1, gs_f h1 h2 h3]
theorem WF_wsh {B : Bs} {S n : Nat} {p : Nat → Bool} (hW : WF S B) : WF S (wsh p n B) := by
  obtain ⟨hW0, hW1, hW2, hW3, hW4, hW5, hW6, hW7, hW8, hW9, hW10, hW11, hW12⟩ := hW
  have ef : ∀ f i, f ≠ 11 → wsh p n B f i = B f i := fun f i h => wsh_f h
  have hat : ∀ c, (wsh p n B 11 c = B 11 c) ∨ wsh p n B 11 c = 30 := by
    intro c
    unfold wsh
    split
    · exact Or.inr rfl
    · exact Or.inl rfl
  unfold WF
  simp only [ef 0 _ (by decide), ef 1 _ (by decide), ef 2 _ (by decide), ef 3 _ (by decide), ef 4 _ (by decide), ef 5 _ (by decide), ef 6 _ (by decide), ef 7 _ (by decide), ef 8 _ (by decide), ef 9 _ (by decide), ef 10 _ (by decide), ef 12 _ (by decide), ef 13 _ (by decide), ef 14 _ (by decide), ef 15 _ (by decide)]
  refine ⟨hW0, hW1, hW2, hW3, hW4, hW5, hW6, hW7, hW8, hW9, fun c hc => ⟨(hW10 c hc).1, (hW10 c hc).2.1, ?_⟩, fun c d hc hd h1 h2 h3 => ?_, hW12⟩
  · unfold wok
    rw [ef 2 _ (by decide)]
    rcases hat c with h | h
    · rw [h]; exact (hW10 c hc).2.2
    · exact Or.inr (Or.inr (Or.inr h))
  · rcases hat c with h | h
    · rcases hat d with h' | h'
      · exact hW11 c d hc hd (by omega) (by omega) (by omega)
      · omega
    · omega
theorem WF_gs {B : Bs} {S : Nat} {x : Int32} (hW : WF S B) : ∀ n, WF (S + n) (gs B x n)
  | 0 => hW
  | n + 1 => WF_stp (WF_wsh (WF_gs hW n))
section Tri
variable {h g : Mem} {B T : Bs} {o S : Nat}
theorem c_gull (hC : CB0 h o B) (hH : HL h o B) (hW : WF S B) {d : Nat} (hd : d < 32768) : Ok (f_X0_comeGulls o (nI d) h) (fun h' => CB0 h' o (wsh (fun v => v == d % B 0 0) (B 1 0) B) ∧ HL h' o (wsh (fun v => v == d % B 0 0) (B 1 0) B) ∧ FrB h h' o) := by
  have w0 := hW.1
  have w1 := hW.2.1
  have w2 := hW.2.2.1
  have w10 := hW.2.2.2.2.2.2.2.2.2.2.1
  have hm : d % B 0 0 < B 0 0 := Nat.mod_lt _ (by omega)
  have h0 : ¬ B 0 0 ≤ 0 := by omega
  have h00 : ¬ B 0 0 = 0 := by omega
  unfold f_X0_comeGulls
  simp (disch := omega) only [wp_some, wp_obd, wp_ob2, wp_bnd, wp_gd, wp_ite, wp_true, wp_ff, ↓l_n1, ↓l_n2, ↓l_n3, ↓l_n4, ↓l_n10, ↓l_n20, l_0, l_1, l_2, l_3, l_4, l_5, l_6, l_7, l_8, l_9, l_10, l_13, l_14, l_15, l_16, l_20, l_21, l_24, l_27, l_28, l_30, l_31, l_32, l_35, l_36, l_39, l_40, l_41, l_43, l_44, l_45, l_46, l_47, l_48, l_49, l_56, l_57, l_59, l_60, l_79, l_97, l_122, l_160, l_237, l_255, l_320, l_999, l_1000, nI_add, pk_mul, nI_eq, nI_leI, nI_ltI, nI_clamp, inb_nI_iff, e_within, e_in32, e_asNumber, e_flag, decide_eq_true_eq, Sum.elim_inl, Sum.elim_inr, true_implies, not_true_eq_false, not_false_eq_true, false_implies, and_true, true_and, nI_nn, nn_nI, nn_nn, ↓reduceIte, if_true, if_false, Nat.le_refl, implies_true, Nat.lt_irrefl, and_self_left, win1, nI_le_s1, Nat.zero_le, up_s, up_o, Nat.zero_add, m64_0, m64_1, m64_2, m64_3, m64_7, m64_8, m64_9, m64_10, m64_13, m64_20, m64_27, m64_60, hC.1, h0, h00, rem_nI]
  refine c_wash hC hH w1 w2 _ _ _ (fun c hc => ?_) (fun v hv => by simp at hv; omega)
  have := wok_lt w2 (w10 c hc).2.2
  simp (disch := omega) only [nI_leI]
  by_cases e : B 11 c = d % B 0 0
  · simp [e]
  · have : ¬ (d % B 0 0 ≤ B 11 c ∧ B 11 c ≤ d % B 0 0) := by omega
    simp [e, this]
theorem o_gulls (x n p : Int32) (hR : RI h) : Ok (f_X9_gulls x n p h) (fun q => Ok (f_X10_gulls x n p q.2) (fun r => q.1 = r.1 ∧ RI r.2)) := by
  have hR0 := hR
  obtain ⟨B, T, hK, hN, hW, hRs⟩ := hR
  obtain ⟨hM0, hM1, hM2, hM3, hM4, hM5, hM6, hM7, hM8, hM9, hM10⟩ := hK.1
  obtain ⟨⟨⟨s0, s1, s2, s3, s4, s5, s6⟩, n0, n2⟩, hT⟩ := id hN
  have w0 := hW.1.1
  have w1 := hW.1.2.1
  have w2 := hW.1.2.2.1
  by_cases hn : nI 1 ≤ n ∧ n ≤ nI 60
  · obtain ⟨n', hn1, hn', rfl⟩ := rng (by decide) (by decide) hn
    by_cases hp : nI 0 ≤ p ∧ p ≤ nI 1
    · have w0' : ∀ j, gs B x j 0 0 = B 0 0 := fun j => gs_f (by decide) (by decide) (by decide)
      have w1' : ∀ j, gs B x j 1 0 = B 1 0 := fun j => gs_f (by decide) (by decide) (by decide)
      have hsea : cnt (fun c => decide (nI 30 ≤ nI (gs B x n' 11 c) ∧ nI (gs B x n' 11 c) ≤ nI 30)) (B 1 0) = cnt (fun c => decide (nI (gs B x n' 11 c) = nI 30)) (B 1 0) := by
        refine cnt_congr (fun c hc => ?_)
        rw [decide_eq_decide]
        constructor
        · rintro ⟨a, b⟩; exact Int32.le_antisymm b a
        · intro e; rw [e]; exact ⟨Int32.le_refl _, Int32.le_refl _⟩
      refine comb (v := if p = nI 0 then nI (cnt (fun c => decide (nI (gs B x n' 11 c) = nI 30)) (B 1 0)) else nI (cnt (rgt (gs B x n')) (B 1 0))) hR0 hN hW ?_ (fun g hg => ?_)
      · unfold f_X9_gulls
        simp (disch := omega) only [wp_some, wp_obd, wp_ob2, wp_bnd, wp_gd, wp_ite, wp_true, wp_ff, ↓l_n1, ↓l_n2, ↓l_n3, ↓l_n4, ↓l_n10, ↓l_n20, l_0, l_1, l_2, l_3, l_4, l_5, l_6, l_7, l_8, l_9, l_10, l_13, l_14, l_15, l_16, l_20, l_21, l_24, l_27, l_28, l_30, l_31, l_32, l_35, l_36, l_39, l_40, l_41, l_43, l_44, l_45, l_46, l_47, l_48, l_49, l_56, l_57, l_59, l_60, l_79, l_97, l_122, l_160, l_237, l_255, l_320, l_999, l_1000, nI_add, pk_mul, nI_eq, nI_leI, nI_ltI, nI_clamp, inb_nI_iff, e_within, e_in32, e_asNumber, e_flag, decide_eq_true_eq, Sum.elim_inl, Sum.elim_inr, true_implies, not_true_eq_false, not_false_eq_true, false_implies, and_true, true_and, nI_nn, nn_nI, nn_nn, ↓reduceIte, if_true, if_false, Nat.le_refl, implies_true, Nat.lt_irrefl, and_self_left, win1, nI_le_s1, Nat.zero_le, up_s, up_o, Nat.zero_add, m64_0, m64_1, m64_2, m64_3, m64_7, m64_8, m64_9, m64_10, m64_13, m64_20, m64_27, m64_60, hn1, hn', hp]
        refine (t_copy hK hW).mono ?_
        rintro h1 ⟨a1, a2, a3⟩
        refine (ok_up (K := fun e => CB0 e 1 (gs B x n') ∧ FrB h1 e 1) n' (fun j z => z.1 = sq x j ∧ z.2.1 = nI j ∧ CB0 z.2.2 1 (gs B x j) ∧ HL z.2.2 1 (gs B x j) ∧ FrB h1 z.2.2 1) (by omega) ?_ ?_ _ ⟨rfl, rfl, a1, a2, FrB.rf⟩).mono ?_
        · rintro j ⟨v, y, z⟩ hj ⟨hv, hy, b1, b2, b3⟩
          dsimp only at hv hy b1 b2 b3
          subst hv hy
          obtain ⟨d1, d2, -⟩ := draw (sq x (j + 1))
          have d2' : ush (sq x j * (1103515245 : Int32) + (12345 : Int32)) (nI 16) &&& (32767 : Int32) = nI (drw (sq x (j + 1))) := d2
          simp (disch := omega) only [wp_some, wp_obd, wp_ob2, wp_bnd, wp_gd, wp_ite, wp_true, wp_ff, ↓l_n1, ↓l_n2, ↓l_n3, ↓l_n4, ↓l_n10, ↓l_n20, l_0, l_1, l_2, l_3, l_4, l_5, l_6, l_7, l_8, l_9, l_10, l_13, l_14, l_15, l_16, l_20, l_21, l_24, l_27, l_28, l_30, l_31, l_32, l_35, l_36, l_39, l_40, l_41, l_43, l_44, l_45, l_46, l_47, l_48, l_49, l_56, l_57, l_59, l_60, l_79, l_97, l_122, l_160, l_237, l_255, l_320, l_999, l_1000, nI_add, pk_mul, nI_eq, nI_leI, nI_ltI, nI_clamp, inb_nI_iff, e_within, e_in32, e_asNumber, e_flag, decide_eq_true_eq, Sum.elim_inl, Sum.elim_inr, true_implies, not_true_eq_false, not_false_eq_true, false_implies, and_true, true_and, nI_nn, nn_nI, nn_nn, ↓reduceIte, if_true, if_false, Nat.le_refl, implies_true, Nat.lt_irrefl, and_self_left, win1, nI_le_s1, Nat.zero_le, up_s, up_o, Nat.zero_add, m64_0, m64_1, m64_2, m64_3, m64_7, m64_8, m64_9, m64_10, m64_13, m64_20, m64_27, m64_60, d2']
          refine ⟨fun e => by omega, fun _ => ?_⟩
          refine (c_gull b1 b2 (WF_gs hW.1 j) d1).mono ?_
          rw [w0' j, w1' j]
          rintro h2 ⟨c1, c2, c3⟩
          refine (c_goStep c1 c2 (WF_wsh (WF_gs hW.1 j)) (by omega)).mono ?_
          rintro h3 ⟨e1, e2, e3⟩
          exact ⟨rfl, e1, e2, b3.tr (c3.tr e3)⟩
        · rintro ⟨v, y, z⟩ ⟨hv, hy, b1, b2, b3⟩
          dsimp only at hv hy b1 b2 b3
          subst hv hy
          simp (disch := omega) only [wp_some, wp_obd, wp_ob2, wp_bnd, wp_gd, wp_ite, wp_true, wp_ff, ↓l_n1, ↓l_n2, ↓l_n3, ↓l_n4, ↓l_n10, ↓l_n20, l_0, l_1, l_2, l_3, l_4, l_5, l_6, l_7, l_8, l_9, l_10, l_13, l_14, l_15, l_16, l_20, l_21, l_24, l_27, l_28, l_30, l_31, l_32, l_35, l_36, l_39, l_40, l_41, l_43, l_44, l_45, l_46, l_47, l_48, l_49, l_56, l_57, l_59, l_60, l_79, l_97, l_122, l_160, l_237, l_255, l_320, l_999, l_1000, nI_add, pk_mul, nI_eq, nI_leI, nI_ltI, nI_clamp, inb_nI_iff, e_within, e_in32, e_asNumber, e_flag, decide_eq_true_eq, Sum.elim_inl, Sum.elim_inr, true_implies, not_true_eq_false, not_false_eq_true, false_implies, and_true, true_and, nI_nn, nn_nI, nn_nn, ↓reduceIte, if_true, if_false, Nat.le_refl, implies_true, Nat.lt_irrefl, and_self_left, win1, nI_le_s1, Nat.zero_le, up_s, up_o, Nat.zero_add, m64_0, m64_1, m64_2, m64_3, m64_7, m64_8, m64_9, m64_10, m64_13, m64_20, m64_27, m64_60]
          exact ⟨b1, b3⟩
        rintro h2 ⟨b1, b2⟩
        have c1 := c_countBetween b1 (WF_gs hW.1 n') (nI 30) (nI 30)
        have c2 := c_countRight b1 (WF_gs hW.1 n')
        rw [w1'] at c1 c2
        rw [hsea] at c1
        have hF := (a3.tr b2.o).fra (Or.inl rfl)
        by_cases h0 : p = nI 0
        · subst h0; simp (disch := omega) only [wp_some, wp_obd, wp_ob2, wp_bnd, wp_gd, wp_ite, wp_true, wp_ff, ↓l_n1, ↓l_n2, ↓l_n3, ↓l_n4, ↓l_n10, ↓l_n20, l_0, l_1, l_2, l_3, l_4, l_5, l_6, l_7, l_8, l_9, l_10, l_13, l_14, l_15, l_16, l_20, l_21, l_24, l_27, l_28, l_30, l_31, l_32, l_35, l_36, l_39, l_40, l_41, l_43, l_44, l_45, l_46, l_47, l_48, l_49, l_56, l_57, l_59, l_60, l_79, l_97, l_122, l_160, l_237, l_255, l_320, l_999, l_1000, nI_add, pk_mul, nI_eq, nI_leI, nI_ltI, nI_clamp, inb_nI_iff, e_within, e_in32, e_asNumber, e_flag, decide_eq_true_eq, Sum.elim_inl, Sum.elim_inr, true_implies, not_true_eq_false, not_false_eq_true, false_implies, and_true, true_and, nI_nn, nn_nI, nn_nn, ↓reduceIte, if_true, if_false, Nat.le_refl, implies_true, Nat.lt_irrefl, and_self_left, win1, nI_le_s1, Nat.zero_le, up_s, up_o, Nat.zero_add, m64_0, m64_1, m64_2, m64_3, m64_7, m64_8, m64_9, m64_10, m64_13, m64_20, m64_27, m64_60, c1]; exact hF
        · simp (disch := omega) only [wp_some, wp_obd, wp_ob2, wp_bnd, wp_gd, wp_ite, wp_true, wp_ff, ↓l_n1, ↓l_n2, ↓l_n3, ↓l_n4, ↓l_n10, ↓l_n20, l_0, l_1, l_2, l_3, l_4, l_5, l_6, l_7, l_8, l_9, l_10, l_13, l_14, l_15, l_16, l_20, l_21, l_24, l_27, l_28, l_30, l_31, l_32, l_35, l_36, l_39, l_40, l_41, l_43, l_44, l_45, l_46, l_47, l_48, l_49, l_56, l_57, l_59, l_60, l_79, l_97, l_122, l_160, l_237, l_255, l_320, l_999, l_1000, nI_add, pk_mul, nI_eq, nI_leI, nI_ltI, nI_clamp, inb_nI_iff, e_within, e_in32, e_asNumber, e_flag, decide_eq_true_eq, Sum.elim_inl, Sum.elim_inr, true_implies, not_true_eq_false, not_false_eq_true, false_implies, and_true, true_and, nI_nn, nn_nI, nn_nn, ↓reduceIte, if_true, if_false, Nat.le_refl, implies_true, Nat.lt_irrefl, and_self_left, win1, nI_le_s1, Nat.zero_le, up_s, up_o, Nat.zero_add, m64_0, m64_1, m64_2, m64_3, m64_7, m64_8, m64_9, m64_10, m64_13, m64_20, m64_27, m64_60, c2, h0]; exact hF
      · unfold f_X10_gulls
        simp (disch := omega) only [wp_some, wp_obd, wp_ob2, wp_bnd, wp_gd, wp_ite, wp_true, wp_ff, ↓l_n1, ↓l_n2, ↓l_n3, ↓l_n4, ↓l_n10, ↓l_n20, l_0, l_1, l_2, l_3, l_4, l_5, l_6, l_7, l_8, l_9, l_10, l_13, l_14, l_15, l_16, l_20, l_21, l_24, l_27, l_28, l_30, l_31, l_32, l_35, l_36, l_39, l_40, l_41, l_43, l_44, l_45, l_46, l_47, l_48, l_49, l_56, l_57, l_59, l_60, l_79, l_97, l_122, l_160, l_237, l_255, l_320, l_999, l_1000, nI_add, pk_mul, nI_eq, nI_leI, nI_ltI, nI_clamp, inb_nI_iff, e_within, e_in32, e_asNumber, e_flag, decide_eq_true_eq, Sum.elim_inl, Sum.elim_inr, true_implies, not_true_eq_false, not_false_eq_true, false_implies, and_true, true_and, nI_nn, nn_nI, nn_nn, ↓reduceIte, if_true, if_false, Nat.le_refl, implies_true, Nat.lt_irrefl, and_self_left, win1, nI_le_s1, Nat.zero_le, up_s, up_o, Nat.zero_add, m64_0, m64_1, m64_2, m64_3, m64_7, m64_8, m64_9, m64_10, m64_13, m64_20, m64_27, m64_60, hn1, hn', hp]
        refine (t_starts hg hW).mono ?_
        rintro h1 ⟨a1, a2⟩
        refine (ok_up (K := fun e => MT e (gs B x n') ∧ FrM h1 e) n' (fun j z => z.1 = sq x j ∧ z.2.1 = nI j ∧ MT z.2.2 (gs B x j) ∧ FrM h1 z.2.2) (by omega) ?_ ?_ _ ⟨rfl, rfl, a1, FrM.rf⟩).mono ?_
        · rintro j ⟨v, y, z⟩ hj ⟨hv, hy, b1, b3⟩
          dsimp only at hv hy b1 b3
          subst hv hy
          obtain ⟨d1, -, d2⟩ := draw (sq x (j + 1))
          have d2' : (sq x j * (1103515245 : Int32) + (12345 : Int32)) >>> (nI 16 &&& nI 31) &&& (32767 : Int32) = nI (drw (sq x (j + 1))) := d2
          have e0 : z 24 2 0 0 = nI (B 0 0) := by rw [b1.1, w0']
          have h00 : ¬ B 0 0 = 0 := by omega
          have hm : drw (sq x (j + 1)) % B 0 0 < B 0 0 := Nat.mod_lt _ (by omega)
          simp (disch := omega) only [wp_some, wp_obd, wp_ob2, wp_bnd, wp_gd, wp_ite, wp_true, wp_ff, ↓l_n1, ↓l_n2, ↓l_n3, ↓l_n4, ↓l_n10, ↓l_n20, l_0, l_1, l_2, l_3, l_4, l_5, l_6, l_7, l_8, l_9, l_10, l_13, l_14, l_15, l_16, l_20, l_21, l_24, l_27, l_28, l_30, l_31, l_32, l_35, l_36, l_39, l_40, l_41, l_43, l_44, l_45, l_46, l_47, l_48, l_49, l_56, l_57, l_59, l_60, l_79, l_97, l_122, l_160, l_237, l_255, l_320, l_999, l_1000, nI_add, pk_mul, nI_eq, nI_leI, nI_ltI, nI_clamp, inb_nI_iff, e_within, e_in32, e_asNumber, e_flag, decide_eq_true_eq, Sum.elim_inl, Sum.elim_inr, true_implies, not_true_eq_false, not_false_eq_true, false_implies, and_true, true_and, nI_nn, nn_nI, nn_nn, ↓reduceIte, if_true, if_false, Nat.le_refl, implies_true, Nat.lt_irrefl, and_self_left, win1, nI_le_s1, Nat.zero_le, up_s, up_o, Nat.zero_add, m64_0, m64_1, m64_2, m64_3, m64_7, m64_8, m64_9, m64_10, m64_13, m64_20, m64_27, m64_60, d2', e0, h00, rem_nI]
          refine ⟨fun e => by omega, fun _ => ?_⟩
          generalize hd : drw (sq x (j + 1)) % B 0 0 = d at hm
          refine (ok_up (K := fun e => MT e (wsh (fun v => v == d) (B 1 0) (gs B x j)) ∧ FrM h1 e) (B 1 0) (fun i y => y.1 = nI i ∧ MT y.2 (wsh (fun v => v == d) i (gs B x j)) ∧ FrM h1 y.2) (by omega) ?_ ?_ _ ⟨rfl, by rw [wsh_0]; exact b1, b3⟩).mono ?_
          · rintro i ⟨x', y⟩ hi ⟨hx, q1, q2⟩
            dsimp only at hx q1 q2
            subst hx
            have e8 : y 25 0 0 8 = nI (B 1 0) := by rw [q1.2.1, wsh_f (by decide), w1']
            have hi2 : i < wsh (fun v => v == d) i (gs B x j) 1 0 := by rw [wsh_f (by decide), w1']; exact hi
            have ev : wsh (fun v => v == d) i (gs B x j) 11 i = gs B x j 11 i := by unfold wsh; rw [if_neg (by omega)]
            have e31 : y 31 0 0 i = nI (gs B x j 11 i) := by rw [(q1.2.2.2.2.2.2.2.2.2.1 i hi2).2.2, ev]
            have hb := wok_lt (B := gs B x j) (by rw [gs_f (by decide) (by decide) (by decide)]; exact w2) ((WF_gs hW.1 j).2.2.2.2.2.2.2.2.2.2.1 i (by rw [w1']; exact hi)).2.2
            by_cases hq : gs B x j 11 i = d
            · simp (disch := omega) only [wp_some, wp_obd, wp_ob2, wp_bnd, wp_gd, wp_ite, wp_true, wp_ff, ↓l_n1, ↓l_n2, ↓l_n3, ↓l_n4, ↓l_n10, ↓l_n20, l_0, l_1, l_2, l_3, l_4, l_5, l_6, l_7, l_8, l_9, l_10, l_13, l_14, l_15, l_16, l_20, l_21, l_24, l_27, l_28, l_30, l_31, l_32, l_35, l_36, l_39, l_40, l_41, l_43, l_44, l_45, l_46, l_47, l_48, l_49, l_56, l_57, l_59, l_60, l_79, l_97, l_122, l_160, l_237, l_255, l_320, l_999, l_1000, nI_add, pk_mul, nI_eq, nI_leI, nI_ltI, nI_clamp, inb_nI_iff, e_within, e_in32, e_asNumber, e_flag, decide_eq_true_eq, Sum.elim_inl, Sum.elim_inr, true_implies, not_true_eq_false, not_false_eq_true, false_implies, and_true, true_and, nI_nn, nn_nI, nn_nn, ↓reduceIte, if_true, if_false, Nat.le_refl, implies_true, Nat.lt_irrefl, and_self_left, win1, nI_le_s1, Nat.zero_le, up_s, up_o, Nat.zero_add, m64_0, m64_1, m64_2, m64_3, m64_7, m64_8, m64_9, m64_10, m64_13, m64_20, m64_27, m64_60, e8, e31, hq]
              refine ⟨fun e => by omega, fun _ => ⟨by omega, ?_⟩⟩
              rw [← wsh_t (by simp [hq])]
              exact ⟨MT_31 q1, q2.tr (FrM.up (by decide))⟩
            · simp (disch := omega) only [wp_some, wp_obd, wp_ob2, wp_bnd, wp_gd, wp_ite, wp_true, wp_ff, ↓l_n1, ↓l_n2, ↓l_n3, ↓l_n4, ↓l_n10, ↓l_n20, l_0, l_1, l_2, l_3, l_4, l_5, l_6, l_7, l_8, l_9, l_10, l_13, l_14, l_15, l_16, l_20, l_21, l_24, l_27, l_28, l_30, l_31, l_32, l_35, l_36, l_39, l_40, l_41, l_43, l_44, l_45, l_46, l_47, l_48, l_49, l_56, l_57, l_59, l_60, l_79, l_97, l_122, l_160, l_237, l_255, l_320, l_999, l_1000, nI_add, pk_mul, nI_eq, nI_leI, nI_ltI, nI_clamp, inb_nI_iff, e_within, e_in32, e_asNumber, e_flag, decide_eq_true_eq, Sum.elim_inl, Sum.elim_inr, true_implies, not_true_eq_false, not_false_eq_true, false_implies, and_true, true_and, nI_nn, nn_nI, nn_nn, ↓reduceIte, if_true, if_false, Nat.le_refl, implies_true, Nat.lt_irrefl, and_self_left, win1, nI_le_s1, Nat.zero_le, up_s, up_o, Nat.zero_add, m64_0, m64_1, m64_2, m64_3, m64_7, m64_8, m64_9, m64_10, m64_13, m64_20, m64_27, m64_60, e8, e31, hq]
              refine ⟨fun e => by omega, fun _ => ⟨by omega, ?_⟩⟩
              rw [← wsh_n (by simp [hq]), ← ub_id ev]
              refine ⟨?_, q2.tr (FrM.up (by decide))⟩
              exact MT_31 q1
          · rintro ⟨x', y⟩ ⟨hx, q1, q2⟩
            dsimp only at hx q1 q2
            subst hx
            have e8 : y 25 0 0 8 = nI (B 1 0) := by rw [q1.2.1, wsh_f (by decide), w1']
            simp (disch := omega) only [wp_some, wp_obd, wp_ob2, wp_bnd, wp_gd, wp_ite, wp_true, wp_ff, ↓l_n1, ↓l_n2, ↓l_n3, ↓l_n4, ↓l_n10, ↓l_n20, l_0, l_1, l_2, l_3, l_4, l_5, l_6, l_7, l_8, l_9, l_10, l_13, l_14, l_15, l_16, l_20, l_21, l_24, l_27, l_28, l_30, l_31, l_32, l_35, l_36, l_39, l_40, l_41, l_43, l_44, l_45, l_46, l_47, l_48, l_49, l_56, l_57, l_59, l_60, l_79, l_97, l_122, l_160, l_237, l_255, l_320, l_999, l_1000, nI_add, pk_mul, nI_eq, nI_leI, nI_ltI, nI_clamp, inb_nI_iff, e_within, e_in32, e_asNumber, e_flag, decide_eq_true_eq, Sum.elim_inl, Sum.elim_inr, true_implies, not_true_eq_false, not_false_eq_true, false_implies, and_true, true_and, nI_nn, nn_nI, nn_nn, ↓reduceIte, if_true, if_false, Nat.le_refl, implies_true, Nat.lt_irrefl, and_self_left, win1, nI_le_s1, Nat.zero_le, up_s, up_o, Nat.zero_add, m64_0, m64_1, m64_2, m64_3, m64_7, m64_8, m64_9, m64_10, m64_13, m64_20, m64_27, m64_60, e8]
            exact ⟨q1, q2⟩
          rintro h2 ⟨c1, c3⟩
          refine (m_steps c1 (WF_wsh (WF_gs hW.1 j)) (by omega)).mono ?_
          rintro h3 ⟨f1, f2⟩
          subst hd
          exact ⟨rfl, f1, c3.tr f2⟩
        · rintro ⟨v, y, z⟩ ⟨hv, hy, b1, b3⟩
          dsimp only at hv hy b1 b3
          subst hv hy
          simp (disch := omega) only [wp_some, wp_obd, wp_ob2, wp_bnd, wp_gd, wp_ite, wp_true, wp_ff, ↓l_n1, ↓l_n2, ↓l_n3, ↓l_n4, ↓l_n10, ↓l_n20, l_0, l_1, l_2, l_3, l_4, l_5, l_6, l_7, l_8, l_9, l_10, l_13, l_14, l_15, l_16, l_20, l_21, l_24, l_27, l_28, l_30, l_31, l_32, l_35, l_36, l_39, l_40, l_41, l_43, l_44, l_45, l_46, l_47, l_48, l_49, l_56, l_57, l_59, l_60, l_79, l_97, l_122, l_160, l_237, l_255, l_320, l_999, l_1000, nI_add, pk_mul, nI_eq, nI_leI, nI_ltI, nI_clamp, inb_nI_iff, e_within, e_in32, e_asNumber, e_flag, decide_eq_true_eq, Sum.elim_inl, Sum.elim_inr, true_implies, not_true_eq_false, not_false_eq_true, false_implies, and_true, true_and, nI_nn, nn_nI, nn_nn, ↓reduceIte, if_true, if_false, Nat.le_refl, implies_true, Nat.lt_irrefl, and_self_left, win1, nI_le_s1, Nat.zero_le, up_s, up_o, Nat.zero_add, m64_0, m64_1, m64_2, m64_3, m64_7, m64_8, m64_9, m64_10, m64_13, m64_20, m64_27, m64_60]
          exact ⟨b1, b3⟩
        rintro h2 ⟨b1, b2⟩
        have e8 : h2 25 0 0 8 = nI (B 1 0) := by rw [b1.2.1, w1']
        refine (ok_up (K := fun e => e = nI (cnt (fun c => decide (nI (gs B x n' 11 c) = nI 30)) (B 1 0))) (B 1 0) (fun i y => y.2 = nI i ∧ y.1 = nI (cnt (fun c => decide (nI (gs B x n' 11 c) = nI 30)) i)) (by omega) ?_ ?_ _ ⟨rfl, rfl⟩).mono ?_
        · rintro i ⟨v, y⟩ hi ⟨hx, hv⟩
          dsimp only at hx hv
          subst hx hv
          have e31 := (b1.2.2.2.2.2.2.2.2.2.1 i (by rw [w1']; exact hi)).2.2
          by_cases hq : nI (gs B x n' 11 i) = nI 30
          · have : cnt (fun c => decide (nI (gs B x n' 11 c) = nI 30)) (i + 1) = cnt (fun c => decide (nI (gs B x n' 11 c) = nI 30)) i + 1 := by simp [cnt, hq]
            rw [this]
            generalize cnt (fun c => decide (nI (gs B x n' 11 c) = nI 30)) i = k
            rw [hq] at e31
            simp (disch := omega) only [wp_some, wp_obd, wp_ob2, wp_bnd, wp_gd, wp_ite, wp_true, wp_ff, ↓l_n1, ↓l_n2, ↓l_n3, ↓l_n4, ↓l_n10, ↓l_n20, l_0, l_1, l_2, l_3, l_4, l_5, l_6, l_7, l_8, l_9, l_10, l_13, l_14, l_15, l_16, l_20, l_21, l_24, l_27, l_28, l_30, l_31, l_32, l_35, l_36, l_39, l_40, l_41, l_43, l_44, l_45, l_46, l_47, l_48, l_49, l_56, l_57, l_59, l_60, l_79, l_97, l_122, l_160, l_237, l_255, l_320, l_999, l_1000, nI_add, pk_mul, nI_eq, nI_leI, nI_ltI, nI_clamp, inb_nI_iff, e_within, e_in32, e_asNumber, e_flag, decide_eq_true_eq, Sum.elim_inl, Sum.elim_inr, true_implies, not_true_eq_false, not_false_eq_true, false_implies, and_true, true_and, nI_nn, nn_nI, nn_nn, ↓reduceIte, if_true, if_false, Nat.le_refl, implies_true, Nat.lt_irrefl, and_self_left, win1, nI_le_s1, Nat.zero_le, up_s, up_o, Nat.zero_add, m64_0, m64_1, m64_2, m64_3, m64_7, m64_8, m64_9, m64_10, m64_13, m64_20, m64_27, m64_60, e8, e31, b2i_b]
            exact ⟨fun e => by omega, fun _ => by omega⟩
          · have : cnt (fun c => decide (nI (gs B x n' 11 c) = nI 30)) (i + 1) = cnt (fun c => decide (nI (gs B x n' 11 c) = nI 30)) i := by simp [cnt, hq]
            rw [this]
            generalize cnt (fun c => decide (nI (gs B x n' 11 c) = nI 30)) i = k
            generalize nI (gs B x n' 11 i) = w at hq e31
            simp (disch := omega) only [wp_some, wp_obd, wp_ob2, wp_bnd, wp_gd, wp_ite, wp_true, wp_ff, ↓l_n1, ↓l_n2, ↓l_n3, ↓l_n4, ↓l_n10, ↓l_n20, l_0, l_1, l_2, l_3, l_4, l_5, l_6, l_7, l_8, l_9, l_10, l_13, l_14, l_15, l_16, l_20, l_21, l_24, l_27, l_28, l_30, l_31, l_32, l_35, l_36, l_39, l_40, l_41, l_43, l_44, l_45, l_46, l_47, l_48, l_49, l_56, l_57, l_59, l_60, l_79, l_97, l_122, l_160, l_237, l_255, l_320, l_999, l_1000, nI_add, pk_mul, nI_eq, nI_leI, nI_ltI, nI_clamp, inb_nI_iff, e_within, e_in32, e_asNumber, e_flag, decide_eq_true_eq, Sum.elim_inl, Sum.elim_inr, true_implies, not_true_eq_false, not_false_eq_true, false_implies, and_true, true_and, nI_nn, nn_nI, nn_nn, ↓reduceIte, if_true, if_false, Nat.le_refl, implies_true, Nat.lt_irrefl, and_self_left, win1, nI_le_s1, Nat.zero_le, up_s, up_o, Nat.zero_add, m64_0, m64_1, m64_2, m64_3, m64_7, m64_8, m64_9, m64_10, m64_13, m64_20, m64_27, m64_60, e8, e31, b2i_b, hq, wp_ff, Nat.add_zero]
            exact ⟨fun e => by omega, fun _ => by omega⟩
        · rintro ⟨v, y⟩ ⟨hx, hv⟩
          dsimp only at hx hv
          subst hx hv
          simp (disch := omega) only [wp_some, wp_obd, wp_ob2, wp_bnd, wp_gd, wp_ite, wp_true, wp_ff, ↓l_n1, ↓l_n2, ↓l_n3, ↓l_n4, ↓l_n10, ↓l_n20, l_0, l_1, l_2, l_3, l_4, l_5, l_6, l_7, l_8, l_9, l_10, l_13, l_14, l_15, l_16, l_20, l_21, l_24, l_27, l_28, l_30, l_31, l_32, l_35, l_36, l_39, l_40, l_41, l_43, l_44, l_45, l_46, l_47, l_48, l_49, l_56, l_57, l_59, l_60, l_79, l_97, l_122, l_160, l_237, l_255, l_320, l_999, l_1000, nI_add, pk_mul, nI_eq, nI_leI, nI_ltI, nI_clamp, inb_nI_iff, e_within, e_in32, e_asNumber, e_flag, decide_eq_true_eq, Sum.elim_inl, Sum.elim_inr, true_implies, not_true_eq_false, not_false_eq_true, false_implies, and_true, true_and, nI_nn, nn_nI, nn_nn, ↓reduceIte, if_true, if_false, Nat.le_refl, implies_true, Nat.lt_irrefl, and_self_left, win1, nI_le_s1, Nat.zero_le, up_s, up_o, Nat.zero_add, m64_0, m64_1, m64_2, m64_3, m64_7, m64_8, m64_9, m64_10, m64_13, m64_20, m64_27, m64_60, e8]
        rintro r rfl
        have c2 := m_rightMany b1 (WF_gs hW.1 n')
        rw [w1'] at c2
        have hF := (a2.tr b2).fra
        by_cases h0 : p = nI 0
        · subst h0; simp (disch := omega) only [wp_some, wp_obd, wp_ob2, wp_bnd, wp_gd, wp_ite, wp_true, wp_ff, ↓l_n1, ↓l_n2, ↓l_n3, ↓l_n4, ↓l_n10, ↓l_n20, l_0, l_1, l_2, l_3, l_4, l_5, l_6, l_7, l_8, l_9, l_10, l_13, l_14, l_15, l_16, l_20, l_21, l_24, l_27, l_28, l_30, l_31, l_32, l_35, l_36, l_39, l_40, l_41, l_43, l_44, l_45, l_46, l_47, l_48, l_49, l_56, l_57, l_59, l_60, l_79, l_97, l_122, l_160, l_237, l_255, l_320, l_999, l_1000, nI_add, pk_mul, nI_eq, nI_leI, nI_ltI, nI_clamp, inb_nI_iff, e_within, e_in32, e_asNumber, e_flag, decide_eq_true_eq, Sum.elim_inl, Sum.elim_inr, true_implies, not_true_eq_false, not_false_eq_true, false_implies, and_true, true_and, nI_nn, nn_nI, nn_nn, ↓reduceIte, if_true, if_false, Nat.le_refl, implies_true, Nat.lt_irrefl, and_self_left, win1, nI_le_s1, Nat.zero_le, up_s, up_o, Nat.zero_add, m64_0, m64_1, m64_2, m64_3, m64_7, m64_8, m64_9, m64_10, m64_13, m64_20, m64_27, m64_60]; exact hF
        · simp (disch := omega) only [wp_some, wp_obd, wp_ob2, wp_bnd, wp_gd, wp_ite, wp_true, wp_ff, ↓l_n1, ↓l_n2, ↓l_n3, ↓l_n4, ↓l_n10, ↓l_n20, l_0, l_1, l_2, l_3, l_4, l_5, l_6, l_7, l_8, l_9, l_10, l_13, l_14, l_15, l_16, l_20, l_21, l_24, l_27, l_28, l_30, l_31, l_32, l_35, l_36, l_39, l_40, l_41, l_43, l_44, l_45, l_46, l_47, l_48, l_49, l_56, l_57, l_59, l_60, l_79, l_97, l_122, l_160, l_237, l_255, l_320, l_999, l_1000, nI_add, pk_mul, nI_eq, nI_leI, nI_ltI, nI_clamp, inb_nI_iff, e_within, e_in32, e_asNumber, e_flag, decide_eq_true_eq, Sum.elim_inl, Sum.elim_inr, true_implies, not_true_eq_false, not_false_eq_true, false_implies, and_true, true_and, nI_nn, nn_nI, nn_nn, ↓reduceIte, if_true, if_false, Nat.le_refl, implies_true, Nat.lt_irrefl, and_self_left, win1, nI_le_s1, Nat.zero_le, up_s, up_o, Nat.zero_add, m64_0, m64_1, m64_2, m64_3, m64_7, m64_8, m64_9, m64_10, m64_13, m64_20, m64_27, m64_60, c2, h0]; exact hF
    · unfold f_X9_gulls f_X10_gulls
      simp (disch := omega) only [wp_some, wp_obd, wp_ob2, wp_bnd, wp_gd, wp_ite, wp_true, wp_ff, ↓l_n1, ↓l_n2, ↓l_n3, ↓l_n4, ↓l_n10, ↓l_n20, l_0, l_1, l_2, l_3, l_4, l_5, l_6, l_7, l_8, l_9, l_10, l_13, l_14, l_15, l_16, l_20, l_21, l_24, l_27, l_28, l_30, l_31, l_32, l_35, l_36, l_39, l_40, l_41, l_43, l_44, l_45, l_46, l_47, l_48, l_49, l_56, l_57, l_59, l_60, l_79, l_97, l_122, l_160, l_237, l_255, l_320, l_999, l_1000, nI_add, pk_mul, nI_eq, nI_leI, nI_ltI, nI_clamp, inb_nI_iff, e_within, e_in32, e_asNumber, e_flag, decide_eq_true_eq, Sum.elim_inl, Sum.elim_inr, true_implies, not_true_eq_false, not_false_eq_true, false_implies, and_true, true_and, nI_nn, nn_nI, nn_nn, ↓reduceIte, if_true, if_false, Nat.le_refl, implies_true, Nat.lt_irrefl, and_self_left, win1, nI_le_s1, Nat.zero_le, up_s, up_o, Nat.zero_add, m64_0, m64_1, m64_2, m64_3, m64_7, m64_8, m64_9, m64_10, m64_13, m64_20, m64_27, m64_60, hn1, hn', hp]
      exact hR0
  · unfold f_X9_gulls f_X10_gulls
    simp (disch := omega) only [wp_some, wp_obd, wp_ob2, wp_bnd, wp_gd, wp_ite, wp_true, wp_ff, ↓l_n1, ↓l_n2, ↓l_n3, ↓l_n4, ↓l_n10, ↓l_n20, l_0, l_1, l_2, l_3, l_4, l_5, l_6, l_7, l_8, l_9, l_10, l_13, l_14, l_15, l_16, l_20, l_21, l_24, l_27, l_28, l_30, l_31, l_32, l_35, l_36, l_39, l_40, l_41, l_43, l_44, l_45, l_46, l_47, l_48, l_49, l_56, l_57, l_59, l_60, l_79, l_97, l_122, l_160, l_237, l_255, l_320, l_999, l_1000, nI_add, pk_mul, nI_eq, nI_leI, nI_ltI, nI_clamp, inb_nI_iff, e_within, e_in32, e_asNumber, e_flag, decide_eq_true_eq, Sum.elim_inl, Sum.elim_inr, true_implies, not_true_eq_false, not_false_eq_true, false_implies, and_true, true_and, nI_nn, nn_nI, nn_nn, ↓reduceIte, if_true, if_false, Nat.le_refl, implies_true, Nat.lt_irrefl, and_self_left, win1, nI_le_s1, Nat.zero_le, up_s, up_o, Nat.zero_add, m64_0, m64_1, m64_2, m64_3, m64_7, m64_8, m64_9, m64_10, m64_13, m64_20, m64_27, m64_60, hn]
    exact hR0
end Tri
