theorem comb {h : Mem} {B T : Bs} {x : Option (Int32 × Mem)} {f : Mem → Option (Int32 × Mem)} {v : Int32} (hR : RI h) (hN : RN h B T) (hW : WN B T) (hc : Ok x (fun q => q.1 = v ∧ FRA h q.2)) (hm : ∀ g, RN g B T → Ok (f g) (fun q => q.1 = v ∧ FRA g q.2)) : Ok x (fun q => Ok (f q.2) (fun r => q.1 = r.1 ∧ RI r.2)) := by
  refine hc.mono ?_
  rintro ⟨v', h1⟩ ⟨e1, e2⟩
  dsimp only at e1 e2 ⊢
  refine (hm h1 (RN_fra hN hW e2)).mono ?_
  rintro ⟨v2, h2⟩ ⟨e3, e4⟩
  exact ⟨e1.trans e3.symm, RI_fra hR (e2.tr e4)⟩
theorem stp_5 {B : Bs} : stp B 5 0 = B 5 0 + 1 := by
  unfold stp tid fights
  simp [dr_f, acts_f]
theorem stn_5 {B : Bs} : ∀ {n : Nat}, stn B n 5 0 = B 5 0 + n
  | 0 => rfl
  | n + 1 => by show stp (stn B n) 5 0 = _; rw [stp_5, stn_5]; rfl
theorem WF_tight {B : Bs} {S S' : Nat} (hW : WF S B) (h : B 5 0 ≤ S') : WF S' B := ⟨hW.1, hW.2.1, hW.2.2.1, hW.2.2.2.1, hW.2.2.2.2.1, h, hW.2.2.2.2.2.2⟩
theorem WN_stn {B T : Bs} {n : Nat} (hW : WN B T) (hn : B 5 0 + n ≤ 999) : WN (stn B n) T := by
  refine ⟨WF_tight (WF_stn hW.1 n) (by rw [stn_5]; exact hn), ⟨?_, fun i hi => ?_⟩, hW.2.2.1, fun i hi => ?_⟩
  · rw [stn_f (by decide) (by decide) (by decide), stn_f (by decide) (by decide) (by decide)]; exact hW.2.1.1
  · rw [stn_f (by decide) (by decide) (by decide)] at hi ⊢; exact hW.2.1.2 i hi
  · rw [stn_f (by decide) (by decide) (by decide)]; exact hW.2.2.2 i hi
theorem MT_fr {g g' : Mem} {B : Bs} {S : Nat} (hM : MT g B) (hW : WF S B) (hF : ∀ k j o i, ((k = 24 ∧ (j = 2 ∨ j = 3 ∨ j = 26 ∨ j = 27)) ∨ (k = 25 ∧ (i < 15 ∨ i = 43 ∨ i = 44)) ∨ (29 ≤ k ∧ k ≤ 36)) → g' k j o i = g k j o i) : MT g' B := by
  obtain ⟨hM0, hM1, hM2, hM3, hM4, hM5, hM6, hM7, hM8, hM9, hM10⟩ := hM
  have w1 := hW.2.1
  refine ⟨(hF _ _ _ _ (by omega)).trans hM0, (hF _ _ _ _ (by omega)).trans hM1, (hF _ _ _ _ (by omega)).trans hM2, (hF _ _ _ _ (by omega)).trans hM3, (hF _ _ _ _ (by omega)).trans hM4, (hF _ _ _ _ (by omega)).trans hM5, (hF _ _ _ _ (by omega)).trans hM6, fun x hx => (hF _ _ _ _ (by omega)).trans (hM7 x hx), fun i hi => (hF _ _ _ _ (by omega)).trans (hM8 i hi), fun c hc => ?_, fun k hk => ?_⟩
  · have := hM9 c hc
    exact ⟨(hF _ _ _ _ (by omega)).trans this.1, (hF _ _ _ _ (by omega)).trans this.2.1, (hF _ _ _ _ (by omega)).trans this.2.2⟩
  · have := hM10 k hk
    exact ⟨(hF _ _ _ _ (by omega)).trans this.1, (hF _ _ _ _ (by omega)).trans this.2.1, (hF _ _ _ _ (by omega)).trans this.2.2.1, (hF _ _ _ _ (by omega)).trans this.2.2.2⟩
theorem e_min {a b : Nat} (ha : a < 2 ^ 31) (hb : b < 2 ^ 31) (h : Mem) : f_J9_min_7cf53 (nI a) (nI b) h = some (nI (min a b)) := by
  apply Ok.eqv
  unfold f_J9_min_7cf53
  simp (disch := omega) only [wp_some, wp_obd, wp_ob2, wp_bnd, wp_gd, wp_ite, wp_true, wp_ff, ↓l_n1, ↓l_n2, ↓l_n3, ↓l_n4, ↓l_n10, ↓l_n20, l_0, l_1, l_2, l_3, l_4, l_5, l_6, l_7, l_8, l_9, l_10, l_13, l_14, l_15, l_16, l_20, l_21, l_24, l_27, l_28, l_30, l_31, l_32, l_35, l_36, l_39, l_40, l_41, l_43, l_44, l_45, l_46, l_47, l_48, l_49, l_56, l_57, l_59, l_60, l_79, l_97, l_122, l_160, l_237, l_255, l_320, l_999, l_1000, nI_add, pk_mul, nI_eq, nI_leI, nI_ltI, nI_clamp, inb_nI_iff, e_within, e_in32, e_asNumber, e_flag, decide_eq_true_eq, Sum.elim_inl, Sum.elim_inr, true_implies, not_true_eq_false, not_false_eq_true, false_implies, and_true, true_and, nI_nn, nn_nI, nn_nn, ↓reduceIte, if_true, if_false, Nat.le_refl, implies_true, Nat.lt_irrefl, and_self_left]
  repeat' (with_reducible (first | apply And.intro | intro _))
  all_goals (first | omega | (congr 1; omega))
theorem e_max {a b : Nat} (ha : a < 2 ^ 31) (hb : b < 2 ^ 31) (h : Mem) : f_J9_max_7cf53 (nI a) (nI b) h = some (nI (max a b)) := by
  apply Ok.eqv
  unfold f_J9_max_7cf53
  simp (disch := omega) only [wp_some, wp_obd, wp_ob2, wp_bnd, wp_gd, wp_ite, wp_true, wp_ff, ↓l_n1, ↓l_n2, ↓l_n3, ↓l_n4, ↓l_n10, ↓l_n20, l_0, l_1, l_2, l_3, l_4, l_5, l_6, l_7, l_8, l_9, l_10, l_13, l_14, l_15, l_16, l_20, l_21, l_24, l_27, l_28, l_30, l_31, l_32, l_35, l_36, l_39, l_40, l_41, l_43, l_44, l_45, l_46, l_47, l_48, l_49, l_56, l_57, l_59, l_60, l_79, l_97, l_122, l_160, l_237, l_255, l_320, l_999, l_1000, nI_add, pk_mul, nI_eq, nI_leI, nI_ltI, nI_clamp, inb_nI_iff, e_within, e_in32, e_asNumber, e_flag, decide_eq_true_eq, Sum.elim_inl, Sum.elim_inr, true_implies, not_true_eq_false, not_false_eq_true, false_implies, and_true, true_and, nI_nn, nn_nI, nn_nn, ↓reduceIte, if_true, if_false, Nat.le_refl, implies_true, Nat.lt_irrefl, and_self_left]
  repeat' (with_reducible (first | apply And.intro | intro _))
  all_goals (first | omega | (congr 1; omega))
section Tri
variable {h g : Mem} {B T : Bs} {o S : Nat}
theorem t_copy (hK : KN h B T) (hW : WN B T) : Ok (f_X0_copyFrom 1 0 h) (fun h1 => CB0 h1 1 B ∧ HL h1 1 B ∧ FrO h h1 1) := c_copy (by decide) hK.1 hK.2.1 hW.1 (by rw [hW.2.1.1]; exact Nat.le_refl _)
theorem t_starts (hN : RN g B T) (hW : WN B T) : Ok (f_X10_starts g) (fun g' => MT g' B ∧ FrM g g') := m_starts hN.1 hW.1 hW.2.1
theorem c_sorted40 (hC : CB0 h o B) (hH : HL h o B) (hW : WF S B) (hS : S + 41 < 100000) : Ok (f_X0_stepsUntilSorted o (nI 40) h) (fun q => q.1 = on (-4) (srt B 41) ∧ FrO h q.2 o) := by
  have := c_sorted (m := 41) hC hH hW (by omega) hS
  rwa [show nI 41 - 1 = nI 40 from by decide] at this
theorem m_go (hM : MT g B) (hW : WF S B) {n : Nat} (hn : n ≤ 60) (hS : S + n < 100000) : Ok (lp fu (fun a10 => (if nI n ≤ a10.1 then some (.inr a10.2) else obd (f_X10_steps a10.2) (fun h11 => bnd (a10.1 + nI 1) (fun x12 => some (.inl (x12, h11)))))) (nI 0, g)) (fun g' => MT g' (stn B n) ∧ FrM g g') := by
  refine ok_up n (fun j a => a.1 = nI j ∧ MT a.2 (stn B j) ∧ FrM g a.2) (by omega) ?_ ?_ _ ⟨rfl, hM, FrM.rf⟩
  · rintro j ⟨x, h'⟩ hj ⟨hx, hM2, hF⟩
    dsimp only at hx hM2 hF
    subst hx
    simp (disch := omega) only [wp_some, wp_obd, wp_ob2, wp_bnd, wp_gd, wp_ite, wp_true, wp_ff, ↓l_n1, ↓l_n2, ↓l_n3, ↓l_n4, ↓l_n10, ↓l_n20, l_0, l_1, l_2, l_3, l_4, l_5, l_6, l_7, l_8, l_9, l_10, l_13, l_14, l_15, l_16, l_20, l_21, l_24, l_27, l_28, l_30, l_31, l_32, l_35, l_36, l_39, l_40, l_41, l_43, l_44, l_45, l_46, l_47, l_48, l_49, l_56, l_57, l_59, l_60, l_79, l_97, l_122, l_160, l_237, l_255, l_320, l_999, l_1000, nI_add, pk_mul, nI_eq, nI_leI, nI_ltI, nI_clamp, inb_nI_iff, e_within, e_in32, e_asNumber, e_flag, decide_eq_true_eq, Sum.elim_inl, Sum.elim_inr, true_implies, not_true_eq_false, not_false_eq_true, false_implies, and_true, true_and, nI_nn, nn_nI, nn_nn, ↓reduceIte, if_true, if_false, Nat.le_refl, implies_true, Nat.lt_irrefl, and_self_left]
    refine ⟨fun e => by omega, fun _ => ?_⟩
    refine (m_steps hM2 (WF_stn hW j) (by omega)).mono ?_
    rintro h2 ⟨g1, g3⟩
    exact ⟨g1, hF.tr g3⟩
  · rintro ⟨x, h'⟩ ⟨hx, hM2, hF⟩
    dsimp only at hx hM2 hF
    subst hx
    simp (disch := omega) only [wp_some, wp_obd, wp_ob2, wp_bnd, wp_gd, wp_ite, wp_true, wp_ff, ↓l_n1, ↓l_n2, ↓l_n3, ↓l_n4, ↓l_n10, ↓l_n20, l_0, l_1, l_2, l_3, l_4, l_5, l_6, l_7, l_8, l_9, l_10, l_13, l_14, l_15, l_16, l_20, l_21, l_24, l_27, l_28, l_30, l_31, l_32, l_35, l_36, l_39, l_40, l_41, l_43, l_44, l_45, l_46, l_47, l_48, l_49, l_56, l_57, l_59, l_60, l_79, l_97, l_122, l_160, l_237, l_255, l_320, l_999, l_1000, nI_add, pk_mul, nI_eq, nI_leI, nI_ltI, nI_clamp, inb_nI_iff, e_within, e_in32, e_asNumber, e_flag, decide_eq_true_eq, Sum.elim_inl, Sum.elim_inr, true_implies, not_true_eq_false, not_false_eq_true, false_implies, and_true, true_and, nI_nn, nn_nI, nn_nn, ↓reduceIte, if_true, if_false, Nat.le_refl, implies_true, Nat.lt_irrefl, and_self_left]
    exact ⟨hM2, hF⟩
theorem o_sorted (hR : RI h) : Ok (f_X9_sorted h) (fun q => Ok (f_X10_sorted q.2) (fun r => q.1 = r.1 ∧ RI r.2)) := by
  have hR0 := hR
  obtain ⟨B, T, hK, hN, hW, hRs⟩ := hR
  refine comb (v := on (-4) (srt B 41)) hR0 hN hW ?_ (fun g hg => ?_)
  · unfold f_X9_sorted
    rw [wp_obd]
    refine (t_copy hK hW).mono ?_
    rintro h1 ⟨a1, a2, a3⟩
    rw [wp_ob2]
    refine (c_sorted40 a1 a2 hW.1 (by omega)).mono ?_
    rintro ⟨v, h2⟩ ⟨b1, b2⟩
    exact wp_some.mpr ⟨b1, (a3.tr b2).fra (Or.inl rfl)⟩
  · unfold f_X10_sorted
    rw [wp_obd]
    refine (t_starts hg hW).mono ?_
    rintro g1 ⟨a1, a2⟩
    rw [wp_ob2]
    refine (m_sorted a1 hW.1 (by omega)).mono ?_
    rintro ⟨v, g2⟩ ⟨b1, b2⟩
    exact wp_some.mpr ⟨b1, (a2.tr b2).fra⟩
theorem o_ahead (c n : Int32) (hR : RI h) : Ok (f_X9_ahead c n h) (fun q => Ok (f_X10_ahead c n q.2) (fun r => q.1 = r.1 ∧ RI r.2)) := by
  have hR0 := hR
  obtain ⟨B, T, hK, hN, hW, hRs⟩ := hR
  obtain ⟨hM0, hM1, hM2, hM3, hM4, hM5, hM6, hM7, hM8, hM9, hM10⟩ := hK.1
  obtain ⟨⟨⟨s0, s1, s2, s3, s4, s5, s6⟩, n0, n2⟩, hT⟩ := id hN
  have w0 := hW.1.1
  have w1 := hW.1.2.1
  have w2 := hW.1.2.2.1
  by_cases hc : inb c (B 1 0)
  · obtain ⟨c', hc', rfl⟩ := inb_of hc (by omega)
    by_cases hn : nI 0 ≤ n ∧ n ≤ nI 60
    · obtain ⟨n', -, hn', rfl⟩ := rng (by decide) (by decide) hn
      have e1 : stn B n' 1 0 = B 1 0 := stn_f (by decide) (by decide) (by decide)
      refine comb (v := nI (stn B n' 11 c')) hR0 hN hW ?_ (fun g hg => ?_)
      · unfold f_X9_ahead f_X9_isCoin
        simp (disch := omega) only [wp_some, wp_obd, wp_ob2, wp_bnd, wp_gd, wp_ite, wp_true, wp_ff, ↓l_n1, ↓l_n2, ↓l_n3, ↓l_n4, ↓l_n10, ↓l_n20, l_0, l_1, l_2, l_3, l_4, l_5, l_6, l_7, l_8, l_9, l_10, l_13, l_14, l_15, l_16, l_20, l_21, l_24, l_27, l_28, l_30, l_31, l_32, l_35, l_36, l_39, l_40, l_41, l_43, l_44, l_45, l_46, l_47, l_48, l_49, l_56, l_57, l_59, l_60, l_79, l_97, l_122, l_160, l_237, l_255, l_320, l_999, l_1000, nI_add, pk_mul, nI_eq, nI_leI, nI_ltI, nI_clamp, inb_nI_iff, e_within, e_in32, e_asNumber, e_flag, decide_eq_true_eq, Sum.elim_inl, Sum.elim_inr, true_implies, not_true_eq_false, not_false_eq_true, false_implies, and_true, true_and, nI_nn, nn_nI, nn_nn, ↓reduceIte, if_true, if_false, Nat.le_refl, implies_true, Nat.lt_irrefl, and_self_left, win1, nI_le_s1, Nat.zero_le, up_s, up_o, Nat.zero_add, m64_0, m64_1, m64_2, m64_3, m64_7, m64_8, m64_9, m64_10, m64_13, m64_20, m64_27, m64_60, hM1, hc', hn']
        refine (t_copy hK hW).mono ?_
        rintro h1 ⟨a1, a2, a3⟩
        refine (c_goSteps a1 a2 hW.1 hn' (by omega)).mono ?_
        rintro h2 ⟨b1, b2, b3⟩
        refine ⟨by omega, ?_, (a3.tr b3.o).fra (Or.inl rfl)⟩
        exact (b1.2.2.2.2.2.2.2.2.2.1 c' (by omega)).2.2
      · have s1 := hg.1.1.2.1
        unfold f_X10_ahead f_X10_isCoin
        simp (disch := omega) only [wp_some, wp_obd, wp_ob2, wp_bnd, wp_gd, wp_ite, wp_true, wp_ff, ↓l_n1, ↓l_n2, ↓l_n3, ↓l_n4, ↓l_n10, ↓l_n20, l_0, l_1, l_2, l_3, l_4, l_5, l_6, l_7, l_8, l_9, l_10, l_13, l_14, l_15, l_16, l_20, l_21, l_24, l_27, l_28, l_30, l_31, l_32, l_35, l_36, l_39, l_40, l_41, l_43, l_44, l_45, l_46, l_47, l_48, l_49, l_56, l_57, l_59, l_60, l_79, l_97, l_122, l_160, l_237, l_255, l_320, l_999, l_1000, nI_add, pk_mul, nI_eq, nI_leI, nI_ltI, nI_clamp, inb_nI_iff, e_within, e_in32, e_asNumber, e_flag, decide_eq_true_eq, Sum.elim_inl, Sum.elim_inr, true_implies, not_true_eq_false, not_false_eq_true, false_implies, and_true, true_and, nI_nn, nn_nI, nn_nn, ↓reduceIte, if_true, if_false, Nat.le_refl, implies_true, Nat.lt_irrefl, and_self_left, win1, nI_le_s1, Nat.zero_le, up_s, up_o, Nat.zero_add, m64_0, m64_1, m64_2, m64_3, m64_7, m64_8, m64_9, m64_10, m64_13, m64_20, m64_27, m64_60, s1, hc', hn']
        refine (t_starts hg hW).mono ?_
        rintro h1 ⟨a1, a2⟩
        refine (m_go a1 hW.1 hn' (by omega)).mono ?_
        rintro h2 ⟨b1, b2⟩
        refine ⟨by omega, ?_, (a2.tr b2).fra⟩
        exact (b1.2.2.2.2.2.2.2.2.2.1 c' (by omega)).2.2
    · unfold f_X9_ahead f_X10_ahead f_X9_isCoin f_X10_isCoin
      simp (disch := omega) only [wp_some, wp_obd, wp_ob2, wp_bnd, wp_gd, wp_ite, wp_true, wp_ff, ↓l_n1, ↓l_n2, ↓l_n3, ↓l_n4, ↓l_n10, ↓l_n20, l_0, l_1, l_2, l_3, l_4, l_5, l_6, l_7, l_8, l_9, l_10, l_13, l_14, l_15, l_16, l_20, l_21, l_24, l_27, l_28, l_30, l_31, l_32, l_35, l_36, l_39, l_40, l_41, l_43, l_44, l_45, l_46, l_47, l_48, l_49, l_56, l_57, l_59, l_60, l_79, l_97, l_122, l_160, l_237, l_255, l_320, l_999, l_1000, nI_add, pk_mul, nI_eq, nI_leI, nI_ltI, nI_clamp, inb_nI_iff, e_within, e_in32, e_asNumber, e_flag, decide_eq_true_eq, Sum.elim_inl, Sum.elim_inr, true_implies, not_true_eq_false, not_false_eq_true, false_implies, and_true, true_and, nI_nn, nn_nI, nn_nn, ↓reduceIte, if_true, if_false, Nat.le_refl, implies_true, Nat.lt_irrefl, and_self_left, win1, nI_le_s1, Nat.zero_le, up_s, up_o, Nat.zero_add, m64_0, m64_1, m64_2, m64_3, m64_7, m64_8, m64_9, m64_10, m64_13, m64_20, m64_27, m64_60, hM1, s1, hc', hn]
      exact hR0
  · unfold f_X9_ahead f_X10_ahead f_X9_isCoin f_X10_isCoin
    simp (disch := omega) only [wp_some, wp_obd, wp_ob2, wp_bnd, wp_gd, wp_ite, wp_true, wp_ff, ↓l_n1, ↓l_n2, ↓l_n3, ↓l_n4, ↓l_n10, ↓l_n20, l_0, l_1, l_2, l_3, l_4, l_5, l_6, l_7, l_8, l_9, l_10, l_13, l_14, l_15, l_16, l_20, l_21, l_24, l_27, l_28, l_30, l_31, l_32, l_35, l_36, l_39, l_40, l_41, l_43, l_44, l_45, l_46, l_47, l_48, l_49, l_56, l_57, l_59, l_60, l_79, l_97, l_122, l_160, l_237, l_255, l_320, l_999, l_1000, nI_add, pk_mul, nI_eq, nI_leI, nI_ltI, nI_clamp, inb_nI_iff, e_within, e_in32, e_asNumber, e_flag, decide_eq_true_eq, Sum.elim_inl, Sum.elim_inr, true_implies, not_true_eq_false, not_false_eq_true, false_implies, and_true, true_and, nI_nn, nn_nI, nn_nn, ↓reduceIte, if_true, if_false, Nat.le_refl, implies_true, Nat.lt_irrefl, and_self_left, win1, nI_le_s1, Nat.zero_le, up_s, up_o, Nat.zero_add, m64_0, m64_1, m64_2, m64_3, m64_7, m64_8, m64_9, m64_10, m64_13, m64_20, m64_27, m64_60, hM1, s1, hc]
    exact hR0
theorem o_go (n : Int32) (hR : RI h) : Ok (f_X9_go n h) (fun q => Ok (f_X10_go n q.2) (fun r => q.1 = r.1 ∧ RI r.2)) := by
  have hR0 := hR
  obtain ⟨B, T, hK, hN, hW, hRs⟩ := hR
  obtain ⟨hM0, hM1, hM2, hM3, hM4, hM5, hM6, hM7, hM8, hM9, hM10⟩ := hK.1
  obtain ⟨⟨⟨s0, s1, s2, s3, s4, s5, s6⟩, n0, n2⟩, hT⟩ := id hN
  have w0 := hW.1.1
  have w1 := hW.1.2.1
  have w2 := hW.1.2.2.1
  have w5 := hW.1.2.2.2.2.2.1
  by_cases hn : nI 0 ≤ n ∧ n ≤ nI 60
  · obtain ⟨n', -, hn', rfl⟩ := rng (by decide) (by decide) hn
    by_cases hs : B 5 0 + n' ≤ 999
    · have hs1 : B 5 0 + n' < 1000 := by omega
      have e0 : stn B n' 0 0 = B 0 0 := stn_f (by decide) (by decide) (by decide)
      have e1 : stn B n' 1 0 = B 1 0 := stn_f (by decide) (by decide) (by decide)
      have e2 : stn B n' 2 0 = B 2 0 := stn_f (by decide) (by decide) (by decide)
      have hWn := WN_stn hW hs
      unfold f_X9_go
      simp (disch := omega) only [wp_some, wp_obd, wp_ob2, wp_bnd, wp_gd, wp_ite, wp_true, wp_ff, ↓l_n1, ↓l_n2, ↓l_n3, ↓l_n4, ↓l_n10, ↓l_n20, l_0, l_1, l_2, l_3, l_4, l_5, l_6, l_7, l_8, l_9, l_10, l_13, l_14, l_15, l_16, l_20, l_21, l_24, l_27, l_28, l_30, l_31, l_32, l_35, l_36, l_39, l_40, l_41, l_43, l_44, l_45, l_46, l_47, l_48, l_49, l_56, l_57, l_59, l_60, l_79, l_97, l_122, l_160, l_237, l_255, l_320, l_999, l_1000, nI_add, pk_mul, nI_eq, nI_leI, nI_ltI, nI_clamp, inb_nI_iff, e_within, e_in32, e_asNumber, e_flag, decide_eq_true_eq, Sum.elim_inl, Sum.elim_inr, true_implies, not_true_eq_false, not_false_eq_true, false_implies, and_true, true_and, nI_nn, nn_nI, nn_nn, ↓reduceIte, if_true, if_false, Nat.le_refl, implies_true, Nat.lt_irrefl, and_self_left, win1, nI_le_s1, Nat.zero_le, up_s, up_o, Nat.zero_add, m64_0, m64_1, m64_2, m64_3, m64_7, m64_8, m64_9, m64_10, m64_13, m64_20, m64_27, m64_60, hM5, hn', hs1]
      refine (c_goSteps hK.1 hK.2.1 hW.1 hn' (by omega)).mono ?_
      rintro h1 ⟨a1, a2, a3⟩
      simp (disch := omega) only [wp_some, wp_obd, wp_ob2, wp_bnd, wp_gd, wp_ite, wp_true, wp_ff, ↓l_n1, ↓l_n2, ↓l_n3, ↓l_n4, ↓l_n10, ↓l_n20, l_0, l_1, l_2, l_3, l_4, l_5, l_6, l_7, l_8, l_9, l_10, l_13, l_14, l_15, l_16, l_20, l_21, l_24, l_27, l_28, l_30, l_31, l_32, l_35, l_36, l_39, l_40, l_41, l_43, l_44, l_45, l_46, l_47, l_48, l_49, l_56, l_57, l_59, l_60, l_79, l_97, l_122, l_160, l_237, l_255, l_320, l_999, l_1000, nI_add, pk_mul, nI_eq, nI_leI, nI_ltI, nI_clamp, inb_nI_iff, e_within, e_in32, e_asNumber, e_flag, decide_eq_true_eq, Sum.elim_inl, Sum.elim_inr, true_implies, not_true_eq_false, not_false_eq_true, false_implies, and_true, true_and, nI_nn, nn_nI, nn_nn, ↓reduceIte, if_true, if_false, Nat.le_refl, implies_true, Nat.lt_irrefl, and_self_left, win1, nI_le_s1, Nat.zero_le, up_s, up_o, Nat.zero_add, m64_0, m64_1, m64_2, m64_3, m64_7, m64_8, m64_9, m64_10, m64_13, m64_20, m64_27, m64_60, c_countRight a1 hWn.1]
      have hN1 : RN h1 B T := RN_lo hN hW (fun k j o i hh => a3 _ _ _ _ (by omega))
      have s6' := hN1.1.1.2.2.2.2.2.2
      unfold f_X10_go
      simp (disch := omega) only [wp_some, wp_obd, wp_ob2, wp_bnd, wp_gd, wp_ite, wp_true, wp_ff, ↓l_n1, ↓l_n2, ↓l_n3, ↓l_n4, ↓l_n10, ↓l_n20, l_0, l_1, l_2, l_3, l_4, l_5, l_6, l_7, l_8, l_9, l_10, l_13, l_14, l_15, l_16, l_20, l_21, l_24, l_27, l_28, l_30, l_31, l_32, l_35, l_36, l_39, l_40, l_41, l_43, l_44, l_45, l_46, l_47, l_48, l_49, l_56, l_57, l_59, l_60, l_79, l_97, l_122, l_160, l_237, l_255, l_320, l_999, l_1000, nI_add, pk_mul, nI_eq, nI_leI, nI_ltI, nI_clamp, inb_nI_iff, e_within, e_in32, e_asNumber, e_flag, decide_eq_true_eq, Sum.elim_inl, Sum.elim_inr, true_implies, not_true_eq_false, not_false_eq_true, false_implies, and_true, true_and, nI_nn, nn_nI, nn_nn, ↓reduceIte, if_true, if_false, Nat.le_refl, implies_true, Nat.lt_irrefl, and_self_left, win1, nI_le_s1, Nat.zero_le, up_s, up_o, Nat.zero_add, m64_0, m64_1, m64_2, m64_3, m64_7, m64_8, m64_9, m64_10, m64_13, m64_20, m64_27, m64_60, s6', hn', hs]
      refine (t_starts hN1 hW).mono ?_
      rintro g1 ⟨b1, b2⟩
      refine (m_go b1 hW.1 hn' (by omega)).mono ?_
      rintro g2 ⟨c1, c2⟩
      refine (ok_up (K := fun g3 => (∀ c, c < 6 → g3 25 0 0 (21 + c) = g2 31 0 0 c) ∧ ∀ k j o i, ¬ (k = 25 ∧ 21 ≤ i ∧ i < 27) → g3 k j o i = g2 k j o i) 6 (fun j z => z.1 = nI j ∧ (∀ c, c < j → z.2 25 0 0 (21 + c) = g2 31 0 0 c) ∧ ∀ k j o i, ¬ (k = 25 ∧ 21 ≤ i ∧ i < 27) → z.2 k j o i = g2 k j o i) (by omega) ?_ ?_ _ ⟨rfl, fun c hc => by omega, fun _ _ _ _ _ => rfl⟩).mono ?_
      · rintro j ⟨x, z⟩ hj ⟨hx, i1, i2⟩
        dsimp only at hx i1 i2
        subst hx
        have e31 := i2 31 0 0 j (by omega)
        simp (disch := omega) only [wp_some, wp_obd, wp_ob2, wp_bnd, wp_gd, wp_ite, wp_true, wp_ff, ↓l_n1, ↓l_n2, ↓l_n3, ↓l_n4, ↓l_n10, ↓l_n20, l_0, l_1, l_2, l_3, l_4, l_5, l_6, l_7, l_8, l_9, l_10, l_13, l_14, l_15, l_16, l_20, l_21, l_24, l_27, l_28, l_30, l_31, l_32, l_35, l_36, l_39, l_40, l_41, l_43, l_44, l_45, l_46, l_47, l_48, l_49, l_56, l_57, l_59, l_60, l_79, l_97, l_122, l_160, l_237, l_255, l_320, l_999, l_1000, nI_add, pk_mul, nI_eq, nI_leI, nI_ltI, nI_clamp, inb_nI_iff, e_within, e_in32, e_asNumber, e_flag, decide_eq_true_eq, Sum.elim_inl, Sum.elim_inr, true_implies, not_true_eq_false, not_false_eq_true, false_implies, and_true, true_and, nI_nn, nn_nI, nn_nn, ↓reduceIte, if_true, if_false, Nat.le_refl, implies_true, Nat.lt_irrefl, and_self_left, win1, nI_le_s1, Nat.zero_le, up_s, up_o, Nat.zero_add, m64_0, m64_1, m64_2, m64_3, m64_7, m64_8, m64_9, m64_10, m64_13, m64_20, m64_27, m64_60, e31]
        refine ⟨fun e => by omega, fun _ => ⟨by omega, by omega, fun c hc => ?_, fun k j' o i hh => ?_⟩⟩
        · by_cases e : c = j
          · subst e; (try simp (disch := omega) only [up_s, up_o, and_self])
          · (try simp (disch := omega) only [up_s, up_o, and_self]); exact i1 c (by omega)
        · (try simp (disch := omega) only [up_s, up_o, and_self]); exact i2 k j' o i hh
      · rintro ⟨x, z⟩ ⟨hx, i1, i2⟩
        dsimp only at hx i1 i2
        subst hx
        simp (disch := omega) only [wp_some, wp_obd, wp_ob2, wp_bnd, wp_gd, wp_ite, wp_true, wp_ff, ↓l_n1, ↓l_n2, ↓l_n3, ↓l_n4, ↓l_n10, ↓l_n20, l_0, l_1, l_2, l_3, l_4, l_5, l_6, l_7, l_8, l_9, l_10, l_13, l_14, l_15, l_16, l_20, l_21, l_24, l_27, l_28, l_30, l_31, l_32, l_35, l_36, l_39, l_40, l_41, l_43, l_44, l_45, l_46, l_47, l_48, l_49, l_56, l_57, l_59, l_60, l_79, l_97, l_122, l_160, l_237, l_255, l_320, l_999, l_1000, nI_add, pk_mul, nI_eq, nI_leI, nI_ltI, nI_clamp, inb_nI_iff, e_within, e_in32, e_asNumber, e_flag, decide_eq_true_eq, Sum.elim_inl, Sum.elim_inr, true_implies, not_true_eq_false, not_false_eq_true, false_implies, and_true, true_and, nI_nn, nn_nI, nn_nn, ↓reduceIte, if_true, if_false, Nat.le_refl, implies_true, Nat.lt_irrefl, and_self_left, win1, nI_le_s1, Nat.zero_le, up_s, up_o, Nat.zero_add, m64_0, m64_1, m64_2, m64_3, m64_7, m64_8, m64_9, m64_10, m64_13, m64_20, m64_27, m64_60]
        exact ⟨i1, i2⟩
      rintro g3 ⟨d1, d2⟩
      refine (ok_up (K := fun g4 => (∀ c, c < 4 → g4 25 0 0 (39 + c) = g2 35 0 0 c) ∧ ∀ k j o i, ¬ (k = 25 ∧ 39 ≤ i ∧ i < 43) → g4 k j o i = g3 k j o i) 4 (fun j z => z.1 = nI j ∧ (∀ c, c < j → z.2 25 0 0 (39 + c) = g2 35 0 0 c) ∧ ∀ k j o i, ¬ (k = 25 ∧ 39 ≤ i ∧ i < 43) → z.2 k j o i = g3 k j o i) (by omega) ?_ ?_ _ ⟨rfl, fun c hc => by omega, fun _ _ _ _ _ => rfl⟩).mono ?_
      · rintro j ⟨x, z⟩ hj ⟨hx, i1, i2⟩
        dsimp only at hx i1 i2
        subst hx
        have e31 : z 35 0 0 j = g2 35 0 0 j := (i2 35 0 0 j (by omega)).trans (d2 35 0 0 j (by omega))
        simp (disch := omega) only [wp_some, wp_obd, wp_ob2, wp_bnd, wp_gd, wp_ite, wp_true, wp_ff, ↓l_n1, ↓l_n2, ↓l_n3, ↓l_n4, ↓l_n10, ↓l_n20, l_0, l_1, l_2, l_3, l_4, l_5, l_6, l_7, l_8, l_9, l_10, l_13, l_14, l_15, l_16, l_20, l_21, l_24, l_27, l_28, l_30, l_31, l_32, l_35, l_36, l_39, l_40, l_41, l_43, l_44, l_45, l_46, l_47, l_48, l_49, l_56, l_57, l_59, l_60, l_79, l_97, l_122, l_160, l_237, l_255, l_320, l_999, l_1000, nI_add, pk_mul, nI_eq, nI_leI, nI_ltI, nI_clamp, inb_nI_iff, e_within, e_in32, e_asNumber, e_flag, decide_eq_true_eq, Sum.elim_inl, Sum.elim_inr, true_implies, not_true_eq_false, not_false_eq_true, false_implies, and_true, true_and, nI_nn, nn_nI, nn_nn, ↓reduceIte, if_true, if_false, Nat.le_refl, implies_true, Nat.lt_irrefl, and_self_left, win1, nI_le_s1, Nat.zero_le, up_s, up_o, Nat.zero_add, m64_0, m64_1, m64_2, m64_3, m64_7, m64_8, m64_9, m64_10, m64_13, m64_20, m64_27, m64_60, e31]
        refine ⟨fun e => by omega, fun _ => ⟨by omega, by omega, fun c hc => ?_, fun k j' o i hh => ?_⟩⟩
        · by_cases e : c = j
          · subst e; (try simp (disch := omega) only [up_s, up_o, and_self])
          · (try simp (disch := omega) only [up_s, up_o, and_self]); exact i1 c (by omega)
        · (try simp (disch := omega) only [up_s, up_o, and_self]); exact i2 k j' o i hh
      · rintro ⟨x, z⟩ ⟨hx, i1, i2⟩
        dsimp only at hx i1 i2
        subst hx
        simp (disch := omega) only [wp_some, wp_obd, wp_ob2, wp_bnd, wp_gd, wp_ite, wp_true, wp_ff, ↓l_n1, ↓l_n2, ↓l_n3, ↓l_n4, ↓l_n10, ↓l_n20, l_0, l_1, l_2, l_3, l_4, l_5, l_6, l_7, l_8, l_9, l_10, l_13, l_14, l_15, l_16, l_20, l_21, l_24, l_27, l_28, l_30, l_31, l_32, l_35, l_36, l_39, l_40, l_41, l_43, l_44, l_45, l_46, l_47, l_48, l_49, l_56, l_57, l_59, l_60, l_79, l_97, l_122, l_160, l_237, l_255, l_320, l_999, l_1000, nI_add, pk_mul, nI_eq, nI_leI, nI_ltI, nI_clamp, inb_nI_iff, e_within, e_in32, e_asNumber, e_flag, decide_eq_true_eq, Sum.elim_inl, Sum.elim_inr, true_implies, not_true_eq_false, not_false_eq_true, false_implies, and_true, true_and, nI_nn, nn_nI, nn_nn, ↓reduceIte, if_true, if_false, Nat.le_refl, implies_true, Nat.lt_irrefl, and_self_left, win1, nI_le_s1, Nat.zero_le, up_s, up_o, Nat.zero_add, m64_0, m64_1, m64_2, m64_3, m64_7, m64_8, m64_9, m64_10, m64_13, m64_20, m64_27, m64_60]
        exact ⟨i1, i2⟩
      rintro g4 ⟨f1, f2⟩
      have fr : ∀ k j o i, ¬ (k = 25 ∧ ((21 ≤ i ∧ i < 27) ∨ (39 ≤ i ∧ i < 43) ∨ i = 45)) → up g4 25 0 0 45 (g4 24 27 0 0) k j o i = g2 k j o i := fun k j o i hh => by
        rw [up_o (by omega), f2 _ _ _ _ (by omega), d2 _ _ _ _ (by omega)]
      have hMT : MT (up g4 25 0 0 45 (g4 24 27 0 0)) (stn B n') := MT_fr c1 hWn.1 (fun k j o i hh => fr _ _ _ _ (by omega))
      simp (disch := omega) only [wp_some, wp_obd, wp_ob2, wp_bnd, wp_gd, wp_ite, wp_true, wp_ff, ↓l_n1, ↓l_n2, ↓l_n3, ↓l_n4, ↓l_n10, ↓l_n20, l_0, l_1, l_2, l_3, l_4, l_5, l_6, l_7, l_8, l_9, l_10, l_13, l_14, l_15, l_16, l_20, l_21, l_24, l_27, l_28, l_30, l_31, l_32, l_35, l_36, l_39, l_40, l_41, l_43, l_44, l_45, l_46, l_47, l_48, l_49, l_56, l_57, l_59, l_60, l_79, l_97, l_122, l_160, l_237, l_255, l_320, l_999, l_1000, nI_add, pk_mul, nI_eq, nI_leI, nI_ltI, nI_clamp, inb_nI_iff, e_within, e_in32, e_asNumber, e_flag, decide_eq_true_eq, Sum.elim_inl, Sum.elim_inr, true_implies, not_true_eq_false, not_false_eq_true, false_implies, and_true, true_and, nI_nn, nn_nI, nn_nn, ↓reduceIte, if_true, if_false, Nat.le_refl, implies_true, Nat.lt_irrefl, and_self_left, win1, nI_le_s1, Nat.zero_le, up_s, up_o, Nat.zero_add, m64_0, m64_1, m64_2, m64_3, m64_7, m64_8, m64_9, m64_10, m64_13, m64_20, m64_27, m64_60, m_rightMany hMT hWn.1]
      have hb : ∀ k j o i, k < 24 → up g4 25 0 0 45 (g4 24 27 0 0) k j o i = h1 k j o i := fun k j o i hh => by
        rw [fr _ _ _ _ (by omega), c2 _ _ _ _ (by omega), b2 _ _ _ _ (by omega)]
      have hb2 : ∀ k j o i, (k = 24 ∧ j ≠ 26 ∧ j ≠ 27) ∨ (k = 25 ∧ ¬ ((21 ≤ i ∧ i < 27) ∨ (39 ≤ i ∧ i < 43) ∨ i = 45)) ∨ k = 26 ∨ k = 28 ∨ 40 ≤ k → up g4 25 0 0 45 (g4 24 27 0 0) k j o i = h1 k j o i := fun k j o i hh => by
        rw [fr _ _ _ _ (by omega), c2 _ _ _ _ (by omega), b2 _ _ _ _ (by omega)]
      obtain ⟨⟨⟨u0, u1, u2, u3, u4, u5, u6⟩, v0, v2⟩, hT1⟩ := id hN1
      obtain ⟨m0, m1, m2, m3, m4, m5, m6, m7, m8, m9, m10⟩ := id hMT
      refine ⟨stn B n', T, ⟨CB0_fr a1 (fun k' j i p q => hb _ _ _ _ (by omega)), HL_fr a2 (fun k' j i p q => hb _ _ _ _ (by omega)), CSg_fr hK.2.2 (fun k' j i p q => (hb _ _ _ _ (by omega)).trans (a3 _ _ _ _ (by omega)))⟩, ⟨⟨⟨fun x hx => ?_, m1, fun c hc => ?_, fun k hk => ?_, m3, m4, ?_⟩, m0, m2⟩, TN_fr hW.2.2.1 hT1 (fun i p q => hb2 _ _ _ _ (by omega))⟩, hWn, RST_fr hRs (fun k j o i hr => ?_)⟩
      · rw [hb2 _ _ _ _ (by omega), stn_f (by decide) (by decide) (by decide)]; exact u0 x hx
      · have hc2 : c < B 1 0 := by omega
        refine ⟨(m9 c hc).1, ?_, ?_⟩
        · rw [hb2 _ _ _ _ (by omega), stn_f (by decide) (by decide) (by decide)]; exact (u2 c hc2).2.1
        · rw [up_o (by omega), f2 _ _ _ _ (by omega), d1 c (by omega)]; exact (c1.2.2.2.2.2.2.2.2.2.1 c hc).2.2
      · have hk2 : k < B 2 0 := by omega
        refine ⟨?_, ?_, ?_, ?_⟩
        · rw [hb2 _ _ _ _ (by omega), stn_f (by decide) (by decide) (by decide)]; exact (u3 k hk2).1
        · rw [hb2 _ _ _ _ (by omega), stn_f (by decide) (by decide) (by decide)]; exact (u3 k hk2).2.1
        · rw [hb2 _ _ _ _ (by omega), stn_f (by decide) (by decide) (by decide)]; exact (u3 k hk2).2.2.1
        · rw [up_o (by omega), f1 k (by omega)]; exact (c1.2.2.2.2.2.2.2.2.2.2 k hk).2.2.2
      · rw [up_s, f2 _ _ _ _ (by omega), d2 _ _ _ _ (by omega)]; exact c1.2.2.2.2.2.1
      · unfold rst at hr
        by_cases e : k < 24
        · rw [hb _ _ _ _ e]; exact a3 _ _ _ _ (by omega)
        · rw [hb2 _ _ _ _ (by omega)]; exact a3 _ _ _ _ (by omega)
    · have hs1 : ¬ B 5 0 + n' < 1000 := by omega
      unfold f_X9_go f_X10_go
      simp (disch := omega) only [wp_some, wp_obd, wp_ob2, wp_bnd, wp_gd, wp_ite, wp_true, wp_ff, ↓l_n1, ↓l_n2, ↓l_n3, ↓l_n4, ↓l_n10, ↓l_n20, l_0, l_1, l_2, l_3, l_4, l_5, l_6, l_7, l_8, l_9, l_10, l_13, l_14, l_15, l_16, l_20, l_21, l_24, l_27, l_28, l_30, l_31, l_32, l_35, l_36, l_39, l_40, l_41, l_43, l_44, l_45, l_46, l_47, l_48, l_49, l_56, l_57, l_59, l_60, l_79, l_97, l_122, l_160, l_237, l_255, l_320, l_999, l_1000, nI_add, pk_mul, nI_eq, nI_leI, nI_ltI, nI_clamp, inb_nI_iff, e_within, e_in32, e_asNumber, e_flag, decide_eq_true_eq, Sum.elim_inl, Sum.elim_inr, true_implies, not_true_eq_false, not_false_eq_true, false_implies, and_true, true_and, nI_nn, nn_nI, nn_nn, ↓reduceIte, if_true, if_false, Nat.le_refl, implies_true, Nat.lt_irrefl, and_self_left, win1, nI_le_s1, Nat.zero_le, up_s, up_o, Nat.zero_add, m64_0, m64_1, m64_2, m64_3, m64_7, m64_8, m64_9, m64_10, m64_13, m64_20, m64_27, m64_60, hM5, s6, hn', hs, hs1]
      exact hR0
  · unfold f_X9_go f_X10_go
    simp (disch := omega) only [wp_some, wp_obd, wp_ob2, wp_bnd, wp_gd, wp_ite, wp_true, wp_ff, ↓l_n1, ↓l_n2, ↓l_n3, ↓l_n4, ↓l_n10, ↓l_n20, l_0, l_1, l_2, l_3, l_4, l_5, l_6, l_7, l_8, l_9, l_10, l_13, l_14, l_15, l_16, l_20, l_21, l_24, l_27, l_28, l_30, l_31, l_32, l_35, l_36, l_39, l_40, l_41, l_43, l_44, l_45, l_46, l_47, l_48, l_49, l_56, l_57, l_59, l_60, l_79, l_97, l_122, l_160, l_237, l_255, l_320, l_999, l_1000, nI_add, pk_mul, nI_eq, nI_leI, nI_ltI, nI_clamp, inb_nI_iff, e_within, e_in32, e_asNumber, e_flag, decide_eq_true_eq, Sum.elim_inl, Sum.elim_inr, true_implies, not_true_eq_false, not_false_eq_true, false_implies, and_true, true_and, nI_nn, nn_nI, nn_nn, ↓reduceIte, if_true, if_false, Nat.le_refl, implies_true, Nat.lt_irrefl, and_self_left, win1, nI_le_s1, Nat.zero_le, up_s, up_o, Nat.zero_add, m64_0, m64_1, m64_2, m64_3, m64_7, m64_8, m64_9, m64_10, m64_13, m64_20, m64_27, m64_60, hn]
    exact hR0
end Tri
