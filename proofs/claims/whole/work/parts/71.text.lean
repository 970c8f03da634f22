section Cl
variable {h h0 g q : Mem} {t : Nat} {u : Nat → Nat} {s a b hi hi' : Nat} {B T : Bs} {pt tt : Bool}
theorem o_text (hR : RI h) : Ok (f_X9_text h) (fun q => Ok (f_X10_text q.2) (fun r => q.1 = r.1 ∧ RI r.2)) := by
  obtain ⟨B, T, hK, hN, hW, hRs⟩ := hR
  obtain ⟨i1, i2, ⟨t, u, t1, t2, t3, t4⟩, i4⟩ := id hRs
  have hC : CT h t u := ⟨t2, fun i hi => (t4 i hi).2.2⟩
  have hRT : RT h t u := ⟨t3, fun i hi => (t4 i hi).2.1⟩
  have hU : UB t u := ⟨t1, fun i hi => (t4 i hi).1⟩
  unfold f_X9_text
  refine ok_ob2 ((c_tell hC hU).mono ?_)
  rintro ⟨r, h2⟩ ⟨a1, a2⟩
  dsimp only at a1 a2
  refine ok_bnd ?_
  have hG3 : ∀ k j o i, ¬ (k = 16 ∨ (1 ≤ k ∧ k ≤ 7 ∧ o = 2)) → ¬ (k = 17 ∧ j = 1) → up h2 17 1 0 0 (0 : Int32) k j o i = h k j o i := fun k j o i w1 w2 => by
    rw [up_o (by omega)]; exact a1 _ _ _ _ w1
  have z17 : up h2 17 1 0 0 (0 : Int32) 17 1 0 0 = nI 0 := up_s
  rcases a2 with ⟨f, e1, e2, e3⟩ | ⟨n, B', hi, e1, e2, e3, e4, e5, e6, e7, e8⟩
  · have z2 : up h2 17 1 0 0 (0 : Int32) 16 2 0 0 = nI f.1 := (up_o (by omega)).trans e3.1
    have z3 : up h2 17 1 0 0 (0 : Int32) 16 3 0 0 = nI f.2 := (up_o (by omega)).trans e3.2
    show Ok (if up h2 17 1 0 0 (0 : Int32) 16 2 0 0 = 0 then _ else _) _
    generalize up h2 17 1 0 0 (0 : Int32) = h3 at hG3 z17 z2 z3
    refine ok_ite (fun e => absurd (nI_inj (b := 0) (by omega) (by omega) (z2.symm.trans e)) (by omega)) (fun _ => ok_some ?_)
    refine (m_text (RT_fr hRT (fun k j o i hh => hG3 _ _ _ _ (by omega) (by omega))) hU).mono ?_
    rintro ⟨r2, h4⟩ hq
    rcases hq with ⟨f', o1, o2, o3, o4, o5, o6⟩ | ⟨n, B', o1, o2⟩
    · rw [e1] at o1
      cases o1
      dsimp only at o3 o4 o5 o6
      have fr : ∀ k j o i, ¬ (k = 16 ∨ (1 ≤ k ∧ k ≤ 7 ∧ o = 2)) → ¬ (k = 17 ∧ j = 1) → ¬ (k = 27 ∨ (k = 24 ∧ 5 ≤ j ∧ j ≤ 16)) → h4 k j o i = h k j o i := fun k j o i w1 w2 w3 => (o6 _ _ _ _ w3).trans (hG3 _ _ _ _ w1 w2)
      refine ⟨?_, B, T, ⟨CB0_fr hK.1 (fun k j i p q => fr _ _ _ _ (by omega) (by omega) (by omega)), HL_fr hK.2.1 (fun k j i p q => fr _ _ _ _ (by omega) (by omega) (by omega)), CSg_fr hK.2.2 (fun k j i p q => fr _ _ _ _ (by omega) (by omega) (by omega))⟩, RN_lo2 hN hW (fun k j o i hh => fr _ _ _ _ (by omega) (by omega) (by omega)), hW, fun k hk => IM_fr hk (i1 k hk) (fun k' j o i hh => fr _ _ _ _ (by omega) (by omega) (by omega)), fun k hk => SH_fr hk (i2 k hk) (fun k' j o i hh => fr _ _ _ _ (by omega) (by omega) (by omega)), ⟨0, u, by omega, (o6 _ _ _ _ (by omega)).trans z17, o5, fun i hi => by omega⟩, ?_, ?_⟩
      · show (-10 : Int32) - h3 16 3 0 0 = r2
        rw [z3, l_n10]; exact o3.symm
      · show h4 0 8 0 0 = h4 24 33 0 0
        rw [fr _ _ _ _ (by omega) (by omega) (by omega), fr _ _ _ _ (by omega) (by omega) (by omega)]; exact i4.1
      · show h4 16 2 0 0 = h4 24 15 0 0
        rw [o6 _ _ _ _ (by omega), z2]; exact o4.symm
    · rw [e1] at o1; cases o1
  · have z2 : up h2 17 1 0 0 (0 : Int32) 16 2 0 0 = nI 0 := (up_o (by omega)).trans e4
    have zB : BC (up h2 17 1 0 0 (0 : Int32)) B' := ⟨CB0_fr e5.1 (fun k j i p q => up_o (by omega)), fun k hk => (up_o (by omega)).trans (e5.2 k hk)⟩
    show Ok (if up h2 17 1 0 0 (0 : Int32) 16 2 0 0 = 0 then _ else _) _
    generalize up h2 17 1 0 0 (0 : Int32) = h3 at hG3 z17 z2 zB
    have hWF := PW_WF e6 e7 e8
    have hNO := e6.2.2.2.2.2.2.2.1
    refine ok_ite (fun _ => ok_obd ?_) (fun e => absurd z2 e)
    refine (c_copy (a := 2) (b := 0) (by omega) zB.1 (fun k hk => by rw [PW_hd e6]; exact zB.2 k hk) hWF (by rw [hNO.1]; exact Nat.le_refl _)).mono ?_
    rintro h4 ⟨c1, c2, c3⟩
    refine ok_bnd (ok_obd ?_)
    refine (ok_up (K := fun h' => (∀ k, k < 2 → h' 20 0 k 0 = nI 0) ∧ ∀ k j o i, k ≠ 20 → h' k j o i = up h4 8 0 0 0 (nI 0) k j o i) 2 (fun j z => z.1 = nI j ∧ (∀ k, k < j → z.2 20 0 k 0 = nI 0) ∧ ∀ k j o i, k ≠ 20 → z.2 k j o i = up h4 8 0 0 0 (nI 0) k j o i) (by omega) ?_ ?_ _ ⟨rfl, fun k hk => by omega, fun _ _ _ _ _ => rfl⟩).mono ?_
    · rintro j ⟨x, z⟩ hj ⟨hx, k1, k2⟩
      dsimp only at hx k1 k2
      subst hx
      simp (disch := omega) only [wp_some, wp_obd, wp_ob2, wp_bnd, wp_gd, wp_ite, wp_true, wp_ff, ↓l_n1, ↓l_n2, ↓l_n3, ↓l_n4, ↓l_n10, ↓l_n20, l_0, l_1, l_2, l_3, l_4, l_5, l_6, l_7, l_8, l_9, l_10, l_13, l_14, l_15, l_16, l_20, l_21, l_24, l_27, l_28, l_30, l_31, l_32, l_35, l_36, l_39, l_40, l_41, l_43, l_44, l_45, l_46, l_47, l_48, l_49, l_56, l_57, l_59, l_60, l_79, l_97, l_122, l_160, l_237, l_255, l_320, l_999, l_1000, nI_add, pk_mul, nI_eq, nI_leI, nI_ltI, nI_clamp, inb_nI_iff, e_within, e_in32, e_asNumber, e_flag, decide_eq_true_eq, Sum.elim_inl, Sum.elim_inr, true_implies, not_true_eq_false, not_false_eq_true, false_implies, and_true, true_and, nI_nn, nn_nI, nn_nn, ↓reduceIte, if_true, if_false, Nat.le_refl, implies_true, Nat.lt_irrefl, and_self_left, win1, nI_le_s1, Nat.zero_le, up_s, up_o, Nat.zero_add, m64_0, m64_1, m64_2, m64_3, m64_7, m64_8, m64_9, m64_10, m64_13, m64_20, m64_27, m64_60]
      refine ⟨fun e => by omega, fun _ => ⟨by omega, fun k hk => ?_, fun k j' o i hh => ?_⟩⟩
      · by_cases e : k = j
        · subst e; (try simp (disch := omega) only [up_s, up_o, and_self])
        · rw [up_o (by omega)]; exact k1 k (by omega)
      · rw [up_o (by omega)]; exact k2 k j' o i hh
    · rintro ⟨x, z⟩ ⟨hx, k1, k2⟩
      dsimp only at hx k1 k2
      subst hx
      simp (disch := omega) only [wp_some, wp_obd, wp_ob2, wp_bnd, wp_gd, wp_ite, wp_true, wp_ff, ↓l_n1, ↓l_n2, ↓l_n3, ↓l_n4, ↓l_n10, ↓l_n20, l_0, l_1, l_2, l_3, l_4, l_5, l_6, l_7, l_8, l_9, l_10, l_13, l_14, l_15, l_16, l_20, l_21, l_24, l_27, l_28, l_30, l_31, l_32, l_35, l_36, l_39, l_40, l_41, l_43, l_44, l_45, l_46, l_47, l_48, l_49, l_56, l_57, l_59, l_60, l_79, l_97, l_122, l_160, l_237, l_255, l_320, l_999, l_1000, nI_add, pk_mul, nI_eq, nI_leI, nI_ltI, nI_clamp, inb_nI_iff, e_within, e_in32, e_asNumber, e_flag, decide_eq_true_eq, Sum.elim_inl, Sum.elim_inr, true_implies, not_true_eq_false, not_false_eq_true, false_implies, and_true, true_and, nI_nn, nn_nI, nn_nn, ↓reduceIte, if_true, if_false, Nat.le_refl, implies_true, Nat.lt_irrefl, and_self_left, win1, nI_le_s1, Nat.zero_le, up_s, up_o, Nat.zero_add, m64_0, m64_1, m64_2, m64_3, m64_7, m64_8, m64_9, m64_10, m64_13, m64_20, m64_27, m64_60]
      exact ⟨k1, k2⟩
    rintro h5 ⟨d1, d2⟩
    refine ok_some ?_
    have fr5 : ∀ k j o i, (k = 0 ∨ 13 ≤ k) → k ≠ 20 → k ≠ 16 → ¬ (k = 17 ∧ j = 1) → h5 k j o i = h k j o i := fun k j o i w1 w2 w3 w4 => by
      rw [d2 _ _ _ _ w2, up_o (by omega), c3 _ _ _ _ (by omega)]; exact hG3 _ _ _ _ (by omega) w4
    have z5 : h5 17 1 0 0 = nI 0 := by rw [d2 _ _ _ _ (by omega), up_o (by omega), c3 _ _ _ _ (by omega)]; exact z17
    have z6 : h5 16 2 0 0 = nI 0 := by rw [d2 _ _ _ _ (by omega), up_o (by omega), c3 _ _ _ _ (by omega)]; exact z2
    have z8 : h5 8 0 0 0 = nI 0 := by rw [d2 _ _ _ _ (by omega), up_s]
    have zC : CB0 h5 0 B' := CB0_fr c1 (fun k j i p q => by rw [d2 _ _ _ _ (by omega), up_o (by omega)])
    have zH : HL h5 0 B' := HL_fr c2 (fun k j i p q => by rw [d2 _ _ _ _ (by omega), up_o (by omega)])
    refine (m_text (h := h5) (RT_fr hRT (fun k j o i hh => fr5 _ _ _ _ (by omega) (by omega) (by omega) (by omega))) hU).mono ?_
    rintro ⟨r2, h6⟩ hq
    rcases hq with ⟨f', o1, o2⟩ | ⟨n', B'', o1, o2, o3, o4, o5, o6, o7, o8, o9, o10⟩
    · rw [e1] at o1; cases o1
    · rw [e1] at o1
      cases o1
      dsimp only at o2 o3 o4 o5 o6 o7 o8 o9 o10
      have fr : ∀ k j o i, k < 24 ∨ 28 ≤ k ∨ (k = 24 ∧ 17 ≤ j) → h6 k j o i = h5 k j o i := fun k j o i w => o10 _ _ _ _ (by omega) (by omega) (by omega) (by omega)
      refine ⟨e3.trans o2.symm, B', fun _ _ => 0, ⟨CB0_fr zC (fun k j i p q => fr _ _ _ _ (by omega)), HL_fr zH (fun k j i p q => fr _ _ _ _ (by omega)), (fr _ _ _ _ (by omega)).trans z8, fun i hi => absurd hi (Nat.not_lt_zero i)⟩, ⟨⟨o5, o7, o8⟩, o6, fun i hi => absurd hi (Nat.not_lt_zero i)⟩, ⟨hWF, hNO, by show (0 : Nat) ≤ 8; omega, fun i hi => absurd hi (Nat.not_lt_zero i)⟩, fun k hk => ⟨false, (fr _ _ _ _ (by omega)).trans (d1 k hk), o9 k hk, fun e => (by cases e)⟩, fun k hk => SH_fr hk (i2 k hk) (fun k' j o i hh => (fr _ _ _ _ (by omega)).trans (fr5 _ _ _ _ (by omega) (by omega) (by omega) (by omega))), ⟨0, u, by omega, (fr _ _ _ _ (by omega)).trans z5, o4, fun i hi => absurd hi (Nat.not_lt_zero i)⟩, ?_, ?_⟩
      · show h6 0 8 0 0 = h6 24 33 0 0
        rw [fr _ _ _ _ (by omega), fr _ _ _ _ (by omega), fr5 _ _ _ _ (by omega) (by omega) (by omega) (by omega), fr5 _ _ _ _ (by omega) (by omega) (by omega) (by omega)]; exact i4.1
      · show h6 16 2 0 0 = h6 24 15 0 0
        rw [fr _ _ _ _ (by omega), z6]; exact o3.symm
theorem RI_init : Ok (f_X10_init hInit) RI := by
  unfold f_X10_init
  refine ok_obd ?_
  refine (ok_up (K := fun h' => (∀ k, k < 4 → h' 40 0 0 k = nn 4) ∧ ∀ k j o i, k ≠ 40 → h' k j o i = hInit k j o i) 4 (fun j z => z.1 = nI j ∧ (∀ k, k < j → z.2 40 0 0 k = nn 4) ∧ ∀ k j o i, k ≠ 40 → z.2 k j o i = hInit k j o i) (by omega) ?_ ?_ _ ⟨rfl, fun k hk => by omega, fun _ _ _ _ _ => rfl⟩).mono ?_
  · rintro j ⟨x, z⟩ hj ⟨hx, k1, k2⟩
    dsimp only at hx k1 k2
    subst hx
    simp (disch := omega) only [wp_some, wp_obd, wp_ob2, wp_bnd, wp_gd, wp_ite, wp_true, wp_ff, ↓l_n1, ↓l_n2, ↓l_n3, ↓l_n4, ↓l_n10, ↓l_n20, l_0, l_1, l_2, l_3, l_4, l_5, l_6, l_7, l_8, l_9, l_10, l_13, l_14, l_15, l_16, l_20, l_21, l_24, l_27, l_28, l_30, l_31, l_32, l_35, l_36, l_39, l_40, l_41, l_43, l_44, l_45, l_46, l_47, l_48, l_49, l_56, l_57, l_59, l_60, l_79, l_97, l_122, l_160, l_237, l_255, l_320, l_999, l_1000, nI_add, pk_mul, nI_eq, nI_leI, nI_ltI, nI_clamp, inb_nI_iff, e_within, e_in32, e_asNumber, e_flag, decide_eq_true_eq, Sum.elim_inl, Sum.elim_inr, true_implies, not_true_eq_false, not_false_eq_true, false_implies, and_true, true_and, nI_nn, nn_nI, nn_nn, ↓reduceIte, if_true, if_false, Nat.le_refl, implies_true, Nat.lt_irrefl, and_self_left, win1, nI_le_s1, Nat.zero_le, up_s, up_o, Nat.zero_add, m64_0, m64_1, m64_2, m64_3, m64_7, m64_8, m64_9, m64_10, m64_13, m64_20, m64_27, m64_60]
    refine ⟨fun e => by omega, fun _ => ⟨by omega, fun k hk => ?_, fun k j' o i hh => ?_⟩⟩
    · by_cases e : k = j
      · subst e; (try simp (disch := omega) only [up_s, up_o, and_self])
      · rw [up_o (by omega)]; exact k1 k (by omega)
    · rw [up_o (by omega)]; exact k2 k j' o i hh
  · rintro ⟨x, z⟩ ⟨hx, k1, k2⟩
    dsimp only at hx k1 k2
    subst hx
    simp (disch := omega) only [wp_some, wp_obd, wp_ob2, wp_bnd, wp_gd, wp_ite, wp_true, wp_ff, ↓l_n1, ↓l_n2, ↓l_n3, ↓l_n4, ↓l_n10, ↓l_n20, l_0, l_1, l_2, l_3, l_4, l_5, l_6, l_7, l_8, l_9, l_10, l_13, l_14, l_15, l_16, l_20, l_21, l_24, l_27, l_28, l_30, l_31, l_32, l_35, l_36, l_39, l_40, l_41, l_43, l_44, l_45, l_46, l_47, l_48, l_49, l_56, l_57, l_59, l_60, l_79, l_97, l_122, l_160, l_237, l_255, l_320, l_999, l_1000, nI_add, pk_mul, nI_eq, nI_leI, nI_ltI, nI_clamp, inb_nI_iff, e_within, e_in32, e_asNumber, e_flag, decide_eq_true_eq, Sum.elim_inl, Sum.elim_inr, true_implies, not_true_eq_false, not_false_eq_true, false_implies, and_true, true_and, nI_nn, nn_nI, nn_nn, ↓reduceIte, if_true, if_false, Nat.le_refl, implies_true, Nat.lt_irrefl, and_self_left, win1, nI_le_s1, Nat.zero_le, up_s, up_o, Nat.zero_add, m64_0, m64_1, m64_2, m64_3, m64_7, m64_8, m64_9, m64_10, m64_13, m64_20, m64_27, m64_60]
    exact ⟨k1, k2⟩
  rintro h1 ⟨a1, a2⟩
  refine ok_obd (m_draft.mono ?_)
  rintro h2 ⟨b1, b2, b3, b4⟩
  refine ok_obd ((m_kdraft (by decide) (by decide) b2).mono ?_)
  rintro h3 ⟨c1, c2, c3, c4, c5, c6⟩
  refine ok_some ?_
  have fr : ∀ k j o i, k < 24 ∨ 28 ≤ k ∨ (k = 24 ∧ (17 ≤ j ∨ j = 10)) → h3 k j o i = h1 k j o i := fun k j o i w => (c6 _ _ _ _ (by omega) (by omega) (by omega)).trans (b1 _ _ _ _ (by omega))
  have fi : ∀ k j o i, k < 24 ∨ 28 ≤ k ∨ (k = 24 ∧ (17 ≤ j ∨ j = 10)) → k ≠ 40 → h3 k j o i = hInit k j o i := fun k j o i w w2 => (fr _ _ _ _ w).trans (a2 _ _ _ _ w2)
  have e15 : h3 24 15 0 0 = 0 := by
    rw [c6 _ _ _ _ (by omega) (by omega) (by omega), b4, a2 _ _ _ _ (by omega)]; rfl
  refine ⟨BZ, fun _ _ => 0, ⟨⟨?_, ?_, ?_, ?_, ?_, ?_, ?_, fun x hx => ?_, fun i hi => ?_, fun i hi => ?_, fun i hi => ?_⟩, fun k hk => ?_, ?_, fun i hi => absurd hi (Nat.not_lt_zero i)⟩, ⟨⟨c1, c3, c4⟩, c2, fun i hi => absurd hi (Nat.not_lt_zero i)⟩, ⟨PW_WF PW_Z HI_Z (by decide), PW_Z.2.2.2.2.2.2.2.1, by show (0 : Nat) ≤ 8; omega, fun i hi => absurd hi (Nat.not_lt_zero i)⟩, fun k hk => ⟨false, ?_, c5 k hk, fun e => (by cases e)⟩, fun k hk => ⟨none, ?_, ?_, fun v e => (by cases e), fun i hi => ?_⟩, ⟨0, fun _ => 0, by omega, ?_, ?_, fun i hi => absurd hi (Nat.not_lt_zero i)⟩, ?_, ?_⟩
  · rw [fi _ _ _ _ (by omega) (by omega)]; rfl
  · rw [fi _ _ _ _ (by omega) (by omega)]; rfl
  · rw [fi _ _ _ _ (by omega) (by omega)]; rfl
  · rw [fi _ _ _ _ (by omega) (by omega)]; rfl
  · rw [fi _ _ _ _ (by omega) (by omega)]; rfl
  · rw [fi _ _ _ _ (by omega) (by omega)]; rfl
  · rw [fi _ _ _ _ (by omega) (by omega)]; rfl
  · rw [fi _ _ _ _ (by omega) (by omega)]; rfl
  · simp [BZ] at hi
  · simp [BZ] at hi
  · simp [BZ] at hi
  · simp [BZ] at hk
  · rw [fi _ _ _ _ (by omega) (by omega)]; rfl
  · rw [fi _ _ _ _ (by omega) (by omega)]; rfl
  · rw [fi _ _ _ _ (by omega) (by omega), on_none]; exact l_n1
  · rw [fr _ _ _ _ (by omega), on_none]; exact a1 k hk
  · rw [fi _ _ _ _ (by omega) (by omega), fi _ _ _ _ (by omega) (by omega)]; rfl
  · rw [fi _ _ _ _ (by omega) (by omega)]; rfl
  · rw [fi _ _ _ _ (by omega) (by omega)]; rfl
  · rw [fi _ _ _ _ (by omega) (by omega), fi _ _ _ _ (by omega) (by omega)]; rfl
  · rw [fi _ _ _ _ (by omega) (by omega), e15]; rfl
end Cl
