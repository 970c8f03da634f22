theorem nI_u {a b : Nat} (ha : a < 2 ^ 31) (hb : b < 2 ^ 31) (h : a ≠ b) : ¬ nI a = nI b := fun e => h (nI_inj ha hb e)
section Tri
variable {h g : Mem} {B T : Bs} {o S : Nat}
theorem eS9 (k : Int32) (h : Mem) : f_X9_isSheet k h = some (decide (nI 0 ≤ k ∧ k ≤ nI 3)) := by
  unfold f_X9_isSheet; rw [e_within]; rfl
theorem eL9 (k : Int32) (h : Mem) : f_X9_isLane k h = some (decide (nI 0 ≤ k ∧ k ≤ nI 2)) := by
  unfold f_X9_isLane; rw [e_within]; rfl
theorem eS10 (k l : Int32) (h : Mem) : f_X10_isSheet k l h = some (decide ((nI 0 ≤ k ∧ k ≤ nI 3) ∧ (nI 0 ≤ l ∧ l ≤ nI 2))) := by
  apply Ok.eqv
  unfold f_X10_isSheet
  by_cases h1 : nI 0 ≤ k ∧ k ≤ nI 3
  · by_cases h2 : nI 0 ≤ l ∧ l ≤ nI 2
    · simp (disch := omega) only [wp_some, wp_obd, wp_ob2, wp_bnd, wp_gd, wp_ite, wp_true, wp_ff, ↓l_n1, ↓l_n2, ↓l_n3, ↓l_n4, ↓l_n10, ↓l_n20, l_0, l_1, l_2, l_3, l_4, l_5, l_6, l_7, l_8, l_9, l_10, l_13, l_14, l_15, l_16, l_20, l_21, l_24, l_27, l_28, l_30, l_31, l_32, l_35, l_36, l_39, l_40, l_41, l_43, l_44, l_45, l_46, l_47, l_48, l_49, l_56, l_57, l_59, l_60, l_79, l_97, l_122, l_160, l_237, l_255, l_320, l_999, l_1000, nI_add, pk_mul, nI_eq, nI_leI, nI_ltI, nI_clamp, inb_nI_iff, e_within, e_in32, e_asNumber, e_flag, decide_eq_true_eq, Sum.elim_inl, Sum.elim_inr, true_implies, not_true_eq_false, not_false_eq_true, false_implies, and_true, true_and, nI_nn, nn_nI, nn_nn, ↓reduceIte, if_true, if_false, Nat.le_refl, implies_true, Nat.lt_irrefl, and_self_left, win1, nI_le_s1, Nat.zero_le, up_s, up_o, Nat.zero_add, m64_0, m64_1, m64_2, m64_3, m64_7, m64_8, m64_9, m64_10, m64_13, m64_20, m64_27, m64_60, h1, h2, decide_true, and_self]
    · simp (disch := omega) only [wp_some, wp_obd, wp_ob2, wp_bnd, wp_gd, wp_ite, wp_true, wp_ff, ↓l_n1, ↓l_n2, ↓l_n3, ↓l_n4, ↓l_n10, ↓l_n20, l_0, l_1, l_2, l_3, l_4, l_5, l_6, l_7, l_8, l_9, l_10, l_13, l_14, l_15, l_16, l_20, l_21, l_24, l_27, l_28, l_30, l_31, l_32, l_35, l_36, l_39, l_40, l_41, l_43, l_44, l_45, l_46, l_47, l_48, l_49, l_56, l_57, l_59, l_60, l_79, l_97, l_122, l_160, l_237, l_255, l_320, l_999, l_1000, nI_add, pk_mul, nI_eq, nI_leI, nI_ltI, nI_clamp, inb_nI_iff, e_within, e_in32, e_asNumber, e_flag, decide_eq_true_eq, Sum.elim_inl, Sum.elim_inr, true_implies, not_true_eq_false, not_false_eq_true, false_implies, and_true, true_and, nI_nn, nn_nI, nn_nn, ↓reduceIte, if_true, if_false, Nat.le_refl, implies_true, Nat.lt_irrefl, and_self_left, win1, nI_le_s1, Nat.zero_le, up_s, up_o, Nat.zero_add, m64_0, m64_1, m64_2, m64_3, m64_7, m64_8, m64_9, m64_10, m64_13, m64_20, m64_27, m64_60, h1, h2, decide_false, and_false]
  · simp (disch := omega) only [wp_some, wp_obd, wp_ob2, wp_bnd, wp_gd, wp_ite, wp_true, wp_ff, ↓l_n1, ↓l_n2, ↓l_n3, ↓l_n4, ↓l_n10, ↓l_n20, l_0, l_1, l_2, l_3, l_4, l_5, l_6, l_7, l_8, l_9, l_10, l_13, l_14, l_15, l_16, l_20, l_21, l_24, l_27, l_28, l_30, l_31, l_32, l_35, l_36, l_39, l_40, l_41, l_43, l_44, l_45, l_46, l_47, l_48, l_49, l_56, l_57, l_59, l_60, l_79, l_97, l_122, l_160, l_237, l_255, l_320, l_999, l_1000, nI_add, pk_mul, nI_eq, nI_leI, nI_ltI, nI_clamp, inb_nI_iff, e_within, e_in32, e_asNumber, e_flag, decide_eq_true_eq, Sum.elim_inl, Sum.elim_inr, true_implies, not_true_eq_false, not_false_eq_true, false_implies, and_true, true_and, nI_nn, nn_nI, nn_nn, ↓reduceIte, if_true, if_false, Nat.le_refl, implies_true, Nat.lt_irrefl, and_self_left, win1, nI_le_s1, Nat.zero_le, up_s, up_o, Nat.zero_add, m64_0, m64_1, m64_2, m64_3, m64_7, m64_8, m64_9, m64_10, m64_13, m64_20, m64_27, m64_60, h1, decide_false, false_and]
theorem m_inner {z : Mem} {k w N j : Nat} {l : Option Nat} {p : Int32} (hk : k ≤ 3) (hw : w ≤ 2) (hj : j ≤ 13) (hl : ∀ v, l = some v → v ≤ 2) (a1 : z 40 0 0 k = on (nn 4) l) (hN : N ≤ 40) (a3 : l ≠ none → z 41 0 0 k = nI N) : Ok (lp fu (fun a79 => (if (2 : Int32) ≤ a79.2 then some (.inr a79.1) else (if a79.1 = 0 then bnd ((((p).toInt64) + (((2 : Int32) * (nI j)).toInt64)) + ((a79.2).toInt64)) (fun x80 => gd (inb (nI k) 4) ((if (z 40 0 0 (nI k).toNatClampNeg) = (-4 : Int32) then bnd (a79.2 + (1 : Int32)) (fun x85 => some (.inl ((1 : Int32), x85))) else gd (inb (nI k) 4) ((if (z 40 0 0 (nI k).toNatClampNeg) = (nI w) then (if (lg_cmp x80 (0 : Int64)) < 0 then bnd (a79.2 + (1 : Int32)) (fun x81 => some (.inl ((2 : Int32), x81))) else gd (inb (nI k) 4) ((if (lg_cmp x80 ((z 41 0 0 (nI k).toNatClampNeg).toInt64)) < 0 then bnd (a79.2 + (1 : Int32)) (fun x82 => some (.inl ((0 : Int32), x82))) else bnd (a79.2 + (1 : Int32)) (fun x83 => some (.inl ((2 : Int32), x83)))))) else bnd (a79.2 + (1 : Int32)) (fun x84 => some (.inl ((3 : Int32), x84)))))))) else some (.inr a79.1)))) ((nI 0), (0 : Int32))) (fun e => e = nI (ffp l w N p.toInt j)) := by
  cases l with
  | none =>
    rw [on_none] at a1
    refine ok_up 2 (fun c x => x = (nI c, nI c) ∧ c < 2) (by omega) ?_ ?_ _ ⟨rfl, by omega⟩
    · rintro c ⟨r, x⟩ hc ⟨e, -⟩
      cases e
      have : c = 0 ∨ c = 1 := by omega
      rcases this with rfl | rfl
      · simp (disch := omega) only [wp_some, wp_obd, wp_ob2, wp_bnd, wp_gd, wp_ite, wp_true, wp_ff, ↓l_n1, ↓l_n2, ↓l_n3, ↓l_n4, ↓l_n10, ↓l_n20, l_0, l_1, l_2, l_3, l_4, l_5, l_6, l_7, l_8, l_9, l_10, l_13, l_14, l_15, l_16, l_20, l_21, l_24, l_27, l_28, l_30, l_31, l_32, l_35, l_36, l_39, l_40, l_41, l_43, l_44, l_45, l_46, l_47, l_48, l_49, l_56, l_57, l_59, l_60, l_79, l_97, l_122, l_160, l_237, l_255, l_320, l_999, l_1000, nI_add, pk_mul, nI_eq, nI_leI, nI_ltI, nI_clamp, inb_nI_iff, e_within, e_in32, e_asNumber, e_flag, decide_eq_true_eq, Sum.elim_inl, Sum.elim_inr, true_implies, not_true_eq_false, not_false_eq_true, false_implies, and_true, true_and, nI_nn, nn_nI, nn_nn, ↓reduceIte, if_true, if_false, Nat.le_refl, implies_true, Nat.lt_irrefl, and_self_left, win1, nI_le_s1, Nat.zero_le, up_s, up_o, Nat.zero_add, m64_0, m64_1, m64_2, m64_3, m64_7, m64_8, m64_9, m64_10, m64_13, m64_20, m64_27, m64_60, a1, Nat.reduceEqDiff, Nat.reduceLeDiff]
        all_goals (try (repeat' (with_reducible (first | apply And.intro | intro _))))
        all_goals first | omega | rfl | exact absurd ‹_› (by omega)
      · simp (disch := omega) only [wp_some, wp_obd, wp_ob2, wp_bnd, wp_gd, wp_ite, wp_true, wp_ff, ↓l_n1, ↓l_n2, ↓l_n3, ↓l_n4, ↓l_n10, ↓l_n20, l_0, l_1, l_2, l_3, l_4, l_5, l_6, l_7, l_8, l_9, l_10, l_13, l_14, l_15, l_16, l_20, l_21, l_24, l_27, l_28, l_30, l_31, l_32, l_35, l_36, l_39, l_40, l_41, l_43, l_44, l_45, l_46, l_47, l_48, l_49, l_56, l_57, l_59, l_60, l_79, l_97, l_122, l_160, l_237, l_255, l_320, l_999, l_1000, nI_add, pk_mul, nI_eq, nI_leI, nI_ltI, nI_clamp, inb_nI_iff, e_within, e_in32, e_asNumber, e_flag, decide_eq_true_eq, Sum.elim_inl, Sum.elim_inr, true_implies, not_true_eq_false, not_false_eq_true, false_implies, and_true, true_and, nI_nn, nn_nI, nn_nn, ↓reduceIte, if_true, if_false, Nat.le_refl, implies_true, Nat.lt_irrefl, and_self_left, win1, nI_le_s1, Nat.zero_le, up_s, up_o, Nat.zero_add, m64_0, m64_1, m64_2, m64_3, m64_7, m64_8, m64_9, m64_10, m64_13, m64_20, m64_27, m64_60, a1, Nat.reduceEqDiff, Nat.reduceLeDiff]
        all_goals (try (repeat' (with_reducible (first | apply And.intro | intro _))))
        all_goals first | omega | rfl | exact absurd ‹_› (by omega)
    · rintro a ⟨-, e⟩; omega
  | some v =>
    have hv := hl v rfl
    rw [on_sm] at a1
    have a4 := a3 (by simp)
    by_cases e : v = w
    · subst e
      have hf : ffp (some v) v N p.toInt j = if 0 ≤ p.toInt + (2 * j : Nat) ∧ p.toInt + (2 * j : Nat) + 1 < N then 0 else 2 := by
        show (if v = v then _ else _) = _
        rw [if_pos rfl]
      obtain ⟨g1, hg1, hg1', hb1⟩ : ∃ g1 : Nat, ((0 ≤ p.toInt + (2 * j : Nat) ∧ p.toInt + (2 * j : Nat) < N) → g1 = 0) ∧ (¬ (0 ≤ p.toInt + (2 * j : Nat) ∧ p.toInt + (2 * j : Nat) < N) → g1 = 2) ∧ g1 ≤ 2 := by
        by_cases q : 0 ≤ p.toInt + (2 * j : Nat) ∧ p.toInt + (2 * j : Nat) < N
        · exact ⟨0, fun _ => rfl, fun w => absurd q w, by omega⟩
        · exact ⟨2, fun w => absurd w q, fun _ => rfl, by omega⟩
      obtain ⟨g2, hg2, hg2', hb2⟩ : ∃ g2 : Nat, ((0 ≤ p.toInt + (2 * j : Nat) ∧ p.toInt + (2 * j : Nat) + 1 < N) → g2 = 0) ∧ (¬ (0 ≤ p.toInt + (2 * j : Nat) ∧ p.toInt + (2 * j : Nat) + 1 < N) → g2 = 2) ∧ g2 ≤ 2 := by
        by_cases q : 0 ≤ p.toInt + (2 * j : Nat) ∧ p.toInt + (2 * j : Nat) + 1 < N
        · exact ⟨0, fun _ => rfl, fun w => absurd q w, by omega⟩
        · exact ⟨2, fun w => absurd w q, fun _ => rfl, by omega⟩
      have hfg : ffp (some v) v N p.toInt j = g2 := by
        rw [hf]
        by_cases q : 0 ≤ p.toInt + (2 * j : Nat) ∧ p.toInt + (2 * j : Nat) + 1 < N
        · rw [if_pos q, hg2 q]
        · rw [if_neg q, hg2' q]
      rw [hfg]
      clear hfg hf a3 hl
      have lp0 := lpos (p := p) (m := 2 * j) (c := 0) (by omega) (by omega)
      have lp1 := lpos (p := p) (m := 2 * j) (c := 1) (by omega) (by omega)
      refine ok_up 2 (fun c x => x.2 = nI c ∧ (c = 0 → x.1 = nI 0) ∧ (c = 1 → x.1 = nI g1) ∧ (c = 2 → x.1 = nI g2)) (by omega) ?_ ?_ _ ⟨rfl, fun _ => rfl, fun e => by omega, fun e => by omega⟩
      · rintro c ⟨r, x⟩ hc ⟨hx, q0, q1, q2⟩
        dsimp only at hx q0 q1 q2
        subst hx
        have : c = 0 ∨ c = 1 := by omega
        rcases this with rfl | rfl
        · have hr := q0 rfl
          subst hr
          simp (disch := omega) only [wp_some, wp_obd, wp_ob2, wp_bnd, wp_gd, wp_ite, wp_true, wp_ff, ↓l_n1, ↓l_n2, ↓l_n3, ↓l_n4, ↓l_n10, ↓l_n20, l_0, l_1, l_2, l_3, l_4, l_5, l_6, l_7, l_8, l_9, l_10, l_13, l_14, l_15, l_16, l_20, l_21, l_24, l_27, l_28, l_30, l_31, l_32, l_35, l_36, l_39, l_40, l_41, l_43, l_44, l_45, l_46, l_47, l_48, l_49, l_56, l_57, l_59, l_60, l_79, l_97, l_122, l_160, l_237, l_255, l_320, l_999, l_1000, nI_add, pk_mul, nI_eq, nI_leI, nI_ltI, nI_clamp, inb_nI_iff, e_within, e_in32, e_asNumber, e_flag, decide_eq_true_eq, Sum.elim_inl, Sum.elim_inr, true_implies, not_true_eq_false, not_false_eq_true, false_implies, and_true, true_and, nI_nn, nn_nI, nn_nn, ↓reduceIte, if_true, if_false, Nat.le_refl, implies_true, Nat.lt_irrefl, and_self_left, win1, nI_le_s1, Nat.zero_le, up_s, up_o, Nat.zero_add, m64_0, m64_1, m64_2, m64_3, m64_7, m64_8, m64_9, m64_10, m64_13, m64_20, m64_27, m64_60, a1, a4, lgc0, llt, lp0, Nat.reduceEqDiff, Nat.reduceLeDiff]
          all_goals (try (repeat' (with_reducible (first | apply And.intro | intro _))))
          all_goals first | omega | rfl | exact absurd ‹_› (by omega)
        · have hr := q1 rfl
          subst hr
          by_cases h0 : g1 = 0
          · subst h0
            simp (disch := omega) only [wp_some, wp_obd, wp_ob2, wp_bnd, wp_gd, wp_ite, wp_true, wp_ff, ↓l_n1, ↓l_n2, ↓l_n3, ↓l_n4, ↓l_n10, ↓l_n20, l_0, l_1, l_2, l_3, l_4, l_5, l_6, l_7, l_8, l_9, l_10, l_13, l_14, l_15, l_16, l_20, l_21, l_24, l_27, l_28, l_30, l_31, l_32, l_35, l_36, l_39, l_40, l_41, l_43, l_44, l_45, l_46, l_47, l_48, l_49, l_56, l_57, l_59, l_60, l_79, l_97, l_122, l_160, l_237, l_255, l_320, l_999, l_1000, nI_add, pk_mul, nI_eq, nI_leI, nI_ltI, nI_clamp, inb_nI_iff, e_within, e_in32, e_asNumber, e_flag, decide_eq_true_eq, Sum.elim_inl, Sum.elim_inr, true_implies, not_true_eq_false, not_false_eq_true, false_implies, and_true, true_and, nI_nn, nn_nI, nn_nn, ↓reduceIte, if_true, if_false, Nat.le_refl, implies_true, Nat.lt_irrefl, and_self_left, win1, nI_le_s1, Nat.zero_le, up_s, up_o, Nat.zero_add, m64_0, m64_1, m64_2, m64_3, m64_7, m64_8, m64_9, m64_10, m64_13, m64_20, m64_27, m64_60, a1, a4, lgc0, llt, lp1, Nat.reduceEqDiff, Nat.reduceLeDiff]
            all_goals (try (repeat' (with_reducible (first | apply And.intro | intro _))))
            all_goals first | omega | rfl | exact absurd ‹_› (by omega)
          · have : g2 = g1 := by omega
            subst this
            simp (disch := omega) only [wp_some, wp_obd, wp_ob2, wp_bnd, wp_gd, wp_ite, wp_true, wp_ff, ↓l_n1, ↓l_n2, ↓l_n3, ↓l_n4, ↓l_n10, ↓l_n20, l_0, l_1, l_2, l_3, l_4, l_5, l_6, l_7, l_8, l_9, l_10, l_13, l_14, l_15, l_16, l_20, l_21, l_24, l_27, l_28, l_30, l_31, l_32, l_35, l_36, l_39, l_40, l_41, l_43, l_44, l_45, l_46, l_47, l_48, l_49, l_56, l_57, l_59, l_60, l_79, l_97, l_122, l_160, l_237, l_255, l_320, l_999, l_1000, nI_add, pk_mul, nI_eq, nI_leI, nI_ltI, nI_clamp, inb_nI_iff, e_within, e_in32, e_asNumber, e_flag, decide_eq_true_eq, Sum.elim_inl, Sum.elim_inr, true_implies, not_true_eq_false, not_false_eq_true, false_implies, and_true, true_and, nI_nn, nn_nI, nn_nn, ↓reduceIte, if_true, if_false, Nat.le_refl, implies_true, Nat.lt_irrefl, and_self_left, win1, nI_le_s1, Nat.zero_le, up_s, up_o, Nat.zero_add, m64_0, m64_1, m64_2, m64_3, m64_7, m64_8, m64_9, m64_10, m64_13, m64_20, m64_27, m64_60, h0, Nat.reduceLeDiff]
            all_goals (try (repeat' (with_reducible (first | apply And.intro | intro _))))
            all_goals first | omega | rfl | exact absurd ‹_› (by omega)
      · rintro ⟨r, x⟩ ⟨hx, q0, q1, q2⟩
        dsimp only at hx q0 q1 q2
        have hr := q2 rfl
        subst hx hr
        simp (disch := omega) only [wp_some, wp_obd, wp_ob2, wp_bnd, wp_gd, wp_ite, wp_true, wp_ff, ↓l_n1, ↓l_n2, ↓l_n3, ↓l_n4, ↓l_n10, ↓l_n20, l_0, l_1, l_2, l_3, l_4, l_5, l_6, l_7, l_8, l_9, l_10, l_13, l_14, l_15, l_16, l_20, l_21, l_24, l_27, l_28, l_30, l_31, l_32, l_35, l_36, l_39, l_40, l_41, l_43, l_44, l_45, l_46, l_47, l_48, l_49, l_56, l_57, l_59, l_60, l_79, l_97, l_122, l_160, l_237, l_255, l_320, l_999, l_1000, nI_add, pk_mul, nI_eq, nI_leI, nI_ltI, nI_clamp, inb_nI_iff, e_within, e_in32, e_asNumber, e_flag, decide_eq_true_eq, Sum.elim_inl, Sum.elim_inr, true_implies, not_true_eq_false, not_false_eq_true, false_implies, and_true, true_and, nI_nn, nn_nI, nn_nn, ↓reduceIte, if_true, if_false, Nat.le_refl, implies_true, Nat.lt_irrefl, and_self_left, win1, nI_le_s1, Nat.zero_le, up_s, up_o, Nat.zero_add, m64_0, m64_1, m64_2, m64_3, m64_7, m64_8, m64_9, m64_10, m64_13, m64_20, m64_27, m64_60]
    · have hf : ffp (some v) w N p.toInt j = 3 := by
        show (if v = w then _ else _) = _
        rw [if_neg e]
      rw [hf]
      refine ok_up 2 (fun c x => x = (nI (3 * c), nI c) ∧ c < 2) (by omega) ?_ ?_ _ ⟨rfl, by omega⟩
      · rintro c ⟨r, x⟩ hc ⟨q, -⟩
        cases q
        have : c = 0 ∨ c = 1 := by omega
        rcases this with rfl | rfl
        · simp (disch := omega) only [wp_some, wp_obd, wp_ob2, wp_bnd, wp_gd, wp_ite, wp_true, wp_ff, ↓l_n1, ↓l_n2, ↓l_n3, ↓l_n4, ↓l_n10, ↓l_n20, l_0, l_1, l_2, l_3, l_4, l_5, l_6, l_7, l_8, l_9, l_10, l_13, l_14, l_15, l_16, l_20, l_21, l_24, l_27, l_28, l_30, l_31, l_32, l_35, l_36, l_39, l_40, l_41, l_43, l_44, l_45, l_46, l_47, l_48, l_49, l_56, l_57, l_59, l_60, l_79, l_97, l_122, l_160, l_237, l_255, l_320, l_999, l_1000, nI_add, pk_mul, nI_eq, nI_leI, nI_ltI, nI_clamp, inb_nI_iff, e_within, e_in32, e_asNumber, e_flag, decide_eq_true_eq, Sum.elim_inl, Sum.elim_inr, true_implies, not_true_eq_false, not_false_eq_true, false_implies, and_true, true_and, nI_nn, nn_nI, nn_nn, ↓reduceIte, if_true, if_false, Nat.le_refl, implies_true, Nat.lt_irrefl, and_self_left, win1, nI_le_s1, Nat.zero_le, up_s, up_o, Nat.zero_add, m64_0, m64_1, m64_2, m64_3, m64_7, m64_8, m64_9, m64_10, m64_13, m64_20, m64_27, m64_60, a1, e, Nat.reduceEqDiff, Nat.reduceLeDiff, Nat.mul_zero]
          all_goals (try (repeat' (with_reducible (first | apply And.intro | intro _))))
          all_goals first | omega | rfl | exact absurd ‹_› (by omega)
        · simp (disch := omega) only [wp_some, wp_obd, wp_ob2, wp_bnd, wp_gd, wp_ite, wp_true, wp_ff, ↓l_n1, ↓l_n2, ↓l_n3, ↓l_n4, ↓l_n10, ↓l_n20, l_0, l_1, l_2, l_3, l_4, l_5, l_6, l_7, l_8, l_9, l_10, l_13, l_14, l_15, l_16, l_20, l_21, l_24, l_27, l_28, l_30, l_31, l_32, l_35, l_36, l_39, l_40, l_41, l_43, l_44, l_45, l_46, l_47, l_48, l_49, l_56, l_57, l_59, l_60, l_79, l_97, l_122, l_160, l_237, l_255, l_320, l_999, l_1000, nI_add, pk_mul, nI_eq, nI_leI, nI_ltI, nI_clamp, inb_nI_iff, e_within, e_in32, e_asNumber, e_flag, decide_eq_true_eq, Sum.elim_inl, Sum.elim_inr, true_implies, not_true_eq_false, not_false_eq_true, false_implies, and_true, true_and, nI_nn, nn_nI, nn_nn, ↓reduceIte, if_true, if_false, Nat.le_refl, implies_true, Nat.lt_irrefl, and_self_left, win1, nI_le_s1, Nat.zero_le, up_s, up_o, Nat.zero_add, m64_0, m64_1, m64_2, m64_3, m64_7, m64_8, m64_9, m64_10, m64_13, m64_20, m64_27, m64_60, a1, Nat.reduceEqDiff, Nat.reduceLeDiff, Nat.mul_one]
          all_goals (try (repeat' (with_reducible (first | apply And.intro | intro _))))
          all_goals first | omega | rfl | exact absurd ‹_› (by omega)
      · rintro a ⟨-, e⟩; omega
theorem m_read (hN : RN g B T) (hW : WN B T) {k w N n : Nat} {l : Option Nat} {p : Int32} {F : Nat → Nat} {zz xx : Nat → Int32} (hk : k ≤ 3) (hw : w ≤ 2) (hn : n ≤ 13) (hl : ∀ v, l = some v → v ≤ 2) (a1 : g 40 0 0 k = on (nn 4) l) (hN40 : N ≤ 40) (a3 : l ≠ none → g 41 0 0 k = nI N) (hF : ∀ j, ffp l w N p.toInt j = F j) (hz : ∀ j, F j = 0 → j ≤ 13 → g 42 0 0 (40 * k + (p.toInt + (2 * j : Nat)).toNat) = zz j) (hx : ∀ j, F j = 0 → j ≤ 13 → g 42 0 0 (40 * k + (p.toInt + (2 * j : Nat)).toNat + 1) = xx j) : Ok (f_X10_read (nI k) (nI w) p (nI n) g) (fun q => (∃ c, c < n ∧ (∀ i, i < c → okk F zz xx B i) ∧ F c = 0 ∧ ¬ okk F zz xx B c ∧ q.1 = nn 20 - nI c ∧ RN q.2 B T ∧ FrS g q.2) ∨ ∃ c f, c ≤ n ∧ (∀ i, i < c → okk F zz xx B i) ∧ (c = n ∧ f = 0 ∨ c < n ∧ F c = f ∧ f ≠ 0) ∧ q.1 = nI c ∧ RN q.2 (bq zz xx B c) T ∧ ∃ h', FrS g h' ∧ q.2 = up h' 24 33 0 0 (nI f)) := by
  have s1 := hN.1.1.2.1
  have w0 := hW.1.1
  have w1 := hW.1.2.1
  have hF3 : ∀ j, F j ≤ 3 := fun j => by rw [← hF]; exact ffp_le
  unfold f_X10_read
  have en : f_X10_in ((nI n).toInt64) (0 : Int64) (13 : Int64) g = some (decide (nI 0 ≤ nI n ∧ nI n ≤ nI 13)) := by rw [m64_0, m64_13, e_in32]
  have hn0 : nI 0 ≤ nI n ∧ nI n ≤ nI 13 := by rw [nI_leI (by omega) (by omega), nI_leI (by omega) (by omega)]; omega
  have hk0 : (nI 0 ≤ nI k ∧ nI k ≤ nI 3) ∧ (nI 0 ≤ nI w ∧ nI w ≤ nI 2) := by rw [nI_leI (by omega) (by omega), nI_leI (by omega) (by omega), nI_leI (by omega) (by omega), nI_leI (by omega) (by omega)]; omega
  refine ok_obd (ok_eq (eS10 _ _ _) (ok_ite (fun _ => ok_obd (ok_eq en (ok_ite (fun _ => ok_bnd (ok_obd ?_)) (fun e => absurd (decide_eq_true hn0) e)))) (fun e => absurd (decide_eq_true hk0) e)))
  refine (ok_up (K := Sum.elim (fun q => ∃ c, c < n ∧ (∀ i, i < c → okk F zz xx B i) ∧ F c = 0 ∧ ¬ okk F zz xx B c ∧ q.1 = nn 20 - nI c ∧ RN q.2 B T ∧ FrS g q.2) (fun e => ∃ c f, c ≤ n ∧ (∀ i, i < c → okk F zz xx B i) ∧ (c = n ∧ f = 0 ∨ c < n ∧ F c = f ∧ f ≠ 0) ∧ e.1 = nI f ∧ e.2.1 = nI c ∧ RN e.2.2 (bq zz xx B c) T ∧ FrS g e.2.2)) n (fun j z => RN z.2.2.2 (bq zz xx B (z.2.1).toNatClampNeg) T ∧ FrS g z.2.2.2 ∧ z.2.2.1 = nI j ∧ ((z.1 = nI 0 ∧ z.2.1 = nI j ∧ ∀ i, i < j → okk F zz xx B i) ∨ (∃ c, j = c + 1 ∧ F c ≠ 0 ∧ (∀ i, i < c → okk F zz xx B i) ∧ z.1 = nI (F c) ∧ z.2.1 = nI c))) (by omega) ?_ ?_ _ ⟨hN, FrS.rf, rfl, Or.inl ⟨rfl, rfl, fun i hi => by omega⟩⟩).mono ?_
  · rintro j ⟨v1, v2, v3, z⟩ hj ⟨k1, k2, k0, k3⟩
    dsimp only at k1 k2 k0 k3
    subst k0
    rcases k3 with ⟨rfl, rfl, k4⟩ | ⟨c, rfl, k4, k5, rfl, rfl⟩
    · rw [nI_clamp (by omega)] at k1
      have hf3 := hF3 j
      refine ok_ite (fun e => by rw [nI_leI (by omega) (by omega)] at e; omega) (fun _ => ok_ite (fun _ => ok_obd ((m_inner (l := l) (N := N) (p := p) (z := z) hk hw (by omega) hl ((k2 _ _ _ _ (by omega)).trans a1) hN40 (fun e => (k2 _ _ _ _ (by omega)).trans (a3 e))).mono ?_)) (fun e => absurd rfl e))
      intro e he
      rw [hF] at he
      subst he
      by_cases f0 : F j = 0
      · have hf := hF j
        rw [f0] at hf
        obtain ⟨y1, y2, y3, y4, y5⟩ := ffp_0 (by omega) hN40 hf
        have ez : z 42 0 0 (40 * k + (p.toInt + (2 * j : Nat)).toNat) = zz j := (k2 _ _ _ _ (by omega)).trans (hz j f0 (by omega))
        have ex : z 42 0 0 (40 * k + (p.toInt + (2 * j : Nat)).toNat + 1) = xx j := (k2 _ _ _ _ (by omega)).trans (hx j f0 (by omega))
        generalize (p.toInt + (2 * j : Nat)).toNat = v at y4 y5 ez ex
        have ew : nI (40 * k) + p + nI (2 * j) = nI (40 * k + v) := by rw [Int32.add_assoc, y4, nI_add]
        rw [f0]
        simp (disch := omega) only [wp_some, wp_obd, wp_ob2, wp_bnd, wp_gd, wp_ite, wp_true, wp_ff, ↓l_n1, ↓l_n2, ↓l_n3, ↓l_n4, ↓l_n10, ↓l_n20, l_0, l_1, l_2, l_3, l_4, l_5, l_6, l_7, l_8, l_9, l_10, l_13, l_14, l_15, l_16, l_20, l_21, l_24, l_27, l_28, l_30, l_31, l_32, l_35, l_36, l_39, l_40, l_41, l_43, l_44, l_45, l_46, l_47, l_48, l_49, l_56, l_57, l_59, l_60, l_79, l_97, l_122, l_160, l_237, l_255, l_320, l_999, l_1000, nI_add, pk_mul, nI_eq, nI_leI, nI_ltI, nI_clamp, inb_nI_iff, e_within, e_in32, e_asNumber, e_flag, decide_eq_true_eq, Sum.elim_inl, Sum.elim_inr, true_implies, not_true_eq_false, not_false_eq_true, false_implies, and_true, true_and, nI_nn, nn_nI, nn_nn, ↓reduceIte, if_true, if_false, Nat.le_refl, implies_true, Nat.lt_irrefl, and_self_left, win1, nI_le_s1, Nat.zero_le, up_s, up_o, Nat.zero_add, m64_0, m64_1, m64_2, m64_3, m64_7, m64_8, m64_9, m64_10, m64_13, m64_20, m64_27, m64_60, ew, ez, ex, s1]
        refine ⟨by omega, by omega, ?_⟩
        refine (m_mint k1 (bq_W hW k4) (zz j) (xx j)).mono ?_
        rintro ⟨r, h1⟩ hq
        rw [bq_f (by decide), bq_1] at hq
        rcases hq with ⟨m1, m2⟩ | ⟨m1, m2, m3⟩ | ⟨z', x', m1, m2, m3, m4, m5, m6, m7, m8⟩
        · cases m2
          simp (disch := omega) only [wp_some, wp_obd, wp_ob2, wp_bnd, wp_gd, wp_ite, wp_true, wp_ff, ↓l_n1, ↓l_n2, ↓l_n3, ↓l_n4, ↓l_n10, ↓l_n20, l_0, l_1, l_2, l_3, l_4, l_5, l_6, l_7, l_8, l_9, l_10, l_13, l_14, l_15, l_16, l_20, l_21, l_24, l_27, l_28, l_30, l_31, l_32, l_35, l_36, l_39, l_40, l_41, l_43, l_44, l_45, l_46, l_47, l_48, l_49, l_56, l_57, l_59, l_60, l_79, l_97, l_122, l_160, l_237, l_255, l_320, l_999, l_1000, nI_add, pk_mul, nI_eq, nI_leI, nI_ltI, nI_clamp, inb_nI_iff, e_within, e_in32, e_asNumber, e_flag, decide_eq_true_eq, Sum.elim_inl, Sum.elim_inr, true_implies, not_true_eq_false, not_false_eq_true, false_implies, and_true, true_and, nI_nn, nn_nI, nn_nn, ↓reduceIte, if_true, if_false, Nat.le_refl, implies_true, Nat.lt_irrefl, and_self_left, win1, nI_le_s1, Nat.zero_le, up_s, up_o, Nat.zero_add, m64_0, m64_1, m64_2, m64_3, m64_7, m64_8, m64_9, m64_10, m64_13, m64_20, m64_27, m64_60, nn_lt0]
          refine ⟨j, hj, k4, f0, fun w => m1 ⟨w.2.1, w.2.2.1⟩, rfl, RN_back k1 hW, k2.tr (FrS.up (by decide))⟩
        · cases m3
          simp (disch := omega) only [wp_some, wp_obd, wp_ob2, wp_bnd, wp_gd, wp_ite, wp_true, wp_ff, ↓l_n1, ↓l_n2, ↓l_n3, ↓l_n4, ↓l_n10, ↓l_n20, l_0, l_1, l_2, l_3, l_4, l_5, l_6, l_7, l_8, l_9, l_10, l_13, l_14, l_15, l_16, l_20, l_21, l_24, l_27, l_28, l_30, l_31, l_32, l_35, l_36, l_39, l_40, l_41, l_43, l_44, l_45, l_46, l_47, l_48, l_49, l_56, l_57, l_59, l_60, l_79, l_97, l_122, l_160, l_237, l_255, l_320, l_999, l_1000, nI_add, pk_mul, nI_eq, nI_leI, nI_ltI, nI_clamp, inb_nI_iff, e_within, e_in32, e_asNumber, e_flag, decide_eq_true_eq, Sum.elim_inl, Sum.elim_inr, true_implies, not_true_eq_false, not_false_eq_true, false_implies, and_true, true_and, nI_nn, nn_nI, nn_nn, ↓reduceIte, if_true, if_false, Nat.le_refl, implies_true, Nat.lt_irrefl, and_self_left, win1, nI_le_s1, Nat.zero_le, up_s, up_o, Nat.zero_add, m64_0, m64_1, m64_2, m64_3, m64_7, m64_8, m64_9, m64_10, m64_13, m64_20, m64_27, m64_60, nn_lt0]
          refine ⟨j, hj, k4, f0, fun w => by have := w.2.2.2; omega, rfl, RN_back k1 hW, k2.tr (FrS.up (by decide))⟩
        · dsimp only at m6 m7 m8
          subst m6
          simp (disch := omega) only [wp_some, wp_obd, wp_ob2, wp_bnd, wp_gd, wp_ite, wp_true, wp_ff, ↓l_n1, ↓l_n2, ↓l_n3, ↓l_n4, ↓l_n10, ↓l_n20, l_0, l_1, l_2, l_3, l_4, l_5, l_6, l_7, l_8, l_9, l_10, l_13, l_14, l_15, l_16, l_20, l_21, l_24, l_27, l_28, l_30, l_31, l_32, l_35, l_36, l_39, l_40, l_41, l_43, l_44, l_45, l_46, l_47, l_48, l_49, l_56, l_57, l_59, l_60, l_79, l_97, l_122, l_160, l_237, l_255, l_320, l_999, l_1000, nI_add, pk_mul, nI_eq, nI_leI, nI_ltI, nI_clamp, inb_nI_iff, e_within, e_in32, e_asNumber, e_flag, decide_eq_true_eq, Sum.elim_inl, Sum.elim_inr, true_implies, not_true_eq_false, not_false_eq_true, false_implies, and_true, true_and, nI_nn, nn_nI, nn_nn, ↓reduceIte, if_true, if_false, Nat.le_refl, implies_true, Nat.lt_irrefl, and_self_left, win1, nI_le_s1, Nat.zero_le, up_s, up_o, Nat.zero_add, m64_0, m64_1, m64_2, m64_3, m64_7, m64_8, m64_9, m64_10, m64_13, m64_20, m64_27, m64_60]
          refine ⟨?_, k2.tr m8, Or.inl (fun i hi => ?_)⟩
          · show RN h1 (mnt _ (zz j).toNatClampNeg (xx j).toNatClampNeg) T
            rw [m1, m2, nI_clamp (by omega), nI_clamp (by omega)]
            exact m7
          · by_cases e : i = j
            · subst e
              refine ⟨f0, ?_, ?_, by omega⟩
              · rw [m1, nI_leI (by omega) (by omega), nI_leI (by omega) (by omega)]; omega
              · rw [m2, inb_nI_iff (by omega)]; exact m4
            · exact k4 i (by omega)
      · simp (disch := omega) only [wp_some, wp_obd, wp_ob2, wp_bnd, wp_gd, wp_ite, wp_true, wp_ff, ↓l_n1, ↓l_n2, ↓l_n3, ↓l_n4, ↓l_n10, ↓l_n20, l_0, l_1, l_2, l_3, l_4, l_5, l_6, l_7, l_8, l_9, l_10, l_13, l_14, l_15, l_16, l_20, l_21, l_24, l_27, l_28, l_30, l_31, l_32, l_35, l_36, l_39, l_40, l_41, l_43, l_44, l_45, l_46, l_47, l_48, l_49, l_56, l_57, l_59, l_60, l_79, l_97, l_122, l_160, l_237, l_255, l_320, l_999, l_1000, nI_add, pk_mul, nI_eq, nI_leI, nI_ltI, nI_clamp, inb_nI_iff, e_within, e_in32, e_asNumber, e_flag, decide_eq_true_eq, Sum.elim_inl, Sum.elim_inr, true_implies, not_true_eq_false, not_false_eq_true, false_implies, and_true, true_and, nI_nn, nn_nI, nn_nn, ↓reduceIte, if_true, if_false, Nat.le_refl, implies_true, Nat.lt_irrefl, and_self_left, win1, nI_le_s1, Nat.zero_le, up_s, up_o, Nat.zero_add, m64_0, m64_1, m64_2, m64_3, m64_7, m64_8, m64_9, m64_10, m64_13, m64_20, m64_27, m64_60, f0]
        exact ⟨k1, k2, Or.inr ⟨j, rfl, f0, k4, rfl, rfl⟩⟩
    · have := hF3 c
      rw [nI_clamp (by omega)] at k1
      simp (disch := omega) only [wp_some, wp_obd, wp_ob2, wp_bnd, wp_gd, wp_ite, wp_true, wp_ff, ↓l_n1, ↓l_n2, ↓l_n3, ↓l_n4, ↓l_n10, ↓l_n20, l_0, l_1, l_2, l_3, l_4, l_5, l_6, l_7, l_8, l_9, l_10, l_13, l_14, l_15, l_16, l_20, l_21, l_24, l_27, l_28, l_30, l_31, l_32, l_35, l_36, l_39, l_40, l_41, l_43, l_44, l_45, l_46, l_47, l_48, l_49, l_56, l_57, l_59, l_60, l_79, l_97, l_122, l_160, l_237, l_255, l_320, l_999, l_1000, nI_add, pk_mul, nI_eq, nI_leI, nI_ltI, nI_clamp, inb_nI_iff, e_within, e_in32, e_asNumber, e_flag, decide_eq_true_eq, Sum.elim_inl, Sum.elim_inr, true_implies, not_true_eq_false, not_false_eq_true, false_implies, and_true, true_and, nI_nn, nn_nI, nn_nn, ↓reduceIte, if_true, if_false, Nat.le_refl, implies_true, Nat.lt_irrefl, and_self_left, win1, nI_le_s1, Nat.zero_le, up_s, up_o, Nat.zero_add, m64_0, m64_1, m64_2, m64_3, m64_7, m64_8, m64_9, m64_10, m64_13, m64_20, m64_27, m64_60, k4]
      have fin : ∃ c' f, c' ≤ n ∧ (∀ i, i < c' → okk F zz xx B i) ∧ (c' = n ∧ f = 0 ∨ c' < n ∧ F c' = f ∧ f ≠ 0) ∧ nI (F c) = nI f ∧ nI c = nI c' ∧ RN z (bq zz xx B c') T ∧ FrS g z := ⟨c, F c, by omega, k5, Or.inr ⟨by omega, rfl, k4⟩, rfl, rfl, k1, k2⟩
      exact ⟨fun _ => fin, fun _ => fin⟩
  · rintro ⟨v1, v2, v3, z⟩ ⟨k1, k2, k0, k3⟩
    dsimp only at k1 k2 k0 k3
    subst k0
    rcases k3 with ⟨rfl, rfl, k4⟩ | ⟨c, e, k4, k5, rfl, rfl⟩
    · rw [nI_clamp (by omega)] at k1
      simp (disch := omega) only [wp_some, wp_obd, wp_ob2, wp_bnd, wp_gd, wp_ite, wp_true, wp_ff, ↓l_n1, ↓l_n2, ↓l_n3, ↓l_n4, ↓l_n10, ↓l_n20, l_0, l_1, l_2, l_3, l_4, l_5, l_6, l_7, l_8, l_9, l_10, l_13, l_14, l_15, l_16, l_20, l_21, l_24, l_27, l_28, l_30, l_31, l_32, l_35, l_36, l_39, l_40, l_41, l_43, l_44, l_45, l_46, l_47, l_48, l_49, l_56, l_57, l_59, l_60, l_79, l_97, l_122, l_160, l_237, l_255, l_320, l_999, l_1000, nI_add, pk_mul, nI_eq, nI_leI, nI_ltI, nI_clamp, inb_nI_iff, e_within, e_in32, e_asNumber, e_flag, decide_eq_true_eq, Sum.elim_inl, Sum.elim_inr, true_implies, not_true_eq_false, not_false_eq_true, false_implies, and_true, true_and, nI_nn, nn_nI, nn_nn, ↓reduceIte, if_true, if_false, Nat.le_refl, implies_true, Nat.lt_irrefl, and_self_left, win1, nI_le_s1, Nat.zero_le, up_s, up_o, Nat.zero_add, m64_0, m64_1, m64_2, m64_3, m64_7, m64_8, m64_9, m64_10, m64_13, m64_20, m64_27, m64_60]
      exact ⟨n, 0, by omega, k4, Or.inl ⟨rfl, rfl⟩, rfl, rfl, k1, k2⟩
    · have := hF3 c
      rw [nI_clamp (by omega)] at k1
      simp (disch := omega) only [wp_some, wp_obd, wp_ob2, wp_bnd, wp_gd, wp_ite, wp_true, wp_ff, ↓l_n1, ↓l_n2, ↓l_n3, ↓l_n4, ↓l_n10, ↓l_n20, l_0, l_1, l_2, l_3, l_4, l_5, l_6, l_7, l_8, l_9, l_10, l_13, l_14, l_15, l_16, l_20, l_21, l_24, l_27, l_28, l_30, l_31, l_32, l_35, l_36, l_39, l_40, l_41, l_43, l_44, l_45, l_46, l_47, l_48, l_49, l_56, l_57, l_59, l_60, l_79, l_97, l_122, l_160, l_237, l_255, l_320, l_999, l_1000, nI_add, pk_mul, nI_eq, nI_leI, nI_ltI, nI_clamp, inb_nI_iff, e_within, e_in32, e_asNumber, e_flag, decide_eq_true_eq, Sum.elim_inl, Sum.elim_inr, true_implies, not_true_eq_false, not_false_eq_true, false_implies, and_true, true_and, nI_nn, nn_nI, nn_nn, ↓reduceIte, if_true, if_false, Nat.le_refl, implies_true, Nat.lt_irrefl, and_self_left, win1, nI_le_s1, Nat.zero_le, up_s, up_o, Nat.zero_add, m64_0, m64_1, m64_2, m64_3, m64_7, m64_8, m64_9, m64_10, m64_13, m64_20, m64_27, m64_60, k4]
      exact ⟨c, F c, by omega, k5, Or.inr ⟨by omega, rfl, k4⟩, rfl, rfl, k1, k2⟩
  · rintro z hz
    cases z with
    | inl q => exact wp_some.mpr (Or.inl hz)
    | inr e =>
      obtain ⟨c, f, h1, h2, h3, h4, h5, h6, h7⟩ := hz
      simp (disch := omega) only [wp_some, wp_obd, wp_ob2, wp_bnd, wp_gd, wp_ite, wp_true, wp_ff, ↓l_n1, ↓l_n2, ↓l_n3, ↓l_n4, ↓l_n10, ↓l_n20, l_0, l_1, l_2, l_3, l_4, l_5, l_6, l_7, l_8, l_9, l_10, l_13, l_14, l_15, l_16, l_20, l_21, l_24, l_27, l_28, l_30, l_31, l_32, l_35, l_36, l_39, l_40, l_41, l_43, l_44, l_45, l_46, l_47, l_48, l_49, l_56, l_57, l_59, l_60, l_79, l_97, l_122, l_160, l_237, l_255, l_320, l_999, l_1000, nI_add, pk_mul, nI_eq, nI_leI, nI_ltI, nI_clamp, inb_nI_iff, e_within, e_in32, e_asNumber, e_flag, decide_eq_true_eq, Sum.elim_inl, Sum.elim_inr, true_implies, not_true_eq_false, not_false_eq_true, false_implies, and_true, true_and, nI_nn, nn_nI, nn_nn, ↓reduceIte, if_true, if_false, Nat.le_refl, implies_true, Nat.lt_irrefl, and_self_left, win1, nI_le_s1, Nat.zero_le, up_s, up_o, Nat.zero_add, m64_0, m64_1, m64_2, m64_3, m64_7, m64_8, m64_9, m64_10, m64_13, m64_20, m64_27, m64_60, h4, h5]
      refine Or.inr ⟨c, f, h1, h2, h3, rfl, ?_, e.2.2, h7, rfl⟩
      exact RN_lo2 h6 (bq_W hW h2) (fun k j o i hh => up_o (by omega))
theorem o_read (k l p n : Int32) (hR : RI h) : Ok (f_X9_read k l p n h) (fun q => Ok (f_X10_read k l p n q.2) (fun r => q.1 = r.1 ∧ RI r.2)) := by
  have hR0 := hR
  obtain ⟨B, T, hK, hN, hW, hRs⟩ := hR
  obtain ⟨hM0, hM1, hM2, hM3, hM4, hM5, hM6, hM7, hM8, hM9, hM10⟩ := hK.1
  obtain ⟨⟨⟨s0, s1, s2, s3, s4, s5, s6⟩, n0, n2⟩, hT⟩ := id hN
  have w0 := hW.1.1
  have w1 := hW.1.2.1
  have w2 := hW.1.2.2.1
  obtain ⟨i1, i2, i3, i4⟩ := id hRs
  by_cases hk : nI 0 ≤ k ∧ k ≤ nI 3
  · obtain ⟨k', -, hk', rfl⟩ := rng (by decide) (by decide) hk
    by_cases hl : nI 0 ≤ l ∧ l ≤ nI 2
    · obtain ⟨l', -, hl', rfl⟩ := rng (by decide) (by decide) hl
      by_cases hn : nI 0 ≤ n ∧ n ≤ nI 13
      · obtain ⟨n', -, hn', rfl⟩ := rng (by decide) (by decide) hn
        obtain ⟨la, a1, a2, a3, a4⟩ := i2 k' (by omega)
        obtain ⟨N, hN40, b1, b2⟩ : ∃ N, N ≤ 40 ∧ (la ≠ none → h 22 2 k' 0 = nI N) ∧ (la ≠ none → h 41 0 0 k' = nI N) := by
          cases la with
          | none => exact ⟨0, by omega, fun e => absurd rfl e, fun e => absurd rfl e⟩
          | some v =>
            obtain ⟨-, N, q1, q2, q3⟩ := a3 v rfl
            exact ⟨N, q1, fun _ => q2, fun _ => q3⟩
        have hla : ∀ v, la = some v → v ≤ 2 := fun v e => (a3 v e).1
        obtain ⟨F, hF⟩ : ∃ F : Nat → Nat, ∀ j, ffp la l' N p.toInt j = F j := ⟨_, fun j => rfl⟩
        obtain ⟨zz, hzz⟩ : ∃ zz : Nat → Int32, ∀ j, zof h k' p j = zz j := ⟨_, fun j => rfl⟩
        obtain ⟨xx, hxx⟩ : ∃ xx : Nat → Int32, ∀ j, xof h k' p j = xx j := ⟨_, fun j => rfl⟩
        have uniq : ∀ c c' : Nat, c ≤ n' → c' ≤ n' → (∀ i, i < c → okk F zz xx B i) → (∀ i, i < c' → okk F zz xx B i) → (c = n' ∨ ¬ okk F zz xx B c) → (c' = n' ∨ ¬ okk F zz xx B c') → c = c' := by
          intro c c' h1 h2 h3 h4 h5 h6
          rcases Nat.lt_trichotomy c c' with q | q | q
          · rcases h5 with e | e
            · omega
            · exact absurd (h4 c q) e
          · exact q
          · rcases h6 with e | e
            · omega
            · exact absurd (h3 c' q) e
        refine (c_read hK hW hk' hl' hn' hla a1 hN40 b1 hF hzz hxx).mono ?_
        rintro ⟨r, h1⟩ hq
        have cell : ∀ h1 : Mem, (∀ i, h1 42 0 0 i = h 42 0 0 i) → (∀ j, F j = 0 → j ≤ 13 → h1 42 0 0 (40 * k' + (p.toInt + (2 * j : Nat)).toNat) = zz j) ∧ (∀ j, F j = 0 → j ≤ 13 → h1 42 0 0 (40 * k' + (p.toInt + (2 * j : Nat)).toNat + 1) = xx j) := by
          intro h1 e
          refine ⟨fun j f0 hj => ?_, fun j f0 hj => ?_⟩
          · obtain ⟨y1, y2, y3, y4, y5⟩ := ffp_0 hj hN40 ((hF j).trans f0)
            rw [e, ← a4 _ (by omega)]; exact hzz j
          · obtain ⟨y1, y2, y3, y4, y5⟩ := ffp_0 hj hN40 ((hF j).trans f0)
            rw [e, Nat.add_assoc, ← a4 _ (by omega)]; exact hxx j
        rcases hq with ⟨c, q1, q2, q3, q4, q5, q6, q7⟩ | ⟨c, f, q1, q2, q3, q5, q6, h', q7, q8⟩
        · dsimp only at q5 q6 q7
          obtain ⟨cz, cx⟩ := cell h1 (fun i => q7 _ _ _ _ (by omega))
          refine (m_read (RN_lo hN hW (fun k j o i hh => q7 _ _ _ _ (by omega))) hW hk' hl' hn' hla ((q7 _ _ _ _ (by omega)).trans a2) hN40 (fun e => (q7 _ _ _ _ (by omega)).trans (b2 e)) hF cz cx).mono ?_
          rintro ⟨r2, h2⟩ hq
          rcases hq with ⟨c', p1, p2, p3, p4, p5, p6, p7⟩ | ⟨c', f', p1, p2, p3, p5, p6, h'', p7, p8⟩
          · dsimp only at p5 p6 p7
            have ec := uniq c c' (by omega) (by omega) q2 p2 (Or.inr q4) (Or.inr p4)
            subst ec
            exact ⟨q5.trans p5.symm, B, T, KN_hi q6 (fun k j o i hh => p7 _ _ _ _ (by omega)), p6, hW, RST_fr hRs ((q7.fr (Or.inl rfl)).tr p7.fr)⟩
          · have ec := uniq c c' (by omega) p1 q2 p2 (Or.inr q4) (by
              rcases p3 with p3 | p3
              · exact Or.inl p3.1
              · exact Or.inr (fun w => p3.2.2 (p3.2.1 ▸ w.1)))
            subst ec
            rcases p3 with p3 | p3
            · omega
            · have := p3.2.1; have := p3.2.2; omega
        · dsimp only at q5 q6 q8
          have q8' : ∀ k j o i, h1 k j o i = up h' 0 8 0 0 (nI f) k j o i := fun _ _ _ _ => by rw [q8]
          obtain ⟨cz, cx⟩ := cell h1 (fun i => by rw [q8' , up_o (by omega), q7 _ _ _ _ (by omega)])
          have fr1 : ∀ k j o i, 24 ≤ k → h1 k j o i = h k j o i := fun k j o i hh => by rw [q8' , up_o (by omega), q7 _ _ _ _ (by omega)]
          refine (m_read (RN_lo hN hW (fun k j o i hh => fr1 _ _ _ _ (by omega))) hW hk' hl' hn' hla ((fr1 _ _ _ _ (by omega)).trans a2) hN40 (fun e => (fr1 _ _ _ _ (by omega)).trans (b2 e)) hF cz cx).mono ?_
          rintro ⟨r2, h2⟩ hq
          have hq3 : c = n' ∨ ¬ okk F zz xx B c := by
            rcases q3 with q3 | q3
            · exact Or.inl q3.1
            · exact Or.inr (fun w => q3.2.2 (q3.2.1 ▸ w.1))
          rcases hq with ⟨c', p1, p2, p3, p4, p5, p6, p7⟩ | ⟨c', f', p1, p2, p3, p5, p6, h'', p7, p8⟩
          · have ec := uniq c c' q1 (by omega) q2 p2 hq3 (Or.inr p4)
            subst ec
            rcases q3 with q3 | q3
            · omega
            · have := q3.2.1; have := q3.2.2; omega
          · dsimp only at p5 p6 p8
            have ec := uniq c c' q1 p1 q2 p2 hq3 (by
              rcases p3 with p3 | p3
              · exact Or.inl p3.1
              · exact Or.inr (fun w => p3.2.2 (p3.2.1 ▸ w.1)))
            subst ec
            have ef : f = f' := by
              rcases q3 with q3 | q3
              · rcases p3 with p3 | p3
                · omega
                · omega
              · rcases p3 with p3 | p3
                · omega
                · have := q3.2.1; have := p3.2.1; omega
            subst ef
            have p8' : ∀ k j o i, h2 k j o i = up h'' 24 33 0 0 (nI f) k j o i := fun _ _ _ _ => by rw [p8]
            have fr2 : ∀ k j o i, rst k j o i → ¬ (k = 0 ∧ j = 8) → ¬ (k = 24 ∧ j = 33) → h2 k j o i = h k j o i := fun k j o i hr e1 e2 => by
              unfold rst at hr
              rw [p8', up_o (by omega), p7 _ _ _ _ (by omega)]
              show h1 k j o i = _
              rw [q8', up_o (by omega), q7 _ _ _ _ (by omega)]
            have fr3 : ∀ k j o i, k < 24 → h2 k j o i = h1 k j o i := fun k j o i hh => by
              rw [p8', up_o (by omega), p7 _ _ _ _ (by omega)]
            refine ⟨q5.trans p5.symm, bq zz xx B c, T, KN_hi q6 (fun k j o i hh => fr3 _ _ _ _ (by omega)), p6, bq_W hW q2, fun k hk => IM_fr hk (i1 k hk) (fun k' j o i hh => fr2 _ _ _ _ (by unfold rst; omega) (by omega) (by omega)), fun k hk => SH_fr hk (i2 k hk) (fun k' j o i hh => fr2 _ _ _ _ (by unfold rst; omega) (by omega) (by omega)), TP_fr i3 (fun k' j o i hh => fr2 _ _ _ _ (by unfold rst; omega) (by omega) (by omega)), ?_, ?_⟩
            · show h2 0 8 0 0 = h2 24 33 0 0
              rw [fr3 _ _ _ _ (by omega), q8', up_s, p8', up_s]
            · show h2 16 2 0 0 = h2 24 15 0 0
              rw [fr2 _ _ _ _ (by unfold rst; omega) (by omega) (by omega), fr2 _ _ _ _ (by unfold rst; omega) (by omega) (by omega)]; exact i4.2
      · have en : ∀ h', f_X10_in (n.toInt64) (0 : Int64) (13 : Int64) h' = some (decide (nI 0 ≤ n ∧ n ≤ nI 13)) := fun h' => by rw [m64_0, m64_13, e_in32]
        unfold f_X9_read
        refine ok_obd (ok_eq (eS9 _ _) (ok_ite (fun _ => ok_obd (ok_eq (eL9 _ _) (ok_ite (fun _ => ok_obd (ok_eq (e_within _ _ _ _) (ok_ite (fun e => absurd (of_decide_eq_true e) hn) (fun _ => ok_some ?_)))) (fun e => absurd (decide_eq_true hl) e)))) (fun e => absurd (decide_eq_true hk) e)))
        unfold f_X10_read
        exact ok_obd (ok_eq (eS10 _ _ _) (ok_ite (fun _ => ok_obd (ok_eq (en _) (ok_ite (fun e => absurd (of_decide_eq_true e) hn) (fun _ => ok_some ⟨rfl, hR0⟩)))) (fun e => absurd (decide_eq_true ⟨hk, hl⟩) e)))
    · unfold f_X9_read
      refine ok_obd (ok_eq (eS9 _ _) (ok_ite (fun _ => ok_obd (ok_eq (eL9 _ _) (ok_ite (fun e => absurd (of_decide_eq_true e) hl) (fun _ => ok_some ?_)))) (fun e => absurd (decide_eq_true hk) e)))
      unfold f_X10_read
      exact ok_obd (ok_eq (eS10 _ _ _) (ok_ite (fun e => absurd (of_decide_eq_true e).2 hl) (fun _ => ok_some ⟨rfl, hR0⟩)))
  · unfold f_X9_read
    refine ok_obd (ok_eq (eS9 _ _) (ok_ite (fun e => absurd (of_decide_eq_true e) hk) (fun _ => ok_some ?_)))
    unfold f_X10_read
    exact ok_obd (ok_eq (eS10 _ _ _) (ok_ite (fun e => absurd (of_decide_eq_true e).1 hk) (fun _ => ok_some ⟨rfl, hR0⟩)))
end Tri
