section Cl
variable {h h0 g q : Mem} {t : Nat} {u : Nat → Nat} {s a b hi hi' : Nat} {B : Bs} {pt tt : Bool}
theorem rb_inr {α β : Type} {x : Flt ⊕ α} {f : α → Flt ⊕ β} {y : β} (h : rb x f = .inr y) : ∃ a, x = .inr a ∧ f a = .inr y := by
  cases x with
  | inl e => cases h
  | inr a => exact ⟨a, rfl, h⟩
theorem num_r {lo hi : Nat} {q : Nat × Nat} (hs : s ≤ t) (h : num t u lo hi s = .inr q) : lo ≤ q.1 ∧ q.1 ≤ hi ∧ s < q.2 ∧ q.2 ≤ t := by
  have ha := ta_b (u := u) hs
  have hb := tb_b (u := u) hs
  unfold num at h
  split at h
  · cases h
  · split at h
    · split at h
      · cases h
        have := hb.2.2 (by omega)
        rename_i w
        exact ⟨w.1, w.2, by show s < tb t u s; omega, hb.2.1⟩
      · cases h
    · cases h
theorem stop_r {e : Nat} (hs : s ≤ t) (h : stop t u s = .inr e) : s < e ∧ e ≤ t := by
  have ha := ta_b (u := u) hs
  have hb := tb_b (u := u) hs
  unfold stop at h
  split at h
  · cases h
  · split at h
    · cases h
      have := hb.2.2 (by omega)
      omega
    · cases h
theorem line_ok {e : Nat} {B' : Bs} {pt' tt' : Bool} (hs : s ≤ t) (hP : PW B) (hH : HI B hi) (h : line t u s B pt tt hi = .inr (e, B', pt', tt', hi')) : tb t u s < e ∧ e ≤ t ∧ PW B' ∧ HI B' hi' := by
  have hbb := tb_b (u := u) hs
  have hb := hbb.2.1
  unfold line at h
  split at h
  · unfold lPlaces at h
    split at h
    · cases h
    · obtain ⟨q1, h1, h⟩ := rb_inr h
      obtain ⟨e1, h2, h⟩ := rb_inr h
      have n1 := num_r hb h1
      have n2 := stop_r n1.2.2.2 h2
      cases h
      exact ⟨by omega, n2.2, PW_0 hP ⟨n1.1, n1.2.1⟩, HI_f hH (ub_n (by decide)) (ub_n (by decide)) (fun _ => ub_n (by decide)) (fun _ => ub_n (by decide)) (fun _ => ub_n (by decide))⟩
  · split at h
    · unfold lTide at h
      split at h
      · cases h
      · obtain ⟨q1, h1, h⟩ := rb_inr h
        obtain ⟨q2, h2, h⟩ := rb_inr h
        obtain ⟨e1, h3, h⟩ := rb_inr h
        have n1 := num_r hb h1
        have n2 := num_r n1.2.2.2 h2
        have n3 := stop_r n2.2.2.2 h3
        cases h
        have e0 : ∀ f i, f ≠ 3 → f ≠ 4 → ub (ub B 3 0 q1.1) 4 0 q2.1 f i = B f i := fun f i h3 h4 => by rw [ub_n h4, ub_n h3]
        exact ⟨by omega, n3.2, PW_3 hP n1.2.1 n2.2.1, HI_f hH (e0 _ _ (by decide) (by decide)) (e0 _ _ (by decide) (by decide)) (fun _ => e0 _ _ (by decide) (by decide)) (fun _ => e0 _ _ (by decide) (by decide)) (fun _ => e0 _ _ (by decide) (by decide))⟩
    · split at h
      · unfold lHole at h
        obtain ⟨q1, h1, h⟩ := rb_inr h
        have n1 := num_r hb h1
        split at h
        · rename_i w7
          obtain ⟨q2, h2, h⟩ := rb_inr h
          obtain ⟨e1, h3, h⟩ := rb_inr h
          have n2 := num_r n1.2.2.2 h2
          have n3 := stop_r n2.2.2.2 h3
          cases h
          exact ⟨by omega, n3.2, PW_7 hP n2.2.1, HI_7 hH n1.2.1 w7 n2.1⟩
        · cases h
      · split at h
        · unfold lCoin at h
          split at h
          · cases h
          · obtain ⟨q1, h1, h⟩ := rb_inr h
            obtain ⟨q2, h2, h⟩ := rb_inr h
            have n1 := num_r hb h1
            have n2 := num_r n1.2.2.2 h2
            have ba := ta_b (u := u) n2.2.2.2
            have bb := tb_b (u := u) n2.2.2.2
            have hPm := PW_mnt hP (by omega) ⟨n1.1, n1.2.1⟩ n2.2.1
            have hHm := HI_mnt (z := q1.1) hH n2.2.1
            split at h
            · cases h
            · split at h
              · obtain ⟨e1, h3, h⟩ := rb_inr h
                have n3 := stop_r bb.2.1 h3
                cases h
                exact ⟨by omega, n3.2, PW_10 hPm, HI_f hHm (ub_n (by decide)) (ub_n (by decide)) (fun _ => ub_n (by decide)) (fun _ => ub_n (by decide)) (fun _ => ub_n (by decide))⟩
              · split at h
                · rename_i k3
                  have := bb.2.2 (by omega)
                  cases h
                  exact ⟨by omega, bb.2.1, hPm, hHm⟩
                · cases h
        · split at h
          · unfold lCrab at h
            split at h
            · cases h
            · have bb := tb_b (u := u) hb
              have ba := ta_b (u := u) hb
              split at h
              · cases h
              · split at h
                · obtain ⟨q1, h1, h⟩ := rb_inr h
                  obtain ⟨q2, h2, h⟩ := rb_inr h
                  obtain ⟨q3, h3, h⟩ := rb_inr h
                  obtain ⟨e1, h4, h⟩ := rb_inr h
                  have n1 := num_r bb.2.1 h1
                  have n2 := num_r n1.2.2.2 h2
                  have n3 := num_r n2.2.2.2 h3
                  have n4 := stop_r n3.2.2.2 h4
                  cases h
                  exact ⟨by omega, n4.2, PW_crb hP (by omega) (by split <;> omega) ⟨n1.1, n1.2.1⟩ ⟨n2.1, n2.2.1⟩ n3.2.1, HI_crb hH n3.2.1⟩
                · cases h
          · cases h
theorem m_draft : Ok (f_X10_firstDraft h) (fun q => DF h q ∧ DR q BZ false false 0 ∧ q 24 11 0 0 = h 24 11 0 0 ∧ q 24 15 0 0 = h 24 15 0 0) := by
  unfold f_X10_firstDraft
  rw [wp_obd]
  refine (ok_up (K := fun q => (∀ k j o i, k ≠ 27 → q k j o i = h k j o i) ∧ ∀ i, i < 79 → q 27 0 0 i = nI 0) 79 (fun j z => z.1 = nI j ∧ (∀ k j o i, k ≠ 27 → z.2 k j o i = h k j o i) ∧ ∀ i, i < j → z.2 27 0 0 i = nI 0) (by omega) ?_ ?_ _ ⟨rfl, fun _ _ _ _ _ => rfl, fun i hi => by omega⟩).mono ?_
  · rintro j ⟨x, z⟩ hj ⟨hx, k1, k2⟩
    dsimp only at hx k1 k2
    subst hx
    simp (disch := omega) only [wp_some, wp_obd, wp_ob2, wp_bnd, wp_gd, wp_ite, wp_true, wp_ff, ↓l_n1, ↓l_n2, ↓l_n3, ↓l_n4, ↓l_n10, ↓l_n20, l_0, l_1, l_2, l_3, l_4, l_5, l_6, l_7, l_8, l_9, l_10, l_13, l_14, l_15, l_16, l_20, l_21, l_24, l_27, l_28, l_30, l_31, l_32, l_35, l_36, l_39, l_40, l_41, l_43, l_44, l_45, l_46, l_47, l_48, l_49, l_56, l_57, l_59, l_60, l_79, l_97, l_122, l_160, l_237, l_255, l_320, l_999, l_1000, nI_add, pk_mul, nI_eq, nI_leI, nI_ltI, nI_clamp, inb_nI_iff, e_within, e_in32, e_asNumber, e_flag, decide_eq_true_eq, Sum.elim_inl, Sum.elim_inr, true_implies, not_true_eq_false, not_false_eq_true, false_implies, and_true, true_and, nI_nn, nn_nI, nn_nn, ↓reduceIte, if_true, if_false, Nat.le_refl, implies_true, Nat.lt_irrefl, and_self_left, win1, nI_le_s1, Nat.zero_le, up_s, up_o, Nat.zero_add, m64_0, m64_1, m64_2, m64_3, m64_7, m64_8, m64_9, m64_10, m64_13, m64_20, m64_27, m64_60]
    refine ⟨fun e => by omega, fun _ => ⟨by omega, fun k j' o i hh => ?_, fun i hi => ?_⟩⟩
    · rw [up_o (by omega)]; exact k1 k j' o i hh
    · by_cases e : i = j
      · subst e; (try simp (disch := omega) only [up_s, up_o, and_self])
      · rw [up_o (by omega)]; exact k2 i (by omega)
  · rintro ⟨x, z⟩ ⟨hx, k1, k2⟩
    dsimp only at hx k1 k2
    subst hx
    simp (disch := omega) only [wp_some, wp_obd, wp_ob2, wp_bnd, wp_gd, wp_ite, wp_true, wp_ff, ↓l_n1, ↓l_n2, ↓l_n3, ↓l_n4, ↓l_n10, ↓l_n20, l_0, l_1, l_2, l_3, l_4, l_5, l_6, l_7, l_8, l_9, l_10, l_13, l_14, l_15, l_16, l_20, l_21, l_24, l_27, l_28, l_30, l_31, l_32, l_35, l_36, l_39, l_40, l_41, l_43, l_44, l_45, l_46, l_47, l_48, l_49, l_56, l_57, l_59, l_60, l_79, l_97, l_122, l_160, l_237, l_255, l_320, l_999, l_1000, nI_add, pk_mul, nI_eq, nI_leI, nI_ltI, nI_clamp, inb_nI_iff, e_within, e_in32, e_asNumber, e_flag, decide_eq_true_eq, Sum.elim_inl, Sum.elim_inr, true_implies, not_true_eq_false, not_false_eq_true, false_implies, and_true, true_and, nI_nn, nn_nI, nn_nn, ↓reduceIte, if_true, if_false, Nat.le_refl, implies_true, Nat.lt_irrefl, and_self_left, win1, nI_le_s1, Nat.zero_le, up_s, up_o, Nat.zero_add, m64_0, m64_1, m64_2, m64_3, m64_7, m64_8, m64_9, m64_10, m64_13, m64_20, m64_27, m64_60]
    exact ⟨k1, k2⟩
  rintro e ⟨k1, k2⟩
  refine ok_bnd (ok_bnd (ok_bnd (ok_bnd (ok_some ⟨fun k j o i hh => ?_, ⟨⟨fun x hx => ?_, ?_, fun c hc => ?_, fun c hc => ?_, ?_, ?_, ?_⟩, ?_, ?_, ?_, ?_, fun c h1 h2 => ?_, ?_⟩, ?_, ?_⟩))))
  · show up _ 24 8 0 0 _ k j o i = _
    rw [up_o (by omega), up_o (by omega), up_o (by omega), up_o (by omega)]; exact k1 _ _ _ _ (by omega)
  · show up _ 24 8 0 0 _ 27 0 0 x = _
    rw [up_o (by omega), up_o (by omega), up_o (by omega), up_o (by omega)]; exact k2 _ (by omega)
  · show up _ 24 8 0 0 _ 27 0 0 8 = _
    rw [up_o (by omega), up_o (by omega), up_o (by omega), up_o (by omega)]; exact k2 _ (by omega)
  · simp [BZ] at hc
  · simp [BZ] at hc
  · show up _ 24 8 0 0 _ 27 0 0 43 = _
    rw [up_o (by omega), up_o (by omega), up_o (by omega), up_o (by omega)]; exact k2 _ (by omega)
  · show up _ 24 8 0 0 _ 27 0 0 44 = _
    rw [up_o (by omega), up_o (by omega), up_o (by omega), up_o (by omega)]; exact k2 _ (by omega)
  · show up _ 24 8 0 0 _ 27 0 0 45 = _
    rw [up_o (by omega), up_o (by omega), up_o (by omega), up_o (by omega)]; exact k2 _ (by omega)
  · show up _ 24 8 0 0 _ 24 5 0 0 = _
    rw [up_o (by omega), up_o (by omega), up_o (by omega), up_s]; rfl
  · show up _ 24 8 0 0 _ 24 6 0 0 = _
    rw [up_o (by omega), up_o (by omega), up_s]; rfl
  · show up _ 24 8 0 0 _ 24 7 0 0 = _
    rw [up_o (by omega), up_s]; rfl
  · show up _ 24 8 0 0 _ 24 8 0 0 = _
    rw [up_s]; decide
  · show up _ 24 8 0 0 _ 27 0 0 (15 + c) = _
    rw [up_o (by omega), up_o (by omega), up_o (by omega), up_o (by omega)]; exact k2 _ (by omega)
  · show up _ 24 8 0 0 _ 27 0 0 46 = _
    rw [up_o (by omega), up_o (by omega), up_o (by omega), up_o (by omega)]; exact k2 _ (by omega)
  · show up _ 24 8 0 0 _ 24 11 0 0 = _
    rw [up_o (by omega), up_o (by omega), up_o (by omega), up_o (by omega)]; exact k1 _ _ _ _ (by omega)
  · show up _ 24 8 0 0 _ 24 15 0 0 = _
    rw [up_o (by omega), up_o (by omega), up_o (by omega), up_o (by omega)]; exact k1 _ _ _ _ (by omega)
theorem m_kdraft (h1 : B 1 0 ≤ 6) (h2 : B 2 0 ≤ 4) (hD : DR h B pt tt hi) : Ok (f_X10_keepDraft h) (fun q => SN (q 25 0 0) B ∧ q 25 0 0 46 = nI 0 ∧ q 24 2 0 0 = nI (B 0 0) ∧ q 24 3 0 0 = nI (B 2 0) ∧ (∀ k, k < 2 → q 26 0 0 k = nI 0) ∧ ∀ k j o i, ¬ (k = 25 ∧ i < 79) → ¬ (k = 24 ∧ (j = 2 ∨ j = 3)) → k ≠ 26 → q k j o i = h k j o i) := by
  obtain ⟨a, b, c, d, e, f, k⟩ := hD
  unfold f_X10_keepDraft
  rw [wp_obd]
  refine (ok_up (K := fun q => (∀ i, i < 79 → q 25 0 0 i = h 27 0 0 i) ∧ ∀ k j o i, ¬ (k = 25 ∧ i < 79) → q k j o i = h k j o i) 79 (fun j z => z.1 = nI j ∧ (∀ i, i < j → z.2 25 0 0 i = h 27 0 0 i) ∧ ∀ k j o i, ¬ (k = 25 ∧ i < 79) → z.2 k j o i = h k j o i) (by omega) ?_ ?_ _ ⟨rfl, fun i hi => by omega, fun _ _ _ _ _ => rfl⟩).mono ?_
  · rintro j ⟨x, z⟩ hj ⟨hx, k1, k2⟩
    dsimp only at hx k1 k2
    subst hx
    have e1 : z 27 0 0 j = h 27 0 0 j := k2 _ _ _ _ (by omega)
    simp (disch := omega) only [wp_some, wp_obd, wp_ob2, wp_bnd, wp_gd, wp_ite, wp_true, wp_ff, ↓l_n1, ↓l_n2, ↓l_n3, ↓l_n4, ↓l_n10, ↓l_n20, l_0, l_1, l_2, l_3, l_4, l_5, l_6, l_7, l_8, l_9, l_10, l_13, l_14, l_15, l_16, l_20, l_21, l_24, l_27, l_28, l_30, l_31, l_32, l_35, l_36, l_39, l_40, l_41, l_43, l_44, l_45, l_46, l_47, l_48, l_49, l_56, l_57, l_59, l_60, l_79, l_97, l_122, l_160, l_237, l_255, l_320, l_999, l_1000, nI_add, pk_mul, nI_eq, nI_leI, nI_ltI, nI_clamp, inb_nI_iff, e_within, e_in32, e_asNumber, e_flag, decide_eq_true_eq, Sum.elim_inl, Sum.elim_inr, true_implies, not_true_eq_false, not_false_eq_true, false_implies, and_true, true_and, nI_nn, nn_nI, nn_nn, ↓reduceIte, if_true, if_false, Nat.le_refl, implies_true, Nat.lt_irrefl, and_self_left, win1, nI_le_s1, Nat.zero_le, up_s, up_o, Nat.zero_add, m64_0, m64_1, m64_2, m64_3, m64_7, m64_8, m64_9, m64_10, m64_13, m64_20, m64_27, m64_60, e1]
    refine ⟨fun e => by omega, fun _ => ⟨by omega, by omega, fun i hi => ?_, fun k j' o i hh => ?_⟩⟩
    · by_cases e : i = j
      · subst e; (try simp (disch := omega) only [up_s, up_o, and_self])
      · rw [up_o (by omega)]; exact k1 i (by omega)
    · rw [up_o (by omega)]; exact k2 k j' o i hh
  · rintro ⟨x, z⟩ ⟨hx, k1, k2⟩
    dsimp only at hx k1 k2
    subst hx
    simp (disch := omega) only [wp_some, wp_obd, wp_ob2, wp_bnd, wp_gd, wp_ite, wp_true, wp_ff, ↓l_n1, ↓l_n2, ↓l_n3, ↓l_n4, ↓l_n10, ↓l_n20, l_0, l_1, l_2, l_3, l_4, l_5, l_6, l_7, l_8, l_9, l_10, l_13, l_14, l_15, l_16, l_20, l_21, l_24, l_27, l_28, l_30, l_31, l_32, l_35, l_36, l_39, l_40, l_41, l_43, l_44, l_45, l_46, l_47, l_48, l_49, l_56, l_57, l_59, l_60, l_79, l_97, l_122, l_160, l_237, l_255, l_320, l_999, l_1000, nI_add, pk_mul, nI_eq, nI_leI, nI_ltI, nI_clamp, inb_nI_iff, e_within, e_in32, e_asNumber, e_flag, decide_eq_true_eq, Sum.elim_inl, Sum.elim_inr, true_implies, not_true_eq_false, not_false_eq_true, false_implies, and_true, true_and, nI_nn, nn_nI, nn_nn, ↓reduceIte, if_true, if_false, Nat.le_refl, implies_true, Nat.lt_irrefl, and_self_left, win1, nI_le_s1, Nat.zero_le, up_s, up_o, Nat.zero_add, m64_0, m64_1, m64_2, m64_3, m64_7, m64_8, m64_9, m64_10, m64_13, m64_20, m64_27, m64_60]
    exact ⟨k1, k2⟩
  rintro q ⟨k1, k2⟩
  have n0 : vp_nar .boolean (nI 0) = nI 0 := vpn_n (by omega)
  have q5 : q 24 5 0 0 = nI (B 0 0) := (k2 _ _ _ _ (by omega)).trans b
  have q6 : q 24 6 0 0 = nI (B 2 0) := (k2 _ _ _ _ (by omega)).trans c
  simp (disch := omega) only [wp_some, wp_obd, wp_ob2, wp_bnd, wp_gd, wp_ite, wp_true, wp_ff, ↓l_n1, ↓l_n2, ↓l_n3, ↓l_n4, ↓l_n10, ↓l_n20, l_0, l_1, l_2, l_3, l_4, l_5, l_6, l_7, l_8, l_9, l_10, l_13, l_14, l_15, l_16, l_20, l_21, l_24, l_27, l_28, l_30, l_31, l_32, l_35, l_36, l_39, l_40, l_41, l_43, l_44, l_45, l_46, l_47, l_48, l_49, l_56, l_57, l_59, l_60, l_79, l_97, l_122, l_160, l_237, l_255, l_320, l_999, l_1000, nI_add, pk_mul, nI_eq, nI_leI, nI_ltI, nI_clamp, inb_nI_iff, e_within, e_in32, e_asNumber, e_flag, decide_eq_true_eq, Sum.elim_inl, Sum.elim_inr, true_implies, not_true_eq_false, not_false_eq_true, false_implies, and_true, true_and, nI_nn, nn_nI, nn_nn, ↓reduceIte, if_true, if_false, Nat.le_refl, implies_true, Nat.lt_irrefl, and_self_left, win1, nI_le_s1, Nat.zero_le, up_s, up_o, Nat.zero_add, m64_0, m64_1, m64_2, m64_3, m64_7, m64_8, m64_9, m64_10, m64_13, m64_20, m64_27, m64_60, n0, q5, q6]
  refine ⟨SN_fr h1 h2 a (fun i hi => ?_), (k1 46 (by omega)).trans k, fun x hx => ?_, fun k j o i u v w => ?_⟩
  · (try simp (disch := omega) only [up_s, up_o, and_self]); exact k1 i (by omega)
  · have : x = 0 ∨ x = 1 := by omega
    rcases this with rfl | rfl
    · (try simp (disch := omega) only [up_s, up_o, and_self])
    · (try simp (disch := omega) only [up_s, up_o, and_self])
  · (try simp (disch := omega) only [up_s, up_o, and_self]); exact k2 _ _ _ _ u
theorem m_text (hR : RT h t u) (hU : UB t u) : Ok (f_X10_text h) (fun q => (∃ f, fin t (prs0 t u) = .inl f ∧ (1 ≤ f.1 ∧ f.1 ≤ 6) ∧ q.1 = nn 10 - nI f.2 ∧ q.2 24 15 0 0 = nI f.1 ∧ q.2 24 10 0 0 = nI 0 ∧ ∀ k j o i, ¬ (k = 27 ∨ (k = 24 ∧ 5 ≤ j ∧ j ≤ 16)) → q.2 k j o i = h k j o i) ∨ (∃ n B, fin t (prs0 t u) = .inr (n, B) ∧ q.1 = nI n ∧ q.2 24 15 0 0 = nI 0 ∧ q.2 24 10 0 0 = nI 0 ∧ SN (q.2 25 0 0) B ∧ q.2 25 0 0 46 = nI 0 ∧ q.2 24 2 0 0 = nI (B 0 0) ∧ q.2 24 3 0 0 = nI (B 2 0) ∧ (∀ k, k < 2 → q.2 26 0 0 k = nI 0) ∧ ∀ k j o i, ¬ (k = 25 ∧ i < 79) → ¬ (k = 27 ∨ (k = 24 ∧ 5 ≤ j ∧ j ≤ 16)) → ¬ (k = 24 ∧ (j = 2 ∨ j = 3)) → k ≠ 26 → q.2 k j o i = h k j o i)) := by
  have hU1 := hU.1
  unfold f_X10_text
  refine ok_bnd (ok_bnd (ok_obd (m_draft.mono ?_)))
  rintro h3 ⟨a1, a2, a3, a4⟩
  have hDF : DF h h3 := (DF.up (k := 24) (j := 15) (by omega)).tr ((DF.up (k := 24) (j := 11) (by omega)).tr a1)
  have e11 : h3 24 11 0 0 = nI 0 := a3.trans up_s
  have e15 : h3 24 15 0 0 = nI 0 := a4.trans ((up_o (by omega)).trans up_s)
  have hR3 : RT h3 t u := RT_fr hR (fun k j o i hh => hDF _ _ _ _ (by omega))
  refine ok_obd ((m_nx hR3 hU (Nat.zero_le _) e11 e15).mono ?_)
  rintro h4 ⟨b1, b2⟩
  refine ok_obd ?_
  refine (ok_up (K := fun e => DF h e.2 ∧ ((∃ f, prs0 t u = .inl f ∧ (1 ≤ f.1 ∧ f.1 ≤ 6) ∧ RF e.2 f) ∨ (∃ n B pt tt hi, prs0 t u = .inr (n, B, hi) ∧ e.1 = nI n ∧ e.2 24 15 0 0 = nI 0 ∧ e.2 24 12 0 0 = nI t ∧ DR e.2 B pt tt hi ∧ PW B ∧ HI B hi))) 161 (fun j z => DF h z.2 ∧ z.1 = nI j ∧ ((∃ f, prs0 t u = .inl f ∧ (1 ≤ f.1 ∧ f.1 ≤ 6) ∧ RF z.2 f) ∨ (∃ s B pt tt hi, RX t u z.2 s ∧ DR z.2 B pt tt hi ∧ PW B ∧ HI B hi ∧ 2 * j ≤ s ∧ s ≤ t ∧ prs t u (161 - j) j s B pt tt hi = prs0 t u))) (by omega) ?_ ?_ _ ⟨hDF.tr b2.d, rfl, Or.inr ⟨0, BZ, false, false, 0, b1, DR_nf a2 (by decide) (by decide) b2, PW_Z, HI_Z, by omega, by omega, rfl⟩⟩).mono ?_
  · rintro j ⟨x, z⟩ hj ⟨k0, hx, k1⟩
    dsimp only at k0 hx k1
    subst hx
    rcases k1 with ⟨f, e1, e2, e3⟩ | ⟨s, B, pt, tt, hi, k1, k2, k3, k4, k5, k6, k7⟩
    · exact ok_ite (fun e => absurd e (rf_ne e3 e2)) (fun _ => ok_some ⟨k0, Or.inl ⟨f, e1, e2, e3⟩⟩)
    · obtain ⟨m, hm⟩ : ∃ m, 161 - j = m + 1 := ⟨160 - j, by omega⟩
      rw [hm] at k7
      have hbb := tb_b (u := u) k6
      have haa := ta_b (u := u) k6
      rcases k1 with ⟨wb, r2⟩ | hS
      · have f1 : (1 ≤ 1 ∧ 1 ≤ 6) := by omega
        have wb' : tkd t u s = 4 ∨ (tkd t u s = 2 ∧ 2 < tb t u s - ta t u s) := wb
        refine ok_ite (fun e => absurd e (rf_ne r2 f1)) (fun _ => ok_some ⟨k0, Or.inl ⟨_, ?_, f1, r2⟩⟩)
        rw [← k7]
        show (if _ then _ else _) = _
        rw [if_pos wb']
      · obtain ⟨y1, y2, y3, y4, y5, y6, y7⟩ := id hS
        have wb' : ¬ (tkd t u s = 4 ∨ (tkd t u s = 2 ∧ 2 < tb t u s - ta t u s)) := y7
        have hk4 : tkd t u s ≤ 4 := by
          unfold tkd; split
          · exact (kd_b _).2
          · omega
        refine ok_ite (fun _ => ?_) (fun e => absurd y6 e)
        by_cases q0 : tkd t u s = 0
        · have et : ta t u s = t := (tkd_0 k6).mp q0
          refine ok_ite (fun _ => ok_some ⟨k0, Or.inr ⟨j, B, pt, tt, hi, ?_, rfl, y6, by rw [← et]; exact y2, k2, k3, k4⟩⟩) (fun e => absurd (show z 24 13 0 0 = 0 from by rw [y3, q0]; rfl) e)
          rw [← k7]
          show (if _ then _ else _) = _
          rw [if_neg wb', if_pos q0]
        · refine ok_ite (fun e => absurd (nI_inj (b := 0) (by omega) (by omega) (y3.symm.trans e)) q0) (fun _ => ok_obd ?_)
          have hlt := hbb.2.2 q0
          refine (m_readLine hS hU k6 k2 k3 k4.1).mono ?_
          rintro h12 ⟨d1, d2⟩
          refine ok_bnd (ok_some ⟨k0.tr d1, nI_add j 1, ?_⟩)
          rcases d2 with ⟨f, e1, e2, e3⟩ | ⟨e, B', pt', tt', hi', e1, e2, e3, e4⟩
          · refine Or.inl ⟨f, ?_, e2, e3⟩
            rw [← k7]
            show (if _ then _ else _) = _
            rw [if_neg wb', if_neg q0, e1]
          · have lo := line_ok k6 k3 k4 e1
            refine Or.inr ⟨e, B', pt', tt', hi', e3, e4, lo.2.2.1, lo.2.2.2, by omega, e2, ?_⟩
            have : 161 - (j + 1) = m := by omega
            rw [this, ← k7]
            symm
            show (if _ then _ else _) = _
            rw [if_neg wb', if_neg q0, e1]
  · rintro ⟨x, z⟩ ⟨k0, hx, k1⟩
    dsimp only at k0 hx k1
    subst hx
    rcases k1 with ⟨f, e1, e2, e3⟩ | ⟨s, B, pt, tt, hi, k1, k2, k3, k4, k5, k6, k7⟩
    · exact ok_ite (fun e => absurd e (rf_ne e3 e2)) (fun _ => ok_some ⟨k0, Or.inl ⟨f, e1, e2, e3⟩⟩)
    · omega
  rintro ⟨x, z⟩ ⟨k0, k1⟩
  dsimp only at k0 k1
  have dead : ∀ (z : Mem) (f : Flt), DF h z → RF z f → (1 ≤ f.1 ∧ f.1 ≤ 6) → fin t (prs0 t u) = .inl f → ∀ F : Mem → Option (Int32 × Mem), Ok (bnd (up z 24 10 0 0 (0 : Int32)) (fun h20 => (if (h20 24 15 0 0) ≤ 0 then F h20 else some (((-10 : Int32) - (h20 24 16 0 0)), h20)))) (fun q => (∃ f, fin t (prs0 t u) = .inl f ∧ (1 ≤ f.1 ∧ f.1 ≤ 6) ∧ q.1 = nn 10 - nI f.2 ∧ q.2 24 15 0 0 = nI f.1 ∧ q.2 24 10 0 0 = nI 0 ∧ ∀ k j o i, ¬ (k = 27 ∨ (k = 24 ∧ 5 ≤ j ∧ j ≤ 16)) → q.2 k j o i = h k j o i) ∨ (∃ n B, fin t (prs0 t u) = .inr (n, B) ∧ q.1 = nI n ∧ q.2 24 15 0 0 = nI 0 ∧ q.2 24 10 0 0 = nI 0 ∧ SN (q.2 25 0 0) B ∧ q.2 25 0 0 46 = nI 0 ∧ q.2 24 2 0 0 = nI (B 0 0) ∧ q.2 24 3 0 0 = nI (B 2 0) ∧ (∀ k, k < 2 → q.2 26 0 0 k = nI 0) ∧ ∀ k j o i, ¬ (k = 25 ∧ i < 79) → ¬ (k = 27 ∨ (k = 24 ∧ 5 ≤ j ∧ j ≤ 16)) → ¬ (k = 24 ∧ (j = 2 ∨ j = 3)) → k ≠ 26 → q.2 k j o i = h k j o i)) := by
    intro z f g1 g2 g3 g4 F
    have u15 : up z 24 10 0 0 (0 : Int32) 24 15 0 0 = nI f.1 := (up_o (by omega)).trans g2.1
    have u16 : up z 24 10 0 0 (0 : Int32) 24 16 0 0 = nI f.2 := (up_o (by omega)).trans g2.2
    have u10 : up z 24 10 0 0 (0 : Int32) 24 10 0 0 = nI 0 := up_s
    refine ok_bnd (ok_ite (fun e => ?_) (fun _ => ok_some (Or.inl ⟨f, g4, g3, ?_, u15, u10, fun k j o i hh => ?_⟩)))
    · rw [u15] at e
      have := (nI_leI (b := 0) (by omega) (by omega)).mp e
      omega
    · show (-10 : Int32) - up z 24 10 0 0 (0 : Int32) 24 16 0 0 = _
      rw [u16, l_n10]
    · show up z 24 10 0 0 (0 : Int32) k j o i = _
      rw [up_o (by omega)]; exact g1 _ _ _ _ (by omega)
  rcases k1 with ⟨f, e1, e2, e3⟩ | ⟨n, B, pt, tt, hi, e1, e2, e3, e4, e5, e6, e7⟩
  · exact ok_obd (ok_ite (fun e => absurd e (rf_ne e3 e2)) (fun _ => ok_some (dead z f k0 e3 e2 (by rw [e1]; rfl) _)))
  · refine ok_obd (ok_ite (fun _ => ok_obd ?_) (fun e => absurd e3 e))
    have z5 : z 24 5 0 0 = nI (B 0 0) := e5.2.1
    have z8 : z 24 8 0 0 = hiv hi := e5.2.2.2.2.1
    have w0 := e6.1
    have h8 := e7.1
    have cmp : (nI (B 0 0) ≤ hiv hi) ↔ ¬ hi ≤ B 0 0 := by
      unfold hiv
      by_cases q : hi = 0
      · rw [if_pos q, nn_lt0 (by omega) (by omega)]
        constructor
        · exact False.elim
        · intro w; omega
      · rw [if_neg q, nI_leI (by omega) (by omega)]; omega
    by_cases q : hi ≤ B 0 0
    · refine ok_ite (fun e => absurd q (cmp.mp (by rw [← z5, ← z8]; exact e))) (fun _ => ok_some (ok_obd ((m_need true (c := 6) e3 e4).mono ?_)))
      rintro h18 (⟨-, rfl⟩ | ⟨e, -⟩)
      rotate_left
      · cases e
      have u15 : up h18 24 10 0 0 (0 : Int32) 24 15 0 0 = nI 0 := (up_o (by omega)).trans e3
      refine ok_some (ok_bnd (ok_ite (fun _ => ok_obd ?_) (fun e => absurd (by rw [u15]; decide) e)))
      have hD10 : DR (up h18 24 10 0 0 (0 : Int32)) B pt tt hi := by
        obtain ⟨a, b, c, d, e, f, k⟩ := e5
        exact ⟨SN_fr e6.2.1 e6.2.2.1 a (fun i hi => up_o (by omega)), (up_o (by omega)).trans b, (up_o (by omega)).trans c, (up_o (by omega)).trans d, (up_o (by omega)).trans e, fun c h1 h2 => (up_o (by omega)).trans (f c h1 h2), (up_o (by omega)).trans k⟩
      refine (m_kdraft e6.2.1 e6.2.2.1 hD10).mono ?_
      rintro h21 ⟨c1, c2, c3, c4, c5, c6⟩
      refine ok_some (Or.inr ⟨n, B, by rw [e1, fin_r, if_pos q], e2, ?_, ?_, c1, c2, c3, c4, c5, fun k j o i w1 w2 w3 w4 => ?_⟩)
      · exact (c6 _ _ _ _ (by omega) (by omega) (by omega)).trans u15
      · exact (c6 _ _ _ _ (by omega) (by omega) (by omega)).trans up_s
      · exact (c6 _ _ _ _ w1 w3 w4).trans ((up_o (by omega)).trans (k0 _ _ _ _ (by omega)))
    · refine ok_ite (fun _ => ok_some (ok_obd ((m_need false (c := 6) e3 e4).mono ?_))) (fun e => absurd (show z 24 5 0 0 ≤ z 24 8 0 0 from by rw [z5, z8]; exact cmp.mpr q) e)
      rintro h18 (⟨e, -⟩ | ⟨-, r, n⟩)
      · cases e
      · exact ok_some (dead h18 (6, t) (k0.tr n.d) r (show 1 ≤ 6 ∧ 6 ≤ 6 by omega) (by rw [e1, fin_r, if_neg q]) _)
end Cl
