/-- w weeks of growth, of the first n crabs -/
def grw (B : Bs) (w n : Nat) : Bs := fun f i => if (f = 12 ∨ f = 13) ∧ i < n then min 9 (B f i + w) else B f i
theorem grw_f {B : Bs} {w n f i : Nat} (h1 : f ≠ 12) (h2 : f ≠ 13) : grw B w n f i = B f i := by
  unfold grw; rw [if_neg (by omega)]
theorem grw_0 {B : Bs} {w : Nat} : grw B w 0 = B := by funext f i; unfold grw; rw [if_neg (by omega)]
theorem grw_s {B : Bs} {w n : Nat} : ub (ub (grw B w n) 12 n (min 9 (B 12 n + w))) 13 n (min 9 (B 13 n + w)) = grw B w (n + 1) := by
  funext f i
  unfold ub grw
  by_cases a : f = 12
  · subst a
    by_cases b : i = n
    · subst b; simp
    · have : i < n ↔ i < n + 1 := by omega
      simp [b, this]
  · by_cases a' : f = 13
    · subst a'
      by_cases b : i = n
      · subst b; simp
      · have : i < n ↔ i < n + 1 := by omega
        simp [b, this]
    · simp [a, a']
theorem grw_12 {B : Bs} {w n i : Nat} (h : n ≤ i) : grw B w n 12 i = B 12 i := by unfold grw; rw [if_neg (by omega)]
theorem grw_13 {B : Bs} {w n i : Nat} (h : n ≤ i) : grw B w n 13 i = B 13 i := by unfold grw; rw [if_neg (by omega)]
theorem WF_grw {B : Bs} {S w n : Nat} (hW : WF S B) : WF S (grw B w n) := by
  obtain ⟨hW0, hW1, hW2, hW3, hW4, hW5, hW6, hW7, hW8, hW9, hW10, hW11, hW12⟩ := hW
  have g : ∀ f i, f ≠ 12 → f ≠ 13 → grw B w n f i = B f i := fun f i a b => grw_f a b
  unfold WF wok
  simp only [g 0 _ (by decide) (by decide), g 1 _ (by decide) (by decide), g 2 _ (by decide) (by decide), g 3 _ (by decide) (by decide), g 4 _ (by decide) (by decide), g 5 _ (by decide) (by decide), g 6 _ (by decide) (by decide), g 7 _ (by decide) (by decide), g 8 _ (by decide) (by decide), g 9 _ (by decide) (by decide), g 10 _ (by decide) (by decide), g 11 _ (by decide) (by decide), g 14 _ (by decide) (by decide), g 15 _ (by decide) (by decide)]
  refine ⟨hW0, hW1, hW2, hW3, hW4, hW5, hW6, hW7, hW8, hW9, hW10, hW11, fun k hk => ?_⟩
  obtain ⟨a, b, c, d⟩ := hW12 k hk
  refine ⟨?_, ?_, c, d⟩
  · unfold grw; split <;> omega
  · unfold grw; split <;> omega
theorem NO_grw {B : Bs} {w n : Nat} (hO : NO B) : NO (grw B w n) := by
  refine ⟨by rw [grw_f (by decide) (by decide), grw_f (by decide) (by decide)]; exact hO.1, fun i hi => ?_⟩
  rw [grw_f (by decide) (by decide)] at hi ⊢
  exact hO.2 i hi
def mx (B : Bs) : Nat → Nat
  | 0 => 0
  | n + 1 => max (mx B n) (B 12 n)
theorem mx_le {B : Bs} {m : Nat} : ∀ {n : Nat}, (∀ i, i < n → B 12 i ≤ m) → mx B n ≤ m
  | 0, _ => Nat.zero_le _
  | n + 1, h => by
    have := mx_le (n := n) (fun i hi => h i (by omega))
    have := h n (by omega)
    show max _ _ ≤ _
    omega
section Tri
variable {h g : Mem} {B T : Bs} {o S : Nat}
theorem c_grow (hC : CB0 h o B) (hH : HL h o B) (hW : WF S B) {w : Nat} (hw : w ≤ 8) : Ok (f_X0_growWeeks o (nI w) h) (fun h' => CB0 h' o (grw B w (B 2 0)) ∧ HL h' o (grw B w (B 2 0)) ∧ FrB h h' o) := by
  have w2 := hW.2.2.1
  have w12 := hW.2.2.2.2.2.2.2.2.2.2.2.2
  unfold f_X0_growWeeks
  rw [wp_obd]
  refine (ok_up (K := fun h' => CB0 h' o (grw B w (B 2 0)) ∧ HL h' o (grw B w (B 2 0)) ∧ FrB h h' o) (B 2 0) (fun j z => z.1 = nI j ∧ CB0 z.2 o (grw B w j) ∧ HL z.2 o (grw B w j) ∧ FrB h z.2 o) (by omega) ?_ ?_ _ ⟨rfl, by rw [grw_0]; exact hC, by rw [grw_0]; exact hH, FrB.rf⟩).mono (fun a ha => wp_some.mpr ha)
  · rintro j ⟨x, z⟩ hj ⟨hx, h1, h2, h3⟩
    dsimp only at hx h1 h2 h3
    subst hx
    have e2 : z 1 4 o 0 = nI (B 2 0) := by rw [h1.2.2.1, grw_f (by decide) (by decide)]
    have hk : j < grw B w j 2 0 := by rw [grw_f (by decide) (by decide)]; exact hj
    have e3 : z 7 0 o j = nI (B 12 j) := by rw [(h1.2.2.2.2.2.2.2.2.2.2 j hk).1, grw_12 (Nat.le_refl _)]
    have e4 : z 7 1 o j = nI (B 13 j) := by rw [(h1.2.2.2.2.2.2.2.2.2.2 j hk).2.1, grw_13 (Nat.le_refl _)]
    have b1 := (w12 j hj).1
    have b2 := (w12 j hj).2.1
    simp (disch := omega) only [wp_some, wp_obd, wp_ob2, wp_bnd, wp_gd, wp_ite, wp_true, wp_ff, ↓l_n1, ↓l_n2, ↓l_n3, ↓l_n4, ↓l_n10, ↓l_n20, l_0, l_1, l_2, l_3, l_4, l_5, l_6, l_7, l_8, l_9, l_10, l_13, l_14, l_15, l_16, l_20, l_21, l_24, l_27, l_28, l_30, l_31, l_32, l_35, l_36, l_39, l_40, l_41, l_43, l_44, l_45, l_46, l_47, l_48, l_49, l_56, l_57, l_59, l_60, l_79, l_97, l_122, l_160, l_237, l_255, l_320, l_999, l_1000, nI_add, pk_mul, nI_eq, nI_leI, nI_ltI, nI_clamp, inb_nI_iff, e_within, e_in32, e_asNumber, e_flag, decide_eq_true_eq, Sum.elim_inl, Sum.elim_inr, true_implies, not_true_eq_false, not_false_eq_true, false_implies, and_true, true_and, nI_nn, nn_nI, nn_nn, ↓reduceIte, if_true, if_false, Nat.le_refl, implies_true, Nat.lt_irrefl, and_self_left, win1, nI_le_s1, Nat.zero_le, up_s, up_o, Nat.zero_add, m64_0, m64_1, m64_2, m64_3, m64_7, m64_8, m64_9, m64_10, m64_13, m64_20, m64_27, m64_60, e2, e3, e4, e_min]
    refine ⟨fun e => by omega, fun _ => ⟨by omega, ?_⟩⟩
    rw [← grw_s]
    refine ⟨CB_13 (CB_12 h1), ?_, h3.tr ((FrB.up (by decide)).tr (FrB.up (by decide)))⟩
    refine HL_up (HL_up h2 (by decide) (ub_n (by decide)) (ub_n (by decide)) (fun c _ => ub_n (by decide))) (by decide) (ub_n (by decide)) (ub_n (by decide)) (fun c _ => ub_n (by decide))
  · rintro ⟨x, z⟩ ⟨hx, h1, h2, h3⟩
    dsimp only at hx h1 h2 h3
    subst hx
    have e2 : z 1 4 o 0 = nI (B 2 0) := by rw [h1.2.2.1, grw_f (by decide) (by decide)]
    simp (disch := omega) only [wp_some, wp_obd, wp_ob2, wp_bnd, wp_gd, wp_ite, wp_true, wp_ff, ↓l_n1, ↓l_n2, ↓l_n3, ↓l_n4, ↓l_n10, ↓l_n20, l_0, l_1, l_2, l_3, l_4, l_5, l_6, l_7, l_8, l_9, l_10, l_13, l_14, l_15, l_16, l_20, l_21, l_24, l_27, l_28, l_30, l_31, l_32, l_35, l_36, l_39, l_40, l_41, l_43, l_44, l_45, l_46, l_47, l_48, l_49, l_56, l_57, l_59, l_60, l_79, l_97, l_122, l_160, l_237, l_255, l_320, l_999, l_1000, nI_add, pk_mul, nI_eq, nI_leI, nI_ltI, nI_clamp, inb_nI_iff, e_within, e_in32, e_asNumber, e_flag, decide_eq_true_eq, Sum.elim_inl, Sum.elim_inr, true_implies, not_true_eq_false, not_false_eq_true, false_implies, and_true, true_and, nI_nn, nn_nI, nn_nn, ↓reduceIte, if_true, if_false, Nat.le_refl, implies_true, Nat.lt_irrefl, and_self_left, win1, nI_le_s1, Nat.zero_le, up_s, up_o, Nat.zero_add, m64_0, m64_1, m64_2, m64_3, m64_7, m64_8, m64_9, m64_10, m64_13, m64_20, m64_27, m64_60, e2]
    exact ⟨h1, h2, h3⟩
theorem c_claw (hC : CB0 h o B) (hW : WF S B) : f_X0_greatestClaw o h = some (nI (mx B (B 2 0))) := by
  have w2 := hW.2.2.1
  have w12 := hW.2.2.2.2.2.2.2.2.2.2.2.2
  apply Ok.eqv
  unfold f_X0_greatestClaw
  rw [wp_obd]
  refine (ok_up (K := fun r => r = nI (mx B (B 2 0))) (B 2 0) (fun j z => z.2 = nI j ∧ z.1 = nI (mx B j)) (by omega) ?_ ?_ _ ⟨rfl, rfl⟩).mono (fun a ha => wp_some.mpr ha)
  · rintro j ⟨v, x⟩ hj ⟨hx, hv⟩
    dsimp only at hx hv
    subst hx hv
    have e3 := (hC.2.2.2.2.2.2.2.2.2.2 j hj).1
    have b1 := (w12 j hj).1
    have b3 : mx B j ≤ 9 := mx_le (fun i hi => (w12 i (by omega)).1.2)
    simp (disch := omega) only [wp_some, wp_obd, wp_ob2, wp_bnd, wp_gd, wp_ite, wp_true, wp_ff, ↓l_n1, ↓l_n2, ↓l_n3, ↓l_n4, ↓l_n10, ↓l_n20, l_0, l_1, l_2, l_3, l_4, l_5, l_6, l_7, l_8, l_9, l_10, l_13, l_14, l_15, l_16, l_20, l_21, l_24, l_27, l_28, l_30, l_31, l_32, l_35, l_36, l_39, l_40, l_41, l_43, l_44, l_45, l_46, l_47, l_48, l_49, l_56, l_57, l_59, l_60, l_79, l_97, l_122, l_160, l_237, l_255, l_320, l_999, l_1000, nI_add, pk_mul, nI_eq, nI_leI, nI_ltI, nI_clamp, inb_nI_iff, e_within, e_in32, e_asNumber, e_flag, decide_eq_true_eq, Sum.elim_inl, Sum.elim_inr, true_implies, not_true_eq_false, not_false_eq_true, false_implies, and_true, true_and, nI_nn, nn_nI, nn_nn, ↓reduceIte, if_true, if_false, Nat.le_refl, implies_true, Nat.lt_irrefl, and_self_left, win1, nI_le_s1, Nat.zero_le, up_s, up_o, Nat.zero_add, m64_0, m64_1, m64_2, m64_3, m64_7, m64_8, m64_9, m64_10, m64_13, m64_20, m64_27, m64_60, hC.2.2.1, e3, e_max]
    exact ⟨fun e => by omega, fun _ => ⟨by omega, rfl⟩⟩
  · rintro ⟨v, x⟩ ⟨hx, hv⟩
    dsimp only at hx hv
    subst hx hv
    simp (disch := omega) only [wp_some, wp_obd, wp_ob2, wp_bnd, wp_gd, wp_ite, wp_true, wp_ff, ↓l_n1, ↓l_n2, ↓l_n3, ↓l_n4, ↓l_n10, ↓l_n20, l_0, l_1, l_2, l_3, l_4, l_5, l_6, l_7, l_8, l_9, l_10, l_13, l_14, l_15, l_16, l_20, l_21, l_24, l_27, l_28, l_30, l_31, l_32, l_35, l_36, l_39, l_40, l_41, l_43, l_44, l_45, l_46, l_47, l_48, l_49, l_56, l_57, l_59, l_60, l_79, l_97, l_122, l_160, l_237, l_255, l_320, l_999, l_1000, nI_add, pk_mul, nI_eq, nI_leI, nI_ltI, nI_clamp, inb_nI_iff, e_within, e_in32, e_asNumber, e_flag, decide_eq_true_eq, Sum.elim_inl, Sum.elim_inr, true_implies, not_true_eq_false, not_false_eq_true, false_implies, and_true, true_and, nI_nn, nn_nI, nn_nn, ↓reduceIte, if_true, if_false, Nat.le_refl, implies_true, Nat.lt_irrefl, and_self_left, win1, nI_le_s1, Nat.zero_le, up_s, up_o, Nat.zero_add, m64_0, m64_1, m64_2, m64_3, m64_7, m64_8, m64_9, m64_10, m64_13, m64_20, m64_27, m64_60, hC.2.2.1]
theorem SN_grw {s s' : Nat → Int32} {w n : Nat} (h : SN s (grw B w n)) (hn : B 1 0 ≤ 6) (hm : B 2 0 ≤ 4) (hi : n < B 2 0) (e1 : s' (27 + n) = nI (min 9 (B 12 n + w))) (e2 : s' (31 + n) = nI (min 9 (B 13 n + w))) (ho : ∀ m, m ≠ 27 + n → m ≠ 31 + n → s' m = s m) : SN s' (grw B w (n + 1)) := by
  rw [← grw_s]
  have a : SN (fun m => if m = 27 + n then s' m else s m) (ub (grw B w n) 12 n (min 9 (B 12 n + w))) := by
    refine SN_12 h ?_ ?_ (by omega) ?_ (fun m hm => ?_)
    · rw [grw_f (by decide) (by decide)]; exact hn
    · rw [grw_f (by decide) (by decide)]; exact hm
    · simp [e1]
    · simp [hm]
  refine SN_13 a ?_ ?_ (by omega) ?_ (fun m hm => ?_)
  · rw [ub_n (by decide), grw_f (by decide) (by decide)]; exact hn
  · rw [ub_n (by decide), grw_f (by decide) (by decide)]; exact hm
  · exact e2
  · by_cases e : m = 27 + n
    · simp [e]
    · simp [e, ho m e hm]
theorem o_grow (hR : RI h) : Ok (f_X9_grow  h) (fun q => Ok (f_X10_grow  q.2) (fun r => q.1 = r.1 ∧ RI r.2)) := by
  have hR0 := hR
  obtain ⟨B, T, hK, hN, hW, hRs⟩ := hR
  obtain ⟨hM0, hM1, hM2, hM3, hM4, hM5, hM6, hM7, hM8, hM9, hM10⟩ := hK.1
  obtain ⟨⟨⟨s0, s1, s2, s3, s4, s5, s6⟩, n0, n2⟩, hT⟩ := id hN
  have w0 := hW.1.1
  have w1 := hW.1.2.1
  have w2 := hW.1.2.2.1
  have w12 := hW.1.2.2.2.2.2.2.2.2.2.2.2.2
  by_cases h2 : B 2 0 = 0
  · unfold f_X9_grow f_X10_grow
    simp (disch := omega) only [wp_some, wp_obd, wp_ob2, wp_bnd, wp_gd, wp_ite, wp_true, wp_ff, ↓l_n1, ↓l_n2, ↓l_n3, ↓l_n4, ↓l_n10, ↓l_n20, l_0, l_1, l_2, l_3, l_4, l_5, l_6, l_7, l_8, l_9, l_10, l_13, l_14, l_15, l_16, l_20, l_21, l_24, l_27, l_28, l_30, l_31, l_32, l_35, l_36, l_39, l_40, l_41, l_43, l_44, l_45, l_46, l_47, l_48, l_49, l_56, l_57, l_59, l_60, l_79, l_97, l_122, l_160, l_237, l_255, l_320, l_999, l_1000, nI_add, pk_mul, nI_eq, nI_leI, nI_ltI, nI_clamp, inb_nI_iff, e_within, e_in32, e_asNumber, e_flag, decide_eq_true_eq, Sum.elim_inl, Sum.elim_inr, true_implies, not_true_eq_false, not_false_eq_true, false_implies, and_true, true_and, nI_nn, nn_nI, nn_nn, ↓reduceIte, if_true, if_false, Nat.le_refl, implies_true, Nat.lt_irrefl, and_self_left, win1, nI_le_s1, Nat.zero_le, up_s, up_o, Nat.zero_add, m64_0, m64_1, m64_2, m64_3, m64_7, m64_8, m64_9, m64_10, m64_13, m64_20, m64_27, m64_60, hM2, n2, h2]
    exact hR0
  · unfold f_X9_grow
    simp (disch := omega) only [wp_some, wp_obd, wp_ob2, wp_bnd, wp_gd, wp_ite, wp_true, wp_ff, ↓l_n1, ↓l_n2, ↓l_n3, ↓l_n4, ↓l_n10, ↓l_n20, l_0, l_1, l_2, l_3, l_4, l_5, l_6, l_7, l_8, l_9, l_10, l_13, l_14, l_15, l_16, l_20, l_21, l_24, l_27, l_28, l_30, l_31, l_32, l_35, l_36, l_39, l_40, l_41, l_43, l_44, l_45, l_46, l_47, l_48, l_49, l_56, l_57, l_59, l_60, l_79, l_97, l_122, l_160, l_237, l_255, l_320, l_999, l_1000, nI_add, pk_mul, nI_eq, nI_leI, nI_ltI, nI_clamp, inb_nI_iff, e_within, e_in32, e_asNumber, e_flag, decide_eq_true_eq, Sum.elim_inl, Sum.elim_inr, true_implies, not_true_eq_false, not_false_eq_true, false_implies, and_true, true_and, nI_nn, nn_nI, nn_nn, ↓reduceIte, if_true, if_false, Nat.le_refl, implies_true, Nat.lt_irrefl, and_self_left, win1, nI_le_s1, Nat.zero_le, up_s, up_o, Nat.zero_add, m64_0, m64_1, m64_2, m64_3, m64_7, m64_8, m64_9, m64_10, m64_13, m64_20, m64_27, m64_60, hM2, n2, h2]
    refine (c_grow hK.1 hK.2.1 hW.1 (w := 1) (by omega)).mono ?_
    rintro h1 ⟨a1, a2, a3⟩
    have hWg : WN (grw B 1 (B 2 0)) T := ⟨WF_grw hW.1, NO_grw hW.2.1, hW.2.2.1, fun i hi => by rw [grw_f (by decide) (by decide)]; exact hW.2.2.2 i hi⟩
    have eg : grw B 1 (B 2 0) 2 0 = B 2 0 := grw_f (by decide) (by decide)
    have ecl := c_claw a1 hWg.1
    rw [eg] at ecl
    have hN1 : RN h1 B T := RN_lo hN hW (fun k j o i hh => a3 _ _ _ _ (by omega))
    have f2 : h1 24 3 0 0 = nI (B 2 0) := hN1.1.2.2
    unfold f_X10_grow
    simp (disch := omega) only [wp_some, wp_obd, wp_ob2, wp_bnd, wp_gd, wp_ite, wp_true, wp_ff, ↓l_n1, ↓l_n2, ↓l_n3, ↓l_n4, ↓l_n10, ↓l_n20, l_0, l_1, l_2, l_3, l_4, l_5, l_6, l_7, l_8, l_9, l_10, l_13, l_14, l_15, l_16, l_20, l_21, l_24, l_27, l_28, l_30, l_31, l_32, l_35, l_36, l_39, l_40, l_41, l_43, l_44, l_45, l_46, l_47, l_48, l_49, l_56, l_57, l_59, l_60, l_79, l_97, l_122, l_160, l_237, l_255, l_320, l_999, l_1000, nI_add, pk_mul, nI_eq, nI_leI, nI_ltI, nI_clamp, inb_nI_iff, e_within, e_in32, e_asNumber, e_flag, decide_eq_true_eq, Sum.elim_inl, Sum.elim_inr, true_implies, not_true_eq_false, not_false_eq_true, false_implies, and_true, true_and, nI_nn, nn_nI, nn_nn, ↓reduceIte, if_true, if_false, Nat.le_refl, implies_true, Nat.lt_irrefl, and_self_left, win1, nI_le_s1, Nat.zero_le, up_s, up_o, Nat.zero_add, m64_0, m64_1, m64_2, m64_3, m64_7, m64_8, m64_9, m64_10, m64_13, m64_20, m64_27, m64_60, ecl, f2, h2]
    refine (ok_up (K := fun e => e.1 = nI (mx (grw B 1 (B 2 0)) (B 2 0)) ∧ SN (e.2 25 0 0) (grw B 1 (B 2 0)) ∧ FrS h1 e.2) (B 2 0) (fun j z => z.2.1 = nI j ∧ z.1 = nI (mx (grw B 1 (B 2 0)) j) ∧ SN (z.2.2 25 0 0) (grw B 1 j) ∧ FrS h1 z.2.2) (by omega) ?_ ?_ _ ⟨rfl, rfl, by rw [grw_0]; exact hN1.1.1, FrS.rf⟩).mono ?_
    · rintro j ⟨v, x, z⟩ hj ⟨hx, hv, g1, g2⟩
      dsimp only at hx hv g1 g2
      subst hx hv
      have hk : j < grw B 1 j 2 0 := by rw [grw_f (by decide) (by decide)]; exact hj
      have e2 : z 24 3 0 0 = nI (B 2 0) := by rw [g2 _ _ _ _ (by omega)]; exact f2
      have e3 : z 25 0 0 (27 + j) = nI (B 12 j) := by rw [(g1.2.2.2.1 j hk).1, grw_12 (Nat.le_refl _)]
      have e4 : z 25 0 0 (31 + j) = nI (B 13 j) := by rw [(g1.2.2.2.1 j hk).2.1, grw_13 (Nat.le_refl _)]
      have b1 := (w12 j hj).1
      have b2 := (w12 j hj).2.1
      have b3 : mx (grw B 1 (B 2 0)) j ≤ 9 := mx_le (fun i hi => ((WF_grw hW.1).2.2.2.2.2.2.2.2.2.2.2.2 i (by rw [eg]; omega)).1.2)
      have eG : grw B 1 (B 2 0) 12 j = min 9 (B 12 j + 1) := by unfold grw; rw [if_pos (by omega)]
      have fin : ∀ a b : Nat, a = min 9 (B 12 j + 1) → b = min 9 (B 13 j + 1) → SN (up (up z 25 0 0 (27 + j) (nI a)) 25 0 0 (31 + j) (nI b) 25 0 0) (grw B 1 (j + 1)) ∧ FrS h1 (up (up z 25 0 0 (27 + j) (nI a)) 25 0 0 (31 + j) (nI b)) := by
        rintro a b rfl rfl
        exact ⟨SN_grw g1 w1 w2 hj (by (try simp (disch := omega) only [up_s, up_o, and_self])) (by (try simp (disch := omega) only [up_s, up_o, and_self])) (fun m p q => by (try simp (disch := omega) only [up_s, up_o, and_self])), g2.tr ((FrS.up (by omega)).tr (FrS.up (by omega)))⟩
      simp (disch := omega) only [wp_some, wp_obd, wp_ob2, wp_bnd, wp_gd, wp_ite, wp_true, wp_ff, ↓l_n1, ↓l_n2, ↓l_n3, ↓l_n4, ↓l_n10, ↓l_n20, l_0, l_1, l_2, l_3, l_4, l_5, l_6, l_7, l_8, l_9, l_10, l_13, l_14, l_15, l_16, l_20, l_21, l_24, l_27, l_28, l_30, l_31, l_32, l_35, l_36, l_39, l_40, l_41, l_43, l_44, l_45, l_46, l_47, l_48, l_49, l_56, l_57, l_59, l_60, l_79, l_97, l_122, l_160, l_237, l_255, l_320, l_999, l_1000, nI_add, pk_mul, nI_eq, nI_leI, nI_ltI, nI_clamp, inb_nI_iff, e_within, e_in32, e_asNumber, e_flag, decide_eq_true_eq, Sum.elim_inl, Sum.elim_inr, true_implies, not_true_eq_false, not_false_eq_true, false_implies, and_true, true_and, nI_nn, nn_nI, nn_nn, ↓reduceIte, if_true, if_false, Nat.le_refl, implies_true, Nat.lt_irrefl, and_self_left, win1, nI_le_s1, Nat.zero_le, up_s, up_o, Nat.zero_add, m64_0, m64_1, m64_2, m64_3, m64_7, m64_8, m64_9, m64_10, m64_13, m64_20, m64_27, m64_60, e2, e3, e4, b2i_b]
      refine ⟨fun e => by omega, fun _ => ?_⟩
      repeat' (with_reducible (first | apply And.intro | intro _))
      all_goals first | omega | (refine (fin _ _ ?_ ?_).1 <;> omega) | (refine (fin _ _ ?_ ?_).2 <;> omega) | (show _ = nI (max (mx (grw B 1 (B 2 0)) j) (grw B 1 (B 2 0) 12 j)); rw [eG]; congr 1; omega)
    · rintro ⟨v, x, z⟩ ⟨hx, hv, g1, g2⟩
      dsimp only at hx hv g1 g2
      subst hx hv
      have e2 : z 24 3 0 0 = nI (B 2 0) := by rw [g2 _ _ _ _ (by omega)]; exact f2
      simp (disch := omega) only [wp_some, wp_obd, wp_ob2, wp_bnd, wp_gd, wp_ite, wp_true, wp_ff, ↓l_n1, ↓l_n2, ↓l_n3, ↓l_n4, ↓l_n10, ↓l_n20, l_0, l_1, l_2, l_3, l_4, l_5, l_6, l_7, l_8, l_9, l_10, l_13, l_14, l_15, l_16, l_20, l_21, l_24, l_27, l_28, l_30, l_31, l_32, l_35, l_36, l_39, l_40, l_41, l_43, l_44, l_45, l_46, l_47, l_48, l_49, l_56, l_57, l_59, l_60, l_79, l_97, l_122, l_160, l_237, l_255, l_320, l_999, l_1000, nI_add, pk_mul, nI_eq, nI_leI, nI_ltI, nI_clamp, inb_nI_iff, e_within, e_in32, e_asNumber, e_flag, decide_eq_true_eq, Sum.elim_inl, Sum.elim_inr, true_implies, not_true_eq_false, not_false_eq_true, false_implies, and_true, true_and, nI_nn, nn_nI, nn_nn, ↓reduceIte, if_true, if_false, Nat.le_refl, implies_true, Nat.lt_irrefl, and_self_left, win1, nI_le_s1, Nat.zero_le, up_s, up_o, Nat.zero_add, m64_0, m64_1, m64_2, m64_3, m64_7, m64_8, m64_9, m64_10, m64_13, m64_20, m64_27, m64_60, e2]
      exact ⟨g1, g2⟩
    rintro ⟨v, z⟩ ⟨b1, b2, b3⟩
    dsimp only at b1 b2 b3
    simp (disch := omega) only [wp_some, wp_obd, wp_ob2, wp_bnd, wp_gd, wp_ite, wp_true, wp_ff, ↓l_n1, ↓l_n2, ↓l_n3, ↓l_n4, ↓l_n10, ↓l_n20, l_0, l_1, l_2, l_3, l_4, l_5, l_6, l_7, l_8, l_9, l_10, l_13, l_14, l_15, l_16, l_20, l_21, l_24, l_27, l_28, l_30, l_31, l_32, l_35, l_36, l_39, l_40, l_41, l_43, l_44, l_45, l_46, l_47, l_48, l_49, l_56, l_57, l_59, l_60, l_79, l_97, l_122, l_160, l_237, l_255, l_320, l_999, l_1000, nI_add, pk_mul, nI_eq, nI_leI, nI_ltI, nI_clamp, inb_nI_iff, e_within, e_in32, e_asNumber, e_flag, decide_eq_true_eq, Sum.elim_inl, Sum.elim_inr, true_implies, not_true_eq_false, not_false_eq_true, false_implies, and_true, true_and, nI_nn, nn_nI, nn_nn, ↓reduceIte, if_true, if_false, Nat.le_refl, implies_true, Nat.lt_irrefl, and_self_left, win1, nI_le_s1, Nat.zero_le, up_s, up_o, Nat.zero_add, m64_0, m64_1, m64_2, m64_3, m64_7, m64_8, m64_9, m64_10, m64_13, m64_20, m64_27, m64_60, b1]
    refine ⟨grw B 1 (B 2 0), T, ⟨CB0_fr a1 (fun k' j i p q => b3 _ _ _ _ (by omega)), HL_fr a2 (fun k' j i p q => b3 _ _ _ _ (by omega)), CSg_fr hK.2.2 (fun k' j i p q => (b3 _ _ _ _ (by omega)).trans (a3 _ _ _ _ (by omega)))⟩, ⟨⟨b2, ?_, ?_⟩, TN_fr hW.2.2.1 hN1.2 (fun i p q => b3 _ _ _ _ (by omega))⟩, hWg, RST_fr hRs ((a3.o.fr (Or.inl rfl)).tr b3.fr)⟩
    · rw [b3 _ _ _ _ (by omega), grw_f (by decide) (by decide)]; exact hN1.1.2.1
    · rw [b3 _ _ _ _ (by omega), grw_f (by decide) (by decide)]; exact hN1.1.2.2
theorem c_seen {a b : Nat} (hab : a ≠ b) (hS : CSg h a T) (hT : T 0 0 ≤ 8) (h4 : ∀ i, i < T 0 0 → T 4 i ≤ 1) : Ok (f_X6_copyFrom b a h) (fun h' => CSg h' b T ∧ ∀ k j o i, (o ≠ b ∨ k < 8 ∨ 12 < k) → h' k j o i = h k j o i) := by
  obtain ⟨c1, c2⟩ := hS
  unfold f_X6_copyFrom
  rw [wp_bnd, wp_obd]
  refine (ok_up (K := fun h' => CSg h' b T ∧ ∀ k j o i, (o ≠ b ∨ k < 8 ∨ 12 < k) → h' k j o i = h k j o i) (T 0 0) (fun j z => z.1 = nI j ∧ (z.2 8 0 b 0 = nI (T 0 0) ∧ ∀ i, i < j → z.2 9 0 b i = nI (T 1 i) ∧ z.2 10 0 b i = nI (T 2 i) ∧ z.2 11 0 b i = nI (T 3 i) ∧ z.2 12 0 b i = nI (T 4 i)) ∧ ∀ k j o i, (o ≠ b ∨ k < 8 ∨ 12 < k) → z.2 k j o i = h k j o i) (by omega) ?_ ?_ _ ⟨rfl, ⟨by (try simp (disch := omega) only [up_s, up_o, and_self]); exact c1, fun i hi => by omega⟩, fun k j o i hh => by (try simp (disch := omega) only [up_s, up_o, and_self])⟩).mono (fun a ha => wp_some.mpr ha)
  · rintro j ⟨x, z⟩ hj ⟨hx, ⟨h1, h2⟩, h3⟩
    dsimp only at hx h1 h2 h3
    subst hx
    have e1 : z 9 0 a j = nI (T 1 j) := (h3 _ _ _ _ (by omega)).trans (c2 j hj).1
    have e2 : z 10 0 a j = nI (T 2 j) := (h3 _ _ _ _ (by omega)).trans (c2 j hj).2.1
    have e3 : z 11 0 a j = nI (T 3 j) := (h3 _ _ _ _ (by omega)).trans (c2 j hj).2.2.1
    have e4 : z 12 0 a j = nI (T 4 j) := (h3 _ _ _ _ (by omega)).trans (c2 j hj).2.2.2
    have b4 := h4 j hj
    simp (disch := omega) only [wp_some, wp_obd, wp_ob2, wp_bnd, wp_gd, wp_ite, wp_true, wp_ff, ↓l_n1, ↓l_n2, ↓l_n3, ↓l_n4, ↓l_n10, ↓l_n20, l_0, l_1, l_2, l_3, l_4, l_5, l_6, l_7, l_8, l_9, l_10, l_13, l_14, l_15, l_16, l_20, l_21, l_24, l_27, l_28, l_30, l_31, l_32, l_35, l_36, l_39, l_40, l_41, l_43, l_44, l_45, l_46, l_47, l_48, l_49, l_56, l_57, l_59, l_60, l_79, l_97, l_122, l_160, l_237, l_255, l_320, l_999, l_1000, nI_add, pk_mul, nI_eq, nI_leI, nI_ltI, nI_clamp, inb_nI_iff, e_within, e_in32, e_asNumber, e_flag, decide_eq_true_eq, Sum.elim_inl, Sum.elim_inr, true_implies, not_true_eq_false, not_false_eq_true, false_implies, and_true, true_and, nI_nn, nn_nI, nn_nn, ↓reduceIte, if_true, if_false, Nat.le_refl, implies_true, Nat.lt_irrefl, and_self_left, win1, nI_le_s1, Nat.zero_le, up_s, up_o, Nat.zero_add, m64_0, m64_1, m64_2, m64_3, m64_7, m64_8, m64_9, m64_10, m64_13, m64_20, m64_27, m64_60, h1, e1, e2, e3, e4, vpn_n]
    refine ⟨fun e => by omega, fun _ => ⟨by omega, fun i hi => ?_, fun k j' o i hh => ?_⟩⟩
    · by_cases e : i = j
      · subst e; (try simp (disch := omega) only [up_s, up_o, and_self])
      · (try simp (disch := omega) only [up_s, up_o, and_self]); exact h2 i (by omega)
    · (try simp (disch := omega) only [up_s, up_o, and_self]); exact h3 k j' o i hh
  · rintro ⟨x, z⟩ ⟨hx, ⟨h1, h2⟩, h3⟩
    dsimp only at hx h1 h2 h3
    subst hx
    simp (disch := omega) only [wp_some, wp_obd, wp_ob2, wp_bnd, wp_gd, wp_ite, wp_true, wp_ff, ↓l_n1, ↓l_n2, ↓l_n3, ↓l_n4, ↓l_n10, ↓l_n20, l_0, l_1, l_2, l_3, l_4, l_5, l_6, l_7, l_8, l_9, l_10, l_13, l_14, l_15, l_16, l_20, l_21, l_24, l_27, l_28, l_30, l_31, l_32, l_35, l_36, l_39, l_40, l_41, l_43, l_44, l_45, l_46, l_47, l_48, l_49, l_56, l_57, l_59, l_60, l_79, l_97, l_122, l_160, l_237, l_255, l_320, l_999, l_1000, nI_add, pk_mul, nI_eq, nI_leI, nI_ltI, nI_clamp, inb_nI_iff, e_within, e_in32, e_asNumber, e_flag, decide_eq_true_eq, Sum.elim_inl, Sum.elim_inr, true_implies, not_true_eq_false, not_false_eq_true, false_implies, and_true, true_and, nI_nn, nn_nI, nn_nn, ↓reduceIte, if_true, if_false, Nat.le_refl, implies_true, Nat.lt_irrefl, and_self_left, win1, nI_le_s1, Nat.zero_le, up_s, up_o, Nat.zero_add, m64_0, m64_1, m64_2, m64_3, m64_7, m64_8, m64_9, m64_10, m64_13, m64_20, m64_27, m64_60, h1]
    exact ⟨⟨h1, h2⟩, h3⟩
theorem m_copies {p q : Nat} (hp : p + 79 ≤ 237) (hq : q + 79 ≤ 237) (hd : p + 79 ≤ q ∨ q + 79 ≤ p) : Ok (f_X10_copies (nI p) (nI q) h) (fun h' => (∀ i, i < 79 → h' 25 0 0 (p + i) = h 25 0 0 (q + i)) ∧ ∀ k j o i, ¬ (k = 25 ∧ p ≤ i ∧ i < p + 79) → h' k j o i = h k j o i) := by
  unfold f_X10_copies
  rw [wp_obd]
  refine (ok_up (K := fun h' => (∀ i, i < 79 → h' 25 0 0 (p + i) = h 25 0 0 (q + i)) ∧ ∀ k j o i, ¬ (k = 25 ∧ p ≤ i ∧ i < p + 79) → h' k j o i = h k j o i) 79 (fun j z => z.1 = nI j ∧ (∀ i, i < j → z.2 25 0 0 (p + i) = h 25 0 0 (q + i)) ∧ ∀ k j o i, ¬ (k = 25 ∧ p ≤ i ∧ i < p + 79) → z.2 k j o i = h k j o i) (by omega) ?_ ?_ _ ⟨rfl, fun i hi => by omega, fun _ _ _ _ _ => rfl⟩).mono (fun a ha => wp_some.mpr ha)
  · rintro j ⟨x, z⟩ hj ⟨hx, h1, h2⟩
    dsimp only at hx h1 h2
    subst hx
    have e1 : z 25 0 0 (q + j) = h 25 0 0 (q + j) := h2 _ _ _ _ (by omega)
    simp (disch := omega) only [wp_some, wp_obd, wp_ob2, wp_bnd, wp_gd, wp_ite, wp_true, wp_ff, ↓l_n1, ↓l_n2, ↓l_n3, ↓l_n4, ↓l_n10, ↓l_n20, l_0, l_1, l_2, l_3, l_4, l_5, l_6, l_7, l_8, l_9, l_10, l_13, l_14, l_15, l_16, l_20, l_21, l_24, l_27, l_28, l_30, l_31, l_32, l_35, l_36, l_39, l_40, l_41, l_43, l_44, l_45, l_46, l_47, l_48, l_49, l_56, l_57, l_59, l_60, l_79, l_97, l_122, l_160, l_237, l_255, l_320, l_999, l_1000, nI_add, pk_mul, nI_eq, nI_leI, nI_ltI, nI_clamp, inb_nI_iff, e_within, e_in32, e_asNumber, e_flag, decide_eq_true_eq, Sum.elim_inl, Sum.elim_inr, true_implies, not_true_eq_false, not_false_eq_true, false_implies, and_true, true_and, nI_nn, nn_nI, nn_nn, ↓reduceIte, if_true, if_false, Nat.le_refl, implies_true, Nat.lt_irrefl, and_self_left, win1, nI_le_s1, Nat.zero_le, up_s, up_o, Nat.zero_add, m64_0, m64_1, m64_2, m64_3, m64_7, m64_8, m64_9, m64_10, m64_13, m64_20, m64_27, m64_60, e1]
    refine ⟨fun e => by omega, fun _ => ⟨by omega, by omega, fun i hi => ?_, fun k j' o i hh => ?_⟩⟩
    · by_cases e : i = j
      · subst e; (try simp (disch := omega) only [up_s, up_o, and_self])
      · (try simp (disch := omega) only [up_s, up_o, and_self]); exact h1 i (by omega)
    · (try simp (disch := omega) only [up_s, up_o, and_self]); exact h2 k j' o i hh
  · rintro ⟨x, z⟩ ⟨hx, h1, h2⟩
    dsimp only at hx h1 h2
    subst hx
    simp (disch := omega) only [wp_some, wp_obd, wp_ob2, wp_bnd, wp_gd, wp_ite, wp_true, wp_ff, ↓l_n1, ↓l_n2, ↓l_n3, ↓l_n4, ↓l_n10, ↓l_n20, l_0, l_1, l_2, l_3, l_4, l_5, l_6, l_7, l_8, l_9, l_10, l_13, l_14, l_15, l_16, l_20, l_21, l_24, l_27, l_28, l_30, l_31, l_32, l_35, l_36, l_39, l_40, l_41, l_43, l_44, l_45, l_46, l_47, l_48, l_49, l_56, l_57, l_59, l_60, l_79, l_97, l_122, l_160, l_237, l_255, l_320, l_999, l_1000, nI_add, pk_mul, nI_eq, nI_leI, nI_ltI, nI_clamp, inb_nI_iff, e_within, e_in32, e_asNumber, e_flag, decide_eq_true_eq, Sum.elim_inl, Sum.elim_inr, true_implies, not_true_eq_false, not_false_eq_true, false_implies, and_true, true_and, nI_nn, nn_nI, nn_nn, ↓reduceIte, if_true, if_false, Nat.le_refl, implies_true, Nat.lt_irrefl, and_self_left, win1, nI_le_s1, Nat.zero_le, up_s, up_o, Nat.zero_add, m64_0, m64_1, m64_2, m64_3, m64_7, m64_8, m64_9, m64_10, m64_13, m64_20, m64_27, m64_60]
    exact ⟨h1, h2⟩
theorem nar1 : vp_nar .boolean (nI 1) = nI 1 := vpn_n (by decide)
theorem l79 {k : Nat} : nI 79 * nI k = nI (79 * k) := pk_mul 79 k
theorem o_keep (k : Int32) (hR : RI h) : Ok (f_X9_keep k h) (fun q => Ok (f_X10_keep k q.2) (fun r => q.1 = r.1 ∧ RI r.2)) := by
  have hR0 := hR
  obtain ⟨B, T, hK, hN, hW, hRs⟩ := hR
  obtain ⟨hM0, hM1, hM2, hM3, hM4, hM5, hM6, hM7, hM8, hM9, hM10⟩ := hK.1
  obtain ⟨⟨⟨s0, s1, s2, s3, s4, s5, s6⟩, n0, n2⟩, hT⟩ := id hN
  have w0 := hW.1.1
  have w1 := hW.1.2.1
  have w2 := hW.1.2.2.1
  obtain ⟨i1, i2, i3, i4⟩ := id hRs
  by_cases hk : nI 0 ≤ k ∧ k ≤ nI 1
  · obtain ⟨k', -, hk', rfl⟩ := rng (by decide) (by decide) hk
    obtain ⟨b, y1, y2, -⟩ := i1 k' (by omega)
    unfold f_X9_keep f_X9_isImage f_X3_take
    simp (disch := omega) only [wp_some, wp_obd, wp_ob2, wp_bnd, wp_gd, wp_ite, wp_true, wp_ff, ↓l_n1, ↓l_n2, ↓l_n3, ↓l_n4, ↓l_n10, ↓l_n20, l_0, l_1, l_2, l_3, l_4, l_5, l_6, l_7, l_8, l_9, l_10, l_13, l_14, l_15, l_16, l_20, l_21, l_24, l_27, l_28, l_30, l_31, l_32, l_35, l_36, l_39, l_40, l_41, l_43, l_44, l_45, l_46, l_47, l_48, l_49, l_56, l_57, l_59, l_60, l_79, l_97, l_122, l_160, l_237, l_255, l_320, l_999, l_1000, nI_add, pk_mul, nI_eq, nI_leI, nI_ltI, nI_clamp, inb_nI_iff, e_within, e_in32, e_asNumber, e_flag, decide_eq_true_eq, Sum.elim_inl, Sum.elim_inr, true_implies, not_true_eq_false, not_false_eq_true, false_implies, and_true, true_and, nI_nn, nn_nI, nn_nn, ↓reduceIte, if_true, if_false, Nat.le_refl, implies_true, Nat.lt_irrefl, and_self_left, win1, nI_le_s1, Nat.zero_le, up_s, up_o, Nat.zero_add, m64_0, m64_1, m64_2, m64_3, m64_7, m64_8, m64_9, m64_10, m64_13, m64_20, m64_27, m64_60, hk', y1, e_i2b]
    refine ⟨by omega, ?_⟩
    have q1 : CB0 (up h 20 0 k' 0 (nI 1)) 0 B := CB0_fr hK.1 (fun a b c d e => by (try simp (disch := omega) only [up_s, up_o, and_self]))
    have q2 : HL (up h 20 0 k' 0 (nI 1)) 0 B := HL_fr hK.2.1 (fun a b c d e => by (try simp (disch := omega) only [up_s, up_o, and_self]))
    have q3 : CSg (up h 20 0 k' 0 (nI 1)) 0 T := CSg_fr hK.2.2 (fun a b c d e => by (try simp (disch := omega) only [up_s, up_o, and_self]))
    refine (c_copy (a := 0) (b := k' + 3) (by omega) q1 q2 hW.1 (by rw [hW.2.1.1]; exact Nat.le_refl _)).mono ?_
    rintro h1 ⟨a1, a2, a3⟩
    refine (c_seen (a := 0) (b := k' + 1) (by omega) (CSg_fr q3 (fun a b c d e => a3 _ _ _ _ (by omega))) hW.2.2.1 (fun i hi => (hW.2.2.2 i hi).2.2.2)).mono ?_
    rintro h2 ⟨b1, b2⟩
    have y2' : h2 26 0 0 k' = b2i b := by rw [b2 _ _ _ _ (by omega), a3 _ _ _ _ (by omega), up_o (by omega)]; exact y2
    unfold f_X10_keep
    simp (disch := omega) only [wp_some, wp_obd, wp_ob2, wp_bnd, wp_gd, wp_ite, wp_true, wp_ff, ↓l_n1, ↓l_n2, ↓l_n3, ↓l_n4, ↓l_n10, ↓l_n20, l_0, l_1, l_2, l_3, l_4, l_5, l_6, l_7, l_8, l_9, l_10, l_13, l_14, l_15, l_16, l_20, l_21, l_24, l_27, l_28, l_30, l_31, l_32, l_35, l_36, l_39, l_40, l_41, l_43, l_44, l_45, l_46, l_47, l_48, l_49, l_56, l_57, l_59, l_60, l_79, l_97, l_122, l_160, l_237, l_255, l_320, l_999, l_1000, nI_add, pk_mul, nI_eq, nI_leI, nI_ltI, nI_clamp, inb_nI_iff, e_within, e_in32, e_asNumber, e_flag, decide_eq_true_eq, Sum.elim_inl, Sum.elim_inr, true_implies, not_true_eq_false, not_false_eq_true, false_implies, and_true, true_and, nI_nn, nn_nI, nn_nn, ↓reduceIte, if_true, if_false, Nat.le_refl, implies_true, Nat.lt_irrefl, and_self_left, win1, nI_le_s1, Nat.zero_le, up_s, up_o, Nat.zero_add, m64_0, m64_1, m64_2, m64_3, m64_7, m64_8, m64_9, m64_10, m64_13, m64_20, m64_27, m64_60, hk', y2', e_i2b, nar1, l79]
    refine ⟨by omega, ?_⟩
    refine (m_copies (p := 79 * (k' + 1)) (q := 0) (by omega) (by omega) (by omega)).mono ?_
    rintro h3 ⟨c1, c2⟩
    refine ⟨B, T, ⟨?_, ?_, ?_⟩, ⟨⟨SN_fr w1 w2 hN.1.1 (fun i hi => ?_), ?_, ?_⟩, TN_fr hW.2.2.1 hN.2 (fun i p q => ?_)⟩, hW, fun k hk => ?_, fun k hk => SH_fr hk (i2 k hk) (fun p j o i hh => ?_), TP_fr i3 (fun p j o i hh => ?_), TR_fr i4 (fun p j o i hh => ?_)⟩
    · exact CB0_fr q1 (fun p j i u v => by rw [c2 _ _ _ _ (by omega), up_o (by omega), b2 _ _ _ _ (by omega), a3 _ _ _ _ (by omega)])
    · exact HL_fr q2 (fun p j i u v => by rw [c2 _ _ _ _ (by omega), up_o (by omega), b2 _ _ _ _ (by omega), a3 _ _ _ _ (by omega)])
    · exact CSg_fr q3 (fun p j i u v => by rw [c2 _ _ _ _ (by omega), up_o (by omega), b2 _ _ _ _ (by omega), a3 _ _ _ _ (by omega)])
    · rw [c2 _ _ _ _ (by omega), up_o (by omega), b2 _ _ _ _ (by omega), a3 _ _ _ _ (by omega), up_o (by omega)]
    · rw [c2 _ _ _ _ (by omega), up_o (by omega), b2 _ _ _ _ (by omega), a3 _ _ _ _ (by omega), up_o (by omega)]; exact n0
    · rw [c2 _ _ _ _ (by omega), up_o (by omega), b2 _ _ _ _ (by omega), a3 _ _ _ _ (by omega), up_o (by omega)]; exact n2
    · rw [c2 _ _ _ _ (by omega), up_o (by omega), b2 _ _ _ _ (by omega), a3 _ _ _ _ (by omega), up_o (by omega)]
    · by_cases e : k = k'
      · subst e
        refine ⟨true, ?_, ?_, fun _ => ⟨B, T, ?_, ?_, ?_, SN_fr w1 w2 hN.1.1 (fun i hi => ?_), TN_fr hW.2.2.1 hN.2 (fun i p q => ?_), hW, ?_, ?_⟩⟩
        · rw [c2 _ _ _ _ (by omega), up_o (by omega), b2 _ _ _ _ (by omega), a3 _ _ _ _ (by omega), up_s]; rfl
        · rw [c2 _ _ _ _ (by omega), up_s]; rfl
        · exact CB0_fr a1 (fun p j i u v => by rw [c2 _ _ _ _ (by omega), up_o (by omega), b2 _ _ _ _ (by omega)])
        · exact HL_fr a2 (fun p j i u v => by rw [c2 _ _ _ _ (by omega), up_o (by omega), b2 _ _ _ _ (by omega)])
        · exact CSg_fr b1 (fun p j i u v => by rw [c2 _ _ _ _ (by omega), up_o (by omega)])
        · show h3 25 0 0 (79 * (k + 1) + i) = _
          rw [c1 i (by omega), Nat.zero_add, up_o (by omega), b2 _ _ _ _ (by omega), a3 _ _ _ _ (by omega), up_o (by omega)]
        · show h3 25 0 0 (79 * (k + 1) + i) = _
          rw [c1 i (by omega), Nat.zero_add, up_o (by omega), b2 _ _ _ _ (by omega), a3 _ _ _ _ (by omega), up_o (by omega)]
        · rw [c2 _ _ _ _ (by omega), up_o (by omega), b2 _ _ _ _ (by omega), a3 _ _ _ _ (by omega), up_o (by omega)]; exact n0
        · rw [c2 _ _ _ _ (by omega), up_o (by omega), b2 _ _ _ _ (by omega), a3 _ _ _ _ (by omega), up_o (by omega)]; exact n2
      · exact IM_fr hk (i1 k hk) (fun p j o i hh => by rw [c2 _ _ _ _ (by omega), up_o (by omega), b2 _ _ _ _ (by omega), a3 _ _ _ _ (by omega), up_o (by omega)])
    · rw [c2 _ _ _ _ (by omega), up_o (by omega), b2 _ _ _ _ (by omega), a3 _ _ _ _ (by omega), up_o (by omega)]
    · rw [c2 _ _ _ _ (by omega), up_o (by omega), b2 _ _ _ _ (by omega), a3 _ _ _ _ (by omega), up_o (by omega)]
    · rw [c2 _ _ _ _ (by omega), up_o (by omega), b2 _ _ _ _ (by omega), a3 _ _ _ _ (by omega), up_o (by omega)]
  · unfold f_X9_keep f_X10_keep f_X9_isImage
    simp (disch := omega) only [wp_some, wp_obd, wp_ob2, wp_bnd, wp_gd, wp_ite, wp_true, wp_ff, ↓l_n1, ↓l_n2, ↓l_n3, ↓l_n4, ↓l_n10, ↓l_n20, l_0, l_1, l_2, l_3, l_4, l_5, l_6, l_7, l_8, l_9, l_10, l_13, l_14, l_15, l_16, l_20, l_21, l_24, l_27, l_28, l_30, l_31, l_32, l_35, l_36, l_39, l_40, l_41, l_43, l_44, l_45, l_46, l_47, l_48, l_49, l_56, l_57, l_59, l_60, l_79, l_97, l_122, l_160, l_237, l_255, l_320, l_999, l_1000, nI_add, pk_mul, nI_eq, nI_leI, nI_ltI, nI_clamp, inb_nI_iff, e_within, e_in32, e_asNumber, e_flag, decide_eq_true_eq, Sum.elim_inl, Sum.elim_inr, true_implies, not_true_eq_false, not_false_eq_true, false_implies, and_true, true_and, nI_nn, nn_nI, nn_nn, ↓reduceIte, if_true, if_false, Nat.le_refl, implies_true, Nat.lt_irrefl, and_self_left, win1, nI_le_s1, Nat.zero_le, up_s, up_o, Nat.zero_add, m64_0, m64_1, m64_2, m64_3, m64_7, m64_8, m64_9, m64_10, m64_13, m64_20, m64_27, m64_60, hk]
    exact hR0
theorem o_back (k : Int32) (hR : RI h) : Ok (f_X9_back k h) (fun q => Ok (f_X10_back k q.2) (fun r => q.1 = r.1 ∧ RI r.2)) := by
  have hR0 := hR
  obtain ⟨B, T, hK, hN, hW, hRs⟩ := hR
  obtain ⟨hM0, hM1, hM2, hM3, hM4, hM5, hM6, hM7, hM8, hM9, hM10⟩ := hK.1
  obtain ⟨⟨⟨s0, s1, s2, s3, s4, s5, s6⟩, n0, n2⟩, hT⟩ := id hN
  have w0 := hW.1.1
  have w1 := hW.1.2.1
  have w2 := hW.1.2.2.1
  obtain ⟨i1, i2, i3, i4⟩ := id hRs
  by_cases hk : nI 0 ≤ k ∧ k ≤ nI 1
  · obtain ⟨k', -, hk', rfl⟩ := rng (by decide) (by decide) hk
    obtain ⟨b, y1, y2, y3⟩ := i1 k' (by omega)
    cases b with
    | false =>
      have y1' : h 20 0 k' 0 = nI 0 := y1
      have y2' : h 26 0 0 k' = nI 0 := y2
      unfold f_X9_back f_X10_back f_X9_isImage
      simp (disch := omega) only [wp_some, wp_obd, wp_ob2, wp_bnd, wp_gd, wp_ite, wp_true, wp_ff, ↓l_n1, ↓l_n2, ↓l_n3, ↓l_n4, ↓l_n10, ↓l_n20, l_0, l_1, l_2, l_3, l_4, l_5, l_6, l_7, l_8, l_9, l_10, l_13, l_14, l_15, l_16, l_20, l_21, l_24, l_27, l_28, l_30, l_31, l_32, l_35, l_36, l_39, l_40, l_41, l_43, l_44, l_45, l_46, l_47, l_48, l_49, l_56, l_57, l_59, l_60, l_79, l_97, l_122, l_160, l_237, l_255, l_320, l_999, l_1000, nI_add, pk_mul, nI_eq, nI_leI, nI_ltI, nI_clamp, inb_nI_iff, e_within, e_in32, e_asNumber, e_flag, decide_eq_true_eq, Sum.elim_inl, Sum.elim_inr, true_implies, not_true_eq_false, not_false_eq_true, false_implies, and_true, true_and, nI_nn, nn_nI, nn_nn, ↓reduceIte, if_true, if_false, Nat.le_refl, implies_true, Nat.lt_irrefl, and_self_left, win1, nI_le_s1, Nat.zero_le, up_s, up_o, Nat.zero_add, m64_0, m64_1, m64_2, m64_3, m64_7, m64_8, m64_9, m64_10, m64_13, m64_20, m64_27, m64_60, hk', y1', y2']
      exact ⟨by omega, hR0⟩
    | true =>
      have y1' : h 20 0 k' 0 = nI 1 := y1
      have y2' : h 26 0 0 k' = nI 1 := y2
      obtain ⟨B', T', p1, p2, p3, p4, p5, p6, p7, p8⟩ := y3 rfl
      unfold f_X9_back f_X9_isImage
      simp (disch := omega) only [wp_some, wp_obd, wp_ob2, wp_bnd, wp_gd, wp_ite, wp_true, wp_ff, ↓l_n1, ↓l_n2, ↓l_n3, ↓l_n4, ↓l_n10, ↓l_n20, l_0, l_1, l_2, l_3, l_4, l_5, l_6, l_7, l_8, l_9, l_10, l_13, l_14, l_15, l_16, l_20, l_21, l_24, l_27, l_28, l_30, l_31, l_32, l_35, l_36, l_39, l_40, l_41, l_43, l_44, l_45, l_46, l_47, l_48, l_49, l_56, l_57, l_59, l_60, l_79, l_97, l_122, l_160, l_237, l_255, l_320, l_999, l_1000, nI_add, pk_mul, nI_eq, nI_leI, nI_ltI, nI_clamp, inb_nI_iff, e_within, e_in32, e_asNumber, e_flag, decide_eq_true_eq, Sum.elim_inl, Sum.elim_inr, true_implies, not_true_eq_false, not_false_eq_true, false_implies, and_true, true_and, nI_nn, nn_nI, nn_nn, ↓reduceIte, if_true, if_false, Nat.le_refl, implies_true, Nat.lt_irrefl, and_self_left, win1, nI_le_s1, Nat.zero_le, up_s, up_o, Nat.zero_add, m64_0, m64_1, m64_2, m64_3, m64_7, m64_8, m64_9, m64_10, m64_13, m64_20, m64_27, m64_60, hk', y1', Nat.reduceEqDiff]
      refine ⟨by omega, ?_⟩
      refine (c_copy (a := k' + 3) (b := 0) (by omega) p1 p2 p6.1 (by rw [p6.2.1.1]; exact Nat.le_refl _)).mono ?_
      rintro h1 ⟨a1, a2, a3⟩
      refine ⟨by omega, ?_⟩
      refine (c_seen (h := h1) (a := k' + 1) (b := 0) (by omega) (CSg_fr p3 (fun a b c d e => a3 _ _ _ _ (by omega))) p6.2.2.1 (fun i hi => (p6.2.2.2 i hi).2.2.2)).mono ?_
      rintro h2 ⟨b1, b2⟩
      have y2'' : h2 26 0 0 k' = nI 1 := by rw [b2 _ _ _ _ (by omega), a3 _ _ _ _ (by omega)]; exact y2'
      unfold f_X10_back
      simp (disch := omega) only [wp_some, wp_obd, wp_ob2, wp_bnd, wp_gd, wp_ite, wp_true, wp_ff, ↓l_n1, ↓l_n2, ↓l_n3, ↓l_n4, ↓l_n10, ↓l_n20, l_0, l_1, l_2, l_3, l_4, l_5, l_6, l_7, l_8, l_9, l_10, l_13, l_14, l_15, l_16, l_20, l_21, l_24, l_27, l_28, l_30, l_31, l_32, l_35, l_36, l_39, l_40, l_41, l_43, l_44, l_45, l_46, l_47, l_48, l_49, l_56, l_57, l_59, l_60, l_79, l_97, l_122, l_160, l_237, l_255, l_320, l_999, l_1000, nI_add, pk_mul, nI_eq, nI_leI, nI_ltI, nI_clamp, inb_nI_iff, e_within, e_in32, e_asNumber, e_flag, decide_eq_true_eq, Sum.elim_inl, Sum.elim_inr, true_implies, not_true_eq_false, not_false_eq_true, false_implies, and_true, true_and, nI_nn, nn_nI, nn_nn, ↓reduceIte, if_true, if_false, Nat.le_refl, implies_true, Nat.lt_irrefl, and_self_left, win1, nI_le_s1, Nat.zero_le, up_s, up_o, Nat.zero_add, m64_0, m64_1, m64_2, m64_3, m64_7, m64_8, m64_9, m64_10, m64_13, m64_20, m64_27, m64_60, hk', y2'', l79, Nat.reduceEqDiff]
      refine ⟨by omega, ?_⟩
      refine (m_copies (p := 0) (q := 79 * (k' + 1)) (by omega) (by omega) (by omega)).mono ?_
      rintro h3 ⟨c1, c2⟩
      have fr : ∀ k j o i, ¬ (k = 25 ∧ i < 79) → (o ≠ 0 ∨ k = 0 ∨ 12 < k) → h3 k j o i = h k j o i := fun k j o i u v => by
        rw [c2 _ _ _ _ (by omega), b2 _ _ _ _ (by omega), a3 _ _ _ _ (by omega)]
      have hb : ∀ i, i < 79 → h3 25 0 0 i = h 25 0 0 (79 * (k' + 1) + i) := fun i hi => by
        have := c1 i hi
        rw [Nat.zero_add] at this
        rw [this, b2 _ _ _ _ (by omega), a3 _ _ _ _ (by omega)]
      have hSN : SN (h3 25 0 0) B' := SN_fr p6.1.2.1 p6.1.2.2.1 p4 (fun i hi => hb i (by omega))
      refine ⟨?_, B', T', ⟨CB0_fr a1 (fun p j i u v => by rw [c2 _ _ _ _ (by omega), b2 _ _ _ _ (by omega)]), HL_fr a2 (fun p j i u v => by rw [c2 _ _ _ _ (by omega), b2 _ _ _ _ (by omega)]), CSg_fr b1 (fun p j i u v => by rw [c2 _ _ _ _ (by omega)])⟩, ⟨⟨hSN, (fr _ _ _ _ (by omega) (by omega)).trans p7, (fr _ _ _ _ (by omega) (by omega)).trans p8⟩, TN_fr p6.2.2.1 p5 (fun i p q => hb i q)⟩, p6, fun k hk => IM_fr hk (i1 k hk) (fun p j o i hh => fr _ _ _ _ (by omega) (by omega)), fun k hk => SH_fr hk (i2 k hk) (fun p j o i hh => fr _ _ _ _ (by omega) (by omega)), TP_fr i3 (fun p j o i hh => fr _ _ _ _ (by omega) (by omega)), TR_fr i4 (fun p j o i hh => fr _ _ _ _ (by omega) (by omega))⟩
      rw [b2 _ _ _ _ (by omega), a1.2.2.2.2.2.1, hSN.2.2.2.2.2.2]
  · unfold f_X9_back f_X10_back f_X9_isImage
    simp (disch := omega) only [wp_some, wp_obd, wp_ob2, wp_bnd, wp_gd, wp_ite, wp_true, wp_ff, ↓l_n1, ↓l_n2, ↓l_n3, ↓l_n4, ↓l_n10, ↓l_n20, l_0, l_1, l_2, l_3, l_4, l_5, l_6, l_7, l_8, l_9, l_10, l_13, l_14, l_15, l_16, l_20, l_21, l_24, l_27, l_28, l_30, l_31, l_32, l_35, l_36, l_39, l_40, l_41, l_43, l_44, l_45, l_46, l_47, l_48, l_49, l_56, l_57, l_59, l_60, l_79, l_97, l_122, l_160, l_237, l_255, l_320, l_999, l_1000, nI_add, pk_mul, nI_eq, nI_leI, nI_ltI, nI_clamp, inb_nI_iff, e_within, e_in32, e_asNumber, e_flag, decide_eq_true_eq, Sum.elim_inl, Sum.elim_inr, true_implies, not_true_eq_false, not_false_eq_true, false_implies, and_true, true_and, nI_nn, nn_nI, nn_nn, ↓reduceIte, if_true, if_false, Nat.le_refl, implies_true, Nat.lt_irrefl, and_self_left, win1, nI_le_s1, Nat.zero_le, up_s, up_o, Nat.zero_add, m64_0, m64_1, m64_2, m64_3, m64_7, m64_8, m64_9, m64_10, m64_13, m64_20, m64_27, m64_60, hk]
    exact hR0
end Tri
