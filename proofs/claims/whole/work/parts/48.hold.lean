theorem MT_29 {g : Mem} {B : Bs} {c v : Nat} (h : MT g B) : MT (up g 29 0 0 c (nI v)) (ub B 7 c v) := by
  obtain ⟨hM0, hM1, hM2, hM3, hM4, hM5, hM6, hM7, hM8, hM9, hM10⟩ := h
  refine ⟨by simpa [up, ub] using hM0, by simpa [up, ub] using hM1, by simpa [up, ub] using hM2, by simpa [up, ub] using hM3, by simpa [up, ub] using hM4, by simpa [up, ub] using hM5, by simpa [up, ub] using hM6, ?_, by simpa [up, ub] using hM8, by simpa [up, ub] using hM9, by simpa [up, ub] using hM10⟩
  intro d hd
  have := hM7 d (by simpa [ub] using hd)
  by_cases e : d = c
  · simp [up, ub, e]
  · simpa [up, ub, e] using this
theorem MT_30 {g : Mem} {B : Bs} {c v : Nat} (h : MT g B) : MT (up g 30 0 0 c (nI v)) (ub B 10 c v) := by
  obtain ⟨hM0, hM1, hM2, hM3, hM4, hM5, hM6, hM7, hM8, hM9, hM10⟩ := h
  refine ⟨by simpa [up, ub] using hM0, by simpa [up, ub] using hM1, by simpa [up, ub] using hM2, by simpa [up, ub] using hM3, by simpa [up, ub] using hM4, by simpa [up, ub] using hM5, by simpa [up, ub] using hM6, by simpa [up, ub] using hM7, by simpa [up, ub] using hM8, ?_, by simpa [up, ub] using hM10⟩
  intro d hd
  have := hM9 d (by simpa [ub] using hd)
  refine ⟨by simpa [up, ub] using this.1, ?_, by simpa [up, ub] using this.2.2⟩
  by_cases e : d = c
  · simp [up, ub, e]
  · simpa [up, ub, e] using this.2.1
theorem MT_32 {g : Mem} {B : Bs} {c v : Nat} (h : MT g B) : MT (up g 32 0 0 c (nI v)) (ub B 12 c v) := by
  obtain ⟨hM0, hM1, hM2, hM3, hM4, hM5, hM6, hM7, hM8, hM9, hM10⟩ := h
  refine ⟨by simpa [up, ub] using hM0, by simpa [up, ub] using hM1, by simpa [up, ub] using hM2, by simpa [up, ub] using hM3, by simpa [up, ub] using hM4, by simpa [up, ub] using hM5, by simpa [up, ub] using hM6, by simpa [up, ub] using hM7, by simpa [up, ub] using hM8, by simpa [up, ub] using hM9, ?_⟩
  intro d hd
  have := hM10 d (by simpa [ub] using hd)
  refine ⟨?_, by simpa [up, ub] using this.2.1, by simpa [up, ub] using this.2.2.1, by simpa [up, ub] using this.2.2.2⟩
  by_cases e : d = c
  · simp [up, ub, e]
  · simpa [up, ub, e] using this.1
theorem MT_33 {g : Mem} {B : Bs} {c v : Nat} (h : MT g B) : MT (up g 33 0 0 c (nI v)) (ub B 13 c v) := by
  obtain ⟨hM0, hM1, hM2, hM3, hM4, hM5, hM6, hM7, hM8, hM9, hM10⟩ := h
  refine ⟨by simpa [up, ub] using hM0, by simpa [up, ub] using hM1, by simpa [up, ub] using hM2, by simpa [up, ub] using hM3, by simpa [up, ub] using hM4, by simpa [up, ub] using hM5, by simpa [up, ub] using hM6, by simpa [up, ub] using hM7, by simpa [up, ub] using hM8, by simpa [up, ub] using hM9, ?_⟩
  intro d hd
  have := hM10 d (by simpa [ub] using hd)
  refine ⟨by simpa [up, ub] using this.1, ?_, by simpa [up, ub] using this.2.2.1, by simpa [up, ub] using this.2.2.2⟩
  by_cases e : d = c
  · simp [up, ub, e]
  · simpa [up, ub, e] using this.2.1
theorem MT_34 {g : Mem} {B : Bs} {c v : Nat} (h : MT g B) : MT (up g 34 0 0 c (nI v)) (ub B 14 c v) := by
  obtain ⟨hM0, hM1, hM2, hM3, hM4, hM5, hM6, hM7, hM8, hM9, hM10⟩ := h
  refine ⟨by simpa [up, ub] using hM0, by simpa [up, ub] using hM1, by simpa [up, ub] using hM2, by simpa [up, ub] using hM3, by simpa [up, ub] using hM4, by simpa [up, ub] using hM5, by simpa [up, ub] using hM6, by simpa [up, ub] using hM7, by simpa [up, ub] using hM8, by simpa [up, ub] using hM9, ?_⟩
  intro d hd
  have := hM10 d (by simpa [ub] using hd)
  refine ⟨by simpa [up, ub] using this.1, by simpa [up, ub] using this.2.1, ?_, by simpa [up, ub] using this.2.2.2⟩
  by_cases e : d = c
  · simp [up, ub, e]
  · simpa [up, ub, e] using this.2.2.1
def bits (p : Nat → Bool) (b : Int32) : Nat → Int32
  | 0 => b
  | n + 1 => bits p b n ||| (b2i (p n) <<< (nI n &&& nI 31))
theorem bits_t {p : Nat → Bool} {b : Int32} {n : Nat} (h : p n = true) : bits p b n ||| (nI 1 <<< (nI n &&& nI 31)) = bits p b (n + 1) := by
  show _ = _ ||| (b2i (p n) <<< _)
  rw [h]; rfl
theorem bits_f {p : Nat → Bool} {b : Int32} {n : Nat} (h : p n = false) : bits p b n = bits p b (n + 1) := by
  show _ = _ ||| (b2i (p n) <<< _)
  rw [h]
  show _ = _ ||| ((0 : Int32) <<< _)
  rw [Int32.zero_shiftLeft, Int32.or_zero]
theorem bits_s {p : Nat → Bool} {b : Int32} {n : Nat} {q : Bool} (h : p n = q) : bits p b n ||| (b2i q <<< (nI n &&& nI 31)) = bits p b (n + 1) := by
  subst h; rfl
theorem sh1 : ∀ n, n ≤ 6 → nI 1 <<< (nI n &&& nI 31) = nI (2 ^ n) := by decide
theorem bit6 : ∀ s, s < 64 → ∀ c, c < 6 → (nI s >>> (nI c &&& nI 31)) &&& nI 1 = nI (s / 2 ^ c % 2) := by decide +kernel
theorem sub1v {v : Nat} (h : v ≤ 1) : nI 1 - nI v = nI (1 - v) := by
  have : v = 0 ∨ v = 1 := by omega
  rcases this with rfl | rfl <;> decide
/-- is what was seen, i, so -/
def sok (B T : Bs) (i : Nat) : Bool := decide (stn B (T 1 i) 11 (T 2 i) = T 3 i) == (T 4 i == 1)
def hld (B T : Bs) : Bool := (ff (fun i => !sok B T i) (T 0 0)).isNone
theorem hld_t {B T : Bs} (h : ∀ i, i < T 0 0 → sok B T i = true) : hld B T = true := by
  have : ff (fun i => !sok B T i) (T 0 0) = none := ff_none.mpr (fun c hc => by simp [h c hc])
  unfold hld; rw [this]; rfl
theorem hld_f {B T : Bs} {i : Nat} (hi : i < T 0 0) (h : sok B T i = false) : hld B T = false := by
  unfold hld
  cases e : ff (fun i => !sok B T i) (T 0 0) with
  | some c => rfl
  | none => have := ff_none.mp e i hi; simp [h] at this
theorem sok_eq {B T : Bs} {i : Nat} (h4 : T 4 i ≤ 1) : (nI (if decide (stn B (T 1 i) 11 (T 2 i) = T 3 i) = true then 1 else 0) = nI (T 4 i)) ↔ sok B T i = true := by
  unfold sok
  have : T 4 i = 0 ∨ T 4 i = 1 := by omega
  rw [nI_eq (by split <;> omega) (by omega)]
  rcases this with e | e <;> by_cases d : stn B (T 1 i) 11 (T 2 i) = T 3 i <;> simp [e, d]
section Tri
variable {h g : Mem} {B T : Bs} {o S : Nat}
theorem c_holdAt {n : Nat} (hC : CB0 h o (stn B n)) (hS : CSg h 0 T) (hT : WT B T) (hW : WF S B) (hn : n ≤ 20) : Ok (f_X6_holdAt 0 (nI n) o h) (fun r => (r = true ∧ ∀ i, i < T 0 0 → T 1 i = n → sok B T i = true) ∨ (r = false ∧ ∃ i, i < T 0 0 ∧ sok B T i = false)) := by
  obtain ⟨c1, c2⟩ := hS
  obtain ⟨t0, t1⟩ := hT
  have w1 := hW.2.1
  have e10 : stn B n 1 0 = B 1 0 := stn_f (by decide) (by decide) (by decide)
  unfold f_X6_holdAt
  rw [wp_obd]
  refine (ok_up (K := Sum.elim (fun r => r = false ∧ ∃ i, i < T 0 0 ∧ sok B T i = false) (fun _ => ∀ i, i < T 0 0 → T 1 i = n → sok B T i = true)) (T 0 0) (fun j z => z = nI j ∧ ∀ i, i < j → T 1 i = n → sok B T i = true) (by omega) ?_ ?_ _ ⟨rfl, fun i hi => by omega⟩).mono ?_
  · rintro j x hj ⟨hx, h1⟩
    subst hx
    obtain ⟨b1, b2, b3, b4⟩ := t1 j hj
    obtain ⟨d1, d2, d3, d4⟩ := c2 j hj
    by_cases e : T 1 j = n
    · have d5 := (hC.2.2.2.2.2.2.2.2.2.1 (T 2 j) (by omega)).2.2
      have hb := wok_lt (B := stn B n) (by rw [stn_f (by decide) (by decide) (by decide)]; exact hW.2.2.1) ((WF_stn hW n).2.2.2.2.2.2.2.2.2.2.1 (T 2 j) (by omega)).2.2
      subst e
      have hs := sok_eq (B := B) (T := T) (i := j) b4
      generalize hz : stn B (T 1 j) 11 (T 2 j) = z at hs d5 hb
      by_cases hq : z = T 3 j
      · simp only [hq, decide_true, if_true] at hs
        simp (disch := omega) only [wp_some, wp_obd, wp_ob2, wp_bnd, wp_gd, wp_ite, wp_true, wp_ff, ↓l_n1, ↓l_n2, ↓l_n3, ↓l_n4, ↓l_n10, ↓l_n20, l_0, l_1, l_2, l_3, l_4, l_5, l_6, l_7, l_8, l_9, l_10, l_13, l_14, l_15, l_16, l_20, l_21, l_24, l_27, l_28, l_30, l_31, l_32, l_35, l_36, l_39, l_40, l_41, l_43, l_44, l_45, l_46, l_47, l_48, l_49, l_56, l_57, l_59, l_60, l_79, l_97, l_122, l_160, l_237, l_255, l_320, l_999, l_1000, nI_add, pk_mul, nI_eq, nI_leI, nI_ltI, nI_clamp, inb_nI_iff, e_within, e_in32, e_asNumber, e_flag, decide_eq_true_eq, Sum.elim_inl, Sum.elim_inr, true_implies, not_true_eq_false, not_false_eq_true, false_implies, and_true, true_and, nI_nn, nn_nI, nn_nn, ↓reduceIte, if_true, if_false, Nat.le_refl, implies_true, Nat.lt_irrefl, and_self_left, win1, nI_le_s1, Nat.zero_le, up_s, up_o, Nat.zero_add, m64_0, m64_1, m64_2, m64_3, m64_7, m64_8, m64_9, m64_10, m64_13, m64_20, m64_27, m64_60, c1, d1, d2, d3, d4, d5, hq]
        refine ⟨fun e => by omega, fun _ => ?_⟩
        repeat (refine ⟨by omega, ?_⟩)
        refine ⟨?_, ?_⟩
        · intro q
          refine fun i hi he => ?_
          by_cases e : i = j
          · subst e; exact hs.mp q
          · exact h1 i (by omega) he
        · intro q
          exact ⟨j, hj, by simpa using (fun w => q (hs.mpr w))⟩
      · have hs' : (nI 0 = nI (T 4 j)) ↔ sok B T j = true := by simpa [hq] using hs
        simp (disch := omega) only [wp_some, wp_obd, wp_ob2, wp_bnd, wp_gd, wp_ite, wp_true, wp_ff, ↓l_n1, ↓l_n2, ↓l_n3, ↓l_n4, ↓l_n10, ↓l_n20, l_0, l_1, l_2, l_3, l_4, l_5, l_6, l_7, l_8, l_9, l_10, l_13, l_14, l_15, l_16, l_20, l_21, l_24, l_27, l_28, l_30, l_31, l_32, l_35, l_36, l_39, l_40, l_41, l_43, l_44, l_45, l_46, l_47, l_48, l_49, l_56, l_57, l_59, l_60, l_79, l_97, l_122, l_160, l_237, l_255, l_320, l_999, l_1000, nI_add, pk_mul, nI_eq, nI_leI, nI_ltI, nI_clamp, inb_nI_iff, e_within, e_in32, e_asNumber, e_flag, decide_eq_true_eq, Sum.elim_inl, Sum.elim_inr, true_implies, not_true_eq_false, not_false_eq_true, false_implies, and_true, true_and, nI_nn, nn_nI, nn_nn, ↓reduceIte, if_true, if_false, Nat.le_refl, implies_true, Nat.lt_irrefl, and_self_left, win1, nI_le_s1, Nat.zero_le, up_s, up_o, Nat.zero_add, m64_0, m64_1, m64_2, m64_3, m64_7, m64_8, m64_9, m64_10, m64_13, m64_20, m64_27, m64_60, c1, d1, d2, d3, d4, d5, hq]
        refine ⟨fun e => by omega, fun _ => ?_⟩
        repeat (refine ⟨by omega, ?_⟩)
        refine ⟨?_, ?_⟩
        · intro q
          refine fun i hi he => ?_
          by_cases e : i = j
          · subst e; exact hs'.mp q
          · exact h1 i (by omega) he
        · intro q
          exact ⟨j, hj, by simpa using (fun w => q (hs'.mpr w))⟩
    · simp (disch := omega) only [wp_some, wp_obd, wp_ob2, wp_bnd, wp_gd, wp_ite, wp_true, wp_ff, ↓l_n1, ↓l_n2, ↓l_n3, ↓l_n4, ↓l_n10, ↓l_n20, l_0, l_1, l_2, l_3, l_4, l_5, l_6, l_7, l_8, l_9, l_10, l_13, l_14, l_15, l_16, l_20, l_21, l_24, l_27, l_28, l_30, l_31, l_32, l_35, l_36, l_39, l_40, l_41, l_43, l_44, l_45, l_46, l_47, l_48, l_49, l_56, l_57, l_59, l_60, l_79, l_97, l_122, l_160, l_237, l_255, l_320, l_999, l_1000, nI_add, pk_mul, nI_eq, nI_leI, nI_ltI, nI_clamp, inb_nI_iff, e_within, e_in32, e_asNumber, e_flag, decide_eq_true_eq, Sum.elim_inl, Sum.elim_inr, true_implies, not_true_eq_false, not_false_eq_true, false_implies, and_true, true_and, nI_nn, nn_nI, nn_nn, ↓reduceIte, if_true, if_false, Nat.le_refl, implies_true, Nat.lt_irrefl, and_self_left, win1, nI_le_s1, Nat.zero_le, up_s, up_o, Nat.zero_add, m64_0, m64_1, m64_2, m64_3, m64_7, m64_8, m64_9, m64_10, m64_13, m64_20, m64_27, m64_60, c1, d1, e]
      refine ⟨fun e => by omega, fun _ => ⟨by omega, fun i hi he => ?_⟩⟩
      by_cases e2 : i = j
      · subst e2; exact absurd he e
      · exact h1 i (by omega) he
  · rintro x ⟨hx, h1⟩
    subst hx
    simp (disch := omega) only [wp_some, wp_obd, wp_ob2, wp_bnd, wp_gd, wp_ite, wp_true, wp_ff, ↓l_n1, ↓l_n2, ↓l_n3, ↓l_n4, ↓l_n10, ↓l_n20, l_0, l_1, l_2, l_3, l_4, l_5, l_6, l_7, l_8, l_9, l_10, l_13, l_14, l_15, l_16, l_20, l_21, l_24, l_27, l_28, l_30, l_31, l_32, l_35, l_36, l_39, l_40, l_41, l_43, l_44, l_45, l_46, l_47, l_48, l_49, l_56, l_57, l_59, l_60, l_79, l_97, l_122, l_160, l_237, l_255, l_320, l_999, l_1000, nI_add, pk_mul, nI_eq, nI_leI, nI_ltI, nI_clamp, inb_nI_iff, e_within, e_in32, e_asNumber, e_flag, decide_eq_true_eq, Sum.elim_inl, Sum.elim_inr, true_implies, not_true_eq_false, not_false_eq_true, false_implies, and_true, true_and, nI_nn, nn_nI, nn_nn, ↓reduceIte, if_true, if_false, Nat.le_refl, implies_true, Nat.lt_irrefl, and_self_left, win1, nI_le_s1, Nat.zero_le, up_s, up_o, Nat.zero_add, m64_0, m64_1, m64_2, m64_3, m64_7, m64_8, m64_9, m64_10, m64_13, m64_20, m64_27, m64_60, c1]
    exact h1
  · rintro z hz
    cases z with
    | inl r => exact wp_some.mpr (Or.inr hz)
    | inr r => exact wp_some.mpr (Or.inl ⟨rfl, hz⟩)
theorem c_lastStep (hS : CSg h 0 T) (hT : WT B T) : Ok (f_X6_lastStep 0 h) (fun r => ∃ m, m ≤ 21 ∧ r = nI m - 1 ∧ ∀ i, i < T 0 0 → T 1 i < m) := by
  obtain ⟨c1, c2⟩ := hS
  obtain ⟨t0, t1⟩ := hT
  unfold f_X6_lastStep
  rw [wp_obd]
  refine (ok_up (K := fun r => ∃ m, m ≤ 21 ∧ r = nI m - 1 ∧ ∀ i, i < T 0 0 → T 1 i < m) (T 0 0) (fun j z => z.2 = nI j ∧ ∃ m, m ≤ 21 ∧ z.1 = nI m - 1 ∧ ∀ i, i < j → T 1 i < m) (by omega) ?_ ?_ _ ⟨rfl, 0, by omega, by decide, fun i hi => by omega⟩).mono (fun a ha => wp_some.mpr ha)
  · rintro j ⟨r, x⟩ hj ⟨hx, m, hm, hr, h1⟩
    dsimp only at hx hr
    subst hx hr
    obtain ⟨b1, b2, b3, b4⟩ := t1 j hj
    have d1 := (c2 j hj).1
    unfold f_J9_max_7cf53
    have ll := lim_lt (m := m) (n := T 1 j) (by omega) (by omega)
    rw [l_1] at ll ⊢
    simp (disch := omega) only [wp_some, wp_obd, wp_ob2, wp_bnd, wp_gd, wp_ite, wp_true, wp_ff, ↓l_n1, ↓l_n2, ↓l_n3, ↓l_n4, ↓l_n10, ↓l_n20, l_0, l_1, l_2, l_3, l_4, l_5, l_6, l_7, l_8, l_9, l_10, l_13, l_14, l_15, l_16, l_20, l_21, l_24, l_27, l_28, l_30, l_31, l_32, l_35, l_36, l_39, l_40, l_41, l_43, l_44, l_45, l_46, l_47, l_48, l_49, l_56, l_57, l_59, l_60, l_79, l_97, l_122, l_160, l_237, l_255, l_320, l_999, l_1000, nI_add, pk_mul, nI_eq, nI_leI, nI_ltI, nI_clamp, inb_nI_iff, e_within, e_in32, e_asNumber, e_flag, decide_eq_true_eq, Sum.elim_inl, Sum.elim_inr, true_implies, not_true_eq_false, not_false_eq_true, false_implies, and_true, true_and, nI_nn, nn_nI, nn_nn, ↓reduceIte, if_true, if_false, Nat.le_refl, implies_true, Nat.lt_irrefl, and_self_left, win1, nI_le_s1, Nat.zero_le, up_s, up_o, Nat.zero_add, m64_0, m64_1, m64_2, m64_3, m64_7, m64_8, m64_9, m64_10, m64_13, m64_20, m64_27, m64_60, c1, d1, ll]
    refine ⟨fun e => by omega, fun _ => ⟨by omega, fun q => ⟨T 1 j + 1, by omega, ?_, fun i hi => ?_⟩, fun q => ⟨m, hm, rfl, fun i hi => ?_⟩⟩⟩
    · exact (nI_sub1 _).symm
    · by_cases e : i = j
      · subst e; omega
      · have := h1 i (by omega); omega
    · by_cases e : i = j
      · subst e; omega
      · exact h1 i (by omega)
  · rintro ⟨r, x⟩ ⟨hx, h1⟩
    dsimp only at hx h1
    subst hx
    simp (disch := omega) only [wp_some, wp_obd, wp_ob2, wp_bnd, wp_gd, wp_ite, wp_true, wp_ff, ↓l_n1, ↓l_n2, ↓l_n3, ↓l_n4, ↓l_n10, ↓l_n20, l_0, l_1, l_2, l_3, l_4, l_5, l_6, l_7, l_8, l_9, l_10, l_13, l_14, l_15, l_16, l_20, l_21, l_24, l_27, l_28, l_30, l_31, l_32, l_35, l_36, l_39, l_40, l_41, l_43, l_44, l_45, l_46, l_47, l_48, l_49, l_56, l_57, l_59, l_60, l_79, l_97, l_122, l_160, l_237, l_255, l_320, l_999, l_1000, nI_add, pk_mul, nI_eq, nI_leI, nI_ltI, nI_clamp, inb_nI_iff, e_within, e_in32, e_asNumber, e_flag, decide_eq_true_eq, Sum.elim_inl, Sum.elim_inr, true_implies, not_true_eq_false, not_false_eq_true, false_implies, and_true, true_and, nI_nn, nn_nI, nn_nn, ↓reduceIte, if_true, if_false, Nat.le_refl, implies_true, Nat.lt_irrefl, and_self_left, win1, nI_le_s1, Nat.zero_le, up_s, up_o, Nat.zero_add, m64_0, m64_1, m64_2, m64_3, m64_7, m64_8, m64_9, m64_10, m64_13, m64_20, m64_27, m64_60, c1]
    exact h1
theorem c_holdFor (hC : CB0 h o B) (hH : HL h o B) (hS : CSg h 0 T) (hT : WT B T) (hW : WF S B) (hS2 : S + 21 < 100000) : Ok (f_X6_holdFor 0 o h) (fun q => q.1 = hld B T ∧ FrB h q.2 o) := by
  unfold f_X6_holdFor
  rw [wp_obd]
  refine (c_lastStep hS hT).mono ?_
  rintro r ⟨m, hm, hr, h1⟩
  subst hr
  rw [wp_obd]
  refine (ok_up (K := Sum.elim (fun q => q.1 = false ∧ hld B T = false ∧ FrB h q.2 o) (fun h' => hld B T = true ∧ FrB h h' o)) m (fun n z => z.1 = nI n ∧ (n < m → CB0 z.2 o (stn B n) ∧ HL z.2 o (stn B n)) ∧ FrB h z.2 o ∧ ∀ i, i < T 0 0 → T 1 i < n → sok B T i = true) (by omega) ?_ ?_ _ ⟨rfl, fun _ => ⟨hC, hH⟩, FrB.rf, fun i hi he => by omega⟩).mono ?_
  · rintro n ⟨x, z⟩ hn ⟨hx, hcb, hF, hok⟩
    dsimp only at hx hcb hF hok
    subst hx
    obtain ⟨k1, k2⟩ := hcb hn
    have l1 := lim_lt (m := m) (n := n) (by omega) (by omega)
    have l2 := lim_le (m := m) (n := n) (by omega) (by omega)
    rw [l_1] at l1 l2 ⊢
    simp (disch := omega) only [wp_some, wp_obd, wp_ob2, wp_bnd, wp_gd, wp_ite, wp_true, wp_ff, ↓l_n1, ↓l_n2, ↓l_n3, ↓l_n4, ↓l_n10, ↓l_n20, l_0, l_1, l_2, l_3, l_4, l_5, l_6, l_7, l_8, l_9, l_10, l_13, l_14, l_15, l_16, l_20, l_21, l_24, l_27, l_28, l_30, l_31, l_32, l_35, l_36, l_39, l_40, l_41, l_43, l_44, l_45, l_46, l_47, l_48, l_49, l_56, l_57, l_59, l_60, l_79, l_97, l_122, l_160, l_237, l_255, l_320, l_999, l_1000, nI_add, pk_mul, nI_eq, nI_leI, nI_ltI, nI_clamp, inb_nI_iff, e_within, e_in32, e_asNumber, e_flag, decide_eq_true_eq, Sum.elim_inl, Sum.elim_inr, true_implies, not_true_eq_false, not_false_eq_true, false_implies, and_true, true_and, nI_nn, nn_nI, nn_nn, ↓reduceIte, if_true, if_false, Nat.le_refl, implies_true, Nat.lt_irrefl, and_self_left, win1, nI_le_s1, Nat.zero_le, up_s, up_o, Nat.zero_add, m64_0, m64_1, m64_2, m64_3, m64_7, m64_8, m64_9, m64_10, m64_13, m64_20, m64_27, m64_60, l1, l2]
    refine ⟨fun e => by omega, fun _ => ?_⟩
    refine (c_holdAt k1 (CSg_fr hS (fun a b c d e => hF _ _ _ _ (by omega))) hT hW (by omega)).mono ?_
    rintro r (⟨rfl, ha⟩ | ⟨rfl, i, hi, hf⟩)
    · simp (disch := omega) only [wp_some, wp_obd, wp_ob2, wp_bnd, wp_gd, wp_ite, wp_true, wp_ff, ↓l_n1, ↓l_n2, ↓l_n3, ↓l_n4, ↓l_n10, ↓l_n20, l_0, l_1, l_2, l_3, l_4, l_5, l_6, l_7, l_8, l_9, l_10, l_13, l_14, l_15, l_16, l_20, l_21, l_24, l_27, l_28, l_30, l_31, l_32, l_35, l_36, l_39, l_40, l_41, l_43, l_44, l_45, l_46, l_47, l_48, l_49, l_56, l_57, l_59, l_60, l_79, l_97, l_122, l_160, l_237, l_255, l_320, l_999, l_1000, nI_add, pk_mul, nI_eq, nI_leI, nI_ltI, nI_clamp, inb_nI_iff, e_within, e_in32, e_asNumber, e_flag, decide_eq_true_eq, Sum.elim_inl, Sum.elim_inr, true_implies, not_true_eq_false, not_false_eq_true, false_implies, and_true, true_and, nI_nn, nn_nI, nn_nn, ↓reduceIte, if_true, if_false, Nat.le_refl, implies_true, Nat.lt_irrefl, and_self_left, win1, nI_le_s1, Nat.zero_le, up_s, up_o, Nat.zero_add, m64_0, m64_1, m64_2, m64_3, m64_7, m64_8, m64_9, m64_10, m64_13, m64_20, m64_27, m64_60]
      have hok2 : ∀ i, i < T 0 0 → T 1 i < n + 1 → sok B T i = true := fun i hi he => by
        by_cases e : T 1 i = n
        · exact ha i hi e
        · exact hok i hi (by omega)
      refine ⟨fun q => ⟨fun w => by omega, hF, hok2⟩, fun q => ?_⟩
      refine (c_goStep k1 k2 (WF_stn hW n) (by omega)).mono ?_
      rintro h2 ⟨g1, g2, g3⟩
      exact ⟨fun _ => ⟨g1, g2⟩, hF.tr g3, hok2⟩
    · simp (disch := omega) only [wp_some, wp_obd, wp_ob2, wp_bnd, wp_gd, wp_ite, wp_true, wp_ff, ↓l_n1, ↓l_n2, ↓l_n3, ↓l_n4, ↓l_n10, ↓l_n20, l_0, l_1, l_2, l_3, l_4, l_5, l_6, l_7, l_8, l_9, l_10, l_13, l_14, l_15, l_16, l_20, l_21, l_24, l_27, l_28, l_30, l_31, l_32, l_35, l_36, l_39, l_40, l_41, l_43, l_44, l_45, l_46, l_47, l_48, l_49, l_56, l_57, l_59, l_60, l_79, l_97, l_122, l_160, l_237, l_255, l_320, l_999, l_1000, nI_add, pk_mul, nI_eq, nI_leI, nI_ltI, nI_clamp, inb_nI_iff, e_within, e_in32, e_asNumber, e_flag, decide_eq_true_eq, Sum.elim_inl, Sum.elim_inr, true_implies, not_true_eq_false, not_false_eq_true, false_implies, and_true, true_and, nI_nn, nn_nI, nn_nn, ↓reduceIte, if_true, if_false, Nat.le_refl, implies_true, Nat.lt_irrefl, and_self_left, win1, nI_le_s1, Nat.zero_le, up_s, up_o, Nat.zero_add, m64_0, m64_1, m64_2, m64_3, m64_7, m64_8, m64_9, m64_10, m64_13, m64_20, m64_27, m64_60]
      exact ⟨hld_f hi hf, hF⟩
  · rintro ⟨x, z⟩ ⟨hx, hcb, hF, hok⟩
    dsimp only at hx hcb hF hok
    subst hx
    have l1 := lim_lt (m := m) (n := m) (by omega) (by omega)
    rw [l_1] at l1 ⊢
    simp (disch := omega) only [wp_some, wp_obd, wp_ob2, wp_bnd, wp_gd, wp_ite, wp_true, wp_ff, ↓l_n1, ↓l_n2, ↓l_n3, ↓l_n4, ↓l_n10, ↓l_n20, l_0, l_1, l_2, l_3, l_4, l_5, l_6, l_7, l_8, l_9, l_10, l_13, l_14, l_15, l_16, l_20, l_21, l_24, l_27, l_28, l_30, l_31, l_32, l_35, l_36, l_39, l_40, l_41, l_43, l_44, l_45, l_46, l_47, l_48, l_49, l_56, l_57, l_59, l_60, l_79, l_97, l_122, l_160, l_237, l_255, l_320, l_999, l_1000, nI_add, pk_mul, nI_eq, nI_leI, nI_ltI, nI_clamp, inb_nI_iff, e_within, e_in32, e_asNumber, e_flag, decide_eq_true_eq, Sum.elim_inl, Sum.elim_inr, true_implies, not_true_eq_false, not_false_eq_true, false_implies, and_true, true_and, nI_nn, nn_nI, nn_nn, ↓reduceIte, if_true, if_false, Nat.le_refl, implies_true, Nat.lt_irrefl, and_self_left, win1, nI_le_s1, Nat.zero_le, up_s, up_o, Nat.zero_add, m64_0, m64_1, m64_2, m64_3, m64_7, m64_8, m64_9, m64_10, m64_13, m64_20, m64_27, m64_60, l1]
    exact ⟨hld_t (fun i hi => hok i hi (h1 i hi)), hF⟩
  · rintro z hz
    cases z with
    | inl r => exact wp_some.mpr ⟨hz.1.trans hz.2.1.symm, hz.2.2⟩
    | inr r => exact wp_some.mpr ⟨hz.1.symm, hz.2⟩
theorem m_isSo (hM : MT g B) (hS : TN (g 25 0 0) T) (hT : WT B T) (hW : WF S B) (hS2 : S + 21 < 100000) : Ok (f_X10_isSo g) (fun q => q.1 = hld B T ∧ FrM g q.2) := by
  obtain ⟨c1, c2⟩ := hS
  obtain ⟨t0, t1⟩ := hT
  have w1 := hW.2.1
  unfold f_X10_isSo
  rw [wp_obd]
  refine (ok_up (K := fun q => q.1 = hld B T ∧ FrM g q.2) 21 (fun n z => z.2.1 = nI n ∧ MT z.2.2 (stn B n) ∧ FrM g z.2.2 ∧ (z.1 = true → ∀ i, i < T 0 0 → T 1 i < n → sok B T i = true) ∧ (z.1 = false → ∃ i, i < T 0 0 ∧ sok B T i = false)) (by omega) ?_ ?_ _ ⟨rfl, hM, FrM.rf, fun _ i hi he => by omega, fun e => by cases e⟩).mono (fun a ha => wp_some.mpr ha)
  · rintro n ⟨b, x, z⟩ hn ⟨hx, hm, hF, hb1, hb2⟩
    dsimp only at hx hm hF hb1 hb2
    subst hx
    have e10 : stn B n 1 0 = B 1 0 := stn_f (by decide) (by decide) (by decide)
    have c1' : z 25 0 0 46 = nI (T 0 0) := (hF _ _ _ _ (by omega)).trans c1
    simp (disch := omega) only [wp_some, wp_obd, wp_ob2, wp_bnd, wp_gd, wp_ite, wp_true, wp_ff, ↓l_n1, ↓l_n2, ↓l_n3, ↓l_n4, ↓l_n10, ↓l_n20, l_0, l_1, l_2, l_3, l_4, l_5, l_6, l_7, l_8, l_9, l_10, l_13, l_14, l_15, l_16, l_20, l_21, l_24, l_27, l_28, l_30, l_31, l_32, l_35, l_36, l_39, l_40, l_41, l_43, l_44, l_45, l_46, l_47, l_48, l_49, l_56, l_57, l_59, l_60, l_79, l_97, l_122, l_160, l_237, l_255, l_320, l_999, l_1000, nI_add, pk_mul, nI_eq, nI_leI, nI_ltI, nI_clamp, inb_nI_iff, e_within, e_in32, e_asNumber, e_flag, decide_eq_true_eq, Sum.elim_inl, Sum.elim_inr, true_implies, not_true_eq_false, not_false_eq_true, false_implies, and_true, true_and, nI_nn, nn_nI, nn_nn, ↓reduceIte, if_true, if_false, Nat.le_refl, implies_true, Nat.lt_irrefl, and_self_left, win1, nI_le_s1, Nat.zero_le, up_s, up_o, Nat.zero_add, m64_0, m64_1, m64_2, m64_3, m64_7, m64_8, m64_9, m64_10, m64_13, m64_20, m64_27, m64_60]
    refine ⟨fun e => by omega, fun _ => ?_⟩
    refine (ok_up (K := fun e => (e = true → ∀ i, i < T 0 0 → T 1 i < n + 1 → sok B T i = true) ∧ (e = false → ∃ i, i < T 0 0 ∧ sok B T i = false)) (T 0 0) (fun j y => y.2 = nI j ∧ (y.1 = true → (∀ i, i < T 0 0 → T 1 i < n → sok B T i = true) ∧ ∀ i, i < j → T 1 i = n → sok B T i = true) ∧ (y.1 = false → ∃ i, i < T 0 0 ∧ sok B T i = false)) (by omega) ?_ ?_ _ ⟨rfl, fun e => ⟨hb1 e, fun i hi => by omega⟩, hb2⟩).mono ?_
    · rintro j ⟨b, x⟩ hj ⟨hx, q1, q2⟩
      dsimp only at hx q1 q2
      subst hx
      obtain ⟨b1, b2, b3, b4⟩ := t1 j hj
      obtain ⟨d1, d2, d3, d4⟩ := c2 j hj
      have f1 : z 25 0 0 (47 + 4 * j) = nI (T 1 j) := (hF _ _ _ _ (by omega)).trans d1
      have f2 : z 25 0 0 (47 + 4 * j + 1) = nI (T 2 j) := (hF _ _ _ _ (by omega)).trans d2
      have f3 : z 25 0 0 (47 + 4 * j + 2) = nI (T 3 j) := (hF _ _ _ _ (by omega)).trans d3
      have f4 : z 25 0 0 (47 + 4 * j + 3) = nI (T 4 j) := (hF _ _ _ _ (by omega)).trans d4
      cases b with
      | false =>
        simp (disch := omega) only [wp_some, wp_obd, wp_ob2, wp_bnd, wp_gd, wp_ite, wp_true, wp_ff, ↓l_n1, ↓l_n2, ↓l_n3, ↓l_n4, ↓l_n10, ↓l_n20, l_0, l_1, l_2, l_3, l_4, l_5, l_6, l_7, l_8, l_9, l_10, l_13, l_14, l_15, l_16, l_20, l_21, l_24, l_27, l_28, l_30, l_31, l_32, l_35, l_36, l_39, l_40, l_41, l_43, l_44, l_45, l_46, l_47, l_48, l_49, l_56, l_57, l_59, l_60, l_79, l_97, l_122, l_160, l_237, l_255, l_320, l_999, l_1000, nI_add, pk_mul, nI_eq, nI_leI, nI_ltI, nI_clamp, inb_nI_iff, e_within, e_in32, e_asNumber, e_flag, decide_eq_true_eq, Sum.elim_inl, Sum.elim_inr, true_implies, not_true_eq_false, not_false_eq_true, false_implies, and_true, true_and, nI_nn, nn_nI, nn_nn, ↓reduceIte, if_true, if_false, Nat.le_refl, implies_true, Nat.lt_irrefl, and_self_left, win1, nI_le_s1, Nat.zero_le, up_s, up_o, Nat.zero_add, m64_0, m64_1, m64_2, m64_3, m64_7, m64_8, m64_9, m64_10, m64_13, m64_20, m64_27, m64_60, c1', f1]
        refine ⟨fun e => by omega, fun _ => ?_⟩
        exact q2 rfl
      | true =>
        obtain ⟨q3, q4⟩ := q1 rfl
        by_cases e : T 1 j = n
        · have d5 := (hm.2.2.2.2.2.2.2.2.2.1 (T 2 j) (by omega)).2.2
          have hb := wok_lt (B := stn B n) (by rw [stn_f (by decide) (by decide) (by decide)]; exact hW.2.2.1) ((WF_stn hW n).2.2.2.2.2.2.2.2.2.2.1 (T 2 j) (by omega)).2.2
          subst e
          have hs := sok_eq (B := B) (T := T) (i := j) b4
          have q5 : sok B T j = true → ∀ i, i < j + 1 → T 1 i = T 1 j → sok B T i = true := fun w i hi he => by
            by_cases e : i = j
            · subst e; exact w
            · exact q4 i (by omega) he
          generalize hz : stn B (T 1 j) 11 (T 2 j) = zz at hs d5 hb
          by_cases hq : zz = T 3 j
          · simp only [hq, decide_true, if_true] at hs
            have hs3 : (1 = T 4 j) ↔ sok B T j = true := by rw [← hs, nI_eq (by omega) (by omega)]
            simp (disch := omega) only [wp_some, wp_obd, wp_ob2, wp_bnd, wp_gd, wp_ite, wp_true, wp_ff, ↓l_n1, ↓l_n2, ↓l_n3, ↓l_n4, ↓l_n10, ↓l_n20, l_0, l_1, l_2, l_3, l_4, l_5, l_6, l_7, l_8, l_9, l_10, l_13, l_14, l_15, l_16, l_20, l_21, l_24, l_27, l_28, l_30, l_31, l_32, l_35, l_36, l_39, l_40, l_41, l_43, l_44, l_45, l_46, l_47, l_48, l_49, l_56, l_57, l_59, l_60, l_79, l_97, l_122, l_160, l_237, l_255, l_320, l_999, l_1000, nI_add, pk_mul, nI_eq, nI_leI, nI_ltI, nI_clamp, inb_nI_iff, e_within, e_in32, e_asNumber, e_flag, decide_eq_true_eq, Sum.elim_inl, Sum.elim_inr, true_implies, not_true_eq_false, not_false_eq_true, false_implies, and_true, true_and, nI_nn, nn_nI, nn_nn, ↓reduceIte, if_true, if_false, Nat.le_refl, implies_true, Nat.lt_irrefl, and_self_left, win1, nI_le_s1, Nat.zero_le, up_s, up_o, Nat.zero_add, m64_0, m64_1, m64_2, m64_3, m64_7, m64_8, m64_9, m64_10, m64_13, m64_20, m64_27, m64_60, c1', f1, f2, f3, f4, d5, hq, b2i_b]
            refine ⟨fun e => by omega, fun _ => ?_⟩
            repeat (refine ⟨by omega, ?_⟩)
            refine ⟨fun q => ⟨q3, q5 (hs3.mp q)⟩, fun q => ⟨j, hj, by simpa using (fun w => q (hs3.mpr w))⟩⟩
          · have hs' : (0 = T 4 j) ↔ sok B T j = true := by rw [← nI_eq (by omega) (by omega)]; simpa [hq] using hs
            simp (disch := omega) only [wp_some, wp_obd, wp_ob2, wp_bnd, wp_gd, wp_ite, wp_true, wp_ff, ↓l_n1, ↓l_n2, ↓l_n3, ↓l_n4, ↓l_n10, ↓l_n20, l_0, l_1, l_2, l_3, l_4, l_5, l_6, l_7, l_8, l_9, l_10, l_13, l_14, l_15, l_16, l_20, l_21, l_24, l_27, l_28, l_30, l_31, l_32, l_35, l_36, l_39, l_40, l_41, l_43, l_44, l_45, l_46, l_47, l_48, l_49, l_56, l_57, l_59, l_60, l_79, l_97, l_122, l_160, l_237, l_255, l_320, l_999, l_1000, nI_add, pk_mul, nI_eq, nI_leI, nI_ltI, nI_clamp, inb_nI_iff, e_within, e_in32, e_asNumber, e_flag, decide_eq_true_eq, Sum.elim_inl, Sum.elim_inr, true_implies, not_true_eq_false, not_false_eq_true, false_implies, and_true, true_and, nI_nn, nn_nI, nn_nn, ↓reduceIte, if_true, if_false, Nat.le_refl, implies_true, Nat.lt_irrefl, and_self_left, win1, nI_le_s1, Nat.zero_le, up_s, up_o, Nat.zero_add, m64_0, m64_1, m64_2, m64_3, m64_7, m64_8, m64_9, m64_10, m64_13, m64_20, m64_27, m64_60, c1', f1, f2, f3, f4, d5, hq, b2i_b]
            refine ⟨fun e => by omega, fun _ => ?_⟩
            repeat (refine ⟨by omega, ?_⟩)
            refine ⟨fun q => ⟨q3, q5 (hs'.mp q)⟩, fun q => ⟨j, hj, by simpa using (fun w => q (hs'.mpr w))⟩⟩
        · simp (disch := omega) only [wp_some, wp_obd, wp_ob2, wp_bnd, wp_gd, wp_ite, wp_true, wp_ff, ↓l_n1, ↓l_n2, ↓l_n3, ↓l_n4, ↓l_n10, ↓l_n20, l_0, l_1, l_2, l_3, l_4, l_5, l_6, l_7, l_8, l_9, l_10, l_13, l_14, l_15, l_16, l_20, l_21, l_24, l_27, l_28, l_30, l_31, l_32, l_35, l_36, l_39, l_40, l_41, l_43, l_44, l_45, l_46, l_47, l_48, l_49, l_56, l_57, l_59, l_60, l_79, l_97, l_122, l_160, l_237, l_255, l_320, l_999, l_1000, nI_add, pk_mul, nI_eq, nI_leI, nI_ltI, nI_clamp, inb_nI_iff, e_within, e_in32, e_asNumber, e_flag, decide_eq_true_eq, Sum.elim_inl, Sum.elim_inr, true_implies, not_true_eq_false, not_false_eq_true, false_implies, and_true, true_and, nI_nn, nn_nI, nn_nn, ↓reduceIte, if_true, if_false, Nat.le_refl, implies_true, Nat.lt_irrefl, and_self_left, win1, nI_le_s1, Nat.zero_le, up_s, up_o, Nat.zero_add, m64_0, m64_1, m64_2, m64_3, m64_7, m64_8, m64_9, m64_10, m64_13, m64_20, m64_27, m64_60, c1', f1, e]
          refine ⟨fun e => by omega, fun _ => ⟨by omega, ?_⟩⟩
          refine ⟨q3, fun i hi he => ?_⟩
          by_cases e2 : i = j
          · subst e2; exact absurd he e
          · exact q4 i (by omega) he
    · rintro ⟨b, x⟩ ⟨hx, q1, q2⟩
      dsimp only at hx q1 q2
      subst hx
      simp (disch := omega) only [wp_some, wp_obd, wp_ob2, wp_bnd, wp_gd, wp_ite, wp_true, wp_ff, ↓l_n1, ↓l_n2, ↓l_n3, ↓l_n4, ↓l_n10, ↓l_n20, l_0, l_1, l_2, l_3, l_4, l_5, l_6, l_7, l_8, l_9, l_10, l_13, l_14, l_15, l_16, l_20, l_21, l_24, l_27, l_28, l_30, l_31, l_32, l_35, l_36, l_39, l_40, l_41, l_43, l_44, l_45, l_46, l_47, l_48, l_49, l_56, l_57, l_59, l_60, l_79, l_97, l_122, l_160, l_237, l_255, l_320, l_999, l_1000, nI_add, pk_mul, nI_eq, nI_leI, nI_ltI, nI_clamp, inb_nI_iff, e_within, e_in32, e_asNumber, e_flag, decide_eq_true_eq, Sum.elim_inl, Sum.elim_inr, true_implies, not_true_eq_false, not_false_eq_true, false_implies, and_true, true_and, nI_nn, nn_nI, nn_nn, ↓reduceIte, if_true, if_false, Nat.le_refl, implies_true, Nat.lt_irrefl, and_self_left, win1, nI_le_s1, Nat.zero_le, up_s, up_o, Nat.zero_add, m64_0, m64_1, m64_2, m64_3, m64_7, m64_8, m64_9, m64_10, m64_13, m64_20, m64_27, m64_60, c1']
      refine ⟨fun e i hi he => ?_, q2⟩
      by_cases e2 : T 1 i = n
      · exact (q1 e).2 i hi e2
      · exact (q1 e).1 i hi (by omega)
    rintro e ⟨q1, q2⟩
    refine (m_steps hm (WF_stn hW n) (by omega)).mono ?_
    rintro h2 ⟨g1, g2⟩
    exact ⟨g1, hF.tr g2, q1, q2⟩
  · rintro ⟨b, x, z⟩ ⟨hx, hm, hF, hb1, hb2⟩
    dsimp only at hx hm hF hb1 hb2
    subst hx
    simp (disch := omega) only [wp_some, wp_obd, wp_ob2, wp_bnd, wp_gd, wp_ite, wp_true, wp_ff, ↓l_n1, ↓l_n2, ↓l_n3, ↓l_n4, ↓l_n10, ↓l_n20, l_0, l_1, l_2, l_3, l_4, l_5, l_6, l_7, l_8, l_9, l_10, l_13, l_14, l_15, l_16, l_20, l_21, l_24, l_27, l_28, l_30, l_31, l_32, l_35, l_36, l_39, l_40, l_41, l_43, l_44, l_45, l_46, l_47, l_48, l_49, l_56, l_57, l_59, l_60, l_79, l_97, l_122, l_160, l_237, l_255, l_320, l_999, l_1000, nI_add, pk_mul, nI_eq, nI_leI, nI_ltI, nI_clamp, inb_nI_iff, e_within, e_in32, e_asNumber, e_flag, decide_eq_true_eq, Sum.elim_inl, Sum.elim_inr, true_implies, not_true_eq_false, not_false_eq_true, false_implies, and_true, true_and, nI_nn, nn_nI, nn_nn, ↓reduceIte, if_true, if_false, Nat.le_refl, implies_true, Nat.lt_irrefl, and_self_left, win1, nI_le_s1, Nat.zero_le, up_s, up_o, Nat.zero_add, m64_0, m64_1, m64_2, m64_3, m64_7, m64_8, m64_9, m64_10, m64_13, m64_20, m64_27, m64_60]
    refine ⟨fun _ => ⟨?_, hF⟩, fun e => by omega⟩
    cases b with
    | true => exact (hld_t (fun i hi => hb1 rfl i hi (by have := (t1 i hi).1; omega))).symm
    | false =>
      obtain ⟨i, hi, hf⟩ := hb2 rfl
      exact (hld_f hi hf).symm
end Tri
