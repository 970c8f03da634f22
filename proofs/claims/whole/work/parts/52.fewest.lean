/-- only the crabs of the set s act -/
def aw (B : Bs) (s : Nat) : Nat → Bs
  | 0 => ub B 6 0 0
  | k + 1 => if s / 2 ^ k % 2 = 1 then ub (ub (aw B s k) 8 (aw B s k 6 0) k) 6 0 (aw B s k 6 0 + 1) else aw B s k
theorem aw_t {B : Bs} {s k : Nat} (h : s / 2 ^ k % 2 = 1) : aw B s (k + 1) = ub (ub (aw B s k) 8 (aw B s k 6 0) k) 6 0 (aw B s k 6 0 + 1) := by
  show (if _ then _ else _) = _
  rw [if_pos h]
theorem aw_n {B : Bs} {s k : Nat} (h : ¬ s / 2 ^ k % 2 = 1) : aw B s (k + 1) = aw B s k := by
  show (if _ then _ else _) = _
  rw [if_neg h]
theorem aw_f {B : Bs} {s f i : Nat} (h1 : f ≠ 6) (h2 : f ≠ 8) : ∀ {k : Nat}, aw B s k f i = B f i
  | 0 => ub_n h1
  | k + 1 => by
    by_cases h : s / 2 ^ k % 2 = 1
    · rw [aw_t h, ub_n h1, ub_n h2, aw_f h1 h2]
    · rw [aw_n h, aw_f h1 h2]
def pc (s : Nat) : Nat → Nat
  | 0 => 0
  | k + 1 => pc s k + s / 2 ^ k % 2
theorem pc_le {s : Nat} : ∀ {k : Nat}, pc s k ≤ k
  | 0 => Nat.le_refl _
  | k + 1 => by
    have := pc_le (s := s) (k := k)
    have : s / 2 ^ k % 2 < 2 := Nat.mod_lt _ (by decide)
    show pc s k + _ ≤ _
    omega
theorem aw_6 {B : Bs} {s : Nat} : ∀ {k : Nat}, aw B s k 6 0 = pc s k
  | 0 => by show ub B 6 0 0 6 0 = 0; simp [ub]
  | k + 1 => by
    have e : pc s (k + 1) = pc s k + s / 2 ^ k % 2 := rfl
    by_cases h : s / 2 ^ k % 2 = 1
    · rw [aw_t h, e, h, aw_6]; simp [ub]
    · have : s / 2 ^ k % 2 < 2 := Nat.mod_lt _ (by decide)
      have h0 : s / 2 ^ k % 2 = 0 := by omega
      rw [aw_n h, e, h0, aw_6]; rfl
theorem aw_8 {B : Bs} {s : Nat} : ∀ {k : Nat}, (∀ i, i < pc s k → aw B s k 8 i < k) ∧ ∀ i j, i < pc s k → j < pc s k → aw B s k 8 i = aw B s k 8 j → i = j
  | 0 => ⟨fun i hi => by simp [pc] at hi, fun i j hi => by simp [pc] at hi⟩
  | k + 1 => by
    obtain ⟨a, b⟩ := aw_8 (B := B) (s := s) (k := k)
    have e : pc s (k + 1) = pc s k + s / 2 ^ k % 2 := rfl
    by_cases h : s / 2 ^ k % 2 = 1
    · have g : ∀ i, aw B s (k + 1) 8 i = if i = pc s k then k else aw B s k 8 i := by
        intro i
        rw [aw_t h, aw_6]
        unfold ub
        by_cases e : i = pc s k
        · simp [e]
        · simp [e]
      rw [e, h]
      refine ⟨fun i hi => ?_, fun i j hi hj he => ?_⟩
      · rw [g]
        by_cases q : i = pc s k
        · rw [if_pos q]; omega
        · rw [if_neg q]; have := a i (by omega); omega
      · rw [g, g] at he
        by_cases q : i = pc s k
        · by_cases q' : j = pc s k
          · omega
          · rw [if_pos q, if_neg q'] at he; have := a j (by omega); omega
        · by_cases q' : j = pc s k
          · rw [if_neg q, if_pos q'] at he; have := a i (by omega); omega
          · rw [if_neg q, if_neg q'] at he; exact b i j (by omega) (by omega) he
    · have : s / 2 ^ k % 2 < 2 := Nat.mod_lt _ (by decide)
      have h0 : s / 2 ^ k % 2 = 0 := by omega
      rw [e, h0, Nat.add_zero, aw_n h]
      exact ⟨fun i hi => by have := a i hi; omega, b⟩
theorem WF_aw {B : Bs} {S s : Nat} (hW : WF S B) : WF S (aw B s (B 2 0)) := by
  obtain ⟨hW0, hW1, hW2, hW3, hW4, hW5, hW6, hW7, hW8, hW9, hW10, hW11, hW12⟩ := hW
  have g : ∀ f i, f ≠ 6 → f ≠ 8 → aw B s (B 2 0) f i = B f i := fun f i a b => aw_f a b
  have p1 := pc_le (s := s) (k := B 2 0)
  obtain ⟨p2, p3⟩ := aw_8 (B := B) (s := s) (k := B 2 0)
  unfold WF wok
  simp only [g 0 _ (by decide) (by decide), g 1 _ (by decide) (by decide), g 2 _ (by decide) (by decide), g 3 _ (by decide) (by decide), g 4 _ (by decide) (by decide), g 5 _ (by decide) (by decide), aw_6, g 7 _ (by decide) (by decide), g 9 _ (by decide) (by decide), g 10 _ (by decide) (by decide), g 11 _ (by decide) (by decide), g 12 _ (by decide) (by decide), g 13 _ (by decide) (by decide), g 14 _ (by decide) (by decide), g 15 _ (by decide) (by decide)]
  exact ⟨hW0, hW1, hW2, hW3, hW4, hW5, by omega, hW7, p2, p3, hW10, hW11, hW12⟩
theorem CB_60 {h : Mem} {o : Nat} {B : Bs} (hC : CB0 h o B) : CB0 (up h 1 10 o 0 (nI 0)) o (ub B 6 0 0) := by
  obtain ⟨hM0, hM1, hM2, hM3, hM4, hM5, hM6, hM7, hM8, hM9, hM10⟩ := hC
  exact ⟨by simpa [up, ub] using hM0, by simpa [up, ub] using hM1, by simpa [up, ub] using hM2, by simpa [up, ub] using hM3, by simpa [up, ub] using hM4, by simpa [up, ub] using hM5, by simp [up, ub], by simpa [up, ub] using hM7, fun i hi => by simp [ub] at hi, by simpa [up, ub] using hM9, by simpa [up, ub] using hM10⟩
theorem MT_60 {h : Mem} {B : Bs} (hC : MT h B) : MT (up h 24 26 0 0 (nI 0)) (ub B 6 0 0) := by
  obtain ⟨hM0, hM1, hM2, hM3, hM4, hM5, hM6, hM7, hM8, hM9, hM10⟩ := hC
  exact ⟨by simpa [up, ub] using hM0, by simpa [up, ub] using hM1, by simpa [up, ub] using hM2, by simpa [up, ub] using hM3, by simpa [up, ub] using hM4, by simpa [up, ub] using hM5, by simp [up, ub], by simpa [up, ub] using hM7, fun i hi => by simp [ub] at hi, by simpa [up, ub] using hM9, by simpa [up, ub] using hM10⟩
theorem CB_86 {h : Mem} {o n : Nat} {B : Bs} {v : Nat} (hC : CB0 h o B) (hn : B 6 0 = n) : CB0 (up (up h 5 0 o n (nI v)) 1 10 o 0 (nI (n + 1))) o (ub (ub B 8 n v) 6 0 (n + 1)) := by
  obtain ⟨hM0, hM1, hM2, hM3, hM4, hM5, hM6, hM7, hM8, hM9, hM10⟩ := hC
  refine ⟨by simpa [up, ub] using hM0, by simpa [up, ub] using hM1, by simpa [up, ub] using hM2, by simpa [up, ub] using hM3, by simpa [up, ub] using hM4, by simpa [up, ub] using hM5, by simp [up, ub], by simpa [up, ub] using hM7, fun i hi => ?_, by simpa [up, ub] using hM9, by simpa [up, ub] using hM10⟩
  simp [ub] at hi
  by_cases e : i = n
  · simp [up, ub, e]
  · simpa [up, ub, e] using hM8 i (by omega)
theorem MT_86 {h : Mem} {n : Nat} {B : Bs} {v : Nat} (hC : MT h B) (hn : B 6 0 = n) : MT (up (up h 36 0 0 n (nI v)) 24 26 0 0 (nI (n + 1))) (ub (ub B 8 n v) 6 0 (n + 1)) := by
  obtain ⟨hM0, hM1, hM2, hM3, hM4, hM5, hM6, hM7, hM8, hM9, hM10⟩ := hC
  refine ⟨by simpa [up, ub] using hM0, by simpa [up, ub] using hM1, by simpa [up, ub] using hM2, by simpa [up, ub] using hM3, by simpa [up, ub] using hM4, by simpa [up, ub] using hM5, by simp [up, ub], by simpa [up, ub] using hM7, fun i hi => ?_, by simpa [up, ub] using hM9, by simpa [up, ub] using hM10⟩
  simp [ub] at hi
  by_cases e : i = n
  · simp [up, ub, e]
  · simpa [up, ub, e] using hM8 i (by omega)
theorem FrM.up26 {g : Mem} {v : Int32} : FrM g (_root_.Jvm.Pilot.@@N@@.up g 24 26 0 0 v) := fun k j o i h => up_o (by omega)
theorem bit4 {s c : Nat} (hs : s < 16) (hc : c < 4) : (nI s >>> (nI c &&& nI 31)) &&& nI 1 = nI (s / 2 ^ c % 2) := bit6 s (by omega) c (by omega)
theorem e_bits : ∀ k, k ≤ 4 → ∀ s, s < 2 ^ k → f_J6_bitCount_0f7a4 (nI s) (fun _ _ _ _ => 0) = some (nI (pc s k)) := by decide +kernel
theorem e_bitc {s k : Nat} (h : Mem) (hk : k ≤ 4) (hs : s < 2 ^ k) : f_J6_bitCount_0f7a4 (nI s) h = some (nI (pc s k)) := e_bits k hk s hs
/-- the fewest crabs: how many, which -/
def fw (p : Nat → Bool) (c : Nat → Nat) : Nat → Option (Nat × Nat)
  | 0 => none
  | j + 1 => match fw p c j with
    | none => if p j = true then some (c j, j) else none
    | some q => if c j < q.1 ∧ p j = true then some (c j, j) else some q
theorem fw_0 {p : Nat → Bool} {c : Nat → Nat} {j : Nat} (h : fw p c j = none) : fw p c (j + 1) = if p j = true then some (c j, j) else none := by
  show (match fw p c j with | none => _ | some q => _) = _
  rw [h]
theorem fw_1 {p : Nat → Bool} {c : Nat → Nat} {j : Nat} {q : Nat × Nat} (h : fw p c j = some q) : fw p c (j + 1) = if c j < q.1 ∧ p j = true then some (c j, j) else some q := by
  show (match fw p c j with | none => _ | some q => _) = _
  rw [h]
theorem fw_b {p : Nat → Bool} {c : Nat → Nat} {n : Nat} (hc : ∀ j, c j ≤ n) : ∀ {j : Nat} {q : Nat × Nat}, fw p c j = some q → q.1 ≤ n ∧ q.2 < j
  | 0, q, h => by cases h
  | j + 1, q, h => by
    cases e : fw p c j with
    | none =>
      rw [fw_0 e] at h
      by_cases hp : p j = true
      · rw [if_pos hp] at h; cases h; exact ⟨hc j, Nat.lt_succ_self _⟩
      · rw [if_neg hp] at h; cases h
    | some q' =>
      have := fw_b hc e
      rw [fw_1 e] at h
      by_cases hp : c j < q'.1 ∧ p j = true
      · rw [if_pos hp] at h; cases h; exact ⟨hc j, Nat.lt_succ_self _⟩
      · rw [if_neg hp] at h; cases h; exact ⟨this.1, by omega⟩
section Tri
variable {h g : Mem} {B T : Bs} {o S : Nat}
theorem c_sortedBy (hK : KN h B T) (hW : WN B T) {s : Nat} (hs : s < 16) : Ok (f_X9_isSortedBy (nI s) h) (fun q => q.1 = (srt (aw B s (B 2 0)) 41).isSome ∧ FrO h q.2 1) := by
  have w2 := hW.1.2.2.1
  unfold f_X9_isSortedBy
  rw [wp_obd]
  refine (t_copy hK hW).mono ?_
  rintro h1 ⟨a1, a2, a3⟩
  rw [wp_obd]
  have key : Ok (f_X0_sendAwayAllBut 1 (nI s) h1) (fun h' => CB0 h' 1 (aw B s (B 2 0)) ∧ HL h' 1 (aw B s (B 2 0)) ∧ FrO h1 h' 1) := by
    unfold f_X0_sendAwayAllBut
    rw [wp_bnd, wp_obd]
    refine (ok_up (K := fun h' => CB0 h' 1 (aw B s (B 2 0)) ∧ HL h' 1 (aw B s (B 2 0)) ∧ FrO h1 h' 1) (B 2 0) (fun j z => z.1 = nI j ∧ CB0 z.2 1 (aw B s j) ∧ HL z.2 1 (aw B s j) ∧ FrO h1 z.2 1) (by omega) ?_ ?_ _ ⟨rfl, CB_60 a1, HL_up a2 (by decide) (ub_n (by decide)) (ub_n (by decide)) (fun c _ => ub_n (by decide)), FrO.up (by decide)⟩).mono (fun a ha => wp_some.mpr ha)
    · rintro j ⟨x, z⟩ hj ⟨hx, k1, k2, k3⟩
      dsimp only at hx k1 k2 k3
      subst hx
      have e1 : z 1 4 1 0 = nI (B 2 0) := by rw [k1.2.2.1, aw_f (by decide) (by decide)]
      have e2 : z 1 10 1 0 = nI (pc s j) := by rw [k1.2.2.2.2.2.2.1, aw_6]
      have eb := bit4 (s := s) (c := j) hs (by omega)
      have hb : s / 2 ^ j % 2 < 2 := Nat.mod_lt _ (by decide)
      have hp := pc_le (s := s) (k := j)
      by_cases hq : s / 2 ^ j % 2 = 1
      · rw [hq] at eb
        simp (disch := omega) only [wp_some, wp_obd, wp_ob2, wp_bnd, wp_gd, wp_ite, wp_true, wp_ff, ↓l_n1, ↓l_n2, ↓l_n3, ↓l_n4, ↓l_n10, ↓l_n20, l_0, l_1, l_2, l_3, l_4, l_5, l_6, l_7, l_8, l_9, l_10, l_13, l_14, l_15, l_16, l_20, l_21, l_24, l_27, l_28, l_30, l_31, l_32, l_35, l_36, l_39, l_40, l_41, l_43, l_44, l_45, l_46, l_47, l_48, l_49, l_56, l_57, l_59, l_60, l_79, l_97, l_122, l_160, l_237, l_255, l_320, l_999, l_1000, nI_add, pk_mul, nI_eq, nI_leI, nI_ltI, nI_clamp, inb_nI_iff, e_within, e_in32, e_asNumber, e_flag, decide_eq_true_eq, Sum.elim_inl, Sum.elim_inr, true_implies, not_true_eq_false, not_false_eq_true, false_implies, and_true, true_and, nI_nn, nn_nI, nn_nn, ↓reduceIte, if_true, if_false, Nat.le_refl, implies_true, Nat.lt_irrefl, and_self_left, win1, nI_le_s1, Nat.zero_le, up_s, up_o, Nat.zero_add, m64_0, m64_1, m64_2, m64_3, m64_7, m64_8, m64_9, m64_10, m64_13, m64_20, m64_27, m64_60, e1, e2, eb]
        refine ⟨fun e => by omega, fun _ => ⟨by omega, ?_⟩⟩
        have t1 := CB_86 (v := j) k1 aw_6
        have t2 := HL_up (k := 5) (j := 0) (i := pc s j) (v := nI j) (B' := ub (aw B s j) 8 (pc s j) j) k2 (by decide) (ub_n (by decide)) (ub_n (by decide)) (fun c _ => ub_n (by decide))
        have t3 := HL_up (k := 1) (j := 10) (i := 0) (v := nI (pc s j + 1)) (B' := ub (ub (aw B s j) 8 (pc s j) j) 6 0 (pc s j + 1)) t2 (by decide) (ub_n (by decide)) (ub_n (by decide)) (fun c _ => ub_n (by decide))
        rw [aw_t hq, aw_6]
        exact ⟨t1, t3, k3.tr ((FrO.up (by decide)).tr (FrO.up (by decide)))⟩
      · have h0 : s / 2 ^ j % 2 = 0 := by omega
        rw [h0] at eb
        simp (disch := omega) only [wp_some, wp_obd, wp_ob2, wp_bnd, wp_gd, wp_ite, wp_true, wp_ff, ↓l_n1, ↓l_n2, ↓l_n3, ↓l_n4, ↓l_n10, ↓l_n20, l_0, l_1, l_2, l_3, l_4, l_5, l_6, l_7, l_8, l_9, l_10, l_13, l_14, l_15, l_16, l_20, l_21, l_24, l_27, l_28, l_30, l_31, l_32, l_35, l_36, l_39, l_40, l_41, l_43, l_44, l_45, l_46, l_47, l_48, l_49, l_56, l_57, l_59, l_60, l_79, l_97, l_122, l_160, l_237, l_255, l_320, l_999, l_1000, nI_add, pk_mul, nI_eq, nI_leI, nI_ltI, nI_clamp, inb_nI_iff, e_within, e_in32, e_asNumber, e_flag, decide_eq_true_eq, Sum.elim_inl, Sum.elim_inr, true_implies, not_true_eq_false, not_false_eq_true, false_implies, and_true, true_and, nI_nn, nn_nI, nn_nn, ↓reduceIte, if_true, if_false, Nat.le_refl, implies_true, Nat.lt_irrefl, and_self_left, win1, nI_le_s1, Nat.zero_le, up_s, up_o, Nat.zero_add, m64_0, m64_1, m64_2, m64_3, m64_7, m64_8, m64_9, m64_10, m64_13, m64_20, m64_27, m64_60, e1, e2, eb, Nat.reduceEqDiff]
        rw [aw_n hq]
        exact ⟨fun e => by omega, fun _ => ⟨k1, k2, k3⟩⟩
    · rintro ⟨x, z⟩ ⟨hx, k1, k2, k3⟩
      dsimp only at hx k1 k2 k3
      subst hx
      have e1 : z 1 4 1 0 = nI (B 2 0) := by rw [k1.2.2.1, aw_f (by decide) (by decide)]
      simp (disch := omega) only [wp_some, wp_obd, wp_ob2, wp_bnd, wp_gd, wp_ite, wp_true, wp_ff, ↓l_n1, ↓l_n2, ↓l_n3, ↓l_n4, ↓l_n10, ↓l_n20, l_0, l_1, l_2, l_3, l_4, l_5, l_6, l_7, l_8, l_9, l_10, l_13, l_14, l_15, l_16, l_20, l_21, l_24, l_27, l_28, l_30, l_31, l_32, l_35, l_36, l_39, l_40, l_41, l_43, l_44, l_45, l_46, l_47, l_48, l_49, l_56, l_57, l_59, l_60, l_79, l_97, l_122, l_160, l_237, l_255, l_320, l_999, l_1000, nI_add, pk_mul, nI_eq, nI_leI, nI_ltI, nI_clamp, inb_nI_iff, e_within, e_in32, e_asNumber, e_flag, decide_eq_true_eq, Sum.elim_inl, Sum.elim_inr, true_implies, not_true_eq_false, not_false_eq_true, false_implies, and_true, true_and, nI_nn, nn_nI, nn_nn, ↓reduceIte, if_true, if_false, Nat.le_refl, implies_true, Nat.lt_irrefl, and_self_left, win1, nI_le_s1, Nat.zero_le, up_s, up_o, Nat.zero_add, m64_0, m64_1, m64_2, m64_3, m64_7, m64_8, m64_9, m64_10, m64_13, m64_20, m64_27, m64_60, e1]
      exact ⟨k1, k2, k3⟩
  refine key.mono ?_
  rintro h2 ⟨b1, b2, b3⟩
  rw [wp_ob2]
  refine (c_sorted40 b1 b2 (WF_aw hW.1) (by omega)).mono ?_
  rintro ⟨r, h3⟩ ⟨c1, c2⟩
  dsimp only at c1 c2
  subst c1
  have hF := a3.tr (b3.tr c2)
  cases e : srt (aw B s (B 2 0)) 41 with
  | none => simp (disch := omega) only [wp_some, wp_obd, wp_ob2, wp_bnd, wp_gd, wp_ite, wp_true, wp_ff, ↓l_n1, ↓l_n2, ↓l_n3, ↓l_n4, ↓l_n10, ↓l_n20, l_0, l_1, l_2, l_3, l_4, l_5, l_6, l_7, l_8, l_9, l_10, l_13, l_14, l_15, l_16, l_20, l_21, l_24, l_27, l_28, l_30, l_31, l_32, l_35, l_36, l_39, l_40, l_41, l_43, l_44, l_45, l_46, l_47, l_48, l_49, l_56, l_57, l_59, l_60, l_79, l_97, l_122, l_160, l_237, l_255, l_320, l_999, l_1000, nI_add, pk_mul, nI_eq, nI_leI, nI_ltI, nI_clamp, inb_nI_iff, e_within, e_in32, e_asNumber, e_flag, decide_eq_true_eq, Sum.elim_inl, Sum.elim_inr, true_implies, not_true_eq_false, not_false_eq_true, false_implies, and_true, true_and, nI_nn, nn_nI, nn_nn, ↓reduceIte, if_true, if_false, Nat.le_refl, implies_true, Nat.lt_irrefl, and_self_left, win1, nI_le_s1, Nat.zero_le, up_s, up_o, Nat.zero_add, m64_0, m64_1, m64_2, m64_3, m64_7, m64_8, m64_9, m64_10, m64_13, m64_20, m64_27, m64_60, on_none]; exact ⟨rfl, hF⟩
  | some n =>
    have := srt_lt e
    simp (disch := omega) only [wp_some, wp_obd, wp_ob2, wp_bnd, wp_gd, wp_ite, wp_true, wp_ff, ↓l_n1, ↓l_n2, ↓l_n3, ↓l_n4, ↓l_n10, ↓l_n20, l_0, l_1, l_2, l_3, l_4, l_5, l_6, l_7, l_8, l_9, l_10, l_13, l_14, l_15, l_16, l_20, l_21, l_24, l_27, l_28, l_30, l_31, l_32, l_35, l_36, l_39, l_40, l_41, l_43, l_44, l_45, l_46, l_47, l_48, l_49, l_56, l_57, l_59, l_60, l_79, l_97, l_122, l_160, l_237, l_255, l_320, l_999, l_1000, nI_add, pk_mul, nI_eq, nI_leI, nI_ltI, nI_clamp, inb_nI_iff, e_within, e_in32, e_asNumber, e_flag, decide_eq_true_eq, Sum.elim_inl, Sum.elim_inr, true_implies, not_true_eq_false, not_false_eq_true, false_implies, and_true, true_and, nI_nn, nn_nI, nn_nn, ↓reduceIte, if_true, if_false, Nat.le_refl, implies_true, Nat.lt_irrefl, and_self_left, win1, nI_le_s1, Nat.zero_le, up_s, up_o, Nat.zero_add, m64_0, m64_1, m64_2, m64_3, m64_7, m64_8, m64_9, m64_10, m64_13, m64_20, m64_27, m64_60, on_sm]; exact ⟨rfl, hF⟩
theorem o_fewest (p : Int32) (hR : RI h) : Ok (f_X9_fewest p h) (fun q => Ok (f_X10_fewest p q.2) (fun r => q.1 = r.1 ∧ RI r.2)) := by
  have hR0 := hR
  obtain ⟨B, T, hK, hN, hW, hRs⟩ := hR
  obtain ⟨hM0, hM1, hM2, hM3, hM4, hM5, hM6, hM7, hM8, hM9, hM10⟩ := hK.1
  obtain ⟨⟨⟨s0, s1, s2, s3, s4, s5, s6⟩, n0, n2⟩, hT⟩ := id hN
  have w0 := hW.1.1
  have w1 := hW.1.2.1
  have w2 := hW.1.2.2.1
  by_cases hp : nI 0 ≤ p ∧ p ≤ nI 1
  · have hN2 : 2 ^ B 2 0 ≤ 16 := Nat.pow_le_pow_right (n := 2) (by decide) w2
    have hsh := sh1 (B 2 0) (by omega)
    have hbc := fun (s : Nat) (h : Mem) (hs : s < 2 ^ B 2 0) => e_bitc h w2 hs
    generalize 2 ^ B 2 0 = N at hN2 hsh hbc
    obtain ⟨P, hP⟩ : ∃ P : Nat → Bool, P = fun s => (srt (aw B s (B 2 0)) 41).isSome := ⟨_, rfl⟩
    have hP' : ∀ s, (srt (aw B s (B 2 0)) 41).isSome = P s := fun s => by rw [hP]
    obtain ⟨C, hC⟩ : ∃ C : Nat → Nat, C = fun s => pc s (B 2 0) := ⟨_, rfl⟩
    have hC' : ∀ s, pc s (B 2 0) = C s := fun s => by rw [hC]
    have hCb : ∀ j, C j ≤ B 2 0 := fun j => by rw [← hC']; exact pc_le
    refine comb (v := match fw P C N with
      | none => nn 4
      | some q => if p = nI 1 then nI q.2 else nI q.1) hR0 hN hW ?_ (fun g hg => ?_)
    · unfold f_X9_fewest
      simp (disch := omega) only [wp_some, wp_obd, wp_ob2, wp_bnd, wp_gd, wp_ite, wp_true, wp_ff, ↓l_n1, ↓l_n2, ↓l_n3, ↓l_n4, ↓l_n10, ↓l_n20, l_0, l_1, l_2, l_3, l_4, l_5, l_6, l_7, l_8, l_9, l_10, l_13, l_14, l_15, l_16, l_20, l_21, l_24, l_27, l_28, l_30, l_31, l_32, l_35, l_36, l_39, l_40, l_41, l_43, l_44, l_45, l_46, l_47, l_48, l_49, l_56, l_57, l_59, l_60, l_79, l_97, l_122, l_160, l_237, l_255, l_320, l_999, l_1000, nI_add, pk_mul, nI_eq, nI_leI, nI_ltI, nI_clamp, inb_nI_iff, e_within, e_in32, e_asNumber, e_flag, decide_eq_true_eq, Sum.elim_inl, Sum.elim_inr, true_implies, not_true_eq_false, not_false_eq_true, false_implies, and_true, true_and, nI_nn, nn_nI, nn_nn, ↓reduceIte, if_true, if_false, Nat.le_refl, implies_true, Nat.lt_irrefl, and_self_left, win1, nI_le_s1, Nat.zero_le, up_s, up_o, Nat.zero_add, m64_0, m64_1, m64_2, m64_3, m64_7, m64_8, m64_9, m64_10, m64_13, m64_20, m64_27, m64_60, hp, hM2]
      refine (ok_up (K := fun e => ((fw P C N = none ∧ e.1 = nn 4) ∨ (∃ q, fw P C N = some q ∧ e.1 = nI q.2 ∧ e.2.1 = nI q.1)) ∧ FrO h e.2.2 1) N (fun j z => z.2.2.1 = nI j ∧ ((fw P C j = none ∧ z.1 = nn 4 ∧ z.2.1 = nI (B 2 0 + 1)) ∨ (∃ q, fw P C j = some q ∧ z.1 = nI q.2 ∧ z.2.1 = nI q.1)) ∧ FrO h z.2.2.2 1) (by omega) ?_ ?_ _ ⟨rfl, Or.inl ⟨rfl, rfl, rfl⟩, FrO.rf⟩).mono ?_
      · rintro j ⟨v1, v2, x, z⟩ hj ⟨hx, hv, hF⟩
        dsimp only at hx hv hF
        subst hx
        have e2 : z 1 4 0 0 = nI (B 2 0) := (hF _ _ _ _ (by omega)).trans hM2
        have ebc := fun h => hbc j h (by omega)
        rw [hC'] at ebc
        have hcb := hCb j
        have hsb := c_sortedBy (s := j) (KN_o hK hF) hW (by omega)
        rw [hP'] at hsb
        rcases hv with ⟨q1, rfl, rfl⟩ | ⟨q, q1, rfl, rfl⟩
        · rw [fw_0 q1]
          simp (disch := omega) only [wp_some, wp_obd, wp_ob2, wp_bnd, wp_gd, wp_ite, wp_true, wp_ff, ↓l_n1, ↓l_n2, ↓l_n3, ↓l_n4, ↓l_n10, ↓l_n20, l_0, l_1, l_2, l_3, l_4, l_5, l_6, l_7, l_8, l_9, l_10, l_13, l_14, l_15, l_16, l_20, l_21, l_24, l_27, l_28, l_30, l_31, l_32, l_35, l_36, l_39, l_40, l_41, l_43, l_44, l_45, l_46, l_47, l_48, l_49, l_56, l_57, l_59, l_60, l_79, l_97, l_122, l_160, l_237, l_255, l_320, l_999, l_1000, nI_add, pk_mul, nI_eq, nI_leI, nI_ltI, nI_clamp, inb_nI_iff, e_within, e_in32, e_asNumber, e_flag, decide_eq_true_eq, Sum.elim_inl, Sum.elim_inr, true_implies, not_true_eq_false, not_false_eq_true, false_implies, and_true, true_and, nI_nn, nn_nI, nn_nn, ↓reduceIte, if_true, if_false, Nat.le_refl, implies_true, Nat.lt_irrefl, and_self_left, win1, nI_le_s1, Nat.zero_le, up_s, up_o, Nat.zero_add, m64_0, m64_1, m64_2, m64_3, m64_7, m64_8, m64_9, m64_10, m64_13, m64_20, m64_27, m64_60, e2, hsh, ebc]
          refine ⟨fun e => by omega, fun _ => ⟨fun e => by omega, fun _ => ?_⟩⟩
          refine hsb.mono ?_
          rintro ⟨r, h3⟩ ⟨c1, c2⟩
          dsimp only at c1 c2
          subst c1
          cases hs : P j with
          | false => simp (disch := omega) only [wp_some, wp_obd, wp_ob2, wp_bnd, wp_gd, wp_ite, wp_true, wp_ff, ↓l_n1, ↓l_n2, ↓l_n3, ↓l_n4, ↓l_n10, ↓l_n20, l_0, l_1, l_2, l_3, l_4, l_5, l_6, l_7, l_8, l_9, l_10, l_13, l_14, l_15, l_16, l_20, l_21, l_24, l_27, l_28, l_30, l_31, l_32, l_35, l_36, l_39, l_40, l_41, l_43, l_44, l_45, l_46, l_47, l_48, l_49, l_56, l_57, l_59, l_60, l_79, l_97, l_122, l_160, l_237, l_255, l_320, l_999, l_1000, nI_add, pk_mul, nI_eq, nI_leI, nI_ltI, nI_clamp, inb_nI_iff, e_within, e_in32, e_asNumber, e_flag, decide_eq_true_eq, Sum.elim_inl, Sum.elim_inr, true_implies, not_true_eq_false, not_false_eq_true, false_implies, and_true, true_and, nI_nn, nn_nI, nn_nn, ↓reduceIte, if_true, if_false, Nat.le_refl, implies_true, Nat.lt_irrefl, and_self_left, win1, nI_le_s1, Nat.zero_le, up_s, up_o, Nat.zero_add, m64_0, m64_1, m64_2, m64_3, m64_7, m64_8, m64_9, m64_10, m64_13, m64_20, m64_27, m64_60]; exact ⟨Or.inl trivial, hF.tr c2⟩
          | true => simp (disch := omega) only [wp_some, wp_obd, wp_ob2, wp_bnd, wp_gd, wp_ite, wp_true, wp_ff, ↓l_n1, ↓l_n2, ↓l_n3, ↓l_n4, ↓l_n10, ↓l_n20, l_0, l_1, l_2, l_3, l_4, l_5, l_6, l_7, l_8, l_9, l_10, l_13, l_14, l_15, l_16, l_20, l_21, l_24, l_27, l_28, l_30, l_31, l_32, l_35, l_36, l_39, l_40, l_41, l_43, l_44, l_45, l_46, l_47, l_48, l_49, l_56, l_57, l_59, l_60, l_79, l_97, l_122, l_160, l_237, l_255, l_320, l_999, l_1000, nI_add, pk_mul, nI_eq, nI_leI, nI_ltI, nI_clamp, inb_nI_iff, e_within, e_in32, e_asNumber, e_flag, decide_eq_true_eq, Sum.elim_inl, Sum.elim_inr, true_implies, not_true_eq_false, not_false_eq_true, false_implies, and_true, true_and, nI_nn, nn_nI, nn_nn, ↓reduceIte, if_true, if_false, Nat.le_refl, implies_true, Nat.lt_irrefl, and_self_left, win1, nI_le_s1, Nat.zero_le, up_s, up_o, Nat.zero_add, m64_0, m64_1, m64_2, m64_3, m64_7, m64_8, m64_9, m64_10, m64_13, m64_20, m64_27, m64_60]; exact ⟨Or.inr ⟨_, rfl, rfl, rfl⟩, hF.tr c2⟩
        · have qb := fw_b hCb q1
          rw [fw_1 q1]
          by_cases hq : C j < q.1
          · have hq' : ¬ q.1 ≤ C j := by omega
            simp (disch := omega) only [wp_some, wp_obd, wp_ob2, wp_bnd, wp_gd, wp_ite, wp_true, wp_ff, ↓l_n1, ↓l_n2, ↓l_n3, ↓l_n4, ↓l_n10, ↓l_n20, l_0, l_1, l_2, l_3, l_4, l_5, l_6, l_7, l_8, l_9, l_10, l_13, l_14, l_15, l_16, l_20, l_21, l_24, l_27, l_28, l_30, l_31, l_32, l_35, l_36, l_39, l_40, l_41, l_43, l_44, l_45, l_46, l_47, l_48, l_49, l_56, l_57, l_59, l_60, l_79, l_97, l_122, l_160, l_237, l_255, l_320, l_999, l_1000, nI_add, pk_mul, nI_eq, nI_leI, nI_ltI, nI_clamp, inb_nI_iff, e_within, e_in32, e_asNumber, e_flag, decide_eq_true_eq, Sum.elim_inl, Sum.elim_inr, true_implies, not_true_eq_false, not_false_eq_true, false_implies, and_true, true_and, nI_nn, nn_nI, nn_nn, ↓reduceIte, if_true, if_false, Nat.le_refl, implies_true, Nat.lt_irrefl, and_self_left, win1, nI_le_s1, Nat.zero_le, up_s, up_o, Nat.zero_add, m64_0, m64_1, m64_2, m64_3, m64_7, m64_8, m64_9, m64_10, m64_13, m64_20, m64_27, m64_60, e2, hsh, ebc, hq', hq]
            refine ⟨fun e => by omega, fun _ => ?_⟩
            refine hsb.mono ?_
            rintro ⟨r, h3⟩ ⟨c1, c2⟩
            dsimp only at c1 c2
            subst c1
            cases hs : P j with
            | false => simp (disch := omega) only [wp_some, wp_obd, wp_ob2, wp_bnd, wp_gd, wp_ite, wp_true, wp_ff, ↓l_n1, ↓l_n2, ↓l_n3, ↓l_n4, ↓l_n10, ↓l_n20, l_0, l_1, l_2, l_3, l_4, l_5, l_6, l_7, l_8, l_9, l_10, l_13, l_14, l_15, l_16, l_20, l_21, l_24, l_27, l_28, l_30, l_31, l_32, l_35, l_36, l_39, l_40, l_41, l_43, l_44, l_45, l_46, l_47, l_48, l_49, l_56, l_57, l_59, l_60, l_79, l_97, l_122, l_160, l_237, l_255, l_320, l_999, l_1000, nI_add, pk_mul, nI_eq, nI_leI, nI_ltI, nI_clamp, inb_nI_iff, e_within, e_in32, e_asNumber, e_flag, decide_eq_true_eq, Sum.elim_inl, Sum.elim_inr, true_implies, not_true_eq_false, not_false_eq_true, false_implies, and_true, true_and, nI_nn, nn_nI, nn_nn, ↓reduceIte, if_true, if_false, Nat.le_refl, implies_true, Nat.lt_irrefl, and_self_left, win1, nI_le_s1, Nat.zero_le, up_s, up_o, Nat.zero_add, m64_0, m64_1, m64_2, m64_3, m64_7, m64_8, m64_9, m64_10, m64_13, m64_20, m64_27, m64_60]; exact ⟨Or.inr ⟨_, rfl, rfl, rfl⟩, hF.tr c2⟩
            | true => simp (disch := omega) only [wp_some, wp_obd, wp_ob2, wp_bnd, wp_gd, wp_ite, wp_true, wp_ff, ↓l_n1, ↓l_n2, ↓l_n3, ↓l_n4, ↓l_n10, ↓l_n20, l_0, l_1, l_2, l_3, l_4, l_5, l_6, l_7, l_8, l_9, l_10, l_13, l_14, l_15, l_16, l_20, l_21, l_24, l_27, l_28, l_30, l_31, l_32, l_35, l_36, l_39, l_40, l_41, l_43, l_44, l_45, l_46, l_47, l_48, l_49, l_56, l_57, l_59, l_60, l_79, l_97, l_122, l_160, l_237, l_255, l_320, l_999, l_1000, nI_add, pk_mul, nI_eq, nI_leI, nI_ltI, nI_clamp, inb_nI_iff, e_within, e_in32, e_asNumber, e_flag, decide_eq_true_eq, Sum.elim_inl, Sum.elim_inr, true_implies, not_true_eq_false, not_false_eq_true, false_implies, and_true, true_and, nI_nn, nn_nI, nn_nn, ↓reduceIte, if_true, if_false, Nat.le_refl, implies_true, Nat.lt_irrefl, and_self_left, win1, nI_le_s1, Nat.zero_le, up_s, up_o, Nat.zero_add, m64_0, m64_1, m64_2, m64_3, m64_7, m64_8, m64_9, m64_10, m64_13, m64_20, m64_27, m64_60]; exact ⟨Or.inr ⟨_, rfl, rfl, rfl⟩, hF.tr c2⟩
          · have hq' : q.1 ≤ C j := by omega
            have hq2 : ¬ (C j < q.1 ∧ P j = true) := fun e => hq e.1
            rw [if_neg hq2]
            simp (disch := omega) only [wp_some, wp_obd, wp_ob2, wp_bnd, wp_gd, wp_ite, wp_true, wp_ff, ↓l_n1, ↓l_n2, ↓l_n3, ↓l_n4, ↓l_n10, ↓l_n20, l_0, l_1, l_2, l_3, l_4, l_5, l_6, l_7, l_8, l_9, l_10, l_13, l_14, l_15, l_16, l_20, l_21, l_24, l_27, l_28, l_30, l_31, l_32, l_35, l_36, l_39, l_40, l_41, l_43, l_44, l_45, l_46, l_47, l_48, l_49, l_56, l_57, l_59, l_60, l_79, l_97, l_122, l_160, l_237, l_255, l_320, l_999, l_1000, nI_add, pk_mul, nI_eq, nI_leI, nI_ltI, nI_clamp, inb_nI_iff, e_within, e_in32, e_asNumber, e_flag, decide_eq_true_eq, Sum.elim_inl, Sum.elim_inr, true_implies, not_true_eq_false, not_false_eq_true, false_implies, and_true, true_and, nI_nn, nn_nI, nn_nn, ↓reduceIte, if_true, if_false, Nat.le_refl, implies_true, Nat.lt_irrefl, and_self_left, win1, nI_le_s1, Nat.zero_le, up_s, up_o, Nat.zero_add, m64_0, m64_1, m64_2, m64_3, m64_7, m64_8, m64_9, m64_10, m64_13, m64_20, m64_27, m64_60, e2, hsh, ebc, hq']
            exact ⟨fun e => by omega, fun _ => ⟨Or.inr ⟨_, rfl, rfl, rfl⟩, hF⟩⟩
      · rintro ⟨v1, v2, x, z⟩ ⟨hx, hv, hF⟩
        dsimp only at hx hv hF
        subst hx
        have e2 : z 1 4 0 0 = nI (B 2 0) := (hF _ _ _ _ (by omega)).trans hM2
        simp (disch := omega) only [wp_some, wp_obd, wp_ob2, wp_bnd, wp_gd, wp_ite, wp_true, wp_ff, ↓l_n1, ↓l_n2, ↓l_n3, ↓l_n4, ↓l_n10, ↓l_n20, l_0, l_1, l_2, l_3, l_4, l_5, l_6, l_7, l_8, l_9, l_10, l_13, l_14, l_15, l_16, l_20, l_21, l_24, l_27, l_28, l_30, l_31, l_32, l_35, l_36, l_39, l_40, l_41, l_43, l_44, l_45, l_46, l_47, l_48, l_49, l_56, l_57, l_59, l_60, l_79, l_97, l_122, l_160, l_237, l_255, l_320, l_999, l_1000, nI_add, pk_mul, nI_eq, nI_leI, nI_ltI, nI_clamp, inb_nI_iff, e_within, e_in32, e_asNumber, e_flag, decide_eq_true_eq, Sum.elim_inl, Sum.elim_inr, true_implies, not_true_eq_false, not_false_eq_true, false_implies, and_true, true_and, nI_nn, nn_nI, nn_nn, ↓reduceIte, if_true, if_false, Nat.le_refl, implies_true, Nat.lt_irrefl, and_self_left, win1, nI_le_s1, Nat.zero_le, up_s, up_o, Nat.zero_add, m64_0, m64_1, m64_2, m64_3, m64_7, m64_8, m64_9, m64_10, m64_13, m64_20, m64_27, m64_60, e2, hsh]
        refine ⟨?_, hF⟩
        rcases hv with ⟨q1, rfl, rfl⟩ | ⟨q, q1, rfl, rfl⟩
        · exact Or.inl ⟨q1, rfl⟩
        · exact Or.inr ⟨q, q1, rfl, rfl⟩
      rintro ⟨v1, v2, z⟩ ⟨hv, hF⟩
      dsimp only at hv hF ⊢
      have hF3 := hF.fra (Or.inl rfl)
      rcases hv with ⟨q1, rfl⟩ | ⟨q, q1, rfl, rfl⟩
      · rw [q1]
        exact ⟨fun _ => ⟨rfl, hF3⟩, fun e => absurd rfl e⟩
      · have qb := fw_b hCb q1
        rw [q1]
        refine ⟨fun e => ?_, fun _ => ?_⟩
        · rw [nI_nn (by omega) (by omega)] at e; exact e.elim
        · by_cases q2 : p = nI 1
          · dsimp only
            rw [if_pos q2]; exact ok_ite (fun _ => wp_some.mpr ⟨rfl, hF3⟩) (fun e => absurd q2 e)
          · dsimp only
            rw [if_neg q2]; exact ok_ite (fun e => absurd e q2) (fun _ => wp_some.mpr ⟨rfl, hF3⟩)
    · unfold f_X10_fewest
      simp (disch := omega) only [wp_some, wp_obd, wp_ob2, wp_bnd, wp_gd, wp_ite, wp_true, wp_ff, ↓l_n1, ↓l_n2, ↓l_n3, ↓l_n4, ↓l_n10, ↓l_n20, l_0, l_1, l_2, l_3, l_4, l_5, l_6, l_7, l_8, l_9, l_10, l_13, l_14, l_15, l_16, l_20, l_21, l_24, l_27, l_28, l_30, l_31, l_32, l_35, l_36, l_39, l_40, l_41, l_43, l_44, l_45, l_46, l_47, l_48, l_49, l_56, l_57, l_59, l_60, l_79, l_97, l_122, l_160, l_237, l_255, l_320, l_999, l_1000, nI_add, pk_mul, nI_eq, nI_leI, nI_ltI, nI_clamp, inb_nI_iff, e_within, e_in32, e_asNumber, e_flag, decide_eq_true_eq, Sum.elim_inl, Sum.elim_inr, true_implies, not_true_eq_false, not_false_eq_true, false_implies, and_true, true_and, nI_nn, nn_nI, nn_nn, ↓reduceIte, if_true, if_false, Nat.le_refl, implies_true, Nat.lt_irrefl, and_self_left, win1, nI_le_s1, Nat.zero_le, up_s, up_o, Nat.zero_add, m64_0, m64_1, m64_2, m64_3, m64_7, m64_8, m64_9, m64_10, m64_13, m64_20, m64_27, m64_60, hp]
      refine (ok_up (K := fun e => ((fw P C N = none ∧ e.1 = nn 4 ∧ e.2.1 = nn 4) ∨ (∃ q, fw P C N = some q ∧ e.2.1 = nI q.2 ∧ e.1 = nI q.1)) ∧ FrM g e.2.2) N (fun j z => z.2.2.1 = nI j ∧ ((fw P C j = none ∧ z.1 = nn 4 ∧ z.2.1 = nn 4) ∨ (∃ q, fw P C j = some q ∧ z.2.1 = nI q.2 ∧ z.1 = nI q.1)) ∧ FrM g z.2.2.2) (by omega) ?_ ?_ _ ⟨rfl, Or.inl ⟨rfl, rfl, rfl⟩, FrM.rf⟩).mono ?_
      · rintro j ⟨v1, v2, x, z⟩ hj ⟨hx, hv, hF⟩
        dsimp only at hx hv hF
        subst hx
        have e2 : z 24 3 0 0 = nI (B 2 0) := (hF _ _ _ _ (by omega)).trans hg.1.2.2
        have hcb := hCb j
        simp (disch := omega) only [wp_some, wp_obd, wp_ob2, wp_bnd, wp_gd, wp_ite, wp_true, wp_ff, ↓l_n1, ↓l_n2, ↓l_n3, ↓l_n4, ↓l_n10, ↓l_n20, l_0, l_1, l_2, l_3, l_4, l_5, l_6, l_7, l_8, l_9, l_10, l_13, l_14, l_15, l_16, l_20, l_21, l_24, l_27, l_28, l_30, l_31, l_32, l_35, l_36, l_39, l_40, l_41, l_43, l_44, l_45, l_46, l_47, l_48, l_49, l_56, l_57, l_59, l_60, l_79, l_97, l_122, l_160, l_237, l_255, l_320, l_999, l_1000, nI_add, pk_mul, nI_eq, nI_leI, nI_ltI, nI_clamp, inb_nI_iff, e_within, e_in32, e_asNumber, e_flag, decide_eq_true_eq, Sum.elim_inl, Sum.elim_inr, true_implies, not_true_eq_false, not_false_eq_true, false_implies, and_true, true_and, nI_nn, nn_nI, nn_nn, ↓reduceIte, if_true, if_false, Nat.le_refl, implies_true, Nat.lt_irrefl, and_self_left, win1, nI_le_s1, Nat.zero_le, up_s, up_o, Nat.zero_add, m64_0, m64_1, m64_2, m64_3, m64_7, m64_8, m64_9, m64_10, m64_13, m64_20, m64_27, m64_60, e2, hsh]
        refine ⟨fun e => by omega, fun _ => ?_⟩
        refine (t_starts (RN_m hg hW hF) hW).mono ?_
        rintro h1 ⟨a1, a2⟩
        refine (ok_up (K := fun h' => MT h' (aw B j (B 2 0)) ∧ FrM h1 h') (B 2 0) (fun i y => y.1 = nI i ∧ MT y.2 (aw B j i) ∧ FrM h1 y.2) (by omega) ?_ ?_ _ ⟨rfl, MT_60 a1, FrM.up26⟩).mono ?_
        · rintro i ⟨x, z⟩ hi ⟨hx, k1, k3⟩
          dsimp only at hx k1 k3
          subst hx
          have e1 : z 24 3 0 0 = nI (B 2 0) := by rw [k1.2.2.1, aw_f (by decide) (by decide)]
          have e2 : z 24 26 0 0 = nI (pc j i) := by rw [k1.2.2.2.2.2.2.1, aw_6]
          have eb := bit4 (s := j) (c := i) (by omega) (by omega)
          have hb : j / 2 ^ i % 2 < 2 := Nat.mod_lt _ (by decide)
          have hp := pc_le (s := j) (k := i)
          by_cases hq : j / 2 ^ i % 2 = 1
          · rw [hq] at eb
            simp (disch := omega) only [wp_some, wp_obd, wp_ob2, wp_bnd, wp_gd, wp_ite, wp_true, wp_ff, ↓l_n1, ↓l_n2, ↓l_n3, ↓l_n4, ↓l_n10, ↓l_n20, l_0, l_1, l_2, l_3, l_4, l_5, l_6, l_7, l_8, l_9, l_10, l_13, l_14, l_15, l_16, l_20, l_21, l_24, l_27, l_28, l_30, l_31, l_32, l_35, l_36, l_39, l_40, l_41, l_43, l_44, l_45, l_46, l_47, l_48, l_49, l_56, l_57, l_59, l_60, l_79, l_97, l_122, l_160, l_237, l_255, l_320, l_999, l_1000, nI_add, pk_mul, nI_eq, nI_leI, nI_ltI, nI_clamp, inb_nI_iff, e_within, e_in32, e_asNumber, e_flag, decide_eq_true_eq, Sum.elim_inl, Sum.elim_inr, true_implies, not_true_eq_false, not_false_eq_true, false_implies, and_true, true_and, nI_nn, nn_nI, nn_nn, ↓reduceIte, if_true, if_false, Nat.le_refl, implies_true, Nat.lt_irrefl, and_self_left, win1, nI_le_s1, Nat.zero_le, up_s, up_o, Nat.zero_add, m64_0, m64_1, m64_2, m64_3, m64_7, m64_8, m64_9, m64_10, m64_13, m64_20, m64_27, m64_60, e1, e2, eb]
            refine ⟨fun e => by omega, fun _ => ⟨by omega, ?_⟩⟩
            have t1 := MT_86 (v := i) k1 aw_6
            rw [aw_t hq, aw_6]
            exact ⟨t1, k3.tr ((FrM.up (by decide)).tr FrM.up26)⟩
          · have h0 : j / 2 ^ i % 2 = 0 := by omega
            rw [h0] at eb
            simp (disch := omega) only [wp_some, wp_obd, wp_ob2, wp_bnd, wp_gd, wp_ite, wp_true, wp_ff, ↓l_n1, ↓l_n2, ↓l_n3, ↓l_n4, ↓l_n10, ↓l_n20, l_0, l_1, l_2, l_3, l_4, l_5, l_6, l_7, l_8, l_9, l_10, l_13, l_14, l_15, l_16, l_20, l_21, l_24, l_27, l_28, l_30, l_31, l_32, l_35, l_36, l_39, l_40, l_41, l_43, l_44, l_45, l_46, l_47, l_48, l_49, l_56, l_57, l_59, l_60, l_79, l_97, l_122, l_160, l_237, l_255, l_320, l_999, l_1000, nI_add, pk_mul, nI_eq, nI_leI, nI_ltI, nI_clamp, inb_nI_iff, e_within, e_in32, e_asNumber, e_flag, decide_eq_true_eq, Sum.elim_inl, Sum.elim_inr, true_implies, not_true_eq_false, not_false_eq_true, false_implies, and_true, true_and, nI_nn, nn_nI, nn_nn, ↓reduceIte, if_true, if_false, Nat.le_refl, implies_true, Nat.lt_irrefl, and_self_left, win1, nI_le_s1, Nat.zero_le, up_s, up_o, Nat.zero_add, m64_0, m64_1, m64_2, m64_3, m64_7, m64_8, m64_9, m64_10, m64_13, m64_20, m64_27, m64_60, e1, e2, eb, Nat.reduceEqDiff]
            rw [aw_n hq]
            exact ⟨fun e => by omega, fun _ => ⟨k1, k3⟩⟩
        · rintro ⟨x, z⟩ ⟨hx, k1, k3⟩
          dsimp only at hx k1 k3
          subst hx
          have e1 : z 24 3 0 0 = nI (B 2 0) := by rw [k1.2.2.1, aw_f (by decide) (by decide)]
          simp (disch := omega) only [wp_some, wp_obd, wp_ob2, wp_bnd, wp_gd, wp_ite, wp_true, wp_ff, ↓l_n1, ↓l_n2, ↓l_n3, ↓l_n4, ↓l_n10, ↓l_n20, l_0, l_1, l_2, l_3, l_4, l_5, l_6, l_7, l_8, l_9, l_10, l_13, l_14, l_15, l_16, l_20, l_21, l_24, l_27, l_28, l_30, l_31, l_32, l_35, l_36, l_39, l_40, l_41, l_43, l_44, l_45, l_46, l_47, l_48, l_49, l_56, l_57, l_59, l_60, l_79, l_97, l_122, l_160, l_237, l_255, l_320, l_999, l_1000, nI_add, pk_mul, nI_eq, nI_leI, nI_ltI, nI_clamp, inb_nI_iff, e_within, e_in32, e_asNumber, e_flag, decide_eq_true_eq, Sum.elim_inl, Sum.elim_inr, true_implies, not_true_eq_false, not_false_eq_true, false_implies, and_true, true_and, nI_nn, nn_nI, nn_nn, ↓reduceIte, if_true, if_false, Nat.le_refl, implies_true, Nat.lt_irrefl, and_self_left, win1, nI_le_s1, Nat.zero_le, up_s, up_o, Nat.zero_add, m64_0, m64_1, m64_2, m64_3, m64_7, m64_8, m64_9, m64_10, m64_13, m64_20, m64_27, m64_60, e1]
          exact ⟨k1, k3⟩
        rintro h2 ⟨b1, b2⟩
        have e26 : h2 24 26 0 0 = nI (C j) := by rw [b1.2.2.2.2.2.2.1, aw_6, hC']
        have hsb := m_sorted b1 (WF_aw hW.1) (by omega)
        have hPj := hP' j
        have hF2 := hF.tr (a2.tr b2)
        rcases hv with ⟨q1, rfl, rfl⟩ | ⟨q, q1, rfl, rfl⟩
        · rw [fw_0 q1]
          simp (disch := omega) only [wp_some, wp_obd, wp_ob2, wp_bnd, wp_gd, wp_ite, wp_true, wp_ff, ↓l_n1, ↓l_n2, ↓l_n3, ↓l_n4, ↓l_n10, ↓l_n20, l_0, l_1, l_2, l_3, l_4, l_5, l_6, l_7, l_8, l_9, l_10, l_13, l_14, l_15, l_16, l_20, l_21, l_24, l_27, l_28, l_30, l_31, l_32, l_35, l_36, l_39, l_40, l_41, l_43, l_44, l_45, l_46, l_47, l_48, l_49, l_56, l_57, l_59, l_60, l_79, l_97, l_122, l_160, l_237, l_255, l_320, l_999, l_1000, nI_add, pk_mul, nI_eq, nI_leI, nI_ltI, nI_clamp, inb_nI_iff, e_within, e_in32, e_asNumber, e_flag, decide_eq_true_eq, Sum.elim_inl, Sum.elim_inr, true_implies, not_true_eq_false, not_false_eq_true, false_implies, and_true, true_and, nI_nn, nn_nI, nn_nn, ↓reduceIte, if_true, if_false, Nat.le_refl, implies_true, Nat.lt_irrefl, and_self_left, win1, nI_le_s1, Nat.zero_le, up_s, up_o, Nat.zero_add, m64_0, m64_1, m64_2, m64_3, m64_7, m64_8, m64_9, m64_10, m64_13, m64_20, m64_27, m64_60, e26]
          refine hsb.mono ?_
          rintro ⟨r, h3⟩ ⟨c1, c2⟩
          dsimp only at c1 c2
          subst c1
          cases hs : srt (aw B j (B 2 0)) 41 with
          | none =>
            have hf : P j = false := by rw [← hPj, hs]; rfl
            simp (disch := omega) only [wp_some, wp_obd, wp_ob2, wp_bnd, wp_gd, wp_ite, wp_true, wp_ff, ↓l_n1, ↓l_n2, ↓l_n3, ↓l_n4, ↓l_n10, ↓l_n20, l_0, l_1, l_2, l_3, l_4, l_5, l_6, l_7, l_8, l_9, l_10, l_13, l_14, l_15, l_16, l_20, l_21, l_24, l_27, l_28, l_30, l_31, l_32, l_35, l_36, l_39, l_40, l_41, l_43, l_44, l_45, l_46, l_47, l_48, l_49, l_56, l_57, l_59, l_60, l_79, l_97, l_122, l_160, l_237, l_255, l_320, l_999, l_1000, nI_add, pk_mul, nI_eq, nI_leI, nI_ltI, nI_clamp, inb_nI_iff, e_within, e_in32, e_asNumber, e_flag, decide_eq_true_eq, Sum.elim_inl, Sum.elim_inr, true_implies, not_true_eq_false, not_false_eq_true, false_implies, and_true, true_and, nI_nn, nn_nI, nn_nn, ↓reduceIte, if_true, if_false, Nat.le_refl, implies_true, Nat.lt_irrefl, and_self_left, win1, nI_le_s1, Nat.zero_le, up_s, up_o, Nat.zero_add, m64_0, m64_1, m64_2, m64_3, m64_7, m64_8, m64_9, m64_10, m64_13, m64_20, m64_27, m64_60, on_none, hf]; exact ⟨Or.inl trivial, hF2.tr c2⟩
          | some n =>
            have := srt_lt hs
            have hf : P j = true := by rw [← hPj, hs]; rfl
            simp (disch := omega) only [wp_some, wp_obd, wp_ob2, wp_bnd, wp_gd, wp_ite, wp_true, wp_ff, ↓l_n1, ↓l_n2, ↓l_n3, ↓l_n4, ↓l_n10, ↓l_n20, l_0, l_1, l_2, l_3, l_4, l_5, l_6, l_7, l_8, l_9, l_10, l_13, l_14, l_15, l_16, l_20, l_21, l_24, l_27, l_28, l_30, l_31, l_32, l_35, l_36, l_39, l_40, l_41, l_43, l_44, l_45, l_46, l_47, l_48, l_49, l_56, l_57, l_59, l_60, l_79, l_97, l_122, l_160, l_237, l_255, l_320, l_999, l_1000, nI_add, pk_mul, nI_eq, nI_leI, nI_ltI, nI_clamp, inb_nI_iff, e_within, e_in32, e_asNumber, e_flag, decide_eq_true_eq, Sum.elim_inl, Sum.elim_inr, true_implies, not_true_eq_false, not_false_eq_true, false_implies, and_true, true_and, nI_nn, nn_nI, nn_nn, ↓reduceIte, if_true, if_false, Nat.le_refl, implies_true, Nat.lt_irrefl, and_self_left, win1, nI_le_s1, Nat.zero_le, up_s, up_o, Nat.zero_add, m64_0, m64_1, m64_2, m64_3, m64_7, m64_8, m64_9, m64_10, m64_13, m64_20, m64_27, m64_60, on_sm, hf]; exact ⟨Or.inr ⟨_, rfl, rfl, rfl⟩, hF2.tr c2⟩
        · have qb := fw_b hCb q1
          rw [fw_1 q1]
          by_cases hq : C j < q.1
          · have hq' : ¬ q.1 ≤ C j := by omega
            simp (disch := omega) only [wp_some, wp_obd, wp_ob2, wp_bnd, wp_gd, wp_ite, wp_true, wp_ff, ↓l_n1, ↓l_n2, ↓l_n3, ↓l_n4, ↓l_n10, ↓l_n20, l_0, l_1, l_2, l_3, l_4, l_5, l_6, l_7, l_8, l_9, l_10, l_13, l_14, l_15, l_16, l_20, l_21, l_24, l_27, l_28, l_30, l_31, l_32, l_35, l_36, l_39, l_40, l_41, l_43, l_44, l_45, l_46, l_47, l_48, l_49, l_56, l_57, l_59, l_60, l_79, l_97, l_122, l_160, l_237, l_255, l_320, l_999, l_1000, nI_add, pk_mul, nI_eq, nI_leI, nI_ltI, nI_clamp, inb_nI_iff, e_within, e_in32, e_asNumber, e_flag, decide_eq_true_eq, Sum.elim_inl, Sum.elim_inr, true_implies, not_true_eq_false, not_false_eq_true, false_implies, and_true, true_and, nI_nn, nn_nI, nn_nn, ↓reduceIte, if_true, if_false, Nat.le_refl, implies_true, Nat.lt_irrefl, and_self_left, win1, nI_le_s1, Nat.zero_le, up_s, up_o, Nat.zero_add, m64_0, m64_1, m64_2, m64_3, m64_7, m64_8, m64_9, m64_10, m64_13, m64_20, m64_27, m64_60, e26, hq', hq]
            refine hsb.mono ?_
            rintro ⟨r, h3⟩ ⟨c1, c2⟩
            dsimp only at c1 c2
            subst c1
            cases hs : srt (aw B j (B 2 0)) 41 with
            | none =>
              have hf : P j = false := by rw [← hPj, hs]; rfl
              simp (disch := omega) only [wp_some, wp_obd, wp_ob2, wp_bnd, wp_gd, wp_ite, wp_true, wp_ff, ↓l_n1, ↓l_n2, ↓l_n3, ↓l_n4, ↓l_n10, ↓l_n20, l_0, l_1, l_2, l_3, l_4, l_5, l_6, l_7, l_8, l_9, l_10, l_13, l_14, l_15, l_16, l_20, l_21, l_24, l_27, l_28, l_30, l_31, l_32, l_35, l_36, l_39, l_40, l_41, l_43, l_44, l_45, l_46, l_47, l_48, l_49, l_56, l_57, l_59, l_60, l_79, l_97, l_122, l_160, l_237, l_255, l_320, l_999, l_1000, nI_add, pk_mul, nI_eq, nI_leI, nI_ltI, nI_clamp, inb_nI_iff, e_within, e_in32, e_asNumber, e_flag, decide_eq_true_eq, Sum.elim_inl, Sum.elim_inr, true_implies, not_true_eq_false, not_false_eq_true, false_implies, and_true, true_and, nI_nn, nn_nI, nn_nn, ↓reduceIte, if_true, if_false, Nat.le_refl, implies_true, Nat.lt_irrefl, and_self_left, win1, nI_le_s1, Nat.zero_le, up_s, up_o, Nat.zero_add, m64_0, m64_1, m64_2, m64_3, m64_7, m64_8, m64_9, m64_10, m64_13, m64_20, m64_27, m64_60, on_none, hf]; exact ⟨Or.inr ⟨_, rfl, rfl, rfl⟩, hF2.tr c2⟩
            | some n =>
              have := srt_lt hs
              have hf : P j = true := by rw [← hPj, hs]; rfl
              simp (disch := omega) only [wp_some, wp_obd, wp_ob2, wp_bnd, wp_gd, wp_ite, wp_true, wp_ff, ↓l_n1, ↓l_n2, ↓l_n3, ↓l_n4, ↓l_n10, ↓l_n20, l_0, l_1, l_2, l_3, l_4, l_5, l_6, l_7, l_8, l_9, l_10, l_13, l_14, l_15, l_16, l_20, l_21, l_24, l_27, l_28, l_30, l_31, l_32, l_35, l_36, l_39, l_40, l_41, l_43, l_44, l_45, l_46, l_47, l_48, l_49, l_56, l_57, l_59, l_60, l_79, l_97, l_122, l_160, l_237, l_255, l_320, l_999, l_1000, nI_add, pk_mul, nI_eq, nI_leI, nI_ltI, nI_clamp, inb_nI_iff, e_within, e_in32, e_asNumber, e_flag, decide_eq_true_eq, Sum.elim_inl, Sum.elim_inr, true_implies, not_true_eq_false, not_false_eq_true, false_implies, and_true, true_and, nI_nn, nn_nI, nn_nn, ↓reduceIte, if_true, if_false, Nat.le_refl, implies_true, Nat.lt_irrefl, and_self_left, win1, nI_le_s1, Nat.zero_le, up_s, up_o, Nat.zero_add, m64_0, m64_1, m64_2, m64_3, m64_7, m64_8, m64_9, m64_10, m64_13, m64_20, m64_27, m64_60, on_sm, hf]; exact ⟨Or.inr ⟨_, rfl, rfl, rfl⟩, hF2.tr c2⟩
          · have hq' : q.1 ≤ C j := by omega
            have hq2 : ¬ (C j < q.1 ∧ P j = true) := fun e => hq e.1
            rw [if_neg hq2]
            simp (disch := omega) only [wp_some, wp_obd, wp_ob2, wp_bnd, wp_gd, wp_ite, wp_true, wp_ff, ↓l_n1, ↓l_n2, ↓l_n3, ↓l_n4, ↓l_n10, ↓l_n20, l_0, l_1, l_2, l_3, l_4, l_5, l_6, l_7, l_8, l_9, l_10, l_13, l_14, l_15, l_16, l_20, l_21, l_24, l_27, l_28, l_30, l_31, l_32, l_35, l_36, l_39, l_40, l_41, l_43, l_44, l_45, l_46, l_47, l_48, l_49, l_56, l_57, l_59, l_60, l_79, l_97, l_122, l_160, l_237, l_255, l_320, l_999, l_1000, nI_add, pk_mul, nI_eq, nI_leI, nI_ltI, nI_clamp, inb_nI_iff, e_within, e_in32, e_asNumber, e_flag, decide_eq_true_eq, Sum.elim_inl, Sum.elim_inr, true_implies, not_true_eq_false, not_false_eq_true, false_implies, and_true, true_and, nI_nn, nn_nI, nn_nn, ↓reduceIte, if_true, if_false, Nat.le_refl, implies_true, Nat.lt_irrefl, and_self_left, win1, nI_le_s1, Nat.zero_le, up_s, up_o, Nat.zero_add, m64_0, m64_1, m64_2, m64_3, m64_7, m64_8, m64_9, m64_10, m64_13, m64_20, m64_27, m64_60, e26, hq']
            exact ⟨Or.inr ⟨_, rfl, rfl, rfl⟩, hF2⟩
      · rintro ⟨v1, v2, x, z⟩ ⟨hx, hv, hF⟩
        dsimp only at hx hv hF
        subst hx
        have e2 : z 24 3 0 0 = nI (B 2 0) := (hF _ _ _ _ (by omega)).trans hg.1.2.2
        simp (disch := omega) only [wp_some, wp_obd, wp_ob2, wp_bnd, wp_gd, wp_ite, wp_true, wp_ff, ↓l_n1, ↓l_n2, ↓l_n3, ↓l_n4, ↓l_n10, ↓l_n20, l_0, l_1, l_2, l_3, l_4, l_5, l_6, l_7, l_8, l_9, l_10, l_13, l_14, l_15, l_16, l_20, l_21, l_24, l_27, l_28, l_30, l_31, l_32, l_35, l_36, l_39, l_40, l_41, l_43, l_44, l_45, l_46, l_47, l_48, l_49, l_56, l_57, l_59, l_60, l_79, l_97, l_122, l_160, l_237, l_255, l_320, l_999, l_1000, nI_add, pk_mul, nI_eq, nI_leI, nI_ltI, nI_clamp, inb_nI_iff, e_within, e_in32, e_asNumber, e_flag, decide_eq_true_eq, Sum.elim_inl, Sum.elim_inr, true_implies, not_true_eq_false, not_false_eq_true, false_implies, and_true, true_and, nI_nn, nn_nI, nn_nn, ↓reduceIte, if_true, if_false, Nat.le_refl, implies_true, Nat.lt_irrefl, and_self_left, win1, nI_le_s1, Nat.zero_le, up_s, up_o, Nat.zero_add, m64_0, m64_1, m64_2, m64_3, m64_7, m64_8, m64_9, m64_10, m64_13, m64_20, m64_27, m64_60, e2, hsh]
        exact ⟨hv, hF⟩
      rintro ⟨v1, v2, z⟩ ⟨hv, hF⟩
      dsimp only at hv hF ⊢
      have hF3 := hF.fra
      have hp01 : p = nI 0 ∨ p = nI 1 := by
        obtain ⟨v, a, b, rfl⟩ := rng (by decide) (by decide) hp
        have : v = 0 ∨ v = 1 := by omega
        rcases this with rfl | rfl
        · exact Or.inl rfl
        · exact Or.inr rfl
      rcases hv with ⟨q1, rfl, rfl⟩ | ⟨q, q1, rfl, rfl⟩
      · rw [q1]
        exact ok_ite (fun _ => wp_some.mpr ⟨rfl, hF3⟩) (fun _ => wp_some.mpr ⟨rfl, hF3⟩)
      · rw [q1]
        dsimp only
        rcases hp01 with q2 | q2
        · have q3 : ¬ p = nI 1 := by rw [q2]; decide
          rw [if_neg q3]; exact ok_ite (fun _ => wp_some.mpr ⟨rfl, hF3⟩) (fun e => absurd q2 e)
        · have q3 : ¬ p = nI 0 := by rw [q2]; decide
          rw [if_pos q2]; exact ok_ite (fun e => absurd e q3) (fun _ => wp_some.mpr ⟨rfl, hF3⟩)
  · unfold f_X9_fewest f_X10_fewest
    simp (disch := omega) only [wp_some, wp_obd, wp_ob2, wp_bnd, wp_gd, wp_ite, wp_true, wp_ff, ↓l_n1, ↓l_n2, ↓l_n3, ↓l_n4, ↓l_n10, ↓l_n20, l_0, l_1, l_2, l_3, l_4, l_5, l_6, l_7, l_8, l_9, l_10, l_13, l_14, l_15, l_16, l_20, l_21, l_24, l_27, l_28, l_30, l_31, l_32, l_35, l_36, l_39, l_40, l_41, l_43, l_44, l_45, l_46, l_47, l_48, l_49, l_56, l_57, l_59, l_60, l_79, l_97, l_122, l_160, l_237, l_255, l_320, l_999, l_1000, nI_add, pk_mul, nI_eq, nI_leI, nI_ltI, nI_clamp, inb_nI_iff, e_within, e_in32, e_asNumber, e_flag, decide_eq_true_eq, Sum.elim_inl, Sum.elim_inr, true_implies, not_true_eq_false, not_false_eq_true, false_implies, and_true, true_and, nI_nn, nn_nI, nn_nn, ↓reduceIte, if_true, if_false, Nat.le_refl, implies_true, Nat.lt_irrefl, and_self_left, win1, nI_le_s1, Nat.zero_le, up_s, up_o, Nat.zero_add, m64_0, m64_1, m64_2, m64_3, m64_7, m64_8, m64_9, m64_10, m64_13, m64_20, m64_27, m64_60, hp]
    exact hR0
end Tri
