/-- on from s while p holds, at most to t -/
def run (p : Nat → Bool) (t : Nat) : Nat → Nat → Nat
  | 0, s => s
  | n + 1, s => if s < t ∧ p s = true then run p t n (s + 1) else s
def rn (p : Nat → Bool) (t s : Nat) : Nat := run p t (t - s) s
theorem rn_t {p : Nat → Bool} {t s : Nat} (h1 : s < t) (h2 : p s = true) : rn p t s = rn p t (s + 1) := by
  unfold rn
  have e : t - s = (t - (s + 1)) + 1 := by omega
  rw [e]
  show (if s < t ∧ p s = true then _ else _) = _
  rw [if_pos ⟨h1, h2⟩]
theorem rn_f {p : Nat → Bool} {t s : Nat} (h : ¬ (s < t ∧ p s = true)) : rn p t s = s := by
  unfold rn
  cases e : t - s with
  | zero => rfl
  | succ n =>
    show (if s < t ∧ p s = true then _ else _) = _
    rw [if_neg h]
theorem run_b {p : Nat → Bool} {t : Nat} : ∀ {n s : Nat}, s ≤ t → s ≤ run p t n s ∧ run p t n s ≤ t
  | 0, s, h => ⟨Nat.le_refl _, h⟩
  | n + 1, s, h => by
    show s ≤ (if s < t ∧ p s = true then _ else _) ∧ (if s < t ∧ p s = true then _ else _) ≤ t
    by_cases q : s < t ∧ p s = true
    · rw [if_pos q]
      have := run_b (p := p) (n := n) (s := s + 1) (t := t) (by omega)
      omega
    · rw [if_neg q]; omega
theorem rn_b {p : Nat → Bool} {t s : Nat} (h : s ≤ t) : s ≤ rn p t s ∧ rn p t s ≤ t := run_b h
theorem run_in {p : Nat → Bool} {t : Nat} : ∀ {n s i : Nat}, s ≤ i → i < run p t n s → p i = true
  | 0, s, i, h1, h2 => by simp [run] at h2; omega
  | n + 1, s, i, h1, h2 => by
    have e : run p t (n + 1) s = if s < t ∧ p s = true then run p t n (s + 1) else s := rfl
    rw [e] at h2
    by_cases q : s < t ∧ p s = true
    · rw [if_pos q] at h2
      by_cases w : i = s
      · rw [w]; exact q.2
      · exact run_in (by omega) h2
    · rw [if_neg q] at h2; omega
theorem rn_in {p : Nat → Bool} {t s i : Nat} (h1 : s ≤ i) (h2 : i < rn p t s) : p i = true := run_in h1 h2
/-- the kind of a byte -/
def kd (c : Nat) : Nat := if 97 ≤ c ∧ c ≤ 122 then 1 else if 48 ≤ c ∧ c ≤ 57 then 2 else if c = 59 then 3 else 4
theorem kd_b (c : Nat) : 1 ≤ kd c ∧ kd c ≤ 4 := by
  unfold kd
  split
  · omega
  · split
    · omega
    · split <;> omega
theorem kd_1 {c : Nat} : kd c = 1 ↔ 97 ≤ c ∧ c ≤ 122 := by
  unfold kd
  split
  · simp_all
  · split
    · simp_all
    · split <;> simp_all
theorem kd_2 {c : Nat} : kd c = 2 ↔ 48 ≤ c ∧ c ≤ 57 := by
  unfold kd
  split
  · constructor
    · intro h; omega
    · intro h; omega
  · split
    · simp_all
    · split
      · constructor
        · intro h; omega
        · intro h; omega
      · constructor
        · intro h; omega
        · intro h; omega
theorem kd_3 {c : Nat} : kd c = 3 ↔ c = 59 := by
  unfold kd
  split
  · constructor
    · intro h; omega
    · intro h; omega
  · split
    · constructor
      · intro h; omega
      · intro h; omega
    · split
      · simp_all
      · simp_all
section Tok
variable (t : Nat) (u : Nat → Nat)
def ta (s : Nat) : Nat := rn (fun i => u i == 32) t s
def tkd (s : Nat) : Nat := if ta t u s < t then kd (u (ta t u s)) else 0
def tb (s : Nat) : Nat := if tkd t u s = 0 then ta t u s else if tkd t u s = 1 ∨ tkd t u s = 2 then rn (fun i => kd (u i) == tkd t u s) t (ta t u s + 1) else ta t u s + 1
def tv (s : Nat) : Nat := if tb t u s - ta t u s = 1 then u (ta t u s) - 48 else 10 * (u (ta t u s) - 48) + (u (ta t u s + 1) - 48)
def bad (s : Nat) : Prop := tkd t u s = 4 ∨ (tkd t u s = 2 ∧ 2 < tb t u s - ta t u s)
end Tok
theorem k_dec : ∀ c, c < 256 → f_X8_kindOf (sby c) (fun _ _ _ _ => 0) = some (nI (kd c)) := by decide +kernel
theorem e_kindOf {c : Nat} (hc : c < 256) (h : Mem) : f_X8_kindOf (sby c) h = some (nI (kd c)) := k_dec c hc
theorem sby_lo {c : Nat} (h : c < 128) : sby c = nI c := by unfold sby; rw [if_pos h]
theorem sby_eq {c d : Nat} (hc : c < 256) (hd : d < 128) : sby c = nI d ↔ c = d := by
  unfold sby
  by_cases h : c < 128
  · rw [if_pos h, nI_eq (by omega) (by omega)]
  · rw [if_neg h, nn_nI (by omega) (by omega)]
    constructor
    · exact False.elim
    · intro e; omega
/-- the tape, as the class holds it; as the reference holds it -/
def CT (h : Mem) (t : Nat) (u : Nat → Nat) : Prop := h 17 1 0 0 = nI t ∧ ∀ i, i < t → h 18 0 0 i = sby (u i)
def RT (h : Mem) (t : Nat) (u : Nat → Nat) : Prop := h 24 10 0 0 = nI t ∧ ∀ i, i < t → h 28 0 0 i = nI (u i)
def UB (t : Nat) (u : Nat → Nat) : Prop := t ≤ 320 ∧ ∀ i, i < t → u i < 256
section Cl
variable {h g : Mem} {t : Nat} {u : Nat → Nat} {s : Nat}
theorem ta_b (hs : s ≤ t) : s ≤ ta t u s ∧ ta t u s ≤ t := rn_b hs
theorem tkd_0 (hs : s ≤ t) : tkd t u s = 0 ↔ ta t u s = t := by
  have := ta_b (u := u) hs
  unfold tkd
  by_cases q : ta t u s < t
  · rw [if_pos q]; have := kd_b (u (ta t u s)); omega
  · rw [if_neg q]; omega
theorem tb_b (hs : s ≤ t) : ta t u s ≤ tb t u s ∧ tb t u s ≤ t ∧ (tkd t u s ≠ 0 → ta t u s < tb t u s) := by
  have a := ta_b (u := u) hs
  have z := tkd_0 (u := u) hs
  unfold tb
  by_cases q : tkd t u s = 0
  · rw [if_pos q]; omega
  · rw [if_neg q]
    have : ta t u s < t := by omega
    split
    · have := rn_b (p := fun i => kd (u i) == tkd t u s) (t := t) (s := ta t u s + 1) (by omega)
      omega
    · omega
theorem CT_fr {h' : Mem} (hC : CT h t u) (hF : ∀ k j o i, k = 17 ∨ k = 18 → h' k j o i = h k j o i) : CT h' t u :=
  ⟨(hF _ _ _ _ (by omega)).trans hC.1, fun i hi => (hF _ _ _ _ (by omega)).trans (hC.2 i hi)⟩
theorem RT_fr {h' : Mem} (hC : RT h t u) (hF : ∀ k j o i, (k = 24 ∧ j = 10) ∨ k = 28 → h' k j o i = h k j o i) : RT h' t u :=
  ⟨(hF _ _ _ _ (by omega)).trans hC.1, fun i hi => (hF _ _ _ _ (by omega)).trans (hC.2 i hi)⟩
theorem c_token (hC : CT h t u) (hU : UB t u) (hs : s ≤ t) (h8 : h 16 8 0 0 = nI s) : Ok (f_X8_takeToken h) (fun q => q.2 16 7 0 0 = nI (ta t u s) ∧ (bad t u s → q.1 = false ∧ q.2 16 2 0 0 = nI 1 ∧ q.2 16 3 0 0 = nI (ta t u s)) ∧ (¬ bad t u s → q.1 = true ∧ q.2 16 6 0 0 = nI (tkd t u s) ∧ q.2 16 8 0 0 = nI (tb t u s) ∧ (tkd t u s = 2 → q.2 16 9 0 0 = nI (tv t u s)) ∧ q.2 16 2 0 0 = h 16 2 0 0) ∧ ∀ k j o i, ¬ (k = 16 ∧ (j = 2 ∨ j = 3 ∨ j = 6 ∨ j = 7 ∨ j = 8 ∨ j = 9)) → q.2 k j o i = h k j o i) := by
  obtain ⟨t1, t2⟩ := hC
  obtain ⟨t3, t4⟩ := hU
  have ha := ta_b (u := u) hs
  have hb := tb_b (u := u) hs
  have hz := tkd_0 (u := u) hs
  unfold f_X8_takeToken
  rw [wp_bnd, wp_obd]
  refine (ok_up (K := fun e => e 16 7 0 0 = nI (ta t u s) ∧ ∀ k j o i, ¬ (k = 16 ∧ j = 7) → e k j o i = h k j o i) (t - s) (fun j z => z 16 7 0 0 = nI (s + j) ∧ s + j ≤ t ∧ rn (fun i => u i == 32) t (s + j) = ta t u s ∧ ∀ k j o i, ¬ (k = 16 ∧ j = 7) → z k j o i = h k j o i) (by omega) ?_ ?_ _ ⟨by (try simp (disch := omega) only [up_s, up_o, and_self]); exact h8, by omega, rfl, fun k j o i hh => by (try simp (disch := omega) only [up_s, up_o, and_self])⟩).mono ?_
  · rintro j z hj ⟨k1, k2, k3, k4⟩
    have e1 : z 17 1 0 0 = nI t := (k4 _ _ _ _ (by omega)).trans t1
    have e2 : z 18 0 0 (s + j) = sby (u (s + j)) := (k4 _ _ _ _ (by omega)).trans (t2 _ (by omega))
    have e3 := t4 (s + j) (by omega)
    by_cases q : u (s + j) = 32
    · have e4 : sby (u (s + j)) = nI 32 := (sby_eq e3 (by omega)).mpr q
      rw [e4] at e2
      simp (disch := omega) only [wp_some, wp_obd, wp_ob2, wp_bnd, wp_gd, wp_ite, wp_true, wp_ff, ↓l_n1, ↓l_n2, ↓l_n3, ↓l_n4, ↓l_n10, ↓l_n20, l_0, l_1, l_2, l_3, l_4, l_5, l_6, l_7, l_8, l_9, l_10, l_13, l_14, l_15, l_16, l_20, l_21, l_24, l_27, l_28, l_30, l_31, l_32, l_35, l_36, l_39, l_40, l_41, l_43, l_44, l_45, l_46, l_47, l_48, l_49, l_56, l_57, l_59, l_60, l_79, l_97, l_122, l_160, l_237, l_255, l_320, l_999, l_1000, nI_add, pk_mul, nI_eq, nI_leI, nI_ltI, nI_clamp, inb_nI_iff, e_within, e_in32, e_asNumber, e_flag, decide_eq_true_eq, Sum.elim_inl, Sum.elim_inr, true_implies, not_true_eq_false, not_false_eq_true, false_implies, and_true, true_and, nI_nn, nn_nI, nn_nn, ↓reduceIte, if_true, if_false, Nat.le_refl, implies_true, Nat.lt_irrefl, and_self_left, win1, nI_le_s1, Nat.zero_le, up_s, up_o, Nat.zero_add, m64_0, m64_1, m64_2, m64_3, m64_7, m64_8, m64_9, m64_10, m64_13, m64_20, m64_27, m64_60, e1, k1, e2]
      refine ⟨fun e => by omega, fun _ => ⟨by omega, by omega, by omega, ?_, fun k j' o i hh => ?_⟩⟩
      · rw [← Nat.add_assoc, ← rn_t (p := fun i => u i == 32) (by omega) (by simp [q])]; exact k3
      · (try simp (disch := omega) only [up_s, up_o, and_self]); exact k4 k j' o i hh
    · have e4 : ¬ sby (u (s + j)) = nI 32 := fun e => q ((sby_eq e3 (by omega)).mp e)
      have e5 : ta t u s = s + j := by rw [← k3]; exact rn_f (fun w => q (by simpa using w.2))
      generalize sby (u (s + j)) = y at e2 e4
      simp (disch := omega) only [wp_some, wp_obd, wp_ob2, wp_bnd, wp_gd, wp_ite, wp_true, wp_ff, ↓l_n1, ↓l_n2, ↓l_n3, ↓l_n4, ↓l_n10, ↓l_n20, l_0, l_1, l_2, l_3, l_4, l_5, l_6, l_7, l_8, l_9, l_10, l_13, l_14, l_15, l_16, l_20, l_21, l_24, l_27, l_28, l_30, l_31, l_32, l_35, l_36, l_39, l_40, l_41, l_43, l_44, l_45, l_46, l_47, l_48, l_49, l_56, l_57, l_59, l_60, l_79, l_97, l_122, l_160, l_237, l_255, l_320, l_999, l_1000, nI_add, pk_mul, nI_eq, nI_leI, nI_ltI, nI_clamp, inb_nI_iff, e_within, e_in32, e_asNumber, e_flag, decide_eq_true_eq, Sum.elim_inl, Sum.elim_inr, true_implies, not_true_eq_false, not_false_eq_true, false_implies, and_true, true_and, nI_nn, nn_nI, nn_nn, ↓reduceIte, if_true, if_false, Nat.le_refl, implies_true, Nat.lt_irrefl, and_self_left, win1, nI_le_s1, Nat.zero_le, up_s, up_o, Nat.zero_add, m64_0, m64_1, m64_2, m64_3, m64_7, m64_8, m64_9, m64_10, m64_13, m64_20, m64_27, m64_60, e1, k1, e2, e4]
      refine ⟨fun e => by omega, fun _ => ⟨by omega, by omega, k4⟩⟩
  · rintro z ⟨k1, k2, k3, k4⟩
    have e1 : z 17 1 0 0 = nI t := (k4 _ _ _ _ (by omega)).trans t1
    have e5 : ta t u s = s + (t - s) := by rw [← k3]; exact rn_f (fun w => by omega)
    simp (disch := omega) only [wp_some, wp_obd, wp_ob2, wp_bnd, wp_gd, wp_ite, wp_true, wp_ff, ↓l_n1, ↓l_n2, ↓l_n3, ↓l_n4, ↓l_n10, ↓l_n20, l_0, l_1, l_2, l_3, l_4, l_5, l_6, l_7, l_8, l_9, l_10, l_13, l_14, l_15, l_16, l_20, l_21, l_24, l_27, l_28, l_30, l_31, l_32, l_35, l_36, l_39, l_40, l_41, l_43, l_44, l_45, l_46, l_47, l_48, l_49, l_56, l_57, l_59, l_60, l_79, l_97, l_122, l_160, l_237, l_255, l_320, l_999, l_1000, nI_add, pk_mul, nI_eq, nI_leI, nI_ltI, nI_clamp, inb_nI_iff, e_within, e_in32, e_asNumber, e_flag, decide_eq_true_eq, Sum.elim_inl, Sum.elim_inr, true_implies, not_true_eq_false, not_false_eq_true, false_implies, and_true, true_and, nI_nn, nn_nI, nn_nn, ↓reduceIte, if_true, if_false, Nat.le_refl, implies_true, Nat.lt_irrefl, and_self_left, win1, nI_le_s1, Nat.zero_le, up_s, up_o, Nat.zero_add, m64_0, m64_1, m64_2, m64_3, m64_7, m64_8, m64_9, m64_10, m64_13, m64_20, m64_27, m64_60, e1, k1]
    refine ⟨fun _ => ⟨by omega, k4⟩, fun e => by omega⟩
  rintro e6 ⟨a1, a2⟩
  have e1 : e6 17 1 0 0 = nI t := (a2 _ _ _ _ (by omega)).trans t1
  have eb : ∀ i, i < t → e6 18 0 0 i = sby (u i) := fun i hi => (a2 _ _ _ _ (by omega)).trans (t2 i hi)
  have e62 : e6 16 2 0 0 = h 16 2 0 0 := a2 _ _ _ _ (by omega)
  have first : Ok (if (e6 17 1 0 0) ≤ (e6 16 7 0 0) then some (0 : Int32) else gd (inb (e6 16 7 0 0) 320) (obd (f_X8_kindOf (e6 18 0 0 (e6 16 7 0 0).toNatClampNeg) e6) (fun r8 => some r8))) (fun r => r = nI (tkd t u s)) := by
    by_cases q : ta t u s < t
    · have e3 := t4 _ q
      have e2 := eb _ q
      have e4 := e_kindOf e3 e6
      have e5 : tkd t u s = kd (u (ta t u s)) := by unfold tkd; rw [if_pos q]
      rw [e5]
      simp (disch := omega) only [wp_some, wp_obd, wp_ob2, wp_bnd, wp_gd, wp_ite, wp_true, wp_ff, ↓l_n1, ↓l_n2, ↓l_n3, ↓l_n4, ↓l_n10, ↓l_n20, l_0, l_1, l_2, l_3, l_4, l_5, l_6, l_7, l_8, l_9, l_10, l_13, l_14, l_15, l_16, l_20, l_21, l_24, l_27, l_28, l_30, l_31, l_32, l_35, l_36, l_39, l_40, l_41, l_43, l_44, l_45, l_46, l_47, l_48, l_49, l_56, l_57, l_59, l_60, l_79, l_97, l_122, l_160, l_237, l_255, l_320, l_999, l_1000, nI_add, pk_mul, nI_eq, nI_leI, nI_ltI, nI_clamp, inb_nI_iff, e_within, e_in32, e_asNumber, e_flag, decide_eq_true_eq, Sum.elim_inl, Sum.elim_inr, true_implies, not_true_eq_false, not_false_eq_true, false_implies, and_true, true_and, nI_nn, nn_nI, nn_nn, ↓reduceIte, if_true, if_false, Nat.le_refl, implies_true, Nat.lt_irrefl, and_self_left, win1, nI_le_s1, Nat.zero_le, up_s, up_o, Nat.zero_add, m64_0, m64_1, m64_2, m64_3, m64_7, m64_8, m64_9, m64_10, m64_13, m64_20, m64_27, m64_60, e1, a1, e2, e4]
      exact ⟨fun e => by omega, fun _ => by omega⟩
    · have e5 : tkd t u s = 0 := by unfold tkd; rw [if_neg q]
      rw [e5]
      simp (disch := omega) only [wp_some, wp_obd, wp_ob2, wp_bnd, wp_gd, wp_ite, wp_true, wp_ff, ↓l_n1, ↓l_n2, ↓l_n3, ↓l_n4, ↓l_n10, ↓l_n20, l_0, l_1, l_2, l_3, l_4, l_5, l_6, l_7, l_8, l_9, l_10, l_13, l_14, l_15, l_16, l_20, l_21, l_24, l_27, l_28, l_30, l_31, l_32, l_35, l_36, l_39, l_40, l_41, l_43, l_44, l_45, l_46, l_47, l_48, l_49, l_56, l_57, l_59, l_60, l_79, l_97, l_122, l_160, l_237, l_255, l_320, l_999, l_1000, nI_add, pk_mul, nI_eq, nI_leI, nI_ltI, nI_clamp, inb_nI_iff, e_within, e_in32, e_asNumber, e_flag, decide_eq_true_eq, Sum.elim_inl, Sum.elim_inr, true_implies, not_true_eq_false, not_false_eq_true, false_implies, and_true, true_and, nI_nn, nn_nI, nn_nn, ↓reduceIte, if_true, if_false, Nat.le_refl, implies_true, Nat.lt_irrefl, and_self_left, win1, nI_le_s1, Nat.zero_le, up_s, up_o, Nat.zero_add, m64_0, m64_1, m64_2, m64_3, m64_7, m64_8, m64_9, m64_10, m64_13, m64_20, m64_27, m64_60, e1, a1]
      exact fun e => by omega
  rw [wp_obd]
  refine first.mono ?_
  rintro r rfl
  have hk4 : tkd t u s ≤ 4 := by
    unfold tkd; split
    · exact (kd_b _).2
    · omega
  rw [wp_bnd]
  generalize hK : tkd t u s = K at *
  -- the end, at first
  have second : Ok (if (up e6 16 6 0 0 (nI K) 16 6 0 0) = 0 then some (up e6 16 6 0 0 (nI K) 16 7 0 0) else some ((up e6 16 6 0 0 (nI K) 16 7 0 0) + (1 : Int32))) (fun r => r = nI (if K = 0 then ta t u s else ta t u s + 1)) := by
    by_cases q : K = 0
    · simp (disch := omega) only [wp_some, wp_obd, wp_ob2, wp_bnd, wp_gd, wp_ite, wp_true, wp_ff, ↓l_n1, ↓l_n2, ↓l_n3, ↓l_n4, ↓l_n10, ↓l_n20, l_0, l_1, l_2, l_3, l_4, l_5, l_6, l_7, l_8, l_9, l_10, l_13, l_14, l_15, l_16, l_20, l_21, l_24, l_27, l_28, l_30, l_31, l_32, l_35, l_36, l_39, l_40, l_41, l_43, l_44, l_45, l_46, l_47, l_48, l_49, l_56, l_57, l_59, l_60, l_79, l_97, l_122, l_160, l_237, l_255, l_320, l_999, l_1000, nI_add, pk_mul, nI_eq, nI_leI, nI_ltI, nI_clamp, inb_nI_iff, e_within, e_in32, e_asNumber, e_flag, decide_eq_true_eq, Sum.elim_inl, Sum.elim_inr, true_implies, not_true_eq_false, not_false_eq_true, false_implies, and_true, true_and, nI_nn, nn_nI, nn_nn, ↓reduceIte, if_true, if_false, Nat.le_refl, implies_true, Nat.lt_irrefl, and_self_left, win1, nI_le_s1, Nat.zero_le, up_s, up_o, Nat.zero_add, m64_0, m64_1, m64_2, m64_3, m64_7, m64_8, m64_9, m64_10, m64_13, m64_20, m64_27, m64_60, a1, q]
    · simp (disch := omega) only [wp_some, wp_obd, wp_ob2, wp_bnd, wp_gd, wp_ite, wp_true, wp_ff, ↓l_n1, ↓l_n2, ↓l_n3, ↓l_n4, ↓l_n10, ↓l_n20, l_0, l_1, l_2, l_3, l_4, l_5, l_6, l_7, l_8, l_9, l_10, l_13, l_14, l_15, l_16, l_20, l_21, l_24, l_27, l_28, l_30, l_31, l_32, l_35, l_36, l_39, l_40, l_41, l_43, l_44, l_45, l_46, l_47, l_48, l_49, l_56, l_57, l_59, l_60, l_79, l_97, l_122, l_160, l_237, l_255, l_320, l_999, l_1000, nI_add, pk_mul, nI_eq, nI_leI, nI_ltI, nI_clamp, inb_nI_iff, e_within, e_in32, e_asNumber, e_flag, decide_eq_true_eq, Sum.elim_inl, Sum.elim_inr, true_implies, not_true_eq_false, not_false_eq_true, false_implies, and_true, true_and, nI_nn, nn_nI, nn_nn, ↓reduceIte, if_true, if_false, Nat.le_refl, implies_true, Nat.lt_irrefl, and_self_left, win1, nI_le_s1, Nat.zero_le, up_s, up_o, Nat.zero_add, m64_0, m64_1, m64_2, m64_3, m64_7, m64_8, m64_9, m64_10, m64_13, m64_20, m64_27, m64_60, a1, q]
  rw [wp_obd]
  refine second.mono ?_
  rintro r rfl
  rw [wp_bnd]
  have third : Ok (if (up (up e6 16 6 0 0 (nI K)) 16 8 0 0 (nI (if K = 0 then ta t u s else ta t u s + 1)) 16 6 0 0) = (1 : Int32) then some true else (if (up (up e6 16 6 0 0 (nI K)) 16 8 0 0 (nI (if K = 0 then ta t u s else ta t u s + 1)) 16 6 0 0) = (2 : Int32) then some true else some false)) (fun r => r = decide (K = 1 ∨ K = 2)) := by
    by_cases q1 : K = 1
    · simp (disch := omega) only [wp_some, wp_obd, wp_ob2, wp_bnd, wp_gd, wp_ite, wp_true, wp_ff, ↓l_n1, ↓l_n2, ↓l_n3, ↓l_n4, ↓l_n10, ↓l_n20, l_0, l_1, l_2, l_3, l_4, l_5, l_6, l_7, l_8, l_9, l_10, l_13, l_14, l_15, l_16, l_20, l_21, l_24, l_27, l_28, l_30, l_31, l_32, l_35, l_36, l_39, l_40, l_41, l_43, l_44, l_45, l_46, l_47, l_48, l_49, l_56, l_57, l_59, l_60, l_79, l_97, l_122, l_160, l_237, l_255, l_320, l_999, l_1000, nI_add, pk_mul, nI_eq, nI_leI, nI_ltI, nI_clamp, inb_nI_iff, e_within, e_in32, e_asNumber, e_flag, decide_eq_true_eq, Sum.elim_inl, Sum.elim_inr, true_implies, not_true_eq_false, not_false_eq_true, false_implies, and_true, true_and, nI_nn, nn_nI, nn_nn, ↓reduceIte, if_true, if_false, Nat.le_refl, implies_true, Nat.lt_irrefl, and_self_left, win1, nI_le_s1, Nat.zero_le, up_s, up_o, Nat.zero_add, m64_0, m64_1, m64_2, m64_3, m64_7, m64_8, m64_9, m64_10, m64_13, m64_20, m64_27, m64_60, q1, true_or, decide_true]
    · by_cases q2 : K = 2
      · simp (disch := omega) only [wp_some, wp_obd, wp_ob2, wp_bnd, wp_gd, wp_ite, wp_true, wp_ff, ↓l_n1, ↓l_n2, ↓l_n3, ↓l_n4, ↓l_n10, ↓l_n20, l_0, l_1, l_2, l_3, l_4, l_5, l_6, l_7, l_8, l_9, l_10, l_13, l_14, l_15, l_16, l_20, l_21, l_24, l_27, l_28, l_30, l_31, l_32, l_35, l_36, l_39, l_40, l_41, l_43, l_44, l_45, l_46, l_47, l_48, l_49, l_56, l_57, l_59, l_60, l_79, l_97, l_122, l_160, l_237, l_255, l_320, l_999, l_1000, nI_add, pk_mul, nI_eq, nI_leI, nI_ltI, nI_clamp, inb_nI_iff, e_within, e_in32, e_asNumber, e_flag, decide_eq_true_eq, Sum.elim_inl, Sum.elim_inr, true_implies, not_true_eq_false, not_false_eq_true, false_implies, and_true, true_and, nI_nn, nn_nI, nn_nn, ↓reduceIte, if_true, if_false, Nat.le_refl, implies_true, Nat.lt_irrefl, and_self_left, win1, nI_le_s1, Nat.zero_le, up_s, up_o, Nat.zero_add, m64_0, m64_1, m64_2, m64_3, m64_7, m64_8, m64_9, m64_10, m64_13, m64_20, m64_27, m64_60, q2, or_true, decide_true, Nat.reduceEqDiff]
      · simp (disch := omega) only [wp_some, wp_obd, wp_ob2, wp_bnd, wp_gd, wp_ite, wp_true, wp_ff, ↓l_n1, ↓l_n2, ↓l_n3, ↓l_n4, ↓l_n10, ↓l_n20, l_0, l_1, l_2, l_3, l_4, l_5, l_6, l_7, l_8, l_9, l_10, l_13, l_14, l_15, l_16, l_20, l_21, l_24, l_27, l_28, l_30, l_31, l_32, l_35, l_36, l_39, l_40, l_41, l_43, l_44, l_45, l_46, l_47, l_48, l_49, l_56, l_57, l_59, l_60, l_79, l_97, l_122, l_160, l_237, l_255, l_320, l_999, l_1000, nI_add, pk_mul, nI_eq, nI_leI, nI_ltI, nI_clamp, inb_nI_iff, e_within, e_in32, e_asNumber, e_flag, decide_eq_true_eq, Sum.elim_inl, Sum.elim_inr, true_implies, not_true_eq_false, not_false_eq_true, false_implies, and_true, true_and, nI_nn, nn_nI, nn_nn, ↓reduceIte, if_true, if_false, Nat.le_refl, implies_true, Nat.lt_irrefl, and_self_left, win1, nI_le_s1, Nat.zero_le, up_s, up_o, Nat.zero_add, m64_0, m64_1, m64_2, m64_3, m64_7, m64_8, m64_9, m64_10, m64_13, m64_20, m64_27, m64_60, q1, q2, or_self, decide_false]
  rw [wp_obd]
  refine third.mono ?_
  rintro r rfl
  have run : Ok (lp fu (fun a17 => (if decide (K = 1 ∨ K = 2) = true then (if (a17 17 1 0 0) ≤ (a17 16 8 0 0) then some (.inr a17) else gd (inb (a17 16 8 0 0) 320) (obd (f_X8_kindOf (a17 18 0 0 (a17 16 8 0 0).toNatClampNeg) a17) (fun r18 => (if r18 = (a17 16 6 0 0) then bnd (up a17 16 8 0 0 ((a17 16 8 0 0) + (1 : Int32))) (fun h19 => some (.inl h19)) else some (.inr a17))))) else some (.inr a17))) (up (up e6 16 6 0 0 (nI K)) 16 8 0 0 (nI (if K = 0 then ta t u s else ta t u s + 1)))) (fun e => e 16 8 0 0 = nI (tb t u s) ∧ e 16 6 0 0 = nI K ∧ e 16 7 0 0 = nI (ta t u s) ∧ ∀ k j o i, ¬ (k = 16 ∧ (j = 6 ∨ j = 7 ∨ j = 8)) → e k j o i = h k j o i) := by
    by_cases q : K = 1 ∨ K = 2
    · have q0 : ¬ K = 0 := by omega
      have qa : ta t u s < t := by omega
      have etb : tb t u s = rn (fun i => kd (u i) == K) t (ta t u s + 1) := by
        unfold tb; rw [hK, if_neg q0, if_pos q]
      rw [if_neg q0]
      refine ok_up (t - (ta t u s + 1)) (fun j z => z 16 8 0 0 = nI (ta t u s + 1 + j) ∧ ta t u s + 1 + j ≤ t ∧ rn (fun i => kd (u i) == K) t (ta t u s + 1 + j) = tb t u s ∧ z 16 6 0 0 = nI K ∧ z 16 7 0 0 = nI (ta t u s) ∧ ∀ k j o i, ¬ (k = 16 ∧ (j = 6 ∨ j = 7 ∨ j = 8)) → z k j o i = h k j o i) (by omega) ?_ ?_ _ ⟨by (try simp (disch := omega) only [up_s, up_o, and_self]), by omega, etb.symm, by (try simp (disch := omega) only [up_s, up_o, and_self]), by (try simp (disch := omega) only [up_s, up_o, and_self]); exact a1, fun k j o i hh => by (try simp (disch := omega) only [up_s, up_o, and_self]); exact a2 _ _ _ _ (by omega)⟩
      · rintro j z hj ⟨k1, k2, k3, k4, k5, k6⟩
        have f1 : z 17 1 0 0 = nI t := (k6 _ _ _ _ (by omega)).trans t1
        have f2 : z 18 0 0 (ta t u s + 1 + j) = sby (u (ta t u s + 1 + j)) := (k6 _ _ _ _ (by omega)).trans (t2 _ (by omega))
        have f3 := e_kindOf (t4 (ta t u s + 1 + j) (by omega)) z
        have f4 := kd_b (u (ta t u s + 1 + j))
        by_cases w : kd (u (ta t u s + 1 + j)) = K
        · simp (disch := omega) only [wp_some, wp_obd, wp_ob2, wp_bnd, wp_gd, wp_ite, wp_true, wp_ff, ↓l_n1, ↓l_n2, ↓l_n3, ↓l_n4, ↓l_n10, ↓l_n20, l_0, l_1, l_2, l_3, l_4, l_5, l_6, l_7, l_8, l_9, l_10, l_13, l_14, l_15, l_16, l_20, l_21, l_24, l_27, l_28, l_30, l_31, l_32, l_35, l_36, l_39, l_40, l_41, l_43, l_44, l_45, l_46, l_47, l_48, l_49, l_56, l_57, l_59, l_60, l_79, l_97, l_122, l_160, l_237, l_255, l_320, l_999, l_1000, nI_add, pk_mul, nI_eq, nI_leI, nI_ltI, nI_clamp, inb_nI_iff, e_within, e_in32, e_asNumber, e_flag, decide_eq_true_eq, Sum.elim_inl, Sum.elim_inr, true_implies, not_true_eq_false, not_false_eq_true, false_implies, and_true, true_and, nI_nn, nn_nI, nn_nn, ↓reduceIte, if_true, if_false, Nat.le_refl, implies_true, Nat.lt_irrefl, and_self_left, win1, nI_le_s1, Nat.zero_le, up_s, up_o, Nat.zero_add, m64_0, m64_1, m64_2, m64_3, m64_7, m64_8, m64_9, m64_10, m64_13, m64_20, m64_27, m64_60, q, decide_true, f1, f2, f3, k1, k4, w]
          refine ⟨fun e => by omega, fun _ => ⟨by omega, by omega, by omega, ?_, k5, fun k j' o i hh => ?_⟩⟩
          · rw [← Nat.add_assoc, ← rn_t (p := fun i => kd (u i) == K) (by omega) (by simp [w])]; exact k3
          · (try simp (disch := omega) only [up_s, up_o, and_self]); exact k6 k j' o i hh
        · have e5 : tb t u s = ta t u s + 1 + j := by rw [← k3]; exact rn_f (fun w' => w (by simpa using w'.2))
          simp (disch := omega) only [wp_some, wp_obd, wp_ob2, wp_bnd, wp_gd, wp_ite, wp_true, wp_ff, ↓l_n1, ↓l_n2, ↓l_n3, ↓l_n4, ↓l_n10, ↓l_n20, l_0, l_1, l_2, l_3, l_4, l_5, l_6, l_7, l_8, l_9, l_10, l_13, l_14, l_15, l_16, l_20, l_21, l_24, l_27, l_28, l_30, l_31, l_32, l_35, l_36, l_39, l_40, l_41, l_43, l_44, l_45, l_46, l_47, l_48, l_49, l_56, l_57, l_59, l_60, l_79, l_97, l_122, l_160, l_237, l_255, l_320, l_999, l_1000, nI_add, pk_mul, nI_eq, nI_leI, nI_ltI, nI_clamp, inb_nI_iff, e_within, e_in32, e_asNumber, e_flag, decide_eq_true_eq, Sum.elim_inl, Sum.elim_inr, true_implies, not_true_eq_false, not_false_eq_true, false_implies, and_true, true_and, nI_nn, nn_nI, nn_nn, ↓reduceIte, if_true, if_false, Nat.le_refl, implies_true, Nat.lt_irrefl, and_self_left, win1, nI_le_s1, Nat.zero_le, up_s, up_o, Nat.zero_add, m64_0, m64_1, m64_2, m64_3, m64_7, m64_8, m64_9, m64_10, m64_13, m64_20, m64_27, m64_60, q, decide_true, f1, f2, f3, k1, k4, w]
          exact ⟨fun e => by omega, fun _ => ⟨by omega, by omega, k5, k6⟩⟩
      · rintro z ⟨k1, k2, k3, k4, k5, k6⟩
        have f1 : z 17 1 0 0 = nI t := (k6 _ _ _ _ (by omega)).trans t1
        have e5 : tb t u s = ta t u s + 1 + (t - (ta t u s + 1)) := by rw [← k3]; exact rn_f (fun w' => by omega)
        simp (disch := omega) only [wp_some, wp_obd, wp_ob2, wp_bnd, wp_gd, wp_ite, wp_true, wp_ff, ↓l_n1, ↓l_n2, ↓l_n3, ↓l_n4, ↓l_n10, ↓l_n20, l_0, l_1, l_2, l_3, l_4, l_5, l_6, l_7, l_8, l_9, l_10, l_13, l_14, l_15, l_16, l_20, l_21, l_24, l_27, l_28, l_30, l_31, l_32, l_35, l_36, l_39, l_40, l_41, l_43, l_44, l_45, l_46, l_47, l_48, l_49, l_56, l_57, l_59, l_60, l_79, l_97, l_122, l_160, l_237, l_255, l_320, l_999, l_1000, nI_add, pk_mul, nI_eq, nI_leI, nI_ltI, nI_clamp, inb_nI_iff, e_within, e_in32, e_asNumber, e_flag, decide_eq_true_eq, Sum.elim_inl, Sum.elim_inr, true_implies, not_true_eq_false, not_false_eq_true, false_implies, and_true, true_and, nI_nn, nn_nI, nn_nn, ↓reduceIte, if_true, if_false, Nat.le_refl, implies_true, Nat.lt_irrefl, and_self_left, win1, nI_le_s1, Nat.zero_le, up_s, up_o, Nat.zero_add, m64_0, m64_1, m64_2, m64_3, m64_7, m64_8, m64_9, m64_10, m64_13, m64_20, m64_27, m64_60, q, decide_true, f1, k1]
        exact ⟨fun _ => ⟨by omega, k4, k5, k6⟩, fun e => by omega⟩
    · have etb : tb t u s = if K = 0 then ta t u s else ta t u s + 1 := by
        unfold tb; rw [hK, if_neg q]
      rw [← etb]
      refine ok_up 0 (fun _ z => z = up (up e6 16 6 0 0 (nI K)) 16 8 0 0 (nI (tb t u s))) (by omega) (fun j z hj => by omega) ?_ _ rfl
      rintro z rfl
      simp (disch := omega) only [wp_some, wp_obd, wp_ob2, wp_bnd, wp_gd, wp_ite, wp_true, wp_ff, ↓l_n1, ↓l_n2, ↓l_n3, ↓l_n4, ↓l_n10, ↓l_n20, l_0, l_1, l_2, l_3, l_4, l_5, l_6, l_7, l_8, l_9, l_10, l_13, l_14, l_15, l_16, l_20, l_21, l_24, l_27, l_28, l_30, l_31, l_32, l_35, l_36, l_39, l_40, l_41, l_43, l_44, l_45, l_46, l_47, l_48, l_49, l_56, l_57, l_59, l_60, l_79, l_97, l_122, l_160, l_237, l_255, l_320, l_999, l_1000, nI_add, pk_mul, nI_eq, nI_leI, nI_ltI, nI_clamp, inb_nI_iff, e_within, e_in32, e_asNumber, e_flag, decide_eq_true_eq, Sum.elim_inl, Sum.elim_inr, true_implies, not_true_eq_false, not_false_eq_true, false_implies, and_true, true_and, nI_nn, nn_nI, nn_nn, ↓reduceIte, if_true, if_false, Nat.le_refl, implies_true, Nat.lt_irrefl, and_self_left, win1, nI_le_s1, Nat.zero_le, up_s, up_o, Nat.zero_add, m64_0, m64_1, m64_2, m64_3, m64_7, m64_8, m64_9, m64_10, m64_13, m64_20, m64_27, m64_60, q, decide_false, a1]
      intro k j o i hh
      (try simp (disch := omega) only [up_s, up_o, and_self]); exact a2 _ _ _ _ (by omega)
  rw [wp_obd]
  refine run.mono ?_
  rintro e20 ⟨b1, b2, b3, b4⟩
  have hbad : bad t u s ↔ K = 4 ∨ (K = 2 ∧ 2 < tb t u s - ta t u s) := by unfold bad; rw [hK]
  have esub : nI (tb t u s) - nI (ta t u s) = nI (tb t u s - ta t u s) := by
    have : tb t u s = (tb t u s - ta t u s) + ta t u s := by omega
    rw [this, ← nI_add]
    exact (Int32.add_sub_cancel _ _).trans (by congr 1; omega)
  have fr : ∀ k j o i, ¬ (k = 16 ∧ (j = 2 ∨ j = 3 ∨ j = 6 ∨ j = 7 ∨ j = 8 ∨ j = 9)) → e20 k j o i = h k j o i := fun k j o i hh => b4 _ _ _ _ (by omega)
  have b16 : e20 16 2 0 0 = h 16 2 0 0 := b4 _ _ _ _ (by omega)
  unfold f_X8_refuse
  by_cases q4 : K = 4
  · have hb1 : bad t u s := hbad.mpr (Or.inl q4)
    simp (disch := omega) only [wp_some, wp_obd, wp_ob2, wp_bnd, wp_gd, wp_ite, wp_true, wp_ff, ↓l_n1, ↓l_n2, ↓l_n3, ↓l_n4, ↓l_n10, ↓l_n20, l_0, l_1, l_2, l_3, l_4, l_5, l_6, l_7, l_8, l_9, l_10, l_13, l_14, l_15, l_16, l_20, l_21, l_24, l_27, l_28, l_30, l_31, l_32, l_35, l_36, l_39, l_40, l_41, l_43, l_44, l_45, l_46, l_47, l_48, l_49, l_56, l_57, l_59, l_60, l_79, l_97, l_122, l_160, l_237, l_255, l_320, l_999, l_1000, nI_add, pk_mul, nI_eq, nI_leI, nI_ltI, nI_clamp, inb_nI_iff, e_within, e_in32, e_asNumber, e_flag, decide_eq_true_eq, Sum.elim_inl, Sum.elim_inr, true_implies, not_true_eq_false, not_false_eq_true, false_implies, and_true, true_and, nI_nn, nn_nI, nn_nn, ↓reduceIte, if_true, if_false, Nat.le_refl, implies_true, Nat.lt_irrefl, and_self_left, win1, nI_le_s1, Nat.zero_le, up_s, up_o, Nat.zero_add, m64_0, m64_1, m64_2, m64_3, m64_7, m64_8, m64_9, m64_10, m64_13, m64_20, m64_27, m64_60, b2, b3, q4]
    refine ⟨fun e => absurd hb1 e, fun k j o i hh => ?_⟩
    (try simp (disch := omega) only [up_s, up_o, and_self]); exact fr _ _ _ _ hh
  · by_cases q2 : K = 2
    · by_cases q3 : tb t u s - ta t u s ≤ 2
      · have hb1 : ¬ bad t u s := fun e => by have := hbad.mp e; omega
        subst q2
        have hlt := hb.2.2 (by omega)
        have ka : kd (u (ta t u s)) = 2 := by
          have : tkd t u s = kd (u (ta t u s)) := by unfold tkd; rw [if_pos (by omega)]
          rw [← this]; exact hK
        have etb : tb t u s = rn (fun i => kd (u i) == 2) t (ta t u s + 1) := by
          unfold tb; rw [hK, if_neg (by decide), if_pos (Or.inr rfl)]
        have kdg : ∀ i, ta t u s ≤ i → i < tb t u s → 48 ≤ u i ∧ u i ≤ 57 := fun i i1 i2 => by
          by_cases w : i = ta t u s
          · rw [w]; exact kd_2.mp ka
          · rw [etb] at i2
            have := rn_in (p := fun i => kd (u i) == 2) (i := i) (by omega) i2
            exact kd_2.mp (by simpa using this)
        obtain ⟨vl, v0, v1, v2⟩ : ∃ vl : Nat → Nat, vl 0 = 0 ∧ vl 1 = u (ta t u s) - 48 ∧ vl 2 = 10 * (u (ta t u s) - 48) + (u (ta t u s + 1) - 48) := ⟨fun j => if j = 0 then 0 else if j = 1 then u (ta t u s) - 48 else 10 * (u (ta t u s) - 48) + (u (ta t u s + 1) - 48), rfl, rfl, rfl⟩
        have vs : ∀ j, j < tb t u s - ta t u s → nI (10 * vl j + u (ta t u s + j)) - nI 48 = nI (vl (j + 1)) ∧ vl j ≤ 99 := by
          intro j hj
          have : j = 0 ∨ j = 1 := by omega
          have dd := kdg (ta t u s + j) (by omega) (by omega)
          have sb : ∀ x, 48 ≤ x → nI x - nI 48 = nI (x - 48) := fun x hx => by
            have : x = (x - 48) + 48 := by omega
            rw [this, ← nI_add]
            exact (Int32.add_sub_cancel _ _).trans (by first | (congr 1; omega) | congr 1)
          rw [sb _ (by omega)]
          rcases this with rfl | rfl
          · rw [v0, v1]; refine ⟨by congr 1; rw [Nat.add_zero]; omega, by omega⟩
          · have d0 := kdg (ta t u s) (by omega) (by omega)
            rw [v1, v2]; refine ⟨by congr 1; omega, by omega⟩
        have vend : vl (tb t u s - ta t u s) = tv t u s := by
          unfold tv
          by_cases w : tb t u s - ta t u s = 1
          · rw [if_pos w, w, v1]
          · rw [if_neg w]
            have : tb t u s - ta t u s = 2 := by omega
            rw [this, v2]
        simp (disch := omega) only [wp_some, wp_obd, wp_ob2, wp_bnd, wp_gd, wp_ite, wp_true, wp_ff, ↓l_n1, ↓l_n2, ↓l_n3, ↓l_n4, ↓l_n10, ↓l_n20, l_0, l_1, l_2, l_3, l_4, l_5, l_6, l_7, l_8, l_9, l_10, l_13, l_14, l_15, l_16, l_20, l_21, l_24, l_27, l_28, l_30, l_31, l_32, l_35, l_36, l_39, l_40, l_41, l_43, l_44, l_45, l_46, l_47, l_48, l_49, l_56, l_57, l_59, l_60, l_79, l_97, l_122, l_160, l_237, l_255, l_320, l_999, l_1000, nI_add, pk_mul, nI_eq, nI_leI, nI_ltI, nI_clamp, inb_nI_iff, e_within, e_in32, e_asNumber, e_flag, decide_eq_true_eq, Sum.elim_inl, Sum.elim_inr, true_implies, not_true_eq_false, not_false_eq_true, false_implies, and_true, true_and, nI_nn, nn_nI, nn_nn, ↓reduceIte, if_true, if_false, Nat.le_refl, implies_true, Nat.lt_irrefl, and_self_left, win1, nI_le_s1, Nat.zero_le, up_s, up_o, Nat.zero_add, m64_0, m64_1, m64_2, m64_3, m64_7, m64_8, m64_9, m64_10, m64_13, m64_20, m64_27, m64_60, b1, b2, b3, esub, q3, Nat.reduceEqDiff]
        refine (ok_up (K := fun e => e 16 9 0 0 = nI (tv t u s) ∧ ∀ k j o i, ¬ (k = 16 ∧ j = 9) → e k j o i = e20 k j o i) (tb t u s - ta t u s) (fun j z => z.1 = nI (ta t u s + j) ∧ z.2 16 9 0 0 = nI (vl j) ∧ ∀ k j o i, ¬ (k = 16 ∧ j = 9) → z.2 k j o i = e20 k j o i) (by omega) ?_ ?_ _ ⟨rfl, by rw [v0]; (try simp (disch := omega) only [up_s, up_o, and_self]), fun k j o i hh => by (try simp (disch := omega) only [up_s, up_o, and_self])⟩).mono ?_
        · rintro j ⟨x, z⟩ hj ⟨hx, k1, k2⟩
          dsimp only at hx k1 k2
          subst hx
          have f8 : z 16 8 0 0 = nI (tb t u s) := (k2 _ _ _ _ (by omega)).trans b1
          have f6 : z 16 6 0 0 = nI 2 := (k2 _ _ _ _ (by omega)).trans b2
          have dd := kdg (ta t u s + j) (by omega) (by omega)
          have f18 : z 18 0 0 (ta t u s + j) = nI (u (ta t u s + j)) := by
            rw [k2 _ _ _ _ (by omega), b4 _ _ _ _ (by omega), t2 _ (by omega), sby_lo (by omega)]
          obtain ⟨vs1, vs2⟩ := vs j hj
          simp (disch := omega) only [wp_some, wp_obd, wp_ob2, wp_bnd, wp_gd, wp_ite, wp_true, wp_ff, ↓l_n1, ↓l_n2, ↓l_n3, ↓l_n4, ↓l_n10, ↓l_n20, l_0, l_1, l_2, l_3, l_4, l_5, l_6, l_7, l_8, l_9, l_10, l_13, l_14, l_15, l_16, l_20, l_21, l_24, l_27, l_28, l_30, l_31, l_32, l_35, l_36, l_39, l_40, l_41, l_43, l_44, l_45, l_46, l_47, l_48, l_49, l_56, l_57, l_59, l_60, l_79, l_97, l_122, l_160, l_237, l_255, l_320, l_999, l_1000, nI_add, pk_mul, nI_eq, nI_leI, nI_ltI, nI_clamp, inb_nI_iff, e_within, e_in32, e_asNumber, e_flag, decide_eq_true_eq, Sum.elim_inl, Sum.elim_inr, true_implies, not_true_eq_false, not_false_eq_true, false_implies, and_true, true_and, nI_nn, nn_nI, nn_nn, ↓reduceIte, if_true, if_false, Nat.le_refl, implies_true, Nat.lt_irrefl, and_self_left, win1, nI_le_s1, Nat.zero_le, up_s, up_o, Nat.zero_add, m64_0, m64_1, m64_2, m64_3, m64_7, m64_8, m64_9, m64_10, m64_13, m64_20, m64_27, m64_60, f8, f6, f18, k1, vs1]
          refine ⟨fun e => by omega, fun _ => ⟨by omega, by omega, fun k j' o i hh => ?_⟩⟩
          (try simp (disch := omega) only [up_s, up_o, and_self]); exact k2 k j' o i hh
        · rintro ⟨x, z⟩ ⟨hx, k1, k2⟩
          dsimp only at hx k1 k2
          subst hx
          have f8 : z 16 8 0 0 = nI (tb t u s) := (k2 _ _ _ _ (by omega)).trans b1
          rw [vend] at k1
          simp (disch := omega) only [wp_some, wp_obd, wp_ob2, wp_bnd, wp_gd, wp_ite, wp_true, wp_ff, ↓l_n1, ↓l_n2, ↓l_n3, ↓l_n4, ↓l_n10, ↓l_n20, l_0, l_1, l_2, l_3, l_4, l_5, l_6, l_7, l_8, l_9, l_10, l_13, l_14, l_15, l_16, l_20, l_21, l_24, l_27, l_28, l_30, l_31, l_32, l_35, l_36, l_39, l_40, l_41, l_43, l_44, l_45, l_46, l_47, l_48, l_49, l_56, l_57, l_59, l_60, l_79, l_97, l_122, l_160, l_237, l_255, l_320, l_999, l_1000, nI_add, pk_mul, nI_eq, nI_leI, nI_ltI, nI_clamp, inb_nI_iff, e_within, e_in32, e_asNumber, e_flag, decide_eq_true_eq, Sum.elim_inl, Sum.elim_inr, true_implies, not_true_eq_false, not_false_eq_true, false_implies, and_true, true_and, nI_nn, nn_nI, nn_nn, ↓reduceIte, if_true, if_false, Nat.le_refl, implies_true, Nat.lt_irrefl, and_self_left, win1, nI_le_s1, Nat.zero_le, up_s, up_o, Nat.zero_add, m64_0, m64_1, m64_2, m64_3, m64_7, m64_8, m64_9, m64_10, m64_13, m64_20, m64_27, m64_60, f8]
          refine ⟨fun _ => ⟨k1, k2⟩, fun e => by omega⟩
        rintro e ⟨c1, c2⟩
        refine ⟨(c2 _ _ _ _ (by omega)).trans b3, fun e => absurd e hb1, fun _ => ⟨(c2 _ _ _ _ (by omega)).trans b2, (c2 _ _ _ _ (by omega)).trans b1, c1, (c2 _ _ _ _ (by omega)).trans b16⟩, fun k j o i hh => (c2 _ _ _ _ (by omega)).trans (fr _ _ _ _ hh)⟩
      · have hb1 : bad t u s := hbad.mpr (Or.inr ⟨q2, by omega⟩)
        simp (disch := omega) only [wp_some, wp_obd, wp_ob2, wp_bnd, wp_gd, wp_ite, wp_true, wp_ff, ↓l_n1, ↓l_n2, ↓l_n3, ↓l_n4, ↓l_n10, ↓l_n20, l_0, l_1, l_2, l_3, l_4, l_5, l_6, l_7, l_8, l_9, l_10, l_13, l_14, l_15, l_16, l_20, l_21, l_24, l_27, l_28, l_30, l_31, l_32, l_35, l_36, l_39, l_40, l_41, l_43, l_44, l_45, l_46, l_47, l_48, l_49, l_56, l_57, l_59, l_60, l_79, l_97, l_122, l_160, l_237, l_255, l_320, l_999, l_1000, nI_add, pk_mul, nI_eq, nI_leI, nI_ltI, nI_clamp, inb_nI_iff, e_within, e_in32, e_asNumber, e_flag, decide_eq_true_eq, Sum.elim_inl, Sum.elim_inr, true_implies, not_true_eq_false, not_false_eq_true, false_implies, and_true, true_and, nI_nn, nn_nI, nn_nn, ↓reduceIte, if_true, if_false, Nat.le_refl, implies_true, Nat.lt_irrefl, and_self_left, win1, nI_le_s1, Nat.zero_le, up_s, up_o, Nat.zero_add, m64_0, m64_1, m64_2, m64_3, m64_7, m64_8, m64_9, m64_10, m64_13, m64_20, m64_27, m64_60, b1, b2, b3, q2, esub, q3, Nat.reduceEqDiff]
        refine ⟨fun e => absurd hb1 e, fun k j o i hh => ?_⟩
        (try simp (disch := omega) only [up_s, up_o, and_self]); exact fr _ _ _ _ hh
    · have hb1 : ¬ bad t u s := fun e => by have := hbad.mp e; omega
      simp (disch := omega) only [wp_some, wp_obd, wp_ob2, wp_bnd, wp_gd, wp_ite, wp_true, wp_ff, ↓l_n1, ↓l_n2, ↓l_n3, ↓l_n4, ↓l_n10, ↓l_n20, l_0, l_1, l_2, l_3, l_4, l_5, l_6, l_7, l_8, l_9, l_10, l_13, l_14, l_15, l_16, l_20, l_21, l_24, l_27, l_28, l_30, l_31, l_32, l_35, l_36, l_39, l_40, l_41, l_43, l_44, l_45, l_46, l_47, l_48, l_49, l_56, l_57, l_59, l_60, l_79, l_97, l_122, l_160, l_237, l_255, l_320, l_999, l_1000, nI_add, pk_mul, nI_eq, nI_leI, nI_ltI, nI_clamp, inb_nI_iff, e_within, e_in32, e_asNumber, e_flag, decide_eq_true_eq, Sum.elim_inl, Sum.elim_inr, true_implies, not_true_eq_false, not_false_eq_true, false_implies, and_true, true_and, nI_nn, nn_nI, nn_nn, ↓reduceIte, if_true, if_false, Nat.le_refl, implies_true, Nat.lt_irrefl, and_self_left, win1, nI_le_s1, Nat.zero_le, up_s, up_o, Nat.zero_add, m64_0, m64_1, m64_2, m64_3, m64_7, m64_8, m64_9, m64_10, m64_13, m64_20, m64_27, m64_60, b1, b2, b3, q2, q4]
      refine (ok_up (K := fun e => ∀ k j o i, ¬ (k = 16 ∧ j = 9) → e k j o i = e20 k j o i) 0 (fun _ z => z = (nI (ta t u s), up e20 16 9 0 0 (nI 0))) (by omega) (fun j z hj => by omega) ?_ _ rfl).mono ?_
      · rintro z rfl
        simp (disch := omega) only [wp_some, wp_obd, wp_ob2, wp_bnd, wp_gd, wp_ite, wp_true, wp_ff, ↓l_n1, ↓l_n2, ↓l_n3, ↓l_n4, ↓l_n10, ↓l_n20, l_0, l_1, l_2, l_3, l_4, l_5, l_6, l_7, l_8, l_9, l_10, l_13, l_14, l_15, l_16, l_20, l_21, l_24, l_27, l_28, l_30, l_31, l_32, l_35, l_36, l_39, l_40, l_41, l_43, l_44, l_45, l_46, l_47, l_48, l_49, l_56, l_57, l_59, l_60, l_79, l_97, l_122, l_160, l_237, l_255, l_320, l_999, l_1000, nI_add, pk_mul, nI_eq, nI_leI, nI_ltI, nI_clamp, inb_nI_iff, e_within, e_in32, e_asNumber, e_flag, decide_eq_true_eq, Sum.elim_inl, Sum.elim_inr, true_implies, not_true_eq_false, not_false_eq_true, false_implies, and_true, true_and, nI_nn, nn_nI, nn_nn, ↓reduceIte, if_true, if_false, Nat.le_refl, implies_true, Nat.lt_irrefl, and_self_left, win1, nI_le_s1, Nat.zero_le, up_s, up_o, Nat.zero_add, m64_0, m64_1, m64_2, m64_3, m64_7, m64_8, m64_9, m64_10, m64_13, m64_20, m64_27, m64_60, b1, b2, q2]
        refine ⟨fun _ k j o i hh => ?_, fun _ k j o i hh => ?_⟩
        · (try simp (disch := omega) only [up_s, up_o, and_self])
        · (try simp (disch := omega) only [up_s, up_o, and_self])
      rintro e c2
      refine ⟨(c2 _ _ _ _ (by omega)).trans b3, fun e => absurd e hb1, fun _ => ⟨(c2 _ _ _ _ (by omega)).trans b2, (c2 _ _ _ _ (by omega)).trans b1, (c2 _ _ _ _ (by omega)).trans b16⟩, fun k j o i hh => (c2 _ _ _ _ (by omega)).trans (fr _ _ _ _ hh)⟩
end Cl
