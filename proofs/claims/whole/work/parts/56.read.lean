theorem ti_n {n : Nat} (h : n < 2 ^ 31) : (nI n).toInt = n := by
  unfold nI; exact Int32.toInt_ofNat_of_lt (by omega)
theorem addr {p : Int32} {m v : Nat} (hm : m ≤ 30) (hv : v < 2 ^ 16) : p + nI m = nI v ↔ p.toInt + (m : Int) = v := by
  rw [← Int32.toInt_inj, Int32.toInt_add, ti_n (by omega), ti_n (by omega), Int.bmod_def]
  have h1 := Int32.toInt_lt p
  have h2 := Int32.le_toInt p
  constructor
  · intro h
    split at h <;> omega
  · intro h
    rw [h]
    split <;> omega
theorem lpos {p : Int32} {m c : Nat} (hm : m ≤ 30) (hc : c ≤ 30) : (p.toInt64 + (nI m).toInt64 + (nI c).toInt64).toInt = p.toInt + m + c := by
  have h1 := Int32.toInt_lt p
  have h2 := Int32.le_toInt p
  rw [Int64.toInt_add, Int64.toInt_add, Int32.toInt_toInt64, Int32.toInt_toInt64, Int32.toInt_toInt64, ti_n (by omega), ti_n (by omega)]
  rw [Int.bmod_def, Int.bmod_def]
  split <;> split <;> omega
theorem llt {x : Int64} {n : Nat} (hn : n < 2 ^ 31) : x < (nI n).toInt64 ↔ x.toInt < n := by
  rw [Int64.lt_iff_toInt_lt, Int32.toInt_toInt64, ti_n hn]
theorem lgc0 (x y : Int64) : lg_cmp x y < nI 0 ↔ x < y := lgc_lt x y
theorem inbpos {p : Int32} {m N : Nat} (hm : m ≤ 30) (hN : N ≤ 40) : inb (p + nI m) N ↔ 0 ≤ p.toInt + (m : Int) ∧ p.toInt + (m : Int) < N := by
  constructor
  · intro h
    obtain ⟨v, hv, e⟩ := inb_of h (by omega)
    have := (addr hm (by omega)).mp e
    omega
  · rintro ⟨h1, h2⟩
    have e : p + nI m = nI (p.toInt + (m : Int)).toNat := (addr hm (by omega)).mpr (by omega)
    rw [e, inb_nI_iff (by omega)]
    omega
/-- the fault at pair j of a row -/
def ffp (l : Option Nat) (w N : Nat) (f : Int) (j : Nat) : Nat := match l with
  | none => 1
  | some v => if v = w then (if 0 ≤ f + (2 * j : Nat) ∧ f + (2 * j : Nat) + 1 < N then 0 else 2) else 3
theorem ffp_le {l : Option Nat} {w N j : Nat} {f : Int} : ffp l w N f j ≤ 3 := by
  unfold ffp
  split
  · omega
  · split
    · split <;> omega
    · omega
def okk (F : Nat → Nat) (zz xx : Nat → Int32) (B : Bs) (i : Nat) : Prop := F i = 0 ∧ (nI 1 ≤ zz i ∧ zz i ≤ nI 9) ∧ inb (xx i) (B 0 0) ∧ B 1 0 + i < 6
def bq (zz xx : Nat → Int32) (B : Bs) : Nat → Bs
  | 0 => B
  | j + 1 => mnt (bq zz xx B j) (zz j).toNatClampNeg (xx j).toNatClampNeg
section Bq
variable {zz xx : Nat → Int32} {B T : Bs} {F : Nat → Nat}
theorem bq_1 : ∀ {j : Nat}, bq zz xx B j 1 0 = B 1 0 + j
  | 0 => rfl
  | j + 1 => by show mnt _ _ _ 1 0 = _; rw [mnt_1, bq_1]; omega
theorem bq_f {f i : Nat} (h : f ≠ 1 ∧ f ≠ 9 ∧ f ≠ 10 ∧ f ≠ 11) : ∀ {j : Nat}, bq zz xx B j f i = B f i
  | 0 => rfl
  | j + 1 => by show mnt _ _ _ f i = _; rw [mnt_f h, bq_f h]
theorem bq_o {f i : Nat} (h : f ≠ 1) (hi : i < B 1 0) : ∀ {j : Nat}, bq zz xx B j f i = B f i
  | 0 => rfl
  | j + 1 => by show mnt _ _ _ f i = _; rw [mnt_o h (by rw [bq_1]; omega), bq_o h hi]
theorem bq_hd {k : Nat} (hB : B 0 0 ≤ 8) : ∀ {j : Nat}, (∀ i, i < j → okk F zz xx B i) → hd (bq zz xx B j) k = hd B k
  | 0, _ => rfl
  | j + 1, h => by
    show hd (mnt _ _ _) k = _
    obtain ⟨x', hx', e⟩ := inb_of (h j (by omega)).2.2.1 (by omega)
    rw [hd_mnt (by rw [e, nI_clamp (by omega)]; omega), bq_hd hB (fun i hi => h i (by omega))]
theorem bq_W (hW : WN B T) : ∀ {j : Nat}, (∀ i, i < j → okk F zz xx B i) → WN (bq zz xx B j) T
  | 0, _ => hW
  | j + 1, h => by
    have w0 := hW.1.1
    obtain ⟨a, b, c, d⟩ := h j (by omega)
    obtain ⟨x', hx', e⟩ := inb_of c (by omega)
    obtain ⟨z', z1, z2, e'⟩ := rng (by decide) (by decide) b
    refine WN_mnt (bq_W hW (fun i hi => h i (by omega))) (by rw [bq_1]; exact d) ?_ ?_
    · rw [e', nI_clamp (by omega)]; omega
    · rw [e, nI_clamp (by omega)]; omega
theorem KN_back {z : Mem} {c : Nat} (hK : KN z (bq zz xx B c) T) (hW : WN B T) (ho : ∀ i, i < c → okk F zz xx B i) : KN (up z 1 2 0 0 (nI (B 1 0))) B T := by
  obtain ⟨⟨hM0, hM1, hM2, hM3, hM4, hM5, hM6, hM7, hM8, hM9, hM10⟩, hH, hS⟩ := hK
  have w0 := hW.1.1
  have g : ∀ f i, (f ≠ 1 ∧ f ≠ 9 ∧ f ≠ 10 ∧ f ≠ 11) → bq zz xx B c f i = B f i := fun f i h => bq_f h
  simp only [g 0 _ (by decide), g 2 _ (by decide), g 3 _ (by decide), g 4 _ (by decide), g 5 _ (by decide), g 6 _ (by decide), g 7 _ (by decide), g 8 _ (by decide), g 12 _ (by decide), g 13 _ (by decide), g 14 _ (by decide), g 15 _ (by decide), bq_1] at hM0 hM1 hM2 hM3 hM4 hM5 hM6 hM7 hM8 hM9 hM10
  refine ⟨⟨?_, ?_, ?_, ?_, ?_, ?_, ?_, fun x hx => ?_, fun i hi => ?_, fun i hi => ?_, fun k hk => ?_⟩, fun k hk => ?_, CSg_fr hS (fun k' j i a b => up_o (by omega))⟩
  · (try simp (disch := omega) only [up_s, up_o, and_self]); exact hM0
  · (try simp (disch := omega) only [up_s, up_o, and_self])
  · (try simp (disch := omega) only [up_s, up_o, and_self]); exact hM2
  · (try simp (disch := omega) only [up_s, up_o, and_self]); exact hM3
  · (try simp (disch := omega) only [up_s, up_o, and_self]); exact hM4
  · (try simp (disch := omega) only [up_s, up_o, and_self]); exact hM5
  · (try simp (disch := omega) only [up_s, up_o, and_self]); exact hM6
  · (try simp (disch := omega) only [up_s, up_o, and_self]); exact hM7 x hx
  · (try simp (disch := omega) only [up_s, up_o, and_self]); exact hM8 i hi
  · have := hM9 i (by omega)
    rw [bq_o (by decide) hi, bq_o (by decide) hi, bq_o (by decide) hi] at this
    (try simp (disch := omega) only [up_s, up_o, and_self]); exact this
  · (try simp (disch := omega) only [up_s, up_o, and_self]); exact hM10 k hk
  · (try simp (disch := omega) only [up_s, up_o, and_self])
    rw [← bq_hd (F := F) (zz := zz) (xx := xx) (j := c) (by omega) ho]
    exact hH k (by rw [bq_f (by decide)]; exact hk)
theorem RN_back {z : Mem} {c : Nat} (hK : RN z (bq zz xx B c) T) (hW : WN B T) : RN (up z 25 0 0 8 (nI (B 1 0))) B T := by
  obtain ⟨⟨⟨s0, s1, s2, s3, s4, s5, s6⟩, n0, n2⟩, hT⟩ := hK
  have w1 := hW.1.2.1
  have w2 := hW.1.2.2.1
  have g : ∀ f i, (f ≠ 1 ∧ f ≠ 9 ∧ f ≠ 10 ∧ f ≠ 11) → bq zz xx B c f i = B f i := fun f i h => bq_f h
  simp only [g 0 _ (by decide), g 2 _ (by decide), g 3 _ (by decide), g 4 _ (by decide), g 5 _ (by decide), g 7 _ (by decide), g 12 _ (by decide), g 13 _ (by decide), g 14 _ (by decide), g 15 _ (by decide), bq_1] at s0 s1 s2 s3 s4 s5 s6 n0 n2
  refine ⟨⟨⟨fun x hx => ?_, ?_, fun i hi => ?_, fun k hk => ?_, ?_, ?_, ?_⟩, ?_, ?_⟩, TN_fr hW.2.2.1 hT (fun i a b => up_o (by omega))⟩
  · (try simp (disch := omega) only [up_s, up_o, and_self]); exact s0 x hx
  · (try simp (disch := omega) only [up_s, up_o, and_self])
  · have := s2 i (by omega)
    rw [bq_o (by decide) hi, bq_o (by decide) hi, bq_o (by decide) hi] at this
    (try simp (disch := omega) only [up_s, up_o, and_self]); exact this
  · (try simp (disch := omega) only [up_s, up_o, and_self]); exact s3 k hk
  · (try simp (disch := omega) only [up_s, up_o, and_self]); exact s4
  · (try simp (disch := omega) only [up_s, up_o, and_self]); exact s5
  · (try simp (disch := omega) only [up_s, up_o, and_self]); exact s6
  · (try simp (disch := omega) only [up_s, up_o, and_self]); exact n0
  · (try simp (disch := omega) only [up_s, up_o, and_self]); exact n2
end Bq
theorem nn_lt0 {a b : Nat} (ha : a < 2 ^ 31) (hb : 0 < b ∧ b < 2 ^ 31) : (nI a ≤ nn b) ↔ False := by
  rw [le_toInt, ti_n ha, nn_toInt hb.2]
  constructor
  · intro h; omega
  · exact False.elim
section Tri
variable {h g : Mem} {B T : Bs} {o S : Nat}
theorem c_pair {k w N j : Nat} {l : Option Nat} {p : Int32} (hw : w ≤ 2) (hj : j ≤ 13) (hl : ∀ v, l = some v → v ≤ 2) (a1 : h 22 1 k 0 = on (nn 1) l) (hN : N ≤ 40) (a3 : l ≠ none → h 22 2 k 0 = nI N) : f_X5_faultAtPair k (nI w) (p + nI (2 * j)) h = some (nI (ffp l w N p.toInt j)) := by
  apply Ok.eqv
  unfold f_X5_faultAtPair f_X5_faultAt
  cases l with
  | none =>
    rw [on_none] at a1
    simp (disch := omega) only [wp_some, wp_obd, wp_ob2, wp_bnd, wp_gd, wp_ite, wp_true, wp_ff, ↓l_n1, ↓l_n2, ↓l_n3, ↓l_n4, ↓l_n10, ↓l_n20, l_0, l_1, l_2, l_3, l_4, l_5, l_6, l_7, l_8, l_9, l_10, l_13, l_14, l_15, l_16, l_20, l_21, l_24, l_27, l_28, l_30, l_31, l_32, l_35, l_36, l_39, l_40, l_41, l_43, l_44, l_45, l_46, l_47, l_48, l_49, l_56, l_57, l_59, l_60, l_79, l_97, l_122, l_160, l_237, l_255, l_320, l_999, l_1000, nI_add, pk_mul, nI_eq, nI_leI, nI_ltI, nI_clamp, inb_nI_iff, e_within, e_in32, e_asNumber, e_flag, decide_eq_true_eq, Sum.elim_inl, Sum.elim_inr, true_implies, not_true_eq_false, not_false_eq_true, false_implies, and_true, true_and, nI_nn, nn_nI, nn_nn, ↓reduceIte, if_true, if_false, Nat.le_refl, implies_true, Nat.lt_irrefl, and_self_left, win1, nI_le_s1, Nat.zero_le, up_s, up_o, Nat.zero_add, m64_0, m64_1, m64_2, m64_3, m64_7, m64_8, m64_9, m64_10, m64_13, m64_20, m64_27, m64_60, a1, Nat.reduceEqDiff]
    rfl
  | some v =>
    have hv := hl v rfl
    rw [on_sm] at a1
    have a4 := a3 (by simp)
    by_cases e : v = w
    · have q1 := inbpos (p := p) (m := 2 * j) (N := N) (by omega) hN
      have q2 := inbpos (p := p) (m := 2 * j + 1) (N := N) (by omega) hN
      have ea : p + nI (2 * j) + nI 1 = p + nI (2 * j + 1) := by rw [Int32.add_assoc, nI_add]
      have hf : ffp (some v) w N p.toInt j = if 0 ≤ p.toInt + (2 * j : Nat) ∧ p.toInt + (2 * j : Nat) + 1 < N then 0 else 2 := by
        show (if v = w then _ else _) = _
        rw [if_pos e]
      rw [hf]
      by_cases h1 : inb (p + nI (2 * j)) N
      · by_cases h2 : inb (p + nI (2 * j + 1)) N
        · have hv0 : 0 ≤ p.toInt + (2 * j : Nat) ∧ p.toInt + (2 * j : Nat) + 1 < N := by
            have := q1.mp h1
            have := q2.mp h2
            omega
          rw [if_pos hv0]
          simp (disch := omega) only [wp_some, wp_obd, wp_ob2, wp_bnd, wp_gd, wp_ite, wp_true, wp_ff, ↓l_n1, ↓l_n2, ↓l_n3, ↓l_n4, ↓l_n10, ↓l_n20, l_0, l_1, l_2, l_3, l_4, l_5, l_6, l_7, l_8, l_9, l_10, l_13, l_14, l_15, l_16, l_20, l_21, l_24, l_27, l_28, l_30, l_31, l_32, l_35, l_36, l_39, l_40, l_41, l_43, l_44, l_45, l_46, l_47, l_48, l_49, l_56, l_57, l_59, l_60, l_79, l_97, l_122, l_160, l_237, l_255, l_320, l_999, l_1000, nI_add, pk_mul, nI_eq, nI_leI, nI_ltI, nI_clamp, inb_nI_iff, e_within, e_in32, e_asNumber, e_flag, decide_eq_true_eq, Sum.elim_inl, Sum.elim_inr, true_implies, not_true_eq_false, not_false_eq_true, false_implies, and_true, true_and, nI_nn, nn_nI, nn_nn, ↓reduceIte, if_true, if_false, Nat.le_refl, implies_true, Nat.lt_irrefl, and_self_left, win1, nI_le_s1, Nat.zero_le, up_s, up_o, Nat.zero_add, m64_0, m64_1, m64_2, m64_3, m64_7, m64_8, m64_9, m64_10, m64_13, m64_20, m64_27, m64_60, a1, a4, e, ea, eq_true h1, eq_true h2, Nat.reduceEqDiff]
        · have hv0 : ¬ (0 ≤ p.toInt + (2 * j : Nat) ∧ p.toInt + (2 * j : Nat) + 1 < N) := fun w => h2 (q2.mpr (by omega))
          rw [if_neg hv0]
          simp (disch := omega) only [wp_some, wp_obd, wp_ob2, wp_bnd, wp_gd, wp_ite, wp_true, wp_ff, ↓l_n1, ↓l_n2, ↓l_n3, ↓l_n4, ↓l_n10, ↓l_n20, l_0, l_1, l_2, l_3, l_4, l_5, l_6, l_7, l_8, l_9, l_10, l_13, l_14, l_15, l_16, l_20, l_21, l_24, l_27, l_28, l_30, l_31, l_32, l_35, l_36, l_39, l_40, l_41, l_43, l_44, l_45, l_46, l_47, l_48, l_49, l_56, l_57, l_59, l_60, l_79, l_97, l_122, l_160, l_237, l_255, l_320, l_999, l_1000, nI_add, pk_mul, nI_eq, nI_leI, nI_ltI, nI_clamp, inb_nI_iff, e_within, e_in32, e_asNumber, e_flag, decide_eq_true_eq, Sum.elim_inl, Sum.elim_inr, true_implies, not_true_eq_false, not_false_eq_true, false_implies, and_true, true_and, nI_nn, nn_nI, nn_nn, ↓reduceIte, if_true, if_false, Nat.le_refl, implies_true, Nat.lt_irrefl, and_self_left, win1, nI_le_s1, Nat.zero_le, up_s, up_o, Nat.zero_add, m64_0, m64_1, m64_2, m64_3, m64_7, m64_8, m64_9, m64_10, m64_13, m64_20, m64_27, m64_60, a1, a4, e, ea, eq_true h1, eq_false h2, Nat.reduceEqDiff]
      · have hv0 : ¬ (0 ≤ p.toInt + (2 * j : Nat) ∧ p.toInt + (2 * j : Nat) + 1 < N) := fun w => h1 (q1.mpr (by omega))
        rw [if_neg hv0]
        simp (disch := omega) only [wp_some, wp_obd, wp_ob2, wp_bnd, wp_gd, wp_ite, wp_true, wp_ff, ↓l_n1, ↓l_n2, ↓l_n3, ↓l_n4, ↓l_n10, ↓l_n20, l_0, l_1, l_2, l_3, l_4, l_5, l_6, l_7, l_8, l_9, l_10, l_13, l_14, l_15, l_16, l_20, l_21, l_24, l_27, l_28, l_30, l_31, l_32, l_35, l_36, l_39, l_40, l_41, l_43, l_44, l_45, l_46, l_47, l_48, l_49, l_56, l_57, l_59, l_60, l_79, l_97, l_122, l_160, l_237, l_255, l_320, l_999, l_1000, nI_add, pk_mul, nI_eq, nI_leI, nI_ltI, nI_clamp, inb_nI_iff, e_within, e_in32, e_asNumber, e_flag, decide_eq_true_eq, Sum.elim_inl, Sum.elim_inr, true_implies, not_true_eq_false, not_false_eq_true, false_implies, and_true, true_and, nI_nn, nn_nI, nn_nn, ↓reduceIte, if_true, if_false, Nat.le_refl, implies_true, Nat.lt_irrefl, and_self_left, win1, nI_le_s1, Nat.zero_le, up_s, up_o, Nat.zero_add, m64_0, m64_1, m64_2, m64_3, m64_7, m64_8, m64_9, m64_10, m64_13, m64_20, m64_27, m64_60, a1, a4, e, ea, eq_false h1, Nat.reduceEqDiff]
    · have hf : ffp (some v) w N p.toInt j = 3 := by
        show (if v = w then _ else _) = _
        rw [if_neg e]
      rw [hf]
      simp (disch := omega) only [wp_some, wp_obd, wp_ob2, wp_bnd, wp_gd, wp_ite, wp_true, wp_ff, ↓l_n1, ↓l_n2, ↓l_n3, ↓l_n4, ↓l_n10, ↓l_n20, l_0, l_1, l_2, l_3, l_4, l_5, l_6, l_7, l_8, l_9, l_10, l_13, l_14, l_15, l_16, l_20, l_21, l_24, l_27, l_28, l_30, l_31, l_32, l_35, l_36, l_39, l_40, l_41, l_43, l_44, l_45, l_46, l_47, l_48, l_49, l_56, l_57, l_59, l_60, l_79, l_97, l_122, l_160, l_237, l_255, l_320, l_999, l_1000, nI_add, pk_mul, nI_eq, nI_leI, nI_ltI, nI_clamp, inb_nI_iff, e_within, e_in32, e_asNumber, e_flag, decide_eq_true_eq, Sum.elim_inl, Sum.elim_inr, true_implies, not_true_eq_false, not_false_eq_true, false_implies, and_true, true_and, nI_nn, nn_nI, nn_nn, ↓reduceIte, if_true, if_false, Nat.le_refl, implies_true, Nat.lt_irrefl, and_self_left, win1, nI_le_s1, Nat.zero_le, up_s, up_o, Nat.zero_add, m64_0, m64_1, m64_2, m64_3, m64_7, m64_8, m64_9, m64_10, m64_13, m64_20, m64_27, m64_60, a1, e]
theorem ffp_0 {l : Option Nat} {w N j : Nat} {p : Int32} (hj : j ≤ 13) (hN : N ≤ 40) (h : ffp l w N p.toInt j = 0) : l = some w ∧ 0 ≤ p.toInt + (2 * j : Nat) ∧ p.toInt + (2 * j : Nat) + 1 < N ∧ p + nI (2 * j) = nI (p.toInt + (2 * j : Nat)).toNat ∧ (p.toInt + (2 * j : Nat)).toNat + 1 < 40 := by
  unfold ffp at h
  cases l with
  | none => cases h
  | some v =>
    dsimp only at h
    by_cases e : v = w
    · rw [if_pos e] at h
      by_cases q : 0 ≤ p.toInt + (2 * j : Nat) ∧ p.toInt + (2 * j : Nat) + 1 < N
      · refine ⟨by rw [e], q.1, q.2, (addr (by omega) (by omega)).mpr (by omega), by omega⟩
      · rw [if_neg q] at h; cases h
    · rw [if_neg e] at h; cases h
def zof (h : Mem) (k : Nat) (p : Int32) (j : Nat) : Int32 := h 23 0 k (p.toInt + (2 * j : Nat)).toNat
def xof (h : Mem) (k : Nat) (p : Int32) (j : Nat) : Int32 := h 23 0 k ((p.toInt + (2 * j : Nat)).toNat + 1)
theorem c_read (hK : KN h B T) (hW : WN B T) {k w N n : Nat} {l : Option Nat} {p : Int32} {F : Nat → Nat} {zz xx : Nat → Int32} (hk : k ≤ 3) (hw : w ≤ 2) (hn : n ≤ 13) (hl : ∀ v, l = some v → v ≤ 2) (a1 : h 22 1 k 0 = on (nn 1) l) (hN : N ≤ 40) (a3 : l ≠ none → h 22 2 k 0 = nI N) (hF : ∀ j, ffp l w N p.toInt j = F j) (hz : ∀ j, zof h k p j = zz j) (hx : ∀ j, xof h k p j = xx j) : Ok (f_X9_read (nI k) (nI w) p (nI n) h) (fun q => (∃ c, c < n ∧ (∀ i, i < c → okk F zz xx B i) ∧ F c = 0 ∧ ¬ okk F zz xx B c ∧ q.1 = nn 20 - nI c ∧ KN q.2 B T ∧ FrO h q.2 0) ∨ ∃ c f, c ≤ n ∧ (∀ i, i < c → okk F zz xx B i) ∧ (c = n ∧ f = 0 ∨ c < n ∧ F c = f ∧ f ≠ 0) ∧ q.1 = nI c ∧ KN q.2 (bq zz xx B c) T ∧ ∃ h', FrO h h' 0 ∧ q.2 = up h' 0 8 0 0 (nI f)) := by
  have hM1 := hK.1.2.1
  have w0 := hW.1.1
  have w1 := hW.1.2.1
  have hF3 : ∀ j, F j ≤ 3 := fun j => by rw [← hF]; exact ffp_le
  unfold f_X9_read f_X9_isSheet f_X9_isLane
  simp (disch := omega) only [wp_some, wp_obd, wp_ob2, wp_bnd, wp_gd, wp_ite, wp_true, wp_ff, ↓l_n1, ↓l_n2, ↓l_n3, ↓l_n4, ↓l_n10, ↓l_n20, l_0, l_1, l_2, l_3, l_4, l_5, l_6, l_7, l_8, l_9, l_10, l_13, l_14, l_15, l_16, l_20, l_21, l_24, l_27, l_28, l_30, l_31, l_32, l_35, l_36, l_39, l_40, l_41, l_43, l_44, l_45, l_46, l_47, l_48, l_49, l_56, l_57, l_59, l_60, l_79, l_97, l_122, l_160, l_237, l_255, l_320, l_999, l_1000, nI_add, pk_mul, nI_eq, nI_leI, nI_ltI, nI_clamp, inb_nI_iff, e_within, e_in32, e_asNumber, e_flag, decide_eq_true_eq, Sum.elim_inl, Sum.elim_inr, true_implies, not_true_eq_false, not_false_eq_true, false_implies, and_true, true_and, nI_nn, nn_nI, nn_nn, ↓reduceIte, if_true, if_false, Nat.le_refl, implies_true, Nat.lt_irrefl, and_self_left, win1, nI_le_s1, Nat.zero_le, up_s, up_o, Nat.zero_add, m64_0, m64_1, m64_2, m64_3, m64_7, m64_8, m64_9, m64_10, m64_13, m64_20, m64_27, m64_60, hk, hw, hn, hM1]
  refine ⟨by omega, ?_⟩
  refine (ok_up (K := Sum.elim (fun q => ∃ c, c < n ∧ (∀ i, i < c → okk F zz xx B i) ∧ F c = 0 ∧ ¬ okk F zz xx B c ∧ q.1 = nn 20 - nI c ∧ KN q.2 B T ∧ FrO h q.2 0) (fun e => ∃ c f, c ≤ n ∧ (∀ i, i < c → okk F zz xx B i) ∧ (c = n ∧ f = 0 ∨ c < n ∧ F c = f ∧ f ≠ 0) ∧ e.1 = nI f ∧ e.2.1 = nI c ∧ KN e.2.2 (bq zz xx B c) T ∧ FrO h e.2.2 0)) n (fun j z => KN z.2.2 (bq zz xx B (z.2.1).toNatClampNeg) T ∧ FrO h z.2.2 0 ∧ ((z.1 = nI 0 ∧ z.2.1 = nI j ∧ ∀ i, i < j → okk F zz xx B i) ∨ (∃ c, j = c + 1 ∧ F c ≠ 0 ∧ (∀ i, i < c → okk F zz xx B i) ∧ z.1 = nI (F c) ∧ z.2.1 = nI c))) (by omega) ?_ ?_ _ ⟨hK, FrO.rf, Or.inl ⟨rfl, rfl, fun i hi => by omega⟩⟩).mono ?_
  · rintro j ⟨v1, v2, z⟩ hj ⟨k1, k2, k3⟩
    dsimp only at k1 k2 k3
    rcases k3 with ⟨rfl, rfl, k4⟩ | ⟨c, rfl, k4, k5, rfl, rfl⟩
    · rw [nI_clamp (by omega)] at k1
      have fp : f_X5_faultAtPair k (nI w) (p + nI (2 * j)) z = some (nI (F j)) := by
        rw [c_pair (l := l) (N := N) hw (by omega) hl ((k2 _ _ _ _ (by omega)).trans a1) hN (fun e => (k2 _ _ _ _ (by omega)).trans (a3 e)), hF]
      have hf3 := hF3 j
      by_cases f0 : F j = 0
      · have hf := hF j
        rw [f0] at fp hf
        obtain ⟨y1, y2, y3, y4, y5⟩ := ffp_0 (by omega) hN hf
        have ez : z 23 0 k (p.toInt + (2 * j : Nat)).toNat = zz j := (k2 _ _ _ _ (by omega)).trans (hz j)
        have ex : z 23 0 k ((p.toInt + (2 * j : Nat)).toNat + 1) = xx j := (k2 _ _ _ _ (by omega)).trans (hx j)
        generalize (p.toInt + (2 * j : Nat)).toNat = v at y4 y5 ez ex
        rw [y4] at fp
        simp (disch := omega) only [wp_some, wp_obd, wp_ob2, wp_bnd, wp_gd, wp_ite, wp_true, wp_ff, ↓l_n1, ↓l_n2, ↓l_n3, ↓l_n4, ↓l_n10, ↓l_n20, l_0, l_1, l_2, l_3, l_4, l_5, l_6, l_7, l_8, l_9, l_10, l_13, l_14, l_15, l_16, l_20, l_21, l_24, l_27, l_28, l_30, l_31, l_32, l_35, l_36, l_39, l_40, l_41, l_43, l_44, l_45, l_46, l_47, l_48, l_49, l_56, l_57, l_59, l_60, l_79, l_97, l_122, l_160, l_237, l_255, l_320, l_999, l_1000, nI_add, pk_mul, nI_eq, nI_leI, nI_ltI, nI_clamp, inb_nI_iff, e_within, e_in32, e_asNumber, e_flag, decide_eq_true_eq, Sum.elim_inl, Sum.elim_inr, true_implies, not_true_eq_false, not_false_eq_true, false_implies, and_true, true_and, nI_nn, nn_nI, nn_nn, ↓reduceIte, if_true, if_false, Nat.le_refl, implies_true, Nat.lt_irrefl, and_self_left, win1, nI_le_s1, Nat.zero_le, up_s, up_o, Nat.zero_add, m64_0, m64_1, m64_2, m64_3, m64_7, m64_8, m64_9, m64_10, m64_13, m64_20, m64_27, m64_60, y4, fp, ez, ex]
        refine ⟨fun e => by omega, fun _ => ⟨by omega, by omega, ?_⟩⟩
        refine (c_mint k1 (bq_W hW k4) (zz j) (xx j)).mono ?_
        rintro ⟨r, h1⟩ hq
        rw [bq_f (by decide), bq_1] at hq
        rcases hq with ⟨m1, m2⟩ | ⟨m1, m2, m3⟩ | ⟨z', x', m1, m2, m3, m4, m5, m6, m7, m8⟩
        · cases m2
          simp (disch := omega) only [wp_some, wp_obd, wp_ob2, wp_bnd, wp_gd, wp_ite, wp_true, wp_ff, ↓l_n1, ↓l_n2, ↓l_n3, ↓l_n4, ↓l_n10, ↓l_n20, l_0, l_1, l_2, l_3, l_4, l_5, l_6, l_7, l_8, l_9, l_10, l_13, l_14, l_15, l_16, l_20, l_21, l_24, l_27, l_28, l_30, l_31, l_32, l_35, l_36, l_39, l_40, l_41, l_43, l_44, l_45, l_46, l_47, l_48, l_49, l_56, l_57, l_59, l_60, l_79, l_97, l_122, l_160, l_237, l_255, l_320, l_999, l_1000, nI_add, pk_mul, nI_eq, nI_leI, nI_ltI, nI_clamp, inb_nI_iff, e_within, e_in32, e_asNumber, e_flag, decide_eq_true_eq, Sum.elim_inl, Sum.elim_inr, true_implies, not_true_eq_false, not_false_eq_true, false_implies, and_true, true_and, nI_nn, nn_nI, nn_nn, ↓reduceIte, if_true, if_false, Nat.le_refl, implies_true, Nat.lt_irrefl, and_self_left, win1, nI_le_s1, Nat.zero_le, up_s, up_o, Nat.zero_add, m64_0, m64_1, m64_2, m64_3, m64_7, m64_8, m64_9, m64_10, m64_13, m64_20, m64_27, m64_60, nn_lt0]
          refine ⟨j, hj, k4, f0, fun w => m1 ⟨w.2.1, w.2.2.1⟩, rfl, KN_back k1 hW k4, k2.tr (FrO.up (by decide))⟩
        · cases m3
          simp (disch := omega) only [wp_some, wp_obd, wp_ob2, wp_bnd, wp_gd, wp_ite, wp_true, wp_ff, ↓l_n1, ↓l_n2, ↓l_n3, ↓l_n4, ↓l_n10, ↓l_n20, l_0, l_1, l_2, l_3, l_4, l_5, l_6, l_7, l_8, l_9, l_10, l_13, l_14, l_15, l_16, l_20, l_21, l_24, l_27, l_28, l_30, l_31, l_32, l_35, l_36, l_39, l_40, l_41, l_43, l_44, l_45, l_46, l_47, l_48, l_49, l_56, l_57, l_59, l_60, l_79, l_97, l_122, l_160, l_237, l_255, l_320, l_999, l_1000, nI_add, pk_mul, nI_eq, nI_leI, nI_ltI, nI_clamp, inb_nI_iff, e_within, e_in32, e_asNumber, e_flag, decide_eq_true_eq, Sum.elim_inl, Sum.elim_inr, true_implies, not_true_eq_false, not_false_eq_true, false_implies, and_true, true_and, nI_nn, nn_nI, nn_nn, ↓reduceIte, if_true, if_false, Nat.le_refl, implies_true, Nat.lt_irrefl, and_self_left, win1, nI_le_s1, Nat.zero_le, up_s, up_o, Nat.zero_add, m64_0, m64_1, m64_2, m64_3, m64_7, m64_8, m64_9, m64_10, m64_13, m64_20, m64_27, m64_60, nn_lt0]
          refine ⟨j, hj, k4, f0, fun w => by have := w.2.2.2; omega, rfl, KN_back k1 hW k4, k2.tr (FrO.up (by decide))⟩
        · dsimp only at m6 m7 m8
          subst m6
          simp (disch := omega) only [wp_some, wp_obd, wp_ob2, wp_bnd, wp_gd, wp_ite, wp_true, wp_ff, ↓l_n1, ↓l_n2, ↓l_n3, ↓l_n4, ↓l_n10, ↓l_n20, l_0, l_1, l_2, l_3, l_4, l_5, l_6, l_7, l_8, l_9, l_10, l_13, l_14, l_15, l_16, l_20, l_21, l_24, l_27, l_28, l_30, l_31, l_32, l_35, l_36, l_39, l_40, l_41, l_43, l_44, l_45, l_46, l_47, l_48, l_49, l_56, l_57, l_59, l_60, l_79, l_97, l_122, l_160, l_237, l_255, l_320, l_999, l_1000, nI_add, pk_mul, nI_eq, nI_leI, nI_ltI, nI_clamp, inb_nI_iff, e_within, e_in32, e_asNumber, e_flag, decide_eq_true_eq, Sum.elim_inl, Sum.elim_inr, true_implies, not_true_eq_false, not_false_eq_true, false_implies, and_true, true_and, nI_nn, nn_nI, nn_nn, ↓reduceIte, if_true, if_false, Nat.le_refl, implies_true, Nat.lt_irrefl, and_self_left, win1, nI_le_s1, Nat.zero_le, up_s, up_o, Nat.zero_add, m64_0, m64_1, m64_2, m64_3, m64_7, m64_8, m64_9, m64_10, m64_13, m64_20, m64_27, m64_60]
          refine ⟨?_, k2.tr m8, Or.inl (fun i hi => ?_)⟩
          · show KN h1 (mnt _ (zz j).toNatClampNeg (xx j).toNatClampNeg) T
            rw [m1, m2, nI_clamp (by omega), nI_clamp (by omega)]
            exact m7
          · by_cases e : i = j
            · subst e
              refine ⟨f0, ?_, ?_, by omega⟩
              · rw [m1, nI_leI (by omega) (by omega), nI_leI (by omega) (by omega)]; omega
              · rw [m2, inb_nI_iff (by omega)]; exact m4
            · exact k4 i (by omega)
      · simp (disch := omega) only [wp_some, wp_obd, wp_ob2, wp_bnd, wp_gd, wp_ite, wp_true, wp_ff, ↓l_n1, ↓l_n2, ↓l_n3, ↓l_n4, ↓l_n10, ↓l_n20, l_0, l_1, l_2, l_3, l_4, l_5, l_6, l_7, l_8, l_9, l_10, l_13, l_14, l_15, l_16, l_20, l_21, l_24, l_27, l_28, l_30, l_31, l_32, l_35, l_36, l_39, l_40, l_41, l_43, l_44, l_45, l_46, l_47, l_48, l_49, l_56, l_57, l_59, l_60, l_79, l_97, l_122, l_160, l_237, l_255, l_320, l_999, l_1000, nI_add, pk_mul, nI_eq, nI_leI, nI_ltI, nI_clamp, inb_nI_iff, e_within, e_in32, e_asNumber, e_flag, decide_eq_true_eq, Sum.elim_inl, Sum.elim_inr, true_implies, not_true_eq_false, not_false_eq_true, false_implies, and_true, true_and, nI_nn, nn_nI, nn_nn, ↓reduceIte, if_true, if_false, Nat.le_refl, implies_true, Nat.lt_irrefl, and_self_left, win1, nI_le_s1, Nat.zero_le, up_s, up_o, Nat.zero_add, m64_0, m64_1, m64_2, m64_3, m64_7, m64_8, m64_9, m64_10, m64_13, m64_20, m64_27, m64_60, fp, f0]
        refine ⟨fun e => by omega, fun _ => ⟨k1, k2, Or.inr ⟨j, rfl, f0, k4, rfl, rfl⟩⟩⟩
    · have := hF3 c
      rw [nI_clamp (by omega)] at k1
      simp (disch := omega) only [wp_some, wp_obd, wp_ob2, wp_bnd, wp_gd, wp_ite, wp_true, wp_ff, ↓l_n1, ↓l_n2, ↓l_n3, ↓l_n4, ↓l_n10, ↓l_n20, l_0, l_1, l_2, l_3, l_4, l_5, l_6, l_7, l_8, l_9, l_10, l_13, l_14, l_15, l_16, l_20, l_21, l_24, l_27, l_28, l_30, l_31, l_32, l_35, l_36, l_39, l_40, l_41, l_43, l_44, l_45, l_46, l_47, l_48, l_49, l_56, l_57, l_59, l_60, l_79, l_97, l_122, l_160, l_237, l_255, l_320, l_999, l_1000, nI_add, pk_mul, nI_eq, nI_leI, nI_ltI, nI_clamp, inb_nI_iff, e_within, e_in32, e_asNumber, e_flag, decide_eq_true_eq, Sum.elim_inl, Sum.elim_inr, true_implies, not_true_eq_false, not_false_eq_true, false_implies, and_true, true_and, nI_nn, nn_nI, nn_nn, ↓reduceIte, if_true, if_false, Nat.le_refl, implies_true, Nat.lt_irrefl, and_self_left, win1, nI_le_s1, Nat.zero_le, up_s, up_o, Nat.zero_add, m64_0, m64_1, m64_2, m64_3, m64_7, m64_8, m64_9, m64_10, m64_13, m64_20, m64_27, m64_60, k4]
      exact ⟨c, F c, by omega, k5, Or.inr ⟨by omega, rfl, k4⟩, rfl, rfl, k1, k2⟩
  · rintro ⟨v1, v2, z⟩ ⟨k1, k2, k3⟩
    dsimp only at k1 k2 k3
    rcases k3 with ⟨rfl, rfl, k4⟩ | ⟨c, e, k4, k5, rfl, rfl⟩
    · rw [nI_clamp (by omega)] at k1
      simp (disch := omega) only [wp_some, wp_obd, wp_ob2, wp_bnd, wp_gd, wp_ite, wp_true, wp_ff, ↓l_n1, ↓l_n2, ↓l_n3, ↓l_n4, ↓l_n10, ↓l_n20, l_0, l_1, l_2, l_3, l_4, l_5, l_6, l_7, l_8, l_9, l_10, l_13, l_14, l_15, l_16, l_20, l_21, l_24, l_27, l_28, l_30, l_31, l_32, l_35, l_36, l_39, l_40, l_41, l_43, l_44, l_45, l_46, l_47, l_48, l_49, l_56, l_57, l_59, l_60, l_79, l_97, l_122, l_160, l_237, l_255, l_320, l_999, l_1000, nI_add, pk_mul, nI_eq, nI_leI, nI_ltI, nI_clamp, inb_nI_iff, e_within, e_in32, e_asNumber, e_flag, decide_eq_true_eq, Sum.elim_inl, Sum.elim_inr, true_implies, not_true_eq_false, not_false_eq_true, false_implies, and_true, true_and, nI_nn, nn_nI, nn_nn, ↓reduceIte, if_true, if_false, Nat.le_refl, implies_true, Nat.lt_irrefl, and_self_left, win1, nI_le_s1, Nat.zero_le, up_s, up_o, Nat.zero_add, m64_0, m64_1, m64_2, m64_3, m64_7, m64_8, m64_9, m64_10, m64_13, m64_20, m64_27, m64_60]
      exact ⟨n, 0, by omega, k4, Or.inl ⟨rfl, rfl⟩, rfl, rfl, k1, k2⟩
    · have := hF3 c
      rw [nI_clamp (by omega)] at k1
      simp (disch := omega) only [wp_some, wp_obd, wp_ob2, wp_bnd, wp_gd, wp_ite, wp_true, wp_ff, ↓l_n1, ↓l_n2, ↓l_n3, ↓l_n4, ↓l_n10, ↓l_n20, l_0, l_1, l_2, l_3, l_4, l_5, l_6, l_7, l_8, l_9, l_10, l_13, l_14, l_15, l_16, l_20, l_21, l_24, l_27, l_28, l_30, l_31, l_32, l_35, l_36, l_39, l_40, l_41, l_43, l_44, l_45, l_46, l_47, l_48, l_49, l_56, l_57, l_59, l_60, l_79, l_97, l_122, l_160, l_237, l_255, l_320, l_999, l_1000, nI_add, pk_mul, nI_eq, nI_leI, nI_ltI, nI_clamp, inb_nI_iff, e_within, e_in32, e_asNumber, e_flag, decide_eq_true_eq, Sum.elim_inl, Sum.elim_inr, true_implies, not_true_eq_false, not_false_eq_true, false_implies, and_true, true_and, nI_nn, nn_nI, nn_nn, ↓reduceIte, if_true, if_false, Nat.le_refl, implies_true, Nat.lt_irrefl, and_self_left, win1, nI_le_s1, Nat.zero_le, up_s, up_o, Nat.zero_add, m64_0, m64_1, m64_2, m64_3, m64_7, m64_8, m64_9, m64_10, m64_13, m64_20, m64_27, m64_60, k4]
      exact ⟨c, F c, by omega, k5, Or.inr ⟨by omega, rfl, k4⟩, rfl, rfl, k1, k2⟩
  · rintro z hz
    cases z with
    | inl q => exact wp_some.mpr (Or.inl hz)
    | inr e =>
      obtain ⟨c, f, h1, h2, h3, h4, h5, h6, h7⟩ := hz
      simp (disch := omega) only [wp_some, wp_obd, wp_ob2, wp_bnd, wp_gd, wp_ite, wp_true, wp_ff, ↓l_n1, ↓l_n2, ↓l_n3, ↓l_n4, ↓l_n10, ↓l_n20, l_0, l_1, l_2, l_3, l_4, l_5, l_6, l_7, l_8, l_9, l_10, l_13, l_14, l_15, l_16, l_20, l_21, l_24, l_27, l_28, l_30, l_31, l_32, l_35, l_36, l_39, l_40, l_41, l_43, l_44, l_45, l_46, l_47, l_48, l_49, l_56, l_57, l_59, l_60, l_79, l_97, l_122, l_160, l_237, l_255, l_320, l_999, l_1000, nI_add, pk_mul, nI_eq, nI_leI, nI_ltI, nI_clamp, inb_nI_iff, e_within, e_in32, e_asNumber, e_flag, decide_eq_true_eq, Sum.elim_inl, Sum.elim_inr, true_implies, not_true_eq_false, not_false_eq_true, false_implies, and_true, true_and, nI_nn, nn_nI, nn_nn, ↓reduceIte, if_true, if_false, Nat.le_refl, implies_true, Nat.lt_irrefl, and_self_left, win1, nI_le_s1, Nat.zero_le, up_s, up_o, Nat.zero_add, m64_0, m64_1, m64_2, m64_3, m64_7, m64_8, m64_9, m64_10, m64_13, m64_20, m64_27, m64_60, h4, h5]
      refine Or.inr ⟨c, f, h1, h2, h3, rfl, ?_, e.2.2, h7, rfl⟩
      exact ⟨CB0_fr h6.1 (fun k' j i a b => up_o (by omega)), HL_fr h6.2.1 (fun k' j i a b => up_o (by omega)), CSg_fr h6.2.2 (fun k' j i a b => up_o (by omega))⟩
end Tri
