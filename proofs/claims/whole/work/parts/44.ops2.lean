/-- a new coin -/
def mnt (B : Bs) (z x : Nat) : Bs := ub (ub (ub (ub B 9 (B 1 0) z) 10 (B 1 0) 0) 11 (B 1 0) x) 1 0 (B 1 0 + 1)
theorem mnt_1 {B : Bs} {z x : Nat} : mnt B z x 1 0 = B 1 0 + 1 := by simp [mnt, ub]
theorem mnt_f {B : Bs} {z x f i : Nat} (h : f ≠ 1 ∧ f ≠ 9 ∧ f ≠ 10 ∧ f ≠ 11) : mnt B z x f i = B f i := by
  unfold mnt
  rw [ub_n (by omega), ub_n (by omega), ub_n (by omega), ub_n (by omega)]
theorem mnt_o {B : Bs} {z x f i : Nat} (h : f ≠ 1) (hi : i ≠ B 1 0) : mnt B z x f i = B f i := by
  unfold mnt ub
  simp [h, hi]
theorem mnt_9 {B : Bs} {z x : Nat} : mnt B z x 9 (B 1 0) = z := by simp [mnt, ub]
theorem mnt_10 {B : Bs} {z x : Nat} : mnt B z x 10 (B 1 0) = 0 := by simp [mnt, ub]
theorem mnt_11 {B : Bs} {z x : Nat} : mnt B z x 11 (B 1 0) = x := by simp [mnt, ub]
theorem ff_last {p : Nat → Bool} {n : Nat} (h : p n = false) : ff p (n + 1) = ff p n := by
  show (match ff p n with | some c => some c | none => if p n = true then some n else none) = ff p n
  cases ff p n with
  | some c => rfl
  | none => simp [h]
theorem hd_mnt {B : Bs} {z x k : Nat} (hx : x < 10) : hd (mnt B z x) k = hd B k := by
  unfold hd
  rw [mnt_1, ff_last (by rw [mnt_11]; simp; omega)]
  exact ff_congr (fun c hc => by rw [mnt_o (by decide) (by omega)])
theorem CB_mnt {h : Mem} {o : Nat} {B : Bs} {z x : Nat} (hC : CB0 h o B) : CB0 (up (up (up (up h 6 0 o (B 1 0) (nI z)) 6 1 o (B 1 0) (nI 0)) 6 2 o (B 1 0) (nI x)) 1 2 o 0 (nI (B 1 0 + 1))) o (mnt B z x) := by
  obtain ⟨hM0, hM1, hM2, hM3, hM4, hM5, hM6, hM7, hM8, hM9, hM10⟩ := hC
  refine ⟨?_, ?_, ?_, ?_, ?_, ?_, ?_, fun x hx => ?_, fun i hi => ?_, fun c hc => ?_, fun k hk => ?_⟩
  · rw [mnt_f (by decide)]; (try simp (disch := omega) only [up_s, up_o, and_self]); exact hM0
  · rw [mnt_1]; (try simp (disch := omega) only [up_s, up_o, and_self])
  · rw [mnt_f (by decide)]; (try simp (disch := omega) only [up_s, up_o, and_self]); exact hM2
  · rw [mnt_f (by decide)]; (try simp (disch := omega) only [up_s, up_o, and_self]); exact hM3
  · rw [mnt_f (by decide)]; (try simp (disch := omega) only [up_s, up_o, and_self]); exact hM4
  · rw [mnt_f (by decide)]; (try simp (disch := omega) only [up_s, up_o, and_self]); exact hM5
  · rw [mnt_f (by decide)]; (try simp (disch := omega) only [up_s, up_o, and_self]); exact hM6
  · rw [mnt_f (by decide)]; (try simp (disch := omega) only [up_s, up_o, and_self]); exact hM7 x hx
  · rw [mnt_f (by decide)] at hi; rw [mnt_f (by decide)]; (try simp (disch := omega) only [up_s, up_o, and_self]); exact hM8 i hi
  · rw [mnt_1] at hc
    by_cases e : c = B 1 0
    · subst e; rw [mnt_9, mnt_10, mnt_11]; (try simp (disch := omega) only [up_s, up_o, and_self])
    · rw [mnt_o (by decide) e, mnt_o (by decide) e, mnt_o (by decide) e]; (try simp (disch := omega) only [up_s, up_o, and_self]); exact hM9 c (by omega)
  · rw [mnt_f (by decide)] at hk
    rw [mnt_f (by decide), mnt_f (by decide), mnt_f (by decide), mnt_f (by decide)]; (try simp (disch := omega) only [up_s, up_o, and_self]); exact hM10 k hk
theorem SN_mnt {s s' : Nat → Int32} {B : Bs} {z x : Nat} (h : SN s B) (hn : B 1 0 < 6) (hm : B 2 0 ≤ 4) (h9 : s' (9 + B 1 0) = nI z) (h15 : s' (15 + B 1 0) = nI 0) (h21 : s' (21 + B 1 0) = nI x) (h8 : s' 8 = nI (B 1 0 + 1)) (ho : ∀ m, (m ≠ 8 ∧ m ≠ 9 + B 1 0 ∧ m ≠ 15 + B 1 0 ∧ m ≠ 21 + B 1 0) → s' m = s m) : SN s' (mnt B z x) := by
  obtain ⟨s0, s1, s2, s3, s4, s5, s6⟩ := h
  refine ⟨fun x hx => ?_, ?_, fun c hc => ?_, fun k hk => ?_, ?_, ?_, ?_⟩
  · rw [mnt_f (by decide), ho _ (by omega)]; exact s0 x hx
  · rw [mnt_1]; exact h8
  · rw [mnt_1] at hc
    by_cases e : c = B 1 0
    · subst e; rw [mnt_9, mnt_10, mnt_11]; exact ⟨h9, h15, h21⟩
    · rw [mnt_o (by decide) e, mnt_o (by decide) e, mnt_o (by decide) e, ho _ (by omega), ho _ (by omega), ho _ (by omega)]; exact s2 c (by omega)
  · rw [mnt_f (by decide)] at hk
    rw [mnt_f (by decide), mnt_f (by decide), mnt_f (by decide), mnt_f (by decide), ho _ (by omega), ho _ (by omega), ho _ (by omega), ho _ (by omega)]; exact s3 k hk
  · rw [mnt_f (by decide), ho _ (by omega)]; exact s4
  · rw [mnt_f (by decide), ho _ (by omega)]; exact s5
  · rw [mnt_f (by decide), ho _ (by omega)]; exact s6
theorem WF_mnt {B : Bs} {S z x : Nat} (hW : WF S B) (hn : B 1 0 < 6) (hz : 1 ≤ z ∧ z ≤ 9) (hx : x < 8) : WF S (mnt B z x) := by
  obtain ⟨hW0, hW1, hW2, hW3, hW4, hW5, hW6, hW7, hW8, hW9, hW10, hW11, hW12⟩ := hW
  have g : ∀ f i, (f ≠ 1 ∧ f ≠ 9 ∧ f ≠ 10 ∧ f ≠ 11) → mnt B z x f i = B f i := fun f i h => mnt_f h
  unfold WF
  simp only [g 0 _ (by decide), g 2 _ (by decide), g 3 _ (by decide), g 4 _ (by decide), g 5 _ (by decide), g 6 _ (by decide), g 7 _ (by decide), g 8 _ (by decide), g 12 _ (by decide), g 13 _ (by decide), g 14 _ (by decide), g 15 _ (by decide), mnt_1]
  refine ⟨hW0, by omega, hW2, hW3, hW4, hW5, hW6, hW7, hW8, hW9, fun c hc => ?_, fun c d hc hd h1 h2 h3 => ?_, hW12⟩
  · by_cases e : c = B 1 0
    · subst e; rw [mnt_9, mnt_10, mnt_11]; exact ⟨hz, by omega, Or.inl hx⟩
    · rw [mnt_o (by decide) e, mnt_o (by decide) e, mnt_o (by decide) e]
      have := hW10 c (by omega)
      refine ⟨this.1, this.2.1, ?_⟩
      unfold wok
      rw [g 2 _ (by decide)]
      exact this.2.2
  · by_cases e : c = B 1 0
    · subst e; rw [mnt_11] at h1; omega
    · by_cases e' : d = B 1 0
      · subst e'; rw [mnt_11] at h3; omega
      · rw [mnt_o (by decide) e] at h1 h2 h3
        rw [mnt_o (by decide) e'] at h3
        exact hW11 c d (by omega) (by omega) h1 h2 h3
theorem NO_mnt {B : Bs} {z x : Nat} (h : NO B) : NO (mnt B z x) := by
  refine ⟨by rw [mnt_f (by decide), mnt_f (by decide)]; exact h.1, fun i hi => ?_⟩
  rw [mnt_f (by decide)] at hi ⊢
  exact h.2 i hi
theorem WN_mnt {B T : Bs} {z x : Nat} (hW : WN B T) (hn : B 1 0 < 6) (hz : 1 ≤ z ∧ z ≤ 9) (hx : x < 8) : WN (mnt B z x) T :=
  ⟨WF_mnt hW.1 hn hz hx, NO_mnt hW.2.1, hW.2.2.1, fun i hi => by have := hW.2.2.2 i hi; rw [mnt_1]; exact ⟨this.1, by omega, this.2.2⟩⟩
/-- nothing but the reference's beach of now has changed -/
def FrS (h h' : Mem) : Prop := ∀ k j o i, (k ≠ 25 ∨ 46 ≤ i) → h' k j o i = h k j o i
theorem FrS.rf {h : Mem} : FrS h h := fun _ _ _ _ _ => rfl
theorem FrS.tr {h h' h'' : Mem} (h1 : FrS h h') (h2 : FrS h' h'') : FrS h h'' := fun k j o i h => (h2 k j o i h).trans (h1 k j o i h)
theorem FrS.up {h : Mem} {j o i : Nat} {v : Int32} (hn : i < 46) : FrS h (up h 25 j o i v) := fun k' j' o' i' hr => up_o (by omega)
theorem FrS.fr {h h' : Mem} (hF : FrS h h') : FR h h' := fun k j o' i hr => hF k j o' i (by unfold rst at hr; omega)
theorem KN_hi {h h' : Mem} {B T : Bs} (hC : KN h B T) (hF : ∀ k j o i, k < 13 → h' k j o i = h k j o i) : KN h' B T :=
  ⟨CB0_fr hC.1 (fun k' j i a b => hF _ _ _ _ (by omega)), HL_fr hC.2.1 (fun k' j i a b => hF _ _ _ _ (by omega)), CSg_fr hC.2.2 (fun k' j i a b => hF _ _ _ _ (by omega))⟩
theorem RN_lo {h h' : Mem} {B T : Bs} (hC : RN h B T) (hW : WN B T) (hF : ∀ k j o i, k = 24 ∨ k = 25 → h' k j o i = h k j o i) : RN h' B T :=
  ⟨⟨SN_fr hW.1.2.1 hW.1.2.2.1 hC.1.1 (fun i hi => hF _ _ _ _ (by omega)), (hF _ _ _ _ (by omega)).trans hC.1.2.1, (hF _ _ _ _ (by omega)).trans hC.1.2.2⟩, TN_fr hW.2.2.1 hC.2 (fun i h1 h2 => hF _ _ _ _ (by omega))⟩
section Ops
variable {h : Mem} {B T : Bs}
theorem c_mint (hK : KN h B T) (hW : WN B T) (z x : Int32) : Ok (f_X9_mint z x h) (fun q => (¬ ((nI 1 ≤ z ∧ z ≤ nI 9) ∧ inb x (B 0 0)) ∧ q = (nn 1, h)) ∨ (((nI 1 ≤ z ∧ z ≤ nI 9) ∧ inb x (B 0 0)) ∧ B 1 0 = 6 ∧ q = (nn 3, h)) ∨ (∃ z' x', z = nI z' ∧ x = nI x' ∧ (1 ≤ z' ∧ z' ≤ 9) ∧ x' < B 0 0 ∧ B 1 0 < 6 ∧ q.1 = nI (B 1 0 + 1) ∧ KN q.2 (mnt B z' x') T ∧ FrO h q.2 0)) := by
  obtain ⟨hM0, hM1, hM2, hM3, hM4, hM5, hM6, hM7, hM8, hM9, hM10⟩ := hK.1
  have w0 := hW.1.1
  have w1 := hW.1.2.1
  unfold f_X9_mint f_X9_isPlace f_X0_addCoin
  by_cases hz : nI 1 ≤ z ∧ z ≤ nI 9
  · obtain ⟨z', hz1, hz2, rfl⟩ := rng (by decide) (by decide) hz
    by_cases hx : inb x (B 0 0)
    · obtain ⟨x', hx', rfl⟩ := inb_of hx (by omega)
      by_cases h6 : B 1 0 < 6
      · have key : KN (up (up (up (up h 6 0 0 (B 1 0) (nI z')) 6 1 0 (B 1 0) (nI 0)) 6 2 0 (B 1 0) (nI x')) 1 2 0 0 (nI (B 1 0 + 1))) (mnt B z' x') T := by
          refine ⟨CB_mnt hK.1, fun k hk => ?_, CSg_fr hK.2.2 (fun k' j' i' a b => by simp (disch := omega) only [up_s, up_o])⟩
          rw [mnt_f (by decide)] at hk
          rw [hd_mnt (by omega)]; (try simp (disch := omega) only [up_s, up_o, and_self]); exact hK.2.1 k hk
        have hF : FrO h (up (up (up (up h 6 0 0 (B 1 0) (nI z')) 6 1 0 (B 1 0) (nI 0)) 6 2 0 (B 1 0) (nI x')) 1 2 0 0 (nI (B 1 0 + 1))) 0 := (FrO.up (by decide)).tr ((FrO.up (by decide)).tr ((FrO.up (by decide)).tr (FrO.up (by decide))))
        have h7 : ¬ 6 ≤ B 1 0 := by omega
        refine Ok.mono (K := fun q => q = (nI (B 1 0 + 1), up (up (up (up h 6 0 0 (B 1 0) (nI z')) 6 1 0 (B 1 0) (nI 0)) 6 2 0 (B 1 0) (nI x')) 1 2 0 0 (nI (B 1 0 + 1)))) ?_ (fun q e => by subst e; exact Or.inr (Or.inr ⟨z', x', rfl, rfl, ⟨hz1, hz2⟩, hx', h6, rfl, key, hF⟩))
        simp (disch := omega) only [wp_some, wp_obd, wp_ob2, wp_bnd, wp_gd, wp_ite, wp_true, wp_ff, ↓l_n1, ↓l_n2, ↓l_n3, ↓l_n4, ↓l_n10, ↓l_n20, l_0, l_1, l_2, l_3, l_4, l_5, l_6, l_7, l_8, l_9, l_10, l_13, l_14, l_15, l_16, l_20, l_21, l_24, l_27, l_28, l_30, l_31, l_32, l_35, l_36, l_39, l_40, l_41, l_43, l_44, l_45, l_46, l_47, l_48, l_49, l_56, l_57, l_59, l_60, l_79, l_97, l_122, l_160, l_237, l_255, l_320, l_999, l_1000, nI_add, pk_mul, nI_eq, nI_leI, nI_ltI, nI_clamp, inb_nI_iff, e_within, e_in32, e_asNumber, e_flag, decide_eq_true_eq, Sum.elim_inl, Sum.elim_inr, true_implies, not_true_eq_false, not_false_eq_true, false_implies, and_true, true_and, nI_nn, nn_nI, nn_nn, ↓reduceIte, if_true, if_false, Nat.le_refl, implies_true, Nat.lt_irrefl, and_self_left, win1, nI_le_s1, Nat.zero_le, up_s, up_o, Nat.zero_add, m64_0, m64_1, m64_2, m64_3, m64_7, m64_8, m64_9, m64_10, m64_13, m64_20, m64_27, m64_60, hM0, hM1, hz1, hz2, hx', h6, h7]
      · have h7 : B 1 0 = 6 := by omega
        refine Ok.mono (K := fun q => q = (nn 3, h)) ?_ (fun q e => by subst e; exact Or.inr (Or.inl ⟨⟨hz, hx⟩, h7, rfl⟩))
        simp (disch := omega) only [wp_some, wp_obd, wp_ob2, wp_bnd, wp_gd, wp_ite, wp_true, wp_ff, ↓l_n1, ↓l_n2, ↓l_n3, ↓l_n4, ↓l_n10, ↓l_n20, l_0, l_1, l_2, l_3, l_4, l_5, l_6, l_7, l_8, l_9, l_10, l_13, l_14, l_15, l_16, l_20, l_21, l_24, l_27, l_28, l_30, l_31, l_32, l_35, l_36, l_39, l_40, l_41, l_43, l_44, l_45, l_46, l_47, l_48, l_49, l_56, l_57, l_59, l_60, l_79, l_97, l_122, l_160, l_237, l_255, l_320, l_999, l_1000, nI_add, pk_mul, nI_eq, nI_leI, nI_ltI, nI_clamp, inb_nI_iff, e_within, e_in32, e_asNumber, e_flag, decide_eq_true_eq, Sum.elim_inl, Sum.elim_inr, true_implies, not_true_eq_false, not_false_eq_true, false_implies, and_true, true_and, nI_nn, nn_nI, nn_nn, ↓reduceIte, if_true, if_false, Nat.le_refl, implies_true, Nat.lt_irrefl, and_self_left, win1, nI_le_s1, Nat.zero_le, up_s, up_o, Nat.zero_add, m64_0, m64_1, m64_2, m64_3, m64_7, m64_8, m64_9, m64_10, m64_13, m64_20, m64_27, m64_60, hM0, hM1, hz1, hz2, hx', h6]
    · refine Ok.mono (K := fun q => q = (nn 1, h)) ?_ (fun q e => by subst e; exact Or.inl ⟨fun hh => hx hh.2, rfl⟩)
      simp (disch := omega) only [wp_some, wp_obd, wp_ob2, wp_bnd, wp_gd, wp_ite, wp_true, wp_ff, ↓l_n1, ↓l_n2, ↓l_n3, ↓l_n4, ↓l_n10, ↓l_n20, l_0, l_1, l_2, l_3, l_4, l_5, l_6, l_7, l_8, l_9, l_10, l_13, l_14, l_15, l_16, l_20, l_21, l_24, l_27, l_28, l_30, l_31, l_32, l_35, l_36, l_39, l_40, l_41, l_43, l_44, l_45, l_46, l_47, l_48, l_49, l_56, l_57, l_59, l_60, l_79, l_97, l_122, l_160, l_237, l_255, l_320, l_999, l_1000, nI_add, pk_mul, nI_eq, nI_leI, nI_ltI, nI_clamp, inb_nI_iff, e_within, e_in32, e_asNumber, e_flag, decide_eq_true_eq, Sum.elim_inl, Sum.elim_inr, true_implies, not_true_eq_false, not_false_eq_true, false_implies, and_true, true_and, nI_nn, nn_nI, nn_nn, ↓reduceIte, if_true, if_false, Nat.le_refl, implies_true, Nat.lt_irrefl, and_self_left, win1, nI_le_s1, Nat.zero_le, up_s, up_o, Nat.zero_add, m64_0, m64_1, m64_2, m64_3, m64_7, m64_8, m64_9, m64_10, m64_13, m64_20, m64_27, m64_60, hM0, hM1, hz1, hz2, hx]
  · refine Ok.mono (K := fun q => q = (nn 1, h)) ?_ (fun q e => by subst e; exact Or.inl ⟨fun hh => hz hh.1, rfl⟩)
    simp (disch := omega) only [wp_some, wp_obd, wp_ob2, wp_bnd, wp_gd, wp_ite, wp_true, wp_ff, ↓l_n1, ↓l_n2, ↓l_n3, ↓l_n4, ↓l_n10, ↓l_n20, l_0, l_1, l_2, l_3, l_4, l_5, l_6, l_7, l_8, l_9, l_10, l_13, l_14, l_15, l_16, l_20, l_21, l_24, l_27, l_28, l_30, l_31, l_32, l_35, l_36, l_39, l_40, l_41, l_43, l_44, l_45, l_46, l_47, l_48, l_49, l_56, l_57, l_59, l_60, l_79, l_97, l_122, l_160, l_237, l_255, l_320, l_999, l_1000, nI_add, pk_mul, nI_eq, nI_leI, nI_ltI, nI_clamp, inb_nI_iff, e_within, e_in32, e_asNumber, e_flag, decide_eq_true_eq, Sum.elim_inl, Sum.elim_inr, true_implies, not_true_eq_false, not_false_eq_true, false_implies, and_true, true_and, nI_nn, nn_nI, nn_nn, ↓reduceIte, if_true, if_false, Nat.le_refl, implies_true, Nat.lt_irrefl, and_self_left, win1, nI_le_s1, Nat.zero_le, up_s, up_o, Nat.zero_add, m64_0, m64_1, m64_2, m64_3, m64_7, m64_8, m64_9, m64_10, m64_13, m64_20, m64_27, m64_60, hM0, hM1, hz]
theorem m_mint (hK : RN h B T) (hW : WN B T) (z x : Int32) : Ok (f_X10_mint z x h) (fun q => (¬ ((nI 1 ≤ z ∧ z ≤ nI 9) ∧ inb x (B 0 0)) ∧ q = (nn 1, h)) ∨ (((nI 1 ≤ z ∧ z ≤ nI 9) ∧ inb x (B 0 0)) ∧ B 1 0 = 6 ∧ q = (nn 3, h)) ∨ (∃ z' x', z = nI z' ∧ x = nI x' ∧ (1 ≤ z' ∧ z' ≤ 9) ∧ x' < B 0 0 ∧ B 1 0 < 6 ∧ q.1 = nI (B 1 0 + 1) ∧ RN q.2 (mnt B z' x') T ∧ FrS h q.2)) := by
  obtain ⟨⟨⟨s0, s1, s2, s3, s4, s5, s6⟩, n0, n2⟩, hT⟩ := id hK
  have w0 := hW.1.1
  have w1 := hW.1.2.1
  have w2 := hW.1.2.2.1
  unfold f_X10_mint f_X10_isPlace
  by_cases hz : nI 1 ≤ z ∧ z ≤ nI 9
  · obtain ⟨z', hz1, hz2, rfl⟩ := rng (by decide) (by decide) hz
    by_cases hx : inb x (B 0 0)
    · obtain ⟨x', hx', rfl⟩ := inb_of hx (by omega)
      by_cases h6 : B 1 0 < 6
      · have key : RN (up (up (up (up h 25 0 0 (9 + B 1 0) (nI z')) 25 0 0 (15 + B 1 0) (nI 0)) 25 0 0 (21 + B 1 0) (nI x')) 25 0 0 8 (nI (B 1 0 + 1))) (mnt B z' x') T := by
          refine ⟨⟨SN_mnt hK.1.1 h6 w2 (by simp (disch := omega) only [up_s, up_o]) (by simp (disch := omega) only [up_s, up_o]) (by simp (disch := omega) only [up_s, up_o]) (by simp (disch := omega) only [up_s, up_o]) (fun m hm => by simp (disch := omega) only [up_s, up_o]), ?_, ?_⟩, TN_fr hW.2.2.1 hT (fun m h1 h2 => by simp (disch := omega) only [up_s, up_o])⟩
          · rw [mnt_f (by decide)]; (try simp (disch := omega) only [up_s, up_o, and_self]); exact n0
          · rw [mnt_f (by decide)]; (try simp (disch := omega) only [up_s, up_o, and_self]); exact n2
        have hF : FrS h (up (up (up (up h 25 0 0 (9 + B 1 0) (nI z')) 25 0 0 (15 + B 1 0) (nI 0)) 25 0 0 (21 + B 1 0) (nI x')) 25 0 0 8 (nI (B 1 0 + 1))) := (FrS.up (by omega)).tr ((FrS.up (by omega)).tr ((FrS.up (by omega)).tr (FrS.up (by omega))))
        have h7 : ¬ B 1 0 = 6 := by omega
        refine Ok.mono (K := fun q => q = (nI (B 1 0 + 1), up (up (up (up h 25 0 0 (9 + B 1 0) (nI z')) 25 0 0 (15 + B 1 0) (nI 0)) 25 0 0 (21 + B 1 0) (nI x')) 25 0 0 8 (nI (B 1 0 + 1)))) ?_ (fun q e => by subst e; exact Or.inr (Or.inr ⟨z', x', rfl, rfl, ⟨hz1, hz2⟩, hx', h6, rfl, key, hF⟩))
        simp (disch := omega) only [wp_some, wp_obd, wp_ob2, wp_bnd, wp_gd, wp_ite, wp_true, wp_ff, ↓l_n1, ↓l_n2, ↓l_n3, ↓l_n4, ↓l_n10, ↓l_n20, l_0, l_1, l_2, l_3, l_4, l_5, l_6, l_7, l_8, l_9, l_10, l_13, l_14, l_15, l_16, l_20, l_21, l_24, l_27, l_28, l_30, l_31, l_32, l_35, l_36, l_39, l_40, l_41, l_43, l_44, l_45, l_46, l_47, l_48, l_49, l_56, l_57, l_59, l_60, l_79, l_97, l_122, l_160, l_237, l_255, l_320, l_999, l_1000, nI_add, pk_mul, nI_eq, nI_leI, nI_ltI, nI_clamp, inb_nI_iff, e_within, e_in32, e_asNumber, e_flag, decide_eq_true_eq, Sum.elim_inl, Sum.elim_inr, true_implies, not_true_eq_false, not_false_eq_true, false_implies, and_true, true_and, nI_nn, nn_nI, nn_nn, ↓reduceIte, if_true, if_false, Nat.le_refl, implies_true, Nat.lt_irrefl, and_self_left, win1, nI_le_s1, Nat.zero_le, up_s, up_o, Nat.zero_add, m64_0, m64_1, m64_2, m64_3, m64_7, m64_8, m64_9, m64_10, m64_13, m64_20, m64_27, m64_60, n0, s1, hz1, hz2, hx', h7]
        omega
      · have h7 : B 1 0 = 6 := by omega
        refine Ok.mono (K := fun q => q = (nn 3, h)) ?_ (fun q e => by subst e; exact Or.inr (Or.inl ⟨⟨hz, hx⟩, h7, rfl⟩))
        simp (disch := omega) only [wp_some, wp_obd, wp_ob2, wp_bnd, wp_gd, wp_ite, wp_true, wp_ff, ↓l_n1, ↓l_n2, ↓l_n3, ↓l_n4, ↓l_n10, ↓l_n20, l_0, l_1, l_2, l_3, l_4, l_5, l_6, l_7, l_8, l_9, l_10, l_13, l_14, l_15, l_16, l_20, l_21, l_24, l_27, l_28, l_30, l_31, l_32, l_35, l_36, l_39, l_40, l_41, l_43, l_44, l_45, l_46, l_47, l_48, l_49, l_56, l_57, l_59, l_60, l_79, l_97, l_122, l_160, l_237, l_255, l_320, l_999, l_1000, nI_add, pk_mul, nI_eq, nI_leI, nI_ltI, nI_clamp, inb_nI_iff, e_within, e_in32, e_asNumber, e_flag, decide_eq_true_eq, Sum.elim_inl, Sum.elim_inr, true_implies, not_true_eq_false, not_false_eq_true, false_implies, and_true, true_and, nI_nn, nn_nI, nn_nn, ↓reduceIte, if_true, if_false, Nat.le_refl, implies_true, Nat.lt_irrefl, and_self_left, win1, nI_le_s1, Nat.zero_le, up_s, up_o, Nat.zero_add, m64_0, m64_1, m64_2, m64_3, m64_7, m64_8, m64_9, m64_10, m64_13, m64_20, m64_27, m64_60, n0, s1, hz1, hz2, hx', h7]
    · refine Ok.mono (K := fun q => q = (nn 1, h)) ?_ (fun q e => by subst e; exact Or.inl ⟨fun hh => hx hh.2, rfl⟩)
      simp (disch := omega) only [wp_some, wp_obd, wp_ob2, wp_bnd, wp_gd, wp_ite, wp_true, wp_ff, ↓l_n1, ↓l_n2, ↓l_n3, ↓l_n4, ↓l_n10, ↓l_n20, l_0, l_1, l_2, l_3, l_4, l_5, l_6, l_7, l_8, l_9, l_10, l_13, l_14, l_15, l_16, l_20, l_21, l_24, l_27, l_28, l_30, l_31, l_32, l_35, l_36, l_39, l_40, l_41, l_43, l_44, l_45, l_46, l_47, l_48, l_49, l_56, l_57, l_59, l_60, l_79, l_97, l_122, l_160, l_237, l_255, l_320, l_999, l_1000, nI_add, pk_mul, nI_eq, nI_leI, nI_ltI, nI_clamp, inb_nI_iff, e_within, e_in32, e_asNumber, e_flag, decide_eq_true_eq, Sum.elim_inl, Sum.elim_inr, true_implies, not_true_eq_false, not_false_eq_true, false_implies, and_true, true_and, nI_nn, nn_nI, nn_nn, ↓reduceIte, if_true, if_false, Nat.le_refl, implies_true, Nat.lt_irrefl, and_self_left, win1, nI_le_s1, Nat.zero_le, up_s, up_o, Nat.zero_add, m64_0, m64_1, m64_2, m64_3, m64_7, m64_8, m64_9, m64_10, m64_13, m64_20, m64_27, m64_60, n0, s1, hz1, hz2, hx]
  · refine Ok.mono (K := fun q => q = (nn 1, h)) ?_ (fun q e => by subst e; exact Or.inl ⟨fun hh => hz hh.1, rfl⟩)
    simp (disch := omega) only [wp_some, wp_obd, wp_ob2, wp_bnd, wp_gd, wp_ite, wp_true, wp_ff, ↓l_n1, ↓l_n2, ↓l_n3, ↓l_n4, ↓l_n10, ↓l_n20, l_0, l_1, l_2, l_3, l_4, l_5, l_6, l_7, l_8, l_9, l_10, l_13, l_14, l_15, l_16, l_20, l_21, l_24, l_27, l_28, l_30, l_31, l_32, l_35, l_36, l_39, l_40, l_41, l_43, l_44, l_45, l_46, l_47, l_48, l_49, l_56, l_57, l_59, l_60, l_79, l_97, l_122, l_160, l_237, l_255, l_320, l_999, l_1000, nI_add, pk_mul, nI_eq, nI_leI, nI_ltI, nI_clamp, inb_nI_iff, e_within, e_in32, e_asNumber, e_flag, decide_eq_true_eq, Sum.elim_inl, Sum.elim_inr, true_implies, not_true_eq_false, not_false_eq_true, false_implies, and_true, true_and, nI_nn, nn_nI, nn_nn, ↓reduceIte, if_true, if_false, Nat.le_refl, implies_true, Nat.lt_irrefl, and_self_left, win1, nI_le_s1, Nat.zero_le, up_s, up_o, Nat.zero_add, m64_0, m64_1, m64_2, m64_3, m64_7, m64_8, m64_9, m64_10, m64_13, m64_20, m64_27, m64_60, n0, s1, hz]
theorem o_mint (z x : Int32) (hR : RI h) : Ok (f_X9_mint z x h) (fun q => Ok (f_X10_mint z x q.2) (fun r => q.1 = r.1 ∧ RI r.2)) := by
  have hR0 := hR
  obtain ⟨B, T, hK, hN, hW, hRs⟩ := hR
  obtain ⟨hM0, hM1, hM2, hM3, hM4, hM5, hM6, hM7, hM8, hM9, hM10⟩ := hK.1
  obtain ⟨⟨⟨s0, s1, s2, s3, s4, s5, s6⟩, n0, n2⟩, hT⟩ := id hN
  have w0 := hW.1.1
  have w1 := hW.1.2.1
  have w2 := hW.1.2.2.1
  refine (c_mint hK hW z x).mono ?_
  rintro ⟨q1, q2⟩ (⟨hn, e⟩ | ⟨hn, h6, e⟩ | ⟨z', x', rfl, rfl, hz, hx, h6, e1, e2, e3⟩)
  · cases e
    refine (m_mint hN hW z x).mono ?_
    rintro ⟨r1, r2⟩ (⟨hn', e⟩ | ⟨hn', h6', e⟩ | ⟨z'', x'', rfl, rfl, hz', hx', h6', -⟩)
    · cases e; exact ⟨rfl, hR0⟩
    · exact absurd hn' hn
    · exact absurd ⟨⟨nI_le hz'.1 (by omega), nI_le hz'.2 (by omega)⟩, inb_nI hx' (by omega)⟩ hn
  · cases e
    refine (m_mint hN hW z x).mono ?_
    rintro ⟨r1, r2⟩ (⟨hn', e⟩ | ⟨hn', h6', e⟩ | ⟨z'', x'', -, -, hz', hx', h6', -⟩)
    · exact absurd hn hn'
    · cases e; exact ⟨rfl, hR0⟩
    · omega
  · have hN' : RN q2 B T := RN_lo hN hW (fun k j o i hk => e3 k j o i (by omega))
    refine (m_mint hN' hW (nI z') (nI x')).mono ?_
    rintro ⟨r1, r2⟩ (⟨hn', e⟩ | ⟨hn', h6', e⟩ | ⟨z'', x'', f1, f2, hz', hx', h6', f3, f4, f5⟩)
    · exact absurd ⟨⟨nI_le hz.1 (by omega), nI_le hz.2 (by omega)⟩, inb_nI hx (by omega)⟩ hn'
    · omega
    · have f1 := nI_inj (by omega) (by omega) f1
      have f2 := nI_inj (by omega) (by omega) f2
      subst f1
      subst f2
      dsimp only at e1 f3
      refine ⟨by rw [e1, f3], mnt B z' x', T, KN_hi e2 (fun k j o i hk => f5 k j o i (by omega)), f4, WN_mnt hW h6 hz (by omega), RST_fr hRs ((e3.fr (Or.inl rfl)).tr f5.fr)⟩
theorem o_lie (x v : Int32) (hR : RI h) : Ok (f_X9_lie x v h) (fun q => Ok (f_X10_lie x v q.2) (fun r => q.1 = r.1 ∧ RI r.2)) := by
  have hR0 := hR
  obtain ⟨B, T, hK, hN, hW, hRs⟩ := hR
  obtain ⟨hM0, hM1, hM2, hM3, hM4, hM5, hM6, hM7, hM8, hM9, hM10⟩ := hK.1
  obtain ⟨⟨⟨s0, s1, s2, s3, s4, s5, s6⟩, n0, n2⟩, hT⟩ := id hN
  have w0 := hW.1.1
  have w1 := hW.1.2.1
  have w2 := hW.1.2.2.1
  unfold f_X9_lie f_X10_lie f_X9_isPlace f_X10_isPlace f_X9_isCoin f_X10_isCoin
  by_cases hx : inb x (B 1 0)
  · obtain ⟨c, hc, rfl⟩ := inb_of hx (by omega)
    by_cases hv : inb v (B 0 0)
    · obtain ⟨d, hdd, rfl⟩ := inb_of hv (by omega)
      have e7 := (hM9 c hc).2.2
      have f7 := (s2 c hc).2.2
      have hw := (hW.1.2.2.2.2.2.2.2.2.2.2.1 c hc).2.2
      have hb := wok_lt w2 hw
      have hWF : WF 999 (ub B 11 c d) := WF_11 hW.1 (Or.inl (by omega)) (fun h => by omega)
      have tl : ∀ h1 : Mem, CB0 h1 0 (ub B 11 c d) → HL h1 0 (ub B 11 c d) → FrO h h1 0 → RI (up h1 25 0 0 (21 + c) (nI d)) := by
        intro h1 c1 c2 c3
        refine ⟨ub B 11 c d, T, ⟨CB0_fr c1 (fun k' j' i' a b => up_o (by omega)), HL_fr c2 (fun k' j' i' a b => up_o (by omega)), CSg_fr hK.2.2 (fun k' j' i' a b => by rw [up_o (by omega)]; exact c3 _ _ _ _ (by omega))⟩, ⟨⟨SN_11 hN.1.1 w1 w2 (by omega) up_s (fun m hm => by rw [up_o (by omega)]; exact c3 _ _ _ _ (by omega)), ?_, ?_⟩, TN_fr hW.2.2.1 hT (fun m h1 h2 => by rw [up_o (by omega)]; exact c3 _ _ _ _ (by omega))⟩, ⟨hWF, NO_ub hW.2.1 (by decide), hW.2.2.1, fun m hm => by rw [ub_n (by omega)]; exact hW.2.2.2 m hm⟩, RST_fr hRs ((c3.fr (Or.inl rfl)).tr (FR.up (by unfold rst; omega)))⟩
        · rw [up_o (by omega), c3 _ _ _ _ (by omega), ub_n (by omega)]; exact n0
        · rw [up_o (by omega), c3 _ _ _ _ (by omega), ub_n (by omega)]; exact n2
      unfold f_X10_becomes f_X0_layDown
      simp (disch := omega) only [wp_some, wp_obd, wp_ob2, wp_bnd, wp_gd, wp_ite, wp_true, wp_ff, ↓l_n1, ↓l_n2, ↓l_n3, ↓l_n4, ↓l_n10, ↓l_n20, l_0, l_1, l_2, l_3, l_4, l_5, l_6, l_7, l_8, l_9, l_10, l_13, l_14, l_15, l_16, l_20, l_21, l_24, l_27, l_28, l_30, l_31, l_32, l_35, l_36, l_39, l_40, l_41, l_43, l_44, l_45, l_46, l_47, l_48, l_49, l_56, l_57, l_59, l_60, l_79, l_97, l_122, l_160, l_237, l_255, l_320, l_999, l_1000, nI_add, pk_mul, nI_eq, nI_leI, nI_ltI, nI_clamp, inb_nI_iff, e_within, e_in32, e_asNumber, e_flag, decide_eq_true_eq, Sum.elim_inl, Sum.elim_inr, true_implies, not_true_eq_false, not_false_eq_true, false_implies, and_true, true_and, nI_nn, nn_nI, nn_nn, ↓reduceIte, if_true, if_false, Nat.le_refl, implies_true, Nat.lt_irrefl, and_self_left, win1, nI_le_s1, Nat.zero_le, up_s, up_o, Nat.zero_add, m64_0, m64_1, m64_2, m64_3, m64_7, m64_8, m64_9, m64_10, m64_13, m64_20, m64_27, m64_60, hM0, n0, hM1, s1, hc, hdd, e7]
      by_cases hh : ∃ k, k < B 2 0 ∧ B 11 c = 10 + k
      · obtain ⟨k, hk, ek⟩ := hh
        have es : nI (B 11 c) - nI 10 = nI k := by rw [pk_sub (by omega)]; congr 1; omega
        have hhd : hd B k = some c := by
          refine ff_some.mpr ⟨hc, by simp [ek], fun d' hd' => ?_⟩
          rw [beq_eq_false_iff_ne]
          intro e2
          have := hW.1.2.2.2.2.2.2.2.2.2.2.2.1 d' c (by omega) hc (by omega) (by omega) (by omega)
          omega
        have hRI := tl (up (up h 7 4 0 k (nn 1)) 6 2 0 c (nI d)) (CB0_62 (CB0_74 hK.1)) (fun k' hk' => by
          have hk2 : k' < B 2 0 := by rw [ub_n (by decide)] at hk'; exact hk'
          by_cases e : k' = k
          · subst e
            rw [hd_gone hW.1 hk hhd (by omega)]
            (try simp (disch := omega) only [up_s, up_o, and_self]); rfl
          · rw [hd_ne (by omega) (by omega)]
            (try simp (disch := omega) only [up_s, up_o, and_self]); exact hK.2.1 k' hk2) ((FrO.up (by decide)).tr (FrO.up (by decide)))
        simp (disch := omega) only [wp_some, wp_obd, wp_ob2, wp_bnd, wp_gd, wp_ite, wp_true, wp_ff, ↓l_n1, ↓l_n2, ↓l_n3, ↓l_n4, ↓l_n10, ↓l_n20, l_0, l_1, l_2, l_3, l_4, l_5, l_6, l_7, l_8, l_9, l_10, l_13, l_14, l_15, l_16, l_20, l_21, l_24, l_27, l_28, l_30, l_31, l_32, l_35, l_36, l_39, l_40, l_41, l_43, l_44, l_45, l_46, l_47, l_48, l_49, l_56, l_57, l_59, l_60, l_79, l_97, l_122, l_160, l_237, l_255, l_320, l_999, l_1000, nI_add, pk_mul, nI_eq, nI_leI, nI_ltI, nI_clamp, inb_nI_iff, e_within, e_in32, e_asNumber, e_flag, decide_eq_true_eq, Sum.elim_inl, Sum.elim_inr, true_implies, not_true_eq_false, not_false_eq_true, false_implies, and_true, true_and, nI_nn, nn_nI, nn_nn, ↓reduceIte, if_true, if_false, Nat.le_refl, implies_true, Nat.lt_irrefl, and_self_left, win1, nI_le_s1, Nat.zero_le, up_s, up_o, Nat.zero_add, m64_0, m64_1, m64_2, m64_3, m64_7, m64_8, m64_9, m64_10, m64_13, m64_20, m64_27, m64_60, hM2, es, hk, f7]
        repeat' (with_reducible (first | apply And.intro | intro _))
        all_goals first | omega | exact hRI
      · have hf : ¬ (nI 0 ≤ nI (B 11 c) - nI 10 ∧ nI (B 11 c) - nI 10 ≤ nI (B 2 0) - nI 1) := by
          rw [win1 (by omega)]
          intro hin
          obtain ⟨j, hj, ej⟩ := inb_of hin (by omega)
          have := congrArg Int32.toInt ej
          rw [pk_sub_toInt (by omega) (by omega), nI_toInt (by omega)] at this
          exact hh ⟨j, hj, by omega⟩
        have hRI := tl (up h 6 2 0 c (nI d)) (CB0_62 hK.1) (fun k' hk' => by
          have hk2 : k' < B 2 0 := by rw [ub_n (by decide)] at hk'; exact hk'
          rw [hd_ne (by omega) (fun e => hh ⟨k', hk2, e⟩)]
          (try simp (disch := omega) only [up_s, up_o, and_self]); exact hK.2.1 k' hk2) (FrO.up (by decide))
        simp only [win1 (show B 2 0 < 2 ^ 30 by omega)] at hf
        simp (disch := omega) only [wp_some, wp_obd, wp_ob2, wp_bnd, wp_gd, wp_ite, wp_true, wp_ff, ↓l_n1, ↓l_n2, ↓l_n3, ↓l_n4, ↓l_n10, ↓l_n20, l_0, l_1, l_2, l_3, l_4, l_5, l_6, l_7, l_8, l_9, l_10, l_13, l_14, l_15, l_16, l_20, l_21, l_24, l_27, l_28, l_30, l_31, l_32, l_35, l_36, l_39, l_40, l_41, l_43, l_44, l_45, l_46, l_47, l_48, l_49, l_56, l_57, l_59, l_60, l_79, l_97, l_122, l_160, l_237, l_255, l_320, l_999, l_1000, nI_add, pk_mul, nI_eq, nI_leI, nI_ltI, nI_clamp, inb_nI_iff, e_within, e_in32, e_asNumber, e_flag, decide_eq_true_eq, Sum.elim_inl, Sum.elim_inr, true_implies, not_true_eq_false, not_false_eq_true, false_implies, and_true, true_and, nI_nn, nn_nI, nn_nn, ↓reduceIte, if_true, if_false, Nat.le_refl, implies_true, Nat.lt_irrefl, and_self_left, win1, nI_le_s1, Nat.zero_le, up_s, up_o, Nat.zero_add, m64_0, m64_1, m64_2, m64_3, m64_7, m64_8, m64_9, m64_10, m64_13, m64_20, m64_27, m64_60, hM2, hf, f7]
        repeat' (with_reducible (first | apply And.intro | intro _))
        all_goals first | omega | exact hRI
    · simp (disch := omega) only [wp_some, wp_obd, wp_ob2, wp_bnd, wp_gd, wp_ite, wp_true, wp_ff, ↓l_n1, ↓l_n2, ↓l_n3, ↓l_n4, ↓l_n10, ↓l_n20, l_0, l_1, l_2, l_3, l_4, l_5, l_6, l_7, l_8, l_9, l_10, l_13, l_14, l_15, l_16, l_20, l_21, l_24, l_27, l_28, l_30, l_31, l_32, l_35, l_36, l_39, l_40, l_41, l_43, l_44, l_45, l_46, l_47, l_48, l_49, l_56, l_57, l_59, l_60, l_79, l_97, l_122, l_160, l_237, l_255, l_320, l_999, l_1000, nI_add, pk_mul, nI_eq, nI_leI, nI_ltI, nI_clamp, inb_nI_iff, e_within, e_in32, e_asNumber, e_flag, decide_eq_true_eq, Sum.elim_inl, Sum.elim_inr, true_implies, not_true_eq_false, not_false_eq_true, false_implies, and_true, true_and, nI_nn, nn_nI, nn_nn, ↓reduceIte, if_true, if_false, Nat.le_refl, implies_true, Nat.lt_irrefl, and_self_left, win1, nI_le_s1, Nat.zero_le, up_s, up_o, Nat.zero_add, m64_0, m64_1, m64_2, m64_3, m64_7, m64_8, m64_9, m64_10, m64_13, m64_20, m64_27, m64_60, hM0, n0, hM1, s1, hc, hv]
      exact hR0
  · simp (disch := omega) only [wp_some, wp_obd, wp_ob2, wp_bnd, wp_gd, wp_ite, wp_true, wp_ff, ↓l_n1, ↓l_n2, ↓l_n3, ↓l_n4, ↓l_n10, ↓l_n20, l_0, l_1, l_2, l_3, l_4, l_5, l_6, l_7, l_8, l_9, l_10, l_13, l_14, l_15, l_16, l_20, l_21, l_24, l_27, l_28, l_30, l_31, l_32, l_35, l_36, l_39, l_40, l_41, l_43, l_44, l_45, l_46, l_47, l_48, l_49, l_56, l_57, l_59, l_60, l_79, l_97, l_122, l_160, l_237, l_255, l_320, l_999, l_1000, nI_add, pk_mul, nI_eq, nI_leI, nI_ltI, nI_clamp, inb_nI_iff, e_within, e_in32, e_asNumber, e_flag, decide_eq_true_eq, Sum.elim_inl, Sum.elim_inr, true_implies, not_true_eq_false, not_false_eq_true, false_implies, and_true, true_and, nI_nn, nn_nI, nn_nn, ↓reduceIte, if_true, if_false, Nat.le_refl, implies_true, Nat.lt_irrefl, and_self_left, win1, nI_le_s1, Nat.zero_le, up_s, up_o, Nat.zero_add, m64_0, m64_1, m64_2, m64_3, m64_7, m64_8, m64_9, m64_10, m64_13, m64_20, m64_27, m64_60, hM0, n0, hM1, s1, hx]
    exact hR0
theorem o_fault (hR : RI h) : Ok (f_X9_fault  h) (fun q => Ok (f_X10_fault  h) (fun r => q = r)) := by
  have hR0 := hR
  obtain ⟨B, T, hK, hN, hW, hRs⟩ := hR
  obtain ⟨hM0, hM1, hM2, hM3, hM4, hM5, hM6, hM7, hM8, hM9, hM10⟩ := hK.1
  obtain ⟨⟨⟨s0, s1, s2, s3, s4, s5, s6⟩, n0, n2⟩, hT⟩ := id hN
  have w0 := hW.1.1
  have w1 := hW.1.2.1
  have w2 := hW.1.2.2.1
  exact wp_some.mpr (wp_some.mpr hRs.2.2.2.2)
theorem o_torn (hR : RI h) : Ok (f_X9_torn  h) (fun q => Ok (f_X10_torn  h) (fun r => q = r)) := by
  have hR0 := hR
  obtain ⟨B, T, hK, hN, hW, hRs⟩ := hR
  obtain ⟨hM0, hM1, hM2, hM3, hM4, hM5, hM6, hM7, hM8, hM9, hM10⟩ := hK.1
  obtain ⟨⟨⟨s0, s1, s2, s3, s4, s5, s6⟩, n0, n2⟩, hT⟩ := id hN
  have w0 := hW.1.1
  have w1 := hW.1.2.1
  have w2 := hW.1.2.2.1
  exact wp_some.mpr (wp_some.mpr hRs.2.2.2.1)
theorem o_rule (x : Int32) (hR : RI h) : Ok (f_X9_rule x h) (fun q => Ok (f_X10_rule x h) (fun r => q = r)) := by
  have hR0 := hR
  obtain ⟨B, T, hK, hN, hW, hRs⟩ := hR
  obtain ⟨hM0, hM1, hM2, hM3, hM4, hM5, hM6, hM7, hM8, hM9, hM10⟩ := hK.1
  obtain ⟨⟨⟨s0, s1, s2, s3, s4, s5, s6⟩, n0, n2⟩, hT⟩ := id hN
  have w0 := hW.1.1
  have w1 := hW.1.2.1
  have w2 := hW.1.2.2.1
  unfold f_X9_rule f_X10_rule
  simp only [hM0, hM1, hM2, hM3, hM4, hM5, n0, n2, s1, s4, s5, s6]
  by_cases h0 : x = 0
  · simp [h0, wp_some]
  by_cases h1 : x = 1
  · simp [h1, wp_some]
  by_cases h2 : x = 2
  · simp [h2, wp_some]
  by_cases h3 : x = 3
  · simp [h3, wp_some]
  by_cases h4 : x = 4
  · simp [h4, wp_some]
  by_cases h5 : x = 5
  · simp [h5, wp_some]
  simp [h0, h1, h2, h3, h4, h5, wp_some]
theorem o_hole (x : Int32) (hR : RI h) : Ok (f_X9_hole x h) (fun q => Ok (f_X10_hole x h) (fun r => q = r)) := by
  have hR0 := hR
  obtain ⟨B, T, hK, hN, hW, hRs⟩ := hR
  obtain ⟨hM0, hM1, hM2, hM3, hM4, hM5, hM6, hM7, hM8, hM9, hM10⟩ := hK.1
  obtain ⟨⟨⟨s0, s1, s2, s3, s4, s5, s6⟩, n0, n2⟩, hT⟩ := id hN
  have w0 := hW.1.1
  have w1 := hW.1.2.1
  have w2 := hW.1.2.2.1
  unfold f_X9_hole f_X10_hole f_X9_isPlace f_X10_isPlace
  by_cases hx : inb x (B 0 0)
  · obtain ⟨i, hi, rfl⟩ := inb_of hx (by omega)
    have e7 := hM7 i (by omega)
    have f7 := s0 i (by omega)
    simp (disch := omega) only [wp_some, wp_obd, wp_ob2, wp_bnd, wp_gd, wp_ite, wp_true, wp_ff, ↓l_n1, ↓l_n2, ↓l_n3, ↓l_n4, ↓l_n10, ↓l_n20, l_0, l_1, l_2, l_3, l_4, l_5, l_6, l_7, l_8, l_9, l_10, l_13, l_14, l_15, l_16, l_20, l_21, l_24, l_27, l_28, l_30, l_31, l_32, l_35, l_36, l_39, l_40, l_41, l_43, l_44, l_45, l_46, l_47, l_48, l_49, l_56, l_57, l_59, l_60, l_79, l_97, l_122, l_160, l_237, l_255, l_320, l_999, l_1000, nI_add, pk_mul, nI_eq, nI_leI, nI_ltI, nI_clamp, inb_nI_iff, e_within, e_in32, e_asNumber, e_flag, decide_eq_true_eq, Sum.elim_inl, Sum.elim_inr, true_implies, not_true_eq_false, not_false_eq_true, false_implies, and_true, true_and, nI_nn, nn_nI, nn_nn, ↓reduceIte, if_true, if_false, Nat.le_refl, implies_true, Nat.lt_irrefl, and_self_left, win1, nI_le_s1, Nat.zero_le, up_s, up_o, Nat.zero_add, m64_0, m64_1, m64_2, m64_3, m64_7, m64_8, m64_9, m64_10, m64_13, m64_20, m64_27, m64_60, hM0, n0, hi, e7, f7]
    omega
  · simp (disch := omega) only [wp_some, wp_obd, wp_ob2, wp_bnd, wp_gd, wp_ite, wp_true, wp_ff, ↓l_n1, ↓l_n2, ↓l_n3, ↓l_n4, ↓l_n10, ↓l_n20, l_0, l_1, l_2, l_3, l_4, l_5, l_6, l_7, l_8, l_9, l_10, l_13, l_14, l_15, l_16, l_20, l_21, l_24, l_27, l_28, l_30, l_31, l_32, l_35, l_36, l_39, l_40, l_41, l_43, l_44, l_45, l_46, l_47, l_48, l_49, l_56, l_57, l_59, l_60, l_79, l_97, l_122, l_160, l_237, l_255, l_320, l_999, l_1000, nI_add, pk_mul, nI_eq, nI_leI, nI_ltI, nI_clamp, inb_nI_iff, e_within, e_in32, e_asNumber, e_flag, decide_eq_true_eq, Sum.elim_inl, Sum.elim_inr, true_implies, not_true_eq_false, not_false_eq_true, false_implies, and_true, true_and, nI_nn, nn_nI, nn_nn, ↓reduceIte, if_true, if_false, Nat.le_refl, implies_true, Nat.lt_irrefl, and_self_left, win1, nI_le_s1, Nat.zero_le, up_s, up_o, Nat.zero_add, m64_0, m64_1, m64_2, m64_3, m64_7, m64_8, m64_9, m64_10, m64_13, m64_20, m64_27, m64_60, hM0, n0, hx]
theorem o_coin (x v : Int32) (hR : RI h) : Ok (f_X9_coin x v h) (fun q => Ok (f_X10_coin x v h) (fun r => q = r.1 ∧ RI r.2)) := by
  have hR0 := hR
  obtain ⟨B, T, hK, hN, hW, hRs⟩ := hR
  obtain ⟨hM0, hM1, hM2, hM3, hM4, hM5, hM6, hM7, hM8, hM9, hM10⟩ := hK.1
  obtain ⟨⟨⟨s0, s1, s2, s3, s4, s5, s6⟩, n0, n2⟩, hT⟩ := id hN
  have w0 := hW.1.1
  have w1 := hW.1.2.1
  have w2 := hW.1.2.2.1
  unfold f_X9_coin f_X10_coin f_X9_isCoin f_X10_isCoin
  by_cases hx : inb x (B 1 0)
  · obtain ⟨c, hc, rfl⟩ := inb_of hx (by omega)
    obtain ⟨e1, e2, e3⟩ := hM9 c hc
    obtain ⟨f1, f2, f3⟩ := s2 c hc
    have b7 := (hW.1.2.2.2.2.2.2.2.2.2.2.1 c hc).2.1
    have hst : Ok (f_X10_starts h) (fun g => f_X10_isRight (nI c) g = some (rgt B c) ∧ RI g) := (m_starts hN.1 hW.1 hW.2.1).mono (fun g hg => ⟨m_isRight hg.1 hW.1 hc, RI_fra hR0 hg.2.fra⟩)
    simp (disch := omega) only [wp_some, wp_obd, wp_ob2, wp_bnd, wp_gd, wp_ite, wp_true, wp_ff, ↓l_n1, ↓l_n2, ↓l_n3, ↓l_n4, ↓l_n10, ↓l_n20, l_0, l_1, l_2, l_3, l_4, l_5, l_6, l_7, l_8, l_9, l_10, l_13, l_14, l_15, l_16, l_20, l_21, l_24, l_27, l_28, l_30, l_31, l_32, l_35, l_36, l_39, l_40, l_41, l_43, l_44, l_45, l_46, l_47, l_48, l_49, l_56, l_57, l_59, l_60, l_79, l_97, l_122, l_160, l_237, l_255, l_320, l_999, l_1000, nI_add, pk_mul, nI_eq, nI_leI, nI_ltI, nI_clamp, inb_nI_iff, e_within, e_in32, e_asNumber, e_flag, decide_eq_true_eq, Sum.elim_inl, Sum.elim_inr, true_implies, not_true_eq_false, not_false_eq_true, false_implies, and_true, true_and, nI_nn, nn_nI, nn_nn, ↓reduceIte, if_true, if_false, Nat.le_refl, implies_true, Nat.lt_irrefl, and_self_left, win1, nI_le_s1, Nat.zero_le, up_s, up_o, Nat.zero_add, m64_0, m64_1, m64_2, m64_3, m64_7, m64_8, m64_9, m64_10, m64_13, m64_20, m64_27, m64_60, hM1, s1, hc, e1, e2, e3, f1, f2, f3, i2b_n, b2i_n, c_isRight hK.1 hW.1 hc]
    refine ⟨by omega, ?_⟩
    repeat' (with_reducible (first | apply And.intro | intro _))
    all_goals first | omega | exact hR0 | contradiction | (refine hst.mono (fun g hg => ?_); rw [hg.1]; simp (disch := omega) only [wp_some, wp_obd, wp_ob2, wp_bnd, wp_gd, wp_ite, wp_true, wp_ff, ↓l_n1, ↓l_n2, ↓l_n3, ↓l_n4, ↓l_n10, ↓l_n20, l_0, l_1, l_2, l_3, l_4, l_5, l_6, l_7, l_8, l_9, l_10, l_13, l_14, l_15, l_16, l_20, l_21, l_24, l_27, l_28, l_30, l_31, l_32, l_35, l_36, l_39, l_40, l_41, l_43, l_44, l_45, l_46, l_47, l_48, l_49, l_56, l_57, l_59, l_60, l_79, l_97, l_122, l_160, l_237, l_255, l_320, l_999, l_1000, nI_add, pk_mul, nI_eq, nI_leI, nI_ltI, nI_clamp, inb_nI_iff, e_within, e_in32, e_asNumber, e_flag, decide_eq_true_eq, Sum.elim_inl, Sum.elim_inr, true_implies, not_true_eq_false, not_false_eq_true, false_implies, and_true, true_and, nI_nn, nn_nI, nn_nn, ↓reduceIte, if_true, if_false, Nat.le_refl, implies_true, Nat.lt_irrefl, and_self_left]; exact hg.2)
  · simp (disch := omega) only [wp_some, wp_obd, wp_ob2, wp_bnd, wp_gd, wp_ite, wp_true, wp_ff, ↓l_n1, ↓l_n2, ↓l_n3, ↓l_n4, ↓l_n10, ↓l_n20, l_0, l_1, l_2, l_3, l_4, l_5, l_6, l_7, l_8, l_9, l_10, l_13, l_14, l_15, l_16, l_20, l_21, l_24, l_27, l_28, l_30, l_31, l_32, l_35, l_36, l_39, l_40, l_41, l_43, l_44, l_45, l_46, l_47, l_48, l_49, l_56, l_57, l_59, l_60, l_79, l_97, l_122, l_160, l_237, l_255, l_320, l_999, l_1000, nI_add, pk_mul, nI_eq, nI_leI, nI_ltI, nI_clamp, inb_nI_iff, e_within, e_in32, e_asNumber, e_flag, decide_eq_true_eq, Sum.elim_inl, Sum.elim_inr, true_implies, not_true_eq_false, not_false_eq_true, false_implies, and_true, true_and, nI_nn, nn_nI, nn_nn, ↓reduceIte, if_true, if_false, Nat.le_refl, implies_true, Nat.lt_irrefl, and_self_left, win1, nI_le_s1, Nat.zero_le, up_s, up_o, Nat.zero_add, m64_0, m64_1, m64_2, m64_3, m64_7, m64_8, m64_9, m64_10, m64_13, m64_20, m64_27, m64_60, hM1, s1, hx]
    exact hR0
theorem o_crab (x v : Int32) (hR : RI h) : Ok (f_X9_crab x v h) (fun q => Ok (f_X10_crab x v h) (fun r => q = r.1 ∧ RI r.2)) := by
  have hR0 := hR
  obtain ⟨B, T, hK, hN, hW, hRs⟩ := hR
  obtain ⟨hM0, hM1, hM2, hM3, hM4, hM5, hM6, hM7, hM8, hM9, hM10⟩ := hK.1
  obtain ⟨⟨⟨s0, s1, s2, s3, s4, s5, s6⟩, n0, n2⟩, hT⟩ := id hN
  have w0 := hW.1.1
  have w1 := hW.1.2.1
  have w2 := hW.1.2.2.1
  unfold f_X9_crab f_X10_crab f_X9_isCrab f_X10_isCrab
  by_cases hx : inb x (B 2 0)
  · obtain ⟨k, hk, rfl⟩ := inb_of hx (by omega)
    obtain ⟨e1, e2, e3, e4⟩ := hM10 k hk
    obtain ⟨f1, f2, f3, f4⟩ := s3 k hk
    have hst : Ok (f_X10_starts h) (fun g => f_X10_heldBy (nI k) g = some (on (nn 4) (hd B k)) ∧ RI g) := (m_starts hN.1 hW.1 hW.2.1).mono (fun g hg => ⟨m_heldBy hg.1 hW.1 (by omega), RI_fra hR0 hg.2.fra⟩)
    have e5 := hK.2.1 k hk
    have e6 := c_holds hK.2.1 hW.1 hk
    cases hz : hd B k with
    | none =>
      rw [hz] at e5 e6 hst
      rw [on_none, l_n1] at e5
      rw [on_none] at hst
      simp (disch := omega) only [wp_some, wp_obd, wp_ob2, wp_bnd, wp_gd, wp_ite, wp_true, wp_ff, ↓l_n1, ↓l_n2, ↓l_n3, ↓l_n4, ↓l_n10, ↓l_n20, l_0, l_1, l_2, l_3, l_4, l_5, l_6, l_7, l_8, l_9, l_10, l_13, l_14, l_15, l_16, l_20, l_21, l_24, l_27, l_28, l_30, l_31, l_32, l_35, l_36, l_39, l_40, l_41, l_43, l_44, l_45, l_46, l_47, l_48, l_49, l_56, l_57, l_59, l_60, l_79, l_97, l_122, l_160, l_237, l_255, l_320, l_999, l_1000, nI_add, pk_mul, nI_eq, nI_leI, nI_ltI, nI_clamp, inb_nI_iff, e_within, e_in32, e_asNumber, e_flag, decide_eq_true_eq, Sum.elim_inl, Sum.elim_inr, true_implies, not_true_eq_false, not_false_eq_true, false_implies, and_true, true_and, nI_nn, nn_nI, nn_nn, ↓reduceIte, if_true, if_false, Nat.le_refl, implies_true, Nat.lt_irrefl, and_self_left, win1, nI_le_s1, Nat.zero_le, up_s, up_o, Nat.zero_add, m64_0, m64_1, m64_2, m64_3, m64_7, m64_8, m64_9, m64_10, m64_13, m64_20, m64_27, m64_60, hM2, n2, hk, e1, e2, e3, e4, f1, f2, f3, f4, e5, e6, Option.isSome_none]
      refine ⟨by omega, ?_⟩
      repeat' (with_reducible (first | apply And.intro | intro _))
      all_goals first | omega | exact hR0 | contradiction | (refine hst.mono (fun g hg => ?_); rw [hg.1]; simp (disch := omega) only [wp_some, wp_obd, wp_ob2, wp_bnd, wp_gd, wp_ite, wp_true, wp_ff, ↓l_n1, ↓l_n2, ↓l_n3, ↓l_n4, ↓l_n10, ↓l_n20, l_0, l_1, l_2, l_3, l_4, l_5, l_6, l_7, l_8, l_9, l_10, l_13, l_14, l_15, l_16, l_20, l_21, l_24, l_27, l_28, l_30, l_31, l_32, l_35, l_36, l_39, l_40, l_41, l_43, l_44, l_45, l_46, l_47, l_48, l_49, l_56, l_57, l_59, l_60, l_79, l_97, l_122, l_160, l_237, l_255, l_320, l_999, l_1000, nI_add, pk_mul, nI_eq, nI_leI, nI_ltI, nI_clamp, inb_nI_iff, e_within, e_in32, e_asNumber, e_flag, decide_eq_true_eq, Sum.elim_inl, Sum.elim_inr, true_implies, not_true_eq_false, not_false_eq_true, false_implies, and_true, true_and, nI_nn, nn_nI, nn_nn, ↓reduceIte, if_true, if_false, Nat.le_refl, implies_true, Nat.lt_irrefl, and_self_left]; exact hg.2)
    | some c =>
      rw [hz] at e5 e6 hst
      rw [on_sm] at e5 hst
      simp (disch := omega) only [wp_some, wp_obd, wp_ob2, wp_bnd, wp_gd, wp_ite, wp_true, wp_ff, ↓l_n1, ↓l_n2, ↓l_n3, ↓l_n4, ↓l_n10, ↓l_n20, l_0, l_1, l_2, l_3, l_4, l_5, l_6, l_7, l_8, l_9, l_10, l_13, l_14, l_15, l_16, l_20, l_21, l_24, l_27, l_28, l_30, l_31, l_32, l_35, l_36, l_39, l_40, l_41, l_43, l_44, l_45, l_46, l_47, l_48, l_49, l_56, l_57, l_59, l_60, l_79, l_97, l_122, l_160, l_237, l_255, l_320, l_999, l_1000, nI_add, pk_mul, nI_eq, nI_leI, nI_ltI, nI_clamp, inb_nI_iff, e_within, e_in32, e_asNumber, e_flag, decide_eq_true_eq, Sum.elim_inl, Sum.elim_inr, true_implies, not_true_eq_false, not_false_eq_true, false_implies, and_true, true_and, nI_nn, nn_nI, nn_nn, ↓reduceIte, if_true, if_false, Nat.le_refl, implies_true, Nat.lt_irrefl, and_self_left, win1, nI_le_s1, Nat.zero_le, up_s, up_o, Nat.zero_add, m64_0, m64_1, m64_2, m64_3, m64_7, m64_8, m64_9, m64_10, m64_13, m64_20, m64_27, m64_60, hM2, n2, hk, e1, e2, e3, e4, f1, f2, f3, f4, e5, e6, Option.isSome_some]
      refine ⟨by omega, ?_⟩
      repeat' (with_reducible (first | apply And.intro | intro _))
      all_goals first | omega | exact hR0 | contradiction | (refine hst.mono (fun g hg => ?_); rw [hg.1]; simp (disch := omega) only [wp_some, wp_obd, wp_ob2, wp_bnd, wp_gd, wp_ite, wp_true, wp_ff, ↓l_n1, ↓l_n2, ↓l_n3, ↓l_n4, ↓l_n10, ↓l_n20, l_0, l_1, l_2, l_3, l_4, l_5, l_6, l_7, l_8, l_9, l_10, l_13, l_14, l_15, l_16, l_20, l_21, l_24, l_27, l_28, l_30, l_31, l_32, l_35, l_36, l_39, l_40, l_41, l_43, l_44, l_45, l_46, l_47, l_48, l_49, l_56, l_57, l_59, l_60, l_79, l_97, l_122, l_160, l_237, l_255, l_320, l_999, l_1000, nI_add, pk_mul, nI_eq, nI_leI, nI_ltI, nI_clamp, inb_nI_iff, e_within, e_in32, e_asNumber, e_flag, decide_eq_true_eq, Sum.elim_inl, Sum.elim_inr, true_implies, not_true_eq_false, not_false_eq_true, false_implies, and_true, true_and, nI_nn, nn_nI, nn_nn, ↓reduceIte, if_true, if_false, Nat.le_refl, implies_true, Nat.lt_irrefl, and_self_left]; exact hg.2)
  · simp (disch := omega) only [wp_some, wp_obd, wp_ob2, wp_bnd, wp_gd, wp_ite, wp_true, wp_ff, ↓l_n1, ↓l_n2, ↓l_n3, ↓l_n4, ↓l_n10, ↓l_n20, l_0, l_1, l_2, l_3, l_4, l_5, l_6, l_7, l_8, l_9, l_10, l_13, l_14, l_15, l_16, l_20, l_21, l_24, l_27, l_28, l_30, l_31, l_32, l_35, l_36, l_39, l_40, l_41, l_43, l_44, l_45, l_46, l_47, l_48, l_49, l_56, l_57, l_59, l_60, l_79, l_97, l_122, l_160, l_237, l_255, l_320, l_999, l_1000, nI_add, pk_mul, nI_eq, nI_leI, nI_ltI, nI_clamp, inb_nI_iff, e_within, e_in32, e_asNumber, e_flag, decide_eq_true_eq, Sum.elim_inl, Sum.elim_inr, true_implies, not_true_eq_false, not_false_eq_true, false_implies, and_true, true_and, nI_nn, nn_nI, nn_nn, ↓reduceIte, if_true, if_false, Nat.le_refl, implies_true, Nat.lt_irrefl, and_self_left, win1, nI_le_s1, Nat.zero_le, up_s, up_o, Nat.zero_add, m64_0, m64_1, m64_2, m64_3, m64_7, m64_8, m64_9, m64_10, m64_13, m64_20, m64_27, m64_60, hM2, n2, hx]
    exact hR0
end Ops
