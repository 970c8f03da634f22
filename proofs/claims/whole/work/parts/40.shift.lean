/-- behind n steps -/
def stn (B : Bs) : Nat → Bs
  | 0 => B
  | n + 1 => stp (stn B n)
theorem WF_stn {B : Bs} {S : Nat} (hW : WF S B) : ∀ n, WF (S + n) (stn B n)
  | 0 => hW
  | n + 1 => WF_stp (WF_stn hW n)
theorem stn_f {B : Bs} {f i : Nat} (h1 : f ≠ 11) (h2 : f ≠ 5) (h3 : f ≠ 15) : ∀ {n : Nat}, stn B n f i = B f i
  | 0 => rfl
  | n + 1 => (stp_f h1 h2 h3).trans (stn_f h1 h2 h3)
theorem bp_congr {B B' : Bs} {c : Nat} (h7 : ∀ x, B' 7 x = B 7 x) (h9 : B' 9 c = B 9 c) : ∀ {n : Nat}, bp B' c n = bp B c n
  | 0 => rfl
  | n + 1 => by
    unfold bp
    rw [bp_congr h7 h9, h9, h7]
    cases bp B c n with
    | none => rfl
    | some y => dsimp only; rw [h7]
theorem gl_congr {B B' : Bs} {c : Nat} (h0 : B' 0 0 = B 0 0) (h7 : ∀ x, B' 7 x = B 7 x) (h9 : B' 9 c = B 9 c) (h10 : B' 10 c = B 10 c) : gl B' c = gl B c := by
  unfold gl
  rw [h0, h10, bp_congr h7 h9]
theorem gl_stn {B : Bs} {c n : Nat} : gl (stn B n) c = gl B c := gl_congr (stn_f (by decide) (by decide) (by decide)) (fun _ => stn_f (by decide) (by decide) (by decide)) (stn_f (by decide) (by decide) (by decide)) (stn_f (by decide) (by decide) (by decide))
theorem act_20 {B : Bs} {S k c : Nat} (hW : WF S B) (hk : k < B 2 0) (h : 20 ≤ B 11 c) : act B k 11 c = B 11 c := by
  have hm := hW.2.2.1
  have hp := (hW.2.2.2.2.2.2.2.2.2.2.2.2 k hk).2.2.2
  have hP := hW.1
  unfold act
  cases hz : hd B k with
  | some d =>
    have := (hd_some hz).2
    dsimp only
    split
    · have : ¬ c = d := fun e => by subst e; omega
      simp [ub, this]
    · simp [ub]
  | none =>
    dsimp only
    cases hy : lyf B k with
    | some d =>
      have := (lyf_some hy).2
      have : ¬ c = d := fun e => by subst e; omega
      simp [ub, this]
    | none => simp [ub]
theorem acts_20 {B : Bs} {S c : Nat} (hW : WF S B) (h : 20 ≤ B 11 c) : ∀ n, n ≤ B 6 0 → acts B n 11 c = B 11 c
  | 0, _ => rfl
  | n + 1, hn => by
    have ih := acts_20 hW h n (by omega)
    show act (acts B n) (B 8 n) 11 c = _
    rw [act_20 (WF_acts hW n (by omega)) (by rw [acts_f (by decide) (by decide)]; exact hW.2.2.2.2.2.2.2.2.1 n (by omega)) (by omega), ih]
theorem stp_20 {B : Bs} {S c : Nat} (hW : WF S B) (h : 20 ≤ B 11 c) : stp B 11 c = B 11 c := by
  have e1 := acts_20 hW h _ (Nat.le_refl _)
  have e4 : acts B (B 6 0) 4 0 = B 4 0 := acts_f (by decide) (by decide)
  have h4 := hW.2.2.2.2.1
  unfold stp
  have e2 : fights (acts B (B 6 0)) 11 c = B 11 c := by
    unfold fights dr
    rw [if_neg (fun hh => by have := hh.2.2.2.1; omega), e1]
  have e3 : fights (acts B (B 6 0)) 4 0 = B 4 0 := by unfold fights; rw [dr_f (by decide), e4]
  unfold tid
  rw [if_neg (fun hh => by simp at hh), if_neg (fun hh => by have := hh.2.2.2.2; rw [e2, e3] at this; omega), e2]
theorem stn_20 {B : Bs} {S c : Nat} (hW : WF S B) (h : 20 ≤ B 11 c) : ∀ n, stn B n 11 c = B 11 c
  | 0 => rfl
  | n + 1 => by
    have ih := stn_20 hW h n
    show stp (stn B n) 11 c = _
    rw [stp_20 (WF_stn hW n) (by omega), ih]
theorem stn_add {B : Bs} {n : Nat} : ∀ {k : Nat}, stn (stn B n) k = stn B (n + k)
  | 0 => rfl
  | k + 1 => by show stp (stn (stn B n) k) = _; rw [stn_add]; rfl
/-- a coin that is not right in a hole or in the sea never will be -/
theorem rgt_20 {B : Bs} {S c : Nat} (hW : WF S B) (h : 20 ≤ B 11 c) (hr : rgt B c = false) (n : Nat) : rgt (stn B n) c = false := by
  unfold rgt at hr ⊢
  rw [gl_stn, stn_20 hW h]
  exact hr
theorem cnt_not {p : Nat → Bool} : ∀ {n : Nat}, cnt p n + cnt (fun c => !p c) n = n
  | 0 => rfl
  | n + 1 => by
    have := cnt_not (p := p) (n := n)
    unfold cnt
    cases p n <;> simp <;> omega
/-- all coins are right -/
def alr (B : Bs) : Bool := decide (cnt (rgt B) (B 1 0) = B 1 0)
theorem alr_iff {B : Bs} : alr B = true ↔ ∀ c, c < B 1 0 → rgt B c = true := by
  unfold alr
  rw [decide_eq_true_eq, cnt_all]
/-- when all is sorted right, if that is within so many tries -/
def srt (B : Bs) (m : Nat) : Option Nat := ff (fun n => alr (stn B n)) m
theorem srt_lt {B : Bs} {m n : Nat} (h : srt B m = some n) : n < m := (ff_some.mp h).1
def FrO (h h' : Mem) (o : Nat) : Prop := ∀ k j o' i, (o' ≠ o ∨ k = 0 ∨ 7 < k) → h' k j o' i = h k j o' i
theorem FrB.o {h h' : Mem} {o : Nat} (hF : FrB h h' o) : FrO h h' o := fun k j o' i hh => hF k j o' i (by rcases hh with hh | hh | hh <;> simp [hh])
theorem FrO.rf {h : Mem} {o : Nat} : FrO h h o := fun _ _ _ _ _ => rfl
theorem FrO.tr {h h' h'' : Mem} {o : Nat} (h1 : FrO h h' o) (h2 : FrO h' h'' o) : FrO h h'' o := fun k j o i h => (h2 k j o i h).trans (h1 k j o i h)
theorem FrO.up {h : Mem} {k j o i : Nat} {v : Int32} (hk : 1 ≤ k ∧ k ≤ 7) : FrO h (up h k j o i v) o := by
  intro k' j' o' i' hh
  unfold _root_.Jvm.Pilot.@@N@@.up
  rw [if_neg]
  rintro ⟨rfl, rfl, rfl, -⟩
  rcases hh with hh | hh | hh
  · exact hh rfl
  · omega
  · omega
theorem CB0_63 {h : Mem} {o : Nat} {B : Bs} {c : Nat} {v : Int32} (hC : CB0 h o B) : CB0 (up h 6 3 o c v) o B := by
  obtain ⟨hM0, hM1, hM2, hM3, hM4, hM5, hM6, hM7, hM8, hM9, hM10⟩ := hC
  exact ⟨by simpa [up] using hM0, by simpa [up] using hM1, by simpa [up] using hM2, by simpa [up] using hM3, by simpa [up] using hM4, by simpa [up] using hM5, by simpa [up] using hM6, by simpa [up] using hM7, by simpa [up] using hM8, by simpa [up] using hM9, by simpa [up] using hM10⟩
theorem lim_lt {m n : Nat} (hm : m < 2 ^ 30) (hn : n < 2 ^ 31) : nI m - 1 < nI n ↔ m ≤ n := by
  rw [lt_toInt, toInt_sub1 hm, nI_toInt hn]; omega
theorem lim_le {m n : Nat} (hm : m < 2 ^ 30) (hn : n < 2 ^ 31) : nI m - 1 ≤ nI n ↔ m ≤ n + 1 := by
  rw [le_toInt, toInt_sub1 hm, nI_toInt hn]; omega
theorem lgt (k : Nat) : (0 : Int32) = nI 0 := rfl
section Cls
variable {h g : Mem} {o : Nat} {B : Bs} {S : Nat}
theorem c_goSteps (hC : CB0 h o B) (hH : HL h o B) (hW : WF S B) {n : Nat} (hn : n ≤ 60) (hS : S + n < 100000) : Ok (f_X0_goSteps o (nI n) h) (fun h' => CB0 h' o (stn B n) ∧ HL h' o (stn B n) ∧ FrB h h' o) := by
  unfold f_X0_goSteps
  rw [wp_obd]
  refine (ok_up (K := fun h' => CB0 h' o (stn B n) ∧ HL h' o (stn B n) ∧ FrB h h' o) n (fun j a => a.1 = nI j ∧ CB0 a.2 o (stn B j) ∧ HL a.2 o (stn B j) ∧ FrB h a.2 o) (by omega) ?_ ?_ _ ⟨rfl, hC, hH, FrB.rf⟩).mono (fun a ha => wp_some.mpr ha)
  · rintro j ⟨x, h'⟩ hj ⟨hx, hC2, hH2, hF⟩
    dsimp only at hx hC2 hH2 hF
    subst hx
    simp (disch := omega) only [wp_some, wp_obd, wp_ob2, wp_bnd, wp_gd, wp_ite, wp_true, wp_ff, ↓l_n1, ↓l_n2, ↓l_n3, ↓l_n4, ↓l_n10, ↓l_n20, l_0, l_1, l_2, l_3, l_4, l_5, l_6, l_7, l_8, l_9, l_10, l_13, l_14, l_15, l_16, l_20, l_21, l_24, l_27, l_28, l_30, l_31, l_32, l_35, l_36, l_39, l_40, l_41, l_43, l_44, l_45, l_46, l_47, l_48, l_49, l_56, l_57, l_59, l_60, l_79, l_97, l_122, l_160, l_237, l_255, l_320, l_999, l_1000, nI_add, pk_mul, nI_eq, nI_leI, nI_ltI, nI_clamp, inb_nI_iff, e_within, e_in32, e_asNumber, e_flag, decide_eq_true_eq, Sum.elim_inl, Sum.elim_inr, true_implies, not_true_eq_false, not_false_eq_true, false_implies, and_true, true_and, nI_nn, nn_nI, nn_nn, ↓reduceIte, if_true, if_false, Nat.le_refl, implies_true, Nat.lt_irrefl, and_self_left]
    refine ⟨fun e => by omega, fun _ => ?_⟩
    refine (c_goStep hC2 hH2 (WF_stn hW j) (by omega)).mono ?_
    rintro h2 ⟨g1, g2, g3⟩
    exact ⟨g1, g2, hF.tr g3⟩
  · rintro ⟨x, h'⟩ ⟨hx, hC2, hH2, hF⟩
    dsimp only at hx hC2 hH2 hF
    subst hx
    simp (disch := omega) only [wp_some, wp_obd, wp_ob2, wp_bnd, wp_gd, wp_ite, wp_true, wp_ff, ↓l_n1, ↓l_n2, ↓l_n3, ↓l_n4, ↓l_n10, ↓l_n20, l_0, l_1, l_2, l_3, l_4, l_5, l_6, l_7, l_8, l_9, l_10, l_13, l_14, l_15, l_16, l_20, l_21, l_24, l_27, l_28, l_30, l_31, l_32, l_35, l_36, l_39, l_40, l_41, l_43, l_44, l_45, l_46, l_47, l_48, l_49, l_56, l_57, l_59, l_60, l_79, l_97, l_122, l_160, l_237, l_255, l_320, l_999, l_1000, nI_add, pk_mul, nI_eq, nI_leI, nI_ltI, nI_clamp, inb_nI_iff, e_within, e_in32, e_asNumber, e_flag, decide_eq_true_eq, Sum.elim_inl, Sum.elim_inr, true_implies, not_true_eq_false, not_false_eq_true, false_implies, and_true, true_and, nI_nn, nn_nI, nn_nn, ↓reduceIte, if_true, if_false, Nat.le_refl, implies_true, Nat.lt_irrefl, and_self_left]
    exact ⟨hC2, hH2, hF⟩
theorem c_openCoins (hC : CB0 h o B) (hW : WF S B) (hG : ∀ c, c < B 1 0 → h 6 3 o c = on (-1) (gl B c)) : Ok (f_X0_openCoins o h) (fun r => (r = nn 1 ∧ ∃ c, c < B 1 0 ∧ rgt B c = false ∧ 20 ≤ B 11 c) ∨ r = nI (cnt (fun c => !rgt B c) (B 1 0))) := by
  have hn := hW.2.1
  have hP := hW.1
  have h1 := hC.2.1
  unfold f_X0_openCoins
  rw [wp_obd]
  refine (ok_up (K := Sum.elim (fun r => r = nn 1 ∧ ∃ c, c < B 1 0 ∧ rgt B c = false ∧ 20 ≤ B 11 c) (fun r => r = nI (cnt (fun c => !rgt B c) (B 1 0)))) (B 1 0) (fun j a => a.2 = nI j ∧ a.1 = nI (cnt (fun c => !rgt B c) j)) (by omega) ?_ ?_ _ ⟨rfl, rfl⟩).mono ?_
  · rintro j ⟨b, x⟩ hj ⟨hx, hb⟩
    dsimp only at hx hb
    subst hx
    subst hb
    have p3 := (hC.2.2.2.2.2.2.2.2.2.1 j hj).2.2
    have hb := wok_lt hW.2.2.1 (hW.2.2.2.2.2.2.2.2.2.2.1 j hj).2.2
    have hg := hG j hj
    cases hz : gl B j with
    | none =>
      have hr : rgt B j = true := by unfold rgt; rw [hz]
      rw [hz, on_none] at hg
      simp (disch := omega) only [wp_some, wp_obd, wp_ob2, wp_bnd, wp_gd, wp_ite, wp_true, wp_ff, ↓l_n1, ↓l_n2, ↓l_n3, ↓l_n4, ↓l_n10, ↓l_n20, l_0, l_1, l_2, l_3, l_4, l_5, l_6, l_7, l_8, l_9, l_10, l_13, l_14, l_15, l_16, l_20, l_21, l_24, l_27, l_28, l_30, l_31, l_32, l_35, l_36, l_39, l_40, l_41, l_43, l_44, l_45, l_46, l_47, l_48, l_49, l_56, l_57, l_59, l_60, l_79, l_97, l_122, l_160, l_237, l_255, l_320, l_999, l_1000, nI_add, pk_mul, nI_eq, nI_leI, nI_ltI, nI_clamp, inb_nI_iff, e_within, e_in32, e_asNumber, e_flag, decide_eq_true_eq, Sum.elim_inl, Sum.elim_inr, true_implies, not_true_eq_false, not_false_eq_true, false_implies, and_true, true_and, nI_nn, nn_nI, nn_nn, ↓reduceIte, if_true, if_false, Nat.le_refl, implies_true, Nat.lt_irrefl, and_self_left, h1, hg, cnt, hr, Bool.not_true]
      repeat' (with_reducible (first | apply And.intro | intro _))
      all_goals (first | omega | rfl | trivial | ((repeat' split) <;> first | omega | rfl | contradiction))
    | some y =>
      have hy : y < B 0 0 := by
        unfold gl at hz
        split at hz
        · exact bp_lt hz
        · cases hz
      have hr : rgt B j = (B 11 j == 20 + y) := by unfold rgt; rw [hz]
      rw [hz, on_sm] at hg
      simp (disch := omega) only [wp_some, wp_obd, wp_ob2, wp_bnd, wp_gd, wp_ite, wp_true, wp_ff, ↓l_n1, ↓l_n2, ↓l_n3, ↓l_n4, ↓l_n10, ↓l_n20, l_0, l_1, l_2, l_3, l_4, l_5, l_6, l_7, l_8, l_9, l_10, l_13, l_14, l_15, l_16, l_20, l_21, l_24, l_27, l_28, l_30, l_31, l_32, l_35, l_36, l_39, l_40, l_41, l_43, l_44, l_45, l_46, l_47, l_48, l_49, l_56, l_57, l_59, l_60, l_79, l_97, l_122, l_160, l_237, l_255, l_320, l_999, l_1000, nI_add, pk_mul, nI_eq, nI_leI, nI_ltI, nI_clamp, inb_nI_iff, e_within, e_in32, e_asNumber, e_flag, decide_eq_true_eq, Sum.elim_inl, Sum.elim_inr, true_implies, not_true_eq_false, not_false_eq_true, false_implies, and_true, true_and, nI_nn, nn_nI, nn_nn, ↓reduceIte, if_true, if_false, Nat.le_refl, implies_true, Nat.lt_irrefl, and_self_left, h1, hg, cnt, hr, p3]
      by_cases e : B 11 j = 20 + y
      · simp [e]; omega
      · have e2 : (B 11 j == 20 + y) = false := by simp [e]
        rw [e2]
        simp only [Bool.not_false, if_true]
        repeat' (with_reducible (first | apply And.intro | intro _))
        all_goals first | omega | exact ⟨j, hj, by rw [hr, e2], by omega⟩ | trivial | contradiction
  · rintro ⟨b, x⟩ ⟨hx, hb⟩
    dsimp only at hx hb
    subst hx
    subst hb
    simp (disch := omega) only [wp_some, wp_obd, wp_ob2, wp_bnd, wp_gd, wp_ite, wp_true, wp_ff, ↓l_n1, ↓l_n2, ↓l_n3, ↓l_n4, ↓l_n10, ↓l_n20, l_0, l_1, l_2, l_3, l_4, l_5, l_6, l_7, l_8, l_9, l_10, l_13, l_14, l_15, l_16, l_20, l_21, l_24, l_27, l_28, l_30, l_31, l_32, l_35, l_36, l_39, l_40, l_41, l_43, l_44, l_45, l_46, l_47, l_48, l_49, l_56, l_57, l_59, l_60, l_79, l_97, l_122, l_160, l_237, l_255, l_320, l_999, l_1000, nI_add, pk_mul, nI_eq, nI_leI, nI_ltI, nI_clamp, inb_nI_iff, e_within, e_in32, e_asNumber, e_flag, decide_eq_true_eq, Sum.elim_inl, Sum.elim_inr, true_implies, not_true_eq_false, not_false_eq_true, false_implies, and_true, true_and, nI_nn, nn_nI, nn_nn, ↓reduceIte, if_true, if_false, Nat.le_refl, implies_true, Nat.lt_irrefl, and_self_left, h1]
  · intro z hz
    cases z with
    | inl r => exact wp_some.mpr (Or.inl hz)
    | inr r => exact wp_some.mpr (Or.inr hz)
theorem c_sorted (hC : CB0 h o B) (hH : HL h o B) (hW : WF S B) {m : Nat} (hm : m ≤ 41) (hS : S + m < 100000) : Ok (f_X0_stepsUntilSorted o (nI m - 1) h) (fun q => q.1 = on (-4) (srt B m) ∧ FrO h q.2 o) := by
  have hn := hW.2.1
  have hP := hW.1
  unfold f_X0_stepsUntilSorted
  rw [wp_obd]
  refine (ok_up (K := fun h' => CB0 h' o B ∧ HL h' o B ∧ FrO h h' o ∧ ∀ c, c < B 1 0 → h' 6 3 o c = on (-1) (gl B c)) (B 1 0) (fun j a => a.1 = nI j ∧ CB0 a.2 o B ∧ HL a.2 o B ∧ FrO h a.2 o ∧ ∀ c, c < j → a.2 6 3 o c = on (-1) (gl B c)) (by omega) ?_ ?_ _ ⟨rfl, hC, hH, FrO.rf, fun c hc => by omega⟩).mono ?_
  · rintro j ⟨x, h'⟩ hj ⟨hx, hC2, hH2, hF, hG⟩
    dsimp only at hx hC2 hH2 hF hG
    subst hx
    have h1 := hC2.2.1
    simp (disch := omega) only [wp_some, wp_obd, wp_ob2, wp_bnd, wp_gd, wp_ite, wp_true, wp_ff, ↓l_n1, ↓l_n2, ↓l_n3, ↓l_n4, ↓l_n10, ↓l_n20, l_0, l_1, l_2, l_3, l_4, l_5, l_6, l_7, l_8, l_9, l_10, l_13, l_14, l_15, l_16, l_20, l_21, l_24, l_27, l_28, l_30, l_31, l_32, l_35, l_36, l_39, l_40, l_41, l_43, l_44, l_45, l_46, l_47, l_48, l_49, l_56, l_57, l_59, l_60, l_79, l_97, l_122, l_160, l_237, l_255, l_320, l_999, l_1000, nI_add, pk_mul, nI_eq, nI_leI, nI_ltI, nI_clamp, inb_nI_iff, e_within, e_in32, e_asNumber, e_flag, decide_eq_true_eq, Sum.elim_inl, Sum.elim_inr, true_implies, not_true_eq_false, not_false_eq_true, false_implies, and_true, true_and, nI_nn, nn_nI, nn_nn, ↓reduceIte, if_true, if_false, Nat.le_refl, implies_true, Nat.lt_irrefl, and_self_left, h1, c_rightPlace hC2 hW hj]
    refine ⟨fun e => by omega, fun _ => ⟨by omega, CB0_63 hC2, ?_, hF.tr (FrO.up (by decide)), ?_⟩⟩
    · intro k hk
      have := hH2 k hk
      simpa [up] using this
    · intro c hc
      by_cases e : c = j
      · subst e; simp [up, ← l_n1]
      · have := hG c (by omega)
        rw [l_n1] at this
        simpa [up, e] using this
  · rintro ⟨x, h'⟩ ⟨hx, hC2, hH2, hF, hG⟩
    dsimp only at hx hC2 hH2 hF hG
    subst hx
    have h1 := hC2.2.1
    simp (disch := omega) only [wp_some, wp_obd, wp_ob2, wp_bnd, wp_gd, wp_ite, wp_true, wp_ff, ↓l_n1, ↓l_n2, ↓l_n3, ↓l_n4, ↓l_n10, ↓l_n20, l_0, l_1, l_2, l_3, l_4, l_5, l_6, l_7, l_8, l_9, l_10, l_13, l_14, l_15, l_16, l_20, l_21, l_24, l_27, l_28, l_30, l_31, l_32, l_35, l_36, l_39, l_40, l_41, l_43, l_44, l_45, l_46, l_47, l_48, l_49, l_56, l_57, l_59, l_60, l_79, l_97, l_122, l_160, l_237, l_255, l_320, l_999, l_1000, nI_add, pk_mul, nI_eq, nI_leI, nI_ltI, nI_clamp, inb_nI_iff, e_within, e_in32, e_asNumber, e_flag, decide_eq_true_eq, Sum.elim_inl, Sum.elim_inr, true_implies, not_true_eq_false, not_false_eq_true, false_implies, and_true, true_and, nI_nn, nn_nI, nn_nn, ↓reduceIte, if_true, if_false, Nat.le_refl, implies_true, Nat.lt_irrefl, and_self_left, h1]
    exact ⟨hC2, hH2, hF, hG⟩
  · rintro h1 ⟨hC1, hH1, hF1, hG1⟩
    rw [wp_obd]
    refine (ok_up (K := Sum.elim (fun q => q.1 = on (-4) (srt B m) ∧ FrO h q.2 o) (fun h' => srt B m = none ∧ FrO h h' o)) m (fun n a => a.1 = nI n ∧ (∃ i, CB0 a.2 o (stn B i) ∧ HL a.2 o (stn B i) ∧ (n < m → i = n)) ∧ FrO h a.2 o ∧ (∀ c, c < B 1 0 → a.2 6 3 o c = on (-1) (gl B c)) ∧ ∀ i, i < n → alr (stn B i) = false) (by omega) ?_ ?_ _ ⟨rfl, ⟨0, hC1, hH1, fun _ => rfl⟩, hF1, hG1, fun i hi => by omega⟩).mono ?_
    · rintro n ⟨x, h'⟩ hj ⟨hx, ⟨i, hC2, hH2, hi⟩, hF, hG, hno⟩
      dsimp only at hx hC2 hH2 hF hG
      subst hx
      have hi := hi hj
      subst hi
      have en : stn B i 1 0 = B 1 0 := stn_f (by decide) (by decide) (by decide)
      rw [wp_ite]
      refine ⟨fun e => absurd ((lim_lt (by omega) (by omega)).mp e) (by omega), fun _ => ?_⟩
      rw [wp_obd]
      refine (c_openCoins hC2 (WF_stn hW i) (fun c hc => by rw [gl_stn]; exact hG c (by rw [en] at hc; exact hc))).mono ?_
      rw [en]
      have hnot := cnt_not (p := rgt (stn B i)) (n := B 1 0)
      rintro r (⟨rfl, c, c1, c2, c3⟩ | rfl)
      · have hs : srt B m = none := by
          refine ff_none.mpr (fun d hd => ?_)
          by_cases e : d < i
          · exact hno d e
          · rw [show d = i + (d - i) by omega, ← stn_add]
            rw [Bool.eq_false_iff]
            intro ht
            have := alr_iff.mp ht c (by rw [stn_f (by decide) (by decide) (by decide), en]; exact c1)
            rw [rgt_20 (WF_stn hW i) c3 c2] at this
            cases this
        rw [wp_ite]
        refine ⟨fun e => absurd e (by decide), fun _ => ?_⟩
        rw [wp_ite]
        refine ⟨fun e => absurd e (by decide), fun _ => ?_⟩
        exact wp_some.mpr ⟨by rw [hs]; rfl, hF⟩
      · have hle := cnt_le (p := fun c => !rgt (stn B i) c) (n := B 1 0)
        by_cases e0 : cnt (fun c => !rgt (stn B i) c) (B 1 0) = 0
        · rw [e0]
          rw [wp_ite]
          refine ⟨fun _ => ?_, fun e => absurd rfl e⟩
          refine wp_some.mpr ⟨?_, hF⟩
          have : srt B m = some i := ff_some.mpr ⟨hj, by unfold alr; rw [en, decide_eq_true_eq]; omega, hno⟩
          rw [this]; rfl
        · rw [wp_ite]
          refine ⟨fun e => absurd (nI_inj (by omega) (by decide) e) e0, fun _ => ?_⟩
          rw [wp_ite]
          refine ⟨fun _ => ?_, fun e => absurd (nI_pos' (by omega)) e⟩
          have hno' : ∀ d, d < i + 1 → alr (stn B d) = false := fun d hd => by
            rcases Nat.lt_succ_iff_lt_or_eq.mp hd with g | g
            · exact hno d g
            · subst g; unfold alr; rw [en, decide_eq_false_iff_not]; omega
          rw [wp_ite]
          refine ⟨fun e => ?_, fun e => ?_⟩
          · have e := (lim_le (by omega) (by omega)).mp e
            exact wp_bnd.mpr (wp_some.mpr ⟨nI_1 i, ⟨i, hC2, hH2, fun e => by omega⟩, hF, hG, hno'⟩)
          · rw [wp_obd]
            refine (c_goStep hC2 hH2 (WF_stn hW i) (by omega)).mono ?_
            rintro h2 ⟨g1, g2, g3⟩
            refine wp_bnd.mpr (wp_some.mpr ⟨nI_1 i, ⟨i + 1, g1, g2, fun e => rfl⟩, hF.tr g3.o, fun c hc => ?_, hno'⟩)
            refine (g3 6 3 o c (by simp)).trans ?_
            exact hG c hc
    · rintro ⟨x, h'⟩ ⟨hx, ⟨i, hC2, hH2, hi⟩, hF, hG, hno⟩
      dsimp only at hx hC2 hH2 hF hG
      subst hx
      rw [wp_ite]
      refine ⟨fun e => ?_, fun e => absurd ((lim_lt (by omega) (by omega)).mpr (Nat.le_refl _)) e⟩
      exact wp_some.mpr ⟨ff_none.mpr hno, hF⟩
    · intro z hz
      cases z with
      | inl r => exact wp_some.mpr hz
      | inr r => exact wp_some.mpr ⟨by rw [hz.1]; rfl, hz.2⟩
theorem m_sorted (hM : MT g B) (hW : WF S B) (hS : S + 41 < 100000) : Ok (f_X10_sortedBehind g) (fun q => q.1 = on (-4) (srt B 41) ∧ FrM g q.2) := by
  have hn := hW.2.1
  unfold f_X10_sortedBehind
  rw [wp_obd]
  refine (ok_up (K := Sum.elim (fun q => q.1 = on (-4) (srt B 41) ∧ FrM g q.2) (fun g' => srt B 41 = none ∧ FrM g g')) 41 (fun n a => a.1 = nI n ∧ MT a.2 (stn B n) ∧ FrM g a.2 ∧ ∀ i, i < n → alr (stn B i) = false) (by omega) ?_ ?_ _ ⟨rfl, hM, FrM.rf, fun i hi => by omega⟩).mono ?_
  · rintro n ⟨x, g1⟩ hj ⟨hx, hM2, hF, hno⟩
    dsimp only at hx hM2 hF
    subst hx
    have en : stn B n 1 0 = B 1 0 := stn_f (by decide) (by decide) (by decide)
    have e1 : g1 25 0 0 8 = nI (B 1 0) := by rw [hM2.2.1, en]
    have hle := cnt_le (p := rgt (stn B n)) (n := B 1 0)
    simp (disch := omega) only [wp_some, wp_obd, wp_ob2, wp_bnd, wp_gd, wp_ite, wp_true, wp_ff, ↓l_n1, ↓l_n2, ↓l_n3, ↓l_n4, ↓l_n10, ↓l_n20, l_0, l_1, l_2, l_3, l_4, l_5, l_6, l_7, l_8, l_9, l_10, l_13, l_14, l_15, l_16, l_20, l_21, l_24, l_27, l_28, l_30, l_31, l_32, l_35, l_36, l_39, l_40, l_41, l_43, l_44, l_45, l_46, l_47, l_48, l_49, l_56, l_57, l_59, l_60, l_79, l_97, l_122, l_160, l_237, l_255, l_320, l_999, l_1000, nI_add, pk_mul, nI_eq, nI_leI, nI_ltI, nI_clamp, inb_nI_iff, e_within, e_in32, e_asNumber, e_flag, decide_eq_true_eq, Sum.elim_inl, Sum.elim_inr, true_implies, not_true_eq_false, not_false_eq_true, false_implies, and_true, true_and, nI_nn, nn_nI, nn_nn, ↓reduceIte, if_true, if_false, Nat.le_refl, implies_true, Nat.lt_irrefl, and_self_left, m_rightMany hM2 (WF_stn hW n), en, e1]
    refine ⟨fun e => by omega, fun _ => ⟨fun e => ?_, fun e => ?_⟩⟩
    · refine ⟨?_, hF⟩
      have : srt B 41 = some n := ff_some.mpr ⟨hj, by unfold alr; rw [en, decide_eq_true_eq]; omega, hno⟩
      rw [this]; rfl
    · refine (m_steps hM2 (WF_stn hW n) (by omega)).mono ?_
      rintro g2 ⟨h1, h2⟩
      refine ⟨h1, hF.tr h2, fun d hd => ?_⟩
      rcases Nat.lt_succ_iff_lt_or_eq.mp hd with g | g
      · exact hno d g
      · subst g; unfold alr; rw [en, decide_eq_false_iff_not]; omega
  · rintro ⟨x, g1⟩ ⟨hx, hM2, hF, hno⟩
    dsimp only at hx hM2 hF
    subst hx
    simp (disch := omega) only [wp_some, wp_obd, wp_ob2, wp_bnd, wp_gd, wp_ite, wp_true, wp_ff, ↓l_n1, ↓l_n2, ↓l_n3, ↓l_n4, ↓l_n10, ↓l_n20, l_0, l_1, l_2, l_3, l_4, l_5, l_6, l_7, l_8, l_9, l_10, l_13, l_14, l_15, l_16, l_20, l_21, l_24, l_27, l_28, l_30, l_31, l_32, l_35, l_36, l_39, l_40, l_41, l_43, l_44, l_45, l_46, l_47, l_48, l_49, l_56, l_57, l_59, l_60, l_79, l_97, l_122, l_160, l_237, l_255, l_320, l_999, l_1000, nI_add, pk_mul, nI_eq, nI_leI, nI_ltI, nI_clamp, inb_nI_iff, e_within, e_in32, e_asNumber, e_flag, decide_eq_true_eq, Sum.elim_inl, Sum.elim_inr, true_implies, not_true_eq_false, not_false_eq_true, false_implies, and_true, true_and, nI_nn, nn_nI, nn_nn, ↓reduceIte, if_true, if_false, Nat.le_refl, implies_true, Nat.lt_irrefl, and_self_left]
    exact ⟨fun _ => ⟨ff_none.mpr hno, hF⟩, fun e => by omega⟩
  · intro z hz
    cases z with
    | inl r => exact wp_some.mpr hz
    | inr r => exact wp_some.mpr ⟨by rw [hz.1]; rfl, hz.2⟩
end Cls
