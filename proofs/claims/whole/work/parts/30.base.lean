-- layer 2: plain functions. Rules of Ok, goal first
theorem ok_some {α : Type} {a : α} {K : α → Prop} (h : K a) : Ok (some a) K := ⟨a, rfl, h⟩
theorem ok_obd {α β : Type} {x : Option α} {f : α → Option β} {K : β → Prop} (h : Ok x (fun a => Ok (f a) K)) : Ok (obd x f) K := by
  obtain ⟨a, h1, h2⟩ := h
  rw [h1]
  exact h2
theorem ok_ob2 {α β γ : Type} {x : Option (α × β)} {f : α → β → Option γ} {K : γ → Prop} (h : Ok x (fun a => Ok (f a.1 a.2) K)) : Ok (ob2 x f) K := by
  obtain ⟨a, h1, h2⟩ := h
  rw [h1]
  exact h2
theorem ok_bnd {α β : Type} {e : α} {f : α → Option β} {K : β → Prop} (h : Ok (f e) K) : Ok (bnd e f) K := h
theorem ok_ite {β : Type} {c : Prop} {i : Decidable c} {x y : Option β} {K : β → Prop} (h1 : c → Ok x K) (h2 : ¬ c → Ok y K) : Ok (@ite _ c i x y) K := by
  by_cases hc : c
  · rw [if_pos hc]; exact h1 hc
  · rw [if_neg hc]; exact h2 hc
theorem ok_eq {α : Type} {x : Option α} {a : α} {K : α → Prop} (h : x = some a) (hk : K a) : Ok x K := ⟨a, h, hk⟩
theorem ok_lp {α β : Type} {f : α → Option (α ⊕ β)} {K : β → Prop} (Inv : Nat → α → Prop) (hs : ∀ i a, Inv i a → Ok (f a) (Sum.elim (fun a' => ∃ j, j < i ∧ Inv j a') K)) : ∀ (n i : Nat) (a : α), i < n → Inv i a → Ok (lp n f a) K := by
  intro n
  induction n with
  | zero => intro i a h; omega
  | succ n ih =>
    intro i a hi hI
    obtain ⟨z, h1, h2⟩ := hs i a hI
    unfold lp
    rw [h1]
    cases z with
    | inl a' =>
      obtain ⟨j, hj, hJ⟩ := h2
      exact ih j a' (by omega) hJ
    | inr e => exact ⟨e, rfl, h2⟩
/-- a loop that counts up to N -/
theorem ok_up {α β : Type} {f : α → Option (α ⊕ β)} {K : β → Prop} (N : Nat) (Inv : Nat → α → Prop) (hN : N < 399) (hs : ∀ j a, j < N → Inv j a → Ok (f a) (Sum.elim (Inv (j + 1)) K)) (he : ∀ a, Inv N a → Ok (f a) (Sum.elim (fun _ => False) K)) (a : α) (h : Inv 0 a) : Ok (lp fu f a) K := by
  refine ok_lp (fun i a => ∃ j, j ≤ N ∧ i = N - j ∧ Inv j a) ?_ fu N a (by unfold fu; omega) ⟨0, Nat.zero_le _, rfl, h⟩
  rintro i a ⟨j, hj, rfl, hI⟩
  by_cases hjN : j < N
  · refine (hs j a hjN hI).mono ?_
    intro z hz
    cases z with
    | inl a' => exact ⟨N - (j + 1), by omega, j + 1, by omega, rfl, hz⟩
    | inr e => exact hz
  · have : j = N := by omega
    subst this
    refine (he a hI).mono ?_
    intro z hz
    cases z with
    | inl a' => exact hz.elim
    | inr e => exact hz
/-- a loop that counts down to 0 -/
theorem ok_down {α β : Type} {f : α → Option (α ⊕ β)} {K : β → Prop} (N : Nat) (Inv : Nat → α → Prop) (hN : N < 399) (hs : ∀ j a, j < N → Inv (j + 1) a → Ok (f a) (Sum.elim (Inv j) K)) (he : ∀ a, Inv 0 a → Ok (f a) (Sum.elim (fun _ => False) K)) (a : α) (h : Inv N a) : Ok (lp fu f a) K := by
  refine ok_lp (fun i a => i ≤ N ∧ Inv i a) ?_ fu N a (by unfold fu; omega) ⟨Nat.le_refl _, h⟩
  rintro i a ⟨hi, hI⟩
  cases i with
  | zero =>
    refine (he a hI).mono ?_
    intro z hz
    cases z with
    | inl a' => exact hz.elim
    | inr e => exact hz
  | succ i =>
    refine (hs i a (by omega) hI).mono ?_
    intro z hz
    cases z with
    | inl a' => exact ⟨i, by omega, by omega, hz⟩
    | inr e => exact hz
-- numbers
theorem nI_inj {a b : Nat} (ha : a < 2 ^ 31) (hb : b < 2 ^ 31) (h : nI a = nI b) : a = b := (nI_eq ha hb).mp h
theorem nI_neg1 {a : Nat} (ha : a < 2 ^ 31) : ¬ nI a = -1 := fun h => by
  have := congrArg Int32.toInt h
  rw [nI_toInt ha] at this
  have h2 : (-1 : Int32).toInt = -1 := by decide
  omega
theorem nI_neg4 {a : Nat} (ha : a < 2 ^ 31) : ¬ nI a = -4 := fun h => by
  have := congrArg Int32.toInt h
  rw [nI_toInt ha] at this
  have h2 : (-4 : Int32).toInt = -4 := by decide
  omega
theorem nI_sub1 (a : Nat) : nI (a + 1) - 1 = nI a := nI_pred a
theorem nI_m1 (a : Nat) : nI (a + 1) + (-1) = nI a := pk_m1 a
theorem inb_nI {c N : Nat} (h : c < N) (hN : N < 2 ^ 31) : inb (nI c) N := vp_in_nI h hN
theorem inb_of {x : Int32} {n : Nat} (h : inb x n) (hn : n < 2 ^ 31) : ∃ j : Nat, j < n ∧ x = nI j := vp_in_of h hn
theorem toInt_sub1 {a : Nat} (ha : a < 2 ^ 30) : (nI a - 1).toInt = (a : Int) - 1 := by
  have := pk_sub_toInt (a := a) (b := 1) ha (by decide)
  exact this
theorem le_toInt {a b : Int32} : a ≤ b ↔ a.toInt ≤ b.toInt := Int32.le_iff_toInt_le
theorem lt_toInt {a b : Int32} : a < b ↔ a.toInt < b.toInt := Int32.lt_iff_toInt_lt
/-- 'within 0 and n - 1' is 'a place of a row of n' -/
theorem win_inb {x : Int32} {n : Nat} (hn : n < 2 ^ 30) : (0 ≤ x ∧ x ≤ nI n - 1) ↔ inb x n := by
  have h1 := (vp_in_iff (x := x) (n := n))
  rw [show inb x n = vp_in x n from rfl, h1, le_toInt, le_toInt, toInt_sub1 hn]
  have : (0 : Int32).toInt = 0 := by decide
  rw [this]
  constructor
  · rintro ⟨a, b⟩; exact ⟨a, by omega⟩
  · rintro ⟨a, b⟩; exact ⟨a, by omega⟩
theorem e_within (v a b : Int32) (h : Mem) : f_X9_within v a b h = some (decide (a ≤ v ∧ v ≤ b)) := by
  unfold f_X9_within
  by_cases h1 : v < a
  · rw [if_pos h1]; simp [Int32.not_le.mpr h1]
  · rw [if_neg h1]
    by_cases h2 : b < v
    · rw [if_pos h2]; simp [Int32.not_le.mpr h2]
    · rw [if_neg h2]; simp [Int32.not_lt.mp h1, Int32.not_lt.mp h2]
theorem lgc_lt (x y : Int64) : lg_cmp x y < 0 ↔ x < y := by
  unfold lg_cmp
  by_cases h1 : x > y
  · rw [if_pos h1]
    refine ⟨fun h => absurd h (by decide), fun h => ?_⟩
    have h1 : y < x := h1
    rw [Int64.lt_iff_toInt_lt] at h h1
    omega
  · rw [if_neg h1]
    by_cases h2 : x = y
    · rw [if_pos h2]
      refine ⟨fun h => absurd h (by decide), fun h => ?_⟩
      subst h2
      rw [Int64.lt_iff_toInt_lt] at h
      omega
    · rw [if_neg h2]
      refine ⟨fun _ => ?_, fun _ => by decide⟩
      have h1 : ¬ y < x := h1
      rw [Int64.lt_iff_toInt_lt] at h1 ⊢
      have h3 : ¬ x.toInt = y.toInt := fun h => h2 (Int64.toInt_inj.mp h)
      omega
theorem lgc_gt (x y : Int64) : 0 < lg_cmp x y ↔ y < x := by
  unfold lg_cmp
  by_cases h1 : x > y
  · rw [if_pos h1]
    exact ⟨fun _ => h1, fun _ => by decide⟩
  · rw [if_neg h1]
    refine ⟨fun h => ?_, fun h => absurd h h1⟩
    by_cases h2 : x = y
    · rw [if_pos h2] at h; exact absurd h (by decide)
    · rw [if_neg h2] at h; exact absurd h (by decide)
theorem e_in (v a b : Int64) (h : Mem) : f_X10_in v a b h = some (decide (a ≤ v ∧ v ≤ b)) := by
  unfold f_X10_in
  by_cases h1 : v < a
  · rw [if_pos ((lgc_lt _ _).mpr h1)]; simp [Int64.not_le.mpr h1]
  · rw [if_neg (fun h => h1 ((lgc_lt _ _).mp h))]
    by_cases h2 : b < v
    · rw [if_pos ((lgc_gt _ _).mpr h2)]; simp [Int64.not_le.mpr h2]
    · rw [if_neg (fun h => h2 ((lgc_gt _ _).mp h))]; simp [Int64.not_lt.mp h1, Int64.not_lt.mp h2]
theorem wide_le (a b : Int32) : a.toInt64 ≤ b.toInt64 ↔ a ≤ b := by
  rw [Int64.le_iff_toInt_le, Int32.le_iff_toInt_le, Int32.toInt_toInt64, Int32.toInt_toInt64]
theorem e_in32 (v a b : Int32) (h : Mem) : f_X10_in v.toInt64 a.toInt64 b.toInt64 h = some (decide (a ≤ v ∧ v ≤ b)) := by
  rw [e_in]
  simp only [wide_le]
theorem e_asNumber (b : Bool) (h : Mem) : f_X9_asNumber b h = some (b2i b) := by
  unfold f_X9_asNumber b2i
  split <;> rfl
theorem e_flag (b : Bool) (h : Mem) : f_X10_flag b h = some (b2i b) := by
  unfold f_X10_flag b2i
  split <;> rfl
theorem e_i2b (b : Bool) : i2b (b2i b) = some b := by cases b <;> decide
theorem b2i_0 {b : Bool} : b2i b = 0 ↔ b = false := by cases b <;> decide
/-- the first place below n where p holds -/
def ff (p : Nat → Bool) : Nat → Option Nat
  | 0 => none
  | n + 1 => match ff p n with
    | some c => some c
    | none => if p n = true then some n else none
theorem ff_none {p : Nat → Bool} : ∀ {n : Nat}, ff p n = none ↔ ∀ c, c < n → p c = false
  | 0 => by simp [ff]
  | n + 1 => by
    unfold ff
    cases h : ff p n with
    | some c =>
      simp only [reduceCtorEq, false_iff]
      intro hall
      have : ff p n = none := ff_none.mpr (fun c hc => hall c (by omega))
      rw [h] at this
      cases this
    | none =>
      have hn := ff_none.mp h
      by_cases hp : p n = true
      · simp only [hp, if_true, reduceCtorEq, false_iff]
        intro hall
        rw [hall n (by omega)] at hp
        cases hp
      · simp only [hp]
        simp only [Bool.false_eq_true, if_false, true_iff]
        intro c hc
        rcases Nat.lt_succ_iff_lt_or_eq.mp hc with h1 | h1
        · exact hn c h1
        · subst h1; simpa using hp
theorem ff_some {p : Nat → Bool} : ∀ {n c : Nat}, ff p n = some c ↔ c < n ∧ p c = true ∧ ∀ d, d < c → p d = false
  | 0, c => by simp [ff]
  | n + 1, c => by
    unfold ff
    cases h : ff p n with
    | some c' =>
      obtain ⟨h1, h2, h3⟩ := ff_some.mp h
      simp only [Option.some.injEq]
      constructor
      · rintro rfl; exact ⟨by omega, h2, h3⟩
      · rintro ⟨g1, g2, g3⟩
        rcases Nat.lt_trichotomy c c' with g | g | g
        · rw [h3 c g] at g2; cases g2
        · exact g.symm
        · rw [g3 c' g] at h2; cases h2
    | none =>
      have hn := ff_none.mp h
      by_cases hp : p n = true
      · simp only [hp, if_true, Option.some.injEq]
        constructor
        · rintro rfl; exact ⟨by omega, hp, hn⟩
        · rintro ⟨g1, g2, g3⟩
          rcases Nat.lt_succ_iff_lt_or_eq.mp g1 with g | g
          · rw [hn c g] at g2; cases g2
          · exact g.symm
      · simp only [hp]
        simp only [Bool.false_eq_true, if_false, reduceCtorEq, false_iff]
        rintro ⟨g1, g2, g3⟩
        rcases Nat.lt_succ_iff_lt_or_eq.mp g1 with g | g
        · rw [hn c g] at g2; cases g2
        · subst g; exact hp g2
theorem ff_congr {p q : Nat → Bool} {n : Nat} (h : ∀ c, c < n → p c = q c) : ff p n = ff q n := by
  induction n with
  | zero => rfl
  | succ n ih =>
    unfold ff
    rw [ih (fun c hc => h c (by omega)), h n (by omega)]
/-- a place, or what stands for none -/
def on (v : Int32) (o : Option Nat) : Int32 := match o with
  | some c => nI c
  | none => v
