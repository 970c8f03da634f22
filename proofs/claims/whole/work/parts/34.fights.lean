-- all act, by their order
def acts (B : Bs) : Nat → Bs
  | 0 => B
  | i + 1 => act (acts B i) (B 8 i)
theorem act_f {B : Bs} {k f i : Nat} (h1 : f ≠ 11) (h2 : f ≠ 15) : act B k f i = B f i := by
  unfold act
  cases hd B k with
  | some c => dsimp only; split <;> simp [ub, h1, h2]
  | none => dsimp only; cases lyf B k <;> simp [ub, h1, h2]
theorem acts_f {B : Bs} {n f i : Nat} (h1 : f ≠ 11) (h2 : f ≠ 15) : acts B n f i = B f i := by
  induction n with
  | zero => rfl
  | succ n ih => show act (acts B n) (B 8 n) f i = _; rw [act_f h1 h2, ih]
theorem WF_acts {B : Bs} {S : Nat} (hW : WF S B) : ∀ n, n ≤ B 6 0 → WF S (acts B n)
  | 0, _ => hW
  | n + 1, h => by
    refine WF_act (WF_acts hW n (by omega)) ?_
    rw [acts_f (by decide) (by decide)]
    exact hW.2.2.2.2.2.2.2.2.1 n (by omega)
/-- is beaten by crab u -/
def bt (B : Bs) (k u : Nat) : Bool := u != k && (B 15 u == B 15 k && ((hd B u).isSome && decide (B 12 k ≤ B 12 u)))
def lo (B : Bs) (k : Nat) : Bool := (hd B k).isSome && (ff (fun i => bt B k (B 8 i)) (B 6 0)).isSome
/-- crab k is among the first i of the order -/
def am (B : Bs) (i k : Nat) : Bool := (ff (fun j => B 8 j == k) i).isSome
/-- those of Z who lose have dropped -/
def dr (Z : Nat → Bool) (B : Bs) : Bs := fun f c => if f = 11 ∧ c < B 1 0 ∧ 10 ≤ B 11 c ∧ B 11 c < 20 ∧ (Z (B 11 c - 10) && lo B (B 11 c - 10)) = true then B 15 (B 11 c - 10) else B f c
def fights (B : Bs) : Bs := dr (am B (B 6 0)) B
def tid (B : Bs) : Bs := fun f c => if f = 5 ∧ c = 0 then B 5 0 + 1 else if f = 11 ∧ c < B 1 0 ∧ 0 < B 3 0 ∧ (B 5 0 + 1) % B 3 0 = 0 ∧ B 11 c < B 4 0 then 30 else B f c
def stp (B : Bs) : Bs := tid (fights (acts B (B 6 0)))
theorem dr_f {Z : Nat → Bool} {B : Bs} {f i : Nat} (h : f ≠ 11) : dr Z B f i = B f i := by simp [dr, h]
theorem tid_f {B : Bs} {f i : Nat} (h1 : f ≠ 11) (h2 : f ≠ 5) : tid B f i = B f i := by simp [tid, h1, h2]
theorem stp_f {B : Bs} {f i : Nat} (h1 : f ≠ 11) (h2 : f ≠ 5) (h3 : f ≠ 15) : stp B f i = B f i := by
  unfold stp fights
  rw [tid_f h1 h2, dr_f h1, acts_f h1 h3]
theorem ff_isSome {p : Nat → Bool} {n : Nat} : (ff p n).isSome = true ↔ ∃ c, c < n ∧ p c = true := by
  cases h : ff p n with
  | none =>
    simp only [Option.isSome_none, Bool.false_eq_true, false_iff]
    rintro ⟨c, h1, h2⟩
    rw [ff_none.mp h c h1] at h2
    cases h2
  | some c =>
    obtain ⟨h1, h2, -⟩ := ff_some.mp h
    simp only [Option.isSome_some, true_iff]
    exact ⟨c, h1, h2⟩
theorem am_iff {B : Bs} {i k : Nat} : am B i k = true ↔ ∃ j, j < i ∧ B 8 j = k := by
  unfold am
  rw [ff_isSome]
  simp
theorem am_s {B : Bs} {i k : Nat} : am B (i + 1) k = (am B i k || B 8 i == k) := by
  rw [Bool.eq_iff_iff, am_iff, Bool.or_eq_true, am_iff, beq_iff_eq]
  constructor
  · rintro ⟨j, h1, h2⟩
    rcases Nat.lt_succ_iff_lt_or_eq.mp h1 with h | h
    · exact Or.inl ⟨j, h, h2⟩
    · subst h; exact Or.inr h2
  · rintro (⟨j, h1, h2⟩ | h)
    · exact ⟨j, by omega, h2⟩
    · exact ⟨i, by omega, h⟩
theorem lo_hd {B : Bs} {k : Nat} (h : lo B k = true) : ∃ c, hd B k = some c := by
  unfold lo at h
  rw [Bool.and_eq_true] at h
  cases hz : hd B k with
  | none => rw [hz] at h; simp at h
  | some c => exact ⟨c, rfl⟩
/-- the next one drops -/
theorem dr_add {Z Z' : Nat → Bool} {B : Bs} {S k c : Nat} (hW : WF S B) (hk : k < B 2 0) (hc : hd B k = some c) (hl : lo B k = true) (hZ : ∀ j, Z' j = (Z j || k == j)) : ub (dr Z B) 11 c (B 15 k) = dr Z' B := by
  obtain ⟨c1, c2⟩ := hd_some hc
  have hm := hW.2.2.1
  funext f d
  by_cases hf : f = 11
  · subst hf
    by_cases hd : d = c
    · subst hd
      have e : B 11 d - 10 = k := by omega
      have : Z' k = true := by rw [hZ]; simp
      simp [ub, dr, c1, e, hl, this, c2]
      omega
    · simp only [ub, hd, and_false, if_false, dr]
      by_cases h1 : d < B 1 0 ∧ 10 ≤ B 11 d ∧ B 11 d < 20
      · obtain ⟨h1, h2, h3⟩ := h1
        have hne : ¬ k = B 11 d - 10 := fun e => hd (hW.2.2.2.2.2.2.2.2.2.2.2.1 d c h1 c1 h2 h3 (by omega))
        have : Z' (B 11 d - 10) = Z (B 11 d - 10) := by rw [hZ]; simp [hne]
        rw [this]
      · have n1 : ∀ q : Prop, ¬ (True ∧ d < B 1 0 ∧ 10 ≤ B 11 d ∧ B 11 d < 20 ∧ q) := fun q h => h1 ⟨h.2.1, h.2.2.1, h.2.2.2.1⟩
        rw [if_neg (n1 _), if_neg (n1 _)]
  · simp [ub, dr, hf]
theorem dr_same {Z Z' : Nat → Bool} {B : Bs} {k : Nat} (hl : lo B k = false) (hZ : ∀ j, Z' j = (Z j || k == j)) : dr Z B = dr Z' B := by
  funext f d
  unfold dr
  by_cases e : k = B 11 d - 10
  · rw [← e, hl]; simp
  · have : Z' (B 11 d - 10) = Z (B 11 d - 10) := by rw [hZ]; simp [e]
    rw [this]
theorem dr_congr {Z Z' : Nat → Bool} {B : Bs} {S : Nat} (hW : WF S B) (h : ∀ k, k < B 2 0 → lo B k = true → Z k = Z' k) : dr Z B = dr Z' B := by
  funext f d
  unfold dr
  by_cases h1 : d < B 1 0 ∧ 10 ≤ B 11 d ∧ B 11 d < 20
  · obtain ⟨h1, h2, h3⟩ := h1
    have hk : B 11 d - 10 < B 2 0 := by
      rcases (hW.2.2.2.2.2.2.2.2.2.2.1 d h1).2.2 with g | g | g | g <;> omega
    by_cases hl : lo B (B 11 d - 10) = true
    · rw [h _ hk hl]
    · simp [hl]
  · have n1 : ∀ q : Prop, ¬ (f = 11 ∧ d < B 1 0 ∧ 10 ≤ B 11 d ∧ B 11 d < 20 ∧ q) := fun q h => h1 ⟨h.2.1, h.2.2.1, h.2.2.2.1⟩
    rw [if_neg (n1 _), if_neg (n1 _)]
theorem dr_none {B : Bs} {Z : Nat → Bool} (h : ∀ k, Z k = false) : dr Z B = B := by
  funext f d
  unfold dr
  rw [if_neg]
  rintro ⟨-, -, -, -, h5⟩
  rw [h] at h5
  simp at h5
theorem hd_dr {Z : Nat → Bool} {B : Bs} {S k : Nat} (hW : WF S B) (hk : k < B 2 0) : hd (dr Z B) k = if (Z k && lo B k) = true then none else hd B k := by
  have hm := hW.2.2.1
  have e1 : dr Z B 1 0 = B 1 0 := dr_f (by decide)
  have pl : ∀ d, d < B 1 0 → 10 ≤ B 11 d → B 11 d < 20 → B 15 (B 11 d - 10) < 8 := fun d h1 h2 h3 => by
    have hk2 : B 11 d - 10 < B 2 0 := by
      rcases (hW.2.2.2.2.2.2.2.2.2.2.1 d h1).2.2 with g | g | g | g <;> omega
    have := (hW.2.2.2.2.2.2.2.2.2.2.2.2 _ hk2).2.2.2
    have := hW.1
    omega
  by_cases hz : (Z k && lo B k) = true
  · rw [if_pos hz]
    unfold hd
    rw [e1]
    refine ff_none.mpr (fun d hd => ?_)
    rw [beq_eq_false_iff_ne]
    intro he
    unfold dr at he
    by_cases hc : 11 = 11 ∧ d < B 1 0 ∧ 10 ≤ B 11 d ∧ B 11 d < 20 ∧ (Z (B 11 d - 10) && lo B (B 11 d - 10)) = true
    · rw [if_pos hc] at he
      have := pl d hd hc.2.2.1 hc.2.2.2.1
      omega
    · rw [if_neg hc] at he
      exact hc ⟨rfl, hd, by omega, by omega, by rw [show B 11 d - 10 = k by omega]; exact hz⟩
  · rw [if_neg hz]
    unfold hd
    rw [e1]
    apply ff_congr
    intro d hd
    unfold dr
    by_cases hc : 11 = 11 ∧ d < B 1 0 ∧ 10 ≤ B 11 d ∧ B 11 d < 20 ∧ (Z (B 11 d - 10) && lo B (B 11 d - 10)) = true
    · rw [if_pos hc]
      have h1 := pl d hd hc.2.2.1 hc.2.2.2.1
      have h2 : ¬ B 11 d = 10 + k := fun e => hz (by rw [show k = B 11 d - 10 by omega]; exact hc.2.2.2.2)
      rw [beq_eq_false_iff_ne.mpr h2, beq_eq_false_iff_ne.mpr (by omega)]
    · rw [if_neg hc]
theorem WF_dr {Z : Nat → Bool} {B : Bs} {S : Nat} (hW : WF S B) : WF S (dr Z B) := by
  have hW' := hW
  obtain ⟨hW0, hW1, hW2, hW3, hW4, hW5, hW6, hW7, hW8, hW9, hW10, hW11, hW12⟩ := hW
  have ef : ∀ f i, f ≠ 11 → dr Z B f i = B f i := fun f i h => dr_f h
  have hat : ∀ c, c < B 1 0 → (dr Z B 11 c = B 11 c) ∨ dr Z B 11 c < 8 := by
    intro c hc
    unfold dr
    by_cases h : 11 = 11 ∧ c < B 1 0 ∧ 10 ≤ B 11 c ∧ B 11 c < 20 ∧ (Z (B 11 c - 10) && lo B (B 11 c - 10)) = true
    · rw [if_pos h]
      have hk2 : B 11 c - 10 < B 2 0 := by
        rcases (hW10 c hc).2.2 with g | g | g | g <;> omega
      have := (hW12 _ hk2).2.2.2
      exact Or.inr (by omega)
    · rw [if_neg h]; exact Or.inl rfl
  unfold WF
  simp only [ef 0 _ (by decide), ef 1 _ (by decide), ef 2 _ (by decide), ef 3 _ (by decide), ef 4 _ (by decide), ef 5 _ (by decide), ef 6 _ (by decide), ef 7 _ (by decide), ef 8 _ (by decide), ef 9 _ (by decide), ef 10 _ (by decide), ef 12 _ (by decide), ef 13 _ (by decide), ef 14 _ (by decide), ef 15 _ (by decide)]
  refine ⟨hW0, hW1, hW2, hW3, hW4, hW5, hW6, hW7, hW8, hW9, fun c hc => ⟨(hW10 c hc).1, (hW10 c hc).2.1, ?_⟩, fun c d hc hd h1 h2 h3 => ?_, hW12⟩
  · unfold wok
    rw [ef 2 _ (by decide)]
    rcases hat c hc with h | h
    · rw [h]; exact (hW10 c hc).2.2
    · exact Or.inl h
  · rcases hat c hc with h | h
    · rcases hat d hd with h' | h'
      · exact hW11 c d hc hd (by omega) (by omega) (by omega)
      · omega
    · omega
theorem WF_tid {B : Bs} {S : Nat} (hW : WF S B) : WF (S + 1) (tid B) := by
  obtain ⟨hW0, hW1, hW2, hW3, hW4, hW5, hW6, hW7, hW8, hW9, hW10, hW11, hW12⟩ := hW
  have ef : ∀ f i, f ≠ 11 → f ≠ 5 → tid B f i = B f i := fun f i h h' => tid_f h h'
  have e5 : tid B 5 0 = B 5 0 + 1 := by simp [tid]
  have hat : ∀ c, c < B 1 0 → (tid B 11 c = B 11 c) ∨ tid B 11 c = 30 := by
    intro c hc
    by_cases h : 0 < B 3 0 ∧ (B 5 0 + 1) % B 3 0 = 0 ∧ B 11 c < B 4 0
    · right; simp [tid, hc, h]
    · left; simp only [tid]; rw [if_neg (by simp), if_neg (fun hh => h hh.2.2)]
  unfold WF
  simp only [ef 0 _ (by decide) (by decide), ef 1 _ (by decide) (by decide), ef 2 _ (by decide) (by decide), ef 3 _ (by decide) (by decide), ef 4 _ (by decide) (by decide), e5, ef 6 _ (by decide) (by decide), ef 7 _ (by decide) (by decide), ef 8 _ (by decide) (by decide), ef 9 _ (by decide) (by decide), ef 10 _ (by decide) (by decide), ef 12 _ (by decide) (by decide), ef 13 _ (by decide) (by decide), ef 14 _ (by decide) (by decide), ef 15 _ (by decide) (by decide)]
  refine ⟨hW0, hW1, hW2, hW3, hW4, by omega, hW6, hW7, hW8, hW9, fun c hc => ⟨(hW10 c hc).1, (hW10 c hc).2.1, ?_⟩, fun c d hc hd h1 h2 h3 => ?_, hW12⟩
  · unfold wok
    rw [ef 2 _ (by decide) (by decide)]
    rcases hat c hc with h | h
    · rw [h]; exact (hW10 c hc).2.2
    · exact Or.inr (Or.inr (Or.inr h))
  · rcases hat c hc with h | h
    · rcases hat d hd with h' | h'
      · exact hW11 c d hc hd (by omega) (by omega) (by omega)
      · omega
    · omega
theorem WF_stp {B : Bs} {S : Nat} (hW : WF S B) : WF (S + 1) (stp B) := WF_tid (WF_dr (WF_acts hW _ (Nat.le_refl _)))
