-- what a beach is, in numbers: field, index. 0 places, 1 coins, 2 crabs, 3 tide, 4 wet, 5 step, 6 acting, 7 holes, 8 order, 9 size, 10 false, 11 where, 12 claw, 13 shell, 14 hand, 15 place
abbrev Bs : Type := Nat → Nat → Nat
def ub (B : Bs) (f i v : Nat) : Bs := fun f' i' => if f' = f ∧ i' = i then v else B f' i'
/-- the coin that crab k holds -/
def hd (B : Bs) (k : Nat) : Option Nat := ff (fun c => B 11 c == 10 + k) (B 1 0)
def fit (B : Bs) (c k : Nat) : Bool := B 10 c == 0 && (B 9 c == B 12 k || B 9 c + 1 == B 12 k)
def lyf (B : Bs) (k : Nat) : Option Nat := ff (fun c => B 11 c == B 15 k && fit B c k) (B 1 0)
def wlk (B : Bs) (k : Nat) : Nat := if B 14 k = 0 then (if B 15 k = 0 then B 0 0 - 1 else B 15 k - 1) else (if B 15 k + 1 = B 0 0 then 0 else B 15 k + 1)
def act (B : Bs) (k : Nat) : Bs := match hd B k with
  | some c => if B 13 k ≤ B 7 (B 15 k) then ub B 11 c (20 + B 15 k) else ub B 15 k (wlk B k)
  | none => match lyf B k with
    | some c => ub B 11 c (10 + k)
    | none => ub B 15 k (wlk B k)
def wok (B : Bs) (v : Nat) : Prop := v < 8 ∨ (10 ≤ v ∧ v < 10 + B 2 0) ∨ (20 ≤ v ∧ v < 28) ∨ v = 30
def WF (S : Nat) (B : Bs) : Prop :=
  (2 ≤ B 0 0 ∧ B 0 0 ≤ 8) ∧ B 1 0 ≤ 6 ∧ B 2 0 ≤ 4 ∧ B 3 0 ≤ 9 ∧ B 4 0 ≤ 8 ∧ B 5 0 ≤ S ∧ B 6 0 ≤ 4 ∧ (∀ x, x < 8 → B 7 x ≤ 9) ∧ (∀ i, i < B 6 0 → B 8 i < B 2 0) ∧ (∀ i j, i < B 6 0 → j < B 6 0 → B 8 i = B 8 j → i = j) ∧
  (∀ c, c < B 1 0 → (1 ≤ B 9 c ∧ B 9 c ≤ 9) ∧ B 10 c ≤ 1 ∧ wok B (B 11 c)) ∧ (∀ c d, c < B 1 0 → d < B 1 0 → 10 ≤ B 11 c → B 11 c < 20 → B 11 c = B 11 d → c = d) ∧
  (∀ k, k < B 2 0 → (1 ≤ B 12 k ∧ B 12 k ≤ 9) ∧ (1 ≤ B 13 k ∧ B 13 k ≤ 9) ∧ B 14 k ≤ 1 ∧ B 15 k < B 0 0)
/-- the class's beach o holds B: all but who holds what, and who holds what -/
def CB0 (h : Mem) (o : Nat) (B : Bs) : Prop :=
  h 1 0 o 0 = nI (B 0 0) ∧ h 1 2 o 0 = nI (B 1 0) ∧ h 1 4 o 0 = nI (B 2 0) ∧ h 1 6 o 0 = nI (B 3 0) ∧ h 1 7 o 0 = nI (B 4 0) ∧ h 1 8 o 0 = nI (B 5 0) ∧ h 1 10 o 0 = nI (B 6 0) ∧ (∀ x, x < 8 → h 2 0 o x = nI (B 7 x)) ∧ (∀ i, i < B 6 0 → h 5 0 o i = nI (B 8 i)) ∧
  (∀ c, c < B 1 0 → h 6 0 o c = nI (B 9 c) ∧ h 6 1 o c = nI (B 10 c) ∧ h 6 2 o c = nI (B 11 c)) ∧
  (∀ k, k < B 2 0 → h 7 0 o k = nI (B 12 k) ∧ h 7 1 o k = nI (B 13 k) ∧ h 7 2 o k = nI (B 14 k) ∧ h 7 3 o k = nI (B 15 k))
def HL (h : Mem) (o : Nat) (B : Bs) : Prop := ∀ k, k < B 2 0 → h 7 4 o k = on (-1) (hd B k)
/-- nothing but beach o has changed -/
def FrB (h h' : Mem) (o : Nat) : Prop := ∀ k j o' i, (o' ≠ o ∨ k = 0 ∨ 7 < k ∨ (k = 6 ∧ j = 3)) → h' k j o' i = h k j o' i
/-- the reference's trial arrays hold B -/
def MT (g : Mem) (B : Bs) : Prop :=
  g 24 2 0 0 = nI (B 0 0) ∧ g 25 0 0 8 = nI (B 1 0) ∧ g 24 3 0 0 = nI (B 2 0) ∧ g 25 0 0 43 = nI (B 3 0) ∧ g 25 0 0 44 = nI (B 4 0) ∧ g 24 27 0 0 = nI (B 5 0) ∧ g 24 26 0 0 = nI (B 6 0) ∧ (∀ x, x < 8 → g 29 0 0 x = nI (B 7 x)) ∧ (∀ i, i < B 6 0 → g 36 0 0 i = nI (B 8 i)) ∧
  (∀ c, c < B 1 0 → g 25 0 0 (9 + c) = nI (B 9 c) ∧ g 30 0 0 c = nI (B 10 c) ∧ g 31 0 0 c = nI (B 11 c)) ∧
  (∀ k, k < B 2 0 → g 32 0 0 k = nI (B 12 k) ∧ g 33 0 0 k = nI (B 13 k) ∧ g 34 0 0 k = nI (B 14 k) ∧ g 35 0 0 k = nI (B 15 k))
theorem Ok.eqv {α : Type} {x : Option α} {v : α} (h : Ok x (fun r => r = v)) : x = some v := by
  obtain ⟨a, h1, rfl⟩ := h
  exact h1
/-- searched from above: the first one of i .. n - 1 -/
def fd (p : Nat → Bool) (i n : Nat) (r v : Int32) : Prop := (r = v ∧ ∀ c, i ≤ c → c < n → p c = false) ∨ ∃ c, i ≤ c ∧ c < n ∧ r = nI c ∧ p c = true ∧ ∀ d, i ≤ d → d < c → p d = false
theorem fd_n {p : Nat → Bool} {n : Nat} {v : Int32} : fd p n n v v := Or.inl ⟨rfl, fun c h1 h2 => by omega⟩
theorem fd_t {p : Nat → Bool} {i n : Nat} {v : Int32} (hi : i < n) (hp : p i = true) : fd p i n (nI i) v := Or.inr ⟨i, Nat.le_refl _, hi, rfl, hp, fun d h1 h2 => by omega⟩
theorem fd_f {p : Nat → Bool} {i n : Nat} {r v : Int32} (hp : p i = false) (h : fd p (i + 1) n r v) : fd p i n r v := by
  rcases h with ⟨h1, h2⟩ | ⟨c, h1, h2, h3, h4, h5⟩
  · refine Or.inl ⟨h1, fun c hc hn => ?_⟩
    by_cases e : c = i
    · rw [e]; exact hp
    · exact h2 c (by omega) hn
  · refine Or.inr ⟨c, by omega, h2, h3, h4, fun d hd hc => ?_⟩
    by_cases e : d = i
    · rw [e]; exact hp
    · exact h5 d (by omega) hc
theorem fd_0 {p : Nat → Bool} {n : Nat} {r v : Int32} (h : fd p 0 n r v) : r = on v (ff p n) := by
  rcases h with ⟨h1, h2⟩ | ⟨c, h1, h2, h3, h4, h5⟩
  · rw [ff_none.mpr (fun c hc => h2 c (Nat.zero_le _) hc)]; exact h1
  · rw [ff_some.mpr ⟨h2, h4, fun d hd => h5 d (Nat.zero_le _) hd⟩]; exact h3
theorem add_m1 (x : Int32) : x + (-1) = x - 1 := (Int32.sub_eq_add_neg x 1).symm
theorem neg1_lt : (-1 : Int32) < 0 := by decide
theorem nI0_sub : nI 0 - 1 = (-1 : Int32) := by decide
theorem nI_ten (k : Nat) : (10 : Int32) + nI k = nI (10 + k) := nI_add 10 k
theorem nI_twenty (k : Nat) : (20 : Int32) + nI k = nI (20 + k) := nI_add 20 k
theorem nI_nine (k : Nat) : (9 : Int32) + nI k = nI (9 + k) := nI_add 9 k
section Mod
variable {g : Mem} {B : Bs} {S : Nat}
theorem wok_lt {v : Nat} (hm : B 2 0 ≤ 4) (h : wok B v) : v ≤ 30 := by
  rcases h with h | h | h | h <;> omega
theorem m_heldBy (hM : MT g B) (hW : WF S B) {k : Nat} (hk : k < 4) : f_X10_heldBy (nI k) g = some (on (-4) (hd B k)) := by
  apply Ok.eqv
  obtain ⟨hM0, hM1, hM2, hM3, hM4, hM5, hM6, hM7, hM8, hM9, hM10⟩ := hM
  obtain ⟨hW0, hW1, hW2, hW3, hW4, hW5, hW6, hW7, hW8, hW9, hW10, hW11, hW12⟩ := hW
  unfold f_X10_heldBy
  apply ok_bnd
  apply ok_obd
  rw [hM1]
  refine ok_down (B 1 0) (fun i a => a.2 = nI i - 1 ∧ fd (fun c => B 11 c == 10 + k) i (B 1 0) a.1 (-4)) (by omega) ?_ ?_ _ ⟨rfl, fd_n⟩
  · rintro j ⟨r, x⟩ hj ⟨hx, hf⟩
    have hx : x = nI j := hx.trans (nI_sub1 j)
    subst hx
    dsimp only
    rw [if_neg (nI_pos (by omega))]
    refine ok_gd (inb_nI (by omega) (by decide)) ?_
    rw [nI_clamp (by omega), (hM9 j hj).2.2, nI_ten]
    have hb := wok_lt hW2 (hW10 j hj).2.2
    refine ok_ite (fun hc => ?_) (fun hc => ?_)
    · have hc := nI_inj (by omega) (by omega) hc
      exact ok_some ⟨add_m1 _, fd_t hj (by simp [hc])⟩
    · exact ok_some ⟨add_m1 _, fd_f (by simp; intro e; exact hc (by rw [e])) hf⟩
  · rintro ⟨r, x⟩ ⟨hx, hf⟩
    dsimp only at hx hf ⊢
    rw [hx, nI0_sub, if_pos neg1_lt]
    exact ok_some (ok_some (fd_0 hf))
theorem m_doesFit (hM : MT g B) (hW : WF S B) {c k : Nat} (hc : c < B 1 0) (hk : k < B 2 0) : f_X10_doesFit (nI c) (nI k) g = some (fit B c k) := by
  obtain ⟨hM0, hM1, hM2, hM3, hM4, hM5, hM6, hM7, hM8, hM9, hM10⟩ := hM
  obtain ⟨hW0, hW1, hW2, hW3, hW4, hW5, hW6, hW7, hW8, hW9, hW10, hW11, hW12⟩ := hW
  apply Ok.eqv
  unfold f_X10_doesFit
  have b1 := (hW10 c hc).1
  have b2 := (hW10 c hc).2.1
  have b3 := (hW12 k hk).1
  refine ok_gd (inb_nI (by omega) (by decide)) ?_
  have e1 : g 30 0 0 (nI c).toNatClampNeg = nI (B 10 c) := by rw [nI_clamp (by omega)]; exact (hM9 c hc).2.1
  have e2 : g 25 0 0 (nI (9 + c)).toNatClampNeg = nI (B 9 c) := by rw [nI_clamp (by omega)]; exact (hM9 c hc).1
  have e3 : g 32 0 0 (nI k).toNatClampNeg = nI (B 12 k) := by rw [nI_clamp (by omega)]; exact (hM10 k hk).1
  rw [nI_nine, e1, e2, e3]
  refine ok_ite (fun h0 => ?_) (fun h0 => ?_)
  · have h0 : B 10 c = 0 := nI_inj (by omega) (by decide) h0
    refine ok_gd (inb_nI (by omega) (by decide)) (ok_gd (inb_nI (by omega) (by decide)) ?_)
    refine ok_ite (fun h1 => ?_) (fun h1 => ?_)
    · have h1 := nI_inj (by omega) (by omega) h1
      exact ok_some (by simp [fit, h0, h1])
    · refine ok_gd (inb_nI (by omega) (by decide)) (ok_gd (inb_nI (by omega) (by decide)) ?_)
      have e : nI (B 12 k) - 1 = nI (B 12 k - 1) := by
        have := nI_sub1 (B 12 k - 1)
        rwa [show B 12 k - 1 + 1 = B 12 k by omega] at this
      rw [e]
      refine ok_ite (fun h2 => ?_) (fun h2 => ?_)
      · have h2 := nI_inj (by omega) (by omega) h2
        exact ok_some (by simp [fit, h0]; omega)
      · refine ok_some ?_
        have h1 : ¬ B 9 c = B 12 k := fun e => h1 (by rw [e])
        have h2 : ¬ B 9 c = B 12 k - 1 := fun e => h2 (by rw [e])
        simp [fit, h0]; omega
  · have h0 : ¬ B 10 c = 0 := fun e => h0 (by rw [e]; rfl)
    exact ok_some (by simp [fit, h0])
theorem m_lyingFor (hM : MT g B) (hW : WF S B) {k : Nat} (hk : k < B 2 0) : f_X10_lyingFor (nI k) g = some (on (-4) (lyf B k)) := by
  have hM' := hM
  have hW' := hW
  obtain ⟨hM0, hM1, hM2, hM3, hM4, hM5, hM6, hM7, hM8, hM9, hM10⟩ := hM
  obtain ⟨hW0, hW1, hW2, hW3, hW4, hW5, hW6, hW7, hW8, hW9, hW10, hW11, hW12⟩ := hW
  apply Ok.eqv
  unfold f_X10_lyingFor
  apply ok_bnd
  apply ok_obd
  rw [hM1]
  refine ok_down (B 1 0) (fun i a => a.2 = nI i - 1 ∧ fd (fun c => B 11 c == B 15 k && fit B c k) i (B 1 0) a.1 (-4)) (by omega) ?_ ?_ _ ⟨rfl, fd_n⟩
  · rintro j ⟨r, x⟩ hj ⟨hx, hf⟩
    have hx : x = nI j := hx.trans (nI_sub1 j)
    subst hx
    dsimp only
    rw [if_neg (nI_pos (by omega))]
    refine ok_gd (inb_nI (by omega) (by decide)) (ok_gd (inb_nI (by omega) (by decide)) ?_)
    rw [nI_clamp (by omega), nI_clamp (by omega), (hM9 j hj).2.2, (hM10 k hk).2.2.2]
    have hb := wok_lt hW2 (hW10 j hj).2.2
    have hp := (hW12 k hk).2.2.2
    refine ok_ite (fun hc => ?_) (fun hc => ?_)
    · have hc := nI_inj (by omega) (by omega) hc
      apply ok_obd
      refine ok_eq (m_doesFit hM' hW' hj hk) ?_
      refine ok_ite (fun h1 => ?_) (fun h1 => ?_)
      · exact ok_some ⟨add_m1 _, fd_t hj (by simp [hc, h1])⟩
      · exact ok_some ⟨add_m1 _, fd_f (by simp [h1]) hf⟩
    · exact ok_some ⟨add_m1 _, fd_f (by simp; intro e; exact absurd (by rw [e]) hc) hf⟩
  · rintro ⟨r, x⟩ ⟨hx, hf⟩
    dsimp only at hx hf ⊢
    rw [hx, nI0_sub, if_pos neg1_lt]
    exact ok_some (ok_some (fd_0 hf))
end Mod
-- who holds what, behind a change
theorem hd_ub {B : Bs} {c v k : Nat} : hd (ub B 11 c v) k = ff (fun d => (if d = c then v else B 11 d) == 10 + k) (B 1 0) := by
  unfold hd
  have h1 : ub B 11 c v 1 0 = B 1 0 := by simp [ub]
  rw [h1]
  apply ff_congr
  intro d _
  simp [ub]
theorem hd_ne {B : Bs} {c v k : Nat} (hv : v ≠ 10 + k) (ho : B 11 c ≠ 10 + k) : hd (ub B 11 c v) k = hd B k := by
  rw [hd_ub]
  apply ff_congr
  intro d _
  by_cases hd : d = c
  · subst hd; simp only [if_true]; rw [beq_eq_false_iff_ne.mpr hv, beq_eq_false_iff_ne.mpr ho]
  · simp [hd]
theorem hd_new {B : Bs} {c k : Nat} (h : hd B k = none) (hc : c < B 1 0) : hd (ub B 11 c (10 + k)) k = some c := by
  rw [hd_ub]
  refine ff_some.mpr ⟨hc, by simp, fun d hd => ?_⟩
  have := ff_none.mp h d (by omega)
  simp only [show ¬ d = c by omega, if_false]
  exact this
theorem hd_some {B : Bs} {c k : Nat} (h : hd B k = some c) : c < B 1 0 ∧ B 11 c = 10 + k := by
  obtain ⟨h1, h2, -⟩ := ff_some.mp h
  exact ⟨h1, by simpa using h2⟩
theorem hd_gone {B : Bs} {S c v k : Nat} (hW : WF S B) (hk : k < B 2 0) (h : hd B k = some c) (hv : v ≠ 10 + k) : hd (ub B 11 c v) k = none := by
  obtain ⟨h1, h2⟩ := hd_some h
  rw [hd_ub]
  refine ff_none.mpr (fun d hd => ?_)
  by_cases e : d = c
  · subst e; simp [hv]
  · simp only [e, if_false, beq_eq_false_iff_ne]
    intro h3
    have hm := hW.2.2.1
    exact e (hW.2.2.2.2.2.2.2.2.2.2.2.1 d c hd h1 (by omega) (by omega) (by omega))
theorem hd_15 {B : Bs} {k v k' : Nat} : hd (ub B 15 k v) k' = hd B k' := by
  unfold hd
  have h1 : ub B 15 k v 1 0 = B 1 0 := by simp [ub]
  rw [h1]
  apply ff_congr
  intro d _
  simp [ub]
-- well-formedness behind a change
theorem WF_15 {B : Bs} {S k v : Nat} (hW : WF S B) (hv : v < B 0 0) : WF S (ub B 15 k v) := by
  obtain ⟨hW0, hW1, hW2, hW3, hW4, hW5, hW6, hW7, hW8, hW9, hW10, hW11, hW12⟩ := hW
  refine ⟨by simpa [ub] using hW0, by simpa [ub] using hW1, by simpa [ub] using hW2, by simpa [ub] using hW3, by simpa [ub] using hW4, by simpa [ub] using hW5, by simpa [ub] using hW6, by simpa [ub] using hW7, by simpa [ub] using hW8, by simpa [ub] using hW9, by simpa [ub, wok] using hW10, by simpa [ub] using hW11, ?_⟩
  intro k' hk'
  have := hW12 k' (by simpa [ub] using hk')
  refine ⟨by simpa [ub] using this.1, by simpa [ub] using this.2.1, by simpa [ub] using this.2.2.1, ?_⟩
  by_cases e : k' = k
  · simp [ub, e]; exact hv
  · simp [ub, e]; exact this.2.2.2
theorem WF_11 {B : Bs} {S c v : Nat} (hW : WF S B) (hv : wok B v) (hu : 10 ≤ v → v < 20 → ∀ d, d < B 1 0 → d ≠ c → B 11 d ≠ v) : WF S (ub B 11 c v) := by
  obtain ⟨hW0, hW1, hW2, hW3, hW4, hW5, hW6, hW7, hW8, hW9, hW10, hW11, hW12⟩ := hW
  refine ⟨by simpa [ub] using hW0, by simpa [ub] using hW1, by simpa [ub] using hW2, by simpa [ub] using hW3, by simpa [ub] using hW4, by simpa [ub] using hW5, by simpa [ub] using hW6, by simpa [ub] using hW7, by simpa [ub] using hW8, by simpa [ub] using hW9, ?_, ?_, by simpa [ub] using hW12⟩
  · intro d hd
    have := hW10 d (by simpa [ub] using hd)
    refine ⟨by simpa [ub] using this.1, by simpa [ub] using this.2.1, ?_⟩
    by_cases e : d = c
    · subst e; simp [ub, wok]; simpa [wok] using hv
    · simp [ub, wok, e]; simpa [wok] using this.2.2
  · intro d d' hd hd' h1 h2 h3
    have e1 : ub B 11 c v 1 0 = B 1 0 := by simp [ub]
    rw [e1] at hd hd'
    by_cases e : d = c <;> by_cases e' : d' = c
    · rw [e, e']
    · subst e
      simp [ub, e'] at h1 h2 h3
      exact absurd h3.symm (hu h1 h2 d' hd' e')
    · subst e'
      simp [ub, e] at h1 h2 h3
      exact absurd h3 (hu (by omega) (by omega) d hd e)
    · simp [ub, e, e'] at h1 h2 h3
      exact hW11 d d' hd hd' h1 h2 h3
theorem wlk_lt {B : Bs} {S k : Nat} (hW : WF S B) (hk : k < B 2 0) : wlk B k < B 0 0 := by
  have h1 := hW.1
  have h2 := (hW.2.2.2.2.2.2.2.2.2.2.2.2 k hk).2.2.2
  unfold wlk
  split <;> split <;> omega
theorem lyf_some {B : Bs} {k c : Nat} (h : lyf B k = some c) : c < B 1 0 ∧ B 11 c = B 15 k := by
  obtain ⟨h1, h2, -⟩ := ff_some.mp h
  simp only [Bool.and_eq_true, beq_iff_eq] at h2
  exact ⟨h1, h2.1⟩
theorem WF_act {B : Bs} {S k : Nat} (hW : WF S B) (hk : k < B 2 0) : WF S (act B k) := by
  have hp := (hW.2.2.2.2.2.2.2.2.2.2.2.2 k hk).2.2.2
  have hP := hW.1
  have hm := hW.2.2.1
  unfold act
  cases h1 : hd B k with
  | some c =>
    dsimp only
    split
    · exact WF_11 hW (Or.inr (Or.inr (Or.inl ⟨by omega, by omega⟩))) (fun h _ => by omega)
    · exact WF_15 hW (wlk_lt hW hk)
  | none =>
    dsimp only
    cases h2 : lyf B k with
    | some c =>
      dsimp only
      refine WF_11 hW (Or.inr (Or.inl ⟨by omega, by omega⟩)) (fun _ _ d hd _ e => ?_)
      have := ff_none.mp h1 d hd
      simp [e] at this
    | none => exact WF_15 hW (wlk_lt hW hk)
