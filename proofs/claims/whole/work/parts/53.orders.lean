/-- row k of m, its first four cells; the rest is h's -/
def tk (c : Nat) (h m : Mem) : Mem := fun k j o i => if k = c ∧ j = 0 ∧ o = 0 ∧ i < 4 then m c 0 0 i else h k j o i
theorem tk_r {c : Nat} {h m : Mem} {i : Nat} (hi : i < 4) : tk c h m c 0 0 i = m c 0 0 i := if_pos ⟨rfl, rfl, rfl, hi⟩
theorem tk_o {c : Nat} {h m : Mem} {k j o i : Nat} (hk : k ≠ c) : tk c h m k j o i = h k j o i := if_neg (fun e => hk e.1)
theorem tk_u {c : Nat} {h m : Mem} {i : Nat} {v : Int32} (hi : i < 4) : up (tk c h m) c 0 0 i v = tk c h (up m c 0 0 i v) := by
  funext k j o i'
  unfold up tk
  by_cases a : k = c ∧ j = 0 ∧ o = 0
  · obtain ⟨rfl, rfl, rfl⟩ := a
    by_cases b : i' = i
    · subst b; simp [hi]
    · simp [b]
  · have h1 : ¬ (k = c ∧ j = 0 ∧ o = 0 ∧ i' = i) := fun e => a ⟨e.1, e.2.1, e.2.2.1⟩
    have h2 : ¬ (k = c ∧ j = 0 ∧ o = 0 ∧ i' < 4) := fun e => a ⟨e.1, e.2.1, e.2.2.1⟩
    rw [if_neg h1, if_neg h2, if_neg h2]
def Sim {γ δ : Type} (e : γ → δ) (x : Option δ) (y : Option γ) : Prop := x = obd y (fun r => some (e r))
theorem sim_some {γ δ : Type} {e : γ → δ} {r : γ} {r' : δ} (h : r' = e r) : Sim e (some r') (some r) := by subst h; rfl
theorem sim_gd {γ δ : Type} {e : γ → δ} {c : Prop} {i : Decidable c} {x : Option δ} {y : Option γ} (h : c → Sim e x y) : Sim e (@gd _ c i x) (@gd _ c i y) := by
  unfold gd
  by_cases q : c
  · rw [if_pos q, if_pos q]; exact h q
  · rw [if_neg q, if_neg q]; rfl
theorem sim_ite {γ δ : Type} {e : γ → δ} {c : Prop} {i : Decidable c} {x x' : Option δ} {y y' : Option γ} (h1 : c → Sim e x y) (h2 : ¬ c → Sim e x' y') : Sim e (@ite _ c i x x') (@ite _ c i y y') := by
  by_cases q : c
  · rw [if_pos q, if_pos q]; exact h1 q
  · rw [if_neg q, if_neg q]; exact h2 q
theorem sim_obd {γ δ ε ζ : Type} {e : γ → δ} {e' : ε → ζ} {x : Option δ} {y : Option γ} {g : δ → Option ζ} {g' : γ → Option ε} (h : Sim e x y) (hg : ∀ r, Sim e' (g (e r)) (g' r)) : Sim e' (obd x g) (obd y g') := by
  unfold Sim at h
  subst h
  cases y with
  | none => rfl
  | some r => exact hg r
theorem sim_same {γ ε ζ : Type} {e' : ε → ζ} {x y : Option γ} {g : γ → Option ζ} {g' : γ → Option ε} (h : x = y) (hg : ∀ r, Sim e' (g r) (g' r)) : Sim e' (obd x g) (obd y g') := by
  subst h
  cases x with
  | none => rfl
  | some r => exact hg r
theorem sim_lp {α β α' β' : Type} {f : α → Option (α ⊕ β)} {f' : α' → Option (α' ⊕ β')} {e : α → α'} {eb : β → β'} (hs : ∀ a, Sim (Sum.map e eb) (f' (e a)) (f a)) : ∀ n a, Sim eb (lp n f' (e a)) (lp n f a) := by
  intro n
  induction n with
  | zero => intro a; rfl
  | succ n ih =>
    intro a
    have := hs a
    unfold Sim at this
    show (match f' (e a) with | none => none | some (.inl a') => lp n f' a' | some (.inr e) => some e) = obd (match f a with | none => none | some (.inl a') => lp n f a' | some (.inr e) => some e) _
    rw [this]
    cases f a with
    | none => rfl
    | some z =>
      cases z with
      | inl a' => exact ih a'
      | inr b => rfl
theorem lp_eq {α β : Type} {f f' : α → Option (α ⊕ β)} (h : ∀ a, f a = f' a) (n : Nat) (a : α) : lp n f a = lp n f' a := by
  have : f = f' := funext h
  rw [this]
theorem gd_eq {γ : Type} {c : Prop} {i : Decidable c} {x y : Option γ} (h : c → x = y) : @gd _ c i x = @gd _ c i y := by
  unfold gd
  by_cases q : c
  · rw [if_pos q, if_pos q]; exact h q
  · rw [if_neg q, if_neg q]
theorem ite_eq {γ : Type} {c : Prop} {i : Decidable c} {x y x' y' : γ} (h : ¬ c → x' = y') (h1 : x = y) : @ite _ c i x x' = @ite _ c i y y' := by
  subst h1
  by_cases q : c
  · rw [if_pos q, if_pos q]
  · rw [if_neg q, if_neg q]; exact h q
theorem inb4 {x : Int32} (h : inb x 4) : x.toNatClampNeg < 4 := by
  have : ¬ 4 ≤ x.toNatClampNeg := fun e => h (Or.inr e)
  omega
theorem swap_sim (h m : Mem) (p q : Int32) : Sim (tk 15 h) (f_X4_swap p q (tk 15 h m)) (f_X4_swap p q m) := by
  unfold f_X4_swap
  dsimp only [bnd]
  refine sim_gd (fun a => sim_gd (fun b => sim_gd (fun _ => sim_gd (fun _ => sim_some ?_))))
  rw [tk_r (inb4 a), tk_r (inb4 b), tk_u (inb4 a), tk_u (inb4 b)]
theorem turn_sim (h m : Mem) (p : Int32) : Sim (fun q => (q.1, tk 15 h q.2)) (f_X4_turnToNext p (tk 15 h m)) (f_X4_turnToNext p m) := by
  unfold f_X4_turnToNext
  dsimp only [bnd]
  refine sim_same (lp_eq (fun a => ite_eq (fun _ => gd_eq (fun q => gd_eq (fun q' => ?_))) rfl) _ _) (fun e6 => sim_ite (fun _ => ?_) (fun _ => sim_some rfl))
  · rw [tk_r (inb4 q), tk_r (inb4 q')]
  · refine sim_same (lp_eq (fun a => ite_eq (fun _ => gd_eq (fun q => gd_eq (fun q' => ?_))) rfl) _ _) (fun e12 => ?_)
    · rw [tk_r (inb4 q), tk_r (inb4 q')]
    · refine sim_obd (swap_sim h m e6 e12) (fun m1 => ?_)
      refine sim_obd (e := tk 15 h) (sim_lp (e := fun z => (z.1, z.2.1, tk 15 h z.2.2)) (fun z => ?_) fu (e6 + 1, p - 1, m1)) (fun m2 => sim_some rfl)
      refine sim_ite (fun _ => sim_some rfl) (fun _ => ?_)
      exact sim_obd (swap_sim h _ _ _) (fun m3 => sim_some rfl)
def tl (h m : Mem) : Mem := fun k j o i => if (k = 38 ∧ j = 0 ∧ o = 0 ∧ i < 4) ∨ (k = 24 ∧ j = 3 ∧ o = 0 ∧ i = 0) then m k j o i else h k j o i
theorem tl_r {h m : Mem} {i : Nat} (hi : i < 4) : tl h m 38 0 0 i = m 38 0 0 i := if_pos (Or.inl ⟨rfl, rfl, rfl, hi⟩)
theorem tl_c {h m : Mem} : tl h m 24 3 0 0 = m 24 3 0 0 := if_pos (Or.inr ⟨rfl, rfl, rfl, rfl⟩)
theorem tl_u {h m : Mem} {i : Nat} {v : Int32} (hi : i < 4) : up (tl h m) 38 0 0 i v = tl h (up m 38 0 0 i v) := by
  funext k j o i'
  unfold up tl
  by_cases a : k = 38 ∧ j = 0 ∧ o = 0
  · obtain ⟨rfl, rfl, rfl⟩ := a
    by_cases b : i' = i
    · subst b; simp [hi]
    · simp [b]
  · have h1 : ¬ (k = 38 ∧ j = 0 ∧ o = 0 ∧ i' = i) := fun e => a ⟨e.1, e.2.1, e.2.2.1⟩
    simp [h1]
theorem next_sim (h m : Mem) : Sim (fun q => (q.1, tl h q.2)) (f_X10_nextOrder (tl h m)) (f_X10_nextOrder m) := by
  unfold f_X10_nextOrder
  dsimp only [bnd]
  rw [tl_c]
  refine sim_same (lp_eq (fun a => ite_eq (fun _ => gd_eq (fun q => gd_eq (fun q' => ?_))) rfl) _ _) (fun e6 => sim_ite (fun _ => ?_) (fun _ => sim_some rfl))
  · rw [tl_r (inb4 q), tl_r (inb4 q')]
  · refine sim_same (lp_eq (fun a => gd_eq (fun q => gd_eq (fun q' => ?_))) _ _) (fun e12 => ?_)
    · rw [tl_r (inb4 q), tl_r (inb4 q')]
    · refine sim_gd (fun a => sim_gd (fun b => sim_gd (fun _ => sim_gd (fun _ => ?_))))
      rw [tl_r (inb4 a), tl_r (inb4 b), tl_u (inb4 a), tl_u (inb4 b)]
      refine sim_obd (e := tl h) (sim_lp (e := fun z => (z.1, tl h z.2)) (fun z => ?_) fu (e6 + 1, _)) (fun m2 => sim_some rfl)
      simp only [tl_c]
      refine sim_ite (fun _ => sim_some rfl) (fun _ => ?_)
      refine sim_gd (fun a => sim_gd (fun b => sim_gd (fun _ => sim_gd (fun _ => sim_some ?_))))
      rw [tl_r (inb4 a), tl_r (inb4 b), tl_u (inb4 a), tl_u (inb4 b)]
      rfl
/-- the orders of n crabs, as in a dictionary -/
def ps (n : Nat) : List (List Nat) := match n with
  | 2 => [[0,1,2,3],[1,0,2,3]]
  | 3 => [[0,1,2,3],[0,2,1,3],[1,0,2,3],[1,2,0,3],[2,0,1,3],[2,1,0,3]]
  | 4 => [[0,1,2,3],[0,1,3,2],[0,2,1,3],[0,2,3,1],[0,3,1,2],[0,3,2,1],[1,0,2,3],[1,0,3,2],[1,2,0,3],[1,2,3,0],[1,3,0,2],[1,3,2,0],[2,0,1,3],[2,0,3,1],[2,1,0,3],[2,1,3,0],[2,3,0,1],[2,3,1,0],[3,0,1,2],[3,0,2,1],[3,1,0,2],[3,1,2,0],[3,2,0,1],[3,2,1,0]]
  | _ => [[0,1,2,3]]
def pS (n j i : Nat) : Nat := ((ps n).getD j []).getD i 0
def pL (n : Nat) : Nat := (ps n).length
def hS (n j : Nat) : Mem := fun k _ _ i => if k = 24 then nI n else nI (pS n j i)
abbrev pt4 (n j : Nat) : Int32 × Int32 × Int32 × Int32 := (nI (pS n j 0), nI (pS n j 1), nI (pS n j 2), nI (pS n j 3))
def pX (n j : Nat) : Nat := if j + 1 < pL n then j + 1 else j
def tvw (c : Nat) (x : Option (Bool × Mem)) : Option (Bool × Int32 × Int32 × Int32 × Int32 × Int32) := obd x (fun q => some (q.1, q.2 24 3 0 0, q.2 c 0 0 0, q.2 c 0 0 1, q.2 c 0 0 2, q.2 c 0 0 3))
def tck (n j : Nat) : Bool := decide (tvw 15 (f_X4_turnToNext (nI n) (hS n j)) = some (decide (j + 1 < pL n), nI n, pt4 n (pX n j)))
def nck (n j : Nat) : Bool := decide (tvw 38 (f_X10_nextOrder (hS n j)) = some (decide (j + 1 < pL n), nI n, pt4 n (pX n j)))
theorem turn_dec : ∀ n, n ≤ 4 → ∀ j, j < pL n → tck n j = true := by decide +kernel
theorem next_dec : ∀ n, n ≤ 4 → ∀ j, j < pL n → nck n j = true := by decide +kernel
theorem ps_ok : ∀ n, n ≤ 4 → (0 < pL n ∧ pL n ≤ 24 ∧ (∀ i, i < 4 → pS n 0 i = i)) ∧ ∀ j, j < pL n → (∀ i, i < n → pS n j i < n) ∧ (∀ i, i < n → ∀ i', i' < n → pS n j i = pS n j i' → i = i') ∧ ∀ i, i < 4 → pS n j i < 4 := by decide +kernel
theorem rowsp {h : Mem} {c n j : Nat} (h0 : h c 0 0 0 = nI (pS n j 0)) (h1 : h c 0 0 1 = nI (pS n j 1)) (h2 : h c 0 0 2 = nI (pS n j 2)) (h3 : h c 0 0 3 = nI (pS n j 3)) : ∀ i, i < 4 → h c 0 0 i = nI (pS n j i) := by
  intro i hi
  have : i = 0 ∨ i = 1 ∨ i = 2 ∨ i = 3 := by omega
  rcases this with rfl | rfl | rfl | rfl
  · exact h0
  · exact h1
  · exact h2
  · exact h3
theorem t_next {n j : Nat} (hn : n ≤ 4) (hj : j < pL n) {h : Mem} (ha : ∀ i, i < 4 → h 15 0 0 i = nI (pS n j i)) : Ok (f_X4_turnToNext (nI n) h) (fun q => q.1 = decide (j + 1 < pL n) ∧ (∀ i, i < 4 → q.2 15 0 0 i = nI (pS n (pX n j) i)) ∧ ∀ k a o i, k ≠ 15 → q.2 k a o i = h k a o i) := by
  have e : tk 15 h (hS n j) = h := by
    funext k a o i
    unfold tk
    by_cases q : k = 15 ∧ a = 0 ∧ o = 0 ∧ i < 4
    · rw [if_pos q]
      obtain ⟨rfl, rfl, rfl, hi⟩ := q
      exact (ha i hi).symm
    · rw [if_neg q]
  have s := turn_sim h (hS n j) (nI n)
  unfold Sim at s
  rw [e] at s
  have d := of_decide_eq_true (turn_dec n hn j hj)
  cases hx : f_X4_turnToNext (nI n) (hS n j) with
  | none => rw [hx] at d; cases d
  | some q =>
    rw [hx] at d s
    simp only [tvw, obd, Option.some.injEq, Prod.mk.injEq, pt4] at d
    obtain ⟨d0, -, d1, d2, d3, d4⟩ := d
    refine ⟨_, s, d0, rowsp ?_ ?_ ?_ ?_, fun k a o i hk => tk_o hk⟩
    · exact (tk_r (h := h) (m := q.2) (by decide)).trans d1
    · exact (tk_r (h := h) (m := q.2) (by decide)).trans d2
    · exact (tk_r (h := h) (m := q.2) (by decide)).trans d3
    · exact (tk_r (h := h) (m := q.2) (by decide)).trans d4
theorem n_next {n j : Nat} (hn : n ≤ 4) (hj : j < pL n) {h : Mem} (hc : h 24 3 0 0 = nI n) (ha : ∀ i, i < 4 → h 38 0 0 i = nI (pS n j i)) : Ok (f_X10_nextOrder h) (fun q => q.1 = decide (j + 1 < pL n) ∧ (∀ i, i < 4 → q.2 38 0 0 i = nI (pS n (pX n j) i)) ∧ ∀ k a o i, k ≠ 38 → q.2 k a o i = h k a o i) := by
  have e : tl h (hS n j) = h := by
    funext k a o i
    unfold tl
    by_cases q : (k = 38 ∧ a = 0 ∧ o = 0 ∧ i < 4) ∨ (k = 24 ∧ a = 3 ∧ o = 0 ∧ i = 0)
    · rw [if_pos q]
      rcases q with ⟨rfl, rfl, rfl, hi⟩ | ⟨rfl, rfl, rfl, rfl⟩
      · exact (ha i hi).symm
      · exact hc.symm
    · rw [if_neg q]
  have s := next_sim h (hS n j)
  unfold Sim at s
  rw [e] at s
  have d := of_decide_eq_true (next_dec n hn j hj)
  cases hx : f_X10_nextOrder (hS n j) with
  | none => rw [hx] at d; cases d
  | some q =>
    rw [hx] at d s
    simp only [tvw, obd, Option.some.injEq, Prod.mk.injEq, pt4] at d
    obtain ⟨d0, d5, d1, d2, d3, d4⟩ := d
    refine ⟨_, s, d0, rowsp ?_ ?_ ?_ ?_, fun k a o i hk => ?_⟩
    · exact (tl_r (h := h) (m := q.2) (by decide)).trans d1
    · exact (tl_r (h := h) (m := q.2) (by decide)).trans d2
    · exact (tl_r (h := h) (m := q.2) (by decide)).trans d3
    · exact (tl_r (h := h) (m := q.2) (by decide)).trans d4
    · by_cases w : k = 24 ∧ a = 3 ∧ o = 0 ∧ i = 0
      · obtain ⟨rfl, rfl, rfl, rfl⟩ := w
        exact ((tl_c (h := h) (m := q.2)).trans d5).trans hc.symm
      · exact if_neg (fun u => by rcases u with u | u; exact hk u.1; exact w u)
/-- the crabs act by the order u -/
def od (B : Bs) (u : Nat → Nat) : Bs := fun f i => if f = 8 ∧ i < 4 then u i else B f i
theorem od_f {B : Bs} {u : Nat → Nat} {f i : Nat} (h : f ≠ 8) : od B u f i = B f i := by unfold od; rw [if_neg (by omega)]
theorem od_8 {B : Bs} {u : Nat → Nat} {i : Nat} (h : i < 4) : od B u 8 i = u i := by unfold od; rw [if_pos ⟨rfl, h⟩]
theorem WF_od {B : Bs} {S : Nat} {u : Nat → Nat} (hW : WF S B) (hO : NO B) (h1 : ∀ i, i < B 2 0 → u i < B 2 0) (h2 : ∀ i, i < B 2 0 → ∀ i', i' < B 2 0 → u i = u i' → i = i') : WF S (od B u) := by
  obtain ⟨hW0, hW1, hW2, hW3, hW4, hW5, hW6, hW7, hW8, hW9, hW10, hW11, hW12⟩ := hW
  have g : ∀ f i, f ≠ 8 → od B u f i = B f i := fun f i a => od_f a
  have e6 := hO.1
  unfold WF wok
  simp only [g 0 _ (by decide), g 1 _ (by decide), g 2 _ (by decide), g 3 _ (by decide), g 4 _ (by decide), g 5 _ (by decide), g 6 _ (by decide), g 7 _ (by decide), g 9 _ (by decide), g 10 _ (by decide), g 11 _ (by decide), g 12 _ (by decide), g 13 _ (by decide), g 14 _ (by decide), g 15 _ (by decide)]
  refine ⟨hW0, hW1, hW2, hW3, hW4, hW5, hW6, hW7, fun i hi => ?_, fun i j hi hj he => ?_, hW10, hW11, hW12⟩
  · rw [od_8 (by omega)]; exact h1 i (by omega)
  · rw [od_8 (by omega), od_8 (by omega)] at he; exact h2 i (by omega) j (by omega) he
/-- what the orders tell: how many are sorted, the soonest and its number -/
def oc (p : Nat → Option Nat) : Nat → Nat × Option (Nat × Nat)
  | 0 => (0, none)
  | j + 1 => match p j with
    | none => oc p j
    | some s => ((oc p j).1 + 1, match (oc p j).2 with
      | none => some (s, j)
      | some q => if s < q.1 then some (s, j) else some q)
theorem oc_n {p : Nat → Option Nat} {j : Nat} (h : p j = none) : oc p (j + 1) = oc p j := by
  show (match p j with | none => _ | some s => _) = _
  rw [h]
theorem oc_s {p : Nat → Option Nat} {j s : Nat} (h : p j = some s) : oc p (j + 1) = ((oc p j).1 + 1, match (oc p j).2 with
      | none => some (s, j)
      | some q => if s < q.1 then some (s, j) else some q) := by
  show (match p j with | none => _ | some s => _) = _
  rw [h]
theorem oc_b {p : Nat → Option Nat} (hp : ∀ j s, p j = some s → s ≤ 40) : ∀ j, (oc p j).1 ≤ j ∧ ((oc p j).1 = 0 ↔ (oc p j).2 = none) ∧ ∀ q, (oc p j).2 = some q → q.1 ≤ 40 ∧ q.2 < j
  | 0 => ⟨Nat.le_refl _, ⟨fun _ => rfl, fun _ => rfl⟩, fun q h => (by cases h)⟩
  | j + 1 => by
    obtain ⟨a, b, c⟩ := oc_b hp j
    cases e : p j with
    | none =>
      rw [oc_n e]
      exact ⟨by omega, b, fun q h => ⟨(c q h).1, by have := (c q h).2; omega⟩⟩
    | some s =>
      have hs := hp j s e
      rw [oc_s e]
      cases e2 : (oc p j).2 with
      | none =>
        refine ⟨by show _ + 1 ≤ _; omega, ⟨fun h => (by cases h), fun h => (by cases h)⟩, fun q h => ?_⟩
        cases h
        exact ⟨hs, Nat.lt_succ_self _⟩
      | some q =>
        have := c q e2
        by_cases w : s < q.1
        · refine ⟨by show _ + 1 ≤ _; omega, ⟨fun h => (by cases h), fun h => (by simp [w] at h)⟩, fun q' h => ?_⟩
          simp only [w, if_true] at h
          cases h
          exact ⟨hs, Nat.lt_succ_self _⟩
        · refine ⟨by show _ + 1 ≤ _; omega, ⟨fun h => (by cases h), fun h => (by simp [w] at h)⟩, fun q' h => ?_⟩
          simp only [w, if_false] at h
          cases h
          exact ⟨this.1, by omega⟩
section Tri
variable {h g : Mem} {B T : Bs} {o S : Nat}
theorem c_order5 {u : Nat → Nat} (hC : CB0 h 1 B) (hH : HL h 1 B) (hn : B 6 0 ≤ 4) (hu : ∀ i, i < 4 → h 15 0 0 i = nI (u i)) : Ok (f_X4_copyOrder_15_5 1 h) (fun h' => CB0 h' 1 (od B u) ∧ HL h' 1 (od B u) ∧ FrO h h' 1) := by
  unfold f_X4_copyOrder_15_5
  rw [wp_obd]
  refine (ok_up (K := fun h' => (∀ i, i < 4 → h' 5 0 1 i = nI (u i)) ∧ ∀ k j o i, ¬ (k = 5 ∧ o = 1) → h' k j o i = h k j o i) 4 (fun j z => z.1 = nI j ∧ (∀ i, i < j → z.2 5 0 1 i = nI (u i)) ∧ ∀ k j o i, ¬ (k = 5 ∧ o = 1) → z.2 k j o i = h k j o i) (by omega) ?_ ?_ _ ⟨rfl, fun i hi => by omega, fun _ _ _ _ _ => rfl⟩).mono ?_
  · rintro j ⟨x, z⟩ hj ⟨hx, h1, h2⟩
    dsimp only at hx h1 h2
    subst hx
    have e1 : z 15 0 0 j = nI (u j) := (h2 _ _ _ _ (by omega)).trans (hu j hj)
    simp (disch := omega) only [wp_some, wp_obd, wp_ob2, wp_bnd, wp_gd, wp_ite, wp_true, wp_ff, ↓l_n1, ↓l_n2, ↓l_n3, ↓l_n4, ↓l_n10, ↓l_n20, l_0, l_1, l_2, l_3, l_4, l_5, l_6, l_7, l_8, l_9, l_10, l_13, l_14, l_15, l_16, l_20, l_21, l_24, l_27, l_28, l_30, l_31, l_32, l_35, l_36, l_39, l_40, l_41, l_43, l_44, l_45, l_46, l_47, l_48, l_49, l_56, l_57, l_59, l_60, l_79, l_97, l_122, l_160, l_237, l_255, l_320, l_999, l_1000, nI_add, pk_mul, nI_eq, nI_leI, nI_ltI, nI_clamp, inb_nI_iff, e_within, e_in32, e_asNumber, e_flag, decide_eq_true_eq, Sum.elim_inl, Sum.elim_inr, true_implies, not_true_eq_false, not_false_eq_true, false_implies, and_true, true_and, nI_nn, nn_nI, nn_nn, ↓reduceIte, if_true, if_false, Nat.le_refl, implies_true, Nat.lt_irrefl, and_self_left, win1, nI_le_s1, Nat.zero_le, up_s, up_o, Nat.zero_add, m64_0, m64_1, m64_2, m64_3, m64_7, m64_8, m64_9, m64_10, m64_13, m64_20, m64_27, m64_60, e1]
    refine ⟨fun e => by omega, fun _ => ⟨by omega, fun i hi => ?_, fun k j' o i hh => ?_⟩⟩
    · by_cases e : i = j
      · subst e; (try simp (disch := omega) only [up_s, up_o, and_self])
      · (try simp (disch := omega) only [up_s, up_o, and_self]); exact h1 i (by omega)
    · (try simp (disch := omega) only [up_s, up_o, and_self]); exact h2 k j' o i hh
  · rintro ⟨x, z⟩ ⟨hx, h1, h2⟩
    dsimp only at hx h1 h2
    subst hx
    simp (disch := omega) only [wp_some, wp_obd, wp_ob2, wp_bnd, wp_gd, wp_ite, wp_true, wp_ff, ↓l_n1, ↓l_n2, ↓l_n3, ↓l_n4, ↓l_n10, ↓l_n20, l_0, l_1, l_2, l_3, l_4, l_5, l_6, l_7, l_8, l_9, l_10, l_13, l_14, l_15, l_16, l_20, l_21, l_24, l_27, l_28, l_30, l_31, l_32, l_35, l_36, l_39, l_40, l_41, l_43, l_44, l_45, l_46, l_47, l_48, l_49, l_56, l_57, l_59, l_60, l_79, l_97, l_122, l_160, l_237, l_255, l_320, l_999, l_1000, nI_add, pk_mul, nI_eq, nI_leI, nI_ltI, nI_clamp, inb_nI_iff, e_within, e_in32, e_asNumber, e_flag, decide_eq_true_eq, Sum.elim_inl, Sum.elim_inr, true_implies, not_true_eq_false, not_false_eq_true, false_implies, and_true, true_and, nI_nn, nn_nI, nn_nn, ↓reduceIte, if_true, if_false, Nat.le_refl, implies_true, Nat.lt_irrefl, and_self_left, win1, nI_le_s1, Nat.zero_le, up_s, up_o, Nat.zero_add, m64_0, m64_1, m64_2, m64_3, m64_7, m64_8, m64_9, m64_10, m64_13, m64_20, m64_27, m64_60]
    exact ⟨h1, h2⟩
  rintro h' ⟨h1, h2⟩
  apply wp_some.mpr
  obtain ⟨hM0, hM1, hM2, hM3, hM4, hM5, hM6, hM7, hM8, hM9, hM10⟩ := hC
  have g : ∀ f i, f ≠ 8 → od B u f i = B f i := fun f i a => od_f a
  refine ⟨?_, fun k hk => ?_, fun k j o i hh => h2 _ _ _ _ (by omega)⟩
  · unfold CB0
    simp only [g 0 _ (by decide), g 1 _ (by decide), g 2 _ (by decide), g 3 _ (by decide), g 4 _ (by decide), g 5 _ (by decide), g 6 _ (by decide), g 7 _ (by decide), g 9 _ (by decide), g 10 _ (by decide), g 11 _ (by decide), g 12 _ (by decide), g 13 _ (by decide), g 14 _ (by decide), g 15 _ (by decide)]
    refine ⟨(h2 _ _ _ _ (by omega)).trans hM0, (h2 _ _ _ _ (by omega)).trans hM1, (h2 _ _ _ _ (by omega)).trans hM2, (h2 _ _ _ _ (by omega)).trans hM3, (h2 _ _ _ _ (by omega)).trans hM4, (h2 _ _ _ _ (by omega)).trans hM5, (h2 _ _ _ _ (by omega)).trans hM6, fun x hx => (h2 _ _ _ _ (by omega)).trans (hM7 x hx), fun i hi => ?_, fun c hc => ?_, fun k hk => ?_⟩
    · rw [od_8 (by omega)]; exact h1 i (by omega)
    · rw [h2 _ _ _ _ (by omega), h2 _ _ _ _ (by omega), h2 _ _ _ _ (by omega)]; exact hM9 c hc
    · rw [h2 _ _ _ _ (by omega), h2 _ _ _ _ (by omega), h2 _ _ _ _ (by omega), h2 _ _ _ _ (by omega)]; exact hM10 k hk
  · rw [od_f (by decide)] at hk
    rw [h2 _ _ _ _ (by omega), hd_congr (od_f (by decide)) (fun c _ => od_f (by decide))]
    exact hH k hk
theorem c_order14 {u : Nat → Nat} (hu : ∀ i, i < 4 → h 15 0 0 i = nI (u i)) : Ok (f_X4_copyOrder_15_14 h) (fun h' => (∀ i, i < 4 → h' 14 0 0 i = nI (u i)) ∧ ∀ k j o i, k ≠ 14 → h' k j o i = h k j o i) := by
  unfold f_X4_copyOrder_15_14
  rw [wp_obd]
  refine (ok_up (K := fun h' => (∀ i, i < 4 → h' 14 0 0 i = nI (u i)) ∧ ∀ k j o i, k ≠ 14 → h' k j o i = h k j o i) 4 (fun j z => z.1 = nI j ∧ (∀ i, i < j → z.2 14 0 0 i = nI (u i)) ∧ ∀ k j o i, k ≠ 14 → z.2 k j o i = h k j o i) (by omega) ?_ ?_ _ ⟨rfl, fun i hi => by omega, fun _ _ _ _ _ => rfl⟩).mono (fun a ha => wp_some.mpr ha)
  · rintro j ⟨x, z⟩ hj ⟨hx, h1, h2⟩
    dsimp only at hx h1 h2
    subst hx
    have e1 : z 15 0 0 j = nI (u j) := (h2 _ _ _ _ (by omega)).trans (hu j hj)
    simp (disch := omega) only [wp_some, wp_obd, wp_ob2, wp_bnd, wp_gd, wp_ite, wp_true, wp_ff, ↓l_n1, ↓l_n2, ↓l_n3, ↓l_n4, ↓l_n10, ↓l_n20, l_0, l_1, l_2, l_3, l_4, l_5, l_6, l_7, l_8, l_9, l_10, l_13, l_14, l_15, l_16, l_20, l_21, l_24, l_27, l_28, l_30, l_31, l_32, l_35, l_36, l_39, l_40, l_41, l_43, l_44, l_45, l_46, l_47, l_48, l_49, l_56, l_57, l_59, l_60, l_79, l_97, l_122, l_160, l_237, l_255, l_320, l_999, l_1000, nI_add, pk_mul, nI_eq, nI_leI, nI_ltI, nI_clamp, inb_nI_iff, e_within, e_in32, e_asNumber, e_flag, decide_eq_true_eq, Sum.elim_inl, Sum.elim_inr, true_implies, not_true_eq_false, not_false_eq_true, false_implies, and_true, true_and, nI_nn, nn_nI, nn_nn, ↓reduceIte, if_true, if_false, Nat.le_refl, implies_true, Nat.lt_irrefl, and_self_left, win1, nI_le_s1, Nat.zero_le, up_s, up_o, Nat.zero_add, m64_0, m64_1, m64_2, m64_3, m64_7, m64_8, m64_9, m64_10, m64_13, m64_20, m64_27, m64_60, e1]
    refine ⟨fun e => by omega, fun _ => ⟨by omega, fun i hi => ?_, fun k j' o i hh => ?_⟩⟩
    · by_cases e : i = j
      · subst e; (try simp (disch := omega) only [up_s, up_o, and_self])
      · (try simp (disch := omega) only [up_s, up_o, and_self]); exact h1 i (by omega)
    · (try simp (disch := omega) only [up_s, up_o, and_self]); exact h2 k j' o i hh
  · rintro ⟨x, z⟩ ⟨hx, h1, h2⟩
    dsimp only at hx h1 h2
    subst hx
    simp (disch := omega) only [wp_some, wp_obd, wp_ob2, wp_bnd, wp_gd, wp_ite, wp_true, wp_ff, ↓l_n1, ↓l_n2, ↓l_n3, ↓l_n4, ↓l_n10, ↓l_n20, l_0, l_1, l_2, l_3, l_4, l_5, l_6, l_7, l_8, l_9, l_10, l_13, l_14, l_15, l_16, l_20, l_21, l_24, l_27, l_28, l_30, l_31, l_32, l_35, l_36, l_39, l_40, l_41, l_43, l_44, l_45, l_46, l_47, l_48, l_49, l_56, l_57, l_59, l_60, l_79, l_97, l_122, l_160, l_237, l_255, l_320, l_999, l_1000, nI_add, pk_mul, nI_eq, nI_leI, nI_ltI, nI_clamp, inb_nI_iff, e_within, e_in32, e_asNumber, e_flag, decide_eq_true_eq, Sum.elim_inl, Sum.elim_inr, true_implies, not_true_eq_false, not_false_eq_true, false_implies, and_true, true_and, nI_nn, nn_nI, nn_nn, ↓reduceIte, if_true, if_false, Nat.le_refl, implies_true, Nat.lt_irrefl, and_self_left, win1, nI_le_s1, Nat.zero_le, up_s, up_o, Nat.zero_add, m64_0, m64_1, m64_2, m64_3, m64_7, m64_8, m64_9, m64_10, m64_13, m64_20, m64_27, m64_60]
    exact ⟨h1, h2⟩
/-- what the class's Orders hold behind j orders -/
def CO (h : Mem) (n : Nat) (q : Nat × Option (Nat × Nat)) : Prop := h 13 0 0 0 = nI q.1 ∧ (q.2 = none → h 13 1 0 0 = nI 41) ∧ ∀ r, q.2 = some r → h 13 1 0 0 = nI r.1 ∧ ∀ i, i < 4 → h 14 0 0 i = nI (pS n r.2 i)
theorem CO_fr {h h' : Mem} {n : Nat} {q : Nat × Option (Nat × Nat)} (hC : CO h n q) (hF : ∀ k j o i, k = 13 ∨ k = 14 → h' k j o i = h k j o i) : CO h' n q :=
  ⟨(hF _ _ _ _ (by omega)).trans hC.1, fun e => (hF _ _ _ _ (by omega)).trans (hC.2.1 e), fun r e => ⟨(hF _ _ _ _ (by omega)).trans (hC.2.2 r e).1, fun i hi => (hF _ _ _ _ (by omega)).trans ((hC.2.2 r e).2 i hi)⟩⟩
theorem c_note {n j : Nat} {p : Nat → Option Nat} (hp : ∀ j s, p j = some s → s ≤ 40) (hj : j < 24) (hC : CO h n (oc p j)) (hu : ∀ i, i < 4 → h 15 0 0 i = nI (pS n j i)) : Ok (f_X4_note (on (-4) (p j)) h) (fun h' => CO h' n (oc p (j + 1)) ∧ ∀ k j o i, k ≠ 13 → k ≠ 14 → h' k j o i = h k j o i) := by
  obtain ⟨b1, b2, b3⟩ := oc_b hp j
  obtain ⟨c1, c2, c3⟩ := id hC
  unfold f_X4_note
  cases e : p j with
  | none =>
    rw [oc_n e]
    simp (disch := omega) only [wp_some, wp_obd, wp_ob2, wp_bnd, wp_gd, wp_ite, wp_true, wp_ff, ↓l_n1, ↓l_n2, ↓l_n3, ↓l_n4, ↓l_n10, ↓l_n20, l_0, l_1, l_2, l_3, l_4, l_5, l_6, l_7, l_8, l_9, l_10, l_13, l_14, l_15, l_16, l_20, l_21, l_24, l_27, l_28, l_30, l_31, l_32, l_35, l_36, l_39, l_40, l_41, l_43, l_44, l_45, l_46, l_47, l_48, l_49, l_56, l_57, l_59, l_60, l_79, l_97, l_122, l_160, l_237, l_255, l_320, l_999, l_1000, nI_add, pk_mul, nI_eq, nI_leI, nI_ltI, nI_clamp, inb_nI_iff, e_within, e_in32, e_asNumber, e_flag, decide_eq_true_eq, Sum.elim_inl, Sum.elim_inr, true_implies, not_true_eq_false, not_false_eq_true, false_implies, and_true, true_and, nI_nn, nn_nI, nn_nn, ↓reduceIte, if_true, if_false, Nat.le_refl, implies_true, Nat.lt_irrefl, and_self_left, win1, nI_le_s1, Nat.zero_le, up_s, up_o, Nat.zero_add, m64_0, m64_1, m64_2, m64_3, m64_7, m64_8, m64_9, m64_10, m64_13, m64_20, m64_27, m64_60, on_none]
    exact (show _ from hC)
  | some s =>
    have hs := hp j s e
    rw [oc_s e]
    cases e2 : (oc p j).2 with
    | none =>
      have c4 := c2 e2
      simp (disch := omega) only [wp_some, wp_obd, wp_ob2, wp_bnd, wp_gd, wp_ite, wp_true, wp_ff, ↓l_n1, ↓l_n2, ↓l_n3, ↓l_n4, ↓l_n10, ↓l_n20, l_0, l_1, l_2, l_3, l_4, l_5, l_6, l_7, l_8, l_9, l_10, l_13, l_14, l_15, l_16, l_20, l_21, l_24, l_27, l_28, l_30, l_31, l_32, l_35, l_36, l_39, l_40, l_41, l_43, l_44, l_45, l_46, l_47, l_48, l_49, l_56, l_57, l_59, l_60, l_79, l_97, l_122, l_160, l_237, l_255, l_320, l_999, l_1000, nI_add, pk_mul, nI_eq, nI_leI, nI_ltI, nI_clamp, inb_nI_iff, e_within, e_in32, e_asNumber, e_flag, decide_eq_true_eq, Sum.elim_inl, Sum.elim_inr, true_implies, not_true_eq_false, not_false_eq_true, false_implies, and_true, true_and, nI_nn, nn_nI, nn_nn, ↓reduceIte, if_true, if_false, Nat.le_refl, implies_true, Nat.lt_irrefl, and_self_left, win1, nI_le_s1, Nat.zero_le, up_s, up_o, Nat.zero_add, m64_0, m64_1, m64_2, m64_3, m64_7, m64_8, m64_9, m64_10, m64_13, m64_20, m64_27, m64_60, on_sm, c1, c4]
      refine ⟨fun w => by omega, fun _ => ?_⟩
      refine (c_order14 (u := pS n j) (fun i hi => by (try simp (disch := omega) only [up_s, up_o, and_self]); exact hu i hi)).mono ?_
      rintro h3 ⟨d1, d2⟩
      refine ⟨⟨?_, fun w => (by cases w), fun r w => ?_⟩, fun k j o i w1 w2 => ?_⟩
      · rw [d2 _ _ _ _ (by decide)]; (try simp (disch := omega) only [up_s, up_o, and_self])
      · cases w
        refine ⟨?_, d1⟩
        rw [d2 _ _ _ _ (by decide)]; (try simp (disch := omega) only [up_s, up_o, and_self])
      · rw [d2 _ _ _ _ w2]; (try simp (disch := omega) only [up_s, up_o, and_self])
    | some q =>
      obtain ⟨c4, c5⟩ := c3 q e2
      have hb := b3 q e2
      by_cases w : s < q.1
      · have w' : ¬ q.1 ≤ s := by omega
        dsimp only
        rw [if_pos w]
        simp (disch := omega) only [wp_some, wp_obd, wp_ob2, wp_bnd, wp_gd, wp_ite, wp_true, wp_ff, ↓l_n1, ↓l_n2, ↓l_n3, ↓l_n4, ↓l_n10, ↓l_n20, l_0, l_1, l_2, l_3, l_4, l_5, l_6, l_7, l_8, l_9, l_10, l_13, l_14, l_15, l_16, l_20, l_21, l_24, l_27, l_28, l_30, l_31, l_32, l_35, l_36, l_39, l_40, l_41, l_43, l_44, l_45, l_46, l_47, l_48, l_49, l_56, l_57, l_59, l_60, l_79, l_97, l_122, l_160, l_237, l_255, l_320, l_999, l_1000, nI_add, pk_mul, nI_eq, nI_leI, nI_ltI, nI_clamp, inb_nI_iff, e_within, e_in32, e_asNumber, e_flag, decide_eq_true_eq, Sum.elim_inl, Sum.elim_inr, true_implies, not_true_eq_false, not_false_eq_true, false_implies, and_true, true_and, nI_nn, nn_nI, nn_nn, ↓reduceIte, if_true, if_false, Nat.le_refl, implies_true, Nat.lt_irrefl, and_self_left, win1, nI_le_s1, Nat.zero_le, up_s, up_o, Nat.zero_add, m64_0, m64_1, m64_2, m64_3, m64_7, m64_8, m64_9, m64_10, m64_13, m64_20, m64_27, m64_60, on_sm, c1, c4, w']
        refine (c_order14 (u := pS n j) (fun i hi => by (try simp (disch := omega) only [up_s, up_o, and_self]); exact hu i hi)).mono ?_
        rintro h3 ⟨d1, d2⟩
        refine ⟨⟨?_, fun w => (by cases w), fun r w => ?_⟩, fun k j o i w1 w2 => ?_⟩
        · rw [d2 _ _ _ _ (by decide)]; (try simp (disch := omega) only [up_s, up_o, and_self])
        · cases w
          refine ⟨?_, d1⟩
          rw [d2 _ _ _ _ (by decide)]; (try simp (disch := omega) only [up_s, up_o, and_self])
        · rw [d2 _ _ _ _ w2]; (try simp (disch := omega) only [up_s, up_o, and_self])
      · have w' : q.1 ≤ s := by omega
        dsimp only
        rw [if_neg w]
        simp (disch := omega) only [wp_some, wp_obd, wp_ob2, wp_bnd, wp_gd, wp_ite, wp_true, wp_ff, ↓l_n1, ↓l_n2, ↓l_n3, ↓l_n4, ↓l_n10, ↓l_n20, l_0, l_1, l_2, l_3, l_4, l_5, l_6, l_7, l_8, l_9, l_10, l_13, l_14, l_15, l_16, l_20, l_21, l_24, l_27, l_28, l_30, l_31, l_32, l_35, l_36, l_39, l_40, l_41, l_43, l_44, l_45, l_46, l_47, l_48, l_49, l_56, l_57, l_59, l_60, l_79, l_97, l_122, l_160, l_237, l_255, l_320, l_999, l_1000, nI_add, pk_mul, nI_eq, nI_leI, nI_ltI, nI_clamp, inb_nI_iff, e_within, e_in32, e_asNumber, e_flag, decide_eq_true_eq, Sum.elim_inl, Sum.elim_inr, true_implies, not_true_eq_false, not_false_eq_true, false_implies, and_true, true_and, nI_nn, nn_nI, nn_nn, ↓reduceIte, if_true, if_false, Nat.le_refl, implies_true, Nat.lt_irrefl, and_self_left, win1, nI_le_s1, Nat.zero_le, up_s, up_o, Nat.zero_add, m64_0, m64_1, m64_2, m64_3, m64_7, m64_8, m64_9, m64_10, m64_13, m64_20, m64_27, m64_60, on_sm, c1, c4, w']
        refine ⟨⟨by (try simp (disch := omega) only [up_s, up_o, and_self]), fun w => (by cases w), fun r w => ?_⟩, fun k j o i w1 w2 => by (try simp (disch := omega) only [up_s, up_o, and_self])⟩
        cases w
        refine ⟨by (try simp (disch := omega) only [up_s, up_o, and_self]); exact c4, fun i hi => ?_⟩
        (try simp (disch := omega) only [up_s, up_o, and_self]); exact c5 i hi
theorem pX_lt {n j : Nat} (h : j + 1 < pL n) : pX n j = j + 1 := by unfold pX; rw [if_pos h]
theorem c_tryAll (hK : KN h B T) (hW : WN B T) {p : Nat → Option Nat} (hp : ∀ j, p j = srt (od B (pS (B 2 0) j)) 41) : Ok (f_X4_tryAll 0 1 h) (fun h' => CO h' (B 2 0) (oc p (pL (B 2 0))) ∧ FRA h h') := by
  have w2 := hW.1.2.2.1
  obtain ⟨⟨l1, l2, l3⟩, l4⟩ := ps_ok (B 2 0) w2
  have hp40 : ∀ j s, p j = some s → s ≤ 40 := fun j s e => by rw [hp] at e; have := srt_lt e; omega
  have hM2 := hK.1.2.2.1
  unfold f_X4_tryAll
  rw [wp_bnd, wp_bnd, wp_obd]
  refine (ok_up (K := fun h' => (∀ i, i < 4 → h' 15 0 0 i = nI i) ∧ ∀ k j o i, k ≠ 15 → h' k j o i = up (up h 13 0 0 0 (nI 0)) 13 1 0 0 (nI 41) k j o i) 4 (fun j z => z.1 = nI j ∧ (∀ i, i < j → z.2 15 0 0 i = nI i) ∧ ∀ k j o i, k ≠ 15 → z.2 k j o i = up (up h 13 0 0 0 (nI 0)) 13 1 0 0 (nI 41) k j o i) (by omega) ?_ ?_ _ ⟨rfl, fun i hi => by omega, fun _ _ _ _ _ => rfl⟩).mono ?_
  · rintro j ⟨x, z⟩ hj ⟨hx, h1, h2⟩
    dsimp only at hx h1 h2
    subst hx
    simp (disch := omega) only [wp_some, wp_obd, wp_ob2, wp_bnd, wp_gd, wp_ite, wp_true, wp_ff, ↓l_n1, ↓l_n2, ↓l_n3, ↓l_n4, ↓l_n10, ↓l_n20, l_0, l_1, l_2, l_3, l_4, l_5, l_6, l_7, l_8, l_9, l_10, l_13, l_14, l_15, l_16, l_20, l_21, l_24, l_27, l_28, l_30, l_31, l_32, l_35, l_36, l_39, l_40, l_41, l_43, l_44, l_45, l_46, l_47, l_48, l_49, l_56, l_57, l_59, l_60, l_79, l_97, l_122, l_160, l_237, l_255, l_320, l_999, l_1000, nI_add, pk_mul, nI_eq, nI_leI, nI_ltI, nI_clamp, inb_nI_iff, e_within, e_in32, e_asNumber, e_flag, decide_eq_true_eq, Sum.elim_inl, Sum.elim_inr, true_implies, not_true_eq_false, not_false_eq_true, false_implies, and_true, true_and, nI_nn, nn_nI, nn_nn, ↓reduceIte, if_true, if_false, Nat.le_refl, implies_true, Nat.lt_irrefl, and_self_left, win1, nI_le_s1, Nat.zero_le, up_s, up_o, Nat.zero_add, m64_0, m64_1, m64_2, m64_3, m64_7, m64_8, m64_9, m64_10, m64_13, m64_20, m64_27, m64_60]
    refine ⟨fun e => by omega, fun _ => ⟨by omega, fun i hi => ?_, fun k j' o i hh => ?_⟩⟩
    · by_cases e : i = j
      · subst e; (try simp (disch := omega) only [up_s, up_o, and_self])
      · rw [up_o (by omega)]; exact h1 i (by omega)
    · rw [up_o (by omega)]; exact h2 k j' o i hh
  · rintro ⟨x, z⟩ ⟨hx, h1, h2⟩
    dsimp only at hx h1 h2
    subst hx
    simp (disch := omega) only [wp_some, wp_obd, wp_ob2, wp_bnd, wp_gd, wp_ite, wp_true, wp_ff, ↓l_n1, ↓l_n2, ↓l_n3, ↓l_n4, ↓l_n10, ↓l_n20, l_0, l_1, l_2, l_3, l_4, l_5, l_6, l_7, l_8, l_9, l_10, l_13, l_14, l_15, l_16, l_20, l_21, l_24, l_27, l_28, l_30, l_31, l_32, l_35, l_36, l_39, l_40, l_41, l_43, l_44, l_45, l_46, l_47, l_48, l_49, l_56, l_57, l_59, l_60, l_79, l_97, l_122, l_160, l_237, l_255, l_320, l_999, l_1000, nI_add, pk_mul, nI_eq, nI_leI, nI_ltI, nI_clamp, inb_nI_iff, e_within, e_in32, e_asNumber, e_flag, decide_eq_true_eq, Sum.elim_inl, Sum.elim_inr, true_implies, not_true_eq_false, not_false_eq_true, false_implies, and_true, true_and, nI_nn, nn_nI, nn_nn, ↓reduceIte, if_true, if_false, Nat.le_refl, implies_true, Nat.lt_irrefl, and_self_left, win1, nI_le_s1, Nat.zero_le, up_s, up_o, Nat.zero_add, m64_0, m64_1, m64_2, m64_3, m64_7, m64_8, m64_9, m64_10, m64_13, m64_20, m64_27, m64_60]
    exact ⟨h1, h2⟩
  rintro e12 ⟨a1, a2⟩
  rw [wp_obd]
  refine (ok_up (K := fun h' => CO h' (B 2 0) (oc p (pL (B 2 0))) ∧ FRA h h') (pL (B 2 0)) (fun j z => z.1 = decide (j < pL (B 2 0)) ∧ z.2.1 = nI j ∧ CO z.2.2 (B 2 0) (oc p j) ∧ FRA h z.2.2 ∧ (j < pL (B 2 0) → ∀ i, i < 4 → z.2.2 15 0 0 i = nI (pS (B 2 0) j i))) (by omega) ?_ ?_ _ ⟨by simp [l1], rfl, ⟨?_, fun _ => ?_, fun r e => (by cases e)⟩, fun k j o i hr => ?_, fun _ i hi => ?_⟩).mono (fun a ha => wp_some.mpr ha)
  · rintro j ⟨b, x, z⟩ hj ⟨hb, hx, q1, q2, q3⟩
    dsimp only at hb hx q1 q2 q3
    have hb' : b = true := by rw [hb]; simp [hj]
    clear hb
    subst hx hb'
    obtain ⟨l5, l6, l7⟩ := l4 j hj
    have hWo : WF 999 (od B (pS (B 2 0) j)) := WF_od hW.1 hW.2.1 l5 l6
    simp (disch := omega) only [wp_some, wp_obd, wp_ob2, wp_bnd, wp_gd, wp_ite, wp_true, wp_ff, ↓l_n1, ↓l_n2, ↓l_n3, ↓l_n4, ↓l_n10, ↓l_n20, l_0, l_1, l_2, l_3, l_4, l_5, l_6, l_7, l_8, l_9, l_10, l_13, l_14, l_15, l_16, l_20, l_21, l_24, l_27, l_28, l_30, l_31, l_32, l_35, l_36, l_39, l_40, l_41, l_43, l_44, l_45, l_46, l_47, l_48, l_49, l_56, l_57, l_59, l_60, l_79, l_97, l_122, l_160, l_237, l_255, l_320, l_999, l_1000, nI_add, pk_mul, nI_eq, nI_leI, nI_ltI, nI_clamp, inb_nI_iff, e_within, e_in32, e_asNumber, e_flag, decide_eq_true_eq, Sum.elim_inl, Sum.elim_inr, true_implies, not_true_eq_false, not_false_eq_true, false_implies, and_true, true_and, nI_nn, nn_nI, nn_nn, ↓reduceIte, if_true, if_false, Nat.le_refl, implies_true, Nat.lt_irrefl, and_self_left, win1, nI_le_s1, Nat.zero_le, up_s, up_o, Nat.zero_add, m64_0, m64_1, m64_2, m64_3, m64_7, m64_8, m64_9, m64_10, m64_13, m64_20, m64_27, m64_60]
    refine ⟨fun e => by omega, fun _ => ?_⟩
    refine (t_copy (KN_fra hK q2) hW).mono ?_
    rintro h1 ⟨b1, b2, b3⟩
    refine (c_order5 (u := pS (B 2 0) j) b1 b2 hW.1.2.2.2.2.2.2.1 (fun i hi => (b3 _ _ _ _ (by omega)).trans (q3 hj i hi))).mono ?_
    rintro h2 ⟨c1, c2, c3⟩
    refine (c_sorted40 c1 c2 hWo (by omega)).mono ?_
    rintro ⟨r, h3⟩ ⟨d1, d2⟩
    dsimp only at d1 d2
    rw [← hp] at d1
    subst d1
    have hF3 : FrO z h3 1 := b3.tr (c3.tr d2)
    refine (c_note hp40 (by omega) (CO_fr q1 (fun k j o i hh => hF3 _ _ _ _ (by omega))) (fun i hi => (hF3 _ _ _ _ (by omega)).trans (q3 hj i hi))).mono ?_
    rintro h4 ⟨e1, e2⟩
    have f2 : h4 1 4 0 0 = nI (B 2 0) := by rw [e2 _ _ _ _ (by decide) (by decide), hF3 _ _ _ _ (by omega), q2 _ _ _ _ (by unfold rsa; omega)]; exact hM2
    rw [f2]
    refine (t_next w2 hj (fun i hi => ?_)).mono ?_
    · rw [e2 _ _ _ _ (by decide) (by decide), hF3 _ _ _ _ (by omega)]; exact q3 hj i hi
    rintro ⟨r, h5⟩ ⟨g1, g2, g3⟩
    dsimp only at g1 g2 g3
    refine ⟨g1, CO_fr e1 (fun k j o i hh => g3 _ _ _ _ (by omega)), fun k a o i hr => ?_, fun w i hi => ?_⟩
    · have hr' := hr
      unfold rsa at hr'
      show h5 k a o i = _
      rw [g3 _ _ _ _ (by omega), e2 _ _ _ _ (by omega) (by omega), hF3 _ _ _ _ (by omega)]
      exact q2 _ _ _ _ hr
    · rw [← pX_lt w]; exact g2 i hi
  · rintro ⟨b, x, z⟩ ⟨hb, hx, q1, q2, q3⟩
    dsimp only at hb hx q1 q2 q3
    have hb' : b = false := by rw [hb]; simp
    clear hb
    subst hx hb'
    simp (disch := omega) only [wp_some, wp_obd, wp_ob2, wp_bnd, wp_gd, wp_ite, wp_true, wp_ff, ↓l_n1, ↓l_n2, ↓l_n3, ↓l_n4, ↓l_n10, ↓l_n20, l_0, l_1, l_2, l_3, l_4, l_5, l_6, l_7, l_8, l_9, l_10, l_13, l_14, l_15, l_16, l_20, l_21, l_24, l_27, l_28, l_30, l_31, l_32, l_35, l_36, l_39, l_40, l_41, l_43, l_44, l_45, l_46, l_47, l_48, l_49, l_56, l_57, l_59, l_60, l_79, l_97, l_122, l_160, l_237, l_255, l_320, l_999, l_1000, nI_add, pk_mul, nI_eq, nI_leI, nI_ltI, nI_clamp, inb_nI_iff, e_within, e_in32, e_asNumber, e_flag, decide_eq_true_eq, Sum.elim_inl, Sum.elim_inr, true_implies, not_true_eq_false, not_false_eq_true, false_implies, and_true, true_and, nI_nn, nn_nI, nn_nn, ↓reduceIte, if_true, if_false, Nat.le_refl, implies_true, Nat.lt_irrefl, and_self_left, win1, nI_le_s1, Nat.zero_le, up_s, up_o, Nat.zero_add, m64_0, m64_1, m64_2, m64_3, m64_7, m64_8, m64_9, m64_10, m64_13, m64_20, m64_27, m64_60]
    exact ⟨fun _ => ⟨q1, q2⟩, fun _ => ⟨q1, q2⟩⟩
  · show e12 13 0 0 0 = nI 0
    rw [a2 _ _ _ _ (by decide)]; (try simp (disch := omega) only [up_s, up_o, and_self])
  · show e12 13 1 0 0 = nI 41
    rw [a2 _ _ _ _ (by decide)]; (try simp (disch := omega) only [up_s, up_o, and_self])
  · unfold rsa at hr
    show e12 k j o i = _
    rw [a2 _ _ _ _ (by omega)]; (try simp (disch := omega) only [up_s, up_o, and_self])
  · show e12 15 0 0 i = _
    rw [l3 i hi]; exact a1 i hi
end Tri
