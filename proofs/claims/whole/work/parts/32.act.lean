/-- nothing but the reference's trial arrays, its drops, its clock and how many act has changed -/
def FrM (g g' : Mem) : Prop := ∀ k j o i, (k < 24 ∨ (24 < k ∧ k < 29) ∨ 37 < k ∨ (k = 24 ∧ j ≠ 26 ∧ j ≠ 27)) → g' k j o i = g k j o i
theorem FrM.rf {g : Mem} : FrM g g := fun _ _ _ _ _ => rfl
theorem FrM.tr {g g' g'' : Mem} (h1 : FrM g g') (h2 : FrM g' g'') : FrM g g'' := fun k j o i h => (h2 k j o i h).trans (h1 k j o i h)
theorem FrM.up {g : Mem} {k j o i : Nat} {v : Int32} (hk : 29 ≤ k ∧ k ≤ 37) : FrM g (up g k j o i v) := by
  intro k' j' o' i' h
  unfold _root_.Jvm.Pilot.@@N@@.up
  rw [if_neg]
  rintro ⟨rfl, -⟩
  rcases h with h | h | h | h <;> omega
theorem FrB.rf {h : Mem} {o : Nat} : FrB h h o := fun _ _ _ _ _ => rfl
theorem FrB.tr {h h' h'' : Mem} {o : Nat} (h1 : FrB h h' o) (h2 : FrB h' h'' o) : FrB h h'' o := fun k j o i h => (h2 k j o i h).trans (h1 k j o i h)
theorem FrB.up {h : Mem} {k j o i : Nat} {v : Int32} (hk : 1 ≤ k ∧ k ≤ 7 ∧ ¬ (k = 6 ∧ j = 3)) : FrB h (up h k j o i v) o := by
  intro k' j' o' i' hh
  unfold _root_.Jvm.Pilot.@@N@@.up
  rw [if_neg]
  rintro ⟨rfl, rfl, rfl, -⟩
  rcases hh with hh | hh | hh | hh
  · exact hh rfl
  · omega
  · omega
  · exact hk.2.2 hh
theorem MT_31 {g : Mem} {B : Bs} {c v : Nat} (h : MT g B) : MT (up g 31 0 0 c (nI v)) (ub B 11 c v) := by
  obtain ⟨hM0, hM1, hM2, hM3, hM4, hM5, hM6, hM7, hM8, hM9, hM10⟩ := h
  refine ⟨by simpa [up, ub] using hM0, by simpa [up, ub] using hM1, by simpa [up, ub] using hM2, by simpa [up, ub] using hM3, by simpa [up, ub] using hM4, by simpa [up, ub] using hM5, by simpa [up, ub] using hM6, by simpa [up, ub] using hM7, by simpa [up, ub] using hM8, ?_, by simpa [up, ub] using hM10⟩
  intro d hd
  have := hM9 d (by simpa [ub] using hd)
  refine ⟨by simpa [up, ub] using this.1, by simpa [up, ub] using this.2.1, ?_⟩
  by_cases e : d = c
  · simp [up, ub, e]
  · simpa [up, ub, e] using this.2.2
theorem MT_35 {g : Mem} {B : Bs} {k v : Nat} (h : MT g B) : MT (up g 35 0 0 k (nI v)) (ub B 15 k v) := by
  obtain ⟨hM0, hM1, hM2, hM3, hM4, hM5, hM6, hM7, hM8, hM9, hM10⟩ := h
  refine ⟨by simpa [up, ub] using hM0, by simpa [up, ub] using hM1, by simpa [up, ub] using hM2, by simpa [up, ub] using hM3, by simpa [up, ub] using hM4, by simpa [up, ub] using hM5, by simpa [up, ub] using hM6, by simpa [up, ub] using hM7, by simpa [up, ub] using hM8, by simpa [up, ub] using hM9, ?_⟩
  intro d hd
  have := hM10 d (by simpa [ub] using hd)
  refine ⟨by simpa [up, ub] using this.1, by simpa [up, ub] using this.2.1, by simpa [up, ub] using this.2.2.1, ?_⟩
  by_cases e : d = k
  · simp [up, ub, e]
  · simpa [up, ub, e] using this.2.2.2
theorem CB0_62 {h : Mem} {o : Nat} {B : Bs} {c v : Nat} (hC : CB0 h o B) : CB0 (up h 6 2 o c (nI v)) o (ub B 11 c v) := by
  obtain ⟨hM0, hM1, hM2, hM3, hM4, hM5, hM6, hM7, hM8, hM9, hM10⟩ := hC
  refine ⟨by simpa [up, ub] using hM0, by simpa [up, ub] using hM1, by simpa [up, ub] using hM2, by simpa [up, ub] using hM3, by simpa [up, ub] using hM4, by simpa [up, ub] using hM5, by simpa [up, ub] using hM6, by simpa [up, ub] using hM7, by simpa [up, ub] using hM8, ?_, by simpa [up, ub] using hM10⟩
  intro d hd
  have := hM9 d (by simpa [ub] using hd)
  refine ⟨by simpa [up, ub] using this.1, by simpa [up, ub] using this.2.1, ?_⟩
  by_cases e : d = c
  · simp [up, ub, e]
  · simpa [up, ub, e] using this.2.2
theorem CB0_73 {h : Mem} {o : Nat} {B : Bs} {k v : Nat} (hC : CB0 h o B) : CB0 (up h 7 3 o k (nI v)) o (ub B 15 k v) := by
  obtain ⟨hM0, hM1, hM2, hM3, hM4, hM5, hM6, hM7, hM8, hM9, hM10⟩ := hC
  refine ⟨by simpa [up, ub] using hM0, by simpa [up, ub] using hM1, by simpa [up, ub] using hM2, by simpa [up, ub] using hM3, by simpa [up, ub] using hM4, by simpa [up, ub] using hM5, by simpa [up, ub] using hM6, by simpa [up, ub] using hM7, by simpa [up, ub] using hM8, by simpa [up, ub] using hM9, ?_⟩
  intro d hd
  have := hM10 d (by simpa [ub] using hd)
  refine ⟨by simpa [up, ub] using this.1, by simpa [up, ub] using this.2.1, by simpa [up, ub] using this.2.2.1, ?_⟩
  by_cases e : d = k
  · simp [up, ub, e]
  · simpa [up, ub, e] using this.2.2.2
theorem CB0_74 {h : Mem} {o : Nat} {B : Bs} {k : Nat} {v : Int32} (hC : CB0 h o B) : CB0 (up h 7 4 o k v) o B := by
  obtain ⟨hM0, hM1, hM2, hM3, hM4, hM5, hM6, hM7, hM8, hM9, hM10⟩ := hC
  exact ⟨by simpa [up] using hM0, by simpa [up] using hM1, by simpa [up] using hM2, by simpa [up] using hM3, by simpa [up] using hM4, by simpa [up] using hM5, by simpa [up] using hM6, by simpa [up] using hM7, by simpa [up] using hM8, by simpa [up] using hM9, by simpa [up] using hM10⟩
theorem nI_dec {a : Nat} (h : 1 ≤ a) : nI a - 1 = nI (a - 1) := by
  have := nI_sub1 (a - 1)
  rwa [show a - 1 + 1 = a by omega] at this
theorem rem_nI {a d : Nat} (ha : a < 2 ^ 31) (h0 : 0 < d) (hd : d < 2 ^ 31) : nI a - nI a / nI d * nI d = nI (a % d) := pk_rem ha h0 hd
theorem wlk_mod {B : Bs} {S k : Nat} (hW : WF S B) (hk : k < B 2 0) : wlk B k = if B 14 k = 0 then (B 15 k + B 0 0 - 1) % B 0 0 else (B 15 k + 1) % B 0 0 := by
  have h1 := hW.1
  have h2 := (hW.2.2.2.2.2.2.2.2.2.2.2.2 k hk).2.2.2
  unfold wlk
  by_cases h3 : B 14 k = 0
  · simp only [h3, if_true]
    by_cases h4 : B 15 k = 0
    · simp only [h4, if_true, Nat.zero_add]
      rw [Nat.mod_eq_of_lt (by omega)]
    · simp only [h4, if_false]
      rw [show B 15 k + B 0 0 - 1 = (B 15 k - 1) + B 0 0 by omega, Nat.add_mod_right, Nat.mod_eq_of_lt (by omega)]
  · simp only [h3, if_false]
    by_cases h4 : B 15 k + 1 = B 0 0
    · simp only [h4, if_true, Nat.mod_self]
    · simp only [h4, if_false]
      rw [Nat.mod_eq_of_lt (by omega)]
theorem m_does {g : Mem} {B : Bs} {S k : Nat} (hM : MT g B) (hW : WF S B) (hk : k < B 2 0) : Ok (f_X10_does (nI k) g) (fun g' => MT g' (act B k) ∧ FrM g g') := by
  have hM' := hM
  have hW' := hW
  obtain ⟨hM0, hM1, hM2, hM3, hM4, hM5, hM6, hM7, hM8, hM9, hM10⟩ := hM
  obtain ⟨hW0, hW1, hW2, hW3, hW4, hW5, hW6, hW7, hW8, hW9, hW10, hW11, hW12⟩ := hW
  obtain ⟨p1, p2, p3, p4⟩ := hM10 k hk
  obtain ⟨q1, q2, q3, q4⟩ := hW12 k hk
  have q5 := hW7 (B 15 k) (by omega)
  unfold f_X10_does
  apply ok_obd
  refine ok_eq (m_heldBy hM' hW' (by omega)) ?_
  refine ok_gd (inb_nI (by omega) (by decide)) (ok_bnd ?_)
  have e1 : g 35 0 0 (nI k).toNatClampNeg = nI (B 15 k) := by rw [nI_clamp (by omega)]; exact p4
  have e2 : g 33 0 0 (nI k).toNatClampNeg = nI (B 13 k) := by rw [nI_clamp (by omega)]; exact p2
  have e3 : g 34 0 0 (nI k).toNatClampNeg = nI (B 14 k) := by rw [nI_clamp (by omega)]; exact p3
  have e4 : g 29 0 0 (nI (B 15 k)).toNatClampNeg = nI (B 7 (B 15 k)) := by rw [nI_clamp (by omega)]; exact hM7 _ (by omega)
  rw [e1]
  apply ok_obd
  have walk : act B k = ub B 15 k (wlk B k) → (hd B k = none → lyf B k = none) → Ok (obd (if on (-4) (hd B k) = -4 then obd (f_X10_lyingFor (nI k) g) (fun r7 => some r7) else some (-4 : Int32)) (fun a8 => (if a8 = (-4 : Int32) then gd (inb (nI k) 4) (obd ((if (g 34 0 0 (nI k).toNatClampNeg) = 0 then gd (¬ (g 24 2 0 0) = 0) (some (((nI (B 15 k) + (g 24 2 0 0)) - (1 : Int32)) - ((nI (B 15 k) + (g 24 2 0 0)) - (1 : Int32)) / (g 24 2 0 0) * (g 24 2 0 0))) else gd (¬ (g 24 2 0 0) = 0) (some ((nI (B 15 k) + (1 : Int32)) - (nI (B 15 k) + (1 : Int32)) / (g 24 2 0 0) * (g 24 2 0 0))))) (fun a9 => gd (inb (nI k) 4) (bnd (up g 35 0 0 (nI k).toNatClampNeg a9) (fun h10 => some h10)))) else gd (inb a8 6) (bnd (up g 31 0 0 a8.toNatClampNeg ((10 : Int32) + nI k)) (fun h11 => some h11))))) (fun g' => MT g' (act B k) ∧ FrM g g') := by
    intro ha hl
    apply ok_obd
    have hx : Ok (if on (-4) (hd B k) = -4 then obd (f_X10_lyingFor (nI k) g) (fun r7 => some r7) else some (-4 : Int32)) (fun r => r = -4) := by
      refine ok_ite (fun hc => ?_) (fun _ => ok_some rfl)
      have hn : hd B k = none := by
        cases hz : hd B k with
        | none => rfl
        | some c => rw [hz] at hc; exact absurd hc (nI_neg4 (by have := (hd_some hz).1; omega))
      apply ok_obd
      refine ok_eq (m_lyingFor hM' hW' hk) (ok_some ?_)
      rw [hl hn]; rfl
    refine hx.mono (fun a ea => ?_)
    subst ea
    rw [if_pos rfl]
    refine ok_gd (inb_nI (by omega) (by decide)) ?_
    apply ok_obd
    rw [e3, hM0]
    have hne : ¬ nI (B 0 0) = 0 := nI_ne0 (by omega) (by omega)
    have hv : Ok (if nI (B 14 k) = 0 then gd (¬ nI (B 0 0) = 0) (some (((nI (B 15 k) + nI (B 0 0)) - (1 : Int32)) - ((nI (B 15 k) + nI (B 0 0)) - (1 : Int32)) / nI (B 0 0) * nI (B 0 0))) else gd (¬ nI (B 0 0) = 0) (some ((nI (B 15 k) + (1 : Int32)) - (nI (B 15 k) + (1 : Int32)) / nI (B 0 0) * nI (B 0 0)))) (fun r => r = nI (wlk B k)) := by
      rw [wlk_mod hW' hk]
      refine ok_ite (fun hc => ?_) (fun hc => ?_)
      · have hc : B 14 k = 0 := nI_inj (by omega) (by decide) hc
        refine ok_gd hne (ok_some ?_)
        rw [if_pos hc, nI_add, nI_dec (by omega), rem_nI (by omega) (by omega) (by omega)]
      · have hc : ¬ B 14 k = 0 := fun e => hc (by rw [e]; rfl)
        refine ok_gd hne (ok_some ?_)
        rw [if_neg hc, nI_1, rem_nI (by omega) (by omega) (by omega)]
    refine hv.mono (fun a ea => ?_)
    subst ea
    refine ok_gd (inb_nI (by omega) (by decide)) (ok_bnd (ok_some ?_))
    rw [nI_clamp (by omega), ha]
    exact ⟨MT_35 hM', FrM.up (by decide)⟩
  cases hz : hd B k with
  | some c =>
    obtain ⟨c1, c2⟩ := hd_some hz
    rw [hz] at walk
    have hne : ¬ on (-4) (some c) = -4 := nI_neg4 (by omega)
    rw [if_neg hne]
    refine ok_gd (inb_nI (by omega) (by decide)) ?_
    rw [e4]
    have hact : act B k = if B 13 k ≤ B 7 (B 15 k) then ub B 11 c (20 + B 15 k) else ub B 15 k (wlk B k) := by unfold act; rw [hz]
    refine ok_ite (fun h0 => ?_) (fun h0 => ?_)
    · have h0 : B 7 (B 15 k) = 0 := by
        have := (nI_leI (by omega) (by decide) : nI (B 7 (B 15 k)) ≤ nI 0 ↔ _).mp h0
        omega
      refine ok_some ?_
      refine walk ?_ (fun h => by cases h)
      rw [hact, if_neg (by omega)]
    · refine ok_gd (inb_nI (by omega) (by decide)) (ok_gd (inb_nI (by omega) (by decide)) ?_)
      rw [e2]
      refine ok_ite (fun h1 => ?_) (fun h1 => ?_)
      · have h1 := (nI_ltI (by omega) (by omega)).mp h1
        refine ok_some ?_
        refine walk ?_ (fun h => by cases h)
        rw [hact, if_neg (by omega)]
      · have h1 : ¬ B 7 (B 15 k) < B 13 k := fun h => h1 ((nI_ltI (by omega) (by omega)).mpr h)
        refine ok_gd (inb_nI (by omega) (by decide)) (ok_bnd (ok_some (ok_some ?_)))
        show MT (up g 31 0 0 (nI c).toNatClampNeg (20 + nI (B 15 k))) (act B k) ∧ _
        rw [hact, if_pos (by omega), nI_clamp (by omega), nI_twenty]
        exact ⟨MT_31 hM', FrM.up (by decide)⟩
  | none =>
    rw [hz] at walk
    rw [if_pos (show on (-4) none = -4 from rfl)]
    refine ok_some ?_
    cases hy : lyf B k with
    | none =>
      exact walk (by unfold act; rw [hz, hy]) (fun _ => hy)
    | some c =>
      obtain ⟨c1, c2⟩ := lyf_some hy
      dsimp only [Sum.elim]
      apply ok_obd
      rw [if_pos (show on (-4) none = -4 from rfl)]
      apply ok_obd
      refine ok_eq (m_lyingFor hM' hW' hk) (ok_some ?_)
      rw [hy]
      rw [if_neg (show ¬ on (-4) (some c) = -4 from nI_neg4 (by omega))]
      refine ok_gd (inb_nI (by omega) (by decide)) (ok_bnd (ok_some ?_))
      show MT (up g 31 0 0 (nI c).toNatClampNeg (10 + nI k)) (act B k) ∧ _
      have hact : act B k = ub B 11 c (10 + k) := by unfold act; rw [hz, hy]
      rw [hact, nI_clamp (by omega), nI_ten]
      exact ⟨MT_31 hM', FrM.up (by decide)⟩
