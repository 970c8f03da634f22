abbrev Flt : Type := Nat × Nat
abbrev Lst : Type := Nat × Bs × Bool × Bool × Nat
def rb {α β : Type} (x : Flt ⊕ α) (f : α → Flt ⊕ β) : Flt ⊕ β := match x with
  | .inl e => .inl e
  | .inr a => f a
theorem rb_l {α β : Type} {e : Flt} {f : α → Flt ⊕ β} : rb (.inl e) f = .inl e := rfl
theorem rb_r {α β : Type} {a : α} {f : α → Flt ⊕ β} : rb (.inr a) f = f a := rfl
section Spec
variable (t : Nat) (u : Nat → Nat)
/-- a number that is told at s -/
def num (lo hi s : Nat) : Flt ⊕ (Nat × Nat) := if tkd t u s = 4 ∨ (tkd t u s = 2 ∧ 2 < tb t u s - ta t u s) then .inl (1, ta t u s) else if tkd t u s = 2 then (if lo ≤ tv t u s ∧ tv t u s ≤ hi then .inr (tv t u s, tb t u s) else .inl (3, ta t u s)) else .inl (2, ta t u s)
/-- the stop of a line at s -/
def stop (s : Nat) : Flt ⊕ Nat := if tkd t u s = 4 ∨ (tkd t u s = 2 ∧ 2 < tb t u s - ta t u s) then .inl (1, ta t u s) else if tkd t u s = 3 then .inr (tb t u s) else .inl (2, ta t u s)
/-- a new crab -/
def crb (B : Bs) (d c z x : Nat) : Bs := fun f i => if i = B 2 0 ∧ f = 14 then d else if i = B 2 0 ∧ f = 12 then c else if i = B 2 0 ∧ f = 13 then z else if i = B 2 0 ∧ f = 15 then x else if i = B 2 0 ∧ f = 8 then B 2 0 else if i = 0 ∧ (f = 2 ∨ f = 6) then B 2 0 + 1 else B f i
def lPlaces (a b : Nat) (B : Bs) (pt tt : Bool) (hi : Nat) : Flt ⊕ Lst := if pt = true then .inl (4, a) else rb (num t u 2 8 b) (fun q => rb (stop t u q.2) (fun e => .inr (e, ub B 0 0 q.1, true, tt, hi)))
def lTide (a b : Nat) (B : Bs) (pt tt : Bool) (hi : Nat) : Flt ⊕ Lst := if tt = true then .inl (4, a) else rb (num t u 1 9 b) (fun q => rb (num t u 0 8 q.2) (fun r => rb (stop t u r.2) (fun e => .inr (e, ub (ub B 3 0 q.1) 4 0 r.1, pt, true, hi))))
def lHole (b : Nat) (B : Bs) (pt tt : Bool) (hi : Nat) : Flt ⊕ Lst := rb (num t u 0 7 b) (fun q => if B 7 q.1 = 0 then rb (num t u 1 9 q.2) (fun r => rb (stop t u r.2) (fun e => .inr (e, ub B 7 q.1 r.1, pt, tt, max hi (q.1 + 1)))) else .inl (4, ta t u b))
def lCoin (a b : Nat) (B : Bs) (pt tt : Bool) (hi : Nat) : Flt ⊕ Lst := if 6 ≤ B 1 0 then .inl (5, a) else rb (num t u 1 9 b) (fun q => rb (num t u 0 7 q.2) (fun r => if tkd t u r.2 = 4 ∨ (tkd t u r.2 = 2 ∧ 2 < tb t u r.2 - ta t u r.2) then .inl (1, ta t u r.2) else if nm t u r.2 3 = true then rb (stop t u (tb t u r.2)) (fun e => .inr (e, ub (mnt B q.1 r.1) 10 (B 1 0) 1, pt, tt, max hi (r.1 + 1))) else if tkd t u r.2 = 3 then .inr (tb t u r.2, mnt B q.1 r.1, pt, tt, max hi (r.1 + 1)) else .inl (2, ta t u r.2)))
def lCrab (a b : Nat) (B : Bs) (pt tt : Bool) (hi : Nat) : Flt ⊕ Lst := if 4 ≤ B 2 0 then .inl (5, a) else if tkd t u b = 4 ∨ (tkd t u b = 2 ∧ 2 < tb t u b - ta t u b) then .inl (1, ta t u b) else if nm t u b 5 = true ∨ nm t u b 6 = true then rb (num t u 1 9 (tb t u b)) (fun q => rb (num t u 1 9 q.2) (fun r => rb (num t u 0 7 r.2) (fun w => rb (stop t u w.2) (fun e => .inr (e, crb B (if nm t u b 5 = true then 1 else 0) q.1 r.1 w.1, pt, tt, max hi (w.1 + 1)))))) else .inl (2, ta t u b)
def line (s : Nat) (B : Bs) (pt tt : Bool) (hi : Nat) : Flt ⊕ Lst := if lk t u s = 0 then lPlaces t u (ta t u s) (tb t u s) B pt tt hi else if lk t u s = 1 then lTide t u (ta t u s) (tb t u s) B pt tt hi else if lk t u s = 2 then lHole t u (tb t u s) B pt tt hi else if lk t u s = 3 then lCoin t u (ta t u s) (tb t u s) B pt tt hi else if lk t u s = 4 then lCrab t u (ta t u s) (tb t u s) B pt tt hi else .inl (2, ta t u s)
end Spec
/-- a beach that is told: all lies, places may be missing -/
def PW (B : Bs) : Prop := (2 ≤ B 0 0 ∧ B 0 0 ≤ 8) ∧ B 1 0 ≤ 6 ∧ B 2 0 ≤ 4 ∧ B 3 0 ≤ 9 ∧ B 4 0 ≤ 8 ∧ B 5 0 = 0 ∧ (∀ x, x < 8 → B 7 x ≤ 9) ∧ NO B ∧ (∀ c, c < B 1 0 → (1 ≤ B 9 c ∧ B 9 c ≤ 9) ∧ B 10 c ≤ 1 ∧ B 11 c < 8) ∧ (∀ k, k < B 2 0 → (1 ≤ B 12 k ∧ B 12 k ≤ 9) ∧ (1 ≤ B 13 k ∧ B 13 k ≤ 9) ∧ B 14 k ≤ 1 ∧ B 15 k < 8)
/-- hi is one above the highest place that is told -/
def HI (B : Bs) (hi : Nat) : Prop := hi ≤ 8 ∧ (∀ x, x < 8 → B 7 x ≠ 0 → x < hi) ∧ (∀ c, c < B 1 0 → B 11 c < hi) ∧ (∀ k, k < B 2 0 → B 15 k < hi) ∧ (0 < hi → (∃ x, x < 8 ∧ B 7 x ≠ 0 ∧ x + 1 = hi) ∨ (∃ c, c < B 1 0 ∧ B 11 c + 1 = hi) ∨ (∃ k, k < B 2 0 ∧ B 15 k + 1 = hi))
def TF (h h' : Mem) : Prop := ∀ k j o i, ¬ (k = 16 ∧ j ≠ 4 ∧ j ≠ 5) → h' k j o i = h k j o i
def GF (h h' : Mem) : Prop := ∀ k j o i, ¬ (k = 16 ∨ (1 ≤ k ∧ k ≤ 7 ∧ o = 2)) → h' k j o i = h k j o i
def BC (h : Mem) (B : Bs) : Prop := CB0 h 2 B ∧ ∀ k, k < B 2 0 → h 7 4 2 k = nn 1
def FG (h : Mem) (pt tt : Bool) : Prop := h 16 4 0 0 = b2i pt ∧ h 16 5 0 0 = b2i tt
def FTl (h : Mem) (f : Flt) : Prop := h 16 2 0 0 = nI f.1 ∧ h 16 3 0 0 = nI f.2
theorem TF.tr {h h' h'' : Mem} (h1 : TF h h') (h2 : TF h' h'') : TF h h'' := fun k j o i h => (h2 k j o i h).trans (h1 k j o i h)
theorem GF.rf {h : Mem} : GF h h := fun _ _ _ _ _ => rfl
theorem GF.tr {h h' h'' : Mem} (h1 : GF h h') (h2 : GF h' h'') : GF h h'' := fun k j o i h => (h2 k j o i h).trans (h1 k j o i h)
theorem GF.up {h : Mem} {k j o i : Nat} {v : Int32} (hk : k = 16 ∨ (1 ≤ k ∧ k ≤ 7 ∧ o = 2)) : GF h (up h k j o i v) := fun k' j' o' i' hh => up_o (by omega)
theorem TF.g {h h' : Mem} (hF : TF h h') : GF h h' := fun k j o i hh => hF k j o i (by omega)
theorem BC_tf {h h' : Mem} {B : Bs} (hB : BC h B) (hF : TF h h') : BC h' B := ⟨CB0_fr hB.1 (fun k j i a b => hF _ _ _ _ (by omega)), fun k hk => (hF _ _ _ _ (by omega)).trans (hB.2 k hk)⟩
theorem FG_tf {h h' : Mem} {p q : Bool} (hB : FG h p q) (hF : TF h h') : FG h' p q := ⟨(hF _ _ _ _ (by omega)).trans hB.1, (hF _ _ _ _ (by omega)).trans hB.2⟩
theorem BC_16 {h : Mem} {B : Bs} {j : Nat} {v : Int32} (hB : BC h B) : BC (up h 16 j 0 0 v) B := ⟨CB0_fr hB.1 (fun k' j i a b => up_o (by omega)), fun k hk => (up_o (by omega)).trans (hB.2 k hk)⟩
theorem CT_gf {h h' : Mem} {t : Nat} {u : Nat → Nat} (hC : CT h t u) (hF : GF h h') : CT h' t u := CT_fr hC (fun k j o i hh => hF _ _ _ _ (by omega))
theorem CB_0 {h : Mem} {o : Nat} {B : Bs} {v : Nat} (hC : CB0 h o B) : CB0 (up h 1 0 o 0 (nI v)) o (ub B 0 0 v) := by
  obtain ⟨hM0, hM1, hM2, hM3, hM4, hM5, hM6, hM7, hM8, hM9, hM10⟩ := hC
  exact ⟨by simp [up, ub], by simpa [up, ub] using hM1, by simpa [up, ub] using hM2, by simpa [up, ub] using hM3, by simpa [up, ub] using hM4, by simpa [up, ub] using hM5, by simpa [up, ub] using hM6, by simpa [up, ub] using hM7, by simpa [up, ub] using hM8, by simpa [up, ub] using hM9, by simpa [up, ub] using hM10⟩
theorem FTl_mk (h : Mem) (c a : Nat) (w : Int32) (hw : w = nI a) : FTl (up (up h 16 2 0 0 (nI c)) 16 3 0 0 w) (c, a) := ⟨by rw [up_o (by omega), up_s], by rw [up_s]; exact hw⟩
section Cl
variable {h g : Mem} {t : Nat} {u : Nat → Nat} {s : Nat}
theorem c_num (hC : CT h t u) (hU : UB t u) (hs : s ≤ t) (h8 : h 16 8 0 0 = nI s) (h2 : h 16 2 0 0 = nI 0) {lo hi : Nat} (hl : lo ≤ 9) (hh : hi ≤ 9) : Ok (f_X8_takeNumber (nI lo) (nI hi) h) (fun q => TF h q.2 ∧ ((∃ f, num t u lo hi s = .inl f ∧ (1 ≤ f.1 ∧ f.1 ≤ 6) ∧ q.1 = false ∧ FTl q.2 f) ∨ (∃ v e, num t u lo hi s = .inr (v, e) ∧ lo ≤ v ∧ v ≤ hi ∧ s < e ∧ e ≤ t ∧ q.1 = true ∧ q.2 16 9 0 0 = nI v ∧ q.2 16 8 0 0 = nI e ∧ q.2 16 7 0 0 = nI (ta t u s) ∧ q.2 16 2 0 0 = nI 0))) := by
  have ha := ta_b (u := u) hs
  have hb := tb_b (u := u) hs
  have hk4 : tkd t u s ≤ 4 := by
    unfold tkd; split
    · exact (kd_b _).2
    · omega
  have hbad : bad t u s ↔ tkd t u s = 4 ∨ (tkd t u s = 2 ∧ 2 < tb t u s - ta t u s) := Iff.rfl
  unfold f_X8_takeNumber num
  rw [wp_ob2]
  refine (c_token hC hU hs h8).mono ?_
  rintro ⟨r, h1⟩ ⟨a1, a2, a3, a4⟩
  dsimp only at a1 a2 a3 a4
  have hTF : TF h h1 := fun k j o i hh => a4 _ _ _ _ (by omega)
  by_cases q : bad t u s
  · obtain ⟨rfl, b2, b3⟩ := a2 q
    refine ok_ite (fun e => by cases e) (fun _ => ok_some ⟨hTF, Or.inl ⟨(1, ta t u s), by rw [if_pos (hbad.mp q)], (show 1 ≤ 1 ∧ 1 ≤ 6 by omega), rfl, b2, b3⟩⟩)
  · obtain ⟨rfl, b6, b8, b9, b2⟩ := a3 q
    rw [h2] at b2
    have q' : ¬ (tkd t u s = 4 ∨ (tkd t u s = 2 ∧ 2 < tb t u s - ta t u s)) := q
    refine ok_ite (fun _ => ?_) (fun e => absurd rfl e)
    have tf2 : ∀ c : Int32, TF h (up (up h1 16 2 0 0 c) 16 3 0 0 (h1 16 7 0 0)) := fun c k j o i hh => by
      show up (up h1 16 2 0 0 c) 16 3 0 0 (h1 16 7 0 0) k j o i = _
      rw [up_o (by omega), up_o (by omega)]; exact hTF _ _ _ _ hh
    unfold f_X8_refuse
    by_cases q2 : tkd t u s = 2
    · have b9' := b9 q2
      have hlt := hb.2.2 (by omega)
      have hv : tv t u s ≤ 10000 := by
        unfold tv
        have := hU.2 (ta t u s) (by omega)
        split
        · omega
        · by_cases w : ta t u s + 1 < t
          · have := hU.2 (ta t u s + 1) w; omega
          · omega
      by_cases q3 : lo ≤ tv t u s ∧ tv t u s ≤ hi
      · have q4 : nI lo ≤ nI (tv t u s) ∧ nI (tv t u s) ≤ nI hi := by rw [nI_leI (by omega) (by omega), nI_leI (by omega) (by omega)]; exact q3
        refine ok_ite (fun _ => ok_obd (ok_eq (e_within _ _ _ _) ?_)) (fun e => absurd (show h1 16 6 0 0 = (2 : Int32) from by rw [b6, q2]; rfl) e)
        refine ok_ite (fun _ => ok_some ⟨hTF, Or.inr ⟨tv t u s, tb t u s, by rw [if_neg q', if_pos q2, if_pos q3], q3.1, q3.2, by omega, by omega, rfl, b9', b8, a1, b2⟩⟩) (fun e => absurd (decide_eq_true (show nI lo ≤ h1 16 9 0 0 ∧ h1 16 9 0 0 ≤ nI hi from by rw [b9']; exact q4)) e)
      · refine ok_ite (fun _ => ok_obd (ok_eq (e_within _ _ _ _) ?_)) (fun e => absurd (show h1 16 6 0 0 = (2 : Int32) from by rw [b6, q2]; rfl) e)
        refine ok_ite (fun e => ?_) (fun _ => ?_)
        · have this : nI lo ≤ h1 16 9 0 0 ∧ h1 16 9 0 0 ≤ nI hi := of_decide_eq_true e
          rw [b9'] at this
          exfalso
          rw [nI_leI (by omega) (by omega), nI_leI (by omega) (by omega)] at this
          exact q3 this
        · refine ok_ob2 (ok_bnd (ok_bnd (ok_some ?_)))
          refine ok_ite (fun e => by cases e) (fun _ => ok_some ⟨tf2 _, Or.inl ⟨(3, ta t u s), by rw [if_neg q', if_pos q2, if_neg q3], (show 1 ≤ 3 ∧ 3 ≤ 6 by omega), rfl, FTl_mk h1 3 _ _ a1⟩⟩)
    · refine ok_ite (fun e => ?_) (fun _ => ?_)
      · have e' : h1 16 6 0 0 = nI 2 := e
        rw [b6] at e'
        exact absurd (nI_inj (by omega) (by omega) e') q2
      · refine ok_ob2 (ok_bnd (ok_bnd (ok_some (ok_some ⟨tf2 _, Or.inl ⟨(2, ta t u s), by rw [if_neg q', if_neg q2], (show 1 ≤ 2 ∧ 2 ≤ 6 by omega), rfl, FTl_mk h1 2 _ _ a1⟩⟩))))
/-- the end of a line, of a token that is taken -/
theorem c_ends (hs : s ≤ t) (h6 : h 16 6 0 0 = nI (tkd t u s)) (h7 : h 16 7 0 0 = nI (ta t u s)) (h2 : h 16 2 0 0 = nI 0) (h8 : h 16 8 0 0 = nI (tb t u s)) (q' : ¬ bad t u s) : Ok (f_X8_endsLine h) (fun q => TF h q.2 ∧ ((tkd t u s ≠ 3 ∧ q.1 = false ∧ FTl q.2 (2, ta t u s)) ∨ (tkd t u s = 3 ∧ q.1 = true ∧ q.2 = h))) := by
  have hk4 : tkd t u s ≤ 4 := by
    unfold tkd; split
    · exact (kd_b _).2
    · omega
  unfold f_X8_endsLine f_X8_refuse
  by_cases q3 : tkd t u s = 3
  · refine ok_ite (fun _ => ok_some ⟨fun _ _ _ _ _ => rfl, Or.inr ⟨q3, rfl, rfl⟩⟩) (fun e => absurd (show h 16 6 0 0 = (3 : Int32) from by rw [h6, q3]; rfl) e)
  · refine ok_ite (fun e => ?_) (fun _ => ?_)
    · rw [h6] at e
      exact absurd (nI_inj (b := 3) (by omega) (by omega) e) q3
    · refine ok_ob2 (ok_bnd (ok_bnd (ok_some ?_)))
      refine ok_ite (fun e => by cases e) (fun _ => ok_some ⟨fun k j o i hh => ?_, Or.inl ⟨q3, rfl, FTl_mk h 2 _ _ h7⟩⟩)
      · show up (up h 16 2 0 0 _) 16 3 0 0 _ k j o i = _
        rw [up_o (by omega), up_o (by omega)]
theorem c_stop (hC : CT h t u) (hU : UB t u) (hs : s ≤ t) (h8 : h 16 8 0 0 = nI s) (h2 : h 16 2 0 0 = nI 0) : Ok (ob2 (f_X8_takeToken h) (fun r1 h1 => (if r1 = true then ob2 (f_X8_endsLine h1) (fun r2 h2 => (if r2 = true then some (true, h2) else some (false, h2))) else some (false, h1)))) (fun q => TF h q.2 ∧ ((∃ f, stop t u s = .inl f ∧ (1 ≤ f.1 ∧ f.1 ≤ 6) ∧ q.1 = false ∧ FTl q.2 f) ∨ (∃ e, stop t u s = .inr e ∧ s < e ∧ e ≤ t ∧ q.1 = true ∧ q.2 16 8 0 0 = nI e ∧ q.2 16 2 0 0 = nI 0))) := by
  have ha := ta_b (u := u) hs
  have hb := tb_b (u := u) hs
  have hbad : bad t u s ↔ tkd t u s = 4 ∨ (tkd t u s = 2 ∧ 2 < tb t u s - ta t u s) := Iff.rfl
  unfold stop
  rw [wp_ob2]
  refine (c_token hC hU hs h8).mono ?_
  rintro ⟨r, h1⟩ ⟨a1, a2, a3, a4⟩
  dsimp only at a1 a2 a3 a4
  have hTF : TF h h1 := fun k j o i hh => a4 _ _ _ _ (by omega)
  by_cases q : bad t u s
  · obtain ⟨rfl, b2, b3⟩ := a2 q
    refine ok_ite (fun e => by cases e) (fun _ => ok_some ⟨hTF, Or.inl ⟨(1, ta t u s), by rw [if_pos (hbad.mp q)], (show 1 ≤ 1 ∧ 1 ≤ 6 by omega), rfl, b2, b3⟩⟩)
  · obtain ⟨rfl, b6, b8, b9, b2⟩ := a3 q
    rw [h2] at b2
    have q' : ¬ (tkd t u s = 4 ∨ (tkd t u s = 2 ∧ 2 < tb t u s - ta t u s)) := q
    refine ok_ite (fun _ => ok_ob2 ?_) (fun e => absurd rfl e)
    refine (c_ends hs b6 a1 b2 b8 q).mono ?_
    rintro ⟨r, h2'⟩ ⟨c1, c2⟩
    rcases c2 with ⟨c2, c3, c4⟩ | ⟨c2, c3, c4⟩
    · dsimp only at c3 c4
      subst c3
      exact ok_ite (fun e => by cases e) (fun _ => ok_some ⟨hTF.tr c1, Or.inl ⟨(2, ta t u s), by rw [if_neg q', if_neg c2], (show 1 ≤ 2 ∧ 2 ≤ 6 by omega), rfl, c4⟩⟩)
    · dsimp only at c3 c4
      subst c3 c4
      have hlt := hb.2.2 (by omega)
      exact ok_ite (fun _ => ok_some ⟨hTF, Or.inr ⟨tb t u s, by rw [if_neg q', if_pos c2], by omega, by omega, rfl, b8, b2⟩⟩) (fun e => absurd rfl e)
end Cl
