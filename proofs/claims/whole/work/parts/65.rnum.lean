def NF (h h' : Mem) : Prop := ∀ k j o i, ¬ (k = 24 ∧ 11 ≤ j ∧ j ≤ 16) → h' k j o i = h k j o i
def DF (h h' : Mem) : Prop := ∀ k j o i, ¬ (k = 27 ∨ (k = 24 ∧ 5 ≤ j ∧ j ≤ 16 ∧ j ≠ 10)) → h' k j o i = h k j o i
theorem NF.rf {h : Mem} : NF h h := fun _ _ _ _ _ => rfl
theorem NF.tr {h h' h'' : Mem} (h1 : NF h h') (h2 : NF h' h'') : NF h h'' := fun k j o i h => (h2 k j o i h).trans (h1 k j o i h)
theorem DF.rf {h : Mem} : DF h h := fun _ _ _ _ _ => rfl
theorem DF.tr {h h' h'' : Mem} (h1 : DF h h') (h2 : DF h' h'') : DF h h'' := fun k j o i h => (h2 k j o i h).trans (h1 k j o i h)
theorem NF.d {h h' : Mem} (hF : NF h h') : DF h h' := fun k j o i hh => hF k j o i (by omega)
theorem DF.up {h : Mem} {k j o i : Nat} {v : Int32} (hk : k = 27 ∨ (k = 24 ∧ 5 ≤ j ∧ j ≤ 16 ∧ j ≠ 10)) : DF h (up h k j o i v) := fun k' j' o' i' hh => up_o (by omega)
def RF (h : Mem) (f : Flt) : Prop := h 24 15 0 0 = nI f.1 ∧ h 24 16 0 0 = nI f.2
def RS (t : Nat) (u : Nat → Nat) (h : Mem) (s : Nat) : Prop := RT h t u ∧ h 24 12 0 0 = nI (ta t u s) ∧ h 24 13 0 0 = nI (tkd t u s) ∧ h 24 11 0 0 = nI (tb t u s) ∧ (tkd t u s = 2 → h 24 14 0 0 = nI (tv t u s)) ∧ h 24 15 0 0 = nI 0 ∧ ¬ bad t u s
def RX (t : Nat) (u : Nat → Nat) (h : Mem) (s : Nat) : Prop := (bad t u s ∧ RF h (1, ta t u s)) ∨ RS t u h s
def told (pt tt : Bool) : Nat := (if pt = true then 1 else 0) + (if tt = true then 2 else 0)
def hiv (hi : Nat) : Int32 := if hi = 0 then nn 4 else nI (hi - 1)
def DR (h : Mem) (B : Bs) (pt tt : Bool) (hi : Nat) : Prop := SN (h 27 0 0) B ∧ h 24 5 0 0 = nI (B 0 0) ∧ h 24 6 0 0 = nI (B 2 0) ∧ h 24 7 0 0 = nI (told pt tt) ∧ h 24 8 0 0 = hiv hi ∧ (∀ c, B 1 0 ≤ c → c < 6 → h 27 0 0 (15 + c) = nI 0) ∧ h 27 0 0 46 = nI 0
theorem DR_nf {h h' : Mem} {B : Bs} {pt tt : Bool} {hi : Nat} (hD : DR h B pt tt hi) (h1 : B 1 0 ≤ 6) (h2 : B 2 0 ≤ 4) (hF : NF h h') : DR h' B pt tt hi := by
  obtain ⟨a, b, c, d, e, f, g⟩ := hD
  exact ⟨SN_fr h1 h2 a (fun i hi => hF _ _ _ _ (by omega)), (hF _ _ _ _ (by omega)).trans b, (hF _ _ _ _ (by omega)).trans c, (hF _ _ _ _ (by omega)).trans d, (hF _ _ _ _ (by omega)).trans e, fun c h1 h2 => (hF _ _ _ _ (by omega)).trans (f c h1 h2), (hF _ _ _ _ (by omega)).trans g⟩
/-- nothing of the token has changed -/
def KF (h h' : Mem) : Prop := ∀ k j o i, ((k = 24 ∧ 10 ≤ j ∧ j ≤ 16) ∨ k = 28) → h' k j o i = h k j o i
theorem KF.rf {h : Mem} : KF h h := fun _ _ _ _ _ => rfl
theorem KF.tr {h h' h'' : Mem} (h1 : KF h h') (h2 : KF h' h'') : KF h h'' := fun k j o i h => (h2 k j o i h).trans (h1 k j o i h)
theorem KF.up {h : Mem} {k j o i : Nat} {v : Int32} (hk : k = 27 ∨ (k = 24 ∧ j ≤ 9)) : KF h (up h k j o i v) := fun k' j' o' i' hh => up_o (by omega)
section Cl
variable {h h0 g : Mem} {t : Nat} {u : Nat → Nat} {s a b hi : Nat} {B : Bs} {pt tt : Bool}
theorem RS_kf {h' : Mem} (hS : RS t u h s) (hF : KF h h') : RS t u h' s := by
  obtain ⟨a, b, c, d, e, f, g⟩ := hS
  exact ⟨RT_fr a (fun k j o i hh => hF _ _ _ _ (by omega)), (hF _ _ _ _ (by omega)).trans b, (hF _ _ _ _ (by omega)).trans c, (hF _ _ _ _ (by omega)).trans d, fun w => (hF _ _ _ _ (by omega)).trans (e w), (hF _ _ _ _ (by omega)).trans f, g⟩
theorem RF_kf {h' : Mem} {f : Flt} (hS : RF h f) (hF : KF h h') : RF h' f := ⟨(hF _ _ _ _ (by omega)).trans hS.1, (hF _ _ _ _ (by omega)).trans hS.2⟩
theorem RX_kf {h' : Mem} (hS : RX t u h s) (hF : KF h h') : RX t u h' s := by
  rcases hS with ⟨a, b⟩ | a
  · exact Or.inl ⟨a, RF_kf b hF⟩
  · exact Or.inr (RS_kf a hF)
theorem m_nx (hR : RT h t u) (hU : UB t u) (hs : s ≤ t) (h11 : h 24 11 0 0 = nI s) (h15 : h 24 15 0 0 = nI 0) : Ok (f_X10_next h) (fun q => RX t u q s ∧ NF h q) := by
  refine (m_next hR hU hs h11 h15).mono ?_
  rintro q ⟨a, b, c, d⟩
  refine ⟨?_, d⟩
  by_cases w : bad t u s
  · exact Or.inl ⟨w, b w⟩
  · obtain ⟨c1, c2, c3, c4⟩ := c w
    exact Or.inr ⟨RT_fr hR (fun k j o i hh => d _ _ _ _ (by omega)), a, c2, c3, c4, c1, w⟩
theorem m_nx_f {f : Flt} (hR : RF h f) (hf : 1 ≤ f.1 ∧ f.1 ≤ 6) : f_X10_next h = some h := by
  apply Ok.eqv
  unfold f_X10_next
  refine ok_ite (fun e => ?_) (fun _ => ok_some rfl)
  rw [hR.1] at e
  have := (nI_leI (b := 0) (by omega) (by omega)).mp e
  omega
theorem m_need (b : Bool) {c a : Nat} (h15 : h 24 15 0 0 = nI 0) (h12 : h 24 12 0 0 = nI a) : Ok (f_X10_needs b (nI c) h) (fun q => (b = true ∧ q = h) ∨ (b = false ∧ RF q (c, a) ∧ NF h q)) := by
  unfold f_X10_needs
  cases b with
  | true => exact ok_ite (fun _ => ok_some (Or.inl ⟨rfl, rfl⟩)) (fun e => absurd rfl e)
  | false =>
    refine ok_ite (fun e => by cases e) (fun _ => ok_ite (fun _ => ok_bnd (ok_bnd (ok_some (Or.inr ⟨rfl, ⟨?_, ?_⟩, fun k j o i hh => ?_⟩)))) (fun e => absurd h15 e))
    · show up (up h 24 15 0 0 (nI c)) 24 16 0 0 (up h 24 15 0 0 (nI c) 24 12 0 0) 24 15 0 0 = _
      rw [up_o (by omega), up_s]
    · show up (up h 24 15 0 0 (nI c)) 24 16 0 0 (up h 24 15 0 0 (nI c) 24 12 0 0) 24 16 0 0 = _
      rw [up_s, up_o (by omega)]; exact h12
    · show up (up h 24 15 0 0 (nI c)) 24 16 0 0 (up h 24 15 0 0 (nI c) 24 12 0 0) k j o i = _
      rw [up_o (by omega), up_o (by omega)]
theorem m_need_f (b : Bool) {c : Nat} {f : Flt} (hR : RF h f) (hf : 1 ≤ f.1 ∧ f.1 ≤ 6) : f_X10_needs b (nI c) h = some h := by
  apply Ok.eqv
  unfold f_X10_needs
  refine ok_ite (fun _ => ok_some rfl) (fun _ => ok_ite (fun e => ?_) (fun _ => ok_some rfl))
  rw [hR.1] at e
  have := nI_inj (b := 0) (by omega) (by omega) e
  omega
theorem rf_ne {f : Flt} (hR : RF h f) (hf : 1 ≤ f.1 ∧ f.1 ≤ 6) : ¬ h 24 15 0 0 = 0 := fun e => by
  have := nI_inj (b := 0) (by omega) (by omega) (hR.1.symm.trans e)
  omega
theorem m_looked (hX : RX t u h s) (hU : UB t u) (hs : s ≤ t) {lo hi : Nat} (hl : lo ≤ 9) (hh : hi ≤ 9) : Ok (f_X10_looked (nI lo) (nI hi) h) (fun q => (∃ f, num t u lo hi s = .inl f ∧ (1 ≤ f.1 ∧ f.1 ≤ 6) ∧ q.1 = nI 0 ∧ RF q.2 f ∧ NF h q.2) ∨ (∃ v, num t u lo hi s = .inr (v, tb t u s) ∧ lo ≤ v ∧ v ≤ hi ∧ s < tb t u s ∧ q = (nI v, h) ∧ RS t u h s)) := by
  have ha := ta_b (u := u) hs
  have hb := tb_b (u := u) hs
  unfold f_X10_looked num
  rcases hX with ⟨w, hR⟩ | hR
  · have w' : tkd t u s = 4 ∨ (tkd t u s = 2 ∧ 2 < tb t u s - ta t u s) := w
    have hne := rf_ne hR (show 1 ≤ 1 ∧ 1 ≤ 6 by omega)
    refine ok_obd (ok_ite (fun e => absurd e hne) (fun _ => ok_some (ok_obd (ok_ite (fun e => absurd e hne) (fun _ => ok_some (ok_ite (fun e => absurd e hne) (fun _ => ok_some (Or.inl ⟨(1, ta t u s), by rw [if_pos w'], (show 1 ≤ 1 ∧ 1 ≤ 6 by omega), rfl, hR, NF.rf⟩))))))))
  · obtain ⟨a1, a2, a3, a4, a5, a6, a7⟩ := id hR
    have w' : ¬ (tkd t u s = 4 ∨ (tkd t u s = 2 ∧ 2 < tb t u s - ta t u s)) := a7
    have hk4 : tkd t u s ≤ 4 := by
      unfold tkd; split
      · exact (kd_b _).2
      · omega
    rw [if_neg w']
    by_cases q2 : tkd t u s = 2
    · rw [if_pos q2]
      have b9' := a5 q2
      have hlt := hb.2.2 (by omega)
      have hv : tv t u s ≤ 10000 := by
        unfold tv
        have := hU.2 (ta t u s) (by omega)
        split
        · omega
        · by_cases w : ta t u s + 1 < t
          · have := hU.2 (ta t u s + 1) w; omega
          · omega
      have s2 : h 24 13 0 0 = (2 : Int32) := by rw [a3, q2]; rfl
      refine ok_obd (ok_ite (fun _ => ok_obd (ok_ite (fun _ => ok_some (ok_obd ?_)) (fun e => absurd s2 e))) (fun e => absurd a6 e))
      refine (m_need true (c := 2) a6 a2).mono ?_
      rintro h1 (⟨-, rfl⟩ | ⟨e, -⟩)
      · refine ok_some (ok_obd (ok_ite (fun _ => ok_obd (ok_eq (e_in32 _ _ _ _) (ok_obd ?_))) (fun e => absurd a6 e)))
        by_cases q3 : lo ≤ tv t u s ∧ tv t u s ≤ hi
        · have q4 : nI lo ≤ h1 24 14 0 0 ∧ h1 24 14 0 0 ≤ nI hi := by rw [b9', nI_leI (by omega) (by omega), nI_leI (by omega) (by omega)]; exact q3
          rw [decide_eq_true q4, if_pos q3]
          refine (m_need true (c := 3) a6 a2).mono ?_
          rintro h2 (⟨-, rfl⟩ | ⟨e, -⟩)
          · exact ok_some (ok_ite (fun _ => ok_some (Or.inr ⟨tv t u s, rfl, q3.1, q3.2, by omega, by rw [b9'], hR⟩)) (fun e => absurd a6 e))
          · cases e
        · have q4 : ¬ (nI lo ≤ h1 24 14 0 0 ∧ h1 24 14 0 0 ≤ nI hi) := by rw [b9', nI_leI (by omega) (by omega), nI_leI (by omega) (by omega)]; exact q3
          rw [decide_eq_false q4, if_neg q3]
          refine (m_need false (c := 3) a6 a2).mono ?_
          rintro h2 (⟨e, -⟩ | ⟨-, e1, e2⟩)
          · cases e
          · exact ok_some (ok_ite (fun e => absurd e (rf_ne e1 (show 1 ≤ 3 ∧ 3 ≤ 6 by omega))) (fun _ => ok_some (Or.inl ⟨(3, ta t u s), rfl, (show 1 ≤ 3 ∧ 3 ≤ 6 by omega), rfl, e1, e2⟩)))
      · cases e
    · rw [if_neg q2]
      have s2 : ¬ h 24 13 0 0 = (2 : Int32) := fun e => q2 (nI_inj (b := 2) (by omega) (by omega) (a3.symm.trans e))
      refine ok_obd (ok_ite (fun _ => ok_obd (ok_ite (fun e => absurd e s2) (fun _ => ok_some (ok_obd ?_)))) (fun e => absurd a6 e))
      refine (m_need false (c := 2) a6 a2).mono ?_
      rintro h1 (⟨e, -⟩ | ⟨-, e1, e2⟩)
      · cases e
      · have hne := rf_ne e1 (show 1 ≤ 2 ∧ 2 ≤ 6 by omega)
        exact ok_some (ok_obd (ok_ite (fun e => absurd e hne) (fun _ => ok_some (ok_ite (fun e => absurd e hne) (fun _ => ok_some (Or.inl ⟨(2, ta t u s), rfl, (show 1 ≤ 2 ∧ 2 ≤ 6 by omega), rfl, e1, e2⟩))))))
theorem m_looked_f {f : Flt} (hR : RF h f) (hf : 1 ≤ f.1 ∧ f.1 ≤ 6) {lo hi : Int32} : f_X10_looked lo hi h = some (nI 0, h) := by
  have hne := rf_ne hR hf
  apply Ok.eqv
  unfold f_X10_looked
  exact ok_obd (ok_ite (fun e => absurd e hne) (fun _ => ok_some (ok_obd (ok_ite (fun e => absurd e hne) (fun _ => ok_some (ok_ite (fun e => absurd e hne) (fun _ => ok_some rfl)))))))
theorem m_num_f {f : Flt} (hR : RF h f) (hf : 1 ≤ f.1 ∧ f.1 ≤ 6) {lo hi : Int32} : f_X10_readNumber lo hi h = some (nI 0, h) := by
  apply Ok.eqv
  unfold f_X10_readNumber
  exact ok_ob2 (ok_eq (m_looked_f hR hf) (ok_obd (ok_eq (m_nx_f hR hf) (ok_some rfl))))
theorem m_num (hX : RX t u h s) (hU : UB t u) (hs : s ≤ t) {lo hi : Nat} (hl : lo ≤ 9) (hh : hi ≤ 9) : Ok (f_X10_readNumber (nI lo) (nI hi) h) (fun q => NF h q.2 ∧ ((∃ f, num t u lo hi s = .inl f ∧ (1 ≤ f.1 ∧ f.1 ≤ 6) ∧ q.1 = nI 0 ∧ RF q.2 f) ∨ (∃ v e, num t u lo hi s = .inr (v, e) ∧ lo ≤ v ∧ v ≤ hi ∧ s < e ∧ e ≤ t ∧ q.1 = nI v ∧ RX t u q.2 e))) := by
  have hb := tb_b (u := u) hs
  unfold f_X10_readNumber
  refine ok_ob2 ((m_looked hX hU hs hl hh).mono ?_)
  rintro ⟨r, h1⟩ (⟨f, e1, e2, e3, e4, e5⟩ | ⟨v, e1, e2, e3, e4, e5, e6⟩)
  · exact ok_obd (ok_eq (m_nx_f e4 e2) (ok_some ⟨e5, Or.inl ⟨f, e1, e2, e3, e4⟩⟩))
  · cases e5
    refine ok_obd ((m_nx e6.1 hU hb.2.1 e6.2.2.2.1 e6.2.2.2.2.2.1).mono ?_)
    rintro h2 ⟨c1, c2⟩
    exact ok_some ⟨c2, Or.inr ⟨v, _, e1, e2, e3, e4, hb.2.1, rfl, c1⟩⟩
theorem hiv_max {hi v : Nat} (h8 : hi ≤ 8) (hv : v ≤ 7) : (nI v ≤ hiv hi → hiv (max hi (v + 1)) = hiv hi) ∧ (¬ nI v ≤ hiv hi → hiv (max hi (v + 1)) = nI v) := by
  unfold hiv
  by_cases q : hi = 0
  · rw [if_pos q]
    refine ⟨fun e => ?_, fun _ => ?_⟩
    · rw [nn_lt0 (by omega) (by omega)] at e; exact e.elim
    · rw [if_neg (by omega)]; congr 1; omega
  · rw [if_neg q, nI_leI (by omega) (by omega), if_neg (by omega)]
    exact ⟨fun e => by congr 1; omega, fun e => by congr 1; omega⟩
/-- a place that is told: looked at, the highest kept -/
theorem m_lplace (hX : RX t u h s) (hU : UB t u) (hs : s ≤ t) (h8 : hi ≤ 8) (hh : h 24 8 0 0 = hiv hi) : Ok (f_X10_lookedPlace h) (fun q => (∃ f, num t u 0 7 s = .inl f ∧ (1 ≤ f.1 ∧ f.1 ≤ 6) ∧ q.1 = nI 0 ∧ RF q.2 f ∧ NF h q.2) ∨ (∃ v, num t u 0 7 s = .inr (v, tb t u s) ∧ v ≤ 7 ∧ s < tb t u s ∧ q.1 = nI v ∧ RS t u q.2 s ∧ q.2 = up h 24 8 0 0 (hiv (max hi (v + 1))))) := by
  unfold f_X10_lookedPlace
  refine ok_ob2 ((m_looked hX hU hs (lo := 0) (hi := 7) (by omega) (by omega)).mono ?_)
  rintro ⟨r, h1⟩ (⟨f, e1, e2, e3, e4, e5⟩ | ⟨v, e1, e2, e3, e4, e5, e6⟩)
  · exact ok_ite (fun e => absurd e (rf_ne e4 e2)) (fun _ => ok_some (Or.inl ⟨f, e1, e2, e3, e4, e5⟩))
  · cases e5
    obtain ⟨m1, m2⟩ := hiv_max (hi := hi) h8 e3
    refine ok_ite (fun _ => ok_obd ?_) (fun e => absurd e6.2.2.2.2.2.1 e)
    have hS2 := RS_kf e6 (KF.up (k := 24) (j := 8) (o := 0) (i := 0) (v := hiv (max hi (v + 1))) (by omega))
    refine ok_ite (fun e => ?_) (fun e => ?_)
    · have e' : nI v ≤ hiv hi := by rw [← hh]; exact e
      refine ok_some (ok_bnd (ok_some (Or.inr ⟨v, e1, e3, e4, rfl, ?_, ?_⟩)))
      · have : h 24 8 0 0 = hiv (max hi (v + 1)) := by rw [m1 e']; exact hh
        show RS t u (up h 24 8 0 0 (h 24 8 0 0)) s
        rw [this]; exact hS2
      · show up h 24 8 0 0 (h 24 8 0 0) = _
        rw [m1 e', ← hh]
    · have e' : ¬ nI v ≤ hiv hi := by rw [← hh]; exact e
      refine ok_some (ok_bnd (ok_some (Or.inr ⟨v, e1, e3, e4, rfl, ?_, ?_⟩)))
      · show RS t u (up h 24 8 0 0 (nI v)) s
        rw [← m2 e']; exact hS2
      · show up h 24 8 0 0 (nI v) = _
        rw [m2 e']
theorem m_lplace_f {f : Flt} (hR : RF h f) (hf : 1 ≤ f.1 ∧ f.1 ≤ 6) : f_X10_lookedPlace h = some (nI 0, h) := by
  apply Ok.eqv
  unfold f_X10_lookedPlace
  exact ok_ob2 (ok_eq (m_looked_f hR hf) (ok_ite (fun e => absurd e (rf_ne hR hf)) (fun _ => ok_some rfl)))
theorem m_place_f {f : Flt} (hR : RF h f) (hf : 1 ≤ f.1 ∧ f.1 ≤ 6) : f_X10_readPlace h = some (nI 0, h) := by
  apply Ok.eqv
  unfold f_X10_readPlace
  exact ok_ob2 (ok_eq (m_lplace_f hR hf) (ok_obd (ok_eq (m_nx_f hR hf) (ok_some rfl))))
theorem m_place (hX : RX t u h s) (hU : UB t u) (hs : s ≤ t) (h8 : hi ≤ 8) (hh : h 24 8 0 0 = hiv hi) : Ok (f_X10_readPlace h) (fun q => (∃ f, num t u 0 7 s = .inl f ∧ (1 ≤ f.1 ∧ f.1 ≤ 6) ∧ q.1 = nI 0 ∧ RF q.2 f ∧ NF h q.2) ∨ (∃ v e, num t u 0 7 s = .inr (v, e) ∧ v ≤ 7 ∧ s < e ∧ e ≤ t ∧ q.1 = nI v ∧ RX t u q.2 e ∧ NF (up h 24 8 0 0 (hiv (max hi (v + 1)))) q.2)) := by
  have hb := tb_b (u := u) hs
  unfold f_X10_readPlace
  refine ok_ob2 ((m_lplace hX hU hs h8 hh).mono ?_)
  rintro ⟨r, h1⟩ (⟨f, e1, e2, e3, e4, e5⟩ | ⟨v, e1, e2, e3, e4, e5, e6⟩)
  · exact ok_obd (ok_eq (m_nx_f e4 e2) (ok_some (Or.inl ⟨f, e1, e2, e3, e4, e5⟩)))
  · dsimp only at e4 e5 e6
    refine ok_obd ((m_nx e5.1 hU hb.2.1 e5.2.2.2.1 e5.2.2.2.2.2.1).mono ?_)
    rintro h2 ⟨c1, c2⟩
    rw [e6] at c2
    exact ok_some (Or.inr ⟨v, _, e1, e2, e3, hb.2.1, e4, c1, c2⟩)
end Cl
