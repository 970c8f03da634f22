def wsh (p : Nat → Bool) (j : Nat) (B : Bs) : Bs := fun f c => if f = 11 ∧ c < j ∧ p (B 11 c) = true then 30 else B f c
theorem wsh_f {p : Nat → Bool} {j : Nat} {B : Bs} {f i : Nat} (h : f ≠ 11) : wsh p j B f i = B f i := by simp [wsh, h]
theorem wsh_0 {p : Nat → Bool} {B : Bs} : wsh p 0 B = B := by funext f c; simp [wsh]
theorem wsh_t {p : Nat → Bool} {j : Nat} {B : Bs} (h : p (B 11 j) = true) : ub (wsh p j B) 11 j 30 = wsh p (j + 1) B := by
  funext f c
  by_cases hf : f = 11
  · subst hf
    by_cases hc : c = j
    · subst hc; simp [ub, wsh, h]
    · have : (c < j + 1) = (c < j) := by rw [eq_iff_iff]; omega
      simp [ub, wsh, hc, this]
  · simp [ub, wsh, hf]
theorem wsh_n {p : Nat → Bool} {j : Nat} {B : Bs} (h : p (B 11 j) = false) : wsh p j B = wsh p (j + 1) B := by
  funext f c
  by_cases hf : f = 11
  · subst hf
    by_cases hc : c = j
    · subst hc; simp [wsh, h]
    · have : (c < j + 1) = (c < j) := by rw [eq_iff_iff]; omega
      simp [wsh, this]
  · simp [wsh, hf]
theorem hd_wsh {p : Nat → Bool} {j : Nat} {B : Bs} {k : Nat} (hk : k < 4) (hp : ∀ v, p v = true → v < 10) : hd (wsh p j B) k = hd B k := by
  unfold hd
  rw [wsh_f (by decide)]
  apply ff_congr
  intro d _
  by_cases h : d < j ∧ p (B 11 d) = true
  · have h2 := hp _ h.2
    simp only [wsh, true_and, h, and_self, if_true]
    rw [beq_eq_false_iff_ne.mpr (by omega), beq_eq_false_iff_ne.mpr (by omega)]
  · simp only [wsh, true_and]
    rw [if_neg h]
theorem inb_nI_iff {v n : Nat} (hv : v < 2 ^ 31) : inb (nI v) n ↔ v < n := by
  constructor
  · intro h
    have := inb_lt h
    rwa [nI_clamp hv] at this
  · intro h hh
    rcases hh with hh | hh
    · exact nI_pos hv hh
    · rw [nI_clamp hv] at hh; omega
theorem CB0_18 {h : Mem} {o : Nat} {B : Bs} {v : Nat} (hC : CB0 h o B) : CB0 (up h 1 8 o 0 (nI v)) o (ub B 5 0 v) := by
  obtain ⟨hM0, hM1, hM2, hM3, hM4, hM5, hM6, hM7, hM8, hM9, hM10⟩ := hC
  exact ⟨by simpa [up, ub] using hM0, by simpa [up, ub] using hM1, by simpa [up, ub] using hM2, by simpa [up, ub] using hM3, by simpa [up, ub] using hM4, by simp [up, ub], by simpa [up, ub] using hM6, by simpa [up, ub] using hM7, by simpa [up, ub] using hM8, by simpa [up, ub] using hM9, by simpa [up, ub] using hM10⟩
theorem hd_5 {B : Bs} {v k : Nat} : hd (ub B 5 0 v) k = hd B k := by
  unfold hd
  have h1 : ub B 5 0 v 1 0 = B 1 0 := by simp [ub]
  rw [h1]
  apply ff_congr
  intro d _
  simp [ub]
section Cls
variable {h : Mem} {o : Nat} {B : Bs} {S : Nat}
theorem c_wash (hC : CB0 h o B) (hH : HL h o B) (hn : B 1 0 ≤ 6) (hm : B 2 0 ≤ 4) (p : Nat → Bool) (a b : Int32) (hp : ∀ c, c < B 1 0 → decide (a ≤ nI (B 11 c) ∧ nI (B 11 c) ≤ b) = p (B 11 c)) (hp8 : ∀ v, p v = true → v < 10) : Ok (f_X0_washAway o a b h) (fun h' => CB0 h' o (wsh p (B 1 0) B) ∧ HL h' o (wsh p (B 1 0) B) ∧ FrB h h' o) := by
  have keepH : ∀ (j : Nat) (h' : Mem), (∀ k, k < B 2 0 → h' 7 4 o k = h 7 4 o k) → HL h' o (wsh p j B) := by
    intro j h' e k hk
    have hk : k < B 2 0 := by rw [wsh_f (by decide)] at hk; exact hk
    rw [hd_wsh (by omega) hp8, e k hk]
    exact hH k hk
  unfold f_X0_washAway
  apply ok_obd
  refine (ok_up (K := fun h' => CB0 h' o (wsh p (B 1 0) B) ∧ HL h' o (wsh p (B 1 0) B) ∧ FrB h h' o) (B 1 0) (fun j a => a.1 = nI j ∧ CB0 a.2 o (wsh p j B) ∧ (∀ k, k < B 2 0 → a.2 7 4 o k = h 7 4 o k) ∧ FrB h a.2 o) (by omega) ?_ ?_ _ ⟨rfl, by dsimp only; rw [wsh_0]; exact hC, fun _ _ => rfl, FrB.rf⟩).mono (fun a ha => ok_some ha)
  · rintro j ⟨x, h'⟩ hj ⟨hx, hC2, hH2, hF⟩
    dsimp only at hx hC2 hH2 hF ⊢
    subst hx
    have e12 : h' 1 2 o 0 = nI (B 1 0) := by rw [hC2.2.1, wsh_f (by decide)]
    rw [if_neg (show ¬ h' 1 2 o 0 ≤ nI j by rw [e12]; exact nI_ge hj (by omega))]
    refine ok_gd (inb_nI (by omega) (by decide)) ?_
    apply ok_obd
    refine ok_eq (e_within _ _ _ _) ?_
    have ew : h' 6 2 o (nI j).toNatClampNeg = nI (B 11 j) := by
      rw [nI_clamp (by omega), (hC2.2.2.2.2.2.2.2.2.2.1 j (by rw [wsh_f (by decide)]; exact hj)).2.2]
      simp [wsh]
    rw [ew, hp j hj]
    refine ok_ite (fun h1 => ?_) (fun h1 => ?_)
    · refine ok_gd (inb_nI (by omega) (by decide)) (ok_bnd (ok_bnd (ok_some ⟨nI_1 j, ?_, ?_, hF.tr (FrB.up (by decide))⟩)))
      · rw [nI_clamp (by omega), ← wsh_t h1]
        exact CB0_62 hC2
      · intro k hk
        simpa [up] using hH2 k hk
    · have h1 : p (B 11 j) = false := by simpa using h1
      rw [wsh_n h1] at hC2
      exact ok_bnd (ok_some ⟨nI_1 j, hC2, hH2, hF⟩)
  · rintro ⟨x, h'⟩ ⟨hx, hC2, hH2, hF⟩
    dsimp only at hx hC2 hH2 hF ⊢
    subst hx
    have e12 : h' 1 2 o 0 = nI (B 1 0) := by rw [hC2.2.1, wsh_f (by decide)]
    rw [if_pos (show h' 1 2 o 0 ≤ nI (B 1 0) by rw [e12]; exact Int32.le_refl _)]
    exact ok_some ⟨hC2, keepH _ _ hH2, hF⟩
theorem tid_eq (B : Bs) : tid B = if 0 < B 3 0 ∧ (B 5 0 + 1) % B 3 0 = 0 then wsh (fun v => decide (v < B 4 0)) (B 1 0) (ub B 5 0 (B 5 0 + 1)) else ub B 5 0 (B 5 0 + 1) := by
  funext f c
  by_cases h : 0 < B 3 0 ∧ (B 5 0 + 1) % B 3 0 = 0
  · rw [if_pos h]
    by_cases hf : f = 11
    · subst hf; simp [tid, wsh, ub, h]
    · simp [tid, wsh, ub, hf]
  · rw [if_neg h]
    by_cases hf : f = 11
    · subst hf
      simp only [tid, ub]
      rw [if_neg (by simp), if_neg (fun hh => h ⟨hh.2.2.1, hh.2.2.2.1⟩), if_neg (by simp)]
    · simp [tid, ub, hf]
theorem c_goStep (hC : CB0 h o B) (hH : HL h o B) (hW : WF S B) (hS : S < 100000) : Ok (f_X0_goStep o h) (fun h' => CB0 h' o (stp B) ∧ HL h' o (stp B) ∧ FrB h h' o) := by
  unfold f_X0_goStep
  have hm := hW.2.2.2.2.2.2.1
  apply ok_obd
  refine (ok_up (K := fun h' => CB0 h' o (acts B (B 6 0)) ∧ HL h' o (acts B (B 6 0)) ∧ FrB h h' o) (B 6 0) (fun j a => a.1 = nI j ∧ CB0 a.2 o (acts B j) ∧ HL a.2 o (acts B j) ∧ FrB h a.2 o) (by omega) ?_ ?_ _ ⟨rfl, hC, hH, FrB.rf⟩).mono ?_
  · rintro j ⟨x, h'⟩ hj ⟨hx, hC2, hH2, hF⟩
    dsimp only at hx hC2 hH2 hF ⊢
    subst hx
    have e1 : h' 1 10 o 0 = nI (B 6 0) := by rw [hC2.2.2.2.2.2.2.1, acts_f (by decide) (by decide)]
    rw [if_neg (show ¬ h' 1 10 o 0 ≤ nI j by rw [e1]; exact nI_ge hj (by omega))]
    refine ok_gd (inb_nI (by omega) (by decide)) ?_
    have e2 : h' 5 0 o (nI j).toNatClampNeg = nI (B 8 j) := by
      rw [nI_clamp (by omega), hC2.2.2.2.2.2.2.2.2.1 j (by rw [acts_f (by decide) (by decide)]; exact hj), acts_f (by decide) (by decide)]
    rw [e2]
    apply ok_obd
    refine (c_act hC2 hH2 (WF_acts hW j (by omega)) (k := B 8 j) ?_).mono ?_
    · rw [acts_f (by decide) (by decide)]; exact hW.2.2.2.2.2.2.2.2.1 j hj
    · rintro h2 ⟨g1, g2, g3⟩
      exact ok_bnd (ok_some ⟨nI_1 j, g1, g2, hF.tr g3⟩)
  · rintro ⟨x, h'⟩ ⟨hx, hC2, hH2, hF⟩
    dsimp only at hx hC2 hH2 hF ⊢
    subst hx
    have e1 : h' 1 10 o 0 = nI (B 6 0) := by rw [hC2.2.2.2.2.2.2.1, acts_f (by decide) (by decide)]
    rw [if_pos (show h' 1 10 o 0 ≤ nI (B 6 0) by rw [e1]; exact Int32.le_refl _)]
    exact ok_some ⟨hC2, hH2, hF⟩
  · rintro h1 ⟨hC1, hH1, hF1⟩
    have hW1 := WF_acts hW _ (Nat.le_refl _)
    apply ok_obd
    refine (c_settle hC1 hH1 hW1).mono ?_
    rintro h2 ⟨hC2, hH2, hF2⟩
    have hW2 : WF S (fights (acts B (B 6 0))) := WF_dr hW1
    unfold stp
    generalize fights (acts B (B 6 0)) = B2 at hC2 hH2 hW2 ⊢
    have hF12 := hF1.tr hF2
    apply ok_bnd
    have e5 : h2 1 8 o 0 + 1 = nI (B2 5 0 + 1) := by rw [hC2.2.2.2.2.2.1, nI_1]
    rw [e5]
    have hC3 := CB0_18 (v := B2 5 0 + 1) hC2
    have hH3 : HL (up h2 1 8 o 0 (nI (B2 5 0 + 1))) o (ub B2 5 0 (B2 5 0 + 1)) := by
      intro k hk
      have hk : k < B2 2 0 := by simpa [ub] using hk
      rw [hd_5]
      simpa [up] using hH2 k hk
    have hF3 : FrB h (up h2 1 8 o 0 (nI (B2 5 0 + 1))) o := hF12.tr (FrB.up (by decide))
    generalize up h2 1 8 o 0 (nI (B2 5 0 + 1)) = h3 at hC3 hH3 hF3 ⊢
    have b3 := hW2.2.2.2.1
    have b5 := hW2.2.2.2.2.2.1
    have b4 := hW2.2.2.2.2.1
    have t3 : h3 1 6 o 0 = nI (B2 3 0) := by rw [hC3.2.2.2.1]; simp [ub]
    have t5 : h3 1 8 o 0 = nI (B2 5 0 + 1) := by rw [hC3.2.2.2.2.2.1]; simp [ub]
    have t4 : h3 1 7 o 0 = nI (B2 4 0) := by rw [hC3.2.2.2.2.1]; simp [ub]
    rw [t3, t5, t4, tid_eq]
    refine ok_ite (fun h0 => ?_) (fun h0 => ?_)
    · have h0 := (nI_leI (by omega) (by decide) : nI (B2 3 0) ≤ nI 0 ↔ _).mp h0
      rw [if_neg (by omega)]
      exact ok_some ⟨hC3, hH3, hF3⟩
    · have h0 : ¬ B2 3 0 ≤ 0 := fun e => h0 ((nI_leI (by omega) (by decide) : nI (B2 3 0) ≤ nI 0 ↔ _).mpr e)
      refine ok_gd (nI_ne0 (by omega) (by omega)) ?_
      rw [rem_nI (by omega) (by omega) (by omega)]
      have hlt : (B2 5 0 + 1) % B2 3 0 < 10 := Nat.lt_of_lt_of_le (Nat.mod_lt _ (by omega)) (by omega)
      refine ok_ite (fun h1 => ?_) (fun h1 => ?_)
      · have h1 : (B2 5 0 + 1) % B2 3 0 = 0 := nI_inj (by omega) (by decide) h1
        rw [if_pos ⟨by omega, h1⟩]
        apply ok_obd
        have en : ub B2 5 0 (B2 5 0 + 1) 1 0 = B2 1 0 := by simp [ub]
        have hw := c_wash hC3 hH3 (by rw [en]; exact hW2.2.1) (by simp [ub]; exact hW2.2.2.1) (fun v => decide (v < B2 4 0)) 0 (nI (B2 4 0) - 1) ?_ ?_
        · rw [en] at hw
          refine hw.mono ?_
          rintro h4 ⟨g1, g2, g3⟩
          exact ok_some ⟨g1, g2, hF3.tr g3⟩
        · intro c hc
          rw [en] at hc
          have e11 : ub B2 5 0 (B2 5 0 + 1) 11 c = B2 11 c := by simp [ub]
          rw [e11, decide_eq_decide]
          have hb := wok_lt hW2.2.2.1 (hW2.2.2.2.2.2.2.2.2.2.2.1 c hc).2.2
          rw [win_inb (by omega), inb_nI_iff (by omega)]
        · intro v hv
          have : v < B2 4 0 := by simpa using hv
          omega
      · have h1 : ¬ (B2 5 0 + 1) % B2 3 0 = 0 := fun e => h1 (by rw [e]; rfl)
        rw [if_neg (fun hh => h1 hh.2)]
        exact ok_some ⟨hC3, hH3, hF3⟩
end Cls
