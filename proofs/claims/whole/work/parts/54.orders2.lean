section Tri
variable {h g : Mem} {B T : Bs} {o S : Nat}
/-- what the reference holds behind j orders -/
def MO (h : Mem) (n : Nat) (q : Nat × Option (Nat × Nat)) : Prop := ∀ r, q.2 = some r → ∀ i, i < n → h 39 0 0 i = nI (pS n r.2 i)
theorem MO_fr {h h' : Mem} {n : Nat} {q : Nat × Option (Nat × Nat)} (hC : MO h n q) (hF : ∀ k j o i, k = 39 → h' k j o i = h k j o i) : MO h' n q :=
  fun r e i hi => (hF _ _ _ _ rfl).trans (hC r e i hi)
def fwv (q : Option (Nat × Nat)) : Int32 := match q with
  | none => nn 4
  | some r => nI r.1
theorem fwv_n : fwv none = nn 4 := rfl
theorem fwv_s {r : Nat × Nat} : fwv (some r) = nI r.1 := rfl
def orr (n : Nat) (p : Int32) (q : Nat × Option (Nat × Nat)) : Int32 := if p = nI 0 then nI q.1 else match q.2 with
  | none => nn 4
  | some r => if p = nI 1 then nI r.1 else if nI n ≤ p - nI 10 then nn 4 else nI (pS n r.2 (p - nI 10).toNatClampNeg)
theorem o_orders (p : Int32) (hR : RI h) : Ok (f_X9_orders p h) (fun q => Ok (f_X10_orders p q.2) (fun r => q.1 = r.1 ∧ RI r.2)) := by
  have hR0 := hR
  obtain ⟨B, T, hK, hN, hW, hRs⟩ := hR
  obtain ⟨hM0, hM1, hM2, hM3, hM4, hM5, hM6, hM7, hM8, hM9, hM10⟩ := hK.1
  obtain ⟨⟨⟨s0, s1, s2, s3, s4, s5, s6⟩, n0, n2⟩, hT⟩ := id hN
  have w0 := hW.1.1
  have w1 := hW.1.2.1
  have w2 := hW.1.2.2.1
  obtain ⟨⟨l1, l2, l3⟩, l4⟩ := ps_ok (B 2 0) w2
  obtain ⟨P, hP⟩ : ∃ P : Nat → Option Nat, P = fun j => srt (od B (pS (B 2 0) j)) 41 := ⟨_, rfl⟩
  have hP' : ∀ j, P j = srt (od B (pS (B 2 0) j)) 41 := fun j => by rw [hP]
  have hp40 : ∀ j s, P j = some s → s ≤ 40 := fun j s e => by rw [hP'] at e; have := srt_lt e; omega
  have hoc := oc_b hp40
  have key : (nI 0 ≤ p ∧ p ≤ nI 1 ∨ nI 10 ≤ p ∧ p ≤ nI 13) → Ok (f_X9_orders p h) (fun q => Ok (f_X10_orders p q.2) (fun r => q.1 = r.1 ∧ RI r.2)) := by
    intro hpp
    have hpc : p = nI 0 ∨ p = nI 1 ∨ ∃ i, i < 4 ∧ p = nI (10 + i) := by
      rcases hpp with hp | hp
      · obtain ⟨v, a, b, rfl⟩ := rng (by decide) (by decide) hp
        have : v = 0 ∨ v = 1 := by omega
        rcases this with rfl | rfl
        · exact Or.inl rfl
        · exact Or.inr (Or.inl rfl)
      · obtain ⟨v, a, b, rfl⟩ := rng (by decide) (by decide) hp
        exact Or.inr (Or.inr ⟨v - 10, by omega, by congr 1; omega⟩)
    have e10 : ∀ i, nI (10 + i) - nI 10 = nI i := fun i => by
      rw [Nat.add_comm, ← nI_add]
      exact Int32.add_sub_cancel _ _
    refine comb (v := orr (B 2 0) p (oc P (pL (B 2 0)))) hR0 hN hW ?_ (fun g hg => ?_)
    · have hca := c_tryAll hK hW hP'
      obtain ⟨c1, c2, c3⟩ := hoc (pL (B 2 0))
      have fin : Ok (f_X4_tryAll 0 1 h) (fun h5 => Ok (if p = 0 then some ((h5 13 0 0 0), h5) else (if (h5 13 0 0 0) = 0 then some ((-4 : Int32), h5) else (if p = (1 : Int32) then some ((h5 13 1 0 0), h5) else bnd (p - (10 : Int32)) (fun x6 => (if (h5 1 4 0 0) ≤ x6 then some ((-4 : Int32), h5) else gd (inb x6 4) (some ((h5 14 0 0 x6.toNatClampNeg), h5))))))) (fun q => q.1 = orr (B 2 0) p (oc P (pL (B 2 0))) ∧ FRA h q.2)) := by
        refine hca.mono ?_
        rintro h1 ⟨a1, a2⟩
        obtain ⟨d1, d2, d3⟩ := a1
        have f2 : h1 1 4 0 0 = nI (B 2 0) := (a2 _ _ _ _ (by unfold rsa; omega)).trans hM2
        generalize oc P (pL (B 2 0)) = Q at c1 c2 c3 d1 d2 d3
        obtain ⟨qc, qo⟩ := Q
        dsimp only at c1 c2 c3 d1 d2 d3
        rcases hpc with rfl | rfl | ⟨i, hi, rfl⟩
        · simp (disch := omega) only [wp_some, wp_obd, wp_ob2, wp_bnd, wp_gd, wp_ite, wp_true, wp_ff, ↓l_n1, ↓l_n2, ↓l_n3, ↓l_n4, ↓l_n10, ↓l_n20, l_0, l_1, l_2, l_3, l_4, l_5, l_6, l_7, l_8, l_9, l_10, l_13, l_14, l_15, l_16, l_20, l_21, l_24, l_27, l_28, l_30, l_31, l_32, l_35, l_36, l_39, l_40, l_41, l_43, l_44, l_45, l_46, l_47, l_48, l_49, l_56, l_57, l_59, l_60, l_79, l_97, l_122, l_160, l_237, l_255, l_320, l_999, l_1000, nI_add, pk_mul, nI_eq, nI_leI, nI_ltI, nI_clamp, inb_nI_iff, e_within, e_in32, e_asNumber, e_flag, decide_eq_true_eq, Sum.elim_inl, Sum.elim_inr, true_implies, not_true_eq_false, not_false_eq_true, false_implies, and_true, true_and, nI_nn, nn_nI, nn_nn, ↓reduceIte, if_true, if_false, Nat.le_refl, implies_true, Nat.lt_irrefl, and_self_left, win1, nI_le_s1, Nat.zero_le, up_s, up_o, Nat.zero_add, m64_0, m64_1, m64_2, m64_3, m64_7, m64_8, m64_9, m64_10, m64_13, m64_20, m64_27, m64_60, d1]
          exact ⟨by unfold orr; rw [if_pos rfl], a2⟩
        · cases qo with
          | none =>
            have q0 : qc = 0 := c2.mpr rfl
            subst q0
            simp (disch := omega) only [wp_some, wp_obd, wp_ob2, wp_bnd, wp_gd, wp_ite, wp_true, wp_ff, ↓l_n1, ↓l_n2, ↓l_n3, ↓l_n4, ↓l_n10, ↓l_n20, l_0, l_1, l_2, l_3, l_4, l_5, l_6, l_7, l_8, l_9, l_10, l_13, l_14, l_15, l_16, l_20, l_21, l_24, l_27, l_28, l_30, l_31, l_32, l_35, l_36, l_39, l_40, l_41, l_43, l_44, l_45, l_46, l_47, l_48, l_49, l_56, l_57, l_59, l_60, l_79, l_97, l_122, l_160, l_237, l_255, l_320, l_999, l_1000, nI_add, pk_mul, nI_eq, nI_leI, nI_ltI, nI_clamp, inb_nI_iff, e_within, e_in32, e_asNumber, e_flag, decide_eq_true_eq, Sum.elim_inl, Sum.elim_inr, true_implies, not_true_eq_false, not_false_eq_true, false_implies, and_true, true_and, nI_nn, nn_nI, nn_nn, ↓reduceIte, if_true, if_false, Nat.le_refl, implies_true, Nat.lt_irrefl, and_self_left, win1, nI_le_s1, Nat.zero_le, up_s, up_o, Nat.zero_add, m64_0, m64_1, m64_2, m64_3, m64_7, m64_8, m64_9, m64_10, m64_13, m64_20, m64_27, m64_60, d1, Nat.reduceEqDiff]
            exact ⟨rfl, a2⟩
          | some r =>
            have q0 : ¬ qc = 0 := fun e => by have := c2.mp e; cases this
            have d4 := (d3 r rfl).1
            simp (disch := omega) only [wp_some, wp_obd, wp_ob2, wp_bnd, wp_gd, wp_ite, wp_true, wp_ff, ↓l_n1, ↓l_n2, ↓l_n3, ↓l_n4, ↓l_n10, ↓l_n20, l_0, l_1, l_2, l_3, l_4, l_5, l_6, l_7, l_8, l_9, l_10, l_13, l_14, l_15, l_16, l_20, l_21, l_24, l_27, l_28, l_30, l_31, l_32, l_35, l_36, l_39, l_40, l_41, l_43, l_44, l_45, l_46, l_47, l_48, l_49, l_56, l_57, l_59, l_60, l_79, l_97, l_122, l_160, l_237, l_255, l_320, l_999, l_1000, nI_add, pk_mul, nI_eq, nI_leI, nI_ltI, nI_clamp, inb_nI_iff, e_within, e_in32, e_asNumber, e_flag, decide_eq_true_eq, Sum.elim_inl, Sum.elim_inr, true_implies, not_true_eq_false, not_false_eq_true, false_implies, and_true, true_and, nI_nn, nn_nI, nn_nn, ↓reduceIte, if_true, if_false, Nat.le_refl, implies_true, Nat.lt_irrefl, and_self_left, win1, nI_le_s1, Nat.zero_le, up_s, up_o, Nat.zero_add, m64_0, m64_1, m64_2, m64_3, m64_7, m64_8, m64_9, m64_10, m64_13, m64_20, m64_27, m64_60, d1, d4, q0, Nat.reduceEqDiff]
            exact ⟨rfl, a2⟩
        · have z0 : ¬ (10 + i = 0) := by omega
          have z1 : ¬ (10 + i = 1) := by omega
          have o0 : ¬ nI (10 + i) = nI 0 := fun e => z0 (nI_inj (by omega) (by omega) e)
          have o1 : ¬ nI (10 + i) = nI 1 := fun e => z1 (nI_inj (by omega) (by omega) e)
          cases qo with
          | none =>
            have q0 : qc = 0 := c2.mpr rfl
            subst q0
            simp (disch := omega) only [wp_some, wp_obd, wp_ob2, wp_bnd, wp_gd, wp_ite, wp_true, wp_ff, ↓l_n1, ↓l_n2, ↓l_n3, ↓l_n4, ↓l_n10, ↓l_n20, l_0, l_1, l_2, l_3, l_4, l_5, l_6, l_7, l_8, l_9, l_10, l_13, l_14, l_15, l_16, l_20, l_21, l_24, l_27, l_28, l_30, l_31, l_32, l_35, l_36, l_39, l_40, l_41, l_43, l_44, l_45, l_46, l_47, l_48, l_49, l_56, l_57, l_59, l_60, l_79, l_97, l_122, l_160, l_237, l_255, l_320, l_999, l_1000, nI_add, pk_mul, nI_eq, nI_leI, nI_ltI, nI_clamp, inb_nI_iff, e_within, e_in32, e_asNumber, e_flag, decide_eq_true_eq, Sum.elim_inl, Sum.elim_inr, true_implies, not_true_eq_false, not_false_eq_true, false_implies, and_true, true_and, nI_nn, nn_nI, nn_nn, ↓reduceIte, if_true, if_false, Nat.le_refl, implies_true, Nat.lt_irrefl, and_self_left, win1, nI_le_s1, Nat.zero_le, up_s, up_o, Nat.zero_add, m64_0, m64_1, m64_2, m64_3, m64_7, m64_8, m64_9, m64_10, m64_13, m64_20, m64_27, m64_60, d1, z0, z1]
            exact ⟨by unfold orr; rw [if_neg o0], a2⟩
          | some r =>
            have q0 : ¬ qc = 0 := fun e => by have := c2.mp e; cases this
            have d4 := (d3 r rfl).2 i hi
            have ev : orr (B 2 0) (nI (10 + i)) (qc, some r) = if B 2 0 ≤ i then nn 4 else nI (pS (B 2 0) r.2 i) := by
              unfold orr
              rw [if_neg o0]
              dsimp only
              rw [if_neg o1, e10]
              have : (nI (B 2 0) ≤ nI i) ↔ (B 2 0 ≤ i) := nI_leI (by omega) (by omega)
              have hcl := nI_clamp (n := i) (by omega)
              by_cases w : B 2 0 ≤ i
              · rw [if_pos (this.mpr w), if_pos w]
              · rw [if_neg (fun e => w (this.mp e)), if_neg w, hcl]
            rw [ev]
            by_cases w : B 2 0 ≤ i
            · simp (disch := omega) only [wp_some, wp_obd, wp_ob2, wp_bnd, wp_gd, wp_ite, wp_true, wp_ff, ↓l_n1, ↓l_n2, ↓l_n3, ↓l_n4, ↓l_n10, ↓l_n20, l_0, l_1, l_2, l_3, l_4, l_5, l_6, l_7, l_8, l_9, l_10, l_13, l_14, l_15, l_16, l_20, l_21, l_24, l_27, l_28, l_30, l_31, l_32, l_35, l_36, l_39, l_40, l_41, l_43, l_44, l_45, l_46, l_47, l_48, l_49, l_56, l_57, l_59, l_60, l_79, l_97, l_122, l_160, l_237, l_255, l_320, l_999, l_1000, nI_add, pk_mul, nI_eq, nI_leI, nI_ltI, nI_clamp, inb_nI_iff, e_within, e_in32, e_asNumber, e_flag, decide_eq_true_eq, Sum.elim_inl, Sum.elim_inr, true_implies, not_true_eq_false, not_false_eq_true, false_implies, and_true, true_and, nI_nn, nn_nI, nn_nn, ↓reduceIte, if_true, if_false, Nat.le_refl, implies_true, Nat.lt_irrefl, and_self_left, win1, nI_le_s1, Nat.zero_le, up_s, up_o, Nat.zero_add, m64_0, m64_1, m64_2, m64_3, m64_7, m64_8, m64_9, m64_10, m64_13, m64_20, m64_27, m64_60, d1, d4, q0, z0, z1, e10, f2, w]
              exact a2
            · simp (disch := omega) only [wp_some, wp_obd, wp_ob2, wp_bnd, wp_gd, wp_ite, wp_true, wp_ff, ↓l_n1, ↓l_n2, ↓l_n3, ↓l_n4, ↓l_n10, ↓l_n20, l_0, l_1, l_2, l_3, l_4, l_5, l_6, l_7, l_8, l_9, l_10, l_13, l_14, l_15, l_16, l_20, l_21, l_24, l_27, l_28, l_30, l_31, l_32, l_35, l_36, l_39, l_40, l_41, l_43, l_44, l_45, l_46, l_47, l_48, l_49, l_56, l_57, l_59, l_60, l_79, l_97, l_122, l_160, l_237, l_255, l_320, l_999, l_1000, nI_add, pk_mul, nI_eq, nI_leI, nI_ltI, nI_clamp, inb_nI_iff, e_within, e_in32, e_asNumber, e_flag, decide_eq_true_eq, Sum.elim_inl, Sum.elim_inr, true_implies, not_true_eq_false, not_false_eq_true, false_implies, and_true, true_and, nI_nn, nn_nI, nn_nn, ↓reduceIte, if_true, if_false, Nat.le_refl, implies_true, Nat.lt_irrefl, and_self_left, win1, nI_le_s1, Nat.zero_le, up_s, up_o, Nat.zero_add, m64_0, m64_1, m64_2, m64_3, m64_7, m64_8, m64_9, m64_10, m64_13, m64_20, m64_27, m64_60, d1, d4, q0, z0, z1, e10, f2, w]
              exact ⟨by omega, a2⟩
      unfold f_X9_orders
      rcases hpp with hp | hp
      · simp only [e_within, wp_obd, wp_some, l_0, l_1, hp, decide_true, if_true, Sum.elim_inr, and_self]
        exact fin
      · by_cases hp' : nI 0 ≤ p ∧ p ≤ nI 1
        · simp only [e_within, wp_obd, wp_some, l_0, l_1, hp', decide_true, if_true, Sum.elim_inr, and_self]
          exact fin
        · simp only [e_within, wp_obd, wp_some, l_0, l_1, l_10, l_13, hp', hp, decide_true, decide_false, if_true, Sum.elim_inr, and_self, wp_ff, if_false]
          exact fin
    · obtain ⟨c1, c2, c3⟩ := hoc (pL (B 2 0))
      have hg3 : g 24 3 0 0 = nI (B 2 0) := hg.1.2.2
      have fin : Ok (lp fu (fun a11 => (if (4 : Int32) ≤ a11.1 then some (.inr a11.2) else gd (inb a11.1 4) (bnd (up a11.2 38 0 0 a11.1.toNatClampNeg a11.1) (fun h12 => bnd (a11.1 + (1 : Int32)) (fun x13 => some (.inl (x13, h12))))))) ((0 : Int32), g)) (fun e14 => Ok (lp fu (fun a77 => (if a77.2.2.1 = true then obd (f_X10_starts a77.2.2.2) (fun h78 => obd (lp fu (fun a85 => (if (a85.2 24 3 0 0) ≤ a85.1 then some (.inr a85.2) else gd (inb a85.1 4) (gd (inb a85.1 4) (bnd (up a85.2 36 0 0 a85.1.toNatClampNeg (a85.2 38 0 0 a85.1.toNatClampNeg)) (fun h86 => bnd (a85.1 + (1 : Int32)) (fun x87 => some (.inl (x87, h86)))))))) ((0 : Int32), h78)) (fun e88 => ob2 (f_X10_sortedBehind e88) (fun r89 h90 => obd ((if r89 = (-4 : Int32) then some false else (if a77.2.1 = (-4 : Int32) then some true else (if a77.2.1 ≤ r89 then some false else some true)))) (fun a91 => obd (lp fu (fun a98 => (if (a98.2 24 3 0 0) ≤ a98.1 then some (.inr a98.2) else (if a91 = true then gd (inb a98.1 4) (gd (inb a98.1 4) (bnd (up a98.2 39 0 0 a98.1.toNatClampNeg (a98.2 38 0 0 a98.1.toNatClampNeg)) (fun h99 => bnd (a98.1 + (1 : Int32)) (fun x100 => some (.inl (x100, h99)))))) else some (.inr a98.2)))) ((0 : Int32), h90)) (fun e101 => obd ((if r89 = (-4 : Int32) then some false else some true)) (fun a102 => obd (f_X10_flag a102 e101) (fun r103 => bnd (a77.1 + r103) (fun x104 => obd ((if a91 = true then some r89 else some a77.2.1)) (fun a105 => ob2 (f_X10_nextOrder e101) (fun r106 h107 => some (.inl (x104, a105, r106, h107)))))))))))) else some (.inr (a77.1, a77.2.1, a77.2.2.2)))) ((0 : Int32), (-4 : Int32), true, e14)) (fun e108 => Ok (obd ((if p = 0 then some (.inr ()) else (if e108.1 = 0 then some (.inr ()) else (if p = (1 : Int32) then some (.inl (e108.2.1, e108.2.2)) else (if (e108.2.2 24 3 0 0) ≤ (p - (10 : Int32)) then some (.inl ((-4 : Int32), e108.2.2)) else gd (inb (p - (10 : Int32)) 4) (some (.inl ((e108.2.2 39 0 0 (p - (10 : Int32)).toNatClampNeg), e108.2.2)))))))) (Sum.elim (fun r => some r) (fun a109 => (if p = 0 then some (e108.1, e108.2.2) else some ((-4 : Int32), e108.2.2))))) (fun q => q.1 = orr (B 2 0) p (oc P (pL (B 2 0))) ∧ FRA g q.2))) := by
        refine (ok_up (K := fun h' => (∀ i, i < 4 → h' 38 0 0 i = nI i) ∧ ∀ k j o i, k ≠ 38 → h' k j o i = g k j o i) 4 (fun j z => z.1 = nI j ∧ (∀ i, i < j → z.2 38 0 0 i = nI i) ∧ ∀ k j o i, k ≠ 38 → z.2 k j o i = g k j o i) (by omega) ?_ ?_ _ ⟨rfl, fun i hi => by omega, fun _ _ _ _ _ => rfl⟩).mono ?_
        · rintro j ⟨x, z⟩ hj ⟨hx, h1, h2⟩
          dsimp only at hx h1 h2
          subst hx
          simp (disch := omega) only [wp_some, wp_obd, wp_ob2, wp_bnd, wp_gd, wp_ite, wp_true, wp_ff, ↓l_n1, ↓l_n2, ↓l_n3, ↓l_n4, ↓l_n10, ↓l_n20, l_0, l_1, l_2, l_3, l_4, l_5, l_6, l_7, l_8, l_9, l_10, l_13, l_14, l_15, l_16, l_20, l_21, l_24, l_27, l_28, l_30, l_31, l_32, l_35, l_36, l_39, l_40, l_41, l_43, l_44, l_45, l_46, l_47, l_48, l_49, l_56, l_57, l_59, l_60, l_79, l_97, l_122, l_160, l_237, l_255, l_320, l_999, l_1000, nI_add, pk_mul, nI_eq, nI_leI, nI_ltI, nI_clamp, inb_nI_iff, e_within, e_in32, e_asNumber, e_flag, decide_eq_true_eq, Sum.elim_inl, Sum.elim_inr, true_implies, not_true_eq_false, not_false_eq_true, false_implies, and_true, true_and, nI_nn, nn_nI, nn_nn, ↓reduceIte, if_true, if_false, Nat.le_refl, implies_true, Nat.lt_irrefl, and_self_left, win1, nI_le_s1, Nat.zero_le, up_s, up_o, Nat.zero_add, m64_0, m64_1, m64_2, m64_3, m64_7, m64_8, m64_9, m64_10, m64_13, m64_20, m64_27, m64_60]
          refine ⟨fun e => by omega, fun _ => ⟨by omega, fun i hi => ?_, fun k j' o i hh => ?_⟩⟩
          · by_cases e : i = j
            · subst e; (try simp (disch := omega) only [up_s, up_o, and_self])
            · rw [up_o (by omega)]; exact h1 i (by omega)
          · rw [up_o (by omega)]; exact h2 k j' o i hh
        · rintro ⟨x, z⟩ ⟨hx, h1, h2⟩
          dsimp only at hx h1 h2
          subst hx
          simp (disch := omega) only [wp_some, wp_obd, wp_ob2, wp_bnd, wp_gd, wp_ite, wp_true, wp_ff, ↓l_n1, ↓l_n2, ↓l_n3, ↓l_n4, ↓l_n10, ↓l_n20, l_0, l_1, l_2, l_3, l_4, l_5, l_6, l_7, l_8, l_9, l_10, l_13, l_14, l_15, l_16, l_20, l_21, l_24, l_27, l_28, l_30, l_31, l_32, l_35, l_36, l_39, l_40, l_41, l_43, l_44, l_45, l_46, l_47, l_48, l_49, l_56, l_57, l_59, l_60, l_79, l_97, l_122, l_160, l_237, l_255, l_320, l_999, l_1000, nI_add, pk_mul, nI_eq, nI_leI, nI_ltI, nI_clamp, inb_nI_iff, e_within, e_in32, e_asNumber, e_flag, decide_eq_true_eq, Sum.elim_inl, Sum.elim_inr, true_implies, not_true_eq_false, not_false_eq_true, false_implies, and_true, true_and, nI_nn, nn_nI, nn_nn, ↓reduceIte, if_true, if_false, Nat.le_refl, implies_true, Nat.lt_irrefl, and_self_left, win1, nI_le_s1, Nat.zero_le, up_s, up_o, Nat.zero_add, m64_0, m64_1, m64_2, m64_3, m64_7, m64_8, m64_9, m64_10, m64_13, m64_20, m64_27, m64_60]
          exact ⟨h1, h2⟩
        rintro e14 ⟨a1, a2⟩
        refine (ok_up (K := fun e => e.1 = nI (oc P (pL (B 2 0))).1 ∧ e.2.1 = fwv (oc P (pL (B 2 0))).2 ∧ FRA g e.2.2 ∧ MO e.2.2 (B 2 0) (oc P (pL (B 2 0)))) (pL (B 2 0)) (fun j z => z.1 = nI (oc P j).1 ∧ z.2.1 = fwv (oc P j).2 ∧ z.2.2.1 = decide (j < pL (B 2 0)) ∧ FRA g z.2.2.2 ∧ MO z.2.2.2 (B 2 0) (oc P j) ∧ (j < pL (B 2 0) → ∀ i, i < 4 → z.2.2.2 38 0 0 i = nI (pS (B 2 0) j i))) (by omega) ?_ ?_ _ ⟨rfl, rfl, by simp [l1], fun k j o i hr => a2 _ _ _ _ (by unfold rsa at hr; omega), fun r e => (by cases e), fun _ i hi => (a1 i hi).trans (by rw [l3 i hi])⟩).mono ?_
        · rintro j ⟨v1, v2, b, z⟩ hj ⟨hv1, hv2, hb, q2, q4, q3⟩
          dsimp only at hv1 hv2 hb q2 q4 q3
          have hb' : b = true := by rw [hb]; simp [hj]
          clear hb
          subst hv1 hv2 hb'
          obtain ⟨l5, l6, l7⟩ := l4 j hj
          have hWo : WF 999 (od B (pS (B 2 0) j)) := WF_od hW.1 hW.2.1 l5 l6
          obtain ⟨o1, o2, o3⟩ := hoc j
          simp (disch := omega) only [wp_some, wp_obd, wp_ob2, wp_bnd, wp_gd, wp_ite, wp_true, wp_ff, ↓l_n1, ↓l_n2, ↓l_n3, ↓l_n4, ↓l_n10, ↓l_n20, l_0, l_1, l_2, l_3, l_4, l_5, l_6, l_7, l_8, l_9, l_10, l_13, l_14, l_15, l_16, l_20, l_21, l_24, l_27, l_28, l_30, l_31, l_32, l_35, l_36, l_39, l_40, l_41, l_43, l_44, l_45, l_46, l_47, l_48, l_49, l_56, l_57, l_59, l_60, l_79, l_97, l_122, l_160, l_237, l_255, l_320, l_999, l_1000, nI_add, pk_mul, nI_eq, nI_leI, nI_ltI, nI_clamp, inb_nI_iff, e_within, e_in32, e_asNumber, e_flag, decide_eq_true_eq, Sum.elim_inl, Sum.elim_inr, true_implies, not_true_eq_false, not_false_eq_true, false_implies, and_true, true_and, nI_nn, nn_nI, nn_nn, ↓reduceIte, if_true, if_false, Nat.le_refl, implies_true, Nat.lt_irrefl, and_self_left, win1, nI_le_s1, Nat.zero_le, up_s, up_o, Nat.zero_add, m64_0, m64_1, m64_2, m64_3, m64_7, m64_8, m64_9, m64_10, m64_13, m64_20, m64_27, m64_60]
          refine (t_starts (RN_fra hg hW q2) hW).mono ?_
          rintro h1 ⟨b1, b2⟩
          refine (ok_up (K := fun h' => MT h' (od B (pS (B 2 0) j)) ∧ FrM h1 h') (B 2 0) (fun i y => y.1 = nI i ∧ (∀ i', i' < i → y.2 36 0 0 i' = nI (pS (B 2 0) j i')) ∧ ∀ k a o i, k ≠ 36 → y.2 k a o i = h1 k a o i) (by omega) ?_ ?_ _ ⟨rfl, fun i hi => by omega, fun _ _ _ _ _ => rfl⟩).mono ?_
          · rintro i ⟨x, y⟩ hi ⟨hx, k1, k2⟩
            dsimp only at hx k1 k2
            subst hx
            have e3 : y 24 3 0 0 = nI (B 2 0) := (k2 _ _ _ _ (by decide)).trans b1.2.2.1
            have e38 : y 38 0 0 i = nI (pS (B 2 0) j i) := (k2 _ _ _ _ (by decide)).trans ((b2 _ _ _ _ (by omega)).trans (q3 hj i (by omega)))
            simp (disch := omega) only [wp_some, wp_obd, wp_ob2, wp_bnd, wp_gd, wp_ite, wp_true, wp_ff, ↓l_n1, ↓l_n2, ↓l_n3, ↓l_n4, ↓l_n10, ↓l_n20, l_0, l_1, l_2, l_3, l_4, l_5, l_6, l_7, l_8, l_9, l_10, l_13, l_14, l_15, l_16, l_20, l_21, l_24, l_27, l_28, l_30, l_31, l_32, l_35, l_36, l_39, l_40, l_41, l_43, l_44, l_45, l_46, l_47, l_48, l_49, l_56, l_57, l_59, l_60, l_79, l_97, l_122, l_160, l_237, l_255, l_320, l_999, l_1000, nI_add, pk_mul, nI_eq, nI_leI, nI_ltI, nI_clamp, inb_nI_iff, e_within, e_in32, e_asNumber, e_flag, decide_eq_true_eq, Sum.elim_inl, Sum.elim_inr, true_implies, not_true_eq_false, not_false_eq_true, false_implies, and_true, true_and, nI_nn, nn_nI, nn_nn, ↓reduceIte, if_true, if_false, Nat.le_refl, implies_true, Nat.lt_irrefl, and_self_left, win1, nI_le_s1, Nat.zero_le, up_s, up_o, Nat.zero_add, m64_0, m64_1, m64_2, m64_3, m64_7, m64_8, m64_9, m64_10, m64_13, m64_20, m64_27, m64_60, e3, e38]
            refine ⟨fun e => by omega, fun _ => ⟨by omega, fun i' hi' => ?_, fun k a o i' hh => ?_⟩⟩
            · by_cases e : i' = i
              · subst e; (try simp (disch := omega) only [up_s, up_o, and_self])
              · rw [up_o (by omega)]; exact k1 i' (by omega)
            · rw [up_o (by omega)]; exact k2 k a o i' hh
          · rintro ⟨x, y⟩ ⟨hx, k1, k2⟩
            dsimp only at hx k1 k2
            subst hx
            have e3 : y 24 3 0 0 = nI (B 2 0) := (k2 _ _ _ _ (by decide)).trans b1.2.2.1
            simp (disch := omega) only [wp_some, wp_obd, wp_ob2, wp_bnd, wp_gd, wp_ite, wp_true, wp_ff, ↓l_n1, ↓l_n2, ↓l_n3, ↓l_n4, ↓l_n10, ↓l_n20, l_0, l_1, l_2, l_3, l_4, l_5, l_6, l_7, l_8, l_9, l_10, l_13, l_14, l_15, l_16, l_20, l_21, l_24, l_27, l_28, l_30, l_31, l_32, l_35, l_36, l_39, l_40, l_41, l_43, l_44, l_45, l_46, l_47, l_48, l_49, l_56, l_57, l_59, l_60, l_79, l_97, l_122, l_160, l_237, l_255, l_320, l_999, l_1000, nI_add, pk_mul, nI_eq, nI_leI, nI_ltI, nI_clamp, inb_nI_iff, e_within, e_in32, e_asNumber, e_flag, decide_eq_true_eq, Sum.elim_inl, Sum.elim_inr, true_implies, not_true_eq_false, not_false_eq_true, false_implies, and_true, true_and, nI_nn, nn_nI, nn_nn, ↓reduceIte, if_true, if_false, Nat.le_refl, implies_true, Nat.lt_irrefl, and_self_left, win1, nI_le_s1, Nat.zero_le, up_s, up_o, Nat.zero_add, m64_0, m64_1, m64_2, m64_3, m64_7, m64_8, m64_9, m64_10, m64_13, m64_20, m64_27, m64_60, e3]
            refine ⟨?_, fun k a o i hh => k2 _ _ _ _ (by omega)⟩
            obtain ⟨m0, m1, m2, m3, m4, m5, m6, m7, m8, m9, m10⟩ := b1
            have gg : ∀ f i, f ≠ 8 → od B (pS (B 2 0) j) f i = B f i := fun f i a => od_f a
            unfold MT
            simp only [gg 0 _ (by decide), gg 1 _ (by decide), gg 2 _ (by decide), gg 3 _ (by decide), gg 4 _ (by decide), gg 5 _ (by decide), gg 6 _ (by decide), gg 7 _ (by decide), gg 9 _ (by decide), gg 10 _ (by decide), gg 11 _ (by decide), gg 12 _ (by decide), gg 13 _ (by decide), gg 14 _ (by decide), gg 15 _ (by decide)]
            refine ⟨(k2 _ _ _ _ (by decide)).trans m0, (k2 _ _ _ _ (by decide)).trans m1, (k2 _ _ _ _ (by decide)).trans m2, (k2 _ _ _ _ (by decide)).trans m3, (k2 _ _ _ _ (by decide)).trans m4, (k2 _ _ _ _ (by decide)).trans m5, (k2 _ _ _ _ (by decide)).trans m6, fun x hx => (k2 _ _ _ _ (by decide)).trans (m7 x hx), fun i hi => ?_, fun c hc => ?_, fun k hk => ?_⟩
            · rw [hW.2.1.1] at hi
              rw [od_8 (by omega)]; exact k1 i hi
            · rw [k2 _ _ _ _ (by decide), k2 _ _ _ _ (by decide), k2 _ _ _ _ (by decide)]; exact m9 c hc
            · rw [k2 _ _ _ _ (by decide), k2 _ _ _ _ (by decide), k2 _ _ _ _ (by decide), k2 _ _ _ _ (by decide)]; exact m10 k hk
          rintro h2 ⟨d1, d2⟩
          refine (m_sorted d1 hWo (by omega)).mono ?_
          rintro ⟨r, h3⟩ ⟨f1, f2⟩
          dsimp only at f1 f2
          rw [← hP'] at f1
          subst f1
          have hF3 : FrM z h3 := b2.tr (d2.tr f2)
          have h33 : h3 24 3 0 0 = nI (B 2 0) := by rw [hF3 _ _ _ _ (by omega), q2 _ _ _ _ (by unfold rsa; omega)]; exact hg3
          have h338 : ∀ i, i < 4 → h3 38 0 0 i = nI (pS (B 2 0) j i) := fun i hi => (hF3 _ _ _ _ (by omega)).trans (q3 hj i hi)
          have cpy : ∀ Kp : Mem → Prop, (∀ e, (∀ i, i < B 2 0 → e 39 0 0 i = nI (pS (B 2 0) j i)) → (∀ k a o i, k ≠ 39 → e k a o i = h3 k a o i) → Kp e) → Ok (lp fu (fun a98 => (if (a98.2 24 3 0 0) ≤ a98.1 then some (.inr a98.2) else gd (inb a98.1 4) (gd (inb a98.1 4) (bnd (up a98.2 39 0 0 a98.1.toNatClampNeg (a98.2 38 0 0 a98.1.toNatClampNeg)) (fun h99 => bnd (a98.1 + nI 1) (fun x100 => some (.inl (x100, h99)))))))) (nI 0, h3)) Kp := by
            intro Kp hKp
            refine ok_up (B 2 0) (fun i y => y.1 = nI i ∧ (∀ i', i' < i → y.2 39 0 0 i' = nI (pS (B 2 0) j i')) ∧ ∀ k a o i, k ≠ 39 → y.2 k a o i = h3 k a o i) (by omega) ?_ ?_ _ ⟨rfl, fun i hi => by omega, fun _ _ _ _ _ => rfl⟩
            · rintro i ⟨x, y⟩ hi ⟨hx, k1, k2⟩
              dsimp only at hx k1 k2
              subst hx
              have e3 : y 24 3 0 0 = nI (B 2 0) := (k2 _ _ _ _ (by decide)).trans h33
              have e38 : y 38 0 0 i = nI (pS (B 2 0) j i) := (k2 _ _ _ _ (by decide)).trans (h338 i (by omega))
              simp (disch := omega) only [wp_some, wp_obd, wp_ob2, wp_bnd, wp_gd, wp_ite, wp_true, wp_ff, ↓l_n1, ↓l_n2, ↓l_n3, ↓l_n4, ↓l_n10, ↓l_n20, l_0, l_1, l_2, l_3, l_4, l_5, l_6, l_7, l_8, l_9, l_10, l_13, l_14, l_15, l_16, l_20, l_21, l_24, l_27, l_28, l_30, l_31, l_32, l_35, l_36, l_39, l_40, l_41, l_43, l_44, l_45, l_46, l_47, l_48, l_49, l_56, l_57, l_59, l_60, l_79, l_97, l_122, l_160, l_237, l_255, l_320, l_999, l_1000, nI_add, pk_mul, nI_eq, nI_leI, nI_ltI, nI_clamp, inb_nI_iff, e_within, e_in32, e_asNumber, e_flag, decide_eq_true_eq, Sum.elim_inl, Sum.elim_inr, true_implies, not_true_eq_false, not_false_eq_true, false_implies, and_true, true_and, nI_nn, nn_nI, nn_nn, ↓reduceIte, if_true, if_false, Nat.le_refl, implies_true, Nat.lt_irrefl, and_self_left, win1, nI_le_s1, Nat.zero_le, up_s, up_o, Nat.zero_add, m64_0, m64_1, m64_2, m64_3, m64_7, m64_8, m64_9, m64_10, m64_13, m64_20, m64_27, m64_60, e3, e38]
              refine ⟨fun e => by omega, fun _ => ⟨by omega, fun i' hi' => ?_, fun k a o i' hh => ?_⟩⟩
              · by_cases e : i' = i
                · subst e; (try simp (disch := omega) only [up_s, up_o, and_self])
                · rw [up_o (by omega)]; exact k1 i' (by omega)
              · rw [up_o (by omega)]; exact k2 k a o i' hh
            · rintro ⟨x, y⟩ ⟨hx, k1, k2⟩
              dsimp only at hx k1 k2
              subst hx
              have e3 : y 24 3 0 0 = nI (B 2 0) := (k2 _ _ _ _ (by decide)).trans h33
              simp (disch := omega) only [wp_some, wp_obd, wp_ob2, wp_bnd, wp_gd, wp_ite, wp_true, wp_ff, ↓l_n1, ↓l_n2, ↓l_n3, ↓l_n4, ↓l_n10, ↓l_n20, l_0, l_1, l_2, l_3, l_4, l_5, l_6, l_7, l_8, l_9, l_10, l_13, l_14, l_15, l_16, l_20, l_21, l_24, l_27, l_28, l_30, l_31, l_32, l_35, l_36, l_39, l_40, l_41, l_43, l_44, l_45, l_46, l_47, l_48, l_49, l_56, l_57, l_59, l_60, l_79, l_97, l_122, l_160, l_237, l_255, l_320, l_999, l_1000, nI_add, pk_mul, nI_eq, nI_leI, nI_ltI, nI_clamp, inb_nI_iff, e_within, e_in32, e_asNumber, e_flag, decide_eq_true_eq, Sum.elim_inl, Sum.elim_inr, true_implies, not_true_eq_false, not_false_eq_true, false_implies, and_true, true_and, nI_nn, nn_nI, nn_nn, ↓reduceIte, if_true, if_false, Nat.le_refl, implies_true, Nat.lt_irrefl, and_self_left, win1, nI_le_s1, Nat.zero_le, up_s, up_o, Nat.zero_add, m64_0, m64_1, m64_2, m64_3, m64_7, m64_8, m64_9, m64_10, m64_13, m64_20, m64_27, m64_60, e3]
              exact hKp _ k1 k2
          cases e : P j with
          | none =>
            rw [oc_n e]
            simp (disch := omega) only [wp_some, wp_obd, wp_ob2, wp_bnd, wp_gd, wp_ite, wp_true, wp_ff, ↓l_n1, ↓l_n2, ↓l_n3, ↓l_n4, ↓l_n10, ↓l_n20, l_0, l_1, l_2, l_3, l_4, l_5, l_6, l_7, l_8, l_9, l_10, l_13, l_14, l_15, l_16, l_20, l_21, l_24, l_27, l_28, l_30, l_31, l_32, l_35, l_36, l_39, l_40, l_41, l_43, l_44, l_45, l_46, l_47, l_48, l_49, l_56, l_57, l_59, l_60, l_79, l_97, l_122, l_160, l_237, l_255, l_320, l_999, l_1000, nI_add, pk_mul, nI_eq, nI_leI, nI_ltI, nI_clamp, inb_nI_iff, e_within, e_in32, e_asNumber, e_flag, decide_eq_true_eq, Sum.elim_inl, Sum.elim_inr, true_implies, not_true_eq_false, not_false_eq_true, false_implies, and_true, true_and, nI_nn, nn_nI, nn_nn, ↓reduceIte, if_true, if_false, Nat.le_refl, implies_true, Nat.lt_irrefl, and_self_left, win1, nI_le_s1, Nat.zero_le, up_s, up_o, Nat.zero_add, m64_0, m64_1, m64_2, m64_3, m64_7, m64_8, m64_9, m64_10, m64_13, m64_20, m64_27, m64_60, on_none]
            refine (ok_up (K := fun e => h3 = e) 0 (fun _ z => z = (nI 0, h3)) (by omega) (fun j z hj => by omega) ?_ _ rfl).mono ?_
            · rintro z rfl
              simp (disch := omega) only [wp_some, wp_obd, wp_ob2, wp_bnd, wp_gd, wp_ite, wp_true, wp_ff, ↓l_n1, ↓l_n2, ↓l_n3, ↓l_n4, ↓l_n10, ↓l_n20, l_0, l_1, l_2, l_3, l_4, l_5, l_6, l_7, l_8, l_9, l_10, l_13, l_14, l_15, l_16, l_20, l_21, l_24, l_27, l_28, l_30, l_31, l_32, l_35, l_36, l_39, l_40, l_41, l_43, l_44, l_45, l_46, l_47, l_48, l_49, l_56, l_57, l_59, l_60, l_79, l_97, l_122, l_160, l_237, l_255, l_320, l_999, l_1000, nI_add, pk_mul, nI_eq, nI_leI, nI_ltI, nI_clamp, inb_nI_iff, e_within, e_in32, e_asNumber, e_flag, decide_eq_true_eq, Sum.elim_inl, Sum.elim_inr, true_implies, not_true_eq_false, not_false_eq_true, false_implies, and_true, true_and, nI_nn, nn_nI, nn_nn, ↓reduceIte, if_true, if_false, Nat.le_refl, implies_true, Nat.lt_irrefl, and_self_left, win1, nI_le_s1, Nat.zero_le, up_s, up_o, Nat.zero_add, m64_0, m64_1, m64_2, m64_3, m64_7, m64_8, m64_9, m64_10, m64_13, m64_20, m64_27, m64_60]
            rintro e rfl
            simp (disch := omega) only [wp_some, wp_obd, wp_ob2, wp_bnd, wp_gd, wp_ite, wp_true, wp_ff, ↓l_n1, ↓l_n2, ↓l_n3, ↓l_n4, ↓l_n10, ↓l_n20, l_0, l_1, l_2, l_3, l_4, l_5, l_6, l_7, l_8, l_9, l_10, l_13, l_14, l_15, l_16, l_20, l_21, l_24, l_27, l_28, l_30, l_31, l_32, l_35, l_36, l_39, l_40, l_41, l_43, l_44, l_45, l_46, l_47, l_48, l_49, l_56, l_57, l_59, l_60, l_79, l_97, l_122, l_160, l_237, l_255, l_320, l_999, l_1000, nI_add, pk_mul, nI_eq, nI_leI, nI_ltI, nI_clamp, inb_nI_iff, e_within, e_in32, e_asNumber, e_flag, decide_eq_true_eq, Sum.elim_inl, Sum.elim_inr, true_implies, not_true_eq_false, not_false_eq_true, false_implies, and_true, true_and, nI_nn, nn_nI, nn_nn, ↓reduceIte, if_true, if_false, Nat.le_refl, implies_true, Nat.lt_irrefl, and_self_left, win1, nI_le_s1, Nat.zero_le, up_s, up_o, Nat.zero_add, m64_0, m64_1, m64_2, m64_3, m64_7, m64_8, m64_9, m64_10, m64_13, m64_20, m64_27, m64_60, b2i_b]
            refine (n_next w2 hj (h := h3) ?_ (fun i hi => ?_)).mono ?_
            · exact h33
            · exact h338 i hi
            rintro ⟨r, h5⟩ ⟨g1, g2, g3⟩
            dsimp only at g1 g2 g3
            refine ⟨rfl, g1, fun k a o i hr => ?_, MO_fr q4 (fun k a o i hh => (g3 _ _ _ _ (by omega)).trans (hF3 _ _ _ _ (by omega))), fun w i hi => ?_⟩
            · have hr' := hr
              unfold rsa at hr'
              show h5 k a o i = _
              rw [g3 _ _ _ _ (by omega), hF3 _ _ _ _ (by omega)]
              exact q2 _ _ _ _ hr
            · rw [← pX_lt w]; exact g2 i hi
          | some s =>
            have hs := hp40 j s e
            rw [oc_s e]
            cases e2 : (oc P j).2 with
            | none =>
              rw [fwv_n]
              simp (disch := omega) only [wp_some, wp_obd, wp_ob2, wp_bnd, wp_gd, wp_ite, wp_true, wp_ff, ↓l_n1, ↓l_n2, ↓l_n3, ↓l_n4, ↓l_n10, ↓l_n20, l_0, l_1, l_2, l_3, l_4, l_5, l_6, l_7, l_8, l_9, l_10, l_13, l_14, l_15, l_16, l_20, l_21, l_24, l_27, l_28, l_30, l_31, l_32, l_35, l_36, l_39, l_40, l_41, l_43, l_44, l_45, l_46, l_47, l_48, l_49, l_56, l_57, l_59, l_60, l_79, l_97, l_122, l_160, l_237, l_255, l_320, l_999, l_1000, nI_add, pk_mul, nI_eq, nI_leI, nI_ltI, nI_clamp, inb_nI_iff, e_within, e_in32, e_asNumber, e_flag, decide_eq_true_eq, Sum.elim_inl, Sum.elim_inr, true_implies, not_true_eq_false, not_false_eq_true, false_implies, and_true, true_and, nI_nn, nn_nI, nn_nn, ↓reduceIte, if_true, if_false, Nat.le_refl, implies_true, Nat.lt_irrefl, and_self_left, win1, nI_le_s1, Nat.zero_le, up_s, up_o, Nat.zero_add, m64_0, m64_1, m64_2, m64_3, m64_7, m64_8, m64_9, m64_10, m64_13, m64_20, m64_27, m64_60, on_sm, fwv_s]
              refine cpy _ (fun e k1 k2 => ?_)
              simp (disch := omega) only [wp_some, wp_obd, wp_ob2, wp_bnd, wp_gd, wp_ite, wp_true, wp_ff, ↓l_n1, ↓l_n2, ↓l_n3, ↓l_n4, ↓l_n10, ↓l_n20, l_0, l_1, l_2, l_3, l_4, l_5, l_6, l_7, l_8, l_9, l_10, l_13, l_14, l_15, l_16, l_20, l_21, l_24, l_27, l_28, l_30, l_31, l_32, l_35, l_36, l_39, l_40, l_41, l_43, l_44, l_45, l_46, l_47, l_48, l_49, l_56, l_57, l_59, l_60, l_79, l_97, l_122, l_160, l_237, l_255, l_320, l_999, l_1000, nI_add, pk_mul, nI_eq, nI_leI, nI_ltI, nI_clamp, inb_nI_iff, e_within, e_in32, e_asNumber, e_flag, decide_eq_true_eq, Sum.elim_inl, Sum.elim_inr, true_implies, not_true_eq_false, not_false_eq_true, false_implies, and_true, true_and, nI_nn, nn_nI, nn_nn, ↓reduceIte, if_true, if_false, Nat.le_refl, implies_true, Nat.lt_irrefl, and_self_left, win1, nI_le_s1, Nat.zero_le, up_s, up_o, Nat.zero_add, m64_0, m64_1, m64_2, m64_3, m64_7, m64_8, m64_9, m64_10, m64_13, m64_20, m64_27, m64_60, b2i_b]
              refine (n_next w2 hj (h := e) ?_ (fun i hi => ?_)).mono ?_
              · rw [k2 _ _ _ _ (by decide)]; exact h33
              · rw [k2 _ _ _ _ (by decide)]; exact h338 i hi
              rintro ⟨r, h5⟩ ⟨g1, g2, g3⟩
              dsimp only at g1 g2 g3
              refine ⟨g1, fun k a o i hr => ?_, (fun r w i hi => by cases w; exact (g3 _ _ _ _ (by decide)).trans (k1 i hi)), fun w i hi => ?_⟩
              · have hr' := hr
                unfold rsa at hr'
                show h5 k a o i = _
                rw [g3 _ _ _ _ (by omega), k2 _ _ _ _ (by omega), hF3 _ _ _ _ (by omega)]
                exact q2 _ _ _ _ hr
              · rw [← pX_lt w]; exact g2 i hi
            | some q =>
              have hb := o3 q e2
              rw [fwv_s]
              by_cases w : s < q.1
              · have w' : ¬ q.1 ≤ s := by omega
                dsimp only
                rw [if_pos w]
                simp (disch := omega) only [wp_some, wp_obd, wp_ob2, wp_bnd, wp_gd, wp_ite, wp_true, wp_ff, ↓l_n1, ↓l_n2, ↓l_n3, ↓l_n4, ↓l_n10, ↓l_n20, l_0, l_1, l_2, l_3, l_4, l_5, l_6, l_7, l_8, l_9, l_10, l_13, l_14, l_15, l_16, l_20, l_21, l_24, l_27, l_28, l_30, l_31, l_32, l_35, l_36, l_39, l_40, l_41, l_43, l_44, l_45, l_46, l_47, l_48, l_49, l_56, l_57, l_59, l_60, l_79, l_97, l_122, l_160, l_237, l_255, l_320, l_999, l_1000, nI_add, pk_mul, nI_eq, nI_leI, nI_ltI, nI_clamp, inb_nI_iff, e_within, e_in32, e_asNumber, e_flag, decide_eq_true_eq, Sum.elim_inl, Sum.elim_inr, true_implies, not_true_eq_false, not_false_eq_true, false_implies, and_true, true_and, nI_nn, nn_nI, nn_nn, ↓reduceIte, if_true, if_false, Nat.le_refl, implies_true, Nat.lt_irrefl, and_self_left, win1, nI_le_s1, Nat.zero_le, up_s, up_o, Nat.zero_add, m64_0, m64_1, m64_2, m64_3, m64_7, m64_8, m64_9, m64_10, m64_13, m64_20, m64_27, m64_60, on_sm, w', fwv_s]
                refine cpy _ (fun e k1 k2 => ?_)
                simp (disch := omega) only [wp_some, wp_obd, wp_ob2, wp_bnd, wp_gd, wp_ite, wp_true, wp_ff, ↓l_n1, ↓l_n2, ↓l_n3, ↓l_n4, ↓l_n10, ↓l_n20, l_0, l_1, l_2, l_3, l_4, l_5, l_6, l_7, l_8, l_9, l_10, l_13, l_14, l_15, l_16, l_20, l_21, l_24, l_27, l_28, l_30, l_31, l_32, l_35, l_36, l_39, l_40, l_41, l_43, l_44, l_45, l_46, l_47, l_48, l_49, l_56, l_57, l_59, l_60, l_79, l_97, l_122, l_160, l_237, l_255, l_320, l_999, l_1000, nI_add, pk_mul, nI_eq, nI_leI, nI_ltI, nI_clamp, inb_nI_iff, e_within, e_in32, e_asNumber, e_flag, decide_eq_true_eq, Sum.elim_inl, Sum.elim_inr, true_implies, not_true_eq_false, not_false_eq_true, false_implies, and_true, true_and, nI_nn, nn_nI, nn_nn, ↓reduceIte, if_true, if_false, Nat.le_refl, implies_true, Nat.lt_irrefl, and_self_left, win1, nI_le_s1, Nat.zero_le, up_s, up_o, Nat.zero_add, m64_0, m64_1, m64_2, m64_3, m64_7, m64_8, m64_9, m64_10, m64_13, m64_20, m64_27, m64_60, b2i_b]
                refine (n_next w2 hj (h := e) ?_ (fun i hi => ?_)).mono ?_
                · rw [k2 _ _ _ _ (by decide)]; exact h33
                · rw [k2 _ _ _ _ (by decide)]; exact h338 i hi
                rintro ⟨r, h5⟩ ⟨g1, g2, g3⟩
                dsimp only at g1 g2 g3
                refine ⟨g1, fun k a o i hr => ?_, (fun r w i hi => by cases w; exact (g3 _ _ _ _ (by decide)).trans (k1 i hi)), fun w i hi => ?_⟩
                · have hr' := hr
                  unfold rsa at hr'
                  show h5 k a o i = _
                  rw [g3 _ _ _ _ (by omega), k2 _ _ _ _ (by omega), hF3 _ _ _ _ (by omega)]
                  exact q2 _ _ _ _ hr
                · rw [← pX_lt w]; exact g2 i hi
              · have w' : q.1 ≤ s := by omega
                dsimp only
                rw [if_neg w]
                simp (disch := omega) only [wp_some, wp_obd, wp_ob2, wp_bnd, wp_gd, wp_ite, wp_true, wp_ff, ↓l_n1, ↓l_n2, ↓l_n3, ↓l_n4, ↓l_n10, ↓l_n20, l_0, l_1, l_2, l_3, l_4, l_5, l_6, l_7, l_8, l_9, l_10, l_13, l_14, l_15, l_16, l_20, l_21, l_24, l_27, l_28, l_30, l_31, l_32, l_35, l_36, l_39, l_40, l_41, l_43, l_44, l_45, l_46, l_47, l_48, l_49, l_56, l_57, l_59, l_60, l_79, l_97, l_122, l_160, l_237, l_255, l_320, l_999, l_1000, nI_add, pk_mul, nI_eq, nI_leI, nI_ltI, nI_clamp, inb_nI_iff, e_within, e_in32, e_asNumber, e_flag, decide_eq_true_eq, Sum.elim_inl, Sum.elim_inr, true_implies, not_true_eq_false, not_false_eq_true, false_implies, and_true, true_and, nI_nn, nn_nI, nn_nn, ↓reduceIte, if_true, if_false, Nat.le_refl, implies_true, Nat.lt_irrefl, and_self_left, win1, nI_le_s1, Nat.zero_le, up_s, up_o, Nat.zero_add, m64_0, m64_1, m64_2, m64_3, m64_7, m64_8, m64_9, m64_10, m64_13, m64_20, m64_27, m64_60, on_sm, w', fwv_s]
                refine (ok_up (K := fun e => h3 = e) 0 (fun _ z => z = (nI 0, h3)) (by omega) (fun j z hj => by omega) ?_ _ rfl).mono ?_
                · rintro z rfl
                  simp (disch := omega) only [wp_some, wp_obd, wp_ob2, wp_bnd, wp_gd, wp_ite, wp_true, wp_ff, ↓l_n1, ↓l_n2, ↓l_n3, ↓l_n4, ↓l_n10, ↓l_n20, l_0, l_1, l_2, l_3, l_4, l_5, l_6, l_7, l_8, l_9, l_10, l_13, l_14, l_15, l_16, l_20, l_21, l_24, l_27, l_28, l_30, l_31, l_32, l_35, l_36, l_39, l_40, l_41, l_43, l_44, l_45, l_46, l_47, l_48, l_49, l_56, l_57, l_59, l_60, l_79, l_97, l_122, l_160, l_237, l_255, l_320, l_999, l_1000, nI_add, pk_mul, nI_eq, nI_leI, nI_ltI, nI_clamp, inb_nI_iff, e_within, e_in32, e_asNumber, e_flag, decide_eq_true_eq, Sum.elim_inl, Sum.elim_inr, true_implies, not_true_eq_false, not_false_eq_true, false_implies, and_true, true_and, nI_nn, nn_nI, nn_nn, ↓reduceIte, if_true, if_false, Nat.le_refl, implies_true, Nat.lt_irrefl, and_self_left, win1, nI_le_s1, Nat.zero_le, up_s, up_o, Nat.zero_add, m64_0, m64_1, m64_2, m64_3, m64_7, m64_8, m64_9, m64_10, m64_13, m64_20, m64_27, m64_60]
                rintro e rfl
                simp (disch := omega) only [wp_some, wp_obd, wp_ob2, wp_bnd, wp_gd, wp_ite, wp_true, wp_ff, ↓l_n1, ↓l_n2, ↓l_n3, ↓l_n4, ↓l_n10, ↓l_n20, l_0, l_1, l_2, l_3, l_4, l_5, l_6, l_7, l_8, l_9, l_10, l_13, l_14, l_15, l_16, l_20, l_21, l_24, l_27, l_28, l_30, l_31, l_32, l_35, l_36, l_39, l_40, l_41, l_43, l_44, l_45, l_46, l_47, l_48, l_49, l_56, l_57, l_59, l_60, l_79, l_97, l_122, l_160, l_237, l_255, l_320, l_999, l_1000, nI_add, pk_mul, nI_eq, nI_leI, nI_ltI, nI_clamp, inb_nI_iff, e_within, e_in32, e_asNumber, e_flag, decide_eq_true_eq, Sum.elim_inl, Sum.elim_inr, true_implies, not_true_eq_false, not_false_eq_true, false_implies, and_true, true_and, nI_nn, nn_nI, nn_nn, ↓reduceIte, if_true, if_false, Nat.le_refl, implies_true, Nat.lt_irrefl, and_self_left, win1, nI_le_s1, Nat.zero_le, up_s, up_o, Nat.zero_add, m64_0, m64_1, m64_2, m64_3, m64_7, m64_8, m64_9, m64_10, m64_13, m64_20, m64_27, m64_60, b2i_b]
                refine (n_next w2 hj (h := h3) ?_ (fun i hi => ?_)).mono ?_
                · exact h33
                · exact h338 i hi
                rintro ⟨r, h5⟩ ⟨g1, g2, g3⟩
                dsimp only at g1 g2 g3
                refine ⟨g1, fun k a o i hr => ?_, (fun r w i hi => by cases w; exact (g3 _ _ _ _ (by decide)).trans ((hF3 _ _ _ _ (by omega)).trans (q4 q e2 i hi))), fun w i hi => ?_⟩
                · have hr' := hr
                  unfold rsa at hr'
                  show h5 k a o i = _
                  rw [g3 _ _ _ _ (by omega), hF3 _ _ _ _ (by omega)]
                  exact q2 _ _ _ _ hr
                · rw [← pX_lt w]; exact g2 i hi
        · rintro ⟨v1, v2, b, z⟩ ⟨hv1, hv2, hb, q2, q4, q3⟩
          dsimp only at hv1 hv2 hb q2 q4 q3
          have hb' : b = false := by rw [hb]; simp
          clear hb
          subst hv1 hv2 hb'
          simp (disch := omega) only [wp_some, wp_obd, wp_ob2, wp_bnd, wp_gd, wp_ite, wp_true, wp_ff, ↓l_n1, ↓l_n2, ↓l_n3, ↓l_n4, ↓l_n10, ↓l_n20, l_0, l_1, l_2, l_3, l_4, l_5, l_6, l_7, l_8, l_9, l_10, l_13, l_14, l_15, l_16, l_20, l_21, l_24, l_27, l_28, l_30, l_31, l_32, l_35, l_36, l_39, l_40, l_41, l_43, l_44, l_45, l_46, l_47, l_48, l_49, l_56, l_57, l_59, l_60, l_79, l_97, l_122, l_160, l_237, l_255, l_320, l_999, l_1000, nI_add, pk_mul, nI_eq, nI_leI, nI_ltI, nI_clamp, inb_nI_iff, e_within, e_in32, e_asNumber, e_flag, decide_eq_true_eq, Sum.elim_inl, Sum.elim_inr, true_implies, not_true_eq_false, not_false_eq_true, false_implies, and_true, true_and, nI_nn, nn_nI, nn_nn, ↓reduceIte, if_true, if_false, Nat.le_refl, implies_true, Nat.lt_irrefl, and_self_left, win1, nI_le_s1, Nat.zero_le, up_s, up_o, Nat.zero_add, m64_0, m64_1, m64_2, m64_3, m64_7, m64_8, m64_9, m64_10, m64_13, m64_20, m64_27, m64_60]
          exact ⟨q2, q4⟩
        rintro ⟨v1, v2, z⟩ ⟨hv1, hv2, q2, q4⟩
        dsimp only at hv1 hv2 q2 q4
        subst hv1 hv2
        have f2 : z 24 3 0 0 = nI (B 2 0) := (q2 _ _ _ _ (by unfold rsa; omega)).trans hg3
        generalize oc P (pL (B 2 0)) = Q at c1 c2 c3 q4
        obtain ⟨qc, qo⟩ := Q
        dsimp only at c1 c2 c3 q4
        rcases hpc with rfl | rfl | ⟨i, hi, rfl⟩
        · simp (disch := omega) only [wp_some, wp_obd, wp_ob2, wp_bnd, wp_gd, wp_ite, wp_true, wp_ff, ↓l_n1, ↓l_n2, ↓l_n3, ↓l_n4, ↓l_n10, ↓l_n20, l_0, l_1, l_2, l_3, l_4, l_5, l_6, l_7, l_8, l_9, l_10, l_13, l_14, l_15, l_16, l_20, l_21, l_24, l_27, l_28, l_30, l_31, l_32, l_35, l_36, l_39, l_40, l_41, l_43, l_44, l_45, l_46, l_47, l_48, l_49, l_56, l_57, l_59, l_60, l_79, l_97, l_122, l_160, l_237, l_255, l_320, l_999, l_1000, nI_add, pk_mul, nI_eq, nI_leI, nI_ltI, nI_clamp, inb_nI_iff, e_within, e_in32, e_asNumber, e_flag, decide_eq_true_eq, Sum.elim_inl, Sum.elim_inr, true_implies, not_true_eq_false, not_false_eq_true, false_implies, and_true, true_and, nI_nn, nn_nI, nn_nn, ↓reduceIte, if_true, if_false, Nat.le_refl, implies_true, Nat.lt_irrefl, and_self_left, win1, nI_le_s1, Nat.zero_le, up_s, up_o, Nat.zero_add, m64_0, m64_1, m64_2, m64_3, m64_7, m64_8, m64_9, m64_10, m64_13, m64_20, m64_27, m64_60]
          exact ⟨by unfold orr; rw [if_pos rfl], q2⟩
        · cases qo with
          | none =>
            have q0 : qc = 0 := c2.mpr rfl
            subst q0
            simp (disch := omega) only [wp_some, wp_obd, wp_ob2, wp_bnd, wp_gd, wp_ite, wp_true, wp_ff, ↓l_n1, ↓l_n2, ↓l_n3, ↓l_n4, ↓l_n10, ↓l_n20, l_0, l_1, l_2, l_3, l_4, l_5, l_6, l_7, l_8, l_9, l_10, l_13, l_14, l_15, l_16, l_20, l_21, l_24, l_27, l_28, l_30, l_31, l_32, l_35, l_36, l_39, l_40, l_41, l_43, l_44, l_45, l_46, l_47, l_48, l_49, l_56, l_57, l_59, l_60, l_79, l_97, l_122, l_160, l_237, l_255, l_320, l_999, l_1000, nI_add, pk_mul, nI_eq, nI_leI, nI_ltI, nI_clamp, inb_nI_iff, e_within, e_in32, e_asNumber, e_flag, decide_eq_true_eq, Sum.elim_inl, Sum.elim_inr, true_implies, not_true_eq_false, not_false_eq_true, false_implies, and_true, true_and, nI_nn, nn_nI, nn_nn, ↓reduceIte, if_true, if_false, Nat.le_refl, implies_true, Nat.lt_irrefl, and_self_left, win1, nI_le_s1, Nat.zero_le, up_s, up_o, Nat.zero_add, m64_0, m64_1, m64_2, m64_3, m64_7, m64_8, m64_9, m64_10, m64_13, m64_20, m64_27, m64_60, Nat.reduceEqDiff]
            exact ⟨rfl, q2⟩
          | some r =>
            have q0 : ¬ qc = 0 := fun e => by have := c2.mp e; cases this
            simp (disch := omega) only [wp_some, wp_obd, wp_ob2, wp_bnd, wp_gd, wp_ite, wp_true, wp_ff, ↓l_n1, ↓l_n2, ↓l_n3, ↓l_n4, ↓l_n10, ↓l_n20, l_0, l_1, l_2, l_3, l_4, l_5, l_6, l_7, l_8, l_9, l_10, l_13, l_14, l_15, l_16, l_20, l_21, l_24, l_27, l_28, l_30, l_31, l_32, l_35, l_36, l_39, l_40, l_41, l_43, l_44, l_45, l_46, l_47, l_48, l_49, l_56, l_57, l_59, l_60, l_79, l_97, l_122, l_160, l_237, l_255, l_320, l_999, l_1000, nI_add, pk_mul, nI_eq, nI_leI, nI_ltI, nI_clamp, inb_nI_iff, e_within, e_in32, e_asNumber, e_flag, decide_eq_true_eq, Sum.elim_inl, Sum.elim_inr, true_implies, not_true_eq_false, not_false_eq_true, false_implies, and_true, true_and, nI_nn, nn_nI, nn_nn, ↓reduceIte, if_true, if_false, Nat.le_refl, implies_true, Nat.lt_irrefl, and_self_left, win1, nI_le_s1, Nat.zero_le, up_s, up_o, Nat.zero_add, m64_0, m64_1, m64_2, m64_3, m64_7, m64_8, m64_9, m64_10, m64_13, m64_20, m64_27, m64_60, q0, Nat.reduceEqDiff, fwv_s]
            exact ⟨rfl, q2⟩
        · have z0 : ¬ (10 + i = 0) := by omega
          have z1 : ¬ (10 + i = 1) := by omega
          have o0 : ¬ nI (10 + i) = nI 0 := fun e => z0 (nI_inj (by omega) (by omega) e)
          have o1 : ¬ nI (10 + i) = nI 1 := fun e => z1 (nI_inj (by omega) (by omega) e)
          cases qo with
          | none =>
            have q0 : qc = 0 := c2.mpr rfl
            subst q0
            simp (disch := omega) only [wp_some, wp_obd, wp_ob2, wp_bnd, wp_gd, wp_ite, wp_true, wp_ff, ↓l_n1, ↓l_n2, ↓l_n3, ↓l_n4, ↓l_n10, ↓l_n20, l_0, l_1, l_2, l_3, l_4, l_5, l_6, l_7, l_8, l_9, l_10, l_13, l_14, l_15, l_16, l_20, l_21, l_24, l_27, l_28, l_30, l_31, l_32, l_35, l_36, l_39, l_40, l_41, l_43, l_44, l_45, l_46, l_47, l_48, l_49, l_56, l_57, l_59, l_60, l_79, l_97, l_122, l_160, l_237, l_255, l_320, l_999, l_1000, nI_add, pk_mul, nI_eq, nI_leI, nI_ltI, nI_clamp, inb_nI_iff, e_within, e_in32, e_asNumber, e_flag, decide_eq_true_eq, Sum.elim_inl, Sum.elim_inr, true_implies, not_true_eq_false, not_false_eq_true, false_implies, and_true, true_and, nI_nn, nn_nI, nn_nn, ↓reduceIte, if_true, if_false, Nat.le_refl, implies_true, Nat.lt_irrefl, and_self_left, win1, nI_le_s1, Nat.zero_le, up_s, up_o, Nat.zero_add, m64_0, m64_1, m64_2, m64_3, m64_7, m64_8, m64_9, m64_10, m64_13, m64_20, m64_27, m64_60, z0, z1]
            exact ⟨by unfold orr; rw [if_neg o0], q2⟩
          | some r =>
            have q0 : ¬ qc = 0 := fun e => by have := c2.mp e; cases this
            have ev : orr (B 2 0) (nI (10 + i)) (qc, some r) = if B 2 0 ≤ i then nn 4 else nI (pS (B 2 0) r.2 i) := by
              unfold orr
              rw [if_neg o0]
              dsimp only
              rw [if_neg o1, e10]
              have : (nI (B 2 0) ≤ nI i) ↔ (B 2 0 ≤ i) := nI_leI (by omega) (by omega)
              have hcl := nI_clamp (n := i) (by omega)
              by_cases w : B 2 0 ≤ i
              · rw [if_pos (this.mpr w), if_pos w]
              · rw [if_neg (fun e => w (this.mp e)), if_neg w, hcl]
            rw [ev]
            by_cases w : B 2 0 ≤ i
            · simp (disch := omega) only [wp_some, wp_obd, wp_ob2, wp_bnd, wp_gd, wp_ite, wp_true, wp_ff, ↓l_n1, ↓l_n2, ↓l_n3, ↓l_n4, ↓l_n10, ↓l_n20, l_0, l_1, l_2, l_3, l_4, l_5, l_6, l_7, l_8, l_9, l_10, l_13, l_14, l_15, l_16, l_20, l_21, l_24, l_27, l_28, l_30, l_31, l_32, l_35, l_36, l_39, l_40, l_41, l_43, l_44, l_45, l_46, l_47, l_48, l_49, l_56, l_57, l_59, l_60, l_79, l_97, l_122, l_160, l_237, l_255, l_320, l_999, l_1000, nI_add, pk_mul, nI_eq, nI_leI, nI_ltI, nI_clamp, inb_nI_iff, e_within, e_in32, e_asNumber, e_flag, decide_eq_true_eq, Sum.elim_inl, Sum.elim_inr, true_implies, not_true_eq_false, not_false_eq_true, false_implies, and_true, true_and, nI_nn, nn_nI, nn_nn, ↓reduceIte, if_true, if_false, Nat.le_refl, implies_true, Nat.lt_irrefl, and_self_left, win1, nI_le_s1, Nat.zero_le, up_s, up_o, Nat.zero_add, m64_0, m64_1, m64_2, m64_3, m64_7, m64_8, m64_9, m64_10, m64_13, m64_20, m64_27, m64_60, q0, z0, z1, e10, f2, w]
              exact q2
            · have d4 := q4 r rfl i (by omega)
              simp (disch := omega) only [wp_some, wp_obd, wp_ob2, wp_bnd, wp_gd, wp_ite, wp_true, wp_ff, ↓l_n1, ↓l_n2, ↓l_n3, ↓l_n4, ↓l_n10, ↓l_n20, l_0, l_1, l_2, l_3, l_4, l_5, l_6, l_7, l_8, l_9, l_10, l_13, l_14, l_15, l_16, l_20, l_21, l_24, l_27, l_28, l_30, l_31, l_32, l_35, l_36, l_39, l_40, l_41, l_43, l_44, l_45, l_46, l_47, l_48, l_49, l_56, l_57, l_59, l_60, l_79, l_97, l_122, l_160, l_237, l_255, l_320, l_999, l_1000, nI_add, pk_mul, nI_eq, nI_leI, nI_ltI, nI_clamp, inb_nI_iff, e_within, e_in32, e_asNumber, e_flag, decide_eq_true_eq, Sum.elim_inl, Sum.elim_inr, true_implies, not_true_eq_false, not_false_eq_true, false_implies, and_true, true_and, nI_nn, nn_nI, nn_nn, ↓reduceIte, if_true, if_false, Nat.le_refl, implies_true, Nat.lt_irrefl, and_self_left, win1, nI_le_s1, Nat.zero_le, up_s, up_o, Nat.zero_add, m64_0, m64_1, m64_2, m64_3, m64_7, m64_8, m64_9, m64_10, m64_13, m64_20, m64_27, m64_60, d4, q0, z0, z1, e10, f2, w]
              exact ⟨by omega, q2⟩
      unfold f_X10_orders
      rcases hpp with hp | hp
      · simp only [e_in32, m64_0, m64_1, m64_10, m64_13, wp_obd, wp_some, hp, decide_true, if_true, Sum.elim_inr, and_self]
        simp only [wp_obd] at fin
        exact fin
      · by_cases hp' : nI 0 ≤ p ∧ p ≤ nI 1
        · simp only [e_in32, m64_0, m64_1, m64_10, m64_13, wp_obd, wp_some, hp', decide_true, if_true, Sum.elim_inr, and_self]
          simp only [wp_obd] at fin
          exact fin
        · simp only [e_in32, m64_0, m64_1, m64_10, m64_13, wp_obd, wp_some, hp', hp, decide_true, decide_false, if_true, Sum.elim_inr, and_self, wp_ff, if_false]
          simp only [wp_obd] at fin
          exact fin
  by_cases hp : nI 0 ≤ p ∧ p ≤ nI 1
  · exact key (Or.inl hp)
  by_cases hp2 : nI 10 ≤ p ∧ p ≤ nI 13
  · exact key (Or.inr hp2)
  unfold f_X9_orders f_X10_orders
  simp (disch := omega) only [wp_some, wp_obd, wp_ob2, wp_bnd, wp_gd, wp_ite, wp_true, wp_ff, ↓l_n1, ↓l_n2, ↓l_n3, ↓l_n4, ↓l_n10, ↓l_n20, l_0, l_1, l_2, l_3, l_4, l_5, l_6, l_7, l_8, l_9, l_10, l_13, l_14, l_15, l_16, l_20, l_21, l_24, l_27, l_28, l_30, l_31, l_32, l_35, l_36, l_39, l_40, l_41, l_43, l_44, l_45, l_46, l_47, l_48, l_49, l_56, l_57, l_59, l_60, l_79, l_97, l_122, l_160, l_237, l_255, l_320, l_999, l_1000, nI_add, pk_mul, nI_eq, nI_leI, nI_ltI, nI_clamp, inb_nI_iff, e_within, e_in32, e_asNumber, e_flag, decide_eq_true_eq, Sum.elim_inl, Sum.elim_inr, true_implies, not_true_eq_false, not_false_eq_true, false_implies, and_true, true_and, nI_nn, nn_nI, nn_nn, ↓reduceIte, if_true, if_false, Nat.le_refl, implies_true, Nat.lt_irrefl, and_self_left, win1, nI_le_s1, Nat.zero_le, up_s, up_o, Nat.zero_add, m64_0, m64_1, m64_2, m64_3, m64_7, m64_8, m64_9, m64_10, m64_13, m64_20, m64_27, m64_60, hp, hp2]
  exact hR0
end Tri
