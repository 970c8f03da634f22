set_option maxRecDepth 100000 in
theorem wn_81 : (.classLink RL 7 RX9 : Cond) ∈ WS := mw 81 rfl rfl
set_option maxRecDepth 100000 in
theorem wn_82 : (.instantiable RX9 9 : Cond) ∈ WS := mw 82 rfl rfl
set_option maxRecDepth 100000 in
theorem wn_883 : (.classLink RL 10 RX10 : Cond) ∈ WS := mw 883 rfl rfl
set_option maxRecDepth 100000 in
theorem wn_884 : (.instantiable RX10 34 : Cond) ∈ WS := mw 884 rfl rfl
set_option maxHeartbeats 4000000 in
set_option maxRecDepth 100000 in
/-- everything about the machine is done: what is left is a statement about f_L_law -/
theorem whole_of (H2 : ∀ (L : Nat) (xs : Nat → Int32), L ≤ 320 → Ok (f_X10_init hInit) (fun h => Ok (f_L_law L xs h) (fun q => q.1 = true))) {p : Program} {e : Env} {s : State} {m : MethodId} {below : List Frame} {meth : Method} {c : Code} (l : Launch) {b L : Nat} {xs : Nat → Int32} (hL : L ≤ 320) (C0 : lw_At p s m meth c b L xs) : W p l e room_1 s m #[Value.ref b] below meth c s.heap [] 0 0 (lw_Z below #[Value.ref b] s) (entryFrame m ([Value.ref b] : List Value).toArray 4) := by
  obtain ⟨hx, hb, hr, hml, hown, hts, hX, hbl, hlocks, hgv⟩ := id C0
  have hWS : ∀ w ∈ WS, w.before #[Value.ref b] s = true := fun w hw => hts w (List.mem_filter.mp hw).1
  have hfl : ∀ c ∈ flatC NC, c.before #[Value.ref b] s = true := flat_of_before NC hgv
  -- classes
  have hcl : ∀ k : Nat, ∃ z : ClassId × (Nat → Nat), ∀ q : vw_C, vwCl[k]? = some q → u_Kn s q.1 q.2.1 q.2.2 z.1 z.2 := by
    intro k
    by_cases hk : k < 11
    · cases hq : vwCl[k]? with
      | none => exact ⟨(0, fun _ => 0), fun q h => by cases h⟩
      | some q =>
        obtain ⟨h1, h2⟩ := sx_m k hk q (by rw [hq]; rfl)
        obtain ⟨cC, iS, hKn⟩ := u_known (C := q.1) (T := q.2.1) (N := q.2.2) (n := insN k) hts h2 (hts _ h1)
        exact ⟨(cC, iS), fun q' h => by cases h; exact hKn⟩
    · refine ⟨(0, fun _ => 0), fun q h => ?_⟩
      have := (List.getElem?_eq_some_iff.mp h).1
      simp [vwCl] at this
      omega
  obtain ⟨dz, hdz⟩ := Classical.axiomOfChoice hcl
  -- arrays
  have hpr : ∀ ty : FieldType, Cond.arrayClass ty ∈ lw_tbl → (∀ C, ty ≠ .object C) → ∃ c, ArrOfT s c ty ∧ va_RA s c ty := by
    intro ty hw hno
    obtain ⟨c, k, comp, h1, h2, h3⟩ := Cond.arrayClass_spec (hts _ hw)
    refine ⟨c, fun N z => ⟨(fun k h => by cases h), k, h2, comp, h3⟩, ?_⟩
    cases ty with
    | object C => exact absurd rfl (hno C)
    | _ => exact h1
  have hob : ∀ C : String, Cond.arrayOver (.object C) ∈ lw_tbl → ∃ c, ArrOfT s c (.object C) ∧ va_RA s c (.object C) := by
    intro C hw
    obtain ⟨comp, c, k, h1, h2, h3, h4, h5⟩ := Cond.arrayOver_spec (hts _ hw)
    exact ⟨c, fun N z => ⟨(fun k h => by cases h), k, h3, comp, h4⟩, k, comp, h3, h4, h1, h5⟩
  obtain ⟨c0, a0⟩ := hpr .int sx_l.1 (fun _ h => by cases h)
  obtain ⟨c1, a1⟩ := hpr .byte sx_l.2.1 (fun _ h => by cases h)
  obtain ⟨c2, a2⟩ := hpr .boolean sx_l.2.2 (fun _ h => by cases h)
  obtain ⟨c3, a3⟩ := hob RX1 (sx_j _ (by simp))
  obtain ⟨c4, a4⟩ := hob RX2 (sx_j _ (by simp))
  obtain ⟨c5, a5⟩ := hob RX3 (sx_j _ (by simp))
  obtain ⟨c6, a6⟩ := hob RX5 (sx_j _ (by simp))
  let cy : Nat → ClassId := fun t => match t with | 0 => c0 | 1 => c1 | 2 => c2 | 3 => c3 | 4 => c4 | 5 => c5 | _ => c6
  have hK : va_K (fun k => (dz k).1, fun k => (dz k).2) vwCl (tys cy) s := by
    refine ⟨fun c q hq => hdz c q hq, fun k q hq => ?_⟩
    match k, hq with
    | 0, hq => cases hq; exact a0
    | 1, hq => cases hq; exact a1
    | 2, hq => cases hq; exact a2
    | 3, hq => cases hq; exact a3
    | 4, hq => cases hq; exact a4
    | 5, hq => cases hq; exact a5
    | 6, hq => cases hq; exact a6
    | k + 7, hq => simp [tys] at hq
  -- String constants
  have hA : ∀ a : Nat, a < s.heap.size → ¬ (fun q => s.heap.size ≤ q) a := fun a h => Nat.not_le.mpr h
  obtain ⟨adK, adV, hvk, hev⟩ := vk_Sof (args := #[Value.ref b]) (s := s) (N := 8) (tm := sTm) (len := sLen) (byt := sByt) (A := fun q => s.heap.size ≤ q) (fun i hi => Nat.lt_trans (sLen_lt i hi) (by decide)) (fun i hi => hfl _ (sx_a i hi)) (fun i hi => hfl _ (sx_b i hi)) (fun i hi => hfl _ (sx_c i hi)) (fun i hi => hfl _ (sx_d i hi)) (fun i hi j hj => hfl _ (sx_e i hi j hj)) (fun i j hi hj hne => (sx_f i hi j hj hne).imp (hfl _) (hfl _)) hA
  let Θ : Tht := (l, (fun k => (dz k).1, fun k => (dz k).2), cy, s.heap.size, adK, adV)
  have hSx : Sx Θ s := by
    refine ⟨hvk, fun i hi => vk_R.of (A := #[Value.ref b]) (hts _ (sx_h i hi)) (hev i hi), ?_, ?_, fun q hq => va_Nw.of rfl (hts _ (sx_i q hq)), fun C hC => va_AO.of (hts _ (sx_j C hC))⟩
    · exact va_Zof (hts _ sx_k.1) (hts _ sx_k.2.2.1) (va_eqt (hfl _ sx_g.1)) hA
    · exact va_Zqof (hts _ sx_k.2.1) (hts _ sx_k.2.2.2) (hfl _ sx_g.2) hA
  let Γ : Ctx := (p, e, room_1, s, m, #[Value.ref b], below, meth, c, 4, 128, 1925, lw_Z below #[Value.ref b] s)
  have C : Cx Θ Γ cL_law RL 4 room_1 := ⟨hx, hb, hml, rfl, hown, hWS, hK, hSx, rfl, Nat.le_of_ble_eq_true rfl, Nat.le_of_ble_eq_true rfl⟩
  have HX : HXs Θ Γ b L xs := ⟨hX, hbl, Nat.not_le.mpr hbl⟩
  have hB : tB Θ ≤ (cS Γ).heap.size := Nat.le_refl _
  rw [lg_entry_eq]
  have hN : Nw Θ Γ 0 [(0, .ref b)] [] [] [] (tB Θ) 0 0 := by
    refine n_new C hB kc_0 wn_81 wn_82 wm_64 [.null, .null, .null, .null, .null, .null, .null, .null, .int 0] (by decide +kernel) (by decide) (by decide) dL_law_0 (n := 3) rfl (z' := tB Θ + 1) (c' := 1) (s' := 9) rfl rfl rfl [(tB Θ, .inr (9, [.null, .null, .null, .null, .null, .null, .null, .null, .int 0]))] rfl ?_
    refine n_dup C dL_law_3 rfl (n := 4) rfl ?_
    refine n_call C hB [] (kMint Θ (tB Θ)) (C_kMint Θ ([] ++ []) (tB Θ)) wm_83 wm_84 wm_64 wm_85 ⟨by decide, by decide, by decide +kernel⟩ rfl ⟨rfl, rfl⟩ ⟨by decide, by decide⟩ (by decide) (by decide) dL_law_4 (Nat.le_of_ble_eq_true rfl) (n := 7) rfl rfl rfl (c' := 109) (s' := 1033) rfl rfl ?_
    refine n_astore_n C [(1, .ref (tB Θ)), (0, .ref b)] dL_law_7 rfl (by decide) rfl (n := 8) rfl ?_
    refine n_new C hB kc_24 wn_883 wn_884 wm_74 [.null, .null, .int 0, .int 0, .null, .int 0, .int 0, .int 0, .int 0, .null, .int 0, .int 0, .int 0, .int 0, .int 0, .int 0, .int 0, .null, .null, .null, .null, .null, .null, .null, .null, .null, .int 0, .int 0, .null, .null, .null, .null, .null, .int 0] (by decide +kernel) (by decide) (by decide) dL_law_8 (n := 11) rfl (z' := tB Θ + 109 + 1) (c' := 110) (s' := 1067) rfl rfl rfl (kMint Θ (tB Θ) ++ [(tB Θ + 109, .inr (10, [.null, .null, .int 0, .int 0, .null, .int 0, .int 0, .int 0, .int 0, .null, .int 0, .int 0, .int 0, .int 0, .int 0, .int 0, .int 0, .null, .null, .null, .null, .null, .null, .null, .null, .null, .int 0, .int 0, .null, .null, .null, .null, .null, .int 0]))]) rfl ?_
    refine n_dup C dL_law_11 rfl (n := 12) rfl ?_
    refine n_callM C hB (kMint Θ (tB Θ)) (C_model Θ (tB Θ + 109) rfl _ (H2 L xs hL)) wm_885 wm_886 wm_74 wm_887 ⟨by decide, by decide, by decide +kernel⟩ rfl ⟨rfl, rfl⟩ ⟨by decide, by decide⟩ (by decide) (by decide) dL_law_12 (Nat.le_of_ble_eq_true rfl) (n := 15) rfl rfl rfl rfl (fun h hk => ?_)
    refine g_astore_n C [(2, .ref (rr Θ 24 0 0)), (1, .ref (rr Θ 0 0 0)), (0, .ref b)] dL_law_15 rfl (by decide) rfl (n := 16) rfl ?_
    refine L_L_law Θ Γ b L xs C HX h (hk.mono (fun q hq => ?_))
    intro pc lv hd H locs ls hP hS hL
    have hq : q.1 = true := hq
    rw [hq]
    refine va_forget (fun q hq => hS.2.2 q hq) ?_
    refine W.widen (k := 600000) (n := 7302250) (Nat.le_of_ble_eq_true rfl) (Nat.le_of_ble_eq_true rfl) ?_
    exact lw_ret hx hb hr hlocks hd
  have hl := lv_entry ([.ref b]) (n := 4) (Nat.le_of_ble_eq_true rfl)
  exact hN s.heap [] _ rfl (fun k q h => by simp at h) ⟨fun i j x y h => by simp at h, fun k q h => by simp at h⟩ va_S.rf hl
