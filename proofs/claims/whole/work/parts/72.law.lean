theorem ok_gdi {γ : Type} {c : Prop} {i : Decidable c} {x : Option γ} {K : γ → Prop} (hc : c) (h : Ok x K) : Ok (@gd _ c i x) K := wp_gd.mpr ⟨hc, h⟩
theorem law_loop (L : Nat) (xs : Nat → Int32) (hL : L ≤ 320) {h : Mem} (hR : RI h) : Ok (f_L_law L xs h) (fun q => q.1 = true) := by
  have el : ∀ x, x ≤ 320 → ((Int32.ofNat L - (5 : Int32) < nI x) ↔ (L : Int) - 5 < x) := fun x hx => by
    rw [lt_toInt, ti_n (by omega)]
    have := pk_sub_toInt (a := L) (b := 5) (by omega) (by decide)
    rw [show (Int32.ofNat L - (5 : Int32)).toInt = (L : Int) - 5 from this]
  unfold f_L_law
  refine ok_obd ?_
  refine (ok_up (K := Sum.elim (fun q => q.1 = true) (fun _ => True)) (L / 5) (fun j z => z.1 = nI (5 * j) ∧ RI z.2) (by omega) ?_ ?_ _ ⟨rfl, hR⟩).mono ?_
  · rintro j ⟨x, z⟩ hj ⟨hx, hRz⟩
    dsimp only at hx hRz
    subst hx
    have hj5 : 5 * j + 5 ≤ L := by omega
    have gk : ∀ k, k ≤ 4 → inb (nI (5 * j) + nI k) L := fun k hk => by rw [nI_add, inb_nI_iff (by omega)]; omega
    have g0 : inb (nI (5 * j)) L := by rw [inb_nI_iff (by omega)]; omega
    have g1 : inb (nI (5 * j) + (1 : Int32)) L := gk 1 (by omega)
    have g2 : inb (nI (5 * j) + (2 : Int32)) L := gk 2 (by omega)
    have g3 : inb (nI (5 * j) + (3 : Int32)) L := gk 3 (by omega)
    have g4 : inb (nI (5 * j) + (4 : Int32)) L := gk 4 (by omega)
    have nx : nI (5 * j) + (5 : Int32) = nI (5 * (j + 1)) := nI_add (5 * j) 5
    refine ok_ite (fun e => absurd ((el _ (by omega)).mp e) (by omega)) (fun _ => ok_gdi g0 ?_)
    refine ok_ite (fun _ => ?_) (fun _ => ?_)
    · refine ok_gdi g1 ?_
      refine ok_gdi g2 ?_
      refine ok_ob2 ((o_feed _ hRz).mono ?_)
      rintro ⟨r, h1⟩ hq
      refine ok_gdi g1 ?_
      refine ok_gdi g2 ?_
      refine ok_ob2 (hq.mono ?_)
      rintro ⟨r', h2⟩ ⟨e1, e2⟩
      exact ok_ite (fun _ => ok_bnd (ok_some ⟨nx, e2⟩)) (fun e => absurd e1 e)
    refine ok_ite (fun _ => ?_) (fun _ => ?_)
    · refine ok_gdi g1 ?_
      refine ok_ob2 ((o_end _ hRz).mono ?_)
      rintro ⟨r, h1⟩ hq
      refine ok_gdi g1 ?_
      refine ok_ob2 (hq.mono ?_)
      rintro ⟨r', h2⟩ ⟨e1, e2⟩
      exact ok_ite (fun _ => ok_bnd (ok_some ⟨nx, e2⟩)) (fun e => absurd e1 e)
    refine ok_ite (fun _ => ?_) (fun _ => ?_)
    · refine ok_ob2 ((o_text  hRz).mono ?_)
      rintro ⟨r, h1⟩ hq
      refine ok_ob2 (hq.mono ?_)
      rintro ⟨r', h2⟩ ⟨e1, e2⟩
      exact ok_ite (fun _ => ok_bnd (ok_some ⟨nx, e2⟩)) (fun e => absurd e1 e)
    refine ok_ite (fun _ => ?_) (fun _ => ?_)
    · refine ok_obd ((o_fault  hRz).mono ?_)
      intro r hq
      refine ok_obd (hq.mono ?_)
      intro r' e1
      exact ok_ite (fun _ => ok_bnd (ok_some ⟨nx, hRz⟩)) (fun e => absurd e1 e)
    refine ok_ite (fun _ => ?_) (fun _ => ?_)
    · refine ok_gdi g1 ?_
      refine ok_obd ((o_rule _ hRz).mono ?_)
      intro r hq
      refine ok_gdi g1 ?_
      refine ok_obd (hq.mono ?_)
      intro r' e1
      exact ok_ite (fun _ => ok_bnd (ok_some ⟨nx, hRz⟩)) (fun e => absurd e1 e)
    refine ok_ite (fun _ => ?_) (fun _ => ?_)
    · refine ok_gdi g1 ?_
      refine ok_obd ((o_hole _ hRz).mono ?_)
      intro r hq
      refine ok_gdi g1 ?_
      refine ok_obd (hq.mono ?_)
      intro r' e1
      exact ok_ite (fun _ => ok_bnd (ok_some ⟨nx, hRz⟩)) (fun e => absurd e1 e)
    refine ok_ite (fun _ => ?_) (fun _ => ?_)
    · refine ok_gdi g1 ?_
      refine ok_gdi g2 ?_
      refine ok_obd ((o_coin _ _ hRz).mono ?_)
      intro r hq
      refine ok_gdi g1 ?_
      refine ok_gdi g2 ?_
      refine ok_ob2 (hq.mono ?_)
      rintro ⟨r', h2⟩ ⟨e1, e2⟩
      exact ok_ite (fun _ => ok_bnd (ok_some ⟨nx, e2⟩)) (fun e => absurd e1 e)
    refine ok_ite (fun _ => ?_) (fun _ => ?_)
    · refine ok_gdi g1 ?_
      refine ok_gdi g2 ?_
      refine ok_obd ((o_crab _ _ hRz).mono ?_)
      intro r hq
      refine ok_gdi g1 ?_
      refine ok_gdi g2 ?_
      refine ok_ob2 (hq.mono ?_)
      rintro ⟨r', h2⟩ ⟨e1, e2⟩
      exact ok_ite (fun _ => ok_bnd (ok_some ⟨nx, e2⟩)) (fun e => absurd e1 e)
    refine ok_ite (fun _ => ?_) (fun _ => ?_)
    · refine ok_gdi g1 ?_
      refine ok_gdi g2 ?_
      refine ok_ob2 ((o_dig _ _ hRz).mono ?_)
      rintro ⟨r, h1⟩ hq
      refine ok_gdi g1 ?_
      refine ok_gdi g2 ?_
      refine ok_ob2 (hq.mono ?_)
      rintro ⟨r', h2⟩ ⟨e1, e2⟩
      exact ok_ite (fun _ => ok_bnd (ok_some ⟨nx, e2⟩)) (fun e => absurd e1 e)
    refine ok_ite (fun _ => ?_) (fun _ => ?_)
    · refine ok_gdi g1 ?_
      refine ok_gdi g2 ?_
      refine ok_ob2 ((o_mint _ _ hRz).mono ?_)
      rintro ⟨r, h1⟩ hq
      refine ok_gdi g1 ?_
      refine ok_gdi g2 ?_
      refine ok_ob2 (hq.mono ?_)
      rintro ⟨r', h2⟩ ⟨e1, e2⟩
      exact ok_ite (fun _ => ok_bnd (ok_some ⟨nx, e2⟩)) (fun e => absurd e1 e)
    refine ok_ite (fun _ => ?_) (fun _ => ?_)
    · refine ok_gdi g1 ?_
      refine ok_gdi g2 ?_
      refine ok_ob2 ((o_lie _ _ hRz).mono ?_)
      rintro ⟨r, h1⟩ hq
      refine ok_gdi g1 ?_
      refine ok_gdi g2 ?_
      refine ok_ob2 (hq.mono ?_)
      rintro ⟨r', h2⟩ ⟨e1, e2⟩
      exact ok_ite (fun _ => ok_bnd (ok_some ⟨nx, e2⟩)) (fun e => absurd e1 e)
    refine ok_ite (fun _ => ?_) (fun _ => ?_)
    · refine ok_gdi g1 ?_
      refine ok_gdi g2 ?_
      refine ok_obd (ok_ite (fun w => ok_some ?_) (fun w => ok_some ?_))
      · refine ok_ob2 ((o_fake _ false hRz).mono ?_)
        rintro ⟨r, h1⟩ hq
        refine ok_gdi g1 ?_
        refine ok_gdi g2 ?_
        refine ok_obd (ok_ite (fun _ => ok_some (ok_ob2 (hq.mono ?_))) (fun w' => absurd w w'))
        rintro ⟨r', h2⟩ ⟨e1, e2⟩
        exact ok_ite (fun _ => ok_bnd (ok_some ⟨nx, e2⟩)) (fun e => absurd e1 e)
      · refine ok_ob2 ((o_fake _ true hRz).mono ?_)
        rintro ⟨r, h1⟩ hq
        refine ok_gdi g1 ?_
        refine ok_gdi g2 ?_
        refine ok_obd (ok_ite (fun w' => absurd w' w) (fun _ => ok_some (ok_ob2 (hq.mono ?_))))
        rintro ⟨r', h2⟩ ⟨e1, e2⟩
        exact ok_ite (fun _ => ok_bnd (ok_some ⟨nx, e2⟩)) (fun e => absurd e1 e)
    refine ok_ite (fun _ => ?_) (fun _ => ?_)
    · refine ok_gdi g1 ?_
      refine ok_gdi g2 ?_
      refine ok_ob2 ((o_set _ _ hRz).mono ?_)
      rintro ⟨r, h1⟩ hq
      refine ok_gdi g1 ?_
      refine ok_gdi g2 ?_
      refine ok_ob2 (hq.mono ?_)
      rintro ⟨r', h2⟩ ⟨e1, e2⟩
      exact ok_ite (fun _ => ok_bnd (ok_some ⟨nx, e2⟩)) (fun e => absurd e1 e)
    refine ok_ite (fun _ => ?_) (fun _ => ?_)
    · refine ok_gdi g1 ?_
      refine ok_gdi g2 ?_
      refine ok_ob2 ((o_hand _ _ hRz).mono ?_)
      rintro ⟨r, h1⟩ hq
      refine ok_gdi g1 ?_
      refine ok_gdi g2 ?_
      refine ok_ob2 (hq.mono ?_)
      rintro ⟨r', h2⟩ ⟨e1, e2⟩
      exact ok_ite (fun _ => ok_bnd (ok_some ⟨nx, e2⟩)) (fun e => absurd e1 e)
    refine ok_ite (fun _ => ?_) (fun _ => ?_)
    · refine ok_gdi g1 ?_
      refine ok_gdi g2 ?_
      refine ok_ob2 ((o_tide _ _ hRz).mono ?_)
      rintro ⟨r, h1⟩ hq
      refine ok_gdi g1 ?_
      refine ok_gdi g2 ?_
      refine ok_ob2 (hq.mono ?_)
      rintro ⟨r', h2⟩ ⟨e1, e2⟩
      exact ok_ite (fun _ => ok_bnd (ok_some ⟨nx, e2⟩)) (fun e => absurd e1 e)
    refine ok_ite (fun _ => ?_) (fun _ => ?_)
    · refine ok_gdi g1 ?_
      refine ok_ob2 ((o_go _ hRz).mono ?_)
      rintro ⟨r, h1⟩ hq
      refine ok_gdi g1 ?_
      refine ok_ob2 (hq.mono ?_)
      rintro ⟨r', h2⟩ ⟨e1, e2⟩
      exact ok_ite (fun _ => ok_bnd (ok_some ⟨nx, e2⟩)) (fun e => absurd e1 e)
    refine ok_ite (fun _ => ?_) (fun _ => ?_)
    · refine ok_gdi g1 ?_
      refine ok_gdi g2 ?_
      refine ok_ob2 ((o_ahead _ _ hRz).mono ?_)
      rintro ⟨r, h1⟩ hq
      refine ok_gdi g1 ?_
      refine ok_gdi g2 ?_
      refine ok_ob2 (hq.mono ?_)
      rintro ⟨r', h2⟩ ⟨e1, e2⟩
      exact ok_ite (fun _ => ok_bnd (ok_some ⟨nx, e2⟩)) (fun e => absurd e1 e)
    refine ok_ite (fun _ => ?_) (fun _ => ?_)
    · refine ok_ob2 ((o_grow  hRz).mono ?_)
      rintro ⟨r, h1⟩ hq
      refine ok_ob2 (hq.mono ?_)
      rintro ⟨r', h2⟩ ⟨e1, e2⟩
      exact ok_ite (fun _ => ok_bnd (ok_some ⟨nx, e2⟩)) (fun e => absurd e1 e)
    refine ok_ite (fun _ => ?_) (fun _ => ?_)
    · refine ok_ob2 ((o_sorted  hRz).mono ?_)
      rintro ⟨r, h1⟩ hq
      refine ok_ob2 (hq.mono ?_)
      rintro ⟨r', h2⟩ ⟨e1, e2⟩
      exact ok_ite (fun _ => ok_bnd (ok_some ⟨nx, e2⟩)) (fun e => absurd e1 e)
    refine ok_ite (fun _ => ?_) (fun _ => ?_)
    · refine ok_gdi g1 ?_
      refine ok_ob2 ((o_orders _ hRz).mono ?_)
      rintro ⟨r, h1⟩ hq
      refine ok_gdi g1 ?_
      refine ok_ob2 (hq.mono ?_)
      rintro ⟨r', h2⟩ ⟨e1, e2⟩
      exact ok_ite (fun _ => ok_bnd (ok_some ⟨nx, e2⟩)) (fun e => absurd e1 e)
    refine ok_ite (fun _ => ?_) (fun _ => ?_)
    · refine ok_gdi g1 ?_
      refine ok_ob2 ((o_fewest _ hRz).mono ?_)
      rintro ⟨r, h1⟩ hq
      refine ok_gdi g1 ?_
      refine ok_ob2 (hq.mono ?_)
      rintro ⟨r', h2⟩ ⟨e1, e2⟩
      exact ok_ite (fun _ => ok_bnd (ok_some ⟨nx, e2⟩)) (fun e => absurd e1 e)
    refine ok_ite (fun _ => ?_) (fun _ => ?_)
    · refine ok_gdi g1 ?_
      refine ok_ob2 ((o_better _ hRz).mono ?_)
      rintro ⟨r, h1⟩ hq
      refine ok_gdi g1 ?_
      refine ok_ob2 (hq.mono ?_)
      rintro ⟨r', h2⟩ ⟨e1, e2⟩
      exact ok_ite (fun _ => ok_bnd (ok_some ⟨nx, e2⟩)) (fun e => absurd e1 e)
    refine ok_ite (fun _ => ?_) (fun _ => ?_)
    · refine ok_ob2 ((o_weeks  hRz).mono ?_)
      rintro ⟨r, h1⟩ hq
      refine ok_ob2 (hq.mono ?_)
      rintro ⟨r', h2⟩ ⟨e1, e2⟩
      exact ok_ite (fun _ => ok_bnd (ok_some ⟨nx, e2⟩)) (fun e => absurd e1 e)
    refine ok_ite (fun _ => ?_) (fun _ => ?_)
    · refine ok_gdi g1 ?_
      refine ok_gdi g2 ?_
      refine ok_gdi g3 ?_
      refine ok_gdi g4 ?_
      refine ok_obd (ok_ite (fun w => ok_some ?_) (fun w => ok_some ?_))
      · refine ok_ob2 ((o_see _ _ _ false hRz).mono ?_)
        rintro ⟨r, h1⟩ hq
        refine ok_gdi g1 ?_
        refine ok_gdi g2 ?_
        refine ok_gdi g3 ?_
        refine ok_gdi g4 ?_
        refine ok_obd (ok_ite (fun _ => ok_some (ok_ob2 (hq.mono ?_))) (fun w' => absurd w w'))
        rintro ⟨r', h2⟩ ⟨e1, e2⟩
        exact ok_ite (fun _ => ok_bnd (ok_some ⟨nx, e2⟩)) (fun e => absurd e1 e)
      · refine ok_ob2 ((o_see _ _ _ true hRz).mono ?_)
        rintro ⟨r, h1⟩ hq
        refine ok_gdi g1 ?_
        refine ok_gdi g2 ?_
        refine ok_gdi g3 ?_
        refine ok_gdi g4 ?_
        refine ok_obd (ok_ite (fun w' => absurd w' w) (fun _ => ok_some (ok_ob2 (hq.mono ?_))))
        rintro ⟨r', h2⟩ ⟨e1, e2⟩
        exact ok_ite (fun _ => ok_bnd (ok_some ⟨nx, e2⟩)) (fun e => absurd e1 e)
    refine ok_ite (fun _ => ?_) (fun _ => ?_)
    · refine ok_gdi g1 ?_
      refine ok_ob2 ((o_forget _ hRz).mono ?_)
      rintro ⟨r, h1⟩ hq
      refine ok_gdi g1 ?_
      refine ok_ob2 (hq.mono ?_)
      rintro ⟨r', h2⟩ ⟨e1, e2⟩
      exact ok_ite (fun _ => ok_bnd (ok_some ⟨nx, e2⟩)) (fun e => absurd e1 e)
    refine ok_ite (fun _ => ?_) (fun _ => ?_)
    · refine ok_gdi g1 ?_
      refine ok_ob2 ((o_fakes _ hRz).mono ?_)
      rintro ⟨r, h1⟩ hq
      refine ok_gdi g1 ?_
      refine ok_ob2 (hq.mono ?_)
      rintro ⟨r', h2⟩ ⟨e1, e2⟩
      exact ok_ite (fun _ => ok_bnd (ok_some ⟨nx, e2⟩)) (fun e => absurd e1 e)
    refine ok_ite (fun _ => ?_) (fun _ => ?_)
    · refine ok_ob2 ((o_wrong  hRz).mono ?_)
      rintro ⟨r, h1⟩ hq
      refine ok_ob2 (hq.mono ?_)
      rintro ⟨r', h2⟩ ⟨e1, e2⟩
      exact ok_ite (fun _ => ok_bnd (ok_some ⟨nx, e2⟩)) (fun e => absurd e1 e)
    refine ok_ite (fun _ => ?_) (fun _ => ?_)
    · refine ok_gdi g1 ?_
      refine ok_gdi g2 ?_
      refine ok_gdi g3 ?_
      refine ok_ob2 ((o_gulls _ _ _ hRz).mono ?_)
      rintro ⟨r, h1⟩ hq
      refine ok_gdi g1 ?_
      refine ok_gdi g2 ?_
      refine ok_gdi g3 ?_
      refine ok_ob2 (hq.mono ?_)
      rintro ⟨r', h2⟩ ⟨e1, e2⟩
      exact ok_ite (fun _ => ok_bnd (ok_some ⟨nx, e2⟩)) (fun e => absurd e1 e)
    refine ok_ite (fun _ => ?_) (fun _ => ?_)
    · refine ok_gdi g1 ?_
      refine ok_ob2 ((o_keep _ hRz).mono ?_)
      rintro ⟨r, h1⟩ hq
      refine ok_gdi g1 ?_
      refine ok_ob2 (hq.mono ?_)
      rintro ⟨r', h2⟩ ⟨e1, e2⟩
      exact ok_ite (fun _ => ok_bnd (ok_some ⟨nx, e2⟩)) (fun e => absurd e1 e)
    refine ok_ite (fun _ => ?_) (fun _ => ?_)
    · refine ok_gdi g1 ?_
      refine ok_ob2 ((o_back _ hRz).mono ?_)
      rintro ⟨r, h1⟩ hq
      refine ok_gdi g1 ?_
      refine ok_ob2 (hq.mono ?_)
      rintro ⟨r', h2⟩ ⟨e1, e2⟩
      exact ok_ite (fun _ => ok_bnd (ok_some ⟨nx, e2⟩)) (fun e => absurd e1 e)
    refine ok_ite (fun _ => ?_) (fun _ => ?_)
    · refine ok_gdi g1 ?_
      refine ok_gdi g2 ?_
      refine ok_gdi g3 ?_
      refine ok_ob2 ((o_sheet _ _ _ hRz).mono ?_)
      rintro ⟨r, h1⟩ hq
      refine ok_gdi g1 ?_
      refine ok_gdi g2 ?_
      refine ok_gdi g3 ?_
      refine ok_ob2 (hq.mono ?_)
      rintro ⟨r', h2⟩ ⟨e1, e2⟩
      exact ok_ite (fun _ => ok_bnd (ok_some ⟨nx, e2⟩)) (fun e => absurd e1 e)
    refine ok_ite (fun _ => ?_) (fun _ => ?_)
    · refine ok_gdi g1 ?_
      refine ok_gdi g2 ?_
      refine ok_gdi g3 ?_
      refine ok_ob2 ((o_lay _ _ _ hRz).mono ?_)
      rintro ⟨r, h1⟩ hq
      refine ok_gdi g1 ?_
      refine ok_gdi g2 ?_
      refine ok_gdi g3 ?_
      refine ok_ob2 (hq.mono ?_)
      rintro ⟨r', h2⟩ ⟨e1, e2⟩
      exact ok_ite (fun _ => ok_bnd (ok_some ⟨nx, e2⟩)) (fun e => absurd e1 e)
    refine ok_ite (fun _ => ?_) (fun _ => ?_)
    · refine ok_gdi g1 ?_
      refine ok_gdi g2 ?_
      refine ok_gdi g3 ?_
      refine ok_gdi g4 ?_
      refine ok_ob2 ((o_read _ _ _ _ hRz).mono ?_)
      rintro ⟨r, h1⟩ hq
      refine ok_gdi g1 ?_
      refine ok_gdi g2 ?_
      refine ok_gdi g3 ?_
      refine ok_gdi g4 ?_
      refine ok_ob2 (hq.mono ?_)
      rintro ⟨r', h2⟩ ⟨e1, e2⟩
      exact ok_ite (fun _ => ok_bnd (ok_some ⟨nx, e2⟩)) (fun e => absurd e1 e)
    refine ok_ite (fun _ => ?_) (fun _ => ?_)
    · refine ok_obd ((o_torn  hRz).mono ?_)
      intro r hq
      refine ok_obd (hq.mono ?_)
      intro r' e1
      exact ok_ite (fun _ => ok_bnd (ok_some ⟨nx, hRz⟩)) (fun e => absurd e1 e)
    refine ok_ite (fun _ => ?_) (fun _ => ?_)
    · refine ok_gdi g1 ?_
      refine ok_obd ((o_count _ hRz).mono ?_)
      intro r hq
      refine ok_gdi g1 ?_
      refine ok_ob2 (hq.mono ?_)
      rintro ⟨r', h2⟩ ⟨e1, e2⟩
      exact ok_ite (fun _ => ok_bnd (ok_some ⟨nx, e2⟩)) (fun e => absurd e1 e)
    exact ok_bnd (ok_some ⟨nx, hRz⟩)
  · rintro ⟨x, z⟩ ⟨hx, hRz⟩
    dsimp only at hx hRz
    subst hx
    exact ok_ite (fun _ => ok_some trivial) (fun e => absurd ((el _ (by omega)).mpr (by omega)) e)
  · rintro z hz
    cases z with
    | inl r => exact ok_some hz
    | inr r => exact ok_some rfl
theorem law_true (L : Nat) (xs : Nat → Int32) (hL : L ≤ 320) : Ok (f_X10_init hInit) (fun h => Ok (f_L_law L xs h) (fun q => q.1 = true)) := RI_init.mono (fun h hR => law_loop L xs hL hR)
