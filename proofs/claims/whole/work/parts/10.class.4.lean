def f_X5_renew (o0 : Nat) (p1 : Int32) (p2 : Int32) (h : Mem) : Option (Mem) := bnd (up h 22 1 o0 0 p1) (fun h1 => bnd (up h1 22 2 o0 0 p2) (fun h2 => obd (lp fu (fun a9 => (if (40 : Int32) ≤ a9.1 then some (.inr a9.2) else gd (inb a9.1 40) (bnd (up a9.2 23 0 o0 a9.1.toNatClampNeg (0 : Int32)) (fun h10 => bnd (a9.1 + (1 : Int32)) (fun x11 => some (.inl (x11, h10))))))) ((0 : Int32), h2)) (fun e12 => some e12)))
def rm_X5_renew : Room := { frames := 0, cells := 0, slots := 0, locals := 0 }
set_option maxHeartbeats 4000000 in
set_option maxRecDepth 100000 in
theorem L_X5_renew (Θ : Tht) (o0 : Nat) (ho0 : o0 < 4) (p1 : Int32) (p2 : Int32) (h : Mem) (K : Mem → Prop) (hk : Ok (f_X5_renew o0 p1 p2 h) K) : CV Θ yX5_renew cX5_renew 4 none rm_X5_renew [.ref (rr Θ 22 o0 0), .int p1, .int p2] h K := by
  refine CV.of K [(0, .ref (rr Θ 22 o0 0)), (1, .int p1), (2, .int p2)] (plainFor_of_name (by decide)) (Nat.le_of_ble_eq_true rfl) rfl (fun Γ C Rt => ?_)
  replace hk := rtV Rt hk
  unfold f_X5_renew at hk
  refine g_aload_n C 0 dX5_renew_0 rfl rfl (n := 1) rfl ?_
  refine g_iload_n C 1 dX5_renew_1 rfl rfl (n := 2) rfl ?_
  refine g_putI C kc_22 ft_22_1 ho0 (by decide) (by decide) rfl (fitI _) wm_351 dX5_renew_2 (n := 5) rfl hk (fun h1 hk => ?_)
  refine g_aload_n C 0 dX5_renew_5 rfl rfl (n := 6) rfl ?_
  refine g_iload_n C 2 dX5_renew_6 rfl rfl (n := 7) rfl ?_
  refine g_putI C kc_22 ft_22_2 ho0 (by decide) (by decide) rfl (fitI _) wm_353 dX5_renew_7 (n := 10) rfl hk (fun h2 hk => ?_)
  refine g_iconst C (0 : Int32) dX5_renew_10 (by decide) (n := 11) rfl ?_
  refine g_istore_n C [(3, .int (0 : Int32)), (0, .ref (rr Θ 22 o0 0)), (1, .int p1), (2, .int p2)] dX5_renew_11 rfl (by decide) rfl (n := 12) rfl ?_
  refine g_lv [1, 0] [(0, .ref (rr Θ 22 o0 0)), (3, .int (0 : Int32))] rfl ?_
  refine Ok.join hk (fun e12 => G Θ Γ 31 [] [] e12) (fun e12 hk => ?_) (fun hk => ?_)
  · exact retV hk.out dX5_renew_31
  · refine Ok.loop (fun a9 => G Θ Γ 12 [(0, .ref (rr Θ 22 o0 0)), (3, .int a9.1)] [] a9.2) (fun a9 hk => ?_) _ _ hk
    refine g_iload_n C 1 dX5_renew_12 rfl rfl (n := 13) rfl ?_
    refine g_bipush C (40 : Int32) dX5_renew_13 (by decide) (n := 15) rfl ?_
    refine g_ic_ge C 31 dX5_renew_15 (by decide) (n := 18) rfl hk (fun hk => ?_) (fun hk => ?_)
    · refine g_lv [] [] rfl ?_
      exact hk.out
    · refine g_aload_n C 0 dX5_renew_18 rfl rfl (n := 19) rfl ?_
      refine g_getR C kc_22 (rt_22_0 (tB Θ) o0) ho0 (by decide) (by decide) wm_349 dX5_renew_19 (n := 22) rfl ?_
      refine g_iload_n C 1 dX5_renew_22 rfl rfl (n := 23) rfl ?_
      refine g_iconst C (0 : Int32) dX5_renew_23 (by decide) (n := 24) rfl ?_
      refine g_iast C an_23 ho0 dX5_renew_24 (n := 25) rfl hk (fun _ h10 hk => ?_)
      refine g_iinc C 1 (fun x11 => [(3, .int x11), (0, .ref (rr Θ 22 o0 0))]) dX5_renew_25 rfl (v := (a9.1 + (1 : Int32))) rfl (by decide) (fun _ => rfl) (n := 28) rfl hk (fun x11 hk => ?_)
      refine g_goto C 12 dX5_renew_28 (by decide) ?_
      refine g_lv [1, 0] [(0, .ref (rr Θ 22 o0 0)), (3, .int x11)] rfl ?_
      exact hk.out
def f_X9_sheet (p1 : Int32) (p2 : Int32) (p3 : Int32) (h : Mem) : Option (Int32 × Mem) := obd (f_X9_isSheet p1 h) (fun r1 => (if r1 = true then obd (f_X9_isLane p2 h) (fun r2 => (if r2 = true then (if p3 ≤ (40 : Int32) then (if 0 ≤ p3 then gd (inb p1 4) (obd (f_X5_renew p1.toNatClampNeg p2 p3 h) (fun h4 => some ((1 : Int32), h4))) else some ((-14 : Int32), h)) else some ((-1 : Int32), h)) else some ((-1 : Int32), h))) else some ((-1 : Int32), h)))
def rm_X9_sheet : Room := { frames := 2, cells := 0, slots := 0, locals := 42 }
set_option maxHeartbeats 4000000 in
set_option maxRecDepth 100000 in
theorem L_X9_sheet (Θ : Tht) (p1 : Int32) (p2 : Int32) (p3 : Int32) (h : Mem) (K : Int32 × Mem → Prop) (hk : Ok (f_X9_sheet p1 p2 p3 h) K) : CI Θ yX9_sheet cX9_sheet 4 (some .int) rm_X9_sheet [.ref (rr Θ 0 0 0), .int p1, .int p2, .int p3] h K := by
  refine CI.of K [(0, .ref (rr Θ 0 0 0)), (1, .int p1), (2, .int p2), (3, .int p3)] (plainFor_of_name (by decide)) (Nat.le_of_ble_eq_true rfl) rfl (fun Γ C Rt => ?_)
  replace hk := rtI Rt hk
  unfold f_X9_sheet at hk
  refine g_iload_n C 1 dX9_sheet_0 rfl rfl (n := 1) rfl ?_
  refine g_cSBp C hk (fun K hk => L_X9_isSheet Θ p1 h K hk) lk_X9_263 ⟨rfl, rfl⟩ ⟨Nat.le_of_ble_eq_true rfl, Nat.le_of_ble_eq_true rfl⟩ dX9_sheet_1 rfl rfl (Nat.le_of_ble_eq_true rfl) (n := 4) rfl (fun r1 hk => ?_)
  refine g_bf C 20 dX9_sheet_4 (by decide) (n := 7) rfl hk (fun hk => ?_) (fun hk => ?_)
  · refine g_iconst C (-1 : Int32) dX9_sheet_20 (by decide) (n := 21) rfl ?_
    exact retI hk.out dX9_sheet_21
  · refine g_iload_n C 2 dX9_sheet_7 rfl rfl (n := 8) rfl ?_
    refine g_cSBp C hk (fun K hk => L_X9_isLane Θ p2 h K hk) lk_X9_266 ⟨rfl, rfl⟩ ⟨Nat.le_of_ble_eq_true rfl, Nat.le_of_ble_eq_true rfl⟩ dX9_sheet_8 rfl rfl (Nat.le_of_ble_eq_true rfl) (n := 11) rfl (fun r2 hk => ?_)
    refine g_bf C 20 dX9_sheet_11 (by decide) (n := 14) rfl hk (fun hk => ?_) (fun hk => ?_)
    · refine g_iconst C (-1 : Int32) dX9_sheet_20 (by decide) (n := 21) rfl ?_
      exact retI hk.out dX9_sheet_21
    · refine g_iload_n C 3 dX9_sheet_14 rfl rfl (n := 15) rfl ?_
      refine g_bipush C (40 : Int32) dX9_sheet_15 (by decide) (n := 17) rfl ?_
      refine g_ic_le C 22 dX9_sheet_17 (by decide) (n := 20) rfl hk (fun hk => ?_) (fun hk => ?_)
      · refine g_iload_n C 3 dX9_sheet_22 rfl rfl (n := 23) rfl ?_
        refine g_if_ge C 29 dX9_sheet_23 (by decide) (n := 26) rfl hk (fun hk => ?_) (fun hk => ?_)
        · refine g_aload_n C 0 dX9_sheet_29 rfl rfl (n := 30) rfl ?_
          refine g_getR C kc_0 (rt_0_7 (tB Θ) 0) (by decide) (by decide) (by decide) wm_369 dX9_sheet_30 (n := 33) rfl ?_
          refine g_iload_n C 1 dX9_sheet_33 rfl rfl (n := 34) rfl ?_
          refine g_aald C ar_21 (by decide) dX9_sheet_34 (n := 35) rfl hk (fun hg3 hk => ?_)
          refine g_iload_n C 2 dX9_sheet_35 rfl rfl (n := 36) rfl ?_
          refine g_iload_n C 3 dX9_sheet_36 rfl rfl (n := 37) rfl ?_
          refine g_cVV C hk (fun K hk => L_X5_renew Θ p1.toNatClampNeg (inb_lt hg3) p2 p3 h K hk) lk_X9_269 kc_22 (inb_lt hg3) (by decide) ⟨rfl, rfl⟩ ⟨Nat.le_of_ble_eq_true rfl, Nat.le_of_ble_eq_true rfl⟩ dX9_sheet_37 rfl rfl (Nat.le_of_ble_eq_true rfl) (n := 40) rfl (fun h4 hk => ?_)
          refine g_iconst C (1 : Int32) dX9_sheet_40 (by decide) (n := 41) rfl ?_
          exact retI hk.out dX9_sheet_41
        · refine g_bipush C (-14 : Int32) dX9_sheet_26 (by decide) (n := 28) rfl ?_
          exact retI hk.out dX9_sheet_28
      · refine g_iconst C (-1 : Int32) dX9_sheet_20 (by decide) (n := 21) rfl ?_
        exact retI hk.out dX9_sheet_21
def f_X9_sorted  (h : Mem) : Option (Int32 × Mem) := obd (f_X0_copyFrom 1 0 h) (fun h1 => ob2 (f_X0_stepsUntilSorted 1 (40 : Int32) h1) (fun r2 h3 => some (r2, h3)))
def rm_X9_sorted : Room := { frames := 5, cells := 0, slots := 0, locals := 110 }
set_option maxHeartbeats 4000000 in
set_option maxRecDepth 100000 in
theorem L_X9_sorted (Θ : Tht)  (h : Mem) (K : Int32 × Mem → Prop) (hk : Ok (f_X9_sorted  h) K) : CI Θ yX9_sorted cX9_sorted 1 (some .int) rm_X9_sorted [.ref (rr Θ 0 0 0)] h K := by
  refine CI.of K [(0, .ref (rr Θ 0 0 0))] (plainFor_of_name (by decide)) (Nat.le_of_ble_eq_true rfl) rfl (fun Γ C Rt => ?_)
  replace hk := rtI Rt hk
  unfold f_X9_sorted at hk
  refine g_aload_n C 0 dX9_sorted_0 rfl rfl (n := 1) rfl ?_
  refine g_getR C kc_0 (rt_0_1 (tB Θ) 0) (by decide) (by decide) (by decide) wm_363 dX9_sorted_1 (n := 4) rfl ?_
  refine g_aload_n C 0 dX9_sorted_4 rfl rfl (n := 5) rfl ?_
  refine g_getR C kc_0 (rt_0_0 (tB Θ) 0) (by decide) (by decide) (by decide) wm_362 dX9_sorted_5 (n := 8) rfl ?_
  refine g_cVV C hk (fun K hk => L_X0_copyFrom Θ 1 (by decide) 0 (by decide) h K hk) lk_X9_86 kc_1 (by decide) (by decide) ⟨rfl, rfl⟩ ⟨Nat.le_of_ble_eq_true rfl, Nat.le_of_ble_eq_true rfl⟩ dX9_sorted_8 rfl rfl (Nat.le_of_ble_eq_true rfl) (n := 11) rfl (fun h1 hk => ?_)
  refine g_aload_n C 0 dX9_sorted_11 rfl rfl (n := 12) rfl ?_
  refine g_getR C kc_0 (rt_0_1 (tB Θ) 0) (by decide) (by decide) (by decide) wm_363 dX9_sorted_12 (n := 15) rfl ?_
  refine g_bipush C (40 : Int32) dX9_sorted_15 (by decide) (n := 17) rfl ?_
  refine g_cVI C hk (fun K hk => L_X0_stepsUntilSorted Θ 1 (by decide) (40 : Int32) h1 K hk) lk_X9_201 kc_1 (by decide) (by decide) ⟨rfl, rfl⟩ ⟨Nat.le_of_ble_eq_true rfl, Nat.le_of_ble_eq_true rfl⟩ dX9_sorted_17 rfl rfl (Nat.le_of_ble_eq_true rfl) (n := 20) rfl (fun r2 h3 hk => ?_)
  exact retI hk.out dX9_sorted_20
def f_X0_clear (o0 : Nat) (h : Mem) : Option (Mem) := bnd (up h 1 0 o0 0 (4 : Int32)) (fun h1 => bnd (up h1 1 2 o0 0 (0 : Int32)) (fun h2 => bnd (up h2 1 4 o0 0 (0 : Int32)) (fun h3 => bnd (up h3 1 10 o0 0 (0 : Int32)) (fun h4 => bnd (up h4 1 6 o0 0 (0 : Int32)) (fun h5 => bnd (up h5 1 7 o0 0 (0 : Int32)) (fun h6 => bnd (up h6 1 8 o0 0 (0 : Int32)) (fun h7 => obd (lp fu (fun a14 => (if (8 : Int32) ≤ a14.1 then some (.inr a14.2) else gd (inb a14.1 8) (bnd (up a14.2 2 0 o0 a14.1.toNatClampNeg (0 : Int32)) (fun h15 => bnd (a14.1 + (1 : Int32)) (fun x16 => some (.inl (x16, h15))))))) ((0 : Int32), h7)) (fun e17 => some e17))))))))
def rm_X0_clear : Room := { frames := 0, cells := 0, slots := 0, locals := 0 }
set_option maxHeartbeats 4000000 in
set_option maxRecDepth 100000 in
theorem L_X0_clear (Θ : Tht) (o0 : Nat) (ho0 : o0 < 5) (h : Mem) (K : Mem → Prop) (hk : Ok (f_X0_clear o0 h) K) : CV Θ yX0_clear cX0_clear 2 none rm_X0_clear [.ref (rr Θ 1 o0 0)] h K := by
  refine CV.of K [(0, .ref (rr Θ 1 o0 0))] (plainFor_of_name (by decide)) (Nat.le_of_ble_eq_true rfl) rfl (fun Γ C Rt => ?_)
  replace hk := rtV Rt hk
  unfold f_X0_clear at hk
  refine g_aload_n C 0 dX0_clear_0 rfl rfl (n := 1) rfl ?_
  refine g_iconst C (4 : Int32) dX0_clear_1 (by decide) (n := 2) rfl ?_
  refine g_putI C kc_1 ft_1_0 ho0 (by decide) (by decide) rfl (fitI _) wm_159 dX0_clear_2 (n := 5) rfl hk (fun h1 hk => ?_)
  refine g_aload_n C 0 dX0_clear_5 rfl rfl (n := 6) rfl ?_
  refine g_iconst C (0 : Int32) dX0_clear_6 (by decide) (n := 7) rfl ?_
  refine g_putI C kc_1 ft_1_2 ho0 (by decide) (by decide) rfl (fitI _) wm_165 dX0_clear_7 (n := 10) rfl hk (fun h2 hk => ?_)
  refine g_aload_n C 0 dX0_clear_10 rfl rfl (n := 11) rfl ?_
  refine g_iconst C (0 : Int32) dX0_clear_11 (by decide) (n := 12) rfl ?_
  refine g_putI C kc_1 ft_1_4 ho0 (by decide) (by decide) rfl (fitI _) wm_172 dX0_clear_12 (n := 15) rfl hk (fun h3 hk => ?_)
  refine g_aload_n C 0 dX0_clear_15 rfl rfl (n := 16) rfl ?_
  refine g_iconst C (0 : Int32) dX0_clear_16 (by decide) (n := 17) rfl ?_
  refine g_putI C kc_1 ft_1_10 ho0 (by decide) (by decide) rfl (fitI _) wm_188 dX0_clear_17 (n := 20) rfl hk (fun h4 hk => ?_)
  refine g_aload_n C 0 dX0_clear_20 rfl rfl (n := 21) rfl ?_
  refine g_iconst C (0 : Int32) dX0_clear_21 (by decide) (n := 22) rfl ?_
  refine g_putI C kc_1 ft_1_6 ho0 (by decide) (by decide) rfl (fitI _) wm_178 dX0_clear_22 (n := 25) rfl hk (fun h5 hk => ?_)
  refine g_aload_n C 0 dX0_clear_25 rfl rfl (n := 26) rfl ?_
  refine g_iconst C (0 : Int32) dX0_clear_26 (by decide) (n := 27) rfl ?_
  refine g_putI C kc_1 ft_1_7 ho0 (by decide) (by decide) rfl (fitI _) wm_181 dX0_clear_27 (n := 30) rfl hk (fun h6 hk => ?_)
  refine g_aload_n C 0 dX0_clear_30 rfl rfl (n := 31) rfl ?_
  refine g_iconst C (0 : Int32) dX0_clear_31 (by decide) (n := 32) rfl ?_
  refine g_putI C kc_1 ft_1_8 ho0 (by decide) (by decide) rfl (fitI _) wm_184 dX0_clear_32 (n := 35) rfl hk (fun h7 hk => ?_)
  refine g_iconst C (0 : Int32) dX0_clear_35 (by decide) (n := 36) rfl ?_
  refine g_istore_n C [(1, .int (0 : Int32)), (0, .ref (rr Θ 1 o0 0))] dX0_clear_36 rfl (by decide) rfl (n := 37) rfl ?_
  refine g_lv [1, 0] [(0, .ref (rr Θ 1 o0 0)), (1, .int (0 : Int32))] rfl ?_
  refine Ok.join hk (fun e17 => G Θ Γ 56 [] [] e17) (fun e17 hk => ?_) (fun hk => ?_)
  · exact retV hk.out dX0_clear_56
  · refine Ok.loop (fun a14 => G Θ Γ 37 [(0, .ref (rr Θ 1 o0 0)), (1, .int a14.1)] [] a14.2) (fun a14 hk => ?_) _ _ hk
    refine g_iload_n C 1 dX0_clear_37 rfl rfl (n := 38) rfl ?_
    refine g_bipush C (8 : Int32) dX0_clear_38 (by decide) (n := 40) rfl ?_
    refine g_ic_ge C 56 dX0_clear_40 (by decide) (n := 43) rfl hk (fun hk => ?_) (fun hk => ?_)
    · refine g_lv [] [] rfl ?_
      exact hk.out
    · refine g_aload_n C 0 dX0_clear_43 rfl rfl (n := 44) rfl ?_
      refine g_getR C kc_1 (rt_1_1 (tB Θ) o0) ho0 (by decide) (by decide) wm_162 dX0_clear_44 (n := 47) rfl ?_
      refine g_iload_n C 1 dX0_clear_47 rfl rfl (n := 48) rfl ?_
      refine g_iconst C (0 : Int32) dX0_clear_48 (by decide) (n := 49) rfl ?_
      refine g_iast C an_2 ho0 dX0_clear_49 (n := 50) rfl hk (fun _ h15 hk => ?_)
      refine g_iinc C 1 (fun x16 => [(1, .int x16), (0, .ref (rr Θ 1 o0 0))]) dX0_clear_50 rfl (v := (a14.1 + (1 : Int32))) rfl (by decide) (fun _ => rfl) (n := 53) rfl hk (fun x16 hk => ?_)
      refine g_goto C 37 dX0_clear_53 (by decide) ?_
      refine g_lv [1, 0] [(0, .ref (rr Θ 1 o0 0)), (1, .int x16)] rfl ?_
      exact hk.out
def f_X0_hasItsPlaces (o0 : Nat) (h : Mem) : Option (Bool) := bnd (h 1 0 o0 0) (fun x1 => obd (lp fu (fun a4 => (if (8 : Int32) ≤ a4 then some (.inr (.inr ())) else gd (inb a4 8) ((if (h 2 0 o0 a4.toNatClampNeg) = 0 then bnd (a4 + (1 : Int32)) (fun x5 => some (.inl x5)) else some (.inr (.inl false)))))) x1) (Sum.elim (fun r => some r) (fun e6 => obd (lp fu (fun a13 => (if (h 1 2 o0 0) ≤ a13 then some (.inr (.inr ())) else gd (inb a13 6) ((if (h 6 2 o0 a13.toNatClampNeg) < (h 1 0 o0 0) then bnd (a13 + (1 : Int32)) (fun x15 => some (.inl x15)) else some (.inr (.inl false)))))) (0 : Int32)) (Sum.elim (fun r => some r) (fun e16 => obd (lp fu (fun a23 => (if (h 1 4 o0 0) ≤ a23 then some (.inr (.inr ())) else gd (inb a23 4) ((if (h 7 3 o0 a23.toNatClampNeg) < (h 1 0 o0 0) then bnd (a23 + (1 : Int32)) (fun x25 => some (.inl x25)) else some (.inr (.inl false)))))) (0 : Int32)) (Sum.elim (fun r => some r) (fun e26 => some true)))))))
def rm_X0_hasItsPlaces : Room := { frames := 0, cells := 0, slots := 0, locals := 0 }
set_option maxHeartbeats 4000000 in
set_option maxRecDepth 100000 in
theorem L_X0_hasItsPlaces (Θ : Tht) (o0 : Nat) (ho0 : o0 < 5) (h : Mem) (K : Bool × Mem → Prop) (hk : Ok (f_X0_hasItsPlaces o0 h) (fun r => K (r, h))) : CB Θ yX0_hasItsPlaces cX0_hasItsPlaces 2 (some .boolean) rm_X0_hasItsPlaces [.ref (rr Θ 1 o0 0)] h K := by
  refine CB.of K [(0, .ref (rr Θ 1 o0 0))] (plainFor_of_name (by decide)) (Nat.le_of_ble_eq_true rfl) rfl (fun Γ C Rt => ?_)
  replace hk := rtBp Rt hk
  unfold f_X0_hasItsPlaces at hk
  refine g_aload_n C 0 dX0_hasItsPlaces_0 rfl rfl (n := 1) rfl ?_
  refine g_getI C kc_1 ft_1_0 ho0 (by decide) (by decide) wm_159 dX0_hasItsPlaces_1 (n := 4) rfl ?_
  refine g_nm hk (fun x1 hk => ?_)
  refine g_istore_n C [(1, .int x1), (0, .ref (rr Θ 1 o0 0))] dX0_hasItsPlaces_4 rfl (by decide) rfl (n := 5) rfl ?_
  refine g_lv [1, 0] [(0, .ref (rr Θ 1 o0 0)), (1, .int x1)] rfl ?_
  refine Ok.join hk (Sum.elim (fun r => PB Θ Γ cX0_hasItsPlaces (r, h)) (fun e6 => G Θ Γ 28 [(0, .ref (rr Θ 1 o0 0))] [] h)) (fun e hk => ?_) (fun hk => ?_)
  · rcases e with r | e6
    · exact hk.out
    · replace hk := ok_inr hk
      refine g_iconst C (0 : Int32) dX0_hasItsPlaces_28 (by decide) (n := 29) rfl ?_
      refine g_istore_n C [(1, .int (0 : Int32)), (0, .ref (rr Θ 1 o0 0))] dX0_hasItsPlaces_29 rfl (by decide) rfl (n := 30) rfl ?_
      refine g_lv [1, 0] [(0, .ref (rr Θ 1 o0 0)), (1, .int (0 : Int32))] rfl ?_
      refine Ok.join hk (Sum.elim (fun r => PB Θ Γ cX0_hasItsPlaces (r, h)) (fun e16 => G Θ Γ 62 [(0, .ref (rr Θ 1 o0 0))] [] h)) (fun e hk => ?_) (fun hk => ?_)
      · rcases e with r | e16
        · exact hk.out
        · replace hk := ok_inr hk
          refine g_iconst C (0 : Int32) dX0_hasItsPlaces_62 (by decide) (n := 63) rfl ?_
          refine g_istore_n C [(1, .int (0 : Int32)), (0, .ref (rr Θ 1 o0 0))] dX0_hasItsPlaces_63 rfl (by decide) rfl (n := 64) rfl ?_
          refine g_lv [1, 0] [(0, .ref (rr Θ 1 o0 0)), (1, .int (0 : Int32))] rfl ?_
          refine Ok.join hk (Sum.elim (fun r => PB Θ Γ cX0_hasItsPlaces (r, h)) (fun e26 => G Θ Γ 96 [] [] h)) (fun e hk => ?_) (fun hk => ?_)
          · rcases e with r | e26
            · exact hk.out
            · replace hk := ok_inr hk
              refine g_iconst C (1 : Int32) dX0_hasItsPlaces_96 (by decide) (n := 97) rfl ?_
              exact retB true rfl hk.out dX0_hasItsPlaces_97
          · refine Ok.loop (fun a23 => G Θ Γ 64 [(0, .ref (rr Θ 1 o0 0)), (1, .int a23)] [] h) (fun a23 hk => ?_) _ _ hk
            refine g_iload_n C 1 dX0_hasItsPlaces_64 rfl rfl (n := 65) rfl ?_
            refine g_aload_n C 0 dX0_hasItsPlaces_65 rfl rfl (n := 66) rfl ?_
            refine g_getI C kc_1 ft_1_4 ho0 (by decide) (by decide) wm_172 dX0_hasItsPlaces_66 (n := 69) rfl ?_
            refine g_ic_ge C 96 dX0_hasItsPlaces_69 (by decide) (n := 72) rfl hk (fun hk => ?_) (fun hk => ?_)
            · refine g_lv [] [] rfl ?_
              exact hk.out
            · refine g_aload_n C 0 dX0_hasItsPlaces_72 rfl rfl (n := 73) rfl ?_
              refine g_getR C kc_1 (rt_1_5 (tB Θ) o0) ho0 (by decide) (by decide) wm_176 dX0_hasItsPlaces_73 (n := 76) rfl ?_
              refine g_iload_n C 1 dX0_hasItsPlaces_76 rfl rfl (n := 77) rfl ?_
              refine g_aald C ar_4 ho0 dX0_hasItsPlaces_77 (n := 78) rfl hk (fun hg24 hk => ?_)
              refine g_getI C kc_7 ft_7_3 ho0 (inb_lt hg24) (by decide) wm_143 dX0_hasItsPlaces_78 (n := 81) rfl ?_
              refine g_aload_n C 0 dX0_hasItsPlaces_81 rfl rfl (n := 82) rfl ?_
              refine g_getI C kc_1 ft_1_0 ho0 (by decide) (by decide) wm_159 dX0_hasItsPlaces_82 (n := 85) rfl ?_
              refine g_ic_lt C 90 dX0_hasItsPlaces_85 (by decide) (n := 88) rfl hk (fun hk => ?_) (fun hk => ?_)
              · refine g_iinc C 1 (fun x25 => [(1, .int x25), (0, .ref (rr Θ 1 o0 0))]) dX0_hasItsPlaces_90 rfl (v := (a23 + (1 : Int32))) rfl (by decide) (fun _ => rfl) (n := 93) rfl hk (fun x25 hk => ?_)
                refine g_goto C 64 dX0_hasItsPlaces_93 (by decide) ?_
                refine g_lv [1, 0] [(0, .ref (rr Θ 1 o0 0)), (1, .int x25)] rfl ?_
                exact hk.out
              · refine g_iconst C (0 : Int32) dX0_hasItsPlaces_88 (by decide) (n := 89) rfl ?_
                exact retB false rfl hk.out dX0_hasItsPlaces_89
      · refine Ok.loop (fun a13 => G Θ Γ 30 [(0, .ref (rr Θ 1 o0 0)), (1, .int a13)] [] h) (fun a13 hk => ?_) _ _ hk
        refine g_iload_n C 1 dX0_hasItsPlaces_30 rfl rfl (n := 31) rfl ?_
        refine g_aload_n C 0 dX0_hasItsPlaces_31 rfl rfl (n := 32) rfl ?_
        refine g_getI C kc_1 ft_1_2 ho0 (by decide) (by decide) wm_165 dX0_hasItsPlaces_32 (n := 35) rfl ?_
        refine g_ic_ge C 62 dX0_hasItsPlaces_35 (by decide) (n := 38) rfl hk (fun hk => ?_) (fun hk => ?_)
        · refine g_lv [0] [(0, .ref (rr Θ 1 o0 0))] rfl ?_
          exact hk.out
        · refine g_aload_n C 0 dX0_hasItsPlaces_38 rfl rfl (n := 39) rfl ?_
          refine g_getR C kc_1 (rt_1_3 (tB Θ) o0) ho0 (by decide) (by decide) wm_168 dX0_hasItsPlaces_39 (n := 42) rfl ?_
          refine g_iload_n C 1 dX0_hasItsPlaces_42 rfl rfl (n := 43) rfl ?_
          refine g_aald C ar_3 ho0 dX0_hasItsPlaces_43 (n := 44) rfl hk (fun hg14 hk => ?_)
          refine g_getI C kc_6 ft_6_2 ho0 (inb_lt hg14) (by decide) wm_114 dX0_hasItsPlaces_44 (n := 47) rfl ?_
          refine g_aload_n C 0 dX0_hasItsPlaces_47 rfl rfl (n := 48) rfl ?_
          refine g_getI C kc_1 ft_1_0 ho0 (by decide) (by decide) wm_159 dX0_hasItsPlaces_48 (n := 51) rfl ?_
          refine g_ic_lt C 56 dX0_hasItsPlaces_51 (by decide) (n := 54) rfl hk (fun hk => ?_) (fun hk => ?_)
          · refine g_iinc C 1 (fun x15 => [(1, .int x15), (0, .ref (rr Θ 1 o0 0))]) dX0_hasItsPlaces_56 rfl (v := (a13 + (1 : Int32))) rfl (by decide) (fun _ => rfl) (n := 59) rfl hk (fun x15 hk => ?_)
            refine g_goto C 30 dX0_hasItsPlaces_59 (by decide) ?_
            refine g_lv [1, 0] [(0, .ref (rr Θ 1 o0 0)), (1, .int x15)] rfl ?_
            exact hk.out
          · refine g_iconst C (0 : Int32) dX0_hasItsPlaces_54 (by decide) (n := 55) rfl ?_
            exact retB false rfl hk.out dX0_hasItsPlaces_55
  · refine Ok.loop (fun a4 => G Θ Γ 5 [(0, .ref (rr Θ 1 o0 0)), (1, .int a4)] [] h) (fun a4 hk => ?_) _ _ hk
    refine g_iload_n C 1 dX0_hasItsPlaces_5 rfl rfl (n := 6) rfl ?_
    refine g_bipush C (8 : Int32) dX0_hasItsPlaces_6 (by decide) (n := 8) rfl ?_
    refine g_ic_ge C 28 dX0_hasItsPlaces_8 (by decide) (n := 11) rfl hk (fun hk => ?_) (fun hk => ?_)
    · refine g_lv [0] [(0, .ref (rr Θ 1 o0 0))] rfl ?_
      exact hk.out
    · refine g_aload_n C 0 dX0_hasItsPlaces_11 rfl rfl (n := 12) rfl ?_
      refine g_getR C kc_1 (rt_1_1 (tB Θ) o0) ho0 (by decide) (by decide) wm_162 dX0_hasItsPlaces_12 (n := 15) rfl ?_
      refine g_iload_n C 1 dX0_hasItsPlaces_15 rfl rfl (n := 16) rfl ?_
      refine g_iald C an_2 ho0 dX0_hasItsPlaces_16 (n := 17) rfl hk (fun _ hk => ?_)
      refine g_if_eq C 22 dX0_hasItsPlaces_17 (by decide) (n := 20) rfl hk (fun hk => ?_) (fun hk => ?_)
      · refine g_iinc C 1 (fun x5 => [(1, .int x5), (0, .ref (rr Θ 1 o0 0))]) dX0_hasItsPlaces_22 rfl (v := (a4 + (1 : Int32))) rfl (by decide) (fun _ => rfl) (n := 25) rfl hk (fun x5 hk => ?_)
        refine g_goto C 5 dX0_hasItsPlaces_25 (by decide) ?_
        refine g_lv [1, 0] [(0, .ref (rr Θ 1 o0 0)), (1, .int x5)] rfl ?_
        exact hk.out
      · refine g_iconst C (0 : Int32) dX0_hasItsPlaces_20 (by decide) (n := 21) rfl ?_
        exact retB false rfl hk.out dX0_hasItsPlaces_21
def f_X8_refuse (p1 : Int32) (p2 : Int32) (h : Mem) : Option (Bool × Mem) := bnd (up h 16 2 0 0 p1) (fun h1 => bnd (up h1 16 3 0 0 p2) (fun h2 => some (false, h2)))
def rm_X8_refuse : Room := { frames := 0, cells := 0, slots := 0, locals := 0 }
set_option maxHeartbeats 4000000 in
set_option maxRecDepth 100000 in
theorem L_X8_refuse (Θ : Tht) (p1 : Int32) (p2 : Int32) (h : Mem) (K : Bool × Mem → Prop) (hk : Ok (f_X8_refuse p1 p2 h) K) : CB Θ yX8_refuse cX8_refuse 3 (some .boolean) rm_X8_refuse [.ref (rr Θ 16 0 0), .int p1, .int p2] h K := by
  refine CB.of K [(0, .ref (rr Θ 16 0 0)), (1, .int p1), (2, .int p2)] (plainFor_of_name (by decide)) (Nat.le_of_ble_eq_true rfl) rfl (fun Γ C Rt => ?_)
  replace hk := rtB Rt hk
  unfold f_X8_refuse at hk
  refine g_aload_n C 0 dX8_refuse_0 rfl rfl (n := 1) rfl ?_
  refine g_iload_n C 1 dX8_refuse_1 rfl rfl (n := 2) rfl ?_
  refine g_putI C kc_16 ft_16_2 (by decide) (by decide) (by decide) rfl (fitI _) wm_287 dX8_refuse_2 (n := 5) rfl hk (fun h1 hk => ?_)
  refine g_aload_n C 0 dX8_refuse_5 rfl rfl (n := 6) rfl ?_
  refine g_iload_n C 2 dX8_refuse_6 rfl rfl (n := 7) rfl ?_
  refine g_putI C kc_16 ft_16_3 (by decide) (by decide) (by decide) rfl (fitI _) wm_289 dX8_refuse_7 (n := 10) rfl hk (fun h2 hk => ?_)
  refine g_iconst C (0 : Int32) dX8_refuse_10 (by decide) (n := 11) rfl ?_
  exact retB false rfl hk.out dX8_refuse_11
def f_X8_endsLine  (h : Mem) : Option (Bool × Mem) := (if (h 16 6 0 0) = (3 : Int32) then some (true, h) else ob2 (f_X8_refuse (2 : Int32) (h 16 7 0 0) h) (fun r1 h2 => (if r1 = true then some (true, h2) else some (false, h2))))
def rm_X8_endsLine : Room := { frames := 1, cells := 0, slots := 0, locals := 22 }
set_option maxHeartbeats 4000000 in
set_option maxRecDepth 100000 in
theorem L_X8_endsLine (Θ : Tht)  (h : Mem) (K : Bool × Mem → Prop) (hk : Ok (f_X8_endsLine  h) K) : CB Θ yX8_endsLine cX8_endsLine 1 (some .boolean) rm_X8_endsLine [.ref (rr Θ 16 0 0)] h K := by
  refine CB.of K [(0, .ref (rr Θ 16 0 0))] (plainFor_of_name (by decide)) (Nat.le_of_ble_eq_true rfl) rfl (fun Γ C Rt => ?_)
  replace hk := rtB Rt hk
  unfold f_X8_endsLine at hk
  refine g_aload_n C 0 dX8_endsLine_0 rfl rfl (n := 1) rfl ?_
  refine g_getI C kc_16 ft_16_6 (by decide) (by decide) (by decide) wm_293 dX8_endsLine_1 (n := 4) rfl ?_
  refine g_iconst C (3 : Int32) dX8_endsLine_4 (by decide) (n := 5) rfl ?_
  refine g_ic_eq C 20 dX8_endsLine_5 (by decide) (n := 8) rfl hk (fun hk => ?_) (fun hk => ?_)
  · refine g_iconst C (1 : Int32) dX8_endsLine_20 (by decide) (n := 21) rfl ?_
    refine g_goto C 25 dX8_endsLine_21 (by decide) ?_
    exact retB true rfl hk.out dX8_endsLine_25
  · refine g_aload_n C 0 dX8_endsLine_8 rfl rfl (n := 9) rfl ?_
    refine g_iconst C (2 : Int32) dX8_endsLine_9 (by decide) (n := 10) rfl ?_
    refine g_aload_n C 0 dX8_endsLine_10 rfl rfl (n := 11) rfl ?_
    refine g_getI C kc_16 ft_16_7 (by decide) (by decide) (by decide) wm_294 dX8_endsLine_11 (n := 14) rfl ?_
    refine g_cVB C hk (fun K hk => L_X8_refuse Θ (2 : Int32) (h 16 7 0 0) h K hk) lk_X8_61 kc_16 (by decide) (by decide) ⟨rfl, rfl⟩ ⟨Nat.le_of_ble_eq_true rfl, Nat.le_of_ble_eq_true rfl⟩ dX8_endsLine_14 rfl rfl (Nat.le_of_ble_eq_true rfl) (n := 17) rfl (fun r1 h2 hk => ?_)
    refine g_bf C 24 dX8_endsLine_17 (by decide) (n := 20) rfl hk (fun hk => ?_) (fun hk => ?_)
    · refine g_iconst C (0 : Int32) dX8_endsLine_24 (by decide) (n := 25) rfl ?_
      exact retB false rfl hk.out dX8_endsLine_25
    · refine g_iconst C (1 : Int32) dX8_endsLine_20 (by decide) (n := 21) rfl ?_
      refine g_goto C 25 dX8_endsLine_21 (by decide) ?_
      exact retB true rfl hk.out dX8_endsLine_25
def f_X8_kindOf (p1 : Int32) (h : Mem) : Option (Int32) := obd ((if p1 < (97 : Int32) then some (.inr ()) else (if (122 : Int32) < p1 then some (.inr ()) else some (.inl (1 : Int32))))) (Sum.elim (fun r => some r) (fun a1 => obd ((if p1 < (48 : Int32) then some (.inr ()) else (if (57 : Int32) < p1 then some (.inr ()) else some (.inl (2 : Int32))))) (Sum.elim (fun r => some r) (fun a2 => (if p1 = (59 : Int32) then some (3 : Int32) else some (4 : Int32))))))
def rm_X8_kindOf : Room := { frames := 0, cells := 0, slots := 0, locals := 0 }
set_option maxHeartbeats 4000000 in
set_option maxRecDepth 100000 in
theorem L_X8_kindOf (Θ : Tht) (p1 : Int32) (h : Mem) (K : Int32 × Mem → Prop) (hk : Ok (f_X8_kindOf p1 h) (fun r => K (r, h))) : CI Θ yX8_kindOf cX8_kindOf 1 (some .int) rm_X8_kindOf [.int p1] h K := by
  refine CI.of K [(0, .int p1)] (plainFor_of_name (by decide)) (Nat.le_of_ble_eq_true rfl) rfl (fun Γ C Rt => ?_)
  replace hk := rtIp Rt hk
  unfold f_X8_kindOf at hk
  refine g_iload_n C 0 dX8_kindOf_0 rfl rfl (n := 1) rfl ?_
  refine g_bipush C (97 : Int32) dX8_kindOf_1 (by decide) (n := 3) rfl ?_
  refine Ok.join hk (Sum.elim (fun r => PI Θ Γ cX8_kindOf (r, h)) (fun a1 => G Θ Γ 14 [(0, .int p1)] [] h)) (fun e hk => ?_) (fun hk => ?_)
  · rcases e with r | a1
    · exact hk.out
    · replace hk := ok_inr hk
      refine g_iload_n C 0 dX8_kindOf_14 rfl rfl (n := 15) rfl ?_
      refine g_bipush C (48 : Int32) dX8_kindOf_15 (by decide) (n := 17) rfl ?_
      refine Ok.join hk (Sum.elim (fun r => PI Θ Γ cX8_kindOf (r, h)) (fun a2 => G Θ Γ 28 [(0, .int p1)] [] h)) (fun e hk => ?_) (fun hk => ?_)
      · rcases e with r | a2
        · exact hk.out
        · replace hk := ok_inr hk
          refine g_iload_n C 0 dX8_kindOf_28 rfl rfl (n := 29) rfl ?_
          refine g_bipush C (59 : Int32) dX8_kindOf_29 (by decide) (n := 31) rfl ?_
          refine g_ic_ne C 38 dX8_kindOf_31 (by decide) (n := 34) rfl hk (fun hk => ?_) (fun hk => ?_)
          · refine g_iconst C (4 : Int32) dX8_kindOf_38 (by decide) (n := 39) rfl ?_
            exact retI hk.out dX8_kindOf_39
          · refine g_iconst C (3 : Int32) dX8_kindOf_34 (by decide) (n := 35) rfl ?_
            refine g_goto C 39 dX8_kindOf_35 (by decide) ?_
            exact retI hk.out dX8_kindOf_39
      · refine g_ic_lt C 28 dX8_kindOf_17 (by decide) (n := 20) rfl hk (fun hk => ?_) (fun hk => ?_)
        · exact hk.out
        · refine g_iload_n C 0 dX8_kindOf_20 rfl rfl (n := 21) rfl ?_
          refine g_bipush C (57 : Int32) dX8_kindOf_21 (by decide) (n := 23) rfl ?_
          refine g_ic_gt C 28 dX8_kindOf_23 (by decide) (n := 26) rfl hk (fun hk => ?_) (fun hk => ?_)
          · exact hk.out
          · refine g_iconst C (2 : Int32) dX8_kindOf_26 (by decide) (n := 27) rfl ?_
            exact retI hk.out dX8_kindOf_27
  · refine g_ic_lt C 14 dX8_kindOf_3 (by decide) (n := 6) rfl hk (fun hk => ?_) (fun hk => ?_)
    · exact hk.out
    · refine g_iload_n C 0 dX8_kindOf_6 rfl rfl (n := 7) rfl ?_
      refine g_bipush C (122 : Int32) dX8_kindOf_7 (by decide) (n := 9) rfl ?_
      refine g_ic_gt C 14 dX8_kindOf_9 (by decide) (n := 12) rfl hk (fun hk => ?_) (fun hk => ?_)
      · exact hk.out
      · refine g_iconst C (1 : Int32) dX8_kindOf_12 (by decide) (n := 13) rfl ?_
        exact retI hk.out dX8_kindOf_13
def f_X8_takeToken  (h : Mem) : Option (Bool × Mem) := bnd (up h 16 7 0 0 (h 16 8 0 0)) (fun h1 => obd (lp fu (fun a4 => (if (a4 17 1 0 0) ≤ (a4 16 7 0 0) then some (.inr a4) else gd (inb (a4 16 7 0 0) 320) ((if (a4 18 0 0 (a4 16 7 0 0).toNatClampNeg) = (32 : Int32) then bnd (up a4 16 7 0 0 ((a4 16 7 0 0) + (1 : Int32))) (fun h5 => some (.inl h5)) else some (.inr a4))))) h1) (fun e6 => obd ((if (e6 17 1 0 0) ≤ (e6 16 7 0 0) then some (0 : Int32) else gd (inb (e6 16 7 0 0) 320) (obd (f_X8_kindOf (e6 18 0 0 (e6 16 7 0 0).toNatClampNeg) e6) (fun r8 => some r8)))) (fun a9 => bnd (up e6 16 6 0 0 a9) (fun h10 => obd ((if (h10 16 6 0 0) = 0 then some (h10 16 7 0 0) else some ((h10 16 7 0 0) + (1 : Int32)))) (fun a11 => bnd (up h10 16 8 0 0 a11) (fun h12 => obd ((if (h12 16 6 0 0) = (1 : Int32) then some true else (if (h12 16 6 0 0) = (2 : Int32) then some true else some false))) (fun a13 => obd (lp fu (fun a17 => (if a13 = true then (if (a17 17 1 0 0) ≤ (a17 16 8 0 0) then some (.inr a17) else gd (inb (a17 16 8 0 0) 320) (obd (f_X8_kindOf (a17 18 0 0 (a17 16 8 0 0).toNatClampNeg) a17) (fun r18 => (if r18 = (a17 16 6 0 0) then bnd (up a17 16 8 0 0 ((a17 16 8 0 0) + (1 : Int32))) (fun h19 => some (.inl h19)) else some (.inr a17))))) else some (.inr a17))) h12) (fun e20 => obd ((if (e20 16 6 0 0) = (4 : Int32) then some (.inr e20) else (if (e20 16 6 0 0) = (2 : Int32) then (if ((e20 16 8 0 0) - (e20 16 7 0 0)) ≤ (2 : Int32) then bnd (up e20 16 9 0 0 (0 : Int32)) (fun h48 => bnd (h48 16 7 0 0) (fun x49 => obd (lp fu (fun a53 => (if (a53.2 16 8 0 0) ≤ a53.1 then some (.inr a53.2) else (if (a53.2 16 6 0 0) = (2 : Int32) then gd (inb a53.1 320) (bnd (up a53.2 16 9 0 0 ((((10 : Int32) * (a53.2 16 9 0 0)) + (a53.2 18 0 0 a53.1.toNatClampNeg)) - (48 : Int32))) (fun h54 => bnd (a53.1 + (1 : Int32)) (fun x55 => some (.inl (x55, h54))))) else some (.inr a53.2)))) (x49, h48)) (fun e56 => some (.inl (true, e56))))) else some (.inr e20)) else bnd (up e20 16 9 0 0 (0 : Int32)) (fun h39 => bnd (h39 16 7 0 0) (fun x40 => obd (lp fu (fun a44 => (if (a44.2 16 8 0 0) ≤ a44.1 then some (.inr a44.2) else (if (a44.2 16 6 0 0) = (2 : Int32) then gd (inb a44.1 320) (bnd (up a44.2 16 9 0 0 ((((10 : Int32) * (a44.2 16 9 0 0)) + (a44.2 18 0 0 a44.1.toNatClampNeg)) - (48 : Int32))) (fun h45 => bnd (a44.1 + (1 : Int32)) (fun x46 => some (.inl (x46, h45))))) else some (.inr a44.2)))) (x40, h39)) (fun e47 => some (.inl (true, e47)))))))) (Sum.elim (fun r => some r) (fun a57 => ob2 (f_X8_refuse (1 : Int32) (a57 16 7 0 0) a57) (fun r58 h59 => some (r58, h59))))))))))))
def rm_X8_takeToken : Room := { frames := 1, cells := 0, slots := 0, locals := 22 }
set_option maxHeartbeats 4000000 in
set_option maxRecDepth 100000 in
theorem L_X8_takeToken (Θ : Tht)  (h : Mem) (K : Bool × Mem → Prop) (hk : Ok (f_X8_takeToken  h) K) : CB Θ yX8_takeToken cX8_takeToken 3 (some .boolean) rm_X8_takeToken [.ref (rr Θ 16 0 0)] h K := by
  refine CB.of K [(0, .ref (rr Θ 16 0 0))] (plainFor_of_name (by decide)) (Nat.le_of_ble_eq_true rfl) rfl (fun Γ C Rt => ?_)
  replace hk := rtB Rt hk
  unfold f_X8_takeToken at hk
  refine g_aload_n C 0 dX8_takeToken_0 rfl rfl (n := 1) rfl ?_
  refine g_aload_n C 0 dX8_takeToken_1 rfl rfl (n := 2) rfl ?_
  refine g_getI C kc_16 ft_16_8 (by decide) (by decide) (by decide) wm_295 dX8_takeToken_2 (n := 5) rfl ?_
  refine g_putI C kc_16 ft_16_7 (by decide) (by decide) (by decide) rfl (fitI _) wm_294 dX8_takeToken_5 (n := 8) rfl hk (fun h1 hk => ?_)
  refine Ok.join hk (fun e6 => G Θ Γ 52 [(0, .ref (rr Θ 16 0 0))] [] e6) (fun e6 hk => ?_) (fun hk => ?_)
  · refine g_aload_n C 0 dX8_takeToken_52 rfl rfl (n := 53) rfl ?_
    refine g_aload_n C 0 dX8_takeToken_53 rfl rfl (n := 54) rfl ?_
    refine g_getI C kc_16 ft_16_7 (by decide) (by decide) (by decide) wm_294 dX8_takeToken_54 (n := 57) rfl ?_
    refine g_aload_n C 0 dX8_takeToken_57 rfl rfl (n := 58) rfl ?_
    refine g_getR C kc_16 (rt_16_0 (tB Θ) 0) (by decide) (by decide) (by decide) wm_283 dX8_takeToken_58 (n := 61) rfl ?_
    refine g_getI C kc_17 ft_17_1 (by decide) (by decide) (by decide) wm_274 dX8_takeToken_61 (n := 64) rfl ?_
    refine Ok.join hk (fun a9 => G Θ Γ 86 [(0, .ref (rr Θ 16 0 0))] [.int a9, .ref (rr Θ 16 0 0)] e6) (fun a9 hk => ?_) (fun hk => ?_)
    · refine g_putI C kc_16 ft_16_6 (by decide) (by decide) (by decide) rfl (fitI _) wm_293 dX8_takeToken_86 (n := 89) rfl hk (fun h10 hk => ?_)
      refine g_aload_n C 0 dX8_takeToken_89 rfl rfl (n := 90) rfl ?_
      refine g_aload_n C 0 dX8_takeToken_90 rfl rfl (n := 91) rfl ?_
      refine g_getI C kc_16 ft_16_6 (by decide) (by decide) (by decide) wm_293 dX8_takeToken_91 (n := 94) rfl ?_
      refine Ok.join hk (fun a11 => G Θ Γ 110 [(0, .ref (rr Θ 16 0 0))] [.int a11, .ref (rr Θ 16 0 0)] h10) (fun a11 hk => ?_) (fun hk => ?_)
      · refine g_putI C kc_16 ft_16_8 (by decide) (by decide) (by decide) rfl (fitI _) wm_295 dX8_takeToken_110 (n := 113) rfl hk (fun h12 hk => ?_)
        refine g_aload_n C 0 dX8_takeToken_113 rfl rfl (n := 114) rfl ?_
        refine g_getI C kc_16 ft_16_6 (by decide) (by decide) (by decide) wm_293 dX8_takeToken_114 (n := 117) rfl ?_
        refine g_iconst C (1 : Int32) dX8_takeToken_117 (by decide) (n := 118) rfl ?_
        refine Ok.join hk (fun a13 => G Θ Γ 134 [(0, .ref (rr Θ 16 0 0))] [.int (b2i a13)] h12) (fun a13 hk => ?_) (fun hk => ?_)
        · refine g_istore_n C [(1, .int (b2i a13)), (0, .ref (rr Θ 16 0 0))] dX8_takeToken_134 rfl (by decide) rfl (n := 135) rfl ?_
          refine g_lv [1, 0] [(0, .ref (rr Θ 16 0 0)), (1, .int (b2i a13))] rfl ?_
          refine Ok.join hk (fun e20 => G Θ Γ 188 [(0, .ref (rr Θ 16 0 0))] [] e20) (fun e20 hk => ?_) (fun hk => ?_)
          · refine g_aload_n C 0 dX8_takeToken_188 rfl rfl (n := 189) rfl ?_
            refine g_getI C kc_16 ft_16_6 (by decide) (by decide) (by decide) wm_293 dX8_takeToken_189 (n := 192) rfl ?_
            refine g_iconst C (4 : Int32) dX8_takeToken_192 (by decide) (n := 193) rfl ?_
            refine Ok.join hk (Sum.elim (PB Θ Γ cX8_takeToken) (fun a57 => G Θ Γ 217 [(0, .ref (rr Θ 16 0 0))] [] a57)) (fun e hk => ?_) (fun hk => ?_)
            · rcases e with r | a57
              · exact hk.out
              · replace hk := ok_inr hk
                refine g_aload_n C 0 dX8_takeToken_217 rfl rfl (n := 218) rfl ?_
                refine g_iconst C (1 : Int32) dX8_takeToken_218 (by decide) (n := 219) rfl ?_
                refine g_aload_n C 0 dX8_takeToken_219 rfl rfl (n := 220) rfl ?_
                refine g_getI C kc_16 ft_16_7 (by decide) (by decide) (by decide) wm_294 dX8_takeToken_220 (n := 223) rfl ?_
                refine g_cVB C hk (fun K hk => L_X8_refuse Θ (1 : Int32) (a57 16 7 0 0) a57 K hk) lk_X8_61 kc_16 (by decide) (by decide) ⟨rfl, rfl⟩ ⟨Nat.le_of_ble_eq_true rfl, Nat.le_of_ble_eq_true rfl⟩ dX8_takeToken_223 rfl rfl (Nat.le_of_ble_eq_true rfl) (n := 226) rfl (fun r58 h59 hk => ?_)
                exact retB r58 rfl hk.out dX8_takeToken_226
            · refine g_ic_eq C 217 dX8_takeToken_193 (by decide) (n := 196) rfl hk (fun hk => ?_) (fun hk => ?_)
              · exact hk.out
              · refine g_aload_n C 0 dX8_takeToken_196 rfl rfl (n := 197) rfl ?_
                refine g_getI C kc_16 ft_16_6 (by decide) (by decide) (by decide) wm_293 dX8_takeToken_197 (n := 200) rfl ?_
                refine g_iconst C (2 : Int32) dX8_takeToken_200 (by decide) (n := 201) rfl ?_
                refine g_ic_ne C 227 dX8_takeToken_201 (by decide) (n := 204) rfl hk (fun hk => ?_) (fun hk => ?_)
                · refine g_aload_n C 0 dX8_takeToken_227 rfl rfl (n := 228) rfl ?_
                  refine g_iconst C (0 : Int32) dX8_takeToken_228 (by decide) (n := 229) rfl ?_
                  refine g_putI C kc_16 ft_16_9 (by decide) (by decide) (by decide) rfl (fitI _) wm_296 dX8_takeToken_229 (n := 232) rfl hk (fun h39 hk => ?_)
                  refine g_aload_n C 0 dX8_takeToken_232 rfl rfl (n := 233) rfl ?_
                  refine g_getI C kc_16 ft_16_7 (by decide) (by decide) (by decide) wm_294 dX8_takeToken_233 (n := 236) rfl ?_
                  refine g_nm hk (fun x40 hk => ?_)
                  refine g_istore_n C [(2, .int x40), (0, .ref (rr Θ 16 0 0))] dX8_takeToken_236 rfl (by decide) rfl (n := 237) rfl ?_
                  refine g_lv [1, 0] [(0, .ref (rr Θ 16 0 0)), (2, .int x40)] rfl ?_
                  refine Ok.join hk (fun e47 => G Θ Γ 283 [] [] e47) (fun e47 hk => ?_) (fun hk => ?_)
                  · refine g_iconst C (1 : Int32) dX8_takeToken_283 (by decide) (n := 284) rfl ?_
                    exact retB true rfl hk.out dX8_takeToken_284
                  · refine Ok.loop (fun a44 => G Θ Γ 237 [(0, .ref (rr Θ 16 0 0)), (2, .int a44.1)] [] a44.2) (fun a44 hk => ?_) _ _ hk
                    refine g_iload_n C 1 dX8_takeToken_237 rfl rfl (n := 238) rfl ?_
                    refine g_aload_n C 0 dX8_takeToken_238 rfl rfl (n := 239) rfl ?_
                    refine g_getI C kc_16 ft_16_8 (by decide) (by decide) (by decide) wm_295 dX8_takeToken_239 (n := 242) rfl ?_
                    refine g_ic_ge C 283 dX8_takeToken_242 (by decide) (n := 245) rfl hk (fun hk => ?_) (fun hk => ?_)
                    · refine g_lv [] [] rfl ?_
                      exact hk.out
                    · refine g_aload_n C 0 dX8_takeToken_245 rfl rfl (n := 246) rfl ?_
                      refine g_getI C kc_16 ft_16_6 (by decide) (by decide) (by decide) wm_293 dX8_takeToken_246 (n := 249) rfl ?_
                      refine g_iconst C (2 : Int32) dX8_takeToken_249 (by decide) (n := 250) rfl ?_
                      refine g_ic_ne C 283 dX8_takeToken_250 (by decide) (n := 253) rfl hk (fun hk => ?_) (fun hk => ?_)
                      · refine g_lv [] [] rfl ?_
                        exact hk.out
                      · refine g_aload_n C 0 dX8_takeToken_253 rfl rfl (n := 254) rfl ?_
                        refine g_bipush C (10 : Int32) dX8_takeToken_254 (by decide) (n := 256) rfl ?_
                        refine g_aload_n C 0 dX8_takeToken_256 rfl rfl (n := 257) rfl ?_
                        refine g_getI C kc_16 ft_16_9 (by decide) (by decide) (by decide) wm_296 dX8_takeToken_257 (n := 260) rfl ?_
                        refine g_imul C dX8_takeToken_260 (n := 261) rfl ?_
                        refine g_aload_n C 0 dX8_takeToken_261 rfl rfl (n := 262) rfl ?_
                        refine g_getR C kc_16 (rt_16_0 (tB Θ) 0) (by decide) (by decide) (by decide) wm_283 dX8_takeToken_262 (n := 265) rfl ?_
                        refine g_getR C kc_17 (rt_17_0 (tB Θ) 0) (by decide) (by decide) (by decide) wm_271 dX8_takeToken_265 (n := 268) rfl ?_
                        refine g_iload_n C 1 dX8_takeToken_268 rfl rfl (n := 269) rfl ?_
                        refine g_bald C an_18 (by decide) dX8_takeToken_269 (n := 270) rfl hk (fun _ hk => ?_)
                        refine g_iadd C dX8_takeToken_270 (n := 271) rfl ?_
                        refine g_bipush C (48 : Int32) dX8_takeToken_271 (by decide) (n := 273) rfl ?_
                        refine g_isub C dX8_takeToken_273 (n := 274) rfl ?_
                        refine g_putI C kc_16 ft_16_9 (by decide) (by decide) (by decide) rfl (fitI _) wm_296 dX8_takeToken_274 (n := 277) rfl hk (fun h45 hk => ?_)
                        refine g_iinc C 1 (fun x46 => [(2, .int x46), (0, .ref (rr Θ 16 0 0))]) dX8_takeToken_277 rfl (v := (a44.1 + (1 : Int32))) rfl (by decide) (fun _ => rfl) (n := 280) rfl hk (fun x46 hk => ?_)
                        refine g_goto C 237 dX8_takeToken_280 (by decide) ?_
                        refine g_lv [1, 0] [(0, .ref (rr Θ 16 0 0)), (2, .int x46)] rfl ?_
                        exact hk.out
                · refine g_aload_n C 0 dX8_takeToken_204 rfl rfl (n := 205) rfl ?_
                  refine g_getI C kc_16 ft_16_8 (by decide) (by decide) (by decide) wm_295 dX8_takeToken_205 (n := 208) rfl ?_
                  refine g_aload_n C 0 dX8_takeToken_208 rfl rfl (n := 209) rfl ?_
                  refine g_getI C kc_16 ft_16_7 (by decide) (by decide) (by decide) wm_294 dX8_takeToken_209 (n := 212) rfl ?_
                  refine g_isub C dX8_takeToken_212 (n := 213) rfl ?_
                  refine g_iconst C (2 : Int32) dX8_takeToken_213 (by decide) (n := 214) rfl ?_
                  refine g_ic_le C 227 dX8_takeToken_214 (by decide) (n := 217) rfl hk (fun hk => ?_) (fun hk => ?_)
                  · refine g_aload_n C 0 dX8_takeToken_227 rfl rfl (n := 228) rfl ?_
                    refine g_iconst C (0 : Int32) dX8_takeToken_228 (by decide) (n := 229) rfl ?_
                    refine g_putI C kc_16 ft_16_9 (by decide) (by decide) (by decide) rfl (fitI _) wm_296 dX8_takeToken_229 (n := 232) rfl hk (fun h48 hk => ?_)
                    refine g_aload_n C 0 dX8_takeToken_232 rfl rfl (n := 233) rfl ?_
                    refine g_getI C kc_16 ft_16_7 (by decide) (by decide) (by decide) wm_294 dX8_takeToken_233 (n := 236) rfl ?_
                    refine g_nm hk (fun x49 hk => ?_)
                    refine g_istore_n C [(2, .int x49), (0, .ref (rr Θ 16 0 0))] dX8_takeToken_236 rfl (by decide) rfl (n := 237) rfl ?_
                    refine g_lv [1, 0] [(0, .ref (rr Θ 16 0 0)), (2, .int x49)] rfl ?_
                    refine Ok.join hk (fun e56 => G Θ Γ 283 [] [] e56) (fun e56 hk => ?_) (fun hk => ?_)
                    · refine g_iconst C (1 : Int32) dX8_takeToken_283 (by decide) (n := 284) rfl ?_
                      exact retB true rfl hk.out dX8_takeToken_284
                    · refine Ok.loop (fun a53 => G Θ Γ 237 [(0, .ref (rr Θ 16 0 0)), (2, .int a53.1)] [] a53.2) (fun a53 hk => ?_) _ _ hk
                      refine g_iload_n C 1 dX8_takeToken_237 rfl rfl (n := 238) rfl ?_
                      refine g_aload_n C 0 dX8_takeToken_238 rfl rfl (n := 239) rfl ?_
                      refine g_getI C kc_16 ft_16_8 (by decide) (by decide) (by decide) wm_295 dX8_takeToken_239 (n := 242) rfl ?_
                      refine g_ic_ge C 283 dX8_takeToken_242 (by decide) (n := 245) rfl hk (fun hk => ?_) (fun hk => ?_)
                      · refine g_lv [] [] rfl ?_
                        exact hk.out
                      · refine g_aload_n C 0 dX8_takeToken_245 rfl rfl (n := 246) rfl ?_
                        refine g_getI C kc_16 ft_16_6 (by decide) (by decide) (by decide) wm_293 dX8_takeToken_246 (n := 249) rfl ?_
                        refine g_iconst C (2 : Int32) dX8_takeToken_249 (by decide) (n := 250) rfl ?_
                        refine g_ic_ne C 283 dX8_takeToken_250 (by decide) (n := 253) rfl hk (fun hk => ?_) (fun hk => ?_)
                        · refine g_lv [] [] rfl ?_
                          exact hk.out
                        · refine g_aload_n C 0 dX8_takeToken_253 rfl rfl (n := 254) rfl ?_
                          refine g_bipush C (10 : Int32) dX8_takeToken_254 (by decide) (n := 256) rfl ?_
                          refine g_aload_n C 0 dX8_takeToken_256 rfl rfl (n := 257) rfl ?_
                          refine g_getI C kc_16 ft_16_9 (by decide) (by decide) (by decide) wm_296 dX8_takeToken_257 (n := 260) rfl ?_
                          refine g_imul C dX8_takeToken_260 (n := 261) rfl ?_
                          refine g_aload_n C 0 dX8_takeToken_261 rfl rfl (n := 262) rfl ?_
                          refine g_getR C kc_16 (rt_16_0 (tB Θ) 0) (by decide) (by decide) (by decide) wm_283 dX8_takeToken_262 (n := 265) rfl ?_
                          refine g_getR C kc_17 (rt_17_0 (tB Θ) 0) (by decide) (by decide) (by decide) wm_271 dX8_takeToken_265 (n := 268) rfl ?_
                          refine g_iload_n C 1 dX8_takeToken_268 rfl rfl (n := 269) rfl ?_
                          refine g_bald C an_18 (by decide) dX8_takeToken_269 (n := 270) rfl hk (fun _ hk => ?_)
                          refine g_iadd C dX8_takeToken_270 (n := 271) rfl ?_
                          refine g_bipush C (48 : Int32) dX8_takeToken_271 (by decide) (n := 273) rfl ?_
                          refine g_isub C dX8_takeToken_273 (n := 274) rfl ?_
                          refine g_putI C kc_16 ft_16_9 (by decide) (by decide) (by decide) rfl (fitI _) wm_296 dX8_takeToken_274 (n := 277) rfl hk (fun h54 hk => ?_)
                          refine g_iinc C 1 (fun x55 => [(2, .int x55), (0, .ref (rr Θ 16 0 0))]) dX8_takeToken_277 rfl (v := (a53.1 + (1 : Int32))) rfl (by decide) (fun _ => rfl) (n := 280) rfl hk (fun x55 hk => ?_)
                          refine g_goto C 237 dX8_takeToken_280 (by decide) ?_
                          refine g_lv [1, 0] [(0, .ref (rr Θ 16 0 0)), (2, .int x55)] rfl ?_
                          exact hk.out
                  · exact hk.out
          · refine Ok.loop (fun a17 => G Θ Γ 135 [(0, .ref (rr Θ 16 0 0)), (1, .int (b2i a13))] [] a17) (fun a17 hk => ?_) _ _ hk
            refine g_iload_n C 1 dX8_takeToken_135 rfl rfl (n := 136) rfl ?_
            refine g_bf C 188 dX8_takeToken_136 (by decide) (n := 139) rfl hk (fun hk => ?_) (fun hk => ?_)
            · refine g_lv [0] [(0, .ref (rr Θ 16 0 0))] rfl ?_
              exact hk.out
            · refine g_aload_n C 0 dX8_takeToken_139 rfl rfl (n := 140) rfl ?_
              refine g_getI C kc_16 ft_16_8 (by decide) (by decide) (by decide) wm_295 dX8_takeToken_140 (n := 143) rfl ?_
              refine g_aload_n C 0 dX8_takeToken_143 rfl rfl (n := 144) rfl ?_
              refine g_getR C kc_16 (rt_16_0 (tB Θ) 0) (by decide) (by decide) (by decide) wm_283 dX8_takeToken_144 (n := 147) rfl ?_
              refine g_getI C kc_17 ft_17_1 (by decide) (by decide) (by decide) wm_274 dX8_takeToken_147 (n := 150) rfl ?_
              refine g_ic_ge C 188 dX8_takeToken_150 (by decide) (n := 153) rfl hk (fun hk => ?_) (fun hk => ?_)
              · refine g_lv [0] [(0, .ref (rr Θ 16 0 0))] rfl ?_
                exact hk.out
              · refine g_aload_n C 0 dX8_takeToken_153 rfl rfl (n := 154) rfl ?_
                refine g_getR C kc_16 (rt_16_0 (tB Θ) 0) (by decide) (by decide) (by decide) wm_283 dX8_takeToken_154 (n := 157) rfl ?_
                refine g_getR C kc_17 (rt_17_0 (tB Θ) 0) (by decide) (by decide) (by decide) wm_271 dX8_takeToken_157 (n := 160) rfl ?_
                refine g_aload_n C 0 dX8_takeToken_160 rfl rfl (n := 161) rfl ?_
                refine g_getI C kc_16 ft_16_8 (by decide) (by decide) (by decide) wm_295 dX8_takeToken_161 (n := 164) rfl ?_
                refine g_bald C an_18 (by decide) dX8_takeToken_164 (n := 165) rfl hk (fun _ hk => ?_)
                refine g_cSIp C hk (fun K hk => L_X8_kindOf Θ (a17 18 0 0 (a17 16 8 0 0).toNatClampNeg) a17 K hk) lk_X8_167 ⟨rfl, rfl⟩ ⟨Nat.le_of_ble_eq_true rfl, Nat.le_of_ble_eq_true rfl⟩ dX8_takeToken_165 rfl rfl (Nat.le_of_ble_eq_true rfl) (n := 168) rfl (fun r18 hk => ?_)
                refine g_aload_n C 0 dX8_takeToken_168 rfl rfl (n := 169) rfl ?_
                refine g_getI C kc_16 ft_16_6 (by decide) (by decide) (by decide) wm_293 dX8_takeToken_169 (n := 172) rfl ?_
                refine g_ic_ne C 188 dX8_takeToken_172 (by decide) (n := 175) rfl hk (fun hk => ?_) (fun hk => ?_)
                · refine g_lv [0] [(0, .ref (rr Θ 16 0 0))] rfl ?_
                  exact hk.out
                · refine g_aload_n C 0 dX8_takeToken_175 rfl rfl (n := 176) rfl ?_
                  refine g_dup C dX8_takeToken_176 rfl (n := 177) rfl ?_
                  refine g_getI C kc_16 ft_16_8 (by decide) (by decide) (by decide) wm_295 dX8_takeToken_177 (n := 180) rfl ?_
                  refine g_iconst C (1 : Int32) dX8_takeToken_180 (by decide) (n := 181) rfl ?_
                  refine g_iadd C dX8_takeToken_181 (n := 182) rfl ?_
                  refine g_putI C kc_16 ft_16_8 (by decide) (by decide) (by decide) rfl (fitI _) wm_295 dX8_takeToken_182 (n := 185) rfl hk (fun h19 hk => ?_)
                  refine g_goto C 135 dX8_takeToken_185 (by decide) ?_
                  exact hk.out
        · refine g_ic_eq C 129 dX8_takeToken_118 (by decide) (n := 121) rfl hk (fun hk => ?_) (fun hk => ?_)
          · refine g_iconst C (1 : Int32) dX8_takeToken_129 (by decide) (n := 130) rfl ?_
            refine g_goto C 134 dX8_takeToken_130 (by decide) ?_
            exact hk.out
          · refine g_aload_n C 0 dX8_takeToken_121 rfl rfl (n := 122) rfl ?_
            refine g_getI C kc_16 ft_16_6 (by decide) (by decide) (by decide) wm_293 dX8_takeToken_122 (n := 125) rfl ?_
            refine g_iconst C (2 : Int32) dX8_takeToken_125 (by decide) (n := 126) rfl ?_
            refine g_ic_ne C 133 dX8_takeToken_126 (by decide) (n := 129) rfl hk (fun hk => ?_) (fun hk => ?_)
            · refine g_iconst C (0 : Int32) dX8_takeToken_133 (by decide) (n := 134) rfl ?_
              exact hk.out
            · refine g_iconst C (1 : Int32) dX8_takeToken_129 (by decide) (n := 130) rfl ?_
              refine g_goto C 134 dX8_takeToken_130 (by decide) ?_
              exact hk.out
      · refine g_if_ne C 104 dX8_takeToken_94 (by decide) (n := 97) rfl hk (fun hk => ?_) (fun hk => ?_)
        · refine g_aload_n C 0 dX8_takeToken_104 rfl rfl (n := 105) rfl ?_
          refine g_getI C kc_16 ft_16_7 (by decide) (by decide) (by decide) wm_294 dX8_takeToken_105 (n := 108) rfl ?_
          refine g_iconst C (1 : Int32) dX8_takeToken_108 (by decide) (n := 109) rfl ?_
          refine g_iadd C dX8_takeToken_109 (n := 110) rfl ?_
          exact hk.out
        · refine g_aload_n C 0 dX8_takeToken_97 rfl rfl (n := 98) rfl ?_
          refine g_getI C kc_16 ft_16_7 (by decide) (by decide) (by decide) wm_294 dX8_takeToken_98 (n := 101) rfl ?_
          refine g_goto C 110 dX8_takeToken_101 (by decide) ?_
          exact hk.out
    · refine g_ic_ge C 85 dX8_takeToken_64 (by decide) (n := 67) rfl hk (fun hk => ?_) (fun hk => ?_)
      · refine g_iconst C (0 : Int32) dX8_takeToken_85 (by decide) (n := 86) rfl ?_
        exact hk.out
      · refine g_aload_n C 0 dX8_takeToken_67 rfl rfl (n := 68) rfl ?_
        refine g_getR C kc_16 (rt_16_0 (tB Θ) 0) (by decide) (by decide) (by decide) wm_283 dX8_takeToken_68 (n := 71) rfl ?_
        refine g_getR C kc_17 (rt_17_0 (tB Θ) 0) (by decide) (by decide) (by decide) wm_271 dX8_takeToken_71 (n := 74) rfl ?_
        refine g_aload_n C 0 dX8_takeToken_74 rfl rfl (n := 75) rfl ?_
        refine g_getI C kc_16 ft_16_7 (by decide) (by decide) (by decide) wm_294 dX8_takeToken_75 (n := 78) rfl ?_
        refine g_bald C an_18 (by decide) dX8_takeToken_78 (n := 79) rfl hk (fun _ hk => ?_)
        refine g_cSIp C hk (fun K hk => L_X8_kindOf Θ (e6 18 0 0 (e6 16 7 0 0).toNatClampNeg) e6 K hk) lk_X8_167 ⟨rfl, rfl⟩ ⟨Nat.le_of_ble_eq_true rfl, Nat.le_of_ble_eq_true rfl⟩ dX8_takeToken_79 rfl rfl (Nat.le_of_ble_eq_true rfl) (n := 82) rfl (fun r8 hk => ?_)
        refine g_goto C 86 dX8_takeToken_82 (by decide) ?_
        exact hk.out
  · refine Ok.loop (fun a4 => G Θ Γ 8 [(0, .ref (rr Θ 16 0 0))] [] a4) (fun a4 hk => ?_) _ _ hk
    refine g_aload_n C 0 dX8_takeToken_8 rfl rfl (n := 9) rfl ?_
    refine g_getI C kc_16 ft_16_7 (by decide) (by decide) (by decide) wm_294 dX8_takeToken_9 (n := 12) rfl ?_
    refine g_aload_n C 0 dX8_takeToken_12 rfl rfl (n := 13) rfl ?_
    refine g_getR C kc_16 (rt_16_0 (tB Θ) 0) (by decide) (by decide) (by decide) wm_283 dX8_takeToken_13 (n := 16) rfl ?_
    refine g_getI C kc_17 ft_17_1 (by decide) (by decide) (by decide) wm_274 dX8_takeToken_16 (n := 19) rfl ?_
    refine g_ic_ge C 52 dX8_takeToken_19 (by decide) (n := 22) rfl hk (fun hk => ?_) (fun hk => ?_)
    · exact hk.out
    · refine g_aload_n C 0 dX8_takeToken_22 rfl rfl (n := 23) rfl ?_
      refine g_getR C kc_16 (rt_16_0 (tB Θ) 0) (by decide) (by decide) (by decide) wm_283 dX8_takeToken_23 (n := 26) rfl ?_
      refine g_getR C kc_17 (rt_17_0 (tB Θ) 0) (by decide) (by decide) (by decide) wm_271 dX8_takeToken_26 (n := 29) rfl ?_
      refine g_aload_n C 0 dX8_takeToken_29 rfl rfl (n := 30) rfl ?_
      refine g_getI C kc_16 ft_16_7 (by decide) (by decide) (by decide) wm_294 dX8_takeToken_30 (n := 33) rfl ?_
      refine g_bald C an_18 (by decide) dX8_takeToken_33 (n := 34) rfl hk (fun _ hk => ?_)
      refine g_bipush C (32 : Int32) dX8_takeToken_34 (by decide) (n := 36) rfl ?_
      refine g_ic_ne C 52 dX8_takeToken_36 (by decide) (n := 39) rfl hk (fun hk => ?_) (fun hk => ?_)
      · exact hk.out
      · refine g_aload_n C 0 dX8_takeToken_39 rfl rfl (n := 40) rfl ?_
        refine g_dup C dX8_takeToken_40 rfl (n := 41) rfl ?_
        refine g_getI C kc_16 ft_16_7 (by decide) (by decide) (by decide) wm_294 dX8_takeToken_41 (n := 44) rfl ?_
        refine g_iconst C (1 : Int32) dX8_takeToken_44 (by decide) (n := 45) rfl ?_
        refine g_iadd C dX8_takeToken_45 (n := 46) rfl ?_
        refine g_putI C kc_16 ft_16_7 (by decide) (by decide) (by decide) rfl (fitI _) wm_294 dX8_takeToken_46 (n := 49) rfl hk (fun h5 hk => ?_)
        refine g_goto C 8 dX8_takeToken_49 (by decide) ?_
        exact hk.out
def f_X8_takeNumber (p1 : Int32) (p2 : Int32) (h : Mem) : Option (Bool × Mem) := ob2 (f_X8_takeToken h) (fun r1 h2 => (if r1 = true then (if (h2 16 6 0 0) = (2 : Int32) then obd (f_X9_within (h2 16 9 0 0) p1 p2 h2) (fun r3 => (if r3 = true then some (true, h2) else ob2 (f_X8_refuse (3 : Int32) (h2 16 7 0 0) h2) (fun r4 h5 => (if r4 = true then some (true, h5) else some (false, h5))))) else ob2 (f_X8_refuse (2 : Int32) (h2 16 7 0 0) h2) (fun r6 h7 => some (r6, h7))) else some (false, h2)))
def rm_X8_takeNumber : Room := { frames := 2, cells := 0, slots := 0, locals := 44 }
set_option maxHeartbeats 4000000 in
set_option maxRecDepth 100000 in
theorem L_X8_takeNumber (Θ : Tht) (p1 : Int32) (p2 : Int32) (h : Mem) (K : Bool × Mem → Prop) (hk : Ok (f_X8_takeNumber p1 p2 h) K) : CB Θ yX8_takeNumber cX8_takeNumber 3 (some .boolean) rm_X8_takeNumber [.ref (rr Θ 16 0 0), .int p1, .int p2] h K := by
  refine CB.of K [(0, .ref (rr Θ 16 0 0)), (1, .int p1), (2, .int p2)] (plainFor_of_name (by decide)) (Nat.le_of_ble_eq_true rfl) rfl (fun Γ C Rt => ?_)
  replace hk := rtB Rt hk
  unfold f_X8_takeNumber at hk
  refine g_aload_n C 0 dX8_takeNumber_0 rfl rfl (n := 1) rfl ?_
  refine g_cVB C hk (fun K hk => L_X8_takeToken Θ h K hk) lk_X8_45 kc_16 (by decide) (by decide) ⟨rfl, rfl⟩ ⟨Nat.le_of_ble_eq_true rfl, Nat.le_of_ble_eq_true rfl⟩ dX8_takeNumber_1 rfl rfl (Nat.le_of_ble_eq_true rfl) (n := 4) rfl (fun r1 h2 hk => ?_)
  refine g_bt C 9 dX8_takeNumber_4 (by decide) (n := 7) rfl hk (fun hk => ?_) (fun hk => ?_)
  · refine g_aload_n C 0 dX8_takeNumber_9 rfl rfl (n := 10) rfl ?_
    refine g_getI C kc_16 ft_16_6 (by decide) (by decide) (by decide) wm_293 dX8_takeNumber_10 (n := 13) rfl ?_
    refine g_iconst C (2 : Int32) dX8_takeNumber_13 (by decide) (n := 14) rfl ?_
    refine g_ic_eq C 27 dX8_takeNumber_14 (by decide) (n := 17) rfl hk (fun hk => ?_) (fun hk => ?_)
    · refine g_aload_n C 0 dX8_takeNumber_27 rfl rfl (n := 28) rfl ?_
      refine g_getI C kc_16 ft_16_9 (by decide) (by decide) (by decide) wm_296 dX8_takeNumber_28 (n := 31) rfl ?_
      refine g_iload_n C 1 dX8_takeNumber_31 rfl rfl (n := 32) rfl ?_
      refine g_iload_n C 2 dX8_takeNumber_32 rfl rfl (n := 33) rfl ?_
      refine g_cNBp C hk (fun K hk => L_X9_within Θ (h2 16 9 0 0) p1 p2 h2 K hk) lk_X8_150 ⟨rfl, rfl⟩ ⟨Nat.le_of_ble_eq_true rfl, Nat.le_of_ble_eq_true rfl⟩ dX8_takeNumber_33 rfl rfl (Nat.le_of_ble_eq_true rfl) (n := 36) rfl (fun r3 hk => ?_)
      refine g_bt C 51 dX8_takeNumber_36 (by decide) (n := 39) rfl hk (fun hk => ?_) (fun hk => ?_)
      · refine g_iconst C (1 : Int32) dX8_takeNumber_51 (by decide) (n := 52) rfl ?_
        refine g_goto C 56 dX8_takeNumber_52 (by decide) ?_
        exact retB true rfl hk.out dX8_takeNumber_56
      · refine g_aload_n C 0 dX8_takeNumber_39 rfl rfl (n := 40) rfl ?_
        refine g_iconst C (3 : Int32) dX8_takeNumber_40 (by decide) (n := 41) rfl ?_
        refine g_aload_n C 0 dX8_takeNumber_41 rfl rfl (n := 42) rfl ?_
        refine g_getI C kc_16 ft_16_7 (by decide) (by decide) (by decide) wm_294 dX8_takeNumber_42 (n := 45) rfl ?_
        refine g_cVB C hk (fun K hk => L_X8_refuse Θ (3 : Int32) (h2 16 7 0 0) h2 K hk) lk_X8_61 kc_16 (by decide) (by decide) ⟨rfl, rfl⟩ ⟨Nat.le_of_ble_eq_true rfl, Nat.le_of_ble_eq_true rfl⟩ dX8_takeNumber_45 rfl rfl (Nat.le_of_ble_eq_true rfl) (n := 48) rfl (fun r4 h5 hk => ?_)
        refine g_bf C 55 dX8_takeNumber_48 (by decide) (n := 51) rfl hk (fun hk => ?_) (fun hk => ?_)
        · refine g_iconst C (0 : Int32) dX8_takeNumber_55 (by decide) (n := 56) rfl ?_
          exact retB false rfl hk.out dX8_takeNumber_56
        · refine g_iconst C (1 : Int32) dX8_takeNumber_51 (by decide) (n := 52) rfl ?_
          refine g_goto C 56 dX8_takeNumber_52 (by decide) ?_
          exact retB true rfl hk.out dX8_takeNumber_56
    · refine g_aload_n C 0 dX8_takeNumber_17 rfl rfl (n := 18) rfl ?_
      refine g_iconst C (2 : Int32) dX8_takeNumber_18 (by decide) (n := 19) rfl ?_
      refine g_aload_n C 0 dX8_takeNumber_19 rfl rfl (n := 20) rfl ?_
      refine g_getI C kc_16 ft_16_7 (by decide) (by decide) (by decide) wm_294 dX8_takeNumber_20 (n := 23) rfl ?_
      refine g_cVB C hk (fun K hk => L_X8_refuse Θ (2 : Int32) (h2 16 7 0 0) h2 K hk) lk_X8_61 kc_16 (by decide) (by decide) ⟨rfl, rfl⟩ ⟨Nat.le_of_ble_eq_true rfl, Nat.le_of_ble_eq_true rfl⟩ dX8_takeNumber_23 rfl rfl (Nat.le_of_ble_eq_true rfl) (n := 26) rfl (fun r6 h7 hk => ?_)
      exact retB r6 rfl hk.out dX8_takeNumber_26
  · refine g_iconst C (0 : Int32) dX8_takeNumber_7 (by decide) (n := 8) rfl ?_
    exact retB false rfl hk.out dX8_takeNumber_8
def f_X0_addCrab (o0 : Nat) (p1 : Int32) (p2 : Int32) (p3 : Int32) (p4 : Int32) (h : Mem) : Option (Mem) := (if (4 : Int32) ≤ (h 1 4 o0 0) then some h else gd (inb (h 1 4 o0 0) 4) (bnd (up h 7 2 o0 (h 1 4 o0 0).toNatClampNeg p1) (fun h2 => bnd (up h2 7 0 o0 (h 1 4 o0 0).toNatClampNeg p2) (fun h3 => bnd (up h3 7 1 o0 (h 1 4 o0 0).toNatClampNeg p3) (fun h4 => bnd (up h4 7 3 o0 (h 1 4 o0 0).toNatClampNeg p4) (fun h5 => bnd (up h5 7 4 o0 (h 1 4 o0 0).toNatClampNeg (-1 : Int32)) (fun h6 => gd (inb (h6 1 4 o0 0) 4) (bnd (up h6 5 0 o0 (h6 1 4 o0 0).toNatClampNeg (h6 1 4 o0 0)) (fun h7 => bnd (up h7 1 4 o0 0 ((h7 1 4 o0 0) + (1 : Int32))) (fun h8 => bnd (up h8 1 10 o0 0 (h8 1 4 o0 0)) (fun h9 => some h9)))))))))))
def rm_X0_addCrab : Room := { frames := 0, cells := 0, slots := 0, locals := 0 }
set_option maxHeartbeats 4000000 in
set_option maxRecDepth 100000 in
theorem L_X0_addCrab (Θ : Tht) (o0 : Nat) (ho0 : o0 < 5) (p1 : Int32) (p2 : Int32) (p3 : Int32) (p4 : Int32) (h : Mem) (K : Mem → Prop) (hk : Ok (f_X0_addCrab o0 p1 p2 p3 p4 h) K) : CV Θ yX0_addCrab cX0_addCrab 6 none rm_X0_addCrab [.ref (rr Θ 1 o0 0), .int p1, .int p2, .int p3, .int p4] h K := by
  refine CV.of K [(0, .ref (rr Θ 1 o0 0)), (1, .int p1), (2, .int p2), (3, .int p3), (4, .int p4)] (plainFor_of_name (by decide)) (Nat.le_of_ble_eq_true rfl) rfl (fun Γ C Rt => ?_)
  replace hk := rtV Rt hk
  unfold f_X0_addCrab at hk
  refine g_aload_n C 0 dX0_addCrab_0 rfl rfl (n := 1) rfl ?_
  refine g_getI C kc_1 ft_1_4 ho0 (by decide) (by decide) wm_172 dX0_addCrab_1 (n := 4) rfl ?_
  refine g_iconst C (4 : Int32) dX0_addCrab_4 (by decide) (n := 5) rfl ?_
  refine g_ic_ge C 81 dX0_addCrab_5 (by decide) (n := 8) rfl hk (fun hk => ?_) (fun hk => ?_)
  · exact retV hk.out dX0_addCrab_81
  · refine g_aload_n C 0 dX0_addCrab_8 rfl rfl (n := 9) rfl ?_
    refine g_getR C kc_1 (rt_1_5 (tB Θ) o0) ho0 (by decide) (by decide) wm_176 dX0_addCrab_9 (n := 12) rfl ?_
    refine g_aload_n C 0 dX0_addCrab_12 rfl rfl (n := 13) rfl ?_
    refine g_getI C kc_1 ft_1_4 ho0 (by decide) (by decide) wm_172 dX0_addCrab_13 (n := 16) rfl ?_
    refine g_aald C ar_4 ho0 dX0_addCrab_16 (n := 17) rfl hk (fun hg1 hk => ?_)
    refine g_astore C [(5, .ref (rr Θ 7 o0 (h 1 4 o0 0).toNatClampNeg)), (0, .ref (rr Θ 1 o0 0)), (1, .int p1), (2, .int p2), (3, .int p3), (4, .int p4)] dX0_addCrab_17 (by decide) rfl (n := 19) rfl ?_
    refine g_aload C 0 dX0_addCrab_19 rfl (n := 21) rfl ?_
    refine g_iload_n C 2 dX0_addCrab_21 rfl rfl (n := 22) rfl ?_
    refine g_putI C kc_7 ft_7_2 ho0 (inb_lt hg1) (by decide) rfl (fitI _) wm_140 dX0_addCrab_22 (n := 25) rfl hk (fun h2 hk => ?_)
    refine g_aload C 0 dX0_addCrab_25 rfl (n := 27) rfl ?_
    refine g_iload_n C 3 dX0_addCrab_27 rfl rfl (n := 28) rfl ?_
    refine g_putI C kc_7 ft_7_0 ho0 (inb_lt hg1) (by decide) rfl (fitI _) wm_134 dX0_addCrab_28 (n := 31) rfl hk (fun h3 hk => ?_)
    refine g_aload C 0 dX0_addCrab_31 rfl (n := 33) rfl ?_
    refine g_iload_n C 4 dX0_addCrab_33 rfl rfl (n := 34) rfl ?_
    refine g_putI C kc_7 ft_7_1 ho0 (inb_lt hg1) (by decide) rfl (fitI _) wm_137 dX0_addCrab_34 (n := 37) rfl hk (fun h4 hk => ?_)
    refine g_aload C 0 dX0_addCrab_37 rfl (n := 39) rfl ?_
    refine g_iload C 5 dX0_addCrab_39 rfl (n := 41) rfl ?_
    refine g_putI C kc_7 ft_7_3 ho0 (inb_lt hg1) (by decide) rfl (fitI _) wm_143 dX0_addCrab_41 (n := 44) rfl hk (fun h5 hk => ?_)
    refine g_aload C 0 dX0_addCrab_44 rfl (n := 46) rfl ?_
    refine g_iconst C (-1 : Int32) dX0_addCrab_46 (by decide) (n := 47) rfl ?_
    refine g_putI C kc_7 ft_7_4 ho0 (inb_lt hg1) (by decide) rfl (fitI _) wm_146 dX0_addCrab_47 (n := 50) rfl hk (fun h6 hk => ?_)
    refine g_aload_n C 1 dX0_addCrab_50 rfl rfl (n := 51) rfl ?_
    refine g_getR C kc_1 (rt_1_9 (tB Θ) o0) ho0 (by decide) (by decide) wm_186 dX0_addCrab_51 (n := 54) rfl ?_
    refine g_aload_n C 1 dX0_addCrab_54 rfl rfl (n := 55) rfl ?_
    refine g_getI C kc_1 ft_1_4 ho0 (by decide) (by decide) wm_172 dX0_addCrab_55 (n := 58) rfl ?_
    refine g_aload_n C 1 dX0_addCrab_58 rfl rfl (n := 59) rfl ?_
    refine g_getI C kc_1 ft_1_4 ho0 (by decide) (by decide) wm_172 dX0_addCrab_59 (n := 62) rfl ?_
    refine g_iast C an_5 ho0 dX0_addCrab_62 (n := 63) rfl hk (fun _ h7 hk => ?_)
    refine g_aload_n C 1 dX0_addCrab_63 rfl rfl (n := 64) rfl ?_
    refine g_dup C dX0_addCrab_64 rfl (n := 65) rfl ?_
    refine g_getI C kc_1 ft_1_4 ho0 (by decide) (by decide) wm_172 dX0_addCrab_65 (n := 68) rfl ?_
    refine g_iconst C (1 : Int32) dX0_addCrab_68 (by decide) (n := 69) rfl ?_
    refine g_iadd C dX0_addCrab_69 (n := 70) rfl ?_
    refine g_putI C kc_1 ft_1_4 ho0 (by decide) (by decide) rfl (fitI _) wm_172 dX0_addCrab_70 (n := 73) rfl hk (fun h8 hk => ?_)
    refine g_aload_n C 1 dX0_addCrab_73 rfl rfl (n := 74) rfl ?_
    refine g_aload_n C 1 dX0_addCrab_74 rfl rfl (n := 75) rfl ?_
    refine g_getI C kc_1 ft_1_4 ho0 (by decide) (by decide) wm_172 dX0_addCrab_75 (n := 78) rfl ?_
    refine g_putI C kc_1 ft_1_10 ho0 (by decide) (by decide) rfl (fitI _) wm_188 dX0_addCrab_78 (n := 81) rfl hk (fun h9 hk => ?_)
    exact retV hk.out dX0_addCrab_81
def f_X8_takeHole  (h : Mem) : Option (Bool × Mem) := ob2 (f_X8_takeNumber (0 : Int32) (7 : Int32) h) (fun r1 h2 => (if r1 = true then bnd (h2 16 9 0 0) (fun x3 => gd (inb x3 8) ((if (h2 2 0 2 x3.toNatClampNeg) = 0 then ob2 (f_X8_takeNumber (1 : Int32) (9 : Int32) h2) (fun r4 h5 => (if r4 = true then gd (inb x3 8) (bnd (up h5 2 0 2 x3.toNatClampNeg (h5 16 9 0 0)) (fun h6 => ob2 (f_X8_takeToken h6) (fun r7 h8 => (if r7 = true then ob2 (f_X8_endsLine h8) (fun r9 h10 => (if r9 = true then some (true, h10) else some (false, h10))) else some (false, h8))))) else some (false, h5))) else ob2 (f_X8_refuse (4 : Int32) (h2 16 7 0 0) h2) (fun r11 h12 => some (r11, h12))))) else some (false, h2)))
def rm_X8_takeHole : Room := { frames := 3, cells := 0, slots := 0, locals := 66 }
set_option maxHeartbeats 4000000 in
set_option maxRecDepth 100000 in
theorem L_X8_takeHole (Θ : Tht)  (h : Mem) (K : Bool × Mem → Prop) (hk : Ok (f_X8_takeHole  h) K) : CB Θ yX8_takeHole cX8_takeHole 2 (some .boolean) rm_X8_takeHole [.ref (rr Θ 16 0 0)] h K := by
  refine CB.of K [(0, .ref (rr Θ 16 0 0))] (plainFor_of_name (by decide)) (Nat.le_of_ble_eq_true rfl) rfl (fun Γ C Rt => ?_)
  replace hk := rtB Rt hk
  unfold f_X8_takeHole at hk
  refine g_aload_n C 0 dX8_takeHole_0 rfl rfl (n := 1) rfl ?_
  refine g_iconst C (0 : Int32) dX8_takeHole_1 (by decide) (n := 2) rfl ?_
  refine g_bipush C (7 : Int32) dX8_takeHole_2 (by decide) (n := 4) rfl ?_
  refine g_cVB C hk (fun K hk => L_X8_takeNumber Θ (0 : Int32) (7 : Int32) h K hk) lk_X8_97 kc_16 (by decide) (by decide) ⟨rfl, rfl⟩ ⟨Nat.le_of_ble_eq_true rfl, Nat.le_of_ble_eq_true rfl⟩ dX8_takeHole_4 rfl rfl (Nat.le_of_ble_eq_true rfl) (n := 7) rfl (fun r1 h2 hk => ?_)
  refine g_bt C 12 dX8_takeHole_7 (by decide) (n := 10) rfl hk (fun hk => ?_) (fun hk => ?_)
  · refine g_aload_n C 0 dX8_takeHole_12 rfl rfl (n := 13) rfl ?_
    refine g_getI C kc_16 ft_16_9 (by decide) (by decide) (by decide) wm_296 dX8_takeHole_13 (n := 16) rfl ?_
    refine g_nm hk (fun x3 hk => ?_)
    refine g_istore_n C [(1, .int x3), (0, .ref (rr Θ 16 0 0))] dX8_takeHole_16 rfl (by decide) rfl (n := 17) rfl ?_
    refine g_aload_n C 1 dX8_takeHole_17 rfl rfl (n := 18) rfl ?_
    refine g_getR C kc_16 (rt_16_1 (tB Θ) 0) (by decide) (by decide) (by decide) wm_285 dX8_takeHole_18 (n := 21) rfl ?_
    refine g_getR C kc_1 (rt_1_1 (tB Θ) 2) (by decide) (by decide) (by decide) wm_163 dX8_takeHole_21 (n := 24) rfl ?_
    refine g_iload_n C 0 dX8_takeHole_24 rfl rfl (n := 25) rfl ?_
    refine g_iald C an_2 (by decide) dX8_takeHole_25 (n := 26) rfl hk (fun _ hk => ?_)
    refine g_if_eq C 39 dX8_takeHole_26 (by decide) (n := 29) rfl hk (fun hk => ?_) (fun hk => ?_)
    · refine g_aload_n C 1 dX8_takeHole_39 rfl rfl (n := 40) rfl ?_
      refine g_iconst C (1 : Int32) dX8_takeHole_40 (by decide) (n := 41) rfl ?_
      refine g_bipush C (9 : Int32) dX8_takeHole_41 (by decide) (n := 43) rfl ?_
      refine g_cVB C hk (fun K hk => L_X8_takeNumber Θ (1 : Int32) (9 : Int32) h2 K hk) lk_X8_97 kc_16 (by decide) (by decide) ⟨rfl, rfl⟩ ⟨Nat.le_of_ble_eq_true rfl, Nat.le_of_ble_eq_true rfl⟩ dX8_takeHole_43 rfl rfl (Nat.le_of_ble_eq_true rfl) (n := 46) rfl (fun r4 h5 hk => ?_)
      refine g_bt C 51 dX8_takeHole_46 (by decide) (n := 49) rfl hk (fun hk => ?_) (fun hk => ?_)
      · refine g_aload_n C 1 dX8_takeHole_51 rfl rfl (n := 52) rfl ?_
        refine g_getR C kc_16 (rt_16_1 (tB Θ) 0) (by decide) (by decide) (by decide) wm_285 dX8_takeHole_52 (n := 55) rfl ?_
        refine g_getR C kc_1 (rt_1_1 (tB Θ) 2) (by decide) (by decide) (by decide) wm_163 dX8_takeHole_55 (n := 58) rfl ?_
        refine g_iload_n C 0 dX8_takeHole_58 rfl rfl (n := 59) rfl ?_
        refine g_aload_n C 1 dX8_takeHole_59 rfl rfl (n := 60) rfl ?_
        refine g_getI C kc_16 ft_16_9 (by decide) (by decide) (by decide) wm_296 dX8_takeHole_60 (n := 63) rfl ?_
        refine g_iast C an_2 (by decide) dX8_takeHole_63 (n := 64) rfl hk (fun _ h6 hk => ?_)
        refine g_aload_n C 1 dX8_takeHole_64 rfl rfl (n := 65) rfl ?_
        refine g_cVB C hk (fun K hk => L_X8_takeToken Θ h6 K hk) lk_X8_45 kc_16 (by decide) (by decide) ⟨rfl, rfl⟩ ⟨Nat.le_of_ble_eq_true rfl, Nat.le_of_ble_eq_true rfl⟩ dX8_takeHole_65 rfl rfl (Nat.le_of_ble_eq_true rfl) (n := 68) rfl (fun r7 h8 hk => ?_)
        refine g_bf C 82 dX8_takeHole_68 (by decide) (n := 71) rfl hk (fun hk => ?_) (fun hk => ?_)
        · refine g_iconst C (0 : Int32) dX8_takeHole_82 (by decide) (n := 83) rfl ?_
          exact retB false rfl hk.out dX8_takeHole_83
        · refine g_aload_n C 1 dX8_takeHole_71 rfl rfl (n := 72) rfl ?_
          refine g_cVB C hk (fun K hk => L_X8_endsLine Θ h8 K hk) lk_X8_105 kc_16 (by decide) (by decide) ⟨rfl, rfl⟩ ⟨Nat.le_of_ble_eq_true rfl, Nat.le_of_ble_eq_true rfl⟩ dX8_takeHole_72 rfl rfl (Nat.le_of_ble_eq_true rfl) (n := 75) rfl (fun r9 h10 hk => ?_)
          refine g_bf C 82 dX8_takeHole_75 (by decide) (n := 78) rfl hk (fun hk => ?_) (fun hk => ?_)
          · refine g_iconst C (0 : Int32) dX8_takeHole_82 (by decide) (n := 83) rfl ?_
            exact retB false rfl hk.out dX8_takeHole_83
          · refine g_iconst C (1 : Int32) dX8_takeHole_78 (by decide) (n := 79) rfl ?_
            refine g_goto C 83 dX8_takeHole_79 (by decide) ?_
            exact retB true rfl hk.out dX8_takeHole_83
      · refine g_iconst C (0 : Int32) dX8_takeHole_49 (by decide) (n := 50) rfl ?_
        exact retB false rfl hk.out dX8_takeHole_50
    · refine g_aload_n C 1 dX8_takeHole_29 rfl rfl (n := 30) rfl ?_
      refine g_iconst C (4 : Int32) dX8_takeHole_30 (by decide) (n := 31) rfl ?_
      refine g_aload_n C 1 dX8_takeHole_31 rfl rfl (n := 32) rfl ?_
      refine g_getI C kc_16 ft_16_7 (by decide) (by decide) (by decide) wm_294 dX8_takeHole_32 (n := 35) rfl ?_
      refine g_cVB C hk (fun K hk => L_X8_refuse Θ (4 : Int32) (h2 16 7 0 0) h2 K hk) lk_X8_61 kc_16 (by decide) (by decide) ⟨rfl, rfl⟩ ⟨Nat.le_of_ble_eq_true rfl, Nat.le_of_ble_eq_true rfl⟩ dX8_takeHole_35 rfl rfl (Nat.le_of_ble_eq_true rfl) (n := 38) rfl (fun r11 h12 hk => ?_)
      exact retB r11 rfl hk.out dX8_takeHole_38
  · refine g_iconst C (0 : Int32) dX8_takeHole_10 (by decide) (n := 11) rfl ?_
    exact retB false rfl hk.out dX8_takeHole_11
def f_X8_takePlaces  (h : Mem) : Option (Bool × Mem) := (if (h 16 4 0 0) = 0 then bnd (up h 16 4 0 0 (1 : Int32)) (fun h1 => ob2 (f_X8_takeNumber (2 : Int32) (8 : Int32) h1) (fun r2 h3 => (if r2 = true then bnd (up h3 1 0 2 0 (h3 16 9 0 0)) (fun h4 => ob2 (f_X8_takeToken h4) (fun r5 h6 => (if r5 = true then ob2 (f_X8_endsLine h6) (fun r7 h8 => (if r7 = true then some (true, h8) else some (false, h8))) else some (false, h6)))) else some (false, h3)))) else ob2 (f_X8_refuse (4 : Int32) (h 16 7 0 0) h) (fun r9 h10 => some (r9, h10)))
def rm_X8_takePlaces : Room := { frames := 3, cells := 0, slots := 0, locals := 66 }
set_option maxHeartbeats 4000000 in
set_option maxRecDepth 100000 in
theorem L_X8_takePlaces (Θ : Tht)  (h : Mem) (K : Bool × Mem → Prop) (hk : Ok (f_X8_takePlaces  h) K) : CB Θ yX8_takePlaces cX8_takePlaces 1 (some .boolean) rm_X8_takePlaces [.ref (rr Θ 16 0 0)] h K := by
  refine CB.of K [(0, .ref (rr Θ 16 0 0))] (plainFor_of_name (by decide)) (Nat.le_of_ble_eq_true rfl) rfl (fun Γ C Rt => ?_)
  replace hk := rtB Rt hk
  unfold f_X8_takePlaces at hk
  refine g_aload_n C 0 dX8_takePlaces_0 rfl rfl (n := 1) rfl ?_
  refine g_getI C kc_16 ft_16_4 (by decide) (by decide) (by decide) wm_291 dX8_takePlaces_1 (n := 4) rfl ?_
  refine g_if_eq C 17 dX8_takePlaces_4 (by decide) (n := 7) rfl hk (fun hk => ?_) (fun hk => ?_)
  · refine g_aload_n C 0 dX8_takePlaces_17 rfl rfl (n := 18) rfl ?_
    refine g_iconst C (1 : Int32) dX8_takePlaces_18 (by decide) (n := 19) rfl ?_
    refine g_putI C kc_16 ft_16_4 (by decide) (by decide) (by decide) rfl (fitZ (Or.inr rfl)) wm_291 dX8_takePlaces_19 (n := 22) rfl hk (fun h1 hk => ?_)
    refine g_aload_n C 0 dX8_takePlaces_22 rfl rfl (n := 23) rfl ?_
    refine g_iconst C (2 : Int32) dX8_takePlaces_23 (by decide) (n := 24) rfl ?_
    refine g_bipush C (8 : Int32) dX8_takePlaces_24 (by decide) (n := 26) rfl ?_
    refine g_cVB C hk (fun K hk => L_X8_takeNumber Θ (2 : Int32) (8 : Int32) h1 K hk) lk_X8_97 kc_16 (by decide) (by decide) ⟨rfl, rfl⟩ ⟨Nat.le_of_ble_eq_true rfl, Nat.le_of_ble_eq_true rfl⟩ dX8_takePlaces_26 rfl rfl (Nat.le_of_ble_eq_true rfl) (n := 29) rfl (fun r2 h3 hk => ?_)
    refine g_bt C 34 dX8_takePlaces_29 (by decide) (n := 32) rfl hk (fun hk => ?_) (fun hk => ?_)
    · refine g_aload_n C 0 dX8_takePlaces_34 rfl rfl (n := 35) rfl ?_
      refine g_getR C kc_16 (rt_16_1 (tB Θ) 0) (by decide) (by decide) (by decide) wm_285 dX8_takePlaces_35 (n := 38) rfl ?_
      refine g_aload_n C 0 dX8_takePlaces_38 rfl rfl (n := 39) rfl ?_
      refine g_getI C kc_16 ft_16_9 (by decide) (by decide) (by decide) wm_296 dX8_takePlaces_39 (n := 42) rfl ?_
      refine g_putI C kc_1 ft_1_0 (by decide) (by decide) (by decide) rfl (fitI _) wm_160 dX8_takePlaces_42 (n := 45) rfl hk (fun h4 hk => ?_)
      refine g_aload_n C 0 dX8_takePlaces_45 rfl rfl (n := 46) rfl ?_
      refine g_cVB C hk (fun K hk => L_X8_takeToken Θ h4 K hk) lk_X8_45 kc_16 (by decide) (by decide) ⟨rfl, rfl⟩ ⟨Nat.le_of_ble_eq_true rfl, Nat.le_of_ble_eq_true rfl⟩ dX8_takePlaces_46 rfl rfl (Nat.le_of_ble_eq_true rfl) (n := 49) rfl (fun r5 h6 hk => ?_)
      refine g_bf C 63 dX8_takePlaces_49 (by decide) (n := 52) rfl hk (fun hk => ?_) (fun hk => ?_)
      · refine g_iconst C (0 : Int32) dX8_takePlaces_63 (by decide) (n := 64) rfl ?_
        exact retB false rfl hk.out dX8_takePlaces_64
      · refine g_aload_n C 0 dX8_takePlaces_52 rfl rfl (n := 53) rfl ?_
        refine g_cVB C hk (fun K hk => L_X8_endsLine Θ h6 K hk) lk_X8_105 kc_16 (by decide) (by decide) ⟨rfl, rfl⟩ ⟨Nat.le_of_ble_eq_true rfl, Nat.le_of_ble_eq_true rfl⟩ dX8_takePlaces_53 rfl rfl (Nat.le_of_ble_eq_true rfl) (n := 56) rfl (fun r7 h8 hk => ?_)
        refine g_bf C 63 dX8_takePlaces_56 (by decide) (n := 59) rfl hk (fun hk => ?_) (fun hk => ?_)
        · refine g_iconst C (0 : Int32) dX8_takePlaces_63 (by decide) (n := 64) rfl ?_
          exact retB false rfl hk.out dX8_takePlaces_64
        · refine g_iconst C (1 : Int32) dX8_takePlaces_59 (by decide) (n := 60) rfl ?_
          refine g_goto C 64 dX8_takePlaces_60 (by decide) ?_
          exact retB true rfl hk.out dX8_takePlaces_64
    · refine g_iconst C (0 : Int32) dX8_takePlaces_32 (by decide) (n := 33) rfl ?_
      exact retB false rfl hk.out dX8_takePlaces_33
  · refine g_aload_n C 0 dX8_takePlaces_7 rfl rfl (n := 8) rfl ?_
    refine g_iconst C (4 : Int32) dX8_takePlaces_8 (by decide) (n := 9) rfl ?_
    refine g_aload_n C 0 dX8_takePlaces_9 rfl rfl (n := 10) rfl ?_
    refine g_getI C kc_16 ft_16_7 (by decide) (by decide) (by decide) wm_294 dX8_takePlaces_10 (n := 13) rfl ?_
    refine g_cVB C hk (fun K hk => L_X8_refuse Θ (4 : Int32) (h 16 7 0 0) h K hk) lk_X8_61 kc_16 (by decide) (by decide) ⟨rfl, rfl⟩ ⟨Nat.le_of_ble_eq_true rfl, Nat.le_of_ble_eq_true rfl⟩ dX8_takePlaces_13 rfl rfl (Nat.le_of_ble_eq_true rfl) (n := 16) rfl (fun r9 h10 hk => ?_)
    exact retB r9 rfl hk.out dX8_takePlaces_16
def f_X8_takeTide  (h : Mem) : Option (Bool × Mem) := (if (h 16 5 0 0) = 0 then bnd (up h 16 5 0 0 (1 : Int32)) (fun h1 => ob2 (f_X8_takeNumber (1 : Int32) (9 : Int32) h1) (fun r2 h3 => (if r2 = true then bnd (up h3 1 6 2 0 (h3 16 9 0 0)) (fun h4 => ob2 (f_X8_takeNumber (0 : Int32) (8 : Int32) h4) (fun r5 h6 => (if r5 = true then bnd (up h6 1 7 2 0 (h6 16 9 0 0)) (fun h7 => ob2 (f_X8_takeToken h7) (fun r8 h9 => (if r8 = true then ob2 (f_X8_endsLine h9) (fun r10 h11 => (if r10 = true then some (true, h11) else some (false, h11))) else some (false, h9)))) else some (false, h6)))) else some (false, h3)))) else ob2 (f_X8_refuse (4 : Int32) (h 16 7 0 0) h) (fun r12 h13 => some (r12, h13)))
def rm_X8_takeTide : Room := { frames := 3, cells := 0, slots := 0, locals := 66 }
set_option maxHeartbeats 4000000 in
set_option maxRecDepth 100000 in
theorem L_X8_takeTide (Θ : Tht)  (h : Mem) (K : Bool × Mem → Prop) (hk : Ok (f_X8_takeTide  h) K) : CB Θ yX8_takeTide cX8_takeTide 1 (some .boolean) rm_X8_takeTide [.ref (rr Θ 16 0 0)] h K := by
  refine CB.of K [(0, .ref (rr Θ 16 0 0))] (plainFor_of_name (by decide)) (Nat.le_of_ble_eq_true rfl) rfl (fun Γ C Rt => ?_)
  replace hk := rtB Rt hk
  unfold f_X8_takeTide at hk
  refine g_aload_n C 0 dX8_takeTide_0 rfl rfl (n := 1) rfl ?_
  refine g_getI C kc_16 ft_16_5 (by decide) (by decide) (by decide) wm_292 dX8_takeTide_1 (n := 4) rfl ?_
  refine g_if_eq C 17 dX8_takeTide_4 (by decide) (n := 7) rfl hk (fun hk => ?_) (fun hk => ?_)
  · refine g_aload_n C 0 dX8_takeTide_17 rfl rfl (n := 18) rfl ?_
    refine g_iconst C (1 : Int32) dX8_takeTide_18 (by decide) (n := 19) rfl ?_
    refine g_putI C kc_16 ft_16_5 (by decide) (by decide) (by decide) rfl (fitZ (Or.inr rfl)) wm_292 dX8_takeTide_19 (n := 22) rfl hk (fun h1 hk => ?_)
    refine g_aload_n C 0 dX8_takeTide_22 rfl rfl (n := 23) rfl ?_
    refine g_iconst C (1 : Int32) dX8_takeTide_23 (by decide) (n := 24) rfl ?_
    refine g_bipush C (9 : Int32) dX8_takeTide_24 (by decide) (n := 26) rfl ?_
    refine g_cVB C hk (fun K hk => L_X8_takeNumber Θ (1 : Int32) (9 : Int32) h1 K hk) lk_X8_97 kc_16 (by decide) (by decide) ⟨rfl, rfl⟩ ⟨Nat.le_of_ble_eq_true rfl, Nat.le_of_ble_eq_true rfl⟩ dX8_takeTide_26 rfl rfl (Nat.le_of_ble_eq_true rfl) (n := 29) rfl (fun r2 h3 hk => ?_)
    refine g_bt C 34 dX8_takeTide_29 (by decide) (n := 32) rfl hk (fun hk => ?_) (fun hk => ?_)
    · refine g_aload_n C 0 dX8_takeTide_34 rfl rfl (n := 35) rfl ?_
      refine g_getR C kc_16 (rt_16_1 (tB Θ) 0) (by decide) (by decide) (by decide) wm_285 dX8_takeTide_35 (n := 38) rfl ?_
      refine g_aload_n C 0 dX8_takeTide_38 rfl rfl (n := 39) rfl ?_
      refine g_getI C kc_16 ft_16_9 (by decide) (by decide) (by decide) wm_296 dX8_takeTide_39 (n := 42) rfl ?_
      refine g_putI C kc_1 ft_1_6 (by decide) (by decide) (by decide) rfl (fitI _) wm_180 dX8_takeTide_42 (n := 45) rfl hk (fun h4 hk => ?_)
      refine g_aload_n C 0 dX8_takeTide_45 rfl rfl (n := 46) rfl ?_
      refine g_iconst C (0 : Int32) dX8_takeTide_46 (by decide) (n := 47) rfl ?_
      refine g_bipush C (8 : Int32) dX8_takeTide_47 (by decide) (n := 49) rfl ?_
      refine g_cVB C hk (fun K hk => L_X8_takeNumber Θ (0 : Int32) (8 : Int32) h4 K hk) lk_X8_97 kc_16 (by decide) (by decide) ⟨rfl, rfl⟩ ⟨Nat.le_of_ble_eq_true rfl, Nat.le_of_ble_eq_true rfl⟩ dX8_takeTide_49 rfl rfl (Nat.le_of_ble_eq_true rfl) (n := 52) rfl (fun r5 h6 hk => ?_)
      refine g_bt C 57 dX8_takeTide_52 (by decide) (n := 55) rfl hk (fun hk => ?_) (fun hk => ?_)
      · refine g_aload_n C 0 dX8_takeTide_57 rfl rfl (n := 58) rfl ?_
        refine g_getR C kc_16 (rt_16_1 (tB Θ) 0) (by decide) (by decide) (by decide) wm_285 dX8_takeTide_58 (n := 61) rfl ?_
        refine g_aload_n C 0 dX8_takeTide_61 rfl rfl (n := 62) rfl ?_
        refine g_getI C kc_16 ft_16_9 (by decide) (by decide) (by decide) wm_296 dX8_takeTide_62 (n := 65) rfl ?_
        refine g_putI C kc_1 ft_1_7 (by decide) (by decide) (by decide) rfl (fitI _) wm_183 dX8_takeTide_65 (n := 68) rfl hk (fun h7 hk => ?_)
        refine g_aload_n C 0 dX8_takeTide_68 rfl rfl (n := 69) rfl ?_
        refine g_cVB C hk (fun K hk => L_X8_takeToken Θ h7 K hk) lk_X8_45 kc_16 (by decide) (by decide) ⟨rfl, rfl⟩ ⟨Nat.le_of_ble_eq_true rfl, Nat.le_of_ble_eq_true rfl⟩ dX8_takeTide_69 rfl rfl (Nat.le_of_ble_eq_true rfl) (n := 72) rfl (fun r8 h9 hk => ?_)
        refine g_bf C 86 dX8_takeTide_72 (by decide) (n := 75) rfl hk (fun hk => ?_) (fun hk => ?_)
        · refine g_iconst C (0 : Int32) dX8_takeTide_86 (by decide) (n := 87) rfl ?_
          exact retB false rfl hk.out dX8_takeTide_87
        · refine g_aload_n C 0 dX8_takeTide_75 rfl rfl (n := 76) rfl ?_
          refine g_cVB C hk (fun K hk => L_X8_endsLine Θ h9 K hk) lk_X8_105 kc_16 (by decide) (by decide) ⟨rfl, rfl⟩ ⟨Nat.le_of_ble_eq_true rfl, Nat.le_of_ble_eq_true rfl⟩ dX8_takeTide_76 rfl rfl (Nat.le_of_ble_eq_true rfl) (n := 79) rfl (fun r10 h11 hk => ?_)
          refine g_bf C 86 dX8_takeTide_79 (by decide) (n := 82) rfl hk (fun hk => ?_) (fun hk => ?_)
          · refine g_iconst C (0 : Int32) dX8_takeTide_86 (by decide) (n := 87) rfl ?_
            exact retB false rfl hk.out dX8_takeTide_87
          · refine g_iconst C (1 : Int32) dX8_takeTide_82 (by decide) (n := 83) rfl ?_
            refine g_goto C 87 dX8_takeTide_83 (by decide) ?_
            exact retB true rfl hk.out dX8_takeTide_87
      · refine g_iconst C (0 : Int32) dX8_takeTide_55 (by decide) (n := 56) rfl ?_
        exact retB false rfl hk.out dX8_takeTide_56
    · refine g_iconst C (0 : Int32) dX8_takeTide_32 (by decide) (n := 33) rfl ?_
      exact retB false rfl hk.out dX8_takeTide_33
  · refine g_aload_n C 0 dX8_takeTide_7 rfl rfl (n := 8) rfl ?_
    refine g_iconst C (4 : Int32) dX8_takeTide_8 (by decide) (n := 9) rfl ?_
    refine g_aload_n C 0 dX8_takeTide_9 rfl rfl (n := 10) rfl ?_
    refine g_getI C kc_16 ft_16_7 (by decide) (by decide) (by decide) wm_294 dX8_takeTide_10 (n := 13) rfl ?_
    refine g_cVB C hk (fun K hk => L_X8_refuse Θ (4 : Int32) (h 16 7 0 0) h K hk) lk_X8_61 kc_16 (by decide) (by decide) ⟨rfl, rfl⟩ ⟨Nat.le_of_ble_eq_true rfl, Nat.le_of_ble_eq_true rfl⟩ dX8_takeTide_13 rfl rfl (Nat.le_of_ble_eq_true rfl) (n := 16) rfl (fun r12 h13 hk => ?_)
    exact retB r12 rfl hk.out dX8_takeTide_16
def f_X9_tide (p1 : Int32) (p2 : Int32) (h : Mem) : Option (Int32 × Mem) := obd (f_X9_within p1 (0 : Int32) (9 : Int32) h) (fun r1 => (if r1 = true then obd (f_X9_within p2 (0 : Int32) (8 : Int32) h) (fun r2 => (if r2 = true then bnd (h 1 6 0 0) (fun x3 => bnd (up h 1 6 0 0 p1) (fun h4 => bnd (up h4 1 7 0 0 p2) (fun h5 => some (x3, h5)))) else some ((-1 : Int32), h))) else some ((-1 : Int32), h)))
def rm_X9_tide : Room := { frames := 1, cells := 0, slots := 0, locals := 22 }
set_option maxHeartbeats 4000000 in
set_option maxRecDepth 100000 in
theorem L_X9_tide (Θ : Tht) (p1 : Int32) (p2 : Int32) (h : Mem) (K : Int32 × Mem → Prop) (hk : Ok (f_X9_tide p1 p2 h) K) : CI Θ yX9_tide cX9_tide 4 (some .int) rm_X9_tide [.ref (rr Θ 0 0 0), .int p1, .int p2] h K := by
  refine CI.of K [(0, .ref (rr Θ 0 0 0)), (1, .int p1), (2, .int p2)] (plainFor_of_name (by decide)) (Nat.le_of_ble_eq_true rfl) rfl (fun Γ C Rt => ?_)
  replace hk := rtI Rt hk
  unfold f_X9_tide at hk
  refine g_iload_n C 1 dX9_tide_0 rfl rfl (n := 1) rfl ?_
  refine g_iconst C (0 : Int32) dX9_tide_1 (by decide) (n := 2) rfl ?_
  refine g_bipush C (9 : Int32) dX9_tide_2 (by decide) (n := 4) rfl ?_
  refine g_cSBp C hk (fun K hk => L_X9_within Θ p1 (0 : Int32) (9 : Int32) h K hk) lk_X9_69 ⟨rfl, rfl⟩ ⟨Nat.le_of_ble_eq_true rfl, Nat.le_of_ble_eq_true rfl⟩ dX9_tide_4 rfl rfl (Nat.le_of_ble_eq_true rfl) (n := 7) rfl (fun r1 hk => ?_)
  refine g_bf C 20 dX9_tide_7 (by decide) (n := 10) rfl hk (fun hk => ?_) (fun hk => ?_)
  · refine g_iconst C (-1 : Int32) dX9_tide_20 (by decide) (n := 21) rfl ?_
    exact retI hk.out dX9_tide_21
  · refine g_iload_n C 2 dX9_tide_10 rfl rfl (n := 11) rfl ?_
    refine g_iconst C (0 : Int32) dX9_tide_11 (by decide) (n := 12) rfl ?_
    refine g_bipush C (8 : Int32) dX9_tide_12 (by decide) (n := 14) rfl ?_
    refine g_cSBp C hk (fun K hk => L_X9_within Θ p2 (0 : Int32) (8 : Int32) h K hk) lk_X9_69 ⟨rfl, rfl⟩ ⟨Nat.le_of_ble_eq_true rfl, Nat.le_of_ble_eq_true rfl⟩ dX9_tide_14 rfl rfl (Nat.le_of_ble_eq_true rfl) (n := 17) rfl (fun r2 hk => ?_)
    refine g_bt C 22 dX9_tide_17 (by decide) (n := 20) rfl hk (fun hk => ?_) (fun hk => ?_)
    · refine g_aload_n C 0 dX9_tide_22 rfl rfl (n := 23) rfl ?_
      refine g_getR C kc_0 (rt_0_0 (tB Θ) 0) (by decide) (by decide) (by decide) wm_362 dX9_tide_23 (n := 26) rfl ?_
      refine g_getI C kc_1 ft_1_6 (by decide) (by decide) (by decide) wm_179 dX9_tide_26 (n := 29) rfl ?_
      refine g_nm hk (fun x3 hk => ?_)
      refine g_istore_n C [(3, .int x3), (0, .ref (rr Θ 0 0 0)), (1, .int p1), (2, .int p2)] dX9_tide_29 rfl (by decide) rfl (n := 30) rfl ?_
      refine g_aload_n C 1 dX9_tide_30 rfl rfl (n := 31) rfl ?_
      refine g_getR C kc_0 (rt_0_0 (tB Θ) 0) (by decide) (by decide) (by decide) wm_362 dX9_tide_31 (n := 34) rfl ?_
      refine g_iload_n C 2 dX9_tide_34 rfl rfl (n := 35) rfl ?_
      refine g_putI C kc_1 ft_1_6 (by decide) (by decide) (by decide) rfl (fitI _) wm_179 dX9_tide_35 (n := 38) rfl hk (fun h4 hk => ?_)
      refine g_aload_n C 1 dX9_tide_38 rfl rfl (n := 39) rfl ?_
      refine g_getR C kc_0 (rt_0_0 (tB Θ) 0) (by decide) (by decide) (by decide) wm_362 dX9_tide_39 (n := 42) rfl ?_
      refine g_iload_n C 3 dX9_tide_42 rfl rfl (n := 43) rfl ?_
      refine g_putI C kc_1 ft_1_7 (by decide) (by decide) (by decide) rfl (fitI _) wm_182 dX9_tide_43 (n := 46) rfl hk (fun h5 hk => ?_)
      refine g_iload_n C 0 dX9_tide_46 rfl rfl (n := 47) rfl ?_
      exact retI hk.out dX9_tide_47
    · refine g_iconst C (-1 : Int32) dX9_tide_20 (by decide) (n := 21) rfl ?_
      exact retI hk.out dX9_tide_21
def f_X9_torn  (h : Mem) : Option (Int32) := some (h 0 8 0 0)
def rm_X9_torn : Room := { frames := 0, cells := 0, slots := 0, locals := 0 }
set_option maxHeartbeats 4000000 in
set_option maxRecDepth 100000 in
theorem L_X9_torn (Θ : Tht)  (h : Mem) (K : Int32 × Mem → Prop) (hk : Ok (f_X9_torn  h) (fun r => K (r, h))) : CI Θ yX9_torn cX9_torn 1 (some .int) rm_X9_torn [.ref (rr Θ 0 0 0)] h K := by
  refine CI.of K [(0, .ref (rr Θ 0 0 0))] (plainFor_of_name (by decide)) (Nat.le_of_ble_eq_true rfl) rfl (fun Γ C Rt => ?_)
  replace hk := rtIp Rt hk
  unfold f_X9_torn at hk
  refine g_aload_n C 0 dX9_torn_0 rfl rfl (n := 1) rfl ?_
  refine g_getI C kc_0 ft_0_8 (by decide) (by decide) (by decide) wm_370 dX9_torn_1 (n := 4) rfl ?_
  exact retI hk.out dX9_torn_4
def f_X9_weeks  (h : Mem) : Option (Int32 × Mem) := obd (lp fu (fun a17 => (if (8 : Int32) < a17.2.1 then some (.inr (a17.1, a17.2.2)) else obd (f_X0_copyFrom 1 0 a17.2.2) (fun h18 => obd (f_X0_growWeeks 1 a17.2.1 h18) (fun h19 => ob2 (f_X0_stepsUntilSorted 1 (40 : Int32) h19) (fun r20 h21 => (if r20 = (-4 : Int32) then bnd (a17.2.1 + (1 : Int32)) (fun x22 => some (.inl (a17.1, x22, h21))) else bnd (a17.1 ||| ((1 : Int32) <<< (a17.2.1 &&& (31 : Int32)))) (fun x23 => bnd (a17.2.1 + (1 : Int32)) (fun x24 => some (.inl (x23, x24, h21)))))))))) ((0 : Int32), (0 : Int32), h)) (fun e25 => some (e25.1, e25.2))
def rm_X9_weeks : Room := { frames := 5, cells := 0, slots := 0, locals := 110 }
set_option maxHeartbeats 4000000 in
set_option maxRecDepth 100000 in
theorem L_X9_weeks (Θ : Tht)  (h : Mem) (K : Int32 × Mem → Prop) (hk : Ok (f_X9_weeks  h) K) : CI Θ yX9_weeks cX9_weeks 3 (some .int) rm_X9_weeks [.ref (rr Θ 0 0 0)] h K := by
  refine CI.of K [(0, .ref (rr Θ 0 0 0))] (plainFor_of_name (by decide)) (Nat.le_of_ble_eq_true rfl) rfl (fun Γ C Rt => ?_)
  replace hk := rtI Rt hk
  unfold f_X9_weeks at hk
  refine g_iconst C (0 : Int32) dX9_weeks_0 (by decide) (n := 1) rfl ?_
  refine g_istore_n C [(1, .int (0 : Int32)), (0, .ref (rr Θ 0 0 0))] dX9_weeks_1 rfl (by decide) rfl (n := 2) rfl ?_
  refine g_iconst C (0 : Int32) dX9_weeks_2 (by decide) (n := 3) rfl ?_
  refine g_istore_n C [(2, .int (0 : Int32)), (1, .int (0 : Int32)), (0, .ref (rr Θ 0 0 0))] dX9_weeks_3 rfl (by decide) rfl (n := 4) rfl ?_
  refine g_lv [2, 1, 0] [(0, .ref (rr Θ 0 0 0)), (1, .int (0 : Int32)), (2, .int (0 : Int32))] rfl ?_
  refine Ok.join hk (fun e25 => G Θ Γ 55 [(1, .int e25.1)] [] e25.2) (fun e25 hk => ?_) (fun hk => ?_)
  · refine g_iload_n C 0 dX9_weeks_55 rfl rfl (n := 56) rfl ?_
    exact retI hk.out dX9_weeks_56
  · refine Ok.loop (fun a17 => G Θ Γ 4 [(0, .ref (rr Θ 0 0 0)), (1, .int a17.1), (2, .int a17.2.1)] [] a17.2.2) (fun a17 hk => ?_) _ _ hk
    refine g_iload_n C 2 dX9_weeks_4 rfl rfl (n := 5) rfl ?_
    refine g_bipush C (8 : Int32) dX9_weeks_5 (by decide) (n := 7) rfl ?_
    refine g_ic_gt C 55 dX9_weeks_7 (by decide) (n := 10) rfl hk (fun hk => ?_) (fun hk => ?_)
    · refine g_lv [1] [(1, .int a17.1)] rfl ?_
      exact hk.out
    · refine g_aload_n C 0 dX9_weeks_10 rfl rfl (n := 11) rfl ?_
      refine g_getR C kc_0 (rt_0_1 (tB Θ) 0) (by decide) (by decide) (by decide) wm_363 dX9_weeks_11 (n := 14) rfl ?_
      refine g_aload_n C 0 dX9_weeks_14 rfl rfl (n := 15) rfl ?_
      refine g_getR C kc_0 (rt_0_0 (tB Θ) 0) (by decide) (by decide) (by decide) wm_362 dX9_weeks_15 (n := 18) rfl ?_
      refine g_cVV C hk (fun K hk => L_X0_copyFrom Θ 1 (by decide) 0 (by decide) a17.2.2 K hk) lk_X9_86 kc_1 (by decide) (by decide) ⟨rfl, rfl⟩ ⟨Nat.le_of_ble_eq_true rfl, Nat.le_of_ble_eq_true rfl⟩ dX9_weeks_18 rfl rfl (Nat.le_of_ble_eq_true rfl) (n := 21) rfl (fun h18 hk => ?_)
      refine g_aload_n C 0 dX9_weeks_21 rfl rfl (n := 22) rfl ?_
      refine g_getR C kc_0 (rt_0_1 (tB Θ) 0) (by decide) (by decide) (by decide) wm_363 dX9_weeks_22 (n := 25) rfl ?_
      refine g_iload_n C 2 dX9_weeks_25 rfl rfl (n := 26) rfl ?_
      refine g_cVV C hk (fun K hk => L_X0_growWeeks Θ 1 (by decide) a17.2.1 h18 K hk) lk_X9_195 kc_1 (by decide) (by decide) ⟨rfl, rfl⟩ ⟨Nat.le_of_ble_eq_true rfl, Nat.le_of_ble_eq_true rfl⟩ dX9_weeks_26 rfl rfl (Nat.le_of_ble_eq_true rfl) (n := 29) rfl (fun h19 hk => ?_)
      refine g_aload_n C 0 dX9_weeks_29 rfl rfl (n := 30) rfl ?_
      refine g_getR C kc_0 (rt_0_1 (tB Θ) 0) (by decide) (by decide) (by decide) wm_363 dX9_weeks_30 (n := 33) rfl ?_
      refine g_bipush C (40 : Int32) dX9_weeks_33 (by decide) (n := 35) rfl ?_
      refine g_cVI C hk (fun K hk => L_X0_stepsUntilSorted Θ 1 (by decide) (40 : Int32) h19 K hk) lk_X9_201 kc_1 (by decide) (by decide) ⟨rfl, rfl⟩ ⟨Nat.le_of_ble_eq_true rfl, Nat.le_of_ble_eq_true rfl⟩ dX9_weeks_35 rfl rfl (Nat.le_of_ble_eq_true rfl) (n := 38) rfl (fun r20 h21 hk => ?_)
      refine g_bipush C (-4 : Int32) dX9_weeks_38 (by decide) (n := 40) rfl ?_
      refine g_ic_eq C 49 dX9_weeks_40 (by decide) (n := 43) rfl hk (fun hk => ?_) (fun hk => ?_)
      · refine g_iinc C 2 (fun x22 => [(2, .int x22), (0, .ref (rr Θ 0 0 0)), (1, .int a17.1)]) dX9_weeks_49 rfl (v := (a17.2.1 + (1 : Int32))) rfl (by decide) (fun _ => rfl) (n := 52) rfl hk (fun x22 hk => ?_)
        refine g_goto C 4 dX9_weeks_52 (by decide) ?_
        refine g_lv [1, 2, 0] [(0, .ref (rr Θ 0 0 0)), (1, .int a17.1), (2, .int x22)] rfl ?_
        exact hk.out
      · refine g_iload_n C 1 dX9_weeks_43 rfl rfl (n := 44) rfl ?_
        refine g_iconst C (1 : Int32) dX9_weeks_44 (by decide) (n := 45) rfl ?_
        refine g_iload_n C 2 dX9_weeks_45 rfl rfl (n := 46) rfl ?_
        refine g_ishl C dX9_weeks_46 (n := 47) rfl ?_
        refine g_ior C dX9_weeks_47 (n := 48) rfl ?_
        refine g_nm hk (fun x23 hk => ?_)
        refine g_istore_n C [(1, .int x23), (0, .ref (rr Θ 0 0 0)), (2, .int a17.2.1)] dX9_weeks_48 rfl (by decide) rfl (n := 49) rfl ?_
        refine g_iinc C 2 (fun x24 => [(2, .int x24), (1, .int x23), (0, .ref (rr Θ 0 0 0))]) dX9_weeks_49 rfl (v := (a17.2.1 + (1 : Int32))) rfl (by decide) (fun _ => rfl) (n := 52) rfl hk (fun x24 hk => ?_)
        refine g_goto C 4 dX9_weeks_52 (by decide) ?_
        refine g_lv [2, 1, 0] [(0, .ref (rr Θ 0 0 0)), (1, .int x23), (2, .int x24)] rfl ?_
        exact hk.out
