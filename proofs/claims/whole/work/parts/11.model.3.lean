def f_X10_isSheet (p1 : Int32) (p2 : Int32) (h : Mem) : Option (Bool) := obd (f_X10_in ((p1).toInt64) (0 : Int64) (3 : Int64) h) (fun r1 => (if r1 = true then obd (f_X10_in ((p2).toInt64) (0 : Int64) (2 : Int64) h) (fun r2 => (if r2 = true then some true else some false)) else some false))
def rm_X10_isSheet : Room := { frames := 1, cells := 0, slots := 0, locals := 25 }
set_option maxHeartbeats 4000000 in
set_option maxRecDepth 100000 in
theorem L_X10_isSheet (Θ : Tht) (p1 : Int32) (p2 : Int32) (h : Mem) (K : Bool × Mem → Prop) (hk : Ok (f_X10_isSheet p1 p2 h) (fun r => K (r, h))) : CB Θ yX10_isSheet cX10_isSheet 2 (some .boolean) rm_X10_isSheet [.int p1, .int p2] h K := by
  refine CB.of K [(0, .int p1), (1, .int p2)] (plainFor_of_name (by decide)) (Nat.le_of_ble_eq_true rfl) rfl (fun Γ C Rt => ?_)
  replace hk := rtBp Rt hk
  unfold f_X10_isSheet at hk
  refine g_iload_n C 0 dX10_isSheet_0 rfl rfl (n := 1) rfl ?_
  refine g_i2l C dX10_isSheet_1 (n := 2) rfl ?_
  refine g_lconst C (0 : Int64) dX10_isSheet_2 (by decide) (n := 3) rfl ?_
  refine g_ldc2 C (3 : Int64) wm_1254 dX10_isSheet_3 (n := 6) rfl ?_
  refine g_cSBp C hk (fun K hk => L_X10_in Θ ((p1).toInt64) (0 : Int64) (3 : Int64) h K hk) lk_X10_95 ⟨rfl, rfl⟩ ⟨Nat.le_of_ble_eq_true rfl, Nat.le_of_ble_eq_true rfl⟩ dX10_isSheet_6 rfl rfl (Nat.le_of_ble_eq_true rfl) (n := 9) rfl (fun r1 hk => ?_)
  refine g_bf C 28 dX10_isSheet_9 (by decide) (n := 12) rfl hk (fun hk => ?_) (fun hk => ?_)
  · refine g_iconst C (0 : Int32) dX10_isSheet_28 (by decide) (n := 29) rfl ?_
    exact retB false rfl hk.out dX10_isSheet_29
  · refine g_iload_n C 1 dX10_isSheet_12 rfl rfl (n := 13) rfl ?_
    refine g_i2l C dX10_isSheet_13 (n := 14) rfl ?_
    refine g_lconst C (0 : Int64) dX10_isSheet_14 (by decide) (n := 15) rfl ?_
    refine g_ldc2 C (2 : Int64) wm_1287 dX10_isSheet_15 (n := 18) rfl ?_
    refine g_cSBp C hk (fun K hk => L_X10_in Θ ((p2).toInt64) (0 : Int64) (2 : Int64) h K hk) lk_X10_95 ⟨rfl, rfl⟩ ⟨Nat.le_of_ble_eq_true rfl, Nat.le_of_ble_eq_true rfl⟩ dX10_isSheet_18 rfl rfl (Nat.le_of_ble_eq_true rfl) (n := 21) rfl (fun r2 hk => ?_)
    refine g_bf C 28 dX10_isSheet_21 (by decide) (n := 24) rfl hk (fun hk => ?_) (fun hk => ?_)
    · refine g_iconst C (0 : Int32) dX10_isSheet_28 (by decide) (n := 29) rfl ?_
      exact retB false rfl hk.out dX10_isSheet_29
    · refine g_iconst C (1 : Int32) dX10_isSheet_24 (by decide) (n := 25) rfl ?_
      refine g_goto C 29 dX10_isSheet_25 (by decide) ?_
      exact retB true rfl hk.out dX10_isSheet_29
def f_X10_isWhere (p1 : Int32) (h : Mem) : Option (Bool) := obd (f_X10_in ((p1).toInt64) (0 : Int64) (7 : Int64) h) (fun r1 => (if r1 = true then some true else obd (f_X10_in ((p1).toInt64) (10 : Int64) (13 : Int64) h) (fun r2 => (if r2 = true then some true else obd (f_X10_in ((p1).toInt64) (20 : Int64) (27 : Int64) h) (fun r3 => (if r3 = true then some true else (if p1 = (30 : Int32) then some true else some false)))))))
def rm_X10_isWhere : Room := { frames := 1, cells := 0, slots := 0, locals := 25 }
set_option maxHeartbeats 4000000 in
set_option maxRecDepth 100000 in
theorem L_X10_isWhere (Θ : Tht) (p1 : Int32) (h : Mem) (K : Bool × Mem → Prop) (hk : Ok (f_X10_isWhere p1 h) (fun r => K (r, h))) : CB Θ yX10_isWhere cX10_isWhere 1 (some .boolean) rm_X10_isWhere [.int p1] h K := by
  refine CB.of K [(0, .int p1)] (plainFor_of_name (by decide)) (Nat.le_of_ble_eq_true rfl) rfl (fun Γ C Rt => ?_)
  replace hk := rtBp Rt hk
  unfold f_X10_isWhere at hk
  refine g_iload_n C 0 dX10_isWhere_0 rfl rfl (n := 1) rfl ?_
  refine g_i2l C dX10_isWhere_1 (n := 2) rfl ?_
  refine g_lconst C (0 : Int64) dX10_isWhere_2 (by decide) (n := 3) rfl ?_
  refine g_ldc2 C (7 : Int64) wm_1244 dX10_isWhere_3 (n := 6) rfl ?_
  refine g_cSBp C hk (fun K hk => L_X10_in Θ ((p1).toInt64) (0 : Int64) (7 : Int64) h K hk) lk_X10_95 ⟨rfl, rfl⟩ ⟨Nat.le_of_ble_eq_true rfl, Nat.le_of_ble_eq_true rfl⟩ dX10_isWhere_6 rfl rfl (Nat.le_of_ble_eq_true rfl) (n := 9) rfl (fun r1 hk => ?_)
  refine g_bt C 46 dX10_isWhere_9 (by decide) (n := 12) rfl hk (fun hk => ?_) (fun hk => ?_)
  · refine g_iconst C (1 : Int32) dX10_isWhere_46 (by decide) (n := 47) rfl ?_
    refine g_goto C 51 dX10_isWhere_47 (by decide) ?_
    exact retB true rfl hk.out dX10_isWhere_51
  · refine g_iload_n C 0 dX10_isWhere_12 rfl rfl (n := 13) rfl ?_
    refine g_i2l C dX10_isWhere_13 (n := 14) rfl ?_
    refine g_ldc2 C (10 : Int64) wm_1218 dX10_isWhere_14 (n := 17) rfl ?_
    refine g_ldc2 C (13 : Int64) wm_1219 dX10_isWhere_17 (n := 20) rfl ?_
    refine g_cSBp C hk (fun K hk => L_X10_in Θ ((p1).toInt64) (10 : Int64) (13 : Int64) h K hk) lk_X10_95 ⟨rfl, rfl⟩ ⟨Nat.le_of_ble_eq_true rfl, Nat.le_of_ble_eq_true rfl⟩ dX10_isWhere_20 rfl rfl (Nat.le_of_ble_eq_true rfl) (n := 23) rfl (fun r2 hk => ?_)
    refine g_bt C 46 dX10_isWhere_23 (by decide) (n := 26) rfl hk (fun hk => ?_) (fun hk => ?_)
    · refine g_iconst C (1 : Int32) dX10_isWhere_46 (by decide) (n := 47) rfl ?_
      refine g_goto C 51 dX10_isWhere_47 (by decide) ?_
      exact retB true rfl hk.out dX10_isWhere_51
    · refine g_iload_n C 0 dX10_isWhere_26 rfl rfl (n := 27) rfl ?_
      refine g_i2l C dX10_isWhere_27 (n := 28) rfl ?_
      refine g_ldc2 C (20 : Int64) wm_1240 dX10_isWhere_28 (n := 31) rfl ?_
      refine g_ldc2 C (27 : Int64) wm_1245 dX10_isWhere_31 (n := 34) rfl ?_
      refine g_cSBp C hk (fun K hk => L_X10_in Θ ((p1).toInt64) (20 : Int64) (27 : Int64) h K hk) lk_X10_95 ⟨rfl, rfl⟩ ⟨Nat.le_of_ble_eq_true rfl, Nat.le_of_ble_eq_true rfl⟩ dX10_isWhere_34 rfl rfl (Nat.le_of_ble_eq_true rfl) (n := 37) rfl (fun r3 hk => ?_)
      refine g_bt C 46 dX10_isWhere_37 (by decide) (n := 40) rfl hk (fun hk => ?_) (fun hk => ?_)
      · refine g_iconst C (1 : Int32) dX10_isWhere_46 (by decide) (n := 47) rfl ?_
        refine g_goto C 51 dX10_isWhere_47 (by decide) ?_
        exact retB true rfl hk.out dX10_isWhere_51
      · refine g_iload_n C 0 dX10_isWhere_40 rfl rfl (n := 41) rfl ?_
        refine g_bipush C (30 : Int32) dX10_isWhere_41 (by decide) (n := 43) rfl ?_
        refine g_ic_ne C 50 dX10_isWhere_43 (by decide) (n := 46) rfl hk (fun hk => ?_) (fun hk => ?_)
        · refine g_iconst C (0 : Int32) dX10_isWhere_50 (by decide) (n := 51) rfl ?_
          exact retB false rfl hk.out dX10_isWhere_51
        · refine g_iconst C (1 : Int32) dX10_isWhere_46 (by decide) (n := 47) rfl ?_
          refine g_goto C 51 dX10_isWhere_47 (by decide) ?_
          exact retB true rfl hk.out dX10_isWhere_51
def f_X10_keep (p1 : Int32) (h : Mem) : Option (Int32 × Mem) := obd (f_X10_in ((p1).toInt64) (0 : Int64) (1 : Int64) h) (fun r1 => (if r1 = true then gd (inb p1 2) (obd (i2b (h 26 0 0 p1.toNatClampNeg)) (fun b2 => obd (f_X10_flag b2 h) (fun r3 => gd (inb p1 2) (bnd (up h 26 0 0 p1.toNatClampNeg (vp_nar .boolean (1 : Int32))) (fun h4 => obd (f_X10_copies ((79 : Int32) * (p1 + (1 : Int32))) (0 : Int32) h4) (fun h5 => some (r3, h5))))))) else some ((-1 : Int32), h)))
def rm_X10_keep : Room := { frames := 1, cells := 0, slots := 0, locals := 25 }
set_option maxHeartbeats 4000000 in
set_option maxRecDepth 100000 in
theorem L_X10_keep (Θ : Tht) (p1 : Int32) (h : Mem) (K : Int32 × Mem → Prop) (hk : Ok (f_X10_keep p1 h) K) : CI Θ yX10_keep cX10_keep 3 (some .int) rm_X10_keep [.ref (rr Θ 24 0 0), .int p1] h K := by
  refine CI.of K [(0, .ref (rr Θ 24 0 0)), (1, .int p1)] (plainFor_of_name (by decide)) (Nat.le_of_ble_eq_true rfl) rfl (fun Γ C Rt => ?_)
  replace hk := rtI Rt hk
  unfold f_X10_keep at hk
  refine g_iload_n C 1 dX10_keep_0 rfl rfl (n := 1) rfl ?_
  refine g_i2l C dX10_keep_1 (n := 2) rfl ?_
  refine g_lconst C (0 : Int64) dX10_keep_2 (by decide) (n := 3) rfl ?_
  refine g_lconst C (1 : Int64) dX10_keep_3 (by decide) (n := 4) rfl ?_
  refine g_cSBp C hk (fun K hk => L_X10_in Θ ((p1).toInt64) (0 : Int64) (1 : Int64) h K hk) lk_X10_95 ⟨rfl, rfl⟩ ⟨Nat.le_of_ble_eq_true rfl, Nat.le_of_ble_eq_true rfl⟩ dX10_keep_4 rfl rfl (Nat.le_of_ble_eq_true rfl) (n := 7) rfl (fun r1 hk => ?_)
  refine g_bt C 12 dX10_keep_7 (by decide) (n := 10) rfl hk (fun hk => ?_) (fun hk => ?_)
  · refine g_aload_n C 0 dX10_keep_12 rfl rfl (n := 13) rfl ?_
    refine g_getR C kc_24 (rt_24_1 (tB Θ) 0) (by decide) (by decide) (by decide) wm_898 dX10_keep_13 (n := 16) rfl ?_
    refine g_iload_n C 1 dX10_keep_16 rfl rfl (n := 17) rfl ?_
    refine g_zald C an_26 (by decide) dX10_keep_17 (n := 18) rfl hk (fun _ hk => ?_)
    obtain ⟨b2, heb2, hk⟩ := ok_i2b hk
    refine g_cSIp C hk (fun K hk => L_X10_flag Θ b2 h K hk) lk_X10_158 ⟨rfl, rfl⟩ ⟨Nat.le_of_ble_eq_true rfl, Nat.le_of_ble_eq_true rfl⟩ dX10_keep_18 rfl (by rw [heb2]; rfl) (Nat.le_of_ble_eq_true rfl) (n := 21) rfl (fun r3 hk => ?_)
    refine g_istore_n C [(2, .int r3), (0, .ref (rr Θ 24 0 0)), (1, .int p1)] dX10_keep_21 rfl (by decide) rfl (n := 22) rfl ?_
    refine g_aload_n C 1 dX10_keep_22 rfl rfl (n := 23) rfl ?_
    refine g_getR C kc_24 (rt_24_1 (tB Θ) 0) (by decide) (by decide) (by decide) wm_898 dX10_keep_23 (n := 26) rfl ?_
    refine g_iload_n C 2 dX10_keep_26 rfl rfl (n := 27) rfl ?_
    refine g_iconst C (1 : Int32) dX10_keep_27 (by decide) (n := 28) rfl ?_
    refine g_zast C an_26 (by decide) dX10_keep_28 (n := 29) rfl hk (fun _ h4 hk => ?_)
    refine g_aload_n C 1 dX10_keep_29 rfl rfl (n := 30) rfl ?_
    refine g_bipush C (79 : Int32) dX10_keep_30 (by decide) (n := 32) rfl ?_
    refine g_iload_n C 2 dX10_keep_32 rfl rfl (n := 33) rfl ?_
    refine g_iconst C (1 : Int32) dX10_keep_33 (by decide) (n := 34) rfl ?_
    refine g_iadd C dX10_keep_34 (n := 35) rfl ?_
    refine g_imul C dX10_keep_35 (n := 36) rfl ?_
    refine g_iconst C (0 : Int32) dX10_keep_36 (by decide) (n := 37) rfl ?_
    refine g_cVV C hk (fun K hk => L_X10_copies Θ ((79 : Int32) * (p1 + (1 : Int32))) (0 : Int32) h4 K hk) lk_X10_266 kc_24 (by decide) (by decide) ⟨rfl, rfl⟩ ⟨Nat.le_of_ble_eq_true rfl, Nat.le_of_ble_eq_true rfl⟩ dX10_keep_37 rfl rfl (Nat.le_of_ble_eq_true rfl) (n := 40) rfl (fun h5 hk => ?_)
    refine g_iload_n C 0 dX10_keep_40 rfl rfl (n := 41) rfl ?_
    exact retI hk.out dX10_keep_41
  · refine g_iconst C (-1 : Int32) dX10_keep_10 (by decide) (n := 11) rfl ?_
    exact retI hk.out dX10_keep_11
def f_X10_keepDraft  (h : Mem) : Option (Mem) := obd (lp fu (fun a7 => (if (79 : Int32) ≤ a7.1 then some (.inr a7.2) else gd (inb a7.1 79) (gd (inb a7.1 237) (bnd (up a7.2 25 0 0 a7.1.toNatClampNeg (a7.2 27 0 0 a7.1.toNatClampNeg)) (fun h8 => bnd (a7.1 + (1 : Int32)) (fun x9 => some (.inl (x9, h8)))))))) ((0 : Int32), h)) (fun e10 => bnd (up e10 24 2 0 0 (e10 24 5 0 0)) (fun h11 => bnd (up h11 24 3 0 0 (h11 24 6 0 0)) (fun h12 => bnd (up h12 26 0 0 0 (vp_nar .boolean (0 : Int32))) (fun h13 => bnd (up h13 26 0 0 1 (vp_nar .boolean (0 : Int32))) (fun h14 => some h14)))))
def rm_X10_keepDraft : Room := { frames := 0, cells := 0, slots := 0, locals := 0 }
set_option maxHeartbeats 4000000 in
set_option maxRecDepth 100000 in
theorem L_X10_keepDraft (Θ : Tht)  (h : Mem) (K : Mem → Prop) (hk : Ok (f_X10_keepDraft  h) K) : CV Θ yX10_keepDraft cX10_keepDraft 2 none rm_X10_keepDraft [.ref (rr Θ 24 0 0)] h K := by
  refine CV.of K [(0, .ref (rr Θ 24 0 0))] (plainFor_of_name (by decide)) (Nat.le_of_ble_eq_true rfl) rfl (fun Γ C Rt => ?_)
  replace hk := rtV Rt hk
  unfold f_X10_keepDraft at hk
  refine g_iconst C (0 : Int32) dX10_keepDraft_0 (by decide) (n := 1) rfl ?_
  refine g_istore_n C [(1, .int (0 : Int32)), (0, .ref (rr Θ 24 0 0))] dX10_keepDraft_1 rfl (by decide) rfl (n := 2) rfl ?_
  refine g_lv [1, 0] [(0, .ref (rr Θ 24 0 0)), (1, .int (0 : Int32))] rfl ?_
  refine Ok.join hk (fun e10 => G Θ Γ 26 [(0, .ref (rr Θ 24 0 0))] [] e10) (fun e10 hk => ?_) (fun hk => ?_)
  · refine g_aload_n C 0 dX10_keepDraft_26 rfl rfl (n := 27) rfl ?_
    refine g_aload_n C 0 dX10_keepDraft_27 rfl rfl (n := 28) rfl ?_
    refine g_getI C kc_24 ft_24_5 (by decide) (by decide) (by decide) wm_902 dX10_keepDraft_28 (n := 31) rfl ?_
    refine g_putI C kc_24 ft_24_2 (by decide) (by decide) (by decide) rfl (fitI _) wm_899 dX10_keepDraft_31 (n := 34) rfl hk (fun h11 hk => ?_)
    refine g_aload_n C 0 dX10_keepDraft_34 rfl rfl (n := 35) rfl ?_
    refine g_aload_n C 0 dX10_keepDraft_35 rfl rfl (n := 36) rfl ?_
    refine g_getI C kc_24 ft_24_6 (by decide) (by decide) (by decide) wm_903 dX10_keepDraft_36 (n := 39) rfl ?_
    refine g_putI C kc_24 ft_24_3 (by decide) (by decide) (by decide) rfl (fitI _) wm_900 dX10_keepDraft_39 (n := 42) rfl hk (fun h12 hk => ?_)
    refine g_aload_n C 0 dX10_keepDraft_42 rfl rfl (n := 43) rfl ?_
    refine g_getR C kc_24 (rt_24_1 (tB Θ) 0) (by decide) (by decide) (by decide) wm_898 dX10_keepDraft_43 (n := 46) rfl ?_
    refine g_iconst C (0 : Int32) dX10_keepDraft_46 (by decide) (n := 47) rfl ?_
    refine g_iconst C (0 : Int32) dX10_keepDraft_47 (by decide) (n := 48) rfl ?_
    refine g_zastL C 0 an_26 (by decide) (by decide) (by decide) dX10_keepDraft_48 (n := 49) rfl hk (fun h13 hk => ?_)
    refine g_aload_n C 0 dX10_keepDraft_49 rfl rfl (n := 50) rfl ?_
    refine g_getR C kc_24 (rt_24_1 (tB Θ) 0) (by decide) (by decide) (by decide) wm_898 dX10_keepDraft_50 (n := 53) rfl ?_
    refine g_iconst C (1 : Int32) dX10_keepDraft_53 (by decide) (n := 54) rfl ?_
    refine g_iconst C (0 : Int32) dX10_keepDraft_54 (by decide) (n := 55) rfl ?_
    refine g_zastL C 1 an_26 (by decide) (by decide) (by decide) dX10_keepDraft_55 (n := 56) rfl hk (fun h14 hk => ?_)
    exact retV hk.out dX10_keepDraft_56
  · refine Ok.loop (fun a7 => G Θ Γ 2 [(0, .ref (rr Θ 24 0 0)), (1, .int a7.1)] [] a7.2) (fun a7 hk => ?_) _ _ hk
    refine g_iload_n C 1 dX10_keepDraft_2 rfl rfl (n := 3) rfl ?_
    refine g_bipush C (79 : Int32) dX10_keepDraft_3 (by decide) (n := 5) rfl ?_
    refine g_ic_ge C 26 dX10_keepDraft_5 (by decide) (n := 8) rfl hk (fun hk => ?_) (fun hk => ?_)
    · refine g_lv [0] [(0, .ref (rr Θ 24 0 0))] rfl ?_
      exact hk.out
    · refine g_aload_n C 0 dX10_keepDraft_8 rfl rfl (n := 9) rfl ?_
      refine g_getR C kc_24 (rt_24_0 (tB Θ) 0) (by decide) (by decide) (by decide) wm_897 dX10_keepDraft_9 (n := 12) rfl ?_
      refine g_iload_n C 1 dX10_keepDraft_12 rfl rfl (n := 13) rfl ?_
      refine g_aload_n C 0 dX10_keepDraft_13 rfl rfl (n := 14) rfl ?_
      refine g_getR C kc_24 (rt_24_4 (tB Θ) 0) (by decide) (by decide) (by decide) wm_901 dX10_keepDraft_14 (n := 17) rfl ?_
      refine g_iload_n C 1 dX10_keepDraft_17 rfl rfl (n := 18) rfl ?_
      refine g_iald C an_27 (by decide) dX10_keepDraft_18 (n := 19) rfl hk (fun _ hk => ?_)
      refine g_iast C an_25 (by decide) dX10_keepDraft_19 (n := 20) rfl hk (fun _ h8 hk => ?_)
      refine g_iinc C 1 (fun x9 => [(1, .int x9), (0, .ref (rr Θ 24 0 0))]) dX10_keepDraft_20 rfl (v := (a7.1 + (1 : Int32))) rfl (by decide) (fun _ => rfl) (n := 23) rfl hk (fun x9 hk => ?_)
      refine g_goto C 2 dX10_keepDraft_23 (by decide) ?_
      refine g_lv [1, 0] [(0, .ref (rr Θ 24 0 0)), (1, .int x9)] rfl ?_
      exact hk.out
def f_X10_lay (p1 : Int32) (p2 : Int32) (p3 : Int32) (h : Mem) : Option (Int32 × Mem) := obd (f_X10_isSheet p1 (0 : Int32) h) (fun r1 => (if r1 = true then gd (inb p1 4) ((if (h 40 0 0 p1.toNatClampNeg) = (-4 : Int32) then some ((-11 : Int32), h) else gd (inb p1 4) (obd (f_X10_in ((p2).toInt64) (0 : Int64) (((h 41 0 0 p1.toNatClampNeg) - (1 : Int32)).toInt64) h) (fun r2 => (if r2 = true then gd (inb p1 4) (obd ((if (h 40 0 0 p1.toNatClampNeg) = 0 then some ((p3).toInt8.toInt32) else gd (inb p1 4) ((if (h 40 0 0 p1.toNatClampNeg) = (1 : Int32) then some ((p3).toInt16.toInt32) else some p3)))) (fun a3 => gd (inb (((40 : Int32) * p1) + p2) 160) (bnd (up h 42 0 0 (((40 : Int32) * p1) + p2).toNatClampNeg a3) (fun h4 => some ((1 : Int32), h4))))) else some ((-12 : Int32), h)))))) else some ((-1 : Int32), h)))
def rm_X10_lay : Room := { frames := 2, cells := 0, slots := 0, locals := 46 }
set_option maxHeartbeats 4000000 in
set_option maxRecDepth 100000 in
theorem L_X10_lay (Θ : Tht) (p1 : Int32) (p2 : Int32) (p3 : Int32) (h : Mem) (K : Int32 × Mem → Prop) (hk : Ok (f_X10_lay p1 p2 p3 h) K) : CI Θ yX10_lay cX10_lay 4 (some .int) rm_X10_lay [.ref (rr Θ 24 0 0), .int p1, .int p2, .int p3] h K := by
  refine CI.of K [(0, .ref (rr Θ 24 0 0)), (1, .int p1), (2, .int p2), (3, .int p3)] (plainFor_of_name (by decide)) (Nat.le_of_ble_eq_true rfl) rfl (fun Γ C Rt => ?_)
  replace hk := rtI Rt hk
  unfold f_X10_lay at hk
  refine g_iload_n C 1 dX10_lay_0 rfl rfl (n := 1) rfl ?_
  refine g_iconst C (0 : Int32) dX10_lay_1 (by decide) (n := 2) rfl ?_
  refine g_cSBp C hk (fun K hk => L_X10_isSheet Θ p1 (0 : Int32) h K hk) lk_X10_272 ⟨rfl, rfl⟩ ⟨Nat.le_of_ble_eq_true rfl, Nat.le_of_ble_eq_true rfl⟩ dX10_lay_2 rfl rfl (Nat.le_of_ble_eq_true rfl) (n := 5) rfl (fun r1 hk => ?_)
  refine g_bt C 10 dX10_lay_5 (by decide) (n := 8) rfl hk (fun hk => ?_) (fun hk => ?_)
  · refine g_aload_n C 0 dX10_lay_10 rfl rfl (n := 11) rfl ?_
    refine g_getR C kc_24 (rt_24_30 (tB Θ) 0) (by decide) (by decide) (by decide) wm_927 dX10_lay_11 (n := 14) rfl ?_
    refine g_iload_n C 1 dX10_lay_14 rfl rfl (n := 15) rfl ?_
    refine g_iald C an_40 (by decide) dX10_lay_15 (n := 16) rfl hk (fun _ hk => ?_)
    refine g_bipush C (-4 : Int32) dX10_lay_16 (by decide) (n := 18) rfl ?_
    refine g_ic_ne C 24 dX10_lay_18 (by decide) (n := 21) rfl hk (fun hk => ?_) (fun hk => ?_)
    · refine g_iload_n C 2 dX10_lay_24 rfl rfl (n := 25) rfl ?_
      refine g_i2l C dX10_lay_25 (n := 26) rfl ?_
      refine g_lconst C (0 : Int64) dX10_lay_26 (by decide) (n := 27) rfl ?_
      refine g_aload_n C 0 dX10_lay_27 rfl rfl (n := 28) rfl ?_
      refine g_getR C kc_24 (rt_24_31 (tB Θ) 0) (by decide) (by decide) (by decide) wm_928 dX10_lay_28 (n := 31) rfl ?_
      refine g_iload_n C 1 dX10_lay_31 rfl rfl (n := 32) rfl ?_
      refine g_iald C an_41 (by decide) dX10_lay_32 (n := 33) rfl hk (fun _ hk => ?_)
      refine g_iconst C (1 : Int32) dX10_lay_33 (by decide) (n := 34) rfl ?_
      refine g_isub C dX10_lay_34 (n := 35) rfl ?_
      refine g_i2l C dX10_lay_35 (n := 36) rfl ?_
      refine g_cSBp C hk (fun K hk => L_X10_in Θ ((p2).toInt64) (0 : Int64) (((h 41 0 0 p1.toNatClampNeg) - (1 : Int32)).toInt64) h K hk) lk_X10_95 ⟨rfl, rfl⟩ ⟨Nat.le_of_ble_eq_true rfl, Nat.le_of_ble_eq_true rfl⟩ dX10_lay_36 rfl rfl (Nat.le_of_ble_eq_true rfl) (n := 39) rfl (fun r2 hk => ?_)
      refine g_bt C 45 dX10_lay_39 (by decide) (n := 42) rfl hk (fun hk => ?_) (fun hk => ?_)
      · refine g_aload_n C 0 dX10_lay_45 rfl rfl (n := 46) rfl ?_
        refine g_getR C kc_24 (rt_24_32 (tB Θ) 0) (by decide) (by decide) (by decide) wm_929 dX10_lay_46 (n := 49) rfl ?_
        refine g_bipush C (40 : Int32) dX10_lay_49 (by decide) (n := 51) rfl ?_
        refine g_iload_n C 1 dX10_lay_51 rfl rfl (n := 52) rfl ?_
        refine g_imul C dX10_lay_52 (n := 53) rfl ?_
        refine g_iload_n C 2 dX10_lay_53 rfl rfl (n := 54) rfl ?_
        refine g_iadd C dX10_lay_54 (n := 55) rfl ?_
        refine g_aload_n C 0 dX10_lay_55 rfl rfl (n := 56) rfl ?_
        refine g_getR C kc_24 (rt_24_30 (tB Θ) 0) (by decide) (by decide) (by decide) wm_927 dX10_lay_56 (n := 59) rfl ?_
        refine g_iload_n C 1 dX10_lay_59 rfl rfl (n := 60) rfl ?_
        refine g_iald C an_40 (by decide) dX10_lay_60 (n := 61) rfl hk (fun _ hk => ?_)
        refine Ok.join hk (fun a3 => G Θ Γ 85 [] [.int a3, .int (((40 : Int32) * p1) + p2), .ref (rr Θ 42 0 0)] h) (fun a3 hk => ?_) (fun hk => ?_)
        · refine g_iast C an_42 (by decide) dX10_lay_85 (n := 86) rfl hk (fun _ h4 hk => ?_)
          refine g_iconst C (1 : Int32) dX10_lay_86 (by decide) (n := 87) rfl ?_
          exact retI hk.out dX10_lay_87
        · refine g_if_ne C 69 dX10_lay_61 (by decide) (n := 64) rfl hk (fun hk => ?_) (fun hk => ?_)
          · refine g_aload_n C 0 dX10_lay_69 rfl rfl (n := 70) rfl ?_
            refine g_getR C kc_24 (rt_24_30 (tB Θ) 0) (by decide) (by decide) (by decide) wm_927 dX10_lay_70 (n := 73) rfl ?_
            refine g_iload_n C 1 dX10_lay_73 rfl rfl (n := 74) rfl ?_
            refine g_iald C an_40 (by decide) dX10_lay_74 (n := 75) rfl hk (fun _ hk => ?_)
            refine g_iconst C (1 : Int32) dX10_lay_75 (by decide) (n := 76) rfl ?_
            refine g_ic_ne C 84 dX10_lay_76 (by decide) (n := 79) rfl hk (fun hk => ?_) (fun hk => ?_)
            · refine g_iload_n C 3 dX10_lay_84 rfl rfl (n := 85) rfl ?_
              refine g_lv [] [] rfl ?_
              exact hk.out
            · refine g_iload_n C 3 dX10_lay_79 rfl rfl (n := 80) rfl ?_
              refine g_i2s C dX10_lay_80 (n := 81) rfl ?_
              refine g_goto C 85 dX10_lay_81 (by decide) ?_
              refine g_lv [] [] rfl ?_
              exact hk.out
          · refine g_iload_n C 3 dX10_lay_64 rfl rfl (n := 65) rfl ?_
            refine g_i2b C dX10_lay_65 (n := 66) rfl ?_
            refine g_goto C 85 dX10_lay_66 (by decide) ?_
            refine g_lv [] [] rfl ?_
            exact hk.out
      · refine g_bipush C (-12 : Int32) dX10_lay_42 (by decide) (n := 44) rfl ?_
        exact retI hk.out dX10_lay_44
    · refine g_bipush C (-11 : Int32) dX10_lay_21 (by decide) (n := 23) rfl ?_
      exact retI hk.out dX10_lay_23
  · refine g_iconst C (-1 : Int32) dX10_lay_8 (by decide) (n := 9) rfl ?_
    exact retI hk.out dX10_lay_9
def f_X10_lie (p1 : Int32) (p2 : Int32) (h : Mem) : Option (Int32 × Mem) := obd (f_X10_isCoin p1 h) (fun r1 => (if r1 = true then obd (f_X10_isPlace p2 h) (fun r2 => (if r2 = true then ob2 (f_X10_becomes ((21 : Int32) + p1) p2 h) (fun r3 h4 => some (r3, h4)) else some ((-1 : Int32), h))) else some ((-1 : Int32), h)))
def rm_X10_lie : Room := { frames := 2, cells := 0, slots := 0, locals := 46 }
set_option maxHeartbeats 4000000 in
set_option maxRecDepth 100000 in
theorem L_X10_lie (Θ : Tht) (p1 : Int32) (p2 : Int32) (h : Mem) (K : Int32 × Mem → Prop) (hk : Ok (f_X10_lie p1 p2 h) K) : CI Θ yX10_lie cX10_lie 3 (some .int) rm_X10_lie [.ref (rr Θ 24 0 0), .int p1, .int p2] h K := by
  refine CI.of K [(0, .ref (rr Θ 24 0 0)), (1, .int p1), (2, .int p2)] (plainFor_of_name (by decide)) (Nat.le_of_ble_eq_true rfl) rfl (fun Γ C Rt => ?_)
  replace hk := rtI Rt hk
  unfold f_X10_lie at hk
  refine g_aload_n C 0 dX10_lie_0 rfl rfl (n := 1) rfl ?_
  refine g_iload_n C 1 dX10_lie_1 rfl rfl (n := 2) rfl ?_
  refine g_cVBp C hk (fun K hk => L_X10_isCoin Θ p1 h K hk) lk_X10_219 kc_24 (by decide) (by decide) ⟨rfl, rfl⟩ ⟨Nat.le_of_ble_eq_true rfl, Nat.le_of_ble_eq_true rfl⟩ dX10_lie_2 rfl rfl (Nat.le_of_ble_eq_true rfl) (n := 5) rfl (fun r1 hk => ?_)
  refine g_bf C 28 dX10_lie_5 (by decide) (n := 8) rfl hk (fun hk => ?_) (fun hk => ?_)
  · refine g_iconst C (-1 : Int32) dX10_lie_28 (by decide) (n := 29) rfl ?_
    exact retI hk.out dX10_lie_29
  · refine g_aload_n C 0 dX10_lie_8 rfl rfl (n := 9) rfl ?_
    refine g_iload_n C 2 dX10_lie_9 rfl rfl (n := 10) rfl ?_
    refine g_cVBp C hk (fun K hk => L_X10_isPlace Θ p2 h K hk) lk_X10_216 kc_24 (by decide) (by decide) ⟨rfl, rfl⟩ ⟨Nat.le_of_ble_eq_true rfl, Nat.le_of_ble_eq_true rfl⟩ dX10_lie_10 rfl rfl (Nat.le_of_ble_eq_true rfl) (n := 13) rfl (fun r2 hk => ?_)
    refine g_bf C 28 dX10_lie_13 (by decide) (n := 16) rfl hk (fun hk => ?_) (fun hk => ?_)
    · refine g_iconst C (-1 : Int32) dX10_lie_28 (by decide) (n := 29) rfl ?_
      exact retI hk.out dX10_lie_29
    · refine g_aload_n C 0 dX10_lie_16 rfl rfl (n := 17) rfl ?_
      refine g_bipush C (21 : Int32) dX10_lie_17 (by decide) (n := 19) rfl ?_
      refine g_iload_n C 1 dX10_lie_19 rfl rfl (n := 20) rfl ?_
      refine g_iadd C dX10_lie_20 (n := 21) rfl ?_
      refine g_iload_n C 2 dX10_lie_21 rfl rfl (n := 22) rfl ?_
      refine g_cVI C hk (fun K hk => L_X10_becomes Θ ((21 : Int32) + p1) p2 h K hk) lk_X10_233 kc_24 (by decide) (by decide) ⟨rfl, rfl⟩ ⟨Nat.le_of_ble_eq_true rfl, Nat.le_of_ble_eq_true rfl⟩ dX10_lie_22 rfl rfl (Nat.le_of_ble_eq_true rfl) (n := 25) rfl (fun r3 h4 hk => ?_)
      refine g_goto C 29 dX10_lie_25 (by decide) ?_
      exact retI hk.out dX10_lie_29
def f_X10_lineNow  (h : Mem) : Option (Int32) := obd (f_X10_is (6 : Int32) (112 : Int32) (108 : Int32) (97 : Int32) h) (fun r1 => obd ((if r1 = true then obd (f_X10_ends (99 : Int32) (101 : Int32) (115 : Int32) h) (fun r3 => (if r3 = true then some (.inl (0 : Int32)) else some (.inr ()))) else some (.inr ()))) (Sum.elim (fun r => some r) (fun a4 => obd (f_X10_is (4 : Int32) (116 : Int32) (105 : Int32) (100 : Int32) h) (fun r5 => obd ((if r5 = true then obd (f_X10_ends (101 : Int32) (0 : Int32) (0 : Int32) h) (fun r7 => (if r7 = true then some (.inl (1 : Int32)) else some (.inr ()))) else some (.inr ()))) (Sum.elim (fun r => some r) (fun a8 => obd (f_X10_is (4 : Int32) (104 : Int32) (111 : Int32) (108 : Int32) h) (fun r9 => obd ((if r9 = true then obd (f_X10_ends (101 : Int32) (0 : Int32) (0 : Int32) h) (fun r11 => (if r11 = true then some (.inl (2 : Int32)) else some (.inr ()))) else some (.inr ()))) (Sum.elim (fun r => some r) (fun a12 => obd (f_X10_is (4 : Int32) (99 : Int32) (111 : Int32) (105 : Int32) h) (fun r13 => obd ((if r13 = true then obd (f_X10_ends (110 : Int32) (0 : Int32) (0 : Int32) h) (fun r15 => (if r15 = true then some (.inl (3 : Int32)) else some (.inr ()))) else some (.inr ()))) (Sum.elim (fun r => some r) (fun a16 => obd (f_X10_is (4 : Int32) (99 : Int32) (114 : Int32) (97 : Int32) h) (fun r17 => (if r17 = true then obd (f_X10_ends (98 : Int32) (0 : Int32) (0 : Int32) h) (fun r18 => (if r18 = true then some (4 : Int32) else some (-4 : Int32))) else some (-4 : Int32)))))))))))))))
def rm_X10_lineNow : Room := { frames := 2, cells := 0, slots := 0, locals := 45 }
set_option maxHeartbeats 4000000 in
set_option maxRecDepth 100000 in
theorem L_X10_lineNow (Θ : Tht)  (h : Mem) (K : Int32 × Mem → Prop) (hk : Ok (f_X10_lineNow  h) (fun r => K (r, h))) : CI Θ yX10_lineNow cX10_lineNow 1 (some .int) rm_X10_lineNow [.ref (rr Θ 24 0 0)] h K := by
  refine CI.of K [(0, .ref (rr Θ 24 0 0))] (plainFor_of_name (by decide)) (Nat.le_of_ble_eq_true rfl) rfl (fun Γ C Rt => ?_)
  replace hk := rtIp Rt hk
  unfold f_X10_lineNow at hk
  refine g_aload_n C 0 dX10_lineNow_0 rfl rfl (n := 1) rfl ?_
  refine g_bipush C (6 : Int32) dX10_lineNow_1 (by decide) (n := 3) rfl ?_
  refine g_bipush C (112 : Int32) dX10_lineNow_3 (by decide) (n := 5) rfl ?_
  refine g_bipush C (108 : Int32) dX10_lineNow_5 (by decide) (n := 7) rfl ?_
  refine g_bipush C (97 : Int32) dX10_lineNow_7 (by decide) (n := 9) rfl ?_
  refine g_cVBp C hk (fun K hk => L_X10_is Θ (6 : Int32) (112 : Int32) (108 : Int32) (97 : Int32) h K hk) lk_X10_115 kc_24 (by decide) (by decide) ⟨rfl, rfl⟩ ⟨Nat.le_of_ble_eq_true rfl, Nat.le_of_ble_eq_true rfl⟩ dX10_lineNow_9 rfl rfl (Nat.le_of_ble_eq_true rfl) (n := 12) rfl (fun r1 hk => ?_)
  refine Ok.join hk (Sum.elim (fun r => PI Θ Γ cX10_lineNow (r, h)) (fun a4 => G Θ Γ 30 [(0, .ref (rr Θ 24 0 0))] [] h)) (fun e hk => ?_) (fun hk => ?_)
  · rcases e with r | a4
    · exact hk.out
    · replace hk := ok_inr hk
      refine g_aload_n C 0 dX10_lineNow_30 rfl rfl (n := 31) rfl ?_
      refine g_iconst C (4 : Int32) dX10_lineNow_31 (by decide) (n := 32) rfl ?_
      refine g_bipush C (116 : Int32) dX10_lineNow_32 (by decide) (n := 34) rfl ?_
      refine g_bipush C (105 : Int32) dX10_lineNow_34 (by decide) (n := 36) rfl ?_
      refine g_bipush C (100 : Int32) dX10_lineNow_36 (by decide) (n := 38) rfl ?_
      refine g_cVBp C hk (fun K hk => L_X10_is Θ (4 : Int32) (116 : Int32) (105 : Int32) (100 : Int32) h K hk) lk_X10_115 kc_24 (by decide) (by decide) ⟨rfl, rfl⟩ ⟨Nat.le_of_ble_eq_true rfl, Nat.le_of_ble_eq_true rfl⟩ dX10_lineNow_38 rfl rfl (Nat.le_of_ble_eq_true rfl) (n := 41) rfl (fun r5 hk => ?_)
      refine Ok.join hk (Sum.elim (fun r => PI Θ Γ cX10_lineNow (r, h)) (fun a8 => G Θ Γ 57 [(0, .ref (rr Θ 24 0 0))] [] h)) (fun e hk => ?_) (fun hk => ?_)
      · rcases e with r | a8
        · exact hk.out
        · replace hk := ok_inr hk
          refine g_aload_n C 0 dX10_lineNow_57 rfl rfl (n := 58) rfl ?_
          refine g_iconst C (4 : Int32) dX10_lineNow_58 (by decide) (n := 59) rfl ?_
          refine g_bipush C (104 : Int32) dX10_lineNow_59 (by decide) (n := 61) rfl ?_
          refine g_bipush C (111 : Int32) dX10_lineNow_61 (by decide) (n := 63) rfl ?_
          refine g_bipush C (108 : Int32) dX10_lineNow_63 (by decide) (n := 65) rfl ?_
          refine g_cVBp C hk (fun K hk => L_X10_is Θ (4 : Int32) (104 : Int32) (111 : Int32) (108 : Int32) h K hk) lk_X10_115 kc_24 (by decide) (by decide) ⟨rfl, rfl⟩ ⟨Nat.le_of_ble_eq_true rfl, Nat.le_of_ble_eq_true rfl⟩ dX10_lineNow_65 rfl rfl (Nat.le_of_ble_eq_true rfl) (n := 68) rfl (fun r9 hk => ?_)
          refine Ok.join hk (Sum.elim (fun r => PI Θ Γ cX10_lineNow (r, h)) (fun a12 => G Θ Γ 84 [(0, .ref (rr Θ 24 0 0))] [] h)) (fun e hk => ?_) (fun hk => ?_)
          · rcases e with r | a12
            · exact hk.out
            · replace hk := ok_inr hk
              refine g_aload_n C 0 dX10_lineNow_84 rfl rfl (n := 85) rfl ?_
              refine g_iconst C (4 : Int32) dX10_lineNow_85 (by decide) (n := 86) rfl ?_
              refine g_bipush C (99 : Int32) dX10_lineNow_86 (by decide) (n := 88) rfl ?_
              refine g_bipush C (111 : Int32) dX10_lineNow_88 (by decide) (n := 90) rfl ?_
              refine g_bipush C (105 : Int32) dX10_lineNow_90 (by decide) (n := 92) rfl ?_
              refine g_cVBp C hk (fun K hk => L_X10_is Θ (4 : Int32) (99 : Int32) (111 : Int32) (105 : Int32) h K hk) lk_X10_115 kc_24 (by decide) (by decide) ⟨rfl, rfl⟩ ⟨Nat.le_of_ble_eq_true rfl, Nat.le_of_ble_eq_true rfl⟩ dX10_lineNow_92 rfl rfl (Nat.le_of_ble_eq_true rfl) (n := 95) rfl (fun r13 hk => ?_)
              refine Ok.join hk (Sum.elim (fun r => PI Θ Γ cX10_lineNow (r, h)) (fun a16 => G Θ Γ 113 [(0, .ref (rr Θ 24 0 0))] [] h)) (fun e hk => ?_) (fun hk => ?_)
              · rcases e with r | a16
                · exact hk.out
                · replace hk := ok_inr hk
                  refine g_aload_n C 0 dX10_lineNow_113 rfl rfl (n := 114) rfl ?_
                  refine g_iconst C (4 : Int32) dX10_lineNow_114 (by decide) (n := 115) rfl ?_
                  refine g_bipush C (99 : Int32) dX10_lineNow_115 (by decide) (n := 117) rfl ?_
                  refine g_bipush C (114 : Int32) dX10_lineNow_117 (by decide) (n := 119) rfl ?_
                  refine g_bipush C (97 : Int32) dX10_lineNow_119 (by decide) (n := 121) rfl ?_
                  refine g_cVBp C hk (fun K hk => L_X10_is Θ (4 : Int32) (99 : Int32) (114 : Int32) (97 : Int32) h K hk) lk_X10_115 kc_24 (by decide) (by decide) ⟨rfl, rfl⟩ ⟨Nat.le_of_ble_eq_true rfl, Nat.le_of_ble_eq_true rfl⟩ dX10_lineNow_121 rfl rfl (Nat.le_of_ble_eq_true rfl) (n := 124) rfl (fun r17 hk => ?_)
                  refine g_bf C 142 dX10_lineNow_124 (by decide) (n := 127) rfl hk (fun hk => ?_) (fun hk => ?_)
                  · refine g_bipush C (-4 : Int32) dX10_lineNow_142 (by decide) (n := 144) rfl ?_
                    exact retI hk.out dX10_lineNow_144
                  · refine g_aload_n C 0 dX10_lineNow_127 rfl rfl (n := 128) rfl ?_
                    refine g_bipush C (98 : Int32) dX10_lineNow_128 (by decide) (n := 130) rfl ?_
                    refine g_iconst C (0 : Int32) dX10_lineNow_130 (by decide) (n := 131) rfl ?_
                    refine g_iconst C (0 : Int32) dX10_lineNow_131 (by decide) (n := 132) rfl ?_
                    refine g_cVBp C hk (fun K hk => L_X10_ends Θ (98 : Int32) (0 : Int32) (0 : Int32) h K hk) lk_X10_119 kc_24 (by decide) (by decide) ⟨rfl, rfl⟩ ⟨Nat.le_of_ble_eq_true rfl, Nat.le_of_ble_eq_true rfl⟩ dX10_lineNow_132 rfl rfl (Nat.le_of_ble_eq_true rfl) (n := 135) rfl (fun r18 hk => ?_)
                    refine g_bf C 142 dX10_lineNow_135 (by decide) (n := 138) rfl hk (fun hk => ?_) (fun hk => ?_)
                    · refine g_bipush C (-4 : Int32) dX10_lineNow_142 (by decide) (n := 144) rfl ?_
                      exact retI hk.out dX10_lineNow_144
                    · refine g_iconst C (4 : Int32) dX10_lineNow_138 (by decide) (n := 139) rfl ?_
                      refine g_goto C 144 dX10_lineNow_139 (by decide) ?_
                      exact retI hk.out dX10_lineNow_144
              · refine g_bf C 113 dX10_lineNow_95 (by decide) (n := 98) rfl hk (fun hk => ?_) (fun hk => ?_)
                · exact hk.out
                · refine g_aload_n C 0 dX10_lineNow_98 rfl rfl (n := 99) rfl ?_
                  refine g_bipush C (110 : Int32) dX10_lineNow_99 (by decide) (n := 101) rfl ?_
                  refine g_iconst C (0 : Int32) dX10_lineNow_101 (by decide) (n := 102) rfl ?_
                  refine g_iconst C (0 : Int32) dX10_lineNow_102 (by decide) (n := 103) rfl ?_
                  refine g_cVBp C hk (fun K hk => L_X10_ends Θ (110 : Int32) (0 : Int32) (0 : Int32) h K hk) lk_X10_119 kc_24 (by decide) (by decide) ⟨rfl, rfl⟩ ⟨Nat.le_of_ble_eq_true rfl, Nat.le_of_ble_eq_true rfl⟩ dX10_lineNow_103 rfl rfl (Nat.le_of_ble_eq_true rfl) (n := 106) rfl (fun r15 hk => ?_)
                  refine g_bf C 113 dX10_lineNow_106 (by decide) (n := 109) rfl hk (fun hk => ?_) (fun hk => ?_)
                  · exact hk.out
                  · refine g_iconst C (3 : Int32) dX10_lineNow_109 (by decide) (n := 110) rfl ?_
                    refine g_goto C 144 dX10_lineNow_110 (by decide) ?_
                    exact retI hk.out dX10_lineNow_144
          · refine g_bf C 84 dX10_lineNow_68 (by decide) (n := 71) rfl hk (fun hk => ?_) (fun hk => ?_)
            · exact hk.out
            · refine g_aload_n C 0 dX10_lineNow_71 rfl rfl (n := 72) rfl ?_
              refine g_bipush C (101 : Int32) dX10_lineNow_72 (by decide) (n := 74) rfl ?_
              refine g_iconst C (0 : Int32) dX10_lineNow_74 (by decide) (n := 75) rfl ?_
              refine g_iconst C (0 : Int32) dX10_lineNow_75 (by decide) (n := 76) rfl ?_
              refine g_cVBp C hk (fun K hk => L_X10_ends Θ (101 : Int32) (0 : Int32) (0 : Int32) h K hk) lk_X10_119 kc_24 (by decide) (by decide) ⟨rfl, rfl⟩ ⟨Nat.le_of_ble_eq_true rfl, Nat.le_of_ble_eq_true rfl⟩ dX10_lineNow_76 rfl rfl (Nat.le_of_ble_eq_true rfl) (n := 79) rfl (fun r11 hk => ?_)
              refine g_bf C 84 dX10_lineNow_79 (by decide) (n := 82) rfl hk (fun hk => ?_) (fun hk => ?_)
              · exact hk.out
              · refine g_iconst C (2 : Int32) dX10_lineNow_82 (by decide) (n := 83) rfl ?_
                exact retI hk.out dX10_lineNow_83
      · refine g_bf C 57 dX10_lineNow_41 (by decide) (n := 44) rfl hk (fun hk => ?_) (fun hk => ?_)
        · exact hk.out
        · refine g_aload_n C 0 dX10_lineNow_44 rfl rfl (n := 45) rfl ?_
          refine g_bipush C (101 : Int32) dX10_lineNow_45 (by decide) (n := 47) rfl ?_
          refine g_iconst C (0 : Int32) dX10_lineNow_47 (by decide) (n := 48) rfl ?_
          refine g_iconst C (0 : Int32) dX10_lineNow_48 (by decide) (n := 49) rfl ?_
          refine g_cVBp C hk (fun K hk => L_X10_ends Θ (101 : Int32) (0 : Int32) (0 : Int32) h K hk) lk_X10_119 kc_24 (by decide) (by decide) ⟨rfl, rfl⟩ ⟨Nat.le_of_ble_eq_true rfl, Nat.le_of_ble_eq_true rfl⟩ dX10_lineNow_49 rfl rfl (Nat.le_of_ble_eq_true rfl) (n := 52) rfl (fun r7 hk => ?_)
          refine g_bf C 57 dX10_lineNow_52 (by decide) (n := 55) rfl hk (fun hk => ?_) (fun hk => ?_)
          · exact hk.out
          · refine g_iconst C (1 : Int32) dX10_lineNow_55 (by decide) (n := 56) rfl ?_
            exact retI hk.out dX10_lineNow_56
  · refine g_bf C 30 dX10_lineNow_12 (by decide) (n := 15) rfl hk (fun hk => ?_) (fun hk => ?_)
    · exact hk.out
    · refine g_aload_n C 0 dX10_lineNow_15 rfl rfl (n := 16) rfl ?_
      refine g_bipush C (99 : Int32) dX10_lineNow_16 (by decide) (n := 18) rfl ?_
      refine g_bipush C (101 : Int32) dX10_lineNow_18 (by decide) (n := 20) rfl ?_
      refine g_bipush C (115 : Int32) dX10_lineNow_20 (by decide) (n := 22) rfl ?_
      refine g_cVBp C hk (fun K hk => L_X10_ends Θ (99 : Int32) (101 : Int32) (115 : Int32) h K hk) lk_X10_119 kc_24 (by decide) (by decide) ⟨rfl, rfl⟩ ⟨Nat.le_of_ble_eq_true rfl, Nat.le_of_ble_eq_true rfl⟩ dX10_lineNow_22 rfl rfl (Nat.le_of_ble_eq_true rfl) (n := 25) rfl (fun r3 hk => ?_)
      refine g_bf C 30 dX10_lineNow_25 (by decide) (n := 28) rfl hk (fun hk => ?_) (fun hk => ?_)
      · exact hk.out
      · refine g_iconst C (0 : Int32) dX10_lineNow_28 (by decide) (n := 29) rfl ?_
        exact retI hk.out dX10_lineNow_29
def f_X10_needs (p1 : Bool) (p2 : Int32) (h : Mem) : Option (Mem) := (if p1 = true then some h else (if (h 24 15 0 0) = 0 then bnd (up h 24 15 0 0 p2) (fun h1 => bnd (up h1 24 16 0 0 (h1 24 12 0 0)) (fun h2 => some h2)) else some h))
def rm_X10_needs : Room := { frames := 0, cells := 0, slots := 0, locals := 0 }
set_option maxHeartbeats 4000000 in
set_option maxRecDepth 100000 in
theorem L_X10_needs (Θ : Tht) (p1 : Bool) (p2 : Int32) (h : Mem) (K : Mem → Prop) (hk : Ok (f_X10_needs p1 p2 h) K) : CV Θ yX10_needs cX10_needs 3 none rm_X10_needs [.ref (rr Θ 24 0 0), .int (b2i p1), .int p2] h K := by
  refine CV.of K [(0, .ref (rr Θ 24 0 0)), (1, .int (b2i p1)), (2, .int p2)] (plainFor_of_name (by decide)) (Nat.le_of_ble_eq_true rfl) rfl (fun Γ C Rt => ?_)
  replace hk := rtV Rt hk
  unfold f_X10_needs at hk
  refine g_iload_n C 1 dX10_needs_0 rfl rfl (n := 1) rfl ?_
  refine g_bt C 24 dX10_needs_1 (by decide) (n := 4) rfl hk (fun hk => ?_) (fun hk => ?_)
  · exact retV hk.out dX10_needs_24
  · refine g_aload_n C 0 dX10_needs_4 rfl rfl (n := 5) rfl ?_
    refine g_getI C kc_24 ft_24_15 (by decide) (by decide) (by decide) wm_912 dX10_needs_5 (n := 8) rfl ?_
    refine g_if_ne C 24 dX10_needs_8 (by decide) (n := 11) rfl hk (fun hk => ?_) (fun hk => ?_)
    · exact retV hk.out dX10_needs_24
    · refine g_aload_n C 0 dX10_needs_11 rfl rfl (n := 12) rfl ?_
      refine g_iload_n C 2 dX10_needs_12 rfl rfl (n := 13) rfl ?_
      refine g_putI C kc_24 ft_24_15 (by decide) (by decide) (by decide) rfl (fitI _) wm_912 dX10_needs_13 (n := 16) rfl hk (fun h1 hk => ?_)
      refine g_aload_n C 0 dX10_needs_16 rfl rfl (n := 17) rfl ?_
      refine g_aload_n C 0 dX10_needs_17 rfl rfl (n := 18) rfl ?_
      refine g_getI C kc_24 ft_24_12 (by decide) (by decide) (by decide) wm_909 dX10_needs_18 (n := 21) rfl ?_
      refine g_putI C kc_24 ft_24_16 (by decide) (by decide) (by decide) rfl (fitI _) wm_913 dX10_needs_21 (n := 24) rfl hk (fun h2 hk => ?_)
      exact retV hk.out dX10_needs_24
def f_X10_looked (p1 : Int32) (p2 : Int32) (h : Mem) : Option (Int32 × Mem) := obd ((if (h 24 15 0 0) = 0 then obd ((if (h 24 13 0 0) = (2 : Int32) then some true else some false)) (fun a3 => obd (f_X10_needs a3 (2 : Int32) h) (fun h4 => some h4)) else some h)) (fun a5 => obd ((if (a5 24 15 0 0) = 0 then obd (f_X10_in ((a5 24 14 0 0).toInt64) ((p1).toInt64) ((p2).toInt64) a5) (fun r8 => obd (f_X10_needs r8 (3 : Int32) a5) (fun h9 => some h9)) else some a5)) (fun a10 => (if (a10 24 15 0 0) = 0 then some ((a10 24 14 0 0), a10) else some ((0 : Int32), a10))))
def rm_X10_looked : Room := { frames := 1, cells := 0, slots := 0, locals := 25 }
set_option maxHeartbeats 4000000 in
set_option maxRecDepth 100000 in
theorem L_X10_looked (Θ : Tht) (p1 : Int32) (p2 : Int32) (h : Mem) (K : Int32 × Mem → Prop) (hk : Ok (f_X10_looked p1 p2 h) K) : CI Θ yX10_looked cX10_looked 3 (some .int) rm_X10_looked [.ref (rr Θ 24 0 0), .int p1, .int p2] h K := by
  refine CI.of K [(0, .ref (rr Θ 24 0 0)), (1, .int p1), (2, .int p2)] (plainFor_of_name (by decide)) (Nat.le_of_ble_eq_true rfl) rfl (fun Γ C Rt => ?_)
  replace hk := rtI Rt hk
  unfold f_X10_looked at hk
  refine g_aload_n C 0 dX10_looked_0 rfl rfl (n := 1) rfl ?_
  refine g_getI C kc_24 ft_24_15 (by decide) (by decide) (by decide) wm_912 dX10_looked_1 (n := 4) rfl ?_
  refine Ok.join hk (fun a5 => G Θ Γ 25 [(0, .ref (rr Θ 24 0 0)), (1, .int p1), (2, .int p2)] [] a5) (fun a5 hk => ?_) (fun hk => ?_)
  · refine g_aload_n C 0 dX10_looked_25 rfl rfl (n := 26) rfl ?_
    refine g_getI C kc_24 ft_24_15 (by decide) (by decide) (by decide) wm_912 dX10_looked_26 (n := 29) rfl ?_
    refine Ok.join hk (fun a10 => G Θ Γ 49 [(0, .ref (rr Θ 24 0 0))] [] a10) (fun a10 hk => ?_) (fun hk => ?_)
    · refine g_aload_n C 0 dX10_looked_49 rfl rfl (n := 50) rfl ?_
      refine g_getI C kc_24 ft_24_15 (by decide) (by decide) (by decide) wm_912 dX10_looked_50 (n := 53) rfl ?_
      refine g_if_ne C 63 dX10_looked_53 (by decide) (n := 56) rfl hk (fun hk => ?_) (fun hk => ?_)
      · refine g_iconst C (0 : Int32) dX10_looked_63 (by decide) (n := 64) rfl ?_
        exact retI hk.out dX10_looked_64
      · refine g_aload_n C 0 dX10_looked_56 rfl rfl (n := 57) rfl ?_
        refine g_getI C kc_24 ft_24_14 (by decide) (by decide) (by decide) wm_911 dX10_looked_57 (n := 60) rfl ?_
        refine g_goto C 64 dX10_looked_60 (by decide) ?_
        exact retI hk.out dX10_looked_64
    · refine g_if_ne C 49 dX10_looked_29 (by decide) (n := 32) rfl hk (fun hk => ?_) (fun hk => ?_)
      · refine g_lv [0] [(0, .ref (rr Θ 24 0 0))] rfl ?_
        exact hk.out
      · refine g_aload_n C 0 dX10_looked_32 rfl rfl (n := 33) rfl ?_
        refine g_aload_n C 0 dX10_looked_33 rfl rfl (n := 34) rfl ?_
        refine g_getI C kc_24 ft_24_14 (by decide) (by decide) (by decide) wm_911 dX10_looked_34 (n := 37) rfl ?_
        refine g_i2l C dX10_looked_37 (n := 38) rfl ?_
        refine g_iload_n C 1 dX10_looked_38 rfl rfl (n := 39) rfl ?_
        refine g_i2l C dX10_looked_39 (n := 40) rfl ?_
        refine g_iload_n C 2 dX10_looked_40 rfl rfl (n := 41) rfl ?_
        refine g_i2l C dX10_looked_41 (n := 42) rfl ?_
        refine g_cSBp C hk (fun K hk => L_X10_in Θ ((a5 24 14 0 0).toInt64) ((p1).toInt64) ((p2).toInt64) a5 K hk) lk_X10_95 ⟨rfl, rfl⟩ ⟨Nat.le_of_ble_eq_true rfl, Nat.le_of_ble_eq_true rfl⟩ dX10_looked_42 rfl rfl (Nat.le_of_ble_eq_true rfl) (n := 45) rfl (fun r8 hk => ?_)
        refine g_iconst C (3 : Int32) dX10_looked_45 (by decide) (n := 46) rfl ?_
        refine g_cVV C hk (fun K hk => L_X10_needs Θ r8 (3 : Int32) a5 K hk) lk_X10_137 kc_24 (by decide) (by decide) ⟨rfl, rfl⟩ ⟨Nat.le_of_ble_eq_true rfl, Nat.le_of_ble_eq_true rfl⟩ dX10_looked_46 rfl rfl (Nat.le_of_ble_eq_true rfl) (n := 49) rfl (fun h9 hk => ?_)
        refine g_lv [0] [(0, .ref (rr Θ 24 0 0))] rfl ?_
        exact hk.out
  · refine g_if_ne C 25 dX10_looked_4 (by decide) (n := 7) rfl hk (fun hk => ?_) (fun hk => ?_)
    · exact hk.out
    · refine g_aload_n C 0 dX10_looked_7 rfl rfl (n := 8) rfl ?_
      refine g_aload_n C 0 dX10_looked_8 rfl rfl (n := 9) rfl ?_
      refine g_getI C kc_24 ft_24_13 (by decide) (by decide) (by decide) wm_910 dX10_looked_9 (n := 12) rfl ?_
      refine g_iconst C (2 : Int32) dX10_looked_12 (by decide) (n := 13) rfl ?_
      refine Ok.join hk (fun a3 => G Θ Γ 21 [(0, .ref (rr Θ 24 0 0)), (1, .int p1), (2, .int p2)] [.int (b2i a3), .ref (rr Θ 24 0 0)] h) (fun a3 hk => ?_) (fun hk => ?_)
      · refine g_iconst C (2 : Int32) dX10_looked_21 (by decide) (n := 22) rfl ?_
        refine g_cVV C hk (fun K hk => L_X10_needs Θ a3 (2 : Int32) h K hk) lk_X10_137 kc_24 (by decide) (by decide) ⟨rfl, rfl⟩ ⟨Nat.le_of_ble_eq_true rfl, Nat.le_of_ble_eq_true rfl⟩ dX10_looked_22 rfl rfl (Nat.le_of_ble_eq_true rfl) (n := 25) rfl (fun h4 hk => ?_)
        exact hk.out
      · refine g_ic_ne C 20 dX10_looked_13 (by decide) (n := 16) rfl hk (fun hk => ?_) (fun hk => ?_)
        · refine g_iconst C (0 : Int32) dX10_looked_20 (by decide) (n := 21) rfl ?_
          exact hk.out
        · refine g_iconst C (1 : Int32) dX10_looked_16 (by decide) (n := 17) rfl ?_
          refine g_goto C 21 dX10_looked_17 (by decide) ?_
          exact hk.out
def f_X10_lookedPlace  (h : Mem) : Option (Int32 × Mem) := ob2 (f_X10_looked (0 : Int32) (7 : Int32) h) (fun r1 h2 => (if (h2 24 15 0 0) = 0 then obd ((if r1 ≤ (h2 24 8 0 0) then some (h2 24 8 0 0) else some r1)) (fun a3 => bnd (up h2 24 8 0 0 a3) (fun h4 => some (r1, h4))) else some (r1, h2)))
def rm_X10_lookedPlace : Room := { frames := 2, cells := 0, slots := 0, locals := 47 }
set_option maxHeartbeats 4000000 in
set_option maxRecDepth 100000 in
theorem L_X10_lookedPlace (Θ : Tht)  (h : Mem) (K : Int32 × Mem → Prop) (hk : Ok (f_X10_lookedPlace  h) K) : CI Θ yX10_lookedPlace cX10_lookedPlace 2 (some .int) rm_X10_lookedPlace [.ref (rr Θ 24 0 0)] h K := by
  refine CI.of K [(0, .ref (rr Θ 24 0 0))] (plainFor_of_name (by decide)) (Nat.le_of_ble_eq_true rfl) rfl (fun Γ C Rt => ?_)
  replace hk := rtI Rt hk
  unfold f_X10_lookedPlace at hk
  refine g_aload_n C 0 dX10_lookedPlace_0 rfl rfl (n := 1) rfl ?_
  refine g_iconst C (0 : Int32) dX10_lookedPlace_1 (by decide) (n := 2) rfl ?_
  refine g_bipush C (7 : Int32) dX10_lookedPlace_2 (by decide) (n := 4) rfl ?_
  refine g_cVI C hk (fun K hk => L_X10_looked Θ (0 : Int32) (7 : Int32) h K hk) lk_X10_141 kc_24 (by decide) (by decide) ⟨rfl, rfl⟩ ⟨Nat.le_of_ble_eq_true rfl, Nat.le_of_ble_eq_true rfl⟩ dX10_lookedPlace_4 rfl rfl (Nat.le_of_ble_eq_true rfl) (n := 7) rfl (fun r1 h2 hk => ?_)
  refine g_istore_n C [(1, .int r1), (0, .ref (rr Θ 24 0 0))] dX10_lookedPlace_7 rfl (by decide) rfl (n := 8) rfl ?_
  refine g_aload_n C 1 dX10_lookedPlace_8 rfl rfl (n := 9) rfl ?_
  refine g_getI C kc_24 ft_24_15 (by decide) (by decide) (by decide) wm_912 dX10_lookedPlace_9 (n := 12) rfl ?_
  refine g_if_ne C 35 dX10_lookedPlace_12 (by decide) (n := 15) rfl hk (fun hk => ?_) (fun hk => ?_)
  · refine g_iload_n C 0 dX10_lookedPlace_35 rfl rfl (n := 36) rfl ?_
    exact retI hk.out dX10_lookedPlace_36
  · refine g_aload_n C 1 dX10_lookedPlace_15 rfl rfl (n := 16) rfl ?_
    refine g_iload_n C 0 dX10_lookedPlace_16 rfl rfl (n := 17) rfl ?_
    refine g_aload_n C 1 dX10_lookedPlace_17 rfl rfl (n := 18) rfl ?_
    refine g_getI C kc_24 ft_24_8 (by decide) (by decide) (by decide) wm_905 dX10_lookedPlace_18 (n := 21) rfl ?_
    refine Ok.join hk (fun a3 => G Θ Γ 32 [(1, .int r1)] [.int a3, .ref (rr Θ 24 0 0)] h2) (fun a3 hk => ?_) (fun hk => ?_)
    · refine g_putI C kc_24 ft_24_8 (by decide) (by decide) (by decide) rfl (fitI _) wm_905 dX10_lookedPlace_32 (n := 35) rfl hk (fun h4 hk => ?_)
      refine g_iload_n C 0 dX10_lookedPlace_35 rfl rfl (n := 36) rfl ?_
      exact retI hk.out dX10_lookedPlace_36
    · refine g_ic_le C 28 dX10_lookedPlace_21 (by decide) (n := 24) rfl hk (fun hk => ?_) (fun hk => ?_)
      · refine g_aload_n C 1 dX10_lookedPlace_28 rfl rfl (n := 29) rfl ?_
        refine g_getI C kc_24 ft_24_8 (by decide) (by decide) (by decide) wm_905 dX10_lookedPlace_29 (n := 32) rfl ?_
        refine g_lv [0] [(1, .int r1)] rfl ?_
        exact hk.out
      · refine g_iload_n C 0 dX10_lookedPlace_24 rfl rfl (n := 25) rfl ?_
        refine g_goto C 32 dX10_lookedPlace_25 (by decide) ?_
        refine g_lv [0] [(1, .int r1)] rfl ?_
        exact hk.out
def f_X10_mint (p1 : Int32) (p2 : Int32) (h : Mem) : Option (Int32 × Mem) := obd (f_X10_in ((p1).toInt64) (1 : Int64) (9 : Int64) h) (fun r1 => (if r1 = true then obd (f_X10_isPlace p2 h) (fun r2 => (if r2 = true then (if (h 25 0 0 8) = (6 : Int32) then some ((-3 : Int32), h) else bnd (h 25 0 0 8) (fun x3 => gd (inb ((9 : Int32) + x3) 237) (bnd (up h 25 0 0 ((9 : Int32) + x3).toNatClampNeg p1) (fun h4 => gd (inb ((15 : Int32) + x3) 237) (bnd (up h4 25 0 0 ((15 : Int32) + x3).toNatClampNeg (0 : Int32)) (fun h5 => gd (inb ((21 : Int32) + x3) 237) (bnd (up h5 25 0 0 ((21 : Int32) + x3).toNatClampNeg p2) (fun h6 => bnd (up h6 25 0 0 8 ((h6 25 0 0 8) + (1 : Int32))) (fun h7 => some ((h7 25 0 0 8), h7)))))))))) else some ((-1 : Int32), h))) else some ((-1 : Int32), h)))
def rm_X10_mint : Room := { frames := 2, cells := 0, slots := 0, locals := 46 }
set_option maxHeartbeats 4000000 in
set_option maxRecDepth 100000 in
theorem L_X10_mint (Θ : Tht) (p1 : Int32) (p2 : Int32) (h : Mem) (K : Int32 × Mem → Prop) (hk : Ok (f_X10_mint p1 p2 h) K) : CI Θ yX10_mint cX10_mint 4 (some .int) rm_X10_mint [.ref (rr Θ 24 0 0), .int p1, .int p2] h K := by
  refine CI.of K [(0, .ref (rr Θ 24 0 0)), (1, .int p1), (2, .int p2)] (plainFor_of_name (by decide)) (Nat.le_of_ble_eq_true rfl) rfl (fun Γ C Rt => ?_)
  replace hk := rtI Rt hk
  unfold f_X10_mint at hk
  refine g_iload_n C 1 dX10_mint_0 rfl rfl (n := 1) rfl ?_
  refine g_i2l C dX10_mint_1 (n := 2) rfl ?_
  refine g_lconst C (1 : Int64) dX10_mint_2 (by decide) (n := 3) rfl ?_
  refine g_ldc2 C (9 : Int64) wm_1135 dX10_mint_3 (n := 6) rfl ?_
  refine g_cSBp C hk (fun K hk => L_X10_in Θ ((p1).toInt64) (1 : Int64) (9 : Int64) h K hk) lk_X10_95 ⟨rfl, rfl⟩ ⟨Nat.le_of_ble_eq_true rfl, Nat.le_of_ble_eq_true rfl⟩ dX10_mint_6 rfl rfl (Nat.le_of_ble_eq_true rfl) (n := 9) rfl (fun r1 hk => ?_)
  refine g_bf C 20 dX10_mint_9 (by decide) (n := 12) rfl hk (fun hk => ?_) (fun hk => ?_)
  · refine g_iconst C (-1 : Int32) dX10_mint_20 (by decide) (n := 21) rfl ?_
    exact retI hk.out dX10_mint_21
  · refine g_aload_n C 0 dX10_mint_12 rfl rfl (n := 13) rfl ?_
    refine g_iload_n C 2 dX10_mint_13 rfl rfl (n := 14) rfl ?_
    refine g_cVBp C hk (fun K hk => L_X10_isPlace Θ p2 h K hk) lk_X10_216 kc_24 (by decide) (by decide) ⟨rfl, rfl⟩ ⟨Nat.le_of_ble_eq_true rfl, Nat.le_of_ble_eq_true rfl⟩ dX10_mint_14 rfl rfl (Nat.le_of_ble_eq_true rfl) (n := 17) rfl (fun r2 hk => ?_)
    refine g_bt C 22 dX10_mint_17 (by decide) (n := 20) rfl hk (fun hk => ?_) (fun hk => ?_)
    · refine g_aload_n C 0 dX10_mint_22 rfl rfl (n := 23) rfl ?_
      refine g_getR C kc_24 (rt_24_0 (tB Θ) 0) (by decide) (by decide) (by decide) wm_897 dX10_mint_23 (n := 26) rfl ?_
      refine g_bipush C (8 : Int32) dX10_mint_26 (by decide) (n := 28) rfl ?_
      refine g_ialdL C 8 an_25 (by decide) (by decide) (by decide) dX10_mint_28 (n := 29) rfl ?_
      refine g_bipush C (6 : Int32) dX10_mint_29 (by decide) (n := 31) rfl ?_
      refine g_ic_ne C 37 dX10_mint_31 (by decide) (n := 34) rfl hk (fun hk => ?_) (fun hk => ?_)
      · refine g_aload_n C 0 dX10_mint_37 rfl rfl (n := 38) rfl ?_
        refine g_getR C kc_24 (rt_24_0 (tB Θ) 0) (by decide) (by decide) (by decide) wm_897 dX10_mint_38 (n := 41) rfl ?_
        refine g_bipush C (8 : Int32) dX10_mint_41 (by decide) (n := 43) rfl ?_
        refine g_ialdL C 8 an_25 (by decide) (by decide) (by decide) dX10_mint_43 (n := 44) rfl ?_
        refine g_nm hk (fun x3 hk => ?_)
        refine g_istore_n C [(3, .int x3), (0, .ref (rr Θ 24 0 0)), (1, .int p1), (2, .int p2)] dX10_mint_44 rfl (by decide) rfl (n := 45) rfl ?_
        refine g_aload_n C 1 dX10_mint_45 rfl rfl (n := 46) rfl ?_
        refine g_getR C kc_24 (rt_24_0 (tB Θ) 0) (by decide) (by decide) (by decide) wm_897 dX10_mint_46 (n := 49) rfl ?_
        refine g_bipush C (9 : Int32) dX10_mint_49 (by decide) (n := 51) rfl ?_
        refine g_iload_n C 0 dX10_mint_51 rfl rfl (n := 52) rfl ?_
        refine g_iadd C dX10_mint_52 (n := 53) rfl ?_
        refine g_iload_n C 2 dX10_mint_53 rfl rfl (n := 54) rfl ?_
        refine g_iast C an_25 (by decide) dX10_mint_54 (n := 55) rfl hk (fun _ h4 hk => ?_)
        refine g_aload_n C 1 dX10_mint_55 rfl rfl (n := 56) rfl ?_
        refine g_getR C kc_24 (rt_24_0 (tB Θ) 0) (by decide) (by decide) (by decide) wm_897 dX10_mint_56 (n := 59) rfl ?_
        refine g_bipush C (15 : Int32) dX10_mint_59 (by decide) (n := 61) rfl ?_
        refine g_iload_n C 0 dX10_mint_61 rfl rfl (n := 62) rfl ?_
        refine g_iadd C dX10_mint_62 (n := 63) rfl ?_
        refine g_iconst C (0 : Int32) dX10_mint_63 (by decide) (n := 64) rfl ?_
        refine g_iast C an_25 (by decide) dX10_mint_64 (n := 65) rfl hk (fun _ h5 hk => ?_)
        refine g_aload_n C 1 dX10_mint_65 rfl rfl (n := 66) rfl ?_
        refine g_getR C kc_24 (rt_24_0 (tB Θ) 0) (by decide) (by decide) (by decide) wm_897 dX10_mint_66 (n := 69) rfl ?_
        refine g_bipush C (21 : Int32) dX10_mint_69 (by decide) (n := 71) rfl ?_
        refine g_iload_n C 0 dX10_mint_71 rfl rfl (n := 72) rfl ?_
        refine g_iadd C dX10_mint_72 (n := 73) rfl ?_
        refine g_iload_n C 3 dX10_mint_73 rfl rfl (n := 74) rfl ?_
        refine g_iast C an_25 (by decide) dX10_mint_74 (n := 75) rfl hk (fun _ h6 hk => ?_)
        refine g_aload_n C 1 dX10_mint_75 rfl rfl (n := 76) rfl ?_
        refine g_getR C kc_24 (rt_24_0 (tB Θ) 0) (by decide) (by decide) (by decide) wm_897 dX10_mint_76 (n := 79) rfl ?_
        refine g_bipush C (8 : Int32) dX10_mint_79 (by decide) (n := 81) rfl ?_
        refine g_dup2 C dX10_mint_81 rfl rfl (n := 82) rfl ?_
        refine g_ialdL C 8 an_25 (by decide) (by decide) (by decide) dX10_mint_82 (n := 83) rfl ?_
        refine g_iconst C (1 : Int32) dX10_mint_83 (by decide) (n := 84) rfl ?_
        refine g_iadd C dX10_mint_84 (n := 85) rfl ?_
        refine g_iastL C 8 an_25 (by decide) (by decide) (by decide) dX10_mint_85 (n := 86) rfl hk (fun h7 hk => ?_)
        refine g_aload_n C 1 dX10_mint_86 rfl rfl (n := 87) rfl ?_
        refine g_getR C kc_24 (rt_24_0 (tB Θ) 0) (by decide) (by decide) (by decide) wm_897 dX10_mint_87 (n := 90) rfl ?_
        refine g_bipush C (8 : Int32) dX10_mint_90 (by decide) (n := 92) rfl ?_
        refine g_ialdL C 8 an_25 (by decide) (by decide) (by decide) dX10_mint_92 (n := 93) rfl ?_
        exact retI hk.out dX10_mint_93
      · refine g_bipush C (-3 : Int32) dX10_mint_34 (by decide) (n := 36) rfl ?_
        exact retI hk.out dX10_mint_36
    · refine g_iconst C (-1 : Int32) dX10_mint_20 (by decide) (n := 21) rfl ?_
      exact retI hk.out dX10_mint_21
def f_X10_next  (h : Mem) : Option (Mem) := (if (h 24 15 0 0) ≤ 0 then obd (lp fu (fun a4 => obd (f_X10_look (a4 24 11 0 0) a4) (fun r5 => (if r5 = (32 : Int32) then bnd (up a4 24 11 0 0 ((a4 24 11 0 0) + (1 : Int32))) (fun h6 => some (.inl h6)) else some (.inr a4)))) h) (fun e7 => bnd (up e7 24 12 0 0 (e7 24 11 0 0)) (fun h8 => obd (f_X10_look (h8 24 11 0 0) h8) (fun r9 => (if 0 ≤ r9 then obd (f_X10_in ((r9).toInt64) (97 : Int64) (122 : Int64) h8) (fun r10 => (if r10 = true then bnd (up h8 24 13 0 0 (1 : Int32)) (fun h37 => obd (lp fu (fun a42 => obd (f_X10_look (a42 24 11 0 0) a42) (fun r43 => obd (f_X10_in ((r43).toInt64) (97 : Int64) (122 : Int64) a42) (fun r44 => (if r44 = true then bnd (up a42 24 11 0 0 ((a42 24 11 0 0) + (1 : Int32))) (fun h45 => some (.inl h45)) else some (.inr (.inl a42)))))) h37) (Sum.elim (fun r => some r) (fun e46 => obd (f_X10_in ((r9).toInt64) (48 : Int64) (57 : Int64) e46) (fun r47 => (if r47 = true then bnd (up e46 24 13 0 0 (2 : Int32)) (fun h52 => bnd (up h52 24 14 0 0 (0 : Int32)) (fun h53 => obd (lp fu (fun a62 => obd (f_X10_look (a62 24 11 0 0) a62) (fun r63 => obd (f_X10_in ((r63).toInt64) (48 : Int64) (57 : Int64) a62) (fun r64 => (if r64 = true then obd ((if (2 : Int32) ≤ ((a62 24 11 0 0) - (a62 24 12 0 0)) then some (a62 24 14 0 0) else obd (f_X10_look (a62 24 11 0 0) a62) (fun r66 => some ((((10 : Int32) * (a62 24 14 0 0)) + r66) - (48 : Int32))))) (fun a67 => bnd (up a62 24 14 0 0 a67) (fun h68 => bnd (up h68 24 11 0 0 ((h68 24 11 0 0) + (1 : Int32))) (fun h69 => some (.inl h69)))) else some (.inr a62))))) h53) (fun e70 => obd ((if (2 : Int32) < ((e70 24 11 0 0) - (e70 24 12 0 0)) then some false else some true)) (fun a71 => obd (f_X10_needs a71 (1 : Int32) e70) (fun h72 => some h72))))) else bnd (up e46 24 13 0 0 (3 : Int32)) (fun h48 => obd ((if r9 = (59 : Int32) then some true else some false)) (fun a49 => obd (f_X10_needs a49 (1 : Int32) h48) (fun h50 => bnd (up h50 24 11 0 0 ((h50 24 11 0 0) + (1 : Int32))) (fun h51 => some h51))))))))) else obd (f_X10_in ((r9).toInt64) (48 : Int64) (57 : Int64) h8) (fun r11 => (if r11 = true then bnd (up h8 24 13 0 0 (2 : Int32)) (fun h16 => bnd (up h16 24 14 0 0 (0 : Int32)) (fun h17 => obd (lp fu (fun a26 => obd (f_X10_look (a26 24 11 0 0) a26) (fun r27 => obd (f_X10_in ((r27).toInt64) (48 : Int64) (57 : Int64) a26) (fun r28 => (if r28 = true then obd ((if (2 : Int32) ≤ ((a26 24 11 0 0) - (a26 24 12 0 0)) then some (a26 24 14 0 0) else obd (f_X10_look (a26 24 11 0 0) a26) (fun r30 => some ((((10 : Int32) * (a26 24 14 0 0)) + r30) - (48 : Int32))))) (fun a31 => bnd (up a26 24 14 0 0 a31) (fun h32 => bnd (up h32 24 11 0 0 ((h32 24 11 0 0) + (1 : Int32))) (fun h33 => some (.inl h33)))) else some (.inr a26))))) h17) (fun e34 => obd ((if (2 : Int32) < ((e34 24 11 0 0) - (e34 24 12 0 0)) then some false else some true)) (fun a35 => obd (f_X10_needs a35 (1 : Int32) e34) (fun h36 => some h36))))) else bnd (up h8 24 13 0 0 (3 : Int32)) (fun h12 => obd ((if r9 = (59 : Int32) then some true else some false)) (fun a13 => obd (f_X10_needs a13 (1 : Int32) h12) (fun h14 => bnd (up h14 24 11 0 0 ((h14 24 11 0 0) + (1 : Int32))) (fun h15 => some h15)))))))) else bnd (up h8 24 13 0 0 (0 : Int32)) (fun h73 => some h73))))) else some h)
def rm_X10_next : Room := { frames := 1, cells := 0, slots := 0, locals := 25 }
set_option maxHeartbeats 4000000 in
set_option maxRecDepth 100000 in
theorem L_X10_next (Θ : Tht)  (h : Mem) (K : Mem → Prop) (hk : Ok (f_X10_next  h) K) : CV Θ yX10_next cX10_next 2 none rm_X10_next [.ref (rr Θ 24 0 0)] h K := by
  refine CV.of K [(0, .ref (rr Θ 24 0 0))] (plainFor_of_name (by decide)) (Nat.le_of_ble_eq_true rfl) rfl (fun Γ C Rt => ?_)
  replace hk := rtV Rt hk
  unfold f_X10_next at hk
  refine g_aload_n C 0 dX10_next_0 rfl rfl (n := 1) rfl ?_
  refine g_getI C kc_24 ft_24_15 (by decide) (by decide) (by decide) wm_912 dX10_next_1 (n := 4) rfl ?_
  refine g_if_le C 8 dX10_next_4 (by decide) (n := 7) rfl hk (fun hk => ?_) (fun hk => ?_)
  · refine Ok.join hk (fun e7 => G Θ Γ 34 [(0, .ref (rr Θ 24 0 0))] [] e7) (fun e7 hk => ?_) (fun hk => ?_)
    · refine g_aload_n C 0 dX10_next_34 rfl rfl (n := 35) rfl ?_
      refine g_aload_n C 0 dX10_next_35 rfl rfl (n := 36) rfl ?_
      refine g_getI C kc_24 ft_24_11 (by decide) (by decide) (by decide) wm_908 dX10_next_36 (n := 39) rfl ?_
      refine g_putI C kc_24 ft_24_12 (by decide) (by decide) (by decide) rfl (fitI _) wm_909 dX10_next_39 (n := 42) rfl hk (fun h8 hk => ?_)
      refine g_aload_n C 0 dX10_next_42 rfl rfl (n := 43) rfl ?_
      refine g_aload_n C 0 dX10_next_43 rfl rfl (n := 44) rfl ?_
      refine g_getI C kc_24 ft_24_11 (by decide) (by decide) (by decide) wm_908 dX10_next_44 (n := 47) rfl ?_
      refine g_cVIp C hk (fun K hk => L_X10_look Θ (h8 24 11 0 0) h8 K hk) lk_X10_111 kc_24 (by decide) (by decide) ⟨rfl, rfl⟩ ⟨Nat.le_of_ble_eq_true rfl, Nat.le_of_ble_eq_true rfl⟩ dX10_next_47 rfl rfl (Nat.le_of_ble_eq_true rfl) (n := 50) rfl (fun r9 hk => ?_)
      refine g_istore_n C [(1, .int r9), (0, .ref (rr Θ 24 0 0))] dX10_next_50 rfl (by decide) rfl (n := 51) rfl ?_
      refine g_iload_n C 0 dX10_next_51 rfl rfl (n := 52) rfl ?_
      refine g_if_ge C 63 dX10_next_52 (by decide) (n := 55) rfl hk (fun hk => ?_) (fun hk => ?_)
      · refine g_iload_n C 0 dX10_next_63 rfl rfl (n := 64) rfl ?_
        refine g_i2l C dX10_next_64 (n := 65) rfl ?_
        refine g_ldc2 C (97 : Int64) wm_1024 dX10_next_65 (n := 68) rfl ?_
        refine g_ldc2 C (122 : Int64) wm_1025 dX10_next_68 (n := 71) rfl ?_
        refine g_cSBp C hk (fun K hk => L_X10_in Θ ((r9).toInt64) (97 : Int64) (122 : Int64) h8 K hk) lk_X10_95 ⟨rfl, rfl⟩ ⟨Nat.le_of_ble_eq_true rfl, Nat.le_of_ble_eq_true rfl⟩ dX10_next_71 rfl rfl (Nat.le_of_ble_eq_true rfl) (n := 74) rfl (fun r10 hk => ?_)
        refine g_bf C 116 dX10_next_74 (by decide) (n := 77) rfl hk (fun hk => ?_) (fun hk => ?_)
        · refine g_iload_n C 0 dX10_next_116 rfl rfl (n := 117) rfl ?_
          refine g_i2l C dX10_next_117 (n := 118) rfl ?_
          refine g_ldc2 C (48 : Int64) wm_1026 dX10_next_118 (n := 121) rfl ?_
          refine g_ldc2 C (57 : Int64) wm_1027 dX10_next_121 (n := 124) rfl ?_
          refine g_cSBp C hk (fun K hk => L_X10_in Θ ((r9).toInt64) (48 : Int64) (57 : Int64) h8 K hk) lk_X10_95 ⟨rfl, rfl⟩ ⟨Nat.le_of_ble_eq_true rfl, Nat.le_of_ble_eq_true rfl⟩ dX10_next_124 rfl rfl (Nat.le_of_ble_eq_true rfl) (n := 127) rfl (fun r11 hk => ?_)
          refine g_bf C 243 dX10_next_127 (by decide) (n := 130) rfl hk (fun hk => ?_) (fun hk => ?_)
          · refine g_aload_n C 1 dX10_next_243 rfl rfl (n := 244) rfl ?_
            refine g_iconst C (3 : Int32) dX10_next_244 (by decide) (n := 245) rfl ?_
            refine g_putI C kc_24 ft_24_13 (by decide) (by decide) (by decide) rfl (fitI _) wm_910 dX10_next_245 (n := 248) rfl hk (fun h12 hk => ?_)
            refine g_aload_n C 1 dX10_next_248 rfl rfl (n := 249) rfl ?_
            refine g_iload_n C 0 dX10_next_249 rfl rfl (n := 250) rfl ?_
            refine g_bipush C (59 : Int32) dX10_next_250 (by decide) (n := 252) rfl ?_
            refine Ok.join hk (fun a13 => G Θ Γ 260 [(0, .ref (rr Θ 24 0 0))] [.int (b2i a13), .ref (rr Θ 24 0 0)] h12) (fun a13 hk => ?_) (fun hk => ?_)
            · refine g_iconst C (1 : Int32) dX10_next_260 (by decide) (n := 261) rfl ?_
              refine g_cVV C hk (fun K hk => L_X10_needs Θ a13 (1 : Int32) h12 K hk) lk_X10_137 kc_24 (by decide) (by decide) ⟨rfl, rfl⟩ ⟨Nat.le_of_ble_eq_true rfl, Nat.le_of_ble_eq_true rfl⟩ dX10_next_261 rfl rfl (Nat.le_of_ble_eq_true rfl) (n := 264) rfl (fun h14 hk => ?_)
              refine g_aload_n C 0 dX10_next_264 rfl rfl (n := 265) rfl ?_
              refine g_dup C dX10_next_265 rfl (n := 266) rfl ?_
              refine g_getI C kc_24 ft_24_11 (by decide) (by decide) (by decide) wm_908 dX10_next_266 (n := 269) rfl ?_
              refine g_iconst C (1 : Int32) dX10_next_269 (by decide) (n := 270) rfl ?_
              refine g_iadd C dX10_next_270 (n := 271) rfl ?_
              refine g_putI C kc_24 ft_24_11 (by decide) (by decide) (by decide) rfl (fitI _) wm_908 dX10_next_271 (n := 274) rfl hk (fun h15 hk => ?_)
              exact retV hk.out dX10_next_274
            · refine g_ic_ne C 259 dX10_next_252 (by decide) (n := 255) rfl hk (fun hk => ?_) (fun hk => ?_)
              · refine g_iconst C (0 : Int32) dX10_next_259 (by decide) (n := 260) rfl ?_
                refine g_lv [1] [(0, .ref (rr Θ 24 0 0))] rfl ?_
                exact hk.out
              · refine g_iconst C (1 : Int32) dX10_next_255 (by decide) (n := 256) rfl ?_
                refine g_goto C 260 dX10_next_256 (by decide) ?_
                refine g_lv [1] [(0, .ref (rr Θ 24 0 0))] rfl ?_
                exact hk.out
          · refine g_aload_n C 1 dX10_next_130 rfl rfl (n := 131) rfl ?_
            refine g_iconst C (2 : Int32) dX10_next_131 (by decide) (n := 132) rfl ?_
            refine g_putI C kc_24 ft_24_13 (by decide) (by decide) (by decide) rfl (fitI _) wm_910 dX10_next_132 (n := 135) rfl hk (fun h16 hk => ?_)
            refine g_aload_n C 1 dX10_next_135 rfl rfl (n := 136) rfl ?_
            refine g_iconst C (0 : Int32) dX10_next_136 (by decide) (n := 137) rfl ?_
            refine g_putI C kc_24 ft_24_14 (by decide) (by decide) (by decide) rfl (fitI _) wm_911 dX10_next_137 (n := 140) rfl hk (fun h17 hk => ?_)
            refine g_lv [1] [(0, .ref (rr Θ 24 0 0))] rfl ?_
            refine Ok.join hk (fun e34 => G Θ Γ 217 [(0, .ref (rr Θ 24 0 0))] [] e34) (fun e34 hk => ?_) (fun hk => ?_)
            · refine g_aload_n C 0 dX10_next_217 rfl rfl (n := 218) rfl ?_
              refine g_aload_n C 0 dX10_next_218 rfl rfl (n := 219) rfl ?_
              refine g_getI C kc_24 ft_24_11 (by decide) (by decide) (by decide) wm_908 dX10_next_219 (n := 222) rfl ?_
              refine g_aload_n C 0 dX10_next_222 rfl rfl (n := 223) rfl ?_
              refine g_getI C kc_24 ft_24_12 (by decide) (by decide) (by decide) wm_909 dX10_next_223 (n := 226) rfl ?_
              refine g_isub C dX10_next_226 (n := 227) rfl ?_
              refine g_iconst C (2 : Int32) dX10_next_227 (by decide) (n := 228) rfl ?_
              refine Ok.join hk (fun a35 => G Θ Γ 236 [] [.int (b2i a35), .ref (rr Θ 24 0 0)] e34) (fun a35 hk => ?_) (fun hk => ?_)
              · refine g_iconst C (1 : Int32) dX10_next_236 (by decide) (n := 237) rfl ?_
                refine g_cVV C hk (fun K hk => L_X10_needs Θ a35 (1 : Int32) e34 K hk) lk_X10_137 kc_24 (by decide) (by decide) ⟨rfl, rfl⟩ ⟨Nat.le_of_ble_eq_true rfl, Nat.le_of_ble_eq_true rfl⟩ dX10_next_237 rfl rfl (Nat.le_of_ble_eq_true rfl) (n := 240) rfl (fun h36 hk => ?_)
                refine g_goto C 274 dX10_next_240 (by decide) ?_
                exact retV hk.out dX10_next_274
              · refine g_ic_gt C 235 dX10_next_228 (by decide) (n := 231) rfl hk (fun hk => ?_) (fun hk => ?_)
                · refine g_iconst C (0 : Int32) dX10_next_235 (by decide) (n := 236) rfl ?_
                  refine g_lv [] [] rfl ?_
                  exact hk.out
                · refine g_iconst C (1 : Int32) dX10_next_231 (by decide) (n := 232) rfl ?_
                  refine g_goto C 236 dX10_next_232 (by decide) ?_
                  refine g_lv [] [] rfl ?_
                  exact hk.out
            · refine Ok.loop (fun a26 => G Θ Γ 140 [(0, .ref (rr Θ 24 0 0))] [] a26) (fun a26 hk => ?_) _ _ hk
              refine g_aload_n C 0 dX10_next_140 rfl rfl (n := 141) rfl ?_
              refine g_aload_n C 0 dX10_next_141 rfl rfl (n := 142) rfl ?_
              refine g_getI C kc_24 ft_24_11 (by decide) (by decide) (by decide) wm_908 dX10_next_142 (n := 145) rfl ?_
              refine g_cVIp C hk (fun K hk => L_X10_look Θ (a26 24 11 0 0) a26 K hk) lk_X10_111 kc_24 (by decide) (by decide) ⟨rfl, rfl⟩ ⟨Nat.le_of_ble_eq_true rfl, Nat.le_of_ble_eq_true rfl⟩ dX10_next_145 rfl rfl (Nat.le_of_ble_eq_true rfl) (n := 148) rfl (fun r27 hk => ?_)
              refine g_i2l C dX10_next_148 (n := 149) rfl ?_
              refine g_ldc2 C (48 : Int64) wm_1026 dX10_next_149 (n := 152) rfl ?_
              refine g_ldc2 C (57 : Int64) wm_1027 dX10_next_152 (n := 155) rfl ?_
              refine g_cSBp C hk (fun K hk => L_X10_in Θ ((r27).toInt64) (48 : Int64) (57 : Int64) a26 K hk) lk_X10_95 ⟨rfl, rfl⟩ ⟨Nat.le_of_ble_eq_true rfl, Nat.le_of_ble_eq_true rfl⟩ dX10_next_155 rfl rfl (Nat.le_of_ble_eq_true rfl) (n := 158) rfl (fun r28 hk => ?_)
              refine g_bf C 217 dX10_next_158 (by decide) (n := 161) rfl hk (fun hk => ?_) (fun hk => ?_)
              · exact hk.out
              · refine g_aload_n C 0 dX10_next_161 rfl rfl (n := 162) rfl ?_
                refine g_aload_n C 0 dX10_next_162 rfl rfl (n := 163) rfl ?_
                refine g_getI C kc_24 ft_24_11 (by decide) (by decide) (by decide) wm_908 dX10_next_163 (n := 166) rfl ?_
                refine g_aload_n C 0 dX10_next_166 rfl rfl (n := 167) rfl ?_
                refine g_getI C kc_24 ft_24_12 (by decide) (by decide) (by decide) wm_909 dX10_next_167 (n := 170) rfl ?_
                refine g_isub C dX10_next_170 (n := 171) rfl ?_
                refine g_iconst C (2 : Int32) dX10_next_171 (by decide) (n := 172) rfl ?_
                refine Ok.join hk (fun a31 => G Θ Γ 201 [(0, .ref (rr Θ 24 0 0))] [.int a31, .ref (rr Θ 24 0 0)] a26) (fun a31 hk => ?_) (fun hk => ?_)
                · refine g_putI C kc_24 ft_24_14 (by decide) (by decide) (by decide) rfl (fitI _) wm_911 dX10_next_201 (n := 204) rfl hk (fun h32 hk => ?_)
                  refine g_aload_n C 0 dX10_next_204 rfl rfl (n := 205) rfl ?_
                  refine g_dup C dX10_next_205 rfl (n := 206) rfl ?_
                  refine g_getI C kc_24 ft_24_11 (by decide) (by decide) (by decide) wm_908 dX10_next_206 (n := 209) rfl ?_
                  refine g_iconst C (1 : Int32) dX10_next_209 (by decide) (n := 210) rfl ?_
                  refine g_iadd C dX10_next_210 (n := 211) rfl ?_
                  refine g_putI C kc_24 ft_24_11 (by decide) (by decide) (by decide) rfl (fitI _) wm_908 dX10_next_211 (n := 214) rfl hk (fun h33 hk => ?_)
                  refine g_goto C 140 dX10_next_214 (by decide) ?_
                  exact hk.out
                · refine g_ic_ge C 197 dX10_next_172 (by decide) (n := 175) rfl hk (fun hk => ?_) (fun hk => ?_)
                  · refine g_aload_n C 0 dX10_next_197 rfl rfl (n := 198) rfl ?_
                    refine g_getI C kc_24 ft_24_14 (by decide) (by decide) (by decide) wm_911 dX10_next_198 (n := 201) rfl ?_
                    exact hk.out
                  · refine g_bipush C (10 : Int32) dX10_next_175 (by decide) (n := 177) rfl ?_
                    refine g_aload_n C 0 dX10_next_177 rfl rfl (n := 178) rfl ?_
                    refine g_getI C kc_24 ft_24_14 (by decide) (by decide) (by decide) wm_911 dX10_next_178 (n := 181) rfl ?_
                    refine g_imul C dX10_next_181 (n := 182) rfl ?_
                    refine g_aload_n C 0 dX10_next_182 rfl rfl (n := 183) rfl ?_
                    refine g_aload_n C 0 dX10_next_183 rfl rfl (n := 184) rfl ?_
                    refine g_getI C kc_24 ft_24_11 (by decide) (by decide) (by decide) wm_908 dX10_next_184 (n := 187) rfl ?_
                    refine g_cVIp C hk (fun K hk => L_X10_look Θ (a26 24 11 0 0) a26 K hk) lk_X10_111 kc_24 (by decide) (by decide) ⟨rfl, rfl⟩ ⟨Nat.le_of_ble_eq_true rfl, Nat.le_of_ble_eq_true rfl⟩ dX10_next_187 rfl rfl (Nat.le_of_ble_eq_true rfl) (n := 190) rfl (fun r30 hk => ?_)
                    refine g_iadd C dX10_next_190 (n := 191) rfl ?_
                    refine g_bipush C (48 : Int32) dX10_next_191 (by decide) (n := 193) rfl ?_
                    refine g_isub C dX10_next_193 (n := 194) rfl ?_
                    refine g_goto C 201 dX10_next_194 (by decide) ?_
                    exact hk.out
        · refine g_aload_n C 1 dX10_next_77 rfl rfl (n := 78) rfl ?_
          refine g_iconst C (1 : Int32) dX10_next_78 (by decide) (n := 79) rfl ?_
          refine g_putI C kc_24 ft_24_13 (by decide) (by decide) (by decide) rfl (fitI _) wm_910 dX10_next_79 (n := 82) rfl hk (fun h37 hk => ?_)
          refine g_lv [1] [(0, .ref (rr Θ 24 0 0))] rfl ?_
          refine Ok.join hk (Sum.elim (PV Θ Γ cX10_next) (fun e46 => G Θ Γ 116 [(0, .ref (rr Θ 24 0 0)), (1, .int r9)] [] e46)) (fun e hk => ?_) (fun hk => ?_)
          · rcases e with r | e46
            · exact hk.out
            · replace hk := ok_inr hk
              refine g_iload_n C 1 dX10_next_116 rfl rfl (n := 117) rfl ?_
              refine g_i2l C dX10_next_117 (n := 118) rfl ?_
              refine g_ldc2 C (48 : Int64) wm_1026 dX10_next_118 (n := 121) rfl ?_
              refine g_ldc2 C (57 : Int64) wm_1027 dX10_next_121 (n := 124) rfl ?_
              refine g_cSBp C hk (fun K hk => L_X10_in Θ ((r9).toInt64) (48 : Int64) (57 : Int64) e46 K hk) lk_X10_95 ⟨rfl, rfl⟩ ⟨Nat.le_of_ble_eq_true rfl, Nat.le_of_ble_eq_true rfl⟩ dX10_next_124 rfl rfl (Nat.le_of_ble_eq_true rfl) (n := 127) rfl (fun r47 hk => ?_)
              refine g_bf C 243 dX10_next_127 (by decide) (n := 130) rfl hk (fun hk => ?_) (fun hk => ?_)
              · refine g_aload_n C 0 dX10_next_243 rfl rfl (n := 244) rfl ?_
                refine g_iconst C (3 : Int32) dX10_next_244 (by decide) (n := 245) rfl ?_
                refine g_putI C kc_24 ft_24_13 (by decide) (by decide) (by decide) rfl (fitI _) wm_910 dX10_next_245 (n := 248) rfl hk (fun h48 hk => ?_)
                refine g_aload_n C 0 dX10_next_248 rfl rfl (n := 249) rfl ?_
                refine g_iload_n C 1 dX10_next_249 rfl rfl (n := 250) rfl ?_
                refine g_bipush C (59 : Int32) dX10_next_250 (by decide) (n := 252) rfl ?_
                refine Ok.join hk (fun a49 => G Θ Γ 260 [(0, .ref (rr Θ 24 0 0))] [.int (b2i a49), .ref (rr Θ 24 0 0)] h48) (fun a49 hk => ?_) (fun hk => ?_)
                · refine g_iconst C (1 : Int32) dX10_next_260 (by decide) (n := 261) rfl ?_
                  refine g_cVV C hk (fun K hk => L_X10_needs Θ a49 (1 : Int32) h48 K hk) lk_X10_137 kc_24 (by decide) (by decide) ⟨rfl, rfl⟩ ⟨Nat.le_of_ble_eq_true rfl, Nat.le_of_ble_eq_true rfl⟩ dX10_next_261 rfl rfl (Nat.le_of_ble_eq_true rfl) (n := 264) rfl (fun h50 hk => ?_)
                  refine g_aload_n C 0 dX10_next_264 rfl rfl (n := 265) rfl ?_
                  refine g_dup C dX10_next_265 rfl (n := 266) rfl ?_
                  refine g_getI C kc_24 ft_24_11 (by decide) (by decide) (by decide) wm_908 dX10_next_266 (n := 269) rfl ?_
                  refine g_iconst C (1 : Int32) dX10_next_269 (by decide) (n := 270) rfl ?_
                  refine g_iadd C dX10_next_270 (n := 271) rfl ?_
                  refine g_putI C kc_24 ft_24_11 (by decide) (by decide) (by decide) rfl (fitI _) wm_908 dX10_next_271 (n := 274) rfl hk (fun h51 hk => ?_)
                  exact retV hk.out dX10_next_274
                · refine g_ic_ne C 259 dX10_next_252 (by decide) (n := 255) rfl hk (fun hk => ?_) (fun hk => ?_)
                  · refine g_iconst C (0 : Int32) dX10_next_259 (by decide) (n := 260) rfl ?_
                    refine g_lv [0] [(0, .ref (rr Θ 24 0 0))] rfl ?_
                    exact hk.out
                  · refine g_iconst C (1 : Int32) dX10_next_255 (by decide) (n := 256) rfl ?_
                    refine g_goto C 260 dX10_next_256 (by decide) ?_
                    refine g_lv [0] [(0, .ref (rr Θ 24 0 0))] rfl ?_
                    exact hk.out
              · refine g_aload_n C 0 dX10_next_130 rfl rfl (n := 131) rfl ?_
                refine g_iconst C (2 : Int32) dX10_next_131 (by decide) (n := 132) rfl ?_
                refine g_putI C kc_24 ft_24_13 (by decide) (by decide) (by decide) rfl (fitI _) wm_910 dX10_next_132 (n := 135) rfl hk (fun h52 hk => ?_)
                refine g_aload_n C 0 dX10_next_135 rfl rfl (n := 136) rfl ?_
                refine g_iconst C (0 : Int32) dX10_next_136 (by decide) (n := 137) rfl ?_
                refine g_putI C kc_24 ft_24_14 (by decide) (by decide) (by decide) rfl (fitI _) wm_911 dX10_next_137 (n := 140) rfl hk (fun h53 hk => ?_)
                refine g_lv [0] [(0, .ref (rr Θ 24 0 0))] rfl ?_
                refine Ok.join hk (fun e70 => G Θ Γ 217 [(0, .ref (rr Θ 24 0 0))] [] e70) (fun e70 hk => ?_) (fun hk => ?_)
                · refine g_aload_n C 0 dX10_next_217 rfl rfl (n := 218) rfl ?_
                  refine g_aload_n C 0 dX10_next_218 rfl rfl (n := 219) rfl ?_
                  refine g_getI C kc_24 ft_24_11 (by decide) (by decide) (by decide) wm_908 dX10_next_219 (n := 222) rfl ?_
                  refine g_aload_n C 0 dX10_next_222 rfl rfl (n := 223) rfl ?_
                  refine g_getI C kc_24 ft_24_12 (by decide) (by decide) (by decide) wm_909 dX10_next_223 (n := 226) rfl ?_
                  refine g_isub C dX10_next_226 (n := 227) rfl ?_
                  refine g_iconst C (2 : Int32) dX10_next_227 (by decide) (n := 228) rfl ?_
                  refine Ok.join hk (fun a71 => G Θ Γ 236 [] [.int (b2i a71), .ref (rr Θ 24 0 0)] e70) (fun a71 hk => ?_) (fun hk => ?_)
                  · refine g_iconst C (1 : Int32) dX10_next_236 (by decide) (n := 237) rfl ?_
                    refine g_cVV C hk (fun K hk => L_X10_needs Θ a71 (1 : Int32) e70 K hk) lk_X10_137 kc_24 (by decide) (by decide) ⟨rfl, rfl⟩ ⟨Nat.le_of_ble_eq_true rfl, Nat.le_of_ble_eq_true rfl⟩ dX10_next_237 rfl rfl (Nat.le_of_ble_eq_true rfl) (n := 240) rfl (fun h72 hk => ?_)
                    refine g_goto C 274 dX10_next_240 (by decide) ?_
                    exact retV hk.out dX10_next_274
                  · refine g_ic_gt C 235 dX10_next_228 (by decide) (n := 231) rfl hk (fun hk => ?_) (fun hk => ?_)
                    · refine g_iconst C (0 : Int32) dX10_next_235 (by decide) (n := 236) rfl ?_
                      refine g_lv [] [] rfl ?_
                      exact hk.out
                    · refine g_iconst C (1 : Int32) dX10_next_231 (by decide) (n := 232) rfl ?_
                      refine g_goto C 236 dX10_next_232 (by decide) ?_
                      refine g_lv [] [] rfl ?_
                      exact hk.out
                · refine Ok.loop (fun a62 => G Θ Γ 140 [(0, .ref (rr Θ 24 0 0))] [] a62) (fun a62 hk => ?_) _ _ hk
                  refine g_aload_n C 0 dX10_next_140 rfl rfl (n := 141) rfl ?_
                  refine g_aload_n C 0 dX10_next_141 rfl rfl (n := 142) rfl ?_
                  refine g_getI C kc_24 ft_24_11 (by decide) (by decide) (by decide) wm_908 dX10_next_142 (n := 145) rfl ?_
                  refine g_cVIp C hk (fun K hk => L_X10_look Θ (a62 24 11 0 0) a62 K hk) lk_X10_111 kc_24 (by decide) (by decide) ⟨rfl, rfl⟩ ⟨Nat.le_of_ble_eq_true rfl, Nat.le_of_ble_eq_true rfl⟩ dX10_next_145 rfl rfl (Nat.le_of_ble_eq_true rfl) (n := 148) rfl (fun r63 hk => ?_)
                  refine g_i2l C dX10_next_148 (n := 149) rfl ?_
                  refine g_ldc2 C (48 : Int64) wm_1026 dX10_next_149 (n := 152) rfl ?_
                  refine g_ldc2 C (57 : Int64) wm_1027 dX10_next_152 (n := 155) rfl ?_
                  refine g_cSBp C hk (fun K hk => L_X10_in Θ ((r63).toInt64) (48 : Int64) (57 : Int64) a62 K hk) lk_X10_95 ⟨rfl, rfl⟩ ⟨Nat.le_of_ble_eq_true rfl, Nat.le_of_ble_eq_true rfl⟩ dX10_next_155 rfl rfl (Nat.le_of_ble_eq_true rfl) (n := 158) rfl (fun r64 hk => ?_)
                  refine g_bf C 217 dX10_next_158 (by decide) (n := 161) rfl hk (fun hk => ?_) (fun hk => ?_)
                  · exact hk.out
                  · refine g_aload_n C 0 dX10_next_161 rfl rfl (n := 162) rfl ?_
                    refine g_aload_n C 0 dX10_next_162 rfl rfl (n := 163) rfl ?_
                    refine g_getI C kc_24 ft_24_11 (by decide) (by decide) (by decide) wm_908 dX10_next_163 (n := 166) rfl ?_
                    refine g_aload_n C 0 dX10_next_166 rfl rfl (n := 167) rfl ?_
                    refine g_getI C kc_24 ft_24_12 (by decide) (by decide) (by decide) wm_909 dX10_next_167 (n := 170) rfl ?_
                    refine g_isub C dX10_next_170 (n := 171) rfl ?_
                    refine g_iconst C (2 : Int32) dX10_next_171 (by decide) (n := 172) rfl ?_
                    refine Ok.join hk (fun a67 => G Θ Γ 201 [(0, .ref (rr Θ 24 0 0))] [.int a67, .ref (rr Θ 24 0 0)] a62) (fun a67 hk => ?_) (fun hk => ?_)
                    · refine g_putI C kc_24 ft_24_14 (by decide) (by decide) (by decide) rfl (fitI _) wm_911 dX10_next_201 (n := 204) rfl hk (fun h68 hk => ?_)
                      refine g_aload_n C 0 dX10_next_204 rfl rfl (n := 205) rfl ?_
                      refine g_dup C dX10_next_205 rfl (n := 206) rfl ?_
                      refine g_getI C kc_24 ft_24_11 (by decide) (by decide) (by decide) wm_908 dX10_next_206 (n := 209) rfl ?_
                      refine g_iconst C (1 : Int32) dX10_next_209 (by decide) (n := 210) rfl ?_
                      refine g_iadd C dX10_next_210 (n := 211) rfl ?_
                      refine g_putI C kc_24 ft_24_11 (by decide) (by decide) (by decide) rfl (fitI _) wm_908 dX10_next_211 (n := 214) rfl hk (fun h69 hk => ?_)
                      refine g_goto C 140 dX10_next_214 (by decide) ?_
                      exact hk.out
                    · refine g_ic_ge C 197 dX10_next_172 (by decide) (n := 175) rfl hk (fun hk => ?_) (fun hk => ?_)
                      · refine g_aload_n C 0 dX10_next_197 rfl rfl (n := 198) rfl ?_
                        refine g_getI C kc_24 ft_24_14 (by decide) (by decide) (by decide) wm_911 dX10_next_198 (n := 201) rfl ?_
                        exact hk.out
                      · refine g_bipush C (10 : Int32) dX10_next_175 (by decide) (n := 177) rfl ?_
                        refine g_aload_n C 0 dX10_next_177 rfl rfl (n := 178) rfl ?_
                        refine g_getI C kc_24 ft_24_14 (by decide) (by decide) (by decide) wm_911 dX10_next_178 (n := 181) rfl ?_
                        refine g_imul C dX10_next_181 (n := 182) rfl ?_
                        refine g_aload_n C 0 dX10_next_182 rfl rfl (n := 183) rfl ?_
                        refine g_aload_n C 0 dX10_next_183 rfl rfl (n := 184) rfl ?_
                        refine g_getI C kc_24 ft_24_11 (by decide) (by decide) (by decide) wm_908 dX10_next_184 (n := 187) rfl ?_
                        refine g_cVIp C hk (fun K hk => L_X10_look Θ (a62 24 11 0 0) a62 K hk) lk_X10_111 kc_24 (by decide) (by decide) ⟨rfl, rfl⟩ ⟨Nat.le_of_ble_eq_true rfl, Nat.le_of_ble_eq_true rfl⟩ dX10_next_187 rfl rfl (Nat.le_of_ble_eq_true rfl) (n := 190) rfl (fun r66 hk => ?_)
                        refine g_iadd C dX10_next_190 (n := 191) rfl ?_
                        refine g_bipush C (48 : Int32) dX10_next_191 (by decide) (n := 193) rfl ?_
                        refine g_isub C dX10_next_193 (n := 194) rfl ?_
                        refine g_goto C 201 dX10_next_194 (by decide) ?_
                        exact hk.out
          · refine Ok.loop (fun a42 => G Θ Γ 82 [(0, .ref (rr Θ 24 0 0))] [] a42) (fun a42 hk => ?_) _ _ hk
            refine g_aload_n C 0 dX10_next_82 rfl rfl (n := 83) rfl ?_
            refine g_aload_n C 0 dX10_next_83 rfl rfl (n := 84) rfl ?_
            refine g_getI C kc_24 ft_24_11 (by decide) (by decide) (by decide) wm_908 dX10_next_84 (n := 87) rfl ?_
            refine g_cVIp C hk (fun K hk => L_X10_look Θ (a42 24 11 0 0) a42 K hk) lk_X10_111 kc_24 (by decide) (by decide) ⟨rfl, rfl⟩ ⟨Nat.le_of_ble_eq_true rfl, Nat.le_of_ble_eq_true rfl⟩ dX10_next_87 rfl rfl (Nat.le_of_ble_eq_true rfl) (n := 90) rfl (fun r43 hk => ?_)
            refine g_i2l C dX10_next_90 (n := 91) rfl ?_
            refine g_ldc2 C (97 : Int64) wm_1024 dX10_next_91 (n := 94) rfl ?_
            refine g_ldc2 C (122 : Int64) wm_1025 dX10_next_94 (n := 97) rfl ?_
            refine g_cSBp C hk (fun K hk => L_X10_in Θ ((r43).toInt64) (97 : Int64) (122 : Int64) a42 K hk) lk_X10_95 ⟨rfl, rfl⟩ ⟨Nat.le_of_ble_eq_true rfl, Nat.le_of_ble_eq_true rfl⟩ dX10_next_97 rfl rfl (Nat.le_of_ble_eq_true rfl) (n := 100) rfl (fun r44 hk => ?_)
            refine g_bf C 274 dX10_next_100 (by decide) (n := 103) rfl hk (fun hk => ?_) (fun hk => ?_)
            · exact retV hk.out dX10_next_274
            · refine g_aload_n C 0 dX10_next_103 rfl rfl (n := 104) rfl ?_
              refine g_dup C dX10_next_104 rfl (n := 105) rfl ?_
              refine g_getI C kc_24 ft_24_11 (by decide) (by decide) (by decide) wm_908 dX10_next_105 (n := 108) rfl ?_
              refine g_iconst C (1 : Int32) dX10_next_108 (by decide) (n := 109) rfl ?_
              refine g_iadd C dX10_next_109 (n := 110) rfl ?_
              refine g_putI C kc_24 ft_24_11 (by decide) (by decide) (by decide) rfl (fitI _) wm_908 dX10_next_110 (n := 113) rfl hk (fun h45 hk => ?_)
              refine g_goto C 82 dX10_next_113 (by decide) ?_
              exact hk.out
      · refine g_aload_n C 1 dX10_next_55 rfl rfl (n := 56) rfl ?_
        refine g_iconst C (0 : Int32) dX10_next_56 (by decide) (n := 57) rfl ?_
        refine g_putI C kc_24 ft_24_13 (by decide) (by decide) (by decide) rfl (fitI _) wm_910 dX10_next_57 (n := 60) rfl hk (fun h73 hk => ?_)
        refine g_goto C 274 dX10_next_60 (by decide) ?_
        exact retV hk.out dX10_next_274
    · refine Ok.loop (fun a4 => G Θ Γ 8 [(0, .ref (rr Θ 24 0 0))] [] a4) (fun a4 hk => ?_) _ _ hk
      refine g_aload_n C 0 dX10_next_8 rfl rfl (n := 9) rfl ?_
      refine g_aload_n C 0 dX10_next_9 rfl rfl (n := 10) rfl ?_
      refine g_getI C kc_24 ft_24_11 (by decide) (by decide) (by decide) wm_908 dX10_next_10 (n := 13) rfl ?_
      refine g_cVIp C hk (fun K hk => L_X10_look Θ (a4 24 11 0 0) a4 K hk) lk_X10_111 kc_24 (by decide) (by decide) ⟨rfl, rfl⟩ ⟨Nat.le_of_ble_eq_true rfl, Nat.le_of_ble_eq_true rfl⟩ dX10_next_13 rfl rfl (Nat.le_of_ble_eq_true rfl) (n := 16) rfl (fun r5 hk => ?_)
      refine g_bipush C (32 : Int32) dX10_next_16 (by decide) (n := 18) rfl ?_
      refine g_ic_ne C 34 dX10_next_18 (by decide) (n := 21) rfl hk (fun hk => ?_) (fun hk => ?_)
      · exact hk.out
      · refine g_aload_n C 0 dX10_next_21 rfl rfl (n := 22) rfl ?_
        refine g_dup C dX10_next_22 rfl (n := 23) rfl ?_
        refine g_getI C kc_24 ft_24_11 (by decide) (by decide) (by decide) wm_908 dX10_next_23 (n := 26) rfl ?_
        refine g_iconst C (1 : Int32) dX10_next_26 (by decide) (n := 27) rfl ?_
        refine g_iadd C dX10_next_27 (n := 28) rfl ?_
        refine g_putI C kc_24 ft_24_11 (by decide) (by decide) (by decide) rfl (fitI _) wm_908 dX10_next_28 (n := 31) rfl hk (fun h6 hk => ?_)
        refine g_goto C 8 dX10_next_31 (by decide) ?_
        exact hk.out
  · exact retV hk.out dX10_next_7
def f_X10_nextOrder  (h : Mem) : Option (Bool × Mem) := bnd ((h 24 3 0 0) - (2 : Int32)) (fun x1 => obd (lp fu (fun a4 => (if a4 < 0 then some (.inr a4) else gd (inb a4 4) (gd (inb (a4 + (1 : Int32)) 4) ((if (h 38 0 0 a4.toNatClampNeg) ≤ (h 38 0 0 (a4 + (1 : Int32)).toNatClampNeg) then some (.inr a4) else bnd (a4 + (-1 : Int32)) (fun x5 => some (.inl x5))))))) x1) (fun e6 => (if 0 ≤ e6 then bnd ((h 24 3 0 0) - (1 : Int32)) (fun x7 => obd (lp fu (fun a10 => gd (inb a10 4) (gd (inb e6 4) ((if (h 38 0 0 e6.toNatClampNeg) ≤ (h 38 0 0 a10.toNatClampNeg) then some (.inr a10) else bnd (a10 + (-1 : Int32)) (fun x11 => some (.inl x11)))))) x7) (fun e12 => gd (inb e6 4) (bnd (h 38 0 0 e6.toNatClampNeg) (fun x13 => gd (inb e12 4) (gd (inb e6 4) (bnd (up h 38 0 0 e6.toNatClampNeg (h 38 0 0 e12.toNatClampNeg)) (fun h14 => gd (inb e12 4) (bnd (up h14 38 0 0 e12.toNatClampNeg x13) (fun h15 => bnd (e6 + (1 : Int32)) (fun x16 => obd (lp fu (fun a23 => (if (((a23.2 24 3 0 0) + e6) - a23.1) ≤ a23.1 then some (.inr a23.2) else bnd (((a23.2 24 3 0 0) + e6) - a23.1) (fun x24 => gd (inb a23.1 4) (bnd (a23.2 38 0 0 a23.1.toNatClampNeg) (fun x25 => gd (inb x24 4) (gd (inb a23.1 4) (bnd (up a23.2 38 0 0 a23.1.toNatClampNeg (a23.2 38 0 0 x24.toNatClampNeg)) (fun h26 => gd (inb x24 4) (bnd (up h26 38 0 0 x24.toNatClampNeg x25) (fun h27 => bnd (a23.1 + (1 : Int32)) (fun x28 => some (.inl (x28, h27))))))))))))) (x16, h15)) (fun e29 => some (true, e29)))))))))))) else some (false, h))))
def rm_X10_nextOrder : Room := { frames := 0, cells := 0, slots := 0, locals := 0 }
set_option maxHeartbeats 4000000 in
set_option maxRecDepth 100000 in
theorem L_X10_nextOrder (Θ : Tht)  (h : Mem) (K : Bool × Mem → Prop) (hk : Ok (f_X10_nextOrder  h) K) : CB Θ yX10_nextOrder cX10_nextOrder 6 (some .boolean) rm_X10_nextOrder [.ref (rr Θ 24 0 0)] h K := by
  refine CB.of K [(0, .ref (rr Θ 24 0 0))] (plainFor_of_name (by decide)) (Nat.le_of_ble_eq_true rfl) rfl (fun Γ C Rt => ?_)
  replace hk := rtB Rt hk
  unfold f_X10_nextOrder at hk
  refine g_aload_n C 0 dX10_nextOrder_0 rfl rfl (n := 1) rfl ?_
  refine g_getI C kc_24 ft_24_3 (by decide) (by decide) (by decide) wm_900 dX10_nextOrder_1 (n := 4) rfl ?_
  refine g_iconst C (2 : Int32) dX10_nextOrder_4 (by decide) (n := 5) rfl ?_
  refine g_isub C dX10_nextOrder_5 (n := 6) rfl ?_
  refine g_nm hk (fun x1 hk => ?_)
  refine g_istore_n C [(1, .int x1), (0, .ref (rr Θ 24 0 0))] dX10_nextOrder_6 rfl (by decide) rfl (n := 7) rfl ?_
  refine g_lv [1, 0] [(0, .ref (rr Θ 24 0 0)), (1, .int x1)] rfl ?_
  refine Ok.join hk (fun e6 => G Θ Γ 34 [(0, .ref (rr Θ 24 0 0)), (1, .int e6)] [] h) (fun e6 hk => ?_) (fun hk => ?_)
  · refine g_iload_n C 1 dX10_nextOrder_34 rfl rfl (n := 35) rfl ?_
    refine g_if_ge C 40 dX10_nextOrder_35 (by decide) (n := 38) rfl hk (fun hk => ?_) (fun hk => ?_)
    · refine g_aload_n C 0 dX10_nextOrder_40 rfl rfl (n := 41) rfl ?_
      refine g_getI C kc_24 ft_24_3 (by decide) (by decide) (by decide) wm_900 dX10_nextOrder_41 (n := 44) rfl ?_
      refine g_iconst C (1 : Int32) dX10_nextOrder_44 (by decide) (n := 45) rfl ?_
      refine g_isub C dX10_nextOrder_45 (n := 46) rfl ?_
      refine g_nm hk (fun x7 hk => ?_)
      refine g_istore_n C [(2, .int x7), (0, .ref (rr Θ 24 0 0)), (1, .int e6)] dX10_nextOrder_46 rfl (by decide) rfl (n := 47) rfl ?_
      refine g_lv [1, 2, 0] [(0, .ref (rr Θ 24 0 0)), (1, .int e6), (2, .int x7)] rfl ?_
      refine Ok.join hk (fun e12 => G Θ Γ 68 [(0, .ref (rr Θ 24 0 0)), (1, .int e6), (2, .int e12)] [] h) (fun e12 hk => ?_) (fun hk => ?_)
      · refine g_aload_n C 0 dX10_nextOrder_68 rfl rfl (n := 69) rfl ?_
        refine g_getR C kc_24 (rt_24_28 (tB Θ) 0) (by decide) (by decide) (by decide) wm_925 dX10_nextOrder_69 (n := 72) rfl ?_
        refine g_iload_n C 1 dX10_nextOrder_72 rfl rfl (n := 73) rfl ?_
        refine g_iald C an_38 (by decide) dX10_nextOrder_73 (n := 74) rfl hk (fun _ hk => ?_)
        refine g_nm hk (fun x13 hk => ?_)
        refine g_istore_n C [(3, .int x13), (0, .ref (rr Θ 24 0 0)), (1, .int e6), (2, .int e12)] dX10_nextOrder_74 rfl (by decide) rfl (n := 75) rfl ?_
        refine g_aload_n C 1 dX10_nextOrder_75 rfl rfl (n := 76) rfl ?_
        refine g_getR C kc_24 (rt_24_28 (tB Θ) 0) (by decide) (by decide) (by decide) wm_925 dX10_nextOrder_76 (n := 79) rfl ?_
        refine g_iload_n C 2 dX10_nextOrder_79 rfl rfl (n := 80) rfl ?_
        refine g_aload_n C 1 dX10_nextOrder_80 rfl rfl (n := 81) rfl ?_
        refine g_getR C kc_24 (rt_24_28 (tB Θ) 0) (by decide) (by decide) (by decide) wm_925 dX10_nextOrder_81 (n := 84) rfl ?_
        refine g_iload_n C 3 dX10_nextOrder_84 rfl rfl (n := 85) rfl ?_
        refine g_iald C an_38 (by decide) dX10_nextOrder_85 (n := 86) rfl hk (fun _ hk => ?_)
        refine g_iast C an_38 (by decide) dX10_nextOrder_86 (n := 87) rfl hk (fun _ h14 hk => ?_)
        refine g_aload_n C 1 dX10_nextOrder_87 rfl rfl (n := 88) rfl ?_
        refine g_getR C kc_24 (rt_24_28 (tB Θ) 0) (by decide) (by decide) (by decide) wm_925 dX10_nextOrder_88 (n := 91) rfl ?_
        refine g_iload_n C 3 dX10_nextOrder_91 rfl rfl (n := 92) rfl ?_
        refine g_iload_n C 0 dX10_nextOrder_92 rfl rfl (n := 93) rfl ?_
        refine g_iast C an_38 (by decide) dX10_nextOrder_93 (n := 94) rfl hk (fun _ h15 hk => ?_)
        refine g_iload_n C 2 dX10_nextOrder_94 rfl rfl (n := 95) rfl ?_
        refine g_iconst C (1 : Int32) dX10_nextOrder_95 (by decide) (n := 96) rfl ?_
        refine g_iadd C dX10_nextOrder_96 (n := 97) rfl ?_
        refine g_nm hk (fun x16 hk => ?_)
        refine g_istore C [(4, .int x16), (3, .int x13), (0, .ref (rr Θ 24 0 0)), (1, .int e6), (2, .int e12)] dX10_nextOrder_97 (by decide) rfl (n := 99) rfl ?_
        refine g_lv [2, 3, 0] [(0, .ref (rr Θ 24 0 0)), (1, .int e6), (4, .int x16)] rfl ?_
        refine Ok.join hk (fun e29 => G Θ Γ 160 [] [] e29) (fun e29 hk => ?_) (fun hk => ?_)
        · refine g_iconst C (1 : Int32) dX10_nextOrder_160 (by decide) (n := 161) rfl ?_
          exact retB true rfl hk.out dX10_nextOrder_161
        · refine Ok.loop (fun a23 => G Θ Γ 99 [(0, .ref (rr Θ 24 0 0)), (1, .int e6), (4, .int a23.1)] [] a23.2) (fun a23 hk => ?_) _ _ hk
          refine g_iload C 2 dX10_nextOrder_99 rfl (n := 101) rfl ?_
          refine g_aload_n C 0 dX10_nextOrder_101 rfl rfl (n := 102) rfl ?_
          refine g_getI C kc_24 ft_24_3 (by decide) (by decide) (by decide) wm_900 dX10_nextOrder_102 (n := 105) rfl ?_
          refine g_iload_n C 1 dX10_nextOrder_105 rfl rfl (n := 106) rfl ?_
          refine g_iadd C dX10_nextOrder_106 (n := 107) rfl ?_
          refine g_iload C 2 dX10_nextOrder_107 rfl (n := 109) rfl ?_
          refine g_isub C dX10_nextOrder_109 (n := 110) rfl ?_
          refine g_ic_ge C 160 dX10_nextOrder_110 (by decide) (n := 113) rfl hk (fun hk => ?_) (fun hk => ?_)
          · refine g_lv [] [] rfl ?_
            exact hk.out
          · refine g_aload_n C 0 dX10_nextOrder_113 rfl rfl (n := 114) rfl ?_
            refine g_getI C kc_24 ft_24_3 (by decide) (by decide) (by decide) wm_900 dX10_nextOrder_114 (n := 117) rfl ?_
            refine g_iload_n C 1 dX10_nextOrder_117 rfl rfl (n := 118) rfl ?_
            refine g_iadd C dX10_nextOrder_118 (n := 119) rfl ?_
            refine g_iload C 2 dX10_nextOrder_119 rfl (n := 121) rfl ?_
            refine g_isub C dX10_nextOrder_121 (n := 122) rfl ?_
            refine g_nm hk (fun x24 hk => ?_)
            refine g_istore C [(5, .int x24), (0, .ref (rr Θ 24 0 0)), (1, .int e6), (4, .int a23.1)] dX10_nextOrder_122 (by decide) rfl (n := 124) rfl ?_
            refine g_aload_n C 1 dX10_nextOrder_124 rfl rfl (n := 125) rfl ?_
            refine g_getR C kc_24 (rt_24_28 (tB Θ) 0) (by decide) (by decide) (by decide) wm_925 dX10_nextOrder_125 (n := 128) rfl ?_
            refine g_iload C 3 dX10_nextOrder_128 rfl (n := 130) rfl ?_
            refine g_iald C an_38 (by decide) dX10_nextOrder_130 (n := 131) rfl hk (fun _ hk => ?_)
            refine g_nm hk (fun x25 hk => ?_)
            refine g_istore_n C [(3, .int x25), (5, .int x24), (0, .ref (rr Θ 24 0 0)), (1, .int e6), (4, .int a23.1)] dX10_nextOrder_131 rfl (by decide) rfl (n := 132) rfl ?_
            refine g_aload_n C 2 dX10_nextOrder_132 rfl rfl (n := 133) rfl ?_
            refine g_getR C kc_24 (rt_24_28 (tB Θ) 0) (by decide) (by decide) (by decide) wm_925 dX10_nextOrder_133 (n := 136) rfl ?_
            refine g_iload C 4 dX10_nextOrder_136 rfl (n := 138) rfl ?_
            refine g_aload_n C 2 dX10_nextOrder_138 rfl rfl (n := 139) rfl ?_
            refine g_getR C kc_24 (rt_24_28 (tB Θ) 0) (by decide) (by decide) (by decide) wm_925 dX10_nextOrder_139 (n := 142) rfl ?_
            refine g_iload C 1 dX10_nextOrder_142 rfl (n := 144) rfl ?_
            refine g_iald C an_38 (by decide) dX10_nextOrder_144 (n := 145) rfl hk (fun _ hk => ?_)
            refine g_iast C an_38 (by decide) dX10_nextOrder_145 (n := 146) rfl hk (fun _ h26 hk => ?_)
            refine g_aload_n C 2 dX10_nextOrder_146 rfl rfl (n := 147) rfl ?_
            refine g_getR C kc_24 (rt_24_28 (tB Θ) 0) (by decide) (by decide) (by decide) wm_925 dX10_nextOrder_147 (n := 150) rfl ?_
            refine g_iload C 1 dX10_nextOrder_150 rfl (n := 152) rfl ?_
            refine g_iload_n C 0 dX10_nextOrder_152 rfl rfl (n := 153) rfl ?_
            refine g_iast C an_38 (by decide) dX10_nextOrder_153 (n := 154) rfl hk (fun _ h27 hk => ?_)
            refine g_iinc C 4 (fun x28 => [(4, .int x28), (3, .int x25), (5, .int x24), (0, .ref (rr Θ 24 0 0)), (1, .int e6)]) dX10_nextOrder_154 rfl (v := (a23.1 + (1 : Int32))) rfl (by decide) (fun _ => rfl) (n := 157) rfl hk (fun x28 hk => ?_)
            refine g_goto C 99 dX10_nextOrder_157 (by decide) ?_
            refine g_lv [3, 4, 0] [(0, .ref (rr Θ 24 0 0)), (1, .int e6), (4, .int x28)] rfl ?_
            exact hk.out
      · refine Ok.loop (fun a10 => G Θ Γ 47 [(0, .ref (rr Θ 24 0 0)), (1, .int e6), (2, .int a10)] [] h) (fun a10 hk => ?_) _ _ hk
        refine g_aload_n C 0 dX10_nextOrder_47 rfl rfl (n := 48) rfl ?_
        refine g_getR C kc_24 (rt_24_28 (tB Θ) 0) (by decide) (by decide) (by decide) wm_925 dX10_nextOrder_48 (n := 51) rfl ?_
        refine g_iload_n C 2 dX10_nextOrder_51 rfl rfl (n := 52) rfl ?_
        refine g_iald C an_38 (by decide) dX10_nextOrder_52 (n := 53) rfl hk (fun _ hk => ?_)
        refine g_aload_n C 0 dX10_nextOrder_53 rfl rfl (n := 54) rfl ?_
        refine g_getR C kc_24 (rt_24_28 (tB Θ) 0) (by decide) (by decide) (by decide) wm_925 dX10_nextOrder_54 (n := 57) rfl ?_
        refine g_iload_n C 1 dX10_nextOrder_57 rfl rfl (n := 58) rfl ?_
        refine g_iald C an_38 (by decide) dX10_nextOrder_58 (n := 59) rfl hk (fun _ hk => ?_)
        refine g_ic_ge C 68 dX10_nextOrder_59 (by decide) (n := 62) rfl hk (fun hk => ?_) (fun hk => ?_)
        · exact hk.out
        · refine g_iinc C 2 (fun x11 => [(2, .int x11), (0, .ref (rr Θ 24 0 0)), (1, .int e6)]) dX10_nextOrder_62 rfl (v := (a10 + (-1 : Int32))) rfl (by decide) (fun _ => rfl) (n := 65) rfl hk (fun x11 hk => ?_)
          refine g_goto C 47 dX10_nextOrder_65 (by decide) ?_
          refine g_lv [1, 2, 0] [(0, .ref (rr Θ 24 0 0)), (1, .int e6), (2, .int x11)] rfl ?_
          exact hk.out
    · refine g_iconst C (0 : Int32) dX10_nextOrder_38 (by decide) (n := 39) rfl ?_
      exact retB false rfl hk.out dX10_nextOrder_39
  · refine Ok.loop (fun a4 => G Θ Γ 7 [(0, .ref (rr Θ 24 0 0)), (1, .int a4)] [] h) (fun a4 hk => ?_) _ _ hk
    refine g_iload_n C 1 dX10_nextOrder_7 rfl rfl (n := 8) rfl ?_
    refine g_if_lt C 34 dX10_nextOrder_8 (by decide) (n := 11) rfl hk (fun hk => ?_) (fun hk => ?_)
    · exact hk.out
    · refine g_aload_n C 0 dX10_nextOrder_11 rfl rfl (n := 12) rfl ?_
      refine g_getR C kc_24 (rt_24_28 (tB Θ) 0) (by decide) (by decide) (by decide) wm_925 dX10_nextOrder_12 (n := 15) rfl ?_
      refine g_iload_n C 1 dX10_nextOrder_15 rfl rfl (n := 16) rfl ?_
      refine g_iald C an_38 (by decide) dX10_nextOrder_16 (n := 17) rfl hk (fun _ hk => ?_)
      refine g_aload_n C 0 dX10_nextOrder_17 rfl rfl (n := 18) rfl ?_
      refine g_getR C kc_24 (rt_24_28 (tB Θ) 0) (by decide) (by decide) (by decide) wm_925 dX10_nextOrder_18 (n := 21) rfl ?_
      refine g_iload_n C 1 dX10_nextOrder_21 rfl rfl (n := 22) rfl ?_
      refine g_iconst C (1 : Int32) dX10_nextOrder_22 (by decide) (n := 23) rfl ?_
      refine g_iadd C dX10_nextOrder_23 (n := 24) rfl ?_
      refine g_iald C an_38 (by decide) dX10_nextOrder_24 (n := 25) rfl hk (fun _ hk => ?_)
      refine g_ic_le C 34 dX10_nextOrder_25 (by decide) (n := 28) rfl hk (fun hk => ?_) (fun hk => ?_)
      · exact hk.out
      · refine g_iinc C 1 (fun x5 => [(1, .int x5), (0, .ref (rr Θ 24 0 0))]) dX10_nextOrder_28 rfl (v := (a4 + (-1 : Int32))) rfl (by decide) (fun _ => rfl) (n := 31) rfl hk (fun x5 hk => ?_)
        refine g_goto C 7 dX10_nextOrder_31 (by decide) ?_
        refine g_lv [1, 0] [(0, .ref (rr Θ 24 0 0)), (1, .int x5)] rfl ?_
        exact hk.out
