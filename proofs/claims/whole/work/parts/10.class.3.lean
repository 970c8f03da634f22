def f_X5_faultAt (o0 : Nat) (p1 : Int32) (h : Mem) : Option (Int32) := (if (h 22 1 o0 0) = (-1 : Int32) then some (1 : Int32) else obd (f_X9_within p1 (0 : Int32) ((h 22 2 o0 0) - (1 : Int32)) h) (fun r1 => (if r1 = true then some (0 : Int32) else some (2 : Int32))))
def rm_X5_faultAt : Room := { frames := 1, cells := 0, slots := 0, locals := 22 }
set_option maxHeartbeats 4000000 in
set_option maxRecDepth 100000 in
theorem L_X5_faultAt (Θ : Tht) (o0 : Nat) (ho0 : o0 < 4) (p1 : Int32) (h : Mem) (K : Int32 × Mem → Prop) (hk : Ok (f_X5_faultAt o0 p1 h) (fun r => K (r, h))) : CI Θ yX5_faultAt cX5_faultAt 2 (some .int) rm_X5_faultAt [.ref (rr Θ 22 o0 0), .int p1] h K := by
  refine CI.of K [(0, .ref (rr Θ 22 o0 0)), (1, .int p1)] (plainFor_of_name (by decide)) (Nat.le_of_ble_eq_true rfl) rfl (fun Γ C Rt => ?_)
  replace hk := rtIp Rt hk
  unfold f_X5_faultAt at hk
  refine g_aload_n C 0 dX5_faultAt_0 rfl rfl (n := 1) rfl ?_
  refine g_getI C kc_22 ft_22_1 ho0 (by decide) (by decide) wm_351 dX5_faultAt_1 (n := 4) rfl ?_
  refine g_iconst C (-1 : Int32) dX5_faultAt_4 (by decide) (n := 5) rfl ?_
  refine g_ic_ne C 10 dX5_faultAt_5 (by decide) (n := 8) rfl hk (fun hk => ?_) (fun hk => ?_)
  · refine g_iload_n C 1 dX5_faultAt_10 rfl rfl (n := 11) rfl ?_
    refine g_iconst C (0 : Int32) dX5_faultAt_11 (by decide) (n := 12) rfl ?_
    refine g_aload_n C 0 dX5_faultAt_12 rfl rfl (n := 13) rfl ?_
    refine g_getI C kc_22 ft_22_2 ho0 (by decide) (by decide) wm_353 dX5_faultAt_13 (n := 16) rfl ?_
    refine g_iconst C (1 : Int32) dX5_faultAt_16 (by decide) (n := 17) rfl ?_
    refine g_isub C dX5_faultAt_17 (n := 18) rfl ?_
    refine g_cNBp C hk (fun K hk => L_X9_within Θ p1 (0 : Int32) ((h 22 2 o0 0) - (1 : Int32)) h K hk) lk_X5_22 ⟨rfl, rfl⟩ ⟨Nat.le_of_ble_eq_true rfl, Nat.le_of_ble_eq_true rfl⟩ dX5_faultAt_18 rfl rfl (Nat.le_of_ble_eq_true rfl) (n := 21) rfl (fun r1 hk => ?_)
    refine g_bf C 28 dX5_faultAt_21 (by decide) (n := 24) rfl hk (fun hk => ?_) (fun hk => ?_)
    · refine g_iconst C (2 : Int32) dX5_faultAt_28 (by decide) (n := 29) rfl ?_
      exact retI hk.out dX5_faultAt_29
    · refine g_iconst C (0 : Int32) dX5_faultAt_24 (by decide) (n := 25) rfl ?_
      refine g_goto C 29 dX5_faultAt_25 (by decide) ?_
      exact retI hk.out dX5_faultAt_29
  · refine g_iconst C (1 : Int32) dX5_faultAt_8 (by decide) (n := 9) rfl ?_
    exact retI hk.out dX5_faultAt_9
def f_X5_put (o0 : Nat) (p1 : Int32) (p2 : Int32) (h : Mem) : Option (Mem) := obd (f_X5_faultAt o0 p1 h) (fun r1 => (if r1 = 0 then obd ((if (h 22 1 o0 0) = 0 then some ((p2).toInt8.toInt32) else (if (h 22 1 o0 0) = (1 : Int32) then some ((p2).toInt16.toInt32) else some p2))) (fun a2 => gd (inb p1 40) (bnd (up h 23 0 o0 p1.toNatClampNeg a2) (fun h3 => some h3))) else some h))
def rm_X5_put : Room := { frames := 2, cells := 0, slots := 0, locals := 43 }
set_option maxHeartbeats 4000000 in
set_option maxRecDepth 100000 in
theorem L_X5_put (Θ : Tht) (o0 : Nat) (ho0 : o0 < 4) (p1 : Int32) (p2 : Int32) (h : Mem) (K : Mem → Prop) (hk : Ok (f_X5_put o0 p1 p2 h) K) : CV Θ yX5_put cX5_put 3 none rm_X5_put [.ref (rr Θ 22 o0 0), .int p1, .int p2] h K := by
  refine CV.of K [(0, .ref (rr Θ 22 o0 0)), (1, .int p1), (2, .int p2)] (plainFor_of_name (by decide)) (Nat.le_of_ble_eq_true rfl) rfl (fun Γ C Rt => ?_)
  replace hk := rtV Rt hk
  unfold f_X5_put at hk
  refine g_aload_n C 0 dX5_put_0 rfl rfl (n := 1) rfl ?_
  refine g_iload_n C 1 dX5_put_1 rfl rfl (n := 2) rfl ?_
  refine g_cVIp C hk (fun K hk => L_X5_faultAt Θ o0 ho0 p1 h K hk) lk_X5_26 kc_22 ho0 (by decide) ⟨rfl, rfl⟩ ⟨Nat.le_of_ble_eq_true rfl, Nat.le_of_ble_eq_true rfl⟩ dX5_put_2 rfl rfl (Nat.le_of_ble_eq_true rfl) (n := 5) rfl (fun r1 hk => ?_)
  refine g_if_ne C 40 dX5_put_5 (by decide) (n := 8) rfl hk (fun hk => ?_) (fun hk => ?_)
  · exact retV hk.out dX5_put_40
  · refine g_aload_n C 0 dX5_put_8 rfl rfl (n := 9) rfl ?_
    refine g_getR C kc_22 (rt_22_0 (tB Θ) o0) ho0 (by decide) (by decide) wm_349 dX5_put_9 (n := 12) rfl ?_
    refine g_iload_n C 1 dX5_put_12 rfl rfl (n := 13) rfl ?_
    refine g_aload_n C 0 dX5_put_13 rfl rfl (n := 14) rfl ?_
    refine g_getI C kc_22 ft_22_1 ho0 (by decide) (by decide) wm_351 dX5_put_14 (n := 17) rfl ?_
    refine Ok.join hk (fun a2 => G Θ Γ 39 [] [.int a2, .int p1, .ref (rr Θ 23 o0 0)] h) (fun a2 hk => ?_) (fun hk => ?_)
    · refine g_iast C an_23 ho0 dX5_put_39 (n := 40) rfl hk (fun _ h3 hk => ?_)
      exact retV hk.out dX5_put_40
    · refine g_if_ne C 25 dX5_put_17 (by decide) (n := 20) rfl hk (fun hk => ?_) (fun hk => ?_)
      · refine g_aload_n C 0 dX5_put_25 rfl rfl (n := 26) rfl ?_
        refine g_getI C kc_22 ft_22_1 ho0 (by decide) (by decide) wm_351 dX5_put_26 (n := 29) rfl ?_
        refine g_iconst C (1 : Int32) dX5_put_29 (by decide) (n := 30) rfl ?_
        refine g_ic_ne C 38 dX5_put_30 (by decide) (n := 33) rfl hk (fun hk => ?_) (fun hk => ?_)
        · refine g_iload_n C 2 dX5_put_38 rfl rfl (n := 39) rfl ?_
          refine g_lv [] [] rfl ?_
          exact hk.out
        · refine g_iload_n C 2 dX5_put_33 rfl rfl (n := 34) rfl ?_
          refine g_i2s C dX5_put_34 (n := 35) rfl ?_
          refine g_goto C 39 dX5_put_35 (by decide) ?_
          refine g_lv [] [] rfl ?_
          exact hk.out
      · refine g_iload_n C 2 dX5_put_20 rfl rfl (n := 21) rfl ?_
        refine g_i2b C dX5_put_21 (n := 22) rfl ?_
        refine g_goto C 39 dX5_put_22 (by decide) ?_
        refine g_lv [] [] rfl ?_
        exact hk.out
def f_X9_lay (p1 : Int32) (p2 : Int32) (p3 : Int32) (h : Mem) : Option (Int32 × Mem) := obd (f_X9_isSheet p1 h) (fun r1 => (if r1 = true then gd (inb p1 4) (obd (f_X5_faultAt p1.toNatClampNeg p2 h) (fun r3 => (if r3 = 0 then gd (inb p1 4) (obd (f_X5_put p1.toNatClampNeg p2 p3 h) (fun h5 => some ((1 : Int32), h5))) else some (((-10 : Int32) - r3), h)))) else some ((-1 : Int32), h)))
def rm_X9_lay : Room := { frames := 3, cells := 0, slots := 0, locals := 65 }
set_option maxHeartbeats 4000000 in
set_option maxRecDepth 100000 in
theorem L_X9_lay (Θ : Tht) (p1 : Int32) (p2 : Int32) (p3 : Int32) (h : Mem) (K : Int32 × Mem → Prop) (hk : Ok (f_X9_lay p1 p2 p3 h) K) : CI Θ yX9_lay cX9_lay 5 (some .int) rm_X9_lay [.ref (rr Θ 0 0 0), .int p1, .int p2, .int p3] h K := by
  refine CI.of K [(0, .ref (rr Θ 0 0 0)), (1, .int p1), (2, .int p2), (3, .int p3)] (plainFor_of_name (by decide)) (Nat.le_of_ble_eq_true rfl) rfl (fun Γ C Rt => ?_)
  replace hk := rtI Rt hk
  unfold f_X9_lay at hk
  refine g_iload_n C 1 dX9_lay_0 rfl rfl (n := 1) rfl ?_
  refine g_cSBp C hk (fun K hk => L_X9_isSheet Θ p1 h K hk) lk_X9_263 ⟨rfl, rfl⟩ ⟨Nat.le_of_ble_eq_true rfl, Nat.le_of_ble_eq_true rfl⟩ dX9_lay_1 rfl rfl (Nat.le_of_ble_eq_true rfl) (n := 4) rfl (fun r1 hk => ?_)
  refine g_bt C 9 dX9_lay_4 (by decide) (n := 7) rfl hk (fun hk => ?_) (fun hk => ?_)
  · refine g_aload_n C 0 dX9_lay_9 rfl rfl (n := 10) rfl ?_
    refine g_getR C kc_0 (rt_0_7 (tB Θ) 0) (by decide) (by decide) (by decide) wm_369 dX9_lay_10 (n := 13) rfl ?_
    refine g_iload_n C 1 dX9_lay_13 rfl rfl (n := 14) rfl ?_
    refine g_aald C ar_21 (by decide) dX9_lay_14 (n := 15) rfl hk (fun hg2 hk => ?_)
    refine g_iload_n C 2 dX9_lay_15 rfl rfl (n := 16) rfl ?_
    refine g_cVIp C hk (fun K hk => L_X5_faultAt Θ p1.toNatClampNeg (inb_lt hg2) p2 h K hk) lk_X9_272 kc_22 (inb_lt hg2) (by decide) ⟨rfl, rfl⟩ ⟨Nat.le_of_ble_eq_true rfl, Nat.le_of_ble_eq_true rfl⟩ dX9_lay_16 rfl rfl (Nat.le_of_ble_eq_true rfl) (n := 19) rfl (fun r3 hk => ?_)
    refine g_istore C [(4, .int r3), (0, .ref (rr Θ 0 0 0)), (1, .int p1), (2, .int p2), (3, .int p3)] dX9_lay_19 (by decide) rfl (n := 21) rfl ?_
    refine g_iload C 0 dX9_lay_21 rfl (n := 23) rfl ?_
    refine g_if_eq C 32 dX9_lay_23 (by decide) (n := 26) rfl hk (fun hk => ?_) (fun hk => ?_)
    · refine g_aload_n C 1 dX9_lay_32 rfl rfl (n := 33) rfl ?_
      refine g_getR C kc_0 (rt_0_7 (tB Θ) 0) (by decide) (by decide) (by decide) wm_369 dX9_lay_33 (n := 36) rfl ?_
      refine g_iload_n C 2 dX9_lay_36 rfl rfl (n := 37) rfl ?_
      refine g_aald C ar_21 (by decide) dX9_lay_37 (n := 38) rfl hk (fun hg4 hk => ?_)
      refine g_iload_n C 3 dX9_lay_38 rfl rfl (n := 39) rfl ?_
      refine g_iload_n C 4 dX9_lay_39 rfl rfl (n := 40) rfl ?_
      refine g_cVV C hk (fun K hk => L_X5_put Θ p1.toNatClampNeg (inb_lt hg4) p2 p3 h K hk) lk_X9_275 kc_22 (inb_lt hg4) (by decide) ⟨rfl, rfl⟩ ⟨Nat.le_of_ble_eq_true rfl, Nat.le_of_ble_eq_true rfl⟩ dX9_lay_40 rfl rfl (Nat.le_of_ble_eq_true rfl) (n := 43) rfl (fun h5 hk => ?_)
      refine g_iconst C (1 : Int32) dX9_lay_43 (by decide) (n := 44) rfl ?_
      exact retI hk.out dX9_lay_44
    · refine g_bipush C (-10 : Int32) dX9_lay_26 (by decide) (n := 28) rfl ?_
      refine g_iload C 0 dX9_lay_28 rfl (n := 30) rfl ?_
      refine g_isub C dX9_lay_30 (n := 31) rfl ?_
      exact retI hk.out dX9_lay_31
  · refine g_iconst C (-1 : Int32) dX9_lay_7 (by decide) (n := 8) rfl ?_
    exact retI hk.out dX9_lay_8
def f_X0_layDown (o0 : Nat) (p1 : Int32) (p2 : Int32) (h : Mem) : Option (Mem) := gd (inb p1 6) (bnd ((h 6 2 o0 p1.toNatClampNeg) - (10 : Int32)) (fun x2 => obd (f_X9_within x2 (0 : Int32) ((h 1 4 o0 0) - (1 : Int32)) h) (fun r3 => obd ((if r3 = true then gd (inb x2 4) (bnd (up h 7 4 o0 x2.toNatClampNeg (-1 : Int32)) (fun h7 => some h7)) else some h)) (fun a8 => gd (inb p1 6) (bnd (up a8 6 2 o0 p1.toNatClampNeg p2) (fun h10 => some h10))))))
def rm_X0_layDown : Room := { frames := 1, cells := 0, slots := 0, locals := 22 }
set_option maxHeartbeats 4000000 in
set_option maxRecDepth 100000 in
theorem L_X0_layDown (Θ : Tht) (o0 : Nat) (ho0 : o0 < 5) (p1 : Int32) (p2 : Int32) (h : Mem) (K : Mem → Prop) (hk : Ok (f_X0_layDown o0 p1 p2 h) K) : CV Θ yX0_layDown cX0_layDown 4 none rm_X0_layDown [.ref (rr Θ 1 o0 0), .int p1, .int p2] h K := by
  refine CV.of K [(0, .ref (rr Θ 1 o0 0)), (1, .int p1), (2, .int p2)] (plainFor_of_name (by decide)) (Nat.le_of_ble_eq_true rfl) rfl (fun Γ C Rt => ?_)
  replace hk := rtV Rt hk
  unfold f_X0_layDown at hk
  refine g_aload_n C 0 dX0_layDown_0 rfl rfl (n := 1) rfl ?_
  refine g_getR C kc_1 (rt_1_3 (tB Θ) o0) ho0 (by decide) (by decide) wm_168 dX0_layDown_1 (n := 4) rfl ?_
  refine g_iload_n C 1 dX0_layDown_4 rfl rfl (n := 5) rfl ?_
  refine g_aald C ar_3 ho0 dX0_layDown_5 (n := 6) rfl hk (fun hg1 hk => ?_)
  refine g_getI C kc_6 ft_6_2 ho0 (inb_lt hg1) (by decide) wm_114 dX0_layDown_6 (n := 9) rfl ?_
  refine g_bipush C (10 : Int32) dX0_layDown_9 (by decide) (n := 11) rfl ?_
  refine g_isub C dX0_layDown_11 (n := 12) rfl ?_
  refine g_nm hk (fun x2 hk => ?_)
  refine g_istore_n C [(3, .int x2), (0, .ref (rr Θ 1 o0 0)), (1, .int p1), (2, .int p2)] dX0_layDown_12 rfl (by decide) rfl (n := 13) rfl ?_
  refine g_iload_n C 0 dX0_layDown_13 rfl rfl (n := 14) rfl ?_
  refine g_iconst C (0 : Int32) dX0_layDown_14 (by decide) (n := 15) rfl ?_
  refine g_aload_n C 1 dX0_layDown_15 rfl rfl (n := 16) rfl ?_
  refine g_getI C kc_1 ft_1_4 ho0 (by decide) (by decide) wm_172 dX0_layDown_16 (n := 19) rfl ?_
  refine g_iconst C (1 : Int32) dX0_layDown_19 (by decide) (n := 20) rfl ?_
  refine g_isub C dX0_layDown_20 (n := 21) rfl ?_
  refine g_cNBp C hk (fun K hk => L_X9_within Θ x2 (0 : Int32) ((h 1 4 o0 0) - (1 : Int32)) h K hk) lk_X0_86 ⟨rfl, rfl⟩ ⟨Nat.le_of_ble_eq_true rfl, Nat.le_of_ble_eq_true rfl⟩ dX0_layDown_21 rfl rfl (Nat.le_of_ble_eq_true rfl) (n := 24) rfl (fun r3 hk => ?_)
  refine Ok.join hk (fun a8 => G Θ Γ 37 [(0, .ref (rr Θ 1 o0 0)), (1, .int p1), (2, .int p2)] [] a8) (fun a8 hk => ?_) (fun hk => ?_)
  · refine g_aload_n C 0 dX0_layDown_37 rfl rfl (n := 38) rfl ?_
    refine g_getR C kc_1 (rt_1_3 (tB Θ) o0) ho0 (by decide) (by decide) wm_168 dX0_layDown_38 (n := 41) rfl ?_
    refine g_iload_n C 1 dX0_layDown_41 rfl rfl (n := 42) rfl ?_
    refine g_aald C ar_3 ho0 dX0_layDown_42 (n := 43) rfl hk (fun hg9 hk => ?_)
    refine g_iload_n C 2 dX0_layDown_43 rfl rfl (n := 44) rfl ?_
    refine g_putI C kc_6 ft_6_2 ho0 (inb_lt hg9) (by decide) rfl (fitI _) wm_114 dX0_layDown_44 (n := 47) rfl hk (fun h10 hk => ?_)
    exact retV hk.out dX0_layDown_47
  · refine g_bf C 37 dX0_layDown_24 (by decide) (n := 27) rfl hk (fun hk => ?_) (fun hk => ?_)
    · refine g_lv [1, 2, 3] [(0, .ref (rr Θ 1 o0 0)), (1, .int p1), (2, .int p2)] rfl ?_
      exact hk.out
    · refine g_aload_n C 1 dX0_layDown_27 rfl rfl (n := 28) rfl ?_
      refine g_getR C kc_1 (rt_1_5 (tB Θ) o0) ho0 (by decide) (by decide) wm_176 dX0_layDown_28 (n := 31) rfl ?_
      refine g_iload_n C 0 dX0_layDown_31 rfl rfl (n := 32) rfl ?_
      refine g_aald C ar_4 ho0 dX0_layDown_32 (n := 33) rfl hk (fun hg6 hk => ?_)
      refine g_iconst C (-1 : Int32) dX0_layDown_33 (by decide) (n := 34) rfl ?_
      refine g_putI C kc_7 ft_7_4 ho0 (inb_lt hg6) (by decide) rfl (fitI _) wm_146 dX0_layDown_34 (n := 37) rfl hk (fun h7 hk => ?_)
      refine g_lv [1, 2, 3] [(0, .ref (rr Θ 1 o0 0)), (1, .int p1), (2, .int p2)] rfl ?_
      exact hk.out
def f_X9_lie (p1 : Int32) (p2 : Int32) (h : Mem) : Option (Int32 × Mem) := obd (f_X9_isCoin p1 h) (fun r1 => (if r1 = true then obd (f_X9_isPlace p2 h) (fun r2 => (if r2 = true then gd (inb p1 6) (bnd (h 6 2 0 p1.toNatClampNeg) (fun x4 => obd (f_X0_layDown 0 p1 p2 h) (fun h5 => some (x4, h5)))) else some ((-1 : Int32), h))) else some ((-1 : Int32), h)))
def rm_X9_lie : Room := { frames := 2, cells := 0, slots := 0, locals := 45 }
set_option maxHeartbeats 4000000 in
set_option maxRecDepth 100000 in
theorem L_X9_lie (Θ : Tht) (p1 : Int32) (p2 : Int32) (h : Mem) (K : Int32 × Mem → Prop) (hk : Ok (f_X9_lie p1 p2 h) K) : CI Θ yX9_lie cX9_lie 4 (some .int) rm_X9_lie [.ref (rr Θ 0 0 0), .int p1, .int p2] h K := by
  refine CI.of K [(0, .ref (rr Θ 0 0 0)), (1, .int p1), (2, .int p2)] (plainFor_of_name (by decide)) (Nat.le_of_ble_eq_true rfl) rfl (fun Γ C Rt => ?_)
  replace hk := rtI Rt hk
  unfold f_X9_lie at hk
  refine g_aload_n C 0 dX9_lie_0 rfl rfl (n := 1) rfl ?_
  refine g_iload_n C 1 dX9_lie_1 rfl rfl (n := 2) rfl ?_
  refine g_cVBp C hk (fun K hk => L_X9_isCoin Θ p1 h K hk) lk_X9_123 kc_0 (by decide) (by decide) ⟨rfl, rfl⟩ ⟨Nat.le_of_ble_eq_true rfl, Nat.le_of_ble_eq_true rfl⟩ dX9_lie_2 rfl rfl (Nat.le_of_ble_eq_true rfl) (n := 5) rfl (fun r1 hk => ?_)
  refine g_bf C 16 dX9_lie_5 (by decide) (n := 8) rfl hk (fun hk => ?_) (fun hk => ?_)
  · refine g_iconst C (-1 : Int32) dX9_lie_16 (by decide) (n := 17) rfl ?_
    exact retI hk.out dX9_lie_17
  · refine g_aload_n C 0 dX9_lie_8 rfl rfl (n := 9) rfl ?_
    refine g_iload_n C 2 dX9_lie_9 rfl rfl (n := 10) rfl ?_
    refine g_cVBp C hk (fun K hk => L_X9_isPlace Θ p2 h K hk) lk_X9_115 kc_0 (by decide) (by decide) ⟨rfl, rfl⟩ ⟨Nat.le_of_ble_eq_true rfl, Nat.le_of_ble_eq_true rfl⟩ dX9_lie_10 rfl rfl (Nat.le_of_ble_eq_true rfl) (n := 13) rfl (fun r2 hk => ?_)
    refine g_bt C 18 dX9_lie_13 (by decide) (n := 16) rfl hk (fun hk => ?_) (fun hk => ?_)
    · refine g_aload_n C 0 dX9_lie_18 rfl rfl (n := 19) rfl ?_
      refine g_getR C kc_0 (rt_0_0 (tB Θ) 0) (by decide) (by decide) (by decide) wm_362 dX9_lie_19 (n := 22) rfl ?_
      refine g_getR C kc_1 (rt_1_3 (tB Θ) 0) (by decide) (by decide) (by decide) wm_171 dX9_lie_22 (n := 25) rfl ?_
      refine g_iload_n C 1 dX9_lie_25 rfl rfl (n := 26) rfl ?_
      refine g_aald C ar_3 (by decide) dX9_lie_26 (n := 27) rfl hk (fun hg3 hk => ?_)
      refine g_getI C kc_6 ft_6_2 (by decide) (inb_lt hg3) (by decide) wm_116 dX9_lie_27 (n := 30) rfl ?_
      refine g_nm hk (fun x4 hk => ?_)
      refine g_istore_n C [(3, .int x4), (0, .ref (rr Θ 0 0 0)), (1, .int p1), (2, .int p2)] dX9_lie_30 rfl (by decide) rfl (n := 31) rfl ?_
      refine g_aload_n C 1 dX9_lie_31 rfl rfl (n := 32) rfl ?_
      refine g_getR C kc_0 (rt_0_0 (tB Θ) 0) (by decide) (by decide) (by decide) wm_362 dX9_lie_32 (n := 35) rfl ?_
      refine g_iload_n C 2 dX9_lie_35 rfl rfl (n := 36) rfl ?_
      refine g_iload_n C 3 dX9_lie_36 rfl rfl (n := 37) rfl ?_
      refine g_cVV C hk (fun K hk => L_X0_layDown Θ 0 (by decide) p1 p2 h K hk) lk_X9_185 kc_1 (by decide) (by decide) ⟨rfl, rfl⟩ ⟨Nat.le_of_ble_eq_true rfl, Nat.le_of_ble_eq_true rfl⟩ dX9_lie_37 rfl rfl (Nat.le_of_ble_eq_true rfl) (n := 40) rfl (fun h5 hk => ?_)
      refine g_iload_n C 0 dX9_lie_40 rfl rfl (n := 41) rfl ?_
      exact retI hk.out dX9_lie_41
    · refine g_iconst C (-1 : Int32) dX9_lie_16 (by decide) (n := 17) rfl ?_
      exact retI hk.out dX9_lie_17
def f_X0_addCoin (o0 : Nat) (p1 : Int32) (p2 : Int32) (h : Mem) : Option (Mem) := (if (6 : Int32) ≤ (h 1 2 o0 0) then some h else gd (inb (h 1 2 o0 0) 6) (bnd (up h 6 0 o0 (h 1 2 o0 0).toNatClampNeg p1) (fun h2 => bnd (up h2 6 1 o0 (h 1 2 o0 0).toNatClampNeg (0 : Int32)) (fun h3 => bnd (up h3 6 2 o0 (h 1 2 o0 0).toNatClampNeg p2) (fun h4 => bnd (up h4 1 2 o0 0 ((h4 1 2 o0 0) + (1 : Int32))) (fun h5 => some h5))))))
def rm_X0_addCoin : Room := { frames := 0, cells := 0, slots := 0, locals := 0 }
set_option maxHeartbeats 4000000 in
set_option maxRecDepth 100000 in
theorem L_X0_addCoin (Θ : Tht) (o0 : Nat) (ho0 : o0 < 5) (p1 : Int32) (p2 : Int32) (h : Mem) (K : Mem → Prop) (hk : Ok (f_X0_addCoin o0 p1 p2 h) K) : CV Θ yX0_addCoin cX0_addCoin 4 none rm_X0_addCoin [.ref (rr Θ 1 o0 0), .int p1, .int p2] h K := by
  refine CV.of K [(0, .ref (rr Θ 1 o0 0)), (1, .int p1), (2, .int p2)] (plainFor_of_name (by decide)) (Nat.le_of_ble_eq_true rfl) rfl (fun Γ C Rt => ?_)
  replace hk := rtV Rt hk
  unfold f_X0_addCoin at hk
  refine g_aload_n C 0 dX0_addCoin_0 rfl rfl (n := 1) rfl ?_
  refine g_getI C kc_1 ft_1_2 ho0 (by decide) (by decide) wm_165 dX0_addCoin_1 (n := 4) rfl ?_
  refine g_bipush C (6 : Int32) dX0_addCoin_4 (by decide) (n := 6) rfl ?_
  refine g_ic_ge C 44 dX0_addCoin_6 (by decide) (n := 9) rfl hk (fun hk => ?_) (fun hk => ?_)
  · exact retV hk.out dX0_addCoin_44
  · refine g_aload_n C 0 dX0_addCoin_9 rfl rfl (n := 10) rfl ?_
    refine g_getR C kc_1 (rt_1_3 (tB Θ) o0) ho0 (by decide) (by decide) wm_168 dX0_addCoin_10 (n := 13) rfl ?_
    refine g_aload_n C 0 dX0_addCoin_13 rfl rfl (n := 14) rfl ?_
    refine g_getI C kc_1 ft_1_2 ho0 (by decide) (by decide) wm_165 dX0_addCoin_14 (n := 17) rfl ?_
    refine g_aald C ar_3 ho0 dX0_addCoin_17 (n := 18) rfl hk (fun hg1 hk => ?_)
    refine g_astore_n C [(3, .ref (rr Θ 6 o0 (h 1 2 o0 0).toNatClampNeg)), (0, .ref (rr Θ 1 o0 0)), (1, .int p1), (2, .int p2)] dX0_addCoin_18 rfl (by decide) rfl (n := 19) rfl ?_
    refine g_aload_n C 0 dX0_addCoin_19 rfl rfl (n := 20) rfl ?_
    refine g_iload_n C 2 dX0_addCoin_20 rfl rfl (n := 21) rfl ?_
    refine g_putI C kc_6 ft_6_0 ho0 (inb_lt hg1) (by decide) rfl (fitI _) wm_106 dX0_addCoin_21 (n := 24) rfl hk (fun h2 hk => ?_)
    refine g_aload_n C 0 dX0_addCoin_24 rfl rfl (n := 25) rfl ?_
    refine g_iconst C (0 : Int32) dX0_addCoin_25 (by decide) (n := 26) rfl ?_
    refine g_putI C kc_6 ft_6_1 ho0 (inb_lt hg1) (by decide) rfl (fitZ (Or.inl rfl)) wm_110 dX0_addCoin_26 (n := 29) rfl hk (fun h3 hk => ?_)
    refine g_aload_n C 0 dX0_addCoin_29 rfl rfl (n := 30) rfl ?_
    refine g_iload_n C 3 dX0_addCoin_30 rfl rfl (n := 31) rfl ?_
    refine g_putI C kc_6 ft_6_2 ho0 (inb_lt hg1) (by decide) rfl (fitI _) wm_114 dX0_addCoin_31 (n := 34) rfl hk (fun h4 hk => ?_)
    refine g_aload_n C 1 dX0_addCoin_34 rfl rfl (n := 35) rfl ?_
    refine g_dup C dX0_addCoin_35 rfl (n := 36) rfl ?_
    refine g_getI C kc_1 ft_1_2 ho0 (by decide) (by decide) wm_165 dX0_addCoin_36 (n := 39) rfl ?_
    refine g_iconst C (1 : Int32) dX0_addCoin_39 (by decide) (n := 40) rfl ?_
    refine g_iadd C dX0_addCoin_40 (n := 41) rfl ?_
    refine g_putI C kc_1 ft_1_2 ho0 (by decide) (by decide) rfl (fitI _) wm_165 dX0_addCoin_41 (n := 44) rfl hk (fun h5 hk => ?_)
    exact retV hk.out dX0_addCoin_44
def f_X9_mint (p1 : Int32) (p2 : Int32) (h : Mem) : Option (Int32 × Mem) := obd (f_X9_within p1 (1 : Int32) (9 : Int32) h) (fun r1 => (if r1 = true then obd (f_X9_isPlace p2 h) (fun r2 => (if r2 = true then (if (h 1 2 0 0) < (6 : Int32) then obd (f_X0_addCoin 0 p1 p2 h) (fun h3 => some ((h3 1 2 0 0), h3)) else some ((-3 : Int32), h)) else some ((-1 : Int32), h))) else some ((-1 : Int32), h)))
def rm_X9_mint : Room := { frames := 2, cells := 0, slots := 0, locals := 43 }
set_option maxHeartbeats 4000000 in
set_option maxRecDepth 100000 in
theorem L_X9_mint (Θ : Tht) (p1 : Int32) (p2 : Int32) (h : Mem) (K : Int32 × Mem → Prop) (hk : Ok (f_X9_mint p1 p2 h) K) : CI Θ yX9_mint cX9_mint 3 (some .int) rm_X9_mint [.ref (rr Θ 0 0 0), .int p1, .int p2] h K := by
  refine CI.of K [(0, .ref (rr Θ 0 0 0)), (1, .int p1), (2, .int p2)] (plainFor_of_name (by decide)) (Nat.le_of_ble_eq_true rfl) rfl (fun Γ C Rt => ?_)
  replace hk := rtI Rt hk
  unfold f_X9_mint at hk
  refine g_iload_n C 1 dX9_mint_0 rfl rfl (n := 1) rfl ?_
  refine g_iconst C (1 : Int32) dX9_mint_1 (by decide) (n := 2) rfl ?_
  refine g_bipush C (9 : Int32) dX9_mint_2 (by decide) (n := 4) rfl ?_
  refine g_cSBp C hk (fun K hk => L_X9_within Θ p1 (1 : Int32) (9 : Int32) h K hk) lk_X9_69 ⟨rfl, rfl⟩ ⟨Nat.le_of_ble_eq_true rfl, Nat.le_of_ble_eq_true rfl⟩ dX9_mint_4 rfl rfl (Nat.le_of_ble_eq_true rfl) (n := 7) rfl (fun r1 hk => ?_)
  refine g_bf C 18 dX9_mint_7 (by decide) (n := 10) rfl hk (fun hk => ?_) (fun hk => ?_)
  · refine g_iconst C (-1 : Int32) dX9_mint_18 (by decide) (n := 19) rfl ?_
    exact retI hk.out dX9_mint_19
  · refine g_aload_n C 0 dX9_mint_10 rfl rfl (n := 11) rfl ?_
    refine g_iload_n C 2 dX9_mint_11 rfl rfl (n := 12) rfl ?_
    refine g_cVBp C hk (fun K hk => L_X9_isPlace Θ p2 h K hk) lk_X9_115 kc_0 (by decide) (by decide) ⟨rfl, rfl⟩ ⟨Nat.le_of_ble_eq_true rfl, Nat.le_of_ble_eq_true rfl⟩ dX9_mint_12 rfl rfl (Nat.le_of_ble_eq_true rfl) (n := 15) rfl (fun r2 hk => ?_)
    refine g_bt C 20 dX9_mint_15 (by decide) (n := 18) rfl hk (fun hk => ?_) (fun hk => ?_)
    · refine g_aload_n C 0 dX9_mint_20 rfl rfl (n := 21) rfl ?_
      refine g_getR C kc_0 (rt_0_0 (tB Θ) 0) (by decide) (by decide) (by decide) wm_362 dX9_mint_21 (n := 24) rfl ?_
      refine g_getI C kc_1 ft_1_2 (by decide) (by decide) (by decide) wm_166 dX9_mint_24 (n := 27) rfl ?_
      refine g_bipush C (6 : Int32) dX9_mint_27 (by decide) (n := 29) rfl ?_
      refine g_ic_lt C 35 dX9_mint_29 (by decide) (n := 32) rfl hk (fun hk => ?_) (fun hk => ?_)
      · refine g_aload_n C 0 dX9_mint_35 rfl rfl (n := 36) rfl ?_
        refine g_getR C kc_0 (rt_0_0 (tB Θ) 0) (by decide) (by decide) (by decide) wm_362 dX9_mint_36 (n := 39) rfl ?_
        refine g_iload_n C 1 dX9_mint_39 rfl rfl (n := 40) rfl ?_
        refine g_iload_n C 2 dX9_mint_40 rfl rfl (n := 41) rfl ?_
        refine g_cVV C hk (fun K hk => L_X0_addCoin Θ 0 (by decide) p1 p2 h K hk) lk_X9_181 kc_1 (by decide) (by decide) ⟨rfl, rfl⟩ ⟨Nat.le_of_ble_eq_true rfl, Nat.le_of_ble_eq_true rfl⟩ dX9_mint_41 rfl rfl (Nat.le_of_ble_eq_true rfl) (n := 44) rfl (fun h3 hk => ?_)
        refine g_aload_n C 0 dX9_mint_44 rfl rfl (n := 45) rfl ?_
        refine g_getR C kc_0 (rt_0_0 (tB Θ) 0) (by decide) (by decide) (by decide) wm_362 dX9_mint_45 (n := 48) rfl ?_
        refine g_getI C kc_1 ft_1_2 (by decide) (by decide) (by decide) wm_166 dX9_mint_48 (n := 51) rfl ?_
        exact retI hk.out dX9_mint_51
      · refine g_bipush C (-3 : Int32) dX9_mint_32 (by decide) (n := 34) rfl ?_
        exact retI hk.out dX9_mint_34
    · refine g_iconst C (-1 : Int32) dX9_mint_18 (by decide) (n := 19) rfl ?_
      exact retI hk.out dX9_mint_19
def f_X4_copyOrder_15_5 (o2 : Nat) (h : Mem) : Option (Mem) := obd (lp fu (fun a7 => (if (4 : Int32) ≤ a7.1 then some (.inr a7.2) else gd (inb a7.1 4) (gd (inb a7.1 4) (bnd (up a7.2 5 0 o2 a7.1.toNatClampNeg (a7.2 15 0 0 a7.1.toNatClampNeg)) (fun h8 => bnd (a7.1 + (1 : Int32)) (fun x9 => some (.inl (x9, h8)))))))) ((0 : Int32), h)) (fun e10 => some e10)
def rm_X4_copyOrder : Room := { frames := 0, cells := 0, slots := 0, locals := 0 }
set_option maxHeartbeats 4000000 in
set_option maxRecDepth 100000 in
theorem L_X4_copyOrder_15_5 (Θ : Tht) (o2 : Nat) (ho2 : o2 < 5) (h : Mem) (K : Mem → Prop) (hk : Ok (f_X4_copyOrder_15_5 o2 h) K) : CV Θ yX4_copyOrder cX4_copyOrder 3 none rm_X4_copyOrder [.ref (rr Θ 15 0 0), .ref (rr Θ 5 o2 0)] h K := by
  refine CV.of K [(0, .ref (rr Θ 15 0 0)), (1, .ref (rr Θ 5 o2 0))] (plainFor_of_name (by decide)) (Nat.le_of_ble_eq_true rfl) rfl (fun Γ C Rt => ?_)
  replace hk := rtV Rt hk
  unfold f_X4_copyOrder_15_5 at hk
  refine g_iconst C (0 : Int32) dX4_copyOrder_0 (by decide) (n := 1) rfl ?_
  refine g_istore_n C [(2, .int (0 : Int32)), (0, .ref (rr Θ 15 0 0)), (1, .ref (rr Θ 5 o2 0))] dX4_copyOrder_1 rfl (by decide) rfl (n := 2) rfl ?_
  refine g_lv [1, 2, 0] [(0, .ref (rr Θ 15 0 0)), (1, .ref (rr Θ 5 o2 0)), (2, .int (0 : Int32))] rfl ?_
  refine Ok.join hk (fun e10 => G Θ Γ 19 [] [] e10) (fun e10 hk => ?_) (fun hk => ?_)
  · exact retV hk.out dX4_copyOrder_19
  · refine Ok.loop (fun a7 => G Θ Γ 2 [(0, .ref (rr Θ 15 0 0)), (1, .ref (rr Θ 5 o2 0)), (2, .int a7.1)] [] a7.2) (fun a7 hk => ?_) _ _ hk
    refine g_iload_n C 2 dX4_copyOrder_2 rfl rfl (n := 3) rfl ?_
    refine g_iconst C (4 : Int32) dX4_copyOrder_3 (by decide) (n := 4) rfl ?_
    refine g_ic_ge C 19 dX4_copyOrder_4 (by decide) (n := 7) rfl hk (fun hk => ?_) (fun hk => ?_)
    · refine g_lv [] [] rfl ?_
      exact hk.out
    · refine g_aload_n C 1 dX4_copyOrder_7 rfl rfl (n := 8) rfl ?_
      refine g_iload_n C 2 dX4_copyOrder_8 rfl rfl (n := 9) rfl ?_
      refine g_aload_n C 0 dX4_copyOrder_9 rfl rfl (n := 10) rfl ?_
      refine g_iload_n C 2 dX4_copyOrder_10 rfl rfl (n := 11) rfl ?_
      refine g_iald C an_15 (by decide) dX4_copyOrder_11 (n := 12) rfl hk (fun _ hk => ?_)
      refine g_iast C an_5 ho2 dX4_copyOrder_12 (n := 13) rfl hk (fun _ h8 hk => ?_)
      refine g_iinc C 2 (fun x9 => [(2, .int x9), (0, .ref (rr Θ 15 0 0)), (1, .ref (rr Θ 5 o2 0))]) dX4_copyOrder_13 rfl (v := (a7.1 + (1 : Int32))) rfl (by decide) (fun _ => rfl) (n := 16) rfl hk (fun x9 hk => ?_)
      refine g_goto C 2 dX4_copyOrder_16 (by decide) ?_
      refine g_lv [1, 2, 0] [(0, .ref (rr Θ 15 0 0)), (1, .ref (rr Θ 5 o2 0)), (2, .int x9)] rfl ?_
      exact hk.out
def f_X4_copyOrder_15_14  (h : Mem) : Option (Mem) := obd (lp fu (fun a7 => (if (4 : Int32) ≤ a7.1 then some (.inr a7.2) else gd (inb a7.1 4) (gd (inb a7.1 4) (bnd (up a7.2 14 0 0 a7.1.toNatClampNeg (a7.2 15 0 0 a7.1.toNatClampNeg)) (fun h8 => bnd (a7.1 + (1 : Int32)) (fun x9 => some (.inl (x9, h8)))))))) ((0 : Int32), h)) (fun e10 => some e10)
set_option maxHeartbeats 4000000 in
set_option maxRecDepth 100000 in
theorem L_X4_copyOrder_15_14 (Θ : Tht)  (h : Mem) (K : Mem → Prop) (hk : Ok (f_X4_copyOrder_15_14  h) K) : CV Θ yX4_copyOrder cX4_copyOrder 3 none rm_X4_copyOrder [.ref (rr Θ 15 0 0), .ref (rr Θ 14 0 0)] h K := by
  refine CV.of K [(0, .ref (rr Θ 15 0 0)), (1, .ref (rr Θ 14 0 0))] (plainFor_of_name (by decide)) (Nat.le_of_ble_eq_true rfl) rfl (fun Γ C Rt => ?_)
  replace hk := rtV Rt hk
  unfold f_X4_copyOrder_15_14 at hk
  refine g_iconst C (0 : Int32) dX4_copyOrder_0 (by decide) (n := 1) rfl ?_
  refine g_istore_n C [(2, .int (0 : Int32)), (0, .ref (rr Θ 15 0 0)), (1, .ref (rr Θ 14 0 0))] dX4_copyOrder_1 rfl (by decide) rfl (n := 2) rfl ?_
  refine g_lv [1, 2, 0] [(0, .ref (rr Θ 15 0 0)), (1, .ref (rr Θ 14 0 0)), (2, .int (0 : Int32))] rfl ?_
  refine Ok.join hk (fun e10 => G Θ Γ 19 [] [] e10) (fun e10 hk => ?_) (fun hk => ?_)
  · exact retV hk.out dX4_copyOrder_19
  · refine Ok.loop (fun a7 => G Θ Γ 2 [(0, .ref (rr Θ 15 0 0)), (1, .ref (rr Θ 14 0 0)), (2, .int a7.1)] [] a7.2) (fun a7 hk => ?_) _ _ hk
    refine g_iload_n C 2 dX4_copyOrder_2 rfl rfl (n := 3) rfl ?_
    refine g_iconst C (4 : Int32) dX4_copyOrder_3 (by decide) (n := 4) rfl ?_
    refine g_ic_ge C 19 dX4_copyOrder_4 (by decide) (n := 7) rfl hk (fun hk => ?_) (fun hk => ?_)
    · refine g_lv [] [] rfl ?_
      exact hk.out
    · refine g_aload_n C 1 dX4_copyOrder_7 rfl rfl (n := 8) rfl ?_
      refine g_iload_n C 2 dX4_copyOrder_8 rfl rfl (n := 9) rfl ?_
      refine g_aload_n C 0 dX4_copyOrder_9 rfl rfl (n := 10) rfl ?_
      refine g_iload_n C 2 dX4_copyOrder_10 rfl rfl (n := 11) rfl ?_
      refine g_iald C an_15 (by decide) dX4_copyOrder_11 (n := 12) rfl hk (fun _ hk => ?_)
      refine g_iast C an_14 (by decide) dX4_copyOrder_12 (n := 13) rfl hk (fun _ h8 hk => ?_)
      refine g_iinc C 2 (fun x9 => [(2, .int x9), (0, .ref (rr Θ 15 0 0)), (1, .ref (rr Θ 14 0 0))]) dX4_copyOrder_13 rfl (v := (a7.1 + (1 : Int32))) rfl (by decide) (fun _ => rfl) (n := 16) rfl hk (fun x9 hk => ?_)
      refine g_goto C 2 dX4_copyOrder_16 (by decide) ?_
      refine g_lv [1, 2, 0] [(0, .ref (rr Θ 15 0 0)), (1, .ref (rr Θ 14 0 0)), (2, .int x9)] rfl ?_
      exact hk.out
def f_X4_note (p1 : Int32) (h : Mem) : Option (Mem) := (if p1 = (-4 : Int32) then some h else bnd (up h 13 0 0 0 ((h 13 0 0 0) + (1 : Int32))) (fun h1 => (if (h1 13 1 0 0) ≤ p1 then some h1 else bnd (up h1 13 1 0 0 p1) (fun h2 => obd (f_X4_copyOrder_15_14 h2) (fun h3 => some h3)))))
def rm_X4_note : Room := { frames := 1, cells := 0, slots := 0, locals := 22 }
set_option maxHeartbeats 4000000 in
set_option maxRecDepth 100000 in
theorem L_X4_note (Θ : Tht) (p1 : Int32) (h : Mem) (K : Mem → Prop) (hk : Ok (f_X4_note p1 h) K) : CV Θ yX4_note cX4_note 2 none rm_X4_note [.ref (rr Θ 13 0 0), .int p1] h K := by
  refine CV.of K [(0, .ref (rr Θ 13 0 0)), (1, .int p1)] (plainFor_of_name (by decide)) (Nat.le_of_ble_eq_true rfl) rfl (fun Γ C Rt => ?_)
  replace hk := rtV Rt hk
  unfold f_X4_note at hk
  refine g_iload_n C 1 dX4_note_0 rfl rfl (n := 1) rfl ?_
  refine g_bipush C (-4 : Int32) dX4_note_1 (by decide) (n := 3) rfl ?_
  refine g_ic_ne C 7 dX4_note_3 (by decide) (n := 6) rfl hk (fun hk => ?_) (fun hk => ?_)
  · refine g_aload_n C 0 dX4_note_7 rfl rfl (n := 8) rfl ?_
    refine g_dup C dX4_note_8 rfl (n := 9) rfl ?_
    refine g_getI C kc_13 ft_13_0 (by decide) (by decide) (by decide) wm_242 dX4_note_9 (n := 12) rfl ?_
    refine g_iconst C (1 : Int32) dX4_note_12 (by decide) (n := 13) rfl ?_
    refine g_iadd C dX4_note_13 (n := 14) rfl ?_
    refine g_putI C kc_13 ft_13_0 (by decide) (by decide) (by decide) rfl (fitI _) wm_242 dX4_note_14 (n := 17) rfl hk (fun h1 hk => ?_)
    refine g_iload_n C 1 dX4_note_17 rfl rfl (n := 18) rfl ?_
    refine g_aload_n C 0 dX4_note_18 rfl rfl (n := 19) rfl ?_
    refine g_getI C kc_13 ft_13_1 (by decide) (by decide) (by decide) wm_244 dX4_note_19 (n := 22) rfl ?_
    refine g_ic_ge C 41 dX4_note_22 (by decide) (n := 25) rfl hk (fun hk => ?_) (fun hk => ?_)
    · exact retV hk.out dX4_note_41
    · refine g_aload_n C 0 dX4_note_25 rfl rfl (n := 26) rfl ?_
      refine g_iload_n C 1 dX4_note_26 rfl rfl (n := 27) rfl ?_
      refine g_putI C kc_13 ft_13_1 (by decide) (by decide) (by decide) rfl (fitI _) wm_244 dX4_note_27 (n := 30) rfl hk (fun h2 hk => ?_)
      refine g_aload_n C 0 dX4_note_30 rfl rfl (n := 31) rfl ?_
      refine g_getR C kc_13 (rt_13_3 (tB Θ) 0) (by decide) (by decide) (by decide) wm_248 dX4_note_31 (n := 34) rfl ?_
      refine g_aload_n C 0 dX4_note_34 rfl rfl (n := 35) rfl ?_
      refine g_getR C kc_13 (rt_13_2 (tB Θ) 0) (by decide) (by decide) (by decide) wm_246 dX4_note_35 (n := 38) rfl ?_
      refine g_cSV C hk (fun K hk => L_X4_copyOrder_15_14 Θ h2 K hk) lk_X4_32 ⟨rfl, rfl⟩ ⟨Nat.le_of_ble_eq_true rfl, Nat.le_of_ble_eq_true rfl⟩ dX4_note_38 rfl rfl (Nat.le_of_ble_eq_true rfl) (n := 41) rfl (fun h3 hk => ?_)
      exact retV hk.out dX4_note_41
  · exact retV hk.out dX4_note_6
def f_X4_swap (p1 : Int32) (p2 : Int32) (h : Mem) : Option (Mem) := gd (inb p1 4) (bnd (h 15 0 0 p1.toNatClampNeg) (fun x1 => gd (inb p2 4) (gd (inb p1 4) (bnd (up h 15 0 0 p1.toNatClampNeg (h 15 0 0 p2.toNatClampNeg)) (fun h2 => gd (inb p2 4) (bnd (up h2 15 0 0 p2.toNatClampNeg x1) (fun h3 => some h3)))))))
def rm_X4_swap : Room := { frames := 0, cells := 0, slots := 0, locals := 0 }
set_option maxHeartbeats 4000000 in
set_option maxRecDepth 100000 in
theorem L_X4_swap (Θ : Tht) (p1 : Int32) (p2 : Int32) (h : Mem) (K : Mem → Prop) (hk : Ok (f_X4_swap p1 p2 h) K) : CV Θ yX4_swap cX4_swap 4 none rm_X4_swap [.ref (rr Θ 13 0 0), .int p1, .int p2] h K := by
  refine CV.of K [(0, .ref (rr Θ 13 0 0)), (1, .int p1), (2, .int p2)] (plainFor_of_name (by decide)) (Nat.le_of_ble_eq_true rfl) rfl (fun Γ C Rt => ?_)
  replace hk := rtV Rt hk
  unfold f_X4_swap at hk
  refine g_aload_n C 0 dX4_swap_0 rfl rfl (n := 1) rfl ?_
  refine g_getR C kc_13 (rt_13_3 (tB Θ) 0) (by decide) (by decide) (by decide) wm_248 dX4_swap_1 (n := 4) rfl ?_
  refine g_iload_n C 1 dX4_swap_4 rfl rfl (n := 5) rfl ?_
  refine g_iald C an_15 (by decide) dX4_swap_5 (n := 6) rfl hk (fun _ hk => ?_)
  refine g_nm hk (fun x1 hk => ?_)
  refine g_istore_n C [(3, .int x1), (0, .ref (rr Θ 13 0 0)), (1, .int p1), (2, .int p2)] dX4_swap_6 rfl (by decide) rfl (n := 7) rfl ?_
  refine g_aload_n C 1 dX4_swap_7 rfl rfl (n := 8) rfl ?_
  refine g_getR C kc_13 (rt_13_3 (tB Θ) 0) (by decide) (by decide) (by decide) wm_248 dX4_swap_8 (n := 11) rfl ?_
  refine g_iload_n C 2 dX4_swap_11 rfl rfl (n := 12) rfl ?_
  refine g_aload_n C 1 dX4_swap_12 rfl rfl (n := 13) rfl ?_
  refine g_getR C kc_13 (rt_13_3 (tB Θ) 0) (by decide) (by decide) (by decide) wm_248 dX4_swap_13 (n := 16) rfl ?_
  refine g_iload_n C 3 dX4_swap_16 rfl rfl (n := 17) rfl ?_
  refine g_iald C an_15 (by decide) dX4_swap_17 (n := 18) rfl hk (fun _ hk => ?_)
  refine g_iast C an_15 (by decide) dX4_swap_18 (n := 19) rfl hk (fun _ h2 hk => ?_)
  refine g_aload_n C 1 dX4_swap_19 rfl rfl (n := 20) rfl ?_
  refine g_getR C kc_13 (rt_13_3 (tB Θ) 0) (by decide) (by decide) (by decide) wm_248 dX4_swap_20 (n := 23) rfl ?_
  refine g_iload_n C 3 dX4_swap_23 rfl rfl (n := 24) rfl ?_
  refine g_iload_n C 0 dX4_swap_24 rfl rfl (n := 25) rfl ?_
  refine g_iast C an_15 (by decide) dX4_swap_25 (n := 26) rfl hk (fun _ h3 hk => ?_)
  exact retV hk.out dX4_swap_26
def f_X4_turnToNext (p1 : Int32) (h : Mem) : Option (Bool × Mem) := bnd (p1 - (2 : Int32)) (fun x1 => obd (lp fu (fun a4 => (if a4 < 0 then some (.inr a4) else gd (inb a4 4) (gd (inb (a4 + (1 : Int32)) 4) ((if (h 15 0 0 a4.toNatClampNeg) ≤ (h 15 0 0 (a4 + (1 : Int32)).toNatClampNeg) then some (.inr a4) else bnd (a4 + (-1 : Int32)) (fun x5 => some (.inl x5))))))) x1) (fun e6 => (if 0 ≤ e6 then bnd (p1 - (1 : Int32)) (fun x7 => obd (lp fu (fun a10 => (if a10 ≤ e6 then some (.inr a10) else gd (inb a10 4) (gd (inb e6 4) ((if (h 15 0 0 e6.toNatClampNeg) ≤ (h 15 0 0 a10.toNatClampNeg) then some (.inr a10) else bnd (a10 + (-1 : Int32)) (fun x11 => some (.inl x11))))))) x7) (fun e12 => obd (f_X4_swap e6 e12 h) (fun h13 => bnd (e6 + (1 : Int32)) (fun x14 => bnd (p1 - (1 : Int32)) (fun x15 => obd (lp fu (fun a20 => (if a20.2.1 ≤ a20.1 then some (.inr a20.2.2) else obd (f_X4_swap a20.1 a20.2.1 a20.2.2) (fun h21 => bnd (a20.1 + (1 : Int32)) (fun x22 => bnd (a20.2.1 + (-1 : Int32)) (fun x23 => some (.inl (x22, x23, h21))))))) (x14, x15, h13)) (fun e24 => some (true, e24))))))) else some (false, h))))
def rm_X4_turnToNext : Room := { frames := 1, cells := 0, slots := 0, locals := 23 }
set_option maxHeartbeats 4000000 in
set_option maxRecDepth 100000 in
theorem L_X4_turnToNext (Θ : Tht) (p1 : Int32) (h : Mem) (K : Bool × Mem → Prop) (hk : Ok (f_X4_turnToNext p1 h) K) : CB Θ yX4_turnToNext cX4_turnToNext 6 (some .boolean) rm_X4_turnToNext [.ref (rr Θ 13 0 0), .int p1] h K := by
  refine CB.of K [(0, .ref (rr Θ 13 0 0)), (1, .int p1)] (plainFor_of_name (by decide)) (Nat.le_of_ble_eq_true rfl) rfl (fun Γ C Rt => ?_)
  replace hk := rtB Rt hk
  unfold f_X4_turnToNext at hk
  refine g_iload_n C 1 dX4_turnToNext_0 rfl rfl (n := 1) rfl ?_
  refine g_iconst C (2 : Int32) dX4_turnToNext_1 (by decide) (n := 2) rfl ?_
  refine g_isub C dX4_turnToNext_2 (n := 3) rfl ?_
  refine g_nm hk (fun x1 hk => ?_)
  refine g_istore_n C [(2, .int x1), (0, .ref (rr Θ 13 0 0)), (1, .int p1)] dX4_turnToNext_3 rfl (by decide) rfl (n := 4) rfl ?_
  refine g_lv [1, 2, 0] [(0, .ref (rr Θ 13 0 0)), (1, .int p1), (2, .int x1)] rfl ?_
  refine Ok.join hk (fun e6 => G Θ Γ 31 [(0, .ref (rr Θ 13 0 0)), (1, .int p1), (2, .int e6)] [] h) (fun e6 hk => ?_) (fun hk => ?_)
  · refine g_iload_n C 2 dX4_turnToNext_31 rfl rfl (n := 32) rfl ?_
    refine g_if_ge C 37 dX4_turnToNext_32 (by decide) (n := 35) rfl hk (fun hk => ?_) (fun hk => ?_)
    · refine g_iload_n C 1 dX4_turnToNext_37 rfl rfl (n := 38) rfl ?_
      refine g_iconst C (1 : Int32) dX4_turnToNext_38 (by decide) (n := 39) rfl ?_
      refine g_isub C dX4_turnToNext_39 (n := 40) rfl ?_
      refine g_nm hk (fun x7 hk => ?_)
      refine g_istore_n C [(3, .int x7), (0, .ref (rr Θ 13 0 0)), (1, .int p1), (2, .int e6)] dX4_turnToNext_40 rfl (by decide) rfl (n := 41) rfl ?_
      refine g_lv [1, 2, 3, 0] [(0, .ref (rr Θ 13 0 0)), (1, .int p1), (2, .int e6), (3, .int x7)] rfl ?_
      refine Ok.join hk (fun e12 => G Θ Γ 67 [(0, .ref (rr Θ 13 0 0)), (1, .int p1), (2, .int e6), (3, .int e12)] [] h) (fun e12 hk => ?_) (fun hk => ?_)
      · refine g_aload_n C 0 dX4_turnToNext_67 rfl rfl (n := 68) rfl ?_
        refine g_iload_n C 2 dX4_turnToNext_68 rfl rfl (n := 69) rfl ?_
        refine g_iload_n C 3 dX4_turnToNext_69 rfl rfl (n := 70) rfl ?_
        refine g_cVV C hk (fun K hk => L_X4_swap Θ e6 e12 h K hk) lk_X4_51 kc_13 (by decide) (by decide) ⟨rfl, rfl⟩ ⟨Nat.le_of_ble_eq_true rfl, Nat.le_of_ble_eq_true rfl⟩ dX4_turnToNext_70 rfl rfl (Nat.le_of_ble_eq_true rfl) (n := 73) rfl (fun h13 hk => ?_)
        refine g_iload_n C 2 dX4_turnToNext_73 rfl rfl (n := 74) rfl ?_
        refine g_iconst C (1 : Int32) dX4_turnToNext_74 (by decide) (n := 75) rfl ?_
        refine g_iadd C dX4_turnToNext_75 (n := 76) rfl ?_
        refine g_nm hk (fun x14 hk => ?_)
        refine g_istore C [(4, .int x14), (0, .ref (rr Θ 13 0 0)), (1, .int p1), (2, .int e6), (3, .int e12)] dX4_turnToNext_76 (by decide) rfl (n := 78) rfl ?_
        refine g_iload_n C 2 dX4_turnToNext_78 rfl rfl (n := 79) rfl ?_
        refine g_iconst C (1 : Int32) dX4_turnToNext_79 (by decide) (n := 80) rfl ?_
        refine g_isub C dX4_turnToNext_80 (n := 81) rfl ?_
        refine g_nm hk (fun x15 hk => ?_)
        refine g_istore C [(5, .int x15), (4, .int x14), (0, .ref (rr Θ 13 0 0)), (1, .int p1), (2, .int e6), (3, .int e12)] dX4_turnToNext_81 (by decide) rfl (n := 83) rfl ?_
        refine g_lv [2, 1, 0] [(0, .ref (rr Θ 13 0 0)), (4, .int x14), (5, .int x15)] rfl ?_
        refine Ok.join hk (fun e24 => G Θ Γ 107 [] [] e24) (fun e24 hk => ?_) (fun hk => ?_)
        · refine g_iconst C (1 : Int32) dX4_turnToNext_107 (by decide) (n := 108) rfl ?_
          exact retB true rfl hk.out dX4_turnToNext_108
        · refine Ok.loop (fun a20 => G Θ Γ 83 [(0, .ref (rr Θ 13 0 0)), (4, .int a20.1), (5, .int a20.2.1)] [] a20.2.2) (fun a20 hk => ?_) _ _ hk
          refine g_iload C 1 dX4_turnToNext_83 rfl (n := 85) rfl ?_
          refine g_iload C 2 dX4_turnToNext_85 rfl (n := 87) rfl ?_
          refine g_ic_ge C 107 dX4_turnToNext_87 (by decide) (n := 90) rfl hk (fun hk => ?_) (fun hk => ?_)
          · refine g_lv [] [] rfl ?_
            exact hk.out
          · refine g_aload_n C 0 dX4_turnToNext_90 rfl rfl (n := 91) rfl ?_
            refine g_iload C 1 dX4_turnToNext_91 rfl (n := 93) rfl ?_
            refine g_iload C 2 dX4_turnToNext_93 rfl (n := 95) rfl ?_
            refine g_cVV C hk (fun K hk => L_X4_swap Θ a20.1 a20.2.1 a20.2.2 K hk) lk_X4_51 kc_13 (by decide) (by decide) ⟨rfl, rfl⟩ ⟨Nat.le_of_ble_eq_true rfl, Nat.le_of_ble_eq_true rfl⟩ dX4_turnToNext_95 rfl rfl (Nat.le_of_ble_eq_true rfl) (n := 98) rfl (fun h21 hk => ?_)
            refine g_iinc C 1 (fun x22 => [(4, .int x22), (0, .ref (rr Θ 13 0 0)), (5, .int a20.2.1)]) dX4_turnToNext_98 rfl (v := (a20.1 + (1 : Int32))) rfl (by decide) (fun _ => rfl) (n := 101) rfl hk (fun x22 hk => ?_)
            refine g_iinc C 2 (fun x23 => [(5, .int x23), (4, .int x22), (0, .ref (rr Θ 13 0 0))]) dX4_turnToNext_101 rfl (v := (a20.2.1 + (-1 : Int32))) rfl (by decide) (fun _ => rfl) (n := 104) rfl hk (fun x23 hk => ?_)
            refine g_goto C 83 dX4_turnToNext_104 (by decide) ?_
            refine g_lv [2, 1, 0] [(0, .ref (rr Θ 13 0 0)), (4, .int x22), (5, .int x23)] rfl ?_
            exact hk.out
      · refine Ok.loop (fun a10 => G Θ Γ 41 [(0, .ref (rr Θ 13 0 0)), (1, .int p1), (2, .int e6), (3, .int a10)] [] h) (fun a10 hk => ?_) _ _ hk
        refine g_iload_n C 3 dX4_turnToNext_41 rfl rfl (n := 42) rfl ?_
        refine g_iload_n C 2 dX4_turnToNext_42 rfl rfl (n := 43) rfl ?_
        refine g_ic_le C 67 dX4_turnToNext_43 (by decide) (n := 46) rfl hk (fun hk => ?_) (fun hk => ?_)
        · exact hk.out
        · refine g_aload_n C 0 dX4_turnToNext_46 rfl rfl (n := 47) rfl ?_
          refine g_getR C kc_13 (rt_13_3 (tB Θ) 0) (by decide) (by decide) (by decide) wm_248 dX4_turnToNext_47 (n := 50) rfl ?_
          refine g_iload_n C 3 dX4_turnToNext_50 rfl rfl (n := 51) rfl ?_
          refine g_iald C an_15 (by decide) dX4_turnToNext_51 (n := 52) rfl hk (fun _ hk => ?_)
          refine g_aload_n C 0 dX4_turnToNext_52 rfl rfl (n := 53) rfl ?_
          refine g_getR C kc_13 (rt_13_3 (tB Θ) 0) (by decide) (by decide) (by decide) wm_248 dX4_turnToNext_53 (n := 56) rfl ?_
          refine g_iload_n C 2 dX4_turnToNext_56 rfl rfl (n := 57) rfl ?_
          refine g_iald C an_15 (by decide) dX4_turnToNext_57 (n := 58) rfl hk (fun _ hk => ?_)
          refine g_ic_ge C 67 dX4_turnToNext_58 (by decide) (n := 61) rfl hk (fun hk => ?_) (fun hk => ?_)
          · exact hk.out
          · refine g_iinc C 3 (fun x11 => [(3, .int x11), (0, .ref (rr Θ 13 0 0)), (1, .int p1), (2, .int e6)]) dX4_turnToNext_61 rfl (v := (a10 + (-1 : Int32))) rfl (by decide) (fun _ => rfl) (n := 64) rfl hk (fun x11 hk => ?_)
            refine g_goto C 41 dX4_turnToNext_64 (by decide) ?_
            refine g_lv [1, 2, 3, 0] [(0, .ref (rr Θ 13 0 0)), (1, .int p1), (2, .int e6), (3, .int x11)] rfl ?_
            exact hk.out
    · refine g_iconst C (0 : Int32) dX4_turnToNext_35 (by decide) (n := 36) rfl ?_
      exact retB false rfl hk.out dX4_turnToNext_36
  · refine Ok.loop (fun a4 => G Θ Γ 4 [(0, .ref (rr Θ 13 0 0)), (1, .int p1), (2, .int a4)] [] h) (fun a4 hk => ?_) _ _ hk
    refine g_iload_n C 2 dX4_turnToNext_4 rfl rfl (n := 5) rfl ?_
    refine g_if_lt C 31 dX4_turnToNext_5 (by decide) (n := 8) rfl hk (fun hk => ?_) (fun hk => ?_)
    · exact hk.out
    · refine g_aload_n C 0 dX4_turnToNext_8 rfl rfl (n := 9) rfl ?_
      refine g_getR C kc_13 (rt_13_3 (tB Θ) 0) (by decide) (by decide) (by decide) wm_248 dX4_turnToNext_9 (n := 12) rfl ?_
      refine g_iload_n C 2 dX4_turnToNext_12 rfl rfl (n := 13) rfl ?_
      refine g_iald C an_15 (by decide) dX4_turnToNext_13 (n := 14) rfl hk (fun _ hk => ?_)
      refine g_aload_n C 0 dX4_turnToNext_14 rfl rfl (n := 15) rfl ?_
      refine g_getR C kc_13 (rt_13_3 (tB Θ) 0) (by decide) (by decide) (by decide) wm_248 dX4_turnToNext_15 (n := 18) rfl ?_
      refine g_iload_n C 2 dX4_turnToNext_18 rfl rfl (n := 19) rfl ?_
      refine g_iconst C (1 : Int32) dX4_turnToNext_19 (by decide) (n := 20) rfl ?_
      refine g_iadd C dX4_turnToNext_20 (n := 21) rfl ?_
      refine g_iald C an_15 (by decide) dX4_turnToNext_21 (n := 22) rfl hk (fun _ hk => ?_)
      refine g_ic_le C 31 dX4_turnToNext_22 (by decide) (n := 25) rfl hk (fun hk => ?_) (fun hk => ?_)
      · exact hk.out
      · refine g_iinc C 2 (fun x5 => [(2, .int x5), (0, .ref (rr Θ 13 0 0)), (1, .int p1)]) dX4_turnToNext_25 rfl (v := (a4 + (-1 : Int32))) rfl (by decide) (fun _ => rfl) (n := 28) rfl hk (fun x5 hk => ?_)
        refine g_goto C 4 dX4_turnToNext_28 (by decide) ?_
        refine g_lv [1, 2, 0] [(0, .ref (rr Θ 13 0 0)), (1, .int p1), (2, .int x5)] rfl ?_
        exact hk.out
def f_X4_tryAll (o1 : Nat) (o2 : Nat) (h : Mem) : Option (Mem) := bnd (up h 13 0 0 0 (0 : Int32)) (fun h1 => bnd (up h1 13 1 0 0 (41 : Int32)) (fun h2 => obd (lp fu (fun a9 => (if (4 : Int32) ≤ a9.1 then some (.inr a9.2) else gd (inb a9.1 4) (bnd (up a9.2 15 0 0 a9.1.toNatClampNeg a9.1) (fun h10 => bnd (a9.1 + (1 : Int32)) (fun x11 => some (.inl (x11, h10))))))) ((0 : Int32), h2)) (fun e12 => obd (lp fu (fun a31 => (if (24 : Int32) ≤ a31.2.1 then some (.inr a31.2.2) else (if a31.1 = true then obd (f_X0_copyFrom o2 o1 a31.2.2) (fun h32 => obd (f_X4_copyOrder_15_5 o2 h32) (fun h33 => ob2 (f_X0_stepsUntilSorted o2 (40 : Int32) h33) (fun r34 h35 => obd (f_X4_note r34 h35) (fun h36 => ob2 (f_X4_turnToNext (h36 1 4 o1 0) h36) (fun r37 h38 => bnd (a31.2.1 + (1 : Int32)) (fun x39 => some (.inl (r37, x39, h38)))))))) else some (.inr a31.2.2)))) (true, (0 : Int32), e12)) (fun e40 => some e40))))
def rm_X4_tryAll : Room := { frames := 5, cells := 0, slots := 0, locals := 110 }
set_option maxHeartbeats 4000000 in
set_option maxRecDepth 100000 in
theorem L_X4_tryAll (Θ : Tht) (o1 : Nat) (ho1 : o1 < 5) (o2 : Nat) (ho2 : o2 < 5) (h : Mem) (K : Mem → Prop) (hk : Ok (f_X4_tryAll o1 o2 h) K) : CV Θ yX4_tryAll cX4_tryAll 5 none rm_X4_tryAll [.ref (rr Θ 13 0 0), .ref (rr Θ 1 o1 0), .ref (rr Θ 1 o2 0)] h K := by
  refine CV.of K [(0, .ref (rr Θ 13 0 0)), (1, .ref (rr Θ 1 o1 0)), (2, .ref (rr Θ 1 o2 0))] (plainFor_of_name (by decide)) (Nat.le_of_ble_eq_true rfl) rfl (fun Γ C Rt => ?_)
  replace hk := rtV Rt hk
  unfold f_X4_tryAll at hk
  refine g_aload_n C 0 dX4_tryAll_0 rfl rfl (n := 1) rfl ?_
  refine g_iconst C (0 : Int32) dX4_tryAll_1 (by decide) (n := 2) rfl ?_
  refine g_putI C kc_13 ft_13_0 (by decide) (by decide) (by decide) rfl (fitI _) wm_242 dX4_tryAll_2 (n := 5) rfl hk (fun h1 hk => ?_)
  refine g_aload_n C 0 dX4_tryAll_5 rfl rfl (n := 6) rfl ?_
  refine g_bipush C (41 : Int32) dX4_tryAll_6 (by decide) (n := 8) rfl ?_
  refine g_putI C kc_13 ft_13_1 (by decide) (by decide) (by decide) rfl (fitI _) wm_244 dX4_tryAll_8 (n := 11) rfl hk (fun h2 hk => ?_)
  refine g_iconst C (0 : Int32) dX4_tryAll_11 (by decide) (n := 12) rfl ?_
  refine g_istore_n C [(3, .int (0 : Int32)), (0, .ref (rr Θ 13 0 0)), (1, .ref (rr Θ 1 o1 0)), (2, .ref (rr Θ 1 o2 0))] dX4_tryAll_12 rfl (by decide) rfl (n := 13) rfl ?_
  refine g_lv [1, 2, 3, 0] [(0, .ref (rr Θ 13 0 0)), (1, .ref (rr Θ 1 o1 0)), (2, .ref (rr Θ 1 o2 0)), (3, .int (0 : Int32))] rfl ?_
  refine Ok.join hk (fun e12 => G Θ Γ 31 [(0, .ref (rr Θ 13 0 0)), (1, .ref (rr Θ 1 o1 0)), (2, .ref (rr Θ 1 o2 0))] [] e12) (fun e12 hk => ?_) (fun hk => ?_)
  · refine g_iconst C (1 : Int32) dX4_tryAll_31 (by decide) (n := 32) rfl ?_
    refine g_istore_n C [(3, .int (1 : Int32)), (0, .ref (rr Θ 13 0 0)), (1, .ref (rr Θ 1 o1 0)), (2, .ref (rr Θ 1 o2 0))] dX4_tryAll_32 rfl (by decide) rfl (n := 33) rfl ?_
    refine g_iconst C (0 : Int32) dX4_tryAll_33 (by decide) (n := 34) rfl ?_
    refine g_istore C [(4, .int (0 : Int32)), (3, .int (1 : Int32)), (0, .ref (rr Θ 13 0 0)), (1, .ref (rr Θ 1 o1 0)), (2, .ref (rr Θ 1 o2 0))] dX4_tryAll_34 (by decide) rfl (n := 36) rfl ?_
    refine g_lv [2, 3, 4, 1, 0] [(0, .ref (rr Θ 13 0 0)), (1, .ref (rr Θ 1 o1 0)), (2, .ref (rr Θ 1 o2 0)), (3, .int (1 : Int32)), (4, .int (0 : Int32))] rfl ?_
    refine Ok.join hk (fun e40 => G Θ Γ 88 [] [] e40) (fun e40 hk => ?_) (fun hk => ?_)
    · exact retV hk.out dX4_tryAll_88
    · refine Ok.loop (fun a31 => G Θ Γ 36 [(0, .ref (rr Θ 13 0 0)), (1, .ref (rr Θ 1 o1 0)), (2, .ref (rr Θ 1 o2 0)), (3, .int (b2i a31.1)), (4, .int a31.2.1)] [] a31.2.2) (fun a31 hk => ?_) _ _ hk
      refine g_iload C 4 dX4_tryAll_36 rfl (n := 38) rfl ?_
      refine g_bipush C (24 : Int32) dX4_tryAll_38 (by decide) (n := 40) rfl ?_
      refine g_ic_ge C 88 dX4_tryAll_40 (by decide) (n := 43) rfl hk (fun hk => ?_) (fun hk => ?_)
      · refine g_lv [] [] rfl ?_
        exact hk.out
      · refine g_iload_n C 3 dX4_tryAll_43 rfl rfl (n := 44) rfl ?_
        refine g_bf C 88 dX4_tryAll_44 (by decide) (n := 47) rfl hk (fun hk => ?_) (fun hk => ?_)
        · refine g_lv [] [] rfl ?_
          exact hk.out
        · refine g_aload_n C 2 dX4_tryAll_47 rfl rfl (n := 48) rfl ?_
          refine g_aload_n C 1 dX4_tryAll_48 rfl rfl (n := 49) rfl ?_
          refine g_cVV C hk (fun K hk => L_X0_copyFrom Θ o2 ho2 o1 ho1 a31.2.2 K hk) lk_X4_25 kc_1 ho2 (by decide) ⟨rfl, rfl⟩ ⟨Nat.le_of_ble_eq_true rfl, Nat.le_of_ble_eq_true rfl⟩ dX4_tryAll_49 rfl rfl (Nat.le_of_ble_eq_true rfl) (n := 52) rfl (fun h32 hk => ?_)
          refine g_aload_n C 0 dX4_tryAll_52 rfl rfl (n := 53) rfl ?_
          refine g_getR C kc_13 (rt_13_3 (tB Θ) 0) (by decide) (by decide) (by decide) wm_248 dX4_tryAll_53 (n := 56) rfl ?_
          refine g_aload_n C 2 dX4_tryAll_56 rfl rfl (n := 57) rfl ?_
          refine g_getR C kc_1 (rt_1_9 (tB Θ) o2) ho2 (by decide) (by decide) wm_187 dX4_tryAll_57 (n := 60) rfl ?_
          refine g_cSV C hk (fun K hk => L_X4_copyOrder_15_5 Θ o2 ho2 h32 K hk) lk_X4_32 ⟨rfl, rfl⟩ ⟨Nat.le_of_ble_eq_true rfl, Nat.le_of_ble_eq_true rfl⟩ dX4_tryAll_60 rfl rfl (Nat.le_of_ble_eq_true rfl) (n := 63) rfl (fun h33 hk => ?_)
          refine g_aload_n C 0 dX4_tryAll_63 rfl rfl (n := 64) rfl ?_
          refine g_aload_n C 2 dX4_tryAll_64 rfl rfl (n := 65) rfl ?_
          refine g_bipush C (40 : Int32) dX4_tryAll_65 (by decide) (n := 67) rfl ?_
          refine g_cVI C hk (fun K hk => L_X0_stepsUntilSorted Θ o2 ho2 (40 : Int32) h33 K hk) lk_X4_36 kc_1 ho2 (by decide) ⟨rfl, rfl⟩ ⟨Nat.le_of_ble_eq_true rfl, Nat.le_of_ble_eq_true rfl⟩ dX4_tryAll_67 rfl rfl (Nat.le_of_ble_eq_true rfl) (n := 70) rfl (fun r34 h35 hk => ?_)
          refine g_cVV C hk (fun K hk => L_X4_note Θ r34 h35 K hk) lk_X4_40 kc_13 (by decide) (by decide) ⟨rfl, rfl⟩ ⟨Nat.le_of_ble_eq_true rfl, Nat.le_of_ble_eq_true rfl⟩ dX4_tryAll_70 rfl rfl (Nat.le_of_ble_eq_true rfl) (n := 73) rfl (fun h36 hk => ?_)
          refine g_aload_n C 0 dX4_tryAll_73 rfl rfl (n := 74) rfl ?_
          refine g_aload_n C 1 dX4_tryAll_74 rfl rfl (n := 75) rfl ?_
          refine g_getI C kc_1 ft_1_4 ho1 (by decide) (by decide) wm_173 dX4_tryAll_75 (n := 78) rfl ?_
          refine g_cVB C hk (fun K hk => L_X4_turnToNext Θ (h36 1 4 o1 0) h36 K hk) lk_X4_47 kc_13 (by decide) (by decide) ⟨rfl, rfl⟩ ⟨Nat.le_of_ble_eq_true rfl, Nat.le_of_ble_eq_true rfl⟩ dX4_tryAll_78 rfl rfl (Nat.le_of_ble_eq_true rfl) (n := 81) rfl (fun r37 h38 hk => ?_)
          refine g_istore_n C [(3, .int (b2i r37)), (0, .ref (rr Θ 13 0 0)), (1, .ref (rr Θ 1 o1 0)), (2, .ref (rr Θ 1 o2 0)), (4, .int a31.2.1)] dX4_tryAll_81 rfl (by decide) rfl (n := 82) rfl ?_
          refine g_iinc C 4 (fun x39 => [(4, .int x39), (3, .int (b2i r37)), (0, .ref (rr Θ 13 0 0)), (1, .ref (rr Θ 1 o1 0)), (2, .ref (rr Θ 1 o2 0))]) dX4_tryAll_82 rfl (v := (a31.2.1 + (1 : Int32))) rfl (by decide) (fun _ => rfl) (n := 85) rfl hk (fun x39 hk => ?_)
          refine g_goto C 36 dX4_tryAll_85 (by decide) ?_
          refine g_lv [2, 3, 4, 1, 0] [(0, .ref (rr Θ 13 0 0)), (1, .ref (rr Θ 1 o1 0)), (2, .ref (rr Θ 1 o2 0)), (3, .int (b2i r37)), (4, .int x39)] rfl ?_
          exact hk.out
  · refine Ok.loop (fun a9 => G Θ Γ 13 [(0, .ref (rr Θ 13 0 0)), (1, .ref (rr Θ 1 o1 0)), (2, .ref (rr Θ 1 o2 0)), (3, .int a9.1)] [] a9.2) (fun a9 hk => ?_) _ _ hk
    refine g_iload_n C 3 dX4_tryAll_13 rfl rfl (n := 14) rfl ?_
    refine g_iconst C (4 : Int32) dX4_tryAll_14 (by decide) (n := 15) rfl ?_
    refine g_ic_ge C 31 dX4_tryAll_15 (by decide) (n := 18) rfl hk (fun hk => ?_) (fun hk => ?_)
    · refine g_lv [0, 1, 2] [(0, .ref (rr Θ 13 0 0)), (1, .ref (rr Θ 1 o1 0)), (2, .ref (rr Θ 1 o2 0))] rfl ?_
      exact hk.out
    · refine g_aload_n C 0 dX4_tryAll_18 rfl rfl (n := 19) rfl ?_
      refine g_getR C kc_13 (rt_13_3 (tB Θ) 0) (by decide) (by decide) (by decide) wm_248 dX4_tryAll_19 (n := 22) rfl ?_
      refine g_iload_n C 3 dX4_tryAll_22 rfl rfl (n := 23) rfl ?_
      refine g_iload_n C 3 dX4_tryAll_23 rfl rfl (n := 24) rfl ?_
      refine g_iast C an_15 (by decide) dX4_tryAll_24 (n := 25) rfl hk (fun _ h10 hk => ?_)
      refine g_iinc C 3 (fun x11 => [(3, .int x11), (0, .ref (rr Θ 13 0 0)), (1, .ref (rr Θ 1 o1 0)), (2, .ref (rr Θ 1 o2 0))]) dX4_tryAll_25 rfl (v := (a9.1 + (1 : Int32))) rfl (by decide) (fun _ => rfl) (n := 28) rfl hk (fun x11 hk => ?_)
      refine g_goto C 13 dX4_tryAll_28 (by decide) ?_
      refine g_lv [1, 2, 3, 0] [(0, .ref (rr Θ 13 0 0)), (1, .ref (rr Θ 1 o1 0)), (2, .ref (rr Θ 1 o2 0)), (3, .int x11)] rfl ?_
      exact hk.out
def f_X9_orders (p1 : Int32) (h : Mem) : Option (Int32 × Mem) := obd (f_X9_within p1 (0 : Int32) (1 : Int32) h) (fun r1 => obd ((if r1 = true then some (.inr ()) else obd (f_X9_within p1 (10 : Int32) (13 : Int32) h) (fun r3 => (if r3 = true then some (.inr ()) else some (.inl ((-1 : Int32), h)))))) (Sum.elim (fun r => some r) (fun a4 => obd (f_X4_tryAll 0 1 h) (fun h5 => (if p1 = 0 then some ((h5 13 0 0 0), h5) else (if (h5 13 0 0 0) = 0 then some ((-4 : Int32), h5) else (if p1 = (1 : Int32) then some ((h5 13 1 0 0), h5) else bnd (p1 - (10 : Int32)) (fun x6 => (if (h5 1 4 0 0) ≤ x6 then some ((-4 : Int32), h5) else gd (inb x6 4) (some ((h5 14 0 0 x6.toNatClampNeg), h5)))))))))))
def rm_X9_orders : Room := { frames := 6, cells := 0, slots := 0, locals := 134 }
set_option maxHeartbeats 4000000 in
set_option maxRecDepth 100000 in
theorem L_X9_orders (Θ : Tht) (p1 : Int32) (h : Mem) (K : Int32 × Mem → Prop) (hk : Ok (f_X9_orders p1 h) K) : CI Θ yX9_orders cX9_orders 3 (some .int) rm_X9_orders [.ref (rr Θ 0 0 0), .int p1] h K := by
  refine CI.of K [(0, .ref (rr Θ 0 0 0)), (1, .int p1)] (plainFor_of_name (by decide)) (Nat.le_of_ble_eq_true rfl) rfl (fun Γ C Rt => ?_)
  replace hk := rtI Rt hk
  unfold f_X9_orders at hk
  refine g_iload_n C 1 dX9_orders_0 rfl rfl (n := 1) rfl ?_
  refine g_iconst C (0 : Int32) dX9_orders_1 (by decide) (n := 2) rfl ?_
  refine g_iconst C (1 : Int32) dX9_orders_2 (by decide) (n := 3) rfl ?_
  refine g_cSBp C hk (fun K hk => L_X9_within Θ p1 (0 : Int32) (1 : Int32) h K hk) lk_X9_69 ⟨rfl, rfl⟩ ⟨Nat.le_of_ble_eq_true rfl, Nat.le_of_ble_eq_true rfl⟩ dX9_orders_3 rfl rfl (Nat.le_of_ble_eq_true rfl) (n := 6) rfl (fun r1 hk => ?_)
  refine Ok.join hk (Sum.elim (PI Θ Γ cX9_orders) (fun a4 => G Θ Γ 22 [(0, .ref (rr Θ 0 0 0)), (1, .int p1)] [] h)) (fun e hk => ?_) (fun hk => ?_)
  · rcases e with r | a4
    · exact hk.out
    · replace hk := ok_inr hk
      refine g_aload_n C 0 dX9_orders_22 rfl rfl (n := 23) rfl ?_
      refine g_getR C kc_0 (rt_0_3 (tB Θ) 0) (by decide) (by decide) (by decide) wm_365 dX9_orders_23 (n := 26) rfl ?_
      refine g_aload_n C 0 dX9_orders_26 rfl rfl (n := 27) rfl ?_
      refine g_getR C kc_0 (rt_0_0 (tB Θ) 0) (by decide) (by decide) (by decide) wm_362 dX9_orders_27 (n := 30) rfl ?_
      refine g_aload_n C 0 dX9_orders_30 rfl rfl (n := 31) rfl ?_
      refine g_getR C kc_0 (rt_0_1 (tB Θ) 0) (by decide) (by decide) (by decide) wm_363 dX9_orders_31 (n := 34) rfl ?_
      refine g_cVV C hk (fun K hk => L_X4_tryAll Θ 0 (by decide) 1 (by decide) h K hk) lk_X9_205 kc_13 (by decide) (by decide) ⟨rfl, rfl⟩ ⟨Nat.le_of_ble_eq_true rfl, Nat.le_of_ble_eq_true rfl⟩ dX9_orders_34 rfl rfl (Nat.le_of_ble_eq_true rfl) (n := 37) rfl (fun h5 hk => ?_)
      refine g_iload_n C 1 dX9_orders_37 rfl rfl (n := 38) rfl ?_
      refine g_if_ne C 49 dX9_orders_38 (by decide) (n := 41) rfl hk (fun hk => ?_) (fun hk => ?_)
      · refine g_aload_n C 0 dX9_orders_49 rfl rfl (n := 50) rfl ?_
        refine g_getR C kc_0 (rt_0_3 (tB Θ) 0) (by decide) (by decide) (by decide) wm_365 dX9_orders_50 (n := 53) rfl ?_
        refine g_getI C kc_13 ft_13_0 (by decide) (by decide) (by decide) wm_243 dX9_orders_53 (n := 56) rfl ?_
        refine g_if_ne C 62 dX9_orders_56 (by decide) (n := 59) rfl hk (fun hk => ?_) (fun hk => ?_)
        · refine g_iload_n C 1 dX9_orders_62 rfl rfl (n := 63) rfl ?_
          refine g_iconst C (1 : Int32) dX9_orders_63 (by decide) (n := 64) rfl ?_
          refine g_ic_ne C 75 dX9_orders_64 (by decide) (n := 67) rfl hk (fun hk => ?_) (fun hk => ?_)
          · refine g_iload_n C 1 dX9_orders_75 rfl rfl (n := 76) rfl ?_
            refine g_bipush C (10 : Int32) dX9_orders_76 (by decide) (n := 78) rfl ?_
            refine g_isub C dX9_orders_78 (n := 79) rfl ?_
            refine g_nm hk (fun x6 hk => ?_)
            refine g_istore_n C [(2, .int x6), (0, .ref (rr Θ 0 0 0)), (1, .int p1)] dX9_orders_79 rfl (by decide) rfl (n := 80) rfl ?_
            refine g_iload_n C 0 dX9_orders_80 rfl rfl (n := 81) rfl ?_
            refine g_aload_n C 1 dX9_orders_81 rfl rfl (n := 82) rfl ?_
            refine g_getR C kc_0 (rt_0_0 (tB Θ) 0) (by decide) (by decide) (by decide) wm_362 dX9_orders_82 (n := 85) rfl ?_
            refine g_getI C kc_1 ft_1_4 (by decide) (by decide) (by decide) wm_174 dX9_orders_85 (n := 88) rfl ?_
            refine g_ic_ge C 103 dX9_orders_88 (by decide) (n := 91) rfl hk (fun hk => ?_) (fun hk => ?_)
            · refine g_bipush C (-4 : Int32) dX9_orders_103 (by decide) (n := 105) rfl ?_
              exact retI hk.out dX9_orders_105
            · refine g_aload_n C 1 dX9_orders_91 rfl rfl (n := 92) rfl ?_
              refine g_getR C kc_0 (rt_0_3 (tB Θ) 0) (by decide) (by decide) (by decide) wm_365 dX9_orders_92 (n := 95) rfl ?_
              refine g_getR C kc_13 (rt_13_2 (tB Θ) 0) (by decide) (by decide) (by decide) wm_247 dX9_orders_95 (n := 98) rfl ?_
              refine g_iload_n C 0 dX9_orders_98 rfl rfl (n := 99) rfl ?_
              refine g_iald C an_14 (by decide) dX9_orders_99 (n := 100) rfl hk (fun _ hk => ?_)
              refine g_goto C 105 dX9_orders_100 (by decide) ?_
              exact retI hk.out dX9_orders_105
          · refine g_aload_n C 0 dX9_orders_67 rfl rfl (n := 68) rfl ?_
            refine g_getR C kc_0 (rt_0_3 (tB Θ) 0) (by decide) (by decide) (by decide) wm_365 dX9_orders_68 (n := 71) rfl ?_
            refine g_getI C kc_13 ft_13_1 (by decide) (by decide) (by decide) wm_245 dX9_orders_71 (n := 74) rfl ?_
            exact retI hk.out dX9_orders_74
        · refine g_bipush C (-4 : Int32) dX9_orders_59 (by decide) (n := 61) rfl ?_
          exact retI hk.out dX9_orders_61
      · refine g_aload_n C 0 dX9_orders_41 rfl rfl (n := 42) rfl ?_
        refine g_getR C kc_0 (rt_0_3 (tB Θ) 0) (by decide) (by decide) (by decide) wm_365 dX9_orders_42 (n := 45) rfl ?_
        refine g_getI C kc_13 ft_13_0 (by decide) (by decide) (by decide) wm_243 dX9_orders_45 (n := 48) rfl ?_
        exact retI hk.out dX9_orders_48
  · refine g_bt C 22 dX9_orders_6 (by decide) (n := 9) rfl hk (fun hk => ?_) (fun hk => ?_)
    · exact hk.out
    · refine g_iload_n C 1 dX9_orders_9 rfl rfl (n := 10) rfl ?_
      refine g_bipush C (10 : Int32) dX9_orders_10 (by decide) (n := 12) rfl ?_
      refine g_bipush C (13 : Int32) dX9_orders_12 (by decide) (n := 14) rfl ?_
      refine g_cSBp C hk (fun K hk => L_X9_within Θ p1 (10 : Int32) (13 : Int32) h K hk) lk_X9_69 ⟨rfl, rfl⟩ ⟨Nat.le_of_ble_eq_true rfl, Nat.le_of_ble_eq_true rfl⟩ dX9_orders_14 rfl rfl (Nat.le_of_ble_eq_true rfl) (n := 17) rfl (fun r3 hk => ?_)
      refine g_bt C 22 dX9_orders_17 (by decide) (n := 20) rfl hk (fun hk => ?_) (fun hk => ?_)
      · exact hk.out
      · refine g_iconst C (-1 : Int32) dX9_orders_20 (by decide) (n := 21) rfl ?_
        exact retI hk.out dX9_orders_21
def f_X5_faultAtPair (o0 : Nat) (p1 : Int32) (p2 : Int32) (h : Mem) : Option (Int32) := obd ((if (h 22 1 o0 0) = (-1 : Int32) then some (.inr ()) else (if (h 22 1 o0 0) = p1 then some (.inr ()) else some (.inl (3 : Int32))))) (Sum.elim (fun r => some r) (fun a1 => obd (f_X5_faultAt o0 p2 h) (fun r2 => (if r2 = 0 then obd (f_X5_faultAt o0 (p2 + (1 : Int32)) h) (fun r3 => some r3) else some r2))))
def rm_X5_faultAtPair : Room := { frames := 2, cells := 0, slots := 0, locals := 43 }
set_option maxHeartbeats 4000000 in
set_option maxRecDepth 100000 in
theorem L_X5_faultAtPair (Θ : Tht) (o0 : Nat) (ho0 : o0 < 4) (p1 : Int32) (p2 : Int32) (h : Mem) (K : Int32 × Mem → Prop) (hk : Ok (f_X5_faultAtPair o0 p1 p2 h) (fun r => K (r, h))) : CI Θ yX5_faultAtPair cX5_faultAtPair 4 (some .int) rm_X5_faultAtPair [.ref (rr Θ 22 o0 0), .int p1, .int p2] h K := by
  refine CI.of K [(0, .ref (rr Θ 22 o0 0)), (1, .int p1), (2, .int p2)] (plainFor_of_name (by decide)) (Nat.le_of_ble_eq_true rfl) rfl (fun Γ C Rt => ?_)
  replace hk := rtIp Rt hk
  unfold f_X5_faultAtPair at hk
  refine g_aload_n C 0 dX5_faultAtPair_0 rfl rfl (n := 1) rfl ?_
  refine g_getI C kc_22 ft_22_1 ho0 (by decide) (by decide) wm_351 dX5_faultAtPair_1 (n := 4) rfl ?_
  refine g_iconst C (-1 : Int32) dX5_faultAtPair_4 (by decide) (n := 5) rfl ?_
  refine Ok.join hk (Sum.elim (fun r => PI Θ Γ cX5_faultAtPair (r, h)) (fun a1 => G Θ Γ 18 [(0, .ref (rr Θ 22 o0 0)), (2, .int p2)] [] h)) (fun e hk => ?_) (fun hk => ?_)
  · rcases e with r | a1
    · exact hk.out
    · replace hk := ok_inr hk
      refine g_aload_n C 0 dX5_faultAtPair_18 rfl rfl (n := 19) rfl ?_
      refine g_iload_n C 1 dX5_faultAtPair_19 rfl rfl (n := 20) rfl ?_
      refine g_cVIp C hk (fun K hk => L_X5_faultAt Θ o0 ho0 p2 h K hk) lk_X5_26 kc_22 ho0 (by decide) ⟨rfl, rfl⟩ ⟨Nat.le_of_ble_eq_true rfl, Nat.le_of_ble_eq_true rfl⟩ dX5_faultAtPair_20 rfl rfl (Nat.le_of_ble_eq_true rfl) (n := 23) rfl (fun r2 hk => ?_)
      refine g_istore_n C [(3, .int r2), (0, .ref (rr Θ 22 o0 0)), (2, .int p2)] dX5_faultAtPair_23 rfl (by decide) rfl (n := 24) rfl ?_
      refine g_iload_n C 0 dX5_faultAtPair_24 rfl rfl (n := 25) rfl ?_
      refine g_if_ne C 38 dX5_faultAtPair_25 (by decide) (n := 28) rfl hk (fun hk => ?_) (fun hk => ?_)
      · refine g_iload_n C 0 dX5_faultAtPair_38 rfl rfl (n := 39) rfl ?_
        exact retI hk.out dX5_faultAtPair_39
      · refine g_aload_n C 1 dX5_faultAtPair_28 rfl rfl (n := 29) rfl ?_
        refine g_iload_n C 2 dX5_faultAtPair_29 rfl rfl (n := 30) rfl ?_
        refine g_iconst C (1 : Int32) dX5_faultAtPair_30 (by decide) (n := 31) rfl ?_
        refine g_iadd C dX5_faultAtPair_31 (n := 32) rfl ?_
        refine g_cVIp C hk (fun K hk => L_X5_faultAt Θ o0 ho0 (p2 + (1 : Int32)) h K hk) lk_X5_26 kc_22 ho0 (by decide) ⟨rfl, rfl⟩ ⟨Nat.le_of_ble_eq_true rfl, Nat.le_of_ble_eq_true rfl⟩ dX5_faultAtPair_32 rfl rfl (Nat.le_of_ble_eq_true rfl) (n := 35) rfl (fun r3 hk => ?_)
        refine g_goto C 39 dX5_faultAtPair_35 (by decide) ?_
        exact retI hk.out dX5_faultAtPair_39
  · refine g_ic_eq C 18 dX5_faultAtPair_5 (by decide) (n := 8) rfl hk (fun hk => ?_) (fun hk => ?_)
    · refine g_lv [0, 2] [(0, .ref (rr Θ 22 o0 0)), (2, .int p2)] rfl ?_
      exact hk.out
    · refine g_aload_n C 0 dX5_faultAtPair_8 rfl rfl (n := 9) rfl ?_
      refine g_getI C kc_22 ft_22_1 ho0 (by decide) (by decide) wm_351 dX5_faultAtPair_9 (n := 12) rfl ?_
      refine g_iload_n C 1 dX5_faultAtPair_12 rfl rfl (n := 13) rfl ?_
      refine g_ic_eq C 18 dX5_faultAtPair_13 (by decide) (n := 16) rfl hk (fun hk => ?_) (fun hk => ?_)
      · refine g_lv [0, 2] [(0, .ref (rr Θ 22 o0 0)), (2, .int p2)] rfl ?_
        exact hk.out
      · refine g_iconst C (3 : Int32) dX5_faultAtPair_16 (by decide) (n := 17) rfl ?_
        exact retI hk.out dX5_faultAtPair_17
def f_X9_read (p1 : Int32) (p2 : Int32) (p3 : Int32) (p4 : Int32) (h : Mem) : Option (Int32 × Mem) := obd (f_X9_isSheet p1 h) (fun r1 => (if r1 = true then obd (f_X9_isLane p2 h) (fun r2 => (if r2 = true then obd (f_X9_within p4 (0 : Int32) (13 : Int32) h) (fun r3 => (if r3 = true then gd (inb p1 4) (bnd (h 1 2 0 0) (fun x5 => obd (lp fu (fun a20 => (if a20.1 = 0 then (if p4 ≤ a20.2.1 then some (.inr (.inr (a20.1, a20.2.1, a20.2.2))) else bnd (p3 + ((2 : Int32) * a20.2.1)) (fun x21 => obd (f_X5_faultAtPair p1.toNatClampNeg p2 x21 a20.2.2) (fun r22 => (if r22 = 0 then gd (inb x21 40) (gd (inb (x21 + (1 : Int32)) 40) (ob2 (f_X9_mint (a20.2.2 23 0 p1.toNatClampNeg x21.toNatClampNeg) (a20.2.2 23 0 p1.toNatClampNeg (x21 + (1 : Int32)).toNatClampNeg) a20.2.2) (fun r23 h24 => (if 0 ≤ r23 then bnd (a20.2.1 + (1 : Int32)) (fun x25 => some (.inl (r22, x25, h24))) else bnd (up h24 1 2 0 0 x5) (fun h26 => some (.inr (.inl (((-20 : Int32) - a20.2.1), h26)))))))) else some (.inl (r22, a20.2.1, a20.2.2)))))) else some (.inr (.inr (a20.1, a20.2.1, a20.2.2))))) ((0 : Int32), (0 : Int32), h)) (Sum.elim (fun r => some r) (fun e27 => bnd (up e27.2.2 0 8 0 0 e27.1) (fun h28 => some (e27.2.1, h28)))))) else some ((-1 : Int32), h))) else some ((-1 : Int32), h))) else some ((-1 : Int32), h)))
def rm_X9_read : Room := { frames := 3, cells := 0, slots := 0, locals := 66 }
set_option maxHeartbeats 4000000 in
set_option maxRecDepth 100000 in
theorem L_X9_read (Θ : Tht) (p1 : Int32) (p2 : Int32) (p3 : Int32) (p4 : Int32) (h : Mem) (K : Int32 × Mem → Prop) (hk : Ok (f_X9_read p1 p2 p3 p4 h) K) : CI Θ yX9_read cX9_read 10 (some .int) rm_X9_read [.ref (rr Θ 0 0 0), .int p1, .int p2, .int p3, .int p4] h K := by
  refine CI.of K [(0, .ref (rr Θ 0 0 0)), (1, .int p1), (2, .int p2), (3, .int p3), (4, .int p4)] (plainFor_of_name (by decide)) (Nat.le_of_ble_eq_true rfl) rfl (fun Γ C Rt => ?_)
  replace hk := rtI Rt hk
  unfold f_X9_read at hk
  refine g_iload_n C 1 dX9_read_0 rfl rfl (n := 1) rfl ?_
  refine g_cSBp C hk (fun K hk => L_X9_isSheet Θ p1 h K hk) lk_X9_263 ⟨rfl, rfl⟩ ⟨Nat.le_of_ble_eq_true rfl, Nat.le_of_ble_eq_true rfl⟩ dX9_read_1 rfl rfl (Nat.le_of_ble_eq_true rfl) (n := 4) rfl (fun r1 hk => ?_)
  refine g_bf C 25 dX9_read_4 (by decide) (n := 7) rfl hk (fun hk => ?_) (fun hk => ?_)
  · refine g_iconst C (-1 : Int32) dX9_read_25 (by decide) (n := 26) rfl ?_
    exact retI hk.out dX9_read_26
  · refine g_iload_n C 2 dX9_read_7 rfl rfl (n := 8) rfl ?_
    refine g_cSBp C hk (fun K hk => L_X9_isLane Θ p2 h K hk) lk_X9_266 ⟨rfl, rfl⟩ ⟨Nat.le_of_ble_eq_true rfl, Nat.le_of_ble_eq_true rfl⟩ dX9_read_8 rfl rfl (Nat.le_of_ble_eq_true rfl) (n := 11) rfl (fun r2 hk => ?_)
    refine g_bf C 25 dX9_read_11 (by decide) (n := 14) rfl hk (fun hk => ?_) (fun hk => ?_)
    · refine g_iconst C (-1 : Int32) dX9_read_25 (by decide) (n := 26) rfl ?_
      exact retI hk.out dX9_read_26
    · refine g_iload C 4 dX9_read_14 rfl (n := 16) rfl ?_
      refine g_iconst C (0 : Int32) dX9_read_16 (by decide) (n := 17) rfl ?_
      refine g_bipush C (13 : Int32) dX9_read_17 (by decide) (n := 19) rfl ?_
      refine g_cSBp C hk (fun K hk => L_X9_within Θ p4 (0 : Int32) (13 : Int32) h K hk) lk_X9_69 ⟨rfl, rfl⟩ ⟨Nat.le_of_ble_eq_true rfl, Nat.le_of_ble_eq_true rfl⟩ dX9_read_19 rfl rfl (Nat.le_of_ble_eq_true rfl) (n := 22) rfl (fun r3 hk => ?_)
      refine g_bt C 27 dX9_read_22 (by decide) (n := 25) rfl hk (fun hk => ?_) (fun hk => ?_)
      · refine g_aload_n C 0 dX9_read_27 rfl rfl (n := 28) rfl ?_
        refine g_getR C kc_0 (rt_0_7 (tB Θ) 0) (by decide) (by decide) (by decide) wm_369 dX9_read_28 (n := 31) rfl ?_
        refine g_iload_n C 1 dX9_read_31 rfl rfl (n := 32) rfl ?_
        refine g_aald C ar_21 (by decide) dX9_read_32 (n := 33) rfl hk (fun hg4 hk => ?_)
        refine g_astore C [(5, .ref (rr Θ 22 p1.toNatClampNeg 0)), (0, .ref (rr Θ 0 0 0)), (1, .int p1), (2, .int p2), (3, .int p3), (4, .int p4)] dX9_read_33 (by decide) rfl (n := 35) rfl ?_
        refine g_aload_n C 1 dX9_read_35 rfl rfl (n := 36) rfl ?_
        refine g_getR C kc_0 (rt_0_0 (tB Θ) 0) (by decide) (by decide) (by decide) wm_362 dX9_read_36 (n := 39) rfl ?_
        refine g_getI C kc_1 ft_1_2 (by decide) (by decide) (by decide) wm_166 dX9_read_39 (n := 42) rfl ?_
        refine g_nm hk (fun x5 hk => ?_)
        refine g_istore C [(6, .int x5), (5, .ref (rr Θ 22 p1.toNatClampNeg 0)), (0, .ref (rr Θ 0 0 0)), (1, .int p1), (2, .int p2), (3, .int p3), (4, .int p4)] dX9_read_42 (by decide) rfl (n := 44) rfl ?_
        refine g_iconst C (0 : Int32) dX9_read_44 (by decide) (n := 45) rfl ?_
        refine g_istore C [(7, .int (0 : Int32)), (6, .int x5), (5, .ref (rr Θ 22 p1.toNatClampNeg 0)), (0, .ref (rr Θ 0 0 0)), (1, .int p1), (2, .int p2), (3, .int p3), (4, .int p4)] dX9_read_45 (by decide) rfl (n := 47) rfl ?_
        refine g_iconst C (0 : Int32) dX9_read_47 (by decide) (n := 48) rfl ?_
        refine g_istore C [(8, .int (0 : Int32)), (7, .int (0 : Int32)), (6, .int x5), (5, .ref (rr Θ 22 p1.toNatClampNeg 0)), (0, .ref (rr Θ 0 0 0)), (1, .int p1), (2, .int p2), (3, .int p3), (4, .int p4)] dX9_read_48 (by decide) rfl (n := 50) rfl ?_
        refine g_lv [4, 6, 7, 8, 3, 2, 1, 0] [(0, .ref (rr Θ 0 0 0)), (2, .int p2), (3, .int p3), (4, .int p4), (5, .ref (rr Θ 22 p1.toNatClampNeg 0)), (6, .int x5), (7, .int (0 : Int32)), (8, .int (0 : Int32))] rfl ?_
        refine Ok.join hk (Sum.elim (PI Θ Γ cX9_read) (fun e27 => G Θ Γ 131 [(0, .ref (rr Θ 0 0 0)), (7, .int e27.1), (8, .int e27.2.1)] [] e27.2.2)) (fun e hk => ?_) (fun hk => ?_)
        · rcases e with r | e27
          · exact hk.out
          · replace hk := ok_inr hk
            refine g_aload_n C 0 dX9_read_131 rfl rfl (n := 132) rfl ?_
            refine g_iload C 1 dX9_read_132 rfl (n := 134) rfl ?_
            refine g_putI C kc_0 ft_0_8 (by decide) (by decide) (by decide) rfl (fitI _) wm_370 dX9_read_134 (n := 137) rfl hk (fun h28 hk => ?_)
            refine g_iload C 2 dX9_read_137 rfl (n := 139) rfl ?_
            exact retI hk.out dX9_read_139
        · refine Ok.loop (fun a20 => G Θ Γ 50 [(0, .ref (rr Θ 0 0 0)), (2, .int p2), (3, .int p3), (4, .int p4), (5, .ref (rr Θ 22 p1.toNatClampNeg 0)), (6, .int x5), (7, .int a20.1), (8, .int a20.2.1)] [] a20.2.2) (fun a20 hk => ?_) _ _ hk
          refine g_iload C 6 dX9_read_50 rfl (n := 52) rfl ?_
          refine g_if_ne C 131 dX9_read_52 (by decide) (n := 55) rfl hk (fun hk => ?_) (fun hk => ?_)
          · refine g_lv [0, 6, 7] [(0, .ref (rr Θ 0 0 0)), (7, .int a20.1), (8, .int a20.2.1)] rfl ?_
            exact hk.out
          · refine g_iload C 7 dX9_read_55 rfl (n := 57) rfl ?_
            refine g_iload C 3 dX9_read_57 rfl (n := 59) rfl ?_
            refine g_ic_ge C 131 dX9_read_59 (by decide) (n := 62) rfl hk (fun hk => ?_) (fun hk => ?_)
            · refine g_lv [0, 6, 7] [(0, .ref (rr Θ 0 0 0)), (7, .int a20.1), (8, .int a20.2.1)] rfl ?_
              exact hk.out
            · refine g_iload_n C 2 dX9_read_62 rfl rfl (n := 63) rfl ?_
              refine g_iconst C (2 : Int32) dX9_read_63 (by decide) (n := 64) rfl ?_
              refine g_iload C 7 dX9_read_64 rfl (n := 66) rfl ?_
              refine g_imul C dX9_read_66 (n := 67) rfl ?_
              refine g_iadd C dX9_read_67 (n := 68) rfl ?_
              refine g_nm hk (fun x21 hk => ?_)
              refine g_istore C [(9, .int x21), (0, .ref (rr Θ 0 0 0)), (2, .int p2), (3, .int p3), (4, .int p4), (5, .ref (rr Θ 22 p1.toNatClampNeg 0)), (6, .int x5), (7, .int a20.1), (8, .int a20.2.1)] dX9_read_68 (by decide) rfl (n := 70) rfl ?_
              refine g_aload C 5 dX9_read_70 rfl (n := 72) rfl ?_
              refine g_iload_n C 2 dX9_read_72 rfl rfl (n := 73) rfl ?_
              refine g_iload C 0 dX9_read_73 rfl (n := 75) rfl ?_
              refine g_cVIp C hk (fun K hk => L_X5_faultAtPair Θ p1.toNatClampNeg (inb_lt hg4) p2 x21 a20.2.2 K hk) lk_X9_278 kc_22 (inb_lt hg4) (by decide) ⟨rfl, rfl⟩ ⟨Nat.le_of_ble_eq_true rfl, Nat.le_of_ble_eq_true rfl⟩ dX9_read_75 rfl rfl (Nat.le_of_ble_eq_true rfl) (n := 78) rfl (fun r22 hk => ?_)
              refine g_istore C [(7, .int r22), (9, .int x21), (0, .ref (rr Θ 0 0 0)), (2, .int p2), (3, .int p3), (4, .int p4), (5, .ref (rr Θ 22 p1.toNatClampNeg 0)), (6, .int x5), (8, .int a20.2.1)] dX9_read_78 (by decide) rfl (n := 80) rfl ?_
              refine g_iload C 0 dX9_read_80 rfl (n := 82) rfl ?_
              refine g_if_ne C 128 dX9_read_82 (by decide) (n := 85) rfl hk (fun hk => ?_) (fun hk => ?_)
              · refine g_goto C 50 dX9_read_128 (by decide) ?_
                refine g_lv [2, 3, 4, 5, 6, 7, 0, 8] [(0, .ref (rr Θ 0 0 0)), (2, .int p2), (3, .int p3), (4, .int p4), (5, .ref (rr Θ 22 p1.toNatClampNeg 0)), (6, .int x5), (7, .int r22), (8, .int a20.2.1)] rfl ?_
                exact hk.out
              · refine g_aload_n C 2 dX9_read_85 rfl rfl (n := 86) rfl ?_
                refine g_aload C 6 dX9_read_86 rfl (n := 88) rfl ?_
                refine g_getR C kc_22 (rt_22_0 (tB Θ) p1.toNatClampNeg) (inb_lt hg4) (by decide) (by decide) wm_350 dX9_read_88 (n := 91) rfl ?_
                refine g_iload C 1 dX9_read_91 rfl (n := 93) rfl ?_
                refine g_iald C an_23 (inb_lt hg4) dX9_read_93 (n := 94) rfl hk (fun _ hk => ?_)
                refine g_aload C 6 dX9_read_94 rfl (n := 96) rfl ?_
                refine g_getR C kc_22 (rt_22_0 (tB Θ) p1.toNatClampNeg) (inb_lt hg4) (by decide) (by decide) wm_350 dX9_read_96 (n := 99) rfl ?_
                refine g_iload C 1 dX9_read_99 rfl (n := 101) rfl ?_
                refine g_iconst C (1 : Int32) dX9_read_101 (by decide) (n := 102) rfl ?_
                refine g_iadd C dX9_read_102 (n := 103) rfl ?_
                refine g_iald C an_23 (inb_lt hg4) dX9_read_103 (n := 104) rfl hk (fun _ hk => ?_)
                refine g_cVI C hk (fun K hk => L_X9_mint Θ (a20.2.2 23 0 p1.toNatClampNeg x21.toNatClampNeg) (a20.2.2 23 0 p1.toNatClampNeg (x21 + (1 : Int32)).toNatClampNeg) a20.2.2 K hk) lk_X9_284 kc_0 (by decide) (by decide) ⟨rfl, rfl⟩ ⟨Nat.le_of_ble_eq_true rfl, Nat.le_of_ble_eq_true rfl⟩ dX9_read_104 rfl rfl (Nat.le_of_ble_eq_true rfl) (n := 107) rfl (fun r23 h24 hk => ?_)
                refine g_if_ge C 125 dX9_read_107 (by decide) (n := 110) rfl hk (fun hk => ?_) (fun hk => ?_)
                · refine g_iinc C 8 (fun x25 => [(8, .int x25), (7, .int r22), (9, .int x21), (0, .ref (rr Θ 0 0 0)), (2, .int p2), (3, .int p3), (4, .int p4), (5, .ref (rr Θ 22 p1.toNatClampNeg 0)), (6, .int x5)]) dX9_read_125 rfl (v := (a20.2.1 + (1 : Int32))) rfl (by decide) (fun _ => rfl) (n := 128) rfl hk (fun x25 hk => ?_)
                  refine g_goto C 50 dX9_read_128 (by decide) ?_
                  refine g_lv [3, 4, 5, 6, 7, 8, 1, 0] [(0, .ref (rr Θ 0 0 0)), (2, .int p2), (3, .int p3), (4, .int p4), (5, .ref (rr Θ 22 p1.toNatClampNeg 0)), (6, .int x5), (7, .int r22), (8, .int x25)] rfl ?_
                  exact hk.out
                · refine g_aload_n C 2 dX9_read_110 rfl rfl (n := 111) rfl ?_
                  refine g_getR C kc_0 (rt_0_0 (tB Θ) 0) (by decide) (by decide) (by decide) wm_362 dX9_read_111 (n := 114) rfl ?_
                  refine g_iload C 7 dX9_read_114 rfl (n := 116) rfl ?_
                  refine g_putI C kc_1 ft_1_2 (by decide) (by decide) (by decide) rfl (fitI _) wm_166 dX9_read_116 (n := 119) rfl hk (fun h26 hk => ?_)
                  refine g_bipush C (-20 : Int32) dX9_read_119 (by decide) (n := 121) rfl ?_
                  refine g_iload C 8 dX9_read_121 rfl (n := 123) rfl ?_
                  refine g_isub C dX9_read_123 (n := 124) rfl ?_
                  exact retI hk.out dX9_read_124
      · refine g_iconst C (-1 : Int32) dX9_read_25 (by decide) (n := 26) rfl ?_
        exact retI hk.out dX9_read_26
def f_X9_rule (p1 : Int32) (h : Mem) : Option (Int32) := (if p1 = (0 : Int32) then some (h 1 0 0 0) else if p1 = (1 : Int32) then some (h 1 2 0 0) else if p1 = (2 : Int32) then some (h 1 4 0 0) else if p1 = (3 : Int32) then some (h 1 6 0 0) else if p1 = (4 : Int32) then some (h 1 7 0 0) else if p1 = (5 : Int32) then some (h 1 8 0 0) else some (-1 : Int32))
def rm_X9_rule : Room := { frames := 0, cells := 0, slots := 0, locals := 0 }
set_option maxHeartbeats 4000000 in
set_option maxRecDepth 100000 in
theorem L_X9_rule (Θ : Tht) (p1 : Int32) (h : Mem) (K : Int32 × Mem → Prop) (hk : Ok (f_X9_rule p1 h) (fun r => K (r, h))) : CI Θ yX9_rule cX9_rule 2 (some .int) rm_X9_rule [.ref (rr Θ 0 0 0), .int p1] h K := by
  refine CI.of K [(0, .ref (rr Θ 0 0 0)), (1, .int p1)] (plainFor_of_name (by decide)) (Nat.le_of_ble_eq_true rfl) rfl (fun Γ C Rt => ?_)
  replace hk := rtIp Rt hk
  unfold f_X9_rule at hk
  refine g_iload_n C 1 dX9_rule_0 rfl rfl (n := 1) rfl ?_
  refine g_sw C (0 : Int32) 40 dX9_rule_1 (by decide) (by decide) rfl (by decide) hk (fun hk => ?_) (fun hc1 hk => ?_)
  · refine g_aload_n C 0 dX9_rule_40 rfl rfl (n := 41) rfl ?_
    refine g_getR C kc_0 (rt_0_0 (tB Θ) 0) (by decide) (by decide) (by decide) wm_362 dX9_rule_41 (n := 44) rfl ?_
    refine g_getI C kc_1 ft_1_0 (by decide) (by decide) (by decide) wm_161 dX9_rule_44 (n := 47) rfl ?_
    exact retI hk.out dX9_rule_47
  refine g_sw C (1 : Int32) 48 dX9_rule_1 (by decide) (by decide) rfl (by decide) hk (fun hk => ?_) (fun hc2 hk => ?_)
  · refine g_aload_n C 0 dX9_rule_48 rfl rfl (n := 49) rfl ?_
    refine g_getR C kc_0 (rt_0_0 (tB Θ) 0) (by decide) (by decide) (by decide) wm_362 dX9_rule_49 (n := 52) rfl ?_
    refine g_getI C kc_1 ft_1_2 (by decide) (by decide) (by decide) wm_166 dX9_rule_52 (n := 55) rfl ?_
    exact retI hk.out dX9_rule_55
  refine g_sw C (2 : Int32) 56 dX9_rule_1 (by decide) (by decide) rfl (by decide) hk (fun hk => ?_) (fun hc3 hk => ?_)
  · refine g_aload_n C 0 dX9_rule_56 rfl rfl (n := 57) rfl ?_
    refine g_getR C kc_0 (rt_0_0 (tB Θ) 0) (by decide) (by decide) (by decide) wm_362 dX9_rule_57 (n := 60) rfl ?_
    refine g_getI C kc_1 ft_1_4 (by decide) (by decide) (by decide) wm_174 dX9_rule_60 (n := 63) rfl ?_
    exact retI hk.out dX9_rule_63
  refine g_sw C (3 : Int32) 64 dX9_rule_1 (by decide) (by decide) rfl (by decide) hk (fun hk => ?_) (fun hc4 hk => ?_)
  · refine g_aload_n C 0 dX9_rule_64 rfl rfl (n := 65) rfl ?_
    refine g_getR C kc_0 (rt_0_0 (tB Θ) 0) (by decide) (by decide) (by decide) wm_362 dX9_rule_65 (n := 68) rfl ?_
    refine g_getI C kc_1 ft_1_6 (by decide) (by decide) (by decide) wm_179 dX9_rule_68 (n := 71) rfl ?_
    exact retI hk.out dX9_rule_71
  refine g_sw C (4 : Int32) 72 dX9_rule_1 (by decide) (by decide) rfl (by decide) hk (fun hk => ?_) (fun hc5 hk => ?_)
  · refine g_aload_n C 0 dX9_rule_72 rfl rfl (n := 73) rfl ?_
    refine g_getR C kc_0 (rt_0_0 (tB Θ) 0) (by decide) (by decide) (by decide) wm_362 dX9_rule_73 (n := 76) rfl ?_
    refine g_getI C kc_1 ft_1_7 (by decide) (by decide) (by decide) wm_182 dX9_rule_76 (n := 79) rfl ?_
    exact retI hk.out dX9_rule_79
  refine g_sw C (5 : Int32) 80 dX9_rule_1 (by decide) (by decide) rfl (by decide) hk (fun hk => ?_) (fun hc6 hk => ?_)
  · refine g_aload_n C 0 dX9_rule_80 rfl rfl (n := 81) rfl ?_
    refine g_getR C kc_0 (rt_0_0 (tB Θ) 0) (by decide) (by decide) (by decide) wm_362 dX9_rule_81 (n := 84) rfl ?_
    refine g_getI C kc_1 ft_1_8 (by decide) (by decide) (by decide) wm_185 dX9_rule_84 (n := 87) rfl ?_
    exact retI hk.out dX9_rule_87
  refine g_swd C 6 88 dX9_rule_1 (by decide) (by decide) (sw_s (sw_s (sw_s (sw_s (sw_s (sw_0 hc1) hc2) hc3) hc4) hc5) hc6) (by decide) ?_
  refine g_iconst C (-1 : Int32) dX9_rule_88 (by decide) (n := 89) rfl ?_
  exact retI hk.out dX9_rule_89
def f_X6_add (o0 : Nat) (p1 : Int32) (p2 : Int32) (p3 : Int32) (p4 : Bool) (h : Mem) : Option (Mem) := (if (8 : Int32) ≤ (h 8 0 o0 0) then some h else gd (inb (h 8 0 o0 0) 8) (bnd (up h 9 0 o0 (h 8 0 o0 0).toNatClampNeg p1) (fun h1 => gd (inb (h1 8 0 o0 0) 8) (bnd (up h1 10 0 o0 (h1 8 0 o0 0).toNatClampNeg p2) (fun h2 => gd (inb (h2 8 0 o0 0) 8) (bnd (up h2 11 0 o0 (h2 8 0 o0 0).toNatClampNeg p3) (fun h3 => gd (inb (h3 8 0 o0 0) 8) (bnd (up h3 12 0 o0 (h3 8 0 o0 0).toNatClampNeg (vp_nar .boolean (b2i p4))) (fun h4 => bnd (up h4 8 0 o0 0 ((h4 8 0 o0 0) + (1 : Int32))) (fun h5 => some h5))))))))))
def rm_X6_add : Room := { frames := 0, cells := 0, slots := 0, locals := 0 }
set_option maxHeartbeats 4000000 in
set_option maxRecDepth 100000 in
theorem L_X6_add (Θ : Tht) (o0 : Nat) (ho0 : o0 < 3) (p1 : Int32) (p2 : Int32) (p3 : Int32) (p4 : Bool) (h : Mem) (K : Mem → Prop) (hk : Ok (f_X6_add o0 p1 p2 p3 p4 h) K) : CV Θ yX6_add cX6_add 5 none rm_X6_add [.ref (rr Θ 8 o0 0), .int p1, .int p2, .int p3, .int (b2i p4)] h K := by
  refine CV.of K [(0, .ref (rr Θ 8 o0 0)), (1, .int p1), (2, .int p2), (3, .int p3), (4, .int (b2i p4))] (plainFor_of_name (by decide)) (Nat.le_of_ble_eq_true rfl) rfl (fun Γ C Rt => ?_)
  replace hk := rtV Rt hk
  unfold f_X6_add at hk
  refine g_aload_n C 0 dX6_add_0 rfl rfl (n := 1) rfl ?_
  refine g_getI C kc_8 ft_8_0 ho0 (by decide) (by decide) wm_218 dX6_add_1 (n := 4) rfl ?_
  refine g_bipush C (8 : Int32) dX6_add_4 (by decide) (n := 6) rfl ?_
  refine g_ic_ge C 60 dX6_add_6 (by decide) (n := 9) rfl hk (fun hk => ?_) (fun hk => ?_)
  · exact retV hk.out dX6_add_60
  · refine g_aload_n C 0 dX6_add_9 rfl rfl (n := 10) rfl ?_
    refine g_getR C kc_8 (rt_8_1 (tB Θ) o0) ho0 (by decide) (by decide) wm_220 dX6_add_10 (n := 13) rfl ?_
    refine g_aload_n C 0 dX6_add_13 rfl rfl (n := 14) rfl ?_
    refine g_getI C kc_8 ft_8_0 ho0 (by decide) (by decide) wm_218 dX6_add_14 (n := 17) rfl ?_
    refine g_iload_n C 1 dX6_add_17 rfl rfl (n := 18) rfl ?_
    refine g_iast C an_9 ho0 dX6_add_18 (n := 19) rfl hk (fun _ h1 hk => ?_)
    refine g_aload_n C 0 dX6_add_19 rfl rfl (n := 20) rfl ?_
    refine g_getR C kc_8 (rt_8_2 (tB Θ) o0) ho0 (by decide) (by decide) wm_221 dX6_add_20 (n := 23) rfl ?_
    refine g_aload_n C 0 dX6_add_23 rfl rfl (n := 24) rfl ?_
    refine g_getI C kc_8 ft_8_0 ho0 (by decide) (by decide) wm_218 dX6_add_24 (n := 27) rfl ?_
    refine g_iload_n C 2 dX6_add_27 rfl rfl (n := 28) rfl ?_
    refine g_iast C an_10 ho0 dX6_add_28 (n := 29) rfl hk (fun _ h2 hk => ?_)
    refine g_aload_n C 0 dX6_add_29 rfl rfl (n := 30) rfl ?_
    refine g_getR C kc_8 (rt_8_3 (tB Θ) o0) ho0 (by decide) (by decide) wm_222 dX6_add_30 (n := 33) rfl ?_
    refine g_aload_n C 0 dX6_add_33 rfl rfl (n := 34) rfl ?_
    refine g_getI C kc_8 ft_8_0 ho0 (by decide) (by decide) wm_218 dX6_add_34 (n := 37) rfl ?_
    refine g_iload_n C 3 dX6_add_37 rfl rfl (n := 38) rfl ?_
    refine g_iast C an_11 ho0 dX6_add_38 (n := 39) rfl hk (fun _ h3 hk => ?_)
    refine g_aload_n C 0 dX6_add_39 rfl rfl (n := 40) rfl ?_
    refine g_getR C kc_8 (rt_8_4 (tB Θ) o0) ho0 (by decide) (by decide) wm_223 dX6_add_40 (n := 43) rfl ?_
    refine g_aload_n C 0 dX6_add_43 rfl rfl (n := 44) rfl ?_
    refine g_getI C kc_8 ft_8_0 ho0 (by decide) (by decide) wm_218 dX6_add_44 (n := 47) rfl ?_
    refine g_iload C 4 dX6_add_47 rfl (n := 49) rfl ?_
    refine g_zast C an_12 ho0 dX6_add_49 (n := 50) rfl hk (fun _ h4 hk => ?_)
    refine g_aload_n C 0 dX6_add_50 rfl rfl (n := 51) rfl ?_
    refine g_dup C dX6_add_51 rfl (n := 52) rfl ?_
    refine g_getI C kc_8 ft_8_0 ho0 (by decide) (by decide) wm_218 dX6_add_52 (n := 55) rfl ?_
    refine g_iconst C (1 : Int32) dX6_add_55 (by decide) (n := 56) rfl ?_
    refine g_iadd C dX6_add_56 (n := 57) rfl ?_
    refine g_putI C kc_8 ft_8_0 ho0 (by decide) (by decide) rfl (fitI _) wm_218 dX6_add_57 (n := 60) rfl hk (fun h5 hk => ?_)
    exact retV hk.out dX6_add_60
def f_X9_see (p1 : Int32) (p2 : Int32) (p3 : Int32) (p4 : Bool) (h : Mem) : Option (Int32 × Mem) := obd (f_X9_within p1 (0 : Int32) (20 : Int32) h) (fun r1 => (if r1 = true then obd (f_X9_isCoin p2 h) (fun r2 => (if r2 = true then obd (f_X9_isWhere p3 h) (fun r3 => (if r3 = true then (if (h 8 0 0 0) < (8 : Int32) then obd (f_X6_add 0 p1 p2 p3 p4 h) (fun h4 => some ((h4 8 0 0 0), h4)) else some ((-3 : Int32), h)) else some ((-1 : Int32), h))) else some ((-1 : Int32), h))) else some ((-1 : Int32), h)))
def rm_X9_see : Room := { frames := 2, cells := 0, slots := 0, locals := 43 }
set_option maxHeartbeats 4000000 in
set_option maxRecDepth 100000 in
theorem L_X9_see (Θ : Tht) (p1 : Int32) (p2 : Int32) (p3 : Int32) (p4 : Bool) (h : Mem) (K : Int32 × Mem → Prop) (hk : Ok (f_X9_see p1 p2 p3 p4 h) K) : CI Θ yX9_see cX9_see 5 (some .int) rm_X9_see [.ref (rr Θ 0 0 0), .int p1, .int p2, .int p3, .int (b2i p4)] h K := by
  refine CI.of K [(0, .ref (rr Θ 0 0 0)), (1, .int p1), (2, .int p2), (3, .int p3), (4, .int (b2i p4))] (plainFor_of_name (by decide)) (Nat.le_of_ble_eq_true rfl) rfl (fun Γ C Rt => ?_)
  replace hk := rtI Rt hk
  unfold f_X9_see at hk
  refine g_iload_n C 1 dX9_see_0 rfl rfl (n := 1) rfl ?_
  refine g_iconst C (0 : Int32) dX9_see_1 (by decide) (n := 2) rfl ?_
  refine g_bipush C (20 : Int32) dX9_see_2 (by decide) (n := 4) rfl ?_
  refine g_cSBp C hk (fun K hk => L_X9_within Θ p1 (0 : Int32) (20 : Int32) h K hk) lk_X9_69 ⟨rfl, rfl⟩ ⟨Nat.le_of_ble_eq_true rfl, Nat.le_of_ble_eq_true rfl⟩ dX9_see_4 rfl rfl (Nat.le_of_ble_eq_true rfl) (n := 7) rfl (fun r1 hk => ?_)
  refine g_bf C 25 dX9_see_7 (by decide) (n := 10) rfl hk (fun hk => ?_) (fun hk => ?_)
  · refine g_iconst C (-1 : Int32) dX9_see_25 (by decide) (n := 26) rfl ?_
    exact retI hk.out dX9_see_26
  · refine g_aload_n C 0 dX9_see_10 rfl rfl (n := 11) rfl ?_
    refine g_iload_n C 2 dX9_see_11 rfl rfl (n := 12) rfl ?_
    refine g_cVBp C hk (fun K hk => L_X9_isCoin Θ p2 h K hk) lk_X9_123 kc_0 (by decide) (by decide) ⟨rfl, rfl⟩ ⟨Nat.le_of_ble_eq_true rfl, Nat.le_of_ble_eq_true rfl⟩ dX9_see_12 rfl rfl (Nat.le_of_ble_eq_true rfl) (n := 15) rfl (fun r2 hk => ?_)
    refine g_bf C 25 dX9_see_15 (by decide) (n := 18) rfl hk (fun hk => ?_) (fun hk => ?_)
    · refine g_iconst C (-1 : Int32) dX9_see_25 (by decide) (n := 26) rfl ?_
      exact retI hk.out dX9_see_26
    · refine g_iload_n C 3 dX9_see_18 rfl rfl (n := 19) rfl ?_
      refine g_cSBp C hk (fun K hk => L_X9_isWhere Θ p3 h K hk) lk_X9_228 ⟨rfl, rfl⟩ ⟨Nat.le_of_ble_eq_true rfl, Nat.le_of_ble_eq_true rfl⟩ dX9_see_19 rfl rfl (Nat.le_of_ble_eq_true rfl) (n := 22) rfl (fun r3 hk => ?_)
      refine g_bt C 27 dX9_see_22 (by decide) (n := 25) rfl hk (fun hk => ?_) (fun hk => ?_)
      · refine g_aload_n C 0 dX9_see_27 rfl rfl (n := 28) rfl ?_
        refine g_getR C kc_0 (rt_0_2 (tB Θ) 0) (by decide) (by decide) (by decide) wm_364 dX9_see_28 (n := 31) rfl ?_
        refine g_getI C kc_8 ft_8_0 (by decide) (by decide) (by decide) wm_219 dX9_see_31 (n := 34) rfl ?_
        refine g_bipush C (8 : Int32) dX9_see_34 (by decide) (n := 36) rfl ?_
        refine g_ic_lt C 42 dX9_see_36 (by decide) (n := 39) rfl hk (fun hk => ?_) (fun hk => ?_)
        · refine g_aload_n C 0 dX9_see_42 rfl rfl (n := 43) rfl ?_
          refine g_getR C kc_0 (rt_0_2 (tB Θ) 0) (by decide) (by decide) (by decide) wm_364 dX9_see_43 (n := 46) rfl ?_
          refine g_iload_n C 1 dX9_see_46 rfl rfl (n := 47) rfl ?_
          refine g_iload_n C 2 dX9_see_47 rfl rfl (n := 48) rfl ?_
          refine g_iload_n C 3 dX9_see_48 rfl rfl (n := 49) rfl ?_
          refine g_iload C 4 dX9_see_49 rfl (n := 51) rfl ?_
          refine g_cVV C hk (fun K hk => L_X6_add Θ 0 (by decide) p1 p2 p3 p4 h K hk) lk_X9_231 kc_8 (by decide) (by decide) ⟨rfl, rfl⟩ ⟨Nat.le_of_ble_eq_true rfl, Nat.le_of_ble_eq_true rfl⟩ dX9_see_51 rfl rfl (Nat.le_of_ble_eq_true rfl) (n := 54) rfl (fun h4 hk => ?_)
          refine g_aload_n C 0 dX9_see_54 rfl rfl (n := 55) rfl ?_
          refine g_getR C kc_0 (rt_0_2 (tB Θ) 0) (by decide) (by decide) (by decide) wm_364 dX9_see_55 (n := 58) rfl ?_
          refine g_getI C kc_8 ft_8_0 (by decide) (by decide) (by decide) wm_219 dX9_see_58 (n := 61) rfl ?_
          exact retI hk.out dX9_see_61
        · refine g_bipush C (-3 : Int32) dX9_see_39 (by decide) (n := 41) rfl ?_
          exact retI hk.out dX9_see_41
      · refine g_iconst C (-1 : Int32) dX9_see_25 (by decide) (n := 26) rfl ?_
        exact retI hk.out dX9_see_26
def f_X9_set (p1 : Int32) (p2 : Int32) (h : Mem) : Option (Int32 × Mem) := obd (f_X9_isCrab p1 h) (fun r1 => (if r1 = true then obd (f_X9_isPlace p2 h) (fun r2 => (if r2 = true then gd (inb p1 4) (bnd (h 7 3 0 p1.toNatClampNeg) (fun x4 => gd (inb p1 4) (bnd (up h 7 3 0 p1.toNatClampNeg p2) (fun h6 => some (x4, h6))))) else some ((-1 : Int32), h))) else some ((-1 : Int32), h)))
def rm_X9_set : Room := { frames := 2, cells := 0, slots := 0, locals := 43 }
set_option maxHeartbeats 4000000 in
set_option maxRecDepth 100000 in
theorem L_X9_set (Θ : Tht) (p1 : Int32) (p2 : Int32) (h : Mem) (K : Int32 × Mem → Prop) (hk : Ok (f_X9_set p1 p2 h) K) : CI Θ yX9_set cX9_set 4 (some .int) rm_X9_set [.ref (rr Θ 0 0 0), .int p1, .int p2] h K := by
  refine CI.of K [(0, .ref (rr Θ 0 0 0)), (1, .int p1), (2, .int p2)] (plainFor_of_name (by decide)) (Nat.le_of_ble_eq_true rfl) rfl (fun Γ C Rt => ?_)
  replace hk := rtI Rt hk
  unfold f_X9_set at hk
  refine g_aload_n C 0 dX9_set_0 rfl rfl (n := 1) rfl ?_
  refine g_iload_n C 1 dX9_set_1 rfl rfl (n := 2) rfl ?_
  refine g_cVBp C hk (fun K hk => L_X9_isCrab Θ p1 h K hk) lk_X9_149 kc_0 (by decide) (by decide) ⟨rfl, rfl⟩ ⟨Nat.le_of_ble_eq_true rfl, Nat.le_of_ble_eq_true rfl⟩ dX9_set_2 rfl rfl (Nat.le_of_ble_eq_true rfl) (n := 5) rfl (fun r1 hk => ?_)
  refine g_bf C 16 dX9_set_5 (by decide) (n := 8) rfl hk (fun hk => ?_) (fun hk => ?_)
  · refine g_iconst C (-1 : Int32) dX9_set_16 (by decide) (n := 17) rfl ?_
    exact retI hk.out dX9_set_17
  · refine g_aload_n C 0 dX9_set_8 rfl rfl (n := 9) rfl ?_
    refine g_iload_n C 2 dX9_set_9 rfl rfl (n := 10) rfl ?_
    refine g_cVBp C hk (fun K hk => L_X9_isPlace Θ p2 h K hk) lk_X9_115 kc_0 (by decide) (by decide) ⟨rfl, rfl⟩ ⟨Nat.le_of_ble_eq_true rfl, Nat.le_of_ble_eq_true rfl⟩ dX9_set_10 rfl rfl (Nat.le_of_ble_eq_true rfl) (n := 13) rfl (fun r2 hk => ?_)
    refine g_bt C 18 dX9_set_13 (by decide) (n := 16) rfl hk (fun hk => ?_) (fun hk => ?_)
    · refine g_aload_n C 0 dX9_set_18 rfl rfl (n := 19) rfl ?_
      refine g_getR C kc_0 (rt_0_0 (tB Θ) 0) (by decide) (by decide) (by decide) wm_362 dX9_set_19 (n := 22) rfl ?_
      refine g_getR C kc_1 (rt_1_5 (tB Θ) 0) (by decide) (by decide) (by decide) wm_177 dX9_set_22 (n := 25) rfl ?_
      refine g_iload_n C 1 dX9_set_25 rfl rfl (n := 26) rfl ?_
      refine g_aald C ar_4 (by decide) dX9_set_26 (n := 27) rfl hk (fun hg3 hk => ?_)
      refine g_getI C kc_7 ft_7_3 (by decide) (inb_lt hg3) (by decide) wm_144 dX9_set_27 (n := 30) rfl ?_
      refine g_nm hk (fun x4 hk => ?_)
      refine g_istore_n C [(3, .int x4), (0, .ref (rr Θ 0 0 0)), (1, .int p1), (2, .int p2)] dX9_set_30 rfl (by decide) rfl (n := 31) rfl ?_
      refine g_aload_n C 1 dX9_set_31 rfl rfl (n := 32) rfl ?_
      refine g_getR C kc_0 (rt_0_0 (tB Θ) 0) (by decide) (by decide) (by decide) wm_362 dX9_set_32 (n := 35) rfl ?_
      refine g_getR C kc_1 (rt_1_5 (tB Θ) 0) (by decide) (by decide) (by decide) wm_177 dX9_set_35 (n := 38) rfl ?_
      refine g_iload_n C 2 dX9_set_38 rfl rfl (n := 39) rfl ?_
      refine g_aald C ar_4 (by decide) dX9_set_39 (n := 40) rfl hk (fun hg5 hk => ?_)
      refine g_iload_n C 3 dX9_set_40 rfl rfl (n := 41) rfl ?_
      refine g_putI C kc_7 ft_7_3 (by decide) (inb_lt hg5) (by decide) rfl (fitI _) wm_144 dX9_set_41 (n := 44) rfl hk (fun h6 hk => ?_)
      refine g_iload_n C 0 dX9_set_44 rfl rfl (n := 45) rfl ?_
      exact retI hk.out dX9_set_45
    · refine g_iconst C (-1 : Int32) dX9_set_16 (by decide) (n := 17) rfl ?_
      exact retI hk.out dX9_set_17
