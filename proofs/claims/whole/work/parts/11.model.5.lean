def f_X10_rule (p1 : Int32) (h : Mem) : Option (Int32) := (if p1 = (0 : Int32) then some (h 24 2 0 0) else if p1 = (1 : Int32) then some (h 25 0 0 8) else if p1 = (2 : Int32) then some (h 24 3 0 0) else if p1 = (3 : Int32) then some (h 25 0 0 43) else if p1 = (4 : Int32) then some (h 25 0 0 44) else if p1 = (5 : Int32) then some (h 25 0 0 45) else some (-1 : Int32))
def rm_X10_rule : Room := { frames := 0, cells := 0, slots := 0, locals := 0 }
set_option maxHeartbeats 4000000 in
set_option maxRecDepth 100000 in
theorem L_X10_rule (Θ : Tht) (p1 : Int32) (h : Mem) (K : Int32 × Mem → Prop) (hk : Ok (f_X10_rule p1 h) (fun r => K (r, h))) : CI Θ yX10_rule cX10_rule 2 (some .int) rm_X10_rule [.ref (rr Θ 24 0 0), .int p1] h K := by
  refine CI.of K [(0, .ref (rr Θ 24 0 0)), (1, .int p1)] (plainFor_of_name (by decide)) (Nat.le_of_ble_eq_true rfl) rfl (fun Γ C Rt => ?_)
  replace hk := rtIp Rt hk
  unfold f_X10_rule at hk
  refine g_iload_n C 1 dX10_rule_0 rfl rfl (n := 1) rfl ?_
  refine g_sw C (0 : Int32) 40 dX10_rule_1 (by decide) (by decide) rfl (by decide) hk (fun hk => ?_) (fun hc1 hk => ?_)
  · refine g_aload_n C 0 dX10_rule_40 rfl rfl (n := 41) rfl ?_
    refine g_getI C kc_24 ft_24_2 (by decide) (by decide) (by decide) wm_899 dX10_rule_41 (n := 44) rfl ?_
    exact retI hk.out dX10_rule_44
  refine g_sw C (1 : Int32) 45 dX10_rule_1 (by decide) (by decide) rfl (by decide) hk (fun hk => ?_) (fun hc2 hk => ?_)
  · refine g_aload_n C 0 dX10_rule_45 rfl rfl (n := 46) rfl ?_
    refine g_getR C kc_24 (rt_24_0 (tB Θ) 0) (by decide) (by decide) (by decide) wm_897 dX10_rule_46 (n := 49) rfl ?_
    refine g_bipush C (8 : Int32) dX10_rule_49 (by decide) (n := 51) rfl ?_
    refine g_ialdL C 8 an_25 (by decide) (by decide) (by decide) dX10_rule_51 (n := 52) rfl ?_
    exact retI hk.out dX10_rule_52
  refine g_sw C (2 : Int32) 53 dX10_rule_1 (by decide) (by decide) rfl (by decide) hk (fun hk => ?_) (fun hc3 hk => ?_)
  · refine g_aload_n C 0 dX10_rule_53 rfl rfl (n := 54) rfl ?_
    refine g_getI C kc_24 ft_24_3 (by decide) (by decide) (by decide) wm_900 dX10_rule_54 (n := 57) rfl ?_
    exact retI hk.out dX10_rule_57
  refine g_sw C (3 : Int32) 58 dX10_rule_1 (by decide) (by decide) rfl (by decide) hk (fun hk => ?_) (fun hc4 hk => ?_)
  · refine g_aload_n C 0 dX10_rule_58 rfl rfl (n := 59) rfl ?_
    refine g_getR C kc_24 (rt_24_0 (tB Θ) 0) (by decide) (by decide) (by decide) wm_897 dX10_rule_59 (n := 62) rfl ?_
    refine g_bipush C (43 : Int32) dX10_rule_62 (by decide) (n := 64) rfl ?_
    refine g_ialdL C 43 an_25 (by decide) (by decide) (by decide) dX10_rule_64 (n := 65) rfl ?_
    exact retI hk.out dX10_rule_65
  refine g_sw C (4 : Int32) 66 dX10_rule_1 (by decide) (by decide) rfl (by decide) hk (fun hk => ?_) (fun hc5 hk => ?_)
  · refine g_aload_n C 0 dX10_rule_66 rfl rfl (n := 67) rfl ?_
    refine g_getR C kc_24 (rt_24_0 (tB Θ) 0) (by decide) (by decide) (by decide) wm_897 dX10_rule_67 (n := 70) rfl ?_
    refine g_bipush C (44 : Int32) dX10_rule_70 (by decide) (n := 72) rfl ?_
    refine g_ialdL C 44 an_25 (by decide) (by decide) (by decide) dX10_rule_72 (n := 73) rfl ?_
    exact retI hk.out dX10_rule_73
  refine g_sw C (5 : Int32) 74 dX10_rule_1 (by decide) (by decide) rfl (by decide) hk (fun hk => ?_) (fun hc6 hk => ?_)
  · refine g_aload_n C 0 dX10_rule_74 rfl rfl (n := 75) rfl ?_
    refine g_getR C kc_24 (rt_24_0 (tB Θ) 0) (by decide) (by decide) (by decide) wm_897 dX10_rule_75 (n := 78) rfl ?_
    refine g_bipush C (45 : Int32) dX10_rule_78 (by decide) (n := 80) rfl ?_
    refine g_ialdL C 45 an_25 (by decide) (by decide) (by decide) dX10_rule_80 (n := 81) rfl ?_
    exact retI hk.out dX10_rule_81
  refine g_swd C 6 82 dX10_rule_1 (by decide) (by decide) (sw_s (sw_s (sw_s (sw_s (sw_s (sw_0 hc1) hc2) hc3) hc4) hc5) hc6) (by decide) ?_
  refine g_iconst C (-1 : Int32) dX10_rule_82 (by decide) (n := 83) rfl ?_
  exact retI hk.out dX10_rule_83
def f_X10_see (p1 : Int32) (p2 : Int32) (p3 : Int32) (p4 : Bool) (h : Mem) : Option (Int32 × Mem) := obd (f_X10_in ((p1).toInt64) (0 : Int64) (20 : Int64) h) (fun r1 => (if r1 = true then obd (f_X10_isCoin p2 h) (fun r2 => (if r2 = true then obd (f_X10_isWhere p3 h) (fun r3 => (if r3 = true then (if (h 25 0 0 46) = (8 : Int32) then some ((-3 : Int32), h) else bnd ((47 : Int32) + ((4 : Int32) * (h 25 0 0 46))) (fun x4 => gd (inb x4 237) (bnd (up h 25 0 0 x4.toNatClampNeg p1) (fun h5 => gd (inb (x4 + (1 : Int32)) 237) (bnd (up h5 25 0 0 (x4 + (1 : Int32)).toNatClampNeg p2) (fun h6 => gd (inb (x4 + (2 : Int32)) 237) (bnd (up h6 25 0 0 (x4 + (2 : Int32)).toNatClampNeg p3) (fun h7 => obd (f_X10_flag p4 h7) (fun r8 => gd (inb (x4 + (3 : Int32)) 237) (bnd (up h7 25 0 0 (x4 + (3 : Int32)).toNatClampNeg r8) (fun h9 => bnd (up h9 25 0 0 46 ((h9 25 0 0 46) + (1 : Int32))) (fun h10 => some ((h10 25 0 0 46), h10))))))))))))) else some ((-1 : Int32), h))) else some ((-1 : Int32), h))) else some ((-1 : Int32), h)))
def rm_X10_see : Room := { frames := 2, cells := 0, slots := 0, locals := 46 }
set_option maxHeartbeats 4000000 in
set_option maxRecDepth 100000 in
theorem L_X10_see (Θ : Tht) (p1 : Int32) (p2 : Int32) (p3 : Int32) (p4 : Bool) (h : Mem) (K : Int32 × Mem → Prop) (hk : Ok (f_X10_see p1 p2 p3 p4 h) K) : CI Θ yX10_see cX10_see 6 (some .int) rm_X10_see [.ref (rr Θ 24 0 0), .int p1, .int p2, .int p3, .int (b2i p4)] h K := by
  refine CI.of K [(0, .ref (rr Θ 24 0 0)), (1, .int p1), (2, .int p2), (3, .int p3), (4, .int (b2i p4))] (plainFor_of_name (by decide)) (Nat.le_of_ble_eq_true rfl) rfl (fun Γ C Rt => ?_)
  replace hk := rtI Rt hk
  unfold f_X10_see at hk
  refine g_iload_n C 1 dX10_see_0 rfl rfl (n := 1) rfl ?_
  refine g_i2l C dX10_see_1 (n := 2) rfl ?_
  refine g_lconst C (0 : Int64) dX10_see_2 (by decide) (n := 3) rfl ?_
  refine g_ldc2 C (20 : Int64) wm_1240 dX10_see_3 (n := 6) rfl ?_
  refine g_cSBp C hk (fun K hk => L_X10_in Θ ((p1).toInt64) (0 : Int64) (20 : Int64) h K hk) lk_X10_95 ⟨rfl, rfl⟩ ⟨Nat.le_of_ble_eq_true rfl, Nat.le_of_ble_eq_true rfl⟩ dX10_see_6 rfl rfl (Nat.le_of_ble_eq_true rfl) (n := 9) rfl (fun r1 hk => ?_)
  refine g_bf C 27 dX10_see_9 (by decide) (n := 12) rfl hk (fun hk => ?_) (fun hk => ?_)
  · refine g_iconst C (-1 : Int32) dX10_see_27 (by decide) (n := 28) rfl ?_
    exact retI hk.out dX10_see_28
  · refine g_aload_n C 0 dX10_see_12 rfl rfl (n := 13) rfl ?_
    refine g_iload_n C 2 dX10_see_13 rfl rfl (n := 14) rfl ?_
    refine g_cVBp C hk (fun K hk => L_X10_isCoin Θ p2 h K hk) lk_X10_219 kc_24 (by decide) (by decide) ⟨rfl, rfl⟩ ⟨Nat.le_of_ble_eq_true rfl, Nat.le_of_ble_eq_true rfl⟩ dX10_see_14 rfl rfl (Nat.le_of_ble_eq_true rfl) (n := 17) rfl (fun r2 hk => ?_)
    refine g_bf C 27 dX10_see_17 (by decide) (n := 20) rfl hk (fun hk => ?_) (fun hk => ?_)
    · refine g_iconst C (-1 : Int32) dX10_see_27 (by decide) (n := 28) rfl ?_
      exact retI hk.out dX10_see_28
    · refine g_iload_n C 3 dX10_see_20 rfl rfl (n := 21) rfl ?_
      refine g_cSBp C hk (fun K hk => L_X10_isWhere Θ p3 h K hk) lk_X10_257 ⟨rfl, rfl⟩ ⟨Nat.le_of_ble_eq_true rfl, Nat.le_of_ble_eq_true rfl⟩ dX10_see_21 rfl rfl (Nat.le_of_ble_eq_true rfl) (n := 24) rfl (fun r3 hk => ?_)
      refine g_bt C 29 dX10_see_24 (by decide) (n := 27) rfl hk (fun hk => ?_) (fun hk => ?_)
      · refine g_aload_n C 0 dX10_see_29 rfl rfl (n := 30) rfl ?_
        refine g_getR C kc_24 (rt_24_0 (tB Θ) 0) (by decide) (by decide) (by decide) wm_897 dX10_see_30 (n := 33) rfl ?_
        refine g_bipush C (46 : Int32) dX10_see_33 (by decide) (n := 35) rfl ?_
        refine g_ialdL C 46 an_25 (by decide) (by decide) (by decide) dX10_see_35 (n := 36) rfl ?_
        refine g_bipush C (8 : Int32) dX10_see_36 (by decide) (n := 38) rfl ?_
        refine g_ic_ne C 44 dX10_see_38 (by decide) (n := 41) rfl hk (fun hk => ?_) (fun hk => ?_)
        · refine g_bipush C (47 : Int32) dX10_see_44 (by decide) (n := 46) rfl ?_
          refine g_iconst C (4 : Int32) dX10_see_46 (by decide) (n := 47) rfl ?_
          refine g_aload_n C 0 dX10_see_47 rfl rfl (n := 48) rfl ?_
          refine g_getR C kc_24 (rt_24_0 (tB Θ) 0) (by decide) (by decide) (by decide) wm_897 dX10_see_48 (n := 51) rfl ?_
          refine g_bipush C (46 : Int32) dX10_see_51 (by decide) (n := 53) rfl ?_
          refine g_ialdL C 46 an_25 (by decide) (by decide) (by decide) dX10_see_53 (n := 54) rfl ?_
          refine g_imul C dX10_see_54 (n := 55) rfl ?_
          refine g_iadd C dX10_see_55 (n := 56) rfl ?_
          refine g_nm hk (fun x4 hk => ?_)
          refine g_istore C [(5, .int x4), (0, .ref (rr Θ 24 0 0)), (1, .int p1), (2, .int p2), (3, .int p3), (4, .int (b2i p4))] dX10_see_56 (by decide) rfl (n := 58) rfl ?_
          refine g_aload_n C 1 dX10_see_58 rfl rfl (n := 59) rfl ?_
          refine g_getR C kc_24 (rt_24_0 (tB Θ) 0) (by decide) (by decide) (by decide) wm_897 dX10_see_59 (n := 62) rfl ?_
          refine g_iload C 0 dX10_see_62 rfl (n := 64) rfl ?_
          refine g_iload_n C 2 dX10_see_64 rfl rfl (n := 65) rfl ?_
          refine g_iast C an_25 (by decide) dX10_see_65 (n := 66) rfl hk (fun _ h5 hk => ?_)
          refine g_aload_n C 1 dX10_see_66 rfl rfl (n := 67) rfl ?_
          refine g_getR C kc_24 (rt_24_0 (tB Θ) 0) (by decide) (by decide) (by decide) wm_897 dX10_see_67 (n := 70) rfl ?_
          refine g_iload C 0 dX10_see_70 rfl (n := 72) rfl ?_
          refine g_iconst C (1 : Int32) dX10_see_72 (by decide) (n := 73) rfl ?_
          refine g_iadd C dX10_see_73 (n := 74) rfl ?_
          refine g_iload_n C 3 dX10_see_74 rfl rfl (n := 75) rfl ?_
          refine g_iast C an_25 (by decide) dX10_see_75 (n := 76) rfl hk (fun _ h6 hk => ?_)
          refine g_aload_n C 1 dX10_see_76 rfl rfl (n := 77) rfl ?_
          refine g_getR C kc_24 (rt_24_0 (tB Θ) 0) (by decide) (by decide) (by decide) wm_897 dX10_see_77 (n := 80) rfl ?_
          refine g_iload C 0 dX10_see_80 rfl (n := 82) rfl ?_
          refine g_iconst C (2 : Int32) dX10_see_82 (by decide) (n := 83) rfl ?_
          refine g_iadd C dX10_see_83 (n := 84) rfl ?_
          refine g_iload_n C 4 dX10_see_84 rfl rfl (n := 85) rfl ?_
          refine g_iast C an_25 (by decide) dX10_see_85 (n := 86) rfl hk (fun _ h7 hk => ?_)
          refine g_aload_n C 1 dX10_see_86 rfl rfl (n := 87) rfl ?_
          refine g_getR C kc_24 (rt_24_0 (tB Θ) 0) (by decide) (by decide) (by decide) wm_897 dX10_see_87 (n := 90) rfl ?_
          refine g_iload C 0 dX10_see_90 rfl (n := 92) rfl ?_
          refine g_iconst C (3 : Int32) dX10_see_92 (by decide) (n := 93) rfl ?_
          refine g_iadd C dX10_see_93 (n := 94) rfl ?_
          refine g_iload C 5 dX10_see_94 rfl (n := 96) rfl ?_
          refine g_cSIp C hk (fun K hk => L_X10_flag Θ p4 h7 K hk) lk_X10_158 ⟨rfl, rfl⟩ ⟨Nat.le_of_ble_eq_true rfl, Nat.le_of_ble_eq_true rfl⟩ dX10_see_96 rfl rfl (Nat.le_of_ble_eq_true rfl) (n := 99) rfl (fun r8 hk => ?_)
          refine g_iast C an_25 (by decide) dX10_see_99 (n := 100) rfl hk (fun _ h9 hk => ?_)
          refine g_aload_n C 1 dX10_see_100 rfl rfl (n := 101) rfl ?_
          refine g_getR C kc_24 (rt_24_0 (tB Θ) 0) (by decide) (by decide) (by decide) wm_897 dX10_see_101 (n := 104) rfl ?_
          refine g_bipush C (46 : Int32) dX10_see_104 (by decide) (n := 106) rfl ?_
          refine g_dup2 C dX10_see_106 rfl rfl (n := 107) rfl ?_
          refine g_ialdL C 46 an_25 (by decide) (by decide) (by decide) dX10_see_107 (n := 108) rfl ?_
          refine g_iconst C (1 : Int32) dX10_see_108 (by decide) (n := 109) rfl ?_
          refine g_iadd C dX10_see_109 (n := 110) rfl ?_
          refine g_iastL C 46 an_25 (by decide) (by decide) (by decide) dX10_see_110 (n := 111) rfl hk (fun h10 hk => ?_)
          refine g_aload_n C 1 dX10_see_111 rfl rfl (n := 112) rfl ?_
          refine g_getR C kc_24 (rt_24_0 (tB Θ) 0) (by decide) (by decide) (by decide) wm_897 dX10_see_112 (n := 115) rfl ?_
          refine g_bipush C (46 : Int32) dX10_see_115 (by decide) (n := 117) rfl ?_
          refine g_ialdL C 46 an_25 (by decide) (by decide) (by decide) dX10_see_117 (n := 118) rfl ?_
          exact retI hk.out dX10_see_118
        · refine g_bipush C (-3 : Int32) dX10_see_41 (by decide) (n := 43) rfl ?_
          exact retI hk.out dX10_see_43
      · refine g_iconst C (-1 : Int32) dX10_see_27 (by decide) (n := 28) rfl ?_
        exact retI hk.out dX10_see_28
def f_X10_set (p1 : Int32) (p2 : Int32) (h : Mem) : Option (Int32 × Mem) := obd (f_X10_isCrab p1 h) (fun r1 => (if r1 = true then obd (f_X10_isPlace p2 h) (fun r2 => (if r2 = true then ob2 (f_X10_becomes ((39 : Int32) + p1) p2 h) (fun r3 h4 => some (r3, h4)) else some ((-1 : Int32), h))) else some ((-1 : Int32), h)))
def rm_X10_set : Room := { frames := 2, cells := 0, slots := 0, locals := 46 }
set_option maxHeartbeats 4000000 in
set_option maxRecDepth 100000 in
theorem L_X10_set (Θ : Tht) (p1 : Int32) (p2 : Int32) (h : Mem) (K : Int32 × Mem → Prop) (hk : Ok (f_X10_set p1 p2 h) K) : CI Θ yX10_set cX10_set 3 (some .int) rm_X10_set [.ref (rr Θ 24 0 0), .int p1, .int p2] h K := by
  refine CI.of K [(0, .ref (rr Θ 24 0 0)), (1, .int p1), (2, .int p2)] (plainFor_of_name (by decide)) (Nat.le_of_ble_eq_true rfl) rfl (fun Γ C Rt => ?_)
  replace hk := rtI Rt hk
  unfold f_X10_set at hk
  refine g_aload_n C 0 dX10_set_0 rfl rfl (n := 1) rfl ?_
  refine g_iload_n C 1 dX10_set_1 rfl rfl (n := 2) rfl ?_
  refine g_cVBp C hk (fun K hk => L_X10_isCrab Θ p1 h K hk) lk_X10_225 kc_24 (by decide) (by decide) ⟨rfl, rfl⟩ ⟨Nat.le_of_ble_eq_true rfl, Nat.le_of_ble_eq_true rfl⟩ dX10_set_2 rfl rfl (Nat.le_of_ble_eq_true rfl) (n := 5) rfl (fun r1 hk => ?_)
  refine g_bf C 28 dX10_set_5 (by decide) (n := 8) rfl hk (fun hk => ?_) (fun hk => ?_)
  · refine g_iconst C (-1 : Int32) dX10_set_28 (by decide) (n := 29) rfl ?_
    exact retI hk.out dX10_set_29
  · refine g_aload_n C 0 dX10_set_8 rfl rfl (n := 9) rfl ?_
    refine g_iload_n C 2 dX10_set_9 rfl rfl (n := 10) rfl ?_
    refine g_cVBp C hk (fun K hk => L_X10_isPlace Θ p2 h K hk) lk_X10_216 kc_24 (by decide) (by decide) ⟨rfl, rfl⟩ ⟨Nat.le_of_ble_eq_true rfl, Nat.le_of_ble_eq_true rfl⟩ dX10_set_10 rfl rfl (Nat.le_of_ble_eq_true rfl) (n := 13) rfl (fun r2 hk => ?_)
    refine g_bf C 28 dX10_set_13 (by decide) (n := 16) rfl hk (fun hk => ?_) (fun hk => ?_)
    · refine g_iconst C (-1 : Int32) dX10_set_28 (by decide) (n := 29) rfl ?_
      exact retI hk.out dX10_set_29
    · refine g_aload_n C 0 dX10_set_16 rfl rfl (n := 17) rfl ?_
      refine g_bipush C (39 : Int32) dX10_set_17 (by decide) (n := 19) rfl ?_
      refine g_iload_n C 1 dX10_set_19 rfl rfl (n := 20) rfl ?_
      refine g_iadd C dX10_set_20 (n := 21) rfl ?_
      refine g_iload_n C 2 dX10_set_21 rfl rfl (n := 22) rfl ?_
      refine g_cVI C hk (fun K hk => L_X10_becomes Θ ((39 : Int32) + p1) p2 h K hk) lk_X10_233 kc_24 (by decide) (by decide) ⟨rfl, rfl⟩ ⟨Nat.le_of_ble_eq_true rfl, Nat.le_of_ble_eq_true rfl⟩ dX10_set_22 rfl rfl (Nat.le_of_ble_eq_true rfl) (n := 25) rfl (fun r3 h4 hk => ?_)
      refine g_goto C 29 dX10_set_25 (by decide) ?_
      exact retI hk.out dX10_set_29
def f_X10_sheet (p1 : Int32) (p2 : Int32) (p3 : Int32) (h : Mem) : Option (Int32 × Mem) := obd (f_X10_isSheet p1 p2 h) (fun r1 => (if r1 = true then (if p3 ≤ (40 : Int32) then (if 0 ≤ p3 then gd (inb p1 4) (bnd (up h 40 0 0 p1.toNatClampNeg p2) (fun h2 => gd (inb p1 4) (bnd (up h2 41 0 0 p1.toNatClampNeg p3) (fun h3 => obd (lp fu (fun a10 => (if (40 : Int32) ≤ a10.1 then some (.inr a10.2) else gd (inb (((40 : Int32) * p1) + a10.1) 160) (bnd (up a10.2 42 0 0 (((40 : Int32) * p1) + a10.1).toNatClampNeg (0 : Int32)) (fun h11 => bnd (a10.1 + (1 : Int32)) (fun x12 => some (.inl (x12, h11))))))) ((0 : Int32), h3)) (fun e13 => some ((1 : Int32), e13)))))) else some ((-14 : Int32), h)) else some ((-1 : Int32), h)) else some ((-1 : Int32), h)))
def rm_X10_sheet : Room := { frames := 2, cells := 0, slots := 0, locals := 46 }
set_option maxHeartbeats 4000000 in
set_option maxRecDepth 100000 in
theorem L_X10_sheet (Θ : Tht) (p1 : Int32) (p2 : Int32) (p3 : Int32) (h : Mem) (K : Int32 × Mem → Prop) (hk : Ok (f_X10_sheet p1 p2 p3 h) K) : CI Θ yX10_sheet cX10_sheet 5 (some .int) rm_X10_sheet [.ref (rr Θ 24 0 0), .int p1, .int p2, .int p3] h K := by
  refine CI.of K [(0, .ref (rr Θ 24 0 0)), (1, .int p1), (2, .int p2), (3, .int p3)] (plainFor_of_name (by decide)) (Nat.le_of_ble_eq_true rfl) rfl (fun Γ C Rt => ?_)
  replace hk := rtI Rt hk
  unfold f_X10_sheet at hk
  refine g_iload_n C 1 dX10_sheet_0 rfl rfl (n := 1) rfl ?_
  refine g_iload_n C 2 dX10_sheet_1 rfl rfl (n := 2) rfl ?_
  refine g_cSBp C hk (fun K hk => L_X10_isSheet Θ p1 p2 h K hk) lk_X10_272 ⟨rfl, rfl⟩ ⟨Nat.le_of_ble_eq_true rfl, Nat.le_of_ble_eq_true rfl⟩ dX10_sheet_2 rfl rfl (Nat.le_of_ble_eq_true rfl) (n := 5) rfl (fun r1 hk => ?_)
  refine g_bf C 14 dX10_sheet_5 (by decide) (n := 8) rfl hk (fun hk => ?_) (fun hk => ?_)
  · refine g_iconst C (-1 : Int32) dX10_sheet_14 (by decide) (n := 15) rfl ?_
    exact retI hk.out dX10_sheet_15
  · refine g_iload_n C 3 dX10_sheet_8 rfl rfl (n := 9) rfl ?_
    refine g_bipush C (40 : Int32) dX10_sheet_9 (by decide) (n := 11) rfl ?_
    refine g_ic_le C 16 dX10_sheet_11 (by decide) (n := 14) rfl hk (fun hk => ?_) (fun hk => ?_)
    · refine g_iload_n C 3 dX10_sheet_16 rfl rfl (n := 17) rfl ?_
      refine g_if_ge C 23 dX10_sheet_17 (by decide) (n := 20) rfl hk (fun hk => ?_) (fun hk => ?_)
      · refine g_aload_n C 0 dX10_sheet_23 rfl rfl (n := 24) rfl ?_
        refine g_getR C kc_24 (rt_24_30 (tB Θ) 0) (by decide) (by decide) (by decide) wm_927 dX10_sheet_24 (n := 27) rfl ?_
        refine g_iload_n C 1 dX10_sheet_27 rfl rfl (n := 28) rfl ?_
        refine g_iload_n C 2 dX10_sheet_28 rfl rfl (n := 29) rfl ?_
        refine g_iast C an_40 (by decide) dX10_sheet_29 (n := 30) rfl hk (fun _ h2 hk => ?_)
        refine g_aload_n C 0 dX10_sheet_30 rfl rfl (n := 31) rfl ?_
        refine g_getR C kc_24 (rt_24_31 (tB Θ) 0) (by decide) (by decide) (by decide) wm_928 dX10_sheet_31 (n := 34) rfl ?_
        refine g_iload_n C 1 dX10_sheet_34 rfl rfl (n := 35) rfl ?_
        refine g_iload_n C 3 dX10_sheet_35 rfl rfl (n := 36) rfl ?_
        refine g_iast C an_41 (by decide) dX10_sheet_36 (n := 37) rfl hk (fun _ h3 hk => ?_)
        refine g_iconst C (0 : Int32) dX10_sheet_37 (by decide) (n := 38) rfl ?_
        refine g_istore C [(4, .int (0 : Int32)), (0, .ref (rr Θ 24 0 0)), (1, .int p1), (2, .int p2), (3, .int p3)] dX10_sheet_38 (by decide) rfl (n := 40) rfl ?_
        refine g_lv [1, 2, 0] [(0, .ref (rr Θ 24 0 0)), (1, .int p1), (4, .int (0 : Int32))] rfl ?_
        refine Ok.join hk (fun e13 => G Θ Γ 66 [] [] e13) (fun e13 hk => ?_) (fun hk => ?_)
        · refine g_iconst C (1 : Int32) dX10_sheet_66 (by decide) (n := 67) rfl ?_
          exact retI hk.out dX10_sheet_67
        · refine Ok.loop (fun a10 => G Θ Γ 40 [(0, .ref (rr Θ 24 0 0)), (1, .int p1), (4, .int a10.1)] [] a10.2) (fun a10 hk => ?_) _ _ hk
          refine g_iload C 2 dX10_sheet_40 rfl (n := 42) rfl ?_
          refine g_bipush C (40 : Int32) dX10_sheet_42 (by decide) (n := 44) rfl ?_
          refine g_ic_ge C 66 dX10_sheet_44 (by decide) (n := 47) rfl hk (fun hk => ?_) (fun hk => ?_)
          · refine g_lv [] [] rfl ?_
            exact hk.out
          · refine g_aload_n C 0 dX10_sheet_47 rfl rfl (n := 48) rfl ?_
            refine g_getR C kc_24 (rt_24_32 (tB Θ) 0) (by decide) (by decide) (by decide) wm_929 dX10_sheet_48 (n := 51) rfl ?_
            refine g_bipush C (40 : Int32) dX10_sheet_51 (by decide) (n := 53) rfl ?_
            refine g_iload_n C 1 dX10_sheet_53 rfl rfl (n := 54) rfl ?_
            refine g_imul C dX10_sheet_54 (n := 55) rfl ?_
            refine g_iload C 2 dX10_sheet_55 rfl (n := 57) rfl ?_
            refine g_iadd C dX10_sheet_57 (n := 58) rfl ?_
            refine g_iconst C (0 : Int32) dX10_sheet_58 (by decide) (n := 59) rfl ?_
            refine g_iast C an_42 (by decide) dX10_sheet_59 (n := 60) rfl hk (fun _ h11 hk => ?_)
            refine g_iinc C 2 (fun x12 => [(4, .int x12), (0, .ref (rr Θ 24 0 0)), (1, .int p1)]) dX10_sheet_60 rfl (v := (a10.1 + (1 : Int32))) rfl (by decide) (fun _ => rfl) (n := 63) rfl hk (fun x12 hk => ?_)
            refine g_goto C 40 dX10_sheet_63 (by decide) ?_
            refine g_lv [1, 2, 0] [(0, .ref (rr Θ 24 0 0)), (1, .int p1), (4, .int x12)] rfl ?_
            exact hk.out
      · refine g_bipush C (-14 : Int32) dX10_sheet_20 (by decide) (n := 22) rfl ?_
        exact retI hk.out dX10_sheet_22
    · refine g_iconst C (-1 : Int32) dX10_sheet_14 (by decide) (n := 15) rfl ?_
      exact retI hk.out dX10_sheet_15
def f_X10_sorted  (h : Mem) : Option (Int32 × Mem) := obd (f_X10_starts h) (fun h1 => ob2 (f_X10_sortedBehind h1) (fun r2 h3 => some (r2, h3)))
def rm_X10_sorted : Room := { frames := 5, cells := 0, slots := 0, locals := 112 }
set_option maxHeartbeats 4000000 in
set_option maxRecDepth 100000 in
theorem L_X10_sorted (Θ : Tht)  (h : Mem) (K : Int32 × Mem → Prop) (hk : Ok (f_X10_sorted  h) K) : CI Θ yX10_sorted cX10_sorted 1 (some .int) rm_X10_sorted [.ref (rr Θ 24 0 0)] h K := by
  refine CI.of K [(0, .ref (rr Θ 24 0 0))] (plainFor_of_name (by decide)) (Nat.le_of_ble_eq_true rfl) rfl (fun Γ C Rt => ?_)
  replace hk := rtI Rt hk
  unfold f_X10_sorted at hk
  refine g_aload_n C 0 dX10_sorted_0 rfl rfl (n := 1) rfl ?_
  refine g_cVV C hk (fun K hk => L_X10_starts Θ h K hk) lk_X10_222 kc_24 (by decide) (by decide) ⟨rfl, rfl⟩ ⟨Nat.le_of_ble_eq_true rfl, Nat.le_of_ble_eq_true rfl⟩ dX10_sorted_1 rfl rfl (Nat.le_of_ble_eq_true rfl) (n := 4) rfl (fun h1 hk => ?_)
  refine g_aload_n C 0 dX10_sorted_4 rfl rfl (n := 5) rfl ?_
  refine g_cVI C hk (fun K hk => L_X10_sortedBehind Θ h1 K hk) lk_X10_240 kc_24 (by decide) (by decide) ⟨rfl, rfl⟩ ⟨Nat.le_of_ble_eq_true rfl, Nat.le_of_ble_eq_true rfl⟩ dX10_sorted_5 rfl rfl (Nat.le_of_ble_eq_true rfl) (n := 8) rfl (fun r2 h3 hk => ?_)
  exact retI hk.out dX10_sorted_8
def f_X10_text  (h : Mem) : Option (Int32 × Mem) := bnd (up h 24 15 0 0 (0 : Int32)) (fun h1 => bnd (up h1 24 11 0 0 (0 : Int32)) (fun h2 => obd (f_X10_firstDraft h2) (fun h3 => obd (f_X10_next h3) (fun h4 => obd (lp fu (fun a11 => (if (a11.2 24 15 0 0) = 0 then (if (a11.2 24 13 0 0) = 0 then some (.inr (a11.1, a11.2)) else obd (f_X10_readLine a11.2) (fun h12 => bnd (a11.1 + (1 : Int32)) (fun x13 => some (.inl (x13, h12))))) else some (.inr (a11.1, a11.2)))) ((0 : Int32), h4)) (fun e14 => obd ((if (e14.2 24 15 0 0) = 0 then obd ((if (e14.2 24 5 0 0) ≤ (e14.2 24 8 0 0) then some false else some true)) (fun a17 => obd (f_X10_needs a17 (6 : Int32) e14.2) (fun h18 => some h18)) else some e14.2)) (fun a19 => bnd (up a19 24 10 0 0 (0 : Int32)) (fun h20 => (if (h20 24 15 0 0) ≤ 0 then obd (f_X10_keepDraft h20) (fun h21 => some (e14.1, h21)) else some (((-10 : Int32) - (h20 24 16 0 0)), h20)))))))))
def rm_X10_text : Room := { frames := 7, cells := 0, slots := 0, locals := 153 }
set_option maxHeartbeats 4000000 in
set_option maxRecDepth 100000 in
theorem L_X10_text (Θ : Tht)  (h : Mem) (K : Int32 × Mem → Prop) (hk : Ok (f_X10_text  h) K) : CI Θ yX10_text cX10_text 2 (some .int) rm_X10_text [.ref (rr Θ 24 0 0)] h K := by
  refine CI.of K [(0, .ref (rr Θ 24 0 0))] (plainFor_of_name (by decide)) (Nat.le_of_ble_eq_true rfl) rfl (fun Γ C Rt => ?_)
  replace hk := rtI Rt hk
  unfold f_X10_text at hk
  refine g_iconst C (0 : Int32) dX10_text_0 (by decide) (n := 1) rfl ?_
  refine g_istore_n C [(1, .int (0 : Int32)), (0, .ref (rr Θ 24 0 0))] dX10_text_1 rfl (by decide) rfl (n := 2) rfl ?_
  refine g_aload_n C 1 dX10_text_2 rfl rfl (n := 3) rfl ?_
  refine g_iconst C (0 : Int32) dX10_text_3 (by decide) (n := 4) rfl ?_
  refine g_putI C kc_24 ft_24_15 (by decide) (by decide) (by decide) rfl (fitI _) wm_912 dX10_text_4 (n := 7) rfl hk (fun h1 hk => ?_)
  refine g_aload_n C 1 dX10_text_7 rfl rfl (n := 8) rfl ?_
  refine g_iconst C (0 : Int32) dX10_text_8 (by decide) (n := 9) rfl ?_
  refine g_putI C kc_24 ft_24_11 (by decide) (by decide) (by decide) rfl (fitI _) wm_908 dX10_text_9 (n := 12) rfl hk (fun h2 hk => ?_)
  refine g_aload_n C 1 dX10_text_12 rfl rfl (n := 13) rfl ?_
  refine g_cVV C hk (fun K hk => L_X10_firstDraft Θ h2 K hk) lk_X10_65 kc_24 (by decide) (by decide) ⟨rfl, rfl⟩ ⟨Nat.le_of_ble_eq_true rfl, Nat.le_of_ble_eq_true rfl⟩ dX10_text_13 rfl rfl (Nat.le_of_ble_eq_true rfl) (n := 16) rfl (fun h3 hk => ?_)
  refine g_aload_n C 1 dX10_text_16 rfl rfl (n := 17) rfl ?_
  refine g_cVV C hk (fun K hk => L_X10_next Θ h3 K hk) lk_X10_145 kc_24 (by decide) (by decide) ⟨rfl, rfl⟩ ⟨Nat.le_of_ble_eq_true rfl, Nat.le_of_ble_eq_true rfl⟩ dX10_text_17 rfl rfl (Nat.le_of_ble_eq_true rfl) (n := 20) rfl (fun h4 hk => ?_)
  refine g_lv [1, 0] [(0, .ref (rr Θ 24 0 0)), (1, .int (0 : Int32))] rfl ?_
  refine Ok.join hk (fun e14 => G Θ Γ 44 [(0, .ref (rr Θ 24 0 0)), (1, .int e14.1)] [] e14.2) (fun e14 hk => ?_) (fun hk => ?_)
  · refine g_aload_n C 0 dX10_text_44 rfl rfl (n := 45) rfl ?_
    refine g_getI C kc_24 ft_24_15 (by decide) (by decide) (by decide) wm_912 dX10_text_45 (n := 48) rfl ?_
    refine Ok.join hk (fun a19 => G Θ Γ 73 [(0, .ref (rr Θ 24 0 0)), (1, .int e14.1)] [] a19) (fun a19 hk => ?_) (fun hk => ?_)
    · refine g_aload_n C 0 dX10_text_73 rfl rfl (n := 74) rfl ?_
      refine g_iconst C (0 : Int32) dX10_text_74 (by decide) (n := 75) rfl ?_
      refine g_putI C kc_24 ft_24_10 (by decide) (by decide) (by decide) rfl (fitI _) wm_907 dX10_text_75 (n := 78) rfl hk (fun h20 hk => ?_)
      refine g_aload_n C 0 dX10_text_78 rfl rfl (n := 79) rfl ?_
      refine g_getI C kc_24 ft_24_15 (by decide) (by decide) (by decide) wm_912 dX10_text_79 (n := 82) rfl ?_
      refine g_if_le C 93 dX10_text_82 (by decide) (n := 85) rfl hk (fun hk => ?_) (fun hk => ?_)
      · refine g_aload_n C 0 dX10_text_93 rfl rfl (n := 94) rfl ?_
        refine g_cVV C hk (fun K hk => L_X10_keepDraft Θ h20 K hk) lk_X10_68 kc_24 (by decide) (by decide) ⟨rfl, rfl⟩ ⟨Nat.le_of_ble_eq_true rfl, Nat.le_of_ble_eq_true rfl⟩ dX10_text_94 rfl rfl (Nat.le_of_ble_eq_true rfl) (n := 97) rfl (fun h21 hk => ?_)
        refine g_iload_n C 1 dX10_text_97 rfl rfl (n := 98) rfl ?_
        exact retI hk.out dX10_text_98
      · refine g_bipush C (-10 : Int32) dX10_text_85 (by decide) (n := 87) rfl ?_
        refine g_aload_n C 0 dX10_text_87 rfl rfl (n := 88) rfl ?_
        refine g_getI C kc_24 ft_24_16 (by decide) (by decide) (by decide) wm_913 dX10_text_88 (n := 91) rfl ?_
        refine g_isub C dX10_text_91 (n := 92) rfl ?_
        exact retI hk.out dX10_text_92
    · refine g_if_ne C 73 dX10_text_48 (by decide) (n := 51) rfl hk (fun hk => ?_) (fun hk => ?_)
      · exact hk.out
      · refine g_aload_n C 0 dX10_text_51 rfl rfl (n := 52) rfl ?_
        refine g_aload_n C 0 dX10_text_52 rfl rfl (n := 53) rfl ?_
        refine g_getI C kc_24 ft_24_8 (by decide) (by decide) (by decide) wm_905 dX10_text_53 (n := 56) rfl ?_
        refine g_aload_n C 0 dX10_text_56 rfl rfl (n := 57) rfl ?_
        refine g_getI C kc_24 ft_24_5 (by decide) (by decide) (by decide) wm_902 dX10_text_57 (n := 60) rfl ?_
        refine Ok.join hk (fun a17 => G Θ Γ 68 [(0, .ref (rr Θ 24 0 0)), (1, .int e14.1)] [.int (b2i a17), .ref (rr Θ 24 0 0)] e14.2) (fun a17 hk => ?_) (fun hk => ?_)
        · refine g_bipush C (6 : Int32) dX10_text_68 (by decide) (n := 70) rfl ?_
          refine g_cVV C hk (fun K hk => L_X10_needs Θ a17 (6 : Int32) e14.2 K hk) lk_X10_137 kc_24 (by decide) (by decide) ⟨rfl, rfl⟩ ⟨Nat.le_of_ble_eq_true rfl, Nat.le_of_ble_eq_true rfl⟩ dX10_text_70 rfl rfl (Nat.le_of_ble_eq_true rfl) (n := 73) rfl (fun h18 hk => ?_)
          exact hk.out
        · refine g_ic_ge C 67 dX10_text_60 (by decide) (n := 63) rfl hk (fun hk => ?_) (fun hk => ?_)
          · refine g_iconst C (0 : Int32) dX10_text_67 (by decide) (n := 68) rfl ?_
            exact hk.out
          · refine g_iconst C (1 : Int32) dX10_text_63 (by decide) (n := 64) rfl ?_
            refine g_goto C 68 dX10_text_64 (by decide) ?_
            exact hk.out
  · refine Ok.loop (fun a11 => G Θ Γ 20 [(0, .ref (rr Θ 24 0 0)), (1, .int a11.1)] [] a11.2) (fun a11 hk => ?_) _ _ hk
    refine g_aload_n C 0 dX10_text_20 rfl rfl (n := 21) rfl ?_
    refine g_getI C kc_24 ft_24_15 (by decide) (by decide) (by decide) wm_912 dX10_text_21 (n := 24) rfl ?_
    refine g_if_ne C 44 dX10_text_24 (by decide) (n := 27) rfl hk (fun hk => ?_) (fun hk => ?_)
    · exact hk.out
    · refine g_aload_n C 0 dX10_text_27 rfl rfl (n := 28) rfl ?_
      refine g_getI C kc_24 ft_24_13 (by decide) (by decide) (by decide) wm_910 dX10_text_28 (n := 31) rfl ?_
      refine g_if_eq C 44 dX10_text_31 (by decide) (n := 34) rfl hk (fun hk => ?_) (fun hk => ?_)
      · exact hk.out
      · refine g_aload_n C 0 dX10_text_34 rfl rfl (n := 35) rfl ?_
        refine g_cVV C hk (fun K hk => L_X10_readLine Θ a11.2 K hk) lk_X10_178 kc_24 (by decide) (by decide) ⟨rfl, rfl⟩ ⟨Nat.le_of_ble_eq_true rfl, Nat.le_of_ble_eq_true rfl⟩ dX10_text_35 rfl rfl (Nat.le_of_ble_eq_true rfl) (n := 38) rfl (fun h12 hk => ?_)
        refine g_iinc C 1 (fun x13 => [(1, .int x13), (0, .ref (rr Θ 24 0 0))]) dX10_text_38 rfl (v := (a11.1 + (1 : Int32))) rfl (by decide) (fun _ => rfl) (n := 41) rfl hk (fun x13 hk => ?_)
        refine g_goto C 20 dX10_text_41 (by decide) ?_
        refine g_lv [1, 0] [(0, .ref (rr Θ 24 0 0)), (1, .int x13)] rfl ?_
        exact hk.out
def f_X10_tide (p1 : Int32) (p2 : Int32) (h : Mem) : Option (Int32 × Mem) := obd (f_X10_in ((p1).toInt64) (0 : Int64) (9 : Int64) h) (fun r1 => (if r1 = true then obd (f_X10_in ((p2).toInt64) (0 : Int64) (8 : Int64) h) (fun r2 => (if r2 = true then bnd (up h 25 0 0 44 p2) (fun h3 => ob2 (f_X10_becomes (43 : Int32) p1 h3) (fun r4 h5 => some (r4, h5))) else some ((-1 : Int32), h))) else some ((-1 : Int32), h)))
def rm_X10_tide : Room := { frames := 1, cells := 0, slots := 0, locals := 25 }
set_option maxHeartbeats 4000000 in
set_option maxRecDepth 100000 in
theorem L_X10_tide (Θ : Tht) (p1 : Int32) (p2 : Int32) (h : Mem) (K : Int32 × Mem → Prop) (hk : Ok (f_X10_tide p1 p2 h) K) : CI Θ yX10_tide cX10_tide 3 (some .int) rm_X10_tide [.ref (rr Θ 24 0 0), .int p1, .int p2] h K := by
  refine CI.of K [(0, .ref (rr Θ 24 0 0)), (1, .int p1), (2, .int p2)] (plainFor_of_name (by decide)) (Nat.le_of_ble_eq_true rfl) rfl (fun Γ C Rt => ?_)
  replace hk := rtI Rt hk
  unfold f_X10_tide at hk
  refine g_iload_n C 1 dX10_tide_0 rfl rfl (n := 1) rfl ?_
  refine g_i2l C dX10_tide_1 (n := 2) rfl ?_
  refine g_lconst C (0 : Int64) dX10_tide_2 (by decide) (n := 3) rfl ?_
  refine g_ldc2 C (9 : Int64) wm_1135 dX10_tide_3 (n := 6) rfl ?_
  refine g_cSBp C hk (fun K hk => L_X10_in Θ ((p1).toInt64) (0 : Int64) (9 : Int64) h K hk) lk_X10_95 ⟨rfl, rfl⟩ ⟨Nat.le_of_ble_eq_true rfl, Nat.le_of_ble_eq_true rfl⟩ dX10_tide_6 rfl rfl (Nat.le_of_ble_eq_true rfl) (n := 9) rfl (fun r1 hk => ?_)
  refine g_bf C 24 dX10_tide_9 (by decide) (n := 12) rfl hk (fun hk => ?_) (fun hk => ?_)
  · refine g_iconst C (-1 : Int32) dX10_tide_24 (by decide) (n := 25) rfl ?_
    exact retI hk.out dX10_tide_25
  · refine g_iload_n C 2 dX10_tide_12 rfl rfl (n := 13) rfl ?_
    refine g_i2l C dX10_tide_13 (n := 14) rfl ?_
    refine g_lconst C (0 : Int64) dX10_tide_14 (by decide) (n := 15) rfl ?_
    refine g_ldc2 C (8 : Int64) wm_1168 dX10_tide_15 (n := 18) rfl ?_
    refine g_cSBp C hk (fun K hk => L_X10_in Θ ((p2).toInt64) (0 : Int64) (8 : Int64) h K hk) lk_X10_95 ⟨rfl, rfl⟩ ⟨Nat.le_of_ble_eq_true rfl, Nat.le_of_ble_eq_true rfl⟩ dX10_tide_18 rfl rfl (Nat.le_of_ble_eq_true rfl) (n := 21) rfl (fun r2 hk => ?_)
    refine g_bt C 26 dX10_tide_21 (by decide) (n := 24) rfl hk (fun hk => ?_) (fun hk => ?_)
    · refine g_aload_n C 0 dX10_tide_26 rfl rfl (n := 27) rfl ?_
      refine g_getR C kc_24 (rt_24_0 (tB Θ) 0) (by decide) (by decide) (by decide) wm_897 dX10_tide_27 (n := 30) rfl ?_
      refine g_bipush C (44 : Int32) dX10_tide_30 (by decide) (n := 32) rfl ?_
      refine g_iload_n C 2 dX10_tide_32 rfl rfl (n := 33) rfl ?_
      refine g_iastL C 44 an_25 (by decide) (by decide) (by decide) dX10_tide_33 (n := 34) rfl hk (fun h3 hk => ?_)
      refine g_aload_n C 0 dX10_tide_34 rfl rfl (n := 35) rfl ?_
      refine g_bipush C (43 : Int32) dX10_tide_35 (by decide) (n := 37) rfl ?_
      refine g_iload_n C 1 dX10_tide_37 rfl rfl (n := 38) rfl ?_
      refine g_cVI C hk (fun K hk => L_X10_becomes Θ (43 : Int32) p1 h3 K hk) lk_X10_233 kc_24 (by decide) (by decide) ⟨rfl, rfl⟩ ⟨Nat.le_of_ble_eq_true rfl, Nat.le_of_ble_eq_true rfl⟩ dX10_tide_38 rfl rfl (Nat.le_of_ble_eq_true rfl) (n := 41) rfl (fun r4 h5 hk => ?_)
      exact retI hk.out dX10_tide_41
    · refine g_iconst C (-1 : Int32) dX10_tide_24 (by decide) (n := 25) rfl ?_
      exact retI hk.out dX10_tide_25
def f_X10_torn  (h : Mem) : Option (Int32) := some (h 24 33 0 0)
def rm_X10_torn : Room := { frames := 0, cells := 0, slots := 0, locals := 0 }
set_option maxHeartbeats 4000000 in
set_option maxRecDepth 100000 in
theorem L_X10_torn (Θ : Tht)  (h : Mem) (K : Int32 × Mem → Prop) (hk : Ok (f_X10_torn  h) (fun r => K (r, h))) : CI Θ yX10_torn cX10_torn 1 (some .int) rm_X10_torn [.ref (rr Θ 24 0 0)] h K := by
  refine CI.of K [(0, .ref (rr Θ 24 0 0))] (plainFor_of_name (by decide)) (Nat.le_of_ble_eq_true rfl) rfl (fun Γ C Rt => ?_)
  replace hk := rtIp Rt hk
  unfold f_X10_torn at hk
  refine g_aload_n C 0 dX10_torn_0 rfl rfl (n := 1) rfl ?_
  refine g_getI C kc_24 ft_24_33 (by decide) (by decide) (by decide) wm_930 dX10_torn_1 (n := 4) rfl ?_
  exact retI hk.out dX10_torn_4
def f_X10_weeks  (h : Mem) : Option (Int32 × Mem) := obd (lp fu (fun a55 => (if (8 : Int32) < a55.2.1 then some (.inr (a55.1, a55.2.2)) else obd (f_X10_starts a55.2.2) (fun h56 => obd (lp fu (fun a69 => (if (a69.2 24 3 0 0) ≤ a69.1 then some (.inr a69.2) else gd (inb a69.1 4) (obd ((if ((a69.2 32 0 0 a69.1.toNatClampNeg) + a55.2.1) ≤ (9 : Int32) then gd (inb a69.1 4) (some ((a69.2 32 0 0 a69.1.toNatClampNeg) + a55.2.1)) else some (9 : Int32))) (fun a70 => gd (inb a69.1 4) (bnd (up a69.2 32 0 0 a69.1.toNatClampNeg a70) (fun h71 => gd (inb a69.1 4) (obd ((if ((h71 33 0 0 a69.1.toNatClampNeg) + a55.2.1) ≤ (9 : Int32) then gd (inb a69.1 4) (some ((h71 33 0 0 a69.1.toNatClampNeg) + a55.2.1)) else some (9 : Int32))) (fun a72 => gd (inb a69.1 4) (bnd (up h71 33 0 0 a69.1.toNatClampNeg a72) (fun h73 => bnd (a69.1 + (1 : Int32)) (fun x74 => some (.inl (x74, h73))))))))))))) ((0 : Int32), h56)) (fun e75 => ob2 (f_X10_sortedBehind e75) (fun r76 h77 => obd ((if r76 = (-4 : Int32) then some false else some true)) (fun a78 => obd (f_X10_flag a78 h77) (fun r79 => bnd (a55.1 ||| (r79 <<< (a55.2.1 &&& (31 : Int32)))) (fun x80 => bnd (a55.2.1 + (1 : Int32)) (fun x81 => some (.inl (x80, x81, h77))))))))))) ((0 : Int32), (0 : Int32), h)) (fun e82 => some (e82.1, e82.2))
def rm_X10_weeks : Room := { frames := 5, cells := 0, slots := 0, locals := 112 }
set_option maxHeartbeats 4000000 in
set_option maxRecDepth 100000 in
theorem L_X10_weeks (Θ : Tht)  (h : Mem) (K : Int32 × Mem → Prop) (hk : Ok (f_X10_weeks  h) K) : CI Θ yX10_weeks cX10_weeks 4 (some .int) rm_X10_weeks [.ref (rr Θ 24 0 0)] h K := by
  refine CI.of K [(0, .ref (rr Θ 24 0 0))] (plainFor_of_name (by decide)) (Nat.le_of_ble_eq_true rfl) rfl (fun Γ C Rt => ?_)
  replace hk := rtI Rt hk
  unfold f_X10_weeks at hk
  refine g_iconst C (0 : Int32) dX10_weeks_0 (by decide) (n := 1) rfl ?_
  refine g_istore_n C [(1, .int (0 : Int32)), (0, .ref (rr Θ 24 0 0))] dX10_weeks_1 rfl (by decide) rfl (n := 2) rfl ?_
  refine g_iconst C (0 : Int32) dX10_weeks_2 (by decide) (n := 3) rfl ?_
  refine g_istore_n C [(2, .int (0 : Int32)), (1, .int (0 : Int32)), (0, .ref (rr Θ 24 0 0))] dX10_weeks_3 rfl (by decide) rfl (n := 4) rfl ?_
  refine g_lv [2, 1, 0] [(0, .ref (rr Θ 24 0 0)), (1, .int (0 : Int32)), (2, .int (0 : Int32))] rfl ?_
  refine Ok.join hk (fun e82 => G Θ Γ 122 [(1, .int e82.1)] [] e82.2) (fun e82 hk => ?_) (fun hk => ?_)
  · refine g_iload_n C 0 dX10_weeks_122 rfl rfl (n := 123) rfl ?_
    exact retI hk.out dX10_weeks_123
  · refine Ok.loop (fun a55 => G Θ Γ 4 [(0, .ref (rr Θ 24 0 0)), (1, .int a55.1), (2, .int a55.2.1)] [] a55.2.2) (fun a55 hk => ?_) _ _ hk
    refine g_iload_n C 2 dX10_weeks_4 rfl rfl (n := 5) rfl ?_
    refine g_bipush C (8 : Int32) dX10_weeks_5 (by decide) (n := 7) rfl ?_
    refine g_ic_gt C 122 dX10_weeks_7 (by decide) (n := 10) rfl hk (fun hk => ?_) (fun hk => ?_)
    · refine g_lv [1] [(1, .int a55.1)] rfl ?_
      exact hk.out
    · refine g_aload_n C 0 dX10_weeks_10 rfl rfl (n := 11) rfl ?_
      refine g_cVV C hk (fun K hk => L_X10_starts Θ a55.2.2 K hk) lk_X10_222 kc_24 (by decide) (by decide) ⟨rfl, rfl⟩ ⟨Nat.le_of_ble_eq_true rfl, Nat.le_of_ble_eq_true rfl⟩ dX10_weeks_11 rfl rfl (Nat.le_of_ble_eq_true rfl) (n := 14) rfl (fun h56 hk => ?_)
      refine g_iconst C (0 : Int32) dX10_weeks_14 (by decide) (n := 15) rfl ?_
      refine g_istore_n C [(3, .int (0 : Int32)), (0, .ref (rr Θ 24 0 0)), (1, .int a55.1), (2, .int a55.2.1)] dX10_weeks_15 rfl (by decide) rfl (n := 16) rfl ?_
      refine g_lv [1, 2, 3, 0] [(0, .ref (rr Θ 24 0 0)), (1, .int a55.1), (2, .int a55.2.1), (3, .int (0 : Int32))] rfl ?_
      refine Ok.join hk (fun e75 => G Θ Γ 94 [(0, .ref (rr Θ 24 0 0)), (1, .int a55.1), (2, .int a55.2.1)] [] e75) (fun e75 hk => ?_) (fun hk => ?_)
      · refine g_iload_n C 1 dX10_weeks_94 rfl rfl (n := 95) rfl ?_
        refine g_aload_n C 0 dX10_weeks_95 rfl rfl (n := 96) rfl ?_
        refine g_cVI C hk (fun K hk => L_X10_sortedBehind Θ e75 K hk) lk_X10_240 kc_24 (by decide) (by decide) ⟨rfl, rfl⟩ ⟨Nat.le_of_ble_eq_true rfl, Nat.le_of_ble_eq_true rfl⟩ dX10_weeks_96 rfl rfl (Nat.le_of_ble_eq_true rfl) (n := 99) rfl (fun r76 h77 hk => ?_)
        refine g_bipush C (-4 : Int32) dX10_weeks_99 (by decide) (n := 101) rfl ?_
        refine Ok.join hk (fun a78 => G Θ Γ 109 [(0, .ref (rr Θ 24 0 0)), (2, .int a55.2.1)] [.int (b2i a78), .int a55.1] h77) (fun a78 hk => ?_) (fun hk => ?_)
        · refine g_cSIp C hk (fun K hk => L_X10_flag Θ a78 h77 K hk) lk_X10_158 ⟨rfl, rfl⟩ ⟨Nat.le_of_ble_eq_true rfl, Nat.le_of_ble_eq_true rfl⟩ dX10_weeks_109 rfl rfl (Nat.le_of_ble_eq_true rfl) (n := 112) rfl (fun r79 hk => ?_)
          refine g_iload_n C 1 dX10_weeks_112 rfl rfl (n := 113) rfl ?_
          refine g_ishl C dX10_weeks_113 (n := 114) rfl ?_
          refine g_ior C dX10_weeks_114 (n := 115) rfl ?_
          refine g_nm hk (fun x80 hk => ?_)
          refine g_istore_n C [(1, .int x80), (0, .ref (rr Θ 24 0 0)), (2, .int a55.2.1)] dX10_weeks_115 rfl (by decide) rfl (n := 116) rfl ?_
          refine g_iinc C 2 (fun x81 => [(2, .int x81), (1, .int x80), (0, .ref (rr Θ 24 0 0))]) dX10_weeks_116 rfl (v := (a55.2.1 + (1 : Int32))) rfl (by decide) (fun _ => rfl) (n := 119) rfl hk (fun x81 hk => ?_)
          refine g_goto C 4 dX10_weeks_119 (by decide) ?_
          refine g_lv [2, 1, 0] [(0, .ref (rr Θ 24 0 0)), (1, .int x80), (2, .int x81)] rfl ?_
          exact hk.out
        · refine g_ic_eq C 108 dX10_weeks_101 (by decide) (n := 104) rfl hk (fun hk => ?_) (fun hk => ?_)
          · refine g_iconst C (0 : Int32) dX10_weeks_108 (by decide) (n := 109) rfl ?_
            refine g_lv [0, 2] [(0, .ref (rr Θ 24 0 0)), (2, .int a55.2.1)] rfl ?_
            exact hk.out
          · refine g_iconst C (1 : Int32) dX10_weeks_104 (by decide) (n := 105) rfl ?_
            refine g_goto C 109 dX10_weeks_105 (by decide) ?_
            refine g_lv [0, 2] [(0, .ref (rr Θ 24 0 0)), (2, .int a55.2.1)] rfl ?_
            exact hk.out
      · refine Ok.loop (fun a69 => G Θ Γ 16 [(0, .ref (rr Θ 24 0 0)), (1, .int a55.1), (2, .int a55.2.1), (3, .int a69.1)] [] a69.2) (fun a69 hk => ?_) _ _ hk
        refine g_iload_n C 3 dX10_weeks_16 rfl rfl (n := 17) rfl ?_
        refine g_aload_n C 0 dX10_weeks_17 rfl rfl (n := 18) rfl ?_
        refine g_getI C kc_24 ft_24_3 (by decide) (by decide) (by decide) wm_900 dX10_weeks_18 (n := 21) rfl ?_
        refine g_ic_ge C 94 dX10_weeks_21 (by decide) (n := 24) rfl hk (fun hk => ?_) (fun hk => ?_)
        · refine g_lv [0, 1, 2] [(0, .ref (rr Θ 24 0 0)), (1, .int a55.1), (2, .int a55.2.1)] rfl ?_
          exact hk.out
        · refine g_aload_n C 0 dX10_weeks_24 rfl rfl (n := 25) rfl ?_
          refine g_getR C kc_24 (rt_24_20 (tB Θ) 0) (by decide) (by decide) (by decide) wm_917 dX10_weeks_25 (n := 28) rfl ?_
          refine g_iload_n C 3 dX10_weeks_28 rfl rfl (n := 29) rfl ?_
          refine g_aload_n C 0 dX10_weeks_29 rfl rfl (n := 30) rfl ?_
          refine g_getR C kc_24 (rt_24_20 (tB Θ) 0) (by decide) (by decide) (by decide) wm_917 dX10_weeks_30 (n := 33) rfl ?_
          refine g_iload_n C 3 dX10_weeks_33 rfl rfl (n := 34) rfl ?_
          refine g_iald C an_32 (by decide) dX10_weeks_34 (n := 35) rfl hk (fun _ hk => ?_)
          refine g_iload_n C 2 dX10_weeks_35 rfl rfl (n := 36) rfl ?_
          refine g_iadd C dX10_weeks_36 (n := 37) rfl ?_
          refine g_bipush C (9 : Int32) dX10_weeks_37 (by decide) (n := 39) rfl ?_
          refine Ok.join hk (fun a70 => G Θ Γ 55 [(0, .ref (rr Θ 24 0 0)), (1, .int a55.1), (2, .int a55.2.1), (3, .int a69.1)] [.int a70, .int a69.1, .ref (rr Θ 32 0 0)] a69.2) (fun a70 hk => ?_) (fun hk => ?_)
          · refine g_iast C an_32 (by decide) dX10_weeks_55 (n := 56) rfl hk (fun _ h71 hk => ?_)
            refine g_aload_n C 0 dX10_weeks_56 rfl rfl (n := 57) rfl ?_
            refine g_getR C kc_24 (rt_24_21 (tB Θ) 0) (by decide) (by decide) (by decide) wm_918 dX10_weeks_57 (n := 60) rfl ?_
            refine g_iload_n C 3 dX10_weeks_60 rfl rfl (n := 61) rfl ?_
            refine g_aload_n C 0 dX10_weeks_61 rfl rfl (n := 62) rfl ?_
            refine g_getR C kc_24 (rt_24_21 (tB Θ) 0) (by decide) (by decide) (by decide) wm_918 dX10_weeks_62 (n := 65) rfl ?_
            refine g_iload_n C 3 dX10_weeks_65 rfl rfl (n := 66) rfl ?_
            refine g_iald C an_33 (by decide) dX10_weeks_66 (n := 67) rfl hk (fun _ hk => ?_)
            refine g_iload_n C 2 dX10_weeks_67 rfl rfl (n := 68) rfl ?_
            refine g_iadd C dX10_weeks_68 (n := 69) rfl ?_
            refine g_bipush C (9 : Int32) dX10_weeks_69 (by decide) (n := 71) rfl ?_
            refine Ok.join hk (fun a72 => G Θ Γ 87 [(0, .ref (rr Θ 24 0 0)), (1, .int a55.1), (2, .int a55.2.1), (3, .int a69.1)] [.int a72, .int a69.1, .ref (rr Θ 33 0 0)] h71) (fun a72 hk => ?_) (fun hk => ?_)
            · refine g_iast C an_33 (by decide) dX10_weeks_87 (n := 88) rfl hk (fun _ h73 hk => ?_)
              refine g_iinc C 3 (fun x74 => [(3, .int x74), (0, .ref (rr Θ 24 0 0)), (1, .int a55.1), (2, .int a55.2.1)]) dX10_weeks_88 rfl (v := (a69.1 + (1 : Int32))) rfl (by decide) (fun _ => rfl) (n := 91) rfl hk (fun x74 hk => ?_)
              refine g_goto C 16 dX10_weeks_91 (by decide) ?_
              refine g_lv [1, 2, 3, 0] [(0, .ref (rr Θ 24 0 0)), (1, .int a55.1), (2, .int a55.2.1), (3, .int x74)] rfl ?_
              exact hk.out
            · refine g_ic_le C 79 dX10_weeks_71 (by decide) (n := 74) rfl hk (fun hk => ?_) (fun hk => ?_)
              · refine g_aload_n C 0 dX10_weeks_79 rfl rfl (n := 80) rfl ?_
                refine g_getR C kc_24 (rt_24_21 (tB Θ) 0) (by decide) (by decide) (by decide) wm_918 dX10_weeks_80 (n := 83) rfl ?_
                refine g_iload_n C 3 dX10_weeks_83 rfl rfl (n := 84) rfl ?_
                refine g_iald C an_33 (by decide) dX10_weeks_84 (n := 85) rfl hk (fun _ hk => ?_)
                refine g_iload_n C 2 dX10_weeks_85 rfl rfl (n := 86) rfl ?_
                refine g_iadd C dX10_weeks_86 (n := 87) rfl ?_
                exact hk.out
              · refine g_bipush C (9 : Int32) dX10_weeks_74 (by decide) (n := 76) rfl ?_
                refine g_goto C 87 dX10_weeks_76 (by decide) ?_
                exact hk.out
          · refine g_ic_le C 47 dX10_weeks_39 (by decide) (n := 42) rfl hk (fun hk => ?_) (fun hk => ?_)
            · refine g_aload_n C 0 dX10_weeks_47 rfl rfl (n := 48) rfl ?_
              refine g_getR C kc_24 (rt_24_20 (tB Θ) 0) (by decide) (by decide) (by decide) wm_917 dX10_weeks_48 (n := 51) rfl ?_
              refine g_iload_n C 3 dX10_weeks_51 rfl rfl (n := 52) rfl ?_
              refine g_iald C an_32 (by decide) dX10_weeks_52 (n := 53) rfl hk (fun _ hk => ?_)
              refine g_iload_n C 2 dX10_weeks_53 rfl rfl (n := 54) rfl ?_
              refine g_iadd C dX10_weeks_54 (n := 55) rfl ?_
              exact hk.out
            · refine g_bipush C (9 : Int32) dX10_weeks_42 (by decide) (n := 44) rfl ?_
              refine g_goto C 55 dX10_weeks_44 (by decide) ?_
              exact hk.out
def f_X10_wrong  (h : Mem) : Option (Int32 × Mem) := obd (f_X10_starts h) (fun h1 => ob2 (f_X10_isSo h1) (fun r2 h3 => obd ((if r2 = true then some (16 : Int32) else some (0 : Int32))) (fun a4 => obd (lp fu (fun a21 => (if (a21.2.2 24 3 0 0) ≤ a21.2.1 then some (.inr (a21.1, a21.2.2)) else obd (f_X10_starts a21.2.2) (fun h22 => gd (inb a21.2.1 4) (gd (inb a21.2.1 4) (bnd (up h22 34 0 0 a21.2.1.toNatClampNeg ((1 : Int32) - (h22 34 0 0 a21.2.1.toNatClampNeg))) (fun h23 => ob2 (f_X10_isSo h23) (fun r24 h25 => obd (f_X10_flag r24 h25) (fun r26 => bnd (a21.1 ||| (r26 <<< (a21.2.1 &&& (31 : Int32)))) (fun x27 => bnd (a21.2.1 + (1 : Int32)) (fun x28 => some (.inl (x27, x28, h25)))))))))))) (a4, (0 : Int32), h3)) (fun e29 => some (e29.1, e29.2)))))
def rm_X10_wrong : Room := { frames := 5, cells := 0, slots := 0, locals := 115 }
set_option maxHeartbeats 4000000 in
set_option maxRecDepth 100000 in
theorem L_X10_wrong (Θ : Tht)  (h : Mem) (K : Int32 × Mem → Prop) (hk : Ok (f_X10_wrong  h) K) : CI Θ yX10_wrong cX10_wrong 3 (some .int) rm_X10_wrong [.ref (rr Θ 24 0 0)] h K := by
  refine CI.of K [(0, .ref (rr Θ 24 0 0))] (plainFor_of_name (by decide)) (Nat.le_of_ble_eq_true rfl) rfl (fun Γ C Rt => ?_)
  replace hk := rtI Rt hk
  unfold f_X10_wrong at hk
  refine g_aload_n C 0 dX10_wrong_0 rfl rfl (n := 1) rfl ?_
  refine g_cVV C hk (fun K hk => L_X10_starts Θ h K hk) lk_X10_222 kc_24 (by decide) (by decide) ⟨rfl, rfl⟩ ⟨Nat.le_of_ble_eq_true rfl, Nat.le_of_ble_eq_true rfl⟩ dX10_wrong_1 rfl rfl (Nat.le_of_ble_eq_true rfl) (n := 4) rfl (fun h1 hk => ?_)
  refine g_aload_n C 0 dX10_wrong_4 rfl rfl (n := 5) rfl ?_
  refine g_cVB C hk (fun K hk => L_X10_isSo Θ h1 K hk) lk_X10_262 kc_24 (by decide) (by decide) ⟨rfl, rfl⟩ ⟨Nat.le_of_ble_eq_true rfl, Nat.le_of_ble_eq_true rfl⟩ dX10_wrong_5 rfl rfl (Nat.le_of_ble_eq_true rfl) (n := 8) rfl (fun r2 h3 hk => ?_)
  refine Ok.join hk (fun a4 => G Θ Γ 17 [(0, .ref (rr Θ 24 0 0))] [.int a4] h3) (fun a4 hk => ?_) (fun hk => ?_)
  · refine g_istore_n C [(1, .int a4), (0, .ref (rr Θ 24 0 0))] dX10_wrong_17 rfl (by decide) rfl (n := 18) rfl ?_
    refine g_iconst C (0 : Int32) dX10_wrong_18 (by decide) (n := 19) rfl ?_
    refine g_istore_n C [(2, .int (0 : Int32)), (1, .int a4), (0, .ref (rr Θ 24 0 0))] dX10_wrong_19 rfl (by decide) rfl (n := 20) rfl ?_
    refine g_lv [2, 1, 0] [(0, .ref (rr Θ 24 0 0)), (1, .int a4), (2, .int (0 : Int32))] rfl ?_
    refine Ok.join hk (fun e29 => G Θ Γ 64 [(1, .int e29.1)] [] e29.2) (fun e29 hk => ?_) (fun hk => ?_)
    · refine g_iload_n C 0 dX10_wrong_64 rfl rfl (n := 65) rfl ?_
      exact retI hk.out dX10_wrong_65
    · refine Ok.loop (fun a21 => G Θ Γ 20 [(0, .ref (rr Θ 24 0 0)), (1, .int a21.1), (2, .int a21.2.1)] [] a21.2.2) (fun a21 hk => ?_) _ _ hk
      refine g_iload_n C 2 dX10_wrong_20 rfl rfl (n := 21) rfl ?_
      refine g_aload_n C 0 dX10_wrong_21 rfl rfl (n := 22) rfl ?_
      refine g_getI C kc_24 ft_24_3 (by decide) (by decide) (by decide) wm_900 dX10_wrong_22 (n := 25) rfl ?_
      refine g_ic_ge C 64 dX10_wrong_25 (by decide) (n := 28) rfl hk (fun hk => ?_) (fun hk => ?_)
      · refine g_lv [1] [(1, .int a21.1)] rfl ?_
        exact hk.out
      · refine g_aload_n C 0 dX10_wrong_28 rfl rfl (n := 29) rfl ?_
        refine g_cVV C hk (fun K hk => L_X10_starts Θ a21.2.2 K hk) lk_X10_222 kc_24 (by decide) (by decide) ⟨rfl, rfl⟩ ⟨Nat.le_of_ble_eq_true rfl, Nat.le_of_ble_eq_true rfl⟩ dX10_wrong_29 rfl rfl (Nat.le_of_ble_eq_true rfl) (n := 32) rfl (fun h22 hk => ?_)
        refine g_aload_n C 0 dX10_wrong_32 rfl rfl (n := 33) rfl ?_
        refine g_getR C kc_24 (rt_24_22 (tB Θ) 0) (by decide) (by decide) (by decide) wm_919 dX10_wrong_33 (n := 36) rfl ?_
        refine g_iload_n C 2 dX10_wrong_36 rfl rfl (n := 37) rfl ?_
        refine g_iconst C (1 : Int32) dX10_wrong_37 (by decide) (n := 38) rfl ?_
        refine g_aload_n C 0 dX10_wrong_38 rfl rfl (n := 39) rfl ?_
        refine g_getR C kc_24 (rt_24_22 (tB Θ) 0) (by decide) (by decide) (by decide) wm_919 dX10_wrong_39 (n := 42) rfl ?_
        refine g_iload_n C 2 dX10_wrong_42 rfl rfl (n := 43) rfl ?_
        refine g_iald C an_34 (by decide) dX10_wrong_43 (n := 44) rfl hk (fun _ hk => ?_)
        refine g_isub C dX10_wrong_44 (n := 45) rfl ?_
        refine g_iast C an_34 (by decide) dX10_wrong_45 (n := 46) rfl hk (fun _ h23 hk => ?_)
        refine g_iload_n C 1 dX10_wrong_46 rfl rfl (n := 47) rfl ?_
        refine g_aload_n C 0 dX10_wrong_47 rfl rfl (n := 48) rfl ?_
        refine g_cVB C hk (fun K hk => L_X10_isSo Θ h23 K hk) lk_X10_262 kc_24 (by decide) (by decide) ⟨rfl, rfl⟩ ⟨Nat.le_of_ble_eq_true rfl, Nat.le_of_ble_eq_true rfl⟩ dX10_wrong_48 rfl rfl (Nat.le_of_ble_eq_true rfl) (n := 51) rfl (fun r24 h25 hk => ?_)
        refine g_cSIp C hk (fun K hk => L_X10_flag Θ r24 h25 K hk) lk_X10_158 ⟨rfl, rfl⟩ ⟨Nat.le_of_ble_eq_true rfl, Nat.le_of_ble_eq_true rfl⟩ dX10_wrong_51 rfl rfl (Nat.le_of_ble_eq_true rfl) (n := 54) rfl (fun r26 hk => ?_)
        refine g_iload_n C 2 dX10_wrong_54 rfl rfl (n := 55) rfl ?_
        refine g_ishl C dX10_wrong_55 (n := 56) rfl ?_
        refine g_ior C dX10_wrong_56 (n := 57) rfl ?_
        refine g_nm hk (fun x27 hk => ?_)
        refine g_istore_n C [(1, .int x27), (0, .ref (rr Θ 24 0 0)), (2, .int a21.2.1)] dX10_wrong_57 rfl (by decide) rfl (n := 58) rfl ?_
        refine g_iinc C 2 (fun x28 => [(2, .int x28), (1, .int x27), (0, .ref (rr Θ 24 0 0))]) dX10_wrong_58 rfl (v := (a21.2.1 + (1 : Int32))) rfl (by decide) (fun _ => rfl) (n := 61) rfl hk (fun x28 hk => ?_)
        refine g_goto C 20 dX10_wrong_61 (by decide) ?_
        refine g_lv [2, 1, 0] [(0, .ref (rr Θ 24 0 0)), (1, .int x27), (2, .int x28)] rfl ?_
        exact hk.out
  · refine g_bf C 16 dX10_wrong_8 (by decide) (n := 11) rfl hk (fun hk => ?_) (fun hk => ?_)
    · refine g_iconst C (0 : Int32) dX10_wrong_16 (by decide) (n := 17) rfl ?_
      exact hk.out
    · refine g_bipush C (16 : Int32) dX10_wrong_11 (by decide) (n := 13) rfl ?_
      refine g_goto C 17 dX10_wrong_13 (by decide) ?_
      exact hk.out
