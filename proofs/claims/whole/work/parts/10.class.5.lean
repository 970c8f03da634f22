def f_X9_wrong  (h : Mem) : Option (Int32 × Mem) := obd (f_X0_copyFrom 1 0 h) (fun h1 => ob2 (f_X6_holdFor 0 1 h1) (fun r2 h3 => obd ((if r2 = true then some (16 : Int32) else some (0 : Int32))) (fun a4 => obd (lp fu (fun a25 => (if (a25.2.2 1 4 0 0) ≤ a25.2.1 then some (.inr (a25.1, a25.2.2)) else obd (f_X0_copyFrom 1 0 a25.2.2) (fun h26 => gd (inb a25.2.1 4) (gd (inb a25.2.1 4) (bnd (up h26 7 2 1 a25.2.1.toNatClampNeg ((1 : Int32) - (h26 7 2 1 a25.2.1.toNatClampNeg))) (fun h29 => ob2 (f_X6_holdFor 0 1 h29) (fun r30 h31 => (if r30 = true then bnd (a25.1 ||| ((1 : Int32) <<< (a25.2.1 &&& (31 : Int32)))) (fun x33 => bnd (a25.2.1 + (1 : Int32)) (fun x34 => some (.inl (x33, x34, h31)))) else bnd (a25.2.1 + (1 : Int32)) (fun x32 => some (.inl (a25.1, x32, h31))))))))))) (a4, (0 : Int32), h3)) (fun e35 => some (e35.1, e35.2)))))
def rm_X9_wrong : Room := { frames := 5, cells := 0, slots := 0, locals := 110 }
set_option maxHeartbeats 4000000 in
set_option maxRecDepth 100000 in
theorem L_X9_wrong (Θ : Tht)  (h : Mem) (K : Int32 × Mem → Prop) (hk : Ok (f_X9_wrong  h) K) : CI Θ yX9_wrong cX9_wrong 3 (some .int) rm_X9_wrong [.ref (rr Θ 0 0 0)] h K := by
  refine CI.of K [(0, .ref (rr Θ 0 0 0))] (plainFor_of_name (by decide)) (Nat.le_of_ble_eq_true rfl) rfl (fun Γ C Rt => ?_)
  replace hk := rtI Rt hk
  unfold f_X9_wrong at hk
  refine g_aload_n C 0 dX9_wrong_0 rfl rfl (n := 1) rfl ?_
  refine g_getR C kc_0 (rt_0_1 (tB Θ) 0) (by decide) (by decide) (by decide) wm_363 dX9_wrong_1 (n := 4) rfl ?_
  refine g_aload_n C 0 dX9_wrong_4 rfl rfl (n := 5) rfl ?_
  refine g_getR C kc_0 (rt_0_0 (tB Θ) 0) (by decide) (by decide) (by decide) wm_362 dX9_wrong_5 (n := 8) rfl ?_
  refine g_cVV C hk (fun K hk => L_X0_copyFrom Θ 1 (by decide) 0 (by decide) h K hk) lk_X9_86 kc_1 (by decide) (by decide) ⟨rfl, rfl⟩ ⟨Nat.le_of_ble_eq_true rfl, Nat.le_of_ble_eq_true rfl⟩ dX9_wrong_8 rfl rfl (Nat.le_of_ble_eq_true rfl) (n := 11) rfl (fun h1 hk => ?_)
  refine g_aload_n C 0 dX9_wrong_11 rfl rfl (n := 12) rfl ?_
  refine g_getR C kc_0 (rt_0_2 (tB Θ) 0) (by decide) (by decide) (by decide) wm_364 dX9_wrong_12 (n := 15) rfl ?_
  refine g_aload_n C 0 dX9_wrong_15 rfl rfl (n := 16) rfl ?_
  refine g_getR C kc_0 (rt_0_1 (tB Θ) 0) (by decide) (by decide) (by decide) wm_363 dX9_wrong_16 (n := 19) rfl ?_
  refine g_cVB C hk (fun K hk => L_X6_holdFor Θ 0 (by decide) 1 (by decide) h1 K hk) lk_X9_238 kc_8 (by decide) (by decide) ⟨rfl, rfl⟩ ⟨Nat.le_of_ble_eq_true rfl, Nat.le_of_ble_eq_true rfl⟩ dX9_wrong_19 rfl rfl (Nat.le_of_ble_eq_true rfl) (n := 22) rfl (fun r2 h3 hk => ?_)
  refine Ok.join hk (fun a4 => G Θ Γ 31 [(0, .ref (rr Θ 0 0 0))] [.int a4] h3) (fun a4 hk => ?_) (fun hk => ?_)
  · refine g_istore_n C [(1, .int a4), (0, .ref (rr Θ 0 0 0))] dX9_wrong_31 rfl (by decide) rfl (n := 32) rfl ?_
    refine g_iconst C (0 : Int32) dX9_wrong_32 (by decide) (n := 33) rfl ?_
    refine g_istore_n C [(2, .int (0 : Int32)), (1, .int a4), (0, .ref (rr Θ 0 0 0))] dX9_wrong_33 rfl (by decide) rfl (n := 34) rfl ?_
    refine g_lv [2, 1, 0] [(0, .ref (rr Θ 0 0 0)), (1, .int a4), (2, .int (0 : Int32))] rfl ?_
    refine Ok.join hk (fun e35 => G Θ Γ 108 [(1, .int e35.1)] [] e35.2) (fun e35 hk => ?_) (fun hk => ?_)
    · refine g_iload_n C 0 dX9_wrong_108 rfl rfl (n := 109) rfl ?_
      exact retI hk.out dX9_wrong_109
    · refine Ok.loop (fun a25 => G Θ Γ 34 [(0, .ref (rr Θ 0 0 0)), (1, .int a25.1), (2, .int a25.2.1)] [] a25.2.2) (fun a25 hk => ?_) _ _ hk
      refine g_iload_n C 2 dX9_wrong_34 rfl rfl (n := 35) rfl ?_
      refine g_aload_n C 0 dX9_wrong_35 rfl rfl (n := 36) rfl ?_
      refine g_getR C kc_0 (rt_0_0 (tB Θ) 0) (by decide) (by decide) (by decide) wm_362 dX9_wrong_36 (n := 39) rfl ?_
      refine g_getI C kc_1 ft_1_4 (by decide) (by decide) (by decide) wm_174 dX9_wrong_39 (n := 42) rfl ?_
      refine g_ic_ge C 108 dX9_wrong_42 (by decide) (n := 45) rfl hk (fun hk => ?_) (fun hk => ?_)
      · refine g_lv [1] [(1, .int a25.1)] rfl ?_
        exact hk.out
      · refine g_aload_n C 0 dX9_wrong_45 rfl rfl (n := 46) rfl ?_
        refine g_getR C kc_0 (rt_0_1 (tB Θ) 0) (by decide) (by decide) (by decide) wm_363 dX9_wrong_46 (n := 49) rfl ?_
        refine g_aload_n C 0 dX9_wrong_49 rfl rfl (n := 50) rfl ?_
        refine g_getR C kc_0 (rt_0_0 (tB Θ) 0) (by decide) (by decide) (by decide) wm_362 dX9_wrong_50 (n := 53) rfl ?_
        refine g_cVV C hk (fun K hk => L_X0_copyFrom Θ 1 (by decide) 0 (by decide) a25.2.2 K hk) lk_X9_86 kc_1 (by decide) (by decide) ⟨rfl, rfl⟩ ⟨Nat.le_of_ble_eq_true rfl, Nat.le_of_ble_eq_true rfl⟩ dX9_wrong_53 rfl rfl (Nat.le_of_ble_eq_true rfl) (n := 56) rfl (fun h26 hk => ?_)
        refine g_aload_n C 0 dX9_wrong_56 rfl rfl (n := 57) rfl ?_
        refine g_getR C kc_0 (rt_0_1 (tB Θ) 0) (by decide) (by decide) (by decide) wm_363 dX9_wrong_57 (n := 60) rfl ?_
        refine g_getR C kc_1 (rt_1_5 (tB Θ) 1) (by decide) (by decide) (by decide) wm_177 dX9_wrong_60 (n := 63) rfl ?_
        refine g_iload_n C 2 dX9_wrong_63 rfl rfl (n := 64) rfl ?_
        refine g_aald C ar_4 (by decide) dX9_wrong_64 (n := 65) rfl hk (fun hg27 hk => ?_)
        refine g_iconst C (1 : Int32) dX9_wrong_65 (by decide) (n := 66) rfl ?_
        refine g_aload_n C 0 dX9_wrong_66 rfl rfl (n := 67) rfl ?_
        refine g_getR C kc_0 (rt_0_1 (tB Θ) 0) (by decide) (by decide) (by decide) wm_363 dX9_wrong_67 (n := 70) rfl ?_
        refine g_getR C kc_1 (rt_1_5 (tB Θ) 1) (by decide) (by decide) (by decide) wm_177 dX9_wrong_70 (n := 73) rfl ?_
        refine g_iload_n C 2 dX9_wrong_73 rfl rfl (n := 74) rfl ?_
        refine g_aald C ar_4 (by decide) dX9_wrong_74 (n := 75) rfl hk (fun hg28 hk => ?_)
        refine g_getI C kc_7 ft_7_2 (by decide) (inb_lt hg28) (by decide) wm_141 dX9_wrong_75 (n := 78) rfl ?_
        refine g_isub C dX9_wrong_78 (n := 79) rfl ?_
        refine g_putI C kc_7 ft_7_2 (by decide) (inb_lt hg27) (by decide) rfl (fitI _) wm_141 dX9_wrong_79 (n := 82) rfl hk (fun h29 hk => ?_)
        refine g_aload_n C 0 dX9_wrong_82 rfl rfl (n := 83) rfl ?_
        refine g_getR C kc_0 (rt_0_2 (tB Θ) 0) (by decide) (by decide) (by decide) wm_364 dX9_wrong_83 (n := 86) rfl ?_
        refine g_aload_n C 0 dX9_wrong_86 rfl rfl (n := 87) rfl ?_
        refine g_getR C kc_0 (rt_0_1 (tB Θ) 0) (by decide) (by decide) (by decide) wm_363 dX9_wrong_87 (n := 90) rfl ?_
        refine g_cVB C hk (fun K hk => L_X6_holdFor Θ 0 (by decide) 1 (by decide) h29 K hk) lk_X9_238 kc_8 (by decide) (by decide) ⟨rfl, rfl⟩ ⟨Nat.le_of_ble_eq_true rfl, Nat.le_of_ble_eq_true rfl⟩ dX9_wrong_90 rfl rfl (Nat.le_of_ble_eq_true rfl) (n := 93) rfl (fun r30 h31 hk => ?_)
        refine g_bf C 102 dX9_wrong_93 (by decide) (n := 96) rfl hk (fun hk => ?_) (fun hk => ?_)
        · refine g_iinc C 2 (fun x32 => [(2, .int x32), (0, .ref (rr Θ 0 0 0)), (1, .int a25.1)]) dX9_wrong_102 rfl (v := (a25.2.1 + (1 : Int32))) rfl (by decide) (fun _ => rfl) (n := 105) rfl hk (fun x32 hk => ?_)
          refine g_goto C 34 dX9_wrong_105 (by decide) ?_
          refine g_lv [1, 2, 0] [(0, .ref (rr Θ 0 0 0)), (1, .int a25.1), (2, .int x32)] rfl ?_
          exact hk.out
        · refine g_iload_n C 1 dX9_wrong_96 rfl rfl (n := 97) rfl ?_
          refine g_iconst C (1 : Int32) dX9_wrong_97 (by decide) (n := 98) rfl ?_
          refine g_iload_n C 2 dX9_wrong_98 rfl rfl (n := 99) rfl ?_
          refine g_ishl C dX9_wrong_99 (n := 100) rfl ?_
          refine g_ior C dX9_wrong_100 (n := 101) rfl ?_
          refine g_nm hk (fun x33 hk => ?_)
          refine g_istore_n C [(1, .int x33), (0, .ref (rr Θ 0 0 0)), (2, .int a25.2.1)] dX9_wrong_101 rfl (by decide) rfl (n := 102) rfl ?_
          refine g_iinc C 2 (fun x34 => [(2, .int x34), (1, .int x33), (0, .ref (rr Θ 0 0 0))]) dX9_wrong_102 rfl (v := (a25.2.1 + (1 : Int32))) rfl (by decide) (fun _ => rfl) (n := 105) rfl hk (fun x34 hk => ?_)
          refine g_goto C 34 dX9_wrong_105 (by decide) ?_
          refine g_lv [2, 1, 0] [(0, .ref (rr Θ 0 0 0)), (1, .int x33), (2, .int x34)] rfl ?_
          exact hk.out
  · refine g_bf C 30 dX9_wrong_22 (by decide) (n := 25) rfl hk (fun hk => ?_) (fun hk => ?_)
    · refine g_iconst C (0 : Int32) dX9_wrong_30 (by decide) (n := 31) rfl ?_
      exact hk.out
    · refine g_bipush C (16 : Int32) dX9_wrong_25 (by decide) (n := 27) rfl ?_
      refine g_goto C 31 dX9_wrong_27 (by decide) ?_
      exact hk.out
