def f_X8_isName (s1 : Nat) (h : Mem) : Option (Bool) := (if (h 16 6 0 0) = (1 : Int32) then (if ((h 16 8 0 0) - (h 16 7 0 0)) = (sln s1) then obd (lp fu (fun a5 => (if (sln s1) ≤ a5 then some (.inr (.inr ())) else gd (inb ((h 16 7 0 0) + a5) 320) (gd (inb a5 (sLen.getD s1 0)) ((if (h 18 0 0 ((h 16 7 0 0) + a5).toNatClampNeg) = (sch s1 a5.toNatClampNeg) then bnd (a5 + (1 : Int32)) (fun x6 => some (.inl x6)) else some (.inr (.inl false))))))) (0 : Int32)) (Sum.elim (fun r => some r) (fun e7 => some true)) else some false) else some false)
def rm_X8_isName : Room := { frames := 4, cells := 0, slots := 0, locals := 85 }
set_option maxHeartbeats 4000000 in
set_option maxRecDepth 100000 in
theorem L_X8_isName (Θ : Tht) (s1 : Nat) (hs1 : s1 < 8) (h : Mem) (K : Bool × Mem → Prop) (hk : Ok (f_X8_isName s1 h) (fun r => K (r, h))) : CB Θ yX8_isName cX8_isName 3 (some .boolean) rm_X8_isName [.ref (rr Θ 16 0 0), .ref (tK Θ s1)] h K := by
  refine CB.of K [(0, .ref (rr Θ 16 0 0)), (1, .ref (tK Θ s1))] (plainFor_of_name (by decide)) (Nat.le_of_ble_eq_true rfl) rfl (fun Γ C Rt => ?_)
  replace hk := rtBp Rt hk
  unfold f_X8_isName at hk
  refine g_aload_n C 0 dX8_isName_0 rfl rfl (n := 1) rfl ?_
  refine g_getI C kc_16 ft_16_6 (by decide) (by decide) (by decide) wm_293 dX8_isName_1 (n := 4) rfl ?_
  refine g_iconst C (1 : Int32) dX8_isName_4 (by decide) (n := 5) rfl ?_
  refine g_ic_ne C 24 dX8_isName_5 (by decide) (n := 8) rfl hk (fun hk => ?_) (fun hk => ?_)
  · refine g_iconst C (0 : Int32) dX8_isName_24 (by decide) (n := 25) rfl ?_
    exact retB false rfl hk.out dX8_isName_25
  · refine g_aload_n C 0 dX8_isName_8 rfl rfl (n := 9) rfl ?_
    refine g_getI C kc_16 ft_16_8 (by decide) (by decide) (by decide) wm_295 dX8_isName_9 (n := 12) rfl ?_
    refine g_aload_n C 0 dX8_isName_12 rfl rfl (n := 13) rfl ?_
    refine g_getI C kc_16 ft_16_7 (by decide) (by decide) (by decide) wm_294 dX8_isName_13 (n := 16) rfl ?_
    refine g_isub C dX8_isName_16 (n := 17) rfl ?_
    refine g_aload_n C 1 dX8_isName_17 rfl rfl (n := 18) rfl ?_
    refine g_slen C (by decide) hs1 dX8_isName_18 (Nat.le_of_ble_eq_true rfl) (n := 21) rfl ?_
    refine g_ic_eq C 26 dX8_isName_21 (by decide) (n := 24) rfl hk (fun hk => ?_) (fun hk => ?_)
    · refine g_iconst C (0 : Int32) dX8_isName_26 (by decide) (n := 27) rfl ?_
      refine g_istore_n C [(2, .int (0 : Int32)), (0, .ref (rr Θ 16 0 0)), (1, .ref (tK Θ s1))] dX8_isName_27 rfl (by decide) rfl (n := 28) rfl ?_
      refine g_lv [1, 2, 0] [(0, .ref (rr Θ 16 0 0)), (1, .ref (tK Θ s1)), (2, .int (0 : Int32))] rfl ?_
      refine Ok.join hk (Sum.elim (fun r => PB Θ Γ cX8_isName (r, h)) (fun e7 => G Θ Γ 66 [] [] h)) (fun e hk => ?_) (fun hk => ?_)
      · rcases e with r | e7
        · exact hk.out
        · replace hk := ok_inr hk
          refine g_iconst C (1 : Int32) dX8_isName_66 (by decide) (n := 67) rfl ?_
          exact retB true rfl hk.out dX8_isName_67
      · refine Ok.loop (fun a5 => G Θ Γ 28 [(0, .ref (rr Θ 16 0 0)), (1, .ref (tK Θ s1)), (2, .int a5)] [] h) (fun a5 hk => ?_) _ _ hk
        refine g_iload_n C 2 dX8_isName_28 rfl rfl (n := 29) rfl ?_
        refine g_aload_n C 1 dX8_isName_29 rfl rfl (n := 30) rfl ?_
        refine g_slen C (by decide) hs1 dX8_isName_30 (Nat.le_of_ble_eq_true rfl) (n := 33) rfl ?_
        refine g_ic_ge C 66 dX8_isName_33 (by decide) (n := 36) rfl hk (fun hk => ?_) (fun hk => ?_)
        · refine g_lv [] [] rfl ?_
          exact hk.out
        · refine g_aload_n C 0 dX8_isName_36 rfl rfl (n := 37) rfl ?_
          refine g_getR C kc_16 (rt_16_0 (tB Θ) 0) (by decide) (by decide) (by decide) wm_283 dX8_isName_37 (n := 40) rfl ?_
          refine g_getR C kc_17 (rt_17_0 (tB Θ) 0) (by decide) (by decide) (by decide) wm_271 dX8_isName_40 (n := 43) rfl ?_
          refine g_aload_n C 0 dX8_isName_43 rfl rfl (n := 44) rfl ?_
          refine g_getI C kc_16 ft_16_7 (by decide) (by decide) (by decide) wm_294 dX8_isName_44 (n := 47) rfl ?_
          refine g_iload_n C 2 dX8_isName_47 rfl rfl (n := 48) rfl ?_
          refine g_iadd C dX8_isName_48 (n := 49) rfl ?_
          refine g_bald C an_18 (by decide) dX8_isName_49 (n := 50) rfl hk (fun _ hk => ?_)
          refine g_aload_n C 1 dX8_isName_50 rfl rfl (n := 51) rfl ?_
          refine g_iload_n C 2 dX8_isName_51 rfl rfl (n := 52) rfl ?_
          refine g_schr C (by decide) hs1 dX8_isName_52 (Nat.le_of_ble_eq_true rfl) (n := 55) rfl hk (fun hk => ?_)
          refine g_ic_eq C 60 dX8_isName_55 (by decide) (n := 58) rfl hk (fun hk => ?_) (fun hk => ?_)
          · refine g_iinc C 2 (fun x6 => [(2, .int x6), (0, .ref (rr Θ 16 0 0)), (1, .ref (tK Θ s1))]) dX8_isName_60 rfl (v := (a5 + (1 : Int32))) rfl (by decide) (fun _ => rfl) (n := 63) rfl hk (fun x6 hk => ?_)
            refine g_goto C 28 dX8_isName_63 (by decide) ?_
            refine g_lv [1, 2, 0] [(0, .ref (rr Θ 16 0 0)), (1, .ref (tK Θ s1)), (2, .int x6)] rfl ?_
            exact hk.out
          · refine g_iconst C (0 : Int32) dX8_isName_58 (by decide) (n := 59) rfl ?_
            exact retB false rfl hk.out dX8_isName_59
    · refine g_iconst C (0 : Int32) dX8_isName_24 (by decide) (n := 25) rfl ?_
      exact retB false rfl hk.out dX8_isName_25
def f_X8_takeCoin  (h : Mem) : Option (Bool × Mem) := bnd (h 1 2 2 0) (fun x1 => (if x1 < (6 : Int32) then ob2 (f_X8_takeNumber (1 : Int32) (9 : Int32) h) (fun r2 h3 => (if r2 = true then bnd (h3 16 9 0 0) (fun x4 => ob2 (f_X8_takeNumber (0 : Int32) (7 : Int32) h3) (fun r5 h6 => (if r5 = true then obd (f_X0_addCoin 2 x4 (h6 16 9 0 0) h6) (fun h7 => ob2 (f_X8_takeToken h7) (fun r8 h9 => (if r8 = true then obd (f_X8_isName 3 h9) (fun r10 => (if r10 = true then gd (inb x1 6) (bnd (up h9 6 1 2 x1.toNatClampNeg (1 : Int32)) (fun h12 => ob2 (f_X8_takeToken h12) (fun r13 h14 => (if r13 = true then ob2 (f_X8_endsLine h14) (fun r15 h16 => (if r15 = true then some (true, h16) else some (false, h16))) else some (false, h14))))) else ob2 (f_X8_endsLine h9) (fun r17 h18 => some (r17, h18)))) else some (false, h9)))) else some (false, h6)))) else some (false, h3))) else ob2 (f_X8_refuse (5 : Int32) (h 16 7 0 0) h) (fun r19 h20 => some (r19, h20))))
def rm_X8_takeCoin : Room := { frames := 5, cells := 0, slots := 0, locals := 107 }
set_option maxHeartbeats 4000000 in
set_option maxRecDepth 100000 in
theorem L_X8_takeCoin (Θ : Tht)  (h : Mem) (K : Bool × Mem → Prop) (hk : Ok (f_X8_takeCoin  h) K) : CB Θ yX8_takeCoin cX8_takeCoin 3 (some .boolean) rm_X8_takeCoin [.ref (rr Θ 16 0 0)] h K := by
  refine CB.of K [(0, .ref (rr Θ 16 0 0))] (plainFor_of_name (by decide)) (Nat.le_of_ble_eq_true rfl) rfl (fun Γ C Rt => ?_)
  replace hk := rtB Rt hk
  unfold f_X8_takeCoin at hk
  refine g_aload_n C 0 dX8_takeCoin_0 rfl rfl (n := 1) rfl ?_
  refine g_getR C kc_16 (rt_16_1 (tB Θ) 0) (by decide) (by decide) (by decide) wm_285 dX8_takeCoin_1 (n := 4) rfl ?_
  refine g_getI C kc_1 ft_1_2 (by decide) (by decide) (by decide) wm_167 dX8_takeCoin_4 (n := 7) rfl ?_
  refine g_nm hk (fun x1 hk => ?_)
  refine g_istore_n C [(1, .int x1), (0, .ref (rr Θ 16 0 0))] dX8_takeCoin_7 rfl (by decide) rfl (n := 8) rfl ?_
  refine g_iload_n C 0 dX8_takeCoin_8 rfl rfl (n := 9) rfl ?_
  refine g_bipush C (6 : Int32) dX8_takeCoin_9 (by decide) (n := 11) rfl ?_
  refine g_ic_lt C 24 dX8_takeCoin_11 (by decide) (n := 14) rfl hk (fun hk => ?_) (fun hk => ?_)
  · refine g_aload_n C 1 dX8_takeCoin_24 rfl rfl (n := 25) rfl ?_
    refine g_iconst C (1 : Int32) dX8_takeCoin_25 (by decide) (n := 26) rfl ?_
    refine g_bipush C (9 : Int32) dX8_takeCoin_26 (by decide) (n := 28) rfl ?_
    refine g_cVB C hk (fun K hk => L_X8_takeNumber Θ (1 : Int32) (9 : Int32) h K hk) lk_X8_97 kc_16 (by decide) (by decide) ⟨rfl, rfl⟩ ⟨Nat.le_of_ble_eq_true rfl, Nat.le_of_ble_eq_true rfl⟩ dX8_takeCoin_28 rfl rfl (Nat.le_of_ble_eq_true rfl) (n := 31) rfl (fun r2 h3 hk => ?_)
    refine g_bt C 36 dX8_takeCoin_31 (by decide) (n := 34) rfl hk (fun hk => ?_) (fun hk => ?_)
    · refine g_aload_n C 1 dX8_takeCoin_36 rfl rfl (n := 37) rfl ?_
      refine g_getI C kc_16 ft_16_9 (by decide) (by decide) (by decide) wm_296 dX8_takeCoin_37 (n := 40) rfl ?_
      refine g_nm hk (fun x4 hk => ?_)
      refine g_istore_n C [(2, .int x4), (1, .int x1), (0, .ref (rr Θ 16 0 0))] dX8_takeCoin_40 rfl (by decide) rfl (n := 41) rfl ?_
      refine g_aload_n C 2 dX8_takeCoin_41 rfl rfl (n := 42) rfl ?_
      refine g_iconst C (0 : Int32) dX8_takeCoin_42 (by decide) (n := 43) rfl ?_
      refine g_bipush C (7 : Int32) dX8_takeCoin_43 (by decide) (n := 45) rfl ?_
      refine g_cVB C hk (fun K hk => L_X8_takeNumber Θ (0 : Int32) (7 : Int32) h3 K hk) lk_X8_97 kc_16 (by decide) (by decide) ⟨rfl, rfl⟩ ⟨Nat.le_of_ble_eq_true rfl, Nat.le_of_ble_eq_true rfl⟩ dX8_takeCoin_45 rfl rfl (Nat.le_of_ble_eq_true rfl) (n := 48) rfl (fun r5 h6 hk => ?_)
      refine g_bt C 53 dX8_takeCoin_48 (by decide) (n := 51) rfl hk (fun hk => ?_) (fun hk => ?_)
      · refine g_aload_n C 2 dX8_takeCoin_53 rfl rfl (n := 54) rfl ?_
        refine g_getR C kc_16 (rt_16_1 (tB Θ) 0) (by decide) (by decide) (by decide) wm_285 dX8_takeCoin_54 (n := 57) rfl ?_
        refine g_iload_n C 0 dX8_takeCoin_57 rfl rfl (n := 58) rfl ?_
        refine g_aload_n C 2 dX8_takeCoin_58 rfl rfl (n := 59) rfl ?_
        refine g_getI C kc_16 ft_16_9 (by decide) (by decide) (by decide) wm_296 dX8_takeCoin_59 (n := 62) rfl ?_
        refine g_cVV C hk (fun K hk => L_X0_addCoin Θ 2 (by decide) x4 (h6 16 9 0 0) h6 K hk) lk_X8_115 kc_1 (by decide) (by decide) ⟨rfl, rfl⟩ ⟨Nat.le_of_ble_eq_true rfl, Nat.le_of_ble_eq_true rfl⟩ dX8_takeCoin_62 rfl rfl (Nat.le_of_ble_eq_true rfl) (n := 65) rfl (fun h7 hk => ?_)
        refine g_aload_n C 2 dX8_takeCoin_65 rfl rfl (n := 66) rfl ?_
        refine g_cVB C hk (fun K hk => L_X8_takeToken Θ h7 K hk) lk_X8_45 kc_16 (by decide) (by decide) ⟨rfl, rfl⟩ ⟨Nat.le_of_ble_eq_true rfl, Nat.le_of_ble_eq_true rfl⟩ dX8_takeCoin_66 rfl rfl (Nat.le_of_ble_eq_true rfl) (n := 69) rfl (fun r8 h9 hk => ?_)
        refine g_bt C 74 dX8_takeCoin_69 (by decide) (n := 72) rfl hk (fun hk => ?_) (fun hk => ?_)
        · refine g_aload_n C 2 dX8_takeCoin_74 rfl rfl (n := 75) rfl ?_
          refine g_ldcS C 3 (by decide) dX8_takeCoin_75 (n := 77) rfl ?_
          refine g_cVBp C hk (fun K hk => L_X8_isName Θ 3 (by decide) h9 K hk) lk_X8_67 kc_16 (by decide) (by decide) ⟨rfl, rfl⟩ ⟨Nat.le_of_ble_eq_true rfl, Nat.le_of_ble_eq_true rfl⟩ dX8_takeCoin_77 rfl rfl (Nat.le_of_ble_eq_true rfl) (n := 80) rfl (fun r10 hk => ?_)
          refine g_bt C 88 dX8_takeCoin_80 (by decide) (n := 83) rfl hk (fun hk => ?_) (fun hk => ?_)
          · refine g_aload_n C 2 dX8_takeCoin_88 rfl rfl (n := 89) rfl ?_
            refine g_getR C kc_16 (rt_16_1 (tB Θ) 0) (by decide) (by decide) (by decide) wm_285 dX8_takeCoin_89 (n := 92) rfl ?_
            refine g_getR C kc_1 (rt_1_3 (tB Θ) 2) (by decide) (by decide) (by decide) wm_170 dX8_takeCoin_92 (n := 95) rfl ?_
            refine g_iload_n C 1 dX8_takeCoin_95 rfl rfl (n := 96) rfl ?_
            refine g_aald C ar_3 (by decide) dX8_takeCoin_96 (n := 97) rfl hk (fun hg11 hk => ?_)
            refine g_iconst C (1 : Int32) dX8_takeCoin_97 (by decide) (n := 98) rfl ?_
            refine g_putI C kc_6 ft_6_1 (by decide) (inb_lt hg11) (by decide) rfl (fitZ (Or.inr rfl)) wm_111 dX8_takeCoin_98 (n := 101) rfl hk (fun h12 hk => ?_)
            refine g_aload_n C 2 dX8_takeCoin_101 rfl rfl (n := 102) rfl ?_
            refine g_cVB C hk (fun K hk => L_X8_takeToken Θ h12 K hk) lk_X8_45 kc_16 (by decide) (by decide) ⟨rfl, rfl⟩ ⟨Nat.le_of_ble_eq_true rfl, Nat.le_of_ble_eq_true rfl⟩ dX8_takeCoin_102 rfl rfl (Nat.le_of_ble_eq_true rfl) (n := 105) rfl (fun r13 h14 hk => ?_)
            refine g_bf C 119 dX8_takeCoin_105 (by decide) (n := 108) rfl hk (fun hk => ?_) (fun hk => ?_)
            · refine g_iconst C (0 : Int32) dX8_takeCoin_119 (by decide) (n := 120) rfl ?_
              exact retB false rfl hk.out dX8_takeCoin_120
            · refine g_aload_n C 2 dX8_takeCoin_108 rfl rfl (n := 109) rfl ?_
              refine g_cVB C hk (fun K hk => L_X8_endsLine Θ h14 K hk) lk_X8_105 kc_16 (by decide) (by decide) ⟨rfl, rfl⟩ ⟨Nat.le_of_ble_eq_true rfl, Nat.le_of_ble_eq_true rfl⟩ dX8_takeCoin_109 rfl rfl (Nat.le_of_ble_eq_true rfl) (n := 112) rfl (fun r15 h16 hk => ?_)
              refine g_bf C 119 dX8_takeCoin_112 (by decide) (n := 115) rfl hk (fun hk => ?_) (fun hk => ?_)
              · refine g_iconst C (0 : Int32) dX8_takeCoin_119 (by decide) (n := 120) rfl ?_
                exact retB false rfl hk.out dX8_takeCoin_120
              · refine g_iconst C (1 : Int32) dX8_takeCoin_115 (by decide) (n := 116) rfl ?_
                refine g_goto C 120 dX8_takeCoin_116 (by decide) ?_
                exact retB true rfl hk.out dX8_takeCoin_120
          · refine g_aload_n C 2 dX8_takeCoin_83 rfl rfl (n := 84) rfl ?_
            refine g_cVB C hk (fun K hk => L_X8_endsLine Θ h9 K hk) lk_X8_105 kc_16 (by decide) (by decide) ⟨rfl, rfl⟩ ⟨Nat.le_of_ble_eq_true rfl, Nat.le_of_ble_eq_true rfl⟩ dX8_takeCoin_84 rfl rfl (Nat.le_of_ble_eq_true rfl) (n := 87) rfl (fun r17 h18 hk => ?_)
            exact retB r17 rfl hk.out dX8_takeCoin_87
        · refine g_iconst C (0 : Int32) dX8_takeCoin_72 (by decide) (n := 73) rfl ?_
          exact retB false rfl hk.out dX8_takeCoin_73
      · refine g_iconst C (0 : Int32) dX8_takeCoin_51 (by decide) (n := 52) rfl ?_
        exact retB false rfl hk.out dX8_takeCoin_52
    · refine g_iconst C (0 : Int32) dX8_takeCoin_34 (by decide) (n := 35) rfl ?_
      exact retB false rfl hk.out dX8_takeCoin_35
  · refine g_aload_n C 1 dX8_takeCoin_14 rfl rfl (n := 15) rfl ?_
    refine g_iconst C (5 : Int32) dX8_takeCoin_15 (by decide) (n := 16) rfl ?_
    refine g_aload_n C 1 dX8_takeCoin_16 rfl rfl (n := 17) rfl ?_
    refine g_getI C kc_16 ft_16_7 (by decide) (by decide) (by decide) wm_294 dX8_takeCoin_17 (n := 20) rfl ?_
    refine g_cVB C hk (fun K hk => L_X8_refuse Θ (5 : Int32) (h 16 7 0 0) h K hk) lk_X8_61 kc_16 (by decide) (by decide) ⟨rfl, rfl⟩ ⟨Nat.le_of_ble_eq_true rfl, Nat.le_of_ble_eq_true rfl⟩ dX8_takeCoin_20 rfl rfl (Nat.le_of_ble_eq_true rfl) (n := 23) rfl (fun r19 h20 hk => ?_)
    exact retB r19 rfl hk.out dX8_takeCoin_23
def f_X8_takeCrab  (h : Mem) : Option (Bool × Mem) := (if (h 1 4 2 0) < (4 : Int32) then ob2 (f_X8_takeToken h) (fun r1 h2 => (if r1 = true then obd (f_X8_isName 5 h2) (fun r3 => obd ((if r3 = true then some (.inr h2) else obd (f_X8_isName 6 h2) (fun r7 => (if r7 = true then some (.inr h2) else ob2 (f_X8_refuse (2 : Int32) (h2 16 7 0 0) h2) (fun r8 h9 => some (.inl (r8, h9))))))) (Sum.elim (fun r => some r) (fun a10 => ob2 (f_X8_takeNumber (1 : Int32) (9 : Int32) a10) (fun r11 h12 => (if r11 = true then bnd (h12 16 9 0 0) (fun x13 => ob2 (f_X8_takeNumber (1 : Int32) (9 : Int32) h12) (fun r14 h15 => (if r14 = true then bnd (h15 16 9 0 0) (fun x16 => ob2 (f_X8_takeNumber (0 : Int32) (7 : Int32) h15) (fun r17 h18 => (if r17 = true then obd (f_X9_asNumber r3 h18) (fun r19 => obd (f_X0_addCrab 2 r19 x13 x16 (h18 16 9 0 0) h18) (fun h20 => ob2 (f_X8_takeToken h20) (fun r21 h22 => (if r21 = true then ob2 (f_X8_endsLine h22) (fun r23 h24 => (if r23 = true then some (true, h24) else some (false, h24))) else some (false, h22))))) else some (false, h18)))) else some (false, h15)))) else some (false, h12)))))) else some (false, h2))) else ob2 (f_X8_refuse (5 : Int32) (h 16 7 0 0) h) (fun r25 h26 => some (r25, h26)))
def rm_X8_takeCrab : Room := { frames := 5, cells := 0, slots := 0, locals := 107 }
set_option maxHeartbeats 4000000 in
set_option maxRecDepth 100000 in
theorem L_X8_takeCrab (Θ : Tht)  (h : Mem) (K : Bool × Mem → Prop) (hk : Ok (f_X8_takeCrab  h) K) : CB Θ yX8_takeCrab cX8_takeCrab 4 (some .boolean) rm_X8_takeCrab [.ref (rr Θ 16 0 0)] h K := by
  refine CB.of K [(0, .ref (rr Θ 16 0 0))] (plainFor_of_name (by decide)) (Nat.le_of_ble_eq_true rfl) rfl (fun Γ C Rt => ?_)
  replace hk := rtB Rt hk
  unfold f_X8_takeCrab at hk
  refine g_aload_n C 0 dX8_takeCrab_0 rfl rfl (n := 1) rfl ?_
  refine g_getR C kc_16 (rt_16_1 (tB Θ) 0) (by decide) (by decide) (by decide) wm_285 dX8_takeCrab_1 (n := 4) rfl ?_
  refine g_getI C kc_1 ft_1_4 (by decide) (by decide) (by decide) wm_175 dX8_takeCrab_4 (n := 7) rfl ?_
  refine g_iconst C (4 : Int32) dX8_takeCrab_7 (by decide) (n := 8) rfl ?_
  refine g_ic_lt C 21 dX8_takeCrab_8 (by decide) (n := 11) rfl hk (fun hk => ?_) (fun hk => ?_)
  · refine g_aload_n C 0 dX8_takeCrab_21 rfl rfl (n := 22) rfl ?_
    refine g_cVB C hk (fun K hk => L_X8_takeToken Θ h K hk) lk_X8_45 kc_16 (by decide) (by decide) ⟨rfl, rfl⟩ ⟨Nat.le_of_ble_eq_true rfl, Nat.le_of_ble_eq_true rfl⟩ dX8_takeCrab_22 rfl rfl (Nat.le_of_ble_eq_true rfl) (n := 25) rfl (fun r1 h2 hk => ?_)
    refine g_bt C 30 dX8_takeCrab_25 (by decide) (n := 28) rfl hk (fun hk => ?_) (fun hk => ?_)
    · refine g_aload_n C 0 dX8_takeCrab_30 rfl rfl (n := 31) rfl ?_
      refine g_ldcS C 5 (by decide) dX8_takeCrab_31 (n := 33) rfl ?_
      refine g_cVBp C hk (fun K hk => L_X8_isName Θ 5 (by decide) h2 K hk) lk_X8_67 kc_16 (by decide) (by decide) ⟨rfl, rfl⟩ ⟨Nat.le_of_ble_eq_true rfl, Nat.le_of_ble_eq_true rfl⟩ dX8_takeCrab_33 rfl rfl (Nat.le_of_ble_eq_true rfl) (n := 36) rfl (fun r3 hk => ?_)
      refine g_istore_n C [(1, .int (b2i r3)), (0, .ref (rr Θ 16 0 0))] dX8_takeCrab_36 rfl (by decide) rfl (n := 37) rfl ?_
      refine g_iload_n C 0 dX8_takeCrab_37 rfl rfl (n := 38) rfl ?_
      refine Ok.join hk (Sum.elim (PB Θ Γ cX8_takeCrab) (fun a10 => G Θ Γ 60 [(0, .ref (rr Θ 16 0 0)), (1, .int (b2i r3))] [] a10)) (fun e hk => ?_) (fun hk => ?_)
      · rcases e with r | a10
        · exact hk.out
        · replace hk := ok_inr hk
          refine g_aload_n C 0 dX8_takeCrab_60 rfl rfl (n := 61) rfl ?_
          refine g_iconst C (1 : Int32) dX8_takeCrab_61 (by decide) (n := 62) rfl ?_
          refine g_bipush C (9 : Int32) dX8_takeCrab_62 (by decide) (n := 64) rfl ?_
          refine g_cVB C hk (fun K hk => L_X8_takeNumber Θ (1 : Int32) (9 : Int32) a10 K hk) lk_X8_97 kc_16 (by decide) (by decide) ⟨rfl, rfl⟩ ⟨Nat.le_of_ble_eq_true rfl, Nat.le_of_ble_eq_true rfl⟩ dX8_takeCrab_64 rfl rfl (Nat.le_of_ble_eq_true rfl) (n := 67) rfl (fun r11 h12 hk => ?_)
          refine g_bt C 72 dX8_takeCrab_67 (by decide) (n := 70) rfl hk (fun hk => ?_) (fun hk => ?_)
          · refine g_aload_n C 0 dX8_takeCrab_72 rfl rfl (n := 73) rfl ?_
            refine g_getI C kc_16 ft_16_9 (by decide) (by decide) (by decide) wm_296 dX8_takeCrab_73 (n := 76) rfl ?_
            refine g_nm hk (fun x13 hk => ?_)
            refine g_istore_n C [(2, .int x13), (0, .ref (rr Θ 16 0 0)), (1, .int (b2i r3))] dX8_takeCrab_76 rfl (by decide) rfl (n := 77) rfl ?_
            refine g_aload_n C 1 dX8_takeCrab_77 rfl rfl (n := 78) rfl ?_
            refine g_iconst C (1 : Int32) dX8_takeCrab_78 (by decide) (n := 79) rfl ?_
            refine g_bipush C (9 : Int32) dX8_takeCrab_79 (by decide) (n := 81) rfl ?_
            refine g_cVB C hk (fun K hk => L_X8_takeNumber Θ (1 : Int32) (9 : Int32) h12 K hk) lk_X8_97 kc_16 (by decide) (by decide) ⟨rfl, rfl⟩ ⟨Nat.le_of_ble_eq_true rfl, Nat.le_of_ble_eq_true rfl⟩ dX8_takeCrab_81 rfl rfl (Nat.le_of_ble_eq_true rfl) (n := 84) rfl (fun r14 h15 hk => ?_)
            refine g_bt C 89 dX8_takeCrab_84 (by decide) (n := 87) rfl hk (fun hk => ?_) (fun hk => ?_)
            · refine g_aload_n C 1 dX8_takeCrab_89 rfl rfl (n := 90) rfl ?_
              refine g_getI C kc_16 ft_16_9 (by decide) (by decide) (by decide) wm_296 dX8_takeCrab_90 (n := 93) rfl ?_
              refine g_nm hk (fun x16 hk => ?_)
              refine g_istore_n C [(3, .int x16), (2, .int x13), (0, .ref (rr Θ 16 0 0)), (1, .int (b2i r3))] dX8_takeCrab_93 rfl (by decide) rfl (n := 94) rfl ?_
              refine g_aload_n C 2 dX8_takeCrab_94 rfl rfl (n := 95) rfl ?_
              refine g_iconst C (0 : Int32) dX8_takeCrab_95 (by decide) (n := 96) rfl ?_
              refine g_bipush C (7 : Int32) dX8_takeCrab_96 (by decide) (n := 98) rfl ?_
              refine g_cVB C hk (fun K hk => L_X8_takeNumber Θ (0 : Int32) (7 : Int32) h15 K hk) lk_X8_97 kc_16 (by decide) (by decide) ⟨rfl, rfl⟩ ⟨Nat.le_of_ble_eq_true rfl, Nat.le_of_ble_eq_true rfl⟩ dX8_takeCrab_98 rfl rfl (Nat.le_of_ble_eq_true rfl) (n := 101) rfl (fun r17 h18 hk => ?_)
              refine g_bt C 106 dX8_takeCrab_101 (by decide) (n := 104) rfl hk (fun hk => ?_) (fun hk => ?_)
              · refine g_aload_n C 2 dX8_takeCrab_106 rfl rfl (n := 107) rfl ?_
                refine g_getR C kc_16 (rt_16_1 (tB Θ) 0) (by decide) (by decide) (by decide) wm_285 dX8_takeCrab_107 (n := 110) rfl ?_
                refine g_iload_n C 3 dX8_takeCrab_110 rfl rfl (n := 111) rfl ?_
                refine g_cNIp C hk (fun K hk => L_X9_asNumber Θ r3 h18 K hk) lk_X8_137 ⟨rfl, rfl⟩ ⟨Nat.le_of_ble_eq_true rfl, Nat.le_of_ble_eq_true rfl⟩ dX8_takeCrab_111 rfl rfl (Nat.le_of_ble_eq_true rfl) (n := 114) rfl (fun r19 hk => ?_)
                refine g_iload_n C 1 dX8_takeCrab_114 rfl rfl (n := 115) rfl ?_
                refine g_iload_n C 0 dX8_takeCrab_115 rfl rfl (n := 116) rfl ?_
                refine g_aload_n C 2 dX8_takeCrab_116 rfl rfl (n := 117) rfl ?_
                refine g_getI C kc_16 ft_16_9 (by decide) (by decide) (by decide) wm_296 dX8_takeCrab_117 (n := 120) rfl ?_
                refine g_cVV C hk (fun K hk => L_X0_addCrab Θ 2 (by decide) r19 x13 x16 (h18 16 9 0 0) h18 K hk) lk_X8_141 kc_1 (by decide) (by decide) ⟨rfl, rfl⟩ ⟨Nat.le_of_ble_eq_true rfl, Nat.le_of_ble_eq_true rfl⟩ dX8_takeCrab_120 rfl rfl (Nat.le_of_ble_eq_true rfl) (n := 123) rfl (fun h20 hk => ?_)
                refine g_aload_n C 2 dX8_takeCrab_123 rfl rfl (n := 124) rfl ?_
                refine g_cVB C hk (fun K hk => L_X8_takeToken Θ h20 K hk) lk_X8_45 kc_16 (by decide) (by decide) ⟨rfl, rfl⟩ ⟨Nat.le_of_ble_eq_true rfl, Nat.le_of_ble_eq_true rfl⟩ dX8_takeCrab_124 rfl rfl (Nat.le_of_ble_eq_true rfl) (n := 127) rfl (fun r21 h22 hk => ?_)
                refine g_bf C 141 dX8_takeCrab_127 (by decide) (n := 130) rfl hk (fun hk => ?_) (fun hk => ?_)
                · refine g_iconst C (0 : Int32) dX8_takeCrab_141 (by decide) (n := 142) rfl ?_
                  exact retB false rfl hk.out dX8_takeCrab_142
                · refine g_aload_n C 2 dX8_takeCrab_130 rfl rfl (n := 131) rfl ?_
                  refine g_cVB C hk (fun K hk => L_X8_endsLine Θ h22 K hk) lk_X8_105 kc_16 (by decide) (by decide) ⟨rfl, rfl⟩ ⟨Nat.le_of_ble_eq_true rfl, Nat.le_of_ble_eq_true rfl⟩ dX8_takeCrab_131 rfl rfl (Nat.le_of_ble_eq_true rfl) (n := 134) rfl (fun r23 h24 hk => ?_)
                  refine g_bf C 141 dX8_takeCrab_134 (by decide) (n := 137) rfl hk (fun hk => ?_) (fun hk => ?_)
                  · refine g_iconst C (0 : Int32) dX8_takeCrab_141 (by decide) (n := 142) rfl ?_
                    exact retB false rfl hk.out dX8_takeCrab_142
                  · refine g_iconst C (1 : Int32) dX8_takeCrab_137 (by decide) (n := 138) rfl ?_
                    refine g_goto C 142 dX8_takeCrab_138 (by decide) ?_
                    exact retB true rfl hk.out dX8_takeCrab_142
              · refine g_iconst C (0 : Int32) dX8_takeCrab_104 (by decide) (n := 105) rfl ?_
                exact retB false rfl hk.out dX8_takeCrab_105
            · refine g_iconst C (0 : Int32) dX8_takeCrab_87 (by decide) (n := 88) rfl ?_
              exact retB false rfl hk.out dX8_takeCrab_88
          · refine g_iconst C (0 : Int32) dX8_takeCrab_70 (by decide) (n := 71) rfl ?_
            exact retB false rfl hk.out dX8_takeCrab_71
      · refine g_bt C 60 dX8_takeCrab_38 (by decide) (n := 41) rfl hk (fun hk => ?_) (fun hk => ?_)
        · refine g_lv [1, 0] [(0, .ref (rr Θ 16 0 0)), (1, .int (b2i r3))] rfl ?_
          exact hk.out
        · refine g_aload_n C 1 dX8_takeCrab_41 rfl rfl (n := 42) rfl ?_
          refine g_ldcS C 6 (by decide) dX8_takeCrab_42 (n := 44) rfl ?_
          refine g_cVBp C hk (fun K hk => L_X8_isName Θ 6 (by decide) h2 K hk) lk_X8_67 kc_16 (by decide) (by decide) ⟨rfl, rfl⟩ ⟨Nat.le_of_ble_eq_true rfl, Nat.le_of_ble_eq_true rfl⟩ dX8_takeCrab_44 rfl rfl (Nat.le_of_ble_eq_true rfl) (n := 47) rfl (fun r7 hk => ?_)
          refine g_bt C 60 dX8_takeCrab_47 (by decide) (n := 50) rfl hk (fun hk => ?_) (fun hk => ?_)
          · refine g_lv [1, 0] [(0, .ref (rr Θ 16 0 0)), (1, .int (b2i r3))] rfl ?_
            exact hk.out
          · refine g_aload_n C 1 dX8_takeCrab_50 rfl rfl (n := 51) rfl ?_
            refine g_iconst C (2 : Int32) dX8_takeCrab_51 (by decide) (n := 52) rfl ?_
            refine g_aload_n C 1 dX8_takeCrab_52 rfl rfl (n := 53) rfl ?_
            refine g_getI C kc_16 ft_16_7 (by decide) (by decide) (by decide) wm_294 dX8_takeCrab_53 (n := 56) rfl ?_
            refine g_cVB C hk (fun K hk => L_X8_refuse Θ (2 : Int32) (h2 16 7 0 0) h2 K hk) lk_X8_61 kc_16 (by decide) (by decide) ⟨rfl, rfl⟩ ⟨Nat.le_of_ble_eq_true rfl, Nat.le_of_ble_eq_true rfl⟩ dX8_takeCrab_56 rfl rfl (Nat.le_of_ble_eq_true rfl) (n := 59) rfl (fun r8 h9 hk => ?_)
            exact retB r8 rfl hk.out dX8_takeCrab_59
    · refine g_iconst C (0 : Int32) dX8_takeCrab_28 (by decide) (n := 29) rfl ?_
      exact retB false rfl hk.out dX8_takeCrab_29
  · refine g_aload_n C 0 dX8_takeCrab_11 rfl rfl (n := 12) rfl ?_
    refine g_iconst C (5 : Int32) dX8_takeCrab_12 (by decide) (n := 13) rfl ?_
    refine g_aload_n C 0 dX8_takeCrab_13 rfl rfl (n := 14) rfl ?_
    refine g_getI C kc_16 ft_16_7 (by decide) (by decide) (by decide) wm_294 dX8_takeCrab_14 (n := 17) rfl ?_
    refine g_cVB C hk (fun K hk => L_X8_refuse Θ (5 : Int32) (h 16 7 0 0) h K hk) lk_X8_61 kc_16 (by decide) (by decide) ⟨rfl, rfl⟩ ⟨Nat.le_of_ble_eq_true rfl, Nat.le_of_ble_eq_true rfl⟩ dX8_takeCrab_17 rfl rfl (Nat.le_of_ble_eq_true rfl) (n := 20) rfl (fun r25 h26 hk => ?_)
    exact retB r25 rfl hk.out dX8_takeCrab_20
def f_X8_takeLine  (h : Mem) : Option (Bool × Mem) := obd (f_X8_isName 0 h) (fun r1 => (if r1 = true then ob2 (f_X8_takePlaces h) (fun r16 h17 => some (r16, h17)) else obd (f_X8_isName 1 h) (fun r2 => (if r2 = true then ob2 (f_X8_takeHole h) (fun r14 h15 => some (r14, h15)) else obd (f_X8_isName 2 h) (fun r3 => (if r3 = true then ob2 (f_X8_takeCoin h) (fun r12 h13 => some (r12, h13)) else obd (f_X8_isName 4 h) (fun r4 => (if r4 = true then ob2 (f_X8_takeCrab h) (fun r10 h11 => some (r10, h11)) else obd (f_X8_isName 7 h) (fun r5 => (if r5 = true then ob2 (f_X8_takeTide h) (fun r8 h9 => some (r8, h9)) else ob2 (f_X8_refuse (2 : Int32) (h 16 7 0 0) h) (fun r6 h7 => some (r6, h7))))))))))))
def rm_X8_takeLine : Room := { frames := 6, cells := 0, slots := 0, locals := 130 }
set_option maxHeartbeats 4000000 in
set_option maxRecDepth 100000 in
theorem L_X8_takeLine (Θ : Tht)  (h : Mem) (K : Bool × Mem → Prop) (hk : Ok (f_X8_takeLine  h) K) : CB Θ yX8_takeLine cX8_takeLine 1 (some .boolean) rm_X8_takeLine [.ref (rr Θ 16 0 0)] h K := by
  refine CB.of K [(0, .ref (rr Θ 16 0 0))] (plainFor_of_name (by decide)) (Nat.le_of_ble_eq_true rfl) rfl (fun Γ C Rt => ?_)
  replace hk := rtB Rt hk
  unfold f_X8_takeLine at hk
  refine g_aload_n C 0 dX8_takeLine_0 rfl rfl (n := 1) rfl ?_
  refine g_ldcS C 0 (by decide) dX8_takeLine_1 (n := 3) rfl ?_
  refine g_cVBp C hk (fun K hk => L_X8_isName Θ 0 (by decide) h K hk) lk_X8_67 kc_16 (by decide) (by decide) ⟨rfl, rfl⟩ ⟨Nat.le_of_ble_eq_true rfl, Nat.le_of_ble_eq_true rfl⟩ dX8_takeLine_3 rfl rfl (Nat.le_of_ble_eq_true rfl) (n := 6) rfl (fun r1 hk => ?_)
  refine g_bf C 14 dX8_takeLine_6 (by decide) (n := 9) rfl hk (fun hk => ?_) (fun hk => ?_)
  · refine g_aload_n C 0 dX8_takeLine_14 rfl rfl (n := 15) rfl ?_
    refine g_ldcS C 1 (by decide) dX8_takeLine_15 (n := 17) rfl ?_
    refine g_cVBp C hk (fun K hk => L_X8_isName Θ 1 (by decide) h K hk) lk_X8_67 kc_16 (by decide) (by decide) ⟨rfl, rfl⟩ ⟨Nat.le_of_ble_eq_true rfl, Nat.le_of_ble_eq_true rfl⟩ dX8_takeLine_17 rfl rfl (Nat.le_of_ble_eq_true rfl) (n := 20) rfl (fun r2 hk => ?_)
    refine g_bf C 28 dX8_takeLine_20 (by decide) (n := 23) rfl hk (fun hk => ?_) (fun hk => ?_)
    · refine g_aload_n C 0 dX8_takeLine_28 rfl rfl (n := 29) rfl ?_
      refine g_ldcS C 2 (by decide) dX8_takeLine_29 (n := 31) rfl ?_
      refine g_cVBp C hk (fun K hk => L_X8_isName Θ 2 (by decide) h K hk) lk_X8_67 kc_16 (by decide) (by decide) ⟨rfl, rfl⟩ ⟨Nat.le_of_ble_eq_true rfl, Nat.le_of_ble_eq_true rfl⟩ dX8_takeLine_31 rfl rfl (Nat.le_of_ble_eq_true rfl) (n := 34) rfl (fun r3 hk => ?_)
      refine g_bf C 42 dX8_takeLine_34 (by decide) (n := 37) rfl hk (fun hk => ?_) (fun hk => ?_)
      · refine g_aload_n C 0 dX8_takeLine_42 rfl rfl (n := 43) rfl ?_
        refine g_ldcS C 4 (by decide) dX8_takeLine_43 (n := 45) rfl ?_
        refine g_cVBp C hk (fun K hk => L_X8_isName Θ 4 (by decide) h K hk) lk_X8_67 kc_16 (by decide) (by decide) ⟨rfl, rfl⟩ ⟨Nat.le_of_ble_eq_true rfl, Nat.le_of_ble_eq_true rfl⟩ dX8_takeLine_45 rfl rfl (Nat.le_of_ble_eq_true rfl) (n := 48) rfl (fun r4 hk => ?_)
        refine g_bf C 56 dX8_takeLine_48 (by decide) (n := 51) rfl hk (fun hk => ?_) (fun hk => ?_)
        · refine g_aload_n C 0 dX8_takeLine_56 rfl rfl (n := 57) rfl ?_
          refine g_ldcS C 7 (by decide) dX8_takeLine_57 (n := 59) rfl ?_
          refine g_cVBp C hk (fun K hk => L_X8_isName Θ 7 (by decide) h K hk) lk_X8_67 kc_16 (by decide) (by decide) ⟨rfl, rfl⟩ ⟨Nat.le_of_ble_eq_true rfl, Nat.le_of_ble_eq_true rfl⟩ dX8_takeLine_59 rfl rfl (Nat.le_of_ble_eq_true rfl) (n := 62) rfl (fun r5 hk => ?_)
          refine g_bf C 70 dX8_takeLine_62 (by decide) (n := 65) rfl hk (fun hk => ?_) (fun hk => ?_)
          · refine g_aload_n C 0 dX8_takeLine_70 rfl rfl (n := 71) rfl ?_
            refine g_iconst C (2 : Int32) dX8_takeLine_71 (by decide) (n := 72) rfl ?_
            refine g_aload_n C 0 dX8_takeLine_72 rfl rfl (n := 73) rfl ?_
            refine g_getI C kc_16 ft_16_7 (by decide) (by decide) (by decide) wm_294 dX8_takeLine_73 (n := 76) rfl ?_
            refine g_cVB C hk (fun K hk => L_X8_refuse Θ (2 : Int32) (h 16 7 0 0) h K hk) lk_X8_61 kc_16 (by decide) (by decide) ⟨rfl, rfl⟩ ⟨Nat.le_of_ble_eq_true rfl, Nat.le_of_ble_eq_true rfl⟩ dX8_takeLine_76 rfl rfl (Nat.le_of_ble_eq_true rfl) (n := 79) rfl (fun r6 h7 hk => ?_)
            exact retB r6 rfl hk.out dX8_takeLine_79
          · refine g_aload_n C 0 dX8_takeLine_65 rfl rfl (n := 66) rfl ?_
            refine g_cVB C hk (fun K hk => L_X8_takeTide Θ h K hk) lk_X8_91 kc_16 (by decide) (by decide) ⟨rfl, rfl⟩ ⟨Nat.le_of_ble_eq_true rfl, Nat.le_of_ble_eq_true rfl⟩ dX8_takeLine_66 rfl rfl (Nat.le_of_ble_eq_true rfl) (n := 69) rfl (fun r8 h9 hk => ?_)
            exact retB r8 rfl hk.out dX8_takeLine_69
        · refine g_aload_n C 0 dX8_takeLine_51 rfl rfl (n := 52) rfl ?_
          refine g_cVB C hk (fun K hk => L_X8_takeCrab Θ h K hk) lk_X8_86 kc_16 (by decide) (by decide) ⟨rfl, rfl⟩ ⟨Nat.le_of_ble_eq_true rfl, Nat.le_of_ble_eq_true rfl⟩ dX8_takeLine_52 rfl rfl (Nat.le_of_ble_eq_true rfl) (n := 55) rfl (fun r10 h11 hk => ?_)
          exact retB r10 rfl hk.out dX8_takeLine_55
      · refine g_aload_n C 0 dX8_takeLine_37 rfl rfl (n := 38) rfl ?_
        refine g_cVB C hk (fun K hk => L_X8_takeCoin Θ h K hk) lk_X8_81 kc_16 (by decide) (by decide) ⟨rfl, rfl⟩ ⟨Nat.le_of_ble_eq_true rfl, Nat.le_of_ble_eq_true rfl⟩ dX8_takeLine_38 rfl rfl (Nat.le_of_ble_eq_true rfl) (n := 41) rfl (fun r12 h13 hk => ?_)
        exact retB r12 rfl hk.out dX8_takeLine_41
    · refine g_aload_n C 0 dX8_takeLine_23 rfl rfl (n := 24) rfl ?_
      refine g_cVB C hk (fun K hk => L_X8_takeHole Θ h K hk) lk_X8_76 kc_16 (by decide) (by decide) ⟨rfl, rfl⟩ ⟨Nat.le_of_ble_eq_true rfl, Nat.le_of_ble_eq_true rfl⟩ dX8_takeLine_24 rfl rfl (Nat.le_of_ble_eq_true rfl) (n := 27) rfl (fun r14 h15 hk => ?_)
      exact retB r14 rfl hk.out dX8_takeLine_27
  · refine g_aload_n C 0 dX8_takeLine_9 rfl rfl (n := 10) rfl ?_
    refine g_cVB C hk (fun K hk => L_X8_takePlaces Θ h K hk) lk_X8_71 kc_16 (by decide) (by decide) ⟨rfl, rfl⟩ ⟨Nat.le_of_ble_eq_true rfl, Nat.le_of_ble_eq_true rfl⟩ dX8_takeLine_10 rfl rfl (Nat.le_of_ble_eq_true rfl) (n := 13) rfl (fun r16 h17 hk => ?_)
    exact retB r16 rfl hk.out dX8_takeLine_13
def f_X8_tellAll  (h : Mem) : Option (Int32 × Mem) := obd (f_X0_clear 2 h) (fun h1 => bnd (up h1 16 2 0 0 (0 : Int32)) (fun h2 => bnd (up h2 16 3 0 0 (0 : Int32)) (fun h3 => bnd (up h3 16 4 0 0 (0 : Int32)) (fun h4 => bnd (up h4 16 5 0 0 (0 : Int32)) (fun h5 => bnd (up h5 16 8 0 0 (0 : Int32)) (fun h6 => obd (lp fu (fun a19 => (if (320 : Int32) ≤ a19.1 then some (.inr (a19.1, a19.2)) else ob2 (f_X8_takeToken a19.2) (fun r20 h21 => (if r20 = true then (if (h21 16 6 0 0) = 0 then some (.inr (a19.1, h21)) else ob2 (f_X8_takeLine h21) (fun r22 h23 => (if r22 = true then bnd (a19.1 + (1 : Int32)) (fun x24 => some (.inl (x24, h23))) else some (.inr (a19.1, h23))))) else some (.inr (a19.1, h21)))))) ((0 : Int32), h6)) (fun e25 => (if (e25.2 16 2 0 0) = 0 then obd (f_X0_hasItsPlaces 2 e25.2) (fun r26 => (if r26 = true then some (e25.1, e25.2) else ob2 (f_X8_refuse (6 : Int32) (e25.2 17 1 0 0) e25.2) (fun r27 h28 => some (e25.1, h28)))) else some (e25.1, e25.2)))))))))
def rm_X8_tellAll : Room := { frames := 7, cells := 0, slots := 0, locals := 150 }
set_option maxHeartbeats 4000000 in
set_option maxRecDepth 100000 in
theorem L_X8_tellAll (Θ : Tht)  (h : Mem) (K : Int32 × Mem → Prop) (hk : Ok (f_X8_tellAll  h) K) : CI Θ yX8_tellAll cX8_tellAll 2 (some .int) rm_X8_tellAll [.ref (rr Θ 16 0 0)] h K := by
  refine CI.of K [(0, .ref (rr Θ 16 0 0))] (plainFor_of_name (by decide)) (Nat.le_of_ble_eq_true rfl) rfl (fun Γ C Rt => ?_)
  replace hk := rtI Rt hk
  unfold f_X8_tellAll at hk
  refine g_aload_n C 0 dX8_tellAll_0 rfl rfl (n := 1) rfl ?_
  refine g_getR C kc_16 (rt_16_1 (tB Θ) 0) (by decide) (by decide) (by decide) wm_285 dX8_tellAll_1 (n := 4) rfl ?_
  refine g_cVV C hk (fun K hk => L_X0_clear Θ 2 (by decide) h K hk) lk_X8_25 kc_1 (by decide) (by decide) ⟨rfl, rfl⟩ ⟨Nat.le_of_ble_eq_true rfl, Nat.le_of_ble_eq_true rfl⟩ dX8_tellAll_4 rfl rfl (Nat.le_of_ble_eq_true rfl) (n := 7) rfl (fun h1 hk => ?_)
  refine g_aload_n C 0 dX8_tellAll_7 rfl rfl (n := 8) rfl ?_
  refine g_iconst C (0 : Int32) dX8_tellAll_8 (by decide) (n := 9) rfl ?_
  refine g_putI C kc_16 ft_16_2 (by decide) (by decide) (by decide) rfl (fitI _) wm_287 dX8_tellAll_9 (n := 12) rfl hk (fun h2 hk => ?_)
  refine g_aload_n C 0 dX8_tellAll_12 rfl rfl (n := 13) rfl ?_
  refine g_iconst C (0 : Int32) dX8_tellAll_13 (by decide) (n := 14) rfl ?_
  refine g_putI C kc_16 ft_16_3 (by decide) (by decide) (by decide) rfl (fitI _) wm_289 dX8_tellAll_14 (n := 17) rfl hk (fun h3 hk => ?_)
  refine g_aload_n C 0 dX8_tellAll_17 rfl rfl (n := 18) rfl ?_
  refine g_iconst C (0 : Int32) dX8_tellAll_18 (by decide) (n := 19) rfl ?_
  refine g_putI C kc_16 ft_16_4 (by decide) (by decide) (by decide) rfl (fitZ (Or.inl rfl)) wm_291 dX8_tellAll_19 (n := 22) rfl hk (fun h4 hk => ?_)
  refine g_aload_n C 0 dX8_tellAll_22 rfl rfl (n := 23) rfl ?_
  refine g_iconst C (0 : Int32) dX8_tellAll_23 (by decide) (n := 24) rfl ?_
  refine g_putI C kc_16 ft_16_5 (by decide) (by decide) (by decide) rfl (fitZ (Or.inl rfl)) wm_292 dX8_tellAll_24 (n := 27) rfl hk (fun h5 hk => ?_)
  refine g_aload_n C 0 dX8_tellAll_27 rfl rfl (n := 28) rfl ?_
  refine g_iconst C (0 : Int32) dX8_tellAll_28 (by decide) (n := 29) rfl ?_
  refine g_putI C kc_16 ft_16_8 (by decide) (by decide) (by decide) rfl (fitI _) wm_295 dX8_tellAll_29 (n := 32) rfl hk (fun h6 hk => ?_)
  refine g_iconst C (0 : Int32) dX8_tellAll_32 (by decide) (n := 33) rfl ?_
  refine g_istore_n C [(1, .int (0 : Int32)), (0, .ref (rr Θ 16 0 0))] dX8_tellAll_33 rfl (by decide) rfl (n := 34) rfl ?_
  refine g_lv [1, 0] [(0, .ref (rr Θ 16 0 0)), (1, .int (0 : Int32))] rfl ?_
  refine Ok.join hk (fun e25 => G Θ Γ 68 [(0, .ref (rr Θ 16 0 0)), (1, .int e25.1)] [] e25.2) (fun e25 hk => ?_) (fun hk => ?_)
  · refine g_aload_n C 0 dX8_tellAll_68 rfl rfl (n := 69) rfl ?_
    refine g_getI C kc_16 ft_16_2 (by decide) (by decide) (by decide) wm_287 dX8_tellAll_69 (n := 72) rfl ?_
    refine g_if_ne C 99 dX8_tellAll_72 (by decide) (n := 75) rfl hk (fun hk => ?_) (fun hk => ?_)
    · refine g_iload_n C 1 dX8_tellAll_99 rfl rfl (n := 100) rfl ?_
      exact retI hk.out dX8_tellAll_100
    · refine g_aload_n C 0 dX8_tellAll_75 rfl rfl (n := 76) rfl ?_
      refine g_getR C kc_16 (rt_16_1 (tB Θ) 0) (by decide) (by decide) (by decide) wm_285 dX8_tellAll_76 (n := 79) rfl ?_
      refine g_cVBp C hk (fun K hk => L_X0_hasItsPlaces Θ 2 (by decide) e25.2 K hk) lk_X8_55 kc_1 (by decide) (by decide) ⟨rfl, rfl⟩ ⟨Nat.le_of_ble_eq_true rfl, Nat.le_of_ble_eq_true rfl⟩ dX8_tellAll_79 rfl rfl (Nat.le_of_ble_eq_true rfl) (n := 82) rfl (fun r26 hk => ?_)
      refine g_bt C 99 dX8_tellAll_82 (by decide) (n := 85) rfl hk (fun hk => ?_) (fun hk => ?_)
      · refine g_iload_n C 1 dX8_tellAll_99 rfl rfl (n := 100) rfl ?_
        exact retI hk.out dX8_tellAll_100
      · refine g_aload_n C 0 dX8_tellAll_85 rfl rfl (n := 86) rfl ?_
        refine g_bipush C (6 : Int32) dX8_tellAll_86 (by decide) (n := 88) rfl ?_
        refine g_aload_n C 0 dX8_tellAll_88 rfl rfl (n := 89) rfl ?_
        refine g_getR C kc_16 (rt_16_0 (tB Θ) 0) (by decide) (by decide) (by decide) wm_283 dX8_tellAll_89 (n := 92) rfl ?_
        refine g_getI C kc_17 ft_17_1 (by decide) (by decide) (by decide) wm_274 dX8_tellAll_92 (n := 95) rfl ?_
        refine g_cVB C hk (fun K hk => L_X8_refuse Θ (6 : Int32) (e25.2 17 1 0 0) e25.2 K hk) lk_X8_61 kc_16 (by decide) (by decide) ⟨rfl, rfl⟩ ⟨Nat.le_of_ble_eq_true rfl, Nat.le_of_ble_eq_true rfl⟩ dX8_tellAll_95 rfl rfl (Nat.le_of_ble_eq_true rfl) (n := 98) rfl (fun r27 h28 hk => ?_)
        refine g_pop C dX8_tellAll_98 rfl (n := 99) rfl ?_
        refine g_iload_n C 1 dX8_tellAll_99 rfl rfl (n := 100) rfl ?_
        exact retI hk.out dX8_tellAll_100
  · refine Ok.loop (fun a19 => G Θ Γ 34 [(0, .ref (rr Θ 16 0 0)), (1, .int a19.1)] [] a19.2) (fun a19 hk => ?_) _ _ hk
    refine g_iload_n C 1 dX8_tellAll_34 rfl rfl (n := 35) rfl ?_
    refine g_sipush C (320 : Int32) dX8_tellAll_35 (by decide) (n := 38) rfl ?_
    refine g_ic_ge C 68 dX8_tellAll_38 (by decide) (n := 41) rfl hk (fun hk => ?_) (fun hk => ?_)
    · exact hk.out
    · refine g_aload_n C 0 dX8_tellAll_41 rfl rfl (n := 42) rfl ?_
      refine g_cVB C hk (fun K hk => L_X8_takeToken Θ a19.2 K hk) lk_X8_45 kc_16 (by decide) (by decide) ⟨rfl, rfl⟩ ⟨Nat.le_of_ble_eq_true rfl, Nat.le_of_ble_eq_true rfl⟩ dX8_tellAll_42 rfl rfl (Nat.le_of_ble_eq_true rfl) (n := 45) rfl (fun r20 h21 hk => ?_)
      refine g_bf C 68 dX8_tellAll_45 (by decide) (n := 48) rfl hk (fun hk => ?_) (fun hk => ?_)
      · exact hk.out
      · refine g_aload_n C 0 dX8_tellAll_48 rfl rfl (n := 49) rfl ?_
        refine g_getI C kc_16 ft_16_6 (by decide) (by decide) (by decide) wm_293 dX8_tellAll_49 (n := 52) rfl ?_
        refine g_if_eq C 68 dX8_tellAll_52 (by decide) (n := 55) rfl hk (fun hk => ?_) (fun hk => ?_)
        · exact hk.out
        · refine g_aload_n C 0 dX8_tellAll_55 rfl rfl (n := 56) rfl ?_
          refine g_cVB C hk (fun K hk => L_X8_takeLine Θ h21 K hk) lk_X8_52 kc_16 (by decide) (by decide) ⟨rfl, rfl⟩ ⟨Nat.le_of_ble_eq_true rfl, Nat.le_of_ble_eq_true rfl⟩ dX8_tellAll_56 rfl rfl (Nat.le_of_ble_eq_true rfl) (n := 59) rfl (fun r22 h23 hk => ?_)
          refine g_bf C 68 dX8_tellAll_59 (by decide) (n := 62) rfl hk (fun hk => ?_) (fun hk => ?_)
          · exact hk.out
          · refine g_iinc C 1 (fun x24 => [(1, .int x24), (0, .ref (rr Θ 16 0 0))]) dX8_tellAll_62 rfl (v := (a19.1 + (1 : Int32))) rfl (by decide) (fun _ => rfl) (n := 65) rfl hk (fun x24 hk => ?_)
            refine g_goto C 34 dX8_tellAll_65 (by decide) ?_
            refine g_lv [1, 0] [(0, .ref (rr Θ 16 0 0)), (1, .int x24)] rfl ?_
            exact hk.out
def f_X9_text  (h : Mem) : Option (Int32 × Mem) := ob2 (f_X8_tellAll h) (fun r1 h2 => bnd (up h2 17 1 0 0 (0 : Int32)) (fun h3 => (if (h3 16 2 0 0) = 0 then obd (f_X0_copyFrom 0 2 h3) (fun h4 => bnd (up h4 8 0 0 0 (0 : Int32)) (fun h5 => obd (lp fu (fun a14 => (if (2 : Int32) ≤ a14.1 then some (.inr a14.2) else gd (inb a14.1 2) (bnd (up a14.2 20 0 a14.1.toNatClampNeg 0 (0 : Int32)) (fun h16 => bnd (a14.1 + (1 : Int32)) (fun x17 => some (.inl (x17, h16))))))) ((0 : Int32), h5)) (fun e18 => some (r1, e18)))) else some (((-10 : Int32) - (h3 16 3 0 0)), h3))))
def rm_X9_text : Room := { frames := 8, cells := 0, slots := 0, locals := 171 }
set_option maxHeartbeats 4000000 in
set_option maxRecDepth 100000 in
theorem L_X9_text (Θ : Tht)  (h : Mem) (K : Int32 × Mem → Prop) (hk : Ok (f_X9_text  h) K) : CI Θ yX9_text cX9_text 3 (some .int) rm_X9_text [.ref (rr Θ 0 0 0)] h K := by
  refine CI.of K [(0, .ref (rr Θ 0 0 0))] (plainFor_of_name (by decide)) (Nat.le_of_ble_eq_true rfl) rfl (fun Γ C Rt => ?_)
  replace hk := rtI Rt hk
  unfold f_X9_text at hk
  refine g_aload_n C 0 dX9_text_0 rfl rfl (n := 1) rfl ?_
  refine g_getR C kc_0 (rt_0_4 (tB Θ) 0) (by decide) (by decide) (by decide) wm_366 dX9_text_1 (n := 4) rfl ?_
  refine g_cVI C hk (fun K hk => L_X8_tellAll Θ h K hk) lk_X9_73 kc_16 (by decide) (by decide) ⟨rfl, rfl⟩ ⟨Nat.le_of_ble_eq_true rfl, Nat.le_of_ble_eq_true rfl⟩ dX9_text_4 rfl rfl (Nat.le_of_ble_eq_true rfl) (n := 7) rfl (fun r1 h2 hk => ?_)
  refine g_istore_n C [(1, .int r1), (0, .ref (rr Θ 0 0 0))] dX9_text_7 rfl (by decide) rfl (n := 8) rfl ?_
  refine g_aload_n C 1 dX9_text_8 rfl rfl (n := 9) rfl ?_
  refine g_getR C kc_0 (rt_0_5 (tB Θ) 0) (by decide) (by decide) (by decide) wm_367 dX9_text_9 (n := 12) rfl ?_
  refine g_iconst C (0 : Int32) dX9_text_12 (by decide) (n := 13) rfl ?_
  refine g_putI C kc_17 ft_17_1 (by decide) (by decide) (by decide) rfl (fitI _) wm_272 dX9_text_13 (n := 16) rfl hk (fun h3 hk => ?_)
  refine g_aload_n C 1 dX9_text_16 rfl rfl (n := 17) rfl ?_
  refine g_getR C kc_0 (rt_0_4 (tB Θ) 0) (by decide) (by decide) (by decide) wm_366 dX9_text_17 (n := 20) rfl ?_
  refine g_getI C kc_16 ft_16_2 (by decide) (by decide) (by decide) wm_288 dX9_text_20 (n := 23) rfl ?_
  refine g_if_eq C 37 dX9_text_23 (by decide) (n := 26) rfl hk (fun hk => ?_) (fun hk => ?_)
  · refine g_aload_n C 1 dX9_text_37 rfl rfl (n := 38) rfl ?_
    refine g_getR C kc_0 (rt_0_0 (tB Θ) 0) (by decide) (by decide) (by decide) wm_362 dX9_text_38 (n := 41) rfl ?_
    refine g_aload_n C 1 dX9_text_41 rfl rfl (n := 42) rfl ?_
    refine g_getR C kc_0 (rt_0_4 (tB Θ) 0) (by decide) (by decide) (by decide) wm_366 dX9_text_42 (n := 45) rfl ?_
    refine g_getR C kc_16 (rt_16_1 (tB Θ) 0) (by decide) (by decide) (by decide) wm_286 dX9_text_45 (n := 48) rfl ?_
    refine g_cVV C hk (fun K hk => L_X0_copyFrom Θ 0 (by decide) 2 (by decide) h3 K hk) lk_X9_86 kc_1 (by decide) (by decide) ⟨rfl, rfl⟩ ⟨Nat.le_of_ble_eq_true rfl, Nat.le_of_ble_eq_true rfl⟩ dX9_text_48 rfl rfl (Nat.le_of_ble_eq_true rfl) (n := 51) rfl (fun h4 hk => ?_)
    refine g_aload_n C 1 dX9_text_51 rfl rfl (n := 52) rfl ?_
    refine g_getR C kc_0 (rt_0_2 (tB Θ) 0) (by decide) (by decide) (by decide) wm_364 dX9_text_52 (n := 55) rfl ?_
    refine g_iconst C (0 : Int32) dX9_text_55 (by decide) (n := 56) rfl ?_
    refine g_putI C kc_8 ft_8_0 (by decide) (by decide) (by decide) rfl (fitI _) wm_219 dX9_text_56 (n := 59) rfl hk (fun h5 hk => ?_)
    refine g_iconst C (0 : Int32) dX9_text_59 (by decide) (n := 60) rfl ?_
    refine g_istore_n C [(2, .int (0 : Int32)), (1, .int r1), (0, .ref (rr Θ 0 0 0))] dX9_text_60 rfl (by decide) rfl (n := 61) rfl ?_
    refine g_lv [2, 1, 0] [(0, .ref (rr Θ 0 0 0)), (1, .int r1), (2, .int (0 : Int32))] rfl ?_
    refine Ok.join hk (fun e18 => G Θ Γ 82 [(1, .int r1)] [] e18) (fun e18 hk => ?_) (fun hk => ?_)
    · refine g_iload_n C 0 dX9_text_82 rfl rfl (n := 83) rfl ?_
      exact retI hk.out dX9_text_83
    · refine Ok.loop (fun a14 => G Θ Γ 61 [(0, .ref (rr Θ 0 0 0)), (1, .int r1), (2, .int a14.1)] [] a14.2) (fun a14 hk => ?_) _ _ hk
      refine g_iload_n C 2 dX9_text_61 rfl rfl (n := 62) rfl ?_
      refine g_iconst C (2 : Int32) dX9_text_62 (by decide) (n := 63) rfl ?_
      refine g_ic_ge C 82 dX9_text_63 (by decide) (n := 66) rfl hk (fun hk => ?_) (fun hk => ?_)
      · refine g_lv [1] [(1, .int r1)] rfl ?_
        exact hk.out
      · refine g_aload_n C 0 dX9_text_66 rfl rfl (n := 67) rfl ?_
        refine g_getR C kc_0 (rt_0_6 (tB Θ) 0) (by decide) (by decide) (by decide) wm_368 dX9_text_67 (n := 70) rfl ?_
        refine g_iload_n C 2 dX9_text_70 rfl rfl (n := 71) rfl ?_
        refine g_aald C ar_19 (by decide) dX9_text_71 (n := 72) rfl hk (fun hg15 hk => ?_)
        refine g_iconst C (0 : Int32) dX9_text_72 (by decide) (n := 73) rfl ?_
        refine g_putI C kc_20 ft_20_0 (inb_lt hg15) (by decide) (by decide) rfl (fitZ (Or.inl rfl)) wm_332 dX9_text_73 (n := 76) rfl hk (fun h16 hk => ?_)
        refine g_iinc C 2 (fun x17 => [(2, .int x17), (0, .ref (rr Θ 0 0 0)), (1, .int r1)]) dX9_text_76 rfl (v := (a14.1 + (1 : Int32))) rfl (by decide) (fun _ => rfl) (n := 79) rfl hk (fun x17 hk => ?_)
        refine g_goto C 61 dX9_text_79 (by decide) ?_
        refine g_lv [1, 2, 0] [(0, .ref (rr Θ 0 0 0)), (1, .int r1), (2, .int x17)] rfl ?_
        exact hk.out
  · refine g_bipush C (-10 : Int32) dX9_text_26 (by decide) (n := 28) rfl ?_
    refine g_aload_n C 1 dX9_text_28 rfl rfl (n := 29) rfl ?_
    refine g_getR C kc_0 (rt_0_4 (tB Θ) 0) (by decide) (by decide) (by decide) wm_366 dX9_text_29 (n := 32) rfl ?_
    refine g_getI C kc_16 ft_16_3 (by decide) (by decide) (by decide) wm_290 dX9_text_32 (n := 35) rfl ?_
    refine g_isub C dX9_text_35 (n := 36) rfl ?_
    exact retI hk.out dX9_text_36
