def f_X9_isSeenWithFalse (p1 : Int32) (h : Mem) : Option (Bool × Mem) := obd (f_X0_copyFrom 1 0 h) (fun h1 => obd (lp fu (fun a12 => (if (a12.2 1 2 1 0) ≤ a12.1 then some (.inr a12.2) else gd (inb a12.1 6) (obd ((if ((p1 >>> (a12.1 &&& (31 : Int32))) &&& (1 : Int32)) = (1 : Int32) then some true else some false)) (fun a14 => bnd (up a12.2 6 1 1 a12.1.toNatClampNeg (b2i a14)) (fun h15 => bnd (a12.1 + (1 : Int32)) (fun x16 => some (.inl (x16, h15)))))))) ((0 : Int32), h1)) (fun e17 => ob2 (f_X6_holdFor 0 1 e17) (fun r18 h19 => some (r18, h19))))
def rm_X9_isSeenWithFalse : Room := { frames := 5, cells := 0, slots := 0, locals := 110 }
set_option maxHeartbeats 4000000 in
set_option maxRecDepth 100000 in
theorem L_X9_isSeenWithFalse (Θ : Tht) (p1 : Int32) (h : Mem) (K : Bool × Mem → Prop) (hk : Ok (f_X9_isSeenWithFalse p1 h) K) : CB Θ yX9_isSeenWithFalse cX9_isSeenWithFalse 3 (some .boolean) rm_X9_isSeenWithFalse [.ref (rr Θ 0 0 0), .int p1] h K := by
  refine CB.of K [(0, .ref (rr Θ 0 0 0)), (1, .int p1)] (plainFor_of_name (by decide)) (Nat.le_of_ble_eq_true rfl) rfl (fun Γ C Rt => ?_)
  replace hk := rtB Rt hk
  unfold f_X9_isSeenWithFalse at hk
  refine g_aload_n C 0 dX9_isSeenWithFalse_0 rfl rfl (n := 1) rfl ?_
  refine g_getR C kc_0 (rt_0_1 (tB Θ) 0) (by decide) (by decide) (by decide) wm_363 dX9_isSeenWithFalse_1 (n := 4) rfl ?_
  refine g_aload_n C 0 dX9_isSeenWithFalse_4 rfl rfl (n := 5) rfl ?_
  refine g_getR C kc_0 (rt_0_0 (tB Θ) 0) (by decide) (by decide) (by decide) wm_362 dX9_isSeenWithFalse_5 (n := 8) rfl ?_
  refine g_cVV C hk (fun K hk => L_X0_copyFrom Θ 1 (by decide) 0 (by decide) h K hk) lk_X9_86 kc_1 (by decide) (by decide) ⟨rfl, rfl⟩ ⟨Nat.le_of_ble_eq_true rfl, Nat.le_of_ble_eq_true rfl⟩ dX9_isSeenWithFalse_8 rfl rfl (Nat.le_of_ble_eq_true rfl) (n := 11) rfl (fun h1 hk => ?_)
  refine g_iconst C (0 : Int32) dX9_isSeenWithFalse_11 (by decide) (n := 12) rfl ?_
  refine g_istore_n C [(2, .int (0 : Int32)), (0, .ref (rr Θ 0 0 0)), (1, .int p1)] dX9_isSeenWithFalse_12 rfl (by decide) rfl (n := 13) rfl ?_
  refine g_lv [1, 2, 0] [(0, .ref (rr Θ 0 0 0)), (1, .int p1), (2, .int (0 : Int32))] rfl ?_
  refine Ok.join hk (fun e17 => G Θ Γ 56 [(0, .ref (rr Θ 0 0 0))] [] e17) (fun e17 hk => ?_) (fun hk => ?_)
  · refine g_aload_n C 0 dX9_isSeenWithFalse_56 rfl rfl (n := 57) rfl ?_
    refine g_getR C kc_0 (rt_0_2 (tB Θ) 0) (by decide) (by decide) (by decide) wm_364 dX9_isSeenWithFalse_57 (n := 60) rfl ?_
    refine g_aload_n C 0 dX9_isSeenWithFalse_60 rfl rfl (n := 61) rfl ?_
    refine g_getR C kc_0 (rt_0_1 (tB Θ) 0) (by decide) (by decide) (by decide) wm_363 dX9_isSeenWithFalse_61 (n := 64) rfl ?_
    refine g_cVB C hk (fun K hk => L_X6_holdFor Θ 0 (by decide) 1 (by decide) e17 K hk) lk_X9_238 kc_8 (by decide) (by decide) ⟨rfl, rfl⟩ ⟨Nat.le_of_ble_eq_true rfl, Nat.le_of_ble_eq_true rfl⟩ dX9_isSeenWithFalse_64 rfl rfl (Nat.le_of_ble_eq_true rfl) (n := 67) rfl (fun r18 h19 hk => ?_)
    exact retB r18 rfl hk.out dX9_isSeenWithFalse_67
  · refine Ok.loop (fun a12 => G Θ Γ 13 [(0, .ref (rr Θ 0 0 0)), (1, .int p1), (2, .int a12.1)] [] a12.2) (fun a12 hk => ?_) _ _ hk
    refine g_iload_n C 2 dX9_isSeenWithFalse_13 rfl rfl (n := 14) rfl ?_
    refine g_aload_n C 0 dX9_isSeenWithFalse_14 rfl rfl (n := 15) rfl ?_
    refine g_getR C kc_0 (rt_0_1 (tB Θ) 0) (by decide) (by decide) (by decide) wm_363 dX9_isSeenWithFalse_15 (n := 18) rfl ?_
    refine g_getI C kc_1 ft_1_2 (by decide) (by decide) (by decide) wm_166 dX9_isSeenWithFalse_18 (n := 21) rfl ?_
    refine g_ic_ge C 56 dX9_isSeenWithFalse_21 (by decide) (n := 24) rfl hk (fun hk => ?_) (fun hk => ?_)
    · refine g_lv [0] [(0, .ref (rr Θ 0 0 0))] rfl ?_
      exact hk.out
    · refine g_aload_n C 0 dX9_isSeenWithFalse_24 rfl rfl (n := 25) rfl ?_
      refine g_getR C kc_0 (rt_0_1 (tB Θ) 0) (by decide) (by decide) (by decide) wm_363 dX9_isSeenWithFalse_25 (n := 28) rfl ?_
      refine g_getR C kc_1 (rt_1_3 (tB Θ) 1) (by decide) (by decide) (by decide) wm_171 dX9_isSeenWithFalse_28 (n := 31) rfl ?_
      refine g_iload_n C 2 dX9_isSeenWithFalse_31 rfl rfl (n := 32) rfl ?_
      refine g_aald C ar_3 (by decide) dX9_isSeenWithFalse_32 (n := 33) rfl hk (fun hg13 hk => ?_)
      refine g_iload_n C 1 dX9_isSeenWithFalse_33 rfl rfl (n := 34) rfl ?_
      refine g_iload_n C 2 dX9_isSeenWithFalse_34 rfl rfl (n := 35) rfl ?_
      refine g_ishr C dX9_isSeenWithFalse_35 (n := 36) rfl ?_
      refine g_iconst C (1 : Int32) dX9_isSeenWithFalse_36 (by decide) (n := 37) rfl ?_
      refine g_iand C dX9_isSeenWithFalse_37 (n := 38) rfl ?_
      refine g_iconst C (1 : Int32) dX9_isSeenWithFalse_38 (by decide) (n := 39) rfl ?_
      refine Ok.join hk (fun a14 => G Θ Γ 47 [(0, .ref (rr Θ 0 0 0)), (1, .int p1), (2, .int a12.1)] [.int (b2i a14), .ref (rr Θ 6 1 a12.1.toNatClampNeg)] a12.2) (fun a14 hk => ?_) (fun hk => ?_)
      · refine g_putI C kc_6 ft_6_1 (by decide) (inb_lt hg13) (by decide) rfl (fitB a14) wm_112 dX9_isSeenWithFalse_47 (n := 50) rfl hk (fun h15 hk => ?_)
        refine g_iinc C 2 (fun x16 => [(2, .int x16), (0, .ref (rr Θ 0 0 0)), (1, .int p1)]) dX9_isSeenWithFalse_50 rfl (v := (a12.1 + (1 : Int32))) rfl (by decide) (fun _ => rfl) (n := 53) rfl hk (fun x16 hk => ?_)
        refine g_goto C 13 dX9_isSeenWithFalse_53 (by decide) ?_
        refine g_lv [1, 2, 0] [(0, .ref (rr Θ 0 0 0)), (1, .int p1), (2, .int x16)] rfl ?_
        exact hk.out
      · refine g_ic_ne C 46 dX9_isSeenWithFalse_39 (by decide) (n := 42) rfl hk (fun hk => ?_) (fun hk => ?_)
        · refine g_iconst C (0 : Int32) dX9_isSeenWithFalse_46 (by decide) (n := 47) rfl ?_
          exact hk.out
        · refine g_iconst C (1 : Int32) dX9_isSeenWithFalse_42 (by decide) (n := 43) rfl ?_
          refine g_goto C 47 dX9_isSeenWithFalse_43 (by decide) ?_
          exact hk.out
def f_X9_fakes (p1 : Int32) (h : Mem) : Option (Int32 × Mem) := obd (f_X9_within p1 (0 : Int32) (3 : Int32) h) (fun r1 => (if r1 = true then bnd (((1 : Int32) <<< ((h 1 2 0 0) &&& (31 : Int32))) - (1 : Int32)) (fun x2 => obd (lp fu (fun a21 => (if x2 < a21.2.2.2.2.1 then some (.inr (a21.1, a21.2.1, a21.2.2.1, a21.2.2.2.1, a21.2.2.2.2.2)) else ob2 (f_X9_isSeenWithFalse a21.2.2.2.2.1 a21.2.2.2.2.2) (fun r22 h23 => (if r22 = true then obd ((if a21.1 = 0 then some a21.2.2.2.2.1 else some a21.2.1)) (fun a25 => bnd (a21.1 + (1 : Int32)) (fun x26 => bnd (a21.2.2.1 &&& a21.2.2.2.2.1) (fun x27 => bnd (a21.2.2.2.1 ||| a21.2.2.2.2.1) (fun x28 => bnd (a21.2.2.2.2.1 + (1 : Int32)) (fun x29 => some (.inl (x26, a25, x27, x28, x29, h23))))))) else bnd (a21.2.2.2.2.1 + (1 : Int32)) (fun x24 => some (.inl (a21.1, a21.2.1, a21.2.2.1, a21.2.2.2.1, x24, h23))))))) ((0 : Int32), (-4 : Int32), x2, (0 : Int32), (0 : Int32), h)) (fun e30 => obd ((if p1 = 0 then some (.inr ()) else (if e30.1 = 0 then some (.inr ()) else (if p1 = (1 : Int32) then some (.inl (e30.2.1, e30.2.2.2.2)) else (if p1 = (2 : Int32) then some (.inl (e30.2.2.1, e30.2.2.2.2)) else some (.inl ((x2 &&& (e30.2.2.2.1 ^^^ (-1 : Int32))), e30.2.2.2.2))))))) (Sum.elim (fun r => some r) (fun a31 => (if p1 = 0 then some (e30.1, e30.2.2.2.2) else some ((-4 : Int32), e30.2.2.2.2)))))) else some ((-1 : Int32), h)))
def rm_X9_fakes : Room := { frames := 6, cells := 0, slots := 0, locals := 132 }
set_option maxHeartbeats 4000000 in
set_option maxRecDepth 100000 in
theorem L_X9_fakes (Θ : Tht) (p1 : Int32) (h : Mem) (K : Int32 × Mem → Prop) (hk : Ok (f_X9_fakes p1 h) K) : CI Θ yX9_fakes cX9_fakes 8 (some .int) rm_X9_fakes [.ref (rr Θ 0 0 0), .int p1] h K := by
  refine CI.of K [(0, .ref (rr Θ 0 0 0)), (1, .int p1)] (plainFor_of_name (by decide)) (Nat.le_of_ble_eq_true rfl) rfl (fun Γ C Rt => ?_)
  replace hk := rtI Rt hk
  unfold f_X9_fakes at hk
  refine g_iload_n C 1 dX9_fakes_0 rfl rfl (n := 1) rfl ?_
  refine g_iconst C (0 : Int32) dX9_fakes_1 (by decide) (n := 2) rfl ?_
  refine g_iconst C (3 : Int32) dX9_fakes_2 (by decide) (n := 3) rfl ?_
  refine g_cSBp C hk (fun K hk => L_X9_within Θ p1 (0 : Int32) (3 : Int32) h K hk) lk_X9_69 ⟨rfl, rfl⟩ ⟨Nat.le_of_ble_eq_true rfl, Nat.le_of_ble_eq_true rfl⟩ dX9_fakes_3 rfl rfl (Nat.le_of_ble_eq_true rfl) (n := 6) rfl (fun r1 hk => ?_)
  refine g_bt C 11 dX9_fakes_6 (by decide) (n := 9) rfl hk (fun hk => ?_) (fun hk => ?_)
  · refine g_iconst C (1 : Int32) dX9_fakes_11 (by decide) (n := 12) rfl ?_
    refine g_aload_n C 0 dX9_fakes_12 rfl rfl (n := 13) rfl ?_
    refine g_getR C kc_0 (rt_0_0 (tB Θ) 0) (by decide) (by decide) (by decide) wm_362 dX9_fakes_13 (n := 16) rfl ?_
    refine g_getI C kc_1 ft_1_2 (by decide) (by decide) (by decide) wm_166 dX9_fakes_16 (n := 19) rfl ?_
    refine g_ishl C dX9_fakes_19 (n := 20) rfl ?_
    refine g_iconst C (1 : Int32) dX9_fakes_20 (by decide) (n := 21) rfl ?_
    refine g_isub C dX9_fakes_21 (n := 22) rfl ?_
    refine g_nm hk (fun x2 hk => ?_)
    refine g_istore_n C [(2, .int x2), (0, .ref (rr Θ 0 0 0)), (1, .int p1)] dX9_fakes_22 rfl (by decide) rfl (n := 23) rfl ?_
    refine g_iconst C (0 : Int32) dX9_fakes_23 (by decide) (n := 24) rfl ?_
    refine g_istore_n C [(3, .int (0 : Int32)), (2, .int x2), (0, .ref (rr Θ 0 0 0)), (1, .int p1)] dX9_fakes_24 rfl (by decide) rfl (n := 25) rfl ?_
    refine g_bipush C (-4 : Int32) dX9_fakes_25 (by decide) (n := 27) rfl ?_
    refine g_istore C [(4, .int (-4 : Int32)), (3, .int (0 : Int32)), (2, .int x2), (0, .ref (rr Θ 0 0 0)), (1, .int p1)] dX9_fakes_27 (by decide) rfl (n := 29) rfl ?_
    refine g_iload_n C 2 dX9_fakes_29 rfl rfl (n := 30) rfl ?_
    refine g_istore C [(5, .int x2), (4, .int (-4 : Int32)), (3, .int (0 : Int32)), (2, .int x2), (0, .ref (rr Θ 0 0 0)), (1, .int p1)] dX9_fakes_30 (by decide) rfl (n := 32) rfl ?_
    refine g_iconst C (0 : Int32) dX9_fakes_32 (by decide) (n := 33) rfl ?_
    refine g_istore C [(6, .int (0 : Int32)), (5, .int x2), (4, .int (-4 : Int32)), (3, .int (0 : Int32)), (2, .int x2), (0, .ref (rr Θ 0 0 0)), (1, .int p1)] dX9_fakes_33 (by decide) rfl (n := 35) rfl ?_
    refine g_iconst C (0 : Int32) dX9_fakes_35 (by decide) (n := 36) rfl ?_
    refine g_istore C [(7, .int (0 : Int32)), (6, .int (0 : Int32)), (5, .int x2), (4, .int (-4 : Int32)), (3, .int (0 : Int32)), (2, .int x2), (0, .ref (rr Θ 0 0 0)), (1, .int p1)] dX9_fakes_36 (by decide) rfl (n := 38) rfl ?_
    refine g_lv [6, 7, 5, 4, 3, 2, 1, 0] [(0, .ref (rr Θ 0 0 0)), (1, .int p1), (2, .int x2), (3, .int (0 : Int32)), (4, .int (-4 : Int32)), (5, .int x2), (6, .int (0 : Int32)), (7, .int (0 : Int32))] rfl ?_
    refine Ok.join hk (fun e30 => G Θ Γ 89 [(1, .int p1), (2, .int x2), (3, .int e30.1), (4, .int e30.2.1), (5, .int e30.2.2.1), (6, .int e30.2.2.2.1)] [] e30.2.2.2.2) (fun e30 hk => ?_) (fun hk => ?_)
    · refine g_iload_n C 0 dX9_fakes_89 rfl rfl (n := 90) rfl ?_
      refine Ok.join hk (Sum.elim (PI Θ Γ cX9_fakes) (fun a31 => G Θ Γ 97 [(1, .int p1), (3, .int e30.1)] [] e30.2.2.2.2)) (fun e hk => ?_) (fun hk => ?_)
      · rcases e with r | a31
        · exact hk.out
        · replace hk := ok_inr hk
          refine g_iload_n C 0 dX9_fakes_97 rfl rfl (n := 98) rfl ?_
          refine g_if_ne C 105 dX9_fakes_98 (by decide) (n := 101) rfl hk (fun hk => ?_) (fun hk => ?_)
          · refine g_bipush C (-4 : Int32) dX9_fakes_105 (by decide) (n := 107) rfl ?_
            exact retI hk.out dX9_fakes_107
          · refine g_iload_n C 1 dX9_fakes_101 rfl rfl (n := 102) rfl ?_
            refine g_goto C 107 dX9_fakes_102 (by decide) ?_
            exact retI hk.out dX9_fakes_107
      · refine g_if_eq C 97 dX9_fakes_90 (by decide) (n := 93) rfl hk (fun hk => ?_) (fun hk => ?_)
        · refine g_lv [0, 2] [(1, .int p1), (3, .int e30.1)] rfl ?_
          exact hk.out
        · refine g_iload_n C 2 dX9_fakes_93 rfl rfl (n := 94) rfl ?_
          refine g_if_ne C 108 dX9_fakes_94 (by decide) (n := 97) rfl hk (fun hk => ?_) (fun hk => ?_)
          · refine g_iload_n C 0 dX9_fakes_108 rfl rfl (n := 109) rfl ?_
            refine g_iconst C (1 : Int32) dX9_fakes_109 (by decide) (n := 110) rfl ?_
            refine g_ic_ne C 116 dX9_fakes_110 (by decide) (n := 113) rfl hk (fun hk => ?_) (fun hk => ?_)
            · refine g_iload_n C 0 dX9_fakes_116 rfl rfl (n := 117) rfl ?_
              refine g_iconst C (2 : Int32) dX9_fakes_117 (by decide) (n := 118) rfl ?_
              refine g_ic_ne C 126 dX9_fakes_118 (by decide) (n := 121) rfl hk (fun hk => ?_) (fun hk => ?_)
              · refine g_iload_n C 1 dX9_fakes_126 rfl rfl (n := 127) rfl ?_
                refine g_iload C 5 dX9_fakes_127 rfl (n := 129) rfl ?_
                refine g_iconst C (-1 : Int32) dX9_fakes_129 (by decide) (n := 130) rfl ?_
                refine g_ixor C dX9_fakes_130 (n := 131) rfl ?_
                refine g_iand C dX9_fakes_131 (n := 132) rfl ?_
                exact retI hk.out dX9_fakes_132
              · refine g_iload C 4 dX9_fakes_121 rfl (n := 123) rfl ?_
                refine g_goto C 132 dX9_fakes_123 (by decide) ?_
                exact retI hk.out dX9_fakes_132
            · refine g_iload C 3 dX9_fakes_113 rfl (n := 115) rfl ?_
              exact retI hk.out dX9_fakes_115
          · refine g_lv [0, 2] [(1, .int p1), (3, .int e30.1)] rfl ?_
            exact hk.out
    · refine Ok.loop (fun a21 => G Θ Γ 38 [(0, .ref (rr Θ 0 0 0)), (1, .int p1), (2, .int x2), (3, .int a21.1), (4, .int a21.2.1), (5, .int a21.2.2.1), (6, .int a21.2.2.2.1), (7, .int a21.2.2.2.2.1)] [] a21.2.2.2.2.2) (fun a21 hk => ?_) _ _ hk
      refine g_iload C 7 dX9_fakes_38 rfl (n := 40) rfl ?_
      refine g_iload_n C 2 dX9_fakes_40 rfl rfl (n := 41) rfl ?_
      refine g_ic_gt C 89 dX9_fakes_41 (by decide) (n := 44) rfl hk (fun hk => ?_) (fun hk => ?_)
      · refine g_lv [1, 2, 3, 4, 5, 6] [(1, .int p1), (2, .int x2), (3, .int a21.1), (4, .int a21.2.1), (5, .int a21.2.2.1), (6, .int a21.2.2.2.1)] rfl ?_
        exact hk.out
      · refine g_aload_n C 0 dX9_fakes_44 rfl rfl (n := 45) rfl ?_
        refine g_iload C 7 dX9_fakes_45 rfl (n := 47) rfl ?_
        refine g_cVB C hk (fun K hk => L_X9_isSeenWithFalse Θ a21.2.2.2.2.1 a21.2.2.2.2.2 K hk) lk_X9_235 kc_0 (by decide) (by decide) ⟨rfl, rfl⟩ ⟨Nat.le_of_ble_eq_true rfl, Nat.le_of_ble_eq_true rfl⟩ dX9_fakes_47 rfl rfl (Nat.le_of_ble_eq_true rfl) (n := 50) rfl (fun r22 h23 hk => ?_)
        refine g_bf C 83 dX9_fakes_50 (by decide) (n := 53) rfl hk (fun hk => ?_) (fun hk => ?_)
        · refine g_iinc C 7 (fun x24 => [(7, .int x24), (0, .ref (rr Θ 0 0 0)), (1, .int p1), (2, .int x2), (3, .int a21.1), (4, .int a21.2.1), (5, .int a21.2.2.1), (6, .int a21.2.2.2.1)]) dX9_fakes_83 rfl (v := (a21.2.2.2.2.1 + (1 : Int32))) rfl (by decide) (fun _ => rfl) (n := 86) rfl hk (fun x24 hk => ?_)
          refine g_goto C 38 dX9_fakes_86 (by decide) ?_
          refine g_lv [1, 2, 3, 4, 5, 6, 7, 0] [(0, .ref (rr Θ 0 0 0)), (1, .int p1), (2, .int x2), (3, .int a21.1), (4, .int a21.2.1), (5, .int a21.2.2.1), (6, .int a21.2.2.2.1), (7, .int x24)] rfl ?_
          exact hk.out
        · refine g_iload_n C 3 dX9_fakes_53 rfl rfl (n := 54) rfl ?_
          refine Ok.join hk (fun a25 => G Θ Γ 64 [(0, .ref (rr Θ 0 0 0)), (1, .int p1), (2, .int x2), (3, .int a21.1), (5, .int a21.2.2.1), (6, .int a21.2.2.2.1), (7, .int a21.2.2.2.2.1)] [.int a25] h23) (fun a25 hk => ?_) (fun hk => ?_)
          · refine g_istore C [(4, .int a25), (0, .ref (rr Θ 0 0 0)), (1, .int p1), (2, .int x2), (3, .int a21.1), (5, .int a21.2.2.1), (6, .int a21.2.2.2.1), (7, .int a21.2.2.2.2.1)] dX9_fakes_64 (by decide) rfl (n := 66) rfl ?_
            refine g_iinc C 4 (fun x26 => [(3, .int x26), (4, .int a25), (0, .ref (rr Θ 0 0 0)), (1, .int p1), (2, .int x2), (5, .int a21.2.2.1), (6, .int a21.2.2.2.1), (7, .int a21.2.2.2.2.1)]) dX9_fakes_66 rfl (v := (a21.1 + (1 : Int32))) rfl (by decide) (fun _ => rfl) (n := 69) rfl hk (fun x26 hk => ?_)
            refine g_iload C 5 dX9_fakes_69 rfl (n := 71) rfl ?_
            refine g_iload C 7 dX9_fakes_71 rfl (n := 73) rfl ?_
            refine g_iand C dX9_fakes_73 (n := 74) rfl ?_
            refine g_nm hk (fun x27 hk => ?_)
            refine g_istore C [(5, .int x27), (3, .int x26), (4, .int a25), (0, .ref (rr Θ 0 0 0)), (1, .int p1), (2, .int x2), (6, .int a21.2.2.2.1), (7, .int a21.2.2.2.2.1)] dX9_fakes_74 (by decide) rfl (n := 76) rfl ?_
            refine g_iload C 6 dX9_fakes_76 rfl (n := 78) rfl ?_
            refine g_iload C 7 dX9_fakes_78 rfl (n := 80) rfl ?_
            refine g_ior C dX9_fakes_80 (n := 81) rfl ?_
            refine g_nm hk (fun x28 hk => ?_)
            refine g_istore C [(6, .int x28), (5, .int x27), (3, .int x26), (4, .int a25), (0, .ref (rr Θ 0 0 0)), (1, .int p1), (2, .int x2), (7, .int a21.2.2.2.2.1)] dX9_fakes_81 (by decide) rfl (n := 83) rfl ?_
            refine g_iinc C 7 (fun x29 => [(7, .int x29), (6, .int x28), (5, .int x27), (3, .int x26), (4, .int a25), (0, .ref (rr Θ 0 0 0)), (1, .int p1), (2, .int x2)]) dX9_fakes_83 rfl (v := (a21.2.2.2.2.1 + (1 : Int32))) rfl (by decide) (fun _ => rfl) (n := 86) rfl hk (fun x29 hk => ?_)
            refine g_goto C 38 dX9_fakes_86 (by decide) ?_
            refine g_lv [5, 6, 7, 3, 4, 2, 1, 0] [(0, .ref (rr Θ 0 0 0)), (1, .int p1), (2, .int x2), (3, .int x26), (4, .int a25), (5, .int x27), (6, .int x28), (7, .int x29)] rfl ?_
            exact hk.out
          · refine g_if_ne C 62 dX9_fakes_54 (by decide) (n := 57) rfl hk (fun hk => ?_) (fun hk => ?_)
            · refine g_iload C 4 dX9_fakes_62 rfl (n := 64) rfl ?_
              refine g_lv [0, 1, 2, 3, 5, 6, 7] [(0, .ref (rr Θ 0 0 0)), (1, .int p1), (2, .int x2), (3, .int a21.1), (5, .int a21.2.2.1), (6, .int a21.2.2.2.1), (7, .int a21.2.2.2.2.1)] rfl ?_
              exact hk.out
            · refine g_iload C 7 dX9_fakes_57 rfl (n := 59) rfl ?_
              refine g_goto C 64 dX9_fakes_59 (by decide) ?_
              refine g_lv [0, 1, 2, 3, 5, 6, 7] [(0, .ref (rr Θ 0 0 0)), (1, .int p1), (2, .int x2), (3, .int a21.1), (5, .int a21.2.2.1), (6, .int a21.2.2.2.1), (7, .int a21.2.2.2.2.1)] rfl ?_
              exact hk.out
  · refine g_iconst C (-1 : Int32) dX9_fakes_9 (by decide) (n := 10) rfl ?_
    exact retI hk.out dX9_fakes_10
def f_X9_fault  (h : Mem) : Option (Int32) := some (h 16 2 0 0)
def rm_X9_fault : Room := { frames := 0, cells := 0, slots := 0, locals := 0 }
set_option maxHeartbeats 4000000 in
set_option maxRecDepth 100000 in
theorem L_X9_fault (Θ : Tht)  (h : Mem) (K : Int32 × Mem → Prop) (hk : Ok (f_X9_fault  h) (fun r => K (r, h))) : CI Θ yX9_fault cX9_fault 1 (some .int) rm_X9_fault [.ref (rr Θ 0 0 0)] h K := by
  refine CI.of K [(0, .ref (rr Θ 0 0 0))] (plainFor_of_name (by decide)) (Nat.le_of_ble_eq_true rfl) rfl (fun Γ C Rt => ?_)
  replace hk := rtIp Rt hk
  unfold f_X9_fault at hk
  refine g_aload_n C 0 dX9_fault_0 rfl rfl (n := 1) rfl ?_
  refine g_getR C kc_0 (rt_0_4 (tB Θ) 0) (by decide) (by decide) (by decide) wm_366 dX9_fault_1 (n := 4) rfl ?_
  refine g_getI C kc_16 ft_16_2 (by decide) (by decide) (by decide) wm_288 dX9_fault_4 (n := 7) rfl ?_
  exact retI hk.out dX9_fault_7
def f_X7_append (p1 : Int64) (h : Mem) : Option (Mem) := obd (lp fu (fun a5 => (if a5.1 < 0 then some (.inr a5.2) else (if (320 : Int32) ≤ (a5.2 17 1 0 0) then some (.inr a5.2) else gd (inb (a5.2 17 1 0 0) 320) (bnd (up a5.2 18 0 0 (a5.2 17 1 0 0).toNatClampNeg (vp_nar .byte (((lus p1 a5.1).toInt32).toInt8.toInt32))) (fun h6 => bnd (up h6 17 1 0 0 ((h6 17 1 0 0) + (1 : Int32))) (fun h7 => bnd (a5.1 + (-8 : Int32)) (fun x8 => some (.inl (x8, h7))))))))) ((56 : Int32), h)) (fun e9 => some e9)
def rm_X7_append : Room := { frames := 0, cells := 0, slots := 0, locals := 0 }
set_option maxHeartbeats 4000000 in
set_option maxRecDepth 100000 in
theorem L_X7_append (Θ : Tht) (p1 : Int64) (h : Mem) (K : Mem → Prop) (hk : Ok (f_X7_append p1 h) K) : CV Θ yX7_append cX7_append 4 none rm_X7_append [.ref (rr Θ 17 0 0), .long p1] h K := by
  refine CV.of K [(0, .ref (rr Θ 17 0 0)), (1, .long p1)] (plainFor_of_name (by decide)) (Nat.le_of_ble_eq_true rfl) rfl (fun Γ C Rt => ?_)
  replace hk := rtV Rt hk
  unfold f_X7_append at hk
  refine g_bipush C (56 : Int32) dX7_append_0 (by decide) (n := 2) rfl ?_
  refine g_istore_n C [(3, .int (56 : Int32)), (0, .ref (rr Θ 17 0 0)), (1, .long p1)] dX7_append_2 rfl (by decide) rfl (n := 3) rfl ?_
  refine g_lv [1, 2, 0] [(0, .ref (rr Θ 17 0 0)), (1, .long p1), (3, .int (56 : Int32))] rfl ?_
  refine Ok.join hk (fun e9 => G Θ Γ 47 [] [] e9) (fun e9 hk => ?_) (fun hk => ?_)
  · exact retV hk.out dX7_append_47
  · refine Ok.loop (fun a5 => G Θ Γ 3 [(0, .ref (rr Θ 17 0 0)), (1, .long p1), (3, .int a5.1)] [] a5.2) (fun a5 hk => ?_) _ _ hk
    refine g_iload_n C 2 dX7_append_3 rfl rfl (n := 4) rfl ?_
    refine g_if_lt C 47 dX7_append_4 (by decide) (n := 7) rfl hk (fun hk => ?_) (fun hk => ?_)
    · refine g_lv [] [] rfl ?_
      exact hk.out
    · refine g_aload_n C 0 dX7_append_7 rfl rfl (n := 8) rfl ?_
      refine g_getI C kc_17 ft_17_1 (by decide) (by decide) (by decide) wm_273 dX7_append_8 (n := 11) rfl ?_
      refine g_sipush C (320 : Int32) dX7_append_11 (by decide) (n := 14) rfl ?_
      refine g_ic_ge C 47 dX7_append_14 (by decide) (n := 17) rfl hk (fun hk => ?_) (fun hk => ?_)
      · refine g_lv [] [] rfl ?_
        exact hk.out
      · refine g_aload_n C 0 dX7_append_17 rfl rfl (n := 18) rfl ?_
        refine g_getR C kc_17 (rt_17_0 (tB Θ) 0) (by decide) (by decide) (by decide) wm_270 dX7_append_18 (n := 21) rfl ?_
        refine g_aload_n C 0 dX7_append_21 rfl rfl (n := 22) rfl ?_
        refine g_getI C kc_17 ft_17_1 (by decide) (by decide) (by decide) wm_273 dX7_append_22 (n := 25) rfl ?_
        refine g_lload_n C 1 dX7_append_25 rfl rfl (n := 26) rfl ?_
        refine g_iload_n C 2 dX7_append_26 rfl rfl (n := 27) rfl ?_
        refine g_lushr C dX7_append_27 (n := 28) rfl ?_
        refine g_l2i C dX7_append_28 (n := 29) rfl ?_
        refine g_i2b C dX7_append_29 (n := 30) rfl ?_
        refine g_bast C an_18 (by decide) dX7_append_30 (n := 31) rfl hk (fun _ h6 hk => ?_)
        refine g_aload_n C 0 dX7_append_31 rfl rfl (n := 32) rfl ?_
        refine g_dup C dX7_append_32 rfl (n := 33) rfl ?_
        refine g_getI C kc_17 ft_17_1 (by decide) (by decide) (by decide) wm_273 dX7_append_33 (n := 36) rfl ?_
        refine g_iconst C (1 : Int32) dX7_append_36 (by decide) (n := 37) rfl ?_
        refine g_iadd C dX7_append_37 (n := 38) rfl ?_
        refine g_putI C kc_17 ft_17_1 (by decide) (by decide) (by decide) rfl (fitI _) wm_273 dX7_append_38 (n := 41) rfl hk (fun h7 hk => ?_)
        refine g_iinc C 2 (fun x8 => [(3, .int x8), (0, .ref (rr Θ 17 0 0)), (1, .long p1)]) dX7_append_41 rfl (v := (a5.1 + (-8 : Int32))) rfl (by decide) (fun _ => rfl) (n := 44) rfl hk (fun x8 hk => ?_)
        refine g_goto C 3 dX7_append_44 (by decide) ?_
        refine g_lv [1, 2, 0] [(0, .ref (rr Θ 17 0 0)), (1, .long p1), (3, .int x8)] rfl ?_
        exact hk.out
def f_X9_feed (p1 : Int64) (h : Mem) : Option (Int32 × Mem) := (if ((h 17 1 0 0) + (8 : Int32)) ≤ (320 : Int32) then obd (f_X7_append p1 h) (fun h1 => some ((h1 17 1 0 0), h1)) else some ((-3 : Int32), h))
def rm_X9_feed : Room := { frames := 1, cells := 0, slots := 0, locals := 23 }
set_option maxHeartbeats 4000000 in
set_option maxRecDepth 100000 in
theorem L_X9_feed (Θ : Tht) (p1 : Int64) (h : Mem) (K : Int32 × Mem → Prop) (hk : Ok (f_X9_feed p1 h) K) : CI Θ yX9_feed cX9_feed 3 (some .int) rm_X9_feed [.ref (rr Θ 0 0 0), .long p1] h K := by
  refine CI.of K [(0, .ref (rr Θ 0 0 0)), (1, .long p1)] (plainFor_of_name (by decide)) (Nat.le_of_ble_eq_true rfl) rfl (fun Γ C Rt => ?_)
  replace hk := rtI Rt hk
  unfold f_X9_feed at hk
  refine g_aload_n C 0 dX9_feed_0 rfl rfl (n := 1) rfl ?_
  refine g_getR C kc_0 (rt_0_5 (tB Θ) 0) (by decide) (by decide) (by decide) wm_367 dX9_feed_1 (n := 4) rfl ?_
  refine g_getI C kc_17 ft_17_1 (by decide) (by decide) (by decide) wm_272 dX9_feed_4 (n := 7) rfl ?_
  refine g_bipush C (8 : Int32) dX9_feed_7 (by decide) (n := 9) rfl ?_
  refine g_iadd C dX9_feed_9 (n := 10) rfl ?_
  refine g_sipush C (320 : Int32) dX9_feed_10 (by decide) (n := 13) rfl ?_
  refine g_ic_le C 19 dX9_feed_13 (by decide) (n := 16) rfl hk (fun hk => ?_) (fun hk => ?_)
  · refine g_aload_n C 0 dX9_feed_19 rfl rfl (n := 20) rfl ?_
    refine g_getR C kc_0 (rt_0_5 (tB Θ) 0) (by decide) (by decide) (by decide) wm_367 dX9_feed_20 (n := 23) rfl ?_
    refine g_lload_n C 1 dX9_feed_23 rfl rfl (n := 24) rfl ?_
    refine g_cVV C hk (fun K hk => L_X7_append Θ p1 h K hk) lk_X9_65 kc_17 (by decide) (by decide) ⟨rfl, rfl⟩ ⟨Nat.le_of_ble_eq_true rfl, Nat.le_of_ble_eq_true rfl⟩ dX9_feed_24 rfl rfl (Nat.le_of_ble_eq_true rfl) (n := 27) rfl (fun h1 hk => ?_)
    refine g_aload_n C 0 dX9_feed_27 rfl rfl (n := 28) rfl ?_
    refine g_getR C kc_0 (rt_0_5 (tB Θ) 0) (by decide) (by decide) (by decide) wm_367 dX9_feed_28 (n := 31) rfl ?_
    refine g_getI C kc_17 ft_17_1 (by decide) (by decide) (by decide) wm_272 dX9_feed_31 (n := 34) rfl ?_
    exact retI hk.out dX9_feed_34
  · refine g_bipush C (-3 : Int32) dX9_feed_16 (by decide) (n := 18) rfl ?_
    exact retI hk.out dX9_feed_18
def f_X0_sendAwayAllBut (o0 : Nat) (p1 : Int32) (h : Mem) : Option (Mem) := bnd (up h 1 10 o0 0 (0 : Int32)) (fun h1 => obd (lp fu (fun a12 => (if (a12.2 1 4 o0 0) ≤ a12.1 then some (.inr a12.2) else (if ((p1 >>> (a12.1 &&& (31 : Int32))) &&& (1 : Int32)) = (1 : Int32) then gd (inb (a12.2 1 10 o0 0) 4) (bnd (up a12.2 5 0 o0 (a12.2 1 10 o0 0).toNatClampNeg a12.1) (fun h14 => bnd (up h14 1 10 o0 0 ((h14 1 10 o0 0) + (1 : Int32))) (fun h15 => bnd (a12.1 + (1 : Int32)) (fun x16 => some (.inl (x16, h15)))))) else bnd (a12.1 + (1 : Int32)) (fun x13 => some (.inl (x13, a12.2)))))) ((0 : Int32), h1)) (fun e17 => some e17))
def rm_X0_sendAwayAllBut : Room := { frames := 0, cells := 0, slots := 0, locals := 0 }
set_option maxHeartbeats 4000000 in
set_option maxRecDepth 100000 in
theorem L_X0_sendAwayAllBut (Θ : Tht) (o0 : Nat) (ho0 : o0 < 5) (p1 : Int32) (h : Mem) (K : Mem → Prop) (hk : Ok (f_X0_sendAwayAllBut o0 p1 h) K) : CV Θ yX0_sendAwayAllBut cX0_sendAwayAllBut 3 none rm_X0_sendAwayAllBut [.ref (rr Θ 1 o0 0), .int p1] h K := by
  refine CV.of K [(0, .ref (rr Θ 1 o0 0)), (1, .int p1)] (plainFor_of_name (by decide)) (Nat.le_of_ble_eq_true rfl) rfl (fun Γ C Rt => ?_)
  replace hk := rtV Rt hk
  unfold f_X0_sendAwayAllBut at hk
  refine g_aload_n C 0 dX0_sendAwayAllBut_0 rfl rfl (n := 1) rfl ?_
  refine g_iconst C (0 : Int32) dX0_sendAwayAllBut_1 (by decide) (n := 2) rfl ?_
  refine g_putI C kc_1 ft_1_10 ho0 (by decide) (by decide) rfl (fitI _) wm_188 dX0_sendAwayAllBut_2 (n := 5) rfl hk (fun h1 hk => ?_)
  refine g_iconst C (0 : Int32) dX0_sendAwayAllBut_5 (by decide) (n := 6) rfl ?_
  refine g_istore_n C [(2, .int (0 : Int32)), (0, .ref (rr Θ 1 o0 0)), (1, .int p1)] dX0_sendAwayAllBut_6 rfl (by decide) rfl (n := 7) rfl ?_
  refine g_lv [1, 2, 0] [(0, .ref (rr Θ 1 o0 0)), (1, .int p1), (2, .int (0 : Int32))] rfl ?_
  refine Ok.join hk (fun e17 => G Θ Γ 50 [] [] e17) (fun e17 hk => ?_) (fun hk => ?_)
  · exact retV hk.out dX0_sendAwayAllBut_50
  · refine Ok.loop (fun a12 => G Θ Γ 7 [(0, .ref (rr Θ 1 o0 0)), (1, .int p1), (2, .int a12.1)] [] a12.2) (fun a12 hk => ?_) _ _ hk
    refine g_iload_n C 2 dX0_sendAwayAllBut_7 rfl rfl (n := 8) rfl ?_
    refine g_aload_n C 0 dX0_sendAwayAllBut_8 rfl rfl (n := 9) rfl ?_
    refine g_getI C kc_1 ft_1_4 ho0 (by decide) (by decide) wm_172 dX0_sendAwayAllBut_9 (n := 12) rfl ?_
    refine g_ic_ge C 50 dX0_sendAwayAllBut_12 (by decide) (n := 15) rfl hk (fun hk => ?_) (fun hk => ?_)
    · refine g_lv [] [] rfl ?_
      exact hk.out
    · refine g_iload_n C 1 dX0_sendAwayAllBut_15 rfl rfl (n := 16) rfl ?_
      refine g_iload_n C 2 dX0_sendAwayAllBut_16 rfl rfl (n := 17) rfl ?_
      refine g_ishr C dX0_sendAwayAllBut_17 (n := 18) rfl ?_
      refine g_iconst C (1 : Int32) dX0_sendAwayAllBut_18 (by decide) (n := 19) rfl ?_
      refine g_iand C dX0_sendAwayAllBut_19 (n := 20) rfl ?_
      refine g_iconst C (1 : Int32) dX0_sendAwayAllBut_20 (by decide) (n := 21) rfl ?_
      refine g_ic_ne C 44 dX0_sendAwayAllBut_21 (by decide) (n := 24) rfl hk (fun hk => ?_) (fun hk => ?_)
      · refine g_iinc C 2 (fun x13 => [(2, .int x13), (0, .ref (rr Θ 1 o0 0)), (1, .int p1)]) dX0_sendAwayAllBut_44 rfl (v := (a12.1 + (1 : Int32))) rfl (by decide) (fun _ => rfl) (n := 47) rfl hk (fun x13 hk => ?_)
        refine g_goto C 7 dX0_sendAwayAllBut_47 (by decide) ?_
        refine g_lv [1, 2, 0] [(0, .ref (rr Θ 1 o0 0)), (1, .int p1), (2, .int x13)] rfl ?_
        exact hk.out
      · refine g_aload_n C 0 dX0_sendAwayAllBut_24 rfl rfl (n := 25) rfl ?_
        refine g_getR C kc_1 (rt_1_9 (tB Θ) o0) ho0 (by decide) (by decide) wm_186 dX0_sendAwayAllBut_25 (n := 28) rfl ?_
        refine g_aload_n C 0 dX0_sendAwayAllBut_28 rfl rfl (n := 29) rfl ?_
        refine g_getI C kc_1 ft_1_10 ho0 (by decide) (by decide) wm_188 dX0_sendAwayAllBut_29 (n := 32) rfl ?_
        refine g_iload_n C 2 dX0_sendAwayAllBut_32 rfl rfl (n := 33) rfl ?_
        refine g_iast C an_5 ho0 dX0_sendAwayAllBut_33 (n := 34) rfl hk (fun _ h14 hk => ?_)
        refine g_aload_n C 0 dX0_sendAwayAllBut_34 rfl rfl (n := 35) rfl ?_
        refine g_dup C dX0_sendAwayAllBut_35 rfl (n := 36) rfl ?_
        refine g_getI C kc_1 ft_1_10 ho0 (by decide) (by decide) wm_188 dX0_sendAwayAllBut_36 (n := 39) rfl ?_
        refine g_iconst C (1 : Int32) dX0_sendAwayAllBut_39 (by decide) (n := 40) rfl ?_
        refine g_iadd C dX0_sendAwayAllBut_40 (n := 41) rfl ?_
        refine g_putI C kc_1 ft_1_10 ho0 (by decide) (by decide) rfl (fitI _) wm_188 dX0_sendAwayAllBut_41 (n := 44) rfl hk (fun h15 hk => ?_)
        refine g_iinc C 2 (fun x16 => [(2, .int x16), (0, .ref (rr Θ 1 o0 0)), (1, .int p1)]) dX0_sendAwayAllBut_44 rfl (v := (a12.1 + (1 : Int32))) rfl (by decide) (fun _ => rfl) (n := 47) rfl hk (fun x16 hk => ?_)
        refine g_goto C 7 dX0_sendAwayAllBut_47 (by decide) ?_
        refine g_lv [1, 2, 0] [(0, .ref (rr Θ 1 o0 0)), (1, .int p1), (2, .int x16)] rfl ?_
        exact hk.out
def f_X9_isSortedBy (p1 : Int32) (h : Mem) : Option (Bool × Mem) := obd (f_X0_copyFrom 1 0 h) (fun h1 => obd (f_X0_sendAwayAllBut 1 p1 h1) (fun h2 => ob2 (f_X0_stepsUntilSorted 1 (40 : Int32) h2) (fun r3 h4 => (if r3 = (-4 : Int32) then some (false, h4) else some (true, h4)))))
def rm_X9_isSortedBy : Room := { frames := 5, cells := 0, slots := 0, locals := 110 }
set_option maxHeartbeats 4000000 in
set_option maxRecDepth 100000 in
theorem L_X9_isSortedBy (Θ : Tht) (p1 : Int32) (h : Mem) (K : Bool × Mem → Prop) (hk : Ok (f_X9_isSortedBy p1 h) K) : CB Θ yX9_isSortedBy cX9_isSortedBy 2 (some .boolean) rm_X9_isSortedBy [.ref (rr Θ 0 0 0), .int p1] h K := by
  refine CB.of K [(0, .ref (rr Θ 0 0 0)), (1, .int p1)] (plainFor_of_name (by decide)) (Nat.le_of_ble_eq_true rfl) rfl (fun Γ C Rt => ?_)
  replace hk := rtB Rt hk
  unfold f_X9_isSortedBy at hk
  refine g_aload_n C 0 dX9_isSortedBy_0 rfl rfl (n := 1) rfl ?_
  refine g_getR C kc_0 (rt_0_1 (tB Θ) 0) (by decide) (by decide) (by decide) wm_363 dX9_isSortedBy_1 (n := 4) rfl ?_
  refine g_aload_n C 0 dX9_isSortedBy_4 rfl rfl (n := 5) rfl ?_
  refine g_getR C kc_0 (rt_0_0 (tB Θ) 0) (by decide) (by decide) (by decide) wm_362 dX9_isSortedBy_5 (n := 8) rfl ?_
  refine g_cVV C hk (fun K hk => L_X0_copyFrom Θ 1 (by decide) 0 (by decide) h K hk) lk_X9_86 kc_1 (by decide) (by decide) ⟨rfl, rfl⟩ ⟨Nat.le_of_ble_eq_true rfl, Nat.le_of_ble_eq_true rfl⟩ dX9_isSortedBy_8 rfl rfl (Nat.le_of_ble_eq_true rfl) (n := 11) rfl (fun h1 hk => ?_)
  refine g_aload_n C 0 dX9_isSortedBy_11 rfl rfl (n := 12) rfl ?_
  refine g_getR C kc_0 (rt_0_1 (tB Θ) 0) (by decide) (by decide) (by decide) wm_363 dX9_isSortedBy_12 (n := 15) rfl ?_
  refine g_iload_n C 1 dX9_isSortedBy_15 rfl rfl (n := 16) rfl ?_
  refine g_cVV C hk (fun K hk => L_X0_sendAwayAllBut Θ 1 (by decide) p1 h1 K hk) lk_X9_294 kc_1 (by decide) (by decide) ⟨rfl, rfl⟩ ⟨Nat.le_of_ble_eq_true rfl, Nat.le_of_ble_eq_true rfl⟩ dX9_isSortedBy_16 rfl rfl (Nat.le_of_ble_eq_true rfl) (n := 19) rfl (fun h2 hk => ?_)
  refine g_aload_n C 0 dX9_isSortedBy_19 rfl rfl (n := 20) rfl ?_
  refine g_getR C kc_0 (rt_0_1 (tB Θ) 0) (by decide) (by decide) (by decide) wm_363 dX9_isSortedBy_20 (n := 23) rfl ?_
  refine g_bipush C (40 : Int32) dX9_isSortedBy_23 (by decide) (n := 25) rfl ?_
  refine g_cVI C hk (fun K hk => L_X0_stepsUntilSorted Θ 1 (by decide) (40 : Int32) h2 K hk) lk_X9_201 kc_1 (by decide) (by decide) ⟨rfl, rfl⟩ ⟨Nat.le_of_ble_eq_true rfl, Nat.le_of_ble_eq_true rfl⟩ dX9_isSortedBy_25 rfl rfl (Nat.le_of_ble_eq_true rfl) (n := 28) rfl (fun r3 h4 hk => ?_)
  refine g_bipush C (-4 : Int32) dX9_isSortedBy_28 (by decide) (n := 30) rfl ?_
  refine g_ic_eq C 37 dX9_isSortedBy_30 (by decide) (n := 33) rfl hk (fun hk => ?_) (fun hk => ?_)
  · refine g_iconst C (0 : Int32) dX9_isSortedBy_37 (by decide) (n := 38) rfl ?_
    exact retB false rfl hk.out dX9_isSortedBy_38
  · refine g_iconst C (1 : Int32) dX9_isSortedBy_33 (by decide) (n := 34) rfl ?_
    refine g_goto C 38 dX9_isSortedBy_34 (by decide) ?_
    exact retB true rfl hk.out dX9_isSortedBy_38
def f_J6_bitCount_0f7a4 (p1 : Int32) (h : Mem) : Option (Int32) := bnd (p1 - ((ush p1 (1 : Int32)) &&& (1431655765 : Int32))) (fun x1 => bnd ((x1 &&& (858993459 : Int32)) + ((ush x1 (2 : Int32)) &&& (858993459 : Int32))) (fun x2 => bnd ((x2 + (ush x2 (4 : Int32))) &&& (252645135 : Int32)) (fun x3 => bnd (x3 + (ush x3 (8 : Int32))) (fun x4 => bnd (x4 + (ush x4 (16 : Int32))) (fun x5 => some (x5 &&& (63 : Int32)))))))
def rm_J6_bitCount_0f7a4 : Room := { frames := 0, cells := 0, slots := 0, locals := 0 }
set_option maxHeartbeats 4000000 in
set_option maxRecDepth 100000 in
theorem L_J6_bitCount_0f7a4 (Θ : Tht) (p1 : Int32) (h : Mem) (K : Int32 × Mem → Prop) (hk : Ok (f_J6_bitCount_0f7a4 p1 h) (fun r => K (r, h))) : CI Θ yJ6_bitCount_0f7a4 cJ6_bitCount_0f7a4 1 (some .int) rm_J6_bitCount_0f7a4 [.int p1] h K := by
  refine CI.of K [(0, .int p1)] (plainFor_of_name (by decide)) (Nat.le_of_ble_eq_true rfl) rfl (fun Γ C Rt => ?_)
  replace hk := rtIp Rt hk
  unfold f_J6_bitCount_0f7a4 at hk
  refine g_iload_n C 0 dJ6_bitCount_0f7a4_0 rfl rfl (n := 1) rfl ?_
  refine g_iload_n C 0 dJ6_bitCount_0f7a4_1 rfl rfl (n := 2) rfl ?_
  refine g_iconst C (1 : Int32) dJ6_bitCount_0f7a4_2 (by decide) (n := 3) rfl ?_
  refine g_iushr C dJ6_bitCount_0f7a4_3 (n := 4) rfl ?_
  refine g_ldc_w C (1431655765 : Int32) wm_743 dJ6_bitCount_0f7a4_4 (n := 7) rfl ?_
  refine g_iand C dJ6_bitCount_0f7a4_7 (n := 8) rfl ?_
  refine g_isub C dJ6_bitCount_0f7a4_8 (n := 9) rfl ?_
  refine g_nm hk (fun x1 hk => ?_)
  refine g_istore_n C [(0, .int x1)] dJ6_bitCount_0f7a4_9 rfl (by decide) rfl (n := 10) rfl ?_
  refine g_iload_n C 0 dJ6_bitCount_0f7a4_10 rfl rfl (n := 11) rfl ?_
  refine g_ldc_w C (858993459 : Int32) wm_744 dJ6_bitCount_0f7a4_11 (n := 14) rfl ?_
  refine g_iand C dJ6_bitCount_0f7a4_14 (n := 15) rfl ?_
  refine g_iload_n C 0 dJ6_bitCount_0f7a4_15 rfl rfl (n := 16) rfl ?_
  refine g_iconst C (2 : Int32) dJ6_bitCount_0f7a4_16 (by decide) (n := 17) rfl ?_
  refine g_iushr C dJ6_bitCount_0f7a4_17 (n := 18) rfl ?_
  refine g_ldc_w C (858993459 : Int32) wm_744 dJ6_bitCount_0f7a4_18 (n := 21) rfl ?_
  refine g_iand C dJ6_bitCount_0f7a4_21 (n := 22) rfl ?_
  refine g_iadd C dJ6_bitCount_0f7a4_22 (n := 23) rfl ?_
  refine g_nm hk (fun x2 hk => ?_)
  refine g_istore_n C [(0, .int x2)] dJ6_bitCount_0f7a4_23 rfl (by decide) rfl (n := 24) rfl ?_
  refine g_iload_n C 0 dJ6_bitCount_0f7a4_24 rfl rfl (n := 25) rfl ?_
  refine g_iload_n C 0 dJ6_bitCount_0f7a4_25 rfl rfl (n := 26) rfl ?_
  refine g_iconst C (4 : Int32) dJ6_bitCount_0f7a4_26 (by decide) (n := 27) rfl ?_
  refine g_iushr C dJ6_bitCount_0f7a4_27 (n := 28) rfl ?_
  refine g_iadd C dJ6_bitCount_0f7a4_28 (n := 29) rfl ?_
  refine g_ldc_w C (252645135 : Int32) wm_745 dJ6_bitCount_0f7a4_29 (n := 32) rfl ?_
  refine g_iand C dJ6_bitCount_0f7a4_32 (n := 33) rfl ?_
  refine g_nm hk (fun x3 hk => ?_)
  refine g_istore_n C [(0, .int x3)] dJ6_bitCount_0f7a4_33 rfl (by decide) rfl (n := 34) rfl ?_
  refine g_iload_n C 0 dJ6_bitCount_0f7a4_34 rfl rfl (n := 35) rfl ?_
  refine g_iload_n C 0 dJ6_bitCount_0f7a4_35 rfl rfl (n := 36) rfl ?_
  refine g_bipush C (8 : Int32) dJ6_bitCount_0f7a4_36 (by decide) (n := 38) rfl ?_
  refine g_iushr C dJ6_bitCount_0f7a4_38 (n := 39) rfl ?_
  refine g_iadd C dJ6_bitCount_0f7a4_39 (n := 40) rfl ?_
  refine g_nm hk (fun x4 hk => ?_)
  refine g_istore_n C [(0, .int x4)] dJ6_bitCount_0f7a4_40 rfl (by decide) rfl (n := 41) rfl ?_
  refine g_iload_n C 0 dJ6_bitCount_0f7a4_41 rfl rfl (n := 42) rfl ?_
  refine g_iload_n C 0 dJ6_bitCount_0f7a4_42 rfl rfl (n := 43) rfl ?_
  refine g_bipush C (16 : Int32) dJ6_bitCount_0f7a4_43 (by decide) (n := 45) rfl ?_
  refine g_iushr C dJ6_bitCount_0f7a4_45 (n := 46) rfl ?_
  refine g_iadd C dJ6_bitCount_0f7a4_46 (n := 47) rfl ?_
  refine g_nm hk (fun x5 hk => ?_)
  refine g_istore_n C [(0, .int x5)] dJ6_bitCount_0f7a4_47 rfl (by decide) rfl (n := 48) rfl ?_
  refine g_iload_n C 0 dJ6_bitCount_0f7a4_48 rfl rfl (n := 49) rfl ?_
  refine g_bipush C (63 : Int32) dJ6_bitCount_0f7a4_49 (by decide) (n := 51) rfl ?_
  refine g_iand C dJ6_bitCount_0f7a4_51 (n := 52) rfl ?_
  exact retI hk.out dJ6_bitCount_0f7a4_52
def f_X9_fewest (p1 : Int32) (h : Mem) : Option (Int32 × Mem) := obd (f_X9_within p1 (0 : Int32) (1 : Int32) h) (fun r1 => (if r1 = true then bnd ((h 1 4 0 0) + (1 : Int32)) (fun x2 => obd (lp fu (fun a19 => (if ((1 : Int32) <<< ((a19.2.2.2 1 4 0 0) &&& (31 : Int32))) ≤ a19.2.2.1 then some (.inr (a19.1, a19.2.1, a19.2.2.2)) else obd (f_J6_bitCount_0f7a4 a19.2.2.1 a19.2.2.2) (fun r20 => (if a19.2.1 ≤ r20 then bnd (a19.2.2.1 + (1 : Int32)) (fun x21 => some (.inl (a19.1, a19.2.1, x21, a19.2.2.2))) else ob2 (f_X9_isSortedBy a19.2.2.1 a19.2.2.2) (fun r22 h23 => (if r22 = true then obd (f_J6_bitCount_0f7a4 a19.2.2.1 h23) (fun r25 => bnd (a19.2.2.1 + (1 : Int32)) (fun x26 => some (.inl (a19.2.2.1, r25, x26, h23)))) else bnd (a19.2.2.1 + (1 : Int32)) (fun x24 => some (.inl (a19.1, a19.2.1, x24, h23))))))))) ((-4 : Int32), x2, (0 : Int32), h)) (fun e27 => (if e27.1 = (-4 : Int32) then some (e27.1, e27.2.2) else (if p1 = (1 : Int32) then some (e27.1, e27.2.2) else some (e27.2.1, e27.2.2))))) else some ((-1 : Int32), h)))
def rm_X9_fewest : Room := { frames := 6, cells := 0, slots := 0, locals := 131 }
set_option maxHeartbeats 4000000 in
set_option maxRecDepth 100000 in
theorem L_X9_fewest (Θ : Tht) (p1 : Int32) (h : Mem) (K : Int32 × Mem → Prop) (hk : Ok (f_X9_fewest p1 h) K) : CI Θ yX9_fewest cX9_fewest 5 (some .int) rm_X9_fewest [.ref (rr Θ 0 0 0), .int p1] h K := by
  refine CI.of K [(0, .ref (rr Θ 0 0 0)), (1, .int p1)] (plainFor_of_name (by decide)) (Nat.le_of_ble_eq_true rfl) rfl (fun Γ C Rt => ?_)
  replace hk := rtI Rt hk
  unfold f_X9_fewest at hk
  refine g_iload_n C 1 dX9_fewest_0 rfl rfl (n := 1) rfl ?_
  refine g_iconst C (0 : Int32) dX9_fewest_1 (by decide) (n := 2) rfl ?_
  refine g_iconst C (1 : Int32) dX9_fewest_2 (by decide) (n := 3) rfl ?_
  refine g_cSBp C hk (fun K hk => L_X9_within Θ p1 (0 : Int32) (1 : Int32) h K hk) lk_X9_69 ⟨rfl, rfl⟩ ⟨Nat.le_of_ble_eq_true rfl, Nat.le_of_ble_eq_true rfl⟩ dX9_fewest_3 rfl rfl (Nat.le_of_ble_eq_true rfl) (n := 6) rfl (fun r1 hk => ?_)
  refine g_bt C 11 dX9_fewest_6 (by decide) (n := 9) rfl hk (fun hk => ?_) (fun hk => ?_)
  · refine g_bipush C (-4 : Int32) dX9_fewest_11 (by decide) (n := 13) rfl ?_
    refine g_istore_n C [(2, .int (-4 : Int32)), (0, .ref (rr Θ 0 0 0)), (1, .int p1)] dX9_fewest_13 rfl (by decide) rfl (n := 14) rfl ?_
    refine g_aload_n C 1 dX9_fewest_14 rfl rfl (n := 15) rfl ?_
    refine g_getR C kc_0 (rt_0_0 (tB Θ) 0) (by decide) (by decide) (by decide) wm_362 dX9_fewest_15 (n := 18) rfl ?_
    refine g_getI C kc_1 ft_1_4 (by decide) (by decide) (by decide) wm_174 dX9_fewest_18 (n := 21) rfl ?_
    refine g_iconst C (1 : Int32) dX9_fewest_21 (by decide) (n := 22) rfl ?_
    refine g_iadd C dX9_fewest_22 (n := 23) rfl ?_
    refine g_nm hk (fun x2 hk => ?_)
    refine g_istore_n C [(3, .int x2), (2, .int (-4 : Int32)), (0, .ref (rr Θ 0 0 0)), (1, .int p1)] dX9_fewest_23 rfl (by decide) rfl (n := 24) rfl ?_
    refine g_iconst C (0 : Int32) dX9_fewest_24 (by decide) (n := 25) rfl ?_
    refine g_istore C [(4, .int (0 : Int32)), (3, .int x2), (2, .int (-4 : Int32)), (0, .ref (rr Θ 0 0 0)), (1, .int p1)] dX9_fewest_25 (by decide) rfl (n := 27) rfl ?_
    refine g_lv [3, 4, 2, 1, 0] [(0, .ref (rr Θ 0 0 0)), (1, .int p1), (2, .int (-4 : Int32)), (3, .int x2), (4, .int (0 : Int32))] rfl ?_
    refine Ok.join hk (fun e27 => G Θ Γ 74 [(1, .int p1), (2, .int e27.1), (3, .int e27.2.1)] [] e27.2.2) (fun e27 hk => ?_) (fun hk => ?_)
    · refine g_iload_n C 1 dX9_fewest_74 rfl rfl (n := 75) rfl ?_
      refine g_bipush C (-4 : Int32) dX9_fewest_75 (by decide) (n := 77) rfl ?_
      refine g_ic_eq C 85 dX9_fewest_77 (by decide) (n := 80) rfl hk (fun hk => ?_) (fun hk => ?_)
      · refine g_iload_n C 1 dX9_fewest_85 rfl rfl (n := 86) rfl ?_
        refine g_goto C 90 dX9_fewest_86 (by decide) ?_
        exact retI hk.out dX9_fewest_90
      · refine g_iload_n C 0 dX9_fewest_80 rfl rfl (n := 81) rfl ?_
        refine g_iconst C (1 : Int32) dX9_fewest_81 (by decide) (n := 82) rfl ?_
        refine g_ic_ne C 89 dX9_fewest_82 (by decide) (n := 85) rfl hk (fun hk => ?_) (fun hk => ?_)
        · refine g_iload_n C 2 dX9_fewest_89 rfl rfl (n := 90) rfl ?_
          exact retI hk.out dX9_fewest_90
        · refine g_iload_n C 1 dX9_fewest_85 rfl rfl (n := 86) rfl ?_
          refine g_goto C 90 dX9_fewest_86 (by decide) ?_
          exact retI hk.out dX9_fewest_90
    · refine Ok.loop (fun a19 => G Θ Γ 27 [(0, .ref (rr Θ 0 0 0)), (1, .int p1), (2, .int a19.1), (3, .int a19.2.1), (4, .int a19.2.2.1)] [] a19.2.2.2) (fun a19 hk => ?_) _ _ hk
      refine g_iload C 4 dX9_fewest_27 rfl (n := 29) rfl ?_
      refine g_iconst C (1 : Int32) dX9_fewest_29 (by decide) (n := 30) rfl ?_
      refine g_aload_n C 0 dX9_fewest_30 rfl rfl (n := 31) rfl ?_
      refine g_getR C kc_0 (rt_0_0 (tB Θ) 0) (by decide) (by decide) (by decide) wm_362 dX9_fewest_31 (n := 34) rfl ?_
      refine g_getI C kc_1 ft_1_4 (by decide) (by decide) (by decide) wm_174 dX9_fewest_34 (n := 37) rfl ?_
      refine g_ishl C dX9_fewest_37 (n := 38) rfl ?_
      refine g_ic_ge C 74 dX9_fewest_38 (by decide) (n := 41) rfl hk (fun hk => ?_) (fun hk => ?_)
      · refine g_lv [1, 2, 3] [(1, .int p1), (2, .int a19.1), (3, .int a19.2.1)] rfl ?_
        exact hk.out
      · refine g_iload C 4 dX9_fewest_41 rfl (n := 43) rfl ?_
        refine g_cSIp C hk (fun K hk => L_J6_bitCount_0f7a4 Θ a19.2.2.1 a19.2.2.2 K hk) lk_X9_216 ⟨rfl, rfl⟩ ⟨Nat.le_of_ble_eq_true rfl, Nat.le_of_ble_eq_true rfl⟩ dX9_fewest_43 rfl rfl (Nat.le_of_ble_eq_true rfl) (n := 46) rfl (fun r20 hk => ?_)
        refine g_iload_n C 3 dX9_fewest_46 rfl rfl (n := 47) rfl ?_
        refine g_ic_ge C 68 dX9_fewest_47 (by decide) (n := 50) rfl hk (fun hk => ?_) (fun hk => ?_)
        · refine g_iinc C 4 (fun x21 => [(4, .int x21), (0, .ref (rr Θ 0 0 0)), (1, .int p1), (2, .int a19.1), (3, .int a19.2.1)]) dX9_fewest_68 rfl (v := (a19.2.2.1 + (1 : Int32))) rfl (by decide) (fun _ => rfl) (n := 71) rfl hk (fun x21 hk => ?_)
          refine g_goto C 27 dX9_fewest_71 (by decide) ?_
          refine g_lv [1, 2, 3, 4, 0] [(0, .ref (rr Θ 0 0 0)), (1, .int p1), (2, .int a19.1), (3, .int a19.2.1), (4, .int x21)] rfl ?_
          exact hk.out
        · refine g_aload_n C 0 dX9_fewest_50 rfl rfl (n := 51) rfl ?_
          refine g_iload C 4 dX9_fewest_51 rfl (n := 53) rfl ?_
          refine g_cVB C hk (fun K hk => L_X9_isSortedBy Θ a19.2.2.1 a19.2.2.2 K hk) lk_X9_221 kc_0 (by decide) (by decide) ⟨rfl, rfl⟩ ⟨Nat.le_of_ble_eq_true rfl, Nat.le_of_ble_eq_true rfl⟩ dX9_fewest_53 rfl rfl (Nat.le_of_ble_eq_true rfl) (n := 56) rfl (fun r22 h23 hk => ?_)
          refine g_bf C 68 dX9_fewest_56 (by decide) (n := 59) rfl hk (fun hk => ?_) (fun hk => ?_)
          · refine g_iinc C 4 (fun x24 => [(4, .int x24), (0, .ref (rr Θ 0 0 0)), (1, .int p1), (2, .int a19.1), (3, .int a19.2.1)]) dX9_fewest_68 rfl (v := (a19.2.2.1 + (1 : Int32))) rfl (by decide) (fun _ => rfl) (n := 71) rfl hk (fun x24 hk => ?_)
            refine g_goto C 27 dX9_fewest_71 (by decide) ?_
            refine g_lv [1, 2, 3, 4, 0] [(0, .ref (rr Θ 0 0 0)), (1, .int p1), (2, .int a19.1), (3, .int a19.2.1), (4, .int x24)] rfl ?_
            exact hk.out
          · refine g_iload C 4 dX9_fewest_59 rfl (n := 61) rfl ?_
            refine g_istore_n C [(2, .int a19.2.2.1), (0, .ref (rr Θ 0 0 0)), (1, .int p1), (3, .int a19.2.1), (4, .int a19.2.2.1)] dX9_fewest_61 rfl (by decide) rfl (n := 62) rfl ?_
            refine g_iload C 4 dX9_fewest_62 rfl (n := 64) rfl ?_
            refine g_cSIp C hk (fun K hk => L_J6_bitCount_0f7a4 Θ a19.2.2.1 h23 K hk) lk_X9_216 ⟨rfl, rfl⟩ ⟨Nat.le_of_ble_eq_true rfl, Nat.le_of_ble_eq_true rfl⟩ dX9_fewest_64 rfl rfl (Nat.le_of_ble_eq_true rfl) (n := 67) rfl (fun r25 hk => ?_)
            refine g_istore_n C [(3, .int r25), (2, .int a19.2.2.1), (0, .ref (rr Θ 0 0 0)), (1, .int p1), (4, .int a19.2.2.1)] dX9_fewest_67 rfl (by decide) rfl (n := 68) rfl ?_
            refine g_iinc C 4 (fun x26 => [(4, .int x26), (3, .int r25), (2, .int a19.2.2.1), (0, .ref (rr Θ 0 0 0)), (1, .int p1)]) dX9_fewest_68 rfl (v := (a19.2.2.1 + (1 : Int32))) rfl (by decide) (fun _ => rfl) (n := 71) rfl hk (fun x26 hk => ?_)
            refine g_goto C 27 dX9_fewest_71 (by decide) ?_
            refine g_lv [3, 4, 2, 1, 0] [(0, .ref (rr Θ 0 0 0)), (1, .int p1), (2, .int a19.2.2.1), (3, .int r25), (4, .int x26)] rfl ?_
            exact hk.out
  · refine g_iconst C (-1 : Int32) dX9_fewest_9 (by decide) (n := 10) rfl ?_
    exact retI hk.out dX9_fewest_10
def f_X9_forget (p1 : Int32) (h : Mem) : Option (Int32 × Mem) := obd (f_X9_within p1 (0 : Int32) (h 8 0 0 0) h) (fun r1 => (if r1 = true then bnd (h 8 0 0 0) (fun x2 => bnd (up h 8 0 0 0 p1) (fun h3 => some (x2, h3))) else some ((-1 : Int32), h)))
def rm_X9_forget : Room := { frames := 1, cells := 0, slots := 0, locals := 22 }
set_option maxHeartbeats 4000000 in
set_option maxRecDepth 100000 in
theorem L_X9_forget (Θ : Tht) (p1 : Int32) (h : Mem) (K : Int32 × Mem → Prop) (hk : Ok (f_X9_forget p1 h) K) : CI Θ yX9_forget cX9_forget 3 (some .int) rm_X9_forget [.ref (rr Θ 0 0 0), .int p1] h K := by
  refine CI.of K [(0, .ref (rr Θ 0 0 0)), (1, .int p1)] (plainFor_of_name (by decide)) (Nat.le_of_ble_eq_true rfl) rfl (fun Γ C Rt => ?_)
  replace hk := rtI Rt hk
  unfold f_X9_forget at hk
  refine g_iload_n C 1 dX9_forget_0 rfl rfl (n := 1) rfl ?_
  refine g_iconst C (0 : Int32) dX9_forget_1 (by decide) (n := 2) rfl ?_
  refine g_aload_n C 0 dX9_forget_2 rfl rfl (n := 3) rfl ?_
  refine g_getR C kc_0 (rt_0_2 (tB Θ) 0) (by decide) (by decide) (by decide) wm_364 dX9_forget_3 (n := 6) rfl ?_
  refine g_getI C kc_8 ft_8_0 (by decide) (by decide) (by decide) wm_219 dX9_forget_6 (n := 9) rfl ?_
  refine g_cSBp C hk (fun K hk => L_X9_within Θ p1 (0 : Int32) (h 8 0 0 0) h K hk) lk_X9_69 ⟨rfl, rfl⟩ ⟨Nat.le_of_ble_eq_true rfl, Nat.le_of_ble_eq_true rfl⟩ dX9_forget_9 rfl rfl (Nat.le_of_ble_eq_true rfl) (n := 12) rfl (fun r1 hk => ?_)
  refine g_bt C 17 dX9_forget_12 (by decide) (n := 15) rfl hk (fun hk => ?_) (fun hk => ?_)
  · refine g_aload_n C 0 dX9_forget_17 rfl rfl (n := 18) rfl ?_
    refine g_getR C kc_0 (rt_0_2 (tB Θ) 0) (by decide) (by decide) (by decide) wm_364 dX9_forget_18 (n := 21) rfl ?_
    refine g_getI C kc_8 ft_8_0 (by decide) (by decide) (by decide) wm_219 dX9_forget_21 (n := 24) rfl ?_
    refine g_nm hk (fun x2 hk => ?_)
    refine g_istore_n C [(2, .int x2), (0, .ref (rr Θ 0 0 0)), (1, .int p1)] dX9_forget_24 rfl (by decide) rfl (n := 25) rfl ?_
    refine g_aload_n C 1 dX9_forget_25 rfl rfl (n := 26) rfl ?_
    refine g_getR C kc_0 (rt_0_2 (tB Θ) 0) (by decide) (by decide) (by decide) wm_364 dX9_forget_26 (n := 29) rfl ?_
    refine g_iload_n C 2 dX9_forget_29 rfl rfl (n := 30) rfl ?_
    refine g_putI C kc_8 ft_8_0 (by decide) (by decide) (by decide) rfl (fitI _) wm_219 dX9_forget_30 (n := 33) rfl hk (fun h3 hk => ?_)
    refine g_iload_n C 0 dX9_forget_33 rfl rfl (n := 34) rfl ?_
    exact retI hk.out dX9_forget_34
  · refine g_iconst C (-1 : Int32) dX9_forget_15 (by decide) (n := 16) rfl ?_
    exact retI hk.out dX9_forget_16
def f_X9_go (p1 : Int32) (h : Mem) : Option (Int32 × Mem) := obd (f_X9_within p1 (0 : Int32) (60 : Int32) h) (fun r1 => (if r1 = true then (if ((h 1 8 0 0) + p1) < (1000 : Int32) then obd (f_X0_goSteps 0 p1 h) (fun h2 => obd (f_X0_countRight 0 h2) (fun r3 => some (r3, h2))) else some ((-3 : Int32), h)) else some ((-1 : Int32), h)))
def rm_X9_go : Room := { frames := 5, cells := 0, slots := 0, locals := 109 }
set_option maxHeartbeats 4000000 in
set_option maxRecDepth 100000 in
theorem L_X9_go (Θ : Tht) (p1 : Int32) (h : Mem) (K : Int32 × Mem → Prop) (hk : Ok (f_X9_go p1 h) K) : CI Θ yX9_go cX9_go 2 (some .int) rm_X9_go [.ref (rr Θ 0 0 0), .int p1] h K := by
  refine CI.of K [(0, .ref (rr Θ 0 0 0)), (1, .int p1)] (plainFor_of_name (by decide)) (Nat.le_of_ble_eq_true rfl) rfl (fun Γ C Rt => ?_)
  replace hk := rtI Rt hk
  unfold f_X9_go at hk
  refine g_iload_n C 1 dX9_go_0 rfl rfl (n := 1) rfl ?_
  refine g_iconst C (0 : Int32) dX9_go_1 (by decide) (n := 2) rfl ?_
  refine g_bipush C (60 : Int32) dX9_go_2 (by decide) (n := 4) rfl ?_
  refine g_cSBp C hk (fun K hk => L_X9_within Θ p1 (0 : Int32) (60 : Int32) h K hk) lk_X9_69 ⟨rfl, rfl⟩ ⟨Nat.le_of_ble_eq_true rfl, Nat.le_of_ble_eq_true rfl⟩ dX9_go_4 rfl rfl (Nat.le_of_ble_eq_true rfl) (n := 7) rfl (fun r1 hk => ?_)
  refine g_bt C 12 dX9_go_7 (by decide) (n := 10) rfl hk (fun hk => ?_) (fun hk => ?_)
  · refine g_aload_n C 0 dX9_go_12 rfl rfl (n := 13) rfl ?_
    refine g_getR C kc_0 (rt_0_0 (tB Θ) 0) (by decide) (by decide) (by decide) wm_362 dX9_go_13 (n := 16) rfl ?_
    refine g_getI C kc_1 ft_1_8 (by decide) (by decide) (by decide) wm_185 dX9_go_16 (n := 19) rfl ?_
    refine g_iload_n C 1 dX9_go_19 rfl rfl (n := 20) rfl ?_
    refine g_iadd C dX9_go_20 (n := 21) rfl ?_
    refine g_sipush C (1000 : Int32) dX9_go_21 (by decide) (n := 24) rfl ?_
    refine g_ic_lt C 30 dX9_go_24 (by decide) (n := 27) rfl hk (fun hk => ?_) (fun hk => ?_)
    · refine g_aload_n C 0 dX9_go_30 rfl rfl (n := 31) rfl ?_
      refine g_getR C kc_0 (rt_0_0 (tB Θ) 0) (by decide) (by decide) (by decide) wm_362 dX9_go_31 (n := 34) rfl ?_
      refine g_iload_n C 1 dX9_go_34 rfl rfl (n := 35) rfl ?_
      refine g_cVV C hk (fun K hk => L_X0_goSteps Θ 0 (by decide) p1 h K hk) lk_X9_188 kc_1 (by decide) (by decide) ⟨rfl, rfl⟩ ⟨Nat.le_of_ble_eq_true rfl, Nat.le_of_ble_eq_true rfl⟩ dX9_go_35 rfl rfl (Nat.le_of_ble_eq_true rfl) (n := 38) rfl (fun h2 hk => ?_)
      refine g_aload_n C 0 dX9_go_38 rfl rfl (n := 39) rfl ?_
      refine g_getR C kc_0 (rt_0_0 (tB Θ) 0) (by decide) (by decide) (by decide) wm_362 dX9_go_39 (n := 42) rfl ?_
      refine g_cVIp C hk (fun K hk => L_X0_countRight Θ 0 (by decide) h2 K hk) lk_X9_192 kc_1 (by decide) (by decide) ⟨rfl, rfl⟩ ⟨Nat.le_of_ble_eq_true rfl, Nat.le_of_ble_eq_true rfl⟩ dX9_go_42 rfl rfl (Nat.le_of_ble_eq_true rfl) (n := 45) rfl (fun r3 hk => ?_)
      exact retI hk.out dX9_go_45
    · refine g_bipush C (-3 : Int32) dX9_go_27 (by decide) (n := 29) rfl ?_
      exact retI hk.out dX9_go_29
  · refine g_iconst C (-1 : Int32) dX9_go_10 (by decide) (n := 11) rfl ?_
    exact retI hk.out dX9_go_11
def f_X0_greatestClaw (o0 : Nat) (h : Mem) : Option (Int32) := obd (lp fu (fun a9 => (if (h 1 4 o0 0) ≤ a9.2 then some (.inr a9.1) else gd (inb a9.2 4) (obd (f_J9_max_7cf53 a9.1 (h 7 0 o0 a9.2.toNatClampNeg) h) (fun r11 => bnd (a9.2 + (1 : Int32)) (fun x12 => some (.inl (r11, x12))))))) ((0 : Int32), (0 : Int32))) (fun e13 => some e13)
def rm_X0_greatestClaw : Room := { frames := 1, cells := 0, slots := 0, locals := 21 }
set_option maxHeartbeats 4000000 in
set_option maxRecDepth 100000 in
theorem L_X0_greatestClaw (Θ : Tht) (o0 : Nat) (ho0 : o0 < 5) (h : Mem) (K : Int32 × Mem → Prop) (hk : Ok (f_X0_greatestClaw o0 h) (fun r => K (r, h))) : CI Θ yX0_greatestClaw cX0_greatestClaw 3 (some .int) rm_X0_greatestClaw [.ref (rr Θ 1 o0 0)] h K := by
  refine CI.of K [(0, .ref (rr Θ 1 o0 0))] (plainFor_of_name (by decide)) (Nat.le_of_ble_eq_true rfl) rfl (fun Γ C Rt => ?_)
  replace hk := rtIp Rt hk
  unfold f_X0_greatestClaw at hk
  refine g_iconst C (0 : Int32) dX0_greatestClaw_0 (by decide) (n := 1) rfl ?_
  refine g_istore_n C [(1, .int (0 : Int32)), (0, .ref (rr Θ 1 o0 0))] dX0_greatestClaw_1 rfl (by decide) rfl (n := 2) rfl ?_
  refine g_iconst C (0 : Int32) dX0_greatestClaw_2 (by decide) (n := 3) rfl ?_
  refine g_istore_n C [(2, .int (0 : Int32)), (1, .int (0 : Int32)), (0, .ref (rr Θ 1 o0 0))] dX0_greatestClaw_3 rfl (by decide) rfl (n := 4) rfl ?_
  refine g_lv [2, 1, 0] [(0, .ref (rr Θ 1 o0 0)), (1, .int (0 : Int32)), (2, .int (0 : Int32))] rfl ?_
  refine Ok.join hk (fun e13 => G Θ Γ 32 [(1, .int e13)] [] h) (fun e13 hk => ?_) (fun hk => ?_)
  · refine g_iload_n C 0 dX0_greatestClaw_32 rfl rfl (n := 33) rfl ?_
    exact retI hk.out dX0_greatestClaw_33
  · refine Ok.loop (fun a9 => G Θ Γ 4 [(0, .ref (rr Θ 1 o0 0)), (1, .int a9.1), (2, .int a9.2)] [] h) (fun a9 hk => ?_) _ _ hk
    refine g_iload_n C 2 dX0_greatestClaw_4 rfl rfl (n := 5) rfl ?_
    refine g_aload_n C 0 dX0_greatestClaw_5 rfl rfl (n := 6) rfl ?_
    refine g_getI C kc_1 ft_1_4 ho0 (by decide) (by decide) wm_172 dX0_greatestClaw_6 (n := 9) rfl ?_
    refine g_ic_ge C 32 dX0_greatestClaw_9 (by decide) (n := 12) rfl hk (fun hk => ?_) (fun hk => ?_)
    · refine g_lv [1] [(1, .int a9.1)] rfl ?_
      exact hk.out
    · refine g_iload_n C 1 dX0_greatestClaw_12 rfl rfl (n := 13) rfl ?_
      refine g_aload_n C 0 dX0_greatestClaw_13 rfl rfl (n := 14) rfl ?_
      refine g_getR C kc_1 (rt_1_5 (tB Θ) o0) ho0 (by decide) (by decide) wm_176 dX0_greatestClaw_14 (n := 17) rfl ?_
      refine g_iload_n C 2 dX0_greatestClaw_17 rfl rfl (n := 18) rfl ?_
      refine g_aald C ar_4 ho0 dX0_greatestClaw_18 (n := 19) rfl hk (fun hg10 hk => ?_)
      refine g_getI C kc_7 ft_7_0 ho0 (inb_lt hg10) (by decide) wm_134 dX0_greatestClaw_19 (n := 22) rfl ?_
      refine g_cSIp C hk (fun K hk => L_J9_max_7cf53 Θ a9.1 (h 7 0 o0 a9.2.toNatClampNeg) h K hk) lk_X0_104 ⟨rfl, rfl⟩ ⟨Nat.le_of_ble_eq_true rfl, Nat.le_of_ble_eq_true rfl⟩ dX0_greatestClaw_22 rfl rfl (Nat.le_of_ble_eq_true rfl) (n := 25) rfl (fun r11 hk => ?_)
      refine g_istore_n C [(1, .int r11), (0, .ref (rr Θ 1 o0 0)), (2, .int a9.2)] dX0_greatestClaw_25 rfl (by decide) rfl (n := 26) rfl ?_
      refine g_iinc C 2 (fun x12 => [(2, .int x12), (1, .int r11), (0, .ref (rr Θ 1 o0 0))]) dX0_greatestClaw_26 rfl (v := (a9.2 + (1 : Int32))) rfl (by decide) (fun _ => rfl) (n := 29) rfl hk (fun x12 hk => ?_)
      refine g_goto C 4 dX0_greatestClaw_29 (by decide) ?_
      refine g_lv [2, 1, 0] [(0, .ref (rr Θ 1 o0 0)), (1, .int r11), (2, .int x12)] rfl ?_
      exact hk.out
def f_J9_min_7cf53 (p1 : Int32) (p2 : Int32) (h : Mem) : Option (Int32) := (if p2 < p1 then some p2 else some p1)
def rm_J9_min_7cf53 : Room := { frames := 0, cells := 0, slots := 0, locals := 0 }
set_option maxHeartbeats 4000000 in
set_option maxRecDepth 100000 in
theorem L_J9_min_7cf53 (Θ : Tht) (p1 : Int32) (p2 : Int32) (h : Mem) (K : Int32 × Mem → Prop) (hk : Ok (f_J9_min_7cf53 p1 p2 h) (fun r => K (r, h))) : CI Θ yJ9_min_7cf53 cJ9_min_7cf53 2 (some .int) rm_J9_min_7cf53 [.int p1, .int p2] h K := by
  refine CI.of K [(0, .int p1), (1, .int p2)] (by decide +kernel) (Nat.le_of_ble_eq_true rfl) rfl (fun Γ C Rt => ?_)
  replace hk := rtIp Rt hk
  unfold f_J9_min_7cf53 at hk
  refine g_iload_n C 0 dJ9_min_7cf53_0 rfl rfl (n := 1) rfl ?_
  refine g_iload_n C 1 dJ9_min_7cf53_1 rfl rfl (n := 2) rfl ?_
  refine g_ic_gt C 9 dJ9_min_7cf53_2 (by decide) (n := 5) rfl hk (fun hk => ?_) (fun hk => ?_)
  · refine g_iload_n C 1 dJ9_min_7cf53_9 rfl rfl (n := 10) rfl ?_
    exact retI hk.out dJ9_min_7cf53_10
  · refine g_iload_n C 0 dJ9_min_7cf53_5 rfl rfl (n := 6) rfl ?_
    refine g_goto C 10 dJ9_min_7cf53_6 (by decide) ?_
    exact retI hk.out dJ9_min_7cf53_10
def f_X0_growWeeks (o0 : Nat) (p1 : Int32) (h : Mem) : Option (Mem) := obd (lp fu (fun a21 => (if (a21.2 1 4 o0 0) ≤ a21.1 then some (.inr a21.2) else gd (inb a21.1 4) (gd (inb a21.1 4) (obd (f_J9_min_7cf53 (9 : Int32) ((a21.2 7 0 o0 a21.1.toNatClampNeg) + p1) a21.2) (fun r24 => bnd (up a21.2 7 0 o0 a21.1.toNatClampNeg r24) (fun h25 => gd (inb a21.1 4) (gd (inb a21.1 4) (obd (f_J9_min_7cf53 (9 : Int32) ((h25 7 1 o0 a21.1.toNatClampNeg) + p1) h25) (fun r28 => bnd (up h25 7 1 o0 a21.1.toNatClampNeg r28) (fun h29 => bnd (a21.1 + (1 : Int32)) (fun x30 => some (.inl (x30, h29))))))))))))) ((0 : Int32), h)) (fun e31 => some e31)
def rm_X0_growWeeks : Room := { frames := 1, cells := 0, slots := 0, locals := 21 }
set_option maxHeartbeats 4000000 in
set_option maxRecDepth 100000 in
theorem L_X0_growWeeks (Θ : Tht) (o0 : Nat) (ho0 : o0 < 5) (p1 : Int32) (h : Mem) (K : Mem → Prop) (hk : Ok (f_X0_growWeeks o0 p1 h) K) : CV Θ yX0_growWeeks cX0_growWeeks 3 none rm_X0_growWeeks [.ref (rr Θ 1 o0 0), .int p1] h K := by
  refine CV.of K [(0, .ref (rr Θ 1 o0 0)), (1, .int p1)] (plainFor_of_name (by decide)) (Nat.le_of_ble_eq_true rfl) rfl (fun Γ C Rt => ?_)
  replace hk := rtV Rt hk
  unfold f_X0_growWeeks at hk
  refine g_iconst C (0 : Int32) dX0_growWeeks_0 (by decide) (n := 1) rfl ?_
  refine g_istore_n C [(2, .int (0 : Int32)), (0, .ref (rr Θ 1 o0 0)), (1, .int p1)] dX0_growWeeks_1 rfl (by decide) rfl (n := 2) rfl ?_
  refine g_lv [1, 2, 0] [(0, .ref (rr Θ 1 o0 0)), (1, .int p1), (2, .int (0 : Int32))] rfl ?_
  refine Ok.join hk (fun e31 => G Θ Γ 66 [] [] e31) (fun e31 hk => ?_) (fun hk => ?_)
  · exact retV hk.out dX0_growWeeks_66
  · refine Ok.loop (fun a21 => G Θ Γ 2 [(0, .ref (rr Θ 1 o0 0)), (1, .int p1), (2, .int a21.1)] [] a21.2) (fun a21 hk => ?_) _ _ hk
    refine g_iload_n C 2 dX0_growWeeks_2 rfl rfl (n := 3) rfl ?_
    refine g_aload_n C 0 dX0_growWeeks_3 rfl rfl (n := 4) rfl ?_
    refine g_getI C kc_1 ft_1_4 ho0 (by decide) (by decide) wm_172 dX0_growWeeks_4 (n := 7) rfl ?_
    refine g_ic_ge C 66 dX0_growWeeks_7 (by decide) (n := 10) rfl hk (fun hk => ?_) (fun hk => ?_)
    · refine g_lv [] [] rfl ?_
      exact hk.out
    · refine g_aload_n C 0 dX0_growWeeks_10 rfl rfl (n := 11) rfl ?_
      refine g_getR C kc_1 (rt_1_5 (tB Θ) o0) ho0 (by decide) (by decide) wm_176 dX0_growWeeks_11 (n := 14) rfl ?_
      refine g_iload_n C 2 dX0_growWeeks_14 rfl rfl (n := 15) rfl ?_
      refine g_aald C ar_4 ho0 dX0_growWeeks_15 (n := 16) rfl hk (fun hg22 hk => ?_)
      refine g_bipush C (9 : Int32) dX0_growWeeks_16 (by decide) (n := 18) rfl ?_
      refine g_aload_n C 0 dX0_growWeeks_18 rfl rfl (n := 19) rfl ?_
      refine g_getR C kc_1 (rt_1_5 (tB Θ) o0) ho0 (by decide) (by decide) wm_176 dX0_growWeeks_19 (n := 22) rfl ?_
      refine g_iload_n C 2 dX0_growWeeks_22 rfl rfl (n := 23) rfl ?_
      refine g_aald C ar_4 ho0 dX0_growWeeks_23 (n := 24) rfl hk (fun hg23 hk => ?_)
      refine g_getI C kc_7 ft_7_0 ho0 (inb_lt hg23) (by decide) wm_134 dX0_growWeeks_24 (n := 27) rfl ?_
      refine g_iload_n C 1 dX0_growWeeks_27 rfl rfl (n := 28) rfl ?_
      refine g_iadd C dX0_growWeeks_28 (n := 29) rfl ?_
      refine g_cSIp C hk (fun K hk => L_J9_min_7cf53 Θ (9 : Int32) ((a21.2 7 0 o0 a21.1.toNatClampNeg) + p1) a21.2 K hk) lk_X0_98 ⟨rfl, rfl⟩ ⟨Nat.le_of_ble_eq_true rfl, Nat.le_of_ble_eq_true rfl⟩ dX0_growWeeks_29 rfl rfl (Nat.le_of_ble_eq_true rfl) (n := 32) rfl (fun r24 hk => ?_)
      refine g_putI C kc_7 ft_7_0 ho0 (inb_lt hg22) (by decide) rfl (fitI _) wm_134 dX0_growWeeks_32 (n := 35) rfl hk (fun h25 hk => ?_)
      refine g_aload_n C 0 dX0_growWeeks_35 rfl rfl (n := 36) rfl ?_
      refine g_getR C kc_1 (rt_1_5 (tB Θ) o0) ho0 (by decide) (by decide) wm_176 dX0_growWeeks_36 (n := 39) rfl ?_
      refine g_iload_n C 2 dX0_growWeeks_39 rfl rfl (n := 40) rfl ?_
      refine g_aald C ar_4 ho0 dX0_growWeeks_40 (n := 41) rfl hk (fun hg26 hk => ?_)
      refine g_bipush C (9 : Int32) dX0_growWeeks_41 (by decide) (n := 43) rfl ?_
      refine g_aload_n C 0 dX0_growWeeks_43 rfl rfl (n := 44) rfl ?_
      refine g_getR C kc_1 (rt_1_5 (tB Θ) o0) ho0 (by decide) (by decide) wm_176 dX0_growWeeks_44 (n := 47) rfl ?_
      refine g_iload_n C 2 dX0_growWeeks_47 rfl rfl (n := 48) rfl ?_
      refine g_aald C ar_4 ho0 dX0_growWeeks_48 (n := 49) rfl hk (fun hg27 hk => ?_)
      refine g_getI C kc_7 ft_7_1 ho0 (inb_lt hg27) (by decide) wm_137 dX0_growWeeks_49 (n := 52) rfl ?_
      refine g_iload_n C 1 dX0_growWeeks_52 rfl rfl (n := 53) rfl ?_
      refine g_iadd C dX0_growWeeks_53 (n := 54) rfl ?_
      refine g_cSIp C hk (fun K hk => L_J9_min_7cf53 Θ (9 : Int32) ((h25 7 1 o0 a21.1.toNatClampNeg) + p1) h25 K hk) lk_X0_98 ⟨rfl, rfl⟩ ⟨Nat.le_of_ble_eq_true rfl, Nat.le_of_ble_eq_true rfl⟩ dX0_growWeeks_54 rfl rfl (Nat.le_of_ble_eq_true rfl) (n := 57) rfl (fun r28 hk => ?_)
      refine g_putI C kc_7 ft_7_1 ho0 (inb_lt hg26) (by decide) rfl (fitI _) wm_137 dX0_growWeeks_57 (n := 60) rfl hk (fun h29 hk => ?_)
      refine g_iinc C 2 (fun x30 => [(2, .int x30), (0, .ref (rr Θ 1 o0 0)), (1, .int p1)]) dX0_growWeeks_60 rfl (v := (a21.1 + (1 : Int32))) rfl (by decide) (fun _ => rfl) (n := 63) rfl hk (fun x30 hk => ?_)
      refine g_goto C 2 dX0_growWeeks_63 (by decide) ?_
      refine g_lv [1, 2, 0] [(0, .ref (rr Θ 1 o0 0)), (1, .int p1), (2, .int x30)] rfl ?_
      exact hk.out
def f_X9_grow  (h : Mem) : Option (Int32 × Mem) := (if (h 1 4 0 0) = 0 then some ((-2 : Int32), h) else obd (f_X0_growWeeks 0 (1 : Int32) h) (fun h1 => obd (f_X0_greatestClaw 0 h1) (fun r2 => some (r2, h1))))
def rm_X9_grow : Room := { frames := 2, cells := 0, slots := 0, locals := 43 }
set_option maxHeartbeats 4000000 in
set_option maxRecDepth 100000 in
theorem L_X9_grow (Θ : Tht)  (h : Mem) (K : Int32 × Mem → Prop) (hk : Ok (f_X9_grow  h) K) : CI Θ yX9_grow cX9_grow 1 (some .int) rm_X9_grow [.ref (rr Θ 0 0 0)] h K := by
  refine CI.of K [(0, .ref (rr Θ 0 0 0))] (plainFor_of_name (by decide)) (Nat.le_of_ble_eq_true rfl) rfl (fun Γ C Rt => ?_)
  replace hk := rtI Rt hk
  unfold f_X9_grow at hk
  refine g_aload_n C 0 dX9_grow_0 rfl rfl (n := 1) rfl ?_
  refine g_getR C kc_0 (rt_0_0 (tB Θ) 0) (by decide) (by decide) (by decide) wm_362 dX9_grow_1 (n := 4) rfl ?_
  refine g_getI C kc_1 ft_1_4 (by decide) (by decide) (by decide) wm_174 dX9_grow_4 (n := 7) rfl ?_
  refine g_if_ne C 13 dX9_grow_7 (by decide) (n := 10) rfl hk (fun hk => ?_) (fun hk => ?_)
  · refine g_aload_n C 0 dX9_grow_13 rfl rfl (n := 14) rfl ?_
    refine g_getR C kc_0 (rt_0_0 (tB Θ) 0) (by decide) (by decide) (by decide) wm_362 dX9_grow_14 (n := 17) rfl ?_
    refine g_iconst C (1 : Int32) dX9_grow_17 (by decide) (n := 18) rfl ?_
    refine g_cVV C hk (fun K hk => L_X0_growWeeks Θ 0 (by decide) (1 : Int32) h K hk) lk_X9_195 kc_1 (by decide) (by decide) ⟨rfl, rfl⟩ ⟨Nat.le_of_ble_eq_true rfl, Nat.le_of_ble_eq_true rfl⟩ dX9_grow_18 rfl rfl (Nat.le_of_ble_eq_true rfl) (n := 21) rfl (fun h1 hk => ?_)
    refine g_aload_n C 0 dX9_grow_21 rfl rfl (n := 22) rfl ?_
    refine g_getR C kc_0 (rt_0_0 (tB Θ) 0) (by decide) (by decide) (by decide) wm_362 dX9_grow_22 (n := 25) rfl ?_
    refine g_cVIp C hk (fun K hk => L_X0_greatestClaw Θ 0 (by decide) h1 K hk) lk_X9_198 kc_1 (by decide) (by decide) ⟨rfl, rfl⟩ ⟨Nat.le_of_ble_eq_true rfl, Nat.le_of_ble_eq_true rfl⟩ dX9_grow_25 rfl rfl (Nat.le_of_ble_eq_true rfl) (n := 28) rfl (fun r2 hk => ?_)
    exact retI hk.out dX9_grow_28
  · refine g_bipush C (-2 : Int32) dX9_grow_10 (by decide) (n := 12) rfl ?_
    exact retI hk.out dX9_grow_12
def f_X0_comeGulls (o0 : Nat) (p1 : Int32) (h : Mem) : Option (Mem) := obd ((if (h 1 0 o0 0) ≤ 0 then some (0 : Int32) else gd (¬ (h 1 0 o0 0) = 0) (some (p1 - p1 / (h 1 0 o0 0) * (h 1 0 o0 0))))) (fun a1 => obd (f_X0_washAway o0 a1 a1 h) (fun h2 => some h2))
def rm_X0_comeGulls : Room := { frames := 2, cells := 0, slots := 0, locals := 45 }
set_option maxHeartbeats 4000000 in
set_option maxRecDepth 100000 in
theorem L_X0_comeGulls (Θ : Tht) (o0 : Nat) (ho0 : o0 < 5) (p1 : Int32) (h : Mem) (K : Mem → Prop) (hk : Ok (f_X0_comeGulls o0 p1 h) K) : CV Θ yX0_comeGulls cX0_comeGulls 3 none rm_X0_comeGulls [.ref (rr Θ 1 o0 0), .int p1] h K := by
  refine CV.of K [(0, .ref (rr Θ 1 o0 0)), (1, .int p1)] (plainFor_of_name (by decide)) (Nat.le_of_ble_eq_true rfl) rfl (fun Γ C Rt => ?_)
  replace hk := rtV Rt hk
  unfold f_X0_comeGulls at hk
  refine g_aload_n C 0 dX0_comeGulls_0 rfl rfl (n := 1) rfl ?_
  refine g_getI C kc_1 ft_1_0 ho0 (by decide) (by decide) wm_159 dX0_comeGulls_1 (n := 4) rfl ?_
  refine Ok.join hk (fun a1 => G Θ Γ 17 [(0, .ref (rr Θ 1 o0 0))] [.int a1] h) (fun a1 hk => ?_) (fun hk => ?_)
  · refine g_istore_n C [(2, .int a1), (0, .ref (rr Θ 1 o0 0))] dX0_comeGulls_17 rfl (by decide) rfl (n := 18) rfl ?_
    refine g_aload_n C 1 dX0_comeGulls_18 rfl rfl (n := 19) rfl ?_
    refine g_iload_n C 0 dX0_comeGulls_19 rfl rfl (n := 20) rfl ?_
    refine g_iload_n C 0 dX0_comeGulls_20 rfl rfl (n := 21) rfl ?_
    refine g_cVV C hk (fun K hk => L_X0_washAway Θ o0 ho0 a1 a1 h K hk) lk_X0_117 kc_1 ho0 (by decide) ⟨rfl, rfl⟩ ⟨Nat.le_of_ble_eq_true rfl, Nat.le_of_ble_eq_true rfl⟩ dX0_comeGulls_21 rfl rfl (Nat.le_of_ble_eq_true rfl) (n := 24) rfl (fun h2 hk => ?_)
    exact retV hk.out dX0_comeGulls_24
  · refine g_if_le C 16 dX0_comeGulls_4 (by decide) (n := 7) rfl hk (fun hk => ?_) (fun hk => ?_)
    · refine g_iconst C (0 : Int32) dX0_comeGulls_16 (by decide) (n := 17) rfl ?_
      refine g_lv [0] [(0, .ref (rr Θ 1 o0 0))] rfl ?_
      exact hk.out
    · refine g_iload_n C 1 dX0_comeGulls_7 rfl rfl (n := 8) rfl ?_
      refine g_aload_n C 0 dX0_comeGulls_8 rfl rfl (n := 9) rfl ?_
      refine g_getI C kc_1 ft_1_0 ho0 (by decide) (by decide) wm_159 dX0_comeGulls_9 (n := 12) rfl ?_
      refine g_irem C dX0_comeGulls_12 (n := 13) rfl hk (fun hk => ?_)
      refine g_goto C 17 dX0_comeGulls_13 (by decide) ?_
      refine g_lv [0] [(0, .ref (rr Θ 1 o0 0))] rfl ?_
      exact hk.out
def f_X9_gulls (p1 : Int32) (p2 : Int32) (p3 : Int32) (h : Mem) : Option (Int32 × Mem) := obd (f_X9_within p2 (1 : Int32) (60 : Int32) h) (fun r1 => (if r1 = true then obd (f_X9_within p3 (0 : Int32) (1 : Int32) h) (fun r2 => (if r2 = true then obd (f_X0_copyFrom 1 0 h) (fun h3 => obd (lp fu (fun a14 => (if p2 ≤ a14.2.1 then some (.inr a14.2.2) else bnd ((a14.1 * (1103515245 : Int32)) + (12345 : Int32)) (fun x15 => obd (f_X0_comeGulls 1 ((ush x15 (16 : Int32)) &&& (32767 : Int32)) a14.2.2) (fun h16 => obd (f_X0_goStep 1 h16) (fun h17 => bnd (a14.2.1 + (1 : Int32)) (fun x18 => some (.inl (x15, x18, h17)))))))) (p1, (0 : Int32), h3)) (fun e19 => (if p3 = 0 then obd (f_X0_countBetween 1 (30 : Int32) (30 : Int32) e19) (fun r21 => some (r21, e19)) else obd (f_X0_countRight 1 e19) (fun r20 => some (r20, e19))))) else some ((-1 : Int32), h))) else some ((-1 : Int32), h)))
def rm_X9_gulls : Room := { frames := 4, cells := 0, slots := 0, locals := 87 }
set_option maxHeartbeats 4000000 in
set_option maxRecDepth 100000 in
theorem L_X9_gulls (Θ : Tht) (p1 : Int32) (p2 : Int32) (p3 : Int32) (h : Mem) (K : Int32 × Mem → Prop) (hk : Ok (f_X9_gulls p1 p2 p3 h) K) : CI Θ yX9_gulls cX9_gulls 6 (some .int) rm_X9_gulls [.ref (rr Θ 0 0 0), .int p1, .int p2, .int p3] h K := by
  refine CI.of K [(0, .ref (rr Θ 0 0 0)), (1, .int p1), (2, .int p2), (3, .int p3)] (plainFor_of_name (by decide)) (Nat.le_of_ble_eq_true rfl) rfl (fun Γ C Rt => ?_)
  replace hk := rtI Rt hk
  unfold f_X9_gulls at hk
  refine g_iload_n C 2 dX9_gulls_0 rfl rfl (n := 1) rfl ?_
  refine g_iconst C (1 : Int32) dX9_gulls_1 (by decide) (n := 2) rfl ?_
  refine g_bipush C (60 : Int32) dX9_gulls_2 (by decide) (n := 4) rfl ?_
  refine g_cSBp C hk (fun K hk => L_X9_within Θ p2 (1 : Int32) (60 : Int32) h K hk) lk_X9_69 ⟨rfl, rfl⟩ ⟨Nat.le_of_ble_eq_true rfl, Nat.le_of_ble_eq_true rfl⟩ dX9_gulls_4 rfl rfl (Nat.le_of_ble_eq_true rfl) (n := 7) rfl (fun r1 hk => ?_)
  refine g_bf C 19 dX9_gulls_7 (by decide) (n := 10) rfl hk (fun hk => ?_) (fun hk => ?_)
  · refine g_iconst C (-1 : Int32) dX9_gulls_19 (by decide) (n := 20) rfl ?_
    exact retI hk.out dX9_gulls_20
  · refine g_iload_n C 3 dX9_gulls_10 rfl rfl (n := 11) rfl ?_
    refine g_iconst C (0 : Int32) dX9_gulls_11 (by decide) (n := 12) rfl ?_
    refine g_iconst C (1 : Int32) dX9_gulls_12 (by decide) (n := 13) rfl ?_
    refine g_cSBp C hk (fun K hk => L_X9_within Θ p3 (0 : Int32) (1 : Int32) h K hk) lk_X9_69 ⟨rfl, rfl⟩ ⟨Nat.le_of_ble_eq_true rfl, Nat.le_of_ble_eq_true rfl⟩ dX9_gulls_13 rfl rfl (Nat.le_of_ble_eq_true rfl) (n := 16) rfl (fun r2 hk => ?_)
    refine g_bt C 21 dX9_gulls_16 (by decide) (n := 19) rfl hk (fun hk => ?_) (fun hk => ?_)
    · refine g_aload_n C 0 dX9_gulls_21 rfl rfl (n := 22) rfl ?_
      refine g_getR C kc_0 (rt_0_1 (tB Θ) 0) (by decide) (by decide) (by decide) wm_363 dX9_gulls_22 (n := 25) rfl ?_
      refine g_aload_n C 0 dX9_gulls_25 rfl rfl (n := 26) rfl ?_
      refine g_getR C kc_0 (rt_0_0 (tB Θ) 0) (by decide) (by decide) (by decide) wm_362 dX9_gulls_26 (n := 29) rfl ?_
      refine g_cVV C hk (fun K hk => L_X0_copyFrom Θ 1 (by decide) 0 (by decide) h K hk) lk_X9_86 kc_1 (by decide) (by decide) ⟨rfl, rfl⟩ ⟨Nat.le_of_ble_eq_true rfl, Nat.le_of_ble_eq_true rfl⟩ dX9_gulls_29 rfl rfl (Nat.le_of_ble_eq_true rfl) (n := 32) rfl (fun h3 hk => ?_)
      refine g_iload_n C 1 dX9_gulls_32 rfl rfl (n := 33) rfl ?_
      refine g_istore C [(4, .int p1), (0, .ref (rr Θ 0 0 0)), (1, .int p1), (2, .int p2), (3, .int p3)] dX9_gulls_33 (by decide) rfl (n := 35) rfl ?_
      refine g_iconst C (0 : Int32) dX9_gulls_35 (by decide) (n := 36) rfl ?_
      refine g_istore C [(5, .int (0 : Int32)), (4, .int p1), (0, .ref (rr Θ 0 0 0)), (1, .int p1), (2, .int p2), (3, .int p3)] dX9_gulls_36 (by decide) rfl (n := 38) rfl ?_
      refine g_lv [2, 4, 5, 1, 0] [(0, .ref (rr Θ 0 0 0)), (2, .int p2), (3, .int p3), (4, .int p1), (5, .int (0 : Int32))] rfl ?_
      refine Ok.join hk (fun e19 => G Θ Γ 84 [(0, .ref (rr Θ 0 0 0)), (3, .int p3)] [] e19) (fun e19 hk => ?_) (fun hk => ?_)
      · refine g_iload_n C 1 dX9_gulls_84 rfl rfl (n := 85) rfl ?_
        refine g_if_ne C 102 dX9_gulls_85 (by decide) (n := 88) rfl hk (fun hk => ?_) (fun hk => ?_)
        · refine g_aload_n C 0 dX9_gulls_102 rfl rfl (n := 103) rfl ?_
          refine g_getR C kc_0 (rt_0_1 (tB Θ) 0) (by decide) (by decide) (by decide) wm_363 dX9_gulls_103 (n := 106) rfl ?_
          refine g_cVIp C hk (fun K hk => L_X0_countRight Θ 1 (by decide) e19 K hk) lk_X9_192 kc_1 (by decide) (by decide) ⟨rfl, rfl⟩ ⟨Nat.le_of_ble_eq_true rfl, Nat.le_of_ble_eq_true rfl⟩ dX9_gulls_106 rfl rfl (Nat.le_of_ble_eq_true rfl) (n := 109) rfl (fun r20 hk => ?_)
          exact retI hk.out dX9_gulls_109
        · refine g_aload_n C 0 dX9_gulls_88 rfl rfl (n := 89) rfl ?_
          refine g_getR C kc_0 (rt_0_1 (tB Θ) 0) (by decide) (by decide) (by decide) wm_363 dX9_gulls_89 (n := 92) rfl ?_
          refine g_bipush C (30 : Int32) dX9_gulls_92 (by decide) (n := 94) rfl ?_
          refine g_bipush C (30 : Int32) dX9_gulls_94 (by decide) (n := 96) rfl ?_
          refine g_cVIp C hk (fun K hk => L_X0_countBetween Θ 1 (by decide) (30 : Int32) (30 : Int32) e19 K hk) lk_X9_177 kc_1 (by decide) (by decide) ⟨rfl, rfl⟩ ⟨Nat.le_of_ble_eq_true rfl, Nat.le_of_ble_eq_true rfl⟩ dX9_gulls_96 rfl rfl (Nat.le_of_ble_eq_true rfl) (n := 99) rfl (fun r21 hk => ?_)
          refine g_goto C 109 dX9_gulls_99 (by decide) ?_
          exact retI hk.out dX9_gulls_109
      · refine Ok.loop (fun a14 => G Θ Γ 38 [(0, .ref (rr Θ 0 0 0)), (2, .int p2), (3, .int p3), (4, .int a14.1), (5, .int a14.2.1)] [] a14.2.2) (fun a14 hk => ?_) _ _ hk
        refine g_iload C 4 dX9_gulls_38 rfl (n := 40) rfl ?_
        refine g_iload_n C 1 dX9_gulls_40 rfl rfl (n := 41) rfl ?_
        refine g_ic_ge C 84 dX9_gulls_41 (by decide) (n := 44) rfl hk (fun hk => ?_) (fun hk => ?_)
        · refine g_lv [0, 2] [(0, .ref (rr Θ 0 0 0)), (3, .int p3)] rfl ?_
          exact hk.out
        · refine g_iload C 3 dX9_gulls_44 rfl (n := 46) rfl ?_
          refine g_ldc C (1103515245 : Int32) wm_811 dX9_gulls_46 (n := 48) rfl ?_
          refine g_imul C dX9_gulls_48 (n := 49) rfl ?_
          refine g_sipush C (12345 : Int32) dX9_gulls_49 (by decide) (n := 52) rfl ?_
          refine g_iadd C dX9_gulls_52 (n := 53) rfl ?_
          refine g_nm hk (fun x15 hk => ?_)
          refine g_istore C [(4, .int x15), (0, .ref (rr Θ 0 0 0)), (2, .int p2), (3, .int p3), (5, .int a14.2.1)] dX9_gulls_53 (by decide) rfl (n := 55) rfl ?_
          refine g_aload_n C 1 dX9_gulls_55 rfl rfl (n := 56) rfl ?_
          refine g_getR C kc_0 (rt_0_1 (tB Θ) 0) (by decide) (by decide) (by decide) wm_363 dX9_gulls_56 (n := 59) rfl ?_
          refine g_iload C 0 dX9_gulls_59 rfl (n := 61) rfl ?_
          refine g_bipush C (16 : Int32) dX9_gulls_61 (by decide) (n := 63) rfl ?_
          refine g_iushr C dX9_gulls_63 (n := 64) rfl ?_
          refine g_sipush C (32767 : Int32) dX9_gulls_64 (by decide) (n := 67) rfl ?_
          refine g_iand C dX9_gulls_67 (n := 68) rfl ?_
          refine g_cVV C hk (fun K hk => L_X0_comeGulls Θ 1 (by decide) ((ush x15 (16 : Int32)) &&& (32767 : Int32)) a14.2.2 K hk) lk_X9_243 kc_1 (by decide) (by decide) ⟨rfl, rfl⟩ ⟨Nat.le_of_ble_eq_true rfl, Nat.le_of_ble_eq_true rfl⟩ dX9_gulls_68 rfl rfl (Nat.le_of_ble_eq_true rfl) (n := 71) rfl (fun h16 hk => ?_)
          refine g_aload_n C 1 dX9_gulls_71 rfl rfl (n := 72) rfl ?_
          refine g_getR C kc_0 (rt_0_1 (tB Θ) 0) (by decide) (by decide) (by decide) wm_363 dX9_gulls_72 (n := 75) rfl ?_
          refine g_cVV C hk (fun K hk => L_X0_goStep Θ 1 (by decide) h16 K hk) lk_X9_246 kc_1 (by decide) (by decide) ⟨rfl, rfl⟩ ⟨Nat.le_of_ble_eq_true rfl, Nat.le_of_ble_eq_true rfl⟩ dX9_gulls_75 rfl rfl (Nat.le_of_ble_eq_true rfl) (n := 78) rfl (fun h17 hk => ?_)
          refine g_iinc C 4 (fun x18 => [(5, .int x18), (4, .int x15), (0, .ref (rr Θ 0 0 0)), (2, .int p2), (3, .int p3)]) dX9_gulls_78 rfl (v := (a14.2.1 + (1 : Int32))) rfl (by decide) (fun _ => rfl) (n := 81) rfl hk (fun x18 hk => ?_)
          refine g_goto C 38 dX9_gulls_81 (by decide) ?_
          refine g_lv [2, 3, 4, 1, 0] [(0, .ref (rr Θ 0 0 0)), (2, .int p2), (3, .int p3), (4, .int x15), (5, .int x18)] rfl ?_
          exact hk.out
    · refine g_iconst C (-1 : Int32) dX9_gulls_19 (by decide) (n := 20) rfl ?_
      exact retI hk.out dX9_gulls_20
def f_X9_hand (p1 : Int32) (p2 : Int32) (h : Mem) : Option (Int32 × Mem) := obd (f_X9_isCrab p1 h) (fun r1 => (if r1 = true then obd (f_X9_within p2 (0 : Int32) (1 : Int32) h) (fun r2 => (if r2 = true then gd (inb p1 4) (bnd (h 7 2 0 p1.toNatClampNeg) (fun x4 => gd (inb p1 4) (bnd (up h 7 2 0 p1.toNatClampNeg p2) (fun h6 => some (x4, h6))))) else some ((-1 : Int32), h))) else some ((-1 : Int32), h)))
def rm_X9_hand : Room := { frames := 2, cells := 0, slots := 0, locals := 43 }
set_option maxHeartbeats 4000000 in
set_option maxRecDepth 100000 in
theorem L_X9_hand (Θ : Tht) (p1 : Int32) (p2 : Int32) (h : Mem) (K : Int32 × Mem → Prop) (hk : Ok (f_X9_hand p1 p2 h) K) : CI Θ yX9_hand cX9_hand 4 (some .int) rm_X9_hand [.ref (rr Θ 0 0 0), .int p1, .int p2] h K := by
  refine CI.of K [(0, .ref (rr Θ 0 0 0)), (1, .int p1), (2, .int p2)] (plainFor_of_name (by decide)) (Nat.le_of_ble_eq_true rfl) rfl (fun Γ C Rt => ?_)
  replace hk := rtI Rt hk
  unfold f_X9_hand at hk
  refine g_aload_n C 0 dX9_hand_0 rfl rfl (n := 1) rfl ?_
  refine g_iload_n C 1 dX9_hand_1 rfl rfl (n := 2) rfl ?_
  refine g_cVBp C hk (fun K hk => L_X9_isCrab Θ p1 h K hk) lk_X9_149 kc_0 (by decide) (by decide) ⟨rfl, rfl⟩ ⟨Nat.le_of_ble_eq_true rfl, Nat.le_of_ble_eq_true rfl⟩ dX9_hand_2 rfl rfl (Nat.le_of_ble_eq_true rfl) (n := 5) rfl (fun r1 hk => ?_)
  refine g_bf C 17 dX9_hand_5 (by decide) (n := 8) rfl hk (fun hk => ?_) (fun hk => ?_)
  · refine g_iconst C (-1 : Int32) dX9_hand_17 (by decide) (n := 18) rfl ?_
    exact retI hk.out dX9_hand_18
  · refine g_iload_n C 2 dX9_hand_8 rfl rfl (n := 9) rfl ?_
    refine g_iconst C (0 : Int32) dX9_hand_9 (by decide) (n := 10) rfl ?_
    refine g_iconst C (1 : Int32) dX9_hand_10 (by decide) (n := 11) rfl ?_
    refine g_cSBp C hk (fun K hk => L_X9_within Θ p2 (0 : Int32) (1 : Int32) h K hk) lk_X9_69 ⟨rfl, rfl⟩ ⟨Nat.le_of_ble_eq_true rfl, Nat.le_of_ble_eq_true rfl⟩ dX9_hand_11 rfl rfl (Nat.le_of_ble_eq_true rfl) (n := 14) rfl (fun r2 hk => ?_)
    refine g_bt C 19 dX9_hand_14 (by decide) (n := 17) rfl hk (fun hk => ?_) (fun hk => ?_)
    · refine g_aload_n C 0 dX9_hand_19 rfl rfl (n := 20) rfl ?_
      refine g_getR C kc_0 (rt_0_0 (tB Θ) 0) (by decide) (by decide) (by decide) wm_362 dX9_hand_20 (n := 23) rfl ?_
      refine g_getR C kc_1 (rt_1_5 (tB Θ) 0) (by decide) (by decide) (by decide) wm_177 dX9_hand_23 (n := 26) rfl ?_
      refine g_iload_n C 1 dX9_hand_26 rfl rfl (n := 27) rfl ?_
      refine g_aald C ar_4 (by decide) dX9_hand_27 (n := 28) rfl hk (fun hg3 hk => ?_)
      refine g_getI C kc_7 ft_7_2 (by decide) (inb_lt hg3) (by decide) wm_141 dX9_hand_28 (n := 31) rfl ?_
      refine g_nm hk (fun x4 hk => ?_)
      refine g_istore_n C [(3, .int x4), (0, .ref (rr Θ 0 0 0)), (1, .int p1), (2, .int p2)] dX9_hand_31 rfl (by decide) rfl (n := 32) rfl ?_
      refine g_aload_n C 1 dX9_hand_32 rfl rfl (n := 33) rfl ?_
      refine g_getR C kc_0 (rt_0_0 (tB Θ) 0) (by decide) (by decide) (by decide) wm_362 dX9_hand_33 (n := 36) rfl ?_
      refine g_getR C kc_1 (rt_1_5 (tB Θ) 0) (by decide) (by decide) (by decide) wm_177 dX9_hand_36 (n := 39) rfl ?_
      refine g_iload_n C 2 dX9_hand_39 rfl rfl (n := 40) rfl ?_
      refine g_aald C ar_4 (by decide) dX9_hand_40 (n := 41) rfl hk (fun hg5 hk => ?_)
      refine g_iload_n C 3 dX9_hand_41 rfl rfl (n := 42) rfl ?_
      refine g_putI C kc_7 ft_7_2 (by decide) (inb_lt hg5) (by decide) rfl (fitI _) wm_141 dX9_hand_42 (n := 45) rfl hk (fun h6 hk => ?_)
      refine g_iload_n C 0 dX9_hand_45 rfl rfl (n := 46) rfl ?_
      exact retI hk.out dX9_hand_46
    · refine g_iconst C (-1 : Int32) dX9_hand_17 (by decide) (n := 18) rfl ?_
      exact retI hk.out dX9_hand_18
def f_X9_hole (p1 : Int32) (h : Mem) : Option (Int32) := obd (f_X9_isPlace p1 h) (fun r1 => (if r1 = true then gd (inb p1 8) (some (h 2 0 0 p1.toNatClampNeg)) else some (-1 : Int32)))
def rm_X9_hole : Room := { frames := 2, cells := 0, slots := 0, locals := 43 }
set_option maxHeartbeats 4000000 in
set_option maxRecDepth 100000 in
theorem L_X9_hole (Θ : Tht) (p1 : Int32) (h : Mem) (K : Int32 × Mem → Prop) (hk : Ok (f_X9_hole p1 h) (fun r => K (r, h))) : CI Θ yX9_hole cX9_hole 2 (some .int) rm_X9_hole [.ref (rr Θ 0 0 0), .int p1] h K := by
  refine CI.of K [(0, .ref (rr Θ 0 0 0)), (1, .int p1)] (plainFor_of_name (by decide)) (Nat.le_of_ble_eq_true rfl) rfl (fun Γ C Rt => ?_)
  replace hk := rtIp Rt hk
  unfold f_X9_hole at hk
  refine g_aload_n C 0 dX9_hole_0 rfl rfl (n := 1) rfl ?_
  refine g_iload_n C 1 dX9_hole_1 rfl rfl (n := 2) rfl ?_
  refine g_cVBp C hk (fun K hk => L_X9_isPlace Θ p1 h K hk) lk_X9_115 kc_0 (by decide) (by decide) ⟨rfl, rfl⟩ ⟨Nat.le_of_ble_eq_true rfl, Nat.le_of_ble_eq_true rfl⟩ dX9_hole_2 rfl rfl (Nat.le_of_ble_eq_true rfl) (n := 5) rfl (fun r1 hk => ?_)
  refine g_bf C 20 dX9_hole_5 (by decide) (n := 8) rfl hk (fun hk => ?_) (fun hk => ?_)
  · refine g_iconst C (-1 : Int32) dX9_hole_20 (by decide) (n := 21) rfl ?_
    exact retI hk.out dX9_hole_21
  · refine g_aload_n C 0 dX9_hole_8 rfl rfl (n := 9) rfl ?_
    refine g_getR C kc_0 (rt_0_0 (tB Θ) 0) (by decide) (by decide) (by decide) wm_362 dX9_hole_9 (n := 12) rfl ?_
    refine g_getR C kc_1 (rt_1_1 (tB Θ) 0) (by decide) (by decide) (by decide) wm_164 dX9_hole_12 (n := 15) rfl ?_
    refine g_iload_n C 1 dX9_hole_15 rfl rfl (n := 16) rfl ?_
    refine g_iald C an_2 (by decide) dX9_hole_16 (n := 17) rfl hk (fun _ hk => ?_)
    refine g_goto C 21 dX9_hole_17 (by decide) ?_
    exact retI hk.out dX9_hole_21
def f_X9_isLane (p1 : Int32) (h : Mem) : Option (Bool) := obd (f_X9_within p1 (0 : Int32) (2 : Int32) h) (fun r1 => some r1)
def rm_X9_isLane : Room := { frames := 1, cells := 0, slots := 0, locals := 22 }
set_option maxHeartbeats 4000000 in
set_option maxRecDepth 100000 in
theorem L_X9_isLane (Θ : Tht) (p1 : Int32) (h : Mem) (K : Bool × Mem → Prop) (hk : Ok (f_X9_isLane p1 h) (fun r => K (r, h))) : CB Θ yX9_isLane cX9_isLane 1 (some .boolean) rm_X9_isLane [.int p1] h K := by
  refine CB.of K [(0, .int p1)] (plainFor_of_name (by decide)) (Nat.le_of_ble_eq_true rfl) rfl (fun Γ C Rt => ?_)
  replace hk := rtBp Rt hk
  unfold f_X9_isLane at hk
  refine g_iload_n C 0 dX9_isLane_0 rfl rfl (n := 1) rfl ?_
  refine g_iconst C (0 : Int32) dX9_isLane_1 (by decide) (n := 2) rfl ?_
  refine g_iconst C (2 : Int32) dX9_isLane_2 (by decide) (n := 3) rfl ?_
  refine g_cSBp C hk (fun K hk => L_X9_within Θ p1 (0 : Int32) (2 : Int32) h K hk) lk_X9_69 ⟨rfl, rfl⟩ ⟨Nat.le_of_ble_eq_true rfl, Nat.le_of_ble_eq_true rfl⟩ dX9_isLane_3 rfl rfl (Nat.le_of_ble_eq_true rfl) (n := 6) rfl (fun r1 hk => ?_)
  exact retB r1 rfl hk.out dX9_isLane_6
def f_X9_isSheet (p1 : Int32) (h : Mem) : Option (Bool) := obd (f_X9_within p1 (0 : Int32) (3 : Int32) h) (fun r1 => some r1)
def rm_X9_isSheet : Room := { frames := 1, cells := 0, slots := 0, locals := 22 }
set_option maxHeartbeats 4000000 in
set_option maxRecDepth 100000 in
theorem L_X9_isSheet (Θ : Tht) (p1 : Int32) (h : Mem) (K : Bool × Mem → Prop) (hk : Ok (f_X9_isSheet p1 h) (fun r => K (r, h))) : CB Θ yX9_isSheet cX9_isSheet 1 (some .boolean) rm_X9_isSheet [.int p1] h K := by
  refine CB.of K [(0, .int p1)] (plainFor_of_name (by decide)) (Nat.le_of_ble_eq_true rfl) rfl (fun Γ C Rt => ?_)
  replace hk := rtBp Rt hk
  unfold f_X9_isSheet at hk
  refine g_iload_n C 0 dX9_isSheet_0 rfl rfl (n := 1) rfl ?_
  refine g_iconst C (0 : Int32) dX9_isSheet_1 (by decide) (n := 2) rfl ?_
  refine g_iconst C (3 : Int32) dX9_isSheet_2 (by decide) (n := 3) rfl ?_
  refine g_cSBp C hk (fun K hk => L_X9_within Θ p1 (0 : Int32) (3 : Int32) h K hk) lk_X9_69 ⟨rfl, rfl⟩ ⟨Nat.le_of_ble_eq_true rfl, Nat.le_of_ble_eq_true rfl⟩ dX9_isSheet_3 rfl rfl (Nat.le_of_ble_eq_true rfl) (n := 6) rfl (fun r1 hk => ?_)
  exact retB r1 rfl hk.out dX9_isSheet_6
def f_X9_isWhere (p1 : Int32) (h : Mem) : Option (Bool) := obd (f_X9_within p1 (0 : Int32) (7 : Int32) h) (fun r1 => (if r1 = true then some true else obd (f_X9_within p1 (10 : Int32) (13 : Int32) h) (fun r2 => (if r2 = true then some true else obd (f_X9_within p1 (20 : Int32) (27 : Int32) h) (fun r3 => (if r3 = true then some true else (if p1 = (30 : Int32) then some true else some false)))))))
def rm_X9_isWhere : Room := { frames := 1, cells := 0, slots := 0, locals := 22 }
set_option maxHeartbeats 4000000 in
set_option maxRecDepth 100000 in
theorem L_X9_isWhere (Θ : Tht) (p1 : Int32) (h : Mem) (K : Bool × Mem → Prop) (hk : Ok (f_X9_isWhere p1 h) (fun r => K (r, h))) : CB Θ yX9_isWhere cX9_isWhere 1 (some .boolean) rm_X9_isWhere [.int p1] h K := by
  refine CB.of K [(0, .int p1)] (plainFor_of_name (by decide)) (Nat.le_of_ble_eq_true rfl) rfl (fun Γ C Rt => ?_)
  replace hk := rtBp Rt hk
  unfold f_X9_isWhere at hk
  refine g_iload_n C 0 dX9_isWhere_0 rfl rfl (n := 1) rfl ?_
  refine g_iconst C (0 : Int32) dX9_isWhere_1 (by decide) (n := 2) rfl ?_
  refine g_bipush C (7 : Int32) dX9_isWhere_2 (by decide) (n := 4) rfl ?_
  refine g_cSBp C hk (fun K hk => L_X9_within Θ p1 (0 : Int32) (7 : Int32) h K hk) lk_X9_69 ⟨rfl, rfl⟩ ⟨Nat.le_of_ble_eq_true rfl, Nat.le_of_ble_eq_true rfl⟩ dX9_isWhere_4 rfl rfl (Nat.le_of_ble_eq_true rfl) (n := 7) rfl (fun r1 hk => ?_)
  refine g_bt C 38 dX9_isWhere_7 (by decide) (n := 10) rfl hk (fun hk => ?_) (fun hk => ?_)
  · refine g_iconst C (1 : Int32) dX9_isWhere_38 (by decide) (n := 39) rfl ?_
    refine g_goto C 43 dX9_isWhere_39 (by decide) ?_
    exact retB true rfl hk.out dX9_isWhere_43
  · refine g_iload_n C 0 dX9_isWhere_10 rfl rfl (n := 11) rfl ?_
    refine g_bipush C (10 : Int32) dX9_isWhere_11 (by decide) (n := 13) rfl ?_
    refine g_bipush C (13 : Int32) dX9_isWhere_13 (by decide) (n := 15) rfl ?_
    refine g_cSBp C hk (fun K hk => L_X9_within Θ p1 (10 : Int32) (13 : Int32) h K hk) lk_X9_69 ⟨rfl, rfl⟩ ⟨Nat.le_of_ble_eq_true rfl, Nat.le_of_ble_eq_true rfl⟩ dX9_isWhere_15 rfl rfl (Nat.le_of_ble_eq_true rfl) (n := 18) rfl (fun r2 hk => ?_)
    refine g_bt C 38 dX9_isWhere_18 (by decide) (n := 21) rfl hk (fun hk => ?_) (fun hk => ?_)
    · refine g_iconst C (1 : Int32) dX9_isWhere_38 (by decide) (n := 39) rfl ?_
      refine g_goto C 43 dX9_isWhere_39 (by decide) ?_
      exact retB true rfl hk.out dX9_isWhere_43
    · refine g_iload_n C 0 dX9_isWhere_21 rfl rfl (n := 22) rfl ?_
      refine g_bipush C (20 : Int32) dX9_isWhere_22 (by decide) (n := 24) rfl ?_
      refine g_bipush C (27 : Int32) dX9_isWhere_24 (by decide) (n := 26) rfl ?_
      refine g_cSBp C hk (fun K hk => L_X9_within Θ p1 (20 : Int32) (27 : Int32) h K hk) lk_X9_69 ⟨rfl, rfl⟩ ⟨Nat.le_of_ble_eq_true rfl, Nat.le_of_ble_eq_true rfl⟩ dX9_isWhere_26 rfl rfl (Nat.le_of_ble_eq_true rfl) (n := 29) rfl (fun r3 hk => ?_)
      refine g_bt C 38 dX9_isWhere_29 (by decide) (n := 32) rfl hk (fun hk => ?_) (fun hk => ?_)
      · refine g_iconst C (1 : Int32) dX9_isWhere_38 (by decide) (n := 39) rfl ?_
        refine g_goto C 43 dX9_isWhere_39 (by decide) ?_
        exact retB true rfl hk.out dX9_isWhere_43
      · refine g_iload_n C 0 dX9_isWhere_32 rfl rfl (n := 33) rfl ?_
        refine g_bipush C (30 : Int32) dX9_isWhere_33 (by decide) (n := 35) rfl ?_
        refine g_ic_ne C 42 dX9_isWhere_35 (by decide) (n := 38) rfl hk (fun hk => ?_) (fun hk => ?_)
        · refine g_iconst C (0 : Int32) dX9_isWhere_42 (by decide) (n := 43) rfl ?_
          exact retB false rfl hk.out dX9_isWhere_43
        · refine g_iconst C (1 : Int32) dX9_isWhere_38 (by decide) (n := 39) rfl ?_
          refine g_goto C 43 dX9_isWhere_39 (by decide) ?_
          exact retB true rfl hk.out dX9_isWhere_43
def f_X3_take (o0 : Nat) (o1 : Nat) (o2 : Nat) (h : Mem) : Option (Mem) := bnd (up h 20 0 o0 0 (1 : Int32)) (fun h1 => obd (f_X0_copyFrom (o0 + 3) o1 h1) (fun h2 => obd (f_X6_copyFrom (o0 + 1) o2 h2) (fun h3 => some h3)))
def rm_X3_take : Room := { frames := 2, cells := 0, slots := 0, locals := 43 }
set_option maxHeartbeats 4000000 in
set_option maxRecDepth 100000 in
theorem L_X3_take (Θ : Tht) (o0 : Nat) (ho0 : o0 < 2) (o1 : Nat) (ho1 : o1 < 5) (o2 : Nat) (ho2 : o2 < 3) (h : Mem) (K : Mem → Prop) (hk : Ok (f_X3_take o0 o1 o2 h) K) : CV Θ yX3_take cX3_take 3 none rm_X3_take [.ref (rr Θ 20 o0 0), .ref (rr Θ 1 o1 0), .ref (rr Θ 8 o2 0)] h K := by
  refine CV.of K [(0, .ref (rr Θ 20 o0 0)), (1, .ref (rr Θ 1 o1 0)), (2, .ref (rr Θ 8 o2 0))] (plainFor_of_name (by decide)) (Nat.le_of_ble_eq_true rfl) rfl (fun Γ C Rt => ?_)
  replace hk := rtV Rt hk
  unfold f_X3_take at hk
  refine g_aload_n C 0 dX3_take_0 rfl rfl (n := 1) rfl ?_
  refine g_iconst C (1 : Int32) dX3_take_1 (by decide) (n := 2) rfl ?_
  refine g_putI C kc_20 ft_20_0 ho0 (by decide) (by decide) rfl (fitZ (Or.inr rfl)) wm_331 dX3_take_2 (n := 5) rfl hk (fun h1 hk => ?_)
  refine g_aload_n C 0 dX3_take_5 rfl rfl (n := 6) rfl ?_
  refine g_getR C kc_20 (rt_20_1 (tB Θ) o0) ho0 (by decide) (by decide) wm_333 dX3_take_6 (n := 9) rfl ?_
  refine g_aload_n C 1 dX3_take_9 rfl rfl (n := 10) rfl ?_
  refine g_cVV C hk (fun K hk => L_X0_copyFrom Θ (o0 + 3) (Nat.add_lt_add_right ho0 3) o1 ho1 h1 K hk) lk_X3_27 kc_1 (Nat.add_lt_add_right ho0 3) (by decide) ⟨rfl, rfl⟩ ⟨Nat.le_of_ble_eq_true rfl, Nat.le_of_ble_eq_true rfl⟩ dX3_take_10 rfl rfl (Nat.le_of_ble_eq_true rfl) (n := 13) rfl (fun h2 hk => ?_)
  refine g_aload_n C 0 dX3_take_13 rfl rfl (n := 14) rfl ?_
  refine g_getR C kc_20 (rt_20_2 (tB Θ) o0) ho0 (by decide) (by decide) wm_335 dX3_take_14 (n := 17) rfl ?_
  refine g_aload_n C 2 dX3_take_17 rfl rfl (n := 18) rfl ?_
  refine g_cVV C hk (fun K hk => L_X6_copyFrom Θ (o0 + 1) (Nat.add_lt_add_right ho0 1) o2 ho2 h2 K hk) lk_X3_31 kc_8 (Nat.add_lt_add_right ho0 1) (by decide) ⟨rfl, rfl⟩ ⟨Nat.le_of_ble_eq_true rfl, Nat.le_of_ble_eq_true rfl⟩ dX3_take_18 rfl rfl (Nat.le_of_ble_eq_true rfl) (n := 21) rfl (fun h3 hk => ?_)
  exact retV hk.out dX3_take_21
def f_X9_keep (p1 : Int32) (h : Mem) : Option (Int32 × Mem) := obd (f_X9_isImage p1 h) (fun r1 => (if r1 = true then gd (inb p1 2) (obd (i2b (h 20 0 p1.toNatClampNeg 0)) (fun b3 => obd (f_X9_asNumber b3 h) (fun r4 => gd (inb p1 2) (obd (f_X3_take p1.toNatClampNeg 0 0 h) (fun h6 => some (r4, h6)))))) else some ((-1 : Int32), h)))
def rm_X9_keep : Room := { frames := 3, cells := 0, slots := 0, locals := 65 }
set_option maxHeartbeats 4000000 in
set_option maxRecDepth 100000 in
theorem L_X9_keep (Θ : Tht) (p1 : Int32) (h : Mem) (K : Int32 × Mem → Prop) (hk : Ok (f_X9_keep p1 h) K) : CI Θ yX9_keep cX9_keep 3 (some .int) rm_X9_keep [.ref (rr Θ 0 0 0), .int p1] h K := by
  refine CI.of K [(0, .ref (rr Θ 0 0 0)), (1, .int p1)] (plainFor_of_name (by decide)) (Nat.le_of_ble_eq_true rfl) rfl (fun Γ C Rt => ?_)
  replace hk := rtI Rt hk
  unfold f_X9_keep at hk
  refine g_iload_n C 1 dX9_keep_0 rfl rfl (n := 1) rfl ?_
  refine g_cSBp C hk (fun K hk => L_X9_isImage Θ p1 h K hk) lk_X9_249 ⟨rfl, rfl⟩ ⟨Nat.le_of_ble_eq_true rfl, Nat.le_of_ble_eq_true rfl⟩ dX9_keep_1 rfl rfl (Nat.le_of_ble_eq_true rfl) (n := 4) rfl (fun r1 hk => ?_)
  refine g_bt C 9 dX9_keep_4 (by decide) (n := 7) rfl hk (fun hk => ?_) (fun hk => ?_)
  · refine g_aload_n C 0 dX9_keep_9 rfl rfl (n := 10) rfl ?_
    refine g_getR C kc_0 (rt_0_6 (tB Θ) 0) (by decide) (by decide) (by decide) wm_368 dX9_keep_10 (n := 13) rfl ?_
    refine g_iload_n C 1 dX9_keep_13 rfl rfl (n := 14) rfl ?_
    refine g_aald C ar_19 (by decide) dX9_keep_14 (n := 15) rfl hk (fun hg2 hk => ?_)
    refine g_getI C kc_20 ft_20_0 (inb_lt hg2) (by decide) (by decide) wm_332 dX9_keep_15 (n := 18) rfl ?_
    obtain ⟨b3, heb3, hk⟩ := ok_i2b hk
    refine g_cSIp C hk (fun K hk => L_X9_asNumber Θ b3 h K hk) lk_X9_138 ⟨rfl, rfl⟩ ⟨Nat.le_of_ble_eq_true rfl, Nat.le_of_ble_eq_true rfl⟩ dX9_keep_18 rfl (by rw [heb3]; rfl) (Nat.le_of_ble_eq_true rfl) (n := 21) rfl (fun r4 hk => ?_)
    refine g_istore_n C [(2, .int r4), (0, .ref (rr Θ 0 0 0)), (1, .int p1)] dX9_keep_21 rfl (by decide) rfl (n := 22) rfl ?_
    refine g_aload_n C 1 dX9_keep_22 rfl rfl (n := 23) rfl ?_
    refine g_getR C kc_0 (rt_0_6 (tB Θ) 0) (by decide) (by decide) (by decide) wm_368 dX9_keep_23 (n := 26) rfl ?_
    refine g_iload_n C 2 dX9_keep_26 rfl rfl (n := 27) rfl ?_
    refine g_aald C ar_19 (by decide) dX9_keep_27 (n := 28) rfl hk (fun hg5 hk => ?_)
    refine g_aload_n C 1 dX9_keep_28 rfl rfl (n := 29) rfl ?_
    refine g_getR C kc_0 (rt_0_0 (tB Θ) 0) (by decide) (by decide) (by decide) wm_362 dX9_keep_29 (n := 32) rfl ?_
    refine g_aload_n C 1 dX9_keep_32 rfl rfl (n := 33) rfl ?_
    refine g_getR C kc_0 (rt_0_2 (tB Θ) 0) (by decide) (by decide) (by decide) wm_364 dX9_keep_33 (n := 36) rfl ?_
    refine g_cVV C hk (fun K hk => L_X3_take Θ p1.toNatClampNeg (inb_lt hg5) 0 (by decide) 0 (by decide) h K hk) lk_X9_252 kc_20 (inb_lt hg5) (by decide) ⟨rfl, rfl⟩ ⟨Nat.le_of_ble_eq_true rfl, Nat.le_of_ble_eq_true rfl⟩ dX9_keep_36 rfl rfl (Nat.le_of_ble_eq_true rfl) (n := 39) rfl (fun h6 hk => ?_)
    refine g_iload_n C 0 dX9_keep_39 rfl rfl (n := 40) rfl ?_
    exact retI hk.out dX9_keep_40
  · refine g_iconst C (-1 : Int32) dX9_keep_7 (by decide) (n := 8) rfl ?_
    exact retI hk.out dX9_keep_8
