def f_X10_in (p1 : Int64) (p2 : Int64) (p3 : Int64) (h : Mem) : Option (Bool) := (if (lg_cmp p1 p2) < 0 then some false else (if 0 < (lg_cmp p1 p3) then some false else some true))
def rm_X10_in : Room := { frames := 0, cells := 0, slots := 0, locals := 0 }
set_option maxHeartbeats 4000000 in
set_option maxRecDepth 100000 in
theorem L_X10_in (Θ : Tht) (p1 : Int64) (p2 : Int64) (p3 : Int64) (h : Mem) (K : Bool × Mem → Prop) (hk : Ok (f_X10_in p1 p2 p3 h) (fun r => K (r, h))) : CB Θ yX10_in cX10_in 6 (some .boolean) rm_X10_in [.long p1, .long p2, .long p3] h K := by
  refine CB.of K [(0, .long p1), (2, .long p2), (4, .long p3)] (plainFor_of_name (by decide)) (Nat.le_of_ble_eq_true rfl) rfl (fun Γ C Rt => ?_)
  replace hk := rtBp Rt hk
  unfold f_X10_in at hk
  refine g_lload_n C 0 dX10_in_0 rfl rfl (n := 1) rfl ?_
  refine g_lload_n C 1 dX10_in_1 rfl rfl (n := 2) rfl ?_
  refine g_lcmp C dX10_in_2 (n := 3) rfl ?_
  refine g_if_lt C 17 dX10_in_3 (by decide) (n := 6) rfl hk (fun hk => ?_) (fun hk => ?_)
  · refine g_iconst C (0 : Int32) dX10_in_17 (by decide) (n := 18) rfl ?_
    exact retB false rfl hk.out dX10_in_18
  · refine g_lload_n C 0 dX10_in_6 rfl rfl (n := 7) rfl ?_
    refine g_lload C 2 dX10_in_7 rfl (n := 9) rfl ?_
    refine g_lcmp C dX10_in_9 (n := 10) rfl ?_
    refine g_if_gt C 17 dX10_in_10 (by decide) (n := 13) rfl hk (fun hk => ?_) (fun hk => ?_)
    · refine g_iconst C (0 : Int32) dX10_in_17 (by decide) (n := 18) rfl ?_
      exact retB false rfl hk.out dX10_in_18
    · refine g_iconst C (1 : Int32) dX10_in_13 (by decide) (n := 14) rfl ?_
      refine g_goto C 18 dX10_in_14 (by decide) ?_
      exact retB true rfl hk.out dX10_in_18
def f_X10_isCoin (p1 : Int32) (h : Mem) : Option (Bool) := obd (f_X10_in ((p1).toInt64) (0 : Int64) (((h 25 0 0 8) - (1 : Int32)).toInt64) h) (fun r1 => some r1)
def rm_X10_isCoin : Room := { frames := 1, cells := 0, slots := 0, locals := 25 }
set_option maxHeartbeats 4000000 in
set_option maxRecDepth 100000 in
theorem L_X10_isCoin (Θ : Tht) (p1 : Int32) (h : Mem) (K : Bool × Mem → Prop) (hk : Ok (f_X10_isCoin p1 h) (fun r => K (r, h))) : CB Θ yX10_isCoin cX10_isCoin 2 (some .boolean) rm_X10_isCoin [.ref (rr Θ 24 0 0), .int p1] h K := by
  refine CB.of K [(0, .ref (rr Θ 24 0 0)), (1, .int p1)] (plainFor_of_name (by decide)) (Nat.le_of_ble_eq_true rfl) rfl (fun Γ C Rt => ?_)
  replace hk := rtBp Rt hk
  unfold f_X10_isCoin at hk
  refine g_iload_n C 1 dX10_isCoin_0 rfl rfl (n := 1) rfl ?_
  refine g_i2l C dX10_isCoin_1 (n := 2) rfl ?_
  refine g_lconst C (0 : Int64) dX10_isCoin_2 (by decide) (n := 3) rfl ?_
  refine g_aload_n C 0 dX10_isCoin_3 rfl rfl (n := 4) rfl ?_
  refine g_getR C kc_24 (rt_24_0 (tB Θ) 0) (by decide) (by decide) (by decide) wm_897 dX10_isCoin_4 (n := 7) rfl ?_
  refine g_bipush C (8 : Int32) dX10_isCoin_7 (by decide) (n := 9) rfl ?_
  refine g_ialdL C 8 an_25 (by decide) (by decide) (by decide) dX10_isCoin_9 (n := 10) rfl ?_
  refine g_iconst C (1 : Int32) dX10_isCoin_10 (by decide) (n := 11) rfl ?_
  refine g_isub C dX10_isCoin_11 (n := 12) rfl ?_
  refine g_i2l C dX10_isCoin_12 (n := 13) rfl ?_
  refine g_cSBp C hk (fun K hk => L_X10_in Θ ((p1).toInt64) (0 : Int64) (((h 25 0 0 8) - (1 : Int32)).toInt64) h K hk) lk_X10_95 ⟨rfl, rfl⟩ ⟨Nat.le_of_ble_eq_true rfl, Nat.le_of_ble_eq_true rfl⟩ dX10_isCoin_13 rfl rfl (Nat.le_of_ble_eq_true rfl) (n := 16) rfl (fun r1 hk => ?_)
  exact retB r1 rfl hk.out dX10_isCoin_16
def f_X10_starts  (h : Mem) : Option (Mem) := obd (lp fu (fun a7 => (if (8 : Int32) ≤ a7.1 then some (.inr a7.2) else gd (inb ((0 : Int32) + a7.1) 237) (gd (inb a7.1 8) (bnd (up a7.2 29 0 0 a7.1.toNatClampNeg (a7.2 25 0 0 ((0 : Int32) + a7.1).toNatClampNeg)) (fun h8 => bnd (a7.1 + (1 : Int32)) (fun x9 => some (.inl (x9, h8)))))))) ((0 : Int32), h)) (fun e10 => obd (lp fu (fun a19 => (if (6 : Int32) ≤ a19.1 then some (.inr a19.2) else gd (inb ((15 : Int32) + a19.1) 237) (gd (inb a19.1 6) (bnd (up a19.2 30 0 0 a19.1.toNatClampNeg (a19.2 25 0 0 ((15 : Int32) + a19.1).toNatClampNeg)) (fun h20 => gd (inb ((21 : Int32) + a19.1) 237) (gd (inb a19.1 6) (bnd (up h20 31 0 0 a19.1.toNatClampNeg (h20 25 0 0 ((21 : Int32) + a19.1).toNatClampNeg)) (fun h21 => bnd (a19.1 + (1 : Int32)) (fun x22 => some (.inl (x22, h21))))))))))) ((0 : Int32), e10)) (fun e23 => obd (lp fu (fun a38 => (if (4 : Int32) ≤ a38.1 then some (.inr a38.2) else gd (inb ((27 : Int32) + a38.1) 237) (gd (inb a38.1 4) (bnd (up a38.2 32 0 0 a38.1.toNatClampNeg (a38.2 25 0 0 ((27 : Int32) + a38.1).toNatClampNeg)) (fun h39 => gd (inb ((31 : Int32) + a38.1) 237) (gd (inb a38.1 4) (bnd (up h39 33 0 0 a38.1.toNatClampNeg (h39 25 0 0 ((31 : Int32) + a38.1).toNatClampNeg)) (fun h40 => gd (inb ((35 : Int32) + a38.1) 237) (gd (inb a38.1 4) (bnd (up h40 34 0 0 a38.1.toNatClampNeg (h40 25 0 0 ((35 : Int32) + a38.1).toNatClampNeg)) (fun h41 => gd (inb ((39 : Int32) + a38.1) 237) (gd (inb a38.1 4) (bnd (up h41 35 0 0 a38.1.toNatClampNeg (h41 25 0 0 ((39 : Int32) + a38.1).toNatClampNeg)) (fun h42 => gd (inb a38.1 4) (bnd (up h42 36 0 0 a38.1.toNatClampNeg a38.1) (fun h43 => bnd (a38.1 + (1 : Int32)) (fun x44 => some (.inl (x44, h43))))))))))))))))))) ((0 : Int32), e23)) (fun e45 => bnd (up e45 24 26 0 0 (e45 24 3 0 0)) (fun h46 => bnd (up h46 24 27 0 0 (h46 25 0 0 45)) (fun h47 => some h47)))))
def rm_X10_starts : Room := { frames := 0, cells := 0, slots := 0, locals := 0 }
set_option maxHeartbeats 4000000 in
set_option maxRecDepth 100000 in
theorem L_X10_starts (Θ : Tht)  (h : Mem) (K : Mem → Prop) (hk : Ok (f_X10_starts  h) K) : CV Θ yX10_starts cX10_starts 2 none rm_X10_starts [.ref (rr Θ 24 0 0)] h K := by
  refine CV.of K [(0, .ref (rr Θ 24 0 0))] (plainFor_of_name (by decide)) (Nat.le_of_ble_eq_true rfl) rfl (fun Γ C Rt => ?_)
  replace hk := rtV Rt hk
  unfold f_X10_starts at hk
  refine g_iconst C (0 : Int32) dX10_starts_0 (by decide) (n := 1) rfl ?_
  refine g_istore_n C [(1, .int (0 : Int32)), (0, .ref (rr Θ 24 0 0))] dX10_starts_1 rfl (by decide) rfl (n := 2) rfl ?_
  refine g_lv [1, 0] [(0, .ref (rr Θ 24 0 0)), (1, .int (0 : Int32))] rfl ?_
  refine Ok.join hk (fun e10 => G Θ Γ 28 [(0, .ref (rr Θ 24 0 0))] [] e10) (fun e10 hk => ?_) (fun hk => ?_)
  · refine g_iconst C (0 : Int32) dX10_starts_28 (by decide) (n := 29) rfl ?_
    refine g_istore_n C [(1, .int (0 : Int32)), (0, .ref (rr Θ 24 0 0))] dX10_starts_29 rfl (by decide) rfl (n := 30) rfl ?_
    refine g_lv [1, 0] [(0, .ref (rr Θ 24 0 0)), (1, .int (0 : Int32))] rfl ?_
    refine Ok.join hk (fun e23 => G Θ Γ 72 [(0, .ref (rr Θ 24 0 0))] [] e23) (fun e23 hk => ?_) (fun hk => ?_)
    · refine g_iconst C (0 : Int32) dX10_starts_72 (by decide) (n := 73) rfl ?_
      refine g_istore_n C [(1, .int (0 : Int32)), (0, .ref (rr Θ 24 0 0))] dX10_starts_73 rfl (by decide) rfl (n := 74) rfl ?_
      refine g_lv [1, 0] [(0, .ref (rr Θ 24 0 0)), (1, .int (0 : Int32))] rfl ?_
      refine Ok.join hk (fun e45 => G Θ Γ 152 [(0, .ref (rr Θ 24 0 0))] [] e45) (fun e45 hk => ?_) (fun hk => ?_)
      · refine g_aload_n C 0 dX10_starts_152 rfl rfl (n := 153) rfl ?_
        refine g_aload_n C 0 dX10_starts_153 rfl rfl (n := 154) rfl ?_
        refine g_getI C kc_24 ft_24_3 (by decide) (by decide) (by decide) wm_900 dX10_starts_154 (n := 157) rfl ?_
        refine g_putI C kc_24 ft_24_26 (by decide) (by decide) (by decide) rfl (fitI _) wm_923 dX10_starts_157 (n := 160) rfl hk (fun h46 hk => ?_)
        refine g_aload_n C 0 dX10_starts_160 rfl rfl (n := 161) rfl ?_
        refine g_aload_n C 0 dX10_starts_161 rfl rfl (n := 162) rfl ?_
        refine g_getR C kc_24 (rt_24_0 (tB Θ) 0) (by decide) (by decide) (by decide) wm_897 dX10_starts_162 (n := 165) rfl ?_
        refine g_bipush C (45 : Int32) dX10_starts_165 (by decide) (n := 167) rfl ?_
        refine g_ialdL C 45 an_25 (by decide) (by decide) (by decide) dX10_starts_167 (n := 168) rfl ?_
        refine g_putI C kc_24 ft_24_27 (by decide) (by decide) (by decide) rfl (fitI _) wm_924 dX10_starts_168 (n := 171) rfl hk (fun h47 hk => ?_)
        exact retV hk.out dX10_starts_171
      · refine Ok.loop (fun a38 => G Θ Γ 74 [(0, .ref (rr Θ 24 0 0)), (1, .int a38.1)] [] a38.2) (fun a38 hk => ?_) _ _ hk
        refine g_iload_n C 1 dX10_starts_74 rfl rfl (n := 75) rfl ?_
        refine g_iconst C (4 : Int32) dX10_starts_75 (by decide) (n := 76) rfl ?_
        refine g_ic_ge C 152 dX10_starts_76 (by decide) (n := 79) rfl hk (fun hk => ?_) (fun hk => ?_)
        · refine g_lv [0] [(0, .ref (rr Θ 24 0 0))] rfl ?_
          exact hk.out
        · refine g_aload_n C 0 dX10_starts_79 rfl rfl (n := 80) rfl ?_
          refine g_getR C kc_24 (rt_24_20 (tB Θ) 0) (by decide) (by decide) (by decide) wm_917 dX10_starts_80 (n := 83) rfl ?_
          refine g_iload_n C 1 dX10_starts_83 rfl rfl (n := 84) rfl ?_
          refine g_aload_n C 0 dX10_starts_84 rfl rfl (n := 85) rfl ?_
          refine g_getR C kc_24 (rt_24_0 (tB Θ) 0) (by decide) (by decide) (by decide) wm_897 dX10_starts_85 (n := 88) rfl ?_
          refine g_bipush C (27 : Int32) dX10_starts_88 (by decide) (n := 90) rfl ?_
          refine g_iload_n C 1 dX10_starts_90 rfl rfl (n := 91) rfl ?_
          refine g_iadd C dX10_starts_91 (n := 92) rfl ?_
          refine g_iald C an_25 (by decide) dX10_starts_92 (n := 93) rfl hk (fun _ hk => ?_)
          refine g_iast C an_32 (by decide) dX10_starts_93 (n := 94) rfl hk (fun _ h39 hk => ?_)
          refine g_aload_n C 0 dX10_starts_94 rfl rfl (n := 95) rfl ?_
          refine g_getR C kc_24 (rt_24_21 (tB Θ) 0) (by decide) (by decide) (by decide) wm_918 dX10_starts_95 (n := 98) rfl ?_
          refine g_iload_n C 1 dX10_starts_98 rfl rfl (n := 99) rfl ?_
          refine g_aload_n C 0 dX10_starts_99 rfl rfl (n := 100) rfl ?_
          refine g_getR C kc_24 (rt_24_0 (tB Θ) 0) (by decide) (by decide) (by decide) wm_897 dX10_starts_100 (n := 103) rfl ?_
          refine g_bipush C (31 : Int32) dX10_starts_103 (by decide) (n := 105) rfl ?_
          refine g_iload_n C 1 dX10_starts_105 rfl rfl (n := 106) rfl ?_
          refine g_iadd C dX10_starts_106 (n := 107) rfl ?_
          refine g_iald C an_25 (by decide) dX10_starts_107 (n := 108) rfl hk (fun _ hk => ?_)
          refine g_iast C an_33 (by decide) dX10_starts_108 (n := 109) rfl hk (fun _ h40 hk => ?_)
          refine g_aload_n C 0 dX10_starts_109 rfl rfl (n := 110) rfl ?_
          refine g_getR C kc_24 (rt_24_22 (tB Θ) 0) (by decide) (by decide) (by decide) wm_919 dX10_starts_110 (n := 113) rfl ?_
          refine g_iload_n C 1 dX10_starts_113 rfl rfl (n := 114) rfl ?_
          refine g_aload_n C 0 dX10_starts_114 rfl rfl (n := 115) rfl ?_
          refine g_getR C kc_24 (rt_24_0 (tB Θ) 0) (by decide) (by decide) (by decide) wm_897 dX10_starts_115 (n := 118) rfl ?_
          refine g_bipush C (35 : Int32) dX10_starts_118 (by decide) (n := 120) rfl ?_
          refine g_iload_n C 1 dX10_starts_120 rfl rfl (n := 121) rfl ?_
          refine g_iadd C dX10_starts_121 (n := 122) rfl ?_
          refine g_iald C an_25 (by decide) dX10_starts_122 (n := 123) rfl hk (fun _ hk => ?_)
          refine g_iast C an_34 (by decide) dX10_starts_123 (n := 124) rfl hk (fun _ h41 hk => ?_)
          refine g_aload_n C 0 dX10_starts_124 rfl rfl (n := 125) rfl ?_
          refine g_getR C kc_24 (rt_24_23 (tB Θ) 0) (by decide) (by decide) (by decide) wm_920 dX10_starts_125 (n := 128) rfl ?_
          refine g_iload_n C 1 dX10_starts_128 rfl rfl (n := 129) rfl ?_
          refine g_aload_n C 0 dX10_starts_129 rfl rfl (n := 130) rfl ?_
          refine g_getR C kc_24 (rt_24_0 (tB Θ) 0) (by decide) (by decide) (by decide) wm_897 dX10_starts_130 (n := 133) rfl ?_
          refine g_bipush C (39 : Int32) dX10_starts_133 (by decide) (n := 135) rfl ?_
          refine g_iload_n C 1 dX10_starts_135 rfl rfl (n := 136) rfl ?_
          refine g_iadd C dX10_starts_136 (n := 137) rfl ?_
          refine g_iald C an_25 (by decide) dX10_starts_137 (n := 138) rfl hk (fun _ hk => ?_)
          refine g_iast C an_35 (by decide) dX10_starts_138 (n := 139) rfl hk (fun _ h42 hk => ?_)
          refine g_aload_n C 0 dX10_starts_139 rfl rfl (n := 140) rfl ?_
          refine g_getR C kc_24 (rt_24_24 (tB Θ) 0) (by decide) (by decide) (by decide) wm_921 dX10_starts_140 (n := 143) rfl ?_
          refine g_iload_n C 1 dX10_starts_143 rfl rfl (n := 144) rfl ?_
          refine g_iload_n C 1 dX10_starts_144 rfl rfl (n := 145) rfl ?_
          refine g_iast C an_36 (by decide) dX10_starts_145 (n := 146) rfl hk (fun _ h43 hk => ?_)
          refine g_iinc C 1 (fun x44 => [(1, .int x44), (0, .ref (rr Θ 24 0 0))]) dX10_starts_146 rfl (v := (a38.1 + (1 : Int32))) rfl (by decide) (fun _ => rfl) (n := 149) rfl hk (fun x44 hk => ?_)
          refine g_goto C 74 dX10_starts_149 (by decide) ?_
          refine g_lv [1, 0] [(0, .ref (rr Θ 24 0 0)), (1, .int x44)] rfl ?_
          exact hk.out
    · refine Ok.loop (fun a19 => G Θ Γ 30 [(0, .ref (rr Θ 24 0 0)), (1, .int a19.1)] [] a19.2) (fun a19 hk => ?_) _ _ hk
      refine g_iload_n C 1 dX10_starts_30 rfl rfl (n := 31) rfl ?_
      refine g_bipush C (6 : Int32) dX10_starts_31 (by decide) (n := 33) rfl ?_
      refine g_ic_ge C 72 dX10_starts_33 (by decide) (n := 36) rfl hk (fun hk => ?_) (fun hk => ?_)
      · refine g_lv [0] [(0, .ref (rr Θ 24 0 0))] rfl ?_
        exact hk.out
      · refine g_aload_n C 0 dX10_starts_36 rfl rfl (n := 37) rfl ?_
        refine g_getR C kc_24 (rt_24_18 (tB Θ) 0) (by decide) (by decide) (by decide) wm_915 dX10_starts_37 (n := 40) rfl ?_
        refine g_iload_n C 1 dX10_starts_40 rfl rfl (n := 41) rfl ?_
        refine g_aload_n C 0 dX10_starts_41 rfl rfl (n := 42) rfl ?_
        refine g_getR C kc_24 (rt_24_0 (tB Θ) 0) (by decide) (by decide) (by decide) wm_897 dX10_starts_42 (n := 45) rfl ?_
        refine g_bipush C (15 : Int32) dX10_starts_45 (by decide) (n := 47) rfl ?_
        refine g_iload_n C 1 dX10_starts_47 rfl rfl (n := 48) rfl ?_
        refine g_iadd C dX10_starts_48 (n := 49) rfl ?_
        refine g_iald C an_25 (by decide) dX10_starts_49 (n := 50) rfl hk (fun _ hk => ?_)
        refine g_iast C an_30 (by decide) dX10_starts_50 (n := 51) rfl hk (fun _ h20 hk => ?_)
        refine g_aload_n C 0 dX10_starts_51 rfl rfl (n := 52) rfl ?_
        refine g_getR C kc_24 (rt_24_19 (tB Θ) 0) (by decide) (by decide) (by decide) wm_916 dX10_starts_52 (n := 55) rfl ?_
        refine g_iload_n C 1 dX10_starts_55 rfl rfl (n := 56) rfl ?_
        refine g_aload_n C 0 dX10_starts_56 rfl rfl (n := 57) rfl ?_
        refine g_getR C kc_24 (rt_24_0 (tB Θ) 0) (by decide) (by decide) (by decide) wm_897 dX10_starts_57 (n := 60) rfl ?_
        refine g_bipush C (21 : Int32) dX10_starts_60 (by decide) (n := 62) rfl ?_
        refine g_iload_n C 1 dX10_starts_62 rfl rfl (n := 63) rfl ?_
        refine g_iadd C dX10_starts_63 (n := 64) rfl ?_
        refine g_iald C an_25 (by decide) dX10_starts_64 (n := 65) rfl hk (fun _ hk => ?_)
        refine g_iast C an_31 (by decide) dX10_starts_65 (n := 66) rfl hk (fun _ h21 hk => ?_)
        refine g_iinc C 1 (fun x22 => [(1, .int x22), (0, .ref (rr Θ 24 0 0))]) dX10_starts_66 rfl (v := (a19.1 + (1 : Int32))) rfl (by decide) (fun _ => rfl) (n := 69) rfl hk (fun x22 hk => ?_)
        refine g_goto C 30 dX10_starts_69 (by decide) ?_
        refine g_lv [1, 0] [(0, .ref (rr Θ 24 0 0)), (1, .int x22)] rfl ?_
        exact hk.out
  · refine Ok.loop (fun a7 => G Θ Γ 2 [(0, .ref (rr Θ 24 0 0)), (1, .int a7.1)] [] a7.2) (fun a7 hk => ?_) _ _ hk
    refine g_iload_n C 1 dX10_starts_2 rfl rfl (n := 3) rfl ?_
    refine g_bipush C (8 : Int32) dX10_starts_3 (by decide) (n := 5) rfl ?_
    refine g_ic_ge C 28 dX10_starts_5 (by decide) (n := 8) rfl hk (fun hk => ?_) (fun hk => ?_)
    · refine g_lv [0] [(0, .ref (rr Θ 24 0 0))] rfl ?_
      exact hk.out
    · refine g_aload_n C 0 dX10_starts_8 rfl rfl (n := 9) rfl ?_
      refine g_getR C kc_24 (rt_24_17 (tB Θ) 0) (by decide) (by decide) (by decide) wm_914 dX10_starts_9 (n := 12) rfl ?_
      refine g_iload_n C 1 dX10_starts_12 rfl rfl (n := 13) rfl ?_
      refine g_aload_n C 0 dX10_starts_13 rfl rfl (n := 14) rfl ?_
      refine g_getR C kc_24 (rt_24_0 (tB Θ) 0) (by decide) (by decide) (by decide) wm_897 dX10_starts_14 (n := 17) rfl ?_
      refine g_iconst C (0 : Int32) dX10_starts_17 (by decide) (n := 18) rfl ?_
      refine g_iload_n C 1 dX10_starts_18 rfl rfl (n := 19) rfl ?_
      refine g_iadd C dX10_starts_19 (n := 20) rfl ?_
      refine g_iald C an_25 (by decide) dX10_starts_20 (n := 21) rfl hk (fun _ hk => ?_)
      refine g_iast C an_29 (by decide) dX10_starts_21 (n := 22) rfl hk (fun _ h8 hk => ?_)
      refine g_iinc C 1 (fun x9 => [(1, .int x9), (0, .ref (rr Θ 24 0 0))]) dX10_starts_22 rfl (v := (a7.1 + (1 : Int32))) rfl (by decide) (fun _ => rfl) (n := 25) rfl hk (fun x9 hk => ?_)
      refine g_goto C 2 dX10_starts_25 (by decide) ?_
      refine g_lv [1, 0] [(0, .ref (rr Θ 24 0 0)), (1, .int x9)] rfl ?_
      exact hk.out
def f_X10_heldBy (p1 : Int32) (h : Mem) : Option (Int32) := bnd ((h 25 0 0 8) - (1 : Int32)) (fun x1 => obd (lp fu (fun a5 => (if a5.2 < 0 then some (.inr a5.1) else gd (inb a5.2 6) ((if (h 31 0 0 a5.2.toNatClampNeg) = ((10 : Int32) + p1) then bnd (a5.2 + (-1 : Int32)) (fun x7 => some (.inl (a5.2, x7))) else bnd (a5.2 + (-1 : Int32)) (fun x6 => some (.inl (a5.1, x6))))))) ((-4 : Int32), x1)) (fun e8 => some e8))
def rm_X10_heldBy : Room := { frames := 0, cells := 0, slots := 0, locals := 0 }
set_option maxHeartbeats 4000000 in
set_option maxRecDepth 100000 in
theorem L_X10_heldBy (Θ : Tht) (p1 : Int32) (h : Mem) (K : Int32 × Mem → Prop) (hk : Ok (f_X10_heldBy p1 h) (fun r => K (r, h))) : CI Θ yX10_heldBy cX10_heldBy 4 (some .int) rm_X10_heldBy [.ref (rr Θ 24 0 0), .int p1] h K := by
  refine CI.of K [(0, .ref (rr Θ 24 0 0)), (1, .int p1)] (plainFor_of_name (by decide)) (Nat.le_of_ble_eq_true rfl) rfl (fun Γ C Rt => ?_)
  replace hk := rtIp Rt hk
  unfold f_X10_heldBy at hk
  refine g_bipush C (-4 : Int32) dX10_heldBy_0 (by decide) (n := 2) rfl ?_
  refine g_istore_n C [(2, .int (-4 : Int32)), (0, .ref (rr Θ 24 0 0)), (1, .int p1)] dX10_heldBy_2 rfl (by decide) rfl (n := 3) rfl ?_
  refine g_aload_n C 1 dX10_heldBy_3 rfl rfl (n := 4) rfl ?_
  refine g_getR C kc_24 (rt_24_0 (tB Θ) 0) (by decide) (by decide) (by decide) wm_897 dX10_heldBy_4 (n := 7) rfl ?_
  refine g_bipush C (8 : Int32) dX10_heldBy_7 (by decide) (n := 9) rfl ?_
  refine g_ialdL C 8 an_25 (by decide) (by decide) (by decide) dX10_heldBy_9 (n := 10) rfl ?_
  refine g_iconst C (1 : Int32) dX10_heldBy_10 (by decide) (n := 11) rfl ?_
  refine g_isub C dX10_heldBy_11 (n := 12) rfl ?_
  refine g_nm hk (fun x1 hk => ?_)
  refine g_istore_n C [(3, .int x1), (2, .int (-4 : Int32)), (0, .ref (rr Θ 24 0 0)), (1, .int p1)] dX10_heldBy_12 rfl (by decide) rfl (n := 13) rfl ?_
  refine g_lv [2, 3, 1, 0] [(0, .ref (rr Θ 24 0 0)), (1, .int p1), (2, .int (-4 : Int32)), (3, .int x1)] rfl ?_
  refine Ok.join hk (fun e8 => G Θ Γ 42 [(2, .int e8)] [] h) (fun e8 hk => ?_) (fun hk => ?_)
  · refine g_iload_n C 0 dX10_heldBy_42 rfl rfl (n := 43) rfl ?_
    exact retI hk.out dX10_heldBy_43
  · refine Ok.loop (fun a5 => G Θ Γ 13 [(0, .ref (rr Θ 24 0 0)), (1, .int p1), (2, .int a5.1), (3, .int a5.2)] [] h) (fun a5 hk => ?_) _ _ hk
    refine g_iload_n C 3 dX10_heldBy_13 rfl rfl (n := 14) rfl ?_
    refine g_if_lt C 42 dX10_heldBy_14 (by decide) (n := 17) rfl hk (fun hk => ?_) (fun hk => ?_)
    · refine g_lv [2] [(2, .int a5.1)] rfl ?_
      exact hk.out
    · refine g_aload_n C 0 dX10_heldBy_17 rfl rfl (n := 18) rfl ?_
      refine g_getR C kc_24 (rt_24_19 (tB Θ) 0) (by decide) (by decide) (by decide) wm_916 dX10_heldBy_18 (n := 21) rfl ?_
      refine g_iload_n C 3 dX10_heldBy_21 rfl rfl (n := 22) rfl ?_
      refine g_iald C an_31 (by decide) dX10_heldBy_22 (n := 23) rfl hk (fun _ hk => ?_)
      refine g_bipush C (10 : Int32) dX10_heldBy_23 (by decide) (n := 25) rfl ?_
      refine g_iload_n C 1 dX10_heldBy_25 rfl rfl (n := 26) rfl ?_
      refine g_iadd C dX10_heldBy_26 (n := 27) rfl ?_
      refine g_ic_ne C 34 dX10_heldBy_27 (by decide) (n := 30) rfl hk (fun hk => ?_) (fun hk => ?_)
      · refine g_iload_n C 2 dX10_heldBy_34 rfl rfl (n := 35) rfl ?_
        refine g_istore_n C [(2, .int a5.1), (0, .ref (rr Θ 24 0 0)), (1, .int p1), (3, .int a5.2)] dX10_heldBy_35 rfl (by decide) rfl (n := 36) rfl ?_
        refine g_iinc C 3 (fun x6 => [(3, .int x6), (2, .int a5.1), (0, .ref (rr Θ 24 0 0)), (1, .int p1)]) dX10_heldBy_36 rfl (v := (a5.2 + (-1 : Int32))) rfl (by decide) (fun _ => rfl) (n := 39) rfl hk (fun x6 hk => ?_)
        refine g_goto C 13 dX10_heldBy_39 (by decide) ?_
        refine g_lv [2, 3, 1, 0] [(0, .ref (rr Θ 24 0 0)), (1, .int p1), (2, .int a5.1), (3, .int x6)] rfl ?_
        exact hk.out
      · refine g_iload_n C 3 dX10_heldBy_30 rfl rfl (n := 31) rfl ?_
        refine g_goto C 35 dX10_heldBy_31 (by decide) ?_
        refine g_istore_n C [(2, .int a5.2), (0, .ref (rr Θ 24 0 0)), (1, .int p1), (3, .int a5.2)] dX10_heldBy_35 rfl (by decide) rfl (n := 36) rfl ?_
        refine g_iinc C 3 (fun x7 => [(3, .int x7), (2, .int a5.2), (0, .ref (rr Θ 24 0 0)), (1, .int p1)]) dX10_heldBy_36 rfl (v := (a5.2 + (-1 : Int32))) rfl (by decide) (fun _ => rfl) (n := 39) rfl hk (fun x7 hk => ?_)
        refine g_goto C 13 dX10_heldBy_39 (by decide) ?_
        refine g_lv [2, 3, 1, 0] [(0, .ref (rr Θ 24 0 0)), (1, .int p1), (2, .int a5.2), (3, .int x7)] rfl ?_
        exact hk.out
def f_X10_doesFit (p1 : Int32) (p2 : Int32) (h : Mem) : Option (Bool) := gd (inb p1 6) ((if (h 30 0 0 p1.toNatClampNeg) = 0 then gd (inb ((9 : Int32) + p1) 237) (gd (inb p2 4) ((if (h 25 0 0 ((9 : Int32) + p1).toNatClampNeg) = (h 32 0 0 p2.toNatClampNeg) then some true else gd (inb ((9 : Int32) + p1) 237) (gd (inb p2 4) ((if (h 25 0 0 ((9 : Int32) + p1).toNatClampNeg) = ((h 32 0 0 p2.toNatClampNeg) - (1 : Int32)) then some true else some false)))))) else some false))
def rm_X10_doesFit : Room := { frames := 0, cells := 0, slots := 0, locals := 0 }
set_option maxHeartbeats 4000000 in
set_option maxRecDepth 100000 in
theorem L_X10_doesFit (Θ : Tht) (p1 : Int32) (p2 : Int32) (h : Mem) (K : Bool × Mem → Prop) (hk : Ok (f_X10_doesFit p1 p2 h) (fun r => K (r, h))) : CB Θ yX10_doesFit cX10_doesFit 3 (some .boolean) rm_X10_doesFit [.ref (rr Θ 24 0 0), .int p1, .int p2] h K := by
  refine CB.of K [(0, .ref (rr Θ 24 0 0)), (1, .int p1), (2, .int p2)] (plainFor_of_name (by decide)) (Nat.le_of_ble_eq_true rfl) rfl (fun Γ C Rt => ?_)
  replace hk := rtBp Rt hk
  unfold f_X10_doesFit at hk
  refine g_aload_n C 0 dX10_doesFit_0 rfl rfl (n := 1) rfl ?_
  refine g_getR C kc_24 (rt_24_18 (tB Θ) 0) (by decide) (by decide) (by decide) wm_915 dX10_doesFit_1 (n := 4) rfl ?_
  refine g_iload_n C 1 dX10_doesFit_4 rfl rfl (n := 5) rfl ?_
  refine g_iald C an_30 (by decide) dX10_doesFit_5 (n := 6) rfl hk (fun _ hk => ?_)
  refine g_if_ne C 51 dX10_doesFit_6 (by decide) (n := 9) rfl hk (fun hk => ?_) (fun hk => ?_)
  · refine g_iconst C (0 : Int32) dX10_doesFit_51 (by decide) (n := 52) rfl ?_
    exact retB false rfl hk.out dX10_doesFit_52
  · refine g_aload_n C 0 dX10_doesFit_9 rfl rfl (n := 10) rfl ?_
    refine g_getR C kc_24 (rt_24_0 (tB Θ) 0) (by decide) (by decide) (by decide) wm_897 dX10_doesFit_10 (n := 13) rfl ?_
    refine g_bipush C (9 : Int32) dX10_doesFit_13 (by decide) (n := 15) rfl ?_
    refine g_iload_n C 1 dX10_doesFit_15 rfl rfl (n := 16) rfl ?_
    refine g_iadd C dX10_doesFit_16 (n := 17) rfl ?_
    refine g_iald C an_25 (by decide) dX10_doesFit_17 (n := 18) rfl hk (fun _ hk => ?_)
    refine g_aload_n C 0 dX10_doesFit_18 rfl rfl (n := 19) rfl ?_
    refine g_getR C kc_24 (rt_24_20 (tB Θ) 0) (by decide) (by decide) (by decide) wm_917 dX10_doesFit_19 (n := 22) rfl ?_
    refine g_iload_n C 2 dX10_doesFit_22 rfl rfl (n := 23) rfl ?_
    refine g_iald C an_32 (by decide) dX10_doesFit_23 (n := 24) rfl hk (fun _ hk => ?_)
    refine g_ic_eq C 47 dX10_doesFit_24 (by decide) (n := 27) rfl hk (fun hk => ?_) (fun hk => ?_)
    · refine g_iconst C (1 : Int32) dX10_doesFit_47 (by decide) (n := 48) rfl ?_
      refine g_goto C 52 dX10_doesFit_48 (by decide) ?_
      exact retB true rfl hk.out dX10_doesFit_52
    · refine g_aload_n C 0 dX10_doesFit_27 rfl rfl (n := 28) rfl ?_
      refine g_getR C kc_24 (rt_24_0 (tB Θ) 0) (by decide) (by decide) (by decide) wm_897 dX10_doesFit_28 (n := 31) rfl ?_
      refine g_bipush C (9 : Int32) dX10_doesFit_31 (by decide) (n := 33) rfl ?_
      refine g_iload_n C 1 dX10_doesFit_33 rfl rfl (n := 34) rfl ?_
      refine g_iadd C dX10_doesFit_34 (n := 35) rfl ?_
      refine g_iald C an_25 (by decide) dX10_doesFit_35 (n := 36) rfl hk (fun _ hk => ?_)
      refine g_aload_n C 0 dX10_doesFit_36 rfl rfl (n := 37) rfl ?_
      refine g_getR C kc_24 (rt_24_20 (tB Θ) 0) (by decide) (by decide) (by decide) wm_917 dX10_doesFit_37 (n := 40) rfl ?_
      refine g_iload_n C 2 dX10_doesFit_40 rfl rfl (n := 41) rfl ?_
      refine g_iald C an_32 (by decide) dX10_doesFit_41 (n := 42) rfl hk (fun _ hk => ?_)
      refine g_iconst C (1 : Int32) dX10_doesFit_42 (by decide) (n := 43) rfl ?_
      refine g_isub C dX10_doesFit_43 (n := 44) rfl ?_
      refine g_ic_ne C 51 dX10_doesFit_44 (by decide) (n := 47) rfl hk (fun hk => ?_) (fun hk => ?_)
      · refine g_iconst C (0 : Int32) dX10_doesFit_51 (by decide) (n := 52) rfl ?_
        exact retB false rfl hk.out dX10_doesFit_52
      · refine g_iconst C (1 : Int32) dX10_doesFit_47 (by decide) (n := 48) rfl ?_
        refine g_goto C 52 dX10_doesFit_48 (by decide) ?_
        exact retB true rfl hk.out dX10_doesFit_52
def f_X10_lyingFor (p1 : Int32) (h : Mem) : Option (Int32) := bnd ((h 25 0 0 8) - (1 : Int32)) (fun x1 => obd (lp fu (fun a7 => (if a7.2 < 0 then some (.inr a7.1) else gd (inb a7.2 6) (gd (inb p1 4) ((if (h 31 0 0 a7.2.toNatClampNeg) = (h 35 0 0 p1.toNatClampNeg) then obd (f_X10_doesFit a7.2 p1 h) (fun r9 => (if r9 = true then bnd (a7.2 + (-1 : Int32)) (fun x11 => some (.inl (a7.2, x11))) else bnd (a7.2 + (-1 : Int32)) (fun x10 => some (.inl (a7.1, x10))))) else bnd (a7.2 + (-1 : Int32)) (fun x8 => some (.inl (a7.1, x8)))))))) ((-4 : Int32), x1)) (fun e12 => some e12))
def rm_X10_lyingFor : Room := { frames := 1, cells := 0, slots := 0, locals := 22 }
set_option maxHeartbeats 4000000 in
set_option maxRecDepth 100000 in
theorem L_X10_lyingFor (Θ : Tht) (p1 : Int32) (h : Mem) (K : Int32 × Mem → Prop) (hk : Ok (f_X10_lyingFor p1 h) (fun r => K (r, h))) : CI Θ yX10_lyingFor cX10_lyingFor 4 (some .int) rm_X10_lyingFor [.ref (rr Θ 24 0 0), .int p1] h K := by
  refine CI.of K [(0, .ref (rr Θ 24 0 0)), (1, .int p1)] (plainFor_of_name (by decide)) (Nat.le_of_ble_eq_true rfl) rfl (fun Γ C Rt => ?_)
  replace hk := rtIp Rt hk
  unfold f_X10_lyingFor at hk
  refine g_bipush C (-4 : Int32) dX10_lyingFor_0 (by decide) (n := 2) rfl ?_
  refine g_istore_n C [(2, .int (-4 : Int32)), (0, .ref (rr Θ 24 0 0)), (1, .int p1)] dX10_lyingFor_2 rfl (by decide) rfl (n := 3) rfl ?_
  refine g_aload_n C 1 dX10_lyingFor_3 rfl rfl (n := 4) rfl ?_
  refine g_getR C kc_24 (rt_24_0 (tB Θ) 0) (by decide) (by decide) (by decide) wm_897 dX10_lyingFor_4 (n := 7) rfl ?_
  refine g_bipush C (8 : Int32) dX10_lyingFor_7 (by decide) (n := 9) rfl ?_
  refine g_ialdL C 8 an_25 (by decide) (by decide) (by decide) dX10_lyingFor_9 (n := 10) rfl ?_
  refine g_iconst C (1 : Int32) dX10_lyingFor_10 (by decide) (n := 11) rfl ?_
  refine g_isub C dX10_lyingFor_11 (n := 12) rfl ?_
  refine g_nm hk (fun x1 hk => ?_)
  refine g_istore_n C [(3, .int x1), (2, .int (-4 : Int32)), (0, .ref (rr Θ 24 0 0)), (1, .int p1)] dX10_lyingFor_12 rfl (by decide) rfl (n := 13) rfl ?_
  refine g_lv [2, 3, 1, 0] [(0, .ref (rr Θ 24 0 0)), (1, .int p1), (2, .int (-4 : Int32)), (3, .int x1)] rfl ?_
  refine Ok.join hk (fun e12 => G Θ Γ 53 [(2, .int e12)] [] h) (fun e12 hk => ?_) (fun hk => ?_)
  · refine g_iload_n C 0 dX10_lyingFor_53 rfl rfl (n := 54) rfl ?_
    exact retI hk.out dX10_lyingFor_54
  · refine Ok.loop (fun a7 => G Θ Γ 13 [(0, .ref (rr Θ 24 0 0)), (1, .int p1), (2, .int a7.1), (3, .int a7.2)] [] h) (fun a7 hk => ?_) _ _ hk
    refine g_iload_n C 3 dX10_lyingFor_13 rfl rfl (n := 14) rfl ?_
    refine g_if_lt C 53 dX10_lyingFor_14 (by decide) (n := 17) rfl hk (fun hk => ?_) (fun hk => ?_)
    · refine g_lv [2] [(2, .int a7.1)] rfl ?_
      exact hk.out
    · refine g_aload_n C 0 dX10_lyingFor_17 rfl rfl (n := 18) rfl ?_
      refine g_getR C kc_24 (rt_24_19 (tB Θ) 0) (by decide) (by decide) (by decide) wm_916 dX10_lyingFor_18 (n := 21) rfl ?_
      refine g_iload_n C 3 dX10_lyingFor_21 rfl rfl (n := 22) rfl ?_
      refine g_iald C an_31 (by decide) dX10_lyingFor_22 (n := 23) rfl hk (fun _ hk => ?_)
      refine g_aload_n C 0 dX10_lyingFor_23 rfl rfl (n := 24) rfl ?_
      refine g_getR C kc_24 (rt_24_23 (tB Θ) 0) (by decide) (by decide) (by decide) wm_920 dX10_lyingFor_24 (n := 27) rfl ?_
      refine g_iload_n C 1 dX10_lyingFor_27 rfl rfl (n := 28) rfl ?_
      refine g_iald C an_35 (by decide) dX10_lyingFor_28 (n := 29) rfl hk (fun _ hk => ?_)
      refine g_ic_ne C 45 dX10_lyingFor_29 (by decide) (n := 32) rfl hk (fun hk => ?_) (fun hk => ?_)
      · refine g_iload_n C 2 dX10_lyingFor_45 rfl rfl (n := 46) rfl ?_
        refine g_istore_n C [(2, .int a7.1), (0, .ref (rr Θ 24 0 0)), (1, .int p1), (3, .int a7.2)] dX10_lyingFor_46 rfl (by decide) rfl (n := 47) rfl ?_
        refine g_iinc C 3 (fun x8 => [(3, .int x8), (2, .int a7.1), (0, .ref (rr Θ 24 0 0)), (1, .int p1)]) dX10_lyingFor_47 rfl (v := (a7.2 + (-1 : Int32))) rfl (by decide) (fun _ => rfl) (n := 50) rfl hk (fun x8 hk => ?_)
        refine g_goto C 13 dX10_lyingFor_50 (by decide) ?_
        refine g_lv [2, 3, 1, 0] [(0, .ref (rr Θ 24 0 0)), (1, .int p1), (2, .int a7.1), (3, .int x8)] rfl ?_
        exact hk.out
      · refine g_aload_n C 0 dX10_lyingFor_32 rfl rfl (n := 33) rfl ?_
        refine g_iload_n C 3 dX10_lyingFor_33 rfl rfl (n := 34) rfl ?_
        refine g_iload_n C 1 dX10_lyingFor_34 rfl rfl (n := 35) rfl ?_
        refine g_cVBp C hk (fun K hk => L_X10_doesFit Θ a7.2 p1 h K hk) lk_X10_187 kc_24 (by decide) (by decide) ⟨rfl, rfl⟩ ⟨Nat.le_of_ble_eq_true rfl, Nat.le_of_ble_eq_true rfl⟩ dX10_lyingFor_35 rfl rfl (Nat.le_of_ble_eq_true rfl) (n := 38) rfl (fun r9 hk => ?_)
        refine g_bf C 45 dX10_lyingFor_38 (by decide) (n := 41) rfl hk (fun hk => ?_) (fun hk => ?_)
        · refine g_iload_n C 2 dX10_lyingFor_45 rfl rfl (n := 46) rfl ?_
          refine g_istore_n C [(2, .int a7.1), (0, .ref (rr Θ 24 0 0)), (1, .int p1), (3, .int a7.2)] dX10_lyingFor_46 rfl (by decide) rfl (n := 47) rfl ?_
          refine g_iinc C 3 (fun x10 => [(3, .int x10), (2, .int a7.1), (0, .ref (rr Θ 24 0 0)), (1, .int p1)]) dX10_lyingFor_47 rfl (v := (a7.2 + (-1 : Int32))) rfl (by decide) (fun _ => rfl) (n := 50) rfl hk (fun x10 hk => ?_)
          refine g_goto C 13 dX10_lyingFor_50 (by decide) ?_
          refine g_lv [2, 3, 1, 0] [(0, .ref (rr Θ 24 0 0)), (1, .int p1), (2, .int a7.1), (3, .int x10)] rfl ?_
          exact hk.out
        · refine g_iload_n C 3 dX10_lyingFor_41 rfl rfl (n := 42) rfl ?_
          refine g_goto C 46 dX10_lyingFor_42 (by decide) ?_
          refine g_istore_n C [(2, .int a7.2), (0, .ref (rr Θ 24 0 0)), (1, .int p1), (3, .int a7.2)] dX10_lyingFor_46 rfl (by decide) rfl (n := 47) rfl ?_
          refine g_iinc C 3 (fun x11 => [(3, .int x11), (2, .int a7.2), (0, .ref (rr Θ 24 0 0)), (1, .int p1)]) dX10_lyingFor_47 rfl (v := (a7.2 + (-1 : Int32))) rfl (by decide) (fun _ => rfl) (n := 50) rfl hk (fun x11 hk => ?_)
          refine g_goto C 13 dX10_lyingFor_50 (by decide) ?_
          refine g_lv [2, 3, 1, 0] [(0, .ref (rr Θ 24 0 0)), (1, .int p1), (2, .int a7.2), (3, .int x11)] rfl ?_
          exact hk.out
def f_X10_does (p1 : Int32) (h : Mem) : Option (Mem) := obd (f_X10_heldBy p1 h) (fun r1 => gd (inb p1 4) (bnd (h 35 0 0 p1.toNatClampNeg) (fun x2 => obd ((if r1 = (-4 : Int32) then some (.inr h) else gd (inb x2 8) ((if (h 29 0 0 x2.toNatClampNeg) ≤ 0 then some (.inr h) else gd (inb x2 8) (gd (inb p1 4) ((if (h 29 0 0 x2.toNatClampNeg) < (h 33 0 0 p1.toNatClampNeg) then some (.inr h) else gd (inb r1 6) (bnd (up h 31 0 0 r1.toNatClampNeg ((20 : Int32) + x2)) (fun h4 => some (.inl h4)))))))))) (Sum.elim (fun r => some r) (fun a5 => obd ((if r1 = (-4 : Int32) then obd (f_X10_lyingFor p1 a5) (fun r7 => some r7) else some (-4 : Int32))) (fun a8 => (if a8 = (-4 : Int32) then gd (inb p1 4) (obd ((if (a5 34 0 0 p1.toNatClampNeg) = 0 then gd (¬ (a5 24 2 0 0) = 0) (some (((x2 + (a5 24 2 0 0)) - (1 : Int32)) - ((x2 + (a5 24 2 0 0)) - (1 : Int32)) / (a5 24 2 0 0) * (a5 24 2 0 0))) else gd (¬ (a5 24 2 0 0) = 0) (some ((x2 + (1 : Int32)) - (x2 + (1 : Int32)) / (a5 24 2 0 0) * (a5 24 2 0 0))))) (fun a9 => gd (inb p1 4) (bnd (up a5 35 0 0 p1.toNatClampNeg a9) (fun h10 => some h10)))) else gd (inb a8 6) (bnd (up a5 31 0 0 a8.toNatClampNeg ((10 : Int32) + p1)) (fun h11 => some h11)))))))))
def rm_X10_does : Room := { frames := 2, cells := 0, slots := 0, locals := 45 }
set_option maxHeartbeats 4000000 in
set_option maxRecDepth 100000 in
theorem L_X10_does (Θ : Tht) (p1 : Int32) (h : Mem) (K : Mem → Prop) (hk : Ok (f_X10_does p1 h) K) : CV Θ yX10_does cX10_does 5 none rm_X10_does [.ref (rr Θ 24 0 0), .int p1] h K := by
  refine CV.of K [(0, .ref (rr Θ 24 0 0)), (1, .int p1)] (plainFor_of_name (by decide)) (Nat.le_of_ble_eq_true rfl) rfl (fun Γ C Rt => ?_)
  replace hk := rtV Rt hk
  unfold f_X10_does at hk
  refine g_aload_n C 0 dX10_does_0 rfl rfl (n := 1) rfl ?_
  refine g_iload_n C 1 dX10_does_1 rfl rfl (n := 2) rfl ?_
  refine g_cVIp C hk (fun K hk => L_X10_heldBy Θ p1 h K hk) lk_X10_191 kc_24 (by decide) (by decide) ⟨rfl, rfl⟩ ⟨Nat.le_of_ble_eq_true rfl, Nat.le_of_ble_eq_true rfl⟩ dX10_does_2 rfl rfl (Nat.le_of_ble_eq_true rfl) (n := 5) rfl (fun r1 hk => ?_)
  refine g_istore_n C [(2, .int r1), (0, .ref (rr Θ 24 0 0)), (1, .int p1)] dX10_does_5 rfl (by decide) rfl (n := 6) rfl ?_
  refine g_aload_n C 1 dX10_does_6 rfl rfl (n := 7) rfl ?_
  refine g_getR C kc_24 (rt_24_23 (tB Θ) 0) (by decide) (by decide) (by decide) wm_920 dX10_does_7 (n := 10) rfl ?_
  refine g_iload_n C 2 dX10_does_10 rfl rfl (n := 11) rfl ?_
  refine g_iald C an_35 (by decide) dX10_does_11 (n := 12) rfl hk (fun _ hk => ?_)
  refine g_nm hk (fun x2 hk => ?_)
  refine g_istore_n C [(3, .int x2), (2, .int r1), (0, .ref (rr Θ 24 0 0)), (1, .int p1)] dX10_does_12 rfl (by decide) rfl (n := 13) rfl ?_
  refine g_iload_n C 1 dX10_does_13 rfl rfl (n := 14) rfl ?_
  refine g_bipush C (-4 : Int32) dX10_does_14 (by decide) (n := 16) rfl ?_
  refine Ok.join hk (Sum.elim (PV Θ Γ cX10_does) (fun a5 => G Θ Γ 54 [(0, .ref (rr Θ 24 0 0)), (1, .int p1), (2, .int r1), (3, .int x2)] [] a5)) (fun e hk => ?_) (fun hk => ?_)
  · rcases e with r | a5
    · exact hk.out
    · replace hk := ok_inr hk
      refine g_iload_n C 2 dX10_does_54 rfl rfl (n := 55) rfl ?_
      refine g_bipush C (-4 : Int32) dX10_does_55 (by decide) (n := 57) rfl ?_
      refine Ok.join hk (fun a8 => G Θ Γ 70 [(0, .ref (rr Θ 24 0 0)), (1, .int p1), (3, .int x2)] [.int a8] a5) (fun a8 hk => ?_) (fun hk => ?_)
      · refine g_istore C [(4, .int a8), (0, .ref (rr Θ 24 0 0)), (1, .int p1), (3, .int x2)] dX10_does_70 (by decide) rfl (n := 72) rfl ?_
        refine g_iload C 0 dX10_does_72 rfl (n := 74) rfl ?_
        refine g_bipush C (-4 : Int32) dX10_does_74 (by decide) (n := 76) rfl ?_
        refine g_ic_eq C 93 dX10_does_76 (by decide) (n := 79) rfl hk (fun hk => ?_) (fun hk => ?_)
        · refine g_aload_n C 1 dX10_does_93 rfl rfl (n := 94) rfl ?_
          refine g_getR C kc_24 (rt_24_23 (tB Θ) 0) (by decide) (by decide) (by decide) wm_920 dX10_does_94 (n := 97) rfl ?_
          refine g_iload_n C 2 dX10_does_97 rfl rfl (n := 98) rfl ?_
          refine g_aload_n C 1 dX10_does_98 rfl rfl (n := 99) rfl ?_
          refine g_getR C kc_24 (rt_24_22 (tB Θ) 0) (by decide) (by decide) (by decide) wm_919 dX10_does_99 (n := 102) rfl ?_
          refine g_iload_n C 2 dX10_does_102 rfl rfl (n := 103) rfl ?_
          refine g_iald C an_34 (by decide) dX10_does_103 (n := 104) rfl hk (fun _ hk => ?_)
          refine Ok.join hk (fun a9 => G Θ Γ 131 [] [.int a9, .int p1, .ref (rr Θ 35 0 0)] a5) (fun a9 hk => ?_) (fun hk => ?_)
          · refine g_iast C an_35 (by decide) dX10_does_131 (n := 132) rfl hk (fun _ h10 hk => ?_)
            exact retV hk.out dX10_does_132
          · refine g_if_ne C 123 dX10_does_104 (by decide) (n := 107) rfl hk (fun hk => ?_) (fun hk => ?_)
            · refine g_iload_n C 3 dX10_does_123 rfl rfl (n := 124) rfl ?_
              refine g_iconst C (1 : Int32) dX10_does_124 (by decide) (n := 125) rfl ?_
              refine g_iadd C dX10_does_125 (n := 126) rfl ?_
              refine g_aload_n C 1 dX10_does_126 rfl rfl (n := 127) rfl ?_
              refine g_getI C kc_24 ft_24_2 (by decide) (by decide) (by decide) wm_899 dX10_does_127 (n := 130) rfl ?_
              refine g_irem C dX10_does_130 (n := 131) rfl hk (fun hk => ?_)
              refine g_lv [] [] rfl ?_
              exact hk.out
            · refine g_iload_n C 3 dX10_does_107 rfl rfl (n := 108) rfl ?_
              refine g_aload_n C 1 dX10_does_108 rfl rfl (n := 109) rfl ?_
              refine g_getI C kc_24 ft_24_2 (by decide) (by decide) (by decide) wm_899 dX10_does_109 (n := 112) rfl ?_
              refine g_iadd C dX10_does_112 (n := 113) rfl ?_
              refine g_iconst C (1 : Int32) dX10_does_113 (by decide) (n := 114) rfl ?_
              refine g_isub C dX10_does_114 (n := 115) rfl ?_
              refine g_aload_n C 1 dX10_does_115 rfl rfl (n := 116) rfl ?_
              refine g_getI C kc_24 ft_24_2 (by decide) (by decide) (by decide) wm_899 dX10_does_116 (n := 119) rfl ?_
              refine g_irem C dX10_does_119 (n := 120) rfl hk (fun hk => ?_)
              refine g_goto C 131 dX10_does_120 (by decide) ?_
              refine g_lv [] [] rfl ?_
              exact hk.out
        · refine g_aload_n C 1 dX10_does_79 rfl rfl (n := 80) rfl ?_
          refine g_getR C kc_24 (rt_24_19 (tB Θ) 0) (by decide) (by decide) (by decide) wm_916 dX10_does_80 (n := 83) rfl ?_
          refine g_iload C 0 dX10_does_83 rfl (n := 85) rfl ?_
          refine g_bipush C (10 : Int32) dX10_does_85 (by decide) (n := 87) rfl ?_
          refine g_iload_n C 2 dX10_does_87 rfl rfl (n := 88) rfl ?_
          refine g_iadd C dX10_does_88 (n := 89) rfl ?_
          refine g_iast C an_31 (by decide) dX10_does_89 (n := 90) rfl hk (fun _ h11 hk => ?_)
          refine g_goto C 132 dX10_does_90 (by decide) ?_
          exact retV hk.out dX10_does_132
      · refine g_ic_ne C 68 dX10_does_57 (by decide) (n := 60) rfl hk (fun hk => ?_) (fun hk => ?_)
        · refine g_bipush C (-4 : Int32) dX10_does_68 (by decide) (n := 70) rfl ?_
          refine g_lv [0, 1, 3] [(0, .ref (rr Θ 24 0 0)), (1, .int p1), (3, .int x2)] rfl ?_
          exact hk.out
        · refine g_aload_n C 0 dX10_does_60 rfl rfl (n := 61) rfl ?_
          refine g_iload_n C 1 dX10_does_61 rfl rfl (n := 62) rfl ?_
          refine g_cVIp C hk (fun K hk => L_X10_lyingFor Θ p1 a5 K hk) lk_X10_194 kc_24 (by decide) (by decide) ⟨rfl, rfl⟩ ⟨Nat.le_of_ble_eq_true rfl, Nat.le_of_ble_eq_true rfl⟩ dX10_does_62 rfl rfl (Nat.le_of_ble_eq_true rfl) (n := 65) rfl (fun r7 hk => ?_)
          refine g_goto C 70 dX10_does_65 (by decide) ?_
          refine g_lv [0, 1, 3] [(0, .ref (rr Θ 24 0 0)), (1, .int p1), (3, .int x2)] rfl ?_
          exact hk.out
  · refine g_ic_eq C 54 dX10_does_16 (by decide) (n := 19) rfl hk (fun hk => ?_) (fun hk => ?_)
    · refine g_lv [2, 3, 1, 0] [(0, .ref (rr Θ 24 0 0)), (1, .int p1), (2, .int r1), (3, .int x2)] rfl ?_
      exact hk.out
    · refine g_aload_n C 2 dX10_does_19 rfl rfl (n := 20) rfl ?_
      refine g_getR C kc_24 (rt_24_17 (tB Θ) 0) (by decide) (by decide) (by decide) wm_914 dX10_does_20 (n := 23) rfl ?_
      refine g_iload_n C 0 dX10_does_23 rfl rfl (n := 24) rfl ?_
      refine g_iald C an_29 (by decide) dX10_does_24 (n := 25) rfl hk (fun _ hk => ?_)
      refine g_if_le C 54 dX10_does_25 (by decide) (n := 28) rfl hk (fun hk => ?_) (fun hk => ?_)
      · refine g_lv [2, 3, 1, 0] [(0, .ref (rr Θ 24 0 0)), (1, .int p1), (2, .int r1), (3, .int x2)] rfl ?_
        exact hk.out
      · refine g_aload_n C 2 dX10_does_28 rfl rfl (n := 29) rfl ?_
        refine g_getR C kc_24 (rt_24_17 (tB Θ) 0) (by decide) (by decide) (by decide) wm_914 dX10_does_29 (n := 32) rfl ?_
        refine g_iload_n C 0 dX10_does_32 rfl rfl (n := 33) rfl ?_
        refine g_iald C an_29 (by decide) dX10_does_33 (n := 34) rfl hk (fun _ hk => ?_)
        refine g_aload_n C 2 dX10_does_34 rfl rfl (n := 35) rfl ?_
        refine g_getR C kc_24 (rt_24_21 (tB Θ) 0) (by decide) (by decide) (by decide) wm_918 dX10_does_35 (n := 38) rfl ?_
        refine g_iload_n C 3 dX10_does_38 rfl rfl (n := 39) rfl ?_
        refine g_iald C an_33 (by decide) dX10_does_39 (n := 40) rfl hk (fun _ hk => ?_)
        refine g_ic_lt C 54 dX10_does_40 (by decide) (n := 43) rfl hk (fun hk => ?_) (fun hk => ?_)
        · refine g_lv [2, 3, 1, 0] [(0, .ref (rr Θ 24 0 0)), (1, .int p1), (2, .int r1), (3, .int x2)] rfl ?_
          exact hk.out
        · refine g_aload_n C 2 dX10_does_43 rfl rfl (n := 44) rfl ?_
          refine g_getR C kc_24 (rt_24_19 (tB Θ) 0) (by decide) (by decide) (by decide) wm_916 dX10_does_44 (n := 47) rfl ?_
          refine g_iload_n C 1 dX10_does_47 rfl rfl (n := 48) rfl ?_
          refine g_bipush C (20 : Int32) dX10_does_48 (by decide) (n := 50) rfl ?_
          refine g_iload_n C 0 dX10_does_50 rfl rfl (n := 51) rfl ?_
          refine g_iadd C dX10_does_51 (n := 52) rfl ?_
          refine g_iast C an_31 (by decide) dX10_does_52 (n := 53) rfl hk (fun _ h4 hk => ?_)
          exact retV hk.out dX10_does_53
def f_X10_fights  (h : Mem) : Option (Mem) := obd (lp fu (fun a71 => (if (a71.2 24 26 0 0) ≤ a71.1 then some (.inr a71.2) else gd (inb a71.1 4) (bnd (a71.2 36 0 0 a71.1.toNatClampNeg) (fun x72 => obd (f_X10_heldBy x72 a71.2) (fun r73 => obd ((if r73 = (-4 : Int32) then some false else some true)) (fun a74 => obd (lp fu (fun a93 => (if (a71.2 24 26 0 0) ≤ a93.2 then some (.inr a93.1) else gd (inb a93.2 4) (bnd (a71.2 36 0 0 a93.2.toNatClampNeg) (fun x94 => obd ((if x94 = x72 then some false else gd (inb x94 4) (gd (inb x72 4) ((if (a71.2 35 0 0 x94.toNatClampNeg) = (a71.2 35 0 0 x72.toNatClampNeg) then obd (f_X10_heldBy x94 a71.2) (fun r96 => (if r96 = (-4 : Int32) then some false else some true)) else some false))))) (fun a97 => (if a93.1 = true then bnd (a93.2 + (1 : Int32)) (fun x98 => some (.inl (true, x98))) else (if a97 = true then gd (inb x94 4) (gd (inb x72 4) ((if (a71.2 32 0 0 x94.toNatClampNeg) < (a71.2 32 0 0 x72.toNatClampNeg) then bnd (a93.2 + (1 : Int32)) (fun x100 => some (.inl (false, x100))) else bnd (a93.2 + (1 : Int32)) (fun x101 => some (.inl (true, x101)))))) else bnd (a93.2 + (1 : Int32)) (fun x99 => some (.inl (false, x99)))))))))) (false, (0 : Int32))) (fun e102 => obd ((if a74 = true then (if e102 = true then some true else some false) else some false)) (fun a103 => gd (inb x72 4) (bnd (up a71.2 37 0 0 x72.toNatClampNeg (vp_nar .boolean (b2i a103))) (fun h104 => bnd (a71.1 + (1 : Int32)) (fun x105 => some (.inl (x105, h104))))))))))))) ((0 : Int32), h)) (fun e106 => obd (lp fu (fun a119 => (if (a119.2 24 26 0 0) ≤ a119.1 then some (.inr a119.2) else gd (inb a119.1 4) (bnd (a119.2 36 0 0 a119.1.toNatClampNeg) (fun x120 => gd (inb x120 4) ((if (a119.2 37 0 0 x120.toNatClampNeg) = 0 then bnd (a119.1 + (1 : Int32)) (fun x121 => some (.inl (x121, a119.2))) else obd (f_X10_heldBy x120 a119.2) (fun r122 => gd (inb x120 4) (gd (inb r122 6) (bnd (up a119.2 31 0 0 r122.toNatClampNeg (a119.2 35 0 0 x120.toNatClampNeg)) (fun h123 => bnd (a119.1 + (1 : Int32)) (fun x124 => some (.inl (x124, h123))))))))))))) ((0 : Int32), e106)) (fun e125 => some e125))
def rm_X10_fights : Room := { frames := 1, cells := 0, slots := 0, locals := 23 }
set_option maxHeartbeats 4000000 in
set_option maxRecDepth 100000 in
theorem L_X10_fights (Θ : Tht)  (h : Mem) (K : Mem → Prop) (hk : Ok (f_X10_fights  h) K) : CV Θ yX10_fights cX10_fights 8 none rm_X10_fights [.ref (rr Θ 24 0 0)] h K := by
  refine CV.of K [(0, .ref (rr Θ 24 0 0))] (plainFor_of_name (by decide)) (Nat.le_of_ble_eq_true rfl) rfl (fun Γ C Rt => ?_)
  replace hk := rtV Rt hk
  unfold f_X10_fights at hk
  refine g_iconst C (0 : Int32) dX10_fights_0 (by decide) (n := 1) rfl ?_
  refine g_istore_n C [(1, .int (0 : Int32)), (0, .ref (rr Θ 24 0 0))] dX10_fights_1 rfl (by decide) rfl (n := 2) rfl ?_
  refine g_lv [1, 0] [(0, .ref (rr Θ 24 0 0)), (1, .int (0 : Int32))] rfl ?_
  refine Ok.join hk (fun e106 => G Θ Γ 162 [(0, .ref (rr Θ 24 0 0))] [] e106) (fun e106 hk => ?_) (fun hk => ?_)
  · refine g_iconst C (0 : Int32) dX10_fights_162 (by decide) (n := 163) rfl ?_
    refine g_istore_n C [(1, .int (0 : Int32)), (0, .ref (rr Θ 24 0 0))] dX10_fights_163 rfl (by decide) rfl (n := 164) rfl ?_
    refine g_lv [1, 0] [(0, .ref (rr Θ 24 0 0)), (1, .int (0 : Int32))] rfl ?_
    refine Ok.join hk (fun e125 => G Θ Γ 210 [] [] e125) (fun e125 hk => ?_) (fun hk => ?_)
    · exact retV hk.out dX10_fights_210
    · refine Ok.loop (fun a119 => G Θ Γ 164 [(0, .ref (rr Θ 24 0 0)), (1, .int a119.1)] [] a119.2) (fun a119 hk => ?_) _ _ hk
      refine g_iload_n C 1 dX10_fights_164 rfl rfl (n := 165) rfl ?_
      refine g_aload_n C 0 dX10_fights_165 rfl rfl (n := 166) rfl ?_
      refine g_getI C kc_24 ft_24_26 (by decide) (by decide) (by decide) wm_923 dX10_fights_166 (n := 169) rfl ?_
      refine g_ic_ge C 210 dX10_fights_169 (by decide) (n := 172) rfl hk (fun hk => ?_) (fun hk => ?_)
      · refine g_lv [] [] rfl ?_
        exact hk.out
      · refine g_aload_n C 0 dX10_fights_172 rfl rfl (n := 173) rfl ?_
        refine g_getR C kc_24 (rt_24_24 (tB Θ) 0) (by decide) (by decide) (by decide) wm_921 dX10_fights_173 (n := 176) rfl ?_
        refine g_iload_n C 1 dX10_fights_176 rfl rfl (n := 177) rfl ?_
        refine g_iald C an_36 (by decide) dX10_fights_177 (n := 178) rfl hk (fun _ hk => ?_)
        refine g_nm hk (fun x120 hk => ?_)
        refine g_istore_n C [(2, .int x120), (0, .ref (rr Θ 24 0 0)), (1, .int a119.1)] dX10_fights_178 rfl (by decide) rfl (n := 179) rfl ?_
        refine g_aload_n C 1 dX10_fights_179 rfl rfl (n := 180) rfl ?_
        refine g_getR C kc_24 (rt_24_25 (tB Θ) 0) (by decide) (by decide) (by decide) wm_922 dX10_fights_180 (n := 183) rfl ?_
        refine g_iload_n C 0 dX10_fights_183 rfl rfl (n := 184) rfl ?_
        refine g_zald C an_37 (by decide) dX10_fights_184 (n := 185) rfl hk (fun _ hk => ?_)
        refine g_if_eq C 204 dX10_fights_185 (by decide) (n := 188) rfl hk (fun hk => ?_) (fun hk => ?_)
        · refine g_iinc C 2 (fun x121 => [(1, .int x121), (2, .int x120), (0, .ref (rr Θ 24 0 0))]) dX10_fights_204 rfl (v := (a119.1 + (1 : Int32))) rfl (by decide) (fun _ => rfl) (n := 207) rfl hk (fun x121 hk => ?_)
          refine g_goto C 164 dX10_fights_207 (by decide) ?_
          refine g_lv [2, 0] [(0, .ref (rr Θ 24 0 0)), (1, .int x121)] rfl ?_
          exact hk.out
        · refine g_aload_n C 1 dX10_fights_188 rfl rfl (n := 189) rfl ?_
          refine g_getR C kc_24 (rt_24_19 (tB Θ) 0) (by decide) (by decide) (by decide) wm_916 dX10_fights_189 (n := 192) rfl ?_
          refine g_aload_n C 1 dX10_fights_192 rfl rfl (n := 193) rfl ?_
          refine g_iload_n C 0 dX10_fights_193 rfl rfl (n := 194) rfl ?_
          refine g_cVIp C hk (fun K hk => L_X10_heldBy Θ x120 a119.2 K hk) lk_X10_191 kc_24 (by decide) (by decide) ⟨rfl, rfl⟩ ⟨Nat.le_of_ble_eq_true rfl, Nat.le_of_ble_eq_true rfl⟩ dX10_fights_194 rfl rfl (Nat.le_of_ble_eq_true rfl) (n := 197) rfl (fun r122 hk => ?_)
          refine g_aload_n C 1 dX10_fights_197 rfl rfl (n := 198) rfl ?_
          refine g_getR C kc_24 (rt_24_23 (tB Θ) 0) (by decide) (by decide) (by decide) wm_920 dX10_fights_198 (n := 201) rfl ?_
          refine g_iload_n C 0 dX10_fights_201 rfl rfl (n := 202) rfl ?_
          refine g_iald C an_35 (by decide) dX10_fights_202 (n := 203) rfl hk (fun _ hk => ?_)
          refine g_iast C an_31 (by decide) dX10_fights_203 (n := 204) rfl hk (fun _ h123 hk => ?_)
          refine g_iinc C 2 (fun x124 => [(1, .int x124), (2, .int x120), (0, .ref (rr Θ 24 0 0))]) dX10_fights_204 rfl (v := (a119.1 + (1 : Int32))) rfl (by decide) (fun _ => rfl) (n := 207) rfl hk (fun x124 hk => ?_)
          refine g_goto C 164 dX10_fights_207 (by decide) ?_
          refine g_lv [2, 0] [(0, .ref (rr Θ 24 0 0)), (1, .int x124)] rfl ?_
          exact hk.out
  · refine Ok.loop (fun a71 => G Θ Γ 2 [(0, .ref (rr Θ 24 0 0)), (1, .int a71.1)] [] a71.2) (fun a71 hk => ?_) _ _ hk
    refine g_iload_n C 1 dX10_fights_2 rfl rfl (n := 3) rfl ?_
    refine g_aload_n C 0 dX10_fights_3 rfl rfl (n := 4) rfl ?_
    refine g_getI C kc_24 ft_24_26 (by decide) (by decide) (by decide) wm_923 dX10_fights_4 (n := 7) rfl ?_
    refine g_ic_ge C 162 dX10_fights_7 (by decide) (n := 10) rfl hk (fun hk => ?_) (fun hk => ?_)
    · refine g_lv [0] [(0, .ref (rr Θ 24 0 0))] rfl ?_
      exact hk.out
    · refine g_aload_n C 0 dX10_fights_10 rfl rfl (n := 11) rfl ?_
      refine g_getR C kc_24 (rt_24_24 (tB Θ) 0) (by decide) (by decide) (by decide) wm_921 dX10_fights_11 (n := 14) rfl ?_
      refine g_iload_n C 1 dX10_fights_14 rfl rfl (n := 15) rfl ?_
      refine g_iald C an_36 (by decide) dX10_fights_15 (n := 16) rfl hk (fun _ hk => ?_)
      refine g_nm hk (fun x72 hk => ?_)
      refine g_istore_n C [(2, .int x72), (0, .ref (rr Θ 24 0 0)), (1, .int a71.1)] dX10_fights_16 rfl (by decide) rfl (n := 17) rfl ?_
      refine g_aload_n C 1 dX10_fights_17 rfl rfl (n := 18) rfl ?_
      refine g_iload_n C 0 dX10_fights_18 rfl rfl (n := 19) rfl ?_
      refine g_cVIp C hk (fun K hk => L_X10_heldBy Θ x72 a71.2 K hk) lk_X10_191 kc_24 (by decide) (by decide) ⟨rfl, rfl⟩ ⟨Nat.le_of_ble_eq_true rfl, Nat.le_of_ble_eq_true rfl⟩ dX10_fights_19 rfl rfl (Nat.le_of_ble_eq_true rfl) (n := 22) rfl (fun r73 hk => ?_)
      refine g_bipush C (-4 : Int32) dX10_fights_22 (by decide) (n := 24) rfl ?_
      refine Ok.join hk (fun a74 => G Θ Γ 32 [(0, .ref (rr Θ 24 0 0)), (1, .int a71.1), (2, .int x72)] [.int (b2i a74)] a71.2) (fun a74 hk => ?_) (fun hk => ?_)
      · refine g_istore_n C [(3, .int (b2i a74)), (0, .ref (rr Θ 24 0 0)), (1, .int a71.1), (2, .int x72)] dX10_fights_32 rfl (by decide) rfl (n := 33) rfl ?_
        refine g_iconst C (0 : Int32) dX10_fights_33 (by decide) (n := 34) rfl ?_
        refine g_istore C [(4, .int (0 : Int32)), (3, .int (b2i a74)), (0, .ref (rr Θ 24 0 0)), (1, .int a71.1), (2, .int x72)] dX10_fights_34 (by decide) rfl (n := 36) rfl ?_
        refine g_iconst C (0 : Int32) dX10_fights_36 (by decide) (n := 37) rfl ?_
        refine g_istore C [(5, .int (0 : Int32)), (4, .int (0 : Int32)), (3, .int (b2i a74)), (0, .ref (rr Θ 24 0 0)), (1, .int a71.1), (2, .int x72)] dX10_fights_37 (by decide) rfl (n := 39) rfl ?_
        refine g_lv [3, 4, 5, 2, 1, 0] [(0, .ref (rr Θ 24 0 0)), (1, .int a71.1), (2, .int x72), (3, .int (b2i a74)), (4, .int (0 : Int32)), (5, .int (0 : Int32))] rfl ?_
        refine Ok.join hk (fun e102 => G Θ Γ 136 [(0, .ref (rr Θ 24 0 0)), (1, .int a71.1), (2, .int x72), (3, .int (b2i a74)), (4, .int (b2i e102))] [] a71.2) (fun e102 hk => ?_) (fun hk => ?_)
        · refine g_aload_n C 0 dX10_fights_136 rfl rfl (n := 137) rfl ?_
          refine g_getR C kc_24 (rt_24_25 (tB Θ) 0) (by decide) (by decide) (by decide) wm_922 dX10_fights_137 (n := 140) rfl ?_
          refine g_iload_n C 2 dX10_fights_140 rfl rfl (n := 141) rfl ?_
          refine g_iload_n C 3 dX10_fights_141 rfl rfl (n := 142) rfl ?_
          refine Ok.join hk (fun a103 => G Θ Γ 155 [(0, .ref (rr Θ 24 0 0)), (1, .int a71.1)] [.int (b2i a103), .int x72, .ref (rr Θ 37 0 0)] a71.2) (fun a103 hk => ?_) (fun hk => ?_)
          · refine g_zast C an_37 (by decide) dX10_fights_155 (n := 156) rfl hk (fun _ h104 hk => ?_)
            refine g_iinc C 1 (fun x105 => [(1, .int x105), (0, .ref (rr Θ 24 0 0))]) dX10_fights_156 rfl (v := (a71.1 + (1 : Int32))) rfl (by decide) (fun _ => rfl) (n := 159) rfl hk (fun x105 hk => ?_)
            refine g_goto C 2 dX10_fights_159 (by decide) ?_
            refine g_lv [1, 0] [(0, .ref (rr Θ 24 0 0)), (1, .int x105)] rfl ?_
            exact hk.out
          · refine g_bf C 154 dX10_fights_142 (by decide) (n := 145) rfl hk (fun hk => ?_) (fun hk => ?_)
            · refine g_iconst C (0 : Int32) dX10_fights_154 (by decide) (n := 155) rfl ?_
              refine g_lv [0, 1] [(0, .ref (rr Θ 24 0 0)), (1, .int a71.1)] rfl ?_
              exact hk.out
            · refine g_iload C 4 dX10_fights_145 rfl (n := 147) rfl ?_
              refine g_bf C 154 dX10_fights_147 (by decide) (n := 150) rfl hk (fun hk => ?_) (fun hk => ?_)
              · refine g_iconst C (0 : Int32) dX10_fights_154 (by decide) (n := 155) rfl ?_
                refine g_lv [0, 1] [(0, .ref (rr Θ 24 0 0)), (1, .int a71.1)] rfl ?_
                exact hk.out
              · refine g_iconst C (1 : Int32) dX10_fights_150 (by decide) (n := 151) rfl ?_
                refine g_goto C 155 dX10_fights_151 (by decide) ?_
                refine g_lv [0, 1] [(0, .ref (rr Θ 24 0 0)), (1, .int a71.1)] rfl ?_
                exact hk.out
        · refine Ok.loop (fun a93 => G Θ Γ 39 [(0, .ref (rr Θ 24 0 0)), (1, .int a71.1), (2, .int x72), (3, .int (b2i a74)), (4, .int (b2i a93.1)), (5, .int a93.2)] [] a71.2) (fun a93 hk => ?_) _ _ hk
          refine g_iload C 5 dX10_fights_39 rfl (n := 41) rfl ?_
          refine g_aload_n C 0 dX10_fights_41 rfl rfl (n := 42) rfl ?_
          refine g_getI C kc_24 ft_24_26 (by decide) (by decide) (by decide) wm_923 dX10_fights_42 (n := 45) rfl ?_
          refine g_ic_ge C 136 dX10_fights_45 (by decide) (n := 48) rfl hk (fun hk => ?_) (fun hk => ?_)
          · refine g_lv [0, 1, 2, 3, 4] [(0, .ref (rr Θ 24 0 0)), (1, .int a71.1), (2, .int x72), (3, .int (b2i a74)), (4, .int (b2i a93.1))] rfl ?_
            exact hk.out
          · refine g_aload_n C 0 dX10_fights_48 rfl rfl (n := 49) rfl ?_
            refine g_getR C kc_24 (rt_24_24 (tB Θ) 0) (by decide) (by decide) (by decide) wm_921 dX10_fights_49 (n := 52) rfl ?_
            refine g_iload C 5 dX10_fights_52 rfl (n := 54) rfl ?_
            refine g_iald C an_36 (by decide) dX10_fights_54 (n := 55) rfl hk (fun _ hk => ?_)
            refine g_nm hk (fun x94 hk => ?_)
            refine g_istore C [(6, .int x94), (0, .ref (rr Θ 24 0 0)), (1, .int a71.1), (2, .int x72), (3, .int (b2i a74)), (4, .int (b2i a93.1)), (5, .int a93.2)] dX10_fights_55 (by decide) rfl (n := 57) rfl ?_
            refine g_iload C 0 dX10_fights_57 rfl (n := 59) rfl ?_
            refine g_iload_n C 3 dX10_fights_59 rfl rfl (n := 60) rfl ?_
            refine Ok.join hk (fun a97 => G Θ Γ 95 [(0, .ref (rr Θ 24 0 0)), (1, .int a71.1), (2, .int x72), (3, .int (b2i a74)), (4, .int (b2i a93.1)), (5, .int a93.2), (6, .int x94)] [.int (b2i a97)] a71.2) (fun a97 hk => ?_) (fun hk => ?_)
            · refine g_istore C [(7, .int (b2i a97)), (0, .ref (rr Θ 24 0 0)), (1, .int a71.1), (2, .int x72), (3, .int (b2i a74)), (4, .int (b2i a93.1)), (5, .int a93.2), (6, .int x94)] dX10_fights_95 (by decide) rfl (n := 97) rfl ?_
              refine g_iload C 5 dX10_fights_97 rfl (n := 99) rfl ?_
              refine g_bt C 123 dX10_fights_99 (by decide) (n := 102) rfl hk (fun hk => ?_) (fun hk => ?_)
              · refine g_iconst C (1 : Int32) dX10_fights_123 (by decide) (n := 124) rfl ?_
                refine g_goto C 128 dX10_fights_124 (by decide) ?_
                refine g_istore C [(4, .int (1 : Int32)), (7, .int (b2i a97)), (0, .ref (rr Θ 24 0 0)), (1, .int a71.1), (2, .int x72), (3, .int (b2i a74)), (5, .int a93.2), (6, .int x94)] dX10_fights_128 (by decide) rfl (n := 130) rfl ?_
                refine g_iinc C 6 (fun x98 => [(5, .int x98), (4, .int (1 : Int32)), (7, .int (b2i a97)), (0, .ref (rr Θ 24 0 0)), (1, .int a71.1), (2, .int x72), (3, .int (b2i a74)), (6, .int x94)]) dX10_fights_130 rfl (v := (a93.2 + (1 : Int32))) rfl (by decide) (fun _ => rfl) (n := 133) rfl hk (fun x98 hk => ?_)
                refine g_goto C 39 dX10_fights_133 (by decide) ?_
                refine g_lv [3, 4, 5, 6, 1, 0] [(0, .ref (rr Θ 24 0 0)), (1, .int a71.1), (2, .int x72), (3, .int (b2i a74)), (4, .int (1 : Int32)), (5, .int x98)] rfl ?_
                exact hk.out
              · refine g_iload C 0 dX10_fights_102 rfl (n := 104) rfl ?_
                refine g_bf C 127 dX10_fights_104 (by decide) (n := 107) rfl hk (fun hk => ?_) (fun hk => ?_)
                · refine g_iconst C (0 : Int32) dX10_fights_127 (by decide) (n := 128) rfl ?_
                  refine g_istore C [(4, .int (0 : Int32)), (7, .int (b2i a97)), (0, .ref (rr Θ 24 0 0)), (1, .int a71.1), (2, .int x72), (3, .int (b2i a74)), (5, .int a93.2), (6, .int x94)] dX10_fights_128 (by decide) rfl (n := 130) rfl ?_
                  refine g_iinc C 6 (fun x99 => [(5, .int x99), (4, .int (0 : Int32)), (7, .int (b2i a97)), (0, .ref (rr Θ 24 0 0)), (1, .int a71.1), (2, .int x72), (3, .int (b2i a74)), (6, .int x94)]) dX10_fights_130 rfl (v := (a93.2 + (1 : Int32))) rfl (by decide) (fun _ => rfl) (n := 133) rfl hk (fun x99 hk => ?_)
                  refine g_goto C 39 dX10_fights_133 (by decide) ?_
                  refine g_lv [3, 4, 5, 6, 1, 0] [(0, .ref (rr Θ 24 0 0)), (1, .int a71.1), (2, .int x72), (3, .int (b2i a74)), (4, .int (0 : Int32)), (5, .int x99)] rfl ?_
                  exact hk.out
                · refine g_aload_n C 1 dX10_fights_107 rfl rfl (n := 108) rfl ?_
                  refine g_getR C kc_24 (rt_24_20 (tB Θ) 0) (by decide) (by decide) (by decide) wm_917 dX10_fights_108 (n := 111) rfl ?_
                  refine g_iload C 7 dX10_fights_111 rfl (n := 113) rfl ?_
                  refine g_iald C an_32 (by decide) dX10_fights_113 (n := 114) rfl hk (fun _ hk => ?_)
                  refine g_aload_n C 1 dX10_fights_114 rfl rfl (n := 115) rfl ?_
                  refine g_getR C kc_24 (rt_24_20 (tB Θ) 0) (by decide) (by decide) (by decide) wm_917 dX10_fights_115 (n := 118) rfl ?_
                  refine g_iload_n C 3 dX10_fights_118 rfl rfl (n := 119) rfl ?_
                  refine g_iald C an_32 (by decide) dX10_fights_119 (n := 120) rfl hk (fun _ hk => ?_)
                  refine g_ic_lt C 127 dX10_fights_120 (by decide) (n := 123) rfl hk (fun hk => ?_) (fun hk => ?_)
                  · refine g_iconst C (0 : Int32) dX10_fights_127 (by decide) (n := 128) rfl ?_
                    refine g_istore C [(4, .int (0 : Int32)), (7, .int (b2i a97)), (0, .ref (rr Θ 24 0 0)), (1, .int a71.1), (2, .int x72), (3, .int (b2i a74)), (5, .int a93.2), (6, .int x94)] dX10_fights_128 (by decide) rfl (n := 130) rfl ?_
                    refine g_iinc C 6 (fun x100 => [(5, .int x100), (4, .int (0 : Int32)), (7, .int (b2i a97)), (0, .ref (rr Θ 24 0 0)), (1, .int a71.1), (2, .int x72), (3, .int (b2i a74)), (6, .int x94)]) dX10_fights_130 rfl (v := (a93.2 + (1 : Int32))) rfl (by decide) (fun _ => rfl) (n := 133) rfl hk (fun x100 hk => ?_)
                    refine g_goto C 39 dX10_fights_133 (by decide) ?_
                    refine g_lv [3, 4, 5, 6, 1, 0] [(0, .ref (rr Θ 24 0 0)), (1, .int a71.1), (2, .int x72), (3, .int (b2i a74)), (4, .int (0 : Int32)), (5, .int x100)] rfl ?_
                    exact hk.out
                  · refine g_iconst C (1 : Int32) dX10_fights_123 (by decide) (n := 124) rfl ?_
                    refine g_goto C 128 dX10_fights_124 (by decide) ?_
                    refine g_istore C [(4, .int (1 : Int32)), (7, .int (b2i a97)), (0, .ref (rr Θ 24 0 0)), (1, .int a71.1), (2, .int x72), (3, .int (b2i a74)), (5, .int a93.2), (6, .int x94)] dX10_fights_128 (by decide) rfl (n := 130) rfl ?_
                    refine g_iinc C 6 (fun x101 => [(5, .int x101), (4, .int (1 : Int32)), (7, .int (b2i a97)), (0, .ref (rr Θ 24 0 0)), (1, .int a71.1), (2, .int x72), (3, .int (b2i a74)), (6, .int x94)]) dX10_fights_130 rfl (v := (a93.2 + (1 : Int32))) rfl (by decide) (fun _ => rfl) (n := 133) rfl hk (fun x101 hk => ?_)
                    refine g_goto C 39 dX10_fights_133 (by decide) ?_
                    refine g_lv [3, 4, 5, 6, 1, 0] [(0, .ref (rr Θ 24 0 0)), (1, .int a71.1), (2, .int x72), (3, .int (b2i a74)), (4, .int (1 : Int32)), (5, .int x101)] rfl ?_
                    exact hk.out
            · refine g_ic_eq C 94 dX10_fights_60 (by decide) (n := 63) rfl hk (fun hk => ?_) (fun hk => ?_)
              · refine g_iconst C (0 : Int32) dX10_fights_94 (by decide) (n := 95) rfl ?_
                refine g_lv [1, 2, 3, 4, 5, 6, 0] [(0, .ref (rr Θ 24 0 0)), (1, .int a71.1), (2, .int x72), (3, .int (b2i a74)), (4, .int (b2i a93.1)), (5, .int a93.2), (6, .int x94)] rfl ?_
                exact hk.out
              · refine g_aload_n C 1 dX10_fights_63 rfl rfl (n := 64) rfl ?_
                refine g_getR C kc_24 (rt_24_23 (tB Θ) 0) (by decide) (by decide) (by decide) wm_920 dX10_fights_64 (n := 67) rfl ?_
                refine g_iload C 0 dX10_fights_67 rfl (n := 69) rfl ?_
                refine g_iald C an_35 (by decide) dX10_fights_69 (n := 70) rfl hk (fun _ hk => ?_)
                refine g_aload_n C 1 dX10_fights_70 rfl rfl (n := 71) rfl ?_
                refine g_getR C kc_24 (rt_24_23 (tB Θ) 0) (by decide) (by decide) (by decide) wm_920 dX10_fights_71 (n := 74) rfl ?_
                refine g_iload_n C 3 dX10_fights_74 rfl rfl (n := 75) rfl ?_
                refine g_iald C an_35 (by decide) dX10_fights_75 (n := 76) rfl hk (fun _ hk => ?_)
                refine g_ic_ne C 94 dX10_fights_76 (by decide) (n := 79) rfl hk (fun hk => ?_) (fun hk => ?_)
                · refine g_iconst C (0 : Int32) dX10_fights_94 (by decide) (n := 95) rfl ?_
                  refine g_lv [1, 2, 3, 4, 5, 6, 0] [(0, .ref (rr Θ 24 0 0)), (1, .int a71.1), (2, .int x72), (3, .int (b2i a74)), (4, .int (b2i a93.1)), (5, .int a93.2), (6, .int x94)] rfl ?_
                  exact hk.out
                · refine g_aload_n C 1 dX10_fights_79 rfl rfl (n := 80) rfl ?_
                  refine g_iload C 0 dX10_fights_80 rfl (n := 82) rfl ?_
                  refine g_cVIp C hk (fun K hk => L_X10_heldBy Θ x94 a71.2 K hk) lk_X10_191 kc_24 (by decide) (by decide) ⟨rfl, rfl⟩ ⟨Nat.le_of_ble_eq_true rfl, Nat.le_of_ble_eq_true rfl⟩ dX10_fights_82 rfl rfl (Nat.le_of_ble_eq_true rfl) (n := 85) rfl (fun r96 hk => ?_)
                  refine g_bipush C (-4 : Int32) dX10_fights_85 (by decide) (n := 87) rfl ?_
                  refine g_ic_eq C 94 dX10_fights_87 (by decide) (n := 90) rfl hk (fun hk => ?_) (fun hk => ?_)
                  · refine g_iconst C (0 : Int32) dX10_fights_94 (by decide) (n := 95) rfl ?_
                    refine g_lv [1, 2, 3, 4, 5, 6, 0] [(0, .ref (rr Θ 24 0 0)), (1, .int a71.1), (2, .int x72), (3, .int (b2i a74)), (4, .int (b2i a93.1)), (5, .int a93.2), (6, .int x94)] rfl ?_
                    exact hk.out
                  · refine g_iconst C (1 : Int32) dX10_fights_90 (by decide) (n := 91) rfl ?_
                    refine g_goto C 95 dX10_fights_91 (by decide) ?_
                    refine g_lv [1, 2, 3, 4, 5, 6, 0] [(0, .ref (rr Θ 24 0 0)), (1, .int a71.1), (2, .int x72), (3, .int (b2i a74)), (4, .int (b2i a93.1)), (5, .int a93.2), (6, .int x94)] rfl ?_
                    exact hk.out
      · refine g_ic_eq C 31 dX10_fights_24 (by decide) (n := 27) rfl hk (fun hk => ?_) (fun hk => ?_)
        · refine g_iconst C (0 : Int32) dX10_fights_31 (by decide) (n := 32) rfl ?_
          refine g_lv [1, 2, 0] [(0, .ref (rr Θ 24 0 0)), (1, .int a71.1), (2, .int x72)] rfl ?_
          exact hk.out
        · refine g_iconst C (1 : Int32) dX10_fights_27 (by decide) (n := 28) rfl ?_
          refine g_goto C 32 dX10_fights_28 (by decide) ?_
          refine g_lv [1, 2, 0] [(0, .ref (rr Θ 24 0 0)), (1, .int a71.1), (2, .int x72)] rfl ?_
          exact hk.out
def f_X10_steps  (h : Mem) : Option (Mem) := obd (lp fu (fun a7 => (if (a7.2 24 26 0 0) ≤ a7.1 then some (.inr a7.2) else gd (inb a7.1 4) (obd (f_X10_does (a7.2 36 0 0 a7.1.toNatClampNeg) a7.2) (fun h8 => bnd (a7.1 + (1 : Int32)) (fun x9 => some (.inl (x9, h8))))))) ((0 : Int32), h)) (fun e10 => obd (f_X10_fights e10) (fun h11 => bnd (up h11 24 27 0 0 ((h11 24 27 0 0) + (1 : Int32))) (fun h12 => obd ((if (h12 25 0 0 43) ≤ 0 then some false else gd (¬ (h12 25 0 0 43) = 0) ((if ((h12 24 27 0 0) - (h12 24 27 0 0) / (h12 25 0 0 43) * (h12 25 0 0 43)) = 0 then some true else some false)))) (fun a13 => obd (lp fu (fun a22 => (if (a22.2 25 0 0 8) ≤ a22.1 then some (.inr a22.2) else obd ((if a13 = true then gd (inb a22.1 6) ((if (8 : Int32) ≤ (a22.2 31 0 0 a22.1.toNatClampNeg) then gd (inb a22.1 6) (some (a22.2 31 0 0 a22.1.toNatClampNeg)) else gd (inb a22.1 6) ((if (a22.2 25 0 0 44) ≤ (a22.2 31 0 0 a22.1.toNatClampNeg) then gd (inb a22.1 6) (some (a22.2 31 0 0 a22.1.toNatClampNeg)) else some (30 : Int32))))) else gd (inb a22.1 6) (some (a22.2 31 0 0 a22.1.toNatClampNeg)))) (fun a23 => gd (inb a22.1 6) (bnd (up a22.2 31 0 0 a22.1.toNatClampNeg a23) (fun h24 => bnd (a22.1 + (1 : Int32)) (fun x25 => some (.inl (x25, h24)))))))) ((0 : Int32), h12)) (fun e26 => some e26)))))
def rm_X10_steps : Room := { frames := 3, cells := 0, slots := 0, locals := 69 }
set_option maxHeartbeats 4000000 in
set_option maxRecDepth 100000 in
theorem L_X10_steps (Θ : Tht)  (h : Mem) (K : Mem → Prop) (hk : Ok (f_X10_steps  h) K) : CV Θ yX10_steps cX10_steps 3 none rm_X10_steps [.ref (rr Θ 24 0 0)] h K := by
  refine CV.of K [(0, .ref (rr Θ 24 0 0))] (plainFor_of_name (by decide)) (Nat.le_of_ble_eq_true rfl) rfl (fun Γ C Rt => ?_)
  replace hk := rtV Rt hk
  unfold f_X10_steps at hk
  refine g_iconst C (0 : Int32) dX10_steps_0 (by decide) (n := 1) rfl ?_
  refine g_istore_n C [(1, .int (0 : Int32)), (0, .ref (rr Θ 24 0 0))] dX10_steps_1 rfl (by decide) rfl (n := 2) rfl ?_
  refine g_lv [1, 0] [(0, .ref (rr Θ 24 0 0)), (1, .int (0 : Int32))] rfl ?_
  refine Ok.join hk (fun e10 => G Θ Γ 26 [(0, .ref (rr Θ 24 0 0))] [] e10) (fun e10 hk => ?_) (fun hk => ?_)
  · refine g_aload_n C 0 dX10_steps_26 rfl rfl (n := 27) rfl ?_
    refine g_cVV C hk (fun K hk => L_X10_fights Θ e10 K hk) lk_X10_200 kc_24 (by decide) (by decide) ⟨rfl, rfl⟩ ⟨Nat.le_of_ble_eq_true rfl, Nat.le_of_ble_eq_true rfl⟩ dX10_steps_27 rfl rfl (Nat.le_of_ble_eq_true rfl) (n := 30) rfl (fun h11 hk => ?_)
    refine g_aload_n C 0 dX10_steps_30 rfl rfl (n := 31) rfl ?_
    refine g_dup C dX10_steps_31 rfl (n := 32) rfl ?_
    refine g_getI C kc_24 ft_24_27 (by decide) (by decide) (by decide) wm_924 dX10_steps_32 (n := 35) rfl ?_
    refine g_iconst C (1 : Int32) dX10_steps_35 (by decide) (n := 36) rfl ?_
    refine g_iadd C dX10_steps_36 (n := 37) rfl ?_
    refine g_putI C kc_24 ft_24_27 (by decide) (by decide) (by decide) rfl (fitI _) wm_924 dX10_steps_37 (n := 40) rfl hk (fun h12 hk => ?_)
    refine g_aload_n C 0 dX10_steps_40 rfl rfl (n := 41) rfl ?_
    refine g_getR C kc_24 (rt_24_0 (tB Θ) 0) (by decide) (by decide) (by decide) wm_897 dX10_steps_41 (n := 44) rfl ?_
    refine g_bipush C (43 : Int32) dX10_steps_44 (by decide) (n := 46) rfl ?_
    refine g_ialdL C 43 an_25 (by decide) (by decide) (by decide) dX10_steps_46 (n := 47) rfl ?_
    refine Ok.join hk (fun a13 => G Θ Γ 70 [(0, .ref (rr Θ 24 0 0))] [.int (b2i a13)] h12) (fun a13 hk => ?_) (fun hk => ?_)
    · refine g_istore_n C [(1, .int (b2i a13)), (0, .ref (rr Θ 24 0 0))] dX10_steps_70 rfl (by decide) rfl (n := 71) rfl ?_
      refine g_iconst C (0 : Int32) dX10_steps_71 (by decide) (n := 72) rfl ?_
      refine g_istore_n C [(2, .int (0 : Int32)), (1, .int (b2i a13)), (0, .ref (rr Θ 24 0 0))] dX10_steps_72 rfl (by decide) rfl (n := 73) rfl ?_
      refine g_lv [2, 1, 0] [(0, .ref (rr Θ 24 0 0)), (1, .int (b2i a13)), (2, .int (0 : Int32))] rfl ?_
      refine Ok.join hk (fun e26 => G Θ Γ 138 [] [] e26) (fun e26 hk => ?_) (fun hk => ?_)
      · exact retV hk.out dX10_steps_138
      · refine Ok.loop (fun a22 => G Θ Γ 73 [(0, .ref (rr Θ 24 0 0)), (1, .int (b2i a13)), (2, .int a22.1)] [] a22.2) (fun a22 hk => ?_) _ _ hk
        refine g_iload_n C 2 dX10_steps_73 rfl rfl (n := 74) rfl ?_
        refine g_aload_n C 0 dX10_steps_74 rfl rfl (n := 75) rfl ?_
        refine g_getR C kc_24 (rt_24_0 (tB Θ) 0) (by decide) (by decide) (by decide) wm_897 dX10_steps_75 (n := 78) rfl ?_
        refine g_bipush C (8 : Int32) dX10_steps_78 (by decide) (n := 80) rfl ?_
        refine g_ialdL C 8 an_25 (by decide) (by decide) (by decide) dX10_steps_80 (n := 81) rfl ?_
        refine g_ic_ge C 138 dX10_steps_81 (by decide) (n := 84) rfl hk (fun hk => ?_) (fun hk => ?_)
        · refine g_lv [] [] rfl ?_
          exact hk.out
        · refine g_aload_n C 0 dX10_steps_84 rfl rfl (n := 85) rfl ?_
          refine g_getR C kc_24 (rt_24_19 (tB Θ) 0) (by decide) (by decide) (by decide) wm_916 dX10_steps_85 (n := 88) rfl ?_
          refine g_iload_n C 2 dX10_steps_88 rfl rfl (n := 89) rfl ?_
          refine g_iload_n C 1 dX10_steps_89 rfl rfl (n := 90) rfl ?_
          refine Ok.join hk (fun a23 => G Θ Γ 131 [(0, .ref (rr Θ 24 0 0)), (1, .int (b2i a13)), (2, .int a22.1)] [.int a23, .int a22.1, .ref (rr Θ 31 0 0)] a22.2) (fun a23 hk => ?_) (fun hk => ?_)
          · refine g_iast C an_31 (by decide) dX10_steps_131 (n := 132) rfl hk (fun _ h24 hk => ?_)
            refine g_iinc C 2 (fun x25 => [(2, .int x25), (0, .ref (rr Θ 24 0 0)), (1, .int (b2i a13))]) dX10_steps_132 rfl (v := (a22.1 + (1 : Int32))) rfl (by decide) (fun _ => rfl) (n := 135) rfl hk (fun x25 hk => ?_)
            refine g_goto C 73 dX10_steps_135 (by decide) ?_
            refine g_lv [1, 2, 0] [(0, .ref (rr Θ 24 0 0)), (1, .int (b2i a13)), (2, .int x25)] rfl ?_
            exact hk.out
          · refine g_bf C 125 dX10_steps_90 (by decide) (n := 93) rfl hk (fun hk => ?_) (fun hk => ?_)
            · refine g_aload_n C 0 dX10_steps_125 rfl rfl (n := 126) rfl ?_
              refine g_getR C kc_24 (rt_24_19 (tB Θ) 0) (by decide) (by decide) (by decide) wm_916 dX10_steps_126 (n := 129) rfl ?_
              refine g_iload_n C 2 dX10_steps_129 rfl rfl (n := 130) rfl ?_
              refine g_iald C an_31 (by decide) dX10_steps_130 (n := 131) rfl hk (fun _ hk => ?_)
              exact hk.out
            · refine g_aload_n C 0 dX10_steps_93 rfl rfl (n := 94) rfl ?_
              refine g_getR C kc_24 (rt_24_19 (tB Θ) 0) (by decide) (by decide) (by decide) wm_916 dX10_steps_94 (n := 97) rfl ?_
              refine g_iload_n C 2 dX10_steps_97 rfl rfl (n := 98) rfl ?_
              refine g_iald C an_31 (by decide) dX10_steps_98 (n := 99) rfl hk (fun _ hk => ?_)
              refine g_bipush C (8 : Int32) dX10_steps_99 (by decide) (n := 101) rfl ?_
              refine g_ic_ge C 125 dX10_steps_101 (by decide) (n := 104) rfl hk (fun hk => ?_) (fun hk => ?_)
              · refine g_aload_n C 0 dX10_steps_125 rfl rfl (n := 126) rfl ?_
                refine g_getR C kc_24 (rt_24_19 (tB Θ) 0) (by decide) (by decide) (by decide) wm_916 dX10_steps_126 (n := 129) rfl ?_
                refine g_iload_n C 2 dX10_steps_129 rfl rfl (n := 130) rfl ?_
                refine g_iald C an_31 (by decide) dX10_steps_130 (n := 131) rfl hk (fun _ hk => ?_)
                exact hk.out
              · refine g_aload_n C 0 dX10_steps_104 rfl rfl (n := 105) rfl ?_
                refine g_getR C kc_24 (rt_24_19 (tB Θ) 0) (by decide) (by decide) (by decide) wm_916 dX10_steps_105 (n := 108) rfl ?_
                refine g_iload_n C 2 dX10_steps_108 rfl rfl (n := 109) rfl ?_
                refine g_iald C an_31 (by decide) dX10_steps_109 (n := 110) rfl hk (fun _ hk => ?_)
                refine g_aload_n C 0 dX10_steps_110 rfl rfl (n := 111) rfl ?_
                refine g_getR C kc_24 (rt_24_0 (tB Θ) 0) (by decide) (by decide) (by decide) wm_897 dX10_steps_111 (n := 114) rfl ?_
                refine g_bipush C (44 : Int32) dX10_steps_114 (by decide) (n := 116) rfl ?_
                refine g_ialdL C 44 an_25 (by decide) (by decide) (by decide) dX10_steps_116 (n := 117) rfl ?_
                refine g_ic_ge C 125 dX10_steps_117 (by decide) (n := 120) rfl hk (fun hk => ?_) (fun hk => ?_)
                · refine g_aload_n C 0 dX10_steps_125 rfl rfl (n := 126) rfl ?_
                  refine g_getR C kc_24 (rt_24_19 (tB Θ) 0) (by decide) (by decide) (by decide) wm_916 dX10_steps_126 (n := 129) rfl ?_
                  refine g_iload_n C 2 dX10_steps_129 rfl rfl (n := 130) rfl ?_
                  refine g_iald C an_31 (by decide) dX10_steps_130 (n := 131) rfl hk (fun _ hk => ?_)
                  exact hk.out
                · refine g_bipush C (30 : Int32) dX10_steps_120 (by decide) (n := 122) rfl ?_
                  refine g_goto C 131 dX10_steps_122 (by decide) ?_
                  exact hk.out
    · refine g_if_le C 69 dX10_steps_47 (by decide) (n := 50) rfl hk (fun hk => ?_) (fun hk => ?_)
      · refine g_iconst C (0 : Int32) dX10_steps_69 (by decide) (n := 70) rfl ?_
        exact hk.out
      · refine g_aload_n C 0 dX10_steps_50 rfl rfl (n := 51) rfl ?_
        refine g_getI C kc_24 ft_24_27 (by decide) (by decide) (by decide) wm_924 dX10_steps_51 (n := 54) rfl ?_
        refine g_aload_n C 0 dX10_steps_54 rfl rfl (n := 55) rfl ?_
        refine g_getR C kc_24 (rt_24_0 (tB Θ) 0) (by decide) (by decide) (by decide) wm_897 dX10_steps_55 (n := 58) rfl ?_
        refine g_bipush C (43 : Int32) dX10_steps_58 (by decide) (n := 60) rfl ?_
        refine g_ialdL C 43 an_25 (by decide) (by decide) (by decide) dX10_steps_60 (n := 61) rfl ?_
        refine g_irem C dX10_steps_61 (n := 62) rfl hk (fun hk => ?_)
        refine g_if_ne C 69 dX10_steps_62 (by decide) (n := 65) rfl hk (fun hk => ?_) (fun hk => ?_)
        · refine g_iconst C (0 : Int32) dX10_steps_69 (by decide) (n := 70) rfl ?_
          exact hk.out
        · refine g_iconst C (1 : Int32) dX10_steps_65 (by decide) (n := 66) rfl ?_
          refine g_goto C 70 dX10_steps_66 (by decide) ?_
          exact hk.out
  · refine Ok.loop (fun a7 => G Θ Γ 2 [(0, .ref (rr Θ 24 0 0)), (1, .int a7.1)] [] a7.2) (fun a7 hk => ?_) _ _ hk
    refine g_iload_n C 1 dX10_steps_2 rfl rfl (n := 3) rfl ?_
    refine g_aload_n C 0 dX10_steps_3 rfl rfl (n := 4) rfl ?_
    refine g_getI C kc_24 ft_24_26 (by decide) (by decide) (by decide) wm_923 dX10_steps_4 (n := 7) rfl ?_
    refine g_ic_ge C 26 dX10_steps_7 (by decide) (n := 10) rfl hk (fun hk => ?_) (fun hk => ?_)
    · refine g_lv [0] [(0, .ref (rr Θ 24 0 0))] rfl ?_
      exact hk.out
    · refine g_aload_n C 0 dX10_steps_10 rfl rfl (n := 11) rfl ?_
      refine g_aload_n C 0 dX10_steps_11 rfl rfl (n := 12) rfl ?_
      refine g_getR C kc_24 (rt_24_24 (tB Θ) 0) (by decide) (by decide) (by decide) wm_921 dX10_steps_12 (n := 15) rfl ?_
      refine g_iload_n C 1 dX10_steps_15 rfl rfl (n := 16) rfl ?_
      refine g_iald C an_36 (by decide) dX10_steps_16 (n := 17) rfl hk (fun _ hk => ?_)
      refine g_cVV C hk (fun K hk => L_X10_does Θ (a7.2 36 0 0 a7.1.toNatClampNeg) a7.2 K hk) lk_X10_197 kc_24 (by decide) (by decide) ⟨rfl, rfl⟩ ⟨Nat.le_of_ble_eq_true rfl, Nat.le_of_ble_eq_true rfl⟩ dX10_steps_17 rfl rfl (Nat.le_of_ble_eq_true rfl) (n := 20) rfl (fun h8 hk => ?_)
      refine g_iinc C 1 (fun x9 => [(1, .int x9), (0, .ref (rr Θ 24 0 0))]) dX10_steps_20 rfl (v := (a7.1 + (1 : Int32))) rfl (by decide) (fun _ => rfl) (n := 23) rfl hk (fun x9 hk => ?_)
      refine g_goto C 2 dX10_steps_23 (by decide) ?_
      refine g_lv [1, 0] [(0, .ref (rr Θ 24 0 0)), (1, .int x9)] rfl ?_
      exact hk.out
def f_X10_ahead (p1 : Int32) (p2 : Int32) (h : Mem) : Option (Int32 × Mem) := obd (f_X10_isCoin p1 h) (fun r1 => (if r1 = true then obd (f_X10_in ((p2).toInt64) (0 : Int64) (60 : Int64) h) (fun r2 => (if r2 = true then obd (f_X10_starts h) (fun h3 => obd (lp fu (fun a10 => (if p2 ≤ a10.1 then some (.inr a10.2) else obd (f_X10_steps a10.2) (fun h11 => bnd (a10.1 + (1 : Int32)) (fun x12 => some (.inl (x12, h11)))))) ((0 : Int32), h3)) (fun e13 => gd (inb p1 6) (some ((e13 31 0 0 p1.toNatClampNeg), e13)))) else some ((-1 : Int32), h))) else some ((-1 : Int32), h)))
def rm_X10_ahead : Room := { frames := 4, cells := 0, slots := 0, locals := 91 }
set_option maxHeartbeats 4000000 in
set_option maxRecDepth 100000 in
theorem L_X10_ahead (Θ : Tht) (p1 : Int32) (p2 : Int32) (h : Mem) (K : Int32 × Mem → Prop) (hk : Ok (f_X10_ahead p1 p2 h) K) : CI Θ yX10_ahead cX10_ahead 4 (some .int) rm_X10_ahead [.ref (rr Θ 24 0 0), .int p1, .int p2] h K := by
  refine CI.of K [(0, .ref (rr Θ 24 0 0)), (1, .int p1), (2, .int p2)] (plainFor_of_name (by decide)) (Nat.le_of_ble_eq_true rfl) rfl (fun Γ C Rt => ?_)
  replace hk := rtI Rt hk
  unfold f_X10_ahead at hk
  refine g_aload_n C 0 dX10_ahead_0 rfl rfl (n := 1) rfl ?_
  refine g_iload_n C 1 dX10_ahead_1 rfl rfl (n := 2) rfl ?_
  refine g_cVBp C hk (fun K hk => L_X10_isCoin Θ p1 h K hk) lk_X10_219 kc_24 (by decide) (by decide) ⟨rfl, rfl⟩ ⟨Nat.le_of_ble_eq_true rfl, Nat.le_of_ble_eq_true rfl⟩ dX10_ahead_2 rfl rfl (Nat.le_of_ble_eq_true rfl) (n := 5) rfl (fun r1 hk => ?_)
  refine g_bf C 20 dX10_ahead_5 (by decide) (n := 8) rfl hk (fun hk => ?_) (fun hk => ?_)
  · refine g_iconst C (-1 : Int32) dX10_ahead_20 (by decide) (n := 21) rfl ?_
    exact retI hk.out dX10_ahead_21
  · refine g_iload_n C 2 dX10_ahead_8 rfl rfl (n := 9) rfl ?_
    refine g_i2l C dX10_ahead_9 (n := 10) rfl ?_
    refine g_lconst C (0 : Int64) dX10_ahead_10 (by decide) (n := 11) rfl ?_
    refine g_ldc2 C (60 : Int64) wm_1173 dX10_ahead_11 (n := 14) rfl ?_
    refine g_cSBp C hk (fun K hk => L_X10_in Θ ((p2).toInt64) (0 : Int64) (60 : Int64) h K hk) lk_X10_95 ⟨rfl, rfl⟩ ⟨Nat.le_of_ble_eq_true rfl, Nat.le_of_ble_eq_true rfl⟩ dX10_ahead_14 rfl rfl (Nat.le_of_ble_eq_true rfl) (n := 17) rfl (fun r2 hk => ?_)
    refine g_bt C 22 dX10_ahead_17 (by decide) (n := 20) rfl hk (fun hk => ?_) (fun hk => ?_)
    · refine g_aload_n C 0 dX10_ahead_22 rfl rfl (n := 23) rfl ?_
      refine g_cVV C hk (fun K hk => L_X10_starts Θ h K hk) lk_X10_222 kc_24 (by decide) (by decide) ⟨rfl, rfl⟩ ⟨Nat.le_of_ble_eq_true rfl, Nat.le_of_ble_eq_true rfl⟩ dX10_ahead_23 rfl rfl (Nat.le_of_ble_eq_true rfl) (n := 26) rfl (fun h3 hk => ?_)
      refine g_iconst C (0 : Int32) dX10_ahead_26 (by decide) (n := 27) rfl ?_
      refine g_istore_n C [(3, .int (0 : Int32)), (0, .ref (rr Θ 24 0 0)), (1, .int p1), (2, .int p2)] dX10_ahead_27 rfl (by decide) rfl (n := 28) rfl ?_
      refine g_lv [1, 2, 3, 0] [(0, .ref (rr Θ 24 0 0)), (1, .int p1), (2, .int p2), (3, .int (0 : Int32))] rfl ?_
      refine Ok.join hk (fun e13 => G Θ Γ 43 [(0, .ref (rr Θ 24 0 0)), (1, .int p1)] [] e13) (fun e13 hk => ?_) (fun hk => ?_)
      · refine g_aload_n C 0 dX10_ahead_43 rfl rfl (n := 44) rfl ?_
        refine g_getR C kc_24 (rt_24_19 (tB Θ) 0) (by decide) (by decide) (by decide) wm_916 dX10_ahead_44 (n := 47) rfl ?_
        refine g_iload_n C 1 dX10_ahead_47 rfl rfl (n := 48) rfl ?_
        refine g_iald C an_31 (by decide) dX10_ahead_48 (n := 49) rfl hk (fun _ hk => ?_)
        exact retI hk.out dX10_ahead_49
      · refine Ok.loop (fun a10 => G Θ Γ 28 [(0, .ref (rr Θ 24 0 0)), (1, .int p1), (2, .int p2), (3, .int a10.1)] [] a10.2) (fun a10 hk => ?_) _ _ hk
        refine g_iload_n C 3 dX10_ahead_28 rfl rfl (n := 29) rfl ?_
        refine g_iload_n C 2 dX10_ahead_29 rfl rfl (n := 30) rfl ?_
        refine g_ic_ge C 43 dX10_ahead_30 (by decide) (n := 33) rfl hk (fun hk => ?_) (fun hk => ?_)
        · refine g_lv [0, 1] [(0, .ref (rr Θ 24 0 0)), (1, .int p1)] rfl ?_
          exact hk.out
        · refine g_aload_n C 0 dX10_ahead_33 rfl rfl (n := 34) rfl ?_
          refine g_cVV C hk (fun K hk => L_X10_steps Θ a10.2 K hk) lk_X10_213 kc_24 (by decide) (by decide) ⟨rfl, rfl⟩ ⟨Nat.le_of_ble_eq_true rfl, Nat.le_of_ble_eq_true rfl⟩ dX10_ahead_34 rfl rfl (Nat.le_of_ble_eq_true rfl) (n := 37) rfl (fun h11 hk => ?_)
          refine g_iinc C 3 (fun x12 => [(3, .int x12), (0, .ref (rr Θ 24 0 0)), (1, .int p1), (2, .int p2)]) dX10_ahead_37 rfl (v := (a10.1 + (1 : Int32))) rfl (by decide) (fun _ => rfl) (n := 40) rfl hk (fun x12 hk => ?_)
          refine g_goto C 28 dX10_ahead_40 (by decide) ?_
          refine g_lv [1, 2, 3, 0] [(0, .ref (rr Θ 24 0 0)), (1, .int p1), (2, .int p2), (3, .int x12)] rfl ?_
          exact hk.out
    · refine g_iconst C (-1 : Int32) dX10_ahead_20 (by decide) (n := 21) rfl ?_
      exact retI hk.out dX10_ahead_21
def f_X10_copies (p1 : Int32) (p2 : Int32) (h : Mem) : Option (Mem) := obd (lp fu (fun a7 => (if (79 : Int32) ≤ a7.1 then some (.inr a7.2) else gd (inb (p2 + a7.1) 237) (gd (inb (p1 + a7.1) 237) (bnd (up a7.2 25 0 0 (p1 + a7.1).toNatClampNeg (a7.2 25 0 0 (p2 + a7.1).toNatClampNeg)) (fun h8 => bnd (a7.1 + (1 : Int32)) (fun x9 => some (.inl (x9, h8)))))))) ((0 : Int32), h)) (fun e10 => some e10)
def rm_X10_copies : Room := { frames := 0, cells := 0, slots := 0, locals := 0 }
set_option maxHeartbeats 4000000 in
set_option maxRecDepth 100000 in
theorem L_X10_copies (Θ : Tht) (p1 : Int32) (p2 : Int32) (h : Mem) (K : Mem → Prop) (hk : Ok (f_X10_copies p1 p2 h) K) : CV Θ yX10_copies cX10_copies 4 none rm_X10_copies [.ref (rr Θ 24 0 0), .int p1, .int p2] h K := by
  refine CV.of K [(0, .ref (rr Θ 24 0 0)), (1, .int p1), (2, .int p2)] (plainFor_of_name (by decide)) (Nat.le_of_ble_eq_true rfl) rfl (fun Γ C Rt => ?_)
  replace hk := rtV Rt hk
  unfold f_X10_copies at hk
  refine g_iconst C (0 : Int32) dX10_copies_0 (by decide) (n := 1) rfl ?_
  refine g_istore_n C [(3, .int (0 : Int32)), (0, .ref (rr Θ 24 0 0)), (1, .int p1), (2, .int p2)] dX10_copies_1 rfl (by decide) rfl (n := 2) rfl ?_
  refine g_lv [1, 2, 3, 0] [(0, .ref (rr Θ 24 0 0)), (1, .int p1), (2, .int p2), (3, .int (0 : Int32))] rfl ?_
  refine Ok.join hk (fun e10 => G Θ Γ 30 [] [] e10) (fun e10 hk => ?_) (fun hk => ?_)
  · exact retV hk.out dX10_copies_30
  · refine Ok.loop (fun a7 => G Θ Γ 2 [(0, .ref (rr Θ 24 0 0)), (1, .int p1), (2, .int p2), (3, .int a7.1)] [] a7.2) (fun a7 hk => ?_) _ _ hk
    refine g_iload_n C 3 dX10_copies_2 rfl rfl (n := 3) rfl ?_
    refine g_bipush C (79 : Int32) dX10_copies_3 (by decide) (n := 5) rfl ?_
    refine g_ic_ge C 30 dX10_copies_5 (by decide) (n := 8) rfl hk (fun hk => ?_) (fun hk => ?_)
    · refine g_lv [] [] rfl ?_
      exact hk.out
    · refine g_aload_n C 0 dX10_copies_8 rfl rfl (n := 9) rfl ?_
      refine g_getR C kc_24 (rt_24_0 (tB Θ) 0) (by decide) (by decide) (by decide) wm_897 dX10_copies_9 (n := 12) rfl ?_
      refine g_iload_n C 1 dX10_copies_12 rfl rfl (n := 13) rfl ?_
      refine g_iload_n C 3 dX10_copies_13 rfl rfl (n := 14) rfl ?_
      refine g_iadd C dX10_copies_14 (n := 15) rfl ?_
      refine g_aload_n C 0 dX10_copies_15 rfl rfl (n := 16) rfl ?_
      refine g_getR C kc_24 (rt_24_0 (tB Θ) 0) (by decide) (by decide) (by decide) wm_897 dX10_copies_16 (n := 19) rfl ?_
      refine g_iload_n C 2 dX10_copies_19 rfl rfl (n := 20) rfl ?_
      refine g_iload_n C 3 dX10_copies_20 rfl rfl (n := 21) rfl ?_
      refine g_iadd C dX10_copies_21 (n := 22) rfl ?_
      refine g_iald C an_25 (by decide) dX10_copies_22 (n := 23) rfl hk (fun _ hk => ?_)
      refine g_iast C an_25 (by decide) dX10_copies_23 (n := 24) rfl hk (fun _ h8 hk => ?_)
      refine g_iinc C 3 (fun x9 => [(3, .int x9), (0, .ref (rr Θ 24 0 0)), (1, .int p1), (2, .int p2)]) dX10_copies_24 rfl (v := (a7.1 + (1 : Int32))) rfl (by decide) (fun _ => rfl) (n := 27) rfl hk (fun x9 hk => ?_)
      refine g_goto C 2 dX10_copies_27 (by decide) ?_
      refine g_lv [1, 2, 3, 0] [(0, .ref (rr Θ 24 0 0)), (1, .int p1), (2, .int p2), (3, .int x9)] rfl ?_
      exact hk.out
def f_X10_back (p1 : Int32) (h : Mem) : Option (Int32 × Mem) := obd (f_X10_in ((p1).toInt64) (0 : Int64) (1 : Int64) h) (fun r1 => (if r1 = true then gd (inb p1 2) ((if (h 26 0 0 p1.toNatClampNeg) = 0 then some ((-2 : Int32), h) else obd (f_X10_copies (0 : Int32) ((79 : Int32) * (p1 + (1 : Int32))) h) (fun h2 => some ((h2 25 0 0 45), h2)))) else some ((-1 : Int32), h)))
def rm_X10_back : Room := { frames := 1, cells := 0, slots := 0, locals := 25 }
set_option maxHeartbeats 4000000 in
set_option maxRecDepth 100000 in
theorem L_X10_back (Θ : Tht) (p1 : Int32) (h : Mem) (K : Int32 × Mem → Prop) (hk : Ok (f_X10_back p1 h) K) : CI Θ yX10_back cX10_back 2 (some .int) rm_X10_back [.ref (rr Θ 24 0 0), .int p1] h K := by
  refine CI.of K [(0, .ref (rr Θ 24 0 0)), (1, .int p1)] (plainFor_of_name (by decide)) (Nat.le_of_ble_eq_true rfl) rfl (fun Γ C Rt => ?_)
  replace hk := rtI Rt hk
  unfold f_X10_back at hk
  refine g_iload_n C 1 dX10_back_0 rfl rfl (n := 1) rfl ?_
  refine g_i2l C dX10_back_1 (n := 2) rfl ?_
  refine g_lconst C (0 : Int64) dX10_back_2 (by decide) (n := 3) rfl ?_
  refine g_lconst C (1 : Int64) dX10_back_3 (by decide) (n := 4) rfl ?_
  refine g_cSBp C hk (fun K hk => L_X10_in Θ ((p1).toInt64) (0 : Int64) (1 : Int64) h K hk) lk_X10_95 ⟨rfl, rfl⟩ ⟨Nat.le_of_ble_eq_true rfl, Nat.le_of_ble_eq_true rfl⟩ dX10_back_4 rfl rfl (Nat.le_of_ble_eq_true rfl) (n := 7) rfl (fun r1 hk => ?_)
  refine g_bt C 12 dX10_back_7 (by decide) (n := 10) rfl hk (fun hk => ?_) (fun hk => ?_)
  · refine g_aload_n C 0 dX10_back_12 rfl rfl (n := 13) rfl ?_
    refine g_getR C kc_24 (rt_24_1 (tB Θ) 0) (by decide) (by decide) (by decide) wm_898 dX10_back_13 (n := 16) rfl ?_
    refine g_iload_n C 1 dX10_back_16 rfl rfl (n := 17) rfl ?_
    refine g_zald C an_26 (by decide) dX10_back_17 (n := 18) rfl hk (fun _ hk => ?_)
    refine g_if_ne C 24 dX10_back_18 (by decide) (n := 21) rfl hk (fun hk => ?_) (fun hk => ?_)
    · refine g_aload_n C 0 dX10_back_24 rfl rfl (n := 25) rfl ?_
      refine g_iconst C (0 : Int32) dX10_back_25 (by decide) (n := 26) rfl ?_
      refine g_bipush C (79 : Int32) dX10_back_26 (by decide) (n := 28) rfl ?_
      refine g_iload_n C 1 dX10_back_28 rfl rfl (n := 29) rfl ?_
      refine g_iconst C (1 : Int32) dX10_back_29 (by decide) (n := 30) rfl ?_
      refine g_iadd C dX10_back_30 (n := 31) rfl ?_
      refine g_imul C dX10_back_31 (n := 32) rfl ?_
      refine g_cVV C hk (fun K hk => L_X10_copies Θ (0 : Int32) ((79 : Int32) * (p1 + (1 : Int32))) h K hk) lk_X10_266 kc_24 (by decide) (by decide) ⟨rfl, rfl⟩ ⟨Nat.le_of_ble_eq_true rfl, Nat.le_of_ble_eq_true rfl⟩ dX10_back_32 rfl rfl (Nat.le_of_ble_eq_true rfl) (n := 35) rfl (fun h2 hk => ?_)
      refine g_aload_n C 0 dX10_back_35 rfl rfl (n := 36) rfl ?_
      refine g_getR C kc_24 (rt_24_0 (tB Θ) 0) (by decide) (by decide) (by decide) wm_897 dX10_back_36 (n := 39) rfl ?_
      refine g_bipush C (45 : Int32) dX10_back_39 (by decide) (n := 41) rfl ?_
      refine g_ialdL C 45 an_25 (by decide) (by decide) (by decide) dX10_back_41 (n := 42) rfl ?_
      exact retI hk.out dX10_back_42
    · refine g_bipush C (-2 : Int32) dX10_back_21 (by decide) (n := 23) rfl ?_
      exact retI hk.out dX10_back_23
  · refine g_iconst C (-1 : Int32) dX10_back_10 (by decide) (n := 11) rfl ?_
    exact retI hk.out dX10_back_11
def f_X10_becomes (p1 : Int32) (p2 : Int32) (h : Mem) : Option (Int32 × Mem) := gd (inb p1 237) (bnd (h 25 0 0 p1.toNatClampNeg) (fun x1 => gd (inb p1 237) (bnd (up h 25 0 0 p1.toNatClampNeg p2) (fun h2 => some (x1, h2)))))
def rm_X10_becomes : Room := { frames := 0, cells := 0, slots := 0, locals := 0 }
set_option maxHeartbeats 4000000 in
set_option maxRecDepth 100000 in
theorem L_X10_becomes (Θ : Tht) (p1 : Int32) (p2 : Int32) (h : Mem) (K : Int32 × Mem → Prop) (hk : Ok (f_X10_becomes p1 p2 h) K) : CI Θ yX10_becomes cX10_becomes 4 (some .int) rm_X10_becomes [.ref (rr Θ 24 0 0), .int p1, .int p2] h K := by
  refine CI.of K [(0, .ref (rr Θ 24 0 0)), (1, .int p1), (2, .int p2)] (plainFor_of_name (by decide)) (Nat.le_of_ble_eq_true rfl) rfl (fun Γ C Rt => ?_)
  replace hk := rtI Rt hk
  unfold f_X10_becomes at hk
  refine g_aload_n C 0 dX10_becomes_0 rfl rfl (n := 1) rfl ?_
  refine g_getR C kc_24 (rt_24_0 (tB Θ) 0) (by decide) (by decide) (by decide) wm_897 dX10_becomes_1 (n := 4) rfl ?_
  refine g_iload_n C 1 dX10_becomes_4 rfl rfl (n := 5) rfl ?_
  refine g_iald C an_25 (by decide) dX10_becomes_5 (n := 6) rfl hk (fun _ hk => ?_)
  refine g_nm hk (fun x1 hk => ?_)
  refine g_istore_n C [(3, .int x1), (0, .ref (rr Θ 24 0 0)), (1, .int p1), (2, .int p2)] dX10_becomes_6 rfl (by decide) rfl (n := 7) rfl ?_
  refine g_aload_n C 1 dX10_becomes_7 rfl rfl (n := 8) rfl ?_
  refine g_getR C kc_24 (rt_24_0 (tB Θ) 0) (by decide) (by decide) (by decide) wm_897 dX10_becomes_8 (n := 11) rfl ?_
  refine g_iload_n C 2 dX10_becomes_11 rfl rfl (n := 12) rfl ?_
  refine g_iload_n C 3 dX10_becomes_12 rfl rfl (n := 13) rfl ?_
  refine g_iast C an_25 (by decide) dX10_becomes_13 (n := 14) rfl hk (fun _ h2 hk => ?_)
  refine g_iload_n C 0 dX10_becomes_14 rfl rfl (n := 15) rfl ?_
  exact retI hk.out dX10_becomes_15
def f_X10_flag (p1 : Bool) (h : Mem) : Option (Int32) := (if p1 = true then some (1 : Int32) else some (0 : Int32))
def rm_X10_flag : Room := { frames := 0, cells := 0, slots := 0, locals := 0 }
set_option maxHeartbeats 4000000 in
set_option maxRecDepth 100000 in
theorem L_X10_flag (Θ : Tht) (p1 : Bool) (h : Mem) (K : Int32 × Mem → Prop) (hk : Ok (f_X10_flag p1 h) (fun r => K (r, h))) : CI Θ yX10_flag cX10_flag 1 (some .int) rm_X10_flag [.int (b2i p1)] h K := by
  refine CI.of K [(0, .int (b2i p1))] (plainFor_of_name (by decide)) (Nat.le_of_ble_eq_true rfl) rfl (fun Γ C Rt => ?_)
  replace hk := rtIp Rt hk
  unfold f_X10_flag at hk
  refine g_iload_n C 0 dX10_flag_0 rfl rfl (n := 1) rfl ?_
  refine g_bf C 8 dX10_flag_1 (by decide) (n := 4) rfl hk (fun hk => ?_) (fun hk => ?_)
  · refine g_iconst C (0 : Int32) dX10_flag_8 (by decide) (n := 9) rfl ?_
    exact retI hk.out dX10_flag_9
  · refine g_iconst C (1 : Int32) dX10_flag_4 (by decide) (n := 5) rfl ?_
    refine g_goto C 9 dX10_flag_5 (by decide) ?_
    exact retI hk.out dX10_flag_9
def f_X10_rightPlace (p1 : Int32) (h : Mem) : Option (Int32) := obd (lp fu (fun a13 => (if (h 24 2 0 0) ≤ a13.2 then some (.inr a13.1) else gd (inb a13.2 8) (obd ((if (h 29 0 0 a13.2.toNatClampNeg) ≤ 0 then some false else gd (inb a13.2 8) (gd (inb ((9 : Int32) + p1) 237) ((if (h 29 0 0 a13.2.toNatClampNeg) < (h 25 0 0 ((9 : Int32) + p1).toNatClampNeg) then some false else some true))))) (fun a14 => (if a14 = true then (if a13.1 = (-4 : Int32) then bnd (a13.2 + (1 : Int32)) (fun x16 => some (.inl (a13.2, x16))) else gd (inb a13.2 8) (gd (inb a13.1 8) ((if (h 29 0 0 a13.1.toNatClampNeg) ≤ (h 29 0 0 a13.2.toNatClampNeg) then bnd (a13.2 + (1 : Int32)) (fun x17 => some (.inl (a13.1, x17))) else bnd (a13.2 + (1 : Int32)) (fun x18 => some (.inl (a13.2, x18))))))) else bnd (a13.2 + (1 : Int32)) (fun x15 => some (.inl (a13.1, x15)))))))) ((-4 : Int32), (0 : Int32))) (fun e19 => some e19)
def rm_X10_rightPlace : Room := { frames := 0, cells := 0, slots := 0, locals := 0 }
set_option maxHeartbeats 4000000 in
set_option maxRecDepth 100000 in
theorem L_X10_rightPlace (Θ : Tht) (p1 : Int32) (h : Mem) (K : Int32 × Mem → Prop) (hk : Ok (f_X10_rightPlace p1 h) (fun r => K (r, h))) : CI Θ yX10_rightPlace cX10_rightPlace 5 (some .int) rm_X10_rightPlace [.ref (rr Θ 24 0 0), .int p1] h K := by
  refine CI.of K [(0, .ref (rr Θ 24 0 0)), (1, .int p1)] (plainFor_of_name (by decide)) (Nat.le_of_ble_eq_true rfl) rfl (fun Γ C Rt => ?_)
  replace hk := rtIp Rt hk
  unfold f_X10_rightPlace at hk
  refine g_bipush C (-4 : Int32) dX10_rightPlace_0 (by decide) (n := 2) rfl ?_
  refine g_istore_n C [(2, .int (-4 : Int32)), (0, .ref (rr Θ 24 0 0)), (1, .int p1)] dX10_rightPlace_2 rfl (by decide) rfl (n := 3) rfl ?_
  refine g_iconst C (0 : Int32) dX10_rightPlace_3 (by decide) (n := 4) rfl ?_
  refine g_istore_n C [(3, .int (0 : Int32)), (2, .int (-4 : Int32)), (0, .ref (rr Θ 24 0 0)), (1, .int p1)] dX10_rightPlace_4 rfl (by decide) rfl (n := 5) rfl ?_
  refine g_lv [2, 3, 1, 0] [(0, .ref (rr Θ 24 0 0)), (1, .int p1), (2, .int (-4 : Int32)), (3, .int (0 : Int32))] rfl ?_
  refine Ok.join hk (fun e19 => G Θ Γ 85 [(2, .int e19)] [] h) (fun e19 hk => ?_) (fun hk => ?_)
  · refine g_iload_n C 0 dX10_rightPlace_85 rfl rfl (n := 86) rfl ?_
    exact retI hk.out dX10_rightPlace_86
  · refine Ok.loop (fun a13 => G Θ Γ 5 [(0, .ref (rr Θ 24 0 0)), (1, .int p1), (2, .int a13.1), (3, .int a13.2)] [] h) (fun a13 hk => ?_) _ _ hk
    refine g_iload_n C 3 dX10_rightPlace_5 rfl rfl (n := 6) rfl ?_
    refine g_aload_n C 0 dX10_rightPlace_6 rfl rfl (n := 7) rfl ?_
    refine g_getI C kc_24 ft_24_2 (by decide) (by decide) (by decide) wm_899 dX10_rightPlace_7 (n := 10) rfl ?_
    refine g_ic_ge C 85 dX10_rightPlace_10 (by decide) (n := 13) rfl hk (fun hk => ?_) (fun hk => ?_)
    · refine g_lv [2] [(2, .int a13.1)] rfl ?_
      exact hk.out
    · refine g_aload_n C 0 dX10_rightPlace_13 rfl rfl (n := 14) rfl ?_
      refine g_getR C kc_24 (rt_24_17 (tB Θ) 0) (by decide) (by decide) (by decide) wm_914 dX10_rightPlace_14 (n := 17) rfl ?_
      refine g_iload_n C 3 dX10_rightPlace_17 rfl rfl (n := 18) rfl ?_
      refine g_iald C an_29 (by decide) dX10_rightPlace_18 (n := 19) rfl hk (fun _ hk => ?_)
      refine Ok.join hk (fun a14 => G Θ Γ 45 [(0, .ref (rr Θ 24 0 0)), (1, .int p1), (2, .int a13.1), (3, .int a13.2)] [.int (b2i a14)] h) (fun a14 hk => ?_) (fun hk => ?_)
      · refine g_istore C [(4, .int (b2i a14)), (0, .ref (rr Θ 24 0 0)), (1, .int p1), (2, .int a13.1), (3, .int a13.2)] dX10_rightPlace_45 (by decide) rfl (n := 47) rfl ?_
        refine g_iload C 0 dX10_rightPlace_47 rfl (n := 49) rfl ?_
        refine g_bf C 77 dX10_rightPlace_49 (by decide) (n := 52) rfl hk (fun hk => ?_) (fun hk => ?_)
        · refine g_iload_n C 3 dX10_rightPlace_77 rfl rfl (n := 78) rfl ?_
          refine g_istore_n C [(2, .int a13.1), (4, .int (b2i a14)), (0, .ref (rr Θ 24 0 0)), (1, .int p1), (3, .int a13.2)] dX10_rightPlace_78 rfl (by decide) rfl (n := 79) rfl ?_
          refine g_iinc C 4 (fun x15 => [(3, .int x15), (2, .int a13.1), (4, .int (b2i a14)), (0, .ref (rr Θ 24 0 0)), (1, .int p1)]) dX10_rightPlace_79 rfl (v := (a13.2 + (1 : Int32))) rfl (by decide) (fun _ => rfl) (n := 82) rfl hk (fun x15 hk => ?_)
          refine g_goto C 5 dX10_rightPlace_82 (by decide) ?_
          refine g_lv [3, 4, 1, 0] [(0, .ref (rr Θ 24 0 0)), (1, .int p1), (2, .int a13.1), (3, .int x15)] rfl ?_
          exact hk.out
        · refine g_iload_n C 3 dX10_rightPlace_52 rfl rfl (n := 53) rfl ?_
          refine g_bipush C (-4 : Int32) dX10_rightPlace_53 (by decide) (n := 55) rfl ?_
          refine g_ic_eq C 73 dX10_rightPlace_55 (by decide) (n := 58) rfl hk (fun hk => ?_) (fun hk => ?_)
          · refine g_iload_n C 4 dX10_rightPlace_73 rfl rfl (n := 74) rfl ?_
            refine g_goto C 78 dX10_rightPlace_74 (by decide) ?_
            refine g_istore_n C [(2, .int a13.2), (4, .int (b2i a14)), (0, .ref (rr Θ 24 0 0)), (1, .int p1), (3, .int a13.2)] dX10_rightPlace_78 rfl (by decide) rfl (n := 79) rfl ?_
            refine g_iinc C 4 (fun x16 => [(3, .int x16), (2, .int a13.2), (4, .int (b2i a14)), (0, .ref (rr Θ 24 0 0)), (1, .int p1)]) dX10_rightPlace_79 rfl (v := (a13.2 + (1 : Int32))) rfl (by decide) (fun _ => rfl) (n := 82) rfl hk (fun x16 hk => ?_)
            refine g_goto C 5 dX10_rightPlace_82 (by decide) ?_
            refine g_lv [3, 4, 1, 0] [(0, .ref (rr Θ 24 0 0)), (1, .int p1), (2, .int a13.2), (3, .int x16)] rfl ?_
            exact hk.out
          · refine g_aload_n C 1 dX10_rightPlace_58 rfl rfl (n := 59) rfl ?_
            refine g_getR C kc_24 (rt_24_17 (tB Θ) 0) (by decide) (by decide) (by decide) wm_914 dX10_rightPlace_59 (n := 62) rfl ?_
            refine g_iload_n C 4 dX10_rightPlace_62 rfl rfl (n := 63) rfl ?_
            refine g_iald C an_29 (by decide) dX10_rightPlace_63 (n := 64) rfl hk (fun _ hk => ?_)
            refine g_aload_n C 1 dX10_rightPlace_64 rfl rfl (n := 65) rfl ?_
            refine g_getR C kc_24 (rt_24_17 (tB Θ) 0) (by decide) (by decide) (by decide) wm_914 dX10_rightPlace_65 (n := 68) rfl ?_
            refine g_iload_n C 3 dX10_rightPlace_68 rfl rfl (n := 69) rfl ?_
            refine g_iald C an_29 (by decide) dX10_rightPlace_69 (n := 70) rfl hk (fun _ hk => ?_)
            refine g_ic_ge C 77 dX10_rightPlace_70 (by decide) (n := 73) rfl hk (fun hk => ?_) (fun hk => ?_)
            · refine g_iload_n C 3 dX10_rightPlace_77 rfl rfl (n := 78) rfl ?_
              refine g_istore_n C [(2, .int a13.1), (4, .int (b2i a14)), (0, .ref (rr Θ 24 0 0)), (1, .int p1), (3, .int a13.2)] dX10_rightPlace_78 rfl (by decide) rfl (n := 79) rfl ?_
              refine g_iinc C 4 (fun x17 => [(3, .int x17), (2, .int a13.1), (4, .int (b2i a14)), (0, .ref (rr Θ 24 0 0)), (1, .int p1)]) dX10_rightPlace_79 rfl (v := (a13.2 + (1 : Int32))) rfl (by decide) (fun _ => rfl) (n := 82) rfl hk (fun x17 hk => ?_)
              refine g_goto C 5 dX10_rightPlace_82 (by decide) ?_
              refine g_lv [3, 4, 1, 0] [(0, .ref (rr Θ 24 0 0)), (1, .int p1), (2, .int a13.1), (3, .int x17)] rfl ?_
              exact hk.out
            · refine g_iload_n C 4 dX10_rightPlace_73 rfl rfl (n := 74) rfl ?_
              refine g_goto C 78 dX10_rightPlace_74 (by decide) ?_
              refine g_istore_n C [(2, .int a13.2), (4, .int (b2i a14)), (0, .ref (rr Θ 24 0 0)), (1, .int p1), (3, .int a13.2)] dX10_rightPlace_78 rfl (by decide) rfl (n := 79) rfl ?_
              refine g_iinc C 4 (fun x18 => [(3, .int x18), (2, .int a13.2), (4, .int (b2i a14)), (0, .ref (rr Θ 24 0 0)), (1, .int p1)]) dX10_rightPlace_79 rfl (v := (a13.2 + (1 : Int32))) rfl (by decide) (fun _ => rfl) (n := 82) rfl hk (fun x18 hk => ?_)
              refine g_goto C 5 dX10_rightPlace_82 (by decide) ?_
              refine g_lv [3, 4, 1, 0] [(0, .ref (rr Θ 24 0 0)), (1, .int p1), (2, .int a13.2), (3, .int x18)] rfl ?_
              exact hk.out
      · refine g_if_le C 44 dX10_rightPlace_19 (by decide) (n := 22) rfl hk (fun hk => ?_) (fun hk => ?_)
        · refine g_iconst C (0 : Int32) dX10_rightPlace_44 (by decide) (n := 45) rfl ?_
          exact hk.out
        · refine g_aload_n C 0 dX10_rightPlace_22 rfl rfl (n := 23) rfl ?_
          refine g_getR C kc_24 (rt_24_17 (tB Θ) 0) (by decide) (by decide) (by decide) wm_914 dX10_rightPlace_23 (n := 26) rfl ?_
          refine g_iload_n C 3 dX10_rightPlace_26 rfl rfl (n := 27) rfl ?_
          refine g_iald C an_29 (by decide) dX10_rightPlace_27 (n := 28) rfl hk (fun _ hk => ?_)
          refine g_aload_n C 0 dX10_rightPlace_28 rfl rfl (n := 29) rfl ?_
          refine g_getR C kc_24 (rt_24_0 (tB Θ) 0) (by decide) (by decide) (by decide) wm_897 dX10_rightPlace_29 (n := 32) rfl ?_
          refine g_bipush C (9 : Int32) dX10_rightPlace_32 (by decide) (n := 34) rfl ?_
          refine g_iload_n C 1 dX10_rightPlace_34 rfl rfl (n := 35) rfl ?_
          refine g_iadd C dX10_rightPlace_35 (n := 36) rfl ?_
          refine g_iald C an_25 (by decide) dX10_rightPlace_36 (n := 37) rfl hk (fun _ hk => ?_)
          refine g_ic_lt C 44 dX10_rightPlace_37 (by decide) (n := 40) rfl hk (fun hk => ?_) (fun hk => ?_)
          · refine g_iconst C (0 : Int32) dX10_rightPlace_44 (by decide) (n := 45) rfl ?_
            exact hk.out
          · refine g_iconst C (1 : Int32) dX10_rightPlace_40 (by decide) (n := 41) rfl ?_
            refine g_goto C 45 dX10_rightPlace_41 (by decide) ?_
            exact hk.out
