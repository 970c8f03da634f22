def f_X9_within (p1 : Int32) (p2 : Int32) (p3 : Int32) (h : Mem) : Option (Bool) := (if p1 < p2 then some false else (if p3 < p1 then some false else some true))
def rm_X9_within : Room := { frames := 0, cells := 0, slots := 0, locals := 0 }
set_option maxHeartbeats 4000000 in
set_option maxRecDepth 100000 in
theorem L_X9_within (Θ : Tht) (p1 : Int32) (p2 : Int32) (p3 : Int32) (h : Mem) (K : Bool × Mem → Prop) (hk : Ok (f_X9_within p1 p2 p3 h) (fun r => K (r, h))) : CB Θ yX9_within cX9_within 3 (some .boolean) rm_X9_within [.int p1, .int p2, .int p3] h K := by
  refine CB.of K [(0, .int p1), (1, .int p2), (2, .int p3)] (plainFor_of_name (by decide)) (Nat.le_of_ble_eq_true rfl) rfl (fun Γ C Rt => ?_)
  replace hk := rtBp Rt hk
  unfold f_X9_within at hk
  refine g_iload_n C 0 dX9_within_0 rfl rfl (n := 1) rfl ?_
  refine g_iload_n C 1 dX9_within_1 rfl rfl (n := 2) rfl ?_
  refine g_ic_lt C 14 dX9_within_2 (by decide) (n := 5) rfl hk (fun hk => ?_) (fun hk => ?_)
  · refine g_iconst C (0 : Int32) dX9_within_14 (by decide) (n := 15) rfl ?_
    exact retB false rfl hk.out dX9_within_15
  · refine g_iload_n C 0 dX9_within_5 rfl rfl (n := 6) rfl ?_
    refine g_iload_n C 2 dX9_within_6 rfl rfl (n := 7) rfl ?_
    refine g_ic_gt C 14 dX9_within_7 (by decide) (n := 10) rfl hk (fun hk => ?_) (fun hk => ?_)
    · refine g_iconst C (0 : Int32) dX9_within_14 (by decide) (n := 15) rfl ?_
      exact retB false rfl hk.out dX9_within_15
    · refine g_iconst C (1 : Int32) dX9_within_10 (by decide) (n := 11) rfl ?_
      refine g_goto C 15 dX9_within_11 (by decide) ?_
      exact retB true rfl hk.out dX9_within_15
def f_X9_isCoin (p1 : Int32) (h : Mem) : Option (Bool) := obd (f_X9_within p1 (0 : Int32) ((h 1 2 0 0) - (1 : Int32)) h) (fun r1 => some r1)
def rm_X9_isCoin : Room := { frames := 1, cells := 0, slots := 0, locals := 22 }
set_option maxHeartbeats 4000000 in
set_option maxRecDepth 100000 in
theorem L_X9_isCoin (Θ : Tht) (p1 : Int32) (h : Mem) (K : Bool × Mem → Prop) (hk : Ok (f_X9_isCoin p1 h) (fun r => K (r, h))) : CB Θ yX9_isCoin cX9_isCoin 2 (some .boolean) rm_X9_isCoin [.ref (rr Θ 0 0 0), .int p1] h K := by
  refine CB.of K [(0, .ref (rr Θ 0 0 0)), (1, .int p1)] (plainFor_of_name (by decide)) (Nat.le_of_ble_eq_true rfl) rfl (fun Γ C Rt => ?_)
  replace hk := rtBp Rt hk
  unfold f_X9_isCoin at hk
  refine g_iload_n C 1 dX9_isCoin_0 rfl rfl (n := 1) rfl ?_
  refine g_iconst C (0 : Int32) dX9_isCoin_1 (by decide) (n := 2) rfl ?_
  refine g_aload_n C 0 dX9_isCoin_2 rfl rfl (n := 3) rfl ?_
  refine g_getR C kc_0 (rt_0_0 (tB Θ) 0) (by decide) (by decide) (by decide) wm_362 dX9_isCoin_3 (n := 6) rfl ?_
  refine g_getI C kc_1 ft_1_2 (by decide) (by decide) (by decide) wm_166 dX9_isCoin_6 (n := 9) rfl ?_
  refine g_iconst C (1 : Int32) dX9_isCoin_9 (by decide) (n := 10) rfl ?_
  refine g_isub C dX9_isCoin_10 (n := 11) rfl ?_
  refine g_cSBp C hk (fun K hk => L_X9_within Θ p1 (0 : Int32) ((h 1 2 0 0) - (1 : Int32)) h K hk) lk_X9_69 ⟨rfl, rfl⟩ ⟨Nat.le_of_ble_eq_true rfl, Nat.le_of_ble_eq_true rfl⟩ dX9_isCoin_11 rfl rfl (Nat.le_of_ble_eq_true rfl) (n := 14) rfl (fun r1 hk => ?_)
  exact retB r1 rfl hk.out dX9_isCoin_14
def f_X1_copyFrom (o0 : Nat) (i0 : Nat) (o1 : Nat) (i1 : Nat) (h : Mem) : Option (Mem) := bnd (up h 6 0 o0 i0 (h 6 0 o1 i1)) (fun h1 => gd ((h1 6 1 o1 i1) = 0 ∨ (h1 6 1 o1 i1) = 1) (bnd (up h1 6 1 o0 i0 (h1 6 1 o1 i1)) (fun h3 => bnd (up h3 6 2 o0 i0 (h3 6 2 o1 i1)) (fun h4 => some h4))))
def rm_X1_copyFrom : Room := { frames := 0, cells := 0, slots := 0, locals := 0 }
set_option maxHeartbeats 4000000 in
set_option maxRecDepth 100000 in
theorem L_X1_copyFrom (Θ : Tht) (o0 : Nat) (ho0 : o0 < 5) (i0 : Nat) (hi0 : i0 < 6) (o1 : Nat) (ho1 : o1 < 5) (i1 : Nat) (hi1 : i1 < 6) (h : Mem) (K : Mem → Prop) (hk : Ok (f_X1_copyFrom o0 i0 o1 i1 h) K) : CV Θ yX1_copyFrom cX1_copyFrom 2 none rm_X1_copyFrom [.ref (rr Θ 6 o0 i0), .ref (rr Θ 6 o1 i1)] h K := by
  refine CV.of K [(0, .ref (rr Θ 6 o0 i0)), (1, .ref (rr Θ 6 o1 i1))] (plainFor_of_name (by decide)) (Nat.le_of_ble_eq_true rfl) rfl (fun Γ C Rt => ?_)
  replace hk := rtV Rt hk
  unfold f_X1_copyFrom at hk
  refine g_aload_n C 0 dX1_copyFrom_0 rfl rfl (n := 1) rfl ?_
  refine g_aload_n C 1 dX1_copyFrom_1 rfl rfl (n := 2) rfl ?_
  refine g_getI C kc_6 ft_6_0 ho1 hi1 (by decide) wm_104 dX1_copyFrom_2 (n := 5) rfl ?_
  refine g_putI C kc_6 ft_6_0 ho0 hi0 (by decide) rfl (fitI _) wm_104 dX1_copyFrom_5 (n := 8) rfl hk (fun h1 hk => ?_)
  refine g_aload_n C 0 dX1_copyFrom_8 rfl rfl (n := 9) rfl ?_
  refine g_aload_n C 1 dX1_copyFrom_9 rfl rfl (n := 10) rfl ?_
  refine g_getI C kc_6 ft_6_1 ho1 hi1 (by decide) wm_108 dX1_copyFrom_10 (n := 13) rfl ?_
  obtain ⟨hz2, hk⟩ := hk.gd
  refine g_putI C kc_6 ft_6_1 ho0 hi0 (by decide) rfl (fitZ hz2) wm_108 dX1_copyFrom_13 (n := 16) rfl hk (fun h3 hk => ?_)
  refine g_aload_n C 0 dX1_copyFrom_16 rfl rfl (n := 17) rfl ?_
  refine g_aload_n C 1 dX1_copyFrom_17 rfl rfl (n := 18) rfl ?_
  refine g_getI C kc_6 ft_6_2 ho1 hi1 (by decide) wm_113 dX1_copyFrom_18 (n := 21) rfl ?_
  refine g_putI C kc_6 ft_6_2 ho0 hi0 (by decide) rfl (fitI _) wm_113 dX1_copyFrom_21 (n := 24) rfl hk (fun h4 hk => ?_)
  exact retV hk.out dX1_copyFrom_24
def f_X2_copyFrom (o0 : Nat) (i0 : Nat) (o1 : Nat) (i1 : Nat) (h : Mem) : Option (Mem) := bnd (up h 7 0 o0 i0 (h 7 0 o1 i1)) (fun h1 => bnd (up h1 7 1 o0 i0 (h1 7 1 o1 i1)) (fun h2 => bnd (up h2 7 2 o0 i0 (h2 7 2 o1 i1)) (fun h3 => bnd (up h3 7 3 o0 i0 (h3 7 3 o1 i1)) (fun h4 => bnd (up h4 7 4 o0 i0 (h4 7 4 o1 i1)) (fun h5 => some h5)))))
def rm_X2_copyFrom : Room := { frames := 0, cells := 0, slots := 0, locals := 0 }
set_option maxHeartbeats 4000000 in
set_option maxRecDepth 100000 in
theorem L_X2_copyFrom (Θ : Tht) (o0 : Nat) (ho0 : o0 < 5) (i0 : Nat) (hi0 : i0 < 4) (o1 : Nat) (ho1 : o1 < 5) (i1 : Nat) (hi1 : i1 < 4) (h : Mem) (K : Mem → Prop) (hk : Ok (f_X2_copyFrom o0 i0 o1 i1 h) K) : CV Θ yX2_copyFrom cX2_copyFrom 2 none rm_X2_copyFrom [.ref (rr Θ 7 o0 i0), .ref (rr Θ 7 o1 i1)] h K := by
  refine CV.of K [(0, .ref (rr Θ 7 o0 i0)), (1, .ref (rr Θ 7 o1 i1))] (plainFor_of_name (by decide)) (Nat.le_of_ble_eq_true rfl) rfl (fun Γ C Rt => ?_)
  replace hk := rtV Rt hk
  unfold f_X2_copyFrom at hk
  refine g_aload_n C 0 dX2_copyFrom_0 rfl rfl (n := 1) rfl ?_
  refine g_aload_n C 1 dX2_copyFrom_1 rfl rfl (n := 2) rfl ?_
  refine g_getI C kc_7 ft_7_0 ho1 hi1 (by decide) wm_133 dX2_copyFrom_2 (n := 5) rfl ?_
  refine g_putI C kc_7 ft_7_0 ho0 hi0 (by decide) rfl (fitI _) wm_133 dX2_copyFrom_5 (n := 8) rfl hk (fun h1 hk => ?_)
  refine g_aload_n C 0 dX2_copyFrom_8 rfl rfl (n := 9) rfl ?_
  refine g_aload_n C 1 dX2_copyFrom_9 rfl rfl (n := 10) rfl ?_
  refine g_getI C kc_7 ft_7_1 ho1 hi1 (by decide) wm_136 dX2_copyFrom_10 (n := 13) rfl ?_
  refine g_putI C kc_7 ft_7_1 ho0 hi0 (by decide) rfl (fitI _) wm_136 dX2_copyFrom_13 (n := 16) rfl hk (fun h2 hk => ?_)
  refine g_aload_n C 0 dX2_copyFrom_16 rfl rfl (n := 17) rfl ?_
  refine g_aload_n C 1 dX2_copyFrom_17 rfl rfl (n := 18) rfl ?_
  refine g_getI C kc_7 ft_7_2 ho1 hi1 (by decide) wm_139 dX2_copyFrom_18 (n := 21) rfl ?_
  refine g_putI C kc_7 ft_7_2 ho0 hi0 (by decide) rfl (fitI _) wm_139 dX2_copyFrom_21 (n := 24) rfl hk (fun h3 hk => ?_)
  refine g_aload_n C 0 dX2_copyFrom_24 rfl rfl (n := 25) rfl ?_
  refine g_aload_n C 1 dX2_copyFrom_25 rfl rfl (n := 26) rfl ?_
  refine g_getI C kc_7 ft_7_3 ho1 hi1 (by decide) wm_142 dX2_copyFrom_26 (n := 29) rfl ?_
  refine g_putI C kc_7 ft_7_3 ho0 hi0 (by decide) rfl (fitI _) wm_142 dX2_copyFrom_29 (n := 32) rfl hk (fun h4 hk => ?_)
  refine g_aload_n C 0 dX2_copyFrom_32 rfl rfl (n := 33) rfl ?_
  refine g_aload_n C 1 dX2_copyFrom_33 rfl rfl (n := 34) rfl ?_
  refine g_getI C kc_7 ft_7_4 ho1 hi1 (by decide) wm_145 dX2_copyFrom_34 (n := 37) rfl ?_
  refine g_putI C kc_7 ft_7_4 ho0 hi0 (by decide) rfl (fitI _) wm_145 dX2_copyFrom_37 (n := 40) rfl hk (fun h5 hk => ?_)
  exact retV hk.out dX2_copyFrom_40
def f_X0_copyFrom (o0 : Nat) (o1 : Nat) (h : Mem) : Option (Mem) := bnd (up h 1 0 o0 0 (h 1 0 o1 0)) (fun h1 => bnd (up h1 1 2 o0 0 (h1 1 2 o1 0)) (fun h2 => bnd (up h2 1 4 o0 0 (h2 1 4 o1 0)) (fun h3 => bnd (up h3 1 10 o0 0 (h3 1 10 o1 0)) (fun h4 => bnd (up h4 1 6 o0 0 (h4 1 6 o1 0)) (fun h5 => bnd (up h5 1 7 o0 0 (h5 1 7 o1 0)) (fun h6 => bnd (up h6 1 8 o0 0 (h6 1 8 o1 0)) (fun h7 => obd (lp fu (fun a14 => (if (8 : Int32) ≤ a14.1 then some (.inr a14.2) else gd (inb a14.1 8) (gd (inb a14.1 8) (bnd (up a14.2 2 0 o0 a14.1.toNatClampNeg (a14.2 2 0 o1 a14.1.toNatClampNeg)) (fun h15 => bnd (a14.1 + (1 : Int32)) (fun x16 => some (.inl (x16, h15)))))))) ((0 : Int32), h7)) (fun e17 => obd (lp fu (fun a28 => (if (a28.2 1 2 o0 0) ≤ a28.1 then some (.inr a28.2) else gd (inb a28.1 6) (gd (inb a28.1 6) (obd (f_X1_copyFrom o0 a28.1.toNatClampNeg o1 a28.1.toNatClampNeg a28.2) (fun h31 => bnd (a28.1 + (1 : Int32)) (fun x32 => some (.inl (x32, h31)))))))) ((0 : Int32), e17)) (fun e33 => obd (lp fu (fun a46 => (if (a46.2 1 4 o0 0) ≤ a46.1 then some (.inr a46.2) else gd (inb a46.1 4) (gd (inb a46.1 4) (obd (f_X2_copyFrom o0 a46.1.toNatClampNeg o1 a46.1.toNatClampNeg a46.2) (fun h49 => gd (inb a46.1 4) (gd (inb a46.1 4) (bnd (up h49 5 0 o0 a46.1.toNatClampNeg (h49 5 0 o1 a46.1.toNatClampNeg)) (fun h50 => bnd (a46.1 + (1 : Int32)) (fun x51 => some (.inl (x51, h50))))))))))) ((0 : Int32), e33)) (fun e52 => some e52))))))))))
def rm_X0_copyFrom : Room := { frames := 1, cells := 0, slots := 0, locals := 21 }
set_option maxHeartbeats 4000000 in
set_option maxRecDepth 100000 in
theorem L_X0_copyFrom (Θ : Tht) (o0 : Nat) (ho0 : o0 < 5) (o1 : Nat) (ho1 : o1 < 5) (h : Mem) (K : Mem → Prop) (hk : Ok (f_X0_copyFrom o0 o1 h) K) : CV Θ yX0_copyFrom cX0_copyFrom 3 none rm_X0_copyFrom [.ref (rr Θ 1 o0 0), .ref (rr Θ 1 o1 0)] h K := by
  refine CV.of K [(0, .ref (rr Θ 1 o0 0)), (1, .ref (rr Θ 1 o1 0))] (plainFor_of_name (by decide)) (Nat.le_of_ble_eq_true rfl) rfl (fun Γ C Rt => ?_)
  replace hk := rtV Rt hk
  unfold f_X0_copyFrom at hk
  refine g_aload_n C 0 dX0_copyFrom_0 rfl rfl (n := 1) rfl ?_
  refine g_aload_n C 1 dX0_copyFrom_1 rfl rfl (n := 2) rfl ?_
  refine g_getI C kc_1 ft_1_0 ho1 (by decide) (by decide) wm_159 dX0_copyFrom_2 (n := 5) rfl ?_
  refine g_putI C kc_1 ft_1_0 ho0 (by decide) (by decide) rfl (fitI _) wm_159 dX0_copyFrom_5 (n := 8) rfl hk (fun h1 hk => ?_)
  refine g_aload_n C 0 dX0_copyFrom_8 rfl rfl (n := 9) rfl ?_
  refine g_aload_n C 1 dX0_copyFrom_9 rfl rfl (n := 10) rfl ?_
  refine g_getI C kc_1 ft_1_2 ho1 (by decide) (by decide) wm_165 dX0_copyFrom_10 (n := 13) rfl ?_
  refine g_putI C kc_1 ft_1_2 ho0 (by decide) (by decide) rfl (fitI _) wm_165 dX0_copyFrom_13 (n := 16) rfl hk (fun h2 hk => ?_)
  refine g_aload_n C 0 dX0_copyFrom_16 rfl rfl (n := 17) rfl ?_
  refine g_aload_n C 1 dX0_copyFrom_17 rfl rfl (n := 18) rfl ?_
  refine g_getI C kc_1 ft_1_4 ho1 (by decide) (by decide) wm_172 dX0_copyFrom_18 (n := 21) rfl ?_
  refine g_putI C kc_1 ft_1_4 ho0 (by decide) (by decide) rfl (fitI _) wm_172 dX0_copyFrom_21 (n := 24) rfl hk (fun h3 hk => ?_)
  refine g_aload_n C 0 dX0_copyFrom_24 rfl rfl (n := 25) rfl ?_
  refine g_aload_n C 1 dX0_copyFrom_25 rfl rfl (n := 26) rfl ?_
  refine g_getI C kc_1 ft_1_10 ho1 (by decide) (by decide) wm_188 dX0_copyFrom_26 (n := 29) rfl ?_
  refine g_putI C kc_1 ft_1_10 ho0 (by decide) (by decide) rfl (fitI _) wm_188 dX0_copyFrom_29 (n := 32) rfl hk (fun h4 hk => ?_)
  refine g_aload_n C 0 dX0_copyFrom_32 rfl rfl (n := 33) rfl ?_
  refine g_aload_n C 1 dX0_copyFrom_33 rfl rfl (n := 34) rfl ?_
  refine g_getI C kc_1 ft_1_6 ho1 (by decide) (by decide) wm_178 dX0_copyFrom_34 (n := 37) rfl ?_
  refine g_putI C kc_1 ft_1_6 ho0 (by decide) (by decide) rfl (fitI _) wm_178 dX0_copyFrom_37 (n := 40) rfl hk (fun h5 hk => ?_)
  refine g_aload_n C 0 dX0_copyFrom_40 rfl rfl (n := 41) rfl ?_
  refine g_aload_n C 1 dX0_copyFrom_41 rfl rfl (n := 42) rfl ?_
  refine g_getI C kc_1 ft_1_7 ho1 (by decide) (by decide) wm_181 dX0_copyFrom_42 (n := 45) rfl ?_
  refine g_putI C kc_1 ft_1_7 ho0 (by decide) (by decide) rfl (fitI _) wm_181 dX0_copyFrom_45 (n := 48) rfl hk (fun h6 hk => ?_)
  refine g_aload_n C 0 dX0_copyFrom_48 rfl rfl (n := 49) rfl ?_
  refine g_aload_n C 1 dX0_copyFrom_49 rfl rfl (n := 50) rfl ?_
  refine g_getI C kc_1 ft_1_8 ho1 (by decide) (by decide) wm_184 dX0_copyFrom_50 (n := 53) rfl ?_
  refine g_putI C kc_1 ft_1_8 ho0 (by decide) (by decide) rfl (fitI _) wm_184 dX0_copyFrom_53 (n := 56) rfl hk (fun h7 hk => ?_)
  refine g_iconst C (0 : Int32) dX0_copyFrom_56 (by decide) (n := 57) rfl ?_
  refine g_istore_n C [(2, .int (0 : Int32)), (0, .ref (rr Θ 1 o0 0)), (1, .ref (rr Θ 1 o1 0))] dX0_copyFrom_57 rfl (by decide) rfl (n := 58) rfl ?_
  refine g_lv [1, 2, 0] [(0, .ref (rr Θ 1 o0 0)), (1, .ref (rr Θ 1 o1 0)), (2, .int (0 : Int32))] rfl ?_
  refine Ok.join hk (fun e17 => G Θ Γ 82 [(0, .ref (rr Θ 1 o0 0)), (1, .ref (rr Θ 1 o1 0))] [] e17) (fun e17 hk => ?_) (fun hk => ?_)
  · refine g_iconst C (0 : Int32) dX0_copyFrom_82 (by decide) (n := 83) rfl ?_
    refine g_istore_n C [(2, .int (0 : Int32)), (0, .ref (rr Θ 1 o0 0)), (1, .ref (rr Θ 1 o1 0))] dX0_copyFrom_83 rfl (by decide) rfl (n := 84) rfl ?_
    refine g_lv [1, 2, 0] [(0, .ref (rr Θ 1 o0 0)), (1, .ref (rr Θ 1 o1 0)), (2, .int (0 : Int32))] rfl ?_
    refine Ok.join hk (fun e33 => G Θ Γ 113 [(0, .ref (rr Θ 1 o0 0)), (1, .ref (rr Θ 1 o1 0))] [] e33) (fun e33 hk => ?_) (fun hk => ?_)
    · refine g_iconst C (0 : Int32) dX0_copyFrom_113 (by decide) (n := 114) rfl ?_
      refine g_istore_n C [(2, .int (0 : Int32)), (0, .ref (rr Θ 1 o0 0)), (1, .ref (rr Θ 1 o1 0))] dX0_copyFrom_114 rfl (by decide) rfl (n := 115) rfl ?_
      refine g_lv [1, 2, 0] [(0, .ref (rr Θ 1 o0 0)), (1, .ref (rr Θ 1 o1 0)), (2, .int (0 : Int32))] rfl ?_
      refine Ok.join hk (fun e52 => G Θ Γ 156 [] [] e52) (fun e52 hk => ?_) (fun hk => ?_)
      · exact retV hk.out dX0_copyFrom_156
      · refine Ok.loop (fun a46 => G Θ Γ 115 [(0, .ref (rr Θ 1 o0 0)), (1, .ref (rr Θ 1 o1 0)), (2, .int a46.1)] [] a46.2) (fun a46 hk => ?_) _ _ hk
        refine g_iload_n C 2 dX0_copyFrom_115 rfl rfl (n := 116) rfl ?_
        refine g_aload_n C 0 dX0_copyFrom_116 rfl rfl (n := 117) rfl ?_
        refine g_getI C kc_1 ft_1_4 ho0 (by decide) (by decide) wm_172 dX0_copyFrom_117 (n := 120) rfl ?_
        refine g_ic_ge C 156 dX0_copyFrom_120 (by decide) (n := 123) rfl hk (fun hk => ?_) (fun hk => ?_)
        · refine g_lv [] [] rfl ?_
          exact hk.out
        · refine g_aload_n C 0 dX0_copyFrom_123 rfl rfl (n := 124) rfl ?_
          refine g_getR C kc_1 (rt_1_5 (tB Θ) o0) ho0 (by decide) (by decide) wm_176 dX0_copyFrom_124 (n := 127) rfl ?_
          refine g_iload_n C 2 dX0_copyFrom_127 rfl rfl (n := 128) rfl ?_
          refine g_aald C ar_4 ho0 dX0_copyFrom_128 (n := 129) rfl hk (fun hg47 hk => ?_)
          refine g_aload_n C 1 dX0_copyFrom_129 rfl rfl (n := 130) rfl ?_
          refine g_getR C kc_1 (rt_1_5 (tB Θ) o1) ho1 (by decide) (by decide) wm_176 dX0_copyFrom_130 (n := 133) rfl ?_
          refine g_iload_n C 2 dX0_copyFrom_133 rfl rfl (n := 134) rfl ?_
          refine g_aald C ar_4 ho1 dX0_copyFrom_134 (n := 135) rfl hk (fun hg48 hk => ?_)
          refine g_cVV C hk (fun K hk => L_X2_copyFrom Θ o0 ho0 a46.1.toNatClampNeg (inb_lt hg47) o1 ho1 a46.1.toNatClampNeg (inb_lt hg48) a46.2 K hk) lk_X0_58 kc_7 ho0 (inb_lt hg47) ⟨rfl, rfl⟩ ⟨Nat.le_of_ble_eq_true rfl, Nat.le_of_ble_eq_true rfl⟩ dX0_copyFrom_135 rfl rfl (Nat.le_of_ble_eq_true rfl) (n := 138) rfl (fun h49 hk => ?_)
          refine g_aload_n C 0 dX0_copyFrom_138 rfl rfl (n := 139) rfl ?_
          refine g_getR C kc_1 (rt_1_9 (tB Θ) o0) ho0 (by decide) (by decide) wm_186 dX0_copyFrom_139 (n := 142) rfl ?_
          refine g_iload_n C 2 dX0_copyFrom_142 rfl rfl (n := 143) rfl ?_
          refine g_aload_n C 1 dX0_copyFrom_143 rfl rfl (n := 144) rfl ?_
          refine g_getR C kc_1 (rt_1_9 (tB Θ) o1) ho1 (by decide) (by decide) wm_186 dX0_copyFrom_144 (n := 147) rfl ?_
          refine g_iload_n C 2 dX0_copyFrom_147 rfl rfl (n := 148) rfl ?_
          refine g_iald C an_5 ho1 dX0_copyFrom_148 (n := 149) rfl hk (fun _ hk => ?_)
          refine g_iast C an_5 ho0 dX0_copyFrom_149 (n := 150) rfl hk (fun _ h50 hk => ?_)
          refine g_iinc C 2 (fun x51 => [(2, .int x51), (0, .ref (rr Θ 1 o0 0)), (1, .ref (rr Θ 1 o1 0))]) dX0_copyFrom_150 rfl (v := (a46.1 + (1 : Int32))) rfl (by decide) (fun _ => rfl) (n := 153) rfl hk (fun x51 hk => ?_)
          refine g_goto C 115 dX0_copyFrom_153 (by decide) ?_
          refine g_lv [1, 2, 0] [(0, .ref (rr Θ 1 o0 0)), (1, .ref (rr Θ 1 o1 0)), (2, .int x51)] rfl ?_
          exact hk.out
    · refine Ok.loop (fun a28 => G Θ Γ 84 [(0, .ref (rr Θ 1 o0 0)), (1, .ref (rr Θ 1 o1 0)), (2, .int a28.1)] [] a28.2) (fun a28 hk => ?_) _ _ hk
      refine g_iload_n C 2 dX0_copyFrom_84 rfl rfl (n := 85) rfl ?_
      refine g_aload_n C 0 dX0_copyFrom_85 rfl rfl (n := 86) rfl ?_
      refine g_getI C kc_1 ft_1_2 ho0 (by decide) (by decide) wm_165 dX0_copyFrom_86 (n := 89) rfl ?_
      refine g_ic_ge C 113 dX0_copyFrom_89 (by decide) (n := 92) rfl hk (fun hk => ?_) (fun hk => ?_)
      · refine g_lv [0, 1] [(0, .ref (rr Θ 1 o0 0)), (1, .ref (rr Θ 1 o1 0))] rfl ?_
        exact hk.out
      · refine g_aload_n C 0 dX0_copyFrom_92 rfl rfl (n := 93) rfl ?_
        refine g_getR C kc_1 (rt_1_3 (tB Θ) o0) ho0 (by decide) (by decide) wm_168 dX0_copyFrom_93 (n := 96) rfl ?_
        refine g_iload_n C 2 dX0_copyFrom_96 rfl rfl (n := 97) rfl ?_
        refine g_aald C ar_3 ho0 dX0_copyFrom_97 (n := 98) rfl hk (fun hg29 hk => ?_)
        refine g_aload_n C 1 dX0_copyFrom_98 rfl rfl (n := 99) rfl ?_
        refine g_getR C kc_1 (rt_1_3 (tB Θ) o1) ho1 (by decide) (by decide) wm_168 dX0_copyFrom_99 (n := 102) rfl ?_
        refine g_iload_n C 2 dX0_copyFrom_102 rfl rfl (n := 103) rfl ?_
        refine g_aald C ar_3 ho1 dX0_copyFrom_103 (n := 104) rfl hk (fun hg30 hk => ?_)
        refine g_cVV C hk (fun K hk => L_X1_copyFrom Θ o0 ho0 a28.1.toNatClampNeg (inb_lt hg29) o1 ho1 a28.1.toNatClampNeg (inb_lt hg30) a28.2 K hk) lk_X0_54 kc_6 ho0 (inb_lt hg29) ⟨rfl, rfl⟩ ⟨Nat.le_of_ble_eq_true rfl, Nat.le_of_ble_eq_true rfl⟩ dX0_copyFrom_104 rfl rfl (Nat.le_of_ble_eq_true rfl) (n := 107) rfl (fun h31 hk => ?_)
        refine g_iinc C 2 (fun x32 => [(2, .int x32), (0, .ref (rr Θ 1 o0 0)), (1, .ref (rr Θ 1 o1 0))]) dX0_copyFrom_107 rfl (v := (a28.1 + (1 : Int32))) rfl (by decide) (fun _ => rfl) (n := 110) rfl hk (fun x32 hk => ?_)
        refine g_goto C 84 dX0_copyFrom_110 (by decide) ?_
        refine g_lv [1, 2, 0] [(0, .ref (rr Θ 1 o0 0)), (1, .ref (rr Θ 1 o1 0)), (2, .int x32)] rfl ?_
        exact hk.out
  · refine Ok.loop (fun a14 => G Θ Γ 58 [(0, .ref (rr Θ 1 o0 0)), (1, .ref (rr Θ 1 o1 0)), (2, .int a14.1)] [] a14.2) (fun a14 hk => ?_) _ _ hk
    refine g_iload_n C 2 dX0_copyFrom_58 rfl rfl (n := 59) rfl ?_
    refine g_bipush C (8 : Int32) dX0_copyFrom_59 (by decide) (n := 61) rfl ?_
    refine g_ic_ge C 82 dX0_copyFrom_61 (by decide) (n := 64) rfl hk (fun hk => ?_) (fun hk => ?_)
    · refine g_lv [0, 1] [(0, .ref (rr Θ 1 o0 0)), (1, .ref (rr Θ 1 o1 0))] rfl ?_
      exact hk.out
    · refine g_aload_n C 0 dX0_copyFrom_64 rfl rfl (n := 65) rfl ?_
      refine g_getR C kc_1 (rt_1_1 (tB Θ) o0) ho0 (by decide) (by decide) wm_162 dX0_copyFrom_65 (n := 68) rfl ?_
      refine g_iload_n C 2 dX0_copyFrom_68 rfl rfl (n := 69) rfl ?_
      refine g_aload_n C 1 dX0_copyFrom_69 rfl rfl (n := 70) rfl ?_
      refine g_getR C kc_1 (rt_1_1 (tB Θ) o1) ho1 (by decide) (by decide) wm_162 dX0_copyFrom_70 (n := 73) rfl ?_
      refine g_iload_n C 2 dX0_copyFrom_73 rfl rfl (n := 74) rfl ?_
      refine g_iald C an_2 ho1 dX0_copyFrom_74 (n := 75) rfl hk (fun _ hk => ?_)
      refine g_iast C an_2 ho0 dX0_copyFrom_75 (n := 76) rfl hk (fun _ h15 hk => ?_)
      refine g_iinc C 2 (fun x16 => [(2, .int x16), (0, .ref (rr Θ 1 o0 0)), (1, .ref (rr Θ 1 o1 0))]) dX0_copyFrom_76 rfl (v := (a14.1 + (1 : Int32))) rfl (by decide) (fun _ => rfl) (n := 79) rfl hk (fun x16 hk => ?_)
      refine g_goto C 58 dX0_copyFrom_79 (by decide) ?_
      refine g_lv [1, 2, 0] [(0, .ref (rr Θ 1 o0 0)), (1, .ref (rr Θ 1 o1 0)), (2, .int x16)] rfl ?_
      exact hk.out
def f_X2_isFitBy (o0 : Nat) (i0 : Nat) (o1 : Nat) (i1 : Nat) (h : Mem) : Option (Bool) := (if (h 6 1 o1 i1) = 0 then (if (h 6 0 o1 i1) = (h 7 0 o0 i0) then some true else (if (h 6 0 o1 i1) = ((h 7 0 o0 i0) - (1 : Int32)) then some true else some false)) else some false)
def rm_X2_isFitBy : Room := { frames := 0, cells := 0, slots := 0, locals := 0 }
set_option maxHeartbeats 4000000 in
set_option maxRecDepth 100000 in
theorem L_X2_isFitBy (Θ : Tht) (o0 : Nat) (ho0 : o0 < 5) (i0 : Nat) (hi0 : i0 < 4) (o1 : Nat) (ho1 : o1 < 5) (i1 : Nat) (hi1 : i1 < 6) (h : Mem) (K : Bool × Mem → Prop) (hk : Ok (f_X2_isFitBy o0 i0 o1 i1 h) (fun r => K (r, h))) : CB Θ yX2_isFitBy cX2_isFitBy 2 (some .boolean) rm_X2_isFitBy [.ref (rr Θ 7 o0 i0), .ref (rr Θ 6 o1 i1)] h K := by
  refine CB.of K [(0, .ref (rr Θ 7 o0 i0)), (1, .ref (rr Θ 6 o1 i1))] (plainFor_of_name (by decide)) (Nat.le_of_ble_eq_true rfl) rfl (fun Γ C Rt => ?_)
  replace hk := rtBp Rt hk
  unfold f_X2_isFitBy at hk
  refine g_aload_n C 1 dX2_isFitBy_0 rfl rfl (n := 1) rfl ?_
  refine g_getI C kc_6 ft_6_1 ho1 hi1 (by decide) wm_109 dX2_isFitBy_1 (n := 4) rfl ?_
  refine g_if_ne C 35 dX2_isFitBy_4 (by decide) (n := 7) rfl hk (fun hk => ?_) (fun hk => ?_)
  · refine g_iconst C (0 : Int32) dX2_isFitBy_35 (by decide) (n := 36) rfl ?_
    exact retB false rfl hk.out dX2_isFitBy_36
  · refine g_aload_n C 1 dX2_isFitBy_7 rfl rfl (n := 8) rfl ?_
    refine g_getI C kc_6 ft_6_0 ho1 hi1 (by decide) wm_105 dX2_isFitBy_8 (n := 11) rfl ?_
    refine g_aload_n C 0 dX2_isFitBy_11 rfl rfl (n := 12) rfl ?_
    refine g_getI C kc_7 ft_7_0 ho0 hi0 (by decide) wm_133 dX2_isFitBy_12 (n := 15) rfl ?_
    refine g_ic_eq C 31 dX2_isFitBy_15 (by decide) (n := 18) rfl hk (fun hk => ?_) (fun hk => ?_)
    · refine g_iconst C (1 : Int32) dX2_isFitBy_31 (by decide) (n := 32) rfl ?_
      refine g_goto C 36 dX2_isFitBy_32 (by decide) ?_
      exact retB true rfl hk.out dX2_isFitBy_36
    · refine g_aload_n C 1 dX2_isFitBy_18 rfl rfl (n := 19) rfl ?_
      refine g_getI C kc_6 ft_6_0 ho1 hi1 (by decide) wm_105 dX2_isFitBy_19 (n := 22) rfl ?_
      refine g_aload_n C 0 dX2_isFitBy_22 rfl rfl (n := 23) rfl ?_
      refine g_getI C kc_7 ft_7_0 ho0 hi0 (by decide) wm_133 dX2_isFitBy_23 (n := 26) rfl ?_
      refine g_iconst C (1 : Int32) dX2_isFitBy_26 (by decide) (n := 27) rfl ?_
      refine g_isub C dX2_isFitBy_27 (n := 28) rfl ?_
      refine g_ic_ne C 35 dX2_isFitBy_28 (by decide) (n := 31) rfl hk (fun hk => ?_) (fun hk => ?_)
      · refine g_iconst C (0 : Int32) dX2_isFitBy_35 (by decide) (n := 36) rfl ?_
        exact retB false rfl hk.out dX2_isFitBy_36
      · refine g_iconst C (1 : Int32) dX2_isFitBy_31 (by decide) (n := 32) rfl ?_
        refine g_goto C 36 dX2_isFitBy_32 (by decide) ?_
        exact retB true rfl hk.out dX2_isFitBy_36
def f_X0_firstFitting (o0 : Nat) (o1 : Nat) (i1 : Nat) (h : Mem) : Option (Int32) := obd (lp fu (fun a13 => (if (h 1 2 o0 0) ≤ a13 then some (.inr (.inr ())) else gd (inb a13 6) ((if (h 6 2 o0 a13.toNatClampNeg) = (h 7 3 o1 i1) then gd (inb a13 6) (obd (f_X2_isFitBy o1 i1 o0 a13.toNatClampNeg h) (fun r17 => (if r17 = true then some (.inr (.inl a13)) else bnd (a13 + (1 : Int32)) (fun x18 => some (.inl x18))))) else bnd (a13 + (1 : Int32)) (fun x15 => some (.inl x15)))))) (0 : Int32)) (Sum.elim (fun r => some r) (fun e19 => some (-1 : Int32)))
def rm_X0_firstFitting : Room := { frames := 1, cells := 0, slots := 0, locals := 21 }
set_option maxHeartbeats 4000000 in
set_option maxRecDepth 100000 in
theorem L_X0_firstFitting (Θ : Tht) (o0 : Nat) (ho0 : o0 < 5) (o1 : Nat) (ho1 : o1 < 5) (i1 : Nat) (hi1 : i1 < 4) (h : Mem) (K : Int32 × Mem → Prop) (hk : Ok (f_X0_firstFitting o0 o1 i1 h) (fun r => K (r, h))) : CI Θ yX0_firstFitting cX0_firstFitting 3 (some .int) rm_X0_firstFitting [.ref (rr Θ 1 o0 0), .ref (rr Θ 7 o1 i1)] h K := by
  refine CI.of K [(0, .ref (rr Θ 1 o0 0)), (1, .ref (rr Θ 7 o1 i1))] (plainFor_of_name (by decide)) (Nat.le_of_ble_eq_true rfl) rfl (fun Γ C Rt => ?_)
  replace hk := rtIp Rt hk
  unfold f_X0_firstFitting at hk
  refine g_iconst C (0 : Int32) dX0_firstFitting_0 (by decide) (n := 1) rfl ?_
  refine g_istore_n C [(2, .int (0 : Int32)), (0, .ref (rr Θ 1 o0 0)), (1, .ref (rr Θ 7 o1 i1))] dX0_firstFitting_1 rfl (by decide) rfl (n := 2) rfl ?_
  refine g_lv [1, 2, 0] [(0, .ref (rr Θ 1 o0 0)), (1, .ref (rr Θ 7 o1 i1)), (2, .int (0 : Int32))] rfl ?_
  refine Ok.join hk (Sum.elim (fun r => PI Θ Γ cX0_firstFitting (r, h)) (fun e19 => G Θ Γ 47 [] [] h)) (fun e hk => ?_) (fun hk => ?_)
  · rcases e with r | e19
    · exact hk.out
    · replace hk := ok_inr hk
      refine g_iconst C (-1 : Int32) dX0_firstFitting_47 (by decide) (n := 48) rfl ?_
      exact retI hk.out dX0_firstFitting_48
  · refine Ok.loop (fun a13 => G Θ Γ 2 [(0, .ref (rr Θ 1 o0 0)), (1, .ref (rr Θ 7 o1 i1)), (2, .int a13)] [] h) (fun a13 hk => ?_) _ _ hk
    refine g_iload_n C 2 dX0_firstFitting_2 rfl rfl (n := 3) rfl ?_
    refine g_aload_n C 0 dX0_firstFitting_3 rfl rfl (n := 4) rfl ?_
    refine g_getI C kc_1 ft_1_2 ho0 (by decide) (by decide) wm_165 dX0_firstFitting_4 (n := 7) rfl ?_
    refine g_ic_ge C 47 dX0_firstFitting_7 (by decide) (n := 10) rfl hk (fun hk => ?_) (fun hk => ?_)
    · refine g_lv [] [] rfl ?_
      exact hk.out
    · refine g_aload_n C 0 dX0_firstFitting_10 rfl rfl (n := 11) rfl ?_
      refine g_getR C kc_1 (rt_1_3 (tB Θ) o0) ho0 (by decide) (by decide) wm_168 dX0_firstFitting_11 (n := 14) rfl ?_
      refine g_iload_n C 2 dX0_firstFitting_14 rfl rfl (n := 15) rfl ?_
      refine g_aald C ar_3 ho0 dX0_firstFitting_15 (n := 16) rfl hk (fun hg14 hk => ?_)
      refine g_getI C kc_6 ft_6_2 ho0 (inb_lt hg14) (by decide) wm_114 dX0_firstFitting_16 (n := 19) rfl ?_
      refine g_aload_n C 1 dX0_firstFitting_19 rfl rfl (n := 20) rfl ?_
      refine g_getI C kc_7 ft_7_3 ho1 hi1 (by decide) wm_143 dX0_firstFitting_20 (n := 23) rfl ?_
      refine g_ic_ne C 41 dX0_firstFitting_23 (by decide) (n := 26) rfl hk (fun hk => ?_) (fun hk => ?_)
      · refine g_iinc C 2 (fun x15 => [(2, .int x15), (0, .ref (rr Θ 1 o0 0)), (1, .ref (rr Θ 7 o1 i1))]) dX0_firstFitting_41 rfl (v := (a13 + (1 : Int32))) rfl (by decide) (fun _ => rfl) (n := 44) rfl hk (fun x15 hk => ?_)
        refine g_goto C 2 dX0_firstFitting_44 (by decide) ?_
        refine g_lv [1, 2, 0] [(0, .ref (rr Θ 1 o0 0)), (1, .ref (rr Θ 7 o1 i1)), (2, .int x15)] rfl ?_
        exact hk.out
      · refine g_aload_n C 1 dX0_firstFitting_26 rfl rfl (n := 27) rfl ?_
        refine g_aload_n C 0 dX0_firstFitting_27 rfl rfl (n := 28) rfl ?_
        refine g_getR C kc_1 (rt_1_3 (tB Θ) o0) ho0 (by decide) (by decide) wm_168 dX0_firstFitting_28 (n := 31) rfl ?_
        refine g_iload_n C 2 dX0_firstFitting_31 rfl rfl (n := 32) rfl ?_
        refine g_aald C ar_3 ho0 dX0_firstFitting_32 (n := 33) rfl hk (fun hg16 hk => ?_)
        refine g_cVBp C hk (fun K hk => L_X2_isFitBy Θ o1 ho1 i1 hi1 o0 ho0 a13.toNatClampNeg (inb_lt hg16) h K hk) lk_X0_132 kc_7 ho1 hi1 ⟨rfl, rfl⟩ ⟨Nat.le_of_ble_eq_true rfl, Nat.le_of_ble_eq_true rfl⟩ dX0_firstFitting_33 rfl rfl (Nat.le_of_ble_eq_true rfl) (n := 36) rfl (fun r17 hk => ?_)
        refine g_bf C 41 dX0_firstFitting_36 (by decide) (n := 39) rfl hk (fun hk => ?_) (fun hk => ?_)
        · refine g_iinc C 2 (fun x18 => [(2, .int x18), (0, .ref (rr Θ 1 o0 0)), (1, .ref (rr Θ 7 o1 i1))]) dX0_firstFitting_41 rfl (v := (a13 + (1 : Int32))) rfl (by decide) (fun _ => rfl) (n := 44) rfl hk (fun x18 hk => ?_)
          refine g_goto C 2 dX0_firstFitting_44 (by decide) ?_
          refine g_lv [1, 2, 0] [(0, .ref (rr Θ 1 o0 0)), (1, .ref (rr Θ 7 o1 i1)), (2, .int x18)] rfl ?_
          exact hk.out
        · refine g_iload_n C 2 dX0_firstFitting_39 rfl rfl (n := 40) rfl ?_
          exact retI hk.out dX0_firstFitting_40
def f_X2_holds (o0 : Nat) (i0 : Nat) (h : Mem) : Option (Bool) := (if (h 7 4 o0 i0) = (-1 : Int32) then some false else some true)
def rm_X2_holds : Room := { frames := 0, cells := 0, slots := 0, locals := 0 }
set_option maxHeartbeats 4000000 in
set_option maxRecDepth 100000 in
theorem L_X2_holds (Θ : Tht) (o0 : Nat) (ho0 : o0 < 5) (i0 : Nat) (hi0 : i0 < 4) (h : Mem) (K : Bool × Mem → Prop) (hk : Ok (f_X2_holds o0 i0 h) (fun r => K (r, h))) : CB Θ yX2_holds cX2_holds 1 (some .boolean) rm_X2_holds [.ref (rr Θ 7 o0 i0)] h K := by
  refine CB.of K [(0, .ref (rr Θ 7 o0 i0))] (plainFor_of_name (by decide)) (Nat.le_of_ble_eq_true rfl) rfl (fun Γ C Rt => ?_)
  replace hk := rtBp Rt hk
  unfold f_X2_holds at hk
  refine g_aload_n C 0 dX2_holds_0 rfl rfl (n := 1) rfl ?_
  refine g_getI C kc_7 ft_7_4 ho0 hi0 (by decide) wm_145 dX2_holds_1 (n := 4) rfl ?_
  refine g_iconst C (-1 : Int32) dX2_holds_4 (by decide) (n := 5) rfl ?_
  refine g_ic_eq C 12 dX2_holds_5 (by decide) (n := 8) rfl hk (fun hk => ?_) (fun hk => ?_)
  · refine g_iconst C (0 : Int32) dX2_holds_12 (by decide) (n := 13) rfl ?_
    exact retB false rfl hk.out dX2_holds_13
  · refine g_iconst C (1 : Int32) dX2_holds_8 (by decide) (n := 9) rfl ?_
    refine g_goto C 13 dX2_holds_9 (by decide) ?_
    exact retB true rfl hk.out dX2_holds_13
def f_X2_walk (o0 : Nat) (i0 : Nat) (p1 : Int32) (h : Mem) : Option (Mem) := (if (h 7 2 o0 i0) = 0 then obd ((if (h 7 3 o0 i0) = 0 then some (p1 - (1 : Int32)) else some ((h 7 3 o0 i0) - (1 : Int32)))) (fun a3 => bnd (up h 7 3 o0 i0 a3) (fun h4 => some h4)) else obd ((if ((h 7 3 o0 i0) + (1 : Int32)) = p1 then some (0 : Int32) else some ((h 7 3 o0 i0) + (1 : Int32)))) (fun a1 => bnd (up h 7 3 o0 i0 a1) (fun h2 => some h2)))
def rm_X2_walk : Room := { frames := 0, cells := 0, slots := 0, locals := 0 }
set_option maxHeartbeats 4000000 in
set_option maxRecDepth 100000 in
theorem L_X2_walk (Θ : Tht) (o0 : Nat) (ho0 : o0 < 5) (i0 : Nat) (hi0 : i0 < 4) (p1 : Int32) (h : Mem) (K : Mem → Prop) (hk : Ok (f_X2_walk o0 i0 p1 h) K) : CV Θ yX2_walk cX2_walk 2 none rm_X2_walk [.ref (rr Θ 7 o0 i0), .int p1] h K := by
  refine CV.of K [(0, .ref (rr Θ 7 o0 i0)), (1, .int p1)] (plainFor_of_name (by decide)) (Nat.le_of_ble_eq_true rfl) rfl (fun Γ C Rt => ?_)
  replace hk := rtV Rt hk
  unfold f_X2_walk at hk
  refine g_aload_n C 0 dX2_walk_0 rfl rfl (n := 1) rfl ?_
  refine g_getI C kc_7 ft_7_2 ho0 hi0 (by decide) wm_139 dX2_walk_1 (n := 4) rfl ?_
  refine g_if_ne C 33 dX2_walk_4 (by decide) (n := 7) rfl hk (fun hk => ?_) (fun hk => ?_)
  · refine g_aload_n C 0 dX2_walk_33 rfl rfl (n := 34) rfl ?_
    refine g_aload_n C 0 dX2_walk_34 rfl rfl (n := 35) rfl ?_
    refine g_getI C kc_7 ft_7_3 ho0 hi0 (by decide) wm_142 dX2_walk_35 (n := 38) rfl ?_
    refine g_iconst C (1 : Int32) dX2_walk_38 (by decide) (n := 39) rfl ?_
    refine g_iadd C dX2_walk_39 (n := 40) rfl ?_
    refine g_iload_n C 1 dX2_walk_40 rfl rfl (n := 41) rfl ?_
    refine Ok.join hk (fun a1 => G Θ Γ 54 [] [.int a1, .ref (rr Θ 7 o0 i0)] h) (fun a1 hk => ?_) (fun hk => ?_)
    · refine g_putI C kc_7 ft_7_3 ho0 hi0 (by decide) rfl (fitI _) wm_142 dX2_walk_54 (n := 57) rfl hk (fun h2 hk => ?_)
      exact retV hk.out dX2_walk_57
    · refine g_ic_ne C 48 dX2_walk_41 (by decide) (n := 44) rfl hk (fun hk => ?_) (fun hk => ?_)
      · refine g_aload_n C 0 dX2_walk_48 rfl rfl (n := 49) rfl ?_
        refine g_getI C kc_7 ft_7_3 ho0 hi0 (by decide) wm_142 dX2_walk_49 (n := 52) rfl ?_
        refine g_iconst C (1 : Int32) dX2_walk_52 (by decide) (n := 53) rfl ?_
        refine g_iadd C dX2_walk_53 (n := 54) rfl ?_
        refine g_lv [] [] rfl ?_
        exact hk.out
      · refine g_iconst C (0 : Int32) dX2_walk_44 (by decide) (n := 45) rfl ?_
        refine g_goto C 54 dX2_walk_45 (by decide) ?_
        refine g_lv [] [] rfl ?_
        exact hk.out
  · refine g_aload_n C 0 dX2_walk_7 rfl rfl (n := 8) rfl ?_
    refine g_aload_n C 0 dX2_walk_8 rfl rfl (n := 9) rfl ?_
    refine g_getI C kc_7 ft_7_3 ho0 hi0 (by decide) wm_142 dX2_walk_9 (n := 12) rfl ?_
    refine Ok.join hk (fun a3 => G Θ Γ 27 [] [.int a3, .ref (rr Θ 7 o0 i0)] h) (fun a3 hk => ?_) (fun hk => ?_)
    · refine g_putI C kc_7 ft_7_3 ho0 hi0 (by decide) rfl (fitI _) wm_142 dX2_walk_27 (n := 30) rfl hk (fun h4 hk => ?_)
      refine g_goto C 57 dX2_walk_30 (by decide) ?_
      exact retV hk.out dX2_walk_57
    · refine g_if_ne C 21 dX2_walk_12 (by decide) (n := 15) rfl hk (fun hk => ?_) (fun hk => ?_)
      · refine g_aload_n C 0 dX2_walk_21 rfl rfl (n := 22) rfl ?_
        refine g_getI C kc_7 ft_7_3 ho0 hi0 (by decide) wm_142 dX2_walk_22 (n := 25) rfl ?_
        refine g_iconst C (1 : Int32) dX2_walk_25 (by decide) (n := 26) rfl ?_
        refine g_isub C dX2_walk_26 (n := 27) rfl ?_
        refine g_lv [] [] rfl ?_
        exact hk.out
      · refine g_iload_n C 1 dX2_walk_15 rfl rfl (n := 16) rfl ?_
        refine g_iconst C (1 : Int32) dX2_walk_16 (by decide) (n := 17) rfl ?_
        refine g_isub C dX2_walk_17 (n := 18) rfl ?_
        refine g_goto C 27 dX2_walk_18 (by decide) ?_
        refine g_lv [] [] rfl ?_
        exact hk.out
def f_X0_act (o0 : Nat) (p1 : Int32) (h : Mem) : Option (Mem) := gd (inb p1 4) (obd (f_X2_holds o0 p1.toNatClampNeg h) (fun r2 => (if r2 = true then gd (inb (h 7 3 o0 p1.toNatClampNeg) 8) ((if (h 2 0 o0 (h 7 3 o0 p1.toNatClampNeg).toNatClampNeg) < (h 7 1 o0 p1.toNatClampNeg) then obd (f_X2_walk o0 p1.toNatClampNeg (h 1 0 o0 0) h) (fun h8 => some h8) else gd (inb (h 7 4 o0 p1.toNatClampNeg) 6) (bnd (up h 6 2 o0 (h 7 4 o0 p1.toNatClampNeg).toNatClampNeg ((20 : Int32) + (h 7 3 o0 p1.toNatClampNeg))) (fun h10 => bnd (up h10 7 4 o0 p1.toNatClampNeg (-1 : Int32)) (fun h11 => some h11))))) else obd (f_X0_firstFitting o0 o0 p1.toNatClampNeg h) (fun r3 => (if r3 = (-1 : Int32) then obd (f_X2_walk o0 p1.toNatClampNeg (h 1 0 o0 0) h) (fun h7 => some h7) else gd (inb r3 6) (bnd (up h 6 2 o0 r3.toNatClampNeg ((10 : Int32) + p1)) (fun h5 => bnd (up h5 7 4 o0 p1.toNatClampNeg r3) (fun h6 => some h6))))))))
def rm_X0_act : Room := { frames := 2, cells := 0, slots := 0, locals := 43 }
set_option maxHeartbeats 4000000 in
set_option maxRecDepth 100000 in
theorem L_X0_act (Θ : Tht) (o0 : Nat) (ho0 : o0 < 5) (p1 : Int32) (h : Mem) (K : Mem → Prop) (hk : Ok (f_X0_act o0 p1 h) K) : CV Θ yX0_act cX0_act 4 none rm_X0_act [.ref (rr Θ 1 o0 0), .int p1] h K := by
  refine CV.of K [(0, .ref (rr Θ 1 o0 0)), (1, .int p1)] (plainFor_of_name (by decide)) (Nat.le_of_ble_eq_true rfl) rfl (fun Γ C Rt => ?_)
  replace hk := rtV Rt hk
  unfold f_X0_act at hk
  refine g_aload_n C 0 dX0_act_0 rfl rfl (n := 1) rfl ?_
  refine g_getR C kc_1 (rt_1_5 (tB Θ) o0) ho0 (by decide) (by decide) wm_176 dX0_act_1 (n := 4) rfl ?_
  refine g_iload_n C 1 dX0_act_4 rfl rfl (n := 5) rfl ?_
  refine g_aald C ar_4 ho0 dX0_act_5 (n := 6) rfl hk (fun hg1 hk => ?_)
  refine g_astore_n C [(2, .ref (rr Θ 7 o0 p1.toNatClampNeg)), (0, .ref (rr Θ 1 o0 0)), (1, .int p1)] dX0_act_6 rfl (by decide) rfl (n := 7) rfl ?_
  refine g_aload_n C 0 dX0_act_7 rfl rfl (n := 8) rfl ?_
  refine g_cVBp C hk (fun K hk => L_X2_holds Θ o0 ho0 p1.toNatClampNeg (inb_lt hg1) h K hk) lk_X0_121 kc_7 ho0 (inb_lt hg1) ⟨rfl, rfl⟩ ⟨Nat.le_of_ble_eq_true rfl, Nat.le_of_ble_eq_true rfl⟩ dX0_act_8 rfl rfl (Nat.le_of_ble_eq_true rfl) (n := 11) rfl (fun r2 hk => ?_)
  refine g_bf C 66 dX0_act_11 (by decide) (n := 14) rfl hk (fun hk => ?_) (fun hk => ?_)
  · refine g_aload_n C 1 dX0_act_66 rfl rfl (n := 67) rfl ?_
    refine g_aload_n C 0 dX0_act_67 rfl rfl (n := 68) rfl ?_
    refine g_cVIp C hk (fun K hk => L_X0_firstFitting Θ o0 ho0 o0 ho0 p1.toNatClampNeg (inb_lt hg1) h K hk) lk_X0_128 kc_1 ho0 (by decide) ⟨rfl, rfl⟩ ⟨Nat.le_of_ble_eq_true rfl, Nat.le_of_ble_eq_true rfl⟩ dX0_act_68 rfl rfl (Nat.le_of_ble_eq_true rfl) (n := 71) rfl (fun r3 hk => ?_)
    refine g_istore_n C [(3, .int r3), (2, .ref (rr Θ 7 o0 p1.toNatClampNeg)), (0, .ref (rr Θ 1 o0 0)), (1, .int p1)] dX0_act_71 rfl (by decide) rfl (n := 72) rfl ?_
    refine g_iload_n C 0 dX0_act_72 rfl rfl (n := 73) rfl ?_
    refine g_iconst C (-1 : Int32) dX0_act_73 (by decide) (n := 74) rfl ?_
    refine g_ic_ne C 88 dX0_act_74 (by decide) (n := 77) rfl hk (fun hk => ?_) (fun hk => ?_)
    · refine g_aload_n C 2 dX0_act_88 rfl rfl (n := 89) rfl ?_
      refine g_getR C kc_1 (rt_1_3 (tB Θ) o0) ho0 (by decide) (by decide) wm_168 dX0_act_89 (n := 92) rfl ?_
      refine g_iload_n C 0 dX0_act_92 rfl rfl (n := 93) rfl ?_
      refine g_aald C ar_3 ho0 dX0_act_93 (n := 94) rfl hk (fun hg4 hk => ?_)
      refine g_bipush C (10 : Int32) dX0_act_94 (by decide) (n := 96) rfl ?_
      refine g_iload_n C 3 dX0_act_96 rfl rfl (n := 97) rfl ?_
      refine g_iadd C dX0_act_97 (n := 98) rfl ?_
      refine g_putI C kc_6 ft_6_2 ho0 (inb_lt hg4) (by decide) rfl (fitI _) wm_114 dX0_act_98 (n := 101) rfl hk (fun h5 hk => ?_)
      refine g_aload_n C 1 dX0_act_101 rfl rfl (n := 102) rfl ?_
      refine g_iload_n C 0 dX0_act_102 rfl rfl (n := 103) rfl ?_
      refine g_putI C kc_7 ft_7_4 ho0 (inb_lt hg1) (by decide) rfl (fitI _) wm_146 dX0_act_103 (n := 106) rfl hk (fun h6 hk => ?_)
      exact retV hk.out dX0_act_106
    · refine g_aload_n C 1 dX0_act_77 rfl rfl (n := 78) rfl ?_
      refine g_aload_n C 2 dX0_act_78 rfl rfl (n := 79) rfl ?_
      refine g_getI C kc_1 ft_1_0 ho0 (by decide) (by decide) wm_159 dX0_act_79 (n := 82) rfl ?_
      refine g_cVV C hk (fun K hk => L_X2_walk Θ o0 ho0 p1.toNatClampNeg (inb_lt hg1) (h 1 0 o0 0) h K hk) lk_X0_125 kc_7 ho0 (inb_lt hg1) ⟨rfl, rfl⟩ ⟨Nat.le_of_ble_eq_true rfl, Nat.le_of_ble_eq_true rfl⟩ dX0_act_82 rfl rfl (Nat.le_of_ble_eq_true rfl) (n := 85) rfl (fun h7 hk => ?_)
      refine g_goto C 106 dX0_act_85 (by decide) ?_
      exact retV hk.out dX0_act_106
  · refine g_aload_n C 1 dX0_act_14 rfl rfl (n := 15) rfl ?_
    refine g_getR C kc_1 (rt_1_1 (tB Θ) o0) ho0 (by decide) (by decide) wm_162 dX0_act_15 (n := 18) rfl ?_
    refine g_aload_n C 0 dX0_act_18 rfl rfl (n := 19) rfl ?_
    refine g_getI C kc_7 ft_7_3 ho0 (inb_lt hg1) (by decide) wm_143 dX0_act_19 (n := 22) rfl ?_
    refine g_iald C an_2 ho0 dX0_act_22 (n := 23) rfl hk (fun _ hk => ?_)
    refine g_aload_n C 0 dX0_act_23 rfl rfl (n := 24) rfl ?_
    refine g_getI C kc_7 ft_7_1 ho0 (inb_lt hg1) (by decide) wm_137 dX0_act_24 (n := 27) rfl ?_
    refine g_ic_lt C 57 dX0_act_27 (by decide) (n := 30) rfl hk (fun hk => ?_) (fun hk => ?_)
    · refine g_aload_n C 0 dX0_act_57 rfl rfl (n := 58) rfl ?_
      refine g_aload_n C 1 dX0_act_58 rfl rfl (n := 59) rfl ?_
      refine g_getI C kc_1 ft_1_0 ho0 (by decide) (by decide) wm_159 dX0_act_59 (n := 62) rfl ?_
      refine g_cVV C hk (fun K hk => L_X2_walk Θ o0 ho0 p1.toNatClampNeg (inb_lt hg1) (h 1 0 o0 0) h K hk) lk_X0_125 kc_7 ho0 (inb_lt hg1) ⟨rfl, rfl⟩ ⟨Nat.le_of_ble_eq_true rfl, Nat.le_of_ble_eq_true rfl⟩ dX0_act_62 rfl rfl (Nat.le_of_ble_eq_true rfl) (n := 65) rfl (fun h8 hk => ?_)
      exact retV hk.out dX0_act_65
    · refine g_aload_n C 1 dX0_act_30 rfl rfl (n := 31) rfl ?_
      refine g_getR C kc_1 (rt_1_3 (tB Θ) o0) ho0 (by decide) (by decide) wm_168 dX0_act_31 (n := 34) rfl ?_
      refine g_aload_n C 0 dX0_act_34 rfl rfl (n := 35) rfl ?_
      refine g_getI C kc_7 ft_7_4 ho0 (inb_lt hg1) (by decide) wm_146 dX0_act_35 (n := 38) rfl ?_
      refine g_aald C ar_3 ho0 dX0_act_38 (n := 39) rfl hk (fun hg9 hk => ?_)
      refine g_bipush C (20 : Int32) dX0_act_39 (by decide) (n := 41) rfl ?_
      refine g_aload_n C 0 dX0_act_41 rfl rfl (n := 42) rfl ?_
      refine g_getI C kc_7 ft_7_3 ho0 (inb_lt hg1) (by decide) wm_143 dX0_act_42 (n := 45) rfl ?_
      refine g_iadd C dX0_act_45 (n := 46) rfl ?_
      refine g_putI C kc_6 ft_6_2 ho0 (inb_lt hg9) (by decide) rfl (fitI _) wm_114 dX0_act_46 (n := 49) rfl hk (fun h10 hk => ?_)
      refine g_aload_n C 0 dX0_act_49 rfl rfl (n := 50) rfl ?_
      refine g_iconst C (-1 : Int32) dX0_act_50 (by decide) (n := 51) rfl ?_
      refine g_putI C kc_7 ft_7_4 ho0 (inb_lt hg1) (by decide) rfl (fitI _) wm_146 dX0_act_51 (n := 54) rfl hk (fun h11 hk => ?_)
      refine g_goto C 65 dX0_act_54 (by decide) ?_
      exact retV hk.out dX0_act_65
def f_X0_losesFight (o0 : Nat) (p1 : Int32) (h : Mem) : Option (Bool) := gd (inb p1 4) (obd (lp fu (fun a18 => (if (h 1 10 o0 0) ≤ a18 then some (.inr (.inr ())) else obd (f_X2_holds o0 p1.toNatClampNeg h) (fun r19 => (if r19 = true then gd (inb a18 4) (gd (inb (h 5 0 o0 a18.toNatClampNeg) 4) (gd (inb a18 4) ((if (h 5 0 o0 a18.toNatClampNeg) = p1 then bnd (a18 + (1 : Int32)) (fun x21 => some (.inl x21)) else obd (f_X2_holds o0 (h 5 0 o0 a18.toNatClampNeg).toNatClampNeg h) (fun r22 => (if r22 = true then (if (h 7 3 o0 (h 5 0 o0 a18.toNatClampNeg).toNatClampNeg) = (h 7 3 o0 p1.toNatClampNeg) then (if (h 7 0 o0 (h 5 0 o0 a18.toNatClampNeg).toNatClampNeg) < (h 7 0 o0 p1.toNatClampNeg) then bnd (a18 + (1 : Int32)) (fun x25 => some (.inl x25)) else some (.inr (.inl true))) else bnd (a18 + (1 : Int32)) (fun x24 => some (.inl x24))) else bnd (a18 + (1 : Int32)) (fun x23 => some (.inl x23)))))))) else some (.inr (.inr ())))))) (0 : Int32)) (Sum.elim (fun r => some r) (fun e26 => some false)))
def rm_X0_losesFight : Room := { frames := 1, cells := 0, slots := 0, locals := 20 }
set_option maxHeartbeats 4000000 in
set_option maxRecDepth 100000 in
theorem L_X0_losesFight (Θ : Tht) (o0 : Nat) (ho0 : o0 < 5) (p1 : Int32) (h : Mem) (K : Bool × Mem → Prop) (hk : Ok (f_X0_losesFight o0 p1 h) (fun r => K (r, h))) : CB Θ yX0_losesFight cX0_losesFight 5 (some .boolean) rm_X0_losesFight [.ref (rr Θ 1 o0 0), .int p1] h K := by
  refine CB.of K [(0, .ref (rr Θ 1 o0 0)), (1, .int p1)] (plainFor_of_name (by decide)) (Nat.le_of_ble_eq_true rfl) rfl (fun Γ C Rt => ?_)
  replace hk := rtBp Rt hk
  unfold f_X0_losesFight at hk
  refine g_aload_n C 0 dX0_losesFight_0 rfl rfl (n := 1) rfl ?_
  refine g_getR C kc_1 (rt_1_5 (tB Θ) o0) ho0 (by decide) (by decide) wm_176 dX0_losesFight_1 (n := 4) rfl ?_
  refine g_iload_n C 1 dX0_losesFight_4 rfl rfl (n := 5) rfl ?_
  refine g_aald C ar_4 ho0 dX0_losesFight_5 (n := 6) rfl hk (fun hg1 hk => ?_)
  refine g_astore_n C [(2, .ref (rr Θ 7 o0 p1.toNatClampNeg)), (0, .ref (rr Θ 1 o0 0)), (1, .int p1)] dX0_losesFight_6 rfl (by decide) rfl (n := 7) rfl ?_
  refine g_iconst C (0 : Int32) dX0_losesFight_7 (by decide) (n := 8) rfl ?_
  refine g_istore_n C [(3, .int (0 : Int32)), (2, .ref (rr Θ 7 o0 p1.toNatClampNeg)), (0, .ref (rr Θ 1 o0 0)), (1, .int p1)] dX0_losesFight_8 rfl (by decide) rfl (n := 9) rfl ?_
  refine g_lv [2, 3, 1, 0] [(0, .ref (rr Θ 1 o0 0)), (1, .int p1), (2, .ref (rr Θ 7 o0 p1.toNatClampNeg)), (3, .int (0 : Int32))] rfl ?_
  refine Ok.join hk (Sum.elim (fun r => PB Θ Γ cX0_losesFight (r, h)) (fun e26 => G Θ Γ 87 [] [] h)) (fun e hk => ?_) (fun hk => ?_)
  · rcases e with r | e26
    · exact hk.out
    · replace hk := ok_inr hk
      refine g_iconst C (0 : Int32) dX0_losesFight_87 (by decide) (n := 88) rfl ?_
      exact retB false rfl hk.out dX0_losesFight_88
  · refine Ok.loop (fun a18 => G Θ Γ 9 [(0, .ref (rr Θ 1 o0 0)), (1, .int p1), (2, .ref (rr Θ 7 o0 p1.toNatClampNeg)), (3, .int a18)] [] h) (fun a18 hk => ?_) _ _ hk
    refine g_iload_n C 3 dX0_losesFight_9 rfl rfl (n := 10) rfl ?_
    refine g_aload_n C 0 dX0_losesFight_10 rfl rfl (n := 11) rfl ?_
    refine g_getI C kc_1 ft_1_10 ho0 (by decide) (by decide) wm_188 dX0_losesFight_11 (n := 14) rfl ?_
    refine g_ic_ge C 87 dX0_losesFight_14 (by decide) (n := 17) rfl hk (fun hk => ?_) (fun hk => ?_)
    · refine g_lv [] [] rfl ?_
      exact hk.out
    · refine g_aload_n C 2 dX0_losesFight_17 rfl rfl (n := 18) rfl ?_
      refine g_cVBp C hk (fun K hk => L_X2_holds Θ o0 ho0 p1.toNatClampNeg (inb_lt hg1) h K hk) lk_X0_121 kc_7 ho0 (inb_lt hg1) ⟨rfl, rfl⟩ ⟨Nat.le_of_ble_eq_true rfl, Nat.le_of_ble_eq_true rfl⟩ dX0_losesFight_18 rfl rfl (Nat.le_of_ble_eq_true rfl) (n := 21) rfl (fun r19 hk => ?_)
      refine g_bf C 87 dX0_losesFight_21 (by decide) (n := 24) rfl hk (fun hk => ?_) (fun hk => ?_)
      · refine g_lv [] [] rfl ?_
        exact hk.out
      · refine g_aload_n C 0 dX0_losesFight_24 rfl rfl (n := 25) rfl ?_
        refine g_getR C kc_1 (rt_1_5 (tB Θ) o0) ho0 (by decide) (by decide) wm_176 dX0_losesFight_25 (n := 28) rfl ?_
        refine g_aload_n C 0 dX0_losesFight_28 rfl rfl (n := 29) rfl ?_
        refine g_getR C kc_1 (rt_1_9 (tB Θ) o0) ho0 (by decide) (by decide) wm_186 dX0_losesFight_29 (n := 32) rfl ?_
        refine g_iload_n C 3 dX0_losesFight_32 rfl rfl (n := 33) rfl ?_
        refine g_iald C an_5 ho0 dX0_losesFight_33 (n := 34) rfl hk (fun _ hk => ?_)
        refine g_aald C ar_4 ho0 dX0_losesFight_34 (n := 35) rfl hk (fun hg20 hk => ?_)
        refine g_astore C [(4, .ref (rr Θ 7 o0 (h 5 0 o0 a18.toNatClampNeg).toNatClampNeg)), (0, .ref (rr Θ 1 o0 0)), (1, .int p1), (2, .ref (rr Θ 7 o0 p1.toNatClampNeg)), (3, .int a18)] dX0_losesFight_35 (by decide) rfl (n := 37) rfl ?_
        refine g_aload_n C 1 dX0_losesFight_37 rfl rfl (n := 38) rfl ?_
        refine g_getR C kc_1 (rt_1_9 (tB Θ) o0) ho0 (by decide) (by decide) wm_186 dX0_losesFight_38 (n := 41) rfl ?_
        refine g_iload_n C 4 dX0_losesFight_41 rfl rfl (n := 42) rfl ?_
        refine g_iald C an_5 ho0 dX0_losesFight_42 (n := 43) rfl hk (fun _ hk => ?_)
        refine g_iload_n C 2 dX0_losesFight_43 rfl rfl (n := 44) rfl ?_
        refine g_ic_eq C 81 dX0_losesFight_44 (by decide) (n := 47) rfl hk (fun hk => ?_) (fun hk => ?_)
        · refine g_iinc C 4 (fun x21 => [(3, .int x21), (4, .ref (rr Θ 7 o0 (h 5 0 o0 a18.toNatClampNeg).toNatClampNeg)), (0, .ref (rr Θ 1 o0 0)), (1, .int p1), (2, .ref (rr Θ 7 o0 p1.toNatClampNeg))]) dX0_losesFight_81 rfl (v := (a18 + (1 : Int32))) rfl (by decide) (fun _ => rfl) (n := 84) rfl hk (fun x21 hk => ?_)
          refine g_goto C 9 dX0_losesFight_84 (by decide) ?_
          refine g_lv [2, 3, 4, 0] [(0, .ref (rr Θ 1 o0 0)), (1, .int p1), (2, .ref (rr Θ 7 o0 p1.toNatClampNeg)), (3, .int x21)] rfl ?_
          exact hk.out
        · refine g_aload C 0 dX0_losesFight_47 rfl (n := 49) rfl ?_
          refine g_cVBp C hk (fun K hk => L_X2_holds Θ o0 ho0 (h 5 0 o0 a18.toNatClampNeg).toNatClampNeg (inb_lt hg20) h K hk) lk_X0_121 kc_7 ho0 (inb_lt hg20) ⟨rfl, rfl⟩ ⟨Nat.le_of_ble_eq_true rfl, Nat.le_of_ble_eq_true rfl⟩ dX0_losesFight_49 rfl rfl (Nat.le_of_ble_eq_true rfl) (n := 52) rfl (fun r22 hk => ?_)
          refine g_bf C 81 dX0_losesFight_52 (by decide) (n := 55) rfl hk (fun hk => ?_) (fun hk => ?_)
          · refine g_iinc C 4 (fun x23 => [(3, .int x23), (4, .ref (rr Θ 7 o0 (h 5 0 o0 a18.toNatClampNeg).toNatClampNeg)), (0, .ref (rr Θ 1 o0 0)), (1, .int p1), (2, .ref (rr Θ 7 o0 p1.toNatClampNeg))]) dX0_losesFight_81 rfl (v := (a18 + (1 : Int32))) rfl (by decide) (fun _ => rfl) (n := 84) rfl hk (fun x23 hk => ?_)
            refine g_goto C 9 dX0_losesFight_84 (by decide) ?_
            refine g_lv [2, 3, 4, 0] [(0, .ref (rr Θ 1 o0 0)), (1, .int p1), (2, .ref (rr Θ 7 o0 p1.toNatClampNeg)), (3, .int x23)] rfl ?_
            exact hk.out
          · refine g_aload C 0 dX0_losesFight_55 rfl (n := 57) rfl ?_
            refine g_getI C kc_7 ft_7_3 ho0 (inb_lt hg20) (by decide) wm_143 dX0_losesFight_57 (n := 60) rfl ?_
            refine g_aload_n C 3 dX0_losesFight_60 rfl rfl (n := 61) rfl ?_
            refine g_getI C kc_7 ft_7_3 ho0 (inb_lt hg1) (by decide) wm_143 dX0_losesFight_61 (n := 64) rfl ?_
            refine g_ic_ne C 81 dX0_losesFight_64 (by decide) (n := 67) rfl hk (fun hk => ?_) (fun hk => ?_)
            · refine g_iinc C 4 (fun x24 => [(3, .int x24), (4, .ref (rr Θ 7 o0 (h 5 0 o0 a18.toNatClampNeg).toNatClampNeg)), (0, .ref (rr Θ 1 o0 0)), (1, .int p1), (2, .ref (rr Θ 7 o0 p1.toNatClampNeg))]) dX0_losesFight_81 rfl (v := (a18 + (1 : Int32))) rfl (by decide) (fun _ => rfl) (n := 84) rfl hk (fun x24 hk => ?_)
              refine g_goto C 9 dX0_losesFight_84 (by decide) ?_
              refine g_lv [2, 3, 4, 0] [(0, .ref (rr Θ 1 o0 0)), (1, .int p1), (2, .ref (rr Θ 7 o0 p1.toNatClampNeg)), (3, .int x24)] rfl ?_
              exact hk.out
            · refine g_aload C 0 dX0_losesFight_67 rfl (n := 69) rfl ?_
              refine g_getI C kc_7 ft_7_0 ho0 (inb_lt hg20) (by decide) wm_134 dX0_losesFight_69 (n := 72) rfl ?_
              refine g_aload_n C 3 dX0_losesFight_72 rfl rfl (n := 73) rfl ?_
              refine g_getI C kc_7 ft_7_0 ho0 (inb_lt hg1) (by decide) wm_134 dX0_losesFight_73 (n := 76) rfl ?_
              refine g_ic_lt C 81 dX0_losesFight_76 (by decide) (n := 79) rfl hk (fun hk => ?_) (fun hk => ?_)
              · refine g_iinc C 4 (fun x25 => [(3, .int x25), (4, .ref (rr Θ 7 o0 (h 5 0 o0 a18.toNatClampNeg).toNatClampNeg)), (0, .ref (rr Θ 1 o0 0)), (1, .int p1), (2, .ref (rr Θ 7 o0 p1.toNatClampNeg))]) dX0_losesFight_81 rfl (v := (a18 + (1 : Int32))) rfl (by decide) (fun _ => rfl) (n := 84) rfl hk (fun x25 hk => ?_)
                refine g_goto C 9 dX0_losesFight_84 (by decide) ?_
                refine g_lv [2, 3, 4, 0] [(0, .ref (rr Θ 1 o0 0)), (1, .int p1), (2, .ref (rr Θ 7 o0 p1.toNatClampNeg)), (3, .int x25)] rfl ?_
                exact hk.out
              · refine g_iconst C (1 : Int32) dX0_losesFight_79 (by decide) (n := 80) rfl ?_
                exact retB true rfl hk.out dX0_losesFight_80
def f_X0_settleFights (o0 : Nat) (h : Mem) : Option (Mem) := obd (lp fu (fun a11 => (if (h 1 10 o0 0) ≤ a11.2 then some (.inr a11.1) else gd (inb a11.2 4) (obd (f_X0_losesFight o0 (h 5 0 o0 a11.2.toNatClampNeg) h) (fun r12 => (if r12 = true then gd (inb a11.2 4) (bnd (a11.1 ||| ((1 : Int32) <<< ((h 5 0 o0 a11.2.toNatClampNeg) &&& (31 : Int32)))) (fun x14 => bnd (a11.2 + (1 : Int32)) (fun x15 => some (.inl (x14, x15))))) else bnd (a11.2 + (1 : Int32)) (fun x13 => some (.inl (a11.1, x13)))))))) ((0 : Int32), (0 : Int32))) (fun e16 => obd (lp fu (fun a35 => (if (a35.2 1 4 o0 0) ≤ a35.1 then some (.inr a35.2) else (if e16 = 0 then some (.inr a35.2) else (if ((e16 >>> (a35.1 &&& (31 : Int32))) &&& (1 : Int32)) = (1 : Int32) then gd (inb a35.1 4) (gd (inb (a35.2 7 4 o0 a35.1.toNatClampNeg) 6) (gd (inb a35.1 4) (bnd (up a35.2 6 2 o0 (a35.2 7 4 o0 a35.1.toNatClampNeg).toNatClampNeg (a35.2 7 3 o0 a35.1.toNatClampNeg)) (fun h40 => gd (inb a35.1 4) (bnd (up h40 7 4 o0 a35.1.toNatClampNeg (-1 : Int32)) (fun h42 => bnd (a35.1 + (1 : Int32)) (fun x43 => some (.inl (x43, h42))))))))) else bnd (a35.1 + (1 : Int32)) (fun x36 => some (.inl (x36, a35.2))))))) ((0 : Int32), h)) (fun e44 => some e44))
def rm_X0_settleFights : Room := { frames := 2, cells := 0, slots := 0, locals := 44 }
set_option maxHeartbeats 4000000 in
set_option maxRecDepth 100000 in
theorem L_X0_settleFights (Θ : Tht) (o0 : Nat) (ho0 : o0 < 5) (h : Mem) (K : Mem → Prop) (hk : Ok (f_X0_settleFights o0 h) K) : CV Θ yX0_settleFights cX0_settleFights 3 none rm_X0_settleFights [.ref (rr Θ 1 o0 0)] h K := by
  refine CV.of K [(0, .ref (rr Θ 1 o0 0))] (plainFor_of_name (by decide)) (Nat.le_of_ble_eq_true rfl) rfl (fun Γ C Rt => ?_)
  replace hk := rtV Rt hk
  unfold f_X0_settleFights at hk
  refine g_iconst C (0 : Int32) dX0_settleFights_0 (by decide) (n := 1) rfl ?_
  refine g_istore_n C [(1, .int (0 : Int32)), (0, .ref (rr Θ 1 o0 0))] dX0_settleFights_1 rfl (by decide) rfl (n := 2) rfl ?_
  refine g_iconst C (0 : Int32) dX0_settleFights_2 (by decide) (n := 3) rfl ?_
  refine g_istore_n C [(2, .int (0 : Int32)), (1, .int (0 : Int32)), (0, .ref (rr Θ 1 o0 0))] dX0_settleFights_3 rfl (by decide) rfl (n := 4) rfl ?_
  refine g_lv [2, 1, 0] [(0, .ref (rr Θ 1 o0 0)), (1, .int (0 : Int32)), (2, .int (0 : Int32))] rfl ?_
  refine Ok.join hk (fun e16 => G Θ Γ 42 [(0, .ref (rr Θ 1 o0 0)), (1, .int e16)] [] h) (fun e16 hk => ?_) (fun hk => ?_)
  · refine g_iconst C (0 : Int32) dX0_settleFights_42 (by decide) (n := 43) rfl ?_
    refine g_istore_n C [(2, .int (0 : Int32)), (0, .ref (rr Θ 1 o0 0)), (1, .int e16)] dX0_settleFights_43 rfl (by decide) rfl (n := 44) rfl ?_
    refine g_lv [1, 2, 0] [(0, .ref (rr Θ 1 o0 0)), (1, .int e16), (2, .int (0 : Int32))] rfl ?_
    refine Ok.join hk (fun e44 => G Θ Γ 107 [] [] e44) (fun e44 hk => ?_) (fun hk => ?_)
    · exact retV hk.out dX0_settleFights_107
    · refine Ok.loop (fun a35 => G Θ Γ 44 [(0, .ref (rr Θ 1 o0 0)), (1, .int e16), (2, .int a35.1)] [] a35.2) (fun a35 hk => ?_) _ _ hk
      refine g_iload_n C 2 dX0_settleFights_44 rfl rfl (n := 45) rfl ?_
      refine g_aload_n C 0 dX0_settleFights_45 rfl rfl (n := 46) rfl ?_
      refine g_getI C kc_1 ft_1_4 ho0 (by decide) (by decide) wm_172 dX0_settleFights_46 (n := 49) rfl ?_
      refine g_ic_ge C 107 dX0_settleFights_49 (by decide) (n := 52) rfl hk (fun hk => ?_) (fun hk => ?_)
      · refine g_lv [] [] rfl ?_
        exact hk.out
      · refine g_iload_n C 1 dX0_settleFights_52 rfl rfl (n := 53) rfl ?_
        refine g_if_eq C 107 dX0_settleFights_53 (by decide) (n := 56) rfl hk (fun hk => ?_) (fun hk => ?_)
        · refine g_lv [] [] rfl ?_
          exact hk.out
        · refine g_iload_n C 1 dX0_settleFights_56 rfl rfl (n := 57) rfl ?_
          refine g_iload_n C 2 dX0_settleFights_57 rfl rfl (n := 58) rfl ?_
          refine g_ishr C dX0_settleFights_58 (n := 59) rfl ?_
          refine g_iconst C (1 : Int32) dX0_settleFights_59 (by decide) (n := 60) rfl ?_
          refine g_iand C dX0_settleFights_60 (n := 61) rfl ?_
          refine g_iconst C (1 : Int32) dX0_settleFights_61 (by decide) (n := 62) rfl ?_
          refine g_ic_ne C 101 dX0_settleFights_62 (by decide) (n := 65) rfl hk (fun hk => ?_) (fun hk => ?_)
          · refine g_iinc C 2 (fun x36 => [(2, .int x36), (0, .ref (rr Θ 1 o0 0)), (1, .int e16)]) dX0_settleFights_101 rfl (v := (a35.1 + (1 : Int32))) rfl (by decide) (fun _ => rfl) (n := 104) rfl hk (fun x36 hk => ?_)
            refine g_goto C 44 dX0_settleFights_104 (by decide) ?_
            refine g_lv [1, 2, 0] [(0, .ref (rr Θ 1 o0 0)), (1, .int e16), (2, .int x36)] rfl ?_
            exact hk.out
          · refine g_aload_n C 0 dX0_settleFights_65 rfl rfl (n := 66) rfl ?_
            refine g_getR C kc_1 (rt_1_3 (tB Θ) o0) ho0 (by decide) (by decide) wm_168 dX0_settleFights_66 (n := 69) rfl ?_
            refine g_aload_n C 0 dX0_settleFights_69 rfl rfl (n := 70) rfl ?_
            refine g_getR C kc_1 (rt_1_5 (tB Θ) o0) ho0 (by decide) (by decide) wm_176 dX0_settleFights_70 (n := 73) rfl ?_
            refine g_iload_n C 2 dX0_settleFights_73 rfl rfl (n := 74) rfl ?_
            refine g_aald C ar_4 ho0 dX0_settleFights_74 (n := 75) rfl hk (fun hg37 hk => ?_)
            refine g_getI C kc_7 ft_7_4 ho0 (inb_lt hg37) (by decide) wm_146 dX0_settleFights_75 (n := 78) rfl ?_
            refine g_aald C ar_3 ho0 dX0_settleFights_78 (n := 79) rfl hk (fun hg38 hk => ?_)
            refine g_aload_n C 0 dX0_settleFights_79 rfl rfl (n := 80) rfl ?_
            refine g_getR C kc_1 (rt_1_5 (tB Θ) o0) ho0 (by decide) (by decide) wm_176 dX0_settleFights_80 (n := 83) rfl ?_
            refine g_iload_n C 2 dX0_settleFights_83 rfl rfl (n := 84) rfl ?_
            refine g_aald C ar_4 ho0 dX0_settleFights_84 (n := 85) rfl hk (fun hg39 hk => ?_)
            refine g_getI C kc_7 ft_7_3 ho0 (inb_lt hg39) (by decide) wm_143 dX0_settleFights_85 (n := 88) rfl ?_
            refine g_putI C kc_6 ft_6_2 ho0 (inb_lt hg38) (by decide) rfl (fitI _) wm_114 dX0_settleFights_88 (n := 91) rfl hk (fun h40 hk => ?_)
            refine g_aload_n C 0 dX0_settleFights_91 rfl rfl (n := 92) rfl ?_
            refine g_getR C kc_1 (rt_1_5 (tB Θ) o0) ho0 (by decide) (by decide) wm_176 dX0_settleFights_92 (n := 95) rfl ?_
            refine g_iload_n C 2 dX0_settleFights_95 rfl rfl (n := 96) rfl ?_
            refine g_aald C ar_4 ho0 dX0_settleFights_96 (n := 97) rfl hk (fun hg41 hk => ?_)
            refine g_iconst C (-1 : Int32) dX0_settleFights_97 (by decide) (n := 98) rfl ?_
            refine g_putI C kc_7 ft_7_4 ho0 (inb_lt hg41) (by decide) rfl (fitI _) wm_146 dX0_settleFights_98 (n := 101) rfl hk (fun h42 hk => ?_)
            refine g_iinc C 2 (fun x43 => [(2, .int x43), (0, .ref (rr Θ 1 o0 0)), (1, .int e16)]) dX0_settleFights_101 rfl (v := (a35.1 + (1 : Int32))) rfl (by decide) (fun _ => rfl) (n := 104) rfl hk (fun x43 hk => ?_)
            refine g_goto C 44 dX0_settleFights_104 (by decide) ?_
            refine g_lv [1, 2, 0] [(0, .ref (rr Θ 1 o0 0)), (1, .int e16), (2, .int x43)] rfl ?_
            exact hk.out
  · refine Ok.loop (fun a11 => G Θ Γ 4 [(0, .ref (rr Θ 1 o0 0)), (1, .int a11.1), (2, .int a11.2)] [] h) (fun a11 hk => ?_) _ _ hk
    refine g_iload_n C 2 dX0_settleFights_4 rfl rfl (n := 5) rfl ?_
    refine g_aload_n C 0 dX0_settleFights_5 rfl rfl (n := 6) rfl ?_
    refine g_getI C kc_1 ft_1_10 ho0 (by decide) (by decide) wm_188 dX0_settleFights_6 (n := 9) rfl ?_
    refine g_ic_ge C 42 dX0_settleFights_9 (by decide) (n := 12) rfl hk (fun hk => ?_) (fun hk => ?_)
    · refine g_lv [0, 1] [(0, .ref (rr Θ 1 o0 0)), (1, .int a11.1)] rfl ?_
      exact hk.out
    · refine g_aload_n C 0 dX0_settleFights_12 rfl rfl (n := 13) rfl ?_
      refine g_aload_n C 0 dX0_settleFights_13 rfl rfl (n := 14) rfl ?_
      refine g_getR C kc_1 (rt_1_9 (tB Θ) o0) ho0 (by decide) (by decide) wm_186 dX0_settleFights_14 (n := 17) rfl ?_
      refine g_iload_n C 2 dX0_settleFights_17 rfl rfl (n := 18) rfl ?_
      refine g_iald C an_5 ho0 dX0_settleFights_18 (n := 19) rfl hk (fun _ hk => ?_)
      refine g_cVBp C hk (fun K hk => L_X0_losesFight Θ o0 ho0 (h 5 0 o0 a11.2.toNatClampNeg) h K hk) lk_X0_135 kc_1 ho0 (by decide) ⟨rfl, rfl⟩ ⟨Nat.le_of_ble_eq_true rfl, Nat.le_of_ble_eq_true rfl⟩ dX0_settleFights_19 rfl rfl (Nat.le_of_ble_eq_true rfl) (n := 22) rfl (fun r12 hk => ?_)
      refine g_bf C 36 dX0_settleFights_22 (by decide) (n := 25) rfl hk (fun hk => ?_) (fun hk => ?_)
      · refine g_iinc C 2 (fun x13 => [(2, .int x13), (0, .ref (rr Θ 1 o0 0)), (1, .int a11.1)]) dX0_settleFights_36 rfl (v := (a11.2 + (1 : Int32))) rfl (by decide) (fun _ => rfl) (n := 39) rfl hk (fun x13 hk => ?_)
        refine g_goto C 4 dX0_settleFights_39 (by decide) ?_
        refine g_lv [1, 2, 0] [(0, .ref (rr Θ 1 o0 0)), (1, .int a11.1), (2, .int x13)] rfl ?_
        exact hk.out
      · refine g_iload_n C 1 dX0_settleFights_25 rfl rfl (n := 26) rfl ?_
        refine g_iconst C (1 : Int32) dX0_settleFights_26 (by decide) (n := 27) rfl ?_
        refine g_aload_n C 0 dX0_settleFights_27 rfl rfl (n := 28) rfl ?_
        refine g_getR C kc_1 (rt_1_9 (tB Θ) o0) ho0 (by decide) (by decide) wm_186 dX0_settleFights_28 (n := 31) rfl ?_
        refine g_iload_n C 2 dX0_settleFights_31 rfl rfl (n := 32) rfl ?_
        refine g_iald C an_5 ho0 dX0_settleFights_32 (n := 33) rfl hk (fun _ hk => ?_)
        refine g_ishl C dX0_settleFights_33 (n := 34) rfl ?_
        refine g_ior C dX0_settleFights_34 (n := 35) rfl ?_
        refine g_nm hk (fun x14 hk => ?_)
        refine g_istore_n C [(1, .int x14), (0, .ref (rr Θ 1 o0 0)), (2, .int a11.2)] dX0_settleFights_35 rfl (by decide) rfl (n := 36) rfl ?_
        refine g_iinc C 2 (fun x15 => [(2, .int x15), (1, .int x14), (0, .ref (rr Θ 1 o0 0))]) dX0_settleFights_36 rfl (v := (a11.2 + (1 : Int32))) rfl (by decide) (fun _ => rfl) (n := 39) rfl hk (fun x15 hk => ?_)
        refine g_goto C 4 dX0_settleFights_39 (by decide) ?_
        refine g_lv [2, 1, 0] [(0, .ref (rr Θ 1 o0 0)), (1, .int x14), (2, .int x15)] rfl ?_
        exact hk.out
def f_X0_washAway (o0 : Nat) (p1 : Int32) (p2 : Int32) (h : Mem) : Option (Mem) := obd (lp fu (fun a15 => (if (a15.2 1 2 o0 0) ≤ a15.1 then some (.inr a15.2) else gd (inb a15.1 6) (obd (f_X9_within (a15.2 6 2 o0 a15.1.toNatClampNeg) p1 p2 a15.2) (fun r17 => (if r17 = true then gd (inb a15.1 6) (bnd (up a15.2 6 2 o0 a15.1.toNatClampNeg (30 : Int32)) (fun h20 => bnd (a15.1 + (1 : Int32)) (fun x21 => some (.inl (x21, h20))))) else bnd (a15.1 + (1 : Int32)) (fun x18 => some (.inl (x18, a15.2)))))))) ((0 : Int32), h)) (fun e22 => some e22)
def rm_X0_washAway : Room := { frames := 1, cells := 0, slots := 0, locals := 22 }
set_option maxHeartbeats 4000000 in
set_option maxRecDepth 100000 in
theorem L_X0_washAway (Θ : Tht) (o0 : Nat) (ho0 : o0 < 5) (p1 : Int32) (p2 : Int32) (h : Mem) (K : Mem → Prop) (hk : Ok (f_X0_washAway o0 p1 p2 h) K) : CV Θ yX0_washAway cX0_washAway 4 none rm_X0_washAway [.ref (rr Θ 1 o0 0), .int p1, .int p2] h K := by
  refine CV.of K [(0, .ref (rr Θ 1 o0 0)), (1, .int p1), (2, .int p2)] (plainFor_of_name (by decide)) (Nat.le_of_ble_eq_true rfl) rfl (fun Γ C Rt => ?_)
  replace hk := rtV Rt hk
  unfold f_X0_washAway at hk
  refine g_iconst C (0 : Int32) dX0_washAway_0 (by decide) (n := 1) rfl ?_
  refine g_istore_n C [(3, .int (0 : Int32)), (0, .ref (rr Θ 1 o0 0)), (1, .int p1), (2, .int p2)] dX0_washAway_1 rfl (by decide) rfl (n := 2) rfl ?_
  refine g_lv [1, 2, 3, 0] [(0, .ref (rr Θ 1 o0 0)), (1, .int p1), (2, .int p2), (3, .int (0 : Int32))] rfl ?_
  refine Ok.join hk (fun e22 => G Θ Γ 44 [] [] e22) (fun e22 hk => ?_) (fun hk => ?_)
  · exact retV hk.out dX0_washAway_44
  · refine Ok.loop (fun a15 => G Θ Γ 2 [(0, .ref (rr Θ 1 o0 0)), (1, .int p1), (2, .int p2), (3, .int a15.1)] [] a15.2) (fun a15 hk => ?_) _ _ hk
    refine g_iload_n C 3 dX0_washAway_2 rfl rfl (n := 3) rfl ?_
    refine g_aload_n C 0 dX0_washAway_3 rfl rfl (n := 4) rfl ?_
    refine g_getI C kc_1 ft_1_2 ho0 (by decide) (by decide) wm_165 dX0_washAway_4 (n := 7) rfl ?_
    refine g_ic_ge C 44 dX0_washAway_7 (by decide) (n := 10) rfl hk (fun hk => ?_) (fun hk => ?_)
    · refine g_lv [] [] rfl ?_
      exact hk.out
    · refine g_aload_n C 0 dX0_washAway_10 rfl rfl (n := 11) rfl ?_
      refine g_getR C kc_1 (rt_1_3 (tB Θ) o0) ho0 (by decide) (by decide) wm_168 dX0_washAway_11 (n := 14) rfl ?_
      refine g_iload_n C 3 dX0_washAway_14 rfl rfl (n := 15) rfl ?_
      refine g_aald C ar_3 ho0 dX0_washAway_15 (n := 16) rfl hk (fun hg16 hk => ?_)
      refine g_getI C kc_6 ft_6_2 ho0 (inb_lt hg16) (by decide) wm_114 dX0_washAway_16 (n := 19) rfl ?_
      refine g_iload_n C 1 dX0_washAway_19 rfl rfl (n := 20) rfl ?_
      refine g_iload_n C 2 dX0_washAway_20 rfl rfl (n := 21) rfl ?_
      refine g_cNBp C hk (fun K hk => L_X9_within Θ (a15.2 6 2 o0 a15.1.toNatClampNeg) p1 p2 a15.2 K hk) lk_X0_86 ⟨rfl, rfl⟩ ⟨Nat.le_of_ble_eq_true rfl, Nat.le_of_ble_eq_true rfl⟩ dX0_washAway_21 rfl rfl (Nat.le_of_ble_eq_true rfl) (n := 24) rfl (fun r17 hk => ?_)
      refine g_bf C 38 dX0_washAway_24 (by decide) (n := 27) rfl hk (fun hk => ?_) (fun hk => ?_)
      · refine g_iinc C 3 (fun x18 => [(3, .int x18), (0, .ref (rr Θ 1 o0 0)), (1, .int p1), (2, .int p2)]) dX0_washAway_38 rfl (v := (a15.1 + (1 : Int32))) rfl (by decide) (fun _ => rfl) (n := 41) rfl hk (fun x18 hk => ?_)
        refine g_goto C 2 dX0_washAway_41 (by decide) ?_
        refine g_lv [1, 2, 3, 0] [(0, .ref (rr Θ 1 o0 0)), (1, .int p1), (2, .int p2), (3, .int x18)] rfl ?_
        exact hk.out
      · refine g_aload_n C 0 dX0_washAway_27 rfl rfl (n := 28) rfl ?_
        refine g_getR C kc_1 (rt_1_3 (tB Θ) o0) ho0 (by decide) (by decide) wm_168 dX0_washAway_28 (n := 31) rfl ?_
        refine g_iload_n C 3 dX0_washAway_31 rfl rfl (n := 32) rfl ?_
        refine g_aald C ar_3 ho0 dX0_washAway_32 (n := 33) rfl hk (fun hg19 hk => ?_)
        refine g_bipush C (30 : Int32) dX0_washAway_33 (by decide) (n := 35) rfl ?_
        refine g_putI C kc_6 ft_6_2 ho0 (inb_lt hg19) (by decide) rfl (fitI _) wm_114 dX0_washAway_35 (n := 38) rfl hk (fun h20 hk => ?_)
        refine g_iinc C 3 (fun x21 => [(3, .int x21), (0, .ref (rr Θ 1 o0 0)), (1, .int p1), (2, .int p2)]) dX0_washAway_38 rfl (v := (a15.1 + (1 : Int32))) rfl (by decide) (fun _ => rfl) (n := 41) rfl hk (fun x21 hk => ?_)
        refine g_goto C 2 dX0_washAway_41 (by decide) ?_
        refine g_lv [1, 2, 3, 0] [(0, .ref (rr Θ 1 o0 0)), (1, .int p1), (2, .int p2), (3, .int x21)] rfl ?_
        exact hk.out
def f_X0_goStep (o0 : Nat) (h : Mem) : Option (Mem) := obd (lp fu (fun a7 => (if (a7.2 1 10 o0 0) ≤ a7.1 then some (.inr a7.2) else gd (inb a7.1 4) (obd (f_X0_act o0 (a7.2 5 0 o0 a7.1.toNatClampNeg) a7.2) (fun h8 => bnd (a7.1 + (1 : Int32)) (fun x9 => some (.inl (x9, h8))))))) ((0 : Int32), h)) (fun e10 => obd (f_X0_settleFights o0 e10) (fun h11 => bnd (up h11 1 8 o0 0 ((h11 1 8 o0 0) + (1 : Int32))) (fun h12 => (if (h12 1 6 o0 0) ≤ 0 then some h12 else gd (¬ (h12 1 6 o0 0) = 0) ((if ((h12 1 8 o0 0) - (h12 1 8 o0 0) / (h12 1 6 o0 0) * (h12 1 6 o0 0)) = 0 then obd (f_X0_washAway o0 (0 : Int32) ((h12 1 7 o0 0) - (1 : Int32)) h12) (fun h13 => some h13) else some h12))))))
def rm_X0_goStep : Room := { frames := 3, cells := 0, slots := 0, locals := 66 }
set_option maxHeartbeats 4000000 in
set_option maxRecDepth 100000 in
theorem L_X0_goStep (Θ : Tht) (o0 : Nat) (ho0 : o0 < 5) (h : Mem) (K : Mem → Prop) (hk : Ok (f_X0_goStep o0 h) K) : CV Θ yX0_goStep cX0_goStep 2 none rm_X0_goStep [.ref (rr Θ 1 o0 0)] h K := by
  refine CV.of K [(0, .ref (rr Θ 1 o0 0))] (plainFor_of_name (by decide)) (Nat.le_of_ble_eq_true rfl) rfl (fun Γ C Rt => ?_)
  replace hk := rtV Rt hk
  unfold f_X0_goStep at hk
  refine g_iconst C (0 : Int32) dX0_goStep_0 (by decide) (n := 1) rfl ?_
  refine g_istore_n C [(1, .int (0 : Int32)), (0, .ref (rr Θ 1 o0 0))] dX0_goStep_1 rfl (by decide) rfl (n := 2) rfl ?_
  refine g_lv [1, 0] [(0, .ref (rr Θ 1 o0 0)), (1, .int (0 : Int32))] rfl ?_
  refine Ok.join hk (fun e10 => G Θ Γ 26 [(0, .ref (rr Θ 1 o0 0))] [] e10) (fun e10 hk => ?_) (fun hk => ?_)
  · refine g_aload_n C 0 dX0_goStep_26 rfl rfl (n := 27) rfl ?_
    refine g_cVV C hk (fun K hk => L_X0_settleFights Θ o0 ho0 e10 K hk) lk_X0_114 kc_1 ho0 (by decide) ⟨rfl, rfl⟩ ⟨Nat.le_of_ble_eq_true rfl, Nat.le_of_ble_eq_true rfl⟩ dX0_goStep_27 rfl rfl (Nat.le_of_ble_eq_true rfl) (n := 30) rfl (fun h11 hk => ?_)
    refine g_aload_n C 0 dX0_goStep_30 rfl rfl (n := 31) rfl ?_
    refine g_dup C dX0_goStep_31 rfl (n := 32) rfl ?_
    refine g_getI C kc_1 ft_1_8 ho0 (by decide) (by decide) wm_184 dX0_goStep_32 (n := 35) rfl ?_
    refine g_iconst C (1 : Int32) dX0_goStep_35 (by decide) (n := 36) rfl ?_
    refine g_iadd C dX0_goStep_36 (n := 37) rfl ?_
    refine g_putI C kc_1 ft_1_8 ho0 (by decide) (by decide) rfl (fitI _) wm_184 dX0_goStep_37 (n := 40) rfl hk (fun h12 hk => ?_)
    refine g_aload_n C 0 dX0_goStep_40 rfl rfl (n := 41) rfl ?_
    refine g_getI C kc_1 ft_1_6 ho0 (by decide) (by decide) wm_178 dX0_goStep_41 (n := 44) rfl ?_
    refine g_if_le C 70 dX0_goStep_44 (by decide) (n := 47) rfl hk (fun hk => ?_) (fun hk => ?_)
    · exact retV hk.out dX0_goStep_70
    · refine g_aload_n C 0 dX0_goStep_47 rfl rfl (n := 48) rfl ?_
      refine g_getI C kc_1 ft_1_8 ho0 (by decide) (by decide) wm_184 dX0_goStep_48 (n := 51) rfl ?_
      refine g_aload_n C 0 dX0_goStep_51 rfl rfl (n := 52) rfl ?_
      refine g_getI C kc_1 ft_1_6 ho0 (by decide) (by decide) wm_178 dX0_goStep_52 (n := 55) rfl ?_
      refine g_irem C dX0_goStep_55 (n := 56) rfl hk (fun hk => ?_)
      refine g_if_ne C 70 dX0_goStep_56 (by decide) (n := 59) rfl hk (fun hk => ?_) (fun hk => ?_)
      · exact retV hk.out dX0_goStep_70
      · refine g_aload_n C 0 dX0_goStep_59 rfl rfl (n := 60) rfl ?_
        refine g_iconst C (0 : Int32) dX0_goStep_60 (by decide) (n := 61) rfl ?_
        refine g_aload_n C 0 dX0_goStep_61 rfl rfl (n := 62) rfl ?_
        refine g_getI C kc_1 ft_1_7 ho0 (by decide) (by decide) wm_181 dX0_goStep_62 (n := 65) rfl ?_
        refine g_iconst C (1 : Int32) dX0_goStep_65 (by decide) (n := 66) rfl ?_
        refine g_isub C dX0_goStep_66 (n := 67) rfl ?_
        refine g_cVV C hk (fun K hk => L_X0_washAway Θ o0 ho0 (0 : Int32) ((h12 1 7 o0 0) - (1 : Int32)) h12 K hk) lk_X0_117 kc_1 ho0 (by decide) ⟨rfl, rfl⟩ ⟨Nat.le_of_ble_eq_true rfl, Nat.le_of_ble_eq_true rfl⟩ dX0_goStep_67 rfl rfl (Nat.le_of_ble_eq_true rfl) (n := 70) rfl (fun h13 hk => ?_)
        exact retV hk.out dX0_goStep_70
  · refine Ok.loop (fun a7 => G Θ Γ 2 [(0, .ref (rr Θ 1 o0 0)), (1, .int a7.1)] [] a7.2) (fun a7 hk => ?_) _ _ hk
    refine g_iload_n C 1 dX0_goStep_2 rfl rfl (n := 3) rfl ?_
    refine g_aload_n C 0 dX0_goStep_3 rfl rfl (n := 4) rfl ?_
    refine g_getI C kc_1 ft_1_10 ho0 (by decide) (by decide) wm_188 dX0_goStep_4 (n := 7) rfl ?_
    refine g_ic_ge C 26 dX0_goStep_7 (by decide) (n := 10) rfl hk (fun hk => ?_) (fun hk => ?_)
    · refine g_lv [0] [(0, .ref (rr Θ 1 o0 0))] rfl ?_
      exact hk.out
    · refine g_aload_n C 0 dX0_goStep_10 rfl rfl (n := 11) rfl ?_
      refine g_aload_n C 0 dX0_goStep_11 rfl rfl (n := 12) rfl ?_
      refine g_getR C kc_1 (rt_1_9 (tB Θ) o0) ho0 (by decide) (by decide) wm_186 dX0_goStep_12 (n := 15) rfl ?_
      refine g_iload_n C 1 dX0_goStep_15 rfl rfl (n := 16) rfl ?_
      refine g_iald C an_5 ho0 dX0_goStep_16 (n := 17) rfl hk (fun _ hk => ?_)
      refine g_cVV C hk (fun K hk => L_X0_act Θ o0 ho0 (a7.2 5 0 o0 a7.1.toNatClampNeg) a7.2 K hk) lk_X0_110 kc_1 ho0 (by decide) ⟨rfl, rfl⟩ ⟨Nat.le_of_ble_eq_true rfl, Nat.le_of_ble_eq_true rfl⟩ dX0_goStep_17 rfl rfl (Nat.le_of_ble_eq_true rfl) (n := 20) rfl (fun h8 hk => ?_)
      refine g_iinc C 1 (fun x9 => [(1, .int x9), (0, .ref (rr Θ 1 o0 0))]) dX0_goStep_20 rfl (v := (a7.1 + (1 : Int32))) rfl (by decide) (fun _ => rfl) (n := 23) rfl hk (fun x9 hk => ?_)
      refine g_goto C 2 dX0_goStep_23 (by decide) ?_
      refine g_lv [1, 0] [(0, .ref (rr Θ 1 o0 0)), (1, .int x9)] rfl ?_
      exact hk.out
def f_X0_goSteps (o0 : Nat) (p1 : Int32) (h : Mem) : Option (Mem) := obd (lp fu (fun a7 => (if p1 ≤ a7.1 then some (.inr a7.2) else obd (f_X0_goStep o0 a7.2) (fun h8 => bnd (a7.1 + (1 : Int32)) (fun x9 => some (.inl (x9, h8)))))) ((0 : Int32), h)) (fun e10 => some e10)
def rm_X0_goSteps : Room := { frames := 4, cells := 0, slots := 0, locals := 87 }
set_option maxHeartbeats 4000000 in
set_option maxRecDepth 100000 in
theorem L_X0_goSteps (Θ : Tht) (o0 : Nat) (ho0 : o0 < 5) (p1 : Int32) (h : Mem) (K : Mem → Prop) (hk : Ok (f_X0_goSteps o0 p1 h) K) : CV Θ yX0_goSteps cX0_goSteps 3 none rm_X0_goSteps [.ref (rr Θ 1 o0 0), .int p1] h K := by
  refine CV.of K [(0, .ref (rr Θ 1 o0 0)), (1, .int p1)] (plainFor_of_name (by decide)) (Nat.le_of_ble_eq_true rfl) rfl (fun Γ C Rt => ?_)
  replace hk := rtV Rt hk
  unfold f_X0_goSteps at hk
  refine g_iconst C (0 : Int32) dX0_goSteps_0 (by decide) (n := 1) rfl ?_
  refine g_istore_n C [(2, .int (0 : Int32)), (0, .ref (rr Θ 1 o0 0)), (1, .int p1)] dX0_goSteps_1 rfl (by decide) rfl (n := 2) rfl ?_
  refine g_lv [1, 2, 0] [(0, .ref (rr Θ 1 o0 0)), (1, .int p1), (2, .int (0 : Int32))] rfl ?_
  refine Ok.join hk (fun e10 => G Θ Γ 17 [] [] e10) (fun e10 hk => ?_) (fun hk => ?_)
  · exact retV hk.out dX0_goSteps_17
  · refine Ok.loop (fun a7 => G Θ Γ 2 [(0, .ref (rr Θ 1 o0 0)), (1, .int p1), (2, .int a7.1)] [] a7.2) (fun a7 hk => ?_) _ _ hk
    refine g_iload_n C 2 dX0_goSteps_2 rfl rfl (n := 3) rfl ?_
    refine g_iload_n C 1 dX0_goSteps_3 rfl rfl (n := 4) rfl ?_
    refine g_ic_ge C 17 dX0_goSteps_4 (by decide) (n := 7) rfl hk (fun hk => ?_) (fun hk => ?_)
    · refine g_lv [] [] rfl ?_
      exact hk.out
    · refine g_aload_n C 0 dX0_goSteps_7 rfl rfl (n := 8) rfl ?_
      refine g_cVV C hk (fun K hk => L_X0_goStep Θ o0 ho0 a7.2 K hk) lk_X0_107 kc_1 ho0 (by decide) ⟨rfl, rfl⟩ ⟨Nat.le_of_ble_eq_true rfl, Nat.le_of_ble_eq_true rfl⟩ dX0_goSteps_8 rfl rfl (Nat.le_of_ble_eq_true rfl) (n := 11) rfl (fun h8 hk => ?_)
      refine g_iinc C 2 (fun x9 => [(2, .int x9), (0, .ref (rr Θ 1 o0 0)), (1, .int p1)]) dX0_goSteps_11 rfl (v := (a7.1 + (1 : Int32))) rfl (by decide) (fun _ => rfl) (n := 14) rfl hk (fun x9 hk => ?_)
      refine g_goto C 2 dX0_goSteps_14 (by decide) ?_
      refine g_lv [1, 2, 0] [(0, .ref (rr Θ 1 o0 0)), (1, .int p1), (2, .int x9)] rfl ?_
      exact hk.out
def f_X9_ahead (p1 : Int32) (p2 : Int32) (h : Mem) : Option (Int32 × Mem) := obd (f_X9_isCoin p1 h) (fun r1 => (if r1 = true then obd (f_X9_within p2 (0 : Int32) (60 : Int32) h) (fun r2 => (if r2 = true then obd (f_X0_copyFrom 1 0 h) (fun h3 => obd (f_X0_goSteps 1 p2 h3) (fun h4 => gd (inb p1 6) (some ((h4 6 2 1 p1.toNatClampNeg), h4)))) else some ((-1 : Int32), h))) else some ((-1 : Int32), h)))
def rm_X9_ahead : Room := { frames := 5, cells := 0, slots := 0, locals := 109 }
set_option maxHeartbeats 4000000 in
set_option maxRecDepth 100000 in
theorem L_X9_ahead (Θ : Tht) (p1 : Int32) (p2 : Int32) (h : Mem) (K : Int32 × Mem → Prop) (hk : Ok (f_X9_ahead p1 p2 h) K) : CI Θ yX9_ahead cX9_ahead 3 (some .int) rm_X9_ahead [.ref (rr Θ 0 0 0), .int p1, .int p2] h K := by
  refine CI.of K [(0, .ref (rr Θ 0 0 0)), (1, .int p1), (2, .int p2)] (plainFor_of_name (by decide)) (Nat.le_of_ble_eq_true rfl) rfl (fun Γ C Rt => ?_)
  replace hk := rtI Rt hk
  unfold f_X9_ahead at hk
  refine g_aload_n C 0 dX9_ahead_0 rfl rfl (n := 1) rfl ?_
  refine g_iload_n C 1 dX9_ahead_1 rfl rfl (n := 2) rfl ?_
  refine g_cVBp C hk (fun K hk => L_X9_isCoin Θ p1 h K hk) lk_X9_123 kc_0 (by decide) (by decide) ⟨rfl, rfl⟩ ⟨Nat.le_of_ble_eq_true rfl, Nat.le_of_ble_eq_true rfl⟩ dX9_ahead_2 rfl rfl (Nat.le_of_ble_eq_true rfl) (n := 5) rfl (fun r1 hk => ?_)
  refine g_bf C 18 dX9_ahead_5 (by decide) (n := 8) rfl hk (fun hk => ?_) (fun hk => ?_)
  · refine g_iconst C (-1 : Int32) dX9_ahead_18 (by decide) (n := 19) rfl ?_
    exact retI hk.out dX9_ahead_19
  · refine g_iload_n C 2 dX9_ahead_8 rfl rfl (n := 9) rfl ?_
    refine g_iconst C (0 : Int32) dX9_ahead_9 (by decide) (n := 10) rfl ?_
    refine g_bipush C (60 : Int32) dX9_ahead_10 (by decide) (n := 12) rfl ?_
    refine g_cSBp C hk (fun K hk => L_X9_within Θ p2 (0 : Int32) (60 : Int32) h K hk) lk_X9_69 ⟨rfl, rfl⟩ ⟨Nat.le_of_ble_eq_true rfl, Nat.le_of_ble_eq_true rfl⟩ dX9_ahead_12 rfl rfl (Nat.le_of_ble_eq_true rfl) (n := 15) rfl (fun r2 hk => ?_)
    refine g_bt C 20 dX9_ahead_15 (by decide) (n := 18) rfl hk (fun hk => ?_) (fun hk => ?_)
    · refine g_aload_n C 0 dX9_ahead_20 rfl rfl (n := 21) rfl ?_
      refine g_getR C kc_0 (rt_0_1 (tB Θ) 0) (by decide) (by decide) (by decide) wm_363 dX9_ahead_21 (n := 24) rfl ?_
      refine g_aload_n C 0 dX9_ahead_24 rfl rfl (n := 25) rfl ?_
      refine g_getR C kc_0 (rt_0_0 (tB Θ) 0) (by decide) (by decide) (by decide) wm_362 dX9_ahead_25 (n := 28) rfl ?_
      refine g_cVV C hk (fun K hk => L_X0_copyFrom Θ 1 (by decide) 0 (by decide) h K hk) lk_X9_86 kc_1 (by decide) (by decide) ⟨rfl, rfl⟩ ⟨Nat.le_of_ble_eq_true rfl, Nat.le_of_ble_eq_true rfl⟩ dX9_ahead_28 rfl rfl (Nat.le_of_ble_eq_true rfl) (n := 31) rfl (fun h3 hk => ?_)
      refine g_aload_n C 0 dX9_ahead_31 rfl rfl (n := 32) rfl ?_
      refine g_getR C kc_0 (rt_0_1 (tB Θ) 0) (by decide) (by decide) (by decide) wm_363 dX9_ahead_32 (n := 35) rfl ?_
      refine g_iload_n C 2 dX9_ahead_35 rfl rfl (n := 36) rfl ?_
      refine g_cVV C hk (fun K hk => L_X0_goSteps Θ 1 (by decide) p2 h3 K hk) lk_X9_188 kc_1 (by decide) (by decide) ⟨rfl, rfl⟩ ⟨Nat.le_of_ble_eq_true rfl, Nat.le_of_ble_eq_true rfl⟩ dX9_ahead_36 rfl rfl (Nat.le_of_ble_eq_true rfl) (n := 39) rfl (fun h4 hk => ?_)
      refine g_aload_n C 0 dX9_ahead_39 rfl rfl (n := 40) rfl ?_
      refine g_getR C kc_0 (rt_0_1 (tB Θ) 0) (by decide) (by decide) (by decide) wm_363 dX9_ahead_40 (n := 43) rfl ?_
      refine g_getR C kc_1 (rt_1_3 (tB Θ) 1) (by decide) (by decide) (by decide) wm_171 dX9_ahead_43 (n := 46) rfl ?_
      refine g_iload_n C 1 dX9_ahead_46 rfl rfl (n := 47) rfl ?_
      refine g_aald C ar_3 (by decide) dX9_ahead_47 (n := 48) rfl hk (fun hg5 hk => ?_)
      refine g_getI C kc_6 ft_6_2 (by decide) (inb_lt hg5) (by decide) wm_116 dX9_ahead_48 (n := 51) rfl ?_
      exact retI hk.out dX9_ahead_51
    · refine g_iconst C (-1 : Int32) dX9_ahead_18 (by decide) (n := 19) rfl ?_
      exact retI hk.out dX9_ahead_19
def f_X9_asNumber (p1 : Bool) (h : Mem) : Option (Int32) := (if p1 = true then some (1 : Int32) else some (0 : Int32))
def rm_X9_asNumber : Room := { frames := 0, cells := 0, slots := 0, locals := 0 }
set_option maxHeartbeats 4000000 in
set_option maxRecDepth 100000 in
theorem L_X9_asNumber (Θ : Tht) (p1 : Bool) (h : Mem) (K : Int32 × Mem → Prop) (hk : Ok (f_X9_asNumber p1 h) (fun r => K (r, h))) : CI Θ yX9_asNumber cX9_asNumber 1 (some .int) rm_X9_asNumber [.int (b2i p1)] h K := by
  refine CI.of K [(0, .int (b2i p1))] (plainFor_of_name (by decide)) (Nat.le_of_ble_eq_true rfl) rfl (fun Γ C Rt => ?_)
  replace hk := rtIp Rt hk
  unfold f_X9_asNumber at hk
  refine g_iload_n C 0 dX9_asNumber_0 rfl rfl (n := 1) rfl ?_
  refine g_bf C 8 dX9_asNumber_1 (by decide) (n := 4) rfl hk (fun hk => ?_) (fun hk => ?_)
  · refine g_iconst C (0 : Int32) dX9_asNumber_8 (by decide) (n := 9) rfl ?_
    exact retI hk.out dX9_asNumber_9
  · refine g_iconst C (1 : Int32) dX9_asNumber_4 (by decide) (n := 5) rfl ?_
    refine g_goto C 9 dX9_asNumber_5 (by decide) ?_
    exact retI hk.out dX9_asNumber_9
def f_X9_isImage (p1 : Int32) (h : Mem) : Option (Bool) := obd (f_X9_within p1 (0 : Int32) (1 : Int32) h) (fun r1 => some r1)
def rm_X9_isImage : Room := { frames := 1, cells := 0, slots := 0, locals := 22 }
set_option maxHeartbeats 4000000 in
set_option maxRecDepth 100000 in
theorem L_X9_isImage (Θ : Tht) (p1 : Int32) (h : Mem) (K : Bool × Mem → Prop) (hk : Ok (f_X9_isImage p1 h) (fun r => K (r, h))) : CB Θ yX9_isImage cX9_isImage 1 (some .boolean) rm_X9_isImage [.int p1] h K := by
  refine CB.of K [(0, .int p1)] (plainFor_of_name (by decide)) (Nat.le_of_ble_eq_true rfl) rfl (fun Γ C Rt => ?_)
  replace hk := rtBp Rt hk
  unfold f_X9_isImage at hk
  refine g_iload_n C 0 dX9_isImage_0 rfl rfl (n := 1) rfl ?_
  refine g_iconst C (0 : Int32) dX9_isImage_1 (by decide) (n := 2) rfl ?_
  refine g_iconst C (1 : Int32) dX9_isImage_2 (by decide) (n := 3) rfl ?_
  refine g_cSBp C hk (fun K hk => L_X9_within Θ p1 (0 : Int32) (1 : Int32) h K hk) lk_X9_69 ⟨rfl, rfl⟩ ⟨Nat.le_of_ble_eq_true rfl, Nat.le_of_ble_eq_true rfl⟩ dX9_isImage_3 rfl rfl (Nat.le_of_ble_eq_true rfl) (n := 6) rfl (fun r1 hk => ?_)
  exact retB r1 rfl hk.out dX9_isImage_6
def f_X6_copyFrom (o0 : Nat) (o1 : Nat) (h : Mem) : Option (Mem) := bnd (up h 8 0 o0 0 (h 8 0 o1 0)) (fun h1 => obd (lp fu (fun a14 => (if (a14.2 8 0 o0 0) ≤ a14.1 then some (.inr a14.2) else gd (inb a14.1 8) (gd (inb a14.1 8) (bnd (up a14.2 9 0 o0 a14.1.toNatClampNeg (a14.2 9 0 o1 a14.1.toNatClampNeg)) (fun h15 => gd (inb a14.1 8) (gd (inb a14.1 8) (bnd (up h15 10 0 o0 a14.1.toNatClampNeg (h15 10 0 o1 a14.1.toNatClampNeg)) (fun h16 => gd (inb a14.1 8) (gd (inb a14.1 8) (bnd (up h16 11 0 o0 a14.1.toNatClampNeg (h16 11 0 o1 a14.1.toNatClampNeg)) (fun h17 => gd (inb a14.1 8) (gd (inb a14.1 8) (bnd (up h17 12 0 o0 a14.1.toNatClampNeg (vp_nar .boolean (h17 12 0 o1 a14.1.toNatClampNeg))) (fun h18 => bnd (a14.1 + (1 : Int32)) (fun x19 => some (.inl (x19, h18))))))))))))))))) ((0 : Int32), h1)) (fun e20 => some e20))
def rm_X6_copyFrom : Room := { frames := 0, cells := 0, slots := 0, locals := 0 }
set_option maxHeartbeats 4000000 in
set_option maxRecDepth 100000 in
theorem L_X6_copyFrom (Θ : Tht) (o0 : Nat) (ho0 : o0 < 3) (o1 : Nat) (ho1 : o1 < 3) (h : Mem) (K : Mem → Prop) (hk : Ok (f_X6_copyFrom o0 o1 h) K) : CV Θ yX6_copyFrom cX6_copyFrom 3 none rm_X6_copyFrom [.ref (rr Θ 8 o0 0), .ref (rr Θ 8 o1 0)] h K := by
  refine CV.of K [(0, .ref (rr Θ 8 o0 0)), (1, .ref (rr Θ 8 o1 0))] (plainFor_of_name (by decide)) (Nat.le_of_ble_eq_true rfl) rfl (fun Γ C Rt => ?_)
  replace hk := rtV Rt hk
  unfold f_X6_copyFrom at hk
  refine g_aload_n C 0 dX6_copyFrom_0 rfl rfl (n := 1) rfl ?_
  refine g_aload_n C 1 dX6_copyFrom_1 rfl rfl (n := 2) rfl ?_
  refine g_getI C kc_8 ft_8_0 ho1 (by decide) (by decide) wm_218 dX6_copyFrom_2 (n := 5) rfl ?_
  refine g_putI C kc_8 ft_8_0 ho0 (by decide) (by decide) rfl (fitI _) wm_218 dX6_copyFrom_5 (n := 8) rfl hk (fun h1 hk => ?_)
  refine g_iconst C (0 : Int32) dX6_copyFrom_8 (by decide) (n := 9) rfl ?_
  refine g_istore_n C [(2, .int (0 : Int32)), (0, .ref (rr Θ 8 o0 0)), (1, .ref (rr Θ 8 o1 0))] dX6_copyFrom_9 rfl (by decide) rfl (n := 10) rfl ?_
  refine g_lv [1, 2, 0] [(0, .ref (rr Θ 8 o0 0)), (1, .ref (rr Θ 8 o1 0)), (2, .int (0 : Int32))] rfl ?_
  refine Ok.join hk (fun e20 => G Θ Γ 72 [] [] e20) (fun e20 hk => ?_) (fun hk => ?_)
  · exact retV hk.out dX6_copyFrom_72
  · refine Ok.loop (fun a14 => G Θ Γ 10 [(0, .ref (rr Θ 8 o0 0)), (1, .ref (rr Θ 8 o1 0)), (2, .int a14.1)] [] a14.2) (fun a14 hk => ?_) _ _ hk
    refine g_iload_n C 2 dX6_copyFrom_10 rfl rfl (n := 11) rfl ?_
    refine g_aload_n C 0 dX6_copyFrom_11 rfl rfl (n := 12) rfl ?_
    refine g_getI C kc_8 ft_8_0 ho0 (by decide) (by decide) wm_218 dX6_copyFrom_12 (n := 15) rfl ?_
    refine g_ic_ge C 72 dX6_copyFrom_15 (by decide) (n := 18) rfl hk (fun hk => ?_) (fun hk => ?_)
    · refine g_lv [] [] rfl ?_
      exact hk.out
    · refine g_aload_n C 0 dX6_copyFrom_18 rfl rfl (n := 19) rfl ?_
      refine g_getR C kc_8 (rt_8_1 (tB Θ) o0) ho0 (by decide) (by decide) wm_220 dX6_copyFrom_19 (n := 22) rfl ?_
      refine g_iload_n C 2 dX6_copyFrom_22 rfl rfl (n := 23) rfl ?_
      refine g_aload_n C 1 dX6_copyFrom_23 rfl rfl (n := 24) rfl ?_
      refine g_getR C kc_8 (rt_8_1 (tB Θ) o1) ho1 (by decide) (by decide) wm_220 dX6_copyFrom_24 (n := 27) rfl ?_
      refine g_iload_n C 2 dX6_copyFrom_27 rfl rfl (n := 28) rfl ?_
      refine g_iald C an_9 ho1 dX6_copyFrom_28 (n := 29) rfl hk (fun _ hk => ?_)
      refine g_iast C an_9 ho0 dX6_copyFrom_29 (n := 30) rfl hk (fun _ h15 hk => ?_)
      refine g_aload_n C 0 dX6_copyFrom_30 rfl rfl (n := 31) rfl ?_
      refine g_getR C kc_8 (rt_8_2 (tB Θ) o0) ho0 (by decide) (by decide) wm_221 dX6_copyFrom_31 (n := 34) rfl ?_
      refine g_iload_n C 2 dX6_copyFrom_34 rfl rfl (n := 35) rfl ?_
      refine g_aload_n C 1 dX6_copyFrom_35 rfl rfl (n := 36) rfl ?_
      refine g_getR C kc_8 (rt_8_2 (tB Θ) o1) ho1 (by decide) (by decide) wm_221 dX6_copyFrom_36 (n := 39) rfl ?_
      refine g_iload_n C 2 dX6_copyFrom_39 rfl rfl (n := 40) rfl ?_
      refine g_iald C an_10 ho1 dX6_copyFrom_40 (n := 41) rfl hk (fun _ hk => ?_)
      refine g_iast C an_10 ho0 dX6_copyFrom_41 (n := 42) rfl hk (fun _ h16 hk => ?_)
      refine g_aload_n C 0 dX6_copyFrom_42 rfl rfl (n := 43) rfl ?_
      refine g_getR C kc_8 (rt_8_3 (tB Θ) o0) ho0 (by decide) (by decide) wm_222 dX6_copyFrom_43 (n := 46) rfl ?_
      refine g_iload_n C 2 dX6_copyFrom_46 rfl rfl (n := 47) rfl ?_
      refine g_aload_n C 1 dX6_copyFrom_47 rfl rfl (n := 48) rfl ?_
      refine g_getR C kc_8 (rt_8_3 (tB Θ) o1) ho1 (by decide) (by decide) wm_222 dX6_copyFrom_48 (n := 51) rfl ?_
      refine g_iload_n C 2 dX6_copyFrom_51 rfl rfl (n := 52) rfl ?_
      refine g_iald C an_11 ho1 dX6_copyFrom_52 (n := 53) rfl hk (fun _ hk => ?_)
      refine g_iast C an_11 ho0 dX6_copyFrom_53 (n := 54) rfl hk (fun _ h17 hk => ?_)
      refine g_aload_n C 0 dX6_copyFrom_54 rfl rfl (n := 55) rfl ?_
      refine g_getR C kc_8 (rt_8_4 (tB Θ) o0) ho0 (by decide) (by decide) wm_223 dX6_copyFrom_55 (n := 58) rfl ?_
      refine g_iload_n C 2 dX6_copyFrom_58 rfl rfl (n := 59) rfl ?_
      refine g_aload_n C 1 dX6_copyFrom_59 rfl rfl (n := 60) rfl ?_
      refine g_getR C kc_8 (rt_8_4 (tB Θ) o1) ho1 (by decide) (by decide) wm_223 dX6_copyFrom_60 (n := 63) rfl ?_
      refine g_iload_n C 2 dX6_copyFrom_63 rfl rfl (n := 64) rfl ?_
      refine g_zald C an_12 ho1 dX6_copyFrom_64 (n := 65) rfl hk (fun _ hk => ?_)
      refine g_zast C an_12 ho0 dX6_copyFrom_65 (n := 66) rfl hk (fun _ h18 hk => ?_)
      refine g_iinc C 2 (fun x19 => [(2, .int x19), (0, .ref (rr Θ 8 o0 0)), (1, .ref (rr Θ 8 o1 0))]) dX6_copyFrom_66 rfl (v := (a14.1 + (1 : Int32))) rfl (by decide) (fun _ => rfl) (n := 69) rfl hk (fun x19 hk => ?_)
      refine g_goto C 10 dX6_copyFrom_69 (by decide) ?_
      refine g_lv [1, 2, 0] [(0, .ref (rr Θ 8 o0 0)), (1, .ref (rr Θ 8 o1 0)), (2, .int x19)] rfl ?_
      exact hk.out
def f_X9_back (p1 : Int32) (h : Mem) : Option (Int32 × Mem) := obd (f_X9_isImage p1 h) (fun r1 => (if r1 = true then gd (inb p1 2) ((if (h 20 0 p1.toNatClampNeg 0) = 0 then some ((-2 : Int32), h) else gd (inb p1 2) (obd (f_X0_copyFrom 0 (p1.toNatClampNeg + 3) h) (fun h4 => gd (inb p1 2) (obd (f_X6_copyFrom 0 (p1.toNatClampNeg + 1) h4) (fun h6 => some ((h6 1 8 0 0), h6))))))) else some ((-1 : Int32), h)))
def rm_X9_back : Room := { frames := 2, cells := 0, slots := 0, locals := 43 }
set_option maxHeartbeats 4000000 in
set_option maxRecDepth 100000 in
theorem L_X9_back (Θ : Tht) (p1 : Int32) (h : Mem) (K : Int32 × Mem → Prop) (hk : Ok (f_X9_back p1 h) K) : CI Θ yX9_back cX9_back 2 (some .int) rm_X9_back [.ref (rr Θ 0 0 0), .int p1] h K := by
  refine CI.of K [(0, .ref (rr Θ 0 0 0)), (1, .int p1)] (plainFor_of_name (by decide)) (Nat.le_of_ble_eq_true rfl) rfl (fun Γ C Rt => ?_)
  replace hk := rtI Rt hk
  unfold f_X9_back at hk
  refine g_iload_n C 1 dX9_back_0 rfl rfl (n := 1) rfl ?_
  refine g_cSBp C hk (fun K hk => L_X9_isImage Θ p1 h K hk) lk_X9_249 ⟨rfl, rfl⟩ ⟨Nat.le_of_ble_eq_true rfl, Nat.le_of_ble_eq_true rfl⟩ dX9_back_1 rfl rfl (Nat.le_of_ble_eq_true rfl) (n := 4) rfl (fun r1 hk => ?_)
  refine g_bt C 9 dX9_back_4 (by decide) (n := 7) rfl hk (fun hk => ?_) (fun hk => ?_)
  · refine g_aload_n C 0 dX9_back_9 rfl rfl (n := 10) rfl ?_
    refine g_getR C kc_0 (rt_0_6 (tB Θ) 0) (by decide) (by decide) (by decide) wm_368 dX9_back_10 (n := 13) rfl ?_
    refine g_iload_n C 1 dX9_back_13 rfl rfl (n := 14) rfl ?_
    refine g_aald C ar_19 (by decide) dX9_back_14 (n := 15) rfl hk (fun hg2 hk => ?_)
    refine g_getI C kc_20 ft_20_0 (inb_lt hg2) (by decide) (by decide) wm_332 dX9_back_15 (n := 18) rfl ?_
    refine g_if_ne C 24 dX9_back_18 (by decide) (n := 21) rfl hk (fun hk => ?_) (fun hk => ?_)
    · refine g_aload_n C 0 dX9_back_24 rfl rfl (n := 25) rfl ?_
      refine g_getR C kc_0 (rt_0_0 (tB Θ) 0) (by decide) (by decide) (by decide) wm_362 dX9_back_25 (n := 28) rfl ?_
      refine g_aload_n C 0 dX9_back_28 rfl rfl (n := 29) rfl ?_
      refine g_getR C kc_0 (rt_0_6 (tB Θ) 0) (by decide) (by decide) (by decide) wm_368 dX9_back_29 (n := 32) rfl ?_
      refine g_iload_n C 1 dX9_back_32 rfl rfl (n := 33) rfl ?_
      refine g_aald C ar_19 (by decide) dX9_back_33 (n := 34) rfl hk (fun hg3 hk => ?_)
      refine g_getR C kc_20 (rt_20_1 (tB Θ) p1.toNatClampNeg) (inb_lt hg3) (by decide) (by decide) wm_334 dX9_back_34 (n := 37) rfl ?_
      refine g_cVV C hk (fun K hk => L_X0_copyFrom Θ 0 (by decide) (p1.toNatClampNeg + 3) (Nat.add_lt_add_right (inb_lt hg3) 3) h K hk) lk_X9_86 kc_1 (by decide) (by decide) ⟨rfl, rfl⟩ ⟨Nat.le_of_ble_eq_true rfl, Nat.le_of_ble_eq_true rfl⟩ dX9_back_37 rfl rfl (Nat.le_of_ble_eq_true rfl) (n := 40) rfl (fun h4 hk => ?_)
      refine g_aload_n C 0 dX9_back_40 rfl rfl (n := 41) rfl ?_
      refine g_getR C kc_0 (rt_0_2 (tB Θ) 0) (by decide) (by decide) (by decide) wm_364 dX9_back_41 (n := 44) rfl ?_
      refine g_aload_n C 0 dX9_back_44 rfl rfl (n := 45) rfl ?_
      refine g_getR C kc_0 (rt_0_6 (tB Θ) 0) (by decide) (by decide) (by decide) wm_368 dX9_back_45 (n := 48) rfl ?_
      refine g_iload_n C 1 dX9_back_48 rfl rfl (n := 49) rfl ?_
      refine g_aald C ar_19 (by decide) dX9_back_49 (n := 50) rfl hk (fun hg5 hk => ?_)
      refine g_getR C kc_20 (rt_20_2 (tB Θ) p1.toNatClampNeg) (inb_lt hg5) (by decide) (by decide) wm_336 dX9_back_50 (n := 53) rfl ?_
      refine g_cVV C hk (fun K hk => L_X6_copyFrom Θ 0 (by decide) (p1.toNatClampNeg + 1) (Nat.add_lt_add_right (inb_lt hg5) 1) h4 K hk) lk_X9_260 kc_8 (by decide) (by decide) ⟨rfl, rfl⟩ ⟨Nat.le_of_ble_eq_true rfl, Nat.le_of_ble_eq_true rfl⟩ dX9_back_53 rfl rfl (Nat.le_of_ble_eq_true rfl) (n := 56) rfl (fun h6 hk => ?_)
      refine g_aload_n C 0 dX9_back_56 rfl rfl (n := 57) rfl ?_
      refine g_getR C kc_0 (rt_0_0 (tB Θ) 0) (by decide) (by decide) (by decide) wm_362 dX9_back_57 (n := 60) rfl ?_
      refine g_getI C kc_1 ft_1_8 (by decide) (by decide) (by decide) wm_185 dX9_back_60 (n := 63) rfl ?_
      exact retI hk.out dX9_back_63
    · refine g_bipush C (-2 : Int32) dX9_back_21 (by decide) (n := 23) rfl ?_
      exact retI hk.out dX9_back_23
  · refine g_iconst C (-1 : Int32) dX9_back_7 (by decide) (n := 8) rfl ?_
    exact retI hk.out dX9_back_8
def f_X0_openCoins (o0 : Nat) (h : Mem) : Option (Int32) := obd (lp fu (fun a13 => (if (h 1 2 o0 0) ≤ a13.2 then some (.inr (.inr a13.1)) else gd (inb a13.2 6) ((if (h 6 3 o0 a13.2.toNatClampNeg) = (-1 : Int32) then bnd (a13.2 + (1 : Int32)) (fun x15 => some (.inl (a13.1, x15))) else (if (h 6 2 o0 a13.2.toNatClampNeg) = ((20 : Int32) + (h 6 3 o0 a13.2.toNatClampNeg)) then bnd (a13.2 + (1 : Int32)) (fun x16 => some (.inl (a13.1, x16))) else (if (h 6 2 o0 a13.2.toNatClampNeg) < (20 : Int32) then bnd (a13.1 + (1 : Int32)) (fun x17 => bnd (a13.2 + (1 : Int32)) (fun x18 => some (.inl (x17, x18)))) else some (.inr (.inl (-1 : Int32))))))))) ((0 : Int32), (0 : Int32))) (Sum.elim (fun r => some r) (fun e19 => some e19))
def rm_X0_openCoins : Room := { frames := 0, cells := 0, slots := 0, locals := 0 }
set_option maxHeartbeats 4000000 in
set_option maxRecDepth 100000 in
theorem L_X0_openCoins (Θ : Tht) (o0 : Nat) (ho0 : o0 < 5) (h : Mem) (K : Int32 × Mem → Prop) (hk : Ok (f_X0_openCoins o0 h) (fun r => K (r, h))) : CI Θ yX0_openCoins cX0_openCoins 4 (some .int) rm_X0_openCoins [.ref (rr Θ 1 o0 0)] h K := by
  refine CI.of K [(0, .ref (rr Θ 1 o0 0))] (plainFor_of_name (by decide)) (Nat.le_of_ble_eq_true rfl) rfl (fun Γ C Rt => ?_)
  replace hk := rtIp Rt hk
  unfold f_X0_openCoins at hk
  refine g_iconst C (0 : Int32) dX0_openCoins_0 (by decide) (n := 1) rfl ?_
  refine g_istore_n C [(1, .int (0 : Int32)), (0, .ref (rr Θ 1 o0 0))] dX0_openCoins_1 rfl (by decide) rfl (n := 2) rfl ?_
  refine g_iconst C (0 : Int32) dX0_openCoins_2 (by decide) (n := 3) rfl ?_
  refine g_istore_n C [(2, .int (0 : Int32)), (1, .int (0 : Int32)), (0, .ref (rr Θ 1 o0 0))] dX0_openCoins_3 rfl (by decide) rfl (n := 4) rfl ?_
  refine g_lv [2, 1, 0] [(0, .ref (rr Θ 1 o0 0)), (1, .int (0 : Int32)), (2, .int (0 : Int32))] rfl ?_
  refine Ok.join hk (Sum.elim (fun r => PI Θ Γ cX0_openCoins (r, h)) (fun e19 => G Θ Γ 61 [(1, .int e19)] [] h)) (fun e hk => ?_) (fun hk => ?_)
  · rcases e with r | e19
    · exact hk.out
    · replace hk := ok_inr hk
      refine g_iload_n C 0 dX0_openCoins_61 rfl rfl (n := 62) rfl ?_
      exact retI hk.out dX0_openCoins_62
  · refine Ok.loop (fun a13 => G Θ Γ 4 [(0, .ref (rr Θ 1 o0 0)), (1, .int a13.1), (2, .int a13.2)] [] h) (fun a13 hk => ?_) _ _ hk
    refine g_iload_n C 2 dX0_openCoins_4 rfl rfl (n := 5) rfl ?_
    refine g_aload_n C 0 dX0_openCoins_5 rfl rfl (n := 6) rfl ?_
    refine g_getI C kc_1 ft_1_2 ho0 (by decide) (by decide) wm_165 dX0_openCoins_6 (n := 9) rfl ?_
    refine g_ic_ge C 61 dX0_openCoins_9 (by decide) (n := 12) rfl hk (fun hk => ?_) (fun hk => ?_)
    · refine g_lv [1] [(1, .int a13.1)] rfl ?_
      exact hk.out
    · refine g_aload_n C 0 dX0_openCoins_12 rfl rfl (n := 13) rfl ?_
      refine g_getR C kc_1 (rt_1_3 (tB Θ) o0) ho0 (by decide) (by decide) wm_168 dX0_openCoins_13 (n := 16) rfl ?_
      refine g_iload_n C 2 dX0_openCoins_16 rfl rfl (n := 17) rfl ?_
      refine g_aald C ar_3 ho0 dX0_openCoins_17 (n := 18) rfl hk (fun hg14 hk => ?_)
      refine g_astore_n C [(3, .ref (rr Θ 6 o0 a13.2.toNatClampNeg)), (0, .ref (rr Θ 1 o0 0)), (1, .int a13.1), (2, .int a13.2)] dX0_openCoins_18 rfl (by decide) rfl (n := 19) rfl ?_
      refine g_aload_n C 0 dX0_openCoins_19 rfl rfl (n := 20) rfl ?_
      refine g_getI C kc_6 ft_6_3 ho0 (inb_lt hg14) (by decide) wm_117 dX0_openCoins_20 (n := 23) rfl ?_
      refine g_iconst C (-1 : Int32) dX0_openCoins_23 (by decide) (n := 24) rfl ?_
      refine g_ic_eq C 55 dX0_openCoins_24 (by decide) (n := 27) rfl hk (fun hk => ?_) (fun hk => ?_)
      · refine g_iinc C 3 (fun x15 => [(2, .int x15), (3, .ref (rr Θ 6 o0 a13.2.toNatClampNeg)), (0, .ref (rr Θ 1 o0 0)), (1, .int a13.1)]) dX0_openCoins_55 rfl (v := (a13.2 + (1 : Int32))) rfl (by decide) (fun _ => rfl) (n := 58) rfl hk (fun x15 hk => ?_)
        refine g_goto C 4 dX0_openCoins_58 (by decide) ?_
        refine g_lv [2, 3, 0] [(0, .ref (rr Θ 1 o0 0)), (1, .int a13.1), (2, .int x15)] rfl ?_
        exact hk.out
      · refine g_aload_n C 0 dX0_openCoins_27 rfl rfl (n := 28) rfl ?_
        refine g_getI C kc_6 ft_6_2 ho0 (inb_lt hg14) (by decide) wm_114 dX0_openCoins_28 (n := 31) rfl ?_
        refine g_bipush C (20 : Int32) dX0_openCoins_31 (by decide) (n := 33) rfl ?_
        refine g_aload_n C 0 dX0_openCoins_33 rfl rfl (n := 34) rfl ?_
        refine g_getI C kc_6 ft_6_3 ho0 (inb_lt hg14) (by decide) wm_117 dX0_openCoins_34 (n := 37) rfl ?_
        refine g_iadd C dX0_openCoins_37 (n := 38) rfl ?_
        refine g_ic_eq C 55 dX0_openCoins_38 (by decide) (n := 41) rfl hk (fun hk => ?_) (fun hk => ?_)
        · refine g_iinc C 3 (fun x16 => [(2, .int x16), (3, .ref (rr Θ 6 o0 a13.2.toNatClampNeg)), (0, .ref (rr Θ 1 o0 0)), (1, .int a13.1)]) dX0_openCoins_55 rfl (v := (a13.2 + (1 : Int32))) rfl (by decide) (fun _ => rfl) (n := 58) rfl hk (fun x16 hk => ?_)
          refine g_goto C 4 dX0_openCoins_58 (by decide) ?_
          refine g_lv [2, 3, 0] [(0, .ref (rr Θ 1 o0 0)), (1, .int a13.1), (2, .int x16)] rfl ?_
          exact hk.out
        · refine g_aload_n C 0 dX0_openCoins_41 rfl rfl (n := 42) rfl ?_
          refine g_getI C kc_6 ft_6_2 ho0 (inb_lt hg14) (by decide) wm_114 dX0_openCoins_42 (n := 45) rfl ?_
          refine g_bipush C (20 : Int32) dX0_openCoins_45 (by decide) (n := 47) rfl ?_
          refine g_ic_lt C 52 dX0_openCoins_47 (by decide) (n := 50) rfl hk (fun hk => ?_) (fun hk => ?_)
          · refine g_iinc C 2 (fun x17 => [(1, .int x17), (3, .ref (rr Θ 6 o0 a13.2.toNatClampNeg)), (0, .ref (rr Θ 1 o0 0)), (2, .int a13.2)]) dX0_openCoins_52 rfl (v := (a13.1 + (1 : Int32))) rfl (by decide) (fun _ => rfl) (n := 55) rfl hk (fun x17 hk => ?_)
            refine g_iinc C 3 (fun x18 => [(2, .int x18), (1, .int x17), (3, .ref (rr Θ 6 o0 a13.2.toNatClampNeg)), (0, .ref (rr Θ 1 o0 0))]) dX0_openCoins_55 rfl (v := (a13.2 + (1 : Int32))) rfl (by decide) (fun _ => rfl) (n := 58) rfl hk (fun x18 hk => ?_)
            refine g_goto C 4 dX0_openCoins_58 (by decide) ?_
            refine g_lv [3, 1, 0] [(0, .ref (rr Θ 1 o0 0)), (1, .int x17), (2, .int x18)] rfl ?_
            exact hk.out
          · refine g_iconst C (-1 : Int32) dX0_openCoins_50 (by decide) (n := 51) rfl ?_
            exact retI hk.out dX0_openCoins_51
