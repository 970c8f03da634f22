def f_X10_isRight (p1 : Int32) (h : Mem) : Option (Bool) := obd (f_X10_rightPlace p1 h) (fun r1 => gd (inb p1 6) ((if (h 30 0 0 p1.toNatClampNeg) = (1 : Int32) then some true else (if r1 = (-4 : Int32) then some true else gd (inb p1 6) ((if (h 31 0 0 p1.toNatClampNeg) = ((20 : Int32) + r1) then some true else some false))))))
def rm_X10_isRight : Room := { frames := 1, cells := 0, slots := 0, locals := 24 }
set_option maxHeartbeats 4000000 in
set_option maxRecDepth 100000 in
theorem L_X10_isRight (Θ : Tht) (p1 : Int32) (h : Mem) (K : Bool × Mem → Prop) (hk : Ok (f_X10_isRight p1 h) (fun r => K (r, h))) : CB Θ yX10_isRight cX10_isRight 3 (some .boolean) rm_X10_isRight [.ref (rr Θ 24 0 0), .int p1] h K := by
  refine CB.of K [(0, .ref (rr Θ 24 0 0)), (1, .int p1)] (plainFor_of_name (by decide)) (Nat.le_of_ble_eq_true rfl) rfl (fun Γ C Rt => ?_)
  replace hk := rtBp Rt hk
  unfold f_X10_isRight at hk
  refine g_aload_n C 0 dX10_isRight_0 rfl rfl (n := 1) rfl ?_
  refine g_iload_n C 1 dX10_isRight_1 rfl rfl (n := 2) rfl ?_
  refine g_cVIp C hk (fun K hk => L_X10_rightPlace Θ p1 h K hk) lk_X10_203 kc_24 (by decide) (by decide) ⟨rfl, rfl⟩ ⟨Nat.le_of_ble_eq_true rfl, Nat.le_of_ble_eq_true rfl⟩ dX10_isRight_2 rfl rfl (Nat.le_of_ble_eq_true rfl) (n := 5) rfl (fun r1 hk => ?_)
  refine g_istore_n C [(2, .int r1), (0, .ref (rr Θ 24 0 0)), (1, .int p1)] dX10_isRight_5 rfl (by decide) rfl (n := 6) rfl ?_
  refine g_aload_n C 1 dX10_isRight_6 rfl rfl (n := 7) rfl ?_
  refine g_getR C kc_24 (rt_24_18 (tB Θ) 0) (by decide) (by decide) (by decide) wm_915 dX10_isRight_7 (n := 10) rfl ?_
  refine g_iload_n C 2 dX10_isRight_10 rfl rfl (n := 11) rfl ?_
  refine g_iald C an_30 (by decide) dX10_isRight_11 (n := 12) rfl hk (fun _ hk => ?_)
  refine g_iconst C (1 : Int32) dX10_isRight_12 (by decide) (n := 13) rfl ?_
  refine g_ic_eq C 35 dX10_isRight_13 (by decide) (n := 16) rfl hk (fun hk => ?_) (fun hk => ?_)
  · refine g_iconst C (1 : Int32) dX10_isRight_35 (by decide) (n := 36) rfl ?_
    refine g_goto C 40 dX10_isRight_36 (by decide) ?_
    exact retB true rfl hk.out dX10_isRight_40
  · refine g_iload_n C 0 dX10_isRight_16 rfl rfl (n := 17) rfl ?_
    refine g_bipush C (-4 : Int32) dX10_isRight_17 (by decide) (n := 19) rfl ?_
    refine g_ic_eq C 35 dX10_isRight_19 (by decide) (n := 22) rfl hk (fun hk => ?_) (fun hk => ?_)
    · refine g_iconst C (1 : Int32) dX10_isRight_35 (by decide) (n := 36) rfl ?_
      refine g_goto C 40 dX10_isRight_36 (by decide) ?_
      exact retB true rfl hk.out dX10_isRight_40
    · refine g_aload_n C 1 dX10_isRight_22 rfl rfl (n := 23) rfl ?_
      refine g_getR C kc_24 (rt_24_19 (tB Θ) 0) (by decide) (by decide) (by decide) wm_916 dX10_isRight_23 (n := 26) rfl ?_
      refine g_iload_n C 2 dX10_isRight_26 rfl rfl (n := 27) rfl ?_
      refine g_iald C an_31 (by decide) dX10_isRight_27 (n := 28) rfl hk (fun _ hk => ?_)
      refine g_bipush C (20 : Int32) dX10_isRight_28 (by decide) (n := 30) rfl ?_
      refine g_iload_n C 0 dX10_isRight_30 rfl rfl (n := 31) rfl ?_
      refine g_iadd C dX10_isRight_31 (n := 32) rfl ?_
      refine g_ic_ne C 39 dX10_isRight_32 (by decide) (n := 35) rfl hk (fun hk => ?_) (fun hk => ?_)
      · refine g_iconst C (0 : Int32) dX10_isRight_39 (by decide) (n := 40) rfl ?_
        exact retB false rfl hk.out dX10_isRight_40
      · refine g_iconst C (1 : Int32) dX10_isRight_35 (by decide) (n := 36) rfl ?_
        refine g_goto C 40 dX10_isRight_36 (by decide) ?_
        exact retB true rfl hk.out dX10_isRight_40
def f_X10_rightMany  (h : Mem) : Option (Int32) := obd (lp fu (fun a11 => (if (h 25 0 0 8) ≤ a11.2 then some (.inr a11.1) else obd (f_X10_isRight a11.2 h) (fun r12 => obd (f_X10_flag r12 h) (fun r13 => bnd (a11.1 + r13) (fun x14 => bnd (a11.2 + (1 : Int32)) (fun x15 => some (.inl (x14, x15)))))))) ((0 : Int32), (0 : Int32))) (fun e16 => some e16)
def rm_X10_rightMany : Room := { frames := 2, cells := 0, slots := 0, locals := 46 }
set_option maxHeartbeats 4000000 in
set_option maxRecDepth 100000 in
theorem L_X10_rightMany (Θ : Tht)  (h : Mem) (K : Int32 × Mem → Prop) (hk : Ok (f_X10_rightMany  h) (fun r => K (r, h))) : CI Θ yX10_rightMany cX10_rightMany 3 (some .int) rm_X10_rightMany [.ref (rr Θ 24 0 0)] h K := by
  refine CI.of K [(0, .ref (rr Θ 24 0 0))] (plainFor_of_name (by decide)) (Nat.le_of_ble_eq_true rfl) rfl (fun Γ C Rt => ?_)
  replace hk := rtIp Rt hk
  unfold f_X10_rightMany at hk
  refine g_iconst C (0 : Int32) dX10_rightMany_0 (by decide) (n := 1) rfl ?_
  refine g_istore_n C [(1, .int (0 : Int32)), (0, .ref (rr Θ 24 0 0))] dX10_rightMany_1 rfl (by decide) rfl (n := 2) rfl ?_
  refine g_iconst C (0 : Int32) dX10_rightMany_2 (by decide) (n := 3) rfl ?_
  refine g_istore_n C [(2, .int (0 : Int32)), (1, .int (0 : Int32)), (0, .ref (rr Θ 24 0 0))] dX10_rightMany_3 rfl (by decide) rfl (n := 4) rfl ?_
  refine g_lv [2, 1, 0] [(0, .ref (rr Θ 24 0 0)), (1, .int (0 : Int32)), (2, .int (0 : Int32))] rfl ?_
  refine Ok.join hk (fun e16 => G Θ Γ 32 [(1, .int e16)] [] h) (fun e16 hk => ?_) (fun hk => ?_)
  · refine g_iload_n C 0 dX10_rightMany_32 rfl rfl (n := 33) rfl ?_
    exact retI hk.out dX10_rightMany_33
  · refine Ok.loop (fun a11 => G Θ Γ 4 [(0, .ref (rr Θ 24 0 0)), (1, .int a11.1), (2, .int a11.2)] [] h) (fun a11 hk => ?_) _ _ hk
    refine g_iload_n C 2 dX10_rightMany_4 rfl rfl (n := 5) rfl ?_
    refine g_aload_n C 0 dX10_rightMany_5 rfl rfl (n := 6) rfl ?_
    refine g_getR C kc_24 (rt_24_0 (tB Θ) 0) (by decide) (by decide) (by decide) wm_897 dX10_rightMany_6 (n := 9) rfl ?_
    refine g_bipush C (8 : Int32) dX10_rightMany_9 (by decide) (n := 11) rfl ?_
    refine g_ialdL C 8 an_25 (by decide) (by decide) (by decide) dX10_rightMany_11 (n := 12) rfl ?_
    refine g_ic_ge C 32 dX10_rightMany_12 (by decide) (n := 15) rfl hk (fun hk => ?_) (fun hk => ?_)
    · refine g_lv [1] [(1, .int a11.1)] rfl ?_
      exact hk.out
    · refine g_iload_n C 1 dX10_rightMany_15 rfl rfl (n := 16) rfl ?_
      refine g_aload_n C 0 dX10_rightMany_16 rfl rfl (n := 17) rfl ?_
      refine g_iload_n C 2 dX10_rightMany_17 rfl rfl (n := 18) rfl ?_
      refine g_cVBp C hk (fun K hk => L_X10_isRight Θ a11.2 h K hk) lk_X10_206 kc_24 (by decide) (by decide) ⟨rfl, rfl⟩ ⟨Nat.le_of_ble_eq_true rfl, Nat.le_of_ble_eq_true rfl⟩ dX10_rightMany_18 rfl rfl (Nat.le_of_ble_eq_true rfl) (n := 21) rfl (fun r12 hk => ?_)
      refine g_cSIp C hk (fun K hk => L_X10_flag Θ r12 h K hk) lk_X10_158 ⟨rfl, rfl⟩ ⟨Nat.le_of_ble_eq_true rfl, Nat.le_of_ble_eq_true rfl⟩ dX10_rightMany_21 rfl rfl (Nat.le_of_ble_eq_true rfl) (n := 24) rfl (fun r13 hk => ?_)
      refine g_iadd C dX10_rightMany_24 (n := 25) rfl ?_
      refine g_nm hk (fun x14 hk => ?_)
      refine g_istore_n C [(1, .int x14), (0, .ref (rr Θ 24 0 0)), (2, .int a11.2)] dX10_rightMany_25 rfl (by decide) rfl (n := 26) rfl ?_
      refine g_iinc C 2 (fun x15 => [(2, .int x15), (1, .int x14), (0, .ref (rr Θ 24 0 0))]) dX10_rightMany_26 rfl (v := (a11.2 + (1 : Int32))) rfl (by decide) (fun _ => rfl) (n := 29) rfl hk (fun x15 hk => ?_)
      refine g_goto C 4 dX10_rightMany_29 (by decide) ?_
      refine g_lv [2, 1, 0] [(0, .ref (rr Θ 24 0 0)), (1, .int x14), (2, .int x15)] rfl ?_
      exact hk.out
def f_X10_sortedBehind  (h : Mem) : Option (Int32 × Mem) := obd (lp fu (fun a9 => (if (40 : Int32) < a9.1 then some (.inr (.inr a9.2)) else obd (f_X10_rightMany a9.2) (fun r10 => (if r10 = (a9.2 25 0 0 8) then some (.inr (.inl (a9.1, a9.2))) else obd (f_X10_steps a9.2) (fun h11 => bnd (a9.1 + (1 : Int32)) (fun x12 => some (.inl (x12, h11)))))))) ((0 : Int32), h)) (Sum.elim (fun r => some r) (fun e13 => some ((-4 : Int32), e13)))
def rm_X10_sortedBehind : Room := { frames := 4, cells := 0, slots := 0, locals := 91 }
set_option maxHeartbeats 4000000 in
set_option maxRecDepth 100000 in
theorem L_X10_sortedBehind (Θ : Tht)  (h : Mem) (K : Int32 × Mem → Prop) (hk : Ok (f_X10_sortedBehind  h) K) : CI Θ yX10_sortedBehind cX10_sortedBehind 2 (some .int) rm_X10_sortedBehind [.ref (rr Θ 24 0 0)] h K := by
  refine CI.of K [(0, .ref (rr Θ 24 0 0))] (plainFor_of_name (by decide)) (Nat.le_of_ble_eq_true rfl) rfl (fun Γ C Rt => ?_)
  replace hk := rtI Rt hk
  unfold f_X10_sortedBehind at hk
  refine g_iconst C (0 : Int32) dX10_sortedBehind_0 (by decide) (n := 1) rfl ?_
  refine g_istore_n C [(1, .int (0 : Int32)), (0, .ref (rr Θ 24 0 0))] dX10_sortedBehind_1 rfl (by decide) rfl (n := 2) rfl ?_
  refine g_lv [1, 0] [(0, .ref (rr Θ 24 0 0)), (1, .int (0 : Int32))] rfl ?_
  refine Ok.join hk (Sum.elim (PI Θ Γ cX10_sortedBehind) (fun e13 => G Θ Γ 34 [] [] e13)) (fun e hk => ?_) (fun hk => ?_)
  · rcases e with r | e13
    · exact hk.out
    · replace hk := ok_inr hk
      refine g_bipush C (-4 : Int32) dX10_sortedBehind_34 (by decide) (n := 36) rfl ?_
      exact retI hk.out dX10_sortedBehind_36
  · refine Ok.loop (fun a9 => G Θ Γ 2 [(0, .ref (rr Θ 24 0 0)), (1, .int a9.1)] [] a9.2) (fun a9 hk => ?_) _ _ hk
    refine g_iload_n C 1 dX10_sortedBehind_2 rfl rfl (n := 3) rfl ?_
    refine g_bipush C (40 : Int32) dX10_sortedBehind_3 (by decide) (n := 5) rfl ?_
    refine g_ic_gt C 34 dX10_sortedBehind_5 (by decide) (n := 8) rfl hk (fun hk => ?_) (fun hk => ?_)
    · refine g_lv [] [] rfl ?_
      exact hk.out
    · refine g_aload_n C 0 dX10_sortedBehind_8 rfl rfl (n := 9) rfl ?_
      refine g_cVIp C hk (fun K hk => L_X10_rightMany Θ a9.2 K hk) lk_X10_210 kc_24 (by decide) (by decide) ⟨rfl, rfl⟩ ⟨Nat.le_of_ble_eq_true rfl, Nat.le_of_ble_eq_true rfl⟩ dX10_sortedBehind_9 rfl rfl (Nat.le_of_ble_eq_true rfl) (n := 12) rfl (fun r10 hk => ?_)
      refine g_aload_n C 0 dX10_sortedBehind_12 rfl rfl (n := 13) rfl ?_
      refine g_getR C kc_24 (rt_24_0 (tB Θ) 0) (by decide) (by decide) (by decide) wm_897 dX10_sortedBehind_13 (n := 16) rfl ?_
      refine g_bipush C (8 : Int32) dX10_sortedBehind_16 (by decide) (n := 18) rfl ?_
      refine g_ialdL C 8 an_25 (by decide) (by decide) (by decide) dX10_sortedBehind_18 (n := 19) rfl ?_
      refine g_ic_ne C 24 dX10_sortedBehind_19 (by decide) (n := 22) rfl hk (fun hk => ?_) (fun hk => ?_)
      · refine g_aload_n C 0 dX10_sortedBehind_24 rfl rfl (n := 25) rfl ?_
        refine g_cVV C hk (fun K hk => L_X10_steps Θ a9.2 K hk) lk_X10_213 kc_24 (by decide) (by decide) ⟨rfl, rfl⟩ ⟨Nat.le_of_ble_eq_true rfl, Nat.le_of_ble_eq_true rfl⟩ dX10_sortedBehind_25 rfl rfl (Nat.le_of_ble_eq_true rfl) (n := 28) rfl (fun h11 hk => ?_)
        refine g_iinc C 1 (fun x12 => [(1, .int x12), (0, .ref (rr Θ 24 0 0))]) dX10_sortedBehind_28 rfl (v := (a9.1 + (1 : Int32))) rfl (by decide) (fun _ => rfl) (n := 31) rfl hk (fun x12 hk => ?_)
        refine g_goto C 2 dX10_sortedBehind_31 (by decide) ?_
        refine g_lv [1, 0] [(0, .ref (rr Θ 24 0 0)), (1, .int x12)] rfl ?_
        exact hk.out
      · refine g_iload_n C 1 dX10_sortedBehind_22 rfl rfl (n := 23) rfl ?_
        exact retI hk.out dX10_sortedBehind_23
def f_X10_better (p1 : Int32) (h : Mem) : Option (Int32 × Mem) := obd (f_X10_in ((p1).toInt64) (0 : Int64) (1 : Int64) h) (fun r1 => (if r1 = true then obd (f_X10_starts h) (fun h2 => ob2 (f_X10_sortedBehind h2) (fun r3 h4 => obd (lp fu (fun a71 => (if (a71.2.2.2 24 2 0 0) ≤ a71.2.2.1 then some (.inr (a71.1, a71.2.1, a71.2.2.2)) else obd (lp fu (fun a92 => (if (9 : Int32) < a92.2.2.1 then some (.inr (a92.1, a92.2.1, a92.2.2.2)) else obd (f_X10_starts a92.2.2.2) (fun h93 => gd (inb a71.2.2.1 8) ((if (h93 29 0 0 a71.2.2.1.toNatClampNeg) = a92.2.2.1 then bnd (a92.2.2.1 + (1 : Int32)) (fun x94 => some (.inl (a92.1, a92.2.1, x94, h93))) else gd (inb a71.2.2.1 8) (bnd (up h93 29 0 0 a71.2.2.1.toNatClampNeg a92.2.2.1) (fun h95 => ob2 (f_X10_sortedBehind h95) (fun r96 h97 => obd ((if r96 = (-4 : Int32) then some false else (if a92.1 = (-4 : Int32) then some true else (if a92.1 ≤ r96 then some false else some true)))) (fun a98 => obd ((if a98 = true then some (((10 : Int32) * a71.2.2.1) + a92.2.2.1) else some a92.2.1)) (fun a99 => (if a98 = true then bnd (a92.2.2.1 + (1 : Int32)) (fun x101 => some (.inl (r96, a99, x101, h97))) else bnd (a92.2.2.1 + (1 : Int32)) (fun x100 => some (.inl (a92.1, a99, x100, h97)))))))))))))) (a71.1, a71.2.1, (1 : Int32), a71.2.2.2)) (fun e102 => bnd (a71.2.2.1 + (1 : Int32)) (fun x103 => some (.inl (e102.1, e102.2.1, x103, e102.2.2)))))) (r3, (-4 : Int32), (0 : Int32), h4)) (fun e104 => (if e104.2.1 = (-4 : Int32) then some ((-4 : Int32), e104.2.2) else (if p1 = 0 then some (e104.2.1, e104.2.2) else some (e104.1, e104.2.2)))))) else some ((-1 : Int32), h)))
def rm_X10_better : Room := { frames := 5, cells := 0, slots := 0, locals := 112 }
set_option maxHeartbeats 4000000 in
set_option maxRecDepth 100000 in
theorem L_X10_better (Θ : Tht) (p1 : Int32) (h : Mem) (K : Int32 × Mem → Prop) (hk : Ok (f_X10_better p1 h) K) : CI Θ yX10_better cX10_better 8 (some .int) rm_X10_better [.ref (rr Θ 24 0 0), .int p1] h K := by
  refine CI.of K [(0, .ref (rr Θ 24 0 0)), (1, .int p1)] (plainFor_of_name (by decide)) (Nat.le_of_ble_eq_true rfl) rfl (fun Γ C Rt => ?_)
  replace hk := rtI Rt hk
  unfold f_X10_better at hk
  refine g_iload_n C 1 dX10_better_0 rfl rfl (n := 1) rfl ?_
  refine g_i2l C dX10_better_1 (n := 2) rfl ?_
  refine g_lconst C (0 : Int64) dX10_better_2 (by decide) (n := 3) rfl ?_
  refine g_lconst C (1 : Int64) dX10_better_3 (by decide) (n := 4) rfl ?_
  refine g_cSBp C hk (fun K hk => L_X10_in Θ ((p1).toInt64) (0 : Int64) (1 : Int64) h K hk) lk_X10_95 ⟨rfl, rfl⟩ ⟨Nat.le_of_ble_eq_true rfl, Nat.le_of_ble_eq_true rfl⟩ dX10_better_4 rfl rfl (Nat.le_of_ble_eq_true rfl) (n := 7) rfl (fun r1 hk => ?_)
  refine g_bt C 12 dX10_better_7 (by decide) (n := 10) rfl hk (fun hk => ?_) (fun hk => ?_)
  · refine g_aload_n C 0 dX10_better_12 rfl rfl (n := 13) rfl ?_
    refine g_cVV C hk (fun K hk => L_X10_starts Θ h K hk) lk_X10_222 kc_24 (by decide) (by decide) ⟨rfl, rfl⟩ ⟨Nat.le_of_ble_eq_true rfl, Nat.le_of_ble_eq_true rfl⟩ dX10_better_13 rfl rfl (Nat.le_of_ble_eq_true rfl) (n := 16) rfl (fun h2 hk => ?_)
    refine g_aload_n C 0 dX10_better_16 rfl rfl (n := 17) rfl ?_
    refine g_cVI C hk (fun K hk => L_X10_sortedBehind Θ h2 K hk) lk_X10_240 kc_24 (by decide) (by decide) ⟨rfl, rfl⟩ ⟨Nat.le_of_ble_eq_true rfl, Nat.le_of_ble_eq_true rfl⟩ dX10_better_17 rfl rfl (Nat.le_of_ble_eq_true rfl) (n := 20) rfl (fun r3 h4 hk => ?_)
    refine g_istore_n C [(2, .int r3), (0, .ref (rr Θ 24 0 0)), (1, .int p1)] dX10_better_20 rfl (by decide) rfl (n := 21) rfl ?_
    refine g_bipush C (-4 : Int32) dX10_better_21 (by decide) (n := 23) rfl ?_
    refine g_istore_n C [(3, .int (-4 : Int32)), (2, .int r3), (0, .ref (rr Θ 24 0 0)), (1, .int p1)] dX10_better_23 rfl (by decide) rfl (n := 24) rfl ?_
    refine g_iconst C (0 : Int32) dX10_better_24 (by decide) (n := 25) rfl ?_
    refine g_istore C [(4, .int (0 : Int32)), (3, .int (-4 : Int32)), (2, .int r3), (0, .ref (rr Θ 24 0 0)), (1, .int p1)] dX10_better_25 (by decide) rfl (n := 27) rfl ?_
    refine g_lv [3, 4, 2, 1, 0] [(0, .ref (rr Θ 24 0 0)), (1, .int p1), (2, .int r3), (3, .int (-4 : Int32)), (4, .int (0 : Int32))] rfl ?_
    refine Ok.join hk (fun e104 => G Θ Γ 145 [(1, .int p1), (2, .int e104.1), (3, .int e104.2.1)] [] e104.2.2) (fun e104 hk => ?_) (fun hk => ?_)
    · refine g_iload_n C 2 dX10_better_145 rfl rfl (n := 146) rfl ?_
      refine g_bipush C (-4 : Int32) dX10_better_146 (by decide) (n := 148) rfl ?_
      refine g_ic_ne C 156 dX10_better_148 (by decide) (n := 151) rfl hk (fun hk => ?_) (fun hk => ?_)
      · refine g_iload_n C 0 dX10_better_156 rfl rfl (n := 157) rfl ?_
        refine g_if_ne C 164 dX10_better_157 (by decide) (n := 160) rfl hk (fun hk => ?_) (fun hk => ?_)
        · refine g_iload_n C 1 dX10_better_164 rfl rfl (n := 165) rfl ?_
          exact retI hk.out dX10_better_165
        · refine g_iload_n C 2 dX10_better_160 rfl rfl (n := 161) rfl ?_
          refine g_goto C 165 dX10_better_161 (by decide) ?_
          exact retI hk.out dX10_better_165
      · refine g_bipush C (-4 : Int32) dX10_better_151 (by decide) (n := 153) rfl ?_
        refine g_goto C 165 dX10_better_153 (by decide) ?_
        exact retI hk.out dX10_better_165
    · refine Ok.loop (fun a71 => G Θ Γ 27 [(0, .ref (rr Θ 24 0 0)), (1, .int p1), (2, .int a71.1), (3, .int a71.2.1), (4, .int a71.2.2.1)] [] a71.2.2.2) (fun a71 hk => ?_) _ _ hk
      refine g_iload C 4 dX10_better_27 rfl (n := 29) rfl ?_
      refine g_aload_n C 0 dX10_better_29 rfl rfl (n := 30) rfl ?_
      refine g_getI C kc_24 ft_24_2 (by decide) (by decide) (by decide) wm_899 dX10_better_30 (n := 33) rfl ?_
      refine g_ic_ge C 145 dX10_better_33 (by decide) (n := 36) rfl hk (fun hk => ?_) (fun hk => ?_)
      · refine g_lv [1, 2, 3] [(1, .int p1), (2, .int a71.1), (3, .int a71.2.1)] rfl ?_
        exact hk.out
      · refine g_iconst C (1 : Int32) dX10_better_36 (by decide) (n := 37) rfl ?_
        refine g_istore C [(5, .int (1 : Int32)), (0, .ref (rr Θ 24 0 0)), (1, .int p1), (2, .int a71.1), (3, .int a71.2.1), (4, .int a71.2.2.1)] dX10_better_37 (by decide) rfl (n := 39) rfl ?_
        refine g_lv [1, 2, 3, 4, 5, 0] [(0, .ref (rr Θ 24 0 0)), (1, .int p1), (2, .int a71.1), (3, .int a71.2.1), (4, .int a71.2.2.1), (5, .int (1 : Int32))] rfl ?_
        refine Ok.join hk (fun e102 => G Θ Γ 139 [(0, .ref (rr Θ 24 0 0)), (1, .int p1), (2, .int e102.1), (3, .int e102.2.1), (4, .int a71.2.2.1)] [] e102.2.2) (fun e102 hk => ?_) (fun hk => ?_)
        · refine g_iinc C 4 (fun x103 => [(4, .int x103), (0, .ref (rr Θ 24 0 0)), (1, .int p1), (2, .int e102.1), (3, .int e102.2.1)]) dX10_better_139 rfl (v := (a71.2.2.1 + (1 : Int32))) rfl (by decide) (fun _ => rfl) (n := 142) rfl hk (fun x103 hk => ?_)
          refine g_goto C 27 dX10_better_142 (by decide) ?_
          refine g_lv [1, 2, 3, 4, 0] [(0, .ref (rr Θ 24 0 0)), (1, .int p1), (2, .int e102.1), (3, .int e102.2.1), (4, .int x103)] rfl ?_
          exact hk.out
        · refine Ok.loop (fun a92 => G Θ Γ 39 [(0, .ref (rr Θ 24 0 0)), (1, .int p1), (2, .int a92.1), (3, .int a92.2.1), (4, .int a71.2.2.1), (5, .int a92.2.2.1)] [] a92.2.2.2) (fun a92 hk => ?_) _ _ hk
          refine g_iload C 5 dX10_better_39 rfl (n := 41) rfl ?_
          refine g_bipush C (9 : Int32) dX10_better_41 (by decide) (n := 43) rfl ?_
          refine g_ic_gt C 139 dX10_better_43 (by decide) (n := 46) rfl hk (fun hk => ?_) (fun hk => ?_)
          · refine g_lv [0, 1, 2, 3, 4] [(0, .ref (rr Θ 24 0 0)), (1, .int p1), (2, .int a92.1), (3, .int a92.2.1), (4, .int a71.2.2.1)] rfl ?_
            exact hk.out
          · refine g_aload_n C 0 dX10_better_46 rfl rfl (n := 47) rfl ?_
            refine g_cVV C hk (fun K hk => L_X10_starts Θ a92.2.2.2 K hk) lk_X10_222 kc_24 (by decide) (by decide) ⟨rfl, rfl⟩ ⟨Nat.le_of_ble_eq_true rfl, Nat.le_of_ble_eq_true rfl⟩ dX10_better_47 rfl rfl (Nat.le_of_ble_eq_true rfl) (n := 50) rfl (fun h93 hk => ?_)
            refine g_aload_n C 0 dX10_better_50 rfl rfl (n := 51) rfl ?_
            refine g_getR C kc_24 (rt_24_17 (tB Θ) 0) (by decide) (by decide) (by decide) wm_914 dX10_better_51 (n := 54) rfl ?_
            refine g_iload C 4 dX10_better_54 rfl (n := 56) rfl ?_
            refine g_iald C an_29 (by decide) dX10_better_56 (n := 57) rfl hk (fun _ hk => ?_)
            refine g_iload C 5 dX10_better_57 rfl (n := 59) rfl ?_
            refine g_ic_eq C 133 dX10_better_59 (by decide) (n := 62) rfl hk (fun hk => ?_) (fun hk => ?_)
            · refine g_iinc C 5 (fun x94 => [(5, .int x94), (0, .ref (rr Θ 24 0 0)), (1, .int p1), (2, .int a92.1), (3, .int a92.2.1), (4, .int a71.2.2.1)]) dX10_better_133 rfl (v := (a92.2.2.1 + (1 : Int32))) rfl (by decide) (fun _ => rfl) (n := 136) rfl hk (fun x94 hk => ?_)
              refine g_goto C 39 dX10_better_136 (by decide) ?_
              refine g_lv [1, 2, 3, 4, 5, 0] [(0, .ref (rr Θ 24 0 0)), (1, .int p1), (2, .int a92.1), (3, .int a92.2.1), (4, .int a71.2.2.1), (5, .int x94)] rfl ?_
              exact hk.out
            · refine g_aload_n C 0 dX10_better_62 rfl rfl (n := 63) rfl ?_
              refine g_getR C kc_24 (rt_24_17 (tB Θ) 0) (by decide) (by decide) (by decide) wm_914 dX10_better_63 (n := 66) rfl ?_
              refine g_iload C 4 dX10_better_66 rfl (n := 68) rfl ?_
              refine g_iload C 5 dX10_better_68 rfl (n := 70) rfl ?_
              refine g_iast C an_29 (by decide) dX10_better_70 (n := 71) rfl hk (fun _ h95 hk => ?_)
              refine g_aload_n C 0 dX10_better_71 rfl rfl (n := 72) rfl ?_
              refine g_cVI C hk (fun K hk => L_X10_sortedBehind Θ h95 K hk) lk_X10_240 kc_24 (by decide) (by decide) ⟨rfl, rfl⟩ ⟨Nat.le_of_ble_eq_true rfl, Nat.le_of_ble_eq_true rfl⟩ dX10_better_72 rfl rfl (Nat.le_of_ble_eq_true rfl) (n := 75) rfl (fun r96 h97 hk => ?_)
              refine g_istore C [(6, .int r96), (0, .ref (rr Θ 24 0 0)), (1, .int p1), (2, .int a92.1), (3, .int a92.2.1), (4, .int a71.2.2.1), (5, .int a92.2.2.1)] dX10_better_75 (by decide) rfl (n := 77) rfl ?_
              refine g_iload C 0 dX10_better_77 rfl (n := 79) rfl ?_
              refine g_bipush C (-4 : Int32) dX10_better_79 (by decide) (n := 81) rfl ?_
              refine Ok.join hk (fun a98 => G Θ Γ 101 [(0, .ref (rr Θ 24 0 0)), (1, .int p1), (2, .int a92.1), (3, .int a92.2.1), (4, .int a71.2.2.1), (5, .int a92.2.2.1), (6, .int r96)] [.int (b2i a98)] h97) (fun a98 hk => ?_) (fun hk => ?_)
              · refine g_istore C [(7, .int (b2i a98)), (0, .ref (rr Θ 24 0 0)), (1, .int p1), (2, .int a92.1), (3, .int a92.2.1), (4, .int a71.2.2.1), (5, .int a92.2.2.1), (6, .int r96)] dX10_better_101 (by decide) rfl (n := 103) rfl ?_
                refine g_iload C 0 dX10_better_103 rfl (n := 105) rfl ?_
                refine Ok.join hk (fun a99 => G Θ Γ 120 [(0, .ref (rr Θ 24 0 0)), (1, .int p1), (2, .int a92.1), (4, .int a71.2.2.1), (5, .int a92.2.2.1), (6, .int r96), (7, .int (b2i a98))] [.int a99] h97) (fun a99 hk => ?_) (fun hk => ?_)
                · refine g_istore_n C [(3, .int a99), (0, .ref (rr Θ 24 0 0)), (1, .int p1), (2, .int a92.1), (4, .int a71.2.2.1), (5, .int a92.2.2.1), (6, .int r96), (7, .int (b2i a98))] dX10_better_120 rfl (by decide) rfl (n := 121) rfl ?_
                  refine g_iload C 7 dX10_better_121 rfl (n := 123) rfl ?_
                  refine g_bf C 131 dX10_better_123 (by decide) (n := 126) rfl hk (fun hk => ?_) (fun hk => ?_)
                  · refine g_iload_n C 3 dX10_better_131 rfl rfl (n := 132) rfl ?_
                    refine g_istore_n C [(2, .int a92.1), (3, .int a99), (0, .ref (rr Θ 24 0 0)), (1, .int p1), (4, .int a71.2.2.1), (5, .int a92.2.2.1), (6, .int r96), (7, .int (b2i a98))] dX10_better_132 rfl (by decide) rfl (n := 133) rfl ?_
                    refine g_iinc C 5 (fun x100 => [(5, .int x100), (2, .int a92.1), (3, .int a99), (0, .ref (rr Θ 24 0 0)), (1, .int p1), (4, .int a71.2.2.1), (6, .int r96), (7, .int (b2i a98))]) dX10_better_133 rfl (v := (a92.2.2.1 + (1 : Int32))) rfl (by decide) (fun _ => rfl) (n := 136) rfl hk (fun x100 hk => ?_)
                    refine g_goto C 39 dX10_better_136 (by decide) ?_
                    refine g_lv [3, 4, 1, 2, 5, 0] [(0, .ref (rr Θ 24 0 0)), (1, .int p1), (2, .int a92.1), (3, .int a99), (4, .int a71.2.2.1), (5, .int x100)] rfl ?_
                    exact hk.out
                  · refine g_iload C 6 dX10_better_126 rfl (n := 128) rfl ?_
                    refine g_goto C 132 dX10_better_128 (by decide) ?_
                    refine g_istore_n C [(2, .int r96), (3, .int a99), (0, .ref (rr Θ 24 0 0)), (1, .int p1), (4, .int a71.2.2.1), (5, .int a92.2.2.1), (6, .int r96), (7, .int (b2i a98))] dX10_better_132 rfl (by decide) rfl (n := 133) rfl ?_
                    refine g_iinc C 5 (fun x101 => [(5, .int x101), (2, .int r96), (3, .int a99), (0, .ref (rr Θ 24 0 0)), (1, .int p1), (4, .int a71.2.2.1), (6, .int r96), (7, .int (b2i a98))]) dX10_better_133 rfl (v := (a92.2.2.1 + (1 : Int32))) rfl (by decide) (fun _ => rfl) (n := 136) rfl hk (fun x101 hk => ?_)
                    refine g_goto C 39 dX10_better_136 (by decide) ?_
                    refine g_lv [3, 4, 1, 2, 5, 0] [(0, .ref (rr Θ 24 0 0)), (1, .int p1), (2, .int r96), (3, .int a99), (4, .int a71.2.2.1), (5, .int x101)] rfl ?_
                    exact hk.out
                · refine g_bf C 119 dX10_better_105 (by decide) (n := 108) rfl hk (fun hk => ?_) (fun hk => ?_)
                  · refine g_iload_n C 4 dX10_better_119 rfl rfl (n := 120) rfl ?_
                    refine g_lv [1, 2, 3, 5, 6, 7, 0] [(0, .ref (rr Θ 24 0 0)), (1, .int p1), (2, .int a92.1), (4, .int a71.2.2.1), (5, .int a92.2.2.1), (6, .int r96), (7, .int (b2i a98))] rfl ?_
                    exact hk.out
                  · refine g_bipush C (10 : Int32) dX10_better_108 (by decide) (n := 110) rfl ?_
                    refine g_iload C 5 dX10_better_110 rfl (n := 112) rfl ?_
                    refine g_imul C dX10_better_112 (n := 113) rfl ?_
                    refine g_iload C 6 dX10_better_113 rfl (n := 115) rfl ?_
                    refine g_iadd C dX10_better_115 (n := 116) rfl ?_
                    refine g_goto C 120 dX10_better_116 (by decide) ?_
                    refine g_lv [1, 2, 3, 5, 6, 7, 0] [(0, .ref (rr Θ 24 0 0)), (1, .int p1), (2, .int a92.1), (4, .int a71.2.2.1), (5, .int a92.2.2.1), (6, .int r96), (7, .int (b2i a98))] rfl ?_
                    exact hk.out
              · refine g_ic_eq C 100 dX10_better_81 (by decide) (n := 84) rfl hk (fun hk => ?_) (fun hk => ?_)
                · refine g_iconst C (0 : Int32) dX10_better_100 (by decide) (n := 101) rfl ?_
                  refine g_lv [1, 2, 3, 4, 5, 6, 0] [(0, .ref (rr Θ 24 0 0)), (1, .int p1), (2, .int a92.1), (3, .int a92.2.1), (4, .int a71.2.2.1), (5, .int a92.2.2.1), (6, .int r96)] rfl ?_
                  exact hk.out
                · refine g_iload_n C 3 dX10_better_84 rfl rfl (n := 85) rfl ?_
                  refine g_bipush C (-4 : Int32) dX10_better_85 (by decide) (n := 87) rfl ?_
                  refine g_ic_eq C 96 dX10_better_87 (by decide) (n := 90) rfl hk (fun hk => ?_) (fun hk => ?_)
                  · refine g_iconst C (1 : Int32) dX10_better_96 (by decide) (n := 97) rfl ?_
                    refine g_goto C 101 dX10_better_97 (by decide) ?_
                    refine g_lv [1, 2, 3, 4, 5, 6, 0] [(0, .ref (rr Θ 24 0 0)), (1, .int p1), (2, .int a92.1), (3, .int a92.2.1), (4, .int a71.2.2.1), (5, .int a92.2.2.1), (6, .int r96)] rfl ?_
                    exact hk.out
                  · refine g_iload C 0 dX10_better_90 rfl (n := 92) rfl ?_
                    refine g_iload_n C 3 dX10_better_92 rfl rfl (n := 93) rfl ?_
                    refine g_ic_ge C 100 dX10_better_93 (by decide) (n := 96) rfl hk (fun hk => ?_) (fun hk => ?_)
                    · refine g_iconst C (0 : Int32) dX10_better_100 (by decide) (n := 101) rfl ?_
                      refine g_lv [1, 2, 3, 4, 5, 6, 0] [(0, .ref (rr Θ 24 0 0)), (1, .int p1), (2, .int a92.1), (3, .int a92.2.1), (4, .int a71.2.2.1), (5, .int a92.2.2.1), (6, .int r96)] rfl ?_
                      exact hk.out
                    · refine g_iconst C (1 : Int32) dX10_better_96 (by decide) (n := 97) rfl ?_
                      refine g_goto C 101 dX10_better_97 (by decide) ?_
                      refine g_lv [1, 2, 3, 4, 5, 6, 0] [(0, .ref (rr Θ 24 0 0)), (1, .int p1), (2, .int a92.1), (3, .int a92.2.1), (4, .int a71.2.2.1), (5, .int a92.2.2.1), (6, .int r96)] rfl ?_
                      exact hk.out
  · refine g_iconst C (-1 : Int32) dX10_better_10 (by decide) (n := 11) rfl ?_
    exact retI hk.out dX10_better_11
def f_X10_coin (p1 : Int32) (p2 : Int32) (h : Mem) : Option (Int32 × Mem) := obd (f_X10_isCoin p1 h) (fun r1 => (if r1 = true then (if p2 = (0 : Int32) then gd (inb ((9 : Int32) + p1) 237) (some ((h 25 0 0 ((9 : Int32) + p1).toNatClampNeg), h)) else if p2 = (1 : Int32) then gd (inb ((15 : Int32) + p1) 237) (some ((h 25 0 0 ((15 : Int32) + p1).toNatClampNeg), h)) else if p2 = (2 : Int32) then gd (inb ((21 : Int32) + p1) 237) (some ((h 25 0 0 ((21 : Int32) + p1).toNatClampNeg), h)) else if p2 = (3 : Int32) then obd (f_X10_starts h) (fun h2 => obd (f_X10_isRight p1 h2) (fun r3 => obd (f_X10_flag r3 h2) (fun r4 => some (r4, h2)))) else some ((-1 : Int32), h)) else some ((-1 : Int32), h)))
def rm_X10_coin : Room := { frames := 2, cells := 0, slots := 0, locals := 46 }
set_option maxHeartbeats 4000000 in
set_option maxRecDepth 100000 in
theorem L_X10_coin (Θ : Tht) (p1 : Int32) (p2 : Int32) (h : Mem) (K : Int32 × Mem → Prop) (hk : Ok (f_X10_coin p1 p2 h) K) : CI Θ yX10_coin cX10_coin 3 (some .int) rm_X10_coin [.ref (rr Θ 24 0 0), .int p1, .int p2] h K := by
  refine CI.of K [(0, .ref (rr Θ 24 0 0)), (1, .int p1), (2, .int p2)] (plainFor_of_name (by decide)) (Nat.le_of_ble_eq_true rfl) rfl (fun Γ C Rt => ?_)
  replace hk := rtI Rt hk
  unfold f_X10_coin at hk
  refine g_aload_n C 0 dX10_coin_0 rfl rfl (n := 1) rfl ?_
  refine g_iload_n C 1 dX10_coin_1 rfl rfl (n := 2) rfl ?_
  refine g_cVBp C hk (fun K hk => L_X10_isCoin Θ p1 h K hk) lk_X10_219 kc_24 (by decide) (by decide) ⟨rfl, rfl⟩ ⟨Nat.le_of_ble_eq_true rfl, Nat.le_of_ble_eq_true rfl⟩ dX10_coin_2 rfl rfl (Nat.le_of_ble_eq_true rfl) (n := 5) rfl (fun r1 hk => ?_)
  refine g_bt C 10 dX10_coin_5 (by decide) (n := 8) rfl hk (fun hk => ?_) (fun hk => ?_)
  · refine g_iload_n C 2 dX10_coin_10 rfl rfl (n := 11) rfl ?_
    refine g_sw C (0 : Int32) 40 dX10_coin_11 (by decide) (by decide) rfl (by decide) hk (fun hk => ?_) (fun hc5 hk => ?_)
    · refine g_aload_n C 0 dX10_coin_40 rfl rfl (n := 41) rfl ?_
      refine g_getR C kc_24 (rt_24_0 (tB Θ) 0) (by decide) (by decide) (by decide) wm_897 dX10_coin_41 (n := 44) rfl ?_
      refine g_bipush C (9 : Int32) dX10_coin_44 (by decide) (n := 46) rfl ?_
      refine g_iload_n C 1 dX10_coin_46 rfl rfl (n := 47) rfl ?_
      refine g_iadd C dX10_coin_47 (n := 48) rfl ?_
      refine g_iald C an_25 (by decide) dX10_coin_48 (n := 49) rfl hk (fun _ hk => ?_)
      exact retI hk.out dX10_coin_49
    refine g_sw C (1 : Int32) 50 dX10_coin_11 (by decide) (by decide) rfl (by decide) hk (fun hk => ?_) (fun hc6 hk => ?_)
    · refine g_aload_n C 0 dX10_coin_50 rfl rfl (n := 51) rfl ?_
      refine g_getR C kc_24 (rt_24_0 (tB Θ) 0) (by decide) (by decide) (by decide) wm_897 dX10_coin_51 (n := 54) rfl ?_
      refine g_bipush C (15 : Int32) dX10_coin_54 (by decide) (n := 56) rfl ?_
      refine g_iload_n C 1 dX10_coin_56 rfl rfl (n := 57) rfl ?_
      refine g_iadd C dX10_coin_57 (n := 58) rfl ?_
      refine g_iald C an_25 (by decide) dX10_coin_58 (n := 59) rfl hk (fun _ hk => ?_)
      exact retI hk.out dX10_coin_59
    refine g_sw C (2 : Int32) 60 dX10_coin_11 (by decide) (by decide) rfl (by decide) hk (fun hk => ?_) (fun hc7 hk => ?_)
    · refine g_aload_n C 0 dX10_coin_60 rfl rfl (n := 61) rfl ?_
      refine g_getR C kc_24 (rt_24_0 (tB Θ) 0) (by decide) (by decide) (by decide) wm_897 dX10_coin_61 (n := 64) rfl ?_
      refine g_bipush C (21 : Int32) dX10_coin_64 (by decide) (n := 66) rfl ?_
      refine g_iload_n C 1 dX10_coin_66 rfl rfl (n := 67) rfl ?_
      refine g_iadd C dX10_coin_67 (n := 68) rfl ?_
      refine g_iald C an_25 (by decide) dX10_coin_68 (n := 69) rfl hk (fun _ hk => ?_)
      exact retI hk.out dX10_coin_69
    refine g_sw C (3 : Int32) 70 dX10_coin_11 (by decide) (by decide) rfl (by decide) hk (fun hk => ?_) (fun hc8 hk => ?_)
    · refine g_aload_n C 0 dX10_coin_70 rfl rfl (n := 71) rfl ?_
      refine g_cVV C hk (fun K hk => L_X10_starts Θ h K hk) lk_X10_222 kc_24 (by decide) (by decide) ⟨rfl, rfl⟩ ⟨Nat.le_of_ble_eq_true rfl, Nat.le_of_ble_eq_true rfl⟩ dX10_coin_71 rfl rfl (Nat.le_of_ble_eq_true rfl) (n := 74) rfl (fun h2 hk => ?_)
      refine g_aload_n C 0 dX10_coin_74 rfl rfl (n := 75) rfl ?_
      refine g_iload_n C 1 dX10_coin_75 rfl rfl (n := 76) rfl ?_
      refine g_cVBp C hk (fun K hk => L_X10_isRight Θ p1 h2 K hk) lk_X10_206 kc_24 (by decide) (by decide) ⟨rfl, rfl⟩ ⟨Nat.le_of_ble_eq_true rfl, Nat.le_of_ble_eq_true rfl⟩ dX10_coin_76 rfl rfl (Nat.le_of_ble_eq_true rfl) (n := 79) rfl (fun r3 hk => ?_)
      refine g_cSIp C hk (fun K hk => L_X10_flag Θ r3 h2 K hk) lk_X10_158 ⟨rfl, rfl⟩ ⟨Nat.le_of_ble_eq_true rfl, Nat.le_of_ble_eq_true rfl⟩ dX10_coin_79 rfl rfl (Nat.le_of_ble_eq_true rfl) (n := 82) rfl (fun r4 hk => ?_)
      exact retI hk.out dX10_coin_82
    refine g_swd C 4 83 dX10_coin_11 (by decide) (by decide) (sw_s (sw_s (sw_s (sw_0 hc5) hc6) hc7) hc8) (by decide) ?_
    refine g_iconst C (-1 : Int32) dX10_coin_83 (by decide) (n := 84) rfl ?_
    exact retI hk.out dX10_coin_84
  · refine g_iconst C (-1 : Int32) dX10_coin_8 (by decide) (n := 9) rfl ?_
    exact retI hk.out dX10_coin_9
def f_X10_manyAt (p1 : Int32) (h : Mem) : Option (Int32) := obd (lp fu (fun a11 => (if (h 25 0 0 8) ≤ a11.2 then some (.inr a11.1) else gd (inb ((21 : Int32) + a11.2) 237) (obd ((if (h 25 0 0 ((21 : Int32) + a11.2).toNatClampNeg) = p1 then some true else some false)) (fun a12 => obd (f_X10_flag a12 h) (fun r13 => bnd (a11.1 + r13) (fun x14 => bnd (a11.2 + (1 : Int32)) (fun x15 => some (.inl (x14, x15))))))))) ((0 : Int32), (0 : Int32))) (fun e16 => some e16)
def rm_X10_manyAt : Room := { frames := 1, cells := 0, slots := 0, locals := 20 }
set_option maxHeartbeats 4000000 in
set_option maxRecDepth 100000 in
theorem L_X10_manyAt (Θ : Tht) (p1 : Int32) (h : Mem) (K : Int32 × Mem → Prop) (hk : Ok (f_X10_manyAt p1 h) (fun r => K (r, h))) : CI Θ yX10_manyAt cX10_manyAt 4 (some .int) rm_X10_manyAt [.ref (rr Θ 24 0 0), .int p1] h K := by
  refine CI.of K [(0, .ref (rr Θ 24 0 0)), (1, .int p1)] (plainFor_of_name (by decide)) (Nat.le_of_ble_eq_true rfl) rfl (fun Γ C Rt => ?_)
  replace hk := rtIp Rt hk
  unfold f_X10_manyAt at hk
  refine g_iconst C (0 : Int32) dX10_manyAt_0 (by decide) (n := 1) rfl ?_
  refine g_istore_n C [(2, .int (0 : Int32)), (0, .ref (rr Θ 24 0 0)), (1, .int p1)] dX10_manyAt_1 rfl (by decide) rfl (n := 2) rfl ?_
  refine g_iconst C (0 : Int32) dX10_manyAt_2 (by decide) (n := 3) rfl ?_
  refine g_istore_n C [(3, .int (0 : Int32)), (2, .int (0 : Int32)), (0, .ref (rr Θ 24 0 0)), (1, .int p1)] dX10_manyAt_3 rfl (by decide) rfl (n := 4) rfl ?_
  refine g_lv [2, 3, 1, 0] [(0, .ref (rr Θ 24 0 0)), (1, .int p1), (2, .int (0 : Int32)), (3, .int (0 : Int32))] rfl ?_
  refine Ok.join hk (fun e16 => G Θ Γ 45 [(2, .int e16)] [] h) (fun e16 hk => ?_) (fun hk => ?_)
  · refine g_iload_n C 0 dX10_manyAt_45 rfl rfl (n := 46) rfl ?_
    exact retI hk.out dX10_manyAt_46
  · refine Ok.loop (fun a11 => G Θ Γ 4 [(0, .ref (rr Θ 24 0 0)), (1, .int p1), (2, .int a11.1), (3, .int a11.2)] [] h) (fun a11 hk => ?_) _ _ hk
    refine g_iload_n C 3 dX10_manyAt_4 rfl rfl (n := 5) rfl ?_
    refine g_aload_n C 0 dX10_manyAt_5 rfl rfl (n := 6) rfl ?_
    refine g_getR C kc_24 (rt_24_0 (tB Θ) 0) (by decide) (by decide) (by decide) wm_897 dX10_manyAt_6 (n := 9) rfl ?_
    refine g_bipush C (8 : Int32) dX10_manyAt_9 (by decide) (n := 11) rfl ?_
    refine g_ialdL C 8 an_25 (by decide) (by decide) (by decide) dX10_manyAt_11 (n := 12) rfl ?_
    refine g_ic_ge C 45 dX10_manyAt_12 (by decide) (n := 15) rfl hk (fun hk => ?_) (fun hk => ?_)
    · refine g_lv [2] [(2, .int a11.1)] rfl ?_
      exact hk.out
    · refine g_iload_n C 2 dX10_manyAt_15 rfl rfl (n := 16) rfl ?_
      refine g_aload_n C 0 dX10_manyAt_16 rfl rfl (n := 17) rfl ?_
      refine g_getR C kc_24 (rt_24_0 (tB Θ) 0) (by decide) (by decide) (by decide) wm_897 dX10_manyAt_17 (n := 20) rfl ?_
      refine g_bipush C (21 : Int32) dX10_manyAt_20 (by decide) (n := 22) rfl ?_
      refine g_iload_n C 3 dX10_manyAt_22 rfl rfl (n := 23) rfl ?_
      refine g_iadd C dX10_manyAt_23 (n := 24) rfl ?_
      refine g_iald C an_25 (by decide) dX10_manyAt_24 (n := 25) rfl hk (fun _ hk => ?_)
      refine g_iload_n C 1 dX10_manyAt_25 rfl rfl (n := 26) rfl ?_
      refine Ok.join hk (fun a12 => G Θ Γ 34 [(0, .ref (rr Θ 24 0 0)), (1, .int p1), (3, .int a11.2)] [.int (b2i a12), .int a11.1] h) (fun a12 hk => ?_) (fun hk => ?_)
      · refine g_cSIp C hk (fun K hk => L_X10_flag Θ a12 h K hk) lk_X10_158 ⟨rfl, rfl⟩ ⟨Nat.le_of_ble_eq_true rfl, Nat.le_of_ble_eq_true rfl⟩ dX10_manyAt_34 rfl rfl (Nat.le_of_ble_eq_true rfl) (n := 37) rfl (fun r13 hk => ?_)
        refine g_iadd C dX10_manyAt_37 (n := 38) rfl ?_
        refine g_nm hk (fun x14 hk => ?_)
        refine g_istore_n C [(2, .int x14), (0, .ref (rr Θ 24 0 0)), (1, .int p1), (3, .int a11.2)] dX10_manyAt_38 rfl (by decide) rfl (n := 39) rfl ?_
        refine g_iinc C 3 (fun x15 => [(3, .int x15), (2, .int x14), (0, .ref (rr Θ 24 0 0)), (1, .int p1)]) dX10_manyAt_39 rfl (v := (a11.2 + (1 : Int32))) rfl (by decide) (fun _ => rfl) (n := 42) rfl hk (fun x15 hk => ?_)
        refine g_goto C 4 dX10_manyAt_42 (by decide) ?_
        refine g_lv [2, 3, 1, 0] [(0, .ref (rr Θ 24 0 0)), (1, .int p1), (2, .int x14), (3, .int x15)] rfl ?_
        exact hk.out
      · refine g_ic_ne C 33 dX10_manyAt_26 (by decide) (n := 29) rfl hk (fun hk => ?_) (fun hk => ?_)
        · refine g_iconst C (0 : Int32) dX10_manyAt_33 (by decide) (n := 34) rfl ?_
          refine g_lv [0, 1, 3] [(0, .ref (rr Θ 24 0 0)), (1, .int p1), (3, .int a11.2)] rfl ?_
          exact hk.out
        · refine g_iconst C (1 : Int32) dX10_manyAt_29 (by decide) (n := 30) rfl ?_
          refine g_goto C 34 dX10_manyAt_30 (by decide) ?_
          refine g_lv [0, 1, 3] [(0, .ref (rr Θ 24 0 0)), (1, .int p1), (3, .int a11.2)] rfl ?_
          exact hk.out
def f_X10_count (p1 : Int32) (h : Mem) : Option (Int32 × Mem) := obd (lp fu (fun a23 => (if (h 25 0 0 8) ≤ a23.2.2.2 then some (.inr (a23.1, a23.2.1, a23.2.2.1)) else gd (inb ((21 : Int32) + a23.2.2.2) 237) (obd ((if (8 : Int32) ≤ (h 25 0 0 ((21 : Int32) + a23.2.2.2).toNatClampNeg) then some false else some true)) (fun a24 => obd (f_X10_flag a24 h) (fun r25 => bnd (a23.1 + r25) (fun x26 => gd (inb ((21 : Int32) + a23.2.2.2) 237) (obd (f_X10_in ((h 25 0 0 ((21 : Int32) + a23.2.2.2).toNatClampNeg).toInt64) (10 : Int64) (13 : Int64) h) (fun r27 => obd (f_X10_flag r27 h) (fun r28 => bnd (a23.2.1 + r28) (fun x29 => gd (inb ((21 : Int32) + a23.2.2.2) 237) (obd (f_X10_in ((h 25 0 0 ((21 : Int32) + a23.2.2.2).toNatClampNeg).toInt64) (20 : Int64) (27 : Int64) h) (fun r30 => obd (f_X10_flag r30 h) (fun r31 => bnd (a23.2.2.1 + r31) (fun x32 => bnd (a23.2.2.2 + (1 : Int32)) (fun x33 => some (.inl (x26, x29, x32, x33))))))))))))))))) ((0 : Int32), (0 : Int32), (0 : Int32), (0 : Int32))) (fun e34 => (if p1 = (0 : Int32) then some (e34.1, h) else if p1 = (1 : Int32) then some (e34.2.1, h) else if p1 = (2 : Int32) then some (e34.2.2, h) else if p1 = (3 : Int32) then obd (f_X10_manyAt (30 : Int32) h) (fun r35 => some (r35, h)) else if p1 = (4 : Int32) then obd (f_X10_starts h) (fun h36 => obd (f_X10_rightMany h36) (fun r37 => some (r37, h36))) else if p1 = (5 : Int32) then some ((h 25 0 0 46), h) else if p1 = (6 : Int32) then obd (i2b (h 26 0 0 0)) (fun b38 => obd (f_X10_flag b38 h) (fun r39 => obd (i2b (h 26 0 0 1)) (fun b40 => obd (f_X10_flag b40 h) (fun r41 => some ((r39 + r41), h))))) else if p1 = (7 : Int32) then some ((h 24 10 0 0), h) else if p1 = (8 : Int32) then (if (h 40 0 0 0) = (-4 : Int32) then some ((-4 : Int32), h) else some ((h 41 0 0 0), h)) else some ((-1 : Int32), h)))
def rm_X10_count : Room := { frames := 3, cells := 0, slots := 0, locals := 68 }
set_option maxHeartbeats 4000000 in
set_option maxRecDepth 100000 in
theorem L_X10_count (Θ : Tht) (p1 : Int32) (h : Mem) (K : Int32 × Mem → Prop) (hk : Ok (f_X10_count p1 h) K) : CI Θ yX10_count cX10_count 6 (some .int) rm_X10_count [.ref (rr Θ 24 0 0), .int p1] h K := by
  refine CI.of K [(0, .ref (rr Θ 24 0 0)), (1, .int p1)] (plainFor_of_name (by decide)) (Nat.le_of_ble_eq_true rfl) rfl (fun Γ C Rt => ?_)
  replace hk := rtI Rt hk
  unfold f_X10_count at hk
  refine g_iconst C (0 : Int32) dX10_count_0 (by decide) (n := 1) rfl ?_
  refine g_istore_n C [(2, .int (0 : Int32)), (0, .ref (rr Θ 24 0 0)), (1, .int p1)] dX10_count_1 rfl (by decide) rfl (n := 2) rfl ?_
  refine g_iconst C (0 : Int32) dX10_count_2 (by decide) (n := 3) rfl ?_
  refine g_istore_n C [(3, .int (0 : Int32)), (2, .int (0 : Int32)), (0, .ref (rr Θ 24 0 0)), (1, .int p1)] dX10_count_3 rfl (by decide) rfl (n := 4) rfl ?_
  refine g_iconst C (0 : Int32) dX10_count_4 (by decide) (n := 5) rfl ?_
  refine g_istore C [(4, .int (0 : Int32)), (3, .int (0 : Int32)), (2, .int (0 : Int32)), (0, .ref (rr Θ 24 0 0)), (1, .int p1)] dX10_count_5 (by decide) rfl (n := 7) rfl ?_
  refine g_iconst C (0 : Int32) dX10_count_7 (by decide) (n := 8) rfl ?_
  refine g_istore C [(5, .int (0 : Int32)), (4, .int (0 : Int32)), (3, .int (0 : Int32)), (2, .int (0 : Int32)), (0, .ref (rr Θ 24 0 0)), (1, .int p1)] dX10_count_8 (by decide) rfl (n := 10) rfl ?_
  refine g_lv [4, 5, 3, 2, 1, 0] [(0, .ref (rr Θ 24 0 0)), (1, .int p1), (2, .int (0 : Int32)), (3, .int (0 : Int32)), (4, .int (0 : Int32)), (5, .int (0 : Int32))] rfl ?_
  refine Ok.join hk (fun e34 => G Θ Γ 108 [(0, .ref (rr Θ 24 0 0)), (1, .int p1), (2, .int e34.1), (3, .int e34.2.1), (4, .int e34.2.2)] [] h) (fun e34 hk => ?_) (fun hk => ?_)
  · refine g_iload_n C 1 dX10_count_108 rfl rfl (n := 109) rfl ?_
    refine g_sw C (0 : Int32) 160 dX10_count_109 (by decide) (by decide) rfl (by decide) hk (fun hk => ?_) (fun hc42 hk => ?_)
    · refine g_iload_n C 2 dX10_count_160 rfl rfl (n := 161) rfl ?_
      exact retI hk.out dX10_count_161
    refine g_sw C (1 : Int32) 162 dX10_count_109 (by decide) (by decide) rfl (by decide) hk (fun hk => ?_) (fun hc43 hk => ?_)
    · refine g_iload_n C 3 dX10_count_162 rfl rfl (n := 163) rfl ?_
      exact retI hk.out dX10_count_163
    refine g_sw C (2 : Int32) 164 dX10_count_109 (by decide) (by decide) rfl (by decide) hk (fun hk => ?_) (fun hc44 hk => ?_)
    · refine g_iload C 4 dX10_count_164 rfl (n := 166) rfl ?_
      exact retI hk.out dX10_count_166
    refine g_sw C (3 : Int32) 167 dX10_count_109 (by decide) (by decide) rfl (by decide) hk (fun hk => ?_) (fun hc45 hk => ?_)
    · refine g_aload_n C 0 dX10_count_167 rfl rfl (n := 168) rfl ?_
      refine g_bipush C (30 : Int32) dX10_count_168 (by decide) (n := 170) rfl ?_
      refine g_cVIp C hk (fun K hk => L_X10_manyAt Θ (30 : Int32) h K hk) lk_X10_230 kc_24 (by decide) (by decide) ⟨rfl, rfl⟩ ⟨Nat.le_of_ble_eq_true rfl, Nat.le_of_ble_eq_true rfl⟩ dX10_count_170 rfl rfl (Nat.le_of_ble_eq_true rfl) (n := 173) rfl (fun r35 hk => ?_)
      exact retI hk.out dX10_count_173
    refine g_sw C (4 : Int32) 174 dX10_count_109 (by decide) (by decide) rfl (by decide) hk (fun hk => ?_) (fun hc46 hk => ?_)
    · refine g_aload_n C 0 dX10_count_174 rfl rfl (n := 175) rfl ?_
      refine g_cVV C hk (fun K hk => L_X10_starts Θ h K hk) lk_X10_222 kc_24 (by decide) (by decide) ⟨rfl, rfl⟩ ⟨Nat.le_of_ble_eq_true rfl, Nat.le_of_ble_eq_true rfl⟩ dX10_count_175 rfl rfl (Nat.le_of_ble_eq_true rfl) (n := 178) rfl (fun h36 hk => ?_)
      refine g_aload_n C 0 dX10_count_178 rfl rfl (n := 179) rfl ?_
      refine g_cVIp C hk (fun K hk => L_X10_rightMany Θ h36 K hk) lk_X10_210 kc_24 (by decide) (by decide) ⟨rfl, rfl⟩ ⟨Nat.le_of_ble_eq_true rfl, Nat.le_of_ble_eq_true rfl⟩ dX10_count_179 rfl rfl (Nat.le_of_ble_eq_true rfl) (n := 182) rfl (fun r37 hk => ?_)
      exact retI hk.out dX10_count_182
    refine g_sw C (5 : Int32) 183 dX10_count_109 (by decide) (by decide) rfl (by decide) hk (fun hk => ?_) (fun hc47 hk => ?_)
    · refine g_aload_n C 0 dX10_count_183 rfl rfl (n := 184) rfl ?_
      refine g_getR C kc_24 (rt_24_0 (tB Θ) 0) (by decide) (by decide) (by decide) wm_897 dX10_count_184 (n := 187) rfl ?_
      refine g_bipush C (46 : Int32) dX10_count_187 (by decide) (n := 189) rfl ?_
      refine g_ialdL C 46 an_25 (by decide) (by decide) (by decide) dX10_count_189 (n := 190) rfl ?_
      exact retI hk.out dX10_count_190
    refine g_sw C (6 : Int32) 191 dX10_count_109 (by decide) (by decide) rfl (by decide) hk (fun hk => ?_) (fun hc48 hk => ?_)
    · refine g_aload_n C 0 dX10_count_191 rfl rfl (n := 192) rfl ?_
      refine g_getR C kc_24 (rt_24_1 (tB Θ) 0) (by decide) (by decide) (by decide) wm_898 dX10_count_192 (n := 195) rfl ?_
      refine g_iconst C (0 : Int32) dX10_count_195 (by decide) (n := 196) rfl ?_
      refine g_zaldL C 0 an_26 (by decide) (by decide) (by decide) dX10_count_196 (n := 197) rfl ?_
      obtain ⟨b38, heb38, hk⟩ := ok_i2b hk
      refine g_cSIp C hk (fun K hk => L_X10_flag Θ b38 h K hk) lk_X10_158 ⟨rfl, rfl⟩ ⟨Nat.le_of_ble_eq_true rfl, Nat.le_of_ble_eq_true rfl⟩ dX10_count_197 rfl (by rw [heb38]; rfl) (Nat.le_of_ble_eq_true rfl) (n := 200) rfl (fun r39 hk => ?_)
      refine g_aload_n C 0 dX10_count_200 rfl rfl (n := 201) rfl ?_
      refine g_getR C kc_24 (rt_24_1 (tB Θ) 0) (by decide) (by decide) (by decide) wm_898 dX10_count_201 (n := 204) rfl ?_
      refine g_iconst C (1 : Int32) dX10_count_204 (by decide) (n := 205) rfl ?_
      refine g_zaldL C 1 an_26 (by decide) (by decide) (by decide) dX10_count_205 (n := 206) rfl ?_
      obtain ⟨b40, heb40, hk⟩ := ok_i2b hk
      refine g_cSIp C hk (fun K hk => L_X10_flag Θ b40 h K hk) lk_X10_158 ⟨rfl, rfl⟩ ⟨Nat.le_of_ble_eq_true rfl, Nat.le_of_ble_eq_true rfl⟩ dX10_count_206 rfl (by rw [heb40]; rfl) (Nat.le_of_ble_eq_true rfl) (n := 209) rfl (fun r41 hk => ?_)
      refine g_iadd C dX10_count_209 (n := 210) rfl ?_
      exact retI hk.out dX10_count_210
    refine g_sw C (7 : Int32) 211 dX10_count_109 (by decide) (by decide) rfl (by decide) hk (fun hk => ?_) (fun hc49 hk => ?_)
    · refine g_aload_n C 0 dX10_count_211 rfl rfl (n := 212) rfl ?_
      refine g_getI C kc_24 ft_24_10 (by decide) (by decide) (by decide) wm_907 dX10_count_212 (n := 215) rfl ?_
      exact retI hk.out dX10_count_215
    refine g_sw C (8 : Int32) 216 dX10_count_109 (by decide) (by decide) rfl (by decide) hk (fun hk => ?_) (fun hc50 hk => ?_)
    · refine g_aload_n C 0 dX10_count_216 rfl rfl (n := 217) rfl ?_
      refine g_getR C kc_24 (rt_24_30 (tB Θ) 0) (by decide) (by decide) (by decide) wm_927 dX10_count_217 (n := 220) rfl ?_
      refine g_iconst C (0 : Int32) dX10_count_220 (by decide) (n := 221) rfl ?_
      refine g_ialdL C 0 an_40 (by decide) (by decide) (by decide) dX10_count_221 (n := 222) rfl ?_
      refine g_bipush C (-4 : Int32) dX10_count_222 (by decide) (n := 224) rfl ?_
      refine g_ic_ne C 232 dX10_count_224 (by decide) (n := 227) rfl hk (fun hk => ?_) (fun hk => ?_)
      · refine g_aload_n C 0 dX10_count_232 rfl rfl (n := 233) rfl ?_
        refine g_getR C kc_24 (rt_24_31 (tB Θ) 0) (by decide) (by decide) (by decide) wm_928 dX10_count_233 (n := 236) rfl ?_
        refine g_iconst C (0 : Int32) dX10_count_236 (by decide) (n := 237) rfl ?_
        refine g_ialdL C 0 an_41 (by decide) (by decide) (by decide) dX10_count_237 (n := 238) rfl ?_
        exact retI hk.out dX10_count_238
      · refine g_bipush C (-4 : Int32) dX10_count_227 (by decide) (n := 229) rfl ?_
        refine g_goto C 238 dX10_count_229 (by decide) ?_
        exact retI hk.out dX10_count_238
    refine g_swd C 9 239 dX10_count_109 (by decide) (by decide) (sw_s (sw_s (sw_s (sw_s (sw_s (sw_s (sw_s (sw_s (sw_0 hc42) hc43) hc44) hc45) hc46) hc47) hc48) hc49) hc50) (by decide) ?_
    refine g_iconst C (-1 : Int32) dX10_count_239 (by decide) (n := 240) rfl ?_
    exact retI hk.out dX10_count_240
  · refine Ok.loop (fun a23 => G Θ Γ 10 [(0, .ref (rr Θ 24 0 0)), (1, .int p1), (2, .int a23.1), (3, .int a23.2.1), (4, .int a23.2.2.1), (5, .int a23.2.2.2)] [] h) (fun a23 hk => ?_) _ _ hk
    refine g_iload C 5 dX10_count_10 rfl (n := 12) rfl ?_
    refine g_aload_n C 0 dX10_count_12 rfl rfl (n := 13) rfl ?_
    refine g_getR C kc_24 (rt_24_0 (tB Θ) 0) (by decide) (by decide) (by decide) wm_897 dX10_count_13 (n := 16) rfl ?_
    refine g_bipush C (8 : Int32) dX10_count_16 (by decide) (n := 18) rfl ?_
    refine g_ialdL C 8 an_25 (by decide) (by decide) (by decide) dX10_count_18 (n := 19) rfl ?_
    refine g_ic_ge C 108 dX10_count_19 (by decide) (n := 22) rfl hk (fun hk => ?_) (fun hk => ?_)
    · refine g_lv [0, 1, 2, 3, 4] [(0, .ref (rr Θ 24 0 0)), (1, .int p1), (2, .int a23.1), (3, .int a23.2.1), (4, .int a23.2.2.1)] rfl ?_
      exact hk.out
    · refine g_iload_n C 2 dX10_count_22 rfl rfl (n := 23) rfl ?_
      refine g_aload_n C 0 dX10_count_23 rfl rfl (n := 24) rfl ?_
      refine g_getR C kc_24 (rt_24_0 (tB Θ) 0) (by decide) (by decide) (by decide) wm_897 dX10_count_24 (n := 27) rfl ?_
      refine g_bipush C (21 : Int32) dX10_count_27 (by decide) (n := 29) rfl ?_
      refine g_iload C 5 dX10_count_29 rfl (n := 31) rfl ?_
      refine g_iadd C dX10_count_31 (n := 32) rfl ?_
      refine g_iald C an_25 (by decide) dX10_count_32 (n := 33) rfl hk (fun _ hk => ?_)
      refine g_bipush C (8 : Int32) dX10_count_33 (by decide) (n := 35) rfl ?_
      refine Ok.join hk (fun a24 => G Θ Γ 43 [(0, .ref (rr Θ 24 0 0)), (1, .int p1), (3, .int a23.2.1), (4, .int a23.2.2.1), (5, .int a23.2.2.2)] [.int (b2i a24), .int a23.1] h) (fun a24 hk => ?_) (fun hk => ?_)
      · refine g_cSIp C hk (fun K hk => L_X10_flag Θ a24 h K hk) lk_X10_158 ⟨rfl, rfl⟩ ⟨Nat.le_of_ble_eq_true rfl, Nat.le_of_ble_eq_true rfl⟩ dX10_count_43 rfl rfl (Nat.le_of_ble_eq_true rfl) (n := 46) rfl (fun r25 hk => ?_)
        refine g_iadd C dX10_count_46 (n := 47) rfl ?_
        refine g_nm hk (fun x26 hk => ?_)
        refine g_istore_n C [(2, .int x26), (0, .ref (rr Θ 24 0 0)), (1, .int p1), (3, .int a23.2.1), (4, .int a23.2.2.1), (5, .int a23.2.2.2)] dX10_count_47 rfl (by decide) rfl (n := 48) rfl ?_
        refine g_iload_n C 3 dX10_count_48 rfl rfl (n := 49) rfl ?_
        refine g_aload_n C 1 dX10_count_49 rfl rfl (n := 50) rfl ?_
        refine g_getR C kc_24 (rt_24_0 (tB Θ) 0) (by decide) (by decide) (by decide) wm_897 dX10_count_50 (n := 53) rfl ?_
        refine g_bipush C (21 : Int32) dX10_count_53 (by decide) (n := 55) rfl ?_
        refine g_iload C 5 dX10_count_55 rfl (n := 57) rfl ?_
        refine g_iadd C dX10_count_57 (n := 58) rfl ?_
        refine g_iald C an_25 (by decide) dX10_count_58 (n := 59) rfl hk (fun _ hk => ?_)
        refine g_i2l C dX10_count_59 (n := 60) rfl ?_
        refine g_ldc2 C (10 : Int64) wm_1218 dX10_count_60 (n := 63) rfl ?_
        refine g_ldc2 C (13 : Int64) wm_1219 dX10_count_63 (n := 66) rfl ?_
        refine g_cSBp C hk (fun K hk => L_X10_in Θ ((h 25 0 0 ((21 : Int32) + a23.2.2.2).toNatClampNeg).toInt64) (10 : Int64) (13 : Int64) h K hk) lk_X10_95 ⟨rfl, rfl⟩ ⟨Nat.le_of_ble_eq_true rfl, Nat.le_of_ble_eq_true rfl⟩ dX10_count_66 rfl rfl (Nat.le_of_ble_eq_true rfl) (n := 69) rfl (fun r27 hk => ?_)
        refine g_cSIp C hk (fun K hk => L_X10_flag Θ r27 h K hk) lk_X10_158 ⟨rfl, rfl⟩ ⟨Nat.le_of_ble_eq_true rfl, Nat.le_of_ble_eq_true rfl⟩ dX10_count_69 rfl rfl (Nat.le_of_ble_eq_true rfl) (n := 72) rfl (fun r28 hk => ?_)
        refine g_iadd C dX10_count_72 (n := 73) rfl ?_
        refine g_nm hk (fun x29 hk => ?_)
        refine g_istore_n C [(3, .int x29), (2, .int x26), (0, .ref (rr Θ 24 0 0)), (1, .int p1), (4, .int a23.2.2.1), (5, .int a23.2.2.2)] dX10_count_73 rfl (by decide) rfl (n := 74) rfl ?_
        refine g_iload C 4 dX10_count_74 rfl (n := 76) rfl ?_
        refine g_aload_n C 2 dX10_count_76 rfl rfl (n := 77) rfl ?_
        refine g_getR C kc_24 (rt_24_0 (tB Θ) 0) (by decide) (by decide) (by decide) wm_897 dX10_count_77 (n := 80) rfl ?_
        refine g_bipush C (21 : Int32) dX10_count_80 (by decide) (n := 82) rfl ?_
        refine g_iload C 5 dX10_count_82 rfl (n := 84) rfl ?_
        refine g_iadd C dX10_count_84 (n := 85) rfl ?_
        refine g_iald C an_25 (by decide) dX10_count_85 (n := 86) rfl hk (fun _ hk => ?_)
        refine g_i2l C dX10_count_86 (n := 87) rfl ?_
        refine g_ldc2 C (20 : Int64) wm_1240 dX10_count_87 (n := 90) rfl ?_
        refine g_ldc2 C (27 : Int64) wm_1245 dX10_count_90 (n := 93) rfl ?_
        refine g_cSBp C hk (fun K hk => L_X10_in Θ ((h 25 0 0 ((21 : Int32) + a23.2.2.2).toNatClampNeg).toInt64) (20 : Int64) (27 : Int64) h K hk) lk_X10_95 ⟨rfl, rfl⟩ ⟨Nat.le_of_ble_eq_true rfl, Nat.le_of_ble_eq_true rfl⟩ dX10_count_93 rfl rfl (Nat.le_of_ble_eq_true rfl) (n := 96) rfl (fun r30 hk => ?_)
        refine g_cSIp C hk (fun K hk => L_X10_flag Θ r30 h K hk) lk_X10_158 ⟨rfl, rfl⟩ ⟨Nat.le_of_ble_eq_true rfl, Nat.le_of_ble_eq_true rfl⟩ dX10_count_96 rfl rfl (Nat.le_of_ble_eq_true rfl) (n := 99) rfl (fun r31 hk => ?_)
        refine g_iadd C dX10_count_99 (n := 100) rfl ?_
        refine g_nm hk (fun x32 hk => ?_)
        refine g_istore C [(4, .int x32), (3, .int x29), (2, .int x26), (0, .ref (rr Θ 24 0 0)), (1, .int p1), (5, .int a23.2.2.2)] dX10_count_100 (by decide) rfl (n := 102) rfl ?_
        refine g_iinc C 5 (fun x33 => [(5, .int x33), (4, .int x32), (3, .int x29), (2, .int x26), (0, .ref (rr Θ 24 0 0)), (1, .int p1)]) dX10_count_102 rfl (v := (a23.2.2.2 + (1 : Int32))) rfl (by decide) (fun _ => rfl) (n := 105) rfl hk (fun x33 hk => ?_)
        refine g_goto C 10 dX10_count_105 (by decide) ?_
        refine g_lv [4, 5, 3, 2, 1, 0] [(0, .ref (rr Θ 24 0 0)), (1, .int p1), (2, .int x26), (3, .int x29), (4, .int x32), (5, .int x33)] rfl ?_
        exact hk.out
      · refine g_ic_ge C 42 dX10_count_35 (by decide) (n := 38) rfl hk (fun hk => ?_) (fun hk => ?_)
        · refine g_iconst C (0 : Int32) dX10_count_42 (by decide) (n := 43) rfl ?_
          refine g_lv [0, 1, 3, 4, 5] [(0, .ref (rr Θ 24 0 0)), (1, .int p1), (3, .int a23.2.1), (4, .int a23.2.2.1), (5, .int a23.2.2.2)] rfl ?_
          exact hk.out
        · refine g_iconst C (1 : Int32) dX10_count_38 (by decide) (n := 39) rfl ?_
          refine g_goto C 43 dX10_count_39 (by decide) ?_
          refine g_lv [0, 1, 3, 4, 5] [(0, .ref (rr Θ 24 0 0)), (1, .int p1), (3, .int a23.2.1), (4, .int a23.2.2.1), (5, .int a23.2.2.2)] rfl ?_
          exact hk.out
def f_X10_isCrab (p1 : Int32) (h : Mem) : Option (Bool) := obd (f_X10_in ((p1).toInt64) (0 : Int64) (((h 24 3 0 0) - (1 : Int32)).toInt64) h) (fun r1 => some r1)
def rm_X10_isCrab : Room := { frames := 1, cells := 0, slots := 0, locals := 25 }
set_option maxHeartbeats 4000000 in
set_option maxRecDepth 100000 in
theorem L_X10_isCrab (Θ : Tht) (p1 : Int32) (h : Mem) (K : Bool × Mem → Prop) (hk : Ok (f_X10_isCrab p1 h) (fun r => K (r, h))) : CB Θ yX10_isCrab cX10_isCrab 2 (some .boolean) rm_X10_isCrab [.ref (rr Θ 24 0 0), .int p1] h K := by
  refine CB.of K [(0, .ref (rr Θ 24 0 0)), (1, .int p1)] (plainFor_of_name (by decide)) (Nat.le_of_ble_eq_true rfl) rfl (fun Γ C Rt => ?_)
  replace hk := rtBp Rt hk
  unfold f_X10_isCrab at hk
  refine g_iload_n C 1 dX10_isCrab_0 rfl rfl (n := 1) rfl ?_
  refine g_i2l C dX10_isCrab_1 (n := 2) rfl ?_
  refine g_lconst C (0 : Int64) dX10_isCrab_2 (by decide) (n := 3) rfl ?_
  refine g_aload_n C 0 dX10_isCrab_3 rfl rfl (n := 4) rfl ?_
  refine g_getI C kc_24 ft_24_3 (by decide) (by decide) (by decide) wm_900 dX10_isCrab_4 (n := 7) rfl ?_
  refine g_iconst C (1 : Int32) dX10_isCrab_7 (by decide) (n := 8) rfl ?_
  refine g_isub C dX10_isCrab_8 (n := 9) rfl ?_
  refine g_i2l C dX10_isCrab_9 (n := 10) rfl ?_
  refine g_cSBp C hk (fun K hk => L_X10_in Θ ((p1).toInt64) (0 : Int64) (((h 24 3 0 0) - (1 : Int32)).toInt64) h K hk) lk_X10_95 ⟨rfl, rfl⟩ ⟨Nat.le_of_ble_eq_true rfl, Nat.le_of_ble_eq_true rfl⟩ dX10_isCrab_10 rfl rfl (Nat.le_of_ble_eq_true rfl) (n := 13) rfl (fun r1 hk => ?_)
  exact retB r1 rfl hk.out dX10_isCrab_13
def f_X10_crab (p1 : Int32) (p2 : Int32) (h : Mem) : Option (Int32 × Mem) := obd (f_X10_isCrab p1 h) (fun r1 => (if r1 = true then (if p2 = (0 : Int32) then gd (inb ((27 : Int32) + p1) 237) (some ((h 25 0 0 ((27 : Int32) + p1).toNatClampNeg), h)) else if p2 = (1 : Int32) then gd (inb ((31 : Int32) + p1) 237) (some ((h 25 0 0 ((31 : Int32) + p1).toNatClampNeg), h)) else if p2 = (2 : Int32) then gd (inb ((35 : Int32) + p1) 237) (some ((h 25 0 0 ((35 : Int32) + p1).toNatClampNeg), h)) else if p2 = (3 : Int32) then gd (inb ((39 : Int32) + p1) 237) (some ((h 25 0 0 ((39 : Int32) + p1).toNatClampNeg), h)) else if p2 = (4 : Int32) then obd (f_X10_starts h) (fun h2 => obd (f_X10_heldBy p1 h2) (fun r3 => some (r3, h2))) else some ((-1 : Int32), h)) else some ((-1 : Int32), h)))
def rm_X10_crab : Room := { frames := 2, cells := 0, slots := 0, locals := 46 }
set_option maxHeartbeats 4000000 in
set_option maxRecDepth 100000 in
theorem L_X10_crab (Θ : Tht) (p1 : Int32) (p2 : Int32) (h : Mem) (K : Int32 × Mem → Prop) (hk : Ok (f_X10_crab p1 p2 h) K) : CI Θ yX10_crab cX10_crab 3 (some .int) rm_X10_crab [.ref (rr Θ 24 0 0), .int p1, .int p2] h K := by
  refine CI.of K [(0, .ref (rr Θ 24 0 0)), (1, .int p1), (2, .int p2)] (plainFor_of_name (by decide)) (Nat.le_of_ble_eq_true rfl) rfl (fun Γ C Rt => ?_)
  replace hk := rtI Rt hk
  unfold f_X10_crab at hk
  refine g_aload_n C 0 dX10_crab_0 rfl rfl (n := 1) rfl ?_
  refine g_iload_n C 1 dX10_crab_1 rfl rfl (n := 2) rfl ?_
  refine g_cVBp C hk (fun K hk => L_X10_isCrab Θ p1 h K hk) lk_X10_225 kc_24 (by decide) (by decide) ⟨rfl, rfl⟩ ⟨Nat.le_of_ble_eq_true rfl, Nat.le_of_ble_eq_true rfl⟩ dX10_crab_2 rfl rfl (Nat.le_of_ble_eq_true rfl) (n := 5) rfl (fun r1 hk => ?_)
  refine g_bt C 10 dX10_crab_5 (by decide) (n := 8) rfl hk (fun hk => ?_) (fun hk => ?_)
  · refine g_iload_n C 2 dX10_crab_10 rfl rfl (n := 11) rfl ?_
    refine g_sw C (0 : Int32) 44 dX10_crab_11 (by decide) (by decide) rfl (by decide) hk (fun hk => ?_) (fun hc4 hk => ?_)
    · refine g_aload_n C 0 dX10_crab_44 rfl rfl (n := 45) rfl ?_
      refine g_getR C kc_24 (rt_24_0 (tB Θ) 0) (by decide) (by decide) (by decide) wm_897 dX10_crab_45 (n := 48) rfl ?_
      refine g_bipush C (27 : Int32) dX10_crab_48 (by decide) (n := 50) rfl ?_
      refine g_iload_n C 1 dX10_crab_50 rfl rfl (n := 51) rfl ?_
      refine g_iadd C dX10_crab_51 (n := 52) rfl ?_
      refine g_iald C an_25 (by decide) dX10_crab_52 (n := 53) rfl hk (fun _ hk => ?_)
      exact retI hk.out dX10_crab_53
    refine g_sw C (1 : Int32) 54 dX10_crab_11 (by decide) (by decide) rfl (by decide) hk (fun hk => ?_) (fun hc5 hk => ?_)
    · refine g_aload_n C 0 dX10_crab_54 rfl rfl (n := 55) rfl ?_
      refine g_getR C kc_24 (rt_24_0 (tB Θ) 0) (by decide) (by decide) (by decide) wm_897 dX10_crab_55 (n := 58) rfl ?_
      refine g_bipush C (31 : Int32) dX10_crab_58 (by decide) (n := 60) rfl ?_
      refine g_iload_n C 1 dX10_crab_60 rfl rfl (n := 61) rfl ?_
      refine g_iadd C dX10_crab_61 (n := 62) rfl ?_
      refine g_iald C an_25 (by decide) dX10_crab_62 (n := 63) rfl hk (fun _ hk => ?_)
      exact retI hk.out dX10_crab_63
    refine g_sw C (2 : Int32) 64 dX10_crab_11 (by decide) (by decide) rfl (by decide) hk (fun hk => ?_) (fun hc6 hk => ?_)
    · refine g_aload_n C 0 dX10_crab_64 rfl rfl (n := 65) rfl ?_
      refine g_getR C kc_24 (rt_24_0 (tB Θ) 0) (by decide) (by decide) (by decide) wm_897 dX10_crab_65 (n := 68) rfl ?_
      refine g_bipush C (35 : Int32) dX10_crab_68 (by decide) (n := 70) rfl ?_
      refine g_iload_n C 1 dX10_crab_70 rfl rfl (n := 71) rfl ?_
      refine g_iadd C dX10_crab_71 (n := 72) rfl ?_
      refine g_iald C an_25 (by decide) dX10_crab_72 (n := 73) rfl hk (fun _ hk => ?_)
      exact retI hk.out dX10_crab_73
    refine g_sw C (3 : Int32) 74 dX10_crab_11 (by decide) (by decide) rfl (by decide) hk (fun hk => ?_) (fun hc7 hk => ?_)
    · refine g_aload_n C 0 dX10_crab_74 rfl rfl (n := 75) rfl ?_
      refine g_getR C kc_24 (rt_24_0 (tB Θ) 0) (by decide) (by decide) (by decide) wm_897 dX10_crab_75 (n := 78) rfl ?_
      refine g_bipush C (39 : Int32) dX10_crab_78 (by decide) (n := 80) rfl ?_
      refine g_iload_n C 1 dX10_crab_80 rfl rfl (n := 81) rfl ?_
      refine g_iadd C dX10_crab_81 (n := 82) rfl ?_
      refine g_iald C an_25 (by decide) dX10_crab_82 (n := 83) rfl hk (fun _ hk => ?_)
      exact retI hk.out dX10_crab_83
    refine g_sw C (4 : Int32) 84 dX10_crab_11 (by decide) (by decide) rfl (by decide) hk (fun hk => ?_) (fun hc8 hk => ?_)
    · refine g_aload_n C 0 dX10_crab_84 rfl rfl (n := 85) rfl ?_
      refine g_cVV C hk (fun K hk => L_X10_starts Θ h K hk) lk_X10_222 kc_24 (by decide) (by decide) ⟨rfl, rfl⟩ ⟨Nat.le_of_ble_eq_true rfl, Nat.le_of_ble_eq_true rfl⟩ dX10_crab_85 rfl rfl (Nat.le_of_ble_eq_true rfl) (n := 88) rfl (fun h2 hk => ?_)
      refine g_aload_n C 0 dX10_crab_88 rfl rfl (n := 89) rfl ?_
      refine g_iload_n C 1 dX10_crab_89 rfl rfl (n := 90) rfl ?_
      refine g_cVIp C hk (fun K hk => L_X10_heldBy Θ p1 h2 K hk) lk_X10_191 kc_24 (by decide) (by decide) ⟨rfl, rfl⟩ ⟨Nat.le_of_ble_eq_true rfl, Nat.le_of_ble_eq_true rfl⟩ dX10_crab_90 rfl rfl (Nat.le_of_ble_eq_true rfl) (n := 93) rfl (fun r3 hk => ?_)
      exact retI hk.out dX10_crab_93
    refine g_swd C 5 94 dX10_crab_11 (by decide) (by decide) (sw_s (sw_s (sw_s (sw_s (sw_0 hc4) hc5) hc6) hc7) hc8) (by decide) ?_
    refine g_iconst C (-1 : Int32) dX10_crab_94 (by decide) (n := 95) rfl ?_
    exact retI hk.out dX10_crab_95
  · refine g_iconst C (-1 : Int32) dX10_crab_8 (by decide) (n := 9) rfl ?_
    exact retI hk.out dX10_crab_9
def f_X10_isPlace (p1 : Int32) (h : Mem) : Option (Bool) := obd (f_X10_in ((p1).toInt64) (0 : Int64) (((h 24 2 0 0) - (1 : Int32)).toInt64) h) (fun r1 => some r1)
def rm_X10_isPlace : Room := { frames := 1, cells := 0, slots := 0, locals := 25 }
set_option maxHeartbeats 4000000 in
set_option maxRecDepth 100000 in
theorem L_X10_isPlace (Θ : Tht) (p1 : Int32) (h : Mem) (K : Bool × Mem → Prop) (hk : Ok (f_X10_isPlace p1 h) (fun r => K (r, h))) : CB Θ yX10_isPlace cX10_isPlace 2 (some .boolean) rm_X10_isPlace [.ref (rr Θ 24 0 0), .int p1] h K := by
  refine CB.of K [(0, .ref (rr Θ 24 0 0)), (1, .int p1)] (plainFor_of_name (by decide)) (Nat.le_of_ble_eq_true rfl) rfl (fun Γ C Rt => ?_)
  replace hk := rtBp Rt hk
  unfold f_X10_isPlace at hk
  refine g_iload_n C 1 dX10_isPlace_0 rfl rfl (n := 1) rfl ?_
  refine g_i2l C dX10_isPlace_1 (n := 2) rfl ?_
  refine g_lconst C (0 : Int64) dX10_isPlace_2 (by decide) (n := 3) rfl ?_
  refine g_aload_n C 0 dX10_isPlace_3 rfl rfl (n := 4) rfl ?_
  refine g_getI C kc_24 ft_24_2 (by decide) (by decide) (by decide) wm_899 dX10_isPlace_4 (n := 7) rfl ?_
  refine g_iconst C (1 : Int32) dX10_isPlace_7 (by decide) (n := 8) rfl ?_
  refine g_isub C dX10_isPlace_8 (n := 9) rfl ?_
  refine g_i2l C dX10_isPlace_9 (n := 10) rfl ?_
  refine g_cSBp C hk (fun K hk => L_X10_in Θ ((p1).toInt64) (0 : Int64) (((h 24 2 0 0) - (1 : Int32)).toInt64) h K hk) lk_X10_95 ⟨rfl, rfl⟩ ⟨Nat.le_of_ble_eq_true rfl, Nat.le_of_ble_eq_true rfl⟩ dX10_isPlace_10 rfl rfl (Nat.le_of_ble_eq_true rfl) (n := 13) rfl (fun r1 hk => ?_)
  exact retB r1 rfl hk.out dX10_isPlace_13
def f_X10_dig (p1 : Int32) (p2 : Int32) (h : Mem) : Option (Int32 × Mem) := obd (f_X10_isPlace p1 h) (fun r1 => (if r1 = true then obd (f_X10_in ((p2).toInt64) (0 : Int64) (9 : Int64) h) (fun r2 => (if r2 = true then obd ((if p2 = 0 then obd (f_X10_manyAt ((20 : Int32) + p1) h) (fun r4 => (if r4 ≤ 0 then some (.inr ()) else some (.inl ((-2 : Int32), h)))) else some (.inr ()))) (Sum.elim (fun r => some r) (fun a5 => ob2 (f_X10_becomes ((0 : Int32) + p1) p2 h) (fun r6 h7 => some (r6, h7)))) else some ((-1 : Int32), h))) else some ((-1 : Int32), h)))
def rm_X10_dig : Room := { frames := 2, cells := 0, slots := 0, locals := 46 }
set_option maxHeartbeats 4000000 in
set_option maxRecDepth 100000 in
theorem L_X10_dig (Θ : Tht) (p1 : Int32) (p2 : Int32) (h : Mem) (K : Int32 × Mem → Prop) (hk : Ok (f_X10_dig p1 p2 h) K) : CI Θ yX10_dig cX10_dig 3 (some .int) rm_X10_dig [.ref (rr Θ 24 0 0), .int p1, .int p2] h K := by
  refine CI.of K [(0, .ref (rr Θ 24 0 0)), (1, .int p1), (2, .int p2)] (plainFor_of_name (by decide)) (Nat.le_of_ble_eq_true rfl) rfl (fun Γ C Rt => ?_)
  replace hk := rtI Rt hk
  unfold f_X10_dig at hk
  refine g_aload_n C 0 dX10_dig_0 rfl rfl (n := 1) rfl ?_
  refine g_iload_n C 1 dX10_dig_1 rfl rfl (n := 2) rfl ?_
  refine g_cVBp C hk (fun K hk => L_X10_isPlace Θ p1 h K hk) lk_X10_216 kc_24 (by decide) (by decide) ⟨rfl, rfl⟩ ⟨Nat.le_of_ble_eq_true rfl, Nat.le_of_ble_eq_true rfl⟩ dX10_dig_2 rfl rfl (Nat.le_of_ble_eq_true rfl) (n := 5) rfl (fun r1 hk => ?_)
  refine g_bf C 20 dX10_dig_5 (by decide) (n := 8) rfl hk (fun hk => ?_) (fun hk => ?_)
  · refine g_iconst C (-1 : Int32) dX10_dig_20 (by decide) (n := 21) rfl ?_
    exact retI hk.out dX10_dig_21
  · refine g_iload_n C 2 dX10_dig_8 rfl rfl (n := 9) rfl ?_
    refine g_i2l C dX10_dig_9 (n := 10) rfl ?_
    refine g_lconst C (0 : Int64) dX10_dig_10 (by decide) (n := 11) rfl ?_
    refine g_ldc2 C (9 : Int64) wm_1135 dX10_dig_11 (n := 14) rfl ?_
    refine g_cSBp C hk (fun K hk => L_X10_in Θ ((p2).toInt64) (0 : Int64) (9 : Int64) h K hk) lk_X10_95 ⟨rfl, rfl⟩ ⟨Nat.le_of_ble_eq_true rfl, Nat.le_of_ble_eq_true rfl⟩ dX10_dig_14 rfl rfl (Nat.le_of_ble_eq_true rfl) (n := 17) rfl (fun r2 hk => ?_)
    refine g_bt C 22 dX10_dig_17 (by decide) (n := 20) rfl hk (fun hk => ?_) (fun hk => ?_)
    · refine g_iload_n C 2 dX10_dig_22 rfl rfl (n := 23) rfl ?_
      refine Ok.join hk (Sum.elim (PI Θ Γ cX10_dig) (fun a5 => G Θ Γ 42 [(0, .ref (rr Θ 24 0 0)), (1, .int p1), (2, .int p2)] [] h)) (fun e hk => ?_) (fun hk => ?_)
      · rcases e with r | a5
        · exact hk.out
        · replace hk := ok_inr hk
          refine g_aload_n C 0 dX10_dig_42 rfl rfl (n := 43) rfl ?_
          refine g_iconst C (0 : Int32) dX10_dig_43 (by decide) (n := 44) rfl ?_
          refine g_iload_n C 1 dX10_dig_44 rfl rfl (n := 45) rfl ?_
          refine g_iadd C dX10_dig_45 (n := 46) rfl ?_
          refine g_iload_n C 2 dX10_dig_46 rfl rfl (n := 47) rfl ?_
          refine g_cVI C hk (fun K hk => L_X10_becomes Θ ((0 : Int32) + p1) p2 h K hk) lk_X10_233 kc_24 (by decide) (by decide) ⟨rfl, rfl⟩ ⟨Nat.le_of_ble_eq_true rfl, Nat.le_of_ble_eq_true rfl⟩ dX10_dig_47 rfl rfl (Nat.le_of_ble_eq_true rfl) (n := 50) rfl (fun r6 h7 hk => ?_)
          exact retI hk.out dX10_dig_50
      · refine g_if_ne C 42 dX10_dig_23 (by decide) (n := 26) rfl hk (fun hk => ?_) (fun hk => ?_)
        · exact hk.out
        · refine g_aload_n C 0 dX10_dig_26 rfl rfl (n := 27) rfl ?_
          refine g_bipush C (20 : Int32) dX10_dig_27 (by decide) (n := 29) rfl ?_
          refine g_iload_n C 1 dX10_dig_29 rfl rfl (n := 30) rfl ?_
          refine g_iadd C dX10_dig_30 (n := 31) rfl ?_
          refine g_cVIp C hk (fun K hk => L_X10_manyAt Θ ((20 : Int32) + p1) h K hk) lk_X10_230 kc_24 (by decide) (by decide) ⟨rfl, rfl⟩ ⟨Nat.le_of_ble_eq_true rfl, Nat.le_of_ble_eq_true rfl⟩ dX10_dig_31 rfl rfl (Nat.le_of_ble_eq_true rfl) (n := 34) rfl (fun r4 hk => ?_)
          refine g_if_le C 42 dX10_dig_34 (by decide) (n := 37) rfl hk (fun hk => ?_) (fun hk => ?_)
          · exact hk.out
          · refine g_bipush C (-2 : Int32) dX10_dig_37 (by decide) (n := 39) rfl ?_
            refine g_goto C 50 dX10_dig_39 (by decide) ?_
            exact retI hk.out dX10_dig_50
    · refine g_iconst C (-1 : Int32) dX10_dig_20 (by decide) (n := 21) rfl ?_
      exact retI hk.out dX10_dig_21
def f_X10_end (p1 : Int32) (h : Mem) : Option (Int32 × Mem) := obd (f_X10_in ((p1).toInt64) (0 : Int64) ((h 24 10 0 0).toInt64) h) (fun r1 => (if r1 = true then bnd (h 24 10 0 0) (fun x2 => bnd (up h 24 10 0 0 p1) (fun h3 => some (x2, h3))) else some ((-1 : Int32), h)))
def rm_X10_end : Room := { frames := 1, cells := 0, slots := 0, locals := 25 }
set_option maxHeartbeats 4000000 in
set_option maxRecDepth 100000 in
theorem L_X10_end (Θ : Tht) (p1 : Int32) (h : Mem) (K : Int32 × Mem → Prop) (hk : Ok (f_X10_end p1 h) K) : CI Θ yX10_end cX10_end 3 (some .int) rm_X10_end [.ref (rr Θ 24 0 0), .int p1] h K := by
  refine CI.of K [(0, .ref (rr Θ 24 0 0)), (1, .int p1)] (plainFor_of_name (by decide)) (Nat.le_of_ble_eq_true rfl) rfl (fun Γ C Rt => ?_)
  replace hk := rtI Rt hk
  unfold f_X10_end at hk
  refine g_iload_n C 1 dX10_end_0 rfl rfl (n := 1) rfl ?_
  refine g_i2l C dX10_end_1 (n := 2) rfl ?_
  refine g_lconst C (0 : Int64) dX10_end_2 (by decide) (n := 3) rfl ?_
  refine g_aload_n C 0 dX10_end_3 rfl rfl (n := 4) rfl ?_
  refine g_getI C kc_24 ft_24_10 (by decide) (by decide) (by decide) wm_907 dX10_end_4 (n := 7) rfl ?_
  refine g_i2l C dX10_end_7 (n := 8) rfl ?_
  refine g_cSBp C hk (fun K hk => L_X10_in Θ ((p1).toInt64) (0 : Int64) ((h 24 10 0 0).toInt64) h K hk) lk_X10_95 ⟨rfl, rfl⟩ ⟨Nat.le_of_ble_eq_true rfl, Nat.le_of_ble_eq_true rfl⟩ dX10_end_8 rfl rfl (Nat.le_of_ble_eq_true rfl) (n := 11) rfl (fun r1 hk => ?_)
  refine g_bt C 16 dX10_end_11 (by decide) (n := 14) rfl hk (fun hk => ?_) (fun hk => ?_)
  · refine g_aload_n C 0 dX10_end_16 rfl rfl (n := 17) rfl ?_
    refine g_getI C kc_24 ft_24_10 (by decide) (by decide) (by decide) wm_907 dX10_end_17 (n := 20) rfl ?_
    refine g_nm hk (fun x2 hk => ?_)
    refine g_istore_n C [(2, .int x2), (0, .ref (rr Θ 24 0 0)), (1, .int p1)] dX10_end_20 rfl (by decide) rfl (n := 21) rfl ?_
    refine g_aload_n C 1 dX10_end_21 rfl rfl (n := 22) rfl ?_
    refine g_iload_n C 2 dX10_end_22 rfl rfl (n := 23) rfl ?_
    refine g_putI C kc_24 ft_24_10 (by decide) (by decide) (by decide) rfl (fitI _) wm_907 dX10_end_23 (n := 26) rfl hk (fun h3 hk => ?_)
    refine g_iload_n C 0 dX10_end_26 rfl rfl (n := 27) rfl ?_
    exact retI hk.out dX10_end_27
  · refine g_iconst C (-1 : Int32) dX10_end_14 (by decide) (n := 15) rfl ?_
    exact retI hk.out dX10_end_15
def f_X10_look (p1 : Int32) (h : Mem) : Option (Int32) := (if (h 24 10 0 0) ≤ p1 then some (-1 : Int32) else gd (inb p1 320) (some (h 28 0 0 p1.toNatClampNeg)))
def rm_X10_look : Room := { frames := 0, cells := 0, slots := 0, locals := 0 }
set_option maxHeartbeats 4000000 in
set_option maxRecDepth 100000 in
theorem L_X10_look (Θ : Tht) (p1 : Int32) (h : Mem) (K : Int32 × Mem → Prop) (hk : Ok (f_X10_look p1 h) (fun r => K (r, h))) : CI Θ yX10_look cX10_look 2 (some .int) rm_X10_look [.ref (rr Θ 24 0 0), .int p1] h K := by
  refine CI.of K [(0, .ref (rr Θ 24 0 0)), (1, .int p1)] (plainFor_of_name (by decide)) (Nat.le_of_ble_eq_true rfl) rfl (fun Γ C Rt => ?_)
  replace hk := rtIp Rt hk
  unfold f_X10_look at hk
  refine g_iload_n C 1 dX10_look_0 rfl rfl (n := 1) rfl ?_
  refine g_aload_n C 0 dX10_look_1 rfl rfl (n := 2) rfl ?_
  refine g_getI C kc_24 ft_24_10 (by decide) (by decide) (by decide) wm_907 dX10_look_2 (n := 5) rfl ?_
  refine g_ic_ge C 17 dX10_look_5 (by decide) (n := 8) rfl hk (fun hk => ?_) (fun hk => ?_)
  · refine g_iconst C (-1 : Int32) dX10_look_17 (by decide) (n := 18) rfl ?_
    exact retI hk.out dX10_look_18
  · refine g_aload_n C 0 dX10_look_8 rfl rfl (n := 9) rfl ?_
    refine g_getR C kc_24 (rt_24_9 (tB Θ) 0) (by decide) (by decide) (by decide) wm_906 dX10_look_9 (n := 12) rfl ?_
    refine g_iload_n C 1 dX10_look_12 rfl rfl (n := 13) rfl ?_
    refine g_iald C an_28 (by decide) dX10_look_13 (n := 14) rfl hk (fun _ hk => ?_)
    refine g_goto C 18 dX10_look_14 (by decide) ?_
    exact retI hk.out dX10_look_18
def f_X10_ends (p1 : Int32) (p2 : Int32) (p3 : Int32) (h : Mem) : Option (Bool) := obd (f_X10_look ((h 24 12 0 0) + (3 : Int32)) h) (fun r1 => (if r1 = p1 then obd ((if p2 = 0 then some (.inr ()) else obd (f_X10_look ((h 24 12 0 0) + (4 : Int32)) h) (fun r3 => (if r3 = p2 then some (.inr ()) else some (.inl false))))) (Sum.elim (fun r => some r) (fun a4 => (if p3 = 0 then some true else obd (f_X10_look ((h 24 12 0 0) + (5 : Int32)) h) (fun r5 => (if r5 = p3 then some true else some false))))) else some false))
def rm_X10_ends : Room := { frames := 1, cells := 0, slots := 0, locals := 21 }
set_option maxHeartbeats 4000000 in
set_option maxRecDepth 100000 in
theorem L_X10_ends (Θ : Tht) (p1 : Int32) (p2 : Int32) (p3 : Int32) (h : Mem) (K : Bool × Mem → Prop) (hk : Ok (f_X10_ends p1 p2 p3 h) (fun r => K (r, h))) : CB Θ yX10_ends cX10_ends 4 (some .boolean) rm_X10_ends [.ref (rr Θ 24 0 0), .int p1, .int p2, .int p3] h K := by
  refine CB.of K [(0, .ref (rr Θ 24 0 0)), (1, .int p1), (2, .int p2), (3, .int p3)] (plainFor_of_name (by decide)) (Nat.le_of_ble_eq_true rfl) rfl (fun Γ C Rt => ?_)
  replace hk := rtBp Rt hk
  unfold f_X10_ends at hk
  refine g_aload_n C 0 dX10_ends_0 rfl rfl (n := 1) rfl ?_
  refine g_aload_n C 0 dX10_ends_1 rfl rfl (n := 2) rfl ?_
  refine g_getI C kc_24 ft_24_12 (by decide) (by decide) (by decide) wm_909 dX10_ends_2 (n := 5) rfl ?_
  refine g_iconst C (3 : Int32) dX10_ends_5 (by decide) (n := 6) rfl ?_
  refine g_iadd C dX10_ends_6 (n := 7) rfl ?_
  refine g_cVIp C hk (fun K hk => L_X10_look Θ ((h 24 12 0 0) + (3 : Int32)) h K hk) lk_X10_111 kc_24 (by decide) (by decide) ⟨rfl, rfl⟩ ⟨Nat.le_of_ble_eq_true rfl, Nat.le_of_ble_eq_true rfl⟩ dX10_ends_7 rfl rfl (Nat.le_of_ble_eq_true rfl) (n := 10) rfl (fun r1 hk => ?_)
  refine g_iload_n C 1 dX10_ends_10 rfl rfl (n := 11) rfl ?_
  refine g_ic_ne C 54 dX10_ends_11 (by decide) (n := 14) rfl hk (fun hk => ?_) (fun hk => ?_)
  · refine g_iconst C (0 : Int32) dX10_ends_54 (by decide) (n := 55) rfl ?_
    exact retB false rfl hk.out dX10_ends_55
  · refine g_iload_n C 2 dX10_ends_14 rfl rfl (n := 15) rfl ?_
    refine Ok.join hk (Sum.elim (fun r => PB Θ Γ cX10_ends (r, h)) (fun a4 => G Θ Γ 32 [(0, .ref (rr Θ 24 0 0)), (3, .int p3)] [] h)) (fun e hk => ?_) (fun hk => ?_)
    · rcases e with r | a4
      · exact hk.out
      · replace hk := ok_inr hk
        refine g_iload_n C 1 dX10_ends_32 rfl rfl (n := 33) rfl ?_
        refine g_if_eq C 50 dX10_ends_33 (by decide) (n := 36) rfl hk (fun hk => ?_) (fun hk => ?_)
        · refine g_iconst C (1 : Int32) dX10_ends_50 (by decide) (n := 51) rfl ?_
          refine g_goto C 55 dX10_ends_51 (by decide) ?_
          exact retB true rfl hk.out dX10_ends_55
        · refine g_aload_n C 0 dX10_ends_36 rfl rfl (n := 37) rfl ?_
          refine g_aload_n C 0 dX10_ends_37 rfl rfl (n := 38) rfl ?_
          refine g_getI C kc_24 ft_24_12 (by decide) (by decide) (by decide) wm_909 dX10_ends_38 (n := 41) rfl ?_
          refine g_iconst C (5 : Int32) dX10_ends_41 (by decide) (n := 42) rfl ?_
          refine g_iadd C dX10_ends_42 (n := 43) rfl ?_
          refine g_cVIp C hk (fun K hk => L_X10_look Θ ((h 24 12 0 0) + (5 : Int32)) h K hk) lk_X10_111 kc_24 (by decide) (by decide) ⟨rfl, rfl⟩ ⟨Nat.le_of_ble_eq_true rfl, Nat.le_of_ble_eq_true rfl⟩ dX10_ends_43 rfl rfl (Nat.le_of_ble_eq_true rfl) (n := 46) rfl (fun r5 hk => ?_)
          refine g_iload_n C 1 dX10_ends_46 rfl rfl (n := 47) rfl ?_
          refine g_ic_ne C 54 dX10_ends_47 (by decide) (n := 50) rfl hk (fun hk => ?_) (fun hk => ?_)
          · refine g_iconst C (0 : Int32) dX10_ends_54 (by decide) (n := 55) rfl ?_
            exact retB false rfl hk.out dX10_ends_55
          · refine g_iconst C (1 : Int32) dX10_ends_50 (by decide) (n := 51) rfl ?_
            refine g_goto C 55 dX10_ends_51 (by decide) ?_
            exact retB true rfl hk.out dX10_ends_55
    · refine g_if_eq C 32 dX10_ends_15 (by decide) (n := 18) rfl hk (fun hk => ?_) (fun hk => ?_)
      · refine g_lv [0, 3] [(0, .ref (rr Θ 24 0 0)), (3, .int p3)] rfl ?_
        exact hk.out
      · refine g_aload_n C 0 dX10_ends_18 rfl rfl (n := 19) rfl ?_
        refine g_aload_n C 0 dX10_ends_19 rfl rfl (n := 20) rfl ?_
        refine g_getI C kc_24 ft_24_12 (by decide) (by decide) (by decide) wm_909 dX10_ends_20 (n := 23) rfl ?_
        refine g_iconst C (4 : Int32) dX10_ends_23 (by decide) (n := 24) rfl ?_
        refine g_iadd C dX10_ends_24 (n := 25) rfl ?_
        refine g_cVIp C hk (fun K hk => L_X10_look Θ ((h 24 12 0 0) + (4 : Int32)) h K hk) lk_X10_111 kc_24 (by decide) (by decide) ⟨rfl, rfl⟩ ⟨Nat.le_of_ble_eq_true rfl, Nat.le_of_ble_eq_true rfl⟩ dX10_ends_25 rfl rfl (Nat.le_of_ble_eq_true rfl) (n := 28) rfl (fun r3 hk => ?_)
        refine g_iload_n C 2 dX10_ends_28 rfl rfl (n := 29) rfl ?_
        refine g_ic_ne C 54 dX10_ends_29 (by decide) (n := 32) rfl hk (fun hk => ?_) (fun hk => ?_)
        · refine g_iconst C (0 : Int32) dX10_ends_54 (by decide) (n := 55) rfl ?_
          exact retB false rfl hk.out dX10_ends_55
        · refine g_lv [0, 3] [(0, .ref (rr Θ 24 0 0)), (3, .int p3)] rfl ?_
          exact hk.out
def f_X10_fake (p1 : Int32) (p2 : Bool) (h : Mem) : Option (Int32 × Mem) := obd (f_X10_isCoin p1 h) (fun r1 => (if r1 = true then obd (f_X10_flag p2 h) (fun r2 => ob2 (f_X10_becomes ((15 : Int32) + p1) r2 h) (fun r3 h4 => some (r3, h4))) else some ((-1 : Int32), h)))
def rm_X10_fake : Room := { frames := 2, cells := 0, slots := 0, locals := 46 }
set_option maxHeartbeats 4000000 in
set_option maxRecDepth 100000 in
theorem L_X10_fake (Θ : Tht) (p1 : Int32) (p2 : Bool) (h : Mem) (K : Int32 × Mem → Prop) (hk : Ok (f_X10_fake p1 p2 h) K) : CI Θ yX10_fake cX10_fake 3 (some .int) rm_X10_fake [.ref (rr Θ 24 0 0), .int p1, .int (b2i p2)] h K := by
  refine CI.of K [(0, .ref (rr Θ 24 0 0)), (1, .int p1), (2, .int (b2i p2))] (plainFor_of_name (by decide)) (Nat.le_of_ble_eq_true rfl) rfl (fun Γ C Rt => ?_)
  replace hk := rtI Rt hk
  unfold f_X10_fake at hk
  refine g_aload_n C 0 dX10_fake_0 rfl rfl (n := 1) rfl ?_
  refine g_iload_n C 1 dX10_fake_1 rfl rfl (n := 2) rfl ?_
  refine g_cVBp C hk (fun K hk => L_X10_isCoin Θ p1 h K hk) lk_X10_219 kc_24 (by decide) (by decide) ⟨rfl, rfl⟩ ⟨Nat.le_of_ble_eq_true rfl, Nat.le_of_ble_eq_true rfl⟩ dX10_fake_2 rfl rfl (Nat.le_of_ble_eq_true rfl) (n := 5) rfl (fun r1 hk => ?_)
  refine g_bf C 23 dX10_fake_5 (by decide) (n := 8) rfl hk (fun hk => ?_) (fun hk => ?_)
  · refine g_iconst C (-1 : Int32) dX10_fake_23 (by decide) (n := 24) rfl ?_
    exact retI hk.out dX10_fake_24
  · refine g_aload_n C 0 dX10_fake_8 rfl rfl (n := 9) rfl ?_
    refine g_bipush C (15 : Int32) dX10_fake_9 (by decide) (n := 11) rfl ?_
    refine g_iload_n C 1 dX10_fake_11 rfl rfl (n := 12) rfl ?_
    refine g_iadd C dX10_fake_12 (n := 13) rfl ?_
    refine g_iload_n C 2 dX10_fake_13 rfl rfl (n := 14) rfl ?_
    refine g_cSIp C hk (fun K hk => L_X10_flag Θ p2 h K hk) lk_X10_158 ⟨rfl, rfl⟩ ⟨Nat.le_of_ble_eq_true rfl, Nat.le_of_ble_eq_true rfl⟩ dX10_fake_14 rfl rfl (Nat.le_of_ble_eq_true rfl) (n := 17) rfl (fun r2 hk => ?_)
    refine g_cVI C hk (fun K hk => L_X10_becomes Θ ((15 : Int32) + p1) r2 h K hk) lk_X10_233 kc_24 (by decide) (by decide) ⟨rfl, rfl⟩ ⟨Nat.le_of_ble_eq_true rfl, Nat.le_of_ble_eq_true rfl⟩ dX10_fake_17 rfl rfl (Nat.le_of_ble_eq_true rfl) (n := 20) rfl (fun r3 h4 hk => ?_)
    refine g_goto C 24 dX10_fake_20 (by decide) ?_
    exact retI hk.out dX10_fake_24
def f_X10_isSo  (h : Mem) : Option (Bool × Mem) := obd (lp fu (fun a57 => (if (20 : Int32) < a57.2.1 then some (.inr (a57.1, a57.2.2)) else obd (lp fu (fun a74 => (if (a57.2.2 25 0 0 46) ≤ a74.2 then some (.inr a74.1) else bnd ((47 : Int32) + ((4 : Int32) * a74.2)) (fun x75 => (if a74.1 = true then gd (inb x75 237) ((if (a57.2.2 25 0 0 x75.toNatClampNeg) = a57.2.1 then gd (inb (x75 + (1 : Int32)) 237) (gd (inb (a57.2.2 25 0 0 (x75 + (1 : Int32)).toNatClampNeg) 6) (gd (inb (x75 + (2 : Int32)) 237) (obd ((if (a57.2.2 31 0 0 (a57.2.2 25 0 0 (x75 + (1 : Int32)).toNatClampNeg).toNatClampNeg) = (a57.2.2 25 0 0 (x75 + (2 : Int32)).toNatClampNeg) then some true else some false)) (fun a78 => obd (f_X10_flag a78 a57.2.2) (fun r79 => gd (inb (x75 + (3 : Int32)) 237) ((if r79 = (a57.2.2 25 0 0 (x75 + (3 : Int32)).toNatClampNeg) then bnd (a74.2 + (1 : Int32)) (fun x81 => some (.inl (true, x81))) else bnd (a74.2 + (1 : Int32)) (fun x80 => some (.inl (false, x80)))))))))) else bnd (a74.2 + (1 : Int32)) (fun x77 => some (.inl (true, x77))))) else bnd (a74.2 + (1 : Int32)) (fun x76 => some (.inl (false, x76))))))) (a57.1, (0 : Int32))) (fun e82 => obd (f_X10_steps a57.2.2) (fun h83 => bnd (a57.2.1 + (1 : Int32)) (fun x84 => some (.inl (e82, x84, h83))))))) (true, (0 : Int32), h)) (fun e85 => some (e85.1, e85.2))
def rm_X10_isSo : Room := { frames := 4, cells := 0, slots := 0, locals := 91 }
set_option maxHeartbeats 4000000 in
set_option maxRecDepth 100000 in
theorem L_X10_isSo (Θ : Tht)  (h : Mem) (K : Bool × Mem → Prop) (hk : Ok (f_X10_isSo  h) K) : CB Θ yX10_isSo cX10_isSo 5 (some .boolean) rm_X10_isSo [.ref (rr Θ 24 0 0)] h K := by
  refine CB.of K [(0, .ref (rr Θ 24 0 0))] (plainFor_of_name (by decide)) (Nat.le_of_ble_eq_true rfl) rfl (fun Γ C Rt => ?_)
  replace hk := rtB Rt hk
  unfold f_X10_isSo at hk
  refine g_iconst C (1 : Int32) dX10_isSo_0 (by decide) (n := 1) rfl ?_
  refine g_istore_n C [(1, .int (1 : Int32)), (0, .ref (rr Θ 24 0 0))] dX10_isSo_1 rfl (by decide) rfl (n := 2) rfl ?_
  refine g_iconst C (0 : Int32) dX10_isSo_2 (by decide) (n := 3) rfl ?_
  refine g_istore_n C [(2, .int (0 : Int32)), (1, .int (1 : Int32)), (0, .ref (rr Θ 24 0 0))] dX10_isSo_3 rfl (by decide) rfl (n := 4) rfl ?_
  refine g_lv [2, 1, 0] [(0, .ref (rr Θ 24 0 0)), (1, .int (1 : Int32)), (2, .int (0 : Int32))] rfl ?_
  refine Ok.join hk (fun e85 => G Θ Γ 114 [(1, .int (b2i e85.1))] [] e85.2) (fun e85 hk => ?_) (fun hk => ?_)
  · refine g_iload_n C 0 dX10_isSo_114 rfl rfl (n := 115) rfl ?_
    exact retB e85.1 rfl hk.out dX10_isSo_115
  · refine Ok.loop (fun a57 => G Θ Γ 4 [(0, .ref (rr Θ 24 0 0)), (1, .int (b2i a57.1)), (2, .int a57.2.1)] [] a57.2.2) (fun a57 hk => ?_) _ _ hk
    refine g_iload_n C 2 dX10_isSo_4 rfl rfl (n := 5) rfl ?_
    refine g_bipush C (20 : Int32) dX10_isSo_5 (by decide) (n := 7) rfl ?_
    refine g_ic_gt C 114 dX10_isSo_7 (by decide) (n := 10) rfl hk (fun hk => ?_) (fun hk => ?_)
    · refine g_lv [1] [(1, .int (b2i a57.1))] rfl ?_
      exact hk.out
    · refine g_iconst C (0 : Int32) dX10_isSo_10 (by decide) (n := 11) rfl ?_
      refine g_istore_n C [(3, .int (0 : Int32)), (0, .ref (rr Θ 24 0 0)), (1, .int (b2i a57.1)), (2, .int a57.2.1)] dX10_isSo_11 rfl (by decide) rfl (n := 12) rfl ?_
      refine g_lv [1, 2, 3, 0] [(0, .ref (rr Θ 24 0 0)), (1, .int (b2i a57.1)), (2, .int a57.2.1), (3, .int (0 : Int32))] rfl ?_
      refine Ok.join hk (fun e82 => G Θ Γ 104 [(0, .ref (rr Θ 24 0 0)), (1, .int (b2i e82)), (2, .int a57.2.1)] [] a57.2.2) (fun e82 hk => ?_) (fun hk => ?_)
      · refine g_aload_n C 0 dX10_isSo_104 rfl rfl (n := 105) rfl ?_
        refine g_cVV C hk (fun K hk => L_X10_steps Θ a57.2.2 K hk) lk_X10_213 kc_24 (by decide) (by decide) ⟨rfl, rfl⟩ ⟨Nat.le_of_ble_eq_true rfl, Nat.le_of_ble_eq_true rfl⟩ dX10_isSo_105 rfl rfl (Nat.le_of_ble_eq_true rfl) (n := 108) rfl (fun h83 hk => ?_)
        refine g_iinc C 2 (fun x84 => [(2, .int x84), (0, .ref (rr Θ 24 0 0)), (1, .int (b2i e82))]) dX10_isSo_108 rfl (v := (a57.2.1 + (1 : Int32))) rfl (by decide) (fun _ => rfl) (n := 111) rfl hk (fun x84 hk => ?_)
        refine g_goto C 4 dX10_isSo_111 (by decide) ?_
        refine g_lv [1, 2, 0] [(0, .ref (rr Θ 24 0 0)), (1, .int (b2i e82)), (2, .int x84)] rfl ?_
        exact hk.out
      · refine Ok.loop (fun a74 => G Θ Γ 12 [(0, .ref (rr Θ 24 0 0)), (1, .int (b2i a74.1)), (2, .int a57.2.1), (3, .int a74.2)] [] a57.2.2) (fun a74 hk => ?_) _ _ hk
        refine g_iload_n C 3 dX10_isSo_12 rfl rfl (n := 13) rfl ?_
        refine g_aload_n C 0 dX10_isSo_13 rfl rfl (n := 14) rfl ?_
        refine g_getR C kc_24 (rt_24_0 (tB Θ) 0) (by decide) (by decide) (by decide) wm_897 dX10_isSo_14 (n := 17) rfl ?_
        refine g_bipush C (46 : Int32) dX10_isSo_17 (by decide) (n := 19) rfl ?_
        refine g_ialdL C 46 an_25 (by decide) (by decide) (by decide) dX10_isSo_19 (n := 20) rfl ?_
        refine g_ic_ge C 104 dX10_isSo_20 (by decide) (n := 23) rfl hk (fun hk => ?_) (fun hk => ?_)
        · refine g_lv [0, 1, 2] [(0, .ref (rr Θ 24 0 0)), (1, .int (b2i a74.1)), (2, .int a57.2.1)] rfl ?_
          exact hk.out
        · refine g_bipush C (47 : Int32) dX10_isSo_23 (by decide) (n := 25) rfl ?_
          refine g_iconst C (4 : Int32) dX10_isSo_25 (by decide) (n := 26) rfl ?_
          refine g_iload_n C 3 dX10_isSo_26 rfl rfl (n := 27) rfl ?_
          refine g_imul C dX10_isSo_27 (n := 28) rfl ?_
          refine g_iadd C dX10_isSo_28 (n := 29) rfl ?_
          refine g_nm hk (fun x75 hk => ?_)
          refine g_istore C [(4, .int x75), (0, .ref (rr Θ 24 0 0)), (1, .int (b2i a74.1)), (2, .int a57.2.1), (3, .int a74.2)] dX10_isSo_29 (by decide) rfl (n := 31) rfl ?_
          refine g_iload_n C 2 dX10_isSo_31 rfl rfl (n := 32) rfl ?_
          refine g_bf C 96 dX10_isSo_32 (by decide) (n := 35) rfl hk (fun hk => ?_) (fun hk => ?_)
          · refine g_iconst C (0 : Int32) dX10_isSo_96 (by decide) (n := 97) rfl ?_
            refine g_istore_n C [(1, .int (0 : Int32)), (4, .int x75), (0, .ref (rr Θ 24 0 0)), (2, .int a57.2.1), (3, .int a74.2)] dX10_isSo_97 rfl (by decide) rfl (n := 98) rfl ?_
            refine g_iinc C 4 (fun x76 => [(3, .int x76), (1, .int (0 : Int32)), (4, .int x75), (0, .ref (rr Θ 24 0 0)), (2, .int a57.2.1)]) dX10_isSo_98 rfl (v := (a74.2 + (1 : Int32))) rfl (by decide) (fun _ => rfl) (n := 101) rfl hk (fun x76 hk => ?_)
            refine g_goto C 12 dX10_isSo_101 (by decide) ?_
            refine g_lv [3, 1, 4, 0] [(0, .ref (rr Θ 24 0 0)), (1, .int (0 : Int32)), (2, .int a57.2.1), (3, .int x76)] rfl ?_
            exact hk.out
          · refine g_aload_n C 1 dX10_isSo_35 rfl rfl (n := 36) rfl ?_
            refine g_getR C kc_24 (rt_24_0 (tB Θ) 0) (by decide) (by decide) (by decide) wm_897 dX10_isSo_36 (n := 39) rfl ?_
            refine g_iload C 0 dX10_isSo_39 rfl (n := 41) rfl ?_
            refine g_iald C an_25 (by decide) dX10_isSo_41 (n := 42) rfl hk (fun _ hk => ?_)
            refine g_iload_n C 3 dX10_isSo_42 rfl rfl (n := 43) rfl ?_
            refine g_ic_ne C 92 dX10_isSo_43 (by decide) (n := 46) rfl hk (fun hk => ?_) (fun hk => ?_)
            · refine g_iconst C (1 : Int32) dX10_isSo_92 (by decide) (n := 93) rfl ?_
              refine g_goto C 97 dX10_isSo_93 (by decide) ?_
              refine g_istore_n C [(1, .int (1 : Int32)), (4, .int x75), (0, .ref (rr Θ 24 0 0)), (2, .int a57.2.1), (3, .int a74.2)] dX10_isSo_97 rfl (by decide) rfl (n := 98) rfl ?_
              refine g_iinc C 4 (fun x77 => [(3, .int x77), (1, .int (1 : Int32)), (4, .int x75), (0, .ref (rr Θ 24 0 0)), (2, .int a57.2.1)]) dX10_isSo_98 rfl (v := (a74.2 + (1 : Int32))) rfl (by decide) (fun _ => rfl) (n := 101) rfl hk (fun x77 hk => ?_)
              refine g_goto C 12 dX10_isSo_101 (by decide) ?_
              refine g_lv [3, 1, 4, 0] [(0, .ref (rr Θ 24 0 0)), (1, .int (1 : Int32)), (2, .int a57.2.1), (3, .int x77)] rfl ?_
              exact hk.out
            · refine g_aload_n C 1 dX10_isSo_46 rfl rfl (n := 47) rfl ?_
              refine g_getR C kc_24 (rt_24_19 (tB Θ) 0) (by decide) (by decide) (by decide) wm_916 dX10_isSo_47 (n := 50) rfl ?_
              refine g_aload_n C 1 dX10_isSo_50 rfl rfl (n := 51) rfl ?_
              refine g_getR C kc_24 (rt_24_0 (tB Θ) 0) (by decide) (by decide) (by decide) wm_897 dX10_isSo_51 (n := 54) rfl ?_
              refine g_iload C 0 dX10_isSo_54 rfl (n := 56) rfl ?_
              refine g_iconst C (1 : Int32) dX10_isSo_56 (by decide) (n := 57) rfl ?_
              refine g_iadd C dX10_isSo_57 (n := 58) rfl ?_
              refine g_iald C an_25 (by decide) dX10_isSo_58 (n := 59) rfl hk (fun _ hk => ?_)
              refine g_iald C an_31 (by decide) dX10_isSo_59 (n := 60) rfl hk (fun _ hk => ?_)
              refine g_aload_n C 1 dX10_isSo_60 rfl rfl (n := 61) rfl ?_
              refine g_getR C kc_24 (rt_24_0 (tB Θ) 0) (by decide) (by decide) (by decide) wm_897 dX10_isSo_61 (n := 64) rfl ?_
              refine g_iload C 0 dX10_isSo_64 rfl (n := 66) rfl ?_
              refine g_iconst C (2 : Int32) dX10_isSo_66 (by decide) (n := 67) rfl ?_
              refine g_iadd C dX10_isSo_67 (n := 68) rfl ?_
              refine g_iald C an_25 (by decide) dX10_isSo_68 (n := 69) rfl hk (fun _ hk => ?_)
              refine Ok.join hk (fun a78 => G Θ Γ 77 [(0, .ref (rr Θ 24 0 0)), (2, .int a57.2.1), (3, .int a74.2), (4, .int x75)] [.int (b2i a78)] a57.2.2) (fun a78 hk => ?_) (fun hk => ?_)
              · refine g_cSIp C hk (fun K hk => L_X10_flag Θ a78 a57.2.2 K hk) lk_X10_158 ⟨rfl, rfl⟩ ⟨Nat.le_of_ble_eq_true rfl, Nat.le_of_ble_eq_true rfl⟩ dX10_isSo_77 rfl rfl (Nat.le_of_ble_eq_true rfl) (n := 80) rfl (fun r79 hk => ?_)
                refine g_aload_n C 0 dX10_isSo_80 rfl rfl (n := 81) rfl ?_
                refine g_getR C kc_24 (rt_24_0 (tB Θ) 0) (by decide) (by decide) (by decide) wm_897 dX10_isSo_81 (n := 84) rfl ?_
                refine g_iload C 3 dX10_isSo_84 rfl (n := 86) rfl ?_
                refine g_iconst C (3 : Int32) dX10_isSo_86 (by decide) (n := 87) rfl ?_
                refine g_iadd C dX10_isSo_87 (n := 88) rfl ?_
                refine g_iald C an_25 (by decide) dX10_isSo_88 (n := 89) rfl hk (fun _ hk => ?_)
                refine g_ic_ne C 96 dX10_isSo_89 (by decide) (n := 92) rfl hk (fun hk => ?_) (fun hk => ?_)
                · refine g_iconst C (0 : Int32) dX10_isSo_96 (by decide) (n := 97) rfl ?_
                  refine g_istore_n C [(1, .int (0 : Int32)), (0, .ref (rr Θ 24 0 0)), (2, .int a57.2.1), (3, .int a74.2), (4, .int x75)] dX10_isSo_97 rfl (by decide) rfl (n := 98) rfl ?_
                  refine g_iinc C 3 (fun x80 => [(3, .int x80), (1, .int (0 : Int32)), (0, .ref (rr Θ 24 0 0)), (2, .int a57.2.1), (4, .int x75)]) dX10_isSo_98 rfl (v := (a74.2 + (1 : Int32))) rfl (by decide) (fun _ => rfl) (n := 101) rfl hk (fun x80 hk => ?_)
                  refine g_goto C 12 dX10_isSo_101 (by decide) ?_
                  refine g_lv [2, 1, 3, 0] [(0, .ref (rr Θ 24 0 0)), (1, .int (0 : Int32)), (2, .int a57.2.1), (3, .int x80)] rfl ?_
                  exact hk.out
                · refine g_iconst C (1 : Int32) dX10_isSo_92 (by decide) (n := 93) rfl ?_
                  refine g_goto C 97 dX10_isSo_93 (by decide) ?_
                  refine g_istore_n C [(1, .int (1 : Int32)), (0, .ref (rr Θ 24 0 0)), (2, .int a57.2.1), (3, .int a74.2), (4, .int x75)] dX10_isSo_97 rfl (by decide) rfl (n := 98) rfl ?_
                  refine g_iinc C 3 (fun x81 => [(3, .int x81), (1, .int (1 : Int32)), (0, .ref (rr Θ 24 0 0)), (2, .int a57.2.1), (4, .int x75)]) dX10_isSo_98 rfl (v := (a74.2 + (1 : Int32))) rfl (by decide) (fun _ => rfl) (n := 101) rfl hk (fun x81 hk => ?_)
                  refine g_goto C 12 dX10_isSo_101 (by decide) ?_
                  refine g_lv [2, 1, 3, 0] [(0, .ref (rr Θ 24 0 0)), (1, .int (1 : Int32)), (2, .int a57.2.1), (3, .int x81)] rfl ?_
                  exact hk.out
              · refine g_ic_ne C 76 dX10_isSo_69 (by decide) (n := 72) rfl hk (fun hk => ?_) (fun hk => ?_)
                · refine g_iconst C (0 : Int32) dX10_isSo_76 (by decide) (n := 77) rfl ?_
                  refine g_lv [1, 3, 4, 0] [(0, .ref (rr Θ 24 0 0)), (2, .int a57.2.1), (3, .int a74.2), (4, .int x75)] rfl ?_
                  exact hk.out
                · refine g_iconst C (1 : Int32) dX10_isSo_72 (by decide) (n := 73) rfl ?_
                  refine g_goto C 77 dX10_isSo_73 (by decide) ?_
                  refine g_lv [1, 3, 4, 0] [(0, .ref (rr Θ 24 0 0)), (2, .int a57.2.1), (3, .int a74.2), (4, .int x75)] rfl ?_
                  exact hk.out
