def f_X0_rightPlace (o0 : Nat) (o1 : Nat) (i1 : Nat) (h : Mem) : Option (Int32) := obd (lp fu (fun a11 => (if (h 1 0 o0 0) ≤ a11.2 then some (.inr a11.1) else (if (h 6 1 o1 i1) = 0 then gd (inb a11.2 8) ((if (h 2 0 o0 a11.2.toNatClampNeg) < (h 6 0 o1 i1) then bnd (a11.2 + (1 : Int32)) (fun x12 => some (.inl (a11.1, x12))) else (if a11.1 = (-1 : Int32) then bnd (a11.2 + (1 : Int32)) (fun x13 => some (.inl (a11.2, x13))) else gd (inb a11.2 8) (gd (inb a11.1 8) ((if (h 2 0 o0 a11.1.toNatClampNeg) ≤ (h 2 0 o0 a11.2.toNatClampNeg) then bnd (a11.2 + (1 : Int32)) (fun x14 => some (.inl (a11.1, x14))) else bnd (a11.2 + (1 : Int32)) (fun x15 => some (.inl (a11.2, x15))))))))) else some (.inr a11.1)))) ((-1 : Int32), (0 : Int32))) (fun e16 => some e16)
def rm_X0_rightPlace : Room := { frames := 0, cells := 0, slots := 0, locals := 0 }
set_option maxHeartbeats 4000000 in
set_option maxRecDepth 100000 in
theorem L_X0_rightPlace (Θ : Tht) (o0 : Nat) (ho0 : o0 < 5) (o1 : Nat) (ho1 : o1 < 5) (i1 : Nat) (hi1 : i1 < 6) (h : Mem) (K : Int32 × Mem → Prop) (hk : Ok (f_X0_rightPlace o0 o1 i1 h) (fun r => K (r, h))) : CI Θ yX0_rightPlace cX0_rightPlace 4 (some .int) rm_X0_rightPlace [.ref (rr Θ 1 o0 0), .ref (rr Θ 6 o1 i1)] h K := by
  refine CI.of K [(0, .ref (rr Θ 1 o0 0)), (1, .ref (rr Θ 6 o1 i1))] (plainFor_of_name (by decide)) (Nat.le_of_ble_eq_true rfl) rfl (fun Γ C Rt => ?_)
  replace hk := rtIp Rt hk
  unfold f_X0_rightPlace at hk
  refine g_iconst C (-1 : Int32) dX0_rightPlace_0 (by decide) (n := 1) rfl ?_
  refine g_istore_n C [(2, .int (-1 : Int32)), (0, .ref (rr Θ 1 o0 0)), (1, .ref (rr Θ 6 o1 i1))] dX0_rightPlace_1 rfl (by decide) rfl (n := 2) rfl ?_
  refine g_iconst C (0 : Int32) dX0_rightPlace_2 (by decide) (n := 3) rfl ?_
  refine g_istore_n C [(3, .int (0 : Int32)), (2, .int (-1 : Int32)), (0, .ref (rr Θ 1 o0 0)), (1, .ref (rr Θ 6 o1 i1))] dX0_rightPlace_3 rfl (by decide) rfl (n := 4) rfl ?_
  refine g_lv [2, 3, 1, 0] [(0, .ref (rr Θ 1 o0 0)), (1, .ref (rr Θ 6 o1 i1)), (2, .int (-1 : Int32)), (3, .int (0 : Int32))] rfl ?_
  refine Ok.join hk (fun e16 => G Θ Γ 60 [(2, .int e16)] [] h) (fun e16 hk => ?_) (fun hk => ?_)
  · refine g_iload_n C 0 dX0_rightPlace_60 rfl rfl (n := 61) rfl ?_
    exact retI hk.out dX0_rightPlace_61
  · refine Ok.loop (fun a11 => G Θ Γ 4 [(0, .ref (rr Θ 1 o0 0)), (1, .ref (rr Θ 6 o1 i1)), (2, .int a11.1), (3, .int a11.2)] [] h) (fun a11 hk => ?_) _ _ hk
    refine g_iload_n C 3 dX0_rightPlace_4 rfl rfl (n := 5) rfl ?_
    refine g_aload_n C 0 dX0_rightPlace_5 rfl rfl (n := 6) rfl ?_
    refine g_getI C kc_1 ft_1_0 ho0 (by decide) (by decide) wm_159 dX0_rightPlace_6 (n := 9) rfl ?_
    refine g_ic_ge C 60 dX0_rightPlace_9 (by decide) (n := 12) rfl hk (fun hk => ?_) (fun hk => ?_)
    · refine g_lv [2] [(2, .int a11.1)] rfl ?_
      exact hk.out
    · refine g_aload_n C 1 dX0_rightPlace_12 rfl rfl (n := 13) rfl ?_
      refine g_getI C kc_6 ft_6_1 ho1 hi1 (by decide) wm_110 dX0_rightPlace_13 (n := 16) rfl ?_
      refine g_if_ne C 60 dX0_rightPlace_16 (by decide) (n := 19) rfl hk (fun hk => ?_) (fun hk => ?_)
      · refine g_lv [2] [(2, .int a11.1)] rfl ?_
        exact hk.out
      · refine g_aload_n C 0 dX0_rightPlace_19 rfl rfl (n := 20) rfl ?_
        refine g_getR C kc_1 (rt_1_1 (tB Θ) o0) ho0 (by decide) (by decide) wm_162 dX0_rightPlace_20 (n := 23) rfl ?_
        refine g_iload_n C 3 dX0_rightPlace_23 rfl rfl (n := 24) rfl ?_
        refine g_iald C an_2 ho0 dX0_rightPlace_24 (n := 25) rfl hk (fun _ hk => ?_)
        refine g_aload_n C 1 dX0_rightPlace_25 rfl rfl (n := 26) rfl ?_
        refine g_getI C kc_6 ft_6_0 ho1 hi1 (by decide) wm_106 dX0_rightPlace_26 (n := 29) rfl ?_
        refine g_ic_lt C 54 dX0_rightPlace_29 (by decide) (n := 32) rfl hk (fun hk => ?_) (fun hk => ?_)
        · refine g_iinc C 3 (fun x12 => [(3, .int x12), (0, .ref (rr Θ 1 o0 0)), (1, .ref (rr Θ 6 o1 i1)), (2, .int a11.1)]) dX0_rightPlace_54 rfl (v := (a11.2 + (1 : Int32))) rfl (by decide) (fun _ => rfl) (n := 57) rfl hk (fun x12 hk => ?_)
          refine g_goto C 4 dX0_rightPlace_57 (by decide) ?_
          refine g_lv [1, 2, 3, 0] [(0, .ref (rr Θ 1 o0 0)), (1, .ref (rr Θ 6 o1 i1)), (2, .int a11.1), (3, .int x12)] rfl ?_
          exact hk.out
        · refine g_iload_n C 2 dX0_rightPlace_32 rfl rfl (n := 33) rfl ?_
          refine g_iconst C (-1 : Int32) dX0_rightPlace_33 (by decide) (n := 34) rfl ?_
          refine g_ic_eq C 52 dX0_rightPlace_34 (by decide) (n := 37) rfl hk (fun hk => ?_) (fun hk => ?_)
          · refine g_iload_n C 3 dX0_rightPlace_52 rfl rfl (n := 53) rfl ?_
            refine g_istore_n C [(2, .int a11.2), (0, .ref (rr Θ 1 o0 0)), (1, .ref (rr Θ 6 o1 i1)), (3, .int a11.2)] dX0_rightPlace_53 rfl (by decide) rfl (n := 54) rfl ?_
            refine g_iinc C 3 (fun x13 => [(3, .int x13), (2, .int a11.2), (0, .ref (rr Θ 1 o0 0)), (1, .ref (rr Θ 6 o1 i1))]) dX0_rightPlace_54 rfl (v := (a11.2 + (1 : Int32))) rfl (by decide) (fun _ => rfl) (n := 57) rfl hk (fun x13 hk => ?_)
            refine g_goto C 4 dX0_rightPlace_57 (by decide) ?_
            refine g_lv [2, 3, 1, 0] [(0, .ref (rr Θ 1 o0 0)), (1, .ref (rr Θ 6 o1 i1)), (2, .int a11.2), (3, .int x13)] rfl ?_
            exact hk.out
          · refine g_aload_n C 0 dX0_rightPlace_37 rfl rfl (n := 38) rfl ?_
            refine g_getR C kc_1 (rt_1_1 (tB Θ) o0) ho0 (by decide) (by decide) wm_162 dX0_rightPlace_38 (n := 41) rfl ?_
            refine g_iload_n C 3 dX0_rightPlace_41 rfl rfl (n := 42) rfl ?_
            refine g_iald C an_2 ho0 dX0_rightPlace_42 (n := 43) rfl hk (fun _ hk => ?_)
            refine g_aload_n C 0 dX0_rightPlace_43 rfl rfl (n := 44) rfl ?_
            refine g_getR C kc_1 (rt_1_1 (tB Θ) o0) ho0 (by decide) (by decide) wm_162 dX0_rightPlace_44 (n := 47) rfl ?_
            refine g_iload_n C 2 dX0_rightPlace_47 rfl rfl (n := 48) rfl ?_
            refine g_iald C an_2 ho0 dX0_rightPlace_48 (n := 49) rfl hk (fun _ hk => ?_)
            refine g_ic_ge C 54 dX0_rightPlace_49 (by decide) (n := 52) rfl hk (fun hk => ?_) (fun hk => ?_)
            · refine g_iinc C 3 (fun x14 => [(3, .int x14), (0, .ref (rr Θ 1 o0 0)), (1, .ref (rr Θ 6 o1 i1)), (2, .int a11.1)]) dX0_rightPlace_54 rfl (v := (a11.2 + (1 : Int32))) rfl (by decide) (fun _ => rfl) (n := 57) rfl hk (fun x14 hk => ?_)
              refine g_goto C 4 dX0_rightPlace_57 (by decide) ?_
              refine g_lv [1, 2, 3, 0] [(0, .ref (rr Θ 1 o0 0)), (1, .ref (rr Θ 6 o1 i1)), (2, .int a11.1), (3, .int x14)] rfl ?_
              exact hk.out
            · refine g_iload_n C 3 dX0_rightPlace_52 rfl rfl (n := 53) rfl ?_
              refine g_istore_n C [(2, .int a11.2), (0, .ref (rr Θ 1 o0 0)), (1, .ref (rr Θ 6 o1 i1)), (3, .int a11.2)] dX0_rightPlace_53 rfl (by decide) rfl (n := 54) rfl ?_
              refine g_iinc C 3 (fun x15 => [(3, .int x15), (2, .int a11.2), (0, .ref (rr Θ 1 o0 0)), (1, .ref (rr Θ 6 o1 i1))]) dX0_rightPlace_54 rfl (v := (a11.2 + (1 : Int32))) rfl (by decide) (fun _ => rfl) (n := 57) rfl hk (fun x15 hk => ?_)
              refine g_goto C 4 dX0_rightPlace_57 (by decide) ?_
              refine g_lv [2, 3, 1, 0] [(0, .ref (rr Θ 1 o0 0)), (1, .ref (rr Θ 6 o1 i1)), (2, .int a11.2), (3, .int x15)] rfl ?_
              exact hk.out
def f_X0_stepsUntilSorted (o0 : Nat) (p1 : Int32) (h : Mem) : Option (Int32 × Mem) := obd (lp fu (fun a13 => (if (a13.2 1 2 o0 0) ≤ a13.1 then some (.inr a13.2) else gd (inb a13.1 6) (gd (inb a13.1 6) (obd (f_X0_rightPlace o0 o0 a13.1.toNatClampNeg a13.2) (fun r16 => bnd (up a13.2 6 3 o0 a13.1.toNatClampNeg r16) (fun h17 => bnd (a13.1 + (1 : Int32)) (fun x18 => some (.inl (x18, h17))))))))) ((0 : Int32), h)) (fun e19 => obd (lp fu (fun a30 => (if p1 < a30.1 then some (.inr (.inr a30.2)) else obd (f_X0_openCoins o0 a30.2) (fun r31 => (if r31 = 0 then some (.inr (.inl (a30.1, a30.2))) else (if 0 ≤ r31 then (if p1 ≤ a30.1 then bnd (a30.1 + (1 : Int32)) (fun x32 => some (.inl (x32, a30.2))) else obd (f_X0_goStep o0 a30.2) (fun h33 => bnd (a30.1 + (1 : Int32)) (fun x34 => some (.inl (x34, h33))))) else some (.inr (.inl ((-4 : Int32), a30.2)))))))) ((0 : Int32), e19)) (Sum.elim (fun r => some r) (fun e35 => some ((-4 : Int32), e35))))
def rm_X0_stepsUntilSorted : Room := { frames := 4, cells := 0, slots := 0, locals := 87 }
set_option maxHeartbeats 4000000 in
set_option maxRecDepth 100000 in
theorem L_X0_stepsUntilSorted (Θ : Tht) (o0 : Nat) (ho0 : o0 < 5) (p1 : Int32) (h : Mem) (K : Int32 × Mem → Prop) (hk : Ok (f_X0_stepsUntilSorted o0 p1 h) K) : CI Θ yX0_stepsUntilSorted cX0_stepsUntilSorted 4 (some .int) rm_X0_stepsUntilSorted [.ref (rr Θ 1 o0 0), .int p1] h K := by
  refine CI.of K [(0, .ref (rr Θ 1 o0 0)), (1, .int p1)] (plainFor_of_name (by decide)) (Nat.le_of_ble_eq_true rfl) rfl (fun Γ C Rt => ?_)
  replace hk := rtI Rt hk
  unfold f_X0_stepsUntilSorted at hk
  refine g_iconst C (0 : Int32) dX0_stepsUntilSorted_0 (by decide) (n := 1) rfl ?_
  refine g_istore_n C [(2, .int (0 : Int32)), (0, .ref (rr Θ 1 o0 0)), (1, .int p1)] dX0_stepsUntilSorted_1 rfl (by decide) rfl (n := 2) rfl ?_
  refine g_lv [1, 2, 0] [(0, .ref (rr Θ 1 o0 0)), (1, .int p1), (2, .int (0 : Int32))] rfl ?_
  refine Ok.join hk (fun e19 => G Θ Γ 35 [(0, .ref (rr Θ 1 o0 0)), (1, .int p1)] [] e19) (fun e19 hk => ?_) (fun hk => ?_)
  · refine g_iconst C (0 : Int32) dX0_stepsUntilSorted_35 (by decide) (n := 36) rfl ?_
    refine g_istore_n C [(2, .int (0 : Int32)), (0, .ref (rr Θ 1 o0 0)), (1, .int p1)] dX0_stepsUntilSorted_36 rfl (by decide) rfl (n := 37) rfl ?_
    refine g_lv [1, 2, 0] [(0, .ref (rr Θ 1 o0 0)), (1, .int p1), (2, .int (0 : Int32))] rfl ?_
    refine Ok.join hk (Sum.elim (PI Θ Γ cX0_stepsUntilSorted) (fun e35 => G Θ Γ 75 [] [] e35)) (fun e hk => ?_) (fun hk => ?_)
    · rcases e with r | e35
      · exact hk.out
      · replace hk := ok_inr hk
        refine g_bipush C (-4 : Int32) dX0_stepsUntilSorted_75 (by decide) (n := 77) rfl ?_
        exact retI hk.out dX0_stepsUntilSorted_77
    · refine Ok.loop (fun a30 => G Θ Γ 37 [(0, .ref (rr Θ 1 o0 0)), (1, .int p1), (2, .int a30.1)] [] a30.2) (fun a30 hk => ?_) _ _ hk
      refine g_iload_n C 2 dX0_stepsUntilSorted_37 rfl rfl (n := 38) rfl ?_
      refine g_iload_n C 1 dX0_stepsUntilSorted_38 rfl rfl (n := 39) rfl ?_
      refine g_ic_gt C 75 dX0_stepsUntilSorted_39 (by decide) (n := 42) rfl hk (fun hk => ?_) (fun hk => ?_)
      · refine g_lv [] [] rfl ?_
        exact hk.out
      · refine g_aload_n C 0 dX0_stepsUntilSorted_42 rfl rfl (n := 43) rfl ?_
        refine g_cVIp C hk (fun K hk => L_X0_openCoins Θ o0 ho0 a30.2 K hk) lk_X0_142 kc_1 ho0 (by decide) ⟨rfl, rfl⟩ ⟨Nat.le_of_ble_eq_true rfl, Nat.le_of_ble_eq_true rfl⟩ dX0_stepsUntilSorted_43 rfl rfl (Nat.le_of_ble_eq_true rfl) (n := 46) rfl (fun r31 hk => ?_)
        refine g_istore_n C [(3, .int r31), (0, .ref (rr Θ 1 o0 0)), (1, .int p1), (2, .int a30.1)] dX0_stepsUntilSorted_46 rfl (by decide) rfl (n := 47) rfl ?_
        refine g_iload_n C 0 dX0_stepsUntilSorted_47 rfl rfl (n := 48) rfl ?_
        refine g_if_ne C 53 dX0_stepsUntilSorted_48 (by decide) (n := 51) rfl hk (fun hk => ?_) (fun hk => ?_)
        · refine g_iload_n C 0 dX0_stepsUntilSorted_53 rfl rfl (n := 54) rfl ?_
          refine g_if_ge C 60 dX0_stepsUntilSorted_54 (by decide) (n := 57) rfl hk (fun hk => ?_) (fun hk => ?_)
          · refine g_iload_n C 3 dX0_stepsUntilSorted_60 rfl rfl (n := 61) rfl ?_
            refine g_iload_n C 2 dX0_stepsUntilSorted_61 rfl rfl (n := 62) rfl ?_
            refine g_ic_ge C 69 dX0_stepsUntilSorted_62 (by decide) (n := 65) rfl hk (fun hk => ?_) (fun hk => ?_)
            · refine g_iinc C 3 (fun x32 => [(2, .int x32), (3, .int r31), (0, .ref (rr Θ 1 o0 0)), (1, .int p1)]) dX0_stepsUntilSorted_69 rfl (v := (a30.1 + (1 : Int32))) rfl (by decide) (fun _ => rfl) (n := 72) rfl hk (fun x32 hk => ?_)
              refine g_goto C 37 dX0_stepsUntilSorted_72 (by decide) ?_
              refine g_lv [2, 3, 0] [(0, .ref (rr Θ 1 o0 0)), (1, .int p1), (2, .int x32)] rfl ?_
              exact hk.out
            · refine g_aload_n C 1 dX0_stepsUntilSorted_65 rfl rfl (n := 66) rfl ?_
              refine g_cVV C hk (fun K hk => L_X0_goStep Θ o0 ho0 a30.2 K hk) lk_X0_107 kc_1 ho0 (by decide) ⟨rfl, rfl⟩ ⟨Nat.le_of_ble_eq_true rfl, Nat.le_of_ble_eq_true rfl⟩ dX0_stepsUntilSorted_66 rfl rfl (Nat.le_of_ble_eq_true rfl) (n := 69) rfl (fun h33 hk => ?_)
              refine g_iinc C 3 (fun x34 => [(2, .int x34), (3, .int r31), (0, .ref (rr Θ 1 o0 0)), (1, .int p1)]) dX0_stepsUntilSorted_69 rfl (v := (a30.1 + (1 : Int32))) rfl (by decide) (fun _ => rfl) (n := 72) rfl hk (fun x34 hk => ?_)
              refine g_goto C 37 dX0_stepsUntilSorted_72 (by decide) ?_
              refine g_lv [2, 3, 0] [(0, .ref (rr Θ 1 o0 0)), (1, .int p1), (2, .int x34)] rfl ?_
              exact hk.out
          · refine g_bipush C (-4 : Int32) dX0_stepsUntilSorted_57 (by decide) (n := 59) rfl ?_
            exact retI hk.out dX0_stepsUntilSorted_59
        · refine g_iload_n C 3 dX0_stepsUntilSorted_51 rfl rfl (n := 52) rfl ?_
          exact retI hk.out dX0_stepsUntilSorted_52
  · refine Ok.loop (fun a13 => G Θ Γ 2 [(0, .ref (rr Θ 1 o0 0)), (1, .int p1), (2, .int a13.1)] [] a13.2) (fun a13 hk => ?_) _ _ hk
    refine g_iload_n C 2 dX0_stepsUntilSorted_2 rfl rfl (n := 3) rfl ?_
    refine g_aload_n C 0 dX0_stepsUntilSorted_3 rfl rfl (n := 4) rfl ?_
    refine g_getI C kc_1 ft_1_2 ho0 (by decide) (by decide) wm_165 dX0_stepsUntilSorted_4 (n := 7) rfl ?_
    refine g_ic_ge C 35 dX0_stepsUntilSorted_7 (by decide) (n := 10) rfl hk (fun hk => ?_) (fun hk => ?_)
    · refine g_lv [0, 1] [(0, .ref (rr Θ 1 o0 0)), (1, .int p1)] rfl ?_
      exact hk.out
    · refine g_aload_n C 0 dX0_stepsUntilSorted_10 rfl rfl (n := 11) rfl ?_
      refine g_getR C kc_1 (rt_1_3 (tB Θ) o0) ho0 (by decide) (by decide) wm_168 dX0_stepsUntilSorted_11 (n := 14) rfl ?_
      refine g_iload_n C 2 dX0_stepsUntilSorted_14 rfl rfl (n := 15) rfl ?_
      refine g_aald C ar_3 ho0 dX0_stepsUntilSorted_15 (n := 16) rfl hk (fun hg14 hk => ?_)
      refine g_aload_n C 0 dX0_stepsUntilSorted_16 rfl rfl (n := 17) rfl ?_
      refine g_aload_n C 0 dX0_stepsUntilSorted_17 rfl rfl (n := 18) rfl ?_
      refine g_getR C kc_1 (rt_1_3 (tB Θ) o0) ho0 (by decide) (by decide) wm_168 dX0_stepsUntilSorted_18 (n := 21) rfl ?_
      refine g_iload_n C 2 dX0_stepsUntilSorted_21 rfl rfl (n := 22) rfl ?_
      refine g_aald C ar_3 ho0 dX0_stepsUntilSorted_22 (n := 23) rfl hk (fun hg15 hk => ?_)
      refine g_cVIp C hk (fun K hk => L_X0_rightPlace Θ o0 ho0 o0 ho0 a13.1.toNatClampNeg (inb_lt hg15) a13.2 K hk) lk_X0_90 kc_1 ho0 (by decide) ⟨rfl, rfl⟩ ⟨Nat.le_of_ble_eq_true rfl, Nat.le_of_ble_eq_true rfl⟩ dX0_stepsUntilSorted_23 rfl rfl (Nat.le_of_ble_eq_true rfl) (n := 26) rfl (fun r16 hk => ?_)
      refine g_putI C kc_6 ft_6_3 ho0 (inb_lt hg14) (by decide) rfl (fitI _) wm_117 dX0_stepsUntilSorted_26 (n := 29) rfl hk (fun h17 hk => ?_)
      refine g_iinc C 2 (fun x18 => [(2, .int x18), (0, .ref (rr Θ 1 o0 0)), (1, .int p1)]) dX0_stepsUntilSorted_29 rfl (v := (a13.1 + (1 : Int32))) rfl (by decide) (fun _ => rfl) (n := 32) rfl hk (fun x18 hk => ?_)
      refine g_goto C 2 dX0_stepsUntilSorted_32 (by decide) ?_
      refine g_lv [1, 2, 0] [(0, .ref (rr Θ 1 o0 0)), (1, .int p1), (2, .int x18)] rfl ?_
      exact hk.out
def f_X9_stepsWithHole (p1 : Int32) (p2 : Int32) (p3 : Int32) (h : Mem) : Option (Int32 × Mem) := obd (f_X0_copyFrom 1 0 h) (fun h1 => gd (inb p1 8) (bnd (up h1 2 0 1 p1.toNatClampNeg p2) (fun h2 => ob2 (f_X0_stepsUntilSorted 1 p3 h2) (fun r3 h4 => some (r3, h4)))))
def rm_X9_stepsWithHole : Room := { frames := 5, cells := 0, slots := 0, locals := 110 }
set_option maxHeartbeats 4000000 in
set_option maxRecDepth 100000 in
theorem L_X9_stepsWithHole (Θ : Tht) (p1 : Int32) (p2 : Int32) (p3 : Int32) (h : Mem) (K : Int32 × Mem → Prop) (hk : Ok (f_X9_stepsWithHole p1 p2 p3 h) K) : CI Θ yX9_stepsWithHole cX9_stepsWithHole 4 (some .int) rm_X9_stepsWithHole [.ref (rr Θ 0 0 0), .int p1, .int p2, .int p3] h K := by
  refine CI.of K [(0, .ref (rr Θ 0 0 0)), (1, .int p1), (2, .int p2), (3, .int p3)] (plainFor_of_name (by decide)) (Nat.le_of_ble_eq_true rfl) rfl (fun Γ C Rt => ?_)
  replace hk := rtI Rt hk
  unfold f_X9_stepsWithHole at hk
  refine g_aload_n C 0 dX9_stepsWithHole_0 rfl rfl (n := 1) rfl ?_
  refine g_getR C kc_0 (rt_0_1 (tB Θ) 0) (by decide) (by decide) (by decide) wm_363 dX9_stepsWithHole_1 (n := 4) rfl ?_
  refine g_aload_n C 0 dX9_stepsWithHole_4 rfl rfl (n := 5) rfl ?_
  refine g_getR C kc_0 (rt_0_0 (tB Θ) 0) (by decide) (by decide) (by decide) wm_362 dX9_stepsWithHole_5 (n := 8) rfl ?_
  refine g_cVV C hk (fun K hk => L_X0_copyFrom Θ 1 (by decide) 0 (by decide) h K hk) lk_X9_86 kc_1 (by decide) (by decide) ⟨rfl, rfl⟩ ⟨Nat.le_of_ble_eq_true rfl, Nat.le_of_ble_eq_true rfl⟩ dX9_stepsWithHole_8 rfl rfl (Nat.le_of_ble_eq_true rfl) (n := 11) rfl (fun h1 hk => ?_)
  refine g_aload_n C 0 dX9_stepsWithHole_11 rfl rfl (n := 12) rfl ?_
  refine g_getR C kc_0 (rt_0_1 (tB Θ) 0) (by decide) (by decide) (by decide) wm_363 dX9_stepsWithHole_12 (n := 15) rfl ?_
  refine g_getR C kc_1 (rt_1_1 (tB Θ) 1) (by decide) (by decide) (by decide) wm_164 dX9_stepsWithHole_15 (n := 18) rfl ?_
  refine g_iload_n C 1 dX9_stepsWithHole_18 rfl rfl (n := 19) rfl ?_
  refine g_iload_n C 2 dX9_stepsWithHole_19 rfl rfl (n := 20) rfl ?_
  refine g_iast C an_2 (by decide) dX9_stepsWithHole_20 (n := 21) rfl hk (fun _ h2 hk => ?_)
  refine g_aload_n C 0 dX9_stepsWithHole_21 rfl rfl (n := 22) rfl ?_
  refine g_getR C kc_0 (rt_0_1 (tB Θ) 0) (by decide) (by decide) (by decide) wm_363 dX9_stepsWithHole_22 (n := 25) rfl ?_
  refine g_iload_n C 3 dX9_stepsWithHole_25 rfl rfl (n := 26) rfl ?_
  refine g_cVI C hk (fun K hk => L_X0_stepsUntilSorted Θ 1 (by decide) p3 h2 K hk) lk_X9_201 kc_1 (by decide) (by decide) ⟨rfl, rfl⟩ ⟨Nat.le_of_ble_eq_true rfl, Nat.le_of_ble_eq_true rfl⟩ dX9_stepsWithHole_26 rfl rfl (Nat.le_of_ble_eq_true rfl) (n := 29) rfl (fun r3 h4 hk => ?_)
  exact retI hk.out dX9_stepsWithHole_29
def f_X9_better (p1 : Int32) (h : Mem) : Option (Int32 × Mem) := obd (f_X9_within p1 (0 : Int32) (1 : Int32) h) (fun r1 => (if r1 = true then obd (f_X0_copyFrom 1 0 h) (fun h2 => ob2 (f_X0_stepsUntilSorted 1 (40 : Int32) h2) (fun r3 h4 => obd ((if r3 = (-4 : Int32) then some (41 : Int32) else some r3)) (fun a5 => obd (lp fu (fun a66 => (if (a66.2.2.2 1 0 0 0) ≤ a66.2.2.1 then some (.inr (a66.1, a66.2.1, a66.2.2.2)) else obd (lp fu (fun a85 => (if (9 : Int32) < a85.2.2.1 then some (.inr (a85.1, a85.2.1, a85.2.2.2)) else gd (inb a66.2.2.1 8) (obd ((if a85.2.2.1 = (a85.2.2.2 2 0 0 a66.2.2.1.toNatClampNeg) then some ((-4 : Int32), a85.2.2.2) else ob2 (f_X9_stepsWithHole a66.2.2.1 a85.2.2.1 (a85.1 - (1 : Int32)) a85.2.2.2) (fun r88 h89 => some (r88, h89)))) (fun a90 => (if a90.1 = (-4 : Int32) then bnd (a85.2.2.1 + (1 : Int32)) (fun x91 => some (.inl (a85.1, a85.2.1, x91, a90.2))) else bnd (((10 : Int32) * a66.2.2.1) + a85.2.2.1) (fun x92 => bnd (a85.2.2.1 + (1 : Int32)) (fun x93 => some (.inl (a90.1, x92, x93, a90.2))))))))) (a66.1, a66.2.1, (1 : Int32), a66.2.2.2)) (fun e94 => bnd (a66.2.2.1 + (1 : Int32)) (fun x95 => some (.inl (e94.1, e94.2.1, x95, e94.2.2)))))) (a5, (-4 : Int32), (0 : Int32), h4)) (fun e96 => (if e96.2.1 = (-4 : Int32) then some (e96.2.1, e96.2.2) else (if p1 = 0 then some (e96.2.1, e96.2.2) else some (e96.1, e96.2.2))))))) else some ((-1 : Int32), h)))
def rm_X9_better : Room := { frames := 6, cells := 0, slots := 0, locals := 133 }
set_option maxHeartbeats 4000000 in
set_option maxRecDepth 100000 in
theorem L_X9_better (Θ : Tht) (p1 : Int32) (h : Mem) (K : Int32 × Mem → Prop) (hk : Ok (f_X9_better p1 h) K) : CI Θ yX9_better cX9_better 8 (some .int) rm_X9_better [.ref (rr Θ 0 0 0), .int p1] h K := by
  refine CI.of K [(0, .ref (rr Θ 0 0 0)), (1, .int p1)] (plainFor_of_name (by decide)) (Nat.le_of_ble_eq_true rfl) rfl (fun Γ C Rt => ?_)
  replace hk := rtI Rt hk
  unfold f_X9_better at hk
  refine g_iload_n C 1 dX9_better_0 rfl rfl (n := 1) rfl ?_
  refine g_iconst C (0 : Int32) dX9_better_1 (by decide) (n := 2) rfl ?_
  refine g_iconst C (1 : Int32) dX9_better_2 (by decide) (n := 3) rfl ?_
  refine g_cSBp C hk (fun K hk => L_X9_within Θ p1 (0 : Int32) (1 : Int32) h K hk) lk_X9_69 ⟨rfl, rfl⟩ ⟨Nat.le_of_ble_eq_true rfl, Nat.le_of_ble_eq_true rfl⟩ dX9_better_3 rfl rfl (Nat.le_of_ble_eq_true rfl) (n := 6) rfl (fun r1 hk => ?_)
  refine g_bt C 11 dX9_better_6 (by decide) (n := 9) rfl hk (fun hk => ?_) (fun hk => ?_)
  · refine g_aload_n C 0 dX9_better_11 rfl rfl (n := 12) rfl ?_
    refine g_getR C kc_0 (rt_0_1 (tB Θ) 0) (by decide) (by decide) (by decide) wm_363 dX9_better_12 (n := 15) rfl ?_
    refine g_aload_n C 0 dX9_better_15 rfl rfl (n := 16) rfl ?_
    refine g_getR C kc_0 (rt_0_0 (tB Θ) 0) (by decide) (by decide) (by decide) wm_362 dX9_better_16 (n := 19) rfl ?_
    refine g_cVV C hk (fun K hk => L_X0_copyFrom Θ 1 (by decide) 0 (by decide) h K hk) lk_X9_86 kc_1 (by decide) (by decide) ⟨rfl, rfl⟩ ⟨Nat.le_of_ble_eq_true rfl, Nat.le_of_ble_eq_true rfl⟩ dX9_better_19 rfl rfl (Nat.le_of_ble_eq_true rfl) (n := 22) rfl (fun h2 hk => ?_)
    refine g_aload_n C 0 dX9_better_22 rfl rfl (n := 23) rfl ?_
    refine g_getR C kc_0 (rt_0_1 (tB Θ) 0) (by decide) (by decide) (by decide) wm_363 dX9_better_23 (n := 26) rfl ?_
    refine g_bipush C (40 : Int32) dX9_better_26 (by decide) (n := 28) rfl ?_
    refine g_cVI C hk (fun K hk => L_X0_stepsUntilSorted Θ 1 (by decide) (40 : Int32) h2 K hk) lk_X9_201 kc_1 (by decide) (by decide) ⟨rfl, rfl⟩ ⟨Nat.le_of_ble_eq_true rfl, Nat.le_of_ble_eq_true rfl⟩ dX9_better_28 rfl rfl (Nat.le_of_ble_eq_true rfl) (n := 31) rfl (fun r3 h4 hk => ?_)
    refine g_istore_n C [(2, .int r3), (0, .ref (rr Θ 0 0 0)), (1, .int p1)] dX9_better_31 rfl (by decide) rfl (n := 32) rfl ?_
    refine g_iload_n C 0 dX9_better_32 rfl rfl (n := 33) rfl ?_
    refine g_bipush C (-4 : Int32) dX9_better_33 (by decide) (n := 35) rfl ?_
    refine Ok.join hk (fun a5 => G Θ Γ 44 [(0, .ref (rr Θ 0 0 0)), (1, .int p1)] [.int a5] h4) (fun a5 hk => ?_) (fun hk => ?_)
    · refine g_istore_n C [(3, .int a5), (0, .ref (rr Θ 0 0 0)), (1, .int p1)] dX9_better_44 rfl (by decide) rfl (n := 45) rfl ?_
      refine g_bipush C (-4 : Int32) dX9_better_45 (by decide) (n := 47) rfl ?_
      refine g_istore C [(4, .int (-4 : Int32)), (3, .int a5), (0, .ref (rr Θ 0 0 0)), (1, .int p1)] dX9_better_47 (by decide) rfl (n := 49) rfl ?_
      refine g_iconst C (0 : Int32) dX9_better_49 (by decide) (n := 50) rfl ?_
      refine g_istore C [(5, .int (0 : Int32)), (4, .int (-4 : Int32)), (3, .int a5), (0, .ref (rr Θ 0 0 0)), (1, .int p1)] dX9_better_50 (by decide) rfl (n := 52) rfl ?_
      refine g_lv [3, 4, 2, 1, 0] [(0, .ref (rr Θ 0 0 0)), (1, .int p1), (3, .int a5), (4, .int (-4 : Int32)), (5, .int (0 : Int32))] rfl ?_
      refine Ok.join hk (fun e96 => G Θ Γ 139 [(1, .int p1), (3, .int e96.1), (4, .int e96.2.1)] [] e96.2.2) (fun e96 hk => ?_) (fun hk => ?_)
      · refine g_iload C 2 dX9_better_139 rfl (n := 141) rfl ?_
        refine g_bipush C (-4 : Int32) dX9_better_141 (by decide) (n := 143) rfl ?_
        refine g_ic_eq C 150 dX9_better_143 (by decide) (n := 146) rfl hk (fun hk => ?_) (fun hk => ?_)
        · refine g_iload C 2 dX9_better_150 rfl (n := 152) rfl ?_
          refine g_goto C 156 dX9_better_152 (by decide) ?_
          exact retI hk.out dX9_better_156
        · refine g_iload_n C 0 dX9_better_146 rfl rfl (n := 147) rfl ?_
          refine g_if_ne C 155 dX9_better_147 (by decide) (n := 150) rfl hk (fun hk => ?_) (fun hk => ?_)
          · refine g_iload_n C 1 dX9_better_155 rfl rfl (n := 156) rfl ?_
            exact retI hk.out dX9_better_156
          · refine g_iload C 2 dX9_better_150 rfl (n := 152) rfl ?_
            refine g_goto C 156 dX9_better_152 (by decide) ?_
            exact retI hk.out dX9_better_156
      · refine Ok.loop (fun a66 => G Θ Γ 52 [(0, .ref (rr Θ 0 0 0)), (1, .int p1), (3, .int a66.1), (4, .int a66.2.1), (5, .int a66.2.2.1)] [] a66.2.2.2) (fun a66 hk => ?_) _ _ hk
        refine g_iload C 4 dX9_better_52 rfl (n := 54) rfl ?_
        refine g_aload_n C 0 dX9_better_54 rfl rfl (n := 55) rfl ?_
        refine g_getR C kc_0 (rt_0_0 (tB Θ) 0) (by decide) (by decide) (by decide) wm_362 dX9_better_55 (n := 58) rfl ?_
        refine g_getI C kc_1 ft_1_0 (by decide) (by decide) (by decide) wm_161 dX9_better_58 (n := 61) rfl ?_
        refine g_ic_ge C 139 dX9_better_61 (by decide) (n := 64) rfl hk (fun hk => ?_) (fun hk => ?_)
        · refine g_lv [1, 2, 3] [(1, .int p1), (3, .int a66.1), (4, .int a66.2.1)] rfl ?_
          exact hk.out
        · refine g_iconst C (1 : Int32) dX9_better_64 (by decide) (n := 65) rfl ?_
          refine g_istore C [(6, .int (1 : Int32)), (0, .ref (rr Θ 0 0 0)), (1, .int p1), (3, .int a66.1), (4, .int a66.2.1), (5, .int a66.2.2.1)] dX9_better_65 (by decide) rfl (n := 67) rfl ?_
          refine g_lv [1, 2, 3, 4, 5, 0] [(0, .ref (rr Θ 0 0 0)), (1, .int p1), (3, .int a66.1), (4, .int a66.2.1), (5, .int a66.2.2.1), (6, .int (1 : Int32))] rfl ?_
          refine Ok.join hk (fun e94 => G Θ Γ 133 [(0, .ref (rr Θ 0 0 0)), (1, .int p1), (3, .int e94.1), (4, .int e94.2.1), (5, .int a66.2.2.1)] [] e94.2.2) (fun e94 hk => ?_) (fun hk => ?_)
          · refine g_iinc C 4 (fun x95 => [(5, .int x95), (0, .ref (rr Θ 0 0 0)), (1, .int p1), (3, .int e94.1), (4, .int e94.2.1)]) dX9_better_133 rfl (v := (a66.2.2.1 + (1 : Int32))) rfl (by decide) (fun _ => rfl) (n := 136) rfl hk (fun x95 hk => ?_)
            refine g_goto C 52 dX9_better_136 (by decide) ?_
            refine g_lv [1, 2, 3, 4, 0] [(0, .ref (rr Θ 0 0 0)), (1, .int p1), (3, .int e94.1), (4, .int e94.2.1), (5, .int x95)] rfl ?_
            exact hk.out
          · refine Ok.loop (fun a85 => G Θ Γ 67 [(0, .ref (rr Θ 0 0 0)), (1, .int p1), (3, .int a85.1), (4, .int a85.2.1), (5, .int a66.2.2.1), (6, .int a85.2.2.1)] [] a85.2.2.2) (fun a85 hk => ?_) _ _ hk
            refine g_iload C 5 dX9_better_67 rfl (n := 69) rfl ?_
            refine g_bipush C (9 : Int32) dX9_better_69 (by decide) (n := 71) rfl ?_
            refine g_ic_gt C 133 dX9_better_71 (by decide) (n := 74) rfl hk (fun hk => ?_) (fun hk => ?_)
            · refine g_lv [0, 1, 2, 3, 4] [(0, .ref (rr Θ 0 0 0)), (1, .int p1), (3, .int a85.1), (4, .int a85.2.1), (5, .int a66.2.2.1)] rfl ?_
              exact hk.out
            · refine g_iload C 5 dX9_better_74 rfl (n := 76) rfl ?_
              refine g_aload_n C 0 dX9_better_76 rfl rfl (n := 77) rfl ?_
              refine g_getR C kc_0 (rt_0_0 (tB Θ) 0) (by decide) (by decide) (by decide) wm_362 dX9_better_77 (n := 80) rfl ?_
              refine g_getR C kc_1 (rt_1_1 (tB Θ) 0) (by decide) (by decide) (by decide) wm_164 dX9_better_80 (n := 83) rfl ?_
              refine g_iload C 4 dX9_better_83 rfl (n := 85) rfl ?_
              refine g_iald C an_2 (by decide) dX9_better_85 (n := 86) rfl hk (fun _ hk => ?_)
              refine Ok.join hk (fun a90 => G Θ Γ 105 [(0, .ref (rr Θ 0 0 0)), (1, .int p1), (3, .int a85.1), (4, .int a85.2.1), (5, .int a66.2.2.1), (6, .int a85.2.2.1)] [.int a90.1] a90.2) (fun a90 hk => ?_) (fun hk => ?_)
              · refine g_istore C [(7, .int a90.1), (0, .ref (rr Θ 0 0 0)), (1, .int p1), (3, .int a85.1), (4, .int a85.2.1), (5, .int a66.2.2.1), (6, .int a85.2.2.1)] dX9_better_105 (by decide) rfl (n := 107) rfl ?_
                refine g_iload C 0 dX9_better_107 rfl (n := 109) rfl ?_
                refine g_bipush C (-4 : Int32) dX9_better_109 (by decide) (n := 111) rfl ?_
                refine g_ic_eq C 127 dX9_better_111 (by decide) (n := 114) rfl hk (fun hk => ?_) (fun hk => ?_)
                · refine g_iinc C 6 (fun x91 => [(6, .int x91), (7, .int a90.1), (0, .ref (rr Θ 0 0 0)), (1, .int p1), (3, .int a85.1), (4, .int a85.2.1), (5, .int a66.2.2.1)]) dX9_better_127 rfl (v := (a85.2.2.1 + (1 : Int32))) rfl (by decide) (fun _ => rfl) (n := 130) rfl hk (fun x91 hk => ?_)
                  refine g_goto C 67 dX9_better_130 (by decide) ?_
                  refine g_lv [2, 3, 4, 5, 6, 0] [(0, .ref (rr Θ 0 0 0)), (1, .int p1), (3, .int a85.1), (4, .int a85.2.1), (5, .int a66.2.2.1), (6, .int x91)] rfl ?_
                  exact hk.out
                · refine g_iload C 0 dX9_better_114 rfl (n := 116) rfl ?_
                  refine g_istore_n C [(3, .int a90.1), (7, .int a90.1), (0, .ref (rr Θ 0 0 0)), (1, .int p1), (4, .int a85.2.1), (5, .int a66.2.2.1), (6, .int a85.2.2.1)] dX9_better_116 rfl (by decide) rfl (n := 117) rfl ?_
                  refine g_bipush C (10 : Int32) dX9_better_117 (by decide) (n := 119) rfl ?_
                  refine g_iload C 5 dX9_better_119 rfl (n := 121) rfl ?_
                  refine g_imul C dX9_better_121 (n := 122) rfl ?_
                  refine g_iload C 6 dX9_better_122 rfl (n := 124) rfl ?_
                  refine g_iadd C dX9_better_124 (n := 125) rfl ?_
                  refine g_nm hk (fun x92 hk => ?_)
                  refine g_istore C [(4, .int x92), (3, .int a90.1), (7, .int a90.1), (0, .ref (rr Θ 0 0 0)), (1, .int p1), (5, .int a66.2.2.1), (6, .int a85.2.2.1)] dX9_better_125 (by decide) rfl (n := 127) rfl ?_
                  refine g_iinc C 6 (fun x93 => [(6, .int x93), (4, .int x92), (3, .int a90.1), (7, .int a90.1), (0, .ref (rr Θ 0 0 0)), (1, .int p1), (5, .int a66.2.2.1)]) dX9_better_127 rfl (v := (a85.2.2.1 + (1 : Int32))) rfl (by decide) (fun _ => rfl) (n := 130) rfl hk (fun x93 hk => ?_)
                  refine g_goto C 67 dX9_better_130 (by decide) ?_
                  refine g_lv [4, 5, 2, 1, 6, 0] [(0, .ref (rr Θ 0 0 0)), (1, .int p1), (3, .int a90.1), (4, .int x92), (5, .int a66.2.2.1), (6, .int x93)] rfl ?_
                  exact hk.out
              · refine g_ic_ne C 94 dX9_better_86 (by decide) (n := 89) rfl hk (fun hk => ?_) (fun hk => ?_)
                · refine g_aload_n C 0 dX9_better_94 rfl rfl (n := 95) rfl ?_
                  refine g_iload C 4 dX9_better_95 rfl (n := 97) rfl ?_
                  refine g_iload C 5 dX9_better_97 rfl (n := 99) rfl ?_
                  refine g_iload_n C 2 dX9_better_99 rfl rfl (n := 100) rfl ?_
                  refine g_iconst C (1 : Int32) dX9_better_100 (by decide) (n := 101) rfl ?_
                  refine g_isub C dX9_better_101 (n := 102) rfl ?_
                  refine g_cVI C hk (fun K hk => L_X9_stepsWithHole Θ a66.2.2.1 a85.2.2.1 (a85.1 - (1 : Int32)) a85.2.2.2 K hk) lk_X9_224 kc_0 (by decide) (by decide) ⟨rfl, rfl⟩ ⟨Nat.le_of_ble_eq_true rfl, Nat.le_of_ble_eq_true rfl⟩ dX9_better_102 rfl rfl (Nat.le_of_ble_eq_true rfl) (n := 105) rfl (fun r88 h89 hk => ?_)
                  exact hk.out
                · refine g_bipush C (-4 : Int32) dX9_better_89 (by decide) (n := 91) rfl ?_
                  refine g_goto C 105 dX9_better_91 (by decide) ?_
                  exact hk.out
    · refine g_ic_ne C 43 dX9_better_35 (by decide) (n := 38) rfl hk (fun hk => ?_) (fun hk => ?_)
      · refine g_iload_n C 0 dX9_better_43 rfl rfl (n := 44) rfl ?_
        refine g_lv [1, 2] [(0, .ref (rr Θ 0 0 0)), (1, .int p1)] rfl ?_
        exact hk.out
      · refine g_bipush C (41 : Int32) dX9_better_38 (by decide) (n := 40) rfl ?_
        refine g_goto C 44 dX9_better_40 (by decide) ?_
        refine g_lv [1, 2] [(0, .ref (rr Θ 0 0 0)), (1, .int p1)] rfl ?_
        exact hk.out
  · refine g_iconst C (-1 : Int32) dX9_better_9 (by decide) (n := 10) rfl ?_
    exact retI hk.out dX9_better_10
def f_X0_isRight (o0 : Nat) (o1 : Nat) (i1 : Nat) (h : Mem) : Option (Bool) := obd (f_X0_rightPlace o0 o1 i1 h) (fun r1 => (if r1 = (-1 : Int32) then some true else (if (h 6 2 o1 i1) = ((20 : Int32) + r1) then some true else some false)))
def rm_X0_isRight : Room := { frames := 1, cells := 0, slots := 0, locals := 23 }
set_option maxHeartbeats 4000000 in
set_option maxRecDepth 100000 in
theorem L_X0_isRight (Θ : Tht) (o0 : Nat) (ho0 : o0 < 5) (o1 : Nat) (ho1 : o1 < 5) (i1 : Nat) (hi1 : i1 < 6) (h : Mem) (K : Bool × Mem → Prop) (hk : Ok (f_X0_isRight o0 o1 i1 h) (fun r => K (r, h))) : CB Θ yX0_isRight cX0_isRight 3 (some .boolean) rm_X0_isRight [.ref (rr Θ 1 o0 0), .ref (rr Θ 6 o1 i1)] h K := by
  refine CB.of K [(0, .ref (rr Θ 1 o0 0)), (1, .ref (rr Θ 6 o1 i1))] (plainFor_of_name (by decide)) (Nat.le_of_ble_eq_true rfl) rfl (fun Γ C Rt => ?_)
  replace hk := rtBp Rt hk
  unfold f_X0_isRight at hk
  refine g_aload_n C 0 dX0_isRight_0 rfl rfl (n := 1) rfl ?_
  refine g_aload_n C 1 dX0_isRight_1 rfl rfl (n := 2) rfl ?_
  refine g_cVIp C hk (fun K hk => L_X0_rightPlace Θ o0 ho0 o1 ho1 i1 hi1 h K hk) lk_X0_90 kc_1 ho0 (by decide) ⟨rfl, rfl⟩ ⟨Nat.le_of_ble_eq_true rfl, Nat.le_of_ble_eq_true rfl⟩ dX0_isRight_2 rfl rfl (Nat.le_of_ble_eq_true rfl) (n := 5) rfl (fun r1 hk => ?_)
  refine g_istore_n C [(2, .int r1), (0, .ref (rr Θ 1 o0 0)), (1, .ref (rr Θ 6 o1 i1))] dX0_isRight_5 rfl (by decide) rfl (n := 6) rfl ?_
  refine g_iload_n C 0 dX0_isRight_6 rfl rfl (n := 7) rfl ?_
  refine g_iconst C (-1 : Int32) dX0_isRight_7 (by decide) (n := 8) rfl ?_
  refine g_ic_eq C 22 dX0_isRight_8 (by decide) (n := 11) rfl hk (fun hk => ?_) (fun hk => ?_)
  · refine g_iconst C (1 : Int32) dX0_isRight_22 (by decide) (n := 23) rfl ?_
    refine g_goto C 27 dX0_isRight_23 (by decide) ?_
    exact retB true rfl hk.out dX0_isRight_27
  · refine g_aload_n C 2 dX0_isRight_11 rfl rfl (n := 12) rfl ?_
    refine g_getI C kc_6 ft_6_2 ho1 hi1 (by decide) wm_114 dX0_isRight_12 (n := 15) rfl ?_
    refine g_bipush C (20 : Int32) dX0_isRight_15 (by decide) (n := 17) rfl ?_
    refine g_iload_n C 0 dX0_isRight_17 rfl rfl (n := 18) rfl ?_
    refine g_iadd C dX0_isRight_18 (n := 19) rfl ?_
    refine g_ic_ne C 26 dX0_isRight_19 (by decide) (n := 22) rfl hk (fun hk => ?_) (fun hk => ?_)
    · refine g_iconst C (0 : Int32) dX0_isRight_26 (by decide) (n := 27) rfl ?_
      exact retB false rfl hk.out dX0_isRight_27
    · refine g_iconst C (1 : Int32) dX0_isRight_22 (by decide) (n := 23) rfl ?_
      refine g_goto C 27 dX0_isRight_23 (by decide) ?_
      exact retB true rfl hk.out dX0_isRight_27
def f_X9_coin (p1 : Int32) (p2 : Int32) (h : Mem) : Option (Int32) := obd (f_X9_isCoin p1 h) (fun r1 => (if r1 = true then gd (inb p1 6) ((if p2 = (0 : Int32) then some (h 6 0 0 p1.toNatClampNeg) else if p2 = (1 : Int32) then obd (i2b (h 6 1 0 p1.toNatClampNeg)) (fun b3 => obd (f_X9_asNumber b3 h) (fun r4 => some r4)) else if p2 = (2 : Int32) then some (h 6 2 0 p1.toNatClampNeg) else if p2 = (3 : Int32) then obd (f_X0_isRight 0 0 p1.toNatClampNeg h) (fun r5 => obd (f_X9_asNumber r5 h) (fun r6 => some r6)) else some (-1 : Int32))) else some (-1 : Int32)))
def rm_X9_coin : Room := { frames := 2, cells := 0, slots := 0, locals := 45 }
set_option maxHeartbeats 4000000 in
set_option maxRecDepth 100000 in
theorem L_X9_coin (Θ : Tht) (p1 : Int32) (p2 : Int32) (h : Mem) (K : Int32 × Mem → Prop) (hk : Ok (f_X9_coin p1 p2 h) (fun r => K (r, h))) : CI Θ yX9_coin cX9_coin 4 (some .int) rm_X9_coin [.ref (rr Θ 0 0 0), .int p1, .int p2] h K := by
  refine CI.of K [(0, .ref (rr Θ 0 0 0)), (1, .int p1), (2, .int p2)] (plainFor_of_name (by decide)) (Nat.le_of_ble_eq_true rfl) rfl (fun Γ C Rt => ?_)
  replace hk := rtIp Rt hk
  unfold f_X9_coin at hk
  refine g_aload_n C 0 dX9_coin_0 rfl rfl (n := 1) rfl ?_
  refine g_iload_n C 1 dX9_coin_1 rfl rfl (n := 2) rfl ?_
  refine g_cVBp C hk (fun K hk => L_X9_isCoin Θ p1 h K hk) lk_X9_123 kc_0 (by decide) (by decide) ⟨rfl, rfl⟩ ⟨Nat.le_of_ble_eq_true rfl, Nat.le_of_ble_eq_true rfl⟩ dX9_coin_2 rfl rfl (Nat.le_of_ble_eq_true rfl) (n := 5) rfl (fun r1 hk => ?_)
  refine g_bt C 10 dX9_coin_5 (by decide) (n := 8) rfl hk (fun hk => ?_) (fun hk => ?_)
  · refine g_aload_n C 0 dX9_coin_10 rfl rfl (n := 11) rfl ?_
    refine g_getR C kc_0 (rt_0_0 (tB Θ) 0) (by decide) (by decide) (by decide) wm_362 dX9_coin_11 (n := 14) rfl ?_
    refine g_getR C kc_1 (rt_1_3 (tB Θ) 0) (by decide) (by decide) (by decide) wm_171 dX9_coin_14 (n := 17) rfl ?_
    refine g_iload_n C 1 dX9_coin_17 rfl rfl (n := 18) rfl ?_
    refine g_aald C ar_3 (by decide) dX9_coin_18 (n := 19) rfl hk (fun hg2 hk => ?_)
    refine g_astore_n C [(3, .ref (rr Θ 6 0 p1.toNatClampNeg)), (0, .ref (rr Θ 0 0 0)), (1, .int p1), (2, .int p2)] dX9_coin_19 rfl (by decide) rfl (n := 20) rfl ?_
    refine g_iload_n C 3 dX9_coin_20 rfl rfl (n := 21) rfl ?_
    refine g_sw C (0 : Int32) 52 dX9_coin_21 (by decide) (by decide) rfl (by decide) hk (fun hk => ?_) (fun hc7 hk => ?_)
    · refine g_aload_n C 0 dX9_coin_52 rfl rfl (n := 53) rfl ?_
      refine g_getI C kc_6 ft_6_0 (by decide) (inb_lt hg2) (by decide) wm_107 dX9_coin_53 (n := 56) rfl ?_
      exact retI hk.out dX9_coin_56
    refine g_sw C (1 : Int32) 57 dX9_coin_21 (by decide) (by decide) rfl (by decide) hk (fun hk => ?_) (fun hc8 hk => ?_)
    · refine g_aload_n C 0 dX9_coin_57 rfl rfl (n := 58) rfl ?_
      refine g_getI C kc_6 ft_6_1 (by decide) (inb_lt hg2) (by decide) wm_112 dX9_coin_58 (n := 61) rfl ?_
      obtain ⟨b3, heb3, hk⟩ := ok_i2b hk
      refine g_cSIp C hk (fun K hk => L_X9_asNumber Θ b3 h K hk) lk_X9_138 ⟨rfl, rfl⟩ ⟨Nat.le_of_ble_eq_true rfl, Nat.le_of_ble_eq_true rfl⟩ dX9_coin_61 rfl (by rw [heb3]; rfl) (Nat.le_of_ble_eq_true rfl) (n := 64) rfl (fun r4 hk => ?_)
      exact retI hk.out dX9_coin_64
    refine g_sw C (2 : Int32) 65 dX9_coin_21 (by decide) (by decide) rfl (by decide) hk (fun hk => ?_) (fun hc9 hk => ?_)
    · refine g_aload_n C 0 dX9_coin_65 rfl rfl (n := 66) rfl ?_
      refine g_getI C kc_6 ft_6_2 (by decide) (inb_lt hg2) (by decide) wm_116 dX9_coin_66 (n := 69) rfl ?_
      exact retI hk.out dX9_coin_69
    refine g_sw C (3 : Int32) 70 dX9_coin_21 (by decide) (by decide) rfl (by decide) hk (fun hk => ?_) (fun hc10 hk => ?_)
    · refine g_aload_n C 1 dX9_coin_70 rfl rfl (n := 71) rfl ?_
      refine g_getR C kc_0 (rt_0_0 (tB Θ) 0) (by decide) (by decide) (by decide) wm_362 dX9_coin_71 (n := 74) rfl ?_
      refine g_aload_n C 0 dX9_coin_74 rfl rfl (n := 75) rfl ?_
      refine g_cVBp C hk (fun K hk => L_X0_isRight Θ 0 (by decide) 0 (by decide) p1.toNatClampNeg (inb_lt hg2) h K hk) lk_X9_145 kc_1 (by decide) (by decide) ⟨rfl, rfl⟩ ⟨Nat.le_of_ble_eq_true rfl, Nat.le_of_ble_eq_true rfl⟩ dX9_coin_75 rfl rfl (Nat.le_of_ble_eq_true rfl) (n := 78) rfl (fun r5 hk => ?_)
      refine g_cSIp C hk (fun K hk => L_X9_asNumber Θ r5 h K hk) lk_X9_138 ⟨rfl, rfl⟩ ⟨Nat.le_of_ble_eq_true rfl, Nat.le_of_ble_eq_true rfl⟩ dX9_coin_78 rfl rfl (Nat.le_of_ble_eq_true rfl) (n := 81) rfl (fun r6 hk => ?_)
      exact retI hk.out dX9_coin_81
    refine g_swd C 4 82 dX9_coin_21 (by decide) (by decide) (sw_s (sw_s (sw_s (sw_0 hc7) hc8) hc9) hc10) (by decide) ?_
    refine g_iconst C (-1 : Int32) dX9_coin_82 (by decide) (n := 83) rfl ?_
    exact retI hk.out dX9_coin_83
  · refine g_iconst C (-1 : Int32) dX9_coin_8 (by decide) (n := 9) rfl ?_
    exact retI hk.out dX9_coin_9
def f_X0_countBetween (o0 : Nat) (p1 : Int32) (p2 : Int32) (h : Mem) : Option (Int32) := obd (lp fu (fun a13 => (if (h 1 2 o0 0) ≤ a13.2 then some (.inr a13.1) else gd (inb a13.2 6) (obd (f_X9_within (h 6 2 o0 a13.2.toNatClampNeg) p1 p2 h) (fun r15 => (if r15 = true then bnd (a13.1 + (1 : Int32)) (fun x17 => bnd (a13.2 + (1 : Int32)) (fun x18 => some (.inl (x17, x18)))) else bnd (a13.2 + (1 : Int32)) (fun x16 => some (.inl (a13.1, x16)))))))) ((0 : Int32), (0 : Int32))) (fun e19 => some e19)
def rm_X0_countBetween : Room := { frames := 1, cells := 0, slots := 0, locals := 22 }
set_option maxHeartbeats 4000000 in
set_option maxRecDepth 100000 in
theorem L_X0_countBetween (Θ : Tht) (o0 : Nat) (ho0 : o0 < 5) (p1 : Int32) (p2 : Int32) (h : Mem) (K : Int32 × Mem → Prop) (hk : Ok (f_X0_countBetween o0 p1 p2 h) (fun r => K (r, h))) : CI Θ yX0_countBetween cX0_countBetween 5 (some .int) rm_X0_countBetween [.ref (rr Θ 1 o0 0), .int p1, .int p2] h K := by
  refine CI.of K [(0, .ref (rr Θ 1 o0 0)), (1, .int p1), (2, .int p2)] (plainFor_of_name (by decide)) (Nat.le_of_ble_eq_true rfl) rfl (fun Γ C Rt => ?_)
  replace hk := rtIp Rt hk
  unfold f_X0_countBetween at hk
  refine g_iconst C (0 : Int32) dX0_countBetween_0 (by decide) (n := 1) rfl ?_
  refine g_istore_n C [(3, .int (0 : Int32)), (0, .ref (rr Θ 1 o0 0)), (1, .int p1), (2, .int p2)] dX0_countBetween_1 rfl (by decide) rfl (n := 2) rfl ?_
  refine g_iconst C (0 : Int32) dX0_countBetween_2 (by decide) (n := 3) rfl ?_
  refine g_istore C [(4, .int (0 : Int32)), (3, .int (0 : Int32)), (0, .ref (rr Θ 1 o0 0)), (1, .int p1), (2, .int p2)] dX0_countBetween_3 (by decide) rfl (n := 5) rfl ?_
  refine g_lv [2, 3, 4, 1, 0] [(0, .ref (rr Θ 1 o0 0)), (1, .int p1), (2, .int p2), (3, .int (0 : Int32)), (4, .int (0 : Int32))] rfl ?_
  refine Ok.join hk (fun e19 => G Θ Γ 41 [(3, .int e19)] [] h) (fun e19 hk => ?_) (fun hk => ?_)
  · refine g_iload_n C 0 dX0_countBetween_41 rfl rfl (n := 42) rfl ?_
    exact retI hk.out dX0_countBetween_42
  · refine Ok.loop (fun a13 => G Θ Γ 5 [(0, .ref (rr Θ 1 o0 0)), (1, .int p1), (2, .int p2), (3, .int a13.1), (4, .int a13.2)] [] h) (fun a13 hk => ?_) _ _ hk
    refine g_iload C 4 dX0_countBetween_5 rfl (n := 7) rfl ?_
    refine g_aload_n C 0 dX0_countBetween_7 rfl rfl (n := 8) rfl ?_
    refine g_getI C kc_1 ft_1_2 ho0 (by decide) (by decide) wm_165 dX0_countBetween_8 (n := 11) rfl ?_
    refine g_ic_ge C 41 dX0_countBetween_11 (by decide) (n := 14) rfl hk (fun hk => ?_) (fun hk => ?_)
    · refine g_lv [3] [(3, .int a13.1)] rfl ?_
      exact hk.out
    · refine g_aload_n C 0 dX0_countBetween_14 rfl rfl (n := 15) rfl ?_
      refine g_getR C kc_1 (rt_1_3 (tB Θ) o0) ho0 (by decide) (by decide) wm_168 dX0_countBetween_15 (n := 18) rfl ?_
      refine g_iload C 4 dX0_countBetween_18 rfl (n := 20) rfl ?_
      refine g_aald C ar_3 ho0 dX0_countBetween_20 (n := 21) rfl hk (fun hg14 hk => ?_)
      refine g_getI C kc_6 ft_6_2 ho0 (inb_lt hg14) (by decide) wm_114 dX0_countBetween_21 (n := 24) rfl ?_
      refine g_iload_n C 1 dX0_countBetween_24 rfl rfl (n := 25) rfl ?_
      refine g_iload_n C 2 dX0_countBetween_25 rfl rfl (n := 26) rfl ?_
      refine g_cNBp C hk (fun K hk => L_X9_within Θ (h 6 2 o0 a13.2.toNatClampNeg) p1 p2 h K hk) lk_X0_86 ⟨rfl, rfl⟩ ⟨Nat.le_of_ble_eq_true rfl, Nat.le_of_ble_eq_true rfl⟩ dX0_countBetween_26 rfl rfl (Nat.le_of_ble_eq_true rfl) (n := 29) rfl (fun r15 hk => ?_)
      refine g_bf C 35 dX0_countBetween_29 (by decide) (n := 32) rfl hk (fun hk => ?_) (fun hk => ?_)
      · refine g_iinc C 4 (fun x16 => [(4, .int x16), (0, .ref (rr Θ 1 o0 0)), (1, .int p1), (2, .int p2), (3, .int a13.1)]) dX0_countBetween_35 rfl (v := (a13.2 + (1 : Int32))) rfl (by decide) (fun _ => rfl) (n := 38) rfl hk (fun x16 hk => ?_)
        refine g_goto C 5 dX0_countBetween_38 (by decide) ?_
        refine g_lv [1, 2, 3, 4, 0] [(0, .ref (rr Θ 1 o0 0)), (1, .int p1), (2, .int p2), (3, .int a13.1), (4, .int x16)] rfl ?_
        exact hk.out
      · refine g_iinc C 3 (fun x17 => [(3, .int x17), (0, .ref (rr Θ 1 o0 0)), (1, .int p1), (2, .int p2), (4, .int a13.2)]) dX0_countBetween_32 rfl (v := (a13.1 + (1 : Int32))) rfl (by decide) (fun _ => rfl) (n := 35) rfl hk (fun x17 hk => ?_)
        refine g_iinc C 4 (fun x18 => [(4, .int x18), (3, .int x17), (0, .ref (rr Θ 1 o0 0)), (1, .int p1), (2, .int p2)]) dX0_countBetween_35 rfl (v := (a13.2 + (1 : Int32))) rfl (by decide) (fun _ => rfl) (n := 38) rfl hk (fun x18 hk => ?_)
        refine g_goto C 5 dX0_countBetween_38 (by decide) ?_
        refine g_lv [2, 3, 4, 1, 0] [(0, .ref (rr Θ 1 o0 0)), (1, .int p1), (2, .int p2), (3, .int x17), (4, .int x18)] rfl ?_
        exact hk.out
def f_X0_countRight (o0 : Nat) (h : Mem) : Option (Int32) := obd (lp fu (fun a13 => (if (h 1 2 o0 0) ≤ a13.2 then some (.inr a13.1) else gd (inb a13.2 6) (obd (f_X0_isRight o0 o0 a13.2.toNatClampNeg h) (fun r15 => (if r15 = true then bnd (a13.1 + (1 : Int32)) (fun x17 => bnd (a13.2 + (1 : Int32)) (fun x18 => some (.inl (x17, x18)))) else bnd (a13.2 + (1 : Int32)) (fun x16 => some (.inl (a13.1, x16)))))))) ((0 : Int32), (0 : Int32))) (fun e19 => some e19)
def rm_X0_countRight : Room := { frames := 2, cells := 0, slots := 0, locals := 45 }
set_option maxHeartbeats 4000000 in
set_option maxRecDepth 100000 in
theorem L_X0_countRight (Θ : Tht) (o0 : Nat) (ho0 : o0 < 5) (h : Mem) (K : Int32 × Mem → Prop) (hk : Ok (f_X0_countRight o0 h) (fun r => K (r, h))) : CI Θ yX0_countRight cX0_countRight 3 (some .int) rm_X0_countRight [.ref (rr Θ 1 o0 0)] h K := by
  refine CI.of K [(0, .ref (rr Θ 1 o0 0))] (plainFor_of_name (by decide)) (Nat.le_of_ble_eq_true rfl) rfl (fun Γ C Rt => ?_)
  replace hk := rtIp Rt hk
  unfold f_X0_countRight at hk
  refine g_iconst C (0 : Int32) dX0_countRight_0 (by decide) (n := 1) rfl ?_
  refine g_istore_n C [(1, .int (0 : Int32)), (0, .ref (rr Θ 1 o0 0))] dX0_countRight_1 rfl (by decide) rfl (n := 2) rfl ?_
  refine g_iconst C (0 : Int32) dX0_countRight_2 (by decide) (n := 3) rfl ?_
  refine g_istore_n C [(2, .int (0 : Int32)), (1, .int (0 : Int32)), (0, .ref (rr Θ 1 o0 0))] dX0_countRight_3 rfl (by decide) rfl (n := 4) rfl ?_
  refine g_lv [2, 1, 0] [(0, .ref (rr Θ 1 o0 0)), (1, .int (0 : Int32)), (2, .int (0 : Int32))] rfl ?_
  refine Ok.join hk (fun e19 => G Θ Γ 34 [(1, .int e19)] [] h) (fun e19 hk => ?_) (fun hk => ?_)
  · refine g_iload_n C 0 dX0_countRight_34 rfl rfl (n := 35) rfl ?_
    exact retI hk.out dX0_countRight_35
  · refine Ok.loop (fun a13 => G Θ Γ 4 [(0, .ref (rr Θ 1 o0 0)), (1, .int a13.1), (2, .int a13.2)] [] h) (fun a13 hk => ?_) _ _ hk
    refine g_iload_n C 2 dX0_countRight_4 rfl rfl (n := 5) rfl ?_
    refine g_aload_n C 0 dX0_countRight_5 rfl rfl (n := 6) rfl ?_
    refine g_getI C kc_1 ft_1_2 ho0 (by decide) (by decide) wm_165 dX0_countRight_6 (n := 9) rfl ?_
    refine g_ic_ge C 34 dX0_countRight_9 (by decide) (n := 12) rfl hk (fun hk => ?_) (fun hk => ?_)
    · refine g_lv [1] [(1, .int a13.1)] rfl ?_
      exact hk.out
    · refine g_aload_n C 0 dX0_countRight_12 rfl rfl (n := 13) rfl ?_
      refine g_aload_n C 0 dX0_countRight_13 rfl rfl (n := 14) rfl ?_
      refine g_getR C kc_1 (rt_1_3 (tB Θ) o0) ho0 (by decide) (by decide) wm_168 dX0_countRight_14 (n := 17) rfl ?_
      refine g_iload_n C 2 dX0_countRight_17 rfl rfl (n := 18) rfl ?_
      refine g_aald C ar_3 ho0 dX0_countRight_18 (n := 19) rfl hk (fun hg14 hk => ?_)
      refine g_cVBp C hk (fun K hk => L_X0_isRight Θ o0 ho0 o0 ho0 a13.2.toNatClampNeg (inb_lt hg14) h K hk) lk_X0_94 kc_1 ho0 (by decide) ⟨rfl, rfl⟩ ⟨Nat.le_of_ble_eq_true rfl, Nat.le_of_ble_eq_true rfl⟩ dX0_countRight_19 rfl rfl (Nat.le_of_ble_eq_true rfl) (n := 22) rfl (fun r15 hk => ?_)
      refine g_bf C 28 dX0_countRight_22 (by decide) (n := 25) rfl hk (fun hk => ?_) (fun hk => ?_)
      · refine g_iinc C 2 (fun x16 => [(2, .int x16), (0, .ref (rr Θ 1 o0 0)), (1, .int a13.1)]) dX0_countRight_28 rfl (v := (a13.2 + (1 : Int32))) rfl (by decide) (fun _ => rfl) (n := 31) rfl hk (fun x16 hk => ?_)
        refine g_goto C 4 dX0_countRight_31 (by decide) ?_
        refine g_lv [1, 2, 0] [(0, .ref (rr Θ 1 o0 0)), (1, .int a13.1), (2, .int x16)] rfl ?_
        exact hk.out
      · refine g_iinc C 1 (fun x17 => [(1, .int x17), (0, .ref (rr Θ 1 o0 0)), (2, .int a13.2)]) dX0_countRight_25 rfl (v := (a13.1 + (1 : Int32))) rfl (by decide) (fun _ => rfl) (n := 28) rfl hk (fun x17 hk => ?_)
        refine g_iinc C 2 (fun x18 => [(2, .int x18), (1, .int x17), (0, .ref (rr Θ 1 o0 0))]) dX0_countRight_28 rfl (v := (a13.2 + (1 : Int32))) rfl (by decide) (fun _ => rfl) (n := 31) rfl hk (fun x18 hk => ?_)
        refine g_goto C 4 dX0_countRight_31 (by decide) ?_
        refine g_lv [2, 1, 0] [(0, .ref (rr Θ 1 o0 0)), (1, .int x17), (2, .int x18)] rfl ?_
        exact hk.out
def f_X9_count (p1 : Int32) (h : Mem) : Option (Int32) := (if p1 = (0 : Int32) then obd (f_X0_countBetween 0 (0 : Int32) (7 : Int32) h) (fun r1 => some r1) else if p1 = (1 : Int32) then obd (f_X0_countBetween 0 (10 : Int32) (13 : Int32) h) (fun r2 => some r2) else if p1 = (2 : Int32) then obd (f_X0_countBetween 0 (20 : Int32) (27 : Int32) h) (fun r3 => some r3) else if p1 = (3 : Int32) then obd (f_X0_countBetween 0 (30 : Int32) (30 : Int32) h) (fun r4 => some r4) else if p1 = (4 : Int32) then obd (f_X0_countRight 0 h) (fun r5 => some r5) else if p1 = (5 : Int32) then some (h 8 0 0 0) else if p1 = (6 : Int32) then obd (i2b (h 20 0 0 0)) (fun b6 => obd (f_X9_asNumber b6 h) (fun r7 => obd (i2b (h 20 0 1 0)) (fun b8 => obd (f_X9_asNumber b8 h) (fun r9 => some (r7 + r9))))) else if p1 = (7 : Int32) then some (h 17 1 0 0) else if p1 = (8 : Int32) then (if (h 22 1 0 0) = (-1 : Int32) then some (-4 : Int32) else some (h 22 2 0 0)) else some (-1 : Int32))
def rm_X9_count : Room := { frames := 3, cells := 0, slots := 0, locals := 67 }
set_option maxHeartbeats 4000000 in
set_option maxRecDepth 100000 in
theorem L_X9_count (Θ : Tht) (p1 : Int32) (h : Mem) (K : Int32 × Mem → Prop) (hk : Ok (f_X9_count p1 h) (fun r => K (r, h))) : CI Θ yX9_count cX9_count 2 (some .int) rm_X9_count [.ref (rr Θ 0 0 0), .int p1] h K := by
  refine CI.of K [(0, .ref (rr Θ 0 0 0)), (1, .int p1)] (plainFor_of_name (by decide)) (Nat.le_of_ble_eq_true rfl) rfl (fun Γ C Rt => ?_)
  replace hk := rtIp Rt hk
  unfold f_X9_count at hk
  refine g_iload_n C 1 dX9_count_0 rfl rfl (n := 1) rfl ?_
  refine g_sw C (0 : Int32) 52 dX9_count_1 (by decide) (by decide) rfl (by decide) hk (fun hk => ?_) (fun hc10 hk => ?_)
  · refine g_aload_n C 0 dX9_count_52 rfl rfl (n := 53) rfl ?_
    refine g_getR C kc_0 (rt_0_0 (tB Θ) 0) (by decide) (by decide) (by decide) wm_362 dX9_count_53 (n := 56) rfl ?_
    refine g_iconst C (0 : Int32) dX9_count_56 (by decide) (n := 57) rfl ?_
    refine g_bipush C (7 : Int32) dX9_count_57 (by decide) (n := 59) rfl ?_
    refine g_cVIp C hk (fun K hk => L_X0_countBetween Θ 0 (by decide) (0 : Int32) (7 : Int32) h K hk) lk_X9_177 kc_1 (by decide) (by decide) ⟨rfl, rfl⟩ ⟨Nat.le_of_ble_eq_true rfl, Nat.le_of_ble_eq_true rfl⟩ dX9_count_59 rfl rfl (Nat.le_of_ble_eq_true rfl) (n := 62) rfl (fun r1 hk => ?_)
    exact retI hk.out dX9_count_62
  refine g_sw C (1 : Int32) 63 dX9_count_1 (by decide) (by decide) rfl (by decide) hk (fun hk => ?_) (fun hc11 hk => ?_)
  · refine g_aload_n C 0 dX9_count_63 rfl rfl (n := 64) rfl ?_
    refine g_getR C kc_0 (rt_0_0 (tB Θ) 0) (by decide) (by decide) (by decide) wm_362 dX9_count_64 (n := 67) rfl ?_
    refine g_bipush C (10 : Int32) dX9_count_67 (by decide) (n := 69) rfl ?_
    refine g_bipush C (13 : Int32) dX9_count_69 (by decide) (n := 71) rfl ?_
    refine g_cVIp C hk (fun K hk => L_X0_countBetween Θ 0 (by decide) (10 : Int32) (13 : Int32) h K hk) lk_X9_177 kc_1 (by decide) (by decide) ⟨rfl, rfl⟩ ⟨Nat.le_of_ble_eq_true rfl, Nat.le_of_ble_eq_true rfl⟩ dX9_count_71 rfl rfl (Nat.le_of_ble_eq_true rfl) (n := 74) rfl (fun r2 hk => ?_)
    exact retI hk.out dX9_count_74
  refine g_sw C (2 : Int32) 75 dX9_count_1 (by decide) (by decide) rfl (by decide) hk (fun hk => ?_) (fun hc12 hk => ?_)
  · refine g_aload_n C 0 dX9_count_75 rfl rfl (n := 76) rfl ?_
    refine g_getR C kc_0 (rt_0_0 (tB Θ) 0) (by decide) (by decide) (by decide) wm_362 dX9_count_76 (n := 79) rfl ?_
    refine g_bipush C (20 : Int32) dX9_count_79 (by decide) (n := 81) rfl ?_
    refine g_bipush C (27 : Int32) dX9_count_81 (by decide) (n := 83) rfl ?_
    refine g_cVIp C hk (fun K hk => L_X0_countBetween Θ 0 (by decide) (20 : Int32) (27 : Int32) h K hk) lk_X9_177 kc_1 (by decide) (by decide) ⟨rfl, rfl⟩ ⟨Nat.le_of_ble_eq_true rfl, Nat.le_of_ble_eq_true rfl⟩ dX9_count_83 rfl rfl (Nat.le_of_ble_eq_true rfl) (n := 86) rfl (fun r3 hk => ?_)
    exact retI hk.out dX9_count_86
  refine g_sw C (3 : Int32) 87 dX9_count_1 (by decide) (by decide) rfl (by decide) hk (fun hk => ?_) (fun hc13 hk => ?_)
  · refine g_aload_n C 0 dX9_count_87 rfl rfl (n := 88) rfl ?_
    refine g_getR C kc_0 (rt_0_0 (tB Θ) 0) (by decide) (by decide) (by decide) wm_362 dX9_count_88 (n := 91) rfl ?_
    refine g_bipush C (30 : Int32) dX9_count_91 (by decide) (n := 93) rfl ?_
    refine g_bipush C (30 : Int32) dX9_count_93 (by decide) (n := 95) rfl ?_
    refine g_cVIp C hk (fun K hk => L_X0_countBetween Θ 0 (by decide) (30 : Int32) (30 : Int32) h K hk) lk_X9_177 kc_1 (by decide) (by decide) ⟨rfl, rfl⟩ ⟨Nat.le_of_ble_eq_true rfl, Nat.le_of_ble_eq_true rfl⟩ dX9_count_95 rfl rfl (Nat.le_of_ble_eq_true rfl) (n := 98) rfl (fun r4 hk => ?_)
    exact retI hk.out dX9_count_98
  refine g_sw C (4 : Int32) 99 dX9_count_1 (by decide) (by decide) rfl (by decide) hk (fun hk => ?_) (fun hc14 hk => ?_)
  · refine g_aload_n C 0 dX9_count_99 rfl rfl (n := 100) rfl ?_
    refine g_getR C kc_0 (rt_0_0 (tB Θ) 0) (by decide) (by decide) (by decide) wm_362 dX9_count_100 (n := 103) rfl ?_
    refine g_cVIp C hk (fun K hk => L_X0_countRight Θ 0 (by decide) h K hk) lk_X9_192 kc_1 (by decide) (by decide) ⟨rfl, rfl⟩ ⟨Nat.le_of_ble_eq_true rfl, Nat.le_of_ble_eq_true rfl⟩ dX9_count_103 rfl rfl (Nat.le_of_ble_eq_true rfl) (n := 106) rfl (fun r5 hk => ?_)
    exact retI hk.out dX9_count_106
  refine g_sw C (5 : Int32) 107 dX9_count_1 (by decide) (by decide) rfl (by decide) hk (fun hk => ?_) (fun hc15 hk => ?_)
  · refine g_aload_n C 0 dX9_count_107 rfl rfl (n := 108) rfl ?_
    refine g_getR C kc_0 (rt_0_2 (tB Θ) 0) (by decide) (by decide) (by decide) wm_364 dX9_count_108 (n := 111) rfl ?_
    refine g_getI C kc_8 ft_8_0 (by decide) (by decide) (by decide) wm_219 dX9_count_111 (n := 114) rfl ?_
    exact retI hk.out dX9_count_114
  refine g_sw C (6 : Int32) 115 dX9_count_1 (by decide) (by decide) rfl (by decide) hk (fun hk => ?_) (fun hc16 hk => ?_)
  · refine g_aload_n C 0 dX9_count_115 rfl rfl (n := 116) rfl ?_
    refine g_getR C kc_0 (rt_0_6 (tB Θ) 0) (by decide) (by decide) (by decide) wm_368 dX9_count_116 (n := 119) rfl ?_
    refine g_iconst C (0 : Int32) dX9_count_119 (by decide) (n := 120) rfl ?_
    refine g_aaldL C 0 ar_19 (by decide) (by decide) (by decide) dX9_count_120 (n := 121) rfl ?_
    refine g_getI C kc_20 ft_20_0 (by decide) (by decide) (by decide) wm_332 dX9_count_121 (n := 124) rfl ?_
    obtain ⟨b6, heb6, hk⟩ := ok_i2b hk
    refine g_cSIp C hk (fun K hk => L_X9_asNumber Θ b6 h K hk) lk_X9_138 ⟨rfl, rfl⟩ ⟨Nat.le_of_ble_eq_true rfl, Nat.le_of_ble_eq_true rfl⟩ dX9_count_124 rfl (by rw [heb6]; rfl) (Nat.le_of_ble_eq_true rfl) (n := 127) rfl (fun r7 hk => ?_)
    refine g_aload_n C 0 dX9_count_127 rfl rfl (n := 128) rfl ?_
    refine g_getR C kc_0 (rt_0_6 (tB Θ) 0) (by decide) (by decide) (by decide) wm_368 dX9_count_128 (n := 131) rfl ?_
    refine g_iconst C (1 : Int32) dX9_count_131 (by decide) (n := 132) rfl ?_
    refine g_aaldL C 1 ar_19 (by decide) (by decide) (by decide) dX9_count_132 (n := 133) rfl ?_
    refine g_getI C kc_20 ft_20_0 (by decide) (by decide) (by decide) wm_332 dX9_count_133 (n := 136) rfl ?_
    obtain ⟨b8, heb8, hk⟩ := ok_i2b hk
    refine g_cSIp C hk (fun K hk => L_X9_asNumber Θ b8 h K hk) lk_X9_138 ⟨rfl, rfl⟩ ⟨Nat.le_of_ble_eq_true rfl, Nat.le_of_ble_eq_true rfl⟩ dX9_count_136 rfl (by rw [heb8]; rfl) (Nat.le_of_ble_eq_true rfl) (n := 139) rfl (fun r9 hk => ?_)
    refine g_iadd C dX9_count_139 (n := 140) rfl ?_
    exact retI hk.out dX9_count_140
  refine g_sw C (7 : Int32) 141 dX9_count_1 (by decide) (by decide) rfl (by decide) hk (fun hk => ?_) (fun hc17 hk => ?_)
  · refine g_aload_n C 0 dX9_count_141 rfl rfl (n := 142) rfl ?_
    refine g_getR C kc_0 (rt_0_5 (tB Θ) 0) (by decide) (by decide) (by decide) wm_367 dX9_count_142 (n := 145) rfl ?_
    refine g_getI C kc_17 ft_17_1 (by decide) (by decide) (by decide) wm_272 dX9_count_145 (n := 148) rfl ?_
    exact retI hk.out dX9_count_148
  refine g_sw C (8 : Int32) 149 dX9_count_1 (by decide) (by decide) rfl (by decide) hk (fun hk => ?_) (fun hc18 hk => ?_)
  · refine g_aload_n C 0 dX9_count_149 rfl rfl (n := 150) rfl ?_
    refine g_getR C kc_0 (rt_0_7 (tB Θ) 0) (by decide) (by decide) (by decide) wm_369 dX9_count_150 (n := 153) rfl ?_
    refine g_iconst C (0 : Int32) dX9_count_153 (by decide) (n := 154) rfl ?_
    refine g_aaldL C 0 ar_21 (by decide) (by decide) (by decide) dX9_count_154 (n := 155) rfl ?_
    refine g_getI C kc_22 ft_22_1 (by decide) (by decide) (by decide) wm_352 dX9_count_155 (n := 158) rfl ?_
    refine g_iconst C (-1 : Int32) dX9_count_158 (by decide) (n := 159) rfl ?_
    refine g_ic_ne C 167 dX9_count_159 (by decide) (n := 162) rfl hk (fun hk => ?_) (fun hk => ?_)
    · refine g_aload_n C 0 dX9_count_167 rfl rfl (n := 168) rfl ?_
      refine g_getR C kc_0 (rt_0_7 (tB Θ) 0) (by decide) (by decide) (by decide) wm_369 dX9_count_168 (n := 171) rfl ?_
      refine g_iconst C (0 : Int32) dX9_count_171 (by decide) (n := 172) rfl ?_
      refine g_aaldL C 0 ar_21 (by decide) (by decide) (by decide) dX9_count_172 (n := 173) rfl ?_
      refine g_getI C kc_22 ft_22_2 (by decide) (by decide) (by decide) wm_354 dX9_count_173 (n := 176) rfl ?_
      exact retI hk.out dX9_count_176
    · refine g_bipush C (-4 : Int32) dX9_count_162 (by decide) (n := 164) rfl ?_
      refine g_goto C 176 dX9_count_164 (by decide) ?_
      exact retI hk.out dX9_count_176
  refine g_swd C 9 177 dX9_count_1 (by decide) (by decide) (sw_s (sw_s (sw_s (sw_s (sw_s (sw_s (sw_s (sw_s (sw_0 hc10) hc11) hc12) hc13) hc14) hc15) hc16) hc17) hc18) (by decide) ?_
  refine g_iconst C (-1 : Int32) dX9_count_177 (by decide) (n := 178) rfl ?_
  exact retI hk.out dX9_count_178
def f_X9_isCrab (p1 : Int32) (h : Mem) : Option (Bool) := obd (f_X9_within p1 (0 : Int32) ((h 1 4 0 0) - (1 : Int32)) h) (fun r1 => some r1)
def rm_X9_isCrab : Room := { frames := 1, cells := 0, slots := 0, locals := 22 }
set_option maxHeartbeats 4000000 in
set_option maxRecDepth 100000 in
theorem L_X9_isCrab (Θ : Tht) (p1 : Int32) (h : Mem) (K : Bool × Mem → Prop) (hk : Ok (f_X9_isCrab p1 h) (fun r => K (r, h))) : CB Θ yX9_isCrab cX9_isCrab 2 (some .boolean) rm_X9_isCrab [.ref (rr Θ 0 0 0), .int p1] h K := by
  refine CB.of K [(0, .ref (rr Θ 0 0 0)), (1, .int p1)] (plainFor_of_name (by decide)) (Nat.le_of_ble_eq_true rfl) rfl (fun Γ C Rt => ?_)
  replace hk := rtBp Rt hk
  unfold f_X9_isCrab at hk
  refine g_iload_n C 1 dX9_isCrab_0 rfl rfl (n := 1) rfl ?_
  refine g_iconst C (0 : Int32) dX9_isCrab_1 (by decide) (n := 2) rfl ?_
  refine g_aload_n C 0 dX9_isCrab_2 rfl rfl (n := 3) rfl ?_
  refine g_getR C kc_0 (rt_0_0 (tB Θ) 0) (by decide) (by decide) (by decide) wm_362 dX9_isCrab_3 (n := 6) rfl ?_
  refine g_getI C kc_1 ft_1_4 (by decide) (by decide) (by decide) wm_174 dX9_isCrab_6 (n := 9) rfl ?_
  refine g_iconst C (1 : Int32) dX9_isCrab_9 (by decide) (n := 10) rfl ?_
  refine g_isub C dX9_isCrab_10 (n := 11) rfl ?_
  refine g_cSBp C hk (fun K hk => L_X9_within Θ p1 (0 : Int32) ((h 1 4 0 0) - (1 : Int32)) h K hk) lk_X9_69 ⟨rfl, rfl⟩ ⟨Nat.le_of_ble_eq_true rfl, Nat.le_of_ble_eq_true rfl⟩ dX9_isCrab_11 rfl rfl (Nat.le_of_ble_eq_true rfl) (n := 14) rfl (fun r1 hk => ?_)
  exact retB r1 rfl hk.out dX9_isCrab_14
def f_X9_crab (p1 : Int32) (p2 : Int32) (h : Mem) : Option (Int32) := obd (f_X9_isCrab p1 h) (fun r1 => (if r1 = true then gd (inb p1 4) ((if p2 = (0 : Int32) then some (h 7 0 0 p1.toNatClampNeg) else if p2 = (1 : Int32) then some (h 7 1 0 p1.toNatClampNeg) else if p2 = (2 : Int32) then some (h 7 2 0 p1.toNatClampNeg) else if p2 = (3 : Int32) then some (h 7 3 0 p1.toNatClampNeg) else if p2 = (4 : Int32) then obd (f_X2_holds 0 p1.toNatClampNeg h) (fun r3 => (if r3 = true then some (h 7 4 0 p1.toNatClampNeg) else some (-4 : Int32))) else some (-1 : Int32))) else some (-1 : Int32)))
def rm_X9_crab : Room := { frames := 2, cells := 0, slots := 0, locals := 43 }
set_option maxHeartbeats 4000000 in
set_option maxRecDepth 100000 in
theorem L_X9_crab (Θ : Tht) (p1 : Int32) (p2 : Int32) (h : Mem) (K : Int32 × Mem → Prop) (hk : Ok (f_X9_crab p1 p2 h) (fun r => K (r, h))) : CI Θ yX9_crab cX9_crab 4 (some .int) rm_X9_crab [.ref (rr Θ 0 0 0), .int p1, .int p2] h K := by
  refine CI.of K [(0, .ref (rr Θ 0 0 0)), (1, .int p1), (2, .int p2)] (plainFor_of_name (by decide)) (Nat.le_of_ble_eq_true rfl) rfl (fun Γ C Rt => ?_)
  replace hk := rtIp Rt hk
  unfold f_X9_crab at hk
  refine g_aload_n C 0 dX9_crab_0 rfl rfl (n := 1) rfl ?_
  refine g_iload_n C 1 dX9_crab_1 rfl rfl (n := 2) rfl ?_
  refine g_cVBp C hk (fun K hk => L_X9_isCrab Θ p1 h K hk) lk_X9_149 kc_0 (by decide) (by decide) ⟨rfl, rfl⟩ ⟨Nat.le_of_ble_eq_true rfl, Nat.le_of_ble_eq_true rfl⟩ dX9_crab_2 rfl rfl (Nat.le_of_ble_eq_true rfl) (n := 5) rfl (fun r1 hk => ?_)
  refine g_bt C 10 dX9_crab_5 (by decide) (n := 8) rfl hk (fun hk => ?_) (fun hk => ?_)
  · refine g_aload_n C 0 dX9_crab_10 rfl rfl (n := 11) rfl ?_
    refine g_getR C kc_0 (rt_0_0 (tB Θ) 0) (by decide) (by decide) (by decide) wm_362 dX9_crab_11 (n := 14) rfl ?_
    refine g_getR C kc_1 (rt_1_5 (tB Θ) 0) (by decide) (by decide) (by decide) wm_177 dX9_crab_14 (n := 17) rfl ?_
    refine g_iload_n C 1 dX9_crab_17 rfl rfl (n := 18) rfl ?_
    refine g_aald C ar_4 (by decide) dX9_crab_18 (n := 19) rfl hk (fun hg2 hk => ?_)
    refine g_astore_n C [(3, .ref (rr Θ 7 0 p1.toNatClampNeg)), (0, .ref (rr Θ 0 0 0)), (1, .int p1), (2, .int p2)] dX9_crab_19 rfl (by decide) rfl (n := 20) rfl ?_
    refine g_iload_n C 3 dX9_crab_20 rfl rfl (n := 21) rfl ?_
    refine g_sw C (0 : Int32) 56 dX9_crab_21 (by decide) (by decide) rfl (by decide) hk (fun hk => ?_) (fun hc4 hk => ?_)
    · refine g_aload_n C 0 dX9_crab_56 rfl rfl (n := 57) rfl ?_
      refine g_getI C kc_7 ft_7_0 (by decide) (inb_lt hg2) (by decide) wm_135 dX9_crab_57 (n := 60) rfl ?_
      exact retI hk.out dX9_crab_60
    refine g_sw C (1 : Int32) 61 dX9_crab_21 (by decide) (by decide) rfl (by decide) hk (fun hk => ?_) (fun hc5 hk => ?_)
    · refine g_aload_n C 0 dX9_crab_61 rfl rfl (n := 62) rfl ?_
      refine g_getI C kc_7 ft_7_1 (by decide) (inb_lt hg2) (by decide) wm_138 dX9_crab_62 (n := 65) rfl ?_
      exact retI hk.out dX9_crab_65
    refine g_sw C (2 : Int32) 66 dX9_crab_21 (by decide) (by decide) rfl (by decide) hk (fun hk => ?_) (fun hc6 hk => ?_)
    · refine g_aload_n C 0 dX9_crab_66 rfl rfl (n := 67) rfl ?_
      refine g_getI C kc_7 ft_7_2 (by decide) (inb_lt hg2) (by decide) wm_141 dX9_crab_67 (n := 70) rfl ?_
      exact retI hk.out dX9_crab_70
    refine g_sw C (3 : Int32) 71 dX9_crab_21 (by decide) (by decide) rfl (by decide) hk (fun hk => ?_) (fun hc7 hk => ?_)
    · refine g_aload_n C 0 dX9_crab_71 rfl rfl (n := 72) rfl ?_
      refine g_getI C kc_7 ft_7_3 (by decide) (inb_lt hg2) (by decide) wm_144 dX9_crab_72 (n := 75) rfl ?_
      exact retI hk.out dX9_crab_75
    refine g_sw C (4 : Int32) 76 dX9_crab_21 (by decide) (by decide) rfl (by decide) hk (fun hk => ?_) (fun hc8 hk => ?_)
    · refine g_aload_n C 0 dX9_crab_76 rfl rfl (n := 77) rfl ?_
      refine g_cVBp C hk (fun K hk => L_X2_holds Θ 0 (by decide) p1.toNatClampNeg (inb_lt hg2) h K hk) lk_X9_170 kc_7 (by decide) (inb_lt hg2) ⟨rfl, rfl⟩ ⟨Nat.le_of_ble_eq_true rfl, Nat.le_of_ble_eq_true rfl⟩ dX9_crab_77 rfl rfl (Nat.le_of_ble_eq_true rfl) (n := 80) rfl (fun r3 hk => ?_)
      refine g_bf C 90 dX9_crab_80 (by decide) (n := 83) rfl hk (fun hk => ?_) (fun hk => ?_)
      · refine g_bipush C (-4 : Int32) dX9_crab_90 (by decide) (n := 92) rfl ?_
        exact retI hk.out dX9_crab_92
      · refine g_aload_n C 0 dX9_crab_83 rfl rfl (n := 84) rfl ?_
        refine g_getI C kc_7 ft_7_4 (by decide) (inb_lt hg2) (by decide) wm_147 dX9_crab_84 (n := 87) rfl ?_
        refine g_goto C 92 dX9_crab_87 (by decide) ?_
        exact retI hk.out dX9_crab_92
    refine g_swd C 5 93 dX9_crab_21 (by decide) (by decide) (sw_s (sw_s (sw_s (sw_s (sw_0 hc4) hc5) hc6) hc7) hc8) (by decide) ?_
    refine g_iconst C (-1 : Int32) dX9_crab_93 (by decide) (n := 94) rfl ?_
    exact retI hk.out dX9_crab_94
  · refine g_iconst C (-1 : Int32) dX9_crab_8 (by decide) (n := 9) rfl ?_
    exact retI hk.out dX9_crab_9
def f_X9_isPlace (p1 : Int32) (h : Mem) : Option (Bool) := obd (f_X9_within p1 (0 : Int32) ((h 1 0 0 0) - (1 : Int32)) h) (fun r1 => some r1)
def rm_X9_isPlace : Room := { frames := 1, cells := 0, slots := 0, locals := 22 }
set_option maxHeartbeats 4000000 in
set_option maxRecDepth 100000 in
theorem L_X9_isPlace (Θ : Tht) (p1 : Int32) (h : Mem) (K : Bool × Mem → Prop) (hk : Ok (f_X9_isPlace p1 h) (fun r => K (r, h))) : CB Θ yX9_isPlace cX9_isPlace 2 (some .boolean) rm_X9_isPlace [.ref (rr Θ 0 0 0), .int p1] h K := by
  refine CB.of K [(0, .ref (rr Θ 0 0 0)), (1, .int p1)] (plainFor_of_name (by decide)) (Nat.le_of_ble_eq_true rfl) rfl (fun Γ C Rt => ?_)
  replace hk := rtBp Rt hk
  unfold f_X9_isPlace at hk
  refine g_iload_n C 1 dX9_isPlace_0 rfl rfl (n := 1) rfl ?_
  refine g_iconst C (0 : Int32) dX9_isPlace_1 (by decide) (n := 2) rfl ?_
  refine g_aload_n C 0 dX9_isPlace_2 rfl rfl (n := 3) rfl ?_
  refine g_getR C kc_0 (rt_0_0 (tB Θ) 0) (by decide) (by decide) (by decide) wm_362 dX9_isPlace_3 (n := 6) rfl ?_
  refine g_getI C kc_1 ft_1_0 (by decide) (by decide) (by decide) wm_161 dX9_isPlace_6 (n := 9) rfl ?_
  refine g_iconst C (1 : Int32) dX9_isPlace_9 (by decide) (n := 10) rfl ?_
  refine g_isub C dX9_isPlace_10 (n := 11) rfl ?_
  refine g_cSBp C hk (fun K hk => L_X9_within Θ p1 (0 : Int32) ((h 1 0 0 0) - (1 : Int32)) h K hk) lk_X9_69 ⟨rfl, rfl⟩ ⟨Nat.le_of_ble_eq_true rfl, Nat.le_of_ble_eq_true rfl⟩ dX9_isPlace_11 rfl rfl (Nat.le_of_ble_eq_true rfl) (n := 14) rfl (fun r1 hk => ?_)
  exact retB r1 rfl hk.out dX9_isPlace_14
def f_X9_dig (p1 : Int32) (p2 : Int32) (h : Mem) : Option (Int32 × Mem) := obd (f_X9_isPlace p1 h) (fun r1 => (if r1 = true then obd (f_X9_within p2 (0 : Int32) (9 : Int32) h) (fun r2 => (if r2 = true then obd ((if p2 = 0 then obd (f_X0_countBetween 0 ((20 : Int32) + p1) ((20 : Int32) + p1) h) (fun r4 => (if r4 ≤ 0 then some (.inr ()) else some (.inl ((-2 : Int32), h)))) else some (.inr ()))) (Sum.elim (fun r => some r) (fun a5 => gd (inb p1 8) (bnd (h 2 0 0 p1.toNatClampNeg) (fun x6 => gd (inb p1 8) (bnd (up h 2 0 0 p1.toNatClampNeg p2) (fun h7 => some (x6, h7))))))) else some ((-1 : Int32), h))) else some ((-1 : Int32), h)))
def rm_X9_dig : Room := { frames := 2, cells := 0, slots := 0, locals := 46 }
set_option maxHeartbeats 4000000 in
set_option maxRecDepth 100000 in
theorem L_X9_dig (Θ : Tht) (p1 : Int32) (p2 : Int32) (h : Mem) (K : Int32 × Mem → Prop) (hk : Ok (f_X9_dig p1 p2 h) K) : CI Θ yX9_dig cX9_dig 4 (some .int) rm_X9_dig [.ref (rr Θ 0 0 0), .int p1, .int p2] h K := by
  refine CI.of K [(0, .ref (rr Θ 0 0 0)), (1, .int p1), (2, .int p2)] (plainFor_of_name (by decide)) (Nat.le_of_ble_eq_true rfl) rfl (fun Γ C Rt => ?_)
  replace hk := rtI Rt hk
  unfold f_X9_dig at hk
  refine g_aload_n C 0 dX9_dig_0 rfl rfl (n := 1) rfl ?_
  refine g_iload_n C 1 dX9_dig_1 rfl rfl (n := 2) rfl ?_
  refine g_cVBp C hk (fun K hk => L_X9_isPlace Θ p1 h K hk) lk_X9_115 kc_0 (by decide) (by decide) ⟨rfl, rfl⟩ ⟨Nat.le_of_ble_eq_true rfl, Nat.le_of_ble_eq_true rfl⟩ dX9_dig_2 rfl rfl (Nat.le_of_ble_eq_true rfl) (n := 5) rfl (fun r1 hk => ?_)
  refine g_bf C 18 dX9_dig_5 (by decide) (n := 8) rfl hk (fun hk => ?_) (fun hk => ?_)
  · refine g_iconst C (-1 : Int32) dX9_dig_18 (by decide) (n := 19) rfl ?_
    exact retI hk.out dX9_dig_19
  · refine g_iload_n C 2 dX9_dig_8 rfl rfl (n := 9) rfl ?_
    refine g_iconst C (0 : Int32) dX9_dig_9 (by decide) (n := 10) rfl ?_
    refine g_bipush C (9 : Int32) dX9_dig_10 (by decide) (n := 12) rfl ?_
    refine g_cSBp C hk (fun K hk => L_X9_within Θ p2 (0 : Int32) (9 : Int32) h K hk) lk_X9_69 ⟨rfl, rfl⟩ ⟨Nat.le_of_ble_eq_true rfl, Nat.le_of_ble_eq_true rfl⟩ dX9_dig_12 rfl rfl (Nat.le_of_ble_eq_true rfl) (n := 15) rfl (fun r2 hk => ?_)
    refine g_bt C 20 dX9_dig_15 (by decide) (n := 18) rfl hk (fun hk => ?_) (fun hk => ?_)
    · refine g_iload_n C 2 dX9_dig_20 rfl rfl (n := 21) rfl ?_
      refine Ok.join hk (Sum.elim (PI Θ Γ cX9_dig) (fun a5 => G Θ Γ 45 [(0, .ref (rr Θ 0 0 0)), (1, .int p1), (2, .int p2)] [] h)) (fun e hk => ?_) (fun hk => ?_)
      · rcases e with r | a5
        · exact hk.out
        · replace hk := ok_inr hk
          refine g_aload_n C 0 dX9_dig_45 rfl rfl (n := 46) rfl ?_
          refine g_getR C kc_0 (rt_0_0 (tB Θ) 0) (by decide) (by decide) (by decide) wm_362 dX9_dig_46 (n := 49) rfl ?_
          refine g_getR C kc_1 (rt_1_1 (tB Θ) 0) (by decide) (by decide) (by decide) wm_164 dX9_dig_49 (n := 52) rfl ?_
          refine g_iload_n C 1 dX9_dig_52 rfl rfl (n := 53) rfl ?_
          refine g_iald C an_2 (by decide) dX9_dig_53 (n := 54) rfl hk (fun _ hk => ?_)
          refine g_nm hk (fun x6 hk => ?_)
          refine g_istore_n C [(3, .int x6), (0, .ref (rr Θ 0 0 0)), (1, .int p1), (2, .int p2)] dX9_dig_54 rfl (by decide) rfl (n := 55) rfl ?_
          refine g_aload_n C 1 dX9_dig_55 rfl rfl (n := 56) rfl ?_
          refine g_getR C kc_0 (rt_0_0 (tB Θ) 0) (by decide) (by decide) (by decide) wm_362 dX9_dig_56 (n := 59) rfl ?_
          refine g_getR C kc_1 (rt_1_1 (tB Θ) 0) (by decide) (by decide) (by decide) wm_164 dX9_dig_59 (n := 62) rfl ?_
          refine g_iload_n C 2 dX9_dig_62 rfl rfl (n := 63) rfl ?_
          refine g_iload_n C 3 dX9_dig_63 rfl rfl (n := 64) rfl ?_
          refine g_iast C an_2 (by decide) dX9_dig_64 (n := 65) rfl hk (fun _ h7 hk => ?_)
          refine g_iload_n C 0 dX9_dig_65 rfl rfl (n := 66) rfl ?_
          exact retI hk.out dX9_dig_66
      · refine g_if_ne C 45 dX9_dig_21 (by decide) (n := 24) rfl hk (fun hk => ?_) (fun hk => ?_)
        · exact hk.out
        · refine g_aload_n C 0 dX9_dig_24 rfl rfl (n := 25) rfl ?_
          refine g_getR C kc_0 (rt_0_0 (tB Θ) 0) (by decide) (by decide) (by decide) wm_362 dX9_dig_25 (n := 28) rfl ?_
          refine g_bipush C (20 : Int32) dX9_dig_28 (by decide) (n := 30) rfl ?_
          refine g_iload_n C 1 dX9_dig_30 rfl rfl (n := 31) rfl ?_
          refine g_iadd C dX9_dig_31 (n := 32) rfl ?_
          refine g_bipush C (20 : Int32) dX9_dig_32 (by decide) (n := 34) rfl ?_
          refine g_iload_n C 1 dX9_dig_34 rfl rfl (n := 35) rfl ?_
          refine g_iadd C dX9_dig_35 (n := 36) rfl ?_
          refine g_cVIp C hk (fun K hk => L_X0_countBetween Θ 0 (by decide) ((20 : Int32) + p1) ((20 : Int32) + p1) h K hk) lk_X9_177 kc_1 (by decide) (by decide) ⟨rfl, rfl⟩ ⟨Nat.le_of_ble_eq_true rfl, Nat.le_of_ble_eq_true rfl⟩ dX9_dig_36 rfl rfl (Nat.le_of_ble_eq_true rfl) (n := 39) rfl (fun r4 hk => ?_)
          refine g_if_le C 45 dX9_dig_39 (by decide) (n := 42) rfl hk (fun hk => ?_) (fun hk => ?_)
          · exact hk.out
          · refine g_bipush C (-2 : Int32) dX9_dig_42 (by decide) (n := 44) rfl ?_
            exact retI hk.out dX9_dig_44
    · refine g_iconst C (-1 : Int32) dX9_dig_18 (by decide) (n := 19) rfl ?_
      exact retI hk.out dX9_dig_19
def f_X9_end (p1 : Int32) (h : Mem) : Option (Int32 × Mem) := obd (f_X9_within p1 (0 : Int32) (h 17 1 0 0) h) (fun r1 => (if r1 = true then bnd (h 17 1 0 0) (fun x2 => bnd (up h 17 1 0 0 p1) (fun h3 => some (x2, h3))) else some ((-1 : Int32), h)))
def rm_X9_end : Room := { frames := 1, cells := 0, slots := 0, locals := 22 }
set_option maxHeartbeats 4000000 in
set_option maxRecDepth 100000 in
theorem L_X9_end (Θ : Tht) (p1 : Int32) (h : Mem) (K : Int32 × Mem → Prop) (hk : Ok (f_X9_end p1 h) K) : CI Θ yX9_end cX9_end 3 (some .int) rm_X9_end [.ref (rr Θ 0 0 0), .int p1] h K := by
  refine CI.of K [(0, .ref (rr Θ 0 0 0)), (1, .int p1)] (plainFor_of_name (by decide)) (Nat.le_of_ble_eq_true rfl) rfl (fun Γ C Rt => ?_)
  replace hk := rtI Rt hk
  unfold f_X9_end at hk
  refine g_iload_n C 1 dX9_end_0 rfl rfl (n := 1) rfl ?_
  refine g_iconst C (0 : Int32) dX9_end_1 (by decide) (n := 2) rfl ?_
  refine g_aload_n C 0 dX9_end_2 rfl rfl (n := 3) rfl ?_
  refine g_getR C kc_0 (rt_0_5 (tB Θ) 0) (by decide) (by decide) (by decide) wm_367 dX9_end_3 (n := 6) rfl ?_
  refine g_getI C kc_17 ft_17_1 (by decide) (by decide) (by decide) wm_272 dX9_end_6 (n := 9) rfl ?_
  refine g_cSBp C hk (fun K hk => L_X9_within Θ p1 (0 : Int32) (h 17 1 0 0) h K hk) lk_X9_69 ⟨rfl, rfl⟩ ⟨Nat.le_of_ble_eq_true rfl, Nat.le_of_ble_eq_true rfl⟩ dX9_end_9 rfl rfl (Nat.le_of_ble_eq_true rfl) (n := 12) rfl (fun r1 hk => ?_)
  refine g_bt C 17 dX9_end_12 (by decide) (n := 15) rfl hk (fun hk => ?_) (fun hk => ?_)
  · refine g_aload_n C 0 dX9_end_17 rfl rfl (n := 18) rfl ?_
    refine g_getR C kc_0 (rt_0_5 (tB Θ) 0) (by decide) (by decide) (by decide) wm_367 dX9_end_18 (n := 21) rfl ?_
    refine g_getI C kc_17 ft_17_1 (by decide) (by decide) (by decide) wm_272 dX9_end_21 (n := 24) rfl ?_
    refine g_nm hk (fun x2 hk => ?_)
    refine g_istore_n C [(2, .int x2), (0, .ref (rr Θ 0 0 0)), (1, .int p1)] dX9_end_24 rfl (by decide) rfl (n := 25) rfl ?_
    refine g_aload_n C 1 dX9_end_25 rfl rfl (n := 26) rfl ?_
    refine g_getR C kc_0 (rt_0_5 (tB Θ) 0) (by decide) (by decide) (by decide) wm_367 dX9_end_26 (n := 29) rfl ?_
    refine g_iload_n C 2 dX9_end_29 rfl rfl (n := 30) rfl ?_
    refine g_putI C kc_17 ft_17_1 (by decide) (by decide) (by decide) rfl (fitI _) wm_272 dX9_end_30 (n := 33) rfl hk (fun h3 hk => ?_)
    refine g_iload_n C 0 dX9_end_33 rfl rfl (n := 34) rfl ?_
    exact retI hk.out dX9_end_34
  · refine g_iconst C (-1 : Int32) dX9_end_15 (by decide) (n := 16) rfl ?_
    exact retI hk.out dX9_end_16
def f_X9_fake (p1 : Int32) (p2 : Bool) (h : Mem) : Option (Int32 × Mem) := obd (f_X9_isCoin p1 h) (fun r1 => (if r1 = true then gd (inb p1 6) (obd (i2b (h 6 1 0 p1.toNatClampNeg)) (fun b3 => obd (f_X9_asNumber b3 h) (fun r4 => gd (inb p1 6) (bnd (up h 6 1 0 p1.toNatClampNeg (b2i p2)) (fun h6 => some (r4, h6)))))) else some ((-1 : Int32), h)))
def rm_X9_fake : Room := { frames := 2, cells := 0, slots := 0, locals := 43 }
set_option maxHeartbeats 4000000 in
set_option maxRecDepth 100000 in
theorem L_X9_fake (Θ : Tht) (p1 : Int32) (p2 : Bool) (h : Mem) (K : Int32 × Mem → Prop) (hk : Ok (f_X9_fake p1 p2 h) K) : CI Θ yX9_fake cX9_fake 4 (some .int) rm_X9_fake [.ref (rr Θ 0 0 0), .int p1, .int (b2i p2)] h K := by
  refine CI.of K [(0, .ref (rr Θ 0 0 0)), (1, .int p1), (2, .int (b2i p2))] (plainFor_of_name (by decide)) (Nat.le_of_ble_eq_true rfl) rfl (fun Γ C Rt => ?_)
  replace hk := rtI Rt hk
  unfold f_X9_fake at hk
  refine g_aload_n C 0 dX9_fake_0 rfl rfl (n := 1) rfl ?_
  refine g_iload_n C 1 dX9_fake_1 rfl rfl (n := 2) rfl ?_
  refine g_cVBp C hk (fun K hk => L_X9_isCoin Θ p1 h K hk) lk_X9_123 kc_0 (by decide) (by decide) ⟨rfl, rfl⟩ ⟨Nat.le_of_ble_eq_true rfl, Nat.le_of_ble_eq_true rfl⟩ dX9_fake_2 rfl rfl (Nat.le_of_ble_eq_true rfl) (n := 5) rfl (fun r1 hk => ?_)
  refine g_bt C 10 dX9_fake_5 (by decide) (n := 8) rfl hk (fun hk => ?_) (fun hk => ?_)
  · refine g_aload_n C 0 dX9_fake_10 rfl rfl (n := 11) rfl ?_
    refine g_getR C kc_0 (rt_0_0 (tB Θ) 0) (by decide) (by decide) (by decide) wm_362 dX9_fake_11 (n := 14) rfl ?_
    refine g_getR C kc_1 (rt_1_3 (tB Θ) 0) (by decide) (by decide) (by decide) wm_171 dX9_fake_14 (n := 17) rfl ?_
    refine g_iload_n C 1 dX9_fake_17 rfl rfl (n := 18) rfl ?_
    refine g_aald C ar_3 (by decide) dX9_fake_18 (n := 19) rfl hk (fun hg2 hk => ?_)
    refine g_getI C kc_6 ft_6_1 (by decide) (inb_lt hg2) (by decide) wm_112 dX9_fake_19 (n := 22) rfl ?_
    obtain ⟨b3, heb3, hk⟩ := ok_i2b hk
    refine g_cSIp C hk (fun K hk => L_X9_asNumber Θ b3 h K hk) lk_X9_138 ⟨rfl, rfl⟩ ⟨Nat.le_of_ble_eq_true rfl, Nat.le_of_ble_eq_true rfl⟩ dX9_fake_22 rfl (by rw [heb3]; rfl) (Nat.le_of_ble_eq_true rfl) (n := 25) rfl (fun r4 hk => ?_)
    refine g_istore_n C [(3, .int r4), (0, .ref (rr Θ 0 0 0)), (1, .int p1), (2, .int (b2i p2))] dX9_fake_25 rfl (by decide) rfl (n := 26) rfl ?_
    refine g_aload_n C 1 dX9_fake_26 rfl rfl (n := 27) rfl ?_
    refine g_getR C kc_0 (rt_0_0 (tB Θ) 0) (by decide) (by decide) (by decide) wm_362 dX9_fake_27 (n := 30) rfl ?_
    refine g_getR C kc_1 (rt_1_3 (tB Θ) 0) (by decide) (by decide) (by decide) wm_171 dX9_fake_30 (n := 33) rfl ?_
    refine g_iload_n C 2 dX9_fake_33 rfl rfl (n := 34) rfl ?_
    refine g_aald C ar_3 (by decide) dX9_fake_34 (n := 35) rfl hk (fun hg5 hk => ?_)
    refine g_iload_n C 3 dX9_fake_35 rfl rfl (n := 36) rfl ?_
    refine g_putI C kc_6 ft_6_1 (by decide) (inb_lt hg5) (by decide) rfl (fitB p2) wm_112 dX9_fake_36 (n := 39) rfl hk (fun h6 hk => ?_)
    refine g_iload_n C 0 dX9_fake_39 rfl rfl (n := 40) rfl ?_
    exact retI hk.out dX9_fake_40
  · refine g_iconst C (-1 : Int32) dX9_fake_8 (by decide) (n := 9) rfl ?_
    exact retI hk.out dX9_fake_9
def f_X6_holdAt (o0 : Nat) (p1 : Int32) (o2 : Nat) (h : Mem) : Option (Bool) := obd (lp fu (fun a11 => (if (h 8 0 o0 0) ≤ a11 then some (.inr (.inr ())) else gd (inb a11 8) ((if (h 9 0 o0 a11.toNatClampNeg) = p1 then gd (inb a11 8) (gd (inb (h 10 0 o0 a11.toNatClampNeg) 6) (gd (inb a11 8) (obd ((if (h 6 2 o2 (h 10 0 o0 a11.toNatClampNeg).toNatClampNeg) = (h 11 0 o0 a11.toNatClampNeg) then some true else some false)) (fun a14 => gd (inb a11 8) ((if (b2i a14) = (h 12 0 o0 a11.toNatClampNeg) then bnd (a11 + (1 : Int32)) (fun x15 => some (.inl x15)) else some (.inr (.inl false)))))))) else bnd (a11 + (1 : Int32)) (fun x12 => some (.inl x12)))))) (0 : Int32)) (Sum.elim (fun r => some r) (fun e16 => some true))
def rm_X6_holdAt : Room := { frames := 0, cells := 0, slots := 0, locals := 0 }
set_option maxHeartbeats 4000000 in
set_option maxRecDepth 100000 in
theorem L_X6_holdAt (Θ : Tht) (o0 : Nat) (ho0 : o0 < 3) (p1 : Int32) (o2 : Nat) (ho2 : o2 < 5) (h : Mem) (K : Bool × Mem → Prop) (hk : Ok (f_X6_holdAt o0 p1 o2 h) (fun r => K (r, h))) : CB Θ yX6_holdAt cX6_holdAt 4 (some .boolean) rm_X6_holdAt [.ref (rr Θ 8 o0 0), .int p1, .ref (rr Θ 1 o2 0)] h K := by
  refine CB.of K [(0, .ref (rr Θ 8 o0 0)), (1, .int p1), (2, .ref (rr Θ 1 o2 0))] (plainFor_of_name (by decide)) (Nat.le_of_ble_eq_true rfl) rfl (fun Γ C Rt => ?_)
  replace hk := rtBp Rt hk
  unfold f_X6_holdAt at hk
  refine g_iconst C (0 : Int32) dX6_holdAt_0 (by decide) (n := 1) rfl ?_
  refine g_istore_n C [(3, .int (0 : Int32)), (0, .ref (rr Θ 8 o0 0)), (1, .int p1), (2, .ref (rr Θ 1 o2 0))] dX6_holdAt_1 rfl (by decide) rfl (n := 2) rfl ?_
  refine g_lv [1, 2, 3, 0] [(0, .ref (rr Θ 8 o0 0)), (1, .int p1), (2, .ref (rr Θ 1 o2 0)), (3, .int (0 : Int32))] rfl ?_
  refine Ok.join hk (Sum.elim (fun r => PB Θ Γ cX6_holdAt (r, h)) (fun e16 => G Θ Γ 65 [] [] h)) (fun e hk => ?_) (fun hk => ?_)
  · rcases e with r | e16
    · exact hk.out
    · replace hk := ok_inr hk
      refine g_iconst C (1 : Int32) dX6_holdAt_65 (by decide) (n := 66) rfl ?_
      exact retB true rfl hk.out dX6_holdAt_66
  · refine Ok.loop (fun a11 => G Θ Γ 2 [(0, .ref (rr Θ 8 o0 0)), (1, .int p1), (2, .ref (rr Θ 1 o2 0)), (3, .int a11)] [] h) (fun a11 hk => ?_) _ _ hk
    refine g_iload_n C 3 dX6_holdAt_2 rfl rfl (n := 3) rfl ?_
    refine g_aload_n C 0 dX6_holdAt_3 rfl rfl (n := 4) rfl ?_
    refine g_getI C kc_8 ft_8_0 ho0 (by decide) (by decide) wm_218 dX6_holdAt_4 (n := 7) rfl ?_
    refine g_ic_ge C 65 dX6_holdAt_7 (by decide) (n := 10) rfl hk (fun hk => ?_) (fun hk => ?_)
    · refine g_lv [] [] rfl ?_
      exact hk.out
    · refine g_aload_n C 0 dX6_holdAt_10 rfl rfl (n := 11) rfl ?_
      refine g_getR C kc_8 (rt_8_1 (tB Θ) o0) ho0 (by decide) (by decide) wm_220 dX6_holdAt_11 (n := 14) rfl ?_
      refine g_iload_n C 3 dX6_holdAt_14 rfl rfl (n := 15) rfl ?_
      refine g_iald C an_9 ho0 dX6_holdAt_15 (n := 16) rfl hk (fun _ hk => ?_)
      refine g_iload_n C 1 dX6_holdAt_16 rfl rfl (n := 17) rfl ?_
      refine g_ic_ne C 59 dX6_holdAt_17 (by decide) (n := 20) rfl hk (fun hk => ?_) (fun hk => ?_)
      · refine g_iinc C 3 (fun x12 => [(3, .int x12), (0, .ref (rr Θ 8 o0 0)), (1, .int p1), (2, .ref (rr Θ 1 o2 0))]) dX6_holdAt_59 rfl (v := (a11 + (1 : Int32))) rfl (by decide) (fun _ => rfl) (n := 62) rfl hk (fun x12 hk => ?_)
        refine g_goto C 2 dX6_holdAt_62 (by decide) ?_
        refine g_lv [1, 2, 3, 0] [(0, .ref (rr Θ 8 o0 0)), (1, .int p1), (2, .ref (rr Θ 1 o2 0)), (3, .int x12)] rfl ?_
        exact hk.out
      · refine g_aload_n C 2 dX6_holdAt_20 rfl rfl (n := 21) rfl ?_
        refine g_getR C kc_1 (rt_1_3 (tB Θ) o2) ho2 (by decide) (by decide) wm_169 dX6_holdAt_21 (n := 24) rfl ?_
        refine g_aload_n C 0 dX6_holdAt_24 rfl rfl (n := 25) rfl ?_
        refine g_getR C kc_8 (rt_8_2 (tB Θ) o0) ho0 (by decide) (by decide) wm_221 dX6_holdAt_25 (n := 28) rfl ?_
        refine g_iload_n C 3 dX6_holdAt_28 rfl rfl (n := 29) rfl ?_
        refine g_iald C an_10 ho0 dX6_holdAt_29 (n := 30) rfl hk (fun _ hk => ?_)
        refine g_aald C ar_3 ho2 dX6_holdAt_30 (n := 31) rfl hk (fun hg13 hk => ?_)
        refine g_getI C kc_6 ft_6_2 ho2 (inb_lt hg13) (by decide) wm_115 dX6_holdAt_31 (n := 34) rfl ?_
        refine g_aload_n C 0 dX6_holdAt_34 rfl rfl (n := 35) rfl ?_
        refine g_getR C kc_8 (rt_8_3 (tB Θ) o0) ho0 (by decide) (by decide) wm_222 dX6_holdAt_35 (n := 38) rfl ?_
        refine g_iload_n C 3 dX6_holdAt_38 rfl rfl (n := 39) rfl ?_
        refine g_iald C an_11 ho0 dX6_holdAt_39 (n := 40) rfl hk (fun _ hk => ?_)
        refine Ok.join hk (fun a14 => G Θ Γ 48 [(0, .ref (rr Θ 8 o0 0)), (1, .int p1), (2, .ref (rr Θ 1 o2 0)), (3, .int a11)] [.int (b2i a14)] h) (fun a14 hk => ?_) (fun hk => ?_)
        · refine g_aload_n C 0 dX6_holdAt_48 rfl rfl (n := 49) rfl ?_
          refine g_getR C kc_8 (rt_8_4 (tB Θ) o0) ho0 (by decide) (by decide) wm_223 dX6_holdAt_49 (n := 52) rfl ?_
          refine g_iload_n C 3 dX6_holdAt_52 rfl rfl (n := 53) rfl ?_
          refine g_zald C an_12 ho0 dX6_holdAt_53 (n := 54) rfl hk (fun _ hk => ?_)
          refine g_ic_eq C 59 dX6_holdAt_54 (by decide) (n := 57) rfl hk (fun hk => ?_) (fun hk => ?_)
          · refine g_iinc C 3 (fun x15 => [(3, .int x15), (0, .ref (rr Θ 8 o0 0)), (1, .int p1), (2, .ref (rr Θ 1 o2 0))]) dX6_holdAt_59 rfl (v := (a11 + (1 : Int32))) rfl (by decide) (fun _ => rfl) (n := 62) rfl hk (fun x15 hk => ?_)
            refine g_goto C 2 dX6_holdAt_62 (by decide) ?_
            refine g_lv [1, 2, 3, 0] [(0, .ref (rr Θ 8 o0 0)), (1, .int p1), (2, .ref (rr Θ 1 o2 0)), (3, .int x15)] rfl ?_
            exact hk.out
          · refine g_iconst C (0 : Int32) dX6_holdAt_57 (by decide) (n := 58) rfl ?_
            exact retB false rfl hk.out dX6_holdAt_58
        · refine g_ic_ne C 47 dX6_holdAt_40 (by decide) (n := 43) rfl hk (fun hk => ?_) (fun hk => ?_)
          · refine g_iconst C (0 : Int32) dX6_holdAt_47 (by decide) (n := 48) rfl ?_
            exact hk.out
          · refine g_iconst C (1 : Int32) dX6_holdAt_43 (by decide) (n := 44) rfl ?_
            refine g_goto C 48 dX6_holdAt_44 (by decide) ?_
            exact hk.out
def f_J9_max_7cf53 (p1 : Int32) (p2 : Int32) (h : Mem) : Option (Int32) := (if p1 < p2 then some p2 else some p1)
def rm_J9_max_7cf53 : Room := { frames := 0, cells := 0, slots := 0, locals := 0 }
set_option maxHeartbeats 4000000 in
set_option maxRecDepth 100000 in
theorem L_J9_max_7cf53 (Θ : Tht) (p1 : Int32) (p2 : Int32) (h : Mem) (K : Int32 × Mem → Prop) (hk : Ok (f_J9_max_7cf53 p1 p2 h) (fun r => K (r, h))) : CI Θ yJ9_max_7cf53 cJ9_max_7cf53 2 (some .int) rm_J9_max_7cf53 [.int p1, .int p2] h K := by
  refine CI.of K [(0, .int p1), (1, .int p2)] (by decide +kernel) (Nat.le_of_ble_eq_true rfl) rfl (fun Γ C Rt => ?_)
  replace hk := rtIp Rt hk
  unfold f_J9_max_7cf53 at hk
  refine g_iload_n C 0 dJ9_max_7cf53_0 rfl rfl (n := 1) rfl ?_
  refine g_iload_n C 1 dJ9_max_7cf53_1 rfl rfl (n := 2) rfl ?_
  refine g_ic_lt C 9 dJ9_max_7cf53_2 (by decide) (n := 5) rfl hk (fun hk => ?_) (fun hk => ?_)
  · refine g_iload_n C 1 dJ9_max_7cf53_9 rfl rfl (n := 10) rfl ?_
    exact retI hk.out dJ9_max_7cf53_10
  · refine g_iload_n C 0 dJ9_max_7cf53_5 rfl rfl (n := 6) rfl ?_
    refine g_goto C 10 dJ9_max_7cf53_6 (by decide) ?_
    exact retI hk.out dJ9_max_7cf53_10
def f_X6_lastStep (o0 : Nat) (h : Mem) : Option (Int32) := obd (lp fu (fun a7 => (if (h 8 0 o0 0) ≤ a7.2 then some (.inr a7.1) else gd (inb a7.2 8) (obd (f_J9_max_7cf53 a7.1 (h 9 0 o0 a7.2.toNatClampNeg) h) (fun r8 => bnd (a7.2 + (1 : Int32)) (fun x9 => some (.inl (r8, x9))))))) ((-1 : Int32), (0 : Int32))) (fun e10 => some e10)
def rm_X6_lastStep : Room := { frames := 1, cells := 0, slots := 0, locals := 21 }
set_option maxHeartbeats 4000000 in
set_option maxRecDepth 100000 in
theorem L_X6_lastStep (Θ : Tht) (o0 : Nat) (ho0 : o0 < 3) (h : Mem) (K : Int32 × Mem → Prop) (hk : Ok (f_X6_lastStep o0 h) (fun r => K (r, h))) : CI Θ yX6_lastStep cX6_lastStep 3 (some .int) rm_X6_lastStep [.ref (rr Θ 8 o0 0)] h K := by
  refine CI.of K [(0, .ref (rr Θ 8 o0 0))] (plainFor_of_name (by decide)) (Nat.le_of_ble_eq_true rfl) rfl (fun Γ C Rt => ?_)
  replace hk := rtIp Rt hk
  unfold f_X6_lastStep at hk
  refine g_iconst C (-1 : Int32) dX6_lastStep_0 (by decide) (n := 1) rfl ?_
  refine g_istore_n C [(1, .int (-1 : Int32)), (0, .ref (rr Θ 8 o0 0))] dX6_lastStep_1 rfl (by decide) rfl (n := 2) rfl ?_
  refine g_iconst C (0 : Int32) dX6_lastStep_2 (by decide) (n := 3) rfl ?_
  refine g_istore_n C [(2, .int (0 : Int32)), (1, .int (-1 : Int32)), (0, .ref (rr Θ 8 o0 0))] dX6_lastStep_3 rfl (by decide) rfl (n := 4) rfl ?_
  refine g_lv [2, 1, 0] [(0, .ref (rr Θ 8 o0 0)), (1, .int (-1 : Int32)), (2, .int (0 : Int32))] rfl ?_
  refine Ok.join hk (fun e10 => G Θ Γ 29 [(1, .int e10)] [] h) (fun e10 hk => ?_) (fun hk => ?_)
  · refine g_iload_n C 0 dX6_lastStep_29 rfl rfl (n := 30) rfl ?_
    exact retI hk.out dX6_lastStep_30
  · refine Ok.loop (fun a7 => G Θ Γ 4 [(0, .ref (rr Θ 8 o0 0)), (1, .int a7.1), (2, .int a7.2)] [] h) (fun a7 hk => ?_) _ _ hk
    refine g_iload_n C 2 dX6_lastStep_4 rfl rfl (n := 5) rfl ?_
    refine g_aload_n C 0 dX6_lastStep_5 rfl rfl (n := 6) rfl ?_
    refine g_getI C kc_8 ft_8_0 ho0 (by decide) (by decide) wm_218 dX6_lastStep_6 (n := 9) rfl ?_
    refine g_ic_ge C 29 dX6_lastStep_9 (by decide) (n := 12) rfl hk (fun hk => ?_) (fun hk => ?_)
    · refine g_lv [1] [(1, .int a7.1)] rfl ?_
      exact hk.out
    · refine g_iload_n C 1 dX6_lastStep_12 rfl rfl (n := 13) rfl ?_
      refine g_aload_n C 0 dX6_lastStep_13 rfl rfl (n := 14) rfl ?_
      refine g_getR C kc_8 (rt_8_1 (tB Θ) o0) ho0 (by decide) (by decide) wm_220 dX6_lastStep_14 (n := 17) rfl ?_
      refine g_iload_n C 2 dX6_lastStep_17 rfl rfl (n := 18) rfl ?_
      refine g_iald C an_9 ho0 dX6_lastStep_18 (n := 19) rfl hk (fun _ hk => ?_)
      refine g_cSIp C hk (fun K hk => L_J9_max_7cf53 Θ a7.1 (h 9 0 o0 a7.2.toNatClampNeg) h K hk) lk_X6_42 ⟨rfl, rfl⟩ ⟨Nat.le_of_ble_eq_true rfl, Nat.le_of_ble_eq_true rfl⟩ dX6_lastStep_19 rfl rfl (Nat.le_of_ble_eq_true rfl) (n := 22) rfl (fun r8 hk => ?_)
      refine g_istore_n C [(1, .int r8), (0, .ref (rr Θ 8 o0 0)), (2, .int a7.2)] dX6_lastStep_22 rfl (by decide) rfl (n := 23) rfl ?_
      refine g_iinc C 2 (fun x9 => [(2, .int x9), (1, .int r8), (0, .ref (rr Θ 8 o0 0))]) dX6_lastStep_23 rfl (v := (a7.2 + (1 : Int32))) rfl (by decide) (fun _ => rfl) (n := 26) rfl hk (fun x9 hk => ?_)
      refine g_goto C 4 dX6_lastStep_26 (by decide) ?_
      refine g_lv [2, 1, 0] [(0, .ref (rr Θ 8 o0 0)), (1, .int r8), (2, .int x9)] rfl ?_
      exact hk.out
def f_X6_holdFor (o0 : Nat) (o1 : Nat) (h : Mem) : Option (Bool × Mem) := obd (f_X6_lastStep o0 h) (fun r1 => obd (lp fu (fun a12 => (if r1 < a12.1 then some (.inr (.inr a12.2)) else obd (f_X6_holdAt o0 a12.1 o1 a12.2) (fun r13 => (if r13 = true then (if r1 ≤ a12.1 then bnd (a12.1 + (1 : Int32)) (fun x14 => some (.inl (x14, a12.2))) else obd (f_X0_goStep o1 a12.2) (fun h15 => bnd (a12.1 + (1 : Int32)) (fun x16 => some (.inl (x16, h15))))) else some (.inr (.inl (false, a12.2))))))) ((0 : Int32), h)) (Sum.elim (fun r => some r) (fun e17 => some (true, e17))))
def rm_X6_holdFor : Room := { frames := 4, cells := 0, slots := 0, locals := 87 }
set_option maxHeartbeats 4000000 in
set_option maxRecDepth 100000 in
theorem L_X6_holdFor (Θ : Tht) (o0 : Nat) (ho0 : o0 < 3) (o1 : Nat) (ho1 : o1 < 5) (h : Mem) (K : Bool × Mem → Prop) (hk : Ok (f_X6_holdFor o0 o1 h) K) : CB Θ yX6_holdFor cX6_holdFor 4 (some .boolean) rm_X6_holdFor [.ref (rr Θ 8 o0 0), .ref (rr Θ 1 o1 0)] h K := by
  refine CB.of K [(0, .ref (rr Θ 8 o0 0)), (1, .ref (rr Θ 1 o1 0))] (plainFor_of_name (by decide)) (Nat.le_of_ble_eq_true rfl) rfl (fun Γ C Rt => ?_)
  replace hk := rtB Rt hk
  unfold f_X6_holdFor at hk
  refine g_aload_n C 0 dX6_holdFor_0 rfl rfl (n := 1) rfl ?_
  refine g_cVIp C hk (fun K hk => L_X6_lastStep Θ o0 ho0 h K hk) lk_X6_29 kc_8 ho0 (by decide) ⟨rfl, rfl⟩ ⟨Nat.le_of_ble_eq_true rfl, Nat.le_of_ble_eq_true rfl⟩ dX6_holdFor_1 rfl rfl (Nat.le_of_ble_eq_true rfl) (n := 4) rfl (fun r1 hk => ?_)
  refine g_istore_n C [(2, .int r1), (0, .ref (rr Θ 8 o0 0)), (1, .ref (rr Θ 1 o1 0))] dX6_holdFor_4 rfl (by decide) rfl (n := 5) rfl ?_
  refine g_iconst C (0 : Int32) dX6_holdFor_5 (by decide) (n := 6) rfl ?_
  refine g_istore_n C [(3, .int (0 : Int32)), (2, .int r1), (0, .ref (rr Θ 8 o0 0)), (1, .ref (rr Θ 1 o1 0))] dX6_holdFor_6 rfl (by decide) rfl (n := 7) rfl ?_
  refine g_lv [2, 3, 1, 0] [(0, .ref (rr Θ 8 o0 0)), (1, .ref (rr Θ 1 o1 0)), (2, .int r1), (3, .int (0 : Int32))] rfl ?_
  refine Ok.join hk (Sum.elim (PB Θ Γ cX6_holdFor) (fun e17 => G Θ Γ 38 [] [] e17)) (fun e hk => ?_) (fun hk => ?_)
  · rcases e with r | e17
    · exact hk.out
    · replace hk := ok_inr hk
      refine g_iconst C (1 : Int32) dX6_holdFor_38 (by decide) (n := 39) rfl ?_
      exact retB true rfl hk.out dX6_holdFor_39
  · refine Ok.loop (fun a12 => G Θ Γ 7 [(0, .ref (rr Θ 8 o0 0)), (1, .ref (rr Θ 1 o1 0)), (2, .int r1), (3, .int a12.1)] [] a12.2) (fun a12 hk => ?_) _ _ hk
    refine g_iload_n C 3 dX6_holdFor_7 rfl rfl (n := 8) rfl ?_
    refine g_iload_n C 2 dX6_holdFor_8 rfl rfl (n := 9) rfl ?_
    refine g_ic_gt C 38 dX6_holdFor_9 (by decide) (n := 12) rfl hk (fun hk => ?_) (fun hk => ?_)
    · refine g_lv [] [] rfl ?_
      exact hk.out
    · refine g_aload_n C 0 dX6_holdFor_12 rfl rfl (n := 13) rfl ?_
      refine g_iload_n C 3 dX6_holdFor_13 rfl rfl (n := 14) rfl ?_
      refine g_aload_n C 1 dX6_holdFor_14 rfl rfl (n := 15) rfl ?_
      refine g_cVBp C hk (fun K hk => L_X6_holdAt Θ o0 ho0 a12.1 o1 ho1 a12.2 K hk) lk_X6_33 kc_8 ho0 (by decide) ⟨rfl, rfl⟩ ⟨Nat.le_of_ble_eq_true rfl, Nat.le_of_ble_eq_true rfl⟩ dX6_holdFor_15 rfl rfl (Nat.le_of_ble_eq_true rfl) (n := 18) rfl (fun r13 hk => ?_)
      refine g_bt C 23 dX6_holdFor_18 (by decide) (n := 21) rfl hk (fun hk => ?_) (fun hk => ?_)
      · refine g_iload_n C 3 dX6_holdFor_23 rfl rfl (n := 24) rfl ?_
        refine g_iload_n C 2 dX6_holdFor_24 rfl rfl (n := 25) rfl ?_
        refine g_ic_ge C 32 dX6_holdFor_25 (by decide) (n := 28) rfl hk (fun hk => ?_) (fun hk => ?_)
        · refine g_iinc C 3 (fun x14 => [(3, .int x14), (0, .ref (rr Θ 8 o0 0)), (1, .ref (rr Θ 1 o1 0)), (2, .int r1)]) dX6_holdFor_32 rfl (v := (a12.1 + (1 : Int32))) rfl (by decide) (fun _ => rfl) (n := 35) rfl hk (fun x14 hk => ?_)
          refine g_goto C 7 dX6_holdFor_35 (by decide) ?_
          refine g_lv [1, 2, 3, 0] [(0, .ref (rr Θ 8 o0 0)), (1, .ref (rr Θ 1 o1 0)), (2, .int r1), (3, .int x14)] rfl ?_
          exact hk.out
        · refine g_aload_n C 1 dX6_holdFor_28 rfl rfl (n := 29) rfl ?_
          refine g_cVV C hk (fun K hk => L_X0_goStep Θ o1 ho1 a12.2 K hk) lk_X6_37 kc_1 ho1 (by decide) ⟨rfl, rfl⟩ ⟨Nat.le_of_ble_eq_true rfl, Nat.le_of_ble_eq_true rfl⟩ dX6_holdFor_29 rfl rfl (Nat.le_of_ble_eq_true rfl) (n := 32) rfl (fun h15 hk => ?_)
          refine g_iinc C 3 (fun x16 => [(3, .int x16), (0, .ref (rr Θ 8 o0 0)), (1, .ref (rr Θ 1 o1 0)), (2, .int r1)]) dX6_holdFor_32 rfl (v := (a12.1 + (1 : Int32))) rfl (by decide) (fun _ => rfl) (n := 35) rfl hk (fun x16 hk => ?_)
          refine g_goto C 7 dX6_holdFor_35 (by decide) ?_
          refine g_lv [1, 2, 3, 0] [(0, .ref (rr Θ 8 o0 0)), (1, .ref (rr Θ 1 o1 0)), (2, .int r1), (3, .int x16)] rfl ?_
          exact hk.out
      · refine g_iconst C (0 : Int32) dX6_holdFor_21 (by decide) (n := 22) rfl ?_
        exact retB false rfl hk.out dX6_holdFor_22
