def f_X10_fakes (p1 : Int32) (h : Mem) : Option (Int32 × Mem) := obd (f_X10_in ((p1).toInt64) (0 : Int64) (3 : Int64) h) (fun r1 => (if r1 = true then bnd (((1 : Int32) <<< ((h 25 0 0 8) &&& (31 : Int32))) - (1 : Int32)) (fun x2 => obd (lp fu (fun a43 => (if x2 < a43.2.2.2.2.1 then some (.inr (a43.1, a43.2.1, a43.2.2.1, a43.2.2.2.1, a43.2.2.2.2.2)) else obd (f_X10_starts a43.2.2.2.2.2) (fun h44 => obd (lp fu (fun a51 => (if (a51.2 25 0 0 8) ≤ a51.1 then some (.inr a51.2) else gd (inb a51.1 6) (bnd (up a51.2 30 0 0 a51.1.toNatClampNeg ((a43.2.2.2.2.1 >>> (a51.1 &&& (31 : Int32))) &&& (1 : Int32))) (fun h52 => bnd (a51.1 + (1 : Int32)) (fun x53 => some (.inl (x53, h52))))))) ((0 : Int32), h44)) (fun e54 => ob2 (f_X10_isSo e54) (fun r55 h56 => (if r55 = true then obd ((if a43.1 = 0 then some a43.2.2.2.2.1 else some a43.2.1)) (fun a58 => bnd (a43.2.2.1 &&& a43.2.2.2.2.1) (fun x59 => bnd (a43.2.2.2.1 ||| a43.2.2.2.2.1) (fun x60 => bnd (a43.1 + (1 : Int32)) (fun x61 => bnd (a43.2.2.2.2.1 + (1 : Int32)) (fun x62 => some (.inl (x61, a58, x59, x60, x62, h56))))))) else bnd (a43.2.2.2.2.1 + (1 : Int32)) (fun x57 => some (.inl (a43.1, a43.2.1, a43.2.2.1, a43.2.2.2.1, x57, h56))))))))) ((0 : Int32), (-4 : Int32), x2, (0 : Int32), (0 : Int32), h)) (fun e63 => obd ((if p1 = 0 then some (.inr ()) else (if e63.1 = 0 then some (.inr ()) else (if p1 = (1 : Int32) then some (.inl (e63.2.1, e63.2.2.2.2)) else (if p1 = (2 : Int32) then some (.inl (e63.2.2.1, e63.2.2.2.2)) else some (.inl ((x2 &&& (e63.2.2.2.1 ^^^ (-1 : Int32))), e63.2.2.2.2))))))) (Sum.elim (fun r => some r) (fun a64 => (if p1 = 0 then some (e63.1, e63.2.2.2.2) else some ((-4 : Int32), e63.2.2.2.2)))))) else some ((-1 : Int32), h)))
def rm_X10_fakes : Room := { frames := 5, cells := 0, slots := 0, locals := 115 }
set_option maxHeartbeats 4000000 in
set_option maxRecDepth 100000 in
theorem L_X10_fakes (Θ : Tht) (p1 : Int32) (h : Mem) (K : Int32 × Mem → Prop) (hk : Ok (f_X10_fakes p1 h) K) : CI Θ yX10_fakes cX10_fakes 9 (some .int) rm_X10_fakes [.ref (rr Θ 24 0 0), .int p1] h K := by
  refine CI.of K [(0, .ref (rr Θ 24 0 0)), (1, .int p1)] (plainFor_of_name (by decide)) (Nat.le_of_ble_eq_true rfl) rfl (fun Γ C Rt => ?_)
  replace hk := rtI Rt hk
  unfold f_X10_fakes at hk
  refine g_iload_n C 1 dX10_fakes_0 rfl rfl (n := 1) rfl ?_
  refine g_i2l C dX10_fakes_1 (n := 2) rfl ?_
  refine g_lconst C (0 : Int64) dX10_fakes_2 (by decide) (n := 3) rfl ?_
  refine g_ldc2 C (3 : Int64) wm_1254 dX10_fakes_3 (n := 6) rfl ?_
  refine g_cSBp C hk (fun K hk => L_X10_in Θ ((p1).toInt64) (0 : Int64) (3 : Int64) h K hk) lk_X10_95 ⟨rfl, rfl⟩ ⟨Nat.le_of_ble_eq_true rfl, Nat.le_of_ble_eq_true rfl⟩ dX10_fakes_6 rfl rfl (Nat.le_of_ble_eq_true rfl) (n := 9) rfl (fun r1 hk => ?_)
  refine g_bt C 14 dX10_fakes_9 (by decide) (n := 12) rfl hk (fun hk => ?_) (fun hk => ?_)
  · refine g_iconst C (1 : Int32) dX10_fakes_14 (by decide) (n := 15) rfl ?_
    refine g_aload_n C 0 dX10_fakes_15 rfl rfl (n := 16) rfl ?_
    refine g_getR C kc_24 (rt_24_0 (tB Θ) 0) (by decide) (by decide) (by decide) wm_897 dX10_fakes_16 (n := 19) rfl ?_
    refine g_bipush C (8 : Int32) dX10_fakes_19 (by decide) (n := 21) rfl ?_
    refine g_ialdL C 8 an_25 (by decide) (by decide) (by decide) dX10_fakes_21 (n := 22) rfl ?_
    refine g_ishl C dX10_fakes_22 (n := 23) rfl ?_
    refine g_iconst C (1 : Int32) dX10_fakes_23 (by decide) (n := 24) rfl ?_
    refine g_isub C dX10_fakes_24 (n := 25) rfl ?_
    refine g_nm hk (fun x2 hk => ?_)
    refine g_istore_n C [(2, .int x2), (0, .ref (rr Θ 24 0 0)), (1, .int p1)] dX10_fakes_25 rfl (by decide) rfl (n := 26) rfl ?_
    refine g_iconst C (0 : Int32) dX10_fakes_26 (by decide) (n := 27) rfl ?_
    refine g_istore_n C [(3, .int (0 : Int32)), (2, .int x2), (0, .ref (rr Θ 24 0 0)), (1, .int p1)] dX10_fakes_27 rfl (by decide) rfl (n := 28) rfl ?_
    refine g_bipush C (-4 : Int32) dX10_fakes_28 (by decide) (n := 30) rfl ?_
    refine g_istore C [(4, .int (-4 : Int32)), (3, .int (0 : Int32)), (2, .int x2), (0, .ref (rr Θ 24 0 0)), (1, .int p1)] dX10_fakes_30 (by decide) rfl (n := 32) rfl ?_
    refine g_iload_n C 2 dX10_fakes_32 rfl rfl (n := 33) rfl ?_
    refine g_istore C [(5, .int x2), (4, .int (-4 : Int32)), (3, .int (0 : Int32)), (2, .int x2), (0, .ref (rr Θ 24 0 0)), (1, .int p1)] dX10_fakes_33 (by decide) rfl (n := 35) rfl ?_
    refine g_iconst C (0 : Int32) dX10_fakes_35 (by decide) (n := 36) rfl ?_
    refine g_istore C [(6, .int (0 : Int32)), (5, .int x2), (4, .int (-4 : Int32)), (3, .int (0 : Int32)), (2, .int x2), (0, .ref (rr Θ 24 0 0)), (1, .int p1)] dX10_fakes_36 (by decide) rfl (n := 38) rfl ?_
    refine g_iconst C (0 : Int32) dX10_fakes_38 (by decide) (n := 39) rfl ?_
    refine g_istore C [(7, .int (0 : Int32)), (6, .int (0 : Int32)), (5, .int x2), (4, .int (-4 : Int32)), (3, .int (0 : Int32)), (2, .int x2), (0, .ref (rr Θ 24 0 0)), (1, .int p1)] dX10_fakes_39 (by decide) rfl (n := 41) rfl ?_
    refine g_lv [6, 7, 5, 4, 3, 2, 1, 0] [(0, .ref (rr Θ 24 0 0)), (1, .int p1), (2, .int x2), (3, .int (0 : Int32)), (4, .int (-4 : Int32)), (5, .int x2), (6, .int (0 : Int32)), (7, .int (0 : Int32))] rfl ?_
    refine Ok.join hk (fun e63 => G Θ Γ 129 [(1, .int p1), (2, .int x2), (3, .int e63.1), (4, .int e63.2.1), (5, .int e63.2.2.1), (6, .int e63.2.2.2.1)] [] e63.2.2.2.2) (fun e63 hk => ?_) (fun hk => ?_)
    · refine g_iload_n C 0 dX10_fakes_129 rfl rfl (n := 130) rfl ?_
      refine Ok.join hk (Sum.elim (PI Θ Γ cX10_fakes) (fun a64 => G Θ Γ 137 [(1, .int p1), (3, .int e63.1)] [] e63.2.2.2.2)) (fun e hk => ?_) (fun hk => ?_)
      · rcases e with r | a64
        · exact hk.out
        · replace hk := ok_inr hk
          refine g_iload_n C 0 dX10_fakes_137 rfl rfl (n := 138) rfl ?_
          refine g_if_ne C 145 dX10_fakes_138 (by decide) (n := 141) rfl hk (fun hk => ?_) (fun hk => ?_)
          · refine g_bipush C (-4 : Int32) dX10_fakes_145 (by decide) (n := 147) rfl ?_
            exact retI hk.out dX10_fakes_147
          · refine g_iload_n C 1 dX10_fakes_141 rfl rfl (n := 142) rfl ?_
            refine g_goto C 147 dX10_fakes_142 (by decide) ?_
            exact retI hk.out dX10_fakes_147
      · refine g_if_eq C 137 dX10_fakes_130 (by decide) (n := 133) rfl hk (fun hk => ?_) (fun hk => ?_)
        · refine g_lv [0, 2] [(1, .int p1), (3, .int e63.1)] rfl ?_
          exact hk.out
        · refine g_iload_n C 2 dX10_fakes_133 rfl rfl (n := 134) rfl ?_
          refine g_if_ne C 148 dX10_fakes_134 (by decide) (n := 137) rfl hk (fun hk => ?_) (fun hk => ?_)
          · refine g_iload_n C 0 dX10_fakes_148 rfl rfl (n := 149) rfl ?_
            refine g_iconst C (1 : Int32) dX10_fakes_149 (by decide) (n := 150) rfl ?_
            refine g_ic_ne C 158 dX10_fakes_150 (by decide) (n := 153) rfl hk (fun hk => ?_) (fun hk => ?_)
            · refine g_iload_n C 0 dX10_fakes_158 rfl rfl (n := 159) rfl ?_
              refine g_iconst C (2 : Int32) dX10_fakes_159 (by decide) (n := 160) rfl ?_
              refine g_ic_ne C 168 dX10_fakes_160 (by decide) (n := 163) rfl hk (fun hk => ?_) (fun hk => ?_)
              · refine g_iload_n C 1 dX10_fakes_168 rfl rfl (n := 169) rfl ?_
                refine g_iload C 5 dX10_fakes_169 rfl (n := 171) rfl ?_
                refine g_iconst C (-1 : Int32) dX10_fakes_171 (by decide) (n := 172) rfl ?_
                refine g_ixor C dX10_fakes_172 (n := 173) rfl ?_
                refine g_iand C dX10_fakes_173 (n := 174) rfl ?_
                exact retI hk.out dX10_fakes_174
              · refine g_iload C 4 dX10_fakes_163 rfl (n := 165) rfl ?_
                refine g_goto C 174 dX10_fakes_165 (by decide) ?_
                exact retI hk.out dX10_fakes_174
            · refine g_iload C 3 dX10_fakes_153 rfl (n := 155) rfl ?_
              refine g_goto C 174 dX10_fakes_155 (by decide) ?_
              exact retI hk.out dX10_fakes_174
          · refine g_lv [0, 2] [(1, .int p1), (3, .int e63.1)] rfl ?_
            exact hk.out
    · refine Ok.loop (fun a43 => G Θ Γ 41 [(0, .ref (rr Θ 24 0 0)), (1, .int p1), (2, .int x2), (3, .int a43.1), (4, .int a43.2.1), (5, .int a43.2.2.1), (6, .int a43.2.2.2.1), (7, .int a43.2.2.2.2.1)] [] a43.2.2.2.2.2) (fun a43 hk => ?_) _ _ hk
      refine g_iload C 7 dX10_fakes_41 rfl (n := 43) rfl ?_
      refine g_iload_n C 2 dX10_fakes_43 rfl rfl (n := 44) rfl ?_
      refine g_ic_gt C 129 dX10_fakes_44 (by decide) (n := 47) rfl hk (fun hk => ?_) (fun hk => ?_)
      · refine g_lv [1, 2, 3, 4, 5, 6] [(1, .int p1), (2, .int x2), (3, .int a43.1), (4, .int a43.2.1), (5, .int a43.2.2.1), (6, .int a43.2.2.2.1)] rfl ?_
        exact hk.out
      · refine g_aload_n C 0 dX10_fakes_47 rfl rfl (n := 48) rfl ?_
        refine g_cVV C hk (fun K hk => L_X10_starts Θ a43.2.2.2.2.2 K hk) lk_X10_222 kc_24 (by decide) (by decide) ⟨rfl, rfl⟩ ⟨Nat.le_of_ble_eq_true rfl, Nat.le_of_ble_eq_true rfl⟩ dX10_fakes_48 rfl rfl (Nat.le_of_ble_eq_true rfl) (n := 51) rfl (fun h44 hk => ?_)
        refine g_iconst C (0 : Int32) dX10_fakes_51 (by decide) (n := 52) rfl ?_
        refine g_istore C [(8, .int (0 : Int32)), (0, .ref (rr Θ 24 0 0)), (1, .int p1), (2, .int x2), (3, .int a43.1), (4, .int a43.2.1), (5, .int a43.2.2.1), (6, .int a43.2.2.2.1), (7, .int a43.2.2.2.2.1)] dX10_fakes_52 (by decide) rfl (n := 54) rfl ?_
        refine g_lv [1, 2, 3, 4, 5, 6, 7, 8, 0] [(0, .ref (rr Θ 24 0 0)), (1, .int p1), (2, .int x2), (3, .int a43.1), (4, .int a43.2.1), (5, .int a43.2.2.1), (6, .int a43.2.2.2.1), (7, .int a43.2.2.2.2.1), (8, .int (0 : Int32))] rfl ?_
        refine Ok.join hk (fun e54 => G Θ Γ 86 [(0, .ref (rr Θ 24 0 0)), (1, .int p1), (2, .int x2), (3, .int a43.1), (4, .int a43.2.1), (5, .int a43.2.2.1), (6, .int a43.2.2.2.1), (7, .int a43.2.2.2.2.1)] [] e54) (fun e54 hk => ?_) (fun hk => ?_)
        · refine g_aload_n C 0 dX10_fakes_86 rfl rfl (n := 87) rfl ?_
          refine g_cVB C hk (fun K hk => L_X10_isSo Θ e54 K hk) lk_X10_262 kc_24 (by decide) (by decide) ⟨rfl, rfl⟩ ⟨Nat.le_of_ble_eq_true rfl, Nat.le_of_ble_eq_true rfl⟩ dX10_fakes_87 rfl rfl (Nat.le_of_ble_eq_true rfl) (n := 90) rfl (fun r55 h56 hk => ?_)
          refine g_bf C 123 dX10_fakes_90 (by decide) (n := 93) rfl hk (fun hk => ?_) (fun hk => ?_)
          · refine g_iinc C 7 (fun x57 => [(7, .int x57), (0, .ref (rr Θ 24 0 0)), (1, .int p1), (2, .int x2), (3, .int a43.1), (4, .int a43.2.1), (5, .int a43.2.2.1), (6, .int a43.2.2.2.1)]) dX10_fakes_123 rfl (v := (a43.2.2.2.2.1 + (1 : Int32))) rfl (by decide) (fun _ => rfl) (n := 126) rfl hk (fun x57 hk => ?_)
            refine g_goto C 41 dX10_fakes_126 (by decide) ?_
            refine g_lv [1, 2, 3, 4, 5, 6, 7, 0] [(0, .ref (rr Θ 24 0 0)), (1, .int p1), (2, .int x2), (3, .int a43.1), (4, .int a43.2.1), (5, .int a43.2.2.1), (6, .int a43.2.2.2.1), (7, .int x57)] rfl ?_
            exact hk.out
          · refine g_iload_n C 3 dX10_fakes_93 rfl rfl (n := 94) rfl ?_
            refine Ok.join hk (fun a58 => G Θ Γ 104 [(0, .ref (rr Θ 24 0 0)), (1, .int p1), (2, .int x2), (3, .int a43.1), (5, .int a43.2.2.1), (6, .int a43.2.2.2.1), (7, .int a43.2.2.2.2.1)] [.int a58] h56) (fun a58 hk => ?_) (fun hk => ?_)
            · refine g_istore C [(4, .int a58), (0, .ref (rr Θ 24 0 0)), (1, .int p1), (2, .int x2), (3, .int a43.1), (5, .int a43.2.2.1), (6, .int a43.2.2.2.1), (7, .int a43.2.2.2.2.1)] dX10_fakes_104 (by decide) rfl (n := 106) rfl ?_
              refine g_iload C 5 dX10_fakes_106 rfl (n := 108) rfl ?_
              refine g_iload C 7 dX10_fakes_108 rfl (n := 110) rfl ?_
              refine g_iand C dX10_fakes_110 (n := 111) rfl ?_
              refine g_nm hk (fun x59 hk => ?_)
              refine g_istore C [(5, .int x59), (4, .int a58), (0, .ref (rr Θ 24 0 0)), (1, .int p1), (2, .int x2), (3, .int a43.1), (6, .int a43.2.2.2.1), (7, .int a43.2.2.2.2.1)] dX10_fakes_111 (by decide) rfl (n := 113) rfl ?_
              refine g_iload C 6 dX10_fakes_113 rfl (n := 115) rfl ?_
              refine g_iload C 7 dX10_fakes_115 rfl (n := 117) rfl ?_
              refine g_ior C dX10_fakes_117 (n := 118) rfl ?_
              refine g_nm hk (fun x60 hk => ?_)
              refine g_istore C [(6, .int x60), (5, .int x59), (4, .int a58), (0, .ref (rr Θ 24 0 0)), (1, .int p1), (2, .int x2), (3, .int a43.1), (7, .int a43.2.2.2.2.1)] dX10_fakes_118 (by decide) rfl (n := 120) rfl ?_
              refine g_iinc C 6 (fun x61 => [(3, .int x61), (6, .int x60), (5, .int x59), (4, .int a58), (0, .ref (rr Θ 24 0 0)), (1, .int p1), (2, .int x2), (7, .int a43.2.2.2.2.1)]) dX10_fakes_120 rfl (v := (a43.1 + (1 : Int32))) rfl (by decide) (fun _ => rfl) (n := 123) rfl hk (fun x61 hk => ?_)
              refine g_iinc C 7 (fun x62 => [(7, .int x62), (3, .int x61), (6, .int x60), (5, .int x59), (4, .int a58), (0, .ref (rr Θ 24 0 0)), (1, .int p1), (2, .int x2)]) dX10_fakes_123 rfl (v := (a43.2.2.2.2.1 + (1 : Int32))) rfl (by decide) (fun _ => rfl) (n := 126) rfl hk (fun x62 hk => ?_)
              refine g_goto C 41 dX10_fakes_126 (by decide) ?_
              refine g_lv [5, 6, 7, 1, 4, 3, 2, 0] [(0, .ref (rr Θ 24 0 0)), (1, .int p1), (2, .int x2), (3, .int x61), (4, .int a58), (5, .int x59), (6, .int x60), (7, .int x62)] rfl ?_
              exact hk.out
            · refine g_if_ne C 102 dX10_fakes_94 (by decide) (n := 97) rfl hk (fun hk => ?_) (fun hk => ?_)
              · refine g_iload C 4 dX10_fakes_102 rfl (n := 104) rfl ?_
                refine g_lv [0, 1, 2, 3, 5, 6, 7] [(0, .ref (rr Θ 24 0 0)), (1, .int p1), (2, .int x2), (3, .int a43.1), (5, .int a43.2.2.1), (6, .int a43.2.2.2.1), (7, .int a43.2.2.2.2.1)] rfl ?_
                exact hk.out
              · refine g_iload C 7 dX10_fakes_97 rfl (n := 99) rfl ?_
                refine g_goto C 104 dX10_fakes_99 (by decide) ?_
                refine g_lv [0, 1, 2, 3, 5, 6, 7] [(0, .ref (rr Θ 24 0 0)), (1, .int p1), (2, .int x2), (3, .int a43.1), (5, .int a43.2.2.1), (6, .int a43.2.2.2.1), (7, .int a43.2.2.2.2.1)] rfl ?_
                exact hk.out
        · refine Ok.loop (fun a51 => G Θ Γ 54 [(0, .ref (rr Θ 24 0 0)), (1, .int p1), (2, .int x2), (3, .int a43.1), (4, .int a43.2.1), (5, .int a43.2.2.1), (6, .int a43.2.2.2.1), (7, .int a43.2.2.2.2.1), (8, .int a51.1)] [] a51.2) (fun a51 hk => ?_) _ _ hk
          refine g_iload C 8 dX10_fakes_54 rfl (n := 56) rfl ?_
          refine g_aload_n C 0 dX10_fakes_56 rfl rfl (n := 57) rfl ?_
          refine g_getR C kc_24 (rt_24_0 (tB Θ) 0) (by decide) (by decide) (by decide) wm_897 dX10_fakes_57 (n := 60) rfl ?_
          refine g_bipush C (8 : Int32) dX10_fakes_60 (by decide) (n := 62) rfl ?_
          refine g_ialdL C 8 an_25 (by decide) (by decide) (by decide) dX10_fakes_62 (n := 63) rfl ?_
          refine g_ic_ge C 86 dX10_fakes_63 (by decide) (n := 66) rfl hk (fun hk => ?_) (fun hk => ?_)
          · refine g_lv [0, 1, 2, 3, 4, 5, 6, 7] [(0, .ref (rr Θ 24 0 0)), (1, .int p1), (2, .int x2), (3, .int a43.1), (4, .int a43.2.1), (5, .int a43.2.2.1), (6, .int a43.2.2.2.1), (7, .int a43.2.2.2.2.1)] rfl ?_
            exact hk.out
          · refine g_aload_n C 0 dX10_fakes_66 rfl rfl (n := 67) rfl ?_
            refine g_getR C kc_24 (rt_24_18 (tB Θ) 0) (by decide) (by decide) (by decide) wm_915 dX10_fakes_67 (n := 70) rfl ?_
            refine g_iload C 8 dX10_fakes_70 rfl (n := 72) rfl ?_
            refine g_iload C 7 dX10_fakes_72 rfl (n := 74) rfl ?_
            refine g_iload C 8 dX10_fakes_74 rfl (n := 76) rfl ?_
            refine g_ishr C dX10_fakes_76 (n := 77) rfl ?_
            refine g_iconst C (1 : Int32) dX10_fakes_77 (by decide) (n := 78) rfl ?_
            refine g_iand C dX10_fakes_78 (n := 79) rfl ?_
            refine g_iast C an_30 (by decide) dX10_fakes_79 (n := 80) rfl hk (fun _ h52 hk => ?_)
            refine g_iinc C 8 (fun x53 => [(8, .int x53), (0, .ref (rr Θ 24 0 0)), (1, .int p1), (2, .int x2), (3, .int a43.1), (4, .int a43.2.1), (5, .int a43.2.2.1), (6, .int a43.2.2.2.1), (7, .int a43.2.2.2.2.1)]) dX10_fakes_80 rfl (v := (a51.1 + (1 : Int32))) rfl (by decide) (fun _ => rfl) (n := 83) rfl hk (fun x53 hk => ?_)
            refine g_goto C 54 dX10_fakes_83 (by decide) ?_
            refine g_lv [1, 2, 3, 4, 5, 6, 7, 8, 0] [(0, .ref (rr Θ 24 0 0)), (1, .int p1), (2, .int x2), (3, .int a43.1), (4, .int a43.2.1), (5, .int a43.2.2.1), (6, .int a43.2.2.2.1), (7, .int a43.2.2.2.2.1), (8, .int x53)] rfl ?_
            exact hk.out
  · refine g_iconst C (-1 : Int32) dX10_fakes_12 (by decide) (n := 13) rfl ?_
    exact retI hk.out dX10_fakes_13
def f_X10_fault  (h : Mem) : Option (Int32) := some (h 24 15 0 0)
def rm_X10_fault : Room := { frames := 0, cells := 0, slots := 0, locals := 0 }
set_option maxHeartbeats 4000000 in
set_option maxRecDepth 100000 in
theorem L_X10_fault (Θ : Tht)  (h : Mem) (K : Int32 × Mem → Prop) (hk : Ok (f_X10_fault  h) (fun r => K (r, h))) : CI Θ yX10_fault cX10_fault 1 (some .int) rm_X10_fault [.ref (rr Θ 24 0 0)] h K := by
  refine CI.of K [(0, .ref (rr Θ 24 0 0))] (plainFor_of_name (by decide)) (Nat.le_of_ble_eq_true rfl) rfl (fun Γ C Rt => ?_)
  replace hk := rtIp Rt hk
  unfold f_X10_fault at hk
  refine g_aload_n C 0 dX10_fault_0 rfl rfl (n := 1) rfl ?_
  refine g_getI C kc_24 ft_24_15 (by decide) (by decide) (by decide) wm_912 dX10_fault_1 (n := 4) rfl ?_
  exact retI hk.out dX10_fault_4
def f_X10_feed (p1 : Int64) (h : Mem) : Option (Int32 × Mem) := (if ((h 24 10 0 0) + (8 : Int32)) ≤ (320 : Int32) then obd (lp fu (fun a5 => (if a5.1 < 0 then some (.inr a5.2) else gd (inb (a5.2 24 10 0 0) 320) (bnd (up a5.2 28 0 0 (a5.2 24 10 0 0).toNatClampNeg (((lsr p1 a5.1) &&& (255 : Int64)).toInt32)) (fun h6 => bnd (up h6 24 10 0 0 ((h6 24 10 0 0) + (1 : Int32))) (fun h7 => bnd (a5.1 + (-8 : Int32)) (fun x8 => some (.inl (x8, h7)))))))) ((56 : Int32), h)) (fun e9 => some ((e9 24 10 0 0), e9)) else some ((-3 : Int32), h))
def rm_X10_feed : Room := { frames := 0, cells := 0, slots := 0, locals := 0 }
set_option maxHeartbeats 4000000 in
set_option maxRecDepth 100000 in
theorem L_X10_feed (Θ : Tht) (p1 : Int64) (h : Mem) (K : Int32 × Mem → Prop) (hk : Ok (f_X10_feed p1 h) K) : CI Θ yX10_feed cX10_feed 4 (some .int) rm_X10_feed [.ref (rr Θ 24 0 0), .long p1] h K := by
  refine CI.of K [(0, .ref (rr Θ 24 0 0)), (1, .long p1)] (plainFor_of_name (by decide)) (Nat.le_of_ble_eq_true rfl) rfl (fun Γ C Rt => ?_)
  replace hk := rtI Rt hk
  unfold f_X10_feed at hk
  refine g_aload_n C 0 dX10_feed_0 rfl rfl (n := 1) rfl ?_
  refine g_getI C kc_24 ft_24_10 (by decide) (by decide) (by decide) wm_907 dX10_feed_1 (n := 4) rfl ?_
  refine g_bipush C (8 : Int32) dX10_feed_4 (by decide) (n := 6) rfl ?_
  refine g_iadd C dX10_feed_6 (n := 7) rfl ?_
  refine g_sipush C (320 : Int32) dX10_feed_7 (by decide) (n := 10) rfl ?_
  refine g_ic_le C 16 dX10_feed_10 (by decide) (n := 13) rfl hk (fun hk => ?_) (fun hk => ?_)
  · refine g_bipush C (56 : Int32) dX10_feed_16 (by decide) (n := 18) rfl ?_
    refine g_istore_n C [(3, .int (56 : Int32)), (0, .ref (rr Θ 24 0 0)), (1, .long p1)] dX10_feed_18 rfl (by decide) rfl (n := 19) rfl ?_
    refine g_lv [1, 2, 0] [(0, .ref (rr Θ 24 0 0)), (1, .long p1), (3, .int (56 : Int32))] rfl ?_
    refine Ok.join hk (fun e9 => G Θ Γ 56 [(0, .ref (rr Θ 24 0 0))] [] e9) (fun e9 hk => ?_) (fun hk => ?_)
    · refine g_aload_n C 0 dX10_feed_56 rfl rfl (n := 57) rfl ?_
      refine g_getI C kc_24 ft_24_10 (by decide) (by decide) (by decide) wm_907 dX10_feed_57 (n := 60) rfl ?_
      exact retI hk.out dX10_feed_60
    · refine Ok.loop (fun a5 => G Θ Γ 19 [(0, .ref (rr Θ 24 0 0)), (1, .long p1), (3, .int a5.1)] [] a5.2) (fun a5 hk => ?_) _ _ hk
      refine g_iload_n C 2 dX10_feed_19 rfl rfl (n := 20) rfl ?_
      refine g_if_lt C 56 dX10_feed_20 (by decide) (n := 23) rfl hk (fun hk => ?_) (fun hk => ?_)
      · refine g_lv [0] [(0, .ref (rr Θ 24 0 0))] rfl ?_
        exact hk.out
      · refine g_aload_n C 0 dX10_feed_23 rfl rfl (n := 24) rfl ?_
        refine g_getR C kc_24 (rt_24_9 (tB Θ) 0) (by decide) (by decide) (by decide) wm_906 dX10_feed_24 (n := 27) rfl ?_
        refine g_aload_n C 0 dX10_feed_27 rfl rfl (n := 28) rfl ?_
        refine g_getI C kc_24 ft_24_10 (by decide) (by decide) (by decide) wm_907 dX10_feed_28 (n := 31) rfl ?_
        refine g_lload_n C 1 dX10_feed_31 rfl rfl (n := 32) rfl ?_
        refine g_iload_n C 2 dX10_feed_32 rfl rfl (n := 33) rfl ?_
        refine g_lshr C dX10_feed_33 (n := 34) rfl ?_
        refine g_ldc2 C (255 : Int64) wm_1004 dX10_feed_34 (n := 37) rfl ?_
        refine g_land C dX10_feed_37 (n := 38) rfl ?_
        refine g_l2i C dX10_feed_38 (n := 39) rfl ?_
        refine g_iast C an_28 (by decide) dX10_feed_39 (n := 40) rfl hk (fun _ h6 hk => ?_)
        refine g_aload_n C 0 dX10_feed_40 rfl rfl (n := 41) rfl ?_
        refine g_dup C dX10_feed_41 rfl (n := 42) rfl ?_
        refine g_getI C kc_24 ft_24_10 (by decide) (by decide) (by decide) wm_907 dX10_feed_42 (n := 45) rfl ?_
        refine g_iconst C (1 : Int32) dX10_feed_45 (by decide) (n := 46) rfl ?_
        refine g_iadd C dX10_feed_46 (n := 47) rfl ?_
        refine g_putI C kc_24 ft_24_10 (by decide) (by decide) (by decide) rfl (fitI _) wm_907 dX10_feed_47 (n := 50) rfl hk (fun h7 hk => ?_)
        refine g_iinc C 2 (fun x8 => [(3, .int x8), (0, .ref (rr Θ 24 0 0)), (1, .long p1)]) dX10_feed_50 rfl (v := (a5.1 + (-8 : Int32))) rfl (by decide) (fun _ => rfl) (n := 53) rfl hk (fun x8 hk => ?_)
        refine g_goto C 19 dX10_feed_53 (by decide) ?_
        refine g_lv [1, 2, 0] [(0, .ref (rr Θ 24 0 0)), (1, .long p1), (3, .int x8)] rfl ?_
        exact hk.out
  · refine g_bipush C (-3 : Int32) dX10_feed_13 (by decide) (n := 15) rfl ?_
    exact retI hk.out dX10_feed_15
def f_X10_fewest (p1 : Int32) (h : Mem) : Option (Int32 × Mem) := obd (f_X10_in ((p1).toInt64) (0 : Int64) (1 : Int64) h) (fun r1 => (if r1 = true then obd (lp fu (fun a66 => (if ((1 : Int32) <<< ((a66.2.2.2 24 3 0 0) &&& (31 : Int32))) ≤ a66.2.2.1 then some (.inr (a66.1, a66.2.1, a66.2.2.2)) else obd (f_X10_starts a66.2.2.2) (fun h67 => bnd (up h67 24 26 0 0 (0 : Int32)) (fun h68 => obd (lp fu (fun a79 => (if (a79.2 24 3 0 0) ≤ a79.1 then some (.inr a79.2) else (if ((a66.2.2.1 >>> (a79.1 &&& (31 : Int32))) &&& (1 : Int32)) = (1 : Int32) then gd (inb (a79.2 24 26 0 0) 4) (bnd (up a79.2 36 0 0 (a79.2 24 26 0 0).toNatClampNeg a79.1) (fun h81 => bnd (up h81 24 26 0 0 ((h81 24 26 0 0) + (1 : Int32))) (fun h82 => bnd (a79.1 + (1 : Int32)) (fun x83 => some (.inl (x83, h82)))))) else bnd (a79.1 + (1 : Int32)) (fun x80 => some (.inl (x80, a79.2)))))) ((0 : Int32), h68)) (fun e84 => bnd (e84 24 26 0 0) (fun x85 => obd ((if a66.1 = (-4 : Int32) then ob2 (f_X10_sortedBehind e84) (fun r90 h91 => (if r90 = (-4 : Int32) then some (false, h91) else some (true, h91))) else (if a66.1 ≤ x85 then some (false, e84) else ob2 (f_X10_sortedBehind e84) (fun r92 h93 => (if r92 = (-4 : Int32) then some (false, h93) else some (true, h93)))))) (fun a94 => obd ((if a94.1 = true then some a66.2.2.1 else some a66.2.1)) (fun a95 => (if a94.1 = true then bnd (a66.2.2.1 + (1 : Int32)) (fun x97 => some (.inl (x85, a95, x97, a94.2))) else bnd (a66.2.2.1 + (1 : Int32)) (fun x96 => some (.inl (a66.1, a95, x96, a94.2)))))))))))) ((-4 : Int32), (-4 : Int32), (0 : Int32), h)) (fun e98 => (if p1 = 0 then some (e98.1, e98.2.2) else some (e98.2.1, e98.2.2))) else some ((-1 : Int32), h)))
def rm_X10_fewest : Room := { frames := 5, cells := 0, slots := 0, locals := 112 }
set_option maxHeartbeats 4000000 in
set_option maxRecDepth 100000 in
theorem L_X10_fewest (Θ : Tht) (p1 : Int32) (h : Mem) (K : Int32 × Mem → Prop) (hk : Ok (f_X10_fewest p1 h) K) : CI Θ yX10_fewest cX10_fewest 7 (some .int) rm_X10_fewest [.ref (rr Θ 24 0 0), .int p1] h K := by
  refine CI.of K [(0, .ref (rr Θ 24 0 0)), (1, .int p1)] (plainFor_of_name (by decide)) (Nat.le_of_ble_eq_true rfl) rfl (fun Γ C Rt => ?_)
  replace hk := rtI Rt hk
  unfold f_X10_fewest at hk
  refine g_iload_n C 1 dX10_fewest_0 rfl rfl (n := 1) rfl ?_
  refine g_i2l C dX10_fewest_1 (n := 2) rfl ?_
  refine g_lconst C (0 : Int64) dX10_fewest_2 (by decide) (n := 3) rfl ?_
  refine g_lconst C (1 : Int64) dX10_fewest_3 (by decide) (n := 4) rfl ?_
  refine g_cSBp C hk (fun K hk => L_X10_in Θ ((p1).toInt64) (0 : Int64) (1 : Int64) h K hk) lk_X10_95 ⟨rfl, rfl⟩ ⟨Nat.le_of_ble_eq_true rfl, Nat.le_of_ble_eq_true rfl⟩ dX10_fewest_4 rfl rfl (Nat.le_of_ble_eq_true rfl) (n := 7) rfl (fun r1 hk => ?_)
  refine g_bt C 12 dX10_fewest_7 (by decide) (n := 10) rfl hk (fun hk => ?_) (fun hk => ?_)
  · refine g_bipush C (-4 : Int32) dX10_fewest_12 (by decide) (n := 14) rfl ?_
    refine g_istore_n C [(2, .int (-4 : Int32)), (0, .ref (rr Θ 24 0 0)), (1, .int p1)] dX10_fewest_14 rfl (by decide) rfl (n := 15) rfl ?_
    refine g_bipush C (-4 : Int32) dX10_fewest_15 (by decide) (n := 17) rfl ?_
    refine g_istore_n C [(3, .int (-4 : Int32)), (2, .int (-4 : Int32)), (0, .ref (rr Θ 24 0 0)), (1, .int p1)] dX10_fewest_17 rfl (by decide) rfl (n := 18) rfl ?_
    refine g_iconst C (0 : Int32) dX10_fewest_18 (by decide) (n := 19) rfl ?_
    refine g_istore C [(4, .int (0 : Int32)), (3, .int (-4 : Int32)), (2, .int (-4 : Int32)), (0, .ref (rr Θ 24 0 0)), (1, .int p1)] dX10_fewest_19 (by decide) rfl (n := 21) rfl ?_
    refine g_lv [3, 4, 2, 1, 0] [(0, .ref (rr Θ 24 0 0)), (1, .int p1), (2, .int (-4 : Int32)), (3, .int (-4 : Int32)), (4, .int (0 : Int32))] rfl ?_
    refine Ok.join hk (fun e98 => G Θ Γ 155 [(1, .int p1), (2, .int e98.1), (3, .int e98.2.1)] [] e98.2.2) (fun e98 hk => ?_) (fun hk => ?_)
    · refine g_iload_n C 0 dX10_fewest_155 rfl rfl (n := 156) rfl ?_
      refine g_if_ne C 163 dX10_fewest_156 (by decide) (n := 159) rfl hk (fun hk => ?_) (fun hk => ?_)
      · refine g_iload_n C 2 dX10_fewest_163 rfl rfl (n := 164) rfl ?_
        exact retI hk.out dX10_fewest_164
      · refine g_iload_n C 1 dX10_fewest_159 rfl rfl (n := 160) rfl ?_
        refine g_goto C 164 dX10_fewest_160 (by decide) ?_
        exact retI hk.out dX10_fewest_164
    · refine Ok.loop (fun a66 => G Θ Γ 21 [(0, .ref (rr Θ 24 0 0)), (1, .int p1), (2, .int a66.1), (3, .int a66.2.1), (4, .int a66.2.2.1)] [] a66.2.2.2) (fun a66 hk => ?_) _ _ hk
      refine g_iload C 4 dX10_fewest_21 rfl (n := 23) rfl ?_
      refine g_iconst C (1 : Int32) dX10_fewest_23 (by decide) (n := 24) rfl ?_
      refine g_aload_n C 0 dX10_fewest_24 rfl rfl (n := 25) rfl ?_
      refine g_getI C kc_24 ft_24_3 (by decide) (by decide) (by decide) wm_900 dX10_fewest_25 (n := 28) rfl ?_
      refine g_ishl C dX10_fewest_28 (n := 29) rfl ?_
      refine g_ic_ge C 155 dX10_fewest_29 (by decide) (n := 32) rfl hk (fun hk => ?_) (fun hk => ?_)
      · refine g_lv [1, 2, 3] [(1, .int p1), (2, .int a66.1), (3, .int a66.2.1)] rfl ?_
        exact hk.out
      · refine g_aload_n C 0 dX10_fewest_32 rfl rfl (n := 33) rfl ?_
        refine g_cVV C hk (fun K hk => L_X10_starts Θ a66.2.2.2 K hk) lk_X10_222 kc_24 (by decide) (by decide) ⟨rfl, rfl⟩ ⟨Nat.le_of_ble_eq_true rfl, Nat.le_of_ble_eq_true rfl⟩ dX10_fewest_33 rfl rfl (Nat.le_of_ble_eq_true rfl) (n := 36) rfl (fun h67 hk => ?_)
        refine g_aload_n C 0 dX10_fewest_36 rfl rfl (n := 37) rfl ?_
        refine g_iconst C (0 : Int32) dX10_fewest_37 (by decide) (n := 38) rfl ?_
        refine g_putI C kc_24 ft_24_26 (by decide) (by decide) (by decide) rfl (fitI _) wm_923 dX10_fewest_38 (n := 41) rfl hk (fun h68 hk => ?_)
        refine g_iconst C (0 : Int32) dX10_fewest_41 (by decide) (n := 42) rfl ?_
        refine g_istore C [(5, .int (0 : Int32)), (0, .ref (rr Θ 24 0 0)), (1, .int p1), (2, .int a66.1), (3, .int a66.2.1), (4, .int a66.2.2.1)] dX10_fewest_42 (by decide) rfl (n := 44) rfl ?_
        refine g_lv [1, 2, 3, 4, 5, 0] [(0, .ref (rr Θ 24 0 0)), (1, .int p1), (2, .int a66.1), (3, .int a66.2.1), (4, .int a66.2.2.1), (5, .int (0 : Int32))] rfl ?_
        refine Ok.join hk (fun e84 => G Θ Γ 91 [(0, .ref (rr Θ 24 0 0)), (1, .int p1), (2, .int a66.1), (3, .int a66.2.1), (4, .int a66.2.2.1)] [] e84) (fun e84 hk => ?_) (fun hk => ?_)
        · refine g_aload_n C 0 dX10_fewest_91 rfl rfl (n := 92) rfl ?_
          refine g_getI C kc_24 ft_24_26 (by decide) (by decide) (by decide) wm_923 dX10_fewest_92 (n := 95) rfl ?_
          refine g_nm hk (fun x85 hk => ?_)
          refine g_istore C [(5, .int x85), (0, .ref (rr Θ 24 0 0)), (1, .int p1), (2, .int a66.1), (3, .int a66.2.1), (4, .int a66.2.2.1)] dX10_fewest_95 (by decide) rfl (n := 97) rfl ?_
          refine g_iload_n C 3 dX10_fewest_97 rfl rfl (n := 98) rfl ?_
          refine g_bipush C (-4 : Int32) dX10_fewest_98 (by decide) (n := 100) rfl ?_
          refine Ok.join hk (fun a94 => G Θ Γ 123 [(0, .ref (rr Θ 24 0 0)), (1, .int p1), (2, .int a66.1), (3, .int a66.2.1), (4, .int a66.2.2.1), (5, .int x85)] [.int (b2i a94.1)] a94.2) (fun a94 hk => ?_) (fun hk => ?_)
          · refine g_istore C [(6, .int (b2i a94.1)), (0, .ref (rr Θ 24 0 0)), (1, .int p1), (2, .int a66.1), (3, .int a66.2.1), (4, .int a66.2.2.1), (5, .int x85)] dX10_fewest_123 (by decide) rfl (n := 125) rfl ?_
            refine g_iload C 0 dX10_fewest_125 rfl (n := 127) rfl ?_
            refine Ok.join hk (fun a95 => G Θ Γ 136 [(0, .ref (rr Θ 24 0 0)), (1, .int p1), (2, .int a66.1), (4, .int a66.2.2.1), (5, .int x85), (6, .int (b2i a94.1))] [.int a95] a94.2) (fun a95 hk => ?_) (fun hk => ?_)
            · refine g_istore_n C [(3, .int a95), (0, .ref (rr Θ 24 0 0)), (1, .int p1), (2, .int a66.1), (4, .int a66.2.2.1), (5, .int x85), (6, .int (b2i a94.1))] dX10_fewest_136 rfl (by decide) rfl (n := 137) rfl ?_
              refine g_iload C 6 dX10_fewest_137 rfl (n := 139) rfl ?_
              refine g_bf C 147 dX10_fewest_139 (by decide) (n := 142) rfl hk (fun hk => ?_) (fun hk => ?_)
              · refine g_iload_n C 3 dX10_fewest_147 rfl rfl (n := 148) rfl ?_
                refine g_istore_n C [(2, .int a66.1), (3, .int a95), (0, .ref (rr Θ 24 0 0)), (1, .int p1), (4, .int a66.2.2.1), (5, .int x85), (6, .int (b2i a94.1))] dX10_fewest_148 rfl (by decide) rfl (n := 149) rfl ?_
                refine g_iinc C 4 (fun x96 => [(4, .int x96), (2, .int a66.1), (3, .int a95), (0, .ref (rr Θ 24 0 0)), (1, .int p1), (5, .int x85), (6, .int (b2i a94.1))]) dX10_fewest_149 rfl (v := (a66.2.2.1 + (1 : Int32))) rfl (by decide) (fun _ => rfl) (n := 152) rfl hk (fun x96 hk => ?_)
                refine g_goto C 21 dX10_fewest_152 (by decide) ?_
                refine g_lv [3, 4, 1, 2, 0] [(0, .ref (rr Θ 24 0 0)), (1, .int p1), (2, .int a66.1), (3, .int a95), (4, .int x96)] rfl ?_
                exact hk.out
              · refine g_iload C 5 dX10_fewest_142 rfl (n := 144) rfl ?_
                refine g_goto C 148 dX10_fewest_144 (by decide) ?_
                refine g_istore_n C [(2, .int x85), (3, .int a95), (0, .ref (rr Θ 24 0 0)), (1, .int p1), (4, .int a66.2.2.1), (5, .int x85), (6, .int (b2i a94.1))] dX10_fewest_148 rfl (by decide) rfl (n := 149) rfl ?_
                refine g_iinc C 4 (fun x97 => [(4, .int x97), (2, .int x85), (3, .int a95), (0, .ref (rr Θ 24 0 0)), (1, .int p1), (5, .int x85), (6, .int (b2i a94.1))]) dX10_fewest_149 rfl (v := (a66.2.2.1 + (1 : Int32))) rfl (by decide) (fun _ => rfl) (n := 152) rfl hk (fun x97 hk => ?_)
                refine g_goto C 21 dX10_fewest_152 (by decide) ?_
                refine g_lv [3, 4, 1, 2, 0] [(0, .ref (rr Θ 24 0 0)), (1, .int p1), (2, .int x85), (3, .int a95), (4, .int x97)] rfl ?_
                exact hk.out
            · refine g_bf C 135 dX10_fewest_127 (by decide) (n := 130) rfl hk (fun hk => ?_) (fun hk => ?_)
              · refine g_iload_n C 4 dX10_fewest_135 rfl rfl (n := 136) rfl ?_
                refine g_lv [1, 2, 3, 5, 6, 0] [(0, .ref (rr Θ 24 0 0)), (1, .int p1), (2, .int a66.1), (4, .int a66.2.2.1), (5, .int x85), (6, .int (b2i a94.1))] rfl ?_
                exact hk.out
              · refine g_iload C 5 dX10_fewest_130 rfl (n := 132) rfl ?_
                refine g_goto C 136 dX10_fewest_132 (by decide) ?_
                refine g_lv [1, 2, 3, 5, 6, 0] [(0, .ref (rr Θ 24 0 0)), (1, .int p1), (2, .int a66.1), (4, .int a66.2.2.1), (5, .int x85), (6, .int (b2i a94.1))] rfl ?_
                exact hk.out
          · refine g_ic_eq C 109 dX10_fewest_100 (by decide) (n := 103) rfl hk (fun hk => ?_) (fun hk => ?_)
            · refine g_aload_n C 1 dX10_fewest_109 rfl rfl (n := 110) rfl ?_
              refine g_cVI C hk (fun K hk => L_X10_sortedBehind Θ e84 K hk) lk_X10_240 kc_24 (by decide) (by decide) ⟨rfl, rfl⟩ ⟨Nat.le_of_ble_eq_true rfl, Nat.le_of_ble_eq_true rfl⟩ dX10_fewest_110 rfl rfl (Nat.le_of_ble_eq_true rfl) (n := 113) rfl (fun r90 h91 hk => ?_)
              refine g_bipush C (-4 : Int32) dX10_fewest_113 (by decide) (n := 115) rfl ?_
              refine g_ic_eq C 122 dX10_fewest_115 (by decide) (n := 118) rfl hk (fun hk => ?_) (fun hk => ?_)
              · refine g_iconst C (0 : Int32) dX10_fewest_122 (by decide) (n := 123) rfl ?_
                refine g_lv [1, 2, 3, 4, 5, 0] [(0, .ref (rr Θ 24 0 0)), (1, .int p1), (2, .int a66.1), (3, .int a66.2.1), (4, .int a66.2.2.1), (5, .int x85)] rfl ?_
                exact hk.out
              · refine g_iconst C (1 : Int32) dX10_fewest_118 (by decide) (n := 119) rfl ?_
                refine g_goto C 123 dX10_fewest_119 (by decide) ?_
                refine g_lv [1, 2, 3, 4, 5, 0] [(0, .ref (rr Θ 24 0 0)), (1, .int p1), (2, .int a66.1), (3, .int a66.2.1), (4, .int a66.2.2.1), (5, .int x85)] rfl ?_
                exact hk.out
            · refine g_iload C 0 dX10_fewest_103 rfl (n := 105) rfl ?_
              refine g_iload_n C 3 dX10_fewest_105 rfl rfl (n := 106) rfl ?_
              refine g_ic_ge C 122 dX10_fewest_106 (by decide) (n := 109) rfl hk (fun hk => ?_) (fun hk => ?_)
              · refine g_iconst C (0 : Int32) dX10_fewest_122 (by decide) (n := 123) rfl ?_
                refine g_lv [1, 2, 3, 4, 5, 0] [(0, .ref (rr Θ 24 0 0)), (1, .int p1), (2, .int a66.1), (3, .int a66.2.1), (4, .int a66.2.2.1), (5, .int x85)] rfl ?_
                exact hk.out
              · refine g_aload_n C 1 dX10_fewest_109 rfl rfl (n := 110) rfl ?_
                refine g_cVI C hk (fun K hk => L_X10_sortedBehind Θ e84 K hk) lk_X10_240 kc_24 (by decide) (by decide) ⟨rfl, rfl⟩ ⟨Nat.le_of_ble_eq_true rfl, Nat.le_of_ble_eq_true rfl⟩ dX10_fewest_110 rfl rfl (Nat.le_of_ble_eq_true rfl) (n := 113) rfl (fun r92 h93 hk => ?_)
                refine g_bipush C (-4 : Int32) dX10_fewest_113 (by decide) (n := 115) rfl ?_
                refine g_ic_eq C 122 dX10_fewest_115 (by decide) (n := 118) rfl hk (fun hk => ?_) (fun hk => ?_)
                · refine g_iconst C (0 : Int32) dX10_fewest_122 (by decide) (n := 123) rfl ?_
                  refine g_lv [1, 2, 3, 4, 5, 0] [(0, .ref (rr Θ 24 0 0)), (1, .int p1), (2, .int a66.1), (3, .int a66.2.1), (4, .int a66.2.2.1), (5, .int x85)] rfl ?_
                  exact hk.out
                · refine g_iconst C (1 : Int32) dX10_fewest_118 (by decide) (n := 119) rfl ?_
                  refine g_goto C 123 dX10_fewest_119 (by decide) ?_
                  refine g_lv [1, 2, 3, 4, 5, 0] [(0, .ref (rr Θ 24 0 0)), (1, .int p1), (2, .int a66.1), (3, .int a66.2.1), (4, .int a66.2.2.1), (5, .int x85)] rfl ?_
                  exact hk.out
        · refine Ok.loop (fun a79 => G Θ Γ 44 [(0, .ref (rr Θ 24 0 0)), (1, .int p1), (2, .int a66.1), (3, .int a66.2.1), (4, .int a66.2.2.1), (5, .int a79.1)] [] a79.2) (fun a79 hk => ?_) _ _ hk
          refine g_iload C 5 dX10_fewest_44 rfl (n := 46) rfl ?_
          refine g_aload_n C 0 dX10_fewest_46 rfl rfl (n := 47) rfl ?_
          refine g_getI C kc_24 ft_24_3 (by decide) (by decide) (by decide) wm_900 dX10_fewest_47 (n := 50) rfl ?_
          refine g_ic_ge C 91 dX10_fewest_50 (by decide) (n := 53) rfl hk (fun hk => ?_) (fun hk => ?_)
          · refine g_lv [0, 1, 2, 3, 4] [(0, .ref (rr Θ 24 0 0)), (1, .int p1), (2, .int a66.1), (3, .int a66.2.1), (4, .int a66.2.2.1)] rfl ?_
            exact hk.out
          · refine g_iload C 4 dX10_fewest_53 rfl (n := 55) rfl ?_
            refine g_iload C 5 dX10_fewest_55 rfl (n := 57) rfl ?_
            refine g_ishr C dX10_fewest_57 (n := 58) rfl ?_
            refine g_iconst C (1 : Int32) dX10_fewest_58 (by decide) (n := 59) rfl ?_
            refine g_iand C dX10_fewest_59 (n := 60) rfl ?_
            refine g_iconst C (1 : Int32) dX10_fewest_60 (by decide) (n := 61) rfl ?_
            refine g_ic_ne C 85 dX10_fewest_61 (by decide) (n := 64) rfl hk (fun hk => ?_) (fun hk => ?_)
            · refine g_iinc C 5 (fun x80 => [(5, .int x80), (0, .ref (rr Θ 24 0 0)), (1, .int p1), (2, .int a66.1), (3, .int a66.2.1), (4, .int a66.2.2.1)]) dX10_fewest_85 rfl (v := (a79.1 + (1 : Int32))) rfl (by decide) (fun _ => rfl) (n := 88) rfl hk (fun x80 hk => ?_)
              refine g_goto C 44 dX10_fewest_88 (by decide) ?_
              refine g_lv [1, 2, 3, 4, 5, 0] [(0, .ref (rr Θ 24 0 0)), (1, .int p1), (2, .int a66.1), (3, .int a66.2.1), (4, .int a66.2.2.1), (5, .int x80)] rfl ?_
              exact hk.out
            · refine g_aload_n C 0 dX10_fewest_64 rfl rfl (n := 65) rfl ?_
              refine g_getR C kc_24 (rt_24_24 (tB Θ) 0) (by decide) (by decide) (by decide) wm_921 dX10_fewest_65 (n := 68) rfl ?_
              refine g_aload_n C 0 dX10_fewest_68 rfl rfl (n := 69) rfl ?_
              refine g_getI C kc_24 ft_24_26 (by decide) (by decide) (by decide) wm_923 dX10_fewest_69 (n := 72) rfl ?_
              refine g_iload C 5 dX10_fewest_72 rfl (n := 74) rfl ?_
              refine g_iast C an_36 (by decide) dX10_fewest_74 (n := 75) rfl hk (fun _ h81 hk => ?_)
              refine g_aload_n C 0 dX10_fewest_75 rfl rfl (n := 76) rfl ?_
              refine g_dup C dX10_fewest_76 rfl (n := 77) rfl ?_
              refine g_getI C kc_24 ft_24_26 (by decide) (by decide) (by decide) wm_923 dX10_fewest_77 (n := 80) rfl ?_
              refine g_iconst C (1 : Int32) dX10_fewest_80 (by decide) (n := 81) rfl ?_
              refine g_iadd C dX10_fewest_81 (n := 82) rfl ?_
              refine g_putI C kc_24 ft_24_26 (by decide) (by decide) (by decide) rfl (fitI _) wm_923 dX10_fewest_82 (n := 85) rfl hk (fun h82 hk => ?_)
              refine g_iinc C 5 (fun x83 => [(5, .int x83), (0, .ref (rr Θ 24 0 0)), (1, .int p1), (2, .int a66.1), (3, .int a66.2.1), (4, .int a66.2.2.1)]) dX10_fewest_85 rfl (v := (a79.1 + (1 : Int32))) rfl (by decide) (fun _ => rfl) (n := 88) rfl hk (fun x83 hk => ?_)
              refine g_goto C 44 dX10_fewest_88 (by decide) ?_
              refine g_lv [1, 2, 3, 4, 5, 0] [(0, .ref (rr Θ 24 0 0)), (1, .int p1), (2, .int a66.1), (3, .int a66.2.1), (4, .int a66.2.2.1), (5, .int x83)] rfl ?_
              exact hk.out
  · refine g_iconst C (-1 : Int32) dX10_fewest_10 (by decide) (n := 11) rfl ?_
    exact retI hk.out dX10_fewest_11
def f_X10_firstDraft  (h : Mem) : Option (Mem) := obd (lp fu (fun a7 => (if (79 : Int32) ≤ a7.1 then some (.inr a7.2) else gd (inb a7.1 79) (bnd (up a7.2 27 0 0 a7.1.toNatClampNeg (0 : Int32)) (fun h8 => bnd (a7.1 + (1 : Int32)) (fun x9 => some (.inl (x9, h8))))))) ((0 : Int32), h)) (fun e10 => bnd (up e10 24 5 0 0 (4 : Int32)) (fun h11 => bnd (up h11 24 6 0 0 (0 : Int32)) (fun h12 => bnd (up h12 24 7 0 0 (0 : Int32)) (fun h13 => bnd (up h13 24 8 0 0 (-4 : Int32)) (fun h14 => some h14)))))
def rm_X10_firstDraft : Room := { frames := 0, cells := 0, slots := 0, locals := 0 }
set_option maxHeartbeats 4000000 in
set_option maxRecDepth 100000 in
theorem L_X10_firstDraft (Θ : Tht)  (h : Mem) (K : Mem → Prop) (hk : Ok (f_X10_firstDraft  h) K) : CV Θ yX10_firstDraft cX10_firstDraft 2 none rm_X10_firstDraft [.ref (rr Θ 24 0 0)] h K := by
  refine CV.of K [(0, .ref (rr Θ 24 0 0))] (plainFor_of_name (by decide)) (Nat.le_of_ble_eq_true rfl) rfl (fun Γ C Rt => ?_)
  replace hk := rtV Rt hk
  unfold f_X10_firstDraft at hk
  refine g_iconst C (0 : Int32) dX10_firstDraft_0 (by decide) (n := 1) rfl ?_
  refine g_istore_n C [(1, .int (0 : Int32)), (0, .ref (rr Θ 24 0 0))] dX10_firstDraft_1 rfl (by decide) rfl (n := 2) rfl ?_
  refine g_lv [1, 0] [(0, .ref (rr Θ 24 0 0)), (1, .int (0 : Int32))] rfl ?_
  refine Ok.join hk (fun e10 => G Θ Γ 21 [(0, .ref (rr Θ 24 0 0))] [] e10) (fun e10 hk => ?_) (fun hk => ?_)
  · refine g_aload_n C 0 dX10_firstDraft_21 rfl rfl (n := 22) rfl ?_
    refine g_iconst C (4 : Int32) dX10_firstDraft_22 (by decide) (n := 23) rfl ?_
    refine g_putI C kc_24 ft_24_5 (by decide) (by decide) (by decide) rfl (fitI _) wm_902 dX10_firstDraft_23 (n := 26) rfl hk (fun h11 hk => ?_)
    refine g_aload_n C 0 dX10_firstDraft_26 rfl rfl (n := 27) rfl ?_
    refine g_iconst C (0 : Int32) dX10_firstDraft_27 (by decide) (n := 28) rfl ?_
    refine g_putI C kc_24 ft_24_6 (by decide) (by decide) (by decide) rfl (fitI _) wm_903 dX10_firstDraft_28 (n := 31) rfl hk (fun h12 hk => ?_)
    refine g_aload_n C 0 dX10_firstDraft_31 rfl rfl (n := 32) rfl ?_
    refine g_iconst C (0 : Int32) dX10_firstDraft_32 (by decide) (n := 33) rfl ?_
    refine g_putI C kc_24 ft_24_7 (by decide) (by decide) (by decide) rfl (fitI _) wm_904 dX10_firstDraft_33 (n := 36) rfl hk (fun h13 hk => ?_)
    refine g_aload_n C 0 dX10_firstDraft_36 rfl rfl (n := 37) rfl ?_
    refine g_bipush C (-4 : Int32) dX10_firstDraft_37 (by decide) (n := 39) rfl ?_
    refine g_putI C kc_24 ft_24_8 (by decide) (by decide) (by decide) rfl (fitI _) wm_905 dX10_firstDraft_39 (n := 42) rfl hk (fun h14 hk => ?_)
    exact retV hk.out dX10_firstDraft_42
  · refine Ok.loop (fun a7 => G Θ Γ 2 [(0, .ref (rr Θ 24 0 0)), (1, .int a7.1)] [] a7.2) (fun a7 hk => ?_) _ _ hk
    refine g_iload_n C 1 dX10_firstDraft_2 rfl rfl (n := 3) rfl ?_
    refine g_bipush C (79 : Int32) dX10_firstDraft_3 (by decide) (n := 5) rfl ?_
    refine g_ic_ge C 21 dX10_firstDraft_5 (by decide) (n := 8) rfl hk (fun hk => ?_) (fun hk => ?_)
    · refine g_lv [0] [(0, .ref (rr Θ 24 0 0))] rfl ?_
      exact hk.out
    · refine g_aload_n C 0 dX10_firstDraft_8 rfl rfl (n := 9) rfl ?_
      refine g_getR C kc_24 (rt_24_4 (tB Θ) 0) (by decide) (by decide) (by decide) wm_901 dX10_firstDraft_9 (n := 12) rfl ?_
      refine g_iload_n C 1 dX10_firstDraft_12 rfl rfl (n := 13) rfl ?_
      refine g_iconst C (0 : Int32) dX10_firstDraft_13 (by decide) (n := 14) rfl ?_
      refine g_iast C an_27 (by decide) dX10_firstDraft_14 (n := 15) rfl hk (fun _ h8 hk => ?_)
      refine g_iinc C 1 (fun x9 => [(1, .int x9), (0, .ref (rr Θ 24 0 0))]) dX10_firstDraft_15 rfl (v := (a7.1 + (1 : Int32))) rfl (by decide) (fun _ => rfl) (n := 18) rfl hk (fun x9 hk => ?_)
      refine g_goto C 2 dX10_firstDraft_18 (by decide) ?_
      refine g_lv [1, 0] [(0, .ref (rr Θ 24 0 0)), (1, .int x9)] rfl ?_
      exact hk.out
def f_X10_forget (p1 : Int32) (h : Mem) : Option (Int32 × Mem) := obd (f_X10_in ((p1).toInt64) (0 : Int64) ((h 25 0 0 46).toInt64) h) (fun r1 => (if r1 = true then bnd (h 25 0 0 46) (fun x2 => bnd (up h 25 0 0 46 p1) (fun h3 => some (x2, h3))) else some ((-1 : Int32), h)))
def rm_X10_forget : Room := { frames := 1, cells := 0, slots := 0, locals := 25 }
set_option maxHeartbeats 4000000 in
set_option maxRecDepth 100000 in
theorem L_X10_forget (Θ : Tht) (p1 : Int32) (h : Mem) (K : Int32 × Mem → Prop) (hk : Ok (f_X10_forget p1 h) K) : CI Θ yX10_forget cX10_forget 3 (some .int) rm_X10_forget [.ref (rr Θ 24 0 0), .int p1] h K := by
  refine CI.of K [(0, .ref (rr Θ 24 0 0)), (1, .int p1)] (plainFor_of_name (by decide)) (Nat.le_of_ble_eq_true rfl) rfl (fun Γ C Rt => ?_)
  replace hk := rtI Rt hk
  unfold f_X10_forget at hk
  refine g_iload_n C 1 dX10_forget_0 rfl rfl (n := 1) rfl ?_
  refine g_i2l C dX10_forget_1 (n := 2) rfl ?_
  refine g_lconst C (0 : Int64) dX10_forget_2 (by decide) (n := 3) rfl ?_
  refine g_aload_n C 0 dX10_forget_3 rfl rfl (n := 4) rfl ?_
  refine g_getR C kc_24 (rt_24_0 (tB Θ) 0) (by decide) (by decide) (by decide) wm_897 dX10_forget_4 (n := 7) rfl ?_
  refine g_bipush C (46 : Int32) dX10_forget_7 (by decide) (n := 9) rfl ?_
  refine g_ialdL C 46 an_25 (by decide) (by decide) (by decide) dX10_forget_9 (n := 10) rfl ?_
  refine g_i2l C dX10_forget_10 (n := 11) rfl ?_
  refine g_cSBp C hk (fun K hk => L_X10_in Θ ((p1).toInt64) (0 : Int64) ((h 25 0 0 46).toInt64) h K hk) lk_X10_95 ⟨rfl, rfl⟩ ⟨Nat.le_of_ble_eq_true rfl, Nat.le_of_ble_eq_true rfl⟩ dX10_forget_11 rfl rfl (Nat.le_of_ble_eq_true rfl) (n := 14) rfl (fun r1 hk => ?_)
  refine g_bt C 19 dX10_forget_14 (by decide) (n := 17) rfl hk (fun hk => ?_) (fun hk => ?_)
  · refine g_aload_n C 0 dX10_forget_19 rfl rfl (n := 20) rfl ?_
    refine g_getR C kc_24 (rt_24_0 (tB Θ) 0) (by decide) (by decide) (by decide) wm_897 dX10_forget_20 (n := 23) rfl ?_
    refine g_bipush C (46 : Int32) dX10_forget_23 (by decide) (n := 25) rfl ?_
    refine g_ialdL C 46 an_25 (by decide) (by decide) (by decide) dX10_forget_25 (n := 26) rfl ?_
    refine g_nm hk (fun x2 hk => ?_)
    refine g_istore_n C [(2, .int x2), (0, .ref (rr Θ 24 0 0)), (1, .int p1)] dX10_forget_26 rfl (by decide) rfl (n := 27) rfl ?_
    refine g_aload_n C 1 dX10_forget_27 rfl rfl (n := 28) rfl ?_
    refine g_getR C kc_24 (rt_24_0 (tB Θ) 0) (by decide) (by decide) (by decide) wm_897 dX10_forget_28 (n := 31) rfl ?_
    refine g_bipush C (46 : Int32) dX10_forget_31 (by decide) (n := 33) rfl ?_
    refine g_iload_n C 2 dX10_forget_33 rfl rfl (n := 34) rfl ?_
    refine g_iastL C 46 an_25 (by decide) (by decide) (by decide) dX10_forget_34 (n := 35) rfl hk (fun h3 hk => ?_)
    refine g_iload_n C 0 dX10_forget_35 rfl rfl (n := 36) rfl ?_
    exact retI hk.out dX10_forget_36
  · refine g_iconst C (-1 : Int32) dX10_forget_17 (by decide) (n := 18) rfl ?_
    exact retI hk.out dX10_forget_18
def f_X10_go (p1 : Int32) (h : Mem) : Option (Int32 × Mem) := obd (f_X10_in ((p1).toInt64) (0 : Int64) (60 : Int64) h) (fun r1 => (if r1 = true then (if ((h 25 0 0 45) + p1) ≤ (999 : Int32) then obd (f_X10_starts h) (fun h2 => obd (lp fu (fun a9 => (if p1 ≤ a9.1 then some (.inr a9.2) else obd (f_X10_steps a9.2) (fun h10 => bnd (a9.1 + (1 : Int32)) (fun x11 => some (.inl (x11, h10)))))) ((0 : Int32), h2)) (fun e12 => obd (lp fu (fun a19 => (if (6 : Int32) ≤ a19.1 then some (.inr a19.2) else gd (inb a19.1 6) (gd (inb ((21 : Int32) + a19.1) 237) (bnd (up a19.2 25 0 0 ((21 : Int32) + a19.1).toNatClampNeg (a19.2 31 0 0 a19.1.toNatClampNeg)) (fun h20 => bnd (a19.1 + (1 : Int32)) (fun x21 => some (.inl (x21, h20)))))))) ((0 : Int32), e12)) (fun e22 => obd (lp fu (fun a29 => (if (4 : Int32) ≤ a29.1 then some (.inr a29.2) else gd (inb a29.1 4) (gd (inb ((39 : Int32) + a29.1) 237) (bnd (up a29.2 25 0 0 ((39 : Int32) + a29.1).toNatClampNeg (a29.2 35 0 0 a29.1.toNatClampNeg)) (fun h30 => bnd (a29.1 + (1 : Int32)) (fun x31 => some (.inl (x31, h30)))))))) ((0 : Int32), e22)) (fun e32 => bnd (up e32 25 0 0 45 (e32 24 27 0 0)) (fun h33 => obd (f_X10_rightMany h33) (fun r34 => some (r34, h33))))))) else some ((-3 : Int32), h)) else some ((-1 : Int32), h)))
def rm_X10_go : Room := { frames := 4, cells := 0, slots := 0, locals := 91 }
set_option maxHeartbeats 4000000 in
set_option maxRecDepth 100000 in
theorem L_X10_go (Θ : Tht) (p1 : Int32) (h : Mem) (K : Int32 × Mem → Prop) (hk : Ok (f_X10_go p1 h) K) : CI Θ yX10_go cX10_go 3 (some .int) rm_X10_go [.ref (rr Θ 24 0 0), .int p1] h K := by
  refine CI.of K [(0, .ref (rr Θ 24 0 0)), (1, .int p1)] (plainFor_of_name (by decide)) (Nat.le_of_ble_eq_true rfl) rfl (fun Γ C Rt => ?_)
  replace hk := rtI Rt hk
  unfold f_X10_go at hk
  refine g_iload_n C 1 dX10_go_0 rfl rfl (n := 1) rfl ?_
  refine g_i2l C dX10_go_1 (n := 2) rfl ?_
  refine g_lconst C (0 : Int64) dX10_go_2 (by decide) (n := 3) rfl ?_
  refine g_ldc2 C (60 : Int64) wm_1173 dX10_go_3 (n := 6) rfl ?_
  refine g_cSBp C hk (fun K hk => L_X10_in Θ ((p1).toInt64) (0 : Int64) (60 : Int64) h K hk) lk_X10_95 ⟨rfl, rfl⟩ ⟨Nat.le_of_ble_eq_true rfl, Nat.le_of_ble_eq_true rfl⟩ dX10_go_6 rfl rfl (Nat.le_of_ble_eq_true rfl) (n := 9) rfl (fun r1 hk => ?_)
  refine g_bt C 14 dX10_go_9 (by decide) (n := 12) rfl hk (fun hk => ?_) (fun hk => ?_)
  · refine g_aload_n C 0 dX10_go_14 rfl rfl (n := 15) rfl ?_
    refine g_getR C kc_24 (rt_24_0 (tB Θ) 0) (by decide) (by decide) (by decide) wm_897 dX10_go_15 (n := 18) rfl ?_
    refine g_bipush C (45 : Int32) dX10_go_18 (by decide) (n := 20) rfl ?_
    refine g_ialdL C 45 an_25 (by decide) (by decide) (by decide) dX10_go_20 (n := 21) rfl ?_
    refine g_iload_n C 1 dX10_go_21 rfl rfl (n := 22) rfl ?_
    refine g_iadd C dX10_go_22 (n := 23) rfl ?_
    refine g_sipush C (999 : Int32) dX10_go_23 (by decide) (n := 26) rfl ?_
    refine g_ic_le C 32 dX10_go_26 (by decide) (n := 29) rfl hk (fun hk => ?_) (fun hk => ?_)
    · refine g_aload_n C 0 dX10_go_32 rfl rfl (n := 33) rfl ?_
      refine g_cVV C hk (fun K hk => L_X10_starts Θ h K hk) lk_X10_222 kc_24 (by decide) (by decide) ⟨rfl, rfl⟩ ⟨Nat.le_of_ble_eq_true rfl, Nat.le_of_ble_eq_true rfl⟩ dX10_go_33 rfl rfl (Nat.le_of_ble_eq_true rfl) (n := 36) rfl (fun h2 hk => ?_)
      refine g_iconst C (0 : Int32) dX10_go_36 (by decide) (n := 37) rfl ?_
      refine g_istore_n C [(2, .int (0 : Int32)), (0, .ref (rr Θ 24 0 0)), (1, .int p1)] dX10_go_37 rfl (by decide) rfl (n := 38) rfl ?_
      refine g_lv [1, 2, 0] [(0, .ref (rr Θ 24 0 0)), (1, .int p1), (2, .int (0 : Int32))] rfl ?_
      refine Ok.join hk (fun e12 => G Θ Γ 53 [(0, .ref (rr Θ 24 0 0))] [] e12) (fun e12 hk => ?_) (fun hk => ?_)
      · refine g_iconst C (0 : Int32) dX10_go_53 (by decide) (n := 54) rfl ?_
        refine g_istore_n C [(2, .int (0 : Int32)), (0, .ref (rr Θ 24 0 0))] dX10_go_54 rfl (by decide) rfl (n := 55) rfl ?_
        refine g_lv [1, 0] [(0, .ref (rr Θ 24 0 0)), (2, .int (0 : Int32))] rfl ?_
        refine Ok.join hk (fun e22 => G Θ Γ 82 [(0, .ref (rr Θ 24 0 0))] [] e22) (fun e22 hk => ?_) (fun hk => ?_)
        · refine g_iconst C (0 : Int32) dX10_go_82 (by decide) (n := 83) rfl ?_
          refine g_istore_n C [(2, .int (0 : Int32)), (0, .ref (rr Θ 24 0 0))] dX10_go_83 rfl (by decide) rfl (n := 84) rfl ?_
          refine g_lv [1, 0] [(0, .ref (rr Θ 24 0 0)), (2, .int (0 : Int32))] rfl ?_
          refine Ok.join hk (fun e32 => G Θ Γ 110 [(0, .ref (rr Θ 24 0 0))] [] e32) (fun e32 hk => ?_) (fun hk => ?_)
          · refine g_aload_n C 0 dX10_go_110 rfl rfl (n := 111) rfl ?_
            refine g_getR C kc_24 (rt_24_0 (tB Θ) 0) (by decide) (by decide) (by decide) wm_897 dX10_go_111 (n := 114) rfl ?_
            refine g_bipush C (45 : Int32) dX10_go_114 (by decide) (n := 116) rfl ?_
            refine g_aload_n C 0 dX10_go_116 rfl rfl (n := 117) rfl ?_
            refine g_getI C kc_24 ft_24_27 (by decide) (by decide) (by decide) wm_924 dX10_go_117 (n := 120) rfl ?_
            refine g_iastL C 45 an_25 (by decide) (by decide) (by decide) dX10_go_120 (n := 121) rfl hk (fun h33 hk => ?_)
            refine g_aload_n C 0 dX10_go_121 rfl rfl (n := 122) rfl ?_
            refine g_cVIp C hk (fun K hk => L_X10_rightMany Θ h33 K hk) lk_X10_210 kc_24 (by decide) (by decide) ⟨rfl, rfl⟩ ⟨Nat.le_of_ble_eq_true rfl, Nat.le_of_ble_eq_true rfl⟩ dX10_go_122 rfl rfl (Nat.le_of_ble_eq_true rfl) (n := 125) rfl (fun r34 hk => ?_)
            exact retI hk.out dX10_go_125
          · refine Ok.loop (fun a29 => G Θ Γ 84 [(0, .ref (rr Θ 24 0 0)), (2, .int a29.1)] [] a29.2) (fun a29 hk => ?_) _ _ hk
            refine g_iload_n C 1 dX10_go_84 rfl rfl (n := 85) rfl ?_
            refine g_iconst C (4 : Int32) dX10_go_85 (by decide) (n := 86) rfl ?_
            refine g_ic_ge C 110 dX10_go_86 (by decide) (n := 89) rfl hk (fun hk => ?_) (fun hk => ?_)
            · refine g_lv [0] [(0, .ref (rr Θ 24 0 0))] rfl ?_
              exact hk.out
            · refine g_aload_n C 0 dX10_go_89 rfl rfl (n := 90) rfl ?_
              refine g_getR C kc_24 (rt_24_0 (tB Θ) 0) (by decide) (by decide) (by decide) wm_897 dX10_go_90 (n := 93) rfl ?_
              refine g_bipush C (39 : Int32) dX10_go_93 (by decide) (n := 95) rfl ?_
              refine g_iload_n C 1 dX10_go_95 rfl rfl (n := 96) rfl ?_
              refine g_iadd C dX10_go_96 (n := 97) rfl ?_
              refine g_aload_n C 0 dX10_go_97 rfl rfl (n := 98) rfl ?_
              refine g_getR C kc_24 (rt_24_23 (tB Θ) 0) (by decide) (by decide) (by decide) wm_920 dX10_go_98 (n := 101) rfl ?_
              refine g_iload_n C 1 dX10_go_101 rfl rfl (n := 102) rfl ?_
              refine g_iald C an_35 (by decide) dX10_go_102 (n := 103) rfl hk (fun _ hk => ?_)
              refine g_iast C an_25 (by decide) dX10_go_103 (n := 104) rfl hk (fun _ h30 hk => ?_)
              refine g_iinc C 1 (fun x31 => [(2, .int x31), (0, .ref (rr Θ 24 0 0))]) dX10_go_104 rfl (v := (a29.1 + (1 : Int32))) rfl (by decide) (fun _ => rfl) (n := 107) rfl hk (fun x31 hk => ?_)
              refine g_goto C 84 dX10_go_107 (by decide) ?_
              refine g_lv [1, 0] [(0, .ref (rr Θ 24 0 0)), (2, .int x31)] rfl ?_
              exact hk.out
        · refine Ok.loop (fun a19 => G Θ Γ 55 [(0, .ref (rr Θ 24 0 0)), (2, .int a19.1)] [] a19.2) (fun a19 hk => ?_) _ _ hk
          refine g_iload_n C 1 dX10_go_55 rfl rfl (n := 56) rfl ?_
          refine g_bipush C (6 : Int32) dX10_go_56 (by decide) (n := 58) rfl ?_
          refine g_ic_ge C 82 dX10_go_58 (by decide) (n := 61) rfl hk (fun hk => ?_) (fun hk => ?_)
          · refine g_lv [0] [(0, .ref (rr Θ 24 0 0))] rfl ?_
            exact hk.out
          · refine g_aload_n C 0 dX10_go_61 rfl rfl (n := 62) rfl ?_
            refine g_getR C kc_24 (rt_24_0 (tB Θ) 0) (by decide) (by decide) (by decide) wm_897 dX10_go_62 (n := 65) rfl ?_
            refine g_bipush C (21 : Int32) dX10_go_65 (by decide) (n := 67) rfl ?_
            refine g_iload_n C 1 dX10_go_67 rfl rfl (n := 68) rfl ?_
            refine g_iadd C dX10_go_68 (n := 69) rfl ?_
            refine g_aload_n C 0 dX10_go_69 rfl rfl (n := 70) rfl ?_
            refine g_getR C kc_24 (rt_24_19 (tB Θ) 0) (by decide) (by decide) (by decide) wm_916 dX10_go_70 (n := 73) rfl ?_
            refine g_iload_n C 1 dX10_go_73 rfl rfl (n := 74) rfl ?_
            refine g_iald C an_31 (by decide) dX10_go_74 (n := 75) rfl hk (fun _ hk => ?_)
            refine g_iast C an_25 (by decide) dX10_go_75 (n := 76) rfl hk (fun _ h20 hk => ?_)
            refine g_iinc C 1 (fun x21 => [(2, .int x21), (0, .ref (rr Θ 24 0 0))]) dX10_go_76 rfl (v := (a19.1 + (1 : Int32))) rfl (by decide) (fun _ => rfl) (n := 79) rfl hk (fun x21 hk => ?_)
            refine g_goto C 55 dX10_go_79 (by decide) ?_
            refine g_lv [1, 0] [(0, .ref (rr Θ 24 0 0)), (2, .int x21)] rfl ?_
            exact hk.out
      · refine Ok.loop (fun a9 => G Θ Γ 38 [(0, .ref (rr Θ 24 0 0)), (1, .int p1), (2, .int a9.1)] [] a9.2) (fun a9 hk => ?_) _ _ hk
        refine g_iload_n C 2 dX10_go_38 rfl rfl (n := 39) rfl ?_
        refine g_iload_n C 1 dX10_go_39 rfl rfl (n := 40) rfl ?_
        refine g_ic_ge C 53 dX10_go_40 (by decide) (n := 43) rfl hk (fun hk => ?_) (fun hk => ?_)
        · refine g_lv [0] [(0, .ref (rr Θ 24 0 0))] rfl ?_
          exact hk.out
        · refine g_aload_n C 0 dX10_go_43 rfl rfl (n := 44) rfl ?_
          refine g_cVV C hk (fun K hk => L_X10_steps Θ a9.2 K hk) lk_X10_213 kc_24 (by decide) (by decide) ⟨rfl, rfl⟩ ⟨Nat.le_of_ble_eq_true rfl, Nat.le_of_ble_eq_true rfl⟩ dX10_go_44 rfl rfl (Nat.le_of_ble_eq_true rfl) (n := 47) rfl (fun h10 hk => ?_)
          refine g_iinc C 2 (fun x11 => [(2, .int x11), (0, .ref (rr Θ 24 0 0)), (1, .int p1)]) dX10_go_47 rfl (v := (a9.1 + (1 : Int32))) rfl (by decide) (fun _ => rfl) (n := 50) rfl hk (fun x11 hk => ?_)
          refine g_goto C 38 dX10_go_50 (by decide) ?_
          refine g_lv [1, 2, 0] [(0, .ref (rr Θ 24 0 0)), (1, .int p1), (2, .int x11)] rfl ?_
          exact hk.out
    · refine g_bipush C (-3 : Int32) dX10_go_29 (by decide) (n := 31) rfl ?_
      exact retI hk.out dX10_go_31
  · refine g_iconst C (-1 : Int32) dX10_go_12 (by decide) (n := 13) rfl ?_
    exact retI hk.out dX10_go_13
def f_X10_grow  (h : Mem) : Option (Int32 × Mem) := (if (h 24 3 0 0) = 0 then some ((-2 : Int32), h) else obd (lp fu (fun a21 => (if (a21.2.2 24 3 0 0) ≤ a21.2.1 then some (.inr (a21.1, a21.2.2)) else gd (inb ((27 : Int32) + a21.2.1) 237) (gd (inb ((27 : Int32) + a21.2.1) 237) (obd ((if (9 : Int32) ≤ (a21.2.2 25 0 0 ((27 : Int32) + a21.2.1).toNatClampNeg) then some false else some true)) (fun a22 => obd (f_X10_flag a22 a21.2.2) (fun r23 => gd (inb ((27 : Int32) + a21.2.1) 237) (bnd (up a21.2.2 25 0 0 ((27 : Int32) + a21.2.1).toNatClampNeg ((a21.2.2 25 0 0 ((27 : Int32) + a21.2.1).toNatClampNeg) + r23)) (fun h24 => gd (inb ((31 : Int32) + a21.2.1) 237) (gd (inb ((31 : Int32) + a21.2.1) 237) (obd ((if (9 : Int32) ≤ (h24 25 0 0 ((31 : Int32) + a21.2.1).toNatClampNeg) then some false else some true)) (fun a25 => obd (f_X10_flag a25 h24) (fun r26 => gd (inb ((31 : Int32) + a21.2.1) 237) (bnd (up h24 25 0 0 ((31 : Int32) + a21.2.1).toNatClampNeg ((h24 25 0 0 ((31 : Int32) + a21.2.1).toNatClampNeg) + r26)) (fun h27 => gd (inb ((27 : Int32) + a21.2.1) 237) ((if (h27 25 0 0 ((27 : Int32) + a21.2.1).toNatClampNeg) ≤ a21.1 then bnd (a21.2.1 + (1 : Int32)) (fun x28 => some (.inl (a21.1, x28, h27))) else gd (inb ((27 : Int32) + a21.2.1) 237) (bnd (h27 25 0 0 ((27 : Int32) + a21.2.1).toNatClampNeg) (fun x29 => bnd (a21.2.1 + (1 : Int32)) (fun x30 => some (.inl (x29, x30, h27))))))))))))))))))))) ((0 : Int32), (0 : Int32), h)) (fun e31 => some (e31.1, e31.2)))
def rm_X10_grow : Room := { frames := 1, cells := 0, slots := 0, locals := 20 }
set_option maxHeartbeats 4000000 in
set_option maxRecDepth 100000 in
theorem L_X10_grow (Θ : Tht)  (h : Mem) (K : Int32 × Mem → Prop) (hk : Ok (f_X10_grow  h) K) : CI Θ yX10_grow cX10_grow 3 (some .int) rm_X10_grow [.ref (rr Θ 24 0 0)] h K := by
  refine CI.of K [(0, .ref (rr Θ 24 0 0))] (plainFor_of_name (by decide)) (Nat.le_of_ble_eq_true rfl) rfl (fun Γ C Rt => ?_)
  replace hk := rtI Rt hk
  unfold f_X10_grow at hk
  refine g_aload_n C 0 dX10_grow_0 rfl rfl (n := 1) rfl ?_
  refine g_getI C kc_24 ft_24_3 (by decide) (by decide) (by decide) wm_900 dX10_grow_1 (n := 4) rfl ?_
  refine g_if_ne C 10 dX10_grow_4 (by decide) (n := 7) rfl hk (fun hk => ?_) (fun hk => ?_)
  · refine g_iconst C (0 : Int32) dX10_grow_10 (by decide) (n := 11) rfl ?_
    refine g_istore_n C [(1, .int (0 : Int32)), (0, .ref (rr Θ 24 0 0))] dX10_grow_11 rfl (by decide) rfl (n := 12) rfl ?_
    refine g_iconst C (0 : Int32) dX10_grow_12 (by decide) (n := 13) rfl ?_
    refine g_istore_n C [(2, .int (0 : Int32)), (1, .int (0 : Int32)), (0, .ref (rr Θ 24 0 0))] dX10_grow_13 rfl (by decide) rfl (n := 14) rfl ?_
    refine g_lv [2, 1, 0] [(0, .ref (rr Θ 24 0 0)), (1, .int (0 : Int32)), (2, .int (0 : Int32))] rfl ?_
    refine Ok.join hk (fun e31 => G Θ Γ 123 [(1, .int e31.1)] [] e31.2) (fun e31 hk => ?_) (fun hk => ?_)
    · refine g_iload_n C 0 dX10_grow_123 rfl rfl (n := 124) rfl ?_
      exact retI hk.out dX10_grow_124
    · refine Ok.loop (fun a21 => G Θ Γ 14 [(0, .ref (rr Θ 24 0 0)), (1, .int a21.1), (2, .int a21.2.1)] [] a21.2.2) (fun a21 hk => ?_) _ _ hk
      refine g_iload_n C 2 dX10_grow_14 rfl rfl (n := 15) rfl ?_
      refine g_aload_n C 0 dX10_grow_15 rfl rfl (n := 16) rfl ?_
      refine g_getI C kc_24 ft_24_3 (by decide) (by decide) (by decide) wm_900 dX10_grow_16 (n := 19) rfl ?_
      refine g_ic_ge C 123 dX10_grow_19 (by decide) (n := 22) rfl hk (fun hk => ?_) (fun hk => ?_)
      · refine g_lv [1] [(1, .int a21.1)] rfl ?_
        exact hk.out
      · refine g_aload_n C 0 dX10_grow_22 rfl rfl (n := 23) rfl ?_
        refine g_getR C kc_24 (rt_24_0 (tB Θ) 0) (by decide) (by decide) (by decide) wm_897 dX10_grow_23 (n := 26) rfl ?_
        refine g_bipush C (27 : Int32) dX10_grow_26 (by decide) (n := 28) rfl ?_
        refine g_iload_n C 2 dX10_grow_28 rfl rfl (n := 29) rfl ?_
        refine g_iadd C dX10_grow_29 (n := 30) rfl ?_
        refine g_dup2 C dX10_grow_30 rfl rfl (n := 31) rfl ?_
        refine g_iald C an_25 (by decide) dX10_grow_31 (n := 32) rfl hk (fun _ hk => ?_)
        refine g_aload_n C 0 dX10_grow_32 rfl rfl (n := 33) rfl ?_
        refine g_getR C kc_24 (rt_24_0 (tB Θ) 0) (by decide) (by decide) (by decide) wm_897 dX10_grow_33 (n := 36) rfl ?_
        refine g_bipush C (27 : Int32) dX10_grow_36 (by decide) (n := 38) rfl ?_
        refine g_iload_n C 2 dX10_grow_38 rfl rfl (n := 39) rfl ?_
        refine g_iadd C dX10_grow_39 (n := 40) rfl ?_
        refine g_iald C an_25 (by decide) dX10_grow_40 (n := 41) rfl hk (fun _ hk => ?_)
        refine g_bipush C (9 : Int32) dX10_grow_41 (by decide) (n := 43) rfl ?_
        refine Ok.join hk (fun a22 => G Θ Γ 51 [(0, .ref (rr Θ 24 0 0)), (1, .int a21.1), (2, .int a21.2.1)] [.int (b2i a22), .int (a21.2.2 25 0 0 ((27 : Int32) + a21.2.1).toNatClampNeg), .int ((27 : Int32) + a21.2.1), .ref (rr Θ 25 0 0)] a21.2.2) (fun a22 hk => ?_) (fun hk => ?_)
        · refine g_cSIp C hk (fun K hk => L_X10_flag Θ a22 a21.2.2 K hk) lk_X10_158 ⟨rfl, rfl⟩ ⟨Nat.le_of_ble_eq_true rfl, Nat.le_of_ble_eq_true rfl⟩ dX10_grow_51 rfl rfl (Nat.le_of_ble_eq_true rfl) (n := 54) rfl (fun r23 hk => ?_)
          refine g_iadd C dX10_grow_54 (n := 55) rfl ?_
          refine g_iast C an_25 (by decide) dX10_grow_55 (n := 56) rfl hk (fun _ h24 hk => ?_)
          refine g_aload_n C 0 dX10_grow_56 rfl rfl (n := 57) rfl ?_
          refine g_getR C kc_24 (rt_24_0 (tB Θ) 0) (by decide) (by decide) (by decide) wm_897 dX10_grow_57 (n := 60) rfl ?_
          refine g_bipush C (31 : Int32) dX10_grow_60 (by decide) (n := 62) rfl ?_
          refine g_iload_n C 2 dX10_grow_62 rfl rfl (n := 63) rfl ?_
          refine g_iadd C dX10_grow_63 (n := 64) rfl ?_
          refine g_dup2 C dX10_grow_64 rfl rfl (n := 65) rfl ?_
          refine g_iald C an_25 (by decide) dX10_grow_65 (n := 66) rfl hk (fun _ hk => ?_)
          refine g_aload_n C 0 dX10_grow_66 rfl rfl (n := 67) rfl ?_
          refine g_getR C kc_24 (rt_24_0 (tB Θ) 0) (by decide) (by decide) (by decide) wm_897 dX10_grow_67 (n := 70) rfl ?_
          refine g_bipush C (31 : Int32) dX10_grow_70 (by decide) (n := 72) rfl ?_
          refine g_iload_n C 2 dX10_grow_72 rfl rfl (n := 73) rfl ?_
          refine g_iadd C dX10_grow_73 (n := 74) rfl ?_
          refine g_iald C an_25 (by decide) dX10_grow_74 (n := 75) rfl hk (fun _ hk => ?_)
          refine g_bipush C (9 : Int32) dX10_grow_75 (by decide) (n := 77) rfl ?_
          refine Ok.join hk (fun a25 => G Θ Γ 85 [(0, .ref (rr Θ 24 0 0)), (1, .int a21.1), (2, .int a21.2.1)] [.int (b2i a25), .int (h24 25 0 0 ((31 : Int32) + a21.2.1).toNatClampNeg), .int ((31 : Int32) + a21.2.1), .ref (rr Θ 25 0 0)] h24) (fun a25 hk => ?_) (fun hk => ?_)
          · refine g_cSIp C hk (fun K hk => L_X10_flag Θ a25 h24 K hk) lk_X10_158 ⟨rfl, rfl⟩ ⟨Nat.le_of_ble_eq_true rfl, Nat.le_of_ble_eq_true rfl⟩ dX10_grow_85 rfl rfl (Nat.le_of_ble_eq_true rfl) (n := 88) rfl (fun r26 hk => ?_)
            refine g_iadd C dX10_grow_88 (n := 89) rfl ?_
            refine g_iast C an_25 (by decide) dX10_grow_89 (n := 90) rfl hk (fun _ h27 hk => ?_)
            refine g_aload_n C 0 dX10_grow_90 rfl rfl (n := 91) rfl ?_
            refine g_getR C kc_24 (rt_24_0 (tB Θ) 0) (by decide) (by decide) (by decide) wm_897 dX10_grow_91 (n := 94) rfl ?_
            refine g_bipush C (27 : Int32) dX10_grow_94 (by decide) (n := 96) rfl ?_
            refine g_iload_n C 2 dX10_grow_96 rfl rfl (n := 97) rfl ?_
            refine g_iadd C dX10_grow_97 (n := 98) rfl ?_
            refine g_iald C an_25 (by decide) dX10_grow_98 (n := 99) rfl hk (fun _ hk => ?_)
            refine g_iload_n C 1 dX10_grow_99 rfl rfl (n := 100) rfl ?_
            refine g_ic_le C 115 dX10_grow_100 (by decide) (n := 103) rfl hk (fun hk => ?_) (fun hk => ?_)
            · refine g_iload_n C 1 dX10_grow_115 rfl rfl (n := 116) rfl ?_
              refine g_istore_n C [(1, .int a21.1), (0, .ref (rr Θ 24 0 0)), (2, .int a21.2.1)] dX10_grow_116 rfl (by decide) rfl (n := 117) rfl ?_
              refine g_iinc C 2 (fun x28 => [(2, .int x28), (1, .int a21.1), (0, .ref (rr Θ 24 0 0))]) dX10_grow_117 rfl (v := (a21.2.1 + (1 : Int32))) rfl (by decide) (fun _ => rfl) (n := 120) rfl hk (fun x28 hk => ?_)
              refine g_goto C 14 dX10_grow_120 (by decide) ?_
              refine g_lv [2, 1, 0] [(0, .ref (rr Θ 24 0 0)), (1, .int a21.1), (2, .int x28)] rfl ?_
              exact hk.out
            · refine g_aload_n C 0 dX10_grow_103 rfl rfl (n := 104) rfl ?_
              refine g_getR C kc_24 (rt_24_0 (tB Θ) 0) (by decide) (by decide) (by decide) wm_897 dX10_grow_104 (n := 107) rfl ?_
              refine g_bipush C (27 : Int32) dX10_grow_107 (by decide) (n := 109) rfl ?_
              refine g_iload_n C 2 dX10_grow_109 rfl rfl (n := 110) rfl ?_
              refine g_iadd C dX10_grow_110 (n := 111) rfl ?_
              refine g_iald C an_25 (by decide) dX10_grow_111 (n := 112) rfl hk (fun _ hk => ?_)
              refine g_goto C 116 dX10_grow_112 (by decide) ?_
              refine g_nm hk (fun x29 hk => ?_)
              refine g_istore_n C [(1, .int x29), (0, .ref (rr Θ 24 0 0)), (2, .int a21.2.1)] dX10_grow_116 rfl (by decide) rfl (n := 117) rfl ?_
              refine g_iinc C 2 (fun x30 => [(2, .int x30), (1, .int x29), (0, .ref (rr Θ 24 0 0))]) dX10_grow_117 rfl (v := (a21.2.1 + (1 : Int32))) rfl (by decide) (fun _ => rfl) (n := 120) rfl hk (fun x30 hk => ?_)
              refine g_goto C 14 dX10_grow_120 (by decide) ?_
              refine g_lv [2, 1, 0] [(0, .ref (rr Θ 24 0 0)), (1, .int x29), (2, .int x30)] rfl ?_
              exact hk.out
          · refine g_ic_ge C 84 dX10_grow_77 (by decide) (n := 80) rfl hk (fun hk => ?_) (fun hk => ?_)
            · refine g_iconst C (0 : Int32) dX10_grow_84 (by decide) (n := 85) rfl ?_
              exact hk.out
            · refine g_iconst C (1 : Int32) dX10_grow_80 (by decide) (n := 81) rfl ?_
              refine g_goto C 85 dX10_grow_81 (by decide) ?_
              exact hk.out
        · refine g_ic_ge C 50 dX10_grow_43 (by decide) (n := 46) rfl hk (fun hk => ?_) (fun hk => ?_)
          · refine g_iconst C (0 : Int32) dX10_grow_50 (by decide) (n := 51) rfl ?_
            exact hk.out
          · refine g_iconst C (1 : Int32) dX10_grow_46 (by decide) (n := 47) rfl ?_
            refine g_goto C 51 dX10_grow_47 (by decide) ?_
            exact hk.out
  · refine g_bipush C (-2 : Int32) dX10_grow_7 (by decide) (n := 9) rfl ?_
    exact retI hk.out dX10_grow_9
def f_X10_gulls (p1 : Int32) (p2 : Int32) (p3 : Int32) (h : Mem) : Option (Int32 × Mem) := obd (f_X10_in ((p2).toInt64) (1 : Int64) (60 : Int64) h) (fun r1 => (if r1 = true then obd (f_X10_in ((p3).toInt64) (0 : Int64) (1 : Int64) h) (fun r2 => (if r2 = true then obd (f_X10_starts h) (fun h3 => obd (lp fu (fun a40 => (if p2 ≤ a40.2.1 then some (.inr a40.2.2) else bnd ((a40.1 * (1103515245 : Int32)) + (12345 : Int32)) (fun x41 => gd (¬ (a40.2.2 24 2 0 0) = 0) (bnd (((x41 >>> ((16 : Int32) &&& (31 : Int32))) &&& (32767 : Int32)) - ((x41 >>> ((16 : Int32) &&& (31 : Int32))) &&& (32767 : Int32)) / (a40.2.2 24 2 0 0) * (a40.2.2 24 2 0 0)) (fun x42 => obd (lp fu (fun a51 => (if (a51.2 25 0 0 8) ≤ a51.1 then some (.inr a51.2) else gd (inb a51.1 6) (obd ((if (a51.2 31 0 0 a51.1.toNatClampNeg) = x42 then some (30 : Int32) else gd (inb a51.1 6) (some (a51.2 31 0 0 a51.1.toNatClampNeg)))) (fun a52 => gd (inb a51.1 6) (bnd (up a51.2 31 0 0 a51.1.toNatClampNeg a52) (fun h53 => bnd (a51.1 + (1 : Int32)) (fun x54 => some (.inl (x54, h53))))))))) ((0 : Int32), a40.2.2)) (fun e55 => obd (f_X10_steps e55) (fun h56 => bnd (a40.2.1 + (1 : Int32)) (fun x57 => some (.inl (x41, x57, h56)))))))))) (p1, (0 : Int32), h3)) (fun e58 => obd (lp fu (fun a69 => (if (e58 25 0 0 8) ≤ a69.2 then some (.inr a69.1) else gd (inb a69.2 6) (obd ((if (e58 31 0 0 a69.2.toNatClampNeg) = (30 : Int32) then some true else some false)) (fun a70 => obd (f_X10_flag a70 e58) (fun r71 => bnd (a69.1 + r71) (fun x72 => bnd (a69.2 + (1 : Int32)) (fun x73 => some (.inl (x72, x73))))))))) ((0 : Int32), (0 : Int32))) (fun e74 => (if p3 = 0 then some (e74, e58) else obd (f_X10_rightMany e58) (fun r75 => some (r75, e58)))))) else some ((-1 : Int32), h))) else some ((-1 : Int32), h)))
def rm_X10_gulls : Room := { frames := 4, cells := 0, slots := 0, locals := 91 }
set_option maxHeartbeats 4000000 in
set_option maxRecDepth 100000 in
theorem L_X10_gulls (Θ : Tht) (p1 : Int32) (p2 : Int32) (p3 : Int32) (h : Mem) (K : Int32 × Mem → Prop) (hk : Ok (f_X10_gulls p1 p2 p3 h) K) : CI Θ yX10_gulls cX10_gulls 8 (some .int) rm_X10_gulls [.ref (rr Θ 24 0 0), .int p1, .int p2, .int p3] h K := by
  refine CI.of K [(0, .ref (rr Θ 24 0 0)), (1, .int p1), (2, .int p2), (3, .int p3)] (plainFor_of_name (by decide)) (Nat.le_of_ble_eq_true rfl) rfl (fun Γ C Rt => ?_)
  replace hk := rtI Rt hk
  unfold f_X10_gulls at hk
  refine g_iload_n C 2 dX10_gulls_0 rfl rfl (n := 1) rfl ?_
  refine g_i2l C dX10_gulls_1 (n := 2) rfl ?_
  refine g_lconst C (1 : Int64) dX10_gulls_2 (by decide) (n := 3) rfl ?_
  refine g_ldc2 C (60 : Int64) wm_1173 dX10_gulls_3 (n := 6) rfl ?_
  refine g_cSBp C hk (fun K hk => L_X10_in Θ ((p2).toInt64) (1 : Int64) (60 : Int64) h K hk) lk_X10_95 ⟨rfl, rfl⟩ ⟨Nat.le_of_ble_eq_true rfl, Nat.le_of_ble_eq_true rfl⟩ dX10_gulls_6 rfl rfl (Nat.le_of_ble_eq_true rfl) (n := 9) rfl (fun r1 hk => ?_)
  refine g_bf C 22 dX10_gulls_9 (by decide) (n := 12) rfl hk (fun hk => ?_) (fun hk => ?_)
  · refine g_iconst C (-1 : Int32) dX10_gulls_22 (by decide) (n := 23) rfl ?_
    exact retI hk.out dX10_gulls_23
  · refine g_iload_n C 3 dX10_gulls_12 rfl rfl (n := 13) rfl ?_
    refine g_i2l C dX10_gulls_13 (n := 14) rfl ?_
    refine g_lconst C (0 : Int64) dX10_gulls_14 (by decide) (n := 15) rfl ?_
    refine g_lconst C (1 : Int64) dX10_gulls_15 (by decide) (n := 16) rfl ?_
    refine g_cSBp C hk (fun K hk => L_X10_in Θ ((p3).toInt64) (0 : Int64) (1 : Int64) h K hk) lk_X10_95 ⟨rfl, rfl⟩ ⟨Nat.le_of_ble_eq_true rfl, Nat.le_of_ble_eq_true rfl⟩ dX10_gulls_16 rfl rfl (Nat.le_of_ble_eq_true rfl) (n := 19) rfl (fun r2 hk => ?_)
    refine g_bt C 24 dX10_gulls_19 (by decide) (n := 22) rfl hk (fun hk => ?_) (fun hk => ?_)
    · refine g_aload_n C 0 dX10_gulls_24 rfl rfl (n := 25) rfl ?_
      refine g_cVV C hk (fun K hk => L_X10_starts Θ h K hk) lk_X10_222 kc_24 (by decide) (by decide) ⟨rfl, rfl⟩ ⟨Nat.le_of_ble_eq_true rfl, Nat.le_of_ble_eq_true rfl⟩ dX10_gulls_25 rfl rfl (Nat.le_of_ble_eq_true rfl) (n := 28) rfl (fun h3 hk => ?_)
      refine g_iload_n C 1 dX10_gulls_28 rfl rfl (n := 29) rfl ?_
      refine g_istore C [(4, .int p1), (0, .ref (rr Θ 24 0 0)), (1, .int p1), (2, .int p2), (3, .int p3)] dX10_gulls_29 (by decide) rfl (n := 31) rfl ?_
      refine g_iconst C (0 : Int32) dX10_gulls_31 (by decide) (n := 32) rfl ?_
      refine g_istore C [(5, .int (0 : Int32)), (4, .int p1), (0, .ref (rr Θ 24 0 0)), (1, .int p1), (2, .int p2), (3, .int p3)] dX10_gulls_32 (by decide) rfl (n := 34) rfl ?_
      refine g_lv [2, 4, 5, 1, 0] [(0, .ref (rr Θ 24 0 0)), (2, .int p2), (3, .int p3), (4, .int p1), (5, .int (0 : Int32))] rfl ?_
      refine Ok.join hk (fun e58 => G Θ Γ 130 [(0, .ref (rr Θ 24 0 0)), (3, .int p3)] [] e58) (fun e58 hk => ?_) (fun hk => ?_)
      · refine g_iconst C (0 : Int32) dX10_gulls_130 (by decide) (n := 131) rfl ?_
        refine g_istore C [(5, .int (0 : Int32)), (0, .ref (rr Θ 24 0 0)), (3, .int p3)] dX10_gulls_131 (by decide) rfl (n := 133) rfl ?_
        refine g_iconst C (0 : Int32) dX10_gulls_133 (by decide) (n := 134) rfl ?_
        refine g_istore C [(6, .int (0 : Int32)), (5, .int (0 : Int32)), (0, .ref (rr Θ 24 0 0)), (3, .int p3)] dX10_gulls_134 (by decide) rfl (n := 136) rfl ?_
        refine g_lv [2, 3, 1, 0] [(0, .ref (rr Θ 24 0 0)), (3, .int p3), (5, .int (0 : Int32)), (6, .int (0 : Int32))] rfl ?_
        refine Ok.join hk (fun e74 => G Θ Γ 179 [(0, .ref (rr Θ 24 0 0)), (3, .int p3), (5, .int e74)] [] e58) (fun e74 hk => ?_) (fun hk => ?_)
        · refine g_iload_n C 1 dX10_gulls_179 rfl rfl (n := 180) rfl ?_
          refine g_if_ne C 188 dX10_gulls_180 (by decide) (n := 183) rfl hk (fun hk => ?_) (fun hk => ?_)
          · refine g_aload_n C 0 dX10_gulls_188 rfl rfl (n := 189) rfl ?_
            refine g_cVIp C hk (fun K hk => L_X10_rightMany Θ e58 K hk) lk_X10_210 kc_24 (by decide) (by decide) ⟨rfl, rfl⟩ ⟨Nat.le_of_ble_eq_true rfl, Nat.le_of_ble_eq_true rfl⟩ dX10_gulls_189 rfl rfl (Nat.le_of_ble_eq_true rfl) (n := 192) rfl (fun r75 hk => ?_)
            exact retI hk.out dX10_gulls_192
          · refine g_iload C 2 dX10_gulls_183 rfl (n := 185) rfl ?_
            refine g_goto C 192 dX10_gulls_185 (by decide) ?_
            exact retI hk.out dX10_gulls_192
        · refine Ok.loop (fun a69 => G Θ Γ 136 [(0, .ref (rr Θ 24 0 0)), (3, .int p3), (5, .int a69.1), (6, .int a69.2)] [] e58) (fun a69 hk => ?_) _ _ hk
          refine g_iload C 3 dX10_gulls_136 rfl (n := 138) rfl ?_
          refine g_aload_n C 0 dX10_gulls_138 rfl rfl (n := 139) rfl ?_
          refine g_getR C kc_24 (rt_24_0 (tB Θ) 0) (by decide) (by decide) (by decide) wm_897 dX10_gulls_139 (n := 142) rfl ?_
          refine g_bipush C (8 : Int32) dX10_gulls_142 (by decide) (n := 144) rfl ?_
          refine g_ialdL C 8 an_25 (by decide) (by decide) (by decide) dX10_gulls_144 (n := 145) rfl ?_
          refine g_ic_ge C 179 dX10_gulls_145 (by decide) (n := 148) rfl hk (fun hk => ?_) (fun hk => ?_)
          · refine g_lv [0, 1, 2] [(0, .ref (rr Θ 24 0 0)), (3, .int p3), (5, .int a69.1)] rfl ?_
            exact hk.out
          · refine g_iload C 2 dX10_gulls_148 rfl (n := 150) rfl ?_
            refine g_aload_n C 0 dX10_gulls_150 rfl rfl (n := 151) rfl ?_
            refine g_getR C kc_24 (rt_24_19 (tB Θ) 0) (by decide) (by decide) (by decide) wm_916 dX10_gulls_151 (n := 154) rfl ?_
            refine g_iload C 3 dX10_gulls_154 rfl (n := 156) rfl ?_
            refine g_iald C an_31 (by decide) dX10_gulls_156 (n := 157) rfl hk (fun _ hk => ?_)
            refine g_bipush C (30 : Int32) dX10_gulls_157 (by decide) (n := 159) rfl ?_
            refine Ok.join hk (fun a70 => G Θ Γ 167 [(0, .ref (rr Θ 24 0 0)), (3, .int p3), (6, .int a69.2)] [.int (b2i a70), .int a69.1] e58) (fun a70 hk => ?_) (fun hk => ?_)
            · refine g_cSIp C hk (fun K hk => L_X10_flag Θ a70 e58 K hk) lk_X10_158 ⟨rfl, rfl⟩ ⟨Nat.le_of_ble_eq_true rfl, Nat.le_of_ble_eq_true rfl⟩ dX10_gulls_167 rfl rfl (Nat.le_of_ble_eq_true rfl) (n := 170) rfl (fun r71 hk => ?_)
              refine g_iadd C dX10_gulls_170 (n := 171) rfl ?_
              refine g_nm hk (fun x72 hk => ?_)
              refine g_istore C [(5, .int x72), (0, .ref (rr Θ 24 0 0)), (3, .int p3), (6, .int a69.2)] dX10_gulls_171 (by decide) rfl (n := 173) rfl ?_
              refine g_iinc C 3 (fun x73 => [(6, .int x73), (5, .int x72), (0, .ref (rr Θ 24 0 0)), (3, .int p3)]) dX10_gulls_173 rfl (v := (a69.2 + (1 : Int32))) rfl (by decide) (fun _ => rfl) (n := 176) rfl hk (fun x73 hk => ?_)
              refine g_goto C 136 dX10_gulls_176 (by decide) ?_
              refine g_lv [2, 3, 1, 0] [(0, .ref (rr Θ 24 0 0)), (3, .int p3), (5, .int x72), (6, .int x73)] rfl ?_
              exact hk.out
            · refine g_ic_ne C 166 dX10_gulls_159 (by decide) (n := 162) rfl hk (fun hk => ?_) (fun hk => ?_)
              · refine g_iconst C (0 : Int32) dX10_gulls_166 (by decide) (n := 167) rfl ?_
                refine g_lv [0, 1, 3] [(0, .ref (rr Θ 24 0 0)), (3, .int p3), (6, .int a69.2)] rfl ?_
                exact hk.out
              · refine g_iconst C (1 : Int32) dX10_gulls_162 (by decide) (n := 163) rfl ?_
                refine g_goto C 167 dX10_gulls_163 (by decide) ?_
                refine g_lv [0, 1, 3] [(0, .ref (rr Θ 24 0 0)), (3, .int p3), (6, .int a69.2)] rfl ?_
                exact hk.out
      · refine Ok.loop (fun a40 => G Θ Γ 34 [(0, .ref (rr Θ 24 0 0)), (2, .int p2), (3, .int p3), (4, .int a40.1), (5, .int a40.2.1)] [] a40.2.2) (fun a40 hk => ?_) _ _ hk
        refine g_iload C 4 dX10_gulls_34 rfl (n := 36) rfl ?_
        refine g_iload_n C 1 dX10_gulls_36 rfl rfl (n := 37) rfl ?_
        refine g_ic_ge C 130 dX10_gulls_37 (by decide) (n := 40) rfl hk (fun hk => ?_) (fun hk => ?_)
        · refine g_lv [0, 2] [(0, .ref (rr Θ 24 0 0)), (3, .int p3)] rfl ?_
          exact hk.out
        · refine g_iload C 3 dX10_gulls_40 rfl (n := 42) rfl ?_
          refine g_ldc_w C (1103515245 : Int32) wm_1267 dX10_gulls_42 (n := 45) rfl ?_
          refine g_imul C dX10_gulls_45 (n := 46) rfl ?_
          refine g_sipush C (12345 : Int32) dX10_gulls_46 (by decide) (n := 49) rfl ?_
          refine g_iadd C dX10_gulls_49 (n := 50) rfl ?_
          refine g_nm hk (fun x41 hk => ?_)
          refine g_istore C [(4, .int x41), (0, .ref (rr Θ 24 0 0)), (2, .int p2), (3, .int p3), (5, .int a40.2.1)] dX10_gulls_50 (by decide) rfl (n := 52) rfl ?_
          refine g_iload C 0 dX10_gulls_52 rfl (n := 54) rfl ?_
          refine g_bipush C (16 : Int32) dX10_gulls_54 (by decide) (n := 56) rfl ?_
          refine g_ishr C dX10_gulls_56 (n := 57) rfl ?_
          refine g_sipush C (32767 : Int32) dX10_gulls_57 (by decide) (n := 60) rfl ?_
          refine g_iand C dX10_gulls_60 (n := 61) rfl ?_
          refine g_aload_n C 1 dX10_gulls_61 rfl rfl (n := 62) rfl ?_
          refine g_getI C kc_24 ft_24_2 (by decide) (by decide) (by decide) wm_899 dX10_gulls_62 (n := 65) rfl ?_
          refine g_irem C dX10_gulls_65 (n := 66) rfl hk (fun hk => ?_)
          refine g_nm hk (fun x42 hk => ?_)
          refine g_istore C [(6, .int x42), (4, .int x41), (0, .ref (rr Θ 24 0 0)), (2, .int p2), (3, .int p3), (5, .int a40.2.1)] dX10_gulls_66 (by decide) rfl (n := 68) rfl ?_
          refine g_iconst C (0 : Int32) dX10_gulls_68 (by decide) (n := 69) rfl ?_
          refine g_istore C [(7, .int (0 : Int32)), (6, .int x42), (4, .int x41), (0, .ref (rr Θ 24 0 0)), (2, .int p2), (3, .int p3), (5, .int a40.2.1)] dX10_gulls_69 (by decide) rfl (n := 71) rfl ?_
          refine g_lv [3, 4, 5, 2, 6, 1, 0] [(0, .ref (rr Θ 24 0 0)), (2, .int p2), (3, .int p3), (4, .int x41), (5, .int a40.2.1), (6, .int x42), (7, .int (0 : Int32))] rfl ?_
          refine Ok.join hk (fun e55 => G Θ Γ 120 [(0, .ref (rr Θ 24 0 0)), (2, .int p2), (3, .int p3), (4, .int x41), (5, .int a40.2.1)] [] e55) (fun e55 hk => ?_) (fun hk => ?_)
          · refine g_aload_n C 0 dX10_gulls_120 rfl rfl (n := 121) rfl ?_
            refine g_cVV C hk (fun K hk => L_X10_steps Θ e55 K hk) lk_X10_213 kc_24 (by decide) (by decide) ⟨rfl, rfl⟩ ⟨Nat.le_of_ble_eq_true rfl, Nat.le_of_ble_eq_true rfl⟩ dX10_gulls_121 rfl rfl (Nat.le_of_ble_eq_true rfl) (n := 124) rfl (fun h56 hk => ?_)
            refine g_iinc C 4 (fun x57 => [(5, .int x57), (0, .ref (rr Θ 24 0 0)), (2, .int p2), (3, .int p3), (4, .int x41)]) dX10_gulls_124 rfl (v := (a40.2.1 + (1 : Int32))) rfl (by decide) (fun _ => rfl) (n := 127) rfl hk (fun x57 hk => ?_)
            refine g_goto C 34 dX10_gulls_127 (by decide) ?_
            refine g_lv [1, 2, 3, 4, 0] [(0, .ref (rr Θ 24 0 0)), (2, .int p2), (3, .int p3), (4, .int x41), (5, .int x57)] rfl ?_
            exact hk.out
          · refine Ok.loop (fun a51 => G Θ Γ 71 [(0, .ref (rr Θ 24 0 0)), (2, .int p2), (3, .int p3), (4, .int x41), (5, .int a40.2.1), (6, .int x42), (7, .int a51.1)] [] a51.2) (fun a51 hk => ?_) _ _ hk
            refine g_iload C 6 dX10_gulls_71 rfl (n := 73) rfl ?_
            refine g_aload_n C 0 dX10_gulls_73 rfl rfl (n := 74) rfl ?_
            refine g_getR C kc_24 (rt_24_0 (tB Θ) 0) (by decide) (by decide) (by decide) wm_897 dX10_gulls_74 (n := 77) rfl ?_
            refine g_bipush C (8 : Int32) dX10_gulls_77 (by decide) (n := 79) rfl ?_
            refine g_ialdL C 8 an_25 (by decide) (by decide) (by decide) dX10_gulls_79 (n := 80) rfl ?_
            refine g_ic_ge C 120 dX10_gulls_80 (by decide) (n := 83) rfl hk (fun hk => ?_) (fun hk => ?_)
            · refine g_lv [0, 1, 2, 3, 4] [(0, .ref (rr Θ 24 0 0)), (2, .int p2), (3, .int p3), (4, .int x41), (5, .int a40.2.1)] rfl ?_
              exact hk.out
            · refine g_aload_n C 0 dX10_gulls_83 rfl rfl (n := 84) rfl ?_
              refine g_getR C kc_24 (rt_24_19 (tB Θ) 0) (by decide) (by decide) (by decide) wm_916 dX10_gulls_84 (n := 87) rfl ?_
              refine g_iload C 6 dX10_gulls_87 rfl (n := 89) rfl ?_
              refine g_aload_n C 0 dX10_gulls_89 rfl rfl (n := 90) rfl ?_
              refine g_getR C kc_24 (rt_24_19 (tB Θ) 0) (by decide) (by decide) (by decide) wm_916 dX10_gulls_90 (n := 93) rfl ?_
              refine g_iload C 6 dX10_gulls_93 rfl (n := 95) rfl ?_
              refine g_iald C an_31 (by decide) dX10_gulls_95 (n := 96) rfl hk (fun _ hk => ?_)
              refine g_iload C 5 dX10_gulls_96 rfl (n := 98) rfl ?_
              refine Ok.join hk (fun a52 => G Θ Γ 113 [(0, .ref (rr Θ 24 0 0)), (2, .int p2), (3, .int p3), (4, .int x41), (5, .int a40.2.1), (6, .int x42), (7, .int a51.1)] [.int a52, .int a51.1, .ref (rr Θ 31 0 0)] a51.2) (fun a52 hk => ?_) (fun hk => ?_)
              · refine g_iast C an_31 (by decide) dX10_gulls_113 (n := 114) rfl hk (fun _ h53 hk => ?_)
                refine g_iinc C 6 (fun x54 => [(7, .int x54), (0, .ref (rr Θ 24 0 0)), (2, .int p2), (3, .int p3), (4, .int x41), (5, .int a40.2.1), (6, .int x42)]) dX10_gulls_114 rfl (v := (a51.1 + (1 : Int32))) rfl (by decide) (fun _ => rfl) (n := 117) rfl hk (fun x54 hk => ?_)
                refine g_goto C 71 dX10_gulls_117 (by decide) ?_
                refine g_lv [1, 2, 3, 4, 5, 6, 0] [(0, .ref (rr Θ 24 0 0)), (2, .int p2), (3, .int p3), (4, .int x41), (5, .int a40.2.1), (6, .int x42), (7, .int x54)] rfl ?_
                exact hk.out
              · refine g_ic_ne C 106 dX10_gulls_98 (by decide) (n := 101) rfl hk (fun hk => ?_) (fun hk => ?_)
                · refine g_aload_n C 0 dX10_gulls_106 rfl rfl (n := 107) rfl ?_
                  refine g_getR C kc_24 (rt_24_19 (tB Θ) 0) (by decide) (by decide) (by decide) wm_916 dX10_gulls_107 (n := 110) rfl ?_
                  refine g_iload C 6 dX10_gulls_110 rfl (n := 112) rfl ?_
                  refine g_iald C an_31 (by decide) dX10_gulls_112 (n := 113) rfl hk (fun _ hk => ?_)
                  exact hk.out
                · refine g_bipush C (30 : Int32) dX10_gulls_101 (by decide) (n := 103) rfl ?_
                  refine g_goto C 113 dX10_gulls_103 (by decide) ?_
                  exact hk.out
    · refine g_iconst C (-1 : Int32) dX10_gulls_22 (by decide) (n := 23) rfl ?_
      exact retI hk.out dX10_gulls_23
def f_X10_hand (p1 : Int32) (p2 : Int32) (h : Mem) : Option (Int32 × Mem) := obd (f_X10_isCrab p1 h) (fun r1 => (if r1 = true then obd (f_X10_in ((p2).toInt64) (0 : Int64) (1 : Int64) h) (fun r2 => (if r2 = true then ob2 (f_X10_becomes ((35 : Int32) + p1) p2 h) (fun r3 h4 => some (r3, h4)) else some ((-1 : Int32), h))) else some ((-1 : Int32), h)))
def rm_X10_hand : Room := { frames := 2, cells := 0, slots := 0, locals := 46 }
set_option maxHeartbeats 4000000 in
set_option maxRecDepth 100000 in
theorem L_X10_hand (Θ : Tht) (p1 : Int32) (p2 : Int32) (h : Mem) (K : Int32 × Mem → Prop) (hk : Ok (f_X10_hand p1 p2 h) K) : CI Θ yX10_hand cX10_hand 3 (some .int) rm_X10_hand [.ref (rr Θ 24 0 0), .int p1, .int p2] h K := by
  refine CI.of K [(0, .ref (rr Θ 24 0 0)), (1, .int p1), (2, .int p2)] (plainFor_of_name (by decide)) (Nat.le_of_ble_eq_true rfl) rfl (fun Γ C Rt => ?_)
  replace hk := rtI Rt hk
  unfold f_X10_hand at hk
  refine g_aload_n C 0 dX10_hand_0 rfl rfl (n := 1) rfl ?_
  refine g_iload_n C 1 dX10_hand_1 rfl rfl (n := 2) rfl ?_
  refine g_cVBp C hk (fun K hk => L_X10_isCrab Θ p1 h K hk) lk_X10_225 kc_24 (by decide) (by decide) ⟨rfl, rfl⟩ ⟨Nat.le_of_ble_eq_true rfl, Nat.le_of_ble_eq_true rfl⟩ dX10_hand_2 rfl rfl (Nat.le_of_ble_eq_true rfl) (n := 5) rfl (fun r1 hk => ?_)
  refine g_bf C 30 dX10_hand_5 (by decide) (n := 8) rfl hk (fun hk => ?_) (fun hk => ?_)
  · refine g_iconst C (-1 : Int32) dX10_hand_30 (by decide) (n := 31) rfl ?_
    exact retI hk.out dX10_hand_31
  · refine g_iload_n C 2 dX10_hand_8 rfl rfl (n := 9) rfl ?_
    refine g_i2l C dX10_hand_9 (n := 10) rfl ?_
    refine g_lconst C (0 : Int64) dX10_hand_10 (by decide) (n := 11) rfl ?_
    refine g_lconst C (1 : Int64) dX10_hand_11 (by decide) (n := 12) rfl ?_
    refine g_cSBp C hk (fun K hk => L_X10_in Θ ((p2).toInt64) (0 : Int64) (1 : Int64) h K hk) lk_X10_95 ⟨rfl, rfl⟩ ⟨Nat.le_of_ble_eq_true rfl, Nat.le_of_ble_eq_true rfl⟩ dX10_hand_12 rfl rfl (Nat.le_of_ble_eq_true rfl) (n := 15) rfl (fun r2 hk => ?_)
    refine g_bf C 30 dX10_hand_15 (by decide) (n := 18) rfl hk (fun hk => ?_) (fun hk => ?_)
    · refine g_iconst C (-1 : Int32) dX10_hand_30 (by decide) (n := 31) rfl ?_
      exact retI hk.out dX10_hand_31
    · refine g_aload_n C 0 dX10_hand_18 rfl rfl (n := 19) rfl ?_
      refine g_bipush C (35 : Int32) dX10_hand_19 (by decide) (n := 21) rfl ?_
      refine g_iload_n C 1 dX10_hand_21 rfl rfl (n := 22) rfl ?_
      refine g_iadd C dX10_hand_22 (n := 23) rfl ?_
      refine g_iload_n C 2 dX10_hand_23 rfl rfl (n := 24) rfl ?_
      refine g_cVI C hk (fun K hk => L_X10_becomes Θ ((35 : Int32) + p1) p2 h K hk) lk_X10_233 kc_24 (by decide) (by decide) ⟨rfl, rfl⟩ ⟨Nat.le_of_ble_eq_true rfl, Nat.le_of_ble_eq_true rfl⟩ dX10_hand_24 rfl rfl (Nat.le_of_ble_eq_true rfl) (n := 27) rfl (fun r3 h4 hk => ?_)
      refine g_goto C 31 dX10_hand_27 (by decide) ?_
      exact retI hk.out dX10_hand_31
def f_X10_hole (p1 : Int32) (h : Mem) : Option (Int32) := obd (f_X10_isPlace p1 h) (fun r1 => (if r1 = true then gd (inb ((0 : Int32) + p1) 237) (some (h 25 0 0 ((0 : Int32) + p1).toNatClampNeg)) else some (-1 : Int32)))
def rm_X10_hole : Room := { frames := 2, cells := 0, slots := 0, locals := 46 }
set_option maxHeartbeats 4000000 in
set_option maxRecDepth 100000 in
theorem L_X10_hole (Θ : Tht) (p1 : Int32) (h : Mem) (K : Int32 × Mem → Prop) (hk : Ok (f_X10_hole p1 h) (fun r => K (r, h))) : CI Θ yX10_hole cX10_hole 2 (some .int) rm_X10_hole [.ref (rr Θ 24 0 0), .int p1] h K := by
  refine CI.of K [(0, .ref (rr Θ 24 0 0)), (1, .int p1)] (plainFor_of_name (by decide)) (Nat.le_of_ble_eq_true rfl) rfl (fun Γ C Rt => ?_)
  replace hk := rtIp Rt hk
  unfold f_X10_hole at hk
  refine g_aload_n C 0 dX10_hole_0 rfl rfl (n := 1) rfl ?_
  refine g_iload_n C 1 dX10_hole_1 rfl rfl (n := 2) rfl ?_
  refine g_cVBp C hk (fun K hk => L_X10_isPlace Θ p1 h K hk) lk_X10_216 kc_24 (by decide) (by decide) ⟨rfl, rfl⟩ ⟨Nat.le_of_ble_eq_true rfl, Nat.le_of_ble_eq_true rfl⟩ dX10_hole_2 rfl rfl (Nat.le_of_ble_eq_true rfl) (n := 5) rfl (fun r1 hk => ?_)
  refine g_bf C 19 dX10_hole_5 (by decide) (n := 8) rfl hk (fun hk => ?_) (fun hk => ?_)
  · refine g_iconst C (-1 : Int32) dX10_hole_19 (by decide) (n := 20) rfl ?_
    exact retI hk.out dX10_hole_20
  · refine g_aload_n C 0 dX10_hole_8 rfl rfl (n := 9) rfl ?_
    refine g_getR C kc_24 (rt_24_0 (tB Θ) 0) (by decide) (by decide) (by decide) wm_897 dX10_hole_9 (n := 12) rfl ?_
    refine g_iconst C (0 : Int32) dX10_hole_12 (by decide) (n := 13) rfl ?_
    refine g_iload_n C 1 dX10_hole_13 rfl rfl (n := 14) rfl ?_
    refine g_iadd C dX10_hole_14 (n := 15) rfl ?_
    refine g_iald C an_25 (by decide) dX10_hole_15 (n := 16) rfl hk (fun _ hk => ?_)
    refine g_goto C 20 dX10_hole_16 (by decide) ?_
    exact retI hk.out dX10_hole_20
def f_X10_is (p1 : Int32) (p2 : Int32) (p3 : Int32) (p4 : Int32) (h : Mem) : Option (Bool) := (if ((h 24 11 0 0) - (h 24 12 0 0)) = p1 then obd (f_X10_look (h 24 12 0 0) h) (fun r1 => (if r1 = p2 then obd (f_X10_look ((h 24 12 0 0) + (1 : Int32)) h) (fun r2 => (if r2 = p3 then obd (f_X10_look ((h 24 12 0 0) + (2 : Int32)) h) (fun r3 => (if r3 = p4 then some true else some false)) else some false)) else some false)) else some false)
def rm_X10_is : Room := { frames := 1, cells := 0, slots := 0, locals := 21 }
set_option maxHeartbeats 4000000 in
set_option maxRecDepth 100000 in
theorem L_X10_is (Θ : Tht) (p1 : Int32) (p2 : Int32) (p3 : Int32) (p4 : Int32) (h : Mem) (K : Bool × Mem → Prop) (hk : Ok (f_X10_is p1 p2 p3 p4 h) (fun r => K (r, h))) : CB Θ yX10_is cX10_is 5 (some .boolean) rm_X10_is [.ref (rr Θ 24 0 0), .int p1, .int p2, .int p3, .int p4] h K := by
  refine CB.of K [(0, .ref (rr Θ 24 0 0)), (1, .int p1), (2, .int p2), (3, .int p3), (4, .int p4)] (plainFor_of_name (by decide)) (Nat.le_of_ble_eq_true rfl) rfl (fun Γ C Rt => ?_)
  replace hk := rtBp Rt hk
  unfold f_X10_is at hk
  refine g_aload_n C 0 dX10_is_0 rfl rfl (n := 1) rfl ?_
  refine g_getI C kc_24 ft_24_11 (by decide) (by decide) (by decide) wm_908 dX10_is_1 (n := 4) rfl ?_
  refine g_aload_n C 0 dX10_is_4 rfl rfl (n := 5) rfl ?_
  refine g_getI C kc_24 ft_24_12 (by decide) (by decide) (by decide) wm_909 dX10_is_5 (n := 8) rfl ?_
  refine g_isub C dX10_is_8 (n := 9) rfl ?_
  refine g_iload_n C 1 dX10_is_9 rfl rfl (n := 10) rfl ?_
  refine g_ic_ne C 58 dX10_is_10 (by decide) (n := 13) rfl hk (fun hk => ?_) (fun hk => ?_)
  · refine g_iconst C (0 : Int32) dX10_is_58 (by decide) (n := 59) rfl ?_
    exact retB false rfl hk.out dX10_is_59
  · refine g_aload_n C 0 dX10_is_13 rfl rfl (n := 14) rfl ?_
    refine g_aload_n C 0 dX10_is_14 rfl rfl (n := 15) rfl ?_
    refine g_getI C kc_24 ft_24_12 (by decide) (by decide) (by decide) wm_909 dX10_is_15 (n := 18) rfl ?_
    refine g_cVIp C hk (fun K hk => L_X10_look Θ (h 24 12 0 0) h K hk) lk_X10_111 kc_24 (by decide) (by decide) ⟨rfl, rfl⟩ ⟨Nat.le_of_ble_eq_true rfl, Nat.le_of_ble_eq_true rfl⟩ dX10_is_18 rfl rfl (Nat.le_of_ble_eq_true rfl) (n := 21) rfl (fun r1 hk => ?_)
    refine g_iload_n C 2 dX10_is_21 rfl rfl (n := 22) rfl ?_
    refine g_ic_ne C 58 dX10_is_22 (by decide) (n := 25) rfl hk (fun hk => ?_) (fun hk => ?_)
    · refine g_iconst C (0 : Int32) dX10_is_58 (by decide) (n := 59) rfl ?_
      exact retB false rfl hk.out dX10_is_59
    · refine g_aload_n C 0 dX10_is_25 rfl rfl (n := 26) rfl ?_
      refine g_aload_n C 0 dX10_is_26 rfl rfl (n := 27) rfl ?_
      refine g_getI C kc_24 ft_24_12 (by decide) (by decide) (by decide) wm_909 dX10_is_27 (n := 30) rfl ?_
      refine g_iconst C (1 : Int32) dX10_is_30 (by decide) (n := 31) rfl ?_
      refine g_iadd C dX10_is_31 (n := 32) rfl ?_
      refine g_cVIp C hk (fun K hk => L_X10_look Θ ((h 24 12 0 0) + (1 : Int32)) h K hk) lk_X10_111 kc_24 (by decide) (by decide) ⟨rfl, rfl⟩ ⟨Nat.le_of_ble_eq_true rfl, Nat.le_of_ble_eq_true rfl⟩ dX10_is_32 rfl rfl (Nat.le_of_ble_eq_true rfl) (n := 35) rfl (fun r2 hk => ?_)
      refine g_iload_n C 3 dX10_is_35 rfl rfl (n := 36) rfl ?_
      refine g_ic_ne C 58 dX10_is_36 (by decide) (n := 39) rfl hk (fun hk => ?_) (fun hk => ?_)
      · refine g_iconst C (0 : Int32) dX10_is_58 (by decide) (n := 59) rfl ?_
        exact retB false rfl hk.out dX10_is_59
      · refine g_aload_n C 0 dX10_is_39 rfl rfl (n := 40) rfl ?_
        refine g_aload_n C 0 dX10_is_40 rfl rfl (n := 41) rfl ?_
        refine g_getI C kc_24 ft_24_12 (by decide) (by decide) (by decide) wm_909 dX10_is_41 (n := 44) rfl ?_
        refine g_iconst C (2 : Int32) dX10_is_44 (by decide) (n := 45) rfl ?_
        refine g_iadd C dX10_is_45 (n := 46) rfl ?_
        refine g_cVIp C hk (fun K hk => L_X10_look Θ ((h 24 12 0 0) + (2 : Int32)) h K hk) lk_X10_111 kc_24 (by decide) (by decide) ⟨rfl, rfl⟩ ⟨Nat.le_of_ble_eq_true rfl, Nat.le_of_ble_eq_true rfl⟩ dX10_is_46 rfl rfl (Nat.le_of_ble_eq_true rfl) (n := 49) rfl (fun r3 hk => ?_)
        refine g_iload C 4 dX10_is_49 rfl (n := 51) rfl ?_
        refine g_ic_ne C 58 dX10_is_51 (by decide) (n := 54) rfl hk (fun hk => ?_) (fun hk => ?_)
        · refine g_iconst C (0 : Int32) dX10_is_58 (by decide) (n := 59) rfl ?_
          exact retB false rfl hk.out dX10_is_59
        · refine g_iconst C (1 : Int32) dX10_is_54 (by decide) (n := 55) rfl ?_
          refine g_goto C 59 dX10_is_55 (by decide) ?_
          exact retB true rfl hk.out dX10_is_59
