def f_X10_orders (p1 : Int32) (h : Mem) : Option (Int32 × Mem) := obd (f_X10_in ((p1).toInt64) (0 : Int64) (1 : Int64) h) (fun r1 => obd ((if r1 = true then some (.inr ()) else obd (f_X10_in ((p1).toInt64) (10 : Int64) (13 : Int64) h) (fun r3 => (if r3 = true then some (.inr ()) else some (.inl ((-1 : Int32), h)))))) (Sum.elim (fun r => some r) (fun a4 => obd (lp fu (fun a11 => (if (4 : Int32) ≤ a11.1 then some (.inr a11.2) else gd (inb a11.1 4) (bnd (up a11.2 38 0 0 a11.1.toNatClampNeg a11.1) (fun h12 => bnd (a11.1 + (1 : Int32)) (fun x13 => some (.inl (x13, h12))))))) ((0 : Int32), h)) (fun e14 => obd (lp fu (fun a77 => (if a77.2.2.1 = true then obd (f_X10_starts a77.2.2.2) (fun h78 => obd (lp fu (fun a85 => (if (a85.2 24 3 0 0) ≤ a85.1 then some (.inr a85.2) else gd (inb a85.1 4) (gd (inb a85.1 4) (bnd (up a85.2 36 0 0 a85.1.toNatClampNeg (a85.2 38 0 0 a85.1.toNatClampNeg)) (fun h86 => bnd (a85.1 + (1 : Int32)) (fun x87 => some (.inl (x87, h86)))))))) ((0 : Int32), h78)) (fun e88 => ob2 (f_X10_sortedBehind e88) (fun r89 h90 => obd ((if r89 = (-4 : Int32) then some false else (if a77.2.1 = (-4 : Int32) then some true else (if a77.2.1 ≤ r89 then some false else some true)))) (fun a91 => obd (lp fu (fun a98 => (if (a98.2 24 3 0 0) ≤ a98.1 then some (.inr a98.2) else (if a91 = true then gd (inb a98.1 4) (gd (inb a98.1 4) (bnd (up a98.2 39 0 0 a98.1.toNatClampNeg (a98.2 38 0 0 a98.1.toNatClampNeg)) (fun h99 => bnd (a98.1 + (1 : Int32)) (fun x100 => some (.inl (x100, h99)))))) else some (.inr a98.2)))) ((0 : Int32), h90)) (fun e101 => obd ((if r89 = (-4 : Int32) then some false else some true)) (fun a102 => obd (f_X10_flag a102 e101) (fun r103 => bnd (a77.1 + r103) (fun x104 => obd ((if a91 = true then some r89 else some a77.2.1)) (fun a105 => ob2 (f_X10_nextOrder e101) (fun r106 h107 => some (.inl (x104, a105, r106, h107)))))))))))) else some (.inr (a77.1, a77.2.1, a77.2.2.2)))) ((0 : Int32), (-4 : Int32), true, e14)) (fun e108 => obd ((if p1 = 0 then some (.inr ()) else (if e108.1 = 0 then some (.inr ()) else (if p1 = (1 : Int32) then some (.inl (e108.2.1, e108.2.2)) else (if (e108.2.2 24 3 0 0) ≤ (p1 - (10 : Int32)) then some (.inl ((-4 : Int32), e108.2.2)) else gd (inb (p1 - (10 : Int32)) 4) (some (.inl ((e108.2.2 39 0 0 (p1 - (10 : Int32)).toNatClampNeg), e108.2.2)))))))) (Sum.elim (fun r => some r) (fun a109 => (if p1 = 0 then some (e108.1, e108.2.2) else some ((-4 : Int32), e108.2.2)))))))))
def rm_X10_orders : Room := { frames := 5, cells := 0, slots := 0, locals := 112 }
set_option maxHeartbeats 4000000 in
set_option maxRecDepth 100000 in
theorem L_X10_orders (Θ : Tht) (p1 : Int32) (h : Mem) (K : Int32 × Mem → Prop) (hk : Ok (f_X10_orders p1 h) K) : CI Θ yX10_orders cX10_orders 8 (some .int) rm_X10_orders [.ref (rr Θ 24 0 0), .int p1] h K := by
  refine CI.of K [(0, .ref (rr Θ 24 0 0)), (1, .int p1)] (plainFor_of_name (by decide)) (Nat.le_of_ble_eq_true rfl) rfl (fun Γ C Rt => ?_)
  replace hk := rtI Rt hk
  unfold f_X10_orders at hk
  refine g_iload_n C 1 dX10_orders_0 rfl rfl (n := 1) rfl ?_
  refine g_i2l C dX10_orders_1 (n := 2) rfl ?_
  refine g_lconst C (0 : Int64) dX10_orders_2 (by decide) (n := 3) rfl ?_
  refine g_lconst C (1 : Int64) dX10_orders_3 (by decide) (n := 4) rfl ?_
  refine g_cSBp C hk (fun K hk => L_X10_in Θ ((p1).toInt64) (0 : Int64) (1 : Int64) h K hk) lk_X10_95 ⟨rfl, rfl⟩ ⟨Nat.le_of_ble_eq_true rfl, Nat.le_of_ble_eq_true rfl⟩ dX10_orders_4 rfl rfl (Nat.le_of_ble_eq_true rfl) (n := 7) rfl (fun r1 hk => ?_)
  refine Ok.join hk (Sum.elim (PI Θ Γ cX10_orders) (fun a4 => G Θ Γ 26 [(0, .ref (rr Θ 24 0 0)), (1, .int p1)] [] h)) (fun e hk => ?_) (fun hk => ?_)
  · rcases e with r | a4
    · exact hk.out
    · replace hk := ok_inr hk
      refine g_iconst C (0 : Int32) dX10_orders_26 (by decide) (n := 27) rfl ?_
      refine g_istore_n C [(2, .int (0 : Int32)), (0, .ref (rr Θ 24 0 0)), (1, .int p1)] dX10_orders_27 rfl (by decide) rfl (n := 28) rfl ?_
      refine g_lv [1, 2, 0] [(0, .ref (rr Θ 24 0 0)), (1, .int p1), (2, .int (0 : Int32))] rfl ?_
      refine Ok.join hk (fun e14 => G Θ Γ 46 [(0, .ref (rr Θ 24 0 0)), (1, .int p1)] [] e14) (fun e14 hk => ?_) (fun hk => ?_)
      · refine g_iconst C (0 : Int32) dX10_orders_46 (by decide) (n := 47) rfl ?_
        refine g_istore_n C [(2, .int (0 : Int32)), (0, .ref (rr Θ 24 0 0)), (1, .int p1)] dX10_orders_47 rfl (by decide) rfl (n := 48) rfl ?_
        refine g_bipush C (-4 : Int32) dX10_orders_48 (by decide) (n := 50) rfl ?_
        refine g_istore_n C [(3, .int (-4 : Int32)), (2, .int (0 : Int32)), (0, .ref (rr Θ 24 0 0)), (1, .int p1)] dX10_orders_50 rfl (by decide) rfl (n := 51) rfl ?_
        refine g_iconst C (1 : Int32) dX10_orders_51 (by decide) (n := 52) rfl ?_
        refine g_istore C [(4, .int (1 : Int32)), (3, .int (-4 : Int32)), (2, .int (0 : Int32)), (0, .ref (rr Θ 24 0 0)), (1, .int p1)] dX10_orders_52 (by decide) rfl (n := 54) rfl ?_
        refine g_lv [3, 4, 2, 1, 0] [(0, .ref (rr Θ 24 0 0)), (1, .int p1), (2, .int (0 : Int32)), (3, .int (-4 : Int32)), (4, .int (1 : Int32))] rfl ?_
        refine Ok.join hk (fun e108 => G Θ Γ 203 [(0, .ref (rr Θ 24 0 0)), (1, .int p1), (2, .int e108.1), (3, .int e108.2.1)] [] e108.2.2) (fun e108 hk => ?_) (fun hk => ?_)
        · refine g_iload_n C 1 dX10_orders_203 rfl rfl (n := 204) rfl ?_
          refine Ok.join hk (Sum.elim (PI Θ Γ cX10_orders) (fun a109 => G Θ Γ 211 [(1, .int p1), (2, .int e108.1)] [] e108.2.2)) (fun e hk => ?_) (fun hk => ?_)
          · rcases e with r | a109
            · exact hk.out
            · replace hk := ok_inr hk
              refine g_iload_n C 0 dX10_orders_211 rfl rfl (n := 212) rfl ?_
              refine g_if_ne C 219 dX10_orders_212 (by decide) (n := 215) rfl hk (fun hk => ?_) (fun hk => ?_)
              · refine g_bipush C (-4 : Int32) dX10_orders_219 (by decide) (n := 221) rfl ?_
                exact retI hk.out dX10_orders_221
              · refine g_iload_n C 1 dX10_orders_215 rfl rfl (n := 216) rfl ?_
                refine g_goto C 221 dX10_orders_216 (by decide) ?_
                exact retI hk.out dX10_orders_221
          · refine g_if_eq C 211 dX10_orders_204 (by decide) (n := 207) rfl hk (fun hk => ?_) (fun hk => ?_)
            · refine g_lv [1, 2] [(1, .int p1), (2, .int e108.1)] rfl ?_
              exact hk.out
            · refine g_iload_n C 2 dX10_orders_207 rfl rfl (n := 208) rfl ?_
              refine g_if_ne C 222 dX10_orders_208 (by decide) (n := 211) rfl hk (fun hk => ?_) (fun hk => ?_)
              · refine g_iload_n C 1 dX10_orders_222 rfl rfl (n := 223) rfl ?_
                refine g_iconst C (1 : Int32) dX10_orders_223 (by decide) (n := 224) rfl ?_
                refine g_ic_ne C 231 dX10_orders_224 (by decide) (n := 227) rfl hk (fun hk => ?_) (fun hk => ?_)
                · refine g_iload_n C 1 dX10_orders_231 rfl rfl (n := 232) rfl ?_
                  refine g_bipush C (10 : Int32) dX10_orders_232 (by decide) (n := 234) rfl ?_
                  refine g_isub C dX10_orders_234 (n := 235) rfl ?_
                  refine g_aload_n C 0 dX10_orders_235 rfl rfl (n := 236) rfl ?_
                  refine g_getI C kc_24 ft_24_3 (by decide) (by decide) (by decide) wm_900 dX10_orders_236 (n := 239) rfl ?_
                  refine g_ic_ge C 254 dX10_orders_239 (by decide) (n := 242) rfl hk (fun hk => ?_) (fun hk => ?_)
                  · refine g_bipush C (-4 : Int32) dX10_orders_254 (by decide) (n := 256) rfl ?_
                    exact retI hk.out dX10_orders_256
                  · refine g_aload_n C 0 dX10_orders_242 rfl rfl (n := 243) rfl ?_
                    refine g_getR C kc_24 (rt_24_29 (tB Θ) 0) (by decide) (by decide) (by decide) wm_926 dX10_orders_243 (n := 246) rfl ?_
                    refine g_iload_n C 1 dX10_orders_246 rfl rfl (n := 247) rfl ?_
                    refine g_bipush C (10 : Int32) dX10_orders_247 (by decide) (n := 249) rfl ?_
                    refine g_isub C dX10_orders_249 (n := 250) rfl ?_
                    refine g_iald C an_39 (by decide) dX10_orders_250 (n := 251) rfl hk (fun _ hk => ?_)
                    refine g_goto C 256 dX10_orders_251 (by decide) ?_
                    exact retI hk.out dX10_orders_256
                · refine g_iload_n C 3 dX10_orders_227 rfl rfl (n := 228) rfl ?_
                  refine g_goto C 256 dX10_orders_228 (by decide) ?_
                  exact retI hk.out dX10_orders_256
              · refine g_lv [1, 2] [(1, .int p1), (2, .int e108.1)] rfl ?_
                exact hk.out
        · refine Ok.loop (fun a77 => G Θ Γ 54 [(0, .ref (rr Θ 24 0 0)), (1, .int p1), (2, .int a77.1), (3, .int a77.2.1), (4, .int (b2i a77.2.2.1))] [] a77.2.2.2) (fun a77 hk => ?_) _ _ hk
          refine g_iload C 4 dX10_orders_54 rfl (n := 56) rfl ?_
          refine g_bf C 203 dX10_orders_56 (by decide) (n := 59) rfl hk (fun hk => ?_) (fun hk => ?_)
          · refine g_lv [0, 1, 2, 3] [(0, .ref (rr Θ 24 0 0)), (1, .int p1), (2, .int a77.1), (3, .int a77.2.1)] rfl ?_
            exact hk.out
          · refine g_aload_n C 0 dX10_orders_59 rfl rfl (n := 60) rfl ?_
            refine g_cVV C hk (fun K hk => L_X10_starts Θ a77.2.2.2 K hk) lk_X10_222 kc_24 (by decide) (by decide) ⟨rfl, rfl⟩ ⟨Nat.le_of_ble_eq_true rfl, Nat.le_of_ble_eq_true rfl⟩ dX10_orders_60 rfl rfl (Nat.le_of_ble_eq_true rfl) (n := 63) rfl (fun h78 hk => ?_)
            refine g_iconst C (0 : Int32) dX10_orders_63 (by decide) (n := 64) rfl ?_
            refine g_istore C [(5, .int (0 : Int32)), (0, .ref (rr Θ 24 0 0)), (1, .int p1), (2, .int a77.1), (3, .int a77.2.1), (4, .int (b2i a77.2.2.1))] dX10_orders_64 (by decide) rfl (n := 66) rfl ?_
            refine g_lv [1, 2, 3, 4, 0] [(0, .ref (rr Θ 24 0 0)), (1, .int p1), (2, .int a77.1), (3, .int a77.2.1), (5, .int (0 : Int32))] rfl ?_
            refine Ok.join hk (fun e88 => G Θ Γ 95 [(0, .ref (rr Θ 24 0 0)), (1, .int p1), (2, .int a77.1), (3, .int a77.2.1)] [] e88) (fun e88 hk => ?_) (fun hk => ?_)
            · refine g_aload_n C 0 dX10_orders_95 rfl rfl (n := 96) rfl ?_
              refine g_cVI C hk (fun K hk => L_X10_sortedBehind Θ e88 K hk) lk_X10_240 kc_24 (by decide) (by decide) ⟨rfl, rfl⟩ ⟨Nat.le_of_ble_eq_true rfl, Nat.le_of_ble_eq_true rfl⟩ dX10_orders_96 rfl rfl (Nat.le_of_ble_eq_true rfl) (n := 99) rfl (fun r89 h90 hk => ?_)
              refine g_istore C [(5, .int r89), (0, .ref (rr Θ 24 0 0)), (1, .int p1), (2, .int a77.1), (3, .int a77.2.1)] dX10_orders_99 (by decide) rfl (n := 101) rfl ?_
              refine g_iload C 0 dX10_orders_101 rfl (n := 103) rfl ?_
              refine g_bipush C (-4 : Int32) dX10_orders_103 (by decide) (n := 105) rfl ?_
              refine Ok.join hk (fun a91 => G Θ Γ 125 [(0, .ref (rr Θ 24 0 0)), (1, .int p1), (2, .int a77.1), (3, .int a77.2.1), (5, .int r89)] [.int (b2i a91)] h90) (fun a91 hk => ?_) (fun hk => ?_)
              · refine g_istore C [(6, .int (b2i a91)), (0, .ref (rr Θ 24 0 0)), (1, .int p1), (2, .int a77.1), (3, .int a77.2.1), (5, .int r89)] dX10_orders_125 (by decide) rfl (n := 127) rfl ?_
                refine g_iconst C (0 : Int32) dX10_orders_127 (by decide) (n := 128) rfl ?_
                refine g_istore C [(7, .int (0 : Int32)), (6, .int (b2i a91)), (0, .ref (rr Θ 24 0 0)), (1, .int p1), (2, .int a77.1), (3, .int a77.2.1), (5, .int r89)] dX10_orders_128 (by decide) rfl (n := 130) rfl ?_
                refine g_lv [2, 3, 4, 5, 6, 1, 0] [(0, .ref (rr Θ 24 0 0)), (1, .int p1), (2, .int a77.1), (3, .int a77.2.1), (5, .int r89), (6, .int (b2i a91)), (7, .int (0 : Int32))] rfl ?_
                refine Ok.join hk (fun e101 => G Θ Γ 164 [(0, .ref (rr Θ 24 0 0)), (1, .int p1), (2, .int a77.1), (3, .int a77.2.1), (5, .int r89), (6, .int (b2i a91))] [] e101) (fun e101 hk => ?_) (fun hk => ?_)
                · refine g_iload_n C 2 dX10_orders_164 rfl rfl (n := 165) rfl ?_
                  refine g_iload C 4 dX10_orders_165 rfl (n := 167) rfl ?_
                  refine g_bipush C (-4 : Int32) dX10_orders_167 (by decide) (n := 169) rfl ?_
                  refine Ok.join hk (fun a102 => G Θ Γ 177 [(0, .ref (rr Θ 24 0 0)), (1, .int p1), (3, .int a77.2.1), (5, .int r89), (6, .int (b2i a91))] [.int (b2i a102), .int a77.1] e101) (fun a102 hk => ?_) (fun hk => ?_)
                  · refine g_cSIp C hk (fun K hk => L_X10_flag Θ a102 e101 K hk) lk_X10_158 ⟨rfl, rfl⟩ ⟨Nat.le_of_ble_eq_true rfl, Nat.le_of_ble_eq_true rfl⟩ dX10_orders_177 rfl rfl (Nat.le_of_ble_eq_true rfl) (n := 180) rfl (fun r103 hk => ?_)
                    refine g_iadd C dX10_orders_180 (n := 181) rfl ?_
                    refine g_nm hk (fun x104 hk => ?_)
                    refine g_istore_n C [(2, .int x104), (0, .ref (rr Θ 24 0 0)), (1, .int p1), (3, .int a77.2.1), (5, .int r89), (6, .int (b2i a91))] dX10_orders_181 rfl (by decide) rfl (n := 182) rfl ?_
                    refine g_iload C 5 dX10_orders_182 rfl (n := 184) rfl ?_
                    refine Ok.join hk (fun a105 => G Θ Γ 193 [(0, .ref (rr Θ 24 0 0)), (1, .int p1), (2, .int x104)] [.int a105] e101) (fun a105 hk => ?_) (fun hk => ?_)
                    · refine g_istore_n C [(3, .int a105), (0, .ref (rr Θ 24 0 0)), (1, .int p1), (2, .int x104)] dX10_orders_193 rfl (by decide) rfl (n := 194) rfl ?_
                      refine g_aload_n C 1 dX10_orders_194 rfl rfl (n := 195) rfl ?_
                      refine g_cVB C hk (fun K hk => L_X10_nextOrder Θ e101 K hk) lk_X10_247 kc_24 (by decide) (by decide) ⟨rfl, rfl⟩ ⟨Nat.le_of_ble_eq_true rfl, Nat.le_of_ble_eq_true rfl⟩ dX10_orders_195 rfl rfl (Nat.le_of_ble_eq_true rfl) (n := 198) rfl (fun r106 h107 hk => ?_)
                      refine g_istore C [(4, .int (b2i r106)), (3, .int a105), (0, .ref (rr Θ 24 0 0)), (1, .int p1), (2, .int x104)] dX10_orders_198 (by decide) rfl (n := 200) rfl ?_
                      refine g_goto C 54 dX10_orders_200 (by decide) ?_
                      refine g_lv [2, 3, 4, 1, 0] [(0, .ref (rr Θ 24 0 0)), (1, .int p1), (2, .int x104), (3, .int a105), (4, .int (b2i r106))] rfl ?_
                      exact hk.out
                    · refine g_bf C 192 dX10_orders_184 (by decide) (n := 187) rfl hk (fun hk => ?_) (fun hk => ?_)
                      · refine g_iload_n C 3 dX10_orders_192 rfl rfl (n := 193) rfl ?_
                        refine g_lv [1, 2, 0] [(0, .ref (rr Θ 24 0 0)), (1, .int p1), (2, .int x104)] rfl ?_
                        exact hk.out
                      · refine g_iload C 4 dX10_orders_187 rfl (n := 189) rfl ?_
                        refine g_goto C 193 dX10_orders_189 (by decide) ?_
                        refine g_lv [1, 2, 0] [(0, .ref (rr Θ 24 0 0)), (1, .int p1), (2, .int x104)] rfl ?_
                        exact hk.out
                  · refine g_ic_eq C 176 dX10_orders_169 (by decide) (n := 172) rfl hk (fun hk => ?_) (fun hk => ?_)
                    · refine g_iconst C (0 : Int32) dX10_orders_176 (by decide) (n := 177) rfl ?_
                      refine g_lv [0, 1, 3, 4, 5] [(0, .ref (rr Θ 24 0 0)), (1, .int p1), (3, .int a77.2.1), (5, .int r89), (6, .int (b2i a91))] rfl ?_
                      exact hk.out
                    · refine g_iconst C (1 : Int32) dX10_orders_172 (by decide) (n := 173) rfl ?_
                      refine g_goto C 177 dX10_orders_173 (by decide) ?_
                      refine g_lv [0, 1, 3, 4, 5] [(0, .ref (rr Θ 24 0 0)), (1, .int p1), (3, .int a77.2.1), (5, .int r89), (6, .int (b2i a91))] rfl ?_
                      exact hk.out
                · refine Ok.loop (fun a98 => G Θ Γ 130 [(0, .ref (rr Θ 24 0 0)), (1, .int p1), (2, .int a77.1), (3, .int a77.2.1), (5, .int r89), (6, .int (b2i a91)), (7, .int a98.1)] [] a98.2) (fun a98 hk => ?_) _ _ hk
                  refine g_iload C 6 dX10_orders_130 rfl (n := 132) rfl ?_
                  refine g_aload_n C 0 dX10_orders_132 rfl rfl (n := 133) rfl ?_
                  refine g_getI C kc_24 ft_24_3 (by decide) (by decide) (by decide) wm_900 dX10_orders_133 (n := 136) rfl ?_
                  refine g_ic_ge C 164 dX10_orders_136 (by decide) (n := 139) rfl hk (fun hk => ?_) (fun hk => ?_)
                  · refine g_lv [0, 1, 2, 3, 4, 5] [(0, .ref (rr Θ 24 0 0)), (1, .int p1), (2, .int a77.1), (3, .int a77.2.1), (5, .int r89), (6, .int (b2i a91))] rfl ?_
                    exact hk.out
                  · refine g_iload C 5 dX10_orders_139 rfl (n := 141) rfl ?_
                    refine g_bf C 164 dX10_orders_141 (by decide) (n := 144) rfl hk (fun hk => ?_) (fun hk => ?_)
                    · refine g_lv [0, 1, 2, 3, 4, 5] [(0, .ref (rr Θ 24 0 0)), (1, .int p1), (2, .int a77.1), (3, .int a77.2.1), (5, .int r89), (6, .int (b2i a91))] rfl ?_
                      exact hk.out
                    · refine g_aload_n C 0 dX10_orders_144 rfl rfl (n := 145) rfl ?_
                      refine g_getR C kc_24 (rt_24_29 (tB Θ) 0) (by decide) (by decide) (by decide) wm_926 dX10_orders_145 (n := 148) rfl ?_
                      refine g_iload C 6 dX10_orders_148 rfl (n := 150) rfl ?_
                      refine g_aload_n C 0 dX10_orders_150 rfl rfl (n := 151) rfl ?_
                      refine g_getR C kc_24 (rt_24_28 (tB Θ) 0) (by decide) (by decide) (by decide) wm_925 dX10_orders_151 (n := 154) rfl ?_
                      refine g_iload C 6 dX10_orders_154 rfl (n := 156) rfl ?_
                      refine g_iald C an_38 (by decide) dX10_orders_156 (n := 157) rfl hk (fun _ hk => ?_)
                      refine g_iast C an_39 (by decide) dX10_orders_157 (n := 158) rfl hk (fun _ h99 hk => ?_)
                      refine g_iinc C 6 (fun x100 => [(7, .int x100), (0, .ref (rr Θ 24 0 0)), (1, .int p1), (2, .int a77.1), (3, .int a77.2.1), (5, .int r89), (6, .int (b2i a91))]) dX10_orders_158 rfl (v := (a98.1 + (1 : Int32))) rfl (by decide) (fun _ => rfl) (n := 161) rfl hk (fun x100 hk => ?_)
                      refine g_goto C 130 dX10_orders_161 (by decide) ?_
                      refine g_lv [1, 2, 3, 4, 5, 6, 0] [(0, .ref (rr Θ 24 0 0)), (1, .int p1), (2, .int a77.1), (3, .int a77.2.1), (5, .int r89), (6, .int (b2i a91)), (7, .int x100)] rfl ?_
                      exact hk.out
              · refine g_ic_eq C 124 dX10_orders_105 (by decide) (n := 108) rfl hk (fun hk => ?_) (fun hk => ?_)
                · refine g_iconst C (0 : Int32) dX10_orders_124 (by decide) (n := 125) rfl ?_
                  refine g_lv [1, 2, 3, 4, 0] [(0, .ref (rr Θ 24 0 0)), (1, .int p1), (2, .int a77.1), (3, .int a77.2.1), (5, .int r89)] rfl ?_
                  exact hk.out
                · refine g_iload_n C 4 dX10_orders_108 rfl rfl (n := 109) rfl ?_
                  refine g_bipush C (-4 : Int32) dX10_orders_109 (by decide) (n := 111) rfl ?_
                  refine g_ic_eq C 120 dX10_orders_111 (by decide) (n := 114) rfl hk (fun hk => ?_) (fun hk => ?_)
                  · refine g_iconst C (1 : Int32) dX10_orders_120 (by decide) (n := 121) rfl ?_
                    refine g_goto C 125 dX10_orders_121 (by decide) ?_
                    refine g_lv [1, 2, 3, 4, 0] [(0, .ref (rr Θ 24 0 0)), (1, .int p1), (2, .int a77.1), (3, .int a77.2.1), (5, .int r89)] rfl ?_
                    exact hk.out
                  · refine g_iload C 0 dX10_orders_114 rfl (n := 116) rfl ?_
                    refine g_iload_n C 4 dX10_orders_116 rfl rfl (n := 117) rfl ?_
                    refine g_ic_ge C 124 dX10_orders_117 (by decide) (n := 120) rfl hk (fun hk => ?_) (fun hk => ?_)
                    · refine g_iconst C (0 : Int32) dX10_orders_124 (by decide) (n := 125) rfl ?_
                      refine g_lv [1, 2, 3, 4, 0] [(0, .ref (rr Θ 24 0 0)), (1, .int p1), (2, .int a77.1), (3, .int a77.2.1), (5, .int r89)] rfl ?_
                      exact hk.out
                    · refine g_iconst C (1 : Int32) dX10_orders_120 (by decide) (n := 121) rfl ?_
                      refine g_goto C 125 dX10_orders_121 (by decide) ?_
                      refine g_lv [1, 2, 3, 4, 0] [(0, .ref (rr Θ 24 0 0)), (1, .int p1), (2, .int a77.1), (3, .int a77.2.1), (5, .int r89)] rfl ?_
                      exact hk.out
            · refine Ok.loop (fun a85 => G Θ Γ 66 [(0, .ref (rr Θ 24 0 0)), (1, .int p1), (2, .int a77.1), (3, .int a77.2.1), (5, .int a85.1)] [] a85.2) (fun a85 hk => ?_) _ _ hk
              refine g_iload C 4 dX10_orders_66 rfl (n := 68) rfl ?_
              refine g_aload_n C 0 dX10_orders_68 rfl rfl (n := 69) rfl ?_
              refine g_getI C kc_24 ft_24_3 (by decide) (by decide) (by decide) wm_900 dX10_orders_69 (n := 72) rfl ?_
              refine g_ic_ge C 95 dX10_orders_72 (by decide) (n := 75) rfl hk (fun hk => ?_) (fun hk => ?_)
              · refine g_lv [0, 1, 2, 3] [(0, .ref (rr Θ 24 0 0)), (1, .int p1), (2, .int a77.1), (3, .int a77.2.1)] rfl ?_
                exact hk.out
              · refine g_aload_n C 0 dX10_orders_75 rfl rfl (n := 76) rfl ?_
                refine g_getR C kc_24 (rt_24_24 (tB Θ) 0) (by decide) (by decide) (by decide) wm_921 dX10_orders_76 (n := 79) rfl ?_
                refine g_iload C 4 dX10_orders_79 rfl (n := 81) rfl ?_
                refine g_aload_n C 0 dX10_orders_81 rfl rfl (n := 82) rfl ?_
                refine g_getR C kc_24 (rt_24_28 (tB Θ) 0) (by decide) (by decide) (by decide) wm_925 dX10_orders_82 (n := 85) rfl ?_
                refine g_iload C 4 dX10_orders_85 rfl (n := 87) rfl ?_
                refine g_iald C an_38 (by decide) dX10_orders_87 (n := 88) rfl hk (fun _ hk => ?_)
                refine g_iast C an_36 (by decide) dX10_orders_88 (n := 89) rfl hk (fun _ h86 hk => ?_)
                refine g_iinc C 4 (fun x87 => [(5, .int x87), (0, .ref (rr Θ 24 0 0)), (1, .int p1), (2, .int a77.1), (3, .int a77.2.1)]) dX10_orders_89 rfl (v := (a85.1 + (1 : Int32))) rfl (by decide) (fun _ => rfl) (n := 92) rfl hk (fun x87 hk => ?_)
                refine g_goto C 66 dX10_orders_92 (by decide) ?_
                refine g_lv [1, 2, 3, 4, 0] [(0, .ref (rr Θ 24 0 0)), (1, .int p1), (2, .int a77.1), (3, .int a77.2.1), (5, .int x87)] rfl ?_
                exact hk.out
      · refine Ok.loop (fun a11 => G Θ Γ 28 [(0, .ref (rr Θ 24 0 0)), (1, .int p1), (2, .int a11.1)] [] a11.2) (fun a11 hk => ?_) _ _ hk
        refine g_iload_n C 2 dX10_orders_28 rfl rfl (n := 29) rfl ?_
        refine g_iconst C (4 : Int32) dX10_orders_29 (by decide) (n := 30) rfl ?_
        refine g_ic_ge C 46 dX10_orders_30 (by decide) (n := 33) rfl hk (fun hk => ?_) (fun hk => ?_)
        · refine g_lv [0, 1] [(0, .ref (rr Θ 24 0 0)), (1, .int p1)] rfl ?_
          exact hk.out
        · refine g_aload_n C 0 dX10_orders_33 rfl rfl (n := 34) rfl ?_
          refine g_getR C kc_24 (rt_24_28 (tB Θ) 0) (by decide) (by decide) (by decide) wm_925 dX10_orders_34 (n := 37) rfl ?_
          refine g_iload_n C 2 dX10_orders_37 rfl rfl (n := 38) rfl ?_
          refine g_iload_n C 2 dX10_orders_38 rfl rfl (n := 39) rfl ?_
          refine g_iast C an_38 (by decide) dX10_orders_39 (n := 40) rfl hk (fun _ h12 hk => ?_)
          refine g_iinc C 2 (fun x13 => [(2, .int x13), (0, .ref (rr Θ 24 0 0)), (1, .int p1)]) dX10_orders_40 rfl (v := (a11.1 + (1 : Int32))) rfl (by decide) (fun _ => rfl) (n := 43) rfl hk (fun x13 hk => ?_)
          refine g_goto C 28 dX10_orders_43 (by decide) ?_
          refine g_lv [1, 2, 0] [(0, .ref (rr Θ 24 0 0)), (1, .int p1), (2, .int x13)] rfl ?_
          exact hk.out
  · refine g_bt C 26 dX10_orders_7 (by decide) (n := 10) rfl hk (fun hk => ?_) (fun hk => ?_)
    · exact hk.out
    · refine g_iload_n C 1 dX10_orders_10 rfl rfl (n := 11) rfl ?_
      refine g_i2l C dX10_orders_11 (n := 12) rfl ?_
      refine g_ldc2 C (10 : Int64) wm_1218 dX10_orders_12 (n := 15) rfl ?_
      refine g_ldc2 C (13 : Int64) wm_1219 dX10_orders_15 (n := 18) rfl ?_
      refine g_cSBp C hk (fun K hk => L_X10_in Θ ((p1).toInt64) (10 : Int64) (13 : Int64) h K hk) lk_X10_95 ⟨rfl, rfl⟩ ⟨Nat.le_of_ble_eq_true rfl, Nat.le_of_ble_eq_true rfl⟩ dX10_orders_18 rfl rfl (Nat.le_of_ble_eq_true rfl) (n := 21) rfl (fun r3 hk => ?_)
      refine g_bt C 26 dX10_orders_21 (by decide) (n := 24) rfl hk (fun hk => ?_) (fun hk => ?_)
      · exact hk.out
      · refine g_iconst C (-1 : Int32) dX10_orders_24 (by decide) (n := 25) rfl ?_
        exact retI hk.out dX10_orders_25
def f_X10_read (p1 : Int32) (p2 : Int32) (p3 : Int32) (p4 : Int32) (h : Mem) : Option (Int32 × Mem) := obd (f_X10_isSheet p1 p2 h) (fun r1 => (if r1 = true then obd (f_X10_in ((p4).toInt64) (0 : Int64) (13 : Int64) h) (fun r2 => (if r2 = true then bnd (h 25 0 0 8) (fun x3 => obd (lp fu (fun a64 => (if p4 ≤ a64.2.2.1 then some (.inr (.inr (a64.1, a64.2.1, a64.2.2.2))) else (if a64.1 = 0 then obd (lp fu (fun a79 => (if (2 : Int32) ≤ a79.2 then some (.inr a79.1) else (if a79.1 = 0 then bnd ((((p3).toInt64) + (((2 : Int32) * a64.2.2.1).toInt64)) + ((a79.2).toInt64)) (fun x80 => gd (inb p1 4) ((if (a64.2.2.2 40 0 0 p1.toNatClampNeg) = (-4 : Int32) then bnd (a79.2 + (1 : Int32)) (fun x85 => some (.inl ((1 : Int32), x85))) else gd (inb p1 4) ((if (a64.2.2.2 40 0 0 p1.toNatClampNeg) = p2 then (if (lg_cmp x80 (0 : Int64)) < 0 then bnd (a79.2 + (1 : Int32)) (fun x81 => some (.inl ((2 : Int32), x81))) else gd (inb p1 4) ((if (lg_cmp x80 ((a64.2.2.2 41 0 0 p1.toNatClampNeg).toInt64)) < 0 then bnd (a79.2 + (1 : Int32)) (fun x82 => some (.inl ((0 : Int32), x82))) else bnd (a79.2 + (1 : Int32)) (fun x83 => some (.inl ((2 : Int32), x83)))))) else bnd (a79.2 + (1 : Int32)) (fun x84 => some (.inl ((3 : Int32), x84)))))))) else some (.inr a79.1)))) (a64.1, (0 : Int32))) (fun e86 => (if e86 = 0 then bnd ((((40 : Int32) * p1) + p3) + ((2 : Int32) * a64.2.2.1)) (fun x88 => gd (inb x88 160) (gd (inb (x88 + (1 : Int32)) 160) (ob2 (f_X10_mint (a64.2.2.2 42 0 0 x88.toNatClampNeg) (a64.2.2.2 42 0 0 (x88 + (1 : Int32)).toNatClampNeg) a64.2.2.2) (fun r89 h90 => (if 0 ≤ r89 then bnd (a64.2.1 + (1 : Int32)) (fun x91 => bnd (a64.2.2.1 + (1 : Int32)) (fun x92 => some (.inl (e86, x91, x92, h90)))) else bnd (up h90 25 0 0 8 x3) (fun h93 => some (.inr (.inl (((-20 : Int32) - a64.2.2.1), h93))))))))) else bnd (a64.2.2.1 + (1 : Int32)) (fun x87 => some (.inl (e86, a64.2.1, x87, a64.2.2.2))))) else some (.inr (.inr (a64.1, a64.2.1, a64.2.2.2)))))) ((0 : Int32), (0 : Int32), (0 : Int32), h)) (Sum.elim (fun r => some r) (fun e94 => bnd (up e94.2.2 24 33 0 0 e94.1) (fun h95 => some (e94.2.1, h95))))) else some ((-1 : Int32), h))) else some ((-1 : Int32), h)))
def rm_X10_read : Room := { frames := 3, cells := 0, slots := 0, locals := 69 }
set_option maxHeartbeats 4000000 in
set_option maxRecDepth 100000 in
theorem L_X10_read (Θ : Tht) (p1 : Int32) (p2 : Int32) (p3 : Int32) (p4 : Int32) (h : Mem) (K : Int32 × Mem → Prop) (hk : Ok (f_X10_read p1 p2 p3 p4 h) K) : CI Θ yX10_read cX10_read 12 (some .int) rm_X10_read [.ref (rr Θ 24 0 0), .int p1, .int p2, .int p3, .int p4] h K := by
  refine CI.of K [(0, .ref (rr Θ 24 0 0)), (1, .int p1), (2, .int p2), (3, .int p3), (4, .int p4)] (plainFor_of_name (by decide)) (Nat.le_of_ble_eq_true rfl) rfl (fun Γ C Rt => ?_)
  replace hk := rtI Rt hk
  unfold f_X10_read at hk
  refine g_iload_n C 1 dX10_read_0 rfl rfl (n := 1) rfl ?_
  refine g_iload_n C 2 dX10_read_1 rfl rfl (n := 2) rfl ?_
  refine g_cSBp C hk (fun K hk => L_X10_isSheet Θ p1 p2 h K hk) lk_X10_272 ⟨rfl, rfl⟩ ⟨Nat.le_of_ble_eq_true rfl, Nat.le_of_ble_eq_true rfl⟩ dX10_read_2 rfl rfl (Nat.le_of_ble_eq_true rfl) (n := 5) rfl (fun r1 hk => ?_)
  refine g_bf C 21 dX10_read_5 (by decide) (n := 8) rfl hk (fun hk => ?_) (fun hk => ?_)
  · refine g_iconst C (-1 : Int32) dX10_read_21 (by decide) (n := 22) rfl ?_
    exact retI hk.out dX10_read_22
  · refine g_iload C 4 dX10_read_8 rfl (n := 10) rfl ?_
    refine g_i2l C dX10_read_10 (n := 11) rfl ?_
    refine g_lconst C (0 : Int64) dX10_read_11 (by decide) (n := 12) rfl ?_
    refine g_ldc2 C (13 : Int64) wm_1219 dX10_read_12 (n := 15) rfl ?_
    refine g_cSBp C hk (fun K hk => L_X10_in Θ ((p4).toInt64) (0 : Int64) (13 : Int64) h K hk) lk_X10_95 ⟨rfl, rfl⟩ ⟨Nat.le_of_ble_eq_true rfl, Nat.le_of_ble_eq_true rfl⟩ dX10_read_15 rfl rfl (Nat.le_of_ble_eq_true rfl) (n := 18) rfl (fun r2 hk => ?_)
    refine g_bt C 23 dX10_read_18 (by decide) (n := 21) rfl hk (fun hk => ?_) (fun hk => ?_)
    · refine g_aload_n C 0 dX10_read_23 rfl rfl (n := 24) rfl ?_
      refine g_getR C kc_24 (rt_24_0 (tB Θ) 0) (by decide) (by decide) (by decide) wm_897 dX10_read_24 (n := 27) rfl ?_
      refine g_bipush C (8 : Int32) dX10_read_27 (by decide) (n := 29) rfl ?_
      refine g_ialdL C 8 an_25 (by decide) (by decide) (by decide) dX10_read_29 (n := 30) rfl ?_
      refine g_nm hk (fun x3 hk => ?_)
      refine g_istore C [(5, .int x3), (0, .ref (rr Θ 24 0 0)), (1, .int p1), (2, .int p2), (3, .int p3), (4, .int p4)] dX10_read_30 (by decide) rfl (n := 32) rfl ?_
      refine g_iconst C (0 : Int32) dX10_read_32 (by decide) (n := 33) rfl ?_
      refine g_istore C [(6, .int (0 : Int32)), (5, .int x3), (0, .ref (rr Θ 24 0 0)), (1, .int p1), (2, .int p2), (3, .int p3), (4, .int p4)] dX10_read_33 (by decide) rfl (n := 35) rfl ?_
      refine g_iconst C (0 : Int32) dX10_read_35 (by decide) (n := 36) rfl ?_
      refine g_istore C [(7, .int (0 : Int32)), (6, .int (0 : Int32)), (5, .int x3), (0, .ref (rr Θ 24 0 0)), (1, .int p1), (2, .int p2), (3, .int p3), (4, .int p4)] dX10_read_36 (by decide) rfl (n := 38) rfl ?_
      refine g_iconst C (0 : Int32) dX10_read_38 (by decide) (n := 39) rfl ?_
      refine g_istore C [(8, .int (0 : Int32)), (7, .int (0 : Int32)), (6, .int (0 : Int32)), (5, .int x3), (0, .ref (rr Θ 24 0 0)), (1, .int p1), (2, .int p2), (3, .int p3), (4, .int p4)] dX10_read_39 (by decide) rfl (n := 41) rfl ?_
      refine g_lv [4, 5, 6, 7, 8, 3, 2, 1, 0] [(0, .ref (rr Θ 24 0 0)), (1, .int p1), (2, .int p2), (3, .int p3), (4, .int p4), (5, .int x3), (6, .int (0 : Int32)), (7, .int (0 : Int32)), (8, .int (0 : Int32))] rfl ?_
      refine Ok.join hk (Sum.elim (PI Θ Γ cX10_read) (fun e94 => G Θ Γ 208 [(0, .ref (rr Θ 24 0 0)), (6, .int e94.1), (7, .int e94.2.1)] [] e94.2.2)) (fun e hk => ?_) (fun hk => ?_)
      · rcases e with r | e94
        · exact hk.out
        · replace hk := ok_inr hk
          refine g_aload_n C 0 dX10_read_208 rfl rfl (n := 209) rfl ?_
          refine g_iload C 1 dX10_read_209 rfl (n := 211) rfl ?_
          refine g_putI C kc_24 ft_24_33 (by decide) (by decide) (by decide) rfl (fitI _) wm_930 dX10_read_211 (n := 214) rfl hk (fun h95 hk => ?_)
          refine g_iload C 2 dX10_read_214 rfl (n := 216) rfl ?_
          exact retI hk.out dX10_read_216
      · refine Ok.loop (fun a64 => G Θ Γ 41 [(0, .ref (rr Θ 24 0 0)), (1, .int p1), (2, .int p2), (3, .int p3), (4, .int p4), (5, .int x3), (6, .int a64.1), (7, .int a64.2.1), (8, .int a64.2.2.1)] [] a64.2.2.2) (fun a64 hk => ?_) _ _ hk
        refine g_iload C 8 dX10_read_41 rfl (n := 43) rfl ?_
        refine g_iload C 4 dX10_read_43 rfl (n := 45) rfl ?_
        refine g_ic_ge C 208 dX10_read_45 (by decide) (n := 48) rfl hk (fun hk => ?_) (fun hk => ?_)
        · refine g_lv [0, 6, 7] [(0, .ref (rr Θ 24 0 0)), (6, .int a64.1), (7, .int a64.2.1)] rfl ?_
          exact hk.out
        · refine g_iload C 6 dX10_read_48 rfl (n := 50) rfl ?_
          refine g_if_ne C 208 dX10_read_50 (by decide) (n := 53) rfl hk (fun hk => ?_) (fun hk => ?_)
          · refine g_lv [0, 6, 7] [(0, .ref (rr Θ 24 0 0)), (6, .int a64.1), (7, .int a64.2.1)] rfl ?_
            exact hk.out
          · refine g_iconst C (0 : Int32) dX10_read_53 (by decide) (n := 54) rfl ?_
            refine g_istore C [(9, .int (0 : Int32)), (0, .ref (rr Θ 24 0 0)), (1, .int p1), (2, .int p2), (3, .int p3), (4, .int p4), (5, .int x3), (6, .int a64.1), (7, .int a64.2.1), (8, .int a64.2.2.1)] dX10_read_54 (by decide) rfl (n := 56) rfl ?_
            refine g_lv [1, 2, 3, 4, 5, 6, 7, 8, 9, 0] [(0, .ref (rr Θ 24 0 0)), (1, .int p1), (2, .int p2), (3, .int p3), (4, .int p4), (5, .int x3), (6, .int a64.1), (7, .int a64.2.1), (8, .int a64.2.2.1), (9, .int (0 : Int32))] rfl ?_
            refine Ok.join hk (fun e86 => G Θ Γ 143 [(0, .ref (rr Θ 24 0 0)), (1, .int p1), (2, .int p2), (3, .int p3), (4, .int p4), (5, .int x3), (6, .int e86), (7, .int a64.2.1), (8, .int a64.2.2.1)] [] a64.2.2.2) (fun e86 hk => ?_) (fun hk => ?_)
            · refine g_iload C 6 dX10_read_143 rfl (n := 145) rfl ?_
              refine g_if_ne C 202 dX10_read_145 (by decide) (n := 148) rfl hk (fun hk => ?_) (fun hk => ?_)
              · refine g_iinc C 8 (fun x87 => [(8, .int x87), (0, .ref (rr Θ 24 0 0)), (1, .int p1), (2, .int p2), (3, .int p3), (4, .int p4), (5, .int x3), (6, .int e86), (7, .int a64.2.1)]) dX10_read_202 rfl (v := (a64.2.2.1 + (1 : Int32))) rfl (by decide) (fun _ => rfl) (n := 205) rfl hk (fun x87 hk => ?_)
                refine g_goto C 41 dX10_read_205 (by decide) ?_
                refine g_lv [1, 2, 3, 4, 5, 6, 7, 8, 0] [(0, .ref (rr Θ 24 0 0)), (1, .int p1), (2, .int p2), (3, .int p3), (4, .int p4), (5, .int x3), (6, .int e86), (7, .int a64.2.1), (8, .int x87)] rfl ?_
                exact hk.out
              · refine g_bipush C (40 : Int32) dX10_read_148 (by decide) (n := 150) rfl ?_
                refine g_iload_n C 1 dX10_read_150 rfl rfl (n := 151) rfl ?_
                refine g_imul C dX10_read_151 (n := 152) rfl ?_
                refine g_iload_n C 3 dX10_read_152 rfl rfl (n := 153) rfl ?_
                refine g_iadd C dX10_read_153 (n := 154) rfl ?_
                refine g_iconst C (2 : Int32) dX10_read_154 (by decide) (n := 155) rfl ?_
                refine g_iload C 8 dX10_read_155 rfl (n := 157) rfl ?_
                refine g_imul C dX10_read_157 (n := 158) rfl ?_
                refine g_iadd C dX10_read_158 (n := 159) rfl ?_
                refine g_nm hk (fun x88 hk => ?_)
                refine g_istore C [(9, .int x88), (0, .ref (rr Θ 24 0 0)), (1, .int p1), (2, .int p2), (3, .int p3), (4, .int p4), (5, .int x3), (6, .int e86), (7, .int a64.2.1), (8, .int a64.2.2.1)] dX10_read_159 (by decide) rfl (n := 161) rfl ?_
                refine g_aload_n C 1 dX10_read_161 rfl rfl (n := 162) rfl ?_
                refine g_aload_n C 1 dX10_read_162 rfl rfl (n := 163) rfl ?_
                refine g_getR C kc_24 (rt_24_32 (tB Θ) 0) (by decide) (by decide) (by decide) wm_929 dX10_read_163 (n := 166) rfl ?_
                refine g_iload C 0 dX10_read_166 rfl (n := 168) rfl ?_
                refine g_iald C an_42 (by decide) dX10_read_168 (n := 169) rfl hk (fun _ hk => ?_)
                refine g_aload_n C 1 dX10_read_169 rfl rfl (n := 170) rfl ?_
                refine g_getR C kc_24 (rt_24_32 (tB Θ) 0) (by decide) (by decide) (by decide) wm_929 dX10_read_170 (n := 173) rfl ?_
                refine g_iload C 0 dX10_read_173 rfl (n := 175) rfl ?_
                refine g_iconst C (1 : Int32) dX10_read_175 (by decide) (n := 176) rfl ?_
                refine g_iadd C dX10_read_176 (n := 177) rfl ?_
                refine g_iald C an_42 (by decide) dX10_read_177 (n := 178) rfl hk (fun _ hk => ?_)
                refine g_cVI C hk (fun K hk => L_X10_mint Θ (a64.2.2.2 42 0 0 x88.toNatClampNeg) (a64.2.2.2 42 0 0 (x88 + (1 : Int32)).toNatClampNeg) a64.2.2.2 K hk) lk_X10_275 kc_24 (by decide) (by decide) ⟨rfl, rfl⟩ ⟨Nat.le_of_ble_eq_true rfl, Nat.le_of_ble_eq_true rfl⟩ dX10_read_178 rfl rfl (Nat.le_of_ble_eq_true rfl) (n := 181) rfl (fun r89 h90 hk => ?_)
                refine g_if_ge C 199 dX10_read_181 (by decide) (n := 184) rfl hk (fun hk => ?_) (fun hk => ?_)
                · refine g_iinc C 8 (fun x91 => [(7, .int x91), (9, .int x88), (0, .ref (rr Θ 24 0 0)), (1, .int p1), (2, .int p2), (3, .int p3), (4, .int p4), (5, .int x3), (6, .int e86), (8, .int a64.2.2.1)]) dX10_read_199 rfl (v := (a64.2.1 + (1 : Int32))) rfl (by decide) (fun _ => rfl) (n := 202) rfl hk (fun x91 hk => ?_)
                  refine g_iinc C 9 (fun x92 => [(8, .int x92), (7, .int x91), (9, .int x88), (0, .ref (rr Θ 24 0 0)), (1, .int p1), (2, .int p2), (3, .int p3), (4, .int p4), (5, .int x3), (6, .int e86)]) dX10_read_202 rfl (v := (a64.2.2.1 + (1 : Int32))) rfl (by decide) (fun _ => rfl) (n := 205) rfl hk (fun x92 hk => ?_)
                  refine g_goto C 41 dX10_read_205 (by decide) ?_
                  refine g_lv [3, 4, 5, 6, 7, 8, 9, 1, 0] [(0, .ref (rr Θ 24 0 0)), (1, .int p1), (2, .int p2), (3, .int p3), (4, .int p4), (5, .int x3), (6, .int e86), (7, .int x91), (8, .int x92)] rfl ?_
                  exact hk.out
                · refine g_aload_n C 1 dX10_read_184 rfl rfl (n := 185) rfl ?_
                  refine g_getR C kc_24 (rt_24_0 (tB Θ) 0) (by decide) (by decide) (by decide) wm_897 dX10_read_185 (n := 188) rfl ?_
                  refine g_bipush C (8 : Int32) dX10_read_188 (by decide) (n := 190) rfl ?_
                  refine g_iload C 6 dX10_read_190 rfl (n := 192) rfl ?_
                  refine g_iastL C 8 an_25 (by decide) (by decide) (by decide) dX10_read_192 (n := 193) rfl hk (fun h93 hk => ?_)
                  refine g_bipush C (-20 : Int32) dX10_read_193 (by decide) (n := 195) rfl ?_
                  refine g_iload C 9 dX10_read_195 rfl (n := 197) rfl ?_
                  refine g_isub C dX10_read_197 (n := 198) rfl ?_
                  exact retI hk.out dX10_read_198
            · refine Ok.loop (fun a79 => G Θ Γ 56 [(0, .ref (rr Θ 24 0 0)), (1, .int p1), (2, .int p2), (3, .int p3), (4, .int p4), (5, .int x3), (6, .int a79.1), (7, .int a64.2.1), (8, .int a64.2.2.1), (9, .int a79.2)] [] a64.2.2.2) (fun a79 hk => ?_) _ _ hk
              refine g_iload C 9 dX10_read_56 rfl (n := 58) rfl ?_
              refine g_iconst C (2 : Int32) dX10_read_58 (by decide) (n := 59) rfl ?_
              refine g_ic_ge C 143 dX10_read_59 (by decide) (n := 62) rfl hk (fun hk => ?_) (fun hk => ?_)
              · refine g_lv [0, 1, 2, 3, 4, 5, 6, 7, 8] [(0, .ref (rr Θ 24 0 0)), (1, .int p1), (2, .int p2), (3, .int p3), (4, .int p4), (5, .int x3), (6, .int a79.1), (7, .int a64.2.1), (8, .int a64.2.2.1)] rfl ?_
                exact hk.out
              · refine g_iload C 6 dX10_read_62 rfl (n := 64) rfl ?_
                refine g_if_ne C 143 dX10_read_64 (by decide) (n := 67) rfl hk (fun hk => ?_) (fun hk => ?_)
                · refine g_lv [0, 1, 2, 3, 4, 5, 6, 7, 8] [(0, .ref (rr Θ 24 0 0)), (1, .int p1), (2, .int p2), (3, .int p3), (4, .int p4), (5, .int x3), (6, .int a79.1), (7, .int a64.2.1), (8, .int a64.2.2.1)] rfl ?_
                  exact hk.out
                · refine g_iload_n C 3 dX10_read_67 rfl rfl (n := 68) rfl ?_
                  refine g_i2l C dX10_read_68 (n := 69) rfl ?_
                  refine g_iconst C (2 : Int32) dX10_read_69 (by decide) (n := 70) rfl ?_
                  refine g_iload C 8 dX10_read_70 rfl (n := 72) rfl ?_
                  refine g_imul C dX10_read_72 (n := 73) rfl ?_
                  refine g_i2l C dX10_read_73 (n := 74) rfl ?_
                  refine g_ladd C dX10_read_74 (n := 75) rfl ?_
                  refine g_iload C 9 dX10_read_75 rfl (n := 77) rfl ?_
                  refine g_i2l C dX10_read_77 (n := 78) rfl ?_
                  refine g_ladd C dX10_read_78 (n := 79) rfl ?_
                  refine g_nml hk (fun x80 hk => ?_)
                  refine g_lstore C [(10, .long x80), (0, .ref (rr Θ 24 0 0)), (1, .int p1), (2, .int p2), (3, .int p3), (4, .int p4), (5, .int x3), (6, .int a79.1), (7, .int a64.2.1), (8, .int a64.2.2.1), (9, .int a79.2)] dX10_read_79 (by decide) rfl (n := 81) rfl ?_
                  refine g_aload_n C 1 dX10_read_81 rfl rfl (n := 82) rfl ?_
                  refine g_getR C kc_24 (rt_24_30 (tB Θ) 0) (by decide) (by decide) (by decide) wm_927 dX10_read_82 (n := 85) rfl ?_
                  refine g_iload_n C 2 dX10_read_85 rfl rfl (n := 86) rfl ?_
                  refine g_iald C an_40 (by decide) dX10_read_86 (n := 87) rfl hk (fun _ hk => ?_)
                  refine g_bipush C (-4 : Int32) dX10_read_87 (by decide) (n := 89) rfl ?_
                  refine g_ic_ne C 96 dX10_read_89 (by decide) (n := 92) rfl hk (fun hk => ?_) (fun hk => ?_)
                  · refine g_aload_n C 1 dX10_read_96 rfl rfl (n := 97) rfl ?_
                    refine g_getR C kc_24 (rt_24_30 (tB Θ) 0) (by decide) (by decide) (by decide) wm_927 dX10_read_97 (n := 100) rfl ?_
                    refine g_iload_n C 2 dX10_read_100 rfl rfl (n := 101) rfl ?_
                    refine g_iald C an_40 (by decide) dX10_read_101 (n := 102) rfl hk (fun _ hk => ?_)
                    refine g_iload_n C 3 dX10_read_102 rfl rfl (n := 103) rfl ?_
                    refine g_ic_eq C 110 dX10_read_103 (by decide) (n := 106) rfl hk (fun hk => ?_) (fun hk => ?_)
                    · refine g_lload C 0 dX10_read_110 rfl (n := 112) rfl ?_
                      refine g_lconst C (0 : Int64) dX10_read_112 (by decide) (n := 113) rfl ?_
                      refine g_lcmp C dX10_read_113 (n := 114) rfl ?_
                      refine g_if_lt C 130 dX10_read_114 (by decide) (n := 117) rfl hk (fun hk => ?_) (fun hk => ?_)
                      · refine g_iconst C (2 : Int32) dX10_read_130 (by decide) (n := 131) rfl ?_
                        refine g_goto C 135 dX10_read_131 (by decide) ?_
                        refine g_istore C [(6, .int (2 : Int32)), (10, .long x80), (0, .ref (rr Θ 24 0 0)), (1, .int p1), (2, .int p2), (3, .int p3), (4, .int p4), (5, .int x3), (7, .int a64.2.1), (8, .int a64.2.2.1), (9, .int a79.2)] dX10_read_135 (by decide) rfl (n := 137) rfl ?_
                        refine g_iinc C 10 (fun x81 => [(9, .int x81), (6, .int (2 : Int32)), (10, .long x80), (0, .ref (rr Θ 24 0 0)), (1, .int p1), (2, .int p2), (3, .int p3), (4, .int p4), (5, .int x3), (7, .int a64.2.1), (8, .int a64.2.2.1)]) dX10_read_137 rfl (v := (a79.2 + (1 : Int32))) rfl (by decide) (fun _ => rfl) (n := 140) rfl hk (fun x81 hk => ?_)
                        refine g_goto C 56 dX10_read_140 (by decide) ?_
                        refine g_lv [3, 4, 5, 6, 7, 8, 1, 9, 10, 0] [(0, .ref (rr Θ 24 0 0)), (1, .int p1), (2, .int p2), (3, .int p3), (4, .int p4), (5, .int x3), (6, .int (2 : Int32)), (7, .int a64.2.1), (8, .int a64.2.2.1), (9, .int x81)] rfl ?_
                        exact hk.out
                      · refine g_lload C 0 dX10_read_117 rfl (n := 119) rfl ?_
                        refine g_aload_n C 1 dX10_read_119 rfl rfl (n := 120) rfl ?_
                        refine g_getR C kc_24 (rt_24_31 (tB Θ) 0) (by decide) (by decide) (by decide) wm_928 dX10_read_120 (n := 123) rfl ?_
                        refine g_iload_n C 2 dX10_read_123 rfl rfl (n := 124) rfl ?_
                        refine g_iald C an_41 (by decide) dX10_read_124 (n := 125) rfl hk (fun _ hk => ?_)
                        refine g_i2l C dX10_read_125 (n := 126) rfl ?_
                        refine g_lcmp C dX10_read_126 (n := 127) rfl ?_
                        refine g_if_lt C 134 dX10_read_127 (by decide) (n := 130) rfl hk (fun hk => ?_) (fun hk => ?_)
                        · refine g_iconst C (0 : Int32) dX10_read_134 (by decide) (n := 135) rfl ?_
                          refine g_istore C [(6, .int (0 : Int32)), (10, .long x80), (0, .ref (rr Θ 24 0 0)), (1, .int p1), (2, .int p2), (3, .int p3), (4, .int p4), (5, .int x3), (7, .int a64.2.1), (8, .int a64.2.2.1), (9, .int a79.2)] dX10_read_135 (by decide) rfl (n := 137) rfl ?_
                          refine g_iinc C 10 (fun x82 => [(9, .int x82), (6, .int (0 : Int32)), (10, .long x80), (0, .ref (rr Θ 24 0 0)), (1, .int p1), (2, .int p2), (3, .int p3), (4, .int p4), (5, .int x3), (7, .int a64.2.1), (8, .int a64.2.2.1)]) dX10_read_137 rfl (v := (a79.2 + (1 : Int32))) rfl (by decide) (fun _ => rfl) (n := 140) rfl hk (fun x82 hk => ?_)
                          refine g_goto C 56 dX10_read_140 (by decide) ?_
                          refine g_lv [3, 4, 5, 6, 7, 8, 1, 9, 10, 0] [(0, .ref (rr Θ 24 0 0)), (1, .int p1), (2, .int p2), (3, .int p3), (4, .int p4), (5, .int x3), (6, .int (0 : Int32)), (7, .int a64.2.1), (8, .int a64.2.2.1), (9, .int x82)] rfl ?_
                          exact hk.out
                        · refine g_iconst C (2 : Int32) dX10_read_130 (by decide) (n := 131) rfl ?_
                          refine g_goto C 135 dX10_read_131 (by decide) ?_
                          refine g_istore C [(6, .int (2 : Int32)), (10, .long x80), (0, .ref (rr Θ 24 0 0)), (1, .int p1), (2, .int p2), (3, .int p3), (4, .int p4), (5, .int x3), (7, .int a64.2.1), (8, .int a64.2.2.1), (9, .int a79.2)] dX10_read_135 (by decide) rfl (n := 137) rfl ?_
                          refine g_iinc C 10 (fun x83 => [(9, .int x83), (6, .int (2 : Int32)), (10, .long x80), (0, .ref (rr Θ 24 0 0)), (1, .int p1), (2, .int p2), (3, .int p3), (4, .int p4), (5, .int x3), (7, .int a64.2.1), (8, .int a64.2.2.1)]) dX10_read_137 rfl (v := (a79.2 + (1 : Int32))) rfl (by decide) (fun _ => rfl) (n := 140) rfl hk (fun x83 hk => ?_)
                          refine g_goto C 56 dX10_read_140 (by decide) ?_
                          refine g_lv [3, 4, 5, 6, 7, 8, 1, 9, 10, 0] [(0, .ref (rr Θ 24 0 0)), (1, .int p1), (2, .int p2), (3, .int p3), (4, .int p4), (5, .int x3), (6, .int (2 : Int32)), (7, .int a64.2.1), (8, .int a64.2.2.1), (9, .int x83)] rfl ?_
                          exact hk.out
                    · refine g_iconst C (3 : Int32) dX10_read_106 (by decide) (n := 107) rfl ?_
                      refine g_goto C 135 dX10_read_107 (by decide) ?_
                      refine g_istore C [(6, .int (3 : Int32)), (10, .long x80), (0, .ref (rr Θ 24 0 0)), (1, .int p1), (2, .int p2), (3, .int p3), (4, .int p4), (5, .int x3), (7, .int a64.2.1), (8, .int a64.2.2.1), (9, .int a79.2)] dX10_read_135 (by decide) rfl (n := 137) rfl ?_
                      refine g_iinc C 10 (fun x84 => [(9, .int x84), (6, .int (3 : Int32)), (10, .long x80), (0, .ref (rr Θ 24 0 0)), (1, .int p1), (2, .int p2), (3, .int p3), (4, .int p4), (5, .int x3), (7, .int a64.2.1), (8, .int a64.2.2.1)]) dX10_read_137 rfl (v := (a79.2 + (1 : Int32))) rfl (by decide) (fun _ => rfl) (n := 140) rfl hk (fun x84 hk => ?_)
                      refine g_goto C 56 dX10_read_140 (by decide) ?_
                      refine g_lv [3, 4, 5, 6, 7, 8, 1, 9, 10, 0] [(0, .ref (rr Θ 24 0 0)), (1, .int p1), (2, .int p2), (3, .int p3), (4, .int p4), (5, .int x3), (6, .int (3 : Int32)), (7, .int a64.2.1), (8, .int a64.2.2.1), (9, .int x84)] rfl ?_
                      exact hk.out
                  · refine g_iconst C (1 : Int32) dX10_read_92 (by decide) (n := 93) rfl ?_
                    refine g_goto C 135 dX10_read_93 (by decide) ?_
                    refine g_istore C [(6, .int (1 : Int32)), (10, .long x80), (0, .ref (rr Θ 24 0 0)), (1, .int p1), (2, .int p2), (3, .int p3), (4, .int p4), (5, .int x3), (7, .int a64.2.1), (8, .int a64.2.2.1), (9, .int a79.2)] dX10_read_135 (by decide) rfl (n := 137) rfl ?_
                    refine g_iinc C 10 (fun x85 => [(9, .int x85), (6, .int (1 : Int32)), (10, .long x80), (0, .ref (rr Θ 24 0 0)), (1, .int p1), (2, .int p2), (3, .int p3), (4, .int p4), (5, .int x3), (7, .int a64.2.1), (8, .int a64.2.2.1)]) dX10_read_137 rfl (v := (a79.2 + (1 : Int32))) rfl (by decide) (fun _ => rfl) (n := 140) rfl hk (fun x85 hk => ?_)
                    refine g_goto C 56 dX10_read_140 (by decide) ?_
                    refine g_lv [3, 4, 5, 6, 7, 8, 1, 9, 10, 0] [(0, .ref (rr Θ 24 0 0)), (1, .int p1), (2, .int p2), (3, .int p3), (4, .int p4), (5, .int x3), (6, .int (1 : Int32)), (7, .int a64.2.1), (8, .int a64.2.2.1), (9, .int x85)] rfl ?_
                    exact hk.out
    · refine g_iconst C (-1 : Int32) dX10_read_21 (by decide) (n := 22) rfl ?_
      exact retI hk.out dX10_read_22
def f_X10_readNumber (p1 : Int32) (p2 : Int32) (h : Mem) : Option (Int32 × Mem) := ob2 (f_X10_looked p1 p2 h) (fun r1 h2 => obd (f_X10_next h2) (fun h3 => some (r1, h3)))
def rm_X10_readNumber : Room := { frames := 2, cells := 0, slots := 0, locals := 47 }
set_option maxHeartbeats 4000000 in
set_option maxRecDepth 100000 in
theorem L_X10_readNumber (Θ : Tht) (p1 : Int32) (p2 : Int32) (h : Mem) (K : Int32 × Mem → Prop) (hk : Ok (f_X10_readNumber p1 p2 h) K) : CI Θ yX10_readNumber cX10_readNumber 4 (some .int) rm_X10_readNumber [.ref (rr Θ 24 0 0), .int p1, .int p2] h K := by
  refine CI.of K [(0, .ref (rr Θ 24 0 0)), (1, .int p1), (2, .int p2)] (plainFor_of_name (by decide)) (Nat.le_of_ble_eq_true rfl) rfl (fun Γ C Rt => ?_)
  replace hk := rtI Rt hk
  unfold f_X10_readNumber at hk
  refine g_aload_n C 0 dX10_readNumber_0 rfl rfl (n := 1) rfl ?_
  refine g_iload_n C 1 dX10_readNumber_1 rfl rfl (n := 2) rfl ?_
  refine g_iload_n C 2 dX10_readNumber_2 rfl rfl (n := 3) rfl ?_
  refine g_cVI C hk (fun K hk => L_X10_looked Θ p1 p2 h K hk) lk_X10_141 kc_24 (by decide) (by decide) ⟨rfl, rfl⟩ ⟨Nat.le_of_ble_eq_true rfl, Nat.le_of_ble_eq_true rfl⟩ dX10_readNumber_3 rfl rfl (Nat.le_of_ble_eq_true rfl) (n := 6) rfl (fun r1 h2 hk => ?_)
  refine g_istore_n C [(3, .int r1), (0, .ref (rr Θ 24 0 0)), (1, .int p1), (2, .int p2)] dX10_readNumber_6 rfl (by decide) rfl (n := 7) rfl ?_
  refine g_aload_n C 1 dX10_readNumber_7 rfl rfl (n := 8) rfl ?_
  refine g_cVV C hk (fun K hk => L_X10_next Θ h2 K hk) lk_X10_145 kc_24 (by decide) (by decide) ⟨rfl, rfl⟩ ⟨Nat.le_of_ble_eq_true rfl, Nat.le_of_ble_eq_true rfl⟩ dX10_readNumber_8 rfl rfl (Nat.le_of_ble_eq_true rfl) (n := 11) rfl (fun h3 hk => ?_)
  refine g_iload_n C 0 dX10_readNumber_11 rfl rfl (n := 12) rfl ?_
  exact retI hk.out dX10_readNumber_12
def f_X10_readPlace  (h : Mem) : Option (Int32 × Mem) := ob2 (f_X10_lookedPlace h) (fun r1 h2 => obd (f_X10_next h2) (fun h3 => some (r1, h3)))
def rm_X10_readPlace : Room := { frames := 3, cells := 0, slots := 0, locals := 68 }
set_option maxHeartbeats 4000000 in
set_option maxRecDepth 100000 in
theorem L_X10_readPlace (Θ : Tht)  (h : Mem) (K : Int32 × Mem → Prop) (hk : Ok (f_X10_readPlace  h) K) : CI Θ yX10_readPlace cX10_readPlace 2 (some .int) rm_X10_readPlace [.ref (rr Θ 24 0 0)] h K := by
  refine CI.of K [(0, .ref (rr Θ 24 0 0))] (plainFor_of_name (by decide)) (Nat.le_of_ble_eq_true rfl) rfl (fun Γ C Rt => ?_)
  replace hk := rtI Rt hk
  unfold f_X10_readPlace at hk
  refine g_aload_n C 0 dX10_readPlace_0 rfl rfl (n := 1) rfl ?_
  refine g_cVI C hk (fun K hk => L_X10_lookedPlace Θ h K hk) lk_X10_148 kc_24 (by decide) (by decide) ⟨rfl, rfl⟩ ⟨Nat.le_of_ble_eq_true rfl, Nat.le_of_ble_eq_true rfl⟩ dX10_readPlace_1 rfl rfl (Nat.le_of_ble_eq_true rfl) (n := 4) rfl (fun r1 h2 hk => ?_)
  refine g_istore_n C [(1, .int r1), (0, .ref (rr Θ 24 0 0))] dX10_readPlace_4 rfl (by decide) rfl (n := 5) rfl ?_
  refine g_aload_n C 1 dX10_readPlace_5 rfl rfl (n := 6) rfl ?_
  refine g_cVV C hk (fun K hk => L_X10_next Θ h2 K hk) lk_X10_145 kc_24 (by decide) (by decide) ⟨rfl, rfl⟩ ⟨Nat.le_of_ble_eq_true rfl, Nat.le_of_ble_eq_true rfl⟩ dX10_readPlace_6 rfl rfl (Nat.le_of_ble_eq_true rfl) (n := 9) rfl (fun h3 hk => ?_)
  refine g_iload_n C 0 dX10_readPlace_9 rfl rfl (n := 10) rfl ?_
  exact retI hk.out dX10_readPlace_10
def f_X10_readCoin  (h : Mem) : Option (Mem) := bnd (h 27 0 0 8) (fun x1 => ob2 (f_X10_readNumber (1 : Int32) (9 : Int32) h) (fun r2 h3 => gd (inb ((9 : Int32) + x1) 79) (bnd (up h3 27 0 0 ((9 : Int32) + x1).toNatClampNeg r2) (fun h4 => ob2 (f_X10_readPlace h4) (fun r5 h6 => gd (inb ((21 : Int32) + x1) 79) (bnd (up h6 27 0 0 ((21 : Int32) + x1).toNatClampNeg r5) (fun h7 => obd ((if (h7 24 15 0 0) = 0 then (if (h7 24 13 0 0) = (1 : Int32) then obd (f_X10_is (5 : Int32) (102 : Int32) (97 : Int32) (108 : Int32) h7) (fun r15 => obd ((if r15 = true then obd (f_X10_ends (115 : Int32) (101 : Int32) (0 : Int32) h7) (fun r17 => (if r17 = true then some true else some false)) else some false)) (fun a18 => obd (f_X10_needs a18 (2 : Int32) h7) (fun h19 => gd (inb ((15 : Int32) + x1) 79) (bnd (up h19 27 0 0 ((15 : Int32) + x1).toNatClampNeg (1 : Int32)) (fun h20 => obd (f_X10_next h20) (fun h21 => some h21)))))) else some h7) else some h7)) (fun a22 => bnd (up a22 27 0 0 8 ((a22 27 0 0 8) + (1 : Int32))) (fun h23 => some h23)))))))))
def rm_X10_readCoin : Room := { frames := 4, cells := 0, slots := 0, locals := 89 }
set_option maxHeartbeats 4000000 in
set_option maxRecDepth 100000 in
theorem L_X10_readCoin (Θ : Tht)  (h : Mem) (K : Mem → Prop) (hk : Ok (f_X10_readCoin  h) K) : CV Θ yX10_readCoin cX10_readCoin 2 none rm_X10_readCoin [.ref (rr Θ 24 0 0)] h K := by
  refine CV.of K [(0, .ref (rr Θ 24 0 0))] (plainFor_of_name (by decide)) (Nat.le_of_ble_eq_true rfl) rfl (fun Γ C Rt => ?_)
  replace hk := rtV Rt hk
  unfold f_X10_readCoin at hk
  refine g_aload_n C 0 dX10_readCoin_0 rfl rfl (n := 1) rfl ?_
  refine g_getR C kc_24 (rt_24_4 (tB Θ) 0) (by decide) (by decide) (by decide) wm_901 dX10_readCoin_1 (n := 4) rfl ?_
  refine g_bipush C (8 : Int32) dX10_readCoin_4 (by decide) (n := 6) rfl ?_
  refine g_ialdL C 8 an_27 (by decide) (by decide) (by decide) dX10_readCoin_6 (n := 7) rfl ?_
  refine g_nm hk (fun x1 hk => ?_)
  refine g_istore_n C [(1, .int x1), (0, .ref (rr Θ 24 0 0))] dX10_readCoin_7 rfl (by decide) rfl (n := 8) rfl ?_
  refine g_aload_n C 1 dX10_readCoin_8 rfl rfl (n := 9) rfl ?_
  refine g_getR C kc_24 (rt_24_4 (tB Θ) 0) (by decide) (by decide) (by decide) wm_901 dX10_readCoin_9 (n := 12) rfl ?_
  refine g_bipush C (9 : Int32) dX10_readCoin_12 (by decide) (n := 14) rfl ?_
  refine g_iload_n C 0 dX10_readCoin_14 rfl rfl (n := 15) rfl ?_
  refine g_iadd C dX10_readCoin_15 (n := 16) rfl ?_
  refine g_aload_n C 1 dX10_readCoin_16 rfl rfl (n := 17) rfl ?_
  refine g_iconst C (1 : Int32) dX10_readCoin_17 (by decide) (n := 18) rfl ?_
  refine g_bipush C (9 : Int32) dX10_readCoin_18 (by decide) (n := 20) rfl ?_
  refine g_cVI C hk (fun K hk => L_X10_readNumber Θ (1 : Int32) (9 : Int32) h K hk) lk_X10_152 kc_24 (by decide) (by decide) ⟨rfl, rfl⟩ ⟨Nat.le_of_ble_eq_true rfl, Nat.le_of_ble_eq_true rfl⟩ dX10_readCoin_20 rfl rfl (Nat.le_of_ble_eq_true rfl) (n := 23) rfl (fun r2 h3 hk => ?_)
  refine g_iast C an_27 (by decide) dX10_readCoin_23 (n := 24) rfl hk (fun _ h4 hk => ?_)
  refine g_aload_n C 1 dX10_readCoin_24 rfl rfl (n := 25) rfl ?_
  refine g_getR C kc_24 (rt_24_4 (tB Θ) 0) (by decide) (by decide) (by decide) wm_901 dX10_readCoin_25 (n := 28) rfl ?_
  refine g_bipush C (21 : Int32) dX10_readCoin_28 (by decide) (n := 30) rfl ?_
  refine g_iload_n C 0 dX10_readCoin_30 rfl rfl (n := 31) rfl ?_
  refine g_iadd C dX10_readCoin_31 (n := 32) rfl ?_
  refine g_aload_n C 1 dX10_readCoin_32 rfl rfl (n := 33) rfl ?_
  refine g_cVI C hk (fun K hk => L_X10_readPlace Θ h4 K hk) lk_X10_155 kc_24 (by decide) (by decide) ⟨rfl, rfl⟩ ⟨Nat.le_of_ble_eq_true rfl, Nat.le_of_ble_eq_true rfl⟩ dX10_readCoin_33 rfl rfl (Nat.le_of_ble_eq_true rfl) (n := 36) rfl (fun r5 h6 hk => ?_)
  refine g_iast C an_27 (by decide) dX10_readCoin_36 (n := 37) rfl hk (fun _ h7 hk => ?_)
  refine g_aload_n C 1 dX10_readCoin_37 rfl rfl (n := 38) rfl ?_
  refine g_getI C kc_24 ft_24_15 (by decide) (by decide) (by decide) wm_912 dX10_readCoin_38 (n := 41) rfl ?_
  refine Ok.join hk (fun a22 => G Θ Γ 102 [(0, .ref (rr Θ 24 0 0))] [] a22) (fun a22 hk => ?_) (fun hk => ?_)
  · refine g_aload_n C 0 dX10_readCoin_102 rfl rfl (n := 103) rfl ?_
    refine g_getR C kc_24 (rt_24_4 (tB Θ) 0) (by decide) (by decide) (by decide) wm_901 dX10_readCoin_103 (n := 106) rfl ?_
    refine g_bipush C (8 : Int32) dX10_readCoin_106 (by decide) (n := 108) rfl ?_
    refine g_dup2 C dX10_readCoin_108 rfl rfl (n := 109) rfl ?_
    refine g_ialdL C 8 an_27 (by decide) (by decide) (by decide) dX10_readCoin_109 (n := 110) rfl ?_
    refine g_iconst C (1 : Int32) dX10_readCoin_110 (by decide) (n := 111) rfl ?_
    refine g_iadd C dX10_readCoin_111 (n := 112) rfl ?_
    refine g_iastL C 8 an_27 (by decide) (by decide) (by decide) dX10_readCoin_112 (n := 113) rfl hk (fun h23 hk => ?_)
    exact retV hk.out dX10_readCoin_113
  · refine g_if_ne C 102 dX10_readCoin_41 (by decide) (n := 44) rfl hk (fun hk => ?_) (fun hk => ?_)
    · refine g_lv [1] [(0, .ref (rr Θ 24 0 0))] rfl ?_
      exact hk.out
    · refine g_aload_n C 1 dX10_readCoin_44 rfl rfl (n := 45) rfl ?_
      refine g_getI C kc_24 ft_24_13 (by decide) (by decide) (by decide) wm_910 dX10_readCoin_45 (n := 48) rfl ?_
      refine g_iconst C (1 : Int32) dX10_readCoin_48 (by decide) (n := 49) rfl ?_
      refine g_ic_ne C 102 dX10_readCoin_49 (by decide) (n := 52) rfl hk (fun hk => ?_) (fun hk => ?_)
      · refine g_lv [1] [(0, .ref (rr Θ 24 0 0))] rfl ?_
        exact hk.out
      · refine g_aload_n C 1 dX10_readCoin_52 rfl rfl (n := 53) rfl ?_
        refine g_aload_n C 1 dX10_readCoin_53 rfl rfl (n := 54) rfl ?_
        refine g_iconst C (5 : Int32) dX10_readCoin_54 (by decide) (n := 55) rfl ?_
        refine g_bipush C (102 : Int32) dX10_readCoin_55 (by decide) (n := 57) rfl ?_
        refine g_bipush C (97 : Int32) dX10_readCoin_57 (by decide) (n := 59) rfl ?_
        refine g_bipush C (108 : Int32) dX10_readCoin_59 (by decide) (n := 61) rfl ?_
        refine g_cVBp C hk (fun K hk => L_X10_is Θ (5 : Int32) (102 : Int32) (97 : Int32) (108 : Int32) h7 K hk) lk_X10_115 kc_24 (by decide) (by decide) ⟨rfl, rfl⟩ ⟨Nat.le_of_ble_eq_true rfl, Nat.le_of_ble_eq_true rfl⟩ dX10_readCoin_61 rfl rfl (Nat.le_of_ble_eq_true rfl) (n := 64) rfl (fun r15 hk => ?_)
        refine Ok.join hk (fun a18 => G Θ Γ 84 [(0, .ref (rr Θ 24 0 0)), (1, .int x1)] [.int (b2i a18), .ref (rr Θ 24 0 0)] h7) (fun a18 hk => ?_) (fun hk => ?_)
        · refine g_iconst C (2 : Int32) dX10_readCoin_84 (by decide) (n := 85) rfl ?_
          refine g_cVV C hk (fun K hk => L_X10_needs Θ a18 (2 : Int32) h7 K hk) lk_X10_137 kc_24 (by decide) (by decide) ⟨rfl, rfl⟩ ⟨Nat.le_of_ble_eq_true rfl, Nat.le_of_ble_eq_true rfl⟩ dX10_readCoin_85 rfl rfl (Nat.le_of_ble_eq_true rfl) (n := 88) rfl (fun h19 hk => ?_)
          refine g_aload_n C 0 dX10_readCoin_88 rfl rfl (n := 89) rfl ?_
          refine g_getR C kc_24 (rt_24_4 (tB Θ) 0) (by decide) (by decide) (by decide) wm_901 dX10_readCoin_89 (n := 92) rfl ?_
          refine g_bipush C (15 : Int32) dX10_readCoin_92 (by decide) (n := 94) rfl ?_
          refine g_iload_n C 1 dX10_readCoin_94 rfl rfl (n := 95) rfl ?_
          refine g_iadd C dX10_readCoin_95 (n := 96) rfl ?_
          refine g_iconst C (1 : Int32) dX10_readCoin_96 (by decide) (n := 97) rfl ?_
          refine g_iast C an_27 (by decide) dX10_readCoin_97 (n := 98) rfl hk (fun _ h20 hk => ?_)
          refine g_aload_n C 0 dX10_readCoin_98 rfl rfl (n := 99) rfl ?_
          refine g_cVV C hk (fun K hk => L_X10_next Θ h20 K hk) lk_X10_145 kc_24 (by decide) (by decide) ⟨rfl, rfl⟩ ⟨Nat.le_of_ble_eq_true rfl, Nat.le_of_ble_eq_true rfl⟩ dX10_readCoin_99 rfl rfl (Nat.le_of_ble_eq_true rfl) (n := 102) rfl (fun h21 hk => ?_)
          refine g_lv [0] [(0, .ref (rr Θ 24 0 0))] rfl ?_
          exact hk.out
        · refine g_bf C 83 dX10_readCoin_64 (by decide) (n := 67) rfl hk (fun hk => ?_) (fun hk => ?_)
          · refine g_iconst C (0 : Int32) dX10_readCoin_83 (by decide) (n := 84) rfl ?_
            refine g_lv [1, 0] [(0, .ref (rr Θ 24 0 0)), (1, .int x1)] rfl ?_
            exact hk.out
          · refine g_aload_n C 1 dX10_readCoin_67 rfl rfl (n := 68) rfl ?_
            refine g_bipush C (115 : Int32) dX10_readCoin_68 (by decide) (n := 70) rfl ?_
            refine g_bipush C (101 : Int32) dX10_readCoin_70 (by decide) (n := 72) rfl ?_
            refine g_iconst C (0 : Int32) dX10_readCoin_72 (by decide) (n := 73) rfl ?_
            refine g_cVBp C hk (fun K hk => L_X10_ends Θ (115 : Int32) (101 : Int32) (0 : Int32) h7 K hk) lk_X10_119 kc_24 (by decide) (by decide) ⟨rfl, rfl⟩ ⟨Nat.le_of_ble_eq_true rfl, Nat.le_of_ble_eq_true rfl⟩ dX10_readCoin_73 rfl rfl (Nat.le_of_ble_eq_true rfl) (n := 76) rfl (fun r17 hk => ?_)
            refine g_bf C 83 dX10_readCoin_76 (by decide) (n := 79) rfl hk (fun hk => ?_) (fun hk => ?_)
            · refine g_iconst C (0 : Int32) dX10_readCoin_83 (by decide) (n := 84) rfl ?_
              refine g_lv [1, 0] [(0, .ref (rr Θ 24 0 0)), (1, .int x1)] rfl ?_
              exact hk.out
            · refine g_iconst C (1 : Int32) dX10_readCoin_79 (by decide) (n := 80) rfl ?_
              refine g_goto C 84 dX10_readCoin_80 (by decide) ?_
              refine g_lv [1, 0] [(0, .ref (rr Θ 24 0 0)), (1, .int x1)] rfl ?_
              exact hk.out
def f_X10_readCrab  (h : Mem) : Option (Mem) := obd ((if (h 24 13 0 0) = (1 : Int32) then obd (f_X10_is (4 : Int32) (108 : Int32) (101 : Int32) (102 : Int32) h) (fun r3 => (if r3 = true then obd (f_X10_ends (116 : Int32) (0 : Int32) (0 : Int32) h) (fun r4 => (if r4 = true then some true else some false)) else some false)) else some false)) (fun a5 => obd ((if (h 24 13 0 0) = (1 : Int32) then obd (f_X10_is (5 : Int32) (114 : Int32) (105 : Int32) (103 : Int32) h) (fun r8 => (if r8 = true then obd (f_X10_ends (104 : Int32) (116 : Int32) (0 : Int32) h) (fun r9 => (if r9 = true then some true else some false)) else some false)) else some false)) (fun a10 => obd ((if (h 24 15 0 0) = 0 then obd ((if a5 = true then some true else (if a10 = true then some true else some false))) (fun a13 => obd (f_X10_needs a13 (2 : Int32) h) (fun h14 => some h14)) else some h)) (fun a15 => obd (f_X10_next a15) (fun h16 => obd (f_X10_flag a10 h16) (fun r17 => gd (inb ((35 : Int32) + (h16 24 6 0 0)) 79) (bnd (up h16 27 0 0 ((35 : Int32) + (h16 24 6 0 0)).toNatClampNeg r17) (fun h18 => ob2 (f_X10_readNumber (1 : Int32) (9 : Int32) h18) (fun r19 h20 => gd (inb ((27 : Int32) + (h18 24 6 0 0)) 79) (bnd (up h20 27 0 0 ((27 : Int32) + (h18 24 6 0 0)).toNatClampNeg r19) (fun h21 => ob2 (f_X10_readNumber (1 : Int32) (9 : Int32) h21) (fun r22 h23 => gd (inb ((31 : Int32) + (h21 24 6 0 0)) 79) (bnd (up h23 27 0 0 ((31 : Int32) + (h21 24 6 0 0)).toNatClampNeg r22) (fun h24 => ob2 (f_X10_readPlace h24) (fun r25 h26 => gd (inb ((39 : Int32) + (h24 24 6 0 0)) 79) (bnd (up h26 27 0 0 ((39 : Int32) + (h24 24 6 0 0)).toNatClampNeg r25) (fun h27 => bnd (up h27 24 6 0 0 ((h27 24 6 0 0) + (1 : Int32))) (fun h28 => some h28)))))))))))))))))
def rm_X10_readCrab : Room := { frames := 4, cells := 0, slots := 0, locals := 89 }
set_option maxHeartbeats 4000000 in
set_option maxRecDepth 100000 in
theorem L_X10_readCrab (Θ : Tht)  (h : Mem) (K : Mem → Prop) (hk : Ok (f_X10_readCrab  h) K) : CV Θ yX10_readCrab cX10_readCrab 3 none rm_X10_readCrab [.ref (rr Θ 24 0 0)] h K := by
  refine CV.of K [(0, .ref (rr Θ 24 0 0))] (plainFor_of_name (by decide)) (Nat.le_of_ble_eq_true rfl) rfl (fun Γ C Rt => ?_)
  replace hk := rtV Rt hk
  unfold f_X10_readCrab at hk
  refine g_aload_n C 0 dX10_readCrab_0 rfl rfl (n := 1) rfl ?_
  refine g_getI C kc_24 ft_24_13 (by decide) (by decide) (by decide) wm_910 dX10_readCrab_1 (n := 4) rfl ?_
  refine g_iconst C (1 : Int32) dX10_readCrab_4 (by decide) (n := 5) rfl ?_
  refine Ok.join hk (fun a5 => G Θ Γ 38 [(0, .ref (rr Θ 24 0 0))] [.int (b2i a5)] h) (fun a5 hk => ?_) (fun hk => ?_)
  · refine g_istore_n C [(1, .int (b2i a5)), (0, .ref (rr Θ 24 0 0))] dX10_readCrab_38 rfl (by decide) rfl (n := 39) rfl ?_
    refine g_aload_n C 1 dX10_readCrab_39 rfl rfl (n := 40) rfl ?_
    refine g_getI C kc_24 ft_24_13 (by decide) (by decide) (by decide) wm_910 dX10_readCrab_40 (n := 43) rfl ?_
    refine g_iconst C (1 : Int32) dX10_readCrab_43 (by decide) (n := 44) rfl ?_
    refine Ok.join hk (fun a10 => G Θ Γ 78 [(0, .ref (rr Θ 24 0 0)), (1, .int (b2i a5))] [.int (b2i a10)] h) (fun a10 hk => ?_) (fun hk => ?_)
    · refine g_istore_n C [(2, .int (b2i a10)), (0, .ref (rr Θ 24 0 0)), (1, .int (b2i a5))] dX10_readCrab_78 rfl (by decide) rfl (n := 79) rfl ?_
      refine g_aload_n C 1 dX10_readCrab_79 rfl rfl (n := 80) rfl ?_
      refine g_getI C kc_24 ft_24_15 (by decide) (by decide) (by decide) wm_912 dX10_readCrab_80 (n := 83) rfl ?_
      refine Ok.join hk (fun a15 => G Θ Γ 104 [(0, .ref (rr Θ 24 0 0)), (2, .int (b2i a10))] [] a15) (fun a15 hk => ?_) (fun hk => ?_)
      · refine g_aload_n C 0 dX10_readCrab_104 rfl rfl (n := 105) rfl ?_
        refine g_cVV C hk (fun K hk => L_X10_next Θ a15 K hk) lk_X10_145 kc_24 (by decide) (by decide) ⟨rfl, rfl⟩ ⟨Nat.le_of_ble_eq_true rfl, Nat.le_of_ble_eq_true rfl⟩ dX10_readCrab_105 rfl rfl (Nat.le_of_ble_eq_true rfl) (n := 108) rfl (fun h16 hk => ?_)
        refine g_aload_n C 0 dX10_readCrab_108 rfl rfl (n := 109) rfl ?_
        refine g_getR C kc_24 (rt_24_4 (tB Θ) 0) (by decide) (by decide) (by decide) wm_901 dX10_readCrab_109 (n := 112) rfl ?_
        refine g_bipush C (35 : Int32) dX10_readCrab_112 (by decide) (n := 114) rfl ?_
        refine g_aload_n C 0 dX10_readCrab_114 rfl rfl (n := 115) rfl ?_
        refine g_getI C kc_24 ft_24_6 (by decide) (by decide) (by decide) wm_903 dX10_readCrab_115 (n := 118) rfl ?_
        refine g_iadd C dX10_readCrab_118 (n := 119) rfl ?_
        refine g_iload_n C 1 dX10_readCrab_119 rfl rfl (n := 120) rfl ?_
        refine g_cSIp C hk (fun K hk => L_X10_flag Θ a10 h16 K hk) lk_X10_158 ⟨rfl, rfl⟩ ⟨Nat.le_of_ble_eq_true rfl, Nat.le_of_ble_eq_true rfl⟩ dX10_readCrab_120 rfl rfl (Nat.le_of_ble_eq_true rfl) (n := 123) rfl (fun r17 hk => ?_)
        refine g_iast C an_27 (by decide) dX10_readCrab_123 (n := 124) rfl hk (fun _ h18 hk => ?_)
        refine g_aload_n C 0 dX10_readCrab_124 rfl rfl (n := 125) rfl ?_
        refine g_getR C kc_24 (rt_24_4 (tB Θ) 0) (by decide) (by decide) (by decide) wm_901 dX10_readCrab_125 (n := 128) rfl ?_
        refine g_bipush C (27 : Int32) dX10_readCrab_128 (by decide) (n := 130) rfl ?_
        refine g_aload_n C 0 dX10_readCrab_130 rfl rfl (n := 131) rfl ?_
        refine g_getI C kc_24 ft_24_6 (by decide) (by decide) (by decide) wm_903 dX10_readCrab_131 (n := 134) rfl ?_
        refine g_iadd C dX10_readCrab_134 (n := 135) rfl ?_
        refine g_aload_n C 0 dX10_readCrab_135 rfl rfl (n := 136) rfl ?_
        refine g_iconst C (1 : Int32) dX10_readCrab_136 (by decide) (n := 137) rfl ?_
        refine g_bipush C (9 : Int32) dX10_readCrab_137 (by decide) (n := 139) rfl ?_
        refine g_cVI C hk (fun K hk => L_X10_readNumber Θ (1 : Int32) (9 : Int32) h18 K hk) lk_X10_152 kc_24 (by decide) (by decide) ⟨rfl, rfl⟩ ⟨Nat.le_of_ble_eq_true rfl, Nat.le_of_ble_eq_true rfl⟩ dX10_readCrab_139 rfl rfl (Nat.le_of_ble_eq_true rfl) (n := 142) rfl (fun r19 h20 hk => ?_)
        refine g_iast C an_27 (by decide) dX10_readCrab_142 (n := 143) rfl hk (fun _ h21 hk => ?_)
        refine g_aload_n C 0 dX10_readCrab_143 rfl rfl (n := 144) rfl ?_
        refine g_getR C kc_24 (rt_24_4 (tB Θ) 0) (by decide) (by decide) (by decide) wm_901 dX10_readCrab_144 (n := 147) rfl ?_
        refine g_bipush C (31 : Int32) dX10_readCrab_147 (by decide) (n := 149) rfl ?_
        refine g_aload_n C 0 dX10_readCrab_149 rfl rfl (n := 150) rfl ?_
        refine g_getI C kc_24 ft_24_6 (by decide) (by decide) (by decide) wm_903 dX10_readCrab_150 (n := 153) rfl ?_
        refine g_iadd C dX10_readCrab_153 (n := 154) rfl ?_
        refine g_aload_n C 0 dX10_readCrab_154 rfl rfl (n := 155) rfl ?_
        refine g_iconst C (1 : Int32) dX10_readCrab_155 (by decide) (n := 156) rfl ?_
        refine g_bipush C (9 : Int32) dX10_readCrab_156 (by decide) (n := 158) rfl ?_
        refine g_cVI C hk (fun K hk => L_X10_readNumber Θ (1 : Int32) (9 : Int32) h21 K hk) lk_X10_152 kc_24 (by decide) (by decide) ⟨rfl, rfl⟩ ⟨Nat.le_of_ble_eq_true rfl, Nat.le_of_ble_eq_true rfl⟩ dX10_readCrab_158 rfl rfl (Nat.le_of_ble_eq_true rfl) (n := 161) rfl (fun r22 h23 hk => ?_)
        refine g_iast C an_27 (by decide) dX10_readCrab_161 (n := 162) rfl hk (fun _ h24 hk => ?_)
        refine g_aload_n C 0 dX10_readCrab_162 rfl rfl (n := 163) rfl ?_
        refine g_getR C kc_24 (rt_24_4 (tB Θ) 0) (by decide) (by decide) (by decide) wm_901 dX10_readCrab_163 (n := 166) rfl ?_
        refine g_bipush C (39 : Int32) dX10_readCrab_166 (by decide) (n := 168) rfl ?_
        refine g_aload_n C 0 dX10_readCrab_168 rfl rfl (n := 169) rfl ?_
        refine g_getI C kc_24 ft_24_6 (by decide) (by decide) (by decide) wm_903 dX10_readCrab_169 (n := 172) rfl ?_
        refine g_iadd C dX10_readCrab_172 (n := 173) rfl ?_
        refine g_aload_n C 0 dX10_readCrab_173 rfl rfl (n := 174) rfl ?_
        refine g_cVI C hk (fun K hk => L_X10_readPlace Θ h24 K hk) lk_X10_155 kc_24 (by decide) (by decide) ⟨rfl, rfl⟩ ⟨Nat.le_of_ble_eq_true rfl, Nat.le_of_ble_eq_true rfl⟩ dX10_readCrab_174 rfl rfl (Nat.le_of_ble_eq_true rfl) (n := 177) rfl (fun r25 h26 hk => ?_)
        refine g_iast C an_27 (by decide) dX10_readCrab_177 (n := 178) rfl hk (fun _ h27 hk => ?_)
        refine g_aload_n C 0 dX10_readCrab_178 rfl rfl (n := 179) rfl ?_
        refine g_dup C dX10_readCrab_179 rfl (n := 180) rfl ?_
        refine g_getI C kc_24 ft_24_6 (by decide) (by decide) (by decide) wm_903 dX10_readCrab_180 (n := 183) rfl ?_
        refine g_iconst C (1 : Int32) dX10_readCrab_183 (by decide) (n := 184) rfl ?_
        refine g_iadd C dX10_readCrab_184 (n := 185) rfl ?_
        refine g_putI C kc_24 ft_24_6 (by decide) (by decide) (by decide) rfl (fitI _) wm_903 dX10_readCrab_185 (n := 188) rfl hk (fun h28 hk => ?_)
        exact retV hk.out dX10_readCrab_188
      · refine g_if_ne C 104 dX10_readCrab_83 (by decide) (n := 86) rfl hk (fun hk => ?_) (fun hk => ?_)
        · refine g_lv [1, 0] [(0, .ref (rr Θ 24 0 0)), (2, .int (b2i a10))] rfl ?_
          exact hk.out
        · refine g_aload_n C 1 dX10_readCrab_86 rfl rfl (n := 87) rfl ?_
          refine g_iload_n C 2 dX10_readCrab_87 rfl rfl (n := 88) rfl ?_
          refine Ok.join hk (fun a13 => G Θ Γ 100 [(0, .ref (rr Θ 24 0 0)), (2, .int (b2i a10))] [.int (b2i a13), .ref (rr Θ 24 0 0)] h) (fun a13 hk => ?_) (fun hk => ?_)
          · refine g_iconst C (2 : Int32) dX10_readCrab_100 (by decide) (n := 101) rfl ?_
            refine g_cVV C hk (fun K hk => L_X10_needs Θ a13 (2 : Int32) h K hk) lk_X10_137 kc_24 (by decide) (by decide) ⟨rfl, rfl⟩ ⟨Nat.le_of_ble_eq_true rfl, Nat.le_of_ble_eq_true rfl⟩ dX10_readCrab_101 rfl rfl (Nat.le_of_ble_eq_true rfl) (n := 104) rfl (fun h14 hk => ?_)
            exact hk.out
          · refine g_bt C 95 dX10_readCrab_88 (by decide) (n := 91) rfl hk (fun hk => ?_) (fun hk => ?_)
            · refine g_iconst C (1 : Int32) dX10_readCrab_95 (by decide) (n := 96) rfl ?_
              refine g_goto C 100 dX10_readCrab_96 (by decide) ?_
              refine g_lv [1, 0] [(0, .ref (rr Θ 24 0 0)), (2, .int (b2i a10))] rfl ?_
              exact hk.out
            · refine g_iload_n C 0 dX10_readCrab_91 rfl rfl (n := 92) rfl ?_
              refine g_bf C 99 dX10_readCrab_92 (by decide) (n := 95) rfl hk (fun hk => ?_) (fun hk => ?_)
              · refine g_iconst C (0 : Int32) dX10_readCrab_99 (by decide) (n := 100) rfl ?_
                refine g_lv [1, 0] [(0, .ref (rr Θ 24 0 0)), (2, .int (b2i a10))] rfl ?_
                exact hk.out
              · refine g_iconst C (1 : Int32) dX10_readCrab_95 (by decide) (n := 96) rfl ?_
                refine g_goto C 100 dX10_readCrab_96 (by decide) ?_
                refine g_lv [1, 0] [(0, .ref (rr Θ 24 0 0)), (2, .int (b2i a10))] rfl ?_
                exact hk.out
    · refine g_ic_ne C 77 dX10_readCrab_44 (by decide) (n := 47) rfl hk (fun hk => ?_) (fun hk => ?_)
      · refine g_iconst C (0 : Int32) dX10_readCrab_77 (by decide) (n := 78) rfl ?_
        refine g_lv [1, 0] [(0, .ref (rr Θ 24 0 0)), (1, .int (b2i a5))] rfl ?_
        exact hk.out
      · refine g_aload_n C 1 dX10_readCrab_47 rfl rfl (n := 48) rfl ?_
        refine g_iconst C (5 : Int32) dX10_readCrab_48 (by decide) (n := 49) rfl ?_
        refine g_bipush C (114 : Int32) dX10_readCrab_49 (by decide) (n := 51) rfl ?_
        refine g_bipush C (105 : Int32) dX10_readCrab_51 (by decide) (n := 53) rfl ?_
        refine g_bipush C (103 : Int32) dX10_readCrab_53 (by decide) (n := 55) rfl ?_
        refine g_cVBp C hk (fun K hk => L_X10_is Θ (5 : Int32) (114 : Int32) (105 : Int32) (103 : Int32) h K hk) lk_X10_115 kc_24 (by decide) (by decide) ⟨rfl, rfl⟩ ⟨Nat.le_of_ble_eq_true rfl, Nat.le_of_ble_eq_true rfl⟩ dX10_readCrab_55 rfl rfl (Nat.le_of_ble_eq_true rfl) (n := 58) rfl (fun r8 hk => ?_)
        refine g_bf C 77 dX10_readCrab_58 (by decide) (n := 61) rfl hk (fun hk => ?_) (fun hk => ?_)
        · refine g_iconst C (0 : Int32) dX10_readCrab_77 (by decide) (n := 78) rfl ?_
          refine g_lv [1, 0] [(0, .ref (rr Θ 24 0 0)), (1, .int (b2i a5))] rfl ?_
          exact hk.out
        · refine g_aload_n C 1 dX10_readCrab_61 rfl rfl (n := 62) rfl ?_
          refine g_bipush C (104 : Int32) dX10_readCrab_62 (by decide) (n := 64) rfl ?_
          refine g_bipush C (116 : Int32) dX10_readCrab_64 (by decide) (n := 66) rfl ?_
          refine g_iconst C (0 : Int32) dX10_readCrab_66 (by decide) (n := 67) rfl ?_
          refine g_cVBp C hk (fun K hk => L_X10_ends Θ (104 : Int32) (116 : Int32) (0 : Int32) h K hk) lk_X10_119 kc_24 (by decide) (by decide) ⟨rfl, rfl⟩ ⟨Nat.le_of_ble_eq_true rfl, Nat.le_of_ble_eq_true rfl⟩ dX10_readCrab_67 rfl rfl (Nat.le_of_ble_eq_true rfl) (n := 70) rfl (fun r9 hk => ?_)
          refine g_bf C 77 dX10_readCrab_70 (by decide) (n := 73) rfl hk (fun hk => ?_) (fun hk => ?_)
          · refine g_iconst C (0 : Int32) dX10_readCrab_77 (by decide) (n := 78) rfl ?_
            refine g_lv [1, 0] [(0, .ref (rr Θ 24 0 0)), (1, .int (b2i a5))] rfl ?_
            exact hk.out
          · refine g_iconst C (1 : Int32) dX10_readCrab_73 (by decide) (n := 74) rfl ?_
            refine g_goto C 78 dX10_readCrab_74 (by decide) ?_
            refine g_lv [1, 0] [(0, .ref (rr Θ 24 0 0)), (1, .int (b2i a5))] rfl ?_
            exact hk.out
  · refine g_ic_ne C 37 dX10_readCrab_5 (by decide) (n := 8) rfl hk (fun hk => ?_) (fun hk => ?_)
    · refine g_iconst C (0 : Int32) dX10_readCrab_37 (by decide) (n := 38) rfl ?_
      exact hk.out
    · refine g_aload_n C 0 dX10_readCrab_8 rfl rfl (n := 9) rfl ?_
      refine g_iconst C (4 : Int32) dX10_readCrab_9 (by decide) (n := 10) rfl ?_
      refine g_bipush C (108 : Int32) dX10_readCrab_10 (by decide) (n := 12) rfl ?_
      refine g_bipush C (101 : Int32) dX10_readCrab_12 (by decide) (n := 14) rfl ?_
      refine g_bipush C (102 : Int32) dX10_readCrab_14 (by decide) (n := 16) rfl ?_
      refine g_cVBp C hk (fun K hk => L_X10_is Θ (4 : Int32) (108 : Int32) (101 : Int32) (102 : Int32) h K hk) lk_X10_115 kc_24 (by decide) (by decide) ⟨rfl, rfl⟩ ⟨Nat.le_of_ble_eq_true rfl, Nat.le_of_ble_eq_true rfl⟩ dX10_readCrab_16 rfl rfl (Nat.le_of_ble_eq_true rfl) (n := 19) rfl (fun r3 hk => ?_)
      refine g_bf C 37 dX10_readCrab_19 (by decide) (n := 22) rfl hk (fun hk => ?_) (fun hk => ?_)
      · refine g_iconst C (0 : Int32) dX10_readCrab_37 (by decide) (n := 38) rfl ?_
        exact hk.out
      · refine g_aload_n C 0 dX10_readCrab_22 rfl rfl (n := 23) rfl ?_
        refine g_bipush C (116 : Int32) dX10_readCrab_23 (by decide) (n := 25) rfl ?_
        refine g_iconst C (0 : Int32) dX10_readCrab_25 (by decide) (n := 26) rfl ?_
        refine g_iconst C (0 : Int32) dX10_readCrab_26 (by decide) (n := 27) rfl ?_
        refine g_cVBp C hk (fun K hk => L_X10_ends Θ (116 : Int32) (0 : Int32) (0 : Int32) h K hk) lk_X10_119 kc_24 (by decide) (by decide) ⟨rfl, rfl⟩ ⟨Nat.le_of_ble_eq_true rfl, Nat.le_of_ble_eq_true rfl⟩ dX10_readCrab_27 rfl rfl (Nat.le_of_ble_eq_true rfl) (n := 30) rfl (fun r4 hk => ?_)
        refine g_bf C 37 dX10_readCrab_30 (by decide) (n := 33) rfl hk (fun hk => ?_) (fun hk => ?_)
        · refine g_iconst C (0 : Int32) dX10_readCrab_37 (by decide) (n := 38) rfl ?_
          exact hk.out
        · refine g_iconst C (1 : Int32) dX10_readCrab_33 (by decide) (n := 34) rfl ?_
          refine g_goto C 38 dX10_readCrab_34 (by decide) ?_
          exact hk.out
def f_X10_readHole  (h : Mem) : Option (Mem) := ob2 (f_X10_lookedPlace h) (fun r1 h2 => obd ((if (h2 24 15 0 0) = 0 then gd (inb ((0 : Int32) + r1) 79) (obd ((if (h2 27 0 0 ((0 : Int32) + r1).toNatClampNeg) = 0 then some true else some false)) (fun a5 => obd (f_X10_needs a5 (4 : Int32) h2) (fun h6 => some h6))) else some h2)) (fun a7 => obd (f_X10_next a7) (fun h8 => ob2 (f_X10_readNumber (1 : Int32) (9 : Int32) h8) (fun r9 h10 => obd ((if (h10 24 15 0 0) = 0 then some r9 else gd (inb ((0 : Int32) + r1) 79) (some (h10 27 0 0 ((0 : Int32) + r1).toNatClampNeg)))) (fun a11 => gd (inb ((0 : Int32) + r1) 79) (bnd (up h10 27 0 0 ((0 : Int32) + r1).toNatClampNeg a11) (fun h12 => some h12)))))))
def rm_X10_readHole : Room := { frames := 3, cells := 0, slots := 0, locals := 70 }
set_option maxHeartbeats 4000000 in
set_option maxRecDepth 100000 in
theorem L_X10_readHole (Θ : Tht)  (h : Mem) (K : Mem → Prop) (hk : Ok (f_X10_readHole  h) K) : CV Θ yX10_readHole cX10_readHole 3 none rm_X10_readHole [.ref (rr Θ 24 0 0)] h K := by
  refine CV.of K [(0, .ref (rr Θ 24 0 0))] (plainFor_of_name (by decide)) (Nat.le_of_ble_eq_true rfl) rfl (fun Γ C Rt => ?_)
  replace hk := rtV Rt hk
  unfold f_X10_readHole at hk
  refine g_aload_n C 0 dX10_readHole_0 rfl rfl (n := 1) rfl ?_
  refine g_cVI C hk (fun K hk => L_X10_lookedPlace Θ h K hk) lk_X10_148 kc_24 (by decide) (by decide) ⟨rfl, rfl⟩ ⟨Nat.le_of_ble_eq_true rfl, Nat.le_of_ble_eq_true rfl⟩ dX10_readHole_1 rfl rfl (Nat.le_of_ble_eq_true rfl) (n := 4) rfl (fun r1 h2 hk => ?_)
  refine g_istore_n C [(1, .int r1), (0, .ref (rr Θ 24 0 0))] dX10_readHole_4 rfl (by decide) rfl (n := 5) rfl ?_
  refine g_aload_n C 1 dX10_readHole_5 rfl rfl (n := 6) rfl ?_
  refine g_getI C kc_24 ft_24_15 (by decide) (by decide) (by decide) wm_912 dX10_readHole_6 (n := 9) rfl ?_
  refine Ok.join hk (fun a7 => G Θ Γ 33 [(0, .ref (rr Θ 24 0 0)), (1, .int r1)] [] a7) (fun a7 hk => ?_) (fun hk => ?_)
  · refine g_aload_n C 0 dX10_readHole_33 rfl rfl (n := 34) rfl ?_
    refine g_cVV C hk (fun K hk => L_X10_next Θ a7 K hk) lk_X10_145 kc_24 (by decide) (by decide) ⟨rfl, rfl⟩ ⟨Nat.le_of_ble_eq_true rfl, Nat.le_of_ble_eq_true rfl⟩ dX10_readHole_34 rfl rfl (Nat.le_of_ble_eq_true rfl) (n := 37) rfl (fun h8 hk => ?_)
    refine g_aload_n C 0 dX10_readHole_37 rfl rfl (n := 38) rfl ?_
    refine g_iconst C (1 : Int32) dX10_readHole_38 (by decide) (n := 39) rfl ?_
    refine g_bipush C (9 : Int32) dX10_readHole_39 (by decide) (n := 41) rfl ?_
    refine g_cVI C hk (fun K hk => L_X10_readNumber Θ (1 : Int32) (9 : Int32) h8 K hk) lk_X10_152 kc_24 (by decide) (by decide) ⟨rfl, rfl⟩ ⟨Nat.le_of_ble_eq_true rfl, Nat.le_of_ble_eq_true rfl⟩ dX10_readHole_41 rfl rfl (Nat.le_of_ble_eq_true rfl) (n := 44) rfl (fun r9 h10 hk => ?_)
    refine g_istore_n C [(2, .int r9), (0, .ref (rr Θ 24 0 0)), (1, .int r1)] dX10_readHole_44 rfl (by decide) rfl (n := 45) rfl ?_
    refine g_aload_n C 1 dX10_readHole_45 rfl rfl (n := 46) rfl ?_
    refine g_getR C kc_24 (rt_24_4 (tB Θ) 0) (by decide) (by decide) (by decide) wm_901 dX10_readHole_46 (n := 49) rfl ?_
    refine g_iconst C (0 : Int32) dX10_readHole_49 (by decide) (n := 50) rfl ?_
    refine g_iload_n C 2 dX10_readHole_50 rfl rfl (n := 51) rfl ?_
    refine g_iadd C dX10_readHole_51 (n := 52) rfl ?_
    refine g_aload_n C 1 dX10_readHole_52 rfl rfl (n := 53) rfl ?_
    refine g_getI C kc_24 ft_24_15 (by decide) (by decide) (by decide) wm_912 dX10_readHole_53 (n := 56) rfl ?_
    refine Ok.join hk (fun a11 => G Θ Γ 71 [] [.int a11, .int ((0 : Int32) + r1), .ref (rr Θ 27 0 0)] h10) (fun a11 hk => ?_) (fun hk => ?_)
    · refine g_iast C an_27 (by decide) dX10_readHole_71 (n := 72) rfl hk (fun _ h12 hk => ?_)
      exact retV hk.out dX10_readHole_72
    · refine g_if_ne C 63 dX10_readHole_56 (by decide) (n := 59) rfl hk (fun hk => ?_) (fun hk => ?_)
      · refine g_aload_n C 1 dX10_readHole_63 rfl rfl (n := 64) rfl ?_
        refine g_getR C kc_24 (rt_24_4 (tB Θ) 0) (by decide) (by decide) (by decide) wm_901 dX10_readHole_64 (n := 67) rfl ?_
        refine g_iconst C (0 : Int32) dX10_readHole_67 (by decide) (n := 68) rfl ?_
        refine g_iload_n C 2 dX10_readHole_68 rfl rfl (n := 69) rfl ?_
        refine g_iadd C dX10_readHole_69 (n := 70) rfl ?_
        refine g_iald C an_27 (by decide) dX10_readHole_70 (n := 71) rfl hk (fun _ hk => ?_)
        refine g_lv [] [] rfl ?_
        exact hk.out
      · refine g_iload_n C 0 dX10_readHole_59 rfl rfl (n := 60) rfl ?_
        refine g_goto C 71 dX10_readHole_60 (by decide) ?_
        refine g_lv [] [] rfl ?_
        exact hk.out
  · refine g_if_ne C 33 dX10_readHole_9 (by decide) (n := 12) rfl hk (fun hk => ?_) (fun hk => ?_)
    · refine g_lv [1, 0] [(0, .ref (rr Θ 24 0 0)), (1, .int r1)] rfl ?_
      exact hk.out
    · refine g_aload_n C 1 dX10_readHole_12 rfl rfl (n := 13) rfl ?_
      refine g_aload_n C 1 dX10_readHole_13 rfl rfl (n := 14) rfl ?_
      refine g_getR C kc_24 (rt_24_4 (tB Θ) 0) (by decide) (by decide) (by decide) wm_901 dX10_readHole_14 (n := 17) rfl ?_
      refine g_iconst C (0 : Int32) dX10_readHole_17 (by decide) (n := 18) rfl ?_
      refine g_iload_n C 0 dX10_readHole_18 rfl rfl (n := 19) rfl ?_
      refine g_iadd C dX10_readHole_19 (n := 20) rfl ?_
      refine g_iald C an_27 (by decide) dX10_readHole_20 (n := 21) rfl hk (fun _ hk => ?_)
      refine Ok.join hk (fun a5 => G Θ Γ 29 [(0, .ref (rr Θ 24 0 0)), (1, .int r1)] [.int (b2i a5), .ref (rr Θ 24 0 0)] h2) (fun a5 hk => ?_) (fun hk => ?_)
      · refine g_iconst C (4 : Int32) dX10_readHole_29 (by decide) (n := 30) rfl ?_
        refine g_cVV C hk (fun K hk => L_X10_needs Θ a5 (4 : Int32) h2 K hk) lk_X10_137 kc_24 (by decide) (by decide) ⟨rfl, rfl⟩ ⟨Nat.le_of_ble_eq_true rfl, Nat.le_of_ble_eq_true rfl⟩ dX10_readHole_30 rfl rfl (Nat.le_of_ble_eq_true rfl) (n := 33) rfl (fun h6 hk => ?_)
        exact hk.out
      · refine g_if_ne C 28 dX10_readHole_21 (by decide) (n := 24) rfl hk (fun hk => ?_) (fun hk => ?_)
        · refine g_iconst C (0 : Int32) dX10_readHole_28 (by decide) (n := 29) rfl ?_
          refine g_lv [1, 0] [(0, .ref (rr Θ 24 0 0)), (1, .int r1)] rfl ?_
          exact hk.out
        · refine g_iconst C (1 : Int32) dX10_readHole_24 (by decide) (n := 25) rfl ?_
          refine g_goto C 29 dX10_readHole_25 (by decide) ?_
          refine g_lv [1, 0] [(0, .ref (rr Θ 24 0 0)), (1, .int r1)] rfl ?_
          exact hk.out
def f_X10_readLineOf (p1 : Int32) (h : Mem) : Option (Mem) := (if p1 = (0 : Int32) then ob2 (f_X10_readNumber (2 : Int32) (8 : Int32) h) (fun r1 h2 => bnd (up h2 24 5 0 0 r1) (fun h3 => some h3)) else if p1 = (1 : Int32) then ob2 (f_X10_readNumber (1 : Int32) (9 : Int32) h) (fun r4 h5 => bnd (up h5 27 0 0 43 r4) (fun h6 => ob2 (f_X10_readNumber (0 : Int32) (8 : Int32) h6) (fun r7 h8 => bnd (up h8 27 0 0 44 r7) (fun h9 => some h9)))) else if p1 = (2 : Int32) then obd (f_X10_readHole h) (fun h10 => some h10) else if p1 = (3 : Int32) then obd (f_X10_readCoin h) (fun h11 => some h11) else obd (f_X10_readCrab h) (fun h12 => some h12))
def rm_X10_readLineOf : Room := { frames := 5, cells := 0, slots := 0, locals := 111 }
set_option maxHeartbeats 4000000 in
set_option maxRecDepth 100000 in
theorem L_X10_readLineOf (Θ : Tht) (p1 : Int32) (h : Mem) (K : Mem → Prop) (hk : Ok (f_X10_readLineOf p1 h) K) : CV Θ yX10_readLineOf cX10_readLineOf 2 none rm_X10_readLineOf [.ref (rr Θ 24 0 0), .int p1] h K := by
  refine CV.of K [(0, .ref (rr Θ 24 0 0)), (1, .int p1)] (plainFor_of_name (by decide)) (Nat.le_of_ble_eq_true rfl) rfl (fun Γ C Rt => ?_)
  replace hk := rtV Rt hk
  unfold f_X10_readLineOf at hk
  refine g_iload_n C 1 dX10_readLineOf_0 rfl rfl (n := 1) rfl ?_
  refine g_sw C (0 : Int32) 32 dX10_readLineOf_1 (by decide) (by decide) rfl (by decide) hk (fun hk => ?_) (fun hc13 hk => ?_)
  · refine g_aload_n C 0 dX10_readLineOf_32 rfl rfl (n := 33) rfl ?_
    refine g_aload_n C 0 dX10_readLineOf_33 rfl rfl (n := 34) rfl ?_
    refine g_iconst C (2 : Int32) dX10_readLineOf_34 (by decide) (n := 35) rfl ?_
    refine g_bipush C (8 : Int32) dX10_readLineOf_35 (by decide) (n := 37) rfl ?_
    refine g_cVI C hk (fun K hk => L_X10_readNumber Θ (2 : Int32) (8 : Int32) h K hk) lk_X10_152 kc_24 (by decide) (by decide) ⟨rfl, rfl⟩ ⟨Nat.le_of_ble_eq_true rfl, Nat.le_of_ble_eq_true rfl⟩ dX10_readLineOf_37 rfl rfl (Nat.le_of_ble_eq_true rfl) (n := 40) rfl (fun r1 h2 hk => ?_)
    refine g_putI C kc_24 ft_24_5 (by decide) (by decide) (by decide) rfl (fitI _) wm_902 dX10_readLineOf_40 (n := 43) rfl hk (fun h3 hk => ?_)
    refine g_goto C 95 dX10_readLineOf_43 (by decide) ?_
    exact retV hk.out dX10_readLineOf_95
  refine g_sw C (1 : Int32) 46 dX10_readLineOf_1 (by decide) (by decide) rfl (by decide) hk (fun hk => ?_) (fun hc14 hk => ?_)
  · refine g_aload_n C 0 dX10_readLineOf_46 rfl rfl (n := 47) rfl ?_
    refine g_getR C kc_24 (rt_24_4 (tB Θ) 0) (by decide) (by decide) (by decide) wm_901 dX10_readLineOf_47 (n := 50) rfl ?_
    refine g_bipush C (43 : Int32) dX10_readLineOf_50 (by decide) (n := 52) rfl ?_
    refine g_aload_n C 0 dX10_readLineOf_52 rfl rfl (n := 53) rfl ?_
    refine g_iconst C (1 : Int32) dX10_readLineOf_53 (by decide) (n := 54) rfl ?_
    refine g_bipush C (9 : Int32) dX10_readLineOf_54 (by decide) (n := 56) rfl ?_
    refine g_cVI C hk (fun K hk => L_X10_readNumber Θ (1 : Int32) (9 : Int32) h K hk) lk_X10_152 kc_24 (by decide) (by decide) ⟨rfl, rfl⟩ ⟨Nat.le_of_ble_eq_true rfl, Nat.le_of_ble_eq_true rfl⟩ dX10_readLineOf_56 rfl rfl (Nat.le_of_ble_eq_true rfl) (n := 59) rfl (fun r4 h5 hk => ?_)
    refine g_iastL C 43 an_27 (by decide) (by decide) (by decide) dX10_readLineOf_59 (n := 60) rfl hk (fun h6 hk => ?_)
    refine g_aload_n C 0 dX10_readLineOf_60 rfl rfl (n := 61) rfl ?_
    refine g_getR C kc_24 (rt_24_4 (tB Θ) 0) (by decide) (by decide) (by decide) wm_901 dX10_readLineOf_61 (n := 64) rfl ?_
    refine g_bipush C (44 : Int32) dX10_readLineOf_64 (by decide) (n := 66) rfl ?_
    refine g_aload_n C 0 dX10_readLineOf_66 rfl rfl (n := 67) rfl ?_
    refine g_iconst C (0 : Int32) dX10_readLineOf_67 (by decide) (n := 68) rfl ?_
    refine g_bipush C (8 : Int32) dX10_readLineOf_68 (by decide) (n := 70) rfl ?_
    refine g_cVI C hk (fun K hk => L_X10_readNumber Θ (0 : Int32) (8 : Int32) h6 K hk) lk_X10_152 kc_24 (by decide) (by decide) ⟨rfl, rfl⟩ ⟨Nat.le_of_ble_eq_true rfl, Nat.le_of_ble_eq_true rfl⟩ dX10_readLineOf_70 rfl rfl (Nat.le_of_ble_eq_true rfl) (n := 73) rfl (fun r7 h8 hk => ?_)
    refine g_iastL C 44 an_27 (by decide) (by decide) (by decide) dX10_readLineOf_73 (n := 74) rfl hk (fun h9 hk => ?_)
    refine g_goto C 95 dX10_readLineOf_74 (by decide) ?_
    exact retV hk.out dX10_readLineOf_95
  refine g_sw C (2 : Int32) 77 dX10_readLineOf_1 (by decide) (by decide) rfl (by decide) hk (fun hk => ?_) (fun hc15 hk => ?_)
  · refine g_aload_n C 0 dX10_readLineOf_77 rfl rfl (n := 78) rfl ?_
    refine g_cVV C hk (fun K hk => L_X10_readHole Θ h K hk) lk_X10_162 kc_24 (by decide) (by decide) ⟨rfl, rfl⟩ ⟨Nat.le_of_ble_eq_true rfl, Nat.le_of_ble_eq_true rfl⟩ dX10_readLineOf_78 rfl rfl (Nat.le_of_ble_eq_true rfl) (n := 81) rfl (fun h10 hk => ?_)
    refine g_goto C 95 dX10_readLineOf_81 (by decide) ?_
    exact retV hk.out dX10_readLineOf_95
  refine g_sw C (3 : Int32) 84 dX10_readLineOf_1 (by decide) (by decide) rfl (by decide) hk (fun hk => ?_) (fun hc16 hk => ?_)
  · refine g_aload_n C 0 dX10_readLineOf_84 rfl rfl (n := 85) rfl ?_
    refine g_cVV C hk (fun K hk => L_X10_readCoin Θ h K hk) lk_X10_165 kc_24 (by decide) (by decide) ⟨rfl, rfl⟩ ⟨Nat.le_of_ble_eq_true rfl, Nat.le_of_ble_eq_true rfl⟩ dX10_readLineOf_85 rfl rfl (Nat.le_of_ble_eq_true rfl) (n := 88) rfl (fun h11 hk => ?_)
    refine g_goto C 95 dX10_readLineOf_88 (by decide) ?_
    exact retV hk.out dX10_readLineOf_95
  refine g_swd C 4 91 dX10_readLineOf_1 (by decide) (by decide) (sw_s (sw_s (sw_s (sw_0 hc13) hc14) hc15) hc16) (by decide) ?_
  refine g_aload_n C 0 dX10_readLineOf_91 rfl rfl (n := 92) rfl ?_
  refine g_cVV C hk (fun K hk => L_X10_readCrab Θ h K hk) lk_X10_168 kc_24 (by decide) (by decide) ⟨rfl, rfl⟩ ⟨Nat.le_of_ble_eq_true rfl, Nat.le_of_ble_eq_true rfl⟩ dX10_readLineOf_92 rfl rfl (Nat.le_of_ble_eq_true rfl) (n := 95) rfl (fun h12 hk => ?_)
  exact retV hk.out dX10_readLineOf_95
def f_X10_readLine  (h : Mem) : Option (Mem) := obd ((if (h 24 13 0 0) = (1 : Int32) then obd (f_X10_lineNow h) (fun r2 => some r2) else some (-4 : Int32))) (fun a3 => obd ((if a3 = (-4 : Int32) then some false else some true)) (fun a4 => obd (f_X10_needs a4 (2 : Int32) h) (fun h5 => obd ((if a3 = (3 : Int32) then (if (6 : Int32) ≤ (h5 27 0 0 8) then some false else (if a3 = (4 : Int32) then (if (4 : Int32) ≤ (h5 24 6 0 0) then some false else some true) else some true)) else (if a3 = (4 : Int32) then (if (4 : Int32) ≤ (h5 24 6 0 0) then some false else some true) else some true))) (fun a6 => obd (f_X10_needs a6 (5 : Int32) h5) (fun h7 => obd ((if (h7 24 15 0 0) = 0 then (if (1 : Int32) < a3 then some h7 else obd ((if (((h7 24 7 0 0) >>> (a3 &&& (31 : Int32))) &&& (1 : Int32)) = 0 then some true else some false)) (fun a11 => obd (f_X10_needs a11 (4 : Int32) h7) (fun h12 => bnd (up h12 24 7 0 0 ((h12 24 7 0 0) ||| ((1 : Int32) <<< (a3 &&& (31 : Int32))))) (fun h13 => some h13)))) else some h7)) (fun a14 => obd (f_X10_next a14) (fun h15 => (if (h15 24 15 0 0) ≤ 0 then obd (f_X10_readLineOf a3 h15) (fun h16 => obd ((if (h16 24 15 0 0) = 0 then obd ((if (h16 24 13 0 0) = (3 : Int32) then some true else some false)) (fun a19 => obd (f_X10_needs a19 (2 : Int32) h16) (fun h20 => some h20)) else some h16)) (fun a21 => obd (f_X10_next a21) (fun h22 => some h22))) else some h15))))))))
def rm_X10_readLine : Room := { frames := 6, cells := 0, slots := 0, locals := 132 }
set_option maxHeartbeats 4000000 in
set_option maxRecDepth 100000 in
theorem L_X10_readLine (Θ : Tht)  (h : Mem) (K : Mem → Prop) (hk : Ok (f_X10_readLine  h) K) : CV Θ yX10_readLine cX10_readLine 2 none rm_X10_readLine [.ref (rr Θ 24 0 0)] h K := by
  refine CV.of K [(0, .ref (rr Θ 24 0 0))] (plainFor_of_name (by decide)) (Nat.le_of_ble_eq_true rfl) rfl (fun Γ C Rt => ?_)
  replace hk := rtV Rt hk
  unfold f_X10_readLine at hk
  refine g_aload_n C 0 dX10_readLine_0 rfl rfl (n := 1) rfl ?_
  refine g_getI C kc_24 ft_24_13 (by decide) (by decide) (by decide) wm_910 dX10_readLine_1 (n := 4) rfl ?_
  refine g_iconst C (1 : Int32) dX10_readLine_4 (by decide) (n := 5) rfl ?_
  refine Ok.join hk (fun a3 => G Θ Γ 17 [(0, .ref (rr Θ 24 0 0))] [.int a3] h) (fun a3 hk => ?_) (fun hk => ?_)
  · refine g_istore_n C [(1, .int a3), (0, .ref (rr Θ 24 0 0))] dX10_readLine_17 rfl (by decide) rfl (n := 18) rfl ?_
    refine g_aload_n C 1 dX10_readLine_18 rfl rfl (n := 19) rfl ?_
    refine g_iload_n C 0 dX10_readLine_19 rfl rfl (n := 20) rfl ?_
    refine g_bipush C (-4 : Int32) dX10_readLine_20 (by decide) (n := 22) rfl ?_
    refine Ok.join hk (fun a4 => G Θ Γ 30 [(0, .ref (rr Θ 24 0 0)), (1, .int a3)] [.int (b2i a4), .ref (rr Θ 24 0 0)] h) (fun a4 hk => ?_) (fun hk => ?_)
    · refine g_iconst C (2 : Int32) dX10_readLine_30 (by decide) (n := 31) rfl ?_
      refine g_cVV C hk (fun K hk => L_X10_needs Θ a4 (2 : Int32) h K hk) lk_X10_137 kc_24 (by decide) (by decide) ⟨rfl, rfl⟩ ⟨Nat.le_of_ble_eq_true rfl, Nat.le_of_ble_eq_true rfl⟩ dX10_readLine_31 rfl rfl (Nat.le_of_ble_eq_true rfl) (n := 34) rfl (fun h5 hk => ?_)
      refine g_aload_n C 0 dX10_readLine_34 rfl rfl (n := 35) rfl ?_
      refine g_iload_n C 1 dX10_readLine_35 rfl rfl (n := 36) rfl ?_
      refine g_iconst C (3 : Int32) dX10_readLine_36 (by decide) (n := 37) rfl ?_
      refine Ok.join hk (fun a6 => G Θ Γ 70 [(0, .ref (rr Θ 24 0 0)), (1, .int a3)] [.int (b2i a6), .ref (rr Θ 24 0 0)] h5) (fun a6 hk => ?_) (fun hk => ?_)
      · refine g_iconst C (5 : Int32) dX10_readLine_70 (by decide) (n := 71) rfl ?_
        refine g_cVV C hk (fun K hk => L_X10_needs Θ a6 (5 : Int32) h5 K hk) lk_X10_137 kc_24 (by decide) (by decide) ⟨rfl, rfl⟩ ⟨Nat.le_of_ble_eq_true rfl, Nat.le_of_ble_eq_true rfl⟩ dX10_readLine_71 rfl rfl (Nat.le_of_ble_eq_true rfl) (n := 74) rfl (fun h7 hk => ?_)
        refine g_aload_n C 0 dX10_readLine_74 rfl rfl (n := 75) rfl ?_
        refine g_getI C kc_24 ft_24_15 (by decide) (by decide) (by decide) wm_912 dX10_readLine_75 (n := 78) rfl ?_
        refine Ok.join hk (fun a14 => G Θ Γ 119 [(0, .ref (rr Θ 24 0 0)), (1, .int a3)] [] a14) (fun a14 hk => ?_) (fun hk => ?_)
        · refine g_aload_n C 0 dX10_readLine_119 rfl rfl (n := 120) rfl ?_
          refine g_cVV C hk (fun K hk => L_X10_next Θ a14 K hk) lk_X10_145 kc_24 (by decide) (by decide) ⟨rfl, rfl⟩ ⟨Nat.le_of_ble_eq_true rfl, Nat.le_of_ble_eq_true rfl⟩ dX10_readLine_120 rfl rfl (Nat.le_of_ble_eq_true rfl) (n := 123) rfl (fun h15 hk => ?_)
          refine g_aload_n C 0 dX10_readLine_123 rfl rfl (n := 124) rfl ?_
          refine g_getI C kc_24 ft_24_15 (by decide) (by decide) (by decide) wm_912 dX10_readLine_124 (n := 127) rfl ?_
          refine g_if_le C 131 dX10_readLine_127 (by decide) (n := 130) rfl hk (fun hk => ?_) (fun hk => ?_)
          · refine g_aload_n C 0 dX10_readLine_131 rfl rfl (n := 132) rfl ?_
            refine g_iload_n C 1 dX10_readLine_132 rfl rfl (n := 133) rfl ?_
            refine g_cVV C hk (fun K hk => L_X10_readLineOf Θ a3 h15 K hk) lk_X10_174 kc_24 (by decide) (by decide) ⟨rfl, rfl⟩ ⟨Nat.le_of_ble_eq_true rfl, Nat.le_of_ble_eq_true rfl⟩ dX10_readLine_133 rfl rfl (Nat.le_of_ble_eq_true rfl) (n := 136) rfl (fun h16 hk => ?_)
            refine g_aload_n C 0 dX10_readLine_136 rfl rfl (n := 137) rfl ?_
            refine g_getI C kc_24 ft_24_15 (by decide) (by decide) (by decide) wm_912 dX10_readLine_137 (n := 140) rfl ?_
            refine Ok.join hk (fun a21 => G Θ Γ 161 [(0, .ref (rr Θ 24 0 0))] [] a21) (fun a21 hk => ?_) (fun hk => ?_)
            · refine g_aload_n C 0 dX10_readLine_161 rfl rfl (n := 162) rfl ?_
              refine g_cVV C hk (fun K hk => L_X10_next Θ a21 K hk) lk_X10_145 kc_24 (by decide) (by decide) ⟨rfl, rfl⟩ ⟨Nat.le_of_ble_eq_true rfl, Nat.le_of_ble_eq_true rfl⟩ dX10_readLine_162 rfl rfl (Nat.le_of_ble_eq_true rfl) (n := 165) rfl (fun h22 hk => ?_)
              exact retV hk.out dX10_readLine_165
            · refine g_if_ne C 161 dX10_readLine_140 (by decide) (n := 143) rfl hk (fun hk => ?_) (fun hk => ?_)
              · refine g_lv [0] [(0, .ref (rr Θ 24 0 0))] rfl ?_
                exact hk.out
              · refine g_aload_n C 0 dX10_readLine_143 rfl rfl (n := 144) rfl ?_
                refine g_aload_n C 0 dX10_readLine_144 rfl rfl (n := 145) rfl ?_
                refine g_getI C kc_24 ft_24_13 (by decide) (by decide) (by decide) wm_910 dX10_readLine_145 (n := 148) rfl ?_
                refine g_iconst C (3 : Int32) dX10_readLine_148 (by decide) (n := 149) rfl ?_
                refine Ok.join hk (fun a19 => G Θ Γ 157 [(0, .ref (rr Θ 24 0 0))] [.int (b2i a19), .ref (rr Θ 24 0 0)] h16) (fun a19 hk => ?_) (fun hk => ?_)
                · refine g_iconst C (2 : Int32) dX10_readLine_157 (by decide) (n := 158) rfl ?_
                  refine g_cVV C hk (fun K hk => L_X10_needs Θ a19 (2 : Int32) h16 K hk) lk_X10_137 kc_24 (by decide) (by decide) ⟨rfl, rfl⟩ ⟨Nat.le_of_ble_eq_true rfl, Nat.le_of_ble_eq_true rfl⟩ dX10_readLine_158 rfl rfl (Nat.le_of_ble_eq_true rfl) (n := 161) rfl (fun h20 hk => ?_)
                  exact hk.out
                · refine g_ic_ne C 156 dX10_readLine_149 (by decide) (n := 152) rfl hk (fun hk => ?_) (fun hk => ?_)
                  · refine g_iconst C (0 : Int32) dX10_readLine_156 (by decide) (n := 157) rfl ?_
                    refine g_lv [0] [(0, .ref (rr Θ 24 0 0))] rfl ?_
                    exact hk.out
                  · refine g_iconst C (1 : Int32) dX10_readLine_152 (by decide) (n := 153) rfl ?_
                    refine g_goto C 157 dX10_readLine_153 (by decide) ?_
                    refine g_lv [0] [(0, .ref (rr Θ 24 0 0))] rfl ?_
                    exact hk.out
          · exact retV hk.out dX10_readLine_130
        · refine g_if_ne C 119 dX10_readLine_78 (by decide) (n := 81) rfl hk (fun hk => ?_) (fun hk => ?_)
          · exact hk.out
          · refine g_iload_n C 1 dX10_readLine_81 rfl rfl (n := 82) rfl ?_
            refine g_iconst C (1 : Int32) dX10_readLine_82 (by decide) (n := 83) rfl ?_
            refine g_ic_gt C 119 dX10_readLine_83 (by decide) (n := 86) rfl hk (fun hk => ?_) (fun hk => ?_)
            · exact hk.out
            · refine g_aload_n C 0 dX10_readLine_86 rfl rfl (n := 87) rfl ?_
              refine g_aload_n C 0 dX10_readLine_87 rfl rfl (n := 88) rfl ?_
              refine g_getI C kc_24 ft_24_7 (by decide) (by decide) (by decide) wm_904 dX10_readLine_88 (n := 91) rfl ?_
              refine g_iload_n C 1 dX10_readLine_91 rfl rfl (n := 92) rfl ?_
              refine g_ishr C dX10_readLine_92 (n := 93) rfl ?_
              refine g_iconst C (1 : Int32) dX10_readLine_93 (by decide) (n := 94) rfl ?_
              refine g_iand C dX10_readLine_94 (n := 95) rfl ?_
              refine Ok.join hk (fun a11 => G Θ Γ 103 [(0, .ref (rr Θ 24 0 0)), (1, .int a3)] [.int (b2i a11), .ref (rr Θ 24 0 0)] h7) (fun a11 hk => ?_) (fun hk => ?_)
              · refine g_iconst C (4 : Int32) dX10_readLine_103 (by decide) (n := 104) rfl ?_
                refine g_cVV C hk (fun K hk => L_X10_needs Θ a11 (4 : Int32) h7 K hk) lk_X10_137 kc_24 (by decide) (by decide) ⟨rfl, rfl⟩ ⟨Nat.le_of_ble_eq_true rfl, Nat.le_of_ble_eq_true rfl⟩ dX10_readLine_104 rfl rfl (Nat.le_of_ble_eq_true rfl) (n := 107) rfl (fun h12 hk => ?_)
                refine g_aload_n C 0 dX10_readLine_107 rfl rfl (n := 108) rfl ?_
                refine g_dup C dX10_readLine_108 rfl (n := 109) rfl ?_
                refine g_getI C kc_24 ft_24_7 (by decide) (by decide) (by decide) wm_904 dX10_readLine_109 (n := 112) rfl ?_
                refine g_iconst C (1 : Int32) dX10_readLine_112 (by decide) (n := 113) rfl ?_
                refine g_iload_n C 1 dX10_readLine_113 rfl rfl (n := 114) rfl ?_
                refine g_ishl C dX10_readLine_114 (n := 115) rfl ?_
                refine g_ior C dX10_readLine_115 (n := 116) rfl ?_
                refine g_putI C kc_24 ft_24_7 (by decide) (by decide) (by decide) rfl (fitI _) wm_904 dX10_readLine_116 (n := 119) rfl hk (fun h13 hk => ?_)
                exact hk.out
              · refine g_if_ne C 102 dX10_readLine_95 (by decide) (n := 98) rfl hk (fun hk => ?_) (fun hk => ?_)
                · refine g_iconst C (0 : Int32) dX10_readLine_102 (by decide) (n := 103) rfl ?_
                  exact hk.out
                · refine g_iconst C (1 : Int32) dX10_readLine_98 (by decide) (n := 99) rfl ?_
                  refine g_goto C 103 dX10_readLine_99 (by decide) ?_
                  exact hk.out
      · refine g_ic_ne C 52 dX10_readLine_37 (by decide) (n := 40) rfl hk (fun hk => ?_) (fun hk => ?_)
        · refine g_iload_n C 1 dX10_readLine_52 rfl rfl (n := 53) rfl ?_
          refine g_iconst C (4 : Int32) dX10_readLine_53 (by decide) (n := 54) rfl ?_
          refine g_ic_ne C 65 dX10_readLine_54 (by decide) (n := 57) rfl hk (fun hk => ?_) (fun hk => ?_)
          · refine g_iconst C (1 : Int32) dX10_readLine_65 (by decide) (n := 66) rfl ?_
            refine g_goto C 70 dX10_readLine_66 (by decide) ?_
            exact hk.out
          · refine g_aload_n C 0 dX10_readLine_57 rfl rfl (n := 58) rfl ?_
            refine g_getI C kc_24 ft_24_6 (by decide) (by decide) (by decide) wm_903 dX10_readLine_58 (n := 61) rfl ?_
            refine g_iconst C (4 : Int32) dX10_readLine_61 (by decide) (n := 62) rfl ?_
            refine g_ic_ge C 69 dX10_readLine_62 (by decide) (n := 65) rfl hk (fun hk => ?_) (fun hk => ?_)
            · refine g_iconst C (0 : Int32) dX10_readLine_69 (by decide) (n := 70) rfl ?_
              exact hk.out
            · refine g_iconst C (1 : Int32) dX10_readLine_65 (by decide) (n := 66) rfl ?_
              refine g_goto C 70 dX10_readLine_66 (by decide) ?_
              exact hk.out
        · refine g_aload_n C 0 dX10_readLine_40 rfl rfl (n := 41) rfl ?_
          refine g_getR C kc_24 (rt_24_4 (tB Θ) 0) (by decide) (by decide) (by decide) wm_901 dX10_readLine_41 (n := 44) rfl ?_
          refine g_bipush C (8 : Int32) dX10_readLine_44 (by decide) (n := 46) rfl ?_
          refine g_ialdL C 8 an_27 (by decide) (by decide) (by decide) dX10_readLine_46 (n := 47) rfl ?_
          refine g_bipush C (6 : Int32) dX10_readLine_47 (by decide) (n := 49) rfl ?_
          refine g_ic_ge C 69 dX10_readLine_49 (by decide) (n := 52) rfl hk (fun hk => ?_) (fun hk => ?_)
          · refine g_iconst C (0 : Int32) dX10_readLine_69 (by decide) (n := 70) rfl ?_
            exact hk.out
          · refine g_iload_n C 1 dX10_readLine_52 rfl rfl (n := 53) rfl ?_
            refine g_iconst C (4 : Int32) dX10_readLine_53 (by decide) (n := 54) rfl ?_
            refine g_ic_ne C 65 dX10_readLine_54 (by decide) (n := 57) rfl hk (fun hk => ?_) (fun hk => ?_)
            · refine g_iconst C (1 : Int32) dX10_readLine_65 (by decide) (n := 66) rfl ?_
              refine g_goto C 70 dX10_readLine_66 (by decide) ?_
              exact hk.out
            · refine g_aload_n C 0 dX10_readLine_57 rfl rfl (n := 58) rfl ?_
              refine g_getI C kc_24 ft_24_6 (by decide) (by decide) (by decide) wm_903 dX10_readLine_58 (n := 61) rfl ?_
              refine g_iconst C (4 : Int32) dX10_readLine_61 (by decide) (n := 62) rfl ?_
              refine g_ic_ge C 69 dX10_readLine_62 (by decide) (n := 65) rfl hk (fun hk => ?_) (fun hk => ?_)
              · refine g_iconst C (0 : Int32) dX10_readLine_69 (by decide) (n := 70) rfl ?_
                exact hk.out
              · refine g_iconst C (1 : Int32) dX10_readLine_65 (by decide) (n := 66) rfl ?_
                refine g_goto C 70 dX10_readLine_66 (by decide) ?_
                exact hk.out
    · refine g_ic_eq C 29 dX10_readLine_22 (by decide) (n := 25) rfl hk (fun hk => ?_) (fun hk => ?_)
      · refine g_iconst C (0 : Int32) dX10_readLine_29 (by decide) (n := 30) rfl ?_
        refine g_lv [1, 0] [(0, .ref (rr Θ 24 0 0)), (1, .int a3)] rfl ?_
        exact hk.out
      · refine g_iconst C (1 : Int32) dX10_readLine_25 (by decide) (n := 26) rfl ?_
        refine g_goto C 30 dX10_readLine_26 (by decide) ?_
        refine g_lv [1, 0] [(0, .ref (rr Θ 24 0 0)), (1, .int a3)] rfl ?_
        exact hk.out
  · refine g_ic_ne C 15 dX10_readLine_5 (by decide) (n := 8) rfl hk (fun hk => ?_) (fun hk => ?_)
    · refine g_bipush C (-4 : Int32) dX10_readLine_15 (by decide) (n := 17) rfl ?_
      exact hk.out
    · refine g_aload_n C 0 dX10_readLine_8 rfl rfl (n := 9) rfl ?_
      refine g_cVIp C hk (fun K hk => L_X10_lineNow Θ h K hk) lk_X10_171 kc_24 (by decide) (by decide) ⟨rfl, rfl⟩ ⟨Nat.le_of_ble_eq_true rfl, Nat.le_of_ble_eq_true rfl⟩ dX10_readLine_9 rfl rfl (Nat.le_of_ble_eq_true rfl) (n := 12) rfl (fun r2 hk => ?_)
      refine g_goto C 17 dX10_readLine_12 (by decide) ?_
      exact hk.out
