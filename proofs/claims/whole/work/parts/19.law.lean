set_option maxRecDepth 100000 in
theorem lk_L_15 : cLV RL 15 yX9_feed cX9_feed 3 (some .int) 1 := ⟨wm_390, wm_391, wm_392, wm_64, wm_393, by decide, by decide, by decide +kernel⟩
set_option maxRecDepth 100000 in
theorem lk_L_19 : cLV RL 19 yX10_feed cX10_feed 4 (some .int) 1 := ⟨wm_1000, wm_1001, wm_1002, wm_74, wm_1003, by decide, by decide, by decide +kernel⟩
set_option maxRecDepth 100000 in
theorem lk_L_20 : cLV RL 20 yX9_end cX9_end 3 (some .int) 1 := ⟨wm_398, wm_399, wm_400, wm_64, wm_401, by decide, by decide, by decide +kernel⟩
set_option maxRecDepth 100000 in
theorem lk_L_24 : cLV RL 24 yX10_end cX10_end 3 (some .int) 1 := ⟨wm_1005, wm_1006, wm_1007, wm_74, wm_1008, by decide, by decide, by decide +kernel⟩
set_option maxRecDepth 100000 in
theorem lk_L_25 : cLV RL 25 yX9_text cX9_text 3 (some .int) 0 := ⟨wm_405, wm_406, wm_407, wm_64, wm_408, by decide, by decide, by decide +kernel⟩
set_option maxRecDepth 100000 in
theorem lk_L_29 : cLV RL 29 yX10_text cX10_text 2 (some .int) 0 := ⟨wm_1012, wm_1013, wm_1014, wm_74, wm_1015, by decide, by decide, by decide +kernel⟩
set_option maxRecDepth 100000 in
theorem lk_L_30 : cLV RL 30 yX9_fault cX9_fault 1 (some .int) 0 := ⟨wm_548, wm_549, wm_550, wm_64, wm_551, by decide, by decide, by decide +kernel⟩
set_option maxRecDepth 100000 in
theorem lk_L_33 : cLV RL 33 yX10_fault cX10_fault 1 (some .int) 0 := ⟨wm_1083, wm_1084, wm_1085, wm_74, wm_1086, by decide, by decide, by decide +kernel⟩
set_option maxRecDepth 100000 in
theorem lk_L_34 : cLV RL 34 yX9_rule cX9_rule 2 (some .int) 1 := ⟨wm_552, wm_553, wm_554, wm_64, wm_555, by decide, by decide, by decide +kernel⟩
set_option maxRecDepth 100000 in
theorem lk_L_37 : cLV RL 37 yX10_rule cX10_rule 2 (some .int) 1 := ⟨wm_1087, wm_1088, wm_1089, wm_74, wm_1090, by decide, by decide, by decide +kernel⟩
set_option maxRecDepth 100000 in
theorem lk_L_38 : cLV RL 38 yX9_hole cX9_hole 2 (some .int) 1 := ⟨wm_556, wm_557, wm_558, wm_64, wm_559, by decide, by decide, by decide +kernel⟩
set_option maxRecDepth 100000 in
theorem lk_L_41 : cLV RL 41 yX10_hole cX10_hole 2 (some .int) 1 := ⟨wm_1091, wm_1092, wm_1093, wm_74, wm_1094, by decide, by decide, by decide +kernel⟩
set_option maxRecDepth 100000 in
theorem lk_L_42 : cLV RL 42 yX9_coin cX9_coin 4 (some .int) 2 := ⟨wm_564, wm_565, wm_566, wm_64, wm_567, by decide, by decide, by decide +kernel⟩
set_option maxRecDepth 100000 in
theorem lk_L_46 : cLV RL 46 yX10_coin cX10_coin 3 (some .int) 2 := ⟨wm_1099, wm_1100, wm_1101, wm_74, wm_1102, by decide, by decide, by decide +kernel⟩
set_option maxRecDepth 100000 in
theorem lk_L_47 : cLV RL 47 yX9_crab cX9_crab 4 (some .int) 2 := ⟨wm_581, wm_582, wm_583, wm_64, wm_584, by decide, by decide, by decide +kernel⟩
set_option maxRecDepth 100000 in
theorem lk_L_50 : cLV RL 50 yX10_crab cX10_crab 3 (some .int) 2 := ⟨wm_1119, wm_1120, wm_1121, wm_74, wm_1122, by decide, by decide, by decide +kernel⟩
set_option maxRecDepth 100000 in
theorem lk_L_51 : cLV RL 51 yX9_dig cX9_dig 4 (some .int) 2 := ⟨wm_593, wm_594, wm_595, wm_64, wm_596, by decide, by decide, by decide +kernel⟩
set_option maxRecDepth 100000 in
theorem lk_L_54 : cLV RL 54 yX10_dig cX10_dig 3 (some .int) 2 := ⟨wm_1131, wm_1132, wm_1133, wm_74, wm_1134, by decide, by decide, by decide +kernel⟩
set_option maxRecDepth 100000 in
theorem lk_L_55 : cLV RL 55 yX9_mint cX9_mint 3 (some .int) 2 := ⟨wm_602, wm_603, wm_604, wm_64, wm_605, by decide, by decide, by decide +kernel⟩
set_option maxRecDepth 100000 in
theorem lk_L_58 : cLV RL 58 yX10_mint cX10_mint 4 (some .int) 2 := ⟨wm_1144, wm_1145, wm_1146, wm_74, wm_1147, by decide, by decide, by decide +kernel⟩
set_option maxRecDepth 100000 in
theorem lk_L_59 : cLV RL 59 yX9_lie cX9_lie 4 (some .int) 2 := ⟨wm_607, wm_608, wm_609, wm_64, wm_610, by decide, by decide, by decide +kernel⟩
set_option maxRecDepth 100000 in
theorem lk_L_62 : cLV RL 62 yX10_lie cX10_lie 3 (some .int) 2 := ⟨wm_1148, wm_1149, wm_1150, wm_74, wm_1151, by decide, by decide, by decide +kernel⟩
set_option maxRecDepth 100000 in
theorem lk_L_63 : cLV RL 63 yX9_fake cX9_fake 4 (some .int) 2 := ⟨wm_615, wm_616, wm_617, wm_64, wm_618, by decide, by decide, by decide +kernel⟩
set_option maxRecDepth 100000 in
theorem lk_L_67 : cLV RL 67 yX10_fake cX10_fake 3 (some .int) 2 := ⟨wm_1152, wm_1153, wm_1154, wm_74, wm_1155, by decide, by decide, by decide +kernel⟩
set_option maxRecDepth 100000 in
theorem lk_L_68 : cLV RL 68 yX9_set cX9_set 4 (some .int) 2 := ⟨wm_619, wm_620, wm_621, wm_64, wm_622, by decide, by decide, by decide +kernel⟩
set_option maxRecDepth 100000 in
theorem lk_L_71 : cLV RL 71 yX10_set cX10_set 3 (some .int) 2 := ⟨wm_1156, wm_1157, wm_1158, wm_74, wm_1159, by decide, by decide, by decide +kernel⟩
set_option maxRecDepth 100000 in
theorem lk_L_72 : cLV RL 72 yX9_hand cX9_hand 4 (some .int) 2 := ⟨wm_623, wm_624, wm_625, wm_64, wm_626, by decide, by decide, by decide +kernel⟩
set_option maxRecDepth 100000 in
theorem lk_L_75 : cLV RL 75 yX10_hand cX10_hand 3 (some .int) 2 := ⟨wm_1160, wm_1161, wm_1162, wm_74, wm_1163, by decide, by decide, by decide +kernel⟩
set_option maxRecDepth 100000 in
theorem lk_L_76 : cLV RL 76 yX9_tide cX9_tide 4 (some .int) 2 := ⟨wm_627, wm_628, wm_629, wm_64, wm_630, by decide, by decide, by decide +kernel⟩
set_option maxRecDepth 100000 in
theorem lk_L_79 : cLV RL 79 yX10_tide cX10_tide 3 (some .int) 2 := ⟨wm_1164, wm_1165, wm_1166, wm_74, wm_1167, by decide, by decide, by decide +kernel⟩
set_option maxRecDepth 100000 in
theorem lk_L_80 : cLV RL 80 yX9_go cX9_go 2 (some .int) 1 := ⟨wm_631, wm_632, wm_633, wm_64, wm_634, by decide, by decide, by decide +kernel⟩
set_option maxRecDepth 100000 in
theorem lk_L_83 : cLV RL 83 yX10_go cX10_go 3 (some .int) 1 := ⟨wm_1169, wm_1170, wm_1171, wm_74, wm_1172, by decide, by decide, by decide +kernel⟩
set_option maxRecDepth 100000 in
theorem lk_L_84 : cLV RL 84 yX9_ahead cX9_ahead 3 (some .int) 2 := ⟨wm_677, wm_678, wm_679, wm_64, wm_680, by decide, by decide, by decide +kernel⟩
set_option maxRecDepth 100000 in
theorem lk_L_87 : cLV RL 87 yX10_ahead cX10_ahead 4 (some .int) 2 := ⟨wm_1198, wm_1199, wm_1200, wm_74, wm_1201, by decide, by decide, by decide +kernel⟩
set_option maxRecDepth 100000 in
theorem lk_L_88 : cLV RL 88 yX9_grow cX9_grow 1 (some .int) 0 := ⟨wm_681, wm_682, wm_683, wm_64, wm_684, by decide, by decide, by decide +kernel⟩
set_option maxRecDepth 100000 in
theorem lk_L_91 : cLV RL 91 yX10_grow cX10_grow 3 (some .int) 0 := ⟨wm_1202, wm_1203, wm_1204, wm_74, wm_1205, by decide, by decide, by decide +kernel⟩
set_option maxRecDepth 100000 in
theorem lk_L_92 : cLV RL 92 yX9_sorted cX9_sorted 1 (some .int) 0 := ⟨wm_699, wm_700, wm_701, wm_64, wm_702, by decide, by decide, by decide +kernel⟩
set_option maxRecDepth 100000 in
theorem lk_L_95 : cLV RL 95 yX10_sorted cX10_sorted 1 (some .int) 0 := ⟨wm_1206, wm_1207, wm_1208, wm_74, wm_1209, by decide, by decide, by decide +kernel⟩
set_option maxRecDepth 100000 in
theorem lk_L_96 : cLV RL 96 yX9_orders cX9_orders 3 (some .int) 1 := ⟨wm_711, wm_712, wm_713, wm_64, wm_714, by decide, by decide, by decide +kernel⟩
set_option maxRecDepth 100000 in
theorem lk_L_99 : cLV RL 99 yX10_orders cX10_orders 8 (some .int) 1 := ⟨wm_1214, wm_1215, wm_1216, wm_74, wm_1217, by decide, by decide, by decide +kernel⟩
set_option maxRecDepth 100000 in
theorem lk_L_100 : cLV RL 100 yX9_fewest cX9_fewest 5 (some .int) 1 := ⟨wm_736, wm_737, wm_738, wm_64, wm_739, by decide, by decide, by decide +kernel⟩
set_option maxRecDepth 100000 in
theorem lk_L_103 : cLV RL 103 yX10_fewest cX10_fewest 7 (some .int) 1 := ⟨wm_1224, wm_1225, wm_1226, wm_74, wm_1227, by decide, by decide, by decide +kernel⟩
set_option maxRecDepth 100000 in
theorem lk_L_104 : cLV RL 104 yX9_better cX9_better 8 (some .int) 1 := ⟨wm_754, wm_755, wm_756, wm_64, wm_757, by decide, by decide, by decide +kernel⟩
set_option maxRecDepth 100000 in
theorem lk_L_107 : cLV RL 107 yX10_better cX10_better 8 (some .int) 1 := ⟨wm_1228, wm_1229, wm_1230, wm_74, wm_1231, by decide, by decide, by decide +kernel⟩
set_option maxRecDepth 100000 in
theorem lk_L_108 : cLV RL 108 yX9_weeks cX9_weeks 3 (some .int) 0 := ⟨wm_762, wm_763, wm_764, wm_64, wm_765, by decide, by decide, by decide +kernel⟩
set_option maxRecDepth 100000 in
theorem lk_L_111 : cLV RL 111 yX10_weeks cX10_weeks 4 (some .int) 0 := ⟨wm_1232, wm_1233, wm_1234, wm_74, wm_1235, by decide, by decide, by decide +kernel⟩
set_option maxRecDepth 100000 in
theorem lk_L_112 : cLV RL 112 yX9_see cX9_see 5 (some .int) 4 := ⟨wm_766, wm_767, wm_768, wm_64, wm_769, by decide, by decide, by decide +kernel⟩
set_option maxRecDepth 100000 in
theorem lk_L_116 : cLV RL 116 yX10_see cX10_see 6 (some .int) 4 := ⟨wm_1236, wm_1237, wm_1238, wm_74, wm_1239, by decide, by decide, by decide +kernel⟩
set_option maxRecDepth 100000 in
theorem lk_L_117 : cLV RL 117 yX9_forget cX9_forget 3 (some .int) 1 := ⟨wm_777, wm_778, wm_779, wm_64, wm_780, by decide, by decide, by decide +kernel⟩
set_option maxRecDepth 100000 in
theorem lk_L_120 : cLV RL 120 yX10_forget cX10_forget 3 (some .int) 1 := ⟨wm_1246, wm_1247, wm_1248, wm_74, wm_1249, by decide, by decide, by decide +kernel⟩
set_option maxRecDepth 100000 in
theorem lk_L_121 : cLV RL 121 yX9_fakes cX9_fakes 8 (some .int) 1 := ⟨wm_781, wm_782, wm_783, wm_64, wm_784, by decide, by decide, by decide +kernel⟩
set_option maxRecDepth 100000 in
theorem lk_L_124 : cLV RL 124 yX10_fakes cX10_fakes 9 (some .int) 1 := ⟨wm_1250, wm_1251, wm_1252, wm_74, wm_1253, by decide, by decide, by decide +kernel⟩
set_option maxRecDepth 100000 in
theorem lk_L_125 : cLV RL 125 yX9_wrong cX9_wrong 3 (some .int) 0 := ⟨wm_803, wm_804, wm_805, wm_64, wm_806, by decide, by decide, by decide +kernel⟩
set_option maxRecDepth 100000 in
theorem lk_L_128 : cLV RL 128 yX10_wrong cX10_wrong 3 (some .int) 0 := ⟨wm_1259, wm_1260, wm_1261, wm_74, wm_1262, by decide, by decide, by decide +kernel⟩
set_option maxRecDepth 100000 in
theorem lk_L_129 : cLV RL 129 yX9_gulls cX9_gulls 6 (some .int) 3 := ⟨wm_807, wm_808, wm_809, wm_64, wm_810, by decide, by decide, by decide +kernel⟩
set_option maxRecDepth 100000 in
theorem lk_L_133 : cLV RL 133 yX10_gulls cX10_gulls 8 (some .int) 3 := ⟨wm_1263, wm_1264, wm_1265, wm_74, wm_1266, by decide, by decide, by decide +kernel⟩
set_option maxRecDepth 100000 in
theorem lk_L_134 : cLV RL 134 yX9_keep cX9_keep 3 (some .int) 1 := ⟨wm_817, wm_818, wm_819, wm_64, wm_820, by decide, by decide, by decide +kernel⟩
set_option maxRecDepth 100000 in
theorem lk_L_137 : cLV RL 137 yX10_keep cX10_keep 3 (some .int) 1 := ⟨wm_1268, wm_1269, wm_1270, wm_74, wm_1271, by decide, by decide, by decide +kernel⟩
set_option maxRecDepth 100000 in
theorem lk_L_138 : cLV RL 138 yX9_back cX9_back 2 (some .int) 1 := ⟨wm_833, wm_834, wm_835, wm_64, wm_836, by decide, by decide, by decide +kernel⟩
set_option maxRecDepth 100000 in
theorem lk_L_141 : cLV RL 141 yX10_back cX10_back 2 (some .int) 1 := ⟨wm_1276, wm_1277, wm_1278, wm_74, wm_1279, by decide, by decide, by decide +kernel⟩
set_option maxRecDepth 100000 in
theorem lk_L_142 : cLV RL 142 yX9_sheet cX9_sheet 4 (some .int) 3 := ⟨wm_838, wm_839, wm_840, wm_64, wm_841, by decide, by decide, by decide +kernel⟩
set_option maxRecDepth 100000 in
theorem lk_L_145 : cLV RL 145 yX10_sheet cX10_sheet 5 (some .int) 3 := ⟨wm_1280, wm_1281, wm_1282, wm_74, wm_1283, by decide, by decide, by decide +kernel⟩
set_option maxRecDepth 100000 in
theorem lk_L_146 : cLV RL 146 yX9_lay cX9_lay 5 (some .int) 3 := ⟨wm_852, wm_853, wm_854, wm_64, wm_855, by decide, by decide, by decide +kernel⟩
set_option maxRecDepth 100000 in
theorem lk_L_149 : cLV RL 149 yX10_lay cX10_lay 4 (some .int) 3 := ⟨wm_1288, wm_1289, wm_1290, wm_74, wm_1291, by decide, by decide, by decide +kernel⟩
set_option maxRecDepth 100000 in
theorem lk_L_150 : cLV RL 150 yX9_read cX9_read 10 (some .int) 4 := ⟨wm_866, wm_867, wm_868, wm_64, wm_869, by decide, by decide, by decide +kernel⟩
set_option maxRecDepth 100000 in
theorem lk_L_154 : cLV RL 154 yX10_read cX10_read 12 (some .int) 4 := ⟨wm_1292, wm_1293, wm_1294, wm_74, wm_1295, by decide, by decide, by decide +kernel⟩
set_option maxRecDepth 100000 in
theorem lk_L_155 : cLV RL 155 yX9_torn cX9_torn 1 (some .int) 0 := ⟨wm_875, wm_876, wm_877, wm_64, wm_878, by decide, by decide, by decide +kernel⟩
set_option maxRecDepth 100000 in
theorem lk_L_158 : cLV RL 158 yX10_torn cX10_torn 1 (some .int) 0 := ⟨wm_1297, wm_1298, wm_1299, wm_74, wm_1300, by decide, by decide, by decide +kernel⟩
set_option maxRecDepth 100000 in
theorem lk_L_159 : cLV RL 159 yX9_count cX9_count 2 (some .int) 1 := ⟨wm_879, wm_880, wm_881, wm_64, wm_882, by decide, by decide, by decide +kernel⟩
set_option maxRecDepth 100000 in
theorem lk_L_162 : cLV RL 162 yX10_count cX10_count 6 (some .int) 1 := ⟨wm_1301, wm_1302, wm_1303, wm_74, wm_1304, by decide, by decide, by decide +kernel⟩
section LawRules
variable {Θ : Tht} {Γ : Ctx} {cc : ByteArray} {own : String} {nL : Nat} {R : Room} {pc n : Nat} {lv : List (Nat × Value)} {st : List Value} {h : Mem} {X l : va_W} {sz cells slots : Nat} {b L : Nat} {xs : Nat → Int32}
def HXs (Θ : Tht) (Γ : Ctx) (b L : Nat) (xs : Nat → Int32) : Prop := va_X b L xs (cS Γ) (cS Γ).heap ∧ b < (cS Γ).heap.size ∧ ¬ tA Θ b
theorem g_xld (C : Cx Θ Γ cc own nL R) {β : Type} {z : Option β} {K : β → Prop} {i : Int32} {dz : Decidable (inb i L)} (HX : HXs Θ Γ b L xs) (hd : decode cc pc = .ok (.iaload, 1)) (hn : pc + 1 = n) (hk : Ok (@gd _ (inb i L) dz z) K) (kk : Ok z K → G Θ Γ n lv (.int (xs i.toNatClampNeg) :: st) h) : G Θ Γ pc lv (.int i :: .ref b :: st) h := by
  subst hn
  exact fun H locs ls hP hS hl => va_sld C.ex C.bt HX.1 HX.2.1 HX.2.2 hS hk.gd.1 hd (kk hk.gd.2 H locs ls hP hS hl)
theorem g_xln (C : Cx Θ Γ cc own nL R) (HX : HXs Θ Γ b L xs) (hd : decode cc pc = .ok (.arraylength, 1)) (hn : pc + 1 = n) (kk : G Θ Γ n lv (.int (Int32.ofNat L) :: st) h) : G Θ Γ pc lv (.ref b :: st) h := by
  subst hn
  exact fun H locs ls hP hS hl => va_slen C.ex C.bt HX.1 HX.2.1 HX.2.2 hS hd (kk H locs ls hP hS hl)
theorem n_toG (hc : ∀ H, va_P (tD Θ) vwCl (X ++ l) H → va_P (tD Θ) vwCl (wd (tB Θ) (tC Θ) h) H) (hU : cU Γ = cells) (hV : cV Γ = slots) (kk : G Θ Γ pc lv st h) : Nw Θ Γ pc lv st X l sz cells slots := by
  subst hU
  subst hV
  exact fun H locs ls hz hP hD hS hL => kk H locs ls (hc H hP) hS hL
theorem CM.of {y : MethodName} {rm : Room} {av : List Value} {mc ms : Nat} (K : Mem → Prop) (lv : List (Nat × Value)) (hy : plainFor y = true) (hy1 : y.name = "<init>") (hl : (lg_sl av).length ≤ nL) (hlv : lv_args 0 av = lv) (hrc : rm.cells = mc ∧ rm.slots = ms)
    (body : ∀ Γ, Cx Θ Γ cc y.cls nL rm → tB Θ ≤ (cS Γ).heap.size → (cT Γ).name = "<init>" → cU Γ = mc → cV Γ = ms → RtV Θ Γ cc K → Nw Θ Γ 0 lv [] X l sz 0 0) : Met (tL Θ) y (.code y cc nL none :: WS) rm (va_Pc av (Pn Θ (X ++ l) sz)) (va_Qv (fun h' => K h') (Wd Θ) (tA Θ)) mc ms (tA Θ) := by
  refine Met.ofWF (cc := cc) (maxL := nL) (ret := none) hy rfl ?_
  intro p e s m args below meth c s₁ B hml hv
  have hts := atoms_spec (ws := .code y cc nL none :: WS) B.pre
  have hlocks := B.notSynchronized
  obtain ⟨rfl, hz, hb, hP, hD, hK, hX⟩ := hv
  have C : Cx Θ (p, e, rm, s, m, av.toArray, below, meth, c, nL, mc, ms, MQ below (va_Qv (fun h' => K h') (Wd Θ) (tA Θ)) av.toArray s mc ms (tA Θ)) cc y.cls nL rm := ⟨B.exec, B.bytes, hml, rfl, findClass_of_methodNamed B.named, fun w hw => hts w (List.mem_cons_of_mem _ hw), hK, hX, rfl, Nat.le_of_eq hrc.1.symm, Nat.le_of_eq hrc.2.symm⟩
  rw [lg_entry_eq]
  refine body _ C (by rw [← hz] at hb; exact hb) ((name_of_methodNamed B.named B.method).1.trans hy1) rfl rfl (fun pc lv h' hd hk H locs ls hP' hS' hL' => ?_) s.heap [] _ hz hP hD va_S.rf (by rw [← hlv]; exact lv_entry av hl)
  exact W.vret B.exec B.bytes B.returns (fun t ht hW => ⟨⟨h', rfl, hk, by rw [ht]; exact hP', va_K.moved hW.alike hK, hX.go hS' ht hW⟩, hS'.F ht⟩) hS'.2.2 hd hlocks
end LawRules
def f_X10_init (h : Mem) : Option Mem := obd (lp fu (fun a7 => (if (4 : Int32) ≤ a7.1 then some (.inr a7.2) else gd (inb a7.1 4) (bnd (up a7.2 40 0 0 a7.1.toNatClampNeg (-4 : Int32)) (fun h8 => bnd (a7.1 + (1 : Int32)) (fun x9 => some (.inl (x9, h8))))))) ((0 : Int32), h)) (fun e10 => obd (f_X10_firstDraft e10) (fun h11 => obd (f_X10_keepDraft h11) (fun h12 => some h12)))
def rm_X10_init : Room := { frames := 1, cells := 18, slots := 858, locals := 21 }
set_option maxHeartbeats 4000000 in
set_option maxRecDepth 100000 in
theorem C_model (Θ : Tht) (a : Nat) (ha : a = tB Θ + 109) (K : Mem → Prop) (hk : Ok (f_X10_init hInit) K) : Met (tL Θ) yX10_init (.code yX10_init cX10_init 2 none :: WS) rm_X10_init (va_Pc [.ref a] (Pn Θ (kMint Θ (tB Θ) ++ [(a, .inr (10, [.null, .null, .int 0, .int 0, .null, .int 0, .int 0, .int 0, .int 0, .null, .int 0, .int 0, .int 0, .int 0, .int 0, .int 0, .int 0, .null, .null, .null, .null, .null, .null, .null, .null, .null, .int 0, .int 0, .null, .null, .null, .null, .null, .int 0]))]) (a + 1))) (va_Qv (fun h' => K h') (Wd Θ) (tA Θ)) 18 858 (tA Θ) := by
  refine CM.of K [(0, .ref a)] (plainFor_of_name (by decide)) rfl (Nat.le_of_ble_eq_true rfl) rfl ⟨rfl, rfl⟩ (fun Γ C hB hN hU hV Rt => ?_)
  refine n_aload_n C 0 dX10_init_0 rfl rfl (n := 1) rfl ?_
  refine n_obj C wm_888 wm_87 wn_88 dX10_init_1 ⟨Nat.le_of_ble_eq_true rfl, Nat.le_of_ble_eq_true rfl⟩ (n := 4) rfl ?_
  refine n_aload_n C 0 dX10_init_4 rfl rfl (n := 5) rfl ?_
  refine n_sipush C (237 : Int32) dX10_init_5 (by decide) (n := 8) rfl ?_
  refine n_newa C hB 0 237 (ty := .int) rfl rfl (fun _ h => h) wn_127 (fun _ => rfl) (by decide) (by decide) (by decide) (Nat.le_of_ble_eq_true rfl) (Nat.le_of_ble_eq_true rfl) dX10_init_8 (n := 10) rfl (z' := a + 2) (c' := 1) (s' := 237) rfl rfl rfl [(a, .inr (10, [.null, .null, .int 0, .int 0, .null, .int 0, .int 0, .int 0, .int 0, .null, .int 0, .int 0, .int 0, .int 0, .int 0, .int 0, .int 0, .null, .null, .null, .null, .null, .null, .null, .null, .null, .int 0, .int 0, .null, .null, .null, .null, .null, .int 0])), ((a + 1), .inl (tC Θ 0, 237, .inl (fun _ => 0)))] rfl ?_
  refine n_putF C hN (j := 0) 0 [(a, .inr (10, [.ref (a + 1), .null, .int 0, .int 0, .null, .int 0, .int 0, .int 0, .int 0, .null, .int 0, .int 0, .int 0, .int 0, .int 0, .int 0, .int 0, .null, .null, .null, .null, .null, .null, .null, .null, .null, .int 0, .int 0, .null, .null, .null, .null, .null, .int 0])), ((a + 1), .inl (tC Θ 0, 237, .inl (fun _ => 0)))] kc_24 rfl rfl rfl (by decide) rfl ⟨rfl, rfl⟩ wm_897 dX10_init_10 (n := 13) rfl rfl ?_
  refine n_aload_n C 0 dX10_init_13 rfl rfl (n := 14) rfl ?_
  refine n_iconst C (2 : Int32) dX10_init_14 (by decide) (n := 15) rfl ?_
  refine n_newa C hB 2 2 (ty := .boolean) rfl rfl (fun _ h => h) wn_235 (fun _ => rfl) (by decide) (by decide) (by decide) (Nat.le_of_ble_eq_true rfl) (Nat.le_of_ble_eq_true rfl) dX10_init_15 (n := 17) rfl (z' := a + 3) (c' := 2) (s' := 239) rfl rfl rfl [(a, .inr (10, [.ref (a + 1), .null, .int 0, .int 0, .null, .int 0, .int 0, .int 0, .int 0, .null, .int 0, .int 0, .int 0, .int 0, .int 0, .int 0, .int 0, .null, .null, .null, .null, .null, .null, .null, .null, .null, .int 0, .int 0, .null, .null, .null, .null, .null, .int 0])), ((a + 1), .inl (tC Θ 0, 237, .inl (fun _ => 0))), ((a + 2), .inl (tC Θ 2, 2, .inl (fun _ => 0)))] rfl ?_
  refine n_putF C hN (j := 1) 0 [(a, .inr (10, [.ref (a + 1), .ref (a + 2), .int 0, .int 0, .null, .int 0, .int 0, .int 0, .int 0, .null, .int 0, .int 0, .int 0, .int 0, .int 0, .int 0, .int 0, .null, .null, .null, .null, .null, .null, .null, .null, .null, .int 0, .int 0, .null, .null, .null, .null, .null, .int 0])), ((a + 1), .inl (tC Θ 0, 237, .inl (fun _ => 0))), ((a + 2), .inl (tC Θ 2, 2, .inl (fun _ => 0)))] kc_24 rfl rfl rfl (by decide) rfl ⟨rfl, rfl⟩ wm_898 dX10_init_17 (n := 20) rfl rfl ?_
  refine n_aload_n C 0 dX10_init_20 rfl rfl (n := 21) rfl ?_
  refine n_bipush C (79 : Int32) dX10_init_21 (by decide) (n := 23) rfl ?_
  refine n_newa C hB 0 79 (ty := .int) rfl rfl (fun _ h => h) wn_127 (fun _ => rfl) (by decide) (by decide) (by decide) (Nat.le_of_ble_eq_true rfl) (Nat.le_of_ble_eq_true rfl) dX10_init_23 (n := 25) rfl (z' := a + 4) (c' := 3) (s' := 318) rfl rfl rfl [(a, .inr (10, [.ref (a + 1), .ref (a + 2), .int 0, .int 0, .null, .int 0, .int 0, .int 0, .int 0, .null, .int 0, .int 0, .int 0, .int 0, .int 0, .int 0, .int 0, .null, .null, .null, .null, .null, .null, .null, .null, .null, .int 0, .int 0, .null, .null, .null, .null, .null, .int 0])), ((a + 1), .inl (tC Θ 0, 237, .inl (fun _ => 0))), ((a + 2), .inl (tC Θ 2, 2, .inl (fun _ => 0))), ((a + 3), .inl (tC Θ 0, 79, .inl (fun _ => 0)))] rfl ?_
  refine n_putF C hN (j := 4) 0 [(a, .inr (10, [.ref (a + 1), .ref (a + 2), .int 0, .int 0, .ref (a + 3), .int 0, .int 0, .int 0, .int 0, .null, .int 0, .int 0, .int 0, .int 0, .int 0, .int 0, .int 0, .null, .null, .null, .null, .null, .null, .null, .null, .null, .int 0, .int 0, .null, .null, .null, .null, .null, .int 0])), ((a + 1), .inl (tC Θ 0, 237, .inl (fun _ => 0))), ((a + 2), .inl (tC Θ 2, 2, .inl (fun _ => 0))), ((a + 3), .inl (tC Θ 0, 79, .inl (fun _ => 0)))] kc_24 rfl rfl rfl (by decide) rfl ⟨rfl, rfl⟩ wm_901 dX10_init_25 (n := 28) rfl rfl ?_
  refine n_aload_n C 0 dX10_init_28 rfl rfl (n := 29) rfl ?_
  refine n_sipush C (320 : Int32) dX10_init_29 (by decide) (n := 32) rfl ?_
  refine n_newa C hB 0 320 (ty := .int) rfl rfl (fun _ h => h) wn_127 (fun _ => rfl) (by decide) (by decide) (by decide) (Nat.le_of_ble_eq_true rfl) (Nat.le_of_ble_eq_true rfl) dX10_init_32 (n := 34) rfl (z' := a + 5) (c' := 4) (s' := 638) rfl rfl rfl [(a, .inr (10, [.ref (a + 1), .ref (a + 2), .int 0, .int 0, .ref (a + 3), .int 0, .int 0, .int 0, .int 0, .null, .int 0, .int 0, .int 0, .int 0, .int 0, .int 0, .int 0, .null, .null, .null, .null, .null, .null, .null, .null, .null, .int 0, .int 0, .null, .null, .null, .null, .null, .int 0])), ((a + 1), .inl (tC Θ 0, 237, .inl (fun _ => 0))), ((a + 2), .inl (tC Θ 2, 2, .inl (fun _ => 0))), ((a + 3), .inl (tC Θ 0, 79, .inl (fun _ => 0))), ((a + 4), .inl (tC Θ 0, 320, .inl (fun _ => 0)))] rfl ?_
  refine n_putF C hN (j := 9) 0 [(a, .inr (10, [.ref (a + 1), .ref (a + 2), .int 0, .int 0, .ref (a + 3), .int 0, .int 0, .int 0, .int 0, .ref (a + 4), .int 0, .int 0, .int 0, .int 0, .int 0, .int 0, .int 0, .null, .null, .null, .null, .null, .null, .null, .null, .null, .int 0, .int 0, .null, .null, .null, .null, .null, .int 0])), ((a + 1), .inl (tC Θ 0, 237, .inl (fun _ => 0))), ((a + 2), .inl (tC Θ 2, 2, .inl (fun _ => 0))), ((a + 3), .inl (tC Θ 0, 79, .inl (fun _ => 0))), ((a + 4), .inl (tC Θ 0, 320, .inl (fun _ => 0)))] kc_24 rfl rfl rfl (by decide) rfl ⟨rfl, rfl⟩ wm_906 dX10_init_34 (n := 37) rfl rfl ?_
  refine n_aload_n C 0 dX10_init_37 rfl rfl (n := 38) rfl ?_
  refine n_bipush C (8 : Int32) dX10_init_38 (by decide) (n := 40) rfl ?_
  refine n_newa C hB 0 8 (ty := .int) rfl rfl (fun _ h => h) wn_127 (fun _ => rfl) (by decide) (by decide) (by decide) (Nat.le_of_ble_eq_true rfl) (Nat.le_of_ble_eq_true rfl) dX10_init_40 (n := 42) rfl (z' := a + 6) (c' := 5) (s' := 646) rfl rfl rfl [(a, .inr (10, [.ref (a + 1), .ref (a + 2), .int 0, .int 0, .ref (a + 3), .int 0, .int 0, .int 0, .int 0, .ref (a + 4), .int 0, .int 0, .int 0, .int 0, .int 0, .int 0, .int 0, .null, .null, .null, .null, .null, .null, .null, .null, .null, .int 0, .int 0, .null, .null, .null, .null, .null, .int 0])), ((a + 1), .inl (tC Θ 0, 237, .inl (fun _ => 0))), ((a + 2), .inl (tC Θ 2, 2, .inl (fun _ => 0))), ((a + 3), .inl (tC Θ 0, 79, .inl (fun _ => 0))), ((a + 4), .inl (tC Θ 0, 320, .inl (fun _ => 0))), ((a + 5), .inl (tC Θ 0, 8, .inl (fun _ => 0)))] rfl ?_
  refine n_putF C hN (j := 17) 0 [(a, .inr (10, [.ref (a + 1), .ref (a + 2), .int 0, .int 0, .ref (a + 3), .int 0, .int 0, .int 0, .int 0, .ref (a + 4), .int 0, .int 0, .int 0, .int 0, .int 0, .int 0, .int 0, .ref (a + 5), .null, .null, .null, .null, .null, .null, .null, .null, .int 0, .int 0, .null, .null, .null, .null, .null, .int 0])), ((a + 1), .inl (tC Θ 0, 237, .inl (fun _ => 0))), ((a + 2), .inl (tC Θ 2, 2, .inl (fun _ => 0))), ((a + 3), .inl (tC Θ 0, 79, .inl (fun _ => 0))), ((a + 4), .inl (tC Θ 0, 320, .inl (fun _ => 0))), ((a + 5), .inl (tC Θ 0, 8, .inl (fun _ => 0)))] kc_24 rfl rfl rfl (by decide) rfl ⟨rfl, rfl⟩ wm_914 dX10_init_42 (n := 45) rfl rfl ?_
  refine n_aload_n C 0 dX10_init_45 rfl rfl (n := 46) rfl ?_
  refine n_bipush C (6 : Int32) dX10_init_46 (by decide) (n := 48) rfl ?_
  refine n_newa C hB 0 6 (ty := .int) rfl rfl (fun _ h => h) wn_127 (fun _ => rfl) (by decide) (by decide) (by decide) (Nat.le_of_ble_eq_true rfl) (Nat.le_of_ble_eq_true rfl) dX10_init_48 (n := 50) rfl (z' := a + 7) (c' := 6) (s' := 652) rfl rfl rfl [(a, .inr (10, [.ref (a + 1), .ref (a + 2), .int 0, .int 0, .ref (a + 3), .int 0, .int 0, .int 0, .int 0, .ref (a + 4), .int 0, .int 0, .int 0, .int 0, .int 0, .int 0, .int 0, .ref (a + 5), .null, .null, .null, .null, .null, .null, .null, .null, .int 0, .int 0, .null, .null, .null, .null, .null, .int 0])), ((a + 1), .inl (tC Θ 0, 237, .inl (fun _ => 0))), ((a + 2), .inl (tC Θ 2, 2, .inl (fun _ => 0))), ((a + 3), .inl (tC Θ 0, 79, .inl (fun _ => 0))), ((a + 4), .inl (tC Θ 0, 320, .inl (fun _ => 0))), ((a + 5), .inl (tC Θ 0, 8, .inl (fun _ => 0))), ((a + 6), .inl (tC Θ 0, 6, .inl (fun _ => 0)))] rfl ?_
  refine n_putF C hN (j := 18) 0 [(a, .inr (10, [.ref (a + 1), .ref (a + 2), .int 0, .int 0, .ref (a + 3), .int 0, .int 0, .int 0, .int 0, .ref (a + 4), .int 0, .int 0, .int 0, .int 0, .int 0, .int 0, .int 0, .ref (a + 5), .ref (a + 6), .null, .null, .null, .null, .null, .null, .null, .int 0, .int 0, .null, .null, .null, .null, .null, .int 0])), ((a + 1), .inl (tC Θ 0, 237, .inl (fun _ => 0))), ((a + 2), .inl (tC Θ 2, 2, .inl (fun _ => 0))), ((a + 3), .inl (tC Θ 0, 79, .inl (fun _ => 0))), ((a + 4), .inl (tC Θ 0, 320, .inl (fun _ => 0))), ((a + 5), .inl (tC Θ 0, 8, .inl (fun _ => 0))), ((a + 6), .inl (tC Θ 0, 6, .inl (fun _ => 0)))] kc_24 rfl rfl rfl (by decide) rfl ⟨rfl, rfl⟩ wm_915 dX10_init_50 (n := 53) rfl rfl ?_
  refine n_aload_n C 0 dX10_init_53 rfl rfl (n := 54) rfl ?_
  refine n_bipush C (6 : Int32) dX10_init_54 (by decide) (n := 56) rfl ?_
  refine n_newa C hB 0 6 (ty := .int) rfl rfl (fun _ h => h) wn_127 (fun _ => rfl) (by decide) (by decide) (by decide) (Nat.le_of_ble_eq_true rfl) (Nat.le_of_ble_eq_true rfl) dX10_init_56 (n := 58) rfl (z' := a + 8) (c' := 7) (s' := 658) rfl rfl rfl [(a, .inr (10, [.ref (a + 1), .ref (a + 2), .int 0, .int 0, .ref (a + 3), .int 0, .int 0, .int 0, .int 0, .ref (a + 4), .int 0, .int 0, .int 0, .int 0, .int 0, .int 0, .int 0, .ref (a + 5), .ref (a + 6), .null, .null, .null, .null, .null, .null, .null, .int 0, .int 0, .null, .null, .null, .null, .null, .int 0])), ((a + 1), .inl (tC Θ 0, 237, .inl (fun _ => 0))), ((a + 2), .inl (tC Θ 2, 2, .inl (fun _ => 0))), ((a + 3), .inl (tC Θ 0, 79, .inl (fun _ => 0))), ((a + 4), .inl (tC Θ 0, 320, .inl (fun _ => 0))), ((a + 5), .inl (tC Θ 0, 8, .inl (fun _ => 0))), ((a + 6), .inl (tC Θ 0, 6, .inl (fun _ => 0))), ((a + 7), .inl (tC Θ 0, 6, .inl (fun _ => 0)))] rfl ?_
  refine n_putF C hN (j := 19) 0 [(a, .inr (10, [.ref (a + 1), .ref (a + 2), .int 0, .int 0, .ref (a + 3), .int 0, .int 0, .int 0, .int 0, .ref (a + 4), .int 0, .int 0, .int 0, .int 0, .int 0, .int 0, .int 0, .ref (a + 5), .ref (a + 6), .ref (a + 7), .null, .null, .null, .null, .null, .null, .int 0, .int 0, .null, .null, .null, .null, .null, .int 0])), ((a + 1), .inl (tC Θ 0, 237, .inl (fun _ => 0))), ((a + 2), .inl (tC Θ 2, 2, .inl (fun _ => 0))), ((a + 3), .inl (tC Θ 0, 79, .inl (fun _ => 0))), ((a + 4), .inl (tC Θ 0, 320, .inl (fun _ => 0))), ((a + 5), .inl (tC Θ 0, 8, .inl (fun _ => 0))), ((a + 6), .inl (tC Θ 0, 6, .inl (fun _ => 0))), ((a + 7), .inl (tC Θ 0, 6, .inl (fun _ => 0)))] kc_24 rfl rfl rfl (by decide) rfl ⟨rfl, rfl⟩ wm_916 dX10_init_58 (n := 61) rfl rfl ?_
  refine n_aload_n C 0 dX10_init_61 rfl rfl (n := 62) rfl ?_
  refine n_iconst C (4 : Int32) dX10_init_62 (by decide) (n := 63) rfl ?_
  refine n_newa C hB 0 4 (ty := .int) rfl rfl (fun _ h => h) wn_127 (fun _ => rfl) (by decide) (by decide) (by decide) (Nat.le_of_ble_eq_true rfl) (Nat.le_of_ble_eq_true rfl) dX10_init_63 (n := 65) rfl (z' := a + 9) (c' := 8) (s' := 662) rfl rfl rfl [(a, .inr (10, [.ref (a + 1), .ref (a + 2), .int 0, .int 0, .ref (a + 3), .int 0, .int 0, .int 0, .int 0, .ref (a + 4), .int 0, .int 0, .int 0, .int 0, .int 0, .int 0, .int 0, .ref (a + 5), .ref (a + 6), .ref (a + 7), .null, .null, .null, .null, .null, .null, .int 0, .int 0, .null, .null, .null, .null, .null, .int 0])), ((a + 1), .inl (tC Θ 0, 237, .inl (fun _ => 0))), ((a + 2), .inl (tC Θ 2, 2, .inl (fun _ => 0))), ((a + 3), .inl (tC Θ 0, 79, .inl (fun _ => 0))), ((a + 4), .inl (tC Θ 0, 320, .inl (fun _ => 0))), ((a + 5), .inl (tC Θ 0, 8, .inl (fun _ => 0))), ((a + 6), .inl (tC Θ 0, 6, .inl (fun _ => 0))), ((a + 7), .inl (tC Θ 0, 6, .inl (fun _ => 0))), ((a + 8), .inl (tC Θ 0, 4, .inl (fun _ => 0)))] rfl ?_
  refine n_putF C hN (j := 20) 0 [(a, .inr (10, [.ref (a + 1), .ref (a + 2), .int 0, .int 0, .ref (a + 3), .int 0, .int 0, .int 0, .int 0, .ref (a + 4), .int 0, .int 0, .int 0, .int 0, .int 0, .int 0, .int 0, .ref (a + 5), .ref (a + 6), .ref (a + 7), .ref (a + 8), .null, .null, .null, .null, .null, .int 0, .int 0, .null, .null, .null, .null, .null, .int 0])), ((a + 1), .inl (tC Θ 0, 237, .inl (fun _ => 0))), ((a + 2), .inl (tC Θ 2, 2, .inl (fun _ => 0))), ((a + 3), .inl (tC Θ 0, 79, .inl (fun _ => 0))), ((a + 4), .inl (tC Θ 0, 320, .inl (fun _ => 0))), ((a + 5), .inl (tC Θ 0, 8, .inl (fun _ => 0))), ((a + 6), .inl (tC Θ 0, 6, .inl (fun _ => 0))), ((a + 7), .inl (tC Θ 0, 6, .inl (fun _ => 0))), ((a + 8), .inl (tC Θ 0, 4, .inl (fun _ => 0)))] kc_24 rfl rfl rfl (by decide) rfl ⟨rfl, rfl⟩ wm_917 dX10_init_65 (n := 68) rfl rfl ?_
  refine n_aload_n C 0 dX10_init_68 rfl rfl (n := 69) rfl ?_
  refine n_iconst C (4 : Int32) dX10_init_69 (by decide) (n := 70) rfl ?_
  refine n_newa C hB 0 4 (ty := .int) rfl rfl (fun _ h => h) wn_127 (fun _ => rfl) (by decide) (by decide) (by decide) (Nat.le_of_ble_eq_true rfl) (Nat.le_of_ble_eq_true rfl) dX10_init_70 (n := 72) rfl (z' := a + 10) (c' := 9) (s' := 666) rfl rfl rfl [(a, .inr (10, [.ref (a + 1), .ref (a + 2), .int 0, .int 0, .ref (a + 3), .int 0, .int 0, .int 0, .int 0, .ref (a + 4), .int 0, .int 0, .int 0, .int 0, .int 0, .int 0, .int 0, .ref (a + 5), .ref (a + 6), .ref (a + 7), .ref (a + 8), .null, .null, .null, .null, .null, .int 0, .int 0, .null, .null, .null, .null, .null, .int 0])), ((a + 1), .inl (tC Θ 0, 237, .inl (fun _ => 0))), ((a + 2), .inl (tC Θ 2, 2, .inl (fun _ => 0))), ((a + 3), .inl (tC Θ 0, 79, .inl (fun _ => 0))), ((a + 4), .inl (tC Θ 0, 320, .inl (fun _ => 0))), ((a + 5), .inl (tC Θ 0, 8, .inl (fun _ => 0))), ((a + 6), .inl (tC Θ 0, 6, .inl (fun _ => 0))), ((a + 7), .inl (tC Θ 0, 6, .inl (fun _ => 0))), ((a + 8), .inl (tC Θ 0, 4, .inl (fun _ => 0))), ((a + 9), .inl (tC Θ 0, 4, .inl (fun _ => 0)))] rfl ?_
  refine n_putF C hN (j := 21) 0 [(a, .inr (10, [.ref (a + 1), .ref (a + 2), .int 0, .int 0, .ref (a + 3), .int 0, .int 0, .int 0, .int 0, .ref (a + 4), .int 0, .int 0, .int 0, .int 0, .int 0, .int 0, .int 0, .ref (a + 5), .ref (a + 6), .ref (a + 7), .ref (a + 8), .ref (a + 9), .null, .null, .null, .null, .int 0, .int 0, .null, .null, .null, .null, .null, .int 0])), ((a + 1), .inl (tC Θ 0, 237, .inl (fun _ => 0))), ((a + 2), .inl (tC Θ 2, 2, .inl (fun _ => 0))), ((a + 3), .inl (tC Θ 0, 79, .inl (fun _ => 0))), ((a + 4), .inl (tC Θ 0, 320, .inl (fun _ => 0))), ((a + 5), .inl (tC Θ 0, 8, .inl (fun _ => 0))), ((a + 6), .inl (tC Θ 0, 6, .inl (fun _ => 0))), ((a + 7), .inl (tC Θ 0, 6, .inl (fun _ => 0))), ((a + 8), .inl (tC Θ 0, 4, .inl (fun _ => 0))), ((a + 9), .inl (tC Θ 0, 4, .inl (fun _ => 0)))] kc_24 rfl rfl rfl (by decide) rfl ⟨rfl, rfl⟩ wm_918 dX10_init_72 (n := 75) rfl rfl ?_
  refine n_aload_n C 0 dX10_init_75 rfl rfl (n := 76) rfl ?_
  refine n_iconst C (4 : Int32) dX10_init_76 (by decide) (n := 77) rfl ?_
  refine n_newa C hB 0 4 (ty := .int) rfl rfl (fun _ h => h) wn_127 (fun _ => rfl) (by decide) (by decide) (by decide) (Nat.le_of_ble_eq_true rfl) (Nat.le_of_ble_eq_true rfl) dX10_init_77 (n := 79) rfl (z' := a + 11) (c' := 10) (s' := 670) rfl rfl rfl [(a, .inr (10, [.ref (a + 1), .ref (a + 2), .int 0, .int 0, .ref (a + 3), .int 0, .int 0, .int 0, .int 0, .ref (a + 4), .int 0, .int 0, .int 0, .int 0, .int 0, .int 0, .int 0, .ref (a + 5), .ref (a + 6), .ref (a + 7), .ref (a + 8), .ref (a + 9), .null, .null, .null, .null, .int 0, .int 0, .null, .null, .null, .null, .null, .int 0])), ((a + 1), .inl (tC Θ 0, 237, .inl (fun _ => 0))), ((a + 2), .inl (tC Θ 2, 2, .inl (fun _ => 0))), ((a + 3), .inl (tC Θ 0, 79, .inl (fun _ => 0))), ((a + 4), .inl (tC Θ 0, 320, .inl (fun _ => 0))), ((a + 5), .inl (tC Θ 0, 8, .inl (fun _ => 0))), ((a + 6), .inl (tC Θ 0, 6, .inl (fun _ => 0))), ((a + 7), .inl (tC Θ 0, 6, .inl (fun _ => 0))), ((a + 8), .inl (tC Θ 0, 4, .inl (fun _ => 0))), ((a + 9), .inl (tC Θ 0, 4, .inl (fun _ => 0))), ((a + 10), .inl (tC Θ 0, 4, .inl (fun _ => 0)))] rfl ?_
  refine n_putF C hN (j := 22) 0 [(a, .inr (10, [.ref (a + 1), .ref (a + 2), .int 0, .int 0, .ref (a + 3), .int 0, .int 0, .int 0, .int 0, .ref (a + 4), .int 0, .int 0, .int 0, .int 0, .int 0, .int 0, .int 0, .ref (a + 5), .ref (a + 6), .ref (a + 7), .ref (a + 8), .ref (a + 9), .ref (a + 10), .null, .null, .null, .int 0, .int 0, .null, .null, .null, .null, .null, .int 0])), ((a + 1), .inl (tC Θ 0, 237, .inl (fun _ => 0))), ((a + 2), .inl (tC Θ 2, 2, .inl (fun _ => 0))), ((a + 3), .inl (tC Θ 0, 79, .inl (fun _ => 0))), ((a + 4), .inl (tC Θ 0, 320, .inl (fun _ => 0))), ((a + 5), .inl (tC Θ 0, 8, .inl (fun _ => 0))), ((a + 6), .inl (tC Θ 0, 6, .inl (fun _ => 0))), ((a + 7), .inl (tC Θ 0, 6, .inl (fun _ => 0))), ((a + 8), .inl (tC Θ 0, 4, .inl (fun _ => 0))), ((a + 9), .inl (tC Θ 0, 4, .inl (fun _ => 0))), ((a + 10), .inl (tC Θ 0, 4, .inl (fun _ => 0)))] kc_24 rfl rfl rfl (by decide) rfl ⟨rfl, rfl⟩ wm_919 dX10_init_79 (n := 82) rfl rfl ?_
  refine n_aload_n C 0 dX10_init_82 rfl rfl (n := 83) rfl ?_
  refine n_iconst C (4 : Int32) dX10_init_83 (by decide) (n := 84) rfl ?_
  refine n_newa C hB 0 4 (ty := .int) rfl rfl (fun _ h => h) wn_127 (fun _ => rfl) (by decide) (by decide) (by decide) (Nat.le_of_ble_eq_true rfl) (Nat.le_of_ble_eq_true rfl) dX10_init_84 (n := 86) rfl (z' := a + 12) (c' := 11) (s' := 674) rfl rfl rfl [(a, .inr (10, [.ref (a + 1), .ref (a + 2), .int 0, .int 0, .ref (a + 3), .int 0, .int 0, .int 0, .int 0, .ref (a + 4), .int 0, .int 0, .int 0, .int 0, .int 0, .int 0, .int 0, .ref (a + 5), .ref (a + 6), .ref (a + 7), .ref (a + 8), .ref (a + 9), .ref (a + 10), .null, .null, .null, .int 0, .int 0, .null, .null, .null, .null, .null, .int 0])), ((a + 1), .inl (tC Θ 0, 237, .inl (fun _ => 0))), ((a + 2), .inl (tC Θ 2, 2, .inl (fun _ => 0))), ((a + 3), .inl (tC Θ 0, 79, .inl (fun _ => 0))), ((a + 4), .inl (tC Θ 0, 320, .inl (fun _ => 0))), ((a + 5), .inl (tC Θ 0, 8, .inl (fun _ => 0))), ((a + 6), .inl (tC Θ 0, 6, .inl (fun _ => 0))), ((a + 7), .inl (tC Θ 0, 6, .inl (fun _ => 0))), ((a + 8), .inl (tC Θ 0, 4, .inl (fun _ => 0))), ((a + 9), .inl (tC Θ 0, 4, .inl (fun _ => 0))), ((a + 10), .inl (tC Θ 0, 4, .inl (fun _ => 0))), ((a + 11), .inl (tC Θ 0, 4, .inl (fun _ => 0)))] rfl ?_
  refine n_putF C hN (j := 23) 0 [(a, .inr (10, [.ref (a + 1), .ref (a + 2), .int 0, .int 0, .ref (a + 3), .int 0, .int 0, .int 0, .int 0, .ref (a + 4), .int 0, .int 0, .int 0, .int 0, .int 0, .int 0, .int 0, .ref (a + 5), .ref (a + 6), .ref (a + 7), .ref (a + 8), .ref (a + 9), .ref (a + 10), .ref (a + 11), .null, .null, .int 0, .int 0, .null, .null, .null, .null, .null, .int 0])), ((a + 1), .inl (tC Θ 0, 237, .inl (fun _ => 0))), ((a + 2), .inl (tC Θ 2, 2, .inl (fun _ => 0))), ((a + 3), .inl (tC Θ 0, 79, .inl (fun _ => 0))), ((a + 4), .inl (tC Θ 0, 320, .inl (fun _ => 0))), ((a + 5), .inl (tC Θ 0, 8, .inl (fun _ => 0))), ((a + 6), .inl (tC Θ 0, 6, .inl (fun _ => 0))), ((a + 7), .inl (tC Θ 0, 6, .inl (fun _ => 0))), ((a + 8), .inl (tC Θ 0, 4, .inl (fun _ => 0))), ((a + 9), .inl (tC Θ 0, 4, .inl (fun _ => 0))), ((a + 10), .inl (tC Θ 0, 4, .inl (fun _ => 0))), ((a + 11), .inl (tC Θ 0, 4, .inl (fun _ => 0)))] kc_24 rfl rfl rfl (by decide) rfl ⟨rfl, rfl⟩ wm_920 dX10_init_86 (n := 89) rfl rfl ?_
  refine n_aload_n C 0 dX10_init_89 rfl rfl (n := 90) rfl ?_
  refine n_iconst C (4 : Int32) dX10_init_90 (by decide) (n := 91) rfl ?_
  refine n_newa C hB 0 4 (ty := .int) rfl rfl (fun _ h => h) wn_127 (fun _ => rfl) (by decide) (by decide) (by decide) (Nat.le_of_ble_eq_true rfl) (Nat.le_of_ble_eq_true rfl) dX10_init_91 (n := 93) rfl (z' := a + 13) (c' := 12) (s' := 678) rfl rfl rfl [(a, .inr (10, [.ref (a + 1), .ref (a + 2), .int 0, .int 0, .ref (a + 3), .int 0, .int 0, .int 0, .int 0, .ref (a + 4), .int 0, .int 0, .int 0, .int 0, .int 0, .int 0, .int 0, .ref (a + 5), .ref (a + 6), .ref (a + 7), .ref (a + 8), .ref (a + 9), .ref (a + 10), .ref (a + 11), .null, .null, .int 0, .int 0, .null, .null, .null, .null, .null, .int 0])), ((a + 1), .inl (tC Θ 0, 237, .inl (fun _ => 0))), ((a + 2), .inl (tC Θ 2, 2, .inl (fun _ => 0))), ((a + 3), .inl (tC Θ 0, 79, .inl (fun _ => 0))), ((a + 4), .inl (tC Θ 0, 320, .inl (fun _ => 0))), ((a + 5), .inl (tC Θ 0, 8, .inl (fun _ => 0))), ((a + 6), .inl (tC Θ 0, 6, .inl (fun _ => 0))), ((a + 7), .inl (tC Θ 0, 6, .inl (fun _ => 0))), ((a + 8), .inl (tC Θ 0, 4, .inl (fun _ => 0))), ((a + 9), .inl (tC Θ 0, 4, .inl (fun _ => 0))), ((a + 10), .inl (tC Θ 0, 4, .inl (fun _ => 0))), ((a + 11), .inl (tC Θ 0, 4, .inl (fun _ => 0))), ((a + 12), .inl (tC Θ 0, 4, .inl (fun _ => 0)))] rfl ?_
  refine n_putF C hN (j := 24) 0 [(a, .inr (10, [.ref (a + 1), .ref (a + 2), .int 0, .int 0, .ref (a + 3), .int 0, .int 0, .int 0, .int 0, .ref (a + 4), .int 0, .int 0, .int 0, .int 0, .int 0, .int 0, .int 0, .ref (a + 5), .ref (a + 6), .ref (a + 7), .ref (a + 8), .ref (a + 9), .ref (a + 10), .ref (a + 11), .ref (a + 12), .null, .int 0, .int 0, .null, .null, .null, .null, .null, .int 0])), ((a + 1), .inl (tC Θ 0, 237, .inl (fun _ => 0))), ((a + 2), .inl (tC Θ 2, 2, .inl (fun _ => 0))), ((a + 3), .inl (tC Θ 0, 79, .inl (fun _ => 0))), ((a + 4), .inl (tC Θ 0, 320, .inl (fun _ => 0))), ((a + 5), .inl (tC Θ 0, 8, .inl (fun _ => 0))), ((a + 6), .inl (tC Θ 0, 6, .inl (fun _ => 0))), ((a + 7), .inl (tC Θ 0, 6, .inl (fun _ => 0))), ((a + 8), .inl (tC Θ 0, 4, .inl (fun _ => 0))), ((a + 9), .inl (tC Θ 0, 4, .inl (fun _ => 0))), ((a + 10), .inl (tC Θ 0, 4, .inl (fun _ => 0))), ((a + 11), .inl (tC Θ 0, 4, .inl (fun _ => 0))), ((a + 12), .inl (tC Θ 0, 4, .inl (fun _ => 0)))] kc_24 rfl rfl rfl (by decide) rfl ⟨rfl, rfl⟩ wm_921 dX10_init_93 (n := 96) rfl rfl ?_
  refine n_aload_n C 0 dX10_init_96 rfl rfl (n := 97) rfl ?_
  refine n_iconst C (4 : Int32) dX10_init_97 (by decide) (n := 98) rfl ?_
  refine n_newa C hB 2 4 (ty := .boolean) rfl rfl (fun _ h => h) wn_235 (fun _ => rfl) (by decide) (by decide) (by decide) (Nat.le_of_ble_eq_true rfl) (Nat.le_of_ble_eq_true rfl) dX10_init_98 (n := 100) rfl (z' := a + 14) (c' := 13) (s' := 682) rfl rfl rfl [(a, .inr (10, [.ref (a + 1), .ref (a + 2), .int 0, .int 0, .ref (a + 3), .int 0, .int 0, .int 0, .int 0, .ref (a + 4), .int 0, .int 0, .int 0, .int 0, .int 0, .int 0, .int 0, .ref (a + 5), .ref (a + 6), .ref (a + 7), .ref (a + 8), .ref (a + 9), .ref (a + 10), .ref (a + 11), .ref (a + 12), .null, .int 0, .int 0, .null, .null, .null, .null, .null, .int 0])), ((a + 1), .inl (tC Θ 0, 237, .inl (fun _ => 0))), ((a + 2), .inl (tC Θ 2, 2, .inl (fun _ => 0))), ((a + 3), .inl (tC Θ 0, 79, .inl (fun _ => 0))), ((a + 4), .inl (tC Θ 0, 320, .inl (fun _ => 0))), ((a + 5), .inl (tC Θ 0, 8, .inl (fun _ => 0))), ((a + 6), .inl (tC Θ 0, 6, .inl (fun _ => 0))), ((a + 7), .inl (tC Θ 0, 6, .inl (fun _ => 0))), ((a + 8), .inl (tC Θ 0, 4, .inl (fun _ => 0))), ((a + 9), .inl (tC Θ 0, 4, .inl (fun _ => 0))), ((a + 10), .inl (tC Θ 0, 4, .inl (fun _ => 0))), ((a + 11), .inl (tC Θ 0, 4, .inl (fun _ => 0))), ((a + 12), .inl (tC Θ 0, 4, .inl (fun _ => 0))), ((a + 13), .inl (tC Θ 2, 4, .inl (fun _ => 0)))] rfl ?_
  refine n_putF C hN (j := 25) 0 [(a, .inr (10, [.ref (a + 1), .ref (a + 2), .int 0, .int 0, .ref (a + 3), .int 0, .int 0, .int 0, .int 0, .ref (a + 4), .int 0, .int 0, .int 0, .int 0, .int 0, .int 0, .int 0, .ref (a + 5), .ref (a + 6), .ref (a + 7), .ref (a + 8), .ref (a + 9), .ref (a + 10), .ref (a + 11), .ref (a + 12), .ref (a + 13), .int 0, .int 0, .null, .null, .null, .null, .null, .int 0])), ((a + 1), .inl (tC Θ 0, 237, .inl (fun _ => 0))), ((a + 2), .inl (tC Θ 2, 2, .inl (fun _ => 0))), ((a + 3), .inl (tC Θ 0, 79, .inl (fun _ => 0))), ((a + 4), .inl (tC Θ 0, 320, .inl (fun _ => 0))), ((a + 5), .inl (tC Θ 0, 8, .inl (fun _ => 0))), ((a + 6), .inl (tC Θ 0, 6, .inl (fun _ => 0))), ((a + 7), .inl (tC Θ 0, 6, .inl (fun _ => 0))), ((a + 8), .inl (tC Θ 0, 4, .inl (fun _ => 0))), ((a + 9), .inl (tC Θ 0, 4, .inl (fun _ => 0))), ((a + 10), .inl (tC Θ 0, 4, .inl (fun _ => 0))), ((a + 11), .inl (tC Θ 0, 4, .inl (fun _ => 0))), ((a + 12), .inl (tC Θ 0, 4, .inl (fun _ => 0))), ((a + 13), .inl (tC Θ 2, 4, .inl (fun _ => 0)))] kc_24 rfl rfl rfl (by decide) rfl ⟨rfl, rfl⟩ wm_922 dX10_init_100 (n := 103) rfl rfl ?_
  refine n_aload_n C 0 dX10_init_103 rfl rfl (n := 104) rfl ?_
  refine n_iconst C (4 : Int32) dX10_init_104 (by decide) (n := 105) rfl ?_
  refine n_newa C hB 0 4 (ty := .int) rfl rfl (fun _ h => h) wn_127 (fun _ => rfl) (by decide) (by decide) (by decide) (Nat.le_of_ble_eq_true rfl) (Nat.le_of_ble_eq_true rfl) dX10_init_105 (n := 107) rfl (z' := a + 15) (c' := 14) (s' := 686) rfl rfl rfl [(a, .inr (10, [.ref (a + 1), .ref (a + 2), .int 0, .int 0, .ref (a + 3), .int 0, .int 0, .int 0, .int 0, .ref (a + 4), .int 0, .int 0, .int 0, .int 0, .int 0, .int 0, .int 0, .ref (a + 5), .ref (a + 6), .ref (a + 7), .ref (a + 8), .ref (a + 9), .ref (a + 10), .ref (a + 11), .ref (a + 12), .ref (a + 13), .int 0, .int 0, .null, .null, .null, .null, .null, .int 0])), ((a + 1), .inl (tC Θ 0, 237, .inl (fun _ => 0))), ((a + 2), .inl (tC Θ 2, 2, .inl (fun _ => 0))), ((a + 3), .inl (tC Θ 0, 79, .inl (fun _ => 0))), ((a + 4), .inl (tC Θ 0, 320, .inl (fun _ => 0))), ((a + 5), .inl (tC Θ 0, 8, .inl (fun _ => 0))), ((a + 6), .inl (tC Θ 0, 6, .inl (fun _ => 0))), ((a + 7), .inl (tC Θ 0, 6, .inl (fun _ => 0))), ((a + 8), .inl (tC Θ 0, 4, .inl (fun _ => 0))), ((a + 9), .inl (tC Θ 0, 4, .inl (fun _ => 0))), ((a + 10), .inl (tC Θ 0, 4, .inl (fun _ => 0))), ((a + 11), .inl (tC Θ 0, 4, .inl (fun _ => 0))), ((a + 12), .inl (tC Θ 0, 4, .inl (fun _ => 0))), ((a + 13), .inl (tC Θ 2, 4, .inl (fun _ => 0))), ((a + 14), .inl (tC Θ 0, 4, .inl (fun _ => 0)))] rfl ?_
  refine n_putF C hN (j := 28) 0 [(a, .inr (10, [.ref (a + 1), .ref (a + 2), .int 0, .int 0, .ref (a + 3), .int 0, .int 0, .int 0, .int 0, .ref (a + 4), .int 0, .int 0, .int 0, .int 0, .int 0, .int 0, .int 0, .ref (a + 5), .ref (a + 6), .ref (a + 7), .ref (a + 8), .ref (a + 9), .ref (a + 10), .ref (a + 11), .ref (a + 12), .ref (a + 13), .int 0, .int 0, .ref (a + 14), .null, .null, .null, .null, .int 0])), ((a + 1), .inl (tC Θ 0, 237, .inl (fun _ => 0))), ((a + 2), .inl (tC Θ 2, 2, .inl (fun _ => 0))), ((a + 3), .inl (tC Θ 0, 79, .inl (fun _ => 0))), ((a + 4), .inl (tC Θ 0, 320, .inl (fun _ => 0))), ((a + 5), .inl (tC Θ 0, 8, .inl (fun _ => 0))), ((a + 6), .inl (tC Θ 0, 6, .inl (fun _ => 0))), ((a + 7), .inl (tC Θ 0, 6, .inl (fun _ => 0))), ((a + 8), .inl (tC Θ 0, 4, .inl (fun _ => 0))), ((a + 9), .inl (tC Θ 0, 4, .inl (fun _ => 0))), ((a + 10), .inl (tC Θ 0, 4, .inl (fun _ => 0))), ((a + 11), .inl (tC Θ 0, 4, .inl (fun _ => 0))), ((a + 12), .inl (tC Θ 0, 4, .inl (fun _ => 0))), ((a + 13), .inl (tC Θ 2, 4, .inl (fun _ => 0))), ((a + 14), .inl (tC Θ 0, 4, .inl (fun _ => 0)))] kc_24 rfl rfl rfl (by decide) rfl ⟨rfl, rfl⟩ wm_925 dX10_init_107 (n := 110) rfl rfl ?_
  refine n_aload_n C 0 dX10_init_110 rfl rfl (n := 111) rfl ?_
  refine n_iconst C (4 : Int32) dX10_init_111 (by decide) (n := 112) rfl ?_
  refine n_newa C hB 0 4 (ty := .int) rfl rfl (fun _ h => h) wn_127 (fun _ => rfl) (by decide) (by decide) (by decide) (Nat.le_of_ble_eq_true rfl) (Nat.le_of_ble_eq_true rfl) dX10_init_112 (n := 114) rfl (z' := a + 16) (c' := 15) (s' := 690) rfl rfl rfl [(a, .inr (10, [.ref (a + 1), .ref (a + 2), .int 0, .int 0, .ref (a + 3), .int 0, .int 0, .int 0, .int 0, .ref (a + 4), .int 0, .int 0, .int 0, .int 0, .int 0, .int 0, .int 0, .ref (a + 5), .ref (a + 6), .ref (a + 7), .ref (a + 8), .ref (a + 9), .ref (a + 10), .ref (a + 11), .ref (a + 12), .ref (a + 13), .int 0, .int 0, .ref (a + 14), .null, .null, .null, .null, .int 0])), ((a + 1), .inl (tC Θ 0, 237, .inl (fun _ => 0))), ((a + 2), .inl (tC Θ 2, 2, .inl (fun _ => 0))), ((a + 3), .inl (tC Θ 0, 79, .inl (fun _ => 0))), ((a + 4), .inl (tC Θ 0, 320, .inl (fun _ => 0))), ((a + 5), .inl (tC Θ 0, 8, .inl (fun _ => 0))), ((a + 6), .inl (tC Θ 0, 6, .inl (fun _ => 0))), ((a + 7), .inl (tC Θ 0, 6, .inl (fun _ => 0))), ((a + 8), .inl (tC Θ 0, 4, .inl (fun _ => 0))), ((a + 9), .inl (tC Θ 0, 4, .inl (fun _ => 0))), ((a + 10), .inl (tC Θ 0, 4, .inl (fun _ => 0))), ((a + 11), .inl (tC Θ 0, 4, .inl (fun _ => 0))), ((a + 12), .inl (tC Θ 0, 4, .inl (fun _ => 0))), ((a + 13), .inl (tC Θ 2, 4, .inl (fun _ => 0))), ((a + 14), .inl (tC Θ 0, 4, .inl (fun _ => 0))), ((a + 15), .inl (tC Θ 0, 4, .inl (fun _ => 0)))] rfl ?_
  refine n_putF C hN (j := 29) 0 [(a, .inr (10, [.ref (a + 1), .ref (a + 2), .int 0, .int 0, .ref (a + 3), .int 0, .int 0, .int 0, .int 0, .ref (a + 4), .int 0, .int 0, .int 0, .int 0, .int 0, .int 0, .int 0, .ref (a + 5), .ref (a + 6), .ref (a + 7), .ref (a + 8), .ref (a + 9), .ref (a + 10), .ref (a + 11), .ref (a + 12), .ref (a + 13), .int 0, .int 0, .ref (a + 14), .ref (a + 15), .null, .null, .null, .int 0])), ((a + 1), .inl (tC Θ 0, 237, .inl (fun _ => 0))), ((a + 2), .inl (tC Θ 2, 2, .inl (fun _ => 0))), ((a + 3), .inl (tC Θ 0, 79, .inl (fun _ => 0))), ((a + 4), .inl (tC Θ 0, 320, .inl (fun _ => 0))), ((a + 5), .inl (tC Θ 0, 8, .inl (fun _ => 0))), ((a + 6), .inl (tC Θ 0, 6, .inl (fun _ => 0))), ((a + 7), .inl (tC Θ 0, 6, .inl (fun _ => 0))), ((a + 8), .inl (tC Θ 0, 4, .inl (fun _ => 0))), ((a + 9), .inl (tC Θ 0, 4, .inl (fun _ => 0))), ((a + 10), .inl (tC Θ 0, 4, .inl (fun _ => 0))), ((a + 11), .inl (tC Θ 0, 4, .inl (fun _ => 0))), ((a + 12), .inl (tC Θ 0, 4, .inl (fun _ => 0))), ((a + 13), .inl (tC Θ 2, 4, .inl (fun _ => 0))), ((a + 14), .inl (tC Θ 0, 4, .inl (fun _ => 0))), ((a + 15), .inl (tC Θ 0, 4, .inl (fun _ => 0)))] kc_24 rfl rfl rfl (by decide) rfl ⟨rfl, rfl⟩ wm_926 dX10_init_114 (n := 117) rfl rfl ?_
  refine n_aload_n C 0 dX10_init_117 rfl rfl (n := 118) rfl ?_
  refine n_iconst C (4 : Int32) dX10_init_118 (by decide) (n := 119) rfl ?_
  refine n_newa C hB 0 4 (ty := .int) rfl rfl (fun _ h => h) wn_127 (fun _ => rfl) (by decide) (by decide) (by decide) (Nat.le_of_ble_eq_true rfl) (Nat.le_of_ble_eq_true rfl) dX10_init_119 (n := 121) rfl (z' := a + 17) (c' := 16) (s' := 694) rfl rfl rfl [(a, .inr (10, [.ref (a + 1), .ref (a + 2), .int 0, .int 0, .ref (a + 3), .int 0, .int 0, .int 0, .int 0, .ref (a + 4), .int 0, .int 0, .int 0, .int 0, .int 0, .int 0, .int 0, .ref (a + 5), .ref (a + 6), .ref (a + 7), .ref (a + 8), .ref (a + 9), .ref (a + 10), .ref (a + 11), .ref (a + 12), .ref (a + 13), .int 0, .int 0, .ref (a + 14), .ref (a + 15), .null, .null, .null, .int 0])), ((a + 1), .inl (tC Θ 0, 237, .inl (fun _ => 0))), ((a + 2), .inl (tC Θ 2, 2, .inl (fun _ => 0))), ((a + 3), .inl (tC Θ 0, 79, .inl (fun _ => 0))), ((a + 4), .inl (tC Θ 0, 320, .inl (fun _ => 0))), ((a + 5), .inl (tC Θ 0, 8, .inl (fun _ => 0))), ((a + 6), .inl (tC Θ 0, 6, .inl (fun _ => 0))), ((a + 7), .inl (tC Θ 0, 6, .inl (fun _ => 0))), ((a + 8), .inl (tC Θ 0, 4, .inl (fun _ => 0))), ((a + 9), .inl (tC Θ 0, 4, .inl (fun _ => 0))), ((a + 10), .inl (tC Θ 0, 4, .inl (fun _ => 0))), ((a + 11), .inl (tC Θ 0, 4, .inl (fun _ => 0))), ((a + 12), .inl (tC Θ 0, 4, .inl (fun _ => 0))), ((a + 13), .inl (tC Θ 2, 4, .inl (fun _ => 0))), ((a + 14), .inl (tC Θ 0, 4, .inl (fun _ => 0))), ((a + 15), .inl (tC Θ 0, 4, .inl (fun _ => 0))), ((a + 16), .inl (tC Θ 0, 4, .inl (fun _ => 0)))] rfl ?_
  refine n_putF C hN (j := 30) 0 [(a, .inr (10, [.ref (a + 1), .ref (a + 2), .int 0, .int 0, .ref (a + 3), .int 0, .int 0, .int 0, .int 0, .ref (a + 4), .int 0, .int 0, .int 0, .int 0, .int 0, .int 0, .int 0, .ref (a + 5), .ref (a + 6), .ref (a + 7), .ref (a + 8), .ref (a + 9), .ref (a + 10), .ref (a + 11), .ref (a + 12), .ref (a + 13), .int 0, .int 0, .ref (a + 14), .ref (a + 15), .ref (a + 16), .null, .null, .int 0])), ((a + 1), .inl (tC Θ 0, 237, .inl (fun _ => 0))), ((a + 2), .inl (tC Θ 2, 2, .inl (fun _ => 0))), ((a + 3), .inl (tC Θ 0, 79, .inl (fun _ => 0))), ((a + 4), .inl (tC Θ 0, 320, .inl (fun _ => 0))), ((a + 5), .inl (tC Θ 0, 8, .inl (fun _ => 0))), ((a + 6), .inl (tC Θ 0, 6, .inl (fun _ => 0))), ((a + 7), .inl (tC Θ 0, 6, .inl (fun _ => 0))), ((a + 8), .inl (tC Θ 0, 4, .inl (fun _ => 0))), ((a + 9), .inl (tC Θ 0, 4, .inl (fun _ => 0))), ((a + 10), .inl (tC Θ 0, 4, .inl (fun _ => 0))), ((a + 11), .inl (tC Θ 0, 4, .inl (fun _ => 0))), ((a + 12), .inl (tC Θ 0, 4, .inl (fun _ => 0))), ((a + 13), .inl (tC Θ 2, 4, .inl (fun _ => 0))), ((a + 14), .inl (tC Θ 0, 4, .inl (fun _ => 0))), ((a + 15), .inl (tC Θ 0, 4, .inl (fun _ => 0))), ((a + 16), .inl (tC Θ 0, 4, .inl (fun _ => 0)))] kc_24 rfl rfl rfl (by decide) rfl ⟨rfl, rfl⟩ wm_927 dX10_init_121 (n := 124) rfl rfl ?_
  refine n_aload_n C 0 dX10_init_124 rfl rfl (n := 125) rfl ?_
  refine n_iconst C (4 : Int32) dX10_init_125 (by decide) (n := 126) rfl ?_
  refine n_newa C hB 0 4 (ty := .int) rfl rfl (fun _ h => h) wn_127 (fun _ => rfl) (by decide) (by decide) (by decide) (Nat.le_of_ble_eq_true rfl) (Nat.le_of_ble_eq_true rfl) dX10_init_126 (n := 128) rfl (z' := a + 18) (c' := 17) (s' := 698) rfl rfl rfl [(a, .inr (10, [.ref (a + 1), .ref (a + 2), .int 0, .int 0, .ref (a + 3), .int 0, .int 0, .int 0, .int 0, .ref (a + 4), .int 0, .int 0, .int 0, .int 0, .int 0, .int 0, .int 0, .ref (a + 5), .ref (a + 6), .ref (a + 7), .ref (a + 8), .ref (a + 9), .ref (a + 10), .ref (a + 11), .ref (a + 12), .ref (a + 13), .int 0, .int 0, .ref (a + 14), .ref (a + 15), .ref (a + 16), .null, .null, .int 0])), ((a + 1), .inl (tC Θ 0, 237, .inl (fun _ => 0))), ((a + 2), .inl (tC Θ 2, 2, .inl (fun _ => 0))), ((a + 3), .inl (tC Θ 0, 79, .inl (fun _ => 0))), ((a + 4), .inl (tC Θ 0, 320, .inl (fun _ => 0))), ((a + 5), .inl (tC Θ 0, 8, .inl (fun _ => 0))), ((a + 6), .inl (tC Θ 0, 6, .inl (fun _ => 0))), ((a + 7), .inl (tC Θ 0, 6, .inl (fun _ => 0))), ((a + 8), .inl (tC Θ 0, 4, .inl (fun _ => 0))), ((a + 9), .inl (tC Θ 0, 4, .inl (fun _ => 0))), ((a + 10), .inl (tC Θ 0, 4, .inl (fun _ => 0))), ((a + 11), .inl (tC Θ 0, 4, .inl (fun _ => 0))), ((a + 12), .inl (tC Θ 0, 4, .inl (fun _ => 0))), ((a + 13), .inl (tC Θ 2, 4, .inl (fun _ => 0))), ((a + 14), .inl (tC Θ 0, 4, .inl (fun _ => 0))), ((a + 15), .inl (tC Θ 0, 4, .inl (fun _ => 0))), ((a + 16), .inl (tC Θ 0, 4, .inl (fun _ => 0))), ((a + 17), .inl (tC Θ 0, 4, .inl (fun _ => 0)))] rfl ?_
  refine n_putF C hN (j := 31) 0 [(a, .inr (10, [.ref (a + 1), .ref (a + 2), .int 0, .int 0, .ref (a + 3), .int 0, .int 0, .int 0, .int 0, .ref (a + 4), .int 0, .int 0, .int 0, .int 0, .int 0, .int 0, .int 0, .ref (a + 5), .ref (a + 6), .ref (a + 7), .ref (a + 8), .ref (a + 9), .ref (a + 10), .ref (a + 11), .ref (a + 12), .ref (a + 13), .int 0, .int 0, .ref (a + 14), .ref (a + 15), .ref (a + 16), .ref (a + 17), .null, .int 0])), ((a + 1), .inl (tC Θ 0, 237, .inl (fun _ => 0))), ((a + 2), .inl (tC Θ 2, 2, .inl (fun _ => 0))), ((a + 3), .inl (tC Θ 0, 79, .inl (fun _ => 0))), ((a + 4), .inl (tC Θ 0, 320, .inl (fun _ => 0))), ((a + 5), .inl (tC Θ 0, 8, .inl (fun _ => 0))), ((a + 6), .inl (tC Θ 0, 6, .inl (fun _ => 0))), ((a + 7), .inl (tC Θ 0, 6, .inl (fun _ => 0))), ((a + 8), .inl (tC Θ 0, 4, .inl (fun _ => 0))), ((a + 9), .inl (tC Θ 0, 4, .inl (fun _ => 0))), ((a + 10), .inl (tC Θ 0, 4, .inl (fun _ => 0))), ((a + 11), .inl (tC Θ 0, 4, .inl (fun _ => 0))), ((a + 12), .inl (tC Θ 0, 4, .inl (fun _ => 0))), ((a + 13), .inl (tC Θ 2, 4, .inl (fun _ => 0))), ((a + 14), .inl (tC Θ 0, 4, .inl (fun _ => 0))), ((a + 15), .inl (tC Θ 0, 4, .inl (fun _ => 0))), ((a + 16), .inl (tC Θ 0, 4, .inl (fun _ => 0))), ((a + 17), .inl (tC Θ 0, 4, .inl (fun _ => 0)))] kc_24 rfl rfl rfl (by decide) rfl ⟨rfl, rfl⟩ wm_928 dX10_init_128 (n := 131) rfl rfl ?_
  refine n_aload_n C 0 dX10_init_131 rfl rfl (n := 132) rfl ?_
  refine n_sipush C (160 : Int32) dX10_init_132 (by decide) (n := 135) rfl ?_
  refine n_newa C hB 0 160 (ty := .int) rfl rfl (fun _ h => h) wn_127 (fun _ => rfl) (by decide) (by decide) (by decide) (Nat.le_of_ble_eq_true rfl) (Nat.le_of_ble_eq_true rfl) dX10_init_135 (n := 137) rfl (z' := a + 19) (c' := 18) (s' := 858) rfl rfl rfl [(a, .inr (10, [.ref (a + 1), .ref (a + 2), .int 0, .int 0, .ref (a + 3), .int 0, .int 0, .int 0, .int 0, .ref (a + 4), .int 0, .int 0, .int 0, .int 0, .int 0, .int 0, .int 0, .ref (a + 5), .ref (a + 6), .ref (a + 7), .ref (a + 8), .ref (a + 9), .ref (a + 10), .ref (a + 11), .ref (a + 12), .ref (a + 13), .int 0, .int 0, .ref (a + 14), .ref (a + 15), .ref (a + 16), .ref (a + 17), .null, .int 0])), ((a + 1), .inl (tC Θ 0, 237, .inl (fun _ => 0))), ((a + 2), .inl (tC Θ 2, 2, .inl (fun _ => 0))), ((a + 3), .inl (tC Θ 0, 79, .inl (fun _ => 0))), ((a + 4), .inl (tC Θ 0, 320, .inl (fun _ => 0))), ((a + 5), .inl (tC Θ 0, 8, .inl (fun _ => 0))), ((a + 6), .inl (tC Θ 0, 6, .inl (fun _ => 0))), ((a + 7), .inl (tC Θ 0, 6, .inl (fun _ => 0))), ((a + 8), .inl (tC Θ 0, 4, .inl (fun _ => 0))), ((a + 9), .inl (tC Θ 0, 4, .inl (fun _ => 0))), ((a + 10), .inl (tC Θ 0, 4, .inl (fun _ => 0))), ((a + 11), .inl (tC Θ 0, 4, .inl (fun _ => 0))), ((a + 12), .inl (tC Θ 0, 4, .inl (fun _ => 0))), ((a + 13), .inl (tC Θ 2, 4, .inl (fun _ => 0))), ((a + 14), .inl (tC Θ 0, 4, .inl (fun _ => 0))), ((a + 15), .inl (tC Θ 0, 4, .inl (fun _ => 0))), ((a + 16), .inl (tC Θ 0, 4, .inl (fun _ => 0))), ((a + 17), .inl (tC Θ 0, 4, .inl (fun _ => 0))), ((a + 18), .inl (tC Θ 0, 160, .inl (fun _ => 0)))] rfl ?_
  refine n_putF C hN (j := 32) 0 [(a, .inr (10, [.ref (a + 1), .ref (a + 2), .int 0, .int 0, .ref (a + 3), .int 0, .int 0, .int 0, .int 0, .ref (a + 4), .int 0, .int 0, .int 0, .int 0, .int 0, .int 0, .int 0, .ref (a + 5), .ref (a + 6), .ref (a + 7), .ref (a + 8), .ref (a + 9), .ref (a + 10), .ref (a + 11), .ref (a + 12), .ref (a + 13), .int 0, .int 0, .ref (a + 14), .ref (a + 15), .ref (a + 16), .ref (a + 17), .ref (a + 18), .int 0])), ((a + 1), .inl (tC Θ 0, 237, .inl (fun _ => 0))), ((a + 2), .inl (tC Θ 2, 2, .inl (fun _ => 0))), ((a + 3), .inl (tC Θ 0, 79, .inl (fun _ => 0))), ((a + 4), .inl (tC Θ 0, 320, .inl (fun _ => 0))), ((a + 5), .inl (tC Θ 0, 8, .inl (fun _ => 0))), ((a + 6), .inl (tC Θ 0, 6, .inl (fun _ => 0))), ((a + 7), .inl (tC Θ 0, 6, .inl (fun _ => 0))), ((a + 8), .inl (tC Θ 0, 4, .inl (fun _ => 0))), ((a + 9), .inl (tC Θ 0, 4, .inl (fun _ => 0))), ((a + 10), .inl (tC Θ 0, 4, .inl (fun _ => 0))), ((a + 11), .inl (tC Θ 0, 4, .inl (fun _ => 0))), ((a + 12), .inl (tC Θ 0, 4, .inl (fun _ => 0))), ((a + 13), .inl (tC Θ 2, 4, .inl (fun _ => 0))), ((a + 14), .inl (tC Θ 0, 4, .inl (fun _ => 0))), ((a + 15), .inl (tC Θ 0, 4, .inl (fun _ => 0))), ((a + 16), .inl (tC Θ 0, 4, .inl (fun _ => 0))), ((a + 17), .inl (tC Θ 0, 4, .inl (fun _ => 0))), ((a + 18), .inl (tC Θ 0, 160, .inl (fun _ => 0)))] kc_24 rfl rfl rfl (by decide) rfl ⟨rfl, rfl⟩ wm_929 dX10_init_137 (n := 140) rfl rfl ?_
  subst ha
  refine n_toG (h := hInit) (fun H hP => eqL_P (e_all Θ) hP) hU hV ?_
  show G Θ Γ 140 [(0, .ref (rr Θ 24 0 0))] [] hInit
  replace hk := rtV Rt hk
  unfold f_X10_init at hk
  generalize hInit = h at hk ⊢
  refine g_iconst C (0 : Int32) dX10_init_140 (by decide) (n := 141) rfl ?_
  refine g_istore_n C [(1, .int (0 : Int32)), (0, .ref (rr Θ 24 0 0))] dX10_init_141 rfl (by decide) rfl (n := 142) rfl ?_
  refine g_lv [1, 0] [(0, .ref (rr Θ 24 0 0)), (1, .int (0 : Int32))] rfl ?_
  refine Ok.join hk (fun e10 => G Θ Γ 161 [(0, .ref (rr Θ 24 0 0))] [] e10) (fun e10 hk => ?_) (fun hk => ?_)
  · refine g_aload_n C 0 dX10_init_161 rfl rfl (n := 162) rfl ?_
    refine g_cVV C hk (fun K hk => L_X10_firstDraft Θ e10 K hk) lk_X10_65 kc_24 (by decide) (by decide) ⟨rfl, rfl⟩ ⟨Nat.le_of_ble_eq_true rfl, Nat.le_of_ble_eq_true rfl⟩ dX10_init_162 rfl rfl (Nat.le_of_ble_eq_true rfl) (n := 165) rfl (fun h11 hk => ?_)
    refine g_aload_n C 0 dX10_init_165 rfl rfl (n := 166) rfl ?_
    refine g_cVV C hk (fun K hk => L_X10_keepDraft Θ h11 K hk) lk_X10_68 kc_24 (by decide) (by decide) ⟨rfl, rfl⟩ ⟨Nat.le_of_ble_eq_true rfl, Nat.le_of_ble_eq_true rfl⟩ dX10_init_166 rfl rfl (Nat.le_of_ble_eq_true rfl) (n := 169) rfl (fun h12 hk => ?_)
    exact retV hk.out dX10_init_169
  · refine Ok.loop (fun a7 => G Θ Γ 142 [(0, .ref (rr Θ 24 0 0)), (1, .int a7.1)] [] a7.2) (fun a7 hk => ?_) _ _ hk
    refine g_iload_n C 1 dX10_init_142 rfl rfl (n := 143) rfl ?_
    refine g_iconst C (4 : Int32) dX10_init_143 (by decide) (n := 144) rfl ?_
    refine g_ic_ge C 161 dX10_init_144 (by decide) (n := 147) rfl hk (fun hk => ?_) (fun hk => ?_)
    · refine g_lv [0] [(0, .ref (rr Θ 24 0 0))] rfl ?_
      exact hk.out
    · refine g_aload_n C 0 dX10_init_147 rfl rfl (n := 148) rfl ?_
      refine g_getR C kc_24 (rt_24_30 (tB Θ) 0) (by decide) (by decide) (by decide) wm_927 dX10_init_148 (n := 151) rfl ?_
      refine g_iload_n C 1 dX10_init_151 rfl rfl (n := 152) rfl ?_
      refine g_bipush C (-4 : Int32) dX10_init_152 (by decide) (n := 154) rfl ?_
      refine g_iast C an_40 (by decide) dX10_init_154 (n := 155) rfl hk (fun _ h8 hk => ?_)
      refine g_iinc C 1 (fun x9 => [(1, .int x9), (0, .ref (rr Θ 24 0 0))]) dX10_init_155 rfl (v := (a7.1 + (1 : Int32))) rfl (by decide) (fun _ => rfl) (n := 158) rfl hk (fun x9 hk => ?_)
      refine g_goto C 142 dX10_init_158 (by decide) ?_
      refine g_lv [1, 0] [(0, .ref (rr Θ 24 0 0)), (1, .int x9)] rfl ?_
      exact hk.out
def f_L_law (L : Nat) (xs : Nat → Int32) (h : Mem) : Option (Bool × Mem) := obd (lp fu (fun a411 => (if ((Int32.ofNat L) - (5 : Int32)) < a411.1 then some (.inr (.inr a411.2)) else gd (inb a411.1 L) ((if ((xs a411.1.toNatClampNeg) &&& (63 : Int32)) = (0 : Int32) then gd (inb (a411.1 + (1 : Int32)) L) (gd (inb (a411.1 + (2 : Int32)) L) (ob2 (f_X9_feed ((lsl ((xs (a411.1 + (1 : Int32)).toNatClampNeg).toInt64) (32 : Int32)) ||| (((xs (a411.1 + (2 : Int32)).toNatClampNeg).toInt64) &&& (4294967295 : Int64))) a411.2) (fun r412 h413 => gd (inb (a411.1 + (1 : Int32)) L) (gd (inb (a411.1 + (2 : Int32)) L) (ob2 (f_X10_feed ((lsl ((xs (a411.1 + (1 : Int32)).toNatClampNeg).toInt64) (32 : Int32)) ||| (((xs (a411.1 + (2 : Int32)).toNatClampNeg).toInt64) &&& (4294967295 : Int64))) h413) (fun r414 h415 => (if r412 = r414 then bnd (a411.1 + (5 : Int32)) (fun x416 => some (.inl (x416, h415))) else some (.inr (.inl (false, h415)))))))))) else if ((xs a411.1.toNatClampNeg) &&& (63 : Int32)) = (1 : Int32) then gd (inb (a411.1 + (1 : Int32)) L) (ob2 (f_X9_end (xs (a411.1 + (1 : Int32)).toNatClampNeg) a411.2) (fun r417 h418 => gd (inb (a411.1 + (1 : Int32)) L) (ob2 (f_X10_end (xs (a411.1 + (1 : Int32)).toNatClampNeg) h418) (fun r419 h420 => (if r417 = r419 then bnd (a411.1 + (5 : Int32)) (fun x421 => some (.inl (x421, h420))) else some (.inr (.inl (false, h420)))))))) else if ((xs a411.1.toNatClampNeg) &&& (63 : Int32)) = (2 : Int32) then ob2 (f_X9_text a411.2) (fun r422 h423 => ob2 (f_X10_text h423) (fun r424 h425 => (if r422 = r424 then bnd (a411.1 + (5 : Int32)) (fun x426 => some (.inl (x426, h425))) else some (.inr (.inl (false, h425)))))) else if ((xs a411.1.toNatClampNeg) &&& (63 : Int32)) = (3 : Int32) then obd (f_X9_fault a411.2) (fun r427 => obd (f_X10_fault a411.2) (fun r428 => (if r427 = r428 then bnd (a411.1 + (5 : Int32)) (fun x429 => some (.inl (x429, a411.2))) else some (.inr (.inl (false, a411.2)))))) else if ((xs a411.1.toNatClampNeg) &&& (63 : Int32)) = (4 : Int32) then gd (inb (a411.1 + (1 : Int32)) L) (obd (f_X9_rule (xs (a411.1 + (1 : Int32)).toNatClampNeg) a411.2) (fun r430 => gd (inb (a411.1 + (1 : Int32)) L) (obd (f_X10_rule (xs (a411.1 + (1 : Int32)).toNatClampNeg) a411.2) (fun r431 => (if r430 = r431 then bnd (a411.1 + (5 : Int32)) (fun x432 => some (.inl (x432, a411.2))) else some (.inr (.inl (false, a411.2)))))))) else if ((xs a411.1.toNatClampNeg) &&& (63 : Int32)) = (5 : Int32) then gd (inb (a411.1 + (1 : Int32)) L) (obd (f_X9_hole (xs (a411.1 + (1 : Int32)).toNatClampNeg) a411.2) (fun r433 => gd (inb (a411.1 + (1 : Int32)) L) (obd (f_X10_hole (xs (a411.1 + (1 : Int32)).toNatClampNeg) a411.2) (fun r434 => (if r433 = r434 then bnd (a411.1 + (5 : Int32)) (fun x435 => some (.inl (x435, a411.2))) else some (.inr (.inl (false, a411.2)))))))) else if ((xs a411.1.toNatClampNeg) &&& (63 : Int32)) = (6 : Int32) then gd (inb (a411.1 + (1 : Int32)) L) (gd (inb (a411.1 + (2 : Int32)) L) (obd (f_X9_coin (xs (a411.1 + (1 : Int32)).toNatClampNeg) (xs (a411.1 + (2 : Int32)).toNatClampNeg) a411.2) (fun r436 => gd (inb (a411.1 + (1 : Int32)) L) (gd (inb (a411.1 + (2 : Int32)) L) (ob2 (f_X10_coin (xs (a411.1 + (1 : Int32)).toNatClampNeg) (xs (a411.1 + (2 : Int32)).toNatClampNeg) a411.2) (fun r437 h438 => (if r436 = r437 then bnd (a411.1 + (5 : Int32)) (fun x439 => some (.inl (x439, h438))) else some (.inr (.inl (false, h438)))))))))) else if ((xs a411.1.toNatClampNeg) &&& (63 : Int32)) = (7 : Int32) then gd (inb (a411.1 + (1 : Int32)) L) (gd (inb (a411.1 + (2 : Int32)) L) (obd (f_X9_crab (xs (a411.1 + (1 : Int32)).toNatClampNeg) (xs (a411.1 + (2 : Int32)).toNatClampNeg) a411.2) (fun r440 => gd (inb (a411.1 + (1 : Int32)) L) (gd (inb (a411.1 + (2 : Int32)) L) (ob2 (f_X10_crab (xs (a411.1 + (1 : Int32)).toNatClampNeg) (xs (a411.1 + (2 : Int32)).toNatClampNeg) a411.2) (fun r441 h442 => (if r440 = r441 then bnd (a411.1 + (5 : Int32)) (fun x443 => some (.inl (x443, h442))) else some (.inr (.inl (false, h442)))))))))) else if ((xs a411.1.toNatClampNeg) &&& (63 : Int32)) = (8 : Int32) then gd (inb (a411.1 + (1 : Int32)) L) (gd (inb (a411.1 + (2 : Int32)) L) (ob2 (f_X9_dig (xs (a411.1 + (1 : Int32)).toNatClampNeg) (xs (a411.1 + (2 : Int32)).toNatClampNeg) a411.2) (fun r444 h445 => gd (inb (a411.1 + (1 : Int32)) L) (gd (inb (a411.1 + (2 : Int32)) L) (ob2 (f_X10_dig (xs (a411.1 + (1 : Int32)).toNatClampNeg) (xs (a411.1 + (2 : Int32)).toNatClampNeg) h445) (fun r446 h447 => (if r444 = r446 then bnd (a411.1 + (5 : Int32)) (fun x448 => some (.inl (x448, h447))) else some (.inr (.inl (false, h447)))))))))) else if ((xs a411.1.toNatClampNeg) &&& (63 : Int32)) = (9 : Int32) then gd (inb (a411.1 + (1 : Int32)) L) (gd (inb (a411.1 + (2 : Int32)) L) (ob2 (f_X9_mint (xs (a411.1 + (1 : Int32)).toNatClampNeg) (xs (a411.1 + (2 : Int32)).toNatClampNeg) a411.2) (fun r449 h450 => gd (inb (a411.1 + (1 : Int32)) L) (gd (inb (a411.1 + (2 : Int32)) L) (ob2 (f_X10_mint (xs (a411.1 + (1 : Int32)).toNatClampNeg) (xs (a411.1 + (2 : Int32)).toNatClampNeg) h450) (fun r451 h452 => (if r449 = r451 then bnd (a411.1 + (5 : Int32)) (fun x453 => some (.inl (x453, h452))) else some (.inr (.inl (false, h452)))))))))) else if ((xs a411.1.toNatClampNeg) &&& (63 : Int32)) = (10 : Int32) then gd (inb (a411.1 + (1 : Int32)) L) (gd (inb (a411.1 + (2 : Int32)) L) (ob2 (f_X9_lie (xs (a411.1 + (1 : Int32)).toNatClampNeg) (xs (a411.1 + (2 : Int32)).toNatClampNeg) a411.2) (fun r454 h455 => gd (inb (a411.1 + (1 : Int32)) L) (gd (inb (a411.1 + (2 : Int32)) L) (ob2 (f_X10_lie (xs (a411.1 + (1 : Int32)).toNatClampNeg) (xs (a411.1 + (2 : Int32)).toNatClampNeg) h455) (fun r456 h457 => (if r454 = r456 then bnd (a411.1 + (5 : Int32)) (fun x458 => some (.inl (x458, h457))) else some (.inr (.inl (false, h457)))))))))) else if ((xs a411.1.toNatClampNeg) &&& (63 : Int32)) = (11 : Int32) then gd (inb (a411.1 + (1 : Int32)) L) (gd (inb (a411.1 + (2 : Int32)) L) (obd ((if (xs (a411.1 + (2 : Int32)).toNatClampNeg) = 0 then some false else some true)) (fun a459 => ob2 (f_X9_fake (xs (a411.1 + (1 : Int32)).toNatClampNeg) a459 a411.2) (fun r460 h461 => gd (inb (a411.1 + (1 : Int32)) L) (gd (inb (a411.1 + (2 : Int32)) L) (obd ((if (xs (a411.1 + (2 : Int32)).toNatClampNeg) = 0 then some false else some true)) (fun a462 => ob2 (f_X10_fake (xs (a411.1 + (1 : Int32)).toNatClampNeg) a462 h461) (fun r463 h464 => (if r460 = r463 then bnd (a411.1 + (5 : Int32)) (fun x465 => some (.inl (x465, h464))) else some (.inr (.inl (false, h464)))))))))))) else if ((xs a411.1.toNatClampNeg) &&& (63 : Int32)) = (12 : Int32) then gd (inb (a411.1 + (1 : Int32)) L) (gd (inb (a411.1 + (2 : Int32)) L) (ob2 (f_X9_set (xs (a411.1 + (1 : Int32)).toNatClampNeg) (xs (a411.1 + (2 : Int32)).toNatClampNeg) a411.2) (fun r466 h467 => gd (inb (a411.1 + (1 : Int32)) L) (gd (inb (a411.1 + (2 : Int32)) L) (ob2 (f_X10_set (xs (a411.1 + (1 : Int32)).toNatClampNeg) (xs (a411.1 + (2 : Int32)).toNatClampNeg) h467) (fun r468 h469 => (if r466 = r468 then bnd (a411.1 + (5 : Int32)) (fun x470 => some (.inl (x470, h469))) else some (.inr (.inl (false, h469)))))))))) else if ((xs a411.1.toNatClampNeg) &&& (63 : Int32)) = (13 : Int32) then gd (inb (a411.1 + (1 : Int32)) L) (gd (inb (a411.1 + (2 : Int32)) L) (ob2 (f_X9_hand (xs (a411.1 + (1 : Int32)).toNatClampNeg) (xs (a411.1 + (2 : Int32)).toNatClampNeg) a411.2) (fun r471 h472 => gd (inb (a411.1 + (1 : Int32)) L) (gd (inb (a411.1 + (2 : Int32)) L) (ob2 (f_X10_hand (xs (a411.1 + (1 : Int32)).toNatClampNeg) (xs (a411.1 + (2 : Int32)).toNatClampNeg) h472) (fun r473 h474 => (if r471 = r473 then bnd (a411.1 + (5 : Int32)) (fun x475 => some (.inl (x475, h474))) else some (.inr (.inl (false, h474)))))))))) else if ((xs a411.1.toNatClampNeg) &&& (63 : Int32)) = (14 : Int32) then gd (inb (a411.1 + (1 : Int32)) L) (gd (inb (a411.1 + (2 : Int32)) L) (ob2 (f_X9_tide (xs (a411.1 + (1 : Int32)).toNatClampNeg) (xs (a411.1 + (2 : Int32)).toNatClampNeg) a411.2) (fun r476 h477 => gd (inb (a411.1 + (1 : Int32)) L) (gd (inb (a411.1 + (2 : Int32)) L) (ob2 (f_X10_tide (xs (a411.1 + (1 : Int32)).toNatClampNeg) (xs (a411.1 + (2 : Int32)).toNatClampNeg) h477) (fun r478 h479 => (if r476 = r478 then bnd (a411.1 + (5 : Int32)) (fun x480 => some (.inl (x480, h479))) else some (.inr (.inl (false, h479)))))))))) else if ((xs a411.1.toNatClampNeg) &&& (63 : Int32)) = (15 : Int32) then gd (inb (a411.1 + (1 : Int32)) L) (ob2 (f_X9_go (xs (a411.1 + (1 : Int32)).toNatClampNeg) a411.2) (fun r481 h482 => gd (inb (a411.1 + (1 : Int32)) L) (ob2 (f_X10_go (xs (a411.1 + (1 : Int32)).toNatClampNeg) h482) (fun r483 h484 => (if r481 = r483 then bnd (a411.1 + (5 : Int32)) (fun x485 => some (.inl (x485, h484))) else some (.inr (.inl (false, h484)))))))) else if ((xs a411.1.toNatClampNeg) &&& (63 : Int32)) = (16 : Int32) then gd (inb (a411.1 + (1 : Int32)) L) (gd (inb (a411.1 + (2 : Int32)) L) (ob2 (f_X9_ahead (xs (a411.1 + (1 : Int32)).toNatClampNeg) (xs (a411.1 + (2 : Int32)).toNatClampNeg) a411.2) (fun r486 h487 => gd (inb (a411.1 + (1 : Int32)) L) (gd (inb (a411.1 + (2 : Int32)) L) (ob2 (f_X10_ahead (xs (a411.1 + (1 : Int32)).toNatClampNeg) (xs (a411.1 + (2 : Int32)).toNatClampNeg) h487) (fun r488 h489 => (if r486 = r488 then bnd (a411.1 + (5 : Int32)) (fun x490 => some (.inl (x490, h489))) else some (.inr (.inl (false, h489)))))))))) else if ((xs a411.1.toNatClampNeg) &&& (63 : Int32)) = (17 : Int32) then ob2 (f_X9_grow a411.2) (fun r491 h492 => ob2 (f_X10_grow h492) (fun r493 h494 => (if r491 = r493 then bnd (a411.1 + (5 : Int32)) (fun x495 => some (.inl (x495, h494))) else some (.inr (.inl (false, h494)))))) else if ((xs a411.1.toNatClampNeg) &&& (63 : Int32)) = (18 : Int32) then ob2 (f_X9_sorted a411.2) (fun r496 h497 => ob2 (f_X10_sorted h497) (fun r498 h499 => (if r496 = r498 then bnd (a411.1 + (5 : Int32)) (fun x500 => some (.inl (x500, h499))) else some (.inr (.inl (false, h499)))))) else if ((xs a411.1.toNatClampNeg) &&& (63 : Int32)) = (19 : Int32) then gd (inb (a411.1 + (1 : Int32)) L) (ob2 (f_X9_orders (xs (a411.1 + (1 : Int32)).toNatClampNeg) a411.2) (fun r501 h502 => gd (inb (a411.1 + (1 : Int32)) L) (ob2 (f_X10_orders (xs (a411.1 + (1 : Int32)).toNatClampNeg) h502) (fun r503 h504 => (if r501 = r503 then bnd (a411.1 + (5 : Int32)) (fun x505 => some (.inl (x505, h504))) else some (.inr (.inl (false, h504)))))))) else if ((xs a411.1.toNatClampNeg) &&& (63 : Int32)) = (20 : Int32) then gd (inb (a411.1 + (1 : Int32)) L) (ob2 (f_X9_fewest (xs (a411.1 + (1 : Int32)).toNatClampNeg) a411.2) (fun r506 h507 => gd (inb (a411.1 + (1 : Int32)) L) (ob2 (f_X10_fewest (xs (a411.1 + (1 : Int32)).toNatClampNeg) h507) (fun r508 h509 => (if r506 = r508 then bnd (a411.1 + (5 : Int32)) (fun x510 => some (.inl (x510, h509))) else some (.inr (.inl (false, h509)))))))) else if ((xs a411.1.toNatClampNeg) &&& (63 : Int32)) = (21 : Int32) then gd (inb (a411.1 + (1 : Int32)) L) (ob2 (f_X9_better (xs (a411.1 + (1 : Int32)).toNatClampNeg) a411.2) (fun r511 h512 => gd (inb (a411.1 + (1 : Int32)) L) (ob2 (f_X10_better (xs (a411.1 + (1 : Int32)).toNatClampNeg) h512) (fun r513 h514 => (if r511 = r513 then bnd (a411.1 + (5 : Int32)) (fun x515 => some (.inl (x515, h514))) else some (.inr (.inl (false, h514)))))))) else if ((xs a411.1.toNatClampNeg) &&& (63 : Int32)) = (22 : Int32) then ob2 (f_X9_weeks a411.2) (fun r516 h517 => ob2 (f_X10_weeks h517) (fun r518 h519 => (if r516 = r518 then bnd (a411.1 + (5 : Int32)) (fun x520 => some (.inl (x520, h519))) else some (.inr (.inl (false, h519)))))) else if ((xs a411.1.toNatClampNeg) &&& (63 : Int32)) = (23 : Int32) then gd (inb (a411.1 + (1 : Int32)) L) (gd (inb (a411.1 + (2 : Int32)) L) (gd (inb (a411.1 + (3 : Int32)) L) (gd (inb (a411.1 + (4 : Int32)) L) (obd ((if (xs (a411.1 + (4 : Int32)).toNatClampNeg) = 0 then some false else some true)) (fun a521 => ob2 (f_X9_see (xs (a411.1 + (1 : Int32)).toNatClampNeg) (xs (a411.1 + (2 : Int32)).toNatClampNeg) (xs (a411.1 + (3 : Int32)).toNatClampNeg) a521 a411.2) (fun r522 h523 => gd (inb (a411.1 + (1 : Int32)) L) (gd (inb (a411.1 + (2 : Int32)) L) (gd (inb (a411.1 + (3 : Int32)) L) (gd (inb (a411.1 + (4 : Int32)) L) (obd ((if (xs (a411.1 + (4 : Int32)).toNatClampNeg) = 0 then some false else some true)) (fun a524 => ob2 (f_X10_see (xs (a411.1 + (1 : Int32)).toNatClampNeg) (xs (a411.1 + (2 : Int32)).toNatClampNeg) (xs (a411.1 + (3 : Int32)).toNatClampNeg) a524 h523) (fun r525 h526 => (if r522 = r525 then bnd (a411.1 + (5 : Int32)) (fun x527 => some (.inl (x527, h526))) else some (.inr (.inl (false, h526)))))))))))))))) else if ((xs a411.1.toNatClampNeg) &&& (63 : Int32)) = (24 : Int32) then gd (inb (a411.1 + (1 : Int32)) L) (ob2 (f_X9_forget (xs (a411.1 + (1 : Int32)).toNatClampNeg) a411.2) (fun r528 h529 => gd (inb (a411.1 + (1 : Int32)) L) (ob2 (f_X10_forget (xs (a411.1 + (1 : Int32)).toNatClampNeg) h529) (fun r530 h531 => (if r528 = r530 then bnd (a411.1 + (5 : Int32)) (fun x532 => some (.inl (x532, h531))) else some (.inr (.inl (false, h531)))))))) else if ((xs a411.1.toNatClampNeg) &&& (63 : Int32)) = (25 : Int32) then gd (inb (a411.1 + (1 : Int32)) L) (ob2 (f_X9_fakes (xs (a411.1 + (1 : Int32)).toNatClampNeg) a411.2) (fun r533 h534 => gd (inb (a411.1 + (1 : Int32)) L) (ob2 (f_X10_fakes (xs (a411.1 + (1 : Int32)).toNatClampNeg) h534) (fun r535 h536 => (if r533 = r535 then bnd (a411.1 + (5 : Int32)) (fun x537 => some (.inl (x537, h536))) else some (.inr (.inl (false, h536)))))))) else if ((xs a411.1.toNatClampNeg) &&& (63 : Int32)) = (26 : Int32) then ob2 (f_X9_wrong a411.2) (fun r538 h539 => ob2 (f_X10_wrong h539) (fun r540 h541 => (if r538 = r540 then bnd (a411.1 + (5 : Int32)) (fun x542 => some (.inl (x542, h541))) else some (.inr (.inl (false, h541)))))) else if ((xs a411.1.toNatClampNeg) &&& (63 : Int32)) = (27 : Int32) then gd (inb (a411.1 + (1 : Int32)) L) (gd (inb (a411.1 + (2 : Int32)) L) (gd (inb (a411.1 + (3 : Int32)) L) (ob2 (f_X9_gulls (xs (a411.1 + (1 : Int32)).toNatClampNeg) (xs (a411.1 + (2 : Int32)).toNatClampNeg) (xs (a411.1 + (3 : Int32)).toNatClampNeg) a411.2) (fun r543 h544 => gd (inb (a411.1 + (1 : Int32)) L) (gd (inb (a411.1 + (2 : Int32)) L) (gd (inb (a411.1 + (3 : Int32)) L) (ob2 (f_X10_gulls (xs (a411.1 + (1 : Int32)).toNatClampNeg) (xs (a411.1 + (2 : Int32)).toNatClampNeg) (xs (a411.1 + (3 : Int32)).toNatClampNeg) h544) (fun r545 h546 => (if r543 = r545 then bnd (a411.1 + (5 : Int32)) (fun x547 => some (.inl (x547, h546))) else some (.inr (.inl (false, h546)))))))))))) else if ((xs a411.1.toNatClampNeg) &&& (63 : Int32)) = (28 : Int32) then gd (inb (a411.1 + (1 : Int32)) L) (ob2 (f_X9_keep (xs (a411.1 + (1 : Int32)).toNatClampNeg) a411.2) (fun r548 h549 => gd (inb (a411.1 + (1 : Int32)) L) (ob2 (f_X10_keep (xs (a411.1 + (1 : Int32)).toNatClampNeg) h549) (fun r550 h551 => (if r548 = r550 then bnd (a411.1 + (5 : Int32)) (fun x552 => some (.inl (x552, h551))) else some (.inr (.inl (false, h551)))))))) else if ((xs a411.1.toNatClampNeg) &&& (63 : Int32)) = (29 : Int32) then gd (inb (a411.1 + (1 : Int32)) L) (ob2 (f_X9_back (xs (a411.1 + (1 : Int32)).toNatClampNeg) a411.2) (fun r553 h554 => gd (inb (a411.1 + (1 : Int32)) L) (ob2 (f_X10_back (xs (a411.1 + (1 : Int32)).toNatClampNeg) h554) (fun r555 h556 => (if r553 = r555 then bnd (a411.1 + (5 : Int32)) (fun x557 => some (.inl (x557, h556))) else some (.inr (.inl (false, h556)))))))) else if ((xs a411.1.toNatClampNeg) &&& (63 : Int32)) = (30 : Int32) then gd (inb (a411.1 + (1 : Int32)) L) (gd (inb (a411.1 + (2 : Int32)) L) (gd (inb (a411.1 + (3 : Int32)) L) (ob2 (f_X9_sheet (xs (a411.1 + (1 : Int32)).toNatClampNeg) (xs (a411.1 + (2 : Int32)).toNatClampNeg) (xs (a411.1 + (3 : Int32)).toNatClampNeg) a411.2) (fun r558 h559 => gd (inb (a411.1 + (1 : Int32)) L) (gd (inb (a411.1 + (2 : Int32)) L) (gd (inb (a411.1 + (3 : Int32)) L) (ob2 (f_X10_sheet (xs (a411.1 + (1 : Int32)).toNatClampNeg) (xs (a411.1 + (2 : Int32)).toNatClampNeg) (xs (a411.1 + (3 : Int32)).toNatClampNeg) h559) (fun r560 h561 => (if r558 = r560 then bnd (a411.1 + (5 : Int32)) (fun x562 => some (.inl (x562, h561))) else some (.inr (.inl (false, h561)))))))))))) else if ((xs a411.1.toNatClampNeg) &&& (63 : Int32)) = (31 : Int32) then gd (inb (a411.1 + (1 : Int32)) L) (gd (inb (a411.1 + (2 : Int32)) L) (gd (inb (a411.1 + (3 : Int32)) L) (ob2 (f_X9_lay (xs (a411.1 + (1 : Int32)).toNatClampNeg) (xs (a411.1 + (2 : Int32)).toNatClampNeg) (xs (a411.1 + (3 : Int32)).toNatClampNeg) a411.2) (fun r563 h564 => gd (inb (a411.1 + (1 : Int32)) L) (gd (inb (a411.1 + (2 : Int32)) L) (gd (inb (a411.1 + (3 : Int32)) L) (ob2 (f_X10_lay (xs (a411.1 + (1 : Int32)).toNatClampNeg) (xs (a411.1 + (2 : Int32)).toNatClampNeg) (xs (a411.1 + (3 : Int32)).toNatClampNeg) h564) (fun r565 h566 => (if r563 = r565 then bnd (a411.1 + (5 : Int32)) (fun x567 => some (.inl (x567, h566))) else some (.inr (.inl (false, h566)))))))))))) else if ((xs a411.1.toNatClampNeg) &&& (63 : Int32)) = (32 : Int32) then gd (inb (a411.1 + (1 : Int32)) L) (gd (inb (a411.1 + (2 : Int32)) L) (gd (inb (a411.1 + (3 : Int32)) L) (gd (inb (a411.1 + (4 : Int32)) L) (ob2 (f_X9_read (xs (a411.1 + (1 : Int32)).toNatClampNeg) (xs (a411.1 + (2 : Int32)).toNatClampNeg) (xs (a411.1 + (3 : Int32)).toNatClampNeg) (xs (a411.1 + (4 : Int32)).toNatClampNeg) a411.2) (fun r568 h569 => gd (inb (a411.1 + (1 : Int32)) L) (gd (inb (a411.1 + (2 : Int32)) L) (gd (inb (a411.1 + (3 : Int32)) L) (gd (inb (a411.1 + (4 : Int32)) L) (ob2 (f_X10_read (xs (a411.1 + (1 : Int32)).toNatClampNeg) (xs (a411.1 + (2 : Int32)).toNatClampNeg) (xs (a411.1 + (3 : Int32)).toNatClampNeg) (xs (a411.1 + (4 : Int32)).toNatClampNeg) h569) (fun r570 h571 => (if r568 = r570 then bnd (a411.1 + (5 : Int32)) (fun x572 => some (.inl (x572, h571))) else some (.inr (.inl (false, h571)))))))))))))) else if ((xs a411.1.toNatClampNeg) &&& (63 : Int32)) = (33 : Int32) then obd (f_X9_torn a411.2) (fun r573 => obd (f_X10_torn a411.2) (fun r574 => (if r573 = r574 then bnd (a411.1 + (5 : Int32)) (fun x575 => some (.inl (x575, a411.2))) else some (.inr (.inl (false, a411.2)))))) else if ((xs a411.1.toNatClampNeg) &&& (63 : Int32)) = (34 : Int32) then gd (inb (a411.1 + (1 : Int32)) L) (obd (f_X9_count (xs (a411.1 + (1 : Int32)).toNatClampNeg) a411.2) (fun r576 => gd (inb (a411.1 + (1 : Int32)) L) (ob2 (f_X10_count (xs (a411.1 + (1 : Int32)).toNatClampNeg) a411.2) (fun r577 h578 => (if r576 = r577 then bnd (a411.1 + (5 : Int32)) (fun x579 => some (.inl (x579, h578))) else some (.inr (.inl (false, h578)))))))) else bnd (a411.1 + (5 : Int32)) (fun x580 => some (.inl (x580, a411.2))))))) ((0 : Int32), h)) (Sum.elim (fun r => some r) (fun e616 => some (true, e616)))
set_option maxHeartbeats 40000000 in
set_option maxRecDepth 100000 in
theorem L_L_law (Θ : Tht) (Γ : Ctx) (b L : Nat) (xs : Nat → Int32) (C : Cx Θ Γ cL_law RL 4 room_1) (HX : HXs Θ Γ b L xs) (h : Mem) (hk : Ok (f_L_law L xs h) (PB Θ Γ cL_law)) : G Θ Γ 16 [(2, .ref (rr Θ 24 0 0)), (1, .ref (rr Θ 0 0 0)), (0, .ref b)] [] h := by
  unfold f_L_law at hk
  refine g_iconst C (0 : Int32) dL_law_16 (by decide) (n := 17) rfl ?_
  refine g_istore_n C [(3, .int (0 : Int32)), (2, .ref (rr Θ 24 0 0)), (1, .ref (rr Θ 0 0 0)), (0, .ref b)] dL_law_17 rfl (by decide) rfl (n := 18) rfl ?_
  refine g_lv [3, 2, 1, 0] [(0, .ref b), (1, .ref (rr Θ 0 0 0)), (2, .ref (rr Θ 24 0 0)), (3, .int (0 : Int32))] rfl ?_
  refine Ok.join hk (Sum.elim (PB Θ Γ cL_law) (fun e616 => G Θ Γ 1211 [] [] e616)) (fun e hk => ?_) (fun hk => ?_)
  · rcases e with r | e616
    · exact hk.out
    · replace hk := ok_inr hk
      refine g_iconst C (1 : Int32) dL_law_1211 (by decide) (n := 1212) rfl ?_
      exact retB true rfl hk.out dL_law_1212
  · refine Ok.loop (fun a411 => G Θ Γ 18 [(0, .ref b), (1, .ref (rr Θ 0 0 0)), (2, .ref (rr Θ 24 0 0)), (3, .int a411.1)] [] a411.2) (fun a411 hk => ?_) _ _ hk
    refine g_iload_n C 3 dL_law_18 rfl rfl (n := 19) rfl ?_
    refine g_aload_n C 0 dL_law_19 rfl rfl (n := 20) rfl ?_
    refine g_xln C HX dL_law_20 (n := 21) rfl ?_
    refine g_iconst C (5 : Int32) dL_law_21 (by decide) (n := 22) rfl ?_
    refine g_isub C dL_law_22 (n := 23) rfl ?_
    refine g_ic_gt C 1211 dL_law_23 (by decide) (n := 26) rfl hk (fun hk => ?_) (fun hk => ?_)
    · refine g_lv [] [] rfl ?_
      exact hk.out
    · refine g_aload_n C 0 dL_law_26 rfl rfl (n := 27) rfl ?_
      refine g_iload_n C 3 dL_law_27 rfl rfl (n := 28) rfl ?_
      refine g_xld C HX dL_law_28 (n := 29) rfl hk (fun hk => ?_)
      refine g_bipush C (63 : Int32) dL_law_29 (by decide) (n := 31) rfl ?_
      refine g_iand C dL_law_31 (n := 32) rfl ?_
      refine g_sw C (0 : Int32) 188 dL_law_32 (by decide) (by decide) rfl (by decide) hk (fun hk => ?_) (fun hc581 hk => ?_)
      · refine g_aload_n C 1 dL_law_188 rfl rfl (n := 189) rfl ?_
        refine g_aload_n C 0 dL_law_189 rfl rfl (n := 190) rfl ?_
        refine g_iload_n C 3 dL_law_190 rfl rfl (n := 191) rfl ?_
        refine g_iconst C (1 : Int32) dL_law_191 (by decide) (n := 192) rfl ?_
        refine g_iadd C dL_law_192 (n := 193) rfl ?_
        refine g_xld C HX dL_law_193 (n := 194) rfl hk (fun hk => ?_)
        refine g_i2l C dL_law_194 (n := 195) rfl ?_
        refine g_bipush C (32 : Int32) dL_law_195 (by decide) (n := 197) rfl ?_
        refine g_lshl C dL_law_197 (n := 198) rfl ?_
        refine g_aload_n C 0 dL_law_198 rfl rfl (n := 199) rfl ?_
        refine g_iload_n C 3 dL_law_199 rfl rfl (n := 200) rfl ?_
        refine g_iconst C (2 : Int32) dL_law_200 (by decide) (n := 201) rfl ?_
        refine g_iadd C dL_law_201 (n := 202) rfl ?_
        refine g_xld C HX dL_law_202 (n := 203) rfl hk (fun hk => ?_)
        refine g_i2l C dL_law_203 (n := 204) rfl ?_
        refine g_ldc2 C (4294967295 : Int64) wm_1305 dL_law_204 (n := 207) rfl ?_
        refine g_land C dL_law_207 (n := 208) rfl ?_
        refine g_lor C dL_law_208 (n := 209) rfl ?_
        refine g_cVI C hk (fun K hk => L_X9_feed Θ ((lsl ((xs (a411.1 + (1 : Int32)).toNatClampNeg).toInt64) (32 : Int32)) ||| (((xs (a411.1 + (2 : Int32)).toNatClampNeg).toInt64) &&& (4294967295 : Int64))) a411.2 K hk) lk_L_15 kc_0 (by decide) (by decide) ⟨rfl, rfl⟩ ⟨Nat.le_of_ble_eq_true rfl, Nat.le_of_ble_eq_true rfl⟩ dL_law_209 rfl rfl (Nat.le_of_ble_eq_true rfl) (n := 212) rfl (fun r412 h413 hk => ?_)
        refine g_aload_n C 2 dL_law_212 rfl rfl (n := 213) rfl ?_
        refine g_aload_n C 0 dL_law_213 rfl rfl (n := 214) rfl ?_
        refine g_iload_n C 3 dL_law_214 rfl rfl (n := 215) rfl ?_
        refine g_iconst C (1 : Int32) dL_law_215 (by decide) (n := 216) rfl ?_
        refine g_iadd C dL_law_216 (n := 217) rfl ?_
        refine g_xld C HX dL_law_217 (n := 218) rfl hk (fun hk => ?_)
        refine g_i2l C dL_law_218 (n := 219) rfl ?_
        refine g_bipush C (32 : Int32) dL_law_219 (by decide) (n := 221) rfl ?_
        refine g_lshl C dL_law_221 (n := 222) rfl ?_
        refine g_aload_n C 0 dL_law_222 rfl rfl (n := 223) rfl ?_
        refine g_iload_n C 3 dL_law_223 rfl rfl (n := 224) rfl ?_
        refine g_iconst C (2 : Int32) dL_law_224 (by decide) (n := 225) rfl ?_
        refine g_iadd C dL_law_225 (n := 226) rfl ?_
        refine g_xld C HX dL_law_226 (n := 227) rfl hk (fun hk => ?_)
        refine g_i2l C dL_law_227 (n := 228) rfl ?_
        refine g_ldc2 C (4294967295 : Int64) wm_1305 dL_law_228 (n := 231) rfl ?_
        refine g_land C dL_law_231 (n := 232) rfl ?_
        refine g_lor C dL_law_232 (n := 233) rfl ?_
        refine g_cVI C hk (fun K hk => L_X10_feed Θ ((lsl ((xs (a411.1 + (1 : Int32)).toNatClampNeg).toInt64) (32 : Int32)) ||| (((xs (a411.1 + (2 : Int32)).toNatClampNeg).toInt64) &&& (4294967295 : Int64))) h413 K hk) lk_L_19 kc_24 (by decide) (by decide) ⟨rfl, rfl⟩ ⟨Nat.le_of_ble_eq_true rfl, Nat.le_of_ble_eq_true rfl⟩ dL_law_233 rfl rfl (Nat.le_of_ble_eq_true rfl) (n := 236) rfl (fun r414 h415 hk => ?_)
        refine g_ic_eq C 1205 dL_law_236 (by decide) (n := 239) rfl hk (fun hk => ?_) (fun hk => ?_)
        · refine g_iinc C 3 (fun x416 => [(3, .int x416), (0, .ref b), (1, .ref (rr Θ 0 0 0)), (2, .ref (rr Θ 24 0 0))]) dL_law_1205 rfl (v := (a411.1 + (5 : Int32))) rfl (by decide) (fun _ => rfl) (n := 1208) rfl hk (fun x416 hk => ?_)
          refine g_goto C 18 dL_law_1208 (by decide) ?_
          refine g_lv [1, 2, 3, 0] [(0, .ref b), (1, .ref (rr Θ 0 0 0)), (2, .ref (rr Θ 24 0 0)), (3, .int x416)] rfl ?_
          exact hk.out
        · refine g_iconst C (0 : Int32) dL_law_239 (by decide) (n := 240) rfl ?_
          exact retB false rfl hk.out dL_law_240
      refine g_sw C (1 : Int32) 241 dL_law_32 (by decide) (by decide) rfl (by decide) hk (fun hk => ?_) (fun hc582 hk => ?_)
      · refine g_aload_n C 1 dL_law_241 rfl rfl (n := 242) rfl ?_
        refine g_aload_n C 0 dL_law_242 rfl rfl (n := 243) rfl ?_
        refine g_iload_n C 3 dL_law_243 rfl rfl (n := 244) rfl ?_
        refine g_iconst C (1 : Int32) dL_law_244 (by decide) (n := 245) rfl ?_
        refine g_iadd C dL_law_245 (n := 246) rfl ?_
        refine g_xld C HX dL_law_246 (n := 247) rfl hk (fun hk => ?_)
        refine g_cVI C hk (fun K hk => L_X9_end Θ (xs (a411.1 + (1 : Int32)).toNatClampNeg) a411.2 K hk) lk_L_20 kc_0 (by decide) (by decide) ⟨rfl, rfl⟩ ⟨Nat.le_of_ble_eq_true rfl, Nat.le_of_ble_eq_true rfl⟩ dL_law_247 rfl rfl (Nat.le_of_ble_eq_true rfl) (n := 250) rfl (fun r417 h418 hk => ?_)
        refine g_aload_n C 2 dL_law_250 rfl rfl (n := 251) rfl ?_
        refine g_aload_n C 0 dL_law_251 rfl rfl (n := 252) rfl ?_
        refine g_iload_n C 3 dL_law_252 rfl rfl (n := 253) rfl ?_
        refine g_iconst C (1 : Int32) dL_law_253 (by decide) (n := 254) rfl ?_
        refine g_iadd C dL_law_254 (n := 255) rfl ?_
        refine g_xld C HX dL_law_255 (n := 256) rfl hk (fun hk => ?_)
        refine g_cVI C hk (fun K hk => L_X10_end Θ (xs (a411.1 + (1 : Int32)).toNatClampNeg) h418 K hk) lk_L_24 kc_24 (by decide) (by decide) ⟨rfl, rfl⟩ ⟨Nat.le_of_ble_eq_true rfl, Nat.le_of_ble_eq_true rfl⟩ dL_law_256 rfl rfl (Nat.le_of_ble_eq_true rfl) (n := 259) rfl (fun r419 h420 hk => ?_)
        refine g_ic_eq C 1205 dL_law_259 (by decide) (n := 262) rfl hk (fun hk => ?_) (fun hk => ?_)
        · refine g_iinc C 3 (fun x421 => [(3, .int x421), (0, .ref b), (1, .ref (rr Θ 0 0 0)), (2, .ref (rr Θ 24 0 0))]) dL_law_1205 rfl (v := (a411.1 + (5 : Int32))) rfl (by decide) (fun _ => rfl) (n := 1208) rfl hk (fun x421 hk => ?_)
          refine g_goto C 18 dL_law_1208 (by decide) ?_
          refine g_lv [1, 2, 3, 0] [(0, .ref b), (1, .ref (rr Θ 0 0 0)), (2, .ref (rr Θ 24 0 0)), (3, .int x421)] rfl ?_
          exact hk.out
        · refine g_iconst C (0 : Int32) dL_law_262 (by decide) (n := 263) rfl ?_
          exact retB false rfl hk.out dL_law_263
      refine g_sw C (2 : Int32) 264 dL_law_32 (by decide) (by decide) rfl (by decide) hk (fun hk => ?_) (fun hc583 hk => ?_)
      · refine g_aload_n C 1 dL_law_264 rfl rfl (n := 265) rfl ?_
        refine g_cVI C hk (fun K hk => L_X9_text Θ a411.2 K hk) lk_L_25 kc_0 (by decide) (by decide) ⟨rfl, rfl⟩ ⟨Nat.le_of_ble_eq_true rfl, Nat.le_of_ble_eq_true rfl⟩ dL_law_265 rfl rfl (Nat.le_of_ble_eq_true rfl) (n := 268) rfl (fun r422 h423 hk => ?_)
        refine g_aload_n C 2 dL_law_268 rfl rfl (n := 269) rfl ?_
        refine g_cVI C hk (fun K hk => L_X10_text Θ h423 K hk) lk_L_29 kc_24 (by decide) (by decide) ⟨rfl, rfl⟩ ⟨Nat.le_of_ble_eq_true rfl, Nat.le_of_ble_eq_true rfl⟩ dL_law_269 rfl rfl (Nat.le_of_ble_eq_true rfl) (n := 272) rfl (fun r424 h425 hk => ?_)
        refine g_ic_eq C 1205 dL_law_272 (by decide) (n := 275) rfl hk (fun hk => ?_) (fun hk => ?_)
        · refine g_iinc C 3 (fun x426 => [(3, .int x426), (0, .ref b), (1, .ref (rr Θ 0 0 0)), (2, .ref (rr Θ 24 0 0))]) dL_law_1205 rfl (v := (a411.1 + (5 : Int32))) rfl (by decide) (fun _ => rfl) (n := 1208) rfl hk (fun x426 hk => ?_)
          refine g_goto C 18 dL_law_1208 (by decide) ?_
          refine g_lv [1, 2, 3, 0] [(0, .ref b), (1, .ref (rr Θ 0 0 0)), (2, .ref (rr Θ 24 0 0)), (3, .int x426)] rfl ?_
          exact hk.out
        · refine g_iconst C (0 : Int32) dL_law_275 (by decide) (n := 276) rfl ?_
          exact retB false rfl hk.out dL_law_276
      refine g_sw C (3 : Int32) 277 dL_law_32 (by decide) (by decide) rfl (by decide) hk (fun hk => ?_) (fun hc584 hk => ?_)
      · refine g_aload_n C 1 dL_law_277 rfl rfl (n := 278) rfl ?_
        refine g_cVIp C hk (fun K hk => L_X9_fault Θ a411.2 K hk) lk_L_30 kc_0 (by decide) (by decide) ⟨rfl, rfl⟩ ⟨Nat.le_of_ble_eq_true rfl, Nat.le_of_ble_eq_true rfl⟩ dL_law_278 rfl rfl (Nat.le_of_ble_eq_true rfl) (n := 281) rfl (fun r427 hk => ?_)
        refine g_aload_n C 2 dL_law_281 rfl rfl (n := 282) rfl ?_
        refine g_cVIp C hk (fun K hk => L_X10_fault Θ a411.2 K hk) lk_L_33 kc_24 (by decide) (by decide) ⟨rfl, rfl⟩ ⟨Nat.le_of_ble_eq_true rfl, Nat.le_of_ble_eq_true rfl⟩ dL_law_282 rfl rfl (Nat.le_of_ble_eq_true rfl) (n := 285) rfl (fun r428 hk => ?_)
        refine g_ic_eq C 1205 dL_law_285 (by decide) (n := 288) rfl hk (fun hk => ?_) (fun hk => ?_)
        · refine g_iinc C 3 (fun x429 => [(3, .int x429), (0, .ref b), (1, .ref (rr Θ 0 0 0)), (2, .ref (rr Θ 24 0 0))]) dL_law_1205 rfl (v := (a411.1 + (5 : Int32))) rfl (by decide) (fun _ => rfl) (n := 1208) rfl hk (fun x429 hk => ?_)
          refine g_goto C 18 dL_law_1208 (by decide) ?_
          refine g_lv [1, 2, 3, 0] [(0, .ref b), (1, .ref (rr Θ 0 0 0)), (2, .ref (rr Θ 24 0 0)), (3, .int x429)] rfl ?_
          exact hk.out
        · refine g_iconst C (0 : Int32) dL_law_288 (by decide) (n := 289) rfl ?_
          exact retB false rfl hk.out dL_law_289
      refine g_sw C (4 : Int32) 290 dL_law_32 (by decide) (by decide) rfl (by decide) hk (fun hk => ?_) (fun hc585 hk => ?_)
      · refine g_aload_n C 1 dL_law_290 rfl rfl (n := 291) rfl ?_
        refine g_aload_n C 0 dL_law_291 rfl rfl (n := 292) rfl ?_
        refine g_iload_n C 3 dL_law_292 rfl rfl (n := 293) rfl ?_
        refine g_iconst C (1 : Int32) dL_law_293 (by decide) (n := 294) rfl ?_
        refine g_iadd C dL_law_294 (n := 295) rfl ?_
        refine g_xld C HX dL_law_295 (n := 296) rfl hk (fun hk => ?_)
        refine g_cVIp C hk (fun K hk => L_X9_rule Θ (xs (a411.1 + (1 : Int32)).toNatClampNeg) a411.2 K hk) lk_L_34 kc_0 (by decide) (by decide) ⟨rfl, rfl⟩ ⟨Nat.le_of_ble_eq_true rfl, Nat.le_of_ble_eq_true rfl⟩ dL_law_296 rfl rfl (Nat.le_of_ble_eq_true rfl) (n := 299) rfl (fun r430 hk => ?_)
        refine g_aload_n C 2 dL_law_299 rfl rfl (n := 300) rfl ?_
        refine g_aload_n C 0 dL_law_300 rfl rfl (n := 301) rfl ?_
        refine g_iload_n C 3 dL_law_301 rfl rfl (n := 302) rfl ?_
        refine g_iconst C (1 : Int32) dL_law_302 (by decide) (n := 303) rfl ?_
        refine g_iadd C dL_law_303 (n := 304) rfl ?_
        refine g_xld C HX dL_law_304 (n := 305) rfl hk (fun hk => ?_)
        refine g_cVIp C hk (fun K hk => L_X10_rule Θ (xs (a411.1 + (1 : Int32)).toNatClampNeg) a411.2 K hk) lk_L_37 kc_24 (by decide) (by decide) ⟨rfl, rfl⟩ ⟨Nat.le_of_ble_eq_true rfl, Nat.le_of_ble_eq_true rfl⟩ dL_law_305 rfl rfl (Nat.le_of_ble_eq_true rfl) (n := 308) rfl (fun r431 hk => ?_)
        refine g_ic_eq C 1205 dL_law_308 (by decide) (n := 311) rfl hk (fun hk => ?_) (fun hk => ?_)
        · refine g_iinc C 3 (fun x432 => [(3, .int x432), (0, .ref b), (1, .ref (rr Θ 0 0 0)), (2, .ref (rr Θ 24 0 0))]) dL_law_1205 rfl (v := (a411.1 + (5 : Int32))) rfl (by decide) (fun _ => rfl) (n := 1208) rfl hk (fun x432 hk => ?_)
          refine g_goto C 18 dL_law_1208 (by decide) ?_
          refine g_lv [1, 2, 3, 0] [(0, .ref b), (1, .ref (rr Θ 0 0 0)), (2, .ref (rr Θ 24 0 0)), (3, .int x432)] rfl ?_
          exact hk.out
        · refine g_iconst C (0 : Int32) dL_law_311 (by decide) (n := 312) rfl ?_
          exact retB false rfl hk.out dL_law_312
      refine g_sw C (5 : Int32) 313 dL_law_32 (by decide) (by decide) rfl (by decide) hk (fun hk => ?_) (fun hc586 hk => ?_)
      · refine g_aload_n C 1 dL_law_313 rfl rfl (n := 314) rfl ?_
        refine g_aload_n C 0 dL_law_314 rfl rfl (n := 315) rfl ?_
        refine g_iload_n C 3 dL_law_315 rfl rfl (n := 316) rfl ?_
        refine g_iconst C (1 : Int32) dL_law_316 (by decide) (n := 317) rfl ?_
        refine g_iadd C dL_law_317 (n := 318) rfl ?_
        refine g_xld C HX dL_law_318 (n := 319) rfl hk (fun hk => ?_)
        refine g_cVIp C hk (fun K hk => L_X9_hole Θ (xs (a411.1 + (1 : Int32)).toNatClampNeg) a411.2 K hk) lk_L_38 kc_0 (by decide) (by decide) ⟨rfl, rfl⟩ ⟨Nat.le_of_ble_eq_true rfl, Nat.le_of_ble_eq_true rfl⟩ dL_law_319 rfl rfl (Nat.le_of_ble_eq_true rfl) (n := 322) rfl (fun r433 hk => ?_)
        refine g_aload_n C 2 dL_law_322 rfl rfl (n := 323) rfl ?_
        refine g_aload_n C 0 dL_law_323 rfl rfl (n := 324) rfl ?_
        refine g_iload_n C 3 dL_law_324 rfl rfl (n := 325) rfl ?_
        refine g_iconst C (1 : Int32) dL_law_325 (by decide) (n := 326) rfl ?_
        refine g_iadd C dL_law_326 (n := 327) rfl ?_
        refine g_xld C HX dL_law_327 (n := 328) rfl hk (fun hk => ?_)
        refine g_cVIp C hk (fun K hk => L_X10_hole Θ (xs (a411.1 + (1 : Int32)).toNatClampNeg) a411.2 K hk) lk_L_41 kc_24 (by decide) (by decide) ⟨rfl, rfl⟩ ⟨Nat.le_of_ble_eq_true rfl, Nat.le_of_ble_eq_true rfl⟩ dL_law_328 rfl rfl (Nat.le_of_ble_eq_true rfl) (n := 331) rfl (fun r434 hk => ?_)
        refine g_ic_eq C 1205 dL_law_331 (by decide) (n := 334) rfl hk (fun hk => ?_) (fun hk => ?_)
        · refine g_iinc C 3 (fun x435 => [(3, .int x435), (0, .ref b), (1, .ref (rr Θ 0 0 0)), (2, .ref (rr Θ 24 0 0))]) dL_law_1205 rfl (v := (a411.1 + (5 : Int32))) rfl (by decide) (fun _ => rfl) (n := 1208) rfl hk (fun x435 hk => ?_)
          refine g_goto C 18 dL_law_1208 (by decide) ?_
          refine g_lv [1, 2, 3, 0] [(0, .ref b), (1, .ref (rr Θ 0 0 0)), (2, .ref (rr Θ 24 0 0)), (3, .int x435)] rfl ?_
          exact hk.out
        · refine g_iconst C (0 : Int32) dL_law_334 (by decide) (n := 335) rfl ?_
          exact retB false rfl hk.out dL_law_335
      refine g_sw C (6 : Int32) 336 dL_law_32 (by decide) (by decide) rfl (by decide) hk (fun hk => ?_) (fun hc587 hk => ?_)
      · refine g_aload_n C 1 dL_law_336 rfl rfl (n := 337) rfl ?_
        refine g_aload_n C 0 dL_law_337 rfl rfl (n := 338) rfl ?_
        refine g_iload_n C 3 dL_law_338 rfl rfl (n := 339) rfl ?_
        refine g_iconst C (1 : Int32) dL_law_339 (by decide) (n := 340) rfl ?_
        refine g_iadd C dL_law_340 (n := 341) rfl ?_
        refine g_xld C HX dL_law_341 (n := 342) rfl hk (fun hk => ?_)
        refine g_aload_n C 0 dL_law_342 rfl rfl (n := 343) rfl ?_
        refine g_iload_n C 3 dL_law_343 rfl rfl (n := 344) rfl ?_
        refine g_iconst C (2 : Int32) dL_law_344 (by decide) (n := 345) rfl ?_
        refine g_iadd C dL_law_345 (n := 346) rfl ?_
        refine g_xld C HX dL_law_346 (n := 347) rfl hk (fun hk => ?_)
        refine g_cVIp C hk (fun K hk => L_X9_coin Θ (xs (a411.1 + (1 : Int32)).toNatClampNeg) (xs (a411.1 + (2 : Int32)).toNatClampNeg) a411.2 K hk) lk_L_42 kc_0 (by decide) (by decide) ⟨rfl, rfl⟩ ⟨Nat.le_of_ble_eq_true rfl, Nat.le_of_ble_eq_true rfl⟩ dL_law_347 rfl rfl (Nat.le_of_ble_eq_true rfl) (n := 350) rfl (fun r436 hk => ?_)
        refine g_aload_n C 2 dL_law_350 rfl rfl (n := 351) rfl ?_
        refine g_aload_n C 0 dL_law_351 rfl rfl (n := 352) rfl ?_
        refine g_iload_n C 3 dL_law_352 rfl rfl (n := 353) rfl ?_
        refine g_iconst C (1 : Int32) dL_law_353 (by decide) (n := 354) rfl ?_
        refine g_iadd C dL_law_354 (n := 355) rfl ?_
        refine g_xld C HX dL_law_355 (n := 356) rfl hk (fun hk => ?_)
        refine g_aload_n C 0 dL_law_356 rfl rfl (n := 357) rfl ?_
        refine g_iload_n C 3 dL_law_357 rfl rfl (n := 358) rfl ?_
        refine g_iconst C (2 : Int32) dL_law_358 (by decide) (n := 359) rfl ?_
        refine g_iadd C dL_law_359 (n := 360) rfl ?_
        refine g_xld C HX dL_law_360 (n := 361) rfl hk (fun hk => ?_)
        refine g_cVI C hk (fun K hk => L_X10_coin Θ (xs (a411.1 + (1 : Int32)).toNatClampNeg) (xs (a411.1 + (2 : Int32)).toNatClampNeg) a411.2 K hk) lk_L_46 kc_24 (by decide) (by decide) ⟨rfl, rfl⟩ ⟨Nat.le_of_ble_eq_true rfl, Nat.le_of_ble_eq_true rfl⟩ dL_law_361 rfl rfl (Nat.le_of_ble_eq_true rfl) (n := 364) rfl (fun r437 h438 hk => ?_)
        refine g_ic_eq C 1205 dL_law_364 (by decide) (n := 367) rfl hk (fun hk => ?_) (fun hk => ?_)
        · refine g_iinc C 3 (fun x439 => [(3, .int x439), (0, .ref b), (1, .ref (rr Θ 0 0 0)), (2, .ref (rr Θ 24 0 0))]) dL_law_1205 rfl (v := (a411.1 + (5 : Int32))) rfl (by decide) (fun _ => rfl) (n := 1208) rfl hk (fun x439 hk => ?_)
          refine g_goto C 18 dL_law_1208 (by decide) ?_
          refine g_lv [1, 2, 3, 0] [(0, .ref b), (1, .ref (rr Θ 0 0 0)), (2, .ref (rr Θ 24 0 0)), (3, .int x439)] rfl ?_
          exact hk.out
        · refine g_iconst C (0 : Int32) dL_law_367 (by decide) (n := 368) rfl ?_
          exact retB false rfl hk.out dL_law_368
      refine g_sw C (7 : Int32) 369 dL_law_32 (by decide) (by decide) rfl (by decide) hk (fun hk => ?_) (fun hc588 hk => ?_)
      · refine g_aload_n C 1 dL_law_369 rfl rfl (n := 370) rfl ?_
        refine g_aload_n C 0 dL_law_370 rfl rfl (n := 371) rfl ?_
        refine g_iload_n C 3 dL_law_371 rfl rfl (n := 372) rfl ?_
        refine g_iconst C (1 : Int32) dL_law_372 (by decide) (n := 373) rfl ?_
        refine g_iadd C dL_law_373 (n := 374) rfl ?_
        refine g_xld C HX dL_law_374 (n := 375) rfl hk (fun hk => ?_)
        refine g_aload_n C 0 dL_law_375 rfl rfl (n := 376) rfl ?_
        refine g_iload_n C 3 dL_law_376 rfl rfl (n := 377) rfl ?_
        refine g_iconst C (2 : Int32) dL_law_377 (by decide) (n := 378) rfl ?_
        refine g_iadd C dL_law_378 (n := 379) rfl ?_
        refine g_xld C HX dL_law_379 (n := 380) rfl hk (fun hk => ?_)
        refine g_cVIp C hk (fun K hk => L_X9_crab Θ (xs (a411.1 + (1 : Int32)).toNatClampNeg) (xs (a411.1 + (2 : Int32)).toNatClampNeg) a411.2 K hk) lk_L_47 kc_0 (by decide) (by decide) ⟨rfl, rfl⟩ ⟨Nat.le_of_ble_eq_true rfl, Nat.le_of_ble_eq_true rfl⟩ dL_law_380 rfl rfl (Nat.le_of_ble_eq_true rfl) (n := 383) rfl (fun r440 hk => ?_)
        refine g_aload_n C 2 dL_law_383 rfl rfl (n := 384) rfl ?_
        refine g_aload_n C 0 dL_law_384 rfl rfl (n := 385) rfl ?_
        refine g_iload_n C 3 dL_law_385 rfl rfl (n := 386) rfl ?_
        refine g_iconst C (1 : Int32) dL_law_386 (by decide) (n := 387) rfl ?_
        refine g_iadd C dL_law_387 (n := 388) rfl ?_
        refine g_xld C HX dL_law_388 (n := 389) rfl hk (fun hk => ?_)
        refine g_aload_n C 0 dL_law_389 rfl rfl (n := 390) rfl ?_
        refine g_iload_n C 3 dL_law_390 rfl rfl (n := 391) rfl ?_
        refine g_iconst C (2 : Int32) dL_law_391 (by decide) (n := 392) rfl ?_
        refine g_iadd C dL_law_392 (n := 393) rfl ?_
        refine g_xld C HX dL_law_393 (n := 394) rfl hk (fun hk => ?_)
        refine g_cVI C hk (fun K hk => L_X10_crab Θ (xs (a411.1 + (1 : Int32)).toNatClampNeg) (xs (a411.1 + (2 : Int32)).toNatClampNeg) a411.2 K hk) lk_L_50 kc_24 (by decide) (by decide) ⟨rfl, rfl⟩ ⟨Nat.le_of_ble_eq_true rfl, Nat.le_of_ble_eq_true rfl⟩ dL_law_394 rfl rfl (Nat.le_of_ble_eq_true rfl) (n := 397) rfl (fun r441 h442 hk => ?_)
        refine g_ic_eq C 1205 dL_law_397 (by decide) (n := 400) rfl hk (fun hk => ?_) (fun hk => ?_)
        · refine g_iinc C 3 (fun x443 => [(3, .int x443), (0, .ref b), (1, .ref (rr Θ 0 0 0)), (2, .ref (rr Θ 24 0 0))]) dL_law_1205 rfl (v := (a411.1 + (5 : Int32))) rfl (by decide) (fun _ => rfl) (n := 1208) rfl hk (fun x443 hk => ?_)
          refine g_goto C 18 dL_law_1208 (by decide) ?_
          refine g_lv [1, 2, 3, 0] [(0, .ref b), (1, .ref (rr Θ 0 0 0)), (2, .ref (rr Θ 24 0 0)), (3, .int x443)] rfl ?_
          exact hk.out
        · refine g_iconst C (0 : Int32) dL_law_400 (by decide) (n := 401) rfl ?_
          exact retB false rfl hk.out dL_law_401
      refine g_sw C (8 : Int32) 402 dL_law_32 (by decide) (by decide) rfl (by decide) hk (fun hk => ?_) (fun hc589 hk => ?_)
      · refine g_aload_n C 1 dL_law_402 rfl rfl (n := 403) rfl ?_
        refine g_aload_n C 0 dL_law_403 rfl rfl (n := 404) rfl ?_
        refine g_iload_n C 3 dL_law_404 rfl rfl (n := 405) rfl ?_
        refine g_iconst C (1 : Int32) dL_law_405 (by decide) (n := 406) rfl ?_
        refine g_iadd C dL_law_406 (n := 407) rfl ?_
        refine g_xld C HX dL_law_407 (n := 408) rfl hk (fun hk => ?_)
        refine g_aload_n C 0 dL_law_408 rfl rfl (n := 409) rfl ?_
        refine g_iload_n C 3 dL_law_409 rfl rfl (n := 410) rfl ?_
        refine g_iconst C (2 : Int32) dL_law_410 (by decide) (n := 411) rfl ?_
        refine g_iadd C dL_law_411 (n := 412) rfl ?_
        refine g_xld C HX dL_law_412 (n := 413) rfl hk (fun hk => ?_)
        refine g_cVI C hk (fun K hk => L_X9_dig Θ (xs (a411.1 + (1 : Int32)).toNatClampNeg) (xs (a411.1 + (2 : Int32)).toNatClampNeg) a411.2 K hk) lk_L_51 kc_0 (by decide) (by decide) ⟨rfl, rfl⟩ ⟨Nat.le_of_ble_eq_true rfl, Nat.le_of_ble_eq_true rfl⟩ dL_law_413 rfl rfl (Nat.le_of_ble_eq_true rfl) (n := 416) rfl (fun r444 h445 hk => ?_)
        refine g_aload_n C 2 dL_law_416 rfl rfl (n := 417) rfl ?_
        refine g_aload_n C 0 dL_law_417 rfl rfl (n := 418) rfl ?_
        refine g_iload_n C 3 dL_law_418 rfl rfl (n := 419) rfl ?_
        refine g_iconst C (1 : Int32) dL_law_419 (by decide) (n := 420) rfl ?_
        refine g_iadd C dL_law_420 (n := 421) rfl ?_
        refine g_xld C HX dL_law_421 (n := 422) rfl hk (fun hk => ?_)
        refine g_aload_n C 0 dL_law_422 rfl rfl (n := 423) rfl ?_
        refine g_iload_n C 3 dL_law_423 rfl rfl (n := 424) rfl ?_
        refine g_iconst C (2 : Int32) dL_law_424 (by decide) (n := 425) rfl ?_
        refine g_iadd C dL_law_425 (n := 426) rfl ?_
        refine g_xld C HX dL_law_426 (n := 427) rfl hk (fun hk => ?_)
        refine g_cVI C hk (fun K hk => L_X10_dig Θ (xs (a411.1 + (1 : Int32)).toNatClampNeg) (xs (a411.1 + (2 : Int32)).toNatClampNeg) h445 K hk) lk_L_54 kc_24 (by decide) (by decide) ⟨rfl, rfl⟩ ⟨Nat.le_of_ble_eq_true rfl, Nat.le_of_ble_eq_true rfl⟩ dL_law_427 rfl rfl (Nat.le_of_ble_eq_true rfl) (n := 430) rfl (fun r446 h447 hk => ?_)
        refine g_ic_eq C 1205 dL_law_430 (by decide) (n := 433) rfl hk (fun hk => ?_) (fun hk => ?_)
        · refine g_iinc C 3 (fun x448 => [(3, .int x448), (0, .ref b), (1, .ref (rr Θ 0 0 0)), (2, .ref (rr Θ 24 0 0))]) dL_law_1205 rfl (v := (a411.1 + (5 : Int32))) rfl (by decide) (fun _ => rfl) (n := 1208) rfl hk (fun x448 hk => ?_)
          refine g_goto C 18 dL_law_1208 (by decide) ?_
          refine g_lv [1, 2, 3, 0] [(0, .ref b), (1, .ref (rr Θ 0 0 0)), (2, .ref (rr Θ 24 0 0)), (3, .int x448)] rfl ?_
          exact hk.out
        · refine g_iconst C (0 : Int32) dL_law_433 (by decide) (n := 434) rfl ?_
          exact retB false rfl hk.out dL_law_434
      refine g_sw C (9 : Int32) 435 dL_law_32 (by decide) (by decide) rfl (by decide) hk (fun hk => ?_) (fun hc590 hk => ?_)
      · refine g_aload_n C 1 dL_law_435 rfl rfl (n := 436) rfl ?_
        refine g_aload_n C 0 dL_law_436 rfl rfl (n := 437) rfl ?_
        refine g_iload_n C 3 dL_law_437 rfl rfl (n := 438) rfl ?_
        refine g_iconst C (1 : Int32) dL_law_438 (by decide) (n := 439) rfl ?_
        refine g_iadd C dL_law_439 (n := 440) rfl ?_
        refine g_xld C HX dL_law_440 (n := 441) rfl hk (fun hk => ?_)
        refine g_aload_n C 0 dL_law_441 rfl rfl (n := 442) rfl ?_
        refine g_iload_n C 3 dL_law_442 rfl rfl (n := 443) rfl ?_
        refine g_iconst C (2 : Int32) dL_law_443 (by decide) (n := 444) rfl ?_
        refine g_iadd C dL_law_444 (n := 445) rfl ?_
        refine g_xld C HX dL_law_445 (n := 446) rfl hk (fun hk => ?_)
        refine g_cVI C hk (fun K hk => L_X9_mint Θ (xs (a411.1 + (1 : Int32)).toNatClampNeg) (xs (a411.1 + (2 : Int32)).toNatClampNeg) a411.2 K hk) lk_L_55 kc_0 (by decide) (by decide) ⟨rfl, rfl⟩ ⟨Nat.le_of_ble_eq_true rfl, Nat.le_of_ble_eq_true rfl⟩ dL_law_446 rfl rfl (Nat.le_of_ble_eq_true rfl) (n := 449) rfl (fun r449 h450 hk => ?_)
        refine g_aload_n C 2 dL_law_449 rfl rfl (n := 450) rfl ?_
        refine g_aload_n C 0 dL_law_450 rfl rfl (n := 451) rfl ?_
        refine g_iload_n C 3 dL_law_451 rfl rfl (n := 452) rfl ?_
        refine g_iconst C (1 : Int32) dL_law_452 (by decide) (n := 453) rfl ?_
        refine g_iadd C dL_law_453 (n := 454) rfl ?_
        refine g_xld C HX dL_law_454 (n := 455) rfl hk (fun hk => ?_)
        refine g_aload_n C 0 dL_law_455 rfl rfl (n := 456) rfl ?_
        refine g_iload_n C 3 dL_law_456 rfl rfl (n := 457) rfl ?_
        refine g_iconst C (2 : Int32) dL_law_457 (by decide) (n := 458) rfl ?_
        refine g_iadd C dL_law_458 (n := 459) rfl ?_
        refine g_xld C HX dL_law_459 (n := 460) rfl hk (fun hk => ?_)
        refine g_cVI C hk (fun K hk => L_X10_mint Θ (xs (a411.1 + (1 : Int32)).toNatClampNeg) (xs (a411.1 + (2 : Int32)).toNatClampNeg) h450 K hk) lk_L_58 kc_24 (by decide) (by decide) ⟨rfl, rfl⟩ ⟨Nat.le_of_ble_eq_true rfl, Nat.le_of_ble_eq_true rfl⟩ dL_law_460 rfl rfl (Nat.le_of_ble_eq_true rfl) (n := 463) rfl (fun r451 h452 hk => ?_)
        refine g_ic_eq C 1205 dL_law_463 (by decide) (n := 466) rfl hk (fun hk => ?_) (fun hk => ?_)
        · refine g_iinc C 3 (fun x453 => [(3, .int x453), (0, .ref b), (1, .ref (rr Θ 0 0 0)), (2, .ref (rr Θ 24 0 0))]) dL_law_1205 rfl (v := (a411.1 + (5 : Int32))) rfl (by decide) (fun _ => rfl) (n := 1208) rfl hk (fun x453 hk => ?_)
          refine g_goto C 18 dL_law_1208 (by decide) ?_
          refine g_lv [1, 2, 3, 0] [(0, .ref b), (1, .ref (rr Θ 0 0 0)), (2, .ref (rr Θ 24 0 0)), (3, .int x453)] rfl ?_
          exact hk.out
        · refine g_iconst C (0 : Int32) dL_law_466 (by decide) (n := 467) rfl ?_
          exact retB false rfl hk.out dL_law_467
      refine g_sw C (10 : Int32) 468 dL_law_32 (by decide) (by decide) rfl (by decide) hk (fun hk => ?_) (fun hc591 hk => ?_)
      · refine g_aload_n C 1 dL_law_468 rfl rfl (n := 469) rfl ?_
        refine g_aload_n C 0 dL_law_469 rfl rfl (n := 470) rfl ?_
        refine g_iload_n C 3 dL_law_470 rfl rfl (n := 471) rfl ?_
        refine g_iconst C (1 : Int32) dL_law_471 (by decide) (n := 472) rfl ?_
        refine g_iadd C dL_law_472 (n := 473) rfl ?_
        refine g_xld C HX dL_law_473 (n := 474) rfl hk (fun hk => ?_)
        refine g_aload_n C 0 dL_law_474 rfl rfl (n := 475) rfl ?_
        refine g_iload_n C 3 dL_law_475 rfl rfl (n := 476) rfl ?_
        refine g_iconst C (2 : Int32) dL_law_476 (by decide) (n := 477) rfl ?_
        refine g_iadd C dL_law_477 (n := 478) rfl ?_
        refine g_xld C HX dL_law_478 (n := 479) rfl hk (fun hk => ?_)
        refine g_cVI C hk (fun K hk => L_X9_lie Θ (xs (a411.1 + (1 : Int32)).toNatClampNeg) (xs (a411.1 + (2 : Int32)).toNatClampNeg) a411.2 K hk) lk_L_59 kc_0 (by decide) (by decide) ⟨rfl, rfl⟩ ⟨Nat.le_of_ble_eq_true rfl, Nat.le_of_ble_eq_true rfl⟩ dL_law_479 rfl rfl (Nat.le_of_ble_eq_true rfl) (n := 482) rfl (fun r454 h455 hk => ?_)
        refine g_aload_n C 2 dL_law_482 rfl rfl (n := 483) rfl ?_
        refine g_aload_n C 0 dL_law_483 rfl rfl (n := 484) rfl ?_
        refine g_iload_n C 3 dL_law_484 rfl rfl (n := 485) rfl ?_
        refine g_iconst C (1 : Int32) dL_law_485 (by decide) (n := 486) rfl ?_
        refine g_iadd C dL_law_486 (n := 487) rfl ?_
        refine g_xld C HX dL_law_487 (n := 488) rfl hk (fun hk => ?_)
        refine g_aload_n C 0 dL_law_488 rfl rfl (n := 489) rfl ?_
        refine g_iload_n C 3 dL_law_489 rfl rfl (n := 490) rfl ?_
        refine g_iconst C (2 : Int32) dL_law_490 (by decide) (n := 491) rfl ?_
        refine g_iadd C dL_law_491 (n := 492) rfl ?_
        refine g_xld C HX dL_law_492 (n := 493) rfl hk (fun hk => ?_)
        refine g_cVI C hk (fun K hk => L_X10_lie Θ (xs (a411.1 + (1 : Int32)).toNatClampNeg) (xs (a411.1 + (2 : Int32)).toNatClampNeg) h455 K hk) lk_L_62 kc_24 (by decide) (by decide) ⟨rfl, rfl⟩ ⟨Nat.le_of_ble_eq_true rfl, Nat.le_of_ble_eq_true rfl⟩ dL_law_493 rfl rfl (Nat.le_of_ble_eq_true rfl) (n := 496) rfl (fun r456 h457 hk => ?_)
        refine g_ic_eq C 1205 dL_law_496 (by decide) (n := 499) rfl hk (fun hk => ?_) (fun hk => ?_)
        · refine g_iinc C 3 (fun x458 => [(3, .int x458), (0, .ref b), (1, .ref (rr Θ 0 0 0)), (2, .ref (rr Θ 24 0 0))]) dL_law_1205 rfl (v := (a411.1 + (5 : Int32))) rfl (by decide) (fun _ => rfl) (n := 1208) rfl hk (fun x458 hk => ?_)
          refine g_goto C 18 dL_law_1208 (by decide) ?_
          refine g_lv [1, 2, 3, 0] [(0, .ref b), (1, .ref (rr Θ 0 0 0)), (2, .ref (rr Θ 24 0 0)), (3, .int x458)] rfl ?_
          exact hk.out
        · refine g_iconst C (0 : Int32) dL_law_499 (by decide) (n := 500) rfl ?_
          exact retB false rfl hk.out dL_law_500
      refine g_sw C (11 : Int32) 501 dL_law_32 (by decide) (by decide) rfl (by decide) hk (fun hk => ?_) (fun hc592 hk => ?_)
      · refine g_aload_n C 1 dL_law_501 rfl rfl (n := 502) rfl ?_
        refine g_aload_n C 0 dL_law_502 rfl rfl (n := 503) rfl ?_
        refine g_iload_n C 3 dL_law_503 rfl rfl (n := 504) rfl ?_
        refine g_iconst C (1 : Int32) dL_law_504 (by decide) (n := 505) rfl ?_
        refine g_iadd C dL_law_505 (n := 506) rfl ?_
        refine g_xld C HX dL_law_506 (n := 507) rfl hk (fun hk => ?_)
        refine g_aload_n C 0 dL_law_507 rfl rfl (n := 508) rfl ?_
        refine g_iload_n C 3 dL_law_508 rfl rfl (n := 509) rfl ?_
        refine g_iconst C (2 : Int32) dL_law_509 (by decide) (n := 510) rfl ?_
        refine g_iadd C dL_law_510 (n := 511) rfl ?_
        refine g_xld C HX dL_law_511 (n := 512) rfl hk (fun hk => ?_)
        refine Ok.join hk (fun a459 => G Θ Γ 520 [(0, .ref b), (1, .ref (rr Θ 0 0 0)), (2, .ref (rr Θ 24 0 0)), (3, .int a411.1)] [.int (b2i a459), .int (xs (a411.1 + (1 : Int32)).toNatClampNeg), .ref (rr Θ 0 0 0)] a411.2) (fun a459 hk => ?_) (fun hk => ?_)
        · refine g_cVI C hk (fun K hk => L_X9_fake Θ (xs (a411.1 + (1 : Int32)).toNatClampNeg) a459 a411.2 K hk) lk_L_63 kc_0 (by decide) (by decide) ⟨rfl, rfl⟩ ⟨Nat.le_of_ble_eq_true rfl, Nat.le_of_ble_eq_true rfl⟩ dL_law_520 rfl rfl (Nat.le_of_ble_eq_true rfl) (n := 523) rfl (fun r460 h461 hk => ?_)
          refine g_aload_n C 2 dL_law_523 rfl rfl (n := 524) rfl ?_
          refine g_aload_n C 0 dL_law_524 rfl rfl (n := 525) rfl ?_
          refine g_iload_n C 3 dL_law_525 rfl rfl (n := 526) rfl ?_
          refine g_iconst C (1 : Int32) dL_law_526 (by decide) (n := 527) rfl ?_
          refine g_iadd C dL_law_527 (n := 528) rfl ?_
          refine g_xld C HX dL_law_528 (n := 529) rfl hk (fun hk => ?_)
          refine g_aload_n C 0 dL_law_529 rfl rfl (n := 530) rfl ?_
          refine g_iload_n C 3 dL_law_530 rfl rfl (n := 531) rfl ?_
          refine g_iconst C (2 : Int32) dL_law_531 (by decide) (n := 532) rfl ?_
          refine g_iadd C dL_law_532 (n := 533) rfl ?_
          refine g_xld C HX dL_law_533 (n := 534) rfl hk (fun hk => ?_)
          refine Ok.join hk (fun a462 => G Θ Γ 542 [(0, .ref b), (1, .ref (rr Θ 0 0 0)), (2, .ref (rr Θ 24 0 0)), (3, .int a411.1)] [.int (b2i a462), .int (xs (a411.1 + (1 : Int32)).toNatClampNeg), .ref (rr Θ 24 0 0), .int r460] h461) (fun a462 hk => ?_) (fun hk => ?_)
          · refine g_cVI C hk (fun K hk => L_X10_fake Θ (xs (a411.1 + (1 : Int32)).toNatClampNeg) a462 h461 K hk) lk_L_67 kc_24 (by decide) (by decide) ⟨rfl, rfl⟩ ⟨Nat.le_of_ble_eq_true rfl, Nat.le_of_ble_eq_true rfl⟩ dL_law_542 rfl rfl (Nat.le_of_ble_eq_true rfl) (n := 545) rfl (fun r463 h464 hk => ?_)
            refine g_ic_eq C 1205 dL_law_545 (by decide) (n := 548) rfl hk (fun hk => ?_) (fun hk => ?_)
            · refine g_iinc C 3 (fun x465 => [(3, .int x465), (0, .ref b), (1, .ref (rr Θ 0 0 0)), (2, .ref (rr Θ 24 0 0))]) dL_law_1205 rfl (v := (a411.1 + (5 : Int32))) rfl (by decide) (fun _ => rfl) (n := 1208) rfl hk (fun x465 hk => ?_)
              refine g_goto C 18 dL_law_1208 (by decide) ?_
              refine g_lv [1, 2, 3, 0] [(0, .ref b), (1, .ref (rr Θ 0 0 0)), (2, .ref (rr Θ 24 0 0)), (3, .int x465)] rfl ?_
              exact hk.out
            · refine g_iconst C (0 : Int32) dL_law_548 (by decide) (n := 549) rfl ?_
              exact retB false rfl hk.out dL_law_549
          · refine g_if_eq C 541 dL_law_534 (by decide) (n := 537) rfl hk (fun hk => ?_) (fun hk => ?_)
            · refine g_iconst C (0 : Int32) dL_law_541 (by decide) (n := 542) rfl ?_
              exact hk.out
            · refine g_iconst C (1 : Int32) dL_law_537 (by decide) (n := 538) rfl ?_
              refine g_goto C 542 dL_law_538 (by decide) ?_
              exact hk.out
        · refine g_if_eq C 519 dL_law_512 (by decide) (n := 515) rfl hk (fun hk => ?_) (fun hk => ?_)
          · refine g_iconst C (0 : Int32) dL_law_519 (by decide) (n := 520) rfl ?_
            exact hk.out
          · refine g_iconst C (1 : Int32) dL_law_515 (by decide) (n := 516) rfl ?_
            refine g_goto C 520 dL_law_516 (by decide) ?_
            exact hk.out
      refine g_sw C (12 : Int32) 550 dL_law_32 (by decide) (by decide) rfl (by decide) hk (fun hk => ?_) (fun hc593 hk => ?_)
      · refine g_aload_n C 1 dL_law_550 rfl rfl (n := 551) rfl ?_
        refine g_aload_n C 0 dL_law_551 rfl rfl (n := 552) rfl ?_
        refine g_iload_n C 3 dL_law_552 rfl rfl (n := 553) rfl ?_
        refine g_iconst C (1 : Int32) dL_law_553 (by decide) (n := 554) rfl ?_
        refine g_iadd C dL_law_554 (n := 555) rfl ?_
        refine g_xld C HX dL_law_555 (n := 556) rfl hk (fun hk => ?_)
        refine g_aload_n C 0 dL_law_556 rfl rfl (n := 557) rfl ?_
        refine g_iload_n C 3 dL_law_557 rfl rfl (n := 558) rfl ?_
        refine g_iconst C (2 : Int32) dL_law_558 (by decide) (n := 559) rfl ?_
        refine g_iadd C dL_law_559 (n := 560) rfl ?_
        refine g_xld C HX dL_law_560 (n := 561) rfl hk (fun hk => ?_)
        refine g_cVI C hk (fun K hk => L_X9_set Θ (xs (a411.1 + (1 : Int32)).toNatClampNeg) (xs (a411.1 + (2 : Int32)).toNatClampNeg) a411.2 K hk) lk_L_68 kc_0 (by decide) (by decide) ⟨rfl, rfl⟩ ⟨Nat.le_of_ble_eq_true rfl, Nat.le_of_ble_eq_true rfl⟩ dL_law_561 rfl rfl (Nat.le_of_ble_eq_true rfl) (n := 564) rfl (fun r466 h467 hk => ?_)
        refine g_aload_n C 2 dL_law_564 rfl rfl (n := 565) rfl ?_
        refine g_aload_n C 0 dL_law_565 rfl rfl (n := 566) rfl ?_
        refine g_iload_n C 3 dL_law_566 rfl rfl (n := 567) rfl ?_
        refine g_iconst C (1 : Int32) dL_law_567 (by decide) (n := 568) rfl ?_
        refine g_iadd C dL_law_568 (n := 569) rfl ?_
        refine g_xld C HX dL_law_569 (n := 570) rfl hk (fun hk => ?_)
        refine g_aload_n C 0 dL_law_570 rfl rfl (n := 571) rfl ?_
        refine g_iload_n C 3 dL_law_571 rfl rfl (n := 572) rfl ?_
        refine g_iconst C (2 : Int32) dL_law_572 (by decide) (n := 573) rfl ?_
        refine g_iadd C dL_law_573 (n := 574) rfl ?_
        refine g_xld C HX dL_law_574 (n := 575) rfl hk (fun hk => ?_)
        refine g_cVI C hk (fun K hk => L_X10_set Θ (xs (a411.1 + (1 : Int32)).toNatClampNeg) (xs (a411.1 + (2 : Int32)).toNatClampNeg) h467 K hk) lk_L_71 kc_24 (by decide) (by decide) ⟨rfl, rfl⟩ ⟨Nat.le_of_ble_eq_true rfl, Nat.le_of_ble_eq_true rfl⟩ dL_law_575 rfl rfl (Nat.le_of_ble_eq_true rfl) (n := 578) rfl (fun r468 h469 hk => ?_)
        refine g_ic_eq C 1205 dL_law_578 (by decide) (n := 581) rfl hk (fun hk => ?_) (fun hk => ?_)
        · refine g_iinc C 3 (fun x470 => [(3, .int x470), (0, .ref b), (1, .ref (rr Θ 0 0 0)), (2, .ref (rr Θ 24 0 0))]) dL_law_1205 rfl (v := (a411.1 + (5 : Int32))) rfl (by decide) (fun _ => rfl) (n := 1208) rfl hk (fun x470 hk => ?_)
          refine g_goto C 18 dL_law_1208 (by decide) ?_
          refine g_lv [1, 2, 3, 0] [(0, .ref b), (1, .ref (rr Θ 0 0 0)), (2, .ref (rr Θ 24 0 0)), (3, .int x470)] rfl ?_
          exact hk.out
        · refine g_iconst C (0 : Int32) dL_law_581 (by decide) (n := 582) rfl ?_
          exact retB false rfl hk.out dL_law_582
      refine g_sw C (13 : Int32) 583 dL_law_32 (by decide) (by decide) rfl (by decide) hk (fun hk => ?_) (fun hc594 hk => ?_)
      · refine g_aload_n C 1 dL_law_583 rfl rfl (n := 584) rfl ?_
        refine g_aload_n C 0 dL_law_584 rfl rfl (n := 585) rfl ?_
        refine g_iload_n C 3 dL_law_585 rfl rfl (n := 586) rfl ?_
        refine g_iconst C (1 : Int32) dL_law_586 (by decide) (n := 587) rfl ?_
        refine g_iadd C dL_law_587 (n := 588) rfl ?_
        refine g_xld C HX dL_law_588 (n := 589) rfl hk (fun hk => ?_)
        refine g_aload_n C 0 dL_law_589 rfl rfl (n := 590) rfl ?_
        refine g_iload_n C 3 dL_law_590 rfl rfl (n := 591) rfl ?_
        refine g_iconst C (2 : Int32) dL_law_591 (by decide) (n := 592) rfl ?_
        refine g_iadd C dL_law_592 (n := 593) rfl ?_
        refine g_xld C HX dL_law_593 (n := 594) rfl hk (fun hk => ?_)
        refine g_cVI C hk (fun K hk => L_X9_hand Θ (xs (a411.1 + (1 : Int32)).toNatClampNeg) (xs (a411.1 + (2 : Int32)).toNatClampNeg) a411.2 K hk) lk_L_72 kc_0 (by decide) (by decide) ⟨rfl, rfl⟩ ⟨Nat.le_of_ble_eq_true rfl, Nat.le_of_ble_eq_true rfl⟩ dL_law_594 rfl rfl (Nat.le_of_ble_eq_true rfl) (n := 597) rfl (fun r471 h472 hk => ?_)
        refine g_aload_n C 2 dL_law_597 rfl rfl (n := 598) rfl ?_
        refine g_aload_n C 0 dL_law_598 rfl rfl (n := 599) rfl ?_
        refine g_iload_n C 3 dL_law_599 rfl rfl (n := 600) rfl ?_
        refine g_iconst C (1 : Int32) dL_law_600 (by decide) (n := 601) rfl ?_
        refine g_iadd C dL_law_601 (n := 602) rfl ?_
        refine g_xld C HX dL_law_602 (n := 603) rfl hk (fun hk => ?_)
        refine g_aload_n C 0 dL_law_603 rfl rfl (n := 604) rfl ?_
        refine g_iload_n C 3 dL_law_604 rfl rfl (n := 605) rfl ?_
        refine g_iconst C (2 : Int32) dL_law_605 (by decide) (n := 606) rfl ?_
        refine g_iadd C dL_law_606 (n := 607) rfl ?_
        refine g_xld C HX dL_law_607 (n := 608) rfl hk (fun hk => ?_)
        refine g_cVI C hk (fun K hk => L_X10_hand Θ (xs (a411.1 + (1 : Int32)).toNatClampNeg) (xs (a411.1 + (2 : Int32)).toNatClampNeg) h472 K hk) lk_L_75 kc_24 (by decide) (by decide) ⟨rfl, rfl⟩ ⟨Nat.le_of_ble_eq_true rfl, Nat.le_of_ble_eq_true rfl⟩ dL_law_608 rfl rfl (Nat.le_of_ble_eq_true rfl) (n := 611) rfl (fun r473 h474 hk => ?_)
        refine g_ic_eq C 1205 dL_law_611 (by decide) (n := 614) rfl hk (fun hk => ?_) (fun hk => ?_)
        · refine g_iinc C 3 (fun x475 => [(3, .int x475), (0, .ref b), (1, .ref (rr Θ 0 0 0)), (2, .ref (rr Θ 24 0 0))]) dL_law_1205 rfl (v := (a411.1 + (5 : Int32))) rfl (by decide) (fun _ => rfl) (n := 1208) rfl hk (fun x475 hk => ?_)
          refine g_goto C 18 dL_law_1208 (by decide) ?_
          refine g_lv [1, 2, 3, 0] [(0, .ref b), (1, .ref (rr Θ 0 0 0)), (2, .ref (rr Θ 24 0 0)), (3, .int x475)] rfl ?_
          exact hk.out
        · refine g_iconst C (0 : Int32) dL_law_614 (by decide) (n := 615) rfl ?_
          exact retB false rfl hk.out dL_law_615
      refine g_sw C (14 : Int32) 616 dL_law_32 (by decide) (by decide) rfl (by decide) hk (fun hk => ?_) (fun hc595 hk => ?_)
      · refine g_aload_n C 1 dL_law_616 rfl rfl (n := 617) rfl ?_
        refine g_aload_n C 0 dL_law_617 rfl rfl (n := 618) rfl ?_
        refine g_iload_n C 3 dL_law_618 rfl rfl (n := 619) rfl ?_
        refine g_iconst C (1 : Int32) dL_law_619 (by decide) (n := 620) rfl ?_
        refine g_iadd C dL_law_620 (n := 621) rfl ?_
        refine g_xld C HX dL_law_621 (n := 622) rfl hk (fun hk => ?_)
        refine g_aload_n C 0 dL_law_622 rfl rfl (n := 623) rfl ?_
        refine g_iload_n C 3 dL_law_623 rfl rfl (n := 624) rfl ?_
        refine g_iconst C (2 : Int32) dL_law_624 (by decide) (n := 625) rfl ?_
        refine g_iadd C dL_law_625 (n := 626) rfl ?_
        refine g_xld C HX dL_law_626 (n := 627) rfl hk (fun hk => ?_)
        refine g_cVI C hk (fun K hk => L_X9_tide Θ (xs (a411.1 + (1 : Int32)).toNatClampNeg) (xs (a411.1 + (2 : Int32)).toNatClampNeg) a411.2 K hk) lk_L_76 kc_0 (by decide) (by decide) ⟨rfl, rfl⟩ ⟨Nat.le_of_ble_eq_true rfl, Nat.le_of_ble_eq_true rfl⟩ dL_law_627 rfl rfl (Nat.le_of_ble_eq_true rfl) (n := 630) rfl (fun r476 h477 hk => ?_)
        refine g_aload_n C 2 dL_law_630 rfl rfl (n := 631) rfl ?_
        refine g_aload_n C 0 dL_law_631 rfl rfl (n := 632) rfl ?_
        refine g_iload_n C 3 dL_law_632 rfl rfl (n := 633) rfl ?_
        refine g_iconst C (1 : Int32) dL_law_633 (by decide) (n := 634) rfl ?_
        refine g_iadd C dL_law_634 (n := 635) rfl ?_
        refine g_xld C HX dL_law_635 (n := 636) rfl hk (fun hk => ?_)
        refine g_aload_n C 0 dL_law_636 rfl rfl (n := 637) rfl ?_
        refine g_iload_n C 3 dL_law_637 rfl rfl (n := 638) rfl ?_
        refine g_iconst C (2 : Int32) dL_law_638 (by decide) (n := 639) rfl ?_
        refine g_iadd C dL_law_639 (n := 640) rfl ?_
        refine g_xld C HX dL_law_640 (n := 641) rfl hk (fun hk => ?_)
        refine g_cVI C hk (fun K hk => L_X10_tide Θ (xs (a411.1 + (1 : Int32)).toNatClampNeg) (xs (a411.1 + (2 : Int32)).toNatClampNeg) h477 K hk) lk_L_79 kc_24 (by decide) (by decide) ⟨rfl, rfl⟩ ⟨Nat.le_of_ble_eq_true rfl, Nat.le_of_ble_eq_true rfl⟩ dL_law_641 rfl rfl (Nat.le_of_ble_eq_true rfl) (n := 644) rfl (fun r478 h479 hk => ?_)
        refine g_ic_eq C 1205 dL_law_644 (by decide) (n := 647) rfl hk (fun hk => ?_) (fun hk => ?_)
        · refine g_iinc C 3 (fun x480 => [(3, .int x480), (0, .ref b), (1, .ref (rr Θ 0 0 0)), (2, .ref (rr Θ 24 0 0))]) dL_law_1205 rfl (v := (a411.1 + (5 : Int32))) rfl (by decide) (fun _ => rfl) (n := 1208) rfl hk (fun x480 hk => ?_)
          refine g_goto C 18 dL_law_1208 (by decide) ?_
          refine g_lv [1, 2, 3, 0] [(0, .ref b), (1, .ref (rr Θ 0 0 0)), (2, .ref (rr Θ 24 0 0)), (3, .int x480)] rfl ?_
          exact hk.out
        · refine g_iconst C (0 : Int32) dL_law_647 (by decide) (n := 648) rfl ?_
          exact retB false rfl hk.out dL_law_648
      refine g_sw C (15 : Int32) 649 dL_law_32 (by decide) (by decide) rfl (by decide) hk (fun hk => ?_) (fun hc596 hk => ?_)
      · refine g_aload_n C 1 dL_law_649 rfl rfl (n := 650) rfl ?_
        refine g_aload_n C 0 dL_law_650 rfl rfl (n := 651) rfl ?_
        refine g_iload_n C 3 dL_law_651 rfl rfl (n := 652) rfl ?_
        refine g_iconst C (1 : Int32) dL_law_652 (by decide) (n := 653) rfl ?_
        refine g_iadd C dL_law_653 (n := 654) rfl ?_
        refine g_xld C HX dL_law_654 (n := 655) rfl hk (fun hk => ?_)
        refine g_cVI C hk (fun K hk => L_X9_go Θ (xs (a411.1 + (1 : Int32)).toNatClampNeg) a411.2 K hk) lk_L_80 kc_0 (by decide) (by decide) ⟨rfl, rfl⟩ ⟨Nat.le_of_ble_eq_true rfl, Nat.le_of_ble_eq_true rfl⟩ dL_law_655 rfl rfl (Nat.le_of_ble_eq_true rfl) (n := 658) rfl (fun r481 h482 hk => ?_)
        refine g_aload_n C 2 dL_law_658 rfl rfl (n := 659) rfl ?_
        refine g_aload_n C 0 dL_law_659 rfl rfl (n := 660) rfl ?_
        refine g_iload_n C 3 dL_law_660 rfl rfl (n := 661) rfl ?_
        refine g_iconst C (1 : Int32) dL_law_661 (by decide) (n := 662) rfl ?_
        refine g_iadd C dL_law_662 (n := 663) rfl ?_
        refine g_xld C HX dL_law_663 (n := 664) rfl hk (fun hk => ?_)
        refine g_cVI C hk (fun K hk => L_X10_go Θ (xs (a411.1 + (1 : Int32)).toNatClampNeg) h482 K hk) lk_L_83 kc_24 (by decide) (by decide) ⟨rfl, rfl⟩ ⟨Nat.le_of_ble_eq_true rfl, Nat.le_of_ble_eq_true rfl⟩ dL_law_664 rfl rfl (Nat.le_of_ble_eq_true rfl) (n := 667) rfl (fun r483 h484 hk => ?_)
        refine g_ic_eq C 1205 dL_law_667 (by decide) (n := 670) rfl hk (fun hk => ?_) (fun hk => ?_)
        · refine g_iinc C 3 (fun x485 => [(3, .int x485), (0, .ref b), (1, .ref (rr Θ 0 0 0)), (2, .ref (rr Θ 24 0 0))]) dL_law_1205 rfl (v := (a411.1 + (5 : Int32))) rfl (by decide) (fun _ => rfl) (n := 1208) rfl hk (fun x485 hk => ?_)
          refine g_goto C 18 dL_law_1208 (by decide) ?_
          refine g_lv [1, 2, 3, 0] [(0, .ref b), (1, .ref (rr Θ 0 0 0)), (2, .ref (rr Θ 24 0 0)), (3, .int x485)] rfl ?_
          exact hk.out
        · refine g_iconst C (0 : Int32) dL_law_670 (by decide) (n := 671) rfl ?_
          exact retB false rfl hk.out dL_law_671
      refine g_sw C (16 : Int32) 672 dL_law_32 (by decide) (by decide) rfl (by decide) hk (fun hk => ?_) (fun hc597 hk => ?_)
      · refine g_aload_n C 1 dL_law_672 rfl rfl (n := 673) rfl ?_
        refine g_aload_n C 0 dL_law_673 rfl rfl (n := 674) rfl ?_
        refine g_iload_n C 3 dL_law_674 rfl rfl (n := 675) rfl ?_
        refine g_iconst C (1 : Int32) dL_law_675 (by decide) (n := 676) rfl ?_
        refine g_iadd C dL_law_676 (n := 677) rfl ?_
        refine g_xld C HX dL_law_677 (n := 678) rfl hk (fun hk => ?_)
        refine g_aload_n C 0 dL_law_678 rfl rfl (n := 679) rfl ?_
        refine g_iload_n C 3 dL_law_679 rfl rfl (n := 680) rfl ?_
        refine g_iconst C (2 : Int32) dL_law_680 (by decide) (n := 681) rfl ?_
        refine g_iadd C dL_law_681 (n := 682) rfl ?_
        refine g_xld C HX dL_law_682 (n := 683) rfl hk (fun hk => ?_)
        refine g_cVI C hk (fun K hk => L_X9_ahead Θ (xs (a411.1 + (1 : Int32)).toNatClampNeg) (xs (a411.1 + (2 : Int32)).toNatClampNeg) a411.2 K hk) lk_L_84 kc_0 (by decide) (by decide) ⟨rfl, rfl⟩ ⟨Nat.le_of_ble_eq_true rfl, Nat.le_of_ble_eq_true rfl⟩ dL_law_683 rfl rfl (Nat.le_of_ble_eq_true rfl) (n := 686) rfl (fun r486 h487 hk => ?_)
        refine g_aload_n C 2 dL_law_686 rfl rfl (n := 687) rfl ?_
        refine g_aload_n C 0 dL_law_687 rfl rfl (n := 688) rfl ?_
        refine g_iload_n C 3 dL_law_688 rfl rfl (n := 689) rfl ?_
        refine g_iconst C (1 : Int32) dL_law_689 (by decide) (n := 690) rfl ?_
        refine g_iadd C dL_law_690 (n := 691) rfl ?_
        refine g_xld C HX dL_law_691 (n := 692) rfl hk (fun hk => ?_)
        refine g_aload_n C 0 dL_law_692 rfl rfl (n := 693) rfl ?_
        refine g_iload_n C 3 dL_law_693 rfl rfl (n := 694) rfl ?_
        refine g_iconst C (2 : Int32) dL_law_694 (by decide) (n := 695) rfl ?_
        refine g_iadd C dL_law_695 (n := 696) rfl ?_
        refine g_xld C HX dL_law_696 (n := 697) rfl hk (fun hk => ?_)
        refine g_cVI C hk (fun K hk => L_X10_ahead Θ (xs (a411.1 + (1 : Int32)).toNatClampNeg) (xs (a411.1 + (2 : Int32)).toNatClampNeg) h487 K hk) lk_L_87 kc_24 (by decide) (by decide) ⟨rfl, rfl⟩ ⟨Nat.le_of_ble_eq_true rfl, Nat.le_of_ble_eq_true rfl⟩ dL_law_697 rfl rfl (Nat.le_of_ble_eq_true rfl) (n := 700) rfl (fun r488 h489 hk => ?_)
        refine g_ic_eq C 1205 dL_law_700 (by decide) (n := 703) rfl hk (fun hk => ?_) (fun hk => ?_)
        · refine g_iinc C 3 (fun x490 => [(3, .int x490), (0, .ref b), (1, .ref (rr Θ 0 0 0)), (2, .ref (rr Θ 24 0 0))]) dL_law_1205 rfl (v := (a411.1 + (5 : Int32))) rfl (by decide) (fun _ => rfl) (n := 1208) rfl hk (fun x490 hk => ?_)
          refine g_goto C 18 dL_law_1208 (by decide) ?_
          refine g_lv [1, 2, 3, 0] [(0, .ref b), (1, .ref (rr Θ 0 0 0)), (2, .ref (rr Θ 24 0 0)), (3, .int x490)] rfl ?_
          exact hk.out
        · refine g_iconst C (0 : Int32) dL_law_703 (by decide) (n := 704) rfl ?_
          exact retB false rfl hk.out dL_law_704
      refine g_sw C (17 : Int32) 705 dL_law_32 (by decide) (by decide) rfl (by decide) hk (fun hk => ?_) (fun hc598 hk => ?_)
      · refine g_aload_n C 1 dL_law_705 rfl rfl (n := 706) rfl ?_
        refine g_cVI C hk (fun K hk => L_X9_grow Θ a411.2 K hk) lk_L_88 kc_0 (by decide) (by decide) ⟨rfl, rfl⟩ ⟨Nat.le_of_ble_eq_true rfl, Nat.le_of_ble_eq_true rfl⟩ dL_law_706 rfl rfl (Nat.le_of_ble_eq_true rfl) (n := 709) rfl (fun r491 h492 hk => ?_)
        refine g_aload_n C 2 dL_law_709 rfl rfl (n := 710) rfl ?_
        refine g_cVI C hk (fun K hk => L_X10_grow Θ h492 K hk) lk_L_91 kc_24 (by decide) (by decide) ⟨rfl, rfl⟩ ⟨Nat.le_of_ble_eq_true rfl, Nat.le_of_ble_eq_true rfl⟩ dL_law_710 rfl rfl (Nat.le_of_ble_eq_true rfl) (n := 713) rfl (fun r493 h494 hk => ?_)
        refine g_ic_eq C 1205 dL_law_713 (by decide) (n := 716) rfl hk (fun hk => ?_) (fun hk => ?_)
        · refine g_iinc C 3 (fun x495 => [(3, .int x495), (0, .ref b), (1, .ref (rr Θ 0 0 0)), (2, .ref (rr Θ 24 0 0))]) dL_law_1205 rfl (v := (a411.1 + (5 : Int32))) rfl (by decide) (fun _ => rfl) (n := 1208) rfl hk (fun x495 hk => ?_)
          refine g_goto C 18 dL_law_1208 (by decide) ?_
          refine g_lv [1, 2, 3, 0] [(0, .ref b), (1, .ref (rr Θ 0 0 0)), (2, .ref (rr Θ 24 0 0)), (3, .int x495)] rfl ?_
          exact hk.out
        · refine g_iconst C (0 : Int32) dL_law_716 (by decide) (n := 717) rfl ?_
          exact retB false rfl hk.out dL_law_717
      refine g_sw C (18 : Int32) 718 dL_law_32 (by decide) (by decide) rfl (by decide) hk (fun hk => ?_) (fun hc599 hk => ?_)
      · refine g_aload_n C 1 dL_law_718 rfl rfl (n := 719) rfl ?_
        refine g_cVI C hk (fun K hk => L_X9_sorted Θ a411.2 K hk) lk_L_92 kc_0 (by decide) (by decide) ⟨rfl, rfl⟩ ⟨Nat.le_of_ble_eq_true rfl, Nat.le_of_ble_eq_true rfl⟩ dL_law_719 rfl rfl (Nat.le_of_ble_eq_true rfl) (n := 722) rfl (fun r496 h497 hk => ?_)
        refine g_aload_n C 2 dL_law_722 rfl rfl (n := 723) rfl ?_
        refine g_cVI C hk (fun K hk => L_X10_sorted Θ h497 K hk) lk_L_95 kc_24 (by decide) (by decide) ⟨rfl, rfl⟩ ⟨Nat.le_of_ble_eq_true rfl, Nat.le_of_ble_eq_true rfl⟩ dL_law_723 rfl rfl (Nat.le_of_ble_eq_true rfl) (n := 726) rfl (fun r498 h499 hk => ?_)
        refine g_ic_eq C 1205 dL_law_726 (by decide) (n := 729) rfl hk (fun hk => ?_) (fun hk => ?_)
        · refine g_iinc C 3 (fun x500 => [(3, .int x500), (0, .ref b), (1, .ref (rr Θ 0 0 0)), (2, .ref (rr Θ 24 0 0))]) dL_law_1205 rfl (v := (a411.1 + (5 : Int32))) rfl (by decide) (fun _ => rfl) (n := 1208) rfl hk (fun x500 hk => ?_)
          refine g_goto C 18 dL_law_1208 (by decide) ?_
          refine g_lv [1, 2, 3, 0] [(0, .ref b), (1, .ref (rr Θ 0 0 0)), (2, .ref (rr Θ 24 0 0)), (3, .int x500)] rfl ?_
          exact hk.out
        · refine g_iconst C (0 : Int32) dL_law_729 (by decide) (n := 730) rfl ?_
          exact retB false rfl hk.out dL_law_730
      refine g_sw C (19 : Int32) 731 dL_law_32 (by decide) (by decide) rfl (by decide) hk (fun hk => ?_) (fun hc600 hk => ?_)
      · refine g_aload_n C 1 dL_law_731 rfl rfl (n := 732) rfl ?_
        refine g_aload_n C 0 dL_law_732 rfl rfl (n := 733) rfl ?_
        refine g_iload_n C 3 dL_law_733 rfl rfl (n := 734) rfl ?_
        refine g_iconst C (1 : Int32) dL_law_734 (by decide) (n := 735) rfl ?_
        refine g_iadd C dL_law_735 (n := 736) rfl ?_
        refine g_xld C HX dL_law_736 (n := 737) rfl hk (fun hk => ?_)
        refine g_cVI C hk (fun K hk => L_X9_orders Θ (xs (a411.1 + (1 : Int32)).toNatClampNeg) a411.2 K hk) lk_L_96 kc_0 (by decide) (by decide) ⟨rfl, rfl⟩ ⟨Nat.le_of_ble_eq_true rfl, Nat.le_of_ble_eq_true rfl⟩ dL_law_737 rfl rfl (Nat.le_of_ble_eq_true rfl) (n := 740) rfl (fun r501 h502 hk => ?_)
        refine g_aload_n C 2 dL_law_740 rfl rfl (n := 741) rfl ?_
        refine g_aload_n C 0 dL_law_741 rfl rfl (n := 742) rfl ?_
        refine g_iload_n C 3 dL_law_742 rfl rfl (n := 743) rfl ?_
        refine g_iconst C (1 : Int32) dL_law_743 (by decide) (n := 744) rfl ?_
        refine g_iadd C dL_law_744 (n := 745) rfl ?_
        refine g_xld C HX dL_law_745 (n := 746) rfl hk (fun hk => ?_)
        refine g_cVI C hk (fun K hk => L_X10_orders Θ (xs (a411.1 + (1 : Int32)).toNatClampNeg) h502 K hk) lk_L_99 kc_24 (by decide) (by decide) ⟨rfl, rfl⟩ ⟨Nat.le_of_ble_eq_true rfl, Nat.le_of_ble_eq_true rfl⟩ dL_law_746 rfl rfl (Nat.le_of_ble_eq_true rfl) (n := 749) rfl (fun r503 h504 hk => ?_)
        refine g_ic_eq C 1205 dL_law_749 (by decide) (n := 752) rfl hk (fun hk => ?_) (fun hk => ?_)
        · refine g_iinc C 3 (fun x505 => [(3, .int x505), (0, .ref b), (1, .ref (rr Θ 0 0 0)), (2, .ref (rr Θ 24 0 0))]) dL_law_1205 rfl (v := (a411.1 + (5 : Int32))) rfl (by decide) (fun _ => rfl) (n := 1208) rfl hk (fun x505 hk => ?_)
          refine g_goto C 18 dL_law_1208 (by decide) ?_
          refine g_lv [1, 2, 3, 0] [(0, .ref b), (1, .ref (rr Θ 0 0 0)), (2, .ref (rr Θ 24 0 0)), (3, .int x505)] rfl ?_
          exact hk.out
        · refine g_iconst C (0 : Int32) dL_law_752 (by decide) (n := 753) rfl ?_
          exact retB false rfl hk.out dL_law_753
      refine g_sw C (20 : Int32) 754 dL_law_32 (by decide) (by decide) rfl (by decide) hk (fun hk => ?_) (fun hc601 hk => ?_)
      · refine g_aload_n C 1 dL_law_754 rfl rfl (n := 755) rfl ?_
        refine g_aload_n C 0 dL_law_755 rfl rfl (n := 756) rfl ?_
        refine g_iload_n C 3 dL_law_756 rfl rfl (n := 757) rfl ?_
        refine g_iconst C (1 : Int32) dL_law_757 (by decide) (n := 758) rfl ?_
        refine g_iadd C dL_law_758 (n := 759) rfl ?_
        refine g_xld C HX dL_law_759 (n := 760) rfl hk (fun hk => ?_)
        refine g_cVI C hk (fun K hk => L_X9_fewest Θ (xs (a411.1 + (1 : Int32)).toNatClampNeg) a411.2 K hk) lk_L_100 kc_0 (by decide) (by decide) ⟨rfl, rfl⟩ ⟨Nat.le_of_ble_eq_true rfl, Nat.le_of_ble_eq_true rfl⟩ dL_law_760 rfl rfl (Nat.le_of_ble_eq_true rfl) (n := 763) rfl (fun r506 h507 hk => ?_)
        refine g_aload_n C 2 dL_law_763 rfl rfl (n := 764) rfl ?_
        refine g_aload_n C 0 dL_law_764 rfl rfl (n := 765) rfl ?_
        refine g_iload_n C 3 dL_law_765 rfl rfl (n := 766) rfl ?_
        refine g_iconst C (1 : Int32) dL_law_766 (by decide) (n := 767) rfl ?_
        refine g_iadd C dL_law_767 (n := 768) rfl ?_
        refine g_xld C HX dL_law_768 (n := 769) rfl hk (fun hk => ?_)
        refine g_cVI C hk (fun K hk => L_X10_fewest Θ (xs (a411.1 + (1 : Int32)).toNatClampNeg) h507 K hk) lk_L_103 kc_24 (by decide) (by decide) ⟨rfl, rfl⟩ ⟨Nat.le_of_ble_eq_true rfl, Nat.le_of_ble_eq_true rfl⟩ dL_law_769 rfl rfl (Nat.le_of_ble_eq_true rfl) (n := 772) rfl (fun r508 h509 hk => ?_)
        refine g_ic_eq C 1205 dL_law_772 (by decide) (n := 775) rfl hk (fun hk => ?_) (fun hk => ?_)
        · refine g_iinc C 3 (fun x510 => [(3, .int x510), (0, .ref b), (1, .ref (rr Θ 0 0 0)), (2, .ref (rr Θ 24 0 0))]) dL_law_1205 rfl (v := (a411.1 + (5 : Int32))) rfl (by decide) (fun _ => rfl) (n := 1208) rfl hk (fun x510 hk => ?_)
          refine g_goto C 18 dL_law_1208 (by decide) ?_
          refine g_lv [1, 2, 3, 0] [(0, .ref b), (1, .ref (rr Θ 0 0 0)), (2, .ref (rr Θ 24 0 0)), (3, .int x510)] rfl ?_
          exact hk.out
        · refine g_iconst C (0 : Int32) dL_law_775 (by decide) (n := 776) rfl ?_
          exact retB false rfl hk.out dL_law_776
      refine g_sw C (21 : Int32) 777 dL_law_32 (by decide) (by decide) rfl (by decide) hk (fun hk => ?_) (fun hc602 hk => ?_)
      · refine g_aload_n C 1 dL_law_777 rfl rfl (n := 778) rfl ?_
        refine g_aload_n C 0 dL_law_778 rfl rfl (n := 779) rfl ?_
        refine g_iload_n C 3 dL_law_779 rfl rfl (n := 780) rfl ?_
        refine g_iconst C (1 : Int32) dL_law_780 (by decide) (n := 781) rfl ?_
        refine g_iadd C dL_law_781 (n := 782) rfl ?_
        refine g_xld C HX dL_law_782 (n := 783) rfl hk (fun hk => ?_)
        refine g_cVI C hk (fun K hk => L_X9_better Θ (xs (a411.1 + (1 : Int32)).toNatClampNeg) a411.2 K hk) lk_L_104 kc_0 (by decide) (by decide) ⟨rfl, rfl⟩ ⟨Nat.le_of_ble_eq_true rfl, Nat.le_of_ble_eq_true rfl⟩ dL_law_783 rfl rfl (Nat.le_of_ble_eq_true rfl) (n := 786) rfl (fun r511 h512 hk => ?_)
        refine g_aload_n C 2 dL_law_786 rfl rfl (n := 787) rfl ?_
        refine g_aload_n C 0 dL_law_787 rfl rfl (n := 788) rfl ?_
        refine g_iload_n C 3 dL_law_788 rfl rfl (n := 789) rfl ?_
        refine g_iconst C (1 : Int32) dL_law_789 (by decide) (n := 790) rfl ?_
        refine g_iadd C dL_law_790 (n := 791) rfl ?_
        refine g_xld C HX dL_law_791 (n := 792) rfl hk (fun hk => ?_)
        refine g_cVI C hk (fun K hk => L_X10_better Θ (xs (a411.1 + (1 : Int32)).toNatClampNeg) h512 K hk) lk_L_107 kc_24 (by decide) (by decide) ⟨rfl, rfl⟩ ⟨Nat.le_of_ble_eq_true rfl, Nat.le_of_ble_eq_true rfl⟩ dL_law_792 rfl rfl (Nat.le_of_ble_eq_true rfl) (n := 795) rfl (fun r513 h514 hk => ?_)
        refine g_ic_eq C 1205 dL_law_795 (by decide) (n := 798) rfl hk (fun hk => ?_) (fun hk => ?_)
        · refine g_iinc C 3 (fun x515 => [(3, .int x515), (0, .ref b), (1, .ref (rr Θ 0 0 0)), (2, .ref (rr Θ 24 0 0))]) dL_law_1205 rfl (v := (a411.1 + (5 : Int32))) rfl (by decide) (fun _ => rfl) (n := 1208) rfl hk (fun x515 hk => ?_)
          refine g_goto C 18 dL_law_1208 (by decide) ?_
          refine g_lv [1, 2, 3, 0] [(0, .ref b), (1, .ref (rr Θ 0 0 0)), (2, .ref (rr Θ 24 0 0)), (3, .int x515)] rfl ?_
          exact hk.out
        · refine g_iconst C (0 : Int32) dL_law_798 (by decide) (n := 799) rfl ?_
          exact retB false rfl hk.out dL_law_799
      refine g_sw C (22 : Int32) 800 dL_law_32 (by decide) (by decide) rfl (by decide) hk (fun hk => ?_) (fun hc603 hk => ?_)
      · refine g_aload_n C 1 dL_law_800 rfl rfl (n := 801) rfl ?_
        refine g_cVI C hk (fun K hk => L_X9_weeks Θ a411.2 K hk) lk_L_108 kc_0 (by decide) (by decide) ⟨rfl, rfl⟩ ⟨Nat.le_of_ble_eq_true rfl, Nat.le_of_ble_eq_true rfl⟩ dL_law_801 rfl rfl (Nat.le_of_ble_eq_true rfl) (n := 804) rfl (fun r516 h517 hk => ?_)
        refine g_aload_n C 2 dL_law_804 rfl rfl (n := 805) rfl ?_
        refine g_cVI C hk (fun K hk => L_X10_weeks Θ h517 K hk) lk_L_111 kc_24 (by decide) (by decide) ⟨rfl, rfl⟩ ⟨Nat.le_of_ble_eq_true rfl, Nat.le_of_ble_eq_true rfl⟩ dL_law_805 rfl rfl (Nat.le_of_ble_eq_true rfl) (n := 808) rfl (fun r518 h519 hk => ?_)
        refine g_ic_eq C 1205 dL_law_808 (by decide) (n := 811) rfl hk (fun hk => ?_) (fun hk => ?_)
        · refine g_iinc C 3 (fun x520 => [(3, .int x520), (0, .ref b), (1, .ref (rr Θ 0 0 0)), (2, .ref (rr Θ 24 0 0))]) dL_law_1205 rfl (v := (a411.1 + (5 : Int32))) rfl (by decide) (fun _ => rfl) (n := 1208) rfl hk (fun x520 hk => ?_)
          refine g_goto C 18 dL_law_1208 (by decide) ?_
          refine g_lv [1, 2, 3, 0] [(0, .ref b), (1, .ref (rr Θ 0 0 0)), (2, .ref (rr Θ 24 0 0)), (3, .int x520)] rfl ?_
          exact hk.out
        · refine g_iconst C (0 : Int32) dL_law_811 (by decide) (n := 812) rfl ?_
          exact retB false rfl hk.out dL_law_812
      refine g_sw C (23 : Int32) 813 dL_law_32 (by decide) (by decide) rfl (by decide) hk (fun hk => ?_) (fun hc604 hk => ?_)
      · refine g_aload_n C 1 dL_law_813 rfl rfl (n := 814) rfl ?_
        refine g_aload_n C 0 dL_law_814 rfl rfl (n := 815) rfl ?_
        refine g_iload_n C 3 dL_law_815 rfl rfl (n := 816) rfl ?_
        refine g_iconst C (1 : Int32) dL_law_816 (by decide) (n := 817) rfl ?_
        refine g_iadd C dL_law_817 (n := 818) rfl ?_
        refine g_xld C HX dL_law_818 (n := 819) rfl hk (fun hk => ?_)
        refine g_aload_n C 0 dL_law_819 rfl rfl (n := 820) rfl ?_
        refine g_iload_n C 3 dL_law_820 rfl rfl (n := 821) rfl ?_
        refine g_iconst C (2 : Int32) dL_law_821 (by decide) (n := 822) rfl ?_
        refine g_iadd C dL_law_822 (n := 823) rfl ?_
        refine g_xld C HX dL_law_823 (n := 824) rfl hk (fun hk => ?_)
        refine g_aload_n C 0 dL_law_824 rfl rfl (n := 825) rfl ?_
        refine g_iload_n C 3 dL_law_825 rfl rfl (n := 826) rfl ?_
        refine g_iconst C (3 : Int32) dL_law_826 (by decide) (n := 827) rfl ?_
        refine g_iadd C dL_law_827 (n := 828) rfl ?_
        refine g_xld C HX dL_law_828 (n := 829) rfl hk (fun hk => ?_)
        refine g_aload_n C 0 dL_law_829 rfl rfl (n := 830) rfl ?_
        refine g_iload_n C 3 dL_law_830 rfl rfl (n := 831) rfl ?_
        refine g_iconst C (4 : Int32) dL_law_831 (by decide) (n := 832) rfl ?_
        refine g_iadd C dL_law_832 (n := 833) rfl ?_
        refine g_xld C HX dL_law_833 (n := 834) rfl hk (fun hk => ?_)
        refine Ok.join hk (fun a521 => G Θ Γ 842 [(0, .ref b), (1, .ref (rr Θ 0 0 0)), (2, .ref (rr Θ 24 0 0)), (3, .int a411.1)] [.int (b2i a521), .int (xs (a411.1 + (3 : Int32)).toNatClampNeg), .int (xs (a411.1 + (2 : Int32)).toNatClampNeg), .int (xs (a411.1 + (1 : Int32)).toNatClampNeg), .ref (rr Θ 0 0 0)] a411.2) (fun a521 hk => ?_) (fun hk => ?_)
        · refine g_cVI C hk (fun K hk => L_X9_see Θ (xs (a411.1 + (1 : Int32)).toNatClampNeg) (xs (a411.1 + (2 : Int32)).toNatClampNeg) (xs (a411.1 + (3 : Int32)).toNatClampNeg) a521 a411.2 K hk) lk_L_112 kc_0 (by decide) (by decide) ⟨rfl, rfl⟩ ⟨Nat.le_of_ble_eq_true rfl, Nat.le_of_ble_eq_true rfl⟩ dL_law_842 rfl rfl (Nat.le_of_ble_eq_true rfl) (n := 845) rfl (fun r522 h523 hk => ?_)
          refine g_aload_n C 2 dL_law_845 rfl rfl (n := 846) rfl ?_
          refine g_aload_n C 0 dL_law_846 rfl rfl (n := 847) rfl ?_
          refine g_iload_n C 3 dL_law_847 rfl rfl (n := 848) rfl ?_
          refine g_iconst C (1 : Int32) dL_law_848 (by decide) (n := 849) rfl ?_
          refine g_iadd C dL_law_849 (n := 850) rfl ?_
          refine g_xld C HX dL_law_850 (n := 851) rfl hk (fun hk => ?_)
          refine g_aload_n C 0 dL_law_851 rfl rfl (n := 852) rfl ?_
          refine g_iload_n C 3 dL_law_852 rfl rfl (n := 853) rfl ?_
          refine g_iconst C (2 : Int32) dL_law_853 (by decide) (n := 854) rfl ?_
          refine g_iadd C dL_law_854 (n := 855) rfl ?_
          refine g_xld C HX dL_law_855 (n := 856) rfl hk (fun hk => ?_)
          refine g_aload_n C 0 dL_law_856 rfl rfl (n := 857) rfl ?_
          refine g_iload_n C 3 dL_law_857 rfl rfl (n := 858) rfl ?_
          refine g_iconst C (3 : Int32) dL_law_858 (by decide) (n := 859) rfl ?_
          refine g_iadd C dL_law_859 (n := 860) rfl ?_
          refine g_xld C HX dL_law_860 (n := 861) rfl hk (fun hk => ?_)
          refine g_aload_n C 0 dL_law_861 rfl rfl (n := 862) rfl ?_
          refine g_iload_n C 3 dL_law_862 rfl rfl (n := 863) rfl ?_
          refine g_iconst C (4 : Int32) dL_law_863 (by decide) (n := 864) rfl ?_
          refine g_iadd C dL_law_864 (n := 865) rfl ?_
          refine g_xld C HX dL_law_865 (n := 866) rfl hk (fun hk => ?_)
          refine Ok.join hk (fun a524 => G Θ Γ 874 [(0, .ref b), (1, .ref (rr Θ 0 0 0)), (2, .ref (rr Θ 24 0 0)), (3, .int a411.1)] [.int (b2i a524), .int (xs (a411.1 + (3 : Int32)).toNatClampNeg), .int (xs (a411.1 + (2 : Int32)).toNatClampNeg), .int (xs (a411.1 + (1 : Int32)).toNatClampNeg), .ref (rr Θ 24 0 0), .int r522] h523) (fun a524 hk => ?_) (fun hk => ?_)
          · refine g_cVI C hk (fun K hk => L_X10_see Θ (xs (a411.1 + (1 : Int32)).toNatClampNeg) (xs (a411.1 + (2 : Int32)).toNatClampNeg) (xs (a411.1 + (3 : Int32)).toNatClampNeg) a524 h523 K hk) lk_L_116 kc_24 (by decide) (by decide) ⟨rfl, rfl⟩ ⟨Nat.le_of_ble_eq_true rfl, Nat.le_of_ble_eq_true rfl⟩ dL_law_874 rfl rfl (Nat.le_of_ble_eq_true rfl) (n := 877) rfl (fun r525 h526 hk => ?_)
            refine g_ic_eq C 1205 dL_law_877 (by decide) (n := 880) rfl hk (fun hk => ?_) (fun hk => ?_)
            · refine g_iinc C 3 (fun x527 => [(3, .int x527), (0, .ref b), (1, .ref (rr Θ 0 0 0)), (2, .ref (rr Θ 24 0 0))]) dL_law_1205 rfl (v := (a411.1 + (5 : Int32))) rfl (by decide) (fun _ => rfl) (n := 1208) rfl hk (fun x527 hk => ?_)
              refine g_goto C 18 dL_law_1208 (by decide) ?_
              refine g_lv [1, 2, 3, 0] [(0, .ref b), (1, .ref (rr Θ 0 0 0)), (2, .ref (rr Θ 24 0 0)), (3, .int x527)] rfl ?_
              exact hk.out
            · refine g_iconst C (0 : Int32) dL_law_880 (by decide) (n := 881) rfl ?_
              exact retB false rfl hk.out dL_law_881
          · refine g_if_eq C 873 dL_law_866 (by decide) (n := 869) rfl hk (fun hk => ?_) (fun hk => ?_)
            · refine g_iconst C (0 : Int32) dL_law_873 (by decide) (n := 874) rfl ?_
              exact hk.out
            · refine g_iconst C (1 : Int32) dL_law_869 (by decide) (n := 870) rfl ?_
              refine g_goto C 874 dL_law_870 (by decide) ?_
              exact hk.out
        · refine g_if_eq C 841 dL_law_834 (by decide) (n := 837) rfl hk (fun hk => ?_) (fun hk => ?_)
          · refine g_iconst C (0 : Int32) dL_law_841 (by decide) (n := 842) rfl ?_
            exact hk.out
          · refine g_iconst C (1 : Int32) dL_law_837 (by decide) (n := 838) rfl ?_
            refine g_goto C 842 dL_law_838 (by decide) ?_
            exact hk.out
      refine g_sw C (24 : Int32) 882 dL_law_32 (by decide) (by decide) rfl (by decide) hk (fun hk => ?_) (fun hc605 hk => ?_)
      · refine g_aload_n C 1 dL_law_882 rfl rfl (n := 883) rfl ?_
        refine g_aload_n C 0 dL_law_883 rfl rfl (n := 884) rfl ?_
        refine g_iload_n C 3 dL_law_884 rfl rfl (n := 885) rfl ?_
        refine g_iconst C (1 : Int32) dL_law_885 (by decide) (n := 886) rfl ?_
        refine g_iadd C dL_law_886 (n := 887) rfl ?_
        refine g_xld C HX dL_law_887 (n := 888) rfl hk (fun hk => ?_)
        refine g_cVI C hk (fun K hk => L_X9_forget Θ (xs (a411.1 + (1 : Int32)).toNatClampNeg) a411.2 K hk) lk_L_117 kc_0 (by decide) (by decide) ⟨rfl, rfl⟩ ⟨Nat.le_of_ble_eq_true rfl, Nat.le_of_ble_eq_true rfl⟩ dL_law_888 rfl rfl (Nat.le_of_ble_eq_true rfl) (n := 891) rfl (fun r528 h529 hk => ?_)
        refine g_aload_n C 2 dL_law_891 rfl rfl (n := 892) rfl ?_
        refine g_aload_n C 0 dL_law_892 rfl rfl (n := 893) rfl ?_
        refine g_iload_n C 3 dL_law_893 rfl rfl (n := 894) rfl ?_
        refine g_iconst C (1 : Int32) dL_law_894 (by decide) (n := 895) rfl ?_
        refine g_iadd C dL_law_895 (n := 896) rfl ?_
        refine g_xld C HX dL_law_896 (n := 897) rfl hk (fun hk => ?_)
        refine g_cVI C hk (fun K hk => L_X10_forget Θ (xs (a411.1 + (1 : Int32)).toNatClampNeg) h529 K hk) lk_L_120 kc_24 (by decide) (by decide) ⟨rfl, rfl⟩ ⟨Nat.le_of_ble_eq_true rfl, Nat.le_of_ble_eq_true rfl⟩ dL_law_897 rfl rfl (Nat.le_of_ble_eq_true rfl) (n := 900) rfl (fun r530 h531 hk => ?_)
        refine g_ic_eq C 1205 dL_law_900 (by decide) (n := 903) rfl hk (fun hk => ?_) (fun hk => ?_)
        · refine g_iinc C 3 (fun x532 => [(3, .int x532), (0, .ref b), (1, .ref (rr Θ 0 0 0)), (2, .ref (rr Θ 24 0 0))]) dL_law_1205 rfl (v := (a411.1 + (5 : Int32))) rfl (by decide) (fun _ => rfl) (n := 1208) rfl hk (fun x532 hk => ?_)
          refine g_goto C 18 dL_law_1208 (by decide) ?_
          refine g_lv [1, 2, 3, 0] [(0, .ref b), (1, .ref (rr Θ 0 0 0)), (2, .ref (rr Θ 24 0 0)), (3, .int x532)] rfl ?_
          exact hk.out
        · refine g_iconst C (0 : Int32) dL_law_903 (by decide) (n := 904) rfl ?_
          exact retB false rfl hk.out dL_law_904
      refine g_sw C (25 : Int32) 905 dL_law_32 (by decide) (by decide) rfl (by decide) hk (fun hk => ?_) (fun hc606 hk => ?_)
      · refine g_aload_n C 1 dL_law_905 rfl rfl (n := 906) rfl ?_
        refine g_aload_n C 0 dL_law_906 rfl rfl (n := 907) rfl ?_
        refine g_iload_n C 3 dL_law_907 rfl rfl (n := 908) rfl ?_
        refine g_iconst C (1 : Int32) dL_law_908 (by decide) (n := 909) rfl ?_
        refine g_iadd C dL_law_909 (n := 910) rfl ?_
        refine g_xld C HX dL_law_910 (n := 911) rfl hk (fun hk => ?_)
        refine g_cVI C hk (fun K hk => L_X9_fakes Θ (xs (a411.1 + (1 : Int32)).toNatClampNeg) a411.2 K hk) lk_L_121 kc_0 (by decide) (by decide) ⟨rfl, rfl⟩ ⟨Nat.le_of_ble_eq_true rfl, Nat.le_of_ble_eq_true rfl⟩ dL_law_911 rfl rfl (Nat.le_of_ble_eq_true rfl) (n := 914) rfl (fun r533 h534 hk => ?_)
        refine g_aload_n C 2 dL_law_914 rfl rfl (n := 915) rfl ?_
        refine g_aload_n C 0 dL_law_915 rfl rfl (n := 916) rfl ?_
        refine g_iload_n C 3 dL_law_916 rfl rfl (n := 917) rfl ?_
        refine g_iconst C (1 : Int32) dL_law_917 (by decide) (n := 918) rfl ?_
        refine g_iadd C dL_law_918 (n := 919) rfl ?_
        refine g_xld C HX dL_law_919 (n := 920) rfl hk (fun hk => ?_)
        refine g_cVI C hk (fun K hk => L_X10_fakes Θ (xs (a411.1 + (1 : Int32)).toNatClampNeg) h534 K hk) lk_L_124 kc_24 (by decide) (by decide) ⟨rfl, rfl⟩ ⟨Nat.le_of_ble_eq_true rfl, Nat.le_of_ble_eq_true rfl⟩ dL_law_920 rfl rfl (Nat.le_of_ble_eq_true rfl) (n := 923) rfl (fun r535 h536 hk => ?_)
        refine g_ic_eq C 1205 dL_law_923 (by decide) (n := 926) rfl hk (fun hk => ?_) (fun hk => ?_)
        · refine g_iinc C 3 (fun x537 => [(3, .int x537), (0, .ref b), (1, .ref (rr Θ 0 0 0)), (2, .ref (rr Θ 24 0 0))]) dL_law_1205 rfl (v := (a411.1 + (5 : Int32))) rfl (by decide) (fun _ => rfl) (n := 1208) rfl hk (fun x537 hk => ?_)
          refine g_goto C 18 dL_law_1208 (by decide) ?_
          refine g_lv [1, 2, 3, 0] [(0, .ref b), (1, .ref (rr Θ 0 0 0)), (2, .ref (rr Θ 24 0 0)), (3, .int x537)] rfl ?_
          exact hk.out
        · refine g_iconst C (0 : Int32) dL_law_926 (by decide) (n := 927) rfl ?_
          exact retB false rfl hk.out dL_law_927
      refine g_sw C (26 : Int32) 928 dL_law_32 (by decide) (by decide) rfl (by decide) hk (fun hk => ?_) (fun hc607 hk => ?_)
      · refine g_aload_n C 1 dL_law_928 rfl rfl (n := 929) rfl ?_
        refine g_cVI C hk (fun K hk => L_X9_wrong Θ a411.2 K hk) lk_L_125 kc_0 (by decide) (by decide) ⟨rfl, rfl⟩ ⟨Nat.le_of_ble_eq_true rfl, Nat.le_of_ble_eq_true rfl⟩ dL_law_929 rfl rfl (Nat.le_of_ble_eq_true rfl) (n := 932) rfl (fun r538 h539 hk => ?_)
        refine g_aload_n C 2 dL_law_932 rfl rfl (n := 933) rfl ?_
        refine g_cVI C hk (fun K hk => L_X10_wrong Θ h539 K hk) lk_L_128 kc_24 (by decide) (by decide) ⟨rfl, rfl⟩ ⟨Nat.le_of_ble_eq_true rfl, Nat.le_of_ble_eq_true rfl⟩ dL_law_933 rfl rfl (Nat.le_of_ble_eq_true rfl) (n := 936) rfl (fun r540 h541 hk => ?_)
        refine g_ic_eq C 1205 dL_law_936 (by decide) (n := 939) rfl hk (fun hk => ?_) (fun hk => ?_)
        · refine g_iinc C 3 (fun x542 => [(3, .int x542), (0, .ref b), (1, .ref (rr Θ 0 0 0)), (2, .ref (rr Θ 24 0 0))]) dL_law_1205 rfl (v := (a411.1 + (5 : Int32))) rfl (by decide) (fun _ => rfl) (n := 1208) rfl hk (fun x542 hk => ?_)
          refine g_goto C 18 dL_law_1208 (by decide) ?_
          refine g_lv [1, 2, 3, 0] [(0, .ref b), (1, .ref (rr Θ 0 0 0)), (2, .ref (rr Θ 24 0 0)), (3, .int x542)] rfl ?_
          exact hk.out
        · refine g_iconst C (0 : Int32) dL_law_939 (by decide) (n := 940) rfl ?_
          exact retB false rfl hk.out dL_law_940
      refine g_sw C (27 : Int32) 941 dL_law_32 (by decide) (by decide) rfl (by decide) hk (fun hk => ?_) (fun hc608 hk => ?_)
      · refine g_aload_n C 1 dL_law_941 rfl rfl (n := 942) rfl ?_
        refine g_aload_n C 0 dL_law_942 rfl rfl (n := 943) rfl ?_
        refine g_iload_n C 3 dL_law_943 rfl rfl (n := 944) rfl ?_
        refine g_iconst C (1 : Int32) dL_law_944 (by decide) (n := 945) rfl ?_
        refine g_iadd C dL_law_945 (n := 946) rfl ?_
        refine g_xld C HX dL_law_946 (n := 947) rfl hk (fun hk => ?_)
        refine g_aload_n C 0 dL_law_947 rfl rfl (n := 948) rfl ?_
        refine g_iload_n C 3 dL_law_948 rfl rfl (n := 949) rfl ?_
        refine g_iconst C (2 : Int32) dL_law_949 (by decide) (n := 950) rfl ?_
        refine g_iadd C dL_law_950 (n := 951) rfl ?_
        refine g_xld C HX dL_law_951 (n := 952) rfl hk (fun hk => ?_)
        refine g_aload_n C 0 dL_law_952 rfl rfl (n := 953) rfl ?_
        refine g_iload_n C 3 dL_law_953 rfl rfl (n := 954) rfl ?_
        refine g_iconst C (3 : Int32) dL_law_954 (by decide) (n := 955) rfl ?_
        refine g_iadd C dL_law_955 (n := 956) rfl ?_
        refine g_xld C HX dL_law_956 (n := 957) rfl hk (fun hk => ?_)
        refine g_cVI C hk (fun K hk => L_X9_gulls Θ (xs (a411.1 + (1 : Int32)).toNatClampNeg) (xs (a411.1 + (2 : Int32)).toNatClampNeg) (xs (a411.1 + (3 : Int32)).toNatClampNeg) a411.2 K hk) lk_L_129 kc_0 (by decide) (by decide) ⟨rfl, rfl⟩ ⟨Nat.le_of_ble_eq_true rfl, Nat.le_of_ble_eq_true rfl⟩ dL_law_957 rfl rfl (Nat.le_of_ble_eq_true rfl) (n := 960) rfl (fun r543 h544 hk => ?_)
        refine g_aload_n C 2 dL_law_960 rfl rfl (n := 961) rfl ?_
        refine g_aload_n C 0 dL_law_961 rfl rfl (n := 962) rfl ?_
        refine g_iload_n C 3 dL_law_962 rfl rfl (n := 963) rfl ?_
        refine g_iconst C (1 : Int32) dL_law_963 (by decide) (n := 964) rfl ?_
        refine g_iadd C dL_law_964 (n := 965) rfl ?_
        refine g_xld C HX dL_law_965 (n := 966) rfl hk (fun hk => ?_)
        refine g_aload_n C 0 dL_law_966 rfl rfl (n := 967) rfl ?_
        refine g_iload_n C 3 dL_law_967 rfl rfl (n := 968) rfl ?_
        refine g_iconst C (2 : Int32) dL_law_968 (by decide) (n := 969) rfl ?_
        refine g_iadd C dL_law_969 (n := 970) rfl ?_
        refine g_xld C HX dL_law_970 (n := 971) rfl hk (fun hk => ?_)
        refine g_aload_n C 0 dL_law_971 rfl rfl (n := 972) rfl ?_
        refine g_iload_n C 3 dL_law_972 rfl rfl (n := 973) rfl ?_
        refine g_iconst C (3 : Int32) dL_law_973 (by decide) (n := 974) rfl ?_
        refine g_iadd C dL_law_974 (n := 975) rfl ?_
        refine g_xld C HX dL_law_975 (n := 976) rfl hk (fun hk => ?_)
        refine g_cVI C hk (fun K hk => L_X10_gulls Θ (xs (a411.1 + (1 : Int32)).toNatClampNeg) (xs (a411.1 + (2 : Int32)).toNatClampNeg) (xs (a411.1 + (3 : Int32)).toNatClampNeg) h544 K hk) lk_L_133 kc_24 (by decide) (by decide) ⟨rfl, rfl⟩ ⟨Nat.le_of_ble_eq_true rfl, Nat.le_of_ble_eq_true rfl⟩ dL_law_976 rfl rfl (Nat.le_of_ble_eq_true rfl) (n := 979) rfl (fun r545 h546 hk => ?_)
        refine g_ic_eq C 1205 dL_law_979 (by decide) (n := 982) rfl hk (fun hk => ?_) (fun hk => ?_)
        · refine g_iinc C 3 (fun x547 => [(3, .int x547), (0, .ref b), (1, .ref (rr Θ 0 0 0)), (2, .ref (rr Θ 24 0 0))]) dL_law_1205 rfl (v := (a411.1 + (5 : Int32))) rfl (by decide) (fun _ => rfl) (n := 1208) rfl hk (fun x547 hk => ?_)
          refine g_goto C 18 dL_law_1208 (by decide) ?_
          refine g_lv [1, 2, 3, 0] [(0, .ref b), (1, .ref (rr Θ 0 0 0)), (2, .ref (rr Θ 24 0 0)), (3, .int x547)] rfl ?_
          exact hk.out
        · refine g_iconst C (0 : Int32) dL_law_982 (by decide) (n := 983) rfl ?_
          exact retB false rfl hk.out dL_law_983
      refine g_sw C (28 : Int32) 984 dL_law_32 (by decide) (by decide) rfl (by decide) hk (fun hk => ?_) (fun hc609 hk => ?_)
      · refine g_aload_n C 1 dL_law_984 rfl rfl (n := 985) rfl ?_
        refine g_aload_n C 0 dL_law_985 rfl rfl (n := 986) rfl ?_
        refine g_iload_n C 3 dL_law_986 rfl rfl (n := 987) rfl ?_
        refine g_iconst C (1 : Int32) dL_law_987 (by decide) (n := 988) rfl ?_
        refine g_iadd C dL_law_988 (n := 989) rfl ?_
        refine g_xld C HX dL_law_989 (n := 990) rfl hk (fun hk => ?_)
        refine g_cVI C hk (fun K hk => L_X9_keep Θ (xs (a411.1 + (1 : Int32)).toNatClampNeg) a411.2 K hk) lk_L_134 kc_0 (by decide) (by decide) ⟨rfl, rfl⟩ ⟨Nat.le_of_ble_eq_true rfl, Nat.le_of_ble_eq_true rfl⟩ dL_law_990 rfl rfl (Nat.le_of_ble_eq_true rfl) (n := 993) rfl (fun r548 h549 hk => ?_)
        refine g_aload_n C 2 dL_law_993 rfl rfl (n := 994) rfl ?_
        refine g_aload_n C 0 dL_law_994 rfl rfl (n := 995) rfl ?_
        refine g_iload_n C 3 dL_law_995 rfl rfl (n := 996) rfl ?_
        refine g_iconst C (1 : Int32) dL_law_996 (by decide) (n := 997) rfl ?_
        refine g_iadd C dL_law_997 (n := 998) rfl ?_
        refine g_xld C HX dL_law_998 (n := 999) rfl hk (fun hk => ?_)
        refine g_cVI C hk (fun K hk => L_X10_keep Θ (xs (a411.1 + (1 : Int32)).toNatClampNeg) h549 K hk) lk_L_137 kc_24 (by decide) (by decide) ⟨rfl, rfl⟩ ⟨Nat.le_of_ble_eq_true rfl, Nat.le_of_ble_eq_true rfl⟩ dL_law_999 rfl rfl (Nat.le_of_ble_eq_true rfl) (n := 1002) rfl (fun r550 h551 hk => ?_)
        refine g_ic_eq C 1205 dL_law_1002 (by decide) (n := 1005) rfl hk (fun hk => ?_) (fun hk => ?_)
        · refine g_iinc C 3 (fun x552 => [(3, .int x552), (0, .ref b), (1, .ref (rr Θ 0 0 0)), (2, .ref (rr Θ 24 0 0))]) dL_law_1205 rfl (v := (a411.1 + (5 : Int32))) rfl (by decide) (fun _ => rfl) (n := 1208) rfl hk (fun x552 hk => ?_)
          refine g_goto C 18 dL_law_1208 (by decide) ?_
          refine g_lv [1, 2, 3, 0] [(0, .ref b), (1, .ref (rr Θ 0 0 0)), (2, .ref (rr Θ 24 0 0)), (3, .int x552)] rfl ?_
          exact hk.out
        · refine g_iconst C (0 : Int32) dL_law_1005 (by decide) (n := 1006) rfl ?_
          exact retB false rfl hk.out dL_law_1006
      refine g_sw C (29 : Int32) 1007 dL_law_32 (by decide) (by decide) rfl (by decide) hk (fun hk => ?_) (fun hc610 hk => ?_)
      · refine g_aload_n C 1 dL_law_1007 rfl rfl (n := 1008) rfl ?_
        refine g_aload_n C 0 dL_law_1008 rfl rfl (n := 1009) rfl ?_
        refine g_iload_n C 3 dL_law_1009 rfl rfl (n := 1010) rfl ?_
        refine g_iconst C (1 : Int32) dL_law_1010 (by decide) (n := 1011) rfl ?_
        refine g_iadd C dL_law_1011 (n := 1012) rfl ?_
        refine g_xld C HX dL_law_1012 (n := 1013) rfl hk (fun hk => ?_)
        refine g_cVI C hk (fun K hk => L_X9_back Θ (xs (a411.1 + (1 : Int32)).toNatClampNeg) a411.2 K hk) lk_L_138 kc_0 (by decide) (by decide) ⟨rfl, rfl⟩ ⟨Nat.le_of_ble_eq_true rfl, Nat.le_of_ble_eq_true rfl⟩ dL_law_1013 rfl rfl (Nat.le_of_ble_eq_true rfl) (n := 1016) rfl (fun r553 h554 hk => ?_)
        refine g_aload_n C 2 dL_law_1016 rfl rfl (n := 1017) rfl ?_
        refine g_aload_n C 0 dL_law_1017 rfl rfl (n := 1018) rfl ?_
        refine g_iload_n C 3 dL_law_1018 rfl rfl (n := 1019) rfl ?_
        refine g_iconst C (1 : Int32) dL_law_1019 (by decide) (n := 1020) rfl ?_
        refine g_iadd C dL_law_1020 (n := 1021) rfl ?_
        refine g_xld C HX dL_law_1021 (n := 1022) rfl hk (fun hk => ?_)
        refine g_cVI C hk (fun K hk => L_X10_back Θ (xs (a411.1 + (1 : Int32)).toNatClampNeg) h554 K hk) lk_L_141 kc_24 (by decide) (by decide) ⟨rfl, rfl⟩ ⟨Nat.le_of_ble_eq_true rfl, Nat.le_of_ble_eq_true rfl⟩ dL_law_1022 rfl rfl (Nat.le_of_ble_eq_true rfl) (n := 1025) rfl (fun r555 h556 hk => ?_)
        refine g_ic_eq C 1205 dL_law_1025 (by decide) (n := 1028) rfl hk (fun hk => ?_) (fun hk => ?_)
        · refine g_iinc C 3 (fun x557 => [(3, .int x557), (0, .ref b), (1, .ref (rr Θ 0 0 0)), (2, .ref (rr Θ 24 0 0))]) dL_law_1205 rfl (v := (a411.1 + (5 : Int32))) rfl (by decide) (fun _ => rfl) (n := 1208) rfl hk (fun x557 hk => ?_)
          refine g_goto C 18 dL_law_1208 (by decide) ?_
          refine g_lv [1, 2, 3, 0] [(0, .ref b), (1, .ref (rr Θ 0 0 0)), (2, .ref (rr Θ 24 0 0)), (3, .int x557)] rfl ?_
          exact hk.out
        · refine g_iconst C (0 : Int32) dL_law_1028 (by decide) (n := 1029) rfl ?_
          exact retB false rfl hk.out dL_law_1029
      refine g_sw C (30 : Int32) 1030 dL_law_32 (by decide) (by decide) rfl (by decide) hk (fun hk => ?_) (fun hc611 hk => ?_)
      · refine g_aload_n C 1 dL_law_1030 rfl rfl (n := 1031) rfl ?_
        refine g_aload_n C 0 dL_law_1031 rfl rfl (n := 1032) rfl ?_
        refine g_iload_n C 3 dL_law_1032 rfl rfl (n := 1033) rfl ?_
        refine g_iconst C (1 : Int32) dL_law_1033 (by decide) (n := 1034) rfl ?_
        refine g_iadd C dL_law_1034 (n := 1035) rfl ?_
        refine g_xld C HX dL_law_1035 (n := 1036) rfl hk (fun hk => ?_)
        refine g_aload_n C 0 dL_law_1036 rfl rfl (n := 1037) rfl ?_
        refine g_iload_n C 3 dL_law_1037 rfl rfl (n := 1038) rfl ?_
        refine g_iconst C (2 : Int32) dL_law_1038 (by decide) (n := 1039) rfl ?_
        refine g_iadd C dL_law_1039 (n := 1040) rfl ?_
        refine g_xld C HX dL_law_1040 (n := 1041) rfl hk (fun hk => ?_)
        refine g_aload_n C 0 dL_law_1041 rfl rfl (n := 1042) rfl ?_
        refine g_iload_n C 3 dL_law_1042 rfl rfl (n := 1043) rfl ?_
        refine g_iconst C (3 : Int32) dL_law_1043 (by decide) (n := 1044) rfl ?_
        refine g_iadd C dL_law_1044 (n := 1045) rfl ?_
        refine g_xld C HX dL_law_1045 (n := 1046) rfl hk (fun hk => ?_)
        refine g_cVI C hk (fun K hk => L_X9_sheet Θ (xs (a411.1 + (1 : Int32)).toNatClampNeg) (xs (a411.1 + (2 : Int32)).toNatClampNeg) (xs (a411.1 + (3 : Int32)).toNatClampNeg) a411.2 K hk) lk_L_142 kc_0 (by decide) (by decide) ⟨rfl, rfl⟩ ⟨Nat.le_of_ble_eq_true rfl, Nat.le_of_ble_eq_true rfl⟩ dL_law_1046 rfl rfl (Nat.le_of_ble_eq_true rfl) (n := 1049) rfl (fun r558 h559 hk => ?_)
        refine g_aload_n C 2 dL_law_1049 rfl rfl (n := 1050) rfl ?_
        refine g_aload_n C 0 dL_law_1050 rfl rfl (n := 1051) rfl ?_
        refine g_iload_n C 3 dL_law_1051 rfl rfl (n := 1052) rfl ?_
        refine g_iconst C (1 : Int32) dL_law_1052 (by decide) (n := 1053) rfl ?_
        refine g_iadd C dL_law_1053 (n := 1054) rfl ?_
        refine g_xld C HX dL_law_1054 (n := 1055) rfl hk (fun hk => ?_)
        refine g_aload_n C 0 dL_law_1055 rfl rfl (n := 1056) rfl ?_
        refine g_iload_n C 3 dL_law_1056 rfl rfl (n := 1057) rfl ?_
        refine g_iconst C (2 : Int32) dL_law_1057 (by decide) (n := 1058) rfl ?_
        refine g_iadd C dL_law_1058 (n := 1059) rfl ?_
        refine g_xld C HX dL_law_1059 (n := 1060) rfl hk (fun hk => ?_)
        refine g_aload_n C 0 dL_law_1060 rfl rfl (n := 1061) rfl ?_
        refine g_iload_n C 3 dL_law_1061 rfl rfl (n := 1062) rfl ?_
        refine g_iconst C (3 : Int32) dL_law_1062 (by decide) (n := 1063) rfl ?_
        refine g_iadd C dL_law_1063 (n := 1064) rfl ?_
        refine g_xld C HX dL_law_1064 (n := 1065) rfl hk (fun hk => ?_)
        refine g_cVI C hk (fun K hk => L_X10_sheet Θ (xs (a411.1 + (1 : Int32)).toNatClampNeg) (xs (a411.1 + (2 : Int32)).toNatClampNeg) (xs (a411.1 + (3 : Int32)).toNatClampNeg) h559 K hk) lk_L_145 kc_24 (by decide) (by decide) ⟨rfl, rfl⟩ ⟨Nat.le_of_ble_eq_true rfl, Nat.le_of_ble_eq_true rfl⟩ dL_law_1065 rfl rfl (Nat.le_of_ble_eq_true rfl) (n := 1068) rfl (fun r560 h561 hk => ?_)
        refine g_ic_eq C 1205 dL_law_1068 (by decide) (n := 1071) rfl hk (fun hk => ?_) (fun hk => ?_)
        · refine g_iinc C 3 (fun x562 => [(3, .int x562), (0, .ref b), (1, .ref (rr Θ 0 0 0)), (2, .ref (rr Θ 24 0 0))]) dL_law_1205 rfl (v := (a411.1 + (5 : Int32))) rfl (by decide) (fun _ => rfl) (n := 1208) rfl hk (fun x562 hk => ?_)
          refine g_goto C 18 dL_law_1208 (by decide) ?_
          refine g_lv [1, 2, 3, 0] [(0, .ref b), (1, .ref (rr Θ 0 0 0)), (2, .ref (rr Θ 24 0 0)), (3, .int x562)] rfl ?_
          exact hk.out
        · refine g_iconst C (0 : Int32) dL_law_1071 (by decide) (n := 1072) rfl ?_
          exact retB false rfl hk.out dL_law_1072
      refine g_sw C (31 : Int32) 1073 dL_law_32 (by decide) (by decide) rfl (by decide) hk (fun hk => ?_) (fun hc612 hk => ?_)
      · refine g_aload_n C 1 dL_law_1073 rfl rfl (n := 1074) rfl ?_
        refine g_aload_n C 0 dL_law_1074 rfl rfl (n := 1075) rfl ?_
        refine g_iload_n C 3 dL_law_1075 rfl rfl (n := 1076) rfl ?_
        refine g_iconst C (1 : Int32) dL_law_1076 (by decide) (n := 1077) rfl ?_
        refine g_iadd C dL_law_1077 (n := 1078) rfl ?_
        refine g_xld C HX dL_law_1078 (n := 1079) rfl hk (fun hk => ?_)
        refine g_aload_n C 0 dL_law_1079 rfl rfl (n := 1080) rfl ?_
        refine g_iload_n C 3 dL_law_1080 rfl rfl (n := 1081) rfl ?_
        refine g_iconst C (2 : Int32) dL_law_1081 (by decide) (n := 1082) rfl ?_
        refine g_iadd C dL_law_1082 (n := 1083) rfl ?_
        refine g_xld C HX dL_law_1083 (n := 1084) rfl hk (fun hk => ?_)
        refine g_aload_n C 0 dL_law_1084 rfl rfl (n := 1085) rfl ?_
        refine g_iload_n C 3 dL_law_1085 rfl rfl (n := 1086) rfl ?_
        refine g_iconst C (3 : Int32) dL_law_1086 (by decide) (n := 1087) rfl ?_
        refine g_iadd C dL_law_1087 (n := 1088) rfl ?_
        refine g_xld C HX dL_law_1088 (n := 1089) rfl hk (fun hk => ?_)
        refine g_cVI C hk (fun K hk => L_X9_lay Θ (xs (a411.1 + (1 : Int32)).toNatClampNeg) (xs (a411.1 + (2 : Int32)).toNatClampNeg) (xs (a411.1 + (3 : Int32)).toNatClampNeg) a411.2 K hk) lk_L_146 kc_0 (by decide) (by decide) ⟨rfl, rfl⟩ ⟨Nat.le_of_ble_eq_true rfl, Nat.le_of_ble_eq_true rfl⟩ dL_law_1089 rfl rfl (Nat.le_of_ble_eq_true rfl) (n := 1092) rfl (fun r563 h564 hk => ?_)
        refine g_aload_n C 2 dL_law_1092 rfl rfl (n := 1093) rfl ?_
        refine g_aload_n C 0 dL_law_1093 rfl rfl (n := 1094) rfl ?_
        refine g_iload_n C 3 dL_law_1094 rfl rfl (n := 1095) rfl ?_
        refine g_iconst C (1 : Int32) dL_law_1095 (by decide) (n := 1096) rfl ?_
        refine g_iadd C dL_law_1096 (n := 1097) rfl ?_
        refine g_xld C HX dL_law_1097 (n := 1098) rfl hk (fun hk => ?_)
        refine g_aload_n C 0 dL_law_1098 rfl rfl (n := 1099) rfl ?_
        refine g_iload_n C 3 dL_law_1099 rfl rfl (n := 1100) rfl ?_
        refine g_iconst C (2 : Int32) dL_law_1100 (by decide) (n := 1101) rfl ?_
        refine g_iadd C dL_law_1101 (n := 1102) rfl ?_
        refine g_xld C HX dL_law_1102 (n := 1103) rfl hk (fun hk => ?_)
        refine g_aload_n C 0 dL_law_1103 rfl rfl (n := 1104) rfl ?_
        refine g_iload_n C 3 dL_law_1104 rfl rfl (n := 1105) rfl ?_
        refine g_iconst C (3 : Int32) dL_law_1105 (by decide) (n := 1106) rfl ?_
        refine g_iadd C dL_law_1106 (n := 1107) rfl ?_
        refine g_xld C HX dL_law_1107 (n := 1108) rfl hk (fun hk => ?_)
        refine g_cVI C hk (fun K hk => L_X10_lay Θ (xs (a411.1 + (1 : Int32)).toNatClampNeg) (xs (a411.1 + (2 : Int32)).toNatClampNeg) (xs (a411.1 + (3 : Int32)).toNatClampNeg) h564 K hk) lk_L_149 kc_24 (by decide) (by decide) ⟨rfl, rfl⟩ ⟨Nat.le_of_ble_eq_true rfl, Nat.le_of_ble_eq_true rfl⟩ dL_law_1108 rfl rfl (Nat.le_of_ble_eq_true rfl) (n := 1111) rfl (fun r565 h566 hk => ?_)
        refine g_ic_eq C 1205 dL_law_1111 (by decide) (n := 1114) rfl hk (fun hk => ?_) (fun hk => ?_)
        · refine g_iinc C 3 (fun x567 => [(3, .int x567), (0, .ref b), (1, .ref (rr Θ 0 0 0)), (2, .ref (rr Θ 24 0 0))]) dL_law_1205 rfl (v := (a411.1 + (5 : Int32))) rfl (by decide) (fun _ => rfl) (n := 1208) rfl hk (fun x567 hk => ?_)
          refine g_goto C 18 dL_law_1208 (by decide) ?_
          refine g_lv [1, 2, 3, 0] [(0, .ref b), (1, .ref (rr Θ 0 0 0)), (2, .ref (rr Θ 24 0 0)), (3, .int x567)] rfl ?_
          exact hk.out
        · refine g_iconst C (0 : Int32) dL_law_1114 (by decide) (n := 1115) rfl ?_
          exact retB false rfl hk.out dL_law_1115
      refine g_sw C (32 : Int32) 1116 dL_law_32 (by decide) (by decide) rfl (by decide) hk (fun hk => ?_) (fun hc613 hk => ?_)
      · refine g_aload_n C 1 dL_law_1116 rfl rfl (n := 1117) rfl ?_
        refine g_aload_n C 0 dL_law_1117 rfl rfl (n := 1118) rfl ?_
        refine g_iload_n C 3 dL_law_1118 rfl rfl (n := 1119) rfl ?_
        refine g_iconst C (1 : Int32) dL_law_1119 (by decide) (n := 1120) rfl ?_
        refine g_iadd C dL_law_1120 (n := 1121) rfl ?_
        refine g_xld C HX dL_law_1121 (n := 1122) rfl hk (fun hk => ?_)
        refine g_aload_n C 0 dL_law_1122 rfl rfl (n := 1123) rfl ?_
        refine g_iload_n C 3 dL_law_1123 rfl rfl (n := 1124) rfl ?_
        refine g_iconst C (2 : Int32) dL_law_1124 (by decide) (n := 1125) rfl ?_
        refine g_iadd C dL_law_1125 (n := 1126) rfl ?_
        refine g_xld C HX dL_law_1126 (n := 1127) rfl hk (fun hk => ?_)
        refine g_aload_n C 0 dL_law_1127 rfl rfl (n := 1128) rfl ?_
        refine g_iload_n C 3 dL_law_1128 rfl rfl (n := 1129) rfl ?_
        refine g_iconst C (3 : Int32) dL_law_1129 (by decide) (n := 1130) rfl ?_
        refine g_iadd C dL_law_1130 (n := 1131) rfl ?_
        refine g_xld C HX dL_law_1131 (n := 1132) rfl hk (fun hk => ?_)
        refine g_aload_n C 0 dL_law_1132 rfl rfl (n := 1133) rfl ?_
        refine g_iload_n C 3 dL_law_1133 rfl rfl (n := 1134) rfl ?_
        refine g_iconst C (4 : Int32) dL_law_1134 (by decide) (n := 1135) rfl ?_
        refine g_iadd C dL_law_1135 (n := 1136) rfl ?_
        refine g_xld C HX dL_law_1136 (n := 1137) rfl hk (fun hk => ?_)
        refine g_cVI C hk (fun K hk => L_X9_read Θ (xs (a411.1 + (1 : Int32)).toNatClampNeg) (xs (a411.1 + (2 : Int32)).toNatClampNeg) (xs (a411.1 + (3 : Int32)).toNatClampNeg) (xs (a411.1 + (4 : Int32)).toNatClampNeg) a411.2 K hk) lk_L_150 kc_0 (by decide) (by decide) ⟨rfl, rfl⟩ ⟨Nat.le_of_ble_eq_true rfl, Nat.le_of_ble_eq_true rfl⟩ dL_law_1137 rfl rfl (Nat.le_of_ble_eq_true rfl) (n := 1140) rfl (fun r568 h569 hk => ?_)
        refine g_aload_n C 2 dL_law_1140 rfl rfl (n := 1141) rfl ?_
        refine g_aload_n C 0 dL_law_1141 rfl rfl (n := 1142) rfl ?_
        refine g_iload_n C 3 dL_law_1142 rfl rfl (n := 1143) rfl ?_
        refine g_iconst C (1 : Int32) dL_law_1143 (by decide) (n := 1144) rfl ?_
        refine g_iadd C dL_law_1144 (n := 1145) rfl ?_
        refine g_xld C HX dL_law_1145 (n := 1146) rfl hk (fun hk => ?_)
        refine g_aload_n C 0 dL_law_1146 rfl rfl (n := 1147) rfl ?_
        refine g_iload_n C 3 dL_law_1147 rfl rfl (n := 1148) rfl ?_
        refine g_iconst C (2 : Int32) dL_law_1148 (by decide) (n := 1149) rfl ?_
        refine g_iadd C dL_law_1149 (n := 1150) rfl ?_
        refine g_xld C HX dL_law_1150 (n := 1151) rfl hk (fun hk => ?_)
        refine g_aload_n C 0 dL_law_1151 rfl rfl (n := 1152) rfl ?_
        refine g_iload_n C 3 dL_law_1152 rfl rfl (n := 1153) rfl ?_
        refine g_iconst C (3 : Int32) dL_law_1153 (by decide) (n := 1154) rfl ?_
        refine g_iadd C dL_law_1154 (n := 1155) rfl ?_
        refine g_xld C HX dL_law_1155 (n := 1156) rfl hk (fun hk => ?_)
        refine g_aload_n C 0 dL_law_1156 rfl rfl (n := 1157) rfl ?_
        refine g_iload_n C 3 dL_law_1157 rfl rfl (n := 1158) rfl ?_
        refine g_iconst C (4 : Int32) dL_law_1158 (by decide) (n := 1159) rfl ?_
        refine g_iadd C dL_law_1159 (n := 1160) rfl ?_
        refine g_xld C HX dL_law_1160 (n := 1161) rfl hk (fun hk => ?_)
        refine g_cVI C hk (fun K hk => L_X10_read Θ (xs (a411.1 + (1 : Int32)).toNatClampNeg) (xs (a411.1 + (2 : Int32)).toNatClampNeg) (xs (a411.1 + (3 : Int32)).toNatClampNeg) (xs (a411.1 + (4 : Int32)).toNatClampNeg) h569 K hk) lk_L_154 kc_24 (by decide) (by decide) ⟨rfl, rfl⟩ ⟨Nat.le_of_ble_eq_true rfl, Nat.le_of_ble_eq_true rfl⟩ dL_law_1161 rfl rfl (Nat.le_of_ble_eq_true rfl) (n := 1164) rfl (fun r570 h571 hk => ?_)
        refine g_ic_eq C 1205 dL_law_1164 (by decide) (n := 1167) rfl hk (fun hk => ?_) (fun hk => ?_)
        · refine g_iinc C 3 (fun x572 => [(3, .int x572), (0, .ref b), (1, .ref (rr Θ 0 0 0)), (2, .ref (rr Θ 24 0 0))]) dL_law_1205 rfl (v := (a411.1 + (5 : Int32))) rfl (by decide) (fun _ => rfl) (n := 1208) rfl hk (fun x572 hk => ?_)
          refine g_goto C 18 dL_law_1208 (by decide) ?_
          refine g_lv [1, 2, 3, 0] [(0, .ref b), (1, .ref (rr Θ 0 0 0)), (2, .ref (rr Θ 24 0 0)), (3, .int x572)] rfl ?_
          exact hk.out
        · refine g_iconst C (0 : Int32) dL_law_1167 (by decide) (n := 1168) rfl ?_
          exact retB false rfl hk.out dL_law_1168
      refine g_sw C (33 : Int32) 1169 dL_law_32 (by decide) (by decide) rfl (by decide) hk (fun hk => ?_) (fun hc614 hk => ?_)
      · refine g_aload_n C 1 dL_law_1169 rfl rfl (n := 1170) rfl ?_
        refine g_cVIp C hk (fun K hk => L_X9_torn Θ a411.2 K hk) lk_L_155 kc_0 (by decide) (by decide) ⟨rfl, rfl⟩ ⟨Nat.le_of_ble_eq_true rfl, Nat.le_of_ble_eq_true rfl⟩ dL_law_1170 rfl rfl (Nat.le_of_ble_eq_true rfl) (n := 1173) rfl (fun r573 hk => ?_)
        refine g_aload_n C 2 dL_law_1173 rfl rfl (n := 1174) rfl ?_
        refine g_cVIp C hk (fun K hk => L_X10_torn Θ a411.2 K hk) lk_L_158 kc_24 (by decide) (by decide) ⟨rfl, rfl⟩ ⟨Nat.le_of_ble_eq_true rfl, Nat.le_of_ble_eq_true rfl⟩ dL_law_1174 rfl rfl (Nat.le_of_ble_eq_true rfl) (n := 1177) rfl (fun r574 hk => ?_)
        refine g_ic_eq C 1205 dL_law_1177 (by decide) (n := 1180) rfl hk (fun hk => ?_) (fun hk => ?_)
        · refine g_iinc C 3 (fun x575 => [(3, .int x575), (0, .ref b), (1, .ref (rr Θ 0 0 0)), (2, .ref (rr Θ 24 0 0))]) dL_law_1205 rfl (v := (a411.1 + (5 : Int32))) rfl (by decide) (fun _ => rfl) (n := 1208) rfl hk (fun x575 hk => ?_)
          refine g_goto C 18 dL_law_1208 (by decide) ?_
          refine g_lv [1, 2, 3, 0] [(0, .ref b), (1, .ref (rr Θ 0 0 0)), (2, .ref (rr Θ 24 0 0)), (3, .int x575)] rfl ?_
          exact hk.out
        · refine g_iconst C (0 : Int32) dL_law_1180 (by decide) (n := 1181) rfl ?_
          exact retB false rfl hk.out dL_law_1181
      refine g_sw C (34 : Int32) 1182 dL_law_32 (by decide) (by decide) rfl (by decide) hk (fun hk => ?_) (fun hc615 hk => ?_)
      · refine g_aload_n C 1 dL_law_1182 rfl rfl (n := 1183) rfl ?_
        refine g_aload_n C 0 dL_law_1183 rfl rfl (n := 1184) rfl ?_
        refine g_iload_n C 3 dL_law_1184 rfl rfl (n := 1185) rfl ?_
        refine g_iconst C (1 : Int32) dL_law_1185 (by decide) (n := 1186) rfl ?_
        refine g_iadd C dL_law_1186 (n := 1187) rfl ?_
        refine g_xld C HX dL_law_1187 (n := 1188) rfl hk (fun hk => ?_)
        refine g_cVIp C hk (fun K hk => L_X9_count Θ (xs (a411.1 + (1 : Int32)).toNatClampNeg) a411.2 K hk) lk_L_159 kc_0 (by decide) (by decide) ⟨rfl, rfl⟩ ⟨Nat.le_of_ble_eq_true rfl, Nat.le_of_ble_eq_true rfl⟩ dL_law_1188 rfl rfl (Nat.le_of_ble_eq_true rfl) (n := 1191) rfl (fun r576 hk => ?_)
        refine g_aload_n C 2 dL_law_1191 rfl rfl (n := 1192) rfl ?_
        refine g_aload_n C 0 dL_law_1192 rfl rfl (n := 1193) rfl ?_
        refine g_iload_n C 3 dL_law_1193 rfl rfl (n := 1194) rfl ?_
        refine g_iconst C (1 : Int32) dL_law_1194 (by decide) (n := 1195) rfl ?_
        refine g_iadd C dL_law_1195 (n := 1196) rfl ?_
        refine g_xld C HX dL_law_1196 (n := 1197) rfl hk (fun hk => ?_)
        refine g_cVI C hk (fun K hk => L_X10_count Θ (xs (a411.1 + (1 : Int32)).toNatClampNeg) a411.2 K hk) lk_L_162 kc_24 (by decide) (by decide) ⟨rfl, rfl⟩ ⟨Nat.le_of_ble_eq_true rfl, Nat.le_of_ble_eq_true rfl⟩ dL_law_1197 rfl rfl (Nat.le_of_ble_eq_true rfl) (n := 1200) rfl (fun r577 h578 hk => ?_)
        refine g_ic_eq C 1205 dL_law_1200 (by decide) (n := 1203) rfl hk (fun hk => ?_) (fun hk => ?_)
        · refine g_iinc C 3 (fun x579 => [(3, .int x579), (0, .ref b), (1, .ref (rr Θ 0 0 0)), (2, .ref (rr Θ 24 0 0))]) dL_law_1205 rfl (v := (a411.1 + (5 : Int32))) rfl (by decide) (fun _ => rfl) (n := 1208) rfl hk (fun x579 hk => ?_)
          refine g_goto C 18 dL_law_1208 (by decide) ?_
          refine g_lv [1, 2, 3, 0] [(0, .ref b), (1, .ref (rr Θ 0 0 0)), (2, .ref (rr Θ 24 0 0)), (3, .int x579)] rfl ?_
          exact hk.out
        · refine g_iconst C (0 : Int32) dL_law_1203 (by decide) (n := 1204) rfl ?_
          exact retB false rfl hk.out dL_law_1204
      refine g_swd C 35 1205 dL_law_32 (by decide) (by decide) (sw_s (sw_s (sw_s (sw_s (sw_s (sw_s (sw_s (sw_s (sw_s (sw_s (sw_s (sw_s (sw_s (sw_s (sw_s (sw_s (sw_s (sw_s (sw_s (sw_s (sw_s (sw_s (sw_s (sw_s (sw_s (sw_s (sw_s (sw_s (sw_s (sw_s (sw_s (sw_s (sw_s (sw_s (sw_0 hc581) hc582) hc583) hc584) hc585) hc586) hc587) hc588) hc589) hc590) hc591) hc592) hc593) hc594) hc595) hc596) hc597) hc598) hc599) hc600) hc601) hc602) hc603) hc604) hc605) hc606) hc607) hc608) hc609) hc610) hc611) hc612) hc613) hc614) hc615) (by decide) ?_
      refine g_iinc C 3 (fun x580 => [(3, .int x580), (0, .ref b), (1, .ref (rr Θ 0 0 0)), (2, .ref (rr Θ 24 0 0))]) dL_law_1205 rfl (v := (a411.1 + (5 : Int32))) rfl (by decide) (fun _ => rfl) (n := 1208) rfl hk (fun x580 hk => ?_)
      refine g_goto C 18 dL_law_1208 (by decide) ?_
      refine g_lv [1, 2, 3, 0] [(0, .ref b), (1, .ref (rr Θ 0 0 0)), (2, .ref (rr Θ 24 0 0)), (3, .int x580)] rfl ?_
      exact hk.out
