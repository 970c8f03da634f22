-- the String constants: length() and charAt()
def sln (s : Nat) : Int32 := Int32.ofNat (sLen.getD s 0)
def sch (s j : Nat) : Int32 := (sByt.getD s []).getD j 0
theorem sln_ok : ∀ s, s < 8 → Int32.ofNat (sLen.getD s 0) >>> ((0 : Int32) &&& 31) = sln s := by decide +kernel
theorem sch_okb : (List.range 8).all (fun s => (List.range (sLen.getD s 0)).all (fun j => decide (((((sByt.getD s []).getD j 0) &&& 255).toUInt32 % 65536).toInt32 = sch s j))) = true := by decide +kernel
theorem sch_ok {s j : Nat} (hs : s < 8) (hj : j < sLen.getD s 0) : ((((sByt.getD s []).getD j 0) &&& 255).toUInt32 % 65536).toInt32 = sch s j := by
  have h1 := List.all_eq_true.mp sch_okb s (List.mem_range.mpr hs)
  have h2 := List.all_eq_true.mp h1 j (List.mem_range.mpr hj)
  exact of_decide_eq_true h2
theorem sLen_lt : ∀ s, s < 8 → sLen.getD s 0 < 8 := by decide
def RtT (Θ : Tht) (Γ : Ctx) (cc : ByteArray) (ty : FieldType) (K : Int32 × Mem → Prop) : Prop := ∀ (pc : Nat) (lv : List (Nat × Value)) (h : Mem) (r : Int32), decode cc pc = .ok (.ireturn, 1) → narrow ty (.int r) = .int r → K (r, h) → G Θ Γ pc lv [.int r] h
section Str
variable {Θ : Tht} {Γ : Ctx} {cc : ByteArray} {own : String} {nL : Nat} {R : Room} {pc n : Nat} {lv : List (Nat × Value)} {st : List Value} {h : Mem} {s : Nat}
theorem CI.ofT {y : MethodName} {rm : Room} {av : List Value} {ty : FieldType} (K : Int32 × Mem → Prop) (lv : List (Nat × Value)) (hy : plainFor y = true) (hl : (lg_sl av).length ≤ nL) (hlv : lv_args 0 av = lv) (body : ∀ Γ, Cx Θ Γ cc y.cls nL rm → RtT Θ Γ cc ty K → G Θ Γ 0 lv [] h) : CI Θ y cc nL (some ty) rm av h K := by
  refine Met.ofWF (cc := cc) (maxL := nL) (ret := some ty) hy rfl ?_
  intro p e s m args below meth c s₁ B hml hv
  have C := ent_cx (Z := MQ below (va_Qi (fun r h' => K (r, h')) (Wd Θ) (tA Θ)) args s 0 0 (tA Θ)) B hml hv
  obtain ⟨rfl, hP, hK, hX⟩ := hv
  rw [lg_entry_eq]
  have hlocks := B.notSynchronized
  refine body _ C (fun pc lv h' r hd hn hk H locs ls hP' hS' hL' => ?_) s.heap [] _ hP va_S.rf (by rw [← hlv]; exact lv_entry av hl)
  exact W.zret B.exec B.bytes B.returns hn (fun t ht hW => ⟨⟨r, h', rfl, hk, by rw [ht]; exact hP', va_K.moved hW.alike hK, hX.go hS' ht hW⟩, hS'.F ht⟩) hS'.2.2 hd hlocks
theorem g_cs (C : Cx Θ Γ cc own nL R) {idx : Nat} (hl : Cond.fieldLink own idx "java/lang/String" "COMPACT_STRINGS" "Z" ∈ WS) (hd : decode cc pc = .ok (.getstatic idx, 3)) (hn : pc + 3 = n) (kk : G Θ Γ n lv (.int 1 :: st) h) : G Θ Γ pc lv st h := by
  subst hn
  exact fun H locs ls hP hS hL => va_gets C.ex C.bt C.sx.2.2.1 hS C.ow (C.ws _ hl) (fun _ hx => hx) hd (kk H locs ls hP hS hL)
theorem g_sf (C : Cx Θ Γ cc own nL R) {idx : Nat} (hl : Cond.fieldLink own idx "jdk/internal/util/Preconditions" "SIOOBE_FORMATTER" "Ljava/util/function/BiFunction;" ∈ WS) (hd : decode cc pc = .ok (.getstatic idx, 3)) (hn : pc + 3 = n) (kk : ∀ v : Value, (v = .null ∨ ∃ t, v = .ref t) → G Θ Γ n lv (v :: st) h) : G Θ Γ pc lv st h := by
  subst hn
  refine fun H locs ls hP hS hL => ?_
  rcases C.sx.2.2.2.1 with hz | ⟨t, hz⟩
  · exact va_gets C.ex C.bt hz hS C.ow (C.ws _ hl) (fun _ hx => hx) hd (kk .null (Or.inl rfl) H locs ls hP hS hL)
  · exact va_gets C.ex C.bt hz hS C.ow (C.ws _ hl) (fun _ hx => hx) hd (kk (.ref t) (Or.inr ⟨t, rfl⟩) H locs ls hP hS hL)
theorem g_sco (C : Cx Θ Γ cc own nL R) (hs : s < 8) {idx : Nat} (hl : Cond.fieldLink own idx "java/lang/String" "coder" "B" ∈ WS) (hd : decode cc pc = .ok (.getfield idx, 3)) (hn : pc + 3 = n) (kk : G Θ Γ n lv (.int 0 :: st) h) : G Θ Γ pc lv (.ref (tK Θ s) :: st) h := by
  subst hn
  exact fun H locs ls hP hS hL => vk_getf C.ex C.bt (C.sx.1.1 s hs).2.1 hS C.ow (C.ws _ hl) (fun _ hx => hx) hd (kk H locs ls hP hS hL)
theorem g_sva (C : Cx Θ Γ cc own nL R) (hs : s < 8) {idx : Nat} (hl : Cond.fieldLink own idx "java/lang/String" "value" "[B" ∈ WS) (hd : decode cc pc = .ok (.getfield idx, 3)) (hn : pc + 3 = n) (kk : G Θ Γ n lv (.ref (tV Θ s) :: st) h) : G Θ Γ pc lv (.ref (tK Θ s) :: st) h := by
  subst hn
  exact fun H locs ls hP hS hL => vk_getf C.ex C.bt (C.sx.1.1 s hs).2.2.1 hS C.ow (C.ws _ hl) (fun _ hx => hx) hd (kk H locs ls hP hS hL)
theorem g_sal (C : Cx Θ Γ cc own nL R) (hs : s < 8) (hd : decode cc pc = .ok (.arraylength, 1)) (hn : pc + 1 = n) (kk : G Θ Γ n lv (.int (Int32.ofNat (sLen.getD s 0)) :: st) h) : G Θ Γ pc lv (.ref (tV Θ s) :: st) h := by
  subst hn
  exact fun H locs ls hP hS hL => va_tlen C.ex C.bt (C.sx.1.1 s hs).2.2.2 hS rfl hd (kk H locs ls hP hS hL)
theorem g_sba (C : Cx Θ Γ cc own nL R) (hs : s < 8) {i : Int32} (hi : inb i (sLen.getD s 0)) (hd : decode cc pc = .ok (.baload, 1)) (hn : pc + 1 = n) (kk : G Θ Γ n lv (.int ((sByt.getD s []).getD i.toNatClampNeg 0) :: st) h) : G Θ Γ pc lv (.int i :: .ref (tV Θ s) :: st) h := by
  subst hn
  exact fun H locs ls hP hS hL => va_tb C.ex C.bt (C.sx.1.1 s hs).2.2.2 hS hi rfl hd (kk H locs ls hP hS hL)
theorem g_i2c (C : Cx Θ Γ cc own nL R) {x : Int32} (hd : decode cc pc = .ok (.i2c, 1)) (hn : pc + 1 = n) (kk : G Θ Γ n lv (.int (x.toUInt32 % 65536).toInt32 :: st) h) : G Θ Γ pc lv (.int x :: st) h := by
  subst hn
  exact fun H locs ls hP hS hl => lv_i2c C.ex C.bt hd rfl (kk H locs ls hP hS hl)
theorem g_ldcS (C : Cx Θ Γ cc RX8 nL R) (i : Nat) (hi : i < 8) (hd : decode cc pc = .ok (.ldc (sIx i), 2)) (hn : pc + 2 = n) (kk : G Θ Γ n lv (.ref (tK Θ i) :: st) h) : G Θ Γ pc lv st h := by
  subst hn
  exact fun H locs ls hP hS hl => va_ldcS C.ex C.bt C.ow (C.sx.2.1 i hi) hd (kk H locs ls hP hS hl)
/-- a branch whose way is known -/
theorem g_ife0 (C : Cx Θ Γ cc own nL R) {x : Int32} {off : Int} (tgt : Nat) (hd : decode cc pc = .ok (.ifCond .eq off, 3)) (ht : (pc : Int) + off = (tgt : Int)) (hx : ¬ x = 0) (hn : pc + 3 = n) (kk : G Θ Γ n lv st h) : G Θ Γ pc lv (.int x :: st) h := by
  subst hn
  exact fun H locs ls hP hS hl => lv_if_eq C.ex C.bt hd ht (fun c => absurd c hx) (fun _ => kk H locs ls hP hS hl)
theorem g_ifn0 (C : Cx Θ Γ cc own nL R) {x : Int32} {off : Int} (tgt : Nat) (hd : decode cc pc = .ok (.ifCond .ne off, 3)) (ht : (pc : Int) + off = (tgt : Int)) (hx : x = 0) (hn : pc + 3 = n) (kk : G Θ Γ n lv st h) : G Θ Γ pc lv (.int x :: st) h := by
  subst hn
  exact fun H locs ls hP hS hl => lv_if_ne C.ex C.bt hd ht (fun c => absurd hx c) (fun _ => kk H locs ls hP hS hl)
theorem g_ifl0 (C : Cx Θ Γ cc own nL R) {x : Int32} {off : Int} (tgt : Nat) (hd : decode cc pc = .ok (.ifCond .lt off, 3)) (ht : (pc : Int) + off = (tgt : Int)) (hx : ¬ x < 0) (hn : pc + 3 = n) (kk : G Θ Γ n lv st h) : G Θ Γ pc lv (.int x :: st) h := by
  subst hn
  exact fun H locs ls hP hS hl => lv_if_lt C.ex C.bt hd ht (fun c => absurd c hx) (fun _ => kk H locs ls hP hS hl)
theorem g_icl1 (C : Cx Θ Γ cc own nL R) {x y : Int32} {off : Int} (tgt : Nat) (hd : decode cc pc = .ok (.if_icmp .lt off, 3)) (ht : (pc : Int) + off = (tgt : Int)) (hx : x < y) (kk : G Θ Γ tgt lv st h) : G Θ Γ pc lv (.int y :: .int x :: st) h :=
  fun H locs ls hP hS hl => lv_icmp_lt C.ex C.bt hd ht (fun _ => kk H locs ls hP hS hl) (fun c => absurd hx c)
/-- a call on a String constant -/
theorem g_cW (C : Cx Θ Γ cc own nL R) {y : MethodName} {cc' : ByteArray} {n' idx na : Nat} {ret' : Option FieldType} {rm' : Room} {r : Int32} {As rest : List Value} (hs : s < 8) (hM : ∀ K' : Int32 × Mem → Prop, K' (r, h) → CI Θ y cc' n' ret' rm' (.ref (tK Θ s) :: As) h K') (L : cLV own idx y cc' n' ret' na) (hy : y.cls = "java/lang/String") (hrc : rm'.cells = 0 ∧ rm'.slots = 0) (hR : rm'.frames + 1 ≤ R.frames ∧ 8 + (n' + 11) + rm'.locals ≤ R.locals)
    (hd : decode cc pc = .ok (.invokevirtual idx, 3)) (hna : As.length = na) (hst : st = As.reverse ++ .ref (tK Θ s) :: rest) (hw : (rest.map fun v => v.category).sum ≤ 8) (hn : pc + 3 = n) (kk : G Θ Γ n lv (.int r :: rest) h) : G Θ Γ pc lv st h := by
  subst hn
  intro H locs ls hP hS hL
  obtain ⟨l1, l2, l3, l4, l5, l6⟩ := L
  have hr := va_runV (H := H) (locs := locs) (cells := cU Γ) (slots := cV Γ) (e := cE Γ) (below := cF Γ) (meth := cT Γ) (g := F0 (cM Γ) pc ls st) (b := tK Θ s) (As := As) (rest := rest) (C := y.cls) (cx_fix C) (hM (fun q => q = (r, h)) rfl) ⟨cxB C l5 l1 l4 l6 hrc hR, C.ws _ l2, C.ws _ l3⟩ ⟨Wd.blind, by rw [hy]; exact vk_recv C.sx.1 hs hS, (pre_s C hP hS).2⟩ rfl hna (by rw [← C.nl]; exact hL.1) hst (lv_room hw) hd ⟨by rw [C.rm]; exact C.uc, by rw [C.rm]; exact C.us⟩
  refine va_calli hr hS (fun q _ hq => hq) (fun q hq => hq) (fun r' u t H1 locs1 ht hvm hp hB hz hk1 hS1 => ?_)
  obtain ⟨rfl, rfl⟩ := Prod.mk.inj hp
  rw [← ht] at hS1 ⊢
  exact kk _ _ ls hB.1 hS1 hL
/-- a call of a static method that only answers -/
theorem g_cSW (C : Cx Θ Γ cc own nL R) {y : MethodName} {cc' : ByteArray} {n' idx na : Nat} {ret' : Option FieldType} {rm' : Room} {r : Int32} {av rest : List Value} (hM : ∀ K' : Int32 × Mem → Prop, K' (r, h) → CI Θ y cc' n' ret' rm' av h K') (L : cLS own idx y cc' n' ret' na) (hrc : rm'.cells = 0 ∧ rm'.slots = 0) (hR : rm'.frames + 1 ≤ R.frames ∧ 8 + (n' + 11) + rm'.locals ≤ R.locals)
    (hd : decode cc pc = .ok (.invokestatic idx, 3)) (hna : av.length = na) (hst : st = av.reverse ++ rest) (hw : (rest.map fun v => v.category).sum ≤ 8) (hn : pc + 3 = n) (kk : G Θ Γ n lv (.int r :: rest) h) : G Θ Γ pc lv st h :=
  g_cSI (K := fun _ : Unit => True) (x := some (r, h)) (f := fun r' h' => @ite _ (r' = r ∧ h' = h) (Classical.propDecidable _) (some ()) none) C ⟨(), by simp only [ob2]; rw [if_pos ⟨trivial, trivial⟩], trivial⟩ (fun K' hK => hM K' hK.out) L hrc hR hd hna hst hw hn (fun r' h' hk => by
    by_cases hc : r' = r ∧ h' = h
    · obtain ⟨rfl, rfl⟩ := hc; exact kk
    · obtain ⟨b, h3, -⟩ := hk
      rw [if_neg hc] at h3
      cases h3)
end Str
def rmS0 : Room := { frames := 0, cells := 0, slots := 0, locals := 0 }
def rmS1 : Room := { frames := 1, cells := 0, slots := 0, locals := 22 }
def rmS2 : Room := { frames := 2, cells := 0, slots := 0, locals := 43 }
def rmS3 : Room := { frames := 3, cells := 0, slots := 0, locals := 64 }
theorem lkJ0_335 : cLV RJ0 335 yJ0_coder_7d493 cJ0_coder_7d493 1 (some .byte) 0 := ⟨wm_441, wm_442, wm_443, wm_75, wm_444, by decide, by decide, by decide +kernel⟩
theorem lkJ0_492 : cLV RJ0 492 yJ0_isLatin1_aae02 cJ0_isLatin1_aae02 1 (some .boolean) 0 := ⟨wm_451, wm_452, wm_453, wm_75, wm_454, by decide, by decide, by decide +kernel⟩
theorem lkJ0_495 : cLS RJ0 495 yJ1_charAt_3b067 cJ1_charAt_3b067 2 (some .char) 2 := ⟨wm_455, wm_456, wm_76, wm_457, by decide, by decide, by decide +kernel⟩
theorem lkJ1_9 : cLS RJ1 9 yJ0_checkIndex_df160 cJ0_checkIndex_df160 2 none 2 := ⟨wm_458, wm_459, wm_75, wm_460, by decide, by decide, by decide +kernel⟩
theorem lkJ0_1059 : cLS RJ0 1059 yJ3_checkIndex_8e157 cJ3_checkIndex_8e157 3 (some .int) 3 := ⟨wm_463, wm_464, wm_77, wm_465, by decide, by decide, by decide +kernel⟩
theorem lkX8_154 : cLV RX8 154 yJ0_length_8abf5 cJ0_length_8abf5 1 (some .int) 0 := ⟨wm_437, wm_438, wm_439, wm_75, wm_440, by decide, by decide, by decide +kernel⟩
theorem lkX8_163 : cLV RX8 163 yJ0_charAt_5068e cJ0_charAt_5068e 2 (some .char) 1 := ⟨wm_447, wm_448, wm_449, wm_75, wm_450, by decide, by decide, by decide +kernel⟩
set_option maxRecDepth 100000 in
theorem L_coder (Θ : Tht) (s : Nat) (hs : s < 8) (h : Mem) (K : Int32 × Mem → Prop) (hk : K (0, h)) : CI Θ yJ0_coder_7d493 cJ0_coder_7d493 1 (some .byte) rmS0 [.ref (tK Θ s)] h K := by
  refine CI.ofT K [(0, .ref (tK Θ s))] (plainFor_of_name (by decide)) (Nat.le_of_ble_eq_true rfl) rfl (fun Γ C Rt => ?_)
  refine g_cs C wm_445 dJ0_coder_7d493_0 (n := 3) rfl ?_
  refine g_ife0 C 13 dJ0_coder_7d493_3 (by decide) (by decide) (n := 6) rfl ?_
  refine g_aload_n C 0 dJ0_coder_7d493_6 rfl rfl (n := 7) rfl ?_
  refine g_sco C hs wm_1307 dJ0_coder_7d493_7 (n := 10) rfl ?_
  refine g_goto C 14 dJ0_coder_7d493_10 (by decide) ?_
  exact Rt _ _ _ _ dJ0_coder_7d493_14 (by decide) hk
set_option maxRecDepth 100000 in
theorem L_isLatin1 (Θ : Tht) (s : Nat) (hs : s < 8) (h : Mem) (K : Int32 × Mem → Prop) (hk : K (1, h)) : CI Θ yJ0_isLatin1_aae02 cJ0_isLatin1_aae02 1 (some .boolean) rmS0 [.ref (tK Θ s)] h K := by
  refine CI.ofT K [(0, .ref (tK Θ s))] (plainFor_of_name (by decide)) (Nat.le_of_ble_eq_true rfl) rfl (fun Γ C Rt => ?_)
  refine g_cs C wm_445 dJ0_isLatin1_aae02_0 (n := 3) rfl ?_
  refine g_ife0 C 17 dJ0_isLatin1_aae02_3 (by decide) (by decide) (n := 6) rfl ?_
  refine g_aload_n C 0 dJ0_isLatin1_aae02_6 rfl rfl (n := 7) rfl ?_
  refine g_sco C hs wm_1307 dJ0_isLatin1_aae02_7 (n := 10) rfl ?_
  refine g_ifn0 C 17 dJ0_isLatin1_aae02_10 (by decide) rfl (n := 13) rfl ?_
  refine g_iconst C 1 dJ0_isLatin1_aae02_13 (by decide) (n := 14) rfl ?_
  refine g_goto C 18 dJ0_isLatin1_aae02_14 (by decide) ?_
  exact Rt _ _ _ _ dJ0_isLatin1_aae02_18 (by decide) hk
set_option maxRecDepth 100000 in
theorem L_length (Θ : Tht) (s : Nat) (hs : s < 8) (h : Mem) (K : Int32 × Mem → Prop) (hk : K (sln s, h)) : CI Θ yJ0_length_8abf5 cJ0_length_8abf5 1 (some .int) rmS1 [.ref (tK Θ s)] h K := by
  refine CI.of K [(0, .ref (tK Θ s))] (plainFor_of_name (by decide)) (Nat.le_of_ble_eq_true rfl) rfl (fun Γ C Rt => ?_)
  refine g_aload_n C 0 dJ0_length_8abf5_0 rfl rfl (n := 1) rfl ?_
  refine g_sva C hs wm_1306 dJ0_length_8abf5_1 (n := 4) rfl ?_
  refine g_sal C hs dJ0_length_8abf5_4 (n := 5) rfl ?_
  refine g_aload_n C 0 dJ0_length_8abf5_5 rfl rfl (n := 6) rfl ?_
  refine g_cW C hs (As := []) (fun K hk => L_coder Θ s hs h K hk) lkJ0_335 rfl ⟨rfl, rfl⟩ ⟨Nat.le_of_ble_eq_true rfl, Nat.le_of_ble_eq_true rfl⟩ dJ0_length_8abf5_6 rfl rfl (Nat.le_of_ble_eq_true rfl) (n := 9) rfl ?_
  refine g_ishr C dJ0_length_8abf5_9 (n := 10) rfl ?_
  refine g_top (sln_ok s hs) ?_
  exact Rt _ _ _ _ dJ0_length_8abf5_10 hk
set_option maxRecDepth 100000 in
theorem L_pcheck (Θ : Tht) (i n : Int32) (v : Value) (h : Mem) (K : Int32 × Mem → Prop) (hv : v = .null ∨ ∃ t, v = .ref t) (h0 : ¬ i < 0) (h1 : i < n) (hk : K (i, h)) : CI Θ yJ3_checkIndex_8e157 cJ3_checkIndex_8e157 3 (some .int) rmS0 [.int i, .int n, v] h K := by
  refine CI.of K [(0, .int i), (1, .int n), (2, v)] (plainFor_of_name (by decide)) (by rcases hv with rfl | ⟨t, rfl⟩ <;> exact Nat.le_of_ble_eq_true rfl) (by rcases hv with rfl | ⟨t, rfl⟩ <;> rfl) (fun Γ C Rt => ?_)
  refine g_iload_n C 0 dJ3_checkIndex_8e157_0 rfl rfl (n := 1) rfl ?_
  refine g_ifl0 C 9 dJ3_checkIndex_8e157_1 (by decide) h0 (n := 4) rfl ?_
  refine g_iload_n C 0 dJ3_checkIndex_8e157_4 rfl rfl (n := 5) rfl ?_
  refine g_iload_n C 1 dJ3_checkIndex_8e157_5 rfl rfl (n := 6) rfl ?_
  refine g_icl1 C 16 dJ3_checkIndex_8e157_6 (by decide) h1 ?_
  refine g_iload_n C 0 dJ3_checkIndex_8e157_16 rfl rfl (n := 17) rfl ?_
  exact Rt _ _ _ _ dJ3_checkIndex_8e157_17 hk
set_option maxRecDepth 100000 in
theorem L_scheck (Θ : Tht) (i n : Int32) (h : Mem) (K : Mem → Prop) (h0 : ¬ i < 0) (h1 : i < n) (hk : K h) : CV Θ yJ0_checkIndex_df160 cJ0_checkIndex_df160 2 none rmS1 [.int i, .int n] h K := by
  refine CV.of K [(0, .int i), (1, .int n)] (plainFor_of_name (by decide)) (Nat.le_of_ble_eq_true rfl) rfl (fun Γ C Rt => ?_)
  refine g_iload_n C 0 dJ0_checkIndex_df160_0 rfl rfl (n := 1) rfl ?_
  refine g_iload_n C 1 dJ0_checkIndex_df160_1 rfl rfl (n := 2) rfl ?_
  refine g_sf C wm_461 dJ0_checkIndex_df160_2 (n := 5) rfl (fun v hv => ?_)
  refine g_cSW C (av := [.int i, .int n, v]) (fun K hk => L_pcheck Θ i n v h K hv h0 h1 hk) lkJ0_1059 ⟨rfl, rfl⟩ ⟨Nat.le_of_ble_eq_true rfl, Nat.le_of_ble_eq_true rfl⟩ dJ0_checkIndex_df160_5 rfl rfl (Nat.le_of_ble_eq_true rfl) (n := 8) rfl ?_
  refine g_pop C dJ0_checkIndex_df160_8 rfl (n := 9) rfl ?_
  exact Rt _ _ _ dJ0_checkIndex_df160_9 hk
theorem inb_lt32 {i : Int32} {m : Nat} (hm : m < 2 ^ 31) (h : inb i m) : ¬ i < 0 ∧ i < Int32.ofNat m := by
  obtain ⟨j, hj, rfl⟩ := vp_in_of h hm
  exact ⟨nI_pos (by omega), nI_lt hj hm⟩
set_option maxRecDepth 100000 in
theorem L_lchar (Θ : Tht) (s : Nat) (hs : s < 8) (i : Int32) (h : Mem) (K : Int32 × Mem → Prop) (hi : inb i (sLen.getD s 0)) (hk : K (sch s i.toNatClampNeg, h)) : CI Θ yJ1_charAt_3b067 cJ1_charAt_3b067 2 (some .char) rmS2 [.ref (tV Θ s), .int i] h K := by
  refine CI.ofT K [(0, .ref (tV Θ s)), (1, .int i)] (plainFor_of_name (by decide)) (Nat.le_of_ble_eq_true rfl) rfl (fun Γ C Rt => ?_)
  have hb := inb_lt32 (m := sLen.getD s 0) (Nat.lt_trans (sLen_lt s hs) (by decide)) hi
  refine g_iload_n C 1 dJ1_charAt_3b067_0 rfl rfl (n := 1) rfl ?_
  refine g_aload_n C 0 dJ1_charAt_3b067_1 rfl rfl (n := 2) rfl ?_
  refine g_sal C hs dJ1_charAt_3b067_2 (n := 3) rfl ?_
  refine g_cSV (K := fun _ : Unit => True) (x := some h) (f := fun h' => @ite _ (h' = h) (Classical.propDecidable _) (some ()) none) C (av := [.int i, .int (Int32.ofNat (sLen.getD s 0))]) ⟨(), if_pos rfl, trivial⟩ (fun K hk => L_scheck Θ i _ h K hb.1 hb.2 hk.out) lkJ1_9 ⟨rfl, rfl⟩ ⟨Nat.le_of_ble_eq_true rfl, Nat.le_of_ble_eq_true rfl⟩ dJ1_charAt_3b067_3 rfl rfl (Nat.le_of_ble_eq_true rfl) (n := 6) rfl (fun h' hk' => ?_)
  have hh : h' = h := by
    by_cases hc : h' = h
    · exact hc
    · obtain ⟨b, h3, -⟩ := hk'
      rw [if_neg hc] at h3
      cases h3
  subst hh
  refine g_aload_n C 0 dJ1_charAt_3b067_6 rfl rfl (n := 7) rfl ?_
  refine g_iload_n C 1 dJ1_charAt_3b067_7 rfl rfl (n := 8) rfl ?_
  refine g_sba C hs hi dJ1_charAt_3b067_8 (n := 9) rfl ?_
  refine g_sipush C 255 dJ1_charAt_3b067_9 (by decide) (n := 12) rfl ?_
  refine g_iand C dJ1_charAt_3b067_12 (n := 13) rfl ?_
  refine g_i2c C dJ1_charAt_3b067_13 (n := 14) rfl ?_
  refine Rt _ _ _ _ dJ1_charAt_3b067_14 (pk_nc _) ?_
  rw [sch_ok hs (inb_lt hi)]
  exact hk
set_option maxRecDepth 100000 in
theorem L_charAt (Θ : Tht) (s : Nat) (hs : s < 8) (i : Int32) (h : Mem) (K : Int32 × Mem → Prop) (hi : inb i (sLen.getD s 0)) (hk : K (sch s i.toNatClampNeg, h)) : CI Θ yJ0_charAt_5068e cJ0_charAt_5068e 2 (some .char) rmS3 [.ref (tK Θ s), .int i] h K := by
  refine CI.ofT K [(0, .ref (tK Θ s)), (1, .int i)] (plainFor_of_name (by decide)) (Nat.le_of_ble_eq_true rfl) rfl (fun Γ C Rt => ?_)
  refine g_aload_n C 0 dJ0_charAt_5068e_0 rfl rfl (n := 1) rfl ?_
  refine g_cW C hs (As := []) (fun K hk => L_isLatin1 Θ s hs h K hk) lkJ0_492 rfl ⟨rfl, rfl⟩ ⟨Nat.le_of_ble_eq_true rfl, Nat.le_of_ble_eq_true rfl⟩ dJ0_charAt_5068e_1 rfl rfl (Nat.le_of_ble_eq_true rfl) (n := 4) rfl ?_
  refine g_ife0 C 16 dJ0_charAt_5068e_4 (by decide) (by decide) (n := 7) rfl ?_
  refine g_aload_n C 0 dJ0_charAt_5068e_7 rfl rfl (n := 8) rfl ?_
  refine g_sva C hs wm_1306 dJ0_charAt_5068e_8 (n := 11) rfl ?_
  refine g_iload_n C 1 dJ0_charAt_5068e_11 rfl rfl (n := 12) rfl ?_
  refine g_cSW C (av := [.ref (tV Θ s), .int i]) (fun K hk => L_lchar Θ s hs i h K hi hk) lkJ0_495 ⟨rfl, rfl⟩ ⟨Nat.le_of_ble_eq_true rfl, Nat.le_of_ble_eq_true rfl⟩ dJ0_charAt_5068e_12 rfl rfl (Nat.le_of_ble_eq_true rfl) (n := 15) rfl ?_
  refine Rt _ _ _ _ dJ0_charAt_5068e_15 ?_ hk
  rw [← sch_ok hs (inb_lt hi)]
  exact pk_nc _
section Str2
variable {Θ : Tht} {Γ : Ctx} {cc : ByteArray} {nL : Nat} {R : Room} {pc n : Nat} {lv : List (Nat × Value)} {st : List Value} {h : Mem} {s : Nat}
theorem g_slen (C : Cx Θ Γ cc RX8 nL R) (hR : 2 ≤ R.frames ∧ 42 ≤ R.locals) (hs : s < 8) (hd : decode cc pc = .ok (.invokevirtual 154, 3)) (hw : (st.map fun v => v.category).sum ≤ 8) (hn : pc + 3 = n) (kk : G Θ Γ n lv (.int (sln s) :: st) h) : G Θ Γ pc lv (.ref (tK Θ s) :: st) h :=
  g_cW C hs (As := []) (fun K hk => L_length Θ s hs h K hk) lkX8_154 rfl ⟨rfl, rfl⟩ ⟨hR.1, hR.2⟩ hd rfl rfl hw hn kk
theorem g_schr (C : Cx Θ Γ cc RX8 nL R) {β : Type} {z : Option β} {K : β → Prop} {i : Int32} {dz : Decidable (inb i (sLen.getD s 0))} (hR : 4 ≤ R.frames ∧ 85 ≤ R.locals) (hs : s < 8) (hd : decode cc pc = .ok (.invokevirtual 163, 3)) (hw : (st.map fun v => v.category).sum ≤ 8) (hn : pc + 3 = n) (hk : Ok (@gd _ (inb i (sLen.getD s 0)) dz z) K) (kk : Ok z K → G Θ Γ n lv (.int (sch s i.toNatClampNeg) :: st) h) : G Θ Γ pc lv (.int i :: .ref (tK Θ s) :: st) h :=
  g_cW C hs (As := [.int i]) (fun K hk' => L_charAt Θ s hs i h K hk.gd.1 hk') lkX8_163 rfl ⟨rfl, rfl⟩ ⟨hR.1, hR.2⟩ hd rfl rfl hw hn (kk hk.gd.2)
end Str2
