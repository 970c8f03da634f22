/-- kind k holds the objects of the class C (number ci of vwCl) -/
def KC (k ci : Nat) (C : String) (T : u_T) (N : Nat) (ty : Nat → FieldType) : Prop :=
  isAr k = false ∧ k < 43 ∧ (∀ (B o : Nat) (r : Nat → Int32), (objE B k o r).1 = ci ∧ (objE B k o r).2.length = N) ∧ vwCl[ci]? = some (C, T, N) ∧ (∀ w ∈ u_ws C T N, w ∈ WS) ∧ (∀ j, j < N → parseFieldDescriptor (T j).2.2.1 = some (ty j)) ∧ (∀ a, a < N → ∀ b, b < N → a ≠ b → (T a).2.1 ≠ (T b).2.1) ∧ ∀ j, j < N → (T j).1 = C
theorem uin {C : String} {T : u_T} {N : Nat} (h : ∀ w ∈ u_ws C T N, w ∈ lw_tbl) (g : (u_ws C T N).all goodWord = true) : ∀ w ∈ u_ws C T N, w ∈ WS := fun w hw => List.mem_filter.mpr ⟨h w hw, List.all_eq_true.mp g w hw⟩
set_option maxRecDepth 100000 in
theorem kc_0 : KC 0 9 RX9 TX9 9 tyX9 := ⟨rfl, by decide, fun _ _ _ => ⟨rfl, rfl⟩, rfl, uin (by decide +kernel) (by decide +kernel), tyX9_ok, nmX9, by decide +kernel⟩
set_option maxRecDepth 100000 in
theorem kc_1 : KC 1 0 RX0 TX0 11 tyX0 := ⟨rfl, by decide, fun _ _ _ => ⟨rfl, rfl⟩, rfl, uin (by decide +kernel) (by decide +kernel), tyX0_ok, nmX0, by decide +kernel⟩
set_option maxRecDepth 100000 in
theorem kc_6 : KC 6 1 RX1 TX1 4 tyX1 := ⟨rfl, by decide, fun _ _ _ => ⟨rfl, rfl⟩, rfl, uin (by decide +kernel) (by decide +kernel), tyX1_ok, nmX1, by decide +kernel⟩
set_option maxRecDepth 100000 in
theorem kc_7 : KC 7 2 RX2 TX2 5 tyX2 := ⟨rfl, by decide, fun _ _ _ => ⟨rfl, rfl⟩, rfl, uin (by decide +kernel) (by decide +kernel), tyX2_ok, nmX2, by decide +kernel⟩
set_option maxRecDepth 100000 in
theorem kc_8 : KC 8 6 RX6 TX6 5 tyX6 := ⟨rfl, by decide, fun _ _ _ => ⟨rfl, rfl⟩, rfl, uin (by decide +kernel) (by decide +kernel), tyX6_ok, nmX6, by decide +kernel⟩
set_option maxRecDepth 100000 in
theorem kc_13 : KC 13 4 RX4 TX4 4 tyX4 := ⟨rfl, by decide, fun _ _ _ => ⟨rfl, rfl⟩, rfl, uin (by decide +kernel) (by decide +kernel), tyX4_ok, nmX4, by decide +kernel⟩
set_option maxRecDepth 100000 in
theorem kc_16 : KC 16 8 RX8 TX8 10 tyX8 := ⟨rfl, by decide, fun _ _ _ => ⟨rfl, rfl⟩, rfl, uin (by decide +kernel) (by decide +kernel), tyX8_ok, nmX8, by decide +kernel⟩
set_option maxRecDepth 100000 in
theorem kc_17 : KC 17 7 RX7 TX7 2 tyX7 := ⟨rfl, by decide, fun _ _ _ => ⟨rfl, rfl⟩, rfl, uin (by decide +kernel) (by decide +kernel), tyX7_ok, nmX7, by decide +kernel⟩
set_option maxRecDepth 100000 in
theorem kc_20 : KC 20 3 RX3 TX3 3 tyX3 := ⟨rfl, by decide, fun _ _ _ => ⟨rfl, rfl⟩, rfl, uin (by decide +kernel) (by decide +kernel), tyX3_ok, nmX3, by decide +kernel⟩
set_option maxRecDepth 100000 in
theorem kc_22 : KC 22 5 RX5 TX5 3 tyX5 := ⟨rfl, by decide, fun _ _ _ => ⟨rfl, rfl⟩, rfl, uin (by decide +kernel) (by decide +kernel), tyX5_ok, nmX5, by decide +kernel⟩
set_option maxRecDepth 100000 in
theorem kc_24 : KC 24 10 RX10 TX10 34 tyX10 := ⟨rfl, by decide, fun _ _ _ => ⟨rfl, rfl⟩, rfl, uin (by decide +kernel) (by decide +kernel), tyX10_ok, nmX10, by decide +kernel⟩
section Rules2
variable {Θ : Tht} {Γ : Ctx} {cc : ByteArray} {own : String} {nL : Nat} {R : Room} {pc n : Nat} {lv : List (Nat × Value)} {st : List Value} {h : Mem}
theorem ent_obj {B : Nat} {cy : Nat → ClassId} {h : Mem} {k o i : Nat} (ha : isAr k = false) : ent B cy h (k, o, i) = .inr (objE B k o (fun j => h k j o i)) := by
  unfold ent
  simp [ha]
theorem ent_arr {B : Nat} {cy : Nat → ClassId} {h : Mem} {k o i : Nat} (ha : isAr k = true) : ent B cy h (k, o, i) = .inl (arrE B cy k o (fun j => h k 0 o j)) := by
  unfold ent
  simp [ha]
theorem wd_obj {B : Nat} {cy : Nat → ClassId} {h : Mem} {k o i ci N : Nat} {C : String} {T : u_T} {ty : Nat → FieldType} (kc : KC k ci C T N ty) (ho : o < no k) (hi : i < ni k) : (wd B cy h)[pos k o i]? = some (ad B k o i, .inr (ci, (objE B k o (fun j => h k j o i)).2)) := by
  rw [wd_at h kc.2.1 ho hi, ent_obj kc.1]
  have := (kc.2.2.1 B o (fun j => h k j o i)).1
  rw [← this]
/-- a field is read -/
theorem g_get (C0 : Cx Θ Γ cc own nL R) {k j o i ci N idx : Nat} {C : String} {T : u_T} {ty : Nat → FieldType} {v : Value} (kc : KC k ci C T N ty) (ho : o < no k) (hi : i < ni k) (hj : j < N) (hv : (objE (tB Θ) k o (fun j => h k j o i)).2[j]? = some v) (hl : Cond.fieldLink own idx C (T j).2.1 (T j).2.2.1 ∈ WS) (hd : decode cc pc = .ok (.getfield idx, 3)) (hn : pc + 3 = n) (kk : G Θ Γ n lv (v :: st) h) : G Θ Γ pc lv (.ref (rr Θ k o i) :: st) h := by
  subst hn
  intro H locs ls hP hS hL
  exact va_get C0.ex C0.bt C0.ws kc.2.2.2.2.1 C0.ow C0.k hP (pos k o i) (wd_obj kc ho hi) kc.2.2.2.1 j hj (C0.ws _ hl) (fun x hx => by rw [kc.2.2.2.2.2.2.2 j hj] at hx; exact hx) hv hd (kk H locs ls hP hS hL)
theorem g_getI (C0 : Cx Θ Γ cc own nL R) {k j o i ci N idx : Nat} {C : String} {T : u_T} {ty : Nat → FieldType} (kc : KC k ci C T N ty) (ft : FT k j) (ho : o < no k) (hi : i < ni k) (hj : j < N) (hl : Cond.fieldLink own idx C (T j).2.1 (T j).2.2.1 ∈ WS) (hd : decode cc pc = .ok (.getfield idx, 3)) (hn : pc + 3 = n) (kk : G Θ Γ n lv (.int (h k j o i) :: st) h) : G Θ Γ pc lv (.ref (rr Θ k o i) :: st) h :=
  g_get C0 kc ho hi hj (ft _ o _ 0).2 hl hd hn kk
theorem g_getR (C0 : Cx Θ Γ cc own nL R) {k j o i ci N idx q : Nat} {C : String} {T : u_T} {ty : Nat → FieldType} (kc : KC k ci C T N ty) (rt : ∀ (r : Nat → Int32), (objE (tB Θ) k o r).2[j]? = some (.ref q)) (ho : o < no k) (hi : i < ni k) (hj : j < N) (hl : Cond.fieldLink own idx C (T j).2.1 (T j).2.2.1 ∈ WS) (hd : decode cc pc = .ok (.getfield idx, 3)) (hn : pc + 3 = n) (kk : G Θ Γ n lv (.ref q :: st) h) : G Θ Γ pc lv (.ref (rr Θ k o i) :: st) h :=
  g_get C0 kc ho hi hj (rt _) hl hd hn kk
theorem wd_upO {B : Nat} {cy : Nat → ClassId} {h : Mem} {k j o i ci N : Nat} {C : String} {T : u_T} {ty : Nat → FieldType} (kc : KC k ci C T N ty) (ft : FT k j) (ho : o < no k) (hi : i < ni k) (v : Int32) : (wd B cy h).set (pos k o i) (ad B k o i, .inr (ci, (objE B k o (fun j => h k j o i)).2.set j (.int v))) = wd B cy (up h k j o i v) := by
  refine wd_set kc.2.1 ho hi (fun q _ hq => ent_up kc.1 q hq) ?_
  rw [ent_obj kc.1, up_row, (ft B o _ v).1, (kc.2.2.1 B o _).1]
/-- a number is written into a field -/
theorem g_putI (C0 : Cx Θ Γ cc own nL R) {β : Type} {f : Mem → Option β} {K : β → Prop} {k j o i ci N idx : Nat} {C : String} {T : u_T} {ty : Nat → FieldType} {v : Int32} (kc : KC k ci C T N ty) (ft : FT k j) (ho : o < no k) (hi : i < ni k) (hj : j < N) (hf : (T j).2.2.2 = false) (hw : narrow (ty j) (.int v) = .int v ∧ fits (ty j) (.int v) = true) (hl : Cond.fieldLink own idx C (T j).2.1 (T j).2.2.1 ∈ WS) (hd : decode cc pc = .ok (.putfield idx, 3)) (hn : pc + 3 = n) (hk : Ok (bnd (up h k j o i v) f) K) (kk : ∀ h', Ok (f h') K → G Θ Γ n lv st h') : G Θ Γ pc lv (.int v :: .ref (rr Θ k o i) :: st) h := by
  subst hn
  intro H locs ls hP hS hL
  refine va_put C0.ex C0.bt C0.ws kc.2.2.2.2.1 ty kc.2.2.2.2.2.1 kc.2.2.2.2.2.2.1 C0.ow C0.k hP wd_D hS (pos k o i) (wd_obj kc ho hi) kc.2.2.2.1 j hj (C0.ws _ hl) (fun x hx => by rw [kc.2.2.2.2.2.2.2 j hj] at hx; exact hx) hf (kc.2.2.2.2.2.1 j hj) hw.1 hw.2 (by rw [(kc.2.2.1 _ _ _).2]; exact hj) hd (fun H1 locs1 hP1 _ hS1 => ?_)
  rw [wd_upO kc ft ho hi v] at hP1
  exact kk _ hk H1 locs1 ls hP1 hS1 hL
theorem fitI (v : Int32) : narrow .int (.int v) = .int v ∧ fits .int (.int v) = true := ⟨rfl, rfl⟩
theorem fitB (b : Bool) : narrow .boolean (.int (b2i b)) = .int (b2i b) ∧ fits .boolean (.int (b2i b)) = true := by cases b <;> decide
theorem fitZ {v : Int32} (hv : v = 0 ∨ v = 1) : narrow .boolean (.int v) = .int v ∧ fits .boolean (.int v) = true := by rcases hv with rfl | rfl <;> decide
/-- an array of numbers -/
def AN (k t : Nat) (ty : FieldType) (len : Nat) : Prop := isAr k = true ∧ k < 43 ∧ (∀ cy : Nat → ClassId, (tys cy)[t]? = some (cy t, ty)) ∧ ni k = 1 ∧ ∀ (B : Nat) (cy : Nat → ClassId) (o : Nat) (a : Nat → Int32), arrE B cy k o a = (cy t, len, .inl a)
theorem wd_arr {B : Nat} {cy : Nat → ClassId} {h : Mem} {k t o len : Nat} {ty : FieldType} (an : AN k t ty len) (ho : o < no k) : (wd B cy h)[pos k o 0]? = some (ad B k o 0, .inl (cy t, len, .inl (fun j => h k 0 o j))) := by
  rw [wd_at h an.2.1 ho (by rw [an.2.2.2.1]; exact Nat.zero_lt_one), ent_arr an.1, an.2.2.2.2]
theorem wd_upA {B : Nat} {cy : Nat → ClassId} {h : Mem} {k t o len : Nat} {ty : FieldType} (an : AN k t ty len) (ho : o < no k) (i : Nat) (v : Int32) : (wd B cy h).set (pos k o 0) (ad B k o 0, .inl (cy t, len, .inl (upd (fun j => h k 0 o j) i v))) = wd B cy (up h k 0 o i v) := by
  refine wd_set an.2.1 ho (by rw [an.2.2.2.1]; exact Nat.zero_lt_one) (fun q hm hq => ent_upA an.1 q hm hq) ?_
  rw [ent_arr an.1, an.2.2.2.2]
  have : (fun j => up h k 0 o i v k 0 o j) = upd (fun j => h k 0 o j) i v := by
    funext j
    simp [up, upd]
  rw [this]
section Arr
variable {β : Type} {z : Option β} {K : β → Prop} {k o len : Nat} {i : Int32}
theorem g_iald (C : Cx Θ Γ cc own nL R) {dz : Decidable (inb i len)} (an : AN k 0 .int len) (ho : o < no k) (hd : decode cc pc = .ok (.iaload, 1)) (hn : pc + 1 = n) (hk : Ok (@gd _ (inb i len) dz z) K) (kk : inb i len → Ok z K → G Θ Γ n lv (.int (h k 0 o i.toNatClampNeg) :: st) h) : G Θ Γ pc lv (.int i :: .ref (rr Θ k o 0) :: st) h := by
  subst hn
  exact fun H locs ls hP hS hl => va_iald C.ex C.bt C.k hP (pos k o 0) 0 (wd_arr an ho) (an.2.2.1 _) hk.gd.1 hd (kk hk.gd.1 hk.gd.2 H locs ls hP hS hl)
theorem g_bald (C : Cx Θ Γ cc own nL R) {dz : Decidable (inb i len)} (an : AN k 1 .byte len) (ho : o < no k) (hd : decode cc pc = .ok (.baload, 1)) (hn : pc + 1 = n) (hk : Ok (@gd _ (inb i len) dz z) K) (kk : inb i len → Ok z K → G Θ Γ n lv (.int (h k 0 o i.toNatClampNeg) :: st) h) : G Θ Γ pc lv (.int i :: .ref (rr Θ k o 0) :: st) h := by
  subst hn
  exact fun H locs ls hP hS hl => va_bald C.ex C.bt C.k hP (pos k o 0) 1 (wd_arr an ho) (an.2.2.1 _) hk.gd.1 hd (kk hk.gd.1 hk.gd.2 H locs ls hP hS hl)
theorem g_zald (C : Cx Θ Γ cc own nL R) {dz : Decidable (inb i len)} (an : AN k 2 .boolean len) (ho : o < no k) (hd : decode cc pc = .ok (.baload, 1)) (hn : pc + 1 = n) (hk : Ok (@gd _ (inb i len) dz z) K) (kk : inb i len → Ok z K → G Θ Γ n lv (.int (h k 0 o i.toNatClampNeg) :: st) h) : G Θ Γ pc lv (.int i :: .ref (rr Θ k o 0) :: st) h := by
  subst hn
  exact fun H locs ls hP hS hl => va_zald C.ex C.bt C.k hP (pos k o 0) 2 (wd_arr an ho) (an.2.2.1 _) hk.gd.1 hd (kk hk.gd.1 hk.gd.2 H locs ls hP hS hl)
theorem g_iast (C : Cx Θ Γ cc own nL R) {dz : Decidable (inb i len)} {f : Mem → Option β} {v : Int32} (an : AN k 0 .int len) (ho : o < no k) (hd : decode cc pc = .ok (.iastore, 1)) (hn : pc + 1 = n) (hk : Ok (@gd _ (inb i len) dz (bnd (up h k 0 o i.toNatClampNeg v) f)) K) (kk : inb i len → ∀ h', Ok (f h') K → G Θ Γ n lv st h') : G Θ Γ pc lv (.int v :: .int i :: .ref (rr Θ k o 0) :: st) h := by
  subst hn
  refine fun H locs ls hP hS hl => va_iast C.ex C.bt C.k hP wd_D hS (pos k o 0) 0 (wd_arr an ho) (an.2.2.1 _) hk.gd.1 hd (fun H1 locs1 hP1 _ hS1 => ?_)
  rw [wd_upA an ho] at hP1
  exact kk hk.gd.1 _ hk.gd.2 H1 locs1 ls hP1 hS1 hl
theorem g_bast (C : Cx Θ Γ cc own nL R) {dz : Decidable (inb i len)} {f : Mem → Option β} {v : Int32} (an : AN k 1 .byte len) (ho : o < no k) (hd : decode cc pc = .ok (.bastore, 1)) (hn : pc + 1 = n) (hk : Ok (@gd _ (inb i len) dz (bnd (up h k 0 o i.toNatClampNeg (vp_nar .byte v)) f)) K) (kk : inb i len → ∀ h', Ok (f h') K → G Θ Γ n lv st h') : G Θ Γ pc lv (.int v :: .int i :: .ref (rr Θ k o 0) :: st) h := by
  subst hn
  refine fun H locs ls hP hS hl => va_bast C.ex C.bt C.k hP wd_D hS (pos k o 0) 1 (wd_arr an ho) (an.2.2.1 _) hk.gd.1 hd (fun H1 locs1 hP1 _ hS1 => ?_)
  rw [wd_upA an ho] at hP1
  exact kk hk.gd.1 _ hk.gd.2 H1 locs1 ls hP1 hS1 hl
theorem g_zast (C : Cx Θ Γ cc own nL R) {dz : Decidable (inb i len)} {f : Mem → Option β} {v : Int32} (an : AN k 2 .boolean len) (ho : o < no k) (hd : decode cc pc = .ok (.bastore, 1)) (hn : pc + 1 = n) (hk : Ok (@gd _ (inb i len) dz (bnd (up h k 0 o i.toNatClampNeg (vp_nar .boolean v)) f)) K) (kk : inb i len → ∀ h', Ok (f h') K → G Θ Γ n lv st h') : G Θ Γ pc lv (.int v :: .int i :: .ref (rr Θ k o 0) :: st) h := by
  subst hn
  refine fun H locs ls hP hS hl => va_zast C.ex C.bt C.k hP wd_D hS (pos k o 0) 2 (wd_arr an ho) (an.2.2.1 _) hk.gd.1 hd (fun H1 locs1 hP1 _ hS1 => ?_)
  rw [wd_upA an ho] at hP1
  exact kk hk.gd.1 _ hk.gd.2 H1 locs1 ls hP1 hS1 hl
/-- an array of references -/
def AR (k t : Nat) (E : String) (len : Nat) (q : Nat → Nat → Nat → Nat) : Prop := isAr k = true ∧ k < 43 ∧ (∀ cy : Nat → ClassId, (tys cy)[t]? = some (cy t, .object E)) ∧ ni k = 1 ∧ ∀ (B : Nat) (cy : Nat → ClassId) (o : Nat) (a : Nat → Int32), arrE B cy k o a = (cy t, len, .inr (.inr (.inr (.inr (fun n => some (q B o n))))))
theorem g_aald (C : Cx Θ Γ cc own nL R) {dz : Decidable (inb i len)} {t : Nat} {E : String} {q : Nat → Nat → Nat → Nat} (ar : AR k t E len q) (ho : o < no k) (hd : decode cc pc = .ok (.aaload, 1)) (hn : pc + 1 = n) (hk : Ok (@gd _ (inb i len) dz z) K) (kk : inb i len → Ok z K → G Θ Γ n lv (.ref (q (tB Θ) o i.toNatClampNeg) :: st) h) : G Θ Γ pc lv (.int i :: .ref (rr Θ k o 0) :: st) h := by
  subst hn
  have he : (wd (tB Θ) (tC Θ) h)[pos k o 0]? = some (ad (tB Θ) k o 0, .inl (tC Θ t, len, .inr (.inr (.inr (.inr (fun n => some (q (tB Θ) o n))))))) := by
    rw [wd_at h ar.2.1 ho (by rw [ar.2.2.2.1]; exact Nat.zero_lt_one), ent_arr ar.1, ar.2.2.2.2]
  exact fun H locs ls hP hS hl => va_aldq C.ex C.bt C.k hP (pos k o 0) t he (ar.2.2.1 _) hk.gd.1 hd (kk hk.gd.1 hk.gd.2 H locs ls hP hS hl)
end Arr
theorem an_2 : AN 2 0 .int 8 := ⟨rfl, by decide, fun _ => rfl, rfl, fun _ _ _ _ => rfl⟩
theorem ar_3 : AR 3 3 RX1 6 (fun B o n => ad B 6 o n) := ⟨rfl, by decide, fun _ => rfl, rfl, fun _ _ _ _ => rfl⟩
theorem ar_4 : AR 4 4 RX2 4 (fun B o n => ad B 7 o n) := ⟨rfl, by decide, fun _ => rfl, rfl, fun _ _ _ _ => rfl⟩
theorem an_5 : AN 5 0 .int 4 := ⟨rfl, by decide, fun _ => rfl, rfl, fun _ _ _ _ => rfl⟩
theorem an_9 : AN 9 0 .int 8 := ⟨rfl, by decide, fun _ => rfl, rfl, fun _ _ _ _ => rfl⟩
theorem an_10 : AN 10 0 .int 8 := ⟨rfl, by decide, fun _ => rfl, rfl, fun _ _ _ _ => rfl⟩
theorem an_11 : AN 11 0 .int 8 := ⟨rfl, by decide, fun _ => rfl, rfl, fun _ _ _ _ => rfl⟩
theorem an_12 : AN 12 2 .boolean 8 := ⟨rfl, by decide, fun _ => rfl, rfl, fun _ _ _ _ => rfl⟩
theorem an_14 : AN 14 0 .int 4 := ⟨rfl, by decide, fun _ => rfl, rfl, fun _ _ _ _ => rfl⟩
theorem an_15 : AN 15 0 .int 4 := ⟨rfl, by decide, fun _ => rfl, rfl, fun _ _ _ _ => rfl⟩
theorem an_18 : AN 18 1 .byte 320 := ⟨rfl, by decide, fun _ => rfl, rfl, fun _ _ _ _ => rfl⟩
theorem ar_19 : AR 19 5 RX3 2 (fun B o n => ad B 20 n 0) := ⟨rfl, by decide, fun _ => rfl, rfl, fun _ _ _ _ => rfl⟩
theorem ar_21 : AR 21 6 RX5 4 (fun B o n => ad B 22 n 0) := ⟨rfl, by decide, fun _ => rfl, rfl, fun _ _ _ _ => rfl⟩
theorem an_23 : AN 23 0 .int 40 := ⟨rfl, by decide, fun _ => rfl, rfl, fun _ _ _ _ => rfl⟩
theorem an_25 : AN 25 0 .int 237 := ⟨rfl, by decide, fun _ => rfl, rfl, fun _ _ _ _ => rfl⟩
theorem an_26 : AN 26 2 .boolean 2 := ⟨rfl, by decide, fun _ => rfl, rfl, fun _ _ _ _ => rfl⟩
theorem an_27 : AN 27 0 .int 79 := ⟨rfl, by decide, fun _ => rfl, rfl, fun _ _ _ _ => rfl⟩
theorem an_28 : AN 28 0 .int 320 := ⟨rfl, by decide, fun _ => rfl, rfl, fun _ _ _ _ => rfl⟩
theorem an_29 : AN 29 0 .int 8 := ⟨rfl, by decide, fun _ => rfl, rfl, fun _ _ _ _ => rfl⟩
theorem an_30 : AN 30 0 .int 6 := ⟨rfl, by decide, fun _ => rfl, rfl, fun _ _ _ _ => rfl⟩
theorem an_31 : AN 31 0 .int 6 := ⟨rfl, by decide, fun _ => rfl, rfl, fun _ _ _ _ => rfl⟩
theorem an_32 : AN 32 0 .int 4 := ⟨rfl, by decide, fun _ => rfl, rfl, fun _ _ _ _ => rfl⟩
theorem an_33 : AN 33 0 .int 4 := ⟨rfl, by decide, fun _ => rfl, rfl, fun _ _ _ _ => rfl⟩
theorem an_34 : AN 34 0 .int 4 := ⟨rfl, by decide, fun _ => rfl, rfl, fun _ _ _ _ => rfl⟩
theorem an_35 : AN 35 0 .int 4 := ⟨rfl, by decide, fun _ => rfl, rfl, fun _ _ _ _ => rfl⟩
theorem an_36 : AN 36 0 .int 4 := ⟨rfl, by decide, fun _ => rfl, rfl, fun _ _ _ _ => rfl⟩
theorem an_37 : AN 37 2 .boolean 4 := ⟨rfl, by decide, fun _ => rfl, rfl, fun _ _ _ _ => rfl⟩
theorem an_38 : AN 38 0 .int 4 := ⟨rfl, by decide, fun _ => rfl, rfl, fun _ _ _ _ => rfl⟩
theorem an_39 : AN 39 0 .int 4 := ⟨rfl, by decide, fun _ => rfl, rfl, fun _ _ _ _ => rfl⟩
theorem an_40 : AN 40 0 .int 4 := ⟨rfl, by decide, fun _ => rfl, rfl, fun _ _ _ _ => rfl⟩
theorem an_41 : AN 41 0 .int 4 := ⟨rfl, by decide, fun _ => rfl, rfl, fun _ _ _ _ => rfl⟩
theorem an_42 : AN 42 0 .int 160 := ⟨rfl, by decide, fun _ => rfl, rfl, fun _ _ _ _ => rfl⟩
-- calls
/-- what a call site links: an instance method, a static one, a nest mate's static one -/
def cLV (own : String) (idx : Nat) (y : MethodName) (cc' : ByteArray) (n' : Nat) (ret' : Option FieldType) (na : Nat) : Prop := Cond.methodLink own idx y ∈ WS ∧ Cond.instanceMethod y ∈ WS ∧ Cond.selects y.cls y y ∈ WS ∧ Cond.initialized y.cls ∈ WS ∧ Cond.code y cc' n' ret' ∈ WS ∧ y.cls ≠ "java/lang/invoke/MethodHandle" ∧ y.cls ≠ "java/lang/invoke/VarHandle" ∧ (parseMethodDescriptor y.desc).map (fun d => d.parameters.length) = some na
def cLS (own : String) (idx : Nat) (y : MethodName) (cc' : ByteArray) (n' : Nat) (ret' : Option FieldType) (na : Nat) : Prop := Cond.methodLink own idx y ∈ WS ∧ Cond.static y ∈ WS ∧ Cond.initialized y.cls ∈ WS ∧ Cond.code y cc' n' ret' ∈ WS ∧ y.cls ≠ "java/lang/invoke/MethodHandle" ∧ y.cls ≠ "java/lang/invoke/VarHandle" ∧ (parseMethodDescriptor y.desc).map (fun d => d.parameters.length) = some na
def cLN (own : String) (idx : Nat) (y : MethodName) (cc' : ByteArray) (n' : Nat) (ret' : Option FieldType) (na : Nat) : Prop := (own, idx, y) ∈ NW ∧ Cond.static y ∈ WS ∧ Cond.initialized y.cls ∈ WS ∧ Cond.code y cc' n' ret' ∈ WS ∧ y.cls ≠ "java/lang/invoke/MethodHandle" ∧ y.cls ≠ "java/lang/invoke/VarHandle" ∧ (parseMethodDescriptor y.desc).map (fun d => d.parameters.length) = some na
section Call
variable {y : MethodName} {cc' : ByteArray} {n' idx na : Nat} {ret' : Option FieldType} {rm' : Room} {Pc : Array Value → State → Prop} {Qc : Array Value → State → Outcome → State → Prop}
theorem cxB (C : Cx Θ Γ cc own nL R) (hc : Cond.code y cc' n' ret' ∈ WS) (hl : Cond.methodLink own idx y ∈ WS) (hi : Cond.initialized y.cls ∈ WS) (hd : y.cls ≠ "java/lang/invoke/MethodHandle" ∧ y.cls ≠ "java/lang/invoke/VarHandle" ∧ (parseMethodDescriptor y.desc).map (fun d => d.parameters.length) = some na) (hrc : rm'.cells = 0 ∧ rm'.slots = 0) (hR : rm'.frames + 1 ≤ R.frames ∧ 8 + (n' + 11) + rm'.locals ≤ R.locals) :
    CallB (cR Γ) (cS Γ) (cA Γ) own idx y cc' n' ret' (.code y cc' n' ret' :: WS) rm' 0 0 na := by
  have ht : ∀ w ∈ (Cond.code y cc' n' ret' :: WS), w.before (cA Γ) (cS Γ) = true := fun w hw => (List.mem_cons.mp hw).elim (fun e => by rw [e]; exact C.ws _ hc) (C.ws w)
  exact callB_of na ht (gin hc) rfl hrc.1 hrc.2 (C.ws _ hi) (C.ws _ hl) hd (by rw [C.rm]; exact hR)
theorem cx_fix (C : Cx Θ Γ cc own nL R) : CallFix (cP Γ) (cM Γ) (cC Γ) cc nL (cS Γ) (cA Γ) WS own := ⟨C.ex, C.bt, C.ml, C.ow, C.ws⟩
theorem pre_s {av : List Value} {H : Heap} {locs : List Loc} (C : Cx Θ Γ cc own nL R) (hP : va_P (tD Θ) vwCl (wd (tB Θ) (tC Θ) h) H) (hS : va_S (tA Θ) (cS Γ).heap H locs) : PreS (cS Γ) H (va_Pc av (Wd Θ h)) av :=
  ⟨Wd.blind, fun U hU hW => ⟨rfl, by rw [hU]; exact hP, va_K.moved hW.alike C.k, C.sx.go hS hU hW⟩⟩
theorem runV {ci N k o i : Nat} {T : u_T} {ty : Nat → FieldType} {As rest : List Value} {H : Heap} {locs : List Loc} {ls : Array Slot} (C : Cx Θ Γ cc own nL R) (hM : Met (tL Θ) y (.code y cc' n' ret' :: WS) rm' (va_Pc (.ref (rr Θ k o i) :: As) (Wd Θ h)) Qc 0 0 (tA Θ)) (L : cLV own idx y cc' n' ret' na) (kc : KC k ci y.cls T N ty) (ho : o < no k) (hi : i < ni k) (hrc : rm'.cells = 0 ∧ rm'.slots = 0) (hR : rm'.frames + 1 ≤ R.frames ∧ 8 + (n' + 11) + rm'.locals ≤ R.locals)
    (hd : decode cc pc = .ok (.invokevirtual idx, 3)) (hna : As.length = na) (hst : st = As.reverse ++ .ref (rr Θ k o i) :: rest) (hw : (rest.map fun v => v.category).sum ≤ 8) (hP : va_P (tD Θ) vwCl (wd (tB Θ) (tC Θ) h) H) (hS : va_S (tA Θ) (cS Γ).heap H locs) (hL : lv_has ls (cN Γ) lv) :
    va_Run (cP Γ) (tL Θ) (cE Γ) (cR Γ) (cS Γ) (cM Γ) (cA Γ) (cF Γ) (cT Γ) (cC Γ) H locs (cU Γ) (cV Γ) 0 0 (F0 (cM Γ) pc ls st) rest (Qc (Value.ref (rr Θ k o i) :: As).toArray) (tA Θ) := by
  obtain ⟨l1, l2, l3, l4, l5, l6⟩ := L
  exact va_runV (cx_fix C) hM ⟨cxB C l5 l1 l4 l6 hrc hR, C.ws _ l2, C.ws _ l3⟩ ⟨Wd.blind, va_recv C.k hP kc.2.2.2.1 (wd_obj kc ho hi), (pre_s C hP hS).2⟩ rfl hna (by rw [← C.nl]; exact hL.1) hst (lv_room hw) hd ⟨by rw [C.rm]; exact C.uc, by rw [C.rm]; exact C.us⟩
theorem runS {av rest : List Value} {H : Heap} {locs : List Loc} {ls : Array Slot} (C : Cx Θ Γ cc own nL R) (hM : Met (tL Θ) y (.code y cc' n' ret' :: WS) rm' (va_Pc av (Wd Θ h)) Qc 0 0 (tA Θ)) (L : cLS own idx y cc' n' ret' na) (hrc : rm'.cells = 0 ∧ rm'.slots = 0) (hR : rm'.frames + 1 ≤ R.frames ∧ 8 + (n' + 11) + rm'.locals ≤ R.locals)
    (hd : decode cc pc = .ok (.invokestatic idx, 3)) (hna : av.length = na) (hst : st = av.reverse ++ rest) (hw : (rest.map fun v => v.category).sum ≤ 8) (hP : va_P (tD Θ) vwCl (wd (tB Θ) (tC Θ) h) H) (hS : va_S (tA Θ) (cS Γ).heap H locs) (hL : lv_has ls (cN Γ) lv) :
    va_Run (cP Γ) (tL Θ) (cE Γ) (cR Γ) (cS Γ) (cM Γ) (cA Γ) (cF Γ) (cT Γ) (cC Γ) H locs (cU Γ) (cV Γ) 0 0 (F0 (cM Γ) pc ls st) rest (Qc av.toArray) (tA Θ) := by
  obtain ⟨l1, l2, l4, l5, l6⟩ := L
  exact va_runS (cx_fix C) hM ⟨cxB C l5 l1 l4 l6 hrc hR, C.ws _ l2⟩ (pre_s C hP hS) rfl hna (by rw [← C.nl]; exact hL.1) hst (lv_room hw) hd ⟨by rw [C.rm]; exact C.uc, by rw [C.rm]; exact C.us⟩
theorem runN {av rest : List Value} {H : Heap} {locs : List Loc} {ls : Array Slot} (C : Cx Θ Γ cc own nL R) (hM : Met (tL Θ) y (.code y cc' n' ret' :: WS) rm' (va_Pc av (Wd Θ h)) Qc 0 0 (tA Θ)) (L : cLN own idx y cc' n' ret' na) (hrc : rm'.cells = 0 ∧ rm'.slots = 0) (hR : rm'.frames + 1 ≤ R.frames ∧ 8 + (n' + 11) + rm'.locals ≤ R.locals)
    (hd : decode cc pc = .ok (.invokestatic idx, 3)) (hna : av.length = na) (hst : st = av.reverse ++ rest) (hw : (rest.map fun v => v.category).sum ≤ 8) (hP : va_P (tD Θ) vwCl (wd (tB Θ) (tC Θ) h) H) (hS : va_S (tA Θ) (cS Γ).heap H locs) (hL : lv_has ls (cN Γ) lv) :
    va_Run (cP Γ) (tL Θ) (cE Γ) (cR Γ) (cS Γ) (cM Γ) (cA Γ) (cF Γ) (cT Γ) (cC Γ) H locs (cU Γ) (cV Γ) 0 0 (F0 (cM Γ) pc ls st) rest (Qc av.toArray) (tA Θ) := by
  obtain ⟨l1, l2, l4, l5, l6⟩ := L
  have ht : ∀ w ∈ (Cond.code y cc' n' ret' :: WS), w.before (cA Γ) (cS Γ) = true := fun w hw => (List.mem_cons.mp hw).elim (fun e => by rw [e]; exact C.ws _ l5) (C.ws w)
  exact va_runSN (cx_fix C) hM ⟨va_cnB na ht (gin l5) rfl hrc.1 hrc.2 (C.sx.2.2.2.2.1 _ l1) (C.ws _ l4) l6 (by rw [C.rm]; exact hR), C.ws _ l2, trivial⟩ (pre_s C hP hS) rfl hna (by rw [← C.nl]; exact hL.1) hst (lv_room hw) hd ⟨by rw [C.rm]; exact C.uc, by rw [C.rm]; exact C.us⟩

theorem g_cVI (C : Cx Θ Γ cc own nL R) {β : Type} {K : β → Prop} {x : Option (Int32 × Mem)} {f : Int32 → Mem → Option β} {ci N k o i : Nat} {T : u_T} {ty : Nat → FieldType} {As rest : List Value} (hk : Ok (ob2 x f) K) (hM : ∀ K', Ok x K' → CI Θ y cc' n' ret' rm' (.ref (rr Θ k o i) :: As) h K') (L : cLV own idx y cc' n' ret' na) (kc : KC k ci y.cls T N ty) (ho : o < no k) (hi : i < ni k) (hrc : rm'.cells = 0 ∧ rm'.slots = 0) (hR : rm'.frames + 1 ≤ R.frames ∧ 8 + (n' + 11) + rm'.locals ≤ R.locals) (hd : decode cc pc = .ok (.invokevirtual idx, 3)) (hna : As.length = na) (hst : st = As.reverse ++ .ref (rr Θ k o i) :: rest) (hw : (rest.map fun v => v.category).sum ≤ 8) (hn : pc + 3 = n) (kk : ∀ r h', Ok (f r h') K → G Θ Γ n lv (.int r :: rest) h') : G Θ Γ pc lv st h := by
  subst hn
  intro H locs ls hP hS hL
  refine va_calli (runV C (hM _ hk.ob2) L kc ho hi hrc hR hd hna hst hw hP hS hL) hS (fun q _ hq => hq) (fun q hq => hq) (fun r u t H1 locs1 ht hvm hp hB hz hk1 hS1 => ?_)
  rw [← ht] at hS1 ⊢
  exact kk r u hp _ _ ls hB.1 hS1 hL
theorem g_cVB (C : Cx Θ Γ cc own nL R) {β : Type} {K : β → Prop} {x : Option (Bool × Mem)} {f : Bool → Mem → Option β} {ci N k o i : Nat} {T : u_T} {ty : Nat → FieldType} {As rest : List Value} (hk : Ok (ob2 x f) K) (hM : ∀ K', Ok x K' → CB Θ y cc' n' ret' rm' (.ref (rr Θ k o i) :: As) h K') (L : cLV own idx y cc' n' ret' na) (kc : KC k ci y.cls T N ty) (ho : o < no k) (hi : i < ni k) (hrc : rm'.cells = 0 ∧ rm'.slots = 0) (hR : rm'.frames + 1 ≤ R.frames ∧ 8 + (n' + 11) + rm'.locals ≤ R.locals) (hd : decode cc pc = .ok (.invokevirtual idx, 3)) (hna : As.length = na) (hst : st = As.reverse ++ .ref (rr Θ k o i) :: rest) (hw : (rest.map fun v => v.category).sum ≤ 8) (hn : pc + 3 = n) (kk : ∀ r h', Ok (f r h') K → G Θ Γ n lv (.int (b2i r) :: rest) h') : G Θ Γ pc lv st h := by
  subst hn
  intro H locs ls hP hS hL
  refine va_calli (runV C (hM _ hk.ob2) L kc ho hi hrc hR hd hna hst hw hP hS hL) hS (fun q _ hq => hq) (fun q hq => hq) (fun r u t H1 locs1 ht hvm hp hB hz hk1 hS1 => ?_)
  obtain ⟨b, rfl, hp⟩ := hp
  rw [← ht] at hS1 ⊢
  exact kk b u hp _ _ ls hB.1 hS1 hL
theorem g_cVV (C : Cx Θ Γ cc own nL R) {β : Type} {K : β → Prop} {x : Option Mem} {f : Mem → Option β} {ci N k o i : Nat} {T : u_T} {ty : Nat → FieldType} {As rest : List Value} (hk : Ok (obd x f) K) (hM : ∀ K', Ok x K' → CV Θ y cc' n' ret' rm' (.ref (rr Θ k o i) :: As) h K') (L : cLV own idx y cc' n' ret' na) (kc : KC k ci y.cls T N ty) (ho : o < no k) (hi : i < ni k) (hrc : rm'.cells = 0 ∧ rm'.slots = 0) (hR : rm'.frames + 1 ≤ R.frames ∧ 8 + (n' + 11) + rm'.locals ≤ R.locals) (hd : decode cc pc = .ok (.invokevirtual idx, 3)) (hna : As.length = na) (hst : st = As.reverse ++ .ref (rr Θ k o i) :: rest) (hw : (rest.map fun v => v.category).sum ≤ 8) (hn : pc + 3 = n) (kk : ∀ h', Ok (f h') K → G Θ Γ n lv rest h') : G Θ Γ pc lv st h := by
  subst hn
  intro H locs ls hP hS hL
  refine va_callv (runV C (hM _ hk.obd) L kc ho hi hrc hR hd hna hst hw hP hS hL) hS (fun q _ hq => hq) (fun q hq => hq) (fun u t H1 locs1 ht hvm hp hB hz hk1 hS1 => ?_)
  rw [← ht] at hS1 ⊢
  exact kk u hp _ _ ls hB.1 hS1 hL
theorem g_cSI (C : Cx Θ Γ cc own nL R) {β : Type} {K : β → Prop} {x : Option (Int32 × Mem)} {f : Int32 → Mem → Option β} {av rest : List Value} (hk : Ok (ob2 x f) K) (hM : ∀ K', Ok x K' → CI Θ y cc' n' ret' rm' av h K') (L : cLS own idx y cc' n' ret' na) (hrc : rm'.cells = 0 ∧ rm'.slots = 0) (hR : rm'.frames + 1 ≤ R.frames ∧ 8 + (n' + 11) + rm'.locals ≤ R.locals) (hd : decode cc pc = .ok (.invokestatic idx, 3)) (hna : av.length = na) (hst : st = av.reverse ++ rest) (hw : (rest.map fun v => v.category).sum ≤ 8) (hn : pc + 3 = n) (kk : ∀ r h', Ok (f r h') K → G Θ Γ n lv (.int r :: rest) h') : G Θ Γ pc lv st h := by
  subst hn
  intro H locs ls hP hS hL
  refine va_calli (runS C (hM _ hk.ob2) L hrc hR hd hna hst hw hP hS hL) hS (fun q _ hq => hq) (fun q hq => hq) (fun r u t H1 locs1 ht hvm hp hB hz hk1 hS1 => ?_)
  rw [← ht] at hS1 ⊢
  exact kk r u hp _ _ ls hB.1 hS1 hL
theorem g_cSB (C : Cx Θ Γ cc own nL R) {β : Type} {K : β → Prop} {x : Option (Bool × Mem)} {f : Bool → Mem → Option β} {av rest : List Value} (hk : Ok (ob2 x f) K) (hM : ∀ K', Ok x K' → CB Θ y cc' n' ret' rm' av h K') (L : cLS own idx y cc' n' ret' na) (hrc : rm'.cells = 0 ∧ rm'.slots = 0) (hR : rm'.frames + 1 ≤ R.frames ∧ 8 + (n' + 11) + rm'.locals ≤ R.locals) (hd : decode cc pc = .ok (.invokestatic idx, 3)) (hna : av.length = na) (hst : st = av.reverse ++ rest) (hw : (rest.map fun v => v.category).sum ≤ 8) (hn : pc + 3 = n) (kk : ∀ r h', Ok (f r h') K → G Θ Γ n lv (.int (b2i r) :: rest) h') : G Θ Γ pc lv st h := by
  subst hn
  intro H locs ls hP hS hL
  refine va_calli (runS C (hM _ hk.ob2) L hrc hR hd hna hst hw hP hS hL) hS (fun q _ hq => hq) (fun q hq => hq) (fun r u t H1 locs1 ht hvm hp hB hz hk1 hS1 => ?_)
  obtain ⟨b, rfl, hp⟩ := hp
  rw [← ht] at hS1 ⊢
  exact kk b u hp _ _ ls hB.1 hS1 hL
theorem g_cSV (C : Cx Θ Γ cc own nL R) {β : Type} {K : β → Prop} {x : Option Mem} {f : Mem → Option β} {av rest : List Value} (hk : Ok (obd x f) K) (hM : ∀ K', Ok x K' → CV Θ y cc' n' ret' rm' av h K') (L : cLS own idx y cc' n' ret' na) (hrc : rm'.cells = 0 ∧ rm'.slots = 0) (hR : rm'.frames + 1 ≤ R.frames ∧ 8 + (n' + 11) + rm'.locals ≤ R.locals) (hd : decode cc pc = .ok (.invokestatic idx, 3)) (hna : av.length = na) (hst : st = av.reverse ++ rest) (hw : (rest.map fun v => v.category).sum ≤ 8) (hn : pc + 3 = n) (kk : ∀ h', Ok (f h') K → G Θ Γ n lv rest h') : G Θ Γ pc lv st h := by
  subst hn
  intro H locs ls hP hS hL
  refine va_callv (runS C (hM _ hk.obd) L hrc hR hd hna hst hw hP hS hL) hS (fun q _ hq => hq) (fun q hq => hq) (fun u t H1 locs1 ht hvm hp hB hz hk1 hS1 => ?_)
  rw [← ht] at hS1 ⊢
  exact kk u hp _ _ ls hB.1 hS1 hL
theorem g_cNI (C : Cx Θ Γ cc own nL R) {β : Type} {K : β → Prop} {x : Option (Int32 × Mem)} {f : Int32 → Mem → Option β} {av rest : List Value} (hk : Ok (ob2 x f) K) (hM : ∀ K', Ok x K' → CI Θ y cc' n' ret' rm' av h K') (L : cLN own idx y cc' n' ret' na) (hrc : rm'.cells = 0 ∧ rm'.slots = 0) (hR : rm'.frames + 1 ≤ R.frames ∧ 8 + (n' + 11) + rm'.locals ≤ R.locals) (hd : decode cc pc = .ok (.invokestatic idx, 3)) (hna : av.length = na) (hst : st = av.reverse ++ rest) (hw : (rest.map fun v => v.category).sum ≤ 8) (hn : pc + 3 = n) (kk : ∀ r h', Ok (f r h') K → G Θ Γ n lv (.int r :: rest) h') : G Θ Γ pc lv st h := by
  subst hn
  intro H locs ls hP hS hL
  refine va_calli (runN C (hM _ hk.ob2) L hrc hR hd hna hst hw hP hS hL) hS (fun q _ hq => hq) (fun q hq => hq) (fun r u t H1 locs1 ht hvm hp hB hz hk1 hS1 => ?_)
  rw [← ht] at hS1 ⊢
  exact kk r u hp _ _ ls hB.1 hS1 hL
theorem g_cNB (C : Cx Θ Γ cc own nL R) {β : Type} {K : β → Prop} {x : Option (Bool × Mem)} {f : Bool → Mem → Option β} {av rest : List Value} (hk : Ok (ob2 x f) K) (hM : ∀ K', Ok x K' → CB Θ y cc' n' ret' rm' av h K') (L : cLN own idx y cc' n' ret' na) (hrc : rm'.cells = 0 ∧ rm'.slots = 0) (hR : rm'.frames + 1 ≤ R.frames ∧ 8 + (n' + 11) + rm'.locals ≤ R.locals) (hd : decode cc pc = .ok (.invokestatic idx, 3)) (hna : av.length = na) (hst : st = av.reverse ++ rest) (hw : (rest.map fun v => v.category).sum ≤ 8) (hn : pc + 3 = n) (kk : ∀ r h', Ok (f r h') K → G Θ Γ n lv (.int (b2i r) :: rest) h') : G Θ Γ pc lv st h := by
  subst hn
  intro H locs ls hP hS hL
  refine va_calli (runN C (hM _ hk.ob2) L hrc hR hd hna hst hw hP hS hL) hS (fun q _ hq => hq) (fun q hq => hq) (fun r u t H1 locs1 ht hvm hp hB hz hk1 hS1 => ?_)
  obtain ⟨b, rfl, hp⟩ := hp
  rw [← ht] at hS1 ⊢
  exact kk b u hp _ _ ls hB.1 hS1 hL
theorem g_cNV (C : Cx Θ Γ cc own nL R) {β : Type} {K : β → Prop} {x : Option Mem} {f : Mem → Option β} {av rest : List Value} (hk : Ok (obd x f) K) (hM : ∀ K', Ok x K' → CV Θ y cc' n' ret' rm' av h K') (L : cLN own idx y cc' n' ret' na) (hrc : rm'.cells = 0 ∧ rm'.slots = 0) (hR : rm'.frames + 1 ≤ R.frames ∧ 8 + (n' + 11) + rm'.locals ≤ R.locals) (hd : decode cc pc = .ok (.invokestatic idx, 3)) (hna : av.length = na) (hst : st = av.reverse ++ rest) (hw : (rest.map fun v => v.category).sum ≤ 8) (hn : pc + 3 = n) (kk : ∀ h', Ok (f h') K → G Θ Γ n lv rest h') : G Θ Γ pc lv st h := by
  subst hn
  intro H locs ls hP hS hL
  refine va_callv (runN C (hM _ hk.obd) L hrc hR hd hna hst hw hP hS hL) hS (fun q _ hq => hq) (fun q hq => hq) (fun u t H1 locs1 ht hvm hp hB hz hk1 hS1 => ?_)
  rw [← ht] at hS1 ⊢
  exact kk u hp _ _ ls hB.1 hS1 hL
end Call
-- entries and returns
def RtI (Θ : Tht) (Γ : Ctx) (cc : ByteArray) (K : Int32 × Mem → Prop) : Prop := ∀ (pc : Nat) (lv : List (Nat × Value)) (h : Mem) (r : Int32), decode cc pc = .ok (.ireturn, 1) → K (r, h) → G Θ Γ pc lv [.int r] h
def RtB (Θ : Tht) (Γ : Ctx) (cc : ByteArray) (K : Bool × Mem → Prop) : Prop := ∀ (pc : Nat) (lv : List (Nat × Value)) (h : Mem) (b : Bool), decode cc pc = .ok (.ireturn, 1) → K (b, h) → G Θ Γ pc lv [.int (b2i b)] h
def RtV (Θ : Tht) (Γ : Ctx) (cc : ByteArray) (K : Mem → Prop) : Prop := ∀ (pc : Nat) (lv : List (Nat × Value)) (h : Mem), decode cc pc = .ok (.return_, 1) → K h → G Θ Γ pc lv [] h
theorem nar_b2i (b : Bool) : narrow .boolean (.int (b2i b)) = .int (b2i b) := (fitB b).1
theorem Met.ofWF {l : Launch} {y : MethodName} {ws ws' : List Cond} {rm : Room} {Pc : Array Value → State → Prop} {Qc : Array Value → State → Outcome → State → Prop} {mc ms : Nat} {free : Addr → Prop} {cc : ByteArray} {maxL : Nat} {ret : Option FieldType}
    (hy : plainFor y = true) (hw : ws = Cond.code y cc maxL ret :: ws')
    (body : ∀ p e s m args below meth c s₁, BodyLoose p l y (headSpec ws rm) cc maxL ret e s m args below meth c s₁ → c.maxLocals = maxL → Pc args s →
      W p l e (headSpec ws rm).room s m args below meth c s.heap [] 0 0 (MQ below Qc args s mc ms free) (entryFrame m args maxL)) : Met l y ws rm Pc Qc mc ms free := by
  refine MetFree.of_bodySF (code := cc) (maxLocals := maxL) (ret := ret) hy ?_ ?_
  · intro args s m h hn
    obtain ⟨meth, c, h1, h2, h3, h4, h5, h6, -, -⟩ := Cond.code_spec hn (atoms_spec (ws := ws) h _ (by rw [hw]; exact List.mem_cons_self))
    exact ⟨meth, c, h1, h2, h3, h4, h5, h6⟩
  · intro p e s m args below meth c s₁ B hml hP _
    have hh0 : s₁.heap = s.heap := by rw [B.state]; rfl
    obtain ⟨t, a1, o, b1, b2, b3⟩ := body p e s m args below meth c s₁ B hml hP s₁ hh0 (Stand.of_body B)
    exact ⟨t, o, a1, b1, b2, ⟨b3.1, b3.2⟩⟩
section Ent
variable {y : MethodName} {rm : Room} {av : List Value}
theorem ent_cx {p : Program} {e : Env} {s : State} {m : MethodId} {args : Array Value} {below : List Frame} {meth : Method} {c : Code} {s₁ : State} {Z : State → Prop} {ret : Option FieldType} (B : BodyLoose p (tL Θ) y (headSpec (.code y cc nL ret :: WS) rm) cc nL ret e s m args below meth c s₁) (hml : c.maxLocals = nL) (hv : va_Pc av (Wd Θ h) args s) : Cx Θ (p, e, rm, s, m, args, below, meth, c, nL, 0, 0, Z) cc y.cls nL rm := by
  have hts := atoms_spec (ws := .code y cc nL ret :: WS) B.pre
  exact ⟨B.exec, B.bytes, hml, rfl, findClass_of_methodNamed B.named, fun w hw => hts w (List.mem_cons_of_mem _ hw), hv.2.2.1, hv.2.2.2, rfl, Nat.zero_le _, Nat.zero_le _⟩
theorem CV.of (K : Mem → Prop) (lv : List (Nat × Value)) (hy : plainFor y = true) (hl : (lg_sl av).length ≤ nL) (hlv : lv_args 0 av = lv) (body : ∀ Γ, Cx Θ Γ cc y.cls nL rm → RtV Θ Γ cc K → G Θ Γ 0 lv [] h) : CV Θ y cc nL none rm av h K := by
  refine Met.ofWF (cc := cc) (maxL := nL) (ret := none) hy rfl ?_
  intro p e s m args below meth c s₁ B hml hv
  have C := ent_cx (Z := MQ below (va_Qv (fun h' => K h') (Wd Θ) (tA Θ)) args s 0 0 (tA Θ)) B hml hv
  obtain ⟨rfl, hP, hK, hX⟩ := hv
  rw [lg_entry_eq]
  have hlocks := B.notSynchronized
  refine body _ C (fun pc lv h' hd hk H locs ls hP' hS' hL' => ?_) s.heap [] _ hP va_S.rf (by rw [← hlv]; exact lv_entry av hl)
  exact W.vret B.exec B.bytes B.returns (fun t ht hW => ⟨⟨h', rfl, hk, by rw [ht]; exact hP', va_K.moved hW.alike hK, hX.go hS' ht hW⟩, hS'.F ht⟩) hS'.2.2 hd hlocks
theorem CI.of (K : Int32 × Mem → Prop) (lv : List (Nat × Value)) (hy : plainFor y = true) (hl : (lg_sl av).length ≤ nL) (hlv : lv_args 0 av = lv) (body : ∀ Γ, Cx Θ Γ cc y.cls nL rm → RtI Θ Γ cc K → G Θ Γ 0 lv [] h) : CI Θ y cc nL (some .int) rm av h K := by
  refine Met.ofWF (cc := cc) (maxL := nL) (ret := some .int) hy rfl ?_
  intro p e s m args below meth c s₁ B hml hv
  have C := ent_cx (Z := MQ below (va_Qi (fun r h' => K (r, h')) (Wd Θ) (tA Θ)) args s 0 0 (tA Θ)) B hml hv
  obtain ⟨rfl, hP, hK, hX⟩ := hv
  rw [lg_entry_eq]
  have hlocks := B.notSynchronized
  refine body _ C (fun pc lv h' r hd hk H locs ls hP' hS' hL' => ?_) s.heap [] _ hP va_S.rf (by rw [← hlv]; exact lv_entry av hl)
  exact W.iret B.exec B.bytes B.returns (fun t ht hW => ⟨⟨r, h', rfl, hk, by rw [ht]; exact hP', va_K.moved hW.alike hK, hX.go hS' ht hW⟩, hS'.F ht⟩) hS'.2.2 hd hlocks
theorem CB.of (K : Bool × Mem → Prop) (lv : List (Nat × Value)) (hy : plainFor y = true) (hl : (lg_sl av).length ≤ nL) (hlv : lv_args 0 av = lv) (body : ∀ Γ, Cx Θ Γ cc y.cls nL rm → RtB Θ Γ cc K → G Θ Γ 0 lv [] h) : CB Θ y cc nL (some .boolean) rm av h K := by
  refine Met.ofWF (cc := cc) (maxL := nL) (ret := some .boolean) hy rfl ?_
  intro p e s m args below meth c s₁ B hml hv
  have C := ent_cx (Z := MQ below (va_Qi (fun r h' => ∃ b : Bool, r = b2i b ∧ K (b, h')) (Wd Θ) (tA Θ)) args s 0 0 (tA Θ)) B hml hv
  obtain ⟨rfl, hP, hK, hX⟩ := hv
  rw [lg_entry_eq]
  have hlocks := B.notSynchronized
  refine body _ C (fun pc lv h' b hd hk H locs ls hP' hS' hL' => ?_) s.heap [] _ hP va_S.rf (by rw [← hlv]; exact lv_entry av hl)
  exact W.zret B.exec B.bytes B.returns (nar_b2i b) (fun t ht hW => ⟨⟨b2i b, h', rfl, ⟨b, rfl, hk⟩, by rw [ht]; exact hP', va_K.moved hW.alike hK, hX.go hS' ht hW⟩, hS'.F ht⟩) hS'.2.2 hd hlocks
end Ent
end Rules2
