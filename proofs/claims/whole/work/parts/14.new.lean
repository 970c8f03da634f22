-- constructors: the world is a list of cells that grows; addresses are exact
def Nw (Θ : Tht) (Γ : Ctx) (pc : Nat) (lv : List (Nat × Value)) (st : List Value) (X l : va_W) (sz cells slots : Nat) : Prop :=
  ∀ (H : Heap) (locs : List Loc) (ls : Array Slot), H.size = sz → va_P (tD Θ) vwCl (X ++ l) H → va_D (tA Θ) (X ++ l) → va_S (tA Θ) (cS Γ).heap H locs → lv_has ls (cN Γ) lv →
    W (cP Γ) (tL Θ) (cE Γ) (cR Γ) (cS Γ) (cM Γ) (cA Γ) (cF Γ) (cT Γ) (cC Γ) H locs cells slots (cZ Γ) (F0 (cM Γ) pc ls st)
def Pn (Θ : Tht) (ws : va_W) (sz : Nat) (U : State) : Prop := U.heap.size = sz ∧ tB Θ ≤ sz ∧ va_P (tD Θ) vwCl ws U.heap ∧ va_D (tA Θ) ws ∧ va_K (tD Θ) vwCl (tys (tC Θ)) U ∧ Sx Θ U
theorem Pn.blind {Θ : Tht} {ws : va_W} {sz : Nat} {av : List Value} : FrameBlind (va_Pc av (Pn Θ ws sz)) := by
  intro a U g mk hp
  obtain ⟨rfl, hz, hb, hP, hD, hK, h1, h2, h3, h4, h5, h6⟩ := hp
  have hA : U.vm.Alike (U.calling g mk av.toArray).vm := Vm.Alike.refl U.vm
  exact ⟨rfl, hz, hb, hP, hD, va_K.moved hA hK, h1.moved hA, fun i hi => (h2 i hi).same rfl, h3.moved hA, h4.moved hA, fun q hq => va_Nw.same rfl rfl (h5 q hq), fun C hC => (h6 C hC).moved hA⟩
def CN (Θ : Tht) (y : MethodName) (cc : ByteArray) (n : Nat) (rm : Room) (av : List Value) (ws : va_W) (sz : Nat) (ws' : va_W) (sz' : Nat) (mc ms : Nat) : Prop :=
  Met (tL Θ) y (.code y cc n none :: WS) rm (va_Pc av (Pn Θ ws sz)) (va_Qv (fun _ : Unit => True) (fun _ t => Pn Θ ws' sz' t) (tA Θ)) mc ms (tA Θ)
theorem ap_get {X l : va_W} {i : Nat} : (X ++ l)[X.length + i]? = l[i]? := by
  rw [List.getElem?_append_right (Nat.le_add_right _ _)]
  congr 1
  omega
theorem ap_set {X l : va_W} {i : Nat} {e : Nat × va_E} : (X ++ l).set (X.length + i) e = X ++ l.set i e := by
  induction X with
  | nil => simp
  | cons a X ih =>
    have : (a :: X).length + i = (X.length + i) + 1 := by simp; omega
    rw [this]
    simp [ih]
section NR
variable {Θ : Tht} {Γ : Ctx} {cc : ByteArray} {own : String} {nL : Nat} {R : Room} {pc n : Nat} {lv : List (Nat × Value)} {st : List Value} {X l : va_W} {sz cells slots : Nat}
theorem n_iconst (C : Cx Θ Γ cc own nL R) {c : Int} (v : Int32) (hd : decode cc pc = .ok (.iconst c, 1)) (hv : Int32.ofInt c = v) (hn : pc + 1 = n) (kk : Nw Θ Γ n lv (.int v :: st) X l sz cells slots) : Nw Θ Γ pc lv st X l sz cells slots := by
  subst hn
  exact fun H locs ls hz hP hD hS hl => lv_iconst C.ex C.bt hd hv (kk H locs ls hz hP hD hS hl)
theorem n_bipush (C : Cx Θ Γ cc own nL R) {c : Int} (v : Int32) (hd : decode cc pc = .ok (.bipush c, 2)) (hv : (Int8.ofInt c).toInt32 = v) (hn : pc + 2 = n) (kk : Nw Θ Γ n lv (.int v :: st) X l sz cells slots) : Nw Θ Γ pc lv st X l sz cells slots := by
  subst hn
  exact fun H locs ls hz hP hD hS hl => lv_bipush C.ex C.bt hd hv (kk H locs ls hz hP hD hS hl)
theorem n_sipush (C : Cx Θ Γ cc own nL R) {c : Int} (v : Int32) (hd : decode cc pc = .ok (.sipush c, 3)) (hv : (Int16.ofInt c).toInt32 = v) (hn : pc + 3 = n) (kk : Nw Θ Γ n lv (.int v :: st) X l sz cells slots) : Nw Θ Γ pc lv st X l sz cells slots := by
  subst hn
  exact fun H locs ls hz hP hD hS hl => lv_sipush C.ex C.bt hd hv (kk H locs ls hz hP hD hS hl)
theorem n_iload_n (C : Cx Θ Γ cc own nL R) (k : Nat) {q : Fin 4} {i : Nat} {x : Int32} (hd : decode cc pc = .ok (.iload_n q, 1)) (hq : (q : Nat) = i) (hk : lv[k]? = some (i, .int x)) (hn : pc + 1 = n) (kk : Nw Θ Γ n lv (.int x :: st) X l sz cells slots) : Nw Θ Γ pc lv st X l sz cells slots := by
  subst hn
  exact fun H locs ls hz hP hD hS hl => lv_iload_n C.ex C.bt hd hq (lv_at hl k hk) (kk H locs ls hz hP hD hS hl)
theorem n_aload_n (C : Cx Θ Γ cc own nL R) (k : Nat) {q : Fin 4} {i : Nat} {x : Nat} (hd : decode cc pc = .ok (.aload_n q, 1)) (hq : (q : Nat) = i) (hk : lv[k]? = some (i, .ref x)) (hn : pc + 1 = n) (kk : Nw Θ Γ n lv (.ref x :: st) X l sz cells slots) : Nw Θ Γ pc lv st X l sz cells slots := by
  subst hn
  exact fun H locs ls hz hP hD hS hl => lv_aload_n C.ex C.bt hd hq (lv_at hl k hk) (kk H locs ls hz hP hD hS hl)
theorem n_istore_n (C : Cx Θ Γ cc own nL R) {q : Fin 4} {i : Nat} {x : Int32} (lv' : List (Nat × Value)) (hd : decode cc pc = .ok (.istore_n q, 1)) (hq : (q : Nat) = i) (hi : i < nL) (hl' : (i, Value.int x) :: cut1 i lv = lv') (hn : pc + 1 = n) (kk : Nw Θ Γ n lv' st X l sz cells slots) : Nw Θ Γ pc lv (.int x :: st) X l sz cells slots := by
  subst hn
  exact fun H locs ls hz hP hD hS hl => lv_istore_n C.ex C.bt hd hq hl (by rw [C.nl]; exact hi) hl' (fun ls' hl2 => kk H locs ls' hz hP hD hS hl2)
theorem n_astore_n (C : Cx Θ Γ cc own nL R) {q : Fin 4} {i : Nat} {x : Nat} (lv' : List (Nat × Value)) (hd : decode cc pc = .ok (.astore_n q, 1)) (hq : (q : Nat) = i) (hi : i < nL) (hl' : (i, Value.ref x) :: cut1 i lv = lv') (hn : pc + 1 = n) (kk : Nw Θ Γ n lv' st X l sz cells slots) : Nw Θ Γ pc lv (.ref x :: st) X l sz cells slots := by
  subst hn
  exact fun H locs ls hz hP hD hS hl => lv_astore_n C.ex C.bt hd hq hl (by rw [C.nl]; exact hi) hl' (fun ls' hl2 => kk H locs ls' hz hP hD hS hl2)
theorem n_iinc (C : Cx Θ Γ cc own nL R) (k : Nat) {i : Nat} {c : Int} {x : Int32} (v : Int32) (lv' : List (Nat × Value)) (hd : decode cc pc = .ok (.iinc i c, 3)) (hk : lv[k]? = some (i, .int x)) (hv : x + Int32.ofInt c = v) (hi : i < nL) (hl' : (i, Value.int v) :: cut1 i lv = lv') (hn : pc + 3 = n) (kk : Nw Θ Γ n lv' st X l sz cells slots) : Nw Θ Γ pc lv st X l sz cells slots := by
  subst hn
  exact fun H locs ls hz hP hD hS hl => lv_iinc C.ex C.bt hd hl hk hv (by rw [C.nl]; exact hi) hl' (fun ls' hl2 => kk H locs ls' hz hP hD hS hl2)
theorem n_dup (C : Cx Θ Γ cc own nL R) {v : Value} (hd : decode cc pc = .ok (.dup, 1)) (hv : v.category = 1) (hn : pc + 1 = n) (kk : Nw Θ Γ n lv (v :: v :: st) X l sz cells slots) : Nw Θ Γ pc lv (v :: st) X l sz cells slots := by
  subst hn
  exact fun H locs ls hz hP hD hS hl => lv_dup C.ex C.bt hd hv (kk H locs ls hz hP hD hS hl)
theorem n_goto (C : Cx Θ Γ cc own nL R) {off : Int} (tgt : Nat) (hd : decode cc pc = .ok (.goto off, 3)) (ht : (pc : Int) + off = (tgt : Int)) (kk : Nw Θ Γ tgt lv st X l sz cells slots) : Nw Θ Γ pc lv st X l sz cells slots :=
  fun H locs ls hz hP hD hS hl => lv_goto C.ex C.bt hd ht (kk H locs ls hz hP hD hS hl)
theorem n_get (C : Cx Θ Γ cc own nL R) {off : Int} {x y : Int32} (tgt : Nat) (hd : decode cc pc = .ok (.if_icmp .ge off, 3)) (ht : (pc : Int) + off = (tgt : Int)) (hx : y ≤ x) (kk : Nw Θ Γ tgt lv st X l sz cells slots) : Nw Θ Γ pc lv (.int y :: .int x :: st) X l sz cells slots :=
  fun H locs ls hz hP hD hS hl => lv_icmp_ge C.ex C.bt hd ht (fun _ => kk H locs ls hz hP hD hS hl) (fun c => absurd hx c)
theorem n_gef (C : Cx Θ Γ cc own nL R) {off : Int} {x y : Int32} (tgt : Nat) (hd : decode cc pc = .ok (.if_icmp .ge off, 3)) (ht : (pc : Int) + off = (tgt : Int)) (hx : ¬ y ≤ x) (hn : pc + 3 = n) (kk : Nw Θ Γ n lv st X l sz cells slots) : Nw Θ Γ pc lv (.int y :: .int x :: st) X l sz cells slots := by
  subst hn
  exact fun H locs ls hz hP hD hS hl => lv_icmp_ge C.ex C.bt hd ht (fun c => absurd c hx) (fun _ => kk H locs ls hz hP hD hS hl)
theorem n_obj (C : Cx Θ Γ cc own nL R) {idx a : Nat} (hl : Cond.methodLink own idx objectInit ∈ WS) (hi : Cond.instanceMethod objectInit ∈ WS) (hc : Cond.code objectInit ⟨#[0xb1]⟩ 1 none ∈ WS) (hd : decode cc pc = .ok (.invokespecial idx, 3)) (hR : 1 ≤ R.frames ∧ (st.map fun v => v.category).sum + 12 ≤ R.locals) (hn : pc + 3 = n) (kk : Nw Θ Γ n lv st X l sz cells slots) : Nw Θ Γ pc lv (.ref a :: st) X l sz cells slots := by
  subst hn
  refine fun H locs ls hz hP hD hS hL => W.objInit C.ex C.bt C.ow (C.ws _ hl) (C.ws _ hi) (C.ws _ hc) rfl (by rw [C.ml, ← C.nl]; exact hL.1) rfl hd (by rw [C.rm]; exact hR.1) (by rw [C.rm]; show 2 * 0 + _ + _ ≤ _; omega) (kk H locs ls hz hP hD hS hL)
theorem n_new (C : Cx Θ Γ cc own nL R) (hB : tB Θ ≤ (cS Γ).heap.size) {k ci N idx : Nat} {Cn : String} {T : u_T} {ty : Nat → FieldType} (kc : KC k ci Cn T N ty) (hcl : Cond.classLink own idx Cn ∈ WS) (hins : Cond.instantiable Cn N ∈ WS) (hini : Cond.initialized Cn ∈ WS) (fs : List Value) (hfs : ∀ j, j < N → defaultValue (ty j) = vp_V fs j) (hc : cells + 1 ≤ R.cells) (hs : slots + N ≤ R.slots) (hd : decode cc pc = .ok (.new idx, 3)) (hn : pc + 3 = n) {z' c' s' : Nat} (hz' : sz + 1 = z') (hc' : cells + 1 = c') (hs' : slots + N = s')
    (l' : va_W) (hl' : l ++ [(sz, .inr (ci, fs))] = l') (kk : Nw Θ Γ n lv (.ref sz :: st) X l' z' c' s') : Nw Θ Γ pc lv st X l sz cells slots := by
  subst hn
  subst hl'
  subst hz'
  subst hc'
  subst hs'
  intro H locs ls hz hP hD hS hL
  subst hz
  have hKn := C.k.1 ci _ kc.2.2.2.1
  refine W.newcK C.ex C.bt C.ow (C.ws _ hcl) (C.ws _ hins) (C.ws _ hini) rfl hd (by rw [C.rm]; exact hc) (by rw [C.rm]; exact hs) hKn.2.1 rfl fun H1 kC hkC e1 z1 o1 => ?_
  have hk : ∀ (k : Nat) (x : Nat × va_E), (X ++ l)[k]? = some x → H1[x.1]? = H[x.1]? := fun k x hx => o1 x.1 ((hP k x hx).lt)
  have hA : tA Θ H.size := Nat.le_trans hB hS.1
  refine kk H1 locs ls z1 ?_ ?_ ⟨Nat.le_trans hS.1 (by omega), fun x h1 h2 => (o1 x (Nat.lt_of_lt_of_le h1 hS.1)).trans (hS.2.1 x h1 h2), hS.2.2⟩ hL
  · rw [← List.append_assoc]
    refine (hP.kept hk).app (fun k x hx => ?_)
    have hz : k < 1 := (List.getElem?_eq_some_iff.mp hx).1
    rw [show k = 0 by omega] at hx
    cases hx
    exact ⟨_, kc.2.2.2.1, (u_born ty C.ws kc.2.2.2.2.1 hKn hkC e1 kc.2.2.2.2.2.1).to hfs⟩
  · rw [← List.append_assoc]
    exact hD.push hP rfl hA
theorem n_newa (C : Cx Θ Γ cc own nL R) (hB : tB Θ ≤ (cS Γ).heap.size) {atype : ArrayType} (t : Nat) (len : Nat) {ty : FieldType} (hty : newarray.typeOf atype = ty) (htt : (tys (tC Θ))[t]? = some (tC Θ t, ty)) (hra : ∀ cA, va_RA (cS Γ) cA ty → (cS Γ).vm.findClass ("[" ++ ty.toString) = some cA) (hac : Cond.arrayClass ty ∈ WS) (ha : ∀ cA : ClassId, vp_cell cA (len, .inl (fun _ => 0)) = arrV cA len (fun _ => defaultValue ty)) {v : Int32} (hv : ¬ v < 0) (hl : v.toNatClampNeg = len) (hby : len * componentBytes ty ≤ 536870912) (hc : cells + 1 ≤ R.cells) (hs : slots + len ≤ R.slots) (hd : decode cc pc = .ok (.newarray atype, 2)) (hn : pc + 2 = n) {z' c' s' : Nat} (hz' : sz + 1 = z') (hc' : cells + 1 = c') (hs' : slots + len = s')
    (l' : va_W) (hl' : l ++ [(sz, .inl (tC Θ t, len, .inl (fun _ => 0)))] = l') (kk : Nw Θ Γ n lv (.ref sz :: st) X l' z' c' s') : Nw Θ Γ pc lv (.int v :: st) X l sz cells slots := by
  subst hn
  subst hl'
  subst hz'
  subst hc'
  subst hs'
  subst hty
  intro H locs ls hz hP hD hS hL
  subst hz
  refine va_newaK C.ex C.bt (C.ws _ hac) rfl hd rfl hv hl hby (by rw [C.rm]; exact hc) (by rw [C.rm]; exact hs) rfl fun H1 cA e1 z1 o1 hAr hNm => ?_
  have hcA : cA = tC Θ t := Option.some.inj (hNm.symm.trans (hra _ (C.k.2 t _ htt).2))
  subst hcA
  have hk : ∀ (k : Nat) (x : Nat × va_E), (X ++ l)[k]? = some x → H1[x.1]? = H[x.1]? := fun k x hx => o1 x.1 ((hP k x hx).lt)
  have hA : tA Θ H.size := Nat.le_trans hB hS.1
  refine kk H1 locs ls z1 ?_ ?_ ⟨Nat.le_trans hS.1 (by omega), fun x h1 h2 => (o1 x (Nat.lt_of_lt_of_le h1 hS.1)).trans (hS.2.1 x h1 h2), hS.2.2⟩ hL
  · rw [← List.append_assoc]
    refine (hP.kept hk).app (fun k x hx => ?_)
    have hz : k < 1 := (List.getElem?_eq_some_iff.mp hx).1
    rw [show k = 0 by omega] at hx
    cases hx
    show H1[H.size]? = some (vp_cell _ _)
    rw [ha]
    exact e1
  · rw [← List.append_assoc]
    exact hD.push hP rfl hA
theorem n_newq (C : Cx Θ Γ cc own nL R) (hB : tB Θ ≤ (cS Γ).heap.size) (t : Nat) (len : Nat) {E : String} {idx : Nat} (htt : (tys (tC Θ))[t]? = some (tC Θ t, .object E)) (hcl : Cond.classLink own idx E ∈ WS) (hao : E ∈ [RX1, RX2, RX3, RX5]) {v : Int32} (hv : ¬ v < 0) (hl : v.toNatClampNeg = len) (hby : len * 4 ≤ 536870912) (hc : cells + 1 ≤ R.cells) (hs : slots + len ≤ R.slots) (hd : decode cc pc = .ok (.anewarray idx, 3)) (hn : pc + 3 = n) {z' c' s' : Nat} (hz' : sz + 1 = z') (hc' : cells + 1 = c') (hs' : slots + len = s')
    (l' : va_W) (hl' : l ++ [(sz, .inl (tC Θ t, len, .inr (.inr (.inr (.inr (fun _ => none))))))] = l') (kk : Nw Θ Γ n lv (.ref sz :: st) X l' z' c' s') : Nw Θ Γ pc lv (.int v :: st) X l sz cells slots := by
  subst hn
  subst hl'
  subst hz'
  subst hc'
  subst hs'
  subst hl
  intro H locs ls hz hP hD hS hL
  subst hz
  refine W.anew C.ex C.bt C.ow (C.ws _ hcl) (va_AO.use (C.sx.2.2.2.2.2 E hao)) rfl hd rfl hv hby (by rw [C.rm]; exact hc) (by rw [C.rm]; exact hs) fun cA kA comp f1 f2 f3 f4 => ?_
  obtain ⟨kA', comp', -, -, -, g4⟩ := (C.k.2 t _ htt).2
  have hcA : cA = tC Θ t := Option.some.inj (f1.symm.trans g4)
  subst hcA
  generalize hH1 : H.push ({ cls := tC Θ t, slots := Array.replicate v.toNatClampNeg .null, vm := .none } : Cell) = H1
  have z1 : H1.size = H.size + 1 := by rw [← hH1, Array.size_push]
  have e1 : H1[H.size]? = some (arrV (tC Θ t) v.toNatClampNeg (fun _ => .null)) := by rw [← hH1, Array.getElem?_push_size, ← arrV_new]
  have o1 : ∀ q : Nat, q < H.size → H1[q]? = H[q]? := fun q hq => by rw [← hH1, Array.getElem?_push, if_neg (Nat.ne_of_lt hq)]
  have hk : ∀ (k : Nat) (x : Nat × va_E), (X ++ l)[k]? = some x → H1[x.1]? = H[x.1]? := fun k x hx => o1 x.1 ((hP k x hx).lt)
  have hA : tA Θ H.size := Nat.le_trans hB hS.1
  refine kk H1 locs ls z1 ?_ ?_ ⟨Nat.le_trans hS.1 (by omega), fun x h1 h2 => (o1 x (Nat.lt_of_lt_of_le h1 hS.1)).trans (hS.2.1 x h1 h2), hS.2.2⟩ hL
  · rw [← List.append_assoc]
    refine (hP.kept hk).app (fun k x hx => ?_)
    have hz : k < 1 := (List.getElem?_eq_some_iff.mp hx).1
    rw [show k = 0 by omega] at hx
    cases hx
    show H1[H.size]? = some (vp_cell _ _)
    rw [vp_cell_q]
    exact e1
  · rw [← List.append_assoc]
    exact hD.push hP rfl hA
/-- a field is written: a final one in the constructor of its own class -/
theorem n_putF (C : Cx Θ Γ cc own nL R) (hN : (cT Γ).name = "<init>") {k j ci N idx a : Nat} {Cn : String} {T : u_T} {ty : Nat → FieldType} {fs : List Value} {v : Value} (i : Nat) (l' : va_W) (kc : KC k ci Cn T N ty) (hCo : Cn = own) (he : l[i]? = some (a, .inr (ci, fs))) (hlen : fs.length = N) (hj : j < N) (hf : (T j).2.2.2 = true) (hw : narrow (ty j) v = v ∧ fits (ty j) v = true) (hl : Cond.fieldLink own idx Cn (T j).2.1 (T j).2.2.1 ∈ WS) (hd : decode cc pc = .ok (.putfield idx, 3)) (hn : pc + 3 = n) (hl' : l.set i (a, .inr (ci, fs.set j v)) = l') (kk : Nw Θ Γ n lv st X l' sz cells slots) : Nw Θ Γ pc lv (v :: .ref a :: st) X l sz cells slots := by
  subst hn
  subst hl'
  intro H locs ls hz hP hD hS0 hL
  have hwe : (X ++ l)[X.length + i]? = some (a, .inr (ci, fs)) := ap_get.trans he
  have hc := kc.2.2.2.1
  have hap := va_apart (own := own) C.ws kc.2.2.2.2.1 ty kc.2.2.2.2.2.1 kc.2.2.2.2.2.2.1 C.k hc
  obtain ⟨r, h1, cell, q1, q2, q3, q4⟩ := hP (X.length + i) _ hwe
  have hr : r = (Cn, T, N) := Option.some.inj (h1.symm.trans hc)
  subst hr
  obtain ⟨hS, hfc, kC, hkC, hkind⟩ := C.k.1 ci _ hc
  obtain ⟨cf, kf, fi, f, hi, hsl⟩ := hS j hj
  have hlay := C.ws _ (kc.2.2.2.2.1 _ (u_in_lay hj))
  unfold u_lay at hlay
  rw [if_pos hf] at hlay
  have hst := (u_facts hfc hkC (u_lays C.ws kc.2.2.2.2.1 hj) hi).1
  have hTd : (T j).1 = Cn := kc.2.2.2.2.2.2.2 j hj
  have hcf : (cM Γ).cls = cf := by
    obtain ⟨_, _, c', _, _, _, -, -, hf', -, -, -, hown2, -⟩ := Cond.laysFinal_spec hlay
    have e1 : c' = cf := by have := hi.symm.trans hf'; simp at this; exact this.1.symm
    rw [hTd, hCo] at hown2
    rw [← e1]; exact Option.some.inj (C.ow.symm.trans hown2)
  have h6 := u_fits hfc hkC hkind (Or.inr hlay) hi (kc.2.2.2.2.2.1 j hj) hw.1 hw.2
  have hi2 := hi
  rw [hTd] at hi2
  refine W.putFinK C.ex C.bt C.ow (C.ws _ hl) hi2 hst hcf hN (by rw [q2]; exact h6) q1 q3 (by rw [hsl]; exact k2_hasslot (q4 j hj)) rfl rfl hd fun H' e1 e2 e3 => ?_
  rw [hsl] at e1 ⊢
  have hP1 := hP.set hD hwe (e := .inr (ci, fs.set j v)) ⟨_, hc, t_OB.to (V := updV (vp_V fs) j v) ⟨_, e1, q2, q3, t_set q4 hap hj v⟩ (fun j' _ => vp_updV_set (by rw [hlen]; exact hj) v j')⟩ e3
  have hD1 := hD.set (e := .inr (ci, fs.set j v)) hwe
  rw [ap_set] at hP1 hD1
  exact kk H' _ ls (e2.trans hz) hP1 hD1 (hS0.put e2 e3 (hD.2 _ _ hwe)) hL
theorem n_put (C : Cx Θ Γ cc own nL R) {k j ci N idx a : Nat} {Cn : String} {T : u_T} {ty : Nat → FieldType} {fs : List Value} {v : Value} (i : Nat) (l' : va_W) (kc : KC k ci Cn T N ty) (he : l[i]? = some (a, .inr (ci, fs))) (hlen : fs.length = N) (hj : j < N) (hf : (T j).2.2.2 = false) (hw : narrow (ty j) v = v ∧ fits (ty j) v = true) (hl : Cond.fieldLink own idx Cn (T j).2.1 (T j).2.2.1 ∈ WS) (hd : decode cc pc = .ok (.putfield idx, 3)) (hn : pc + 3 = n) (hl' : l.set i (a, .inr (ci, fs.set j v)) = l') (kk : Nw Θ Γ n lv st X l' sz cells slots) : Nw Θ Γ pc lv (v :: .ref a :: st) X l sz cells slots := by
  subst hn
  subst hl'
  intro H locs ls hz hP hD hS0 hL
  have hwe : (X ++ l)[X.length + i]? = some (a, .inr (ci, fs)) := ap_get.trans he
  have hc := kc.2.2.2.1
  have hap := va_apart (own := own) C.ws kc.2.2.2.2.1 ty kc.2.2.2.2.2.1 kc.2.2.2.2.2.2.1 C.k hc
  obtain ⟨r, h1, cell, q1, q2, q3, q4⟩ := hP (X.length + i) _ hwe
  have hr : r = (Cn, T, N) := Option.some.inj (h1.symm.trans hc)
  subst hr
  obtain ⟨hS, hfc, kC, hkC, hkind⟩ := C.k.1 ci _ hc
  obtain ⟨cf, kf, fi, f, hi, hsl⟩ := hS j hj
  have hlay := C.ws _ (kc.2.2.2.2.1 _ (u_in_lay hj))
  unfold u_lay at hlay
  rw [if_neg (by rw [hf]; decide)] at hlay
  have hst := (u_facts hfc hkC (u_lays C.ws kc.2.2.2.2.1 hj) hi).1
  have h6 := u_store hfc hkC hkind hlay hi (kc.2.2.2.2.2.1 j hj) hw.1 hw.2
  have hTd : (T j).1 = Cn := kc.2.2.2.2.2.2.2 j hj
  have hi2 := hi
  rw [hTd] at hi2
  refine W.putK C.ex C.bt (f := f) ⟨C.ow, C.ws _ hl, ⟨_, _, _, hi2⟩, hst⟩ (by rw [q2]; exact h6) q1 q3 (by rw [hsl]; exact k2_hasslot (q4 j hj)) rfl rfl hd fun H' e1 e2 e3 => ?_
  rw [hsl] at e1 ⊢
  have hP1 := hP.set hD hwe (e := .inr (ci, fs.set j v)) ⟨_, hc, t_OB.to (V := updV (vp_V fs) j v) ⟨_, e1, q2, q3, t_set q4 hap hj v⟩ (fun j' _ => vp_updV_set (by rw [hlen]; exact hj) v j')⟩ e3
  have hD1 := hD.set (e := .inr (ci, fs.set j v)) hwe
  rw [ap_set] at hP1 hD1
  exact kk H' _ ls (e2.trans hz) hP1 hD1 (hS0.put e2 e3 (hD.2 _ _ hwe)) hL
theorem n_getf (C : Cx Θ Γ cc own nL R) {k j ci N idx a : Nat} {Cn : String} {T : u_T} {ty : Nat → FieldType} {fs : List Value} (v : Value) (i : Nat) (kc : KC k ci Cn T N ty) (he : l[i]? = some (a, .inr (ci, fs))) (hj : j < N) (hv : fs[j]? = some v) (hl : Cond.fieldLink own idx Cn (T j).2.1 (T j).2.2.1 ∈ WS) (hd : decode cc pc = .ok (.getfield idx, 3)) (hn : pc + 3 = n) (kk : Nw Θ Γ n lv (v :: st) X l sz cells slots) : Nw Θ Γ pc lv (.ref a :: st) X l sz cells slots := by
  subst hn
  intro H locs ls hz hP hD hS hL
  exact va_get C.ex C.bt C.ws kc.2.2.2.2.1 C.ow C.k hP (X.length + i) (ap_get.trans he) kc.2.2.2.1 j hj (C.ws _ hl) (fun x hx => by rw [kc.2.2.2.2.2.2.2 j hj] at hx; exact hx) hv hd (kk H locs ls hz hP hD hS hL)
theorem n_aast (C : Cx Θ Γ cc own nL R) {t len ci a q N k : Nat} {Cn : String} {T : u_T} {ty : Nat → FieldType} {f : Nat → Option Nat} {fs : List Value} {x : Int32} (i iv m : Nat) (l' : va_W) (kc : KC k ci Cn T N ty) (ha : l[i]? = some (a, .inl (tC Θ t, len, .inr (.inr (.inr (.inr f)))))) (htt : (tys (tC Θ))[t]? = some (tC Θ t, .object Cn)) (hv : l[iv]? = some (q, .inr (ci, fs))) (hin : inb x len) (hx : x.toNatClampNeg = m) (hd : decode cc pc = .ok (.aastore, 1)) (hn : pc + 1 = n) (hl' : l.set i (a, .inl (tC Θ t, len, .inr (.inr (.inr (.inr (va_up f m (some q))))))) = l') (kk : Nw Θ Γ n lv st X l' sz cells slots) : Nw Θ Γ pc lv (.ref q :: .int x :: .ref a :: st) X l sz cells slots := by
  subst hn
  subst hl'
  subst hx
  intro H locs ls hz hP hD hS hL
  have hwa : (X ++ l)[X.length + i]? = some (a, .inl (tC Θ t, len, .inr (.inr (.inr (.inr f))))) := ap_get.trans ha
  have hwv : (X ++ l)[X.length + iv]? = some (q, .inr (ci, fs)) := ap_get.trans hv
  have hlt : x.toNatClampNeg < len := Nat.not_le.mp fun q => hin (Or.inr q)
  have h0 : ¬ x < 0 := fun q => hin (Or.inl q)
  obtain ⟨r', hr', cellV, g1, g2, g3, -⟩ := hP _ _ hwv
  have hcls := (C.k.1 ci _ kc.2.2.2.1).2
  obtain ⟨kA, comp, k1, k2, k3, -⟩ := (C.k.2 t _ htt).2
  have hcomp : comp = (tD Θ).1 ci := Option.some.inj (k3.symm.trans hcls.1)
  subst hcomp
  obtain ⟨kC, hkC, -⟩ := hcls.2
  refine W.aast C.ex C.bt (hP _ _ hwa) (fun q h => by cases h) (fun h => by cases h) k1 k2 rfl hkC ⟨h0, by show _ < (arrV _ _ _).slots.size; rw [arrV_size]; exact hlt⟩ g1 (fun q h => by rw [g3] at h; cases h) (by rw [g2]; exact hkC) (by rw [g2]; exact va_assign hcls) rfl rfl hd fun H1 e z oq => ?_
  have hat : va_at (tD Θ) vwCl (a, .inl (tC Θ t, len, .inr (.inr (.inr (.inr (va_up f x.toNatClampNeg (some q))))))) H1 := by
    show H1[a]? = some (vp_cell _ _)
    rw [e]
    rw [vp_cell_q, vp_cell_q, arrV_store]
    congr 2
    funext q
    by_cases hq : q = x.toNatClampNeg
    · subst hq
      simp [updV, va_up, va_rf]
    · simp [updV, va_up, hq]
  have hP1 := hP.set hD hwa hat oq
  have hD1 := hD.set (e := .inl (tC Θ t, len, .inr (.inr (.inr (.inr (va_up f x.toNatClampNeg (some q))))))) hwa
  rw [ap_set] at hP1 hD1
  exact kk H1 _ ls (z.trans hz) hP1 hD1 (hS.put z oq (hD.2 _ _ hwa)) hL
/-- a constructor is called on the last cell -/
theorem n_call (C : Cx Θ Γ cc own nL R) (hB : tB Θ ≤ (cS Γ).heap.size) {y : MethodName} {cc' : ByteArray} {n' idx q mc ms sz' : Nat} {rm' : Room} {e0 : Nat × va_E} {cs : va_W} (l0 : va_W) (l' : va_W) (hM : CN Θ y cc' n' rm' [.ref q] ((X ++ l0) ++ [e0]) sz ((X ++ l0) ++ cs) sz' mc ms) (hl : Cond.methodLink own idx y ∈ WS) (hin : Cond.instanceMethod y ∈ WS) (hini : Cond.initialized y.cls ∈ WS) (hcd : Cond.code y cc' n' none ∈ WS) (hdc : y.cls ≠ "java/lang/invoke/MethodHandle" ∧ y.cls ≠ "java/lang/invoke/VarHandle" ∧ (parseMethodDescriptor y.desc).map (fun d => d.parameters.length) = some 0) (hy1 : y.name = "<init>") (hrc : rm'.cells = mc ∧ rm'.slots = ms) (hR : rm'.frames + 1 ≤ R.frames ∧ 8 + (n' + 11) + rm'.locals ≤ R.locals) (hce : cells + mc ≤ R.cells) (hsl : slots + ms ≤ R.slots) (hd : decode cc pc = .ok (.invokespecial idx, 3)) (hw : (st.map fun v => v.category).sum ≤ 8) (hn : pc + 3 = n) (hl0 : l = l0 ++ [e0]) (hl' : l0 ++ cs = l') {c' s' : Nat} (hc' : cells + mc = c') (hs' : slots + ms = s') (kk : Nw Θ Γ n lv st X l' sz' c' s') : Nw Θ Γ pc lv (.ref q :: st) X l sz cells slots := by
  subst hn
  subst hc'
  subst hs'
  subst hl0
  subst hl'
  intro H locs ls hz hP hD hS hL
  subst hz
  have ht : ∀ w ∈ (Cond.code y cc' n' none :: WS), w.before (cA Γ) (cS Γ) = true := fun w hw => (List.mem_cons.mp hw).elim (fun e => by rw [e]; exact C.ws _ hcd) (C.ws w)
  have cb : CallB (cR Γ) (cS Γ) (cA Γ) own idx y cc' n' none (.code y cc' n' none :: WS) rm' mc ms 0 := callB_of 0 ht (gin hcd) rfl hrc.1 hrc.2 (C.ws _ hini) (C.ws _ hl) hdc (by rw [C.rm]; exact hR)
  have hpre : PreS (cS Γ) H (va_Pc [.ref q] (Pn Θ ((X ++ l0) ++ [e0]) H.size)) [.ref q] := ⟨Pn.blind, fun U hU hW => ⟨rfl, by rw [hU], Nat.le_trans hB hS.1, by rw [hU, List.append_assoc]; exact hP, by rw [List.append_assoc]; exact hD, va_K.moved hW.alike C.k, C.sx.go hS hU hW⟩⟩
  have hr := va_runI (H := H) (locs := locs) (cells := cells) (slots := slots) (e := cE Γ) (below := cF Γ) (meth := cT Γ) (g := F0 (cM Γ) pc ls (.ref q :: st)) (b := q) (As := []) (rest := st) (cx_fix C) hM ⟨cb, hy1, C.ws _ hin⟩ hpre rfl rfl (by rw [← C.nl]; exact hL.1) rfl (lv_room hw) hd ⟨by rw [C.rm]; exact hce, by rw [C.rm]; exact hsl⟩
  refine va_callv hr hS (fun q _ hq => hq) (fun q hq => hq) (fun u t H1 locs1 ht hvm hp hB2 hz1 hk1 hS1 => ?_)
  obtain ⟨b1, b2, b3, b4, b5, b6⟩ := hB2
  rw [ht] at b1 b3
  rw [List.append_assoc] at b3 b4
  exact kk H1 locs1 ls b1 b3 b4 hS1 hL
/-- the same, a nest mate's private one -/
theorem n_callN (C : Cx Θ Γ cc own nL R) (hB : tB Θ ≤ (cS Γ).heap.size) {y : MethodName} {cc' : ByteArray} {n' idx q mc ms sz' : Nat} {rm' : Room} {e0 : Nat × va_E} {cs : va_W} (l0 : va_W) (l' : va_W) (hM : CN Θ y cc' n' rm' [.ref q] ((X ++ l0) ++ [e0]) sz ((X ++ l0) ++ cs) sz' mc ms) (hl : (own, idx, y) ∈ NW) (hin : Cond.instanceMethod y ∈ WS) (hini : Cond.initialized y.cls ∈ WS) (hcd : Cond.code y cc' n' none ∈ WS) (hdc : y.cls ≠ "java/lang/invoke/MethodHandle" ∧ y.cls ≠ "java/lang/invoke/VarHandle" ∧ (parseMethodDescriptor y.desc).map (fun d => d.parameters.length) = some 0) (hy1 : y.name = "<init>") (hrc : rm'.cells = mc ∧ rm'.slots = ms) (hR : rm'.frames + 1 ≤ R.frames ∧ 8 + (n' + 11) + rm'.locals ≤ R.locals) (hce : cells + mc ≤ R.cells) (hsl : slots + ms ≤ R.slots) (hd : decode cc pc = .ok (.invokespecial idx, 3)) (hw : (st.map fun v => v.category).sum ≤ 8) (hn : pc + 3 = n) (hl0 : l = l0 ++ [e0]) (hl' : l0 ++ cs = l') {c' s' : Nat} (hc' : cells + mc = c') (hs' : slots + ms = s') (kk : Nw Θ Γ n lv st X l' sz' c' s') : Nw Θ Γ pc lv (.ref q :: st) X l sz cells slots := by
  subst hn
  subst hc'
  subst hs'
  subst hl0
  subst hl'
  intro H locs ls hz hP hD hS hL
  subst hz
  have ht : ∀ w ∈ (Cond.code y cc' n' none :: WS), w.before (cA Γ) (cS Γ) = true := fun w hw => (List.mem_cons.mp hw).elim (fun e => by rw [e]; exact C.ws _ hcd) (C.ws w)
  have cb : va_CN (cR Γ) (cS Γ) (cA Γ) own idx y RX9 cc' n' none (.code y cc' n' none :: WS) rm' mc ms 0 := va_cnB 0 ht (gin hcd) rfl hrc.1 hrc.2 (C.sx.2.2.2.2.1 _ hl) (C.ws _ hini) hdc (by rw [C.rm]; exact hR)
  have hpre : PreS (cS Γ) H (va_Pc [.ref q] (Pn Θ ((X ++ l0) ++ [e0]) H.size)) [.ref q] := ⟨Pn.blind, fun U hU hW => ⟨rfl, by rw [hU], Nat.le_trans hB hS.1, by rw [hU, List.append_assoc]; exact hP, by rw [List.append_assoc]; exact hD, va_K.moved hW.alike C.k, C.sx.go hS hU hW⟩⟩
  have hr := va_runIN (H := H) (locs := locs) (cells := cells) (slots := slots) (e := cE Γ) (below := cF Γ) (meth := cT Γ) (g := F0 (cM Γ) pc ls (.ref q :: st)) (b := q) (As := []) (rest := st) (cx_fix C) hM ⟨cb, hy1, C.ws _ hin⟩ hpre rfl rfl (by rw [← C.nl]; exact hL.1) rfl (lv_room hw) hd ⟨by rw [C.rm]; exact hce, by rw [C.rm]; exact hsl⟩
  refine va_callv hr hS (fun q _ hq => hq) (fun q hq => hq) (fun u t H1 locs1 ht hvm hp hB2 hz1 hk1 hS1 => ?_)
  obtain ⟨b1, b2, b3, b4, b5, b6⟩ := hB2
  rw [ht] at b1 b3
  rw [List.append_assoc] at b3 b4
  exact kk H1 locs1 ls b1 b3 b4 hS1 hL
/-- a constructor's entry and return -/
theorem CN.of {y : MethodName} {rm : Room} {av : List Value} {sz' mc ms : Nat} {ws' : va_W} (lv : List (Nat × Value)) (hy : plainFor y = true) (hy1 : y.name = "<init>") (hl : (lg_sl av).length ≤ nL) (hlv : lv_args 0 av = lv) (hszs : sz ≤ sz') (hrc : rm.cells = mc ∧ rm.slots = ms)
    (body : ∀ Γ, Cx Θ Γ cc y.cls nL rm → tB Θ ≤ (cS Γ).heap.size → (cT Γ).name = "<init>" → (∀ (pc : Nat) (lv : List (Nat × Value)) (l' : va_W), X ++ l' = ws' → decode cc pc = .ok (.return_, 1) → Nw Θ Γ pc lv [] X l' sz' mc ms) → Nw Θ Γ 0 lv [] X l sz 0 0) : CN Θ y cc nL rm av (X ++ l) sz ws' sz' mc ms := by
  refine Met.ofWF (cc := cc) (maxL := nL) (ret := none) hy rfl ?_
  intro p e s m args below meth c s₁ B hml hv
  have hts := atoms_spec (ws := .code y cc nL none :: WS) B.pre
  have hlocks := B.notSynchronized
  obtain ⟨rfl, hz, hb, hP, hD, hK, hX⟩ := hv
  have C : Cx Θ (p, e, rm, s, m, av.toArray, below, meth, c, nL, mc, ms, MQ below (va_Qv (fun _ : Unit => True) (fun _ t => Pn Θ ws' sz' t) (tA Θ)) av.toArray s mc ms (tA Θ)) cc y.cls nL rm := ⟨B.exec, B.bytes, hml, rfl, findClass_of_methodNamed B.named, fun w hw => hts w (List.mem_cons_of_mem _ hw), hK, hX, rfl, Nat.le_of_eq hrc.1.symm, Nat.le_of_eq hrc.2.symm⟩
  rw [lg_entry_eq]
  refine body _ C (by rw [← hz] at hb; exact hb) ((name_of_methodNamed B.named B.method).1.trans hy1) (fun pc lv l' hw hd H locs ls hz' hP' hD' hS' hL' => ?_) s.heap [] _ hz hP hD va_S.rf (by rw [← hlv]; exact lv_entry av hl)
  rw [hw] at hP' hD'
  exact W.vret B.exec B.bytes B.returns (fun t ht hW => ⟨⟨(), rfl, trivial, by rw [ht]; exact hz', Nat.le_trans hb hszs, by rw [ht]; exact hP', hD', va_K.moved hW.alike hK, hX.go hS' ht hW⟩, hS'.F ht⟩) hS'.2.2 hd hlocks
end NR
