/-! THE CLAIM OUT OF ONE WALK OF THE LAW'S BODY. Your part is whole_start (and what it stands on); all else here is the same for every law, but numbers. -/
def R_law : String := "CrabMintLaw"
def lw_P (b : Addr) (xs : List Int32) (args : Array Value) (s : State) : Prop := args = #[.ref b] ∧ s.IntsAt b xs ∧ xs.length ≤ 320 ∧ (Jvm.Cond.and given_1 narrow_1).before args s = true
def lw_Q (_ : Array Value) (s : State) (o : Outcome) (t : State) : Prop := o = .returned (some (.int 1)) ∧ Framed s o t [] 600000 7302250
def lw_Z (below : List Frame) (a : Array Value) (s : State) : State → Prop := fun t => ∃ o, t.status = .running ∧ Ended t below o ∧ lw_Q a s o t
/-- the law's own end, with 1 on the stack, nothing written that was there before, its room as the claim has it -/
theorem lw_ret {p : Program} {l : Launch} {e : Env} {s : State} {m : MethodId} {below : List Frame} {meth : Method} {c : Code} {b : Nat} (hx : p.tables.exec = Jvm.exec) (hb : c.code = code) (hr : meth.sig.returnType = ret) (hlocks : meth.locks = false) {pc : Nat} {H : Heap} {ls : Array Slot} (hdg : decode code pc = .ok (.ireturn, 1)) : W p l e room_1 s m #[Value.ref b] below meth c H [] 600000 7302250 (lw_Z below #[Value.ref b] s) (F0 m pc ls [.int 1]) := by
  intro T hT X
  obtain ⟨fs, hret, hrun, hended, hW, hframe⟩ := X.leave (v := some (.int 1)) (hlocks := hlocks) (fun h => by rw [hr] at h; cases h)
  have hmeth' : T.vm.method? m = some meth := X.method'
  refine ⟨T.setFrames fs, ?_, .returned (some (.int 1)), hrun, hended, rfl, ⟨_, rfl⟩, hW, hframe⟩
  jvm_step X.here [X.here.top, hx, hb, hdg, hmeth', hr, ret, narrow_b1]
  (try refine ⟨rfl, ?_⟩); (try refine ⟨rfl, ?_⟩)
  first | (intro acts; rw [hret _ acts rfl rfl rfl]) | rw [hret _ _ rfl rfl rfl]
  exact Steps.refl _
/-- what holds at the law's entry: the machine, the code, the tables' words (any of lw_tbl by 'hts w (by decide +kernel)'), the script of L ints xs at the cell b, what the Statement gives of the start (any of its parts by flat_of_before) -/
def lw_At (p : Program) (s : State) (m : MethodId) (meth : Method) (c : Code) (b L : Nat) (xs : Nat → Int32) : Prop :=
  p.tables.exec = Jvm.exec ∧ c.code = code ∧ meth.sig.returnType = ret ∧ c.maxLocals = 4 ∧ s.vm.findClass R_law = some m.cls ∧ (∀ w ∈ lw_tbl, w.before #[Value.ref b] s = true) ∧ va_X b L xs s s.heap ∧ b < s.heap.size ∧ meth.locks = false ∧ (Jvm.Cond.and given_1 narrow_1).before #[Value.ref b] s = true
section St
variable {Θ : Tht} {Γ : Ctx} {cc : ByteArray} {own : String} {nL : Nat} {R : Room} {pc n : Nat} {lv : List (Nat × Value)} {st : List Value} {X l : va_W} {sz cells slots : Nat}
/-- the reference's constructor is called on the last cell: from there on the world is that of a Mem -/
theorem n_callM (C : Cx Θ Γ cc own nL R) (hB : tB Θ ≤ (cS Γ).heap.size) {y : MethodName} {cc' : ByteArray} {n' idx q mc ms : Nat} {rm' : Room} {e0 : Nat × va_E} {K : Mem → Prop} (l0 : va_W) (hM : Met (tL Θ) y (.code y cc' n' none :: WS) rm' (va_Pc [.ref q] (Pn Θ ((X ++ l0) ++ [e0]) sz)) (va_Qv (fun h' => K h') (Wd Θ) (tA Θ)) mc ms (tA Θ)) (hl : Cond.methodLink own idx y ∈ WS) (hin : Cond.instanceMethod y ∈ WS) (hini : Cond.initialized y.cls ∈ WS) (hcd : Cond.code y cc' n' none ∈ WS) (hdc : y.cls ≠ "java/lang/invoke/MethodHandle" ∧ y.cls ≠ "java/lang/invoke/VarHandle" ∧ (parseMethodDescriptor y.desc).map (fun d => d.parameters.length) = some 0) (hy1 : y.name = "<init>") (hrc : rm'.cells = mc ∧ rm'.slots = ms) (hR : rm'.frames + 1 ≤ R.frames ∧ 8 + (n' + 11) + rm'.locals ≤ R.locals) (hce : cells + mc ≤ R.cells) (hsl : slots + ms ≤ R.slots) (hd : decode cc pc = .ok (.invokespecial idx, 3)) (hw : (st.map fun v => v.category).sum ≤ 8) (hn : pc + 3 = n) (hl0 : l = l0 ++ [e0]) (hU : cells + mc = cU Γ) (hV : slots + ms = cV Γ) (kk : ∀ h', K h' → G Θ Γ n lv st h') : Nw Θ Γ pc lv (.ref q :: st) X l sz cells slots := by
  subst hn
  subst hl0
  intro H locs ls hz hP hD hS hL
  subst hz
  have ht : ∀ w ∈ (Cond.code y cc' n' none :: WS), w.before (cA Γ) (cS Γ) = true := fun w hw => (List.mem_cons.mp hw).elim (fun e => by rw [e]; exact C.ws _ hcd) (C.ws w)
  have cb : CallB (cR Γ) (cS Γ) (cA Γ) own idx y cc' n' none (.code y cc' n' none :: WS) rm' mc ms 0 := callB_of 0 ht (gin hcd) rfl hrc.1 hrc.2 (C.ws _ hini) (C.ws _ hl) hdc (by rw [C.rm]; exact hR)
  have hpre : PreS (cS Γ) H (va_Pc [.ref q] (Pn Θ ((X ++ l0) ++ [e0]) H.size)) [.ref q] := ⟨Pn.blind, fun U hU hW => ⟨rfl, by rw [hU], Nat.le_trans hB hS.1, by rw [hU, List.append_assoc]; exact hP, by rw [List.append_assoc]; exact hD, va_K.moved hW.alike C.k, C.sx.go hS hU hW⟩⟩
  have hr := va_runI (H := H) (locs := locs) (cells := cells) (slots := slots) (e := cE Γ) (below := cF Γ) (meth := cT Γ) (g := F0 (cM Γ) pc ls (.ref q :: st)) (b := q) (As := []) (rest := st) (cx_fix C) hM ⟨cb, hy1, C.ws _ hin⟩ hpre rfl rfl (by rw [← C.nl]; exact hL.1) rfl (lv_room hw) hd ⟨by rw [C.rm]; exact hce, by rw [C.rm]; exact hsl⟩
  refine va_callv hr hS (fun q _ hq => hq) (fun q hq => hq) (fun u t H1 locs1 ht hvm hp hB2 hz1 hk1 hS1 => ?_)
  rw [hU, hV, ← ht]
  rw [← ht] at hS1
  exact kk u hp _ _ ls hB2.1 hS1 hL
end St
def NC : Cond := Jvm.Cond.and given_1 narrow_1
def sTm (i : Nat) : Term := Term.string "CrabMint$Teller" (sIx i)
theorem sx_a : ∀ i, i < 8 → Cond.exactly (sTm i) "java/lang/String" ∈ flatC NC := by decide +kernel
theorem sx_b : ∀ i, i < 8 → Cond.eq (.field (sTm i) "java/lang/String" "coder" "B") (.int 0) ∈ flatC NC := by decide +kernel
theorem sx_c : ∀ i, i < 8 → Cond.arrayOf (.field (sTm i) "java/lang/String" "value" "[B") .byte ∈ flatC NC := by decide +kernel
theorem sx_d : ∀ i, i < 8 → Cond.eq (.length (.field (sTm i) "java/lang/String" "value" "[B")) (.int (Int32.ofNat (sLen.getD i 0))) ∈ flatC NC := by decide +kernel
theorem sx_e0 : (List.range 8).all (fun i => (List.range (sLen.getD i 0)).all (fun j => decide (Cond.eq (.elem (.field (sTm i) "java/lang/String" "value" "[B") (.int (Int32.ofNat j))) (.int ((sByt.getD i []).getD j 0)) ∈ flatC NC))) = true := by decide +kernel
theorem sx_e (i : Nat) (hi : i < 8) (j : Nat) (hj : j < sLen.getD i 0) : Cond.eq (.elem (.field (sTm i) "java/lang/String" "value" "[B") (.int (Int32.ofNat j))) (.int ((sByt.getD i []).getD j 0)) ∈ flatC NC := by
  have h1 := List.all_eq_true.mp sx_e0 i (List.mem_range.mpr hi)
  have h2 := List.all_eq_true.mp h1 j (List.mem_range.mpr hj)
  exact of_decide_eq_true h2
theorem sx_f : ∀ i, i < 8 → ∀ j, j < 8 → i ≠ j → (Cond.not (Cond.eq (sTm i) (sTm j)) ∈ flatC NC ∨ Cond.not (Cond.eq (sTm j) (sTm i)) ∈ flatC NC) := by decide +kernel
theorem sx_g : Cond.eq (Term.static "java/lang/String" "COMPACT_STRINGS" "Z") (Term.int 1) ∈ flatC NC ∧ Cond.isRef (Term.static "jdk/internal/util/Preconditions" "SIOOBE_FORMATTER" "Ljava/util/function/BiFunction;") ∈ flatC NC := by decide +kernel
theorem sx_h : ∀ i, i < 8 → Cond.stringRef "CrabMint$Teller" (sIx i) (sTx i) ∈ lw_tbl := by decide +kernel
theorem sx_i : ∀ q ∈ NW, Cond.methodLinkNest q.1 q.2.1 q.2.2 RX9 ∈ lw_tbl := by decide +kernel
theorem sx_j : ∀ C ∈ [RX1, RX2, RX3, RX5], Cond.arrayOver (.object C) ∈ lw_tbl := by decide +kernel
theorem sx_k : Cond.laysStatic "java/lang/String" "COMPACT_STRINGS" "Z" ∈ lw_tbl ∧ Cond.laysStatic "jdk/internal/util/Preconditions" "SIOOBE_FORMATTER" "Ljava/util/function/BiFunction;" ∈ lw_tbl ∧ Cond.initialized "java/lang/String" ∈ lw_tbl ∧ Cond.initialized "jdk/internal/util/Preconditions" ∈ lw_tbl := by decide +kernel
theorem sx_l : Cond.arrayClass .int ∈ lw_tbl ∧ Cond.arrayClass .byte ∈ lw_tbl ∧ Cond.arrayClass .boolean ∈ lw_tbl := by decide +kernel
def insN (k : Nat) : Nat := match k with | 0 => 11 | 1 => 4 | 2 => 5 | 3 => 3 | 4 => 4 | 5 => 3 | 6 => 5 | 7 => 2 | 8 => 10 | 9 => 9 | _ => 34
theorem sx_m : ∀ k, k < 11 → ∀ q ∈ vwCl[k]?, Cond.instantiable q.1 (insN k) ∈ lw_tbl ∧ ∀ w ∈ u_ws q.1 q.2.1 q.2.2, w ∈ lw_tbl := by decide +kernel
