-- answers that may be wanting, and what must hold of them
def Ok {α : Type} (x : Option α) (K : α → Prop) : Prop := ∃ a, x = some a ∧ K a
def bnd {α β : Type} (a : α) (f : α → β) : β := f a
def gd {α : Type} (c : Prop) [Decidable c] (x : Option α) : Option α := if c then x else none
def obd {α β : Type} (x : Option α) (f : α → Option β) : Option β := match x with
  | none => none
  | some a => f a
def ob2 {α β γ : Type} (x : Option (α × β)) (f : α → β → Option γ) : Option γ := match x with
  | none => none
  | some q => f q.1 q.2
def lp {α β : Type} : Nat → (α → Option (α ⊕ β)) → α → Option β
  | 0, _, _ => none
  | n + 1, f, a => match f a with
    | none => none
    | some (.inl a') => lp n f a'
    | some (.inr e) => some e
def fu : Nat := 400
abbrev inb (i : Int32) (n : Nat) : Prop := ¬ (i < 0 ∨ n ≤ i.toNatClampNeg)
def b2i (b : Bool) : Int32 := if b = true then 1 else 0
theorem inb_lt {i : Int32} {n : Nat} (h : inb i n) : i.toNatClampNeg < n := Nat.not_le.mp fun q => h (Or.inr q)
theorem Ok.out {α : Type} {a : α} {K : α → Prop} (h : Ok (some a) K) : K a := by
  obtain ⟨b, h1, h2⟩ := h
  cases h1
  exact h2
theorem Ok.pos {α : Type} {c : Prop} {i : Decidable c} {x y : Option α} {K : α → Prop} (hc : c) (h : Ok (@ite _ c i x y) K) : Ok x K := by rwa [if_pos hc] at h
theorem Ok.neg {α : Type} {c : Prop} {i : Decidable c} {x y : Option α} {K : α → Prop} (hc : ¬ c) (h : Ok (@ite _ c i x y) K) : Ok y K := by rwa [if_neg hc] at h
theorem Ok.gd {α : Type} {c : Prop} {i : Decidable c} {x : Option α} {K : α → Prop} (h : Ok (@gd _ c i x) K) : c ∧ Ok x K := by
  by_cases hc : c
  · exact ⟨hc, by unfold _root_.Jvm.Pilot.@@N@@.gd at h; rwa [if_pos hc] at h⟩
  · unfold _root_.Jvm.Pilot.@@N@@.gd at h
    rw [if_neg hc] at h
    obtain ⟨a, h1, -⟩ := h
    cases h1
theorem Ok.obd {α β : Type} {x : Option α} {f : α → Option β} {K : β → Prop} (h : Ok (obd x f) K) : Ok x (fun a => Ok (f a) K) := by
  cases x with
  | none => obtain ⟨a, h1, -⟩ := h; cases h1
  | some a => exact ⟨a, rfl, h⟩
theorem Ok.ob2 {α β γ : Type} {x : Option (α × β)} {f : α → β → Option γ} {K : γ → Prop} (h : Ok (ob2 x f) K) : Ok x (fun a => Ok (f a.1 a.2) K) := by
  cases x with
  | none => obtain ⟨a, h1, -⟩ := h; cases h1
  | some a => exact ⟨a, rfl, h⟩
theorem Ok.mono {α : Type} {x : Option α} {K K' : α → Prop} (h : Ok x K) (hK : ∀ a, K a → K' a) : Ok x K' := by
  obtain ⟨a, h1, h2⟩ := h
  exact ⟨a, h1, hK a h2⟩
/-- a join: what comes behind it is walked once -/
theorem Ok.join {α β : Type} {x : Option α} {f : α → Option β} {K : β → Prop} {P : Prop} (h : Ok (_root_.Jvm.Pilot.@@N@@.obd x f) K) (J : α → Prop) (h1 : ∀ a, Ok (f a) K → J a) (h2 : Ok x J → P) : P := h2 (h.obd.mono h1)
theorem Ok.loop {α β : Type} {f : α → Option (α ⊕ β)} {K : β → Prop} (J : α → Prop) (hb : ∀ a, Ok (f a) (Sum.elim J K) → J a) : ∀ (n : Nat) (a : α), Ok (lp n f a) K → J a := by
  intro n
  induction n with
  | zero => intro a h; obtain ⟨b, h1, -⟩ := h; cases h1
  | succ n ih =>
    intro a h
    apply hb
    unfold lp at h
    cases hf : f a with
    | none => rw [hf] at h; obtain ⟨b, h1, -⟩ := h; cases h1
    | some z =>
      rw [hf] at h
      cases z with
      | inl a' => exact ⟨_, rfl, ih a' h⟩
      | inr e => exact ⟨_, rfl, h.out⟩
-- the words: one list for all methods
def WS : List Cond := lw_tbl.filter goodWord
theorem mw {w : Cond} (i : Nat) (h : lw_tbl[i]? = some w) (g : goodWord w = true) : w ∈ WS := List.mem_filter.mpr ⟨List.mem_of_getElem? h, g⟩
theorem WS_good {w : Cond} (h : w ∈ WS) : (w.onTables && w.keeps) = true ∨ ∃ ty, w = .arrayClass ty := good_of_word (List.mem_filter.mp h).2
theorem gin {c c' : Cond} (h : c' ∈ WS) : GoodIn (c :: WS) (c' :: WS) := by
  intro w hw
  rcases List.mem_cons.mp hw with rfl | hw
  · exact ⟨List.mem_cons_of_mem _ h, WS_good h⟩
  · exact ⟨List.mem_cons_of_mem _ hw, WS_good hw⟩
-- what all contracts share: the launch, the tables' numbers, the base, the String constants' addresses
abbrev Tht : Type := Launch × va_G × (Nat → ClassId) × Nat × (Nat → Nat) × (Nat → Nat)
abbrev tL (Θ : Tht) : Launch := Θ.1
abbrev tD (Θ : Tht) : va_G := Θ.2.1
abbrev tC (Θ : Tht) : Nat → ClassId := Θ.2.2.1
abbrev tB (Θ : Tht) : Nat := Θ.2.2.2.1
abbrev tK (Θ : Tht) : Nat → Nat := Θ.2.2.2.2.1
abbrev tV (Θ : Tht) : Nat → Nat := Θ.2.2.2.2.2
abbrev tA (Θ : Tht) : Nat → Prop := fun q => tB Θ ≤ q
abbrev rr (Θ : Tht) (k o i : Nat) : Nat := ad (tB Θ) k o i
def sTx (i : Nat) : String := match i with | 0 => "places" | 1 => "hole" | 2 => "coin" | 3 => "false" | 4 => "crab" | 5 => "right" | 6 => "left" | _ => "tide"
def sIx (i : Nat) : Nat := match i with | 0 => 65 | 1 => 74 | 2 => 79 | 3 => 119 | 4 => 84 | 5 => 133 | 6 => 135 | _ => 89
def sLen : List Nat := [6, 4, 4, 5, 4, 5, 4, 4]
def sByt : List (List Int32) := [[112, 108, 97, 99, 101, 115], [104, 111, 108, 101], [99, 111, 105, 110], [102, 97, 108, 115, 101], [99, 114, 97, 98], [114, 105, 103, 104, 116], [108, 101, 102, 116], [116, 105, 100, 101]]
/-- the calls of nest mates' private methods -/
def NW : List (String × Nat × MethodName) := [(RX8, 150, yX9_within), (RX8, 137, yX9_asNumber), (RX0, 86, yX9_within), (RX5, 22, yX9_within), (RX0, 34, yX1_init), (RX0, 35, yX2_init), (RX9, 21, yX6_init), (RX9, 28, yX4_init), (RX9, 35, yX8_init), (RX8, 11, yX7_init), (RX9, 57, yX3_init), (RX3, 18, yX6_init), (RX9, 58, yX5_init)]
/-- the String constants, and the two statics of the JDK that their methods read; nest mates -/
def Sx (Θ : Tht) (U : State) : Prop := vk_S 8 sLen sByt (tK Θ) (tV Θ) (tA Θ) U U.heap ∧ (∀ i, i < 8 → vk_R RX8 (sIx i) (sTx i) (tK Θ i) U) ∧ va_Z "java/lang/String" "COMPACT_STRINGS" "Z" (.int 1) (tA Θ) U U.heap ∧ va_Zq "jdk/internal/util/Preconditions" "SIOOBE_FORMATTER" "Ljava/util/function/BiFunction;" (tA Θ) U U.heap ∧ (∀ q ∈ NW, va_Nw (.methodLinkNest q.1 q.2.1 q.2.2 RX9) U) ∧ ∀ C ∈ [RX1, RX2, RX3, RX5], va_AO C U
theorem Sx.go {Θ : Tht} {s U : State} {H : Heap} {locs : List Loc} (h : Sx Θ s) (hS : va_S (tA Θ) s.heap H locs) (hU : U.heap = H) (hW : s.WarmedH U.vm) : Sx Θ U := by
  obtain ⟨h1, h2, h3, h4, h5, h6⟩ := h
  refine ⟨?_, fun i hi => (h2 i hi).warm hW, ?_, ?_, fun q hq => va_Nw.warmM hW (h5 q hq), fun C hC => (h6 C hC).moved hW.alike⟩
  · rw [hU]; exact (h1.kept hS.2.1).moved hW.alike
  · rw [hU]; exact (h3.kept hS.2.1).moved hW.alike
  · rw [hU]; exact (h4.kept hS.2.1).moved hW.alike
def Wd (Θ : Tht) (h : Mem) (U : State) : Prop := va_P (tD Θ) vwCl (wd (tB Θ) (tC Θ) h) U.heap ∧ va_K (tD Θ) vwCl (tys (tC Θ)) U ∧ Sx Θ U
theorem Wd.blind {Θ : Tht} {h : Mem} {av : List Value} : FrameBlind (va_Pc av (Wd Θ h)) := by
  intro a U g mk hp
  obtain ⟨rfl, hP, hK, h1, h2, h3, h4, h5, h6⟩ := hp
  have hA : U.vm.Alike (U.calling g mk av.toArray).vm := Vm.Alike.refl U.vm
  exact ⟨rfl, hP, va_K.moved hA hK, h1.moved hA, fun i hi => (h2 i hi).same rfl, h3.moved hA, h4.moved hA, fun q hq => va_Nw.same rfl rfl (h5 q hq), fun C hC => (h6 C hC).moved hA⟩
/-- contracts: a number, a truth, nothing comes back -/
def CI (Θ : Tht) (y : MethodName) (cc : ByteArray) (n : Nat) (ret : Option FieldType) (rm : Room) (av : List Value) (h : Mem) (K : Int32 × Mem → Prop) : Prop :=
  Met (tL Θ) y (.code y cc n ret :: WS) rm (va_Pc av (Wd Θ h)) (va_Qi (fun r h' => K (r, h')) (Wd Θ) (tA Θ)) 0 0 (tA Θ)
def CB (Θ : Tht) (y : MethodName) (cc : ByteArray) (n : Nat) (ret : Option FieldType) (rm : Room) (av : List Value) (h : Mem) (K : Bool × Mem → Prop) : Prop :=
  Met (tL Θ) y (.code y cc n ret :: WS) rm (va_Pc av (Wd Θ h)) (va_Qi (fun r h' => ∃ b : Bool, r = b2i b ∧ K (b, h')) (Wd Θ) (tA Θ)) 0 0 (tA Θ)
def CV (Θ : Tht) (y : MethodName) (cc : ByteArray) (n : Nat) (ret : Option FieldType) (rm : Room) (av : List Value) (h : Mem) (K : Mem → Prop) : Prop :=
  Met (tL Θ) y (.code y cc n ret :: WS) rm (va_Pc av (Wd Θ h)) (va_Qv (fun h' => K h') (Wd Θ) (tA Θ)) 0 0 (tA Θ)
-- a walk within one frame
abbrev Ctx : Type := Program × Env × Room × State × MethodId × Array Value × List Frame × Method × Code × Nat × Nat × Nat × (State → Prop)
abbrev cP (Γ : Ctx) : Program := Γ.1
abbrev cE (Γ : Ctx) : Env := Γ.2.1
abbrev cR (Γ : Ctx) : Room := Γ.2.2.1
abbrev cS (Γ : Ctx) : State := Γ.2.2.2.1
abbrev cM (Γ : Ctx) : MethodId := Γ.2.2.2.2.1
abbrev cA (Γ : Ctx) : Array Value := Γ.2.2.2.2.2.1
abbrev cF (Γ : Ctx) : List Frame := Γ.2.2.2.2.2.2.1
abbrev cT (Γ : Ctx) : Method := Γ.2.2.2.2.2.2.2.1
abbrev cC (Γ : Ctx) : Code := Γ.2.2.2.2.2.2.2.2.1
abbrev cN (Γ : Ctx) : Nat := Γ.2.2.2.2.2.2.2.2.2.1
abbrev cU (Γ : Ctx) : Nat := Γ.2.2.2.2.2.2.2.2.2.2.1
abbrev cV (Γ : Ctx) : Nat := Γ.2.2.2.2.2.2.2.2.2.2.2.1
abbrev cZ (Γ : Ctx) : State → Prop := Γ.2.2.2.2.2.2.2.2.2.2.2.2
def G (Θ : Tht) (Γ : Ctx) (pc : Nat) (lv : List (Nat × Value)) (st : List Value) (h : Mem) : Prop :=
  ∀ (H : Heap) (locs : List Loc) (ls : Array Slot), va_P (tD Θ) vwCl (wd (tB Θ) (tC Θ) h) H → va_S (tA Θ) (cS Γ).heap H locs → lv_has ls (cN Γ) lv →
    W (cP Γ) (tL Θ) (cE Γ) (cR Γ) (cS Γ) (cM Γ) (cA Γ) (cF Γ) (cT Γ) (cC Γ) H locs (cU Γ) (cV Γ) (cZ Γ) (F0 (cM Γ) pc ls st)
/-- what holds of a frame of the code cc of the class own, with nL locals and the room R -/
def Cx (Θ : Tht) (Γ : Ctx) (cc : ByteArray) (own : String) (nL : Nat) (R : Room) : Prop :=
  (cP Γ).tables.exec = Jvm.exec ∧ (cC Γ).code = cc ∧ (cC Γ).maxLocals = nL ∧ cN Γ = nL ∧ (cS Γ).vm.findClass own = some (cM Γ).cls ∧ (∀ w ∈ WS, w.before (cA Γ) (cS Γ) = true) ∧ va_K (tD Θ) vwCl (tys (tC Θ)) (cS Γ) ∧ Sx Θ (cS Γ) ∧ cR Γ = R ∧ cU Γ ≤ R.cells ∧ cV Γ ≤ R.slots
section Rules
variable {Θ : Tht} {Γ : Ctx} {cc : ByteArray} {own : String} {nL : Nat} {R : Room} {pc n : Nat} {lv : List (Nat × Value)} {st : List Value} {h : Mem}
theorem Cx.ex (C : Cx Θ Γ cc own nL R) : (cP Γ).tables.exec = Jvm.exec := C.1
theorem Cx.bt (C : Cx Θ Γ cc own nL R) : (cC Γ).code = cc := C.2.1
theorem Cx.ml (C : Cx Θ Γ cc own nL R) : (cC Γ).maxLocals = nL := C.2.2.1
theorem Cx.nl (C : Cx Θ Γ cc own nL R) : cN Γ = nL := C.2.2.2.1
theorem Cx.ow (C : Cx Θ Γ cc own nL R) : (cS Γ).vm.findClass own = some (cM Γ).cls := C.2.2.2.2.1
theorem Cx.ws (C : Cx Θ Γ cc own nL R) : ∀ w ∈ WS, w.before (cA Γ) (cS Γ) = true := C.2.2.2.2.2.1
theorem Cx.k (C : Cx Θ Γ cc own nL R) : va_K (tD Θ) vwCl (tys (tC Θ)) (cS Γ) := C.2.2.2.2.2.2.1
theorem Cx.sx (C : Cx Θ Γ cc own nL R) : Sx Θ (cS Γ) := C.2.2.2.2.2.2.2.1
theorem Cx.rm (C : Cx Θ Γ cc own nL R) : cR Γ = R := C.2.2.2.2.2.2.2.2.1
theorem Cx.uc (C : Cx Θ Γ cc own nL R) : cU Γ ≤ R.cells := C.2.2.2.2.2.2.2.2.2.1
theorem Cx.us (C : Cx Θ Γ cc own nL R) : cV Γ ≤ R.slots := C.2.2.2.2.2.2.2.2.2.2
theorem g_iconst (C : Cx Θ Γ cc own nL R) {c : Int} (v : Int32) (hd : decode cc pc = .ok (.iconst c, 1)) (hv : Int32.ofInt c = v) (hn : pc + 1 = n) (kk : G Θ Γ n lv (.int v :: st) h) : G Θ Γ pc lv st h := by
  subst hn
  exact fun H locs ls hP hS hl => lv_iconst C.ex C.bt hd hv (kk H locs ls hP hS hl)
theorem g_bipush (C : Cx Θ Γ cc own nL R) {c : Int} (v : Int32) (hd : decode cc pc = .ok (.bipush c, 2)) (hv : (Int8.ofInt c).toInt32 = v) (hn : pc + 2 = n) (kk : G Θ Γ n lv (.int v :: st) h) : G Θ Γ pc lv st h := by
  subst hn
  exact fun H locs ls hP hS hl => lv_bipush C.ex C.bt hd hv (kk H locs ls hP hS hl)
theorem g_sipush (C : Cx Θ Γ cc own nL R) {c : Int} (v : Int32) (hd : decode cc pc = .ok (.sipush c, 3)) (hv : (Int16.ofInt c).toInt32 = v) (hn : pc + 3 = n) (kk : G Θ Γ n lv (.int v :: st) h) : G Θ Γ pc lv st h := by
  subst hn
  exact fun H locs ls hP hS hl => lv_sipush C.ex C.bt hd hv (kk H locs ls hP hS hl)
theorem g_lconst (C : Cx Θ Γ cc own nL R) {c : Fin 2} (v : Int64) (hd : decode cc pc = .ok (.lconst c, 1)) (hv : Int64.ofNat (c : Nat) = v) (hn : pc + 1 = n) (kk : G Θ Γ n lv (.long v :: st) h) : G Θ Γ pc lv st h := by
  subst hn
  exact fun H locs ls hP hS hl => lv_lconst C.ex C.bt hd hv (kk H locs ls hP hS hl)
theorem g_ldc (C : Cx Θ Γ cc own nL R) {index : Nat} (v : Int32) (hc : Cond.constant own index v ∈ WS) (hd : decode cc pc = .ok (.ldc index, 2)) (hn : pc + 2 = n) (kk : G Θ Γ n lv (.int v :: st) h) : G Θ Γ pc lv st h := by
  subst hn
  exact fun H locs ls hP hS hl => lv_ldc C.ex C.bt C.ow (C.ws _ hc) hd (kk H locs ls hP hS hl)
theorem g_ldc2 (C : Cx Θ Γ cc own nL R) {index : Nat} (v : Int64) (hc : Cond.constantLong own index v ∈ WS) (hd : decode cc pc = .ok (.ldc2_w index, 3)) (hn : pc + 3 = n) (kk : G Θ Γ n lv (.long v :: st) h) : G Θ Γ pc lv st h := by
  subst hn
  exact fun H locs ls hP hS hl => lv_ldc2 C.ex C.bt C.ow (C.ws _ hc) hd (kk H locs ls hP hS hl)
theorem g_iload (C : Cx Θ Γ cc own nL R) (k : Nat) {i : Nat} {x : Int32} (hd : decode cc pc = .ok (.iload i, 2)) (hk : lv[k]? = some (i, .int x)) (hn : pc + 2 = n) (kk : G Θ Γ n lv (.int x :: st) h) : G Θ Γ pc lv st h := by
  subst hn
  exact fun H locs ls hP hS hl => lv_iload C.ex C.bt hd (lv_at hl k hk) (kk H locs ls hP hS hl)
theorem g_iload_n (C : Cx Θ Γ cc own nL R) (k : Nat) {q : Fin 4} {i : Nat} {x : Int32} (hd : decode cc pc = .ok (.iload_n q, 1)) (hq : (q : Nat) = i) (hk : lv[k]? = some (i, .int x)) (hn : pc + 1 = n) (kk : G Θ Γ n lv (.int x :: st) h) : G Θ Γ pc lv st h := by
  subst hn
  exact fun H locs ls hP hS hl => lv_iload_n C.ex C.bt hd hq (lv_at hl k hk) (kk H locs ls hP hS hl)
theorem g_lload (C : Cx Θ Γ cc own nL R) (k : Nat) {i : Nat} {x : Int64} (hd : decode cc pc = .ok (.lload i, 2)) (hk : lv[k]? = some (i, .long x)) (hn : pc + 2 = n) (kk : G Θ Γ n lv (.long x :: st) h) : G Θ Γ pc lv st h := by
  subst hn
  exact fun H locs ls hP hS hl => lv_lload C.ex C.bt hd (lv_at hl k hk) (kk H locs ls hP hS hl)
theorem g_lload_n (C : Cx Θ Γ cc own nL R) (k : Nat) {q : Fin 4} {i : Nat} {x : Int64} (hd : decode cc pc = .ok (.lload_n q, 1)) (hq : (q : Nat) = i) (hk : lv[k]? = some (i, .long x)) (hn : pc + 1 = n) (kk : G Θ Γ n lv (.long x :: st) h) : G Θ Γ pc lv st h := by
  subst hn
  exact fun H locs ls hP hS hl => lv_lload_n C.ex C.bt hd hq (lv_at hl k hk) (kk H locs ls hP hS hl)
theorem g_aload (C : Cx Θ Γ cc own nL R) (k : Nat) {i : Nat} {x : Nat} (hd : decode cc pc = .ok (.aload i, 2)) (hk : lv[k]? = some (i, .ref x)) (hn : pc + 2 = n) (kk : G Θ Γ n lv (.ref x :: st) h) : G Θ Γ pc lv st h := by
  subst hn
  exact fun H locs ls hP hS hl => lv_aload C.ex C.bt hd (lv_at hl k hk) (kk H locs ls hP hS hl)
theorem g_aload_n (C : Cx Θ Γ cc own nL R) (k : Nat) {q : Fin 4} {i : Nat} {x : Nat} (hd : decode cc pc = .ok (.aload_n q, 1)) (hq : (q : Nat) = i) (hk : lv[k]? = some (i, .ref x)) (hn : pc + 1 = n) (kk : G Θ Γ n lv (.ref x :: st) h) : G Θ Γ pc lv st h := by
  subst hn
  exact fun H locs ls hP hS hl => lv_aload_n C.ex C.bt hd hq (lv_at hl k hk) (kk H locs ls hP hS hl)
abbrev cut1 (i : Nat) (lv : List (Nat × Value)) : List (Nat × Value) := lv.filter (fun q => !(q.1 == i) && !(q.1 + 1 == i && q.2.category == 2))
theorem g_istore (C : Cx Θ Γ cc own nL R) {i : Nat} {x : Int32} (lv' : List (Nat × Value)) (hd : decode cc pc = .ok (.istore i, 2)) (hi : i < nL) (hl' : (i, Value.int x) :: cut1 i lv = lv') (hn : pc + 2 = n) (kk : G Θ Γ n lv' st h) : G Θ Γ pc lv (.int x :: st) h := by
  subst hn
  exact fun H locs ls hP hS hl => lv_istore C.ex C.bt hd hl (by rw [C.nl]; exact hi) hl' (fun ls' hl2 => kk H locs ls' hP hS hl2)
theorem g_istore_n (C : Cx Θ Γ cc own nL R) {q : Fin 4} {i : Nat} {x : Int32} (lv' : List (Nat × Value)) (hd : decode cc pc = .ok (.istore_n q, 1)) (hq : (q : Nat) = i) (hi : i < nL) (hl' : (i, Value.int x) :: cut1 i lv = lv') (hn : pc + 1 = n) (kk : G Θ Γ n lv' st h) : G Θ Γ pc lv (.int x :: st) h := by
  subst hn
  exact fun H locs ls hP hS hl => lv_istore_n C.ex C.bt hd hq hl (by rw [C.nl]; exact hi) hl' (fun ls' hl2 => kk H locs ls' hP hS hl2)
theorem g_astore (C : Cx Θ Γ cc own nL R) {i : Nat} {x : Nat} (lv' : List (Nat × Value)) (hd : decode cc pc = .ok (.astore i, 2)) (hi : i < nL) (hl' : (i, Value.ref x) :: cut1 i lv = lv') (hn : pc + 2 = n) (kk : G Θ Γ n lv' st h) : G Θ Γ pc lv (.ref x :: st) h := by
  subst hn
  exact fun H locs ls hP hS hl => lv_astore C.ex C.bt hd hl (by rw [C.nl]; exact hi) hl' (fun ls' hl2 => kk H locs ls' hP hS hl2)
theorem g_astore_n (C : Cx Θ Γ cc own nL R) {q : Fin 4} {i : Nat} {x : Nat} (lv' : List (Nat × Value)) (hd : decode cc pc = .ok (.astore_n q, 1)) (hq : (q : Nat) = i) (hi : i < nL) (hl' : (i, Value.ref x) :: cut1 i lv = lv') (hn : pc + 1 = n) (kk : G Θ Γ n lv' st h) : G Θ Γ pc lv (.ref x :: st) h := by
  subst hn
  exact fun H locs ls hP hS hl => lv_astore_n C.ex C.bt hd hq hl (by rw [C.nl]; exact hi) hl' (fun ls' hl2 => kk H locs ls' hP hS hl2)
theorem g_lstore (C : Cx Θ Γ cc own nL R) {i : Nat} {x : Int64} (lv' : List (Nat × Value)) (hd : decode cc pc = .ok (.lstore i, 2)) (hi : i + 1 < nL) (hl' : (i, Value.long x) :: lv.filter (fun q => !(q.1 == i) && (!(q.1 == i + 1) && !(q.1 + 1 == i && q.2.category == 2))) = lv') (hn : pc + 2 = n) (kk : G Θ Γ n lv' st h) : G Θ Γ pc lv (.long x :: st) h := by
  subst hn
  exact fun H locs ls hP hS hl => lv_lstore C.ex C.bt hd hl (by rw [C.nl]; exact hi) hl' (fun ls' hl2 => kk H locs ls' hP hS hl2)
/-- a number gets a name: the one that the text of the method's function gives it -/
theorem g_nm {β : Type} {e : Int32} {f : Int32 → Option β} {K : β → Prop} (hk : Ok (bnd e f) K) (kk : ∀ x, Ok (f x) K → G Θ Γ pc lv (.int x :: st) h) : G Θ Γ pc lv (.int e :: st) h := kk e hk
theorem g_nml {β : Type} {e : Int64} {f : Int64 → Option β} {K : β → Prop} (hk : Ok (bnd e f) K) (kk : ∀ x, Ok (f x) K → G Θ Γ pc lv (.long x :: st) h) : G Θ Γ pc lv (.long e :: st) h := kk e hk
theorem g_iinc (C : Cx Θ Γ cc own nL R) {β : Type} {f : Int32 → Option β} {K : β → Prop} (k : Nat) {i : Nat} {c : Int} {x v : Int32} (L : Int32 → List (Nat × Value)) (hd : decode cc pc = .ok (.iinc i c, 3)) (hk : lv[k]? = some (i, .int x)) (hv : x + Int32.ofInt c = v) (hi : i < nL) (hl' : ∀ y, (i, Value.int y) :: cut1 i lv = L y) (hn : pc + 3 = n) (ho : Ok (bnd v f) K) (kk : ∀ y, Ok (f y) K → G Θ Γ n (L y) st h) : G Θ Γ pc lv st h := by
  subst hn
  exact fun H locs ls hP hS hl => lv_iinc C.ex C.bt hd hl hk hv (by rw [C.nl]; exact hi) (hl' v) (fun ls' hl2 => kk v ho H locs ls' hP hS hl2)
theorem g_iadd (C : Cx Θ Γ cc own nL R) {x y : Int32} (hd : decode cc pc = .ok (.iadd, 1)) (hn : pc + 1 = n) (kk : G Θ Γ n lv (.int (x + y) :: st) h) : G Θ Γ pc lv (.int y :: .int x :: st) h := by
  subst hn
  exact fun H locs ls hP hS hl => lv_iadd C.ex C.bt hd (kk H locs ls hP hS hl)
theorem g_isub (C : Cx Θ Γ cc own nL R) {x y : Int32} (hd : decode cc pc = .ok (.isub, 1)) (hn : pc + 1 = n) (kk : G Θ Γ n lv (.int (x - y) :: st) h) : G Θ Γ pc lv (.int y :: .int x :: st) h := by
  subst hn
  exact fun H locs ls hP hS hl => lv_isub C.ex C.bt hd (kk H locs ls hP hS hl)
theorem g_imul (C : Cx Θ Γ cc own nL R) {x y : Int32} (hd : decode cc pc = .ok (.imul, 1)) (hn : pc + 1 = n) (kk : G Θ Γ n lv (.int (x * y) :: st) h) : G Θ Γ pc lv (.int y :: .int x :: st) h := by
  subst hn
  exact fun H locs ls hP hS hl => lv_imul C.ex C.bt hd (kk H locs ls hP hS hl)
theorem g_iand (C : Cx Θ Γ cc own nL R) {x y : Int32} (hd : decode cc pc = .ok (.iand, 1)) (hn : pc + 1 = n) (kk : G Θ Γ n lv (.int (x &&& y) :: st) h) : G Θ Γ pc lv (.int y :: .int x :: st) h := by
  subst hn
  exact fun H locs ls hP hS hl => lv_iand C.ex C.bt hd (kk H locs ls hP hS hl)
theorem g_ior (C : Cx Θ Γ cc own nL R) {x y : Int32} (hd : decode cc pc = .ok (.ior, 1)) (hn : pc + 1 = n) (kk : G Θ Γ n lv (.int (x ||| y) :: st) h) : G Θ Γ pc lv (.int y :: .int x :: st) h := by
  subst hn
  exact fun H locs ls hP hS hl => lv_ior C.ex C.bt hd (kk H locs ls hP hS hl)
theorem g_ixor (C : Cx Θ Γ cc own nL R) {x y : Int32} (hd : decode cc pc = .ok (.ixor, 1)) (hn : pc + 1 = n) (kk : G Θ Γ n lv (.int (x ^^^ y) :: st) h) : G Θ Γ pc lv (.int y :: .int x :: st) h := by
  subst hn
  exact fun H locs ls hP hS hl => lv_ixor C.ex C.bt hd (kk H locs ls hP hS hl)
theorem g_ishl (C : Cx Θ Γ cc own nL R) {x y : Int32} (hd : decode cc pc = .ok (.ishl, 1)) (hn : pc + 1 = n) (kk : G Θ Γ n lv (.int (x <<< (y &&& 31)) :: st) h) : G Θ Γ pc lv (.int y :: .int x :: st) h := by
  subst hn
  exact fun H locs ls hP hS hl => lv_ishl C.ex C.bt hd (kk H locs ls hP hS hl)
theorem g_ishr (C : Cx Θ Γ cc own nL R) {x y : Int32} (hd : decode cc pc = .ok (.ishr, 1)) (hn : pc + 1 = n) (kk : G Θ Γ n lv (.int (x >>> (y &&& 31)) :: st) h) : G Θ Γ pc lv (.int y :: .int x :: st) h := by
  subst hn
  exact fun H locs ls hP hS hl => lv_ishr C.ex C.bt hd (kk H locs ls hP hS hl)
def ush (x y : Int32) : Int32 := (x.toUInt32 >>> (y.toUInt32 &&& Int32.toUInt32 31)).toInt32
theorem g_iushr (C : Cx Θ Γ cc own nL R) {x y : Int32} (hd : decode cc pc = .ok (.iushr, 1)) (hn : pc + 1 = n) (kk : G Θ Γ n lv (.int (ush x y) :: st) h) : G Θ Γ pc lv (.int y :: .int x :: st) h := by
  subst hn
  exact fun H locs ls hP hS hl => lv_iushr C.ex C.bt hd rfl (kk H locs ls hP hS hl)
theorem g_irem (C : Cx Θ Γ cc own nL R) {β : Type} {z : Option β} {K : β → Prop} {x y : Int32} {dz : Decidable (¬ y = 0)} (hd : decode cc pc = .ok (.irem, 1)) (hn : pc + 1 = n) (hk : Ok (@gd _ (¬ y = 0) dz z) K) (kk : Ok z K → G Θ Γ n lv (.int (x - x / y * y) :: st) h) : G Θ Γ pc lv (.int y :: .int x :: st) h := by
  subst hn
  exact fun H locs ls hP hS hl => lv_irem C.ex C.bt hd hk.gd.1 (kk hk.gd.2 H locs ls hP hS hl)
theorem g_i2l (C : Cx Θ Γ cc own nL R) {x : Int32} (hd : decode cc pc = .ok (.i2l, 1)) (hn : pc + 1 = n) (kk : G Θ Γ n lv (.long x.toInt64 :: st) h) : G Θ Γ pc lv (.int x :: st) h := by
  subst hn
  exact fun H locs ls hP hS hl => lv_i2l C.ex C.bt hd rfl (kk H locs ls hP hS hl)
theorem g_l2i (C : Cx Θ Γ cc own nL R) {x : Int64} (hd : decode cc pc = .ok (.l2i, 1)) (hn : pc + 1 = n) (kk : G Θ Γ n lv (.int x.toInt32 :: st) h) : G Θ Γ pc lv (.long x :: st) h := by
  subst hn
  exact fun H locs ls hP hS hl => lv_l2i C.ex C.bt hd rfl (kk H locs ls hP hS hl)
theorem g_i2b (C : Cx Θ Γ cc own nL R) {x : Int32} (hd : decode cc pc = .ok (.i2b, 1)) (hn : pc + 1 = n) (kk : G Θ Γ n lv (.int x.toInt8.toInt32 :: st) h) : G Θ Γ pc lv (.int x :: st) h := by
  subst hn
  exact fun H locs ls hP hS hl => lv_i2b C.ex C.bt hd rfl (kk H locs ls hP hS hl)
theorem g_i2s (C : Cx Θ Γ cc own nL R) {x : Int32} (hd : decode cc pc = .ok (.i2s, 1)) (hn : pc + 1 = n) (kk : G Θ Γ n lv (.int x.toInt16.toInt32 :: st) h) : G Θ Γ pc lv (.int x :: st) h := by
  subst hn
  exact fun H locs ls hP hS hl => lv_i2s C.ex C.bt hd rfl (kk H locs ls hP hS hl)
theorem g_ladd (C : Cx Θ Γ cc own nL R) {x y : Int64} (hd : decode cc pc = .ok (.ladd, 1)) (hn : pc + 1 = n) (kk : G Θ Γ n lv (.long (x + y) :: st) h) : G Θ Γ pc lv (.long y :: .long x :: st) h := by
  subst hn
  exact fun H locs ls hP hS hl => lv_ladd C.ex C.bt hd (kk H locs ls hP hS hl)
theorem g_land (C : Cx Θ Γ cc own nL R) {x y : Int64} (hd : decode cc pc = .ok (.land, 1)) (hn : pc + 1 = n) (kk : G Θ Γ n lv (.long (x &&& y) :: st) h) : G Θ Γ pc lv (.long y :: .long x :: st) h := by
  subst hn
  exact fun H locs ls hP hS hl => lv_land C.ex C.bt hd (kk H locs ls hP hS hl)
theorem g_lor (C : Cx Θ Γ cc own nL R) {x y : Int64} (hd : decode cc pc = .ok (.lor, 1)) (hn : pc + 1 = n) (kk : G Θ Γ n lv (.long (x ||| y) :: st) h) : G Θ Γ pc lv (.long y :: .long x :: st) h := by
  subst hn
  exact fun H locs ls hP hS hl => lv_lor C.ex C.bt hd (kk H locs ls hP hS hl)
def lsl (x : Int64) (y : Int32) : Int64 := x <<< (y.toInt64 &&& 63)
def lsr (x : Int64) (y : Int32) : Int64 := x >>> (y.toInt64 &&& 63)
def lus (x : Int64) (y : Int32) : Int64 := (x.toUInt64 >>> (y.toInt64.toUInt64 &&& Int64.toUInt64 63)).toInt64
theorem g_lshl (C : Cx Θ Γ cc own nL R) {x : Int64} {y : Int32} (hd : decode cc pc = .ok (.lshl, 1)) (hn : pc + 1 = n) (kk : G Θ Γ n lv (.long (lsl x y) :: st) h) : G Θ Γ pc lv (.int y :: .long x :: st) h := by
  subst hn
  exact fun H locs ls hP hS hl => lv_lshl C.ex C.bt hd rfl (kk H locs ls hP hS hl)
theorem g_lshr (C : Cx Θ Γ cc own nL R) {x : Int64} {y : Int32} (hd : decode cc pc = .ok (.lshr, 1)) (hn : pc + 1 = n) (kk : G Θ Γ n lv (.long (lsr x y) :: st) h) : G Θ Γ pc lv (.int y :: .long x :: st) h := by
  subst hn
  exact fun H locs ls hP hS hl => lv_lshr C.ex C.bt hd rfl (kk H locs ls hP hS hl)
theorem g_lushr (C : Cx Θ Γ cc own nL R) {x : Int64} {y : Int32} (hd : decode cc pc = .ok (.lushr, 1)) (hn : pc + 1 = n) (kk : G Θ Γ n lv (.long (lus x y) :: st) h) : G Θ Γ pc lv (.int y :: .long x :: st) h := by
  subst hn
  exact fun H locs ls hP hS hl => lv_lushr C.ex C.bt hd rfl (kk H locs ls hP hS hl)
theorem g_lcmp (C : Cx Θ Γ cc own nL R) {x y : Int64} (hd : decode cc pc = .ok (.lcmp, 1)) (hn : pc + 1 = n) (kk : G Θ Γ n lv (.int (lg_cmp x y) :: st) h) : G Θ Γ pc lv (.long y :: .long x :: st) h := by
  subst hn
  exact fun H locs ls hP hS hl => W.lcmp C.ex C.bt hd (kk H locs ls hP hS hl)
theorem g_dup (C : Cx Θ Γ cc own nL R) {v : Value} (hd : decode cc pc = .ok (.dup, 1)) (hv : v.category = 1) (hn : pc + 1 = n) (kk : G Θ Γ n lv (v :: v :: st) h) : G Θ Γ pc lv (v :: st) h := by
  subst hn
  exact fun H locs ls hP hS hl => lv_dup C.ex C.bt hd hv (kk H locs ls hP hS hl)
theorem g_dup2 (C : Cx Θ Γ cc own nL R) {v w : Value} (hd : decode cc pc = .ok (.dup2, 1)) (hv : v.category = 1) (hw : w.category = 1) (hn : pc + 1 = n) (kk : G Θ Γ n lv (v :: w :: v :: w :: st) h) : G Θ Γ pc lv (v :: w :: st) h := by
  subst hn
  exact fun H locs ls hP hS hl => lv_dup2_11 C.ex C.bt hd hv hw (kk H locs ls hP hS hl)
theorem g_pop (C : Cx Θ Γ cc own nL R) {v : Value} (hd : decode cc pc = .ok (.pop, 1)) (hv : v.category = 1) (hn : pc + 1 = n) (kk : G Θ Γ n lv st h) : G Θ Γ pc lv (v :: st) h := by
  subst hn
  exact fun H locs ls hP hS hl => lv_pop C.ex C.bt hd hv (kk H locs ls hP hS hl)
theorem g_goto (C : Cx Θ Γ cc own nL R) {off : Int} (tgt : Nat) (hd : decode cc pc = .ok (.goto off, 3)) (ht : (pc : Int) + off = (tgt : Int)) (kk : G Θ Γ tgt lv st h) : G Θ Γ pc lv st h :=
  fun H locs ls hP hS hl => lv_goto C.ex C.bt hd ht (kk H locs ls hP hS hl)
section Br
variable {β : Type} {xt xf : Option β} {K : β → Prop} {x y : Int32} {off : Int}
theorem g_if_eq (C : Cx Θ Γ cc own nL R) {i : Decidable (x = 0)} (tgt : Nat) (hd : decode cc pc = .ok (.ifCond .eq off, 3)) (ht : (pc : Int) + off = (tgt : Int)) (hn : pc + 3 = n) (hk : Ok (@ite _ (x = 0) i xt xf) K) (kt : Ok xt K → G Θ Γ tgt lv st h) (kf : Ok xf K → G Θ Γ n lv st h) : G Θ Γ pc lv (.int x :: st) h := by
  subst hn
  exact fun H locs ls hP hS hl => lv_if_eq C.ex C.bt hd ht (fun c => kt (hk.pos c) H locs ls hP hS hl) (fun c => kf (hk.neg c) H locs ls hP hS hl)
theorem g_if_ne (C : Cx Θ Γ cc own nL R) {i : Decidable (x = 0)} (tgt : Nat) (hd : decode cc pc = .ok (.ifCond .ne off, 3)) (ht : (pc : Int) + off = (tgt : Int)) (hn : pc + 3 = n) (hk : Ok (@ite _ (x = 0) i xf xt) K) (kt : Ok xt K → G Θ Γ tgt lv st h) (kf : Ok xf K → G Θ Γ n lv st h) : G Θ Γ pc lv (.int x :: st) h := by
  subst hn
  exact fun H locs ls hP hS hl => lv_if_ne C.ex C.bt hd ht (fun c => kt (hk.neg c) H locs ls hP hS hl) (fun c => kf (hk.pos c) H locs ls hP hS hl)
theorem g_if_lt (C : Cx Θ Γ cc own nL R) {i : Decidable (x < 0)} (tgt : Nat) (hd : decode cc pc = .ok (.ifCond .lt off, 3)) (ht : (pc : Int) + off = (tgt : Int)) (hn : pc + 3 = n) (hk : Ok (@ite _ (x < 0) i xt xf) K) (kt : Ok xt K → G Θ Γ tgt lv st h) (kf : Ok xf K → G Θ Γ n lv st h) : G Θ Γ pc lv (.int x :: st) h := by
  subst hn
  exact fun H locs ls hP hS hl => lv_if_lt C.ex C.bt hd ht (fun c => kt (hk.pos c) H locs ls hP hS hl) (fun c => kf (hk.neg c) H locs ls hP hS hl)
theorem g_if_ge (C : Cx Θ Γ cc own nL R) {i : Decidable (0 ≤ x)} (tgt : Nat) (hd : decode cc pc = .ok (.ifCond .ge off, 3)) (ht : (pc : Int) + off = (tgt : Int)) (hn : pc + 3 = n) (hk : Ok (@ite _ (0 ≤ x) i xt xf) K) (kt : Ok xt K → G Θ Γ tgt lv st h) (kf : Ok xf K → G Θ Γ n lv st h) : G Θ Γ pc lv (.int x :: st) h := by
  subst hn
  exact fun H locs ls hP hS hl => lv_if_ge C.ex C.bt hd ht (fun c => kt (hk.pos c) H locs ls hP hS hl) (fun c => kf (hk.neg c) H locs ls hP hS hl)
theorem g_if_gt (C : Cx Θ Γ cc own nL R) {i : Decidable (0 < x)} (tgt : Nat) (hd : decode cc pc = .ok (.ifCond .gt off, 3)) (ht : (pc : Int) + off = (tgt : Int)) (hn : pc + 3 = n) (hk : Ok (@ite _ (0 < x) i xt xf) K) (kt : Ok xt K → G Θ Γ tgt lv st h) (kf : Ok xf K → G Θ Γ n lv st h) : G Θ Γ pc lv (.int x :: st) h := by
  subst hn
  exact fun H locs ls hP hS hl => lv_if_gt C.ex C.bt hd ht (fun c => kt (hk.pos c) H locs ls hP hS hl) (fun c => kf (hk.neg c) H locs ls hP hS hl)
theorem g_if_le (C : Cx Θ Γ cc own nL R) {i : Decidable (x ≤ 0)} (tgt : Nat) (hd : decode cc pc = .ok (.ifCond .le off, 3)) (ht : (pc : Int) + off = (tgt : Int)) (hn : pc + 3 = n) (hk : Ok (@ite _ (x ≤ 0) i xt xf) K) (kt : Ok xt K → G Θ Γ tgt lv st h) (kf : Ok xf K → G Θ Γ n lv st h) : G Θ Γ pc lv (.int x :: st) h := by
  subst hn
  exact fun H locs ls hP hS hl => lv_if_le C.ex C.bt hd ht (fun c => kt (hk.pos c) H locs ls hP hS hl) (fun c => kf (hk.neg c) H locs ls hP hS hl)
theorem g_ic_eq (C : Cx Θ Γ cc own nL R) {i : Decidable (x = y)} (tgt : Nat) (hd : decode cc pc = .ok (.if_icmp .eq off, 3)) (ht : (pc : Int) + off = (tgt : Int)) (hn : pc + 3 = n) (hk : Ok (@ite _ (x = y) i xt xf) K) (kt : Ok xt K → G Θ Γ tgt lv st h) (kf : Ok xf K → G Θ Γ n lv st h) : G Θ Γ pc lv (.int y :: .int x :: st) h := by
  subst hn
  exact fun H locs ls hP hS hl => lv_icmp_eq C.ex C.bt hd ht (fun c => kt (hk.pos c) H locs ls hP hS hl) (fun c => kf (hk.neg c) H locs ls hP hS hl)
theorem g_ic_ne (C : Cx Θ Γ cc own nL R) {i : Decidable (x = y)} (tgt : Nat) (hd : decode cc pc = .ok (.if_icmp .ne off, 3)) (ht : (pc : Int) + off = (tgt : Int)) (hn : pc + 3 = n) (hk : Ok (@ite _ (x = y) i xf xt) K) (kt : Ok xt K → G Θ Γ tgt lv st h) (kf : Ok xf K → G Θ Γ n lv st h) : G Θ Γ pc lv (.int y :: .int x :: st) h := by
  subst hn
  exact fun H locs ls hP hS hl => lv_icmp_ne C.ex C.bt hd ht (fun c => kt (hk.neg c) H locs ls hP hS hl) (fun c => kf (hk.pos c) H locs ls hP hS hl)
theorem g_ic_lt (C : Cx Θ Γ cc own nL R) {i : Decidable (x < y)} (tgt : Nat) (hd : decode cc pc = .ok (.if_icmp .lt off, 3)) (ht : (pc : Int) + off = (tgt : Int)) (hn : pc + 3 = n) (hk : Ok (@ite _ (x < y) i xt xf) K) (kt : Ok xt K → G Θ Γ tgt lv st h) (kf : Ok xf K → G Θ Γ n lv st h) : G Θ Γ pc lv (.int y :: .int x :: st) h := by
  subst hn
  exact fun H locs ls hP hS hl => lv_icmp_lt C.ex C.bt hd ht (fun c => kt (hk.pos c) H locs ls hP hS hl) (fun c => kf (hk.neg c) H locs ls hP hS hl)
theorem g_ic_ge (C : Cx Θ Γ cc own nL R) {i : Decidable (y ≤ x)} (tgt : Nat) (hd : decode cc pc = .ok (.if_icmp .ge off, 3)) (ht : (pc : Int) + off = (tgt : Int)) (hn : pc + 3 = n) (hk : Ok (@ite _ (y ≤ x) i xt xf) K) (kt : Ok xt K → G Θ Γ tgt lv st h) (kf : Ok xf K → G Θ Γ n lv st h) : G Θ Γ pc lv (.int y :: .int x :: st) h := by
  subst hn
  exact fun H locs ls hP hS hl => lv_icmp_ge C.ex C.bt hd ht (fun c => kt (hk.pos c) H locs ls hP hS hl) (fun c => kf (hk.neg c) H locs ls hP hS hl)
theorem g_ic_gt (C : Cx Θ Γ cc own nL R) {i : Decidable (y < x)} (tgt : Nat) (hd : decode cc pc = .ok (.if_icmp .gt off, 3)) (ht : (pc : Int) + off = (tgt : Int)) (hn : pc + 3 = n) (hk : Ok (@ite _ (y < x) i xt xf) K) (kt : Ok xt K → G Θ Γ tgt lv st h) (kf : Ok xf K → G Θ Γ n lv st h) : G Θ Γ pc lv (.int y :: .int x :: st) h := by
  subst hn
  exact fun H locs ls hP hS hl => lv_icmp_gt C.ex C.bt hd ht (fun c => kt (hk.pos c) H locs ls hP hS hl) (fun c => kf (hk.neg c) H locs ls hP hS hl)
theorem g_ic_le (C : Cx Θ Γ cc own nL R) {i : Decidable (x ≤ y)} (tgt : Nat) (hd : decode cc pc = .ok (.if_icmp .le off, 3)) (ht : (pc : Int) + off = (tgt : Int)) (hn : pc + 3 = n) (hk : Ok (@ite _ (x ≤ y) i xt xf) K) (kt : Ok xt K → G Θ Γ tgt lv st h) (kf : Ok xf K → G Θ Γ n lv st h) : G Θ Γ pc lv (.int y :: .int x :: st) h := by
  subst hn
  exact fun H locs ls hP hS hl => lv_icmp_le C.ex C.bt hd ht (fun c => kt (hk.pos c) H locs ls hP hS hl) (fun c => kf (hk.neg c) H locs ls hP hS hl)
/-- branches on the answer of a call that is a truth -/
theorem g_bf (C : Cx Θ Γ cc own nL R) {b : Bool} {i : Decidable (b = true)} (tgt : Nat) (hd : decode cc pc = .ok (.ifCond .eq off, 3)) (ht : (pc : Int) + off = (tgt : Int)) (hn : pc + 3 = n) (hk : Ok (@ite _ (b = true) i xf xt) K) (kt : Ok xt K → G Θ Γ tgt lv st h) (kf : Ok xf K → G Θ Γ n lv st h) : G Θ Γ pc lv (.int (b2i b) :: st) h := by
  subst hn
  refine fun H locs ls hP hS hl => lv_if_eq C.ex C.bt hd ht (fun c => kt (hk.neg (fun e => ?_)) H locs ls hP hS hl) (fun c => kf (hk.pos ?_) H locs ls hP hS hl)
  · subst e; exact absurd c (by decide)
  · cases b
    · exact absurd rfl c
    · rfl
theorem g_bt (C : Cx Θ Γ cc own nL R) {b : Bool} {i : Decidable (b = true)} (tgt : Nat) (hd : decode cc pc = .ok (.ifCond .ne off, 3)) (ht : (pc : Int) + off = (tgt : Int)) (hn : pc + 3 = n) (hk : Ok (@ite _ (b = true) i xt xf) K) (kt : Ok xt K → G Θ Γ tgt lv st h) (kf : Ok xf K → G Θ Γ n lv st h) : G Θ Γ pc lv (.int (b2i b) :: st) h := by
  subst hn
  refine fun H locs ls hP hS hl => lv_if_ne C.ex C.bt hd ht (fun c => kt (hk.pos ?_) H locs ls hP hS hl) (fun c => kf (hk.neg (fun e => ?_)) H locs ls hP hS hl)
  · cases b
    · exact absurd rfl c
    · rfl
  · subst e; exact absurd c (by decide)
end Br
end Rules
