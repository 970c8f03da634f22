def PI (Θ : Tht) (Γ : Ctx) (cc : ByteArray) (q : Int32 × Mem) : Prop := ∀ (pc : Nat) (lv : List (Nat × Value)), decode cc pc = .ok (.ireturn, 1) → G Θ Γ pc lv [.int q.1] q.2
def PB (Θ : Tht) (Γ : Ctx) (cc : ByteArray) (q : Bool × Mem) : Prop := ∀ (pc : Nat) (lv : List (Nat × Value)), decode cc pc = .ok (.ireturn, 1) → G Θ Γ pc lv [.int (b2i q.1)] q.2
def PV (Θ : Tht) (Γ : Ctx) (cc : ByteArray) (h : Mem) : Prop := ∀ (pc : Nat) (lv : List (Nat × Value)), decode cc pc = .ok (.return_, 1) → G Θ Γ pc lv [] h
def i2b (e : Int32) : Option Bool := if e = 0 then some false else if e = 1 then some true else none
section Rules3
variable {Θ : Tht} {Γ : Ctx} {cc : ByteArray} {own : String} {nL : Nat} {R : Room} {pc n : Nat} {lv : List (Nat × Value)} {st : List Value} {h : Mem}
theorem rtI {x : Option (Int32 × Mem)} {K : Int32 × Mem → Prop} (Rt : RtI Θ Γ cc K) (hk : Ok x K) : Ok x (PI Θ Γ cc) := hk.mono fun q hq pc lv hd => Rt pc lv q.2 q.1 hd hq
theorem rtB {x : Option (Bool × Mem)} {K : Bool × Mem → Prop} (Rt : RtB Θ Γ cc K) (hk : Ok x K) : Ok x (PB Θ Γ cc) := hk.mono fun q hq pc lv hd => Rt pc lv q.2 q.1 hd hq
theorem rtV {x : Option Mem} {K : Mem → Prop} (Rt : RtV Θ Γ cc K) (hk : Ok x K) : Ok x (PV Θ Γ cc) := hk.mono fun q hq pc lv hd => Rt pc lv q hd hq
theorem rtIp {x : Option Int32} {K : Int32 × Mem → Prop} (Rt : RtI Θ Γ cc K) (hk : Ok x (fun r => K (r, h))) : Ok x (fun r => PI Θ Γ cc (r, h)) := hk.mono fun q hq pc lv hd => Rt pc lv h q hd hq
theorem rtBp {x : Option Bool} {K : Bool × Mem → Prop} (Rt : RtB Θ Γ cc K) (hk : Ok x (fun r => K (r, h))) : Ok x (fun r => PB Θ Γ cc (r, h)) := hk.mono fun q hq pc lv hd => Rt pc lv h q hd hq
theorem retI {r : Int32} (hq : PI Θ Γ cc (r, h)) (hd : decode cc pc = .ok (.ireturn, 1)) : G Θ Γ pc lv [.int r] h := hq pc lv hd
theorem retB (b : Bool) {e : Int32} (he : e = b2i b) (hq : PB Θ Γ cc (b, h)) (hd : decode cc pc = .ok (.ireturn, 1)) : G Θ Γ pc lv [.int e] h := by
  subst he
  exact hq pc lv hd
theorem retV (hq : PV Θ Γ cc h) (hd : decode cc pc = .ok (.return_, 1)) : G Θ Γ pc lv [] h := hq pc lv hd
theorem ok_inl {α β γ : Type} {f : α → Option γ} {g : β → Option γ} {a : α} {K : γ → Prop} (hk : Ok (Sum.elim f g (.inl a)) K) : Ok (f a) K := hk
theorem ok_inr {α β γ : Type} {f : α → Option γ} {g : β → Option γ} {a : β} {K : γ → Prop} (hk : Ok (Sum.elim f g (.inr a)) K) : Ok (g a) K := hk
theorem g_lv (ks : List Nat) (lv' : List (Nat × Value)) (hl : lv_pick lv ks = lv') (kk : G Θ Γ pc lv' st h) : G Θ Γ pc lv st h := fun H locs ls hP hS hL => kk H locs ls hP hS (lv_sub hL ks hl)
theorem g_top {e e' : Int32} (he : e = e') (kk : G Θ Γ pc lv (.int e' :: st) h) : G Θ Γ pc lv (.int e :: st) h := by
  subst he
  exact kk
theorem ok_i2b {β : Type} {e : Int32} {f : Bool → Option β} {K : β → Prop} (hk : Ok (obd (i2b e) f) K) : ∃ b, e = b2i b ∧ Ok (f b) K := by
  obtain ⟨b, h1, h2⟩ := hk.obd
  refine ⟨b, ?_, h2⟩
  unfold i2b at h1
  split at h1
  · cases h1; assumption
  · split at h1
    · cases h1; assumption
    · cases h1
section Sw
variable {β : Type} {A Dd : Option β} {K : β → Prop} {x : Int32} {dflt lo hi off : Int} {offs : Array Int} {len : Nat}
theorem g_sw (C : Cx Θ Γ cc own nL R) (v : Int32) {i : Decidable (x = v)} (tgt : Nat) (hd : decode cc pc = .ok (.tableswitch dflt lo hi offs, len)) (h1 : ¬ v.toInt < lo) (h2 : ¬ hi < v.toInt) (ho : offs[(v.toInt - lo).toNat]? = some off) (ht : (pc : Int) + off = (tgt : Int)) (hk : Ok (@ite _ (x = v) i A Dd) K) (kt : Ok A K → G Θ Γ tgt lv st h) (kf : ¬ x = v → Ok Dd K → G Θ Γ pc lv (.int x :: st) h) : G Θ Γ pc lv (.int x :: st) h := by
  by_cases hc : x = v
  · have hk2 := hk.pos hc
    subst hc
    exact fun H locs ls hP hS hl => lv_tableIn C.ex C.bt hd h1 h2 ho ht (kt hk2 H locs ls hP hS hl)
  · exact kf hc (hk.neg hc)
theorem sw_0 (hc : ¬ x = 0) : ∀ k : Nat, k < 1 → ¬ x = Int32.ofNat k := fun k hk => by
  have : k = 0 := by omega
  subst this
  exact hc
theorem sw_s {m : Nat} (hm : ∀ k : Nat, k < m → ¬ x = Int32.ofNat k) (hc : ¬ x = Int32.ofNat m) : ∀ k : Nat, k < m + 1 → ¬ x = Int32.ofNat k := fun k hk => by
  rcases Nat.lt_succ_iff_lt_or_eq.mp hk with h | h
  · exact hm k h
  · rw [h]; exact hc
theorem g_swd (C : Cx Θ Γ cc own nL R) (m : Nat) (tgt : Nat) (hd : decode cc pc = .ok (.tableswitch dflt 0 hi offs, len)) (hh : hi + 1 = (m : Int)) (hm : m < 2 ^ 31) (hx : ∀ k : Nat, k < m → ¬ x = Int32.ofNat k) (ht : (pc : Int) + dflt = (tgt : Int)) (kk : G Θ Γ tgt lv st h) : G Θ Γ pc lv (.int x :: st) h := by
  refine fun H locs ls hP hS hl => lv_tableOut C.ex C.bt hd ?_ ht (kk H locs ls hP hS hl)
  by_cases h0 : x < 0
  · exact Or.inl (by simpa using Int32.lt_iff_toInt_lt.mp h0)
  · obtain ⟨j, hj, rfl⟩ := nI_of h0
    refine Or.inr ?_
    have : ¬ j < m := fun hjm => hx j hjm rfl
    rw [nI_toInt hj]
    omega
end Sw
section CallP
variable {y : MethodName} {cc' : ByteArray} {n' idx na : Nat} {ret' : Option FieldType} {rm' : Room}
theorem g_cVIp (C : Cx Θ Γ cc own nL R) {β : Type} {K : β → Prop} {x : Option Int32} {f : Int32 → Option β} {ci N k o i : Nat} {T : u_T} {ty : Nat → FieldType} {As rest : List Value} (hk : Ok (obd x f) K) (hM : ∀ K', Ok x (fun r => K' (r, h)) → CI Θ y cc' n' ret' rm' (.ref (rr Θ k o i) :: As) h K') (L : cLV own idx y cc' n' ret' na) (kc : KC k ci y.cls T N ty) (ho : o < no k) (hi : i < ni k) (hrc : rm'.cells = 0 ∧ rm'.slots = 0) (hR : rm'.frames + 1 ≤ R.frames ∧ 8 + (n' + 11) + rm'.locals ≤ R.locals) (hd : decode cc pc = .ok (.invokevirtual idx, 3)) (hna : As.length = na) (hst : st = As.reverse ++ .ref (rr Θ k o i) :: rest) (hw : (rest.map fun v => v.category).sum ≤ 8) (hn : pc + 3 = n) (kk : ∀ r, Ok (f r) K → G Θ Γ n lv (.int r :: rest) h) : G Θ Γ pc lv st h := by
  obtain ⟨r, h1, h2⟩ := hk.obd
  refine g_cVI (x := some (r, h)) (f := fun r' h' => @ite _ (r' = r ∧ h' = h) (Classical.propDecidable _) (f r) none) (K := K) C ?_ (fun K' hK' => hM K' ?_) L kc ho hi hrc hR hd hna hst hw hn (fun r' h' hk' => ?_)
  · obtain ⟨b, h3, h4⟩ := h2
    exact ⟨b, by simp only [ob2]; rw [if_pos ⟨trivial, trivial⟩]; exact h3, h4⟩
  · exact ⟨r, h1, hK'.out⟩
  · by_cases hc : r' = r ∧ h' = h
    · obtain ⟨rfl, rfl⟩ := hc
      exact kk r' h2
    · obtain ⟨b, h3, h4⟩ := hk'
      rw [if_neg hc] at h3
      cases h3
theorem g_cVBp (C : Cx Θ Γ cc own nL R) {β : Type} {K : β → Prop} {x : Option Bool} {f : Bool → Option β} {ci N k o i : Nat} {T : u_T} {ty : Nat → FieldType} {As rest : List Value} (hk : Ok (obd x f) K) (hM : ∀ K', Ok x (fun r => K' (r, h)) → CB Θ y cc' n' ret' rm' (.ref (rr Θ k o i) :: As) h K') (L : cLV own idx y cc' n' ret' na) (kc : KC k ci y.cls T N ty) (ho : o < no k) (hi : i < ni k) (hrc : rm'.cells = 0 ∧ rm'.slots = 0) (hR : rm'.frames + 1 ≤ R.frames ∧ 8 + (n' + 11) + rm'.locals ≤ R.locals) (hd : decode cc pc = .ok (.invokevirtual idx, 3)) (hna : As.length = na) (hst : st = As.reverse ++ .ref (rr Θ k o i) :: rest) (hw : (rest.map fun v => v.category).sum ≤ 8) (hn : pc + 3 = n) (kk : ∀ r, Ok (f r) K → G Θ Γ n lv (.int (b2i r) :: rest) h) : G Θ Γ pc lv st h := by
  obtain ⟨r, h1, h2⟩ := hk.obd
  refine g_cVB (x := some (r, h)) (f := fun r' h' => @ite _ (r' = r ∧ h' = h) (Classical.propDecidable _) (f r) none) (K := K) C ?_ (fun K' hK' => hM K' ?_) L kc ho hi hrc hR hd hna hst hw hn (fun r' h' hk' => ?_)
  · obtain ⟨b, h3, h4⟩ := h2
    exact ⟨b, by simp only [ob2]; rw [if_pos ⟨trivial, trivial⟩]; exact h3, h4⟩
  · exact ⟨r, h1, hK'.out⟩
  · by_cases hc : r' = r ∧ h' = h
    · obtain ⟨rfl, rfl⟩ := hc
      exact kk r' h2
    · obtain ⟨b, h3, h4⟩ := hk'
      rw [if_neg hc] at h3
      cases h3
theorem g_cSIp (C : Cx Θ Γ cc own nL R) {β : Type} {K : β → Prop} {x : Option Int32} {f : Int32 → Option β} {av rest : List Value} (hk : Ok (obd x f) K) (hM : ∀ K', Ok x (fun r => K' (r, h)) → CI Θ y cc' n' ret' rm' av h K') (L : cLS own idx y cc' n' ret' na) (hrc : rm'.cells = 0 ∧ rm'.slots = 0) (hR : rm'.frames + 1 ≤ R.frames ∧ 8 + (n' + 11) + rm'.locals ≤ R.locals) (hd : decode cc pc = .ok (.invokestatic idx, 3)) (hna : av.length = na) (hst : st = av.reverse ++ rest) (hw : (rest.map fun v => v.category).sum ≤ 8) (hn : pc + 3 = n) (kk : ∀ r, Ok (f r) K → G Θ Γ n lv (.int r :: rest) h) : G Θ Γ pc lv st h := by
  obtain ⟨r, h1, h2⟩ := hk.obd
  refine g_cSI (x := some (r, h)) (f := fun r' h' => @ite _ (r' = r ∧ h' = h) (Classical.propDecidable _) (f r) none) (K := K) C ?_ (fun K' hK' => hM K' ?_) L hrc hR hd hna hst hw hn (fun r' h' hk' => ?_)
  · obtain ⟨b, h3, h4⟩ := h2
    exact ⟨b, by simp only [ob2]; rw [if_pos ⟨trivial, trivial⟩]; exact h3, h4⟩
  · exact ⟨r, h1, hK'.out⟩
  · by_cases hc : r' = r ∧ h' = h
    · obtain ⟨rfl, rfl⟩ := hc
      exact kk r' h2
    · obtain ⟨b, h3, h4⟩ := hk'
      rw [if_neg hc] at h3
      cases h3
theorem g_cSBp (C : Cx Θ Γ cc own nL R) {β : Type} {K : β → Prop} {x : Option Bool} {f : Bool → Option β} {av rest : List Value} (hk : Ok (obd x f) K) (hM : ∀ K', Ok x (fun r => K' (r, h)) → CB Θ y cc' n' ret' rm' av h K') (L : cLS own idx y cc' n' ret' na) (hrc : rm'.cells = 0 ∧ rm'.slots = 0) (hR : rm'.frames + 1 ≤ R.frames ∧ 8 + (n' + 11) + rm'.locals ≤ R.locals) (hd : decode cc pc = .ok (.invokestatic idx, 3)) (hna : av.length = na) (hst : st = av.reverse ++ rest) (hw : (rest.map fun v => v.category).sum ≤ 8) (hn : pc + 3 = n) (kk : ∀ r, Ok (f r) K → G Θ Γ n lv (.int (b2i r) :: rest) h) : G Θ Γ pc lv st h := by
  obtain ⟨r, h1, h2⟩ := hk.obd
  refine g_cSB (x := some (r, h)) (f := fun r' h' => @ite _ (r' = r ∧ h' = h) (Classical.propDecidable _) (f r) none) (K := K) C ?_ (fun K' hK' => hM K' ?_) L hrc hR hd hna hst hw hn (fun r' h' hk' => ?_)
  · obtain ⟨b, h3, h4⟩ := h2
    exact ⟨b, by simp only [ob2]; rw [if_pos ⟨trivial, trivial⟩]; exact h3, h4⟩
  · exact ⟨r, h1, hK'.out⟩
  · by_cases hc : r' = r ∧ h' = h
    · obtain ⟨rfl, rfl⟩ := hc
      exact kk r' h2
    · obtain ⟨b, h3, h4⟩ := hk'
      rw [if_neg hc] at h3
      cases h3
theorem g_cNIp (C : Cx Θ Γ cc own nL R) {β : Type} {K : β → Prop} {x : Option Int32} {f : Int32 → Option β} {av rest : List Value} (hk : Ok (obd x f) K) (hM : ∀ K', Ok x (fun r => K' (r, h)) → CI Θ y cc' n' ret' rm' av h K') (L : cLN own idx y cc' n' ret' na) (hrc : rm'.cells = 0 ∧ rm'.slots = 0) (hR : rm'.frames + 1 ≤ R.frames ∧ 8 + (n' + 11) + rm'.locals ≤ R.locals) (hd : decode cc pc = .ok (.invokestatic idx, 3)) (hna : av.length = na) (hst : st = av.reverse ++ rest) (hw : (rest.map fun v => v.category).sum ≤ 8) (hn : pc + 3 = n) (kk : ∀ r, Ok (f r) K → G Θ Γ n lv (.int r :: rest) h) : G Θ Γ pc lv st h := by
  obtain ⟨r, h1, h2⟩ := hk.obd
  refine g_cNI (x := some (r, h)) (f := fun r' h' => @ite _ (r' = r ∧ h' = h) (Classical.propDecidable _) (f r) none) (K := K) C ?_ (fun K' hK' => hM K' ?_) L hrc hR hd hna hst hw hn (fun r' h' hk' => ?_)
  · obtain ⟨b, h3, h4⟩ := h2
    exact ⟨b, by simp only [ob2]; rw [if_pos ⟨trivial, trivial⟩]; exact h3, h4⟩
  · exact ⟨r, h1, hK'.out⟩
  · by_cases hc : r' = r ∧ h' = h
    · obtain ⟨rfl, rfl⟩ := hc
      exact kk r' h2
    · obtain ⟨b, h3, h4⟩ := hk'
      rw [if_neg hc] at h3
      cases h3
theorem g_cNBp (C : Cx Θ Γ cc own nL R) {β : Type} {K : β → Prop} {x : Option Bool} {f : Bool → Option β} {av rest : List Value} (hk : Ok (obd x f) K) (hM : ∀ K', Ok x (fun r => K' (r, h)) → CB Θ y cc' n' ret' rm' av h K') (L : cLN own idx y cc' n' ret' na) (hrc : rm'.cells = 0 ∧ rm'.slots = 0) (hR : rm'.frames + 1 ≤ R.frames ∧ 8 + (n' + 11) + rm'.locals ≤ R.locals) (hd : decode cc pc = .ok (.invokestatic idx, 3)) (hna : av.length = na) (hst : st = av.reverse ++ rest) (hw : (rest.map fun v => v.category).sum ≤ 8) (hn : pc + 3 = n) (kk : ∀ r, Ok (f r) K → G Θ Γ n lv (.int (b2i r) :: rest) h) : G Θ Γ pc lv st h := by
  obtain ⟨r, h1, h2⟩ := hk.obd
  refine g_cNB (x := some (r, h)) (f := fun r' h' => @ite _ (r' = r ∧ h' = h) (Classical.propDecidable _) (f r) none) (K := K) C ?_ (fun K' hK' => hM K' ?_) L hrc hR hd hna hst hw hn (fun r' h' hk' => ?_)
  · obtain ⟨b, h3, h4⟩ := h2
    exact ⟨b, by simp only [ob2]; rw [if_pos ⟨trivial, trivial⟩]; exact h3, h4⟩
  · exact ⟨r, h1, hK'.out⟩
  · by_cases hc : r' = r ∧ h' = h
    · obtain ⟨rfl, rfl⟩ := hc
      exact kk r' h2
    · obtain ⟨b, h3, h4⟩ := hk'
      rw [if_neg hc] at h3
      cases h3
end CallP
theorem g_ldc_w (C : Cx Θ Γ cc own nL R) {index : Nat} (v : Int32) (hc : Cond.constant own index v ∈ WS) (hd : decode cc pc = .ok (.ldc_w index, 3)) (hn : pc + 3 = n) (kk : G Θ Γ n lv (.int v :: st) h) : G Θ Γ pc lv st h := by
  subst hn
  exact fun H locs ls hP hS hl => lv_ldcw C.ex C.bt C.ow (C.ws _ hc) hd (kk H locs ls hP hS hl)
section ArrL
variable {k o len : Nat} {i : Int32}
theorem ok_gd {β : Type} {c : Prop} {dz : Decidable c} {z : Option β} {K : β → Prop} (hc : c) (hk : Ok z K) : Ok (@gd _ c dz z) K := by
  unfold gd
  rw [if_pos hc]
  exact hk
theorem g_ialdL (C : Cx Θ Γ cc own nL R) (m : Nat) (an : AN k 0 .int len) (ho : o < no k) (hm : i.toNatClampNeg = m) (hg : inb i len) (hd : decode cc pc = .ok (.iaload, 1)) (hn : pc + 1 = n) (kk : G Θ Γ n lv (.int (h k 0 o m) :: st) h) : G Θ Γ pc lv (.int i :: .ref (rr Θ k o 0) :: st) h := by
  subst hm
  exact g_iald (K := fun _ : Unit => True) (z := some ()) (dz := inferInstance) C an ho hd hn (ok_gd hg ⟨(), rfl, trivial⟩) (fun _ _ => kk)
theorem g_zaldL (C : Cx Θ Γ cc own nL R) (m : Nat) (an : AN k 2 .boolean len) (ho : o < no k) (hm : i.toNatClampNeg = m) (hg : inb i len) (hd : decode cc pc = .ok (.baload, 1)) (hn : pc + 1 = n) (kk : G Θ Γ n lv (.int (h k 0 o m) :: st) h) : G Θ Γ pc lv (.int i :: .ref (rr Θ k o 0) :: st) h := by
  subst hm
  exact g_zald (K := fun _ : Unit => True) (z := some ()) (dz := inferInstance) C an ho hd hn (ok_gd hg ⟨(), rfl, trivial⟩) (fun _ _ => kk)
theorem g_iastL (C : Cx Θ Γ cc own nL R) {β : Type} {K : β → Prop} {f : Mem → Option β} {v : Int32} (m : Nat) (an : AN k 0 .int len) (ho : o < no k) (hm : i.toNatClampNeg = m) (hg : inb i len) (hd : decode cc pc = .ok (.iastore, 1)) (hn : pc + 1 = n) (hk : Ok (bnd (up h k 0 o m v) f) K) (kk : ∀ h', Ok (f h') K → G Θ Γ n lv st h') : G Θ Γ pc lv (.int v :: .int i :: .ref (rr Θ k o 0) :: st) h := by
  subst hm
  exact g_iast (dz := inferInstance) C an ho hd hn (ok_gd hg hk) (fun _ => kk)
theorem g_zastL (C : Cx Θ Γ cc own nL R) {β : Type} {K : β → Prop} {f : Mem → Option β} {v : Int32} (m : Nat) (an : AN k 2 .boolean len) (ho : o < no k) (hm : i.toNatClampNeg = m) (hg : inb i len) (hd : decode cc pc = .ok (.bastore, 1)) (hn : pc + 1 = n) (hk : Ok (bnd (up h k 0 o m (vp_nar .boolean v)) f) K) (kk : ∀ h', Ok (f h') K → G Θ Γ n lv st h') : G Θ Γ pc lv (.int v :: .int i :: .ref (rr Θ k o 0) :: st) h := by
  subst hm
  exact g_zast (dz := inferInstance) C an ho hd hn (ok_gd hg hk) (fun _ => kk)
theorem g_aaldL (C : Cx Θ Γ cc own nL R) (m : Nat) {t : Nat} {E : String} {q : Nat → Nat → Nat → Nat} (ar : AR k t E len q) (ho : o < no k) (hm : i.toNatClampNeg = m) (hg : inb i len) (hd : decode cc pc = .ok (.aaload, 1)) (hn : pc + 1 = n) (kk : G Θ Γ n lv (.ref (q (tB Θ) o m) :: st) h) : G Θ Γ pc lv (.int i :: .ref (rr Θ k o 0) :: st) h := by
  subst hm
  exact g_aald (K := fun _ : Unit => True) (z := some ()) (dz := inferInstance) C ar ho hd hn (ok_gd hg ⟨(), rfl, trivial⟩) (fun _ _ => kk)
end ArrL
end Rules3
