theorem PW_0 {B : Bs} {v : Nat} (h : PW B) (hv : 2 ≤ v ∧ v ≤ 8) : PW (ub B 0 0 v) := by
  obtain ⟨a0, a1, a2, a3, a4, a5, a7, aO, a9, a12⟩ := h
  unfold PW
  refine ⟨by simpa [ub] using hv, by simpa [ub] using a1, by simpa [ub] using a2, by simpa [ub] using a3, by simpa [ub] using a4, by simpa [ub] using a5, by simpa [ub] using a7, ⟨by simpa [ub] using aO.1, by simpa [ub] using aO.2⟩, by simpa [ub] using a9, by simpa [ub] using a12⟩
theorem HI_f {B B' : Bs} {hi : Nat} (h : HI B hi) (h1 : B' 1 0 = B 1 0) (h2 : B' 2 0 = B 2 0) (h7 : ∀ x, B' 7 x = B 7 x) (h11 : ∀ x, B' 11 x = B 11 x) (h15 : ∀ x, B' 15 x = B 15 x) : HI B' hi := by
  unfold HI
  simp only [h1, h2, h7, h11, h15]
  exact h
theorem PW_3 {B : Bs} {v w : Nat} (h : PW B) (hv : v ≤ 9) (hw : w ≤ 8) : PW (ub (ub B 3 0 v) 4 0 w) := by
  obtain ⟨a0, a1, a2, a3, a4, a5, a7, aO, a9, a12⟩ := h
  unfold PW
  refine ⟨by simpa [ub] using a0, by simpa [ub] using a1, by simpa [ub] using a2, by simpa [ub] using hv, by simpa [ub] using hw, by simpa [ub] using a5, by simpa [ub] using a7, ⟨by simpa [ub] using aO.1, by simpa [ub] using aO.2⟩, by simpa [ub] using a9, by simpa [ub] using a12⟩
theorem PW_7 {B : Bs} {x v : Nat} (h : PW B) (hv : v ≤ 9) : PW (ub B 7 x v) := by
  obtain ⟨a0, a1, a2, a3, a4, a5, a7, aO, a9, a12⟩ := h
  unfold PW
  refine ⟨by simpa [ub] using a0, by simpa [ub] using a1, by simpa [ub] using a2, by simpa [ub] using a3, by simpa [ub] using a4, by simpa [ub] using a5, fun y hy => ?_, ⟨by simpa [ub] using aO.1, by simpa [ub] using aO.2⟩, by simpa [ub] using a9, by simpa [ub] using a12⟩
  have := a7 y hy
  unfold ub
  split <;> omega
theorem HI_7 {B : Bs} {x v hi : Nat} (h : HI B hi) (hx : x ≤ 7) (h0 : B 7 x = 0) (hv : 1 ≤ v) : HI (ub B 7 x v) (max hi (x + 1)) := by
  obtain ⟨b0, b1, b2, b3, b4⟩ := h
  have e : ∀ f i, f ≠ 7 → ub B 7 x v f i = B f i := fun f i hf => ub_n hf
  have e7 : ∀ y, ub B 7 x v 7 y = if y = x then v else B 7 y := fun y => by unfold ub; simp
  unfold HI
  simp only [e 1 _ (by decide), e 2 _ (by decide), e 11 _ (by decide), e 15 _ (by decide), e7]
  refine ⟨by omega, fun y hy hn => ?_, fun c hc => by have := b2 c hc; omega, fun k hk => by have := b3 k hk; omega, fun _ => ?_⟩
  · by_cases q : y = x
    · omega
    · rw [if_neg q] at hn; have := b1 y hy hn; omega
  · by_cases q : hi ≤ x + 1
    · exact Or.inl ⟨x, by omega, by rw [if_pos rfl]; omega, by omega⟩
    · rcases b4 (by omega) with ⟨y, y1, y2, y3⟩ | ⟨c, c1, c2⟩ | ⟨k, k1, k2⟩
      · refine Or.inl ⟨y, y1, ?_, by omega⟩
        rw [if_neg (by omega)]; exact y2
      · exact Or.inr (Or.inl ⟨c, c1, by omega⟩)
      · exact Or.inr (Or.inr ⟨k, k1, by omega⟩)
theorem PW_mnt {B : Bs} {z x : Nat} (h : PW B) (h6 : B 1 0 < 6) (hz : 1 ≤ z ∧ z ≤ 9) (hx : x ≤ 7) : PW (mnt B z x) := by
  obtain ⟨a0, a1, a2, a3, a4, a5, a7, aO, a9, a12⟩ := h
  have g : ∀ f i, (f ≠ 1 ∧ f ≠ 9 ∧ f ≠ 10 ∧ f ≠ 11) → mnt B z x f i = B f i := fun f i h => mnt_f h
  unfold PW
  simp only [g 0 _ (by decide), g 2 _ (by decide), g 3 _ (by decide), g 4 _ (by decide), g 5 _ (by decide), g 7 _ (by decide), g 12 _ (by decide), g 13 _ (by decide), g 14 _ (by decide), g 15 _ (by decide), mnt_1]
  refine ⟨a0, by omega, a2, a3, a4, a5, a7, NO_mnt aO, fun c hc => ?_, a12⟩
  by_cases e : c = B 1 0
  · subst e; rw [mnt_9, mnt_10, mnt_11]; omega
  · rw [mnt_o (by decide) e, mnt_o (by decide) e, mnt_o (by decide) e]; exact a9 c (by omega)
theorem HI_mnt {B : Bs} {z x hi : Nat} (h : HI B hi) (hx : x ≤ 7) : HI (mnt B z x) (max hi (x + 1)) := by
  obtain ⟨b0, b1, b2, b3, b4⟩ := h
  have g : ∀ f i, (f ≠ 1 ∧ f ≠ 9 ∧ f ≠ 10 ∧ f ≠ 11) → mnt B z x f i = B f i := fun f i h => mnt_f h
  unfold HI
  simp only [g 2 _ (by decide), g 7 _ (by decide), g 15 _ (by decide), mnt_1]
  refine ⟨by omega, fun y hy hn => by have := b1 y hy hn; omega, fun c hc => ?_, fun k hk => by have := b3 k hk; omega, fun _ => ?_⟩
  · by_cases e : c = B 1 0
    · subst e; rw [mnt_11]; omega
    · rw [mnt_o (by decide) e]; have := b2 c (by omega); omega
  · by_cases q : hi ≤ x + 1
    · exact Or.inr (Or.inl ⟨B 1 0, by omega, by rw [mnt_11]; omega⟩)
    · rcases b4 (by omega) with ⟨y, y1, y2, y3⟩ | ⟨c, c1, c2⟩ | ⟨k, k1, k2⟩
      · exact Or.inl ⟨y, y1, y2, by omega⟩
      · exact Or.inr (Or.inl ⟨c, by omega, by rw [mnt_o (by decide) (by omega)]; omega⟩)
      · exact Or.inr (Or.inr ⟨k, k1, by omega⟩)
theorem PW_10 {B : Bs} {i : Nat} (h : PW B) : PW (ub B 10 i 1) := by
  obtain ⟨a0, a1, a2, a3, a4, a5, a7, aO, a9, a12⟩ := h
  unfold PW
  refine ⟨by simpa [ub] using a0, by simpa [ub] using a1, by simpa [ub] using a2, by simpa [ub] using a3, by simpa [ub] using a4, by simpa [ub] using a5, by simpa [ub] using a7, ⟨by simpa [ub] using aO.1, by simpa [ub] using aO.2⟩, fun c hc => ?_, by simpa [ub] using a12⟩
  rw [ub_n (by decide)] at hc
  have := a9 c hc
  have e9 : ub B 10 i 1 9 c = B 9 c := ub_n (by decide)
  have e11 : ub B 10 i 1 11 c = B 11 c := ub_n (by decide)
  rw [e9, e11]
  refine ⟨this.1, ?_, this.2.2⟩
  unfold ub
  split <;> omega
section Crb
variable {B : Bs} {d c z x : Nat}
theorem crb_2 : crb B d c z x 2 0 = B 2 0 + 1 := by unfold crb; simp
theorem crb_6 : crb B d c z x 6 0 = B 2 0 + 1 := by unfold crb; simp
theorem crb_f {f i : Nat} (h : f ≠ 2 ∧ f ≠ 6 ∧ f ≠ 8 ∧ f ≠ 12 ∧ f ≠ 13 ∧ f ≠ 14 ∧ f ≠ 15) : crb B d c z x f i = B f i := by
  unfold crb
  rw [if_neg (by omega), if_neg (by omega), if_neg (by omega), if_neg (by omega), if_neg (by omega), if_neg (by omega)]
theorem crb_o {f i : Nat} (h : f ≠ 2 ∧ f ≠ 6) (hi : i ≠ B 2 0) : crb B d c z x f i = B f i := by
  unfold crb
  rw [if_neg (by omega), if_neg (by omega), if_neg (by omega), if_neg (by omega), if_neg (by omega), if_neg (by omega)]
theorem crb_8 : crb B d c z x 8 (B 2 0) = B 2 0 := by unfold crb; simp
theorem crb_12 : crb B d c z x 12 (B 2 0) = c := by unfold crb; simp
theorem crb_13 : crb B d c z x 13 (B 2 0) = z := by unfold crb; simp
theorem crb_14 : crb B d c z x 14 (B 2 0) = d := by unfold crb; simp
theorem crb_15 : crb B d c z x 15 (B 2 0) = x := by unfold crb; simp
theorem PW_crb (h : PW B) (h4 : B 2 0 < 4) (hd : d ≤ 1) (hc : 1 ≤ c ∧ c ≤ 9) (hz : 1 ≤ z ∧ z ≤ 9) (hx : x ≤ 7) : PW (crb B d c z x) := by
  obtain ⟨a0, a1, a2, a3, a4, a5, a7, aO, a9, a12⟩ := h
  have g : ∀ f i, (f ≠ 2 ∧ f ≠ 6 ∧ f ≠ 8 ∧ f ≠ 12 ∧ f ≠ 13 ∧ f ≠ 14 ∧ f ≠ 15) → crb B d c z x f i = B f i := fun f i h => crb_f h
  unfold PW NO
  simp only [g 0 _ (by decide), g 1 _ (by decide), g 3 _ (by decide), g 4 _ (by decide), g 5 _ (by decide), g 7 _ (by decide), g 9 _ (by decide), g 10 _ (by decide), g 11 _ (by decide), crb_2, crb_6]
  refine ⟨a0, a1, by omega, a3, a4, a5, a7, ⟨trivial, fun i hi => ?_⟩, a9, fun k hk => ?_⟩
  · by_cases e : i = B 2 0
    · subst e; exact crb_8
    · rw [crb_o (by decide) e]; exact aO.2 i (by omega)
  · by_cases e : k = B 2 0
    · subst e; rw [crb_12, crb_13, crb_14, crb_15]; omega
    · rw [crb_o (by decide) e, crb_o (by decide) e, crb_o (by decide) e, crb_o (by decide) e]; exact a12 k (by omega)
theorem HI_crb {hi : Nat} (h : HI B hi) (hx : x ≤ 7) : HI (crb B d c z x) (max hi (x + 1)) := by
  obtain ⟨b0, b1, b2, b3, b4⟩ := h
  have g : ∀ f i, (f ≠ 2 ∧ f ≠ 6 ∧ f ≠ 8 ∧ f ≠ 12 ∧ f ≠ 13 ∧ f ≠ 14 ∧ f ≠ 15) → crb B d c z x f i = B f i := fun f i h => crb_f h
  unfold HI
  simp only [g 1 _ (by decide), g 7 _ (by decide), g 11 _ (by decide), crb_2]
  refine ⟨by omega, fun y hy hn => by have := b1 y hy hn; omega, fun c hc => by have := b2 c hc; omega, fun k hk => ?_, fun _ => ?_⟩
  · by_cases e : k = B 2 0
    · subst e; rw [crb_15]; omega
    · rw [crb_o (by decide) e]; have := b3 k (by omega); omega
  · by_cases q : hi ≤ x + 1
    · exact Or.inr (Or.inr ⟨B 2 0, by omega, by rw [crb_15]; omega⟩)
    · rcases b4 (by omega) with ⟨y, y1, y2, y3⟩ | ⟨c, c1, c2⟩ | ⟨k, k1, k2⟩
      · exact Or.inl ⟨y, y1, y2, by omega⟩
      · exact Or.inr (Or.inl ⟨c, c1, by omega⟩)
      · exact Or.inr (Or.inr ⟨k, by omega, by rw [crb_o (by decide) (by omega)]; omega⟩)
end Crb
def LPo (h0 : Mem) (t b : Nat) (X : Flt ⊕ Lst) (q : Bool × Mem) : Prop := GF h0 q.2 ∧ ((∃ f, X = .inl f ∧ (1 ≤ f.1 ∧ f.1 ≤ 6) ∧ q.1 = false ∧ FTl q.2 f) ∨ (∃ e B' pt' tt' hi', X = .inr (e, B', pt', tt', hi') ∧ q.1 = true ∧ BC q.2 B' ∧ FG q.2 pt' tt' ∧ q.2 16 2 0 0 = nI 0 ∧ q.2 16 8 0 0 = nI e ∧ b < e ∧ e ≤ t ∧ PW B' ∧ HI B' hi'))
section Cl
variable {h h0 g : Mem} {t : Nat} {u : Nat → Nat} {s a b hi : Nat} {B : Bs} {pt tt : Bool}
theorem c_fin (hC : CT h t u) (hU : UB t u) (hs : s ≤ t) (hbs : b ≤ s) (h8 : h 16 8 0 0 = nI s) (h2 : h 16 2 0 0 = nI 0) (hG : GF h0 h) (hB : BC h B) (hF : FG h pt tt) (hP : PW B) (hH : HI B hi) : Ok (ob2 (f_X8_takeToken h) (fun r1 h1 => (if r1 = true then ob2 (f_X8_endsLine h1) (fun r2 h2 => (if r2 = true then some (true, h2) else some (false, h2))) else some (false, h1)))) (LPo h0 t b (rb (stop t u s) (fun e => .inr (e, B, pt, tt, hi)))) := by
  refine (c_stop hC hU hs h8 h2).mono ?_
  rintro ⟨r, h1⟩ ⟨c1, c2⟩
  refine ⟨hG.tr c1.g, ?_⟩
  rcases c2 with ⟨f, d1, d2, d3, d4⟩ | ⟨e, d1, d2, d3, d4, d5, d6⟩
  · exact Or.inl ⟨f, by rw [d1]; rfl, d2, d3, d4⟩
  · exact Or.inr ⟨e, B, pt, tt, hi, by rw [d1]; rfl, d4, BC_tf hB c1, FG_tf hF c1, d6, d5, by omega, d3, hP, hH⟩
theorem c_ref (c : Nat) (hc : 1 ≤ c ∧ c ≤ 6) (hG : GF h0 h) (h7 : h 16 7 0 0 = nI a) {X : Flt ⊕ Lst} (hX : X = .inl (c, a)) : Ok (ob2 (f_X8_refuse (nI c) (h 16 7 0 0) h) (fun r1 h2 => some (r1, h2))) (LPo h0 t b X) := by
  unfold f_X8_refuse
  refine ok_ob2 (ok_bnd (ok_bnd (ok_some (ok_some ⟨hG.tr ((GF.up (by omega)).tr (GF.up (by omega))), Or.inl ⟨(c, a), hX, hc, rfl, FTl_mk h c a _ h7⟩⟩))))
theorem b2i_f : b2i false = nI 0 := rfl
theorem b2i_t : b2i true = nI 1 := rfl
theorem i10 : ¬ nI 1 = (0 : Int32) := by decide
theorem c_places (hC : CT h t u) (hU : UB t u) (hb : b ≤ t) (h8 : h 16 8 0 0 = nI b) (h7 : h 16 7 0 0 = nI a) (h2 : h 16 2 0 0 = nI 0) (hB : BC h B) (hF : FG h pt tt) (hP : PW B) (hH : HI B hi) : Ok (f_X8_takePlaces h) (LPo h t b (lPlaces t u a b B pt tt hi)) := by
  unfold f_X8_takePlaces lPlaces
  obtain ⟨p1, p2⟩ := id hF
  cases pt with
  | true => exact ok_ite (fun e => absurd (p1.symm.trans e) i10) (fun _ => c_ref 4 (by omega) GF.rf h7 rfl)
  | false =>
    refine ok_ite (fun _ => ok_bnd (ok_ob2 ?_)) (fun e => absurd p1 e)
    have hC1 : CT (up h 16 4 0 0 1) t u := CT_gf hC (GF.up (by omega))
    refine (c_num hC1 hU hb ((up_o (by omega)).trans h8) ((up_o (by omega)).trans h2) (lo := 2) (hi := 8) (by omega) (by omega)).mono ?_
    rintro ⟨r, h3⟩ ⟨hT, hq⟩
    have hG : GF h h3 := (GF.up (k := 16) (by omega)).tr hT.g
    rcases hq with ⟨f, n1, n2, n3, n4⟩ | ⟨v, e, n1, n2, n3, n4, n5, n6, n7, n8, n9, n10⟩
    · dsimp only at n3; subst n3
      exact ok_ite (fun e => by cases e) (fun _ => ok_some ⟨hG, Or.inl ⟨f, by rw [n1]; rfl, n2, rfl, n4⟩⟩)
    · dsimp only at n6 n7 n8 n9 n10; subst n6
      have hB3 : BC h3 B := BC_tf (BC_16 hB) hT
      have hF3 : FG h3 true tt := ⟨(hT _ _ _ _ (by omega)).trans up_s, (hT _ _ _ _ (by omega)).trans ((up_o (by omega)).trans p2)⟩
      refine ok_ite (fun _ => ok_bnd ?_) (fun e => absurd rfl e)
      rw [n1]
      show Ok _ (LPo h t b (rb (stop t u e) (fun e => .inr (e, ub B 0 0 v, true, tt, hi))))
      have e9 : (true, h3).snd 16 9 0 0 = nI v := n7
      rw [e9]
      refine c_fin (CT_gf hC (hG.tr (GF.up (by omega)))) hU n5 (by omega) ((up_o (by omega)).trans n8) ((up_o (by omega)).trans n10) (hG.tr (GF.up (by omega))) ⟨CB_0 hB3.1, fun k hk => ?_⟩ ⟨(up_o (by omega)).trans hF3.1, (up_o (by omega)).trans hF3.2⟩ (PW_0 hP ⟨n2, n3⟩) (HI_f hH (ub_n (by decide)) (ub_n (by decide)) (fun _ => ub_n (by decide)) (fun _ => ub_n (by decide)) (fun _ => ub_n (by decide)))
      rw [ub_n (by decide)] at hk
      exact (up_o (by omega)).trans (hB3.2 k hk)
theorem c_tide (hC : CT h t u) (hU : UB t u) (hb : b ≤ t) (h8 : h 16 8 0 0 = nI b) (h7 : h 16 7 0 0 = nI a) (h2 : h 16 2 0 0 = nI 0) (hB : BC h B) (hF : FG h pt tt) (hP : PW B) (hH : HI B hi) : Ok (f_X8_takeTide h) (LPo h t b (lTide t u a b B pt tt hi)) := by
  unfold f_X8_takeTide lTide
  obtain ⟨p1, p2⟩ := id hF
  cases tt with
  | true => exact ok_ite (fun e => absurd (p2.symm.trans e) i10) (fun _ => c_ref 4 (by omega) GF.rf h7 rfl)
  | false =>
    refine ok_ite (fun _ => ok_bnd (ok_ob2 ?_)) (fun e => absurd p2 e)
    have hC1 : CT (up h 16 5 0 0 1) t u := CT_gf hC (GF.up (by omega))
    refine (c_num hC1 hU hb ((up_o (by omega)).trans h8) ((up_o (by omega)).trans h2) (lo := 1) (hi := 9) (by omega) (by omega)).mono ?_
    rintro ⟨r, h3⟩ ⟨hT, hq⟩
    have hG : GF h h3 := (GF.up (k := 16) (by omega)).tr hT.g
    rcases hq with ⟨f, n1, n2, n3, n4⟩ | ⟨v, e, n1, n2, n3, n4, n5, n6, n7, n8, n9, n10⟩
    · dsimp only at n3; subst n3
      exact ok_ite (fun e => by cases e) (fun _ => ok_some ⟨hG, Or.inl ⟨f, by rw [n1]; rfl, n2, rfl, n4⟩⟩)
    · dsimp only at n6 n7 n8 n9 n10; subst n6
      have hB3 : BC h3 B := BC_tf (BC_16 hB) hT
      have hF3 : FG h3 pt true := ⟨(hT _ _ _ _ (by omega)).trans ((up_o (by omega)).trans p1), (hT _ _ _ _ (by omega)).trans up_s⟩
      refine ok_ite (fun _ => ok_bnd (ok_ob2 ?_)) (fun e => absurd rfl e)
      rw [n1]
      have e9 : (true, h3).snd 16 9 0 0 = nI v := n7
      rw [e9]
      have hB4 : BC (up h3 1 6 2 0 (nI v)) (ub B 3 0 v) := ⟨CB_3 hB3.1, fun k hk => (up_o (by omega)).trans (hB3.2 k (by rw [ub_n (by decide)] at hk; exact hk))⟩
      have hG4 : GF h (up h3 1 6 2 0 (nI v)) := hG.tr (GF.up (by omega))
      refine (c_num (CT_gf hC hG4) hU n5 ((up_o (by omega)).trans n8) ((up_o (by omega)).trans n10) (lo := 0) (hi := 8) (by omega) (by omega)).mono ?_
      rintro ⟨r, h5⟩ ⟨hT5, hq⟩
      have hG5 : GF h h5 := hG4.tr hT5.g
      rcases hq with ⟨f, o1, o2, o3, o4⟩ | ⟨w, e', o1, o2, o3, o4, o5, o6, o7, o8, o9, o10⟩
      · dsimp only at o3; subst o3
        exact ok_ite (fun e => by cases e) (fun _ => ok_some ⟨hG5, Or.inl ⟨f, by rw [rb_r, o1]; rfl, o2, rfl, o4⟩⟩)
      · dsimp only at o6 o7 o8 o9 o10; subst o6
        have hB5 := BC_tf hB4 hT5
        have hF5 : FG h5 pt true := ⟨(hT5 _ _ _ _ (by omega)).trans ((up_o (by omega)).trans hF3.1), (hT5 _ _ _ _ (by omega)).trans ((up_o (by omega)).trans hF3.2)⟩
        refine ok_ite (fun _ => ok_bnd ?_) (fun e => absurd rfl e)
        rw [rb_r, o1]
        show Ok _ (LPo h t b (rb (stop t u e') (fun e => .inr (e, ub (ub B 3 0 v) 4 0 w, pt, true, hi))))
        have e9' : (true, h5).snd 16 9 0 0 = nI w := o7
        rw [e9']
        refine c_fin (CT_gf hC (hG5.tr (GF.up (by omega)))) hU o5 (by omega) ((up_o (by omega)).trans o8) ((up_o (by omega)).trans o10) (hG5.tr (GF.up (by omega))) ⟨CB_4 hB5.1, fun k hk => ?_⟩ ⟨(up_o (by omega)).trans hF5.1, (up_o (by omega)).trans hF5.2⟩ (PW_3 hP n3 o3) (HI_f hH ?_ ?_ (fun _ => ?_) (fun _ => ?_) (fun _ => ?_))
        · rw [ub_n (by decide)] at hk
          exact (up_o (by omega)).trans (hB5.2 k hk)
        · rw [ub_n (by decide), ub_n (by decide)]
        · rw [ub_n (by decide), ub_n (by decide)]
        · rw [ub_n (by decide), ub_n (by decide)]
        · rw [ub_n (by decide), ub_n (by decide)]
        · rw [ub_n (by decide), ub_n (by decide)]
theorem c_hole (hC : CT h t u) (hU : UB t u) (hb : b ≤ t) (h8 : h 16 8 0 0 = nI b) (h2 : h 16 2 0 0 = nI 0) (hB : BC h B) (hF : FG h pt tt) (hP : PW B) (hH : HI B hi) : Ok (f_X8_takeHole h) (LPo h t b (lHole t u b B pt tt hi)) := by
  unfold f_X8_takeHole lHole
  refine ok_ob2 ?_
  refine (c_num hC hU hb h8 h2 (lo := 0) (hi := 7) (by omega) (by omega)).mono ?_
  rintro ⟨r, h3⟩ ⟨hT, hq⟩
  have hG : GF h h3 := hT.g
  rcases hq with ⟨f, n1, n2, n3, n4⟩ | ⟨v, e, n1, n2, n3, n4, n5, n6, n7, n8, n9, n10⟩
  · dsimp only at n3; subst n3
    exact ok_ite (fun e => by cases e) (fun _ => ok_some ⟨hG, Or.inl ⟨f, by rw [n1]; rfl, n2, rfl, n4⟩⟩)
  · dsimp only at n6 n7 n8 n9 n10; subst n6
    have hB3 : BC h3 B := BC_tf hB hT
    have hF3 : FG h3 pt tt := FG_tf hF hT
    refine ok_ite (fun _ => ok_bnd ?_) (fun e => absurd rfl e)
    rw [n1, rb_r]
    have e9 : (true, h3).snd 16 9 0 0 = nI v := n7
    rw [e9]
    have f7 : h3 2 0 2 (nI v).toNatClampNeg = nI (B 7 v) := by rw [nI_clamp (by omega)]; exact hB3.1.2.2.2.2.2.2.2.1 v (by omega)
    have w7 := hP.2.2.2.2.2.2.1 v (by omega)
    rw [wp_gd]
    refine ⟨by rw [inb_nI_iff (by omega)]; omega, ?_⟩
    by_cases q : B 7 v = 0
    · refine ok_ite (fun _ => ok_ob2 ?_) (fun e => absurd (show h3 2 0 2 (nI v).toNatClampNeg = 0 from by rw [f7, q]; rfl) e)
      refine (c_num (CT_gf hC hG) hU n5 n8 n10 (lo := 1) (hi := 9) (by omega) (by omega)).mono ?_
      rintro ⟨r, h5⟩ ⟨hT5, hq⟩
      have hG5 : GF h h5 := hG.tr hT5.g
      rcases hq with ⟨f, o1, o2, o3, o4⟩ | ⟨w, e', o1, o2, o3, o4, o5, o6, o7, o8, o9, o10⟩
      · dsimp only at o3; subst o3
        exact ok_ite (fun e => by cases e) (fun _ => ok_some ⟨hG5, Or.inl ⟨f, by dsimp only; rw [if_pos q, o1]; rfl, o2, rfl, o4⟩⟩)
      · dsimp only at o6 o7 o8 o9 o10; subst o6
        have hB5 := BC_tf hB3 hT5
        have hF5 := FG_tf hF3 hT5
        refine ok_ite (fun _ => ?_) (fun e => absurd rfl e)
        rw [wp_gd]
        refine ⟨by rw [inb_nI_iff (by omega)]; omega, ok_bnd ?_⟩
        dsimp only
        rw [if_pos q, o1]
        show Ok _ (LPo h t b (rb (stop t u e') (fun e => .inr (e, ub B 7 v w, pt, tt, max hi (v + 1)))))
        rw [o7, nI_clamp (by omega)]
        refine c_fin (CT_gf hC (hG5.tr (GF.up (by omega)))) hU o5 (by omega) ((up_o (by omega)).trans o8) ((up_o (by omega)).trans o10) (hG5.tr (GF.up (by omega))) ⟨CB_7 hB5.1, fun k hk => ?_⟩ ⟨(up_o (by omega)).trans hF5.1, (up_o (by omega)).trans hF5.2⟩ (PW_7 hP o3) (HI_7 hH n3 q o2)
        rw [ub_n (by decide)] at hk
        exact (up_o (by omega)).trans (hB5.2 k hk)
    · refine ok_ite (fun e => absurd (nI_inj (b := 0) (by omega) (by omega) (f7.symm.trans e)) q) (fun _ => ?_)
      refine c_ref 4 (by omega) hG n9 ?_
      dsimp only
      rw [if_neg q]
end Cl
