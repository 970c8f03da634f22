theorem ok_put {γ : Type} {x : Int32} {n N k j o : Nat} {dz : Decidable (inb x N)} {h : Mem} {v : Int32} {F : Mem → Option γ} {K : γ → Prop} (hx : x = nI n) (hn : n < N) (hN : N ≤ 1000) (hk : Ok (F (up h k j o n v)) K) : Ok (@gd _ (inb x N) dz (bnd (up h k j o x.toNatClampNeg v) F)) K := by
  subst hx
  rw [wp_gd]
  refine ⟨by rw [inb_nI_iff (by omega)]; exact hn, ?_⟩
  rw [nI_clamp (by omega)]
  exact hk
def RLo (h0 : Mem) (t : Nat) (u : Nat → Nat) (X : Flt ⊕ Lst) (q : Mem) : Prop := DF h0 q ∧ ((∃ f, X = .inl f ∧ (1 ≤ f.1 ∧ f.1 ≤ 6) ∧ RF q f) ∨ (∃ s2 B' pt' tt' hi', X = rb (stop t u s2) (fun e => .inr (e, B', pt', tt', hi')) ∧ s2 ≤ t ∧ RX t u q s2 ∧ DR q B' pt' tt' hi' ∧ PW B'))
theorem SN_0 {s : Nat → Int32} {B : Bs} {v : Nat} (h : SN s B) : SN s (ub B 0 0 v) := by
  obtain ⟨s0, s1, s2, s3, s4, s5, s6⟩ := h
  refine ⟨fun x hx => by rw [ub_n (by decide)]; exact s0 x hx, by rw [ub_n (by decide)]; exact s1, fun c hc => ?_, fun k hk => ?_, by rw [ub_n (by decide)]; exact s4, by rw [ub_n (by decide)]; exact s5, by rw [ub_n (by decide)]; exact s6⟩
  · rw [ub_n (by decide)] at hc; rw [ub_n (by decide), ub_n (by decide), ub_n (by decide)]; exact s2 c hc
  · rw [ub_n (by decide)] at hk; rw [ub_n (by decide), ub_n (by decide), ub_n (by decide), ub_n (by decide)]; exact s3 k hk
theorem SN_crb {s s' : Nat → Int32} {B : Bs} {d c z x : Nat} (h : SN s B) (hn : B 1 0 ≤ 6) (hm : B 2 0 < 4) (h35 : s' (35 + B 2 0) = nI d) (h27 : s' (27 + B 2 0) = nI c) (h31 : s' (31 + B 2 0) = nI z) (h39 : s' (39 + B 2 0) = nI x) (ho : ∀ m, m ≠ 35 + B 2 0 → m ≠ 27 + B 2 0 → m ≠ 31 + B 2 0 → m ≠ 39 + B 2 0 → s' m = s m) : SN s' (crb B d c z x) := by
  obtain ⟨s0, s1, s2, s3, s4, s5, s6⟩ := h
  refine ⟨fun x hx => ?_, ?_, fun c hc => ?_, fun k hk => ?_, ?_, ?_, ?_⟩
  · rw [crb_f (by decide), ho _ (by omega) (by omega) (by omega) (by omega)]; exact s0 x hx
  · rw [crb_f (by decide), ho _ (by omega) (by omega) (by omega) (by omega)]; exact s1
  · rw [crb_f (by decide)] at hc
    rw [crb_f (by decide), crb_f (by decide), crb_f (by decide), ho _ (by omega) (by omega) (by omega) (by omega), ho _ (by omega) (by omega) (by omega) (by omega), ho _ (by omega) (by omega) (by omega) (by omega)]; exact s2 c hc
  · rw [crb_2] at hk
    by_cases e : k = B 2 0
    · subst e; rw [crb_12, crb_13, crb_14, crb_15]; exact ⟨h27, h31, h35, h39⟩
    · rw [crb_o (by decide) e, crb_o (by decide) e, crb_o (by decide) e, crb_o (by decide) e, ho _ (by omega) (by omega) (by omega) (by omega), ho _ (by omega) (by omega) (by omega) (by omega), ho _ (by omega) (by omega) (by omega) (by omega), ho _ (by omega) (by omega) (by omega) (by omega)]; exact s3 k (by omega)
  · rw [crb_f (by decide), ho _ (by omega) (by omega) (by omega) (by omega)]; exact s4
  · rw [crb_f (by decide), ho _ (by omega) (by omega) (by omega) (by omega)]; exact s5
  · rw [crb_f (by decide), ho _ (by omega) (by omega) (by omega) (by omega)]; exact s6
section Cl
variable {h h0 g : Mem} {t : Nat} {u : Nat → Nat} {s a b hi : Nat} {B : Bs} {pt tt : Bool}
theorem stop_bad (w : bad t u s) : stop t u s = .inl (1, ta t u s) := by
  have w' : tkd t u s = 4 ∨ (tkd t u s = 2 ∧ 2 < tb t u s - ta t u s) := w
  unfold stop; rw [if_pos w']
theorem m_places (hX : RX t u h b) (hU : UB t u) (hb : b ≤ t) (hD : DR h B pt tt hi) (hP : PW B) : Ok (f_X10_readLineOf (nI 0) h) (RLo h t u (rb (num t u 2 8 b) (fun q => rb (stop t u q.2) (fun e => .inr (e, ub B 0 0 q.1, pt, tt, hi))))) := by
  unfold f_X10_readLineOf
  refine ok_ite (fun _ => ok_ob2 ((m_num hX hU hb (lo := 2) (hi := 8) (by omega) (by omega)).mono ?_)) (fun e => absurd rfl e)
  rintro ⟨r, h1⟩ ⟨hF, hq⟩
  refine ok_bnd (ok_some ⟨hF.d.tr (DF.up (by omega)), ?_⟩)
  rcases hq with ⟨f, e1, e2, e3, e4⟩ | ⟨v, e, e1, e2, e3, e4, e5, e6, e7⟩
  · exact Or.inl ⟨f, by rw [e1]; rfl, e2, RF_kf e4 (KF.up (by omega))⟩
  · dsimp only at e6 e7
    subst e6
    refine Or.inr ⟨e, ub B 0 0 v, pt, tt, hi, by rw [e1]; rfl, e5, RX_kf e7 (KF.up (by omega)), ?_, PW_0 hP ⟨e2, e3⟩⟩
    obtain ⟨a, b, c, d, f, g, k⟩ := DR_nf hD hP.2.1 hP.2.2.1 hF
    have e00 : ub B 0 0 v 0 0 = v := by simp [ub]
    refine ⟨SN_fr (by rw [ub_n (by decide)]; exact hP.2.1) (by rw [ub_n (by decide)]; exact hP.2.2.1) (SN_0 a) (fun i hi => up_o (by omega)), by rw [e00]; exact up_s, by rw [ub_n (by decide)]; exact (up_o (by omega)).trans c, (up_o (by omega)).trans d, (up_o (by omega)).trans f, fun c h1 h2 => (up_o (by omega)).trans (g c (by rw [ub_n (by decide)] at h1; exact h1) h2), (up_o (by omega)).trans k⟩
theorem m_tide (hX : RX t u h b) (hU : UB t u) (hb : b ≤ t) (hD : DR h B pt tt hi) (hP : PW B) : Ok (f_X10_readLineOf (nI 1) h) (RLo h t u (rb (num t u 1 9 b) (fun q => rb (num t u 0 8 q.2) (fun r => rb (stop t u r.2) (fun e => .inr (e, ub (ub B 3 0 q.1) 4 0 r.1, pt, tt, hi)))))) := by
  unfold f_X10_readLineOf
  refine ok_ite (fun e => absurd e (by decide)) (fun _ => ok_ite (fun _ => ok_ob2 ((m_num hX hU hb (lo := 1) (hi := 9) (by omega) (by omega)).mono ?_)) (fun e => absurd rfl e))
  rintro ⟨r, h1⟩ ⟨hF, hq⟩
  rcases hq with ⟨f, e1, e2, e3, e4⟩ | ⟨v, e, e1, e2, e3, e4, e5, e6, e7⟩
  · have r1 : RF (up h1 27 0 0 43 r) f := RF_kf e4 (KF.up (by omega))
    refine ok_bnd (ok_ob2 (ok_eq (m_num_f r1 e2) (ok_bnd (ok_some ⟨hF.d.tr ((DF.up (by omega)).tr (DF.up (by omega))), Or.inl ⟨f, by rw [e1]; rfl, e2, RF_kf r1 (KF.up (by omega))⟩⟩))))
  · dsimp only at e6 e7
    subst e6
    refine ok_bnd (ok_ob2 ((m_num (RX_kf e7 (KF.up (by omega))) hU e5 (lo := 0) (hi := 8) (by omega) (by omega)).mono ?_))
    rintro ⟨r, h2⟩ ⟨hF2, hq⟩
    refine ok_bnd (ok_some ⟨hF.d.tr ((DF.up (by omega)).tr (hF2.d.tr (DF.up (by omega)))), ?_⟩)
    rcases hq with ⟨f, o1, o2, o3, o4⟩ | ⟨w, e', o1, o2, o3, o4, o5, o6, o7⟩
    · exact Or.inl ⟨f, by rw [e1, rb_r, o1]; rfl, o2, RF_kf o4 (KF.up (by omega))⟩
    · dsimp only at o6 o7
      subst o6
      refine Or.inr ⟨e', ub (ub B 3 0 v) 4 0 w, pt, tt, hi, by rw [e1, rb_r, o1]; rfl, o5, RX_kf o7 (KF.up (by omega)), ?_, PW_3 hP e3 o3⟩
      have hF2' : NF (up h1 27 0 0 43 (nI v)) h2 := hF2
      have hF' : NF h h1 := hF
      obtain ⟨a, b, c, d, f, g, k⟩ := DR_nf hD hP.2.1 hP.2.2.1 hF'
      have w1 := hP.2.1
      have w2 := hP.2.2.1
      have s1 : SN (up h1 27 0 0 43 (nI v) 27 0 0) (ub B 3 0 v) := SN_3 a w1 w2 up_s (fun m hm => up_o (by omega))
      have s2 : SN (h2 27 0 0) (ub B 3 0 v) := SN_fr (by rw [ub_n (by decide)]; exact w1) (by rw [ub_n (by decide)]; exact w2) s1 (fun i hi => hF2' _ _ _ _ (by omega))
      have s3 : SN (up h2 27 0 0 44 (nI w) 27 0 0) (ub (ub B 3 0 v) 4 0 w) := SN_4 s2 (by rw [ub_n (by decide)]; exact w1) (by rw [ub_n (by decide)]; exact w2) up_s (fun m hm => up_o (by omega))
      have fr : ∀ j, j ≠ 11 → j ≠ 12 → j ≠ 13 → j ≠ 14 → j ≠ 15 → j ≠ 16 → up h2 27 0 0 44 (nI w) 24 j 0 0 = h1 24 j 0 0 := fun j _ _ _ _ _ _ => by
        rw [up_o (by omega), hF2' _ _ _ _ (by omega), up_o (by omega)]
      have e0 : ∀ f i, f ≠ 3 → f ≠ 4 → ub (ub B 3 0 v) 4 0 w f i = B f i := fun f i h3 h4 => by rw [ub_n h4, ub_n h3]
      have fr2 : ∀ i, i ≠ 43 → i ≠ 44 → up h2 27 0 0 44 (nI w) 27 0 0 i = h1 27 0 0 i := fun i _ _ => by
        rw [up_o (by omega), hF2' _ _ _ _ (by omega), up_o (by omega)]
      refine ⟨s3, ?_, ?_, ?_, ?_, fun c m1 m2 => ?_, ?_⟩
      · rw [e0 _ _ (by decide) (by decide), fr _ (by decide) (by decide) (by decide) (by decide) (by decide) (by decide)]; exact b
      · rw [e0 _ _ (by decide) (by decide), fr _ (by decide) (by decide) (by decide) (by decide) (by decide) (by decide)]; exact c
      · rw [fr _ (by decide) (by decide) (by decide) (by decide) (by decide) (by decide)]; exact d
      · rw [fr _ (by decide) (by decide) (by decide) (by decide) (by decide) (by decide)]; exact f
      · rw [e0 _ _ (by decide) (by decide)] at m1
        exact (fr2 (15 + c) (by omega) (by omega)).trans (g c m1 m2)
      · exact (fr2 46 (by omega) (by omega)).trans k
theorem z_add (v : Nat) : (0 : Int32) + nI v = nI v := by
  have := nI_add 0 v
  rw [Nat.zero_add] at this
  exact this
theorem m_hole (hX : RX t u h b) (hU : UB t u) (hb : b ≤ t) (hD : DR h B pt tt hi) (hP : PW B) (h8 : hi ≤ 8) : Ok (f_X10_readHole h) (RLo h t u (lHole t u b B pt tt hi)) := by
  obtain ⟨a, b', c, d, f8, g, k⟩ := id hD
  have w1 := hP.2.1
  have w2 := hP.2.2.1
  have hbb := tb_b (u := u) hb
  unfold f_X10_readHole lHole
  refine ok_ob2 ((m_lplace hX hU hb h8 f8).mono ?_)
  rintro ⟨r, h1⟩ (⟨f, e1, e2, e3, e4, e5⟩ | ⟨v, e1, e2, e3, e4, e5, e6⟩)
  · dsimp only at e3 e4 e5
    subst e3
    have hne := rf_ne e4 e2
    refine ok_obd (ok_ite (fun e => absurd e hne) (fun _ => ok_some (ok_obd (ok_eq (m_nx_f e4 e2) (ok_ob2 (ok_eq (m_num_f e4 e2) (ok_obd (ok_ite (fun e => absurd e hne) (fun _ => ?_)))))))))
    rw [wp_gd]
    refine ⟨by rw [z_add, inb_nI_iff (by omega)]; omega, ok_some (ok_put (z_add 0) (by omega) (by omega) (ok_some ⟨e5.d.tr (DF.up (by omega)), Or.inl ⟨f, by rw [e1]; rfl, e2, RF_kf e4 (KF.up (by omega))⟩⟩))⟩
  · dsimp only at e4 e5 e6
    subst e4
    have w7 := hP.2.2.2.2.2.2.1 v (by omega)
    have fv : h1 27 0 0 v = nI (B 7 v) := by rw [e6, up_o (by omega)]; exact a.1 v (by omega)
    have fvc : h1 27 0 0 ((0 : Int32) + nI v).toNatClampNeg = nI (B 7 v) := by rw [z_add, nI_clamp (by omega)]; exact fv
    have hDF1 : DF h h1 := by rw [e6]; exact DF.up (by omega)
    have hD1 : DR h1 B pt tt (max hi (v + 1)) := by
      rw [e6]
      exact ⟨SN_fr w1 w2 a (fun i hi => up_o (by omega)), (up_o (by omega)).trans b', (up_o (by omega)).trans c, (up_o (by omega)).trans d, up_s, fun c h1 h2 => (up_o (by omega)).trans (g c h1 h2), (up_o (by omega)).trans k⟩
    rw [e1, rb_r]
    dsimp only
    refine ok_obd (ok_ite (fun _ => ?_) (fun e => absurd e5.2.2.2.2.2.1 e))
    rw [wp_gd]
    refine ⟨by rw [z_add, inb_nI_iff (by omega)]; omega, ok_obd ?_⟩
    by_cases q : B 7 v = 0
    · rw [if_pos q]
      refine ok_ite (fun _ => ok_some (ok_obd ((m_need true (c := 4) e5.2.2.2.2.2.1 e5.2.1).mono ?_))) (fun e => absurd (show h1 27 0 0 ((0 : Int32) + nI v).toNatClampNeg = 0 from by rw [fvc, q]; rfl) e)
      rintro h2 (⟨-, rfl⟩ | ⟨e, -⟩)
      · refine ok_some (ok_obd ((m_nx e5.1 hU hbb.2.1 e5.2.2.2.1 e5.2.2.2.2.2.1).mono ?_))
        rintro h3 ⟨c1, c2⟩
        refine ok_ob2 ((m_num c1 hU hbb.2.1 (lo := 1) (hi := 9) (by omega) (by omega)).mono ?_)
        rintro ⟨r, h4⟩ ⟨hF4, hq⟩
        have hDF4 : DF h h4 := hDF1.tr (c2.d.tr hF4.d)
        rcases hq with ⟨f, o1, o2, o3, o4⟩ | ⟨w, e', o1, o2, o3, o4, o5, o6, o7⟩
        · refine ok_obd (ok_ite (fun e => absurd e (rf_ne o4 o2)) (fun _ => ?_))
          rw [wp_gd]
          exact ⟨by rw [z_add, inb_nI_iff (by omega)]; omega, ok_some (ok_put (z_add v) (by omega) (by omega) (ok_some ⟨hDF4.tr (DF.up (by omega)), Or.inl ⟨f, by rw [o1]; rfl, o2, RF_kf o4 (KF.up (by omega))⟩⟩))⟩
        · dsimp only at o6 o7
          subst o6
          rcases o7 with ⟨wb, o7⟩ | o7
          · refine ok_obd (ok_ite (fun e => absurd e (rf_ne o7 (show 1 ≤ 1 ∧ 1 ≤ 6 by omega))) (fun _ => ?_))
            rw [wp_gd]
            exact ⟨by rw [z_add, inb_nI_iff (by omega)]; omega, ok_some (ok_put (z_add v) (by omega) (by omega) (ok_some ⟨hDF4.tr (DF.up (by omega)), Or.inl ⟨(1, ta t u e'), by rw [o1, rb_r, stop_bad wb]; rfl, (show 1 ≤ 1 ∧ 1 ≤ 6 by omega), RF_kf o7 (KF.up (by omega))⟩⟩))⟩
          · refine ok_obd (ok_ite (fun _ => ok_some (ok_put (z_add v) (by omega) (by omega) (ok_some ⟨hDF4.tr (DF.up (by omega)), Or.inr ⟨e', ub B 7 v w, pt, tt, max hi (v + 1), by rw [o1]; rfl, o5, Or.inr (RS_kf o7 (KF.up (by omega))), ?_, PW_7 hP o3⟩⟩))) (fun e => absurd o7.2.2.2.2.2.1 e))
            obtain ⟨a, b, c, d, f, g, k⟩ := DR_nf (DR_nf hD1 w1 w2 c2) w1 w2 hF4
            refine ⟨SN_7 a w1 w2 (by omega) up_s (fun m hm => up_o (by omega)), by rw [ub_n (by decide)]; exact (up_o (by omega)).trans b, by rw [ub_n (by decide)]; exact (up_o (by omega)).trans c, (up_o (by omega)).trans d, (up_o (by omega)).trans f, fun c h1 h2 => (up_o (by omega)).trans (g c (by rw [ub_n (by decide)] at h1; exact h1) h2), (up_o (by omega)).trans k⟩
      · cases e
    · rw [if_neg q]
      refine ok_ite (fun e => absurd (nI_inj (b := 0) (by omega) (by omega) (fvc.symm.trans e)) q) (fun _ => ok_some (ok_obd ((m_need false (c := 4) e5.2.2.2.2.2.1 e5.2.1).mono ?_)))
      rintro h2 (⟨e, -⟩ | ⟨-, c1, c2⟩)
      · cases e
      · have hf4 : (1 ≤ 4 ∧ 4 ≤ 6) := by omega
        have hne := rf_ne c1 hf4
        refine ok_some (ok_obd (ok_eq (m_nx_f c1 hf4) (ok_ob2 (ok_eq (m_num_f c1 hf4) (ok_obd (ok_ite (fun e => absurd e hne) (fun _ => ?_)))))))
        rw [wp_gd]
        exact ⟨by rw [z_add, inb_nI_iff (by omega)]; omega, ok_some (ok_put (z_add v) (by omega) (by omega) (ok_some ⟨hDF1.tr (c2.d.tr (DF.up (by omega))), Or.inl ⟨(4, ta t u b), rfl, hf4, RF_kf c1 (KF.up (by omega))⟩⟩))⟩
end Cl
