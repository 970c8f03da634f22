section Cl
variable {h h0 g q : Mem} {t : Nat} {u : Nat → Nat} {s a b hi hi' : Nat} {B : Bs} {pt tt : Bool}
theorem DR_coin (hD : DR h B pt tt hi) (hP : PW B) (h6 : B 1 0 < 6) {v w fl : Nat} (h9 : q 27 0 0 (9 + B 1 0) = nI v) (h21 : q 27 0 0 (21 + B 1 0) = nI w) (h8 : q 27 0 0 8 = nI (B 1 0 + 1)) (h15 : q 27 0 0 (15 + B 1 0) = nI fl) (ho : ∀ m, (m ≠ 8 ∧ m ≠ 9 + B 1 0 ∧ m ≠ 15 + B 1 0 ∧ m ≠ 21 + B 1 0) → q 27 0 0 m = h 27 0 0 m) (hf : ∀ j, j = 5 ∨ j = 6 ∨ j = 7 → q 24 j 0 0 = h 24 j 0 0) (h248 : q 24 8 0 0 = hiv hi') : (fl = 0 → DR q (mnt B v w) pt tt hi') ∧ (fl = 1 → DR q (ub (mnt B v w) 10 (B 1 0) 1) pt tt hi') := by
  obtain ⟨a, b, c, d, e, f, k⟩ := hD
  have w2 := hP.2.2.1
  have gm : ∀ f i, (f ≠ 1 ∧ f ≠ 9 ∧ f ≠ 10 ∧ f ≠ 11) → mnt B v w f i = B f i := fun f i h => mnt_f h
  refine ⟨fun e0 => ?_, fun e1 => ?_⟩
  · subst e0
    refine ⟨SN_mnt a h6 w2 h9 h15 h21 h8 ho, ?_, ?_, ?_, h248, fun x h1 h2 => ?_, ?_⟩
    · rw [hf _ (by omega), gm _ _ (by decide)]; exact b
    · rw [hf _ (by omega), gm _ _ (by decide)]; exact c
    · rw [hf _ (by omega)]; exact d
    · rw [mnt_1] at h1
      rw [ho _ (by omega)]; exact f x (by omega) h2
    · rw [ho _ (by omega)]; exact k
  · subst e1
    have s1 : SN (fun m => if m = 15 + B 1 0 then nI 0 else q 27 0 0 m) (mnt B v w) := by
      refine SN_mnt a h6 w2 ?_ ?_ ?_ ?_ (fun m hm => ?_)
      · rw [if_neg (by omega)]; exact h9
      · rw [if_pos rfl]
      · rw [if_neg (by omega)]; exact h21
      · rw [if_neg (by omega)]; exact h8
      · rw [if_neg hm.2.2.1]; exact ho m hm
    refine ⟨SN_10 s1 (by rw [mnt_1]; omega) (by rw [gm _ _ (by decide)]; exact w2) h6 h15 (fun m hm => by rw [if_neg hm]), ?_, ?_, ?_, h248, fun x h1 h2 => ?_, ?_⟩
    · rw [hf _ (by omega), ub_n (by decide), gm _ _ (by decide)]; exact b
    · rw [hf _ (by omega), ub_n (by decide), gm _ _ (by decide)]; exact c
    · rw [hf _ (by omega)]; exact d
    · rw [ub_n (by decide), mnt_1] at h1
      rw [ho _ (by omega)]; exact f x (by omega) h2
    · rw [ho _ (by omega)]; exact k
theorem m_coin (hX : RX t u h b) (hU : UB t u) (hb : b ≤ t) (hD : DR h B pt tt hi) (hP : PW B) (h8 : hi ≤ 8) (h6 : B 1 0 < 6) : Ok (f_X10_readCoin h) (RLo h t u (lCoin t u a b B pt tt hi)) := by
  obtain ⟨d1, d2, d3, d4, d5, d6, d7⟩ := id hD
  have e8 : h 27 0 0 8 = nI (B 1 0) := d1.2.1
  have i9 : (9 : Int32) + h 27 0 0 8 = nI (9 + B 1 0) := by rw [e8]; exact nI_add 9 _
  have i15 : (15 : Int32) + h 27 0 0 8 = nI (15 + B 1 0) := by rw [e8]; exact nI_add 15 _
  have i21 : (21 : Int32) + h 27 0 0 8 = nI (21 + B 1 0) := by rw [e8]; exact nI_add 21 _
  have h15 := d6 (B 1 0) (Nat.le_refl _) h6
  unfold f_X10_readCoin lCoin
  rw [if_neg (by omega)]
  refine ok_bnd (ok_ob2 ((m_num hX hU hb (lo := 1) (hi := 9) (by omega) (by omega)).mono ?_))
  rintro ⟨r, h3⟩ ⟨hF3, hq⟩
  refine ok_put i9 (by omega) (by omega) (ok_ob2 ?_)
  have hF3' : NF h h3 := hF3
  rcases hq with ⟨f, e1, e2, e3, e4⟩ | ⟨v, e, e1, e2, e3, e4, e5, e6, e7⟩
  · have r1 : RF (up h3 27 0 0 (9 + B 1 0) r) f := RF_kf e4 (KF.up (by omega))
    refine ok_eq (m_place_f r1 e2) (ok_put i21 (by omega) (by omega) ?_)
    have r2 : RF (up (up h3 27 0 0 (9 + B 1 0) r) 27 0 0 (21 + B 1 0) (nI 0)) f := RF_kf r1 (KF.up (by omega))
    refine ok_obd (ok_ite (fun e => absurd e (rf_ne r2 e2)) (fun _ => ok_some (ok_bnd (ok_some ⟨hF3'.d.tr ((DF.up (by omega)).tr ((DF.up (by omega)).tr (DF.up (by omega)))), Or.inl ⟨f, by rw [e1]; rfl, e2, RF_kf r2 (KF.up (by omega))⟩⟩))))
  · dsimp only at e6 e7
    subst e6
    have h38 : up h3 27 0 0 (9 + B 1 0) (nI v) 24 8 0 0 = hiv hi := by rw [up_o (by omega), hF3' _ _ _ _ (by omega)]; exact d5
    refine (m_place (RX_kf e7 (KF.up (by omega))) hU e5 h8 h38).mono ?_
    rintro ⟨r, h6'⟩ hq
    refine ok_put i21 (by omega) (by omega) ?_
    rw [e1, rb_r]
    dsimp only
    rcases hq with ⟨f, o1, o2, o3, o4, o5⟩ | ⟨w, e', o1, o2, o3, o4, o5, o6, o7⟩
    · have r2 : RF (up h6' 27 0 0 (21 + B 1 0) r) f := RF_kf o4 (KF.up (by omega))
      refine ok_obd (ok_ite (fun e => absurd e (rf_ne r2 o2)) (fun _ => ok_some (ok_bnd (ok_some ⟨hF3'.d.tr ((DF.up (by omega)).tr (o5.d.tr ((DF.up (by omega)).tr (DF.up (by omega))))), Or.inl ⟨f, by rw [o1]; rfl, o2, RF_kf r2 (KF.up (by omega))⟩⟩))))
    · dsimp only at o5 o6 o7
      subst o5
      rw [o1, rb_r]
      dsimp only
      have hbb := tb_b (u := u) o4
      have hDF : DF h (up h6' 27 0 0 (21 + B 1 0) (nI w)) := hF3'.d.tr ((DF.up (k := 27) (by omega)).tr ((DF.up (k := 24) (j := 8) (by omega)).tr (o7.d.tr (DF.up (by omega)))))
      have X7 : RX t u (up h6' 27 0 0 (21 + B 1 0) (nI w)) e' := RX_kf o6 (KF.up (by omega))
      have c27 : ∀ m, up h6' 27 0 0 (21 + B 1 0) (nI w) 27 0 0 m = if m = 21 + B 1 0 then nI w else if m = 9 + B 1 0 then nI v else h 27 0 0 m := fun m => by
        by_cases q1 : m = 21 + B 1 0
        · subst q1; rw [if_pos rfl, up_s]
        · rw [if_neg q1, up_o (by omega), o7 _ _ _ _ (by omega), up_o (by omega)]
          by_cases q2 : m = 9 + B 1 0
          · subst q2; rw [if_pos rfl, up_s]
          · rw [if_neg q2, up_o (by omega), hF3' _ _ _ _ (by omega)]
      have c24 : ∀ j, j = 5 ∨ j = 6 ∨ j = 7 → up h6' 27 0 0 (21 + B 1 0) (nI w) 24 j 0 0 = h 24 j 0 0 := fun j hj => by
        rw [up_o (by omega), o7 _ _ _ _ (by omega), up_o (by omega), up_o (by omega), hF3' _ _ _ _ (by omega)]
      have c248 : up h6' 27 0 0 (21 + B 1 0) (nI w) 24 8 0 0 = hiv (max hi (w + 1)) := by
        rw [up_o (by omega), o7 _ _ _ _ (by omega), up_s]
      generalize up h6' 27 0 0 (21 + B 1 0) (nI w) = h7 at hDF X7 c27 c24 c248
      have c8 : h7 27 0 0 8 = nI (B 1 0) := by rw [c27, if_neg (by omega), if_neg (by omega)]; exact e8
      have hPm := PW_mnt hP h6 ⟨e2, e3⟩ o2
      rcases X7 with ⟨wb, r2⟩ | X7
      · have wb' : tkd t u e' = 4 ∨ (tkd t u e' = 2 ∧ 2 < tb t u e' - ta t u e') := wb
        have f1 : (1 ≤ 1 ∧ 1 ≤ 6) := by omega
        rw [if_pos wb']
        exact ok_obd (ok_ite (fun e => absurd e (rf_ne r2 f1)) (fun _ => ok_some (ok_bnd (ok_some ⟨hDF.tr (DF.up (by omega)), Or.inl ⟨(1, ta t u e'), rfl, f1, RF_kf r2 (KF.up (by omega))⟩⟩))))
      · obtain ⟨y1, y2, y3, y4, y5, y6, y7⟩ := id X7
        have wb' : ¬ (tkd t u e' = 4 ∨ (tkd t u e' = 2 ∧ 2 < tb t u e' - ta t u e')) := y7
        have hk4 : tkd t u e' ≤ 4 := by
          unfold tkd; split
          · exact (kd_b _).2
          · omega
        rw [if_neg wb']
        refine ok_obd (ok_ite (fun _ => ?_) (fun e => absurd y6 e))
        by_cases k1 : tkd t u e' = 1
        · have s1 : h7 24 13 0 0 = (1 : Int32) := by rw [y3, k1]; rfl
          refine ok_ite (fun _ => nmC (m_w5 y1 hU o4 y4 y2 k1 (i := 3) rfl (by decide)) (ok_obd ((m_need _ (c := 2) y6 y2).mono ?_))) (fun e => absurd s1 e)
          rintro h19 (⟨n1, rfl⟩ | ⟨n1, r2, n3⟩)
          · rw [if_pos n1]
            refine ok_put i15 (by omega) (by omega) (ok_obd ((m_nx (RT_fr y1 (fun k j o i hh => up_o (by omega))) hU hbb.2.1 ((up_o (by omega)).trans y4) ((up_o (by omega)).trans y6)).mono ?_))
            rintro h21 ⟨z1, z2⟩
            have z2' : NF (up h19 27 0 0 (15 + B 1 0) 1) h21 := z2
            refine ok_some (ok_bnd (ok_some ⟨hDF.tr ((DF.up (by omega)).tr (z2.d.tr (DF.up (by omega)))), Or.inr ⟨tb t u e', _, pt, tt, _, rfl, hbb.2.1, RX_kf z1 (KF.up (by omega)), ?_, PW_10 hPm⟩⟩))
            have f27 : ∀ m, m ≠ 8 → up h21 27 0 0 8 (h21 27 0 0 8 + 1) 27 0 0 m = if m = 15 + B 1 0 then nI 1 else h19 27 0 0 m := fun m hm => by
              rw [up_o (by omega), z2' _ _ _ _ (by omega)]
              by_cases q1 : m = 15 + B 1 0
              · subst q1; rw [if_pos rfl, up_s]; rfl
              · rw [if_neg q1, up_o (by omega)]
            refine (DR_coin (v := v) (w := w) (fl := 1) hD hP h6 ?_ ?_ ?_ ?_ (fun m hm => ?_) (fun j hj => ?_) ?_).2 rfl
            · rw [f27 _ (by omega), if_neg (by omega), c27, if_neg (by omega), if_pos rfl]
            · rw [f27 _ (by omega), if_neg (by omega), c27, if_pos rfl]
            · rw [up_s, z2' _ _ _ _ (by omega), up_o (by omega), c8]; exact nI_add _ 1
            · rw [f27 _ (by omega), if_pos rfl]
            · rw [f27 _ hm.1, if_neg hm.2.2.1, c27, if_neg hm.2.2.2, if_neg hm.2.1]
            · rw [up_o (by omega), z2' _ _ _ _ (by omega), up_o (by omega)]; exact c24 j hj
            · rw [up_o (by omega), z2' _ _ _ _ (by omega), up_o (by omega)]; exact c248
          · have n1' : ¬ nm t u e' 3 = true := by rw [n1]; decide
            have f2 : (1 ≤ 2 ∧ 2 ≤ 6) := by omega
            rw [if_neg n1', if_neg (by omega)]
            have r3 : RF (up h19 27 0 0 (15 + B 1 0) 1) (2, ta t u e') := RF_kf r2 (KF.up (by omega))
            exact ok_put i15 (by omega) (by omega) (ok_obd (ok_eq (m_nx_f r3 f2) (ok_some (ok_bnd (ok_some ⟨hDF.tr (n3.d.tr ((DF.up (by omega)).tr (DF.up (by omega)))), Or.inl ⟨(2, ta t u e'), rfl, f2, RF_kf r3 (KF.up (by omega))⟩⟩)))))
        · have s1 : ¬ h7 24 13 0 0 = (1 : Int32) := fun e => k1 (nI_inj (b := 1) (by omega) (by omega) (y3.symm.trans e))
          have n1' : ¬ nm t u e' 3 = true := fun w => by
            unfold nm at w
            rw [decide_eq_true_eq] at w
            exact k1 w.1
          rw [if_neg n1']
          refine ok_ite (fun e => absurd e s1) (fun _ => ok_some (ok_bnd (ok_some ⟨hDF.tr (DF.up (by omega)), Or.inr ⟨e', mnt B v w, pt, tt, max hi (w + 1), ?_, o4, Or.inr (RS_kf X7 (KF.up (by omega))), ?_, hPm⟩⟩)))
          · unfold stop
            rw [if_neg wb']
            by_cases k3 : tkd t u e' = 3
            · rw [if_pos k3, if_pos k3]; rfl
            · rw [if_neg k3, if_neg k3]; rfl
          · refine (DR_coin (v := v) (w := w) (fl := 0) hD hP h6 ?_ ?_ ?_ ?_ (fun m hm => ?_) (fun j hj => ?_) ?_).1 rfl
            · rw [up_o (by omega), c27, if_neg (by omega), if_pos rfl]
            · rw [up_o (by omega), c27, if_pos rfl]
            · rw [up_s, c8]; exact nI_add _ 1
            · rw [up_o (by omega), c27, if_neg (by omega), if_neg (by omega)]; exact h15
            · rw [up_o (by omega), c27, if_neg hm.2.2.2, if_neg hm.2.1]
            · rw [up_o (by omega)]; exact c24 j hj
            · rw [up_o (by omega)]; exact c248
def FL (h0 : Mem) (t : Nat) (u : Nat → Nat) (X : Flt ⊕ Lst) (q : Mem) : Prop := DF h0 q ∧ ((∃ f, X = .inl f ∧ (1 ≤ f.1 ∧ f.1 ≤ 6) ∧ RF q f) ∨ (∃ e B' pt' tt' hi', X = .inr (e, B', pt', tt', hi') ∧ e ≤ t ∧ RX t u q e ∧ DR q B' pt' tt' hi'))
theorem m_tail {X : Flt ⊕ Lst} (hL : RLo h0 t u X h) (hU : UB t u) : Ok (obd ((if (h 24 15 0 0) = 0 then obd ((if (h 24 13 0 0) = (3 : Int32) then some true else some false)) (fun a19 => obd (f_X10_needs a19 (2 : Int32) h) (fun h20 => some h20)) else some h)) (fun a21 => obd (f_X10_next a21) (fun h22 => some h22))) (FL h0 t u X) := by
  obtain ⟨hDF, hL⟩ := hL
  rcases hL with ⟨f, e1, e2, e3⟩ | ⟨s2, B', pt', tt', hi', e1, e2, e3, e4, e5⟩
  · exact ok_obd (ok_ite (fun e => absurd e (rf_ne e3 e2)) (fun _ => ok_some (ok_obd (ok_eq (m_nx_f e3 e2) (ok_some ⟨hDF, Or.inl ⟨f, e1, e2, e3⟩⟩)))))
  · rcases e3 with ⟨wb, r2⟩ | hS
    · have f1 : (1 ≤ 1 ∧ 1 ≤ 6) := by omega
      exact ok_obd (ok_ite (fun e => absurd e (rf_ne r2 f1)) (fun _ => ok_some (ok_obd (ok_eq (m_nx_f r2 f1) (ok_some ⟨hDF, Or.inl ⟨(1, ta t u s2), by rw [e1, stop_bad wb]; rfl, f1, r2⟩⟩)))))
    · obtain ⟨y1, y2, y3, y4, y5, y6, y7⟩ := id hS
      have hbb := tb_b (u := u) e2
      have wb' : ¬ (tkd t u s2 = 4 ∨ (tkd t u s2 = 2 ∧ 2 < tb t u s2 - ta t u s2)) := y7
      have hk4 : tkd t u s2 ≤ 4 := by
        unfold tkd; split
        · exact (kd_b _).2
        · omega
      refine ok_obd (ok_ite (fun _ => ok_obd ?_) (fun e => absurd y6 e))
      by_cases k3 : tkd t u s2 = 3
      · have s1 : h 24 13 0 0 = (3 : Int32) := by rw [y3, k3]; rfl
        refine ok_ite (fun _ => ok_some (ok_obd ((m_need true (c := 2) y6 y2).mono ?_))) (fun e => absurd s1 e)
        rintro h1 (⟨-, rfl⟩ | ⟨e, -⟩)
        · refine ok_some (ok_obd ((m_nx y1 hU hbb.2.1 y4 y6).mono ?_))
          rintro h2 ⟨z1, z2⟩
          refine ok_some ⟨hDF.tr z2.d, Or.inr ⟨tb t u s2, B', pt', tt', hi', ?_, hbb.2.1, z1, DR_nf e4 e5.2.1 e5.2.2.1 z2⟩⟩
          rw [e1]; unfold stop; rw [if_neg wb', if_pos k3]; rfl
        · cases e
      · have s1 : ¬ h 24 13 0 0 = (3 : Int32) := fun e => k3 (nI_inj (b := 3) (by omega) (by omega) (y3.symm.trans e))
        refine ok_ite (fun e => absurd e s1) (fun _ => ok_some (ok_obd ((m_need false (c := 2) y6 y2).mono ?_)))
        rintro h1 (⟨e, -⟩ | ⟨-, z1, z2⟩)
        · cases e
        · have f2 : (1 ≤ 2 ∧ 2 ≤ 6) := by omega
          refine ok_some (ok_obd (ok_eq (m_nx_f z1 f2) (ok_some ⟨hDF.tr z2.d, Or.inl ⟨(2, ta t u s2), ?_, f2, z1⟩⟩)))
          rw [e1]; unfold stop; rw [if_neg wb', if_neg k3]; rfl
/-- from the first token of a line on -/
theorem m_rest {X : Flt ⊕ Lst} {a3 : Int32} (hG : DF h0 h) (hR : RT h t u) (hU : UB t u) (hb : b ≤ t) (h11 : h 24 11 0 0 = nI b) (h15 : h 24 15 0 0 = nI 0) (hD : DR h B pt tt hi) (hP : PW B) (hbad : bad t u b → X = .inl (1, ta t u b)) (hl : ∀ h1, RS t u h1 b → DR h1 B pt tt hi → Ok (f_X10_readLineOf a3 h1) (RLo h1 t u X)) : Ok (obd (f_X10_next h) (fun h15 => (if (h15 24 15 0 0) ≤ 0 then obd (f_X10_readLineOf a3 h15) (fun h16 => obd ((if (h16 24 15 0 0) = 0 then obd ((if (h16 24 13 0 0) = (3 : Int32) then some true else some false)) (fun a19 => obd (f_X10_needs a19 (2 : Int32) h16) (fun h20 => some h20)) else some h16)) (fun a21 => obd (f_X10_next a21) (fun h22 => some h22))) else some h15))) (FL h0 t u X) := by
  refine ok_obd ((m_nx hR hU hb h11 h15).mono ?_)
  rintro h1 ⟨z1, z2⟩
  have hD1 := DR_nf hD hP.2.1 hP.2.2.1 z2
  rcases id z1 with ⟨wb, r2⟩ | hS
  · have f1 : (1 ≤ 1 ∧ 1 ≤ 6) := by omega
    refine ok_ite (fun e => ?_) (fun _ => ok_some ⟨hG.tr z2.d, Or.inl ⟨_, hbad wb, f1, r2⟩⟩)
    rw [r2.1] at e
    exact absurd e (show ¬ nI 1 ≤ (0 : Int32) by decide)
  · refine ok_ite (fun _ => ok_obd ((hl h1 hS hD1).mono ?_)) (fun e => absurd (by rw [hS.2.2.2.2.2.1]; decide) e)
    intro h2 hL
    exact m_tail ⟨hG.tr (z2.d.tr hL.1), hL.2⟩ hU
end Cl
