theorem t_bit0 (pt tt : Bool) : (nI (told pt tt) >>> (nI 0 &&& (31 : Int32))) &&& (1 : Int32) = nI (if pt = true then 1 else 0) := by cases pt <;> cases tt <;> decide
theorem t_bit1 (pt tt : Bool) : (nI (told pt tt) >>> (nI 1 &&& (31 : Int32))) &&& (1 : Int32) = nI (if tt = true then 1 else 0) := by cases pt <;> cases tt <;> decide
theorem t_or0 (tt : Bool) : nI (told false tt) ||| ((1 : Int32) <<< (nI 0 &&& (31 : Int32))) = nI (told true tt) := by cases tt <;> decide
theorem t_or1 (pt : Bool) : nI (told pt false) ||| ((1 : Int32) <<< (nI 1 &&& (31 : Int32))) = nI (told pt true) := by cases pt <;> decide
section Cl
variable {h h0 g q : Mem} {t : Nat} {u : Nat → Nat} {s a b hi hi' : Nat} {B : Bs} {pt tt : Bool}
theorem num_bad {lo hi : Nat} (w : bad t u s) : num t u lo hi s = .inl (1, ta t u s) := by
  have w' : tkd t u s = 4 ∨ (tkd t u s = 2 ∧ 2 < tb t u s - ta t u s) := w
  unfold num; rw [if_pos w']
theorem DR_crab (hD : DR h B pt tt hi) (hP : PW B) (h4 : B 2 0 < 4) {d c z x : Nat} (h35 : q 27 0 0 (35 + B 2 0) = nI d) (h27 : q 27 0 0 (27 + B 2 0) = nI c) (h31 : q 27 0 0 (31 + B 2 0) = nI z) (h39 : q 27 0 0 (39 + B 2 0) = nI x) (ho : ∀ m, m ≠ 35 + B 2 0 → m ≠ 27 + B 2 0 → m ≠ 31 + B 2 0 → m ≠ 39 + B 2 0 → q 27 0 0 m = h 27 0 0 m) (hf : ∀ j, j = 5 ∨ j = 7 → q 24 j 0 0 = h 24 j 0 0) (h246 : q 24 6 0 0 = nI (B 2 0 + 1)) (h248 : q 24 8 0 0 = hiv hi') : DR q (crb B d c z x) pt tt hi' := by
  obtain ⟨a, b, c', d', e, f, k⟩ := hD
  have w1 := hP.2.1
  refine ⟨SN_crb a w1 h4 h35 h27 h31 h39 ho, ?_, by rw [crb_2]; exact h246, ?_, h248, fun x h1 h2 => ?_, ?_⟩
  · rw [hf _ (by omega), crb_f (by decide)]; exact b
  · rw [hf _ (by omega)]; exact d'
  · rw [crb_f (by decide)] at h1
    rw [ho _ (by omega) (by omega) (by omega) (by omega)]; exact f x h1 h2
  · rw [ho _ (by omega) (by omega) (by omega) (by omega)]; exact k
theorem nm_n1 {i : Nat} (k1 : ¬ tkd t u s = 1) : nm t u s i = false := by
  rw [← Bool.not_eq_true]
  intro w
  unfold nm at w
  rw [decide_eq_true_eq] at w
  exact k1 w.1
theorem m_crab (hX : RS t u h b) (hU : UB t u) (hb : b ≤ t) (hD : DR h B pt tt hi) (hP : PW B) (h8 : hi ≤ 8) (h4 : B 2 0 < 4) : Ok (f_X10_readCrab h) (RLo h t u (lCrab t u a b B pt tt hi)) := by
  obtain ⟨d1, d2, d3, d4, d5, d6, d7⟩ := id hD
  obtain ⟨y1, y2, y3, y4, y5, y6, y7⟩ := id hX
  have hbb := tb_b (u := u) hb
  have wb' : ¬ (tkd t u b = 4 ∨ (tkd t u b = 2 ∧ 2 < tb t u b - ta t u b)) := y7
  have hk4 : tkd t u b ≤ 4 := by
    unfold tkd; split
    · exact (kd_b _).2
    · omega
  have qL : (if (h 24 13 0 0) = (1 : Int32) then obd (f_X10_is (4 : Int32) (108 : Int32) (101 : Int32) (102 : Int32) h) (fun r3 => (if r3 = true then obd (f_X10_ends (116 : Int32) (0 : Int32) (0 : Int32) h) (fun r4 => (if r4 = true then some true else some false)) else some false)) else some false) = some (nm t u b 6) := by
    by_cases k1 : tkd t u b = 1
    · have s1 : h 24 13 0 0 = (1 : Int32) := by rw [y3, k1]; rfl
      rw [if_pos s1]
      exact nmD (m_w4 y1 hU hb y4 y2 k1 (i := 6) rfl (by decide))
    · have s1 : ¬ h 24 13 0 0 = (1 : Int32) := fun e => k1 (nI_inj (b := 1) (by omega) (by omega) (y3.symm.trans e))
      rw [if_neg s1, nm_n1 k1]
  have qR : (if (h 24 13 0 0) = (1 : Int32) then obd (f_X10_is (5 : Int32) (114 : Int32) (105 : Int32) (103 : Int32) h) (fun r8 => (if r8 = true then obd (f_X10_ends (104 : Int32) (116 : Int32) (0 : Int32) h) (fun r9 => (if r9 = true then some true else some false)) else some false)) else some false) = some (nm t u b 5) := by
    by_cases k1 : tkd t u b = 1
    · have s1 : h 24 13 0 0 = (1 : Int32) := by rw [y3, k1]; rfl
      rw [if_pos s1]
      exact nmD (m_w5 y1 hU hb y4 y2 k1 (i := 5) rfl (by decide))
    · have s1 : ¬ h 24 13 0 0 = (1 : Int32) := fun e => k1 (nI_inj (b := 1) (by omega) (by omega) (y3.symm.trans e))
      rw [if_neg s1, nm_n1 k1]
  unfold lCrab
  rw [if_neg (by omega), if_neg wb']
  unfold f_X10_readCrab
  have ix : ∀ (z : Mem) (c : Nat), z 24 6 0 0 = nI (B 2 0) → nI c + z 24 6 0 0 = nI (c + B 2 0) := fun z c e => by rw [e]; exact nI_add c _
  refine ok_obd (ok_eq qL (ok_obd (ok_eq qR (ok_obd (ok_ite (fun _ => ok_obd ?_) (fun e => absurd y6 e))))))
  have eo : (if nm t u b 6 = true then some true else (if nm t u b 5 = true then some true else some false)) = some (nm t u b 6 || nm t u b 5) := by
    cases nm t u b 6 <;> cases nm t u b 5 <;> rfl
  refine ok_eq eo (ok_obd ((m_need _ (c := 2) y6 y2).mono ?_))
  rintro h14 (⟨n1, rfl⟩ | ⟨n1, r2, n3⟩)
  · have no : nm t u b 5 = true ∨ nm t u b 6 = true := by
      cases e5 : nm t u b 5 with
      | true => exact Or.inl rfl
      | false => rw [e5] at n1; exact Or.inr (by simpa using n1)
    rw [if_pos no]
    refine ok_some (ok_obd ((m_nx y1 hU hbb.2.1 y4 y6).mono ?_))
    rintro h16 ⟨z1, z2⟩
    have D16 := DR_nf hD hP.2.1 hP.2.2.1 z2
    rw [wp_obd, e_flag, wp_some, b2i_b]
    have hd : (if nm t u b 5 = true then 1 else 0 : Nat) ≤ 1 := by split <;> omega
    generalize (if nm t u b 5 = true then 1 else 0 : Nat) = d at hd
    have g16 : h16 24 6 0 0 = nI (B 2 0) := D16.2.2.1
    refine ok_put (ix h16 35 g16) (by omega) (by omega) ?_
    have X18 : RX t u (up h16 27 0 0 (35 + B 2 0) (nI d)) (tb t u b) := RX_kf z1 (KF.up (by omega))
    have F18 : DF h14 (up h16 27 0 0 (35 + B 2 0) (nI d)) := z2.d.tr (DF.up (by omega))
    have g18 : up h16 27 0 0 (35 + B 2 0) (nI d) 24 6 0 0 = nI (B 2 0) := (up_o (by omega)).trans g16
    have k18 : up h16 27 0 0 (35 + B 2 0) (nI d) 24 8 0 0 = hiv hi := (up_o (by omega)).trans D16.2.2.2.2.1
    have j18 : ∀ j, j = 5 ∨ j = 7 → up h16 27 0 0 (35 + B 2 0) (nI d) 24 j 0 0 = h14 24 j 0 0 := fun j hj => (up_o (by omega)).trans (z2 _ _ _ _ (by omega))
    have c18 : ∀ m, up h16 27 0 0 (35 + B 2 0) (nI d) 27 0 0 m = if m = 35 + B 2 0 then nI d else h14 27 0 0 m := fun m => by
      by_cases q1 : m = 35 + B 2 0
      · subst q1; rw [if_pos rfl, up_s]
      · rw [if_neg q1, up_o (by omega), z2 _ _ _ _ (by omega)]
    generalize up h16 27 0 0 (35 + B 2 0) (nI d) = h18 at X18 F18 g18 k18 j18 c18
    refine ok_ob2 ((m_num X18 hU hbb.2.1 (lo := 1) (hi := 9) (by omega) (by omega)).mono ?_)
    rintro ⟨r, h20⟩ ⟨F20, hq⟩
    have F20' : NF h18 h20 := F20
    have g21 : ∀ v, up h20 27 0 0 (27 + B 2 0) v 24 6 0 0 = nI (B 2 0) := fun v => (up_o (by omega)).trans ((F20' _ _ _ _ (by omega)).trans g18)
    refine ok_put (ix h18 27 g18) (by omega) (by omega) (ok_ob2 ?_)
    rcases hq with ⟨f, e1, e2, e3, e4⟩ | ⟨v, e, e1, e2, e3, e4, e5, e6, e7⟩
    · have r1 : RF (up h20 27 0 0 (27 + B 2 0) r) f := RF_kf e4 (KF.up (by omega))
      refine ok_eq (m_num_f r1 e2) (ok_put (ix _ 31 (g21 _)) (by omega) (by omega) (ok_ob2 ?_))
      have r3 : RF (up (up h20 27 0 0 (27 + B 2 0) r) 27 0 0 (31 + B 2 0) (nI 0)) f := RF_kf r1 (KF.up (by omega))
      have g24' : up (up h20 27 0 0 (27 + B 2 0) r) 27 0 0 (31 + B 2 0) (nI 0) 24 6 0 0 = nI (B 2 0) := (up_o (by omega)).trans (g21 r)
      refine ok_eq (m_place_f r3 e2) (ok_put (ix _ 39 g24') (by omega) (by omega) (ok_bnd (ok_some ⟨F18.tr (F20'.d.tr ((DF.up (by omega)).tr ((DF.up (by omega)).tr ((DF.up (by omega)).tr (DF.up (by omega)))))), Or.inl ⟨f, by rw [e1]; rfl, e2, RF_kf (RF_kf r3 (KF.up (by omega))) (KF.up (by omega))⟩⟩)))
    · dsimp only at e6 e7
      subst e6
      rw [e1, rb_r]
      dsimp only
      refine (m_num (RX_kf e7 (KF.up (by omega))) hU e5 (lo := 1) (hi := 9) (by omega) (by omega)).mono ?_
      rintro ⟨r, h23⟩ ⟨F23, hq⟩
      have F23' : NF (up h20 27 0 0 (27 + B 2 0) (nI v)) h23 := F23
      have g24 : ∀ v, up h23 27 0 0 (31 + B 2 0) v 24 6 0 0 = nI (B 2 0) := fun v => (up_o (by omega)).trans ((F23' _ _ _ _ (by omega)).trans (g21 _))
      refine ok_put (ix _ 31 (g21 _)) (by omega) (by omega) (ok_ob2 ?_)
      rcases hq with ⟨f, o1, o2, o3, o4⟩ | ⟨w, e', o1, o2, o3, o4, o5, o6, o7⟩
      · have r3 : RF (up h23 27 0 0 (31 + B 2 0) r) f := RF_kf o4 (KF.up (by omega))
        refine ok_eq (m_place_f r3 o2) (ok_put (ix _ 39 (g24 _)) (by omega) (by omega) (ok_bnd (ok_some ⟨F18.tr (F20'.d.tr ((DF.up (by omega)).tr (F23'.d.tr ((DF.up (by omega)).tr ((DF.up (by omega)).tr (DF.up (by omega))))))), Or.inl ⟨f, by rw [o1]; rfl, o2, RF_kf (RF_kf r3 (KF.up (by omega))) (KF.up (by omega))⟩⟩)))
      · dsimp only at o6 o7
        subst o6
        rw [o1, rb_r]
        dsimp only
        have k24 : up h23 27 0 0 (31 + B 2 0) (nI w) 24 8 0 0 = hiv hi := (up_o (by omega)).trans ((F23' _ _ _ _ (by omega)).trans ((up_o (by omega)).trans ((F20' _ _ _ _ (by omega)).trans k18)))
        refine (m_place (RX_kf o7 (KF.up (by omega))) hU o5 h8 k24).mono ?_
        rintro ⟨r, h26⟩ hq
        rcases hq with ⟨f, p1, p2, p3, p4, p5⟩ | ⟨x, e'', p1, p2, p3, p4, p5, p6, p7⟩
        · dsimp only at p4 p5
          refine ok_put (ix _ 39 (g24 _)) (by omega) (by omega) (ok_bnd (ok_some ⟨F18.tr (F20'.d.tr ((DF.up (by omega)).tr (F23'.d.tr ((DF.up (by omega)).tr (p5.d.tr ((DF.up (by omega)).tr (DF.up (by omega)))))))), Or.inl ⟨f, by rw [p1]; rfl, p2, RF_kf (RF_kf p4 (KF.up (by omega))) (KF.up (by omega))⟩⟩))
        · dsimp only at p5 p6 p7
          subst p5
          refine ok_put (ix _ 39 (g24 _)) (by omega) (by omega) (ok_bnd (ok_some ⟨F18.tr (F20'.d.tr ((DF.up (by omega)).tr (F23'.d.tr ((DF.up (by omega)).tr ((DF.up (k := 24) (j := 8) (by omega)).tr (p7.d.tr ((DF.up (by omega)).tr (DF.up (by omega))))))))), Or.inr ⟨e'', _, pt, tt, _, by rw [p1]; rfl, p4, RX_kf (RX_kf p6 (KF.up (by omega))) (KF.up (by omega)), ?_, PW_crb hP h4 hd ⟨e2, e3⟩ ⟨o2, o3⟩ p2⟩⟩))
          have f27 : ∀ m, up (up h26 27 0 0 (39 + B 2 0) (nI x)) 24 6 0 0 (up h26 27 0 0 (39 + B 2 0) (nI x) 24 6 0 0 + 1) 27 0 0 m = if m = 39 + B 2 0 then nI x else if m = 31 + B 2 0 then nI w else if m = 27 + B 2 0 then nI v else if m = 35 + B 2 0 then nI d else h14 27 0 0 m := fun m => by
            rw [up_o (by omega)]
            by_cases q1 : m = 39 + B 2 0
            · subst q1; rw [if_pos rfl, up_s]
            · rw [if_neg q1, up_o (by omega), p7 _ _ _ _ (by omega), up_o (by omega)]
              by_cases q2 : m = 31 + B 2 0
              · subst q2; rw [if_pos rfl, up_s]
              · rw [if_neg q2, up_o (by omega), F23' _ _ _ _ (by omega)]
                by_cases q3 : m = 27 + B 2 0
                · subst q3; rw [if_pos rfl, up_s]
                · rw [if_neg q3, up_o (by omega), F20' _ _ _ _ (by omega)]; exact c18 m
          have f24 : ∀ j, j = 5 ∨ j = 6 ∨ j = 7 → h26 24 j 0 0 = h18 24 j 0 0 := fun j hj => by
            rw [p7 _ _ _ _ (by omega), up_o (by omega), up_o (by omega), F23' _ _ _ _ (by omega), up_o (by omega), F20' _ _ _ _ (by omega)]
          refine DR_crab hD hP h4 ?_ ?_ ?_ ?_ (fun m q1 q2 q3 q4 => ?_) (fun j hj => ?_) ?_ ?_
          · exact (f27 _).trans (by rw [if_neg (by omega), if_neg (by omega), if_neg (by omega), if_pos rfl])
          · exact (f27 _).trans (by rw [if_neg (by omega), if_neg (by omega), if_pos rfl])
          · exact (f27 _).trans (by rw [if_neg (by omega), if_pos rfl])
          · exact (f27 _).trans (by rw [if_pos rfl])
          · exact (f27 _).trans (by rw [if_neg q4, if_neg q3, if_neg q2, if_neg q1])
          · exact (up_o (by omega)).trans ((up_o (by omega)).trans ((f24 j (by omega)).trans (j18 j hj)))
          · refine up_s.trans ?_
            have : up h26 27 0 0 (39 + B 2 0) (nI x) 24 6 0 0 = nI (B 2 0) := (up_o (by omega)).trans ((f24 6 (by omega)).trans g18)
            show up h26 27 0 0 (39 + B 2 0) (nI x) 24 6 0 0 + 1 = _
            rw [this]; exact nI_add _ 1
          · exact (up_o (by omega)).trans ((up_o (by omega)).trans ((p7 _ _ _ _ (by omega)).trans up_s))
  · have no : ¬ (nm t u b 5 = true ∨ nm t u b 6 = true) := by
      rintro (w | w)
      · rw [w] at n1; simp at n1
      · rw [w] at n1; simp at n1
    have f2 : (1 ≤ 2 ∧ 2 ≤ 6) := by omega
    rw [if_neg no]
    have g16 : h14 24 6 0 0 = nI (B 2 0) := (n3 _ _ _ _ (by omega)).trans d3
    refine ok_some (ok_obd (ok_eq (m_nx_f r2 f2) ?_))
    rw [wp_obd, e_flag, wp_some]
    have r3 : ∀ m v, RF (up h14 27 0 0 m v) (2, ta t u b) := fun m v => RF_kf r2 (KF.up (by omega))
    have r4 : ∀ m v m' v', RF (up (up h14 27 0 0 m v) 27 0 0 m' v') (2, ta t u b) := fun m v m' v' => RF_kf (r3 m v) (KF.up (by omega))
    have r5 : ∀ m v m' v' m'' v'', RF (up (up (up h14 27 0 0 m v) 27 0 0 m' v') 27 0 0 m'' v'') (2, ta t u b) := fun m v m' v' m'' v'' => RF_kf (r4 m v m' v') (KF.up (by omega))
    have g3 : ∀ m v, up h14 27 0 0 m v 24 6 0 0 = nI (B 2 0) := fun m v => (up_o (by omega)).trans g16
    have g4 : ∀ m v m' v', up (up h14 27 0 0 m v) 27 0 0 m' v' 24 6 0 0 = nI (B 2 0) := fun m v m' v' => (up_o (by omega)).trans (g3 m v)
    have g5 : ∀ m v m' v' m'' v'', up (up (up h14 27 0 0 m v) 27 0 0 m' v') 27 0 0 m'' v'' 24 6 0 0 = nI (B 2 0) := fun m v m' v' m'' v'' => (up_o (by omega)).trans (g4 m v m' v')
    refine ok_put (ix h14 35 g16) (by omega) (by omega) (ok_ob2 (ok_eq (m_num_f (r3 _ _) f2) (ok_put (ix _ 27 (g3 _ _)) (by omega) (by omega) (ok_ob2 (ok_eq (m_num_f (r4 _ _ _ _) f2) (ok_put (ix _ 31 (g4 _ _ _ _)) (by omega) (by omega) (ok_ob2 (ok_eq (m_place_f (r5 _ _ _ _ _ _) f2) (ok_put (ix _ 39 (g5 _ _ _ _ _ _)) (by omega) (by omega) (ok_bnd (ok_some ⟨n3.d.tr ((DF.up (by omega)).tr ((DF.up (by omega)).tr ((DF.up (by omega)).tr ((DF.up (by omega)).tr (DF.up (by omega)))))), Or.inl ⟨(2, ta t u b), rfl, f2, RF_kf (RF_kf (r5 _ _ _ _ _ _) (KF.up (by omega))) (KF.up (by omega))⟩⟩)))))))))))
end Cl
