section Cl
variable {h h0 g q : Mem} {t : Nat} {u : Nat → Nat} {s a b hi hi' : Nat} {B : Bs} {pt tt : Bool}
theorem m_dead {X : Flt ⊕ Lst} {f : Flt} {F : Mem → Option Mem} (hR : RF h f) (hf : 1 ≤ f.1 ∧ f.1 ≤ 6) (hG : DF h0 h) (hX : X = .inl f) : Ok (obd (f_X10_next h) (fun h15 => (if (h15 24 15 0 0) ≤ 0 then F h15 else some h15))) (FL h0 t u X) := by
  refine ok_obd (ok_eq (m_nx_f hR hf) (ok_ite (fun e => ?_) (fun _ => ok_some ⟨hG, Or.inl ⟨f, hX, hf, hR⟩⟩)))
  rw [hR.1] at e
  have := (nI_leI (b := 0) (by omega) (by omega)).mp e
  omega
theorem m_lo2 {K : Mem → Prop} (hh : Ok (f_X10_readHole h) K) : Ok (f_X10_readLineOf (nI 2) h) K := by
  unfold f_X10_readLineOf
  exact ok_ite (fun e => absurd e (by decide)) (fun _ => ok_ite (fun e => absurd e (by decide)) (fun _ => ok_ite (fun _ => ok_obd (hh.mono (fun x hx => ok_some hx))) (fun e => absurd rfl e)))
theorem m_lo3 {K : Mem → Prop} (hh : Ok (f_X10_readCoin h) K) : Ok (f_X10_readLineOf (nI 3) h) K := by
  unfold f_X10_readLineOf
  exact ok_ite (fun e => absurd e (by decide)) (fun _ => ok_ite (fun e => absurd e (by decide)) (fun _ => ok_ite (fun e => absurd e (by decide)) (fun _ => ok_ite (fun _ => ok_obd (hh.mono (fun x hx => ok_some hx))) (fun e => absurd rfl e))))
theorem m_lo4 {K : Mem → Prop} (hh : Ok (f_X10_readCrab h) K) : Ok (f_X10_readLineOf (nI 4) h) K := by
  unfold f_X10_readLineOf
  exact ok_ite (fun e => absurd e (by decide)) (fun _ => ok_ite (fun e => absurd e (by decide)) (fun _ => ok_ite (fun e => absurd e (by decide)) (fun _ => ok_ite (fun e => absurd e (by decide)) (fun _ => ok_obd (hh.mono (fun x hx => ok_some hx))))))
theorem DR_7 (hD : DR h B pt tt hi) (h1 : B 1 0 ≤ 6) (h2 : B 2 0 ≤ 4) {p' t' : Bool} {v : Int32} (hv : v = nI (told p' t')) : DR (up h 24 7 0 0 v) B p' t' hi := by
  obtain ⟨a, b, c, d, e, f, k⟩ := hD
  exact ⟨SN_fr h1 h2 a (fun i hi => up_o (by omega)), (up_o (by omega)).trans b, (up_o (by omega)).trans c, by rw [up_s]; exact hv, (up_o (by omega)).trans e, fun c h1 h2 => (up_o (by omega)).trans (f c h1 h2), (up_o (by omega)).trans k⟩
theorem m_readLine (hX : RS t u h s) (hU : UB t u) (hs : s ≤ t) (hD : DR h B pt tt hi) (hP : PW B) (h8 : hi ≤ 8) : Ok (f_X10_readLine h) (FL h t u (line t u s B pt tt hi)) := by
  obtain ⟨y1, y2, y3, y4, y5, y6, y7⟩ := id hX
  obtain ⟨d1, d2, d3, d4, d5, d6, d7⟩ := id hD
  have w1 := hP.2.1
  have w2 := hP.2.2.1
  have hbb := tb_b (u := u) hs
  have hb := hbb.2.1
  have hk4 : tkd t u s ≤ 4 := by
    unfold tkd; split
    · exact (kd_b _).2
    · omega
  have e8 : h 27 0 0 8 = nI (B 1 0) := d1.2.1
  have e3 : (if (h 24 13 0 0) = (1 : Int32) then obd (f_X10_lineNow h) (fun r2 => some r2) else some (-4 : Int32)) = some (lkv (lk t u s)) := by
    by_cases k1 : tkd t u s = 1
    · have s1 : h 24 13 0 0 = (1 : Int32) := by rw [y3, k1]; rfl
      rw [if_pos s1, m_lineNow y1 hU hs y4 y2 k1]; rfl
    · have s1 : ¬ h 24 13 0 0 = (1 : Int32) := fun e => k1 (nI_inj (b := 1) (by omega) (by omega) (y3.symm.trans e))
      have e : lk t u s = 5 := by
        unfold lk
        rw [nm_n1 k1, nm_n1 k1, nm_n1 k1, nm_n1 k1, nm_n1 k1]; rfl
      rw [if_neg s1, e]; decide
  unfold f_X10_readLine
  refine ok_obd (ok_eq e3 ?_)
  have hl := lk_lt (t := t) (u := u) (s := s)
  have hn : lk t u s = 0 ∨ lk t u s = 1 ∨ lk t u s = 2 ∨ lk t u s = 3 ∨ lk t u s = 4 ∨ lk t u s = 5 := by omega
  rcases hn with e | e | e | e | e | e
  · have eL : line t u s B pt tt hi = lPlaces t u (ta t u s) (tb t u s) B pt tt hi := by unfold line; rw [e]; rfl
    rw [eL, e]
    refine ok_obd (ok_ite (fun e => absurd e (by decide)) (fun _ => ok_some (ok_obd ((m_need true (c := 2) y6 y2).mono ?_))))
    rintro h5 (⟨-, rfl⟩ | ⟨e, -⟩)
    rotate_left
    · cases e
    refine ok_obd (ok_ite (fun e => absurd e (by decide)) (fun _ => ok_ite (fun e => absurd e (by decide)) (fun _ => ok_some (ok_obd ((m_need true (c := 5) y6 y2).mono ?_)))))
    rintro h7 (⟨-, rfl⟩ | ⟨e, -⟩)
    rotate_left
    · cases e
    refine ok_obd (ok_ite (fun _ => ok_ite (fun e => absurd e (by decide)) (fun _ => ok_obd ?_)) (fun e => absurd y6 e))
    have tb0 := t_bit0 pt tt
    rw [← d4] at tb0
    cases pt with
    | true =>
      refine ok_ite (fun e => absurd (tb0.symm.trans e) (by decide)) (fun _ => ok_some (ok_obd ((m_need false (c := 4) y6 y2).mono ?_)))
      rintro h12 (⟨e, -⟩ | ⟨-, r, n⟩)
      · cases e
      · exact ok_bnd (ok_some (m_dead (RF_kf r (KF.up (by omega))) (show 1 ≤ 4 ∧ 4 ≤ 6 by omega) (n.d.tr (DF.up (by omega))) rfl))
    | false =>
      refine ok_ite (fun _ => ok_some (ok_obd ((m_need true (c := 4) y6 y2).mono ?_))) (fun e => absurd tb0 e)
      rintro h12 (⟨-, rfl⟩ | ⟨e, -⟩)
      · refine ok_bnd (ok_some (m_rest (B := B) (pt := true) (tt := tt) (hi := hi) (DF.up (by omega)) (RT_fr y1 (fun k j o i hh => up_o (by omega))) hU hb ((up_o (by omega)).trans y4) ((up_o (by omega)).trans y6) (DR_7 hD w1 w2 ?_) hP (fun w => ?_) (fun h1 x1 x2 => m_places (Or.inr x1) hU hb x2 hP)))
        · rw [d4]; exact t_or0 tt
        · show rb (num t u 2 8 (tb t u s)) _ = _
          rw [num_bad w]; rfl
      · cases e
  · have eL : line t u s B pt tt hi = lTide t u (ta t u s) (tb t u s) B pt tt hi := by unfold line; rw [e]; rfl
    rw [eL, e]
    refine ok_obd (ok_ite (fun e => absurd e (by decide)) (fun _ => ok_some (ok_obd ((m_need true (c := 2) y6 y2).mono ?_))))
    rintro h5 (⟨-, rfl⟩ | ⟨e, -⟩)
    rotate_left
    · cases e
    refine ok_obd (ok_ite (fun e => absurd e (by decide)) (fun _ => ok_ite (fun e => absurd e (by decide)) (fun _ => ok_some (ok_obd ((m_need true (c := 5) y6 y2).mono ?_)))))
    rintro h7 (⟨-, rfl⟩ | ⟨e, -⟩)
    rotate_left
    · cases e
    refine ok_obd (ok_ite (fun _ => ok_ite (fun e => absurd e (by decide)) (fun _ => ok_obd ?_)) (fun e => absurd y6 e))
    have tb0 := t_bit1 pt tt
    rw [← d4] at tb0
    cases tt with
    | true =>
      refine ok_ite (fun e => absurd (tb0.symm.trans e) (by decide)) (fun _ => ok_some (ok_obd ((m_need false (c := 4) y6 y2).mono ?_)))
      rintro h12 (⟨e, -⟩ | ⟨-, r, n⟩)
      · cases e
      · exact ok_bnd (ok_some (m_dead (RF_kf r (KF.up (by omega))) (show 1 ≤ 4 ∧ 4 ≤ 6 by omega) (n.d.tr (DF.up (by omega))) rfl))
    | false =>
      refine ok_ite (fun _ => ok_some (ok_obd ((m_need true (c := 4) y6 y2).mono ?_))) (fun e => absurd tb0 e)
      rintro h12 (⟨-, rfl⟩ | ⟨e, -⟩)
      · refine ok_bnd (ok_some (m_rest (B := B) (pt := pt) (tt := true) (hi := hi) (DF.up (by omega)) (RT_fr y1 (fun k j o i hh => up_o (by omega))) hU hb ((up_o (by omega)).trans y4) ((up_o (by omega)).trans y6) (DR_7 hD w1 w2 ?_) hP (fun w => ?_) (fun h1 x1 x2 => m_tide (Or.inr x1) hU hb x2 hP)))
        · rw [d4]; exact t_or1 pt
        · show rb (num t u 1 9 (tb t u s)) _ = _
          rw [num_bad w]; rfl
      · cases e
  · have eL : line t u s B pt tt hi = lHole t u (tb t u s) B pt tt hi := by unfold line; rw [e]; rfl
    rw [eL, e]
    refine ok_obd (ok_ite (fun e => absurd e (by decide)) (fun _ => ok_some (ok_obd ((m_need true (c := 2) y6 y2).mono ?_))))
    rintro h5 (⟨-, rfl⟩ | ⟨e, -⟩)
    rotate_left
    · cases e
    refine ok_obd (ok_ite (fun e => absurd e (by decide)) (fun _ => ok_ite (fun e => absurd e (by decide)) (fun _ => ok_some (ok_obd ((m_need true (c := 5) y6 y2).mono ?_)))))
    rintro h7 (⟨-, rfl⟩ | ⟨e, -⟩)
    rotate_left
    · cases e
    refine ok_obd (ok_ite (fun _ => ok_ite (fun _ => ok_some ?_) (fun e => absurd (by decide) e)) (fun e => absurd y6 e))
    refine m_rest (B := B) (pt := pt) (tt := tt) (hi := hi) DF.rf y1 hU hb y4 y6 hD hP (fun w => ?_) (fun h1 x1 x2 => m_lo2 (m_hole (Or.inr x1) hU hb x2 hP h8))
    unfold lHole
    rw [num_bad w]; rfl
  · have eL : line t u s B pt tt hi = lCoin t u (ta t u s) (tb t u s) B pt tt hi := by unfold line; rw [e]; rfl
    rw [eL, e]
    refine ok_obd (ok_ite (fun e => absurd e (by decide)) (fun _ => ok_some (ok_obd ((m_need true (c := 2) y6 y2).mono ?_))))
    rintro h5 (⟨-, rfl⟩ | ⟨e, -⟩)
    rotate_left
    · cases e
    by_cases q6 : 6 ≤ B 1 0
    · refine ok_obd (ok_ite (fun _ => ok_ite (fun _ => ok_some (ok_obd ((m_need false (c := 5) y6 y2).mono ?_))) (fun e => absurd (by rw [e8]; exact (nI_leI (a := 6) (by omega) (by omega)).mpr q6) e)) (fun e => absurd rfl e))
      rintro h7 (⟨e, -⟩ | ⟨-, r, n⟩)
      · cases e
      · have f5 : (1 ≤ 5 ∧ 5 ≤ 6) := by omega
        refine ok_obd (ok_ite (fun e => absurd e (rf_ne r f5)) (fun _ => ok_some (m_dead r f5 n.d ?_)))
        unfold lCoin; rw [if_pos q6]
    · refine ok_obd (ok_ite (fun _ => ok_ite (fun e => absurd ((nI_leI (a := 6) (by omega) (by omega)).mp (by rw [← e8]; exact e)) q6) (fun _ => ok_ite (fun e => absurd e (by decide)) (fun _ => ok_some (ok_obd ((m_need true (c := 5) y6 y2).mono ?_))))) (fun e => absurd rfl e))
      rintro h7 (⟨-, rfl⟩ | ⟨e, -⟩)
      rotate_left
      · cases e
      refine ok_obd (ok_ite (fun _ => ok_ite (fun _ => ok_some ?_) (fun e => absurd (by decide) e)) (fun e => absurd y6 e))
      refine m_rest (B := B) (pt := pt) (tt := tt) (hi := hi) DF.rf y1 hU hb y4 y6 hD hP (fun w => ?_) (fun h1 x1 x2 => m_lo3 (m_coin (Or.inr x1) hU hb x2 hP h8 (by omega)))
      unfold lCoin
      rw [if_neg q6, num_bad w]; rfl
  · have eL : line t u s B pt tt hi = lCrab t u (ta t u s) (tb t u s) B pt tt hi := by unfold line; rw [e]; rfl
    rw [eL, e]
    refine ok_obd (ok_ite (fun e => absurd e (by decide)) (fun _ => ok_some (ok_obd ((m_need true (c := 2) y6 y2).mono ?_))))
    rintro h5 (⟨-, rfl⟩ | ⟨e, -⟩)
    rotate_left
    · cases e
    by_cases q6 : 4 ≤ B 2 0
    · refine ok_obd (ok_ite (fun e => absurd e (by decide)) (fun _ => ok_ite (fun _ => ok_ite (fun _ => ok_some (ok_obd ((m_need false (c := 5) y6 y2).mono ?_))) (fun e => absurd (by rw [d3]; exact (nI_leI (a := 4) (by omega) (by omega)).mpr q6) e)) (fun e => absurd rfl e)))
      rintro h7 (⟨e, -⟩ | ⟨-, r, n⟩)
      · cases e
      · have f5 : (1 ≤ 5 ∧ 5 ≤ 6) := by omega
        refine ok_obd (ok_ite (fun e => absurd e (rf_ne r f5)) (fun _ => ok_some (m_dead r f5 n.d ?_)))
        unfold lCrab; rw [if_pos q6]
    · refine ok_obd (ok_ite (fun e => absurd e (by decide)) (fun _ => ok_ite (fun _ => ok_ite (fun e => absurd ((nI_leI (a := 4) (by omega) (by omega)).mp (by rw [← d3]; exact e)) q6) (fun _ => ok_some (ok_obd ((m_need true (c := 5) y6 y2).mono ?_)))) (fun e => absurd rfl e)))
      rintro h7 (⟨-, rfl⟩ | ⟨e, -⟩)
      rotate_left
      · cases e
      refine ok_obd (ok_ite (fun _ => ok_ite (fun _ => ok_some ?_) (fun e => absurd (by decide) e)) (fun e => absurd y6 e))
      refine m_rest (B := B) (pt := pt) (tt := tt) (hi := hi) DF.rf y1 hU hb y4 y6 hD hP (fun w => ?_) (fun h1 x1 x2 => m_lo4 (m_crab x1 hU hb x2 hP h8 (by omega)))
      have w' : tkd t u (tb t u s) = 4 ∨ (tkd t u (tb t u s) = 2 ∧ 2 < tb t u (tb t u s) - ta t u (tb t u s)) := w
      unfold lCrab
      rw [if_neg q6, if_pos w']
  · have eL : line t u s B pt tt hi = .inl (2, ta t u s) := by unfold line; rw [e]; rfl
    rw [eL, e]
    have f2 : (1 ≤ 2 ∧ 2 ≤ 6) := by omega
    refine ok_obd (ok_ite (fun _ => ok_some (ok_obd ((m_need false (c := 2) y6 y2).mono ?_))) (fun e => absurd (by decide) e))
    rintro h5 (⟨e, -⟩ | ⟨-, r, n⟩)
    · cases e
    · refine ok_obd (ok_ite (fun e => absurd e (by decide)) (fun _ => ok_ite (fun e => absurd e (by decide)) (fun _ => ok_some (ok_obd (ok_eq (m_need_f _ r f2) ?_)))))
      exact ok_obd (ok_ite (fun e => absurd e (rf_ne r f2)) (fun _ => ok_some (m_dead r f2 n.d rfl)))
end Cl
