section Cl
variable {h h0 g : Mem} {t : Nat} {u : Nat → Nat} {s a b hi : Nat} {B : Bs} {pt tt : Bool}
theorem c_coin (hC : CT h t u) (hU : UB t u) (hb : b ≤ t) (h8 : h 16 8 0 0 = nI b) (h7 : h 16 7 0 0 = nI a) (h2 : h 16 2 0 0 = nI 0) (hB : BC h B) (hF : FG h pt tt) (hP : PW B) (hH : HI B hi) : Ok (f_X8_takeCoin h) (LPo h t b (lCoin t u a b B pt tt hi)) := by
  have e12 := hB.1.2.1
  have w1 := hP.2.1
  unfold f_X8_takeCoin lCoin
  refine ok_bnd ?_
  rw [e12]
  by_cases q6 : 6 ≤ B 1 0
  · rw [if_pos q6]
    refine ok_ite (fun e => ?_) (fun _ => c_ref 5 (by omega) GF.rf h7 rfl)
    exact absurd ((nI_ltI (b := 6) (by omega) (by omega)).mp e) (by omega)
  · rw [if_neg q6]
    refine ok_ite (fun _ => ok_ob2 ?_) (fun e => absurd ((nI_ltI (b := 6) (by omega) (by omega)).mpr (by omega)) e)
    refine (c_num hC hU hb h8 h2 (lo := 1) (hi := 9) (by omega) (by omega)).mono ?_
    rintro ⟨r, h3⟩ ⟨hT, hq⟩
    have hG : GF h h3 := hT.g
    rcases hq with ⟨f, n1, n2, n3, n4⟩ | ⟨v, e, n1, n2, n3, n4, n5, n6, n7, n8, n9, n10⟩
    · dsimp only at n3; subst n3
      exact ok_ite (fun e => by cases e) (fun _ => ok_some ⟨hG, Or.inl ⟨f, by rw [n1]; rfl, n2, rfl, n4⟩⟩)
    · dsimp only at n6 n7 n8 n9 n10; subst n6
      have hB3 := BC_tf hB hT
      have hF3 := FG_tf hF hT
      refine ok_ite (fun _ => ok_bnd (ok_ob2 ?_)) (fun e => absurd rfl e)
      rw [n1, rb_r]
      dsimp only
      refine (c_num (CT_gf hC hG) hU n5 n8 n10 (lo := 0) (hi := 7) (by omega) (by omega)).mono ?_
      rintro ⟨r, h5⟩ ⟨hT5, hq⟩
      have hG5 : GF h h5 := hG.tr hT5.g
      rcases hq with ⟨f, o1, o2, o3, o4⟩ | ⟨w, e', o1, o2, o3, o4, o5, o6, o7, o8, o9, o10⟩
      · dsimp only at o3; subst o3
        exact ok_ite (fun e => by cases e) (fun _ => ok_some ⟨hG5, Or.inl ⟨f, by rw [o1]; rfl, o2, rfl, o4⟩⟩)
      · dsimp only at o6 o7 o8 o9 o10; subst o6
        have hB5 := BC_tf hB3 hT5
        have hF5 := FG_tf hF3 hT5
        refine ok_ite (fun _ => ok_obd ?_) (fun e => absurd rfl e)
        rw [o1, rb_r]
        dsimp only
        rw [n7, o7]
        have e12' : h5 1 2 2 0 = nI (B 1 0) := hB5.1.2.1
        have q6' : ¬ 6 ≤ B 1 0 := q6
        refine Ok.mono (K := fun h7 => h7 = up (up (up (up h5 6 0 2 (B 1 0) (nI v)) 6 1 2 (B 1 0) (nI 0)) 6 2 2 (B 1 0) (nI w)) 1 2 2 0 (nI (B 1 0 + 1))) ?_ ?_
        · unfold f_X0_addCoin
          simp (disch := omega) only [wp_some, wp_obd, wp_ob2, wp_bnd, wp_gd, wp_ite, wp_true, wp_ff, ↓l_n1, ↓l_n2, ↓l_n3, ↓l_n4, ↓l_n10, ↓l_n20, l_0, l_1, l_2, l_3, l_4, l_5, l_6, l_7, l_8, l_9, l_10, l_13, l_14, l_15, l_16, l_20, l_21, l_24, l_27, l_28, l_30, l_31, l_32, l_35, l_36, l_39, l_40, l_41, l_43, l_44, l_45, l_46, l_47, l_48, l_49, l_56, l_57, l_59, l_60, l_79, l_97, l_122, l_160, l_237, l_255, l_320, l_999, l_1000, nI_add, pk_mul, nI_eq, nI_leI, nI_ltI, nI_clamp, inb_nI_iff, e_within, e_in32, e_asNumber, e_flag, decide_eq_true_eq, Sum.elim_inl, Sum.elim_inr, true_implies, not_true_eq_false, not_false_eq_true, false_implies, and_true, true_and, nI_nn, nn_nI, nn_nn, ↓reduceIte, if_true, if_false, Nat.le_refl, implies_true, Nat.lt_irrefl, and_self_left, win1, nI_le_s1, Nat.zero_le, up_s, up_o, Nat.zero_add, m64_0, m64_1, m64_2, m64_3, m64_7, m64_8, m64_9, m64_10, m64_13, m64_20, m64_27, m64_60, e12', q6']
          omega
        rintro h7' rfl
        have hBm : BC (up (up (up (up h5 6 0 2 (B 1 0) (nI v)) 6 1 2 (B 1 0) (nI 0)) 6 2 2 (B 1 0) (nI w)) 1 2 2 0 (nI (B 1 0 + 1))) (mnt B v w) := ⟨CB_mnt hB5.1, fun k hk => by rw [mnt_f (by decide)] at hk; (try simp (disch := omega) only [up_s, up_o, and_self]); exact hB5.2 k hk⟩
        have hGm : GF h5 (up (up (up (up h5 6 0 2 (B 1 0) (nI v)) 6 1 2 (B 1 0) (nI 0)) 6 2 2 (B 1 0) (nI w)) 1 2 2 0 (nI (B 1 0 + 1))) := (GF.up (by omega)).tr ((GF.up (by omega)).tr ((GF.up (by omega)).tr (GF.up (by omega))))
        have m8 : (up (up (up (up h5 6 0 2 (B 1 0) (nI v)) 6 1 2 (B 1 0) (nI 0)) 6 2 2 (B 1 0) (nI w)) 1 2 2 0 (nI (B 1 0 + 1))) 16 8 0 0 = nI e' := by (try simp (disch := omega) only [up_s, up_o, and_self]); exact o8
        have m2 : (up (up (up (up h5 6 0 2 (B 1 0) (nI v)) 6 1 2 (B 1 0) (nI 0)) 6 2 2 (B 1 0) (nI w)) 1 2 2 0 (nI (B 1 0 + 1))) 16 2 0 0 = nI 0 := by (try simp (disch := omega) only [up_s, up_o, and_self]); exact o10
        have hFm : FG (up (up (up (up h5 6 0 2 (B 1 0) (nI v)) 6 1 2 (B 1 0) (nI 0)) 6 2 2 (B 1 0) (nI w)) 1 2 2 0 (nI (B 1 0 + 1))) pt tt := ⟨by (try simp (disch := omega) only [up_s, up_o, and_self]); exact hF5.1, by (try simp (disch := omega) only [up_s, up_o, and_self]); exact hF5.2⟩
        generalize (up (up (up (up h5 6 0 2 (B 1 0) (nI v)) 6 1 2 (B 1 0) (nI 0)) 6 2 2 (B 1 0) (nI w)) 1 2 2 0 (nI (B 1 0 + 1))) = hm at hBm hGm m8 m2 hFm
        have hG6 : GF h hm := hG5.tr hGm
        have hPm := PW_mnt hP (by omega) ⟨n2, n3⟩ o3
        have hHm := HI_mnt (z := v) hH o3
        have hbb := tb_b (u := u) o5
        have haa := ta_b (u := u) o5
        rw [wp_ob2]
        refine (c_token (CT_gf hC hG6) hU o5 m8).mono ?_
        rintro ⟨r, h9⟩ ⟨a1, a2, a3, a4⟩
        dsimp only at a1 a2 a3 a4
        have hT9 : TF hm h9 := fun k j o i hh => a4 _ _ _ _ (by omega)
        have hG9 : GF h h9 := hG6.tr hT9.g
        by_cases q : bad t u e'
        · obtain ⟨rfl, b2, b3⟩ := a2 q
          have q' : tkd t u e' = 4 ∨ (tkd t u e' = 2 ∧ 2 < tb t u e' - ta t u e') := q
          refine ok_ite (fun e => by cases e) (fun _ => ok_some ⟨hG9, Or.inl ⟨(1, ta t u e'), by rw [if_pos q'], (show 1 ≤ 1 ∧ 1 ≤ 6 by omega), rfl, b2, b3⟩⟩)
        · obtain ⟨rfl, b6, b8, b9, b2⟩ := a3 q
          rw [m2] at b2
          have q' : ¬ (tkd t u e' = 4 ∨ (tkd t u e' = 2 ∧ 2 < tb t u e' - ta t u e')) := q
          have hB9 := BC_tf hBm hT9
          have hF9 := FG_tf hFm hT9
          rw [if_neg q']
          refine ok_ite (fun _ => ok_obd (ok_eq (c_name (CT_gf hC hG9) hU o5 b6 a1 b8 (i := 3) (by omega)) ?_)) (fun e => absurd rfl e)
          cases hn : nm t u e' 3 with
          | true =>
            rw [if_pos rfl, if_pos rfl]
            rw [wp_gd]
            refine ⟨by rw [inb_nI_iff (by omega)]; omega, ok_bnd ?_⟩
            rw [nI_clamp (by omega)]
            refine c_fin (CT_gf hC (hG9.tr (GF.up (by omega)))) hU hbb.2.1 (by omega) ((up_o (by omega)).trans b8) ((up_o (by omega)).trans b2) (hG9.tr (GF.up (by omega))) ⟨CB_10 hB9.1, fun k hk => ?_⟩ ⟨(up_o (by omega)).trans hF9.1, (up_o (by omega)).trans hF9.2⟩ (PW_10 hPm) (HI_f hHm (ub_n (by decide)) (ub_n (by decide)) (fun _ => ub_n (by decide)) (fun _ => ub_n (by decide)) (fun _ => ub_n (by decide)))
            rw [ub_n (by decide)] at hk
            exact (up_o (by omega)).trans (hB9.2 k hk)
          | false =>
            rw [if_neg (by decide), if_neg (by decide)]
            refine ok_ob2 ?_
            refine (c_ends o5 b6 a1 b2 b8 q).mono ?_
            rintro ⟨r, h10⟩ ⟨c1, c2⟩
            rcases c2 with ⟨c2, c3, c4⟩ | ⟨c2, c3, c4⟩
            · dsimp only at c3 c4
              subst c3
              exact ok_some ⟨hG9.tr c1.g, Or.inl ⟨(2, ta t u e'), by rw [if_neg c2], (show 1 ≤ 2 ∧ 2 ≤ 6 by omega), rfl, c4⟩⟩
            · dsimp only at c3 c4
              subst c3 c4
              have hlt := hbb.2.2 (by omega)
              exact ok_some ⟨hG9, Or.inr ⟨tb t u e', mnt B v w, pt, tt, _, by rw [if_pos c2], rfl, hB9, hF9, b2, b8, by omega, hbb.2.1, hPm, hHm⟩⟩
theorem c_addCrab {d c z x : Nat} (hB : BC h B) (hO : NO B) (h4 : B 2 0 < 4) : Ok (f_X0_addCrab 2 (nI d) (nI c) (nI z) (nI x) h) (fun h' => BC h' (crb B d c z x) ∧ ∀ k j o i, ¬ (1 ≤ k ∧ k ≤ 7 ∧ o = 2) → h' k j o i = h k j o i) := by
  obtain ⟨⟨hM0, hM1, hM2, hM3, hM4, hM5, hM6, hM7, hM8, hM9, hM10⟩, hH⟩ := hB
  have q4 : ¬ 4 ≤ B 2 0 := by omega
  unfold f_X0_addCrab
  simp (disch := omega) only [wp_some, wp_obd, wp_ob2, wp_bnd, wp_gd, wp_ite, wp_true, wp_ff, ↓l_n1, ↓l_n2, ↓l_n3, ↓l_n4, ↓l_n10, ↓l_n20, l_0, l_1, l_2, l_3, l_4, l_5, l_6, l_7, l_8, l_9, l_10, l_13, l_14, l_15, l_16, l_20, l_21, l_24, l_27, l_28, l_30, l_31, l_32, l_35, l_36, l_39, l_40, l_41, l_43, l_44, l_45, l_46, l_47, l_48, l_49, l_56, l_57, l_59, l_60, l_79, l_97, l_122, l_160, l_237, l_255, l_320, l_999, l_1000, nI_add, pk_mul, nI_eq, nI_leI, nI_ltI, nI_clamp, inb_nI_iff, e_within, e_in32, e_asNumber, e_flag, decide_eq_true_eq, Sum.elim_inl, Sum.elim_inr, true_implies, not_true_eq_false, not_false_eq_true, false_implies, and_true, true_and, nI_nn, nn_nI, nn_nn, ↓reduceIte, if_true, if_false, Nat.le_refl, implies_true, Nat.lt_irrefl, and_self_left, win1, nI_le_s1, Nat.zero_le, up_s, up_o, Nat.zero_add, m64_0, m64_1, m64_2, m64_3, m64_7, m64_8, m64_9, m64_10, m64_13, m64_20, m64_27, m64_60, hM2, q4]
  refine ⟨by omega, ⟨⟨?_, ?_, ?_, ?_, ?_, ?_, ?_, fun x hx => ?_, fun i hi => ?_, fun c hc => ?_, fun k hk => ?_⟩, fun k hk => ?_⟩, fun k j o i hh => ?_⟩
  · rw [crb_f (by decide)]; (try simp (disch := omega) only [up_s, up_o, and_self]); exact hM0
  · rw [crb_f (by decide)]; (try simp (disch := omega) only [up_s, up_o, and_self]); exact hM1
  · rw [crb_2]; (try simp (disch := omega) only [up_s, up_o, and_self])
  · rw [crb_f (by decide)]; (try simp (disch := omega) only [up_s, up_o, and_self]); exact hM3
  · rw [crb_f (by decide)]; (try simp (disch := omega) only [up_s, up_o, and_self]); exact hM4
  · rw [crb_f (by decide)]; (try simp (disch := omega) only [up_s, up_o, and_self]); exact hM5
  · rw [crb_6]; (try simp (disch := omega) only [up_s, up_o, and_self])
  · rw [crb_f (by decide)]; (try simp (disch := omega) only [up_s, up_o, and_self]); exact hM7 x hx
  · rw [crb_6] at hi
    by_cases e : i = B 2 0
    · subst e; rw [crb_8]; (try simp (disch := omega) only [up_s, up_o, and_self])
    · rw [crb_o (by decide) e]; (try simp (disch := omega) only [up_s, up_o, and_self]); exact hM8 i (by rw [hO.1]; omega)
  · rw [crb_f (by decide)] at hc
    rw [crb_f (by decide), crb_f (by decide), crb_f (by decide)]; (try simp (disch := omega) only [up_s, up_o, and_self]); exact hM9 c hc
  · rw [crb_2] at hk
    by_cases e : k = B 2 0
    · subst e; rw [crb_12, crb_13, crb_14, crb_15]; (try simp (disch := omega) only [up_s, up_o, and_self])
    · rw [crb_o (by decide) e, crb_o (by decide) e, crb_o (by decide) e, crb_o (by decide) e]; (try simp (disch := omega) only [up_s, up_o, and_self]); exact hM10 k (by omega)
  · rw [crb_2] at hk
    by_cases e : k = B 2 0
    · subst e; (try simp (disch := omega) only [up_s, up_o, and_self])
    · (try simp (disch := omega) only [up_s, up_o, and_self]); exact hH k (by omega)
  · (try simp (disch := omega) only [up_s, up_o, and_self])
theorem c_crabBody {r : Bool} (hC : CT h t u) (hU : UB t u) (hs : s ≤ t) (hbs : b ≤ s) (h8 : h 16 8 0 0 = nI s) (h2 : h 16 2 0 0 = nI 0) (hG0 : GF h0 h) (hB : BC h B) (hF : FG h pt tt) (hP : PW B) (hH : HI B hi) (h4 : B 2 0 < 4) : Ok (ob2 (f_X8_takeNumber (1 : Int32) (9 : Int32) h) (fun r11 h12 => (if r11 = true then bnd (h12 16 9 0 0) (fun x13 => ob2 (f_X8_takeNumber (1 : Int32) (9 : Int32) h12) (fun r14 h15 => (if r14 = true then bnd (h15 16 9 0 0) (fun x16 => ob2 (f_X8_takeNumber (0 : Int32) (7 : Int32) h15) (fun r17 h18 => (if r17 = true then obd (f_X9_asNumber r h18) (fun r19 => obd (f_X0_addCrab 2 r19 x13 x16 (h18 16 9 0 0) h18) (fun h20 => ob2 (f_X8_takeToken h20) (fun r21 h22 => (if r21 = true then ob2 (f_X8_endsLine h22) (fun r23 h24 => (if r23 = true then some (true, h24) else some (false, h24))) else some (false, h22))))) else some (false, h18)))) else some (false, h15)))) else some (false, h12)))) (LPo h0 t b (rb (num t u 1 9 s) (fun q => rb (num t u 1 9 q.2) (fun p => rb (num t u 0 7 p.2) (fun w => rb (stop t u w.2) (fun e => .inr (e, crb B (if r = true then 1 else 0) q.1 p.1 w.1, pt, tt, max hi (w.1 + 1)))))))) := by
  refine ok_ob2 ?_
  refine (c_num hC hU hs h8 h2 (lo := 1) (hi := 9) (by omega) (by omega)).mono ?_
  rintro ⟨r1, h3⟩ ⟨hT, hq⟩
  have hG : GF h0 h3 := hG0.tr hT.g
  have hCg : CT h3 t u := CT_gf hC hT.g
  rcases hq with ⟨f, n1, n2, n3, n4⟩ | ⟨v, e, n1, n2, n3, n4, n5, n6, n7, n8, n9, n10⟩
  · dsimp only at n3; subst n3
    exact ok_ite (fun e => by cases e) (fun _ => ok_some ⟨hG, Or.inl ⟨f, by rw [n1]; rfl, n2, rfl, n4⟩⟩)
  · dsimp only at n6 n7 n8 n9 n10; subst n6
    refine ok_ite (fun _ => ok_bnd (ok_ob2 ?_)) (fun e => absurd rfl e)
    rw [n1, rb_r]
    dsimp only
    refine (c_num hCg hU n5 n8 n10 (lo := 1) (hi := 9) (by omega) (by omega)).mono ?_
    rintro ⟨r1, h5⟩ ⟨hT5, hq⟩
    have hG5 : GF h0 h5 := hG.tr hT5.g
    have hC5 : CT h5 t u := CT_gf hCg hT5.g
    rcases hq with ⟨f, o1, o2, o3, o4⟩ | ⟨w, e', o1, o2, o3, o4, o5, o6, o7, o8, o9, o10⟩
    · dsimp only at o3; subst o3
      exact ok_ite (fun e => by cases e) (fun _ => ok_some ⟨hG5, Or.inl ⟨f, by rw [o1]; rfl, o2, rfl, o4⟩⟩)
    · dsimp only at o6 o7 o8 o9 o10; subst o6
      refine ok_ite (fun _ => ok_bnd (ok_ob2 ?_)) (fun e => absurd rfl e)
      rw [o1, rb_r]
      dsimp only
      refine (c_num hC5 hU o5 o8 o10 (lo := 0) (hi := 7) (by omega) (by omega)).mono ?_
      rintro ⟨r1, h6⟩ ⟨hT6, hq⟩
      have hG6 : GF h0 h6 := hG5.tr hT6.g
      have hC6 : CT h6 t u := CT_gf hC5 hT6.g
      rcases hq with ⟨f, p1, p2, p3, p4⟩ | ⟨x, e'', p1, p2, p3, p4, p5, p6, p7, p8, p9, p10⟩
      · dsimp only at p3; subst p3
        exact ok_ite (fun e => by cases e) (fun _ => ok_some ⟨hG6, Or.inl ⟨f, by rw [p1]; rfl, p2, rfl, p4⟩⟩)
      · dsimp only at p6 p7 p8 p9 p10; subst p6
        have hB6 := BC_tf (BC_tf (BC_tf hB hT) hT5) hT6
        have hF6 := FG_tf (FG_tf (FG_tf hF hT) hT5) hT6
        refine ok_ite (fun _ => ok_obd (ok_eq (e_asNumber _ _) (ok_obd ?_))) (fun e => absurd rfl e)
        rw [p1, rb_r]
        dsimp only
        rw [n7, o7, p7, b2i_b]
        have hd : (if r = true then 1 else 0 : Nat) ≤ 1 := by split <;> omega
        generalize (if r = true then 1 else 0 : Nat) = d at hd
        refine (c_addCrab hB6 hP.2.2.2.2.2.2.2.1 h4).mono ?_
        rintro h7 ⟨c1, c2⟩
        have hG7 : GF h6 h7 := fun k j o i hh => c2 _ _ _ _ (by omega)
        exact c_fin (CT_gf hC6 hG7) hU p5 (by omega) ((c2 _ _ _ _ (by omega)).trans p8) ((c2 _ _ _ _ (by omega)).trans p10) (hG6.tr hG7) c1 ⟨(c2 _ _ _ _ (by omega)).trans hF6.1, (c2 _ _ _ _ (by omega)).trans hF6.2⟩ (PW_crb hP h4 hd ⟨n2, n3⟩ ⟨o2, o3⟩ p3) (HI_crb hH p3)
theorem c_crab (hC : CT h t u) (hU : UB t u) (hb : b ≤ t) (h8 : h 16 8 0 0 = nI b) (h7 : h 16 7 0 0 = nI a) (h2 : h 16 2 0 0 = nI 0) (hB : BC h B) (hF : FG h pt tt) (hP : PW B) (hH : HI B hi) : Ok (f_X8_takeCrab h) (LPo h t b (lCrab t u a b B pt tt hi)) := by
  have e14 := hB.1.2.2.1
  have w2 := hP.2.2.1
  unfold f_X8_takeCrab lCrab
  rw [e14]
  by_cases q6 : 4 ≤ B 2 0
  · rw [if_pos q6]
    refine ok_ite (fun e => ?_) (fun _ => c_ref 5 (by omega) GF.rf h7 rfl)
    exact absurd ((nI_ltI (b := 4) (by omega) (by omega)).mp e) (by omega)
  · rw [if_neg q6]
    refine ok_ite (fun _ => ok_ob2 ?_) (fun e => absurd ((nI_ltI (b := 4) (by omega) (by omega)).mpr (by omega)) e)
    have hbb := tb_b (u := u) hb
    have haa := ta_b (u := u) hb
    refine (c_token hC hU hb h8).mono ?_
    rintro ⟨r, h9⟩ ⟨a1, a2, a3, a4⟩
    dsimp only at a1 a2 a3 a4
    have hT9 : TF h h9 := fun k j o i hh => a4 _ _ _ _ (by omega)
    have hG9 : GF h h9 := hT9.g
    by_cases q : bad t u b
    · obtain ⟨rfl, b2, b3⟩ := a2 q
      have q' : tkd t u b = 4 ∨ (tkd t u b = 2 ∧ 2 < tb t u b - ta t u b) := q
      refine ok_ite (fun e => by cases e) (fun _ => ok_some ⟨hG9, Or.inl ⟨(1, ta t u b), by rw [if_pos q'], (show 1 ≤ 1 ∧ 1 ≤ 6 by omega), rfl, b2, b3⟩⟩)
    · obtain ⟨rfl, b6, b8, b9, b2⟩ := a3 q
      rw [h2] at b2
      have q' : ¬ (tkd t u b = 4 ∨ (tkd t u b = 2 ∧ 2 < tb t u b - ta t u b)) := q
      have hB9 := BC_tf hB hT9
      have hF9 := FG_tf hF hT9
      have hC9 := CT_gf hC hG9
      rw [if_neg q']
      refine ok_ite (fun _ => ok_obd (ok_eq (c_name hC9 hU hb b6 a1 b8 (i := 5) (by omega)) ?_)) (fun e => absurd rfl e)
      cases hn : nm t u b 5 with
      | true =>
        rw [if_pos (Or.inl rfl)]
        exact c_crabBody (r := true) hC9 hU hbb.2.1 (by omega) b8 b2 hG9 hB9 hF9 hP hH (by omega)
      | false =>
        refine ok_obd (ok_ite (fun e => by cases e) (fun _ => ok_obd (ok_eq (c_name hC9 hU hb b6 a1 b8 (i := 6) (by omega)) ?_)))
        cases hn6 : nm t u b 6 with
        | true =>
          rw [if_pos (Or.inr rfl)]
          refine ok_ite (fun _ => ok_some ?_) (fun e => absurd rfl e)
          exact c_crabBody (r := false) hC9 hU hbb.2.1 (by omega) b8 b2 hG9 hB9 hF9 hP hH (by omega)
        | false =>
          rw [if_neg (by decide), if_neg (by decide)]
          unfold f_X8_refuse
          exact ok_ob2 (ok_bnd (ok_bnd (ok_some (ok_some (ok_some ⟨hG9.tr ((GF.up (by omega)).tr (GF.up (by omega))), Or.inl ⟨(2, ta t u b), rfl, (show 1 ≤ 2 ∧ 2 ≤ 6 by omega), rfl, FTl_mk h9 2 _ _ a1⟩⟩)))))
theorem c_line (hC : CT h t u) (hU : UB t u) (hs : s ≤ t) (h6 : h 16 6 0 0 = nI (tkd t u s)) (h7 : h 16 7 0 0 = nI (ta t u s)) (h8 : h 16 8 0 0 = nI (tb t u s)) (h2 : h 16 2 0 0 = nI 0) (hB : BC h B) (hF : FG h pt tt) (hP : PW B) (hH : HI B hi) : Ok (f_X8_takeLine h) (LPo h t (tb t u s) (line t u s B pt tt hi)) := by
  have hbb := tb_b (u := u) hs
  have nmq := fun i (hi : i < 8) => c_name hC hU hs h6 h7 h8 hi
  have sm : ∀ {x : Option (Bool × Mem)} {K : Bool × Mem → Prop}, Ok x K → Ok (ob2 x (fun r1 h2 => some (r1, h2))) K := fun hx => ok_ob2 (hx.mono (fun q hq => ok_some hq))
  have ne := fun i j => nm_one (t := t) (u := u) (s := s) (i := i) (j := j)
  unfold f_X8_takeLine
  refine ok_obd (ok_eq (nmq 0 (by omega)) ?_)
  cases n0 : nm t u s 0 with
  | true =>
    have e : lk t u s = 0 := by unfold lk; rw [if_pos n0]
    have eL : line t u s B pt tt hi = lPlaces t u (ta t u s) (tb t u s) B pt tt hi := by unfold line; rw [e]; rfl
    rw [eL]
    exact ok_ite (fun _ => sm (c_places hC hU hbb.2.1 h8 h7 h2 hB hF hP hH)) (fun e => absurd rfl e)
  | false =>
    refine ok_ite (fun e => by cases e) (fun _ => ok_obd (ok_eq (nmq 1 (by omega)) ?_))
    have m0 : ¬ nm t u s 0 = true := by rw [n0]; decide
    cases n1 : nm t u s 1 with
    | true =>
      have m7 : ¬ nm t u s 7 = true := fun w => ne 1 7 n1 w (Or.inr ⟨0, by decide, by decide⟩)
      have e : lk t u s = 2 := by unfold lk; rw [if_neg m0, if_neg m7, if_pos n1]
      have eL : line t u s B pt tt hi = lHole t u (tb t u s) B pt tt hi := by unfold line; rw [e]; rfl
      rw [eL]
      exact ok_ite (fun _ => sm (c_hole hC hU hbb.2.1 h8 h2 hB hF hP hH)) (fun e => absurd rfl e)
    | false =>
      refine ok_ite (fun e => by cases e) (fun _ => ok_obd (ok_eq (nmq 2 (by omega)) ?_))
      have m1 : ¬ nm t u s 1 = true := by rw [n1]; decide
      cases n2 : nm t u s 2 with
      | true =>
        have m7 : ¬ nm t u s 7 = true := fun w => ne 2 7 n2 w (Or.inr ⟨0, by decide, by decide⟩)
        have e : lk t u s = 3 := by unfold lk; rw [if_neg m0, if_neg m7, if_neg m1, if_pos n2]
        have eL : line t u s B pt tt hi = lCoin t u (ta t u s) (tb t u s) B pt tt hi := by unfold line; rw [e]; rfl
        rw [eL]
        exact ok_ite (fun _ => sm (c_coin hC hU hbb.2.1 h8 h7 h2 hB hF hP hH)) (fun e => absurd rfl e)
      | false =>
        refine ok_ite (fun e => by cases e) (fun _ => ok_obd (ok_eq (nmq 4 (by omega)) ?_))
        have m2 : ¬ nm t u s 2 = true := by rw [n2]; decide
        cases n4 : nm t u s 4 with
        | true =>
          have m7 : ¬ nm t u s 7 = true := fun w => ne 4 7 n4 w (Or.inr ⟨0, by decide, by decide⟩)
          have e : lk t u s = 4 := by unfold lk; rw [if_neg m0, if_neg m7, if_neg m1, if_neg m2, if_pos n4]
          have eL : line t u s B pt tt hi = lCrab t u (ta t u s) (tb t u s) B pt tt hi := by unfold line; rw [e]; rfl
          rw [eL]
          exact ok_ite (fun _ => sm (c_crab hC hU hbb.2.1 h8 h7 h2 hB hF hP hH)) (fun e => absurd rfl e)
        | false =>
          refine ok_ite (fun e => by cases e) (fun _ => ok_obd (ok_eq (nmq 7 (by omega)) ?_))
          have m4 : ¬ nm t u s 4 = true := by rw [n4]; decide
          cases n7 : nm t u s 7 with
          | true =>
            have e : lk t u s = 1 := by unfold lk; rw [if_neg m0, if_pos n7]
            have eL : line t u s B pt tt hi = lTide t u (ta t u s) (tb t u s) B pt tt hi := by unfold line; rw [e]; rfl
            rw [eL]
            exact ok_ite (fun _ => sm (c_tide hC hU hbb.2.1 h8 h7 h2 hB hF hP hH)) (fun e => absurd rfl e)
          | false =>
            have m7 : ¬ nm t u s 7 = true := by rw [n7]; decide
            have e : lk t u s = 5 := by unfold lk; rw [if_neg m0, if_neg m7, if_neg m1, if_neg m2, if_neg m4]
            have eL : line t u s B pt tt hi = .inl (2, ta t u s) := by unfold line; rw [e]; rfl
            rw [eL]
            exact ok_ite (fun e => by cases e) (fun _ => c_ref 2 (by omega) GF.rf h7 rfl)
end Cl
