-- the weakest precondition of plain functions, by rewriting
theorem wp_some {α : Type} {a : α} {K : α → Prop} : Ok (some a) K ↔ K a := ⟨fun ⟨b, h1, h2⟩ => by cases h1; exact h2, ok_some⟩
theorem wp_obd {α β : Type} {x : Option α} {f : α → Option β} {K : β → Prop} : Ok (obd x f) K ↔ Ok x (fun a => Ok (f a) K) := by
  refine ⟨fun h => ?_, ok_obd⟩
  obtain ⟨b, h1, h2⟩ := h
  cases x with
  | none => cases h1
  | some a => exact ⟨a, rfl, b, h1, h2⟩
theorem wp_ob2 {α β γ : Type} {x : Option (α × β)} {f : α → β → Option γ} {K : γ → Prop} : Ok (ob2 x f) K ↔ Ok x (fun a => Ok (f a.1 a.2) K) := by
  refine ⟨fun h => ?_, ok_ob2⟩
  obtain ⟨b, h1, h2⟩ := h
  cases x with
  | none => cases h1
  | some a => exact ⟨a, rfl, b, h1, h2⟩
theorem wp_bnd {α β : Type} {e : α} {f : α → Option β} {K : β → Prop} : Ok (bnd e f) K ↔ Ok (f e) K := Iff.rfl
theorem wp_gd {β : Type} {c : Prop} {i : Decidable c} {x : Option β} {K : β → Prop} : Ok (@gd _ c i x) K ↔ c ∧ Ok x K := by
  refine ⟨fun h => ?_, fun h => ok_gd h.1 h.2⟩
  unfold gd at h
  by_cases hc : c
  · rw [if_pos hc] at h; exact ⟨hc, h⟩
  · rw [if_neg hc] at h; obtain ⟨b, h1, _⟩ := h; cases h1
theorem wp_ite {β : Type} {c : Prop} {i : Decidable c} {x y : Option β} {K : β → Prop} : Ok (@ite _ c i x y) K ↔ (c → Ok x K) ∧ (¬ c → Ok y K) := by
  refine ⟨fun h => ⟨fun hc => ?_, fun hc => ?_⟩, fun h => ok_ite h.1 h.2⟩
  · rw [if_pos hc] at h; exact h
  · rw [if_neg hc] at h; exact h
theorem wp_true {b : Bool} : (true = b) ↔ (b = true) := eq_comm
theorem wp_ff : ((false : Bool) = true) ↔ False := by decide
/-- below 0 -/
def nn (k : Nat) : Int32 := Int32.ofInt (-(k : Int))
theorem l_0 : (0 : Int32) = nI 0 := rfl
theorem l_1 : (1 : Int32) = nI 1 := rfl
theorem l_2 : (2 : Int32) = nI 2 := rfl
theorem l_3 : (3 : Int32) = nI 3 := rfl
theorem l_4 : (4 : Int32) = nI 4 := rfl
theorem l_5 : (5 : Int32) = nI 5 := rfl
theorem l_6 : (6 : Int32) = nI 6 := rfl
theorem l_7 : (7 : Int32) = nI 7 := rfl
theorem l_8 : (8 : Int32) = nI 8 := rfl
theorem l_9 : (9 : Int32) = nI 9 := rfl
theorem l_10 : (10 : Int32) = nI 10 := rfl
theorem l_13 : (13 : Int32) = nI 13 := rfl
theorem l_14 : (14 : Int32) = nI 14 := rfl
theorem l_15 : (15 : Int32) = nI 15 := rfl
theorem l_16 : (16 : Int32) = nI 16 := rfl
theorem l_20 : (20 : Int32) = nI 20 := rfl
theorem l_21 : (21 : Int32) = nI 21 := rfl
theorem l_24 : (24 : Int32) = nI 24 := rfl
theorem l_27 : (27 : Int32) = nI 27 := rfl
theorem l_28 : (28 : Int32) = nI 28 := rfl
theorem l_30 : (30 : Int32) = nI 30 := rfl
theorem l_31 : (31 : Int32) = nI 31 := rfl
theorem l_32 : (32 : Int32) = nI 32 := rfl
theorem l_35 : (35 : Int32) = nI 35 := rfl
theorem l_36 : (36 : Int32) = nI 36 := rfl
theorem l_39 : (39 : Int32) = nI 39 := rfl
theorem l_40 : (40 : Int32) = nI 40 := rfl
theorem l_41 : (41 : Int32) = nI 41 := rfl
theorem l_43 : (43 : Int32) = nI 43 := rfl
theorem l_44 : (44 : Int32) = nI 44 := rfl
theorem l_45 : (45 : Int32) = nI 45 := rfl
theorem l_46 : (46 : Int32) = nI 46 := rfl
theorem l_47 : (47 : Int32) = nI 47 := rfl
theorem l_48 : (48 : Int32) = nI 48 := rfl
theorem l_49 : (49 : Int32) = nI 49 := rfl
theorem l_56 : (56 : Int32) = nI 56 := rfl
theorem l_57 : (57 : Int32) = nI 57 := rfl
theorem l_59 : (59 : Int32) = nI 59 := rfl
theorem l_60 : (60 : Int32) = nI 60 := rfl
theorem l_79 : (79 : Int32) = nI 79 := rfl
theorem l_97 : (97 : Int32) = nI 97 := rfl
theorem l_122 : (122 : Int32) = nI 122 := rfl
theorem l_160 : (160 : Int32) = nI 160 := rfl
theorem l_237 : (237 : Int32) = nI 237 := rfl
theorem l_255 : (255 : Int32) = nI 255 := rfl
theorem l_320 : (320 : Int32) = nI 320 := rfl
theorem l_999 : (999 : Int32) = nI 999 := rfl
theorem l_1000 : (1000 : Int32) = nI 1000 := rfl
theorem l_n1 : (-1 : Int32) = nn 1 := by decide
theorem l_n2 : (-2 : Int32) = nn 2 := by decide
theorem l_n3 : (-3 : Int32) = nn 3 := by decide
theorem l_n4 : (-4 : Int32) = nn 4 := by decide
theorem l_n10 : (-10 : Int32) = nn 10 := by decide
theorem l_n20 : (-20 : Int32) = nn 20 := by decide
theorem nn_toInt {k : Nat} (h : k < 2 ^ 31) : (nn k).toInt = -(k : Int) := by
  unfold nn
  rw [Int32.toInt_ofInt_of_le (by omega) (by omega)]
theorem nn_nn {a b : Nat} (ha : a < 2 ^ 31) (hb : b < 2 ^ 31) : (nn a = nn b) ↔ a = b := by
  refine ⟨fun h => ?_, fun h => by rw [h]⟩
  have := congrArg Int32.toInt h
  rw [nn_toInt ha, nn_toInt hb] at this
  omega
theorem nI_nn {a b : Nat} (ha : a < 2 ^ 31) (hb : 0 < b ∧ b < 2 ^ 31) : (nI a = nn b) ↔ False := by
  refine ⟨fun h => ?_, fun h => h.elim⟩
  have := congrArg Int32.toInt h
  rw [nn_toInt hb.2, nI_toInt ha] at this
  omega
theorem nn_nI {a b : Nat} (ha : a < 2 ^ 31) (hb : 0 < b ∧ b < 2 ^ 31) : (nn b = nI a) ↔ False := by
  rw [eq_comm, nI_nn ha hb]
section Mod
variable {g : Mem} {B : Bs} {S : Nat}
theorem ub_id {B : Bs} {f i v : Nat} (h : B f i = v) : ub B f i v = B := by
  funext f' i'
  unfold ub
  split
  · rename_i e; obtain ⟨rfl, rfl⟩ := e; exact h.symm
  · rfl
theorem m_steps (hM : MT g B) (hW : WF S B) (hS : S < 100000) : Ok (f_X10_steps g) (fun g' => MT g' (stp B) ∧ FrM g g') := by
  have hb6 := hW.2.2.2.2.2.2.1
  unfold f_X10_steps
  apply ok_obd
  refine (ok_up (K := fun g' => MT g' (acts B (B 6 0)) ∧ FrM g g') (B 6 0) (fun j a => a.1 = nI j ∧ MT a.2 (acts B j) ∧ FrM g a.2) (by omega) ?_ ?_ _ ⟨rfl, hM, FrM.rf⟩).mono ?_
  · rintro j ⟨x, g1⟩ hj ⟨hx, hM1, hF⟩
    dsimp only at hx hM1 hF
    subst hx
    have e6 : g1 24 26 0 0 = nI (B 6 0) := by rw [hM1.2.2.2.2.2.2.1, acts_f (by decide) (by decide)]
    have e8 : g1 36 0 0 j = nI (B 8 j) := by
      rw [hM1.2.2.2.2.2.2.2.2.1 j (by rw [acts_f (by decide) (by decide)]; exact hj), acts_f (by decide) (by decide)]
    have hk := hW.2.2.2.2.2.2.2.2.1 j hj
    simp (disch := omega) only [wp_some, wp_obd, wp_ob2, wp_bnd, wp_gd, wp_ite, wp_true, wp_ff, ↓l_n1, ↓l_n2, ↓l_n3, ↓l_n4, ↓l_n10, ↓l_n20, l_0, l_1, l_2, l_3, l_4, l_5, l_6, l_7, l_8, l_9, l_10, l_13, l_14, l_15, l_16, l_20, l_21, l_24, l_27, l_28, l_30, l_31, l_32, l_35, l_36, l_39, l_40, l_41, l_43, l_44, l_45, l_46, l_47, l_48, l_49, l_56, l_57, l_59, l_60, l_79, l_97, l_122, l_160, l_237, l_255, l_320, l_999, l_1000, nI_add, pk_mul, nI_eq, nI_leI, nI_ltI, nI_clamp, inb_nI_iff, e_within, e_in32, e_asNumber, e_flag, decide_eq_true_eq, Sum.elim_inl, Sum.elim_inr, true_implies, not_true_eq_false, not_false_eq_true, false_implies, and_true, true_and, nI_nn, nn_nI, nn_nn, ↓reduceIte, if_true, if_false, Nat.le_refl, implies_true, Nat.lt_irrefl, e6, e8]
    refine ⟨fun h => by omega, fun _ => ⟨by omega, ?_⟩⟩
    refine (m_does hM1 (WF_acts hW j (by omega)) (by rw [acts_f (by decide) (by decide)]; exact hk)).mono ?_
    rintro g2 ⟨h1, h2⟩
    exact ⟨h1, hF.tr h2⟩
  · rintro ⟨x, g1⟩ ⟨hx, hM1, hF⟩
    dsimp only at hx hM1 hF
    subst hx
    have e6 : g1 24 26 0 0 = nI (B 6 0) := by rw [hM1.2.2.2.2.2.2.1, acts_f (by decide) (by decide)]
    simp (disch := omega) only [wp_some, wp_obd, wp_ob2, wp_bnd, wp_gd, wp_ite, wp_true, wp_ff, ↓l_n1, ↓l_n2, ↓l_n3, ↓l_n4, ↓l_n10, ↓l_n20, l_0, l_1, l_2, l_3, l_4, l_5, l_6, l_7, l_8, l_9, l_10, l_13, l_14, l_15, l_16, l_20, l_21, l_24, l_27, l_28, l_30, l_31, l_32, l_35, l_36, l_39, l_40, l_41, l_43, l_44, l_45, l_46, l_47, l_48, l_49, l_56, l_57, l_59, l_60, l_79, l_97, l_122, l_160, l_237, l_255, l_320, l_999, l_1000, nI_add, pk_mul, nI_eq, nI_leI, nI_ltI, nI_clamp, inb_nI_iff, e_within, e_in32, e_asNumber, e_flag, decide_eq_true_eq, Sum.elim_inl, Sum.elim_inr, true_implies, not_true_eq_false, not_false_eq_true, false_implies, and_true, true_and, nI_nn, nn_nI, nn_nn, ↓reduceIte, if_true, if_false, Nat.le_refl, implies_true, Nat.lt_irrefl, e6]
    exact ⟨hM1, hF⟩
  · rintro g1 ⟨hM1, hF1⟩
    have hW1 := WF_acts hW _ (Nat.le_refl _)
    apply ok_obd
    refine (m_fights hM1 hW1).mono ?_
    rintro g2 ⟨hM2, hF2⟩
    have hW2 : WF S (fights (acts B (B 6 0))) := WF_dr hW1
    unfold stp
    generalize fights (acts B (B 6 0)) = B2 at hM2 hW2 ⊢
    have hF12 := hF1.tr hF2
    have e5 : g2 24 27 0 0 + 1 = nI (B2 5 0 + 1) := by rw [hM2.2.2.2.2.2.1, nI_1]
    rw [wp_bnd, e5]
    have hM3 := MT_27 (v := B2 5 0 + 1) hM2
    have hF3 : FrM g (up g2 24 27 0 0 (nI (B2 5 0 + 1))) := hF12.tr FrM.up27
    generalize up g2 24 27 0 0 (nI (B2 5 0 + 1)) = g3 at hM3 hF3 ⊢
    have b1 := hW2.2.1
    have b2 := hW2.2.2.1
    have b3 := hW2.2.2.2.1
    have b5 := hW2.2.2.2.2.2.1
    have b4 := hW2.2.2.2.2.1
    have t3 : g3 25 0 0 43 = nI (B2 3 0) := by rw [hM3.2.2.2.1]; simp [ub]
    have t5 : g3 24 27 0 0 = nI (B2 5 0 + 1) := by rw [hM3.2.2.2.2.2.1]; simp [ub]
    rw [wp_obd]
    have hcome : Ok (if g3 25 0 0 43 ≤ 0 then some false else gd (¬ g3 25 0 0 43 = 0) (if g3 24 27 0 0 - g3 24 27 0 0 / g3 25 0 0 43 * g3 25 0 0 43 = 0 then some true else some false)) (fun a => a = decide (0 < B2 3 0 ∧ (B2 5 0 + 1) % B2 3 0 = 0)) := by
      rw [t3, t5]
      refine ok_ite (fun h0 => ?_) (fun h0 => ?_)
      · have h0 := (nI_leI (by omega) (by decide) : nI (B2 3 0) ≤ nI 0 ↔ _).mp h0
        exact ok_some (by simp; omega)
      · have h0 : ¬ B2 3 0 ≤ 0 := fun e => h0 ((nI_leI (by omega) (by decide) : nI (B2 3 0) ≤ nI 0 ↔ _).mpr e)
        refine ok_gd (nI_ne0 (by omega) (by omega)) ?_
        rw [rem_nI (by omega) (by omega) (by omega)]
        have hlt : (B2 5 0 + 1) % B2 3 0 < 10 := Nat.lt_of_lt_of_le (Nat.mod_lt _ (by omega)) (by omega)
        refine ok_ite (fun h1 => ?_) (fun h1 => ?_)
        · have h1 : (B2 5 0 + 1) % B2 3 0 = 0 := nI_inj (by omega) (by decide) h1
          exact ok_some (by simp [h1]; omega)
        · have h1 : ¬ (B2 5 0 + 1) % B2 3 0 = 0 := fun e => h1 (by rw [e]; rfl)
          exact ok_some (by simp [h1])
    refine hcome.mono (fun a13 ea => ?_)
    rw [wp_obd]
    have htid : tid B2 = wsh (fun v => a13 && decide (v < B2 4 0)) (B2 1 0) (ub B2 5 0 (B2 5 0 + 1)) := by
      rw [ea, tid_eq]
      by_cases hc : 0 < B2 3 0 ∧ (B2 5 0 + 1) % B2 3 0 = 0
      · rw [if_pos hc]; simp [hc]
      · rw [if_neg hc]
        funext f c
        simp [wsh, hc]
    rw [htid]
    clear ea hcome t3 t5
    have en : ub B2 5 0 (B2 5 0 + 1) 1 0 = B2 1 0 := by simp [ub]
    generalize hB3 : ub B2 5 0 (B2 5 0 + 1) = B3 at hM3 en ⊢
    have h11 : ∀ c, B3 11 c = B2 11 c := fun c => by rw [← hB3]; simp [ub]
    have h4 : B3 4 0 = B2 4 0 := by rw [← hB3]; simp [ub]
    refine (ok_up (K := fun g' => MT g' (wsh (fun v => a13 && decide (v < B2 4 0)) (B2 1 0) B3) ∧ FrM g g') (B2 1 0) (fun j a => a.1 = nI j ∧ MT a.2 (wsh (fun v => a13 && decide (v < B2 4 0)) j B3) ∧ FrM g a.2) (by omega) ?_ ?_ _ ⟨rfl, by dsimp only; rw [wsh_0]; exact hM3, hF3⟩).mono (fun a ha => ok_some ha)
    · rintro j ⟨x, g4⟩ hj ⟨hx, hM4, hF⟩
      dsimp only at hx hM4 hF
      subst hx
      have e1 : g4 25 0 0 8 = nI (B2 1 0) := by rw [hM4.2.1, wsh_f (by decide), en]
      have e4 : g4 25 0 0 44 = nI (B2 4 0) := by rw [hM4.2.2.2.2.1, wsh_f (by decide), h4]
      have hb := wok_lt b2 (hW2.2.2.2.2.2.2.2.2.2.2.1 j hj).2.2
      have e11 : g4 31 0 0 j = nI (B2 11 j) := by
        rw [(hM4.2.2.2.2.2.2.2.2.2.1 j (by rw [wsh_f (by decide), en]; exact hj)).2.2]
        simp [wsh, h11]
      simp (disch := omega) only [wp_some, wp_obd, wp_ob2, wp_bnd, wp_gd, wp_ite, wp_true, wp_ff, ↓l_n1, ↓l_n2, ↓l_n3, ↓l_n4, ↓l_n10, ↓l_n20, l_0, l_1, l_2, l_3, l_4, l_5, l_6, l_7, l_8, l_9, l_10, l_13, l_14, l_15, l_16, l_20, l_21, l_24, l_27, l_28, l_30, l_31, l_32, l_35, l_36, l_39, l_40, l_41, l_43, l_44, l_45, l_46, l_47, l_48, l_49, l_56, l_57, l_59, l_60, l_79, l_97, l_122, l_160, l_237, l_255, l_320, l_999, l_1000, nI_add, pk_mul, nI_eq, nI_leI, nI_ltI, nI_clamp, inb_nI_iff, e_within, e_in32, e_asNumber, e_flag, decide_eq_true_eq, Sum.elim_inl, Sum.elim_inr, true_implies, not_true_eq_false, not_false_eq_true, false_implies, and_true, true_and, nI_nn, nn_nI, nn_nn, ↓reduceIte, if_true, if_false, Nat.le_refl, implies_true, Nat.lt_irrefl, e1, e4, e11]
      have hset : ∀ v, (v = if (a13 && decide (B2 11 j < B2 4 0)) = true then 30 else B2 11 j) → MT (up g4 31 0 0 j (nI v)) (wsh (fun v => a13 && decide (v < B2 4 0)) (j + 1) B3) ∧ FrM g (up g4 31 0 0 j (nI v)) := by
        intro v hv
        refine ⟨?_, hF.tr (FrM.up (by decide))⟩
        by_cases hc : (a13 && decide (B2 11 j < B2 4 0)) = true
        · rw [if_pos hc] at hv
          subst hv
          rw [← wsh_t (by rw [h11]; exact hc)]
          exact MT_31 hM4
        · rw [if_neg hc] at hv
          subst hv
          rw [← wsh_n (by rw [h11]; simpa using hc)]
          have := MT_31 (c := j) (v := B2 11 j) hM4
          rwa [ub_id (by simp [wsh, h11])] at this
      repeat' (with_reducible (first | apply And.intro | intro _))
      all_goals first | omega | exact (hset _ (by rw [if_neg]; simp; omega)).1 | exact (hset _ (by rw [if_neg]; simp; omega)).2 | exact (hset _ (by rw [if_pos]; simp [*]; omega)).1 | exact (hset _ (by rw [if_pos]; simp [*]; omega)).2 | exact (hset _ (by rw [if_neg]; simp [*])).1 | exact (hset _ (by rw [if_neg]; simp [*])).2
    · rintro ⟨x, g4⟩ ⟨hx, hM4, hF⟩
      dsimp only at hx hM4 hF
      subst hx
      have e1 : g4 25 0 0 8 = nI (B2 1 0) := by rw [hM4.2.1, wsh_f (by decide), en]
      simp (disch := omega) only [wp_some, wp_obd, wp_ob2, wp_bnd, wp_gd, wp_ite, wp_true, wp_ff, ↓l_n1, ↓l_n2, ↓l_n3, ↓l_n4, ↓l_n10, ↓l_n20, l_0, l_1, l_2, l_3, l_4, l_5, l_6, l_7, l_8, l_9, l_10, l_13, l_14, l_15, l_16, l_20, l_21, l_24, l_27, l_28, l_30, l_31, l_32, l_35, l_36, l_39, l_40, l_41, l_43, l_44, l_45, l_46, l_47, l_48, l_49, l_56, l_57, l_59, l_60, l_79, l_97, l_122, l_160, l_237, l_255, l_320, l_999, l_1000, nI_add, pk_mul, nI_eq, nI_leI, nI_ltI, nI_clamp, inb_nI_iff, e_within, e_in32, e_asNumber, e_flag, decide_eq_true_eq, Sum.elim_inl, Sum.elim_inr, true_implies, not_true_eq_false, not_false_eq_true, false_implies, and_true, true_and, nI_nn, nn_nI, nn_nn, ↓reduceIte, if_true, if_false, Nat.le_refl, implies_true, Nat.lt_irrefl, e1]
      exact ⟨hM4, hF⟩
end Mod
