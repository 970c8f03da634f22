def hInit : Mem := fun k j _ _ => if k = 1 ∧ j = 0 then 4 else if k = 7 ∧ j = 4 then -1 else if k = 22 ∧ j = 1 then -1 else 0
def eqE (e e' : va_E) : Prop := match e, e' with
  | .inr x, .inr y => x = y
  | .inl (c, n, .inl f), .inl (c', n', .inl g) => c = c' ∧ n = n' ∧ ∀ j, j < n → f j = g j
  | .inl (c, n, .inr (.inr (.inr (.inr f)))), .inl (c', n', .inr (.inr (.inr (.inr g)))) => c = c' ∧ n = n' ∧ ∀ j, j < n → f j = g j
  | _, _ => False
theorem arrV_ext {c : ClassId} {n : Nat} {f g : Nat → Value} (h : ∀ j, j < n → f j = g j) : arrV c n f = arrV c n g := by
  unfold arrV
  congr 1
  apply Array.ext
  · simp
  · intro i h1 h2
    simp at h1 h2 ⊢
    exact h i h1
theorem eqE_at {D : va_G} {cl : List vw_C} {H : Heap} {a a' : Nat} {e e' : va_E} (ha : a = a') (he : eqE e e') (h : va_at D cl (a, e) H) : va_at D cl (a', e') H := by
  subst ha
  match e, e', he with
  | .inr x, .inr y, he => have he : x = y := he; rw [← he]; exact h
  | .inl (c, n, .inl f), .inl (c', n', .inl g), he =>
    obtain ⟨rfl, rfl, hf⟩ := he
    have h : H[a]? = some (vp_cell c (n, .inl f)) := h
    show H[a]? = some (vp_cell c (n, .inl g))
    rw [h, vp_cell_i, vp_cell_i, arrV_ext (fun j hj => by rw [hf j hj])]
  | .inl (c, n, .inr (.inr (.inr (.inr f)))), .inl (c', n', .inr (.inr (.inr (.inr g)))), he =>
    obtain ⟨rfl, rfl, hf⟩ := he
    have h : H[a]? = some (vp_cell c (n, .inr (.inr (.inr (.inr f))))) := h
    show H[a]? = some (vp_cell c (n, .inr (.inr (.inr (.inr g)))))
    rw [h, vp_cell_q, vp_cell_q, arrV_ext (fun j hj => by rw [hf j hj])]
def eqL : va_W → va_W → Prop
  | [], [] => True
  | p :: l, q :: r => p.1 = q.1 ∧ eqE p.2 q.2 ∧ eqL l r
  | _, _ => False
theorem eqL_P {D : va_G} {cl : List vw_C} {H : Heap} : ∀ {ws ws' : va_W}, eqL ws ws' → va_P D cl ws H → va_P D cl ws' H
  | [], [], _, h => h
  | [], _ :: _, h, _ => h.elim
  | _ :: _, [], h, _ => h.elim
  | p :: l, q :: r, he, h => by
    intro k x hx
    cases k with
    | zero =>
      rw [List.getElem?_cons_zero] at hx
      cases hx
      exact eqE_at he.1 he.2.1 (h 0 p rfl)
    | succ k =>
      rw [List.getElem?_cons_succ] at hx
      exact eqL_P he.2.2 (fun k x hx => h (k + 1) x (by rw [List.getElem?_cons_succ]; exact hx)) k x hx
theorem eqL_app : ∀ {a b c d : va_W}, eqL a c → eqL b d → eqL (a ++ b) (c ++ d)
  | [], _, [], _, _, h => h
  | [], _, _ :: _, _, h, _ => h.elim
  | _ :: _, _, [], _, h, _ => h.elim
  | _ :: _, _, _ :: _, _, h, h2 => ⟨h.1, h.2.1, eqL_app h.2.2 h2⟩
def kModel (Θ : Tht) (a : Nat) : va_W := [(a, .inr (10, [.ref (a + 1), .ref (a + 2), .int 0, .int 0, .ref (a + 3), .int 0, .int 0, .int 0, .int 0, .ref (a + 4), .int 0, .int 0, .int 0, .int 0, .int 0, .int 0, .int 0, .ref (a + 5), .ref (a + 6), .ref (a + 7), .ref (a + 8), .ref (a + 9), .ref (a + 10), .ref (a + 11), .ref (a + 12), .ref (a + 13), .int 0, .int 0, .ref (a + 14), .ref (a + 15), .ref (a + 16), .ref (a + 17), .ref (a + 18), .int 0])), ((a + 1), .inl (tC Θ 0, 237, .inl (fun _ => 0))), ((a + 2), .inl (tC Θ 2, 2, .inl (fun _ => 0))), ((a + 3), .inl (tC Θ 0, 79, .inl (fun _ => 0))), ((a + 4), .inl (tC Θ 0, 320, .inl (fun _ => 0))), ((a + 5), .inl (tC Θ 0, 8, .inl (fun _ => 0))), ((a + 6), .inl (tC Θ 0, 6, .inl (fun _ => 0))), ((a + 7), .inl (tC Θ 0, 6, .inl (fun _ => 0))), ((a + 8), .inl (tC Θ 0, 4, .inl (fun _ => 0))), ((a + 9), .inl (tC Θ 0, 4, .inl (fun _ => 0))), ((a + 10), .inl (tC Θ 0, 4, .inl (fun _ => 0))), ((a + 11), .inl (tC Θ 0, 4, .inl (fun _ => 0))), ((a + 12), .inl (tC Θ 0, 4, .inl (fun _ => 0))), ((a + 13), .inl (tC Θ 2, 4, .inl (fun _ => 0))), ((a + 14), .inl (tC Θ 0, 4, .inl (fun _ => 0))), ((a + 15), .inl (tC Θ 0, 4, .inl (fun _ => 0))), ((a + 16), .inl (tC Θ 0, 4, .inl (fun _ => 0))), ((a + 17), .inl (tC Θ 0, 4, .inl (fun _ => 0))), ((a + 18), .inl (tC Θ 0, 160, .inl (fun _ => 0)))]
def wf (Θ : Tht) (q : Nat × Nat × Nat) : Nat × va_E := (ad (tB Θ) q.1 q.2.1 q.2.2, ent (tB Θ) (tC Θ) hInit q)
set_option maxRecDepth 100000 in
set_option maxHeartbeats 4000000 in
theorem eb_0 (Θ : Tht) : eqL (kBeach Θ (tB Θ + 1)) ([(1, 0, 0), (2, 0, 0), (3, 0, 0), (4, 0, 0), (5, 0, 0), (6, 0, 0), (6, 0, 1), (6, 0, 2), (6, 0, 3), (6, 0, 4), (6, 0, 5), (7, 0, 0), (7, 0, 1), (7, 0, 2), (7, 0, 3)].map (wf Θ)) := by
  refine ⟨rfl, rfl, ?_⟩
  refine ⟨rfl, ⟨rfl, rfl, fun _ _ => rfl⟩, ?_⟩
  refine ⟨rfl, ⟨rfl, rfl, ?_⟩, ?_⟩
  · intro j hj
    match j, hj with
    | 0, _ => rfl
    | 1, _ => rfl
    | 2, _ => rfl
    | 3, _ => rfl
    | 4, _ => rfl
    | 5, _ => rfl
    | j + 6, hj => exact absurd hj (by simp)
  refine ⟨rfl, ⟨rfl, rfl, ?_⟩, ?_⟩
  · intro j hj
    match j, hj with
    | 0, _ => rfl
    | 1, _ => rfl
    | 2, _ => rfl
    | 3, _ => rfl
    | j + 4, hj => exact absurd hj (by simp)
  refine ⟨rfl, ⟨rfl, rfl, fun _ _ => rfl⟩, ?_⟩
  refine ⟨rfl, rfl, ?_⟩
  refine ⟨rfl, rfl, ?_⟩
  refine ⟨rfl, rfl, ?_⟩
  refine ⟨rfl, rfl, ?_⟩
  refine ⟨rfl, rfl, ?_⟩
  refine ⟨rfl, rfl, ?_⟩
  refine ⟨rfl, rfl, ?_⟩
  refine ⟨rfl, rfl, ?_⟩
  refine ⟨rfl, rfl, ?_⟩
  refine ⟨rfl, rfl, ?_⟩
  exact trivial
set_option maxRecDepth 100000 in
set_option maxHeartbeats 4000000 in
theorem eb_1 (Θ : Tht) : eqL (kBeach Θ (tB Θ + 16)) ([(1, 1, 0), (2, 1, 0), (3, 1, 0), (4, 1, 0), (5, 1, 0), (6, 1, 0), (6, 1, 1), (6, 1, 2), (6, 1, 3), (6, 1, 4), (6, 1, 5), (7, 1, 0), (7, 1, 1), (7, 1, 2), (7, 1, 3)].map (wf Θ)) := by
  refine ⟨rfl, rfl, ?_⟩
  refine ⟨rfl, ⟨rfl, rfl, fun _ _ => rfl⟩, ?_⟩
  refine ⟨rfl, ⟨rfl, rfl, ?_⟩, ?_⟩
  · intro j hj
    match j, hj with
    | 0, _ => rfl
    | 1, _ => rfl
    | 2, _ => rfl
    | 3, _ => rfl
    | 4, _ => rfl
    | 5, _ => rfl
    | j + 6, hj => exact absurd hj (by simp)
  refine ⟨rfl, ⟨rfl, rfl, ?_⟩, ?_⟩
  · intro j hj
    match j, hj with
    | 0, _ => rfl
    | 1, _ => rfl
    | 2, _ => rfl
    | 3, _ => rfl
    | j + 4, hj => exact absurd hj (by simp)
  refine ⟨rfl, ⟨rfl, rfl, fun _ _ => rfl⟩, ?_⟩
  refine ⟨rfl, rfl, ?_⟩
  refine ⟨rfl, rfl, ?_⟩
  refine ⟨rfl, rfl, ?_⟩
  refine ⟨rfl, rfl, ?_⟩
  refine ⟨rfl, rfl, ?_⟩
  refine ⟨rfl, rfl, ?_⟩
  refine ⟨rfl, rfl, ?_⟩
  refine ⟨rfl, rfl, ?_⟩
  refine ⟨rfl, rfl, ?_⟩
  refine ⟨rfl, rfl, ?_⟩
  exact trivial
set_option maxRecDepth 100000 in
set_option maxHeartbeats 4000000 in
theorem eb_2 (Θ : Tht) : eqL (kBeach Θ (tB Θ + 42)) ([(1, 2, 0), (2, 2, 0), (3, 2, 0), (4, 2, 0), (5, 2, 0), (6, 2, 0), (6, 2, 1), (6, 2, 2), (6, 2, 3), (6, 2, 4), (6, 2, 5), (7, 2, 0), (7, 2, 1), (7, 2, 2), (7, 2, 3)].map (wf Θ)) := by
  refine ⟨rfl, rfl, ?_⟩
  refine ⟨rfl, ⟨rfl, rfl, fun _ _ => rfl⟩, ?_⟩
  refine ⟨rfl, ⟨rfl, rfl, ?_⟩, ?_⟩
  · intro j hj
    match j, hj with
    | 0, _ => rfl
    | 1, _ => rfl
    | 2, _ => rfl
    | 3, _ => rfl
    | 4, _ => rfl
    | 5, _ => rfl
    | j + 6, hj => exact absurd hj (by simp)
  refine ⟨rfl, ⟨rfl, rfl, ?_⟩, ?_⟩
  · intro j hj
    match j, hj with
    | 0, _ => rfl
    | 1, _ => rfl
    | 2, _ => rfl
    | 3, _ => rfl
    | j + 4, hj => exact absurd hj (by simp)
  refine ⟨rfl, ⟨rfl, rfl, fun _ _ => rfl⟩, ?_⟩
  refine ⟨rfl, rfl, ?_⟩
  refine ⟨rfl, rfl, ?_⟩
  refine ⟨rfl, rfl, ?_⟩
  refine ⟨rfl, rfl, ?_⟩
  refine ⟨rfl, rfl, ?_⟩
  refine ⟨rfl, rfl, ?_⟩
  refine ⟨rfl, rfl, ?_⟩
  refine ⟨rfl, rfl, ?_⟩
  refine ⟨rfl, rfl, ?_⟩
  refine ⟨rfl, rfl, ?_⟩
  exact trivial
set_option maxRecDepth 100000 in
set_option maxHeartbeats 4000000 in
theorem eb_3 (Θ : Tht) : eqL (kBeach Θ (tB Θ + 60)) ([(1, 3, 0), (2, 3, 0), (3, 3, 0), (4, 3, 0), (5, 3, 0), (6, 3, 0), (6, 3, 1), (6, 3, 2), (6, 3, 3), (6, 3, 4), (6, 3, 5), (7, 3, 0), (7, 3, 1), (7, 3, 2), (7, 3, 3)].map (wf Θ)) := by
  refine ⟨rfl, rfl, ?_⟩
  refine ⟨rfl, ⟨rfl, rfl, fun _ _ => rfl⟩, ?_⟩
  refine ⟨rfl, ⟨rfl, rfl, ?_⟩, ?_⟩
  · intro j hj
    match j, hj with
    | 0, _ => rfl
    | 1, _ => rfl
    | 2, _ => rfl
    | 3, _ => rfl
    | 4, _ => rfl
    | 5, _ => rfl
    | j + 6, hj => exact absurd hj (by simp)
  refine ⟨rfl, ⟨rfl, rfl, ?_⟩, ?_⟩
  · intro j hj
    match j, hj with
    | 0, _ => rfl
    | 1, _ => rfl
    | 2, _ => rfl
    | 3, _ => rfl
    | j + 4, hj => exact absurd hj (by simp)
  refine ⟨rfl, ⟨rfl, rfl, fun _ _ => rfl⟩, ?_⟩
  refine ⟨rfl, rfl, ?_⟩
  refine ⟨rfl, rfl, ?_⟩
  refine ⟨rfl, rfl, ?_⟩
  refine ⟨rfl, rfl, ?_⟩
  refine ⟨rfl, rfl, ?_⟩
  refine ⟨rfl, rfl, ?_⟩
  refine ⟨rfl, rfl, ?_⟩
  refine ⟨rfl, rfl, ?_⟩
  refine ⟨rfl, rfl, ?_⟩
  refine ⟨rfl, rfl, ?_⟩
  exact trivial
set_option maxRecDepth 100000 in
set_option maxHeartbeats 4000000 in
theorem eb_4 (Θ : Tht) : eqL (kBeach Θ (tB Θ + 81)) ([(1, 4, 0), (2, 4, 0), (3, 4, 0), (4, 4, 0), (5, 4, 0), (6, 4, 0), (6, 4, 1), (6, 4, 2), (6, 4, 3), (6, 4, 4), (6, 4, 5), (7, 4, 0), (7, 4, 1), (7, 4, 2), (7, 4, 3)].map (wf Θ)) := by
  refine ⟨rfl, rfl, ?_⟩
  refine ⟨rfl, ⟨rfl, rfl, fun _ _ => rfl⟩, ?_⟩
  refine ⟨rfl, ⟨rfl, rfl, ?_⟩, ?_⟩
  · intro j hj
    match j, hj with
    | 0, _ => rfl
    | 1, _ => rfl
    | 2, _ => rfl
    | 3, _ => rfl
    | 4, _ => rfl
    | 5, _ => rfl
    | j + 6, hj => exact absurd hj (by simp)
  refine ⟨rfl, ⟨rfl, rfl, ?_⟩, ?_⟩
  · intro j hj
    match j, hj with
    | 0, _ => rfl
    | 1, _ => rfl
    | 2, _ => rfl
    | 3, _ => rfl
    | j + 4, hj => exact absurd hj (by simp)
  refine ⟨rfl, ⟨rfl, rfl, fun _ _ => rfl⟩, ?_⟩
  refine ⟨rfl, rfl, ?_⟩
  refine ⟨rfl, rfl, ?_⟩
  refine ⟨rfl, rfl, ?_⟩
  refine ⟨rfl, rfl, ?_⟩
  refine ⟨rfl, rfl, ?_⟩
  refine ⟨rfl, rfl, ?_⟩
  refine ⟨rfl, rfl, ?_⟩
  refine ⟨rfl, rfl, ?_⟩
  refine ⟨rfl, rfl, ?_⟩
  refine ⟨rfl, rfl, ?_⟩
  exact trivial
set_option maxRecDepth 100000 in
set_option maxHeartbeats 4000000 in
theorem es_0 (Θ : Tht) : eqL (kSights Θ (tB Θ + 31)) ([(8, 0, 0), (9, 0, 0), (10, 0, 0), (11, 0, 0), (12, 0, 0)].map (wf Θ)) := by
  refine ⟨rfl, rfl, ?_⟩
  refine ⟨rfl, ⟨rfl, rfl, fun _ _ => rfl⟩, ?_⟩
  refine ⟨rfl, ⟨rfl, rfl, fun _ _ => rfl⟩, ?_⟩
  refine ⟨rfl, ⟨rfl, rfl, fun _ _ => rfl⟩, ?_⟩
  refine ⟨rfl, ⟨rfl, rfl, fun _ _ => rfl⟩, ?_⟩
  exact trivial
set_option maxRecDepth 100000 in
set_option maxHeartbeats 4000000 in
theorem es_1 (Θ : Tht) : eqL (kSights Θ (tB Θ + 75)) ([(8, 1, 0), (9, 1, 0), (10, 1, 0), (11, 1, 0), (12, 1, 0)].map (wf Θ)) := by
  refine ⟨rfl, rfl, ?_⟩
  refine ⟨rfl, ⟨rfl, rfl, fun _ _ => rfl⟩, ?_⟩
  refine ⟨rfl, ⟨rfl, rfl, fun _ _ => rfl⟩, ?_⟩
  refine ⟨rfl, ⟨rfl, rfl, fun _ _ => rfl⟩, ?_⟩
  refine ⟨rfl, ⟨rfl, rfl, fun _ _ => rfl⟩, ?_⟩
  exact trivial
set_option maxRecDepth 100000 in
set_option maxHeartbeats 4000000 in
theorem es_2 (Θ : Tht) : eqL (kSights Θ (tB Θ + 96)) ([(8, 2, 0), (9, 2, 0), (10, 2, 0), (11, 2, 0), (12, 2, 0)].map (wf Θ)) := by
  refine ⟨rfl, rfl, ?_⟩
  refine ⟨rfl, ⟨rfl, rfl, fun _ _ => rfl⟩, ?_⟩
  refine ⟨rfl, ⟨rfl, rfl, fun _ _ => rfl⟩, ?_⟩
  refine ⟨rfl, ⟨rfl, rfl, fun _ _ => rfl⟩, ?_⟩
  refine ⟨rfl, ⟨rfl, rfl, fun _ _ => rfl⟩, ?_⟩
  exact trivial
set_option maxRecDepth 100000 in
set_option maxHeartbeats 4000000 in
theorem eo (Θ : Tht) : eqL (kOrders Θ (tB Θ + 36)) ([(13, 0, 0), (14, 0, 0), (15, 0, 0)].map (wf Θ)) := by
  refine ⟨rfl, rfl, ?_⟩
  refine ⟨rfl, ⟨rfl, rfl, fun _ _ => rfl⟩, ?_⟩
  refine ⟨rfl, ⟨rfl, rfl, fun _ _ => rfl⟩, ?_⟩
  exact trivial
set_option maxRecDepth 100000 in
set_option maxHeartbeats 4000000 in
theorem et (Θ : Tht) : eqL (kTape Θ (tB Θ + 40)) ([(17, 0, 0), (18, 0, 0)].map (wf Θ)) := by
  refine ⟨rfl, rfl, ?_⟩
  refine ⟨rfl, ⟨rfl, rfl, fun _ _ => rfl⟩, ?_⟩
  exact trivial
set_option maxRecDepth 100000 in
set_option maxHeartbeats 4000000 in
theorem eh_0 (Θ : Tht) : eqL (kSheet Θ (tB Θ + 101)) ([(22, 0, 0), (23, 0, 0)].map (wf Θ)) := by
  refine ⟨rfl, rfl, ?_⟩
  refine ⟨rfl, ⟨rfl, rfl, fun _ _ => rfl⟩, ?_⟩
  exact trivial
set_option maxRecDepth 100000 in
set_option maxHeartbeats 4000000 in
theorem eh_1 (Θ : Tht) : eqL (kSheet Θ (tB Θ + 103)) ([(22, 1, 0), (23, 1, 0)].map (wf Θ)) := by
  refine ⟨rfl, rfl, ?_⟩
  refine ⟨rfl, ⟨rfl, rfl, fun _ _ => rfl⟩, ?_⟩
  exact trivial
set_option maxRecDepth 100000 in
set_option maxHeartbeats 4000000 in
theorem eh_2 (Θ : Tht) : eqL (kSheet Θ (tB Θ + 105)) ([(22, 2, 0), (23, 2, 0)].map (wf Θ)) := by
  refine ⟨rfl, rfl, ?_⟩
  refine ⟨rfl, ⟨rfl, rfl, fun _ _ => rfl⟩, ?_⟩
  exact trivial
set_option maxRecDepth 100000 in
set_option maxHeartbeats 4000000 in
theorem eh_3 (Θ : Tht) : eqL (kSheet Θ (tB Θ + 107)) ([(22, 3, 0), (23, 3, 0)].map (wf Θ)) := by
  refine ⟨rfl, rfl, ?_⟩
  refine ⟨rfl, ⟨rfl, rfl, fun _ _ => rfl⟩, ?_⟩
  exact trivial
set_option maxRecDepth 100000 in
set_option maxHeartbeats 4000000 in
theorem em (Θ : Tht) : eqL (kModel Θ (tB Θ + 109)) ([(24, 0, 0), (25, 0, 0), (26, 0, 0), (27, 0, 0), (28, 0, 0), (29, 0, 0), (30, 0, 0), (31, 0, 0), (32, 0, 0), (33, 0, 0), (34, 0, 0), (35, 0, 0), (36, 0, 0), (37, 0, 0), (38, 0, 0), (39, 0, 0), (40, 0, 0), (41, 0, 0), (42, 0, 0)].map (wf Θ)) := by
  refine ⟨rfl, rfl, ?_⟩
  refine ⟨rfl, ⟨rfl, rfl, fun _ _ => rfl⟩, ?_⟩
  refine ⟨rfl, ⟨rfl, rfl, fun _ _ => rfl⟩, ?_⟩
  refine ⟨rfl, ⟨rfl, rfl, fun _ _ => rfl⟩, ?_⟩
  refine ⟨rfl, ⟨rfl, rfl, fun _ _ => rfl⟩, ?_⟩
  refine ⟨rfl, ⟨rfl, rfl, fun _ _ => rfl⟩, ?_⟩
  refine ⟨rfl, ⟨rfl, rfl, fun _ _ => rfl⟩, ?_⟩
  refine ⟨rfl, ⟨rfl, rfl, fun _ _ => rfl⟩, ?_⟩
  refine ⟨rfl, ⟨rfl, rfl, fun _ _ => rfl⟩, ?_⟩
  refine ⟨rfl, ⟨rfl, rfl, fun _ _ => rfl⟩, ?_⟩
  refine ⟨rfl, ⟨rfl, rfl, fun _ _ => rfl⟩, ?_⟩
  refine ⟨rfl, ⟨rfl, rfl, fun _ _ => rfl⟩, ?_⟩
  refine ⟨rfl, ⟨rfl, rfl, fun _ _ => rfl⟩, ?_⟩
  refine ⟨rfl, ⟨rfl, rfl, fun _ _ => rfl⟩, ?_⟩
  refine ⟨rfl, ⟨rfl, rfl, fun _ _ => rfl⟩, ?_⟩
  refine ⟨rfl, ⟨rfl, rfl, fun _ _ => rfl⟩, ?_⟩
  refine ⟨rfl, ⟨rfl, rfl, fun _ _ => rfl⟩, ?_⟩
  refine ⟨rfl, ⟨rfl, rfl, fun _ _ => rfl⟩, ?_⟩
  refine ⟨rfl, ⟨rfl, rfl, fun _ _ => rfl⟩, ?_⟩
  exact trivial
