set_option maxRecDepth 100000 in
set_option maxHeartbeats 4000000 in
theorem e0 (Θ : Tht) : eqL ([(tB Θ, .inr (9, [.ref (tB Θ + 1), .ref (tB Θ + 16), .ref (tB Θ + 31), .ref (tB Θ + 36), .ref (tB Θ + 39), .ref (tB Θ + 40), .ref (tB Θ + 57), .ref (tB Θ + 58), .int 0]))]) ([(0, 0, 0)].map (wf Θ)) := by
  refine ⟨rfl, rfl, ?_⟩
  exact trivial
set_option maxRecDepth 100000 in
set_option maxHeartbeats 4000000 in
theorem ei (Θ : Tht) : eqL ([((tB Θ + 57), .inl (tC Θ 5, 2, .inr (.inr (.inr (.inr (va_up (va_up (fun _ => none) 0 (some (tB Θ + 59))) 1 (some (tB Θ + 80)))))))), ((tB Θ + 58), .inl (tC Θ 6, 4, .inr (.inr (.inr (.inr (va_up (va_up (va_up (va_up (fun _ => none) 0 (some (tB Θ + 101))) 1 (some (tB Θ + 103))) 2 (some (tB Θ + 105))) 3 (some (tB Θ + 107))))))))]) ([(19, 0, 0), (21, 0, 0)].map (wf Θ)) := by
  refine ⟨rfl, ⟨rfl, rfl, ?_⟩, ?_⟩
  · intro j hj
    match j, hj with
    | 0, _ => rfl
    | 1, _ => rfl
    | j + 2, hj => exact absurd hj (by simp)
  refine ⟨rfl, ⟨rfl, rfl, ?_⟩, ?_⟩
  · intro j hj
    match j, hj with
    | 0, _ => rfl
    | 1, _ => rfl
    | 2, _ => rfl
    | 3, _ => rfl
    | j + 4, hj => exact absurd hj (by simp)
  exact trivial
set_option maxRecDepth 100000 in
set_option maxHeartbeats 4000000 in
theorem etl (Θ : Tht) : eqL ([((tB Θ + 39), .inr (8, [.ref (tB Θ + 39 + 1), .ref (tB Θ + 39 + 3), .int 0, .int 0, .int 0, .int 0, .int 0, .int 0, .int 0, .int 0]))]) ([(16, 0, 0)].map (wf Θ)) := by
  refine ⟨rfl, rfl, ?_⟩
  exact trivial
set_option maxRecDepth 100000 in
set_option maxHeartbeats 4000000 in
theorem eim_0 (Θ : Tht) : eqL ([((tB Θ + 59), .inr (3, [.int 0, .ref (tB Θ + 59 + 1), .ref (tB Θ + 59 + 16)]))]) ([(20, 0, 0)].map (wf Θ)) := by
  refine ⟨rfl, rfl, ?_⟩
  exact trivial
set_option maxRecDepth 100000 in
set_option maxHeartbeats 4000000 in
theorem eim_1 (Θ : Tht) : eqL ([((tB Θ + 80), .inr (3, [.int 0, .ref (tB Θ + 80 + 1), .ref (tB Θ + 80 + 16)]))]) ([(20, 1, 0)].map (wf Θ)) := by
  refine ⟨rfl, rfl, ?_⟩
  exact trivial
set_option maxRecDepth 100000 in
set_option maxHeartbeats 4000000 in
theorem e_all (Θ : Tht) : eqL (kMint Θ (tB Θ) ++ kModel Θ (tB Θ + 109)) (wd (tB Θ) (tC Θ) hInit) :=
  eqL_app (eqL_app (e0 Θ) (eqL_app (eb_0 Θ) (eqL_app (eb_1 Θ) (eqL_app (es_0 Θ) (eqL_app (eo Θ) (eqL_app (eqL_app (etl Θ) (eqL_app (et Θ) (eb_2 Θ))) (eqL_app (ei Θ) (eqL_app (eqL_app (eim_0 Θ) (eqL_app (eb_3 Θ) (es_1 Θ))) (eqL_app (eqL_app (eim_1 Θ) (eqL_app (eb_4 Θ) (es_2 Θ))) (eqL_app (eh_0 Θ) (eqL_app (eh_1 Θ) (eqL_app (eh_2 Θ) (eh_3 Θ))))))))))))) (em Θ)
