/-- a world in numbers: kind, slot, owner, index (of an array: kind, 0, owner, place) -/
abbrev Mem : Type := Nat → Nat → Nat → Nat → Int32
def up (h : Mem) (k j o i : Nat) (v : Int32) : Mem := fun k' j' o' i' => if k' = k ∧ j' = j ∧ o' = o ∧ i' = i then v else h k' j' o' i'
def bb (o : Nat) : Nat := match o with | 0 => 1 | 1 => 16 | 2 => 42 | 3 => 60 | _ => 81
def sb (o : Nat) : Nat := match o with | 0 => 31 | 1 => 75 | _ => 96
def pos (k o i : Nat) : Nat := match k with
  | 0 => 0
  | 1 => bb o + 0
  | 2 => bb o + 1
  | 3 => bb o + 2
  | 4 => bb o + 3
  | 5 => bb o + 4
  | 6 => bb o + 5 + i
  | 7 => bb o + 11 + i
  | 8 => sb o + 0
  | 9 => sb o + 1
  | 10 => sb o + 2
  | 11 => sb o + 3
  | 12 => sb o + 4
  | 13 => 36
  | 14 => 37
  | 15 => 38
  | 16 => 39
  | 17 => 40
  | 18 => 41
  | 19 => 57
  | 20 => 59 + 21 * o
  | 21 => 58
  | 22 => 101 + 2 * o
  | 23 => 102 + 2 * o
  | 24 => 109
  | 25 => 110
  | 26 => 111
  | 27 => 112
  | 28 => 113
  | 29 => 114
  | 30 => 115
  | 31 => 116
  | 32 => 117
  | 33 => 118
  | 34 => 119
  | 35 => 120
  | 36 => 121
  | 37 => 122
  | 38 => 123
  | 39 => 124
  | 40 => 125
  | 41 => 126
  | _ => 127
def ad (B k o i : Nat) : Nat := B + pos k o i
def AL : List (Nat × Nat × Nat) := [(0, 0, 0), (1, 0, 0), (2, 0, 0), (3, 0, 0), (4, 0, 0), (5, 0, 0), (6, 0, 0), (6, 0, 1), (6, 0, 2), (6, 0, 3), (6, 0, 4), (6, 0, 5), (7, 0, 0), (7, 0, 1), (7, 0, 2), (7, 0, 3), (1, 1, 0), (2, 1, 0), (3, 1, 0), (4, 1, 0), (5, 1, 0), (6, 1, 0), (6, 1, 1), (6, 1, 2), (6, 1, 3), (6, 1, 4), (6, 1, 5), (7, 1, 0), (7, 1, 1), (7, 1, 2), (7, 1, 3), (8, 0, 0), (9, 0, 0), (10, 0, 0), (11, 0, 0), (12, 0, 0), (13, 0, 0), (14, 0, 0), (15, 0, 0), (16, 0, 0), (17, 0, 0), (18, 0, 0), (1, 2, 0), (2, 2, 0), (3, 2, 0), (4, 2, 0), (5, 2, 0), (6, 2, 0), (6, 2, 1), (6, 2, 2), (6, 2, 3), (6, 2, 4), (6, 2, 5), (7, 2, 0), (7, 2, 1), (7, 2, 2), (7, 2, 3), (19, 0, 0), (21, 0, 0), (20, 0, 0), (1, 3, 0), (2, 3, 0), (3, 3, 0), (4, 3, 0), (5, 3, 0), (6, 3, 0), (6, 3, 1), (6, 3, 2), (6, 3, 3), (6, 3, 4), (6, 3, 5), (7, 3, 0), (7, 3, 1), (7, 3, 2), (7, 3, 3), (8, 1, 0), (9, 1, 0), (10, 1, 0), (11, 1, 0), (12, 1, 0), (20, 1, 0), (1, 4, 0), (2, 4, 0), (3, 4, 0), (4, 4, 0), (5, 4, 0), (6, 4, 0), (6, 4, 1), (6, 4, 2), (6, 4, 3), (6, 4, 4), (6, 4, 5), (7, 4, 0), (7, 4, 1), (7, 4, 2), (7, 4, 3), (8, 2, 0), (9, 2, 0), (10, 2, 0), (11, 2, 0), (12, 2, 0), (22, 0, 0), (23, 0, 0), (22, 1, 0), (23, 1, 0), (22, 2, 0), (23, 2, 0), (22, 3, 0), (23, 3, 0), (24, 0, 0), (25, 0, 0), (26, 0, 0), (27, 0, 0), (28, 0, 0), (29, 0, 0), (30, 0, 0), (31, 0, 0), (32, 0, 0), (33, 0, 0), (34, 0, 0), (35, 0, 0), (36, 0, 0), (37, 0, 0), (38, 0, 0), (39, 0, 0), (40, 0, 0), (41, 0, 0), (42, 0, 0)]
def no (k : Nat) : Nat := match k with
  | 1 => 5
  | 2 => 5
  | 3 => 5
  | 4 => 5
  | 5 => 5
  | 6 => 5
  | 7 => 5
  | 8 => 3
  | 9 => 3
  | 10 => 3
  | 11 => 3
  | 12 => 3
  | 20 => 2
  | 22 => 4
  | 23 => 4
  | _ => 1
def ni (k : Nat) : Nat := match k with | 6 => 6 | 7 => 4 | _ => 1
def isAr (k : Nat) : Bool := match k with
  | 0 => false
  | 1 => false
  | 6 => false
  | 7 => false
  | 8 => false
  | 13 => false
  | 16 => false
  | 17 => false
  | 20 => false
  | 22 => false
  | 24 => false
  | _ => true
def objE (B k o : Nat) (r : Nat → Int32) : Nat × List Value := match k with
  | 0 => (9, [.ref (ad B 1 0 0), .ref (ad B 1 1 0), .ref (ad B 8 0 0), .ref (ad B 13 0 0), .ref (ad B 16 0 0), .ref (ad B 17 0 0), .ref (ad B 19 0 0), .ref (ad B 21 0 0), .int (r 8)])
  | 1 => (0, [.int (r 0), .ref (ad B 2 o 0), .int (r 2), .ref (ad B 3 o 0), .int (r 4), .ref (ad B 4 o 0), .int (r 6), .int (r 7), .int (r 8), .ref (ad B 5 o 0), .int (r 10)])
  | 6 => (1, [.int (r 0), .int (r 1), .int (r 2), .int (r 3)])
  | 7 => (2, [.int (r 0), .int (r 1), .int (r 2), .int (r 3), .int (r 4)])
  | 8 => (6, [.int (r 0), .ref (ad B 9 o 0), .ref (ad B 10 o 0), .ref (ad B 11 o 0), .ref (ad B 12 o 0)])
  | 13 => (4, [.int (r 0), .int (r 1), .ref (ad B 14 0 0), .ref (ad B 15 0 0)])
  | 16 => (8, [.ref (ad B 17 0 0), .ref (ad B 1 2 0), .int (r 2), .int (r 3), .int (r 4), .int (r 5), .int (r 6), .int (r 7), .int (r 8), .int (r 9)])
  | 17 => (7, [.ref (ad B 18 0 0), .int (r 1)])
  | 20 => (3, [.int (r 0), .ref (ad B 1 (o+3) 0), .ref (ad B 8 (o+1) 0)])
  | 22 => (5, [.ref (ad B 23 o 0), .int (r 1), .int (r 2)])
  | _ => (10, [.ref (ad B 25 0 0), .ref (ad B 26 0 0), .int (r 2), .int (r 3), .ref (ad B 27 0 0), .int (r 5), .int (r 6), .int (r 7), .int (r 8), .ref (ad B 28 0 0), .int (r 10), .int (r 11), .int (r 12), .int (r 13), .int (r 14), .int (r 15), .int (r 16), .ref (ad B 29 0 0), .ref (ad B 30 0 0), .ref (ad B 31 0 0), .ref (ad B 32 0 0), .ref (ad B 33 0 0), .ref (ad B 34 0 0), .ref (ad B 35 0 0), .ref (ad B 36 0 0), .ref (ad B 37 0 0), .int (r 26), .int (r 27), .ref (ad B 38 0 0), .ref (ad B 39 0 0), .ref (ad B 40 0 0), .ref (ad B 41 0 0), .ref (ad B 42 0 0), .int (r 33)])
def alen (k : Nat) : Nat := match k with
  | 2 => 8
  | 3 => 6
  | 9 => 8
  | 10 => 8
  | 11 => 8
  | 12 => 8
  | 18 => 320
  | 19 => 2
  | 23 => 40
  | 25 => 237
  | 26 => 2
  | 27 => 79
  | 28 => 320
  | 29 => 8
  | 30 => 6
  | 31 => 6
  | 42 => 160
  | _ => 4
def ety (k : Nat) : Nat := match k with | 18 => 1 | 12 => 2 | 26 => 2 | 37 => 2 | _ => 0
def arrE (B : Nat) (cy : Nat → ClassId) (k o : Nat) (a : Nat → Int32) : ClassId × vp_A := match k with
  | 3 => (cy 3, 6, .inr (.inr (.inr (.inr (fun n => some (ad B 6 o n))))))
  | 4 => (cy 4, 4, .inr (.inr (.inr (.inr (fun n => some (ad B 7 o n))))))
  | 19 => (cy 5, 2, .inr (.inr (.inr (.inr (fun n => some (ad B 20 n 0))))))
  | 21 => (cy 6, 4, .inr (.inr (.inr (.inr (fun n => some (ad B 22 n 0))))))
  | k => (cy (ety k), alen k, .inl a)
def ent (B : Nat) (cy : Nat → ClassId) (h : Mem) (q : Nat × Nat × Nat) : va_E :=
  if isAr q.1 = true then .inl (arrE B cy q.1 q.2.1 (fun n => h q.1 0 q.2.1 n)) else .inr (objE B q.1 q.2.1 (fun j => h q.1 j q.2.1 q.2.2))
def wd (B : Nat) (cy : Nat → ClassId) (h : Mem) : va_W := AL.map (fun q => (ad B q.1 q.2.1 q.2.2, ent B cy h q))
def tys (cy : Nat → ClassId) : List (ClassId × FieldType) := [(cy 0, .int), (cy 1, .byte), (cy 2, .boolean), (cy 3, .object RX1), (cy 4, .object RX2), (cy 5, .object RX3), (cy 6, .object RX5)]
theorem vlb : (List.range 43).all (fun k => (List.range (no k)).all (fun o => (List.range (ni k)).all (fun i => decide (AL[pos k o i]? = some (k, o, i))))) = true := by decide +kernel
theorem vl (k : Nat) (hk : k < 43) (o : Nat) (ho : o < no k) (i : Nat) (hi : i < ni k) : AL[pos k o i]? = some (k, o, i) := by
  have h1 := List.all_eq_true.mp vlb k (List.mem_range.mpr hk)
  have h2 := List.all_eq_true.mp h1 o (List.mem_range.mpr ho)
  have h3 := List.all_eq_true.mp h2 i (List.mem_range.mpr hi)
  exact of_decide_eq_true h3
theorem AL_pos0 : ∀ p, p < 128 → (AL[p]?).map (fun q => pos q.1 q.2.1 q.2.2) = some p := by decide +kernel
theorem AL_len : AL.length = 128 := by decide +kernel
theorem AL_pos {p : Nat} {q : Nat × Nat × Nat} (h : AL[p]? = some q) : pos q.1 q.2.1 q.2.2 = p := by
  have hp : p < 128 := by
    have := (List.getElem?_eq_some_iff.mp h).1
    rwa [AL_len] at this
  have h1 := AL_pos0 p hp
  rw [h] at h1
  exact Option.some.inj h1
theorem AL_arr : ∀ q ∈ AL, isAr q.1 = true → q.2.2 = 0 := by decide +kernel
theorem wd_get {B : Nat} {cy : Nat → ClassId} {h : Mem} {p : Nat} {e : Nat × va_E} (he : (wd B cy h)[p]? = some e) : ∃ q, AL[p]? = some q ∧ e = (ad B q.1 q.2.1 q.2.2, ent B cy h q) := by
  unfold wd at he
  rw [List.getElem?_map] at he
  cases hq : AL[p]? with
  | none => rw [hq] at he; cases he
  | some q => rw [hq] at he; exact ⟨q, rfl, (Option.some.inj he).symm⟩
theorem wd_at {B : Nat} {cy : Nat → ClassId} (h : Mem) {k o i : Nat} (hk : k < 43) (ho : o < no k) (hi : i < ni k) : (wd B cy h)[pos k o i]? = some (ad B k o i, ent B cy h (k, o, i)) := by
  unfold wd
  rw [List.getElem?_map, vl k hk o ho i hi]
  rfl
theorem wd_D {B : Nat} {cy : Nat → ClassId} {h : Mem} : va_D (fun q => B ≤ q) (wd B cy h) := by
  refine ⟨fun i j p q hp hq hpq => ?_, fun k q hq => ?_⟩
  · obtain ⟨a, ha, rfl⟩ := wd_get hp
    obtain ⟨b, hb, rfl⟩ := wd_get hq
    have e1 := AL_pos ha
    have e2 := AL_pos hb
    have : ad B a.1 a.2.1 a.2.2 = ad B b.1 b.2.1 b.2.2 := hpq
    unfold ad at this
    omega
  · obtain ⟨a, ha, rfl⟩ := wd_get hq
    exact Nat.le_add_right _ _
theorem wd_set {B : Nat} {cy : Nat → ClassId} {h h' : Mem} {k o i : Nat} {e : va_E} (hk : k < 43) (ho : o < no k) (hi : i < ni k) (hne : ∀ q ∈ AL, q ≠ (k, o, i) → ent B cy h' q = ent B cy h q) (he : ent B cy h' (k, o, i) = e) : (wd B cy h).set (pos k o i) (ad B k o i, e) = wd B cy h' := by
  apply List.ext_getElem?
  intro n
  have hl : pos k o i < (wd B cy h).length := (List.getElem?_eq_some_iff.mp (wd_at h hk ho hi)).1
  by_cases hn : n = pos k o i
  · subst hn
    rw [List.getElem?_set_self hl, wd_at h' hk ho hi, he]
  · rw [List.getElem?_set_ne (Ne.symm hn)]
    unfold wd
    rw [List.getElem?_map, List.getElem?_map]
    cases hq : AL[n]? with
    | none => rfl
    | some q =>
      have hq2 : q ≠ (k, o, i) := fun e => hn (by rw [← AL_pos hq, e])
      simp only [Option.map_some]
      rw [hne q (List.mem_of_getElem? hq) hq2]
def upr (r : Nat → Int32) (j : Nat) (v : Int32) : Nat → Int32 := fun j' => if j' = j then v else r j'
theorem up_row {h : Mem} {k j o i : Nat} {v : Int32} : (fun j' => up h k j o i v k j' o i) = upr (fun j' => h k j' o i) j v := by
  funext j'
  simp [up, upr]
theorem ent_up {B : Nat} {cy : Nat → ClassId} {h : Mem} {k j o i : Nat} {v : Int32} (ha : isAr k = false) (q : Nat × Nat × Nat) (hq : q ≠ (k, o, i)) : ent B cy (up h k j o i v) q = ent B cy h q := by
  obtain ⟨k', o', i'⟩ := q
  unfold ent
  by_cases h1 : isAr k' = true
  · have hk : k' ≠ k := fun e => by subst e; rw [ha] at h1; cases h1
    simp only [h1, if_true]
    congr 3
    funext n
    simp [up, hk]
  · simp only [h1]
    rw [if_neg (by simp), if_neg (by simp)]
    congr 2
    funext n
    have : ¬ (k' = k ∧ n = j ∧ o' = o ∧ i' = i) := fun ⟨a, _, c, d⟩ => hq (by rw [a, c, d])
    simp only [up, if_neg this]
theorem ent_upA {B : Nat} {cy : Nat → ClassId} {h : Mem} {k o n : Nat} {v : Int32} (ha : isAr k = true) (q : Nat × Nat × Nat) (hm : q ∈ AL) (hq : q ≠ (k, o, 0)) : ent B cy (up h k 0 o n v) q = ent B cy h q := by
  have h0 := AL_arr q hm
  obtain ⟨k', o', i'⟩ := q
  unfold ent
  by_cases h1 : isAr k' = true
  · have hi : i' = 0 := h0 h1
    simp only [h1, if_true]
    congr 2
    funext n'
    have : ¬ (k' = k ∧ (0 : Nat) = 0 ∧ o' = o ∧ n' = n) := fun ⟨a, _, c, d⟩ => hq (by rw [a, c, hi])
    unfold up
    rw [if_neg this]
  · have hk : k' ≠ k := fun e => by subst e; exact h1 ha
    simp only [h1]
    rw [if_neg (by simp), if_neg (by simp)]
    congr 2
    funext n
    simp [up, hk]
/-- slot j of kind k holds a number -/
def FT (k j : Nat) : Prop := ∀ (B o : Nat) (r : Nat → Int32) (v : Int32), objE B k o (upr r j v) = ((objE B k o r).1, (objE B k o r).2.set j (.int v)) ∧ (objE B k o r).2[j]? = some (.int (r j))
theorem rt_0_0 (B o : Nat) (r : Nat → Int32) : (objE B 0 o r).2[0]? = some (.ref (ad B 1 (0) 0)) := rfl
theorem rt_0_1 (B o : Nat) (r : Nat → Int32) : (objE B 0 o r).2[1]? = some (.ref (ad B 1 (1) 0)) := rfl
theorem rt_0_2 (B o : Nat) (r : Nat → Int32) : (objE B 0 o r).2[2]? = some (.ref (ad B 8 (0) 0)) := rfl
theorem rt_0_3 (B o : Nat) (r : Nat → Int32) : (objE B 0 o r).2[3]? = some (.ref (ad B 13 (0) 0)) := rfl
theorem rt_0_4 (B o : Nat) (r : Nat → Int32) : (objE B 0 o r).2[4]? = some (.ref (ad B 16 (0) 0)) := rfl
theorem rt_0_5 (B o : Nat) (r : Nat → Int32) : (objE B 0 o r).2[5]? = some (.ref (ad B 17 (0) 0)) := rfl
theorem rt_0_6 (B o : Nat) (r : Nat → Int32) : (objE B 0 o r).2[6]? = some (.ref (ad B 19 (0) 0)) := rfl
theorem rt_0_7 (B o : Nat) (r : Nat → Int32) : (objE B 0 o r).2[7]? = some (.ref (ad B 21 (0) 0)) := rfl
theorem ft_0_8 : FT 0 8 := fun _ _ _ _ => ⟨rfl, rfl⟩
theorem ft_1_0 : FT 1 0 := fun _ _ _ _ => ⟨rfl, rfl⟩
theorem rt_1_1 (B o : Nat) (r : Nat → Int32) : (objE B 1 o r).2[1]? = some (.ref (ad B 2 (o) 0)) := rfl
theorem ft_1_2 : FT 1 2 := fun _ _ _ _ => ⟨rfl, rfl⟩
theorem rt_1_3 (B o : Nat) (r : Nat → Int32) : (objE B 1 o r).2[3]? = some (.ref (ad B 3 (o) 0)) := rfl
theorem ft_1_4 : FT 1 4 := fun _ _ _ _ => ⟨rfl, rfl⟩
theorem rt_1_5 (B o : Nat) (r : Nat → Int32) : (objE B 1 o r).2[5]? = some (.ref (ad B 4 (o) 0)) := rfl
theorem ft_1_6 : FT 1 6 := fun _ _ _ _ => ⟨rfl, rfl⟩
theorem ft_1_7 : FT 1 7 := fun _ _ _ _ => ⟨rfl, rfl⟩
theorem ft_1_8 : FT 1 8 := fun _ _ _ _ => ⟨rfl, rfl⟩
theorem rt_1_9 (B o : Nat) (r : Nat → Int32) : (objE B 1 o r).2[9]? = some (.ref (ad B 5 (o) 0)) := rfl
theorem ft_1_10 : FT 1 10 := fun _ _ _ _ => ⟨rfl, rfl⟩
theorem ft_6_0 : FT 6 0 := fun _ _ _ _ => ⟨rfl, rfl⟩
theorem ft_6_1 : FT 6 1 := fun _ _ _ _ => ⟨rfl, rfl⟩
theorem ft_6_2 : FT 6 2 := fun _ _ _ _ => ⟨rfl, rfl⟩
theorem ft_6_3 : FT 6 3 := fun _ _ _ _ => ⟨rfl, rfl⟩
theorem ft_7_0 : FT 7 0 := fun _ _ _ _ => ⟨rfl, rfl⟩
theorem ft_7_1 : FT 7 1 := fun _ _ _ _ => ⟨rfl, rfl⟩
theorem ft_7_2 : FT 7 2 := fun _ _ _ _ => ⟨rfl, rfl⟩
theorem ft_7_3 : FT 7 3 := fun _ _ _ _ => ⟨rfl, rfl⟩
theorem ft_7_4 : FT 7 4 := fun _ _ _ _ => ⟨rfl, rfl⟩
theorem ft_8_0 : FT 8 0 := fun _ _ _ _ => ⟨rfl, rfl⟩
theorem rt_8_1 (B o : Nat) (r : Nat → Int32) : (objE B 8 o r).2[1]? = some (.ref (ad B 9 (o) 0)) := rfl
theorem rt_8_2 (B o : Nat) (r : Nat → Int32) : (objE B 8 o r).2[2]? = some (.ref (ad B 10 (o) 0)) := rfl
theorem rt_8_3 (B o : Nat) (r : Nat → Int32) : (objE B 8 o r).2[3]? = some (.ref (ad B 11 (o) 0)) := rfl
theorem rt_8_4 (B o : Nat) (r : Nat → Int32) : (objE B 8 o r).2[4]? = some (.ref (ad B 12 (o) 0)) := rfl
theorem ft_13_0 : FT 13 0 := fun _ _ _ _ => ⟨rfl, rfl⟩
theorem ft_13_1 : FT 13 1 := fun _ _ _ _ => ⟨rfl, rfl⟩
theorem rt_13_2 (B o : Nat) (r : Nat → Int32) : (objE B 13 o r).2[2]? = some (.ref (ad B 14 (0) 0)) := rfl
theorem rt_13_3 (B o : Nat) (r : Nat → Int32) : (objE B 13 o r).2[3]? = some (.ref (ad B 15 (0) 0)) := rfl
theorem rt_16_0 (B o : Nat) (r : Nat → Int32) : (objE B 16 o r).2[0]? = some (.ref (ad B 17 (0) 0)) := rfl
theorem rt_16_1 (B o : Nat) (r : Nat → Int32) : (objE B 16 o r).2[1]? = some (.ref (ad B 1 (2) 0)) := rfl
theorem ft_16_2 : FT 16 2 := fun _ _ _ _ => ⟨rfl, rfl⟩
theorem ft_16_3 : FT 16 3 := fun _ _ _ _ => ⟨rfl, rfl⟩
theorem ft_16_4 : FT 16 4 := fun _ _ _ _ => ⟨rfl, rfl⟩
theorem ft_16_5 : FT 16 5 := fun _ _ _ _ => ⟨rfl, rfl⟩
theorem ft_16_6 : FT 16 6 := fun _ _ _ _ => ⟨rfl, rfl⟩
theorem ft_16_7 : FT 16 7 := fun _ _ _ _ => ⟨rfl, rfl⟩
theorem ft_16_8 : FT 16 8 := fun _ _ _ _ => ⟨rfl, rfl⟩
theorem ft_16_9 : FT 16 9 := fun _ _ _ _ => ⟨rfl, rfl⟩
theorem rt_17_0 (B o : Nat) (r : Nat → Int32) : (objE B 17 o r).2[0]? = some (.ref (ad B 18 (0) 0)) := rfl
theorem ft_17_1 : FT 17 1 := fun _ _ _ _ => ⟨rfl, rfl⟩
theorem ft_20_0 : FT 20 0 := fun _ _ _ _ => ⟨rfl, rfl⟩
theorem rt_20_1 (B o : Nat) (r : Nat → Int32) : (objE B 20 o r).2[1]? = some (.ref (ad B 1 (o+3) 0)) := rfl
theorem rt_20_2 (B o : Nat) (r : Nat → Int32) : (objE B 20 o r).2[2]? = some (.ref (ad B 8 (o+1) 0)) := rfl
theorem rt_22_0 (B o : Nat) (r : Nat → Int32) : (objE B 22 o r).2[0]? = some (.ref (ad B 23 (o) 0)) := rfl
theorem ft_22_1 : FT 22 1 := fun _ _ _ _ => ⟨rfl, rfl⟩
theorem ft_22_2 : FT 22 2 := fun _ _ _ _ => ⟨rfl, rfl⟩
theorem rt_24_0 (B o : Nat) (r : Nat → Int32) : (objE B 24 o r).2[0]? = some (.ref (ad B 25 (0) 0)) := rfl
theorem rt_24_1 (B o : Nat) (r : Nat → Int32) : (objE B 24 o r).2[1]? = some (.ref (ad B 26 (0) 0)) := rfl
theorem ft_24_2 : FT 24 2 := fun _ _ _ _ => ⟨rfl, rfl⟩
theorem ft_24_3 : FT 24 3 := fun _ _ _ _ => ⟨rfl, rfl⟩
theorem rt_24_4 (B o : Nat) (r : Nat → Int32) : (objE B 24 o r).2[4]? = some (.ref (ad B 27 (0) 0)) := rfl
theorem ft_24_5 : FT 24 5 := fun _ _ _ _ => ⟨rfl, rfl⟩
theorem ft_24_6 : FT 24 6 := fun _ _ _ _ => ⟨rfl, rfl⟩
theorem ft_24_7 : FT 24 7 := fun _ _ _ _ => ⟨rfl, rfl⟩
theorem ft_24_8 : FT 24 8 := fun _ _ _ _ => ⟨rfl, rfl⟩
theorem rt_24_9 (B o : Nat) (r : Nat → Int32) : (objE B 24 o r).2[9]? = some (.ref (ad B 28 (0) 0)) := rfl
theorem ft_24_10 : FT 24 10 := fun _ _ _ _ => ⟨rfl, rfl⟩
theorem ft_24_11 : FT 24 11 := fun _ _ _ _ => ⟨rfl, rfl⟩
theorem ft_24_12 : FT 24 12 := fun _ _ _ _ => ⟨rfl, rfl⟩
theorem ft_24_13 : FT 24 13 := fun _ _ _ _ => ⟨rfl, rfl⟩
theorem ft_24_14 : FT 24 14 := fun _ _ _ _ => ⟨rfl, rfl⟩
theorem ft_24_15 : FT 24 15 := fun _ _ _ _ => ⟨rfl, rfl⟩
theorem ft_24_16 : FT 24 16 := fun _ _ _ _ => ⟨rfl, rfl⟩
theorem rt_24_17 (B o : Nat) (r : Nat → Int32) : (objE B 24 o r).2[17]? = some (.ref (ad B 29 (0) 0)) := rfl
theorem rt_24_18 (B o : Nat) (r : Nat → Int32) : (objE B 24 o r).2[18]? = some (.ref (ad B 30 (0) 0)) := rfl
theorem rt_24_19 (B o : Nat) (r : Nat → Int32) : (objE B 24 o r).2[19]? = some (.ref (ad B 31 (0) 0)) := rfl
theorem rt_24_20 (B o : Nat) (r : Nat → Int32) : (objE B 24 o r).2[20]? = some (.ref (ad B 32 (0) 0)) := rfl
theorem rt_24_21 (B o : Nat) (r : Nat → Int32) : (objE B 24 o r).2[21]? = some (.ref (ad B 33 (0) 0)) := rfl
theorem rt_24_22 (B o : Nat) (r : Nat → Int32) : (objE B 24 o r).2[22]? = some (.ref (ad B 34 (0) 0)) := rfl
theorem rt_24_23 (B o : Nat) (r : Nat → Int32) : (objE B 24 o r).2[23]? = some (.ref (ad B 35 (0) 0)) := rfl
theorem rt_24_24 (B o : Nat) (r : Nat → Int32) : (objE B 24 o r).2[24]? = some (.ref (ad B 36 (0) 0)) := rfl
theorem rt_24_25 (B o : Nat) (r : Nat → Int32) : (objE B 24 o r).2[25]? = some (.ref (ad B 37 (0) 0)) := rfl
theorem ft_24_26 : FT 24 26 := fun _ _ _ _ => ⟨rfl, rfl⟩
theorem ft_24_27 : FT 24 27 := fun _ _ _ _ => ⟨rfl, rfl⟩
theorem rt_24_28 (B o : Nat) (r : Nat → Int32) : (objE B 24 o r).2[28]? = some (.ref (ad B 38 (0) 0)) := rfl
theorem rt_24_29 (B o : Nat) (r : Nat → Int32) : (objE B 24 o r).2[29]? = some (.ref (ad B 39 (0) 0)) := rfl
theorem rt_24_30 (B o : Nat) (r : Nat → Int32) : (objE B 24 o r).2[30]? = some (.ref (ad B 40 (0) 0)) := rfl
theorem rt_24_31 (B o : Nat) (r : Nat → Int32) : (objE B 24 o r).2[31]? = some (.ref (ad B 41 (0) 0)) := rfl
theorem rt_24_32 (B o : Nat) (r : Nat → Int32) : (objE B 24 o r).2[32]? = some (.ref (ad B 42 (0) 0)) := rfl
theorem ft_24_33 : FT 24 33 := fun _ _ _ _ => ⟨rfl, rfl⟩
