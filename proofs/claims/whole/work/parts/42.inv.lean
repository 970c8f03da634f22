theorem CB_3 {h : Mem} {o : Nat} {B : Bs} {v : Nat} (hC : CB0 h o B) : CB0 (up h 1 6 o 0 (nI v)) o (ub B 3 0 v) := by
  obtain ⟨hM0, hM1, hM2, hM3, hM4, hM5, hM6, hM7, hM8, hM9, hM10⟩ := hC
  exact ⟨by simpa [up, ub] using hM0, by simpa [up, ub] using hM1, by simpa [up, ub] using hM2, by simp [up, ub], by simpa [up, ub] using hM4, by simpa [up, ub] using hM5, by simpa [up, ub] using hM6, by simpa [up, ub] using hM7, by simpa [up, ub] using hM8, by simpa [up, ub] using hM9, by simpa [up, ub] using hM10⟩

theorem CB_4 {h : Mem} {o : Nat} {B : Bs} {v : Nat} (hC : CB0 h o B) : CB0 (up h 1 7 o 0 (nI v)) o (ub B 4 0 v) := by
  obtain ⟨hM0, hM1, hM2, hM3, hM4, hM5, hM6, hM7, hM8, hM9, hM10⟩ := hC
  exact ⟨by simpa [up, ub] using hM0, by simpa [up, ub] using hM1, by simpa [up, ub] using hM2, by simpa [up, ub] using hM3, by simp [up, ub], by simpa [up, ub] using hM5, by simpa [up, ub] using hM6, by simpa [up, ub] using hM7, by simpa [up, ub] using hM8, by simpa [up, ub] using hM9, by simpa [up, ub] using hM10⟩

theorem CB_7 {h : Mem} {o : Nat} {B : Bs} {i v : Nat} (hC : CB0 h o B) : CB0 (up h 2 0 o i (nI v)) o (ub B 7 i v) := by
  obtain ⟨hM0, hM1, hM2, hM3, hM4, hM5, hM6, hM7, hM8, hM9, hM10⟩ := hC
  refine ⟨by simpa [up, ub] using hM0, by simpa [up, ub] using hM1, by simpa [up, ub] using hM2, by simpa [up, ub] using hM3, by simpa [up, ub] using hM4, by simpa [up, ub] using hM5, by simpa [up, ub] using hM6, ?_, by simpa [up, ub] using hM8, by simpa [up, ub] using hM9, by simpa [up, ub] using hM10⟩
  intro d hd
  by_cases e : d = i
  · simp [up, ub, e]
  · simpa [up, ub, e] using hM7 d hd

theorem CB_10 {h : Mem} {o : Nat} {B : Bs} {i v : Nat} (hC : CB0 h o B) : CB0 (up h 6 1 o i (nI v)) o (ub B 10 i v) := by
  obtain ⟨hM0, hM1, hM2, hM3, hM4, hM5, hM6, hM7, hM8, hM9, hM10⟩ := hC
  refine ⟨by simpa [up, ub] using hM0, by simpa [up, ub] using hM1, by simpa [up, ub] using hM2, by simpa [up, ub] using hM3, by simpa [up, ub] using hM4, by simpa [up, ub] using hM5, by simpa [up, ub] using hM6, by simpa [up, ub] using hM7, by simpa [up, ub] using hM8, ?_, by simpa [up, ub] using hM10⟩
  intro d hd
  have := hM9 d (by simpa [ub] using hd)
  refine ⟨by simpa [up, ub] using this.1, ?_, by simpa [up, ub] using this.2.2⟩
  by_cases e : d = i
  · simp [up, ub, e]
  · simpa [up, ub, e] using this.2.1

theorem CB_12 {h : Mem} {o : Nat} {B : Bs} {i v : Nat} (hC : CB0 h o B) : CB0 (up h 7 0 o i (nI v)) o (ub B 12 i v) := by
  obtain ⟨hM0, hM1, hM2, hM3, hM4, hM5, hM6, hM7, hM8, hM9, hM10⟩ := hC
  refine ⟨by simpa [up, ub] using hM0, by simpa [up, ub] using hM1, by simpa [up, ub] using hM2, by simpa [up, ub] using hM3, by simpa [up, ub] using hM4, by simpa [up, ub] using hM5, by simpa [up, ub] using hM6, by simpa [up, ub] using hM7, by simpa [up, ub] using hM8, by simpa [up, ub] using hM9, ?_⟩
  intro d hd
  have := hM10 d (by simpa [ub] using hd)
  refine ⟨?_, by simpa [up, ub] using this.2.1, by simpa [up, ub] using this.2.2.1, by simpa [up, ub] using this.2.2.2⟩
  by_cases e : d = i
  · simp [up, ub, e]
  · simpa [up, ub, e] using this.1

theorem CB_13 {h : Mem} {o : Nat} {B : Bs} {i v : Nat} (hC : CB0 h o B) : CB0 (up h 7 1 o i (nI v)) o (ub B 13 i v) := by
  obtain ⟨hM0, hM1, hM2, hM3, hM4, hM5, hM6, hM7, hM8, hM9, hM10⟩ := hC
  refine ⟨by simpa [up, ub] using hM0, by simpa [up, ub] using hM1, by simpa [up, ub] using hM2, by simpa [up, ub] using hM3, by simpa [up, ub] using hM4, by simpa [up, ub] using hM5, by simpa [up, ub] using hM6, by simpa [up, ub] using hM7, by simpa [up, ub] using hM8, by simpa [up, ub] using hM9, ?_⟩
  intro d hd
  have := hM10 d (by simpa [ub] using hd)
  refine ⟨by simpa [up, ub] using this.1, ?_, by simpa [up, ub] using this.2.2.1, by simpa [up, ub] using this.2.2.2⟩
  by_cases e : d = i
  · simp [up, ub, e]
  · simpa [up, ub, e] using this.2.1

theorem CB_14 {h : Mem} {o : Nat} {B : Bs} {i v : Nat} (hC : CB0 h o B) : CB0 (up h 7 2 o i (nI v)) o (ub B 14 i v) := by
  obtain ⟨hM0, hM1, hM2, hM3, hM4, hM5, hM6, hM7, hM8, hM9, hM10⟩ := hC
  refine ⟨by simpa [up, ub] using hM0, by simpa [up, ub] using hM1, by simpa [up, ub] using hM2, by simpa [up, ub] using hM3, by simpa [up, ub] using hM4, by simpa [up, ub] using hM5, by simpa [up, ub] using hM6, by simpa [up, ub] using hM7, by simpa [up, ub] using hM8, by simpa [up, ub] using hM9, ?_⟩
  intro d hd
  have := hM10 d (by simpa [ub] using hd)
  refine ⟨by simpa [up, ub] using this.1, by simpa [up, ub] using this.2.1, ?_, by simpa [up, ub] using this.2.2.2⟩
  by_cases e : d = i
  · simp [up, ub, e]
  · simpa [up, ub, e] using this.2.2.1

theorem SN_3 {s s' : Nat → Int32} {B : Bs} {v : Nat} (h : SN s B) (hn : B 1 0 ≤ 6) (hm : B 2 0 ≤ 4) (hs : s' (43) = nI v) (ho : ∀ m, m ≠ 43 → s' m = s m) : SN s' (ub B 3 0 v) := by
  obtain ⟨s0, s1, s2, s3, s4, s5, s6⟩ := h
  have b1 : ub B 3 0 v 1 0 = B 1 0 := by simp [ub]
  have b2 : ub B 3 0 v 2 0 = B 2 0 := by simp [ub]
  refine ⟨fun x hx => ?_, ?_, fun c hc => ⟨?_, ?_, ?_⟩, fun k hk => ⟨?_, ?_, ?_, ?_⟩, ?_, ?_, ?_⟩
  · rw [ho _ (by omega)]; simpa [ub] using s0 x hx
  · rw [ho _ (by omega)]; simpa [ub] using s1
  · rw [b1] at hc; rw [ho _ (by omega)]; simpa [ub] using (s2 c hc).1
  · rw [b1] at hc; rw [ho _ (by omega)]; simpa [ub] using (s2 c hc).2.1
  · rw [b1] at hc; rw [ho _ (by omega)]; simpa [ub] using (s2 c hc).2.2
  · rw [b2] at hk; rw [ho _ (by omega)]; simpa [ub] using (s3 k hk).1
  · rw [b2] at hk; rw [ho _ (by omega)]; simpa [ub] using (s3 k hk).2.1
  · rw [b2] at hk; rw [ho _ (by omega)]; simpa [ub] using (s3 k hk).2.2.1
  · rw [b2] at hk; rw [ho _ (by omega)]; simpa [ub] using (s3 k hk).2.2.2
  · rw [hs]; simp [ub]
  · rw [ho _ (by omega)]; simpa [ub] using s5
  · rw [ho _ (by omega)]; simpa [ub] using s6

theorem SN_4 {s s' : Nat → Int32} {B : Bs} {v : Nat} (h : SN s B) (hn : B 1 0 ≤ 6) (hm : B 2 0 ≤ 4) (hs : s' (44) = nI v) (ho : ∀ m, m ≠ 44 → s' m = s m) : SN s' (ub B 4 0 v) := by
  obtain ⟨s0, s1, s2, s3, s4, s5, s6⟩ := h
  have b1 : ub B 4 0 v 1 0 = B 1 0 := by simp [ub]
  have b2 : ub B 4 0 v 2 0 = B 2 0 := by simp [ub]
  refine ⟨fun x hx => ?_, ?_, fun c hc => ⟨?_, ?_, ?_⟩, fun k hk => ⟨?_, ?_, ?_, ?_⟩, ?_, ?_, ?_⟩
  · rw [ho _ (by omega)]; simpa [ub] using s0 x hx
  · rw [ho _ (by omega)]; simpa [ub] using s1
  · rw [b1] at hc; rw [ho _ (by omega)]; simpa [ub] using (s2 c hc).1
  · rw [b1] at hc; rw [ho _ (by omega)]; simpa [ub] using (s2 c hc).2.1
  · rw [b1] at hc; rw [ho _ (by omega)]; simpa [ub] using (s2 c hc).2.2
  · rw [b2] at hk; rw [ho _ (by omega)]; simpa [ub] using (s3 k hk).1
  · rw [b2] at hk; rw [ho _ (by omega)]; simpa [ub] using (s3 k hk).2.1
  · rw [b2] at hk; rw [ho _ (by omega)]; simpa [ub] using (s3 k hk).2.2.1
  · rw [b2] at hk; rw [ho _ (by omega)]; simpa [ub] using (s3 k hk).2.2.2
  · rw [ho _ (by omega)]; simpa [ub] using s4
  · rw [hs]; simp [ub]
  · rw [ho _ (by omega)]; simpa [ub] using s6

theorem SN_5 {s s' : Nat → Int32} {B : Bs} {v : Nat} (h : SN s B) (hn : B 1 0 ≤ 6) (hm : B 2 0 ≤ 4) (hs : s' (45) = nI v) (ho : ∀ m, m ≠ 45 → s' m = s m) : SN s' (ub B 5 0 v) := by
  obtain ⟨s0, s1, s2, s3, s4, s5, s6⟩ := h
  have b1 : ub B 5 0 v 1 0 = B 1 0 := by simp [ub]
  have b2 : ub B 5 0 v 2 0 = B 2 0 := by simp [ub]
  refine ⟨fun x hx => ?_, ?_, fun c hc => ⟨?_, ?_, ?_⟩, fun k hk => ⟨?_, ?_, ?_, ?_⟩, ?_, ?_, ?_⟩
  · rw [ho _ (by omega)]; simpa [ub] using s0 x hx
  · rw [ho _ (by omega)]; simpa [ub] using s1
  · rw [b1] at hc; rw [ho _ (by omega)]; simpa [ub] using (s2 c hc).1
  · rw [b1] at hc; rw [ho _ (by omega)]; simpa [ub] using (s2 c hc).2.1
  · rw [b1] at hc; rw [ho _ (by omega)]; simpa [ub] using (s2 c hc).2.2
  · rw [b2] at hk; rw [ho _ (by omega)]; simpa [ub] using (s3 k hk).1
  · rw [b2] at hk; rw [ho _ (by omega)]; simpa [ub] using (s3 k hk).2.1
  · rw [b2] at hk; rw [ho _ (by omega)]; simpa [ub] using (s3 k hk).2.2.1
  · rw [b2] at hk; rw [ho _ (by omega)]; simpa [ub] using (s3 k hk).2.2.2
  · rw [ho _ (by omega)]; simpa [ub] using s4
  · rw [ho _ (by omega)]; simpa [ub] using s5
  · rw [hs]; simp [ub]

theorem SN_7 {s s' : Nat → Int32} {B : Bs} {i v : Nat} (h : SN s B) (hn : B 1 0 ≤ 6) (hm : B 2 0 ≤ 4) (hi : i < 8) (hs : s' (i) = nI v) (ho : ∀ m, m ≠ i → s' m = s m) : SN s' (ub B 7 i v) := by
  obtain ⟨s0, s1, s2, s3, s4, s5, s6⟩ := h
  have b1 : ub B 7 i v 1 0 = B 1 0 := by simp [ub]
  have b2 : ub B 7 i v 2 0 = B 2 0 := by simp [ub]
  refine ⟨fun x hx => ?_, ?_, fun c hc => ⟨?_, ?_, ?_⟩, fun k hk => ⟨?_, ?_, ?_, ?_⟩, ?_, ?_, ?_⟩
  · by_cases e : x = i
    · subst e; rw [hs]; simp [ub]
    · rw [ho _ (by omega)]; simpa [ub, e] using s0 x hx
  · rw [ho _ (by omega)]; simpa [ub] using s1
  · rw [b1] at hc; rw [ho _ (by omega)]; simpa [ub] using (s2 c hc).1
  · rw [b1] at hc; rw [ho _ (by omega)]; simpa [ub] using (s2 c hc).2.1
  · rw [b1] at hc; rw [ho _ (by omega)]; simpa [ub] using (s2 c hc).2.2
  · rw [b2] at hk; rw [ho _ (by omega)]; simpa [ub] using (s3 k hk).1
  · rw [b2] at hk; rw [ho _ (by omega)]; simpa [ub] using (s3 k hk).2.1
  · rw [b2] at hk; rw [ho _ (by omega)]; simpa [ub] using (s3 k hk).2.2.1
  · rw [b2] at hk; rw [ho _ (by omega)]; simpa [ub] using (s3 k hk).2.2.2
  · rw [ho _ (by omega)]; simpa [ub] using s4
  · rw [ho _ (by omega)]; simpa [ub] using s5
  · rw [ho _ (by omega)]; simpa [ub] using s6

theorem SN_10 {s s' : Nat → Int32} {B : Bs} {i v : Nat} (h : SN s B) (hn : B 1 0 ≤ 6) (hm : B 2 0 ≤ 4) (hi : i < 6) (hs : s' (15 + i) = nI v) (ho : ∀ m, m ≠ 15 + i → s' m = s m) : SN s' (ub B 10 i v) := by
  obtain ⟨s0, s1, s2, s3, s4, s5, s6⟩ := h
  have b1 : ub B 10 i v 1 0 = B 1 0 := by simp [ub]
  have b2 : ub B 10 i v 2 0 = B 2 0 := by simp [ub]
  refine ⟨fun x hx => ?_, ?_, fun c hc => ⟨?_, ?_, ?_⟩, fun k hk => ⟨?_, ?_, ?_, ?_⟩, ?_, ?_, ?_⟩
  · rw [ho _ (by omega)]; simpa [ub] using s0 x hx
  · rw [ho _ (by omega)]; simpa [ub] using s1
  · rw [b1] at hc; rw [ho _ (by omega)]; simpa [ub] using (s2 c hc).1
  · rw [b1] at hc
    by_cases e : c = i
    · subst e; rw [hs]; simp [ub]
    · rw [ho _ (by omega)]; simpa [ub, e] using (s2 c hc).2.1
  · rw [b1] at hc; rw [ho _ (by omega)]; simpa [ub] using (s2 c hc).2.2
  · rw [b2] at hk; rw [ho _ (by omega)]; simpa [ub] using (s3 k hk).1
  · rw [b2] at hk; rw [ho _ (by omega)]; simpa [ub] using (s3 k hk).2.1
  · rw [b2] at hk; rw [ho _ (by omega)]; simpa [ub] using (s3 k hk).2.2.1
  · rw [b2] at hk; rw [ho _ (by omega)]; simpa [ub] using (s3 k hk).2.2.2
  · rw [ho _ (by omega)]; simpa [ub] using s4
  · rw [ho _ (by omega)]; simpa [ub] using s5
  · rw [ho _ (by omega)]; simpa [ub] using s6

theorem SN_11 {s s' : Nat → Int32} {B : Bs} {i v : Nat} (h : SN s B) (hn : B 1 0 ≤ 6) (hm : B 2 0 ≤ 4) (hi : i < 6) (hs : s' (21 + i) = nI v) (ho : ∀ m, m ≠ 21 + i → s' m = s m) : SN s' (ub B 11 i v) := by
  obtain ⟨s0, s1, s2, s3, s4, s5, s6⟩ := h
  have b1 : ub B 11 i v 1 0 = B 1 0 := by simp [ub]
  have b2 : ub B 11 i v 2 0 = B 2 0 := by simp [ub]
  refine ⟨fun x hx => ?_, ?_, fun c hc => ⟨?_, ?_, ?_⟩, fun k hk => ⟨?_, ?_, ?_, ?_⟩, ?_, ?_, ?_⟩
  · rw [ho _ (by omega)]; simpa [ub] using s0 x hx
  · rw [ho _ (by omega)]; simpa [ub] using s1
  · rw [b1] at hc; rw [ho _ (by omega)]; simpa [ub] using (s2 c hc).1
  · rw [b1] at hc; rw [ho _ (by omega)]; simpa [ub] using (s2 c hc).2.1
  · rw [b1] at hc
    by_cases e : c = i
    · subst e; rw [hs]; simp [ub]
    · rw [ho _ (by omega)]; simpa [ub, e] using (s2 c hc).2.2
  · rw [b2] at hk; rw [ho _ (by omega)]; simpa [ub] using (s3 k hk).1
  · rw [b2] at hk; rw [ho _ (by omega)]; simpa [ub] using (s3 k hk).2.1
  · rw [b2] at hk; rw [ho _ (by omega)]; simpa [ub] using (s3 k hk).2.2.1
  · rw [b2] at hk; rw [ho _ (by omega)]; simpa [ub] using (s3 k hk).2.2.2
  · rw [ho _ (by omega)]; simpa [ub] using s4
  · rw [ho _ (by omega)]; simpa [ub] using s5
  · rw [ho _ (by omega)]; simpa [ub] using s6

theorem SN_12 {s s' : Nat → Int32} {B : Bs} {i v : Nat} (h : SN s B) (hn : B 1 0 ≤ 6) (hm : B 2 0 ≤ 4) (hi : i < 4) (hs : s' (27 + i) = nI v) (ho : ∀ m, m ≠ 27 + i → s' m = s m) : SN s' (ub B 12 i v) := by
  obtain ⟨s0, s1, s2, s3, s4, s5, s6⟩ := h
  have b1 : ub B 12 i v 1 0 = B 1 0 := by simp [ub]
  have b2 : ub B 12 i v 2 0 = B 2 0 := by simp [ub]
  refine ⟨fun x hx => ?_, ?_, fun c hc => ⟨?_, ?_, ?_⟩, fun k hk => ⟨?_, ?_, ?_, ?_⟩, ?_, ?_, ?_⟩
  · rw [ho _ (by omega)]; simpa [ub] using s0 x hx
  · rw [ho _ (by omega)]; simpa [ub] using s1
  · rw [b1] at hc; rw [ho _ (by omega)]; simpa [ub] using (s2 c hc).1
  · rw [b1] at hc; rw [ho _ (by omega)]; simpa [ub] using (s2 c hc).2.1
  · rw [b1] at hc; rw [ho _ (by omega)]; simpa [ub] using (s2 c hc).2.2
  · rw [b2] at hk
    by_cases e : k = i
    · subst e; rw [hs]; simp [ub]
    · rw [ho _ (by omega)]; simpa [ub, e] using (s3 k hk).1
  · rw [b2] at hk; rw [ho _ (by omega)]; simpa [ub] using (s3 k hk).2.1
  · rw [b2] at hk; rw [ho _ (by omega)]; simpa [ub] using (s3 k hk).2.2.1
  · rw [b2] at hk; rw [ho _ (by omega)]; simpa [ub] using (s3 k hk).2.2.2
  · rw [ho _ (by omega)]; simpa [ub] using s4
  · rw [ho _ (by omega)]; simpa [ub] using s5
  · rw [ho _ (by omega)]; simpa [ub] using s6

theorem SN_13 {s s' : Nat → Int32} {B : Bs} {i v : Nat} (h : SN s B) (hn : B 1 0 ≤ 6) (hm : B 2 0 ≤ 4) (hi : i < 4) (hs : s' (31 + i) = nI v) (ho : ∀ m, m ≠ 31 + i → s' m = s m) : SN s' (ub B 13 i v) := by
  obtain ⟨s0, s1, s2, s3, s4, s5, s6⟩ := h
  have b1 : ub B 13 i v 1 0 = B 1 0 := by simp [ub]
  have b2 : ub B 13 i v 2 0 = B 2 0 := by simp [ub]
  refine ⟨fun x hx => ?_, ?_, fun c hc => ⟨?_, ?_, ?_⟩, fun k hk => ⟨?_, ?_, ?_, ?_⟩, ?_, ?_, ?_⟩
  · rw [ho _ (by omega)]; simpa [ub] using s0 x hx
  · rw [ho _ (by omega)]; simpa [ub] using s1
  · rw [b1] at hc; rw [ho _ (by omega)]; simpa [ub] using (s2 c hc).1
  · rw [b1] at hc; rw [ho _ (by omega)]; simpa [ub] using (s2 c hc).2.1
  · rw [b1] at hc; rw [ho _ (by omega)]; simpa [ub] using (s2 c hc).2.2
  · rw [b2] at hk; rw [ho _ (by omega)]; simpa [ub] using (s3 k hk).1
  · rw [b2] at hk
    by_cases e : k = i
    · subst e; rw [hs]; simp [ub]
    · rw [ho _ (by omega)]; simpa [ub, e] using (s3 k hk).2.1
  · rw [b2] at hk; rw [ho _ (by omega)]; simpa [ub] using (s3 k hk).2.2.1
  · rw [b2] at hk; rw [ho _ (by omega)]; simpa [ub] using (s3 k hk).2.2.2
  · rw [ho _ (by omega)]; simpa [ub] using s4
  · rw [ho _ (by omega)]; simpa [ub] using s5
  · rw [ho _ (by omega)]; simpa [ub] using s6

theorem SN_14 {s s' : Nat → Int32} {B : Bs} {i v : Nat} (h : SN s B) (hn : B 1 0 ≤ 6) (hm : B 2 0 ≤ 4) (hi : i < 4) (hs : s' (35 + i) = nI v) (ho : ∀ m, m ≠ 35 + i → s' m = s m) : SN s' (ub B 14 i v) := by
  obtain ⟨s0, s1, s2, s3, s4, s5, s6⟩ := h
  have b1 : ub B 14 i v 1 0 = B 1 0 := by simp [ub]
  have b2 : ub B 14 i v 2 0 = B 2 0 := by simp [ub]
  refine ⟨fun x hx => ?_, ?_, fun c hc => ⟨?_, ?_, ?_⟩, fun k hk => ⟨?_, ?_, ?_, ?_⟩, ?_, ?_, ?_⟩
  · rw [ho _ (by omega)]; simpa [ub] using s0 x hx
  · rw [ho _ (by omega)]; simpa [ub] using s1
  · rw [b1] at hc; rw [ho _ (by omega)]; simpa [ub] using (s2 c hc).1
  · rw [b1] at hc; rw [ho _ (by omega)]; simpa [ub] using (s2 c hc).2.1
  · rw [b1] at hc; rw [ho _ (by omega)]; simpa [ub] using (s2 c hc).2.2
  · rw [b2] at hk; rw [ho _ (by omega)]; simpa [ub] using (s3 k hk).1
  · rw [b2] at hk; rw [ho _ (by omega)]; simpa [ub] using (s3 k hk).2.1
  · rw [b2] at hk
    by_cases e : k = i
    · subst e; rw [hs]; simp [ub]
    · rw [ho _ (by omega)]; simpa [ub, e] using (s3 k hk).2.2.1
  · rw [b2] at hk; rw [ho _ (by omega)]; simpa [ub] using (s3 k hk).2.2.2
  · rw [ho _ (by omega)]; simpa [ub] using s4
  · rw [ho _ (by omega)]; simpa [ub] using s5
  · rw [ho _ (by omega)]; simpa [ub] using s6

theorem SN_15 {s s' : Nat → Int32} {B : Bs} {i v : Nat} (h : SN s B) (hn : B 1 0 ≤ 6) (hm : B 2 0 ≤ 4) (hi : i < 4) (hs : s' (39 + i) = nI v) (ho : ∀ m, m ≠ 39 + i → s' m = s m) : SN s' (ub B 15 i v) := by
  obtain ⟨s0, s1, s2, s3, s4, s5, s6⟩ := h
  have b1 : ub B 15 i v 1 0 = B 1 0 := by simp [ub]
  have b2 : ub B 15 i v 2 0 = B 2 0 := by simp [ub]
  refine ⟨fun x hx => ?_, ?_, fun c hc => ⟨?_, ?_, ?_⟩, fun k hk => ⟨?_, ?_, ?_, ?_⟩, ?_, ?_, ?_⟩
  · rw [ho _ (by omega)]; simpa [ub] using s0 x hx
  · rw [ho _ (by omega)]; simpa [ub] using s1
  · rw [b1] at hc; rw [ho _ (by omega)]; simpa [ub] using (s2 c hc).1
  · rw [b1] at hc; rw [ho _ (by omega)]; simpa [ub] using (s2 c hc).2.1
  · rw [b1] at hc; rw [ho _ (by omega)]; simpa [ub] using (s2 c hc).2.2
  · rw [b2] at hk; rw [ho _ (by omega)]; simpa [ub] using (s3 k hk).1
  · rw [b2] at hk; rw [ho _ (by omega)]; simpa [ub] using (s3 k hk).2.1
  · rw [b2] at hk; rw [ho _ (by omega)]; simpa [ub] using (s3 k hk).2.2.1
  · rw [b2] at hk
    by_cases e : k = i
    · subst e; rw [hs]; simp [ub]
    · rw [ho _ (by omega)]; simpa [ub, e] using (s3 k hk).2.2.2
  · rw [ho _ (by omega)]; simpa [ub] using s4
  · rw [ho _ (by omega)]; simpa [ub] using s5
  · rw [ho _ (by omega)]; simpa [ub] using s6

theorem WF_3 {B : Bs} {S v : Nat} (hW : WF S B) (hv : v ≤ 9) : WF S (ub B 3 0 v) := by
  obtain ⟨hW0, hW1, hW2, hW3, hW4, hW5, hW6, hW7, hW8, hW9, hW10, hW11, hW12⟩ := hW
  refine ⟨by simpa [ub] using hW0, by simpa [ub] using hW1, by simpa [ub] using hW2, ?_, by simpa [ub] using hW4, by simpa [ub] using hW5, by simpa [ub] using hW6, by simpa [ub] using hW7, by simpa [ub] using hW8, by simpa [ub] using hW9, by simpa [ub, wok] using hW10, by simpa [ub] using hW11, by simpa [ub] using hW12⟩
  simpa [ub] using hv

theorem WF_4 {B : Bs} {S v : Nat} (hW : WF S B) (hv : v ≤ 8) : WF S (ub B 4 0 v) := by
  obtain ⟨hW0, hW1, hW2, hW3, hW4, hW5, hW6, hW7, hW8, hW9, hW10, hW11, hW12⟩ := hW
  refine ⟨by simpa [ub] using hW0, by simpa [ub] using hW1, by simpa [ub] using hW2, by simpa [ub] using hW3, ?_, by simpa [ub] using hW5, by simpa [ub] using hW6, by simpa [ub] using hW7, by simpa [ub] using hW8, by simpa [ub] using hW9, by simpa [ub, wok] using hW10, by simpa [ub] using hW11, by simpa [ub] using hW12⟩
  simpa [ub] using hv

theorem WF_5 {B : Bs} {S v : Nat} (hW : WF S B) (hv : v ≤ S) : WF S (ub B 5 0 v) := by
  obtain ⟨hW0, hW1, hW2, hW3, hW4, hW5, hW6, hW7, hW8, hW9, hW10, hW11, hW12⟩ := hW
  refine ⟨by simpa [ub] using hW0, by simpa [ub] using hW1, by simpa [ub] using hW2, by simpa [ub] using hW3, by simpa [ub] using hW4, ?_, by simpa [ub] using hW6, by simpa [ub] using hW7, by simpa [ub] using hW8, by simpa [ub] using hW9, by simpa [ub, wok] using hW10, by simpa [ub] using hW11, by simpa [ub] using hW12⟩
  simpa [ub] using hv

theorem WF_7 {B : Bs} {S i v : Nat} (hW : WF S B) (hv : v ≤ 9) : WF S (ub B 7 i v) := by
  obtain ⟨hW0, hW1, hW2, hW3, hW4, hW5, hW6, hW7, hW8, hW9, hW10, hW11, hW12⟩ := hW
  refine ⟨by simpa [ub] using hW0, by simpa [ub] using hW1, by simpa [ub] using hW2, by simpa [ub] using hW3, by simpa [ub] using hW4, by simpa [ub] using hW5, by simpa [ub] using hW6, ?_, by simpa [ub] using hW8, by simpa [ub] using hW9, by simpa [ub, wok] using hW10, by simpa [ub] using hW11, by simpa [ub] using hW12⟩
  intro x hx
  by_cases e : x = i
  · simpa [ub, e] using hv
  · simpa [ub, e] using hW7 x hx

theorem WF_10 {B : Bs} {S i v : Nat} (hW : WF S B) (hv : v ≤ 1) : WF S (ub B 10 i v) := by
  obtain ⟨hW0, hW1, hW2, hW3, hW4, hW5, hW6, hW7, hW8, hW9, hW10, hW11, hW12⟩ := hW
  refine ⟨by simpa [ub] using hW0, by simpa [ub] using hW1, by simpa [ub] using hW2, by simpa [ub] using hW3, by simpa [ub] using hW4, by simpa [ub] using hW5, by simpa [ub] using hW6, by simpa [ub] using hW7, by simpa [ub] using hW8, by simpa [ub] using hW9, ?_, by simpa [ub] using hW11, by simpa [ub] using hW12⟩
  intro c hc
  have := hW10 c (by simpa [ub] using hc)
  refine ⟨by simpa [ub] using this.1, ?_, by simpa [ub, wok] using this.2.2⟩
  by_cases e : c = i
  · simpa [ub, e] using hv
  · simpa [ub, e] using this.2.1

theorem WF_12 {B : Bs} {S i v : Nat} (hW : WF S B) (hv : 1 ≤ v ∧ v ≤ 9) : WF S (ub B 12 i v) := by
  obtain ⟨hW0, hW1, hW2, hW3, hW4, hW5, hW6, hW7, hW8, hW9, hW10, hW11, hW12⟩ := hW
  refine ⟨by simpa [ub] using hW0, by simpa [ub] using hW1, by simpa [ub] using hW2, by simpa [ub] using hW3, by simpa [ub] using hW4, by simpa [ub] using hW5, by simpa [ub] using hW6, by simpa [ub] using hW7, by simpa [ub] using hW8, by simpa [ub] using hW9, by simpa [ub, wok] using hW10, by simpa [ub] using hW11, ?_⟩
  intro k hk
  have := hW12 k (by simpa [ub] using hk)
  refine ⟨?_, by simpa [ub] using this.2.1, by simpa [ub] using this.2.2.1, by simpa [ub] using this.2.2.2⟩
  by_cases e : k = i
  · simpa [ub, e] using hv
  · simpa [ub, e] using this.1

theorem WF_13 {B : Bs} {S i v : Nat} (hW : WF S B) (hv : 1 ≤ v ∧ v ≤ 9) : WF S (ub B 13 i v) := by
  obtain ⟨hW0, hW1, hW2, hW3, hW4, hW5, hW6, hW7, hW8, hW9, hW10, hW11, hW12⟩ := hW
  refine ⟨by simpa [ub] using hW0, by simpa [ub] using hW1, by simpa [ub] using hW2, by simpa [ub] using hW3, by simpa [ub] using hW4, by simpa [ub] using hW5, by simpa [ub] using hW6, by simpa [ub] using hW7, by simpa [ub] using hW8, by simpa [ub] using hW9, by simpa [ub, wok] using hW10, by simpa [ub] using hW11, ?_⟩
  intro k hk
  have := hW12 k (by simpa [ub] using hk)
  refine ⟨by simpa [ub] using this.1, ?_, by simpa [ub] using this.2.2.1, by simpa [ub] using this.2.2.2⟩
  by_cases e : k = i
  · simpa [ub, e] using hv
  · simpa [ub, e] using this.2.1

theorem WF_14 {B : Bs} {S i v : Nat} (hW : WF S B) (hv : v ≤ 1) : WF S (ub B 14 i v) := by
  obtain ⟨hW0, hW1, hW2, hW3, hW4, hW5, hW6, hW7, hW8, hW9, hW10, hW11, hW12⟩ := hW
  refine ⟨by simpa [ub] using hW0, by simpa [ub] using hW1, by simpa [ub] using hW2, by simpa [ub] using hW3, by simpa [ub] using hW4, by simpa [ub] using hW5, by simpa [ub] using hW6, by simpa [ub] using hW7, by simpa [ub] using hW8, by simpa [ub] using hW9, by simpa [ub, wok] using hW10, by simpa [ub] using hW11, ?_⟩
  intro k hk
  have := hW12 k (by simpa [ub] using hk)
  refine ⟨by simpa [ub] using this.1, by simpa [ub] using this.2.1, ?_, by simpa [ub] using this.2.2.2⟩
  by_cases e : k = i
  · simpa [ub, e] using hv
  · simpa [ub, e] using this.2.2.1

theorem hd_congr {B B' : Bs} {k : Nat} (h1 : B' 1 0 = B 1 0) (h11 : ∀ c, c < B 1 0 → B' 11 c = B 11 c) : hd B' k = hd B k := by
  unfold hd
  rw [h1]
  exact ff_congr (fun c hc => by rw [h11 c hc])
theorem HL_up {h : Mem} {o : Nat} {B B' : Bs} {k j i : Nat} {v : Int32} (hH : HL h o B) (hk : ¬ (k = 7 ∧ j = 4)) (h1 : B' 1 0 = B 1 0) (h2 : B' 2 0 = B 2 0) (h11 : ∀ c, c < B 1 0 → B' 11 c = B 11 c) : HL (up h k j o i v) o B' := by
  intro k' hk'
  rw [hd_congr h1 h11, up_o (by omega)]
  exact hH k' (by omega)
theorem NO_ub {B : Bs} {f i v : Nat} (hO : NO B) (hf : f ≠ 2 ∧ f ≠ 6 ∧ f ≠ 8) : NO (ub B f i v) := by
  obtain ⟨h1, h2⟩ := hO
  obtain ⟨f2, f6, f8⟩ := hf
  have e2 : ub B f i v 2 0 = B 2 0 := by unfold ub; rw [if_neg (by omega)]
  have e6 : ub B f i v 6 0 = B 6 0 := by unfold ub; rw [if_neg (by omega)]
  refine ⟨by rw [e2, e6]; exact h1, fun x hx => ?_⟩
  rw [e2] at hx
  have e8 : ub B f i v 8 x = B 8 x := by unfold ub; rw [if_neg (by omega)]
  rw [e8]; exact h2 x hx
-- sights: 0 how many, 1 step, 2 coin, 3 where, 4 is it so
def CSg (h : Mem) (o : Nat) (T : Bs) : Prop := h 8 0 o 0 = nI (T 0 0) ∧ ∀ i, i < T 0 0 → h 9 0 o i = nI (T 1 i) ∧ h 10 0 o i = nI (T 2 i) ∧ h 11 0 o i = nI (T 3 i) ∧ h 12 0 o i = nI (T 4 i)
def TN (s : Nat → Int32) (T : Bs) : Prop := s 46 = nI (T 0 0) ∧ ∀ i, i < T 0 0 → s (47 + 4 * i) = nI (T 1 i) ∧ s (47 + 4 * i + 1) = nI (T 2 i) ∧ s (47 + 4 * i + 2) = nI (T 3 i) ∧ s (47 + 4 * i + 3) = nI (T 4 i)
def WT (B T : Bs) : Prop := T 0 0 ≤ 8 ∧ ∀ i, i < T 0 0 → T 1 i ≤ 20 ∧ T 2 i < B 1 0 ∧ T 3 i ≤ 30 ∧ T 4 i ≤ 1
def KN (h : Mem) (B T : Bs) : Prop := CB0 h 0 B ∧ HL h 0 B ∧ CSg h 0 T
def RN (h : Mem) (B T : Bs) : Prop := MN h B ∧ TN (h 25 0 0) T
def WN (B T : Bs) : Prop := WF 999 B ∧ NO B ∧ WT B T
/-- image k, on both sides -/
def IM (h : Mem) (k : Nat) : Prop := ∃ b : Bool, h 20 0 k 0 = b2i b ∧ h 26 0 0 k = b2i b ∧ (b = true → ∃ B T : Bs, CB0 h (k + 3) B ∧ HL h (k + 3) B ∧ CSg h (k + 1) T ∧ SN (fun i => h 25 0 0 (79 * (k + 1) + i)) B ∧ TN (fun i => h 25 0 0 (79 * (k + 1) + i)) T ∧ WN B T ∧ h 24 2 0 0 = nI (B 0 0) ∧ h 24 3 0 0 = nI (B 2 0))
/-- sheet k, on both sides -/
def SH (h : Mem) (k : Nat) : Prop := ∃ l : Option Nat, h 22 1 k 0 = on (nn 1) l ∧ h 40 0 0 k = on (nn 4) l ∧ (∀ v, l = some v → v ≤ 2 ∧ ∃ n, n ≤ 40 ∧ h 22 2 k 0 = nI n ∧ h 41 0 0 k = nI n) ∧ ∀ i, i < 40 → h 23 0 k i = h 42 0 0 (40 * k + i)
/-- what a byte of the tape is in the class -/
def sby (u : Nat) : Int32 := if u < 128 then nI u else nn (256 - u)
def TP (h : Mem) : Prop := ∃ (t : Nat) (u : Nat → Nat), t ≤ 320 ∧ h 17 1 0 0 = nI t ∧ h 24 10 0 0 = nI t ∧ ∀ i, i < t → u i < 256 ∧ h 28 0 0 i = nI (u i) ∧ h 18 0 0 i = sby (u i)
def TR (h : Mem) : Prop := h 0 8 0 0 = h 24 33 0 0 ∧ h 16 2 0 0 = h 24 15 0 0
def RST (h : Mem) : Prop := (∀ k, k < 2 → IM h k) ∧ (∀ k, k < 4 → SH h k) ∧ TP h ∧ TR h
def RI (h : Mem) : Prop := ∃ B T : Bs, KN h B T ∧ RN h B T ∧ WN B T ∧ RST h
/-- what RST reads -/
def rst (k j o i : Nat) : Prop := k = 0 ∨ (1 ≤ k ∧ k ≤ 7 ∧ 3 ≤ o) ∨ (8 ≤ k ∧ k ≤ 12 ∧ 1 ≤ o) ∨ (k = 16 ∧ j = 2) ∨ (17 ≤ k ∧ k ≤ 23) ∨ (k = 24 ∧ (j = 2 ∨ j = 3 ∨ j = 10 ∨ j = 15 ∨ j = 33)) ∨ (k = 25 ∧ 79 ≤ i) ∨ k = 26 ∨ k = 28 ∨ 40 ≤ k
def FR (h h' : Mem) : Prop := ∀ k j o i, rst k j o i → h' k j o i = h k j o i
/-- what RI reads -/
def rsa (k j o i : Nat) : Prop := k = 0 ∨ (1 ≤ k ∧ k ≤ 7 ∧ o ≠ 1 ∧ o ≠ 2) ∨ (8 ≤ k ∧ k ≤ 12) ∨ (k = 16 ∧ j = 2) ∨ (17 ≤ k ∧ k ≤ 23) ∨ (k = 24 ∧ (j = 2 ∨ j = 3 ∨ j = 10 ∨ j = 15 ∨ j = 33)) ∨ k = 25 ∨ k = 26 ∨ k = 28 ∨ 40 ≤ k
def FRA (h h' : Mem) : Prop := ∀ k j o i, rsa k j o i → h' k j o i = h k j o i
theorem FR.rf {h : Mem} : FR h h := fun _ _ _ _ _ => rfl
theorem FR.tr {h h' h'' : Mem} (h1 : FR h h') (h2 : FR h' h'') : FR h h'' := fun k j o i h => (h2 k j o i h).trans (h1 k j o i h)
theorem FR.up {h : Mem} {k j o i : Nat} {v : Int32} (hn : ¬ rst k j o i) : FR h (up h k j o i v) := fun k' j' o' i' hr => up_o (fun e => by obtain ⟨rfl, rfl, rfl, rfl⟩ := e; exact hn hr)
theorem FRA.rf {h : Mem} : FRA h h := fun _ _ _ _ _ => rfl
theorem FRA.tr {h h' h'' : Mem} (h1 : FRA h h') (h2 : FRA h' h'') : FRA h h'' := fun k j o i h => (h2 k j o i h).trans (h1 k j o i h)
theorem FRA.up {h : Mem} {k j o i : Nat} {v : Int32} (hn : ¬ rsa k j o i) : FRA h (up h k j o i v) := fun k' j' o' i' hr => up_o (fun e => by obtain ⟨rfl, rfl, rfl, rfl⟩ := e; exact hn hr)
theorem FRA.fr {h h' : Mem} (hF : FRA h h') : FR h h' := fun k j o i hr => hF k j o i (by unfold rst at hr; unfold rsa; omega)
theorem FrO.fra {h h' : Mem} {o : Nat} (hF : FrO h h' o) (ho : o = 1 ∨ o = 2) : FRA h h' := fun k j o' i hr => hF k j o' i (by unfold rsa at hr; omega)
theorem FrO.fr {h h' : Mem} {o : Nat} (hF : FrO h h' o) (ho : o = 0 ∨ o = 1 ∨ o = 2) : FR h h' := fun k j o' i hr => hF k j o' i (by unfold rst at hr; omega)
theorem FrM.fra {h h' : Mem} (hF : FrM h h') : FRA h h' := fun k j o' i hr => hF k j o' i (by unfold rsa at hr; omega)
theorem CB0_fr {h h' : Mem} {o : Nat} {B : Bs} (hC : CB0 h o B) (hF : ∀ k j i, 1 ≤ k → k ≤ 7 → h' k j o i = h k j o i) : CB0 h' o B := by
  obtain ⟨hM0, hM1, hM2, hM3, hM4, hM5, hM6, hM7, hM8, hM9, hM10⟩ := hC
  refine ⟨?_, ?_, ?_, ?_, ?_, ?_, ?_, fun x hx => ?_, fun i hi => ?_, fun c hc => ⟨?_, ?_, ?_⟩, fun k hk => ⟨?_, ?_, ?_, ?_⟩⟩
  all_goals rw [hF _ _ _ (by decide) (by decide)]
  · exact hM0
  · exact hM1
  · exact hM2
  · exact hM3
  · exact hM4
  · exact hM5
  · exact hM6
  · exact hM7 x hx
  · exact hM8 i hi
  · exact (hM9 c hc).1
  · exact (hM9 c hc).2.1
  · exact (hM9 c hc).2.2
  · exact (hM10 k hk).1
  · exact (hM10 k hk).2.1
  · exact (hM10 k hk).2.2.1
  · exact (hM10 k hk).2.2.2
theorem HL_fr {h h' : Mem} {o : Nat} {B : Bs} (hC : HL h o B) (hF : ∀ k j i, 1 ≤ k → k ≤ 7 → h' k j o i = h k j o i) : HL h' o B := fun k hk => (hF _ _ _ (by decide) (by decide)).trans (hC k hk)
theorem CSg_fr {h h' : Mem} {o : Nat} {T : Bs} (hC : CSg h o T) (hF : ∀ k j i, 8 ≤ k → k ≤ 12 → h' k j o i = h k j o i) : CSg h' o T := by
  refine ⟨(hF _ _ _ (by decide) (by decide)).trans hC.1, fun i hi => ?_⟩
  have := hC.2 i hi
  refine ⟨?_, ?_, ?_, ?_⟩
  all_goals rw [hF _ _ _ (by decide) (by decide)]
  · exact this.1
  · exact this.2.1
  · exact this.2.2.1
  · exact this.2.2.2
theorem SN_fr {s s' : Nat → Int32} {B : Bs} (hn : B 1 0 ≤ 6) (hm : B 2 0 ≤ 4) (h : SN s B) (hF : ∀ i, i < 46 → s' i = s i) : SN s' B := by
  obtain ⟨s0, s1, s2, s3, s4, s5, s6⟩ := h
  refine ⟨fun x hx => ?_, ?_, fun c hc => ⟨?_, ?_, ?_⟩, fun k hk => ⟨?_, ?_, ?_, ?_⟩, ?_, ?_, ?_⟩
  all_goals rw [hF _ (by omega)]
  · exact s0 x hx
  · exact s1
  · exact (s2 c hc).1
  · exact (s2 c hc).2.1
  · exact (s2 c hc).2.2
  · exact (s3 k hk).1
  · exact (s3 k hk).2.1
  · exact (s3 k hk).2.2.1
  · exact (s3 k hk).2.2.2
  · exact s4
  · exact s5
  · exact s6
theorem TN_fr {s s' : Nat → Int32} {T : Bs} (hn : T 0 0 ≤ 8) (h : TN s T) (hF : ∀ i, 46 ≤ i → i < 79 → s' i = s i) : TN s' T := by
  refine ⟨(hF _ (by decide) (by decide)).trans h.1, fun i hi => ?_⟩
  have := h.2 i hi
  refine ⟨?_, ?_, ?_, ?_⟩
  all_goals rw [hF _ (by omega) (by omega)]
  · exact this.1
  · exact this.2.1
  · exact this.2.2.1
  · exact this.2.2.2
theorem IM_fr {h h' : Mem} {k : Nat} (hk : k < 2) (hI : IM h k) (hF : ∀ k' j o i, ((1 ≤ k' ∧ k' ≤ 7 ∧ o = k + 3) ∨ (8 ≤ k' ∧ k' ≤ 12 ∧ o = k + 1) ∨ (k' = 20 ∧ o = k) ∨ (k' = 24 ∧ (j = 2 ∨ j = 3)) ∨ (k' = 25 ∧ 79 * (k + 1) ≤ i ∧ i < 79 * (k + 1) + 79) ∨ (k' = 26 ∧ i = k)) → h' k' j o i = h k' j o i) : IM h' k := by
  obtain ⟨b, h1, h2, h3⟩ := hI
  refine ⟨b, (hF _ _ _ _ (by omega)).trans h1, (hF _ _ _ _ (by omega)).trans h2, fun hb => ?_⟩
  obtain ⟨B, T, c1, c2, c3, c4, c5, c6, c7, c8⟩ := h3 hb
  refine ⟨B, T, CB0_fr c1 (fun k' j i a b => hF _ _ _ _ (by omega)), HL_fr c2 (fun k' j i a b => hF _ _ _ _ (by omega)), CSg_fr c3 (fun k' j i a b => hF _ _ _ _ (by omega)), SN_fr c6.1.2.1 c6.1.2.2.1 c4 (fun i hi => hF _ _ _ _ (by omega)), TN_fr c6.2.2.1 c5 (fun i h1 h2 => hF _ _ _ _ (by omega)), c6, (hF _ _ _ _ (by omega)).trans c7, (hF _ _ _ _ (by omega)).trans c8⟩
theorem SH_fr {h h' : Mem} {k : Nat} (hk : k < 4) (hS : SH h k) (hF : ∀ k' j o i, ((k' = 22 ∧ o = k) ∨ (k' = 23 ∧ o = k) ∨ ((k' = 40 ∨ k' = 41) ∧ i = k) ∨ (k' = 42 ∧ 40 * k ≤ i ∧ i < 40 * k + 40)) → h' k' j o i = h k' j o i) : SH h' k := by
  obtain ⟨l, h1, h2, h3, h4⟩ := hS
  refine ⟨l, (hF _ _ _ _ (by omega)).trans h1, (hF _ _ _ _ (by omega)).trans h2, fun v hv => ?_, fun i hi => ?_⟩
  · obtain ⟨a, n, a1, a2, a3⟩ := h3 v hv
    exact ⟨a, n, a1, (hF _ _ _ _ (by omega)).trans a2, (hF _ _ _ _ (by omega)).trans a3⟩
  · rw [hF 23 _ _ _ (by omega), hF 42 _ _ _ (by omega)]; exact h4 i hi
theorem TP_fr {h h' : Mem} (hT : TP h) (hF : ∀ k j o i, (k = 17 ∨ k = 18 ∨ k = 28 ∨ (k = 24 ∧ j = 10)) → h' k j o i = h k j o i) : TP h' := by
  obtain ⟨t, u, h1, h2, h3, h4⟩ := hT
  refine ⟨t, u, h1, (hF _ _ _ _ (by omega)).trans h2, (hF _ _ _ _ (by omega)).trans h3, fun i hi => ?_⟩
  have := h4 i hi
  exact ⟨this.1, (hF _ _ _ _ (by omega)).trans this.2.1, (hF _ _ _ _ (by omega)).trans this.2.2⟩
theorem TR_fr {h h' : Mem} (hT : TR h) (hF : ∀ k j o i, (k = 0 ∨ (k = 16 ∧ j = 2) ∨ (k = 24 ∧ (j = 33 ∨ j = 15))) → h' k j o i = h k j o i) : TR h' := by
  obtain ⟨h1, h2⟩ := hT
  refine ⟨?_, ?_⟩
  · rw [hF 0 _ _ _ (by omega), hF 24 _ _ _ (by omega)]; exact h1
  · rw [hF 16 _ _ _ (by omega), hF 24 _ _ _ (by omega)]; exact h2
theorem RST_fr {h h' : Mem} (hR : RST h) (hF : FR h h') : RST h' := by
  obtain ⟨h1, h2, h3, h4⟩ := hR
  refine ⟨fun k hk => IM_fr hk (h1 k hk) (fun k' j o i hh => hF _ _ _ _ (by unfold rst; omega)), fun k hk => SH_fr hk (h2 k hk) (fun k' j o i hh => hF _ _ _ _ (by unfold rst; omega)), TP_fr h3 (fun k' j o i hh => hF _ _ _ _ (by unfold rst; omega)), TR_fr h4 (fun k' j o i hh => hF _ _ _ _ (by unfold rst; omega))⟩
theorem KN_fra {h h' : Mem} {B T : Bs} (hC : KN h B T) (hF : FRA h h') : KN h' B T :=
  ⟨CB0_fr hC.1 (fun k' j i a b => hF _ _ _ _ (by unfold rsa; omega)), HL_fr hC.2.1 (fun k' j i a b => hF _ _ _ _ (by unfold rsa; omega)), CSg_fr hC.2.2 (fun k' j i a b => hF _ _ _ _ (by unfold rsa; omega))⟩
theorem RN_fra {h h' : Mem} {B T : Bs} (hC : RN h B T) (hW : WN B T) (hF : FRA h h') : RN h' B T :=
  ⟨⟨SN_fr hW.1.2.1 hW.1.2.2.1 hC.1.1 (fun i hi => hF _ _ _ _ (by unfold rsa; omega)), (hF _ _ _ _ (by unfold rsa; omega)).trans hC.1.2.1, (hF _ _ _ _ (by unfold rsa; omega)).trans hC.1.2.2⟩, TN_fr hW.2.2.1 hC.2 (fun i h1 h2 => hF _ _ _ _ (by unfold rsa; omega))⟩
theorem RI_fra {h h' : Mem} (hR : RI h) (hF : FRA h h') : RI h' := by
  obtain ⟨B, T, h1, h2, h3, h4⟩ := hR
  exact ⟨B, T, KN_fra h1 hF, RN_fra h2 h3 hF, h3, RST_fr h4 hF.fr⟩
