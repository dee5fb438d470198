/-! RUNS: what both programs hold in a step of theirs, and the step. My own text. -/
def gh (c nx h : Nat) : Nat := if nx < c then h else h - 1
def gn (c nx : Nat) : Nat := if nx < c then nx + 1 else nx
def gr (c nx h : Nat) (hr : Nat → Nat) (b : Nat) : Nat → Nat := if nx < c then ups hr b nx else ups hr b (hr (h - 1))
def gm (bn : Bool) (rn : Nat) : Nat := if bn then rn + 1 else rn
def gb (bn : Bool) (rn i : Nat) (bg : Nat → Nat) : Nat → Nat := if bn then ups bg rn i else bg
def RJ (c rm h nx i rn : Nat) (lst : Option Nat) (hr bg ord : Nat → Nat) : Prop :=
  i + h = nx ∧ nx ≤ c ∧ h ≤ rm ∧ (nx < c → h = rm) ∧ rn ≤ i ∧ (∀ k, k < h → hr k < nx) ∧ (∀ a b, a < h → b < h → hr a = hr b → a = b) ∧ (∀ j, j < i → ord j < nx) ∧ (∀ a b, a < i → b < i → ord a = ord b → a = b) ∧ (∀ j k, j < i → k < h → ord j ≠ hr k) ∧
  (∀ l, lst = some l → 0 < i ∧ l = ord (i - 1)) ∧ (0 < i → 0 < rn) ∧ (0 < rn → bg 0 = 0) ∧ (∀ r, r + 1 < rn → bg r < bg (r + 1)) ∧ (0 < rn → bg (rn - 1) < i)
theorem RJ.step {c rm h nx i rn b : Nat} {lst : Option Nat} {hr bg ord P : Nat → Nat} {bn : Bool} (J : RJ c rm h nx i rn lst hr bg ord) (hrm : 0 < rm) (hi : i < c) (hn : nextB P lst hr h b bn) : RJ c rm (gh c nx h) (gn c nx) (i + 1) (gm bn rn) (some (hr b)) (gr c nx h hr b) (gb bn rn i bg) (ups ord i (hr b)) := by
  obtain ⟨j1, j2, j3, j4, j5, j6, j7, j8, j9, j10, j11, j12, j13, j14, j15⟩ := J
  have hb := hn.1
  have hbx := j6 b hb
  have o9 : ∀ a b', a < i + 1 → b' < i + 1 → ups ord i (hr b) a = ups ord i (hr b) b' → a = b' := by
    intro a b' ha hb' e
    by_cases q : a = i <;> by_cases q2 : b' = i
    · omega
    · rw [q, ups_s, ups_n ord q2] at e
      exact absurd e.symm (j10 b' b (by omega) hb)
    · rw [q2, ups_s, ups_n ord q] at e
      exact absurd e (j10 a b (by omega) hb)
    · rw [ups_n ord q, ups_n ord q2] at e
      exact j9 a b' (by omega) (by omega) e
  have o11 : ∀ l, some (hr b) = some l → 0 < i + 1 ∧ l = ups ord i (hr b) (i + 1 - 1) := by
    intro l e
    cases e
    exact ⟨by omega, by rw [Nat.add_sub_cancel, ups_s]⟩
  have o12 : 0 < i + 1 → 0 < gm bn rn := by
    intro _
    unfold gm
    cases bn with
    | true => simp
    | false =>
      obtain ⟨l, e1, -⟩ := hn.2.1 rfl
      have := j12 (j11 l e1).1
      simpa using this
  have o5 : gm bn rn ≤ i + 1 := by unfold gm; split <;> omega
  have o13 : 0 < gm bn rn → gb bn rn i bg 0 = 0 := by
    intro _
    unfold gb
    cases bn with
    | true =>
      simp only [if_true]
      by_cases q : rn = 0
      · have : i = 0 := by
          rcases Nat.eq_zero_or_pos i with z | z
          · exact z
          · have := j12 z; omega
        rw [q, this, ups_s]
      · rw [ups_n bg (by omega)]
        exact j13 (by omega)
    | false =>
      simp only [Bool.false_eq_true, if_false]
      obtain ⟨l, e1, -⟩ := hn.2.1 rfl
      exact j13 (j12 (j11 l e1).1)
  have o14 : ∀ r, r + 1 < gm bn rn → gb bn rn i bg r < gb bn rn i bg (r + 1) := by
    intro r hr1
    unfold gm at hr1
    unfold gb
    cases bn with
    | true =>
      simp only [if_true] at hr1 ⊢
      rw [ups_n bg (show r ≠ rn by omega)]
      by_cases q : r + 1 = rn
      · rw [q, ups_s]
        have := j15 (by omega)
        rw [← q, Nat.add_sub_cancel] at this
        exact this
      · rw [ups_n bg q]
        exact j14 r (by omega)
    | false =>
      simp only [Bool.false_eq_true, if_false] at hr1 ⊢
      exact j14 r hr1
  have o15 : 0 < gm bn rn → gb bn rn i bg (gm bn rn - 1) < i + 1 := by
    intro q
    unfold gb gm
    unfold gm at q
    cases bn with
    | true =>
      simp only [if_true, Nat.add_sub_cancel]
      rw [ups_s]
      omega
    | false =>
      simp only [Bool.false_eq_true, if_false] at q ⊢
      have := j15 q
      omega
  by_cases hnx : nx < c
  · unfold gh gn gr
    simp only [hnx, if_true]
    refine ⟨by omega, by omega, j3, fun _ => j4 hnx, o5, fun k hk => ?_, fun a b' ha hb' e => ?_, fun j hj => ?_, o9, fun j k hj hk => ?_, o11, o12, o13, o14, o15⟩
    · by_cases q : k = b
      · rw [q, ups_s]; omega
      · rw [ups_n hr q]; have := j6 k hk; omega
    · by_cases q : a = b <;> by_cases q2 : b' = b
      · omega
      · rw [q, ups_s, ups_n hr q2] at e
        have := j6 b' hb'; omega
      · rw [q2, ups_s, ups_n hr q] at e
        have := j6 a ha; omega
      · rw [ups_n hr q, ups_n hr q2] at e
        exact j7 a b' ha hb' e
    · by_cases q : j = i
      · rw [q, ups_s]; omega
      · rw [ups_n ord q]; have := j8 j (by omega); omega
    · have hoj : ups ord i (hr b) j < nx := by
        by_cases q : j = i
        · rw [q, ups_s]; exact hbx
        · rw [ups_n ord q]; exact j8 j (by omega)
      by_cases q2 : k = b
      · rw [q2, ups_s]; omega
      · rw [ups_n hr q2]
        by_cases q : j = i
        · rw [q, ups_s]
          exact fun e => q2 (j7 k b hk hb e.symm)
        · rw [ups_n ord q]
          exact j10 j k (by omega) hk
  · unfold gh gn gr
    simp only [hnx, if_false]
    -- the last of the heap comes to b's place
    have key : ∀ k, k < h - 1 → ∃ k', k' < h ∧ k' ≠ b ∧ ups hr b (hr (h - 1)) k = hr k' ∧ (k' = k ∨ (k = b ∧ k' = h - 1)) := by
      intro k hk
      by_cases q : k = b
      · exact ⟨h - 1, by omega, by omega, by rw [q, ups_s], Or.inr ⟨q, rfl⟩⟩
      · exact ⟨k, by omega, q, by rw [ups_n hr q], Or.inl rfl⟩
    refine ⟨by omega, j2, by omega, fun z => absurd z hnx, o5, fun k hk => ?_, fun a b' ha hb' e => ?_, fun j hj => ?_, o9, fun j k hj hk => ?_, o11, o12, o13, o14, o15⟩
    · obtain ⟨k', a1, a2, a3, -⟩ := key k hk
      rw [a3]
      exact j6 k' a1
    · obtain ⟨x, a1, a2, a3, a4⟩ := key a ha
      obtain ⟨y, b1, b2, b3, b4⟩ := key b' hb'
      rw [a3, b3] at e
      have := j7 x y a1 b1 e
      omega
    · by_cases q : j = i
      · rw [q, ups_s]; exact hbx
      · rw [ups_n ord q]; exact j8 j (by omega)
    · obtain ⟨k', a1, a2, a3, -⟩ := key k hk
      rw [a3]
      by_cases q : j = i
      · rw [q, ups_s]
        exact fun e => a2 (j7 k' b a1 hb e.symm)
      · rw [ups_n ord q]
        exact j10 j k' (by omega) a1
