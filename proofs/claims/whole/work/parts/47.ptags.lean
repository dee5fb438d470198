/-! SELECT: a ROW's RUN and place as one number; which ROW is next. My own text. -/
def tg (P : Nat → Nat) (lst : Option Nat) (rn r : Nat) : Nat := match lst with
  | none => rn
  | some l => if P l < P r then rn - 1 else rn
def vl (P : Nat → Nat) (lst : Option Nat) (rn r : Nat) : Nat := tg P lst rn r * 320001600 + P r
theorem tg_or (P : Nat → Nat) (lst : Option Nat) (rn r : Nat) : tg P lst rn r = rn ∨ (∃ l, lst = some l ∧ P l < P r ∧ tg P lst rn r = rn - 1) := by
  cases lst with
  | none => exact Or.inl rfl
  | some l =>
    by_cases h : P l < P r
    · exact Or.inr ⟨l, rfl, h, by simp [tg, h]⟩
    · exact Or.inl (by simp [tg, h])
theorem tg_some {P : Nat → Nat} {l rn r : Nat} : tg P (some l) rn r = if P l < P r then rn - 1 else rn := rfl
/-- what the least number says: b is the ROW of the heap that goes next; it begins a RUN where bn is true -/
def nextB (P : Nat → Nat) (lst : Option Nat) (hr : Nat → Nat) (h b : Nat) (bn : Bool) : Prop := b < h ∧
  (bn = false → ∃ l, lst = some l ∧ P l < P (hr b) ∧ ∀ k, k < h → P l < P (hr k) → P (hr b) ≤ P (hr k)) ∧
  (bn = true → (∀ l, lst = some l → ∀ k, k < h → ¬ P l < P (hr k)) ∧ ∀ k, k < h → P (hr b) ≤ P (hr k))
theorem next_of_least {c h rn b : Nat} {P hr : Nat → Nat} {lst : Option Nat} (hP : ∀ r, r < c → P r < 320001600) (hhr : ∀ k, k < h → hr k < c) (hrn : ∀ l, lst = some l → 0 < rn) (hb : b < h) (hmin : ∀ k, k < h → vl P lst rn (hr b) ≤ vl P lst rn (hr k)) :
    ∃ bn : Bool, nextB P lst hr h b bn ∧ (bn = false → tg P lst rn (hr b) + 1 = rn) ∧ (bn = true → tg P lst rn (hr b) = rn) := by
  have pb := hP _ (hhr b hb)
  rcases tg_or P lst rn (hr b) with e | ⟨l, e1, e2, e3⟩
  · refine ⟨true, ⟨hb, fun q => absurd q (by decide), fun _ => ⟨fun l el k hk hlt => ?_, fun k hk => ?_⟩⟩, fun q => absurd q (by decide), fun _ => e⟩
    · have h1 := hmin k hk
      have pk := hP _ (hhr k hk)
      have h2 : tg P lst rn (hr k) = rn - 1 := by rw [el, tg_some, if_pos hlt]
      have h3 := hrn l el
      unfold vl at h1
      rw [e, h2] at h1
      omega
    · have h1 := hmin k hk
      have pk := hP _ (hhr k hk)
      unfold vl at h1
      rw [e] at h1
      rcases tg_or P lst rn (hr k) with f | ⟨l, f1, f2, f3⟩
      · rw [f] at h1
        omega
      · have := hrn l f1
        rw [f3] at h1
        omega
  · have h3 := hrn l e1
    refine ⟨false, ⟨hb, fun _ => ⟨l, e1, e2, fun k hk hlt => ?_⟩, fun q => absurd q (by decide)⟩, fun _ => by omega, fun q => absurd q (by decide)⟩
    have h1 := hmin k hk
    have h2 : tg P lst rn (hr k) = rn - 1 := by rw [e1, tg_some, if_pos hlt]
    unfold vl at h1
    rw [e3, h2] at h1
    omega
/-- the others keep their RUN -/
theorem tags_stay {h rn b : Nat} {P hr : Nat → Nat} {lst : Option Nat} {bn : Bool} (hn : nextB P lst hr h b bn) (inj : ∀ k, k < h → P (hr k) = P (hr b) → k = b) {k : Nat} (hk : k < h) (hne : k ≠ b) : tg P (some (hr b)) (if bn then rn + 1 else rn) (hr k) = tg P lst rn (hr k) := by
  have hne2 : P (hr k) ≠ P (hr b) := fun q => hne (inj k hk q)
  cases bn with
  | false =>
    obtain ⟨l, e1, e2, e3⟩ := hn.2.1 rfl
    rw [tg_some, e1, tg_some]
    simp only [Bool.false_eq_true, if_false]
    by_cases z : P l < P (hr k)
    · have := e3 k hk z
      rw [if_pos z, if_pos (by omega)]
    · rw [if_neg z, if_neg (by omega)]
  | true =>
    obtain ⟨e1, e2⟩ := hn.2.2 rfl
    have := e2 k hk
    rw [tg_some]
    simp only [if_true]
    rw [if_pos (by omega)]
    cases hl : lst with
    | none => rfl
    | some l => rw [tg_some, if_neg (e1 l hl k hk)]; rfl
/-- the reference's scan finds the same one -/
theorem scan_next {h b : Nat} {P hr : Nat → Nat} {lst : Option Nat} {bn : Bool} {o : Option Nat} (hn : nextB P lst hr h b bn) (inj : ∀ k, k < h → P (hr k) = P (hr b) → k = b) (hl : ∀ l k, lst = some l → k < h → P (hr k) ≠ P l) (ho : bestOf P lst hr h o) : (bn = false ∨ lst = none → o = some b) ∧ (bn = true → lst ≠ none → o = none) := by
  constructor
  · intro q
    have heb : elig P lst (hr b) := by
      rcases q with q | q
      · obtain ⟨l, e1, e2, -⟩ := hn.2.1 q
        intro l2 e
        rw [e1] at e
        cases e
        omega
      · intro l e
        rw [q] at e
        cases e
    cases hoe : o with
    | none => exact absurd heb (ho.1 hoe b hn.1)
    | some x =>
      obtain ⟨x1, x2, x3⟩ := ho.2 x hoe
      have h1 := x3 b hn.1 heb
      have h2 : P (hr b) ≤ P (hr x) := by
        cases bn with
        | false =>
          obtain ⟨l, e1, e2, e3⟩ := hn.2.1 rfl
          have := x2 l e1
          have := hl l x e1 x1
          exact e3 x x1 (by omega)
        | true => exact (hn.2.2 rfl).2 x x1
      rw [inj x x1 (by omega)]
  · intro q hne
    cases hoe : o with
    | none => rfl
    | some x =>
      obtain ⟨x1, x2, -⟩ := ho.2 x hoe
      cases hls : lst with
      | none => exact absurd hls hne
      | some l =>
        have h1 := (hn.2.2 q).1 l hls x x1
        have h2 := x2 l hls
        have h3 := hl l x hls x1
        omega
