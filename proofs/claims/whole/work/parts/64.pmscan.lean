/-! MERGES: which ROW is next. My own text. -/
def frI (o : Option Nat) : Int32 := match o with
  | none => 0
  | some x => nI x
def fiI (p : Nat → Nat) (o : Option Nat) : Int32 := match o with
  | none => -1
  | some x => nI (p x)
theorem mul8 (i j : Nat) : (8 : Int32) * nI i + nI j = nI (8 * i + j) := by
  have h := pk_mul 8 i
  have h2 : (8 : Int32) = nI 8 := rfl
  rw [h2, h, nI_add]
theorem scan2 {N c w x : Nat} {bt g sz t p so : Nat → Nat} {S V T F mb sd hd tl bgn msz pool tks tkn gone : Nat → Int32} (hw8 : w ≤ 8) (hx : x < 400) (hc : c ≤ 400) (htks : tks x = nI w)
    (hh : ∀ j, j < w → hd j = nI (bt j + g j) ∧ tl j = nI (bt j + sz j) ∧ gone j = nI (g j) ∧ g j ≤ sz j ∧ bt j + sz j ≤ 4000 ∧ tkn (8 * x + j) = nI (t j) ∧ t j < 800 ∧ msz (t j) = nI (sz j) ∧ bgn (t j) = nI (bt j))
    (hr : ∀ j, j < w → g j < sz j → p j < c ∧ mb (bt j + g j) = nI (p j) ∧ pool (bt j + g j) = nI (p j))
    (hsd : ∀ r, r < c → f_X5_standingOf N sd (nI c) (nI r) = some (nI (so r)) ∧ so r < 400)
    (ah : ∀ a b, a < c → b < c → f_X7_ahead N S V T F (nI a) (nI b) = some (if so a < so b then 1 else 0)) :
    ∀ (f j s : Nat) (o : Option Nat), j ≤ w → w - j < f → s ≤ j → (s = 0 ↔ o = none) → (∀ y, o = some y → y < j ∧ g y < sz y) → (o = none → ∀ y, y < j → g y = sz y) →
    ∃ (s' : Nat) (o' : Option Nat), l_X5_takeFirst_10 N mb sd hd tl (nI c) (nI w) f (nI s) (frI o) (fiI p o) (nI j) = some (nI s', frI o', fiI p o') ∧ l_X7_merge_128 N S V T F bgn msz pool tks tkn gone (nI x) f (lI o) (nI s) (nI j) = some (lI o', nI s') ∧ s' ≤ w ∧ (s' = 0 ↔ o' = none) ∧ (∀ y, o' = some y → y < w ∧ g y < sz y) ∧ (o' = none → ∀ y, y < w → g y = sz y)
  | 0, j, s, o, _, hf, _, _, _, _ => absurd hf (by omega)
  | f + 1, j, s, o, hj, hf, hs, hso, ho, hn => by
    rw [l_X5_takeFirst_10, l_X7_merge_128, gd_nI (show x < 400 by omega) (by decide), nI_clamp (show x < 2 ^ 31 by omega), htks]
    by_cases q : w ≤ j
    · have e : j = w := by omega
      subst e
      rw [if_pos (nI_le (Nat.le_refl _) (by omega)), if_pos (nI_le (Nat.le_refl _) (by omega))]
      exact ⟨s, o, rfl, rfl, hs, hso, ho, hn⟩
    · obtain ⟨h1, h2, h3, h4, h5, h6, h7, h8, h9⟩ := hh j (by omega)
      have ih := fun s' o' => scan2 (N := N) (c := c) (p := p) (so := so) hw8 hx hc htks hh hr hsd ah f (j + 1) s' o' (by omega) (by omega)
      rw [if_neg (nI_ge (show j < w by omega) (by omega)), if_neg (nI_ge (show j < w by omega) (by omega))]
      have gj : ∀ {β : Type} {X : Option β}, gd (ix (nI j) 8) X = X := gd_nI (by omega) (by decide)
      have g3 : ∀ {β : Type} {X : Option β}, gd (ix (nI (8 * x + j)) 3200) X = X := gd_nI (by omega) (by decide)
      have gt : ∀ {β : Type} {X : Option β}, gd (ix (nI (t j)) 800) X = X := gd_nI (by omega) (by decide)
      have cj : (nI j).toNatClampNeg = j := nI_clamp (by omega)
      have c8 : (nI (8 * x + j)).toNatClampNeg = 8 * x + j := nI_clamp (by omega)
      have ct : (nI (t j)).toNatClampNeg = t j := nI_clamp (by omega)
      simp only [nl_e, nI_1, mul8, gj, g3, cj, c8, h1, h2, h3, h6, gt, ct, h8, h9]
      by_cases z : g j < sz j
      · obtain ⟨r1, r2, r3⟩ := hr j (by omega) z
        have e1 : ¬ nI (g j) = nI (sz j) := fun e => by
          have := (nI_eq (by omega) (by omega)).mp e
          omega
        have g4 : ∀ {β : Type} {X : Option β}, gd (ix (nI (bt j + g j)) 4000) X = X := gd_nI (by omega) (by decide)
        have g5 : ∀ {β : Type} {X : Option β}, gd (ix (nI (bt j + g j)) 40000) X = X := gd_nI (by omega) (by decide)
        have cb : (nI (bt j + g j)).toNatClampNeg = bt j + g j := nI_clamp (by omega)
        rw [if_pos (nI_lt (show bt j + g j < bt j + sz j by omega) (by omega)), if_neg e1]
        simp only [nI_add, g4, g5, cb, r2, r3]
        cases hoe : o with
        | none =>
          rw [if_pos (show fiI p none = -1 from rfl), if_pos (show lI none = -1 from rfl)]
          exact ih (s + 1) (some j) (by omega) ⟨fun e => absurd e (by omega), fun e => (nomatch e)⟩ (fun y e => by cases e; exact ⟨by omega, z⟩) (fun e => (nomatch e))
        | some y =>
          obtain ⟨y1, y2⟩ := ho y hoe
          obtain ⟨a1, a2, a3, a4, a5, a6, a7, a8, a9⟩ := hh y (by omega)
          obtain ⟨d1, d2, d3⟩ := hr y (by omega) y2
          have ey : fiI p (some y) = nI (p y) := rfl
          have ly : lI (some y) = nI y := rfl
          have s1 := hsd (p j) r1
          have s2 := hsd (p y) d1
          rw [ey, ly, if_neg (nI_ne_m1 (show p y < 2 ^ 31 by omega)), if_neg (nI_ne_m1 (show y < 2 ^ 31 by omega)), bd1_eq s1.1, bd1_eq s2.1]
          have gy : ∀ {β : Type} {X : Option β}, gd (ix (nI y) 8) X = X := gd_nI (by omega) (by decide)
          have g8y : ∀ {β : Type} {X : Option β}, gd (ix (nI (8 * x + y)) 3200) X = X := gd_nI (by omega) (by decide)
          have gty : ∀ {β : Type} {X : Option β}, gd (ix (nI (t y)) 800) X = X := gd_nI (by omega) (by decide)
          have gby : ∀ {β : Type} {X : Option β}, gd (ix (nI (bt y + g y)) 40000) X = X := gd_nI (by omega) (by decide)
          have cy : (nI y).toNatClampNeg = y := nI_clamp (by omega)
          have c8y : (nI (8 * x + y)).toNatClampNeg = 8 * x + y := nI_clamp (by omega)
          have cty : (nI (t y)).toNatClampNeg = t y := nI_clamp (by omega)
          have cby : (nI (bt y + g y)).toNatClampNeg = bt y + g y := nI_clamp (by omega)
          simp only [mul8, gy, g8y, cy, c8y, a6, gty, cty, a9, a3, nI_add, gby, cby, d3]
          rw [bd1_eq (ah (p j) (p y) r1 d1)]
          by_cases u : so (p j) < so (p y)
          · rw [if_neg (nI_ge u (by omega)), if_pos u, if_neg (by decide)]
            exact ih (s + 1) (some j) (by omega) ⟨fun e => absurd e (by omega), fun e => (nomatch e)⟩ (fun y e => by cases e; exact ⟨by omega, z⟩) (fun e => (nomatch e))
          · rw [if_pos (nI_le (show so (p y) ≤ so (p j) by omega) (by omega)), if_neg u, if_pos rfl]
            exact ih (s + 1) (some y) (by omega) ⟨fun e => absurd e (by omega), fun e => (nomatch e)⟩ (fun y e => by cases e; exact ⟨by omega, y2⟩) (fun e => (nomatch e))
      · have e2 : g j = sz j := by omega
        rw [if_neg (nI_nlt (show bt j + sz j ≤ bt j + g j by omega) (by omega)), if_pos (by rw [e2])]
        exact ih s o (by omega) hso (fun y e => by have := ho y e; exact ⟨by omega, this.2⟩) (fun e y hy => by
          by_cases v : y = j
          · rw [v]; exact e2
          · exact hn e y (by omega))
theorem p_standingOf (N : Nat) {c r : Nat} {sd : Nat → Int32} {so : Nat → Nat} (hc : c ≤ 400) (hsd : ∀ r, r < c → sd r = nI (so r)) (hr : r < c) : f_X5_standingOf N sd (nI c) (nI r) = some (nI (so r)) := by
  unfold f_X5_standingOf
  have e : (nI c - 1).toInt = (c : Int) - 1 := pk_sub_toInt (b := 1) (by omega) (by omega)
  have e0 : (0 : Int32).toInt = 0 := by decide
  have er : (nI r).toInt = (r : Int) := nI_toInt (by omega)
  rw [bd1_eq (p_isIn N (nI r) 0 (nI c - 1)), e, e0, er, if_pos (show (0 : Int) ≤ (r : Int) ∧ (r : Int) ≤ (c : Int) - 1 by omega), if_neg (by decide), gd_nI (show r < 400 by omega) (by decide), nI_clamp (show r < 2 ^ 31 by omega), hsd r hr]
