/-! HOSTS: the one with the fewest ROWS left. My own text. -/
theorem p_least_loop {N p p2 : Nat} (hN : 1000 ≤ N) (hp : p ≤ 8) (hp2 : p2 ≤ 8) {sz ln mg sz2 ln2 mg2 up up2 : Nat → Int32} {L : Nat → Int32} (hup : ∀ k, k < 8 → (up k = 0 ↔ up2 k = 0)) (hL : ∀ k, k < 8 → up k ≠ 0 → lefS sz mg ln (nI k) p = L k ∧ lefS sz2 mg2 ln2 (nI k) p2 = L k) :
    ∀ (f j : Nat) (b : Option Nat) (v3 : Int32), j ≤ 8 → 8 - j < f → (∀ x, b = some x → x < 8 ∧ up x ≠ 0 ∧ v3 = L x) →
    ∃ b', l_X0_leastLaden_7 N sz ln mg (nI p) up f (lI b) v3 (nI j) = some (lI b') ∧ l_X7_leaves_55 N (nI p2) sz2 mg2 ln2 up2 f (lI b) (nI j) = some (lI b') ∧ ∀ x, b' = some x → x < 8 ∧ up x ≠ 0
  | 0, j, b, v3, _, hf, _ => absurd hf (by omega)
  | f + 1, j, b, v3, hj, hf, hb => by
    rw [l_X0_leastLaden_7, l_X7_leaves_55]
    by_cases q : 8 ≤ j
    · have q8 : (8 : Int32) ≤ nI j := nI_le (a := 8) q (by omega)
      rw [if_pos q8, if_pos q8]
      exact ⟨b, rfl, rfl, fun x e => ⟨(hb x e).1, (hb x e).2.1⟩⟩
    · have q8 : ¬ (8 : Int32) ≤ nI j := nI_ge (b := 8) (by omega) (by decide)
      rw [if_neg q8, if_neg q8, gd_nI (show j < 8 by omega) (by decide), gd_nI (show j < 8 by omega) (by decide), nI_clamp (show j < 2 ^ 31 by omega)]
      by_cases u : up j = 0
      · rw [if_pos u, if_pos ((hup j (by omega)).mp u), nl_e, nl_e, nI_1]
        exact p_least_loop hN hp hp2 hup hL f (j + 1) b v3 (by omega) (by omega) hb
      · have l1 := hL j (by omega) u
        have c1 := p_leftOn hN hp sz ln mg (nI j)
        have c2 := p_left hN hp2 sz2 ln2 mg2 (nI j)
        rw [l1.1] at c1
        rw [l1.2] at c2
        rw [if_neg u, if_neg (fun z => u ((hup j (by omega)).mpr z)), bd1_eq c1]
        cases hbe : b with
        | none =>
          rw [if_pos (show lI none = -1 from rfl), if_pos (show lI none = -1 from rfl), nl_e, nl_e, nI_1]
          exact p_least_loop hN hp hp2 hup hL f (j + 1) (some j) (L j) (by omega) (by omega) (fun x e => by cases e; exact ⟨by omega, u, rfl⟩)
        | some x =>
          obtain ⟨x1, x2, x3⟩ := hb x hbe
          have l2 := hL x x1 x2
          have c3 := p_left hN hp2 sz2 ln2 mg2 (nI x)
          rw [l2.2] at c3
          have ex : ¬ lI (some x) = -1 := nI_ne_m1 (show x < 2 ^ 31 by omega)
          have c3' : f_X7_left N (nI p2) sz2 mg2 ln2 (lI (some x)) = some (L x) := c3
          rw [if_neg ex, if_neg ex, bd1_eq c2, bd1_eq c3', x3]
          by_cases z : L x ≤ L j
          · rw [if_pos z, if_pos z, nl_e, nl_e, nI_1]
            exact p_least_loop hN hp hp2 hup hL f (j + 1) (some x) (L x) (by omega) (by omega) (fun y e => by cases e; exact ⟨x1, x2, rfl⟩)
          · rw [if_neg z, if_neg z, nl_e, nl_e, nI_1]
            exact p_least_loop hN hp hp2 hup hL f (j + 1) (some j) (L j) (by omega) (by omega) (fun y e => by cases e; exact ⟨by omega, u, rfl⟩)
