/-! THE END is there. My own text. -/
theorem p_there_loop {N p : Nat} (hp : p ≤ 8) {dn dn2 : Nat → Int32} (h : agr p dn dn2) : ∀ (f j : Nat), j ≤ p → p - j < f → l_X7_isThere_15 N (nI p) dn2 f (if 0 < p ∧ dnS dn j = j then 1 else 0) (nI j) = some (if 0 < p ∧ dnS dn p = p then 1 else 0)
  | 0, j, _, hf => absurd hf (by omega)
  | f + 1, j, hj, hf => by
    rw [l_X7_isThere_15]
    by_cases q : p ≤ j
    · have e : j = p := by omega
      rw [if_pos (nI_le q (by omega)), e]
    · have g8 : ∀ {X : Option Int32}, gd (ix (nI j) 8) X = X := gd_nI (by omega) (by decide)
      have ih := p_there_loop (N := N) hp h f (j + 1) (by omega) (by omega)
      have e1 : dnS dn (j + 1) = if dn j = 0 then dnS dn j else dnS dn j + 1 := rfl
      have le := dnS_le dn j
      rw [if_neg (nI_ge (by omega) (by omega))]
      simp only [g8, nl_e, nI_1]
      rw [nI_clamp (show j < 2 ^ 31 by omega), ← h j (by omega)]
      by_cases a : 0 < p ∧ dnS dn j = j
      · rw [if_pos a, if_neg (by decide)]
        by_cases z : dn j = 0
        · rw [if_pos z] at e1 ⊢
          rw [if_neg (show ¬ (0 < p ∧ dnS dn (j + 1) = j + 1) by omega)] at ih
          exact ih
        · rw [if_neg z] at e1 ⊢
          rw [if_pos (show 0 < p ∧ dnS dn (j + 1) = j + 1 by omega)] at ih
          exact ih
      · rw [if_neg a, if_pos rfl]
        rw [if_neg (show ¬ (0 < p ∧ dnS dn (j + 1) = j + 1) by
          rw [e1]
          split <;> omega)] at ih
        exact ih
theorem p_isThere {N p : Nat} (hN : 1000 ≤ N) (hp : p ≤ 8) {dn dn2 : Nat → Int32} (h : agr p dn dn2) : f_X7_isThere N (nI p) dn2 = some (if 0 < p ∧ dnS dn p = p then 1 else 0) := by
  unfold f_X7_isThere
  have e0 : (if nI p ≤ 0 then some (0 : Int32) else some 1) = some (if 0 < p ∧ dnS dn 0 = 0 then 1 else 0) := by
    have d0 : dnS dn 0 = 0 := rfl
    by_cases q : p = 0
    · rw [q, if_pos (by decide), if_neg (by omega)]
    · rw [if_neg (nI_nle (by omega) (by omega)), if_pos ⟨by omega, d0⟩]
  have e1 : l_X7_isThere_15 N (nI p) dn2 N (if 0 < p ∧ dnS dn 0 = 0 then 1 else 0) 0 = some (if 0 < p ∧ dnS dn p = p then 1 else 0) := p_there_loop hp h N 0 (by omega) (by omega)
  rw [bd1_eq e0, bd1_eq e1, gd_bi]
theorem p_partsDone {N p : Nat} (hN : 1000 ≤ N) (hp : p ≤ 8) (dn : Nat → Int32) : f_X0_partsDone N dn (nI p) = some (nI (dnS dn p)) := by
  unfold f_X0_partsDone
  have e : l_X0_partsDone_4 N dn (nI p) N 0 0 = some (nI (dnS dn p)) := (p_done_loop (N := N) (dn2 := dn) hp (fun _ _ => rfl) N 0 (by omega) (by omega)).1
  rw [bd1_eq e]
