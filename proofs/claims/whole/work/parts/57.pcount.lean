/-! PARTS on a HOST, PARTS that are done, THE END. My own text. -/
theorem p_partsOn_loop {N p : Nat} (hp : p ≤ 8) (v : Int32) {ln ln2 : Nat → Int32} (h : agr p ln ln2) : ∀ (f j k : Nat), j ≤ p → p - j < f → k ≤ j → ∃ k', k' ≤ p ∧ l_X0_partsOn_4 N ln (nI p) v f (nI k) (nI j) = some (nI k') ∧ l_X7_host_73 N (nI p) ln2 v f (nI k) (nI j) = some (nI k')
  | 0, j, k, _, hf, _ => absurd hf (by omega)
  | f + 1, j, k, hj, hf, hk => by
    rw [l_X0_partsOn_4, l_X7_host_73]
    by_cases q : p ≤ j
    · rw [if_pos (nI_le q (by omega)), if_pos (nI_le q (by omega))]
      exact ⟨k, by omega, rfl, rfl⟩
    · have g8 : ∀ {X : Option Int32}, gd (ix (nI j) 8) X = X := gd_nI (by omega) (by decide)
      rw [if_neg (nI_ge (by omega) (by omega)), if_neg (nI_ge (by omega) (by omega))]
      simp only [g8]
      rw [nI_clamp (show j < 2 ^ 31 by omega), ← h j (by omega)]
      by_cases z : ln j = v
      · rw [if_pos z, if_pos z]
        simp only [nl_e, nI_1]
        exact p_partsOn_loop hp v h f (j + 1) (k + 1) (by omega) (by omega) (by omega)
      · rw [if_neg z, if_neg z]
        simp only [nl_e, nI_1, Int32.add_zero]
        exact p_partsOn_loop hp v h f (j + 1) k (by omega) (by omega) (by omega)
def dnS (dn : Nat → Int32) : Nat → Nat
  | 0 => 0
  | n + 1 => if dn n = 0 then dnS dn n else dnS dn n + 1
theorem dnS_le (dn : Nat → Int32) : ∀ n, dnS dn n ≤ n
  | 0 => Nat.le_refl _
  | n + 1 => by
    have := dnS_le dn n
    unfold dnS
    split <;> omega
theorem p_done_loop {N p : Nat} (hp : p ≤ 8) {dn dn2 : Nat → Int32} (h : agr p dn dn2) : ∀ (f j : Nat), j ≤ p → p - j < f → l_X0_partsDone_4 N dn (nI p) f (nI (dnS dn j)) (nI j) = some (nI (dnS dn p)) ∧ l_X7_work_65 N (nI p) dn2 f (nI (dnS dn j)) (nI j) = some (nI (dnS dn p))
  | 0, j, _, hf => absurd hf (by omega)
  | f + 1, j, hj, hf => by
    rw [l_X0_partsDone_4, l_X7_work_65]
    by_cases q : p ≤ j
    · have e : j = p := by omega
      rw [if_pos (nI_le q (by omega)), if_pos (nI_le q (by omega)), e]
      exact ⟨rfl, rfl⟩
    · have g8 : ∀ {X : Option Int32}, gd (ix (nI j) 8) X = X := gd_nI (by omega) (by decide)
      have ih := p_done_loop (N := N) hp h f (j + 1) (by omega) (by omega)
      have e1 : dnS dn (j + 1) = if dn j = 0 then dnS dn j else dnS dn j + 1 := rfl
      rw [e1] at ih
      rw [if_neg (nI_ge (by omega) (by omega)), if_neg (nI_ge (by omega) (by omega))]
      simp only [g8]
      rw [nI_clamp (show j < 2 ^ 31 by omega), ← h j (by omega)]
      by_cases z : dn j = 0
      · rw [if_pos z] at ih
        rw [if_pos z, if_pos z]
        simp only [nl_e, nI_1, Int32.add_zero]
        exact ih
      · rw [if_neg z] at ih
        rw [if_neg z, if_neg z]
        simp only [nl_e, nI_1]
        exact ih
