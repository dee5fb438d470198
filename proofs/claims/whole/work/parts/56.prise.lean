/-! HOSTS: one comes UP. My own text. -/
theorem p_rise_loop {N p : Nat} (hp : p ≤ 8) (v : Int32) : ∀ (f j : Nat) (mv : Int32) (ln ln2 : Nat → Int32), j ≤ p → p - j < f → agr p ln ln2 →
    ∃ (mv' : Int32) (ln' ln2' : Nat → Int32), l_X0_bringTo_4 N (nI p) v f mv (nI j) ln = some (mv', ln') ∧ l_X7_rise_29 N (nI p) v f mv (nI j) ln2 = some (mv', ln2') ∧ agr p ln' ln2'
  | 0, j, mv, ln, ln2, _, hf, _ => absurd hf (by omega)
  | f + 1, j, mv, ln, ln2, hj, hf, h1 => by
    rw [l_X0_bringTo_4, l_X7_rise_29]
    by_cases q : p ≤ j
    · rw [if_pos (nI_le q (by omega)), if_pos (nI_le q (by omega))]
      exact ⟨mv, ln, ln2, rfl, rfl, h1⟩
    · rw [if_neg (nI_ge (by omega) (by omega)), if_neg (nI_ge (by omega) (by omega))]
      have g8 : ∀ {X : Option (Int32 × (Nat → Int32))}, gd (ix (nI j) 8) X = X := gd_nI (by omega) (by decide)
      simp only [g8]
      rw [nI_clamp (show j < 2 ^ 31 by omega), ← h1 j (by omega)]
      by_cases z : ln j = -1
      · rw [if_pos z, if_pos z, nl_e, nl_e, nl_e, nl_e, nI_1]
        exact p_rise_loop (N := N) hp v f (j + 1) (mv + 1) (upd ln j v) (upd ln2 j v) (by omega) (by omega) (h1.upd j v)
      · rw [if_neg z, if_neg z, nl_e, nl_e, nI_1]
        exact p_rise_loop (N := N) hp v f (j + 1) mv ln ln2 (by omega) (by omega) h1
