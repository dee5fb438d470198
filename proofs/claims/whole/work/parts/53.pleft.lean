/-! HOSTS: how many ROWS are left on one. My own text. -/
def lefS (sz mg ln : Nat → Int32) (v : Int32) : Nat → Int32
  | 0 => 0
  | n + 1 => if ln n = v then lefS sz mg ln v n + (sz n - mg n) else lefS sz mg ln v n
theorem lefS_congr {sz mg ln sz2 mg2 ln2 : Nat → Int32} {v : Int32} : ∀ {p : Nat}, (∀ j, j < p → sz j = sz2 j ∧ mg j = mg2 j ∧ (ln j = v ↔ ln2 j = v)) → lefS sz mg ln v p = lefS sz2 mg2 ln2 v p
  | 0, _ => rfl
  | p + 1, h => by
    have ih := lefS_congr (p := p) (fun j hj => h j (by omega))
    obtain ⟨h1, h2, h3⟩ := h p (by omega)
    show (if ln p = v then _ else _) = (if ln2 p = v then _ else _)
    rw [ih, h1, h2]
    by_cases q : ln p = v
    · rw [if_pos q, if_pos (h3.mp q)]
    · rw [if_neg q, if_neg (fun z => q (h3.mpr z))]
theorem p_leftOn_loop (N : Nat) {p : Nat} (hp : p ≤ 8) (sz ln mg : Nat → Int32) (v : Int32) : ∀ (f j : Nat), j ≤ p → p - j < f → l_X0_leftOn_4 N sz ln mg (nI p) v f (lefS sz mg ln v j) (nI j) = some (lefS sz mg ln v p)
  | 0, j, _, hf => absurd hf (by omega)
  | f + 1, j, hj, hf => by
    rw [l_X0_leftOn_4]
    by_cases q : p ≤ j
    · have e : j = p := by omega
      rw [if_pos (nI_le q (by omega)), e]
    · have ih := p_leftOn_loop N hp sz ln mg v f (j + 1) (by omega) (by omega)
      have e1 : lefS sz mg ln v (j + 1) = if ln j = v then lefS sz mg ln v j + (sz j - mg j) else lefS sz mg ln v j := rfl
      rw [e1] at ih
      rw [if_neg (nI_ge (by omega) (by omega)), gd_nI (show j < 8 by omega) (by decide), nI_clamp (show j < 2 ^ 31 by omega)]
      by_cases z : ln j = v
      · rw [if_pos z] at ih ⊢
        rw [gd_nI (show j < 8 by omega) (by decide), gd_nI (show j < 8 by omega) (by decide), nl_e, nl_e, nI_1]
        exact ih
      · rw [if_neg z] at ih ⊢
        rw [nl_e, nI_1]
        exact ih
theorem p_leftOn {N p : Nat} (hN : 1000 ≤ N) (hp : p ≤ 8) (sz ln mg : Nat → Int32) (v : Int32) : f_X0_leftOn N sz ln mg (nI p) v = some (lefS sz mg ln v p) := by
  unfold f_X0_leftOn
  have h : l_X0_leftOn_4 N sz ln mg (nI p) v N 0 0 = some (lefS sz mg ln v p) := p_leftOn_loop N hp sz ln mg v N 0 (by omega) (by omega)
  rw [bd1_eq h]
theorem p_left_loop (N : Nat) {p : Nat} (hp : p ≤ 8) (sz ln mg : Nat → Int32) (v : Int32) : ∀ (f j : Nat), j ≤ p → p - j < f → l_X7_left_4 N (nI p) sz mg ln v f (lefS sz mg ln v j) (nI j) = some (lefS sz mg ln v p)
  | 0, j, _, hf => absurd hf (by omega)
  | f + 1, j, hj, hf => by
    rw [l_X7_left_4]
    by_cases q : p ≤ j
    · have e : j = p := by omega
      rw [if_pos (nI_le q (by omega)), e]
    · have ih := p_left_loop N hp sz ln mg v f (j + 1) (by omega) (by omega)
      have e1 : lefS sz mg ln v (j + 1) = if ln j = v then lefS sz mg ln v j + (sz j - mg j) else lefS sz mg ln v j := rfl
      rw [e1] at ih
      rw [if_neg (nI_ge (by omega) (by omega)), gd_nI (show j < 8 by omega) (by decide), nI_clamp (show j < 2 ^ 31 by omega)]
      by_cases z : ln j = v
      · rw [if_pos z] at ih ⊢
        rw [gd_nI (show j < 8 by omega) (by decide), gd_nI (show j < 8 by omega) (by decide), nl_e, nl_e, nI_1]
        exact ih
      · rw [if_neg z] at ih ⊢
        rw [nl_e, nl_e, nI_1, Int32.add_zero]
        exact ih
theorem p_left {N p : Nat} (hN : 1000 ≤ N) (hp : p ≤ 8) (sz ln mg : Nat → Int32) (v : Int32) : f_X7_left N (nI p) sz mg ln v = some (lefS sz mg ln v p) := by
  unfold f_X7_left
  have h : l_X7_left_4 N (nI p) sz mg ln v N 0 0 = some (lefS sz mg ln v p) := p_left_loop N hp sz ln mg v N 0 (by omega) (by omega)
  rw [bd1_eq h]
