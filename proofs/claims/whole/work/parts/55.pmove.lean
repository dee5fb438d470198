/-! HOSTS: the PARTS of one that is DOWN go elsewhere. My own text. -/
def agr (p : Nat) (a b : Nat → Int32) : Prop := ∀ j, j < p → a j = b j
theorem agr.upd {p : Nat} {a b : Nat → Int32} (h : agr p a b) (k : Nat) (x : Int32) : agr p (upd a k x) (upd b k x) := by
  intro j hj
  by_cases q : j = k
  · rw [q, pk_us, pk_us]
  · rw [pk_un q, pk_un q]; exact h j hj
theorem p_move_loop {N p hst : Nat} (hN : 1000 ≤ N) (hp : p ≤ 8) (hh : hst < 8) {sz sz2 up up2 : Nat → Int32} (hup : ∀ k, k < 8 → (up k = 0 ↔ up2 k = 0)) (hdn : up hst = 0) (hsz : agr p sz sz2) (Q : Nat → Int32 → Prop) (hQ : ∀ j, Q j 0) :
    ∀ (f j : Nat) (mv : Int32) (ln mg dn ln2 mg2 dn2 : Nat → Int32), j ≤ p → p - j < f → agr p ln ln2 → agr p mg mg2 → agr p dn dn2 → (∀ i, i < p → Q i (mg i)) →
    ∃ (mv' : Int32) (ln' mg' dn' ln2' mg2' dn2' : Nat → Int32), l_X0_moveFrom_5 N sz (nI p) up (nI hst) f mv (nI j) ln mg dn = some (mv', ln', mg', dn') ∧ l_X7_leaves_4 N (nI p) sz2 up2 (nI hst) f mv (nI j) mg2 dn2 ln2 = some (mv', mg2', dn2', ln2') ∧ agr p ln' ln2' ∧ agr p mg' mg2' ∧ agr p dn' dn2' ∧ ∀ i, i < p → Q i (mg' i)
  | 0, j, mv, ln, mg, dn, ln2, mg2, dn2, _, hf, _, _, _, _ => absurd hf (by omega)
  | f + 1, j, mv, ln, mg, dn, ln2, mg2, dn2, hj, hf, h1, h2, h3, h4 => by
    rw [l_X0_moveFrom_5, l_X7_leaves_4]
    by_cases q : p ≤ j
    · rw [if_pos (nI_le q (by omega)), if_pos (nI_le q (by omega))]
      exact ⟨mv, ln, mg, dn, ln2, mg2, dn2, rfl, rfl, h1, h2, h3, h4⟩
    · rw [if_neg (nI_ge (by omega) (by omega)), if_neg (nI_ge (by omega) (by omega)), gd_nI (show j < 8 by omega) (by decide), gd_nI (show j < 8 by omega) (by decide), nI_clamp (show j < 2 ^ 31 by omega), ← h1 j (by omega)]
      by_cases z : ln j = nI hst
      · have ba : f_X0_beginAnew N mg dn (nI j) = some (upd mg j 0, upd dn j (vp_nar .boolean 0)) := by
          unfold f_X0_beginAnew
          rw [gd_nI (show j < 8 by omega) (by decide), gd_nI (show j < 8 by omega) (by decide), nI_clamp (show j < 2 ^ 31 by omega)]
        obtain ⟨b, l1, l2, -⟩ := p_least_loop (p := p) (p2 := p) (sz := sz) (ln := ln) (mg := upd mg j 0) (sz2 := sz2) (ln2 := upd ln2 j (-1)) (mg2 := upd mg2 j 0) (L := fun k => lefS sz (upd mg j 0) ln (nI k) p) hN hp hp hup (fun k hk hu => ⟨rfl, (lefS_congr (fun i hi => by
          refine ⟨hsz i hi, h2.upd j 0 i hi, ?_⟩
          by_cases y : i = j
          · rw [y, pk_us, z]
            constructor
            · intro e
              have : hst = k := (nI_eq (by omega) (by omega)).mp e
              rw [← this] at hu
              exact absurd hdn hu
            · intro e
              exact absurd e.symm (nI_ne_m1 (by omega))
          · rw [pk_un y, h1 i hi])).symm⟩) N 0 none 0 (by omega) (by omega) (fun x e => (nomatch e))
        have l1' : f_X0_leastLaden N sz ln (upd mg j 0) (nI p) up = some (lI b) := by
          unfold f_X0_leastLaden
          have e : l_X0_leastLaden_7 N sz ln (upd mg j 0) (nI p) up N (-1) 0 0 = some (lI b) := l1
          rw [bd1_eq e]
        have l2' : l_X7_leaves_55 N (nI p) sz2 (upd mg2 j 0) (upd ln2 j (-1)) up2 N (-1) 0 = some (lI b) := l2
        rw [if_pos z, if_pos z, bd2_eq ba, bd1_eq l1', gd_nI (show j < 8 by omega) (by decide), nl_e, nl_e, nl_e, gd_nI (show j < 8 by omega) (by decide), gd_nI (show j < 8 by omega) (by decide), gd_nI (show j < 8 by omega) (by decide), bd1_eq l2', gd_nI (show j < 8 by omega) (by decide), nl_e, nI_1]
        exact p_move_loop hN hp hh hup hdn hsz Q hQ f (j + 1) _ _ _ _ _ _ _ (by omega) (by omega) (fun i hi => by
          by_cases y : i = j
          · rw [y, pk_us, pk_us]
          · rw [pk_un y, pk_un y, pk_un y]; exact h1 i hi) (h2.upd j 0) (h3.upd j _) (fun i hi => by
          by_cases y : i = j
          · rw [y, pk_us]; exact hQ j
          · rw [pk_un y]; exact h4 i hi)
      · rw [if_neg z, if_neg z, nl_e, nl_e, nI_1]
        exact p_move_loop hN hp hh hup hdn hsz Q hQ f (j + 1) _ _ _ _ _ _ _ (by omega) (by omega) h1 h2 h3 h4
