/-! HOSTS: one falls; PARTS laid on them; a TICK. My own text. -/
theorem move_alike {N p hst : Nat} (hN : 1000 ≤ N) (hp : p ≤ 8) (hh : hst < 8) {sz sz2 up up2 ln mg dn ln2 mg2 dn2 : Nat → Int32} (hup : agr 8 up up2) (hdn : up hst = 0) (hsz : agr p sz sz2) (Q : Nat → Int32 → Prop) (hQ : ∀ j, Q j 0) (h1 : agr p ln ln2) (h2 : agr p mg mg2) (h3 : agr p dn dn2) (h4 : ∀ i, i < p → Q i (mg i)) :
    ∃ (mv : Int32) (ln' mg' dn' ln2' mg2' dn2' : Nat → Int32), f_X0_moveFrom N sz ln mg dn (nI p) up (nI hst) = some (mv, ln', mg', dn') ∧ f_X7_leaves N (nI p) sz2 mg2 dn2 ln2 up2 (nI hst) = some (mv, mg2', dn2', ln2') ∧ agr p ln' ln2' ∧ agr p mg' mg2' ∧ agr p dn' dn2' ∧ ∀ i, i < p → Q i (mg' i) := by
  obtain ⟨mv, ln', mg', dn', ln2', mg2', dn2', r1, r2, r3, r4, r5, r6⟩ := p_move_loop hN hp hh (fun k hk => by rw [hup k hk]) hdn hsz Q hQ N 0 0 ln mg dn ln2 mg2 dn2 (by omega) (by omega) h1 h2 h3 h4
  refine ⟨mv, ln', mg', dn', ln2', mg2', dn2', ?_, ?_, r3, r4, r5, r6⟩
  · unfold f_X0_moveFrom
    have e : l_X0_moveFrom_5 N sz (nI p) up (nI hst) N 0 0 ln mg dn = some (mv, ln', mg', dn') := r1
    rw [bd4_eq e]
  · unfold f_X7_leaves
    have e : l_X7_leaves_4 N (nI p) sz2 up2 (nI hst) N 0 0 mg2 dn2 ln2 = some (mv, mg2', dn2', ln2') := r2
    rw [bd4_eq e]
theorem c_lay2 {N p : Nat} (hp : p ≤ 8) : ∀ (f j : Nat) (ln : Nat → Int32), j ≤ p → p - j < f → (∀ y, y < j → ln y = nI y) → ∃ ln', l_X0_layOn_2 N (nI p) f (nI j) ln = some ln' ∧ ∀ y, y < p → ln' y = nI y
  | 0, j, ln, _, hf, _ => absurd hf (by omega)
  | f + 1, j, ln, hj, hf, h => by
    rw [l_X0_layOn_2]
    by_cases q : p ≤ j
    · have e : j = p := by omega
      rw [if_pos (nI_le q (by omega))]
      rw [e] at h
      exact ⟨ln, rfl, h⟩
    · rw [if_neg (nI_ge (by omega) (by omega)), gd_nI (show j < 8 by omega) (by decide), nl_e, nI_1, nI_clamp (show j < 2 ^ 31 by omega)]
      refine c_lay2 hp f (j + 1) _ (by omega) (by omega) fun y hy => ?_
      by_cases z : y = j
      · rw [z, pk_us]
      · rw [pk_un z]
        exact h y (by omega)
theorem lay_loop {N p : Nat} (hN : 1000 ≤ N) (hp : p ≤ 8) {sz sz2 up up2 : Nat → Int32} (hup : agr 8 up up2) (hsz : agr p sz sz2) (Q : Nat → Int32 → Prop) (hQ : ∀ j, Q j 0) : ∀ (f h : Nat) (ln mg dn ln2 mg2 dn2 : Nat → Int32), h ≤ 8 → 8 - h < f → agr p ln ln2 → agr p mg mg2 → agr p dn dn2 → (∀ i, i < p → Q i (mg i)) →
    ∃ (ln' mg' dn' ln2' mg2' dn2' : Nat → Int32), l_X0_layOn_25 N sz (nI p) up f (nI h) ln mg dn = some (ln', mg', dn') ∧ l_X7_cut_411 N (nI p) sz2 up2 f (nI h) mg2 dn2 ln2 = some (mg2', dn2', ln2') ∧ agr p ln' ln2' ∧ agr p mg' mg2' ∧ agr p dn' dn2' ∧ ∀ i, i < p → Q i (mg' i)
  | 0, h, ln, mg, dn, ln2, mg2, dn2, _, hf, _, _, _, _ => absurd hf (by omega)
  | f + 1, h, ln, mg, dn, ln2, mg2, dn2, hh, hf, h1, h2, h3, h4 => by
    rw [l_X0_layOn_25, l_X7_cut_411]
    by_cases q : 8 ≤ h
    · have q8 : (8 : Int32) ≤ nI h := nI_le (a := 8) q (by omega)
      rw [if_pos q8, if_pos q8]
      exact ⟨ln, mg, dn, ln2, mg2, dn2, rfl, rfl, h1, h2, h3, h4⟩
    · have q8 : ¬ (8 : Int32) ≤ nI h := nI_ge (b := 8) (by omega) (by decide)
      rw [if_neg q8, if_neg q8, gd_nI (show h < 8 by omega) (by decide), gd_nI (show h < 8 by omega) (by decide), nI_clamp (show h < 2 ^ 31 by omega), ← hup h (by omega)]
      by_cases u : up h = 0
      · obtain ⟨mv, ln', mg', dn', ln2', mg2', dn2', r1, r2, r3, r4, r5, r6⟩ := move_alike hN hp (show h < 8 by omega) hup u hsz Q hQ h1 h2 h3 h4
        rw [if_pos u, if_pos u, bd4_eq r1, bd4_eq r2, nl_e, nl_e, nI_1]
        exact lay_loop hN hp hup hsz Q hQ f (h + 1) _ _ _ _ _ _ (by omega) (by omega) r3 r4 r5 r6
      · rw [if_neg u, if_neg u, nl_e, nl_e, nI_1]
        exact lay_loop hN hp hup hsz Q hQ f (h + 1) _ _ _ _ _ _ (by omega) (by omega) h1 h2 h3 h4
theorem maxsub {r m : Nat} (hr : r ≤ 400) (hm : m ≤ 400) : (if (0 : Int32) < nI r - nI m then nI r - nI m else 0) = nI (r - m) := by
  by_cases h : m ≤ r
  · rw [nI_sub h]
    by_cases z : r - m = 0
    · rw [z]
      decide
    · have h0 : (0 : Int32) < nI (r - m) := nI_lt (a := 0) (by omega) (by omega)
      rw [if_pos h0]
  · have h1 := pk_sneg (a := r) (b := m) (by omega) (by omega)
    have h2 : ¬ (0 : Int32) < nI r - nI m := fun q => by
      rw [i32_lt] at h1 q
      have e0 : (0 : Int32).toInt = 0 := by decide
      omega
    rw [if_neg h2]
    have e : r - m = 0 := by omega
    rw [e]
    rfl
theorem minI {a b : Nat} (ha : a ≤ 1000) (hb : b ≤ 1000) : (if nI a < nI b then nI a else nI b) = nI (min a b) := by
  by_cases h : a < b
  · rw [if_pos (nI_lt h (by omega))]
    congr 1
    omega
  · rw [if_neg (nI_nlt (by omega) (by omega))]
    congr 1
    omega
theorem known_I {r m w : Nat} (hr : r ≤ 400) (hm : m ≤ 400) (hw : w ≤ 400) {y : Int32} (hy : y = if nI w ≤ nI r - nI m then nI w else nI r - nI m) : (if y ≤ 0 then (0 : Int32) else y) = nI (min (r - m) w) := by
  have e0 : (0 : Int32).toInt = 0 := by decide
  by_cases h : m ≤ r
  · rw [nI_sub h] at hy
    have e : y = nI (min (r - m) w) := by
      rw [hy]
      by_cases z : w ≤ r - m
      · rw [if_pos (nI_le z (by omega))]
        congr 1
        omega
      · rw [if_neg (nI_ge (by omega) (by omega))]
        congr 1
        omega
    rw [e]
    by_cases z : min (r - m) w = 0
    · rw [z]
      decide
    · rw [if_neg (nI_nle (by omega) (by omega))]
  · have h1 := pk_sneg (a := r) (b := m) (by omega) (by omega)
    have h3 : ¬ nI w ≤ nI r - nI m := fun q => by
      rw [i32_lt] at h1
      rw [i32_le, nI_toInt (by omega)] at q
      omega
    rw [if_neg h3] at hy
    have h4 : y ≤ 0 := by
      rw [hy, i32_le]
      rw [i32_lt] at h1
      omega
    rw [if_pos h4]
    have e : min (r - m) w = 0 := by omega
    rw [e]
    rfl
theorem p_mergeSome (N : Nat) {j m r w : Nat} {mg rc : Nat → Int32} (all ag : Int32) (hj : j < 8) (hm : m ≤ 400) (hr : r ≤ 400) (hw : w ≤ 400) (h1 : mg j = nI m) (h2 : rc j = nI r) : f_X0_mergeSome N mg rc all ag (nI j) (nI w) = some (upd mg j (nI (m + w)), upd rc j (nI (max r (m + w))), all + nI w, ag + nI (min (r - m) w)) := by
  have gj : ∀ {β : Type} {X : Option β}, gd (ix (nI j) 8) X = X := gd_nI hj (by decide)
  have cj : (nI j).toNatClampNeg = j := nI_clamp (by omega)
  have e1 : (if nI r < nI (m + w) then nI (m + w) else nI r) = nI (max r (m + w)) := by
    by_cases h : r < m + w
    · rw [if_pos (nI_lt h (by omega))]
      congr 1
      omega
    · rw [if_neg (nI_nlt (by omega) (by omega))]
      congr 1
      omega
  unfold f_X0_mergeSome
  simp only [gj, cj, h1, h2, nl_e, pk_us, nI_add]
  rw [maxsub hr hm, minI (by omega) (by omega), e1]
def qM (s : Nat → Nat) (j : Nat) (v : Int32) : Prop := ∃ x, v = nI x ∧ x ≤ s j
def q4 (v : Int32) : Prop := ∃ x, v = nI x ∧ x ≤ 400
theorem work_loop {N p h : Nat} (hN : 1000 ≤ N) (hp : p ≤ 8) (hh : h < 8) {s : Nat → Nat} {sz ln sz2 ln2 : Nat → Int32} (hs : ∀ j, j < p → sz j = nI (s j) ∧ s j ≤ 400) (hsz : agr p sz sz2) (hln : agr p ln ln2) :
    ∀ (f j L : Nat) (mg rc dn hb mg2 rc2 dn2 hb2 : Nat → Int32) (all ag : Int32), j ≤ p → p - j < f → L ≤ 50 → agr p mg mg2 → agr p rc rc2 → agr p dn dn2 → agr 8 hb hb2 → (∀ i, i < p → qM s i (mg i)) → (∀ i, i < p → q4 (rc i)) →
    ∃ (mg' rc' dn' hb' mg2' rc2' dn2' hb2' : Nat → Int32) (all' ag' : Int32), l_X0_workAtPartsOf_5 N sz ln (nI p) (nI h) f (nI L) (nI j) mg rc dn hb all ag = some (mg', rc', dn', hb', all', ag') ∧ l_X7_tick_55 N (nI p) sz2 ln2 (nI h) f (nI L) (nI j) mg2 rc2 dn2 all ag hb2 = some (mg2', rc2', dn2', all', ag', hb2') ∧ agr p mg' mg2' ∧ agr p rc' rc2' ∧ agr p dn' dn2' ∧ agr 8 hb' hb2' ∧ (∀ i, i < p → qM s i (mg' i)) ∧ ∀ i, i < p → q4 (rc' i)
  | 0, j, L, mg, rc, dn, hb, mg2, rc2, dn2, hb2, all, ag, _, hf, _, _, _, _, _, _, _ => absurd hf (by omega)
  | f + 1, j, L, mg, rc, dn, hb, mg2, rc2, dn2, hb2, all, ag, hj, hf, hL, a1, a2, a3, a4, a5, a6 => by
    rw [l_X0_workAtPartsOf_5, l_X7_tick_55]
    by_cases q : p ≤ j
    · rw [if_pos (nI_le q (by omega)), if_pos (nI_le q (by omega))]
      exact ⟨mg, rc, dn, hb, mg2, rc2, dn2, hb2, all, ag, rfl, rfl, a1, a2, a3, a4, a5, a6⟩
    · have gj : ∀ {β : Type} {X : Option β}, gd (ix (nI j) 8) X = X := gd_nI (by omega) (by decide)
      have gh : ∀ {β : Type} {X : Option β}, gd (ix (nI h) 8) X = X := gd_nI hh (by decide)
      have cj : (nI j).toNatClampNeg = j := nI_clamp (by omega)
      have ch : (nI h).toNatClampNeg = h := nI_clamp (by omega)
      rw [if_neg (nI_ge (by omega) (by omega)), if_neg (nI_ge (by omega) (by omega)), if_neg (nI_pos (show L < 2 ^ 31 by omega))]
      simp only [gj, gh, cj, ch, nl_e, nI_1, pk_us]
      rw [← hln j (by omega)]
      by_cases u : ln j = nI h
      · rw [if_pos u, if_pos u, ← a3 j (by omega)]
        by_cases d : dn j = 0
        · rw [if_pos d, if_pos d]
          obtain ⟨s1, s2⟩ := hs j (by omega)
          obtain ⟨m, m1, m2⟩ := a5 j (by omega)
          obtain ⟨r, r1, r2⟩ := a6 j (by omega)
          have m1' : mg2 j = nI m := by rw [← a1 j (by omega)]; exact m1
          have r1' : rc2 j = nI r := by rw [← a2 j (by omega)]; exact r1
          have s1' : sz2 j = nI (s j) := by rw [← hsz j (by omega)]; exact s1
          have hb1 : hb2 h = hb h := (a4 h hh).symm
          have w1 : (if nI (s j - m) < nI L then nI (s j - m) else nI L) = nI (min (s j - m) L) := minI (by omega) (by omega)
          have w2 : (if nI L ≤ nI (s j - m) then some (nI L) else some (nI (s j - m))) = some (nI (min (s j - m) L)) := by
            by_cases z : L ≤ s j - m
            · rw [if_pos (nI_le z (by omega))]
              congr 2
              omega
            · rw [if_neg (nI_ge (by omega) (by omega))]
              congr 2
              omega
          simp only [m1, m1', r1, r1', s1, s1', nI_sub m2]
          rw [w1, bd1_eq w2]
          generalize hw : min (s j - m) L = w
          have hw1 : w ≤ s j - m := by omega
          have hw2 : w ≤ L := by omega
          rw [bd4_eq (p_mergeSome N all ag (show j < 8 by omega) (by omega) r2 (by omega) m1 r1), pk_us, nI_sub hw2, nI_add]
          have k1 : ∀ {γ : Type} (B : Int32 → Option γ), (bd1 (if nI w ≤ nI r - nI m then some (nI w) else some (nI r - nI m)) fun y25 => bd1 (if y25 ≤ 0 then some (0 : Int32) else some y25) B) = B (nI (min (r - m) w)) := fun B => by
            have e1 : (if nI w ≤ nI r - nI m then some (nI w) else some (nI r - nI m)) = some (if nI w ≤ nI r - nI m then nI w else nI r - nI m) := by
              split <;> rfl
            rw [bd1_eq e1]
            have e2 := known_I (w := w) r2 (show m ≤ 400 by omega) (by omega) rfl
            have e3 : (if (if nI w ≤ nI r - nI m then nI w else nI r - nI m) ≤ 0 then some (0 : Int32) else some (if nI w ≤ nI r - nI m then nI w else nI r - nI m)) = some (nI (min (r - m) w)) := by
              rw [← e2]
              split <;> split <;> rfl
            rw [bd1_eq e3]
          have k2 : (if nI (m + w) ≤ nI r then some (nI r) else some (nI (m + w))) = some (nI (max r (m + w))) := by
            by_cases z : m + w ≤ r
            · rw [if_pos (nI_le z (by omega))]
              congr 2
              omega
            · rw [if_neg (nI_ge (by omega) (by omega))]
              congr 2
              omega
          have ag1 : agr p (upd mg j (nI (m + w))) (upd mg2 j (nI (m + w))) := a1.upd j _
          have ag2 : agr p (upd rc j (nI (max r (m + w)))) (upd rc2 j (nI (max r (m + w)))) := a2.upd j _
          have ag4 : agr 8 (upd hb h (hb h + nI w)) (upd hb2 h (hb h + nI w)) := a4.upd h _
          have q5 : ∀ i, i < p → qM s i (upd mg j (nI (m + w)) i) := fun i hi => by
            by_cases z : i = j
            · rw [z, pk_us]
              exact ⟨m + w, rfl, by omega⟩
            · rw [pk_un z]
              exact a5 i hi
          have q6 : ∀ i, i < p → q4 (upd rc j (nI (max r (m + w))) i) := fun i hi => by
            by_cases z : i = j
            · rw [z, pk_us]
              exact ⟨max r (m + w), rfl, by omega⟩
            · rw [pk_un z]
              exact a6 i hi
          by_cases z : m + w = s j
          · have e20 : (if nI (m + w) = nI (s j) then some (1 : Int32) else some 0) = some 1 := if_pos (by rw [z])
            rw [bd1_eq e20, k1, bd1_eq k2, if_pos (nI_le (show s j ≤ m + w by omega) (by omega)), hb1, if_neg (show ¬ vp_nar .boolean 1 = 0 by decide)]
            exact work_loop hN hp hh hs hsz hln f (j + 1) (L - w) _ _ _ _ _ _ _ _ _ _ (by omega) (by omega) (by omega) ag1 ag2 (a3.upd j _) ag4 q5 q6
          · have e20 : (if nI (m + w) = nI (s j) then some (1 : Int32) else some 0) = some 0 := if_neg fun e => z ((nI_eq (by omega) (by omega)).mp e)
            rw [bd1_eq e20, k1, bd1_eq k2, if_neg (nI_ge (show m + w < s j by omega) (by omega)), hb1, if_pos (show vp_nar .boolean 0 = 0 by decide)]
            have fin : ∀ (A B C D : Nat → Int32) (x y : Int32), l_X7_tick_55 N (nI p) sz2 ln2 (nI h) f (-1) (nI (j + 1)) A B C x y D = some (A, B, C, x, y, D) := fun A B C D x y => by
              obtain ⟨g, rfl⟩ : ∃ g, f = g + 1 := ⟨f - 1, by omega⟩
              rw [l_X7_tick_55]
              by_cases o : p ≤ j + 1
              · rw [if_pos (nI_le o (by omega))]
              · rw [if_neg (nI_ge (by omega) (by omega)), if_pos (by decide)]
            rw [fin]
            refine ⟨_, _, _, _, _, _, _, _, _, _, rfl, rfl, ag1, ag2, fun i hi => ?_, ag4, q5, q6⟩
            by_cases o : i = j
            · rw [o, pk_us, d, nb0]
            · rw [pk_un o]
              exact a3 i hi
        · rw [if_neg d, if_neg d]
          exact work_loop hN hp hh hs hsz hln f (j + 1) L _ _ _ _ _ _ _ _ _ _ (by omega) (by omega) hL a1 a2 a3 a4 a5 a6
      · rw [if_neg u, if_neg u]
        exact work_loop hN hp hh hs hsz hln f (j + 1) L _ _ _ _ _ _ _ _ _ _ (by omega) (by omega) hL a1 a2 a3 a4 a5 a6
theorem go_loop {N p : Nat} (hN : 1000 ≤ N) (hp : p ≤ 8) {s : Nat → Nat} {sz ln sz2 ln2 pc pc2 up up2 : Nat → Int32} (hs : ∀ j, j < p → sz j = nI (s j) ∧ s j ≤ 400) (hsz : agr p sz sz2) (hln : agr p ln ln2) (hup : agr 8 up up2) (hpc : agr 8 pc pc2) (hpc5 : ∀ k, k < 8 → ∃ x, pc k = nI x ∧ x ≤ 50) :
    ∀ (f h : Nat) (mg rc dn hb mg2 rc2 dn2 hb2 : Nat → Int32) (all ag : Int32), h ≤ 8 → 8 - h < f → agr p mg mg2 → agr p rc rc2 → agr p dn dn2 → agr 8 hb hb2 → (∀ i, i < p → qM s i (mg i)) → (∀ i, i < p → q4 (rc i)) →
    ∃ (mg' rc' dn' hb' mg2' rc2' dn2' hb2' : Nat → Int32) (all' ag' : Int32), l_X0_goOn_17 N sz ln (nI p) pc up f (nI h) mg rc dn hb all ag = some (mg', rc', dn', hb', all', ag') ∧ l_X7_tick_26 N (nI p) sz2 ln2 pc2 up2 f (nI h) mg2 rc2 dn2 all ag hb2 = some (mg2', rc2', dn2', all', ag', hb2') ∧ agr p mg' mg2' ∧ agr p rc' rc2' ∧ agr p dn' dn2' ∧ agr 8 hb' hb2' ∧ (∀ i, i < p → qM s i (mg' i)) ∧ ∀ i, i < p → q4 (rc' i)
  | 0, h, mg, rc, dn, hb, mg2, rc2, dn2, hb2, all, ag, _, hf, _, _, _, _, _, _ => absurd hf (by omega)
  | f + 1, h, mg, rc, dn, hb, mg2, rc2, dn2, hb2, all, ag, hh, hf, a1, a2, a3, a4, a5, a6 => by
    rw [l_X0_goOn_17, l_X7_tick_26]
    by_cases q : 8 ≤ h
    · have q8 : (8 : Int32) ≤ nI h := nI_le (a := 8) q (by omega)
      rw [if_pos q8, if_pos q8]
      exact ⟨mg, rc, dn, hb, mg2, rc2, dn2, hb2, all, ag, rfl, rfl, a1, a2, a3, a4, a5, a6⟩
    · have q8 : ¬ (8 : Int32) ≤ nI h := nI_ge (b := 8) (by omega) (by decide)
      have gh : ∀ {β : Type} {X : Option β}, gd (ix (nI h) 8) X = X := gd_nI (by omega) (by decide)
      have ch : (nI h).toNatClampNeg = h := nI_clamp (by omega)
      rw [if_neg q8, if_neg q8]
      simp only [gh, ch, nl_e, nI_1]
      rw [← hup h (by omega), ← hpc h (by omega)]
      by_cases u : up h = 0
      · have fin : l_X7_tick_55 N (nI p) sz2 ln2 (nI h) N (-1) 0 mg2 rc2 dn2 all ag hb2 = some (mg2, rc2, dn2, all, ag, hb2) := by
          obtain ⟨g, rfl⟩ : ∃ g, N = g + 1 := ⟨N - 1, by omega⟩
          rw [l_X7_tick_55]
          by_cases o : p ≤ 0
          · have o8 : nI p ≤ (0 : Int32) := nI_le (b := 0) o (by omega)
            rw [if_pos o8]
          · have o8 : ¬ nI p ≤ (0 : Int32) := nI_nle (by omega) (by omega)
            rw [if_neg o8, if_pos (by decide)]
        rw [if_pos u, if_pos u, bd1_eq rfl, bd6_eq fin]
        exact go_loop hN hp hs hsz hln hup hpc hpc5 f (h + 1) _ _ _ _ _ _ _ _ _ _ (by omega) (by omega) a1 a2 a3 a4 a5 a6
      · obtain ⟨P, P1, P2⟩ := hpc5 h (by omega)
        obtain ⟨mg', rc', dn', hb', mg2', rc2', dn2', hb2', all', ag', r1, r2, r3, r4, r5, r6, r7, r8⟩ := work_loop hN hp (show h < 8 by omega) hs hsz hln N 0 P mg rc dn hb mg2 rc2 dn2 hb2 all ag (by omega) (by omega) P2 a1 a2 a3 a4 a5 a6
        have c1 : f_X0_workAtPartsOf N sz ln mg rc dn hb (nI p) all ag (nI h) (nI P) = some (mg', rc', dn', hb', all', ag') := by
          unfold f_X0_workAtPartsOf
          have e : l_X0_workAtPartsOf_5 N sz ln (nI p) (nI h) N (nI P) 0 mg rc dn hb all ag = some (mg', rc', dn', hb', all', ag') := r1
          rw [bd6_eq e]
        have c2 : l_X7_tick_55 N (nI p) sz2 ln2 (nI h) N (nI P) 0 mg2 rc2 dn2 all ag hb2 = some (mg2', rc2', dn2', all', ag', hb2') := r2
        rw [if_neg u, if_neg u, P1, bd6_eq c1, bd1_eq rfl, bd6_eq c2]
        exact go_loop hN hp hs hsz hln hup hpc hpc5 f (h + 1) _ _ _ _ _ _ _ _ _ _ (by omega) (by omega) r3 r4 r5 r6 r7 r8
