/-! A CUT: where its PARTS end, and how many ROWS they have. My own text. -/
def pq (m k j : Nat) : Nat := (j + 1) * m / k
def pL (sq : Nat → Nat) (m k c j : Nat) : Nat := if j + 1 = k then c else if pq m k j = 0 then 0 else sq (pq m k j - 1) + 1
def pE (sq io : Nat → Nat) (m k j : Nat) : Int32 := if j + 1 = k then -1 else if pq m k j = 0 then -1 else nI (io (sq (pq m k j - 1)))
def pB (sq : Nat → Nat) (m k c j : Nat) : Nat := if j = 0 then 0 else pL sq m k c (j - 1)
theorem pq_le {m k j : Nat} (hk : 0 < k) (hj : j + 1 ≤ k) : pq m k j ≤ m := by
  unfold pq
  have h : (j + 1) * m ≤ k * m := Nat.mul_le_mul_right m hj
  exact Nat.div_le_of_le_mul h
theorem pq_mono {m k i j : Nat} (h : i ≤ j) : pq m k i ≤ pq m k j := Nat.div_le_div_right (Nat.mul_le_mul_right m (by omega))
theorem pL_le {sq : Nat → Nat} {m k c j : Nat} (hk : 0 < k) (hj : j < k) (hsq : ∀ q, q < m → sq q < c) : pL sq m k c j ≤ c := by
  unfold pL
  have h := pq_le (m := m) hk (show j + 1 ≤ k by omega)
  split
  · exact Nat.le_refl _
  · split
    · exact Nat.zero_le _
    · have := hsq (pq m k j - 1) (by omega)
      omega
theorem pL_mono {sq : Nat → Nat} {m k c j : Nat} (hk : 0 < k) (hj : j + 1 < k) (hsq : ∀ q, q < m → sq q < c) (hinc : ∀ q q', q < q' → q' < m → sq q < sq q') : pL sq m k c j ≤ pL sq m k c (j + 1) := by
  by_cases z : j + 1 + 1 = k
  · have e : pL sq m k c (j + 1) = c := if_pos z
    rw [e]
    exact pL_le hk (by omega) hsq
  · have hm := pq_mono (m := m) (k := k) (show j ≤ j + 1 by omega)
    have h2 := pq_le (m := m) hk (show j + 1 + 1 ≤ k by omega)
    unfold pL
    rw [if_neg (by omega), if_neg z]
    by_cases y : pq m k j = 0
    · rw [if_pos y]
      exact Nat.zero_le _
    · rw [if_neg y, if_neg (by omega)]
      by_cases x : pq m k j = pq m k (j + 1)
      · rw [x]
        exact Nat.le_refl _
      · have := hinc (pq m k j - 1) (pq m k (j + 1) - 1) (by omega) (by omega)
        omega
theorem pB_le {sq : Nat → Nat} {m k c j : Nat} (hk : 0 < k) (hj : j < k) (hsq : ∀ q, q < m → sq q < c) (hinc : ∀ q q', q < q' → q' < m → sq q < sq q') : pB sq m k c j ≤ pL sq m k c j := by
  unfold pB
  by_cases z : j = 0
  · rw [if_pos z]
    exact Nat.zero_le _
  · rw [if_neg z]
    have h := pL_mono (sq := sq) (m := m) (k := k) (c := c) (j := j - 1) hk (by omega) hsq hinc
    have e : j - 1 + 1 = j := by omega
    rw [e] at h
    exact h
theorem pq_I {m k j : Nat} (hm : m ≤ 400) (hk : 0 < k) (hk8 : k ≤ 8) (hj : j < 8) : nI (j + 1) * nI m / nI k = nI (pq m k j) := by
  have h : (j + 1) * m ≤ 8 * 400 := Nat.mul_le_mul (by omega) hm
  rw [pk_mul, pk_div (by omega) hk (by omega)]
  rfl
theorem p_rowInOrder (N : Nat) {c i : Nat} {inO : Nat → Int32} {io : Nat → Nat} (hc : c ≤ 400) (h : ∀ k, k < c → inO k = nI (io k)) (hi : i < c) : f_X5_rowInOrder N inO (nI c) (nI i) = some (nI (io i)) := by
  unfold f_X5_rowInOrder
  have e : (nI c - 1).toInt = (c : Int) - 1 := pk_sub_toInt (b := 1) (by omega) (by omega)
  have e0 : (0 : Int32).toInt = 0 := by decide
  have er : (nI i).toInt = (i : Int) := nI_toInt (by omega)
  rw [bd1_eq (p_isIn N (nI i) 0 (nI c - 1)), e, e0, er, if_pos (show (0 : Int) ≤ (i : Int) ∧ (i : Int) ≤ (c : Int) - 1 by omega), if_neg (by decide), gd_nI (show i < 400 by omega) (by decide), nI_clamp (show i < 2 ^ 31 by omega), h i hi]
theorem p_rowInOrder_m1 (N : Nat) (inO : Nat → Int32) (c : Int32) : f_X5_rowInOrder N inO c (-1) = some (-1) := by
  unfold f_X5_rowInOrder
  have e0 : (0 : Int32).toInt = 0 := by decide
  have e1 : (-1 : Int32).toInt = -1 := by decide
  rw [bd1_eq (p_isIn N (-1) 0 (c - 1)), e0, e1, if_neg (show ¬ ((0 : Int) ≤ -1 ∧ (-1 : Int) ≤ (c - 1).toInt) from fun h => absurd h.1 (by omega)), if_pos rfl]
theorem p_lastStanding (N : Nat) {m q : Nat} {ss : Nat → Int32} (hm : m ≤ 400) (hq : q < m) : f_X0_lastStanding N ss (nI m) (nI q) = some (ss q) := by
  unfold f_X0_lastStanding
  have e : (nI m - 1).toInt = (m : Int) - 1 := pk_sub_toInt (b := 1) (by omega) (by omega)
  have e0 : (0 : Int32).toInt = 0 := by decide
  have er : (nI q).toInt = (q : Int) := nI_toInt (by omega)
  rw [bd1_eq (p_isIn N (nI q) 0 (nI m - 1)), e, e0, er, if_pos (show (0 : Int) ≤ (q : Int) ∧ (q : Int) ≤ (m : Int) - 1 by omega), if_neg (by decide), gd_nI (show q < 400 by omega) (by decide), nI_clamp (show q < 2 ^ 31 by omega)]
theorem p_lastStanding_m1 (N : Nat) (ss : Nat → Int32) (m : Int32) : f_X0_lastStanding N ss m (-1) = some (-1) := by
  unfold f_X0_lastStanding
  have e0 : (0 : Int32).toInt = 0 := by decide
  have e1 : (-1 : Int32).toInt = -1 := by decide
  rw [bd1_eq (p_isIn N (-1) 0 (m - 1)), e0, e1, if_neg (show ¬ ((0 : Int) ≤ -1 ∧ (-1 : Int) ≤ (m - 1).toInt) from fun h => absurd h.1 (by omega)), if_pos rfl]
/-- where a PART's last ROW stands, as a number from -1 on -/
def pT (sq : Nat → Nat) (m k c j : Nat) : Int32 := if j + 1 = k then nI (c - 1) else if pq m k j = 0 then -1 else nI (sq (pq m k j - 1))
theorem pT_1 {sq : Nat → Nat} {m k c j : Nat} (hc : 0 < c) : pT sq m k c j + 1 = nI (pL sq m k c j) := by
  unfold pT pL
  split
  · rw [nI_1]
    congr 1
    omega
  · split
    · rfl
    · rw [nI_1]
theorem c_parts {N c m k : Nat} {sq io : Nat → Nat} {inO ss : Nat → Int32} (hc : c ≤ 400) (hc0 : 0 < c) (hm : m ≤ c) (hk : 0 < k) (hk8 : k ≤ 8) (hsq : ∀ q, q < m → sq q < c ∧ ss q = nI (sq q)) (hinc : ∀ q q', q < q' → q' < m → sq q < sq q') (hinO : ∀ i, i < c → inO i = nI (io i)) :
    ∀ (f j : Nat) (sz en mg rc dn : Nat → Int32), j ≤ k → k - j < f → (∀ y, y < j → sz y = nI (pL sq m k c y - pB sq m k c y) ∧ en y = pE sq io m k y ∧ mg y = 0 ∧ rc y = 0 ∧ dn y = 0) →
    ∃ (sz' en' mg' rc' dn' : Nat → Int32), l_X0_makeOf_63 N inO (nI c) ss (nI m) (nI k) f (nI (pB sq m k c j)) (nI j) sz en mg rc dn = some (sz', en', mg', rc', dn') ∧ ∀ y, y < k → sz' y = nI (pL sq m k c y - pB sq m k c y) ∧ en' y = pE sq io m k y ∧ mg' y = 0 ∧ rc' y = 0 ∧ dn' y = 0
  | 0, j, sz, en, mg, rc, dn, _, hf, _ => absurd hf (by omega)
  | f + 1, j, sz, en, mg, rc, dn, hj, hf, h => by
    rw [l_X0_makeOf_63]
    by_cases q : k ≤ j
    · have e : j = k := by omega
      rw [if_pos (nI_le q (by omega))]
      rw [e] at h
      exact ⟨sz, en, mg, rc, dn, rfl, h⟩
    · have ek : nI k - 1 = nI (k - 1) := nI_s1 hk
      have hle := pq_le (m := m) hk (show j + 1 ≤ k by omega)
      have d1 : (if nI j = nI (k - 1) then some (nI c - 1) else gd (nz (nI k)) <| bd1 (f_X0_lastStanding N ss (nI m) ((nI j + 1) * nI m / nI k - 1)) fun r37 => some r37) = some (pT sq m k c j) := by
        unfold pT
        by_cases z : j + 1 = k
        · rw [if_pos (show nI j = nI (k - 1) by congr 1; omega), if_pos z, nI_s1 hc0]
        · have hne : ¬ nI j = nI (k - 1) := fun e => by
            have := (nI_eq (by omega) (by omega)).mp e
            omega
          rw [if_neg hne, if_neg z, gd_nz hk (by omega), nI_1, pq_I (by omega) hk hk8 (by omega)]
          by_cases y : pq m k j = 0
          · have e1 : nI (pq m k j) - 1 = (-1 : Int32) := by rw [y]; decide
            rw [e1, bd1_eq (p_lastStanding_m1 N ss (nI m)), if_pos y]
          · rw [nI_s1 (by omega), bd1_eq (p_lastStanding N (ss := ss) (show m ≤ 400 by omega) (show pq m k j - 1 < m by omega)), if_neg y, (hsq _ (show pq m k j - 1 < m by omega)).2]
      have d2 : (if nI j = nI (k - 1) then some (-1 : Int32) else bd1 (f_X5_rowInOrder N inO (nI c) (pT sq m k c j)) fun r33 => some r33) = some (pE sq io m k j) := by
        unfold pE pT
        by_cases z : j + 1 = k
        · rw [if_pos (show nI j = nI (k - 1) by congr 1; omega), if_pos z]
        · have hne : ¬ nI j = nI (k - 1) := fun e => by
            have := (nI_eq (by omega) (by omega)).mp e
            omega
          rw [if_neg hne, if_neg z, if_neg z]
          by_cases y : pq m k j = 0
          · rw [if_pos y, if_pos y, bd1_eq (p_rowInOrder_m1 N inO (nI c))]
          · rw [if_neg y, if_neg y, bd1_eq (p_rowInOrder N hc hinO (hsq _ (show pq m k j - 1 < m by omega)).1)]
      have ba : f_X0_beginAnew N mg dn (nI j) = some (upd mg j 0, upd dn j (vp_nar .boolean 0)) := by
        unfold f_X0_beginAnew
        rw [gd_nI (show j < 8 by omega) (by decide), gd_nI (show j < 8 by omega) (by decide), nI_clamp (show j < 2 ^ 31 by omega)]
      have hB := pB_le (sq := sq) (m := m) (c := c) hk (show j < k by omega) (fun q hq => (hsq q hq).1) hinc
      have eB : pB sq m k c (j + 1) = pL sq m k c j := rfl
      rw [if_neg (nI_ge (by omega) (by omega)), ek, bd1_eq d1, bd1_eq d2, gd_nI (show j < 8 by omega) (by decide), nl_e, gd_nI (show j < 8 by omega) (by decide), nl_e, gd_nI (show j < 8 by omega) (by decide), bd2_eq ba, nl_e, pT_1 hc0, nI_sub hB, nI_1, nI_clamp (show j < 2 ^ 31 by omega), ← eB]
      refine c_parts hc hc0 hm hk hk8 hsq hinc hinO f (j + 1) _ _ _ _ _ (by omega) (by omega) fun y hy => ?_
      by_cases z : y = j
      · rw [z, pk_us, pk_us, pk_us, pk_us, pk_us, eB]
        exact ⟨rfl, rfl, rfl, rfl, nb0⟩
      · rw [pk_un z, pk_un z, pk_un z, pk_un z, pk_un z]
        exact h y (by omega)
theorem m_ends {N c m k : Nat} {sq io : Nat → Nat} {sample : Nat → Int32} (hc : c ≤ 400) (hm : m ≤ c) (hk : 0 < k) (hk8 : k ≤ 8) (hsq : ∀ q, q < m → sample q = nI (io (sq q))) :
    ∀ (f j : Nat) (en : Nat → Int32), j ≤ k → k - j < f → (∀ y, y < j → en y = pE sq io m k y) → ∃ en', l_X7_cut_173 N (nI m) sample (nI k) f (nI (j + 1)) en = some en' ∧ ∀ y, y < k → en' y = pE sq io m k y
  | 0, j, en, _, hf, _ => absurd hf (by omega)
  | f + 1, j, en, hj, hf, h => by
    rw [l_X7_cut_173]
    by_cases q : k ≤ j
    · have e : j = k := by omega
      rw [if_pos (nI_lt (by omega) (by omega))]
      rw [e] at h
      exact ⟨en, rfl, h⟩
    · have hle := pq_le (m := m) hk (show j + 1 ≤ k by omega)
      rw [if_neg (nI_nlt (by omega) (by omega)), gd_nz hk (by omega), nl_e, pq_I (by omega) hk hk8 (by omega), nI_pred]
      have ih := fun v (hv : v = pE sq io m k j) => m_ends (N := N) hc hm hk hk8 hsq f (j + 1) (upd en j v) (by omega) (by omega) (fun y hy => by
        by_cases z : y = j
        · rw [z, pk_us, hv]
        · rw [pk_un z]
          exact h y (by omega))
      by_cases z : j + 1 = k
      · rw [if_pos (show nI (j + 1) = nI k by rw [z]), gd_nI (show j < 8 by omega) (by decide), nl_e, nI_1, nI_clamp (show j < 2 ^ 31 by omega)]
        exact ih _ (by unfold pE; rw [if_pos z])
      · have hne : ¬ nI (j + 1) = nI k := fun e => by
          have := (nI_eq (by omega) (by omega)).mp e
          omega
        rw [if_neg hne]
        by_cases y : pq m k j = 0
        · have e1 : ¬ (0 : Int32) ≤ nI (pq m k j) - 1 := by rw [y]; decide
          rw [if_neg e1, gd_nI (show j < 8 by omega) (by decide), nl_e, nI_1, nI_clamp (show j < 2 ^ 31 by omega)]
          exact ih _ (by unfold pE; rw [if_neg z, if_pos y])
        · rw [nI_s1 (by omega), if_pos (nI_pos' (show pq m k j - 1 < 2 ^ 31 by omega)), gd_nI (show pq m k j - 1 < 400 by omega) (by decide), nl_e, gd_nI (show j < 8 by omega) (by decide), nl_e, nI_1, nI_clamp (show j < 2 ^ 31 by omega), nI_clamp (show pq m k j - 1 < 2 ^ 31 by omega)]
          exact ih _ (by unfold pE; rw [if_neg z, if_neg y]; exact hsq _ (by omega))
theorem m_c227 {N k : Nat} (hk8 : k ≤ 8) : ∀ (f j : Nat) (sz mg ms dn on : Nat → Int32), j ≤ k → k - j < f → (∀ y, y < j → sz y = 0 ∧ mg y = 0 ∧ ms y = 0 ∧ dn y = 0 ∧ on y = nI y) →
    ∃ (sz' mg' ms' dn' on' : Nat → Int32), l_X7_cut_227 N (nI k) f (nI j) sz mg ms dn on = some (sz', mg', ms', dn', on') ∧ ∀ y, y < k → sz' y = 0 ∧ mg' y = 0 ∧ ms' y = 0 ∧ dn' y = 0 ∧ on' y = nI y
  | 0, j, sz, mg, ms, dn, on, _, hf, _ => absurd hf (by omega)
  | f + 1, j, sz, mg, ms, dn, on, hj, hf, h => by
    rw [l_X7_cut_227]
    by_cases q : k ≤ j
    · have e : j = k := by omega
      rw [if_pos (nI_le q (by omega))]
      rw [e] at h
      exact ⟨sz, mg, ms, dn, on, rfl, h⟩
    · rw [if_neg (nI_ge (by omega) (by omega)), gd_nI (show j < 8 by omega) (by decide), gd_nI (show j < 8 by omega) (by decide), gd_nI (show j < 8 by omega) (by decide), gd_nI (show j < 8 by omega) (by decide), gd_nI (show j < 8 by omega) (by decide), nl_e, nI_1, nI_clamp (show j < 2 ^ 31 by omega)]
      refine m_c227 hk8 f (j + 1) _ _ _ _ _ (by omega) (by omega) fun y hy => ?_
      by_cases z : y = j
      · rw [z, pk_us, pk_us, pk_us, pk_us, pk_us]
        exact ⟨rfl, rfl, rfl, nb0, rfl⟩
      · rw [pk_un z, pk_un z, pk_un z, pk_un z, pk_un z]
        exact h y (by omega)
