/-! A CUT: the reference counts the ROWS of PARTS. My own text. -/
theorem isin_tail {N c m k j row : Nat} {sq io so : Nat → Nat} {S V T Fl en : Nat → Int32} (hc : c ≤ 400) (hm : m ≤ c) (hk : 0 < k) (hk8 : k ≤ 8) (hj : j < k) (hrow : row < c) (hen : en j = pE sq io m k j) (hsq : ∀ q, q < m → sq q < c) (hio : ∀ i, i < c → io i < c) (hso : so row < c)
    (ah : ∀ i, i < c → f_X7_ahead N S V T Fl (nI (io i)) (nI row) = some (if i < so row then 1 else 0)) :
    (if nI j = (nI k - 1) then gd (bz (1 : Int32)) <| some (1 : Int32) else gd (ix (nI j) 8) <| if en (nI j).toNatClampNeg = (-1 : Int32) then gd (bz (0 : Int32)) <| some (0 : Int32) else gd (ix (nI j) 8) <| bd1 (f_X7_ahead N S V T Fl (en (nI j).toNatClampNeg) (nI row)) fun r => if r = 0 then gd (bz (1 : Int32)) <| some (1 : Int32) else gd (bz (0 : Int32)) <| some (0 : Int32)) = some (if so row < pL sq m k c j then 1 else 0) := by
  have hle := pq_le (m := m) hk (show j + 1 ≤ k by omega)
  rw [nI_s1 hk, nI_clamp (show j < 2 ^ 31 by omega), hen]
  unfold pE pL
  by_cases z : j + 1 = k
  · rw [if_pos (show nI j = nI (k - 1) by congr 1; omega), if_pos z, if_pos hso]
    rfl
  · have hne : ¬ nI j = nI (k - 1) := fun e => by
      have := (nI_eq (by omega) (by omega)).mp e
      omega
    rw [if_neg hne, if_neg z, if_neg z, gd_nI (show j < 8 by omega) (by decide)]
    by_cases y : pq m k j = 0
    · rw [if_pos y, if_pos y, if_pos rfl, if_neg (show ¬ so row < 0 by omega)]
      rfl
    · have hs := hsq (pq m k j - 1) (by omega)
      have hi := hio _ hs
      rw [if_neg y, if_neg y, if_neg (nI_ne_m1 (show io (sq (pq m k j - 1)) < 2 ^ 31 by omega)), gd_nI (show j < 8 by omega) (by decide), bd1_eq (ah _ hs)]
      by_cases x : sq (pq m k j - 1) < so row
      · rw [if_pos x, if_neg (by decide), if_neg (by omega)]
        rfl
      · rw [if_neg x, if_pos rfl, if_pos (by omega)]
        rfl
theorem m_isIn {N c m k j row : Nat} {sq io so : Nat → Nat} {S V T Fl en : Nat → Int32} (hc : c ≤ 400) (hm : m ≤ c) (hk : 0 < k) (hk8 : k ≤ 8) (hj : j < k) (hrow : row < c) (hen : ∀ y, y < k → en y = pE sq io m k y) (hsq : ∀ q, q < m → sq q < c) (hio : ∀ i, i < c → io i < c) (hso : so row < c)
    (ah : ∀ i, i < c → f_X7_ahead N S V T Fl (nI (io i)) (nI row) = some (if i < so row then 1 else 0)) :
    f_X7_isIn N S V T Fl (nI k) en (nI row) (nI j) = some (if pB sq m k c j ≤ so row ∧ so row < pL sq m k c j then 1 else 0) := by
  have tl := isin_tail (N := N) (S := S) (V := V) (T := T) (Fl := Fl) hc hm hk hk8 hj hrow (hen j hj) hsq hio hso ah
  unfold f_X7_isIn
  by_cases j0 : j = 0
  · have e : pB sq m k c j = 0 := if_pos j0
    have hz : nI j ≤ (0 : Int32) := by rw [j0]; decide
    rw [if_pos hz, tl, e]
    by_cases x : so row < pL sq m k c j
    · rw [if_pos x, if_pos ⟨by omega, x⟩]
    · rw [if_neg x, if_neg (fun h => x h.2)]
  · have e : pB sq m k c j = pL sq m k c (j - 1) := if_neg j0
    have hle := pq_le (m := m) hk (show j - 1 + 1 ≤ k by omega)
    have hn1 : ¬ j - 1 + 1 = k := by omega
    rw [if_neg (nI_nle (by omega) (by omega)), nI_s1 (show 0 < j by omega), gd_nI (show j - 1 < 8 by omega) (by decide), nI_clamp (show j - 1 < 2 ^ 31 by omega), hen (j - 1) (by omega), e]
    have eE : pE sq io m k (j - 1) = if pq m k (j - 1) = 0 then -1 else nI (io (sq (pq m k (j - 1) - 1))) := if_neg hn1
    have eL : pL sq m k c (j - 1) = if pq m k (j - 1) = 0 then 0 else sq (pq m k (j - 1) - 1) + 1 := if_neg hn1
    rw [eE, eL]
    by_cases y : pq m k (j - 1) = 0
    · rw [if_pos y, if_pos y, if_pos rfl, tl]
      by_cases x : so row < pL sq m k c j
      · rw [if_pos x, if_pos ⟨by omega, x⟩]
      · rw [if_neg x, if_neg (fun h => x h.2)]
    · have hs := hsq (pq m k (j - 1) - 1) (by omega)
      have hi := hio _ hs
      rw [if_neg y, if_neg y, if_neg (nI_ne_m1 (show io (sq (pq m k (j - 1) - 1)) < 2 ^ 31 by omega)), gd_nI (show j - 1 < 8 by omega) (by decide), bd1_eq (ah _ hs)]
      by_cases x : sq (pq m k (j - 1) - 1) < so row
      · rw [if_pos x, if_neg (by decide), tl]
        by_cases w : so row < pL sq m k c j
        · rw [if_pos w, if_pos ⟨by omega, w⟩]
        · rw [if_neg w, if_neg (fun h => w h.2)]
      · rw [if_neg x, if_pos rfl, if_neg (show ¬ (sq (pq m k (j - 1) - 1) + 1 ≤ so row ∧ so row < pL sq m k c j) by omega)]
        rfl
theorem ct_one {c v : Nat} {s : Nat → Nat} (h1 : ∀ i, i < c → s i < c) (h2 : ∀ i j, i < c → j < c → s i = s j → i = j) (hv : v < c) : fb_ct (fun y => decide (s y = v)) c = 1 := by
  obtain ⟨y0, a1, a2⟩ := fb_onto h1 (fun i j hij hj e => by have := h2 i j (by omega) hj e; omega) hv
  have e1 : fb_ct (fun y => decide (s y = v)) c = fb_ct (fun k => if k = y0 then true else (fun _ => false) k) c := fb_ct_cong fun k hk => by
    by_cases z : k = y0
    · rw [if_pos z, z]
      exact decide_eq_true a2
    · rw [if_neg z]
      exact decide_eq_false fun e => z (h2 k y0 hk a1 (by rw [e, a2]))
  have e2 := fb_ct_upd (fun _ => false) true a1
  have e3 : fb_ct (fun _ => false) c = 0 := fb_ct_zero.mpr fun _ _ => rfl
  rw [e1]
  rw [e3] at e2
  simpa using e2
theorem ct_below {c : Nat} {s : Nat → Nat} (h1 : ∀ i, i < c → s i < c) (h2 : ∀ i j, i < c → j < c → s i = s j → i = j) : ∀ v, v ≤ c → fb_ct (fun y => decide (s y < v)) c = v
  | 0, _ => fb_ct_zero.mpr fun k _ => decide_eq_false (Nat.not_lt_zero _)
  | v + 1, hv => by
    have ih := ct_below h1 h2 v (by omega)
    have e1 := ct_one h1 h2 (show v < c by omega)
    have e2 := fb_ct_or (p := fun y => decide (s y < v)) (q := fun y => decide (s y = v)) (n := c) (fun k _ h => by
      have a := of_decide_eq_true h.1
      have b := of_decide_eq_true h.2
      omega)
    have e3 : fb_ct (fun y => decide (s y < v + 1)) c = fb_ct (fun k => decide (s k < v) || decide (s k = v)) c := fb_ct_cong fun k _ => by
      by_cases a : s k < v
      · rw [decide_eq_true a, decide_eq_true (show s k < v + 1 by omega)]
        rfl
      · by_cases b : s k = v
        · rw [decide_eq_true b, decide_eq_true (show s k < v + 1 by omega), Bool.or_true]
        · rw [decide_eq_false a, decide_eq_false b, decide_eq_false (show ¬ s k < v + 1 by omega)]
          rfl
    rw [e3, e2, ih, e1]
theorem ct_perm {c a b : Nat} {s : Nat → Nat} (h1 : ∀ i, i < c → s i < c) (h2 : ∀ i j, i < c → j < c → s i = s j → i = j) (hab : a ≤ b) (hb : b ≤ c) : fb_ct (fun y => decide (a ≤ s y ∧ s y < b)) c = b - a := by
  have e1 := ct_below h1 h2 a (by omega)
  have e2 := ct_below h1 h2 b hb
  have e3 := fb_ct_or (p := fun y => decide (a ≤ s y ∧ s y < b)) (q := fun y => decide (s y < a)) (n := c) (fun k _ h => by
    have x := of_decide_eq_true h.1
    have y := of_decide_eq_true h.2
    omega)
  have e4 : fb_ct (fun y => decide (s y < b)) c = fb_ct (fun k => decide (a ≤ s k ∧ s k < b) || decide (s k < a)) c := fb_ct_cong fun k _ => by
    by_cases x : s k < a
    · rw [decide_eq_true x, decide_eq_true (show s k < b by omega), Bool.or_true]
    · by_cases y : s k < b
      · rw [decide_eq_true y, decide_eq_true (show a ≤ s k ∧ s k < b by omega)]
        rfl
      · rw [decide_eq_false y, decide_eq_false x, decide_eq_false (show ¬ (a ≤ s k ∧ s k < b) by omega)]
        rfl
  omega
def pC (sq : Nat → Nat) (m k c : Nat) (s : Nat → Nat) (y v : Nat) : Nat := fb_ct (fun z => decide (pB sq m k c y ≤ s z ∧ s z < pL sq m k c y)) v
theorem m_c320 {N c m k v row : Nat} {sq io so s : Nat → Nat} {S V T Fl en pool : Nat → Int32} (hc : c ≤ 400) (hm : m ≤ c) (hk : 0 < k) (hk8 : k ≤ 8) (hv : v < 400) (hpool : pool v = nI row) (hs : s v = so row) (hrow : row < c) (hen : ∀ y, y < k → en y = pE sq io m k y) (hsq : ∀ q, q < m → sq q < c) (hio : ∀ i, i < c → io i < c) (hso : so row < c)
    (ah : ∀ i, i < c → f_X7_ahead N S V T Fl (nI (io i)) (nI row) = some (if i < so row then 1 else 0)) :
    ∀ (f j : Nat) (sz : Nat → Int32), j ≤ k → k - j < f → (∀ y, y < k → sz y = nI (pC sq m k c s y (if y < j then v + 1 else v))) → ∃ sz', l_X7_cut_320 N S V T Fl pool (nI k) en (nI k) (nI v) f (nI j) sz = some sz' ∧ ∀ y, y < k → sz' y = nI (pC sq m k c s y (v + 1))
  | 0, j, sz, _, hf, _ => absurd hf (by omega)
  | f + 1, j, sz, hj, hf, h => by
    rw [l_X7_cut_320]
    by_cases q : k ≤ j
    · rw [if_pos (nI_le q (by omega))]
      refine ⟨sz, rfl, fun y hy => ?_⟩
      rw [h y hy, if_pos (by omega)]
    · have hh := h j (by omega)
      rw [if_neg (show ¬ j < j by omega)] at hh
      have hsu : pC sq m k c s j (v + 1) = pC sq m k c s j v + (if pB sq m k c j ≤ so row ∧ so row < pL sq m k c j then 1 else 0) := by
        unfold pC
        rw [fb_ct_succ, hs]
        by_cases x : pB sq m k c j ≤ so row ∧ so row < pL sq m k c j
        · rw [if_pos x, if_pos (decide_eq_true x)]
        · rw [if_neg x, if_neg (by rw [decide_eq_false x]; decide)]
      have ih := fun (sz1 : Nat → Int32) (e1 : sz1 = upd sz j (nI (pC sq m k c s j (v + 1)))) => m_c320 (N := N) (s := s) (pool := pool) hc hm hk hk8 hv hpool hs hrow hen hsq hio hso ah f (j + 1) sz1 (by omega) (by omega) (fun y hy => by
        rw [e1]
        by_cases z : y = j
        · rw [z, pk_us, if_pos (show j < j + 1 by omega)]
        · rw [pk_un z, h y hy]
          by_cases w : y < j
          · rw [if_pos w, if_pos (by omega)]
          · rw [if_neg w, if_neg (by omega)])
      rw [if_neg (nI_ge (by omega) (by omega)), gd_nI (show j < 8 by omega) (by decide), gd_nI (show v < 40000 by omega) (by decide), nI_clamp (show v < 2 ^ 31 by omega), hpool, bd1_eq (m_isIn hc hm hk hk8 (show j < k by omega) hrow hen hsq hio hso ah), nI_clamp (show j < 2 ^ 31 by omega), hh]
      by_cases x : pB sq m k c j ≤ so row ∧ so row < pL sq m k c j
      · rw [if_pos x] at hsu
        rw [if_pos x, if_neg (by decide), nl_e, gd_nI (show j < 8 by omega) (by decide), nl_e, nI_1, nI_1, ← hsu]
        exact ih _ rfl
      · rw [if_neg x] at hsu
        rw [if_neg x, if_pos rfl, nl_e, gd_nI (show j < 8 by omega) (by decide), nl_e, nI_1, Int32.add_zero]
        exact ih _ (by rw [hsu]; rfl)
theorem m_c311 {N c m k : Nat} {sq io so ord : Nat → Nat} {S V T Fl en pool : Nat → Int32} (hN : 1000 ≤ N) (hc : c ≤ 400) (hm : m ≤ c) (hk : 0 < k) (hk8 : k ≤ 8) (hpool : ∀ v, v < c → ord v < c ∧ pool v = nI (ord v)) (hen : ∀ y, y < k → en y = pE sq io m k y) (hsq : ∀ q, q < m → sq q < c) (hio : ∀ i, i < c → io i < c) (hso : ∀ r, r < c → so r < c)
    (ah : ∀ i r, i < c → r < c → f_X7_ahead N S V T Fl (nI (io i)) (nI r) = some (if i < so r then 1 else 0)) :
    ∀ (f v : Nat) (sz : Nat → Int32), v ≤ c → c - v < f → (∀ y, y < k → sz y = nI (pC sq m k c (fun z => so (ord z)) y v)) → ∃ sz', l_X7_cut_311 N S V T Fl pool (nI k) en (nI k) (nI c) f (nI v) sz = some sz' ∧ ∀ y, y < k → sz' y = nI (pC sq m k c (fun z => so (ord z)) y c)
  | 0, v, sz, _, hf, _ => absurd hf (by omega)
  | f + 1, v, sz, hv, hf, h => by
    rw [l_X7_cut_311]
    by_cases q : c ≤ v
    · have e : v = c := by omega
      rw [if_pos (nI_le q (by omega))]
      rw [e] at h
      exact ⟨sz, rfl, h⟩
    · obtain ⟨p1, p2⟩ := hpool v (by omega)
      obtain ⟨sz1, a1, a2⟩ := m_c320 (N := N) (s := fun z => so (ord z)) (so := so) (S := S) (V := V) (T := T) (Fl := Fl) (en := en) (pool := pool) hc hm hk hk8 (show v < 400 by omega) p2 rfl p1 hen hsq hio (hso _ p1) (fun i hi => ah i _ hi p1) N 0 sz (by omega) (by omega) (fun y hy => by rw [if_neg (by omega)]; exact h y hy)
      have a1' : l_X7_cut_320 N S V T Fl pool (nI k) en (nI k) (nI v) N 0 sz = some sz1 := a1
      rw [if_neg (nI_ge (by omega) (by omega)), bd1_eq a1', nl_e, nI_1]
      exact m_c311 hN hc hm hk hk8 hpool hen hsq hio hso ah f (v + 1) sz1 (by omega) (by omega) a2
