/-! THE PLAN: a MERGE of it, and all of them. My own text. -/
theorem gd_nz {β : Type} {X : Option β} {m : Nat} (h0 : 0 < m) (h : m < 2 ^ 31) : gd (nz (nI m)) X = X := gd_t (decide_eq_true (nI_ne0 h0 h))
theorem gsm_take_succ : ∀ (V : List Nat) (w : Nat), w < V.length → gsm (V.take (w + 1)) = gsm (V.take w) + V.getD w 0 / 799
  | [], w, h => absurd h (Nat.not_lt_zero w)
  | v :: t, 0, _ => by
    show v / 799 + gsm (t.take 0) = 0 + v / 799
    have : gsm (t.take 0) = 0 := rfl
    omega
  | v :: t, w + 1, h => by
    have ih := gsm_take_succ t w (by rw [List.length_cons] at h; omega)
    have e : (v :: t).getD (w + 1) 0 = t.getD w 0 := rfl
    rw [e]
    show v / 799 + gsm (t.take (w + 1)) = v / 799 + gsm (t.take w) + t.getD w 0 / 799
    omega
theorem gsm_take (V : List Nat) : ∀ w, w ≤ V.length → gsm (V.take w) = fb_sm (fun j => V.getD j 0 / 799) w
  | 0, _ => rfl
  | w + 1, h => by rw [gsm_take_succ V w (by omega), fb_sm_succ, gsm_take V w (by omega)]
theorem getD_mem : ∀ (V : List Nat) (j : Nat), j < V.length → V.getD j 0 ∈ V
  | [], j, h => absurd h (Nat.not_lt_zero j)
  | v :: t, 0, _ => List.mem_cons_self
  | v :: t, j + 1, h => List.mem_cons_of_mem v (getD_mem t j (by rw [List.length_cons] at h; omega))
def PL (n i a : Nat) (pl : Nat → Nat) (tr st tks tkn : Nat → Int32) : Prop := st 0 = nI 0 ∧ st i = nI a ∧ ∀ x, x < i → ∃ b w, st x = nI b ∧ st (x + 1) = nI (b + w) ∧ tks x = nI w ∧ 2 ≤ w ∧ w ≤ 8 ∧ b + w ≤ a ∧ (∀ j, j < w → ∃ r, r < n + x ∧ tr (b + j) = nI r ∧ tkn (8 * x + j) = nI r) ∧ pl (n + x) = fb_sm (fun j => pl (tkn (8 * x + j)).toNatClampNeg) w
theorem PL.step {n i a w : Nat} {V : List Nat} {pl : Nat → Nat} {tr st tks tkn tr' tkn' : Nat → Int32} (h : PL n i a pl tr st tks tkn) (hw2 : 2 ≤ w) (hw8 : w ≤ 8) (hwl : w ≤ V.length) (hni : n + i < 2 ^ 31) (hV : ∀ v, v ∈ V → v % 799 < n + i ∧ pl (v % 799) = v / 799) (t1 : ∀ x, x < a → tr' x = tr x) (t2 : ∀ x, x < w → tr' (a + x) = nI (tkv V x)) (k1 : ∀ x, x < 8 * i → tkn' x = tkn x) (k2 : ∀ x, x < w → tkn' (8 * i + x) = nI (tkv V x)) :
    PL n (i + 1) (a + w) (ups pl (n + i) (gsm (V.take w))) tr' (upd st (i + 1) (nI (a + w))) (upd tks i (nI w)) tkn' := by
  obtain ⟨h0, h1, h2⟩ := h
  refine ⟨by rw [pk_un (by omega)]; exact h0, pk_us, fun x hx => ?_⟩
  by_cases q : x = i
  · subst q
    refine ⟨a, w, by rw [pk_un (by omega)]; exact h1, pk_us, pk_us, hw2, hw8, Nat.le_refl _, fun j hj => ?_, ?_⟩
    · exact ⟨tkv V j, (hV _ (getD_mem V j (by omega))).1, t2 j hj, k2 j hj⟩
    · rw [ups_s, gsm_take V w hwl]
      refine fb_sm_cong fun j hj => ?_
      have hm := hV _ (getD_mem V j (by omega))
      have e : (tkn' (8 * x + j)).toNatClampNeg = tkv V j := by
        rw [k2 j hj]
        refine nI_clamp ?_
        unfold tkv
        omega
      show V.getD j 0 / 799 = ups pl (n + x) (fb_sm _ w) (tkn' (8 * x + j)).toNatClampNeg
      rw [e, ups_n pl (show tkv V j ≠ n + x from fun z => by unfold tkv at z; omega)]
      exact hm.2.symm
  · obtain ⟨b, w', a1, a2, a3, a4, a5, a6, a7, a8⟩ := h2 x (by omega)
    refine ⟨b, w', by rw [pk_un (by omega)]; exact a1, by rw [pk_un (by omega)]; exact a2, by rw [pk_un q]; exact a3, a4, a5, by omega, fun j hj => ?_, ?_⟩
    · obtain ⟨r, r1, r2, r3⟩ := a7 j hj
      exact ⟨r, r1, by rw [t1 _ (by omega)]; exact r2, by rw [k1 _ (by omega)]; exact r3⟩
    · rw [ups_n pl (show n + x ≠ n + i by omega), a8]
      refine fb_sm_cong fun j hj => ?_
      obtain ⟨r, r1, r2, r3⟩ := a7 j hj
      show pl (tkn (8 * x + j)).toNatClampNeg = ups pl (n + i) (gsm (V.take w)) (tkn' (8 * x + j)).toNatClampNeg
      rw [k1 _ (by omega), r3, nI_clamp (by omega), ups_n pl (by omega)]
theorem p_takeFewest {N i a w : Nat} {V : List Nat} {items : Nat → Int64} {tr st : Nat → Int32} (hN : 1000 ≤ N) (hi : i < 400) (hst : st i = nI a) (hw : w < 2 ^ 31) (hwl : w ≤ V.length) (haw : a + w ≤ 800) (hV : gasc V) (hp : HP items (nI V.length) V.length (fun v => v ∈ V)) :
    ∃ (items' : Nat → Int64) (tr' : Nat → Int32), f_X3_takeFewest N items (nI V.length) tr st (nI i) (nI w) = some (nI (gsm (V.take w)), items', nI (V.length - w), tr', upd st (i + 1) (nI (a + w))) ∧ HP items' (nI (V.length - w)) (V.length - w) (fun v => v ∈ V.drop w) ∧ (∀ x, x < a → tr' x = tr x) ∧ ∀ x, x < w → tr' (a + x) = nI (tkv V x) := by
  obtain ⟨items', tr', c1, c2, c3, c4⟩ := c_takeF hN hw w N 0 a 0 V items tr (by omega) (by
    have := hp.2.1
    omega) hwl haw hV hp
  rw [Nat.zero_add] at c1
  have c1' : l_X3_takeFewest_14 N (nI w) N 0 (nI a) 0 items (nI V.length) tr = some (nI (gsm (V.take w)), nI (a + w), items', nI (V.length - w), tr') := c1
  refine ⟨items', tr', ?_, c2, c3, c4⟩
  unfold f_X3_takeFewest
  rw [gd_nI (show i < 401 by omega) (by decide), nl_e, nI_clamp (show i < 2 ^ 31 by omega), hst, bd5_eq c1', nI_1, gd_nI (show i + 1 < 401 by omega) (by decide), nI_clamp (show i + 1 < 2 ^ 31 by omega)]
theorem p_sized (N : Nat) {s r : Nat} (hs : s < 2 ^ 31) (hr : r < 2 ^ 31) : f_X3_sized N (nI s) (nI r) = some (lN (s * 799 + r)) := by
  unfold f_X3_sized
  have h : lN s * 799 = lN (s * 799) := lN_mul s 799
  rw [nI_l hs, nI_l hr, h, lN_add]
theorem plan_step {N n i a w k mg : Nat} {V : List Nat} {pl : Nat → Nat} {items : Nat → Int64} {tr st tks tkn used planned : Nat → Int32} (hN : 1000 ≤ N) (hw : f_X3_waysOf N (nI i) (nI n) (nI k) = some (nI w)) (hy : (if nI i = 0 then gd (nz (nI k - 1)) <| some (2 + ((nI n - 2) - (nI n - 2) / (nI k - 1) * (nI k - 1))) else some (nI k)) = some (nI w)) (hw2 : 2 ≤ w) (hw8 : w ≤ 8) (hwl : w ≤ V.length) (hn : n ≤ 400) (hni : n + i < 799) (hi : i < 400) (hmg : i < mg) (hmg2 : mg < 2 ^ 31) (hc : gsm V ≤ 400) (hV : gok (n + i) V) (ha : a + V.length = n + i) (hp : HP items (nI V.length) V.length (fun v => v ∈ V)) (hm : MR n i V pl used planned) (hl : PL n i a pl tr st tks tkn) :
    ∃ (items' : Nat → Int64) (tr' tkn' used' planned' : Nat → Int32),
      (∀ f mv, l_X3_tell_66 N (nI n) (nI mg) (nI k) (f + 1) (nI mv) (nI i) items (nI V.length) tr st = l_X3_tell_66 N (nI n) (nI mg) (nI k) f (nI (mv + gsm (V.take w))) (nI (i + 1)) items' (nI (gst w (n + i) V).length) tr' (upd st (i + 1) (nI (a + w)))) ∧
      (∀ f mv, l_X7_moves_54 N (nI k) 1 1 (nI n) (f + 1) (nI V.length) (nI mv) (nI i) tks tkn used planned = l_X7_moves_54 N (nI k) 1 1 (nI n) f (nI (gst w (n + i) V).length) (nI (mv + gsm (V.take w))) (nI (i + 1)) (upd tks i (nI w)) tkn' used' planned') ∧
      HP items' (nI (gst w (n + i) V).length) (gst w (n + i) V).length (fun v => v ∈ gst w (n + i) V) ∧ MR n (i + 1) (gst w (n + i) V) (ups pl (n + i) (gsm (V.take w))) used' planned' ∧ PL n (i + 1) (a + w) (ups pl (n + i) (gsm (V.take w))) tr' (upd st (i + 1) (nI (a + w))) (upd tks i (nI w)) tkn' := by
  have hL := hp.2.1
  have hs : gsm (V.take w) ≤ 400 := by
    have := gsm_td w V
    omega
  have hgl := gst_len (k := w) (idx := n + i) hwl
  generalize hsd : gsm (V.take w) = s at hs
  obtain ⟨items1, tr', c1, c2, c3, c4⟩ := p_takeFewest (tr := tr) hN hi hl.2.1 (by omega) hwl (by omega) hV.1 hp
  rw [hsd] at c1
  have hnew : (s * 799 + (n + i)) ∉ V.drop w := by
    have := gst_new (k := w) hV hni
    rw [hsd] at this
    exact this
  obtain ⟨items2, d1, d2⟩ := p_add hN c2 (by omega) (x := s * 799 + (n + i)) (by omega) hnew
  have elen : V.length - w + 1 = (gst w (n + i) V).length := by omega
  rw [elen] at d1 d2
  -- the reference
  have hm0 : MR n i V pl (upd used (n + i) (vp_nar .boolean 0)) (upd planned (n + i) 0) := by
    refine ⟨fun r hr => ?_, fun v => ?_⟩
    · rw [pk_un (by omega)]
      exact hm.1 r hr
    · rw [hm.2 v]
      constructor
      · rintro ⟨r, r1, r2, r3⟩
        exact ⟨r, r1, by rw [pk_un (by omega)]; exact r2, r3⟩
      · rintro ⟨r, r1, r2, r3⟩
        rw [pk_un (by omega)] at r2
        exact ⟨r, r1, r2, r3⟩
  obtain ⟨tkn', used', planned', b1, b2, b3, b4, b5, b6⟩ := m_takeF hN hni hi hw8 w N 0 0 V tkn (upd used (n + i) (vp_nar .boolean 0)) (upd planned (n + i) 0) (by omega) (by omega) hwl hV.1 hm0 pk_us
  rw [Nat.zero_add, hsd] at b3
  rw [pk_us, nb0] at b4
  have b1' : l_X7_moves_106 N 1 1 (nI n) (nI i) (nI w) N 0 tkn (upd used (n + i) (vp_nar .boolean 0)) (upd planned (n + i) 0) = some (tkn', used', planned') := b1
  refine ⟨items2, tr', tkn', used', planned', fun f mv => ?_, fun f mv => ?_, ?_, ?_, ?_⟩
  · rw [l_X3_tell_66, if_neg (nI_ge hmg hmg2), bd1_eq hw, bd5_eq c1, nI_add, bd1_eq (p_sized N (show s < 2 ^ 31 by omega) (show n + i < 2 ^ 31 by omega)), bd2_eq d1, nl_e, nl_e, nI_add, nI_1]
  · have h1 : ¬ nI V.length ≤ (1 : Int32) := nI_ge (a := 1) (by omega) (by omega)
    have e48 : nI V.length - (nI w - 1) = nI (gst w (n + i) V).length := by
      rw [nI_s1 (by omega), nI_sub (by omega)]
      congr 1
      omega
    rw [l_X7_moves_54, if_neg h1, bd1_eq hy, nI_add n i, gd_nI (show n + i < 800 by omega) (by decide), gd_nI (show n + i < 800 by omega) (by decide), nI_clamp (show n + i < 2 ^ 31 by omega), bd3_eq b1', if_neg (by decide), gd_nI (show i < 400 by omega) (by decide), bd1_eq rfl, gd_nI (show n + i < 800 by omega) (by decide), nl_e, nl_e, nl_e, b3, nI_add, e48, nI_1, nI_clamp (show i < 2 ^ 31 by omega)]
  · refine d2.congr fun v => ?_
    unfold gst
    rw [gins_mem, hsd]
    exact ⟨fun z => z.symm, fun z => z.symm⟩
  · refine ⟨fun r hr => ?_, fun v => ?_⟩
    · by_cases q : r = n + i
      · rw [q, ups_s]
        exact ⟨b3, hs⟩
      · rw [ups_n pl q]
        exact b2.1 r (by omega)
    · unfold gst
      rw [gins_mem, hsd]
      constructor
      · rintro (e | e)
        · exact ⟨n + i, by omega, b4, by rw [ups_s]; exact e⟩
        · obtain ⟨r, r1, r2, r3⟩ := (b2.2 v).mp e
          exact ⟨r, by omega, r2, by rw [ups_n pl (by omega)]; exact r3⟩
      · rintro ⟨r, r1, r2, r3⟩
        by_cases q : r = n + i
        · rw [q, ups_s] at r3
          exact Or.inl r3
        · rw [ups_n pl q] at r3
          exact Or.inr ((b2.2 v).mpr ⟨r, by omega, r2, r3⟩)
  · rw [← hsd]
    refine hl.step hw2 hw8 hwl (by omega) (fun v hv => ?_) c3 c4 (fun x hx => b5 x (Or.inl (by omega))) (fun x hx => b6 x hx)
    obtain ⟨r, r1, r2, r3⟩ := (hm.2 v).mp hv
    have e1 : v % 799 = r := by omega
    have e2 : v / 799 = pl r := by omega
    rw [e1, e2]
    exact ⟨r1, rfl⟩
theorem p_waysk (N : Nat) {i n k : Nat} (hi : 0 < i) (hi2 : i < 2 ^ 31) : f_X3_waysOf N (nI i) (nI n) (nI k) = some (nI k) := by
  unfold f_X3_waysOf
  have h : (0 : Int32) < nI i := nI_lt (a := 0) hi hi2
  rw [if_pos h]
theorem gw0_I {n k : Nat} (hk : 2 ≤ k) (hk8 : k ≤ 8) (hn : 2 ≤ n) (hn4 : n ≤ 400) : (2 : Int32) + ((nI n - 2) - (nI n - 2) / (nI k - 1) * (nI k - 1)) = nI (gw0 n k) := by
  have e2 : nI n - (2 : Int32) = nI (n - 2) := nI_sub (b := 2) hn
  have e3 : nI k - (1 : Int32) = nI (k - 1) := nI_s1 (by omega)
  rw [e2, e3, pk_rem (by omega) (by omega) (by omega)]
  have e4 : (2 : Int32) = nI 2 := rfl
  rw [e4, nI_add]
  rfl
theorem p_ways0 (N : Nat) {n k : Nat} (hk : 2 ≤ k) (hk8 : k ≤ 8) (hn : 2 ≤ n) (hn4 : n ≤ 400) : f_X3_waysOf N 0 (nI n) (nI k) = some (nI (gw0 n k)) := by
  unfold f_X3_waysOf
  have h2 : (2 : Int32) ≤ nI k := nI_le (a := 2) hk (by omega)
  rw [if_neg (by decide), if_pos h2, gw0_I hk hk8 hn hn4, nI_s1 (by omega), gd_nz (by omega) (by omega)]
theorem p_mergesOf (N : Nat) {n k : Nat} (hk : 2 ≤ k) (hk8 : k ≤ 8) (hn : 2 ≤ n) (hn4 : n ≤ 400) : f_X3_mergesOf N (nI n) (nI k) = some (nI (1 + gq n k)) := by
  unfold f_X3_mergesOf
  have h1 : ¬ nI n < (2 : Int32) := nI_nlt (b := 2) hn (by omega)
  have h2 : (2 : Int32) ≤ nI k := nI_le (a := 2) hk (by omega)
  obtain ⟨a1, a2, a3, a4, a5, -⟩ := gw_facts hk hk8 hn
  have e3 : nI k - (1 : Int32) = nI (k - 1) := nI_s1 (by omega)
  have e5 : (n - gw0 n k) / (k - 1) = gq n k := by
    have : n - gw0 n k = gq n k * (k - 1) := by omega
    rw [this]
    exact Nat.mul_div_cancel _ (by omega)
  have e1 : (1 : Int32) = nI 1 := rfl
  rw [if_neg h1, if_pos h2, bd1_eq (p_ways0 N hk hk8 hn hn4), e3, gd_nz (by omega) (by omega), nI_sub a3, pk_div (by omega) (by omega) (by omega), e5, e1, nI_add]
theorem p_mergesOf1 (N : Nat) (k : Int32) : f_X3_mergesOf N (nI 1) k = some (nI 0) := by
  unfold f_X3_mergesOf
  rw [if_pos (by decide)]
  rfl
theorem plan_loop {N n k mg : Nat} (hN : 1000 ≤ N) (hk : 2 ≤ k) (hk8 : k ≤ 8) (hn : n ≤ 400) (hmg : n + mg ≤ 799) (hmg4 : mg < 400) : ∀ (q i a mv f : Nat) (V : List Nat) (pl : Nat → Nat) (items : Nat → Int64) (tr st tks tkn used planned : Nat → Int32), 0 < i → i + q = mg → V.length = 1 + q * (k - 1) → q < f → gsm V ≤ 400 → gok (n + i) V → a + V.length = n + i → HP items (nI V.length) V.length (fun v => v ∈ V) → MR n i V pl used planned → PL n i a pl tr st tks tkn → mv = fb_sm (fun x => pl (n + x)) i →
    ∃ (a' : Nat) (pl' : Nat → Nat) (items' : Nat → Int64) (size' : Int32) (tr' st' tks' tkn' used' planned' : Nat → Int32), l_X3_tell_66 N (nI n) (nI mg) (nI k) f (nI mv) (nI i) items (nI V.length) tr st = some (nI (mv + gco k q (n + i) V), items', size', tr', st') ∧ l_X7_moves_54 N (nI k) 1 1 (nI n) f (nI V.length) (nI mv) (nI i) tks tkn used planned = some (nI (mv + gco k q (n + i) V), nI mg, tks', tkn', used', planned') ∧ PL n mg a' pl' tr' st' tks' tkn' ∧ a' ≤ 799 ∧ (∀ r, r < n → pl' r = pl r) ∧ mv + gco k q (n + i) V = fb_sm (fun x => pl' (n + x)) mg
  | 0, i, a, mv, 0, V, pl, items, tr, st, tks, tkn, used, planned, _, _, _, hf, _, _, _, _, _, _, _ => absurd hf (by omega)
  | 0, i, a, mv, f + 1, V, pl, items, tr, st, tks, tkn, used, planned, _, hiq, hL, _, _, _, ha, _, _, hl, hmv => by
    have e : i = mg := by omega
    have eL : V.length = 1 := by omega
    subst e
    have h1 : nI V.length ≤ (1 : Int32) := nI_le (b := 1) (by omega) (by omega)
    rw [l_X3_tell_66, if_pos (nI_le (Nat.le_refl _) (by omega)), l_X7_moves_54, if_pos h1]
    exact ⟨a, pl, items, nI V.length, tr, st, tks, tkn, used, planned, rfl, rfl, hl, by omega, fun r _ => rfl, hmv⟩
  | q + 1, i, a, mv, 0, V, pl, items, tr, st, tks, tkn, used, planned, _, _, _, hf, _, _, _, _, _, _, _ => absurd hf (by omega)
  | q + 1, i, a, mv, f + 1, V, pl, items, tr, st, tks, tkn, used, planned, hi0, hiq, hL, hf, hc, hV, ha, hp, hm, hl, hmv => by
    rw [Nat.succ_mul] at hL
    have hy : (if nI i = 0 then gd (nz (nI k - 1)) <| some (2 + ((nI n - 2) - (nI n - 2) / (nI k - 1) * (nI k - 1))) else some (nI k)) = some (nI k) := if_neg (nI_ne0 hi0 (by omega))
    obtain ⟨items1, tr1, tkn1, used1, planned1, s1, s2, s3, s4, s5⟩ := plan_step (mg := mg) hN (p_waysk N hi0 (by omega)) hy hk hk8 (by omega) hn (by omega) (by omega) (by omega) (by omega) hc hV ha hp hm hl
    have hgl := gst_len (k := k) (idx := n + i) (V := V) (by omega)
    have hgs := gst_sum k V (show n + i < 799 by omega)
    obtain ⟨a', pl', items', size', tr', st', tks', tkn', used', planned', r1, r2, r3, r4, r5, r6⟩ := plan_loop hN hk hk8 hn hmg hmg4 q (i + 1) (a + k) (mv + gsm (V.take k)) f (gst k (n + i) V) (ups pl (n + i) (gsm (V.take k))) items1 tr1 (upd st (i + 1) (nI (a + k))) (upd tks i (nI k)) tkn1 used1 planned1 (by omega) (by omega) (by omega) (by omega) (by omega) (gst_ok hV (show n + i < 799 by omega)) (by omega) s3 s4 s5 (by
      rw [fb_sm_succ, ups_s, hmv]
      congr 1
      refine fb_sm_cong fun x hx => ?_
      exact (ups_n pl (by omega)).symm)
    have eg : gco k (q + 1) (n + i) V = gsm (V.take k) + gco k q (n + i + 1) (gst k (n + i) V) := rfl
    have e2 : mv + gsm (V.take k) + gco k q (n + (i + 1)) (gst k (n + i) V) = mv + gco k (q + 1) (n + i) V := by
      rw [eg]
      show mv + gsm (V.take k) + gco k q (n + i + 1) (gst k (n + i) V) = _
      omega
    rw [e2] at r1 r2 r6
    refine ⟨a', pl', items', size', tr', st', tks', tkn', used', planned', ?_, ?_, r3, r4, fun r hr => ?_, r6⟩
    · rw [s1]; exact r1
    · rw [s2]; exact r2
    · rw [r5 r hr, ups_n pl (by omega)]
