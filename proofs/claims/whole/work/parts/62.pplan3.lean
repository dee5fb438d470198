/-! THE PLAN: from the RUNS to its end. My own text. -/
def gini (pl : Nat → Nat) : Nat → List Nat
  | 0 => []
  | j + 1 => gins (pl j * 799 + j) (gini pl j)
theorem gini_mem (pl : Nat → Nat) : ∀ (j v : Nat), v ∈ gini pl j ↔ ∃ r, r < j ∧ v = pl r * 799 + r
  | 0, v => ⟨fun h => absurd h (List.not_mem_nil), fun ⟨r, hr, _⟩ => absurd hr (by omega)⟩
  | j + 1, v => by
    have ih := gini_mem pl j v
    show v ∈ gins (pl j * 799 + j) (gini pl j) ↔ _
    rw [gins_mem, ih]
    constructor
    · rintro (e | ⟨r, hr, e⟩)
      · exact ⟨j, by omega, e⟩
      · exact ⟨r, by omega, e⟩
    · rintro ⟨r, hr, e⟩
      by_cases q : r = j
      · rw [q] at e
        exact Or.inl e
      · exact Or.inr ⟨r, by omega, e⟩
theorem gini_len (pl : Nat → Nat) : ∀ j, (gini pl j).length = j
  | 0 => rfl
  | j + 1 => by
    show (gins (pl j * 799 + j) (gini pl j)).length = j + 1
    rw [gins_len, gini_len pl j]
theorem gini_sum (pl : Nat → Nat) : ∀ j, j ≤ 799 → gsm (gini pl j) = fb_sm pl j
  | 0, _ => rfl
  | j + 1, h => by
    have ih := gini_sum pl j (by omega)
    show gsm (gins (pl j * 799 + j) (gini pl j)) = fb_sm pl (j + 1)
    rw [gins_sum, ih, fb_sm_succ]
    omega
theorem gini_ok (pl : Nat → Nat) : ∀ j, j ≤ 799 → gok j (gini pl j)
  | 0, _ => ⟨List.Pairwise.nil, fun v h => by cases h⟩
  | j + 1, h => by
    have ih := gini_ok pl j (by omega)
    refine ⟨gins_asc ih.1 fun q => ?_, fun v hv => ?_⟩
    · have := ih.2 _ q
      omega
    · obtain ⟨r, hr, e⟩ := (gini_mem pl (j + 1) v).mp hv
      rw [e]
      omega
theorem p_rhas (N : Nat) {al : Nat} (hc : al ≤ 799) (v : Int32) : f_X5_has N (nI al) v = some (if 0 ≤ v.toInt ∧ v.toInt < al then 1 else 0) := by
  unfold f_X5_has
  have e : (nI al - 1).toInt = (al : Int) - 1 := pk_sub_toInt (b := 1) (by omega) (by omega)
  have e0 : (0 : Int32).toInt = 0 := by decide
  rw [bd1_eq (p_isIn N v 0 (nI al - 1)), gd_bi, e, e0]
  by_cases h : 0 ≤ v.toInt ∧ v.toInt < al
  · rw [if_pos h, if_pos ⟨h.1, by omega⟩]
  · rw [if_neg h, if_neg (by omega)]
theorem p_sizeOf (N : Nat) {al : Nat} {st : Nat → Int32} {b : Nat → Nat} (hal : al ≤ 799) (hst : ∀ r, r ≤ al → st r = nI (b r)) (hb : ∀ r, r < al → b r ≤ b (r + 1)) {r : Nat} (hr : r < al) : f_X5_sizeOf N st (nI al) (nI r) = some (nI (b (r + 1) - b r)) := by
  unfold f_X5_sizeOf
  have e : (nI r).toInt = (r : Int) := nI_toInt (by omega)
  rw [bd1_eq (p_rhas N hal (nI r)), e, if_pos (show (0 : Int) ≤ (r : Int) ∧ (r : Int) < (al : Int) by omega), if_neg (by decide), nI_1, gd_nI (show r + 1 < 800 by omega) (by decide), gd_nI (show r < 800 by omega) (by decide), nI_clamp (show r + 1 < 2 ^ 31 by omega), nI_clamp (show r < 2 ^ 31 by omega), hst r (by omega), hst (r + 1) (by omega), nI_sub (hb r hr)]
theorem c_tell7 {N n al : Nat} {pl : Nat → Nat} {rst : Nat → Int32} (hN : 1000 ≤ N) (hn : n ≤ 400) (hpl : ∀ r, r < n → pl r ≤ 400) (hsz : ∀ r, r < n → f_X5_sizeOf N rst (nI al) (nI r) = some (nI (pl r))) : ∀ (f j : Nat) (items : Nat → Int64), j ≤ n → n - j < f → HP items (nI j) j (fun v => v ∈ gini pl j) →
    ∃ items', l_X3_tell_7 N rst (nI n) (nI al) f (nI j) items (nI j) = some (items', nI n) ∧ HP items' (nI n) n (fun v => v ∈ gini pl n)
  | 0, j, items, _, hf, _ => absurd hf (by omega)
  | f + 1, j, items, hj, hf, hp => by
    rw [l_X3_tell_7]
    by_cases q : n ≤ j
    · have e : j = n := by omega
      subst e
      rw [if_pos (nI_le (Nat.le_refl _) (by omega))]
      exact ⟨items, rfl, hp⟩
    · have hpj := hpl j (by omega)
      obtain ⟨items1, a1, a2⟩ := p_add hN hp (by omega) (x := pl j * 799 + j) (by omega) (fun h => by
        have := (gini_ok pl j (by omega)).2 _ h
        omega)
      rw [if_neg (nI_ge (by omega) (by omega)), bd1_eq (hsz j (by omega)), bd1_eq (p_sized N (show pl j < 2 ^ 31 by omega) (show j < 2 ^ 31 by omega)), bd2_eq a1, nl_e, nI_1]
      exact c_tell7 hN hn hpl hsz f (j + 1) items1 (by omega) (by omega) (a2.congr fun v => by
        show v ∈ gins (pl j * 799 + j) (gini pl j) ↔ _
        rw [gins_mem]
        exact ⟨fun z => z.symm, fun z => z.symm⟩)
theorem m_moves9 {N n : Nat} {msz : Nat → Int32} (hn : n ≤ 400) : ∀ (f j : Nat) (used planned : Nat → Int32), j ≤ n → n - j < f → (∀ r, r < j → used r = 0 ∧ planned r = msz r) →
    ∃ (used' planned' : Nat → Int32), l_X7_moves_9 N msz (nI n) f (nI j) used planned = some (used', planned') ∧ ∀ r, r < n → used' r = 0 ∧ planned' r = msz r
  | 0, j, used, planned, _, hf, _ => absurd hf (by omega)
  | f + 1, j, used, planned, hj, hf, h => by
    rw [l_X7_moves_9]
    by_cases q : n ≤ j
    · have e : j = n := by omega
      subst e
      rw [if_pos (nI_le (Nat.le_refl _) (by omega))]
      exact ⟨used, planned, rfl, h⟩
    · rw [if_neg (nI_ge (by omega) (by omega)), gd_nI (show j < 800 by omega) (by decide), nl_e, gd_nI (show j < 800 by omega) (by decide), gd_nI (show j < 800 by omega) (by decide), nl_e, nI_1, nI_clamp (show j < 2 ^ 31 by omega)]
      refine m_moves9 hn f (j + 1) _ _ (by omega) (by omega) fun r hr => ?_
      by_cases z : r = j
      · rw [z, pk_us, pk_us]
        exact ⟨nb0, rfl⟩
      · rw [pk_un z, pk_un z]
        exact h r (by omega)
theorem plan_alike {N n k : Nat} {pl0 : Nat → Nat} {rst msz tr st tks tkn used planned : Nat → Int32} (hN : 1000 ≤ N) (hk : 2 ≤ k) (hk8 : k ≤ 8) (hn1 : 1 ≤ n) (hn : n ≤ 400) (hc : fb_sm pl0 n ≤ 400) (hsz : ∀ r, r < n → f_X5_sizeOf N rst (nI n) (nI r) = some (nI (pl0 r))) (hms : ∀ r, r < n → msz r = nI (pl0 r)) (h0 : st 0 = nI 0) (items : Nat → Int64) (size pm pt mm : Int32) :
    ∃ (mg a mv : Nat) (pl : Nat → Nat) (items' : Nat → Int64) (size' : Int32) (tr' st' tks' tkn' used' planned' : Nat → Int32), f_X3_tell N items size rst (nI n) (nI n) tr st pm pt (nI k) = some (nI mv, items', size', tr', st', nI mg, 1) ∧ f_X7_moves N (nI n) msz mm tks tkn used planned (nI k) 1 1 = some (nI mv, nI mg, tks', tkn', used', planned') ∧ PL n mg a pl tr' st' tks' tkn' ∧ a ≤ 799 ∧ n + mg ≤ 799 ∧ mg < 400 ∧ (∀ r, r < n → pl r = pl0 r) ∧ mv = fb_sm (fun x => pl (n + x)) mg ∧ mv ≤ 3600 := by
  have hpl : ∀ r, r < n → pl0 r ≤ 400 := fun r hr => by
    have h1 := fb_sm_part pl0 hr
    omega
  obtain ⟨items1, c1, c2⟩ := c_tell7 (al := n) hN hn hpl hsz N 0 items (by omega) (by omega) ((HP.empty items).congr fun v => ⟨fun z => (by cases z), fun z => z.elim⟩)
  obtain ⟨used1, planned1, m1, m2⟩ := m_moves9 (N := N) (msz := msz) hn N 0 used planned (by omega) (by omega) (fun r hr => absurd hr (by omega))
  have c1' : l_X3_tell_7 N rst (nI n) (nI n) N 0 items 0 = some (items1, nI n) := c1
  have m1' : l_X7_moves_9 N msz (nI n) N 0 used planned = some (used1, planned1) := m1
  have f1 : f_X1_forget N size = some 0 := rfl
  have one : ¬ (1 : Int32) = 0 := by decide
  obtain ⟨M, rfl⟩ : ∃ M, N = M + 1 := ⟨N - 1, by omega⟩
  by_cases z : n = 1
  · subst z
    refine ⟨0, 0, 0, pl0, items1, nI 1, tr, st, tks, tkn, used1, planned1, ?_, ?_, ⟨h0, h0, fun x hx => absurd hx (by omega)⟩, by omega, by omega, by omega, fun r _ => rfl, rfl, by omega⟩
    · have e1 : (if (400 : Int32) < nI 0 then (400 : Int32) else nI 0) = nI 0 := if_neg (by decide)
      have e2 : l_X3_tell_66 (M + 1) (nI 1) (nI 0) (nI k) (M + 1) 0 0 items1 (nI 1) tr st = some (0, items1, nI 1, tr, st) := by
        rw [l_X3_tell_66, if_pos (by decide)]
      unfold f_X3_tell
      rw [bd1_eq f1, bd2_eq c1', bd1_eq (p_mergesOf1 _ _), nl_e, e1, bd5_eq e2]
      rfl
    · have e2 : l_X7_moves_54 (M + 1) (nI k) 1 1 (nI 1) (M + 1) (nI 1) 0 0 tks tkn used1 planned1 = some (0, 0, tks, tkn, used1, planned1) := by
        rw [l_X7_moves_54, if_pos (by decide)]
      unfold f_X7_moves
      rw [bd2_eq m1', bd6_eq e2, if_neg one]
      rfl
  · have hn2 : 2 ≤ n := by omega
    obtain ⟨a1, a2, a3, a4, a5, a6, a7⟩ := gw_facts hk hk8 hn2
    obtain ⟨V, v1, v2, v3, v4⟩ : ∃ V : List Nat, V.length = n ∧ gok n V ∧ gsm V = fb_sm pl0 n ∧ ∀ v, v ∈ V ↔ v ∈ gini pl0 n := ⟨gini pl0 n, gini_len pl0 n, gini_ok pl0 n (by omega), gini_sum pl0 n (by omega), fun v => Iff.rfl⟩
    have hp0 : HP items1 (nI V.length) V.length (fun v => v ∈ V) := by
      rw [v1]
      exact c2.congr v4
    have hm0 : MR n 0 V pl0 used1 planned1 := by
      refine ⟨fun r hr => ⟨by rw [(m2 r hr).2]; exact hms r hr, hpl r hr⟩, fun v => ?_⟩
      rw [v4 v, gini_mem]
      constructor
      · rintro ⟨r, r1, r2⟩
        exact ⟨r, r1, (m2 r r1).1, r2⟩
      · rintro ⟨r, r1, -, r2⟩
        exact ⟨r, r1, r2⟩
    have hl0 : PL n 0 0 pl0 tr st tks tkn := ⟨h0, h0, fun x hx => absurd hx (by omega)⟩
    have hw : f_X3_waysOf (M + 1) (nI 0) (nI n) (nI k) = some (nI (gw0 n k)) := p_ways0 _ hk hk8 hn2 hn
    have hy : (if nI 0 = 0 then gd (nz (nI k - 1)) <| some (2 + ((nI n - 2) - (nI n - 2) / (nI k - 1) * (nI k - 1))) else some (nI k)) = some (nI (gw0 n k)) := by
      rw [if_pos nI_0, gw0_I hk hk8 hn2 hn, nI_s1 (by omega), gd_nz (by omega) (by omega)]
    obtain ⟨items2, tr2, tkn2, used2, planned2, s1, s2, s3, s4, s5⟩ := plan_step (i := 0) (mg := 1 + gq n k) hN hw hy a1 (by omega) (by omega) hn (by omega) (by omega) (by omega) (by omega) (by omega) v2 (by omega) hp0 hm0 hl0
    have hgl := gst_len (k := gw0 n k) (idx := n + 0) (V := V) (by omega)
    have hgs := gst_sum (gw0 n k) V (show n + 0 < 799 by omega)
    obtain ⟨a', pl', items', size', tr', st', tks', tkn', used', planned', r1, r2, r3, r4, r5, r6⟩ := plan_loop (mg := 1 + gq n k) hN hk hk8 hn (by omega) (by omega) (gq n k) (0 + 1) (0 + gw0 n k) (0 + gsm (V.take (gw0 n k))) M (gst (gw0 n k) (n + 0) V) (ups pl0 (n + 0) (gsm (V.take (gw0 n k)))) items2 tr2 _ _ tkn2 used2 planned2 (by omega) (by omega) (by omega) (by omega) (by omega) (gst_ok v2 (show n < 799 by omega)) (by omega) s3 s4 s5 (by
      show 0 + gsm (V.take (gw0 n k)) = 0 + ups pl0 (n + 0) (gsm (V.take (gw0 n k))) (n + 0)
      rw [ups_s])
    have et : 0 + gsm (V.take (gw0 n k)) + gco k (gq n k) (n + (0 + 1)) (gst (gw0 n k) (n + 0) V) = gtot n k V := by
      unfold gtot
      simp only [Nat.zero_add, Nat.add_zero]
    have hb := gtot_bound hk hk8 hn2 hn v1 v2
    rw [et] at r1 r2 r6
    have s1' := s1 M 0
    have s2' := s2 M 0
    rw [r1, v1] at s1'
    rw [r2, v1] at s2'
    refine ⟨1 + gq n k, a', gtot n k V, pl', items', size', tr', st', tks', tkn', used', planned', ?_, ?_, r3, r4, by omega, by omega, fun r hr => ?_, r6, by omega⟩
    · have e1 : (if (400 : Int32) < nI (1 + gq n k) then (400 : Int32) else nI (1 + gq n k)) = nI (1 + gq n k) := if_neg (nI_nlt (a := 400) (by omega) (by omega))
      have e2 : l_X3_tell_66 (M + 1) (nI n) (nI (1 + gq n k)) (nI k) (M + 1) 0 0 items1 (nI n) tr st = some (nI (gtot n k V), items', size', tr', st') := s1'
      unfold f_X3_tell
      rw [bd1_eq f1, bd2_eq c1', bd1_eq (p_mergesOf _ hk hk8 hn2 hn), nl_e, e1, bd5_eq e2]
    · have e2 : l_X7_moves_54 (M + 1) (nI k) 1 1 (nI n) (M + 1) (nI n) 0 0 tks tkn used1 planned1 = some (nI (gtot n k V), nI (1 + gq n k), tks', tkn', used', planned') := s2'
      unfold f_X7_moves
      rw [bd2_eq m1', bd6_eq e2, if_neg one]
    · rw [r5 r hr, ups_n pl0 (by omega)]
