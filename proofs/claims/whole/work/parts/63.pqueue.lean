/-! THE QUEUE. My own text. -/
theorem q_best {N n i nx : Nat} {used planned : Nat → Int32} (hni : n + i < 799) (hnx : nx < n + i) (hu : ∀ r, r < n + i → (used r = 0 ↔ nx ≤ r)) : ∀ (f j : Nat), j ≤ n + i → n + i - j < f → l_X7_moves_119 N used planned 0 (nI n) (nI i) f (lI (if nx < j then some nx else none)) (nI j) = some (nI nx)
  | 0, j, _, hf => absurd hf (by omega)
  | f + 1, j, hj, hf => by
    rw [l_X7_moves_119, nI_add]
    by_cases q : n + i ≤ j
    · rw [if_pos (nI_le q (by omega)), if_pos (show nx < j by omega)]
      rfl
    · have ih := q_best (N := N) (planned := planned) hni hnx hu f (j + 1) (by omega) (by omega)
      rw [if_neg (nI_ge (by omega) (by omega)), gd_nI (show j < 800 by omega) (by decide), nI_clamp (show j < 2 ^ 31 by omega)]
      by_cases u : nx ≤ j
      · rw [if_pos ((hu j (by omega)).mpr u)]
        rw [if_pos (show nx < j + 1 by omega)] at ih
        by_cases e : nx < j
        · rw [if_pos e]
          rw [if_neg (show ¬ lI (some nx) = -1 from nI_ne_m1 (by omega)), if_pos rfl, nl_e, nI_1]
          exact ih
        · have e2 : nx = j := by omega
          rw [if_neg e]
          rw [if_pos (show lI none = -1 from rfl), nl_e, nI_1]
          rw [e2] at ih
          rw [e2]
          exact ih
      · rw [if_neg (fun z => u ((hu j (by omega)).mp z)), nl_e, nI_1]
        rw [if_neg (show ¬ nx < j + 1 by omega)] at ih
        rw [if_neg (show ¬ nx < j by omega)]
        exact ih
theorem q_take {N n i w : Nat} {queued : Nat → Int32} (hN : 1000 ≤ N) (hni : n + i < 799) (hi : i < 400) (hw : w ≤ 8) : ∀ (d fC fM j nx : Nat) (acc : Int32) (tkn used planned : Nat → Int32), j + d = w → d < fC → d < fM → nx + d ≤ n + i → (∀ r, r < n + i → (used r = 0 ↔ nx ≤ r)) → agr (n + i) queued planned → planned (n + i) = acc →
    ∃ (acc' : Int32) (used' planned' : Nat → Int32), l_X3_movedByQueue_89 N queued (nI (n + i)) (nI (nx + d)) fC (nI nx) acc = some (nI (nx + d), acc') ∧ l_X7_moves_106 N 0 0 (nI n) (nI i) (nI w) fM (nI j) tkn used planned = some (tkn, used', planned') ∧ planned' (n + i) = acc' ∧ agr (n + i) queued planned' ∧ (∀ r, r < n + i → (used' r = 0 ↔ nx + d ≤ r)) ∧ used' (n + i) = used (n + i)
  | 0, fC, fM, j, nx, acc, tkn, used, planned, hj, hf, hf2, hnx, hu, ha, hp => by
    obtain ⟨gC, rfl⟩ : ∃ g, fC = g + 1 := ⟨fC - 1, by omega⟩
    obtain ⟨gM, rfl⟩ : ∃ g, fM = g + 1 := ⟨fM - 1, by omega⟩
    rw [l_X3_movedByQueue_89, l_X7_moves_106, if_pos (nI_le (show nx + 0 ≤ nx by omega) (by omega)), if_pos (nI_le (by omega) (by omega))]
    exact ⟨acc, used, planned, rfl, rfl, hp, ha, hu, rfl⟩
  | d + 1, fC, fM, j, nx, acc, tkn, used, planned, hj, hf, hf2, hnx, hu, ha, hp => by
    obtain ⟨gC, rfl⟩ : ∃ g, fC = g + 1 := ⟨fC - 1, by omega⟩
    obtain ⟨gM, rfl⟩ : ∃ g, fM = g + 1 := ⟨fM - 1, by omega⟩
    have s1 : l_X7_moves_119 N used planned 0 (nI n) (nI i) N (-1) 0 = some (nI nx) := q_best (N := N) (planned := planned) hni (by omega) hu N 0 (by omega) (by omega)
    have ih := q_take (N := N) (queued := queued) hN hni hi hw d gC gM (j + 1) (nx + 1) (acc + planned nx) tkn (upd used nx (vp_nar .boolean 1)) (upd planned (n + i) (acc + planned nx)) (by omega) (by omega) (by omega) (by omega) (fun r hr => by
      by_cases z : r = nx
      · rw [z, pk_us, nb1]
        exact ⟨fun e => absurd e (by decide), fun e => absurd e (by omega)⟩
      · rw [pk_un z, hu r hr]
        omega) (fun r hr => by
      rw [pk_un (by omega)]
      exact ha r hr) pk_us
    obtain ⟨acc', used', planned', b1, b2, b3, b4, b5, b6⟩ := ih
    have e1 : nx + 1 + d = nx + (d + 1) := by omega
    rw [e1] at b1 b5
    rw [l_X3_movedByQueue_89, l_X7_moves_106, if_neg (nI_ge (show nx < nx + (d + 1) by omega) (by omega)), if_neg (nI_ge (show nx < n + i by omega) (by omega)), if_neg (nI_ge (show j < w by omega) (by omega)), bd1_eq s1, nI_add]
    rw [gd_nI (show nx < 799 by omega) (by decide), nl_e, nl_e, gd_nI (show nx < 800 by omega) (by decide), gd_nI (show n + i < 800 by omega) (by decide), gd_nI (show nx < 800 by omega) (by decide), nl_e, gd_nI (show n + i < 800 by omega) (by decide), if_pos rfl, nl_e, nI_clamp (show nx < 2 ^ 31 by omega), nI_clamp (show n + i < 2 ^ 31 by omega), nI_1, nI_1, hp, ha nx (by omega), b1, b2]
    exact ⟨acc', used', planned', rfl, rfl, b3, b4, b5, by rw [b6, pk_un (by omega)]⟩
theorem queue_step {N n i nx w k last : Nat} {queued tks tkn used planned : Nat → Int32} (hN : 1000 ≤ N) (hw : f_X3_waysOf N (nI i) (nI n) (nI k) = some (nI w)) (hy : (if nI i = 0 then gd (nz (nI k - 1)) <| some (2 + ((nI n - 2) - (nI n - 2) / (nI k - 1) * (nI k - 1))) else some (nI k)) = some (nI w)) (hw2 : 2 ≤ w) (hw8 : w ≤ 8) (hni : n + i < 799) (hi : i < 400) (hla : n + i < last) (hla2 : last < 2 ^ 31) (hnx : nx + w ≤ n + i) (hu : ∀ r, r < n + i → (used r = 0 ↔ nx ≤ r)) (ha : agr (n + i) queued planned) :
    ∃ (acc : Int32) (used' planned' : Nat → Int32),
      (∀ f mv, l_X3_movedByQueue_59 N (nI n) (nI k) (nI last) (f + 1) mv (nI nx) (nI (n + i)) queued = l_X3_movedByQueue_59 N (nI n) (nI k) (nI last) f (mv + acc) (nI (nx + w)) (nI (n + (i + 1))) (upd queued (n + i) acc)) ∧
      (∀ f mv, l_X7_moves_54 N (nI k) 0 0 (nI n) (f + 1) (nI (n + i - nx)) mv (nI i) tks tkn used planned = l_X7_moves_54 N (nI k) 0 0 (nI n) f (nI (n + (i + 1) - (nx + w))) (mv + acc) (nI (i + 1)) tks tkn used' planned') ∧
      agr (n + (i + 1)) (upd queued (n + i) acc) planned' ∧ ∀ r, r < n + (i + 1) → (used' r = 0 ↔ nx + w ≤ r) := by
  obtain ⟨acc, used', planned', b1, b2, b3, b4, b5, b6⟩ := q_take (N := N) (queued := queued) hN hni hi hw8 w N N 0 nx 0 tkn (upd used (n + i) (vp_nar .boolean 0)) (upd planned (n + i) 0) (by omega) (by omega) (by omega) hnx (fun r hr => by rw [pk_un (by omega)]; exact hu r hr) (fun r hr => by rw [pk_un (by omega)]; exact ha r hr) pk_us
  rw [pk_us, nb0] at b6
  have b2' : l_X7_moves_106 N 0 0 (nI n) (nI i) (nI w) N 0 tkn (upd used (n + i) (vp_nar .boolean 0)) (upd planned (n + i) 0) = some (tkn, used', planned') := b2
  refine ⟨acc, used', planned', fun f mv => ?_, fun f mv => ?_, fun r hr => ?_, fun r hr => ?_⟩
  · have e1 : nI (n + i) - nI n = nI i := by
      rw [nI_sub (by omega)]
      congr 1
      omega
    rw [l_X3_movedByQueue_59, if_neg (nI_ge hla hla2), e1, bd1_eq hw, nl_e, nI_add, bd2_eq b1, gd_nI (show n + i < 799 by omega) (by decide), nl_e, nl_e, nI_clamp (show n + i < 2 ^ 31 by omega), nI_1]
    rfl
  · have h1 : ¬ nI (n + i - nx) ≤ (1 : Int32) := nI_ge (a := 1) (by omega) (by omega)
    have e48 : nI (n + i - nx) - (nI w - 1) = nI (n + (i + 1) - (nx + w)) := by
      rw [nI_s1 (by omega), nI_sub (by omega)]
      congr 1
      omega
    rw [l_X7_moves_54, if_neg h1, bd1_eq hy, nI_add n i, gd_nI (show n + i < 800 by omega) (by decide), gd_nI (show n + i < 800 by omega) (by decide), nI_clamp (show n + i < 2 ^ 31 by omega), bd3_eq b2', if_pos rfl, bd1_eq rfl, gd_nI (show n + i < 800 by omega) (by decide), nl_e, nl_e, nl_e, b3, e48, nI_1]
  · by_cases z : r = n + i
    · rw [z, pk_us, b3]
    · rw [pk_un z]
      exact b4 r (by omega)
  · by_cases z : r = n + i
    · rw [z, b6]
      exact ⟨fun _ => by omega, fun _ => rfl⟩
    · exact b5 r (by omega)
theorem queue_loop {N n k mg : Nat} (hN : 1000 ≤ N) (hk : 2 ≤ k) (hk8 : k ≤ 8) (hmg : n + mg ≤ 799) (hmg4 : mg < 400) {tks tkn : Nat → Int32} : ∀ (q i nx f : Nat) (mv : Int32) (queued used planned : Nat → Int32), 0 < i → i + q = mg → n + i = nx + (1 + q * (k - 1)) → q < f → agr (n + i) queued planned → (∀ r, r < n + i → (used r = 0 ↔ nx ≤ r)) →
    ∃ (mv' : Int32) (queued' used' planned' : Nat → Int32), l_X3_movedByQueue_59 N (nI n) (nI k) (nI (n + mg)) f mv (nI nx) (nI (n + i)) queued = some (mv', queued') ∧ l_X7_moves_54 N (nI k) 0 0 (nI n) f (nI (n + i - nx)) mv (nI i) tks tkn used planned = some (mv', nI mg, tks, tkn, used', planned')
  | 0, i, nx, f, mv, queued, used, planned, hi0, hiq, hL, hf, ha, hu => by
    obtain ⟨g, rfl⟩ : ∃ g, f = g + 1 := ⟨f - 1, by omega⟩
    have e : i = mg := by omega
    subst e
    have h1 : nI (n + i - nx) ≤ (1 : Int32) := nI_le (b := 1) (by omega) (by omega)
    rw [l_X3_movedByQueue_59, if_pos (nI_le (Nat.le_refl _) (by omega)), l_X7_moves_54, if_pos h1]
    exact ⟨mv, queued, used, planned, rfl, rfl⟩
  | q + 1, i, nx, f, mv, queued, used, planned, hi0, hiq, hL, hf, ha, hu => by
    obtain ⟨g, rfl⟩ : ∃ g, f = g + 1 := ⟨f - 1, by omega⟩
    rw [Nat.succ_mul] at hL
    have hy : (if nI i = 0 then gd (nz (nI k - 1)) <| some (2 + ((nI n - 2) - (nI n - 2) / (nI k - 1) * (nI k - 1))) else some (nI k)) = some (nI k) := if_neg (nI_ne0 hi0 (by omega))
    obtain ⟨acc, used1, planned1, s1, s2, s3, s4⟩ := queue_step (last := n + mg) (nx := nx) (tks := tks) (tkn := tkn) hN (p_waysk N hi0 (by omega)) hy hk hk8 (by omega) (by omega) (by omega) (by omega) (by omega) hu ha
    rw [s1, s2]
    exact queue_loop hN hk hk8 hmg hmg4 q (i + 1) (nx + k) g (mv + acc) _ used1 planned1 (by omega) (by omega) (by omega) (by omega) s3 s4
theorem c_queue2 {N n al : Nat} {pl : Nat → Int32} {rst : Nat → Int32} (hn : n ≤ 400) (hsz : ∀ r, r < n → f_X5_sizeOf N rst (nI al) (nI r) = some (pl r)) : ∀ (f j : Nat) (queued : Nat → Int32), j ≤ n → n - j < f → (∀ r, r < j → queued r = pl r) →
    ∃ queued', l_X3_movedByQueue_2 N rst (nI n) (nI al) f (nI j) queued = some queued' ∧ ∀ r, r < n → queued' r = pl r
  | 0, j, queued, _, hf, _ => absurd hf (by omega)
  | f + 1, j, queued, hj, hf, h => by
    rw [l_X3_movedByQueue_2]
    by_cases q : n ≤ j
    · have e : j = n := by omega
      subst e
      rw [if_pos (nI_le (Nat.le_refl _) (by omega))]
      exact ⟨queued, rfl, h⟩
    · rw [if_neg (nI_ge (by omega) (by omega)), bd1_eq (hsz j (by omega)), gd_nI (show j < 799 by omega) (by decide), nl_e, nI_1, nI_clamp (show j < 2 ^ 31 by omega)]
      refine c_queue2 hn hsz f (j + 1) _ (by omega) (by omega) fun r hr => ?_
      by_cases z : r = j
      · rw [z, pk_us]
      · rw [pk_un z]
        exact h r (by omega)
theorem queue_alike {N n k al : Nat} {rst msz queued tks tkn used planned : Nat → Int32} (hN : 1000 ≤ N) (hk : 2 ≤ k) (hk8 : k ≤ 8) (hn1 : 1 ≤ n) (hn : n ≤ 400) (hsz : ∀ r, r < n → f_X5_sizeOf N rst (nI al) (nI r) = some (msz r)) (mm : Int32) :
    ∃ (mv : Int32) (queued' used' planned' : Nat → Int32), f_X3_movedByQueue N rst (nI n) (nI al) queued (nI k) = some (mv, queued') ∧ f_X7_moves N (nI n) msz mm tks tkn used planned (nI k) 0 0 = some (mv, mm, tks, tkn, used', planned') := by
  obtain ⟨queued1, c1, c2⟩ := c_queue2 (N := N) hn hsz N 0 queued (by omega) (by omega) (fun r hr => absurd hr (by omega))
  obtain ⟨used1, planned1, m1, m2⟩ := m_moves9 (N := N) (msz := msz) hn N 0 used planned (by omega) (by omega) (fun r hr => absurd hr (by omega))
  have c1' : l_X3_movedByQueue_2 N rst (nI n) (nI al) N 0 queued = some queued1 := c1
  have m1' : l_X7_moves_9 N msz (nI n) N 0 used planned = some (used1, planned1) := m1
  obtain ⟨M, rfl⟩ : ∃ M, N = M + 1 := ⟨N - 1, by omega⟩
  by_cases z : n = 1
  · subst z
    refine ⟨0, queued1, used1, planned1, ?_, ?_⟩
    · have e1 : (if (799 : Int32) < nI 1 + nI 0 then (799 : Int32) else nI 1 + nI 0) = nI 1 := by decide
      have e2 : l_X3_movedByQueue_59 (M + 1) (nI 1) (nI k) (nI 1) (M + 1) 0 0 (nI 1) queued1 = some (0, queued1) := by
        rw [l_X3_movedByQueue_59, if_pos (by decide)]
      unfold f_X3_movedByQueue
      rw [bd1_eq c1', bd1_eq (p_mergesOf1 _ _), nl_e, e1, bd2_eq e2]
    · have e2 : l_X7_moves_54 (M + 1) (nI k) 0 0 (nI 1) (M + 1) (nI 1) 0 0 tks tkn used1 planned1 = some (0, 0, tks, tkn, used1, planned1) := by
        rw [l_X7_moves_54, if_pos (by decide)]
      unfold f_X7_moves
      rw [bd2_eq m1', bd6_eq e2, if_pos rfl]
  · have hn2 : 2 ≤ n := by omega
    obtain ⟨a1, a2, a3, a4, a5, a6, a7⟩ := gw_facts hk hk8 hn2
    have hw : f_X3_waysOf (M + 1) (nI 0) (nI n) (nI k) = some (nI (gw0 n k)) := p_ways0 _ hk hk8 hn2 hn
    have hy : (if nI 0 = 0 then gd (nz (nI k - 1)) <| some (2 + ((nI n - 2) - (nI n - 2) / (nI k - 1) * (nI k - 1))) else some (nI k)) = some (nI (gw0 n k)) := by
      rw [if_pos nI_0, gw0_I hk hk8 hn2 hn, nI_s1 (by omega), gd_nz (by omega) (by omega)]
    obtain ⟨acc, used2, planned2, s1, s2, s3, s4⟩ := queue_step (i := 0) (nx := 0) (last := n + (1 + gq n k)) (queued := queued1) (used := used1) (planned := planned1) (tks := tks) (tkn := tkn) hN hw hy a1 (by omega) (by omega) (by omega) (by omega) (by omega) (by omega) (fun r hr => ⟨fun _ => by omega, fun _ => (m2 r hr).1⟩) (fun r hr => by rw [c2 r hr, (m2 r hr).2])
    obtain ⟨mv', queued', used', planned', r1, r2⟩ := queue_loop (mg := 1 + gq n k) (tks := tks) (tkn := tkn) hN hk hk8 (by omega) (by omega) (gq n k) (0 + 1) (0 + gw0 n k) M (0 + acc) _ used2 planned2 (by omega) (by omega) (by omega) (by omega) s3 s4
    have s1' := s1 M 0
    have s2' := s2 M 0
    rw [r1] at s1'
    rw [r2] at s2'
    refine ⟨mv', queued', used', planned', ?_, ?_⟩
    · have e1 : (if (799 : Int32) < nI n + nI (1 + gq n k) then (799 : Int32) else nI n + nI (1 + gq n k)) = nI (n + (1 + gq n k)) := by
        rw [nI_add]
        exact if_neg (nI_nlt (a := 799) (by omega) (by omega))
      have e2 : l_X3_movedByQueue_59 (M + 1) (nI n) (nI k) (nI (n + (1 + gq n k))) (M + 1) 0 0 (nI n) queued1 = some (mv', queued') := s1'
      unfold f_X3_movedByQueue
      rw [bd1_eq c1', bd1_eq (p_mergesOf _ hk hk8 hn2 hn), nl_e, e1, bd2_eq e2]
    · have e2 : l_X7_moves_54 (M + 1) (nI k) 0 0 (nI n) (M + 1) (nI n) 0 0 tks tkn used1 planned1 = some (mv', nI (1 + gq n k), tks, tkn, used', planned') := s2'
      unfold f_X7_moves
      rw [bd2_eq m1', bd6_eq e2, if_pos rfl]
