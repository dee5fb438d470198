/-! THE PLAN: both programs take what the greedy merges take. My own text. -/
def tkv (V : List Nat) (x : Nat) : Nat := V.getD x 0 % 799
theorem nb0 : vp_nar .boolean 0 = 0 := by decide
theorem nb1 : vp_nar .boolean 1 = 1 := by decide
theorem c_takeF {N w : Nat} (hN : 1000 ≤ N) (hw : w < 2 ^ 31) : ∀ (d f j to acc : Nat) (V : List Nat) (items : Nat → Int64) (tr : Nat → Int32), j + d = w → d < f → d ≤ V.length → to + d ≤ 800 → gasc V → HP items (nI V.length) V.length (fun v => v ∈ V) →
    ∃ (items' : Nat → Int64) (tr' : Nat → Int32), l_X3_takeFewest_14 N (nI w) f (nI acc) (nI to) (nI j) items (nI V.length) tr = some (nI (acc + gsm (V.take d)), nI (to + d), items', nI (V.length - d), tr') ∧ HP items' (nI (V.length - d)) (V.length - d) (fun v => v ∈ V.drop d) ∧ (∀ x, x < to → tr' x = tr x) ∧ ∀ x, x < d → tr' (to + x) = nI (tkv V x)
  | 0, 0, j, to, acc, V, items, tr, _, hf, _, _, _, _ => absurd hf (by omega)
  | 0, f + 1, j, to, acc, V, items, tr, hj, _, _, _, _, hp => by
    have e : j = w := by omega
    rw [l_X3_takeFewest_14, if_pos (nI_le (by omega) (by omega))]
    refine ⟨items, tr, ?_, hp, fun x _ => rfl, fun x hx => absurd hx (by omega)⟩
    rfl
  | d + 1, 0, j, to, acc, V, items, tr, _, hf, _, _, _, _ => absurd hf (by omega)
  | d + 1, f + 1, j, to, acc, [], items, tr, _, _, hl, _, _, _ => absurd hl (by simp)
  | d + 1, f + 1, j, to, acc, v :: t, items, tr, hj, hf, hl, ht, hV, hp => by
    have hl2 : d ≤ t.length := by
      rw [List.length_cons] at hl
      omega
    have hp2 : HP items (nI (v :: t).length) (t.length + 1) (fun y => y ∈ v :: t) := hp
    obtain ⟨m, items1, a1, a2, a3, a4, a5⟩ := p_takeLeast hN hp2
    have em : m = v := by
      have h1 := a3 v List.mem_cons_self
      rcases List.mem_cons.mp a2 with h2 | h2
      · exact h2
      · have := gasc_head hV m h2
        omega
    subst em
    have e1 : lN m - lN m / 799 * 799 = lN (m % 799) := pk_lRem (b := 799) (by omega) (by decide) (by decide)
    have e2 : lN m / 799 = lN (m / 799) := pk_lDiv (b := 799) (by omega) (by decide) (by decide)
    have h8 : ¬ (800 : Int32) ≤ nI to := nI_ge (b := 800) (by omega) (by decide)
    have hp3 : HP items1 (nI t.length) t.length (fun y => y ∈ t) := a5.congr fun y => by
      constructor
      · intro h
        have := gasc_head hV y h
        exact ⟨List.mem_cons_of_mem m h, by omega⟩
      · rintro ⟨h1, h2⟩
        rcases List.mem_cons.mp h1 with h3 | h3
        · exact absurd h3 h2
        · exact h3
    obtain ⟨items', tr', b1, b2, b3, b4⟩ := c_takeF hN hw d f (j + 1) (to + 1) (acc + m / 799) t items1 (upd tr to (nI (m % 799))) (by omega) (by omega) hl2 (by omega) (gasc_tail hV) hp3
    rw [l_X3_takeFewest_14, if_neg (nI_ge (by omega) (by omega)), if_neg h8, bd3_eq a1, nl_e, gd_nI (show to < 800 by omega) (by decide), nl_e, nl_e, nl_e, nI_clamp (show to < 2 ^ 31 by omega), e1, lN_i, e2, lN_i, nI_add, nI_1, nI_1, b1]
    have g1 : gsm ((m :: t).take (d + 1)) = m / 799 + gsm (t.take d) := rfl
    have g2 : (m :: t).length - (d + 1) = t.length - d := by
      rw [List.length_cons]
      omega
    rw [g1, g2]
    refine ⟨items', tr', ?_, b2, fun x hx => ?_, fun x hx => ?_⟩
    · have q1 : acc + m / 799 + gsm (t.take d) = acc + (m / 799 + gsm (t.take d)) := by omega
      have q2 : to + 1 + d = to + (d + 1) := by omega
      rw [q1, q2]
    · rw [b3 x (by omega), pk_un (by omega)]
    · cases x with
      | zero =>
        rw [Nat.add_zero, b3 to (by omega), pk_us]
        rfl
      | succ y =>
        have q : to + (y + 1) = to + 1 + y := by omega
        rw [q, b4 y (by omega)]
        rfl
def bestR (pl : Nat → Nat) (used : Nat → Int32) (j : Nat) (b : Option Nat) : Prop := (b = none → ∀ r, r < j → used r ≠ 0) ∧ ∀ x, b = some x → x < j ∧ used x = 0 ∧ ∀ r, r < j → used r = 0 → pl x * 799 + x ≤ pl r * 799 + r
theorem lex_lt {a b x j : Nat} (h : ¬ a ≤ b) (hj : j < 799) : b * 799 + j ≤ a * 799 + x := by omega
theorem m_best {N n i : Nat} {pl : Nat → Nat} {used planned : Nat → Int32} (hni : n + i < 799) (hpl : ∀ r, r < n + i → planned r = nI (pl r) ∧ pl r ≤ 400) : ∀ (f j : Nat) (b : Option Nat), j ≤ n + i → n + i - j < f → bestR pl used j b →
    ∃ b', l_X7_moves_119 N used planned 1 (nI n) (nI i) f (lI b) (nI j) = some (lI b') ∧ bestR pl used (n + i) b'
  | 0, j, b, _, hf, _ => absurd hf (by omega)
  | f + 1, j, b, hj, hf, hb => by
    rw [l_X7_moves_119, nI_add]
    by_cases q : n + i ≤ j
    · have e : j = n + i := by omega
      rw [if_pos (nI_le q (by omega))]
      rw [e] at hb
      exact ⟨b, rfl, hb⟩
    · rw [if_neg (nI_ge (by omega) (by omega)), gd_nI (show j < 800 by omega) (by decide), nI_clamp (show j < 2 ^ 31 by omega)]
      have ih := fun b' => m_best (N := N) (used := used) hni hpl f (j + 1) b' (by omega) (by omega)
      by_cases u : used j = 0
      · rw [if_pos u]
        cases hbe : b with
        | none =>
          rw [hbe] at hb
          rw [if_pos (show lI none = -1 from rfl), nl_e, nI_1]
          exact ih (some j) ⟨fun e => (nomatch e), fun x e => by
            cases e
            refine ⟨by omega, u, fun r hr hu => ?_⟩
            by_cases z : r = j
            · rw [z]; exact Nat.le_refl _
            · exact absurd hu (hb.1 rfl r (by omega))⟩
        | some x =>
          rw [hbe] at hb
          obtain ⟨x1, x2, x3⟩ := hb.2 x rfl
          have px := hpl x (by omega)
          have pj := hpl j (by omega)
          have e1 : lI (some x) = nI x := rfl
          rw [e1, if_neg (nI_ne_m1 (by omega)), if_neg (by decide), gd_nI (show j < 800 by omega) (by decide), gd_nI (show x < 800 by omega) (by decide), nI_clamp (show x < 2 ^ 31 by omega), px.1, pj.1]
          by_cases z : pl x ≤ pl j
          · rw [if_pos (nI_le z (by omega)), nl_e, nI_1]
            exact ih (some x) ⟨fun e => (nomatch e), fun y e => by
              cases e
              refine ⟨by omega, x2, fun r hr hu => ?_⟩
              by_cases y : r = j
              · rw [y]; omega
              · exact x3 r (by omega) hu⟩
          · rw [if_neg (nI_ge (by omega) (by omega)), nl_e, nI_1]
            exact ih (some j) ⟨fun e => (nomatch e), fun y e => by
              cases e
              refine ⟨by omega, u, fun r hr hu => ?_⟩
              by_cases y : r = j
              · rw [y]; exact Nat.le_refl _
              · exact Nat.le_trans (lex_lt z (by omega)) (x3 r (by omega) hu)⟩
      · rw [if_neg u, nl_e, nI_1]
        exact ih b ⟨fun e r hr => by
          by_cases z : r = j
          · rw [z]; exact u
          · exact hb.1 e r (by omega), fun x e => by
          obtain ⟨x1, x2, x3⟩ := hb.2 x e
          refine ⟨by omega, x2, fun r hr hu => ?_⟩
          by_cases z : r = j
          · rw [z] at hu; exact absurd hu u
          · exact x3 r (by omega) hu⟩
def MR (n i : Nat) (V : List Nat) (pl : Nat → Nat) (used planned : Nat → Int32) : Prop := (∀ r, r < n + i → planned r = nI (pl r) ∧ pl r ≤ 400) ∧ ∀ v, v ∈ V ↔ ∃ r, r < n + i ∧ used r = 0 ∧ v = pl r * 799 + r
theorem m_takeF {N n i w : Nat} {pl : Nat → Nat} (hN : 1000 ≤ N) (hni : n + i < 799) (hi : i < 400) (hw : w ≤ 8) : ∀ (d f j acc : Nat) (V : List Nat) (tkn used planned : Nat → Int32), j + d = w → d < f → d ≤ V.length → gasc V → MR n i V pl used planned → planned (n + i) = nI acc →
    ∃ (tkn' used' planned' : Nat → Int32), l_X7_moves_106 N 1 1 (nI n) (nI i) (nI w) f (nI j) tkn used planned = some (tkn', used', planned') ∧ MR n i (V.drop d) pl used' planned' ∧ planned' (n + i) = nI (acc + gsm (V.take d)) ∧ used' (n + i) = used (n + i) ∧ (∀ x, (x < 8 * i + j ∨ 8 * i + w ≤ x) → tkn' x = tkn x) ∧ ∀ x, x < d → tkn' (8 * i + j + x) = nI (tkv V x)
  | 0, 0, j, acc, V, tkn, used, planned, _, hf, _, _, _, _ => absurd hf (by omega)
  | 0, f + 1, j, acc, V, tkn, used, planned, hj, _, _, _, hm, ha => by
    have e : j = w := by omega
    rw [l_X7_moves_106, if_pos (nI_le (by omega) (by omega))]
    exact ⟨tkn, used, planned, rfl, hm, ha, rfl, fun x _ => rfl, fun x hx => absurd hx (by omega)⟩
  | d + 1, 0, j, acc, V, tkn, used, planned, _, hf, _, _, _, _ => absurd hf (by omega)
  | d + 1, f + 1, j, acc, [], tkn, used, planned, _, _, hl, _, _, _ => absurd hl (by simp)
  | d + 1, f + 1, j, acc, v :: t, tkn, used, planned, hj, hf, hl, hV, hm, ha => by
    have hl2 : d ≤ t.length := by
      rw [List.length_cons] at hl
      omega
    obtain ⟨b, s1, s2⟩ := m_best (N := N) (used := used) hni hm.1 N 0 none (by omega) (by omega) ⟨fun _ r hr => absurd hr (by omega), fun x e => (nomatch e)⟩
    obtain ⟨r0, q1, q2, q3⟩ := (hm.2 v).mp List.mem_cons_self
    obtain ⟨x, ex⟩ : ∃ x, b = some x := by
      cases hb : b with
      | none => exact absurd q2 (s2.1 hb r0 q1)
      | some x => exact ⟨x, rfl⟩
    obtain ⟨x1, x2, x3⟩ := s2.2 x ex
    have px := hm.1 x x1
    have hxv : pl x * 799 + x = v := by
      have h1 := x3 r0 q1 q2
      have h2 : pl x * 799 + x ∈ v :: t := (hm.2 _).mpr ⟨x, x1, x2, rfl⟩
      rcases List.mem_cons.mp h2 with h3 | h3
      · exact h3
      · have := gasc_head hV _ h3
        omega
    have exv : x = v % 799 := by omega
    have epx : pl x = v / 799 := by omega
    rw [ex] at s1
    have s1' : l_X7_moves_119 N used planned 1 (nI n) (nI i) N (-1) 0 = some (nI x) := s1
    have e8 : (8 : Int32) * nI i + nI j = nI (8 * i + j) := by
      have h := pk_mul 8 i
      have h2 : (8 : Int32) = nI 8 := rfl
      rw [h2, h, nI_add]
    have hm2 : MR n i t pl (upd used x (vp_nar .boolean 1)) (upd planned (n + i) (nI (acc + v / 799))) := by
      refine ⟨fun r hr => ?_, fun y => ?_⟩
      · rw [pk_un (by omega)]
        exact hm.1 r hr
      · constructor
        · intro hy
          have hlt := gasc_head hV y hy
          obtain ⟨r, r1, r2, r3⟩ := (hm.2 y).mp (List.mem_cons_of_mem v hy)
          have hne : r ≠ x := fun e => by rw [e] at r3; omega
          exact ⟨r, r1, by rw [pk_un hne]; exact r2, r3⟩
        · rintro ⟨r, r1, r2, r3⟩
          have hne : r ≠ x := fun e => by
            rw [e, pk_us] at r2
            exact absurd r2 (by decide)
          rw [pk_un hne] at r2
          have h2 : y ∈ v :: t := (hm.2 y).mpr ⟨r, r1, r2, r3⟩
          rcases List.mem_cons.mp h2 with h3 | h3
          · have := hm.1 r r1
            omega
          · exact h3
    obtain ⟨tkn', used', planned', b1, b2, b3, b4, b5, b6⟩ := m_takeF hN hni hi hw d f (j + 1) (acc + v / 799) t (upd tkn (8 * i + j) (nI x)) (upd used x (vp_nar .boolean 1)) (upd planned (n + i) (nI (acc + v / 799))) (by omega) (by omega) hl2 (gasc_tail hV) hm2 pk_us
    rw [l_X7_moves_106, if_neg (nI_ge (by omega) (by omega)), bd1_eq s1', nI_add, gd_nI (show x < 800 by omega) (by decide), gd_nI (show n + i < 800 by omega) (by decide), gd_nI (show x < 800 by omega) (by decide), nl_e, gd_nI (show n + i < 800 by omega) (by decide), if_neg (by decide), e8, gd_nI (show 8 * i + j < 3200 by omega) (by decide), nl_e, nI_clamp (show x < 2 ^ 31 by omega), nI_clamp (show n + i < 2 ^ 31 by omega), nI_clamp (show 8 * i + j < 2 ^ 31 by omega), ha, px.1, nI_add, epx, nI_1, b1]
    have g1 : gsm ((v :: t).take (d + 1)) = v / 799 + gsm (t.take d) := rfl
    rw [g1]
    refine ⟨tkn', used', planned', rfl, b2, ?_, ?_, fun y hy => ?_, fun y hy => ?_⟩
    · rw [b3]
      congr 1
      omega
    · rw [b4, pk_un (by omega)]
    · rw [b5 y (by omega), pk_un (by omega)]
    · cases y with
      | zero =>
        rw [Nat.add_zero, b5 _ (by omega), pk_us, exv]
        rfl
      | succ z =>
        have q : 8 * i + j + (z + 1) = 8 * i + (j + 1) + z := by omega
        rw [q, b6 z (by omega)]
        rfl
