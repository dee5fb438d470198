/-! THE HEAP: a set of numbers, the least first. My own text. -/
def hpR (items : Nat → Int64) (ys : Nat → Nat) (n : Nat) : Prop := ∀ j, j < n → items j = lN (ys j) ∧ ys j < 2 ^ 62
def hpI (ys : Nat → Nat) (n : Nat) : Prop := ∀ i j, i < n → j < n → ys i = ys j → i = j
def hpS (ys : Nat → Nat) (n : Nat) (S : Nat → Prop) : Prop := ∀ v, S v ↔ ∃ j, j < n ∧ ys j = v
/-- the heap's cells hold the n different numbers of S -/
def HP (items : Nat → Int64) (size : Int32) (n : Nat) (S : Nat → Prop) : Prop := size = nI n ∧ n ≤ 400 ∧ ∃ ys : Nat → Nat, hpR items ys n ∧ (∀ j, 0 < j → j < n → ys ((j - 1) / 2) ≤ ys j) ∧ hpI ys n ∧ hpS ys n S
theorem HP.empty (items : Nat → Int64) : HP items 0 0 (fun _ => False) :=
  ⟨rfl, by omega, fun _ => 0, fun j h => absurd h (by omega), fun j _ h => absurd h (by omega), fun i j h => absurd h (by omega), fun v => ⟨fun h => h.elim, fun ⟨j, h, _⟩ => absurd h (by omega)⟩⟩
theorem lN_ltw {a b : Nat} (ha : a < 2 ^ 62) (hb : b < 2 ^ 62) : lN a < lN b ↔ a < b := pk_lLT (by omega) (by omega)
theorem lN_lew {a b : Nat} (ha : a < 2 ^ 62) (hb : b < 2 ^ 62) : lN a ≤ lN b ↔ a ≤ b := pk_lLE (by omega) (by omega)
/-- two places changed -/
def sw2 (ys : Nat → Nat) (h p : Nat) : Nat → Nat := fun j => if j = h then ys p else if j = p then ys h else ys j
theorem sw2_h (ys : Nat → Nat) (h p : Nat) : sw2 ys h p h = ys p := by simp [sw2]
theorem sw2_p (ys : Nat → Nat) (h p : Nat) : sw2 ys h p p = ys h := by
  unfold sw2
  by_cases q : p = h
  · rw [if_pos q, q]
  · rw [if_neg q, if_pos rfl]
theorem sw2_o (ys : Nat → Nat) {h p j : Nat} (a : j ≠ h) (b : j ≠ p) : sw2 ys h p j = ys j := by simp [sw2, a, b]
def sx (h p j : Nat) : Nat := if j = h then p else if j = p then h else j
theorem sw2_sx (ys : Nat → Nat) (h p j : Nat) : sw2 ys h p j = ys (sx h p j) := by
  unfold sw2 sx
  by_cases a : j = h
  · rw [if_pos a, if_pos a]
  · rw [if_neg a, if_neg a]
    by_cases b : j = p
    · rw [if_pos b, if_pos b]
    · rw [if_neg b, if_neg b]
theorem sx_lt {h p j n : Nat} (hh : h < n) (hp : p < n) (hj : j < n) : sx h p j < n := by
  unfold sx
  split
  · exact hp
  · split
    · exact hh
    · exact hj
theorem sx_inj {h p i j : Nat} (e : sx h p i = sx h p j) : i = j := by
  unfold sx at e
  split at e <;> split at e <;> (try split at e) <;> (try split at e) <;> omega
theorem sw2_I {ys : Nat → Nat} {n h p : Nat} (hh : h < n) (hp : p < n) (hi : hpI ys n) : hpI (sw2 ys h p) n := by
  intro i j hin hjn e
  rw [sw2_sx, sw2_sx] at e
  exact sx_inj (hi _ _ (sx_lt hh hp hin) (sx_lt hh hp hjn) e)
theorem sw2_S {ys : Nat → Nat} {n h p : Nat} (hh : h < n) (hp : p < n) (v : Nat) : (∃ j, j < n ∧ sw2 ys h p j = v) ↔ ∃ j, j < n ∧ ys j = v := by
  constructor
  · rintro ⟨j, hj, e⟩
    by_cases a : j = h
    · exact ⟨p, hp, by rw [← e, a, sw2_h]⟩
    · by_cases b : j = p
      · exact ⟨h, hh, by rw [← e, b, sw2_p]⟩
      · exact ⟨j, hj, by rw [← e, sw2_o ys a b]⟩
  · rintro ⟨j, hj, e⟩
    by_cases a : j = h
    · exact ⟨p, hp, by rw [sw2_p, ← e, a]⟩
    · by_cases b : j = p
      · exact ⟨h, hh, by rw [sw2_h, ← e, b]⟩
      · exact ⟨j, hj, by rw [sw2_o ys a b, e]⟩
/-- up: the hole at h; what is meant is ys, with x at the hole -/
theorem p_add_loop (N x : Nat) (hx : x < 2 ^ 62) : ∀ (f h n : Nat) (items : Nat → Int64) (ys : Nat → Nat), h < f → h < n → n ≤ 400 → ys h = x → (∀ j, j < n → j ≠ h → items j = lN (ys j) ∧ ys j < 2 ^ 62) →
    (∀ j, 0 < j → j < n → j ≠ h → ys ((j - 1) / 2) ≤ ys j) → (∀ j, 0 < h → 0 < j → j < n → (j - 1) / 2 = h → ys ((h - 1) / 2) ≤ ys j) → hpI ys n →
    ∃ (h' : Nat) (items' : Nat → Int64) (ys' : Nat → Nat), l_X1_add_28 N (lN x) f (nI h) items = some (nI h', items') ∧ h' < n ∧ ys' h' = x ∧ (∀ j, j < n → j ≠ h' → items' j = lN (ys' j) ∧ ys' j < 2 ^ 62) ∧ (∀ j, 0 < j → j < n → ys' ((j - 1) / 2) ≤ ys' j) ∧ hpI ys' n ∧ ∀ v, (∃ j, j < n ∧ ys' j = v) ↔ ∃ j, j < n ∧ ys j = v
  | 0, h, n, items, ys, hf, _, _, _, _, _, _, _ => absurd hf (by omega)
  | f + 1, h, n, items, ys, hf, hh, hn, e0, hr, ho, hg, hi => by
    by_cases h0 : h = 0
    · subst h0
      refine ⟨0, items, ys, ?_, hh, e0, hr, fun j a b => ho j a b (by omega), hi, fun v => Iff.rfl⟩
      rw [l_X1_add_28, if_pos (by decide)]
    · have hp : (h - 1) / 2 < h := by omega
      generalize hpe : (h - 1) / 2 = p at hp
      have e : (nI h - 1) / 2 = nI p := by rw [nI_s1 (by omega), nI_d2 (by omega), hpe]
      have hp1 := hr p (by omega) (by omega)
      have g1 : ∀ {X : Option (Int32 × (Nat → Int64))}, gd (ix (nI p) 400) X = X := gd_nI (by omega) (by decide)
      have g2 : ∀ {X : Option (Int32 × (Nat → Int64))}, gd (ix (nI h) 400) X = X := gd_nI (by omega) (by decide)
      have c1 : (nI p).toNatClampNeg = p := nI_clamp (by omega)
      have c2 : (nI h).toNatClampNeg = h := nI_clamp (by omega)
      have st : l_X1_add_28 N (lN x) (f + 1) (nI h) items = if lN x < items p then l_X1_add_28 N (lN x) f (nI p) (vp_updL items h (items p)) else some (nI h, items) := by
        rw [l_X1_add_28, if_neg (nI_nle (by omega) (by omega))]
        simp only [nl, e, g1, g2, c1, c2]
      rw [st, hp1.1]
      by_cases hc : x < ys p
      · rw [if_pos ((lN_ltw hx hp1.2).mpr hc)]
        obtain ⟨h', items', ys', a1, a2, a3, a4, a5, a6, a7⟩ := p_add_loop N x hx f p n (vp_updL items h (lN (ys p))) (sw2 ys h p) (by omega) (by omega) hn (by rw [sw2_p, e0])
          (fun j hj hne => by
            by_cases q : j = h
            · subst q
              rw [sw2_h]
              exact ⟨pk_uLs, hp1.2⟩
            · rw [sw2_o ys q hne, pk_uLn q]
              exact hr j hj q)
          (fun j hj0 hjn hne => by
            by_cases q : j = h
            · subst q
              rw [hpe, sw2_p, sw2_h, e0]
              omega
            · rw [sw2_o ys q hne]
              by_cases q2 : (j - 1) / 2 = h
              · rw [q2, sw2_h]
                have := hg j (by omega) hj0 hjn q2
                rw [hpe] at this
                exact this
              · by_cases q3 : (j - 1) / 2 = p
                · rw [q3, sw2_p, e0]
                  have := ho j hj0 hjn q
                  rw [q3] at this
                  omega
                · rw [sw2_o ys q2 q3]
                  exact ho j hj0 hjn q)
          (fun j hp0 hj0 hjn hjp => by
            have hpp := ho p hp0 (by omega) (by omega)
            rw [sw2_o ys (by omega) (by omega)]
            by_cases q : j = h
            · rw [q, sw2_h]
              exact hpp
            · rw [sw2_o ys q (by omega)]
              have := ho j hj0 hjn q
              rw [hjp] at this
              omega)
          (sw2_I hh (by omega) hi)
        exact ⟨h', items', ys', a1, a2, a3, a4, a5, a6, fun v => (a7 v).trans (sw2_S hh (by omega) v)⟩
      · rw [if_neg (fun q => hc ((lN_ltw hx hp1.2).mp q))]
        refine ⟨h, items, ys, rfl, hh, e0, hr, fun j a b => ?_, hi, fun v => Iff.rfl⟩
        by_cases q : j = h
        · rw [q, hpe, e0]
          omega
        · exact ho j a b q
/-- a number more -/
theorem p_add {N : Nat} (hN : 1000 ≤ N) {items : Nat → Int64} {size : Int32} {n : Nat} {S : Nat → Prop} (h : HP items size n S) (hn : n < 400) {x : Nat} (hx : x < 2 ^ 62) (hS : ¬ S x) :
    ∃ (items' : Nat → Int64), f_X1_add N items size (lN x) = some (items', nI (n + 1)) ∧ HP items' (nI (n + 1)) (n + 1) (fun v => S v ∨ v = x) := by
  obtain ⟨rfl, -, ys, hr, ho, hi, hs⟩ := h
  obtain ⟨h', items', ys', a1, a2, a3, a4, a5, a6, a7⟩ := p_add_loop N x hx N n (n + 1) items (fun j => if j = n then x else ys j) (by omega) (by omega) (by omega) (by simp)
    (fun j hj hne => by simp only [hne, if_false]; exact hr j (by omega))
    (fun j h0 hj hne => by
      have q : (j - 1) / 2 ≠ n := by omega
      simp only [hne, q, if_false]
      exact ho j h0 (by omega))
    (fun j h0 hj0 hj hp => by omega)
    (fun i j h1 h2 e => by
      by_cases a : i = n <;> by_cases b : j = n
      · omega
      · simp only [a, b, if_true, if_false] at e
        exact absurd ((hs x).mpr ⟨j, by omega, e.symm⟩) hS
      · simp only [a, b, if_true, if_false] at e
        exact absurd ((hs x).mpr ⟨i, by omega, e⟩) hS
      · simp only [a, b, if_false] at e
        exact hi i j (by omega) (by omega) e)
  refine ⟨vp_updL items' h' (lN x), ?_, rfl, by omega, ys', fun j hj => ?_, a5, a6, fun v => ?_⟩
  · have l1 : nI n < 400 := nI_lt (b := 400) hn (by decide)
    unfold f_X1_add
    rw [if_pos l1]
    simp only [nl, a1, bd2, gd_nI (show h' < 400 by omega) (by decide), nI_clamp (show h' < 2 ^ 31 by omega), nI_1]
  · by_cases q : j = h'
    · rw [q, pk_uLs, a3]
      exact ⟨rfl, hx⟩
    · rw [pk_uLn q]
      exact a4 j hj q
  · refine Iff.trans ?_ (a7 v).symm
    constructor
    · rintro (h1 | h1)
      · obtain ⟨j, hj, e⟩ := (hs v).mp h1
        exact ⟨j, by omega, by simp only [show j ≠ n by omega, if_false]; exact e⟩
      · exact ⟨n, by omega, by simp [h1]⟩
    · rintro ⟨j, hj, e⟩
      by_cases q : j = n
      · simp only [q, if_true] at e
        exact Or.inr e.symm
      · simp only [q, if_false] at e
        exact Or.inl ((hs v).mpr ⟨j, by omega, e⟩)
/-- down: the hole at h, left its first child; what is meant is ys, with x at the hole -/
theorem p_sink_loop (N x n : Nat) (hx : x < 2 ^ 62) (hn : n ≤ 400) : ∀ (f h : Nat) (items : Nat → Int64) (ys : Nat → Nat), n < h + f → h < n → ys h = x → (∀ j, j < n → j ≠ h → items j = lN (ys j) ∧ ys j < 2 ^ 62) →
    (∀ j, 0 < j → j < n → (j - 1) / 2 ≠ h → ys ((j - 1) / 2) ≤ ys j) → (∀ j, 0 < h → 0 < j → j < n → (j - 1) / 2 = h → ys ((h - 1) / 2) ≤ ys j) → hpI ys n →
    ∃ (h' : Nat) (items' : Nat → Int64) (ys' : Nat → Nat), l_X1_sink_5 N (nI n) (lN x) f (nI h) (nI (2 * h + 1)) items = some (nI h', items') ∧ h' < n ∧ ys' h' = x ∧ (∀ j, j < n → j ≠ h' → items' j = lN (ys' j) ∧ ys' j < 2 ^ 62) ∧ (∀ j, 0 < j → j < n → ys' ((j - 1) / 2) ≤ ys' j) ∧ hpI ys' n ∧ ∀ v, (∃ j, j < n ∧ ys' j = v) ↔ ∃ j, j < n ∧ ys j = v
  | 0, h, items, ys, hf, hh, _, _, _, _, _ => absurd hf (by omega)
  | f + 1, h, items, ys, hf, hh, e0, hr, ho, hg, hi => by
    by_cases h0 : n ≤ 2 * h + 1
    · refine ⟨h, items, ys, ?_, hh, e0, hr, fun j a b => ho j a b (by omega), hi, fun v => Iff.rfl⟩
      rw [l_X1_sink_5, if_pos (nI_le h0 (by omega))]
    · -- the lesser child
      obtain ⟨c, hc1, hc2, hc3, hcs⟩ : ∃ c : Nat, (c = 2 * h + 1 ∨ c = 2 * h + 2) ∧ c < n ∧ (∀ j, (j = 2 * h + 1 ∨ j = 2 * h + 2) → j < n → ys c ≤ ys j) ∧
          (if nI n ≤ nI (2 * h + 1) + 1 then some (nI (2 * h + 1)) else gd (ix (nI (2 * h + 1) + 1) 400) <| gd (ix (nI (2 * h + 1)) 400) <| if items (nI (2 * h + 1)).toNatClampNeg ≤ items (nI (2 * h + 1) + 1).toNatClampNeg then some (nI (2 * h + 1)) else some (nI (2 * h + 1) + 1)) = some (nI c) := by
        have r1 := hr (2 * h + 1) (by omega) (by omega)
        rw [nI_1]
        by_cases q : n ≤ 2 * h + 1 + 1
        · rw [if_pos (nI_le q (by omega))]
          exact ⟨2 * h + 1, Or.inl rfl, by omega, fun j hj hjn => by have : j = 2 * h + 1 := by omega
                                                                     rw [this]; exact Nat.le_refl _, rfl⟩
        · have r2 := hr (2 * h + 1 + 1) (by omega) (by omega)
          rw [if_neg (nI_ge (by omega) (by omega)), gd_nI (show 2 * h + 1 + 1 < 400 by omega) (by decide), gd_nI (show 2 * h + 1 < 400 by omega) (by decide), nI_clamp (by omega), nI_clamp (by omega), r1.1, r2.1]
          by_cases q2 : ys (2 * h + 1) ≤ ys (2 * h + 1 + 1)
          · rw [if_pos ((lN_lew r1.2 r2.2).mpr q2)]
            exact ⟨2 * h + 1, Or.inl rfl, by omega, fun j hj hjn => by rcases hj with rfl | rfl
                                                                       · exact Nat.le_refl _
                                                                       · exact q2, rfl⟩
          · rw [if_neg (fun z => q2 ((lN_lew r1.2 r2.2).mp z))]
            exact ⟨2 * h + 1 + 1, Or.inr rfl, by omega, fun j hj hjn => by rcases hj with rfl | rfl
                                                                           · omega
                                                                           · exact Nat.le_refl _, rfl⟩
      have hcp : (c - 1) / 2 = h := by omega
      have rc := hr c hc2 (by omega)
      have g1 : ∀ {X : Option (Int32 × (Nat → Int64))}, gd (ix (nI c) 400) X = X := gd_nI (by omega) (by decide)
      have g2 : ∀ {X : Option (Int32 × (Nat → Int64))}, gd (ix (nI h) 400) X = X := gd_nI (by omega) (by decide)
      have c1 : (nI c).toNatClampNeg = c := nI_clamp (by omega)
      have c2 : (nI h).toNatClampNeg = h := nI_clamp (by omega)
      have e2 : (2 * nI c) + 1 = nI (2 * c + 1) := by rw [i2, pk_mul, nI_1]
      have st : l_X1_sink_5 N (nI n) (lN x) (f + 1) (nI h) (nI (2 * h + 1)) items = if items c < lN x then l_X1_sink_5 N (nI n) (lN x) f (nI c) (nI (2 * c + 1)) (vp_updL items h (items c)) else some (nI h, items) := by
        rw [l_X1_sink_5, if_neg (nI_ge (by omega) (by omega))]
        simp only [nl]
        rw [hcs]
        simp only [bd1, g1, g2, c1, c2, e2]
      rw [st, rc.1]
      by_cases hc : ys c < x
      · rw [if_pos ((lN_ltw rc.2 hx).mpr hc)]
        obtain ⟨h', items', ys', a1, a2, a3, a4, a5, a6, a7⟩ := p_sink_loop N x n hx hn f c (vp_updL items h (lN (ys c))) (sw2 ys h c) (by omega) hc2 (by rw [sw2_p, e0])
          (fun j hj hne => by
            by_cases q : j = h
            · subst q
              rw [sw2_h]
              exact ⟨pk_uLs, rc.2⟩
            · rw [sw2_o ys q hne, pk_uLn q]
              exact hr j hj q)
          (fun j hj0 hjn hne => by
            by_cases q : j = c
            · rw [q, hcp, sw2_h, sw2_p, e0]
              omega
            · by_cases q2 : j = h
              · rw [q2, sw2_h, sw2_o ys (by omega) (by omega)]
                have := hg c (by omega) (by omega) hc2 hcp
                exact this
              · rw [sw2_o ys q2 q]
                by_cases q3 : (j - 1) / 2 = h
                · rw [q3, sw2_h]
                  exact hc3 j (by omega) hjn
                · rw [sw2_o ys q3 hne]
                  exact ho j hj0 hjn q3)
          (fun j hp0 hj0 hjn hjp => by
            rw [hcp, sw2_h, sw2_o ys (by omega) (by omega)]
            have := ho j hj0 hjn (by omega)
            rw [hjp] at this
            exact this)
          (sw2_I hh hc2 hi)
        exact ⟨h', items', ys', a1, a2, a3, a4, a5, a6, fun v => (a7 v).trans (sw2_S hh hc2 v)⟩
      · rw [if_neg (fun q => hc ((lN_ltw rc.2 hx).mp q))]
        refine ⟨h, items, ys, rfl, hh, e0, hr, fun j a b => ?_, hi, fun v => Iff.rfl⟩
        by_cases q : (j - 1) / 2 = h
        · rw [q, e0]
          have := hc3 j (by omega) b
          omega
        · exact ho j a b q
/-- the first is the least -/
theorem hp_least {ys : Nat → Nat} {n : Nat} (ho : ∀ j, 0 < j → j < n → ys ((j - 1) / 2) ≤ ys j) : ∀ j, j < n → ys 0 ≤ ys j := by
  intro j
  induction j using Nat.strongRecOn with
  | ind j ih =>
    intro hj
    by_cases h0 : j = 0
    · rw [h0]; exact Nat.le_refl _
    · have h1 := ih ((j - 1) / 2) (by omega) (by omega)
      have h2 := ho j (by omega) hj
      omega
/-- the least number goes -/
theorem p_takeLeast {N : Nat} (hN : 1000 ≤ N) {items : Nat → Int64} {size : Int32} {n : Nat} {S : Nat → Prop} (h : HP items size (n + 1) S) :
    ∃ (m : Nat) (items' : Nat → Int64), f_X1_takeLeast N items size = some (lN m, items', nI n) ∧ S m ∧ (∀ v, S v → m ≤ v) ∧ m < 2 ^ 62 ∧ HP items' (nI n) n (fun v => S v ∧ v ≠ m) := by
  obtain ⟨rfl, hn, ys, hr, ho, hi, hs⟩ := h
  have r0 := hr 0 (by omega)
  have rn := hr n (by omega)
  have hle := hp_least ho
  have hS0 : ∀ v, (S v ∧ v ≠ ys 0) ↔ ∃ j, j < n ∧ (if j = 0 then ys n else ys j) = v ∧ 0 < n := by
    intro v
    rw [hs v]
    constructor
    · rintro ⟨⟨j, hj, e⟩, hne⟩
      have hj0 : j ≠ 0 := fun q => hne (by rw [← e, q])
      by_cases q : j = n
      · exact ⟨0, by omega, by simp [← q, e], by omega⟩
      · exact ⟨j, by omega, by simp [hj0, e], by omega⟩
    · rintro ⟨j, hj, e, hn0⟩
      by_cases q : j = 0
      · simp only [q, if_true] at e
        exact ⟨⟨n, by omega, e⟩, fun z => by have := hi n 0 (by omega) (by omega) (by rw [e, z]); omega⟩
      · simp only [q, if_false] at e
        exact ⟨⟨j, by omega, e⟩, fun z => by have := hi j 0 (by omega) (by omega) (by rw [e, z]); omega⟩
  have g0 : ∀ {X : Option (Int64 × (Nat → Int64) × Int32)}, gd (ix 0 400) X = X := fun {X} => gd_nI (i := 0) (by decide) (by decide)
  have gn : ∀ {X : Option (Int64 × (Nat → Int64) × Int32)}, gd (ix (nI n) 400) X = X := gd_nI (by omega) (by decide)
  have c0 : (0 : Int32).toNatClampNeg = 0 := by decide
  have cn : (nI n).toNatClampNeg = n := nI_clamp (by omega)
  have hne : ¬ nI (n + 1) = 0 := nI_ne0 (by omega) (by omega)
  by_cases hn0 : n = 0
  · subst hn0
    refine ⟨ys 0, vp_updL items 0 (lN (ys 0)), ?_, (hs _).mpr ⟨0, by omega, rfl⟩, fun v hv => ?_, r0.2, rfl, by omega, ys, fun j h => absurd h (by omega), fun j _ h => absurd h (by omega), fun i j h => absurd h (by omega), fun v => ?_⟩
    · unfold f_X1_takeLeast
      rw [if_neg hne]
      simp only [nl, nI_pred, g0, gn, c0, cn, r0.1]
      have : f_X1_sink N items (nI 0) (lN (ys 0)) = some (vp_updL items 0 (lN (ys 0))) := by
        unfold f_X1_sink
        obtain ⟨M, rfl⟩ : ∃ M, N = M + 1 := ⟨N - 1, by omega⟩
        rw [l_X1_sink_5, if_pos (by decide)]
        rfl
      rw [this]
      rfl
    · obtain ⟨j, hj, e⟩ := (hs v).mp hv
      rw [← e]
      exact hle j hj
    · refine (hS0 v).trans ?_
      constructor
      · rintro ⟨j, hj, -⟩
        omega
      · rintro ⟨j, hj, -⟩
        omega
  · obtain ⟨h', items', ys', a1, a2, a3, a4, a5, a6, a7⟩ := p_sink_loop N (ys n) n rn.2 (by omega) N 0 items (fun j => if j = 0 then ys n else ys j) (by omega) (by omega) (by simp)
      (fun j hj hne => by simp only [hne, if_false]; exact hr j (by omega))
      (fun j h0 hj hp => by
        have q : j ≠ 0 := by omega
        simp only [q, hp, if_false]
        exact ho j h0 (by omega))
      (fun j h0 => absurd h0 (by omega))
      (fun i j h1 h2 e => by
        by_cases a : i = 0 <;> by_cases b : j = 0
        · omega
        · simp only [a, b, if_true, if_false] at e
          have := hi n j (by omega) (by omega) e
          omega
        · simp only [a, b, if_true, if_false] at e
          have := hi i n (by omega) (by omega) e
          omega
        · simp only [a, b, if_false] at e
          exact hi i j (by omega) (by omega) e)
    refine ⟨ys 0, vp_updL items' h' (lN (ys n)), ?_, (hs _).mpr ⟨0, by omega, rfl⟩, fun v hv => ?_, r0.2, rfl, by omega, ys', fun j hj => ?_, a5, a6, fun v => ?_⟩
    · unfold f_X1_takeLeast
      rw [if_neg hne]
      simp only [nl, nI_pred, g0, gn, c0, cn, r0.1, rn.1]
      have : f_X1_sink N items (nI n) (lN (ys n)) = some (vp_updL items' h' (lN (ys n))) := by
        unfold f_X1_sink
        have a1' : l_X1_sink_5 N (nI n) (lN (ys n)) N 0 1 items = some (nI h', items') := a1
        rw [a1']
        simp only [bd2, gd_nI (show h' < 400 by omega) (by decide), nI_clamp (show h' < 2 ^ 31 by omega)]
      rw [this]
      rfl
    · obtain ⟨j, hj, e⟩ := (hs v).mp hv
      rw [← e]
      exact hle j hj
    · by_cases q : j = h'
      · rw [q, pk_uLs, a3]
        exact ⟨rfl, rn.2⟩
      · rw [pk_uLn q]
        exact a4 j hj q
    · refine (hS0 v).trans (Iff.trans ?_ (a7 v).symm)
      constructor
      · rintro ⟨j, hj, e, -⟩
        exact ⟨j, hj, e⟩
      · rintro ⟨j, hj, e⟩
        exact ⟨j, hj, e, by omega⟩
