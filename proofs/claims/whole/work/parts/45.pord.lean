/-! THE ORDER of all ROWS: putInOrder. My own text. -/
def ups (f : Nat → Nat) (k x : Nat) : Nat → Nat := fun j => if j = k then x else f j
theorem ups_s (f : Nat → Nat) (k x : Nat) : ups f k x k = x := by simp [ups]
theorem ups_n (f : Nat → Nat) {k x j : Nat} (h : j ≠ k) : ups f k x j = f j := by simp [ups, h]
def SO (n : Nat) (P io sd : Nat → Nat) : Prop := (∀ i, i < n → io i < n ∧ sd (io i) = i) ∧ (∀ r, r < n → sd r < n ∧ io (sd r) = r) ∧ ∀ i j, i < j → j < n → P (io i) < P (io j)
theorem SO.lt {n : Nat} {P io sd : Nat → Nat} (h : SO n P io sd) {a b : Nat} (ha : a < n) (hb : b < n) : P a < P b ↔ sd a < sd b := by
  obtain ⟨h1, h2, h3⟩ := h
  have ea := h2 a ha
  have eb := h2 b hb
  constructor
  · intro q
    rcases Nat.lt_or_ge (sd a) (sd b) with z | z
    · exact z
    · rcases Nat.lt_or_ge (sd b) (sd a) with y | y
      · have := h3 _ _ y ea.1
        rw [ea.2, eb.2] at this
        omega
      · have e : sd a = sd b := by omega
        have : a = b := by rw [← ea.2, e, eb.2]
        rw [this] at q
        omega
  · intro q
    have := h3 _ _ q eb.1
    rw [ea.2, eb.2] at this
    exact this
theorem p_rowOf (N : Nat) {m : Nat} (h : m < 2 ^ 62) : f_X4_rowOf N (lN m) = some (nI (m % 400)) := by
  unfold f_X4_rowOf
  have e : lN m - lN m / 400 * 400 = lN (m % 400) := pk_lRem (b := 400) (by omega) (by decide) (by decide)
  rw [e, lN_i]
theorem HP.congr {items : Nat → Int64} {size : Int32} {n : Nat} {S S' : Nat → Prop} (h : HP items size n S) (e : ∀ v, S' v ↔ S v) : HP items size n S' := by
  obtain ⟨h1, h2, ys, h3, h4, h5, h6⟩ := h
  exact ⟨h1, h2, ys, h3, h4, h5, fun v => (e v).trans (h6 v)⟩
theorem p_put1 {N : Nat} (hN : 1000 ≤ N) {c : Nat} {S V T F : Nat → Int32} (h : rOK c S V T F) : ∀ (f j : Nat) (items : Nat → Int64), j ≤ c → c - j < f → HP items (nI j) j (fun v => ∃ r, r < j ∧ v = plc S V T F r) →
    ∃ items', l_X5_putInOrder_6 N S V T F (nI c) (nI c) f (nI j) items (nI j) = some (items', nI c) ∧ HP items' (nI c) c (fun v => ∃ r, r < c ∧ v = plc S V T F r)
  | 0, j, items, _, hf, _ => absurd hf (by omega)
  | f + 1, j, items, hj, hf, hp => by
    have hc := h.1
    rw [l_X5_putInOrder_6]
    by_cases q : c ≤ j
    · have e : j = c := by omega
      subst e
      rw [if_pos (nI_le (Nat.le_refl _) (by omega))]
      exact ⟨items, rfl, hp⟩
    · have hjc : j < c := by omega
      rw [if_neg (nI_ge hjc (by omega)), p_placeOf N h hjc]
      have hlt := plc_lt h hjc
      obtain ⟨items', a1, a2⟩ := p_add hN hp (by omega) (x := plc S V T F j) (by omega) (by
        rintro ⟨r, hr, e⟩
        have := plc_inj h hjc (by omega) e
        omega)
      simp only [bd1, nI_l (show plc S V T F j < 2 ^ 31 by omega), a1, bd2, nl, nI_1]
      exact p_put1 hN h f (j + 1) items' (by omega) (by omega) (a2.congr fun v => by
        constructor
        · rintro ⟨r, hr, e⟩
          by_cases z : r = j
          · exact Or.inr (by rw [e, z])
          · exact Or.inl ⟨r, by omega, e⟩
        · rintro (⟨r, hr, e⟩ | e)
          · exact ⟨r, by omega, e⟩
          · exact ⟨j, by omega, e⟩)
theorem p_put2 {N : Nat} (hN : 1000 ≤ N) {c : Nat} {P : Nat → Nat} (hc : c ≤ 400) (hP : ∀ r, r < c → P r < 320001600 ∧ P r % 400 = r) : ∀ (f i : Nat) (inO st : Nat → Int32) (items : Nat → Int64) (io : Nat → Nat) (S : Nat → Prop), i ≤ c → c - i < f → HP items (nI (c - i)) (c - i) S →
    (∀ k, k < i → io k < c ∧ inO k = nI (io k) ∧ st (io k) = nI k) → (∀ a b, a < b → b < i → P (io a) < P (io b)) → (∀ k v, k < i → S v → P (io k) < v) → (∀ v, S v ↔ ∃ r, r < c ∧ v = P r ∧ ∀ k, k < i → io k ≠ r) →
    ∃ (inO' st' : Nat → Int32) (items' : Nat → Int64) (io' sd' : Nat → Nat), l_X5_putInOrder_32 N (nI c) f (nI i) items (nI (c - i)) inO st = some (items', nI 0, inO', st') ∧ SO c P io' sd' ∧ (∀ k, k < c → inO' k = nI (io' k)) ∧ (∀ r, r < c → st' r = nI (sd' r))
  | 0, i, inO, st, items, io, S, _, hf, _, _, _, _, _ => absurd hf (by omega)
  | f + 1, i, inO, st, items, io, S, hi, hf, hp, hA, hB, hC, hD => by
    rw [l_X5_putInOrder_32]
    by_cases q : c ≤ i
    · have e : i = c := by omega
      subst e
      rw [if_pos (nI_le (Nat.le_refl _) (by omega))]
      rw [Nat.sub_self] at hp ⊢
      obtain ⟨-, -, ys, -, -, -, hs⟩ := hp
      -- every ROW has come out
      have all : ∀ r, r < i → ∃ k, k < i ∧ io k = r := by
        intro r hr
        by_cases z : ∃ k, k < i ∧ io k = r
        · exact z
        · have : S (P r) := (hD _).mpr ⟨r, hr, rfl, fun k hk e => z ⟨k, hk, e⟩⟩
          obtain ⟨j, hj, -⟩ := (hs _).mp this
          omega
      have inj : ∀ a b, a < i → b < i → io a = io b → a = b := by
        intro a b ha hb e
        rcases Nat.lt_or_ge a b with z | z
        · have := hB a b z hb
          rw [e] at this
          omega
        · rcases Nat.lt_or_ge b a with y | y
          · have := hB b a y ha
            rw [e] at this
            omega
          · omega
      refine ⟨inO, st, items, io, fun r => (st r).toNatClampNeg, rfl, ⟨fun k hk => ?_, fun r hr => ?_, hB⟩, fun k hk => (hA k hk).2.1, fun r hr => ?_⟩
      · refine ⟨(hA k hk).1, ?_⟩
        show (st (io k)).toNatClampNeg = k
        rw [(hA k hk).2.2]
        exact nI_clamp (by omega)
      · obtain ⟨k, hk, e⟩ := all r hr
        show (st r).toNatClampNeg < i ∧ io (st r).toNatClampNeg = r
        rw [← e, (hA k hk).2.2, nI_clamp (by omega)]
        exact ⟨hk, rfl⟩
      · obtain ⟨k, hk, e⟩ := all r hr
        show st r = nI (st r).toNatClampNeg
        rw [← e, (hA k hk).2.2, nI_clamp (by omega)]
    · have hic : i < c := by omega
      rw [if_neg (nI_ge hic (by omega))]
      obtain ⟨d, hd⟩ : ∃ d, c - i = d + 1 := ⟨c - i - 1, by omega⟩
      have hd2 : c - (i + 1) = d := by omega
      rw [hd] at hp ⊢
      obtain ⟨m, items', a1, a2, a3, a4, a5⟩ := p_takeLeast hN hp
      obtain ⟨r, hr, em, hro⟩ := (hD m).mp a2
      have hPr := hP r hr
      have emod : m % 400 = r := by rw [em]; exact hPr.2
      rw [a1]
      simp only [bd3]
      rw [p_rowOf N a4, emod]
      simp only [bd1, nl, gd_nI (show i < 400 by omega) (by decide), gd_nI (show r < 400 by omega) (by decide), nI_clamp (show i < 2 ^ 31 by omega), nI_clamp (show r < 2 ^ 31 by omega), nI_1]
      rw [← hd2]
      rw [← hd2] at a5
      refine p_put2 hN hc hP f (i + 1) (upd inO i (nI r)) (upd st r (nI i)) items' (ups io i r) (fun v => S v ∧ v ≠ m) (by omega) (by omega) a5 ?_ ?_ ?_ ?_
      · intro k hk
        by_cases z : k = i
        · rw [z, ups_s, pk_us, pk_us]
          exact ⟨hr, rfl, rfl⟩
        · have hk2 : k < i := by omega
          rw [ups_n io z, pk_un z, pk_un (hro k hk2)]
          exact hA k hk2
      · intro a b hab hb
        by_cases z : b = i
        · rw [z, ups_s, ups_n io (by omega), ← em]
          exact hC a m (by omega) a2
        · rw [ups_n io z, ups_n io (by omega)]
          exact hB a b hab (by omega)
      · intro k v hk hv
        by_cases z : k = i
        · rw [z, ups_s, ← em]
          have := a3 v hv.1
          have := hv.2
          omega
        · rw [ups_n io z]
          exact hC k v (by omega) hv.1
      · intro v
        rw [hD v]
        constructor
        · rintro ⟨⟨r2, h1, h2, h3⟩, hne⟩
          refine ⟨r2, h1, h2, fun k hk => ?_⟩
          by_cases z : k = i
          · rw [z, ups_s]
            exact fun e => hne (by rw [h2, ← e, em])
          · rw [ups_n io z]
            exact h3 k (by omega)
        · rintro ⟨r2, h1, h2, h3⟩
          have h4 := h3 i (by omega)
          rw [ups_s] at h4
          refine ⟨⟨r2, h1, h2, fun k hk => ?_⟩, fun e => ?_⟩
          · have := h3 k (by omega)
            rw [ups_n io (by omega)] at this
            exact this
          · have h5 := (hP r2 h1).2
            rw [← h2, e, emod] at h5
            exact h4 h5
theorem p_putInOrder {N : Nat} (hN : 1000 ≤ N) {c : Nat} {S V T F : Nat → Int32} (h : rOK c S V T F) (inO st : Nat → Int32) (items : Nat → Int64) (size : Int32) :
    ∃ (inO' st' : Nat → Int32) (items' : Nat → Int64) (io sd : Nat → Nat), f_X5_putInOrder N S V T F (nI c) items size inO st (nI c) = some (items', nI 0, inO', st') ∧ SO c (plc S V T F) io sd ∧ (∀ k, k < c → inO' k = nI (io k)) ∧ (∀ r, r < c → st' r = nI (sd r)) := by
  obtain ⟨i1, a1, a2⟩ := p_put1 hN h N 0 items (by omega) (by have := h.1; omega) ((HP.empty items).congr fun v => ⟨fun ⟨r, hr, _⟩ => absurd hr (by omega), fun z => z.elim⟩)
  obtain ⟨inO', st', i2, io, sd, b1, b2, b3, b4⟩ := p_put2 hN h.1 (fun r hr => ⟨plc_lt h hr, plc_mod h hr⟩) N 0 inO st i1 (fun _ => 0) _ (by omega) (by have := h.1; omega) a2 (fun k hk => absurd hk (by omega)) (fun a b _ hb => absurd hb (by omega)) (fun k v hk => absurd hk (by omega)) (fun v => by
    constructor
    · rintro ⟨r, hr, e⟩
      exact ⟨r, hr, e, fun k hk => absurd hk (by omega)⟩
    · rintro ⟨r, hr, e, _⟩
      exact ⟨r, hr, e⟩)
  refine ⟨inO', st', i2, io, sd, ?_, b2, b3, b4⟩
  unfold f_X5_putInOrder
  have e1 : f_X1_forget N size = some 0 := rfl
  rw [e1]
  simp only [bd1]
  have a1' : l_X5_putInOrder_6 N S V T F (nI c) (nI c) N 0 items 0 = some (i1, nI c) := a1
  rw [a1']
  simp only [bd2]
  have b1' : l_X5_putInOrder_32 N (nI c) N 0 i1 (nI c) inO st = some (i2, nI 0, inO', st') := b1
  rw [b1']
  rfl
