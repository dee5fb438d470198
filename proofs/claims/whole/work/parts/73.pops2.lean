/-! WHAT HOLDS BETWEEN CALLS; calls that make RUNS, and that forget them. My own text. -/
def RR (n c al : Nat) (b ord io so : Nat → Nat) (S V T F mb rst inO sd bgn msz pool : Nat → Int32) : Prop := 0 < c ∧ b n = c ∧ RU al c b ord mb rst bgn msz pool ∧ (∀ i j, i < c → j < c → ord i = ord j → i = j) ∧ SO c (plc S V T F) io so ∧ (∀ k, k < c → inO k = nI (io k)) ∧ ∀ r, r < c → sd r = nI (so r)
def IR (cn n c al : Nat) (b ord io so : Nat → Nat) (S V T F mb rst inO sd : Nat → Int32) (rIn rMade rA : Int32) (mMade mRuns mAll : Int32) (bgn msz pool : Nat → Int32) : Prop := rMade = nI n ∧ mRuns = nI n ∧ mMade = (if n = 0 then 0 else 1) ∧ rIn = nI c ∧ rA = nI al ∧ mAll = nI al ∧ n ≤ al ∧ al ≤ 799 ∧ n ≤ 400 ∧ c ≤ cn ∧ (n = 0 → al = 0 ∧ c = 0) ∧ (0 < n → RR n c al b ord io so S V T F mb rst inO sd bgn msz pool)
theorem SO.congr {c : Nat} {P P' io so : Nat → Nat} (h : SO c P io so) (e : ∀ i, i < c → P' i = P i) : SO c P' io so := by
  obtain ⟨h1, h2, h3⟩ := h
  refine ⟨h1, h2, fun i j hij hj => ?_⟩
  rw [e _ (h1 i (by omega)).1, e _ (h1 j hj).1]
  exact h3 i j hij hj
theorem plc_congr {S V S' V' T F : Nat → Int32} {i : Nat} (h : S' i = S i ∧ V' i = V i) : plc S' V' T F i = plc S V T F i := by
  unfold plc plI plV sIx
  rw [h.1, h.2]
theorem IR.rows {cn cn' n c al : Nat} {b ord io so : Nat → Nat} {S V S' V' T F mb rst inO sd : Nat → Int32} {rIn rMade rA mMade mRuns mAll : Int32} {bgn msz pool : Nat → Int32} (h : IR cn n c al b ord io so S V T F mb rst inO sd rIn rMade rA mMade mRuns mAll bgn msz pool) (hc : cn ≤ cn') (hS : ∀ i, i < cn → S' i = S i ∧ V' i = V i) : IR cn' n c al b ord io so S' V' T F mb rst inO sd rIn rMade rA mMade mRuns mAll bgn msz pool := by
  obtain ⟨h1, h2, h3, h4, h5, h6, h7, h8, h9, h10, h11, h12⟩ := h
  refine ⟨h1, h2, h3, h4, h5, h6, h7, h8, h9, by omega, h11, fun hn => ?_⟩
  obtain ⟨r1, r2, r3, r4, r5, r6, r7⟩ := h12 hn
  exact ⟨r1, r2, r3, r4, r5.congr fun i hi => plc_congr (hS i (by omega)), r6, r7⟩
theorem ah_so (N : Nat) {cn c : Nat} {S V T F : Nat → Int32} {io so : Nat → Nat} (h : rOK cn S V T F) (hc : c ≤ cn) (hs : SO c (plc S V T F) io so) : ∀ a b, a < c → b < c → f_X7_ahead N S V T F (nI a) (nI b) = some (if so a < so b then 1 else 0) := by
  intro a b ha hb
  rw [p_ahead N h (show a < cn by omega) (show b < cn by omega)]
  congr 1
  by_cases z : plc S V T F a < plc S V T F b
  · rw [if_pos z, if_pos ((hs.lt ha hb).mp z)]
  · rw [if_neg z, if_neg (fun q => z ((hs.lt ha hb).mpr q))]
theorem ah_io (N : Nat) {cn c : Nat} {S V T F : Nat → Int32} {io so : Nat → Nat} (h : rOK cn S V T F) (hc : c ≤ cn) (hs : SO c (plc S V T F) io so) : ∀ i r, i < c → r < c → f_X7_ahead N S V T F (nI (io i)) (nI r) = some (if i < so r then 1 else 0) := by
  intro i r hi hr
  have h1 := ah_so N h hc hs (io i) r (hs.1 i hi).1 hr
  rw [(hs.1 i hi).2] at h1
  exact h1
theorem c_forget32 {N : Nat} : ∀ (f j : Nat) (g : Nat → Int32), j ≤ 8 → 8 - j < f → (∀ k, k < j → g k = 0) → ∃ g', l_X0_forget_32 N f (nI j) g = some g' ∧ ∀ k, k < 8 → g' k = 0
  | 0, j, g, _, hf, _ => absurd hf (by omega)
  | f + 1, j, g, hj, hf, h => by
    rw [l_X0_forget_32]
    by_cases q : 8 ≤ j
    · have e : j = 8 := by omega
      have q8 : (8 : Int32) ≤ nI j := nI_le (a := 8) q (by omega)
      rw [if_pos q8]
      rw [e] at h
      exact ⟨g, rfl, h⟩
    · have q8 : ¬ (8 : Int32) ≤ nI j := nI_ge (b := 8) (by omega) (by decide)
      rw [if_neg q8, gd_nI (show j < 8 by omega) (by decide), nl_e, nI_1, nI_clamp (show j < 2 ^ 31 by omega)]
      refine c_forget32 f (j + 1) _ (by omega) (by omega) fun k hk => ?_
      by_cases z : k = j
      · rw [z, pk_us]
      · rw [pk_un z]
        exact h k (by omega)
theorem p_cforget {N : Nat} (hN : 1000 ≤ N) (g : Nat → Int32) (a1 a2 a3 a4 a5 a6 : Int32) : ∃ g', f_X0_forget N g a1 a2 a3 a4 a5 a6 = some (g', 0, 0, 0, 0, 0, 0) ∧ ∀ k, k < 8 → g' k = 0 := by
  obtain ⟨g', r1, r2⟩ := c_forget32 (N := N) N 0 g (by omega) (by omega) (fun k hk => absurd hk (by omega))
  have r1' : l_X0_forget_32 N N 0 g = some g' := r1
  refine ⟨g', ?_, r2⟩
  unfold f_X0_forget
  rw [bd1_eq r1']
theorem p_forgetRuns {N : Nat} (hN : 1000 ≤ N) (g : Nat → Int32) (x1 x2 x3 x4 y1 y2 a1 a2 a3 a4 a5 a6 : Int32) : ∃ g', f_X6_forgetRuns N x1 x2 x3 x4 y1 y2 g a1 a2 a3 a4 a5 a6 = some (0, 0, 0, 0, 0, 0, g', 0, 0, 0, 0, 0, 0) ∧ ∀ k, k < 8 → g' k = 0 := by
  obtain ⟨g', r1, r2⟩ := p_cforget hN g a1 a2 a3 a4 a5 a6
  have e1 : f_X5_forget N x1 x2 x3 x4 = some (0, 0, 0, 0) := rfl
  have e2 : f_X3_forget N y1 y2 = some (0, 0) := rfl
  refine ⟨g', ?_, r2⟩
  unfold f_X6_forgetRuns
  rw [bd4_eq e1, bd2_eq e2, bd7_eq r1]
theorem st_clear {N : Nat} (hN : 1000 ≤ N) (cn : Int32) (g : Nat → Int32) (x1 x2 x3 x4 y1 y2 a1 a2 a3 a4 a5 a6 m1 m2 m3 m4 m5 m6 m7 : Int32) : ∃ g', f_X6_clear N cn x1 x2 x3 x4 y1 y2 g a1 a2 a3 a4 a5 a6 = some (cn, 0, 0, 0, 0, 0, 0, 0, g', 0, 0, 0, 0, 0, 0) ∧ f_X7_clear N cn m1 m2 m3 m4 m5 m6 m7 = some (cn, 0, 0, 0, 0, -1, 0, 0, 0) ∧ ∀ k, k < 8 → g' k = 0 := by
  obtain ⟨g', r1, r2⟩ := p_forgetRuns hN g x1 x2 x3 x4 y1 y2 a1 a2 a3 a4 a5 a6
  refine ⟨g', ?_, rfl, r2⟩
  unfold f_X6_clear
  rw [bd13_eq r1]
theorem ups4 {T : Nat → Int32} {a b c d : Nat} (ha : a < 4) (hb : b < 4) (hc : c < 4) (hd : d < 4) (h1 : a ≠ b) (h2 : a ≠ c) (h3 : a ≠ d) (h4 : b ≠ c) (h5 : b ≠ d) (h6 : c ≠ d) {j : Nat} (hj : j < 4) : (j = a ∧ upd (upd (upd (upd T a 0) b 1) c 2) d 3 j = nI 0) ∨ (j = b ∧ upd (upd (upd (upd T a 0) b 1) c 2) d 3 j = nI 1) ∨ (j = c ∧ upd (upd (upd (upd T a 0) b 1) c 2) d 3 j = nI 2) ∨ (j = d ∧ upd (upd (upd (upd T a 0) b 1) c 2) d 3 j = nI 3) := by
  by_cases z4 : j = d
  · exact Or.inr (Or.inr (Or.inr ⟨z4, by rw [z4, pk_us]; rfl⟩))
  · by_cases z3 : j = c
    · exact Or.inr (Or.inr (Or.inl ⟨z3, by rw [pk_un z4, z3, pk_us]; rfl⟩))
    · by_cases z2 : j = b
      · exact Or.inr (Or.inl ⟨z2, by rw [pk_un z4, pk_un z3, z2, pk_us]; rfl⟩)
      · have z1 : j = a := by omega
        exact Or.inl ⟨z1, by rw [pk_un z4, pk_un z3, pk_un z2, z1, pk_us]; rfl⟩
theorem rOK.ord {cn : Nat} {S V T F : Nat → Int32} (h : rOK cn S V T F) {a b c d : Nat} (ha : a < 4) (hb : b < 4) (hc : c < 4) (hd : d < 4) (h1 : a ≠ b) (h2 : a ≠ c) (h3 : a ≠ d) (h4 : b ≠ c) (h5 : b ≠ d) (h6 : c ≠ d) : rOK cn S V (upd (upd (upd (upd T a 0) b 1) c 2) d 3) F := by
  obtain ⟨r1, r2, r3, r4, r5, r6⟩ := h
  have l0 : (nI 0).toInt = 0 := by decide
  have l1 : (nI 1).toInt = 1 := by decide
  have l2 : (nI 2).toInt = 2 := by decide
  have l3 : (nI 3).toInt = 3 := by decide
  refine ⟨r1, r2, r3, fun j hj => ?_, fun i j hi hj e => ?_, r6⟩
  · rcases ups4 (T := T) ha hb hc hd h1 h2 h3 h4 h5 h6 hj with ⟨-, q⟩ | ⟨-, q⟩ | ⟨-, q⟩ | ⟨-, q⟩ <;> rw [q] <;> decide
  · rcases ups4 (T := T) ha hb hc hd h1 h2 h3 h4 h5 h6 hi with ⟨x, q⟩ | ⟨x, q⟩ | ⟨x, q⟩ | ⟨x, q⟩ <;> rcases ups4 (T := T) ha hb hc hd h1 h2 h3 h4 h5 h6 hj with ⟨y, p⟩ | ⟨y, p⟩ | ⟨y, p⟩ | ⟨y, p⟩ <;> rw [q, p] at e <;> first | (rw [x, y]; done) | (simp only [l0, l1, l2, l3] at e; omega)
theorem st_order (N : Nat) {cn n : Nat} {S V T F : Nat → Int32} (h : rOK cn S V T F) (hn : n ≤ 400) (v1 v2 v3 v4 : Int32) : ∃ (r : Int32) (T' : Nat → Int32), f_X6_order N T (nI n) v1 v2 v3 v4 = some (r, T') ∧ f_X7_order N T (if n = 0 then 0 else 1) v1 v2 v3 v4 = some (r, T') ∧ rOK cn S V T' F ∧ (0 < n → T' = T) := by
  have l0 : (0 : Int32).toInt = 0 := by decide
  have l3 : (3 : Int32).toInt = 3 := by decide
  by_cases z : n = 0
  · subst z
    unfold f_X6_order f_X6_isEachSortOnce f_X7_order
    simp only [p_isIn, p_is, bd1_s, ite_b, l0, l3, gd_b0, gd_b1, if_true]
    rw [if_neg (show ¬ (0 : Int32) < nI 0 by decide)]
    by_cases q1 : 0 ≤ v1.toInt ∧ v1.toInt ≤ 3
    · by_cases q2 : 0 ≤ v2.toInt ∧ v2.toInt ≤ 3
      · by_cases q3 : 0 ≤ v3.toInt ∧ v3.toInt ≤ 3
        · by_cases q4 : 0 ≤ v4.toInt ∧ v4.toInt ≤ 3
          · obtain ⟨a, a1, rfl⟩ := of_rng (k := 4) q1.1 (by omega) (by decide)
            obtain ⟨b, b1, rfl⟩ := of_rng (k := 4) q2.1 (by omega) (by decide)
            obtain ⟨c, c1, rfl⟩ := of_rng (k := 4) q3.1 (by omega) (by decide)
            obtain ⟨d, d1, rfl⟩ := of_rng (k := 4) q4.1 (by omega) (by decide)
            have ie : ∀ x y : Nat, x < 4 → y < 4 → (nI x = nI y ↔ x = y) := fun x y hx hy => nI_eq (by omega) (by omega)
            simp only [q1, q2, q3, q4, ie a b a1 b1, ie a c a1 c1, ie a d a1 d1, ie b c b1 c1, ie b d b1 d1, ie c d c1 d1, and_self, if_true]
            by_cases e1 : a = b
            · rw [if_pos e1, if_pos e1, bd1_s, if_pos rfl]
              exact ⟨_, _, rfl, rfl, h, fun z => absurd z (by omega)⟩
            · by_cases e2 : a = c
              · rw [if_neg e1, if_neg e1, if_pos e2, if_pos e2, bd1_s, if_pos rfl]
                exact ⟨_, _, rfl, rfl, h, fun z => absurd z (by omega)⟩
              · by_cases e3 : a = d
                · rw [if_neg e1, if_neg e1, if_neg e2, if_neg e2, if_pos e3, if_pos e3, bd1_s, if_pos rfl]
                  exact ⟨_, _, rfl, rfl, h, fun z => absurd z (by omega)⟩
                · by_cases e4 : b = c
                  · rw [if_neg e1, if_neg e1, if_neg e2, if_neg e2, if_neg e3, if_neg e3, if_pos e4, if_pos e4, bd1_s, if_pos rfl]
                    exact ⟨_, _, rfl, rfl, h, fun z => absurd z (by omega)⟩
                  · by_cases e5 : b = d
                    · rw [if_neg e1, if_neg e1, if_neg e2, if_neg e2, if_neg e3, if_neg e3, if_neg e4, if_neg e4, if_pos e5, if_pos e5, bd1_s, if_pos rfl]
                      exact ⟨_, _, rfl, rfl, h, fun z => absurd z (by omega)⟩
                    · by_cases e6 : c = d
                      · rw [if_neg e1, if_neg e1, if_neg e2, if_neg e2, if_neg e3, if_neg e3, if_neg e4, if_neg e4, if_neg e5, if_neg e5, if_pos e6, if_pos e6, bd1_s, if_pos rfl]
                        exact ⟨_, _, rfl, rfl, h, fun z => absurd z (by omega)⟩
                      · rw [if_neg e1, if_neg e1, if_neg e2, if_neg e2, if_neg e3, if_neg e3, if_neg e4, if_neg e4, if_neg e5, if_neg e5, if_neg e6, if_neg e6, bd1_s, if_neg (by decide)]
                        have g4 : ∀ x : Nat, x < 4 → ∀ {β : Type} {X : Option β}, gd (ix (nI x) 4) X = X := fun x hx => gd_nI hx (by decide)
                        simp only [g4 a a1, g4 b b1, g4 c c1, g4 d d1]
                        rw [nI_clamp (show a < 2 ^ 31 by omega), nI_clamp (show b < 2 ^ 31 by omega), nI_clamp (show c < 2 ^ 31 by omega), nI_clamp (show d < 2 ^ 31 by omega)]
                        exact ⟨_, _, rfl, rfl, h.ord a1 b1 c1 d1 e1 e2 e3 e4 e5 e6, fun z => absurd z (by omega)⟩
          · simp only [q1, q2, q3, q4, and_self, if_true, if_false, bd1_s]
            exact ⟨_, _, rfl, rfl, h, fun z => absurd z (by omega)⟩
        · simp only [q1, q2, q3, and_self, if_true, if_false, bd1_s]
          exact ⟨_, _, rfl, rfl, h, fun z => absurd z (by omega)⟩
      · simp only [q1, q2, and_self, if_true, if_false, bd1_s]
        exact ⟨_, _, rfl, rfl, h, fun z => absurd z (by omega)⟩
    · simp only [q1, if_false, bd1_s, if_true]
      exact ⟨_, _, rfl, rfl, h, fun z => absurd z (by omega)⟩
  · have hlt : (0 : Int32) < nI n := nI_lt (a := 0) (by omega) (by omega)
    unfold f_X6_order f_X7_order
    rw [if_pos hlt, if_neg z, if_neg (by decide)]
    exact ⟨_, _, rfl, rfl, h, fun _ => rfl⟩
theorem st_falls (N : Nat) {cn n : Nat} {S V T F : Nat → Int32} (h : rOK cn S V T F) (hn : n ≤ 400) (v1 v2 : Int32) (hv : v2 = 0 ∨ v2 = 1) : ∃ (r : Int32) (F' : Nat → Int32), f_X6_falls N F (nI n) v1 v2 = some (r, F') ∧ f_X7_falls N F (if n = 0 then 0 else 1) v1 v2 = some (r, F') ∧ rOK cn S V T F' ∧ (0 < n → F' = F) := by
  have l0 : (0 : Int32).toInt = 0 := by decide
  have l3 : (3 : Int32).toInt = 3 := by decide
  by_cases z : n = 0
  · subst z
    unfold f_X6_falls f_X7_falls
    simp only [p_isIn, p_is, bd1_s, ite_b, l0, l3, gd_b0, gd_b1, if_true]
    rw [if_neg (show ¬ (0 : Int32) < nI 0 by decide)]
    by_cases q1 : 0 ≤ v1.toInt ∧ v1.toInt ≤ 3
    · rw [if_pos q1]
      obtain ⟨a, a1, rfl⟩ := of_rng (k := 4) q1.1 (by omega) (by decide)
      rw [gd_nI a1 (by decide), nI_clamp (by omega)]
      refine ⟨_, _, rfl, rfl, ?_, fun z => absurd z (by omega)⟩
      obtain ⟨r1, r2, r3, r4, r5, r6⟩ := h
      refine ⟨r1, r2, r3, r4, r5, fun j hj => ?_⟩
      by_cases y : j = a
      · rw [y, pk_us]
        rcases hv with e | e
        · rw [e, nb0]; exact Or.inl rfl
        · rw [e, nb1]; exact Or.inr rfl
      · rw [pk_un y]
        exact r6 j hj
    · rw [if_neg q1]
      exact ⟨_, _, rfl, rfl, h, fun z => absurd z (by omega)⟩
  · have hlt : (0 : Int32) < nI n := nI_lt (a := 0) (by omega) (by omega)
    unfold f_X6_falls f_X7_falls
    rw [if_pos hlt, if_neg z, if_neg (by decide)]
    exact ⟨_, _, rfl, rfl, h, fun _ => rfl⟩
