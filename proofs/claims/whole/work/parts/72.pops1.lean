/-! CALLS on ROWS and THE ORDER: both answer alike. My own text. -/
theorem bd1_s {A1 γ : Type} (a : A1) (B : A1 → Option γ) : bd1 (some a) B = B a := by
  have h : B a = B a := rfl
  exact h
theorem ite_b {α : Type} (p : Prop) {ins : Decidable p} (X Y : α) : (if (@ite Int32 p ins 1 0) = 0 then X else Y) = @ite α p ins Y X := by
  by_cases h : p
  · rw [if_pos h, if_pos h, if_neg (by decide)]
  · rw [if_neg h, if_neg h, if_pos rfl]
theorem of_rng {v : Int32} {k : Nat} (h0 : 0 ≤ v.toInt) (h : v.toInt < k) (hk : k < 2 ^ 31) : ∃ j, j < k ∧ v = nI j := vp_in_of (vp_in_iff.mpr ⟨h0, h⟩ : vp_in v k) hk
theorem p_radd (N : Nat) {c : Nat} (S V : Nat → Int32) (a b : Int32) (hc : c < 400) : f_X4_add N S V (nI c) a b = some (upd S c a, upd V c b, nI (c + 1)) := by
  unfold f_X4_add
  have h : ¬ (400 : Int32) ≤ nI c := nI_ge (b := 400) hc (by decide)
  rw [if_neg h, gd_nI hc (by decide), gd_nI hc (by decide), nl_e, nI_1, nI_clamp (by omega)]
theorem rOK.add {c : Nat} {S V T F : Nat → Int32} (h : rOK c S V T F) (hc : c < 400) {a b : Int32} (ha : 0 ≤ a.toInt ∧ a.toInt < 4) (hb : -100000 ≤ b.toInt ∧ b.toInt ≤ 100000) : rOK (c + 1) (upd S c a) (upd V c b) T F := by
  obtain ⟨h1, h2, h3, h4⟩ := h
  refine ⟨by omega, fun j hj => ?_, fun j hj => ?_, h4⟩
  · by_cases z : j = c
    · rw [z, pk_us]; exact ha
    · rw [pk_un z]; exact h2 j (by omega)
  · by_cases z : j = c
    · rw [z, pk_us]; exact hb
    · rw [pk_un z]; exact h3 j (by omega)
theorem p_room (N : Nat) {c k : Nat} (hc : c ≤ 400) (hk : k < 2 ^ 31) : f_X4_hasRoomFor N (nI c) (nI k) = some (if c + k ≤ 400 then 1 else 0) := by
  unfold f_X4_hasRoomFor
  have e : (400 : Int32) - nI c = nI (400 - c) := nI_sub (a := 400) hc
  rw [e]
  by_cases h : c + k ≤ 400
  · rw [if_neg (nI_nlt (by omega) (by omega)), if_pos h]
    rfl
  · rw [if_pos (nI_lt (by omega) hk), if_neg h]
    rfl
theorem st_give (N : Nat) {cn : Nat} {S V T F : Nat → Int32} (h : rOK cn S V T F) (v1 v2 : Int32) : ∃ (r : Int32) (S' V' : Nat → Int32) (cn' : Nat), f_X6_give N S V (nI cn) v1 v2 = some (r, S', V', nI cn') ∧ f_X7_give N S V (nI cn) v1 v2 = some (r, S', V', nI cn') ∧ rOK cn' S' V' T F ∧ cn ≤ cn' ∧ ∀ i, i < cn → S' i = S i ∧ V' i = V i := by
  have hc := h.1
  have l0 : (0 : Int32).toInt = 0 := by decide
  have l3 : (3 : Int32).toInt = 3 := by decide
  have l4 : (-100000 : Int32).toInt = -100000 := by decide
  have l5 : (100000 : Int32).toInt = 100000 := by decide
  have hr : f_X4_hasRoomFor N (nI cn) 1 = some (if cn + 1 ≤ 400 then 1 else 0) := p_room N (k := 1) hc (by decide)
  unfold f_X6_give f_X7_give
  simp only [p_isIn, p_is, hr, bd1_s, ite_b, l0, l3, l4, l5]
  by_cases q1 : 0 ≤ v1.toInt ∧ v1.toInt ≤ 3
  · rw [if_pos q1, if_pos q1]
    by_cases q2 : -100000 ≤ v2.toInt ∧ v2.toInt ≤ 100000
    · rw [if_pos q2, if_pos q2]
      by_cases q3 : cn + 1 ≤ 400
      · have e4 : ¬ nI cn = (400 : Int32) := fun e => by
          have := (nI_eq (a := cn) (b := 400) (by omega) (by omega)).mp e
          omega
        rw [if_pos q3, bd3_eq (p_radd N S V v1 v2 (by omega)), if_neg e4, gd_nI (by omega) (by decide), gd_nI (by omega) (by decide), nl_e, nI_1, nI_clamp (by omega)]
        refine ⟨_, _, _, cn + 1, rfl, rfl, h.add (by omega) (by omega) q2, by omega, fun i hi => ⟨pk_un (by omega), pk_un (by omega)⟩⟩
      · have e4 : nI cn = (400 : Int32) := by
          have : cn = 400 := by omega
          rw [this]
          rfl
        rw [if_neg q3, if_pos e4]
        exact ⟨_, _, _, cn, rfl, rfl, h, by omega, fun i _ => ⟨rfl, rfl⟩⟩
    · rw [if_neg q2, if_neg q2]
      exact ⟨_, _, _, cn, rfl, rfl, h, by omega, fun i _ => ⟨rfl, rfl⟩⟩
  · rw [if_neg q1, if_neg q1]
    exact ⟨_, _, _, cn, rfl, rfl, h, by omega, fun i _ => ⟨rfl, rfl⟩⟩
/-- the value that sow makes -/
theorem sow_val {c d : Nat} {sl : Int32} (g : Int32) (hc : c < 400) (hd : 0 < d) (hd2 : d ≤ 10000) (hs : -100 ≤ sl.toInt ∧ sl.toInt ≤ 100) : -100000 ≤ ((nI c * sl) + ((g.toUInt32 >>> (((8 : Int32)).toUInt32 &&& Int32.toUInt32 31)).toInt32 - (g.toUInt32 >>> (((8 : Int32)).toUInt32 &&& Int32.toUInt32 31)).toInt32 / nI d * nI d)).toInt ∧ ((nI c * sl) + ((g.toUInt32 >>> (((8 : Int32)).toUInt32 &&& Int32.toUInt32 31)).toInt32 - (g.toUInt32 >>> (((8 : Int32)).toUInt32 &&& Int32.toUInt32 31)).toInt32 / nI d * nI d)).toInt ≤ 100000 := by
  obtain ⟨n, hn, e1⟩ : ∃ n, n < 2 ^ 32 ∧ (g.toUInt32 >>> (((8 : Int32)).toUInt32 &&& Int32.toUInt32 31)).toInt32 = nI (n / 2 ^ 8) := by
    refine ⟨g.toBitVec.toNat, g.toBitVec.isLt, ?_⟩
    have h0 := g.toBitVec.isLt
    have h1 := pk_ushr g 8 8 (by decide)
    apply Int32.toBitVec_inj.1
    apply BitVec.eq_of_toNat_eq
    rw [h1, pk_tn (by omega)]
  have hlt := Nat.mod_lt (n / 2 ^ 8) hd
  rw [e1, pk_rem (by omega) hd (by omega)]
  have ec : (nI c).toInt = (c : Int) := nI_toInt (by omega)
  have em : (nI (n / 2 ^ 8 % d)).toInt = ((n / 2 ^ 8 % d : Nat) : Int) := nI_toInt (by omega)
  have hp1 : (c : Int) * sl.toInt ≤ 39900 := by
    have h1 : (c : Int) * sl.toInt ≤ (c : Int) * 100 := Int.mul_le_mul_of_nonneg_left hs.2 (by omega)
    omega
  have hp2 : -39900 ≤ (c : Int) * sl.toInt := by
    have h1 : (c : Int) * (-100) ≤ (c : Int) * sl.toInt := Int.mul_le_mul_of_nonneg_left hs.1 (by omega)
    omega
  have e2 : (nI c * sl).toInt = (c : Int) * sl.toInt := by rw [fb_mulI (by rw [ec]; omega) (by rw [ec]; omega), ec]
  rw [fb_addI (by rw [e2, em]; omega) (by rw [e2, em]; omega), e2, em]
  omega
theorem sow_loop (N : Nat) {k d : Nat} {v1 sl : Int32} {T F : Nat → Int32} (hk : k ≤ 100) (hd : 0 < d) (hd2 : d ≤ 10000) (hs : -100 ≤ sl.toInt ∧ sl.toInt ≤ 100) (hv : 0 ≤ v1.toInt ∧ v1.toInt < 4) : ∀ (f i c : Nat) (g : Int32) (S V : Nat → Int32), i ≤ k → k - i < f → c + (k - i) ≤ 400 → rOK c S V T F →
    ∃ (S' V' : Nat → Int32), l_X6_sow_62 N v1 (nI k) sl (nI d) f g (nI i) S V (nI c) = some (S', V', nI (c + (k - i))) ∧ l_X7_sow_63 N v1 (nI k) sl (nI d) f g (nI i) S V (nI c) = some (S', V', nI (c + (k - i))) ∧ rOK (c + (k - i)) S' V' T F ∧ ∀ j, j < c → S' j = S j ∧ V' j = V j
  | 0, i, c, g, S, V, _, hf, _, _ => absurd hf (by omega)
  | f + 1, i, c, g, S, V, hi, hf, hc, h => by
    rw [l_X6_sow_62, l_X7_sow_63]
    by_cases q : k ≤ i
    · have e : k - i = 0 := by omega
      rw [if_pos (nI_le q (by omega)), if_pos (nI_le q (by omega)), e]
      exact ⟨S, V, rfl, rfl, h, fun j _ => ⟨rfl, rfl⟩⟩
    · have hval := sow_val (c := c) (sl := sl) (1103515245 * g + 12345) (by omega) hd hd2 hs
      rw [if_neg (nI_ge (by omega) (by omega)), if_neg (nI_ge (by omega) (by omega)), nl_e, nl_e, gd_nz hd (by omega), bd3_eq (p_radd N S V v1 _ (show c < 400 by omega)), nl_e, gd_nI (show c < 400 by omega) (by decide), gd_nz hd (by omega), nl_e, gd_nI (show c < 400 by omega) (by decide), nl_e, nl_e, nI_1, nI_1, nI_clamp (show c < 2 ^ 31 by omega)]
      obtain ⟨S', V', r1, r2, r3, r4⟩ := sow_loop N hk hd hd2 hs hv f (i + 1) (c + 1) (1103515245 * g + 12345) (upd S c v1) (upd V c _) (by omega) (by omega) (by omega) (h.add (by omega) hv hval)
      have e : c + 1 + (k - (i + 1)) = c + (k - i) := by omega
      rw [e] at r1 r2 r3
      refine ⟨S', V', r1, r2, r3, fun j hj => ?_⟩
      have := r4 j (by omega)
      rw [pk_un (by omega), pk_un (by omega)] at this
      exact this
theorem st_sow {N : Nat} (hN : 1000 ≤ N) {cn : Nat} {S V T F : Nat → Int32} (h : rOK cn S V T F) (v1 v2 v3 v4 v5 : Int32) : ∃ (r : Int32) (S' V' : Nat → Int32) (cn' : Nat), f_X6_sow N S V (nI cn) v1 v2 v3 v4 v5 = some (r, S', V', nI cn') ∧ f_X7_sow N S V (nI cn) v1 v2 v3 v4 v5 = some (r, S', V', nI cn') ∧ rOK cn' S' V' T F ∧ cn ≤ cn' ∧ ∀ i, i < cn → S' i = S i ∧ V' i = V i := by
  have hc := h.1
  have l0 : (0 : Int32).toInt = 0 := by decide
  have l1 : (1 : Int32).toInt = 1 := by decide
  have l3 : (3 : Int32).toInt = 3 := by decide
  have l100 : (100 : Int32).toInt = 100 := by decide
  have lm100 : (-100 : Int32).toInt = -100 := by decide
  have lt : (10000 : Int32).toInt = 10000 := by decide
  unfold f_X6_sow f_X7_sow
  simp only [p_isIn, p_is, bd1_s, ite_b, l0, l1, l3, l100, lm100, lt]
  by_cases q1 : 0 ≤ v1.toInt ∧ v1.toInt ≤ 3
  · rw [if_pos q1, if_pos q1]
    by_cases q2 : 1 ≤ v2.toInt ∧ v2.toInt ≤ 100
    · rw [if_pos q2, if_pos q2]
      by_cases q4 : -100 ≤ v4.toInt ∧ v4.toInt ≤ 100
      · rw [if_pos q4, if_pos q4]
        by_cases q5 : 1 ≤ v5.toInt ∧ v5.toInt ≤ 10000
        · rw [if_pos q5, if_pos q5]
          obtain ⟨k, k1, rfl⟩ := of_rng (k := 101) (show 0 ≤ v2.toInt by omega) (by omega) (by decide)
          obtain ⟨d, d1, rfl⟩ := of_rng (k := 10001) (show 0 ≤ v5.toInt by omega) (by omega) (by decide)
          rw [nI_toInt (by omega)] at q2 q5
          rw [bd1_eq (p_room N hc (show k < 2 ^ 31 by omega)), nI_add, ite_b]
          by_cases q3 : cn + k ≤ 400
          · have e4 : nI (cn + k) ≤ (400 : Int32) := nI_le (b := 400) q3 (by decide)
            obtain ⟨S', V', r1, r2, r3, r4⟩ := sow_loop N (k := k) (d := d) (T := T) (F := F) (by omega) (by omega) (by omega) q4 (by omega : 0 ≤ v1.toInt ∧ v1.toInt < 4) N 0 cn v3 S V (by omega) (by omega) (by omega) h
            rw [Nat.sub_zero] at r1 r2 r3
            have r1' : l_X6_sow_62 N v1 (nI k) v4 (nI d) N v3 0 S V (nI cn) = some (S', V', nI (cn + k)) := r1
            have r2' : l_X7_sow_63 N v1 (nI k) v4 (nI d) N v3 0 S V (nI cn) = some (S', V', nI (cn + k)) := r2
            rw [if_pos q3, if_pos e4, bd3_eq r1', bd3_eq r2']
            exact ⟨_, _, _, cn + k, rfl, rfl, r3, by omega, r4⟩
          · have e4 : ¬ nI (cn + k) ≤ (400 : Int32) := nI_ge (a := 400) (by omega) (by omega)
            rw [if_neg q3, if_neg e4]
            exact ⟨_, _, _, cn, rfl, rfl, h, by omega, fun i _ => ⟨rfl, rfl⟩⟩
        · rw [if_neg q5, if_neg q5]
          exact ⟨_, _, _, cn, rfl, rfl, h, by omega, fun i _ => ⟨rfl, rfl⟩⟩
      · rw [if_neg q4, if_neg q4]
        exact ⟨_, _, _, cn, rfl, rfl, h, by omega, fun i _ => ⟨rfl, rfl⟩⟩
    · rw [if_neg q2, if_neg q2]
      exact ⟨_, _, _, cn, rfl, rfl, h, by omega, fun i _ => ⟨rfl, rfl⟩⟩
  · rw [if_neg q1, if_neg q1]
    exact ⟨_, _, _, cn, rfl, rfl, h, by omega, fun i _ => ⟨rfl, rfl⟩⟩
theorem st_row (N : Nat) {cn : Nat} {S V T F : Nat → Int32} (h : rOK cn S V T F) (v1 v2 : Int32) : ∃ r, f_X6_row N S V (nI cn) v1 v2 = some r ∧ f_X7_row N S V (nI cn) v1 v2 = some r := by
  have hc := h.1
  have l0 : (0 : Int32).toInt = 0 := by decide
  have l1 : (1 : Int32).toInt = 1 := by decide
  unfold f_X6_row f_X7_row
  simp only [p_has N cn hc, p_isRow N cn hc, p_is, bd1_s, ite_b, l0, l1]
  by_cases q : 0 ≤ v1.toInt ∧ v1.toInt < cn
  · rw [if_pos q, if_pos q]
    obtain ⟨j, j1, rfl⟩ := of_rng q.1 q.2 (by omega)
    by_cases z0 : v2 = 0
    · have hz : 0 ≤ v2.toInt ∧ v2.toInt ≤ 1 := by rw [z0, l0]; omega
      rw [if_pos z0, if_pos hz, if_pos z0, gd_nI (show j < 400 by omega) (by decide), nI_clamp (by omega)]
      exact ⟨_, rfl, rfl⟩
    · by_cases z1 : v2 = 1
      · have hz : 0 ≤ v2.toInt ∧ v2.toInt ≤ 1 := by rw [z1, l1]; omega
        rw [if_neg z0, if_pos z1, if_pos hz, if_neg z0, gd_nI (show j < 400 by omega) (by decide), nI_clamp (by omega)]
        exact ⟨_, rfl, rfl⟩
      · have hz : ¬ (0 ≤ v2.toInt ∧ v2.toInt ≤ 1) := fun hh => by
          rw [i32_eq, l0] at z0
          rw [i32_eq, l1] at z1
          omega
        rw [if_neg z0, if_neg z1, if_neg hz]
        exact ⟨_, rfl, rfl⟩
  · rw [if_neg q, if_neg q]
    exact ⟨_, rfl, rfl⟩
theorem st_against (N : Nat) {cn : Nat} {S V T F : Nat → Int32} (h : rOK cn S V T F) (v1 v2 : Int32) : ∃ r, f_X6_against N S V T F (nI cn) v1 v2 = some r ∧ f_X7_against N S V (nI cn) T F v1 v2 = some r := by
  have hc := h.1
  unfold f_X6_against f_X7_against
  simp only [p_has N cn hc, p_isRow N cn hc, bd1_s, ite_b]
  by_cases q : 0 ≤ v1.toInt ∧ v1.toInt < cn
  · rw [if_pos q, if_pos q]
    by_cases q2 : 0 ≤ v2.toInt ∧ v2.toInt < cn
    · rw [if_pos q2, if_pos q2]
      obtain ⟨i, i1, rfl⟩ := of_rng q.1 q.2 (by omega)
      obtain ⟨j, j1, rfl⟩ := of_rng q2.1 q2.2 (by omega)
      have pi := plc_lt h i1
      have pj := plc_lt h j1
      rw [bd1_eq (p_placeOf N h i1), bd1_eq (p_placeOf N h j1)]
      unfold f_J6_compare_7cf53
      by_cases e : i = j
      · subst e
        rw [if_pos (nI_le (Nat.le_refl _) (by omega)), if_pos rfl, bd1_s, if_pos rfl]
        exact ⟨_, rfl, rfl⟩
      · have hne : plc S V T F i ≠ plc S V T F j := fun z => e (plc_inj h i1 j1 z)
        have hn2 : ¬ nI i = nI j := fun z => e ((nI_eq (by omega) (by omega)).mp z)
        have hn3 : ¬ nI (plc S V T F i) = nI (plc S V T F j) := fun z => hne ((nI_eq (by omega) (by omega)).mp z)
        rw [if_neg hn2, bd1_eq (p_ahead N h i1 j1), ite_b]
        by_cases z : plc S V T F i < plc S V T F j
        · rw [if_neg (nI_ge z (by omega)), bd1_s, if_pos z]
          exact ⟨_, rfl, rfl⟩
        · rw [if_pos (nI_le (show plc S V T F j ≤ plc S V T F i by omega) (by omega)), if_neg hn3, bd1_s, if_neg z]
          exact ⟨_, rfl, rfl⟩
    · rw [if_neg q2, if_neg q2]
      exact ⟨_, rfl, rfl⟩
  · rw [if_neg q, if_neg q]
    exact ⟨_, rfl, rfl⟩
theorem rank_loop (N : Nat) {cn i : Nat} {S V T F : Nat → Int32} (h : rOK cn S V T F) (hi : i < cn) : ∀ (f k : Nat) (v : Int32), k ≤ cn → cn - k < f → ∃ r, l_X6_rank_27 N S V T F (nI cn) (nI (plc S V T F i)) f v (nI k) = some r ∧ l_X7_rank_14 N S V (nI cn) T F (nI i) f v (nI k) = some r
  | 0, k, v, _, hf => absurd hf (by omega)
  | f + 1, k, v, hk, hf => by
    have hc := h.1
    rw [l_X6_rank_27, l_X7_rank_14]
    by_cases q : cn ≤ k
    · rw [if_pos (nI_le q (by omega)), if_pos (nI_le q (by omega))]
      exact ⟨_, rfl, rfl⟩
    · have k1 : k < cn := by omega
      have pi := plc_lt h hi
      have pk := plc_lt h k1
      have ih := fun v' => rank_loop N h hi f (k + 1) v' (by omega) (by omega)
      rw [if_neg (nI_ge k1 (by omega)), if_neg (nI_ge k1 (by omega)), bd1_eq (p_placeOf N h k1)]
      by_cases e : k = i
      · subst e
        rw [if_pos (nI_le (Nat.le_refl _) (by omega)), if_pos rfl, nl_e, nl_e, nl_e, nI_1, Int32.add_zero]
        exact ih v
      · have hn2 : ¬ nI k = nI i := fun z => e ((nI_eq (by omega) (by omega)).mp z)
        have hne : plc S V T F k ≠ plc S V T F i := fun z => e (plc_inj h k1 hi z)
        rw [if_neg hn2, bd1_eq (p_ahead N h k1 hi), ite_b]
        simp only [nl_e, nI_1, Int32.add_zero]
        by_cases z : plc S V T F k < plc S V T F i
        · rw [if_neg (nI_ge z (by omega)), if_pos z]
          exact ih (v + 1)
        · rw [if_pos (nI_le (show plc S V T F i ≤ plc S V T F k by omega) (by omega)), if_neg z]
          exact ih v
theorem st_rank {N : Nat} (hN : 1000 ≤ N) {cn : Nat} {S V T F : Nat → Int32} (h : rOK cn S V T F) (v1 : Int32) : ∃ r, f_X6_rank N S V T F (nI cn) v1 = some r ∧ f_X7_rank N S V (nI cn) T F v1 = some r := by
  have hc := h.1
  unfold f_X6_rank f_X7_rank
  simp only [p_has N cn hc, p_isRow N cn hc, bd1_s, ite_b]
  by_cases q : 0 ≤ v1.toInt ∧ v1.toInt < cn
  · rw [if_pos q, if_pos q]
    obtain ⟨i, i1, rfl⟩ := of_rng q.1 q.2 (by omega)
    obtain ⟨r, r1, r2⟩ := rank_loop N h i1 N 0 0 (by omega) (by omega)
    have r1' : l_X6_rank_27 N S V T F (nI cn) (nI (plc S V T F i)) N 0 0 = some r := r1
    have r2' : l_X7_rank_14 N S V (nI cn) T F (nI i) N 0 0 = some r := r2
    rw [bd1_eq (p_placeOf N h i1), bd1_eq r1', bd1_eq r2']
    exact ⟨_, rfl, rfl⟩
  · rw [if_neg q, if_neg q]
    exact ⟨_, rfl, rfl⟩
