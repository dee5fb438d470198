/-! SELECT: a step of the class. My own text. -/
theorem p_begin (N : Nat) (st : Nat → Int32) {rn i : Nat} (h : rn < 799) : f_X5_begin N st (nI rn) (nI i) = some (upd (upd st rn (nI i)) (rn + 1) (nI i), nI (rn + 1)) := by
  unfold f_X5_begin
  have q : ¬ (799 : Int32) ≤ nI rn := nI_ge (b := 799) h (by decide)
  rw [if_neg q, gd_nI (show rn < 800 by omega) (by decide)]
  simp only [nl, nI_1, gd_nI (show rn + 1 < 800 by omega) (by decide), nI_clamp (show rn < 2 ^ 31 by omega), nI_clamp (show rn + 1 < 2 ^ 31 by omega)]
theorem p_append (N : Nat) (mb st : Nat → Int32) {rn i : Nat} (v : Int32) (h : rn < 800) (hi : i < 4000) : f_X5_append N mb st (nI rn) (nI i) v = some (upd mb i v, upd st rn (nI (i + 1)), nI (i + 1)) := by
  unfold f_X5_append
  have q : ¬ (4000 : Int32) ≤ nI i := nI_ge (b := 4000) hi (by decide)
  rw [if_neg q, gd_nI hi (by decide)]
  simp only [nl, nI_1, gd_nI h (by decide), nI_clamp (show rn < 2 ^ 31 by omega), nI_clamp (show i < 2 ^ 31 by omega)]
def RC (P : Nat → Nat) (h i rn : Nat) (lst : Option Nat) (hr bg ord : Nat → Nat) (items : Nat → Int64) (mb st : Nat → Int32) : Prop := HP items (nI h) h (fun v => ∃ k, k < h ∧ v = vl P lst rn (hr k)) ∧ (∀ j, j < i → mb j = nI (ord j)) ∧ (∀ r, r < rn → st r = nI (bg r)) ∧ (0 < rn → st rn = nI i)
theorem c_step {N c rm h nx i rn : Nat} {P hr bg ord : Nat → Nat} {lst : Option Nat} {S V T F mb st : Nat → Int32} {items : Nat → Int64} (hN : 1000 ≤ N) (hc : c ≤ 400) (po : ∀ a, a < c → f_X4_placeOf N S V T F (nI c) (nI a) = some (nI (P a))) (hP : ∀ r, r < c → P r < 320001600 ∧ P r % 400 = r) (hrm : 0 < rm) (hrm2 : rm ≤ 40) (J : RJ c rm h nx i rn lst hr bg ord) (C : RC P h i rn lst hr bg ord items mb st) (hi : i < c) :
    ∃ (b : Nat) (bn : Bool) (items' : Nat → Int64) (st' : Nat → Int32), nextB P lst hr h b bn ∧ (∀ f, l_X5_select_44 N S V T F (nI c) (nI c) (f + 1) (nI nx) (nI i) items (nI h) mb st (nI rn) (nI i) = l_X5_select_44 N S V T F (nI c) (nI c) f (nI (gn c nx)) (nI (i + 1)) items' (nI (gh c nx h)) (upd mb i (nI (hr b))) st' (nI (gm bn rn)) (nI (i + 1))) ∧
      RC P (gh c nx h) (i + 1) (gm bn rn) (some (hr b)) (gr c nx h hr b) (gb bn rn i bg) (ups ord i (hr b)) items' (upd mb i (nI (hr b))) st' := by
  obtain ⟨j1, j2, j3, j4, j5, j6, j7, j8, j9, j10, j11, j12, j13, j14, j15⟩ := J
  obtain ⟨c1, c2, c3, c4⟩ := C
  have hh : 0 < h := by
    rcases Nat.lt_or_ge nx c with q | q
    · have := j4 q; omega
    · omega
  obtain ⟨h0, rfl⟩ : ∃ h0, h = h0 + 1 := ⟨h - 1, by omega⟩
  obtain ⟨m, items1, t1, t2, t3, t4, t5⟩ := p_takeLeast hN c1
  obtain ⟨b, hb, em⟩ := t2
  have hrc : ∀ k, k < h0 + 1 → hr k < c := fun k hk => by have := j6 k hk; omega
  have hPl : ∀ r, r < c → P r < 320001600 := fun r q => (hP r q).1
  obtain ⟨bn, hn, hn1, hn2⟩ := next_of_least hPl hrc (fun l e => j12 (j11 l e).1) hb (fun k hk => by rw [← em]; exact t3 _ ⟨k, hk, rfl⟩)
  have hbc := hrc b hb
  have pb := hP _ hbc
  have injP : ∀ x y, x < c → y < c → P x = P y → x = y := fun x y hx hy e => by
    have h1 := (hP x hx).2
    have h2 := (hP y hy).2
    omega
  have inj : ∀ k, k < h0 + 1 → P (hr k) = P (hr b) → k = b := fun k hk e => j7 k b hk hb (injP _ _ (hrc k hk) hbc e)
  generalize ht : tg P lst rn (hr b) = t at hn1 hn2
  have em2 : m = t * 320001600 + P (hr b) := by rw [em]; unfold vl; rw [ht]
  have hgt : t + 1 = gm bn rn := by
    unfold gm
    cases bn with
    | true => simp only [if_true]; rw [hn2 rfl]
    | false => simp only [Bool.false_eq_true, if_false]; exact hn1 rfl
  have hrn : rn ≤ 400 := by omega
  have htn : t ≤ 400 := by
    cases bn with
    | true => rw [hn2 rfl]; exact hrn
    | false => have := hn1 rfl; omega
  have ed : lN m / 320001600 = lN t := by
    have h1 : lN m / lN 320001600 = lN (m / 320001600) := pk_lDiv (by omega) (by decide) (by decide)
    have h2 : m / 320001600 = t := by omega
    rw [h2] at h1
    exact h1
  have er : lN m - lN t * 320001600 = lN (P (hr b)) := by
    have h1 : lN m - lN m / lN 320001600 * lN 320001600 = lN (m % 320001600) := pk_lRem (by omega) (by decide) (by decide)
    have h2 : m % 320001600 = P (hr b) := by omega
    rw [h2] at h1
    rw [← ed]
    exact h1
  have emr : m % 400 = hr b := by omega
  -- the RUN's beginning
  obtain ⟨st1, hst, hs1, hs2⟩ : ∃ st1 : Nat → Int32, (if lN t < (nI rn).toInt64 then some (st, nI rn) else bd2 (f_X5_begin N st (nI rn) (nI i)) fun c42 c43 => some (c42, c43)) = some (st1, nI (gm bn rn)) ∧ (∀ r, r < rn → st1 r = nI (bg r)) ∧ (bn = true → st1 rn = nI i) := by
    rw [nI_l (show rn < 2 ^ 31 by omega)]
    cases bn with
    | true =>
      have e1 := hn2 rfl
      rw [if_neg (fun q => by have := (lN_ltw (by omega) (by omega)).mp q; omega), p_begin N st (by omega)]
      refine ⟨upd (upd st rn (nI i)) (rn + 1) (nI i), rfl, fun r hr1 => ?_, fun _ => ?_⟩
      · rw [pk_un (by omega), pk_un (by omega)]
        exact c3 r hr1
      · rw [pk_un (by omega), pk_us]
    | false =>
      have e1 := hn1 rfl
      rw [if_pos ((lN_ltw (by omega) (by omega)).mpr (by omega))]
      exact ⟨st, rfl, c3, fun q => absurd q (by decide)⟩
  have hgm : gm bn rn < 800 := by omega
  have stOK : (∀ r, r < gm bn rn → (upd st1 (gm bn rn) (nI (i + 1))) r = nI (gb bn rn i bg r)) ∧ (0 < gm bn rn → (upd st1 (gm bn rn) (nI (i + 1))) (gm bn rn) = nI (i + 1)) := by
    refine ⟨fun r hr1 => ?_, fun _ => pk_us⟩
    rw [pk_un (by omega)]
    unfold gb
    unfold gm at hr1
    cases bn with
    | true =>
      simp only [if_true] at hr1 ⊢
      by_cases q : r = rn
      · rw [q, ups_s]; exact hs2 rfl
      · rw [ups_n bg q]; exact hs1 r (by omega)
    | false =>
      simp only [Bool.false_eq_true, if_false] at hr1 ⊢
      exact hs1 r hr1
  have mbOK : ∀ j, j < i + 1 → (upd mb i (nI (hr b))) j = nI (ups ord i (hr b) j) := by
    intro j hj
    by_cases q : j = i
    · rw [q, pk_us, ups_s]
    · rw [pk_un q, ups_n ord q]
      exact c2 j (by omega)
  have stay : ∀ k, k < h0 + 1 → k ≠ b → vl P (some (hr b)) (gm bn rn) (hr k) = vl P lst rn (hr k) := by
    intro k hk hne
    unfold vl
    rw [show tg P (some (hr b)) (gm bn rn) (hr k) = tg P lst rn (hr k) from tags_stay hn inj hk hne]
  have vinj : ∀ x y, x < c → y < c → vl P lst rn x = vl P lst rn y → x = y := by
    intro x y hx hy e
    unfold vl at e
    have h1 := hP x hx
    have h2 := hP y hy
    omega
  by_cases hnx : nx < c
  · -- a ROW takes its place
    have pn := hP nx hnx
    have hne : P (hr b) ≠ P nx := fun e => by have := injP _ _ hbc hnx e; have := j6 b hb; omega
    have hy : (if lN (P (hr b)) ≤ (nI (P nx)).toInt64 then some (lN t) else some (lN t + 1)) = some (lN (tg P (some (hr b)) (gm bn rn) nx)) := by
      rw [nI_l (show P nx < 2 ^ 31 by omega), tg_some]
      by_cases q : P (hr b) < P nx
      · rw [if_pos ((lN_lew (by omega) (by omega)).mpr (by omega)), if_pos q, ← hgt, Nat.add_sub_cancel]
      · rw [if_neg (fun z => by have := (lN_lew (by omega) (by omega)).mp z; omega), if_neg q, ← hgt, lN_1]
    have hv : (nI (P nx)).toInt64 + 320001600 * lN (tg P (some (hr b)) (gm bn rn) nx) = lN (vl P (some (hr b)) (gm bn rn) nx) := by
      rw [nI_l (show P nx < 2 ^ 31 by omega)]
      have h1 : lN 320001600 * lN (tg P (some (hr b)) (gm bn rn) nx) = lN (320001600 * tg P (some (hr b)) (gm bn rn) nx) := lN_mul _ _
      have h2 : (320001600 : Int64) = lN 320001600 := rfl
      rw [h2, h1, lN_add]
      congr 1
      unfold vl
      omega
    have htg : tg P (some (hr b)) (gm bn rn) nx ≤ 401 := by
      rw [tg_some]
      split <;> omega
    obtain ⟨items2, a1, a2⟩ := p_add hN t5 (show h0 < 400 by omega) (x := vl P (some (hr b)) (gm bn rn) nx) (by unfold vl; omega) (by
      rintro ⟨⟨k, hk, e⟩, -⟩
      unfold vl at e
      have h1 := hP _ (hrc k hk)
      have h2 := j6 k hk
      omega)
    refine ⟨b, bn, items2, upd st1 (gm bn rn) (nI (i + 1)), hn, fun f => ?_, ?_⟩
    · rw [l_X5_select_44, if_neg (nI_ge hi (by omega)), t1]
      simp only [bd3, nl]
      rw [ed, hst]
      simp only [bd2]
      rw [p_rowOf N t4, emr]
      simp only [bd1]
      rw [p_append N mb st1 (nI (hr b)) hgm (by omega)]
      simp only [bd3]
      rw [if_neg (nI_ge hnx (by omega)), po nx hnx]
      simp only [bd1]
      rw [er, hy]
      simp only [bd1]
      rw [hv, a1]
      simp only [bd2, nI_1]
      unfold gn gh
      simp only [hnx, if_true]
    · refine ⟨?_, mbOK, stOK.1, stOK.2⟩
      unfold gh gr
      simp only [hnx, if_true]
      refine a2.congr fun v => ?_
      constructor
      · rintro ⟨k, hk, e⟩
        by_cases q : k = b
        · rw [q, ups_s] at e
          exact Or.inr e
        · rw [ups_n hr q, stay k hk q] at e
          exact Or.inl ⟨⟨k, hk, e⟩, fun z => q (j7 k b hk hb (vinj _ _ (hrc k hk) hbc (by rw [← e, z, em])))⟩
      · rintro (⟨⟨k, hk, e⟩, hne2⟩ | e)
        · have q : k ≠ b := fun z => hne2 (by rw [e, z, em])
          exact ⟨k, hk, by rw [ups_n hr q, stay k hk q]; exact e⟩
        · exact ⟨b, hb, by rw [ups_s]; exact e⟩
  · -- the heap grows less
    refine ⟨b, bn, items1, upd st1 (gm bn rn) (nI (i + 1)), hn, fun f => ?_, ?_⟩
    · rw [l_X5_select_44, if_neg (nI_ge hi (by omega)), t1]
      simp only [bd3, nl]
      rw [ed, hst]
      simp only [bd2]
      rw [p_rowOf N t4, emr]
      simp only [bd1]
      rw [p_append N mb st1 (nI (hr b)) hgm (by omega)]
      simp only [bd3]
      rw [if_pos (nI_le (by omega) (by omega))]
      simp only [nI_1]
      unfold gn gh
      simp only [hnx, if_false, Nat.add_sub_cancel]
    · refine ⟨?_, mbOK, stOK.1, stOK.2⟩
      unfold gh gr
      simp only [hnx, if_false, Nat.add_sub_cancel]
      refine t5.congr fun v => ?_
      constructor
      · rintro ⟨k, hk, e⟩
        by_cases q : k = b
        · rw [q, ups_s, stay h0 (by omega) (by omega)] at e
          exact ⟨⟨h0, by omega, e⟩, fun z => by have := j7 h0 b (by omega) hb (vinj _ _ (hrc h0 (by omega)) hbc (by rw [← e, z, em])); omega⟩
        · rw [ups_n hr q, stay k (by omega) q] at e
          exact ⟨⟨k, by omega, e⟩, fun z => q (j7 k b (by omega) hb (vinj _ _ (hrc k (by omega)) hbc (by rw [← e, z, em])))⟩
      · rintro ⟨⟨k, hk, e⟩, hne2⟩
        have q : k ≠ b := fun z => hne2 (by rw [e, z, em])
        by_cases q2 : k = h0
        · exact ⟨b, by omega, by rw [ups_s, ← q2, stay k hk q]; exact e⟩
        · exact ⟨k, by omega, by rw [ups_n hr q, stay k hk q]; exact e⟩
