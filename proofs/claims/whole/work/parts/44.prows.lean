/-! ROWS AND THE ORDER: a ROW's place as a number. My own text. -/
def rOK (c : Nat) (S V T F : Nat → Int32) : Prop := c ≤ 400 ∧ (∀ j, j < c → 0 ≤ (S j).toInt ∧ (S j).toInt < 4) ∧ (∀ j, j < c → -100000 ≤ (V j).toInt ∧ (V j).toInt ≤ 100000) ∧ (∀ j, j < 4 → 0 ≤ (T j).toInt ∧ (T j).toInt < 4) ∧ (∀ i j, i < 4 → j < 4 → (T i).toInt = (T j).toInt → i = j) ∧ ∀ j, j < 4 → F j = 0 ∨ F j = 1
def sIx (S : Nat → Int32) (i : Nat) : Nat := (S i).toNatClampNeg
def plV (S V F : Nat → Int32) (i : Nat) : Int := if F (sIx S i) = 0 then (V i).toInt else -(V i).toInt
def plI (S V T F : Nat → Int32) (i : Nat) : Int := ((T (sIx S i)).toInt * 200001 + plV S V F i + 100000) * 400 + i
def plc (S V T F : Nat → Int32) (i : Nat) : Nat := (plI S V T F i).toNat
theorem sIx_ok {c : Nat} {S V T F : Nat → Int32} (h : rOK c S V T F) {i : Nat} (hi : i < c) : sIx S i < 4 ∧ S i = nI (sIx S i) ∧ ((sIx S i : Nat) : Int) = (S i).toInt := by
  have h1 := h.2.1 i hi
  obtain ⟨j, hj, e⟩ := vp_in_of (vp_in_iff.mpr h1 : vp_in (S i) 4) (by decide)
  have e2 : sIx S i = j := by unfold sIx; rw [e]; exact nI_clamp (by omega)
  rw [e2]
  refine ⟨hj, e, ?_⟩
  rw [e, nI_toInt (by omega)]
theorem plV_rng {c : Nat} {S V T F : Nat → Int32} (h : rOK c S V T F) {i : Nat} (hi : i < c) : -100000 ≤ plV S V F i ∧ plV S V F i ≤ 100000 := by
  have h1 := h.2.2.1 i hi
  unfold plV
  split <;> omega
theorem plI_rng {c : Nat} {S V T F : Nat → Int32} (h : rOK c S V T F) {i : Nat} (hi : i < c) : 0 ≤ plI S V T F i ∧ plI S V T F i < 320001600 := by
  have h1 := plV_rng h hi
  have h2 := h.2.2.2.1 _ (sIx_ok h hi).1
  have h3 := h.1
  unfold plI
  omega
theorem plc_I {c : Nat} {S V T F : Nat → Int32} (h : rOK c S V T F) {i : Nat} (hi : i < c) : ((plc S V T F i : Nat) : Int) = plI S V T F i := Int.toNat_of_nonneg (plI_rng h hi).1
theorem plc_lt {c : Nat} {S V T F : Nat → Int32} (h : rOK c S V T F) {i : Nat} (hi : i < c) : plc S V T F i < 320001600 := by
  have h1 := plc_I h hi
  have h2 := plI_rng h hi
  omega
theorem plc_mod {c : Nat} {S V T F : Nat → Int32} (h : rOK c S V T F) {i : Nat} (hi : i < c) : plc S V T F i % 400 = i := by
  have h1 := plc_I h hi
  have h2 := plI_rng h hi
  have h3 := h.1
  unfold plI at h1 h2
  omega
theorem plc_inj {c : Nat} {S V T F : Nat → Int32} (h : rOK c S V T F) {i j : Nat} (hi : i < c) (hj : j < c) (e : plc S V T F i = plc S V T F j) : i = j := by
  have h1 := plc_mod h hi
  have h2 := plc_mod h hj
  omega
theorem p_has (N c : Nat) (hc : c ≤ 400) (v : Int32) : f_X4_has N (nI c) v = some (if 0 ≤ v.toInt ∧ v.toInt < c then 1 else 0) := by
  unfold f_X4_has
  have e : (nI c - 1).toInt = (c : Int) - 1 := pk_sub_toInt (b := 1) (by omega) (by omega)
  have e0 : (0 : Int32).toInt = 0 := by decide
  rw [p_isIn]
  simp only [bd1, gd_bi, e, e0]
  by_cases h : 0 ≤ v.toInt ∧ v.toInt < c
  · rw [if_pos h, if_pos ⟨h.1, by omega⟩]
  · rw [if_neg h, if_neg (by omega)]
theorem p_isRow (N c : Nat) (hc : c ≤ 400) (v : Int32) : f_X7_isRow N (nI c) v = some (if 0 ≤ v.toInt ∧ v.toInt < c then 1 else 0) := by
  unfold f_X7_isRow
  have e : (nI c).toInt = (c : Int) := nI_toInt (by omega)
  have e0 : (0 : Int32).toInt = 0 := by decide
  by_cases h1 : v < 0
  · rw [if_pos h1, gd_b0, if_neg]
    rw [i32_lt, e0] at h1
    omega
  · rw [if_neg h1]
    rw [i32_lt, e0] at h1
    by_cases h2 : nI c ≤ v
    · rw [if_pos h2, gd_b0, if_neg]
      rw [i32_le, e] at h2
      omega
    · rw [if_neg h2, gd_b1, if_pos]
      rw [i32_le, e] at h2
      omega
theorem p_placeOf (N : Nat) {c : Nat} {S V T F : Nat → Int32} (h : rOK c S V T F) {i : Nat} (hi : i < c) : f_X4_placeOf N S V T F (nI c) (nI i) = some (nI (plc S V T F i)) := by
  have hc := h.1
  obtain ⟨s1, s2, s3⟩ := sIx_ok h hi
  have hV := h.2.2.1 i hi
  have hT := h.2.2.2.1 _ s1
  have hr := plI_rng h hi
  have ei : (nI i).toInt = (i : Int) := nI_toInt (by omega)
  have ci : (nI i).toNatClampNeg = i := nI_clamp (by omega)
  have cs : (nI (sIx S i)).toNatClampNeg = sIx S i := nI_clamp (by omega)
  unfold f_X4_placeOf
  rw [p_has N c hc, if_pos (by rw [ei]; omega)]
  simp only [bd1]
  rw [if_neg (by decide)]
  rw [gd_nI (show i < 400 by omega) (by decide)]
  simp only [nl, ci]
  rw [s2, gd_nI s1 (by decide)]
  simp only [cs]
  have key : ∀ y : Int32, y.toInt = plV S V F i → (((((T (sIx S i)) * 200001) + y) + 100000) * 400) + nI i = nI (plc S V T F i) := by
    intro y hy
    have hvr := plV_rng h hi
    have l1 : (200001 : Int32).toInt = 200001 := by decide
    have l2 : (100000 : Int32).toInt = 100000 := by decide
    have l3 : (400 : Int32).toInt = 400 := by decide
    have a1 : ((T (sIx S i)) * 200001).toInt = (T (sIx S i)).toInt * 200001 := by rw [fb_mulI (by rw [l1]; omega) (by rw [l1]; omega), l1]
    have a2 : (((T (sIx S i)) * 200001) + y).toInt = (T (sIx S i)).toInt * 200001 + plV S V F i := by rw [fb_addI (by rw [a1, hy]; omega) (by rw [a1, hy]; omega), a1, hy]
    have a3 : ((((T (sIx S i)) * 200001) + y) + 100000).toInt = (T (sIx S i)).toInt * 200001 + plV S V F i + 100000 := by rw [fb_addI (by rw [a2, l2]; omega) (by rw [a2, l2]; omega), a2, l2]
    have a4 : (((((T (sIx S i)) * 200001) + y) + 100000) * 400).toInt = ((T (sIx S i)).toInt * 200001 + plV S V F i + 100000) * 400 := by rw [fb_mulI (by rw [a3, l3]; omega) (by rw [a3, l3]; omega), a3, l3]
    rw [i32_eq, nI_toInt (by have := plc_lt h hi; omega), plc_I h hi]
    rw [fb_addI (by rw [a4, ei]; omega) (by rw [a4, ei]; omega), a4, ei]
    rfl
  by_cases hF : F (sIx S i) = 0
  · rw [if_pos hF, gd_nI (show i < 400 by omega) (by decide)]
    simp only
    rw [gd_nI s1 (by decide), key]
    unfold plV
    rw [if_pos hF]
  · rw [if_neg hF, gd_nI (show i < 400 by omega) (by decide)]
    simp only
    rw [gd_nI s1 (by decide), key]
    unfold plV
    rw [if_neg hF, fb_negI (by omega)]
theorem p_ahead (N : Nat) {c : Nat} {S V T F : Nat → Int32} (h : rOK c S V T F) {a b : Nat} (ha : a < c) (hb : b < c) : f_X7_ahead N S V T F (nI a) (nI b) = some (if plc S V T F a < plc S V T F b then 1 else 0) := by
  have hc := h.1
  obtain ⟨s1, s2, s3⟩ := sIx_ok h ha
  obtain ⟨t1, t2, t3⟩ := sIx_ok h hb
  have pa := plc_I h ha
  have pb := plc_I h hb
  have va := plV_rng h ha
  have vb := plV_rng h hb
  have Ta := h.2.2.2.1 _ s1
  have Tb := h.2.2.2.1 _ t1
  have ca : (nI a).toNatClampNeg = a := nI_clamp (by omega)
  have cb : (nI b).toNatClampNeg = b := nI_clamp (by omega)
  have ga : ∀ {X : Option Int32}, gd (ix (nI a) 400) X = X := gd_nI (by omega) (by decide)
  have gb : ∀ {X : Option Int32}, gd (ix (nI b) 400) X = X := gd_nI (by omega) (by decide)
  have gs : ∀ {X : Option Int32}, gd (ix (S a) 4) X = X := by intro X; rw [s2]; exact gd_nI s1 (by decide)
  have gt : ∀ {X : Option Int32}, gd (ix (S b) 4) X = X := by intro X; rw [t2]; exact gd_nI t1 (by decide)
  have es : (S a).toNatClampNeg = sIx S a := rfl
  have et : (S b).toNatClampNeg = sIx S b := rfl
  unfold f_X7_ahead
  simp only [ga, gb, gs, gt, ca, cb, es, et, gd_b0, gd_b1]
  unfold plI at pa pb
  by_cases h1 : S a = S b
  · have e1 : sIx S a = sIx S b := by unfold sIx; rw [h1]
    rw [if_pos h1]
    rw [e1] at pa
    by_cases h2 : V a = V b
    · have e2 : plV S V F a = plV S V F b := by unfold plV; rw [e1, h2]
      rw [if_pos h2]
      rw [e2] at pa
      by_cases h3 : b ≤ a
      · rw [if_pos (nI_le h3 (by omega)), if_neg (by omega)]
      · rw [if_neg (nI_ge (by omega) (by omega)), if_pos (by omega)]
    · rw [if_neg h2]
      have h2' : (V a).toInt ≠ (V b).toInt := fun q => h2 (Int32.toInt_inj.mp q)
      unfold plV at pa pb
      rw [e1] at pa
      rcases h.2.2.2.2.2 _ t1 with hF | hF
      · rw [if_pos hF] at pa pb
        by_cases h3 : V b ≤ V a
        · rw [if_pos h3]
          simp only [bd1]
          rw [e1, if_pos hF.symm, if_neg]
          rw [i32_le] at h3
          omega
        · rw [if_neg h3]
          simp only [bd1]
          rw [e1, if_neg (by rw [hF]; decide), if_pos]
          rw [i32_le] at h3
          omega
      · rw [if_neg (by rw [hF]; decide)] at pa pb
        by_cases h3 : V b ≤ V a
        · rw [if_pos h3]
          simp only [bd1]
          rw [e1, if_neg (by rw [hF]; decide), if_pos]
          rw [i32_le] at h3
          omega
        · rw [if_neg h3]
          simp only [bd1]
          rw [e1, if_pos hF.symm, if_neg]
          rw [i32_le] at h3
          omega
  · rw [if_neg h1]
    have hne : sIx S a ≠ sIx S b := fun q => h1 (by rw [s2, t2, q])
    have hTne : (T (sIx S a)).toInt ≠ (T (sIx S b)).toInt := fun q => hne (h.2.2.2.2.1 _ _ s1 t1 q)
    by_cases h3 : T (sIx S b) ≤ T (sIx S a)
    · rw [if_pos h3, if_neg]
      rw [i32_le] at h3
      omega
    · rw [if_neg h3, if_pos]
      rw [i32_le] at h3
      omega
