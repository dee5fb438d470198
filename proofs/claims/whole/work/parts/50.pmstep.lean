/-! RUNS: a step of the reference. My own text. -/
theorem nl_e {α β : Type} (e : α) (B : α → β) : nl e B = B e := by
  have h : B e = B e := rfl
  exact h
def RM (h i rn : Nat) (hr bg ord : Nat → Nat) (bgn sz pool hp : Nat → Int32) : Prop := (∀ k, k < h → hp k = nI (hr k)) ∧ (∀ j, j < i → pool j = nI (ord j)) ∧ (∀ r, r < rn → bgn r = nI (bg r)) ∧ (∀ r, r + 1 < rn → sz r = nI (bg (r + 1) - bg r)) ∧ (0 < rn → sz (rn - 1) = nI (i - bg (rn - 1)))
theorem m_out {N c rm h nx i rn b : Nat} {P hr bg ord : Nat → Nat} {lst : Option Nat} {bn : Bool} {S V T F bgn sz pool hp : Nat → Int32} (hN : 1000 ≤ N) (hc : c ≤ 400) (ah : ∀ a b, a < c → b < c → f_X7_ahead N S V T F (nI a) (nI b) = some (if P a < P b then 1 else 0)) (injP : ∀ x y, x < c → y < c → P x = P y → x = y) (hrm2 : rm ≤ 40) (J : RJ c rm h nx i rn lst hr bg ord) (M : RM h i rn hr bg ord bgn sz pool hp) (hi : i < c) (hn : nextB P lst hr h b bn) (hbl : bn = true ↔ lst = none) :
    ∃ (bgn' sz' hp' : Nat → Int32), (∀ f, l_X7_runs_78 N S V (nI c) T F (f + 1) (nI h) (nI nx) (lI lst) (nI rn) bgn sz pool (nI i) hp = l_X7_runs_78 N S V (nI c) T F f (nI (gh c nx h)) (nI (gn c nx)) (nI (hr b)) (nI (gm bn rn)) bgn' sz' (upd pool i (nI (hr b))) (nI (i + 1)) hp') ∧
      RM (gh c nx h) (i + 1) (gm bn rn) (gr c nx h hr b) (gb bn rn i bg) (ups ord i (hr b)) bgn' sz' (upd pool i (nI (hr b))) hp' := by
  obtain ⟨j1, j2, j3, j4, j5, j6, j7, j8, j9, j10, j11, j12, j13, j14, j15⟩ := J
  obtain ⟨m1, m2, m3, m4, m5⟩ := M
  have hb := hn.1
  have hrc : ∀ k, k < h → hr k < c := fun k hk => by have := j6 k hk; omega
  have hbc := hrc b hb
  have hlc : ∀ l, lst = some l → l < c := fun l e => by
    have h1 := j11 l e
    have h2 := j8 (i - 1) (by omega)
    omega
  have inj : ∀ k, k < h → P (hr k) = P (hr b) → k = b := fun k hk e => j7 k b hk hb (injP _ _ (hrc k hk) hbc e)
  obtain ⟨o, s1, s2⟩ := p_scan (N := N) (c := c) (h := h) (P := P) (hr := hr) (lst := lst) (hp := hp) (by omega) hc ah hlc (fun k hk => ⟨hrc k hk, m1 k hk⟩) N 0 none (by omega) (by omega) ⟨fun _ k hk => absurd hk (by omega), fun x e => absurd e (by simp)⟩
  have so : o = some b := (scan_next hn inj (fun l k e hk q => by
    have h1 := injP _ _ (hrc k hk) (hlc l e) q
    have h2 := j11 l e
    exact j10 (i - 1) k (by omega) hk (by rw [← h2.2, h1])) s2).1 (by
      cases hbn : bn with
      | false => exact Or.inl rfl
      | true => exact Or.inr (hbl.mp hbn))
  rw [so] at s1
  have s1' : l_X7_runs_88 N S V T F hp (nI h) (lI lst) N (-1) 0 = some (nI b) := s1
  have hrn0 : 0 < gm bn rn := by
    unfold gm
    cases hbn : bn with
    | true => simp
    | false =>
      obtain ⟨l, e, -⟩ := hn.2.1 hbn
      have := j12 (j11 l e).1
      simpa using this
  have hgm : gm bn rn ≤ 401 := by unfold gm; split <;> omega
  obtain ⟨bgn1, sz1, hbs, b1, b2, b3⟩ : ∃ bgn1 sz1 : Nat → Int32, (if lI lst = (-1 : Int32) then gd (ix (nI rn) 800) <| gd (ix (nI rn) 800) <| nl (nI rn + 1) fun x63 => some (x63, upd bgn (nI rn).toNatClampNeg (nI i), upd sz (nI rn).toNatClampNeg 0) else some (nI rn, bgn, sz)) = some (nI (gm bn rn), bgn1, sz1) ∧ (∀ r, r < gm bn rn → bgn1 r = nI (gb bn rn i bg r)) ∧ (∀ r, r + 1 < gm bn rn → sz1 r = nI (gb bn rn i bg (r + 1) - gb bn rn i bg r)) ∧ sz1 (gm bn rn - 1) = nI (i - gb bn rn i bg (gm bn rn - 1)) := by
    cases hbn : bn with
    | true =>
      have e := hbl.mp hbn
      rw [e, if_pos (show lI none = -1 from rfl), gd_nI (show rn < 800 by omega) (by decide), gd_nI (show rn < 800 by omega) (by decide), nI_clamp (by omega)]
      refine ⟨upd bgn rn (nI i), upd sz rn 0, by simp only [nl, nI_1]; rfl, fun r hr1 => ?_, fun r hr1 => ?_, ?_⟩
      · unfold gm at hr1
        unfold gb
        simp only [if_true] at hr1 ⊢
        by_cases q : r = rn
        · rw [q, pk_us, ups_s]
        · rw [pk_un q, ups_n bg q]; exact m3 r (by omega)
      · unfold gm at hr1
        unfold gb
        simp only [if_true] at hr1 ⊢
        rw [pk_un (show r ≠ rn by omega), ups_n bg (show r ≠ rn by omega)]
        by_cases q : r + 1 = rn
        · rw [q, ups_s]
          have := m5 (by omega)
          rw [← q, Nat.add_sub_cancel] at this
          exact this
        · rw [ups_n bg q]
          exact m4 r (by omega)
      · unfold gm gb
        simp only [if_true, Nat.add_sub_cancel]
        rw [pk_us, ups_s, Nat.sub_self]
        rfl
    | false =>
      obtain ⟨l, e, -⟩ := hn.2.1 hbn
      have hl := hlc l e
      have hrp := j12 (j11 l e).1
      rw [e, if_neg (show ¬ lI (some l) = -1 from nI_ne_m1 (by omega))]
      unfold gm gb
      simp only [Bool.false_eq_true, if_false]
      exact ⟨bgn, sz, rfl, m3, m4, m5 hrp⟩
  have hh : 0 < h := by omega
  have hbg : gb bn rn i bg (gm bn rn - 1) ≤ i := by
    unfold gb gm
    cases hbn : bn with
    | true => simp only [if_true, Nat.add_sub_cancel]; rw [ups_s]; exact Nat.le_refl _
    | false =>
      simp only [Bool.false_eq_true, if_false]
      obtain ⟨l, e, -⟩ := hn.2.1 hbn
      have := j15 (j12 (j11 l e).1)
      omega
  have e42 : nI (gm bn rn) - 1 = nI (gm bn rn - 1) := nI_s1 hrn0
  have e51 : sz1 (gm bn rn - 1) + 1 = nI (i + 1 - gb bn rn i bg (gm bn rn - 1)) := by
    have e0 : i - gb bn rn i bg (gm bn rn - 1) + 1 = i + 1 - gb bn rn i bg (gm bn rn - 1) := by omega
    rw [b3, nI_1, e0]
  have szOK : (∀ r, r + 1 < gm bn rn → upd sz1 (gm bn rn - 1) (nI (i + 1 - gb bn rn i bg (gm bn rn - 1))) r = nI (gb bn rn i bg (r + 1) - gb bn rn i bg r)) := by
    intro r hr1
    rw [pk_un (by omega)]
    exact b2 r hr1
  have poolOK : ∀ j, j < i + 1 → (upd pool i (nI (hr b))) j = nI (ups ord i (hr b) j) := by
    intro j hj
    by_cases q : j = i
    · rw [q, pk_us, ups_s]
    · rw [pk_un q, ups_n ord q]
      exact m2 j (by omega)
  have head : ∀ f, l_X7_runs_78 N S V (nI c) T F (f + 1) (nI h) (nI nx) (lI lst) (nI rn) bgn sz pool (nI i) hp = (if nI c ≤ nI nx then nl (nI h + (-1)) fun x54 => gd (ix x54 40) <| nl (hp x54.toNatClampNeg) fun x56 => gd (ix (nI b) 40) <| l_X7_runs_78 N S V (nI c) T F f x54 (nI nx) (nI (hr b)) (nI (gm bn rn)) bgn1 (upd sz1 (gm bn rn - 1) (nI (i + 1 - gb bn rn i bg (gm bn rn - 1)))) (upd pool i (nI (hr b))) (nI (i + 1)) (upd hp b x56) else gd (ix (nI b) 40) <| nl (nI nx + 1) fun x59 => l_X7_runs_78 N S V (nI c) T F f (nI h) x59 (nI (hr b)) (nI (gm bn rn)) bgn1 (upd sz1 (gm bn rn - 1) (nI (i + 1 - gb bn rn i bg (gm bn rn - 1)))) (upd pool i (nI (hr b))) (nI (i + 1)) (upd hp b (nI nx))) := by
    intro f
    rw [l_X7_runs_78, if_neg (nI_nle hh (by omega)), bd1_eq s1', if_neg (nI_ne_m1 (show b < 2 ^ 31 by omega)), bd3_eq hbs]
    rw [gd_nI (show b < 40 by omega) (by decide), nl_e, gd_nI (show i < 40000 by omega) (by decide), nl_e, e42, gd_nI (show gm bn rn - 1 < 800 by omega) (by decide), nl_e, gd_nI (show gm bn rn - 1 < 800 by omega) (by decide)]
    rw [nI_clamp (show b < 2 ^ 31 by omega), nI_clamp (show i < 2 ^ 31 by omega), nI_clamp (show gm bn rn - 1 < 2 ^ 31 by omega), e51, m1 b hb, nI_1]
  by_cases hnx : nx < c
  · refine ⟨bgn1, upd sz1 (gm bn rn - 1) (nI (i + 1 - gb bn rn i bg (gm bn rn - 1))), upd hp b (nI nx), fun f => ?_, ?_, poolOK, b1, szOK, fun _ => pk_us⟩
    · rw [head f, if_neg (nI_ge hnx (by omega)), gd_nI (show b < 40 by omega) (by decide), nl_e, nI_1]
      rw [show gh c nx h = h from if_pos hnx, show gn c nx = nx + 1 from if_pos hnx]
    · unfold gh gr
      simp only [hnx, if_true]
      intro k hk
      by_cases q : k = b
      · rw [q, pk_us, ups_s]
      · rw [pk_un q, ups_n hr q]
        exact m1 k hk
  · refine ⟨bgn1, upd sz1 (gm bn rn - 1) (nI (i + 1 - gb bn rn i bg (gm bn rn - 1))), upd hp b (hp (h - 1)), fun f => ?_, ?_, poolOK, b1, szOK, fun _ => pk_us⟩
    · have e54 : nI h + (-1) = nI (h - 1) := by
        obtain ⟨h0, rfl⟩ : ∃ h0, h = h0 + 1 := ⟨h - 1, by omega⟩
        rw [pk_m1, Nat.add_sub_cancel]
      rw [head f, if_pos (nI_le (by omega) (by omega))]
      rw [nl_e, e54, gd_nI (show h - 1 < 40 by omega) (by decide), nl_e, gd_nI (show b < 40 by omega) (by decide), nI_clamp (show h - 1 < 2 ^ 31 by omega)]
      rw [show gh c nx h = h - 1 from if_neg hnx, show gn c nx = nx from if_neg hnx]
    · unfold gh gr
      simp only [hnx, if_false]
      intro k hk
      by_cases q : k = b
      · rw [q, pk_us, ups_s]
        exact m1 (h - 1) (by omega)
      · rw [pk_un q, ups_n hr q]
        exact m1 k (by omega)
