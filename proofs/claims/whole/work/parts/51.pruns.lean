/-! RUNS: both programs to their ends. My own text. -/
theorem m_skip {N c rm h nx i rn b : Nat} {P hr bg ord : Nat → Nat} {lst : Option Nat} {S V T F bgn sz pool hp : Nat → Int32} (hN : 1000 ≤ N) (hc : c ≤ 400) (ah : ∀ a b, a < c → b < c → f_X7_ahead N S V T F (nI a) (nI b) = some (if P a < P b then 1 else 0)) (injP : ∀ x y, x < c → y < c → P x = P y → x = y) (hrm2 : rm ≤ 40) (J : RJ c rm h nx i rn lst hr bg ord) (M : RM h i rn hr bg ord bgn sz pool hp) (hn : nextB P lst hr h b true) (hl : lst ≠ none) (f : Nat) :
    l_X7_runs_78 N S V (nI c) T F (f + 1) (nI h) (nI nx) (lI lst) (nI rn) bgn sz pool (nI i) hp = l_X7_runs_78 N S V (nI c) T F f (nI h) (nI nx) (-1) (nI rn) bgn sz pool (nI i) hp := by
  obtain ⟨j1, j2, j3, j4, j5, j6, j7, j8, j9, j10, j11, j12, j13, j14, j15⟩ := J
  obtain ⟨m1, -⟩ := M
  have hb := hn.1
  have hrc : ∀ k, k < h → hr k < c := fun k hk => by have := j6 k hk; omega
  have hbc := hrc b hb
  have hlc : ∀ l, lst = some l → l < c := fun l e => by
    have h1 := j11 l e
    have h2 := j8 (i - 1) (by omega)
    omega
  have inj : ∀ k, k < h → P (hr k) = P (hr b) → k = b := fun k hk e => j7 k b hk hb (injP _ _ (hrc k hk) hbc e)
  obtain ⟨o, s1, s2⟩ := p_scan (N := N) (c := c) (h := h) (P := P) (hr := hr) (lst := lst) (hp := hp) (by omega) hc ah hlc (fun k hk => ⟨hrc k hk, m1 k hk⟩) N 0 none (by omega) (by omega) ⟨fun _ k hk => absurd hk (by omega), fun x e => absurd e (by simp)⟩
  have so : o = none := (scan_next hn inj (fun l k e hk q => by
    have h1 := injP _ _ (hrc k hk) (hlc l e) q
    have h2 := j11 l e
    exact j10 (i - 1) k (by omega) hk (by rw [← h2.2, h1])) s2).2 rfl hl
  rw [so] at s1
  have s1' : l_X7_runs_88 N S V T F hp (nI h) (lI lst) N (-1) 0 = some (-1) := s1
  rw [l_X7_runs_78, if_neg (nI_nle (by omega) (by omega)), bd1_eq s1', if_pos rfl]
theorem both_runs {N c rm : Nat} {P : Nat → Nat} {S V T F S2 V2 T2 F2 : Nat → Int32} (hN : 1000 ≤ N) (hc : c ≤ 400) (po : ∀ a, a < c → f_X4_placeOf N S V T F (nI c) (nI a) = some (nI (P a))) (hP : ∀ r, r < c → P r < 320001600 ∧ P r % 400 = r) (ah : ∀ a b, a < c → b < c → f_X7_ahead N S2 V2 T2 F2 (nI a) (nI b) = some (if P a < P b then 1 else 0)) (hrm : 0 < rm) (hrm2 : rm ≤ 40) :
    ∀ (d h nx i rn : Nat) (lst : Option Nat) (hr bg ord : Nat → Nat) (items : Nat → Int64) (mb st bgn sz pool hp : Nat → Int32) (fC fM : Nat), c - i = d → d < fC → 2 * d < fM → i ≤ c → RJ c rm h nx i rn lst hr bg ord → RC P h i rn lst hr bg ord items mb st → RM h i rn hr bg ord bgn sz pool hp →
    ∃ (rn' : Nat) (lst' : Option Nat) (hr' bg' ord' : Nat → Nat) (items' : Nat → Int64) (mb' st' bgn' sz' pool' hp' : Nat → Int32), l_X5_select_44 N S V T F (nI c) (nI c) fC (nI nx) (nI i) items (nI h) mb st (nI rn) (nI i) = some (items', nI 0, mb', st', nI rn', nI c) ∧ l_X7_runs_78 N S2 V2 (nI c) T2 F2 fM (nI h) (nI nx) (lI lst) (nI rn) bgn sz pool (nI i) hp = some (nI rn', bgn', sz', pool', nI c, hp') ∧ RJ c rm 0 c c rn' lst' hr' bg' ord' ∧ RC P 0 c rn' lst' hr' bg' ord' items' mb' st' ∧ RM 0 c rn' hr' bg' ord' bgn' sz' pool' hp' := by
  have injP : ∀ x y, x < c → y < c → P x = P y → x = y := fun x y hx hy e => by
    have h1 := (hP x hx).2
    have h2 := (hP y hy).2
    omega
  intro d
  induction d with
  | zero =>
    intro h nx i rn lst hr bg ord items mb st bgn sz pool hp fC fM hd hf1 hf2 hic J C M
    have e : i = c := by omega
    subst e
    have hh : h = 0 := by have := J.1; have := J.2.1; omega
    have hn : nx = i := by have := J.1; omega
    subst hh
    subst hn
    obtain ⟨gC, rfl⟩ : ∃ g, fC = g + 1 := ⟨fC - 1, by omega⟩
    obtain ⟨gM, rfl⟩ : ∃ g, fM = g + 1 := ⟨fM - 1, by omega⟩
    refine ⟨rn, lst, hr, bg, ord, items, mb, st, bgn, sz, pool, hp, ?_, ?_, J, C, M⟩
    · rw [l_X5_select_44, if_pos (nI_le (Nat.le_refl _) (by omega))]
    · rw [l_X7_runs_78, if_pos (by decide)]
  | succ d ih =>
    intro h nx i rn lst hr bg ord items mb st bgn sz pool hp fC fM hd hf1 hf2 hic J C M
    have hi : i < c := by omega
    obtain ⟨gC, rfl⟩ : ∃ g, fC = g + 1 := ⟨fC - 1, by omega⟩
    obtain ⟨b, bn, items1, st1, hn, e1, C1⟩ := c_step hN hc po hP hrm hrm2 J C hi
    have J1 := J.step hrm hi hn
    rw [e1 gC]
    by_cases hbl : bn = true ↔ lst = none
    · obtain ⟨gM, rfl⟩ : ∃ g, fM = g + 1 := ⟨fM - 1, by omega⟩
      obtain ⟨bgn1, sz1, hp1, e2, M1⟩ := m_out hN hc ah injP hrm2 J M hi hn hbl
      rw [e2 gM]
      exact ih _ _ _ _ (some (hr b)) _ _ _ _ _ _ _ _ _ _ gC gM (by omega) (by omega) (by omega) (by omega) J1 C1 M1
    · have hbt : bn = true := by
        cases hb : bn with
        | true => rfl
        | false =>
          obtain ⟨l, e, -⟩ := hn.2.1 hb
          exact absurd ⟨fun q => absurd q (by rw [hb]; decide), fun q => by rw [e] at q; cases q⟩ hbl
      have hls : lst ≠ none := fun q => hbl ⟨fun _ => q, fun _ => hbt⟩
      subst hbt
      obtain ⟨gM, rfl⟩ : ∃ g, fM = g + 2 := ⟨fM - 2, by omega⟩
      have J0 : RJ c rm h nx i rn none hr bg ord := by
        obtain ⟨j1, j2, j3, j4, j5, j6, j7, j8, j9, j10, j11, j12, j13, j14, j15⟩ := J
        exact ⟨j1, j2, j3, j4, j5, j6, j7, j8, j9, j10, fun l e => (nomatch e), j12, j13, j14, j15⟩
      have hn0 : nextB P none hr h b true := ⟨hn.1, fun q => absurd q (by decide), fun q => ⟨fun l e => (nomatch e), (hn.2.2 q).2⟩⟩
      obtain ⟨bgn1, sz1, hp1, e2, M1⟩ := m_out hN hc ah injP hrm2 J0 M hi hn0 ⟨fun _ => rfl, fun _ => rfl⟩
      have e2' := e2 gM
      have e3 : lI none = -1 := rfl
      rw [e3] at e2'
      rw [m_skip hN hc ah injP hrm2 J M hn hls (gM + 1), e2']
      exact ih _ _ _ _ (some (hr b)) _ _ _ _ _ _ _ _ _ _ gC gM (by omega) (by omega) (by omega) (by omega) J1 C1 M1
