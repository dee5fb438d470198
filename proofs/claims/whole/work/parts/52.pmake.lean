/-! RUNS: from the start. My own text. -/
theorem p_sel17 {N : Nat} (hN : 1000 ≤ N) {c q : Nat} {S V T F : Nat → Int32} (h : rOK c S V T F) (hq : q ≤ c) : ∀ (f j : Nat) (items : Nat → Int64), j ≤ q → q - j < f → HP items (nI j) j (fun v => ∃ r, r < j ∧ v = plc S V T F r) →
    ∃ items', l_X5_select_17 N S V T F (nI c) (nI q) f (nI j) items (nI j) = some (items', nI q) ∧ HP items' (nI q) q (fun v => ∃ r, r < q ∧ v = plc S V T F r)
  | 0, j, items, _, hf, _ => absurd hf (by omega)
  | f + 1, j, items, hj, hf, hp => by
    have hc := h.1
    rw [l_X5_select_17]
    by_cases z : q ≤ j
    · have e : j = q := by omega
      subst e
      rw [if_pos (nI_le (Nat.le_refl _) (by omega))]
      exact ⟨items, rfl, hp⟩
    · have hjc : j < c := by omega
      have hlt := plc_lt h hjc
      obtain ⟨items', a1, a2⟩ := p_add hN hp (by omega) (x := plc S V T F j) (by omega) (by
        rintro ⟨r, hr, e⟩
        have := plc_inj h hjc (by omega) e
        omega)
      rw [if_neg (nI_ge (by omega) (by omega)), bd1_eq (p_placeOf N h hjc), nI_l (show plc S V T F j < 2 ^ 31 by omega), bd2_eq a1, nl_e, nI_1]
      exact p_sel17 hN h hq f (j + 1) items' (by omega) (by omega) (a2.congr fun v => by
        constructor
        · rintro ⟨r, hr, e⟩
          by_cases y : r = j
          · exact Or.inr (by rw [e, y])
          · exact Or.inl ⟨r, by omega, e⟩
        · rintro (⟨r, hr, e⟩ | e)
          · exact ⟨r, by omega, e⟩
          · exact ⟨j, by omega, e⟩)
theorem p_fill (N : Nat) {c rm : Nat} (hc : c ≤ 400) (hrm : rm ≤ 40) : ∀ (f j : Nat) (hp : Nat → Int32), j ≤ min rm c → min rm c - j < f → (∀ k, k < j → hp k = nI k) →
    ∃ hp', l_X7_runs_46 N (nI c) (nI rm) f (nI j) (nI j) hp = some (nI (min rm c), nI (min rm c), hp') ∧ ∀ k, k < min rm c → hp' k = nI k
  | 0, j, hp, _, hf, _ => absurd hf (by omega)
  | f + 1, j, hp, hj, hf, hk => by
    rw [l_X7_runs_46]
    by_cases a : rm ≤ j
    · have e : j = min rm c := by omega
      rw [if_pos (nI_le a (by omega)), e]
      rw [e] at hk
      exact ⟨hp, rfl, hk⟩
    · rw [if_neg (nI_ge (by omega) (by omega))]
      by_cases b : c ≤ j
      · have e : j = min rm c := by omega
        rw [if_pos (nI_le b (by omega)), e]
        rw [e] at hk
        exact ⟨hp, rfl, hk⟩
      · rw [if_neg (nI_ge (by omega) (by omega)), gd_nI (show j < 40 by omega) (by decide), nl_e, nl_e, nI_1, nI_clamp (show j < 2 ^ 31 by omega)]
        exact p_fill N hc hrm f (j + 1) _ (by omega) (by omega) (fun k hk2 => by
          by_cases z : k = j
          · rw [z, pk_us]
          · rw [pk_un z]; exact hk k (by omega))
theorem vl0 (P : Nat → Nat) (k : Nat) : vl P none 0 k = P k := by
  show 0 * 320001600 + P k = P k
  omega
theorem runs_alike {N c rm : Nat} {S V T F S2 V2 T2 F2 : Nat → Int32} (hN : 1000 ≤ N) (h : rOK c S V T F) (ah : ∀ a b, a < c → b < c → f_X7_ahead N S2 V2 T2 F2 (nI a) (nI b) = some (if plc S V T F a < plc S V T F b then 1 else 0)) (hrm : 0 < rm) (hrm2 : rm ≤ 40) (items : Nat → Int64) (size ra md : Int32) (mb st inO sd bgn sz pool hp : Nat → Int32) :
    ∃ (rn : Nat) (lst : Option Nat) (hr bg ord io so : Nat → Nat) (items' : Nat → Int64) (mb' st' inO' sd' bgn' sz' pool' hp0 hp' : Nat → Int32),
      f_X5_makeOf N S V T F (nI c) items size mb st inO sd ra md 0 0 (nI rm) = some (items', nI 0, mb', st', inO', sd', nI c, nI rn, nI rn, nI c) ∧
      l_X7_runs_46 N (nI c) (nI rm) N 0 0 hp = some (nI (min rm c), nI (min rm c), hp0) ∧
      l_X7_runs_78 N S2 V2 (nI c) T2 F2 N (nI (min rm c)) (nI (min rm c)) (-1) 0 bgn sz pool 0 hp0 = some (nI rn, bgn', sz', pool', nI c, hp') ∧
      SO c (plc S V T F) io so ∧ (∀ k, k < c → inO' k = nI (io k)) ∧ (∀ r, r < c → sd' r = nI (so r)) ∧
      RJ c rm 0 c c rn lst hr bg ord ∧ RC (plc S V T F) 0 c rn lst hr bg ord items' mb' st' ∧ RM 0 c rn hr bg ord bgn' sz' pool' hp' := by
  have hc := h.1
  obtain ⟨inO', sd', i1, io, so, a1, a2, a3, a4⟩ := p_putInOrder hN h inO sd items size
  obtain ⟨i2, b1, b2⟩ := p_sel17 hN h (q := min rm c) (by omega) N 0 i1 (by omega) (by omega) ((HP.empty i1).congr fun v => ⟨fun ⟨r, hr, _⟩ => absurd hr (by omega), fun z => z.elim⟩)
  obtain ⟨hp0, d1, d2⟩ := p_fill N hc hrm2 N 0 hp (by omega) (by omega) (fun k hk => absurd hk (by omega))
  have J0 : RJ c rm (min rm c) (min rm c) 0 0 none (fun k => k) (fun _ => 0) (fun _ => 0) := ⟨by omega, by omega, by omega, fun z => by omega, by omega, fun k hk => hk, fun a b _ _ e => e, fun j hj => absurd hj (by omega), fun a b ha => absurd ha (by omega), fun j k hj => absurd hj (by omega), fun l e => (nomatch e), fun z => absurd z (by omega), fun z => absurd z (by omega), fun r z => absurd z (by omega), fun z => absurd z (by omega)⟩
  have C0 : RC (plc S V T F) (min rm c) 0 0 none (fun k => k) (fun _ => 0) (fun _ => 0) i2 mb st := ⟨b2.congr fun v => by
      constructor
      · rintro ⟨k, hk, e⟩
        exact ⟨k, hk, e.trans (vl0 _ _)⟩
      · rintro ⟨k, hk, e⟩
        exact ⟨k, hk, e.trans (vl0 _ _).symm⟩, fun j hj => absurd hj (by omega), fun r hr => absurd hr (by omega), fun z => absurd z (by omega)⟩
  have M0 : RM (min rm c) 0 0 (fun k => k) (fun _ => 0) (fun _ => 0) bgn sz pool hp0 := ⟨d2, fun j hj => absurd hj (by omega), fun r hr => absurd hr (by omega), fun r hr => absurd hr (by omega), fun z => absurd z (by omega)⟩
  obtain ⟨rn, lst, hr, bg, ord, items', mb', st', bgn', sz', pool', hp', e1, e2, e3, e4, e5⟩ := both_runs hN hc (fun a ha => p_placeOf N h ha) (fun r hr => ⟨plc_lt h hr, plc_mod h hr⟩) ah hrm hrm2 c _ _ 0 0 none _ _ _ i2 mb st bgn sz pool hp0 N N (by omega) (by omega) (by omega) (by omega) J0 C0 M0
  refine ⟨rn, lst, hr, bg, ord, io, so, items', mb', st', inO', sd', bgn', sz', pool', hp0, hp', ?_, d1, e2, a2, a3, a4, e3, e4, e5⟩
  have x3 : (if nI c < nI rm then nI c else nI rm) = nI (min rm c) := by
    by_cases z : c < rm
    · rw [if_pos (nI_lt z (by omega))]; congr 1; omega
    · rw [if_neg (nI_nlt (by omega) (by omega))]; congr 1; omega
  have b1' : l_X5_select_17 N S V T F (nI c) (nI (min rm c)) N 0 i1 0 = some (i2, nI (min rm c)) := b1
  have e1' : l_X5_select_44 N S V T F (nI c) (nI c) N (nI (min rm c)) 0 i2 (nI (min rm c)) mb st 0 0 = some (items', nI 0, mb', st', nI rn, nI c) := e1
  have f1 : f_X1_forget N (nI 0) = some 0 := rfl
  have sel : f_X5_select N S V T F (nI c) i1 (nI 0) mb st (nI c) 0 0 (nI rm) = some (items', nI 0, mb', st', nI rn, nI c) := by
    unfold f_X5_select
    rw [bd1_eq f1, x3, nl_e, bd2_eq b1', bd6_eq e1']
  unfold f_X5_makeOf
  rw [bd4_eq a1, bd6_eq sel]
