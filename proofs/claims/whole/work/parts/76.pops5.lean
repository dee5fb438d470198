/-! CALLS on a CUT: both answer alike. My own text. -/
def IC (n p : Nat) (s : Nat → Nat) (sz en ln mg rc dn hb : Nat → Int32) (cp csm cb ct ca cg : Int32) (mp me msm : Int32) (en2 sz2 mg2 ms2 dn2 on2 : Nat → Int32) (mt ma mag : Int32) (hb2 : Nat → Int32) : Prop := cp = nI p ∧ mp = nI p ∧ p ≤ 8 ∧ csm = msm ∧ (0 < p → 0 < n) ∧ (p = 0 → ∀ k, k < 8 → hb k = 0) ∧ agr p sz sz2 ∧ (∀ j, j < p → sz j = nI (s j) ∧ s j ≤ 400) ∧ agr p en en2 ∧ agr p ln on2 ∧ agr p mg mg2 ∧ agr p rc ms2 ∧ agr p dn dn2 ∧ (∀ i, i < p → qM s i (mg i)) ∧ (∀ i, i < p → q4 (rc i)) ∧ (0 < p → cb = me * (((msm + nI p) - 1) / nI p) + ((me - 1) * nI n) ∧ ct = mt ∧ ca = ma ∧ cg = mag ∧ agr 8 hb hb2)
def IO (pc up pc2 up2 : Nat → Int32) : Prop := agr 8 pc pc2 ∧ agr 8 up up2 ∧ ∀ k, k < 8 → ∃ x, pc k = nI x ∧ x ≤ 50
theorem IC.gone {n : Nat} {sz en ln mg rc dn hb : Nat → Int32} {cb ct ca cg me : Int32} {en2 sz2 mg2 ms2 dn2 on2 : Nat → Int32} {mt ma mag : Int32} {hb2 : Nat → Int32} (h : ∀ k, k < 8 → hb k = 0) : IC n 0 (fun _ => 0) sz en ln mg rc dn hb 0 0 cb ct ca cg 0 me 0 en2 sz2 mg2 ms2 dn2 on2 mt ma mag hb2 := by
  refine ⟨rfl, rfl, by omega, rfl, fun z => absurd z (by omega), fun _ => h, ?_, ?_, ?_, ?_, ?_, ?_, ?_, ?_, ?_, fun z => absurd z (by omega)⟩ <;> exact fun j hj => absurd hj (by omega)
theorem m_c387 {N : Nat} : ∀ (f j : Nat) (g : Nat → Int32), j ≤ 8 → 8 - j < f → (∀ k, k < j → g k = 0) → ∃ g', l_X7_cut_387 N f (nI j) g = some g' ∧ ∀ k, k < 8 → g' k = 0
  | 0, j, g, _, hf, _ => absurd hf (by omega)
  | f + 1, j, g, hj, hf, h => by
    rw [l_X7_cut_387]
    by_cases q : 8 ≤ j
    · have e : j = 8 := by omega
      have q8 : (8 : Int32) ≤ nI j := nI_le (a := 8) q (by omega)
      rw [if_pos q8]
      rw [e] at h
      exact ⟨g, rfl, h⟩
    · have q8 : ¬ (8 : Int32) ≤ nI j := nI_ge (b := 8) (by omega) (by decide)
      rw [if_neg q8, gd_nI (show j < 8 by omega) (by decide), nl_e, nI_1, nI_clamp (show j < 2 ^ 31 by omega)]
      refine m_c387 f (j + 1) _ (by omega) (by omega) fun k hk => ?_
      by_cases z : k = j
      · rw [z, pk_us]
      · rw [pk_un z]
        exact h k (by omega)
theorem st_cut {N cn n c al p : Nat} (hN : 1000 ≤ N) {b ord io so s : Nat → Nat} {S V T F mb rst inO sd : Nat → Int32} {rIn rMade rA mMade mRuns mAll : Int32} {bgn msz pool : Nat → Int32} (hr : rOK cn S V T F) (h : IR cn n c al b ord io so S V T F mb rst inO sd rIn rMade rA mMade mRuns mAll bgn msz pool) {pc up pc2 up2 : Nat → Int32} (hO : IO pc up pc2 up2) (smp ss sz en ln mg rc dn hb : Nat → Int32) (cp csm cb ct ca cg : Int32) (mp me msm : Int32) (sample en2 sz2 mg2 ms2 dn2 on2 : Nat → Int32) (mt ma mag : Int32) (hb2 : Nat → Int32) (v1 v2 : Int32) :
    (∃ r, f_X6_cut N mb rst inO sd rIn rMade rA smp ss sz en ln mg rc dn hb cp csm cb ct ca cg up v1 v2 = some (r, smp, ss, sz, en, ln, mg, rc, dn, hb, cp, csm, cb, ct, ca, cg) ∧ f_X7_cut N S V T F mMade mRuns bgn msz pool mp me msm sample en2 sz2 mg2 ms2 dn2 on2 mt ma mag up2 hb2 v1 v2 = some (r, mp, me, msm, sample, en2, sz2, mg2, ms2, dn2, on2, mt, ma, mag, hb2)) ∨
    (∃ (r : Int32) (p' : Nat) (s' : Nat → Nat) (smp' ss' sz' en' ln' mg' rc' dn' hb' : Nat → Int32) (cp' csm' cb' ct' ca' cg' mp' me' msm' : Int32) (sample' en2' sz2' mg2' ms2' dn2' on2' : Nat → Int32) (mt' ma' mag' : Int32) (hb2' : Nat → Int32), f_X6_cut N mb rst inO sd rIn rMade rA smp ss sz en ln mg rc dn hb cp csm cb ct ca cg up v1 v2 = some (r, smp', ss', sz', en', ln', mg', rc', dn', hb', cp', csm', cb', ct', ca', cg') ∧ f_X7_cut N S V T F mMade mRuns bgn msz pool mp me msm sample en2 sz2 mg2 ms2 dn2 on2 mt ma mag up2 hb2 v1 v2 = some (r, mp', me', msm', sample', en2', sz2', mg2', ms2', dn2', on2', mt', ma', mag', hb2') ∧ IC n p' s' sz' en' ln' mg' rc' dn' hb' cp' csm' cb' ct' ca' cg' mp' me' msm' en2' sz2' mg2' ms2' dn2' on2' mt' ma' mag' hb2') := by
  obtain ⟨rfl, rfl, rfl, rfl, rfl, rfl, h7, h8, h9, h10, h11, h12⟩ := h
  have l1 : (1 : Int32).toInt = 1 := by decide
  have l8 : (8 : Int32).toInt = 8 := by decide
  have l20 : (20 : Int32).toInt = 20 := by decide
  have hcn := hr.1
  unfold f_X6_cut f_X7_cut
  simp only [p_isIn, p_is, bd1_s, ite_b, l1, l8, l20]
  by_cases z : n = 0
  · subst z
    rw [if_pos nI_0, if_pos (show (if (0 : Nat) = 0 then (0 : Int32) else 1) = 0 by decide)]
    exact Or.inl ⟨_, rfl, rfl⟩
  · have hn : 0 < n := by omega
    obtain ⟨r1, r2, r3, r4, r5, r6, r7⟩ := h12 hn
    have e1 : ¬ (if n = 0 then (0 : Int32) else 1) = 0 := by rw [if_neg z]; decide
    rw [if_neg (nI_ne0 hn (by omega)), if_neg e1]
    by_cases q : 1 ≤ v1.toInt ∧ v1.toInt ≤ 8
    · rw [if_pos q, if_pos q]
      by_cases q2 : 1 ≤ v2.toInt ∧ v2.toInt ≤ 20
      · rw [if_pos q2, if_pos q2]
        refine Or.inr ?_
        obtain ⟨k, k1, rfl⟩ := of_rng (k := 9) (show 0 ≤ v1.toInt by omega) (by omega) (by decide)
        obtain ⟨e, e2, rfl⟩ := of_rng (k := 21) (show 0 ≤ v2.toInt by omega) (by omega) (by decide)
        rw [nI_toInt (by omega)] at q q2
        have hk : 0 < k := by omega
        have hk8 : k ≤ 8 := by omega
        -- SAMPLES
        obtain ⟨m, sq, smp', ss', sample', s1, s2, s3, s4, s5⟩ := samples_alike (N := N) (c := c) (n := n) (al := al) (e := e) (S := S) (V := V) (T := T) (Fl := F) hN (by omega) (by omega) (by omega) h7 h9 h8 r3 r2 r4 (fun r hr => r5.2.1 r hr) (fun i hi => r5.1 i hi) r7 (fun i j hi hj => by
          have h1 := ah_io N hr h10 r5 i (io j) hi (r5.1 j hj).1
          rw [(r5.1 j hj).2] at h1
          exact h1) smp ss sample
        -- the class
        obtain ⟨hb', f1, f2⟩ := p_cforget hN hb cp csm cb ct ca cg
        obtain ⟨sz', en', mg', rc', dn', c1, c2⟩ := c_parts (N := N) (c := c) (m := m) (k := k) (sq := sq) (io := io) (inO := inO) (ss := ss') (by omega) r1 s3 hk hk8 (fun q hq => ⟨(s4 q hq).1, (s4 q hq).2.1⟩) s5 r6 N 0 sz en mg rc dn (by omega) (by omega) (fun y hy => absurd hy (by omega))
        have c1' : l_X0_makeOf_63 N inO (nI c) ss' (nI m) (nI k) N 0 0 sz en mg rc dn = some (sz', en', mg', rc', dn') := c1
        have mk : f_X0_makeOf N mb rst inO sd (nI c) (nI n) (nI al) smp ss sz en mg rc dn hb cp csm cb ct ca cg (nI k) (nI e) = some (smp', ss', sz', en', mg', rc', dn', hb', nI k, nI m, (nI e * (((nI m + nI k) - 1) / nI k)) + ((nI e - 1) * nI n), 0, 0, 0) := by
          unfold f_X0_makeOf
          have a1 : ¬ nI k < (1 : Int32) := nI_nlt (b := 1) (by omega) (by omega)
          have a2 : ¬ (8 : Int32) < nI k := nI_nlt (a := 8) (by omega) (by omega)
          have a3 : (1 : Int32) ≤ nI e := nI_le (a := 1) (by omega) (by omega)
          rw [bd7_eq f1, if_neg a1, if_neg a2, if_pos a3, bd3_eq s1, gd_nz hk (by omega), nl_e, bd5_eq c1']
        -- the reference
        obtain ⟨en2', d1, d2⟩ := m_ends (N := N) (c := c) (m := m) (k := k) (sq := sq) (io := io) (sample := sample') (by omega) s3 hk hk8 (fun q hq => (s4 q hq).2.2) N 0 en2 (by omega) (by omega) (fun y hy => absurd hy (by omega))
        obtain ⟨szm, mg2', ms2', dn2', on2', d3, d4⟩ := m_c227 (N := N) hk8 N 0 sz2 mg2 ms2 dn2 on2 (by omega) (by omega) (fun y hy => absurd hy (by omega))
        obtain ⟨sz2', d5, d6⟩ := m_c311 (N := N) (c := c) (m := m) (k := k) (sq := sq) (io := io) (so := so) (ord := ord) (S := S) (V := V) (T := T) (Fl := F) (en := en2') (pool := pool) hN (by omega) s3 hk hk8 (fun v hv => by
          have := r3.2.2.2.2.2 v (by have := r3.mono h7 (Nat.le_refl _); omega)
          exact ⟨this.1, this.2.2⟩) d2 (fun q hq => (s4 q hq).1) (fun i hi => (r5.1 i hi).1) (fun r hr => (r5.2.1 r hr).1) (ah_io N hr h10 r5) N 0 szm (by omega) (by omega) (fun y hy => (d4 y hy).1)
        obtain ⟨hb2', d7, d8⟩ := m_c387 (N := N) N 0 hb2 (by omega) (by omega) (fun y hy => absurd hy (by omega))
        have d1' : l_X7_cut_173 N (nI m) sample' (nI k) N 1 en2 = some en2' := d1
        have d3' : l_X7_cut_227 N (nI k) N 0 sz2 mg2 ms2 dn2 on2 = some (szm, mg2', ms2', dn2', on2') := d3
        have d5' : l_X7_cut_311 N S V T F pool (nI k) en2' (nI k) (nI c) N 0 szm = some sz2' := d5
        have d7' : l_X7_cut_387 N N 0 hb2 = some hb2' := d7
        have e3 := p_pooled hn h9 h7 r3
        rw [r2] at e3
        -- sizes
        have hsize : ∀ y, y < k → pC sq m k c (fun z => so (ord z)) y c = pL sq m k c y - pB sq m k c y := fun y hy => by
          unfold pC
          refine ct_perm (s := fun z => so (ord z)) (fun i hi => ?_) (fun i j hi hj e => ?_) (pB_le hk hy (fun q hq => (s4 q hq).1) s5) (pL_le hk hy (fun q hq => (s4 q hq).1))
          · have := r3.2.2.2.2.2 i (by have := r3.mono h7 (Nat.le_refl _); omega)
            exact (r5.2.1 _ this.1).1
          · have o1 := (r3.2.2.2.2.2 i (by have := r3.mono h7 (Nat.le_refl _); omega)).1
            have o2 := (r3.2.2.2.2.2 j (by have := r3.mono h7 (Nat.le_refl _); omega)).1
            refine r4 i j hi hj ?_
            rw [← (r5.2.1 _ o1).2, ← (r5.2.1 _ o2).2]
            exact congrArg io e
        have hs2 : agr k sz' sz2' := fun y hy => by rw [(c2 y hy).1, d6 y hy, hsize y hy]
        -- HOSTS
        obtain ⟨ln1, g1, g2⟩ := c_lay2 (N := N) hk8 N 0 ln (by omega) (by omega) (fun y hy => absurd hy (by omega))
        have g1' : l_X0_layOn_2 N (nI k) N 0 ln = some ln1 := g1
        obtain ⟨ln', mg'', dn'', on2'', mg2'', dn2'', t1, t2, t3, t4, t5, t6⟩ := lay_loop (N := N) hN hk8 hO.2.1 hs2 (qM (fun y => pL sq m k c y - pB sq m k c y)) (fun j => ⟨0, rfl, Nat.zero_le _⟩) N 0 ln1 mg' dn' on2' mg2' dn2' (by omega) (by omega) (fun y hy => by rw [g2 y hy, (d4 y hy).2.2.2.2]) (fun y hy => by rw [(c2 y hy).2.2.1, (d4 y hy).2.1]) (fun y hy => by rw [(c2 y hy).2.2.2.2, (d4 y hy).2.2.2.1]) (fun y hy => ⟨0, (c2 y hy).2.2.1, Nat.zero_le _⟩)
        have t1' : l_X0_layOn_25 N sz' (nI k) up N 0 ln1 mg' dn' = some (ln', mg'', dn'') := t1
        have t2' : l_X7_cut_411 N (nI k) sz2' up2 N 0 mg2' dn2' on2' = some (mg2'', dn2'', on2'') := t2
        have ly : f_X0_layOn N sz' ln mg' dn' (nI k) up = some (ln', mg'', dn'') := by
          unfold f_X0_layOn
          rw [bd1_eq g1', bd3_eq t1']
        rw [bd14_eq mk, bd3_eq ly, bd2_eq s2, bd1_eq d1', bd5_eq d3', bd1_eq e3, bd1_eq d5', bd1_eq d7', bd3_eq t2']
        refine ⟨nI m, k, fun y => pL sq m k c y - pB sq m k c y, smp', ss', sz', en', ln', mg'', rc', dn'', hb', nI k, nI m, _, 0, 0, 0, nI k, nI e, nI m, sample', en2', sz2', mg2'', ms2', dn2'', on2'', 0, 0, 0, hb2', rfl, rfl, rfl, rfl, hk8, rfl, fun _ => hn, fun w => absurd w (by omega), hs2, fun y hy => ⟨(c2 y hy).1, ?_⟩, fun y hy => by rw [(c2 y hy).2.1, d2 y hy], t3, t4, fun y hy => by rw [(c2 y hy).2.2.2.1, (d4 y hy).2.2.1], t5, t6, fun y hy => ⟨0, (c2 y hy).2.2.2.1, by omega⟩, fun _ => ⟨rfl, rfl, rfl, rfl, fun y hy => by rw [f2 y hy, d8 y hy]⟩⟩
        have := pL_le (sq := sq) (m := m) (c := c) hk hy (fun q hq => (s4 q hq).1)
        show pL sq m k c y - pB sq m k c y ≤ 400
        omega
      · rw [if_neg q2, if_neg q2]
        exact Or.inl ⟨_, rfl, rfl⟩
    · rw [if_neg q, if_neg q]
      exact Or.inl ⟨_, rfl, rfl⟩
