/-! CALLS plan, queue, merge: both answer alike. My own text. -/
theorem tele {b : Nat → Nat} : ∀ {n : Nat}, (∀ r, r < n → b r ≤ b (r + 1)) → fb_sm (fun r => b (r + 1) - b r) n + b 0 = b n
  | 0, _ => Nat.zero_add _
  | n + 1, h => by
    have ih := tele (b := b) (n := n) fun r hr => h r (by omega)
    have h1 := h n (by omega)
    rw [fb_sm_succ]
    omega
theorem p_pooled {n c al : Nat} {b ord : Nat → Nat} {mb rst bgn msz pool : Nat → Int32} (hn : 0 < n) (hn4 : n ≤ 400) (hal : n ≤ al) (hU : RU al c b ord mb rst bgn msz pool) : (if nI n = 0 then some (0 : Int32) else gd (ix (nI n - 1) 800) <| gd (ix (nI n - 1) 800) <| some (bgn (nI n - 1).toNatClampNeg + msz (nI n - 1).toNatClampNeg)) = some (nI (b n)) := by
  have h1 := hU.2.1 (n - 1) (by omega)
  have h2 := hU.2.2.2.1 (n - 1) (by omega)
  have e : n - 1 + 1 = n := by omega
  rw [e] at h1 h2
  rw [if_neg (nI_ne0 hn (by omega)), nI_s1 hn, gd_nI (show n - 1 < 800 by omega) (by decide), gd_nI (show n - 1 < 800 by omega) (by decide), nI_clamp (by omega), h2.1, h2.2, nI_add]
  congr 2
  omega
theorem st_plan {N cn n c al mg : Nat} (hN : 1000 ≤ N) {b ord io so : Nat → Nat} {S V T F mb rst inO sd tr st tks tkn : Nat → Int32} {rIn rMade rA mMade mRuns mAll pm pt mw mm : Int32} {bgn msz pool : Nat → Int32} (hr : rOK cn S V T F) (h : IR cn n c al b ord io so S V T F mb rst inO sd rIn rMade rA mMade mRuns mAll bgn msz pool) (hP : IP n mg b tr st pm pt mw mm tks tkn) (items : Nat → Int64) (size fl mp : Int32) (used planned : Nat → Int32) (v1 : Int32) :
    (∃ r, f_X6_plan N items size rst rIn rMade rA fl tr st pm pt v1 = some (r, items, size, rA, fl, tr, st, pm, pt) ∧ f_X7_plan N mMade mRuns mAll bgn msz mp mw mm tks tkn used planned v1 = some (r, mAll, mp, mw, mm, tks, tkn, used, planned)) ∨
    (∃ (r : Int32) (mg' : Nat) (items' : Nat → Int64) (size' fl' mp' mw' : Int32) (tr' st' tks' tkn' used' planned' : Nat → Int32), f_X6_plan N items size rst rIn rMade rA fl tr st pm pt v1 = some (r, items', size', nI n, fl', tr', st', nI mg', 1) ∧ f_X7_plan N mMade mRuns mAll bgn msz mp mw mm tks tkn used planned v1 = some (r, nI n, mp', mw', nI mg', tks', tkn', used', planned') ∧ IR cn n c n b ord io so S V T F mb rst inO sd rIn rMade (nI n) mMade mRuns (nI n) bgn msz pool ∧ IP n mg' b tr' st' (nI mg') 1 mw' (nI mg') tks' tkn') := by
  have hh := h
  obtain ⟨rfl, rfl, rfl, rfl, h5, h6, h7, h8, h9, h10, h11, h12⟩ := h
  have l2 : (2 : Int32).toInt = 2 := by decide
  have l8 : (8 : Int32).toInt = 8 := by decide
  have hcn := hr.1
  unfold f_X6_plan f_X7_plan
  simp only [p_isIn, p_is, bd1_s, ite_b, l2, l8]
  by_cases z : n = 0
  · subst z
    rw [if_pos nI_0, if_pos (show (if (0 : Nat) = 0 then (0 : Int32) else 1) = 0 by decide)]
    exact Or.inl ⟨_, rfl, rfl⟩
  · have hn : 0 < n := by omega
    obtain ⟨r1, r2, r3, r4, r5, r6, r7⟩ := h12 hn
    have e1 : ¬ (if n = 0 then (0 : Int32) else 1) = 0 := by rw [if_neg z]; decide
    rw [if_neg (nI_ne0 hn (by omega)), if_neg e1]
    by_cases q : 2 ≤ v1.toInt ∧ v1.toInt ≤ 8
    · refine Or.inr ?_
      rw [if_pos q, if_pos q]
      obtain ⟨k, k1, rfl⟩ := of_rng (k := 9) (show 0 ≤ v1.toInt by omega) (by omega) (by decide)
      rw [nI_toInt (by omega)] at q
      have hU := r3.cut h7
      have ht := tele (b := b) (n := n) hU.2.1
      have hb0 : b 0 = 0 := hU.1
      obtain ⟨mg', a, mv, pl, items', size', tr', st', tks', tkn', used', planned', s1, s2, s3, s4, s5, s6, s7, s8, s9⟩ := plan_alike (pl0 := fun r => b (r + 1) - b r) (rst := rst) (msz := msz) (tr := tr) (st := st) (tks := tks) (tkn := tkn) (used := used) (planned := planned) hN (show 2 ≤ k by omega) (by omega) hn h9 (by omega) (fun r hr => p_sizeOf N (by omega) hU.2.2.1 hU.2.1 hr) (fun r hr => (hU.2.2.2.1 r hr).2) hP.2.2.1 items size pm pt mm
      have e2 : f_X5_forgetMerged N (nI c) (nI n) rA fl = some (nI n, nI c) := rfl
      rw [bd2_eq e2, bd7_eq s1, bd1_eq (p_pooled hn h9 h7 r3), bd6_eq s2]
      refine ⟨_, mg', items', size', nI c, nI (b n), nI k, tr', st', tks', tkn', used', planned', rfl, rfl, ⟨rfl, rfl, rfl, rfl, rfl, rfl, Nat.le_refl _, by omega, h9, h10, fun w => absurd w z, fun _ => ⟨r1, r2, hU, r4, r5, r6, r7⟩⟩, rfl, rfl, s3.1, s6, Or.inr ⟨rfl, nI_ne_m1 (by omega), hn, a, pl, s3, s4, s5, s7, by omega⟩⟩
    · rw [if_neg q, if_neg q]
      exact Or.inl ⟨_, rfl, rfl⟩
theorem st_queue {N cn n c al : Nat} (hN : 1000 ≤ N) {b ord io so : Nat → Nat} {S V T F mb rst inO sd : Nat → Int32} {rIn rMade rA mMade mRuns mAll : Int32} {bgn msz pool : Nat → Int32} (h : IR cn n c al b ord io so S V T F mb rst inO sd rIn rMade rA mMade mRuns mAll bgn msz pool) (queued tks tkn used planned : Nat → Int32) (mm v1 : Int32) :
    ∃ (r : Int32) (queued' used' planned' : Nat → Int32), f_X6_queue N rst rMade rA queued v1 = some (r, queued') ∧ f_X7_queue N mMade mRuns msz mm tks tkn used planned v1 = some (r, mm, tks, tkn, used', planned') := by
  obtain ⟨rfl, rfl, rfl, rfl, rfl, rfl, h7, h8, h9, h10, h11, h12⟩ := h
  have l2 : (2 : Int32).toInt = 2 := by decide
  have l8 : (8 : Int32).toInt = 8 := by decide
  unfold f_X6_queue f_X7_queue
  simp only [p_isIn, p_is, bd1_s, ite_b, l2, l8]
  by_cases z : n = 0
  · subst z
    rw [if_pos nI_0, if_pos (show (if (0 : Nat) = 0 then (0 : Int32) else 1) = 0 by decide)]
    exact ⟨_, _, _, _, rfl, rfl⟩
  · have hn : 0 < n := by omega
    obtain ⟨r1, r2, r3, -⟩ := h12 hn
    have e1 : ¬ (if n = 0 then (0 : Int32) else 1) = 0 := by rw [if_neg z]; decide
    rw [if_neg (nI_ne0 hn (by omega)), if_neg e1]
    by_cases q : 2 ≤ v1.toInt ∧ v1.toInt ≤ 8
    · rw [if_pos q, if_pos q]
      obtain ⟨k, k1, rfl⟩ := of_rng (k := 9) (show 0 ≤ v1.toInt by omega) (by omega) (by decide)
      rw [nI_toInt (by omega)] at q
      obtain ⟨mv, queued', used', planned', s1, s2⟩ := queue_alike (rst := rst) (msz := msz) (queued := queued) (tks := tks) (tkn := tkn) (used := used) (planned := planned) hN (show 2 ≤ k by omega) (by omega) hn h9 (fun r hr => by
        rw [p_sizeOf N h8 r3.2.2.1 r3.2.1 (show r < al by omega), (r3.2.2.2.1 r (by omega)).2]) mm
      rw [bd2_eq s1, bd6_eq s2]
      exact ⟨_, _, _, _, rfl, rfl⟩
    · rw [if_neg q, if_neg q]
      exact ⟨_, _, _, _, rfl, rfl⟩
theorem st_merge {N cn n c al mg : Nat} (hN : 5000 ≤ N) {b ord io so : Nat → Nat} {S V T F mb rst inO sd tr st tks tkn : Nat → Int32} {rIn rMade rA mMade mRuns mAll pm pt mw mm : Int32} {bgn msz pool : Nat → Int32} (hr : rOK cn S V T F) (h : IR cn n c al b ord io so S V T F mb rst inO sd rIn rMade rA mMade mRuns mAll bgn msz pool) (hP : IP n mg b tr st pm pt mw mm tks tkn) (hd tl gone : Nat → Int32) (fl mp : Int32) :
    (∃ r, f_X6_merge N mb rst sd hd tl rIn rMade rA fl tr st pm pt = some (r, mb, rst, hd, tl, rA, fl) ∧ f_X7_merge N S V T F mRuns mAll bgn msz pool mp mw mm tks tkn gone = some (r, mAll, bgn, msz, pool, mp, gone)) ∨
    (∃ (r : Int32) (al' : Nat) (b' ord' : Nat → Nat) (mb' rst' hd' tl' bgn' msz' pool' gone' : Nat → Int32) (fl' mp' : Int32), f_X6_merge N mb rst sd hd tl rIn rMade rA fl tr st pm pt = some (r, mb', rst', hd', tl', nI al', fl') ∧ f_X7_merge N S V T F mRuns mAll bgn msz pool mp mw mm tks tkn gone = some (r, nI al', bgn', msz', pool', mp', gone') ∧ IR cn n c al' b' ord' io so S V T F mb' rst' inO sd rIn rMade (nI al') mMade mRuns (nI al') bgn' msz' pool' ∧ IP n mg b' tr st pm pt mw mm tks tkn) := by
  obtain ⟨rfl, rfl, rfl, rfl, h5, h6, h7, h8, h9, h10, h11, h12⟩ := h
  obtain ⟨rfl, rfl, p3, p4, p5⟩ := hP
  have hcn := hr.1
  unfold f_X6_merge f_X7_merge
  rcases p5 with ⟨rfl, rfl, -⟩ | ⟨rfl, w2, hn, a, pl, q1, q2, q3, q4', q5⟩
  · rw [if_pos rfl, if_pos rfl]
    exact Or.inl ⟨_, rfl, rfl⟩
  · refine Or.inr ?_
    obtain ⟨r1, r2, r3, r4, r5, r6, r7⟩ := h12 hn
    have hU := r3.cut h7
    have e2 : f_X5_forgetMerged N (nI c) (nI n) rA fl = some (nI n, nI c) := rfl
    obtain ⟨v1', b', ord', mb', rst', hd', tl', bgn', msz', pool', gone', s1, s2, s3, s4, s5⟩ := merge_loop (N := N) (n := n) (c := c) (mg := mg) (c0 := c) (so := so) (S := S) (V := V) (T := T) (Fl := F) (sd := sd) hN (by omega) p4 q3 q2 q1 (by omega) (fun r hr => ⟨p_standingOf N (by omega) r7 hr, by have := (r5.2.1 r hr).1; omega⟩) (ah_so N hr h10 r5) mg 0 N b ord 0 mb rst hd tl bgn msz pool gone (by omega) (by omega) hU (by
      show b n = c + 0
      omega) (fun r hr => (q4' r hr).symm)
    have hb : b (n + 0) = c := r2
    rw [hb] at s1 s2 s5
    have s1' : l_X6_merge_23 N sd (nI c) tr st (nI mg) N 0 0 mb rst hd tl (nI n) (nI c) = some (v1', mb', rst', hd', tl', nI (n + mg), nI (b' (n + mg))) := s1
    have s2' : l_X7_merge_60 N S V T F (nI mg) tks tkn N 0 0 (nI n) bgn msz pool (nI c) gone = some (v1', nI (n + mg), bgn', msz', pool', nI (b' (n + mg)), gone') := s2
    have e3 := p_pooled hn h9 h7 r3
    rw [r2] at e3
    rw [if_neg (by decide), bd2_eq e2, bd7_eq s1', if_neg w2, bd1_eq e3, bd7_eq s2']
    have hbn : b' n = c := by rw [s4 n (by omega)]; exact r2
    refine ⟨_, n + mg, b', ord', mb', rst', hd', tl', bgn', msz', pool', gone', _, _, rfl, rfl, ⟨rfl, rfl, rfl, rfl, rfl, rfl, by omega, q3, h9, h10, fun w => absurd w (by omega), fun _ => ⟨r1, hbn, s3, fun i j hi hj e => ?_, r5, r6, r7⟩⟩, rfl, rfl, p3, p4, Or.inr ⟨rfl, w2, hn, a, pl, q1, q2, q3, fun r hr => ?_, q5⟩⟩
    · rw [s5 i hi, s5 j hj] at e
      exact r4 i j hi hj e
    · rw [q4' r hr, s4 r (by omega), s4 (r + 1) (by omega)]
