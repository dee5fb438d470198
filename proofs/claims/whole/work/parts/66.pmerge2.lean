/-! MERGES: all of THE PLAN. My own text. -/
def RU (al c : Nat) (b ord : Nat → Nat) (mb rst bgn msz pool : Nat → Int32) : Prop := b 0 = 0 ∧ (∀ r, r < al → b r ≤ b (r + 1)) ∧ (∀ r, r ≤ al → rst r = nI (b r)) ∧ (∀ r, r < al → bgn r = nI (b r) ∧ msz r = nI (b (r + 1) - b r)) ∧ b al ≤ 4000 ∧ ∀ j, j < b al → ord j < c ∧ mb j = nI (ord j) ∧ pool j = nI (ord j)
theorem mono_of {al : Nat} {b : Nat → Nat} (h : ∀ r, r < al → b r ≤ b (r + 1)) : ∀ {s r : Nat}, r ≤ s → s ≤ al → b r ≤ b s
  | 0, r, hr, _ => by
    have e : r = 0 := by omega
    rw [e]
    exact Nat.le_refl _
  | s + 1, r, hr, hs => by
    by_cases q : r = s + 1
    · rw [q]; exact Nat.le_refl _
    · have h1 := mono_of h (s := s) (r := r) (by omega) (by omega)
      have h2 := h s (by omega)
      omega
theorem RU.mono {al c : Nat} {b ord : Nat → Nat} {mb rst bgn msz pool : Nat → Int32} (h : RU al c b ord mb rst bgn msz pool) {r s : Nat} (hr : r ≤ s) (hs : s ≤ al) : b r ≤ b s := mono_of h.2.1 hr hs
theorem RU.cut {al c n : Nat} {b ord : Nat → Nat} {mb rst bgn msz pool : Nat → Int32} (h : RU al c b ord mb rst bgn msz pool) (hn : n ≤ al) : RU n c b ord mb rst bgn msz pool := by
  have hm := h.mono hn (Nat.le_refl _)
  obtain ⟨h1, h2, h3, h4, h5, h6⟩ := h
  exact ⟨h1, fun r hr => h2 r (by omega), fun r hr => h3 r (by omega), fun r hr => h4 r (by omega), by omega, fun j hj => h6 j (by omega)⟩
theorem p_waysIn (N : Nat) {mg x a0 w : Nat} {st : Nat → Int32} (hx : x < mg) (hmg : mg ≤ 400) (h1 : st x = nI a0) (h2 : st (x + 1) = nI (a0 + w)) : f_X3_waysIn N st (nI mg) (nI x) = some (nI w) := by
  unfold f_X3_waysIn
  have e : (nI mg - 1).toInt = (mg : Int) - 1 := pk_sub_toInt (b := 1) (by omega) (by omega)
  have e0 : (0 : Int32).toInt = 0 := by decide
  have er : (nI x).toInt = (x : Int) := nI_toInt (by omega)
  have ew : a0 + w - a0 = w := by omega
  rw [bd1_eq (p_isIn N (nI x) 0 (nI mg - 1)), e, e0, er, if_pos (show (0 : Int) ≤ (x : Int) ∧ (x : Int) ≤ (mg : Int) - 1 by omega), if_neg (by decide), nI_1, gd_nI (show x + 1 < 401 by omega) (by decide), gd_nI (show x < 401 by omega) (by decide), nI_clamp (show x < 2 ^ 31 by omega), nI_clamp (show x + 1 < 2 ^ 31 by omega), h1, h2, nI_sub (by omega), ew]
theorem p_taken (N : Nat) {mg x a0 w j : Nat} {tr st : Nat → Int32} (hx : x < mg) (hmg : mg ≤ 400) (h1 : st x = nI a0) (h2 : st (x + 1) = nI (a0 + w)) (haw : a0 + w ≤ 800) (hj : j < w) : f_X3_taken N tr st (nI mg) (nI x) (nI j) = some (tr (a0 + j)) := by
  unfold f_X3_taken
  have e : (nI w - 1).toInt = (w : Int) - 1 := pk_sub_toInt (b := 1) (by omega) (by omega)
  have e0 : (0 : Int32).toInt = 0 := by decide
  have er : (nI j).toInt = (j : Int) := nI_toInt (by omega)
  rw [bd1_eq (p_waysIn N hx hmg h1 h2), bd1_eq (p_isIn N (nI j) 0 (nI w - 1)), e, e0, er, if_pos (show (0 : Int) ≤ (j : Int) ∧ (j : Int) ≤ (w : Int) - 1 by omega), if_neg (by decide), gd_nI (show x < 401 by omega) (by decide), nI_clamp (show x < 2 ^ 31 by omega), h1, nI_add, gd_nI (show a0 + j < 800 by omega) (by decide), nI_clamp (show a0 + j < 2 ^ 31 by omega)]
theorem merge_step {N c al mg x a0 w : Nat} {b ord so t : Nat → Nat} {S V T Fl sd tr st tks tkn mb rst bgn msz pool : Nat → Int32} (hN : 5000 ≤ N) (hc : c ≤ 400) (hx : x < mg) (hmg : mg ≤ 400) (hal : al < 799) (haw : a0 + w ≤ 800) (hw8 : w ≤ 8) (hst1 : st x = nI a0) (hst2 : st (x + 1) = nI (a0 + w)) (htks : tks x = nI w) (ht : ∀ j, j < w → t j < al ∧ tr (a0 + j) = nI (t j) ∧ tkn (8 * x + j) = nI (t j))
    (hsd : ∀ r, r < c → f_X5_standingOf N sd (nI c) (nI r) = some (nI (so r)) ∧ so r < 400)
    (ah : ∀ a b, a < c → b < c → f_X7_ahead N S V T Fl (nI a) (nI b) = some (if so a < so b then 1 else 0))
    (hU : RU al c b ord mb rst bgn msz pool) (hs : b al + fb_sm (fun j => b (t j + 1) - b (t j)) w ≤ 4000) (hd tl gone : Nat → Int32) :
    ∃ (r6 : Int32) (ord' : Nat → Nat) (mb' rst' hd' tl' msz' pool' gone' : Nat → Int32), f_X5_mergeThose N mb rst sd hd tl (nI c) (nI al) (nI (b al)) tr st (nI mg) (nI x) = some (r6, mb', rst', hd', tl', nI (al + 1), nI (b al + fb_sm (fun j => b (t j + 1) - b (t j)) w)) ∧
      (∀ (f : Nat) (v1 : Int32), l_X7_merge_60 N S V T Fl (nI mg) tks tkn (f + 1) v1 (nI x) (nI al) bgn msz pool (nI (b al)) gone = l_X7_merge_60 N S V T Fl (nI mg) tks tkn f (v1 + r6) (nI (x + 1)) (nI (al + 1)) (upd bgn al (nI (b al))) msz' pool' (nI (b al + fb_sm (fun j => b (t j + 1) - b (t j)) w)) gone') ∧
      RU (al + 1) c (ups b (al + 1) (b al + fb_sm (fun j => b (t j + 1) - b (t j)) w)) ord' mb' rst' (upd bgn al (nI (b al))) msz' pool' ∧ ∀ j, j < b al → ord' j = ord j := by
  have hmono : ∀ j, j < w → b (t j) ≤ b (t j + 1) ∧ b (t j + 1) ≤ b al := fun j hj => ⟨hU.2.1 _ (ht j hj).1, hU.mono (by have := (ht j hj).1; omega) (Nat.le_refl _)⟩
  obtain ⟨u1, u2, u3, u4, u5, u6⟩ := hU
  generalize hse : fb_sm (fun j => b (t j + 1) - b (t j)) w = s at hs
  obtain ⟨hd1, tl1, c1, c2⟩ := c_m17 (N := N) (al := al) (mg := mg) (x := x) (bt := fun j => b (t j)) (sz := fun j => b (t j + 1) - b (t j)) (t := t) (rst := rst) (tr := tr) (st := st) hw8 (by omega) (fun j hj => by
    obtain ⟨t1, t2, t3⟩ := ht j hj
    refine ⟨t1, ?_, u3 _ (by omega), p_sizeOf N (by omega) u3 u2 t1⟩
    rw [p_taken N hx hmg hst1 hst2 haw hj, t2]) N 0 hd tl (by omega) (by omega) (fun y hy => absurd hy (by omega))
  obtain ⟨gone1, g1, g2⟩ := m_gone (N := N) N 0 gone (by omega) (by omega) (fun k hk => absurd hk (by omega))
  rw [hse] at c1
  have c1' : l_X5_mergeThose_17 N rst (nI al) tr st (nI mg) (nI x) (nI w) N 0 0 hd tl = some (nI s, hd1, tl1) := c1
  have g1' : l_X7_merge_70 N N 0 gone = some gone1 := g1
  obtain ⟨r6, ord', mb', rst', hd', msz', pool', gone', r1, r2, r3, r4, r5, r6', r7, r8⟩ := merge_in (N := N) (c := c) (w := w) (x := x) (al := al) (F0 := b al) (bt := fun j => b (t j)) (sz := fun j => b (t j + 1) - b (t j)) (t := t) (so := so) (S := S) (V := V) (T := T) (Fl := Fl) (sd := sd) (tl := tl1) (bgn := upd bgn al (nI (b al))) (tks := tks) (tkn := tkn) (by omega) hw8 (by omega) hc hal u5 htks (fun j hj => by
      obtain ⟨t1, t2, t3⟩ := ht j hj
      have hm := hmono j hj
      have hm2 : b (t j) + (b (t j + 1) - b (t j)) ≤ b al := by omega
      exact ⟨(c2 j hj).2, hm2, t3, t1, by rw [pk_un (show t j ≠ al by omega)]; exact (u4 _ t1).1⟩) hsd ah s 0 (b al) (fun _ => 0) ord 0 N N mb (upd (upd rst al (nI (b al))) (al + 1) (nI (b al))) hd1 (upd msz al 0) pool gone1 (by
      rw [← hse]
      exact fb_sm_cong fun k _ => Nat.sub_zero _) (by omega) (by omega) (Nat.le_refl _) (by omega) (by omega) (fun j hj => by
      obtain ⟨t1, t2, t3⟩ := ht j hj
      exact ⟨(c2 j hj).1, g2 j (by omega), Nat.zero_le _, by rw [pk_un (show t j ≠ al by omega)]; exact (u4 _ t1).2⟩) u6 pk_us (by rw [pk_us, Nat.sub_self]; rfl)
  rw [Nat.zero_add] at r1
  have r1' : l_X5_mergeThose_107 N sd tl1 (nI c) (nI (al + 1)) (nI w) (nI s) N 0 0 mb (upd (upd rst al (nI (b al))) (al + 1) (nI (b al))) hd1 (nI (b al)) = some (r6, mb', rst', hd', nI (b al + s)) := r1
  have x8 : (if (8 : Int32) < nI w then (8 : Int32) else nI w) = nI w := if_neg (nI_nlt (a := 8) (by omega) (by omega))
  refine ⟨r6, ord', mb', rst', hd', tl1, msz', pool', gone', ?_, fun f v1 => ?_, ⟨?_, fun r hr => ?_, fun r hr => ?_, fun r hr => ?_, ?_, ?_⟩, r4⟩
  · unfold f_X5_mergeThose
    rw [bd1_eq (p_waysIn N hx hmg hst1 hst2), x8, nl_e, bd3_eq c1', bd2_eq (p_begin N rst hal), bd5_eq r1']
  · have r2' := r2 v1
    rw [Int32.add_zero] at r2'
    rw [l_X7_merge_60, if_neg (nI_ge hx (by omega)), bd1_eq g1', gd_nI (show al < 800 by omega) (by decide), gd_nI (show al < 800 by omega) (by decide), nI_clamp (show al < 2 ^ 31 by omega), bd5_eq r2', nl_e, nl_e, nI_1, nI_1]
  · rw [ups_n b (by omega)]
    exact u1
  · by_cases q : r = al
    · rw [q, ups_s, ups_n b (by omega)]
      omega
    · rw [ups_n b (by omega), ups_n b (by omega)]
      exact u2 r (by omega)
  · by_cases q : r = al + 1
    · rw [q, ups_s]
      exact r6'
    · rw [r5 r q, pk_un q, ups_n b q]
      by_cases q2 : r = al
      · rw [q2, pk_us]
      · rw [pk_un q2]
        exact u3 r (by omega)
  · by_cases q : r = al
    · rw [q, pk_us, ups_s, ups_n b (by omega)]
      exact ⟨rfl, r8⟩
    · rw [pk_un q, ups_n b (by omega), ups_n b (by omega), r7 r q, pk_un q]
      exact u4 r (by omega)
  · rw [ups_s]
    omega
  · rw [ups_s]
    exact r3
theorem merge_loop {N n c mg a c0 : Nat} {pl so : Nat → Nat} {S V T Fl sd tr st tks tkn : Nat → Int32} (hN : 5000 ≤ N) (hc : c ≤ 400) (hmg : mg < 400) (hnm : n + mg ≤ 799) (ha : a ≤ 799) (hP : PL n mg a pl tr st tks tkn) (hsum : c0 + fb_sm (fun x => pl (n + x)) mg ≤ 4000)
    (hsd : ∀ r, r < c → f_X5_standingOf N sd (nI c) (nI r) = some (nI (so r)) ∧ so r < 400)
    (ah : ∀ a b, a < c → b < c → f_X7_ahead N S V T Fl (nI a) (nI b) = some (if so a < so b then 1 else 0)) :
    ∀ (q x f : Nat) (b ord : Nat → Nat) (v1 : Int32) (mb rst hd tl bgn msz pool gone : Nat → Int32), x + q = mg → q < f → RU (n + x) c b ord mb rst bgn msz pool → b (n + x) = c0 + fb_sm (fun y => pl (n + y)) x → (∀ r, r < n + x → b (r + 1) - b r = pl r) →
    ∃ (v1' : Int32) (b' ord' : Nat → Nat) (mb' rst' hd' tl' bgn' msz' pool' gone' : Nat → Int32), l_X6_merge_23 N sd (nI c) tr st (nI mg) f v1 (nI x) mb rst hd tl (nI (n + x)) (nI (b (n + x))) = some (v1', mb', rst', hd', tl', nI (n + mg), nI (b' (n + mg))) ∧ l_X7_merge_60 N S V T Fl (nI mg) tks tkn f v1 (nI x) (nI (n + x)) bgn msz pool (nI (b (n + x))) gone = some (v1', nI (n + mg), bgn', msz', pool', nI (b' (n + mg)), gone') ∧ RU (n + mg) c b' ord' mb' rst' bgn' msz' pool' ∧ (∀ r, r ≤ n + x → b' r = b r) ∧ ∀ j, j < b (n + x) → ord' j = ord j
  | 0, x, 0, b, ord, v1, mb, rst, hd, tl, bgn, msz, pool, gone, _, hf, _, _, _ => absurd hf (by omega)
  | 0, x, f + 1, b, ord, v1, mb, rst, hd, tl, bgn, msz, pool, gone, hq, _, hU, _, _ => by
    have e : x = mg := by omega
    subst e
    rw [l_X6_merge_23, l_X7_merge_60, if_pos (nI_le (Nat.le_refl _) (by omega)), if_pos (nI_le (Nat.le_refl _) (by omega))]
    exact ⟨v1, b, ord, mb, rst, hd, tl, bgn, msz, pool, gone, rfl, rfl, hU, fun r _ => rfl, fun j _ => rfl⟩
  | q + 1, x, 0, b, ord, v1, mb, rst, hd, tl, bgn, msz, pool, gone, _, hf, _, _, _ => absurd hf (by omega)
  | q + 1, x, f + 1, b, ord, v1, mb, rst, hd, tl, bgn, msz, pool, gone, hq, hf, hU, hb, hpl => by
    obtain ⟨a0, w, p1, p2, p3, p4, p5, p6, p7, p8⟩ := hP.2.2 x (by omega)
    have ht : ∀ j, j < w → (tkn (8 * x + j)).toNatClampNeg < n + x ∧ tr (a0 + j) = nI (tkn (8 * x + j)).toNatClampNeg ∧ tkn (8 * x + j) = nI (tkn (8 * x + j)).toNatClampNeg := fun j hj => by
      obtain ⟨r, r1, r2, r3⟩ := p7 j hj
      have e : (tkn (8 * x + j)).toNatClampNeg = r := by
        rw [r3]
        exact nI_clamp (by omega)
      rw [e]
      exact ⟨r1, r2, r3⟩
    have es : fb_sm (fun j => b ((tkn (8 * x + j)).toNatClampNeg + 1) - b (tkn (8 * x + j)).toNatClampNeg) w = pl (n + x) := by
      rw [p8]
      exact fb_sm_cong fun j hj => hpl _ (ht j hj).1
    have hle : fb_sm (fun y => pl (n + y)) x + pl (n + x) ≤ fb_sm (fun y => pl (n + y)) mg := fb_sm_part (fun y => pl (n + y)) (show x < mg by omega)
    obtain ⟨r6, ord1, mb1, rst1, hd1, tl1, msz1, pool1, gone1, s1, s2, s3, s4⟩ := merge_step (N := N) (mg := mg) (t := fun j => (tkn (8 * x + j)).toNatClampNeg) (S := S) (V := V) (T := T) (Fl := Fl) hN hc (show x < mg by omega) (by omega) (show n + x < 799 by omega) (by omega) p5 p1 p2 p3 ht hsd ah hU (by rw [es]; omega) hd tl gone
    rw [es] at s1 s2 s3
    obtain ⟨v1', b', ord', mb', rst', hd', tl', bgn', msz', pool', gone', r1, r2, r3, r4, r5⟩ := merge_loop hN hc hmg hnm ha hP hsum hsd ah q (x + 1) f (ups b (n + x + 1) (b (n + x) + pl (n + x))) ord1 (v1 + r6) mb1 rst1 hd1 tl1 (upd bgn (n + x) (nI (b (n + x)))) msz1 pool1 gone1 (by omega) (by omega) s3 (by
        have e : n + (x + 1) = n + x + 1 := rfl
        rw [e, ups_s, fb_sm_succ]
        omega) (fun r hr => by
        by_cases z : r = n + x
        · rw [z, ups_s, ups_n b (by omega)]
          omega
        · rw [ups_n b (by omega), ups_n b (by omega)]
          exact hpl r (by omega))
    have eb : ups b (n + x + 1) (b (n + x) + pl (n + x)) (n + (x + 1)) = b (n + x) + pl (n + x) := ups_s _ _ _
    rw [eb] at r1 r2 r5
    refine ⟨v1', b', ord', mb', rst', hd', tl', bgn', msz', pool', gone', ?_, ?_, r3, fun r hr => ?_, fun j hj => ?_⟩
    · rw [l_X6_merge_23, if_neg (nI_ge (show x < mg by omega) (by omega)), bd7_eq s1, nl_e, nl_e, nI_1]
      exact r1
    · rw [s2]
      exact r2
    · rw [r4 r (by omega), ups_n b (by omega)]
    · rw [r5 j (by omega), s4 j hj]
