/-! A CUT: its SAMPLES. My own text. -/
theorem ct_lt {F : Nat → Bool} {i x : Nat} (h : F i = true) (hx : i < x) : fb_ct F i < fb_ct F x := by
  have h1 := fb_ct_succ F i
  rw [if_pos h] at h1
  have h2 := fb_ct_mono F (show i + 1 ≤ x by omega)
  omega
def setF (F : Nat → Bool) (x : Nat) : Nat → Bool := fun k => if k = x then true else F k
theorem setF_s (F : Nat → Bool) (x : Nat) : setF F x x = true := if_pos rfl
theorem setF_n (F : Nat → Bool) {x k : Nat} (h : k ≠ x) : setF F x k = F k := if_neg h
theorem setF_le (F : Nat → Bool) {x i : Nat} (h : i ≤ x) : fb_ct (setF F x) i = fb_ct F i := fb_ct_out F true h
theorem setF_gt (F : Nat → Bool) {x i : Nat} (h : x < i) (hx : F x = false) : fb_ct (setF F x) i = fb_ct F i + 1 := by
  have h1 := fb_ct_upd F true h
  rw [hx] at h1
  have h2 : fb_ct (setF F x) i = fb_ct (fun k => if k = x then true else F k) i := rfl
  rw [h2]
  simpa using h1
/-- the reference puts a ROW among its SAMPLES -/
theorem ins_loop {N c x : Nat} {io : Nat → Nat} {F : Nat → Bool} {S V T Fl : Nat → Int32} (hc : c ≤ 400) (hx : x < c) (hFx : F x = false) (hio : ∀ i, i < c → io i < c)
    (ah : ∀ i j, i < c → j < c → f_X7_ahead N S V T Fl (nI (io i)) (nI (io j)) = some (if i < j then 1 else 0)) :
    ∀ (f a : Nat) (sm : Nat → Int32), a < f → fb_ct F x ≤ a → a ≤ fb_ct F c → fb_ct F c < 400 → (∀ i, i < c → F i = true → (fb_ct F i < a → sm (fb_ct F i) = nI (io i)) ∧ (a ≤ fb_ct F i → sm (fb_ct F i + 1) = nI (io i))) →
    ∃ sm', l_X7_cut_92 N S V T Fl (nI (io x)) f (nI a) sm = some (nI (fb_ct F x), sm') ∧ ∀ i, i < c → F i = true → (fb_ct F i < fb_ct F x → sm' (fb_ct F i) = nI (io i)) ∧ (fb_ct F x ≤ fb_ct F i → sm' (fb_ct F i + 1) = nI (io i))
  | 0, a, sm, hf, _, _, _, _ => absurd hf (by omega)
  | f + 1, a, sm, hf, h1, h2, h3, h4 => by
    rw [l_X7_cut_92]
    by_cases z : a = 0
    · have e : fb_ct F x = a := by omega
      have hz : nI a ≤ (0 : Int32) := by rw [z]; decide
      rw [if_pos hz, e]
      exact ⟨sm, rfl, h4⟩
    · obtain ⟨a', rfl⟩ : ∃ a', a = a' + 1 := ⟨a - 1, by omega⟩
      obtain ⟨i, i1, i2, i3⟩ := fb_ct_kth (p := F) (k := a') (n := c) (by omega)
      have hs := (h4 i i1 i2).1 (by omega)
      rw [i3] at hs
      rw [if_neg (nI_nle (by omega) (by omega)), nI_pred, gd_nI (show a' < 400 by omega) (by decide), nI_clamp (show a' < 2 ^ 31 by omega), hs, bd1_eq (ah x i hx i1)]
      by_cases q : x < i
      · have hle : fb_ct F x ≤ a' := by
          have := fb_ct_mono F (show x ≤ i by omega)
          omega
        rw [if_pos q, if_neg (by decide), gd_nI (show a' < 400 by omega) (by decide), nl_e, gd_nI (show a' + 1 < 400 by omega) (by decide), nl_e, pk_m1, nI_clamp (show a' + 1 < 2 ^ 31 by omega)]
        refine ins_loop hc hx hFx hio ah f a' _ (by omega) hle (by omega) h3 fun k k1 k2 => ⟨fun k3 => ?_, fun k3 => ?_⟩
        · rw [pk_un (by omega)]
          exact (h4 k k1 k2).1 (by omega)
        · by_cases y : fb_ct F k = a'
          · have ek : k = i := fb_ct_kth_one k2 i2 (by rw [y, i3])
            rw [y, pk_us, ek]
          · rw [pk_un (by omega)]
            exact (h4 k k1 k2).2 (by omega)
      · have hne : i ≠ x := fun e => by
          rw [e, hFx] at i2
          cases i2
        have hlt := ct_lt i2 (show i < x by omega)
        have e : fb_ct F x = a' + 1 := by omega
        rw [if_neg q, if_pos rfl, e]
        rw [e] at h1
        exact ⟨sm, rfl, h4⟩
/-- what both hold of SAMPLES -/
def CS (c p : Nat) (so io ord : Nat → Nat) (F : Nat → Bool) (sampled sample : Nat → Int32) : Prop := (∀ i, i < 400 → sampled i = if F i then 1 else 0) ∧ (∀ y, F y = true → ∃ j, j < p ∧ so (ord j) = y) ∧ ∀ i, i < c → F i = true → sample (fb_ct F i) = nI (io i)
theorem CS.more {c p p' : Nat} {so io ord : Nat → Nat} {F : Nat → Bool} {sampled sample : Nat → Int32} (h : CS c p so io ord F sampled sample) (hp : p ≤ p') : CS c p' so io ord F sampled sample := ⟨h.1, fun y hy => by
  obtain ⟨j, j1, j2⟩ := h.2.1 y hy
  exact ⟨j, by omega, j2⟩, h.2.2⟩
theorem p_rowIn (N : Nat) {al r i : Nat} {mb rst : Nat → Int32} {b : Nat → Nat} (hal : al ≤ 799) (hst : ∀ r, r ≤ al → rst r = nI (b r)) (hb : ∀ r, r < al → b r ≤ b (r + 1)) (h4 : b al ≤ 4000) (hr : r < al) (hi : i < b (r + 1) - b r) : f_X5_rowIn N mb rst (nI al) (nI r) (nI i) = some (mb (b r + i)) := by
  unfold f_X5_rowIn
  have hm : b (r + 1) ≤ b al := mono_of hb (by omega) (Nat.le_refl _)
  have e : (nI (b (r + 1) - b r) - 1).toInt = ((b (r + 1) - b r : Nat) : Int) - 1 := pk_sub_toInt (b := 1) (by omega) (by omega)
  have e0 : (0 : Int32).toInt = 0 := by decide
  have er : (nI i).toInt = (i : Int) := nI_toInt (by omega)
  rw [bd1_eq (p_sizeOf N hal hst hb hr), bd1_eq (p_isIn N (nI i) 0 _), e, e0, er, if_pos (show (0 : Int) ≤ (i : Int) ∧ (i : Int) ≤ ((b (r + 1) - b r : Nat) : Int) - 1 by omega), if_neg (by decide), gd_nI (show r < 800 by omega) (by decide), nI_clamp (show r < 2 ^ 31 by omega), hst r (by omega), nI_add, gd_nI (show b r + i < 4000 by omega) (by decide), nI_clamp (show b r + i < 2 ^ 31 by omega)]
theorem cut_in {N c n al e : Nat} {b ord so io : Nat → Nat} {S V T Fl sd mb rst bgn msz pool : Nat → Int32} (hN : 1000 ≤ N) (hc : c ≤ 400) (he : 1 ≤ e) (he2 : e ≤ 20) (hn : n ≤ al) (hal : al ≤ 799) (hU : RU al c b ord mb rst bgn msz pool) (hbn : b n = c) (hinj : ∀ i j, i < c → j < c → ord i = ord j → i = j)
    (hso : ∀ r, r < c → so r < c ∧ io (so r) = r) (hio : ∀ i, i < c → io i < c ∧ so (io i) = i) (hsd : ∀ r, r < c → sd r = nI (so r))
    (ah : ∀ i j, i < c → j < c → f_X7_ahead N S V T Fl (nI (io i)) (nI (io j)) = some (if i < j then 1 else 0)) {r : Nat} (hr : r < n) :
    ∀ (f i p : Nat) (F : Nat → Bool) (sampled sample : Nat → Int32), b (r + 1) - b r < i + f ∧ 0 < f → i < 1000 → p ≤ b r + i → p ≤ b (r + 1) → CS c p so io ord F sampled sample →
    ∃ (F' : Nat → Bool) (sampled' sample' : Nat → Int32), l_X0_takeSamples_44 N mb rst sd (nI c) (nI al) (nI e) (nI r) (nI (b (r + 1) - b r)) f (nI i) sampled = some sampled' ∧ l_X7_cut_59 N S V T Fl bgn msz pool (nI e) (nI r) f (nI i) (nI (fb_ct F c)) sample = some (nI (fb_ct F' c), sample') ∧ CS c (b (r + 1)) so io ord F' sampled' sample'
  | 0, i, p, F, sampled, sample, hf, hi, hp, hp2, h => absurd hf.2 (by omega)
  | f + 1, i, p, F, sampled, sample, hf, hi, hp, hp2, h => by
    have hb1 := hU.mono (show r + 1 ≤ n by omega) hn
    have hb2 := hU.2.1 r (by omega)
    obtain ⟨u1, u2, u3, u4, u5, u6⟩ := hU
    have hms := (u4 r (by omega)).2
    have hbg := (u4 r (by omega)).1
    rw [l_X0_takeSamples_44, l_X7_cut_59, gd_nI (show r < 800 by omega) (by decide), nI_clamp (show r < 2 ^ 31 by omega), hms]
    by_cases q : b (r + 1) - b r ≤ i
    · rw [if_pos (nI_le q (by omega)), if_pos (nI_le q (by omega))]
      exact ⟨F, sampled, sample, rfl, rfl, h.more hp2⟩
    · have hj : b r + i < c := by omega
      have hjal : b r + i < b al := by
        have := mono_of u2 (show n ≤ al from hn) (Nat.le_refl _)
        omega
      obtain ⟨o1, o2, o3⟩ := u6 (b r + i) hjal
      have hs := hso (ord (b r + i)) o1
      generalize hx : so (ord (b r + i)) = x at hs
      have hFx : F x = false := by
        cases hF : F x with
        | false => rfl
        | true =>
          obtain ⟨j, j1, j2⟩ := h.2.1 x hF
          have j3 : j < b al := by omega
          have oj := (u6 j j3).1
          have e1 : ord j = ord (b r + i) := by
            rw [← (hso _ oj).2, ← (hso _ o1).2, j2, hx]
          have := hinj j (b r + i) (by omega) hj e1
          omega
      have hm1 : fb_ct F c < 400 := by
        have h1 := setF_gt F hs.1 hFx
        have h2 := fb_ct_le (setF F x) c
        omega
      obtain ⟨sm', s1, s2⟩ := ins_loop (N := N) (io := io) hc hs.1 hFx (fun i hi => (hio i hi).1) ah N (fb_ct F c) sample (by omega) (fb_ct_mono F (by omega)) (Nat.le_refl _) hm1 (fun k k1 k2 => ⟨fun _ => h.2.2 k k1 k2, fun k3 => by
        have := ct_lt k2 k1
        omega⟩)
      rw [hs.2] at s1
      have hax : fb_ct F x ≤ fb_ct F c := fb_ct_mono F (by omega)
      have hst : f_X5_standingOf N sd (nI c) (nI (ord (b r + i))) = some (nI x) := by
        rw [p_standingOf N hc hsd o1, hx]
      have hri : f_X5_rowIn N mb rst (nI al) (nI r) (nI i) = some (nI (ord (b r + i))) := by
        rw [p_rowIn N hal u3 u2 u5 (by omega) (by omega), o2]
      rw [if_neg (nI_ge (by omega) (by omega)), if_neg (nI_ge (by omega) (by omega)), bd1_eq hri, bd1_eq hst, if_neg (nI_ne_m1 (show x < 2 ^ 31 by omega)), gd_nI (show x < 400 by omega) (by decide), nl_e, nI_add, nI_clamp (show x < 2 ^ 31 by omega)]
      rw [gd_nI (show r < 800 by omega) (by decide), hbg, nI_add, gd_nI (show b r + i < 40000 by omega) (by decide), nl_e, nI_clamp (show b r + i < 2 ^ 31 by omega), o3, bd2_eq s1, gd_nI (show fb_ct F x < 400 by omega) (by decide), nl_e, nl_e, nI_clamp (show fb_ct F x < 2 ^ 31 by omega), nI_1]
      have e2 : fb_ct F c + 1 = fb_ct (setF F x) c := (setF_gt F hs.1 hFx).symm
      rw [e2]
      refine cut_in hN hc he he2 hn hal ⟨u1, u2, u3, u4, u5, u6⟩ hbn hinj hso hio hsd ah hr f (i + e) (b r + i + 1) (setF F x) _ _ (by omega) (by omega) (by omega) (by omega) ⟨fun k hk => ?_, fun y hy => ?_, fun k k1 k2 => ?_⟩
      · by_cases z : k = x
        · rw [z, pk_us, setF_s, nb1]
          rfl
        · rw [pk_un z, setF_n F z]
          exact h.1 k hk
      · by_cases z : y = x
        · exact ⟨b r + i, by omega, by rw [hx, z]⟩
        · rw [setF_n F z] at hy
          obtain ⟨j, j1, j2⟩ := h.2.1 y hy
          exact ⟨j, by omega, j2⟩
      · by_cases z : k = x
        · rw [z, setF_le F (Nat.le_refl _), pk_us, hs.2]
        · rw [setF_n F z] at k2
          by_cases y : k < x
          · have hlt := ct_lt k2 y
            rw [setF_le F (by omega), pk_un (by omega)]
            exact (s2 k k1 k2).1 hlt
          · have hge := fb_ct_mono F (show x ≤ k by omega)
            rw [setF_gt F (by omega) hFx, pk_un (by omega)]
            exact (s2 k k1 k2).2 hge
theorem cut_out {N c n al e : Nat} {b ord so io : Nat → Nat} {S V T Fl sd mb rst bgn msz pool : Nat → Int32} (hN : 1000 ≤ N) (hc : c ≤ 400) (he : 1 ≤ e) (he2 : e ≤ 20) (hn : n ≤ al) (hn4 : n ≤ 400) (hal : al ≤ 799) (hU : RU al c b ord mb rst bgn msz pool) (hbn : b n = c) (hinj : ∀ i j, i < c → j < c → ord i = ord j → i = j)
    (hso : ∀ r, r < c → so r < c ∧ io (so r) = r) (hio : ∀ i, i < c → io i < c ∧ so (io i) = i) (hsd : ∀ r, r < c → sd r = nI (so r))
    (ah : ∀ i j, i < c → j < c → f_X7_ahead N S V T Fl (nI (io i)) (nI (io j)) = some (if i < j then 1 else 0)) :
    ∀ (f r : Nat) (F : Nat → Bool) (sampled sample : Nat → Int32), r ≤ n → n - r < f → CS c (b r) so io ord F sampled sample →
    ∃ (F' : Nat → Bool) (sampled' sample' : Nat → Int32), l_X0_takeSamples_24 N mb rst sd (nI c) (nI n) (nI al) (nI e) f (nI r) sampled = some sampled' ∧ l_X7_cut_46 N S V T Fl (nI n) bgn msz pool (nI e) f (nI r) (nI (fb_ct F c)) sample = some (nI (fb_ct F' c), sample') ∧ CS c c so io ord F' sampled' sample'
  | 0, r, F, sampled, sample, _, hf, _ => absurd hf (by omega)
  | f + 1, r, F, sampled, sample, hr, hf, h => by
    rw [l_X0_takeSamples_24, l_X7_cut_46]
    by_cases q : n ≤ r
    · have e1 : r = n := by omega
      rw [if_pos (nI_le q (by omega)), if_pos (nI_le q (by omega))]
      rw [e1, hbn] at h
      exact ⟨F, sampled, sample, rfl, rfl, h⟩
    · have hb1 := hU.mono (show r + 1 ≤ n by omega) hn
      obtain ⟨F1, sampled1, sample1, s1, s2, s3⟩ := cut_in hN hc he he2 hn hal hU hbn hinj hso hio hsd ah (show r < n by omega) N (e - 1) (b r) F sampled sample ⟨by omega, by omega⟩ (by omega) (by omega) (hU.2.1 r (by omega)) h
      rw [if_neg (nI_ge (by omega) (by omega)), if_neg (nI_ge (by omega) (by omega)), bd1_eq (p_sizeOf N hal hU.2.2.1 hU.2.1 (show r < al by omega)), nl_e, nl_e, nI_s1 (show 0 < e by omega), bd1_eq s1, bd2_eq s2, nl_e, nl_e, nI_1]
      exact cut_out hN hc he he2 hn hn4 hal hU hbn hinj hso hio hsd ah f (r + 1) F1 sampled1 sample1 (by omega) (by omega) s3
theorem c_smp2 {N : Nat} : ∀ (f j : Nat) (sp : Nat → Int32), j ≤ 400 → 400 - j < f → (∀ k, k < j → sp k = 0) → ∃ sp', l_X0_takeSamples_2 N f (nI j) sp = some sp' ∧ ∀ k, k < 400 → sp' k = 0
  | 0, j, sp, _, hf, _ => absurd hf (by omega)
  | f + 1, j, sp, hj, hf, h => by
    rw [l_X0_takeSamples_2]
    by_cases q : 400 ≤ j
    · have e : j = 400 := by omega
      have q8 : (400 : Int32) ≤ nI j := nI_le (a := 400) q (by omega)
      rw [if_pos q8]
      rw [e] at h
      exact ⟨sp, rfl, h⟩
    · have q8 : ¬ (400 : Int32) ≤ nI j := nI_ge (b := 400) (by omega) (by decide)
      rw [if_neg q8, gd_nI (show j < 400 by omega) (by decide), nl_e, nI_1, nI_clamp (show j < 2 ^ 31 by omega)]
      refine c_smp2 f (j + 1) _ (by omega) (by omega) fun k hk => ?_
      by_cases z : k = j
      · rw [z, pk_us, nb0]
      · rw [pk_un z]
        exact h k (by omega)
theorem c_smp95 {N : Nat} {F : Nat → Bool} {sampled : Nat → Int32} (h : ∀ i, i < 400 → sampled i = if F i then 1 else 0) : ∀ (f j : Nat) (ss : Nat → Int32), j ≤ 400 → 400 - j < f → (∀ y, y < j → F y = true → ss (fb_ct F y) = nI y) → ∃ ss', l_X0_takeSamples_95 N sampled f (nI j) ss (nI (fb_ct F j)) = some (ss', nI (fb_ct F 400)) ∧ ∀ y, y < 400 → F y = true → ss' (fb_ct F y) = nI y
  | 0, j, ss, _, hf, _ => absurd hf (by omega)
  | f + 1, j, ss, hj, hf, hy => by
    rw [l_X0_takeSamples_95]
    by_cases q : 400 ≤ j
    · have e : j = 400 := by omega
      have q8 : (400 : Int32) ≤ nI j := nI_le (a := 400) q (by omega)
      rw [if_pos q8, e]
      rw [e] at hy
      exact ⟨ss, rfl, hy⟩
    · have q8 : ¬ (400 : Int32) ≤ nI j := nI_ge (b := 400) (by omega) (by decide)
      have hle := fb_ct_le F j
      have hsc := fb_ct_succ F j
      rw [if_neg q8, gd_nI (show j < 400 by omega) (by decide), nI_clamp (show j < 2 ^ 31 by omega), h j (by omega)]
      cases hF : F j with
      | true =>
        rw [hF] at hsc
        have e1 : fb_ct F j + 1 = fb_ct F (j + 1) := by simpa using hsc.symm
        rw [if_neg (by decide), gd_nI (show fb_ct F j < 400 by omega) (by decide), nl_e, nl_e, nI_1, nI_1, nI_clamp (show fb_ct F j < 2 ^ 31 by omega), e1]
        refine c_smp95 h f (j + 1) _ (by omega) (by omega) fun y y1 y2 => ?_
        by_cases z : y = j
        · rw [z, pk_us]
        · have := ct_lt y2 (show y < j by omega)
          rw [pk_un (by omega)]
          exact hy y (by omega) y2
      | false =>
        rw [hF] at hsc
        have e1 : fb_ct F j = fb_ct F (j + 1) := by simpa using hsc.symm
        rw [if_pos (by decide), nl_e, nI_1, e1]
        exact c_smp95 h f (j + 1) _ (by omega) (by omega) fun y y1 y2 => by
          by_cases z : y = j
          · rw [z, hF] at y2
            cases y2
          · exact hy y (by omega) y2
theorem samples_alike {N c n al e : Nat} {b ord so io : Nat → Nat} {S V T Fl sd mb rst bgn msz pool : Nat → Int32} (hN : 1000 ≤ N) (hc : c ≤ 400) (he : 1 ≤ e) (he2 : e ≤ 20) (hn : n ≤ al) (hn4 : n ≤ 400) (hal : al ≤ 799) (hU : RU al c b ord mb rst bgn msz pool) (hbn : b n = c) (hinj : ∀ i j, i < c → j < c → ord i = ord j → i = j)
    (hso : ∀ r, r < c → so r < c ∧ io (so r) = r) (hio : ∀ i, i < c → io i < c ∧ so (io i) = i) (hsd : ∀ r, r < c → sd r = nI (so r))
    (ah : ∀ i j, i < c → j < c → f_X7_ahead N S V T Fl (nI (io i)) (nI (io j)) = some (if i < j then 1 else 0)) (sampled ss sample : Nat → Int32) :
    ∃ (m : Nat) (sq : Nat → Nat) (sampled' ss' sample' : Nat → Int32), f_X0_takeSamples N mb rst sd (nI c) (nI n) (nI al) sampled ss 0 (nI e) = some (sampled', ss', nI m) ∧ l_X7_cut_46 N S V T Fl (nI n) bgn msz pool (nI e) N 0 0 sample = some (nI m, sample') ∧ m ≤ c ∧ (∀ q, q < m → sq q < c ∧ ss' q = nI (sq q) ∧ sample' q = nI (io (sq q))) ∧ ∀ q q', q < q' → q' < m → sq q < sq q' := by
  obtain ⟨sp1, a1, a2⟩ := c_smp2 (N := N) N 0 sampled (by omega) (by omega) (fun k hk => absurd hk (by omega))
  have hz : ∀ k, fb_ct (fun _ => false) k = 0 := fun k => fb_ct_zero.mpr fun j _ => rfl
  obtain ⟨F, sp2, sample', b1, b2, b3⟩ := cut_out hN hc he he2 hn hn4 hal hU hbn hinj hso hio hsd ah N 0 (fun _ => false) sp1 sample (by omega) (by omega) ⟨fun i hi => a2 i hi, fun y hy => (nomatch hy), fun i _ hi => (nomatch hi)⟩
  rw [hz c] at b2
  have hFc : ∀ y, F y = true → y < c := fun y hy => by
    obtain ⟨j, j1, j2⟩ := b3.2.1 y hy
    have hj : j < b al := by
      have := hU.mono hn (Nat.le_refl _)
      omega
    rw [← j2]
    exact (hso _ (hU.2.2.2.2.2 j hj).1).1
  have e4 : fb_ct F 400 = fb_ct F c := by
    have h1 := fb_ct_split F c (400 - c)
    have h2 : fb_ct (fun k => F (c + k)) (400 - c) = 0 := fb_ct_zero.mpr fun k _ => by
      cases hF : F (c + k) with
      | false => rfl
      | true =>
        have := hFc _ hF
        omega
    have h3 : c + (400 - c) = 400 := by omega
    rw [h3, h2] at h1
    omega
  obtain ⟨ss', d1, d2⟩ := c_smp95 (N := N) b3.1 N 0 ss (by omega) (by omega) (fun y hy => absurd hy (by omega))
  rw [e4] at d1
  have a1' : l_X0_takeSamples_2 N N 0 sampled = some sp1 := a1
  have b1' : l_X0_takeSamples_24 N mb rst sd (nI c) (nI n) (nI al) (nI e) N 0 sp1 = some sp2 := b1
  have d1' : l_X0_takeSamples_95 N sp2 N 0 ss 0 = some (ss', nI (fb_ct F c)) := d1
  have key : ∀ q, q < fb_ct F c → ∃ i, i < c ∧ F i = true ∧ fb_ct F i = q ∧ ss' q = nI i := fun q hq => by
    obtain ⟨i, i1, i2, i3⟩ := fb_ct_kth hq
    refine ⟨i, i1, i2, i3, ?_⟩
    rw [← i3]
    exact d2 i (by omega) i2
  refine ⟨fb_ct F c, fun q => (ss' q).toNatClampNeg, sp2, ss', sample', ?_, b2, fb_ct_le F c, fun q hq => ?_, fun q q' h1 h2 => ?_⟩
  · unfold f_X0_takeSamples
    rw [bd1_eq a1', bd1_eq b1', bd2_eq d1']
  · obtain ⟨i, i1, i2, i3, i4⟩ := key q hq
    have e5 : (ss' q).toNatClampNeg = i := by
      rw [i4]
      exact nI_clamp (by omega)
    show (ss' q).toNatClampNeg < c ∧ ss' q = nI (ss' q).toNatClampNeg ∧ sample' q = nI (io (ss' q).toNatClampNeg)
    rw [e5]
    refine ⟨i1, i4, ?_⟩
    rw [← i3]
    exact b3.2.2 i i1 i2
  · obtain ⟨i, i1, i2, i3, i4⟩ := key q (by omega)
    obtain ⟨k, k1, k2, k3, k4⟩ := key q' h2
    show (ss' q).toNatClampNeg < (ss' q').toNatClampNeg
    rw [i4, k4, nI_clamp (by omega), nI_clamp (by omega)]
    rcases Nat.lt_or_ge i k with z | z
    · exact z
    · have := fb_ct_mono F z
      omega
