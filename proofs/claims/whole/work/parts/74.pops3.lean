/-! CALLS on RUNS, THE PLAN, THE QUEUE and MERGES: both answer alike. My own text. -/
theorem RU_of {c rn rm : Nat} {lst : Option Nat} {P hr bg ord : Nat → Nat} {items : Nat → Int64} {mb st bgn sz pool hp : Nat → Int32} (hc : c ≤ 400) (J : RJ c rm 0 c c rn lst hr bg ord) (C : RC P 0 c rn lst hr bg ord items mb st) (M : RM 0 c rn hr bg ord bgn sz pool hp) (hn : 0 < rn) : RU rn c (fun r => if r < rn then bg r else c) ord mb st bgn sz pool := by
  obtain ⟨j1, j2, j3, j4, j5, j6, j7, j8, j9, j10, j11, j12, j13, j14, j15⟩ := J
  obtain ⟨c1, c2, c3, c4⟩ := C
  obtain ⟨m1, m2, m3, m4, m5⟩ := M
  have hl : ∀ r, r < rn → (fun r => if r < rn then bg r else c) r = bg r := fun r hr => if_pos hr
  have hge : ∀ r, rn ≤ r → (fun r => if r < rn then bg r else c) r = c := fun r hr => if_neg (by omega)
  refine ⟨by rw [hl 0 hn]; exact j13 hn, fun r hr => ?_, fun r hr => ?_, fun r hr => ?_, by rw [hge rn (Nat.le_refl _)]; omega, fun j hj => ?_⟩
  · rw [hl r hr]
    by_cases q : r + 1 < rn
    · rw [hl _ q]
      have := j14 r q
      omega
    · rw [hge _ (by omega)]
      have := j15 hn
      have e : rn - 1 = r := by omega
      rw [e] at this
      omega
  · by_cases q : r < rn
    · rw [hl r q]
      exact c3 r q
    · have e : r = rn := by omega
      rw [hge r (by omega), e]
      exact c4 hn
  · rw [hl r hr]
    refine ⟨m3 r hr, ?_⟩
    by_cases q : r + 1 < rn
    · rw [hl _ q]
      exact m4 r q
    · rw [hge _ (by omega)]
      have := m5 hn
      have e : rn - 1 = r := by omega
      rw [e] at this
      exact this
  · rw [hge rn (Nat.le_refl _)] at hj
    exact ⟨j8 j hj, c2 j hj, m2 j hj⟩
theorem st_runs {N cn : Nat} (hN : 1000 ≤ N) {S V T F : Nat → Int32} (h : rOK cn S V T F) (items : Nat → Int64) (size : Int32) (mb rst inO sd : Nat → Int32) (x1 x2 x3 x4 y1 y2 : Int32) (g : Nat → Int32) (a1 a2 a3 a4 a5 a6 : Int32) (m1 m2 m3 : Int32) (bgn msz pool : Nat → Int32) (m4 m5 m6 m7 m8 : Int32) (hp : Nat → Int32) (v1 : Int32) :
    (∃ r, f_X6_runs N S V T F (nI cn) items size mb rst inO sd x1 x2 x3 x4 y1 y2 g a1 a2 a3 a4 a5 a6 v1 = some (r, items, size, mb, rst, inO, sd, x1, x2, x3, x4, y1, y2, g, a1, a2, a3, a4, a5, a6) ∧ f_X7_runs N S V (nI cn) T F m1 m2 m3 bgn msz pool m4 m5 m6 m7 m8 hp v1 = some (r, m1, m2, m3, bgn, msz, pool, m4, m5, m6, m7, m8, hp)) ∨
    (∃ (n : Nat) (b ord io so : Nat → Nat) (items' : Nat → Int64) (size' : Int32) (mb' rst' inO' sd' g' bgn' msz' pool' hp' : Nat → Int32), f_X6_runs N S V T F (nI cn) items size mb rst inO sd x1 x2 x3 x4 y1 y2 g a1 a2 a3 a4 a5 a6 v1 = some (nI n, items', size', mb', rst', inO', sd', nI cn, nI n, nI n, nI cn, 0, 0, g', 0, 0, 0, 0, 0, 0) ∧ f_X7_runs N S V (nI cn) T F m1 m2 m3 bgn msz pool m4 m5 m6 m7 m8 hp v1 = some (nI n, (if n = 0 then 0 else 1), nI n, nI n, bgn', msz', pool', nI cn, -1, 0, 0, 0, hp') ∧ IR cn n cn n b ord io so S V T F mb' rst' inO' sd' (nI cn) (nI n) (nI n) (if n = 0 then 0 else 1) (nI n) (nI n) bgn' msz' pool' ∧ ∀ k, k < 8 → g' k = 0) := by
  have hc := h.1
  have l1 : (1 : Int32).toInt = 1 := by decide
  have l40 : (40 : Int32).toInt = 40 := by decide
  unfold f_X6_runs f_X7_runs
  simp only [p_isIn, p_is, bd1_s, ite_b, l1, l40]
  by_cases q : 1 ≤ v1.toInt ∧ v1.toInt ≤ 40
  · refine Or.inr ?_
    rw [if_pos q, if_pos q]
    obtain ⟨rm, rm1, rfl⟩ := of_rng (k := 41) (show 0 ≤ v1.toInt by omega) (by omega) (by decide)
    rw [nI_toInt (by omega)] at q
    obtain ⟨g', f1, f2⟩ := p_forgetRuns hN g x1 x2 x3 x4 y1 y2 a1 a2 a3 a4 a5 a6
    obtain ⟨rn, lst, hr, bg, ord, io, so, items', mb', st', inO', sd', bgn', sz', pool', hp0, hp', r1, r2, r3, r4, r5, r6, r7, r8, r9⟩ := runs_alike hN h (fun a b ha hb => p_ahead N h ha hb) (show 0 < rm by omega) (show rm ≤ 40 by omega) items size 0 0 mb rst inO sd bgn msz pool hp
    have hrn : rn ≤ cn := r7.2.2.2.2.1
    rw [bd13_eq f1, bd10_eq r1, bd3_eq r2, bd6_eq r3]
    refine ⟨rn, fun r => if r < rn then bg r else cn, ord, io, so, items', nI 0, mb', st', inO', sd', g', bgn', sz', pool', hp', rfl, ?_, ⟨rfl, rfl, rfl, rfl, rfl, rfl, Nat.le_refl _, by omega, by omega, Nat.le_refl _, fun z => ⟨z, ?_⟩, fun hn => ⟨?_, if_neg (by omega), RU_of hc r7 r8 r9 hn, r7.2.2.2.2.2.2.2.2.1, r4, r5, r6⟩⟩, f2⟩
    · by_cases z : rn = 0
      · rw [z, if_pos (by decide), if_pos rfl]
      · rw [if_neg (nI_nle (by omega) (by omega)), if_neg z]
    · have j12 := r7.2.2.2.2.2.2.2.2.2.2.2.1
      rcases Nat.eq_zero_or_pos cn with w | w
      · exact w
      · have := j12 w
        omega
    · have j5 := r7.2.2.2.2.1
      omega
  · refine Or.inl ?_
    rw [if_neg q, if_neg q]
    exact ⟨_, rfl, rfl⟩
theorem st_length (N : Nat) {cn n c al : Nat} {b ord io so : Nat → Nat} {S V T F mb rst inO sd : Nat → Int32} {rIn rMade rA mMade mRuns mAll : Int32} {bgn msz pool : Nat → Int32} (h : IR cn n c al b ord io so S V T F mb rst inO sd rIn rMade rA mMade mRuns mAll bgn msz pool) (v1 : Int32) : ∃ r, f_X6_length N rst rA v1 = some r ∧ f_X7_length N mAll msz v1 = some r := by
  obtain ⟨h1, h2, h3, h4, rfl, rfl, h7, h8, h9, h10, h11, h12⟩ := h
  have l0 : (0 : Int32).toInt = 0 := by decide
  unfold f_X6_length f_X7_length
  rw [bd1_eq (p_rhas N h8 v1), ite_b]
  by_cases q : 0 ≤ v1.toInt ∧ v1.toInt < al
  · rw [if_pos q]
    obtain ⟨r, r1, rfl⟩ := of_rng q.1 q.2 (by omega)
    have hn : 0 < n := by
      rcases Nat.eq_zero_or_pos n with w | w
      · have := (h11 w).1
        omega
      · exact w
    obtain ⟨-, -, hU, -⟩ := h12 hn
    rw [bd1_eq (p_sizeOf N h8 hU.2.2.1 hU.2.1 r1), if_neg (nI_pos (by omega)), if_pos (nI_lt r1 (by omega)), gd_nI (show r < 800 by omega) (by decide), nI_clamp (by omega), (hU.2.2.2.1 r r1).2]
    exact ⟨_, rfl, rfl⟩
  · rw [if_neg q]
    by_cases z : v1 < 0
    · rw [if_pos z]
      exact ⟨_, rfl, rfl⟩
    · have hz : ¬ v1 < nI al := fun e => by
        rw [i32_lt, l0] at z
        rw [i32_lt, nI_toInt (by omega)] at e
        omega
      rw [if_neg z, if_neg hz]
      exact ⟨_, rfl, rfl⟩
theorem st_at (N : Nat) {cn n c al : Nat} {b ord io so : Nat → Nat} {S V T F mb rst inO sd : Nat → Int32} {rIn rMade rA mMade mRuns mAll : Int32} {bgn msz pool : Nat → Int32} (h : IR cn n c al b ord io so S V T F mb rst inO sd rIn rMade rA mMade mRuns mAll bgn msz pool) (v1 v2 : Int32) : ∃ r, f_X6_at N mb rst rA v1 v2 = some r ∧ f_X7_at N mAll bgn msz pool v1 v2 = some r := by
  obtain ⟨h1, h2, h3, h4, rfl, rfl, h7, h8, h9, h10, h11, h12⟩ := h
  have l0 : (0 : Int32).toInt = 0 := by decide
  unfold f_X6_at f_X7_at
  by_cases q : 0 ≤ v1.toInt ∧ v1.toInt < al
  · obtain ⟨r, r1, rfl⟩ := of_rng q.1 q.2 (by omega)
    have hn : 0 < n := by
      rcases Nat.eq_zero_or_pos n with w | w
      · have := (h11 w).1
        omega
      · exact w
    obtain ⟨-, -, hU, -⟩ := h12 hn
    have hm := hU.mono (show r + 1 ≤ al by omega) (Nat.le_refl _)
    obtain ⟨u1, u2, u3, u4, u5, u6⟩ := hU
    rw [if_neg (nI_pos (show r < 2 ^ 31 by omega)), if_neg (nI_ge r1 (by omega)), gd_nI (show r < 800 by omega) (by decide), nI_clamp (show r < 2 ^ 31 by omega), (u4 r r1).2, (u4 r r1).1]
    by_cases q2 : 0 ≤ v2.toInt ∧ v2.toInt < ((b (r + 1) - b r : Nat) : Int)
    · obtain ⟨i, i1, rfl⟩ := of_rng q2.1 q2.2 (by omega)
      rw [p_rowIn N h8 u3 u2 u5 r1 i1, bd1_s, if_neg (nI_pos (show i < 2 ^ 31 by omega)), if_pos (nI_lt i1 (by omega)), gd_nI (show r < 800 by omega) (by decide), nI_add, gd_nI (show b r + i < 40000 by omega) (by decide), nI_clamp (show b r + i < 2 ^ 31 by omega)]
      obtain ⟨-, o2, o3⟩ := u6 (b r + i) (by omega)
      rw [o2, o3]
      exact ⟨_, rfl, rfl⟩
    · have e1 : f_X5_rowIn N mb rst (nI al) (nI r) v2 = some (-1) := by
        unfold f_X5_rowIn
        have e : (nI (b (r + 1) - b r) - 1).toInt = ((b (r + 1) - b r : Nat) : Int) - 1 := pk_sub_toInt (b := 1) (by omega) (by omega)
        rw [bd1_eq (p_sizeOf N h8 u3 u2 r1), bd1_eq (p_isIn N v2 0 _), e, l0, ite_b, if_neg (by omega)]
      rw [e1, bd1_s]
      by_cases z : v2 < 0
      · rw [if_pos z]
        exact ⟨_, rfl, rfl⟩
      · have hz : ¬ v2 < nI (b (r + 1) - b r) := fun e => by
          rw [i32_lt, l0] at z
          rw [i32_lt, nI_toInt (by omega)] at e
          omega
        rw [if_neg z, if_neg hz]
        exact ⟨_, rfl, rfl⟩
  · have e1 : f_X5_rowIn N mb rst (nI al) v1 v2 = some (-1) := by
      have s0 : f_X5_sizeOf N rst (nI al) v1 = some 0 := by
        unfold f_X5_sizeOf
        rw [bd1_eq (p_rhas N h8 v1), ite_b, if_neg q]
      have e : ((0 : Int32) - 1).toInt = -1 := by decide
      unfold f_X5_rowIn
      rw [bd1_eq s0, bd1_eq (p_isIn N v2 0 _), e, l0, ite_b, if_neg (by omega)]
    rw [e1, bd1_s]
    by_cases z : v1 < 0
    · rw [if_pos z]
      exact ⟨_, rfl, rfl⟩
    · have hz : nI al ≤ v1 := by
        rw [i32_lt, l0] at z
        rw [i32_le, nI_toInt (by omega)]
        omega
      rw [if_neg z, if_pos hz]
      exact ⟨_, rfl, rfl⟩
/-- what holds of THE PLAN between calls -/
def IP (n mg : Nat) (b : Nat → Nat) (tr st : Nat → Int32) (pm pt mw mm : Int32) (tks tkn : Nat → Int32) : Prop := pm = nI mg ∧ mm = nI mg ∧ st 0 = nI 0 ∧ mg < 400 ∧ ((pt = 0 ∧ mw = -1 ∧ mg = 0) ∨ (pt = 1 ∧ mw ≠ -1 ∧ 0 < n ∧ ∃ (a : Nat) (pl : Nat → Nat), PL n mg a pl tr st tks tkn ∧ a ≤ 799 ∧ n + mg ≤ 799 ∧ (∀ r, r < n → pl r = b (r + 1) - b r) ∧ fb_sm (fun x => pl (n + x)) mg ≤ 3600))
theorem st_takes (N : Nat) {n mg : Nat} {b : Nat → Nat} {tr st tks tkn : Nat → Int32} {pm pt mw mm : Int32} (h : IP n mg b tr st pm pt mw mm tks tkn) (v1 v2 : Int32) : ∃ r, f_X6_takes N tr st pm v1 v2 = some r ∧ f_X7_takes N mm tks tkn v1 v2 = some r := by
  obtain ⟨rfl, rfl, h3, h4, h5⟩ := h
  have l0 : (0 : Int32).toInt = 0 := by decide
  have em : (nI mg - 1).toInt = (mg : Int) - 1 := pk_sub_toInt (b := 1) (by omega) (by omega)
  unfold f_X6_takes f_X7_takes
  by_cases q : 0 ≤ v1.toInt ∧ v1.toInt < mg
  · obtain ⟨x, x1, rfl⟩ := of_rng q.1 q.2 (by omega)
    obtain ⟨a, pl, hP, ha, hnm⟩ : ∃ (a : Nat) (pl : Nat → Nat), PL n mg a pl tr st tks tkn ∧ a ≤ 799 ∧ n + mg ≤ 799 := by
      rcases h5 with ⟨-, -, z⟩ | ⟨-, -, -, a, pl, p1, p2, p3, -⟩
      · omega
      · exact ⟨a, pl, p1, p2, p3⟩
    obtain ⟨a0, w, p1, p2, p3, p4, p5, p6, p7, p8⟩ := hP.2.2 x x1
    rw [if_neg (nI_pos (show x < 2 ^ 31 by omega)), if_neg (nI_ge x1 (by omega)), gd_nI (show x < 400 by omega) (by decide), nI_clamp (show x < 2 ^ 31 by omega), p3]
    by_cases q2 : 0 ≤ v2.toInt ∧ v2.toInt < w
    · obtain ⟨j, j1, rfl⟩ := of_rng q2.1 q2.2 (by omega)
      obtain ⟨r, r1, r2, r3⟩ := p7 j j1
      rw [p_taken N x1 (by omega) p1 p2 (by omega) j1, bd1_s, if_neg (nI_pos (show j < 2 ^ 31 by omega)), if_pos (nI_lt j1 (by omega)), mul8, gd_nI (show 8 * x + j < 3200 by omega) (by decide), nI_clamp (show 8 * x + j < 2 ^ 31 by omega), r2, r3]
      exact ⟨_, rfl, rfl⟩
    · have e1 : f_X3_taken N tr st (nI mg) (nI x) v2 = some (-1) := by
        unfold f_X3_taken
        have e : (nI w - 1).toInt = (w : Int) - 1 := pk_sub_toInt (b := 1) (by omega) (by omega)
        rw [bd1_eq (p_waysIn N x1 (by omega) p1 p2), bd1_eq (p_isIn N v2 0 _), e, l0, ite_b, if_neg (by omega)]
      rw [e1, bd1_s]
      by_cases z : v2 < 0
      · rw [if_pos z]
        exact ⟨_, rfl, rfl⟩
      · have hz : ¬ v2 < nI w := fun e => by
          rw [i32_lt, l0] at z
          rw [i32_lt, nI_toInt (by omega)] at e
          omega
        rw [if_neg z, if_neg hz]
        exact ⟨_, rfl, rfl⟩
  · have e1 : f_X3_taken N tr st (nI mg) v1 v2 = some (-1) := by
      have s0 : f_X3_waysIn N st (nI mg) v1 = some 0 := by
        unfold f_X3_waysIn
        rw [bd1_eq (p_isIn N v1 0 _), em, l0, ite_b, if_neg (by omega)]
      have e : ((0 : Int32) - 1).toInt = -1 := by decide
      unfold f_X3_taken
      rw [bd1_eq s0, bd1_eq (p_isIn N v2 0 _), e, l0, ite_b, if_neg (by omega)]
    rw [e1, bd1_s]
    by_cases z : v1 < 0
    · rw [if_pos z]
      exact ⟨_, rfl, rfl⟩
    · have hz : nI mg ≤ v1 := by
        rw [i32_lt, l0] at z
        rw [i32_le, nI_toInt (by omega)]
        omega
      rw [if_neg z, if_pos hz]
      exact ⟨_, rfl, rfl⟩
