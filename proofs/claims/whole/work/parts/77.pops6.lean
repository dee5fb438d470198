/-! CALLS on PARTS, HOSTS, TICKS and THE END: both answer alike. My own text. -/
theorem p_stands (N : Nat) {p : Nat} (hp : p ≤ 8) : f_X0_stands N (nI p) = some (if 0 < p then 1 else 0) := by
  unfold f_X0_stands
  by_cases z : 0 < p
  · rw [if_neg (nI_nle z (by omega)), if_pos z]
    rfl
  · have e : p = 0 := by omega
    rw [e]
    decide
theorem p0_iff {p : Nat} (hp : p ≤ 8) : nI p = 0 ↔ ¬ 0 < p := by
  constructor
  · intro e z
    exact nI_ne0 z (by omega) e
  · intro z
    have e : p = 0 := by omega
    rw [e]
    rfl
theorem p_isHost6 (N : Nat) (v : Int32) : f_X6_isHost N v = some (if 0 ≤ v.toInt ∧ v.toInt < 8 then 1 else 0) := by
  unfold f_X6_isHost
  have l0 : (0 : Int32).toInt = 0 := by decide
  have l7 : (7 : Int32).toInt = 7 := by decide
  rw [bd1_eq (p_isIn N v 0 7), gd_bi, l0, l7]
  by_cases h : 0 ≤ v.toInt ∧ v.toInt < 8
  · rw [if_pos h, if_pos (by omega)]
  · rw [if_neg h, if_neg (by omega)]
theorem p_isHost7 (N : Nat) (v : Int32) : f_X7_isHost N v = some (if 0 ≤ v.toInt ∧ v.toInt < 8 then 1 else 0) := by
  unfold f_X7_isHost
  have l0 : (0 : Int32).toInt = 0 := by decide
  have l8 : (8 : Int32).toInt = 8 := by decide
  by_cases h1 : v < 0
  · rw [if_pos h1, gd_b0, if_neg]
    rw [i32_lt, l0] at h1
    omega
  · rw [if_neg h1]
    rw [i32_lt, l0] at h1
    by_cases h2 : (8 : Int32) ≤ v
    · rw [if_pos h2, gd_b0, if_neg]
      rw [i32_le, l8] at h2
      omega
    · rw [if_neg h2, gd_b1, if_pos]
      rw [i32_le, l8] at h2
      omega
section
variable {n p : Nat} {s : Nat → Nat} {sz en ln mg rc dn hb : Nat → Int32} {cp csm cb ct ca cg : Int32} {mp me msm : Int32} {en2 sz2 mg2 ms2 dn2 on2 : Nat → Int32} {mt ma mag : Int32} {hb2 : Nat → Int32}
theorem st_bound (N : Nat) (h : IC n p s sz en ln mg rc dn hb cp csm cb ct ca cg mp me msm en2 sz2 mg2 ms2 dn2 on2 mt ma mag hb2) : ∃ r, f_X6_bound N cp cb = some r ∧ f_X7_bound N (nI n) mp me msm = some r := by
  obtain ⟨rfl, rfl, h3, h4, h5, h6, -, -, -, -, -, -, -, -, -, h16⟩ := h
  unfold f_X6_bound f_X7_bound
  rw [bd1_eq (p_stands N h3), ite_b]
  by_cases z : 0 < p
  · rw [if_pos z, if_neg (fun e => (p0_iff h3).mp e z), gd_nz z (by omega), (h16 z).1]
    exact ⟨_, rfl, rfl⟩
  · rw [if_neg z, if_pos ((p0_iff h3).mpr z)]
    exact ⟨_, rfl, rfl⟩
theorem st_part (N : Nat) (h : IC n p s sz en ln mg rc dn hb cp csm cb ct ca cg mp me msm en2 sz2 mg2 ms2 dn2 on2 mt ma mag hb2) (v1 v2 : Int32) : ∃ r, f_X6_part N sz en ln mg cp v1 v2 = some r ∧ f_X7_part N mp en2 sz2 mg2 on2 v1 v2 = some r := by
  obtain ⟨rfl, rfl, h3, h4, h5, h6, a1, -, a2, a3, a4, -⟩ := h
  have l0 : (0 : Int32).toInt = 0 := by decide
  have ep : (nI p - 1).toInt = (p : Int) - 1 := pk_sub_toInt (b := 1) (by omega) (by omega)
  unfold f_X6_part f_X7_part
  rw [bd1_eq (p_isIn N v1 0 _), ite_b, ep, l0]
  by_cases q : 0 ≤ v1.toInt ∧ v1.toInt < p
  · rw [if_pos (show 0 ≤ v1.toInt ∧ v1.toInt ≤ (p : Int) - 1 by omega)]
    obtain ⟨j, j1, rfl⟩ := of_rng q.1 q.2 (by omega)
    have gj : ∀ {β : Type} {X : Option β}, gd (ix (nI j) 8) X = X := gd_nI (by omega) (by decide)
    rw [if_neg (nI_pos (show j < 2 ^ 31 by omega)), if_pos (nI_lt j1 (by omega))]
    simp only [gj]
    rw [nI_clamp (show j < 2 ^ 31 by omega), a1 j j1, a2 j j1, a3 j j1, a4 j j1]
    by_cases z0 : v2 = 0
    · rw [if_pos z0]
      exact ⟨_, rfl, rfl⟩
    · by_cases z1 : v2 = 1
      · rw [if_neg z0, if_pos z1]
        exact ⟨_, rfl, rfl⟩
      · by_cases z2 : v2 = 2
        · rw [if_neg z0, if_neg z1, if_pos z2]
          exact ⟨_, rfl, rfl⟩
        · by_cases z3 : v2 = 3
          · rw [if_neg z0, if_neg z1, if_neg z2, if_pos z3]
            exact ⟨_, rfl, rfl⟩
          · rw [if_neg z0, if_neg z1, if_neg z2, if_neg z3]
            exact ⟨_, rfl, rfl⟩
  · rw [if_neg (show ¬ (0 ≤ v1.toInt ∧ v1.toInt ≤ (p : Int) - 1) by omega)]
    by_cases z : v1 < 0
    · rw [if_pos z]
      exact ⟨_, rfl, rfl⟩
    · have hz : ¬ v1 < nI p := fun e => by
        rw [i32_lt, l0] at z
        rw [i32_lt, nI_toInt (by omega)] at e
        omega
      rw [if_neg z, if_neg hz]
      exact ⟨_, rfl, rfl⟩
theorem st_pace (N : Nat) {pc up pc2 up2 : Nat → Int32} (h : IO pc up pc2 up2) (v1 v2 : Int32) : ∃ (r : Int32) (pc' pc2' : Nat → Int32), f_X6_pace N pc v1 v2 = some (r, pc') ∧ f_X7_pace N pc2 v1 v2 = some (r, pc2') ∧ IO pc' up pc2' up2 := by
  have l0 : (0 : Int32).toInt = 0 := by decide
  have l50 : (50 : Int32).toInt = 50 := by decide
  unfold f_X6_pace f_X7_pace
  simp only [p_isHost6, p_isHost7, p_isIn, p_is, bd1_s, ite_b, l0, l50, gd_b0, gd_b1]
  by_cases q : 0 ≤ v1.toInt ∧ v1.toInt < 8
  · rw [if_pos q, if_pos q]
    by_cases q2 : 0 ≤ v2.toInt ∧ v2.toInt ≤ 50
    · rw [if_pos q2, if_pos q2]
      obtain ⟨j, j1, rfl⟩ := of_rng (k := 8) q.1 q.2 (by decide)
      obtain ⟨x, x1, rfl⟩ := of_rng (k := 51) q2.1 (by omega) (by decide)
      rw [gd_nI j1 (by decide), gd_nI j1 (by decide), nI_clamp (by omega)]
      refine ⟨_, _, _, rfl, rfl, h.1.upd j _, h.2.1, fun k hk => ?_⟩
      by_cases z : k = j
      · rw [z, pk_us]
        exact ⟨x, rfl, by omega⟩
      · rw [pk_un z]
        exact h.2.2 k hk
    · rw [if_neg q2, if_neg q2]
      exact ⟨_, _, _, rfl, rfl, h⟩
  · rw [if_neg q, if_neg q]
    exact ⟨_, _, _, rfl, rfl, h⟩
theorem st_fall {N : Nat} (hN : 1000 ≤ N) (h : IC n p s sz en ln mg rc dn hb cp csm cb ct ca cg mp me msm en2 sz2 mg2 ms2 dn2 on2 mt ma mag hb2) {pc up pc2 up2 : Nat → Int32} (hO : IO pc up pc2 up2) (v1 : Int32) : ∃ (r : Int32) (ln' mg' dn' up' mg2' dn2' on2' up2' : Nat → Int32), f_X6_fall N sz ln mg dn cp up v1 = some (r, ln', mg', dn', up') ∧ f_X7_fall N mp sz2 mg2 dn2 on2 up2 v1 = some (r, mg2', dn2', on2', up2') ∧ IC n p s sz en ln' mg' rc dn' hb cp csm cb ct ca cg mp me msm en2 sz2 mg2' ms2 dn2' on2' mt ma mag hb2 ∧ IO pc up' pc2 up2' := by
  have hh := h
  obtain ⟨rfl, rfl, h3, h4, h5, h6, a1, a0, a2, a3, a4, a5, a6, a7, a8, a9⟩ := h
  unfold f_X6_fall f_X7_fall
  simp only [p_isHost6, p_isHost7, bd1_s, ite_b]
  by_cases q : 0 ≤ v1.toInt ∧ v1.toInt < 8
  · rw [if_pos q, if_pos q]
    obtain ⟨j, j1, rfl⟩ := of_rng (k := 8) q.1 q.2 (by decide)
    have gj : ∀ {β : Type} {X : Option β}, gd (ix (nI j) 8) X = X := gd_nI j1 (by decide)
    simp only [gj]
    rw [nI_clamp (show j < 2 ^ 31 by omega), ← hO.2.1 j j1]
    by_cases u : up j = 0
    · rw [if_pos u, if_pos u]
      exact ⟨_, _, _, _, _, _, _, _, _, rfl, rfl, hh, hO⟩
    · obtain ⟨mv, ln', mg', dn', ln2', mg2', dn2', r1, r2, r3, r4, r5, r6⟩ := move_alike (N := N) hN h3 j1 (up := upd up j (vp_nar .boolean 0)) (up2 := upd up2 j (vp_nar .boolean 0)) (hO.2.1.upd j _) (by rw [pk_us, nb0]) a1 (qM s) (fun i => ⟨0, rfl, Nat.zero_le _⟩) a3 a4 a6 a7
      rw [if_neg u, if_neg u, bd4_eq r1, bd4_eq r2]
      exact ⟨_, _, _, _, _, _, _, _, _, rfl, rfl, ⟨rfl, rfl, h3, h4, h5, h6, a1, a0, a2, r3, r4, a5, r5, r6, a8, a9⟩, hO.1, hO.2.1.upd j _, hO.2.2⟩
  · rw [if_neg q, if_neg q]
    exact ⟨_, _, _, _, _, _, _, _, _, rfl, rfl, hh, hO⟩
theorem st_rise {N : Nat} (hN : 1000 ≤ N) (h : IC n p s sz en ln mg rc dn hb cp csm cb ct ca cg mp me msm en2 sz2 mg2 ms2 dn2 on2 mt ma mag hb2) {pc up pc2 up2 : Nat → Int32} (hO : IO pc up pc2 up2) (v1 : Int32) : ∃ (r : Int32) (ln' up' on2' up2' : Nat → Int32), f_X6_rise N ln cp up v1 = some (r, ln', up') ∧ f_X7_rise N mp on2 up2 v1 = some (r, on2', up2') ∧ IC n p s sz en ln' mg rc dn hb cp csm cb ct ca cg mp me msm en2 sz2 mg2 ms2 dn2 on2' mt ma mag hb2 ∧ IO pc up' pc2 up2' := by
  have hh := h
  obtain ⟨rfl, rfl, h3, h4, h5, h6, a1, a0, a2, a3, a4, a5, a6, a7, a8, a9⟩ := h
  unfold f_X6_rise f_X7_rise
  simp only [p_isHost6, p_isHost7, bd1_s, ite_b]
  by_cases q : 0 ≤ v1.toInt ∧ v1.toInt < 8
  · rw [if_pos q, if_pos q]
    obtain ⟨j, j1, rfl⟩ := of_rng (k := 8) q.1 q.2 (by decide)
    have gj : ∀ {β : Type} {X : Option β}, gd (ix (nI j) 8) X = X := gd_nI j1 (by decide)
    simp only [gj]
    rw [nI_clamp (show j < 2 ^ 31 by omega), ← hO.2.1 j j1]
    by_cases u : up j = 0
    · obtain ⟨mv, ln', ln2', r1, r2, r3⟩ := p_rise_loop (N := N) h3 (nI j) N 0 0 ln on2 (by omega) (by omega) a3
      have r1' : f_X0_bringTo N ln (nI p) (nI j) = some (mv, ln') := by
        unfold f_X0_bringTo
        have e : l_X0_bringTo_4 N (nI p) (nI j) N 0 0 ln = some (mv, ln') := r1
        rw [bd2_eq e]
      have r2' : l_X7_rise_29 N (nI p) (nI j) N 0 0 on2 = some (mv, ln2') := r2
      rw [if_pos u, if_pos u, bd2_eq r1', bd2_eq r2']
      exact ⟨_, _, _, _, _, rfl, rfl, ⟨rfl, rfl, h3, h4, h5, h6, a1, a0, a2, r3, a4, a5, a6, a7, a8, a9⟩, hO.1, hO.2.1.upd j _, hO.2.2⟩
    · rw [if_neg u, if_neg u]
      exact ⟨_, _, _, _, _, rfl, rfl, hh, hO⟩
  · rw [if_neg q, if_neg q]
    exact ⟨_, _, _, _, _, rfl, rfl, hh, hO⟩
theorem st_host {N : Nat} (hN : 1000 ≤ N) (h : IC n p s sz en ln mg rc dn hb cp csm cb ct ca cg mp me msm en2 sz2 mg2 ms2 dn2 on2 mt ma mag hb2) {pc up pc2 up2 : Nat → Int32} (hO : IO pc up pc2 up2) (v1 v2 : Int32) : ∃ r, f_X6_host N sz ln mg hb cp pc up v1 v2 = some r ∧ f_X7_host N mp sz2 mg2 on2 pc2 up2 hb2 v1 v2 = some r := by
  obtain ⟨rfl, rfl, h3, h4, h5, h6, a1, a0, a2, a3, a4, a5, a6, a7, a8, a9⟩ := h
  unfold f_X6_host f_X7_host
  simp only [p_isHost6, p_isHost7, bd1_s, ite_b]
  by_cases q : 0 ≤ v1.toInt ∧ v1.toInt < 8
  · rw [if_pos q, if_pos q]
    obtain ⟨j, j1, rfl⟩ := of_rng (k := 8) q.1 q.2 (by decide)
    have gj : ∀ {β : Type} {X : Option β}, gd (ix (nI j) 8) X = X := gd_nI j1 (by decide)
    simp only [gj]
    rw [nI_clamp (show j < 2 ^ 31 by omega), ← hO.1 j j1, ← hO.2.1 j j1]
    by_cases z0 : v2 = 0
    · rw [if_pos z0, if_pos z0]
      exact ⟨_, rfl, rfl⟩
    · by_cases z1 : v2 = 1
      · rw [if_neg z0, if_neg z0, if_pos z1, if_pos z1]
        by_cases u : up j = 0
        · rw [if_pos u]
          exact ⟨_, rfl, rfl⟩
        · rw [if_neg u]
          exact ⟨_, rfl, rfl⟩
      · by_cases z2 : v2 = 2
        · obtain ⟨k', -, r1, r2⟩ := p_partsOn_loop (N := N) h3 (nI j) a3 N 0 0 (by omega) (by omega) (by omega)
          have r1' : f_X0_partsOn N ln (nI p) (nI j) = some (nI k') := by
            unfold f_X0_partsOn
            have e : l_X0_partsOn_4 N ln (nI p) (nI j) N 0 0 = some (nI k') := r1
            rw [bd1_eq e]
          have r2' : l_X7_host_73 N (nI p) on2 (nI j) N 0 0 = some (nI k') := r2
          rw [if_neg z0, if_neg z0, if_neg z1, if_neg z1, if_pos z2, if_pos z2, bd1_eq r1', bd1_eq r2']
          exact ⟨_, rfl, rfl⟩
        · by_cases z3 : v2 = 3
          · have e1 := p_leftOn hN h3 sz ln mg (nI j)
            have e2 := p_left hN h3 sz2 on2 mg2 (nI j)
            have e3 : lefS sz2 mg2 on2 (nI j) p = lefS sz mg ln (nI j) p := lefS_congr fun i hi => ⟨(a1 i hi).symm, (a4 i hi).symm, by rw [a3 i hi]⟩
            rw [e3] at e2
            rw [if_neg z0, if_neg z0, if_neg z1, if_neg z1, if_neg z2, if_neg z2, if_pos z3, if_pos z3, bd1_eq e1, bd1_eq e2]
            exact ⟨_, rfl, rfl⟩
          · by_cases z4 : v2 = 4
            · rw [if_neg z0, if_neg z0, if_neg z1, if_neg z1, if_neg z2, if_neg z2, if_neg z3, if_neg z3, if_pos z4, if_pos z4]
              by_cases w : 0 < p
              · rw [if_neg (fun e => (p0_iff h3).mp e w), (a9 w).2.2.2.2 j j1]
                exact ⟨_, rfl, rfl⟩
              · rw [if_pos ((p0_iff h3).mpr w), h6 (by omega) j j1]
                exact ⟨_, rfl, rfl⟩
            · rw [if_neg z0, if_neg z0, if_neg z1, if_neg z1, if_neg z2, if_neg z2, if_neg z3, if_neg z3, if_neg z4, if_neg z4]
              exact ⟨_, rfl, rfl⟩
  · rw [if_neg q, if_neg q]
    exact ⟨_, rfl, rfl⟩
theorem st_tick {N : Nat} (hN : 1000 ≤ N) (h : IC n p s sz en ln mg rc dn hb cp csm cb ct ca cg mp me msm en2 sz2 mg2 ms2 dn2 on2 mt ma mag hb2) {pc up pc2 up2 : Nat → Int32} (hO : IO pc up pc2 up2) : ∃ (r : Int32) (mg' rc' dn' hb' : Nat → Int32) (ct' ca' cg' : Int32) (mg2' ms2' dn2' : Nat → Int32) (mt' ma' mag' : Int32) (hb2' : Nat → Int32), f_X6_tick N sz ln mg rc dn hb cp ct ca cg pc up = some (r, mg', rc', dn', hb', ct', ca', cg') ∧ f_X7_tick N mp sz2 mg2 ms2 dn2 on2 mt ma mag pc2 up2 hb2 = some (r, mg2', ms2', dn2', mt', ma', mag', hb2') ∧ IC n p s sz en ln mg' rc' dn' hb' cp csm cb ct' ca' cg' mp me msm en2 sz2 mg2' ms2' dn2' on2 mt' ma' mag' hb2' := by
  have hh := h
  obtain ⟨rfl, rfl, h3, h4, h5, h6, a1, a0, a2, a3, a4, a5, a6, a7, a8, a9⟩ := h
  unfold f_X6_tick f_X7_tick
  rw [bd1_eq (p_stands N h3), ite_b]
  by_cases z : 0 < p
  · obtain ⟨b1, rfl, rfl, rfl, b5⟩ := a9 z
    obtain ⟨mg', rc', dn', hb', mg2', rc2', dn2', hb2', all', ag', r1, r2, r3, r4, r5, r6, r7, r8⟩ := go_loop (N := N) hN h3 a0 a1 a3 hO.2.1 hO.1 hO.2.2 N 0 mg rc dn hb mg2 ms2 dn2 hb2 ca cg (by omega) (by omega) a4 a5 a6 b5 a7 a8
    have r1' : l_X0_goOn_17 N sz ln (nI p) pc up N 0 mg rc dn hb ca cg = some (mg', rc', dn', hb', all', ag') := r1
    have r2' : l_X7_tick_26 N (nI p) sz2 on2 pc2 up2 N 0 mg2 ms2 dn2 ca cg hb2 = some (mg2', rc2', dn2', all', ag', hb2') := r2
    have go : f_X0_goOn N sz ln mg rc dn hb (nI p) ct ca cg pc up = some (all' - ca, mg', rc', dn', hb', ct + 1, all', ag') := by
      unfold f_X0_goOn
      rw [nl_e, bd6_eq r1']
    rw [if_pos z, if_neg (fun e => (p0_iff h3).mp e z), bd8_eq go, nl_e, bd6_eq r2']
    exact ⟨_, mg', rc', dn', hb', _, _, _, mg2', rc2', dn2', _, _, _, hb2', rfl, rfl, rfl, rfl, h3, h4, h5, fun w => absurd w (by omega), a1, a0, a2, a3, r3, r4, r5, r7, r8, fun _ => ⟨b1, rfl, rfl, rfl, r6⟩⟩
  · rw [if_neg z, if_pos ((p0_iff h3).mpr z)]
    exact ⟨_, _, _, _, _, _, _, _, _, _, _, _, _, _, _, rfl, rfl, hh⟩
theorem p_isAtEnd {N : Nat} (hN : 1000 ≤ N) {p : Nat} (hp : p ≤ 8) (dn : Nat → Int32) : f_X0_isAtEnd N dn (nI p) = some (if 0 < p ∧ dnS dn p = p then 1 else 0) := by
  unfold f_X0_isAtEnd
  rw [bd1_eq (p_stands N hp), ite_b, bd1_eq (p_partsDone hN hp dn)]
  have hle := dnS_le dn p
  by_cases z : 0 < p
  · rw [if_pos z]
    by_cases y : dnS dn p = p
    · rw [if_pos (show nI (dnS dn p) = nI p by rw [y]), if_pos ⟨z, y⟩]
      rfl
    · rw [if_neg (fun e => y ((nI_eq (by omega) (by omega)).mp e)), if_neg (fun e => y e.2)]
      rfl
  · rw [if_neg z, if_neg (fun e => z e.1)]
    rfl
theorem st_work {N : Nat} (hN : 1000 ≤ N) (h : IC n p s sz en ln mg rc dn hb cp csm cb ct ca cg mp me msm en2 sz2 mg2 ms2 dn2 on2 mt ma mag hb2) (v1 : Int32) : ∃ r, f_X6_work N dn cp ct ca cg v1 = some r ∧ f_X7_work N mp dn2 mt ma mag v1 = some r := by
  obtain ⟨rfl, rfl, h3, h4, h5, h6, a1, a0, a2, a3, a4, a5, a6, a7, a8, a9⟩ := h
  unfold f_X6_work f_X7_work
  rw [bd1_eq (p_stands N h3), ite_b]
  by_cases z : 0 < p
  · obtain ⟨b1, rfl, rfl, rfl, b5⟩ := a9 z
    rw [if_pos z, if_neg (fun e => (p0_iff h3).mp e z)]
    by_cases z0 : v1 = 0
    · rw [if_pos z0, if_pos z0]
      exact ⟨_, rfl, rfl⟩
    · by_cases z1 : v1 = 1
      · rw [if_neg z0, if_neg z0, if_pos z1, if_pos z1]
        exact ⟨_, rfl, rfl⟩
      · by_cases z2 : v1 = 2
        · rw [if_neg z0, if_neg z0, if_neg z1, if_neg z1, if_pos z2, if_pos z2]
          exact ⟨_, rfl, rfl⟩
        · by_cases z3 : v1 = 3
          · have e1 := p_partsDone hN h3 dn
            have e2 : l_X7_work_65 N (nI p) dn2 N 0 0 = some (nI (dnS dn p)) := (p_done_loop (N := N) h3 a6 N 0 (by omega) (by omega)).2
            rw [if_neg z0, if_neg z0, if_neg z1, if_neg z1, if_neg z2, if_neg z2, if_pos z3, if_pos z3, bd1_eq e1, bd1_eq e2]
            exact ⟨_, rfl, rfl⟩
          · by_cases z4 : v1 = 4
            · rw [if_neg z0, if_neg z0, if_neg z1, if_neg z1, if_neg z2, if_neg z2, if_neg z3, if_neg z3, if_pos z4, if_pos z4, bd1_eq (p_isAtEnd hN h3 dn), bd1_eq (p_isThere hN h3 a6), ite_b]
              by_cases w : 0 < p ∧ dnS dn p = p
              · rw [if_pos w]
                exact ⟨_, rfl, rfl⟩
              · rw [if_neg w]
                exact ⟨_, rfl, rfl⟩
            · rw [if_neg z0, if_neg z0, if_neg z1, if_neg z1, if_neg z2, if_neg z2, if_neg z3, if_neg z3, if_neg z4, if_neg z4]
              exact ⟨_, rfl, rfl⟩
  · rw [if_neg z, if_pos ((p0_iff h3).mpr z)]
    exact ⟨_, rfl, rfl⟩
theorem st_count (N : Nat) (cn : Int32) (h : IC n p s sz en ln mg rc dn hb cp csm cb ct ca cg mp me msm en2 sz2 mg2 ms2 dn2 on2 mt ma mag hb2) (v1 : Int32) : ∃ r, f_X6_count N cn (nI n) cp csm v1 = some r ∧ f_X7_count N cn (nI n) mp msm v1 = some r := by
  obtain ⟨rfl, rfl, h3, rfl, -⟩ := h
  unfold f_X6_count f_X7_count
  by_cases z0 : v1 = 0
  · rw [if_pos z0]
    exact ⟨_, rfl, rfl⟩
  · by_cases z1 : v1 = 1
    · rw [if_neg z0, if_pos z1]
      exact ⟨_, rfl, rfl⟩
    · by_cases z2 : v1 = 2
      · rw [if_neg z0, if_neg z1, if_pos z2]
        exact ⟨_, rfl, rfl⟩
      · by_cases z3 : v1 = 3
        · rw [if_neg z0, if_neg z1, if_neg z2, if_pos z3]
          exact ⟨_, rfl, rfl⟩
        · rw [if_neg z0, if_neg z1, if_neg z2, if_neg z3]
          exact ⟨_, rfl, rfl⟩
end
theorem end68 {N c k : Nat} {so ord : Nat → Nat} {S V T F pool : Nat → Int32} (hc : c ≤ 400) (hk : k < c) (hpool : ∀ v, v < c → ord v < c ∧ pool v = nI (ord v)) (ah : ∀ a b, a < c → b < c → f_X7_ahead N S V T F (nI a) (nI b) = some (if so a < so b then 1 else 0)) : ∀ (f j : Nat), j ≤ c → c - j < f → l_X7_end_68 N S V T F pool (nI c) (nI k) f (nI (fb_ct (fun m => decide (so (ord m) < so (ord k))) j)) (nI j) = some (nI (fb_ct (fun m => decide (so (ord m) < so (ord k))) c))
  | 0, j, _, hf => absurd hf (by omega)
  | f + 1, j, hj, hf => by
    rw [l_X7_end_68]
    by_cases q : c ≤ j
    · have e : j = c := by omega
      rw [if_pos (nI_le q (by omega)), e]
    · have ih := end68 (N := N) hc hk hpool ah f (j + 1) (by omega) (by omega)
      rw [fb_ct_succ] at ih
      rw [if_neg (nI_ge (by omega) (by omega))]
      simp only [nl_e, nI_1, Int32.add_zero]
      by_cases e : j = k
      · have hd : decide (so (ord j) < so (ord k)) = false := decide_eq_false (by rw [e]; omega)
        rw [if_neg (show ¬ decide (so (ord j) < so (ord k)) = true by rw [hd]; decide)] at ih
        rw [if_pos (show nI j = nI k by rw [e])]
        exact ih
      · obtain ⟨p1, p2⟩ := hpool j (by omega)
        obtain ⟨p3, p4⟩ := hpool k hk
        rw [if_neg (fun z => e ((nI_eq (by omega) (by omega)).mp z)), gd_nI (show j < 40000 by omega) (by decide), gd_nI (show k < 40000 by omega) (by decide), nI_clamp (show j < 2 ^ 31 by omega), nI_clamp (show k < 2 ^ 31 by omega), p2, p4, bd1_eq (ah _ _ p1 p3), ite_b]
        by_cases z : so (ord j) < so (ord k)
        · rw [if_pos (decide_eq_true z)] at ih
          rw [if_pos z]
          exact ih
        · rw [if_neg (show ¬ decide (so (ord j) < so (ord k)) = true by rw [decide_eq_false z]; decide)] at ih
          rw [if_neg z]
          exact ih
theorem end57 {N c i k0 : Nat} {so io ord : Nat → Nat} {S V T F pool : Nat → Int32} (hN : 1000 ≤ N) (hc : c ≤ 400) (hk : k0 < c) (hi : so (ord k0) = i) (hpool : ∀ v, v < c → ord v < c ∧ pool v = nI (ord v)) (hso : ∀ r, r < c → so r < c ∧ io (so r) = r) (hinj : ∀ i j, i < c → j < c → ord i = ord j → i = j) (ah : ∀ a b, a < c → b < c → f_X7_ahead N S V T F (nI a) (nI b) = some (if so a < so b then 1 else 0)) : ∀ (f v : Nat), v ≤ k0 → k0 - v < f → l_X7_end_57 N S V T F pool (nI i) (nI c) f (nI v) = some (some (nI (io i)))
  | 0, v, _, hf => absurd hf (by omega)
  | f + 1, v, hv, hf => by
    have e1 : l_X7_end_68 N S V T F pool (nI c) (nI v) N 0 0 = some (nI (fb_ct (fun m => decide (so (ord m) < so (ord v))) c)) := end68 (N := N) hc (show v < c by omega) hpool ah N 0 (by omega) (by omega)
    have hs : ∀ x, x < c → so (ord x) < c := fun x hx => (hso _ (hpool x hx).1).1
    have e2 : fb_ct (fun m => decide (so (ord m) < so (ord v))) c = so (ord v) := ct_below (s := fun z => so (ord z)) hs (fun x y hx hy e => hinj x y hx hy (by
      rw [← (hso _ (hpool x hx).1).2, ← (hso _ (hpool y hy).1).2]
      exact congrArg io e)) _ (Nat.le_of_lt (hs v (by omega)))
    rw [e2] at e1
    have hsv := hs v (by omega)
    have hsi := hs k0 hk
    rw [l_X7_end_57, if_neg (nI_ge (show v < c by omega) (by omega)), bd1_eq e1]
    by_cases z : so (ord v) = i
    · rw [if_pos (show nI (so (ord v)) = nI i by rw [z]), gd_nI (show v < 40000 by omega) (by decide), nI_clamp (by omega), (hpool v (by omega)).2, ← z, (hso _ (hpool v (by omega)).1).2]
    · rw [if_neg (fun e => z ((nI_eq (by omega) (by omega)).mp e)), nl_e, nI_1]
      have hvk : v < k0 := by
        rcases Nat.lt_or_ge v k0 with w | w
        · exact w
        · have ev : v = k0 := by omega
          rw [ev] at z
          exact absurd hi z
      exact end57 hN hc hk hi hpool hso hinj ah f (v + 1) (by omega) (by omega)
theorem st_end {N cn n c al p : Nat} (hN : 1000 ≤ N) {b ord io so s : Nat → Nat} {S V T F mb rst inO sd : Nat → Int32} {rIn rMade rA mMade mRuns mAll : Int32} {bgn msz pool : Nat → Int32} (hr : rOK cn S V T F) (h : IR cn n c al b ord io so S V T F mb rst inO sd rIn rMade rA mMade mRuns mAll bgn msz pool) {sz en ln mg rc dn hb : Nat → Int32} {cp csm cb ct ca cg : Int32} {mp me msm : Int32} {en2 sz2 mg2 ms2 dn2 on2 : Nat → Int32} {mt ma mag : Int32} {hb2 : Nat → Int32} (hC : IC n p s sz en ln mg rc dn hb cp csm cb ct ca cg mp me msm en2 sz2 mg2 ms2 dn2 on2 mt ma mag hb2) (v1 : Int32) : ∃ r, f_X6_end N inO rIn dn cp v1 = some r ∧ f_X7_end N S V T F mRuns bgn msz pool mp dn2 v1 = some r := by
  obtain ⟨rfl, rfl, rfl, rfl, h5', h6', h7, h8, h9, h10, h11, h12⟩ := h
  obtain ⟨rfl, rfl, h3, h4, h5, h6, a1, a0, a2, a3, a4, a5, a6, a7, a8, a9⟩ := hC
  have hcn := hr.1
  have l0 : (0 : Int32).toInt = 0 := by decide
  unfold f_X6_end f_X7_end
  rw [bd1_eq (p_isAtEnd hN h3 dn), bd1_eq (p_isThere hN h3 a6), ite_b, ite_b]
  by_cases w : 0 < p ∧ dnS dn p = p
  · rw [if_pos w, if_pos w]
    have hn := h5 w.1
    obtain ⟨r1, r2, r3, r4, r5, r6, r7⟩ := h12 hn
    have e3 := p_pooled hn h9 h7 r3
    rw [r2] at e3
    rw [bd1_eq e3]
    have hpool : ∀ v, v < c → ord v < c ∧ pool v = nI (ord v) := fun v hv => by
      have := r3.2.2.2.2.2 v (by have := r3.mono h7 (Nat.le_refl _); omega)
      exact ⟨this.1, this.2.2⟩
    by_cases q : 0 ≤ v1.toInt ∧ v1.toInt < c
    · obtain ⟨i, i1, rfl⟩ := of_rng q.1 q.2 (by omega)
      obtain ⟨k0, k1, k2⟩ := fb_onto (n := c) (f := fun z => so (ord z)) (fun x hx => (r5.2.1 _ (hpool x hx).1).1) (fun x y hxy hy e => by
        have := r4 x y (by omega) hy (by
          rw [← (r5.2.1 _ (hpool x (by omega)).1).2, ← (r5.2.1 _ (hpool y hy).1).2]
          exact congrArg io e)
        omega) i1
      have e4 : l_X7_end_57 N S V T F pool (nI i) (nI c) N 0 = some (some (nI (io i))) := end57 (N := N) (so := so) (io := io) hN (by omega) k1 k2 hpool (fun r hr => r5.2.1 r hr) r4 (ah_so N hr h10 r5) N 0 (by omega) (by omega)
      rw [bd1_eq (p_rowInOrder N (by omega) r6 i1), if_neg (nI_pos (show i < 2 ^ 31 by omega)), if_pos (nI_lt i1 (by omega)), bd1_eq e4]
      exact ⟨_, rfl, rfl⟩
    · have e5 : f_X5_rowInOrder N inO (nI c) v1 = some (-1) := by
        unfold f_X5_rowInOrder
        have e : (nI c - 1).toInt = (c : Int) - 1 := pk_sub_toInt (b := 1) (by omega) (by omega)
        rw [bd1_eq (p_isIn N v1 0 _), e, l0, ite_b, if_neg (by omega)]
      rw [bd1_eq e5]
      by_cases z : v1 < 0
      · rw [if_pos z]
        exact ⟨_, rfl, rfl⟩
      · have hz : ¬ v1 < nI c := fun e => by
          rw [i32_lt, l0] at z
          rw [i32_lt, nI_toInt (by omega)] at e
          omega
        rw [if_neg z, if_neg hz]
        exact ⟨_, rfl, rfl⟩
  · rw [if_neg w, if_neg w]
    exact ⟨_, rfl, rfl⟩
