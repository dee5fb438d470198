/-! MERGES: one of them. My own text. -/
theorem merge_in {N c w x al F0 : Nat} {bt sz t so : Nat → Nat} {S V T Fl sd tl bgn tks tkn : Nat → Int32} (hN : 1000 ≤ N) (hw8 : w ≤ 8) (hx : x < 400) (hc : c ≤ 400) (hal : al < 799) (hF0 : F0 ≤ 4000) (htks : tks x = nI w)
    (hT : ∀ j, j < w → tl j = nI (bt j + sz j) ∧ bt j + sz j ≤ F0 ∧ tkn (8 * x + j) = nI (t j) ∧ t j < al ∧ bgn (t j) = nI (bt j))
    (hsd : ∀ r, r < c → f_X5_standingOf N sd (nI c) (nI r) = some (nI (so r)) ∧ so r < 400)
    (ah : ∀ a b, a < c → b < c → f_X7_ahead N S V T Fl (nI a) (nI b) = some (if so a < so b then 1 else 0)) :
    ∀ (d i F : Nat) (g ord : Nat → Nat) (v5 : Int32) (fC fM : Nat) (mb rst hd msz pool gone : Nat → Int32), fb_sm (fun j => sz j - g j) w = d → d < fC → d + 1 < fM → F0 ≤ F → F + d ≤ 4000 → i + d < 2 ^ 31 → (∀ j, j < w → hd j = nI (bt j + g j) ∧ gone j = nI (g j) ∧ g j ≤ sz j ∧ msz (t j) = nI (sz j)) → (∀ j, j < F → ord j < c ∧ mb j = nI (ord j) ∧ pool j = nI (ord j)) → rst (al + 1) = nI F → msz al = nI (F - F0) →
    ∃ (v5' : Int32) (ord' : Nat → Nat) (mb' rst' hd' msz' pool' gone' : Nat → Int32), l_X5_mergeThose_107 N sd tl (nI c) (nI (al + 1)) (nI w) (nI (i + d)) fC v5 (nI i) mb rst hd (nI F) = some (v5', mb', rst', hd', nI (F + d)) ∧ (∀ L0 : Int32, l_X7_merge_114 N S V T Fl bgn tks tkn (nI x) (nI al) fM (L0 + v5) 1 msz pool (nI F) gone = some (L0 + v5', msz', pool', nI (F + d), gone')) ∧ (∀ j, j < F + d → ord' j < c ∧ mb' j = nI (ord' j) ∧ pool' j = nI (ord' j)) ∧ (∀ j, j < F → ord' j = ord j) ∧ (∀ r, r ≠ al + 1 → rst' r = rst r) ∧ rst' (al + 1) = nI (F + d) ∧ (∀ r, r ≠ al → msz' r = msz r) ∧ msz' al = nI (F + d - F0) := by
  intro d
  induction d with
  | zero =>
    intro i F g ord v5 fC fM mb rst hd msz pool gone hd0 hfC hfM hF hF4 hi hJ hO hrs hms
    obtain ⟨gC, rfl⟩ : ∃ z, fC = z + 1 := ⟨fC - 1, by omega⟩
    obtain ⟨gM, rfl⟩ : ∃ z, fM = z + 2 := ⟨fM - 2, by omega⟩
    obtain ⟨s', o', q1, q2, q3, q4, q5, q6⟩ := scan2 (N := N) (c := c) (w := w) (x := x) (bt := bt) (g := g) (sz := sz) (t := t) (p := fun j => ord (bt j + g j)) (so := so) (mb := mb) (sd := sd) (hd := hd) (tl := tl) (bgn := bgn) (msz := msz) (pool := pool) (tks := tks) (tkn := tkn) (gone := gone) hw8 hx hc htks (fun j hj => by
      obtain ⟨a1, a2, a3, a4, a5⟩ := hT j hj
      obtain ⟨b1, b2, b3, b4⟩ := hJ j hj
      exact ⟨b1, a1, b2, b3, by omega, a3, by omega, b4, a5⟩) (fun j hj hg => by
      obtain ⟨a1, a2, a3, a4, a5⟩ := hT j hj
      exact hO (bt j + g j) (by omega)) hsd ah N 0 0 none (by omega) (by omega) (by omega) ⟨fun _ => rfl, fun _ => rfl⟩ (fun y e => (nomatch e)) (fun _ y hy => absurd hy (by omega))
    have eo : o' = none := by
      cases ho : o' with
      | none => rfl
      | some y =>
        obtain ⟨y1, y2⟩ := q5 y ho
        have h1 := fb_sm_part (fun j => sz j - g j) y1
        omega
    rw [eo] at q2
    have q2' : l_X7_merge_128 N S V T Fl bgn msz pool tks tkn gone (nI x) N (-1) 0 0 = some (-1, nI s') := q2
    refine ⟨v5, ord, mb, rst, hd, msz, pool, gone, ?_, fun L0 => ?_, hO, fun j _ => rfl, fun r _ => rfl, hrs, fun r _ => rfl, hms⟩
    · rw [l_X5_mergeThose_107, if_pos (nI_le (by omega) (by omega))]
      rfl
    · rw [l_X7_merge_114, if_neg (by decide), bd2_eq q2', if_pos rfl, bd1_eq rfl, if_pos rfl, l_X7_merge_114, if_pos rfl]
      rfl
  | succ d ih =>
    intro i F g ord v5 fC fM mb rst hd msz pool gone hd0 hfC hfM hF hF4 hi hJ hO hrs hms
    obtain ⟨gC, rfl⟩ : ∃ z, fC = z + 1 := ⟨fC - 1, by omega⟩
    obtain ⟨gM, rfl⟩ : ∃ z, fM = z + 1 := ⟨fM - 1, by omega⟩
    obtain ⟨s', o', q1, q2, q3, q4, q5, q6⟩ := scan2 (N := N) (c := c) (w := w) (x := x) (bt := bt) (g := g) (sz := sz) (t := t) (p := fun j => ord (bt j + g j)) (so := so) (mb := mb) (sd := sd) (hd := hd) (tl := tl) (bgn := bgn) (msz := msz) (pool := pool) (tks := tks) (tkn := tkn) (gone := gone) hw8 hx hc htks (fun j hj => by
      obtain ⟨a1, a2, a3, a4, a5⟩ := hT j hj
      obtain ⟨b1, b2, b3, b4⟩ := hJ j hj
      exact ⟨b1, a1, b2, b3, by omega, a3, by omega, b4, a5⟩) (fun j hj hg => by
      obtain ⟨a1, a2, a3, a4, a5⟩ := hT j hj
      exact hO (bt j + g j) (by omega)) hsd ah N 0 0 none (by omega) (by omega) (by omega) ⟨fun _ => rfl, fun _ => rfl⟩ (fun y e => (nomatch e)) (fun _ y hy => absurd hy (by omega))
    obtain ⟨y, ey⟩ : ∃ y, o' = some y := by
      cases ho : o' with
      | some y => exact ⟨y, rfl⟩
      | none =>
        have h1 := q6 ho
        have h2 : fb_sm (fun j => sz j - g j) w = fb_sm (fun _ => 0) w := fb_sm_cong fun k hk => by
          show sz k - g k = 0
          rw [h1 k hk, Nat.sub_self]
        rw [fb_sm_const, Nat.mul_zero] at h2
        omega
    obtain ⟨y1, y2⟩ := q5 y ey
    have hs0 : 0 < s' := by
      rcases Nat.eq_zero_or_pos s' with z | z
      · rw [q4.mp z] at ey
        cases ey
      · exact z
    rw [ey] at q1 q2
    obtain ⟨a1, a2, a3, a4, a5⟩ := hT y y1
    obtain ⟨b1, b2, b3, b4⟩ := hJ y y1
    obtain ⟨o1, o2, o3⟩ := hO (bt y + g y) (by omega)
    generalize hρ : ord (bt y + g y) = ρ at o1 o2 o3
    have q1' : l_X5_takeFirst_10 N mb sd hd tl (nI c) (nI w) N 0 0 (-1) 0 = some (nI s', nI y, nI ρ) := by
      rw [← hρ]
      exact q1
    have q2' : l_X7_merge_128 N S V T Fl bgn msz pool tks tkn gone (nI x) N (-1) 0 0 = some (nI y, nI s') := q2
    have tf : f_X5_takeFirst N mb rst sd hd tl (nI c) (nI (al + 1)) (nI F) (nI w) = some (nI s' - 1, upd mb F (nI ρ), upd rst (al + 1) (nI (F + 1)), upd hd y (nI (bt y + (g y + 1))), nI (F + 1)) := by
      unfold f_X5_takeFirst
      rw [bd3_eq q1', if_neg (nI_ne0 hs0 (by omega)), gd_nI (show y < 8 by omega) (by decide), nl_e, gd_nI (show y < 8 by omega) (by decide), bd3_eq (p_append N mb rst (nI ρ) (show al + 1 < 800 by omega) (show F < 4000 by omega)), nI_clamp (show y < 2 ^ 31 by omega), b1, nI_1]
      rfl
    obtain ⟨v5', ord', mb', rst', hd', msz', pool', gone', r1, r2, r3, r4, r5, r6, r7, r8⟩ := ih (i + 1) (F + 1) (ups g y (g y + 1)) (ups ord F ρ) (v5 + (nI s' - 1)) gC gM (upd mb F (nI ρ)) (upd rst (al + 1) (nI (F + 1))) (upd hd y (nI (bt y + (g y + 1)))) (upd msz al (nI (F + 1 - F0))) (upd pool F (nI ρ)) (upd gone y (nI (g y + 1))) (by
        have h1 := fb_sm_upd (fun j => sz j - g j) (sz y - (g y + 1)) y1
        have h2 : fb_sm (fun j => sz j - ups g y (g y + 1) j) w = fb_sm (fun k => if k = y then sz y - (g y + 1) else sz k - g k) w := fb_sm_cong fun k hk => by
          by_cases z : k = y
          · rw [z, ups_s, if_pos rfl]
          · rw [ups_n g z, if_neg z]
        rw [h2]
        omega) (by omega) (by omega) (by omega) (by omega) (by omega) (fun j hj => by
        obtain ⟨e1, e2, e3, e4⟩ := hJ j hj
        obtain ⟨k1, k2, k3, k4, k5⟩ := hT j hj
        by_cases z : j = y
        · rw [z, pk_us, pk_us, ups_s, pk_un (show t y ≠ al by omega)]
          exact ⟨rfl, rfl, by omega, b4⟩
        · rw [pk_un z, pk_un z, ups_n g z, pk_un (show t j ≠ al by omega)]
          exact ⟨e1, e2, e3, e4⟩) (fun j hj => by
        by_cases z : j = F
        · rw [z, ups_s, pk_us, pk_us]
          exact ⟨o1, rfl, rfl⟩
        · rw [ups_n ord z, pk_un z, pk_un z]
          exact hO j (by omega)) pk_us pk_us
    have ei : i + 1 + d = i + (d + 1) := by omega
    have eF : F + 1 + d = F + (d + 1) := by omega
    rw [ei, eF] at r1
    rw [eF] at r3 r6 r8
    refine ⟨v5', ord', mb', rst', hd', msz', pool', gone', ?_, fun L0 => ?_, r3, fun j hj => ?_, fun r hr => ?_, r6, fun r hr => ?_, r8⟩
    · rw [l_X5_mergeThose_107, if_neg (nI_ge (by omega) (by omega)), bd5_eq tf, nl_e, nl_e, nI_1]
      exact r1
    · have r2' := r2 L0
      rw [eF] at r2'
      have em : msz al + 1 = nI (F + 1 - F0) := by
        rw [hms, nI_1]
        congr 1
        omega
      rw [l_X7_merge_114, if_neg (by decide), bd2_eq q2', if_neg (nI_ne_m1 (show y < 2 ^ 31 by omega)), bd1_eq rfl, if_neg (by decide), nl_e, mul8, gd_nI (show 8 * x + y < 3200 by omega) (by decide), nI_clamp (show 8 * x + y < 2 ^ 31 by omega), a3, gd_nI (show t y < 800 by omega) (by decide), gd_nI (show y < 8 by omega) (by decide), nI_clamp (show t y < 2 ^ 31 by omega), nI_clamp (show y < 2 ^ 31 by omega), a5, b2, nI_add, gd_nI (show bt y + g y < 40000 by omega) (by decide), nl_e, nI_clamp (show bt y + g y < 2 ^ 31 by omega), o3, gd_nI (show F < 40000 by omega) (by decide), nl_e, gd_nI (show al < 800 by omega) (by decide), nl_e, gd_nI (show al < 800 by omega) (by decide), gd_nI (show y < 8 by omega) (by decide), nl_e, gd_nI (show y < 8 by omega) (by decide), nI_clamp (show al < 2 ^ 31 by omega), nI_clamp (show F < 2 ^ 31 by omega), em, nI_1, nI_1, Int32.add_assoc]
      exact r2'
    · rw [r4 j (by omega), ups_n ord (by omega)]
    · rw [r5 r hr, pk_un hr]
    · rw [r7 r hr, pk_un hr]
theorem m_gone {N : Nat} : ∀ (f j : Nat) (gone : Nat → Int32), j ≤ 8 → 8 - j < f → (∀ k, k < j → gone k = 0) → ∃ gone', l_X7_merge_70 N f (nI j) gone = some gone' ∧ ∀ k, k < 8 → gone' k = 0
  | 0, j, gone, _, hf, _ => absurd hf (by omega)
  | f + 1, j, gone, hj, hf, h => by
    rw [l_X7_merge_70]
    by_cases q : 8 ≤ j
    · have e : j = 8 := by omega
      have q8 : (8 : Int32) ≤ nI j := nI_le (a := 8) q (by omega)
      rw [if_pos q8]
      rw [e] at h
      exact ⟨gone, rfl, h⟩
    · have q8 : ¬ (8 : Int32) ≤ nI j := nI_ge (b := 8) (by omega) (by decide)
      rw [if_neg q8, gd_nI (show j < 8 by omega) (by decide), nl_e, nI_1, nI_clamp (show j < 2 ^ 31 by omega)]
      refine m_gone f (j + 1) _ (by omega) (by omega) fun k hk => ?_
      by_cases z : k = j
      · rw [z, pk_us]
      · rw [pk_un z]
        exact h k (by omega)
theorem c_m17 {N al mg x w : Nat} {bt sz t : Nat → Nat} {rst tr st : Nat → Int32} (hw8 : w ≤ 8) (hal : al ≤ 799) (h : ∀ j, j < w → t j < al ∧ f_X3_taken N tr st (nI mg) (nI x) (nI j) = some (nI (t j)) ∧ rst (t j) = nI (bt j) ∧ f_X5_sizeOf N rst (nI al) (nI (t j)) = some (nI (sz j))) :
    ∀ (f j : Nat) (hd tl : Nat → Int32), j ≤ w → w - j < f → (∀ y, y < j → hd y = nI (bt y) ∧ tl y = nI (bt y + sz y)) → ∃ (hd' tl' : Nat → Int32), l_X5_mergeThose_17 N rst (nI al) tr st (nI mg) (nI x) (nI w) f (nI (fb_sm sz j)) (nI j) hd tl = some (nI (fb_sm sz w), hd', tl') ∧ ∀ y, y < w → hd' y = nI (bt y) ∧ tl' y = nI (bt y + sz y)
  | 0, j, hd, tl, _, hf, _ => absurd hf (by omega)
  | f + 1, j, hd, tl, hj, hf, hy => by
    rw [l_X5_mergeThose_17]
    by_cases q : w ≤ j
    · have e : j = w := by omega
      subst e
      rw [if_pos (nI_le (Nat.le_refl _) (by omega))]
      exact ⟨hd, tl, rfl, hy⟩
    · obtain ⟨h1, h2, h3, h4⟩ := h j (by omega)
      have et : (nI (t j)).toInt = (t j : Int) := nI_toInt (by omega)
      have hh := p_rhas N hal (nI (t j))
      rw [et, if_pos (show (0 : Int) ≤ (t j : Int) ∧ (t j : Int) < (al : Int) by omega)] at hh
      rw [if_neg (nI_ge (show j < w by omega) (by omega)), bd1_eq h2, bd1_eq hh, if_neg (by decide), gd_nI (show t j < 800 by omega) (by decide), bd1_eq rfl, gd_nI (show j < 8 by omega) (by decide), gd_nI (show j < 8 by omega) (by decide), bd1_eq h4, nl_e, gd_nI (show j < 8 by omega) (by decide), bd1_eq h4, nl_e, nl_e, nI_clamp (show j < 2 ^ 31 by omega), nI_clamp (show t j < 2 ^ 31 by omega), pk_us, h3, nI_add, nI_add, nI_1]
      refine c_m17 hw8 hal h f (j + 1) _ _ (by omega) (by omega) fun y hy2 => ?_
      by_cases z : y = j
      · rw [z, pk_us, pk_us]
        exact ⟨rfl, rfl⟩
      · rw [pk_un z, pk_un z]
        exact hy y (by omega)
