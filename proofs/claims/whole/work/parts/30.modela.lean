def rm_X7_give : Room := { frames := 1, cells := 0, slots := 0, locals := 22 }
set_option maxRecDepth 20000 in
theorem i_X7_give_X7 : ∀ w ∈ u_ws RX7 TX7 36, w ∈ wsX7_give := by decide +kernel
set_option maxRecDepth 20000 in
theorem m_X7_give_0 : Cond.constant RX7 126 (-100000) ∈ wsX7_give := by decide +kernel
set_option maxRecDepth 20000 in
theorem m_X7_give_1 : Cond.constant RX7 127 (100000) ∈ wsX7_give := by decide +kernel
set_option maxRecDepth 20000 in
theorem m_X7_give_2 : Cond.fieldLink RX7 16 "GreatSortModel" "rows" "I" ∈ wsX7_give := by decide +kernel
set_option maxRecDepth 20000 in
theorem m_X7_give_3 : Cond.fieldLink RX7 7 "GreatSortModel" "sorts" "[I" ∈ wsX7_give := by decide +kernel
set_option maxRecDepth 20000 in
theorem m_X7_give_4 : Cond.fieldLink RX7 13 "GreatSortModel" "values" "[I" ∈ wsX7_give := by decide +kernel
set_option maxHeartbeats 4000000 in
set_option maxRecDepth 100000 in
theorem c_X7_give (l : Launch) (dC : Nat → ClassId) (dI : Nat → Nat → Nat) (cI cJ cZ : ClassId) (aM : Nat → Nat) (N : Nat) (M_sorts : (Nat → Int32)) (M_values : (Nat → Int32)) (M_rows : Int32) (M_placeOf : (Nat → Int32)) (M_falling : (Nat → Int32)) (M_made : Int32) (M_runs : Int32) (M_allRuns : Int32) (M_begin : (Nat → Int32)) (M_size : (Nat → Int32)) (M_pool : (Nat → Int32)) (M_pooled : Int32) (M_ways : Int32) (M_merges : Int32) (M_takes : (Nat → Int32)) (M_taken : (Nat → Int32)) (M_parts : Int32) (M_every : Int32) (M_samples : Int32) (M_sample : (Nat → Int32)) (M_ends : (Nat → Int32)) (M_partSize : (Nat → Int32)) (M_merged : (Nat → Int32)) (M_most : (Nat → Int32)) (M_done : (Nat → Int32)) (M_on : (Nat → Int32)) (M_ticks : Int32) (M_mergedAll : Int32) (M_again : Int32) (M_paces : (Nat → Int32)) (M_up : (Nat → Int32)) (M_byHost : (Nat → Int32)) (M_heap : (Nat → Int32)) (M_used : (Nat → Int32)) (M_planned : (Nat → Int32)) (M_gone : (Nat → Int32)) (v1 : Int32) (v2 : Int32) {r : Int32} {o_M_sorts : (Nat → Int32)} {o_M_values : (Nat → Int32)} {o_M_rows : Int32} (hf : f_X7_give N M_sorts M_values M_rows v1 v2 = some (r, o_M_sorts, o_M_values, o_M_rows)) :
    CtI l yX7_give wsX7_give rm_X7_give (dC, dI) (tyl cI cJ cZ) [.ref (aM 0), .int v1, .int v2] (w_M aM cI cJ cZ M_sorts M_values M_rows M_placeOf M_falling M_made M_runs M_allRuns M_begin M_size M_pool M_pooled M_ways M_merges M_takes M_taken M_parts M_every M_samples M_sample M_ends M_partSize M_merged M_most M_done M_on M_ticks M_mergedAll M_again M_paces M_up M_byHost M_heap M_used M_planned M_gone) (w_M aM cI cJ cZ o_M_sorts o_M_values o_M_rows M_placeOf M_falling M_made M_runs M_allRuns M_begin M_size M_pool M_pooled M_ways M_merges M_takes M_taken M_parts M_every M_samples M_sample M_ends M_partSize M_merged M_most M_done M_on M_ticks M_mergedAll M_again M_paces M_up M_byHost M_heap M_used M_planned M_gone) r := by
  refine startI (cc := cX7_give) (maxL := 3) (rt := (some .int)) (by decide +kernel) rfl (Nat.le_of_ble_eq_true rfl) ?_
  intro p e s m below meth c A ls X hr hlocks hw hl
  replace X : Cx p m c cX7_give 3 s _ wsX7_give RX7 (dC, dI) (tyl cI cJ cZ) A := X
  replace hl : lv_has ls 3 [(0, .ref (aM 0)), (1, .int v1), (2, .int v2)] := hl
  obtain ⟨hx, hb, hml, hown, hts⟩ := X.1
  have hK := X.2.1
  have hN := X.2.2.2
  unfold f_X7_give at hf
  refine lv_iload_n hx hb dX7_give_0 rfl (lv_at hl 1 rfl) ?_
  refine lv_iconst (v := 0) hx hb dX7_give_1 (by decide) ?_
  refine lv_iconst (v := 3) hx hb dX7_give_2 (by decide) ?_
  obtain ⟨r1, h2, hf⟩ := bd1_ob hf
  refine clSI (As := [.int v1, .int (0 : Int32), .int (3 : Int32)]) (rest := []) X (c_X7_is l dC dI cI cJ cZ N v1 (0 : Int32) (3 : Int32) h2) (va_cwS 3 hts gX7_give_X7_is rfl rfl rfl (by decide +kernel) ⟨Nat.le_of_ble_eq_true rfl, Nat.le_of_ble_eq_true rfl⟩) hw [] rfl rfl rfl rfl hl.1 rfl (Nat.le_of_ble_eq_true rfl) dX7_give_3 ⟨Nat.zero_le _, Nat.zero_le _⟩ (fun H locs hw => ?_)
  replace hw : Wd (dC, dI) A s.heap H locs (w_M aM cI cJ cZ M_sorts M_values M_rows M_placeOf M_falling M_made M_runs M_allRuns M_begin M_size M_pool M_pooled M_ways M_merges M_takes M_taken M_parts M_every M_samples M_sample M_ends M_partSize M_merged M_most M_done M_on M_ticks M_mergedAll M_again M_paces M_up M_byHost M_heap M_used M_planned M_gone) := hw
  refine lv_if_eq (tgt := 30) hx hb dX7_give_6 (by decide) (fun b3 => ?_) (fun b3 => ?_)
  · replace hf := it_t hf b3
    refine lv_iconst (v := (-1)) hx hb dX7_give_30 (by decide) ?_
    cases hf
    exact endI X hr rfl hlocks rfl hw dX7_give_31
  · replace hf := it_f hf b3
    refine lv_iload_n hx hb dX7_give_9 rfl (lv_at hl 2 rfl) ?_
    refine lv_ldc (v := (-100000)) hx hb hown (hts _ m_X7_give_0) dX7_give_10 ?_
    refine lv_ldc (v := 100000) hx hb hown (hts _ m_X7_give_1) dX7_give_12 ?_
    obtain ⟨r4, h5, hf⟩ := bd1_ob hf
    refine clSI (As := [.int v2, .int (-100000 : Int32), .int (100000 : Int32)]) (rest := []) X (c_X7_is l dC dI cI cJ cZ N v2 (-100000 : Int32) (100000 : Int32) h5) (va_cwS 3 hts gX7_give_X7_is rfl rfl rfl (by decide +kernel) ⟨Nat.le_of_ble_eq_true rfl, Nat.le_of_ble_eq_true rfl⟩) hw [] rfl rfl rfl rfl hl.1 rfl (Nat.le_of_ble_eq_true rfl) dX7_give_14 ⟨Nat.zero_le _, Nat.zero_le _⟩ (fun H locs hw => ?_)
    replace hw : Wd (dC, dI) A s.heap H locs (w_M aM cI cJ cZ M_sorts M_values M_rows M_placeOf M_falling M_made M_runs M_allRuns M_begin M_size M_pool M_pooled M_ways M_merges M_takes M_taken M_parts M_every M_samples M_sample M_ends M_partSize M_merged M_most M_done M_on M_ticks M_mergedAll M_again M_paces M_up M_byHost M_heap M_used M_planned M_gone) := hw
    refine lv_if_eq (tgt := 30) hx hb dX7_give_17 (by decide) (fun b6 => ?_) (fun b6 => ?_)
    · replace hf := it_t hf b6
      refine lv_iconst (v := (-1)) hx hb dX7_give_30 (by decide) ?_
      cases hf
      exact endI X hr rfl hlocks rfl hw dX7_give_31
    · replace hf := it_f hf b6
      refine lv_aload_n hx hb dX7_give_20 rfl (lv_at hl 0 rfl) ?_
      refine va_get (D := (dC, dI)) (ci := 7) (v := .int M_rows) (C := RX7) (T := TX7) (N := 36) hx hb hts i_X7_give_X7 hown hK hw.1 0 rfl rfl 2 (by decide) (hts _ m_X7_give_2) (fun _ h9 => h9) rfl dX7_give_21 ?_
      refine lv_sipush (v := 400) hx hb dX7_give_24 (by decide) ?_
      refine lv_icmp_ne (tgt := 32) hx hb dX7_give_27 (by decide) (fun b7 => ?_) (fun b7 => ?_)
      · replace hf := it_f hf b7
        refine lv_aload_n hx hb dX7_give_32 rfl (lv_at hl 0 rfl) ?_
        refine va_get (D := (dC, dI)) (ci := 7) (v := .ref (aM 1)) (C := RX7) (T := TX7) (N := 36) hx hb hts i_X7_give_X7 hown hK hw.1 0 rfl rfl 0 (by decide) (hts _ m_X7_give_3) (fun _ h9 => h9) rfl dX7_give_33 ?_
        refine lv_aload_n hx hb dX7_give_36 rfl (lv_at hl 0 rfl) ?_
        refine va_get (D := (dC, dI)) (ci := 7) (v := .int M_rows) (C := RX7) (T := TX7) (N := 36) hx hb hts i_X7_give_X7 hown hK hw.1 0 rfl rfl 2 (by decide) (hts _ m_X7_give_2) (fun _ h9 => h9) rfl dX7_give_37 ?_
        refine lv_iload_n hx hb dX7_give_40 rfl (lv_at hl 1 rfl) ?_
        have g8 := ix_in (gd_l hf)
        replace hf := gd_r hf
        refine g_iast hx hb hK hw 1 0 rfl rfl g8 dX7_give_41 (fun H locs hw => ?_)
        replace hw : Wd (dC, dI) A s.heap H locs (w_M aM cI cJ cZ (upd M_sorts M_rows.toNatClampNeg v1) M_values M_rows M_placeOf M_falling M_made M_runs M_allRuns M_begin M_size M_pool M_pooled M_ways M_merges M_takes M_taken M_parts M_every M_samples M_sample M_ends M_partSize M_merged M_most M_done M_on M_ticks M_mergedAll M_again M_paces M_up M_byHost M_heap M_used M_planned M_gone) := hw
        refine lv_aload_n hx hb dX7_give_42 rfl (lv_at hl 0 rfl) ?_
        refine va_get (D := (dC, dI)) (ci := 7) (v := .ref (aM 2)) (C := RX7) (T := TX7) (N := 36) hx hb hts i_X7_give_X7 hown hK hw.1 0 rfl rfl 1 (by decide) (hts _ m_X7_give_4) (fun _ h9 => h9) rfl dX7_give_43 ?_
        refine lv_aload_n hx hb dX7_give_46 rfl (lv_at hl 0 rfl) ?_
        refine va_get (D := (dC, dI)) (ci := 7) (v := .int M_rows) (C := RX7) (T := TX7) (N := 36) hx hb hts i_X7_give_X7 hown hK hw.1 0 rfl rfl 2 (by decide) (hts _ m_X7_give_2) (fun _ h9 => h9) rfl dX7_give_47 ?_
        refine lv_iload_n hx hb dX7_give_50 rfl (lv_at hl 2 rfl) ?_
        have g9 := ix_in (gd_l hf)
        replace hf := gd_r hf
        refine g_iast hx hb hK hw 2 0 rfl rfl g9 dX7_give_51 (fun H locs hw => ?_)
        replace hw : Wd (dC, dI) A s.heap H locs (w_M aM cI cJ cZ (upd M_sorts M_rows.toNatClampNeg v1) (upd M_values M_rows.toNatClampNeg v2) M_rows M_placeOf M_falling M_made M_runs M_allRuns M_begin M_size M_pool M_pooled M_ways M_merges M_takes M_taken M_parts M_every M_samples M_sample M_ends M_partSize M_merged M_most M_done M_on M_ticks M_mergedAll M_again M_paces M_up M_byHost M_heap M_used M_planned M_gone) := hw
        refine lv_aload_n hx hb dX7_give_52 rfl (lv_at hl 0 rfl) ?_
        refine lv_dup hx hb dX7_give_53 rfl ?_
        refine va_get (D := (dC, dI)) (ci := 7) (v := .int M_rows) (C := RX7) (T := TX7) (N := 36) hx hb hts i_X7_give_X7 hown hK hw.1 0 rfl rfl 2 (by decide) (hts _ m_X7_give_2) (fun _ h9 => h9) rfl dX7_give_54 ?_
        refine lv_iconst (v := 1) hx hb dX7_give_57 (by decide) ?_
        refine lv_iadd hx hb dX7_give_58 ?_
        refine lv_topi (fun x10 ex10 => ?_)
        replace hf := nl_at hf ex10
        refine g_put (D := (dC, dI)) (ci := 7) (v := .int x10) (ty := .int) (C := RX7) (T := TX7) (N := 36) hx hb hts i_X7_give_X7 tyX7 tyX7_ok nmX7 hown hK hw 0 rfl rfl 2 (by decide) (hts _ m_X7_give_2) (fun _ h9 => h9) rfl (by decide +kernel) rfl rfl (Nat.le_of_ble_eq_true rfl) dX7_give_59 (fun H locs hw => ?_)
        replace hw : Wd (dC, dI) A s.heap H locs (w_M aM cI cJ cZ (upd M_sorts M_rows.toNatClampNeg v1) (upd M_values M_rows.toNatClampNeg v2) x10 M_placeOf M_falling M_made M_runs M_allRuns M_begin M_size M_pool M_pooled M_ways M_merges M_takes M_taken M_parts M_every M_samples M_sample M_ends M_partSize M_merged M_most M_done M_on M_ticks M_mergedAll M_again M_paces M_up M_byHost M_heap M_used M_planned M_gone) := hw
        refine lv_aload_n hx hb dX7_give_62 rfl (lv_at hl 0 rfl) ?_
        refine va_get (D := (dC, dI)) (ci := 7) (v := .int x10) (C := RX7) (T := TX7) (N := 36) hx hb hts i_X7_give_X7 hown hK hw.1 0 rfl rfl 2 (by decide) (hts _ m_X7_give_2) (fun _ h9 => h9) rfl dX7_give_63 ?_
        refine lv_iconst (v := 1) hx hb dX7_give_66 (by decide) ?_
        refine lv_isub hx hb dX7_give_67 ?_
        cases hf
        exact endI X hr rfl hlocks rfl hw dX7_give_68
      · replace hf := it_t hf b7
        refine lv_iconst (v := (-1)) hx hb dX7_give_30 (by decide) ?_
        cases hf
        exact endI X hr rfl hlocks rfl hw dX7_give_31
def rm_X7_sow : Room := { frames := 1, cells := 0, slots := 0, locals := 22 }
set_option maxRecDepth 20000 in
theorem i_X7_sow_X7 : ∀ w ∈ u_ws RX7 TX7 36, w ∈ wsX7_sow := by decide +kernel
set_option maxRecDepth 20000 in
theorem m_X7_sow_0 : Cond.fieldLink RX7 16 "GreatSortModel" "rows" "I" ∈ wsX7_sow := by decide +kernel
set_option maxRecDepth 20000 in
theorem m_X7_sow_1 : Cond.constant RX7 128 (1103515245) ∈ wsX7_sow := by decide +kernel
set_option maxRecDepth 20000 in
theorem m_X7_sow_2 : Cond.fieldLink RX7 7 "GreatSortModel" "sorts" "[I" ∈ wsX7_sow := by decide +kernel
set_option maxRecDepth 20000 in
theorem m_X7_sow_3 : Cond.fieldLink RX7 13 "GreatSortModel" "values" "[I" ∈ wsX7_sow := by decide +kernel
set_option maxHeartbeats 4000000 in
set_option maxRecDepth 100000 in
theorem t_X7_sow_63 {p : Program} {l : Launch} {e : Env} {s : State} {m : MethodId} {args : Array Value} {below : List Frame} {meth : Method} {c : Code} {Q : State → Prop} {dC : Nat → ClassId} {dI : Nat → Nat → Nat} {cI cJ cZ : ClassId} {A : Nat → Prop} (aM : Nat → Nat) (X : Cx p m c cX7_sow 8 s args wsX7_sow RX7 (dC, dI) (tyl cI cJ cZ) A) (N : Nat) (M_placeOf : (Nat → Int32)) (M_falling : (Nat → Int32)) (M_made : Int32) (M_runs : Int32) (M_allRuns : Int32) (M_begin : (Nat → Int32)) (M_size : (Nat → Int32)) (M_pool : (Nat → Int32)) (M_pooled : Int32) (M_ways : Int32) (M_merges : Int32) (M_takes : (Nat → Int32)) (M_taken : (Nat → Int32)) (M_parts : Int32) (M_every : Int32) (M_samples : Int32) (M_sample : (Nat → Int32)) (M_ends : (Nat → Int32)) (M_partSize : (Nat → Int32)) (M_merged : (Nat → Int32)) (M_most : (Nat → Int32)) (M_done : (Nat → Int32)) (M_on : (Nat → Int32)) (M_ticks : Int32) (M_mergedAll : Int32) (M_again : Int32) (M_paces : (Nat → Int32)) (M_up : (Nat → Int32)) (M_byHost : (Nat → Int32)) (M_heap : (Nat → Int32)) (M_used : (Nat → Int32)) (M_planned : (Nat → Int32)) (M_gone : (Nat → Int32)) (v1 : Int32) (v2 : Int32) (v4 : Int32) (v5 : Int32) :
    ∀ (n : Nat) (v6 : Int32) (v7 : Int32) (M_sorts : (Nat → Int32)) (M_values : (Nat → Int32)) (M_rows : Int32) (e_M_sorts : (Nat → Int32)) (e_M_values : (Nat → Int32)) (e_M_rows : Int32), l_X7_sow_63 N v1 v2 v4 v5 n v6 v7 M_sorts M_values M_rows = some (e_M_sorts, e_M_values, e_M_rows) → ∀ (H : Heap) (locs : List Loc) (ls : Array Slot), Wd (dC, dI) A s.heap H locs (w_M aM cI cJ cZ M_sorts M_values M_rows M_placeOf M_falling M_made M_runs M_allRuns M_begin M_size M_pool M_pooled M_ways M_merges M_takes M_taken M_parts M_every M_samples M_sample M_ends M_partSize M_merged M_most M_done M_on M_ticks M_mergedAll M_again M_paces M_up M_byHost M_heap M_used M_planned M_gone) → lv_has ls 8 [(0, .ref (aM 0)), (1, .int v1), (2, .int v2), (4, .int v4), (5, .int v5), (6, .int v6), (7, .int v7)] → (∀ (H : Heap) (locs : List Loc) (ls : Array Slot), Wd (dC, dI) A s.heap H locs (w_M aM cI cJ cZ e_M_sorts e_M_values e_M_rows M_placeOf M_falling M_made M_runs M_allRuns M_begin M_size M_pool M_pooled M_ways M_merges M_takes M_taken M_parts M_every M_samples M_sample M_ends M_partSize M_merged M_most M_done M_on M_ticks M_mergedAll M_again M_paces M_up M_byHost M_heap M_used M_planned M_gone) → lv_has ls 8 [(0, .ref (aM 0))] → W p l e rm_X7_sow s m args below meth c H locs 0 0 Q (F0 m 131 ls [])) → W p l e rm_X7_sow s m args below meth c H locs 0 0 Q (F0 m 63 ls []) := by
  obtain ⟨hx, hb, hml, hown, hts⟩ := X.1
  have hK := X.2.1
  have hN := X.2.2.2
  intro n
  induction n with
  | zero =>
    intro _ _ _ _ _ _ _ _ hf
    cases hf
  | succ n ih =>
    intro v6 v7 M_sorts M_values M_rows e_M_sorts e_M_values e_M_rows hf H locs ls hw hl kx
    rw [l_X7_sow_63] at hf
    refine lv_iload hx hb dX7_sow_63 (lv_at hl 6 rfl) ?_
    refine lv_iload_n hx hb dX7_sow_65 rfl (lv_at hl 2 rfl) ?_
    refine lv_icmp_ge (tgt := 131) hx hb dX7_sow_66 (by decide) (fun b14 => ?_) (fun b14 => ?_)
    · replace hf := it_t hf b14
      cases hf
      exact kx _ _ _ hw (lv_sub hl [0] rfl)
    · replace hf := it_f hf b14
      refine lv_ldc (v := 1103515245) hx hb hown (hts _ m_X7_sow_1) dX7_sow_69 ?_
      refine lv_iload hx hb dX7_sow_71 (lv_at hl 5 rfl) ?_
      refine lv_imul hx hb dX7_sow_73 ?_
      refine lv_sipush (v := 12345) hx hb dX7_sow_74 (by decide) ?_
      refine lv_iadd hx hb dX7_sow_77 ?_
      refine lv_topi (fun x15 ex15 => ?_)
      replace hf := nl_at hf ex15
      refine lv_istore (lv' := [(6, .int x15), (0, .ref (aM 0)), (1, .int v1), (2, .int v2), (4, .int v4), (5, .int v5), (7, .int v7)]) hx hb dX7_sow_78 hl (by decide) rfl (fun ls hl => ?_)
      refine lv_aload_n hx hb dX7_sow_80 rfl (lv_at hl 1 rfl) ?_
      refine va_get (D := (dC, dI)) (ci := 7) (v := .ref (aM 1)) (C := RX7) (T := TX7) (N := 36) hx hb hts i_X7_sow_X7 hown hK hw.1 0 rfl rfl 0 (by decide) (hts _ m_X7_sow_2) (fun _ h9 => h9) rfl dX7_sow_81 ?_
      refine lv_aload_n hx hb dX7_sow_84 rfl (lv_at hl 1 rfl) ?_
      refine va_get (D := (dC, dI)) (ci := 7) (v := .int M_rows) (C := RX7) (T := TX7) (N := 36) hx hb hts i_X7_sow_X7 hown hK hw.1 0 rfl rfl 2 (by decide) (hts _ m_X7_sow_0) (fun _ h9 => h9) rfl dX7_sow_85 ?_
      refine lv_iload_n hx hb dX7_sow_88 rfl (lv_at hl 2 rfl) ?_
      have g16 := ix_in (gd_l hf)
      replace hf := gd_r hf
      refine g_iast hx hb hK hw 1 0 rfl rfl g16 dX7_sow_89 (fun H locs hw => ?_)
      replace hw : Wd (dC, dI) A s.heap H locs (w_M aM cI cJ cZ (upd M_sorts M_rows.toNatClampNeg v1) M_values M_rows M_placeOf M_falling M_made M_runs M_allRuns M_begin M_size M_pool M_pooled M_ways M_merges M_takes M_taken M_parts M_every M_samples M_sample M_ends M_partSize M_merged M_most M_done M_on M_ticks M_mergedAll M_again M_paces M_up M_byHost M_heap M_used M_planned M_gone) := hw
      refine lv_aload_n hx hb dX7_sow_90 rfl (lv_at hl 1 rfl) ?_
      refine va_get (D := (dC, dI)) (ci := 7) (v := .ref (aM 2)) (C := RX7) (T := TX7) (N := 36) hx hb hts i_X7_sow_X7 hown hK hw.1 0 rfl rfl 1 (by decide) (hts _ m_X7_sow_3) (fun _ h9 => h9) rfl dX7_sow_91 ?_
      refine lv_aload_n hx hb dX7_sow_94 rfl (lv_at hl 1 rfl) ?_
      refine va_get (D := (dC, dI)) (ci := 7) (v := .int M_rows) (C := RX7) (T := TX7) (N := 36) hx hb hts i_X7_sow_X7 hown hK hw.1 0 rfl rfl 2 (by decide) (hts _ m_X7_sow_0) (fun _ h9 => h9) rfl dX7_sow_95 ?_
      refine lv_aload_n hx hb dX7_sow_98 rfl (lv_at hl 1 rfl) ?_
      refine va_get (D := (dC, dI)) (ci := 7) (v := .int M_rows) (C := RX7) (T := TX7) (N := 36) hx hb hts i_X7_sow_X7 hown hK hw.1 0 rfl rfl 2 (by decide) (hts _ m_X7_sow_0) (fun _ h9 => h9) rfl dX7_sow_99 ?_
      refine lv_iload hx hb dX7_sow_102 (lv_at hl 4 rfl) ?_
      refine lv_imul hx hb dX7_sow_104 ?_
      refine lv_iload hx hb dX7_sow_105 (lv_at hl 0 rfl) ?_
      refine lv_bipush (v := 8) hx hb dX7_sow_107 (by decide) ?_
      refine lv_iushr (v := (x15.toUInt32 >>> (((8 : Int32)).toUInt32 &&& Int32.toUInt32 31)).toInt32) hx hb dX7_sow_109 rfl ?_
      refine lv_iload hx hb dX7_sow_110 (lv_at hl 5 rfl) ?_
      have g17 := nz_ne (gd_l hf)
      replace hf := gd_r hf
      refine lv_irem hx hb dX7_sow_112 g17 ?_
      refine lv_iadd hx hb dX7_sow_113 ?_
      refine lv_topi (fun x18 ex18 => ?_)
      replace hf := nl_at hf ex18
      have g19 := ix_in (gd_l hf)
      replace hf := gd_r hf
      refine g_iast hx hb hK hw 2 0 rfl rfl g19 dX7_sow_114 (fun H locs hw => ?_)
      replace hw : Wd (dC, dI) A s.heap H locs (w_M aM cI cJ cZ (upd M_sorts M_rows.toNatClampNeg v1) (upd M_values M_rows.toNatClampNeg x18) M_rows M_placeOf M_falling M_made M_runs M_allRuns M_begin M_size M_pool M_pooled M_ways M_merges M_takes M_taken M_parts M_every M_samples M_sample M_ends M_partSize M_merged M_most M_done M_on M_ticks M_mergedAll M_again M_paces M_up M_byHost M_heap M_used M_planned M_gone) := hw
      refine lv_aload_n hx hb dX7_sow_115 rfl (lv_at hl 1 rfl) ?_
      refine lv_dup hx hb dX7_sow_116 rfl ?_
      refine va_get (D := (dC, dI)) (ci := 7) (v := .int M_rows) (C := RX7) (T := TX7) (N := 36) hx hb hts i_X7_sow_X7 hown hK hw.1 0 rfl rfl 2 (by decide) (hts _ m_X7_sow_0) (fun _ h9 => h9) rfl dX7_sow_117 ?_
      refine lv_iconst (v := 1) hx hb dX7_sow_120 (by decide) ?_
      refine lv_iadd hx hb dX7_sow_121 ?_
      refine lv_topi (fun x20 ex20 => ?_)
      replace hf := nl_at hf ex20
      refine g_put (D := (dC, dI)) (ci := 7) (v := .int x20) (ty := .int) (C := RX7) (T := TX7) (N := 36) hx hb hts i_X7_sow_X7 tyX7 tyX7_ok nmX7 hown hK hw 0 rfl rfl 2 (by decide) (hts _ m_X7_sow_0) (fun _ h9 => h9) rfl (by decide +kernel) rfl rfl (Nat.le_of_ble_eq_true rfl) dX7_sow_122 (fun H locs hw => ?_)
      replace hw : Wd (dC, dI) A s.heap H locs (w_M aM cI cJ cZ (upd M_sorts M_rows.toNatClampNeg v1) (upd M_values M_rows.toNatClampNeg x18) x20 M_placeOf M_falling M_made M_runs M_allRuns M_begin M_size M_pool M_pooled M_ways M_merges M_takes M_taken M_parts M_every M_samples M_sample M_ends M_partSize M_merged M_most M_done M_on M_ticks M_mergedAll M_again M_paces M_up M_byHost M_heap M_used M_planned M_gone) := hw
      obtain ⟨x21, ex21⟩ : ∃ y : Int32, y = v7 + 1 := ⟨_, rfl⟩
      replace hf := nl_at hf ex21
      refine lv_iinc (v := x21) (lv' := [(7, .int x21), (6, .int x15), (0, .ref (aM 0)), (1, .int v1), (2, .int v2), (4, .int v4), (5, .int v5)]) hx hb dX7_sow_125 hl (k := 6) rfl (by rw [ex21]; rfl) (by decide) rfl (fun ls hl => ?_)
      refine lv_goto (tgt := 63) hx hb dX7_sow_128 (by decide) ?_
      exact ih _ _ _ _ _ _ _ _ hf _ _ _ hw (lv_sub hl [2, 3, 4, 5, 6, 1, 0] rfl) kx
set_option maxHeartbeats 4000000 in
set_option maxRecDepth 100000 in
theorem c_X7_sow (l : Launch) (dC : Nat → ClassId) (dI : Nat → Nat → Nat) (cI cJ cZ : ClassId) (aM : Nat → Nat) (N : Nat) (M_sorts : (Nat → Int32)) (M_values : (Nat → Int32)) (M_rows : Int32) (M_placeOf : (Nat → Int32)) (M_falling : (Nat → Int32)) (M_made : Int32) (M_runs : Int32) (M_allRuns : Int32) (M_begin : (Nat → Int32)) (M_size : (Nat → Int32)) (M_pool : (Nat → Int32)) (M_pooled : Int32) (M_ways : Int32) (M_merges : Int32) (M_takes : (Nat → Int32)) (M_taken : (Nat → Int32)) (M_parts : Int32) (M_every : Int32) (M_samples : Int32) (M_sample : (Nat → Int32)) (M_ends : (Nat → Int32)) (M_partSize : (Nat → Int32)) (M_merged : (Nat → Int32)) (M_most : (Nat → Int32)) (M_done : (Nat → Int32)) (M_on : (Nat → Int32)) (M_ticks : Int32) (M_mergedAll : Int32) (M_again : Int32) (M_paces : (Nat → Int32)) (M_up : (Nat → Int32)) (M_byHost : (Nat → Int32)) (M_heap : (Nat → Int32)) (M_used : (Nat → Int32)) (M_planned : (Nat → Int32)) (M_gone : (Nat → Int32)) (v1 : Int32) (v2 : Int32) (v3 : Int32) (v4 : Int32) (v5 : Int32) {r : Int32} {o_M_sorts : (Nat → Int32)} {o_M_values : (Nat → Int32)} {o_M_rows : Int32} (hf : f_X7_sow N M_sorts M_values M_rows v1 v2 v3 v4 v5 = some (r, o_M_sorts, o_M_values, o_M_rows)) :
    CtI l yX7_sow wsX7_sow rm_X7_sow (dC, dI) (tyl cI cJ cZ) [.ref (aM 0), .int v1, .int v2, .int v3, .int v4, .int v5] (w_M aM cI cJ cZ M_sorts M_values M_rows M_placeOf M_falling M_made M_runs M_allRuns M_begin M_size M_pool M_pooled M_ways M_merges M_takes M_taken M_parts M_every M_samples M_sample M_ends M_partSize M_merged M_most M_done M_on M_ticks M_mergedAll M_again M_paces M_up M_byHost M_heap M_used M_planned M_gone) (w_M aM cI cJ cZ o_M_sorts o_M_values o_M_rows M_placeOf M_falling M_made M_runs M_allRuns M_begin M_size M_pool M_pooled M_ways M_merges M_takes M_taken M_parts M_every M_samples M_sample M_ends M_partSize M_merged M_most M_done M_on M_ticks M_mergedAll M_again M_paces M_up M_byHost M_heap M_used M_planned M_gone) r := by
  refine startI (cc := cX7_sow) (maxL := 8) (rt := (some .int)) (by decide +kernel) rfl (Nat.le_of_ble_eq_true rfl) ?_
  intro p e s m below meth c A ls X hr hlocks hw hl
  replace X : Cx p m c cX7_sow 8 s _ wsX7_sow RX7 (dC, dI) (tyl cI cJ cZ) A := X
  replace hl : lv_has ls 8 [(0, .ref (aM 0)), (1, .int v1), (2, .int v2), (3, .int v3), (4, .int v4), (5, .int v5)] := hl
  obtain ⟨hx, hb, hml, hown, hts⟩ := X.1
  have hK := X.2.1
  have hN := X.2.2.2
  unfold f_X7_sow at hf
  refine lv_iload_n hx hb dX7_sow_0 rfl (lv_at hl 1 rfl) ?_
  refine lv_iconst (v := 0) hx hb dX7_sow_1 (by decide) ?_
  refine lv_iconst (v := 3) hx hb dX7_sow_2 (by decide) ?_
  obtain ⟨r1, h2, hf⟩ := bd1_ob hf
  refine clSI (As := [.int v1, .int (0 : Int32), .int (3 : Int32)]) (rest := []) X (c_X7_is l dC dI cI cJ cZ N v1 (0 : Int32) (3 : Int32) h2) (va_cwS 3 hts gX7_sow_X7_is rfl rfl rfl (by decide +kernel) ⟨Nat.le_of_ble_eq_true rfl, Nat.le_of_ble_eq_true rfl⟩) hw [] rfl rfl rfl rfl hl.1 rfl (Nat.le_of_ble_eq_true rfl) dX7_sow_3 ⟨Nat.zero_le _, Nat.zero_le _⟩ (fun H locs hw => ?_)
  replace hw : Wd (dC, dI) A s.heap H locs (w_M aM cI cJ cZ M_sorts M_values M_rows M_placeOf M_falling M_made M_runs M_allRuns M_begin M_size M_pool M_pooled M_ways M_merges M_takes M_taken M_parts M_every M_samples M_sample M_ends M_partSize M_merged M_most M_done M_on M_ticks M_mergedAll M_again M_paces M_up M_byHost M_heap M_used M_planned M_gone) := hw
  refine lv_if_eq (tgt := 55) hx hb dX7_sow_6 (by decide) (fun b3 => ?_) (fun b3 => ?_)
  · replace hf := it_t hf b3
    refine lv_iconst (v := (-1)) hx hb dX7_sow_55 (by decide) ?_
    cases hf
    exact endI X hr rfl hlocks rfl hw dX7_sow_56
  · replace hf := it_f hf b3
    refine lv_iload_n hx hb dX7_sow_9 rfl (lv_at hl 2 rfl) ?_
    refine lv_iconst (v := 1) hx hb dX7_sow_10 (by decide) ?_
    refine lv_bipush (v := 100) hx hb dX7_sow_11 (by decide) ?_
    obtain ⟨r4, h5, hf⟩ := bd1_ob hf
    refine clSI (As := [.int v2, .int (1 : Int32), .int (100 : Int32)]) (rest := []) X (c_X7_is l dC dI cI cJ cZ N v2 (1 : Int32) (100 : Int32) h5) (va_cwS 3 hts gX7_sow_X7_is rfl rfl rfl (by decide +kernel) ⟨Nat.le_of_ble_eq_true rfl, Nat.le_of_ble_eq_true rfl⟩) hw [] rfl rfl rfl rfl hl.1 rfl (Nat.le_of_ble_eq_true rfl) dX7_sow_13 ⟨Nat.zero_le _, Nat.zero_le _⟩ (fun H locs hw => ?_)
    replace hw : Wd (dC, dI) A s.heap H locs (w_M aM cI cJ cZ M_sorts M_values M_rows M_placeOf M_falling M_made M_runs M_allRuns M_begin M_size M_pool M_pooled M_ways M_merges M_takes M_taken M_parts M_every M_samples M_sample M_ends M_partSize M_merged M_most M_done M_on M_ticks M_mergedAll M_again M_paces M_up M_byHost M_heap M_used M_planned M_gone) := hw
    refine lv_if_eq (tgt := 55) hx hb dX7_sow_16 (by decide) (fun b6 => ?_) (fun b6 => ?_)
    · replace hf := it_t hf b6
      refine lv_iconst (v := (-1)) hx hb dX7_sow_55 (by decide) ?_
      cases hf
      exact endI X hr rfl hlocks rfl hw dX7_sow_56
    · replace hf := it_f hf b6
      refine lv_iload hx hb dX7_sow_19 (lv_at hl 4 rfl) ?_
      refine lv_bipush (v := (-100)) hx hb dX7_sow_21 (by decide) ?_
      refine lv_bipush (v := 100) hx hb dX7_sow_23 (by decide) ?_
      obtain ⟨r7, h8, hf⟩ := bd1_ob hf
      refine clSI (As := [.int v4, .int (-100 : Int32), .int (100 : Int32)]) (rest := []) X (c_X7_is l dC dI cI cJ cZ N v4 (-100 : Int32) (100 : Int32) h8) (va_cwS 3 hts gX7_sow_X7_is rfl rfl rfl (by decide +kernel) ⟨Nat.le_of_ble_eq_true rfl, Nat.le_of_ble_eq_true rfl⟩) hw [] rfl rfl rfl rfl hl.1 rfl (Nat.le_of_ble_eq_true rfl) dX7_sow_25 ⟨Nat.zero_le _, Nat.zero_le _⟩ (fun H locs hw => ?_)
      replace hw : Wd (dC, dI) A s.heap H locs (w_M aM cI cJ cZ M_sorts M_values M_rows M_placeOf M_falling M_made M_runs M_allRuns M_begin M_size M_pool M_pooled M_ways M_merges M_takes M_taken M_parts M_every M_samples M_sample M_ends M_partSize M_merged M_most M_done M_on M_ticks M_mergedAll M_again M_paces M_up M_byHost M_heap M_used M_planned M_gone) := hw
      refine lv_if_eq (tgt := 55) hx hb dX7_sow_28 (by decide) (fun b9 => ?_) (fun b9 => ?_)
      · replace hf := it_t hf b9
        refine lv_iconst (v := (-1)) hx hb dX7_sow_55 (by decide) ?_
        cases hf
        exact endI X hr rfl hlocks rfl hw dX7_sow_56
      · replace hf := it_f hf b9
        refine lv_iload hx hb dX7_sow_31 (lv_at hl 5 rfl) ?_
        refine lv_iconst (v := 1) hx hb dX7_sow_33 (by decide) ?_
        refine lv_sipush (v := 10000) hx hb dX7_sow_34 (by decide) ?_
        obtain ⟨r10, h11, hf⟩ := bd1_ob hf
        refine clSI (As := [.int v5, .int (1 : Int32), .int (10000 : Int32)]) (rest := []) X (c_X7_is l dC dI cI cJ cZ N v5 (1 : Int32) (10000 : Int32) h11) (va_cwS 3 hts gX7_sow_X7_is rfl rfl rfl (by decide +kernel) ⟨Nat.le_of_ble_eq_true rfl, Nat.le_of_ble_eq_true rfl⟩) hw [] rfl rfl rfl rfl hl.1 rfl (Nat.le_of_ble_eq_true rfl) dX7_sow_37 ⟨Nat.zero_le _, Nat.zero_le _⟩ (fun H locs hw => ?_)
        replace hw : Wd (dC, dI) A s.heap H locs (w_M aM cI cJ cZ M_sorts M_values M_rows M_placeOf M_falling M_made M_runs M_allRuns M_begin M_size M_pool M_pooled M_ways M_merges M_takes M_taken M_parts M_every M_samples M_sample M_ends M_partSize M_merged M_most M_done M_on M_ticks M_mergedAll M_again M_paces M_up M_byHost M_heap M_used M_planned M_gone) := hw
        refine lv_if_eq (tgt := 55) hx hb dX7_sow_40 (by decide) (fun b12 => ?_) (fun b12 => ?_)
        · replace hf := it_t hf b12
          refine lv_iconst (v := (-1)) hx hb dX7_sow_55 (by decide) ?_
          cases hf
          exact endI X hr rfl hlocks rfl hw dX7_sow_56
        · replace hf := it_f hf b12
          refine lv_aload_n hx hb dX7_sow_43 rfl (lv_at hl 0 rfl) ?_
          refine va_get (D := (dC, dI)) (ci := 7) (v := .int M_rows) (C := RX7) (T := TX7) (N := 36) hx hb hts i_X7_sow_X7 hown hK hw.1 0 rfl rfl 2 (by decide) (hts _ m_X7_sow_0) (fun _ h9 => h9) rfl dX7_sow_44 ?_
          refine lv_iload_n hx hb dX7_sow_47 rfl (lv_at hl 2 rfl) ?_
          refine lv_iadd hx hb dX7_sow_48 ?_
          refine lv_sipush (v := 400) hx hb dX7_sow_49 (by decide) ?_
          refine lv_icmp_le (tgt := 57) hx hb dX7_sow_52 (by decide) (fun b13 => ?_) (fun b13 => ?_)
          · replace hf := it_t hf b13
            refine lv_iload_n hx hb dX7_sow_57 rfl (lv_at hl 3 rfl) ?_
            refine lv_istore (lv' := [(6, .int v3), (0, .ref (aM 0)), (1, .int v1), (2, .int v2), (3, .int v3), (4, .int v4), (5, .int v5)]) hx hb dX7_sow_58 hl (by decide) rfl (fun ls hl => ?_)
            refine lv_iconst (v := 0) hx hb dX7_sow_60 (by decide) ?_
            refine lv_istore (lv' := [(7, .int 0), (6, .int v3), (0, .ref (aM 0)), (1, .int v1), (2, .int v2), (3, .int v3), (4, .int v4), (5, .int v5)]) hx hb dX7_sow_61 hl (by decide) rfl (fun ls hl => ?_)
            obtain ⟨e22, e23, e24, h25, hf⟩ := bd3_ob hf
            refine t_X7_sow_63 aM X N M_placeOf M_falling M_made M_runs M_allRuns M_begin M_size M_pool M_pooled M_ways M_merges M_takes M_taken M_parts M_every M_samples M_sample M_ends M_partSize M_merged M_most M_done M_on M_ticks M_mergedAll M_again M_paces M_up M_byHost M_heap M_used M_planned M_gone v1 v2 v4 v5 N _ _ _ _ _ _ _ _ h25 _ _ _ hw (lv_sub hl [2, 3, 4, 6, 7, 1, 0] rfl) (fun H locs ls hw hl => ?_)
            refine lv_aload_n hx hb dX7_sow_131 rfl (lv_at hl 0 rfl) ?_
            refine va_get (D := (dC, dI)) (ci := 7) (v := .int e24) (C := RX7) (T := TX7) (N := 36) hx hb hts i_X7_sow_X7 hown hK hw.1 0 rfl rfl 2 (by decide) (hts _ m_X7_sow_0) (fun _ h9 => h9) rfl dX7_sow_132 ?_
            cases hf
            exact endI X hr rfl hlocks rfl hw dX7_sow_135
          · replace hf := it_f hf b13
            refine lv_iconst (v := (-1)) hx hb dX7_sow_55 (by decide) ?_
            cases hf
            exact endI X hr rfl hlocks rfl hw dX7_sow_56
def rm_X7_clear : Room := { frames := 0, cells := 0, slots := 0, locals := 0 }
set_option maxRecDepth 20000 in
theorem i_X7_clear_X7 : ∀ w ∈ u_ws RX7 TX7 36, w ∈ wsX7_clear := by decide +kernel
set_option maxRecDepth 20000 in
theorem m_X7_clear_0 : Cond.fieldLink RX7 16 "GreatSortModel" "rows" "I" ∈ wsX7_clear := by decide +kernel
set_option maxRecDepth 20000 in
theorem m_X7_clear_1 : Cond.fieldLink RX7 27 "GreatSortModel" "made" "Z" ∈ wsX7_clear := by decide +kernel
set_option maxRecDepth 20000 in
theorem m_X7_clear_2 : Cond.fieldLink RX7 31 "GreatSortModel" "runs" "I" ∈ wsX7_clear := by decide +kernel
set_option maxRecDepth 20000 in
theorem m_X7_clear_3 : Cond.fieldLink RX7 34 "GreatSortModel" "allRuns" "I" ∈ wsX7_clear := by decide +kernel
set_option maxRecDepth 20000 in
theorem m_X7_clear_4 : Cond.fieldLink RX7 50 "GreatSortModel" "ways" "I" ∈ wsX7_clear := by decide +kernel
set_option maxRecDepth 20000 in
theorem m_X7_clear_5 : Cond.fieldLink RX7 53 "GreatSortModel" "merges" "I" ∈ wsX7_clear := by decide +kernel
set_option maxRecDepth 20000 in
theorem m_X7_clear_6 : Cond.fieldLink RX7 62 "GreatSortModel" "parts" "I" ∈ wsX7_clear := by decide +kernel
set_option maxRecDepth 20000 in
theorem m_X7_clear_7 : Cond.fieldLink RX7 68 "GreatSortModel" "samples" "I" ∈ wsX7_clear := by decide +kernel
set_option maxHeartbeats 4000000 in
set_option maxRecDepth 100000 in
theorem c_X7_clear (l : Launch) (dC : Nat → ClassId) (dI : Nat → Nat → Nat) (cI cJ cZ : ClassId) (aM : Nat → Nat) (N : Nat) (M_sorts : (Nat → Int32)) (M_values : (Nat → Int32)) (M_rows : Int32) (M_placeOf : (Nat → Int32)) (M_falling : (Nat → Int32)) (M_made : Int32) (M_runs : Int32) (M_allRuns : Int32) (M_begin : (Nat → Int32)) (M_size : (Nat → Int32)) (M_pool : (Nat → Int32)) (M_pooled : Int32) (M_ways : Int32) (M_merges : Int32) (M_takes : (Nat → Int32)) (M_taken : (Nat → Int32)) (M_parts : Int32) (M_every : Int32) (M_samples : Int32) (M_sample : (Nat → Int32)) (M_ends : (Nat → Int32)) (M_partSize : (Nat → Int32)) (M_merged : (Nat → Int32)) (M_most : (Nat → Int32)) (M_done : (Nat → Int32)) (M_on : (Nat → Int32)) (M_ticks : Int32) (M_mergedAll : Int32) (M_again : Int32) (M_paces : (Nat → Int32)) (M_up : (Nat → Int32)) (M_byHost : (Nat → Int32)) (M_heap : (Nat → Int32)) (M_used : (Nat → Int32)) (M_planned : (Nat → Int32)) (M_gone : (Nat → Int32))  {r : Int32} {o_M_rows : Int32} {o_M_made : Int32} {o_M_runs : Int32} {o_M_allRuns : Int32} {o_M_ways : Int32} {o_M_merges : Int32} {o_M_parts : Int32} {o_M_samples : Int32} (hf : f_X7_clear N M_rows M_made M_runs M_allRuns M_ways M_merges M_parts M_samples  = some (r, o_M_rows, o_M_made, o_M_runs, o_M_allRuns, o_M_ways, o_M_merges, o_M_parts, o_M_samples)) :
    CtI l yX7_clear wsX7_clear rm_X7_clear (dC, dI) (tyl cI cJ cZ) [.ref (aM 0)] (w_M aM cI cJ cZ M_sorts M_values M_rows M_placeOf M_falling M_made M_runs M_allRuns M_begin M_size M_pool M_pooled M_ways M_merges M_takes M_taken M_parts M_every M_samples M_sample M_ends M_partSize M_merged M_most M_done M_on M_ticks M_mergedAll M_again M_paces M_up M_byHost M_heap M_used M_planned M_gone) (w_M aM cI cJ cZ M_sorts M_values o_M_rows M_placeOf M_falling o_M_made o_M_runs o_M_allRuns M_begin M_size M_pool M_pooled o_M_ways o_M_merges M_takes M_taken o_M_parts M_every o_M_samples M_sample M_ends M_partSize M_merged M_most M_done M_on M_ticks M_mergedAll M_again M_paces M_up M_byHost M_heap M_used M_planned M_gone) r := by
  refine startI (cc := cX7_clear) (maxL := 2) (rt := (some .int)) (by decide +kernel) rfl (Nat.le_of_ble_eq_true rfl) ?_
  intro p e s m below meth c A ls X hr hlocks hw hl
  replace X : Cx p m c cX7_clear 2 s _ wsX7_clear RX7 (dC, dI) (tyl cI cJ cZ) A := X
  replace hl : lv_has ls 2 [(0, .ref (aM 0))] := hl
  obtain ⟨hx, hb, hml, hown, hts⟩ := X.1
  have hK := X.2.1
  have hN := X.2.2.2
  unfold f_X7_clear at hf
  refine lv_aload_n hx hb dX7_clear_0 rfl (lv_at hl 0 rfl) ?_
  refine va_get (D := (dC, dI)) (ci := 7) (v := .int M_rows) (C := RX7) (T := TX7) (N := 36) hx hb hts i_X7_clear_X7 hown hK hw.1 0 rfl rfl 2 (by decide) (hts _ m_X7_clear_0) (fun _ h9 => h9) rfl dX7_clear_1 ?_
  refine lv_istore_n (lv' := [(1, .int M_rows), (0, .ref (aM 0))]) hx hb dX7_clear_4 rfl hl (by decide) rfl (fun ls hl => ?_)
  refine lv_aload_n hx hb dX7_clear_5 rfl (lv_at hl 1 rfl) ?_
  refine lv_iconst (v := 0) hx hb dX7_clear_6 (by decide) ?_
  refine g_put (D := (dC, dI)) (ci := 7) (v := .int 0) (ty := .int) (C := RX7) (T := TX7) (N := 36) hx hb hts i_X7_clear_X7 tyX7 tyX7_ok nmX7 hown hK hw 0 rfl rfl 2 (by decide) (hts _ m_X7_clear_0) (fun _ h9 => h9) rfl (by decide +kernel) rfl rfl (Nat.le_of_ble_eq_true rfl) dX7_clear_7 (fun H locs hw => ?_)
  replace hw : Wd (dC, dI) A s.heap H locs (w_M aM cI cJ cZ M_sorts M_values 0 M_placeOf M_falling M_made M_runs M_allRuns M_begin M_size M_pool M_pooled M_ways M_merges M_takes M_taken M_parts M_every M_samples M_sample M_ends M_partSize M_merged M_most M_done M_on M_ticks M_mergedAll M_again M_paces M_up M_byHost M_heap M_used M_planned M_gone) := hw
  refine lv_aload_n hx hb dX7_clear_10 rfl (lv_at hl 1 rfl) ?_
  refine lv_iconst (v := 0) hx hb dX7_clear_11 (by decide) ?_
  refine g_put (D := (dC, dI)) (ci := 7) (v := .int 0) (ty := .boolean) (C := RX7) (T := TX7) (N := 36) hx hb hts i_X7_clear_X7 tyX7 tyX7_ok nmX7 hown hK hw 0 rfl rfl 5 (by decide) (hts _ m_X7_clear_1) (fun _ h9 => h9) rfl (by decide +kernel) (by decide) (by decide) (Nat.le_of_ble_eq_true rfl) dX7_clear_12 (fun H locs hw => ?_)
  replace hw : Wd (dC, dI) A s.heap H locs (w_M aM cI cJ cZ M_sorts M_values 0 M_placeOf M_falling 0 M_runs M_allRuns M_begin M_size M_pool M_pooled M_ways M_merges M_takes M_taken M_parts M_every M_samples M_sample M_ends M_partSize M_merged M_most M_done M_on M_ticks M_mergedAll M_again M_paces M_up M_byHost M_heap M_used M_planned M_gone) := hw
  refine lv_aload_n hx hb dX7_clear_15 rfl (lv_at hl 1 rfl) ?_
  refine lv_iconst (v := 0) hx hb dX7_clear_16 (by decide) ?_
  refine g_put (D := (dC, dI)) (ci := 7) (v := .int 0) (ty := .int) (C := RX7) (T := TX7) (N := 36) hx hb hts i_X7_clear_X7 tyX7 tyX7_ok nmX7 hown hK hw 0 rfl rfl 6 (by decide) (hts _ m_X7_clear_2) (fun _ h9 => h9) rfl (by decide +kernel) rfl rfl (Nat.le_of_ble_eq_true rfl) dX7_clear_17 (fun H locs hw => ?_)
  replace hw : Wd (dC, dI) A s.heap H locs (w_M aM cI cJ cZ M_sorts M_values 0 M_placeOf M_falling 0 0 M_allRuns M_begin M_size M_pool M_pooled M_ways M_merges M_takes M_taken M_parts M_every M_samples M_sample M_ends M_partSize M_merged M_most M_done M_on M_ticks M_mergedAll M_again M_paces M_up M_byHost M_heap M_used M_planned M_gone) := hw
  refine lv_aload_n hx hb dX7_clear_20 rfl (lv_at hl 1 rfl) ?_
  refine lv_iconst (v := 0) hx hb dX7_clear_21 (by decide) ?_
  refine g_put (D := (dC, dI)) (ci := 7) (v := .int 0) (ty := .int) (C := RX7) (T := TX7) (N := 36) hx hb hts i_X7_clear_X7 tyX7 tyX7_ok nmX7 hown hK hw 0 rfl rfl 7 (by decide) (hts _ m_X7_clear_3) (fun _ h9 => h9) rfl (by decide +kernel) rfl rfl (Nat.le_of_ble_eq_true rfl) dX7_clear_22 (fun H locs hw => ?_)
  replace hw : Wd (dC, dI) A s.heap H locs (w_M aM cI cJ cZ M_sorts M_values 0 M_placeOf M_falling 0 0 0 M_begin M_size M_pool M_pooled M_ways M_merges M_takes M_taken M_parts M_every M_samples M_sample M_ends M_partSize M_merged M_most M_done M_on M_ticks M_mergedAll M_again M_paces M_up M_byHost M_heap M_used M_planned M_gone) := hw
  refine lv_aload_n hx hb dX7_clear_25 rfl (lv_at hl 1 rfl) ?_
  refine lv_iconst (v := (-1)) hx hb dX7_clear_26 (by decide) ?_
  refine g_put (D := (dC, dI)) (ci := 7) (v := .int (-1)) (ty := .int) (C := RX7) (T := TX7) (N := 36) hx hb hts i_X7_clear_X7 tyX7 tyX7_ok nmX7 hown hK hw 0 rfl rfl 12 (by decide) (hts _ m_X7_clear_4) (fun _ h9 => h9) rfl (by decide +kernel) rfl rfl (Nat.le_of_ble_eq_true rfl) dX7_clear_27 (fun H locs hw => ?_)
  replace hw : Wd (dC, dI) A s.heap H locs (w_M aM cI cJ cZ M_sorts M_values 0 M_placeOf M_falling 0 0 0 M_begin M_size M_pool M_pooled (-1) M_merges M_takes M_taken M_parts M_every M_samples M_sample M_ends M_partSize M_merged M_most M_done M_on M_ticks M_mergedAll M_again M_paces M_up M_byHost M_heap M_used M_planned M_gone) := hw
  refine lv_aload_n hx hb dX7_clear_30 rfl (lv_at hl 1 rfl) ?_
  refine lv_iconst (v := 0) hx hb dX7_clear_31 (by decide) ?_
  refine g_put (D := (dC, dI)) (ci := 7) (v := .int 0) (ty := .int) (C := RX7) (T := TX7) (N := 36) hx hb hts i_X7_clear_X7 tyX7 tyX7_ok nmX7 hown hK hw 0 rfl rfl 13 (by decide) (hts _ m_X7_clear_5) (fun _ h9 => h9) rfl (by decide +kernel) rfl rfl (Nat.le_of_ble_eq_true rfl) dX7_clear_32 (fun H locs hw => ?_)
  replace hw : Wd (dC, dI) A s.heap H locs (w_M aM cI cJ cZ M_sorts M_values 0 M_placeOf M_falling 0 0 0 M_begin M_size M_pool M_pooled (-1) 0 M_takes M_taken M_parts M_every M_samples M_sample M_ends M_partSize M_merged M_most M_done M_on M_ticks M_mergedAll M_again M_paces M_up M_byHost M_heap M_used M_planned M_gone) := hw
  refine lv_aload_n hx hb dX7_clear_35 rfl (lv_at hl 1 rfl) ?_
  refine lv_iconst (v := 0) hx hb dX7_clear_36 (by decide) ?_
  refine g_put (D := (dC, dI)) (ci := 7) (v := .int 0) (ty := .int) (C := RX7) (T := TX7) (N := 36) hx hb hts i_X7_clear_X7 tyX7 tyX7_ok nmX7 hown hK hw 0 rfl rfl 16 (by decide) (hts _ m_X7_clear_6) (fun _ h9 => h9) rfl (by decide +kernel) rfl rfl (Nat.le_of_ble_eq_true rfl) dX7_clear_37 (fun H locs hw => ?_)
  replace hw : Wd (dC, dI) A s.heap H locs (w_M aM cI cJ cZ M_sorts M_values 0 M_placeOf M_falling 0 0 0 M_begin M_size M_pool M_pooled (-1) 0 M_takes M_taken 0 M_every M_samples M_sample M_ends M_partSize M_merged M_most M_done M_on M_ticks M_mergedAll M_again M_paces M_up M_byHost M_heap M_used M_planned M_gone) := hw
  refine lv_aload_n hx hb dX7_clear_40 rfl (lv_at hl 1 rfl) ?_
  refine lv_iconst (v := 0) hx hb dX7_clear_41 (by decide) ?_
  refine g_put (D := (dC, dI)) (ci := 7) (v := .int 0) (ty := .int) (C := RX7) (T := TX7) (N := 36) hx hb hts i_X7_clear_X7 tyX7 tyX7_ok nmX7 hown hK hw 0 rfl rfl 18 (by decide) (hts _ m_X7_clear_7) (fun _ h9 => h9) rfl (by decide +kernel) rfl rfl (Nat.le_of_ble_eq_true rfl) dX7_clear_42 (fun H locs hw => ?_)
  replace hw : Wd (dC, dI) A s.heap H locs (w_M aM cI cJ cZ M_sorts M_values 0 M_placeOf M_falling 0 0 0 M_begin M_size M_pool M_pooled (-1) 0 M_takes M_taken 0 M_every 0 M_sample M_ends M_partSize M_merged M_most M_done M_on M_ticks M_mergedAll M_again M_paces M_up M_byHost M_heap M_used M_planned M_gone) := hw
  refine lv_iload_n hx hb dX7_clear_45 rfl (lv_at hl 0 rfl) ?_
  cases hf
  exact endI X hr rfl hlocks rfl hw dX7_clear_46
def rm_X7_order : Room := { frames := 1, cells := 0, slots := 0, locals := 22 }
set_option maxRecDepth 20000 in
theorem i_X7_order_X7 : ∀ w ∈ u_ws RX7 TX7 36, w ∈ wsX7_order := by decide +kernel
set_option maxRecDepth 20000 in
theorem m_X7_order_0 : Cond.fieldLink RX7 27 "GreatSortModel" "made" "Z" ∈ wsX7_order := by decide +kernel
set_option maxRecDepth 20000 in
theorem m_X7_order_1 : Cond.fieldLink RX7 20 "GreatSortModel" "placeOf" "[I" ∈ wsX7_order := by decide +kernel
set_option maxHeartbeats 4000000 in
set_option maxRecDepth 100000 in
theorem c_X7_order (l : Launch) (dC : Nat → ClassId) (dI : Nat → Nat → Nat) (cI cJ cZ : ClassId) (aM : Nat → Nat) (N : Nat) (M_sorts : (Nat → Int32)) (M_values : (Nat → Int32)) (M_rows : Int32) (M_placeOf : (Nat → Int32)) (M_falling : (Nat → Int32)) (M_made : Int32) (M_runs : Int32) (M_allRuns : Int32) (M_begin : (Nat → Int32)) (M_size : (Nat → Int32)) (M_pool : (Nat → Int32)) (M_pooled : Int32) (M_ways : Int32) (M_merges : Int32) (M_takes : (Nat → Int32)) (M_taken : (Nat → Int32)) (M_parts : Int32) (M_every : Int32) (M_samples : Int32) (M_sample : (Nat → Int32)) (M_ends : (Nat → Int32)) (M_partSize : (Nat → Int32)) (M_merged : (Nat → Int32)) (M_most : (Nat → Int32)) (M_done : (Nat → Int32)) (M_on : (Nat → Int32)) (M_ticks : Int32) (M_mergedAll : Int32) (M_again : Int32) (M_paces : (Nat → Int32)) (M_up : (Nat → Int32)) (M_byHost : (Nat → Int32)) (M_heap : (Nat → Int32)) (M_used : (Nat → Int32)) (M_planned : (Nat → Int32)) (M_gone : (Nat → Int32)) (v1 : Int32) (v2 : Int32) (v3 : Int32) (v4 : Int32) {r : Int32} {o_M_placeOf : (Nat → Int32)} (hf : f_X7_order N M_placeOf M_made v1 v2 v3 v4 = some (r, o_M_placeOf)) :
    CtI l yX7_order wsX7_order rm_X7_order (dC, dI) (tyl cI cJ cZ) [.ref (aM 0), .int v1, .int v2, .int v3, .int v4] (w_M aM cI cJ cZ M_sorts M_values M_rows M_placeOf M_falling M_made M_runs M_allRuns M_begin M_size M_pool M_pooled M_ways M_merges M_takes M_taken M_parts M_every M_samples M_sample M_ends M_partSize M_merged M_most M_done M_on M_ticks M_mergedAll M_again M_paces M_up M_byHost M_heap M_used M_planned M_gone) (w_M aM cI cJ cZ M_sorts M_values M_rows o_M_placeOf M_falling M_made M_runs M_allRuns M_begin M_size M_pool M_pooled M_ways M_merges M_takes M_taken M_parts M_every M_samples M_sample M_ends M_partSize M_merged M_most M_done M_on M_ticks M_mergedAll M_again M_paces M_up M_byHost M_heap M_used M_planned M_gone) r := by
  refine startI (cc := cX7_order) (maxL := 5) (rt := (some .boolean)) (by decide +kernel) rfl (Nat.le_of_ble_eq_true rfl) ?_
  intro p e s m below meth c A ls X hr hlocks hw hl
  replace X : Cx p m c cX7_order 5 s _ wsX7_order RX7 (dC, dI) (tyl cI cJ cZ) A := X
  replace hl : lv_has ls 5 [(0, .ref (aM 0)), (1, .int v1), (2, .int v2), (3, .int v3), (4, .int v4)] := hl
  obtain ⟨hx, hb, hml, hown, hts⟩ := X.1
  have hK := X.2.1
  have hN := X.2.2.2
  unfold f_X7_order at hf
  refine lv_aload_n hx hb dX7_order_0 rfl (lv_at hl 0 rfl) ?_
  refine va_get (D := (dC, dI)) (ci := 7) (v := .int M_made) (C := RX7) (T := TX7) (N := 36) hx hb hts i_X7_order_X7 hown hK hw.1 0 rfl rfl 5 (by decide) (hts _ m_X7_order_0) (fun _ h9 => h9) rfl dX7_order_1 ?_
  refine lv_if_ne (tgt := 77) hx hb dX7_order_4 (by decide) (fun b1 => ?_) (fun b1 => ?_)
  · replace hf := it_f hf b1
    refine lv_iconst (v := 0) hx hb dX7_order_77 (by decide) ?_
    have g2 := bz_nar (gd_l hf)
    replace hf := gd_r hf
    cases hf
    exact endI X hr g2 hlocks rfl hw dX7_order_78
  · replace hf := it_t hf b1
    refine lv_iload_n hx hb dX7_order_7 rfl (lv_at hl 1 rfl) ?_
    refine lv_iconst (v := 0) hx hb dX7_order_8 (by decide) ?_
    refine lv_iconst (v := 3) hx hb dX7_order_9 (by decide) ?_
    obtain ⟨r3, h4, hf⟩ := bd1_ob hf
    refine clSI (As := [.int v1, .int (0 : Int32), .int (3 : Int32)]) (rest := []) X (c_X7_is l dC dI cI cJ cZ N v1 (0 : Int32) (3 : Int32) h4) (va_cwS 3 hts gX7_order_X7_is rfl rfl rfl (by decide +kernel) ⟨Nat.le_of_ble_eq_true rfl, Nat.le_of_ble_eq_true rfl⟩) hw [] rfl rfl rfl rfl hl.1 rfl (Nat.le_of_ble_eq_true rfl) dX7_order_10 ⟨Nat.zero_le _, Nat.zero_le _⟩ (fun H locs hw => ?_)
    replace hw : Wd (dC, dI) A s.heap H locs (w_M aM cI cJ cZ M_sorts M_values M_rows M_placeOf M_falling M_made M_runs M_allRuns M_begin M_size M_pool M_pooled M_ways M_merges M_takes M_taken M_parts M_every M_samples M_sample M_ends M_partSize M_merged M_most M_done M_on M_ticks M_mergedAll M_again M_paces M_up M_byHost M_heap M_used M_planned M_gone) := hw
    refine lv_if_eq (tgt := 77) hx hb dX7_order_13 (by decide) (fun b5 => ?_) (fun b5 => ?_)
    · replace hf := it_t hf b5
      refine lv_iconst (v := 0) hx hb dX7_order_77 (by decide) ?_
      have g6 := bz_nar (gd_l hf)
      replace hf := gd_r hf
      cases hf
      exact endI X hr g6 hlocks rfl hw dX7_order_78
    · replace hf := it_f hf b5
      refine lv_iload_n hx hb dX7_order_16 rfl (lv_at hl 2 rfl) ?_
      refine lv_iconst (v := 0) hx hb dX7_order_17 (by decide) ?_
      refine lv_iconst (v := 3) hx hb dX7_order_18 (by decide) ?_
      obtain ⟨r7, h8, hf⟩ := bd1_ob hf
      refine clSI (As := [.int v2, .int (0 : Int32), .int (3 : Int32)]) (rest := []) X (c_X7_is l dC dI cI cJ cZ N v2 (0 : Int32) (3 : Int32) h8) (va_cwS 3 hts gX7_order_X7_is rfl rfl rfl (by decide +kernel) ⟨Nat.le_of_ble_eq_true rfl, Nat.le_of_ble_eq_true rfl⟩) hw [] rfl rfl rfl rfl hl.1 rfl (Nat.le_of_ble_eq_true rfl) dX7_order_19 ⟨Nat.zero_le _, Nat.zero_le _⟩ (fun H locs hw => ?_)
      replace hw : Wd (dC, dI) A s.heap H locs (w_M aM cI cJ cZ M_sorts M_values M_rows M_placeOf M_falling M_made M_runs M_allRuns M_begin M_size M_pool M_pooled M_ways M_merges M_takes M_taken M_parts M_every M_samples M_sample M_ends M_partSize M_merged M_most M_done M_on M_ticks M_mergedAll M_again M_paces M_up M_byHost M_heap M_used M_planned M_gone) := hw
      refine lv_if_eq (tgt := 77) hx hb dX7_order_22 (by decide) (fun b9 => ?_) (fun b9 => ?_)
      · replace hf := it_t hf b9
        refine lv_iconst (v := 0) hx hb dX7_order_77 (by decide) ?_
        have g10 := bz_nar (gd_l hf)
        replace hf := gd_r hf
        cases hf
        exact endI X hr g10 hlocks rfl hw dX7_order_78
      · replace hf := it_f hf b9
        refine lv_iload_n hx hb dX7_order_25 rfl (lv_at hl 3 rfl) ?_
        refine lv_iconst (v := 0) hx hb dX7_order_26 (by decide) ?_
        refine lv_iconst (v := 3) hx hb dX7_order_27 (by decide) ?_
        obtain ⟨r11, h12, hf⟩ := bd1_ob hf
        refine clSI (As := [.int v3, .int (0 : Int32), .int (3 : Int32)]) (rest := []) X (c_X7_is l dC dI cI cJ cZ N v3 (0 : Int32) (3 : Int32) h12) (va_cwS 3 hts gX7_order_X7_is rfl rfl rfl (by decide +kernel) ⟨Nat.le_of_ble_eq_true rfl, Nat.le_of_ble_eq_true rfl⟩) hw [] rfl rfl rfl rfl hl.1 rfl (Nat.le_of_ble_eq_true rfl) dX7_order_28 ⟨Nat.zero_le _, Nat.zero_le _⟩ (fun H locs hw => ?_)
        replace hw : Wd (dC, dI) A s.heap H locs (w_M aM cI cJ cZ M_sorts M_values M_rows M_placeOf M_falling M_made M_runs M_allRuns M_begin M_size M_pool M_pooled M_ways M_merges M_takes M_taken M_parts M_every M_samples M_sample M_ends M_partSize M_merged M_most M_done M_on M_ticks M_mergedAll M_again M_paces M_up M_byHost M_heap M_used M_planned M_gone) := hw
        refine lv_if_eq (tgt := 77) hx hb dX7_order_31 (by decide) (fun b13 => ?_) (fun b13 => ?_)
        · replace hf := it_t hf b13
          refine lv_iconst (v := 0) hx hb dX7_order_77 (by decide) ?_
          have g14 := bz_nar (gd_l hf)
          replace hf := gd_r hf
          cases hf
          exact endI X hr g14 hlocks rfl hw dX7_order_78
        · replace hf := it_f hf b13
          refine lv_iload hx hb dX7_order_34 (lv_at hl 4 rfl) ?_
          refine lv_iconst (v := 0) hx hb dX7_order_36 (by decide) ?_
          refine lv_iconst (v := 3) hx hb dX7_order_37 (by decide) ?_
          obtain ⟨r15, h16, hf⟩ := bd1_ob hf
          refine clSI (As := [.int v4, .int (0 : Int32), .int (3 : Int32)]) (rest := []) X (c_X7_is l dC dI cI cJ cZ N v4 (0 : Int32) (3 : Int32) h16) (va_cwS 3 hts gX7_order_X7_is rfl rfl rfl (by decide +kernel) ⟨Nat.le_of_ble_eq_true rfl, Nat.le_of_ble_eq_true rfl⟩) hw [] rfl rfl rfl rfl hl.1 rfl (Nat.le_of_ble_eq_true rfl) dX7_order_38 ⟨Nat.zero_le _, Nat.zero_le _⟩ (fun H locs hw => ?_)
          replace hw : Wd (dC, dI) A s.heap H locs (w_M aM cI cJ cZ M_sorts M_values M_rows M_placeOf M_falling M_made M_runs M_allRuns M_begin M_size M_pool M_pooled M_ways M_merges M_takes M_taken M_parts M_every M_samples M_sample M_ends M_partSize M_merged M_most M_done M_on M_ticks M_mergedAll M_again M_paces M_up M_byHost M_heap M_used M_planned M_gone) := hw
          refine lv_if_eq (tgt := 77) hx hb dX7_order_41 (by decide) (fun b17 => ?_) (fun b17 => ?_)
          · replace hf := it_t hf b17
            refine lv_iconst (v := 0) hx hb dX7_order_77 (by decide) ?_
            have g18 := bz_nar (gd_l hf)
            replace hf := gd_r hf
            cases hf
            exact endI X hr g18 hlocks rfl hw dX7_order_78
          · replace hf := it_f hf b17
            refine lv_iload_n hx hb dX7_order_44 rfl (lv_at hl 1 rfl) ?_
            refine lv_iload_n hx hb dX7_order_45 rfl (lv_at hl 2 rfl) ?_
            refine lv_icmp_eq (tgt := 77) hx hb dX7_order_46 (by decide) (fun b19 => ?_) (fun b19 => ?_)
            · replace hf := it_t hf b19
              refine lv_iconst (v := 0) hx hb dX7_order_77 (by decide) ?_
              have g20 := bz_nar (gd_l hf)
              replace hf := gd_r hf
              cases hf
              exact endI X hr g20 hlocks rfl hw dX7_order_78
            · replace hf := it_f hf b19
              refine lv_iload_n hx hb dX7_order_49 rfl (lv_at hl 1 rfl) ?_
              refine lv_iload_n hx hb dX7_order_50 rfl (lv_at hl 3 rfl) ?_
              refine lv_icmp_eq (tgt := 77) hx hb dX7_order_51 (by decide) (fun b21 => ?_) (fun b21 => ?_)
              · replace hf := it_t hf b21
                refine lv_iconst (v := 0) hx hb dX7_order_77 (by decide) ?_
                have g22 := bz_nar (gd_l hf)
                replace hf := gd_r hf
                cases hf
                exact endI X hr g22 hlocks rfl hw dX7_order_78
              · replace hf := it_f hf b21
                refine lv_iload_n hx hb dX7_order_54 rfl (lv_at hl 1 rfl) ?_
                refine lv_iload hx hb dX7_order_55 (lv_at hl 4 rfl) ?_
                refine lv_icmp_eq (tgt := 77) hx hb dX7_order_57 (by decide) (fun b23 => ?_) (fun b23 => ?_)
                · replace hf := it_t hf b23
                  refine lv_iconst (v := 0) hx hb dX7_order_77 (by decide) ?_
                  have g24 := bz_nar (gd_l hf)
                  replace hf := gd_r hf
                  cases hf
                  exact endI X hr g24 hlocks rfl hw dX7_order_78
                · replace hf := it_f hf b23
                  refine lv_iload_n hx hb dX7_order_60 rfl (lv_at hl 2 rfl) ?_
                  refine lv_iload_n hx hb dX7_order_61 rfl (lv_at hl 3 rfl) ?_
                  refine lv_icmp_eq (tgt := 77) hx hb dX7_order_62 (by decide) (fun b25 => ?_) (fun b25 => ?_)
                  · replace hf := it_t hf b25
                    refine lv_iconst (v := 0) hx hb dX7_order_77 (by decide) ?_
                    have g26 := bz_nar (gd_l hf)
                    replace hf := gd_r hf
                    cases hf
                    exact endI X hr g26 hlocks rfl hw dX7_order_78
                  · replace hf := it_f hf b25
                    refine lv_iload_n hx hb dX7_order_65 rfl (lv_at hl 2 rfl) ?_
                    refine lv_iload hx hb dX7_order_66 (lv_at hl 4 rfl) ?_
                    refine lv_icmp_eq (tgt := 77) hx hb dX7_order_68 (by decide) (fun b27 => ?_) (fun b27 => ?_)
                    · replace hf := it_t hf b27
                      refine lv_iconst (v := 0) hx hb dX7_order_77 (by decide) ?_
                      have g28 := bz_nar (gd_l hf)
                      replace hf := gd_r hf
                      cases hf
                      exact endI X hr g28 hlocks rfl hw dX7_order_78
                    · replace hf := it_f hf b27
                      refine lv_iload_n hx hb dX7_order_71 rfl (lv_at hl 3 rfl) ?_
                      refine lv_iload hx hb dX7_order_72 (lv_at hl 4 rfl) ?_
                      refine lv_icmp_ne (tgt := 79) hx hb dX7_order_74 (by decide) (fun b29 => ?_) (fun b29 => ?_)
                      · replace hf := it_f hf b29
                        refine lv_aload_n hx hb dX7_order_79 rfl (lv_at hl 0 rfl) ?_
                        refine va_get (D := (dC, dI)) (ci := 7) (v := .ref (aM 3)) (C := RX7) (T := TX7) (N := 36) hx hb hts i_X7_order_X7 hown hK hw.1 0 rfl rfl 3 (by decide) (hts _ m_X7_order_1) (fun _ h9 => h9) rfl dX7_order_80 ?_
                        refine lv_iload_n hx hb dX7_order_83 rfl (lv_at hl 1 rfl) ?_
                        refine lv_iconst (v := 0) hx hb dX7_order_84 (by decide) ?_
                        have g30 := ix_in (gd_l hf)
                        replace hf := gd_r hf
                        refine g_iast hx hb hK hw 3 0 rfl rfl g30 dX7_order_85 (fun H locs hw => ?_)
                        replace hw : Wd (dC, dI) A s.heap H locs (w_M aM cI cJ cZ M_sorts M_values M_rows (upd M_placeOf v1.toNatClampNeg 0) M_falling M_made M_runs M_allRuns M_begin M_size M_pool M_pooled M_ways M_merges M_takes M_taken M_parts M_every M_samples M_sample M_ends M_partSize M_merged M_most M_done M_on M_ticks M_mergedAll M_again M_paces M_up M_byHost M_heap M_used M_planned M_gone) := hw
                        refine lv_aload_n hx hb dX7_order_86 rfl (lv_at hl 0 rfl) ?_
                        refine va_get (D := (dC, dI)) (ci := 7) (v := .ref (aM 3)) (C := RX7) (T := TX7) (N := 36) hx hb hts i_X7_order_X7 hown hK hw.1 0 rfl rfl 3 (by decide) (hts _ m_X7_order_1) (fun _ h9 => h9) rfl dX7_order_87 ?_
                        refine lv_iload_n hx hb dX7_order_90 rfl (lv_at hl 2 rfl) ?_
                        refine lv_iconst (v := 1) hx hb dX7_order_91 (by decide) ?_
                        have g31 := ix_in (gd_l hf)
                        replace hf := gd_r hf
                        refine g_iast hx hb hK hw 3 0 rfl rfl g31 dX7_order_92 (fun H locs hw => ?_)
                        replace hw : Wd (dC, dI) A s.heap H locs (w_M aM cI cJ cZ M_sorts M_values M_rows (upd (upd M_placeOf v1.toNatClampNeg 0) v2.toNatClampNeg 1) M_falling M_made M_runs M_allRuns M_begin M_size M_pool M_pooled M_ways M_merges M_takes M_taken M_parts M_every M_samples M_sample M_ends M_partSize M_merged M_most M_done M_on M_ticks M_mergedAll M_again M_paces M_up M_byHost M_heap M_used M_planned M_gone) := hw
                        refine lv_aload_n hx hb dX7_order_93 rfl (lv_at hl 0 rfl) ?_
                        refine va_get (D := (dC, dI)) (ci := 7) (v := .ref (aM 3)) (C := RX7) (T := TX7) (N := 36) hx hb hts i_X7_order_X7 hown hK hw.1 0 rfl rfl 3 (by decide) (hts _ m_X7_order_1) (fun _ h9 => h9) rfl dX7_order_94 ?_
                        refine lv_iload_n hx hb dX7_order_97 rfl (lv_at hl 3 rfl) ?_
                        refine lv_iconst (v := 2) hx hb dX7_order_98 (by decide) ?_
                        have g32 := ix_in (gd_l hf)
                        replace hf := gd_r hf
                        refine g_iast hx hb hK hw 3 0 rfl rfl g32 dX7_order_99 (fun H locs hw => ?_)
                        replace hw : Wd (dC, dI) A s.heap H locs (w_M aM cI cJ cZ M_sorts M_values M_rows (upd (upd (upd M_placeOf v1.toNatClampNeg 0) v2.toNatClampNeg 1) v3.toNatClampNeg 2) M_falling M_made M_runs M_allRuns M_begin M_size M_pool M_pooled M_ways M_merges M_takes M_taken M_parts M_every M_samples M_sample M_ends M_partSize M_merged M_most M_done M_on M_ticks M_mergedAll M_again M_paces M_up M_byHost M_heap M_used M_planned M_gone) := hw
                        refine lv_aload_n hx hb dX7_order_100 rfl (lv_at hl 0 rfl) ?_
                        refine va_get (D := (dC, dI)) (ci := 7) (v := .ref (aM 3)) (C := RX7) (T := TX7) (N := 36) hx hb hts i_X7_order_X7 hown hK hw.1 0 rfl rfl 3 (by decide) (hts _ m_X7_order_1) (fun _ h9 => h9) rfl dX7_order_101 ?_
                        refine lv_iload hx hb dX7_order_104 (lv_at hl 4 rfl) ?_
                        refine lv_iconst (v := 3) hx hb dX7_order_106 (by decide) ?_
                        have g33 := ix_in (gd_l hf)
                        replace hf := gd_r hf
                        refine g_iast hx hb hK hw 3 0 rfl rfl g33 dX7_order_107 (fun H locs hw => ?_)
                        replace hw : Wd (dC, dI) A s.heap H locs (w_M aM cI cJ cZ M_sorts M_values M_rows (upd (upd (upd (upd M_placeOf v1.toNatClampNeg 0) v2.toNatClampNeg 1) v3.toNatClampNeg 2) v4.toNatClampNeg 3) M_falling M_made M_runs M_allRuns M_begin M_size M_pool M_pooled M_ways M_merges M_takes M_taken M_parts M_every M_samples M_sample M_ends M_partSize M_merged M_most M_done M_on M_ticks M_mergedAll M_again M_paces M_up M_byHost M_heap M_used M_planned M_gone) := hw
                        refine lv_iconst (v := 1) hx hb dX7_order_108 (by decide) ?_
                        have g34 := bz_nar (gd_l hf)
                        replace hf := gd_r hf
                        cases hf
                        exact endI X hr g34 hlocks rfl hw dX7_order_109
                      · replace hf := it_t hf b29
                        refine lv_iconst (v := 0) hx hb dX7_order_77 (by decide) ?_
                        have g35 := bz_nar (gd_l hf)
                        replace hf := gd_r hf
                        cases hf
                        exact endI X hr g35 hlocks rfl hw dX7_order_78
def rm_X7_falls : Room := { frames := 1, cells := 0, slots := 0, locals := 22 }
set_option maxRecDepth 20000 in
theorem i_X7_falls_X7 : ∀ w ∈ u_ws RX7 TX7 36, w ∈ wsX7_falls := by decide +kernel
set_option maxRecDepth 20000 in
theorem m_X7_falls_0 : Cond.fieldLink RX7 27 "GreatSortModel" "made" "Z" ∈ wsX7_falls := by decide +kernel
set_option maxRecDepth 20000 in
theorem m_X7_falls_1 : Cond.fieldLink RX7 23 "GreatSortModel" "falling" "[Z" ∈ wsX7_falls := by decide +kernel
set_option maxHeartbeats 4000000 in
set_option maxRecDepth 100000 in
theorem c_X7_falls (l : Launch) (dC : Nat → ClassId) (dI : Nat → Nat → Nat) (cI cJ cZ : ClassId) (aM : Nat → Nat) (N : Nat) (M_sorts : (Nat → Int32)) (M_values : (Nat → Int32)) (M_rows : Int32) (M_placeOf : (Nat → Int32)) (M_falling : (Nat → Int32)) (M_made : Int32) (M_runs : Int32) (M_allRuns : Int32) (M_begin : (Nat → Int32)) (M_size : (Nat → Int32)) (M_pool : (Nat → Int32)) (M_pooled : Int32) (M_ways : Int32) (M_merges : Int32) (M_takes : (Nat → Int32)) (M_taken : (Nat → Int32)) (M_parts : Int32) (M_every : Int32) (M_samples : Int32) (M_sample : (Nat → Int32)) (M_ends : (Nat → Int32)) (M_partSize : (Nat → Int32)) (M_merged : (Nat → Int32)) (M_most : (Nat → Int32)) (M_done : (Nat → Int32)) (M_on : (Nat → Int32)) (M_ticks : Int32) (M_mergedAll : Int32) (M_again : Int32) (M_paces : (Nat → Int32)) (M_up : (Nat → Int32)) (M_byHost : (Nat → Int32)) (M_heap : (Nat → Int32)) (M_used : (Nat → Int32)) (M_planned : (Nat → Int32)) (M_gone : (Nat → Int32)) (v1 : Int32) (v2 : Int32) {r : Int32} {o_M_falling : (Nat → Int32)} (hf : f_X7_falls N M_falling M_made v1 v2 = some (r, o_M_falling)) :
    CtI l yX7_falls wsX7_falls rm_X7_falls (dC, dI) (tyl cI cJ cZ) [.ref (aM 0), .int v1, .int v2] (w_M aM cI cJ cZ M_sorts M_values M_rows M_placeOf M_falling M_made M_runs M_allRuns M_begin M_size M_pool M_pooled M_ways M_merges M_takes M_taken M_parts M_every M_samples M_sample M_ends M_partSize M_merged M_most M_done M_on M_ticks M_mergedAll M_again M_paces M_up M_byHost M_heap M_used M_planned M_gone) (w_M aM cI cJ cZ M_sorts M_values M_rows M_placeOf o_M_falling M_made M_runs M_allRuns M_begin M_size M_pool M_pooled M_ways M_merges M_takes M_taken M_parts M_every M_samples M_sample M_ends M_partSize M_merged M_most M_done M_on M_ticks M_mergedAll M_again M_paces M_up M_byHost M_heap M_used M_planned M_gone) r := by
  refine startI (cc := cX7_falls) (maxL := 3) (rt := (some .boolean)) (by decide +kernel) rfl (Nat.le_of_ble_eq_true rfl) ?_
  intro p e s m below meth c A ls X hr hlocks hw hl
  replace X : Cx p m c cX7_falls 3 s _ wsX7_falls RX7 (dC, dI) (tyl cI cJ cZ) A := X
  replace hl : lv_has ls 3 [(0, .ref (aM 0)), (1, .int v1), (2, .int v2)] := hl
  obtain ⟨hx, hb, hml, hown, hts⟩ := X.1
  have hK := X.2.1
  have hN := X.2.2.2
  unfold f_X7_falls at hf
  refine lv_aload_n hx hb dX7_falls_0 rfl (lv_at hl 0 rfl) ?_
  refine va_get (D := (dC, dI)) (ci := 7) (v := .int M_made) (C := RX7) (T := TX7) (N := 36) hx hb hts i_X7_falls_X7 hown hK hw.1 0 rfl rfl 5 (by decide) (hts _ m_X7_falls_0) (fun _ h9 => h9) rfl dX7_falls_1 ?_
  refine lv_if_ne (tgt := 16) hx hb dX7_falls_4 (by decide) (fun b1 => ?_) (fun b1 => ?_)
  · replace hf := it_f hf b1
    refine lv_iconst (v := 0) hx hb dX7_falls_16 (by decide) ?_
    have g2 := bz_nar (gd_l hf)
    replace hf := gd_r hf
    cases hf
    exact endI X hr g2 hlocks rfl hw dX7_falls_17
  · replace hf := it_t hf b1
    refine lv_iload_n hx hb dX7_falls_7 rfl (lv_at hl 1 rfl) ?_
    refine lv_iconst (v := 0) hx hb dX7_falls_8 (by decide) ?_
    refine lv_iconst (v := 3) hx hb dX7_falls_9 (by decide) ?_
    obtain ⟨r3, h4, hf⟩ := bd1_ob hf
    refine clSI (As := [.int v1, .int (0 : Int32), .int (3 : Int32)]) (rest := []) X (c_X7_is l dC dI cI cJ cZ N v1 (0 : Int32) (3 : Int32) h4) (va_cwS 3 hts gX7_falls_X7_is rfl rfl rfl (by decide +kernel) ⟨Nat.le_of_ble_eq_true rfl, Nat.le_of_ble_eq_true rfl⟩) hw [] rfl rfl rfl rfl hl.1 rfl (Nat.le_of_ble_eq_true rfl) dX7_falls_10 ⟨Nat.zero_le _, Nat.zero_le _⟩ (fun H locs hw => ?_)
    replace hw : Wd (dC, dI) A s.heap H locs (w_M aM cI cJ cZ M_sorts M_values M_rows M_placeOf M_falling M_made M_runs M_allRuns M_begin M_size M_pool M_pooled M_ways M_merges M_takes M_taken M_parts M_every M_samples M_sample M_ends M_partSize M_merged M_most M_done M_on M_ticks M_mergedAll M_again M_paces M_up M_byHost M_heap M_used M_planned M_gone) := hw
    refine lv_if_ne (tgt := 18) hx hb dX7_falls_13 (by decide) (fun b5 => ?_) (fun b5 => ?_)
    · replace hf := it_f hf b5
      refine lv_aload_n hx hb dX7_falls_18 rfl (lv_at hl 0 rfl) ?_
      refine va_get (D := (dC, dI)) (ci := 7) (v := .ref (aM 4)) (C := RX7) (T := TX7) (N := 36) hx hb hts i_X7_falls_X7 hown hK hw.1 0 rfl rfl 4 (by decide) (hts _ m_X7_falls_1) (fun _ h9 => h9) rfl dX7_falls_19 ?_
      refine lv_iload_n hx hb dX7_falls_22 rfl (lv_at hl 1 rfl) ?_
      refine lv_iload_n hx hb dX7_falls_23 rfl (lv_at hl 2 rfl) ?_
      have g6 := ix_in (gd_l hf)
      replace hf := gd_r hf
      refine g_zast hx hb hK hw 4 2 rfl rfl g6 dX7_falls_24 (fun H locs hw => ?_)
      replace hw : Wd (dC, dI) A s.heap H locs (w_M aM cI cJ cZ M_sorts M_values M_rows M_placeOf (upd M_falling v1.toNatClampNeg (vp_nar .boolean v2)) M_made M_runs M_allRuns M_begin M_size M_pool M_pooled M_ways M_merges M_takes M_taken M_parts M_every M_samples M_sample M_ends M_partSize M_merged M_most M_done M_on M_ticks M_mergedAll M_again M_paces M_up M_byHost M_heap M_used M_planned M_gone) := hw
      refine lv_iconst (v := 1) hx hb dX7_falls_25 (by decide) ?_
      have g7 := bz_nar (gd_l hf)
      replace hf := gd_r hf
      cases hf
      exact endI X hr g7 hlocks rfl hw dX7_falls_26
    · replace hf := it_t hf b5
      refine lv_iconst (v := 0) hx hb dX7_falls_16 (by decide) ?_
      have g8 := bz_nar (gd_l hf)
      replace hf := gd_r hf
      cases hf
      exact endI X hr g8 hlocks rfl hw dX7_falls_17
def rm_X7_isRow : Room := { frames := 0, cells := 0, slots := 0, locals := 0 }
set_option maxRecDepth 20000 in
theorem i_X7_isRow_X7 : ∀ w ∈ u_ws RX7 TX7 36, w ∈ wsX7_isRow := by decide +kernel
set_option maxRecDepth 20000 in
theorem m_X7_isRow_0 : Cond.fieldLink RX7 16 "GreatSortModel" "rows" "I" ∈ wsX7_isRow := by decide +kernel
set_option maxHeartbeats 4000000 in
set_option maxRecDepth 100000 in
theorem c_X7_isRow (l : Launch) (dC : Nat → ClassId) (dI : Nat → Nat → Nat) (cI cJ cZ : ClassId) (aM : Nat → Nat) (N : Nat) (M_sorts : (Nat → Int32)) (M_values : (Nat → Int32)) (M_rows : Int32) (M_placeOf : (Nat → Int32)) (M_falling : (Nat → Int32)) (M_made : Int32) (M_runs : Int32) (M_allRuns : Int32) (M_begin : (Nat → Int32)) (M_size : (Nat → Int32)) (M_pool : (Nat → Int32)) (M_pooled : Int32) (M_ways : Int32) (M_merges : Int32) (M_takes : (Nat → Int32)) (M_taken : (Nat → Int32)) (M_parts : Int32) (M_every : Int32) (M_samples : Int32) (M_sample : (Nat → Int32)) (M_ends : (Nat → Int32)) (M_partSize : (Nat → Int32)) (M_merged : (Nat → Int32)) (M_most : (Nat → Int32)) (M_done : (Nat → Int32)) (M_on : (Nat → Int32)) (M_ticks : Int32) (M_mergedAll : Int32) (M_again : Int32) (M_paces : (Nat → Int32)) (M_up : (Nat → Int32)) (M_byHost : (Nat → Int32)) (M_heap : (Nat → Int32)) (M_used : (Nat → Int32)) (M_planned : (Nat → Int32)) (M_gone : (Nat → Int32)) (v1 : Int32) {r : Int32} (hf : f_X7_isRow N M_rows v1 = some r) :
    CtI l yX7_isRow wsX7_isRow rm_X7_isRow (dC, dI) (tyl cI cJ cZ) [.ref (aM 0), .int v1] (w_M aM cI cJ cZ M_sorts M_values M_rows M_placeOf M_falling M_made M_runs M_allRuns M_begin M_size M_pool M_pooled M_ways M_merges M_takes M_taken M_parts M_every M_samples M_sample M_ends M_partSize M_merged M_most M_done M_on M_ticks M_mergedAll M_again M_paces M_up M_byHost M_heap M_used M_planned M_gone) (w_M aM cI cJ cZ M_sorts M_values M_rows M_placeOf M_falling M_made M_runs M_allRuns M_begin M_size M_pool M_pooled M_ways M_merges M_takes M_taken M_parts M_every M_samples M_sample M_ends M_partSize M_merged M_most M_done M_on M_ticks M_mergedAll M_again M_paces M_up M_byHost M_heap M_used M_planned M_gone) r := by
  refine startI (cc := cX7_isRow) (maxL := 2) (rt := (some .boolean)) (by decide +kernel) rfl (Nat.le_of_ble_eq_true rfl) ?_
  intro p e s m below meth c A ls X hr hlocks hw hl
  replace X : Cx p m c cX7_isRow 2 s _ wsX7_isRow RX7 (dC, dI) (tyl cI cJ cZ) A := X
  replace hl : lv_has ls 2 [(0, .ref (aM 0)), (1, .int v1)] := hl
  obtain ⟨hx, hb, hml, hown, hts⟩ := X.1
  have hK := X.2.1
  have hN := X.2.2.2
  unfold f_X7_isRow at hf
  refine lv_iload_n hx hb dX7_isRow_0 rfl (lv_at hl 1 rfl) ?_
  refine lv_if_lt (tgt := 16) hx hb dX7_isRow_1 (by decide) (fun b1 => ?_) (fun b1 => ?_)
  · replace hf := it_t hf b1
    refine lv_iconst (v := 0) hx hb dX7_isRow_16 (by decide) ?_
    have g2 := bz_nar (gd_l hf)
    replace hf := gd_r hf
    cases hf
    exact endI X hr g2 hlocks rfl hw dX7_isRow_17
  · replace hf := it_f hf b1
    refine lv_iload_n hx hb dX7_isRow_4 rfl (lv_at hl 1 rfl) ?_
    refine lv_aload_n hx hb dX7_isRow_5 rfl (lv_at hl 0 rfl) ?_
    refine va_get (D := (dC, dI)) (ci := 7) (v := .int M_rows) (C := RX7) (T := TX7) (N := 36) hx hb hts i_X7_isRow_X7 hown hK hw.1 0 rfl rfl 2 (by decide) (hts _ m_X7_isRow_0) (fun _ h9 => h9) rfl dX7_isRow_6 ?_
    refine lv_icmp_ge (tgt := 16) hx hb dX7_isRow_9 (by decide) (fun b3 => ?_) (fun b3 => ?_)
    · replace hf := it_t hf b3
      refine lv_iconst (v := 0) hx hb dX7_isRow_16 (by decide) ?_
      have g4 := bz_nar (gd_l hf)
      replace hf := gd_r hf
      cases hf
      exact endI X hr g4 hlocks rfl hw dX7_isRow_17
    · replace hf := it_f hf b3
      refine lv_iconst (v := 1) hx hb dX7_isRow_12 (by decide) ?_
      refine lv_goto (tgt := 17) hx hb dX7_isRow_13 (by decide) ?_
      have g5 := bz_nar (gd_l hf)
      replace hf := gd_r hf
      cases hf
      exact endI X hr g5 hlocks rfl hw dX7_isRow_17
def rm_X7_row : Room := { frames := 1, cells := 0, slots := 0, locals := 22 }
set_option maxRecDepth 20000 in
theorem i_X7_row_X7 : ∀ w ∈ u_ws RX7 TX7 36, w ∈ wsX7_row := by decide +kernel
set_option maxRecDepth 20000 in
theorem m_X7_row_0 : Cond.constant RX7 133 (-1000000) ∈ wsX7_row := by decide +kernel
set_option maxRecDepth 20000 in
theorem m_X7_row_1 : Cond.fieldLink RX7 13 "GreatSortModel" "values" "[I" ∈ wsX7_row := by decide +kernel
set_option maxRecDepth 20000 in
theorem m_X7_row_2 : Cond.fieldLink RX7 7 "GreatSortModel" "sorts" "[I" ∈ wsX7_row := by decide +kernel
set_option maxHeartbeats 4000000 in
set_option maxRecDepth 100000 in
theorem c_X7_row (l : Launch) (dC : Nat → ClassId) (dI : Nat → Nat → Nat) (cI cJ cZ : ClassId) (aM : Nat → Nat) (N : Nat) (M_sorts : (Nat → Int32)) (M_values : (Nat → Int32)) (M_rows : Int32) (M_placeOf : (Nat → Int32)) (M_falling : (Nat → Int32)) (M_made : Int32) (M_runs : Int32) (M_allRuns : Int32) (M_begin : (Nat → Int32)) (M_size : (Nat → Int32)) (M_pool : (Nat → Int32)) (M_pooled : Int32) (M_ways : Int32) (M_merges : Int32) (M_takes : (Nat → Int32)) (M_taken : (Nat → Int32)) (M_parts : Int32) (M_every : Int32) (M_samples : Int32) (M_sample : (Nat → Int32)) (M_ends : (Nat → Int32)) (M_partSize : (Nat → Int32)) (M_merged : (Nat → Int32)) (M_most : (Nat → Int32)) (M_done : (Nat → Int32)) (M_on : (Nat → Int32)) (M_ticks : Int32) (M_mergedAll : Int32) (M_again : Int32) (M_paces : (Nat → Int32)) (M_up : (Nat → Int32)) (M_byHost : (Nat → Int32)) (M_heap : (Nat → Int32)) (M_used : (Nat → Int32)) (M_planned : (Nat → Int32)) (M_gone : (Nat → Int32)) (v1 : Int32) (v2 : Int32) {r : Int32} (hf : f_X7_row N M_sorts M_values M_rows v1 v2 = some r) :
    CtI l yX7_row wsX7_row rm_X7_row (dC, dI) (tyl cI cJ cZ) [.ref (aM 0), .int v1, .int v2] (w_M aM cI cJ cZ M_sorts M_values M_rows M_placeOf M_falling M_made M_runs M_allRuns M_begin M_size M_pool M_pooled M_ways M_merges M_takes M_taken M_parts M_every M_samples M_sample M_ends M_partSize M_merged M_most M_done M_on M_ticks M_mergedAll M_again M_paces M_up M_byHost M_heap M_used M_planned M_gone) (w_M aM cI cJ cZ M_sorts M_values M_rows M_placeOf M_falling M_made M_runs M_allRuns M_begin M_size M_pool M_pooled M_ways M_merges M_takes M_taken M_parts M_every M_samples M_sample M_ends M_partSize M_merged M_most M_done M_on M_ticks M_mergedAll M_again M_paces M_up M_byHost M_heap M_used M_planned M_gone) r := by
  refine startI (cc := cX7_row) (maxL := 3) (rt := (some .int)) (by decide +kernel) rfl (Nat.le_of_ble_eq_true rfl) ?_
  intro p e s m below meth c A ls X hr hlocks hw hl
  replace X : Cx p m c cX7_row 3 s _ wsX7_row RX7 (dC, dI) (tyl cI cJ cZ) A := X
  replace hl : lv_has ls 3 [(0, .ref (aM 0)), (1, .int v1), (2, .int v2)] := hl
  obtain ⟨hx, hb, hml, hown, hts⟩ := X.1
  have hK := X.2.1
  have hN := X.2.2.2
  unfold f_X7_row at hf
  refine lv_aload_n hx hb dX7_row_0 rfl (lv_at hl 0 rfl) ?_
  refine lv_iload_n hx hb dX7_row_1 rfl (lv_at hl 1 rfl) ?_
  obtain ⟨r1, h2, hf⟩ := bd1_ob hf
  refine clFI (As := [.int v1]) (rest := []) X (c_X7_isRow l dC dI cI cJ cZ aM N M_sorts M_values M_rows M_placeOf M_falling M_made M_runs M_allRuns M_begin M_size M_pool M_pooled M_ways M_merges M_takes M_taken M_parts M_every M_samples M_sample M_ends M_partSize M_merged M_most M_done M_on M_ticks M_mergedAll M_again M_paces M_up M_byHost M_heap M_used M_planned M_gone v1 h2) (cwV 1 hts gX7_row_X7_isRow rfl rfl rfl (by decide +kernel) ⟨Nat.le_of_ble_eq_true rfl, Nat.le_of_ble_eq_true rfl⟩) (ci := 7) (k0 := 0) rfl rfl rfl hw rfl rfl hl.1 rfl (Nat.le_of_ble_eq_true rfl) dX7_row_2 ⟨Nat.zero_le _, Nat.zero_le _⟩ (fun H locs hw => ?_)
  refine lv_if_eq (tgt := 17) hx hb dX7_row_5 (by decide) (fun b3 => ?_) (fun b3 => ?_)
  · replace hf := it_t hf b3
    refine lv_ldc (v := (-1000000)) hx hb hown (hts _ m_X7_row_0) dX7_row_17 ?_
    refine lv_goto (tgt := 41) hx hb dX7_row_19 (by decide) ?_
    cases hf
    exact endI X hr rfl hlocks rfl hw dX7_row_41
  · replace hf := it_f hf b3
    refine lv_iload_n hx hb dX7_row_8 rfl (lv_at hl 2 rfl) ?_
    refine lv_iconst (v := 0) hx hb dX7_row_9 (by decide) ?_
    refine lv_iconst (v := 1) hx hb dX7_row_10 (by decide) ?_
    obtain ⟨r4, h5, hf⟩ := bd1_ob hf
    refine clSI (As := [.int v2, .int (0 : Int32), .int (1 : Int32)]) (rest := []) X (c_X7_is l dC dI cI cJ cZ N v2 (0 : Int32) (1 : Int32) h5) (va_cwS 3 hts gX7_row_X7_is rfl rfl rfl (by decide +kernel) ⟨Nat.le_of_ble_eq_true rfl, Nat.le_of_ble_eq_true rfl⟩) hw [] rfl rfl rfl rfl hl.1 rfl (Nat.le_of_ble_eq_true rfl) dX7_row_11 ⟨Nat.zero_le _, Nat.zero_le _⟩ (fun H locs hw => ?_)
    replace hw : Wd (dC, dI) A s.heap H locs (w_M aM cI cJ cZ M_sorts M_values M_rows M_placeOf M_falling M_made M_runs M_allRuns M_begin M_size M_pool M_pooled M_ways M_merges M_takes M_taken M_parts M_every M_samples M_sample M_ends M_partSize M_merged M_most M_done M_on M_ticks M_mergedAll M_again M_paces M_up M_byHost M_heap M_used M_planned M_gone) := hw
    refine lv_if_ne (tgt := 22) hx hb dX7_row_14 (by decide) (fun b6 => ?_) (fun b6 => ?_)
    · replace hf := it_f hf b6
      refine lv_iload_n hx hb dX7_row_22 rfl (lv_at hl 2 rfl) ?_
      refine lv_if_ne (tgt := 35) hx hb dX7_row_23 (by decide) (fun b7 => ?_) (fun b7 => ?_)
      · replace hf := it_f hf b7
        refine lv_aload_n hx hb dX7_row_35 rfl (lv_at hl 0 rfl) ?_
        refine va_get (D := (dC, dI)) (ci := 7) (v := .ref (aM 2)) (C := RX7) (T := TX7) (N := 36) hx hb hts i_X7_row_X7 hown hK hw.1 0 rfl rfl 1 (by decide) (hts _ m_X7_row_1) (fun _ h9 => h9) rfl dX7_row_36 ?_
        refine lv_iload_n hx hb dX7_row_39 rfl (lv_at hl 1 rfl) ?_
        have g8 := ix_in (gd_l hf)
        replace hf := gd_r hf
        refine va_iald hx hb hK hw.1 2 0 rfl rfl g8 dX7_row_40 ?_
        cases hf
        exact endI X hr rfl hlocks rfl hw dX7_row_41
      · replace hf := it_t hf b7
        refine lv_aload_n hx hb dX7_row_26 rfl (lv_at hl 0 rfl) ?_
        refine va_get (D := (dC, dI)) (ci := 7) (v := .ref (aM 1)) (C := RX7) (T := TX7) (N := 36) hx hb hts i_X7_row_X7 hown hK hw.1 0 rfl rfl 0 (by decide) (hts _ m_X7_row_2) (fun _ h9 => h9) rfl dX7_row_27 ?_
        refine lv_iload_n hx hb dX7_row_30 rfl (lv_at hl 1 rfl) ?_
        have g9 := ix_in (gd_l hf)
        replace hf := gd_r hf
        refine va_iald hx hb hK hw.1 1 0 rfl rfl g9 dX7_row_31 ?_
        refine lv_goto (tgt := 41) hx hb dX7_row_32 (by decide) ?_
        cases hf
        exact endI X hr rfl hlocks rfl hw dX7_row_41
    · replace hf := it_t hf b6
      refine lv_ldc (v := (-1000000)) hx hb hown (hts _ m_X7_row_0) dX7_row_17 ?_
      refine lv_goto (tgt := 41) hx hb dX7_row_19 (by decide) ?_
      cases hf
      exact endI X hr rfl hlocks rfl hw dX7_row_41
