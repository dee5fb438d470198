def rm_X7_length : Room := { frames := 0, cells := 0, slots := 0, locals := 0 }
set_option maxRecDepth 20000 in
theorem i_X7_length_X7 : ∀ w ∈ u_ws RX7 TX7 36, w ∈ wsX7_length := by decide +kernel
set_option maxRecDepth 20000 in
theorem m_X7_length_0 : Cond.fieldLink RX7 34 "GreatSortModel" "allRuns" "I" ∈ wsX7_length := by decide +kernel
set_option maxRecDepth 20000 in
theorem m_X7_length_1 : Cond.fieldLink RX7 40 "GreatSortModel" "size" "[I" ∈ wsX7_length := by decide +kernel
set_option maxHeartbeats 4000000 in
set_option maxRecDepth 100000 in
theorem c_X7_length (l : Launch) (dC : Nat → ClassId) (dI : Nat → Nat → Nat) (cI cJ cZ : ClassId) (aM : Nat → Nat) (N : Nat) (M_sorts : (Nat → Int32)) (M_values : (Nat → Int32)) (M_rows : Int32) (M_placeOf : (Nat → Int32)) (M_falling : (Nat → Int32)) (M_made : Int32) (M_runs : Int32) (M_allRuns : Int32) (M_begin : (Nat → Int32)) (M_size : (Nat → Int32)) (M_pool : (Nat → Int32)) (M_pooled : Int32) (M_ways : Int32) (M_merges : Int32) (M_takes : (Nat → Int32)) (M_taken : (Nat → Int32)) (M_parts : Int32) (M_every : Int32) (M_samples : Int32) (M_sample : (Nat → Int32)) (M_ends : (Nat → Int32)) (M_partSize : (Nat → Int32)) (M_merged : (Nat → Int32)) (M_most : (Nat → Int32)) (M_done : (Nat → Int32)) (M_on : (Nat → Int32)) (M_ticks : Int32) (M_mergedAll : Int32) (M_again : Int32) (M_paces : (Nat → Int32)) (M_up : (Nat → Int32)) (M_byHost : (Nat → Int32)) (M_heap : (Nat → Int32)) (M_used : (Nat → Int32)) (M_planned : (Nat → Int32)) (M_gone : (Nat → Int32)) (v1 : Int32) {r : Int32} (hf : f_X7_length N M_allRuns M_size v1 = some r) :
    CtI l yX7_length wsX7_length rm_X7_length (dC, dI) (tyl cI cJ cZ) [.ref (aM 0), .int v1] (w_M aM cI cJ cZ M_sorts M_values M_rows M_placeOf M_falling M_made M_runs M_allRuns M_begin M_size M_pool M_pooled M_ways M_merges M_takes M_taken M_parts M_every M_samples M_sample M_ends M_partSize M_merged M_most M_done M_on M_ticks M_mergedAll M_again M_paces M_up M_byHost M_heap M_used M_planned M_gone) (w_M aM cI cJ cZ M_sorts M_values M_rows M_placeOf M_falling M_made M_runs M_allRuns M_begin M_size M_pool M_pooled M_ways M_merges M_takes M_taken M_parts M_every M_samples M_sample M_ends M_partSize M_merged M_most M_done M_on M_ticks M_mergedAll M_again M_paces M_up M_byHost M_heap M_used M_planned M_gone) r := by
  refine startI (cc := cX7_length) (maxL := 2) (rt := (some .int)) (by decide +kernel) rfl (Nat.le_of_ble_eq_true rfl) ?_
  intro p e s m below meth c A ls X hr hlocks hw hl
  replace X : Cx p m c cX7_length 2 s _ wsX7_length RX7 (dC, dI) (tyl cI cJ cZ) A := X
  replace hl : lv_has ls 2 [(0, .ref (aM 0)), (1, .int v1)] := hl
  obtain ⟨hx, hb, hml, hown, hts⟩ := X.1
  have hK := X.2.1
  have hN := X.2.2.2
  unfold f_X7_length at hf
  refine lv_iload_n hx hb dX7_length_0 rfl (lv_at hl 1 rfl) ?_
  refine lv_if_lt (tgt := 12) hx hb dX7_length_1 (by decide) (fun b1 => ?_) (fun b1 => ?_)
  · replace hf := it_t hf b1
    refine lv_iconst (v := (-1)) hx hb dX7_length_12 (by decide) ?_
    refine lv_goto (tgt := 22) hx hb dX7_length_13 (by decide) ?_
    cases hf
    exact endI X hr rfl hlocks rfl hw dX7_length_22
  · replace hf := it_f hf b1
    refine lv_iload_n hx hb dX7_length_4 rfl (lv_at hl 1 rfl) ?_
    refine lv_aload_n hx hb dX7_length_5 rfl (lv_at hl 0 rfl) ?_
    refine va_get (D := (dC, dI)) (ci := 7) (v := .int M_allRuns) (C := RX7) (T := TX7) (N := 36) hx hb hts i_X7_length_X7 hown hK hw.1 0 rfl rfl 7 (by decide) (hts _ m_X7_length_0) (fun _ h9 => h9) rfl dX7_length_6 ?_
    refine lv_icmp_lt (tgt := 16) hx hb dX7_length_9 (by decide) (fun b2 => ?_) (fun b2 => ?_)
    · replace hf := it_t hf b2
      refine lv_aload_n hx hb dX7_length_16 rfl (lv_at hl 0 rfl) ?_
      refine va_get (D := (dC, dI)) (ci := 7) (v := .ref (aM 6)) (C := RX7) (T := TX7) (N := 36) hx hb hts i_X7_length_X7 hown hK hw.1 0 rfl rfl 9 (by decide) (hts _ m_X7_length_1) (fun _ h9 => h9) rfl dX7_length_17 ?_
      refine lv_iload_n hx hb dX7_length_20 rfl (lv_at hl 1 rfl) ?_
      have g3 := ix_in (gd_l hf)
      replace hf := gd_r hf
      refine va_iald hx hb hK hw.1 6 0 rfl rfl g3 dX7_length_21 ?_
      cases hf
      exact endI X hr rfl hlocks rfl hw dX7_length_22
    · replace hf := it_f hf b2
      refine lv_iconst (v := (-1)) hx hb dX7_length_12 (by decide) ?_
      refine lv_goto (tgt := 22) hx hb dX7_length_13 (by decide) ?_
      cases hf
      exact endI X hr rfl hlocks rfl hw dX7_length_22
def rm_X7_at : Room := { frames := 0, cells := 0, slots := 0, locals := 0 }
set_option maxRecDepth 20000 in
theorem i_X7_at_X7 : ∀ w ∈ u_ws RX7 TX7 36, w ∈ wsX7_at := by decide +kernel
set_option maxRecDepth 20000 in
theorem m_X7_at_0 : Cond.fieldLink RX7 34 "GreatSortModel" "allRuns" "I" ∈ wsX7_at := by decide +kernel
set_option maxRecDepth 20000 in
theorem m_X7_at_1 : Cond.fieldLink RX7 40 "GreatSortModel" "size" "[I" ∈ wsX7_at := by decide +kernel
set_option maxRecDepth 20000 in
theorem m_X7_at_2 : Cond.fieldLink RX7 44 "GreatSortModel" "pool" "[I" ∈ wsX7_at := by decide +kernel
set_option maxRecDepth 20000 in
theorem m_X7_at_3 : Cond.fieldLink RX7 37 "GreatSortModel" "begin" "[I" ∈ wsX7_at := by decide +kernel
set_option maxHeartbeats 4000000 in
set_option maxRecDepth 100000 in
theorem c_X7_at (l : Launch) (dC : Nat → ClassId) (dI : Nat → Nat → Nat) (cI cJ cZ : ClassId) (aM : Nat → Nat) (N : Nat) (M_sorts : (Nat → Int32)) (M_values : (Nat → Int32)) (M_rows : Int32) (M_placeOf : (Nat → Int32)) (M_falling : (Nat → Int32)) (M_made : Int32) (M_runs : Int32) (M_allRuns : Int32) (M_begin : (Nat → Int32)) (M_size : (Nat → Int32)) (M_pool : (Nat → Int32)) (M_pooled : Int32) (M_ways : Int32) (M_merges : Int32) (M_takes : (Nat → Int32)) (M_taken : (Nat → Int32)) (M_parts : Int32) (M_every : Int32) (M_samples : Int32) (M_sample : (Nat → Int32)) (M_ends : (Nat → Int32)) (M_partSize : (Nat → Int32)) (M_merged : (Nat → Int32)) (M_most : (Nat → Int32)) (M_done : (Nat → Int32)) (M_on : (Nat → Int32)) (M_ticks : Int32) (M_mergedAll : Int32) (M_again : Int32) (M_paces : (Nat → Int32)) (M_up : (Nat → Int32)) (M_byHost : (Nat → Int32)) (M_heap : (Nat → Int32)) (M_used : (Nat → Int32)) (M_planned : (Nat → Int32)) (M_gone : (Nat → Int32)) (v1 : Int32) (v2 : Int32) {r : Int32} (hf : f_X7_at N M_allRuns M_begin M_size M_pool v1 v2 = some r) :
    CtI l yX7_at wsX7_at rm_X7_at (dC, dI) (tyl cI cJ cZ) [.ref (aM 0), .int v1, .int v2] (w_M aM cI cJ cZ M_sorts M_values M_rows M_placeOf M_falling M_made M_runs M_allRuns M_begin M_size M_pool M_pooled M_ways M_merges M_takes M_taken M_parts M_every M_samples M_sample M_ends M_partSize M_merged M_most M_done M_on M_ticks M_mergedAll M_again M_paces M_up M_byHost M_heap M_used M_planned M_gone) (w_M aM cI cJ cZ M_sorts M_values M_rows M_placeOf M_falling M_made M_runs M_allRuns M_begin M_size M_pool M_pooled M_ways M_merges M_takes M_taken M_parts M_every M_samples M_sample M_ends M_partSize M_merged M_most M_done M_on M_ticks M_mergedAll M_again M_paces M_up M_byHost M_heap M_used M_planned M_gone) r := by
  refine startI (cc := cX7_at) (maxL := 3) (rt := (some .int)) (by decide +kernel) rfl (Nat.le_of_ble_eq_true rfl) ?_
  intro p e s m below meth c A ls X hr hlocks hw hl
  replace X : Cx p m c cX7_at 3 s _ wsX7_at RX7 (dC, dI) (tyl cI cJ cZ) A := X
  replace hl : lv_has ls 3 [(0, .ref (aM 0)), (1, .int v1), (2, .int v2)] := hl
  obtain ⟨hx, hb, hml, hown, hts⟩ := X.1
  have hK := X.2.1
  have hN := X.2.2.2
  unfold f_X7_at at hf
  refine lv_iload_n hx hb dX7_at_0 rfl (lv_at hl 1 rfl) ?_
  refine lv_if_lt (tgt := 26) hx hb dX7_at_1 (by decide) (fun b1 => ?_) (fun b1 => ?_)
  · replace hf := it_t hf b1
    refine lv_iconst (v := (-1)) hx hb dX7_at_26 (by decide) ?_
    refine lv_goto (tgt := 43) hx hb dX7_at_27 (by decide) ?_
    cases hf
    exact endI X hr rfl hlocks rfl hw dX7_at_43
  · replace hf := it_f hf b1
    refine lv_iload_n hx hb dX7_at_4 rfl (lv_at hl 1 rfl) ?_
    refine lv_aload_n hx hb dX7_at_5 rfl (lv_at hl 0 rfl) ?_
    refine va_get (D := (dC, dI)) (ci := 7) (v := .int M_allRuns) (C := RX7) (T := TX7) (N := 36) hx hb hts i_X7_at_X7 hown hK hw.1 0 rfl rfl 7 (by decide) (hts _ m_X7_at_0) (fun _ h9 => h9) rfl dX7_at_6 ?_
    refine lv_icmp_ge (tgt := 26) hx hb dX7_at_9 (by decide) (fun b2 => ?_) (fun b2 => ?_)
    · replace hf := it_t hf b2
      refine lv_iconst (v := (-1)) hx hb dX7_at_26 (by decide) ?_
      refine lv_goto (tgt := 43) hx hb dX7_at_27 (by decide) ?_
      cases hf
      exact endI X hr rfl hlocks rfl hw dX7_at_43
    · replace hf := it_f hf b2
      refine lv_iload_n hx hb dX7_at_12 rfl (lv_at hl 2 rfl) ?_
      refine lv_if_lt (tgt := 26) hx hb dX7_at_13 (by decide) (fun b3 => ?_) (fun b3 => ?_)
      · replace hf := it_t hf b3
        refine lv_iconst (v := (-1)) hx hb dX7_at_26 (by decide) ?_
        refine lv_goto (tgt := 43) hx hb dX7_at_27 (by decide) ?_
        cases hf
        exact endI X hr rfl hlocks rfl hw dX7_at_43
      · replace hf := it_f hf b3
        refine lv_iload_n hx hb dX7_at_16 rfl (lv_at hl 2 rfl) ?_
        refine lv_aload_n hx hb dX7_at_17 rfl (lv_at hl 0 rfl) ?_
        refine va_get (D := (dC, dI)) (ci := 7) (v := .ref (aM 6)) (C := RX7) (T := TX7) (N := 36) hx hb hts i_X7_at_X7 hown hK hw.1 0 rfl rfl 9 (by decide) (hts _ m_X7_at_1) (fun _ h9 => h9) rfl dX7_at_18 ?_
        refine lv_iload_n hx hb dX7_at_21 rfl (lv_at hl 1 rfl) ?_
        have g4 := ix_in (gd_l hf)
        replace hf := gd_r hf
        refine va_iald hx hb hK hw.1 6 0 rfl rfl g4 dX7_at_22 ?_
        refine lv_icmp_lt (tgt := 30) hx hb dX7_at_23 (by decide) (fun b5 => ?_) (fun b5 => ?_)
        · replace hf := it_t hf b5
          refine lv_aload_n hx hb dX7_at_30 rfl (lv_at hl 0 rfl) ?_
          refine va_get (D := (dC, dI)) (ci := 7) (v := .ref (aM 7)) (C := RX7) (T := TX7) (N := 36) hx hb hts i_X7_at_X7 hown hK hw.1 0 rfl rfl 10 (by decide) (hts _ m_X7_at_2) (fun _ h9 => h9) rfl dX7_at_31 ?_
          refine lv_aload_n hx hb dX7_at_34 rfl (lv_at hl 0 rfl) ?_
          refine va_get (D := (dC, dI)) (ci := 7) (v := .ref (aM 5)) (C := RX7) (T := TX7) (N := 36) hx hb hts i_X7_at_X7 hown hK hw.1 0 rfl rfl 8 (by decide) (hts _ m_X7_at_3) (fun _ h9 => h9) rfl dX7_at_35 ?_
          refine lv_iload_n hx hb dX7_at_38 rfl (lv_at hl 1 rfl) ?_
          have g6 := ix_in (gd_l hf)
          replace hf := gd_r hf
          refine va_iald hx hb hK hw.1 5 0 rfl rfl g6 dX7_at_39 ?_
          refine lv_iload_n hx hb dX7_at_40 rfl (lv_at hl 2 rfl) ?_
          refine lv_iadd hx hb dX7_at_41 ?_
          have g7 := ix_in (gd_l hf)
          replace hf := gd_r hf
          refine va_iald hx hb hK hw.1 7 0 rfl rfl g7 dX7_at_42 ?_
          cases hf
          exact endI X hr rfl hlocks rfl hw dX7_at_43
        · replace hf := it_f hf b5
          refine lv_iconst (v := (-1)) hx hb dX7_at_26 (by decide) ?_
          refine lv_goto (tgt := 43) hx hb dX7_at_27 (by decide) ?_
          cases hf
          exact endI X hr rfl hlocks rfl hw dX7_at_43
def rm_X7_moves : Room := { frames := 0, cells := 0, slots := 0, locals := 0 }
set_option maxRecDepth 20000 in
theorem i_X7_moves_X7 : ∀ w ∈ u_ws RX7 TX7 36, w ∈ wsX7_moves := by decide +kernel
set_option maxRecDepth 20000 in
theorem m_X7_moves_0 : Cond.fieldLink RX7 31 "GreatSortModel" "runs" "I" ∈ wsX7_moves := by decide +kernel
set_option maxRecDepth 20000 in
theorem m_X7_moves_1 : Cond.fieldLink RX7 116 "GreatSortModel" "planned" "[I" ∈ wsX7_moves := by decide +kernel
set_option maxRecDepth 20000 in
theorem m_X7_moves_2 : Cond.fieldLink RX7 40 "GreatSortModel" "size" "[I" ∈ wsX7_moves := by decide +kernel
set_option maxRecDepth 20000 in
theorem m_X7_moves_3 : Cond.fieldLink RX7 113 "GreatSortModel" "used" "[Z" ∈ wsX7_moves := by decide +kernel
set_option maxRecDepth 20000 in
theorem m_X7_moves_4 : Cond.fieldLink RX7 59 "GreatSortModel" "taken" "[I" ∈ wsX7_moves := by decide +kernel
set_option maxRecDepth 20000 in
theorem m_X7_moves_5 : Cond.fieldLink RX7 56 "GreatSortModel" "takes" "[I" ∈ wsX7_moves := by decide +kernel
set_option maxRecDepth 20000 in
theorem m_X7_moves_6 : Cond.fieldLink RX7 53 "GreatSortModel" "merges" "I" ∈ wsX7_moves := by decide +kernel
set_option maxHeartbeats 4000000 in
set_option maxRecDepth 100000 in
theorem t_X7_moves_9 {p : Program} {l : Launch} {e : Env} {s : State} {m : MethodId} {args : Array Value} {below : List Frame} {meth : Method} {c : Code} {Q : State → Prop} {dC : Nat → ClassId} {dI : Nat → Nat → Nat} {cI cJ cZ : ClassId} {A : Nat → Prop} (aM : Nat → Nat) (X : Cx p m c cX7_moves 12 s args wsX7_moves RX7 (dC, dI) (tyl cI cJ cZ) A) (N : Nat) (M_sorts : (Nat → Int32)) (M_values : (Nat → Int32)) (M_rows : Int32) (M_placeOf : (Nat → Int32)) (M_falling : (Nat → Int32)) (M_made : Int32) (M_runs : Int32) (M_allRuns : Int32) (M_begin : (Nat → Int32)) (M_size : (Nat → Int32)) (M_pool : (Nat → Int32)) (M_pooled : Int32) (M_ways : Int32) (M_merges : Int32) (M_takes : (Nat → Int32)) (M_taken : (Nat → Int32)) (M_parts : Int32) (M_every : Int32) (M_samples : Int32) (M_sample : (Nat → Int32)) (M_ends : (Nat → Int32)) (M_partSize : (Nat → Int32)) (M_merged : (Nat → Int32)) (M_most : (Nat → Int32)) (M_done : (Nat → Int32)) (M_on : (Nat → Int32)) (M_ticks : Int32) (M_mergedAll : Int32) (M_again : Int32) (M_paces : (Nat → Int32)) (M_up : (Nat → Int32)) (M_byHost : (Nat → Int32)) (M_heap : (Nat → Int32)) (M_gone : (Nat → Int32)) (v1 : Int32) (v2 : Int32) (v3 : Int32) (v4 : Int32) :
    ∀ (n : Nat) (v5 : Int32) (M_used : (Nat → Int32)) (M_planned : (Nat → Int32)) (e_M_used : (Nat → Int32)) (e_M_planned : (Nat → Int32)), l_X7_moves_9 N M_size v4 n v5 M_used M_planned = some (e_M_used, e_M_planned) → ∀ (H : Heap) (locs : List Loc) (ls : Array Slot), Wd (dC, dI) A s.heap H locs (w_M aM cI cJ cZ M_sorts M_values M_rows M_placeOf M_falling M_made M_runs M_allRuns M_begin M_size M_pool M_pooled M_ways M_merges M_takes M_taken M_parts M_every M_samples M_sample M_ends M_partSize M_merged M_most M_done M_on M_ticks M_mergedAll M_again M_paces M_up M_byHost M_heap M_used M_planned M_gone) → lv_has ls 12 [(0, .ref (aM 0)), (1, .int v1), (2, .int v2), (3, .int v3), (4, .int v4), (5, .int v5)] → (∀ (H : Heap) (locs : List Loc) (ls : Array Slot), Wd (dC, dI) A s.heap H locs (w_M aM cI cJ cZ M_sorts M_values M_rows M_placeOf M_falling M_made M_runs M_allRuns M_begin M_size M_pool M_pooled M_ways M_merges M_takes M_taken M_parts M_every M_samples M_sample M_ends M_partSize M_merged M_most M_done M_on M_ticks M_mergedAll M_again M_paces M_up M_byHost M_heap e_M_used e_M_planned M_gone) → lv_has ls 12 [(0, .ref (aM 0)), (1, .int v1), (2, .int v2), (3, .int v3), (4, .int v4)] → W p l e rm_X7_moves s m args below meth c H locs 0 0 Q (F0 m 44 ls [])) → W p l e rm_X7_moves s m args below meth c H locs 0 0 Q (F0 m 9 ls []) := by
  obtain ⟨hx, hb, hml, hown, hts⟩ := X.1
  have hK := X.2.1
  have hN := X.2.2.2
  intro n
  induction n with
  | zero =>
    intro _ _ _ _ _ hf
    cases hf
  | succ n ih =>
    intro v5 M_used M_planned e_M_used e_M_planned hf H locs ls hw hl kx
    rw [l_X7_moves_9] at hf
    refine lv_iload hx hb dX7_moves_9 (lv_at hl 5 rfl) ?_
    refine lv_iload hx hb dX7_moves_11 (lv_at hl 4 rfl) ?_
    refine lv_icmp_ge (tgt := 44) hx hb dX7_moves_13 (by decide) (fun b1 => ?_) (fun b1 => ?_)
    · replace hf := it_t hf b1
      cases hf
      exact kx _ _ _ hw (lv_sub hl [0, 1, 2, 3, 4] rfl)
    · replace hf := it_f hf b1
      refine lv_aload_n hx hb dX7_moves_16 rfl (lv_at hl 0 rfl) ?_
      refine va_get (D := (dC, dI)) (ci := 7) (v := .ref (aM 22)) (C := RX7) (T := TX7) (N := 36) hx hb hts i_X7_moves_X7 hown hK hw.1 0 rfl rfl 34 (by decide) (hts _ m_X7_moves_1) (fun _ h9 => h9) rfl dX7_moves_17 ?_
      refine lv_iload hx hb dX7_moves_20 (lv_at hl 5 rfl) ?_
      refine lv_aload_n hx hb dX7_moves_22 rfl (lv_at hl 0 rfl) ?_
      refine va_get (D := (dC, dI)) (ci := 7) (v := .ref (aM 6)) (C := RX7) (T := TX7) (N := 36) hx hb hts i_X7_moves_X7 hown hK hw.1 0 rfl rfl 9 (by decide) (hts _ m_X7_moves_2) (fun _ h9 => h9) rfl dX7_moves_23 ?_
      refine lv_iload hx hb dX7_moves_26 (lv_at hl 5 rfl) ?_
      have g2 := ix_in (gd_l hf)
      replace hf := gd_r hf
      refine va_iald hx hb hK hw.1 6 0 rfl rfl g2 dX7_moves_28 ?_
      refine lv_topi (fun x3 ex3 => ?_)
      replace hf := nl_at hf ex3
      have g4 := ix_in (gd_l hf)
      replace hf := gd_r hf
      refine g_iast hx hb hK hw 22 0 rfl rfl g4 dX7_moves_29 (fun H locs hw => ?_)
      replace hw : Wd (dC, dI) A s.heap H locs (w_M aM cI cJ cZ M_sorts M_values M_rows M_placeOf M_falling M_made M_runs M_allRuns M_begin M_size M_pool M_pooled M_ways M_merges M_takes M_taken M_parts M_every M_samples M_sample M_ends M_partSize M_merged M_most M_done M_on M_ticks M_mergedAll M_again M_paces M_up M_byHost M_heap M_used (upd M_planned v5.toNatClampNeg x3) M_gone) := hw
      refine lv_aload_n hx hb dX7_moves_30 rfl (lv_at hl 0 rfl) ?_
      refine va_get (D := (dC, dI)) (ci := 7) (v := .ref (aM 21)) (C := RX7) (T := TX7) (N := 36) hx hb hts i_X7_moves_X7 hown hK hw.1 0 rfl rfl 33 (by decide) (hts _ m_X7_moves_3) (fun _ h9 => h9) rfl dX7_moves_31 ?_
      refine lv_iload hx hb dX7_moves_34 (lv_at hl 5 rfl) ?_
      refine lv_iconst (v := 0) hx hb dX7_moves_36 (by decide) ?_
      have g5 := ix_in (gd_l hf)
      replace hf := gd_r hf
      refine g_zast hx hb hK hw 21 2 rfl rfl g5 dX7_moves_37 (fun H locs hw => ?_)
      replace hw : Wd (dC, dI) A s.heap H locs (w_M aM cI cJ cZ M_sorts M_values M_rows M_placeOf M_falling M_made M_runs M_allRuns M_begin M_size M_pool M_pooled M_ways M_merges M_takes M_taken M_parts M_every M_samples M_sample M_ends M_partSize M_merged M_most M_done M_on M_ticks M_mergedAll M_again M_paces M_up M_byHost M_heap (upd M_used v5.toNatClampNeg (vp_nar .boolean 0)) (upd M_planned v5.toNatClampNeg x3) M_gone) := hw
      obtain ⟨x6, ex6⟩ : ∃ y : Int32, y = v5 + 1 := ⟨_, rfl⟩
      replace hf := nl_at hf ex6
      refine lv_iinc (v := x6) (lv' := [(5, .int x6), (0, .ref (aM 0)), (1, .int v1), (2, .int v2), (3, .int v3), (4, .int v4)]) hx hb dX7_moves_38 hl (k := 5) rfl (by rw [ex6]; rfl) (by decide) rfl (fun ls hl => ?_)
      refine lv_goto (tgt := 9) hx hb dX7_moves_41 (by decide) ?_
      exact ih _ _ _ _ _ hf _ _ _ hw (lv_sub hl [1, 2, 3, 4, 5, 0] rfl) kx
set_option maxHeartbeats 4000000 in
set_option maxRecDepth 100000 in
theorem t_X7_moves_119 {p : Program} {l : Launch} {e : Env} {s : State} {m : MethodId} {args : Array Value} {below : List Frame} {meth : Method} {c : Code} {Q : State → Prop} {dC : Nat → ClassId} {dI : Nat → Nat → Nat} {cI cJ cZ : ClassId} {A : Nat → Prop} (aM : Nat → Nat) (X : Cx p m c cX7_moves 12 s args wsX7_moves RX7 (dC, dI) (tyl cI cJ cZ) A) (N : Nat) (M_sorts : (Nat → Int32)) (M_values : (Nat → Int32)) (M_rows : Int32) (M_placeOf : (Nat → Int32)) (M_falling : (Nat → Int32)) (M_made : Int32) (M_runs : Int32) (M_allRuns : Int32) (M_begin : (Nat → Int32)) (M_size : (Nat → Int32)) (M_pool : (Nat → Int32)) (M_pooled : Int32) (M_ways : Int32) (M_merges : Int32) (M_takes : (Nat → Int32)) (M_taken : (Nat → Int32)) (M_parts : Int32) (M_every : Int32) (M_samples : Int32) (M_sample : (Nat → Int32)) (M_ends : (Nat → Int32)) (M_partSize : (Nat → Int32)) (M_merged : (Nat → Int32)) (M_most : (Nat → Int32)) (M_done : (Nat → Int32)) (M_on : (Nat → Int32)) (M_ticks : Int32) (M_mergedAll : Int32) (M_again : Int32) (M_paces : (Nat → Int32)) (M_up : (Nat → Int32)) (M_byHost : (Nat → Int32)) (M_heap : (Nat → Int32)) (M_used : (Nat → Int32)) (M_planned : (Nat → Int32)) (M_gone : (Nat → Int32)) (v1 : Int32) (v2 : Int32) (v3 : Int32) (v4 : Int32) (v5 : Int32) (v6 : Int32) (v7 : Int32) (v8 : Int32) (v9 : Int32) :
    ∀ (n : Nat) (v10 : Int32) (v11 : Int32) (e10 : Int32), l_X7_moves_119 N M_used M_planned v2 v4 v7 n v10 v11 = some e10 → ∀ (H : Heap) (locs : List Loc) (ls : Array Slot), Wd (dC, dI) A s.heap H locs (w_M aM cI cJ cZ M_sorts M_values M_rows M_placeOf M_falling M_made M_runs M_allRuns M_begin M_size M_pool M_pooled M_ways M_merges M_takes M_taken M_parts M_every M_samples M_sample M_ends M_partSize M_merged M_most M_done M_on M_ticks M_mergedAll M_again M_paces M_up M_byHost M_heap M_used M_planned M_gone) → lv_has ls 12 [(0, .ref (aM 0)), (1, .int v1), (2, .int v2), (3, .int v3), (4, .int v4), (5, .int v5), (6, .int v6), (7, .int v7), (8, .int v8), (9, .int v9), (10, .int v10), (11, .int v11)] → (∀ (H : Heap) (locs : List Loc) (ls : Array Slot), Wd (dC, dI) A s.heap H locs (w_M aM cI cJ cZ M_sorts M_values M_rows M_placeOf M_falling M_made M_runs M_allRuns M_begin M_size M_pool M_pooled M_ways M_merges M_takes M_taken M_parts M_every M_samples M_sample M_ends M_partSize M_merged M_most M_done M_on M_ticks M_mergedAll M_again M_paces M_up M_byHost M_heap M_used M_planned M_gone) → lv_has ls 12 [(0, .ref (aM 0)), (1, .int v1), (2, .int v2), (3, .int v3), (4, .int v4), (5, .int v5), (6, .int v6), (7, .int v7), (8, .int v8), (9, .int v9), (10, .int e10)] → W p l e rm_X7_moves s m args below meth c H locs 0 0 Q (F0 m 184 ls [])) → W p l e rm_X7_moves s m args below meth c H locs 0 0 Q (F0 m 119 ls []) := by
  obtain ⟨hx, hb, hml, hown, hts⟩ := X.1
  have hK := X.2.1
  have hN := X.2.2.2
  intro n
  induction n with
  | zero =>
    intro _ _ _ hf
    cases hf
  | succ n ih =>
    intro v10 v11 e10 hf H locs ls hw hl kx
    rw [l_X7_moves_119] at hf
    refine lv_iload hx hb dX7_moves_119 (lv_at hl 11 rfl) ?_
    refine lv_iload hx hb dX7_moves_121 (lv_at hl 4 rfl) ?_
    refine lv_iload hx hb dX7_moves_123 (lv_at hl 7 rfl) ?_
    refine lv_iadd hx hb dX7_moves_125 ?_
    refine lv_icmp_ge (tgt := 184) hx hb dX7_moves_126 (by decide) (fun b16 => ?_) (fun b16 => ?_)
    · replace hf := it_t hf b16
      cases hf
      exact kx _ _ _ hw (lv_sub hl [0, 1, 2, 3, 4, 5, 6, 7, 8, 9, 10] rfl)
    · replace hf := it_f hf b16
      refine lv_aload_n hx hb dX7_moves_129 rfl (lv_at hl 0 rfl) ?_
      refine va_get (D := (dC, dI)) (ci := 7) (v := .ref (aM 21)) (C := RX7) (T := TX7) (N := 36) hx hb hts i_X7_moves_X7 hown hK hw.1 0 rfl rfl 33 (by decide) (hts _ m_X7_moves_3) (fun _ h9 => h9) rfl dX7_moves_130 ?_
      refine lv_iload hx hb dX7_moves_133 (lv_at hl 11 rfl) ?_
      have g17 := ix_in (gd_l hf)
      replace hf := gd_r hf
      refine va_zald hx hb hK hw.1 21 2 rfl rfl g17 dX7_moves_135 ?_
      refine lv_if_eq (tgt := 142) hx hb dX7_moves_136 (by decide) (fun b18 => ?_) (fun b18 => ?_)
      · replace hf := it_t hf b18
        refine lv_iload hx hb dX7_moves_142 (lv_at hl 10 rfl) ?_
        refine lv_iconst (v := (-1)) hx hb dX7_moves_144 (by decide) ?_
        refine lv_icmp_eq (tgt := 169) hx hb dX7_moves_145 (by decide) (fun b19 => ?_) (fun b19 => ?_)
        · replace hf := it_t hf b19
          refine lv_iload hx hb dX7_moves_169 (lv_at hl 11 rfl) ?_
          refine lv_goto (tgt := 176) hx hb dX7_moves_171 (by decide) ?_
          refine lv_istore (lv' := [(10, .int v11), (0, .ref (aM 0)), (1, .int v1), (2, .int v2), (3, .int v3), (4, .int v4), (5, .int v5), (6, .int v6), (7, .int v7), (8, .int v8), (9, .int v9), (11, .int v11)]) hx hb dX7_moves_176 hl (by decide) rfl (fun ls hl => ?_)
          obtain ⟨x20, ex20⟩ : ∃ y : Int32, y = v11 + 1 := ⟨_, rfl⟩
          replace hf := nl_at hf ex20
          refine lv_iinc (v := x20) (lv' := [(11, .int x20), (10, .int v11), (0, .ref (aM 0)), (1, .int v1), (2, .int v2), (3, .int v3), (4, .int v4), (5, .int v5), (6, .int v6), (7, .int v7), (8, .int v8), (9, .int v9)]) hx hb dX7_moves_178 hl (k := 11) rfl (by rw [ex20]; rfl) (by decide) rfl (fun ls hl => ?_)
          refine lv_goto (tgt := 119) hx hb dX7_moves_181 (by decide) ?_
          exact ih _ _ _ hf _ _ _ hw (lv_sub hl [2, 3, 4, 5, 6, 7, 8, 9, 10, 11, 1, 0] rfl) kx
        · replace hf := it_f hf b19
          refine lv_iload_n hx hb dX7_moves_148 rfl (lv_at hl 2 rfl) ?_
          refine lv_if_eq (tgt := 174) hx hb dX7_moves_149 (by decide) (fun b21 => ?_) (fun b21 => ?_)
          · replace hf := it_t hf b21
            refine lv_iload hx hb dX7_moves_174 (lv_at hl 10 rfl) ?_
            refine lv_istore (lv' := [(10, .int v10), (0, .ref (aM 0)), (1, .int v1), (2, .int v2), (3, .int v3), (4, .int v4), (5, .int v5), (6, .int v6), (7, .int v7), (8, .int v8), (9, .int v9), (11, .int v11)]) hx hb dX7_moves_176 hl (by decide) rfl (fun ls hl => ?_)
            obtain ⟨x22, ex22⟩ : ∃ y : Int32, y = v11 + 1 := ⟨_, rfl⟩
            replace hf := nl_at hf ex22
            refine lv_iinc (v := x22) (lv' := [(11, .int x22), (10, .int v10), (0, .ref (aM 0)), (1, .int v1), (2, .int v2), (3, .int v3), (4, .int v4), (5, .int v5), (6, .int v6), (7, .int v7), (8, .int v8), (9, .int v9)]) hx hb dX7_moves_178 hl (k := 11) rfl (by rw [ex22]; rfl) (by decide) rfl (fun ls hl => ?_)
            refine lv_goto (tgt := 119) hx hb dX7_moves_181 (by decide) ?_
            exact ih _ _ _ hf _ _ _ hw (lv_sub hl [2, 3, 4, 5, 6, 7, 8, 9, 10, 11, 1, 0] rfl) kx
          · replace hf := it_f hf b21
            refine lv_aload_n hx hb dX7_moves_152 rfl (lv_at hl 0 rfl) ?_
            refine va_get (D := (dC, dI)) (ci := 7) (v := .ref (aM 22)) (C := RX7) (T := TX7) (N := 36) hx hb hts i_X7_moves_X7 hown hK hw.1 0 rfl rfl 34 (by decide) (hts _ m_X7_moves_1) (fun _ h9 => h9) rfl dX7_moves_153 ?_
            refine lv_iload hx hb dX7_moves_156 (lv_at hl 11 rfl) ?_
            have g23 := ix_in (gd_l hf)
            replace hf := gd_r hf
            refine va_iald hx hb hK hw.1 22 0 rfl rfl g23 dX7_moves_158 ?_
            refine lv_aload_n hx hb dX7_moves_159 rfl (lv_at hl 0 rfl) ?_
            refine va_get (D := (dC, dI)) (ci := 7) (v := .ref (aM 22)) (C := RX7) (T := TX7) (N := 36) hx hb hts i_X7_moves_X7 hown hK hw.1 0 rfl rfl 34 (by decide) (hts _ m_X7_moves_1) (fun _ h9 => h9) rfl dX7_moves_160 ?_
            refine lv_iload hx hb dX7_moves_163 (lv_at hl 10 rfl) ?_
            have g24 := ix_in (gd_l hf)
            replace hf := gd_r hf
            refine va_iald hx hb hK hw.1 22 0 rfl rfl g24 dX7_moves_165 ?_
            refine lv_icmp_ge (tgt := 174) hx hb dX7_moves_166 (by decide) (fun b25 => ?_) (fun b25 => ?_)
            · replace hf := it_t hf b25
              refine lv_iload hx hb dX7_moves_174 (lv_at hl 10 rfl) ?_
              refine lv_istore (lv' := [(10, .int v10), (0, .ref (aM 0)), (1, .int v1), (2, .int v2), (3, .int v3), (4, .int v4), (5, .int v5), (6, .int v6), (7, .int v7), (8, .int v8), (9, .int v9), (11, .int v11)]) hx hb dX7_moves_176 hl (by decide) rfl (fun ls hl => ?_)
              obtain ⟨x26, ex26⟩ : ∃ y : Int32, y = v11 + 1 := ⟨_, rfl⟩
              replace hf := nl_at hf ex26
              refine lv_iinc (v := x26) (lv' := [(11, .int x26), (10, .int v10), (0, .ref (aM 0)), (1, .int v1), (2, .int v2), (3, .int v3), (4, .int v4), (5, .int v5), (6, .int v6), (7, .int v7), (8, .int v8), (9, .int v9)]) hx hb dX7_moves_178 hl (k := 11) rfl (by rw [ex26]; rfl) (by decide) rfl (fun ls hl => ?_)
              refine lv_goto (tgt := 119) hx hb dX7_moves_181 (by decide) ?_
              exact ih _ _ _ hf _ _ _ hw (lv_sub hl [2, 3, 4, 5, 6, 7, 8, 9, 10, 11, 1, 0] rfl) kx
            · replace hf := it_f hf b25
              refine lv_iload hx hb dX7_moves_169 (lv_at hl 11 rfl) ?_
              refine lv_goto (tgt := 176) hx hb dX7_moves_171 (by decide) ?_
              refine lv_istore (lv' := [(10, .int v11), (0, .ref (aM 0)), (1, .int v1), (2, .int v2), (3, .int v3), (4, .int v4), (5, .int v5), (6, .int v6), (7, .int v7), (8, .int v8), (9, .int v9), (11, .int v11)]) hx hb dX7_moves_176 hl (by decide) rfl (fun ls hl => ?_)
              obtain ⟨x27, ex27⟩ : ∃ y : Int32, y = v11 + 1 := ⟨_, rfl⟩
              replace hf := nl_at hf ex27
              refine lv_iinc (v := x27) (lv' := [(11, .int x27), (10, .int v11), (0, .ref (aM 0)), (1, .int v1), (2, .int v2), (3, .int v3), (4, .int v4), (5, .int v5), (6, .int v6), (7, .int v7), (8, .int v8), (9, .int v9)]) hx hb dX7_moves_178 hl (k := 11) rfl (by rw [ex27]; rfl) (by decide) rfl (fun ls hl => ?_)
              refine lv_goto (tgt := 119) hx hb dX7_moves_181 (by decide) ?_
              exact ih _ _ _ hf _ _ _ hw (lv_sub hl [2, 3, 4, 5, 6, 7, 8, 9, 10, 11, 1, 0] rfl) kx
      · replace hf := it_f hf b18
        refine lv_goto (tgt := 178) hx hb dX7_moves_139 (by decide) ?_
        obtain ⟨x28, ex28⟩ : ∃ y : Int32, y = v11 + 1 := ⟨_, rfl⟩
        replace hf := nl_at hf ex28
        refine lv_iinc (v := x28) (lv' := [(11, .int x28), (0, .ref (aM 0)), (1, .int v1), (2, .int v2), (3, .int v3), (4, .int v4), (5, .int v5), (6, .int v6), (7, .int v7), (8, .int v8), (9, .int v9), (10, .int v10)]) hx hb dX7_moves_178 hl (k := 11) rfl (by rw [ex28]; rfl) (by decide) rfl (fun ls hl => ?_)
        refine lv_goto (tgt := 119) hx hb dX7_moves_181 (by decide) ?_
        exact ih _ _ _ hf _ _ _ hw (lv_sub hl [1, 2, 3, 4, 5, 6, 7, 8, 9, 10, 11, 0] rfl) kx
set_option maxHeartbeats 4000000 in
set_option maxRecDepth 100000 in
theorem t_X7_moves_106 {p : Program} {l : Launch} {e : Env} {s : State} {m : MethodId} {args : Array Value} {below : List Frame} {meth : Method} {c : Code} {Q : State → Prop} {dC : Nat → ClassId} {dI : Nat → Nat → Nat} {cI cJ cZ : ClassId} {A : Nat → Prop} (aM : Nat → Nat) (X : Cx p m c cX7_moves 12 s args wsX7_moves RX7 (dC, dI) (tyl cI cJ cZ) A) (N : Nat) (M_sorts : (Nat → Int32)) (M_values : (Nat → Int32)) (M_rows : Int32) (M_placeOf : (Nat → Int32)) (M_falling : (Nat → Int32)) (M_made : Int32) (M_runs : Int32) (M_allRuns : Int32) (M_begin : (Nat → Int32)) (M_size : (Nat → Int32)) (M_pool : (Nat → Int32)) (M_pooled : Int32) (M_ways : Int32) (M_merges : Int32) (M_takes : (Nat → Int32)) (M_parts : Int32) (M_every : Int32) (M_samples : Int32) (M_sample : (Nat → Int32)) (M_ends : (Nat → Int32)) (M_partSize : (Nat → Int32)) (M_merged : (Nat → Int32)) (M_most : (Nat → Int32)) (M_done : (Nat → Int32)) (M_on : (Nat → Int32)) (M_ticks : Int32) (M_mergedAll : Int32) (M_again : Int32) (M_paces : (Nat → Int32)) (M_up : (Nat → Int32)) (M_byHost : (Nat → Int32)) (M_heap : (Nat → Int32)) (M_gone : (Nat → Int32)) (v1 : Int32) (v2 : Int32) (v3 : Int32) (v4 : Int32) (v5 : Int32) (v6 : Int32) (v7 : Int32) (v8 : Int32) :
    ∀ (n : Nat) (v9 : Int32) (M_taken : (Nat → Int32)) (M_used : (Nat → Int32)) (M_planned : (Nat → Int32)) (e_M_taken : (Nat → Int32)) (e_M_used : (Nat → Int32)) (e_M_planned : (Nat → Int32)), l_X7_moves_106 N v2 v3 v4 v7 v8 n v9 M_taken M_used M_planned = some (e_M_taken, e_M_used, e_M_planned) → ∀ (H : Heap) (locs : List Loc) (ls : Array Slot), Wd (dC, dI) A s.heap H locs (w_M aM cI cJ cZ M_sorts M_values M_rows M_placeOf M_falling M_made M_runs M_allRuns M_begin M_size M_pool M_pooled M_ways M_merges M_takes M_taken M_parts M_every M_samples M_sample M_ends M_partSize M_merged M_most M_done M_on M_ticks M_mergedAll M_again M_paces M_up M_byHost M_heap M_used M_planned M_gone) → lv_has ls 12 [(0, .ref (aM 0)), (1, .int v1), (2, .int v2), (3, .int v3), (4, .int v4), (5, .int v5), (6, .int v6), (7, .int v7), (8, .int v8), (9, .int v9)] → (∀ (H : Heap) (locs : List Loc) (ls : Array Slot), Wd (dC, dI) A s.heap H locs (w_M aM cI cJ cZ M_sorts M_values M_rows M_placeOf M_falling M_made M_runs M_allRuns M_begin M_size M_pool M_pooled M_ways M_merges M_takes e_M_taken M_parts M_every M_samples M_sample M_ends M_partSize M_merged M_most M_done M_on M_ticks M_mergedAll M_again M_paces M_up M_byHost M_heap e_M_used e_M_planned M_gone) → lv_has ls 12 [(0, .ref (aM 0)), (1, .int v1), (2, .int v2), (3, .int v3), (4, .int v4), (5, .int v5), (6, .int v6), (7, .int v7), (8, .int v8)] → W p l e rm_X7_moves s m args below meth c H locs 0 0 Q (F0 m 237 ls [])) → W p l e rm_X7_moves s m args below meth c H locs 0 0 Q (F0 m 106 ls []) := by
  obtain ⟨hx, hb, hml, hown, hts⟩ := X.1
  have hK := X.2.1
  have hN := X.2.2.2
  intro n
  induction n with
  | zero =>
    intro _ _ _ _ _ _ _ hf
    cases hf
  | succ n ih =>
    intro v9 M_taken M_used M_planned e_M_taken e_M_used e_M_planned hf H locs ls hw hl kx
    rw [l_X7_moves_106] at hf
    refine lv_iload hx hb dX7_moves_106 (lv_at hl 9 rfl) ?_
    refine lv_iload hx hb dX7_moves_108 (lv_at hl 8 rfl) ?_
    refine lv_icmp_ge (tgt := 237) hx hb dX7_moves_110 (by decide) (fun b15 => ?_) (fun b15 => ?_)
    · replace hf := it_t hf b15
      cases hf
      exact kx _ _ _ hw (lv_sub hl [0, 1, 2, 3, 4, 5, 6, 7, 8] rfl)
    · replace hf := it_f hf b15
      refine lv_iconst (v := (-1)) hx hb dX7_moves_113 (by decide) ?_
      refine lv_istore (lv' := [(10, .int (-1)), (0, .ref (aM 0)), (1, .int v1), (2, .int v2), (3, .int v3), (4, .int v4), (5, .int v5), (6, .int v6), (7, .int v7), (8, .int v8), (9, .int v9)]) hx hb dX7_moves_114 hl (by decide) rfl (fun ls hl => ?_)
      refine lv_iconst (v := 0) hx hb dX7_moves_116 (by decide) ?_
      refine lv_istore (lv' := [(11, .int 0), (10, .int (-1)), (0, .ref (aM 0)), (1, .int v1), (2, .int v2), (3, .int v3), (4, .int v4), (5, .int v5), (6, .int v6), (7, .int v7), (8, .int v8), (9, .int v9)]) hx hb dX7_moves_117 hl (by decide) rfl (fun ls hl => ?_)
      obtain ⟨e29, h30, hf⟩ := bd1_ob hf
      refine t_X7_moves_119 aM X N M_sorts M_values M_rows M_placeOf M_falling M_made M_runs M_allRuns M_begin M_size M_pool M_pooled M_ways M_merges M_takes M_taken M_parts M_every M_samples M_sample M_ends M_partSize M_merged M_most M_done M_on M_ticks M_mergedAll M_again M_paces M_up M_byHost M_heap M_used M_planned M_gone v1 v2 v3 v4 v5 v6 v7 v8 v9 N _ _ _ h30 _ _ _ hw (lv_sub hl [2, 3, 4, 5, 6, 7, 8, 9, 10, 11, 1, 0] rfl) (fun H locs ls hw hl => ?_)
      refine lv_aload_n hx hb dX7_moves_184 rfl (lv_at hl 0 rfl) ?_
      refine va_get (D := (dC, dI)) (ci := 7) (v := .ref (aM 21)) (C := RX7) (T := TX7) (N := 36) hx hb hts i_X7_moves_X7 hown hK hw.1 0 rfl rfl 33 (by decide) (hts _ m_X7_moves_3) (fun _ h9 => h9) rfl dX7_moves_185 ?_
      refine lv_iload hx hb dX7_moves_188 (lv_at hl 10 rfl) ?_
      refine lv_iconst (v := 1) hx hb dX7_moves_190 (by decide) ?_
      have g31 := ix_in (gd_l hf)
      replace hf := gd_r hf
      refine g_zast hx hb hK hw 21 2 rfl rfl g31 dX7_moves_191 (fun H locs hw => ?_)
      replace hw : Wd (dC, dI) A s.heap H locs (w_M aM cI cJ cZ M_sorts M_values M_rows M_placeOf M_falling M_made M_runs M_allRuns M_begin M_size M_pool M_pooled M_ways M_merges M_takes M_taken M_parts M_every M_samples M_sample M_ends M_partSize M_merged M_most M_done M_on M_ticks M_mergedAll M_again M_paces M_up M_byHost M_heap (upd M_used e29.toNatClampNeg (vp_nar .boolean 1)) M_planned M_gone) := hw
      refine lv_aload_n hx hb dX7_moves_192 rfl (lv_at hl 0 rfl) ?_
      refine va_get (D := (dC, dI)) (ci := 7) (v := .ref (aM 22)) (C := RX7) (T := TX7) (N := 36) hx hb hts i_X7_moves_X7 hown hK hw.1 0 rfl rfl 34 (by decide) (hts _ m_X7_moves_1) (fun _ h9 => h9) rfl dX7_moves_193 ?_
      refine lv_iload hx hb dX7_moves_196 (lv_at hl 4 rfl) ?_
      refine lv_iload hx hb dX7_moves_198 (lv_at hl 7 rfl) ?_
      refine lv_iadd hx hb dX7_moves_200 ?_
      refine lv_dup2_11 hx hb dX7_moves_201 rfl rfl ?_
      have g32 := ix_in (gd_l hf)
      replace hf := gd_r hf
      refine va_iald hx hb hK hw.1 22 0 rfl rfl g32 dX7_moves_202 ?_
      refine lv_aload_n hx hb dX7_moves_203 rfl (lv_at hl 0 rfl) ?_
      refine va_get (D := (dC, dI)) (ci := 7) (v := .ref (aM 22)) (C := RX7) (T := TX7) (N := 36) hx hb hts i_X7_moves_X7 hown hK hw.1 0 rfl rfl 34 (by decide) (hts _ m_X7_moves_1) (fun _ h9 => h9) rfl dX7_moves_204 ?_
      refine lv_iload hx hb dX7_moves_207 (lv_at hl 10 rfl) ?_
      have g33 := ix_in (gd_l hf)
      replace hf := gd_r hf
      refine va_iald hx hb hK hw.1 22 0 rfl rfl g33 dX7_moves_209 ?_
      refine lv_iadd hx hb dX7_moves_210 ?_
      refine lv_topi (fun x34 ex34 => ?_)
      replace hf := nl_at hf ex34
      have g35 := ix_in (gd_l hf)
      replace hf := gd_r hf
      refine g_iast hx hb hK hw 22 0 rfl rfl g35 dX7_moves_211 (fun H locs hw => ?_)
      replace hw : Wd (dC, dI) A s.heap H locs (w_M aM cI cJ cZ M_sorts M_values M_rows M_placeOf M_falling M_made M_runs M_allRuns M_begin M_size M_pool M_pooled M_ways M_merges M_takes M_taken M_parts M_every M_samples M_sample M_ends M_partSize M_merged M_most M_done M_on M_ticks M_mergedAll M_again M_paces M_up M_byHost M_heap (upd M_used e29.toNatClampNeg (vp_nar .boolean 1)) (upd M_planned (v4 + v7).toNatClampNeg x34) M_gone) := hw
      refine lv_iload_n hx hb dX7_moves_212 rfl (lv_at hl 3 rfl) ?_
      refine lv_if_eq (tgt := 231) hx hb dX7_moves_213 (by decide) (fun b36 => ?_) (fun b36 => ?_)
      · replace hf := it_t hf b36
        obtain ⟨x37, ex37⟩ : ∃ y : Int32, y = v9 + 1 := ⟨_, rfl⟩
        replace hf := nl_at hf ex37
        refine lv_iinc (v := x37) (lv' := [(9, .int x37), (0, .ref (aM 0)), (1, .int v1), (2, .int v2), (3, .int v3), (4, .int v4), (5, .int v5), (6, .int v6), (7, .int v7), (8, .int v8), (10, .int e29)]) hx hb dX7_moves_231 hl (k := 9) rfl (by rw [ex37]; rfl) (by decide) rfl (fun ls hl => ?_)
        refine lv_goto (tgt := 106) hx hb dX7_moves_234 (by decide) ?_
        exact ih _ _ _ _ _ _ _ hf _ _ _ hw (lv_sub hl [1, 2, 3, 4, 5, 6, 7, 8, 9, 0] rfl) kx
      · replace hf := it_f hf b36
        refine lv_aload_n hx hb dX7_moves_216 rfl (lv_at hl 0 rfl) ?_
        refine va_get (D := (dC, dI)) (ci := 7) (v := .ref (aM 9)) (C := RX7) (T := TX7) (N := 36) hx hb hts i_X7_moves_X7 hown hK hw.1 0 rfl rfl 15 (by decide) (hts _ m_X7_moves_4) (fun _ h9 => h9) rfl dX7_moves_217 ?_
        refine lv_bipush (v := 8) hx hb dX7_moves_220 (by decide) ?_
        refine lv_iload hx hb dX7_moves_222 (lv_at hl 7 rfl) ?_
        refine lv_imul hx hb dX7_moves_224 ?_
        refine lv_iload hx hb dX7_moves_225 (lv_at hl 9 rfl) ?_
        refine lv_iadd hx hb dX7_moves_227 ?_
        refine lv_iload hx hb dX7_moves_228 (lv_at hl 10 rfl) ?_
        have g38 := ix_in (gd_l hf)
        replace hf := gd_r hf
        refine g_iast hx hb hK hw 9 0 rfl rfl g38 dX7_moves_230 (fun H locs hw => ?_)
        replace hw : Wd (dC, dI) A s.heap H locs (w_M aM cI cJ cZ M_sorts M_values M_rows M_placeOf M_falling M_made M_runs M_allRuns M_begin M_size M_pool M_pooled M_ways M_merges M_takes (upd M_taken ((8 * v7) + v9).toNatClampNeg e29) M_parts M_every M_samples M_sample M_ends M_partSize M_merged M_most M_done M_on M_ticks M_mergedAll M_again M_paces M_up M_byHost M_heap (upd M_used e29.toNatClampNeg (vp_nar .boolean 1)) (upd M_planned (v4 + v7).toNatClampNeg x34) M_gone) := hw
        obtain ⟨x39, ex39⟩ : ∃ y : Int32, y = v9 + 1 := ⟨_, rfl⟩
        replace hf := nl_at hf ex39
        refine lv_iinc (v := x39) (lv' := [(9, .int x39), (0, .ref (aM 0)), (1, .int v1), (2, .int v2), (3, .int v3), (4, .int v4), (5, .int v5), (6, .int v6), (7, .int v7), (8, .int v8), (10, .int e29)]) hx hb dX7_moves_231 hl (k := 9) rfl (by rw [ex39]; rfl) (by decide) rfl (fun ls hl => ?_)
        refine lv_goto (tgt := 106) hx hb dX7_moves_234 (by decide) ?_
        exact ih _ _ _ _ _ _ _ hf _ _ _ hw (lv_sub hl [1, 2, 3, 4, 5, 6, 7, 8, 9, 0] rfl) kx
set_option maxHeartbeats 4000000 in
set_option maxRecDepth 100000 in
theorem t_X7_moves_54 {p : Program} {l : Launch} {e : Env} {s : State} {m : MethodId} {args : Array Value} {below : List Frame} {meth : Method} {c : Code} {Q : State → Prop} {dC : Nat → ClassId} {dI : Nat → Nat → Nat} {cI cJ cZ : ClassId} {A : Nat → Prop} (aM : Nat → Nat) (X : Cx p m c cX7_moves 12 s args wsX7_moves RX7 (dC, dI) (tyl cI cJ cZ) A) (N : Nat) (M_sorts : (Nat → Int32)) (M_values : (Nat → Int32)) (M_rows : Int32) (M_placeOf : (Nat → Int32)) (M_falling : (Nat → Int32)) (M_made : Int32) (M_runs : Int32) (M_allRuns : Int32) (M_begin : (Nat → Int32)) (M_size : (Nat → Int32)) (M_pool : (Nat → Int32)) (M_pooled : Int32) (M_ways : Int32) (M_merges : Int32) (M_parts : Int32) (M_every : Int32) (M_samples : Int32) (M_sample : (Nat → Int32)) (M_ends : (Nat → Int32)) (M_partSize : (Nat → Int32)) (M_merged : (Nat → Int32)) (M_most : (Nat → Int32)) (M_done : (Nat → Int32)) (M_on : (Nat → Int32)) (M_ticks : Int32) (M_mergedAll : Int32) (M_again : Int32) (M_paces : (Nat → Int32)) (M_up : (Nat → Int32)) (M_byHost : (Nat → Int32)) (M_heap : (Nat → Int32)) (M_gone : (Nat → Int32)) (v1 : Int32) (v2 : Int32) (v3 : Int32) (v4 : Int32) :
    ∀ (n : Nat) (v5 : Int32) (v6 : Int32) (v7 : Int32) (M_takes : (Nat → Int32)) (M_taken : (Nat → Int32)) (M_used : (Nat → Int32)) (M_planned : (Nat → Int32)) (e6 : Int32) (e7 : Int32) (e_M_takes : (Nat → Int32)) (e_M_taken : (Nat → Int32)) (e_M_used : (Nat → Int32)) (e_M_planned : (Nat → Int32)), l_X7_moves_54 N v1 v2 v3 v4 n v5 v6 v7 M_takes M_taken M_used M_planned = some (e6, e7, e_M_takes, e_M_taken, e_M_used, e_M_planned) → ∀ (H : Heap) (locs : List Loc) (ls : Array Slot), Wd (dC, dI) A s.heap H locs (w_M aM cI cJ cZ M_sorts M_values M_rows M_placeOf M_falling M_made M_runs M_allRuns M_begin M_size M_pool M_pooled M_ways M_merges M_takes M_taken M_parts M_every M_samples M_sample M_ends M_partSize M_merged M_most M_done M_on M_ticks M_mergedAll M_again M_paces M_up M_byHost M_heap M_used M_planned M_gone) → lv_has ls 12 [(0, .ref (aM 0)), (1, .int v1), (2, .int v2), (3, .int v3), (4, .int v4), (5, .int v5), (6, .int v6), (7, .int v7)] → (∀ (H : Heap) (locs : List Loc) (ls : Array Slot), Wd (dC, dI) A s.heap H locs (w_M aM cI cJ cZ M_sorts M_values M_rows M_placeOf M_falling M_made M_runs M_allRuns M_begin M_size M_pool M_pooled M_ways M_merges e_M_takes e_M_taken M_parts M_every M_samples M_sample M_ends M_partSize M_merged M_most M_done M_on M_ticks M_mergedAll M_again M_paces M_up M_byHost M_heap e_M_used e_M_planned M_gone) → lv_has ls 12 [(0, .ref (aM 0)), (3, .int v3), (6, .int e6), (7, .int e7)] → W p l e rm_X7_moves s m args below meth c H locs 0 0 Q (F0 m 280 ls [])) → W p l e rm_X7_moves s m args below meth c H locs 0 0 Q (F0 m 54 ls []) := by
  obtain ⟨hx, hb, hml, hown, hts⟩ := X.1
  have hK := X.2.1
  have hN := X.2.2.2
  intro n
  induction n with
  | zero =>
    intro _ _ _ _ _ _ _ _ _ _ _ _ _ hf
    cases hf
  | succ n ih =>
    intro v5 v6 v7 M_takes M_taken M_used M_planned e6 e7 e_M_takes e_M_taken e_M_used e_M_planned hf H locs ls hw hl kx
    rw [l_X7_moves_54] at hf
    refine lv_iload hx hb dX7_moves_54 (lv_at hl 5 rfl) ?_
    refine lv_iconst (v := 1) hx hb dX7_moves_56 (by decide) ?_
    refine lv_icmp_le (tgt := 280) hx hb dX7_moves_57 (by decide) (fun b10 => ?_) (fun b10 => ?_)
    · replace hf := it_t hf b10
      cases hf
      exact kx _ _ _ hw (lv_sub hl [0, 3, 6, 7] rfl)
    · replace hf := it_f hf b10
      refine lv_iload hx hb dX7_moves_60 (lv_at hl 7 rfl) ?_
      obtain ⟨y11, h12, hf⟩ := bd1_ob hf
      refine join_ (nL := 12) (dC, dI) A 79 [.int y11] (w_M aM cI cJ cZ M_sorts M_values M_rows M_placeOf M_falling M_made M_runs M_allRuns M_begin M_size M_pool M_pooled M_ways M_merges M_takes M_taken M_parts M_every M_samples M_sample M_ends M_partSize M_merged M_most M_done M_on M_ticks M_mergedAll M_again M_paces M_up M_byHost M_heap M_used M_planned M_gone) [(0, .ref (aM 0)), (1, .int v1), (2, .int v2), (3, .int v3), (4, .int v4), (5, .int v5), (6, .int v6), (7, .int v7)] (fun H locs ls hw hl => ?_) (fun jn => ?_)
      · refine lv_istore (lv' := [(8, .int y11), (0, .ref (aM 0)), (1, .int v1), (2, .int v2), (3, .int v3), (4, .int v4), (5, .int v5), (6, .int v6), (7, .int v7)]) hx hb dX7_moves_79 hl (by decide) rfl (fun ls hl => ?_)
        refine lv_aload_n hx hb dX7_moves_81 rfl (lv_at hl 1 rfl) ?_
        refine va_get (D := (dC, dI)) (ci := 7) (v := .ref (aM 22)) (C := RX7) (T := TX7) (N := 36) hx hb hts i_X7_moves_X7 hown hK hw.1 0 rfl rfl 34 (by decide) (hts _ m_X7_moves_1) (fun _ h9 => h9) rfl dX7_moves_82 ?_
        refine lv_iload hx hb dX7_moves_85 (lv_at hl 5 rfl) ?_
        refine lv_iload hx hb dX7_moves_87 (lv_at hl 8 rfl) ?_
        refine lv_iadd hx hb dX7_moves_89 ?_
        refine lv_iconst (v := 0) hx hb dX7_moves_90 (by decide) ?_
        have g13 := ix_in (gd_l hf)
        replace hf := gd_r hf
        refine g_iast hx hb hK hw 22 0 rfl rfl g13 dX7_moves_91 (fun H locs hw => ?_)
        replace hw : Wd (dC, dI) A s.heap H locs (w_M aM cI cJ cZ M_sorts M_values M_rows M_placeOf M_falling M_made M_runs M_allRuns M_begin M_size M_pool M_pooled M_ways M_merges M_takes M_taken M_parts M_every M_samples M_sample M_ends M_partSize M_merged M_most M_done M_on M_ticks M_mergedAll M_again M_paces M_up M_byHost M_heap M_used (upd M_planned (v4 + v7).toNatClampNeg 0) M_gone) := hw
        refine lv_aload_n hx hb dX7_moves_92 rfl (lv_at hl 1 rfl) ?_
        refine va_get (D := (dC, dI)) (ci := 7) (v := .ref (aM 21)) (C := RX7) (T := TX7) (N := 36) hx hb hts i_X7_moves_X7 hown hK hw.1 0 rfl rfl 33 (by decide) (hts _ m_X7_moves_3) (fun _ h9 => h9) rfl dX7_moves_93 ?_
        refine lv_iload hx hb dX7_moves_96 (lv_at hl 5 rfl) ?_
        refine lv_iload hx hb dX7_moves_98 (lv_at hl 8 rfl) ?_
        refine lv_iadd hx hb dX7_moves_100 ?_
        refine lv_iconst (v := 0) hx hb dX7_moves_101 (by decide) ?_
        have g14 := ix_in (gd_l hf)
        replace hf := gd_r hf
        refine g_zast hx hb hK hw 21 2 rfl rfl g14 dX7_moves_102 (fun H locs hw => ?_)
        replace hw : Wd (dC, dI) A s.heap H locs (w_M aM cI cJ cZ M_sorts M_values M_rows M_placeOf M_falling M_made M_runs M_allRuns M_begin M_size M_pool M_pooled M_ways M_merges M_takes M_taken M_parts M_every M_samples M_sample M_ends M_partSize M_merged M_most M_done M_on M_ticks M_mergedAll M_again M_paces M_up M_byHost M_heap (upd M_used (v4 + v7).toNatClampNeg (vp_nar .boolean 0)) (upd M_planned (v4 + v7).toNatClampNeg 0) M_gone) := hw
        refine lv_iconst (v := 0) hx hb dX7_moves_103 (by decide) ?_
        refine lv_istore (lv' := [(9, .int 0), (8, .int y11), (0, .ref (aM 0)), (1, .int v1), (2, .int v2), (3, .int v3), (4, .int v4), (5, .int v5), (6, .int v6), (7, .int v7)]) hx hb dX7_moves_104 hl (by decide) rfl (fun ls hl => ?_)
        obtain ⟨e40, e41, e42, h43, hf⟩ := bd3_ob hf
        refine t_X7_moves_106 aM X N M_sorts M_values M_rows M_placeOf M_falling M_made M_runs M_allRuns M_begin M_size M_pool M_pooled M_ways M_merges M_takes M_parts M_every M_samples M_sample M_ends M_partSize M_merged M_most M_done M_on M_ticks M_mergedAll M_again M_paces M_up M_byHost M_heap M_gone v1 v2 v3 v4 v5 v6 v7 y11 N _ _ _ _ _ _ _ h43 _ _ _ hw (lv_sub hl [2, 3, 4, 5, 6, 7, 8, 9, 1, 0] rfl) (fun H locs ls hw hl => ?_)
        refine lv_iload_n hx hb dX7_moves_237 rfl (lv_at hl 3 rfl) ?_
        obtain ⟨y44, h45, hf⟩ := bd1_ob hf
        refine join_ (nL := 12) (dC, dI) A 250 [] (w_M aM cI cJ cZ M_sorts M_values M_rows M_placeOf M_falling M_made M_runs M_allRuns M_begin M_size M_pool M_pooled M_ways M_merges y44 e40 M_parts M_every M_samples M_sample M_ends M_partSize M_merged M_most M_done M_on M_ticks M_mergedAll M_again M_paces M_up M_byHost M_heap e41 e42 M_gone) [(0, .ref (aM 0)), (1, .int v1), (2, .int v2), (3, .int v3), (4, .int v4), (5, .int v5), (6, .int v6), (7, .int v7), (8, .int y11)] (fun H locs ls hw hl => ?_) (fun jn => ?_)
        · refine lv_iload hx hb dX7_moves_250 (lv_at hl 6 rfl) ?_
          refine lv_aload_n hx hb dX7_moves_252 rfl (lv_at hl 0 rfl) ?_
          refine va_get (D := (dC, dI)) (ci := 7) (v := .ref (aM 22)) (C := RX7) (T := TX7) (N := 36) hx hb hts i_X7_moves_X7 hown hK hw.1 0 rfl rfl 34 (by decide) (hts _ m_X7_moves_1) (fun _ h9 => h9) rfl dX7_moves_253 ?_
          refine lv_iload hx hb dX7_moves_256 (lv_at hl 4 rfl) ?_
          refine lv_iload hx hb dX7_moves_258 (lv_at hl 7 rfl) ?_
          refine lv_iadd hx hb dX7_moves_260 ?_
          have g46 := ix_in (gd_l hf)
          replace hf := gd_r hf
          refine va_iald hx hb hK hw.1 22 0 rfl rfl g46 dX7_moves_261 ?_
          refine lv_iadd hx hb dX7_moves_262 ?_
          refine lv_topi (fun x47 ex47 => ?_)
          replace hf := nl_at hf ex47
          refine lv_istore (lv' := [(6, .int x47), (0, .ref (aM 0)), (1, .int v1), (2, .int v2), (3, .int v3), (4, .int v4), (5, .int v5), (7, .int v7), (8, .int y11)]) hx hb dX7_moves_263 hl (by decide) rfl (fun ls hl => ?_)
          refine lv_iload hx hb dX7_moves_265 (lv_at hl 6 rfl) ?_
          refine lv_iload hx hb dX7_moves_267 (lv_at hl 8 rfl) ?_
          refine lv_iconst (v := 1) hx hb dX7_moves_269 (by decide) ?_
          refine lv_isub hx hb dX7_moves_270 ?_
          refine lv_isub hx hb dX7_moves_271 ?_
          refine lv_topi (fun x48 ex48 => ?_)
          replace hf := nl_at hf ex48
          refine lv_istore (lv' := [(5, .int x48), (6, .int x47), (0, .ref (aM 0)), (1, .int v1), (2, .int v2), (3, .int v3), (4, .int v4), (7, .int v7), (8, .int y11)]) hx hb dX7_moves_272 hl (by decide) rfl (fun ls hl => ?_)
          obtain ⟨x49, ex49⟩ : ∃ y : Int32, y = v7 + 1 := ⟨_, rfl⟩
          replace hf := nl_at hf ex49
          refine lv_iinc (v := x49) (lv' := [(7, .int x49), (5, .int x48), (6, .int x47), (0, .ref (aM 0)), (1, .int v1), (2, .int v2), (3, .int v3), (4, .int v4), (8, .int y11)]) hx hb dX7_moves_274 hl (k := 7) rfl (by rw [ex49]; rfl) (by decide) rfl (fun ls hl => ?_)
          refine lv_goto (tgt := 54) hx hb dX7_moves_277 (by decide) ?_
          exact ih _ _ _ _ _ _ _ _ _ _ _ _ _ hf _ _ _ hw (lv_sub hl [3, 4, 5, 6, 7, 1, 2, 0] rfl) kx
        · replace hf := h45
          refine lv_if_eq (tgt := 250) hx hb dX7_moves_238 (by decide) (fun b50 => ?_) (fun b50 => ?_)
          · replace hf := it_t hf b50
            cases hf
            exact jn _ _ _ hw (lv_sub hl [0, 1, 2, 3, 4, 5, 6, 7, 8] rfl)
          · replace hf := it_f hf b50
            refine lv_aload_n hx hb dX7_moves_241 rfl (lv_at hl 0 rfl) ?_
            refine va_get (D := (dC, dI)) (ci := 7) (v := .ref (aM 8)) (C := RX7) (T := TX7) (N := 36) hx hb hts i_X7_moves_X7 hown hK hw.1 0 rfl rfl 14 (by decide) (hts _ m_X7_moves_5) (fun _ h9 => h9) rfl dX7_moves_242 ?_
            refine lv_iload hx hb dX7_moves_245 (lv_at hl 7 rfl) ?_
            refine lv_iload hx hb dX7_moves_247 (lv_at hl 8 rfl) ?_
            have g51 := ix_in (gd_l hf)
            replace hf := gd_r hf
            refine g_iast hx hb hK hw 8 0 rfl rfl g51 dX7_moves_249 (fun H locs hw => ?_)
            replace hw : Wd (dC, dI) A s.heap H locs (w_M aM cI cJ cZ M_sorts M_values M_rows M_placeOf M_falling M_made M_runs M_allRuns M_begin M_size M_pool M_pooled M_ways M_merges (upd M_takes v7.toNatClampNeg y11) e40 M_parts M_every M_samples M_sample M_ends M_partSize M_merged M_most M_done M_on M_ticks M_mergedAll M_again M_paces M_up M_byHost M_heap e41 e42 M_gone) := hw
            cases hf
            exact jn _ _ _ hw (lv_sub hl [0, 1, 2, 3, 4, 5, 6, 7, 8] rfl)
      · replace hf := h12
        refine lv_if_ne (tgt := 78) hx hb dX7_moves_62 (by decide) (fun b52 => ?_) (fun b52 => ?_)
        · replace hf := it_f hf b52
          refine lv_iload_n hx hb dX7_moves_78 rfl (lv_at hl 1 rfl) ?_
          cases hf
          exact jn _ _ _ hw (lv_sub hl [0, 1, 2, 3, 4, 5, 6, 7] rfl)
        · replace hf := it_t hf b52
          refine lv_iconst (v := 2) hx hb dX7_moves_65 (by decide) ?_
          refine lv_iload hx hb dX7_moves_66 (lv_at hl 4 rfl) ?_
          refine lv_iconst (v := 2) hx hb dX7_moves_68 (by decide) ?_
          refine lv_isub hx hb dX7_moves_69 ?_
          refine lv_iload_n hx hb dX7_moves_70 rfl (lv_at hl 1 rfl) ?_
          refine lv_iconst (v := 1) hx hb dX7_moves_71 (by decide) ?_
          refine lv_isub hx hb dX7_moves_72 ?_
          have g53 := nz_ne (gd_l hf)
          replace hf := gd_r hf
          refine lv_irem hx hb dX7_moves_73 g53 ?_
          refine lv_iadd hx hb dX7_moves_74 ?_
          refine lv_goto (tgt := 79) hx hb dX7_moves_75 (by decide) ?_
          cases hf
          exact jn _ _ _ hw (lv_sub hl [0, 1, 2, 3, 4, 5, 6, 7] rfl)
set_option maxHeartbeats 4000000 in
set_option maxRecDepth 100000 in
theorem c_X7_moves (l : Launch) (dC : Nat → ClassId) (dI : Nat → Nat → Nat) (cI cJ cZ : ClassId) (aM : Nat → Nat) (N : Nat) (M_sorts : (Nat → Int32)) (M_values : (Nat → Int32)) (M_rows : Int32) (M_placeOf : (Nat → Int32)) (M_falling : (Nat → Int32)) (M_made : Int32) (M_runs : Int32) (M_allRuns : Int32) (M_begin : (Nat → Int32)) (M_size : (Nat → Int32)) (M_pool : (Nat → Int32)) (M_pooled : Int32) (M_ways : Int32) (M_merges : Int32) (M_takes : (Nat → Int32)) (M_taken : (Nat → Int32)) (M_parts : Int32) (M_every : Int32) (M_samples : Int32) (M_sample : (Nat → Int32)) (M_ends : (Nat → Int32)) (M_partSize : (Nat → Int32)) (M_merged : (Nat → Int32)) (M_most : (Nat → Int32)) (M_done : (Nat → Int32)) (M_on : (Nat → Int32)) (M_ticks : Int32) (M_mergedAll : Int32) (M_again : Int32) (M_paces : (Nat → Int32)) (M_up : (Nat → Int32)) (M_byHost : (Nat → Int32)) (M_heap : (Nat → Int32)) (M_used : (Nat → Int32)) (M_planned : (Nat → Int32)) (M_gone : (Nat → Int32)) (v1 : Int32) (v2 : Int32) (v3 : Int32) {r : Int32} {o_M_merges : Int32} {o_M_takes : (Nat → Int32)} {o_M_taken : (Nat → Int32)} {o_M_used : (Nat → Int32)} {o_M_planned : (Nat → Int32)} (hf : f_X7_moves N M_runs M_size M_merges M_takes M_taken M_used M_planned v1 v2 v3 = some (r, o_M_merges, o_M_takes, o_M_taken, o_M_used, o_M_planned)) :
    CtI l yX7_moves wsX7_moves rm_X7_moves (dC, dI) (tyl cI cJ cZ) [.ref (aM 0), .int v1, .int v2, .int v3] (w_M aM cI cJ cZ M_sorts M_values M_rows M_placeOf M_falling M_made M_runs M_allRuns M_begin M_size M_pool M_pooled M_ways M_merges M_takes M_taken M_parts M_every M_samples M_sample M_ends M_partSize M_merged M_most M_done M_on M_ticks M_mergedAll M_again M_paces M_up M_byHost M_heap M_used M_planned M_gone) (w_M aM cI cJ cZ M_sorts M_values M_rows M_placeOf M_falling M_made M_runs M_allRuns M_begin M_size M_pool M_pooled M_ways o_M_merges o_M_takes o_M_taken M_parts M_every M_samples M_sample M_ends M_partSize M_merged M_most M_done M_on M_ticks M_mergedAll M_again M_paces M_up M_byHost M_heap o_M_used o_M_planned M_gone) r := by
  refine startI (cc := cX7_moves) (maxL := 12) (rt := (some .int)) (by decide +kernel) rfl (Nat.le_of_ble_eq_true rfl) ?_
  intro p e s m below meth c A ls X hr hlocks hw hl
  replace X : Cx p m c cX7_moves 12 s _ wsX7_moves RX7 (dC, dI) (tyl cI cJ cZ) A := X
  replace hl : lv_has ls 12 [(0, .ref (aM 0)), (1, .int v1), (2, .int v2), (3, .int v3)] := hl
  obtain ⟨hx, hb, hml, hown, hts⟩ := X.1
  have hK := X.2.1
  have hN := X.2.2.2
  unfold f_X7_moves at hf
  refine lv_aload_n hx hb dX7_moves_0 rfl (lv_at hl 0 rfl) ?_
  refine va_get (D := (dC, dI)) (ci := 7) (v := .int M_runs) (C := RX7) (T := TX7) (N := 36) hx hb hts i_X7_moves_X7 hown hK hw.1 0 rfl rfl 6 (by decide) (hts _ m_X7_moves_0) (fun _ h9 => h9) rfl dX7_moves_1 ?_
  refine lv_istore (lv' := [(4, .int M_runs), (0, .ref (aM 0)), (1, .int v1), (2, .int v2), (3, .int v3)]) hx hb dX7_moves_4 hl (by decide) rfl (fun ls hl => ?_)
  refine lv_iconst (v := 0) hx hb dX7_moves_6 (by decide) ?_
  refine lv_istore (lv' := [(5, .int 0), (4, .int M_runs), (0, .ref (aM 0)), (1, .int v1), (2, .int v2), (3, .int v3)]) hx hb dX7_moves_7 hl (by decide) rfl (fun ls hl => ?_)
  obtain ⟨e7, e8, h9, hf⟩ := bd2_ob hf
  refine t_X7_moves_9 aM X N M_sorts M_values M_rows M_placeOf M_falling M_made M_runs M_allRuns M_begin M_size M_pool M_pooled M_ways M_merges M_takes M_taken M_parts M_every M_samples M_sample M_ends M_partSize M_merged M_most M_done M_on M_ticks M_mergedAll M_again M_paces M_up M_byHost M_heap M_gone v1 v2 v3 M_runs N _ _ _ _ _ h9 _ _ _ hw (lv_sub hl [2, 3, 4, 5, 1, 0] rfl) (fun H locs ls hw hl => ?_)
  refine lv_iload hx hb dX7_moves_44 (lv_at hl 4 rfl) ?_
  refine lv_istore (lv' := [(5, .int M_runs), (0, .ref (aM 0)), (1, .int v1), (2, .int v2), (3, .int v3), (4, .int M_runs)]) hx hb dX7_moves_46 hl (by decide) rfl (fun ls hl => ?_)
  refine lv_iconst (v := 0) hx hb dX7_moves_48 (by decide) ?_
  refine lv_istore (lv' := [(6, .int 0), (5, .int M_runs), (0, .ref (aM 0)), (1, .int v1), (2, .int v2), (3, .int v3), (4, .int M_runs)]) hx hb dX7_moves_49 hl (by decide) rfl (fun ls hl => ?_)
  refine lv_iconst (v := 0) hx hb dX7_moves_51 (by decide) ?_
  refine lv_istore (lv' := [(7, .int 0), (6, .int 0), (5, .int M_runs), (0, .ref (aM 0)), (1, .int v1), (2, .int v2), (3, .int v3), (4, .int M_runs)]) hx hb dX7_moves_52 hl (by decide) rfl (fun ls hl => ?_)
  obtain ⟨e54, e55, e56, e57, e58, e59, h60, hf⟩ := bd6_ob hf
  refine t_X7_moves_54 aM X N M_sorts M_values M_rows M_placeOf M_falling M_made M_runs M_allRuns M_begin M_size M_pool M_pooled M_ways M_merges M_parts M_every M_samples M_sample M_ends M_partSize M_merged M_most M_done M_on M_ticks M_mergedAll M_again M_paces M_up M_byHost M_heap M_gone v1 v2 v3 M_runs N _ _ _ _ _ _ _ _ _ _ _ _ _ h60 _ _ _ hw (lv_sub hl [3, 4, 5, 6, 7, 2, 1, 0] rfl) (fun H locs ls hw hl => ?_)
  refine lv_iload_n hx hb dX7_moves_280 rfl (lv_at hl 1 rfl) ?_
  refine lv_if_eq (tgt := 290) hx hb dX7_moves_281 (by decide) (fun b61 => ?_) (fun b61 => ?_)
  · replace hf := it_t hf b61
    refine lv_iload hx hb dX7_moves_290 (lv_at hl 2 rfl) ?_
    cases hf
    exact endI X hr rfl hlocks rfl hw dX7_moves_292
  · replace hf := it_f hf b61
    refine lv_aload_n hx hb dX7_moves_284 rfl (lv_at hl 0 rfl) ?_
    refine lv_iload hx hb dX7_moves_285 (lv_at hl 3 rfl) ?_
    refine g_put (D := (dC, dI)) (ci := 7) (v := .int e55) (ty := .int) (C := RX7) (T := TX7) (N := 36) hx hb hts i_X7_moves_X7 tyX7 tyX7_ok nmX7 hown hK hw 0 rfl rfl 13 (by decide) (hts _ m_X7_moves_6) (fun _ h9 => h9) rfl (by decide +kernel) rfl rfl (Nat.le_of_ble_eq_true rfl) dX7_moves_287 (fun H locs hw => ?_)
    replace hw : Wd (dC, dI) A s.heap H locs (w_M aM cI cJ cZ M_sorts M_values M_rows M_placeOf M_falling M_made M_runs M_allRuns M_begin M_size M_pool M_pooled M_ways e55 e56 e57 M_parts M_every M_samples M_sample M_ends M_partSize M_merged M_most M_done M_on M_ticks M_mergedAll M_again M_paces M_up M_byHost M_heap e58 e59 M_gone) := hw
    refine lv_iload hx hb dX7_moves_290 (lv_at hl 2 rfl) ?_
    cases hf
    exact endI X hr rfl hlocks rfl hw dX7_moves_292
