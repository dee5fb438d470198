def rm_X7_isThere : Room := { frames := 0, cells := 0, slots := 0, locals := 0 }
set_option maxRecDepth 20000 in
theorem i_X7_isThere_X7 : ∀ w ∈ u_ws RX7 TX7 36, w ∈ wsX7_isThere := by decide +kernel
set_option maxRecDepth 20000 in
theorem m_X7_isThere_0 : Cond.fieldLink RX7 62 "GreatSortModel" "parts" "I" ∈ wsX7_isThere := by decide +kernel
set_option maxRecDepth 20000 in
theorem m_X7_isThere_1 : Cond.fieldLink RX7 86 "GreatSortModel" "done" "[Z" ∈ wsX7_isThere := by decide +kernel
set_option maxHeartbeats 4000000 in
set_option maxRecDepth 100000 in
theorem t_X7_isThere_15 {p : Program} {l : Launch} {e : Env} {s : State} {m : MethodId} {args : Array Value} {below : List Frame} {meth : Method} {c : Code} {Q : State → Prop} {dC : Nat → ClassId} {dI : Nat → Nat → Nat} {cI cJ cZ : ClassId} {A : Nat → Prop} (aM : Nat → Nat) (X : Cx p m c cX7_isThere 3 s args wsX7_isThere RX7 (dC, dI) (tyl cI cJ cZ) A) (N : Nat) (M_sorts : (Nat → Int32)) (M_values : (Nat → Int32)) (M_rows : Int32) (M_placeOf : (Nat → Int32)) (M_falling : (Nat → Int32)) (M_made : Int32) (M_runs : Int32) (M_allRuns : Int32) (M_begin : (Nat → Int32)) (M_size : (Nat → Int32)) (M_pool : (Nat → Int32)) (M_pooled : Int32) (M_ways : Int32) (M_merges : Int32) (M_takes : (Nat → Int32)) (M_taken : (Nat → Int32)) (M_parts : Int32) (M_every : Int32) (M_samples : Int32) (M_sample : (Nat → Int32)) (M_ends : (Nat → Int32)) (M_partSize : (Nat → Int32)) (M_merged : (Nat → Int32)) (M_most : (Nat → Int32)) (M_done : (Nat → Int32)) (M_on : (Nat → Int32)) (M_ticks : Int32) (M_mergedAll : Int32) (M_again : Int32) (M_paces : (Nat → Int32)) (M_up : (Nat → Int32)) (M_byHost : (Nat → Int32)) (M_heap : (Nat → Int32)) (M_used : (Nat → Int32)) (M_planned : (Nat → Int32)) (M_gone : (Nat → Int32))  :
    ∀ (n : Nat) (v1 : Int32) (v2 : Int32) (e1 : Int32), l_X7_isThere_15 N M_parts M_done n v1 v2 = some e1 → ∀ (H : Heap) (locs : List Loc) (ls : Array Slot), Wd (dC, dI) A s.heap H locs (w_M aM cI cJ cZ M_sorts M_values M_rows M_placeOf M_falling M_made M_runs M_allRuns M_begin M_size M_pool M_pooled M_ways M_merges M_takes M_taken M_parts M_every M_samples M_sample M_ends M_partSize M_merged M_most M_done M_on M_ticks M_mergedAll M_again M_paces M_up M_byHost M_heap M_used M_planned M_gone) → lv_has ls 3 [(0, .ref (aM 0)), (1, .int v1), (2, .int v2)] → (∀ (H : Heap) (locs : List Loc) (ls : Array Slot), Wd (dC, dI) A s.heap H locs (w_M aM cI cJ cZ M_sorts M_values M_rows M_placeOf M_falling M_made M_runs M_allRuns M_begin M_size M_pool M_pooled M_ways M_merges M_takes M_taken M_parts M_every M_samples M_sample M_ends M_partSize M_merged M_most M_done M_on M_ticks M_mergedAll M_again M_paces M_up M_byHost M_heap M_used M_planned M_gone) → lv_has ls 3 [(1, .int e1)] → W p l e rm_X7_isThere s m args below meth c H locs 0 0 Q (F0 m 48 ls [])) → W p l e rm_X7_isThere s m args below meth c H locs 0 0 Q (F0 m 15 ls []) := by
  obtain ⟨hx, hb, hml, hown, hts⟩ := X.1
  have hK := X.2.1
  have hN := X.2.2.2
  intro n
  induction n with
  | zero =>
    intro _ _ _ hf
    cases hf
  | succ n ih =>
    intro v1 v2 e1 hf H locs ls hw hl kx
    rw [l_X7_isThere_15] at hf
    refine lv_iload_n hx hb dX7_isThere_15 rfl (lv_at hl 2 rfl) ?_
    refine lv_aload_n hx hb dX7_isThere_16 rfl (lv_at hl 0 rfl) ?_
    refine va_get (D := (dC, dI)) (ci := 7) (v := .int M_parts) (C := RX7) (T := TX7) (N := 36) hx hb hts i_X7_isThere_X7 hown hK hw.1 0 rfl rfl 16 (by decide) (hts _ m_X7_isThere_0) (fun _ h9 => h9) rfl dX7_isThere_17 ?_
    refine lv_icmp_ge (tgt := 48) hx hb dX7_isThere_20 (by decide) (fun b3 => ?_) (fun b3 => ?_)
    · replace hf := it_t hf b3
      cases hf
      exact kx _ _ _ hw (lv_sub hl [1] rfl)
    · replace hf := it_f hf b3
      refine lv_iload_n hx hb dX7_isThere_23 rfl (lv_at hl 1 rfl) ?_
      refine lv_if_eq (tgt := 40) hx hb dX7_isThere_24 (by decide) (fun b4 => ?_) (fun b4 => ?_)
      · replace hf := it_t hf b4
        refine lv_iconst (v := 0) hx hb dX7_isThere_40 (by decide) ?_
        refine lv_istore_n (lv' := [(1, .int 0), (0, .ref (aM 0)), (2, .int v2)]) hx hb dX7_isThere_41 rfl hl (by decide) rfl (fun ls hl => ?_)
        obtain ⟨x5, ex5⟩ : ∃ y : Int32, y = v2 + 1 := ⟨_, rfl⟩
        replace hf := nl_at hf ex5
        refine lv_iinc (v := x5) (lv' := [(2, .int x5), (1, .int 0), (0, .ref (aM 0))]) hx hb dX7_isThere_42 hl (k := 2) rfl (by rw [ex5]; rfl) (by decide) rfl (fun ls hl => ?_)
        refine lv_goto (tgt := 15) hx hb dX7_isThere_45 (by decide) ?_
        exact ih _ _ _ hf _ _ _ hw (lv_sub hl [2, 1, 0] rfl) kx
      · replace hf := it_f hf b4
        refine lv_aload_n hx hb dX7_isThere_27 rfl (lv_at hl 0 rfl) ?_
        refine va_get (D := (dC, dI)) (ci := 7) (v := .ref (aM 15)) (C := RX7) (T := TX7) (N := 36) hx hb hts i_X7_isThere_X7 hown hK hw.1 0 rfl rfl 24 (by decide) (hts _ m_X7_isThere_1) (fun _ h9 => h9) rfl dX7_isThere_28 ?_
        refine lv_iload_n hx hb dX7_isThere_31 rfl (lv_at hl 2 rfl) ?_
        have g6 := ix_in (gd_l hf)
        replace hf := gd_r hf
        refine va_zald hx hb hK hw.1 15 2 rfl rfl g6 dX7_isThere_32 ?_
        refine lv_if_eq (tgt := 40) hx hb dX7_isThere_33 (by decide) (fun b7 => ?_) (fun b7 => ?_)
        · replace hf := it_t hf b7
          refine lv_iconst (v := 0) hx hb dX7_isThere_40 (by decide) ?_
          refine lv_istore_n (lv' := [(1, .int 0), (0, .ref (aM 0)), (2, .int v2)]) hx hb dX7_isThere_41 rfl hl (by decide) rfl (fun ls hl => ?_)
          obtain ⟨x8, ex8⟩ : ∃ y : Int32, y = v2 + 1 := ⟨_, rfl⟩
          replace hf := nl_at hf ex8
          refine lv_iinc (v := x8) (lv' := [(2, .int x8), (1, .int 0), (0, .ref (aM 0))]) hx hb dX7_isThere_42 hl (k := 2) rfl (by rw [ex8]; rfl) (by decide) rfl (fun ls hl => ?_)
          refine lv_goto (tgt := 15) hx hb dX7_isThere_45 (by decide) ?_
          exact ih _ _ _ hf _ _ _ hw (lv_sub hl [2, 1, 0] rfl) kx
        · replace hf := it_f hf b7
          refine lv_iconst (v := 1) hx hb dX7_isThere_36 (by decide) ?_
          refine lv_goto (tgt := 41) hx hb dX7_isThere_37 (by decide) ?_
          refine lv_istore_n (lv' := [(1, .int 1), (0, .ref (aM 0)), (2, .int v2)]) hx hb dX7_isThere_41 rfl hl (by decide) rfl (fun ls hl => ?_)
          obtain ⟨x9, ex9⟩ : ∃ y : Int32, y = v2 + 1 := ⟨_, rfl⟩
          replace hf := nl_at hf ex9
          refine lv_iinc (v := x9) (lv' := [(2, .int x9), (1, .int 1), (0, .ref (aM 0))]) hx hb dX7_isThere_42 hl (k := 2) rfl (by rw [ex9]; rfl) (by decide) rfl (fun ls hl => ?_)
          refine lv_goto (tgt := 15) hx hb dX7_isThere_45 (by decide) ?_
          exact ih _ _ _ hf _ _ _ hw (lv_sub hl [2, 1, 0] rfl) kx
set_option maxHeartbeats 4000000 in
set_option maxRecDepth 100000 in
theorem c_X7_isThere (l : Launch) (dC : Nat → ClassId) (dI : Nat → Nat → Nat) (cI cJ cZ : ClassId) (aM : Nat → Nat) (N : Nat) (M_sorts : (Nat → Int32)) (M_values : (Nat → Int32)) (M_rows : Int32) (M_placeOf : (Nat → Int32)) (M_falling : (Nat → Int32)) (M_made : Int32) (M_runs : Int32) (M_allRuns : Int32) (M_begin : (Nat → Int32)) (M_size : (Nat → Int32)) (M_pool : (Nat → Int32)) (M_pooled : Int32) (M_ways : Int32) (M_merges : Int32) (M_takes : (Nat → Int32)) (M_taken : (Nat → Int32)) (M_parts : Int32) (M_every : Int32) (M_samples : Int32) (M_sample : (Nat → Int32)) (M_ends : (Nat → Int32)) (M_partSize : (Nat → Int32)) (M_merged : (Nat → Int32)) (M_most : (Nat → Int32)) (M_done : (Nat → Int32)) (M_on : (Nat → Int32)) (M_ticks : Int32) (M_mergedAll : Int32) (M_again : Int32) (M_paces : (Nat → Int32)) (M_up : (Nat → Int32)) (M_byHost : (Nat → Int32)) (M_heap : (Nat → Int32)) (M_used : (Nat → Int32)) (M_planned : (Nat → Int32)) (M_gone : (Nat → Int32))  {r : Int32} (hf : f_X7_isThere N M_parts M_done  = some r) :
    CtI l yX7_isThere wsX7_isThere rm_X7_isThere (dC, dI) (tyl cI cJ cZ) [.ref (aM 0)] (w_M aM cI cJ cZ M_sorts M_values M_rows M_placeOf M_falling M_made M_runs M_allRuns M_begin M_size M_pool M_pooled M_ways M_merges M_takes M_taken M_parts M_every M_samples M_sample M_ends M_partSize M_merged M_most M_done M_on M_ticks M_mergedAll M_again M_paces M_up M_byHost M_heap M_used M_planned M_gone) (w_M aM cI cJ cZ M_sorts M_values M_rows M_placeOf M_falling M_made M_runs M_allRuns M_begin M_size M_pool M_pooled M_ways M_merges M_takes M_taken M_parts M_every M_samples M_sample M_ends M_partSize M_merged M_most M_done M_on M_ticks M_mergedAll M_again M_paces M_up M_byHost M_heap M_used M_planned M_gone) r := by
  refine startI (cc := cX7_isThere) (maxL := 3) (rt := (some .boolean)) (by decide +kernel) rfl (Nat.le_of_ble_eq_true rfl) ?_
  intro p e s m below meth c A ls X hr hlocks hw hl
  replace X : Cx p m c cX7_isThere 3 s _ wsX7_isThere RX7 (dC, dI) (tyl cI cJ cZ) A := X
  replace hl : lv_has ls 3 [(0, .ref (aM 0))] := hl
  obtain ⟨hx, hb, hml, hown, hts⟩ := X.1
  have hK := X.2.1
  have hN := X.2.2.2
  unfold f_X7_isThere at hf
  refine lv_aload_n hx hb dX7_isThere_0 rfl (lv_at hl 0 rfl) ?_
  refine va_get (D := (dC, dI)) (ci := 7) (v := .int M_parts) (C := RX7) (T := TX7) (N := 36) hx hb hts i_X7_isThere_X7 hown hK hw.1 0 rfl rfl 16 (by decide) (hts _ m_X7_isThere_0) (fun _ h9 => h9) rfl dX7_isThere_1 ?_
  obtain ⟨y1, h2, hf⟩ := bd1_ob hf
  refine join_ (nL := 3) (dC, dI) A 12 [.int y1] (w_M aM cI cJ cZ M_sorts M_values M_rows M_placeOf M_falling M_made M_runs M_allRuns M_begin M_size M_pool M_pooled M_ways M_merges M_takes M_taken M_parts M_every M_samples M_sample M_ends M_partSize M_merged M_most M_done M_on M_ticks M_mergedAll M_again M_paces M_up M_byHost M_heap M_used M_planned M_gone) [(0, .ref (aM 0))] (fun H locs ls hw hl => ?_) (fun jn => ?_)
  · refine lv_istore_n (lv' := [(1, .int y1), (0, .ref (aM 0))]) hx hb dX7_isThere_12 rfl hl (by decide) rfl (fun ls hl => ?_)
    refine lv_iconst (v := 0) hx hb dX7_isThere_13 (by decide) ?_
    refine lv_istore_n (lv' := [(2, .int 0), (1, .int y1), (0, .ref (aM 0))]) hx hb dX7_isThere_14 rfl hl (by decide) rfl (fun ls hl => ?_)
    obtain ⟨e10, h11, hf⟩ := bd1_ob hf
    refine t_X7_isThere_15 aM X N M_sorts M_values M_rows M_placeOf M_falling M_made M_runs M_allRuns M_begin M_size M_pool M_pooled M_ways M_merges M_takes M_taken M_parts M_every M_samples M_sample M_ends M_partSize M_merged M_most M_done M_on M_ticks M_mergedAll M_again M_paces M_up M_byHost M_heap M_used M_planned M_gone N _ _ _ h11 _ _ _ hw (lv_sub hl [2, 1, 0] rfl) (fun H locs ls hw hl => ?_)
    refine lv_iload_n hx hb dX7_isThere_48 rfl (lv_at hl 0 rfl) ?_
    have g12 := bz_nar (gd_l hf)
    replace hf := gd_r hf
    cases hf
    exact endI X hr g12 hlocks rfl hw dX7_isThere_49
  · replace hf := h2
    refine lv_if_le (tgt := 11) hx hb dX7_isThere_4 (by decide) (fun b13 => ?_) (fun b13 => ?_)
    · replace hf := it_t hf b13
      refine lv_iconst (v := 0) hx hb dX7_isThere_11 (by decide) ?_
      cases hf
      exact jn _ _ _ hw (lv_sub hl [0] rfl)
    · replace hf := it_f hf b13
      refine lv_iconst (v := 1) hx hb dX7_isThere_7 (by decide) ?_
      refine lv_goto (tgt := 12) hx hb dX7_isThere_8 (by decide) ?_
      cases hf
      exact jn _ _ _ hw (lv_sub hl [0] rfl)
def rm_X7_work : Room := { frames := 1, cells := 0, slots := 0, locals := 22 }
set_option maxRecDepth 20000 in
theorem i_X7_work_X7 : ∀ w ∈ u_ws RX7 TX7 36, w ∈ wsX7_work := by decide +kernel
set_option maxRecDepth 20000 in
theorem m_X7_work_0 : Cond.fieldLink RX7 62 "GreatSortModel" "parts" "I" ∈ wsX7_work := by decide +kernel
set_option maxRecDepth 20000 in
theorem m_X7_work_1 : Cond.fieldLink RX7 92 "GreatSortModel" "ticks" "I" ∈ wsX7_work := by decide +kernel
set_option maxRecDepth 20000 in
theorem m_X7_work_2 : Cond.fieldLink RX7 95 "GreatSortModel" "mergedAll" "I" ∈ wsX7_work := by decide +kernel
set_option maxRecDepth 20000 in
theorem m_X7_work_3 : Cond.fieldLink RX7 98 "GreatSortModel" "again" "I" ∈ wsX7_work := by decide +kernel
set_option maxRecDepth 20000 in
theorem m_X7_work_4 : Cond.fieldLink RX7 86 "GreatSortModel" "done" "[Z" ∈ wsX7_work := by decide +kernel
set_option maxHeartbeats 4000000 in
set_option maxRecDepth 100000 in
theorem t_X7_work_65 {p : Program} {l : Launch} {e : Env} {s : State} {m : MethodId} {args : Array Value} {below : List Frame} {meth : Method} {c : Code} {Q : State → Prop} {dC : Nat → ClassId} {dI : Nat → Nat → Nat} {cI cJ cZ : ClassId} {A : Nat → Prop} (aM : Nat → Nat) (X : Cx p m c cX7_work 4 s args wsX7_work RX7 (dC, dI) (tyl cI cJ cZ) A) (N : Nat) (M_sorts : (Nat → Int32)) (M_values : (Nat → Int32)) (M_rows : Int32) (M_placeOf : (Nat → Int32)) (M_falling : (Nat → Int32)) (M_made : Int32) (M_runs : Int32) (M_allRuns : Int32) (M_begin : (Nat → Int32)) (M_size : (Nat → Int32)) (M_pool : (Nat → Int32)) (M_pooled : Int32) (M_ways : Int32) (M_merges : Int32) (M_takes : (Nat → Int32)) (M_taken : (Nat → Int32)) (M_parts : Int32) (M_every : Int32) (M_samples : Int32) (M_sample : (Nat → Int32)) (M_ends : (Nat → Int32)) (M_partSize : (Nat → Int32)) (M_merged : (Nat → Int32)) (M_most : (Nat → Int32)) (M_done : (Nat → Int32)) (M_on : (Nat → Int32)) (M_ticks : Int32) (M_mergedAll : Int32) (M_again : Int32) (M_paces : (Nat → Int32)) (M_up : (Nat → Int32)) (M_byHost : (Nat → Int32)) (M_heap : (Nat → Int32)) (M_used : (Nat → Int32)) (M_planned : (Nat → Int32)) (M_gone : (Nat → Int32))  :
    ∀ (n : Nat) (v2 : Int32) (v3 : Int32) (e2 : Int32), l_X7_work_65 N M_parts M_done n v2 v3 = some e2 → ∀ (H : Heap) (locs : List Loc) (ls : Array Slot), Wd (dC, dI) A s.heap H locs (w_M aM cI cJ cZ M_sorts M_values M_rows M_placeOf M_falling M_made M_runs M_allRuns M_begin M_size M_pool M_pooled M_ways M_merges M_takes M_taken M_parts M_every M_samples M_sample M_ends M_partSize M_merged M_most M_done M_on M_ticks M_mergedAll M_again M_paces M_up M_byHost M_heap M_used M_planned M_gone) → lv_has ls 4 [(0, .ref (aM 0)), (2, .int v2), (3, .int v3)] → (∀ (H : Heap) (locs : List Loc) (ls : Array Slot), Wd (dC, dI) A s.heap H locs (w_M aM cI cJ cZ M_sorts M_values M_rows M_placeOf M_falling M_made M_runs M_allRuns M_begin M_size M_pool M_pooled M_ways M_merges M_takes M_taken M_parts M_every M_samples M_sample M_ends M_partSize M_merged M_most M_done M_on M_ticks M_mergedAll M_again M_paces M_up M_byHost M_heap M_used M_planned M_gone) → lv_has ls 4 [(2, .int e2)] → W p l e rm_X7_work s m args below meth c H locs 0 0 Q (F0 m 96 ls [])) → W p l e rm_X7_work s m args below meth c H locs 0 0 Q (F0 m 65 ls []) := by
  obtain ⟨hx, hb, hml, hown, hts⟩ := X.1
  have hK := X.2.1
  have hN := X.2.2.2
  intro n
  induction n with
  | zero =>
    intro _ _ _ hf
    cases hf
  | succ n ih =>
    intro v2 v3 e2 hf H locs ls hw hl kx
    rw [l_X7_work_65] at hf
    refine lv_iload_n hx hb dX7_work_65 rfl (lv_at hl 2 rfl) ?_
    refine lv_aload_n hx hb dX7_work_66 rfl (lv_at hl 0 rfl) ?_
    refine va_get (D := (dC, dI)) (ci := 7) (v := .int M_parts) (C := RX7) (T := TX7) (N := 36) hx hb hts i_X7_work_X7 hown hK hw.1 0 rfl rfl 16 (by decide) (hts _ m_X7_work_0) (fun _ h9 => h9) rfl dX7_work_67 ?_
    refine lv_icmp_ge (tgt := 96) hx hb dX7_work_70 (by decide) (fun b6 => ?_) (fun b6 => ?_)
    · replace hf := it_t hf b6
      cases hf
      exact kx _ _ _ hw (lv_sub hl [1] rfl)
    · replace hf := it_f hf b6
      refine lv_iload_n hx hb dX7_work_73 rfl (lv_at hl 1 rfl) ?_
      refine lv_aload_n hx hb dX7_work_74 rfl (lv_at hl 0 rfl) ?_
      refine va_get (D := (dC, dI)) (ci := 7) (v := .ref (aM 15)) (C := RX7) (T := TX7) (N := 36) hx hb hts i_X7_work_X7 hown hK hw.1 0 rfl rfl 24 (by decide) (hts _ m_X7_work_4) (fun _ h9 => h9) rfl dX7_work_75 ?_
      refine lv_iload_n hx hb dX7_work_78 rfl (lv_at hl 2 rfl) ?_
      have g7 := ix_in (gd_l hf)
      replace hf := gd_r hf
      refine va_zald hx hb hK hw.1 15 2 rfl rfl g7 dX7_work_79 ?_
      refine lv_if_eq (tgt := 87) hx hb dX7_work_80 (by decide) (fun b8 => ?_) (fun b8 => ?_)
      · replace hf := it_t hf b8
        refine lv_iconst (v := 0) hx hb dX7_work_87 (by decide) ?_
        refine lv_iadd hx hb dX7_work_88 ?_
        refine lv_topi (fun x9 ex9 => ?_)
        replace hf := nl_at hf ex9
        refine lv_istore_n (lv' := [(2, .int x9), (0, .ref (aM 0)), (3, .int v3)]) hx hb dX7_work_89 rfl hl (by decide) rfl (fun ls hl => ?_)
        obtain ⟨x10, ex10⟩ : ∃ y : Int32, y = v3 + 1 := ⟨_, rfl⟩
        replace hf := nl_at hf ex10
        refine lv_iinc (v := x10) (lv' := [(3, .int x10), (2, .int x9), (0, .ref (aM 0))]) hx hb dX7_work_90 hl (k := 2) rfl (by rw [ex10]; rfl) (by decide) rfl (fun ls hl => ?_)
        refine lv_goto (tgt := 65) hx hb dX7_work_93 (by decide) ?_
        exact ih _ _ _ hf _ _ _ hw (lv_sub hl [2, 1, 0] rfl) kx
      · replace hf := it_f hf b8
        refine lv_iconst (v := 1) hx hb dX7_work_83 (by decide) ?_
        refine lv_goto (tgt := 88) hx hb dX7_work_84 (by decide) ?_
        refine lv_iadd hx hb dX7_work_88 ?_
        refine lv_topi (fun x11 ex11 => ?_)
        replace hf := nl_at hf ex11
        refine lv_istore_n (lv' := [(2, .int x11), (0, .ref (aM 0)), (3, .int v3)]) hx hb dX7_work_89 rfl hl (by decide) rfl (fun ls hl => ?_)
        obtain ⟨x12, ex12⟩ : ∃ y : Int32, y = v3 + 1 := ⟨_, rfl⟩
        replace hf := nl_at hf ex12
        refine lv_iinc (v := x12) (lv' := [(3, .int x12), (2, .int x11), (0, .ref (aM 0))]) hx hb dX7_work_90 hl (k := 2) rfl (by rw [ex12]; rfl) (by decide) rfl (fun ls hl => ?_)
        refine lv_goto (tgt := 65) hx hb dX7_work_93 (by decide) ?_
        exact ih _ _ _ hf _ _ _ hw (lv_sub hl [2, 1, 0] rfl) kx
set_option maxHeartbeats 4000000 in
set_option maxRecDepth 100000 in
theorem c_X7_work (l : Launch) (dC : Nat → ClassId) (dI : Nat → Nat → Nat) (cI cJ cZ : ClassId) (aM : Nat → Nat) (N : Nat) (M_sorts : (Nat → Int32)) (M_values : (Nat → Int32)) (M_rows : Int32) (M_placeOf : (Nat → Int32)) (M_falling : (Nat → Int32)) (M_made : Int32) (M_runs : Int32) (M_allRuns : Int32) (M_begin : (Nat → Int32)) (M_size : (Nat → Int32)) (M_pool : (Nat → Int32)) (M_pooled : Int32) (M_ways : Int32) (M_merges : Int32) (M_takes : (Nat → Int32)) (M_taken : (Nat → Int32)) (M_parts : Int32) (M_every : Int32) (M_samples : Int32) (M_sample : (Nat → Int32)) (M_ends : (Nat → Int32)) (M_partSize : (Nat → Int32)) (M_merged : (Nat → Int32)) (M_most : (Nat → Int32)) (M_done : (Nat → Int32)) (M_on : (Nat → Int32)) (M_ticks : Int32) (M_mergedAll : Int32) (M_again : Int32) (M_paces : (Nat → Int32)) (M_up : (Nat → Int32)) (M_byHost : (Nat → Int32)) (M_heap : (Nat → Int32)) (M_used : (Nat → Int32)) (M_planned : (Nat → Int32)) (M_gone : (Nat → Int32)) (v1 : Int32) {r : Int32} (hf : f_X7_work N M_parts M_done M_ticks M_mergedAll M_again v1 = some r) :
    CtI l yX7_work wsX7_work rm_X7_work (dC, dI) (tyl cI cJ cZ) [.ref (aM 0), .int v1] (w_M aM cI cJ cZ M_sorts M_values M_rows M_placeOf M_falling M_made M_runs M_allRuns M_begin M_size M_pool M_pooled M_ways M_merges M_takes M_taken M_parts M_every M_samples M_sample M_ends M_partSize M_merged M_most M_done M_on M_ticks M_mergedAll M_again M_paces M_up M_byHost M_heap M_used M_planned M_gone) (w_M aM cI cJ cZ M_sorts M_values M_rows M_placeOf M_falling M_made M_runs M_allRuns M_begin M_size M_pool M_pooled M_ways M_merges M_takes M_taken M_parts M_every M_samples M_sample M_ends M_partSize M_merged M_most M_done M_on M_ticks M_mergedAll M_again M_paces M_up M_byHost M_heap M_used M_planned M_gone) r := by
  refine startI (cc := cX7_work) (maxL := 4) (rt := (some .int)) (by decide +kernel) rfl (Nat.le_of_ble_eq_true rfl) ?_
  intro p e s m below meth c A ls X hr hlocks hw hl
  replace X : Cx p m c cX7_work 4 s _ wsX7_work RX7 (dC, dI) (tyl cI cJ cZ) A := X
  replace hl : lv_has ls 4 [(0, .ref (aM 0)), (1, .int v1)] := hl
  obtain ⟨hx, hb, hml, hown, hts⟩ := X.1
  have hK := X.2.1
  have hN := X.2.2.2
  unfold f_X7_work at hf
  refine lv_aload_n hx hb dX7_work_0 rfl (lv_at hl 0 rfl) ?_
  refine va_get (D := (dC, dI)) (ci := 7) (v := .int M_parts) (C := RX7) (T := TX7) (N := 36) hx hb hts i_X7_work_X7 hown hK hw.1 0 rfl rfl 16 (by decide) (hts _ m_X7_work_0) (fun _ h9 => h9) rfl dX7_work_1 ?_
  refine lv_if_ne (tgt := 9) hx hb dX7_work_4 (by decide) (fun b1 => ?_) (fun b1 => ?_)
  · replace hf := it_f hf b1
    refine lv_iconst (v := 0) hx hb dX7_work_9 (by decide) ?_
    refine lv_istore_n (lv' := [(2, .int 0), (0, .ref (aM 0)), (1, .int v1)]) hx hb dX7_work_10 rfl hl (by decide) rfl (fun ls hl => ?_)
    refine lv_iload_n hx hb dX7_work_11 rfl (lv_at hl 2 rfl) ?_
    by_cases b2 : v1 = 0
    · replace hf := it_t hf b2
      refine lv_tableIn (tgt := 48) (off := 36) hx hb dX7_work_12 (by rw [b2]; decide) (by rw [b2]; decide) (by rw [b2]; first | done | decide) (by decide) ?_
      refine lv_aload_n hx hb dX7_work_48 rfl (lv_at hl 1 rfl) ?_
      refine va_get (D := (dC, dI)) (ci := 7) (v := .int M_ticks) (C := RX7) (T := TX7) (N := 36) hx hb hts i_X7_work_X7 hown hK hw.1 0 rfl rfl 26 (by decide) (hts _ m_X7_work_1) (fun _ h9 => h9) rfl dX7_work_49 ?_
      cases hf
      exact endI X hr rfl hlocks rfl hw dX7_work_52
    · replace hf := it_f hf b2
      by_cases b3 : v1 = 1
      · replace hf := it_t hf b3
        refine lv_tableIn (tgt := 53) (off := 41) hx hb dX7_work_12 (by rw [b3]; decide) (by rw [b3]; decide) (by rw [b3]; first | done | decide) (by decide) ?_
        refine lv_aload_n hx hb dX7_work_53 rfl (lv_at hl 1 rfl) ?_
        refine va_get (D := (dC, dI)) (ci := 7) (v := .int M_mergedAll) (C := RX7) (T := TX7) (N := 36) hx hb hts i_X7_work_X7 hown hK hw.1 0 rfl rfl 27 (by decide) (hts _ m_X7_work_2) (fun _ h9 => h9) rfl dX7_work_54 ?_
        cases hf
        exact endI X hr rfl hlocks rfl hw dX7_work_57
      · replace hf := it_f hf b3
        by_cases b4 : v1 = 2
        · replace hf := it_t hf b4
          refine lv_tableIn (tgt := 58) (off := 46) hx hb dX7_work_12 (by rw [b4]; decide) (by rw [b4]; decide) (by rw [b4]; first | done | decide) (by decide) ?_
          refine lv_aload_n hx hb dX7_work_58 rfl (lv_at hl 1 rfl) ?_
          refine va_get (D := (dC, dI)) (ci := 7) (v := .int M_again) (C := RX7) (T := TX7) (N := 36) hx hb hts i_X7_work_X7 hown hK hw.1 0 rfl rfl 28 (by decide) (hts _ m_X7_work_3) (fun _ h9 => h9) rfl dX7_work_59 ?_
          cases hf
          exact endI X hr rfl hlocks rfl hw dX7_work_62
        · replace hf := it_f hf b4
          by_cases b5 : v1 = 3
          · replace hf := it_t hf b5
            refine lv_tableIn (tgt := 63) (off := 51) hx hb dX7_work_12 (by rw [b5]; decide) (by rw [b5]; decide) (by rw [b5]; first | done | decide) (by decide) ?_
            refine lv_iconst (v := 0) hx hb dX7_work_63 (by decide) ?_
            refine lv_istore_n (lv' := [(3, .int 0), (2, .int 0), (0, .ref (aM 0)), (1, .int v1)]) hx hb dX7_work_64 rfl hl (by decide) rfl (fun ls hl => ?_)
            obtain ⟨e13, h14, hf⟩ := bd1_ob hf
            refine t_X7_work_65 aM X N M_sorts M_values M_rows M_placeOf M_falling M_made M_runs M_allRuns M_begin M_size M_pool M_pooled M_ways M_merges M_takes M_taken M_parts M_every M_samples M_sample M_ends M_partSize M_merged M_most M_done M_on M_ticks M_mergedAll M_again M_paces M_up M_byHost M_heap M_used M_planned M_gone N _ _ _ h14 _ _ _ hw (lv_sub hl [2, 1, 0] rfl) (fun H locs ls hw hl => ?_)
            refine lv_iload_n hx hb dX7_work_96 rfl (lv_at hl 0 rfl) ?_
            cases hf
            exact endI X hr rfl hlocks rfl hw dX7_work_97
          · replace hf := it_f hf b5
            by_cases b15 : v1 = 4
            · replace hf := it_t hf b15
              refine lv_tableIn (tgt := 98) (off := 86) hx hb dX7_work_12 (by rw [b15]; decide) (by rw [b15]; decide) (by rw [b15]; first | done | decide) (by decide) ?_
              refine lv_aload_n hx hb dX7_work_98 rfl (lv_at hl 1 rfl) ?_
              obtain ⟨r16, h17, hf⟩ := bd1_ob hf
              refine clFI (As := []) (rest := []) X (c_X7_isThere l dC dI cI cJ cZ aM N M_sorts M_values M_rows M_placeOf M_falling M_made M_runs M_allRuns M_begin M_size M_pool M_pooled M_ways M_merges M_takes M_taken M_parts M_every M_samples M_sample M_ends M_partSize M_merged M_most M_done M_on M_ticks M_mergedAll M_again M_paces M_up M_byHost M_heap M_used M_planned M_gone h17) (cwV 0 hts gX7_work_X7_isThere rfl rfl rfl (by decide +kernel) ⟨Nat.le_of_ble_eq_true rfl, Nat.le_of_ble_eq_true rfl⟩) (ci := 7) (k0 := 0) rfl rfl rfl hw rfl rfl hl.1 rfl (Nat.le_of_ble_eq_true rfl) dX7_work_99 ⟨Nat.zero_le _, Nat.zero_le _⟩ (fun H locs hw => ?_)
              refine lv_if_eq (tgt := 109) hx hb dX7_work_102 (by decide) (fun b18 => ?_) (fun b18 => ?_)
              · replace hf := it_t hf b18
                refine lv_iconst (v := 0) hx hb dX7_work_109 (by decide) ?_
                cases hf
                exact endI X hr rfl hlocks rfl hw dX7_work_110
              · replace hf := it_f hf b18
                refine lv_iconst (v := 1) hx hb dX7_work_105 (by decide) ?_
                refine lv_goto (tgt := 110) hx hb dX7_work_106 (by decide) ?_
                cases hf
                exact endI X hr rfl hlocks rfl hw dX7_work_110
            · replace hf := it_f hf b15
              have n0_12 := lv_neT b2 (a := 0) (by decide)
              have n1_12 := lv_neT b3 (a := 1) (by decide)
              have n2_12 := lv_neT b4 (a := 2) (by decide)
              have n3_12 := lv_neT b5 (a := 3) (by decide)
              have n4_12 := lv_neT b15 (a := 4) (by decide)
              refine lv_tableOut (tgt := 111) hx hb dX7_work_12 (by omega) (by decide) ?_
              refine lv_iconst (v := (-1)) hx hb dX7_work_111 (by decide) ?_
              cases hf
              exact endI X hr rfl hlocks rfl hw dX7_work_112
  · replace hf := it_t hf b1
    refine lv_iconst (v := (-1)) hx hb dX7_work_7 (by decide) ?_
    cases hf
    exact endI X hr rfl hlocks rfl hw dX7_work_8
def rm_X7_end : Room := { frames := 1, cells := 0, slots := 0, locals := 22 }
set_option maxRecDepth 20000 in
theorem i_X7_end_X7 : ∀ w ∈ u_ws RX7 TX7 36, w ∈ wsX7_end := by decide +kernel
set_option maxRecDepth 20000 in
theorem m_X7_end_0 : Cond.fieldLink RX7 31 "GreatSortModel" "runs" "I" ∈ wsX7_end := by decide +kernel
set_option maxRecDepth 20000 in
theorem m_X7_end_1 : Cond.fieldLink RX7 44 "GreatSortModel" "pool" "[I" ∈ wsX7_end := by decide +kernel
set_option maxRecDepth 20000 in
theorem m_X7_end_2 : Cond.fieldLink RX7 37 "GreatSortModel" "begin" "[I" ∈ wsX7_end := by decide +kernel
set_option maxRecDepth 20000 in
theorem m_X7_end_3 : Cond.fieldLink RX7 40 "GreatSortModel" "size" "[I" ∈ wsX7_end := by decide +kernel
set_option maxHeartbeats 4000000 in
set_option maxRecDepth 100000 in
theorem t_X7_end_68 {p : Program} {l : Launch} {e : Env} {s : State} {m : MethodId} {args : Array Value} {below : List Frame} {meth : Method} {c : Code} {Q : State → Prop} {dC : Nat → ClassId} {dI : Nat → Nat → Nat} {cI cJ cZ : ClassId} {A : Nat → Prop} (aM : Nat → Nat) (X : Cx p m c cX7_end 6 s args wsX7_end RX7 (dC, dI) (tyl cI cJ cZ) A) (N : Nat) (M_sorts : (Nat → Int32)) (M_values : (Nat → Int32)) (M_rows : Int32) (M_placeOf : (Nat → Int32)) (M_falling : (Nat → Int32)) (M_made : Int32) (M_runs : Int32) (M_allRuns : Int32) (M_begin : (Nat → Int32)) (M_size : (Nat → Int32)) (M_pool : (Nat → Int32)) (M_pooled : Int32) (M_ways : Int32) (M_merges : Int32) (M_takes : (Nat → Int32)) (M_taken : (Nat → Int32)) (M_parts : Int32) (M_every : Int32) (M_samples : Int32) (M_sample : (Nat → Int32)) (M_ends : (Nat → Int32)) (M_partSize : (Nat → Int32)) (M_merged : (Nat → Int32)) (M_most : (Nat → Int32)) (M_done : (Nat → Int32)) (M_on : (Nat → Int32)) (M_ticks : Int32) (M_mergedAll : Int32) (M_again : Int32) (M_paces : (Nat → Int32)) (M_up : (Nat → Int32)) (M_byHost : (Nat → Int32)) (M_heap : (Nat → Int32)) (M_used : (Nat → Int32)) (M_planned : (Nat → Int32)) (M_gone : (Nat → Int32)) (v1 : Int32) (v2 : Int32) (v3 : Int32) :
    ∀ (n : Nat) (v4 : Int32) (v5 : Int32) (e4 : Int32), l_X7_end_68 N M_sorts M_values M_placeOf M_falling M_pool v2 v3 n v4 v5 = some e4 → ∀ (H : Heap) (locs : List Loc) (ls : Array Slot), Wd (dC, dI) A s.heap H locs (w_M aM cI cJ cZ M_sorts M_values M_rows M_placeOf M_falling M_made M_runs M_allRuns M_begin M_size M_pool M_pooled M_ways M_merges M_takes M_taken M_parts M_every M_samples M_sample M_ends M_partSize M_merged M_most M_done M_on M_ticks M_mergedAll M_again M_paces M_up M_byHost M_heap M_used M_planned M_gone) → lv_has ls 6 [(0, .ref (aM 0)), (1, .int v1), (2, .int v2), (3, .int v3), (4, .int v4), (5, .int v5)] → (∀ (H : Heap) (locs : List Loc) (ls : Array Slot), Wd (dC, dI) A s.heap H locs (w_M aM cI cJ cZ M_sorts M_values M_rows M_placeOf M_falling M_made M_runs M_allRuns M_begin M_size M_pool M_pooled M_ways M_merges M_takes M_taken M_parts M_every M_samples M_sample M_ends M_partSize M_merged M_most M_done M_on M_ticks M_mergedAll M_again M_paces M_up M_byHost M_heap M_used M_planned M_gone) → lv_has ls 6 [(0, .ref (aM 0)), (1, .int v1), (2, .int v2), (3, .int v3), (4, .int e4)] → W p l e rm_X7_end s m args below meth c H locs 0 0 Q (F0 m 116 ls [])) → W p l e rm_X7_end s m args below meth c H locs 0 0 Q (F0 m 68 ls []) := by
  obtain ⟨hx, hb, hml, hown, hts⟩ := X.1
  have hK := X.2.1
  have hN := X.2.2.2
  intro n
  induction n with
  | zero =>
    intro _ _ _ hf
    cases hf
  | succ n ih =>
    intro v4 v5 e4 hf H locs ls hw hl kx
    rw [l_X7_end_68] at hf
    refine lv_iload hx hb dX7_end_68 (lv_at hl 5 rfl) ?_
    refine lv_iload_n hx hb dX7_end_70 rfl (lv_at hl 2 rfl) ?_
    refine lv_icmp_ge (tgt := 116) hx hb dX7_end_71 (by decide) (fun b9 => ?_) (fun b9 => ?_)
    · replace hf := it_t hf b9
      cases hf
      exact kx _ _ _ hw (lv_sub hl [0, 1, 2, 3, 4] rfl)
    · replace hf := it_f hf b9
      refine lv_iload hx hb dX7_end_74 (lv_at hl 4 rfl) ?_
      refine lv_iload hx hb dX7_end_76 (lv_at hl 5 rfl) ?_
      refine lv_iload_n hx hb dX7_end_78 rfl (lv_at hl 3 rfl) ?_
      refine lv_icmp_eq (tgt := 106) hx hb dX7_end_79 (by decide) (fun b10 => ?_) (fun b10 => ?_)
      · replace hf := it_t hf b10
        refine lv_iconst (v := 0) hx hb dX7_end_106 (by decide) ?_
        refine lv_iadd hx hb dX7_end_107 ?_
        refine lv_topi (fun x11 ex11 => ?_)
        replace hf := nl_at hf ex11
        refine lv_istore (lv' := [(4, .int x11), (0, .ref (aM 0)), (1, .int v1), (2, .int v2), (3, .int v3), (5, .int v5)]) hx hb dX7_end_108 hl (by decide) rfl (fun ls hl => ?_)
        obtain ⟨x12, ex12⟩ : ∃ y : Int32, y = v5 + 1 := ⟨_, rfl⟩
        replace hf := nl_at hf ex12
        refine lv_iinc (v := x12) (lv' := [(5, .int x12), (4, .int x11), (0, .ref (aM 0)), (1, .int v1), (2, .int v2), (3, .int v3)]) hx hb dX7_end_110 hl (k := 5) rfl (by rw [ex12]; rfl) (by decide) rfl (fun ls hl => ?_)
        refine lv_goto (tgt := 68) hx hb dX7_end_113 (by decide) ?_
        exact ih _ _ _ hf _ _ _ hw (lv_sub hl [2, 3, 4, 5, 1, 0] rfl) kx
      · replace hf := it_f hf b10
        refine lv_aload_n hx hb dX7_end_82 rfl (lv_at hl 0 rfl) ?_
        refine lv_aload_n hx hb dX7_end_83 rfl (lv_at hl 0 rfl) ?_
        refine va_get (D := (dC, dI)) (ci := 7) (v := .ref (aM 7)) (C := RX7) (T := TX7) (N := 36) hx hb hts i_X7_end_X7 hown hK hw.1 0 rfl rfl 10 (by decide) (hts _ m_X7_end_1) (fun _ h9 => h9) rfl dX7_end_84 ?_
        refine lv_iload hx hb dX7_end_87 (lv_at hl 5 rfl) ?_
        have g13 := ix_in (gd_l hf)
        replace hf := gd_r hf
        refine va_iald hx hb hK hw.1 7 0 rfl rfl g13 dX7_end_89 ?_
        refine lv_aload_n hx hb dX7_end_90 rfl (lv_at hl 0 rfl) ?_
        refine va_get (D := (dC, dI)) (ci := 7) (v := .ref (aM 7)) (C := RX7) (T := TX7) (N := 36) hx hb hts i_X7_end_X7 hown hK hw.1 0 rfl rfl 10 (by decide) (hts _ m_X7_end_1) (fun _ h9 => h9) rfl dX7_end_91 ?_
        refine lv_iload_n hx hb dX7_end_94 rfl (lv_at hl 3 rfl) ?_
        have g14 := ix_in (gd_l hf)
        replace hf := gd_r hf
        refine va_iald hx hb hK hw.1 7 0 rfl rfl g14 dX7_end_95 ?_
        obtain ⟨r15, h16, hf⟩ := bd1_ob hf
        refine clFI (As := [.int (M_pool v5.toNatClampNeg), .int (M_pool v3.toNatClampNeg)]) (rest := [.int v4]) X (c_X7_ahead l dC dI cI cJ cZ aM N M_sorts M_values M_rows M_placeOf M_falling M_made M_runs M_allRuns M_begin M_size M_pool M_pooled M_ways M_merges M_takes M_taken M_parts M_every M_samples M_sample M_ends M_partSize M_merged M_most M_done M_on M_ticks M_mergedAll M_again M_paces M_up M_byHost M_heap M_used M_planned M_gone (M_pool v5.toNatClampNeg) (M_pool v3.toNatClampNeg) h16) (cwV 2 hts gX7_end_X7_ahead rfl rfl rfl (by decide +kernel) ⟨Nat.le_of_ble_eq_true rfl, Nat.le_of_ble_eq_true rfl⟩) (ci := 7) (k0 := 0) rfl rfl rfl hw rfl rfl hl.1 rfl (Nat.le_of_ble_eq_true rfl) dX7_end_96 ⟨Nat.zero_le _, Nat.zero_le _⟩ (fun H locs hw => ?_)
        refine lv_if_eq (tgt := 106) hx hb dX7_end_99 (by decide) (fun b17 => ?_) (fun b17 => ?_)
        · replace hf := it_t hf b17
          refine lv_iconst (v := 0) hx hb dX7_end_106 (by decide) ?_
          refine lv_iadd hx hb dX7_end_107 ?_
          refine lv_topi (fun x18 ex18 => ?_)
          replace hf := nl_at hf ex18
          refine lv_istore (lv' := [(4, .int x18), (0, .ref (aM 0)), (1, .int v1), (2, .int v2), (3, .int v3), (5, .int v5)]) hx hb dX7_end_108 hl (by decide) rfl (fun ls hl => ?_)
          obtain ⟨x19, ex19⟩ : ∃ y : Int32, y = v5 + 1 := ⟨_, rfl⟩
          replace hf := nl_at hf ex19
          refine lv_iinc (v := x19) (lv' := [(5, .int x19), (4, .int x18), (0, .ref (aM 0)), (1, .int v1), (2, .int v2), (3, .int v3)]) hx hb dX7_end_110 hl (k := 5) rfl (by rw [ex19]; rfl) (by decide) rfl (fun ls hl => ?_)
          refine lv_goto (tgt := 68) hx hb dX7_end_113 (by decide) ?_
          exact ih _ _ _ hf _ _ _ hw (lv_sub hl [2, 3, 4, 5, 1, 0] rfl) kx
        · replace hf := it_f hf b17
          refine lv_iconst (v := 1) hx hb dX7_end_102 (by decide) ?_
          refine lv_goto (tgt := 107) hx hb dX7_end_103 (by decide) ?_
          refine lv_iadd hx hb dX7_end_107 ?_
          refine lv_topi (fun x20 ex20 => ?_)
          replace hf := nl_at hf ex20
          refine lv_istore (lv' := [(4, .int x20), (0, .ref (aM 0)), (1, .int v1), (2, .int v2), (3, .int v3), (5, .int v5)]) hx hb dX7_end_108 hl (by decide) rfl (fun ls hl => ?_)
          obtain ⟨x21, ex21⟩ : ∃ y : Int32, y = v5 + 1 := ⟨_, rfl⟩
          replace hf := nl_at hf ex21
          refine lv_iinc (v := x21) (lv' := [(5, .int x21), (4, .int x20), (0, .ref (aM 0)), (1, .int v1), (2, .int v2), (3, .int v3)]) hx hb dX7_end_110 hl (k := 5) rfl (by rw [ex21]; rfl) (by decide) rfl (fun ls hl => ?_)
          refine lv_goto (tgt := 68) hx hb dX7_end_113 (by decide) ?_
          exact ih _ _ _ hf _ _ _ hw (lv_sub hl [2, 3, 4, 5, 1, 0] rfl) kx
set_option maxHeartbeats 4000000 in
set_option maxRecDepth 100000 in
theorem t_X7_end_57 {p : Program} {l : Launch} {e : Env} {s : State} {m : MethodId} {args : Array Value} {below : List Frame} {meth : Method} {c : Code} {Q : State → Prop} {dC : Nat → ClassId} {dI : Nat → Nat → Nat} {cI cJ cZ : ClassId} {A : Nat → Prop} (aM : Nat → Nat) (X : Cx p m c cX7_end 6 s args wsX7_end RX7 (dC, dI) (tyl cI cJ cZ) A) (N : Nat) (M_sorts : (Nat → Int32)) (M_values : (Nat → Int32)) (M_rows : Int32) (M_placeOf : (Nat → Int32)) (M_falling : (Nat → Int32)) (M_made : Int32) (M_runs : Int32) (M_allRuns : Int32) (M_begin : (Nat → Int32)) (M_size : (Nat → Int32)) (M_pool : (Nat → Int32)) (M_pooled : Int32) (M_ways : Int32) (M_merges : Int32) (M_takes : (Nat → Int32)) (M_taken : (Nat → Int32)) (M_parts : Int32) (M_every : Int32) (M_samples : Int32) (M_sample : (Nat → Int32)) (M_ends : (Nat → Int32)) (M_partSize : (Nat → Int32)) (M_merged : (Nat → Int32)) (M_most : (Nat → Int32)) (M_done : (Nat → Int32)) (M_on : (Nat → Int32)) (M_ticks : Int32) (M_mergedAll : Int32) (M_again : Int32) (M_paces : (Nat → Int32)) (M_up : (Nat → Int32)) (M_byHost : (Nat → Int32)) (M_heap : (Nat → Int32)) (M_used : (Nat → Int32)) (M_planned : (Nat → Int32)) (M_gone : (Nat → Int32)) (v1 : Int32) (v2 : Int32) :
    ∀ (n : Nat) (v3 : Int32) (eo : Option Int32), l_X7_end_57 N M_sorts M_values M_placeOf M_falling M_pool v1 v2 n v3 = some eo → ∀ (H : Heap) (locs : List Loc) (ls : Array Slot), Wd (dC, dI) A s.heap H locs (w_M aM cI cJ cZ M_sorts M_values M_rows M_placeOf M_falling M_made M_runs M_allRuns M_begin M_size M_pool M_pooled M_ways M_merges M_takes M_taken M_parts M_every M_samples M_sample M_ends M_partSize M_merged M_most M_done M_on M_ticks M_mergedAll M_again M_paces M_up M_byHost M_heap M_used M_planned M_gone) → lv_has ls 6 [(0, .ref (aM 0)), (1, .int v1), (2, .int v2), (3, .int v3)] → (eo = none → ∀ (H : Heap) (locs : List Loc) (ls : Array Slot), Wd (dC, dI) A s.heap H locs (w_M aM cI cJ cZ M_sorts M_values M_rows M_placeOf M_falling M_made M_runs M_allRuns M_begin M_size M_pool M_pooled M_ways M_merges M_takes M_taken M_parts M_every M_samples M_sample M_ends M_partSize M_merged M_most M_done M_on M_ticks M_mergedAll M_again M_paces M_up M_byHost M_heap M_used M_planned M_gone) → lv_has ls 6 [] → W p l e rm_X7_end s m args below meth c H locs 0 0 Q (F0 m 135 ls [])) → (∀ (z : Nat) (r : Int32), eo = some r → decode cX7_end z = .ok (.ireturn, 1) → ∀ (H : Heap) (locs : List Loc) (ls : Array Slot), Wd (dC, dI) A s.heap H locs (w_M aM cI cJ cZ M_sorts M_values M_rows M_placeOf M_falling M_made M_runs M_allRuns M_begin M_size M_pool M_pooled M_ways M_merges M_takes M_taken M_parts M_every M_samples M_sample M_ends M_partSize M_merged M_most M_done M_on M_ticks M_mergedAll M_again M_paces M_up M_byHost M_heap M_used M_planned M_gone) → W p l e rm_X7_end s m args below meth c H locs 0 0 Q (F0 m z ls [.int r])) → W p l e rm_X7_end s m args below meth c H locs 0 0 Q (F0 m 57 ls []) := by
  obtain ⟨hx, hb, hml, hown, hts⟩ := X.1
  have hK := X.2.1
  have hN := X.2.2.2
  intro n
  induction n with
  | zero =>
    intro _ _ hf
    cases hf
  | succ n ih =>
    intro v3 eo hf H locs ls hw hl kx kr
    rw [l_X7_end_57] at hf
    refine lv_iload_n hx hb dX7_end_57 rfl (lv_at hl 3 rfl) ?_
    refine lv_iload_n hx hb dX7_end_58 rfl (lv_at hl 2 rfl) ?_
    refine lv_icmp_ge (tgt := 135) hx hb dX7_end_59 (by decide) (fun b8 => ?_) (fun b8 => ?_)
    · replace hf := it_t hf b8
      cases hf
      exact kx rfl _ _ _ hw (lv_sub hl [] rfl)
    · replace hf := it_f hf b8
      refine lv_iconst (v := 0) hx hb dX7_end_62 (by decide) ?_
      refine lv_istore (lv' := [(4, .int 0), (0, .ref (aM 0)), (1, .int v1), (2, .int v2), (3, .int v3)]) hx hb dX7_end_63 hl (by decide) rfl (fun ls hl => ?_)
      refine lv_iconst (v := 0) hx hb dX7_end_65 (by decide) ?_
      refine lv_istore (lv' := [(5, .int 0), (4, .int 0), (0, .ref (aM 0)), (1, .int v1), (2, .int v2), (3, .int v3)]) hx hb dX7_end_66 hl (by decide) rfl (fun ls hl => ?_)
      obtain ⟨e22, h23, hf⟩ := bd1_ob hf
      refine t_X7_end_68 aM X N M_sorts M_values M_rows M_placeOf M_falling M_made M_runs M_allRuns M_begin M_size M_pool M_pooled M_ways M_merges M_takes M_taken M_parts M_every M_samples M_sample M_ends M_partSize M_merged M_most M_done M_on M_ticks M_mergedAll M_again M_paces M_up M_byHost M_heap M_used M_planned M_gone v1 v2 v3 N _ _ _ h23 _ _ _ hw (lv_sub hl [2, 3, 4, 5, 1, 0] rfl) (fun H locs ls hw hl => ?_)
      refine lv_iload hx hb dX7_end_116 (lv_at hl 4 rfl) ?_
      refine lv_iload_n hx hb dX7_end_118 rfl (lv_at hl 1 rfl) ?_
      refine lv_icmp_ne (tgt := 129) hx hb dX7_end_119 (by decide) (fun b24 => ?_) (fun b24 => ?_)
      · replace hf := it_f hf b24
        obtain ⟨x25, ex25⟩ : ∃ y : Int32, y = v3 + 1 := ⟨_, rfl⟩
        replace hf := nl_at hf ex25
        refine lv_iinc (v := x25) (lv' := [(3, .int x25), (0, .ref (aM 0)), (1, .int v1), (2, .int v2), (4, .int e22)]) hx hb dX7_end_129 hl (k := 3) rfl (by rw [ex25]; rfl) (by decide) rfl (fun ls hl => ?_)
        refine lv_goto (tgt := 57) hx hb dX7_end_132 (by decide) ?_
        exact ih _ _ hf _ _ _ hw (lv_sub hl [1, 2, 3, 0] rfl) kx kr
      · replace hf := it_t hf b24
        refine lv_aload_n hx hb dX7_end_122 rfl (lv_at hl 0 rfl) ?_
        refine va_get (D := (dC, dI)) (ci := 7) (v := .ref (aM 7)) (C := RX7) (T := TX7) (N := 36) hx hb hts i_X7_end_X7 hown hK hw.1 0 rfl rfl 10 (by decide) (hts _ m_X7_end_1) (fun _ h9 => h9) rfl dX7_end_123 ?_
        refine lv_iload_n hx hb dX7_end_126 rfl (lv_at hl 3 rfl) ?_
        have g26 := ix_in (gd_l hf)
        replace hf := gd_r hf
        refine va_iald hx hb hK hw.1 7 0 rfl rfl g26 dX7_end_127 ?_
        cases hf
        exact kr 128 _ rfl dX7_end_128 _ _ _ hw
set_option maxHeartbeats 4000000 in
set_option maxRecDepth 100000 in
theorem c_X7_end (l : Launch) (dC : Nat → ClassId) (dI : Nat → Nat → Nat) (cI cJ cZ : ClassId) (aM : Nat → Nat) (N : Nat) (M_sorts : (Nat → Int32)) (M_values : (Nat → Int32)) (M_rows : Int32) (M_placeOf : (Nat → Int32)) (M_falling : (Nat → Int32)) (M_made : Int32) (M_runs : Int32) (M_allRuns : Int32) (M_begin : (Nat → Int32)) (M_size : (Nat → Int32)) (M_pool : (Nat → Int32)) (M_pooled : Int32) (M_ways : Int32) (M_merges : Int32) (M_takes : (Nat → Int32)) (M_taken : (Nat → Int32)) (M_parts : Int32) (M_every : Int32) (M_samples : Int32) (M_sample : (Nat → Int32)) (M_ends : (Nat → Int32)) (M_partSize : (Nat → Int32)) (M_merged : (Nat → Int32)) (M_most : (Nat → Int32)) (M_done : (Nat → Int32)) (M_on : (Nat → Int32)) (M_ticks : Int32) (M_mergedAll : Int32) (M_again : Int32) (M_paces : (Nat → Int32)) (M_up : (Nat → Int32)) (M_byHost : (Nat → Int32)) (M_heap : (Nat → Int32)) (M_used : (Nat → Int32)) (M_planned : (Nat → Int32)) (M_gone : (Nat → Int32)) (v1 : Int32) {r : Int32} (hf : f_X7_end N M_sorts M_values M_placeOf M_falling M_runs M_begin M_size M_pool M_parts M_done v1 = some r) :
    CtI l yX7_end wsX7_end rm_X7_end (dC, dI) (tyl cI cJ cZ) [.ref (aM 0), .int v1] (w_M aM cI cJ cZ M_sorts M_values M_rows M_placeOf M_falling M_made M_runs M_allRuns M_begin M_size M_pool M_pooled M_ways M_merges M_takes M_taken M_parts M_every M_samples M_sample M_ends M_partSize M_merged M_most M_done M_on M_ticks M_mergedAll M_again M_paces M_up M_byHost M_heap M_used M_planned M_gone) (w_M aM cI cJ cZ M_sorts M_values M_rows M_placeOf M_falling M_made M_runs M_allRuns M_begin M_size M_pool M_pooled M_ways M_merges M_takes M_taken M_parts M_every M_samples M_sample M_ends M_partSize M_merged M_most M_done M_on M_ticks M_mergedAll M_again M_paces M_up M_byHost M_heap M_used M_planned M_gone) r := by
  refine startI (cc := cX7_end) (maxL := 6) (rt := (some .int)) (by decide +kernel) rfl (Nat.le_of_ble_eq_true rfl) ?_
  intro p e s m below meth c A ls X hr hlocks hw hl
  replace X : Cx p m c cX7_end 6 s _ wsX7_end RX7 (dC, dI) (tyl cI cJ cZ) A := X
  replace hl : lv_has ls 6 [(0, .ref (aM 0)), (1, .int v1)] := hl
  obtain ⟨hx, hb, hml, hown, hts⟩ := X.1
  have hK := X.2.1
  have hN := X.2.2.2
  unfold f_X7_end at hf
  refine lv_aload_n hx hb dX7_end_0 rfl (lv_at hl 0 rfl) ?_
  obtain ⟨r1, h2, hf⟩ := bd1_ob hf
  refine clFI (As := []) (rest := []) X (c_X7_isThere l dC dI cI cJ cZ aM N M_sorts M_values M_rows M_placeOf M_falling M_made M_runs M_allRuns M_begin M_size M_pool M_pooled M_ways M_merges M_takes M_taken M_parts M_every M_samples M_sample M_ends M_partSize M_merged M_most M_done M_on M_ticks M_mergedAll M_again M_paces M_up M_byHost M_heap M_used M_planned M_gone h2) (cwV 0 hts gX7_end_X7_isThere rfl rfl rfl (by decide +kernel) ⟨Nat.le_of_ble_eq_true rfl, Nat.le_of_ble_eq_true rfl⟩) (ci := 7) (k0 := 0) rfl rfl rfl hw rfl rfl hl.1 rfl (Nat.le_of_ble_eq_true rfl) dX7_end_1 ⟨Nat.zero_le _, Nat.zero_le _⟩ (fun H locs hw => ?_)
  refine lv_if_ne (tgt := 9) hx hb dX7_end_4 (by decide) (fun b3 => ?_) (fun b3 => ?_)
  · replace hf := it_f hf b3
    refine lv_aload_n hx hb dX7_end_9 rfl (lv_at hl 0 rfl) ?_
    refine va_get (D := (dC, dI)) (ci := 7) (v := .int M_runs) (C := RX7) (T := TX7) (N := 36) hx hb hts i_X7_end_X7 hown hK hw.1 0 rfl rfl 6 (by decide) (hts _ m_X7_end_0) (fun _ h9 => h9) rfl dX7_end_10 ?_
    obtain ⟨y4, h5, hf⟩ := bd1_ob hf
    refine join_ (nL := 6) (dC, dI) A 43 [.int y4] (w_M aM cI cJ cZ M_sorts M_values M_rows M_placeOf M_falling M_made M_runs M_allRuns M_begin M_size M_pool M_pooled M_ways M_merges M_takes M_taken M_parts M_every M_samples M_sample M_ends M_partSize M_merged M_most M_done M_on M_ticks M_mergedAll M_again M_paces M_up M_byHost M_heap M_used M_planned M_gone) [(0, .ref (aM 0)), (1, .int v1)] (fun H locs ls hw hl => ?_) (fun jn => ?_)
    · refine lv_istore_n (lv' := [(2, .int y4), (0, .ref (aM 0)), (1, .int v1)]) hx hb dX7_end_43 rfl hl (by decide) rfl (fun ls hl => ?_)
      refine lv_iload_n hx hb dX7_end_44 rfl (lv_at hl 2 rfl) ?_
      refine lv_if_lt (tgt := 53) hx hb dX7_end_45 (by decide) (fun b6 => ?_) (fun b6 => ?_)
      · replace hf := it_t hf b6
        refine lv_iconst (v := (-1)) hx hb dX7_end_53 (by decide) ?_
        cases hf
        exact endI X hr rfl hlocks rfl hw dX7_end_54
      · replace hf := it_f hf b6
        refine lv_iload_n hx hb dX7_end_48 rfl (lv_at hl 2 rfl) ?_
        refine lv_iload_n hx hb dX7_end_49 rfl (lv_at hl 0 rfl) ?_
        refine lv_icmp_lt (tgt := 55) hx hb dX7_end_50 (by decide) (fun b7 => ?_) (fun b7 => ?_)
        · replace hf := it_t hf b7
          refine lv_iconst (v := 0) hx hb dX7_end_55 (by decide) ?_
          refine lv_istore_n (lv' := [(3, .int 0), (2, .int y4), (0, .ref (aM 0)), (1, .int v1)]) hx hb dX7_end_56 rfl hl (by decide) rfl (fun ls hl => ?_)
          obtain ⟨e27, h28, hf⟩ := bd1_ob hf
          refine t_X7_end_57 aM X N M_sorts M_values M_rows M_placeOf M_falling M_made M_runs M_allRuns M_begin M_size M_pool M_pooled M_ways M_merges M_takes M_taken M_parts M_every M_samples M_sample M_ends M_partSize M_merged M_most M_done M_on M_ticks M_mergedAll M_again M_paces M_up M_byHost M_heap M_used M_planned M_gone v1 y4 N _ _ h28 _ _ _ hw (lv_sub hl [2, 3, 1, 0] rfl) ?_ ?_
          · intro eo H locs ls hw hl
            subst eo
            refine lv_iconst (v := (-1)) hx hb dX7_end_135 (by decide) ?_
            cases hf
            exact endI X hr rfl hlocks rfl hw dX7_end_136
          · intro z r29 eo hz H locs ls hw
            subst eo
            cases hf
            exact endI X hr rfl hlocks rfl hw hz
        · replace hf := it_f hf b7
          refine lv_iconst (v := (-1)) hx hb dX7_end_53 (by decide) ?_
          cases hf
          exact endI X hr rfl hlocks rfl hw dX7_end_54
    · replace hf := h5
      refine lv_if_ne (tgt := 20) hx hb dX7_end_13 (by decide) (fun b30 => ?_) (fun b30 => ?_)
      · replace hf := it_f hf b30
        refine lv_aload_n hx hb dX7_end_20 rfl (lv_at hl 0 rfl) ?_
        refine va_get (D := (dC, dI)) (ci := 7) (v := .ref (aM 5)) (C := RX7) (T := TX7) (N := 36) hx hb hts i_X7_end_X7 hown hK hw.1 0 rfl rfl 8 (by decide) (hts _ m_X7_end_2) (fun _ h9 => h9) rfl dX7_end_21 ?_
        refine lv_aload_n hx hb dX7_end_24 rfl (lv_at hl 0 rfl) ?_
        refine va_get (D := (dC, dI)) (ci := 7) (v := .int M_runs) (C := RX7) (T := TX7) (N := 36) hx hb hts i_X7_end_X7 hown hK hw.1 0 rfl rfl 6 (by decide) (hts _ m_X7_end_0) (fun _ h9 => h9) rfl dX7_end_25 ?_
        refine lv_iconst (v := 1) hx hb dX7_end_28 (by decide) ?_
        refine lv_isub hx hb dX7_end_29 ?_
        have g31 := ix_in (gd_l hf)
        replace hf := gd_r hf
        refine va_iald hx hb hK hw.1 5 0 rfl rfl g31 dX7_end_30 ?_
        refine lv_aload_n hx hb dX7_end_31 rfl (lv_at hl 0 rfl) ?_
        refine va_get (D := (dC, dI)) (ci := 7) (v := .ref (aM 6)) (C := RX7) (T := TX7) (N := 36) hx hb hts i_X7_end_X7 hown hK hw.1 0 rfl rfl 9 (by decide) (hts _ m_X7_end_3) (fun _ h9 => h9) rfl dX7_end_32 ?_
        refine lv_aload_n hx hb dX7_end_35 rfl (lv_at hl 0 rfl) ?_
        refine va_get (D := (dC, dI)) (ci := 7) (v := .int M_runs) (C := RX7) (T := TX7) (N := 36) hx hb hts i_X7_end_X7 hown hK hw.1 0 rfl rfl 6 (by decide) (hts _ m_X7_end_0) (fun _ h9 => h9) rfl dX7_end_36 ?_
        refine lv_iconst (v := 1) hx hb dX7_end_39 (by decide) ?_
        refine lv_isub hx hb dX7_end_40 ?_
        have g32 := ix_in (gd_l hf)
        replace hf := gd_r hf
        refine va_iald hx hb hK hw.1 6 0 rfl rfl g32 dX7_end_41 ?_
        refine lv_iadd hx hb dX7_end_42 ?_
        cases hf
        exact jn _ _ _ hw (lv_sub hl [0, 1] rfl)
      · replace hf := it_t hf b30
        refine lv_iconst (v := 0) hx hb dX7_end_16 (by decide) ?_
        refine lv_goto (tgt := 43) hx hb dX7_end_17 (by decide) ?_
        cases hf
        exact jn _ _ _ hw (lv_sub hl [0, 1] rfl)
  · replace hf := it_t hf b3
    refine lv_iconst (v := (-1)) hx hb dX7_end_7 (by decide) ?_
    cases hf
    exact endI X hr rfl hlocks rfl hw dX7_end_8
def rm_X7_count : Room := { frames := 0, cells := 0, slots := 0, locals := 0 }
set_option maxRecDepth 20000 in
theorem i_X7_count_X7 : ∀ w ∈ u_ws RX7 TX7 36, w ∈ wsX7_count := by decide +kernel
set_option maxRecDepth 20000 in
theorem m_X7_count_0 : Cond.fieldLink RX7 16 "GreatSortModel" "rows" "I" ∈ wsX7_count := by decide +kernel
set_option maxRecDepth 20000 in
theorem m_X7_count_1 : Cond.fieldLink RX7 31 "GreatSortModel" "runs" "I" ∈ wsX7_count := by decide +kernel
set_option maxRecDepth 20000 in
theorem m_X7_count_2 : Cond.fieldLink RX7 68 "GreatSortModel" "samples" "I" ∈ wsX7_count := by decide +kernel
set_option maxRecDepth 20000 in
theorem m_X7_count_3 : Cond.fieldLink RX7 62 "GreatSortModel" "parts" "I" ∈ wsX7_count := by decide +kernel
set_option maxHeartbeats 4000000 in
set_option maxRecDepth 100000 in
theorem c_X7_count (l : Launch) (dC : Nat → ClassId) (dI : Nat → Nat → Nat) (cI cJ cZ : ClassId) (aM : Nat → Nat) (N : Nat) (M_sorts : (Nat → Int32)) (M_values : (Nat → Int32)) (M_rows : Int32) (M_placeOf : (Nat → Int32)) (M_falling : (Nat → Int32)) (M_made : Int32) (M_runs : Int32) (M_allRuns : Int32) (M_begin : (Nat → Int32)) (M_size : (Nat → Int32)) (M_pool : (Nat → Int32)) (M_pooled : Int32) (M_ways : Int32) (M_merges : Int32) (M_takes : (Nat → Int32)) (M_taken : (Nat → Int32)) (M_parts : Int32) (M_every : Int32) (M_samples : Int32) (M_sample : (Nat → Int32)) (M_ends : (Nat → Int32)) (M_partSize : (Nat → Int32)) (M_merged : (Nat → Int32)) (M_most : (Nat → Int32)) (M_done : (Nat → Int32)) (M_on : (Nat → Int32)) (M_ticks : Int32) (M_mergedAll : Int32) (M_again : Int32) (M_paces : (Nat → Int32)) (M_up : (Nat → Int32)) (M_byHost : (Nat → Int32)) (M_heap : (Nat → Int32)) (M_used : (Nat → Int32)) (M_planned : (Nat → Int32)) (M_gone : (Nat → Int32)) (v1 : Int32) {r : Int32} (hf : f_X7_count N M_rows M_runs M_parts M_samples v1 = some r) :
    CtI l yX7_count wsX7_count rm_X7_count (dC, dI) (tyl cI cJ cZ) [.ref (aM 0), .int v1] (w_M aM cI cJ cZ M_sorts M_values M_rows M_placeOf M_falling M_made M_runs M_allRuns M_begin M_size M_pool M_pooled M_ways M_merges M_takes M_taken M_parts M_every M_samples M_sample M_ends M_partSize M_merged M_most M_done M_on M_ticks M_mergedAll M_again M_paces M_up M_byHost M_heap M_used M_planned M_gone) (w_M aM cI cJ cZ M_sorts M_values M_rows M_placeOf M_falling M_made M_runs M_allRuns M_begin M_size M_pool M_pooled M_ways M_merges M_takes M_taken M_parts M_every M_samples M_sample M_ends M_partSize M_merged M_most M_done M_on M_ticks M_mergedAll M_again M_paces M_up M_byHost M_heap M_used M_planned M_gone) r := by
  refine startI (cc := cX7_count) (maxL := 2) (rt := (some .int)) (by decide +kernel) rfl (Nat.le_of_ble_eq_true rfl) ?_
  intro p e s m below meth c A ls X hr hlocks hw hl
  replace X : Cx p m c cX7_count 2 s _ wsX7_count RX7 (dC, dI) (tyl cI cJ cZ) A := X
  replace hl : lv_has ls 2 [(0, .ref (aM 0)), (1, .int v1)] := hl
  obtain ⟨hx, hb, hml, hown, hts⟩ := X.1
  have hK := X.2.1
  have hN := X.2.2.2
  unfold f_X7_count at hf
  refine lv_iload_n hx hb dX7_count_0 rfl (lv_at hl 1 rfl) ?_
  by_cases b1 : v1 = 0
  · replace hf := it_t hf b1
    refine lv_tableIn (tgt := 32) (off := 31) hx hb dX7_count_1 (by rw [b1]; decide) (by rw [b1]; decide) (by rw [b1]; first | done | decide) (by decide) ?_
    refine lv_aload_n hx hb dX7_count_32 rfl (lv_at hl 0 rfl) ?_
    refine va_get (D := (dC, dI)) (ci := 7) (v := .int M_rows) (C := RX7) (T := TX7) (N := 36) hx hb hts i_X7_count_X7 hown hK hw.1 0 rfl rfl 2 (by decide) (hts _ m_X7_count_0) (fun _ h9 => h9) rfl dX7_count_33 ?_
    cases hf
    exact endI X hr rfl hlocks rfl hw dX7_count_36
  · replace hf := it_f hf b1
    by_cases b2 : v1 = 1
    · replace hf := it_t hf b2
      refine lv_tableIn (tgt := 37) (off := 36) hx hb dX7_count_1 (by rw [b2]; decide) (by rw [b2]; decide) (by rw [b2]; first | done | decide) (by decide) ?_
      refine lv_aload_n hx hb dX7_count_37 rfl (lv_at hl 0 rfl) ?_
      refine va_get (D := (dC, dI)) (ci := 7) (v := .int M_runs) (C := RX7) (T := TX7) (N := 36) hx hb hts i_X7_count_X7 hown hK hw.1 0 rfl rfl 6 (by decide) (hts _ m_X7_count_1) (fun _ h9 => h9) rfl dX7_count_38 ?_
      cases hf
      exact endI X hr rfl hlocks rfl hw dX7_count_41
    · replace hf := it_f hf b2
      by_cases b3 : v1 = 2
      · replace hf := it_t hf b3
        refine lv_tableIn (tgt := 42) (off := 41) hx hb dX7_count_1 (by rw [b3]; decide) (by rw [b3]; decide) (by rw [b3]; first | done | decide) (by decide) ?_
        refine lv_aload_n hx hb dX7_count_42 rfl (lv_at hl 0 rfl) ?_
        refine va_get (D := (dC, dI)) (ci := 7) (v := .int M_samples) (C := RX7) (T := TX7) (N := 36) hx hb hts i_X7_count_X7 hown hK hw.1 0 rfl rfl 18 (by decide) (hts _ m_X7_count_2) (fun _ h9 => h9) rfl dX7_count_43 ?_
        cases hf
        exact endI X hr rfl hlocks rfl hw dX7_count_46
      · replace hf := it_f hf b3
        by_cases b4 : v1 = 3
        · replace hf := it_t hf b4
          refine lv_tableIn (tgt := 47) (off := 46) hx hb dX7_count_1 (by rw [b4]; decide) (by rw [b4]; decide) (by rw [b4]; first | done | decide) (by decide) ?_
          refine lv_aload_n hx hb dX7_count_47 rfl (lv_at hl 0 rfl) ?_
          refine va_get (D := (dC, dI)) (ci := 7) (v := .int M_parts) (C := RX7) (T := TX7) (N := 36) hx hb hts i_X7_count_X7 hown hK hw.1 0 rfl rfl 16 (by decide) (hts _ m_X7_count_3) (fun _ h9 => h9) rfl dX7_count_48 ?_
          cases hf
          exact endI X hr rfl hlocks rfl hw dX7_count_51
        · replace hf := it_f hf b4
          have n0_1 := lv_neT b1 (a := 0) (by decide)
          have n1_1 := lv_neT b2 (a := 1) (by decide)
          have n2_1 := lv_neT b3 (a := 2) (by decide)
          have n3_1 := lv_neT b4 (a := 3) (by decide)
          refine lv_tableOut (tgt := 52) hx hb dX7_count_1 (by omega) (by decide) ?_
          refine lv_iconst (v := (-1)) hx hb dX7_count_52 (by decide) ?_
          cases hf
          exact endI X hr rfl hlocks rfl hw dX7_count_53
