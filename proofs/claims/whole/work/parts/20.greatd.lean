def rm_X6_rank : Room := { frames := 3, cells := 0, slots := 0, locals := 66 }
set_option maxRecDepth 20000 in
theorem i_X6_rank_X6 : ∀ w ∈ u_ws RX6 TX6 6, w ∈ wsX6_rank := by decide +kernel
set_option maxRecDepth 20000 in
theorem i_X6_rank_X4 : ∀ w ∈ u_ws RX4 TX4 5, w ∈ wsX6_rank := by decide +kernel
set_option maxRecDepth 20000 in
theorem m_X6_rank_0 : Cond.fieldLink RX6 12 "GreatSort" "rows" "LGreatSort$Rows;" ∈ wsX6_rank := by decide +kernel
set_option maxHeartbeats 4000000 in
set_option maxRecDepth 100000 in
theorem t_X6_rank_27 {p : Program} {l : Launch} {e : Env} {s : State} {m : MethodId} {args : Array Value} {below : List Frame} {meth : Method} {c : Code} {Q : State → Prop} {dC : Nat → ClassId} {dI : Nat → Nat → Nat} {cI cJ cZ : ClassId} {A : Nat → Prop} (aG aW aH aR aP aC aO : Nat → Nat) (X : Cx p m c cX6_rank 5 s args wsX6_rank RX6 (dC, dI) (tyl cI cJ cZ) A) (N : Nat) (W_sorts : (Nat → Int32)) (W_values : (Nat → Int32)) (W_turns : (Nat → Int32)) (W_falling : (Nat → Int32)) (W_count : Int32) (H_items : (Nat → Int64)) (H_size : Int32) (R_members : (Nat → Int32)) (R_starts : (Nat → Int32)) (R_inOrder : (Nat → Int32)) (R_standing : (Nat → Int32)) (R_heads : (Nat → Int32)) (R_tails : (Nat → Int32)) (R_rowsInAll : Int32) (R_made : Int32) (R_all : Int32) (R_filled : Int32) (P_takenRuns : (Nat → Int32)) (P_starts : (Nat → Int32)) (P_queued : (Nat → Int32)) (P_merges : Int32) (P_told : Int32) (C_sampled : (Nat → Int32)) (C_sampleStandings : (Nat → Int32)) (C_sizes : (Nat → Int32)) (C_ends : (Nat → Int32)) (C_lies : (Nat → Int32)) (C_merged : (Nat → Int32)) (C_reached : (Nat → Int32)) (C_done : (Nat → Int32)) (C_mergedBy : (Nat → Int32)) (C_parts : Int32) (C_samples : Int32) (C_bound : Int32) (C_ticks : Int32) (C_mergedInAll : Int32) (C_mergedAgain : Int32) (O_paces : (Nat → Int32)) (O_up : (Nat → Int32)) (v2 : Int32) :
    ∀ (n : Nat) (v3 : Int32) (v4 : Int32) (e3 : Int32), l_X6_rank_27 N W_sorts W_values W_turns W_falling W_count v2 n v3 v4 = some e3 → ∀ (H : Heap) (locs : List Loc) (ls : Array Slot), Wd (dC, dI) A s.heap H locs (w_GWHRPCO aG aW aH aR aP aC aO cI cJ cZ W_sorts W_values W_turns W_falling W_count H_items H_size R_members R_starts R_inOrder R_standing R_heads R_tails R_rowsInAll R_made R_all R_filled P_takenRuns P_starts P_queued P_merges P_told C_sampled C_sampleStandings C_sizes C_ends C_lies C_merged C_reached C_done C_mergedBy C_parts C_samples C_bound C_ticks C_mergedInAll C_mergedAgain O_paces O_up) → lv_has ls 5 [(0, .ref (aG 0)), (2, .int v2), (3, .int v3), (4, .int v4)] → (∀ (H : Heap) (locs : List Loc) (ls : Array Slot), Wd (dC, dI) A s.heap H locs (w_GWHRPCO aG aW aH aR aP aC aO cI cJ cZ W_sorts W_values W_turns W_falling W_count H_items H_size R_members R_starts R_inOrder R_standing R_heads R_tails R_rowsInAll R_made R_all R_filled P_takenRuns P_starts P_queued P_merges P_told C_sampled C_sampleStandings C_sizes C_ends C_lies C_merged C_reached C_done C_mergedBy C_parts C_samples C_bound C_ticks C_mergedInAll C_mergedAgain O_paces O_up) → lv_has ls 5 [(3, .int e3)] → W p l e rm_X6_rank s m args below meth c H locs 0 0 Q (F0 m 61 ls [])) → W p l e rm_X6_rank s m args below meth c H locs 0 0 Q (F0 m 27 ls []) := by
  obtain ⟨hx, hb, hml, hown, hts⟩ := X.1
  have hK := X.2.1
  have hN := X.2.2.2
  intro n
  induction n with
  | zero =>
    intro _ _ _ hf
    cases hf
  | succ n ih =>
    intro v3 v4 e3 hf H locs ls hw hl kx
    rw [l_X6_rank_27] at hf
    refine lv_iload hx hb dX6_rank_27 (lv_at hl 3 rfl) ?_
    refine lv_aload_n hx hb dX6_rank_29 rfl (lv_at hl 0 rfl) ?_
    refine va_get (D := (dC, dI)) (ci := 6) (v := .ref (aW 0)) (C := RX6) (T := TX6) (N := 6) hx hb hts i_X6_rank_X6 hown hK hw.1 0 rfl rfl 0 (by decide) (hts _ m_X6_rank_0) (fun _ h9 => h9) rfl dX6_rank_30 ?_
    refine va_getN (D := (dC, dI)) (ci := 4) (v := .int W_count) (C := RX4) (T := TX4) (N := 5) hx hb hts i_X6_rank_X4 hown hK hw.1 1 rfl rfl 4 (by decide) (va_Nw.use rfl (hN _ nk_15)) (fun _ h9 => h9) rfl dX6_rank_33 ?_
    refine lv_icmp_ge (tgt := 61) hx hb dX6_rank_36 (by decide) (fun b6 => ?_) (fun b6 => ?_)
    · replace hf := it_t hf b6
      cases hf
      exact kx _ _ _ hw (lv_sub hl [2] rfl)
    · replace hf := it_f hf b6
      refine lv_aload_n hx hb dX6_rank_39 rfl (lv_at hl 0 rfl) ?_
      refine va_get (D := (dC, dI)) (ci := 6) (v := .ref (aW 0)) (C := RX6) (T := TX6) (N := 6) hx hb hts i_X6_rank_X6 hown hK hw.1 0 rfl rfl 0 (by decide) (hts _ m_X6_rank_0) (fun _ h9 => h9) rfl dX6_rank_40 ?_
      refine lv_iload hx hb dX6_rank_43 (lv_at hl 3 rfl) ?_
      obtain ⟨r7, h8, hf⟩ := bd1_ob hf
      refine clVI (As := [.int v4]) (rest := []) X (c_X4_placeOf l dC dI cI cJ cZ aW N W_sorts W_values W_turns W_falling W_count v4 h8) (cwV 1 hts gX6_rank_X4_placeOf rfl rfl rfl (by decide +kernel) ⟨Nat.le_of_ble_eq_true rfl, Nat.le_of_ble_eq_true rfl⟩) (ci := 4) (k0 := 0) rfl rfl rfl hw [1, 2, 3, 4, 5] rfl rfl rfl rfl hl.1 rfl (Nat.le_of_ble_eq_true rfl) dX6_rank_45 ⟨Nat.zero_le _, Nat.zero_le _⟩ (fun H locs hw => ?_)
      replace hw : Wd (dC, dI) A s.heap H locs (w_GWHRPCO aG aW aH aR aP aC aO cI cJ cZ W_sorts W_values W_turns W_falling W_count H_items H_size R_members R_starts R_inOrder R_standing R_heads R_tails R_rowsInAll R_made R_all R_filled P_takenRuns P_starts P_queued P_merges P_told C_sampled C_sampleStandings C_sizes C_ends C_lies C_merged C_reached C_done C_mergedBy C_parts C_samples C_bound C_ticks C_mergedInAll C_mergedAgain O_paces O_up) := hw
      refine lv_iload_n hx hb dX6_rank_48 rfl (lv_at hl 1 rfl) ?_
      refine lv_icmp_ge (tgt := 55) hx hb dX6_rank_49 (by decide) (fun b9 => ?_) (fun b9 => ?_)
      · replace hf := it_t hf b9
        obtain ⟨x10, ex10⟩ : ∃ y : Int32, y = v4 + 1 := ⟨_, rfl⟩
        replace hf := nl_at hf ex10
        refine lv_iinc (v := x10) (lv' := [(4, .int x10), (0, .ref (aG 0)), (2, .int v2), (3, .int v3)]) hx hb dX6_rank_55 hl (k := 3) rfl (by rw [ex10]; rfl) (by decide) rfl (fun ls hl => ?_)
        refine lv_goto (tgt := 27) hx hb dX6_rank_58 (by decide) ?_
        exact ih _ _ _ hf _ _ _ hw (lv_sub hl [1, 2, 3, 0] rfl) kx
      · replace hf := it_f hf b9
        obtain ⟨x11, ex11⟩ : ∃ y : Int32, y = v3 + 1 := ⟨_, rfl⟩
        replace hf := nl_at hf ex11
        refine lv_iinc (v := x11) (lv' := [(3, .int x11), (0, .ref (aG 0)), (2, .int v2), (4, .int v4)]) hx hb dX6_rank_52 hl (k := 2) rfl (by rw [ex11]; rfl) (by decide) rfl (fun ls hl => ?_)
        obtain ⟨x12, ex12⟩ : ∃ y : Int32, y = v4 + 1 := ⟨_, rfl⟩
        replace hf := nl_at hf ex12
        refine lv_iinc (v := x12) (lv' := [(4, .int x12), (3, .int x11), (0, .ref (aG 0)), (2, .int v2)]) hx hb dX6_rank_55 hl (k := 3) rfl (by rw [ex12]; rfl) (by decide) rfl (fun ls hl => ?_)
        refine lv_goto (tgt := 27) hx hb dX6_rank_58 (by decide) ?_
        exact ih _ _ _ hf _ _ _ hw (lv_sub hl [2, 3, 1, 0] rfl) kx
set_option maxHeartbeats 4000000 in
set_option maxRecDepth 100000 in
theorem c_X6_rank (l : Launch) (dC : Nat → ClassId) (dI : Nat → Nat → Nat) (cI cJ cZ : ClassId) (aG aW aH aR aP aC aO : Nat → Nat) (N : Nat) (W_sorts : (Nat → Int32)) (W_values : (Nat → Int32)) (W_turns : (Nat → Int32)) (W_falling : (Nat → Int32)) (W_count : Int32) (H_items : (Nat → Int64)) (H_size : Int32) (R_members : (Nat → Int32)) (R_starts : (Nat → Int32)) (R_inOrder : (Nat → Int32)) (R_standing : (Nat → Int32)) (R_heads : (Nat → Int32)) (R_tails : (Nat → Int32)) (R_rowsInAll : Int32) (R_made : Int32) (R_all : Int32) (R_filled : Int32) (P_takenRuns : (Nat → Int32)) (P_starts : (Nat → Int32)) (P_queued : (Nat → Int32)) (P_merges : Int32) (P_told : Int32) (C_sampled : (Nat → Int32)) (C_sampleStandings : (Nat → Int32)) (C_sizes : (Nat → Int32)) (C_ends : (Nat → Int32)) (C_lies : (Nat → Int32)) (C_merged : (Nat → Int32)) (C_reached : (Nat → Int32)) (C_done : (Nat → Int32)) (C_mergedBy : (Nat → Int32)) (C_parts : Int32) (C_samples : Int32) (C_bound : Int32) (C_ticks : Int32) (C_mergedInAll : Int32) (C_mergedAgain : Int32) (O_paces : (Nat → Int32)) (O_up : (Nat → Int32)) (v1 : Int32) {r : Int32} (hf : f_X6_rank N W_sorts W_values W_turns W_falling W_count v1 = some r) :
    CtI l yX6_rank wsX6_rank rm_X6_rank (dC, dI) (tyl cI cJ cZ) [.ref (aG 0), .int v1] (w_GWHRPCO aG aW aH aR aP aC aO cI cJ cZ W_sorts W_values W_turns W_falling W_count H_items H_size R_members R_starts R_inOrder R_standing R_heads R_tails R_rowsInAll R_made R_all R_filled P_takenRuns P_starts P_queued P_merges P_told C_sampled C_sampleStandings C_sizes C_ends C_lies C_merged C_reached C_done C_mergedBy C_parts C_samples C_bound C_ticks C_mergedInAll C_mergedAgain O_paces O_up) (w_GWHRPCO aG aW aH aR aP aC aO cI cJ cZ W_sorts W_values W_turns W_falling W_count H_items H_size R_members R_starts R_inOrder R_standing R_heads R_tails R_rowsInAll R_made R_all R_filled P_takenRuns P_starts P_queued P_merges P_told C_sampled C_sampleStandings C_sizes C_ends C_lies C_merged C_reached C_done C_mergedBy C_parts C_samples C_bound C_ticks C_mergedInAll C_mergedAgain O_paces O_up) r := by
  refine startI (cc := cX6_rank) (maxL := 5) (rt := (some .int)) (by decide +kernel) rfl (Nat.le_of_ble_eq_true rfl) ?_
  intro p e s m below meth c A ls X hr hlocks hw hl
  replace X : Cx p m c cX6_rank 5 s _ wsX6_rank RX6 (dC, dI) (tyl cI cJ cZ) A := X
  replace hl : lv_has ls 5 [(0, .ref (aG 0)), (1, .int v1)] := hl
  obtain ⟨hx, hb, hml, hown, hts⟩ := X.1
  have hK := X.2.1
  have hN := X.2.2.2
  unfold f_X6_rank at hf
  refine lv_aload_n hx hb dX6_rank_0 rfl (lv_at hl 0 rfl) ?_
  refine va_get (D := (dC, dI)) (ci := 6) (v := .ref (aW 0)) (C := RX6) (T := TX6) (N := 6) hx hb hts i_X6_rank_X6 hown hK hw.1 0 rfl rfl 0 (by decide) (hts _ m_X6_rank_0) (fun _ h9 => h9) rfl dX6_rank_1 ?_
  refine lv_iload_n hx hb dX6_rank_4 rfl (lv_at hl 1 rfl) ?_
  obtain ⟨r1, h2, hf⟩ := bd1_ob hf
  refine clVI (As := [.int v1]) (rest := []) X (c_X4_has l dC dI cI cJ cZ aW N W_sorts W_values W_turns W_falling W_count v1 h2) (cwV 1 hts gX6_rank_X4_has rfl rfl rfl (by decide +kernel) ⟨Nat.le_of_ble_eq_true rfl, Nat.le_of_ble_eq_true rfl⟩) (ci := 4) (k0 := 0) rfl rfl rfl hw [1, 2, 3, 4, 5] rfl rfl rfl rfl hl.1 rfl (Nat.le_of_ble_eq_true rfl) dX6_rank_5 ⟨Nat.zero_le _, Nat.zero_le _⟩ (fun H locs hw => ?_)
  replace hw : Wd (dC, dI) A s.heap H locs (w_GWHRPCO aG aW aH aR aP aC aO cI cJ cZ W_sorts W_values W_turns W_falling W_count H_items H_size R_members R_starts R_inOrder R_standing R_heads R_tails R_rowsInAll R_made R_all R_filled P_takenRuns P_starts P_queued P_merges P_told C_sampled C_sampleStandings C_sizes C_ends C_lies C_merged C_reached C_done C_mergedBy C_parts C_samples C_bound C_ticks C_mergedInAll C_mergedAgain O_paces O_up) := hw
  refine lv_if_ne (tgt := 13) hx hb dX6_rank_8 (by decide) (fun b3 => ?_) (fun b3 => ?_)
  · replace hf := it_f hf b3
    refine lv_aload_n hx hb dX6_rank_13 rfl (lv_at hl 0 rfl) ?_
    refine va_get (D := (dC, dI)) (ci := 6) (v := .ref (aW 0)) (C := RX6) (T := TX6) (N := 6) hx hb hts i_X6_rank_X6 hown hK hw.1 0 rfl rfl 0 (by decide) (hts _ m_X6_rank_0) (fun _ h9 => h9) rfl dX6_rank_14 ?_
    refine lv_iload_n hx hb dX6_rank_17 rfl (lv_at hl 1 rfl) ?_
    obtain ⟨r4, h5, hf⟩ := bd1_ob hf
    refine clVI (As := [.int v1]) (rest := []) X (c_X4_placeOf l dC dI cI cJ cZ aW N W_sorts W_values W_turns W_falling W_count v1 h5) (cwV 1 hts gX6_rank_X4_placeOf rfl rfl rfl (by decide +kernel) ⟨Nat.le_of_ble_eq_true rfl, Nat.le_of_ble_eq_true rfl⟩) (ci := 4) (k0 := 0) rfl rfl rfl hw [1, 2, 3, 4, 5] rfl rfl rfl rfl hl.1 rfl (Nat.le_of_ble_eq_true rfl) dX6_rank_18 ⟨Nat.zero_le _, Nat.zero_le _⟩ (fun H locs hw => ?_)
    replace hw : Wd (dC, dI) A s.heap H locs (w_GWHRPCO aG aW aH aR aP aC aO cI cJ cZ W_sorts W_values W_turns W_falling W_count H_items H_size R_members R_starts R_inOrder R_standing R_heads R_tails R_rowsInAll R_made R_all R_filled P_takenRuns P_starts P_queued P_merges P_told C_sampled C_sampleStandings C_sizes C_ends C_lies C_merged C_reached C_done C_mergedBy C_parts C_samples C_bound C_ticks C_mergedInAll C_mergedAgain O_paces O_up) := hw
    refine lv_istore_n (lv' := [(2, .int r4), (0, .ref (aG 0)), (1, .int v1)]) hx hb dX6_rank_21 rfl hl (by decide) rfl (fun ls hl => ?_)
    refine lv_iconst (v := 0) hx hb dX6_rank_22 (by decide) ?_
    refine lv_istore_n (lv' := [(3, .int 0), (2, .int r4), (0, .ref (aG 0)), (1, .int v1)]) hx hb dX6_rank_23 rfl hl (by decide) rfl (fun ls hl => ?_)
    refine lv_iconst (v := 0) hx hb dX6_rank_24 (by decide) ?_
    refine lv_istore (lv' := [(4, .int 0), (3, .int 0), (2, .int r4), (0, .ref (aG 0)), (1, .int v1)]) hx hb dX6_rank_25 hl (by decide) rfl (fun ls hl => ?_)
    obtain ⟨e13, h14, hf⟩ := bd1_ob hf
    refine t_X6_rank_27 aG aW aH aR aP aC aO X N W_sorts W_values W_turns W_falling W_count H_items H_size R_members R_starts R_inOrder R_standing R_heads R_tails R_rowsInAll R_made R_all R_filled P_takenRuns P_starts P_queued P_merges P_told C_sampled C_sampleStandings C_sizes C_ends C_lies C_merged C_reached C_done C_mergedBy C_parts C_samples C_bound C_ticks C_mergedInAll C_mergedAgain O_paces O_up r4 N _ _ _ h14 _ _ _ hw (lv_sub hl [3, 2, 1, 0] rfl) (fun H locs ls hw hl => ?_)
    refine lv_iload_n hx hb dX6_rank_61 rfl (lv_at hl 0 rfl) ?_
    cases hf
    exact endI X hr rfl hlocks rfl hw dX6_rank_62
  · replace hf := it_t hf b3
    refine lv_iconst (v := (-1)) hx hb dX6_rank_11 (by decide) ?_
    cases hf
    exact endI X hr rfl hlocks rfl hw dX6_rank_12
def rm_X6_runs : Room := { frames := 5, cells := 0, slots := 0, locals := 119 }
set_option maxRecDepth 20000 in
theorem i_X6_runs_X6 : ∀ w ∈ u_ws RX6 TX6 6, w ∈ wsX6_runs := by decide +kernel
set_option maxRecDepth 20000 in
theorem i_X6_runs_X5 : ∀ w ∈ u_ws RX5 TX5 10, w ∈ wsX6_runs := by decide +kernel
set_option maxRecDepth 20000 in
theorem m_X6_runs_0 : Cond.fieldLink RX6 26 "GreatSort" "runs" "LGreatSort$Runs;" ∈ wsX6_runs := by decide +kernel
set_option maxRecDepth 20000 in
theorem m_X6_runs_1 : Cond.fieldLink RX6 12 "GreatSort" "rows" "LGreatSort$Rows;" ∈ wsX6_runs := by decide +kernel
set_option maxRecDepth 20000 in
theorem m_X6_runs_2 : Cond.fieldLink RX6 19 "GreatSort" "heap" "LGreatSort$Heap;" ∈ wsX6_runs := by decide +kernel
set_option maxHeartbeats 4000000 in
set_option maxRecDepth 100000 in
theorem c_X6_runs (l : Launch) (dC : Nat → ClassId) (dI : Nat → Nat → Nat) (cI cJ cZ : ClassId) (aG aW aH aR aP aC aO : Nat → Nat) (N : Nat) (W_sorts : (Nat → Int32)) (W_values : (Nat → Int32)) (W_turns : (Nat → Int32)) (W_falling : (Nat → Int32)) (W_count : Int32) (H_items : (Nat → Int64)) (H_size : Int32) (R_members : (Nat → Int32)) (R_starts : (Nat → Int32)) (R_inOrder : (Nat → Int32)) (R_standing : (Nat → Int32)) (R_heads : (Nat → Int32)) (R_tails : (Nat → Int32)) (R_rowsInAll : Int32) (R_made : Int32) (R_all : Int32) (R_filled : Int32) (P_takenRuns : (Nat → Int32)) (P_starts : (Nat → Int32)) (P_queued : (Nat → Int32)) (P_merges : Int32) (P_told : Int32) (C_sampled : (Nat → Int32)) (C_sampleStandings : (Nat → Int32)) (C_sizes : (Nat → Int32)) (C_ends : (Nat → Int32)) (C_lies : (Nat → Int32)) (C_merged : (Nat → Int32)) (C_reached : (Nat → Int32)) (C_done : (Nat → Int32)) (C_mergedBy : (Nat → Int32)) (C_parts : Int32) (C_samples : Int32) (C_bound : Int32) (C_ticks : Int32) (C_mergedInAll : Int32) (C_mergedAgain : Int32) (O_paces : (Nat → Int32)) (O_up : (Nat → Int32)) (v1 : Int32) {r : Int32} {o_H_items : (Nat → Int64)} {o_H_size : Int32} {o_R_members : (Nat → Int32)} {o_R_starts : (Nat → Int32)} {o_R_inOrder : (Nat → Int32)} {o_R_standing : (Nat → Int32)} {o_R_rowsInAll : Int32} {o_R_made : Int32} {o_R_all : Int32} {o_R_filled : Int32} {o_P_merges : Int32} {o_P_told : Int32} {o_C_mergedBy : (Nat → Int32)} {o_C_parts : Int32} {o_C_samples : Int32} {o_C_bound : Int32} {o_C_ticks : Int32} {o_C_mergedInAll : Int32} {o_C_mergedAgain : Int32} (hf : f_X6_runs N W_sorts W_values W_turns W_falling W_count H_items H_size R_members R_starts R_inOrder R_standing R_rowsInAll R_made R_all R_filled P_merges P_told C_mergedBy C_parts C_samples C_bound C_ticks C_mergedInAll C_mergedAgain v1 = some (r, o_H_items, o_H_size, o_R_members, o_R_starts, o_R_inOrder, o_R_standing, o_R_rowsInAll, o_R_made, o_R_all, o_R_filled, o_P_merges, o_P_told, o_C_mergedBy, o_C_parts, o_C_samples, o_C_bound, o_C_ticks, o_C_mergedInAll, o_C_mergedAgain)) :
    CtI l yX6_runs wsX6_runs rm_X6_runs (dC, dI) (tyl cI cJ cZ) [.ref (aG 0), .int v1] (w_GWHRPCO aG aW aH aR aP aC aO cI cJ cZ W_sorts W_values W_turns W_falling W_count H_items H_size R_members R_starts R_inOrder R_standing R_heads R_tails R_rowsInAll R_made R_all R_filled P_takenRuns P_starts P_queued P_merges P_told C_sampled C_sampleStandings C_sizes C_ends C_lies C_merged C_reached C_done C_mergedBy C_parts C_samples C_bound C_ticks C_mergedInAll C_mergedAgain O_paces O_up) (w_GWHRPCO aG aW aH aR aP aC aO cI cJ cZ W_sorts W_values W_turns W_falling W_count o_H_items o_H_size o_R_members o_R_starts o_R_inOrder o_R_standing R_heads R_tails o_R_rowsInAll o_R_made o_R_all o_R_filled P_takenRuns P_starts P_queued o_P_merges o_P_told C_sampled C_sampleStandings C_sizes C_ends C_lies C_merged C_reached C_done o_C_mergedBy o_C_parts o_C_samples o_C_bound o_C_ticks o_C_mergedInAll o_C_mergedAgain O_paces O_up) r := by
  refine startI (cc := cX6_runs) (maxL := 2) (rt := (some .int)) (by decide +kernel) rfl (Nat.le_of_ble_eq_true rfl) ?_
  intro p e s m below meth c A ls X hr hlocks hw hl
  replace X : Cx p m c cX6_runs 2 s _ wsX6_runs RX6 (dC, dI) (tyl cI cJ cZ) A := X
  replace hl : lv_has ls 2 [(0, .ref (aG 0)), (1, .int v1)] := hl
  obtain ⟨hx, hb, hml, hown, hts⟩ := X.1
  have hK := X.2.1
  have hN := X.2.2.2
  unfold f_X6_runs at hf
  refine lv_iload_n hx hb dX6_runs_0 rfl (lv_at hl 1 rfl) ?_
  refine lv_iconst (v := 1) hx hb dX6_runs_1 (by decide) ?_
  refine lv_bipush (v := 40) hx hb dX6_runs_2 (by decide) ?_
  obtain ⟨r1, h2, hf⟩ := bd1_ob hf
  refine clSI (As := [.int v1, .int (1 : Int32), .int (40 : Int32)]) (rest := []) X (c_X6_isIn l dC dI cI cJ cZ N v1 (1 : Int32) (40 : Int32) h2) (va_cwS 3 hts gX6_runs_X6_isIn rfl rfl rfl (by decide +kernel) ⟨Nat.le_of_ble_eq_true rfl, Nat.le_of_ble_eq_true rfl⟩) hw [] rfl rfl rfl rfl hl.1 rfl (Nat.le_of_ble_eq_true rfl) dX6_runs_4 ⟨Nat.zero_le _, Nat.zero_le _⟩ (fun H locs hw => ?_)
  replace hw : Wd (dC, dI) A s.heap H locs (w_GWHRPCO aG aW aH aR aP aC aO cI cJ cZ W_sorts W_values W_turns W_falling W_count H_items H_size R_members R_starts R_inOrder R_standing R_heads R_tails R_rowsInAll R_made R_all R_filled P_takenRuns P_starts P_queued P_merges P_told C_sampled C_sampleStandings C_sizes C_ends C_lies C_merged C_reached C_done C_mergedBy C_parts C_samples C_bound C_ticks C_mergedInAll C_mergedAgain O_paces O_up) := hw
  refine lv_if_ne (tgt := 12) hx hb dX6_runs_7 (by decide) (fun b3 => ?_) (fun b3 => ?_)
  · replace hf := it_f hf b3
    refine lv_aload_n hx hb dX6_runs_12 rfl (lv_at hl 0 rfl) ?_
    obtain ⟨c4, c5, c6, c7, c8, c9, c10, c11, c12, c13, c14, c15, c16, h17, hf⟩ := bd13_ob hf
    refine clFV (As := []) (rest := []) X (c_X6_forgetRuns l dC dI cI cJ cZ aG aW aH aR aP aC aO N W_sorts W_values W_turns W_falling W_count H_items H_size R_members R_starts R_inOrder R_standing R_heads R_tails R_rowsInAll R_made R_all R_filled P_takenRuns P_starts P_queued P_merges P_told C_sampled C_sampleStandings C_sizes C_ends C_lies C_merged C_reached C_done C_mergedBy C_parts C_samples C_bound C_ticks C_mergedInAll C_mergedAgain O_paces O_up h17) (cwV 0 hts gX6_runs_X6_forgetRuns rfl rfl rfl (by decide +kernel) ⟨Nat.le_of_ble_eq_true rfl, Nat.le_of_ble_eq_true rfl⟩) (ci := 6) (k0 := 0) rfl rfl rfl hw rfl rfl hl.1 rfl (Nat.le_of_ble_eq_true rfl) dX6_runs_13 ⟨Nat.zero_le _, Nat.zero_le _⟩ (fun H locs hw => ?_)
    refine lv_aload_n hx hb dX6_runs_16 rfl (lv_at hl 0 rfl) ?_
    refine va_get (D := (dC, dI)) (ci := 6) (v := .ref (aR 0)) (C := RX6) (T := TX6) (N := 6) hx hb hts i_X6_runs_X6 hown hK hw.1 0 rfl rfl 2 (by decide) (hts _ m_X6_runs_0) (fun _ h9 => h9) rfl dX6_runs_17 ?_
    refine lv_aload_n hx hb dX6_runs_20 rfl (lv_at hl 0 rfl) ?_
    refine va_get (D := (dC, dI)) (ci := 6) (v := .ref (aW 0)) (C := RX6) (T := TX6) (N := 6) hx hb hts i_X6_runs_X6 hown hK hw.1 0 rfl rfl 0 (by decide) (hts _ m_X6_runs_1) (fun _ h9 => h9) rfl dX6_runs_21 ?_
    refine lv_iload_n hx hb dX6_runs_24 rfl (lv_at hl 1 rfl) ?_
    refine lv_aload_n hx hb dX6_runs_25 rfl (lv_at hl 0 rfl) ?_
    refine va_get (D := (dC, dI)) (ci := 6) (v := .ref (aH 0)) (C := RX6) (T := TX6) (N := 6) hx hb hts i_X6_runs_X6 hown hK hw.1 0 rfl rfl 1 (by decide) (hts _ m_X6_runs_2) (fun _ h9 => h9) rfl dX6_runs_26 ?_
    obtain ⟨c18, c19, c20, c21, c22, c23, c24, c25, c26, c27, h28, hf⟩ := bd10_ob hf
    refine clVV (As := [.ref (aW 0), .int v1, .ref (aH 0)]) (rest := []) X (c_X5_makeOf l dC dI cI cJ cZ aW aH aR N W_sorts W_values W_turns W_falling W_count H_items H_size R_members R_starts R_inOrder R_standing R_heads R_tails c4 c5 c6 c7 v1 h28) (cwV 3 hts gX6_runs_X5_makeOf rfl rfl rfl (by decide +kernel) ⟨Nat.le_of_ble_eq_true rfl, Nat.le_of_ble_eq_true rfl⟩) (ci := 5) (k0 := 7) rfl rfl rfl hw [1, 2, 3, 4, 5, 6, 7, 8, 9, 10, 11, 12, 13, 14] rfl rfl rfl rfl hl.1 rfl (Nat.le_of_ble_eq_true rfl) dX6_runs_29 ⟨Nat.zero_le _, Nat.zero_le _⟩ (fun H locs hw => ?_)
    replace hw : Wd (dC, dI) A s.heap H locs (w_GWHRPCO aG aW aH aR aP aC aO cI cJ cZ W_sorts W_values W_turns W_falling W_count c18 c19 c20 c21 c22 c23 R_heads R_tails c24 c25 c26 c27 P_takenRuns P_starts P_queued c8 c9 C_sampled C_sampleStandings C_sizes C_ends C_lies C_merged C_reached C_done c10 c11 c12 c13 c14 c15 c16 O_paces O_up) := hw
    refine lv_aload_n hx hb dX6_runs_32 rfl (lv_at hl 0 rfl) ?_
    refine va_get (D := (dC, dI)) (ci := 6) (v := .ref (aR 0)) (C := RX6) (T := TX6) (N := 6) hx hb hts i_X6_runs_X6 hown hK hw.1 0 rfl rfl 2 (by decide) (hts _ m_X6_runs_0) (fun _ h9 => h9) rfl dX6_runs_33 ?_
    refine va_getN (D := (dC, dI)) (ci := 5) (v := .int c25) (C := RX5) (T := TX5) (N := 10) hx hb hts i_X6_runs_X5 hown hK hw.1 8 rfl rfl 7 (by decide) (va_Nw.use rfl (hN _ nk_16)) (fun _ h9 => h9) rfl dX6_runs_36 ?_
    cases hf
    exact endI X hr rfl hlocks rfl hw dX6_runs_39
  · replace hf := it_t hf b3
    refine lv_iconst (v := (-1)) hx hb dX6_runs_10 (by decide) ?_
    cases hf
    exact endI X hr rfl hlocks rfl hw dX6_runs_11
def rm_X6_length : Room := { frames := 3, cells := 0, slots := 0, locals := 64 }
set_option maxRecDepth 20000 in
theorem i_X6_length_X6 : ∀ w ∈ u_ws RX6 TX6 6, w ∈ wsX6_length := by decide +kernel
set_option maxRecDepth 20000 in
theorem m_X6_length_0 : Cond.fieldLink RX6 26 "GreatSort" "runs" "LGreatSort$Runs;" ∈ wsX6_length := by decide +kernel
set_option maxHeartbeats 4000000 in
set_option maxRecDepth 100000 in
theorem c_X6_length (l : Launch) (dC : Nat → ClassId) (dI : Nat → Nat → Nat) (cI cJ cZ : ClassId) (aG aW aH aR aP aC aO : Nat → Nat) (N : Nat) (W_sorts : (Nat → Int32)) (W_values : (Nat → Int32)) (W_turns : (Nat → Int32)) (W_falling : (Nat → Int32)) (W_count : Int32) (H_items : (Nat → Int64)) (H_size : Int32) (R_members : (Nat → Int32)) (R_starts : (Nat → Int32)) (R_inOrder : (Nat → Int32)) (R_standing : (Nat → Int32)) (R_heads : (Nat → Int32)) (R_tails : (Nat → Int32)) (R_rowsInAll : Int32) (R_made : Int32) (R_all : Int32) (R_filled : Int32) (P_takenRuns : (Nat → Int32)) (P_starts : (Nat → Int32)) (P_queued : (Nat → Int32)) (P_merges : Int32) (P_told : Int32) (C_sampled : (Nat → Int32)) (C_sampleStandings : (Nat → Int32)) (C_sizes : (Nat → Int32)) (C_ends : (Nat → Int32)) (C_lies : (Nat → Int32)) (C_merged : (Nat → Int32)) (C_reached : (Nat → Int32)) (C_done : (Nat → Int32)) (C_mergedBy : (Nat → Int32)) (C_parts : Int32) (C_samples : Int32) (C_bound : Int32) (C_ticks : Int32) (C_mergedInAll : Int32) (C_mergedAgain : Int32) (O_paces : (Nat → Int32)) (O_up : (Nat → Int32)) (v1 : Int32) {r : Int32} (hf : f_X6_length N R_starts R_all v1 = some r) :
    CtI l yX6_length wsX6_length rm_X6_length (dC, dI) (tyl cI cJ cZ) [.ref (aG 0), .int v1] (w_GWHRPCO aG aW aH aR aP aC aO cI cJ cZ W_sorts W_values W_turns W_falling W_count H_items H_size R_members R_starts R_inOrder R_standing R_heads R_tails R_rowsInAll R_made R_all R_filled P_takenRuns P_starts P_queued P_merges P_told C_sampled C_sampleStandings C_sizes C_ends C_lies C_merged C_reached C_done C_mergedBy C_parts C_samples C_bound C_ticks C_mergedInAll C_mergedAgain O_paces O_up) (w_GWHRPCO aG aW aH aR aP aC aO cI cJ cZ W_sorts W_values W_turns W_falling W_count H_items H_size R_members R_starts R_inOrder R_standing R_heads R_tails R_rowsInAll R_made R_all R_filled P_takenRuns P_starts P_queued P_merges P_told C_sampled C_sampleStandings C_sizes C_ends C_lies C_merged C_reached C_done C_mergedBy C_parts C_samples C_bound C_ticks C_mergedInAll C_mergedAgain O_paces O_up) r := by
  refine startI (cc := cX6_length) (maxL := 2) (rt := (some .int)) (by decide +kernel) rfl (Nat.le_of_ble_eq_true rfl) ?_
  intro p e s m below meth c A ls X hr hlocks hw hl
  replace X : Cx p m c cX6_length 2 s _ wsX6_length RX6 (dC, dI) (tyl cI cJ cZ) A := X
  replace hl : lv_has ls 2 [(0, .ref (aG 0)), (1, .int v1)] := hl
  obtain ⟨hx, hb, hml, hown, hts⟩ := X.1
  have hK := X.2.1
  have hN := X.2.2.2
  unfold f_X6_length at hf
  refine lv_aload_n hx hb dX6_length_0 rfl (lv_at hl 0 rfl) ?_
  refine va_get (D := (dC, dI)) (ci := 6) (v := .ref (aR 0)) (C := RX6) (T := TX6) (N := 6) hx hb hts i_X6_length_X6 hown hK hw.1 0 rfl rfl 2 (by decide) (hts _ m_X6_length_0) (fun _ h9 => h9) rfl dX6_length_1 ?_
  refine lv_iload_n hx hb dX6_length_4 rfl (lv_at hl 1 rfl) ?_
  obtain ⟨r1, h2, hf⟩ := bd1_ob hf
  refine clVI (As := [.int v1]) (rest := []) X (c_X5_has l dC dI cI cJ cZ aR N R_members R_starts R_inOrder R_standing R_heads R_tails R_rowsInAll R_made R_all R_filled v1 h2) (cwV 1 hts gX6_length_X5_has rfl rfl rfl (by decide +kernel) ⟨Nat.le_of_ble_eq_true rfl, Nat.le_of_ble_eq_true rfl⟩) (ci := 5) (k0 := 0) rfl rfl rfl hw [8, 9, 10, 11, 12, 13, 14] rfl rfl rfl rfl hl.1 rfl (Nat.le_of_ble_eq_true rfl) dX6_length_5 ⟨Nat.zero_le _, Nat.zero_le _⟩ (fun H locs hw => ?_)
  replace hw : Wd (dC, dI) A s.heap H locs (w_GWHRPCO aG aW aH aR aP aC aO cI cJ cZ W_sorts W_values W_turns W_falling W_count H_items H_size R_members R_starts R_inOrder R_standing R_heads R_tails R_rowsInAll R_made R_all R_filled P_takenRuns P_starts P_queued P_merges P_told C_sampled C_sampleStandings C_sizes C_ends C_lies C_merged C_reached C_done C_mergedBy C_parts C_samples C_bound C_ticks C_mergedInAll C_mergedAgain O_paces O_up) := hw
  refine lv_if_eq (tgt := 22) hx hb dX6_length_8 (by decide) (fun b3 => ?_) (fun b3 => ?_)
  · replace hf := it_t hf b3
    refine lv_iconst (v := (-1)) hx hb dX6_length_22 (by decide) ?_
    cases hf
    exact endI X hr rfl hlocks rfl hw dX6_length_23
  · replace hf := it_f hf b3
    refine lv_aload_n hx hb dX6_length_11 rfl (lv_at hl 0 rfl) ?_
    refine va_get (D := (dC, dI)) (ci := 6) (v := .ref (aR 0)) (C := RX6) (T := TX6) (N := 6) hx hb hts i_X6_length_X6 hown hK hw.1 0 rfl rfl 2 (by decide) (hts _ m_X6_length_0) (fun _ h9 => h9) rfl dX6_length_12 ?_
    refine lv_iload_n hx hb dX6_length_15 rfl (lv_at hl 1 rfl) ?_
    obtain ⟨r4, h5, hf⟩ := bd1_ob hf
    refine clVI (As := [.int v1]) (rest := []) X (c_X5_sizeOf l dC dI cI cJ cZ aR N R_members R_starts R_inOrder R_standing R_heads R_tails R_rowsInAll R_made R_all R_filled v1 h5) (cwV 1 hts gX6_length_X5_sizeOf rfl rfl rfl (by decide +kernel) ⟨Nat.le_of_ble_eq_true rfl, Nat.le_of_ble_eq_true rfl⟩) (ci := 5) (k0 := 0) rfl rfl rfl hw [8, 9, 10, 11, 12, 13, 14] rfl rfl rfl rfl hl.1 rfl (Nat.le_of_ble_eq_true rfl) dX6_length_16 ⟨Nat.zero_le _, Nat.zero_le _⟩ (fun H locs hw => ?_)
    replace hw : Wd (dC, dI) A s.heap H locs (w_GWHRPCO aG aW aH aR aP aC aO cI cJ cZ W_sorts W_values W_turns W_falling W_count H_items H_size R_members R_starts R_inOrder R_standing R_heads R_tails R_rowsInAll R_made R_all R_filled P_takenRuns P_starts P_queued P_merges P_told C_sampled C_sampleStandings C_sizes C_ends C_lies C_merged C_reached C_done C_mergedBy C_parts C_samples C_bound C_ticks C_mergedInAll C_mergedAgain O_paces O_up) := hw
    refine lv_goto (tgt := 23) hx hb dX6_length_19 (by decide) ?_
    cases hf
    exact endI X hr rfl hlocks rfl hw dX6_length_23
def rm_X6_at : Room := { frames := 4, cells := 0, slots := 0, locals := 86 }
set_option maxRecDepth 20000 in
theorem i_X6_at_X6 : ∀ w ∈ u_ws RX6 TX6 6, w ∈ wsX6_at := by decide +kernel
set_option maxRecDepth 20000 in
theorem m_X6_at_0 : Cond.fieldLink RX6 26 "GreatSort" "runs" "LGreatSort$Runs;" ∈ wsX6_at := by decide +kernel
set_option maxHeartbeats 4000000 in
set_option maxRecDepth 100000 in
theorem c_X6_at (l : Launch) (dC : Nat → ClassId) (dI : Nat → Nat → Nat) (cI cJ cZ : ClassId) (aG aW aH aR aP aC aO : Nat → Nat) (N : Nat) (W_sorts : (Nat → Int32)) (W_values : (Nat → Int32)) (W_turns : (Nat → Int32)) (W_falling : (Nat → Int32)) (W_count : Int32) (H_items : (Nat → Int64)) (H_size : Int32) (R_members : (Nat → Int32)) (R_starts : (Nat → Int32)) (R_inOrder : (Nat → Int32)) (R_standing : (Nat → Int32)) (R_heads : (Nat → Int32)) (R_tails : (Nat → Int32)) (R_rowsInAll : Int32) (R_made : Int32) (R_all : Int32) (R_filled : Int32) (P_takenRuns : (Nat → Int32)) (P_starts : (Nat → Int32)) (P_queued : (Nat → Int32)) (P_merges : Int32) (P_told : Int32) (C_sampled : (Nat → Int32)) (C_sampleStandings : (Nat → Int32)) (C_sizes : (Nat → Int32)) (C_ends : (Nat → Int32)) (C_lies : (Nat → Int32)) (C_merged : (Nat → Int32)) (C_reached : (Nat → Int32)) (C_done : (Nat → Int32)) (C_mergedBy : (Nat → Int32)) (C_parts : Int32) (C_samples : Int32) (C_bound : Int32) (C_ticks : Int32) (C_mergedInAll : Int32) (C_mergedAgain : Int32) (O_paces : (Nat → Int32)) (O_up : (Nat → Int32)) (v1 : Int32) (v2 : Int32) {r : Int32} (hf : f_X6_at N R_members R_starts R_all v1 v2 = some r) :
    CtI l yX6_at wsX6_at rm_X6_at (dC, dI) (tyl cI cJ cZ) [.ref (aG 0), .int v1, .int v2] (w_GWHRPCO aG aW aH aR aP aC aO cI cJ cZ W_sorts W_values W_turns W_falling W_count H_items H_size R_members R_starts R_inOrder R_standing R_heads R_tails R_rowsInAll R_made R_all R_filled P_takenRuns P_starts P_queued P_merges P_told C_sampled C_sampleStandings C_sizes C_ends C_lies C_merged C_reached C_done C_mergedBy C_parts C_samples C_bound C_ticks C_mergedInAll C_mergedAgain O_paces O_up) (w_GWHRPCO aG aW aH aR aP aC aO cI cJ cZ W_sorts W_values W_turns W_falling W_count H_items H_size R_members R_starts R_inOrder R_standing R_heads R_tails R_rowsInAll R_made R_all R_filled P_takenRuns P_starts P_queued P_merges P_told C_sampled C_sampleStandings C_sizes C_ends C_lies C_merged C_reached C_done C_mergedBy C_parts C_samples C_bound C_ticks C_mergedInAll C_mergedAgain O_paces O_up) r := by
  refine startI (cc := cX6_at) (maxL := 3) (rt := (some .int)) (by decide +kernel) rfl (Nat.le_of_ble_eq_true rfl) ?_
  intro p e s m below meth c A ls X hr hlocks hw hl
  replace X : Cx p m c cX6_at 3 s _ wsX6_at RX6 (dC, dI) (tyl cI cJ cZ) A := X
  replace hl : lv_has ls 3 [(0, .ref (aG 0)), (1, .int v1), (2, .int v2)] := hl
  obtain ⟨hx, hb, hml, hown, hts⟩ := X.1
  have hK := X.2.1
  have hN := X.2.2.2
  unfold f_X6_at at hf
  refine lv_aload_n hx hb dX6_at_0 rfl (lv_at hl 0 rfl) ?_
  refine va_get (D := (dC, dI)) (ci := 6) (v := .ref (aR 0)) (C := RX6) (T := TX6) (N := 6) hx hb hts i_X6_at_X6 hown hK hw.1 0 rfl rfl 2 (by decide) (hts _ m_X6_at_0) (fun _ h9 => h9) rfl dX6_at_1 ?_
  refine lv_iload_n hx hb dX6_at_4 rfl (lv_at hl 1 rfl) ?_
  refine lv_iload_n hx hb dX6_at_5 rfl (lv_at hl 2 rfl) ?_
  obtain ⟨r1, h2, hf⟩ := bd1_ob hf
  refine clVI (As := [.int v1, .int v2]) (rest := []) X (c_X5_rowIn l dC dI cI cJ cZ aR N R_members R_starts R_inOrder R_standing R_heads R_tails R_rowsInAll R_made R_all R_filled v1 v2 h2) (cwV 2 hts gX6_at_X5_rowIn rfl rfl rfl (by decide +kernel) ⟨Nat.le_of_ble_eq_true rfl, Nat.le_of_ble_eq_true rfl⟩) (ci := 5) (k0 := 0) rfl rfl rfl hw [8, 9, 10, 11, 12, 13, 14] rfl rfl rfl rfl hl.1 rfl (Nat.le_of_ble_eq_true rfl) dX6_at_6 ⟨Nat.zero_le _, Nat.zero_le _⟩ (fun H locs hw => ?_)
  replace hw : Wd (dC, dI) A s.heap H locs (w_GWHRPCO aG aW aH aR aP aC aO cI cJ cZ W_sorts W_values W_turns W_falling W_count H_items H_size R_members R_starts R_inOrder R_standing R_heads R_tails R_rowsInAll R_made R_all R_filled P_takenRuns P_starts P_queued P_merges P_told C_sampled C_sampleStandings C_sizes C_ends C_lies C_merged C_reached C_done C_mergedBy C_parts C_samples C_bound C_ticks C_mergedInAll C_mergedAgain O_paces O_up) := hw
  cases hf
  exact endI X hr rfl hlocks rfl hw dX6_at_9
