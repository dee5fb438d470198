def rm_X6_merges : Room := { frames := 0, cells := 0, slots := 0, locals := 0 }
set_option maxRecDepth 20000 in
theorem i_X6_merges_X6 : ∀ w ∈ u_ws RX6 TX6 6, w ∈ wsX6_merges := by decide +kernel
set_option maxRecDepth 20000 in
theorem i_X6_merges_X3 : ∀ w ∈ u_ws RX3 TX3 5, w ∈ wsX6_merges := by decide +kernel
set_option maxRecDepth 20000 in
theorem m_X6_merges_0 : Cond.fieldLink RX6 33 "GreatSort" "plan" "LGreatSort$Plan;" ∈ wsX6_merges := by decide +kernel
set_option maxHeartbeats 4000000 in
set_option maxRecDepth 100000 in
theorem c_X6_merges (l : Launch) (dC : Nat → ClassId) (dI : Nat → Nat → Nat) (cI cJ cZ : ClassId) (aG aW aH aR aP aC aO : Nat → Nat) (N : Nat) (W_sorts : (Nat → Int32)) (W_values : (Nat → Int32)) (W_turns : (Nat → Int32)) (W_falling : (Nat → Int32)) (W_count : Int32) (H_items : (Nat → Int64)) (H_size : Int32) (R_members : (Nat → Int32)) (R_starts : (Nat → Int32)) (R_inOrder : (Nat → Int32)) (R_standing : (Nat → Int32)) (R_heads : (Nat → Int32)) (R_tails : (Nat → Int32)) (R_rowsInAll : Int32) (R_made : Int32) (R_all : Int32) (R_filled : Int32) (P_takenRuns : (Nat → Int32)) (P_starts : (Nat → Int32)) (P_queued : (Nat → Int32)) (P_merges : Int32) (P_told : Int32) (C_sampled : (Nat → Int32)) (C_sampleStandings : (Nat → Int32)) (C_sizes : (Nat → Int32)) (C_ends : (Nat → Int32)) (C_lies : (Nat → Int32)) (C_merged : (Nat → Int32)) (C_reached : (Nat → Int32)) (C_done : (Nat → Int32)) (C_mergedBy : (Nat → Int32)) (C_parts : Int32) (C_samples : Int32) (C_bound : Int32) (C_ticks : Int32) (C_mergedInAll : Int32) (C_mergedAgain : Int32) (O_paces : (Nat → Int32)) (O_up : (Nat → Int32))  {r : Int32} (hf : f_X6_merges N P_merges  = some r) :
    CtI l yX6_merges wsX6_merges rm_X6_merges (dC, dI) (tyl cI cJ cZ) [.ref (aG 0)] (w_GWHRPCO aG aW aH aR aP aC aO cI cJ cZ W_sorts W_values W_turns W_falling W_count H_items H_size R_members R_starts R_inOrder R_standing R_heads R_tails R_rowsInAll R_made R_all R_filled P_takenRuns P_starts P_queued P_merges P_told C_sampled C_sampleStandings C_sizes C_ends C_lies C_merged C_reached C_done C_mergedBy C_parts C_samples C_bound C_ticks C_mergedInAll C_mergedAgain O_paces O_up) (w_GWHRPCO aG aW aH aR aP aC aO cI cJ cZ W_sorts W_values W_turns W_falling W_count H_items H_size R_members R_starts R_inOrder R_standing R_heads R_tails R_rowsInAll R_made R_all R_filled P_takenRuns P_starts P_queued P_merges P_told C_sampled C_sampleStandings C_sizes C_ends C_lies C_merged C_reached C_done C_mergedBy C_parts C_samples C_bound C_ticks C_mergedInAll C_mergedAgain O_paces O_up) r := by
  refine startI (cc := cX6_merges) (maxL := 1) (rt := (some .int)) (by decide +kernel) rfl (Nat.le_of_ble_eq_true rfl) ?_
  intro p e s m below meth c A ls X hr hlocks hw hl
  replace X : Cx p m c cX6_merges 1 s _ wsX6_merges RX6 (dC, dI) (tyl cI cJ cZ) A := X
  replace hl : lv_has ls 1 [(0, .ref (aG 0))] := hl
  obtain ⟨hx, hb, hml, hown, hts⟩ := X.1
  have hK := X.2.1
  have hN := X.2.2.2
  unfold f_X6_merges at hf
  refine lv_aload_n hx hb dX6_merges_0 rfl (lv_at hl 0 rfl) ?_
  refine va_get (D := (dC, dI)) (ci := 6) (v := .ref (aP 0)) (C := RX6) (T := TX6) (N := 6) hx hb hts i_X6_merges_X6 hown hK hw.1 0 rfl rfl 3 (by decide) (hts _ m_X6_merges_0) (fun _ h9 => h9) rfl dX6_merges_1 ?_
  refine va_getN (D := (dC, dI)) (ci := 3) (v := .int P_merges) (C := RX3) (T := TX3) (N := 5) hx hb hts i_X6_merges_X3 hown hK hw.1 15 rfl rfl 3 (by decide) (va_Nw.use rfl (hN _ nk_0)) (fun _ h9 => h9) rfl dX6_merges_4 ?_
  cases hf
  exact endI X hr rfl hlocks rfl hw dX6_merges_7
def rm_X6_takes : Room := { frames := 3, cells := 0, slots := 0, locals := 65 }
set_option maxRecDepth 20000 in
theorem i_X6_takes_X6 : ∀ w ∈ u_ws RX6 TX6 6, w ∈ wsX6_takes := by decide +kernel
set_option maxRecDepth 20000 in
theorem m_X6_takes_0 : Cond.fieldLink RX6 33 "GreatSort" "plan" "LGreatSort$Plan;" ∈ wsX6_takes := by decide +kernel
set_option maxHeartbeats 4000000 in
set_option maxRecDepth 100000 in
theorem c_X6_takes (l : Launch) (dC : Nat → ClassId) (dI : Nat → Nat → Nat) (cI cJ cZ : ClassId) (aG aW aH aR aP aC aO : Nat → Nat) (N : Nat) (W_sorts : (Nat → Int32)) (W_values : (Nat → Int32)) (W_turns : (Nat → Int32)) (W_falling : (Nat → Int32)) (W_count : Int32) (H_items : (Nat → Int64)) (H_size : Int32) (R_members : (Nat → Int32)) (R_starts : (Nat → Int32)) (R_inOrder : (Nat → Int32)) (R_standing : (Nat → Int32)) (R_heads : (Nat → Int32)) (R_tails : (Nat → Int32)) (R_rowsInAll : Int32) (R_made : Int32) (R_all : Int32) (R_filled : Int32) (P_takenRuns : (Nat → Int32)) (P_starts : (Nat → Int32)) (P_queued : (Nat → Int32)) (P_merges : Int32) (P_told : Int32) (C_sampled : (Nat → Int32)) (C_sampleStandings : (Nat → Int32)) (C_sizes : (Nat → Int32)) (C_ends : (Nat → Int32)) (C_lies : (Nat → Int32)) (C_merged : (Nat → Int32)) (C_reached : (Nat → Int32)) (C_done : (Nat → Int32)) (C_mergedBy : (Nat → Int32)) (C_parts : Int32) (C_samples : Int32) (C_bound : Int32) (C_ticks : Int32) (C_mergedInAll : Int32) (C_mergedAgain : Int32) (O_paces : (Nat → Int32)) (O_up : (Nat → Int32)) (v1 : Int32) (v2 : Int32) {r : Int32} (hf : f_X6_takes N P_takenRuns P_starts P_merges v1 v2 = some r) :
    CtI l yX6_takes wsX6_takes rm_X6_takes (dC, dI) (tyl cI cJ cZ) [.ref (aG 0), .int v1, .int v2] (w_GWHRPCO aG aW aH aR aP aC aO cI cJ cZ W_sorts W_values W_turns W_falling W_count H_items H_size R_members R_starts R_inOrder R_standing R_heads R_tails R_rowsInAll R_made R_all R_filled P_takenRuns P_starts P_queued P_merges P_told C_sampled C_sampleStandings C_sizes C_ends C_lies C_merged C_reached C_done C_mergedBy C_parts C_samples C_bound C_ticks C_mergedInAll C_mergedAgain O_paces O_up) (w_GWHRPCO aG aW aH aR aP aC aO cI cJ cZ W_sorts W_values W_turns W_falling W_count H_items H_size R_members R_starts R_inOrder R_standing R_heads R_tails R_rowsInAll R_made R_all R_filled P_takenRuns P_starts P_queued P_merges P_told C_sampled C_sampleStandings C_sizes C_ends C_lies C_merged C_reached C_done C_mergedBy C_parts C_samples C_bound C_ticks C_mergedInAll C_mergedAgain O_paces O_up) r := by
  refine startI (cc := cX6_takes) (maxL := 3) (rt := (some .int)) (by decide +kernel) rfl (Nat.le_of_ble_eq_true rfl) ?_
  intro p e s m below meth c A ls X hr hlocks hw hl
  replace X : Cx p m c cX6_takes 3 s _ wsX6_takes RX6 (dC, dI) (tyl cI cJ cZ) A := X
  replace hl : lv_has ls 3 [(0, .ref (aG 0)), (1, .int v1), (2, .int v2)] := hl
  obtain ⟨hx, hb, hml, hown, hts⟩ := X.1
  have hK := X.2.1
  have hN := X.2.2.2
  unfold f_X6_takes at hf
  refine lv_aload_n hx hb dX6_takes_0 rfl (lv_at hl 0 rfl) ?_
  refine va_get (D := (dC, dI)) (ci := 6) (v := .ref (aP 0)) (C := RX6) (T := TX6) (N := 6) hx hb hts i_X6_takes_X6 hown hK hw.1 0 rfl rfl 3 (by decide) (hts _ m_X6_takes_0) (fun _ h9 => h9) rfl dX6_takes_1 ?_
  refine lv_iload_n hx hb dX6_takes_4 rfl (lv_at hl 1 rfl) ?_
  refine lv_iload_n hx hb dX6_takes_5 rfl (lv_at hl 2 rfl) ?_
  obtain ⟨r1, h2, hf⟩ := bd1_ob hf
  refine clVI (As := [.int v1, .int v2]) (rest := []) X (c_X3_taken l dC dI cI cJ cZ aP N P_takenRuns P_starts P_queued P_merges P_told v1 v2 h2) (cwV 2 hts gX6_takes_X3_taken rfl rfl rfl (by decide +kernel) ⟨Nat.le_of_ble_eq_true rfl, Nat.le_of_ble_eq_true rfl⟩) (ci := 3) rfl rfl rfl hw [15, 16, 17, 18] rfl rfl rfl rfl hl.1 rfl (Nat.le_of_ble_eq_true rfl) dX6_takes_6 ⟨Nat.zero_le _, Nat.zero_le _⟩ (fun H locs hw => ?_)
  replace hw : Wd (dC, dI) A s.heap H locs (w_GWHRPCO aG aW aH aR aP aC aO cI cJ cZ W_sorts W_values W_turns W_falling W_count H_items H_size R_members R_starts R_inOrder R_standing R_heads R_tails R_rowsInAll R_made R_all R_filled P_takenRuns P_starts P_queued P_merges P_told C_sampled C_sampleStandings C_sizes C_ends C_lies C_merged C_reached C_done C_mergedBy C_parts C_samples C_bound C_ticks C_mergedInAll C_mergedAgain O_paces O_up) := hw
  cases hf
  exact endI X hr rfl hlocks rfl hw dX6_takes_9
def rm_X6_merge : Room := { frames := 4, cells := 0, slots := 0, locals := 95 }
set_option maxRecDepth 20000 in
theorem i_X6_merge_X6 : ∀ w ∈ u_ws RX6 TX6 6, w ∈ wsX6_merge := by decide +kernel
set_option maxRecDepth 20000 in
theorem i_X6_merge_X3 : ∀ w ∈ u_ws RX3 TX3 5, w ∈ wsX6_merge := by decide +kernel
set_option maxRecDepth 20000 in
theorem m_X6_merge_0 : Cond.fieldLink RX6 33 "GreatSort" "plan" "LGreatSort$Plan;" ∈ wsX6_merge := by decide +kernel
set_option maxRecDepth 20000 in
theorem m_X6_merge_1 : Cond.fieldLink RX6 26 "GreatSort" "runs" "LGreatSort$Runs;" ∈ wsX6_merge := by decide +kernel
set_option maxHeartbeats 4000000 in
set_option maxRecDepth 100000 in
theorem t_X6_merge_23 {p : Program} {l : Launch} {e : Env} {s : State} {m : MethodId} {args : Array Value} {below : List Frame} {meth : Method} {c : Code} {Q : State → Prop} {dC : Nat → ClassId} {dI : Nat → Nat → Nat} {cI cJ cZ : ClassId} {A : Nat → Prop} (aG aW aH aR aP aC aO : Nat → Nat) (X : Cx p m c cX6_merge 3 s args wsX6_merge RX6 (dC, dI) (tyl cI cJ cZ) A) (N : Nat) (W_sorts : (Nat → Int32)) (W_values : (Nat → Int32)) (W_turns : (Nat → Int32)) (W_falling : (Nat → Int32)) (W_count : Int32) (H_items : (Nat → Int64)) (H_size : Int32) (R_inOrder : (Nat → Int32)) (R_standing : (Nat → Int32)) (R_rowsInAll : Int32) (R_made : Int32) (P_takenRuns : (Nat → Int32)) (P_starts : (Nat → Int32)) (P_queued : (Nat → Int32)) (P_merges : Int32) (P_told : Int32) (C_sampled : (Nat → Int32)) (C_sampleStandings : (Nat → Int32)) (C_sizes : (Nat → Int32)) (C_ends : (Nat → Int32)) (C_lies : (Nat → Int32)) (C_merged : (Nat → Int32)) (C_reached : (Nat → Int32)) (C_done : (Nat → Int32)) (C_mergedBy : (Nat → Int32)) (C_parts : Int32) (C_samples : Int32) (C_bound : Int32) (C_ticks : Int32) (C_mergedInAll : Int32) (C_mergedAgain : Int32) (O_paces : (Nat → Int32)) (O_up : (Nat → Int32))  :
    ∀ (n : Nat) (v1 : Int32) (v2 : Int32) (R_members : (Nat → Int32)) (R_starts : (Nat → Int32)) (R_heads : (Nat → Int32)) (R_tails : (Nat → Int32)) (R_all : Int32) (R_filled : Int32) (e1 : Int32) (e_R_members : (Nat → Int32)) (e_R_starts : (Nat → Int32)) (e_R_heads : (Nat → Int32)) (e_R_tails : (Nat → Int32)) (e_R_all : Int32) (e_R_filled : Int32), l_X6_merge_23 N R_standing R_rowsInAll P_takenRuns P_starts P_merges n v1 v2 R_members R_starts R_heads R_tails R_all R_filled = some (e1, e_R_members, e_R_starts, e_R_heads, e_R_tails, e_R_all, e_R_filled) → ∀ (H : Heap) (locs : List Loc) (ls : Array Slot), Wd (dC, dI) A s.heap H locs (w_GWHRPCO aG aW aH aR aP aC aO cI cJ cZ W_sorts W_values W_turns W_falling W_count H_items H_size R_members R_starts R_inOrder R_standing R_heads R_tails R_rowsInAll R_made R_all R_filled P_takenRuns P_starts P_queued P_merges P_told C_sampled C_sampleStandings C_sizes C_ends C_lies C_merged C_reached C_done C_mergedBy C_parts C_samples C_bound C_ticks C_mergedInAll C_mergedAgain O_paces O_up) → lv_has ls 3 [(0, .ref (aG 0)), (1, .int v1), (2, .int v2)] → (∀ (H : Heap) (locs : List Loc) (ls : Array Slot), Wd (dC, dI) A s.heap H locs (w_GWHRPCO aG aW aH aR aP aC aO cI cJ cZ W_sorts W_values W_turns W_falling W_count H_items H_size e_R_members e_R_starts R_inOrder R_standing e_R_heads e_R_tails R_rowsInAll R_made e_R_all e_R_filled P_takenRuns P_starts P_queued P_merges P_told C_sampled C_sampleStandings C_sizes C_ends C_lies C_merged C_reached C_done C_mergedBy C_parts C_samples C_bound C_ticks C_mergedInAll C_mergedAgain O_paces O_up) → lv_has ls 3 [(1, .int e1)] → W p l e rm_X6_merge s m args below meth c H locs 0 0 Q (F0 m 55 ls [])) → W p l e rm_X6_merge s m args below meth c H locs 0 0 Q (F0 m 23 ls []) := by
  obtain ⟨hx, hb, hml, hown, hts⟩ := X.1
  have hK := X.2.1
  have hN := X.2.2.2
  intro n
  induction n with
  | zero =>
    intro _ _ _ _ _ _ _ _ _ _ _ _ _ _ _ hf
    cases hf
  | succ n ih =>
    intro v1 v2 R_members R_starts R_heads R_tails R_all R_filled e1 e_R_members e_R_starts e_R_heads e_R_tails e_R_all e_R_filled hf H locs ls hw hl kx
    rw [l_X6_merge_23] at hf
    refine lv_iload_n hx hb dX6_merge_23 rfl (lv_at hl 2 rfl) ?_
    refine lv_aload_n hx hb dX6_merge_24 rfl (lv_at hl 0 rfl) ?_
    refine va_get (D := (dC, dI)) (ci := 6) (v := .ref (aP 0)) (C := RX6) (T := TX6) (N := 6) hx hb hts i_X6_merge_X6 hown hK hw.1 0 rfl rfl 3 (by decide) (hts _ m_X6_merge_0) (fun _ h9 => h9) rfl dX6_merge_25 ?_
    refine va_getN (D := (dC, dI)) (ci := 3) (v := .int P_merges) (C := RX3) (T := TX3) (N := 5) hx hb hts i_X6_merge_X3 hown hK hw.1 15 rfl rfl 3 (by decide) (va_Nw.use rfl (hN _ nk_0)) (fun _ h9 => h9) rfl dX6_merge_28 ?_
    refine lv_icmp_ge (tgt := 55) hx hb dX6_merge_31 (by decide) (fun b5 => ?_) (fun b5 => ?_)
    · replace hf := it_t hf b5
      cases hf
      exact kx _ _ _ hw (lv_sub hl [1] rfl)
    · replace hf := it_f hf b5
      refine lv_iload_n hx hb dX6_merge_34 rfl (lv_at hl 1 rfl) ?_
      refine lv_aload_n hx hb dX6_merge_35 rfl (lv_at hl 0 rfl) ?_
      refine va_get (D := (dC, dI)) (ci := 6) (v := .ref (aR 0)) (C := RX6) (T := TX6) (N := 6) hx hb hts i_X6_merge_X6 hown hK hw.1 0 rfl rfl 2 (by decide) (hts _ m_X6_merge_1) (fun _ h9 => h9) rfl dX6_merge_36 ?_
      refine lv_aload_n hx hb dX6_merge_39 rfl (lv_at hl 0 rfl) ?_
      refine va_get (D := (dC, dI)) (ci := 6) (v := .ref (aP 0)) (C := RX6) (T := TX6) (N := 6) hx hb hts i_X6_merge_X6 hown hK hw.1 0 rfl rfl 3 (by decide) (hts _ m_X6_merge_0) (fun _ h9 => h9) rfl dX6_merge_40 ?_
      refine lv_iload_n hx hb dX6_merge_43 rfl (lv_at hl 2 rfl) ?_
      obtain ⟨r6, c7, c8, c9, c10, c11, c12, h13, hf⟩ := bd7_ob hf
      refine clVI (As := [.ref (aP 0), .int v2]) (rest := [.int v1]) X (c_X5_mergeThose l dC dI cI cJ cZ aR aP N R_members R_starts R_inOrder R_standing R_heads R_tails R_rowsInAll R_made R_all R_filled P_takenRuns P_starts P_queued P_merges P_told v2 h13) (cwV 2 hts gX6_merge_X5_mergeThose rfl rfl rfl (by decide +kernel) ⟨Nat.le_of_ble_eq_true rfl, Nat.le_of_ble_eq_true rfl⟩) (ci := 5) rfl rfl rfl hw [8, 9, 10, 11, 12, 13, 14, 15, 16, 17, 18] rfl rfl rfl rfl hl.1 rfl (Nat.le_of_ble_eq_true rfl) dX6_merge_44 ⟨Nat.zero_le _, Nat.zero_le _⟩ (fun H locs hw => ?_)
      replace hw : Wd (dC, dI) A s.heap H locs (w_GWHRPCO aG aW aH aR aP aC aO cI cJ cZ W_sorts W_values W_turns W_falling W_count H_items H_size c7 c8 R_inOrder R_standing c9 c10 R_rowsInAll R_made c11 c12 P_takenRuns P_starts P_queued P_merges P_told C_sampled C_sampleStandings C_sizes C_ends C_lies C_merged C_reached C_done C_mergedBy C_parts C_samples C_bound C_ticks C_mergedInAll C_mergedAgain O_paces O_up) := hw
      refine lv_iadd hx hb dX6_merge_47 ?_
      refine lv_topi (fun x14 ex14 => ?_)
      replace hf := nl_at hf ex14
      refine lv_istore_n (lv' := [(1, .int x14), (0, .ref (aG 0)), (2, .int v2)]) hx hb dX6_merge_48 rfl hl (by decide) rfl (fun ls hl => ?_)
      obtain ⟨x15, ex15⟩ : ∃ y : Int32, y = v2 + 1 := ⟨_, rfl⟩
      replace hf := nl_at hf ex15
      refine lv_iinc (v := x15) (lv' := [(2, .int x15), (1, .int x14), (0, .ref (aG 0))]) hx hb dX6_merge_49 hl (k := 2) rfl (by rw [ex15]; rfl) (by decide) rfl (fun ls hl => ?_)
      refine lv_goto (tgt := 23) hx hb dX6_merge_52 (by decide) ?_
      exact ih _ _ _ _ _ _ _ _ _ _ _ _ _ _ _ hf _ _ _ hw (lv_sub hl [2, 1, 0] rfl) kx
set_option maxHeartbeats 4000000 in
set_option maxRecDepth 100000 in
theorem c_X6_merge (l : Launch) (dC : Nat → ClassId) (dI : Nat → Nat → Nat) (cI cJ cZ : ClassId) (aG aW aH aR aP aC aO : Nat → Nat) (N : Nat) (W_sorts : (Nat → Int32)) (W_values : (Nat → Int32)) (W_turns : (Nat → Int32)) (W_falling : (Nat → Int32)) (W_count : Int32) (H_items : (Nat → Int64)) (H_size : Int32) (R_members : (Nat → Int32)) (R_starts : (Nat → Int32)) (R_inOrder : (Nat → Int32)) (R_standing : (Nat → Int32)) (R_heads : (Nat → Int32)) (R_tails : (Nat → Int32)) (R_rowsInAll : Int32) (R_made : Int32) (R_all : Int32) (R_filled : Int32) (P_takenRuns : (Nat → Int32)) (P_starts : (Nat → Int32)) (P_queued : (Nat → Int32)) (P_merges : Int32) (P_told : Int32) (C_sampled : (Nat → Int32)) (C_sampleStandings : (Nat → Int32)) (C_sizes : (Nat → Int32)) (C_ends : (Nat → Int32)) (C_lies : (Nat → Int32)) (C_merged : (Nat → Int32)) (C_reached : (Nat → Int32)) (C_done : (Nat → Int32)) (C_mergedBy : (Nat → Int32)) (C_parts : Int32) (C_samples : Int32) (C_bound : Int32) (C_ticks : Int32) (C_mergedInAll : Int32) (C_mergedAgain : Int32) (O_paces : (Nat → Int32)) (O_up : (Nat → Int32))  {r : Int32} {o_R_members : (Nat → Int32)} {o_R_starts : (Nat → Int32)} {o_R_heads : (Nat → Int32)} {o_R_tails : (Nat → Int32)} {o_R_all : Int32} {o_R_filled : Int32} (hf : f_X6_merge N R_members R_starts R_standing R_heads R_tails R_rowsInAll R_made R_all R_filled P_takenRuns P_starts P_merges P_told  = some (r, o_R_members, o_R_starts, o_R_heads, o_R_tails, o_R_all, o_R_filled)) :
    CtI l yX6_merge wsX6_merge rm_X6_merge (dC, dI) (tyl cI cJ cZ) [.ref (aG 0)] (w_GWHRPCO aG aW aH aR aP aC aO cI cJ cZ W_sorts W_values W_turns W_falling W_count H_items H_size R_members R_starts R_inOrder R_standing R_heads R_tails R_rowsInAll R_made R_all R_filled P_takenRuns P_starts P_queued P_merges P_told C_sampled C_sampleStandings C_sizes C_ends C_lies C_merged C_reached C_done C_mergedBy C_parts C_samples C_bound C_ticks C_mergedInAll C_mergedAgain O_paces O_up) (w_GWHRPCO aG aW aH aR aP aC aO cI cJ cZ W_sorts W_values W_turns W_falling W_count H_items H_size o_R_members o_R_starts R_inOrder R_standing o_R_heads o_R_tails R_rowsInAll R_made o_R_all o_R_filled P_takenRuns P_starts P_queued P_merges P_told C_sampled C_sampleStandings C_sizes C_ends C_lies C_merged C_reached C_done C_mergedBy C_parts C_samples C_bound C_ticks C_mergedInAll C_mergedAgain O_paces O_up) r := by
  refine startI (cc := cX6_merge) (maxL := 3) (rt := (some .int)) (by decide +kernel) rfl (Nat.le_of_ble_eq_true rfl) ?_
  intro p e s m below meth c A ls X hr hlocks hw hl
  replace X : Cx p m c cX6_merge 3 s _ wsX6_merge RX6 (dC, dI) (tyl cI cJ cZ) A := X
  replace hl : lv_has ls 3 [(0, .ref (aG 0))] := hl
  obtain ⟨hx, hb, hml, hown, hts⟩ := X.1
  have hK := X.2.1
  have hN := X.2.2.2
  unfold f_X6_merge at hf
  refine lv_aload_n hx hb dX6_merge_0 rfl (lv_at hl 0 rfl) ?_
  refine va_get (D := (dC, dI)) (ci := 6) (v := .ref (aP 0)) (C := RX6) (T := TX6) (N := 6) hx hb hts i_X6_merge_X6 hown hK hw.1 0 rfl rfl 3 (by decide) (hts _ m_X6_merge_0) (fun _ h9 => h9) rfl dX6_merge_1 ?_
  refine va_getN (D := (dC, dI)) (ci := 3) (v := .int P_told) (C := RX3) (T := TX3) (N := 5) hx hb hts i_X6_merge_X3 hown hK hw.1 15 rfl rfl 4 (by decide) (va_Nw.use rfl (hN _ nk_1)) (fun _ h9 => h9) rfl dX6_merge_4 ?_
  refine lv_if_ne (tgt := 12) hx hb dX6_merge_7 (by decide) (fun b1 => ?_) (fun b1 => ?_)
  · replace hf := it_f hf b1
    refine lv_aload_n hx hb dX6_merge_12 rfl (lv_at hl 0 rfl) ?_
    refine va_get (D := (dC, dI)) (ci := 6) (v := .ref (aR 0)) (C := RX6) (T := TX6) (N := 6) hx hb hts i_X6_merge_X6 hown hK hw.1 0 rfl rfl 2 (by decide) (hts _ m_X6_merge_1) (fun _ h9 => h9) rfl dX6_merge_13 ?_
    obtain ⟨c2, c3, h4, hf⟩ := bd2_ob hf
    refine clVV (As := []) (rest := []) X (c_X5_forgetMerged l dC dI cI cJ cZ aR N R_members R_starts R_inOrder R_standing R_heads R_tails R_rowsInAll R_made R_all R_filled h4) (cwV 0 hts gX6_merge_X5_forgetMerged rfl rfl rfl (by decide +kernel) ⟨Nat.le_of_ble_eq_true rfl, Nat.le_of_ble_eq_true rfl⟩) (ci := 5) rfl rfl rfl hw [8, 9, 10, 11, 12, 13, 14] rfl rfl rfl rfl hl.1 rfl (Nat.le_of_ble_eq_true rfl) dX6_merge_16 ⟨Nat.zero_le _, Nat.zero_le _⟩ (fun H locs hw => ?_)
    replace hw : Wd (dC, dI) A s.heap H locs (w_GWHRPCO aG aW aH aR aP aC aO cI cJ cZ W_sorts W_values W_turns W_falling W_count H_items H_size R_members R_starts R_inOrder R_standing R_heads R_tails R_rowsInAll R_made c2 c3 P_takenRuns P_starts P_queued P_merges P_told C_sampled C_sampleStandings C_sizes C_ends C_lies C_merged C_reached C_done C_mergedBy C_parts C_samples C_bound C_ticks C_mergedInAll C_mergedAgain O_paces O_up) := hw
    refine lv_iconst (v := 0) hx hb dX6_merge_19 (by decide) ?_
    refine lv_istore_n (lv' := [(1, .int 0), (0, .ref (aG 0))]) hx hb dX6_merge_20 rfl hl (by decide) rfl (fun ls hl => ?_)
    refine lv_iconst (v := 0) hx hb dX6_merge_21 (by decide) ?_
    refine lv_istore_n (lv' := [(2, .int 0), (1, .int 0), (0, .ref (aG 0))]) hx hb dX6_merge_22 rfl hl (by decide) rfl (fun ls hl => ?_)
    obtain ⟨e16, e17, e18, e19, e20, e21, e22, h23, hf⟩ := bd7_ob hf
    refine t_X6_merge_23 aG aW aH aR aP aC aO X N W_sorts W_values W_turns W_falling W_count H_items H_size R_inOrder R_standing R_rowsInAll R_made P_takenRuns P_starts P_queued P_merges P_told C_sampled C_sampleStandings C_sizes C_ends C_lies C_merged C_reached C_done C_mergedBy C_parts C_samples C_bound C_ticks C_mergedInAll C_mergedAgain O_paces O_up N _ _ _ _ _ _ _ _ _ _ _ _ _ _ _ h23 _ _ _ hw (lv_sub hl [2, 1, 0] rfl) (fun H locs ls hw hl => ?_)
    refine lv_iload_n hx hb dX6_merge_55 rfl (lv_at hl 0 rfl) ?_
    cases hf
    exact endI X hr rfl hlocks rfl hw dX6_merge_56
  · replace hf := it_t hf b1
    refine lv_iconst (v := (-1)) hx hb dX6_merge_10 (by decide) ?_
    cases hf
    exact endI X hr rfl hlocks rfl hw dX6_merge_11
def rm_X6_cut : Room := { frames := 6, cells := 0, slots := 0, locals := 138 }
set_option maxRecDepth 20000 in
theorem i_X6_cut_X6 : ∀ w ∈ u_ws RX6 TX6 6, w ∈ wsX6_cut := by decide +kernel
set_option maxRecDepth 20000 in
theorem i_X6_cut_X5 : ∀ w ∈ u_ws RX5 TX5 10, w ∈ wsX6_cut := by decide +kernel
set_option maxRecDepth 20000 in
theorem i_X6_cut_X0 : ∀ w ∈ u_ws RX0 TX0 15, w ∈ wsX6_cut := by decide +kernel
set_option maxRecDepth 20000 in
theorem m_X6_cut_0 : Cond.fieldLink RX6 26 "GreatSort" "runs" "LGreatSort$Runs;" ∈ wsX6_cut := by decide +kernel
set_option maxRecDepth 20000 in
theorem m_X6_cut_1 : Cond.fieldLink RX6 40 "GreatSort" "cut" "LGreatSort$Cut;" ∈ wsX6_cut := by decide +kernel
set_option maxRecDepth 20000 in
theorem m_X6_cut_2 : Cond.fieldLink RX6 47 "GreatSort" "hosts" "LGreatSort$Hosts;" ∈ wsX6_cut := by decide +kernel
set_option maxHeartbeats 4000000 in
set_option maxRecDepth 100000 in
theorem c_X6_cut (l : Launch) (dC : Nat → ClassId) (dI : Nat → Nat → Nat) (cI cJ cZ : ClassId) (aG aW aH aR aP aC aO : Nat → Nat) (N : Nat) (W_sorts : (Nat → Int32)) (W_values : (Nat → Int32)) (W_turns : (Nat → Int32)) (W_falling : (Nat → Int32)) (W_count : Int32) (H_items : (Nat → Int64)) (H_size : Int32) (R_members : (Nat → Int32)) (R_starts : (Nat → Int32)) (R_inOrder : (Nat → Int32)) (R_standing : (Nat → Int32)) (R_heads : (Nat → Int32)) (R_tails : (Nat → Int32)) (R_rowsInAll : Int32) (R_made : Int32) (R_all : Int32) (R_filled : Int32) (P_takenRuns : (Nat → Int32)) (P_starts : (Nat → Int32)) (P_queued : (Nat → Int32)) (P_merges : Int32) (P_told : Int32) (C_sampled : (Nat → Int32)) (C_sampleStandings : (Nat → Int32)) (C_sizes : (Nat → Int32)) (C_ends : (Nat → Int32)) (C_lies : (Nat → Int32)) (C_merged : (Nat → Int32)) (C_reached : (Nat → Int32)) (C_done : (Nat → Int32)) (C_mergedBy : (Nat → Int32)) (C_parts : Int32) (C_samples : Int32) (C_bound : Int32) (C_ticks : Int32) (C_mergedInAll : Int32) (C_mergedAgain : Int32) (O_paces : (Nat → Int32)) (O_up : (Nat → Int32)) (v1 : Int32) (v2 : Int32) {r : Int32} {o_C_sampled : (Nat → Int32)} {o_C_sampleStandings : (Nat → Int32)} {o_C_sizes : (Nat → Int32)} {o_C_ends : (Nat → Int32)} {o_C_lies : (Nat → Int32)} {o_C_merged : (Nat → Int32)} {o_C_reached : (Nat → Int32)} {o_C_done : (Nat → Int32)} {o_C_mergedBy : (Nat → Int32)} {o_C_parts : Int32} {o_C_samples : Int32} {o_C_bound : Int32} {o_C_ticks : Int32} {o_C_mergedInAll : Int32} {o_C_mergedAgain : Int32} (hf : f_X6_cut N R_members R_starts R_inOrder R_standing R_rowsInAll R_made R_all C_sampled C_sampleStandings C_sizes C_ends C_lies C_merged C_reached C_done C_mergedBy C_parts C_samples C_bound C_ticks C_mergedInAll C_mergedAgain O_up v1 v2 = some (r, o_C_sampled, o_C_sampleStandings, o_C_sizes, o_C_ends, o_C_lies, o_C_merged, o_C_reached, o_C_done, o_C_mergedBy, o_C_parts, o_C_samples, o_C_bound, o_C_ticks, o_C_mergedInAll, o_C_mergedAgain)) :
    CtI l yX6_cut wsX6_cut rm_X6_cut (dC, dI) (tyl cI cJ cZ) [.ref (aG 0), .int v1, .int v2] (w_GWHRPCO aG aW aH aR aP aC aO cI cJ cZ W_sorts W_values W_turns W_falling W_count H_items H_size R_members R_starts R_inOrder R_standing R_heads R_tails R_rowsInAll R_made R_all R_filled P_takenRuns P_starts P_queued P_merges P_told C_sampled C_sampleStandings C_sizes C_ends C_lies C_merged C_reached C_done C_mergedBy C_parts C_samples C_bound C_ticks C_mergedInAll C_mergedAgain O_paces O_up) (w_GWHRPCO aG aW aH aR aP aC aO cI cJ cZ W_sorts W_values W_turns W_falling W_count H_items H_size R_members R_starts R_inOrder R_standing R_heads R_tails R_rowsInAll R_made R_all R_filled P_takenRuns P_starts P_queued P_merges P_told o_C_sampled o_C_sampleStandings o_C_sizes o_C_ends o_C_lies o_C_merged o_C_reached o_C_done o_C_mergedBy o_C_parts o_C_samples o_C_bound o_C_ticks o_C_mergedInAll o_C_mergedAgain O_paces O_up) r := by
  refine startI (cc := cX6_cut) (maxL := 3) (rt := (some .int)) (by decide +kernel) rfl (Nat.le_of_ble_eq_true rfl) ?_
  intro p e s m below meth c A ls X hr hlocks hw hl
  replace X : Cx p m c cX6_cut 3 s _ wsX6_cut RX6 (dC, dI) (tyl cI cJ cZ) A := X
  replace hl : lv_has ls 3 [(0, .ref (aG 0)), (1, .int v1), (2, .int v2)] := hl
  obtain ⟨hx, hb, hml, hown, hts⟩ := X.1
  have hK := X.2.1
  have hN := X.2.2.2
  unfold f_X6_cut at hf
  refine lv_aload_n hx hb dX6_cut_0 rfl (lv_at hl 0 rfl) ?_
  refine va_get (D := (dC, dI)) (ci := 6) (v := .ref (aR 0)) (C := RX6) (T := TX6) (N := 6) hx hb hts i_X6_cut_X6 hown hK hw.1 0 rfl rfl 2 (by decide) (hts _ m_X6_cut_0) (fun _ h9 => h9) rfl dX6_cut_1 ?_
  refine va_getN (D := (dC, dI)) (ci := 5) (v := .int R_made) (C := RX5) (T := TX5) (N := 10) hx hb hts i_X6_cut_X5 hown hK hw.1 8 rfl rfl 7 (by decide) (va_Nw.use rfl (hN _ nk_16)) (fun _ h9 => h9) rfl dX6_cut_4 ?_
  refine lv_if_eq (tgt := 30) hx hb dX6_cut_7 (by decide) (fun b1 => ?_) (fun b1 => ?_)
  · replace hf := it_t hf b1
    refine lv_iconst (v := (-1)) hx hb dX6_cut_30 (by decide) ?_
    cases hf
    exact endI X hr rfl hlocks rfl hw dX6_cut_31
  · replace hf := it_f hf b1
    refine lv_iload_n hx hb dX6_cut_10 rfl (lv_at hl 1 rfl) ?_
    refine lv_iconst (v := 1) hx hb dX6_cut_11 (by decide) ?_
    refine lv_bipush (v := 8) hx hb dX6_cut_12 (by decide) ?_
    obtain ⟨r2, h3, hf⟩ := bd1_ob hf
    refine clSI (As := [.int v1, .int (1 : Int32), .int (8 : Int32)]) (rest := []) X (c_X6_isIn l dC dI cI cJ cZ N v1 (1 : Int32) (8 : Int32) h3) (va_cwS 3 hts gX6_cut_X6_isIn rfl rfl rfl (by decide +kernel) ⟨Nat.le_of_ble_eq_true rfl, Nat.le_of_ble_eq_true rfl⟩) hw [] rfl rfl rfl rfl hl.1 rfl (Nat.le_of_ble_eq_true rfl) dX6_cut_14 ⟨Nat.zero_le _, Nat.zero_le _⟩ (fun H locs hw => ?_)
    replace hw : Wd (dC, dI) A s.heap H locs (w_GWHRPCO aG aW aH aR aP aC aO cI cJ cZ W_sorts W_values W_turns W_falling W_count H_items H_size R_members R_starts R_inOrder R_standing R_heads R_tails R_rowsInAll R_made R_all R_filled P_takenRuns P_starts P_queued P_merges P_told C_sampled C_sampleStandings C_sizes C_ends C_lies C_merged C_reached C_done C_mergedBy C_parts C_samples C_bound C_ticks C_mergedInAll C_mergedAgain O_paces O_up) := hw
    refine lv_if_eq (tgt := 30) hx hb dX6_cut_17 (by decide) (fun b4 => ?_) (fun b4 => ?_)
    · replace hf := it_t hf b4
      refine lv_iconst (v := (-1)) hx hb dX6_cut_30 (by decide) ?_
      cases hf
      exact endI X hr rfl hlocks rfl hw dX6_cut_31
    · replace hf := it_f hf b4
      refine lv_iload_n hx hb dX6_cut_20 rfl (lv_at hl 2 rfl) ?_
      refine lv_iconst (v := 1) hx hb dX6_cut_21 (by decide) ?_
      refine lv_bipush (v := 20) hx hb dX6_cut_22 (by decide) ?_
      obtain ⟨r5, h6, hf⟩ := bd1_ob hf
      refine clSI (As := [.int v2, .int (1 : Int32), .int (20 : Int32)]) (rest := []) X (c_X6_isIn l dC dI cI cJ cZ N v2 (1 : Int32) (20 : Int32) h6) (va_cwS 3 hts gX6_cut_X6_isIn rfl rfl rfl (by decide +kernel) ⟨Nat.le_of_ble_eq_true rfl, Nat.le_of_ble_eq_true rfl⟩) hw [] rfl rfl rfl rfl hl.1 rfl (Nat.le_of_ble_eq_true rfl) dX6_cut_24 ⟨Nat.zero_le _, Nat.zero_le _⟩ (fun H locs hw => ?_)
      replace hw : Wd (dC, dI) A s.heap H locs (w_GWHRPCO aG aW aH aR aP aC aO cI cJ cZ W_sorts W_values W_turns W_falling W_count H_items H_size R_members R_starts R_inOrder R_standing R_heads R_tails R_rowsInAll R_made R_all R_filled P_takenRuns P_starts P_queued P_merges P_told C_sampled C_sampleStandings C_sizes C_ends C_lies C_merged C_reached C_done C_mergedBy C_parts C_samples C_bound C_ticks C_mergedInAll C_mergedAgain O_paces O_up) := hw
      refine lv_if_ne (tgt := 32) hx hb dX6_cut_27 (by decide) (fun b7 => ?_) (fun b7 => ?_)
      · replace hf := it_f hf b7
        refine lv_aload_n hx hb dX6_cut_32 rfl (lv_at hl 0 rfl) ?_
        refine va_get (D := (dC, dI)) (ci := 6) (v := .ref (aC 0)) (C := RX6) (T := TX6) (N := 6) hx hb hts i_X6_cut_X6 hown hK hw.1 0 rfl rfl 4 (by decide) (hts _ m_X6_cut_1) (fun _ h9 => h9) rfl dX6_cut_33 ?_
        refine lv_aload_n hx hb dX6_cut_36 rfl (lv_at hl 0 rfl) ?_
        refine va_get (D := (dC, dI)) (ci := 6) (v := .ref (aR 0)) (C := RX6) (T := TX6) (N := 6) hx hb hts i_X6_cut_X6 hown hK hw.1 0 rfl rfl 2 (by decide) (hts _ m_X6_cut_0) (fun _ h9 => h9) rfl dX6_cut_37 ?_
        refine lv_iload_n hx hb dX6_cut_40 rfl (lv_at hl 1 rfl) ?_
        refine lv_iload_n hx hb dX6_cut_41 rfl (lv_at hl 2 rfl) ?_
        obtain ⟨c8, c9, c10, c11, c12, c13, c14, c15, c16, c17, c18, c19, c20, c21, h22, hf⟩ := bd14_ob hf
        refine clVV (As := [.ref (aR 0), .int v1, .int v2]) (rest := []) X (c_X0_makeOf l dC dI cI cJ cZ aC aR N C_sampled C_sampleStandings C_sizes C_ends C_lies C_merged C_reached C_done C_mergedBy C_parts C_samples C_bound C_ticks C_mergedInAll C_mergedAgain R_members R_starts R_inOrder R_standing R_heads R_tails R_rowsInAll R_made R_all R_filled v1 v2 h22) (cwV 3 hts gX6_cut_X0_makeOf rfl rfl rfl (by decide +kernel) ⟨Nat.le_of_ble_eq_true rfl, Nat.le_of_ble_eq_true rfl⟩) (ci := 0) rfl rfl rfl hw [19, 20, 21, 22, 23, 24, 25, 26, 27, 28, 8, 9, 10, 11, 12, 13, 14] rfl rfl rfl rfl hl.1 rfl (Nat.le_of_ble_eq_true rfl) dX6_cut_42 ⟨Nat.zero_le _, Nat.zero_le _⟩ (fun H locs hw => ?_)
        replace hw : Wd (dC, dI) A s.heap H locs (w_GWHRPCO aG aW aH aR aP aC aO cI cJ cZ W_sorts W_values W_turns W_falling W_count H_items H_size R_members R_starts R_inOrder R_standing R_heads R_tails R_rowsInAll R_made R_all R_filled P_takenRuns P_starts P_queued P_merges P_told c8 c9 c10 c11 C_lies c12 c13 c14 c15 c16 c17 c18 c19 c20 c21 O_paces O_up) := hw
        refine lv_aload_n hx hb dX6_cut_45 rfl (lv_at hl 0 rfl) ?_
        refine va_get (D := (dC, dI)) (ci := 6) (v := .ref (aC 0)) (C := RX6) (T := TX6) (N := 6) hx hb hts i_X6_cut_X6 hown hK hw.1 0 rfl rfl 4 (by decide) (hts _ m_X6_cut_1) (fun _ h9 => h9) rfl dX6_cut_46 ?_
        refine lv_aload_n hx hb dX6_cut_49 rfl (lv_at hl 0 rfl) ?_
        refine va_get (D := (dC, dI)) (ci := 6) (v := .ref (aO 0)) (C := RX6) (T := TX6) (N := 6) hx hb hts i_X6_cut_X6 hown hK hw.1 0 rfl rfl 5 (by decide) (hts _ m_X6_cut_2) (fun _ h9 => h9) rfl dX6_cut_50 ?_
        obtain ⟨c23, c24, c25, h26, hf⟩ := bd3_ob hf
        refine clVV (As := [.ref (aO 0)]) (rest := []) X (c_X0_layOn l dC dI cI cJ cZ aC aO N c8 c9 c10 c11 C_lies c12 c13 c14 c15 c16 c17 c18 c19 c20 c21 O_paces O_up h26) (cwV 1 hts gX6_cut_X0_layOn rfl rfl rfl (by decide +kernel) ⟨Nat.le_of_ble_eq_true rfl, Nat.le_of_ble_eq_true rfl⟩) (ci := 0) rfl rfl rfl hw [19, 20, 21, 22, 23, 24, 25, 26, 27, 28, 29, 30, 31] rfl rfl rfl rfl hl.1 rfl (Nat.le_of_ble_eq_true rfl) dX6_cut_53 ⟨Nat.zero_le _, Nat.zero_le _⟩ (fun H locs hw => ?_)
        replace hw : Wd (dC, dI) A s.heap H locs (w_GWHRPCO aG aW aH aR aP aC aO cI cJ cZ W_sorts W_values W_turns W_falling W_count H_items H_size R_members R_starts R_inOrder R_standing R_heads R_tails R_rowsInAll R_made R_all R_filled P_takenRuns P_starts P_queued P_merges P_told c8 c9 c10 c11 c23 c24 c13 c25 c15 c16 c17 c18 c19 c20 c21 O_paces O_up) := hw
        refine lv_aload_n hx hb dX6_cut_56 rfl (lv_at hl 0 rfl) ?_
        refine va_get (D := (dC, dI)) (ci := 6) (v := .ref (aC 0)) (C := RX6) (T := TX6) (N := 6) hx hb hts i_X6_cut_X6 hown hK hw.1 0 rfl rfl 4 (by decide) (hts _ m_X6_cut_1) (fun _ h9 => h9) rfl dX6_cut_57 ?_
        refine va_getN (D := (dC, dI)) (ci := 0) (v := .int c17) (C := RX0) (T := TX0) (N := 15) hx hb hts i_X6_cut_X0 hown hK hw.1 19 rfl rfl 10 (by decide) (va_Nw.use rfl (hN _ nk_2)) (fun _ h9 => h9) rfl dX6_cut_60 ?_
        cases hf
        exact endI X hr rfl hlocks rfl hw dX6_cut_63
      · replace hf := it_t hf b7
        refine lv_iconst (v := (-1)) hx hb dX6_cut_30 (by decide) ?_
        cases hf
        exact endI X hr rfl hlocks rfl hw dX6_cut_31
def rm_X6_bound : Room := { frames := 1, cells := 0, slots := 0, locals := 20 }
set_option maxRecDepth 20000 in
theorem i_X6_bound_X6 : ∀ w ∈ u_ws RX6 TX6 6, w ∈ wsX6_bound := by decide +kernel
set_option maxRecDepth 20000 in
theorem i_X6_bound_X0 : ∀ w ∈ u_ws RX0 TX0 15, w ∈ wsX6_bound := by decide +kernel
set_option maxRecDepth 20000 in
theorem m_X6_bound_0 : Cond.fieldLink RX6 40 "GreatSort" "cut" "LGreatSort$Cut;" ∈ wsX6_bound := by decide +kernel
set_option maxHeartbeats 4000000 in
set_option maxRecDepth 100000 in
theorem c_X6_bound (l : Launch) (dC : Nat → ClassId) (dI : Nat → Nat → Nat) (cI cJ cZ : ClassId) (aG aW aH aR aP aC aO : Nat → Nat) (N : Nat) (W_sorts : (Nat → Int32)) (W_values : (Nat → Int32)) (W_turns : (Nat → Int32)) (W_falling : (Nat → Int32)) (W_count : Int32) (H_items : (Nat → Int64)) (H_size : Int32) (R_members : (Nat → Int32)) (R_starts : (Nat → Int32)) (R_inOrder : (Nat → Int32)) (R_standing : (Nat → Int32)) (R_heads : (Nat → Int32)) (R_tails : (Nat → Int32)) (R_rowsInAll : Int32) (R_made : Int32) (R_all : Int32) (R_filled : Int32) (P_takenRuns : (Nat → Int32)) (P_starts : (Nat → Int32)) (P_queued : (Nat → Int32)) (P_merges : Int32) (P_told : Int32) (C_sampled : (Nat → Int32)) (C_sampleStandings : (Nat → Int32)) (C_sizes : (Nat → Int32)) (C_ends : (Nat → Int32)) (C_lies : (Nat → Int32)) (C_merged : (Nat → Int32)) (C_reached : (Nat → Int32)) (C_done : (Nat → Int32)) (C_mergedBy : (Nat → Int32)) (C_parts : Int32) (C_samples : Int32) (C_bound : Int32) (C_ticks : Int32) (C_mergedInAll : Int32) (C_mergedAgain : Int32) (O_paces : (Nat → Int32)) (O_up : (Nat → Int32))  {r : Int32} (hf : f_X6_bound N C_parts C_bound  = some r) :
    CtI l yX6_bound wsX6_bound rm_X6_bound (dC, dI) (tyl cI cJ cZ) [.ref (aG 0)] (w_GWHRPCO aG aW aH aR aP aC aO cI cJ cZ W_sorts W_values W_turns W_falling W_count H_items H_size R_members R_starts R_inOrder R_standing R_heads R_tails R_rowsInAll R_made R_all R_filled P_takenRuns P_starts P_queued P_merges P_told C_sampled C_sampleStandings C_sizes C_ends C_lies C_merged C_reached C_done C_mergedBy C_parts C_samples C_bound C_ticks C_mergedInAll C_mergedAgain O_paces O_up) (w_GWHRPCO aG aW aH aR aP aC aO cI cJ cZ W_sorts W_values W_turns W_falling W_count H_items H_size R_members R_starts R_inOrder R_standing R_heads R_tails R_rowsInAll R_made R_all R_filled P_takenRuns P_starts P_queued P_merges P_told C_sampled C_sampleStandings C_sizes C_ends C_lies C_merged C_reached C_done C_mergedBy C_parts C_samples C_bound C_ticks C_mergedInAll C_mergedAgain O_paces O_up) r := by
  refine startI (cc := cX6_bound) (maxL := 1) (rt := (some .int)) (by decide +kernel) rfl (Nat.le_of_ble_eq_true rfl) ?_
  intro p e s m below meth c A ls X hr hlocks hw hl
  replace X : Cx p m c cX6_bound 1 s _ wsX6_bound RX6 (dC, dI) (tyl cI cJ cZ) A := X
  replace hl : lv_has ls 1 [(0, .ref (aG 0))] := hl
  obtain ⟨hx, hb, hml, hown, hts⟩ := X.1
  have hK := X.2.1
  have hN := X.2.2.2
  unfold f_X6_bound at hf
  refine lv_aload_n hx hb dX6_bound_0 rfl (lv_at hl 0 rfl) ?_
  refine va_get (D := (dC, dI)) (ci := 6) (v := .ref (aC 0)) (C := RX6) (T := TX6) (N := 6) hx hb hts i_X6_bound_X6 hown hK hw.1 0 rfl rfl 4 (by decide) (hts _ m_X6_bound_0) (fun _ h9 => h9) rfl dX6_bound_1 ?_
  obtain ⟨r1, h2, hf⟩ := bd1_ob hf
  refine clVI (As := []) (rest := []) X (c_X0_stands l dC dI cI cJ cZ aC N C_sampled C_sampleStandings C_sizes C_ends C_lies C_merged C_reached C_done C_mergedBy C_parts C_samples C_bound C_ticks C_mergedInAll C_mergedAgain h2) (cwV 0 hts gX6_bound_X0_stands rfl rfl rfl (by decide +kernel) ⟨Nat.le_of_ble_eq_true rfl, Nat.le_of_ble_eq_true rfl⟩) (ci := 0) rfl rfl rfl hw [19, 20, 21, 22, 23, 24, 25, 26, 27, 28] rfl rfl rfl rfl hl.1 rfl (Nat.le_of_ble_eq_true rfl) dX6_bound_4 ⟨Nat.zero_le _, Nat.zero_le _⟩ (fun H locs hw => ?_)
  replace hw : Wd (dC, dI) A s.heap H locs (w_GWHRPCO aG aW aH aR aP aC aO cI cJ cZ W_sorts W_values W_turns W_falling W_count H_items H_size R_members R_starts R_inOrder R_standing R_heads R_tails R_rowsInAll R_made R_all R_filled P_takenRuns P_starts P_queued P_merges P_told C_sampled C_sampleStandings C_sizes C_ends C_lies C_merged C_reached C_done C_mergedBy C_parts C_samples C_bound C_ticks C_mergedInAll C_mergedAgain O_paces O_up) := hw
  refine lv_if_eq (tgt := 20) hx hb dX6_bound_7 (by decide) (fun b3 => ?_) (fun b3 => ?_)
  · replace hf := it_t hf b3
    refine lv_iconst (v := (-1)) hx hb dX6_bound_20 (by decide) ?_
    cases hf
    exact endI X hr rfl hlocks rfl hw dX6_bound_21
  · replace hf := it_f hf b3
    refine lv_aload_n hx hb dX6_bound_10 rfl (lv_at hl 0 rfl) ?_
    refine va_get (D := (dC, dI)) (ci := 6) (v := .ref (aC 0)) (C := RX6) (T := TX6) (N := 6) hx hb hts i_X6_bound_X6 hown hK hw.1 0 rfl rfl 4 (by decide) (hts _ m_X6_bound_0) (fun _ h9 => h9) rfl dX6_bound_11 ?_
    refine va_getN (D := (dC, dI)) (ci := 0) (v := .int C_bound) (C := RX0) (T := TX0) (N := 15) hx hb hts i_X6_bound_X0 hown hK hw.1 19 rfl rfl 11 (by decide) (va_Nw.use rfl (hN _ nk_3)) (fun _ h9 => h9) rfl dX6_bound_14 ?_
    refine lv_goto (tgt := 21) hx hb dX6_bound_17 (by decide) ?_
    cases hf
    exact endI X hr rfl hlocks rfl hw dX6_bound_21
def rm_X6_part : Room := { frames := 1, cells := 0, slots := 0, locals := 22 }
set_option maxRecDepth 20000 in
theorem i_X6_part_X6 : ∀ w ∈ u_ws RX6 TX6 6, w ∈ wsX6_part := by decide +kernel
set_option maxRecDepth 20000 in
theorem i_X6_part_X0 : ∀ w ∈ u_ws RX0 TX0 15, w ∈ wsX6_part := by decide +kernel
set_option maxRecDepth 20000 in
theorem m_X6_part_0 : Cond.fieldLink RX6 40 "GreatSort" "cut" "LGreatSort$Cut;" ∈ wsX6_part := by decide +kernel
set_option maxHeartbeats 4000000 in
set_option maxRecDepth 100000 in
theorem c_X6_part (l : Launch) (dC : Nat → ClassId) (dI : Nat → Nat → Nat) (cI cJ cZ : ClassId) (aG aW aH aR aP aC aO : Nat → Nat) (N : Nat) (W_sorts : (Nat → Int32)) (W_values : (Nat → Int32)) (W_turns : (Nat → Int32)) (W_falling : (Nat → Int32)) (W_count : Int32) (H_items : (Nat → Int64)) (H_size : Int32) (R_members : (Nat → Int32)) (R_starts : (Nat → Int32)) (R_inOrder : (Nat → Int32)) (R_standing : (Nat → Int32)) (R_heads : (Nat → Int32)) (R_tails : (Nat → Int32)) (R_rowsInAll : Int32) (R_made : Int32) (R_all : Int32) (R_filled : Int32) (P_takenRuns : (Nat → Int32)) (P_starts : (Nat → Int32)) (P_queued : (Nat → Int32)) (P_merges : Int32) (P_told : Int32) (C_sampled : (Nat → Int32)) (C_sampleStandings : (Nat → Int32)) (C_sizes : (Nat → Int32)) (C_ends : (Nat → Int32)) (C_lies : (Nat → Int32)) (C_merged : (Nat → Int32)) (C_reached : (Nat → Int32)) (C_done : (Nat → Int32)) (C_mergedBy : (Nat → Int32)) (C_parts : Int32) (C_samples : Int32) (C_bound : Int32) (C_ticks : Int32) (C_mergedInAll : Int32) (C_mergedAgain : Int32) (O_paces : (Nat → Int32)) (O_up : (Nat → Int32)) (v1 : Int32) (v2 : Int32) {r : Int32} (hf : f_X6_part N C_sizes C_ends C_lies C_merged C_parts v1 v2 = some r) :
    CtI l yX6_part wsX6_part rm_X6_part (dC, dI) (tyl cI cJ cZ) [.ref (aG 0), .int v1, .int v2] (w_GWHRPCO aG aW aH aR aP aC aO cI cJ cZ W_sorts W_values W_turns W_falling W_count H_items H_size R_members R_starts R_inOrder R_standing R_heads R_tails R_rowsInAll R_made R_all R_filled P_takenRuns P_starts P_queued P_merges P_told C_sampled C_sampleStandings C_sizes C_ends C_lies C_merged C_reached C_done C_mergedBy C_parts C_samples C_bound C_ticks C_mergedInAll C_mergedAgain O_paces O_up) (w_GWHRPCO aG aW aH aR aP aC aO cI cJ cZ W_sorts W_values W_turns W_falling W_count H_items H_size R_members R_starts R_inOrder R_standing R_heads R_tails R_rowsInAll R_made R_all R_filled P_takenRuns P_starts P_queued P_merges P_told C_sampled C_sampleStandings C_sizes C_ends C_lies C_merged C_reached C_done C_mergedBy C_parts C_samples C_bound C_ticks C_mergedInAll C_mergedAgain O_paces O_up) r := by
  refine startI (cc := cX6_part) (maxL := 3) (rt := (some .int)) (by decide +kernel) rfl (Nat.le_of_ble_eq_true rfl) ?_
  intro p e s m below meth c A ls X hr hlocks hw hl
  replace X : Cx p m c cX6_part 3 s _ wsX6_part RX6 (dC, dI) (tyl cI cJ cZ) A := X
  replace hl : lv_has ls 3 [(0, .ref (aG 0)), (1, .int v1), (2, .int v2)] := hl
  obtain ⟨hx, hb, hml, hown, hts⟩ := X.1
  have hK := X.2.1
  have hN := X.2.2.2
  unfold f_X6_part at hf
  refine lv_iload_n hx hb dX6_part_0 rfl (lv_at hl 1 rfl) ?_
  refine lv_iconst (v := 0) hx hb dX6_part_1 (by decide) ?_
  refine lv_aload_n hx hb dX6_part_2 rfl (lv_at hl 0 rfl) ?_
  refine va_get (D := (dC, dI)) (ci := 6) (v := .ref (aC 0)) (C := RX6) (T := TX6) (N := 6) hx hb hts i_X6_part_X6 hown hK hw.1 0 rfl rfl 4 (by decide) (hts _ m_X6_part_0) (fun _ h9 => h9) rfl dX6_part_3 ?_
  refine va_getN (D := (dC, dI)) (ci := 0) (v := .int C_parts) (C := RX0) (T := TX0) (N := 15) hx hb hts i_X6_part_X0 hown hK hw.1 19 rfl rfl 9 (by decide) (va_Nw.use rfl (hN _ nk_4)) (fun _ h9 => h9) rfl dX6_part_6 ?_
  refine lv_iconst (v := 1) hx hb dX6_part_9 (by decide) ?_
  refine lv_isub hx hb dX6_part_10 ?_
  obtain ⟨r1, h2, hf⟩ := bd1_ob hf
  refine clSI (As := [.int v1, .int (0 : Int32), .int (C_parts - 1)]) (rest := []) X (c_X6_isIn l dC dI cI cJ cZ N v1 (0 : Int32) (C_parts - 1) h2) (va_cwS 3 hts gX6_part_X6_isIn rfl rfl rfl (by decide +kernel) ⟨Nat.le_of_ble_eq_true rfl, Nat.le_of_ble_eq_true rfl⟩) hw [] rfl rfl rfl rfl hl.1 rfl (Nat.le_of_ble_eq_true rfl) dX6_part_11 ⟨Nat.zero_le _, Nat.zero_le _⟩ (fun H locs hw => ?_)
  replace hw : Wd (dC, dI) A s.heap H locs (w_GWHRPCO aG aW aH aR aP aC aO cI cJ cZ W_sorts W_values W_turns W_falling W_count H_items H_size R_members R_starts R_inOrder R_standing R_heads R_tails R_rowsInAll R_made R_all R_filled P_takenRuns P_starts P_queued P_merges P_told C_sampled C_sampleStandings C_sizes C_ends C_lies C_merged C_reached C_done C_mergedBy C_parts C_samples C_bound C_ticks C_mergedInAll C_mergedAgain O_paces O_up) := hw
  refine lv_if_ne (tgt := 20) hx hb dX6_part_14 (by decide) (fun b3 => ?_) (fun b3 => ?_)
  · replace hf := it_f hf b3
    refine lv_iload_n hx hb dX6_part_20 rfl (lv_at hl 2 rfl) ?_
    by_cases b4 : v2 = 0
    · replace hf := it_t hf b4
      refine lv_tableIn (tgt := 52) hx hb dX6_part_21 (by rw [b4]; decide) (by rw [b4]; decide) (by rw [b4]; rfl) (by decide) ?_
      refine lv_aload_n hx hb dX6_part_52 rfl (lv_at hl 0 rfl) ?_
      refine va_get (D := (dC, dI)) (ci := 6) (v := .ref (aC 0)) (C := RX6) (T := TX6) (N := 6) hx hb hts i_X6_part_X6 hown hK hw.1 0 rfl rfl 4 (by decide) (hts _ m_X6_part_0) (fun _ h9 => h9) rfl dX6_part_53 ?_
      refine va_getN (D := (dC, dI)) (ci := 0) (v := .ref (aC 3)) (C := RX0) (T := TX0) (N := 15) hx hb hts i_X6_part_X0 hown hK hw.1 19 rfl rfl 2 (by decide) (va_Nw.use rfl (hN _ nk_5)) (fun _ h9 => h9) rfl dX6_part_56 ?_
      refine lv_iload_n hx hb dX6_part_59 rfl (lv_at hl 1 rfl) ?_
      have g5 := ix_in (gd_l hf)
      replace hf := gd_r hf
      refine va_iald hx hb hK hw.1 22 0 rfl rfl g5 dX6_part_60 ?_
      cases hf
      exact endI X hr rfl hlocks rfl hw dX6_part_61
    · replace hf := it_f hf b4
      by_cases b6 : v2 = 1
      · replace hf := it_t hf b6
        refine lv_tableIn (tgt := 62) hx hb dX6_part_21 (by rw [b6]; decide) (by rw [b6]; decide) (by rw [b6]; rfl) (by decide) ?_
        refine lv_aload_n hx hb dX6_part_62 rfl (lv_at hl 0 rfl) ?_
        refine va_get (D := (dC, dI)) (ci := 6) (v := .ref (aC 0)) (C := RX6) (T := TX6) (N := 6) hx hb hts i_X6_part_X6 hown hK hw.1 0 rfl rfl 4 (by decide) (hts _ m_X6_part_0) (fun _ h9 => h9) rfl dX6_part_63 ?_
        refine va_getN (D := (dC, dI)) (ci := 0) (v := .ref (aC 6)) (C := RX0) (T := TX0) (N := 15) hx hb hts i_X6_part_X0 hown hK hw.1 19 rfl rfl 5 (by decide) (va_Nw.use rfl (hN _ nk_6)) (fun _ h9 => h9) rfl dX6_part_66 ?_
        refine lv_iload_n hx hb dX6_part_69 rfl (lv_at hl 1 rfl) ?_
        have g7 := ix_in (gd_l hf)
        replace hf := gd_r hf
        refine va_iald hx hb hK hw.1 25 0 rfl rfl g7 dX6_part_70 ?_
        cases hf
        exact endI X hr rfl hlocks rfl hw dX6_part_71
      · replace hf := it_f hf b6
        by_cases b8 : v2 = 2
        · replace hf := it_t hf b8
          refine lv_tableIn (tgt := 72) hx hb dX6_part_21 (by rw [b8]; decide) (by rw [b8]; decide) (by rw [b8]; rfl) (by decide) ?_
          refine lv_aload_n hx hb dX6_part_72 rfl (lv_at hl 0 rfl) ?_
          refine va_get (D := (dC, dI)) (ci := 6) (v := .ref (aC 0)) (C := RX6) (T := TX6) (N := 6) hx hb hts i_X6_part_X6 hown hK hw.1 0 rfl rfl 4 (by decide) (hts _ m_X6_part_0) (fun _ h9 => h9) rfl dX6_part_73 ?_
          refine va_getN (D := (dC, dI)) (ci := 0) (v := .ref (aC 5)) (C := RX0) (T := TX0) (N := 15) hx hb hts i_X6_part_X0 hown hK hw.1 19 rfl rfl 4 (by decide) (va_Nw.use rfl (hN _ nk_7)) (fun _ h9 => h9) rfl dX6_part_76 ?_
          refine lv_iload_n hx hb dX6_part_79 rfl (lv_at hl 1 rfl) ?_
          have g9 := ix_in (gd_l hf)
          replace hf := gd_r hf
          refine va_iald hx hb hK hw.1 24 0 rfl rfl g9 dX6_part_80 ?_
          cases hf
          exact endI X hr rfl hlocks rfl hw dX6_part_81
        · replace hf := it_f hf b8
          by_cases b10 : v2 = 3
          · replace hf := it_t hf b10
            refine lv_tableIn (tgt := 82) hx hb dX6_part_21 (by rw [b10]; decide) (by rw [b10]; decide) (by rw [b10]; rfl) (by decide) ?_
            refine lv_aload_n hx hb dX6_part_82 rfl (lv_at hl 0 rfl) ?_
            refine va_get (D := (dC, dI)) (ci := 6) (v := .ref (aC 0)) (C := RX6) (T := TX6) (N := 6) hx hb hts i_X6_part_X6 hown hK hw.1 0 rfl rfl 4 (by decide) (hts _ m_X6_part_0) (fun _ h9 => h9) rfl dX6_part_83 ?_
            refine va_getN (D := (dC, dI)) (ci := 0) (v := .ref (aC 4)) (C := RX0) (T := TX0) (N := 15) hx hb hts i_X6_part_X0 hown hK hw.1 19 rfl rfl 3 (by decide) (va_Nw.use rfl (hN _ nk_8)) (fun _ h9 => h9) rfl dX6_part_86 ?_
            refine lv_iload_n hx hb dX6_part_89 rfl (lv_at hl 1 rfl) ?_
            have g11 := ix_in (gd_l hf)
            replace hf := gd_r hf
            refine va_iald hx hb hK hw.1 23 0 rfl rfl g11 dX6_part_90 ?_
            cases hf
            exact endI X hr rfl hlocks rfl hw dX6_part_91
          · replace hf := it_f hf b10
            have n0_21 := lv_neT b4 (a := 0) (by decide)
            have n1_21 := lv_neT b6 (a := 1) (by decide)
            have n2_21 := lv_neT b8 (a := 2) (by decide)
            have n3_21 := lv_neT b10 (a := 3) (by decide)
            refine lv_tableOut (tgt := 92) hx hb dX6_part_21 (by omega) (by decide) ?_
            refine lv_bipush (v := (-2)) hx hb dX6_part_92 (by decide) ?_
            cases hf
            exact endI X hr rfl hlocks rfl hw dX6_part_94
  · replace hf := it_t hf b3
    refine lv_bipush (v := (-2)) hx hb dX6_part_17 (by decide) ?_
    cases hf
    exact endI X hr rfl hlocks rfl hw dX6_part_19
def rm_X6_pace : Room := { frames := 2, cells := 0, slots := 0, locals := 42 }
set_option maxRecDepth 20000 in
theorem i_X6_pace_X6 : ∀ w ∈ u_ws RX6 TX6 6, w ∈ wsX6_pace := by decide +kernel
set_option maxRecDepth 20000 in
theorem i_X6_pace_X2 : ∀ w ∈ u_ws RX2 TX2 2, w ∈ wsX6_pace := by decide +kernel
set_option maxRecDepth 20000 in
theorem m_X6_pace_0 : Cond.fieldLink RX6 47 "GreatSort" "hosts" "LGreatSort$Hosts;" ∈ wsX6_pace := by decide +kernel
set_option maxHeartbeats 4000000 in
set_option maxRecDepth 100000 in
theorem c_X6_pace (l : Launch) (dC : Nat → ClassId) (dI : Nat → Nat → Nat) (cI cJ cZ : ClassId) (aG aW aH aR aP aC aO : Nat → Nat) (N : Nat) (W_sorts : (Nat → Int32)) (W_values : (Nat → Int32)) (W_turns : (Nat → Int32)) (W_falling : (Nat → Int32)) (W_count : Int32) (H_items : (Nat → Int64)) (H_size : Int32) (R_members : (Nat → Int32)) (R_starts : (Nat → Int32)) (R_inOrder : (Nat → Int32)) (R_standing : (Nat → Int32)) (R_heads : (Nat → Int32)) (R_tails : (Nat → Int32)) (R_rowsInAll : Int32) (R_made : Int32) (R_all : Int32) (R_filled : Int32) (P_takenRuns : (Nat → Int32)) (P_starts : (Nat → Int32)) (P_queued : (Nat → Int32)) (P_merges : Int32) (P_told : Int32) (C_sampled : (Nat → Int32)) (C_sampleStandings : (Nat → Int32)) (C_sizes : (Nat → Int32)) (C_ends : (Nat → Int32)) (C_lies : (Nat → Int32)) (C_merged : (Nat → Int32)) (C_reached : (Nat → Int32)) (C_done : (Nat → Int32)) (C_mergedBy : (Nat → Int32)) (C_parts : Int32) (C_samples : Int32) (C_bound : Int32) (C_ticks : Int32) (C_mergedInAll : Int32) (C_mergedAgain : Int32) (O_paces : (Nat → Int32)) (O_up : (Nat → Int32)) (v1 : Int32) (v2 : Int32) {r : Int32} {o_O_paces : (Nat → Int32)} (hf : f_X6_pace N O_paces v1 v2 = some (r, o_O_paces)) :
    CtI l yX6_pace wsX6_pace rm_X6_pace (dC, dI) (tyl cI cJ cZ) [.ref (aG 0), .int v1, .int v2] (w_GWHRPCO aG aW aH aR aP aC aO cI cJ cZ W_sorts W_values W_turns W_falling W_count H_items H_size R_members R_starts R_inOrder R_standing R_heads R_tails R_rowsInAll R_made R_all R_filled P_takenRuns P_starts P_queued P_merges P_told C_sampled C_sampleStandings C_sizes C_ends C_lies C_merged C_reached C_done C_mergedBy C_parts C_samples C_bound C_ticks C_mergedInAll C_mergedAgain O_paces O_up) (w_GWHRPCO aG aW aH aR aP aC aO cI cJ cZ W_sorts W_values W_turns W_falling W_count H_items H_size R_members R_starts R_inOrder R_standing R_heads R_tails R_rowsInAll R_made R_all R_filled P_takenRuns P_starts P_queued P_merges P_told C_sampled C_sampleStandings C_sizes C_ends C_lies C_merged C_reached C_done C_mergedBy C_parts C_samples C_bound C_ticks C_mergedInAll C_mergedAgain o_O_paces O_up) r := by
  refine startI (cc := cX6_pace) (maxL := 3) (rt := (some .boolean)) (by decide +kernel) rfl (Nat.le_of_ble_eq_true rfl) ?_
  intro p e s m below meth c A ls X hr hlocks hw hl
  replace X : Cx p m c cX6_pace 3 s _ wsX6_pace RX6 (dC, dI) (tyl cI cJ cZ) A := X
  replace hl : lv_has ls 3 [(0, .ref (aG 0)), (1, .int v1), (2, .int v2)] := hl
  obtain ⟨hx, hb, hml, hown, hts⟩ := X.1
  have hK := X.2.1
  have hN := X.2.2.2
  unfold f_X6_pace at hf
  refine lv_iload_n hx hb dX6_pace_0 rfl (lv_at hl 1 rfl) ?_
  obtain ⟨r1, h2, hf⟩ := bd1_ob hf
  refine clSI (As := [.int v1]) (rest := []) X (c_X6_isHost l dC dI cI cJ cZ N v1 h2) (va_cwS 1 hts gX6_pace_X6_isHost rfl rfl rfl (by decide +kernel) ⟨Nat.le_of_ble_eq_true rfl, Nat.le_of_ble_eq_true rfl⟩) hw [] rfl rfl rfl rfl hl.1 rfl (Nat.le_of_ble_eq_true rfl) dX6_pace_1 ⟨Nat.zero_le _, Nat.zero_le _⟩ (fun H locs hw => ?_)
  replace hw : Wd (dC, dI) A s.heap H locs (w_GWHRPCO aG aW aH aR aP aC aO cI cJ cZ W_sorts W_values W_turns W_falling W_count H_items H_size R_members R_starts R_inOrder R_standing R_heads R_tails R_rowsInAll R_made R_all R_filled P_takenRuns P_starts P_queued P_merges P_told C_sampled C_sampleStandings C_sizes C_ends C_lies C_merged C_reached C_done C_mergedBy C_parts C_samples C_bound C_ticks C_mergedInAll C_mergedAgain O_paces O_up) := hw
  refine lv_if_eq (tgt := 17) hx hb dX6_pace_4 (by decide) (fun b3 => ?_) (fun b3 => ?_)
  · replace hf := it_t hf b3
    refine lv_iconst (v := 0) hx hb dX6_pace_17 (by decide) ?_
    have g4 := bz_nar (gd_l hf)
    replace hf := gd_r hf
    cases hf
    exact endI X hr g4 hlocks rfl hw dX6_pace_18
  · replace hf := it_f hf b3
    refine lv_iload_n hx hb dX6_pace_7 rfl (lv_at hl 2 rfl) ?_
    refine lv_iconst (v := 0) hx hb dX6_pace_8 (by decide) ?_
    refine lv_bipush (v := 50) hx hb dX6_pace_9 (by decide) ?_
    obtain ⟨r5, h6, hf⟩ := bd1_ob hf
    refine clSI (As := [.int v2, .int (0 : Int32), .int (50 : Int32)]) (rest := []) X (c_X6_isIn l dC dI cI cJ cZ N v2 (0 : Int32) (50 : Int32) h6) (va_cwS 3 hts gX6_pace_X6_isIn rfl rfl rfl (by decide +kernel) ⟨Nat.le_of_ble_eq_true rfl, Nat.le_of_ble_eq_true rfl⟩) hw [] rfl rfl rfl rfl hl.1 rfl (Nat.le_of_ble_eq_true rfl) dX6_pace_11 ⟨Nat.zero_le _, Nat.zero_le _⟩ (fun H locs hw => ?_)
    replace hw : Wd (dC, dI) A s.heap H locs (w_GWHRPCO aG aW aH aR aP aC aO cI cJ cZ W_sorts W_values W_turns W_falling W_count H_items H_size R_members R_starts R_inOrder R_standing R_heads R_tails R_rowsInAll R_made R_all R_filled P_takenRuns P_starts P_queued P_merges P_told C_sampled C_sampleStandings C_sizes C_ends C_lies C_merged C_reached C_done C_mergedBy C_parts C_samples C_bound C_ticks C_mergedInAll C_mergedAgain O_paces O_up) := hw
    refine lv_if_ne (tgt := 19) hx hb dX6_pace_14 (by decide) (fun b7 => ?_) (fun b7 => ?_)
    · replace hf := it_f hf b7
      refine lv_aload_n hx hb dX6_pace_19 rfl (lv_at hl 0 rfl) ?_
      refine va_get (D := (dC, dI)) (ci := 6) (v := .ref (aO 0)) (C := RX6) (T := TX6) (N := 6) hx hb hts i_X6_pace_X6 hown hK hw.1 0 rfl rfl 5 (by decide) (hts _ m_X6_pace_0) (fun _ h9 => h9) rfl dX6_pace_20 ?_
      refine va_getN (D := (dC, dI)) (ci := 2) (v := .ref (aO 1)) (C := RX2) (T := TX2) (N := 2) hx hb hts i_X6_pace_X2 hown hK hw.1 29 rfl rfl 0 (by decide) (va_Nw.use rfl (hN _ nk_9)) (fun _ h9 => h9) rfl dX6_pace_23 ?_
      refine lv_iload_n hx hb dX6_pace_26 rfl (lv_at hl 1 rfl) ?_
      refine lv_iload_n hx hb dX6_pace_27 rfl (lv_at hl 2 rfl) ?_
      have g8 := ix_in (gd_l hf)
      replace hf := gd_r hf
      refine g_iast hx hb hK hw 30 0 rfl rfl g8 dX6_pace_28 (fun H locs hw => ?_)
      replace hw : Wd (dC, dI) A s.heap H locs (w_GWHRPCO aG aW aH aR aP aC aO cI cJ cZ W_sorts W_values W_turns W_falling W_count H_items H_size R_members R_starts R_inOrder R_standing R_heads R_tails R_rowsInAll R_made R_all R_filled P_takenRuns P_starts P_queued P_merges P_told C_sampled C_sampleStandings C_sizes C_ends C_lies C_merged C_reached C_done C_mergedBy C_parts C_samples C_bound C_ticks C_mergedInAll C_mergedAgain (upd O_paces v1.toNatClampNeg v2) O_up) := hw
      refine lv_iconst (v := 1) hx hb dX6_pace_29 (by decide) ?_
      have g9 := bz_nar (gd_l hf)
      replace hf := gd_r hf
      cases hf
      exact endI X hr g9 hlocks rfl hw dX6_pace_30
    · replace hf := it_t hf b7
      refine lv_iconst (v := 0) hx hb dX6_pace_17 (by decide) ?_
      have g10 := bz_nar (gd_l hf)
      replace hf := gd_r hf
      cases hf
      exact endI X hr g10 hlocks rfl hw dX6_pace_18
def rm_X6_fall : Room := { frames := 3, cells := 0, slots := 0, locals := 72 }
set_option maxRecDepth 20000 in
theorem i_X6_fall_X6 : ∀ w ∈ u_ws RX6 TX6 6, w ∈ wsX6_fall := by decide +kernel
set_option maxRecDepth 20000 in
theorem i_X6_fall_X2 : ∀ w ∈ u_ws RX2 TX2 2, w ∈ wsX6_fall := by decide +kernel
set_option maxRecDepth 20000 in
theorem m_X6_fall_0 : Cond.fieldLink RX6 47 "GreatSort" "hosts" "LGreatSort$Hosts;" ∈ wsX6_fall := by decide +kernel
set_option maxRecDepth 20000 in
theorem m_X6_fall_1 : Cond.fieldLink RX6 40 "GreatSort" "cut" "LGreatSort$Cut;" ∈ wsX6_fall := by decide +kernel
set_option maxHeartbeats 4000000 in
set_option maxRecDepth 100000 in
theorem c_X6_fall (l : Launch) (dC : Nat → ClassId) (dI : Nat → Nat → Nat) (cI cJ cZ : ClassId) (aG aW aH aR aP aC aO : Nat → Nat) (N : Nat) (W_sorts : (Nat → Int32)) (W_values : (Nat → Int32)) (W_turns : (Nat → Int32)) (W_falling : (Nat → Int32)) (W_count : Int32) (H_items : (Nat → Int64)) (H_size : Int32) (R_members : (Nat → Int32)) (R_starts : (Nat → Int32)) (R_inOrder : (Nat → Int32)) (R_standing : (Nat → Int32)) (R_heads : (Nat → Int32)) (R_tails : (Nat → Int32)) (R_rowsInAll : Int32) (R_made : Int32) (R_all : Int32) (R_filled : Int32) (P_takenRuns : (Nat → Int32)) (P_starts : (Nat → Int32)) (P_queued : (Nat → Int32)) (P_merges : Int32) (P_told : Int32) (C_sampled : (Nat → Int32)) (C_sampleStandings : (Nat → Int32)) (C_sizes : (Nat → Int32)) (C_ends : (Nat → Int32)) (C_lies : (Nat → Int32)) (C_merged : (Nat → Int32)) (C_reached : (Nat → Int32)) (C_done : (Nat → Int32)) (C_mergedBy : (Nat → Int32)) (C_parts : Int32) (C_samples : Int32) (C_bound : Int32) (C_ticks : Int32) (C_mergedInAll : Int32) (C_mergedAgain : Int32) (O_paces : (Nat → Int32)) (O_up : (Nat → Int32)) (v1 : Int32) {r : Int32} {o_C_lies : (Nat → Int32)} {o_C_merged : (Nat → Int32)} {o_C_done : (Nat → Int32)} {o_O_up : (Nat → Int32)} (hf : f_X6_fall N C_sizes C_lies C_merged C_done C_parts O_up v1 = some (r, o_C_lies, o_C_merged, o_C_done, o_O_up)) :
    CtI l yX6_fall wsX6_fall rm_X6_fall (dC, dI) (tyl cI cJ cZ) [.ref (aG 0), .int v1] (w_GWHRPCO aG aW aH aR aP aC aO cI cJ cZ W_sorts W_values W_turns W_falling W_count H_items H_size R_members R_starts R_inOrder R_standing R_heads R_tails R_rowsInAll R_made R_all R_filled P_takenRuns P_starts P_queued P_merges P_told C_sampled C_sampleStandings C_sizes C_ends C_lies C_merged C_reached C_done C_mergedBy C_parts C_samples C_bound C_ticks C_mergedInAll C_mergedAgain O_paces O_up) (w_GWHRPCO aG aW aH aR aP aC aO cI cJ cZ W_sorts W_values W_turns W_falling W_count H_items H_size R_members R_starts R_inOrder R_standing R_heads R_tails R_rowsInAll R_made R_all R_filled P_takenRuns P_starts P_queued P_merges P_told C_sampled C_sampleStandings C_sizes C_ends o_C_lies o_C_merged C_reached o_C_done C_mergedBy C_parts C_samples C_bound C_ticks C_mergedInAll C_mergedAgain O_paces o_O_up) r := by
  refine startI (cc := cX6_fall) (maxL := 2) (rt := (some .int)) (by decide +kernel) rfl (Nat.le_of_ble_eq_true rfl) ?_
  intro p e s m below meth c A ls X hr hlocks hw hl
  replace X : Cx p m c cX6_fall 2 s _ wsX6_fall RX6 (dC, dI) (tyl cI cJ cZ) A := X
  replace hl : lv_has ls 2 [(0, .ref (aG 0)), (1, .int v1)] := hl
  obtain ⟨hx, hb, hml, hown, hts⟩ := X.1
  have hK := X.2.1
  have hN := X.2.2.2
  unfold f_X6_fall at hf
  refine lv_iload_n hx hb dX6_fall_0 rfl (lv_at hl 1 rfl) ?_
  obtain ⟨r1, h2, hf⟩ := bd1_ob hf
  refine clSI (As := [.int v1]) (rest := []) X (c_X6_isHost l dC dI cI cJ cZ N v1 h2) (va_cwS 1 hts gX6_fall_X6_isHost rfl rfl rfl (by decide +kernel) ⟨Nat.le_of_ble_eq_true rfl, Nat.le_of_ble_eq_true rfl⟩) hw [] rfl rfl rfl rfl hl.1 rfl (Nat.le_of_ble_eq_true rfl) dX6_fall_1 ⟨Nat.zero_le _, Nat.zero_le _⟩ (fun H locs hw => ?_)
  replace hw : Wd (dC, dI) A s.heap H locs (w_GWHRPCO aG aW aH aR aP aC aO cI cJ cZ W_sorts W_values W_turns W_falling W_count H_items H_size R_members R_starts R_inOrder R_standing R_heads R_tails R_rowsInAll R_made R_all R_filled P_takenRuns P_starts P_queued P_merges P_told C_sampled C_sampleStandings C_sizes C_ends C_lies C_merged C_reached C_done C_mergedBy C_parts C_samples C_bound C_ticks C_mergedInAll C_mergedAgain O_paces O_up) := hw
  refine lv_if_eq (tgt := 19) hx hb dX6_fall_4 (by decide) (fun b3 => ?_) (fun b3 => ?_)
  · replace hf := it_t hf b3
    refine lv_iconst (v := (-1)) hx hb dX6_fall_19 (by decide) ?_
    cases hf
    exact endI X hr rfl hlocks rfl hw dX6_fall_20
  · replace hf := it_f hf b3
    refine lv_aload_n hx hb dX6_fall_7 rfl (lv_at hl 0 rfl) ?_
    refine va_get (D := (dC, dI)) (ci := 6) (v := .ref (aO 0)) (C := RX6) (T := TX6) (N := 6) hx hb hts i_X6_fall_X6 hown hK hw.1 0 rfl rfl 5 (by decide) (hts _ m_X6_fall_0) (fun _ h9 => h9) rfl dX6_fall_8 ?_
    refine va_getN (D := (dC, dI)) (ci := 2) (v := .ref (aO 2)) (C := RX2) (T := TX2) (N := 2) hx hb hts i_X6_fall_X2 hown hK hw.1 29 rfl rfl 1 (by decide) (va_Nw.use rfl (hN _ nk_10)) (fun _ h9 => h9) rfl dX6_fall_11 ?_
    refine lv_iload_n hx hb dX6_fall_14 rfl (lv_at hl 1 rfl) ?_
    have g4 := ix_in (gd_l hf)
    replace hf := gd_r hf
    refine va_zald hx hb hK hw.1 31 2 rfl rfl g4 dX6_fall_15 ?_
    refine lv_if_ne (tgt := 21) hx hb dX6_fall_16 (by decide) (fun b5 => ?_) (fun b5 => ?_)
    · replace hf := it_f hf b5
      refine lv_aload_n hx hb dX6_fall_21 rfl (lv_at hl 0 rfl) ?_
      refine va_get (D := (dC, dI)) (ci := 6) (v := .ref (aO 0)) (C := RX6) (T := TX6) (N := 6) hx hb hts i_X6_fall_X6 hown hK hw.1 0 rfl rfl 5 (by decide) (hts _ m_X6_fall_0) (fun _ h9 => h9) rfl dX6_fall_22 ?_
      refine va_getN (D := (dC, dI)) (ci := 2) (v := .ref (aO 2)) (C := RX2) (T := TX2) (N := 2) hx hb hts i_X6_fall_X2 hown hK hw.1 29 rfl rfl 1 (by decide) (va_Nw.use rfl (hN _ nk_10)) (fun _ h9 => h9) rfl dX6_fall_25 ?_
      refine lv_iload_n hx hb dX6_fall_28 rfl (lv_at hl 1 rfl) ?_
      refine lv_iconst (v := 0) hx hb dX6_fall_29 (by decide) ?_
      have g6 := ix_in (gd_l hf)
      replace hf := gd_r hf
      refine g_zast hx hb hK hw 31 2 rfl rfl g6 dX6_fall_30 (fun H locs hw => ?_)
      replace hw : Wd (dC, dI) A s.heap H locs (w_GWHRPCO aG aW aH aR aP aC aO cI cJ cZ W_sorts W_values W_turns W_falling W_count H_items H_size R_members R_starts R_inOrder R_standing R_heads R_tails R_rowsInAll R_made R_all R_filled P_takenRuns P_starts P_queued P_merges P_told C_sampled C_sampleStandings C_sizes C_ends C_lies C_merged C_reached C_done C_mergedBy C_parts C_samples C_bound C_ticks C_mergedInAll C_mergedAgain O_paces (upd O_up v1.toNatClampNeg (vp_nar .boolean 0))) := hw
      refine lv_aload_n hx hb dX6_fall_31 rfl (lv_at hl 0 rfl) ?_
      refine va_get (D := (dC, dI)) (ci := 6) (v := .ref (aC 0)) (C := RX6) (T := TX6) (N := 6) hx hb hts i_X6_fall_X6 hown hK hw.1 0 rfl rfl 4 (by decide) (hts _ m_X6_fall_1) (fun _ h9 => h9) rfl dX6_fall_32 ?_
      refine lv_iload_n hx hb dX6_fall_35 rfl (lv_at hl 1 rfl) ?_
      refine lv_aload_n hx hb dX6_fall_36 rfl (lv_at hl 0 rfl) ?_
      refine va_get (D := (dC, dI)) (ci := 6) (v := .ref (aO 0)) (C := RX6) (T := TX6) (N := 6) hx hb hts i_X6_fall_X6 hown hK hw.1 0 rfl rfl 5 (by decide) (hts _ m_X6_fall_0) (fun _ h9 => h9) rfl dX6_fall_37 ?_
      obtain ⟨r7, c8, c9, c10, h11, hf⟩ := bd4_ob hf
      refine clVI (As := [.int v1, .ref (aO 0)]) (rest := []) X (c_X0_moveFrom l dC dI cI cJ cZ aC aO N C_sampled C_sampleStandings C_sizes C_ends C_lies C_merged C_reached C_done C_mergedBy C_parts C_samples C_bound C_ticks C_mergedInAll C_mergedAgain O_paces (upd O_up v1.toNatClampNeg (vp_nar .boolean 0)) v1 h11) (cwV 2 hts gX6_fall_X0_moveFrom rfl rfl rfl (by decide +kernel) ⟨Nat.le_of_ble_eq_true rfl, Nat.le_of_ble_eq_true rfl⟩) (ci := 0) rfl rfl rfl hw [19, 20, 21, 22, 23, 24, 25, 26, 27, 28, 29, 30, 31] rfl rfl rfl rfl hl.1 rfl (Nat.le_of_ble_eq_true rfl) dX6_fall_40 ⟨Nat.zero_le _, Nat.zero_le _⟩ (fun H locs hw => ?_)
      replace hw : Wd (dC, dI) A s.heap H locs (w_GWHRPCO aG aW aH aR aP aC aO cI cJ cZ W_sorts W_values W_turns W_falling W_count H_items H_size R_members R_starts R_inOrder R_standing R_heads R_tails R_rowsInAll R_made R_all R_filled P_takenRuns P_starts P_queued P_merges P_told C_sampled C_sampleStandings C_sizes C_ends c8 c9 C_reached c10 C_mergedBy C_parts C_samples C_bound C_ticks C_mergedInAll C_mergedAgain O_paces (upd O_up v1.toNatClampNeg (vp_nar .boolean 0))) := hw
      cases hf
      exact endI X hr rfl hlocks rfl hw dX6_fall_43
    · replace hf := it_t hf b5
      refine lv_iconst (v := (-1)) hx hb dX6_fall_19 (by decide) ?_
      cases hf
      exact endI X hr rfl hlocks rfl hw dX6_fall_20
def rm_X6_rise : Room := { frames := 2, cells := 0, slots := 0, locals := 42 }
set_option maxRecDepth 20000 in
theorem i_X6_rise_X6 : ∀ w ∈ u_ws RX6 TX6 6, w ∈ wsX6_rise := by decide +kernel
set_option maxRecDepth 20000 in
theorem i_X6_rise_X2 : ∀ w ∈ u_ws RX2 TX2 2, w ∈ wsX6_rise := by decide +kernel
set_option maxRecDepth 20000 in
theorem m_X6_rise_0 : Cond.fieldLink RX6 47 "GreatSort" "hosts" "LGreatSort$Hosts;" ∈ wsX6_rise := by decide +kernel
set_option maxRecDepth 20000 in
theorem m_X6_rise_1 : Cond.fieldLink RX6 40 "GreatSort" "cut" "LGreatSort$Cut;" ∈ wsX6_rise := by decide +kernel
set_option maxHeartbeats 4000000 in
set_option maxRecDepth 100000 in
theorem c_X6_rise (l : Launch) (dC : Nat → ClassId) (dI : Nat → Nat → Nat) (cI cJ cZ : ClassId) (aG aW aH aR aP aC aO : Nat → Nat) (N : Nat) (W_sorts : (Nat → Int32)) (W_values : (Nat → Int32)) (W_turns : (Nat → Int32)) (W_falling : (Nat → Int32)) (W_count : Int32) (H_items : (Nat → Int64)) (H_size : Int32) (R_members : (Nat → Int32)) (R_starts : (Nat → Int32)) (R_inOrder : (Nat → Int32)) (R_standing : (Nat → Int32)) (R_heads : (Nat → Int32)) (R_tails : (Nat → Int32)) (R_rowsInAll : Int32) (R_made : Int32) (R_all : Int32) (R_filled : Int32) (P_takenRuns : (Nat → Int32)) (P_starts : (Nat → Int32)) (P_queued : (Nat → Int32)) (P_merges : Int32) (P_told : Int32) (C_sampled : (Nat → Int32)) (C_sampleStandings : (Nat → Int32)) (C_sizes : (Nat → Int32)) (C_ends : (Nat → Int32)) (C_lies : (Nat → Int32)) (C_merged : (Nat → Int32)) (C_reached : (Nat → Int32)) (C_done : (Nat → Int32)) (C_mergedBy : (Nat → Int32)) (C_parts : Int32) (C_samples : Int32) (C_bound : Int32) (C_ticks : Int32) (C_mergedInAll : Int32) (C_mergedAgain : Int32) (O_paces : (Nat → Int32)) (O_up : (Nat → Int32)) (v1 : Int32) {r : Int32} {o_C_lies : (Nat → Int32)} {o_O_up : (Nat → Int32)} (hf : f_X6_rise N C_lies C_parts O_up v1 = some (r, o_C_lies, o_O_up)) :
    CtI l yX6_rise wsX6_rise rm_X6_rise (dC, dI) (tyl cI cJ cZ) [.ref (aG 0), .int v1] (w_GWHRPCO aG aW aH aR aP aC aO cI cJ cZ W_sorts W_values W_turns W_falling W_count H_items H_size R_members R_starts R_inOrder R_standing R_heads R_tails R_rowsInAll R_made R_all R_filled P_takenRuns P_starts P_queued P_merges P_told C_sampled C_sampleStandings C_sizes C_ends C_lies C_merged C_reached C_done C_mergedBy C_parts C_samples C_bound C_ticks C_mergedInAll C_mergedAgain O_paces O_up) (w_GWHRPCO aG aW aH aR aP aC aO cI cJ cZ W_sorts W_values W_turns W_falling W_count H_items H_size R_members R_starts R_inOrder R_standing R_heads R_tails R_rowsInAll R_made R_all R_filled P_takenRuns P_starts P_queued P_merges P_told C_sampled C_sampleStandings C_sizes C_ends o_C_lies C_merged C_reached C_done C_mergedBy C_parts C_samples C_bound C_ticks C_mergedInAll C_mergedAgain O_paces o_O_up) r := by
  refine startI (cc := cX6_rise) (maxL := 2) (rt := (some .int)) (by decide +kernel) rfl (Nat.le_of_ble_eq_true rfl) ?_
  intro p e s m below meth c A ls X hr hlocks hw hl
  replace X : Cx p m c cX6_rise 2 s _ wsX6_rise RX6 (dC, dI) (tyl cI cJ cZ) A := X
  replace hl : lv_has ls 2 [(0, .ref (aG 0)), (1, .int v1)] := hl
  obtain ⟨hx, hb, hml, hown, hts⟩ := X.1
  have hK := X.2.1
  have hN := X.2.2.2
  unfold f_X6_rise at hf
  refine lv_iload_n hx hb dX6_rise_0 rfl (lv_at hl 1 rfl) ?_
  obtain ⟨r1, h2, hf⟩ := bd1_ob hf
  refine clSI (As := [.int v1]) (rest := []) X (c_X6_isHost l dC dI cI cJ cZ N v1 h2) (va_cwS 1 hts gX6_rise_X6_isHost rfl rfl rfl (by decide +kernel) ⟨Nat.le_of_ble_eq_true rfl, Nat.le_of_ble_eq_true rfl⟩) hw [] rfl rfl rfl rfl hl.1 rfl (Nat.le_of_ble_eq_true rfl) dX6_rise_1 ⟨Nat.zero_le _, Nat.zero_le _⟩ (fun H locs hw => ?_)
  replace hw : Wd (dC, dI) A s.heap H locs (w_GWHRPCO aG aW aH aR aP aC aO cI cJ cZ W_sorts W_values W_turns W_falling W_count H_items H_size R_members R_starts R_inOrder R_standing R_heads R_tails R_rowsInAll R_made R_all R_filled P_takenRuns P_starts P_queued P_merges P_told C_sampled C_sampleStandings C_sizes C_ends C_lies C_merged C_reached C_done C_mergedBy C_parts C_samples C_bound C_ticks C_mergedInAll C_mergedAgain O_paces O_up) := hw
  refine lv_if_eq (tgt := 19) hx hb dX6_rise_4 (by decide) (fun b3 => ?_) (fun b3 => ?_)
  · replace hf := it_t hf b3
    refine lv_iconst (v := (-1)) hx hb dX6_rise_19 (by decide) ?_
    cases hf
    exact endI X hr rfl hlocks rfl hw dX6_rise_20
  · replace hf := it_f hf b3
    refine lv_aload_n hx hb dX6_rise_7 rfl (lv_at hl 0 rfl) ?_
    refine va_get (D := (dC, dI)) (ci := 6) (v := .ref (aO 0)) (C := RX6) (T := TX6) (N := 6) hx hb hts i_X6_rise_X6 hown hK hw.1 0 rfl rfl 5 (by decide) (hts _ m_X6_rise_0) (fun _ h9 => h9) rfl dX6_rise_8 ?_
    refine va_getN (D := (dC, dI)) (ci := 2) (v := .ref (aO 2)) (C := RX2) (T := TX2) (N := 2) hx hb hts i_X6_rise_X2 hown hK hw.1 29 rfl rfl 1 (by decide) (va_Nw.use rfl (hN _ nk_10)) (fun _ h9 => h9) rfl dX6_rise_11 ?_
    refine lv_iload_n hx hb dX6_rise_14 rfl (lv_at hl 1 rfl) ?_
    have g4 := ix_in (gd_l hf)
    replace hf := gd_r hf
    refine va_zald hx hb hK hw.1 31 2 rfl rfl g4 dX6_rise_15 ?_
    refine lv_if_eq (tgt := 21) hx hb dX6_rise_16 (by decide) (fun b5 => ?_) (fun b5 => ?_)
    · replace hf := it_t hf b5
      refine lv_aload_n hx hb dX6_rise_21 rfl (lv_at hl 0 rfl) ?_
      refine va_get (D := (dC, dI)) (ci := 6) (v := .ref (aO 0)) (C := RX6) (T := TX6) (N := 6) hx hb hts i_X6_rise_X6 hown hK hw.1 0 rfl rfl 5 (by decide) (hts _ m_X6_rise_0) (fun _ h9 => h9) rfl dX6_rise_22 ?_
      refine va_getN (D := (dC, dI)) (ci := 2) (v := .ref (aO 2)) (C := RX2) (T := TX2) (N := 2) hx hb hts i_X6_rise_X2 hown hK hw.1 29 rfl rfl 1 (by decide) (va_Nw.use rfl (hN _ nk_10)) (fun _ h9 => h9) rfl dX6_rise_25 ?_
      refine lv_iload_n hx hb dX6_rise_28 rfl (lv_at hl 1 rfl) ?_
      refine lv_iconst (v := 1) hx hb dX6_rise_29 (by decide) ?_
      have g6 := ix_in (gd_l hf)
      replace hf := gd_r hf
      refine g_zast hx hb hK hw 31 2 rfl rfl g6 dX6_rise_30 (fun H locs hw => ?_)
      replace hw : Wd (dC, dI) A s.heap H locs (w_GWHRPCO aG aW aH aR aP aC aO cI cJ cZ W_sorts W_values W_turns W_falling W_count H_items H_size R_members R_starts R_inOrder R_standing R_heads R_tails R_rowsInAll R_made R_all R_filled P_takenRuns P_starts P_queued P_merges P_told C_sampled C_sampleStandings C_sizes C_ends C_lies C_merged C_reached C_done C_mergedBy C_parts C_samples C_bound C_ticks C_mergedInAll C_mergedAgain O_paces (upd O_up v1.toNatClampNeg (vp_nar .boolean 1))) := hw
      refine lv_aload_n hx hb dX6_rise_31 rfl (lv_at hl 0 rfl) ?_
      refine va_get (D := (dC, dI)) (ci := 6) (v := .ref (aC 0)) (C := RX6) (T := TX6) (N := 6) hx hb hts i_X6_rise_X6 hown hK hw.1 0 rfl rfl 4 (by decide) (hts _ m_X6_rise_1) (fun _ h9 => h9) rfl dX6_rise_32 ?_
      refine lv_iload_n hx hb dX6_rise_35 rfl (lv_at hl 1 rfl) ?_
      obtain ⟨r7, c8, h9, hf⟩ := bd2_ob hf
      refine clVI (As := [.int v1]) (rest := []) X (c_X0_bringTo l dC dI cI cJ cZ aC N C_sampled C_sampleStandings C_sizes C_ends C_lies C_merged C_reached C_done C_mergedBy C_parts C_samples C_bound C_ticks C_mergedInAll C_mergedAgain v1 h9) (cwV 1 hts gX6_rise_X0_bringTo rfl rfl rfl (by decide +kernel) ⟨Nat.le_of_ble_eq_true rfl, Nat.le_of_ble_eq_true rfl⟩) (ci := 0) rfl rfl rfl hw [19, 20, 21, 22, 23, 24, 25, 26, 27, 28] rfl rfl rfl rfl hl.1 rfl (Nat.le_of_ble_eq_true rfl) dX6_rise_36 ⟨Nat.zero_le _, Nat.zero_le _⟩ (fun H locs hw => ?_)
      replace hw : Wd (dC, dI) A s.heap H locs (w_GWHRPCO aG aW aH aR aP aC aO cI cJ cZ W_sorts W_values W_turns W_falling W_count H_items H_size R_members R_starts R_inOrder R_standing R_heads R_tails R_rowsInAll R_made R_all R_filled P_takenRuns P_starts P_queued P_merges P_told C_sampled C_sampleStandings C_sizes C_ends c8 C_merged C_reached C_done C_mergedBy C_parts C_samples C_bound C_ticks C_mergedInAll C_mergedAgain O_paces (upd O_up v1.toNatClampNeg (vp_nar .boolean 1))) := hw
      cases hf
      exact endI X hr rfl hlocks rfl hw dX6_rise_39
    · replace hf := it_f hf b5
      refine lv_iconst (v := (-1)) hx hb dX6_rise_19 (by decide) ?_
      cases hf
      exact endI X hr rfl hlocks rfl hw dX6_rise_20
def rm_X6_host : Room := { frames := 2, cells := 0, slots := 0, locals := 42 }
set_option maxRecDepth 20000 in
theorem i_X6_host_X6 : ∀ w ∈ u_ws RX6 TX6 6, w ∈ wsX6_host := by decide +kernel
set_option maxRecDepth 20000 in
theorem i_X6_host_X2 : ∀ w ∈ u_ws RX2 TX2 2, w ∈ wsX6_host := by decide +kernel
set_option maxRecDepth 20000 in
theorem i_X6_host_X0 : ∀ w ∈ u_ws RX0 TX0 15, w ∈ wsX6_host := by decide +kernel
set_option maxRecDepth 20000 in
theorem m_X6_host_0 : Cond.fieldLink RX6 47 "GreatSort" "hosts" "LGreatSort$Hosts;" ∈ wsX6_host := by decide +kernel
set_option maxRecDepth 20000 in
theorem m_X6_host_1 : Cond.fieldLink RX6 40 "GreatSort" "cut" "LGreatSort$Cut;" ∈ wsX6_host := by decide +kernel
set_option maxHeartbeats 4000000 in
set_option maxRecDepth 100000 in
theorem c_X6_host (l : Launch) (dC : Nat → ClassId) (dI : Nat → Nat → Nat) (cI cJ cZ : ClassId) (aG aW aH aR aP aC aO : Nat → Nat) (N : Nat) (W_sorts : (Nat → Int32)) (W_values : (Nat → Int32)) (W_turns : (Nat → Int32)) (W_falling : (Nat → Int32)) (W_count : Int32) (H_items : (Nat → Int64)) (H_size : Int32) (R_members : (Nat → Int32)) (R_starts : (Nat → Int32)) (R_inOrder : (Nat → Int32)) (R_standing : (Nat → Int32)) (R_heads : (Nat → Int32)) (R_tails : (Nat → Int32)) (R_rowsInAll : Int32) (R_made : Int32) (R_all : Int32) (R_filled : Int32) (P_takenRuns : (Nat → Int32)) (P_starts : (Nat → Int32)) (P_queued : (Nat → Int32)) (P_merges : Int32) (P_told : Int32) (C_sampled : (Nat → Int32)) (C_sampleStandings : (Nat → Int32)) (C_sizes : (Nat → Int32)) (C_ends : (Nat → Int32)) (C_lies : (Nat → Int32)) (C_merged : (Nat → Int32)) (C_reached : (Nat → Int32)) (C_done : (Nat → Int32)) (C_mergedBy : (Nat → Int32)) (C_parts : Int32) (C_samples : Int32) (C_bound : Int32) (C_ticks : Int32) (C_mergedInAll : Int32) (C_mergedAgain : Int32) (O_paces : (Nat → Int32)) (O_up : (Nat → Int32)) (v1 : Int32) (v2 : Int32) {r : Int32} (hf : f_X6_host N C_sizes C_lies C_merged C_mergedBy C_parts O_paces O_up v1 v2 = some r) :
    CtI l yX6_host wsX6_host rm_X6_host (dC, dI) (tyl cI cJ cZ) [.ref (aG 0), .int v1, .int v2] (w_GWHRPCO aG aW aH aR aP aC aO cI cJ cZ W_sorts W_values W_turns W_falling W_count H_items H_size R_members R_starts R_inOrder R_standing R_heads R_tails R_rowsInAll R_made R_all R_filled P_takenRuns P_starts P_queued P_merges P_told C_sampled C_sampleStandings C_sizes C_ends C_lies C_merged C_reached C_done C_mergedBy C_parts C_samples C_bound C_ticks C_mergedInAll C_mergedAgain O_paces O_up) (w_GWHRPCO aG aW aH aR aP aC aO cI cJ cZ W_sorts W_values W_turns W_falling W_count H_items H_size R_members R_starts R_inOrder R_standing R_heads R_tails R_rowsInAll R_made R_all R_filled P_takenRuns P_starts P_queued P_merges P_told C_sampled C_sampleStandings C_sizes C_ends C_lies C_merged C_reached C_done C_mergedBy C_parts C_samples C_bound C_ticks C_mergedInAll C_mergedAgain O_paces O_up) r := by
  refine startI (cc := cX6_host) (maxL := 3) (rt := (some .int)) (by decide +kernel) rfl (Nat.le_of_ble_eq_true rfl) ?_
  intro p e s m below meth c A ls X hr hlocks hw hl
  replace X : Cx p m c cX6_host 3 s _ wsX6_host RX6 (dC, dI) (tyl cI cJ cZ) A := X
  replace hl : lv_has ls 3 [(0, .ref (aG 0)), (1, .int v1), (2, .int v2)] := hl
  obtain ⟨hx, hb, hml, hown, hts⟩ := X.1
  have hK := X.2.1
  have hN := X.2.2.2
  unfold f_X6_host at hf
  refine lv_iload_n hx hb dX6_host_0 rfl (lv_at hl 1 rfl) ?_
  obtain ⟨r1, h2, hf⟩ := bd1_ob hf
  refine clSI (As := [.int v1]) (rest := []) X (c_X6_isHost l dC dI cI cJ cZ N v1 h2) (va_cwS 1 hts gX6_host_X6_isHost rfl rfl rfl (by decide +kernel) ⟨Nat.le_of_ble_eq_true rfl, Nat.le_of_ble_eq_true rfl⟩) hw [] rfl rfl rfl rfl hl.1 rfl (Nat.le_of_ble_eq_true rfl) dX6_host_1 ⟨Nat.zero_le _, Nat.zero_le _⟩ (fun H locs hw => ?_)
  replace hw : Wd (dC, dI) A s.heap H locs (w_GWHRPCO aG aW aH aR aP aC aO cI cJ cZ W_sorts W_values W_turns W_falling W_count H_items H_size R_members R_starts R_inOrder R_standing R_heads R_tails R_rowsInAll R_made R_all R_filled P_takenRuns P_starts P_queued P_merges P_told C_sampled C_sampleStandings C_sizes C_ends C_lies C_merged C_reached C_done C_mergedBy C_parts C_samples C_bound C_ticks C_mergedInAll C_mergedAgain O_paces O_up) := hw
  refine lv_if_ne (tgt := 9) hx hb dX6_host_4 (by decide) (fun b3 => ?_) (fun b3 => ?_)
  · replace hf := it_f hf b3
    refine lv_iload_n hx hb dX6_host_9 rfl (lv_at hl 2 rfl) ?_
    by_cases b4 : v2 = 0
    · replace hf := it_t hf b4
      refine lv_tableIn (tgt := 44) hx hb dX6_host_10 (by rw [b4]; decide) (by rw [b4]; decide) (by rw [b4]; rfl) (by decide) ?_
      refine lv_aload_n hx hb dX6_host_44 rfl (lv_at hl 0 rfl) ?_
      refine va_get (D := (dC, dI)) (ci := 6) (v := .ref (aO 0)) (C := RX6) (T := TX6) (N := 6) hx hb hts i_X6_host_X6 hown hK hw.1 0 rfl rfl 5 (by decide) (hts _ m_X6_host_0) (fun _ h9 => h9) rfl dX6_host_45 ?_
      refine va_getN (D := (dC, dI)) (ci := 2) (v := .ref (aO 1)) (C := RX2) (T := TX2) (N := 2) hx hb hts i_X6_host_X2 hown hK hw.1 29 rfl rfl 0 (by decide) (va_Nw.use rfl (hN _ nk_9)) (fun _ h9 => h9) rfl dX6_host_48 ?_
      refine lv_iload_n hx hb dX6_host_51 rfl (lv_at hl 1 rfl) ?_
      have g5 := ix_in (gd_l hf)
      replace hf := gd_r hf
      refine va_iald hx hb hK hw.1 30 0 rfl rfl g5 dX6_host_52 ?_
      cases hf
      exact endI X hr rfl hlocks rfl hw dX6_host_53
    · replace hf := it_f hf b4
      by_cases b6 : v2 = 1
      · replace hf := it_t hf b6
        refine lv_tableIn (tgt := 54) hx hb dX6_host_10 (by rw [b6]; decide) (by rw [b6]; decide) (by rw [b6]; rfl) (by decide) ?_
        refine lv_aload_n hx hb dX6_host_54 rfl (lv_at hl 0 rfl) ?_
        refine va_get (D := (dC, dI)) (ci := 6) (v := .ref (aO 0)) (C := RX6) (T := TX6) (N := 6) hx hb hts i_X6_host_X6 hown hK hw.1 0 rfl rfl 5 (by decide) (hts _ m_X6_host_0) (fun _ h9 => h9) rfl dX6_host_55 ?_
        refine va_getN (D := (dC, dI)) (ci := 2) (v := .ref (aO 2)) (C := RX2) (T := TX2) (N := 2) hx hb hts i_X6_host_X2 hown hK hw.1 29 rfl rfl 1 (by decide) (va_Nw.use rfl (hN _ nk_10)) (fun _ h9 => h9) rfl dX6_host_58 ?_
        refine lv_iload_n hx hb dX6_host_61 rfl (lv_at hl 1 rfl) ?_
        have g7 := ix_in (gd_l hf)
        replace hf := gd_r hf
        refine va_zald hx hb hK hw.1 31 2 rfl rfl g7 dX6_host_62 ?_
        refine lv_if_eq (tgt := 70) hx hb dX6_host_63 (by decide) (fun b8 => ?_) (fun b8 => ?_)
        · replace hf := it_t hf b8
          refine lv_iconst (v := 0) hx hb dX6_host_70 (by decide) ?_
          cases hf
          exact endI X hr rfl hlocks rfl hw dX6_host_71
        · replace hf := it_f hf b8
          refine lv_iconst (v := 1) hx hb dX6_host_66 (by decide) ?_
          refine lv_goto (tgt := 71) hx hb dX6_host_67 (by decide) ?_
          cases hf
          exact endI X hr rfl hlocks rfl hw dX6_host_71
      · replace hf := it_f hf b6
        by_cases b9 : v2 = 2
        · replace hf := it_t hf b9
          refine lv_tableIn (tgt := 72) hx hb dX6_host_10 (by rw [b9]; decide) (by rw [b9]; decide) (by rw [b9]; rfl) (by decide) ?_
          refine lv_aload_n hx hb dX6_host_72 rfl (lv_at hl 0 rfl) ?_
          refine va_get (D := (dC, dI)) (ci := 6) (v := .ref (aC 0)) (C := RX6) (T := TX6) (N := 6) hx hb hts i_X6_host_X6 hown hK hw.1 0 rfl rfl 4 (by decide) (hts _ m_X6_host_1) (fun _ h9 => h9) rfl dX6_host_73 ?_
          refine lv_iload_n hx hb dX6_host_76 rfl (lv_at hl 1 rfl) ?_
          obtain ⟨r10, h11, hf⟩ := bd1_ob hf
          refine clVI (As := [.int v1]) (rest := []) X (c_X0_partsOn l dC dI cI cJ cZ aC N C_sampled C_sampleStandings C_sizes C_ends C_lies C_merged C_reached C_done C_mergedBy C_parts C_samples C_bound C_ticks C_mergedInAll C_mergedAgain v1 h11) (cwV 1 hts gX6_host_X0_partsOn rfl rfl rfl (by decide +kernel) ⟨Nat.le_of_ble_eq_true rfl, Nat.le_of_ble_eq_true rfl⟩) (ci := 0) rfl rfl rfl hw [19, 20, 21, 22, 23, 24, 25, 26, 27, 28] rfl rfl rfl rfl hl.1 rfl (Nat.le_of_ble_eq_true rfl) dX6_host_77 ⟨Nat.zero_le _, Nat.zero_le _⟩ (fun H locs hw => ?_)
          replace hw : Wd (dC, dI) A s.heap H locs (w_GWHRPCO aG aW aH aR aP aC aO cI cJ cZ W_sorts W_values W_turns W_falling W_count H_items H_size R_members R_starts R_inOrder R_standing R_heads R_tails R_rowsInAll R_made R_all R_filled P_takenRuns P_starts P_queued P_merges P_told C_sampled C_sampleStandings C_sizes C_ends C_lies C_merged C_reached C_done C_mergedBy C_parts C_samples C_bound C_ticks C_mergedInAll C_mergedAgain O_paces O_up) := hw
          cases hf
          exact endI X hr rfl hlocks rfl hw dX6_host_80
        · replace hf := it_f hf b9
          by_cases b12 : v2 = 3
          · replace hf := it_t hf b12
            refine lv_tableIn (tgt := 81) hx hb dX6_host_10 (by rw [b12]; decide) (by rw [b12]; decide) (by rw [b12]; rfl) (by decide) ?_
            refine lv_aload_n hx hb dX6_host_81 rfl (lv_at hl 0 rfl) ?_
            refine va_get (D := (dC, dI)) (ci := 6) (v := .ref (aC 0)) (C := RX6) (T := TX6) (N := 6) hx hb hts i_X6_host_X6 hown hK hw.1 0 rfl rfl 4 (by decide) (hts _ m_X6_host_1) (fun _ h9 => h9) rfl dX6_host_82 ?_
            refine lv_iload_n hx hb dX6_host_85 rfl (lv_at hl 1 rfl) ?_
            obtain ⟨r13, h14, hf⟩ := bd1_ob hf
            refine clVI (As := [.int v1]) (rest := []) X (c_X0_leftOn l dC dI cI cJ cZ aC N C_sampled C_sampleStandings C_sizes C_ends C_lies C_merged C_reached C_done C_mergedBy C_parts C_samples C_bound C_ticks C_mergedInAll C_mergedAgain v1 h14) (cwV 1 hts gX6_host_X0_leftOn rfl rfl rfl (by decide +kernel) ⟨Nat.le_of_ble_eq_true rfl, Nat.le_of_ble_eq_true rfl⟩) (ci := 0) rfl rfl rfl hw [19, 20, 21, 22, 23, 24, 25, 26, 27, 28] rfl rfl rfl rfl hl.1 rfl (Nat.le_of_ble_eq_true rfl) dX6_host_86 ⟨Nat.zero_le _, Nat.zero_le _⟩ (fun H locs hw => ?_)
            replace hw : Wd (dC, dI) A s.heap H locs (w_GWHRPCO aG aW aH aR aP aC aO cI cJ cZ W_sorts W_values W_turns W_falling W_count H_items H_size R_members R_starts R_inOrder R_standing R_heads R_tails R_rowsInAll R_made R_all R_filled P_takenRuns P_starts P_queued P_merges P_told C_sampled C_sampleStandings C_sizes C_ends C_lies C_merged C_reached C_done C_mergedBy C_parts C_samples C_bound C_ticks C_mergedInAll C_mergedAgain O_paces O_up) := hw
            cases hf
            exact endI X hr rfl hlocks rfl hw dX6_host_89
          · replace hf := it_f hf b12
            by_cases b15 : v2 = 4
            · replace hf := it_t hf b15
              refine lv_tableIn (tgt := 90) hx hb dX6_host_10 (by rw [b15]; decide) (by rw [b15]; decide) (by rw [b15]; rfl) (by decide) ?_
              refine lv_aload_n hx hb dX6_host_90 rfl (lv_at hl 0 rfl) ?_
              refine va_get (D := (dC, dI)) (ci := 6) (v := .ref (aC 0)) (C := RX6) (T := TX6) (N := 6) hx hb hts i_X6_host_X6 hown hK hw.1 0 rfl rfl 4 (by decide) (hts _ m_X6_host_1) (fun _ h9 => h9) rfl dX6_host_91 ?_
              refine va_getN (D := (dC, dI)) (ci := 0) (v := .ref (aC 9)) (C := RX0) (T := TX0) (N := 15) hx hb hts i_X6_host_X0 hown hK hw.1 19 rfl rfl 8 (by decide) (va_Nw.use rfl (hN _ nk_11)) (fun _ h9 => h9) rfl dX6_host_94 ?_
              refine lv_iload_n hx hb dX6_host_97 rfl (lv_at hl 1 rfl) ?_
              have g16 := ix_in (gd_l hf)
              replace hf := gd_r hf
              refine va_iald hx hb hK hw.1 28 0 rfl rfl g16 dX6_host_98 ?_
              cases hf
              exact endI X hr rfl hlocks rfl hw dX6_host_99
            · replace hf := it_f hf b15
              have n0_10 := lv_neT b4 (a := 0) (by decide)
              have n1_10 := lv_neT b6 (a := 1) (by decide)
              have n2_10 := lv_neT b9 (a := 2) (by decide)
              have n3_10 := lv_neT b12 (a := 3) (by decide)
              have n4_10 := lv_neT b15 (a := 4) (by decide)
              refine lv_tableOut (tgt := 100) hx hb dX6_host_10 (by omega) (by decide) ?_
              refine lv_iconst (v := (-1)) hx hb dX6_host_100 (by decide) ?_
              cases hf
              exact endI X hr rfl hlocks rfl hw dX6_host_101
  · replace hf := it_t hf b3
    refine lv_iconst (v := (-1)) hx hb dX6_host_7 (by decide) ?_
    cases hf
    exact endI X hr rfl hlocks rfl hw dX6_host_8
def rm_X6_tick : Room := { frames := 4, cells := 0, slots := 0, locals := 91 }
set_option maxRecDepth 20000 in
theorem i_X6_tick_X6 : ∀ w ∈ u_ws RX6 TX6 6, w ∈ wsX6_tick := by decide +kernel
set_option maxRecDepth 20000 in
theorem m_X6_tick_0 : Cond.fieldLink RX6 40 "GreatSort" "cut" "LGreatSort$Cut;" ∈ wsX6_tick := by decide +kernel
set_option maxRecDepth 20000 in
theorem m_X6_tick_1 : Cond.fieldLink RX6 47 "GreatSort" "hosts" "LGreatSort$Hosts;" ∈ wsX6_tick := by decide +kernel
set_option maxHeartbeats 4000000 in
set_option maxRecDepth 100000 in
theorem c_X6_tick (l : Launch) (dC : Nat → ClassId) (dI : Nat → Nat → Nat) (cI cJ cZ : ClassId) (aG aW aH aR aP aC aO : Nat → Nat) (N : Nat) (W_sorts : (Nat → Int32)) (W_values : (Nat → Int32)) (W_turns : (Nat → Int32)) (W_falling : (Nat → Int32)) (W_count : Int32) (H_items : (Nat → Int64)) (H_size : Int32) (R_members : (Nat → Int32)) (R_starts : (Nat → Int32)) (R_inOrder : (Nat → Int32)) (R_standing : (Nat → Int32)) (R_heads : (Nat → Int32)) (R_tails : (Nat → Int32)) (R_rowsInAll : Int32) (R_made : Int32) (R_all : Int32) (R_filled : Int32) (P_takenRuns : (Nat → Int32)) (P_starts : (Nat → Int32)) (P_queued : (Nat → Int32)) (P_merges : Int32) (P_told : Int32) (C_sampled : (Nat → Int32)) (C_sampleStandings : (Nat → Int32)) (C_sizes : (Nat → Int32)) (C_ends : (Nat → Int32)) (C_lies : (Nat → Int32)) (C_merged : (Nat → Int32)) (C_reached : (Nat → Int32)) (C_done : (Nat → Int32)) (C_mergedBy : (Nat → Int32)) (C_parts : Int32) (C_samples : Int32) (C_bound : Int32) (C_ticks : Int32) (C_mergedInAll : Int32) (C_mergedAgain : Int32) (O_paces : (Nat → Int32)) (O_up : (Nat → Int32))  {r : Int32} {o_C_merged : (Nat → Int32)} {o_C_reached : (Nat → Int32)} {o_C_done : (Nat → Int32)} {o_C_mergedBy : (Nat → Int32)} {o_C_ticks : Int32} {o_C_mergedInAll : Int32} {o_C_mergedAgain : Int32} (hf : f_X6_tick N C_sizes C_lies C_merged C_reached C_done C_mergedBy C_parts C_ticks C_mergedInAll C_mergedAgain O_paces O_up  = some (r, o_C_merged, o_C_reached, o_C_done, o_C_mergedBy, o_C_ticks, o_C_mergedInAll, o_C_mergedAgain)) :
    CtI l yX6_tick wsX6_tick rm_X6_tick (dC, dI) (tyl cI cJ cZ) [.ref (aG 0)] (w_GWHRPCO aG aW aH aR aP aC aO cI cJ cZ W_sorts W_values W_turns W_falling W_count H_items H_size R_members R_starts R_inOrder R_standing R_heads R_tails R_rowsInAll R_made R_all R_filled P_takenRuns P_starts P_queued P_merges P_told C_sampled C_sampleStandings C_sizes C_ends C_lies C_merged C_reached C_done C_mergedBy C_parts C_samples C_bound C_ticks C_mergedInAll C_mergedAgain O_paces O_up) (w_GWHRPCO aG aW aH aR aP aC aO cI cJ cZ W_sorts W_values W_turns W_falling W_count H_items H_size R_members R_starts R_inOrder R_standing R_heads R_tails R_rowsInAll R_made R_all R_filled P_takenRuns P_starts P_queued P_merges P_told C_sampled C_sampleStandings C_sizes C_ends C_lies o_C_merged o_C_reached o_C_done o_C_mergedBy C_parts C_samples C_bound o_C_ticks o_C_mergedInAll o_C_mergedAgain O_paces O_up) r := by
  refine startI (cc := cX6_tick) (maxL := 1) (rt := (some .int)) (by decide +kernel) rfl (Nat.le_of_ble_eq_true rfl) ?_
  intro p e s m below meth c A ls X hr hlocks hw hl
  replace X : Cx p m c cX6_tick 1 s _ wsX6_tick RX6 (dC, dI) (tyl cI cJ cZ) A := X
  replace hl : lv_has ls 1 [(0, .ref (aG 0))] := hl
  obtain ⟨hx, hb, hml, hown, hts⟩ := X.1
  have hK := X.2.1
  have hN := X.2.2.2
  unfold f_X6_tick at hf
  refine lv_aload_n hx hb dX6_tick_0 rfl (lv_at hl 0 rfl) ?_
  refine va_get (D := (dC, dI)) (ci := 6) (v := .ref (aC 0)) (C := RX6) (T := TX6) (N := 6) hx hb hts i_X6_tick_X6 hown hK hw.1 0 rfl rfl 4 (by decide) (hts _ m_X6_tick_0) (fun _ h9 => h9) rfl dX6_tick_1 ?_
  obtain ⟨r1, h2, hf⟩ := bd1_ob hf
  refine clVI (As := []) (rest := []) X (c_X0_stands l dC dI cI cJ cZ aC N C_sampled C_sampleStandings C_sizes C_ends C_lies C_merged C_reached C_done C_mergedBy C_parts C_samples C_bound C_ticks C_mergedInAll C_mergedAgain h2) (cwV 0 hts gX6_tick_X0_stands rfl rfl rfl (by decide +kernel) ⟨Nat.le_of_ble_eq_true rfl, Nat.le_of_ble_eq_true rfl⟩) (ci := 0) rfl rfl rfl hw [19, 20, 21, 22, 23, 24, 25, 26, 27, 28] rfl rfl rfl rfl hl.1 rfl (Nat.le_of_ble_eq_true rfl) dX6_tick_4 ⟨Nat.zero_le _, Nat.zero_le _⟩ (fun H locs hw => ?_)
  replace hw : Wd (dC, dI) A s.heap H locs (w_GWHRPCO aG aW aH aR aP aC aO cI cJ cZ W_sorts W_values W_turns W_falling W_count H_items H_size R_members R_starts R_inOrder R_standing R_heads R_tails R_rowsInAll R_made R_all R_filled P_takenRuns P_starts P_queued P_merges P_told C_sampled C_sampleStandings C_sizes C_ends C_lies C_merged C_reached C_done C_mergedBy C_parts C_samples C_bound C_ticks C_mergedInAll C_mergedAgain O_paces O_up) := hw
  refine lv_if_eq (tgt := 24) hx hb dX6_tick_7 (by decide) (fun b3 => ?_) (fun b3 => ?_)
  · replace hf := it_t hf b3
    refine lv_iconst (v := (-1)) hx hb dX6_tick_24 (by decide) ?_
    cases hf
    exact endI X hr rfl hlocks rfl hw dX6_tick_25
  · replace hf := it_f hf b3
    refine lv_aload_n hx hb dX6_tick_10 rfl (lv_at hl 0 rfl) ?_
    refine va_get (D := (dC, dI)) (ci := 6) (v := .ref (aC 0)) (C := RX6) (T := TX6) (N := 6) hx hb hts i_X6_tick_X6 hown hK hw.1 0 rfl rfl 4 (by decide) (hts _ m_X6_tick_0) (fun _ h9 => h9) rfl dX6_tick_11 ?_
    refine lv_aload_n hx hb dX6_tick_14 rfl (lv_at hl 0 rfl) ?_
    refine va_get (D := (dC, dI)) (ci := 6) (v := .ref (aO 0)) (C := RX6) (T := TX6) (N := 6) hx hb hts i_X6_tick_X6 hown hK hw.1 0 rfl rfl 5 (by decide) (hts _ m_X6_tick_1) (fun _ h9 => h9) rfl dX6_tick_15 ?_
    obtain ⟨r4, c5, c6, c7, c8, c9, c10, c11, h12, hf⟩ := bd8_ob hf
    refine clVI (As := [.ref (aO 0)]) (rest := []) X (c_X0_goOn l dC dI cI cJ cZ aC aO N C_sampled C_sampleStandings C_sizes C_ends C_lies C_merged C_reached C_done C_mergedBy C_parts C_samples C_bound C_ticks C_mergedInAll C_mergedAgain O_paces O_up h12) (cwV 1 hts gX6_tick_X0_goOn rfl rfl rfl (by decide +kernel) ⟨Nat.le_of_ble_eq_true rfl, Nat.le_of_ble_eq_true rfl⟩) (ci := 0) rfl rfl rfl hw [19, 20, 21, 22, 23, 24, 25, 26, 27, 28, 29, 30, 31] rfl rfl rfl rfl hl.1 rfl (Nat.le_of_ble_eq_true rfl) dX6_tick_18 ⟨Nat.zero_le _, Nat.zero_le _⟩ (fun H locs hw => ?_)
    replace hw : Wd (dC, dI) A s.heap H locs (w_GWHRPCO aG aW aH aR aP aC aO cI cJ cZ W_sorts W_values W_turns W_falling W_count H_items H_size R_members R_starts R_inOrder R_standing R_heads R_tails R_rowsInAll R_made R_all R_filled P_takenRuns P_starts P_queued P_merges P_told C_sampled C_sampleStandings C_sizes C_ends C_lies c5 c6 c7 c8 C_parts C_samples C_bound c9 c10 c11 O_paces O_up) := hw
    refine lv_goto (tgt := 25) hx hb dX6_tick_21 (by decide) ?_
    cases hf
    exact endI X hr rfl hlocks rfl hw dX6_tick_25
def rm_X6_work : Room := { frames := 2, cells := 0, slots := 0, locals := 42 }
set_option maxRecDepth 20000 in
theorem i_X6_work_X6 : ∀ w ∈ u_ws RX6 TX6 6, w ∈ wsX6_work := by decide +kernel
set_option maxRecDepth 20000 in
theorem i_X6_work_X0 : ∀ w ∈ u_ws RX0 TX0 15, w ∈ wsX6_work := by decide +kernel
set_option maxRecDepth 20000 in
theorem m_X6_work_0 : Cond.fieldLink RX6 40 "GreatSort" "cut" "LGreatSort$Cut;" ∈ wsX6_work := by decide +kernel
set_option maxHeartbeats 4000000 in
set_option maxRecDepth 100000 in
theorem c_X6_work (l : Launch) (dC : Nat → ClassId) (dI : Nat → Nat → Nat) (cI cJ cZ : ClassId) (aG aW aH aR aP aC aO : Nat → Nat) (N : Nat) (W_sorts : (Nat → Int32)) (W_values : (Nat → Int32)) (W_turns : (Nat → Int32)) (W_falling : (Nat → Int32)) (W_count : Int32) (H_items : (Nat → Int64)) (H_size : Int32) (R_members : (Nat → Int32)) (R_starts : (Nat → Int32)) (R_inOrder : (Nat → Int32)) (R_standing : (Nat → Int32)) (R_heads : (Nat → Int32)) (R_tails : (Nat → Int32)) (R_rowsInAll : Int32) (R_made : Int32) (R_all : Int32) (R_filled : Int32) (P_takenRuns : (Nat → Int32)) (P_starts : (Nat → Int32)) (P_queued : (Nat → Int32)) (P_merges : Int32) (P_told : Int32) (C_sampled : (Nat → Int32)) (C_sampleStandings : (Nat → Int32)) (C_sizes : (Nat → Int32)) (C_ends : (Nat → Int32)) (C_lies : (Nat → Int32)) (C_merged : (Nat → Int32)) (C_reached : (Nat → Int32)) (C_done : (Nat → Int32)) (C_mergedBy : (Nat → Int32)) (C_parts : Int32) (C_samples : Int32) (C_bound : Int32) (C_ticks : Int32) (C_mergedInAll : Int32) (C_mergedAgain : Int32) (O_paces : (Nat → Int32)) (O_up : (Nat → Int32)) (v1 : Int32) {r : Int32} (hf : f_X6_work N C_done C_parts C_ticks C_mergedInAll C_mergedAgain v1 = some r) :
    CtI l yX6_work wsX6_work rm_X6_work (dC, dI) (tyl cI cJ cZ) [.ref (aG 0), .int v1] (w_GWHRPCO aG aW aH aR aP aC aO cI cJ cZ W_sorts W_values W_turns W_falling W_count H_items H_size R_members R_starts R_inOrder R_standing R_heads R_tails R_rowsInAll R_made R_all R_filled P_takenRuns P_starts P_queued P_merges P_told C_sampled C_sampleStandings C_sizes C_ends C_lies C_merged C_reached C_done C_mergedBy C_parts C_samples C_bound C_ticks C_mergedInAll C_mergedAgain O_paces O_up) (w_GWHRPCO aG aW aH aR aP aC aO cI cJ cZ W_sorts W_values W_turns W_falling W_count H_items H_size R_members R_starts R_inOrder R_standing R_heads R_tails R_rowsInAll R_made R_all R_filled P_takenRuns P_starts P_queued P_merges P_told C_sampled C_sampleStandings C_sizes C_ends C_lies C_merged C_reached C_done C_mergedBy C_parts C_samples C_bound C_ticks C_mergedInAll C_mergedAgain O_paces O_up) r := by
  refine startI (cc := cX6_work) (maxL := 2) (rt := (some .int)) (by decide +kernel) rfl (Nat.le_of_ble_eq_true rfl) ?_
  intro p e s m below meth c A ls X hr hlocks hw hl
  replace X : Cx p m c cX6_work 2 s _ wsX6_work RX6 (dC, dI) (tyl cI cJ cZ) A := X
  replace hl : lv_has ls 2 [(0, .ref (aG 0)), (1, .int v1)] := hl
  obtain ⟨hx, hb, hml, hown, hts⟩ := X.1
  have hK := X.2.1
  have hN := X.2.2.2
  unfold f_X6_work at hf
  refine lv_aload_n hx hb dX6_work_0 rfl (lv_at hl 0 rfl) ?_
  refine va_get (D := (dC, dI)) (ci := 6) (v := .ref (aC 0)) (C := RX6) (T := TX6) (N := 6) hx hb hts i_X6_work_X6 hown hK hw.1 0 rfl rfl 4 (by decide) (hts _ m_X6_work_0) (fun _ h9 => h9) rfl dX6_work_1 ?_
  obtain ⟨r1, h2, hf⟩ := bd1_ob hf
  refine clVI (As := []) (rest := []) X (c_X0_stands l dC dI cI cJ cZ aC N C_sampled C_sampleStandings C_sizes C_ends C_lies C_merged C_reached C_done C_mergedBy C_parts C_samples C_bound C_ticks C_mergedInAll C_mergedAgain h2) (cwV 0 hts gX6_work_X0_stands rfl rfl rfl (by decide +kernel) ⟨Nat.le_of_ble_eq_true rfl, Nat.le_of_ble_eq_true rfl⟩) (ci := 0) rfl rfl rfl hw [19, 20, 21, 22, 23, 24, 25, 26, 27, 28] rfl rfl rfl rfl hl.1 rfl (Nat.le_of_ble_eq_true rfl) dX6_work_4 ⟨Nat.zero_le _, Nat.zero_le _⟩ (fun H locs hw => ?_)
  replace hw : Wd (dC, dI) A s.heap H locs (w_GWHRPCO aG aW aH aR aP aC aO cI cJ cZ W_sorts W_values W_turns W_falling W_count H_items H_size R_members R_starts R_inOrder R_standing R_heads R_tails R_rowsInAll R_made R_all R_filled P_takenRuns P_starts P_queued P_merges P_told C_sampled C_sampleStandings C_sizes C_ends C_lies C_merged C_reached C_done C_mergedBy C_parts C_samples C_bound C_ticks C_mergedInAll C_mergedAgain O_paces O_up) := hw
  refine lv_if_ne (tgt := 12) hx hb dX6_work_7 (by decide) (fun b3 => ?_) (fun b3 => ?_)
  · replace hf := it_f hf b3
    refine lv_iload_n hx hb dX6_work_12 rfl (lv_at hl 1 rfl) ?_
    by_cases b4 : v1 = 0
    · replace hf := it_t hf b4
      refine lv_tableIn (tgt := 48) hx hb dX6_work_13 (by rw [b4]; decide) (by rw [b4]; decide) (by rw [b4]; rfl) (by decide) ?_
      refine lv_aload_n hx hb dX6_work_48 rfl (lv_at hl 0 rfl) ?_
      refine va_get (D := (dC, dI)) (ci := 6) (v := .ref (aC 0)) (C := RX6) (T := TX6) (N := 6) hx hb hts i_X6_work_X6 hown hK hw.1 0 rfl rfl 4 (by decide) (hts _ m_X6_work_0) (fun _ h9 => h9) rfl dX6_work_49 ?_
      refine va_getN (D := (dC, dI)) (ci := 0) (v := .int C_ticks) (C := RX0) (T := TX0) (N := 15) hx hb hts i_X6_work_X0 hown hK hw.1 19 rfl rfl 12 (by decide) (va_Nw.use rfl (hN _ nk_12)) (fun _ h9 => h9) rfl dX6_work_52 ?_
      cases hf
      exact endI X hr rfl hlocks rfl hw dX6_work_55
    · replace hf := it_f hf b4
      by_cases b5 : v1 = 1
      · replace hf := it_t hf b5
        refine lv_tableIn (tgt := 56) hx hb dX6_work_13 (by rw [b5]; decide) (by rw [b5]; decide) (by rw [b5]; rfl) (by decide) ?_
        refine lv_aload_n hx hb dX6_work_56 rfl (lv_at hl 0 rfl) ?_
        refine va_get (D := (dC, dI)) (ci := 6) (v := .ref (aC 0)) (C := RX6) (T := TX6) (N := 6) hx hb hts i_X6_work_X6 hown hK hw.1 0 rfl rfl 4 (by decide) (hts _ m_X6_work_0) (fun _ h9 => h9) rfl dX6_work_57 ?_
        refine va_getN (D := (dC, dI)) (ci := 0) (v := .int C_mergedInAll) (C := RX0) (T := TX0) (N := 15) hx hb hts i_X6_work_X0 hown hK hw.1 19 rfl rfl 13 (by decide) (va_Nw.use rfl (hN _ nk_13)) (fun _ h9 => h9) rfl dX6_work_60 ?_
        cases hf
        exact endI X hr rfl hlocks rfl hw dX6_work_63
      · replace hf := it_f hf b5
        by_cases b6 : v1 = 2
        · replace hf := it_t hf b6
          refine lv_tableIn (tgt := 64) hx hb dX6_work_13 (by rw [b6]; decide) (by rw [b6]; decide) (by rw [b6]; rfl) (by decide) ?_
          refine lv_aload_n hx hb dX6_work_64 rfl (lv_at hl 0 rfl) ?_
          refine va_get (D := (dC, dI)) (ci := 6) (v := .ref (aC 0)) (C := RX6) (T := TX6) (N := 6) hx hb hts i_X6_work_X6 hown hK hw.1 0 rfl rfl 4 (by decide) (hts _ m_X6_work_0) (fun _ h9 => h9) rfl dX6_work_65 ?_
          refine va_getN (D := (dC, dI)) (ci := 0) (v := .int C_mergedAgain) (C := RX0) (T := TX0) (N := 15) hx hb hts i_X6_work_X0 hown hK hw.1 19 rfl rfl 14 (by decide) (va_Nw.use rfl (hN _ nk_14)) (fun _ h9 => h9) rfl dX6_work_68 ?_
          cases hf
          exact endI X hr rfl hlocks rfl hw dX6_work_71
        · replace hf := it_f hf b6
          by_cases b7 : v1 = 3
          · replace hf := it_t hf b7
            refine lv_tableIn (tgt := 72) hx hb dX6_work_13 (by rw [b7]; decide) (by rw [b7]; decide) (by rw [b7]; rfl) (by decide) ?_
            refine lv_aload_n hx hb dX6_work_72 rfl (lv_at hl 0 rfl) ?_
            refine va_get (D := (dC, dI)) (ci := 6) (v := .ref (aC 0)) (C := RX6) (T := TX6) (N := 6) hx hb hts i_X6_work_X6 hown hK hw.1 0 rfl rfl 4 (by decide) (hts _ m_X6_work_0) (fun _ h9 => h9) rfl dX6_work_73 ?_
            obtain ⟨r8, h9, hf⟩ := bd1_ob hf
            refine clVI (As := []) (rest := []) X (c_X0_partsDone l dC dI cI cJ cZ aC N C_sampled C_sampleStandings C_sizes C_ends C_lies C_merged C_reached C_done C_mergedBy C_parts C_samples C_bound C_ticks C_mergedInAll C_mergedAgain h9) (cwV 0 hts gX6_work_X0_partsDone rfl rfl rfl (by decide +kernel) ⟨Nat.le_of_ble_eq_true rfl, Nat.le_of_ble_eq_true rfl⟩) (ci := 0) rfl rfl rfl hw [19, 20, 21, 22, 23, 24, 25, 26, 27, 28] rfl rfl rfl rfl hl.1 rfl (Nat.le_of_ble_eq_true rfl) dX6_work_76 ⟨Nat.zero_le _, Nat.zero_le _⟩ (fun H locs hw => ?_)
            replace hw : Wd (dC, dI) A s.heap H locs (w_GWHRPCO aG aW aH aR aP aC aO cI cJ cZ W_sorts W_values W_turns W_falling W_count H_items H_size R_members R_starts R_inOrder R_standing R_heads R_tails R_rowsInAll R_made R_all R_filled P_takenRuns P_starts P_queued P_merges P_told C_sampled C_sampleStandings C_sizes C_ends C_lies C_merged C_reached C_done C_mergedBy C_parts C_samples C_bound C_ticks C_mergedInAll C_mergedAgain O_paces O_up) := hw
            cases hf
            exact endI X hr rfl hlocks rfl hw dX6_work_79
          · replace hf := it_f hf b7
            by_cases b10 : v1 = 4
            · replace hf := it_t hf b10
              refine lv_tableIn (tgt := 80) hx hb dX6_work_13 (by rw [b10]; decide) (by rw [b10]; decide) (by rw [b10]; rfl) (by decide) ?_
              refine lv_aload_n hx hb dX6_work_80 rfl (lv_at hl 0 rfl) ?_
              refine va_get (D := (dC, dI)) (ci := 6) (v := .ref (aC 0)) (C := RX6) (T := TX6) (N := 6) hx hb hts i_X6_work_X6 hown hK hw.1 0 rfl rfl 4 (by decide) (hts _ m_X6_work_0) (fun _ h9 => h9) rfl dX6_work_81 ?_
              obtain ⟨r11, h12, hf⟩ := bd1_ob hf
              refine clVI (As := []) (rest := []) X (c_X0_isAtEnd l dC dI cI cJ cZ aC N C_sampled C_sampleStandings C_sizes C_ends C_lies C_merged C_reached C_done C_mergedBy C_parts C_samples C_bound C_ticks C_mergedInAll C_mergedAgain h12) (cwV 0 hts gX6_work_X0_isAtEnd rfl rfl rfl (by decide +kernel) ⟨Nat.le_of_ble_eq_true rfl, Nat.le_of_ble_eq_true rfl⟩) (ci := 0) rfl rfl rfl hw [19, 20, 21, 22, 23, 24, 25, 26, 27, 28] rfl rfl rfl rfl hl.1 rfl (Nat.le_of_ble_eq_true rfl) dX6_work_84 ⟨Nat.zero_le _, Nat.zero_le _⟩ (fun H locs hw => ?_)
              replace hw : Wd (dC, dI) A s.heap H locs (w_GWHRPCO aG aW aH aR aP aC aO cI cJ cZ W_sorts W_values W_turns W_falling W_count H_items H_size R_members R_starts R_inOrder R_standing R_heads R_tails R_rowsInAll R_made R_all R_filled P_takenRuns P_starts P_queued P_merges P_told C_sampled C_sampleStandings C_sizes C_ends C_lies C_merged C_reached C_done C_mergedBy C_parts C_samples C_bound C_ticks C_mergedInAll C_mergedAgain O_paces O_up) := hw
              refine lv_if_eq (tgt := 94) hx hb dX6_work_87 (by decide) (fun b13 => ?_) (fun b13 => ?_)
              · replace hf := it_t hf b13
                refine lv_iconst (v := 0) hx hb dX6_work_94 (by decide) ?_
                cases hf
                exact endI X hr rfl hlocks rfl hw dX6_work_95
              · replace hf := it_f hf b13
                refine lv_iconst (v := 1) hx hb dX6_work_90 (by decide) ?_
                refine lv_goto (tgt := 95) hx hb dX6_work_91 (by decide) ?_
                cases hf
                exact endI X hr rfl hlocks rfl hw dX6_work_95
            · replace hf := it_f hf b10
              have n0_13 := lv_neT b4 (a := 0) (by decide)
              have n1_13 := lv_neT b5 (a := 1) (by decide)
              have n2_13 := lv_neT b6 (a := 2) (by decide)
              have n3_13 := lv_neT b7 (a := 3) (by decide)
              have n4_13 := lv_neT b10 (a := 4) (by decide)
              refine lv_tableOut (tgt := 96) hx hb dX6_work_13 (by omega) (by decide) ?_
              refine lv_iconst (v := (-1)) hx hb dX6_work_96 (by decide) ?_
              cases hf
              exact endI X hr rfl hlocks rfl hw dX6_work_97
  · replace hf := it_t hf b3
    refine lv_iconst (v := (-1)) hx hb dX6_work_10 (by decide) ?_
    cases hf
    exact endI X hr rfl hlocks rfl hw dX6_work_11
def rm_X6_end : Room := { frames := 2, cells := 0, slots := 0, locals := 43 }
set_option maxRecDepth 20000 in
theorem i_X6_end_X6 : ∀ w ∈ u_ws RX6 TX6 6, w ∈ wsX6_end := by decide +kernel
set_option maxRecDepth 20000 in
theorem m_X6_end_0 : Cond.fieldLink RX6 40 "GreatSort" "cut" "LGreatSort$Cut;" ∈ wsX6_end := by decide +kernel
set_option maxRecDepth 20000 in
theorem m_X6_end_1 : Cond.fieldLink RX6 26 "GreatSort" "runs" "LGreatSort$Runs;" ∈ wsX6_end := by decide +kernel
set_option maxHeartbeats 4000000 in
set_option maxRecDepth 100000 in
theorem c_X6_end (l : Launch) (dC : Nat → ClassId) (dI : Nat → Nat → Nat) (cI cJ cZ : ClassId) (aG aW aH aR aP aC aO : Nat → Nat) (N : Nat) (W_sorts : (Nat → Int32)) (W_values : (Nat → Int32)) (W_turns : (Nat → Int32)) (W_falling : (Nat → Int32)) (W_count : Int32) (H_items : (Nat → Int64)) (H_size : Int32) (R_members : (Nat → Int32)) (R_starts : (Nat → Int32)) (R_inOrder : (Nat → Int32)) (R_standing : (Nat → Int32)) (R_heads : (Nat → Int32)) (R_tails : (Nat → Int32)) (R_rowsInAll : Int32) (R_made : Int32) (R_all : Int32) (R_filled : Int32) (P_takenRuns : (Nat → Int32)) (P_starts : (Nat → Int32)) (P_queued : (Nat → Int32)) (P_merges : Int32) (P_told : Int32) (C_sampled : (Nat → Int32)) (C_sampleStandings : (Nat → Int32)) (C_sizes : (Nat → Int32)) (C_ends : (Nat → Int32)) (C_lies : (Nat → Int32)) (C_merged : (Nat → Int32)) (C_reached : (Nat → Int32)) (C_done : (Nat → Int32)) (C_mergedBy : (Nat → Int32)) (C_parts : Int32) (C_samples : Int32) (C_bound : Int32) (C_ticks : Int32) (C_mergedInAll : Int32) (C_mergedAgain : Int32) (O_paces : (Nat → Int32)) (O_up : (Nat → Int32)) (v1 : Int32) {r : Int32} (hf : f_X6_end N R_inOrder R_rowsInAll C_done C_parts v1 = some r) :
    CtI l yX6_end wsX6_end rm_X6_end (dC, dI) (tyl cI cJ cZ) [.ref (aG 0), .int v1] (w_GWHRPCO aG aW aH aR aP aC aO cI cJ cZ W_sorts W_values W_turns W_falling W_count H_items H_size R_members R_starts R_inOrder R_standing R_heads R_tails R_rowsInAll R_made R_all R_filled P_takenRuns P_starts P_queued P_merges P_told C_sampled C_sampleStandings C_sizes C_ends C_lies C_merged C_reached C_done C_mergedBy C_parts C_samples C_bound C_ticks C_mergedInAll C_mergedAgain O_paces O_up) (w_GWHRPCO aG aW aH aR aP aC aO cI cJ cZ W_sorts W_values W_turns W_falling W_count H_items H_size R_members R_starts R_inOrder R_standing R_heads R_tails R_rowsInAll R_made R_all R_filled P_takenRuns P_starts P_queued P_merges P_told C_sampled C_sampleStandings C_sizes C_ends C_lies C_merged C_reached C_done C_mergedBy C_parts C_samples C_bound C_ticks C_mergedInAll C_mergedAgain O_paces O_up) r := by
  refine startI (cc := cX6_end) (maxL := 2) (rt := (some .int)) (by decide +kernel) rfl (Nat.le_of_ble_eq_true rfl) ?_
  intro p e s m below meth c A ls X hr hlocks hw hl
  replace X : Cx p m c cX6_end 2 s _ wsX6_end RX6 (dC, dI) (tyl cI cJ cZ) A := X
  replace hl : lv_has ls 2 [(0, .ref (aG 0)), (1, .int v1)] := hl
  obtain ⟨hx, hb, hml, hown, hts⟩ := X.1
  have hK := X.2.1
  have hN := X.2.2.2
  unfold f_X6_end at hf
  refine lv_aload_n hx hb dX6_end_0 rfl (lv_at hl 0 rfl) ?_
  refine va_get (D := (dC, dI)) (ci := 6) (v := .ref (aC 0)) (C := RX6) (T := TX6) (N := 6) hx hb hts i_X6_end_X6 hown hK hw.1 0 rfl rfl 4 (by decide) (hts _ m_X6_end_0) (fun _ h9 => h9) rfl dX6_end_1 ?_
  obtain ⟨r1, h2, hf⟩ := bd1_ob hf
  refine clVI (As := []) (rest := []) X (c_X0_isAtEnd l dC dI cI cJ cZ aC N C_sampled C_sampleStandings C_sizes C_ends C_lies C_merged C_reached C_done C_mergedBy C_parts C_samples C_bound C_ticks C_mergedInAll C_mergedAgain h2) (cwV 0 hts gX6_end_X0_isAtEnd rfl rfl rfl (by decide +kernel) ⟨Nat.le_of_ble_eq_true rfl, Nat.le_of_ble_eq_true rfl⟩) (ci := 0) rfl rfl rfl hw [19, 20, 21, 22, 23, 24, 25, 26, 27, 28] rfl rfl rfl rfl hl.1 rfl (Nat.le_of_ble_eq_true rfl) dX6_end_4 ⟨Nat.zero_le _, Nat.zero_le _⟩ (fun H locs hw => ?_)
  replace hw : Wd (dC, dI) A s.heap H locs (w_GWHRPCO aG aW aH aR aP aC aO cI cJ cZ W_sorts W_values W_turns W_falling W_count H_items H_size R_members R_starts R_inOrder R_standing R_heads R_tails R_rowsInAll R_made R_all R_filled P_takenRuns P_starts P_queued P_merges P_told C_sampled C_sampleStandings C_sizes C_ends C_lies C_merged C_reached C_done C_mergedBy C_parts C_samples C_bound C_ticks C_mergedInAll C_mergedAgain O_paces O_up) := hw
  refine lv_if_eq (tgt := 21) hx hb dX6_end_7 (by decide) (fun b3 => ?_) (fun b3 => ?_)
  · replace hf := it_t hf b3
    refine lv_iconst (v := (-1)) hx hb dX6_end_21 (by decide) ?_
    cases hf
    exact endI X hr rfl hlocks rfl hw dX6_end_22
  · replace hf := it_f hf b3
    refine lv_aload_n hx hb dX6_end_10 rfl (lv_at hl 0 rfl) ?_
    refine va_get (D := (dC, dI)) (ci := 6) (v := .ref (aR 0)) (C := RX6) (T := TX6) (N := 6) hx hb hts i_X6_end_X6 hown hK hw.1 0 rfl rfl 2 (by decide) (hts _ m_X6_end_1) (fun _ h9 => h9) rfl dX6_end_11 ?_
    refine lv_iload_n hx hb dX6_end_14 rfl (lv_at hl 1 rfl) ?_
    obtain ⟨r4, h5, hf⟩ := bd1_ob hf
    refine clVI (As := [.int v1]) (rest := []) X (c_X5_rowInOrder l dC dI cI cJ cZ aR N R_members R_starts R_inOrder R_standing R_heads R_tails R_rowsInAll R_made R_all R_filled v1 h5) (cwV 1 hts gX6_end_X5_rowInOrder rfl rfl rfl (by decide +kernel) ⟨Nat.le_of_ble_eq_true rfl, Nat.le_of_ble_eq_true rfl⟩) (ci := 5) rfl rfl rfl hw [8, 9, 10, 11, 12, 13, 14] rfl rfl rfl rfl hl.1 rfl (Nat.le_of_ble_eq_true rfl) dX6_end_15 ⟨Nat.zero_le _, Nat.zero_le _⟩ (fun H locs hw => ?_)
    replace hw : Wd (dC, dI) A s.heap H locs (w_GWHRPCO aG aW aH aR aP aC aO cI cJ cZ W_sorts W_values W_turns W_falling W_count H_items H_size R_members R_starts R_inOrder R_standing R_heads R_tails R_rowsInAll R_made R_all R_filled P_takenRuns P_starts P_queued P_merges P_told C_sampled C_sampleStandings C_sizes C_ends C_lies C_merged C_reached C_done C_mergedBy C_parts C_samples C_bound C_ticks C_mergedInAll C_mergedAgain O_paces O_up) := hw
    refine lv_goto (tgt := 22) hx hb dX6_end_18 (by decide) ?_
    cases hf
    exact endI X hr rfl hlocks rfl hw dX6_end_22
def rm_X6_count : Room := { frames := 0, cells := 0, slots := 0, locals := 0 }
set_option maxRecDepth 20000 in
theorem i_X6_count_X6 : ∀ w ∈ u_ws RX6 TX6 6, w ∈ wsX6_count := by decide +kernel
set_option maxRecDepth 20000 in
theorem i_X6_count_X4 : ∀ w ∈ u_ws RX4 TX4 5, w ∈ wsX6_count := by decide +kernel
set_option maxRecDepth 20000 in
theorem i_X6_count_X5 : ∀ w ∈ u_ws RX5 TX5 10, w ∈ wsX6_count := by decide +kernel
set_option maxRecDepth 20000 in
theorem i_X6_count_X0 : ∀ w ∈ u_ws RX0 TX0 15, w ∈ wsX6_count := by decide +kernel
set_option maxRecDepth 20000 in
theorem m_X6_count_0 : Cond.fieldLink RX6 12 "GreatSort" "rows" "LGreatSort$Rows;" ∈ wsX6_count := by decide +kernel
set_option maxRecDepth 20000 in
theorem m_X6_count_1 : Cond.fieldLink RX6 26 "GreatSort" "runs" "LGreatSort$Runs;" ∈ wsX6_count := by decide +kernel
set_option maxRecDepth 20000 in
theorem m_X6_count_2 : Cond.fieldLink RX6 40 "GreatSort" "cut" "LGreatSort$Cut;" ∈ wsX6_count := by decide +kernel
set_option maxHeartbeats 4000000 in
set_option maxRecDepth 100000 in
theorem c_X6_count (l : Launch) (dC : Nat → ClassId) (dI : Nat → Nat → Nat) (cI cJ cZ : ClassId) (aG aW aH aR aP aC aO : Nat → Nat) (N : Nat) (W_sorts : (Nat → Int32)) (W_values : (Nat → Int32)) (W_turns : (Nat → Int32)) (W_falling : (Nat → Int32)) (W_count : Int32) (H_items : (Nat → Int64)) (H_size : Int32) (R_members : (Nat → Int32)) (R_starts : (Nat → Int32)) (R_inOrder : (Nat → Int32)) (R_standing : (Nat → Int32)) (R_heads : (Nat → Int32)) (R_tails : (Nat → Int32)) (R_rowsInAll : Int32) (R_made : Int32) (R_all : Int32) (R_filled : Int32) (P_takenRuns : (Nat → Int32)) (P_starts : (Nat → Int32)) (P_queued : (Nat → Int32)) (P_merges : Int32) (P_told : Int32) (C_sampled : (Nat → Int32)) (C_sampleStandings : (Nat → Int32)) (C_sizes : (Nat → Int32)) (C_ends : (Nat → Int32)) (C_lies : (Nat → Int32)) (C_merged : (Nat → Int32)) (C_reached : (Nat → Int32)) (C_done : (Nat → Int32)) (C_mergedBy : (Nat → Int32)) (C_parts : Int32) (C_samples : Int32) (C_bound : Int32) (C_ticks : Int32) (C_mergedInAll : Int32) (C_mergedAgain : Int32) (O_paces : (Nat → Int32)) (O_up : (Nat → Int32)) (v1 : Int32) {r : Int32} (hf : f_X6_count N W_count R_made C_parts C_samples v1 = some r) :
    CtI l yX6_count wsX6_count rm_X6_count (dC, dI) (tyl cI cJ cZ) [.ref (aG 0), .int v1] (w_GWHRPCO aG aW aH aR aP aC aO cI cJ cZ W_sorts W_values W_turns W_falling W_count H_items H_size R_members R_starts R_inOrder R_standing R_heads R_tails R_rowsInAll R_made R_all R_filled P_takenRuns P_starts P_queued P_merges P_told C_sampled C_sampleStandings C_sizes C_ends C_lies C_merged C_reached C_done C_mergedBy C_parts C_samples C_bound C_ticks C_mergedInAll C_mergedAgain O_paces O_up) (w_GWHRPCO aG aW aH aR aP aC aO cI cJ cZ W_sorts W_values W_turns W_falling W_count H_items H_size R_members R_starts R_inOrder R_standing R_heads R_tails R_rowsInAll R_made R_all R_filled P_takenRuns P_starts P_queued P_merges P_told C_sampled C_sampleStandings C_sizes C_ends C_lies C_merged C_reached C_done C_mergedBy C_parts C_samples C_bound C_ticks C_mergedInAll C_mergedAgain O_paces O_up) r := by
  refine startI (cc := cX6_count) (maxL := 2) (rt := (some .int)) (by decide +kernel) rfl (Nat.le_of_ble_eq_true rfl) ?_
  intro p e s m below meth c A ls X hr hlocks hw hl
  replace X : Cx p m c cX6_count 2 s _ wsX6_count RX6 (dC, dI) (tyl cI cJ cZ) A := X
  replace hl : lv_has ls 2 [(0, .ref (aG 0)), (1, .int v1)] := hl
  obtain ⟨hx, hb, hml, hown, hts⟩ := X.1
  have hK := X.2.1
  have hN := X.2.2.2
  unfold f_X6_count at hf
  refine lv_iload_n hx hb dX6_count_0 rfl (lv_at hl 1 rfl) ?_
  by_cases b1 : v1 = 0
  · replace hf := it_t hf b1
    refine lv_tableIn (tgt := 32) hx hb dX6_count_1 (by rw [b1]; decide) (by rw [b1]; decide) (by rw [b1]; rfl) (by decide) ?_
    refine lv_aload_n hx hb dX6_count_32 rfl (lv_at hl 0 rfl) ?_
    refine va_get (D := (dC, dI)) (ci := 6) (v := .ref (aW 0)) (C := RX6) (T := TX6) (N := 6) hx hb hts i_X6_count_X6 hown hK hw.1 0 rfl rfl 0 (by decide) (hts _ m_X6_count_0) (fun _ h9 => h9) rfl dX6_count_33 ?_
    refine va_getN (D := (dC, dI)) (ci := 4) (v := .int W_count) (C := RX4) (T := TX4) (N := 5) hx hb hts i_X6_count_X4 hown hK hw.1 1 rfl rfl 4 (by decide) (va_Nw.use rfl (hN _ nk_15)) (fun _ h9 => h9) rfl dX6_count_36 ?_
    cases hf
    exact endI X hr rfl hlocks rfl hw dX6_count_39
  · replace hf := it_f hf b1
    by_cases b2 : v1 = 1
    · replace hf := it_t hf b2
      refine lv_tableIn (tgt := 40) hx hb dX6_count_1 (by rw [b2]; decide) (by rw [b2]; decide) (by rw [b2]; rfl) (by decide) ?_
      refine lv_aload_n hx hb dX6_count_40 rfl (lv_at hl 0 rfl) ?_
      refine va_get (D := (dC, dI)) (ci := 6) (v := .ref (aR 0)) (C := RX6) (T := TX6) (N := 6) hx hb hts i_X6_count_X6 hown hK hw.1 0 rfl rfl 2 (by decide) (hts _ m_X6_count_1) (fun _ h9 => h9) rfl dX6_count_41 ?_
      refine va_getN (D := (dC, dI)) (ci := 5) (v := .int R_made) (C := RX5) (T := TX5) (N := 10) hx hb hts i_X6_count_X5 hown hK hw.1 8 rfl rfl 7 (by decide) (va_Nw.use rfl (hN _ nk_16)) (fun _ h9 => h9) rfl dX6_count_44 ?_
      cases hf
      exact endI X hr rfl hlocks rfl hw dX6_count_47
    · replace hf := it_f hf b2
      by_cases b3 : v1 = 2
      · replace hf := it_t hf b3
        refine lv_tableIn (tgt := 48) hx hb dX6_count_1 (by rw [b3]; decide) (by rw [b3]; decide) (by rw [b3]; rfl) (by decide) ?_
        refine lv_aload_n hx hb dX6_count_48 rfl (lv_at hl 0 rfl) ?_
        refine va_get (D := (dC, dI)) (ci := 6) (v := .ref (aC 0)) (C := RX6) (T := TX6) (N := 6) hx hb hts i_X6_count_X6 hown hK hw.1 0 rfl rfl 4 (by decide) (hts _ m_X6_count_2) (fun _ h9 => h9) rfl dX6_count_49 ?_
        refine va_getN (D := (dC, dI)) (ci := 0) (v := .int C_samples) (C := RX0) (T := TX0) (N := 15) hx hb hts i_X6_count_X0 hown hK hw.1 19 rfl rfl 10 (by decide) (va_Nw.use rfl (hN _ nk_2)) (fun _ h9 => h9) rfl dX6_count_52 ?_
        cases hf
        exact endI X hr rfl hlocks rfl hw dX6_count_55
      · replace hf := it_f hf b3
        by_cases b4 : v1 = 3
        · replace hf := it_t hf b4
          refine lv_tableIn (tgt := 56) hx hb dX6_count_1 (by rw [b4]; decide) (by rw [b4]; decide) (by rw [b4]; rfl) (by decide) ?_
          refine lv_aload_n hx hb dX6_count_56 rfl (lv_at hl 0 rfl) ?_
          refine va_get (D := (dC, dI)) (ci := 6) (v := .ref (aC 0)) (C := RX6) (T := TX6) (N := 6) hx hb hts i_X6_count_X6 hown hK hw.1 0 rfl rfl 4 (by decide) (hts _ m_X6_count_2) (fun _ h9 => h9) rfl dX6_count_57 ?_
          refine va_getN (D := (dC, dI)) (ci := 0) (v := .int C_parts) (C := RX0) (T := TX0) (N := 15) hx hb hts i_X6_count_X0 hown hK hw.1 19 rfl rfl 9 (by decide) (va_Nw.use rfl (hN _ nk_4)) (fun _ h9 => h9) rfl dX6_count_60 ?_
          cases hf
          exact endI X hr rfl hlocks rfl hw dX6_count_63
        · replace hf := it_f hf b4
          have n0_1 := lv_neT b1 (a := 0) (by decide)
          have n1_1 := lv_neT b2 (a := 1) (by decide)
          have n2_1 := lv_neT b3 (a := 2) (by decide)
          have n3_1 := lv_neT b4 (a := 3) (by decide)
          refine lv_tableOut (tgt := 64) hx hb dX6_count_1 (by omega) (by decide) ?_
          refine lv_iconst (v := (-1)) hx hb dX6_count_64 (by decide) ?_
          cases hf
          exact endI X hr rfl hlocks rfl hw dX6_count_65
