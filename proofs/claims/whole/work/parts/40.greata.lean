def rm_X6_give : Room := { frames := 1, cells := 0, slots := 0, locals := 22 }
set_option maxRecDepth 20000 in
theorem i_X6_give_X6 : ∀ w ∈ u_ws RX6 TX6 6, w ∈ wsX6_give := by decide +kernel
set_option maxRecDepth 20000 in
theorem i_X6_give_X4 : ∀ w ∈ u_ws RX4 TX4 5, w ∈ wsX6_give := by decide +kernel
set_option maxRecDepth 20000 in
theorem m_X6_give_0 : Cond.constant RX6 55 (-100000) ∈ wsX6_give := by decide +kernel
set_option maxRecDepth 20000 in
theorem m_X6_give_1 : Cond.constant RX6 56 (100000) ∈ wsX6_give := by decide +kernel
set_option maxRecDepth 20000 in
theorem m_X6_give_2 : Cond.fieldLink RX6 12 "GreatSort" "rows" "LGreatSort$Rows;" ∈ wsX6_give := by decide +kernel
set_option maxHeartbeats 4000000 in
set_option maxRecDepth 100000 in
theorem c_X6_give (l : Launch) (dC : Nat → ClassId) (dI : Nat → Nat → Nat) (cI cJ cZ : ClassId) (aG aW aH aR aP aC aO : Nat → Nat) (N : Nat) (W_sorts : (Nat → Int32)) (W_values : (Nat → Int32)) (W_turns : (Nat → Int32)) (W_falling : (Nat → Int32)) (W_count : Int32) (H_items : (Nat → Int64)) (H_size : Int32) (R_members : (Nat → Int32)) (R_starts : (Nat → Int32)) (R_inOrder : (Nat → Int32)) (R_standing : (Nat → Int32)) (R_heads : (Nat → Int32)) (R_tails : (Nat → Int32)) (R_rowsInAll : Int32) (R_made : Int32) (R_all : Int32) (R_filled : Int32) (P_takenRuns : (Nat → Int32)) (P_starts : (Nat → Int32)) (P_queued : (Nat → Int32)) (P_merges : Int32) (P_told : Int32) (C_sampled : (Nat → Int32)) (C_sampleStandings : (Nat → Int32)) (C_sizes : (Nat → Int32)) (C_ends : (Nat → Int32)) (C_lies : (Nat → Int32)) (C_merged : (Nat → Int32)) (C_reached : (Nat → Int32)) (C_done : (Nat → Int32)) (C_mergedBy : (Nat → Int32)) (C_parts : Int32) (C_samples : Int32) (C_bound : Int32) (C_ticks : Int32) (C_mergedInAll : Int32) (C_mergedAgain : Int32) (O_paces : (Nat → Int32)) (O_up : (Nat → Int32)) (v1 : Int32) (v2 : Int32) {r : Int32} {o_W_sorts : (Nat → Int32)} {o_W_values : (Nat → Int32)} {o_W_count : Int32} (hf : f_X6_give N W_sorts W_values W_count v1 v2 = some (r, o_W_sorts, o_W_values, o_W_count)) :
    CtI l yX6_give wsX6_give rm_X6_give (dC, dI) (tyl cI cJ cZ) [.ref (aG 0), .int v1, .int v2] (w_GWHRPCO aG aW aH aR aP aC aO cI cJ cZ W_sorts W_values W_turns W_falling W_count H_items H_size R_members R_starts R_inOrder R_standing R_heads R_tails R_rowsInAll R_made R_all R_filled P_takenRuns P_starts P_queued P_merges P_told C_sampled C_sampleStandings C_sizes C_ends C_lies C_merged C_reached C_done C_mergedBy C_parts C_samples C_bound C_ticks C_mergedInAll C_mergedAgain O_paces O_up) (w_GWHRPCO aG aW aH aR aP aC aO cI cJ cZ o_W_sorts o_W_values W_turns W_falling o_W_count H_items H_size R_members R_starts R_inOrder R_standing R_heads R_tails R_rowsInAll R_made R_all R_filled P_takenRuns P_starts P_queued P_merges P_told C_sampled C_sampleStandings C_sizes C_ends C_lies C_merged C_reached C_done C_mergedBy C_parts C_samples C_bound C_ticks C_mergedInAll C_mergedAgain O_paces O_up) r := by
  refine startI (cc := cX6_give) (maxL := 3) (rt := (some .int)) (by decide +kernel) rfl (Nat.le_of_ble_eq_true rfl) ?_
  intro p e s m below meth c A ls X hr hlocks hw hl
  replace X : Cx p m c cX6_give 3 s _ wsX6_give RX6 (dC, dI) (tyl cI cJ cZ) A := X
  replace hl : lv_has ls 3 [(0, .ref (aG 0)), (1, .int v1), (2, .int v2)] := hl
  obtain ⟨hx, hb, hml, hown, hts⟩ := X.1
  have hK := X.2.1
  have hN := X.2.2.2
  unfold f_X6_give at hf
  refine lv_iload_n hx hb dX6_give_0 rfl (lv_at hl 1 rfl) ?_
  refine lv_iconst (v := 0) hx hb dX6_give_1 (by decide) ?_
  refine lv_iconst (v := 3) hx hb dX6_give_2 (by decide) ?_
  obtain ⟨r1, h2, hf⟩ := bd1_ob hf
  refine clSI (As := [.int v1, .int (0 : Int32), .int (3 : Int32)]) (rest := []) X (c_X6_isIn l dC dI cI cJ cZ N v1 (0 : Int32) (3 : Int32) h2) (va_cwS 3 hts gX6_give_X6_isIn rfl rfl rfl (by decide +kernel) ⟨Nat.le_of_ble_eq_true rfl, Nat.le_of_ble_eq_true rfl⟩) hw [] rfl rfl rfl rfl hl.1 rfl (Nat.le_of_ble_eq_true rfl) dX6_give_3 ⟨Nat.zero_le _, Nat.zero_le _⟩ (fun H locs hw => ?_)
  replace hw : Wd (dC, dI) A s.heap H locs (w_GWHRPCO aG aW aH aR aP aC aO cI cJ cZ W_sorts W_values W_turns W_falling W_count H_items H_size R_members R_starts R_inOrder R_standing R_heads R_tails R_rowsInAll R_made R_all R_filled P_takenRuns P_starts P_queued P_merges P_told C_sampled C_sampleStandings C_sizes C_ends C_lies C_merged C_reached C_done C_mergedBy C_parts C_samples C_bound C_ticks C_mergedInAll C_mergedAgain O_paces O_up) := hw
  refine lv_if_eq (tgt := 31) hx hb dX6_give_6 (by decide) (fun b3 => ?_) (fun b3 => ?_)
  · replace hf := it_t hf b3
    refine lv_iconst (v := (-1)) hx hb dX6_give_31 (by decide) ?_
    cases hf
    exact endI X hr rfl hlocks rfl hw dX6_give_32
  · replace hf := it_f hf b3
    refine lv_iload_n hx hb dX6_give_9 rfl (lv_at hl 2 rfl) ?_
    refine lv_ldc (v := (-100000)) hx hb hown (hts _ m_X6_give_0) dX6_give_10 ?_
    refine lv_ldc (v := 100000) hx hb hown (hts _ m_X6_give_1) dX6_give_12 ?_
    obtain ⟨r4, h5, hf⟩ := bd1_ob hf
    refine clSI (As := [.int v2, .int (-100000 : Int32), .int (100000 : Int32)]) (rest := []) X (c_X6_isIn l dC dI cI cJ cZ N v2 (-100000 : Int32) (100000 : Int32) h5) (va_cwS 3 hts gX6_give_X6_isIn rfl rfl rfl (by decide +kernel) ⟨Nat.le_of_ble_eq_true rfl, Nat.le_of_ble_eq_true rfl⟩) hw [] rfl rfl rfl rfl hl.1 rfl (Nat.le_of_ble_eq_true rfl) dX6_give_14 ⟨Nat.zero_le _, Nat.zero_le _⟩ (fun H locs hw => ?_)
    replace hw : Wd (dC, dI) A s.heap H locs (w_GWHRPCO aG aW aH aR aP aC aO cI cJ cZ W_sorts W_values W_turns W_falling W_count H_items H_size R_members R_starts R_inOrder R_standing R_heads R_tails R_rowsInAll R_made R_all R_filled P_takenRuns P_starts P_queued P_merges P_told C_sampled C_sampleStandings C_sizes C_ends C_lies C_merged C_reached C_done C_mergedBy C_parts C_samples C_bound C_ticks C_mergedInAll C_mergedAgain O_paces O_up) := hw
    refine lv_if_eq (tgt := 31) hx hb dX6_give_17 (by decide) (fun b6 => ?_) (fun b6 => ?_)
    · replace hf := it_t hf b6
      refine lv_iconst (v := (-1)) hx hb dX6_give_31 (by decide) ?_
      cases hf
      exact endI X hr rfl hlocks rfl hw dX6_give_32
    · replace hf := it_f hf b6
      refine lv_aload_n hx hb dX6_give_20 rfl (lv_at hl 0 rfl) ?_
      refine va_get (D := (dC, dI)) (ci := 6) (v := .ref (aW 0)) (C := RX6) (T := TX6) (N := 6) hx hb hts i_X6_give_X6 hown hK hw.1 0 rfl rfl 0 (by decide) (hts _ m_X6_give_2) (fun _ h9 => h9) rfl dX6_give_21 ?_
      refine lv_iconst (v := 1) hx hb dX6_give_24 (by decide) ?_
      obtain ⟨r7, h8, hf⟩ := bd1_ob hf
      refine clVI (As := [.int (1 : Int32)]) (rest := []) X (c_X4_hasRoomFor l dC dI cI cJ cZ aW N W_sorts W_values W_turns W_falling W_count (1 : Int32) h8) (cwV 1 hts gX6_give_X4_hasRoomFor rfl rfl rfl (by decide +kernel) ⟨Nat.le_of_ble_eq_true rfl, Nat.le_of_ble_eq_true rfl⟩) (ci := 4) rfl rfl rfl hw [1, 2, 3, 4, 5] rfl rfl rfl rfl hl.1 rfl (Nat.le_of_ble_eq_true rfl) dX6_give_25 ⟨Nat.zero_le _, Nat.zero_le _⟩ (fun H locs hw => ?_)
      replace hw : Wd (dC, dI) A s.heap H locs (w_GWHRPCO aG aW aH aR aP aC aO cI cJ cZ W_sorts W_values W_turns W_falling W_count H_items H_size R_members R_starts R_inOrder R_standing R_heads R_tails R_rowsInAll R_made R_all R_filled P_takenRuns P_starts P_queued P_merges P_told C_sampled C_sampleStandings C_sizes C_ends C_lies C_merged C_reached C_done C_mergedBy C_parts C_samples C_bound C_ticks C_mergedInAll C_mergedAgain O_paces O_up) := hw
      refine lv_if_ne (tgt := 33) hx hb dX6_give_28 (by decide) (fun b9 => ?_) (fun b9 => ?_)
      · replace hf := it_f hf b9
        refine lv_aload_n hx hb dX6_give_33 rfl (lv_at hl 0 rfl) ?_
        refine va_get (D := (dC, dI)) (ci := 6) (v := .ref (aW 0)) (C := RX6) (T := TX6) (N := 6) hx hb hts i_X6_give_X6 hown hK hw.1 0 rfl rfl 0 (by decide) (hts _ m_X6_give_2) (fun _ h9 => h9) rfl dX6_give_34 ?_
        refine lv_iload_n hx hb dX6_give_37 rfl (lv_at hl 1 rfl) ?_
        refine lv_iload_n hx hb dX6_give_38 rfl (lv_at hl 2 rfl) ?_
        obtain ⟨c10, c11, c12, h13, hf⟩ := bd3_ob hf
        refine clVV (As := [.int v1, .int v2]) (rest := []) X (c_X4_add l dC dI cI cJ cZ aW N W_sorts W_values W_turns W_falling W_count v1 v2 h13) (cwV 2 hts gX6_give_X4_add rfl rfl rfl (by decide +kernel) ⟨Nat.le_of_ble_eq_true rfl, Nat.le_of_ble_eq_true rfl⟩) (ci := 4) rfl rfl rfl hw [1, 2, 3, 4, 5] rfl rfl rfl rfl hl.1 rfl (Nat.le_of_ble_eq_true rfl) dX6_give_39 ⟨Nat.zero_le _, Nat.zero_le _⟩ (fun H locs hw => ?_)
        replace hw : Wd (dC, dI) A s.heap H locs (w_GWHRPCO aG aW aH aR aP aC aO cI cJ cZ c10 c11 W_turns W_falling c12 H_items H_size R_members R_starts R_inOrder R_standing R_heads R_tails R_rowsInAll R_made R_all R_filled P_takenRuns P_starts P_queued P_merges P_told C_sampled C_sampleStandings C_sizes C_ends C_lies C_merged C_reached C_done C_mergedBy C_parts C_samples C_bound C_ticks C_mergedInAll C_mergedAgain O_paces O_up) := hw
        refine lv_aload_n hx hb dX6_give_42 rfl (lv_at hl 0 rfl) ?_
        refine va_get (D := (dC, dI)) (ci := 6) (v := .ref (aW 0)) (C := RX6) (T := TX6) (N := 6) hx hb hts i_X6_give_X6 hown hK hw.1 0 rfl rfl 0 (by decide) (hts _ m_X6_give_2) (fun _ h9 => h9) rfl dX6_give_43 ?_
        refine va_getN (D := (dC, dI)) (ci := 4) (v := .int c12) (C := RX4) (T := TX4) (N := 5) hx hb hts i_X6_give_X4 hown hK hw.1 1 rfl rfl 4 (by decide) (va_Nw.use rfl (hN _ nk_15)) (fun _ h9 => h9) rfl dX6_give_46 ?_
        refine lv_iconst (v := 1) hx hb dX6_give_49 (by decide) ?_
        refine lv_isub hx hb dX6_give_50 ?_
        cases hf
        exact endI X hr rfl hlocks rfl hw dX6_give_51
      · replace hf := it_t hf b9
        refine lv_iconst (v := (-1)) hx hb dX6_give_31 (by decide) ?_
        cases hf
        exact endI X hr rfl hlocks rfl hw dX6_give_32
def rm_X6_sow : Room := { frames := 1, cells := 0, slots := 0, locals := 22 }
set_option maxRecDepth 20000 in
theorem i_X6_sow_X6 : ∀ w ∈ u_ws RX6 TX6 6, w ∈ wsX6_sow := by decide +kernel
set_option maxRecDepth 20000 in
theorem i_X6_sow_X4 : ∀ w ∈ u_ws RX4 TX4 5, w ∈ wsX6_sow := by decide +kernel
set_option maxRecDepth 20000 in
theorem m_X6_sow_0 : Cond.fieldLink RX6 12 "GreatSort" "rows" "LGreatSort$Rows;" ∈ wsX6_sow := by decide +kernel
set_option maxRecDepth 20000 in
theorem m_X6_sow_1 : Cond.constant RX6 69 (1103515245) ∈ wsX6_sow := by decide +kernel
set_option maxHeartbeats 4000000 in
set_option maxRecDepth 100000 in
theorem t_X6_sow_62 {p : Program} {l : Launch} {e : Env} {s : State} {m : MethodId} {args : Array Value} {below : List Frame} {meth : Method} {c : Code} {Q : State → Prop} {dC : Nat → ClassId} {dI : Nat → Nat → Nat} {cI cJ cZ : ClassId} {A : Nat → Prop} (aG aW aH aR aP aC aO : Nat → Nat) (X : Cx p m c cX6_sow 8 s args wsX6_sow RX6 (dC, dI) (tyl cI cJ cZ) A) (N : Nat) (W_turns : (Nat → Int32)) (W_falling : (Nat → Int32)) (H_items : (Nat → Int64)) (H_size : Int32) (R_members : (Nat → Int32)) (R_starts : (Nat → Int32)) (R_inOrder : (Nat → Int32)) (R_standing : (Nat → Int32)) (R_heads : (Nat → Int32)) (R_tails : (Nat → Int32)) (R_rowsInAll : Int32) (R_made : Int32) (R_all : Int32) (R_filled : Int32) (P_takenRuns : (Nat → Int32)) (P_starts : (Nat → Int32)) (P_queued : (Nat → Int32)) (P_merges : Int32) (P_told : Int32) (C_sampled : (Nat → Int32)) (C_sampleStandings : (Nat → Int32)) (C_sizes : (Nat → Int32)) (C_ends : (Nat → Int32)) (C_lies : (Nat → Int32)) (C_merged : (Nat → Int32)) (C_reached : (Nat → Int32)) (C_done : (Nat → Int32)) (C_mergedBy : (Nat → Int32)) (C_parts : Int32) (C_samples : Int32) (C_bound : Int32) (C_ticks : Int32) (C_mergedInAll : Int32) (C_mergedAgain : Int32) (O_paces : (Nat → Int32)) (O_up : (Nat → Int32)) (v1 : Int32) (v2 : Int32) (v4 : Int32) (v5 : Int32) :
    ∀ (n : Nat) (v6 : Int32) (v7 : Int32) (W_sorts : (Nat → Int32)) (W_values : (Nat → Int32)) (W_count : Int32) (e_W_sorts : (Nat → Int32)) (e_W_values : (Nat → Int32)) (e_W_count : Int32), l_X6_sow_62 N v1 v2 v4 v5 n v6 v7 W_sorts W_values W_count = some (e_W_sorts, e_W_values, e_W_count) → ∀ (H : Heap) (locs : List Loc) (ls : Array Slot), Wd (dC, dI) A s.heap H locs (w_GWHRPCO aG aW aH aR aP aC aO cI cJ cZ W_sorts W_values W_turns W_falling W_count H_items H_size R_members R_starts R_inOrder R_standing R_heads R_tails R_rowsInAll R_made R_all R_filled P_takenRuns P_starts P_queued P_merges P_told C_sampled C_sampleStandings C_sizes C_ends C_lies C_merged C_reached C_done C_mergedBy C_parts C_samples C_bound C_ticks C_mergedInAll C_mergedAgain O_paces O_up) → lv_has ls 8 [(0, .ref (aG 0)), (1, .int v1), (2, .int v2), (4, .int v4), (5, .int v5), (6, .int v6), (7, .int v7)] → (∀ (H : Heap) (locs : List Loc) (ls : Array Slot), Wd (dC, dI) A s.heap H locs (w_GWHRPCO aG aW aH aR aP aC aO cI cJ cZ e_W_sorts e_W_values W_turns W_falling e_W_count H_items H_size R_members R_starts R_inOrder R_standing R_heads R_tails R_rowsInAll R_made R_all R_filled P_takenRuns P_starts P_queued P_merges P_told C_sampled C_sampleStandings C_sizes C_ends C_lies C_merged C_reached C_done C_mergedBy C_parts C_samples C_bound C_ticks C_mergedInAll C_mergedAgain O_paces O_up) → lv_has ls 8 [(0, .ref (aG 0))] → W p l e rm_X6_sow s m args below meth c H locs 0 0 Q (F0 m 112 ls [])) → W p l e rm_X6_sow s m args below meth c H locs 0 0 Q (F0 m 62 ls []) := by
  obtain ⟨hx, hb, hml, hown, hts⟩ := X.1
  have hK := X.2.1
  have hN := X.2.2.2
  intro n
  induction n with
  | zero =>
    intro _ _ _ _ _ _ _ _ hf
    cases hf
  | succ n ih =>
    intro v6 v7 W_sorts W_values W_count e_W_sorts e_W_values e_W_count hf H locs ls hw hl kx
    rw [l_X6_sow_62] at hf
    refine lv_iload hx hb dX6_sow_62 (lv_at hl 6 rfl) ?_
    refine lv_iload_n hx hb dX6_sow_64 rfl (lv_at hl 2 rfl) ?_
    refine lv_icmp_ge (tgt := 112) hx hb dX6_sow_65 (by decide) (fun b16 => ?_) (fun b16 => ?_)
    · replace hf := it_t hf b16
      cases hf
      exact kx _ _ _ hw (lv_sub hl [0] rfl)
    · replace hf := it_f hf b16
      refine lv_ldc (v := 1103515245) hx hb hown (hts _ m_X6_sow_1) dX6_sow_68 ?_
      refine lv_iload hx hb dX6_sow_70 (lv_at hl 5 rfl) ?_
      refine lv_imul hx hb dX6_sow_72 ?_
      refine lv_sipush (v := 12345) hx hb dX6_sow_73 (by decide) ?_
      refine lv_iadd hx hb dX6_sow_76 ?_
      refine lv_topi (fun x17 ex17 => ?_)
      replace hf := nl_at hf ex17
      refine lv_istore (lv' := [(6, .int x17), (0, .ref (aG 0)), (1, .int v1), (2, .int v2), (4, .int v4), (5, .int v5), (7, .int v7)]) hx hb dX6_sow_77 hl (by decide) rfl (fun ls hl => ?_)
      refine lv_aload_n hx hb dX6_sow_79 rfl (lv_at hl 1 rfl) ?_
      refine va_get (D := (dC, dI)) (ci := 6) (v := .ref (aW 0)) (C := RX6) (T := TX6) (N := 6) hx hb hts i_X6_sow_X6 hown hK hw.1 0 rfl rfl 0 (by decide) (hts _ m_X6_sow_0) (fun _ h9 => h9) rfl dX6_sow_80 ?_
      refine lv_iload_n hx hb dX6_sow_83 rfl (lv_at hl 2 rfl) ?_
      refine lv_aload_n hx hb dX6_sow_84 rfl (lv_at hl 1 rfl) ?_
      refine va_get (D := (dC, dI)) (ci := 6) (v := .ref (aW 0)) (C := RX6) (T := TX6) (N := 6) hx hb hts i_X6_sow_X6 hown hK hw.1 0 rfl rfl 0 (by decide) (hts _ m_X6_sow_0) (fun _ h9 => h9) rfl dX6_sow_85 ?_
      refine va_getN (D := (dC, dI)) (ci := 4) (v := .int W_count) (C := RX4) (T := TX4) (N := 5) hx hb hts i_X6_sow_X4 hown hK hw.1 1 rfl rfl 4 (by decide) (va_Nw.use rfl (hN _ nk_15)) (fun _ h9 => h9) rfl dX6_sow_88 ?_
      refine lv_iload hx hb dX6_sow_91 (lv_at hl 4 rfl) ?_
      refine lv_imul hx hb dX6_sow_93 ?_
      refine lv_iload hx hb dX6_sow_94 (lv_at hl 0 rfl) ?_
      refine lv_bipush (v := 8) hx hb dX6_sow_96 (by decide) ?_
      refine lv_iushr (v := (x17.toUInt32 >>> (((8 : Int32)).toUInt32 &&& Int32.toUInt32 31)).toInt32) hx hb dX6_sow_98 rfl ?_
      refine lv_iload hx hb dX6_sow_99 (lv_at hl 5 rfl) ?_
      have g18 := nz_ne (gd_l hf)
      replace hf := gd_r hf
      refine lv_irem hx hb dX6_sow_101 g18 ?_
      refine lv_iadd hx hb dX6_sow_102 ?_
      obtain ⟨c19, c20, c21, h22, hf⟩ := bd3_ob hf
      refine clVV (As := [.int v1, .int ((W_count * v4) + ((x17.toUInt32 >>> (((8 : Int32)).toUInt32 &&& Int32.toUInt32 31)).toInt32 - (x17.toUInt32 >>> (((8 : Int32)).toUInt32 &&& Int32.toUInt32 31)).toInt32 / v5 * v5))]) (rest := []) X (c_X4_add l dC dI cI cJ cZ aW N W_sorts W_values W_turns W_falling W_count v1 ((W_count * v4) + ((x17.toUInt32 >>> (((8 : Int32)).toUInt32 &&& Int32.toUInt32 31)).toInt32 - (x17.toUInt32 >>> (((8 : Int32)).toUInt32 &&& Int32.toUInt32 31)).toInt32 / v5 * v5)) h22) (cwV 2 hts gX6_sow_X4_add rfl rfl rfl (by decide +kernel) ⟨Nat.le_of_ble_eq_true rfl, Nat.le_of_ble_eq_true rfl⟩) (ci := 4) rfl rfl rfl hw [1, 2, 3, 4, 5] rfl rfl rfl rfl hl.1 rfl (Nat.le_of_ble_eq_true rfl) dX6_sow_103 ⟨Nat.zero_le _, Nat.zero_le _⟩ (fun H locs hw => ?_)
      replace hw : Wd (dC, dI) A s.heap H locs (w_GWHRPCO aG aW aH aR aP aC aO cI cJ cZ c19 c20 W_turns W_falling c21 H_items H_size R_members R_starts R_inOrder R_standing R_heads R_tails R_rowsInAll R_made R_all R_filled P_takenRuns P_starts P_queued P_merges P_told C_sampled C_sampleStandings C_sizes C_ends C_lies C_merged C_reached C_done C_mergedBy C_parts C_samples C_bound C_ticks C_mergedInAll C_mergedAgain O_paces O_up) := hw
      obtain ⟨x23, ex23⟩ : ∃ y : Int32, y = v7 + 1 := ⟨_, rfl⟩
      replace hf := nl_at hf ex23
      refine lv_iinc (v := x23) (lv' := [(7, .int x23), (6, .int x17), (0, .ref (aG 0)), (1, .int v1), (2, .int v2), (4, .int v4), (5, .int v5)]) hx hb dX6_sow_106 hl (k := 6) rfl (by rw [ex23]; rfl) (by decide) rfl (fun ls hl => ?_)
      refine lv_goto (tgt := 62) hx hb dX6_sow_109 (by decide) ?_
      exact ih _ _ _ _ _ _ _ _ hf _ _ _ hw (lv_sub hl [2, 3, 4, 5, 6, 1, 0] rfl) kx
set_option maxHeartbeats 4000000 in
set_option maxRecDepth 100000 in
theorem c_X6_sow (l : Launch) (dC : Nat → ClassId) (dI : Nat → Nat → Nat) (cI cJ cZ : ClassId) (aG aW aH aR aP aC aO : Nat → Nat) (N : Nat) (W_sorts : (Nat → Int32)) (W_values : (Nat → Int32)) (W_turns : (Nat → Int32)) (W_falling : (Nat → Int32)) (W_count : Int32) (H_items : (Nat → Int64)) (H_size : Int32) (R_members : (Nat → Int32)) (R_starts : (Nat → Int32)) (R_inOrder : (Nat → Int32)) (R_standing : (Nat → Int32)) (R_heads : (Nat → Int32)) (R_tails : (Nat → Int32)) (R_rowsInAll : Int32) (R_made : Int32) (R_all : Int32) (R_filled : Int32) (P_takenRuns : (Nat → Int32)) (P_starts : (Nat → Int32)) (P_queued : (Nat → Int32)) (P_merges : Int32) (P_told : Int32) (C_sampled : (Nat → Int32)) (C_sampleStandings : (Nat → Int32)) (C_sizes : (Nat → Int32)) (C_ends : (Nat → Int32)) (C_lies : (Nat → Int32)) (C_merged : (Nat → Int32)) (C_reached : (Nat → Int32)) (C_done : (Nat → Int32)) (C_mergedBy : (Nat → Int32)) (C_parts : Int32) (C_samples : Int32) (C_bound : Int32) (C_ticks : Int32) (C_mergedInAll : Int32) (C_mergedAgain : Int32) (O_paces : (Nat → Int32)) (O_up : (Nat → Int32)) (v1 : Int32) (v2 : Int32) (v3 : Int32) (v4 : Int32) (v5 : Int32) {r : Int32} {o_W_sorts : (Nat → Int32)} {o_W_values : (Nat → Int32)} {o_W_count : Int32} (hf : f_X6_sow N W_sorts W_values W_count v1 v2 v3 v4 v5 = some (r, o_W_sorts, o_W_values, o_W_count)) :
    CtI l yX6_sow wsX6_sow rm_X6_sow (dC, dI) (tyl cI cJ cZ) [.ref (aG 0), .int v1, .int v2, .int v3, .int v4, .int v5] (w_GWHRPCO aG aW aH aR aP aC aO cI cJ cZ W_sorts W_values W_turns W_falling W_count H_items H_size R_members R_starts R_inOrder R_standing R_heads R_tails R_rowsInAll R_made R_all R_filled P_takenRuns P_starts P_queued P_merges P_told C_sampled C_sampleStandings C_sizes C_ends C_lies C_merged C_reached C_done C_mergedBy C_parts C_samples C_bound C_ticks C_mergedInAll C_mergedAgain O_paces O_up) (w_GWHRPCO aG aW aH aR aP aC aO cI cJ cZ o_W_sorts o_W_values W_turns W_falling o_W_count H_items H_size R_members R_starts R_inOrder R_standing R_heads R_tails R_rowsInAll R_made R_all R_filled P_takenRuns P_starts P_queued P_merges P_told C_sampled C_sampleStandings C_sizes C_ends C_lies C_merged C_reached C_done C_mergedBy C_parts C_samples C_bound C_ticks C_mergedInAll C_mergedAgain O_paces O_up) r := by
  refine startI (cc := cX6_sow) (maxL := 8) (rt := (some .int)) (by decide +kernel) rfl (Nat.le_of_ble_eq_true rfl) ?_
  intro p e s m below meth c A ls X hr hlocks hw hl
  replace X : Cx p m c cX6_sow 8 s _ wsX6_sow RX6 (dC, dI) (tyl cI cJ cZ) A := X
  replace hl : lv_has ls 8 [(0, .ref (aG 0)), (1, .int v1), (2, .int v2), (3, .int v3), (4, .int v4), (5, .int v5)] := hl
  obtain ⟨hx, hb, hml, hown, hts⟩ := X.1
  have hK := X.2.1
  have hN := X.2.2.2
  unfold f_X6_sow at hf
  refine lv_iload_n hx hb dX6_sow_0 rfl (lv_at hl 1 rfl) ?_
  refine lv_iconst (v := 0) hx hb dX6_sow_1 (by decide) ?_
  refine lv_iconst (v := 3) hx hb dX6_sow_2 (by decide) ?_
  obtain ⟨r1, h2, hf⟩ := bd1_ob hf
  refine clSI (As := [.int v1, .int (0 : Int32), .int (3 : Int32)]) (rest := []) X (c_X6_isIn l dC dI cI cJ cZ N v1 (0 : Int32) (3 : Int32) h2) (va_cwS 3 hts gX6_sow_X6_isIn rfl rfl rfl (by decide +kernel) ⟨Nat.le_of_ble_eq_true rfl, Nat.le_of_ble_eq_true rfl⟩) hw [] rfl rfl rfl rfl hl.1 rfl (Nat.le_of_ble_eq_true rfl) dX6_sow_3 ⟨Nat.zero_le _, Nat.zero_le _⟩ (fun H locs hw => ?_)
  replace hw : Wd (dC, dI) A s.heap H locs (w_GWHRPCO aG aW aH aR aP aC aO cI cJ cZ W_sorts W_values W_turns W_falling W_count H_items H_size R_members R_starts R_inOrder R_standing R_heads R_tails R_rowsInAll R_made R_all R_filled P_takenRuns P_starts P_queued P_merges P_told C_sampled C_sampleStandings C_sizes C_ends C_lies C_merged C_reached C_done C_mergedBy C_parts C_samples C_bound C_ticks C_mergedInAll C_mergedAgain O_paces O_up) := hw
  refine lv_if_eq (tgt := 54) hx hb dX6_sow_6 (by decide) (fun b3 => ?_) (fun b3 => ?_)
  · replace hf := it_t hf b3
    refine lv_iconst (v := (-1)) hx hb dX6_sow_54 (by decide) ?_
    cases hf
    exact endI X hr rfl hlocks rfl hw dX6_sow_55
  · replace hf := it_f hf b3
    refine lv_iload_n hx hb dX6_sow_9 rfl (lv_at hl 2 rfl) ?_
    refine lv_iconst (v := 1) hx hb dX6_sow_10 (by decide) ?_
    refine lv_bipush (v := 100) hx hb dX6_sow_11 (by decide) ?_
    obtain ⟨r4, h5, hf⟩ := bd1_ob hf
    refine clSI (As := [.int v2, .int (1 : Int32), .int (100 : Int32)]) (rest := []) X (c_X6_isIn l dC dI cI cJ cZ N v2 (1 : Int32) (100 : Int32) h5) (va_cwS 3 hts gX6_sow_X6_isIn rfl rfl rfl (by decide +kernel) ⟨Nat.le_of_ble_eq_true rfl, Nat.le_of_ble_eq_true rfl⟩) hw [] rfl rfl rfl rfl hl.1 rfl (Nat.le_of_ble_eq_true rfl) dX6_sow_13 ⟨Nat.zero_le _, Nat.zero_le _⟩ (fun H locs hw => ?_)
    replace hw : Wd (dC, dI) A s.heap H locs (w_GWHRPCO aG aW aH aR aP aC aO cI cJ cZ W_sorts W_values W_turns W_falling W_count H_items H_size R_members R_starts R_inOrder R_standing R_heads R_tails R_rowsInAll R_made R_all R_filled P_takenRuns P_starts P_queued P_merges P_told C_sampled C_sampleStandings C_sizes C_ends C_lies C_merged C_reached C_done C_mergedBy C_parts C_samples C_bound C_ticks C_mergedInAll C_mergedAgain O_paces O_up) := hw
    refine lv_if_eq (tgt := 54) hx hb dX6_sow_16 (by decide) (fun b6 => ?_) (fun b6 => ?_)
    · replace hf := it_t hf b6
      refine lv_iconst (v := (-1)) hx hb dX6_sow_54 (by decide) ?_
      cases hf
      exact endI X hr rfl hlocks rfl hw dX6_sow_55
    · replace hf := it_f hf b6
      refine lv_iload hx hb dX6_sow_19 (lv_at hl 4 rfl) ?_
      refine lv_bipush (v := (-100)) hx hb dX6_sow_21 (by decide) ?_
      refine lv_bipush (v := 100) hx hb dX6_sow_23 (by decide) ?_
      obtain ⟨r7, h8, hf⟩ := bd1_ob hf
      refine clSI (As := [.int v4, .int (-100 : Int32), .int (100 : Int32)]) (rest := []) X (c_X6_isIn l dC dI cI cJ cZ N v4 (-100 : Int32) (100 : Int32) h8) (va_cwS 3 hts gX6_sow_X6_isIn rfl rfl rfl (by decide +kernel) ⟨Nat.le_of_ble_eq_true rfl, Nat.le_of_ble_eq_true rfl⟩) hw [] rfl rfl rfl rfl hl.1 rfl (Nat.le_of_ble_eq_true rfl) dX6_sow_25 ⟨Nat.zero_le _, Nat.zero_le _⟩ (fun H locs hw => ?_)
      replace hw : Wd (dC, dI) A s.heap H locs (w_GWHRPCO aG aW aH aR aP aC aO cI cJ cZ W_sorts W_values W_turns W_falling W_count H_items H_size R_members R_starts R_inOrder R_standing R_heads R_tails R_rowsInAll R_made R_all R_filled P_takenRuns P_starts P_queued P_merges P_told C_sampled C_sampleStandings C_sizes C_ends C_lies C_merged C_reached C_done C_mergedBy C_parts C_samples C_bound C_ticks C_mergedInAll C_mergedAgain O_paces O_up) := hw
      refine lv_if_eq (tgt := 54) hx hb dX6_sow_28 (by decide) (fun b9 => ?_) (fun b9 => ?_)
      · replace hf := it_t hf b9
        refine lv_iconst (v := (-1)) hx hb dX6_sow_54 (by decide) ?_
        cases hf
        exact endI X hr rfl hlocks rfl hw dX6_sow_55
      · replace hf := it_f hf b9
        refine lv_iload hx hb dX6_sow_31 (lv_at hl 5 rfl) ?_
        refine lv_iconst (v := 1) hx hb dX6_sow_33 (by decide) ?_
        refine lv_sipush (v := 10000) hx hb dX6_sow_34 (by decide) ?_
        obtain ⟨r10, h11, hf⟩ := bd1_ob hf
        refine clSI (As := [.int v5, .int (1 : Int32), .int (10000 : Int32)]) (rest := []) X (c_X6_isIn l dC dI cI cJ cZ N v5 (1 : Int32) (10000 : Int32) h11) (va_cwS 3 hts gX6_sow_X6_isIn rfl rfl rfl (by decide +kernel) ⟨Nat.le_of_ble_eq_true rfl, Nat.le_of_ble_eq_true rfl⟩) hw [] rfl rfl rfl rfl hl.1 rfl (Nat.le_of_ble_eq_true rfl) dX6_sow_37 ⟨Nat.zero_le _, Nat.zero_le _⟩ (fun H locs hw => ?_)
        replace hw : Wd (dC, dI) A s.heap H locs (w_GWHRPCO aG aW aH aR aP aC aO cI cJ cZ W_sorts W_values W_turns W_falling W_count H_items H_size R_members R_starts R_inOrder R_standing R_heads R_tails R_rowsInAll R_made R_all R_filled P_takenRuns P_starts P_queued P_merges P_told C_sampled C_sampleStandings C_sizes C_ends C_lies C_merged C_reached C_done C_mergedBy C_parts C_samples C_bound C_ticks C_mergedInAll C_mergedAgain O_paces O_up) := hw
        refine lv_if_eq (tgt := 54) hx hb dX6_sow_40 (by decide) (fun b12 => ?_) (fun b12 => ?_)
        · replace hf := it_t hf b12
          refine lv_iconst (v := (-1)) hx hb dX6_sow_54 (by decide) ?_
          cases hf
          exact endI X hr rfl hlocks rfl hw dX6_sow_55
        · replace hf := it_f hf b12
          refine lv_aload_n hx hb dX6_sow_43 rfl (lv_at hl 0 rfl) ?_
          refine va_get (D := (dC, dI)) (ci := 6) (v := .ref (aW 0)) (C := RX6) (T := TX6) (N := 6) hx hb hts i_X6_sow_X6 hown hK hw.1 0 rfl rfl 0 (by decide) (hts _ m_X6_sow_0) (fun _ h9 => h9) rfl dX6_sow_44 ?_
          refine lv_iload_n hx hb dX6_sow_47 rfl (lv_at hl 2 rfl) ?_
          obtain ⟨r13, h14, hf⟩ := bd1_ob hf
          refine clVI (As := [.int v2]) (rest := []) X (c_X4_hasRoomFor l dC dI cI cJ cZ aW N W_sorts W_values W_turns W_falling W_count v2 h14) (cwV 1 hts gX6_sow_X4_hasRoomFor rfl rfl rfl (by decide +kernel) ⟨Nat.le_of_ble_eq_true rfl, Nat.le_of_ble_eq_true rfl⟩) (ci := 4) rfl rfl rfl hw [1, 2, 3, 4, 5] rfl rfl rfl rfl hl.1 rfl (Nat.le_of_ble_eq_true rfl) dX6_sow_48 ⟨Nat.zero_le _, Nat.zero_le _⟩ (fun H locs hw => ?_)
          replace hw : Wd (dC, dI) A s.heap H locs (w_GWHRPCO aG aW aH aR aP aC aO cI cJ cZ W_sorts W_values W_turns W_falling W_count H_items H_size R_members R_starts R_inOrder R_standing R_heads R_tails R_rowsInAll R_made R_all R_filled P_takenRuns P_starts P_queued P_merges P_told C_sampled C_sampleStandings C_sizes C_ends C_lies C_merged C_reached C_done C_mergedBy C_parts C_samples C_bound C_ticks C_mergedInAll C_mergedAgain O_paces O_up) := hw
          refine lv_if_ne (tgt := 56) hx hb dX6_sow_51 (by decide) (fun b15 => ?_) (fun b15 => ?_)
          · replace hf := it_f hf b15
            refine lv_iload_n hx hb dX6_sow_56 rfl (lv_at hl 3 rfl) ?_
            refine lv_istore (lv' := [(6, .int v3), (0, .ref (aG 0)), (1, .int v1), (2, .int v2), (3, .int v3), (4, .int v4), (5, .int v5)]) hx hb dX6_sow_57 hl (by decide) rfl (fun ls hl => ?_)
            refine lv_iconst (v := 0) hx hb dX6_sow_59 (by decide) ?_
            refine lv_istore (lv' := [(7, .int 0), (6, .int v3), (0, .ref (aG 0)), (1, .int v1), (2, .int v2), (3, .int v3), (4, .int v4), (5, .int v5)]) hx hb dX6_sow_60 hl (by decide) rfl (fun ls hl => ?_)
            obtain ⟨e24, e25, e26, h27, hf⟩ := bd3_ob hf
            refine t_X6_sow_62 aG aW aH aR aP aC aO X N W_turns W_falling H_items H_size R_members R_starts R_inOrder R_standing R_heads R_tails R_rowsInAll R_made R_all R_filled P_takenRuns P_starts P_queued P_merges P_told C_sampled C_sampleStandings C_sizes C_ends C_lies C_merged C_reached C_done C_mergedBy C_parts C_samples C_bound C_ticks C_mergedInAll C_mergedAgain O_paces O_up v1 v2 v4 v5 N _ _ _ _ _ _ _ _ h27 _ _ _ hw (lv_sub hl [2, 3, 4, 6, 7, 1, 0] rfl) (fun H locs ls hw hl => ?_)
            refine lv_aload_n hx hb dX6_sow_112 rfl (lv_at hl 0 rfl) ?_
            refine va_get (D := (dC, dI)) (ci := 6) (v := .ref (aW 0)) (C := RX6) (T := TX6) (N := 6) hx hb hts i_X6_sow_X6 hown hK hw.1 0 rfl rfl 0 (by decide) (hts _ m_X6_sow_0) (fun _ h9 => h9) rfl dX6_sow_113 ?_
            refine va_getN (D := (dC, dI)) (ci := 4) (v := .int e26) (C := RX4) (T := TX4) (N := 5) hx hb hts i_X6_sow_X4 hown hK hw.1 1 rfl rfl 4 (by decide) (va_Nw.use rfl (hN _ nk_15)) (fun _ h9 => h9) rfl dX6_sow_116 ?_
            cases hf
            exact endI X hr rfl hlocks rfl hw dX6_sow_119
          · replace hf := it_t hf b15
            refine lv_iconst (v := (-1)) hx hb dX6_sow_54 (by decide) ?_
            cases hf
            exact endI X hr rfl hlocks rfl hw dX6_sow_55
def rm_X6_forgetRuns : Room := { frames := 1, cells := 0, slots := 0, locals := 21 }
set_option maxRecDepth 20000 in
theorem i_X6_forgetRuns_X6 : ∀ w ∈ u_ws RX6 TX6 6, w ∈ wsX6_forgetRuns := by decide +kernel
set_option maxRecDepth 20000 in
theorem m_X6_forgetRuns_0 : Cond.fieldLink RX6 26 "GreatSort" "runs" "LGreatSort$Runs;" ∈ wsX6_forgetRuns := by decide +kernel
set_option maxRecDepth 20000 in
theorem m_X6_forgetRuns_1 : Cond.fieldLink RX6 33 "GreatSort" "plan" "LGreatSort$Plan;" ∈ wsX6_forgetRuns := by decide +kernel
set_option maxRecDepth 20000 in
theorem m_X6_forgetRuns_2 : Cond.fieldLink RX6 40 "GreatSort" "cut" "LGreatSort$Cut;" ∈ wsX6_forgetRuns := by decide +kernel
set_option maxHeartbeats 4000000 in
set_option maxRecDepth 100000 in
theorem c_X6_forgetRuns (l : Launch) (dC : Nat → ClassId) (dI : Nat → Nat → Nat) (cI cJ cZ : ClassId) (aG aW aH aR aP aC aO : Nat → Nat) (N : Nat) (W_sorts : (Nat → Int32)) (W_values : (Nat → Int32)) (W_turns : (Nat → Int32)) (W_falling : (Nat → Int32)) (W_count : Int32) (H_items : (Nat → Int64)) (H_size : Int32) (R_members : (Nat → Int32)) (R_starts : (Nat → Int32)) (R_inOrder : (Nat → Int32)) (R_standing : (Nat → Int32)) (R_heads : (Nat → Int32)) (R_tails : (Nat → Int32)) (R_rowsInAll : Int32) (R_made : Int32) (R_all : Int32) (R_filled : Int32) (P_takenRuns : (Nat → Int32)) (P_starts : (Nat → Int32)) (P_queued : (Nat → Int32)) (P_merges : Int32) (P_told : Int32) (C_sampled : (Nat → Int32)) (C_sampleStandings : (Nat → Int32)) (C_sizes : (Nat → Int32)) (C_ends : (Nat → Int32)) (C_lies : (Nat → Int32)) (C_merged : (Nat → Int32)) (C_reached : (Nat → Int32)) (C_done : (Nat → Int32)) (C_mergedBy : (Nat → Int32)) (C_parts : Int32) (C_samples : Int32) (C_bound : Int32) (C_ticks : Int32) (C_mergedInAll : Int32) (C_mergedAgain : Int32) (O_paces : (Nat → Int32)) (O_up : (Nat → Int32))  {o_R_rowsInAll : Int32} {o_R_made : Int32} {o_R_all : Int32} {o_R_filled : Int32} {o_P_merges : Int32} {o_P_told : Int32} {o_C_mergedBy : (Nat → Int32)} {o_C_parts : Int32} {o_C_samples : Int32} {o_C_bound : Int32} {o_C_ticks : Int32} {o_C_mergedInAll : Int32} {o_C_mergedAgain : Int32} (hf : f_X6_forgetRuns N R_rowsInAll R_made R_all R_filled P_merges P_told C_mergedBy C_parts C_samples C_bound C_ticks C_mergedInAll C_mergedAgain  = some (o_R_rowsInAll, o_R_made, o_R_all, o_R_filled, o_P_merges, o_P_told, o_C_mergedBy, o_C_parts, o_C_samples, o_C_bound, o_C_ticks, o_C_mergedInAll, o_C_mergedAgain)) :
    CtV l yX6_forgetRuns wsX6_forgetRuns rm_X6_forgetRuns (dC, dI) (tyl cI cJ cZ) [.ref (aG 0)] (w_GWHRPCO aG aW aH aR aP aC aO cI cJ cZ W_sorts W_values W_turns W_falling W_count H_items H_size R_members R_starts R_inOrder R_standing R_heads R_tails R_rowsInAll R_made R_all R_filled P_takenRuns P_starts P_queued P_merges P_told C_sampled C_sampleStandings C_sizes C_ends C_lies C_merged C_reached C_done C_mergedBy C_parts C_samples C_bound C_ticks C_mergedInAll C_mergedAgain O_paces O_up) (w_GWHRPCO aG aW aH aR aP aC aO cI cJ cZ W_sorts W_values W_turns W_falling W_count H_items H_size R_members R_starts R_inOrder R_standing R_heads R_tails o_R_rowsInAll o_R_made o_R_all o_R_filled P_takenRuns P_starts P_queued o_P_merges o_P_told C_sampled C_sampleStandings C_sizes C_ends C_lies C_merged C_reached C_done o_C_mergedBy o_C_parts o_C_samples o_C_bound o_C_ticks o_C_mergedInAll o_C_mergedAgain O_paces O_up) := by
  refine startV (cc := cX6_forgetRuns) (maxL := 1) (rt := none) (by decide +kernel) rfl (Nat.le_of_ble_eq_true rfl) ?_
  intro p e s m below meth c A ls X hr hlocks hw hl
  replace X : Cx p m c cX6_forgetRuns 1 s _ wsX6_forgetRuns RX6 (dC, dI) (tyl cI cJ cZ) A := X
  replace hl : lv_has ls 1 [(0, .ref (aG 0))] := hl
  obtain ⟨hx, hb, hml, hown, hts⟩ := X.1
  have hK := X.2.1
  have hN := X.2.2.2
  unfold f_X6_forgetRuns at hf
  refine lv_aload_n hx hb dX6_forgetRuns_0 rfl (lv_at hl 0 rfl) ?_
  refine va_get (D := (dC, dI)) (ci := 6) (v := .ref (aR 0)) (C := RX6) (T := TX6) (N := 6) hx hb hts i_X6_forgetRuns_X6 hown hK hw.1 0 rfl rfl 2 (by decide) (hts _ m_X6_forgetRuns_0) (fun _ h9 => h9) rfl dX6_forgetRuns_1 ?_
  obtain ⟨c1, c2, c3, c4, h5, hf⟩ := bd4_ob hf
  refine clVV (As := []) (rest := []) X (c_X5_forget l dC dI cI cJ cZ aR N R_members R_starts R_inOrder R_standing R_heads R_tails R_rowsInAll R_made R_all R_filled h5) (cwV 0 hts gX6_forgetRuns_X5_forget rfl rfl rfl (by decide +kernel) ⟨Nat.le_of_ble_eq_true rfl, Nat.le_of_ble_eq_true rfl⟩) (ci := 5) rfl rfl rfl hw [8, 9, 10, 11, 12, 13, 14] rfl rfl rfl rfl hl.1 rfl (Nat.le_of_ble_eq_true rfl) dX6_forgetRuns_4 ⟨Nat.zero_le _, Nat.zero_le _⟩ (fun H locs hw => ?_)
  replace hw : Wd (dC, dI) A s.heap H locs (w_GWHRPCO aG aW aH aR aP aC aO cI cJ cZ W_sorts W_values W_turns W_falling W_count H_items H_size R_members R_starts R_inOrder R_standing R_heads R_tails c1 c2 c3 c4 P_takenRuns P_starts P_queued P_merges P_told C_sampled C_sampleStandings C_sizes C_ends C_lies C_merged C_reached C_done C_mergedBy C_parts C_samples C_bound C_ticks C_mergedInAll C_mergedAgain O_paces O_up) := hw
  refine lv_aload_n hx hb dX6_forgetRuns_7 rfl (lv_at hl 0 rfl) ?_
  refine va_get (D := (dC, dI)) (ci := 6) (v := .ref (aP 0)) (C := RX6) (T := TX6) (N := 6) hx hb hts i_X6_forgetRuns_X6 hown hK hw.1 0 rfl rfl 3 (by decide) (hts _ m_X6_forgetRuns_1) (fun _ h9 => h9) rfl dX6_forgetRuns_8 ?_
  obtain ⟨c6, c7, h8, hf⟩ := bd2_ob hf
  refine clVV (As := []) (rest := []) X (c_X3_forget l dC dI cI cJ cZ aP N P_takenRuns P_starts P_queued P_merges P_told h8) (cwV 0 hts gX6_forgetRuns_X3_forget rfl rfl rfl (by decide +kernel) ⟨Nat.le_of_ble_eq_true rfl, Nat.le_of_ble_eq_true rfl⟩) (ci := 3) rfl rfl rfl hw [15, 16, 17, 18] rfl rfl rfl rfl hl.1 rfl (Nat.le_of_ble_eq_true rfl) dX6_forgetRuns_11 ⟨Nat.zero_le _, Nat.zero_le _⟩ (fun H locs hw => ?_)
  replace hw : Wd (dC, dI) A s.heap H locs (w_GWHRPCO aG aW aH aR aP aC aO cI cJ cZ W_sorts W_values W_turns W_falling W_count H_items H_size R_members R_starts R_inOrder R_standing R_heads R_tails c1 c2 c3 c4 P_takenRuns P_starts P_queued c6 c7 C_sampled C_sampleStandings C_sizes C_ends C_lies C_merged C_reached C_done C_mergedBy C_parts C_samples C_bound C_ticks C_mergedInAll C_mergedAgain O_paces O_up) := hw
  refine lv_aload_n hx hb dX6_forgetRuns_14 rfl (lv_at hl 0 rfl) ?_
  refine va_get (D := (dC, dI)) (ci := 6) (v := .ref (aC 0)) (C := RX6) (T := TX6) (N := 6) hx hb hts i_X6_forgetRuns_X6 hown hK hw.1 0 rfl rfl 4 (by decide) (hts _ m_X6_forgetRuns_2) (fun _ h9 => h9) rfl dX6_forgetRuns_15 ?_
  obtain ⟨c9, c10, c11, c12, c13, c14, c15, h16, hf⟩ := bd7_ob hf
  refine clVV (As := []) (rest := []) X (c_X0_forget l dC dI cI cJ cZ aC N C_sampled C_sampleStandings C_sizes C_ends C_lies C_merged C_reached C_done C_mergedBy C_parts C_samples C_bound C_ticks C_mergedInAll C_mergedAgain h16) (cwV 0 hts gX6_forgetRuns_X0_forget rfl rfl rfl (by decide +kernel) ⟨Nat.le_of_ble_eq_true rfl, Nat.le_of_ble_eq_true rfl⟩) (ci := 0) rfl rfl rfl hw [19, 20, 21, 22, 23, 24, 25, 26, 27, 28] rfl rfl rfl rfl hl.1 rfl (Nat.le_of_ble_eq_true rfl) dX6_forgetRuns_18 ⟨Nat.zero_le _, Nat.zero_le _⟩ (fun H locs hw => ?_)
  replace hw : Wd (dC, dI) A s.heap H locs (w_GWHRPCO aG aW aH aR aP aC aO cI cJ cZ W_sorts W_values W_turns W_falling W_count H_items H_size R_members R_starts R_inOrder R_standing R_heads R_tails c1 c2 c3 c4 P_takenRuns P_starts P_queued c6 c7 C_sampled C_sampleStandings C_sizes C_ends C_lies C_merged C_reached C_done c9 c10 c11 c12 c13 c14 c15 O_paces O_up) := hw
  cases hf
  exact endV X hr hlocks hw dX6_forgetRuns_21
def rm_X6_clear : Room := { frames := 2, cells := 0, slots := 0, locals := 41 }
set_option maxRecDepth 20000 in
theorem i_X6_clear_X6 : ∀ w ∈ u_ws RX6 TX6 6, w ∈ wsX6_clear := by decide +kernel
set_option maxRecDepth 20000 in
theorem i_X6_clear_X4 : ∀ w ∈ u_ws RX4 TX4 5, w ∈ wsX6_clear := by decide +kernel
set_option maxRecDepth 20000 in
theorem m_X6_clear_0 : Cond.fieldLink RX6 12 "GreatSort" "rows" "LGreatSort$Rows;" ∈ wsX6_clear := by decide +kernel
set_option maxHeartbeats 4000000 in
set_option maxRecDepth 100000 in
theorem c_X6_clear (l : Launch) (dC : Nat → ClassId) (dI : Nat → Nat → Nat) (cI cJ cZ : ClassId) (aG aW aH aR aP aC aO : Nat → Nat) (N : Nat) (W_sorts : (Nat → Int32)) (W_values : (Nat → Int32)) (W_turns : (Nat → Int32)) (W_falling : (Nat → Int32)) (W_count : Int32) (H_items : (Nat → Int64)) (H_size : Int32) (R_members : (Nat → Int32)) (R_starts : (Nat → Int32)) (R_inOrder : (Nat → Int32)) (R_standing : (Nat → Int32)) (R_heads : (Nat → Int32)) (R_tails : (Nat → Int32)) (R_rowsInAll : Int32) (R_made : Int32) (R_all : Int32) (R_filled : Int32) (P_takenRuns : (Nat → Int32)) (P_starts : (Nat → Int32)) (P_queued : (Nat → Int32)) (P_merges : Int32) (P_told : Int32) (C_sampled : (Nat → Int32)) (C_sampleStandings : (Nat → Int32)) (C_sizes : (Nat → Int32)) (C_ends : (Nat → Int32)) (C_lies : (Nat → Int32)) (C_merged : (Nat → Int32)) (C_reached : (Nat → Int32)) (C_done : (Nat → Int32)) (C_mergedBy : (Nat → Int32)) (C_parts : Int32) (C_samples : Int32) (C_bound : Int32) (C_ticks : Int32) (C_mergedInAll : Int32) (C_mergedAgain : Int32) (O_paces : (Nat → Int32)) (O_up : (Nat → Int32))  {r : Int32} {o_W_count : Int32} {o_R_rowsInAll : Int32} {o_R_made : Int32} {o_R_all : Int32} {o_R_filled : Int32} {o_P_merges : Int32} {o_P_told : Int32} {o_C_mergedBy : (Nat → Int32)} {o_C_parts : Int32} {o_C_samples : Int32} {o_C_bound : Int32} {o_C_ticks : Int32} {o_C_mergedInAll : Int32} {o_C_mergedAgain : Int32} (hf : f_X6_clear N W_count R_rowsInAll R_made R_all R_filled P_merges P_told C_mergedBy C_parts C_samples C_bound C_ticks C_mergedInAll C_mergedAgain  = some (r, o_W_count, o_R_rowsInAll, o_R_made, o_R_all, o_R_filled, o_P_merges, o_P_told, o_C_mergedBy, o_C_parts, o_C_samples, o_C_bound, o_C_ticks, o_C_mergedInAll, o_C_mergedAgain)) :
    CtI l yX6_clear wsX6_clear rm_X6_clear (dC, dI) (tyl cI cJ cZ) [.ref (aG 0)] (w_GWHRPCO aG aW aH aR aP aC aO cI cJ cZ W_sorts W_values W_turns W_falling W_count H_items H_size R_members R_starts R_inOrder R_standing R_heads R_tails R_rowsInAll R_made R_all R_filled P_takenRuns P_starts P_queued P_merges P_told C_sampled C_sampleStandings C_sizes C_ends C_lies C_merged C_reached C_done C_mergedBy C_parts C_samples C_bound C_ticks C_mergedInAll C_mergedAgain O_paces O_up) (w_GWHRPCO aG aW aH aR aP aC aO cI cJ cZ W_sorts W_values W_turns W_falling o_W_count H_items H_size R_members R_starts R_inOrder R_standing R_heads R_tails o_R_rowsInAll o_R_made o_R_all o_R_filled P_takenRuns P_starts P_queued o_P_merges o_P_told C_sampled C_sampleStandings C_sizes C_ends C_lies C_merged C_reached C_done o_C_mergedBy o_C_parts o_C_samples o_C_bound o_C_ticks o_C_mergedInAll o_C_mergedAgain O_paces O_up) r := by
  refine startI (cc := cX6_clear) (maxL := 2) (rt := (some .int)) (by decide +kernel) rfl (Nat.le_of_ble_eq_true rfl) ?_
  intro p e s m below meth c A ls X hr hlocks hw hl
  replace X : Cx p m c cX6_clear 2 s _ wsX6_clear RX6 (dC, dI) (tyl cI cJ cZ) A := X
  replace hl : lv_has ls 2 [(0, .ref (aG 0))] := hl
  obtain ⟨hx, hb, hml, hown, hts⟩ := X.1
  have hK := X.2.1
  have hN := X.2.2.2
  unfold f_X6_clear at hf
  refine lv_aload_n hx hb dX6_clear_0 rfl (lv_at hl 0 rfl) ?_
  refine va_get (D := (dC, dI)) (ci := 6) (v := .ref (aW 0)) (C := RX6) (T := TX6) (N := 6) hx hb hts i_X6_clear_X6 hown hK hw.1 0 rfl rfl 0 (by decide) (hts _ m_X6_clear_0) (fun _ h9 => h9) rfl dX6_clear_1 ?_
  refine va_getN (D := (dC, dI)) (ci := 4) (v := .int W_count) (C := RX4) (T := TX4) (N := 5) hx hb hts i_X6_clear_X4 hown hK hw.1 1 rfl rfl 4 (by decide) (va_Nw.use rfl (hN _ nk_15)) (fun _ h9 => h9) rfl dX6_clear_4 ?_
  refine lv_istore_n (lv' := [(1, .int W_count), (0, .ref (aG 0))]) hx hb dX6_clear_7 rfl hl (by decide) rfl (fun ls hl => ?_)
  refine lv_aload_n hx hb dX6_clear_8 rfl (lv_at hl 1 rfl) ?_
  refine va_get (D := (dC, dI)) (ci := 6) (v := .ref (aW 0)) (C := RX6) (T := TX6) (N := 6) hx hb hts i_X6_clear_X6 hown hK hw.1 0 rfl rfl 0 (by decide) (hts _ m_X6_clear_0) (fun _ h9 => h9) rfl dX6_clear_9 ?_
  refine lv_iconst (v := 0) hx hb dX6_clear_12 (by decide) ?_
  refine g_putN (D := (dC, dI)) (ci := 4) (v := .int 0) (ty := .int) (C := RX4) (T := TX4) (N := 5) hx hb hts i_X6_clear_X4 tyX4 tyX4_ok nmX4 hown hK hw 1 rfl rfl 4 (by decide) (va_Nw.use rfl (hN _ nk_15)) (fun _ h9 => h9) rfl (by decide +kernel) rfl rfl (Nat.le_of_ble_eq_true rfl) dX6_clear_13 (fun H locs hw => ?_)
  replace hw : Wd (dC, dI) A s.heap H locs (w_GWHRPCO aG aW aH aR aP aC aO cI cJ cZ W_sorts W_values W_turns W_falling 0 H_items H_size R_members R_starts R_inOrder R_standing R_heads R_tails R_rowsInAll R_made R_all R_filled P_takenRuns P_starts P_queued P_merges P_told C_sampled C_sampleStandings C_sizes C_ends C_lies C_merged C_reached C_done C_mergedBy C_parts C_samples C_bound C_ticks C_mergedInAll C_mergedAgain O_paces O_up) := hw
  refine lv_aload_n hx hb dX6_clear_16 rfl (lv_at hl 1 rfl) ?_
  obtain ⟨c1, c2, c3, c4, c5, c6, c7, c8, c9, c10, c11, c12, c13, h14, hf⟩ := bd13_ob hf
  refine clVV (As := []) (rest := []) X (c_X6_forgetRuns l dC dI cI cJ cZ aG aW aH aR aP aC aO N W_sorts W_values W_turns W_falling 0 H_items H_size R_members R_starts R_inOrder R_standing R_heads R_tails R_rowsInAll R_made R_all R_filled P_takenRuns P_starts P_queued P_merges P_told C_sampled C_sampleStandings C_sizes C_ends C_lies C_merged C_reached C_done C_mergedBy C_parts C_samples C_bound C_ticks C_mergedInAll C_mergedAgain O_paces O_up h14) (cwV 0 hts gX6_clear_X6_forgetRuns rfl rfl rfl (by decide +kernel) ⟨Nat.le_of_ble_eq_true rfl, Nat.le_of_ble_eq_true rfl⟩) (ci := 6) rfl rfl rfl hw [0, 1, 2, 3, 4, 5, 6, 7, 8, 9, 10, 11, 12, 13, 14, 15, 16, 17, 18, 19, 20, 21, 22, 23, 24, 25, 26, 27, 28, 29, 30, 31] rfl rfl rfl rfl hl.1 rfl (Nat.le_of_ble_eq_true rfl) dX6_clear_17 ⟨Nat.zero_le _, Nat.zero_le _⟩ (fun H locs hw => ?_)
  replace hw : Wd (dC, dI) A s.heap H locs (w_GWHRPCO aG aW aH aR aP aC aO cI cJ cZ W_sorts W_values W_turns W_falling 0 H_items H_size R_members R_starts R_inOrder R_standing R_heads R_tails c1 c2 c3 c4 P_takenRuns P_starts P_queued c5 c6 C_sampled C_sampleStandings C_sizes C_ends C_lies C_merged C_reached C_done c7 c8 c9 c10 c11 c12 c13 O_paces O_up) := hw
  refine lv_iload_n hx hb dX6_clear_20 rfl (lv_at hl 0 rfl) ?_
  cases hf
  exact endI X hr rfl hlocks rfl hw dX6_clear_21
def rm_X6_order : Room := { frames := 2, cells := 0, slots := 0, locals := 46 }
set_option maxRecDepth 20000 in
theorem i_X6_order_X6 : ∀ w ∈ u_ws RX6 TX6 6, w ∈ wsX6_order := by decide +kernel
set_option maxRecDepth 20000 in
theorem i_X6_order_X5 : ∀ w ∈ u_ws RX5 TX5 10, w ∈ wsX6_order := by decide +kernel
set_option maxRecDepth 20000 in
theorem i_X6_order_X4 : ∀ w ∈ u_ws RX4 TX4 5, w ∈ wsX6_order := by decide +kernel
set_option maxRecDepth 20000 in
theorem m_X6_order_0 : Cond.fieldLink RX6 26 "GreatSort" "runs" "LGreatSort$Runs;" ∈ wsX6_order := by decide +kernel
set_option maxRecDepth 20000 in
theorem m_X6_order_1 : Cond.fieldLink RX6 12 "GreatSort" "rows" "LGreatSort$Rows;" ∈ wsX6_order := by decide +kernel
set_option maxHeartbeats 4000000 in
set_option maxRecDepth 100000 in
theorem c_X6_order (l : Launch) (dC : Nat → ClassId) (dI : Nat → Nat → Nat) (cI cJ cZ : ClassId) (aG aW aH aR aP aC aO : Nat → Nat) (N : Nat) (W_sorts : (Nat → Int32)) (W_values : (Nat → Int32)) (W_turns : (Nat → Int32)) (W_falling : (Nat → Int32)) (W_count : Int32) (H_items : (Nat → Int64)) (H_size : Int32) (R_members : (Nat → Int32)) (R_starts : (Nat → Int32)) (R_inOrder : (Nat → Int32)) (R_standing : (Nat → Int32)) (R_heads : (Nat → Int32)) (R_tails : (Nat → Int32)) (R_rowsInAll : Int32) (R_made : Int32) (R_all : Int32) (R_filled : Int32) (P_takenRuns : (Nat → Int32)) (P_starts : (Nat → Int32)) (P_queued : (Nat → Int32)) (P_merges : Int32) (P_told : Int32) (C_sampled : (Nat → Int32)) (C_sampleStandings : (Nat → Int32)) (C_sizes : (Nat → Int32)) (C_ends : (Nat → Int32)) (C_lies : (Nat → Int32)) (C_merged : (Nat → Int32)) (C_reached : (Nat → Int32)) (C_done : (Nat → Int32)) (C_mergedBy : (Nat → Int32)) (C_parts : Int32) (C_samples : Int32) (C_bound : Int32) (C_ticks : Int32) (C_mergedInAll : Int32) (C_mergedAgain : Int32) (O_paces : (Nat → Int32)) (O_up : (Nat → Int32)) (v1 : Int32) (v2 : Int32) (v3 : Int32) (v4 : Int32) {r : Int32} {o_W_turns : (Nat → Int32)} (hf : f_X6_order N W_turns R_made v1 v2 v3 v4 = some (r, o_W_turns)) :
    CtI l yX6_order wsX6_order rm_X6_order (dC, dI) (tyl cI cJ cZ) [.ref (aG 0), .int v1, .int v2, .int v3, .int v4] (w_GWHRPCO aG aW aH aR aP aC aO cI cJ cZ W_sorts W_values W_turns W_falling W_count H_items H_size R_members R_starts R_inOrder R_standing R_heads R_tails R_rowsInAll R_made R_all R_filled P_takenRuns P_starts P_queued P_merges P_told C_sampled C_sampleStandings C_sizes C_ends C_lies C_merged C_reached C_done C_mergedBy C_parts C_samples C_bound C_ticks C_mergedInAll C_mergedAgain O_paces O_up) (w_GWHRPCO aG aW aH aR aP aC aO cI cJ cZ W_sorts W_values o_W_turns W_falling W_count H_items H_size R_members R_starts R_inOrder R_standing R_heads R_tails R_rowsInAll R_made R_all R_filled P_takenRuns P_starts P_queued P_merges P_told C_sampled C_sampleStandings C_sizes C_ends C_lies C_merged C_reached C_done C_mergedBy C_parts C_samples C_bound C_ticks C_mergedInAll C_mergedAgain O_paces O_up) r := by
  refine startI (cc := cX6_order) (maxL := 5) (rt := (some .boolean)) (by decide +kernel) rfl (Nat.le_of_ble_eq_true rfl) ?_
  intro p e s m below meth c A ls X hr hlocks hw hl
  replace X : Cx p m c cX6_order 5 s _ wsX6_order RX6 (dC, dI) (tyl cI cJ cZ) A := X
  replace hl : lv_has ls 5 [(0, .ref (aG 0)), (1, .int v1), (2, .int v2), (3, .int v3), (4, .int v4)] := hl
  obtain ⟨hx, hb, hml, hown, hts⟩ := X.1
  have hK := X.2.1
  have hN := X.2.2.2
  unfold f_X6_order at hf
  refine lv_aload_n hx hb dX6_order_0 rfl (lv_at hl 0 rfl) ?_
  refine va_get (D := (dC, dI)) (ci := 6) (v := .ref (aR 0)) (C := RX6) (T := TX6) (N := 6) hx hb hts i_X6_order_X6 hown hK hw.1 0 rfl rfl 2 (by decide) (hts _ m_X6_order_0) (fun _ h9 => h9) rfl dX6_order_1 ?_
  refine va_getN (D := (dC, dI)) (ci := 5) (v := .int R_made) (C := RX5) (T := TX5) (N := 10) hx hb hts i_X6_order_X5 hown hK hw.1 8 rfl rfl 7 (by decide) (va_Nw.use rfl (hN _ nk_16)) (fun _ h9 => h9) rfl dX6_order_4 ?_
  refine lv_if_gt (tgt := 21) hx hb dX6_order_7 (by decide) (fun b1 => ?_) (fun b1 => ?_)
  · replace hf := it_t hf b1
    refine lv_iconst (v := 0) hx hb dX6_order_21 (by decide) ?_
    have g2 := bz_nar (gd_l hf)
    replace hf := gd_r hf
    cases hf
    exact endI X hr g2 hlocks rfl hw dX6_order_22
  · replace hf := it_f hf b1
    refine lv_iload_n hx hb dX6_order_10 rfl (lv_at hl 1 rfl) ?_
    refine lv_iload_n hx hb dX6_order_11 rfl (lv_at hl 2 rfl) ?_
    refine lv_iload_n hx hb dX6_order_12 rfl (lv_at hl 3 rfl) ?_
    refine lv_iload hx hb dX6_order_13 (lv_at hl 4 rfl) ?_
    obtain ⟨r3, h4, hf⟩ := bd1_ob hf
    refine clSI (As := [.int v1, .int v2, .int v3, .int v4]) (rest := []) X (c_X6_isEachSortOnce l dC dI cI cJ cZ N v1 v2 v3 v4 h4) (va_cwS 4 hts gX6_order_X6_isEachSortOnce rfl rfl rfl (by decide +kernel) ⟨Nat.le_of_ble_eq_true rfl, Nat.le_of_ble_eq_true rfl⟩) hw [] rfl rfl rfl rfl hl.1 rfl (Nat.le_of_ble_eq_true rfl) dX6_order_15 ⟨Nat.zero_le _, Nat.zero_le _⟩ (fun H locs hw => ?_)
    replace hw : Wd (dC, dI) A s.heap H locs (w_GWHRPCO aG aW aH aR aP aC aO cI cJ cZ W_sorts W_values W_turns W_falling W_count H_items H_size R_members R_starts R_inOrder R_standing R_heads R_tails R_rowsInAll R_made R_all R_filled P_takenRuns P_starts P_queued P_merges P_told C_sampled C_sampleStandings C_sizes C_ends C_lies C_merged C_reached C_done C_mergedBy C_parts C_samples C_bound C_ticks C_mergedInAll C_mergedAgain O_paces O_up) := hw
    refine lv_if_ne (tgt := 23) hx hb dX6_order_18 (by decide) (fun b5 => ?_) (fun b5 => ?_)
    · replace hf := it_f hf b5
      refine lv_aload_n hx hb dX6_order_23 rfl (lv_at hl 0 rfl) ?_
      refine va_get (D := (dC, dI)) (ci := 6) (v := .ref (aW 0)) (C := RX6) (T := TX6) (N := 6) hx hb hts i_X6_order_X6 hown hK hw.1 0 rfl rfl 0 (by decide) (hts _ m_X6_order_1) (fun _ h9 => h9) rfl dX6_order_24 ?_
      refine va_getN (D := (dC, dI)) (ci := 4) (v := .ref (aW 3)) (C := RX4) (T := TX4) (N := 5) hx hb hts i_X6_order_X4 hown hK hw.1 1 rfl rfl 2 (by decide) (va_Nw.use rfl (hN _ nk_17)) (fun _ h9 => h9) rfl dX6_order_27 ?_
      refine lv_iload_n hx hb dX6_order_30 rfl (lv_at hl 1 rfl) ?_
      refine lv_iconst (v := 0) hx hb dX6_order_31 (by decide) ?_
      have g6 := ix_in (gd_l hf)
      replace hf := gd_r hf
      refine g_iast hx hb hK hw 4 0 rfl rfl g6 dX6_order_32 (fun H locs hw => ?_)
      replace hw : Wd (dC, dI) A s.heap H locs (w_GWHRPCO aG aW aH aR aP aC aO cI cJ cZ W_sorts W_values (upd W_turns v1.toNatClampNeg 0) W_falling W_count H_items H_size R_members R_starts R_inOrder R_standing R_heads R_tails R_rowsInAll R_made R_all R_filled P_takenRuns P_starts P_queued P_merges P_told C_sampled C_sampleStandings C_sizes C_ends C_lies C_merged C_reached C_done C_mergedBy C_parts C_samples C_bound C_ticks C_mergedInAll C_mergedAgain O_paces O_up) := hw
      refine lv_aload_n hx hb dX6_order_33 rfl (lv_at hl 0 rfl) ?_
      refine va_get (D := (dC, dI)) (ci := 6) (v := .ref (aW 0)) (C := RX6) (T := TX6) (N := 6) hx hb hts i_X6_order_X6 hown hK hw.1 0 rfl rfl 0 (by decide) (hts _ m_X6_order_1) (fun _ h9 => h9) rfl dX6_order_34 ?_
      refine va_getN (D := (dC, dI)) (ci := 4) (v := .ref (aW 3)) (C := RX4) (T := TX4) (N := 5) hx hb hts i_X6_order_X4 hown hK hw.1 1 rfl rfl 2 (by decide) (va_Nw.use rfl (hN _ nk_17)) (fun _ h9 => h9) rfl dX6_order_37 ?_
      refine lv_iload_n hx hb dX6_order_40 rfl (lv_at hl 2 rfl) ?_
      refine lv_iconst (v := 1) hx hb dX6_order_41 (by decide) ?_
      have g7 := ix_in (gd_l hf)
      replace hf := gd_r hf
      refine g_iast hx hb hK hw 4 0 rfl rfl g7 dX6_order_42 (fun H locs hw => ?_)
      replace hw : Wd (dC, dI) A s.heap H locs (w_GWHRPCO aG aW aH aR aP aC aO cI cJ cZ W_sorts W_values (upd (upd W_turns v1.toNatClampNeg 0) v2.toNatClampNeg 1) W_falling W_count H_items H_size R_members R_starts R_inOrder R_standing R_heads R_tails R_rowsInAll R_made R_all R_filled P_takenRuns P_starts P_queued P_merges P_told C_sampled C_sampleStandings C_sizes C_ends C_lies C_merged C_reached C_done C_mergedBy C_parts C_samples C_bound C_ticks C_mergedInAll C_mergedAgain O_paces O_up) := hw
      refine lv_aload_n hx hb dX6_order_43 rfl (lv_at hl 0 rfl) ?_
      refine va_get (D := (dC, dI)) (ci := 6) (v := .ref (aW 0)) (C := RX6) (T := TX6) (N := 6) hx hb hts i_X6_order_X6 hown hK hw.1 0 rfl rfl 0 (by decide) (hts _ m_X6_order_1) (fun _ h9 => h9) rfl dX6_order_44 ?_
      refine va_getN (D := (dC, dI)) (ci := 4) (v := .ref (aW 3)) (C := RX4) (T := TX4) (N := 5) hx hb hts i_X6_order_X4 hown hK hw.1 1 rfl rfl 2 (by decide) (va_Nw.use rfl (hN _ nk_17)) (fun _ h9 => h9) rfl dX6_order_47 ?_
      refine lv_iload_n hx hb dX6_order_50 rfl (lv_at hl 3 rfl) ?_
      refine lv_iconst (v := 2) hx hb dX6_order_51 (by decide) ?_
      have g8 := ix_in (gd_l hf)
      replace hf := gd_r hf
      refine g_iast hx hb hK hw 4 0 rfl rfl g8 dX6_order_52 (fun H locs hw => ?_)
      replace hw : Wd (dC, dI) A s.heap H locs (w_GWHRPCO aG aW aH aR aP aC aO cI cJ cZ W_sorts W_values (upd (upd (upd W_turns v1.toNatClampNeg 0) v2.toNatClampNeg 1) v3.toNatClampNeg 2) W_falling W_count H_items H_size R_members R_starts R_inOrder R_standing R_heads R_tails R_rowsInAll R_made R_all R_filled P_takenRuns P_starts P_queued P_merges P_told C_sampled C_sampleStandings C_sizes C_ends C_lies C_merged C_reached C_done C_mergedBy C_parts C_samples C_bound C_ticks C_mergedInAll C_mergedAgain O_paces O_up) := hw
      refine lv_aload_n hx hb dX6_order_53 rfl (lv_at hl 0 rfl) ?_
      refine va_get (D := (dC, dI)) (ci := 6) (v := .ref (aW 0)) (C := RX6) (T := TX6) (N := 6) hx hb hts i_X6_order_X6 hown hK hw.1 0 rfl rfl 0 (by decide) (hts _ m_X6_order_1) (fun _ h9 => h9) rfl dX6_order_54 ?_
      refine va_getN (D := (dC, dI)) (ci := 4) (v := .ref (aW 3)) (C := RX4) (T := TX4) (N := 5) hx hb hts i_X6_order_X4 hown hK hw.1 1 rfl rfl 2 (by decide) (va_Nw.use rfl (hN _ nk_17)) (fun _ h9 => h9) rfl dX6_order_57 ?_
      refine lv_iload hx hb dX6_order_60 (lv_at hl 4 rfl) ?_
      refine lv_iconst (v := 3) hx hb dX6_order_62 (by decide) ?_
      have g9 := ix_in (gd_l hf)
      replace hf := gd_r hf
      refine g_iast hx hb hK hw 4 0 rfl rfl g9 dX6_order_63 (fun H locs hw => ?_)
      replace hw : Wd (dC, dI) A s.heap H locs (w_GWHRPCO aG aW aH aR aP aC aO cI cJ cZ W_sorts W_values (upd (upd (upd (upd W_turns v1.toNatClampNeg 0) v2.toNatClampNeg 1) v3.toNatClampNeg 2) v4.toNatClampNeg 3) W_falling W_count H_items H_size R_members R_starts R_inOrder R_standing R_heads R_tails R_rowsInAll R_made R_all R_filled P_takenRuns P_starts P_queued P_merges P_told C_sampled C_sampleStandings C_sizes C_ends C_lies C_merged C_reached C_done C_mergedBy C_parts C_samples C_bound C_ticks C_mergedInAll C_mergedAgain O_paces O_up) := hw
      refine lv_iconst (v := 1) hx hb dX6_order_64 (by decide) ?_
      have g10 := bz_nar (gd_l hf)
      replace hf := gd_r hf
      cases hf
      exact endI X hr g10 hlocks rfl hw dX6_order_65
    · replace hf := it_t hf b5
      refine lv_iconst (v := 0) hx hb dX6_order_21 (by decide) ?_
      have g11 := bz_nar (gd_l hf)
      replace hf := gd_r hf
      cases hf
      exact endI X hr g11 hlocks rfl hw dX6_order_22
def rm_X6_falls : Room := { frames := 1, cells := 0, slots := 0, locals := 22 }
set_option maxRecDepth 20000 in
theorem i_X6_falls_X6 : ∀ w ∈ u_ws RX6 TX6 6, w ∈ wsX6_falls := by decide +kernel
set_option maxRecDepth 20000 in
theorem i_X6_falls_X5 : ∀ w ∈ u_ws RX5 TX5 10, w ∈ wsX6_falls := by decide +kernel
set_option maxRecDepth 20000 in
theorem i_X6_falls_X4 : ∀ w ∈ u_ws RX4 TX4 5, w ∈ wsX6_falls := by decide +kernel
set_option maxRecDepth 20000 in
theorem m_X6_falls_0 : Cond.fieldLink RX6 26 "GreatSort" "runs" "LGreatSort$Runs;" ∈ wsX6_falls := by decide +kernel
set_option maxRecDepth 20000 in
theorem m_X6_falls_1 : Cond.fieldLink RX6 12 "GreatSort" "rows" "LGreatSort$Rows;" ∈ wsX6_falls := by decide +kernel
set_option maxHeartbeats 4000000 in
set_option maxRecDepth 100000 in
theorem c_X6_falls (l : Launch) (dC : Nat → ClassId) (dI : Nat → Nat → Nat) (cI cJ cZ : ClassId) (aG aW aH aR aP aC aO : Nat → Nat) (N : Nat) (W_sorts : (Nat → Int32)) (W_values : (Nat → Int32)) (W_turns : (Nat → Int32)) (W_falling : (Nat → Int32)) (W_count : Int32) (H_items : (Nat → Int64)) (H_size : Int32) (R_members : (Nat → Int32)) (R_starts : (Nat → Int32)) (R_inOrder : (Nat → Int32)) (R_standing : (Nat → Int32)) (R_heads : (Nat → Int32)) (R_tails : (Nat → Int32)) (R_rowsInAll : Int32) (R_made : Int32) (R_all : Int32) (R_filled : Int32) (P_takenRuns : (Nat → Int32)) (P_starts : (Nat → Int32)) (P_queued : (Nat → Int32)) (P_merges : Int32) (P_told : Int32) (C_sampled : (Nat → Int32)) (C_sampleStandings : (Nat → Int32)) (C_sizes : (Nat → Int32)) (C_ends : (Nat → Int32)) (C_lies : (Nat → Int32)) (C_merged : (Nat → Int32)) (C_reached : (Nat → Int32)) (C_done : (Nat → Int32)) (C_mergedBy : (Nat → Int32)) (C_parts : Int32) (C_samples : Int32) (C_bound : Int32) (C_ticks : Int32) (C_mergedInAll : Int32) (C_mergedAgain : Int32) (O_paces : (Nat → Int32)) (O_up : (Nat → Int32)) (v1 : Int32) (v2 : Int32) {r : Int32} {o_W_falling : (Nat → Int32)} (hf : f_X6_falls N W_falling R_made v1 v2 = some (r, o_W_falling)) :
    CtI l yX6_falls wsX6_falls rm_X6_falls (dC, dI) (tyl cI cJ cZ) [.ref (aG 0), .int v1, .int v2] (w_GWHRPCO aG aW aH aR aP aC aO cI cJ cZ W_sorts W_values W_turns W_falling W_count H_items H_size R_members R_starts R_inOrder R_standing R_heads R_tails R_rowsInAll R_made R_all R_filled P_takenRuns P_starts P_queued P_merges P_told C_sampled C_sampleStandings C_sizes C_ends C_lies C_merged C_reached C_done C_mergedBy C_parts C_samples C_bound C_ticks C_mergedInAll C_mergedAgain O_paces O_up) (w_GWHRPCO aG aW aH aR aP aC aO cI cJ cZ W_sorts W_values W_turns o_W_falling W_count H_items H_size R_members R_starts R_inOrder R_standing R_heads R_tails R_rowsInAll R_made R_all R_filled P_takenRuns P_starts P_queued P_merges P_told C_sampled C_sampleStandings C_sizes C_ends C_lies C_merged C_reached C_done C_mergedBy C_parts C_samples C_bound C_ticks C_mergedInAll C_mergedAgain O_paces O_up) r := by
  refine startI (cc := cX6_falls) (maxL := 3) (rt := (some .boolean)) (by decide +kernel) rfl (Nat.le_of_ble_eq_true rfl) ?_
  intro p e s m below meth c A ls X hr hlocks hw hl
  replace X : Cx p m c cX6_falls 3 s _ wsX6_falls RX6 (dC, dI) (tyl cI cJ cZ) A := X
  replace hl : lv_has ls 3 [(0, .ref (aG 0)), (1, .int v1), (2, .int v2)] := hl
  obtain ⟨hx, hb, hml, hown, hts⟩ := X.1
  have hK := X.2.1
  have hN := X.2.2.2
  unfold f_X6_falls at hf
  refine lv_aload_n hx hb dX6_falls_0 rfl (lv_at hl 0 rfl) ?_
  refine va_get (D := (dC, dI)) (ci := 6) (v := .ref (aR 0)) (C := RX6) (T := TX6) (N := 6) hx hb hts i_X6_falls_X6 hown hK hw.1 0 rfl rfl 2 (by decide) (hts _ m_X6_falls_0) (fun _ h9 => h9) rfl dX6_falls_1 ?_
  refine va_getN (D := (dC, dI)) (ci := 5) (v := .int R_made) (C := RX5) (T := TX5) (N := 10) hx hb hts i_X6_falls_X5 hown hK hw.1 8 rfl rfl 7 (by decide) (va_Nw.use rfl (hN _ nk_16)) (fun _ h9 => h9) rfl dX6_falls_4 ?_
  refine lv_if_gt (tgt := 19) hx hb dX6_falls_7 (by decide) (fun b1 => ?_) (fun b1 => ?_)
  · replace hf := it_t hf b1
    refine lv_iconst (v := 0) hx hb dX6_falls_19 (by decide) ?_
    have g2 := bz_nar (gd_l hf)
    replace hf := gd_r hf
    cases hf
    exact endI X hr g2 hlocks rfl hw dX6_falls_20
  · replace hf := it_f hf b1
    refine lv_iload_n hx hb dX6_falls_10 rfl (lv_at hl 1 rfl) ?_
    refine lv_iconst (v := 0) hx hb dX6_falls_11 (by decide) ?_
    refine lv_iconst (v := 3) hx hb dX6_falls_12 (by decide) ?_
    obtain ⟨r3, h4, hf⟩ := bd1_ob hf
    refine clSI (As := [.int v1, .int (0 : Int32), .int (3 : Int32)]) (rest := []) X (c_X6_isIn l dC dI cI cJ cZ N v1 (0 : Int32) (3 : Int32) h4) (va_cwS 3 hts gX6_falls_X6_isIn rfl rfl rfl (by decide +kernel) ⟨Nat.le_of_ble_eq_true rfl, Nat.le_of_ble_eq_true rfl⟩) hw [] rfl rfl rfl rfl hl.1 rfl (Nat.le_of_ble_eq_true rfl) dX6_falls_13 ⟨Nat.zero_le _, Nat.zero_le _⟩ (fun H locs hw => ?_)
    replace hw : Wd (dC, dI) A s.heap H locs (w_GWHRPCO aG aW aH aR aP aC aO cI cJ cZ W_sorts W_values W_turns W_falling W_count H_items H_size R_members R_starts R_inOrder R_standing R_heads R_tails R_rowsInAll R_made R_all R_filled P_takenRuns P_starts P_queued P_merges P_told C_sampled C_sampleStandings C_sizes C_ends C_lies C_merged C_reached C_done C_mergedBy C_parts C_samples C_bound C_ticks C_mergedInAll C_mergedAgain O_paces O_up) := hw
    refine lv_if_ne (tgt := 21) hx hb dX6_falls_16 (by decide) (fun b5 => ?_) (fun b5 => ?_)
    · replace hf := it_f hf b5
      refine lv_aload_n hx hb dX6_falls_21 rfl (lv_at hl 0 rfl) ?_
      refine va_get (D := (dC, dI)) (ci := 6) (v := .ref (aW 0)) (C := RX6) (T := TX6) (N := 6) hx hb hts i_X6_falls_X6 hown hK hw.1 0 rfl rfl 0 (by decide) (hts _ m_X6_falls_1) (fun _ h9 => h9) rfl dX6_falls_22 ?_
      refine va_getN (D := (dC, dI)) (ci := 4) (v := .ref (aW 4)) (C := RX4) (T := TX4) (N := 5) hx hb hts i_X6_falls_X4 hown hK hw.1 1 rfl rfl 3 (by decide) (va_Nw.use rfl (hN _ nk_18)) (fun _ h9 => h9) rfl dX6_falls_25 ?_
      refine lv_iload_n hx hb dX6_falls_28 rfl (lv_at hl 1 rfl) ?_
      refine lv_iload_n hx hb dX6_falls_29 rfl (lv_at hl 2 rfl) ?_
      have g6 := ix_in (gd_l hf)
      replace hf := gd_r hf
      refine g_zast hx hb hK hw 5 2 rfl rfl g6 dX6_falls_30 (fun H locs hw => ?_)
      replace hw : Wd (dC, dI) A s.heap H locs (w_GWHRPCO aG aW aH aR aP aC aO cI cJ cZ W_sorts W_values W_turns (upd W_falling v1.toNatClampNeg (vp_nar .boolean v2)) W_count H_items H_size R_members R_starts R_inOrder R_standing R_heads R_tails R_rowsInAll R_made R_all R_filled P_takenRuns P_starts P_queued P_merges P_told C_sampled C_sampleStandings C_sizes C_ends C_lies C_merged C_reached C_done C_mergedBy C_parts C_samples C_bound C_ticks C_mergedInAll C_mergedAgain O_paces O_up) := hw
      refine lv_iconst (v := 1) hx hb dX6_falls_31 (by decide) ?_
      have g7 := bz_nar (gd_l hf)
      replace hf := gd_r hf
      cases hf
      exact endI X hr g7 hlocks rfl hw dX6_falls_32
    · replace hf := it_t hf b5
      refine lv_iconst (v := 0) hx hb dX6_falls_19 (by decide) ?_
      have g8 := bz_nar (gd_l hf)
      replace hf := gd_r hf
      cases hf
      exact endI X hr g8 hlocks rfl hw dX6_falls_20
def rm_X6_row : Room := { frames := 2, cells := 0, slots := 0, locals := 43 }
set_option maxRecDepth 20000 in
theorem i_X6_row_X6 : ∀ w ∈ u_ws RX6 TX6 6, w ∈ wsX6_row := by decide +kernel
set_option maxRecDepth 20000 in
theorem i_X6_row_X4 : ∀ w ∈ u_ws RX4 TX4 5, w ∈ wsX6_row := by decide +kernel
set_option maxRecDepth 20000 in
theorem m_X6_row_0 : Cond.fieldLink RX6 12 "GreatSort" "rows" "LGreatSort$Rows;" ∈ wsX6_row := by decide +kernel
set_option maxRecDepth 20000 in
theorem m_X6_row_1 : Cond.constant RX6 91 (-1000000) ∈ wsX6_row := by decide +kernel
set_option maxHeartbeats 4000000 in
set_option maxRecDepth 100000 in
theorem c_X6_row (l : Launch) (dC : Nat → ClassId) (dI : Nat → Nat → Nat) (cI cJ cZ : ClassId) (aG aW aH aR aP aC aO : Nat → Nat) (N : Nat) (W_sorts : (Nat → Int32)) (W_values : (Nat → Int32)) (W_turns : (Nat → Int32)) (W_falling : (Nat → Int32)) (W_count : Int32) (H_items : (Nat → Int64)) (H_size : Int32) (R_members : (Nat → Int32)) (R_starts : (Nat → Int32)) (R_inOrder : (Nat → Int32)) (R_standing : (Nat → Int32)) (R_heads : (Nat → Int32)) (R_tails : (Nat → Int32)) (R_rowsInAll : Int32) (R_made : Int32) (R_all : Int32) (R_filled : Int32) (P_takenRuns : (Nat → Int32)) (P_starts : (Nat → Int32)) (P_queued : (Nat → Int32)) (P_merges : Int32) (P_told : Int32) (C_sampled : (Nat → Int32)) (C_sampleStandings : (Nat → Int32)) (C_sizes : (Nat → Int32)) (C_ends : (Nat → Int32)) (C_lies : (Nat → Int32)) (C_merged : (Nat → Int32)) (C_reached : (Nat → Int32)) (C_done : (Nat → Int32)) (C_mergedBy : (Nat → Int32)) (C_parts : Int32) (C_samples : Int32) (C_bound : Int32) (C_ticks : Int32) (C_mergedInAll : Int32) (C_mergedAgain : Int32) (O_paces : (Nat → Int32)) (O_up : (Nat → Int32)) (v1 : Int32) (v2 : Int32) {r : Int32} (hf : f_X6_row N W_sorts W_values W_count v1 v2 = some r) :
    CtI l yX6_row wsX6_row rm_X6_row (dC, dI) (tyl cI cJ cZ) [.ref (aG 0), .int v1, .int v2] (w_GWHRPCO aG aW aH aR aP aC aO cI cJ cZ W_sorts W_values W_turns W_falling W_count H_items H_size R_members R_starts R_inOrder R_standing R_heads R_tails R_rowsInAll R_made R_all R_filled P_takenRuns P_starts P_queued P_merges P_told C_sampled C_sampleStandings C_sizes C_ends C_lies C_merged C_reached C_done C_mergedBy C_parts C_samples C_bound C_ticks C_mergedInAll C_mergedAgain O_paces O_up) (w_GWHRPCO aG aW aH aR aP aC aO cI cJ cZ W_sorts W_values W_turns W_falling W_count H_items H_size R_members R_starts R_inOrder R_standing R_heads R_tails R_rowsInAll R_made R_all R_filled P_takenRuns P_starts P_queued P_merges P_told C_sampled C_sampleStandings C_sizes C_ends C_lies C_merged C_reached C_done C_mergedBy C_parts C_samples C_bound C_ticks C_mergedInAll C_mergedAgain O_paces O_up) r := by
  refine startI (cc := cX6_row) (maxL := 3) (rt := (some .int)) (by decide +kernel) rfl (Nat.le_of_ble_eq_true rfl) ?_
  intro p e s m below meth c A ls X hr hlocks hw hl
  replace X : Cx p m c cX6_row 3 s _ wsX6_row RX6 (dC, dI) (tyl cI cJ cZ) A := X
  replace hl : lv_has ls 3 [(0, .ref (aG 0)), (1, .int v1), (2, .int v2)] := hl
  obtain ⟨hx, hb, hml, hown, hts⟩ := X.1
  have hK := X.2.1
  have hN := X.2.2.2
  unfold f_X6_row at hf
  refine lv_aload_n hx hb dX6_row_0 rfl (lv_at hl 0 rfl) ?_
  refine va_get (D := (dC, dI)) (ci := 6) (v := .ref (aW 0)) (C := RX6) (T := TX6) (N := 6) hx hb hts i_X6_row_X6 hown hK hw.1 0 rfl rfl 0 (by decide) (hts _ m_X6_row_0) (fun _ h9 => h9) rfl dX6_row_1 ?_
  refine lv_iload_n hx hb dX6_row_4 rfl (lv_at hl 1 rfl) ?_
  obtain ⟨r1, h2, hf⟩ := bd1_ob hf
  refine clVI (As := [.int v1]) (rest := []) X (c_X4_has l dC dI cI cJ cZ aW N W_sorts W_values W_turns W_falling W_count v1 h2) (cwV 1 hts gX6_row_X4_has rfl rfl rfl (by decide +kernel) ⟨Nat.le_of_ble_eq_true rfl, Nat.le_of_ble_eq_true rfl⟩) (ci := 4) rfl rfl rfl hw [1, 2, 3, 4, 5] rfl rfl rfl rfl hl.1 rfl (Nat.le_of_ble_eq_true rfl) dX6_row_5 ⟨Nat.zero_le _, Nat.zero_le _⟩ (fun H locs hw => ?_)
  replace hw : Wd (dC, dI) A s.heap H locs (w_GWHRPCO aG aW aH aR aP aC aO cI cJ cZ W_sorts W_values W_turns W_falling W_count H_items H_size R_members R_starts R_inOrder R_standing R_heads R_tails R_rowsInAll R_made R_all R_filled P_takenRuns P_starts P_queued P_merges P_told C_sampled C_sampleStandings C_sizes C_ends C_lies C_merged C_reached C_done C_mergedBy C_parts C_samples C_bound C_ticks C_mergedInAll C_mergedAgain O_paces O_up) := hw
  refine lv_if_ne (tgt := 14) hx hb dX6_row_8 (by decide) (fun b3 => ?_) (fun b3 => ?_)
  · replace hf := it_f hf b3
    refine lv_iload_n hx hb dX6_row_14 rfl (lv_at hl 2 rfl) ?_
    by_cases b4 : v2 = 0
    · replace hf := it_t hf b4
      refine lv_lookup (tgt := 40) hx hb dX6_row_15 (by decide) (by rw [b4]; rfl) (by decide) ?_
      refine lv_aload_n hx hb dX6_row_40 rfl (lv_at hl 0 rfl) ?_
      refine va_get (D := (dC, dI)) (ci := 6) (v := .ref (aW 0)) (C := RX6) (T := TX6) (N := 6) hx hb hts i_X6_row_X6 hown hK hw.1 0 rfl rfl 0 (by decide) (hts _ m_X6_row_0) (fun _ h9 => h9) rfl dX6_row_41 ?_
      refine va_getN (D := (dC, dI)) (ci := 4) (v := .ref (aW 1)) (C := RX4) (T := TX4) (N := 5) hx hb hts i_X6_row_X4 hown hK hw.1 1 rfl rfl 0 (by decide) (va_Nw.use rfl (hN _ nk_19)) (fun _ h9 => h9) rfl dX6_row_44 ?_
      refine lv_iload_n hx hb dX6_row_47 rfl (lv_at hl 1 rfl) ?_
      have g5 := ix_in (gd_l hf)
      replace hf := gd_r hf
      refine va_iald hx hb hK hw.1 2 0 rfl rfl g5 dX6_row_48 ?_
      cases hf
      exact endI X hr rfl hlocks rfl hw dX6_row_49
    · replace hf := it_f hf b4
      by_cases b6 : v2 = 1
      · replace hf := it_t hf b6
        refine lv_lookup (tgt := 50) hx hb dX6_row_15 (by decide) (by rw [b6]; rfl) (by decide) ?_
        refine lv_aload_n hx hb dX6_row_50 rfl (lv_at hl 0 rfl) ?_
        refine va_get (D := (dC, dI)) (ci := 6) (v := .ref (aW 0)) (C := RX6) (T := TX6) (N := 6) hx hb hts i_X6_row_X6 hown hK hw.1 0 rfl rfl 0 (by decide) (hts _ m_X6_row_0) (fun _ h9 => h9) rfl dX6_row_51 ?_
        refine va_getN (D := (dC, dI)) (ci := 4) (v := .ref (aW 2)) (C := RX4) (T := TX4) (N := 5) hx hb hts i_X6_row_X4 hown hK hw.1 1 rfl rfl 1 (by decide) (va_Nw.use rfl (hN _ nk_20)) (fun _ h9 => h9) rfl dX6_row_54 ?_
        refine lv_iload_n hx hb dX6_row_57 rfl (lv_at hl 1 rfl) ?_
        have g7 := ix_in (gd_l hf)
        replace hf := gd_r hf
        refine va_iald hx hb hK hw.1 3 0 rfl rfl g7 dX6_row_58 ?_
        cases hf
        exact endI X hr rfl hlocks rfl hw dX6_row_59
      · replace hf := it_f hf b6
        refine lv_lookup (tgt := 60) hx hb dX6_row_15 (by decide) (by rw [lv_osw b4 (a := 0) (by decide), lv_osw b6 (a := 1) (by decide)]; rfl) (by decide) ?_
        refine lv_ldc (v := (-1000000)) hx hb hown (hts _ m_X6_row_1) dX6_row_60 ?_
        cases hf
        exact endI X hr rfl hlocks rfl hw dX6_row_62
  · replace hf := it_t hf b3
    refine lv_ldc (v := (-1000000)) hx hb hown (hts _ m_X6_row_1) dX6_row_11 ?_
    cases hf
    exact endI X hr rfl hlocks rfl hw dX6_row_13
def rm_X6_against : Room := { frames := 3, cells := 0, slots := 0, locals := 66 }
set_option maxRecDepth 20000 in
theorem i_X6_against_X6 : ∀ w ∈ u_ws RX6 TX6 6, w ∈ wsX6_against := by decide +kernel
set_option maxRecDepth 20000 in
theorem m_X6_against_0 : Cond.fieldLink RX6 12 "GreatSort" "rows" "LGreatSort$Rows;" ∈ wsX6_against := by decide +kernel
set_option maxHeartbeats 4000000 in
set_option maxRecDepth 100000 in
theorem c_X6_against (l : Launch) (dC : Nat → ClassId) (dI : Nat → Nat → Nat) (cI cJ cZ : ClassId) (aG aW aH aR aP aC aO : Nat → Nat) (N : Nat) (W_sorts : (Nat → Int32)) (W_values : (Nat → Int32)) (W_turns : (Nat → Int32)) (W_falling : (Nat → Int32)) (W_count : Int32) (H_items : (Nat → Int64)) (H_size : Int32) (R_members : (Nat → Int32)) (R_starts : (Nat → Int32)) (R_inOrder : (Nat → Int32)) (R_standing : (Nat → Int32)) (R_heads : (Nat → Int32)) (R_tails : (Nat → Int32)) (R_rowsInAll : Int32) (R_made : Int32) (R_all : Int32) (R_filled : Int32) (P_takenRuns : (Nat → Int32)) (P_starts : (Nat → Int32)) (P_queued : (Nat → Int32)) (P_merges : Int32) (P_told : Int32) (C_sampled : (Nat → Int32)) (C_sampleStandings : (Nat → Int32)) (C_sizes : (Nat → Int32)) (C_ends : (Nat → Int32)) (C_lies : (Nat → Int32)) (C_merged : (Nat → Int32)) (C_reached : (Nat → Int32)) (C_done : (Nat → Int32)) (C_mergedBy : (Nat → Int32)) (C_parts : Int32) (C_samples : Int32) (C_bound : Int32) (C_ticks : Int32) (C_mergedInAll : Int32) (C_mergedAgain : Int32) (O_paces : (Nat → Int32)) (O_up : (Nat → Int32)) (v1 : Int32) (v2 : Int32) {r : Int32} (hf : f_X6_against N W_sorts W_values W_turns W_falling W_count v1 v2 = some r) :
    CtI l yX6_against wsX6_against rm_X6_against (dC, dI) (tyl cI cJ cZ) [.ref (aG 0), .int v1, .int v2] (w_GWHRPCO aG aW aH aR aP aC aO cI cJ cZ W_sorts W_values W_turns W_falling W_count H_items H_size R_members R_starts R_inOrder R_standing R_heads R_tails R_rowsInAll R_made R_all R_filled P_takenRuns P_starts P_queued P_merges P_told C_sampled C_sampleStandings C_sizes C_ends C_lies C_merged C_reached C_done C_mergedBy C_parts C_samples C_bound C_ticks C_mergedInAll C_mergedAgain O_paces O_up) (w_GWHRPCO aG aW aH aR aP aC aO cI cJ cZ W_sorts W_values W_turns W_falling W_count H_items H_size R_members R_starts R_inOrder R_standing R_heads R_tails R_rowsInAll R_made R_all R_filled P_takenRuns P_starts P_queued P_merges P_told C_sampled C_sampleStandings C_sizes C_ends C_lies C_merged C_reached C_done C_mergedBy C_parts C_samples C_bound C_ticks C_mergedInAll C_mergedAgain O_paces O_up) r := by
  refine startI (cc := cX6_against) (maxL := 3) (rt := (some .int)) (by decide +kernel) rfl (Nat.le_of_ble_eq_true rfl) ?_
  intro p e s m below meth c A ls X hr hlocks hw hl
  replace X : Cx p m c cX6_against 3 s _ wsX6_against RX6 (dC, dI) (tyl cI cJ cZ) A := X
  replace hl : lv_has ls 3 [(0, .ref (aG 0)), (1, .int v1), (2, .int v2)] := hl
  obtain ⟨hx, hb, hml, hown, hts⟩ := X.1
  have hK := X.2.1
  have hN := X.2.2.2
  unfold f_X6_against at hf
  refine lv_aload_n hx hb dX6_against_0 rfl (lv_at hl 0 rfl) ?_
  refine va_get (D := (dC, dI)) (ci := 6) (v := .ref (aW 0)) (C := RX6) (T := TX6) (N := 6) hx hb hts i_X6_against_X6 hown hK hw.1 0 rfl rfl 0 (by decide) (hts _ m_X6_against_0) (fun _ h9 => h9) rfl dX6_against_1 ?_
  refine lv_iload_n hx hb dX6_against_4 rfl (lv_at hl 1 rfl) ?_
  obtain ⟨r1, h2, hf⟩ := bd1_ob hf
  refine clVI (As := [.int v1]) (rest := []) X (c_X4_has l dC dI cI cJ cZ aW N W_sorts W_values W_turns W_falling W_count v1 h2) (cwV 1 hts gX6_against_X4_has rfl rfl rfl (by decide +kernel) ⟨Nat.le_of_ble_eq_true rfl, Nat.le_of_ble_eq_true rfl⟩) (ci := 4) rfl rfl rfl hw [1, 2, 3, 4, 5] rfl rfl rfl rfl hl.1 rfl (Nat.le_of_ble_eq_true rfl) dX6_against_5 ⟨Nat.zero_le _, Nat.zero_le _⟩ (fun H locs hw => ?_)
  replace hw : Wd (dC, dI) A s.heap H locs (w_GWHRPCO aG aW aH aR aP aC aO cI cJ cZ W_sorts W_values W_turns W_falling W_count H_items H_size R_members R_starts R_inOrder R_standing R_heads R_tails R_rowsInAll R_made R_all R_filled P_takenRuns P_starts P_queued P_merges P_told C_sampled C_sampleStandings C_sizes C_ends C_lies C_merged C_reached C_done C_mergedBy C_parts C_samples C_bound C_ticks C_mergedInAll C_mergedAgain O_paces O_up) := hw
  refine lv_if_eq (tgt := 22) hx hb dX6_against_8 (by decide) (fun b3 => ?_) (fun b3 => ?_)
  · replace hf := it_t hf b3
    refine lv_bipush (v := (-2)) hx hb dX6_against_22 (by decide) ?_
    cases hf
    exact endI X hr rfl hlocks rfl hw dX6_against_24
  · replace hf := it_f hf b3
    refine lv_aload_n hx hb dX6_against_11 rfl (lv_at hl 0 rfl) ?_
    refine va_get (D := (dC, dI)) (ci := 6) (v := .ref (aW 0)) (C := RX6) (T := TX6) (N := 6) hx hb hts i_X6_against_X6 hown hK hw.1 0 rfl rfl 0 (by decide) (hts _ m_X6_against_0) (fun _ h9 => h9) rfl dX6_against_12 ?_
    refine lv_iload_n hx hb dX6_against_15 rfl (lv_at hl 2 rfl) ?_
    obtain ⟨r4, h5, hf⟩ := bd1_ob hf
    refine clVI (As := [.int v2]) (rest := []) X (c_X4_has l dC dI cI cJ cZ aW N W_sorts W_values W_turns W_falling W_count v2 h5) (cwV 1 hts gX6_against_X4_has rfl rfl rfl (by decide +kernel) ⟨Nat.le_of_ble_eq_true rfl, Nat.le_of_ble_eq_true rfl⟩) (ci := 4) rfl rfl rfl hw [1, 2, 3, 4, 5] rfl rfl rfl rfl hl.1 rfl (Nat.le_of_ble_eq_true rfl) dX6_against_16 ⟨Nat.zero_le _, Nat.zero_le _⟩ (fun H locs hw => ?_)
    replace hw : Wd (dC, dI) A s.heap H locs (w_GWHRPCO aG aW aH aR aP aC aO cI cJ cZ W_sorts W_values W_turns W_falling W_count H_items H_size R_members R_starts R_inOrder R_standing R_heads R_tails R_rowsInAll R_made R_all R_filled P_takenRuns P_starts P_queued P_merges P_told C_sampled C_sampleStandings C_sizes C_ends C_lies C_merged C_reached C_done C_mergedBy C_parts C_samples C_bound C_ticks C_mergedInAll C_mergedAgain O_paces O_up) := hw
    refine lv_if_ne (tgt := 25) hx hb dX6_against_19 (by decide) (fun b6 => ?_) (fun b6 => ?_)
    · replace hf := it_f hf b6
      refine lv_aload_n hx hb dX6_against_25 rfl (lv_at hl 0 rfl) ?_
      refine va_get (D := (dC, dI)) (ci := 6) (v := .ref (aW 0)) (C := RX6) (T := TX6) (N := 6) hx hb hts i_X6_against_X6 hown hK hw.1 0 rfl rfl 0 (by decide) (hts _ m_X6_against_0) (fun _ h9 => h9) rfl dX6_against_26 ?_
      refine lv_iload_n hx hb dX6_against_29 rfl (lv_at hl 1 rfl) ?_
      obtain ⟨r7, h8, hf⟩ := bd1_ob hf
      refine clVI (As := [.int v1]) (rest := []) X (c_X4_placeOf l dC dI cI cJ cZ aW N W_sorts W_values W_turns W_falling W_count v1 h8) (cwV 1 hts gX6_against_X4_placeOf rfl rfl rfl (by decide +kernel) ⟨Nat.le_of_ble_eq_true rfl, Nat.le_of_ble_eq_true rfl⟩) (ci := 4) rfl rfl rfl hw [1, 2, 3, 4, 5] rfl rfl rfl rfl hl.1 rfl (Nat.le_of_ble_eq_true rfl) dX6_against_30 ⟨Nat.zero_le _, Nat.zero_le _⟩ (fun H locs hw => ?_)
      replace hw : Wd (dC, dI) A s.heap H locs (w_GWHRPCO aG aW aH aR aP aC aO cI cJ cZ W_sorts W_values W_turns W_falling W_count H_items H_size R_members R_starts R_inOrder R_standing R_heads R_tails R_rowsInAll R_made R_all R_filled P_takenRuns P_starts P_queued P_merges P_told C_sampled C_sampleStandings C_sizes C_ends C_lies C_merged C_reached C_done C_mergedBy C_parts C_samples C_bound C_ticks C_mergedInAll C_mergedAgain O_paces O_up) := hw
      refine lv_aload_n hx hb dX6_against_33 rfl (lv_at hl 0 rfl) ?_
      refine va_get (D := (dC, dI)) (ci := 6) (v := .ref (aW 0)) (C := RX6) (T := TX6) (N := 6) hx hb hts i_X6_against_X6 hown hK hw.1 0 rfl rfl 0 (by decide) (hts _ m_X6_against_0) (fun _ h9 => h9) rfl dX6_against_34 ?_
      refine lv_iload_n hx hb dX6_against_37 rfl (lv_at hl 2 rfl) ?_
      obtain ⟨r9, h10, hf⟩ := bd1_ob hf
      refine clVI (As := [.int v2]) (rest := [.int r7]) X (c_X4_placeOf l dC dI cI cJ cZ aW N W_sorts W_values W_turns W_falling W_count v2 h10) (cwV 1 hts gX6_against_X4_placeOf rfl rfl rfl (by decide +kernel) ⟨Nat.le_of_ble_eq_true rfl, Nat.le_of_ble_eq_true rfl⟩) (ci := 4) rfl rfl rfl hw [1, 2, 3, 4, 5] rfl rfl rfl rfl hl.1 rfl (Nat.le_of_ble_eq_true rfl) dX6_against_38 ⟨Nat.zero_le _, Nat.zero_le _⟩ (fun H locs hw => ?_)
      replace hw : Wd (dC, dI) A s.heap H locs (w_GWHRPCO aG aW aH aR aP aC aO cI cJ cZ W_sorts W_values W_turns W_falling W_count H_items H_size R_members R_starts R_inOrder R_standing R_heads R_tails R_rowsInAll R_made R_all R_filled P_takenRuns P_starts P_queued P_merges P_told C_sampled C_sampleStandings C_sizes C_ends C_lies C_merged C_reached C_done C_mergedBy C_parts C_samples C_bound C_ticks C_mergedInAll C_mergedAgain O_paces O_up) := hw
      obtain ⟨r11, h12, hf⟩ := bd1_ob hf
      refine clSI (As := [.int r7, .int r9]) (rest := []) X (c_J6_compare_7cf53 l dC dI cI cJ cZ N r7 r9 h12) (va_cwS 2 hts gX6_against_J6_compare_7cf53 rfl rfl rfl (by decide +kernel) ⟨Nat.le_of_ble_eq_true rfl, Nat.le_of_ble_eq_true rfl⟩) hw [] rfl rfl rfl rfl hl.1 rfl (Nat.le_of_ble_eq_true rfl) dX6_against_41 ⟨Nat.zero_le _, Nat.zero_le _⟩ (fun H locs hw => ?_)
      replace hw : Wd (dC, dI) A s.heap H locs (w_GWHRPCO aG aW aH aR aP aC aO cI cJ cZ W_sorts W_values W_turns W_falling W_count H_items H_size R_members R_starts R_inOrder R_standing R_heads R_tails R_rowsInAll R_made R_all R_filled P_takenRuns P_starts P_queued P_merges P_told C_sampled C_sampleStandings C_sizes C_ends C_lies C_merged C_reached C_done C_mergedBy C_parts C_samples C_bound C_ticks C_mergedInAll C_mergedAgain O_paces O_up) := hw
      cases hf
      exact endI X hr rfl hlocks rfl hw dX6_against_44
    · replace hf := it_t hf b6
      refine lv_bipush (v := (-2)) hx hb dX6_against_22 (by decide) ?_
      cases hf
      exact endI X hr rfl hlocks rfl hw dX6_against_24
def rm_X6_rank : Room := { frames := 3, cells := 0, slots := 0, locals := 66 }
set_option maxRecDepth 20000 in
theorem i_X6_rank_X6 : ∀ w ∈ u_ws RX6 TX6 6, w ∈ wsX6_rank := by decide +kernel
set_option maxRecDepth 20000 in
theorem i_X6_rank_X4 : ∀ w ∈ u_ws RX4 TX4 5, w ∈ wsX6_rank := by decide +kernel
set_option maxRecDepth 20000 in
theorem m_X6_rank_0 : Cond.fieldLink RX6 12 "GreatSort" "rows" "LGreatSort$Rows;" ∈ wsX6_rank := by decide +kernel
set_option maxHeartbeats 4000000 in
set_option maxRecDepth 100000 in
theorem t_X6_rank_27 {p : Program} {l : Launch} {e : Env} {s : State} {m : MethodId} {args : Array Value} {below : List Frame} {meth : Method} {c : Code} {Q : State → Prop} {dC : Nat → ClassId} {dI : Nat → Nat → Nat} {cI cJ cZ : ClassId} {A : Nat → Prop} (aG aW aH aR aP aC aO : Nat → Nat) (X : Cx p m c cX6_rank 5 s args wsX6_rank RX6 (dC, dI) (tyl cI cJ cZ) A) (N : Nat) (W_sorts : (Nat → Int32)) (W_values : (Nat → Int32)) (W_turns : (Nat → Int32)) (W_falling : (Nat → Int32)) (W_count : Int32) (H_items : (Nat → Int64)) (H_size : Int32) (R_members : (Nat → Int32)) (R_starts : (Nat → Int32)) (R_inOrder : (Nat → Int32)) (R_standing : (Nat → Int32)) (R_heads : (Nat → Int32)) (R_tails : (Nat → Int32)) (R_rowsInAll : Int32) (R_made : Int32) (R_all : Int32) (R_filled : Int32) (P_takenRuns : (Nat → Int32)) (P_starts : (Nat → Int32)) (P_queued : (Nat → Int32)) (P_merges : Int32) (P_told : Int32) (C_sampled : (Nat → Int32)) (C_sampleStandings : (Nat → Int32)) (C_sizes : (Nat → Int32)) (C_ends : (Nat → Int32)) (C_lies : (Nat → Int32)) (C_merged : (Nat → Int32)) (C_reached : (Nat → Int32)) (C_done : (Nat → Int32)) (C_mergedBy : (Nat → Int32)) (C_parts : Int32) (C_samples : Int32) (C_bound : Int32) (C_ticks : Int32) (C_mergedInAll : Int32) (C_mergedAgain : Int32) (O_paces : (Nat → Int32)) (O_up : (Nat → Int32)) (v2 : Int32) :
    ∀ (n : Nat) (v3 : Int32) (v4 : Int32) (e3 : Int32), l_X6_rank_27 N W_sorts W_values W_turns W_falling W_count v2 n v3 v4 = some e3 → ∀ (H : Heap) (locs : List Loc) (ls : Array Slot), Wd (dC, dI) A s.heap H locs (w_GWHRPCO aG aW aH aR aP aC aO cI cJ cZ W_sorts W_values W_turns W_falling W_count H_items H_size R_members R_starts R_inOrder R_standing R_heads R_tails R_rowsInAll R_made R_all R_filled P_takenRuns P_starts P_queued P_merges P_told C_sampled C_sampleStandings C_sizes C_ends C_lies C_merged C_reached C_done C_mergedBy C_parts C_samples C_bound C_ticks C_mergedInAll C_mergedAgain O_paces O_up) → lv_has ls 5 [(0, .ref (aG 0)), (2, .int v2), (3, .int v3), (4, .int v4)] → (∀ (H : Heap) (locs : List Loc) (ls : Array Slot), Wd (dC, dI) A s.heap H locs (w_GWHRPCO aG aW aH aR aP aC aO cI cJ cZ W_sorts W_values W_turns W_falling W_count H_items H_size R_members R_starts R_inOrder R_standing R_heads R_tails R_rowsInAll R_made R_all R_filled P_takenRuns P_starts P_queued P_merges P_told C_sampled C_sampleStandings C_sizes C_ends C_lies C_merged C_reached C_done C_mergedBy C_parts C_samples C_bound C_ticks C_mergedInAll C_mergedAgain O_paces O_up) → lv_has ls 5 [(3, .int e3)] → W p l e rm_X6_rank s m args below meth c H locs 0 0 Q (F0 m 61 ls [])) → W p l e rm_X6_rank s m args below meth c H locs 0 0 Q (F0 m 27 ls []) := by
  obtain ⟨hx, hb, hml, hown, hts⟩ := X.1
  have hK := X.2.1
  have hN := X.2.2.2
  intro n
  induction n with
  | zero =>
    intro _ _ _ hf
    cases hf
  | succ n ih =>
    intro v3 v4 e3 hf H locs ls hw hl kx
    rw [l_X6_rank_27] at hf
    refine lv_iload hx hb dX6_rank_27 (lv_at hl 3 rfl) ?_
    refine lv_aload_n hx hb dX6_rank_29 rfl (lv_at hl 0 rfl) ?_
    refine va_get (D := (dC, dI)) (ci := 6) (v := .ref (aW 0)) (C := RX6) (T := TX6) (N := 6) hx hb hts i_X6_rank_X6 hown hK hw.1 0 rfl rfl 0 (by decide) (hts _ m_X6_rank_0) (fun _ h9 => h9) rfl dX6_rank_30 ?_
    refine va_getN (D := (dC, dI)) (ci := 4) (v := .int W_count) (C := RX4) (T := TX4) (N := 5) hx hb hts i_X6_rank_X4 hown hK hw.1 1 rfl rfl 4 (by decide) (va_Nw.use rfl (hN _ nk_15)) (fun _ h9 => h9) rfl dX6_rank_33 ?_
    refine lv_icmp_ge (tgt := 61) hx hb dX6_rank_36 (by decide) (fun b6 => ?_) (fun b6 => ?_)
    · replace hf := it_t hf b6
      cases hf
      exact kx _ _ _ hw (lv_sub hl [2] rfl)
    · replace hf := it_f hf b6
      refine lv_aload_n hx hb dX6_rank_39 rfl (lv_at hl 0 rfl) ?_
      refine va_get (D := (dC, dI)) (ci := 6) (v := .ref (aW 0)) (C := RX6) (T := TX6) (N := 6) hx hb hts i_X6_rank_X6 hown hK hw.1 0 rfl rfl 0 (by decide) (hts _ m_X6_rank_0) (fun _ h9 => h9) rfl dX6_rank_40 ?_
      refine lv_iload hx hb dX6_rank_43 (lv_at hl 3 rfl) ?_
      obtain ⟨r7, h8, hf⟩ := bd1_ob hf
      refine clVI (As := [.int v4]) (rest := []) X (c_X4_placeOf l dC dI cI cJ cZ aW N W_sorts W_values W_turns W_falling W_count v4 h8) (cwV 1 hts gX6_rank_X4_placeOf rfl rfl rfl (by decide +kernel) ⟨Nat.le_of_ble_eq_true rfl, Nat.le_of_ble_eq_true rfl⟩) (ci := 4) rfl rfl rfl hw [1, 2, 3, 4, 5] rfl rfl rfl rfl hl.1 rfl (Nat.le_of_ble_eq_true rfl) dX6_rank_45 ⟨Nat.zero_le _, Nat.zero_le _⟩ (fun H locs hw => ?_)
      replace hw : Wd (dC, dI) A s.heap H locs (w_GWHRPCO aG aW aH aR aP aC aO cI cJ cZ W_sorts W_values W_turns W_falling W_count H_items H_size R_members R_starts R_inOrder R_standing R_heads R_tails R_rowsInAll R_made R_all R_filled P_takenRuns P_starts P_queued P_merges P_told C_sampled C_sampleStandings C_sizes C_ends C_lies C_merged C_reached C_done C_mergedBy C_parts C_samples C_bound C_ticks C_mergedInAll C_mergedAgain O_paces O_up) := hw
      refine lv_iload_n hx hb dX6_rank_48 rfl (lv_at hl 1 rfl) ?_
      refine lv_icmp_ge (tgt := 55) hx hb dX6_rank_49 (by decide) (fun b9 => ?_) (fun b9 => ?_)
      · replace hf := it_t hf b9
        obtain ⟨x10, ex10⟩ : ∃ y : Int32, y = v4 + 1 := ⟨_, rfl⟩
        replace hf := nl_at hf ex10
        refine lv_iinc (v := x10) (lv' := [(4, .int x10), (0, .ref (aG 0)), (2, .int v2), (3, .int v3)]) hx hb dX6_rank_55 hl (k := 3) rfl (by rw [ex10]; rfl) (by decide) rfl (fun ls hl => ?_)
        refine lv_goto (tgt := 27) hx hb dX6_rank_58 (by decide) ?_
        exact ih _ _ _ hf _ _ _ hw (lv_sub hl [1, 2, 3, 0] rfl) kx
      · replace hf := it_f hf b9
        obtain ⟨x11, ex11⟩ : ∃ y : Int32, y = v3 + 1 := ⟨_, rfl⟩
        replace hf := nl_at hf ex11
        refine lv_iinc (v := x11) (lv' := [(3, .int x11), (0, .ref (aG 0)), (2, .int v2), (4, .int v4)]) hx hb dX6_rank_52 hl (k := 2) rfl (by rw [ex11]; rfl) (by decide) rfl (fun ls hl => ?_)
        obtain ⟨x12, ex12⟩ : ∃ y : Int32, y = v4 + 1 := ⟨_, rfl⟩
        replace hf := nl_at hf ex12
        refine lv_iinc (v := x12) (lv' := [(4, .int x12), (3, .int x11), (0, .ref (aG 0)), (2, .int v2)]) hx hb dX6_rank_55 hl (k := 3) rfl (by rw [ex12]; rfl) (by decide) rfl (fun ls hl => ?_)
        refine lv_goto (tgt := 27) hx hb dX6_rank_58 (by decide) ?_
        exact ih _ _ _ hf _ _ _ hw (lv_sub hl [2, 3, 1, 0] rfl) kx
set_option maxHeartbeats 4000000 in
set_option maxRecDepth 100000 in
theorem c_X6_rank (l : Launch) (dC : Nat → ClassId) (dI : Nat → Nat → Nat) (cI cJ cZ : ClassId) (aG aW aH aR aP aC aO : Nat → Nat) (N : Nat) (W_sorts : (Nat → Int32)) (W_values : (Nat → Int32)) (W_turns : (Nat → Int32)) (W_falling : (Nat → Int32)) (W_count : Int32) (H_items : (Nat → Int64)) (H_size : Int32) (R_members : (Nat → Int32)) (R_starts : (Nat → Int32)) (R_inOrder : (Nat → Int32)) (R_standing : (Nat → Int32)) (R_heads : (Nat → Int32)) (R_tails : (Nat → Int32)) (R_rowsInAll : Int32) (R_made : Int32) (R_all : Int32) (R_filled : Int32) (P_takenRuns : (Nat → Int32)) (P_starts : (Nat → Int32)) (P_queued : (Nat → Int32)) (P_merges : Int32) (P_told : Int32) (C_sampled : (Nat → Int32)) (C_sampleStandings : (Nat → Int32)) (C_sizes : (Nat → Int32)) (C_ends : (Nat → Int32)) (C_lies : (Nat → Int32)) (C_merged : (Nat → Int32)) (C_reached : (Nat → Int32)) (C_done : (Nat → Int32)) (C_mergedBy : (Nat → Int32)) (C_parts : Int32) (C_samples : Int32) (C_bound : Int32) (C_ticks : Int32) (C_mergedInAll : Int32) (C_mergedAgain : Int32) (O_paces : (Nat → Int32)) (O_up : (Nat → Int32)) (v1 : Int32) {r : Int32} (hf : f_X6_rank N W_sorts W_values W_turns W_falling W_count v1 = some r) :
    CtI l yX6_rank wsX6_rank rm_X6_rank (dC, dI) (tyl cI cJ cZ) [.ref (aG 0), .int v1] (w_GWHRPCO aG aW aH aR aP aC aO cI cJ cZ W_sorts W_values W_turns W_falling W_count H_items H_size R_members R_starts R_inOrder R_standing R_heads R_tails R_rowsInAll R_made R_all R_filled P_takenRuns P_starts P_queued P_merges P_told C_sampled C_sampleStandings C_sizes C_ends C_lies C_merged C_reached C_done C_mergedBy C_parts C_samples C_bound C_ticks C_mergedInAll C_mergedAgain O_paces O_up) (w_GWHRPCO aG aW aH aR aP aC aO cI cJ cZ W_sorts W_values W_turns W_falling W_count H_items H_size R_members R_starts R_inOrder R_standing R_heads R_tails R_rowsInAll R_made R_all R_filled P_takenRuns P_starts P_queued P_merges P_told C_sampled C_sampleStandings C_sizes C_ends C_lies C_merged C_reached C_done C_mergedBy C_parts C_samples C_bound C_ticks C_mergedInAll C_mergedAgain O_paces O_up) r := by
  refine startI (cc := cX6_rank) (maxL := 5) (rt := (some .int)) (by decide +kernel) rfl (Nat.le_of_ble_eq_true rfl) ?_
  intro p e s m below meth c A ls X hr hlocks hw hl
  replace X : Cx p m c cX6_rank 5 s _ wsX6_rank RX6 (dC, dI) (tyl cI cJ cZ) A := X
  replace hl : lv_has ls 5 [(0, .ref (aG 0)), (1, .int v1)] := hl
  obtain ⟨hx, hb, hml, hown, hts⟩ := X.1
  have hK := X.2.1
  have hN := X.2.2.2
  unfold f_X6_rank at hf
  refine lv_aload_n hx hb dX6_rank_0 rfl (lv_at hl 0 rfl) ?_
  refine va_get (D := (dC, dI)) (ci := 6) (v := .ref (aW 0)) (C := RX6) (T := TX6) (N := 6) hx hb hts i_X6_rank_X6 hown hK hw.1 0 rfl rfl 0 (by decide) (hts _ m_X6_rank_0) (fun _ h9 => h9) rfl dX6_rank_1 ?_
  refine lv_iload_n hx hb dX6_rank_4 rfl (lv_at hl 1 rfl) ?_
  obtain ⟨r1, h2, hf⟩ := bd1_ob hf
  refine clVI (As := [.int v1]) (rest := []) X (c_X4_has l dC dI cI cJ cZ aW N W_sorts W_values W_turns W_falling W_count v1 h2) (cwV 1 hts gX6_rank_X4_has rfl rfl rfl (by decide +kernel) ⟨Nat.le_of_ble_eq_true rfl, Nat.le_of_ble_eq_true rfl⟩) (ci := 4) rfl rfl rfl hw [1, 2, 3, 4, 5] rfl rfl rfl rfl hl.1 rfl (Nat.le_of_ble_eq_true rfl) dX6_rank_5 ⟨Nat.zero_le _, Nat.zero_le _⟩ (fun H locs hw => ?_)
  replace hw : Wd (dC, dI) A s.heap H locs (w_GWHRPCO aG aW aH aR aP aC aO cI cJ cZ W_sorts W_values W_turns W_falling W_count H_items H_size R_members R_starts R_inOrder R_standing R_heads R_tails R_rowsInAll R_made R_all R_filled P_takenRuns P_starts P_queued P_merges P_told C_sampled C_sampleStandings C_sizes C_ends C_lies C_merged C_reached C_done C_mergedBy C_parts C_samples C_bound C_ticks C_mergedInAll C_mergedAgain O_paces O_up) := hw
  refine lv_if_ne (tgt := 13) hx hb dX6_rank_8 (by decide) (fun b3 => ?_) (fun b3 => ?_)
  · replace hf := it_f hf b3
    refine lv_aload_n hx hb dX6_rank_13 rfl (lv_at hl 0 rfl) ?_
    refine va_get (D := (dC, dI)) (ci := 6) (v := .ref (aW 0)) (C := RX6) (T := TX6) (N := 6) hx hb hts i_X6_rank_X6 hown hK hw.1 0 rfl rfl 0 (by decide) (hts _ m_X6_rank_0) (fun _ h9 => h9) rfl dX6_rank_14 ?_
    refine lv_iload_n hx hb dX6_rank_17 rfl (lv_at hl 1 rfl) ?_
    obtain ⟨r4, h5, hf⟩ := bd1_ob hf
    refine clVI (As := [.int v1]) (rest := []) X (c_X4_placeOf l dC dI cI cJ cZ aW N W_sorts W_values W_turns W_falling W_count v1 h5) (cwV 1 hts gX6_rank_X4_placeOf rfl rfl rfl (by decide +kernel) ⟨Nat.le_of_ble_eq_true rfl, Nat.le_of_ble_eq_true rfl⟩) (ci := 4) rfl rfl rfl hw [1, 2, 3, 4, 5] rfl rfl rfl rfl hl.1 rfl (Nat.le_of_ble_eq_true rfl) dX6_rank_18 ⟨Nat.zero_le _, Nat.zero_le _⟩ (fun H locs hw => ?_)
    replace hw : Wd (dC, dI) A s.heap H locs (w_GWHRPCO aG aW aH aR aP aC aO cI cJ cZ W_sorts W_values W_turns W_falling W_count H_items H_size R_members R_starts R_inOrder R_standing R_heads R_tails R_rowsInAll R_made R_all R_filled P_takenRuns P_starts P_queued P_merges P_told C_sampled C_sampleStandings C_sizes C_ends C_lies C_merged C_reached C_done C_mergedBy C_parts C_samples C_bound C_ticks C_mergedInAll C_mergedAgain O_paces O_up) := hw
    refine lv_istore_n (lv' := [(2, .int r4), (0, .ref (aG 0)), (1, .int v1)]) hx hb dX6_rank_21 rfl hl (by decide) rfl (fun ls hl => ?_)
    refine lv_iconst (v := 0) hx hb dX6_rank_22 (by decide) ?_
    refine lv_istore_n (lv' := [(3, .int 0), (2, .int r4), (0, .ref (aG 0)), (1, .int v1)]) hx hb dX6_rank_23 rfl hl (by decide) rfl (fun ls hl => ?_)
    refine lv_iconst (v := 0) hx hb dX6_rank_24 (by decide) ?_
    refine lv_istore (lv' := [(4, .int 0), (3, .int 0), (2, .int r4), (0, .ref (aG 0)), (1, .int v1)]) hx hb dX6_rank_25 hl (by decide) rfl (fun ls hl => ?_)
    obtain ⟨e13, h14, hf⟩ := bd1_ob hf
    refine t_X6_rank_27 aG aW aH aR aP aC aO X N W_sorts W_values W_turns W_falling W_count H_items H_size R_members R_starts R_inOrder R_standing R_heads R_tails R_rowsInAll R_made R_all R_filled P_takenRuns P_starts P_queued P_merges P_told C_sampled C_sampleStandings C_sizes C_ends C_lies C_merged C_reached C_done C_mergedBy C_parts C_samples C_bound C_ticks C_mergedInAll C_mergedAgain O_paces O_up r4 N _ _ _ h14 _ _ _ hw (lv_sub hl [3, 2, 1, 0] rfl) (fun H locs ls hw hl => ?_)
    refine lv_iload_n hx hb dX6_rank_61 rfl (lv_at hl 0 rfl) ?_
    cases hf
    exact endI X hr rfl hlocks rfl hw dX6_rank_62
  · replace hf := it_t hf b3
    refine lv_iconst (v := (-1)) hx hb dX6_rank_11 (by decide) ?_
    cases hf
    exact endI X hr rfl hlocks rfl hw dX6_rank_12
def rm_X6_runs : Room := { frames := 5, cells := 0, slots := 0, locals := 119 }
set_option maxRecDepth 20000 in
theorem i_X6_runs_X6 : ∀ w ∈ u_ws RX6 TX6 6, w ∈ wsX6_runs := by decide +kernel
set_option maxRecDepth 20000 in
theorem i_X6_runs_X5 : ∀ w ∈ u_ws RX5 TX5 10, w ∈ wsX6_runs := by decide +kernel
set_option maxRecDepth 20000 in
theorem m_X6_runs_0 : Cond.fieldLink RX6 26 "GreatSort" "runs" "LGreatSort$Runs;" ∈ wsX6_runs := by decide +kernel
set_option maxRecDepth 20000 in
theorem m_X6_runs_1 : Cond.fieldLink RX6 12 "GreatSort" "rows" "LGreatSort$Rows;" ∈ wsX6_runs := by decide +kernel
set_option maxRecDepth 20000 in
theorem m_X6_runs_2 : Cond.fieldLink RX6 19 "GreatSort" "heap" "LGreatSort$Heap;" ∈ wsX6_runs := by decide +kernel
set_option maxHeartbeats 4000000 in
set_option maxRecDepth 100000 in
theorem c_X6_runs (l : Launch) (dC : Nat → ClassId) (dI : Nat → Nat → Nat) (cI cJ cZ : ClassId) (aG aW aH aR aP aC aO : Nat → Nat) (N : Nat) (W_sorts : (Nat → Int32)) (W_values : (Nat → Int32)) (W_turns : (Nat → Int32)) (W_falling : (Nat → Int32)) (W_count : Int32) (H_items : (Nat → Int64)) (H_size : Int32) (R_members : (Nat → Int32)) (R_starts : (Nat → Int32)) (R_inOrder : (Nat → Int32)) (R_standing : (Nat → Int32)) (R_heads : (Nat → Int32)) (R_tails : (Nat → Int32)) (R_rowsInAll : Int32) (R_made : Int32) (R_all : Int32) (R_filled : Int32) (P_takenRuns : (Nat → Int32)) (P_starts : (Nat → Int32)) (P_queued : (Nat → Int32)) (P_merges : Int32) (P_told : Int32) (C_sampled : (Nat → Int32)) (C_sampleStandings : (Nat → Int32)) (C_sizes : (Nat → Int32)) (C_ends : (Nat → Int32)) (C_lies : (Nat → Int32)) (C_merged : (Nat → Int32)) (C_reached : (Nat → Int32)) (C_done : (Nat → Int32)) (C_mergedBy : (Nat → Int32)) (C_parts : Int32) (C_samples : Int32) (C_bound : Int32) (C_ticks : Int32) (C_mergedInAll : Int32) (C_mergedAgain : Int32) (O_paces : (Nat → Int32)) (O_up : (Nat → Int32)) (v1 : Int32) {r : Int32} {o_H_items : (Nat → Int64)} {o_H_size : Int32} {o_R_members : (Nat → Int32)} {o_R_starts : (Nat → Int32)} {o_R_inOrder : (Nat → Int32)} {o_R_standing : (Nat → Int32)} {o_R_rowsInAll : Int32} {o_R_made : Int32} {o_R_all : Int32} {o_R_filled : Int32} {o_P_merges : Int32} {o_P_told : Int32} {o_C_mergedBy : (Nat → Int32)} {o_C_parts : Int32} {o_C_samples : Int32} {o_C_bound : Int32} {o_C_ticks : Int32} {o_C_mergedInAll : Int32} {o_C_mergedAgain : Int32} (hf : f_X6_runs N W_sorts W_values W_turns W_falling W_count H_items H_size R_members R_starts R_inOrder R_standing R_rowsInAll R_made R_all R_filled P_merges P_told C_mergedBy C_parts C_samples C_bound C_ticks C_mergedInAll C_mergedAgain v1 = some (r, o_H_items, o_H_size, o_R_members, o_R_starts, o_R_inOrder, o_R_standing, o_R_rowsInAll, o_R_made, o_R_all, o_R_filled, o_P_merges, o_P_told, o_C_mergedBy, o_C_parts, o_C_samples, o_C_bound, o_C_ticks, o_C_mergedInAll, o_C_mergedAgain)) :
    CtI l yX6_runs wsX6_runs rm_X6_runs (dC, dI) (tyl cI cJ cZ) [.ref (aG 0), .int v1] (w_GWHRPCO aG aW aH aR aP aC aO cI cJ cZ W_sorts W_values W_turns W_falling W_count H_items H_size R_members R_starts R_inOrder R_standing R_heads R_tails R_rowsInAll R_made R_all R_filled P_takenRuns P_starts P_queued P_merges P_told C_sampled C_sampleStandings C_sizes C_ends C_lies C_merged C_reached C_done C_mergedBy C_parts C_samples C_bound C_ticks C_mergedInAll C_mergedAgain O_paces O_up) (w_GWHRPCO aG aW aH aR aP aC aO cI cJ cZ W_sorts W_values W_turns W_falling W_count o_H_items o_H_size o_R_members o_R_starts o_R_inOrder o_R_standing R_heads R_tails o_R_rowsInAll o_R_made o_R_all o_R_filled P_takenRuns P_starts P_queued o_P_merges o_P_told C_sampled C_sampleStandings C_sizes C_ends C_lies C_merged C_reached C_done o_C_mergedBy o_C_parts o_C_samples o_C_bound o_C_ticks o_C_mergedInAll o_C_mergedAgain O_paces O_up) r := by
  refine startI (cc := cX6_runs) (maxL := 2) (rt := (some .int)) (by decide +kernel) rfl (Nat.le_of_ble_eq_true rfl) ?_
  intro p e s m below meth c A ls X hr hlocks hw hl
  replace X : Cx p m c cX6_runs 2 s _ wsX6_runs RX6 (dC, dI) (tyl cI cJ cZ) A := X
  replace hl : lv_has ls 2 [(0, .ref (aG 0)), (1, .int v1)] := hl
  obtain ⟨hx, hb, hml, hown, hts⟩ := X.1
  have hK := X.2.1
  have hN := X.2.2.2
  unfold f_X6_runs at hf
  refine lv_iload_n hx hb dX6_runs_0 rfl (lv_at hl 1 rfl) ?_
  refine lv_iconst (v := 1) hx hb dX6_runs_1 (by decide) ?_
  refine lv_bipush (v := 40) hx hb dX6_runs_2 (by decide) ?_
  obtain ⟨r1, h2, hf⟩ := bd1_ob hf
  refine clSI (As := [.int v1, .int (1 : Int32), .int (40 : Int32)]) (rest := []) X (c_X6_isIn l dC dI cI cJ cZ N v1 (1 : Int32) (40 : Int32) h2) (va_cwS 3 hts gX6_runs_X6_isIn rfl rfl rfl (by decide +kernel) ⟨Nat.le_of_ble_eq_true rfl, Nat.le_of_ble_eq_true rfl⟩) hw [] rfl rfl rfl rfl hl.1 rfl (Nat.le_of_ble_eq_true rfl) dX6_runs_4 ⟨Nat.zero_le _, Nat.zero_le _⟩ (fun H locs hw => ?_)
  replace hw : Wd (dC, dI) A s.heap H locs (w_GWHRPCO aG aW aH aR aP aC aO cI cJ cZ W_sorts W_values W_turns W_falling W_count H_items H_size R_members R_starts R_inOrder R_standing R_heads R_tails R_rowsInAll R_made R_all R_filled P_takenRuns P_starts P_queued P_merges P_told C_sampled C_sampleStandings C_sizes C_ends C_lies C_merged C_reached C_done C_mergedBy C_parts C_samples C_bound C_ticks C_mergedInAll C_mergedAgain O_paces O_up) := hw
  refine lv_if_ne (tgt := 12) hx hb dX6_runs_7 (by decide) (fun b3 => ?_) (fun b3 => ?_)
  · replace hf := it_f hf b3
    refine lv_aload_n hx hb dX6_runs_12 rfl (lv_at hl 0 rfl) ?_
    obtain ⟨c4, c5, c6, c7, c8, c9, c10, c11, c12, c13, c14, c15, c16, h17, hf⟩ := bd13_ob hf
    refine clVV (As := []) (rest := []) X (c_X6_forgetRuns l dC dI cI cJ cZ aG aW aH aR aP aC aO N W_sorts W_values W_turns W_falling W_count H_items H_size R_members R_starts R_inOrder R_standing R_heads R_tails R_rowsInAll R_made R_all R_filled P_takenRuns P_starts P_queued P_merges P_told C_sampled C_sampleStandings C_sizes C_ends C_lies C_merged C_reached C_done C_mergedBy C_parts C_samples C_bound C_ticks C_mergedInAll C_mergedAgain O_paces O_up h17) (cwV 0 hts gX6_runs_X6_forgetRuns rfl rfl rfl (by decide +kernel) ⟨Nat.le_of_ble_eq_true rfl, Nat.le_of_ble_eq_true rfl⟩) (ci := 6) rfl rfl rfl hw [0, 1, 2, 3, 4, 5, 6, 7, 8, 9, 10, 11, 12, 13, 14, 15, 16, 17, 18, 19, 20, 21, 22, 23, 24, 25, 26, 27, 28, 29, 30, 31] rfl rfl rfl rfl hl.1 rfl (Nat.le_of_ble_eq_true rfl) dX6_runs_13 ⟨Nat.zero_le _, Nat.zero_le _⟩ (fun H locs hw => ?_)
    replace hw : Wd (dC, dI) A s.heap H locs (w_GWHRPCO aG aW aH aR aP aC aO cI cJ cZ W_sorts W_values W_turns W_falling W_count H_items H_size R_members R_starts R_inOrder R_standing R_heads R_tails c4 c5 c6 c7 P_takenRuns P_starts P_queued c8 c9 C_sampled C_sampleStandings C_sizes C_ends C_lies C_merged C_reached C_done c10 c11 c12 c13 c14 c15 c16 O_paces O_up) := hw
    refine lv_aload_n hx hb dX6_runs_16 rfl (lv_at hl 0 rfl) ?_
    refine va_get (D := (dC, dI)) (ci := 6) (v := .ref (aR 0)) (C := RX6) (T := TX6) (N := 6) hx hb hts i_X6_runs_X6 hown hK hw.1 0 rfl rfl 2 (by decide) (hts _ m_X6_runs_0) (fun _ h9 => h9) rfl dX6_runs_17 ?_
    refine lv_aload_n hx hb dX6_runs_20 rfl (lv_at hl 0 rfl) ?_
    refine va_get (D := (dC, dI)) (ci := 6) (v := .ref (aW 0)) (C := RX6) (T := TX6) (N := 6) hx hb hts i_X6_runs_X6 hown hK hw.1 0 rfl rfl 0 (by decide) (hts _ m_X6_runs_1) (fun _ h9 => h9) rfl dX6_runs_21 ?_
    refine lv_iload_n hx hb dX6_runs_24 rfl (lv_at hl 1 rfl) ?_
    refine lv_aload_n hx hb dX6_runs_25 rfl (lv_at hl 0 rfl) ?_
    refine va_get (D := (dC, dI)) (ci := 6) (v := .ref (aH 0)) (C := RX6) (T := TX6) (N := 6) hx hb hts i_X6_runs_X6 hown hK hw.1 0 rfl rfl 1 (by decide) (hts _ m_X6_runs_2) (fun _ h9 => h9) rfl dX6_runs_26 ?_
    obtain ⟨c18, c19, c20, c21, c22, c23, c24, c25, c26, c27, h28, hf⟩ := bd10_ob hf
    refine clVV (As := [.ref (aW 0), .int v1, .ref (aH 0)]) (rest := []) X (c_X5_makeOf l dC dI cI cJ cZ aR aW aH N R_members R_starts R_inOrder R_standing R_heads R_tails c4 c5 c6 c7 W_sorts W_values W_turns W_falling W_count H_items H_size v1 h28) (cwV 3 hts gX6_runs_X5_makeOf rfl rfl rfl (by decide +kernel) ⟨Nat.le_of_ble_eq_true rfl, Nat.le_of_ble_eq_true rfl⟩) (ci := 5) rfl rfl rfl hw [8, 9, 10, 11, 12, 13, 14, 1, 2, 3, 4, 5, 6, 7] rfl rfl rfl rfl hl.1 rfl (Nat.le_of_ble_eq_true rfl) dX6_runs_29 ⟨Nat.zero_le _, Nat.zero_le _⟩ (fun H locs hw => ?_)
    replace hw : Wd (dC, dI) A s.heap H locs (w_GWHRPCO aG aW aH aR aP aC aO cI cJ cZ W_sorts W_values W_turns W_falling W_count c26 c27 c18 c19 c20 c21 R_heads R_tails c22 c23 c24 c25 P_takenRuns P_starts P_queued c8 c9 C_sampled C_sampleStandings C_sizes C_ends C_lies C_merged C_reached C_done c10 c11 c12 c13 c14 c15 c16 O_paces O_up) := hw
    refine lv_aload_n hx hb dX6_runs_32 rfl (lv_at hl 0 rfl) ?_
    refine va_get (D := (dC, dI)) (ci := 6) (v := .ref (aR 0)) (C := RX6) (T := TX6) (N := 6) hx hb hts i_X6_runs_X6 hown hK hw.1 0 rfl rfl 2 (by decide) (hts _ m_X6_runs_0) (fun _ h9 => h9) rfl dX6_runs_33 ?_
    refine va_getN (D := (dC, dI)) (ci := 5) (v := .int c23) (C := RX5) (T := TX5) (N := 10) hx hb hts i_X6_runs_X5 hown hK hw.1 8 rfl rfl 7 (by decide) (va_Nw.use rfl (hN _ nk_16)) (fun _ h9 => h9) rfl dX6_runs_36 ?_
    cases hf
    exact endI X hr rfl hlocks rfl hw dX6_runs_39
  · replace hf := it_t hf b3
    refine lv_iconst (v := (-1)) hx hb dX6_runs_10 (by decide) ?_
    cases hf
    exact endI X hr rfl hlocks rfl hw dX6_runs_11
def rm_X6_length : Room := { frames := 3, cells := 0, slots := 0, locals := 64 }
set_option maxRecDepth 20000 in
theorem i_X6_length_X6 : ∀ w ∈ u_ws RX6 TX6 6, w ∈ wsX6_length := by decide +kernel
set_option maxRecDepth 20000 in
theorem m_X6_length_0 : Cond.fieldLink RX6 26 "GreatSort" "runs" "LGreatSort$Runs;" ∈ wsX6_length := by decide +kernel
set_option maxHeartbeats 4000000 in
set_option maxRecDepth 100000 in
theorem c_X6_length (l : Launch) (dC : Nat → ClassId) (dI : Nat → Nat → Nat) (cI cJ cZ : ClassId) (aG aW aH aR aP aC aO : Nat → Nat) (N : Nat) (W_sorts : (Nat → Int32)) (W_values : (Nat → Int32)) (W_turns : (Nat → Int32)) (W_falling : (Nat → Int32)) (W_count : Int32) (H_items : (Nat → Int64)) (H_size : Int32) (R_members : (Nat → Int32)) (R_starts : (Nat → Int32)) (R_inOrder : (Nat → Int32)) (R_standing : (Nat → Int32)) (R_heads : (Nat → Int32)) (R_tails : (Nat → Int32)) (R_rowsInAll : Int32) (R_made : Int32) (R_all : Int32) (R_filled : Int32) (P_takenRuns : (Nat → Int32)) (P_starts : (Nat → Int32)) (P_queued : (Nat → Int32)) (P_merges : Int32) (P_told : Int32) (C_sampled : (Nat → Int32)) (C_sampleStandings : (Nat → Int32)) (C_sizes : (Nat → Int32)) (C_ends : (Nat → Int32)) (C_lies : (Nat → Int32)) (C_merged : (Nat → Int32)) (C_reached : (Nat → Int32)) (C_done : (Nat → Int32)) (C_mergedBy : (Nat → Int32)) (C_parts : Int32) (C_samples : Int32) (C_bound : Int32) (C_ticks : Int32) (C_mergedInAll : Int32) (C_mergedAgain : Int32) (O_paces : (Nat → Int32)) (O_up : (Nat → Int32)) (v1 : Int32) {r : Int32} (hf : f_X6_length N R_starts R_all v1 = some r) :
    CtI l yX6_length wsX6_length rm_X6_length (dC, dI) (tyl cI cJ cZ) [.ref (aG 0), .int v1] (w_GWHRPCO aG aW aH aR aP aC aO cI cJ cZ W_sorts W_values W_turns W_falling W_count H_items H_size R_members R_starts R_inOrder R_standing R_heads R_tails R_rowsInAll R_made R_all R_filled P_takenRuns P_starts P_queued P_merges P_told C_sampled C_sampleStandings C_sizes C_ends C_lies C_merged C_reached C_done C_mergedBy C_parts C_samples C_bound C_ticks C_mergedInAll C_mergedAgain O_paces O_up) (w_GWHRPCO aG aW aH aR aP aC aO cI cJ cZ W_sorts W_values W_turns W_falling W_count H_items H_size R_members R_starts R_inOrder R_standing R_heads R_tails R_rowsInAll R_made R_all R_filled P_takenRuns P_starts P_queued P_merges P_told C_sampled C_sampleStandings C_sizes C_ends C_lies C_merged C_reached C_done C_mergedBy C_parts C_samples C_bound C_ticks C_mergedInAll C_mergedAgain O_paces O_up) r := by
  refine startI (cc := cX6_length) (maxL := 2) (rt := (some .int)) (by decide +kernel) rfl (Nat.le_of_ble_eq_true rfl) ?_
  intro p e s m below meth c A ls X hr hlocks hw hl
  replace X : Cx p m c cX6_length 2 s _ wsX6_length RX6 (dC, dI) (tyl cI cJ cZ) A := X
  replace hl : lv_has ls 2 [(0, .ref (aG 0)), (1, .int v1)] := hl
  obtain ⟨hx, hb, hml, hown, hts⟩ := X.1
  have hK := X.2.1
  have hN := X.2.2.2
  unfold f_X6_length at hf
  refine lv_aload_n hx hb dX6_length_0 rfl (lv_at hl 0 rfl) ?_
  refine va_get (D := (dC, dI)) (ci := 6) (v := .ref (aR 0)) (C := RX6) (T := TX6) (N := 6) hx hb hts i_X6_length_X6 hown hK hw.1 0 rfl rfl 2 (by decide) (hts _ m_X6_length_0) (fun _ h9 => h9) rfl dX6_length_1 ?_
  refine lv_iload_n hx hb dX6_length_4 rfl (lv_at hl 1 rfl) ?_
  obtain ⟨r1, h2, hf⟩ := bd1_ob hf
  refine clVI (As := [.int v1]) (rest := []) X (c_X5_has l dC dI cI cJ cZ aR N R_members R_starts R_inOrder R_standing R_heads R_tails R_rowsInAll R_made R_all R_filled v1 h2) (cwV 1 hts gX6_length_X5_has rfl rfl rfl (by decide +kernel) ⟨Nat.le_of_ble_eq_true rfl, Nat.le_of_ble_eq_true rfl⟩) (ci := 5) rfl rfl rfl hw [8, 9, 10, 11, 12, 13, 14] rfl rfl rfl rfl hl.1 rfl (Nat.le_of_ble_eq_true rfl) dX6_length_5 ⟨Nat.zero_le _, Nat.zero_le _⟩ (fun H locs hw => ?_)
  replace hw : Wd (dC, dI) A s.heap H locs (w_GWHRPCO aG aW aH aR aP aC aO cI cJ cZ W_sorts W_values W_turns W_falling W_count H_items H_size R_members R_starts R_inOrder R_standing R_heads R_tails R_rowsInAll R_made R_all R_filled P_takenRuns P_starts P_queued P_merges P_told C_sampled C_sampleStandings C_sizes C_ends C_lies C_merged C_reached C_done C_mergedBy C_parts C_samples C_bound C_ticks C_mergedInAll C_mergedAgain O_paces O_up) := hw
  refine lv_if_eq (tgt := 22) hx hb dX6_length_8 (by decide) (fun b3 => ?_) (fun b3 => ?_)
  · replace hf := it_t hf b3
    refine lv_iconst (v := (-1)) hx hb dX6_length_22 (by decide) ?_
    cases hf
    exact endI X hr rfl hlocks rfl hw dX6_length_23
  · replace hf := it_f hf b3
    refine lv_aload_n hx hb dX6_length_11 rfl (lv_at hl 0 rfl) ?_
    refine va_get (D := (dC, dI)) (ci := 6) (v := .ref (aR 0)) (C := RX6) (T := TX6) (N := 6) hx hb hts i_X6_length_X6 hown hK hw.1 0 rfl rfl 2 (by decide) (hts _ m_X6_length_0) (fun _ h9 => h9) rfl dX6_length_12 ?_
    refine lv_iload_n hx hb dX6_length_15 rfl (lv_at hl 1 rfl) ?_
    obtain ⟨r4, h5, hf⟩ := bd1_ob hf
    refine clVI (As := [.int v1]) (rest := []) X (c_X5_sizeOf l dC dI cI cJ cZ aR N R_members R_starts R_inOrder R_standing R_heads R_tails R_rowsInAll R_made R_all R_filled v1 h5) (cwV 1 hts gX6_length_X5_sizeOf rfl rfl rfl (by decide +kernel) ⟨Nat.le_of_ble_eq_true rfl, Nat.le_of_ble_eq_true rfl⟩) (ci := 5) rfl rfl rfl hw [8, 9, 10, 11, 12, 13, 14] rfl rfl rfl rfl hl.1 rfl (Nat.le_of_ble_eq_true rfl) dX6_length_16 ⟨Nat.zero_le _, Nat.zero_le _⟩ (fun H locs hw => ?_)
    replace hw : Wd (dC, dI) A s.heap H locs (w_GWHRPCO aG aW aH aR aP aC aO cI cJ cZ W_sorts W_values W_turns W_falling W_count H_items H_size R_members R_starts R_inOrder R_standing R_heads R_tails R_rowsInAll R_made R_all R_filled P_takenRuns P_starts P_queued P_merges P_told C_sampled C_sampleStandings C_sizes C_ends C_lies C_merged C_reached C_done C_mergedBy C_parts C_samples C_bound C_ticks C_mergedInAll C_mergedAgain O_paces O_up) := hw
    refine lv_goto (tgt := 23) hx hb dX6_length_19 (by decide) ?_
    cases hf
    exact endI X hr rfl hlocks rfl hw dX6_length_23
def rm_X6_at : Room := { frames := 4, cells := 0, slots := 0, locals := 86 }
set_option maxRecDepth 20000 in
theorem i_X6_at_X6 : ∀ w ∈ u_ws RX6 TX6 6, w ∈ wsX6_at := by decide +kernel
set_option maxRecDepth 20000 in
theorem m_X6_at_0 : Cond.fieldLink RX6 26 "GreatSort" "runs" "LGreatSort$Runs;" ∈ wsX6_at := by decide +kernel
set_option maxHeartbeats 4000000 in
set_option maxRecDepth 100000 in
theorem c_X6_at (l : Launch) (dC : Nat → ClassId) (dI : Nat → Nat → Nat) (cI cJ cZ : ClassId) (aG aW aH aR aP aC aO : Nat → Nat) (N : Nat) (W_sorts : (Nat → Int32)) (W_values : (Nat → Int32)) (W_turns : (Nat → Int32)) (W_falling : (Nat → Int32)) (W_count : Int32) (H_items : (Nat → Int64)) (H_size : Int32) (R_members : (Nat → Int32)) (R_starts : (Nat → Int32)) (R_inOrder : (Nat → Int32)) (R_standing : (Nat → Int32)) (R_heads : (Nat → Int32)) (R_tails : (Nat → Int32)) (R_rowsInAll : Int32) (R_made : Int32) (R_all : Int32) (R_filled : Int32) (P_takenRuns : (Nat → Int32)) (P_starts : (Nat → Int32)) (P_queued : (Nat → Int32)) (P_merges : Int32) (P_told : Int32) (C_sampled : (Nat → Int32)) (C_sampleStandings : (Nat → Int32)) (C_sizes : (Nat → Int32)) (C_ends : (Nat → Int32)) (C_lies : (Nat → Int32)) (C_merged : (Nat → Int32)) (C_reached : (Nat → Int32)) (C_done : (Nat → Int32)) (C_mergedBy : (Nat → Int32)) (C_parts : Int32) (C_samples : Int32) (C_bound : Int32) (C_ticks : Int32) (C_mergedInAll : Int32) (C_mergedAgain : Int32) (O_paces : (Nat → Int32)) (O_up : (Nat → Int32)) (v1 : Int32) (v2 : Int32) {r : Int32} (hf : f_X6_at N R_members R_starts R_all v1 v2 = some r) :
    CtI l yX6_at wsX6_at rm_X6_at (dC, dI) (tyl cI cJ cZ) [.ref (aG 0), .int v1, .int v2] (w_GWHRPCO aG aW aH aR aP aC aO cI cJ cZ W_sorts W_values W_turns W_falling W_count H_items H_size R_members R_starts R_inOrder R_standing R_heads R_tails R_rowsInAll R_made R_all R_filled P_takenRuns P_starts P_queued P_merges P_told C_sampled C_sampleStandings C_sizes C_ends C_lies C_merged C_reached C_done C_mergedBy C_parts C_samples C_bound C_ticks C_mergedInAll C_mergedAgain O_paces O_up) (w_GWHRPCO aG aW aH aR aP aC aO cI cJ cZ W_sorts W_values W_turns W_falling W_count H_items H_size R_members R_starts R_inOrder R_standing R_heads R_tails R_rowsInAll R_made R_all R_filled P_takenRuns P_starts P_queued P_merges P_told C_sampled C_sampleStandings C_sizes C_ends C_lies C_merged C_reached C_done C_mergedBy C_parts C_samples C_bound C_ticks C_mergedInAll C_mergedAgain O_paces O_up) r := by
  refine startI (cc := cX6_at) (maxL := 3) (rt := (some .int)) (by decide +kernel) rfl (Nat.le_of_ble_eq_true rfl) ?_
  intro p e s m below meth c A ls X hr hlocks hw hl
  replace X : Cx p m c cX6_at 3 s _ wsX6_at RX6 (dC, dI) (tyl cI cJ cZ) A := X
  replace hl : lv_has ls 3 [(0, .ref (aG 0)), (1, .int v1), (2, .int v2)] := hl
  obtain ⟨hx, hb, hml, hown, hts⟩ := X.1
  have hK := X.2.1
  have hN := X.2.2.2
  unfold f_X6_at at hf
  refine lv_aload_n hx hb dX6_at_0 rfl (lv_at hl 0 rfl) ?_
  refine va_get (D := (dC, dI)) (ci := 6) (v := .ref (aR 0)) (C := RX6) (T := TX6) (N := 6) hx hb hts i_X6_at_X6 hown hK hw.1 0 rfl rfl 2 (by decide) (hts _ m_X6_at_0) (fun _ h9 => h9) rfl dX6_at_1 ?_
  refine lv_iload_n hx hb dX6_at_4 rfl (lv_at hl 1 rfl) ?_
  refine lv_iload_n hx hb dX6_at_5 rfl (lv_at hl 2 rfl) ?_
  obtain ⟨r1, h2, hf⟩ := bd1_ob hf
  refine clVI (As := [.int v1, .int v2]) (rest := []) X (c_X5_rowIn l dC dI cI cJ cZ aR N R_members R_starts R_inOrder R_standing R_heads R_tails R_rowsInAll R_made R_all R_filled v1 v2 h2) (cwV 2 hts gX6_at_X5_rowIn rfl rfl rfl (by decide +kernel) ⟨Nat.le_of_ble_eq_true rfl, Nat.le_of_ble_eq_true rfl⟩) (ci := 5) rfl rfl rfl hw [8, 9, 10, 11, 12, 13, 14] rfl rfl rfl rfl hl.1 rfl (Nat.le_of_ble_eq_true rfl) dX6_at_6 ⟨Nat.zero_le _, Nat.zero_le _⟩ (fun H locs hw => ?_)
  replace hw : Wd (dC, dI) A s.heap H locs (w_GWHRPCO aG aW aH aR aP aC aO cI cJ cZ W_sorts W_values W_turns W_falling W_count H_items H_size R_members R_starts R_inOrder R_standing R_heads R_tails R_rowsInAll R_made R_all R_filled P_takenRuns P_starts P_queued P_merges P_told C_sampled C_sampleStandings C_sizes C_ends C_lies C_merged C_reached C_done C_mergedBy C_parts C_samples C_bound C_ticks C_mergedInAll C_mergedAgain O_paces O_up) := hw
  cases hf
  exact endI X hr rfl hlocks rfl hw dX6_at_9
def rm_X6_plan : Room := { frames := 4, cells := 0, slots := 0, locals := 102 }
set_option maxRecDepth 20000 in
theorem i_X6_plan_X6 : ∀ w ∈ u_ws RX6 TX6 6, w ∈ wsX6_plan := by decide +kernel
set_option maxRecDepth 20000 in
theorem i_X6_plan_X5 : ∀ w ∈ u_ws RX5 TX5 10, w ∈ wsX6_plan := by decide +kernel
set_option maxRecDepth 20000 in
theorem m_X6_plan_0 : Cond.fieldLink RX6 26 "GreatSort" "runs" "LGreatSort$Runs;" ∈ wsX6_plan := by decide +kernel
set_option maxRecDepth 20000 in
theorem m_X6_plan_1 : Cond.fieldLink RX6 33 "GreatSort" "plan" "LGreatSort$Plan;" ∈ wsX6_plan := by decide +kernel
set_option maxRecDepth 20000 in
theorem m_X6_plan_2 : Cond.fieldLink RX6 19 "GreatSort" "heap" "LGreatSort$Heap;" ∈ wsX6_plan := by decide +kernel
set_option maxHeartbeats 4000000 in
set_option maxRecDepth 100000 in
theorem c_X6_plan (l : Launch) (dC : Nat → ClassId) (dI : Nat → Nat → Nat) (cI cJ cZ : ClassId) (aG aW aH aR aP aC aO : Nat → Nat) (N : Nat) (W_sorts : (Nat → Int32)) (W_values : (Nat → Int32)) (W_turns : (Nat → Int32)) (W_falling : (Nat → Int32)) (W_count : Int32) (H_items : (Nat → Int64)) (H_size : Int32) (R_members : (Nat → Int32)) (R_starts : (Nat → Int32)) (R_inOrder : (Nat → Int32)) (R_standing : (Nat → Int32)) (R_heads : (Nat → Int32)) (R_tails : (Nat → Int32)) (R_rowsInAll : Int32) (R_made : Int32) (R_all : Int32) (R_filled : Int32) (P_takenRuns : (Nat → Int32)) (P_starts : (Nat → Int32)) (P_queued : (Nat → Int32)) (P_merges : Int32) (P_told : Int32) (C_sampled : (Nat → Int32)) (C_sampleStandings : (Nat → Int32)) (C_sizes : (Nat → Int32)) (C_ends : (Nat → Int32)) (C_lies : (Nat → Int32)) (C_merged : (Nat → Int32)) (C_reached : (Nat → Int32)) (C_done : (Nat → Int32)) (C_mergedBy : (Nat → Int32)) (C_parts : Int32) (C_samples : Int32) (C_bound : Int32) (C_ticks : Int32) (C_mergedInAll : Int32) (C_mergedAgain : Int32) (O_paces : (Nat → Int32)) (O_up : (Nat → Int32)) (v1 : Int32) {r : Int32} {o_H_items : (Nat → Int64)} {o_H_size : Int32} {o_R_all : Int32} {o_R_filled : Int32} {o_P_takenRuns : (Nat → Int32)} {o_P_starts : (Nat → Int32)} {o_P_merges : Int32} {o_P_told : Int32} (hf : f_X6_plan N H_items H_size R_starts R_rowsInAll R_made R_all R_filled P_takenRuns P_starts P_merges P_told v1 = some (r, o_H_items, o_H_size, o_R_all, o_R_filled, o_P_takenRuns, o_P_starts, o_P_merges, o_P_told)) :
    CtI l yX6_plan wsX6_plan rm_X6_plan (dC, dI) (tyl cI cJ cZ) [.ref (aG 0), .int v1] (w_GWHRPCO aG aW aH aR aP aC aO cI cJ cZ W_sorts W_values W_turns W_falling W_count H_items H_size R_members R_starts R_inOrder R_standing R_heads R_tails R_rowsInAll R_made R_all R_filled P_takenRuns P_starts P_queued P_merges P_told C_sampled C_sampleStandings C_sizes C_ends C_lies C_merged C_reached C_done C_mergedBy C_parts C_samples C_bound C_ticks C_mergedInAll C_mergedAgain O_paces O_up) (w_GWHRPCO aG aW aH aR aP aC aO cI cJ cZ W_sorts W_values W_turns W_falling W_count o_H_items o_H_size R_members R_starts R_inOrder R_standing R_heads R_tails R_rowsInAll R_made o_R_all o_R_filled o_P_takenRuns o_P_starts P_queued o_P_merges o_P_told C_sampled C_sampleStandings C_sizes C_ends C_lies C_merged C_reached C_done C_mergedBy C_parts C_samples C_bound C_ticks C_mergedInAll C_mergedAgain O_paces O_up) r := by
  refine startI (cc := cX6_plan) (maxL := 2) (rt := (some .int)) (by decide +kernel) rfl (Nat.le_of_ble_eq_true rfl) ?_
  intro p e s m below meth c A ls X hr hlocks hw hl
  replace X : Cx p m c cX6_plan 2 s _ wsX6_plan RX6 (dC, dI) (tyl cI cJ cZ) A := X
  replace hl : lv_has ls 2 [(0, .ref (aG 0)), (1, .int v1)] := hl
  obtain ⟨hx, hb, hml, hown, hts⟩ := X.1
  have hK := X.2.1
  have hN := X.2.2.2
  unfold f_X6_plan at hf
  refine lv_aload_n hx hb dX6_plan_0 rfl (lv_at hl 0 rfl) ?_
  refine va_get (D := (dC, dI)) (ci := 6) (v := .ref (aR 0)) (C := RX6) (T := TX6) (N := 6) hx hb hts i_X6_plan_X6 hown hK hw.1 0 rfl rfl 2 (by decide) (hts _ m_X6_plan_0) (fun _ h9 => h9) rfl dX6_plan_1 ?_
  refine va_getN (D := (dC, dI)) (ci := 5) (v := .int R_made) (C := RX5) (T := TX5) (N := 10) hx hb hts i_X6_plan_X5 hown hK hw.1 8 rfl rfl 7 (by decide) (va_Nw.use rfl (hN _ nk_16)) (fun _ h9 => h9) rfl dX6_plan_4 ?_
  refine lv_if_eq (tgt := 20) hx hb dX6_plan_7 (by decide) (fun b1 => ?_) (fun b1 => ?_)
  · replace hf := it_t hf b1
    refine lv_iconst (v := (-1)) hx hb dX6_plan_20 (by decide) ?_
    cases hf
    exact endI X hr rfl hlocks rfl hw dX6_plan_21
  · replace hf := it_f hf b1
    refine lv_iload_n hx hb dX6_plan_10 rfl (lv_at hl 1 rfl) ?_
    refine lv_iconst (v := 2) hx hb dX6_plan_11 (by decide) ?_
    refine lv_bipush (v := 8) hx hb dX6_plan_12 (by decide) ?_
    obtain ⟨r2, h3, hf⟩ := bd1_ob hf
    refine clSI (As := [.int v1, .int (2 : Int32), .int (8 : Int32)]) (rest := []) X (c_X6_isIn l dC dI cI cJ cZ N v1 (2 : Int32) (8 : Int32) h3) (va_cwS 3 hts gX6_plan_X6_isIn rfl rfl rfl (by decide +kernel) ⟨Nat.le_of_ble_eq_true rfl, Nat.le_of_ble_eq_true rfl⟩) hw [] rfl rfl rfl rfl hl.1 rfl (Nat.le_of_ble_eq_true rfl) dX6_plan_14 ⟨Nat.zero_le _, Nat.zero_le _⟩ (fun H locs hw => ?_)
    replace hw : Wd (dC, dI) A s.heap H locs (w_GWHRPCO aG aW aH aR aP aC aO cI cJ cZ W_sorts W_values W_turns W_falling W_count H_items H_size R_members R_starts R_inOrder R_standing R_heads R_tails R_rowsInAll R_made R_all R_filled P_takenRuns P_starts P_queued P_merges P_told C_sampled C_sampleStandings C_sizes C_ends C_lies C_merged C_reached C_done C_mergedBy C_parts C_samples C_bound C_ticks C_mergedInAll C_mergedAgain O_paces O_up) := hw
    refine lv_if_ne (tgt := 22) hx hb dX6_plan_17 (by decide) (fun b4 => ?_) (fun b4 => ?_)
    · replace hf := it_f hf b4
      refine lv_aload_n hx hb dX6_plan_22 rfl (lv_at hl 0 rfl) ?_
      refine va_get (D := (dC, dI)) (ci := 6) (v := .ref (aR 0)) (C := RX6) (T := TX6) (N := 6) hx hb hts i_X6_plan_X6 hown hK hw.1 0 rfl rfl 2 (by decide) (hts _ m_X6_plan_0) (fun _ h9 => h9) rfl dX6_plan_23 ?_
      obtain ⟨c5, c6, h7, hf⟩ := bd2_ob hf
      refine clVV (As := []) (rest := []) X (c_X5_forgetMerged l dC dI cI cJ cZ aR N R_members R_starts R_inOrder R_standing R_heads R_tails R_rowsInAll R_made R_all R_filled h7) (cwV 0 hts gX6_plan_X5_forgetMerged rfl rfl rfl (by decide +kernel) ⟨Nat.le_of_ble_eq_true rfl, Nat.le_of_ble_eq_true rfl⟩) (ci := 5) rfl rfl rfl hw [8, 9, 10, 11, 12, 13, 14] rfl rfl rfl rfl hl.1 rfl (Nat.le_of_ble_eq_true rfl) dX6_plan_26 ⟨Nat.zero_le _, Nat.zero_le _⟩ (fun H locs hw => ?_)
      replace hw : Wd (dC, dI) A s.heap H locs (w_GWHRPCO aG aW aH aR aP aC aO cI cJ cZ W_sorts W_values W_turns W_falling W_count H_items H_size R_members R_starts R_inOrder R_standing R_heads R_tails R_rowsInAll R_made c5 c6 P_takenRuns P_starts P_queued P_merges P_told C_sampled C_sampleStandings C_sizes C_ends C_lies C_merged C_reached C_done C_mergedBy C_parts C_samples C_bound C_ticks C_mergedInAll C_mergedAgain O_paces O_up) := hw
      refine lv_aload_n hx hb dX6_plan_29 rfl (lv_at hl 0 rfl) ?_
      refine va_get (D := (dC, dI)) (ci := 6) (v := .ref (aP 0)) (C := RX6) (T := TX6) (N := 6) hx hb hts i_X6_plan_X6 hown hK hw.1 0 rfl rfl 3 (by decide) (hts _ m_X6_plan_1) (fun _ h9 => h9) rfl dX6_plan_30 ?_
      refine lv_aload_n hx hb dX6_plan_33 rfl (lv_at hl 0 rfl) ?_
      refine va_get (D := (dC, dI)) (ci := 6) (v := .ref (aR 0)) (C := RX6) (T := TX6) (N := 6) hx hb hts i_X6_plan_X6 hown hK hw.1 0 rfl rfl 2 (by decide) (hts _ m_X6_plan_0) (fun _ h9 => h9) rfl dX6_plan_34 ?_
      refine lv_iload_n hx hb dX6_plan_37 rfl (lv_at hl 1 rfl) ?_
      refine lv_aload_n hx hb dX6_plan_38 rfl (lv_at hl 0 rfl) ?_
      refine va_get (D := (dC, dI)) (ci := 6) (v := .ref (aH 0)) (C := RX6) (T := TX6) (N := 6) hx hb hts i_X6_plan_X6 hown hK hw.1 0 rfl rfl 1 (by decide) (hts _ m_X6_plan_2) (fun _ h9 => h9) rfl dX6_plan_39 ?_
      obtain ⟨r8, c9, c10, c11, c12, c13, c14, h15, hf⟩ := bd7_ob hf
      refine clVI (As := [.ref (aR 0), .int v1, .ref (aH 0)]) (rest := []) X (c_X3_tell l dC dI cI cJ cZ aP aR aH N P_takenRuns P_starts P_queued P_merges P_told R_members R_starts R_inOrder R_standing R_heads R_tails R_rowsInAll R_made c5 c6 H_items H_size v1 h15) (cwV 3 hts gX6_plan_X3_tell rfl rfl rfl (by decide +kernel) ⟨Nat.le_of_ble_eq_true rfl, Nat.le_of_ble_eq_true rfl⟩) (ci := 3) rfl rfl rfl hw [15, 16, 17, 18, 8, 9, 10, 11, 12, 13, 14, 6, 7] rfl rfl rfl rfl hl.1 rfl (Nat.le_of_ble_eq_true rfl) dX6_plan_42 ⟨Nat.zero_le _, Nat.zero_le _⟩ (fun H locs hw => ?_)
      replace hw : Wd (dC, dI) A s.heap H locs (w_GWHRPCO aG aW aH aR aP aC aO cI cJ cZ W_sorts W_values W_turns W_falling W_count c13 c14 R_members R_starts R_inOrder R_standing R_heads R_tails R_rowsInAll R_made c5 c6 c9 c10 P_queued c11 c12 C_sampled C_sampleStandings C_sizes C_ends C_lies C_merged C_reached C_done C_mergedBy C_parts C_samples C_bound C_ticks C_mergedInAll C_mergedAgain O_paces O_up) := hw
      cases hf
      exact endI X hr rfl hlocks rfl hw dX6_plan_45
    · replace hf := it_t hf b4
      refine lv_iconst (v := (-1)) hx hb dX6_plan_20 (by decide) ?_
      cases hf
      exact endI X hr rfl hlocks rfl hw dX6_plan_21
def rm_X6_queue : Room := { frames := 4, cells := 0, slots := 0, locals := 92 }
set_option maxRecDepth 20000 in
theorem i_X6_queue_X6 : ∀ w ∈ u_ws RX6 TX6 6, w ∈ wsX6_queue := by decide +kernel
set_option maxRecDepth 20000 in
theorem i_X6_queue_X5 : ∀ w ∈ u_ws RX5 TX5 10, w ∈ wsX6_queue := by decide +kernel
set_option maxRecDepth 20000 in
theorem m_X6_queue_0 : Cond.fieldLink RX6 26 "GreatSort" "runs" "LGreatSort$Runs;" ∈ wsX6_queue := by decide +kernel
set_option maxRecDepth 20000 in
theorem m_X6_queue_1 : Cond.fieldLink RX6 33 "GreatSort" "plan" "LGreatSort$Plan;" ∈ wsX6_queue := by decide +kernel
set_option maxHeartbeats 4000000 in
set_option maxRecDepth 100000 in
theorem c_X6_queue (l : Launch) (dC : Nat → ClassId) (dI : Nat → Nat → Nat) (cI cJ cZ : ClassId) (aG aW aH aR aP aC aO : Nat → Nat) (N : Nat) (W_sorts : (Nat → Int32)) (W_values : (Nat → Int32)) (W_turns : (Nat → Int32)) (W_falling : (Nat → Int32)) (W_count : Int32) (H_items : (Nat → Int64)) (H_size : Int32) (R_members : (Nat → Int32)) (R_starts : (Nat → Int32)) (R_inOrder : (Nat → Int32)) (R_standing : (Nat → Int32)) (R_heads : (Nat → Int32)) (R_tails : (Nat → Int32)) (R_rowsInAll : Int32) (R_made : Int32) (R_all : Int32) (R_filled : Int32) (P_takenRuns : (Nat → Int32)) (P_starts : (Nat → Int32)) (P_queued : (Nat → Int32)) (P_merges : Int32) (P_told : Int32) (C_sampled : (Nat → Int32)) (C_sampleStandings : (Nat → Int32)) (C_sizes : (Nat → Int32)) (C_ends : (Nat → Int32)) (C_lies : (Nat → Int32)) (C_merged : (Nat → Int32)) (C_reached : (Nat → Int32)) (C_done : (Nat → Int32)) (C_mergedBy : (Nat → Int32)) (C_parts : Int32) (C_samples : Int32) (C_bound : Int32) (C_ticks : Int32) (C_mergedInAll : Int32) (C_mergedAgain : Int32) (O_paces : (Nat → Int32)) (O_up : (Nat → Int32)) (v1 : Int32) {r : Int32} {o_P_queued : (Nat → Int32)} (hf : f_X6_queue N R_starts R_made R_all P_queued v1 = some (r, o_P_queued)) :
    CtI l yX6_queue wsX6_queue rm_X6_queue (dC, dI) (tyl cI cJ cZ) [.ref (aG 0), .int v1] (w_GWHRPCO aG aW aH aR aP aC aO cI cJ cZ W_sorts W_values W_turns W_falling W_count H_items H_size R_members R_starts R_inOrder R_standing R_heads R_tails R_rowsInAll R_made R_all R_filled P_takenRuns P_starts P_queued P_merges P_told C_sampled C_sampleStandings C_sizes C_ends C_lies C_merged C_reached C_done C_mergedBy C_parts C_samples C_bound C_ticks C_mergedInAll C_mergedAgain O_paces O_up) (w_GWHRPCO aG aW aH aR aP aC aO cI cJ cZ W_sorts W_values W_turns W_falling W_count H_items H_size R_members R_starts R_inOrder R_standing R_heads R_tails R_rowsInAll R_made R_all R_filled P_takenRuns P_starts o_P_queued P_merges P_told C_sampled C_sampleStandings C_sizes C_ends C_lies C_merged C_reached C_done C_mergedBy C_parts C_samples C_bound C_ticks C_mergedInAll C_mergedAgain O_paces O_up) r := by
  refine startI (cc := cX6_queue) (maxL := 2) (rt := (some .int)) (by decide +kernel) rfl (Nat.le_of_ble_eq_true rfl) ?_
  intro p e s m below meth c A ls X hr hlocks hw hl
  replace X : Cx p m c cX6_queue 2 s _ wsX6_queue RX6 (dC, dI) (tyl cI cJ cZ) A := X
  replace hl : lv_has ls 2 [(0, .ref (aG 0)), (1, .int v1)] := hl
  obtain ⟨hx, hb, hml, hown, hts⟩ := X.1
  have hK := X.2.1
  have hN := X.2.2.2
  unfold f_X6_queue at hf
  refine lv_aload_n hx hb dX6_queue_0 rfl (lv_at hl 0 rfl) ?_
  refine va_get (D := (dC, dI)) (ci := 6) (v := .ref (aR 0)) (C := RX6) (T := TX6) (N := 6) hx hb hts i_X6_queue_X6 hown hK hw.1 0 rfl rfl 2 (by decide) (hts _ m_X6_queue_0) (fun _ h9 => h9) rfl dX6_queue_1 ?_
  refine va_getN (D := (dC, dI)) (ci := 5) (v := .int R_made) (C := RX5) (T := TX5) (N := 10) hx hb hts i_X6_queue_X5 hown hK hw.1 8 rfl rfl 7 (by decide) (va_Nw.use rfl (hN _ nk_16)) (fun _ h9 => h9) rfl dX6_queue_4 ?_
  refine lv_if_eq (tgt := 20) hx hb dX6_queue_7 (by decide) (fun b1 => ?_) (fun b1 => ?_)
  · replace hf := it_t hf b1
    refine lv_iconst (v := (-1)) hx hb dX6_queue_20 (by decide) ?_
    cases hf
    exact endI X hr rfl hlocks rfl hw dX6_queue_21
  · replace hf := it_f hf b1
    refine lv_iload_n hx hb dX6_queue_10 rfl (lv_at hl 1 rfl) ?_
    refine lv_iconst (v := 2) hx hb dX6_queue_11 (by decide) ?_
    refine lv_bipush (v := 8) hx hb dX6_queue_12 (by decide) ?_
    obtain ⟨r2, h3, hf⟩ := bd1_ob hf
    refine clSI (As := [.int v1, .int (2 : Int32), .int (8 : Int32)]) (rest := []) X (c_X6_isIn l dC dI cI cJ cZ N v1 (2 : Int32) (8 : Int32) h3) (va_cwS 3 hts gX6_queue_X6_isIn rfl rfl rfl (by decide +kernel) ⟨Nat.le_of_ble_eq_true rfl, Nat.le_of_ble_eq_true rfl⟩) hw [] rfl rfl rfl rfl hl.1 rfl (Nat.le_of_ble_eq_true rfl) dX6_queue_14 ⟨Nat.zero_le _, Nat.zero_le _⟩ (fun H locs hw => ?_)
    replace hw : Wd (dC, dI) A s.heap H locs (w_GWHRPCO aG aW aH aR aP aC aO cI cJ cZ W_sorts W_values W_turns W_falling W_count H_items H_size R_members R_starts R_inOrder R_standing R_heads R_tails R_rowsInAll R_made R_all R_filled P_takenRuns P_starts P_queued P_merges P_told C_sampled C_sampleStandings C_sizes C_ends C_lies C_merged C_reached C_done C_mergedBy C_parts C_samples C_bound C_ticks C_mergedInAll C_mergedAgain O_paces O_up) := hw
    refine lv_if_ne (tgt := 22) hx hb dX6_queue_17 (by decide) (fun b4 => ?_) (fun b4 => ?_)
    · replace hf := it_f hf b4
      refine lv_aload_n hx hb dX6_queue_22 rfl (lv_at hl 0 rfl) ?_
      refine va_get (D := (dC, dI)) (ci := 6) (v := .ref (aP 0)) (C := RX6) (T := TX6) (N := 6) hx hb hts i_X6_queue_X6 hown hK hw.1 0 rfl rfl 3 (by decide) (hts _ m_X6_queue_1) (fun _ h9 => h9) rfl dX6_queue_23 ?_
      refine lv_aload_n hx hb dX6_queue_26 rfl (lv_at hl 0 rfl) ?_
      refine va_get (D := (dC, dI)) (ci := 6) (v := .ref (aR 0)) (C := RX6) (T := TX6) (N := 6) hx hb hts i_X6_queue_X6 hown hK hw.1 0 rfl rfl 2 (by decide) (hts _ m_X6_queue_0) (fun _ h9 => h9) rfl dX6_queue_27 ?_
      refine lv_iload_n hx hb dX6_queue_30 rfl (lv_at hl 1 rfl) ?_
      obtain ⟨r5, c6, h7, hf⟩ := bd2_ob hf
      refine clVI (As := [.ref (aR 0), .int v1]) (rest := []) X (c_X3_movedByQueue l dC dI cI cJ cZ aP aR N P_takenRuns P_starts P_queued P_merges P_told R_members R_starts R_inOrder R_standing R_heads R_tails R_rowsInAll R_made R_all R_filled v1 h7) (cwV 2 hts gX6_queue_X3_movedByQueue rfl rfl rfl (by decide +kernel) ⟨Nat.le_of_ble_eq_true rfl, Nat.le_of_ble_eq_true rfl⟩) (ci := 3) rfl rfl rfl hw [15, 16, 17, 18, 8, 9, 10, 11, 12, 13, 14] rfl rfl rfl rfl hl.1 rfl (Nat.le_of_ble_eq_true rfl) dX6_queue_31 ⟨Nat.zero_le _, Nat.zero_le _⟩ (fun H locs hw => ?_)
      replace hw : Wd (dC, dI) A s.heap H locs (w_GWHRPCO aG aW aH aR aP aC aO cI cJ cZ W_sorts W_values W_turns W_falling W_count H_items H_size R_members R_starts R_inOrder R_standing R_heads R_tails R_rowsInAll R_made R_all R_filled P_takenRuns P_starts c6 P_merges P_told C_sampled C_sampleStandings C_sizes C_ends C_lies C_merged C_reached C_done C_mergedBy C_parts C_samples C_bound C_ticks C_mergedInAll C_mergedAgain O_paces O_up) := hw
      cases hf
      exact endI X hr rfl hlocks rfl hw dX6_queue_34
    · replace hf := it_t hf b4
      refine lv_iconst (v := (-1)) hx hb dX6_queue_20 (by decide) ?_
      cases hf
      exact endI X hr rfl hlocks rfl hw dX6_queue_21
