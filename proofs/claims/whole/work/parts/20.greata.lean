def rm_X6_give : Room := { frames := 1, cells := 0, slots := 0, locals := 22 }
set_option maxRecDepth 20000 in
theorem i_X6_give_X6 : ∀ w ∈ u_ws RX6 TX6 6, w ∈ wsX6_give := by decide +kernel
set_option maxRecDepth 20000 in
theorem i_X6_give_X4 : ∀ w ∈ u_ws RX4 TX4 5, w ∈ wsX6_give := by decide +kernel
set_option maxRecDepth 20000 in
theorem m_X6_give_0 : Cond.constant RX6 55 (-100000) ∈ wsX6_give := by decide +kernel
set_option maxRecDepth 20000 in
theorem m_X6_give_1 : Cond.constant RX6 56 (100000) ∈ wsX6_give := by decide +kernel
set_option maxRecDepth 20000 in
theorem m_X6_give_2 : Cond.fieldLink RX6 12 "GreatSort" "rows" "LGreatSort$Rows;" ∈ wsX6_give := by decide +kernel
set_option maxHeartbeats 4000000 in
set_option maxRecDepth 100000 in
theorem c_X6_give (l : Launch) (dC : Nat → ClassId) (dI : Nat → Nat → Nat) (cI cJ cZ : ClassId) (aG aW aH aR aP aC aO : Nat → Nat) (N : Nat) (W_sorts : (Nat → Int32)) (W_values : (Nat → Int32)) (W_turns : (Nat → Int32)) (W_falling : (Nat → Int32)) (W_count : Int32) (H_items : (Nat → Int64)) (H_size : Int32) (R_members : (Nat → Int32)) (R_starts : (Nat → Int32)) (R_inOrder : (Nat → Int32)) (R_standing : (Nat → Int32)) (R_heads : (Nat → Int32)) (R_tails : (Nat → Int32)) (R_rowsInAll : Int32) (R_made : Int32) (R_all : Int32) (R_filled : Int32) (P_takenRuns : (Nat → Int32)) (P_starts : (Nat → Int32)) (P_queued : (Nat → Int32)) (P_merges : Int32) (P_told : Int32) (C_sampled : (Nat → Int32)) (C_sampleStandings : (Nat → Int32)) (C_sizes : (Nat → Int32)) (C_ends : (Nat → Int32)) (C_lies : (Nat → Int32)) (C_merged : (Nat → Int32)) (C_reached : (Nat → Int32)) (C_done : (Nat → Int32)) (C_mergedBy : (Nat → Int32)) (C_parts : Int32) (C_samples : Int32) (C_bound : Int32) (C_ticks : Int32) (C_mergedInAll : Int32) (C_mergedAgain : Int32) (O_paces : (Nat → Int32)) (O_up : (Nat → Int32)) (v1 : Int32) (v2 : Int32) {r : Int32} {o_W_sorts : (Nat → Int32)} {o_W_values : (Nat → Int32)} {o_W_count : Int32} (hf : f_X6_give N W_sorts W_values W_count v1 v2 = some (r, o_W_sorts, o_W_values, o_W_count)) :
    CtI l yX6_give wsX6_give rm_X6_give (dC, dI) (tyl cI cJ cZ) [.ref (aG 0), .int v1, .int v2] (w_GWHRPCO aG aW aH aR aP aC aO cI cJ cZ W_sorts W_values W_turns W_falling W_count H_items H_size R_members R_starts R_inOrder R_standing R_heads R_tails R_rowsInAll R_made R_all R_filled P_takenRuns P_starts P_queued P_merges P_told C_sampled C_sampleStandings C_sizes C_ends C_lies C_merged C_reached C_done C_mergedBy C_parts C_samples C_bound C_ticks C_mergedInAll C_mergedAgain O_paces O_up) (w_GWHRPCO aG aW aH aR aP aC aO cI cJ cZ o_W_sorts o_W_values W_turns W_falling o_W_count H_items H_size R_members R_starts R_inOrder R_standing R_heads R_tails R_rowsInAll R_made R_all R_filled P_takenRuns P_starts P_queued P_merges P_told C_sampled C_sampleStandings C_sizes C_ends C_lies C_merged C_reached C_done C_mergedBy C_parts C_samples C_bound C_ticks C_mergedInAll C_mergedAgain O_paces O_up) r := by
  refine startI (cc := cX6_give) (maxL := 3) (rt := (some .int)) (by decide +kernel) rfl (Nat.le_of_ble_eq_true rfl) ?_
  intro p e s m below meth c A ls X hr hlocks hw hl
  replace X : Cx p m c cX6_give 3 s _ wsX6_give RX6 (dC, dI) (tyl cI cJ cZ) A := X
  replace hl : lv_has ls 3 [(0, .ref (aG 0)), (1, .int v1), (2, .int v2)] := hl
  obtain ⟨hx, hb, hml, hown, hts⟩ := X.1
  have hK := X.2.1
  have hN := X.2.2.2
  unfold f_X6_give at hf
  refine lv_iload_n hx hb dX6_give_0 rfl (lv_at hl 1 rfl) ?_
  refine lv_iconst (v := 0) hx hb dX6_give_1 (by decide) ?_
  refine lv_iconst (v := 3) hx hb dX6_give_2 (by decide) ?_
  obtain ⟨r1, h2, hf⟩ := bd1_ob hf
  refine clSI (As := [.int v1, .int (0 : Int32), .int (3 : Int32)]) (rest := []) X (c_X6_isIn l dC dI cI cJ cZ N v1 (0 : Int32) (3 : Int32) h2) (va_cwS 3 hts gX6_give_X6_isIn rfl rfl rfl (by decide +kernel) ⟨Nat.le_of_ble_eq_true rfl, Nat.le_of_ble_eq_true rfl⟩) hw [] rfl rfl rfl rfl hl.1 rfl (Nat.le_of_ble_eq_true rfl) dX6_give_3 ⟨Nat.zero_le _, Nat.zero_le _⟩ (fun H locs hw => ?_)
  replace hw : Wd (dC, dI) A s.heap H locs (w_GWHRPCO aG aW aH aR aP aC aO cI cJ cZ W_sorts W_values W_turns W_falling W_count H_items H_size R_members R_starts R_inOrder R_standing R_heads R_tails R_rowsInAll R_made R_all R_filled P_takenRuns P_starts P_queued P_merges P_told C_sampled C_sampleStandings C_sizes C_ends C_lies C_merged C_reached C_done C_mergedBy C_parts C_samples C_bound C_ticks C_mergedInAll C_mergedAgain O_paces O_up) := hw
  refine lv_if_eq (tgt := 31) hx hb dX6_give_6 (by decide) (fun b3 => ?_) (fun b3 => ?_)
  · replace hf := it_t hf b3
    refine lv_iconst (v := (-1)) hx hb dX6_give_31 (by decide) ?_
    cases hf
    exact endI X hr rfl hlocks rfl hw dX6_give_32
  · replace hf := it_f hf b3
    refine lv_iload_n hx hb dX6_give_9 rfl (lv_at hl 2 rfl) ?_
    refine lv_ldc (v := (-100000)) hx hb hown (hts _ m_X6_give_0) dX6_give_10 ?_
    refine lv_ldc (v := 100000) hx hb hown (hts _ m_X6_give_1) dX6_give_12 ?_
    obtain ⟨r4, h5, hf⟩ := bd1_ob hf
    refine clSI (As := [.int v2, .int (-100000 : Int32), .int (100000 : Int32)]) (rest := []) X (c_X6_isIn l dC dI cI cJ cZ N v2 (-100000 : Int32) (100000 : Int32) h5) (va_cwS 3 hts gX6_give_X6_isIn rfl rfl rfl (by decide +kernel) ⟨Nat.le_of_ble_eq_true rfl, Nat.le_of_ble_eq_true rfl⟩) hw [] rfl rfl rfl rfl hl.1 rfl (Nat.le_of_ble_eq_true rfl) dX6_give_14 ⟨Nat.zero_le _, Nat.zero_le _⟩ (fun H locs hw => ?_)
    replace hw : Wd (dC, dI) A s.heap H locs (w_GWHRPCO aG aW aH aR aP aC aO cI cJ cZ W_sorts W_values W_turns W_falling W_count H_items H_size R_members R_starts R_inOrder R_standing R_heads R_tails R_rowsInAll R_made R_all R_filled P_takenRuns P_starts P_queued P_merges P_told C_sampled C_sampleStandings C_sizes C_ends C_lies C_merged C_reached C_done C_mergedBy C_parts C_samples C_bound C_ticks C_mergedInAll C_mergedAgain O_paces O_up) := hw
    refine lv_if_eq (tgt := 31) hx hb dX6_give_17 (by decide) (fun b6 => ?_) (fun b6 => ?_)
    · replace hf := it_t hf b6
      refine lv_iconst (v := (-1)) hx hb dX6_give_31 (by decide) ?_
      cases hf
      exact endI X hr rfl hlocks rfl hw dX6_give_32
    · replace hf := it_f hf b6
      refine lv_aload_n hx hb dX6_give_20 rfl (lv_at hl 0 rfl) ?_
      refine va_get (D := (dC, dI)) (ci := 6) (v := .ref (aW 0)) (C := RX6) (T := TX6) (N := 6) hx hb hts i_X6_give_X6 hown hK hw.1 0 rfl rfl 0 (by decide) (hts _ m_X6_give_2) (fun _ h9 => h9) rfl dX6_give_21 ?_
      refine lv_iconst (v := 1) hx hb dX6_give_24 (by decide) ?_
      obtain ⟨r7, h8, hf⟩ := bd1_ob hf
      refine clVI (As := [.int (1 : Int32)]) (rest := []) X (c_X4_hasRoomFor l dC dI cI cJ cZ aW N W_sorts W_values W_turns W_falling W_count (1 : Int32) h8) (cwV 1 hts gX6_give_X4_hasRoomFor rfl rfl rfl (by decide +kernel) ⟨Nat.le_of_ble_eq_true rfl, Nat.le_of_ble_eq_true rfl⟩) (ci := 4) (k0 := 0) rfl rfl rfl hw [1, 2, 3, 4, 5] rfl rfl rfl rfl hl.1 rfl (Nat.le_of_ble_eq_true rfl) dX6_give_25 ⟨Nat.zero_le _, Nat.zero_le _⟩ (fun H locs hw => ?_)
      replace hw : Wd (dC, dI) A s.heap H locs (w_GWHRPCO aG aW aH aR aP aC aO cI cJ cZ W_sorts W_values W_turns W_falling W_count H_items H_size R_members R_starts R_inOrder R_standing R_heads R_tails R_rowsInAll R_made R_all R_filled P_takenRuns P_starts P_queued P_merges P_told C_sampled C_sampleStandings C_sizes C_ends C_lies C_merged C_reached C_done C_mergedBy C_parts C_samples C_bound C_ticks C_mergedInAll C_mergedAgain O_paces O_up) := hw
      refine lv_if_ne (tgt := 33) hx hb dX6_give_28 (by decide) (fun b9 => ?_) (fun b9 => ?_)
      · replace hf := it_f hf b9
        refine lv_aload_n hx hb dX6_give_33 rfl (lv_at hl 0 rfl) ?_
        refine va_get (D := (dC, dI)) (ci := 6) (v := .ref (aW 0)) (C := RX6) (T := TX6) (N := 6) hx hb hts i_X6_give_X6 hown hK hw.1 0 rfl rfl 0 (by decide) (hts _ m_X6_give_2) (fun _ h9 => h9) rfl dX6_give_34 ?_
        refine lv_iload_n hx hb dX6_give_37 rfl (lv_at hl 1 rfl) ?_
        refine lv_iload_n hx hb dX6_give_38 rfl (lv_at hl 2 rfl) ?_
        obtain ⟨c10, c11, c12, h13, hf⟩ := bd3_ob hf
        refine clVV (As := [.int v1, .int v2]) (rest := []) X (c_X4_add l dC dI cI cJ cZ aW N W_sorts W_values W_turns W_falling W_count v1 v2 h13) (cwV 2 hts gX6_give_X4_add rfl rfl rfl (by decide +kernel) ⟨Nat.le_of_ble_eq_true rfl, Nat.le_of_ble_eq_true rfl⟩) (ci := 4) (k0 := 0) rfl rfl rfl hw [1, 2, 3, 4, 5] rfl rfl rfl rfl hl.1 rfl (Nat.le_of_ble_eq_true rfl) dX6_give_39 ⟨Nat.zero_le _, Nat.zero_le _⟩ (fun H locs hw => ?_)
        replace hw : Wd (dC, dI) A s.heap H locs (w_GWHRPCO aG aW aH aR aP aC aO cI cJ cZ c10 c11 W_turns W_falling c12 H_items H_size R_members R_starts R_inOrder R_standing R_heads R_tails R_rowsInAll R_made R_all R_filled P_takenRuns P_starts P_queued P_merges P_told C_sampled C_sampleStandings C_sizes C_ends C_lies C_merged C_reached C_done C_mergedBy C_parts C_samples C_bound C_ticks C_mergedInAll C_mergedAgain O_paces O_up) := hw
        refine lv_aload_n hx hb dX6_give_42 rfl (lv_at hl 0 rfl) ?_
        refine va_get (D := (dC, dI)) (ci := 6) (v := .ref (aW 0)) (C := RX6) (T := TX6) (N := 6) hx hb hts i_X6_give_X6 hown hK hw.1 0 rfl rfl 0 (by decide) (hts _ m_X6_give_2) (fun _ h9 => h9) rfl dX6_give_43 ?_
        refine va_getN (D := (dC, dI)) (ci := 4) (v := .int c12) (C := RX4) (T := TX4) (N := 5) hx hb hts i_X6_give_X4 hown hK hw.1 1 rfl rfl 4 (by decide) (va_Nw.use rfl (hN _ nk_15)) (fun _ h9 => h9) rfl dX6_give_46 ?_
        refine lv_iconst (v := 1) hx hb dX6_give_49 (by decide) ?_
        refine lv_isub hx hb dX6_give_50 ?_
        cases hf
        exact endI X hr rfl hlocks rfl hw dX6_give_51
      · replace hf := it_t hf b9
        refine lv_iconst (v := (-1)) hx hb dX6_give_31 (by decide) ?_
        cases hf
        exact endI X hr rfl hlocks rfl hw dX6_give_32
def rm_X6_sow : Room := { frames := 1, cells := 0, slots := 0, locals := 22 }
set_option maxRecDepth 20000 in
theorem i_X6_sow_X6 : ∀ w ∈ u_ws RX6 TX6 6, w ∈ wsX6_sow := by decide +kernel
set_option maxRecDepth 20000 in
theorem i_X6_sow_X4 : ∀ w ∈ u_ws RX4 TX4 5, w ∈ wsX6_sow := by decide +kernel
set_option maxRecDepth 20000 in
theorem m_X6_sow_0 : Cond.fieldLink RX6 12 "GreatSort" "rows" "LGreatSort$Rows;" ∈ wsX6_sow := by decide +kernel
set_option maxRecDepth 20000 in
theorem m_X6_sow_1 : Cond.constant RX6 69 (1103515245) ∈ wsX6_sow := by decide +kernel
set_option maxHeartbeats 4000000 in
set_option maxRecDepth 100000 in
theorem t_X6_sow_62 {p : Program} {l : Launch} {e : Env} {s : State} {m : MethodId} {args : Array Value} {below : List Frame} {meth : Method} {c : Code} {Q : State → Prop} {dC : Nat → ClassId} {dI : Nat → Nat → Nat} {cI cJ cZ : ClassId} {A : Nat → Prop} (aG aW aH aR aP aC aO : Nat → Nat) (X : Cx p m c cX6_sow 8 s args wsX6_sow RX6 (dC, dI) (tyl cI cJ cZ) A) (N : Nat) (W_turns : (Nat → Int32)) (W_falling : (Nat → Int32)) (H_items : (Nat → Int64)) (H_size : Int32) (R_members : (Nat → Int32)) (R_starts : (Nat → Int32)) (R_inOrder : (Nat → Int32)) (R_standing : (Nat → Int32)) (R_heads : (Nat → Int32)) (R_tails : (Nat → Int32)) (R_rowsInAll : Int32) (R_made : Int32) (R_all : Int32) (R_filled : Int32) (P_takenRuns : (Nat → Int32)) (P_starts : (Nat → Int32)) (P_queued : (Nat → Int32)) (P_merges : Int32) (P_told : Int32) (C_sampled : (Nat → Int32)) (C_sampleStandings : (Nat → Int32)) (C_sizes : (Nat → Int32)) (C_ends : (Nat → Int32)) (C_lies : (Nat → Int32)) (C_merged : (Nat → Int32)) (C_reached : (Nat → Int32)) (C_done : (Nat → Int32)) (C_mergedBy : (Nat → Int32)) (C_parts : Int32) (C_samples : Int32) (C_bound : Int32) (C_ticks : Int32) (C_mergedInAll : Int32) (C_mergedAgain : Int32) (O_paces : (Nat → Int32)) (O_up : (Nat → Int32)) (v1 : Int32) (v2 : Int32) (v4 : Int32) (v5 : Int32) :
    ∀ (n : Nat) (v6 : Int32) (v7 : Int32) (W_sorts : (Nat → Int32)) (W_values : (Nat → Int32)) (W_count : Int32) (e_W_sorts : (Nat → Int32)) (e_W_values : (Nat → Int32)) (e_W_count : Int32), l_X6_sow_62 N v1 v2 v4 v5 n v6 v7 W_sorts W_values W_count = some (e_W_sorts, e_W_values, e_W_count) → ∀ (H : Heap) (locs : List Loc) (ls : Array Slot), Wd (dC, dI) A s.heap H locs (w_GWHRPCO aG aW aH aR aP aC aO cI cJ cZ W_sorts W_values W_turns W_falling W_count H_items H_size R_members R_starts R_inOrder R_standing R_heads R_tails R_rowsInAll R_made R_all R_filled P_takenRuns P_starts P_queued P_merges P_told C_sampled C_sampleStandings C_sizes C_ends C_lies C_merged C_reached C_done C_mergedBy C_parts C_samples C_bound C_ticks C_mergedInAll C_mergedAgain O_paces O_up) → lv_has ls 8 [(0, .ref (aG 0)), (1, .int v1), (2, .int v2), (4, .int v4), (5, .int v5), (6, .int v6), (7, .int v7)] → (∀ (H : Heap) (locs : List Loc) (ls : Array Slot), Wd (dC, dI) A s.heap H locs (w_GWHRPCO aG aW aH aR aP aC aO cI cJ cZ e_W_sorts e_W_values W_turns W_falling e_W_count H_items H_size R_members R_starts R_inOrder R_standing R_heads R_tails R_rowsInAll R_made R_all R_filled P_takenRuns P_starts P_queued P_merges P_told C_sampled C_sampleStandings C_sizes C_ends C_lies C_merged C_reached C_done C_mergedBy C_parts C_samples C_bound C_ticks C_mergedInAll C_mergedAgain O_paces O_up) → lv_has ls 8 [(0, .ref (aG 0))] → W p l e rm_X6_sow s m args below meth c H locs 0 0 Q (F0 m 112 ls [])) → W p l e rm_X6_sow s m args below meth c H locs 0 0 Q (F0 m 62 ls []) := by
  obtain ⟨hx, hb, hml, hown, hts⟩ := X.1
  have hK := X.2.1
  have hN := X.2.2.2
  intro n
  induction n with
  | zero =>
    intro _ _ _ _ _ _ _ _ hf
    cases hf
  | succ n ih =>
    intro v6 v7 W_sorts W_values W_count e_W_sorts e_W_values e_W_count hf H locs ls hw hl kx
    rw [l_X6_sow_62] at hf
    refine lv_iload hx hb dX6_sow_62 (lv_at hl 6 rfl) ?_
    refine lv_iload_n hx hb dX6_sow_64 rfl (lv_at hl 2 rfl) ?_
    refine lv_icmp_ge (tgt := 112) hx hb dX6_sow_65 (by decide) (fun b16 => ?_) (fun b16 => ?_)
    · replace hf := it_t hf b16
      cases hf
      exact kx _ _ _ hw (lv_sub hl [0] rfl)
    · replace hf := it_f hf b16
      refine lv_ldc (v := 1103515245) hx hb hown (hts _ m_X6_sow_1) dX6_sow_68 ?_
      refine lv_iload hx hb dX6_sow_70 (lv_at hl 5 rfl) ?_
      refine lv_imul hx hb dX6_sow_72 ?_
      refine lv_sipush (v := 12345) hx hb dX6_sow_73 (by decide) ?_
      refine lv_iadd hx hb dX6_sow_76 ?_
      refine lv_topi (fun x17 ex17 => ?_)
      replace hf := nl_at hf ex17
      refine lv_istore (lv' := [(6, .int x17), (0, .ref (aG 0)), (1, .int v1), (2, .int v2), (4, .int v4), (5, .int v5), (7, .int v7)]) hx hb dX6_sow_77 hl (by decide) rfl (fun ls hl => ?_)
      refine lv_aload_n hx hb dX6_sow_79 rfl (lv_at hl 1 rfl) ?_
      refine va_get (D := (dC, dI)) (ci := 6) (v := .ref (aW 0)) (C := RX6) (T := TX6) (N := 6) hx hb hts i_X6_sow_X6 hown hK hw.1 0 rfl rfl 0 (by decide) (hts _ m_X6_sow_0) (fun _ h9 => h9) rfl dX6_sow_80 ?_
      refine lv_iload_n hx hb dX6_sow_83 rfl (lv_at hl 2 rfl) ?_
      refine lv_aload_n hx hb dX6_sow_84 rfl (lv_at hl 1 rfl) ?_
      refine va_get (D := (dC, dI)) (ci := 6) (v := .ref (aW 0)) (C := RX6) (T := TX6) (N := 6) hx hb hts i_X6_sow_X6 hown hK hw.1 0 rfl rfl 0 (by decide) (hts _ m_X6_sow_0) (fun _ h9 => h9) rfl dX6_sow_85 ?_
      refine va_getN (D := (dC, dI)) (ci := 4) (v := .int W_count) (C := RX4) (T := TX4) (N := 5) hx hb hts i_X6_sow_X4 hown hK hw.1 1 rfl rfl 4 (by decide) (va_Nw.use rfl (hN _ nk_15)) (fun _ h9 => h9) rfl dX6_sow_88 ?_
      refine lv_iload hx hb dX6_sow_91 (lv_at hl 4 rfl) ?_
      refine lv_imul hx hb dX6_sow_93 ?_
      refine lv_iload hx hb dX6_sow_94 (lv_at hl 0 rfl) ?_
      refine lv_bipush (v := 8) hx hb dX6_sow_96 (by decide) ?_
      refine lv_iushr (v := (x17.toUInt32 >>> (((8 : Int32)).toUInt32 &&& Int32.toUInt32 31)).toInt32) hx hb dX6_sow_98 rfl ?_
      refine lv_iload hx hb dX6_sow_99 (lv_at hl 5 rfl) ?_
      have g18 := nz_ne (gd_l hf)
      replace hf := gd_r hf
      refine lv_irem hx hb dX6_sow_101 g18 ?_
      refine lv_iadd hx hb dX6_sow_102 ?_
      obtain ⟨c19, c20, c21, h22, hf⟩ := bd3_ob hf
      refine clVV (As := [.int v1, .int ((W_count * v4) + ((x17.toUInt32 >>> (((8 : Int32)).toUInt32 &&& Int32.toUInt32 31)).toInt32 - (x17.toUInt32 >>> (((8 : Int32)).toUInt32 &&& Int32.toUInt32 31)).toInt32 / v5 * v5))]) (rest := []) X (c_X4_add l dC dI cI cJ cZ aW N W_sorts W_values W_turns W_falling W_count v1 ((W_count * v4) + ((x17.toUInt32 >>> (((8 : Int32)).toUInt32 &&& Int32.toUInt32 31)).toInt32 - (x17.toUInt32 >>> (((8 : Int32)).toUInt32 &&& Int32.toUInt32 31)).toInt32 / v5 * v5)) h22) (cwV 2 hts gX6_sow_X4_add rfl rfl rfl (by decide +kernel) ⟨Nat.le_of_ble_eq_true rfl, Nat.le_of_ble_eq_true rfl⟩) (ci := 4) (k0 := 0) rfl rfl rfl hw [1, 2, 3, 4, 5] rfl rfl rfl rfl hl.1 rfl (Nat.le_of_ble_eq_true rfl) dX6_sow_103 ⟨Nat.zero_le _, Nat.zero_le _⟩ (fun H locs hw => ?_)
      replace hw : Wd (dC, dI) A s.heap H locs (w_GWHRPCO aG aW aH aR aP aC aO cI cJ cZ c19 c20 W_turns W_falling c21 H_items H_size R_members R_starts R_inOrder R_standing R_heads R_tails R_rowsInAll R_made R_all R_filled P_takenRuns P_starts P_queued P_merges P_told C_sampled C_sampleStandings C_sizes C_ends C_lies C_merged C_reached C_done C_mergedBy C_parts C_samples C_bound C_ticks C_mergedInAll C_mergedAgain O_paces O_up) := hw
      obtain ⟨x23, ex23⟩ : ∃ y : Int32, y = v7 + 1 := ⟨_, rfl⟩
      replace hf := nl_at hf ex23
      refine lv_iinc (v := x23) (lv' := [(7, .int x23), (6, .int x17), (0, .ref (aG 0)), (1, .int v1), (2, .int v2), (4, .int v4), (5, .int v5)]) hx hb dX6_sow_106 hl (k := 6) rfl (by rw [ex23]; rfl) (by decide) rfl (fun ls hl => ?_)
      refine lv_goto (tgt := 62) hx hb dX6_sow_109 (by decide) ?_
      exact ih _ _ _ _ _ _ _ _ hf _ _ _ hw (lv_sub hl [2, 3, 4, 5, 6, 1, 0] rfl) kx
set_option maxHeartbeats 4000000 in
set_option maxRecDepth 100000 in
theorem c_X6_sow (l : Launch) (dC : Nat → ClassId) (dI : Nat → Nat → Nat) (cI cJ cZ : ClassId) (aG aW aH aR aP aC aO : Nat → Nat) (N : Nat) (W_sorts : (Nat → Int32)) (W_values : (Nat → Int32)) (W_turns : (Nat → Int32)) (W_falling : (Nat → Int32)) (W_count : Int32) (H_items : (Nat → Int64)) (H_size : Int32) (R_members : (Nat → Int32)) (R_starts : (Nat → Int32)) (R_inOrder : (Nat → Int32)) (R_standing : (Nat → Int32)) (R_heads : (Nat → Int32)) (R_tails : (Nat → Int32)) (R_rowsInAll : Int32) (R_made : Int32) (R_all : Int32) (R_filled : Int32) (P_takenRuns : (Nat → Int32)) (P_starts : (Nat → Int32)) (P_queued : (Nat → Int32)) (P_merges : Int32) (P_told : Int32) (C_sampled : (Nat → Int32)) (C_sampleStandings : (Nat → Int32)) (C_sizes : (Nat → Int32)) (C_ends : (Nat → Int32)) (C_lies : (Nat → Int32)) (C_merged : (Nat → Int32)) (C_reached : (Nat → Int32)) (C_done : (Nat → Int32)) (C_mergedBy : (Nat → Int32)) (C_parts : Int32) (C_samples : Int32) (C_bound : Int32) (C_ticks : Int32) (C_mergedInAll : Int32) (C_mergedAgain : Int32) (O_paces : (Nat → Int32)) (O_up : (Nat → Int32)) (v1 : Int32) (v2 : Int32) (v3 : Int32) (v4 : Int32) (v5 : Int32) {r : Int32} {o_W_sorts : (Nat → Int32)} {o_W_values : (Nat → Int32)} {o_W_count : Int32} (hf : f_X6_sow N W_sorts W_values W_count v1 v2 v3 v4 v5 = some (r, o_W_sorts, o_W_values, o_W_count)) :
    CtI l yX6_sow wsX6_sow rm_X6_sow (dC, dI) (tyl cI cJ cZ) [.ref (aG 0), .int v1, .int v2, .int v3, .int v4, .int v5] (w_GWHRPCO aG aW aH aR aP aC aO cI cJ cZ W_sorts W_values W_turns W_falling W_count H_items H_size R_members R_starts R_inOrder R_standing R_heads R_tails R_rowsInAll R_made R_all R_filled P_takenRuns P_starts P_queued P_merges P_told C_sampled C_sampleStandings C_sizes C_ends C_lies C_merged C_reached C_done C_mergedBy C_parts C_samples C_bound C_ticks C_mergedInAll C_mergedAgain O_paces O_up) (w_GWHRPCO aG aW aH aR aP aC aO cI cJ cZ o_W_sorts o_W_values W_turns W_falling o_W_count H_items H_size R_members R_starts R_inOrder R_standing R_heads R_tails R_rowsInAll R_made R_all R_filled P_takenRuns P_starts P_queued P_merges P_told C_sampled C_sampleStandings C_sizes C_ends C_lies C_merged C_reached C_done C_mergedBy C_parts C_samples C_bound C_ticks C_mergedInAll C_mergedAgain O_paces O_up) r := by
  refine startI (cc := cX6_sow) (maxL := 8) (rt := (some .int)) (by decide +kernel) rfl (Nat.le_of_ble_eq_true rfl) ?_
  intro p e s m below meth c A ls X hr hlocks hw hl
  replace X : Cx p m c cX6_sow 8 s _ wsX6_sow RX6 (dC, dI) (tyl cI cJ cZ) A := X
  replace hl : lv_has ls 8 [(0, .ref (aG 0)), (1, .int v1), (2, .int v2), (3, .int v3), (4, .int v4), (5, .int v5)] := hl
  obtain ⟨hx, hb, hml, hown, hts⟩ := X.1
  have hK := X.2.1
  have hN := X.2.2.2
  unfold f_X6_sow at hf
  refine lv_iload_n hx hb dX6_sow_0 rfl (lv_at hl 1 rfl) ?_
  refine lv_iconst (v := 0) hx hb dX6_sow_1 (by decide) ?_
  refine lv_iconst (v := 3) hx hb dX6_sow_2 (by decide) ?_
  obtain ⟨r1, h2, hf⟩ := bd1_ob hf
  refine clSI (As := [.int v1, .int (0 : Int32), .int (3 : Int32)]) (rest := []) X (c_X6_isIn l dC dI cI cJ cZ N v1 (0 : Int32) (3 : Int32) h2) (va_cwS 3 hts gX6_sow_X6_isIn rfl rfl rfl (by decide +kernel) ⟨Nat.le_of_ble_eq_true rfl, Nat.le_of_ble_eq_true rfl⟩) hw [] rfl rfl rfl rfl hl.1 rfl (Nat.le_of_ble_eq_true rfl) dX6_sow_3 ⟨Nat.zero_le _, Nat.zero_le _⟩ (fun H locs hw => ?_)
  replace hw : Wd (dC, dI) A s.heap H locs (w_GWHRPCO aG aW aH aR aP aC aO cI cJ cZ W_sorts W_values W_turns W_falling W_count H_items H_size R_members R_starts R_inOrder R_standing R_heads R_tails R_rowsInAll R_made R_all R_filled P_takenRuns P_starts P_queued P_merges P_told C_sampled C_sampleStandings C_sizes C_ends C_lies C_merged C_reached C_done C_mergedBy C_parts C_samples C_bound C_ticks C_mergedInAll C_mergedAgain O_paces O_up) := hw
  refine lv_if_eq (tgt := 54) hx hb dX6_sow_6 (by decide) (fun b3 => ?_) (fun b3 => ?_)
  · replace hf := it_t hf b3
    refine lv_iconst (v := (-1)) hx hb dX6_sow_54 (by decide) ?_
    cases hf
    exact endI X hr rfl hlocks rfl hw dX6_sow_55
  · replace hf := it_f hf b3
    refine lv_iload_n hx hb dX6_sow_9 rfl (lv_at hl 2 rfl) ?_
    refine lv_iconst (v := 1) hx hb dX6_sow_10 (by decide) ?_
    refine lv_bipush (v := 100) hx hb dX6_sow_11 (by decide) ?_
    obtain ⟨r4, h5, hf⟩ := bd1_ob hf
    refine clSI (As := [.int v2, .int (1 : Int32), .int (100 : Int32)]) (rest := []) X (c_X6_isIn l dC dI cI cJ cZ N v2 (1 : Int32) (100 : Int32) h5) (va_cwS 3 hts gX6_sow_X6_isIn rfl rfl rfl (by decide +kernel) ⟨Nat.le_of_ble_eq_true rfl, Nat.le_of_ble_eq_true rfl⟩) hw [] rfl rfl rfl rfl hl.1 rfl (Nat.le_of_ble_eq_true rfl) dX6_sow_13 ⟨Nat.zero_le _, Nat.zero_le _⟩ (fun H locs hw => ?_)
    replace hw : Wd (dC, dI) A s.heap H locs (w_GWHRPCO aG aW aH aR aP aC aO cI cJ cZ W_sorts W_values W_turns W_falling W_count H_items H_size R_members R_starts R_inOrder R_standing R_heads R_tails R_rowsInAll R_made R_all R_filled P_takenRuns P_starts P_queued P_merges P_told C_sampled C_sampleStandings C_sizes C_ends C_lies C_merged C_reached C_done C_mergedBy C_parts C_samples C_bound C_ticks C_mergedInAll C_mergedAgain O_paces O_up) := hw
    refine lv_if_eq (tgt := 54) hx hb dX6_sow_16 (by decide) (fun b6 => ?_) (fun b6 => ?_)
    · replace hf := it_t hf b6
      refine lv_iconst (v := (-1)) hx hb dX6_sow_54 (by decide) ?_
      cases hf
      exact endI X hr rfl hlocks rfl hw dX6_sow_55
    · replace hf := it_f hf b6
      refine lv_iload hx hb dX6_sow_19 (lv_at hl 4 rfl) ?_
      refine lv_bipush (v := (-100)) hx hb dX6_sow_21 (by decide) ?_
      refine lv_bipush (v := 100) hx hb dX6_sow_23 (by decide) ?_
      obtain ⟨r7, h8, hf⟩ := bd1_ob hf
      refine clSI (As := [.int v4, .int (-100 : Int32), .int (100 : Int32)]) (rest := []) X (c_X6_isIn l dC dI cI cJ cZ N v4 (-100 : Int32) (100 : Int32) h8) (va_cwS 3 hts gX6_sow_X6_isIn rfl rfl rfl (by decide +kernel) ⟨Nat.le_of_ble_eq_true rfl, Nat.le_of_ble_eq_true rfl⟩) hw [] rfl rfl rfl rfl hl.1 rfl (Nat.le_of_ble_eq_true rfl) dX6_sow_25 ⟨Nat.zero_le _, Nat.zero_le _⟩ (fun H locs hw => ?_)
      replace hw : Wd (dC, dI) A s.heap H locs (w_GWHRPCO aG aW aH aR aP aC aO cI cJ cZ W_sorts W_values W_turns W_falling W_count H_items H_size R_members R_starts R_inOrder R_standing R_heads R_tails R_rowsInAll R_made R_all R_filled P_takenRuns P_starts P_queued P_merges P_told C_sampled C_sampleStandings C_sizes C_ends C_lies C_merged C_reached C_done C_mergedBy C_parts C_samples C_bound C_ticks C_mergedInAll C_mergedAgain O_paces O_up) := hw
      refine lv_if_eq (tgt := 54) hx hb dX6_sow_28 (by decide) (fun b9 => ?_) (fun b9 => ?_)
      · replace hf := it_t hf b9
        refine lv_iconst (v := (-1)) hx hb dX6_sow_54 (by decide) ?_
        cases hf
        exact endI X hr rfl hlocks rfl hw dX6_sow_55
      · replace hf := it_f hf b9
        refine lv_iload hx hb dX6_sow_31 (lv_at hl 5 rfl) ?_
        refine lv_iconst (v := 1) hx hb dX6_sow_33 (by decide) ?_
        refine lv_sipush (v := 10000) hx hb dX6_sow_34 (by decide) ?_
        obtain ⟨r10, h11, hf⟩ := bd1_ob hf
        refine clSI (As := [.int v5, .int (1 : Int32), .int (10000 : Int32)]) (rest := []) X (c_X6_isIn l dC dI cI cJ cZ N v5 (1 : Int32) (10000 : Int32) h11) (va_cwS 3 hts gX6_sow_X6_isIn rfl rfl rfl (by decide +kernel) ⟨Nat.le_of_ble_eq_true rfl, Nat.le_of_ble_eq_true rfl⟩) hw [] rfl rfl rfl rfl hl.1 rfl (Nat.le_of_ble_eq_true rfl) dX6_sow_37 ⟨Nat.zero_le _, Nat.zero_le _⟩ (fun H locs hw => ?_)
        replace hw : Wd (dC, dI) A s.heap H locs (w_GWHRPCO aG aW aH aR aP aC aO cI cJ cZ W_sorts W_values W_turns W_falling W_count H_items H_size R_members R_starts R_inOrder R_standing R_heads R_tails R_rowsInAll R_made R_all R_filled P_takenRuns P_starts P_queued P_merges P_told C_sampled C_sampleStandings C_sizes C_ends C_lies C_merged C_reached C_done C_mergedBy C_parts C_samples C_bound C_ticks C_mergedInAll C_mergedAgain O_paces O_up) := hw
        refine lv_if_eq (tgt := 54) hx hb dX6_sow_40 (by decide) (fun b12 => ?_) (fun b12 => ?_)
        · replace hf := it_t hf b12
          refine lv_iconst (v := (-1)) hx hb dX6_sow_54 (by decide) ?_
          cases hf
          exact endI X hr rfl hlocks rfl hw dX6_sow_55
        · replace hf := it_f hf b12
          refine lv_aload_n hx hb dX6_sow_43 rfl (lv_at hl 0 rfl) ?_
          refine va_get (D := (dC, dI)) (ci := 6) (v := .ref (aW 0)) (C := RX6) (T := TX6) (N := 6) hx hb hts i_X6_sow_X6 hown hK hw.1 0 rfl rfl 0 (by decide) (hts _ m_X6_sow_0) (fun _ h9 => h9) rfl dX6_sow_44 ?_
          refine lv_iload_n hx hb dX6_sow_47 rfl (lv_at hl 2 rfl) ?_
          obtain ⟨r13, h14, hf⟩ := bd1_ob hf
          refine clVI (As := [.int v2]) (rest := []) X (c_X4_hasRoomFor l dC dI cI cJ cZ aW N W_sorts W_values W_turns W_falling W_count v2 h14) (cwV 1 hts gX6_sow_X4_hasRoomFor rfl rfl rfl (by decide +kernel) ⟨Nat.le_of_ble_eq_true rfl, Nat.le_of_ble_eq_true rfl⟩) (ci := 4) (k0 := 0) rfl rfl rfl hw [1, 2, 3, 4, 5] rfl rfl rfl rfl hl.1 rfl (Nat.le_of_ble_eq_true rfl) dX6_sow_48 ⟨Nat.zero_le _, Nat.zero_le _⟩ (fun H locs hw => ?_)
          replace hw : Wd (dC, dI) A s.heap H locs (w_GWHRPCO aG aW aH aR aP aC aO cI cJ cZ W_sorts W_values W_turns W_falling W_count H_items H_size R_members R_starts R_inOrder R_standing R_heads R_tails R_rowsInAll R_made R_all R_filled P_takenRuns P_starts P_queued P_merges P_told C_sampled C_sampleStandings C_sizes C_ends C_lies C_merged C_reached C_done C_mergedBy C_parts C_samples C_bound C_ticks C_mergedInAll C_mergedAgain O_paces O_up) := hw
          refine lv_if_ne (tgt := 56) hx hb dX6_sow_51 (by decide) (fun b15 => ?_) (fun b15 => ?_)
          · replace hf := it_f hf b15
            refine lv_iload_n hx hb dX6_sow_56 rfl (lv_at hl 3 rfl) ?_
            refine lv_istore (lv' := [(6, .int v3), (0, .ref (aG 0)), (1, .int v1), (2, .int v2), (3, .int v3), (4, .int v4), (5, .int v5)]) hx hb dX6_sow_57 hl (by decide) rfl (fun ls hl => ?_)
            refine lv_iconst (v := 0) hx hb dX6_sow_59 (by decide) ?_
            refine lv_istore (lv' := [(7, .int 0), (6, .int v3), (0, .ref (aG 0)), (1, .int v1), (2, .int v2), (3, .int v3), (4, .int v4), (5, .int v5)]) hx hb dX6_sow_60 hl (by decide) rfl (fun ls hl => ?_)
            obtain ⟨e24, e25, e26, h27, hf⟩ := bd3_ob hf
            refine t_X6_sow_62 aG aW aH aR aP aC aO X N W_turns W_falling H_items H_size R_members R_starts R_inOrder R_standing R_heads R_tails R_rowsInAll R_made R_all R_filled P_takenRuns P_starts P_queued P_merges P_told C_sampled C_sampleStandings C_sizes C_ends C_lies C_merged C_reached C_done C_mergedBy C_parts C_samples C_bound C_ticks C_mergedInAll C_mergedAgain O_paces O_up v1 v2 v4 v5 N _ _ _ _ _ _ _ _ h27 _ _ _ hw (lv_sub hl [2, 3, 4, 6, 7, 1, 0] rfl) (fun H locs ls hw hl => ?_)
            refine lv_aload_n hx hb dX6_sow_112 rfl (lv_at hl 0 rfl) ?_
            refine va_get (D := (dC, dI)) (ci := 6) (v := .ref (aW 0)) (C := RX6) (T := TX6) (N := 6) hx hb hts i_X6_sow_X6 hown hK hw.1 0 rfl rfl 0 (by decide) (hts _ m_X6_sow_0) (fun _ h9 => h9) rfl dX6_sow_113 ?_
            refine va_getN (D := (dC, dI)) (ci := 4) (v := .int e26) (C := RX4) (T := TX4) (N := 5) hx hb hts i_X6_sow_X4 hown hK hw.1 1 rfl rfl 4 (by decide) (va_Nw.use rfl (hN _ nk_15)) (fun _ h9 => h9) rfl dX6_sow_116 ?_
            cases hf
            exact endI X hr rfl hlocks rfl hw dX6_sow_119
          · replace hf := it_t hf b15
            refine lv_iconst (v := (-1)) hx hb dX6_sow_54 (by decide) ?_
            cases hf
            exact endI X hr rfl hlocks rfl hw dX6_sow_55
