def rm_X5_forget : Room := { frames := 0, cells := 0, slots := 0, locals := 0 }
set_option maxRecDepth 20000 in
theorem i_X5_forget_X5 : ∀ w ∈ u_ws RX5 TX5 10, w ∈ wsX5_forget := by decide +kernel
set_option maxRecDepth 20000 in
theorem m_X5_forget_0 : Cond.fieldLink RX5 30 "GreatSort$Runs" "rowsInAll" "I" ∈ wsX5_forget := by decide +kernel
set_option maxRecDepth 20000 in
theorem m_X5_forget_1 : Cond.fieldLink RX5 34 "GreatSort$Runs" "made" "I" ∈ wsX5_forget := by decide +kernel
set_option maxRecDepth 20000 in
theorem m_X5_forget_2 : Cond.fieldLink RX5 37 "GreatSort$Runs" "all" "I" ∈ wsX5_forget := by decide +kernel
set_option maxRecDepth 20000 in
theorem m_X5_forget_3 : Cond.fieldLink RX5 40 "GreatSort$Runs" "filled" "I" ∈ wsX5_forget := by decide +kernel
set_option maxHeartbeats 4000000 in
set_option maxRecDepth 100000 in
theorem c_X5_forget (l : Launch) (dC : Nat → ClassId) (dI : Nat → Nat → Nat) (cI cJ cZ : ClassId) (aR : Nat → Nat) (N : Nat) (R_members : (Nat → Int32)) (R_starts : (Nat → Int32)) (R_inOrder : (Nat → Int32)) (R_standing : (Nat → Int32)) (R_heads : (Nat → Int32)) (R_tails : (Nat → Int32)) (R_rowsInAll : Int32) (R_made : Int32) (R_all : Int32) (R_filled : Int32)  {o_R_rowsInAll : Int32} {o_R_made : Int32} {o_R_all : Int32} {o_R_filled : Int32} (hf : f_X5_forget N R_rowsInAll R_made R_all R_filled  = some (o_R_rowsInAll, o_R_made, o_R_all, o_R_filled)) :
    CtV l yX5_forget wsX5_forget rm_X5_forget (dC, dI) (tyl cI cJ cZ) [.ref (aR 0)] (w_R aR cI cJ cZ R_members R_starts R_inOrder R_standing R_heads R_tails R_rowsInAll R_made R_all R_filled) (w_R aR cI cJ cZ R_members R_starts R_inOrder R_standing R_heads R_tails o_R_rowsInAll o_R_made o_R_all o_R_filled) := by
  refine startV (cc := cX5_forget) (maxL := 1) (rt := none) (by decide +kernel) rfl (Nat.le_of_ble_eq_true rfl) ?_
  intro p e s m below meth c A ls X hr hlocks hw hl
  replace X : Cx p m c cX5_forget 1 s _ wsX5_forget RX5 (dC, dI) (tyl cI cJ cZ) A := X
  replace hl : lv_has ls 1 [(0, .ref (aR 0))] := hl
  obtain ⟨hx, hb, hml, hown, hts⟩ := X.1
  have hK := X.2.1
  have hN := X.2.2.2
  unfold f_X5_forget at hf
  refine lv_aload_n hx hb dX5_forget_0 rfl (lv_at hl 0 rfl) ?_
  refine lv_iconst (v := 0) hx hb dX5_forget_1 (by decide) ?_
  refine g_put (D := (dC, dI)) (ci := 5) (v := .int 0) (ty := .int) (C := RX5) (T := TX5) (N := 10) hx hb hts i_X5_forget_X5 tyX5 tyX5_ok nmX5 hown hK hw 0 rfl rfl 6 (by decide) (hts _ m_X5_forget_0) (fun _ h9 => h9) rfl (by decide +kernel) rfl rfl (Nat.le_of_ble_eq_true rfl) dX5_forget_2 (fun H locs hw => ?_)
  replace hw : Wd (dC, dI) A s.heap H locs (w_R aR cI cJ cZ R_members R_starts R_inOrder R_standing R_heads R_tails 0 R_made R_all R_filled) := hw
  refine lv_aload_n hx hb dX5_forget_5 rfl (lv_at hl 0 rfl) ?_
  refine lv_iconst (v := 0) hx hb dX5_forget_6 (by decide) ?_
  refine g_put (D := (dC, dI)) (ci := 5) (v := .int 0) (ty := .int) (C := RX5) (T := TX5) (N := 10) hx hb hts i_X5_forget_X5 tyX5 tyX5_ok nmX5 hown hK hw 0 rfl rfl 7 (by decide) (hts _ m_X5_forget_1) (fun _ h9 => h9) rfl (by decide +kernel) rfl rfl (Nat.le_of_ble_eq_true rfl) dX5_forget_7 (fun H locs hw => ?_)
  replace hw : Wd (dC, dI) A s.heap H locs (w_R aR cI cJ cZ R_members R_starts R_inOrder R_standing R_heads R_tails 0 0 R_all R_filled) := hw
  refine lv_aload_n hx hb dX5_forget_10 rfl (lv_at hl 0 rfl) ?_
  refine lv_iconst (v := 0) hx hb dX5_forget_11 (by decide) ?_
  refine g_put (D := (dC, dI)) (ci := 5) (v := .int 0) (ty := .int) (C := RX5) (T := TX5) (N := 10) hx hb hts i_X5_forget_X5 tyX5 tyX5_ok nmX5 hown hK hw 0 rfl rfl 8 (by decide) (hts _ m_X5_forget_2) (fun _ h9 => h9) rfl (by decide +kernel) rfl rfl (Nat.le_of_ble_eq_true rfl) dX5_forget_12 (fun H locs hw => ?_)
  replace hw : Wd (dC, dI) A s.heap H locs (w_R aR cI cJ cZ R_members R_starts R_inOrder R_standing R_heads R_tails 0 0 0 R_filled) := hw
  refine lv_aload_n hx hb dX5_forget_15 rfl (lv_at hl 0 rfl) ?_
  refine lv_iconst (v := 0) hx hb dX5_forget_16 (by decide) ?_
  refine g_put (D := (dC, dI)) (ci := 5) (v := .int 0) (ty := .int) (C := RX5) (T := TX5) (N := 10) hx hb hts i_X5_forget_X5 tyX5 tyX5_ok nmX5 hown hK hw 0 rfl rfl 9 (by decide) (hts _ m_X5_forget_3) (fun _ h9 => h9) rfl (by decide +kernel) rfl rfl (Nat.le_of_ble_eq_true rfl) dX5_forget_17 (fun H locs hw => ?_)
  replace hw : Wd (dC, dI) A s.heap H locs (w_R aR cI cJ cZ R_members R_starts R_inOrder R_standing R_heads R_tails 0 0 0 0) := hw
  cases hf
  exact endV X hr hlocks hw dX5_forget_20
def rm_X3_forget : Room := { frames := 0, cells := 0, slots := 0, locals := 0 }
set_option maxRecDepth 20000 in
theorem i_X3_forget_X3 : ∀ w ∈ u_ws RX3 TX3 5, w ∈ wsX3_forget := by decide +kernel
set_option maxRecDepth 20000 in
theorem m_X3_forget_0 : Cond.fieldLink RX3 21 "GreatSort$Plan" "merges" "I" ∈ wsX3_forget := by decide +kernel
set_option maxRecDepth 20000 in
theorem m_X3_forget_1 : Cond.fieldLink RX3 25 "GreatSort$Plan" "told" "Z" ∈ wsX3_forget := by decide +kernel
set_option maxHeartbeats 4000000 in
set_option maxRecDepth 100000 in
theorem c_X3_forget (l : Launch) (dC : Nat → ClassId) (dI : Nat → Nat → Nat) (cI cJ cZ : ClassId) (aP : Nat → Nat) (N : Nat) (P_takenRuns : (Nat → Int32)) (P_starts : (Nat → Int32)) (P_queued : (Nat → Int32)) (P_merges : Int32) (P_told : Int32)  {o_P_merges : Int32} {o_P_told : Int32} (hf : f_X3_forget N P_merges P_told  = some (o_P_merges, o_P_told)) :
    CtV l yX3_forget wsX3_forget rm_X3_forget (dC, dI) (tyl cI cJ cZ) [.ref (aP 0)] (w_P aP cI cJ cZ P_takenRuns P_starts P_queued P_merges P_told) (w_P aP cI cJ cZ P_takenRuns P_starts P_queued o_P_merges o_P_told) := by
  refine startV (cc := cX3_forget) (maxL := 1) (rt := none) (by decide +kernel) rfl (Nat.le_of_ble_eq_true rfl) ?_
  intro p e s m below meth c A ls X hr hlocks hw hl
  replace X : Cx p m c cX3_forget 1 s _ wsX3_forget RX3 (dC, dI) (tyl cI cJ cZ) A := X
  replace hl : lv_has ls 1 [(0, .ref (aP 0))] := hl
  obtain ⟨hx, hb, hml, hown, hts⟩ := X.1
  have hK := X.2.1
  have hN := X.2.2.2
  unfold f_X3_forget at hf
  refine lv_aload_n hx hb dX3_forget_0 rfl (lv_at hl 0 rfl) ?_
  refine lv_iconst (v := 0) hx hb dX3_forget_1 (by decide) ?_
  refine g_put (D := (dC, dI)) (ci := 3) (v := .int 0) (ty := .int) (C := RX3) (T := TX3) (N := 5) hx hb hts i_X3_forget_X3 tyX3 tyX3_ok nmX3 hown hK hw 0 rfl rfl 3 (by decide) (hts _ m_X3_forget_0) (fun _ h9 => h9) rfl (by decide +kernel) rfl rfl (Nat.le_of_ble_eq_true rfl) dX3_forget_2 (fun H locs hw => ?_)
  replace hw : Wd (dC, dI) A s.heap H locs (w_P aP cI cJ cZ P_takenRuns P_starts P_queued 0 P_told) := hw
  refine lv_aload_n hx hb dX3_forget_5 rfl (lv_at hl 0 rfl) ?_
  refine lv_iconst (v := 0) hx hb dX3_forget_6 (by decide) ?_
  refine g_put (D := (dC, dI)) (ci := 3) (v := .int 0) (ty := .boolean) (C := RX3) (T := TX3) (N := 5) hx hb hts i_X3_forget_X3 tyX3 tyX3_ok nmX3 hown hK hw 0 rfl rfl 4 (by decide) (hts _ m_X3_forget_1) (fun _ h9 => h9) rfl (by decide +kernel) (by decide) (by decide) (Nat.le_of_ble_eq_true rfl) dX3_forget_7 (fun H locs hw => ?_)
  replace hw : Wd (dC, dI) A s.heap H locs (w_P aP cI cJ cZ P_takenRuns P_starts P_queued 0 0) := hw
  cases hf
  exact endV X hr hlocks hw dX3_forget_10
def rm_X5_putInOrder : Room := { frames := 3, cells := 0, slots := 0, locals := 66 }
set_option maxRecDepth 20000 in
theorem i_X5_putInOrder_X5 : ∀ w ∈ u_ws RX5 TX5 10, w ∈ wsX5_putInOrder := by decide +kernel
set_option maxRecDepth 20000 in
theorem m_X5_putInOrder_0 : Cond.fieldLink RX5 30 "GreatSort$Runs" "rowsInAll" "I" ∈ wsX5_putInOrder := by decide +kernel
set_option maxRecDepth 20000 in
theorem m_X5_putInOrder_1 : Cond.fieldLink RX5 18 "GreatSort$Runs" "inOrder" "[I" ∈ wsX5_putInOrder := by decide +kernel
set_option maxRecDepth 20000 in
theorem m_X5_putInOrder_2 : Cond.fieldLink RX5 21 "GreatSort$Runs" "standing" "[I" ∈ wsX5_putInOrder := by decide +kernel
set_option maxHeartbeats 4000000 in
set_option maxRecDepth 100000 in
theorem t_X5_putInOrder_6 {p : Program} {l : Launch} {e : Env} {s : State} {m : MethodId} {args : Array Value} {below : List Frame} {meth : Method} {c : Code} {Q : State → Prop} {dC : Nat → ClassId} {dI : Nat → Nat → Nat} {cI cJ cZ : ClassId} {A : Nat → Prop} (aW aH aR : Nat → Nat) (X : Cx p m c cX5_putInOrder 5 s args wsX5_putInOrder RX5 (dC, dI) (tyl cI cJ cZ) A) (N : Nat) (W_sorts : (Nat → Int32)) (W_values : (Nat → Int32)) (W_turns : (Nat → Int32)) (W_falling : (Nat → Int32)) (W_count : Int32) (R_members : (Nat → Int32)) (R_starts : (Nat → Int32)) (R_inOrder : (Nat → Int32)) (R_standing : (Nat → Int32)) (R_heads : (Nat → Int32)) (R_tails : (Nat → Int32)) (R_rowsInAll : Int32) (R_made : Int32) (R_all : Int32) (R_filled : Int32)  :
    ∀ (n : Nat) (v3 : Int32) (H_items : (Nat → Int64)) (H_size : Int32) (e_H_items : (Nat → Int64)) (e_H_size : Int32), l_X5_putInOrder_6 N W_sorts W_values W_turns W_falling W_count R_rowsInAll n v3 H_items H_size = some (e_H_items, e_H_size) → ∀ (H : Heap) (locs : List Loc) (ls : Array Slot), Wd (dC, dI) A s.heap H locs (w_WHR aW aH aR cI cJ cZ W_sorts W_values W_turns W_falling W_count H_items H_size R_members R_starts R_inOrder R_standing R_heads R_tails R_rowsInAll R_made R_all R_filled) → lv_has ls 5 [(0, .ref (aR 0)), (1, .ref (aW 0)), (2, .ref (aH 0)), (3, .int v3)] → (∀ (H : Heap) (locs : List Loc) (ls : Array Slot), Wd (dC, dI) A s.heap H locs (w_WHR aW aH aR cI cJ cZ W_sorts W_values W_turns W_falling W_count e_H_items e_H_size R_members R_starts R_inOrder R_standing R_heads R_tails R_rowsInAll R_made R_all R_filled) → lv_has ls 5 [(0, .ref (aR 0)), (2, .ref (aH 0))] → W p l e rm_X5_putInOrder s m args below meth c H locs 0 0 Q (F0 m 30 ls [])) → W p l e rm_X5_putInOrder s m args below meth c H locs 0 0 Q (F0 m 6 ls []) := by
  obtain ⟨hx, hb, hml, hown, hts⟩ := X.1
  have hK := X.2.1
  have hN := X.2.2.2
  intro n
  induction n with
  | zero =>
    intro _ _ _ _ _ hf
    cases hf
  | succ n ih =>
    intro v3 H_items H_size e_H_items e_H_size hf H locs ls hw hl kx
    rw [l_X5_putInOrder_6] at hf
    refine lv_iload_n hx hb dX5_putInOrder_6 rfl (lv_at hl 3 rfl) ?_
    refine lv_aload_n hx hb dX5_putInOrder_7 rfl (lv_at hl 0 rfl) ?_
    refine va_get (D := (dC, dI)) (ci := 5) (v := .int R_rowsInAll) (C := RX5) (T := TX5) (N := 10) hx hb hts i_X5_putInOrder_X5 hown hK hw.1 7 rfl rfl 6 (by decide) (hts _ m_X5_putInOrder_0) (fun _ h9 => h9) rfl dX5_putInOrder_8 ?_
    refine lv_icmp_ge (tgt := 30) hx hb dX5_putInOrder_11 (by decide) (fun b3 => ?_) (fun b3 => ?_)
    · replace hf := it_t hf b3
      cases hf
      exact kx _ _ _ hw (lv_sub hl [0, 2] rfl)
    · replace hf := it_f hf b3
      refine lv_aload_n hx hb dX5_putInOrder_14 rfl (lv_at hl 2 rfl) ?_
      refine lv_aload_n hx hb dX5_putInOrder_15 rfl (lv_at hl 1 rfl) ?_
      refine lv_iload_n hx hb dX5_putInOrder_16 rfl (lv_at hl 3 rfl) ?_
      obtain ⟨r4, h5, hf⟩ := bd1_ob hf
      refine clVI (As := [.int v3]) (rest := [.ref (aH 0)]) X (c_X4_placeOf l dC dI cI cJ cZ aW N W_sorts W_values W_turns W_falling W_count v3 h5) (cwV 1 hts gX5_putInOrder_X4_placeOf rfl rfl rfl (by decide +kernel) ⟨Nat.le_of_ble_eq_true rfl, Nat.le_of_ble_eq_true rfl⟩) (ci := 4) (k0 := 0) rfl rfl rfl hw [0, 1, 2, 3, 4] rfl rfl rfl rfl hl.1 rfl (Nat.le_of_ble_eq_true rfl) dX5_putInOrder_17 ⟨Nat.zero_le _, Nat.zero_le _⟩ (fun H locs hw => ?_)
      replace hw : Wd (dC, dI) A s.heap H locs (w_WHR aW aH aR cI cJ cZ W_sorts W_values W_turns W_falling W_count H_items H_size R_members R_starts R_inOrder R_standing R_heads R_tails R_rowsInAll R_made R_all R_filled) := hw
      refine lv_i2l hx hb dX5_putInOrder_20 rfl ?_
      obtain ⟨c6, c7, h8, hf⟩ := bd2_ob hf
      refine clVV (As := [.long (r4.toInt64)]) (rest := []) X (c_X1_add l dC dI cI cJ cZ aH N H_items H_size (r4.toInt64) h8) (cwV 1 hts gX5_putInOrder_X1_add rfl rfl rfl (by decide +kernel) ⟨Nat.le_of_ble_eq_true rfl, Nat.le_of_ble_eq_true rfl⟩) (ci := 1) (k0 := 0) rfl rfl rfl hw [5, 6] rfl rfl rfl rfl hl.1 rfl (Nat.le_of_ble_eq_true rfl) dX5_putInOrder_21 ⟨Nat.zero_le _, Nat.zero_le _⟩ (fun H locs hw => ?_)
      replace hw : Wd (dC, dI) A s.heap H locs (w_WHR aW aH aR cI cJ cZ W_sorts W_values W_turns W_falling W_count c6 c7 R_members R_starts R_inOrder R_standing R_heads R_tails R_rowsInAll R_made R_all R_filled) := hw
      obtain ⟨x9, ex9⟩ : ∃ y : Int32, y = v3 + 1 := ⟨_, rfl⟩
      replace hf := nl_at hf ex9
      refine lv_iinc (v := x9) (lv' := [(3, .int x9), (0, .ref (aR 0)), (1, .ref (aW 0)), (2, .ref (aH 0))]) hx hb dX5_putInOrder_24 hl (k := 3) rfl (by rw [ex9]; rfl) (by decide) rfl (fun ls hl => ?_)
      refine lv_goto (tgt := 6) hx hb dX5_putInOrder_27 (by decide) ?_
      exact ih _ _ _ _ _ hf _ _ _ hw (lv_sub hl [1, 2, 3, 0] rfl) kx
set_option maxHeartbeats 4000000 in
set_option maxRecDepth 100000 in
theorem t_X5_putInOrder_32 {p : Program} {l : Launch} {e : Env} {s : State} {m : MethodId} {args : Array Value} {below : List Frame} {meth : Method} {c : Code} {Q : State → Prop} {dC : Nat → ClassId} {dI : Nat → Nat → Nat} {cI cJ cZ : ClassId} {A : Nat → Prop} (aW aH aR : Nat → Nat) (X : Cx p m c cX5_putInOrder 5 s args wsX5_putInOrder RX5 (dC, dI) (tyl cI cJ cZ) A) (N : Nat) (W_sorts : (Nat → Int32)) (W_values : (Nat → Int32)) (W_turns : (Nat → Int32)) (W_falling : (Nat → Int32)) (W_count : Int32) (R_members : (Nat → Int32)) (R_starts : (Nat → Int32)) (R_heads : (Nat → Int32)) (R_tails : (Nat → Int32)) (R_rowsInAll : Int32) (R_made : Int32) (R_all : Int32) (R_filled : Int32)  :
    ∀ (n : Nat) (v3 : Int32) (H_items : (Nat → Int64)) (H_size : Int32) (R_inOrder : (Nat → Int32)) (R_standing : (Nat → Int32)) (e_H_items : (Nat → Int64)) (e_H_size : Int32) (e_R_inOrder : (Nat → Int32)) (e_R_standing : (Nat → Int32)), l_X5_putInOrder_32 N R_rowsInAll n v3 H_items H_size R_inOrder R_standing = some (e_H_items, e_H_size, e_R_inOrder, e_R_standing) → ∀ (H : Heap) (locs : List Loc) (ls : Array Slot), Wd (dC, dI) A s.heap H locs (w_WHR aW aH aR cI cJ cZ W_sorts W_values W_turns W_falling W_count H_items H_size R_members R_starts R_inOrder R_standing R_heads R_tails R_rowsInAll R_made R_all R_filled) → lv_has ls 5 [(0, .ref (aR 0)), (2, .ref (aH 0)), (3, .int v3)] → (∀ (H : Heap) (locs : List Loc) (ls : Array Slot), Wd (dC, dI) A s.heap H locs (w_WHR aW aH aR cI cJ cZ W_sorts W_values W_turns W_falling W_count e_H_items e_H_size R_members R_starts e_R_inOrder e_R_standing R_heads R_tails R_rowsInAll R_made R_all R_filled) → lv_has ls 5 [] → W p l e rm_X5_putInOrder s m args below meth c H locs 0 0 Q (F0 m 71 ls [])) → W p l e rm_X5_putInOrder s m args below meth c H locs 0 0 Q (F0 m 32 ls []) := by
  obtain ⟨hx, hb, hml, hown, hts⟩ := X.1
  have hK := X.2.1
  have hN := X.2.2.2
  intro n
  induction n with
  | zero =>
    intro _ _ _ _ _ _ _ _ _ hf
    cases hf
  | succ n ih =>
    intro v3 H_items H_size R_inOrder R_standing e_H_items e_H_size e_R_inOrder e_R_standing hf H locs ls hw hl kx
    rw [l_X5_putInOrder_32] at hf
    refine lv_iload_n hx hb dX5_putInOrder_32 rfl (lv_at hl 2 rfl) ?_
    refine lv_aload_n hx hb dX5_putInOrder_33 rfl (lv_at hl 0 rfl) ?_
    refine va_get (D := (dC, dI)) (ci := 5) (v := .int R_rowsInAll) (C := RX5) (T := TX5) (N := 10) hx hb hts i_X5_putInOrder_X5 hown hK hw.1 7 rfl rfl 6 (by decide) (hts _ m_X5_putInOrder_0) (fun _ h9 => h9) rfl dX5_putInOrder_34 ?_
    refine lv_icmp_ge (tgt := 71) hx hb dX5_putInOrder_37 (by decide) (fun b13 => ?_) (fun b13 => ?_)
    · replace hf := it_t hf b13
      cases hf
      exact kx _ _ _ hw (lv_sub hl [] rfl)
    · replace hf := it_f hf b13
      refine lv_aload_n hx hb dX5_putInOrder_40 rfl (lv_at hl 1 rfl) ?_
      obtain ⟨r14, c15, c16, h17, hf⟩ := bd3_ob hf
      refine clVL (As := []) (rest := []) X (c_X1_takeLeast l dC dI cI cJ cZ aH N H_items H_size h17) (cwV 0 hts gX5_putInOrder_X1_takeLeast rfl rfl rfl (by decide +kernel) ⟨Nat.le_of_ble_eq_true rfl, Nat.le_of_ble_eq_true rfl⟩) (ci := 1) (k0 := 0) rfl rfl rfl hw [5, 6] rfl rfl rfl rfl hl.1 rfl (Nat.le_of_ble_eq_true rfl) dX5_putInOrder_41 ⟨Nat.zero_le _, Nat.zero_le _⟩ (fun H locs hw => ?_)
      replace hw : Wd (dC, dI) A s.heap H locs (w_WHR aW aH aR cI cJ cZ W_sorts W_values W_turns W_falling W_count c15 c16 R_members R_starts R_inOrder R_standing R_heads R_tails R_rowsInAll R_made R_all R_filled) := hw
      obtain ⟨r18, h19, hf⟩ := bd1_ob hf
      refine clSI (As := [.long r14]) (rest := []) X (c_X4_rowOf l dC dI cI cJ cZ N r14 h19) (va_cwS 1 hts gX5_putInOrder_X4_rowOf rfl rfl rfl (by decide +kernel) ⟨Nat.le_of_ble_eq_true rfl, Nat.le_of_ble_eq_true rfl⟩) hw [] rfl rfl rfl rfl hl.1 rfl (Nat.le_of_ble_eq_true rfl) dX5_putInOrder_44 ⟨Nat.zero_le _, Nat.zero_le _⟩ (fun H locs hw => ?_)
      replace hw : Wd (dC, dI) A s.heap H locs (w_WHR aW aH aR cI cJ cZ W_sorts W_values W_turns W_falling W_count c15 c16 R_members R_starts R_inOrder R_standing R_heads R_tails R_rowsInAll R_made R_all R_filled) := hw
      refine lv_istore (lv' := [(4, .int r18), (0, .ref (aR 0)), (2, .ref (aH 0)), (3, .int v3)]) hx hb dX5_putInOrder_47 hl (by decide) rfl (fun ls hl => ?_)
      refine lv_aload_n hx hb dX5_putInOrder_49 rfl (lv_at hl 1 rfl) ?_
      refine va_get (D := (dC, dI)) (ci := 5) (v := .ref (aR 3)) (C := RX5) (T := TX5) (N := 10) hx hb hts i_X5_putInOrder_X5 hown hK hw.1 7 rfl rfl 2 (by decide) (hts _ m_X5_putInOrder_1) (fun _ h9 => h9) rfl dX5_putInOrder_50 ?_
      refine lv_iload_n hx hb dX5_putInOrder_53 rfl (lv_at hl 3 rfl) ?_
      refine lv_iload hx hb dX5_putInOrder_54 (lv_at hl 0 rfl) ?_
      have g20 := ix_in (gd_l hf)
      replace hf := gd_r hf
      refine g_iast hx hb hK hw 10 0 rfl rfl g20 dX5_putInOrder_56 (fun H locs hw => ?_)
      replace hw : Wd (dC, dI) A s.heap H locs (w_WHR aW aH aR cI cJ cZ W_sorts W_values W_turns W_falling W_count c15 c16 R_members R_starts (upd R_inOrder v3.toNatClampNeg r18) R_standing R_heads R_tails R_rowsInAll R_made R_all R_filled) := hw
      refine lv_aload_n hx hb dX5_putInOrder_57 rfl (lv_at hl 1 rfl) ?_
      refine va_get (D := (dC, dI)) (ci := 5) (v := .ref (aR 4)) (C := RX5) (T := TX5) (N := 10) hx hb hts i_X5_putInOrder_X5 hown hK hw.1 7 rfl rfl 3 (by decide) (hts _ m_X5_putInOrder_2) (fun _ h9 => h9) rfl dX5_putInOrder_58 ?_
      refine lv_iload hx hb dX5_putInOrder_61 (lv_at hl 0 rfl) ?_
      refine lv_iload_n hx hb dX5_putInOrder_63 rfl (lv_at hl 3 rfl) ?_
      have g21 := ix_in (gd_l hf)
      replace hf := gd_r hf
      refine g_iast hx hb hK hw 11 0 rfl rfl g21 dX5_putInOrder_64 (fun H locs hw => ?_)
      replace hw : Wd (dC, dI) A s.heap H locs (w_WHR aW aH aR cI cJ cZ W_sorts W_values W_turns W_falling W_count c15 c16 R_members R_starts (upd R_inOrder v3.toNatClampNeg r18) (upd R_standing r18.toNatClampNeg v3) R_heads R_tails R_rowsInAll R_made R_all R_filled) := hw
      obtain ⟨x22, ex22⟩ : ∃ y : Int32, y = v3 + 1 := ⟨_, rfl⟩
      replace hf := nl_at hf ex22
      refine lv_iinc (v := x22) (lv' := [(3, .int x22), (4, .int r18), (0, .ref (aR 0)), (2, .ref (aH 0))]) hx hb dX5_putInOrder_65 hl (k := 3) rfl (by rw [ex22]; rfl) (by decide) rfl (fun ls hl => ?_)
      refine lv_goto (tgt := 32) hx hb dX5_putInOrder_68 (by decide) ?_
      exact ih _ _ _ _ _ _ _ _ _ hf _ _ _ hw (lv_sub hl [2, 3, 0] rfl) kx
set_option maxHeartbeats 4000000 in
set_option maxRecDepth 100000 in
theorem c_X5_putInOrder (l : Launch) (dC : Nat → ClassId) (dI : Nat → Nat → Nat) (cI cJ cZ : ClassId) (aW aH aR : Nat → Nat) (N : Nat) (W_sorts : (Nat → Int32)) (W_values : (Nat → Int32)) (W_turns : (Nat → Int32)) (W_falling : (Nat → Int32)) (W_count : Int32) (H_items : (Nat → Int64)) (H_size : Int32) (R_members : (Nat → Int32)) (R_starts : (Nat → Int32)) (R_inOrder : (Nat → Int32)) (R_standing : (Nat → Int32)) (R_heads : (Nat → Int32)) (R_tails : (Nat → Int32)) (R_rowsInAll : Int32) (R_made : Int32) (R_all : Int32) (R_filled : Int32)  {o_H_items : (Nat → Int64)} {o_H_size : Int32} {o_R_inOrder : (Nat → Int32)} {o_R_standing : (Nat → Int32)} (hf : f_X5_putInOrder N W_sorts W_values W_turns W_falling W_count H_items H_size R_inOrder R_standing R_rowsInAll  = some (o_H_items, o_H_size, o_R_inOrder, o_R_standing)) :
    CtV l yX5_putInOrder wsX5_putInOrder rm_X5_putInOrder (dC, dI) (tyl cI cJ cZ) [.ref (aR 0), .ref (aW 0), .ref (aH 0)] (w_WHR aW aH aR cI cJ cZ W_sorts W_values W_turns W_falling W_count H_items H_size R_members R_starts R_inOrder R_standing R_heads R_tails R_rowsInAll R_made R_all R_filled) (w_WHR aW aH aR cI cJ cZ W_sorts W_values W_turns W_falling W_count o_H_items o_H_size R_members R_starts o_R_inOrder o_R_standing R_heads R_tails R_rowsInAll R_made R_all R_filled) := by
  refine startV (cc := cX5_putInOrder) (maxL := 5) (rt := none) (by decide +kernel) rfl (Nat.le_of_ble_eq_true rfl) ?_
  intro p e s m below meth c A ls X hr hlocks hw hl
  replace X : Cx p m c cX5_putInOrder 5 s _ wsX5_putInOrder RX5 (dC, dI) (tyl cI cJ cZ) A := X
  replace hl : lv_has ls 5 [(0, .ref (aR 0)), (1, .ref (aW 0)), (2, .ref (aH 0))] := hl
  obtain ⟨hx, hb, hml, hown, hts⟩ := X.1
  have hK := X.2.1
  have hN := X.2.2.2
  unfold f_X5_putInOrder at hf
  refine lv_aload_n hx hb dX5_putInOrder_0 rfl (lv_at hl 2 rfl) ?_
  obtain ⟨c1, h2, hf⟩ := bd1_ob hf
  refine clVV (As := []) (rest := []) X (c_X1_forget l dC dI cI cJ cZ aH N H_items H_size h2) (cwV 0 hts gX5_putInOrder_X1_forget rfl rfl rfl (by decide +kernel) ⟨Nat.le_of_ble_eq_true rfl, Nat.le_of_ble_eq_true rfl⟩) (ci := 1) (k0 := 0) rfl rfl rfl hw [5, 6] rfl rfl rfl rfl hl.1 rfl (Nat.le_of_ble_eq_true rfl) dX5_putInOrder_1 ⟨Nat.zero_le _, Nat.zero_le _⟩ (fun H locs hw => ?_)
  replace hw : Wd (dC, dI) A s.heap H locs (w_WHR aW aH aR cI cJ cZ W_sorts W_values W_turns W_falling W_count H_items c1 R_members R_starts R_inOrder R_standing R_heads R_tails R_rowsInAll R_made R_all R_filled) := hw
  refine lv_iconst (v := 0) hx hb dX5_putInOrder_4 (by decide) ?_
  refine lv_istore_n (lv' := [(3, .int 0), (0, .ref (aR 0)), (1, .ref (aW 0)), (2, .ref (aH 0))]) hx hb dX5_putInOrder_5 rfl hl (by decide) rfl (fun ls hl => ?_)
  obtain ⟨e10, e11, h12, hf⟩ := bd2_ob hf
  refine t_X5_putInOrder_6 aW aH aR X N W_sorts W_values W_turns W_falling W_count R_members R_starts R_inOrder R_standing R_heads R_tails R_rowsInAll R_made R_all R_filled N _ _ _ _ _ h12 _ _ _ hw (lv_sub hl [1, 2, 3, 0] rfl) (fun H locs ls hw hl => ?_)
  refine lv_iconst (v := 0) hx hb dX5_putInOrder_30 (by decide) ?_
  refine lv_istore_n (lv' := [(3, .int 0), (0, .ref (aR 0)), (2, .ref (aH 0))]) hx hb dX5_putInOrder_31 rfl hl (by decide) rfl (fun ls hl => ?_)
  obtain ⟨e23, e24, e25, e26, h27, hf⟩ := bd4_ob hf
  refine t_X5_putInOrder_32 aW aH aR X N W_sorts W_values W_turns W_falling W_count R_members R_starts R_heads R_tails R_rowsInAll R_made R_all R_filled N _ _ _ _ _ _ _ _ _ h27 _ _ _ hw (lv_sub hl [1, 2, 0] rfl) (fun H locs ls hw hl => ?_)
  cases hf
  exact endV X hr hlocks hw dX5_putInOrder_71
def rm_X5_begin : Room := { frames := 0, cells := 0, slots := 0, locals := 0 }
set_option maxRecDepth 20000 in
theorem i_X5_begin_X5 : ∀ w ∈ u_ws RX5 TX5 10, w ∈ wsX5_begin := by decide +kernel
set_option maxRecDepth 20000 in
theorem m_X5_begin_0 : Cond.fieldLink RX5 37 "GreatSort$Runs" "all" "I" ∈ wsX5_begin := by decide +kernel
set_option maxRecDepth 20000 in
theorem m_X5_begin_1 : Cond.fieldLink RX5 15 "GreatSort$Runs" "starts" "[I" ∈ wsX5_begin := by decide +kernel
set_option maxRecDepth 20000 in
theorem m_X5_begin_2 : Cond.fieldLink RX5 40 "GreatSort$Runs" "filled" "I" ∈ wsX5_begin := by decide +kernel
set_option maxHeartbeats 4000000 in
set_option maxRecDepth 100000 in
theorem c_X5_begin (l : Launch) (dC : Nat → ClassId) (dI : Nat → Nat → Nat) (cI cJ cZ : ClassId) (aR : Nat → Nat) (N : Nat) (R_members : (Nat → Int32)) (R_starts : (Nat → Int32)) (R_inOrder : (Nat → Int32)) (R_standing : (Nat → Int32)) (R_heads : (Nat → Int32)) (R_tails : (Nat → Int32)) (R_rowsInAll : Int32) (R_made : Int32) (R_all : Int32) (R_filled : Int32)  {o_R_starts : (Nat → Int32)} {o_R_all : Int32} (hf : f_X5_begin N R_starts R_all R_filled  = some (o_R_starts, o_R_all)) :
    CtV l yX5_begin wsX5_begin rm_X5_begin (dC, dI) (tyl cI cJ cZ) [.ref (aR 0)] (w_R aR cI cJ cZ R_members R_starts R_inOrder R_standing R_heads R_tails R_rowsInAll R_made R_all R_filled) (w_R aR cI cJ cZ R_members o_R_starts R_inOrder R_standing R_heads R_tails R_rowsInAll R_made o_R_all R_filled) := by
  refine startV (cc := cX5_begin) (maxL := 1) (rt := none) (by decide +kernel) rfl (Nat.le_of_ble_eq_true rfl) ?_
  intro p e s m below meth c A ls X hr hlocks hw hl
  replace X : Cx p m c cX5_begin 1 s _ wsX5_begin RX5 (dC, dI) (tyl cI cJ cZ) A := X
  replace hl : lv_has ls 1 [(0, .ref (aR 0))] := hl
  obtain ⟨hx, hb, hml, hown, hts⟩ := X.1
  have hK := X.2.1
  have hN := X.2.2.2
  unfold f_X5_begin at hf
  refine lv_aload_n hx hb dX5_begin_0 rfl (lv_at hl 0 rfl) ?_
  refine va_get (D := (dC, dI)) (ci := 5) (v := .int R_all) (C := RX5) (T := TX5) (N := 10) hx hb hts i_X5_begin_X5 hown hK hw.1 0 rfl rfl 8 (by decide) (hts _ m_X5_begin_0) (fun _ h9 => h9) rfl dX5_begin_1 ?_
  refine lv_sipush (v := 799) hx hb dX5_begin_4 (by decide) ?_
  refine lv_icmp_ge (tgt := 46) hx hb dX5_begin_7 (by decide) (fun b1 => ?_) (fun b1 => ?_)
  · replace hf := it_t hf b1
    cases hf
    exact endV X hr hlocks hw dX5_begin_46
  · replace hf := it_f hf b1
    refine lv_aload_n hx hb dX5_begin_10 rfl (lv_at hl 0 rfl) ?_
    refine va_get (D := (dC, dI)) (ci := 5) (v := .ref (aR 2)) (C := RX5) (T := TX5) (N := 10) hx hb hts i_X5_begin_X5 hown hK hw.1 0 rfl rfl 1 (by decide) (hts _ m_X5_begin_1) (fun _ h9 => h9) rfl dX5_begin_11 ?_
    refine lv_aload_n hx hb dX5_begin_14 rfl (lv_at hl 0 rfl) ?_
    refine va_get (D := (dC, dI)) (ci := 5) (v := .int R_all) (C := RX5) (T := TX5) (N := 10) hx hb hts i_X5_begin_X5 hown hK hw.1 0 rfl rfl 8 (by decide) (hts _ m_X5_begin_0) (fun _ h9 => h9) rfl dX5_begin_15 ?_
    refine lv_aload_n hx hb dX5_begin_18 rfl (lv_at hl 0 rfl) ?_
    refine va_get (D := (dC, dI)) (ci := 5) (v := .int R_filled) (C := RX5) (T := TX5) (N := 10) hx hb hts i_X5_begin_X5 hown hK hw.1 0 rfl rfl 9 (by decide) (hts _ m_X5_begin_2) (fun _ h9 => h9) rfl dX5_begin_19 ?_
    have g2 := ix_in (gd_l hf)
    replace hf := gd_r hf
    refine g_iast hx hb hK hw 2 0 rfl rfl g2 dX5_begin_22 (fun H locs hw => ?_)
    replace hw : Wd (dC, dI) A s.heap H locs (w_R aR cI cJ cZ R_members (upd R_starts R_all.toNatClampNeg R_filled) R_inOrder R_standing R_heads R_tails R_rowsInAll R_made R_all R_filled) := hw
    refine lv_aload_n hx hb dX5_begin_23 rfl (lv_at hl 0 rfl) ?_
    refine lv_dup hx hb dX5_begin_24 rfl ?_
    refine va_get (D := (dC, dI)) (ci := 5) (v := .int R_all) (C := RX5) (T := TX5) (N := 10) hx hb hts i_X5_begin_X5 hown hK hw.1 0 rfl rfl 8 (by decide) (hts _ m_X5_begin_0) (fun _ h9 => h9) rfl dX5_begin_25 ?_
    refine lv_iconst (v := 1) hx hb dX5_begin_28 (by decide) ?_
    refine lv_iadd hx hb dX5_begin_29 ?_
    refine lv_topi (fun x3 ex3 => ?_)
    replace hf := nl_at hf ex3
    refine g_put (D := (dC, dI)) (ci := 5) (v := .int x3) (ty := .int) (C := RX5) (T := TX5) (N := 10) hx hb hts i_X5_begin_X5 tyX5 tyX5_ok nmX5 hown hK hw 0 rfl rfl 8 (by decide) (hts _ m_X5_begin_0) (fun _ h9 => h9) rfl (by decide +kernel) rfl rfl (Nat.le_of_ble_eq_true rfl) dX5_begin_30 (fun H locs hw => ?_)
    replace hw : Wd (dC, dI) A s.heap H locs (w_R aR cI cJ cZ R_members (upd R_starts R_all.toNatClampNeg R_filled) R_inOrder R_standing R_heads R_tails R_rowsInAll R_made x3 R_filled) := hw
    refine lv_aload_n hx hb dX5_begin_33 rfl (lv_at hl 0 rfl) ?_
    refine va_get (D := (dC, dI)) (ci := 5) (v := .ref (aR 2)) (C := RX5) (T := TX5) (N := 10) hx hb hts i_X5_begin_X5 hown hK hw.1 0 rfl rfl 1 (by decide) (hts _ m_X5_begin_1) (fun _ h9 => h9) rfl dX5_begin_34 ?_
    refine lv_aload_n hx hb dX5_begin_37 rfl (lv_at hl 0 rfl) ?_
    refine va_get (D := (dC, dI)) (ci := 5) (v := .int x3) (C := RX5) (T := TX5) (N := 10) hx hb hts i_X5_begin_X5 hown hK hw.1 0 rfl rfl 8 (by decide) (hts _ m_X5_begin_0) (fun _ h9 => h9) rfl dX5_begin_38 ?_
    refine lv_aload_n hx hb dX5_begin_41 rfl (lv_at hl 0 rfl) ?_
    refine va_get (D := (dC, dI)) (ci := 5) (v := .int R_filled) (C := RX5) (T := TX5) (N := 10) hx hb hts i_X5_begin_X5 hown hK hw.1 0 rfl rfl 9 (by decide) (hts _ m_X5_begin_2) (fun _ h9 => h9) rfl dX5_begin_42 ?_
    have g4 := ix_in (gd_l hf)
    replace hf := gd_r hf
    refine g_iast hx hb hK hw 2 0 rfl rfl g4 dX5_begin_45 (fun H locs hw => ?_)
    replace hw : Wd (dC, dI) A s.heap H locs (w_R aR cI cJ cZ R_members (upd (upd R_starts R_all.toNatClampNeg R_filled) x3.toNatClampNeg R_filled) R_inOrder R_standing R_heads R_tails R_rowsInAll R_made x3 R_filled) := hw
    cases hf
    exact endV X hr hlocks hw dX5_begin_46
def rm_X5_append : Room := { frames := 0, cells := 0, slots := 0, locals := 0 }
set_option maxRecDepth 20000 in
theorem i_X5_append_X5 : ∀ w ∈ u_ws RX5 TX5 10, w ∈ wsX5_append := by decide +kernel
set_option maxRecDepth 20000 in
theorem m_X5_append_0 : Cond.fieldLink RX5 40 "GreatSort$Runs" "filled" "I" ∈ wsX5_append := by decide +kernel
set_option maxRecDepth 20000 in
theorem m_X5_append_1 : Cond.fieldLink RX5 9 "GreatSort$Runs" "members" "[I" ∈ wsX5_append := by decide +kernel
set_option maxRecDepth 20000 in
theorem m_X5_append_2 : Cond.fieldLink RX5 15 "GreatSort$Runs" "starts" "[I" ∈ wsX5_append := by decide +kernel
set_option maxRecDepth 20000 in
theorem m_X5_append_3 : Cond.fieldLink RX5 37 "GreatSort$Runs" "all" "I" ∈ wsX5_append := by decide +kernel
set_option maxHeartbeats 4000000 in
set_option maxRecDepth 100000 in
theorem c_X5_append (l : Launch) (dC : Nat → ClassId) (dI : Nat → Nat → Nat) (cI cJ cZ : ClassId) (aR : Nat → Nat) (N : Nat) (R_members : (Nat → Int32)) (R_starts : (Nat → Int32)) (R_inOrder : (Nat → Int32)) (R_standing : (Nat → Int32)) (R_heads : (Nat → Int32)) (R_tails : (Nat → Int32)) (R_rowsInAll : Int32) (R_made : Int32) (R_all : Int32) (R_filled : Int32) (v1 : Int32) {o_R_members : (Nat → Int32)} {o_R_starts : (Nat → Int32)} {o_R_filled : Int32} (hf : f_X5_append N R_members R_starts R_all R_filled v1 = some (o_R_members, o_R_starts, o_R_filled)) :
    CtV l yX5_append wsX5_append rm_X5_append (dC, dI) (tyl cI cJ cZ) [.ref (aR 0), .int v1] (w_R aR cI cJ cZ R_members R_starts R_inOrder R_standing R_heads R_tails R_rowsInAll R_made R_all R_filled) (w_R aR cI cJ cZ o_R_members o_R_starts R_inOrder R_standing R_heads R_tails R_rowsInAll R_made R_all o_R_filled) := by
  refine startV (cc := cX5_append) (maxL := 2) (rt := none) (by decide +kernel) rfl (Nat.le_of_ble_eq_true rfl) ?_
  intro p e s m below meth c A ls X hr hlocks hw hl
  replace X : Cx p m c cX5_append 2 s _ wsX5_append RX5 (dC, dI) (tyl cI cJ cZ) A := X
  replace hl : lv_has ls 2 [(0, .ref (aR 0)), (1, .int v1)] := hl
  obtain ⟨hx, hb, hml, hown, hts⟩ := X.1
  have hK := X.2.1
  have hN := X.2.2.2
  unfold f_X5_append at hf
  refine lv_aload_n hx hb dX5_append_0 rfl (lv_at hl 0 rfl) ?_
  refine va_get (D := (dC, dI)) (ci := 5) (v := .int R_filled) (C := RX5) (T := TX5) (N := 10) hx hb hts i_X5_append_X5 hown hK hw.1 0 rfl rfl 9 (by decide) (hts _ m_X5_append_0) (fun _ h9 => h9) rfl dX5_append_1 ?_
  refine lv_aload_n hx hb dX5_append_4 rfl (lv_at hl 0 rfl) ?_
  refine va_get (D := (dC, dI)) (ci := 5) (v := .ref (aR 1)) (C := RX5) (T := TX5) (N := 10) hx hb hts i_X5_append_X5 hown hK hw.1 0 rfl rfl 0 (by decide) (hts _ m_X5_append_1) (fun _ h9 => h9) rfl dX5_append_5 ?_
  refine va_alen hx hb hK hw.1 1 0 rfl rfl (v := 4000) rfl dX5_append_8 ?_
  refine lv_icmp_ge (tgt := 45) hx hb dX5_append_9 (by decide) (fun b1 => ?_) (fun b1 => ?_)
  · replace hf := it_t hf b1
    cases hf
    exact endV X hr hlocks hw dX5_append_45
  · replace hf := it_f hf b1
    refine lv_aload_n hx hb dX5_append_12 rfl (lv_at hl 0 rfl) ?_
    refine va_get (D := (dC, dI)) (ci := 5) (v := .ref (aR 1)) (C := RX5) (T := TX5) (N := 10) hx hb hts i_X5_append_X5 hown hK hw.1 0 rfl rfl 0 (by decide) (hts _ m_X5_append_1) (fun _ h9 => h9) rfl dX5_append_13 ?_
    refine lv_aload_n hx hb dX5_append_16 rfl (lv_at hl 0 rfl) ?_
    refine va_get (D := (dC, dI)) (ci := 5) (v := .int R_filled) (C := RX5) (T := TX5) (N := 10) hx hb hts i_X5_append_X5 hown hK hw.1 0 rfl rfl 9 (by decide) (hts _ m_X5_append_0) (fun _ h9 => h9) rfl dX5_append_17 ?_
    refine lv_iload_n hx hb dX5_append_20 rfl (lv_at hl 1 rfl) ?_
    have g2 := ix_in (gd_l hf)
    replace hf := gd_r hf
    refine g_iast hx hb hK hw 1 0 rfl rfl g2 dX5_append_21 (fun H locs hw => ?_)
    replace hw : Wd (dC, dI) A s.heap H locs (w_R aR cI cJ cZ (upd R_members R_filled.toNatClampNeg v1) R_starts R_inOrder R_standing R_heads R_tails R_rowsInAll R_made R_all R_filled) := hw
    refine lv_aload_n hx hb dX5_append_22 rfl (lv_at hl 0 rfl) ?_
    refine lv_dup hx hb dX5_append_23 rfl ?_
    refine va_get (D := (dC, dI)) (ci := 5) (v := .int R_filled) (C := RX5) (T := TX5) (N := 10) hx hb hts i_X5_append_X5 hown hK hw.1 0 rfl rfl 9 (by decide) (hts _ m_X5_append_0) (fun _ h9 => h9) rfl dX5_append_24 ?_
    refine lv_iconst (v := 1) hx hb dX5_append_27 (by decide) ?_
    refine lv_iadd hx hb dX5_append_28 ?_
    refine lv_topi (fun x3 ex3 => ?_)
    replace hf := nl_at hf ex3
    refine g_put (D := (dC, dI)) (ci := 5) (v := .int x3) (ty := .int) (C := RX5) (T := TX5) (N := 10) hx hb hts i_X5_append_X5 tyX5 tyX5_ok nmX5 hown hK hw 0 rfl rfl 9 (by decide) (hts _ m_X5_append_0) (fun _ h9 => h9) rfl (by decide +kernel) rfl rfl (Nat.le_of_ble_eq_true rfl) dX5_append_29 (fun H locs hw => ?_)
    replace hw : Wd (dC, dI) A s.heap H locs (w_R aR cI cJ cZ (upd R_members R_filled.toNatClampNeg v1) R_starts R_inOrder R_standing R_heads R_tails R_rowsInAll R_made R_all x3) := hw
    refine lv_aload_n hx hb dX5_append_32 rfl (lv_at hl 0 rfl) ?_
    refine va_get (D := (dC, dI)) (ci := 5) (v := .ref (aR 2)) (C := RX5) (T := TX5) (N := 10) hx hb hts i_X5_append_X5 hown hK hw.1 0 rfl rfl 1 (by decide) (hts _ m_X5_append_2) (fun _ h9 => h9) rfl dX5_append_33 ?_
    refine lv_aload_n hx hb dX5_append_36 rfl (lv_at hl 0 rfl) ?_
    refine va_get (D := (dC, dI)) (ci := 5) (v := .int R_all) (C := RX5) (T := TX5) (N := 10) hx hb hts i_X5_append_X5 hown hK hw.1 0 rfl rfl 8 (by decide) (hts _ m_X5_append_3) (fun _ h9 => h9) rfl dX5_append_37 ?_
    refine lv_aload_n hx hb dX5_append_40 rfl (lv_at hl 0 rfl) ?_
    refine va_get (D := (dC, dI)) (ci := 5) (v := .int x3) (C := RX5) (T := TX5) (N := 10) hx hb hts i_X5_append_X5 hown hK hw.1 0 rfl rfl 9 (by decide) (hts _ m_X5_append_0) (fun _ h9 => h9) rfl dX5_append_41 ?_
    have g4 := ix_in (gd_l hf)
    replace hf := gd_r hf
    refine g_iast hx hb hK hw 2 0 rfl rfl g4 dX5_append_44 (fun H locs hw => ?_)
    replace hw : Wd (dC, dI) A s.heap H locs (w_R aR cI cJ cZ (upd R_members R_filled.toNatClampNeg v1) (upd R_starts R_all.toNatClampNeg x3) R_inOrder R_standing R_heads R_tails R_rowsInAll R_made R_all x3) := hw
    cases hf
    exact endV X hr hlocks hw dX5_append_45
def rm_X5_select : Room := { frames := 3, cells := 0, slots := 0, locals := 66 }
set_option maxRecDepth 20000 in
theorem i_X5_select_X5 : ∀ w ∈ u_ws RX5 TX5 10, w ∈ wsX5_select := by decide +kernel
set_option maxRecDepth 20000 in
theorem m_X5_select_0 : Cond.fieldLink RX5 30 "GreatSort$Runs" "rowsInAll" "I" ∈ wsX5_select := by decide +kernel
set_option maxRecDepth 20000 in
theorem m_X5_select_1 : Cond.methodLink RX5 88 Lib.Math.min.name ∈ wsX5_select := by decide +kernel
set_option maxRecDepth 20000 in
theorem m_X5_select_2 : Cond.static Lib.Math.min.name ∈ wsX5_select := by decide +kernel
set_option maxRecDepth 20000 in
theorem m_X5_select_3 : Cond.initialized "java/lang/Math" ∈ wsX5_select := by decide +kernel
set_option maxRecDepth 20000 in
theorem m_X5_select_4 : Cond.code Lib.Math.min.name Lib.Math.min.code 2 (some .int) ∈ wsX5_select := by decide +kernel
set_option maxRecDepth 20000 in
theorem m_X5_select_5 : Cond.constantLong RX5 94 (320001600) ∈ wsX5_select := by decide +kernel
set_option maxRecDepth 20000 in
theorem m_X5_select_6 : Cond.fieldLink RX5 37 "GreatSort$Runs" "all" "I" ∈ wsX5_select := by decide +kernel
set_option maxHeartbeats 4000000 in
set_option maxRecDepth 100000 in
theorem t_X5_select_17 {p : Program} {l : Launch} {e : Env} {s : State} {m : MethodId} {args : Array Value} {below : List Frame} {meth : Method} {c : Code} {Q : State → Prop} {dC : Nat → ClassId} {dI : Nat → Nat → Nat} {cI cJ cZ : ClassId} {A : Nat → Prop} (aW aH aR : Nat → Nat) (X : Cx p m c cX5_select 11 s args wsX5_select RX5 (dC, dI) (tyl cI cJ cZ) A) (N : Nat) (W_sorts : (Nat → Int32)) (W_values : (Nat → Int32)) (W_turns : (Nat → Int32)) (W_falling : (Nat → Int32)) (W_count : Int32) (R_members : (Nat → Int32)) (R_starts : (Nat → Int32)) (R_inOrder : (Nat → Int32)) (R_standing : (Nat → Int32)) (R_heads : (Nat → Int32)) (R_tails : (Nat → Int32)) (R_rowsInAll : Int32) (R_made : Int32) (R_all : Int32) (R_filled : Int32) (v4 : Int32) :
    ∀ (n : Nat) (v5 : Int32) (H_items : (Nat → Int64)) (H_size : Int32) (e_H_items : (Nat → Int64)) (e_H_size : Int32), l_X5_select_17 N W_sorts W_values W_turns W_falling W_count v4 n v5 H_items H_size = some (e_H_items, e_H_size) → ∀ (H : Heap) (locs : List Loc) (ls : Array Slot), Wd (dC, dI) A s.heap H locs (w_WHR aW aH aR cI cJ cZ W_sorts W_values W_turns W_falling W_count H_items H_size R_members R_starts R_inOrder R_standing R_heads R_tails R_rowsInAll R_made R_all R_filled) → lv_has ls 11 [(0, .ref (aR 0)), (1, .ref (aW 0)), (3, .ref (aH 0)), (4, .int v4), (5, .int v5)] → (∀ (H : Heap) (locs : List Loc) (ls : Array Slot), Wd (dC, dI) A s.heap H locs (w_WHR aW aH aR cI cJ cZ W_sorts W_values W_turns W_falling W_count e_H_items e_H_size R_members R_starts R_inOrder R_standing R_heads R_tails R_rowsInAll R_made R_all R_filled) → lv_has ls 11 [(0, .ref (aR 0)), (1, .ref (aW 0)), (3, .ref (aH 0)), (4, .int v4)] → W p l e rm_X5_select s m args below meth c H locs 0 0 Q (F0 m 41 ls [])) → W p l e rm_X5_select s m args below meth c H locs 0 0 Q (F0 m 17 ls []) := by
  obtain ⟨hx, hb, hml, hown, hts⟩ := X.1
  have hK := X.2.1
  have hN := X.2.2.2
  intro n
  induction n with
  | zero =>
    intro _ _ _ _ _ hf
    cases hf
  | succ n ih =>
    intro v5 H_items H_size e_H_items e_H_size hf H locs ls hw hl kx
    rw [l_X5_select_17] at hf
    refine lv_iload hx hb dX5_select_17 (lv_at hl 4 rfl) ?_
    refine lv_iload hx hb dX5_select_19 (lv_at hl 3 rfl) ?_
    refine lv_icmp_ge (tgt := 41) hx hb dX5_select_21 (by decide) (fun b4 => ?_) (fun b4 => ?_)
    · replace hf := it_t hf b4
      cases hf
      exact kx _ _ _ hw (lv_sub hl [0, 1, 2, 3] rfl)
    · replace hf := it_f hf b4
      refine lv_aload_n hx hb dX5_select_24 rfl (lv_at hl 2 rfl) ?_
      refine lv_aload_n hx hb dX5_select_25 rfl (lv_at hl 1 rfl) ?_
      refine lv_iload hx hb dX5_select_26 (lv_at hl 4 rfl) ?_
      obtain ⟨r5, h6, hf⟩ := bd1_ob hf
      refine clVI (As := [.int v5]) (rest := [.ref (aH 0)]) X (c_X4_placeOf l dC dI cI cJ cZ aW N W_sorts W_values W_turns W_falling W_count v5 h6) (cwV 1 hts gX5_select_X4_placeOf rfl rfl rfl (by decide +kernel) ⟨Nat.le_of_ble_eq_true rfl, Nat.le_of_ble_eq_true rfl⟩) (ci := 4) (k0 := 0) rfl rfl rfl hw [0, 1, 2, 3, 4] rfl rfl rfl rfl hl.1 rfl (Nat.le_of_ble_eq_true rfl) dX5_select_28 ⟨Nat.zero_le _, Nat.zero_le _⟩ (fun H locs hw => ?_)
      replace hw : Wd (dC, dI) A s.heap H locs (w_WHR aW aH aR cI cJ cZ W_sorts W_values W_turns W_falling W_count H_items H_size R_members R_starts R_inOrder R_standing R_heads R_tails R_rowsInAll R_made R_all R_filled) := hw
      refine lv_i2l hx hb dX5_select_31 rfl ?_
      obtain ⟨c7, c8, h9, hf⟩ := bd2_ob hf
      refine clVV (As := [.long (r5.toInt64)]) (rest := []) X (c_X1_add l dC dI cI cJ cZ aH N H_items H_size (r5.toInt64) h9) (cwV 1 hts gX5_select_X1_add rfl rfl rfl (by decide +kernel) ⟨Nat.le_of_ble_eq_true rfl, Nat.le_of_ble_eq_true rfl⟩) (ci := 1) (k0 := 0) rfl rfl rfl hw [5, 6] rfl rfl rfl rfl hl.1 rfl (Nat.le_of_ble_eq_true rfl) dX5_select_32 ⟨Nat.zero_le _, Nat.zero_le _⟩ (fun H locs hw => ?_)
      replace hw : Wd (dC, dI) A s.heap H locs (w_WHR aW aH aR cI cJ cZ W_sorts W_values W_turns W_falling W_count c7 c8 R_members R_starts R_inOrder R_standing R_heads R_tails R_rowsInAll R_made R_all R_filled) := hw
      obtain ⟨x10, ex10⟩ : ∃ y : Int32, y = v5 + 1 := ⟨_, rfl⟩
      replace hf := nl_at hf ex10
      refine lv_iinc (v := x10) (lv' := [(5, .int x10), (0, .ref (aR 0)), (1, .ref (aW 0)), (3, .ref (aH 0)), (4, .int v4)]) hx hb dX5_select_35 hl (k := 4) rfl (by rw [ex10]; rfl) (by decide) rfl (fun ls hl => ?_)
      refine lv_goto (tgt := 17) hx hb dX5_select_38 (by decide) ?_
      exact ih _ _ _ _ _ hf _ _ _ hw (lv_sub hl [1, 2, 3, 4, 0] rfl) kx
set_option maxHeartbeats 4000000 in
set_option maxRecDepth 100000 in
theorem t_X5_select_44 {p : Program} {l : Launch} {e : Env} {s : State} {m : MethodId} {args : Array Value} {below : List Frame} {meth : Method} {c : Code} {Q : State → Prop} {dC : Nat → ClassId} {dI : Nat → Nat → Nat} {cI cJ cZ : ClassId} {A : Nat → Prop} (aW aH aR : Nat → Nat) (X : Cx p m c cX5_select 11 s args wsX5_select RX5 (dC, dI) (tyl cI cJ cZ) A) (N : Nat) (W_sorts : (Nat → Int32)) (W_values : (Nat → Int32)) (W_turns : (Nat → Int32)) (W_falling : (Nat → Int32)) (W_count : Int32) (R_inOrder : (Nat → Int32)) (R_standing : (Nat → Int32)) (R_heads : (Nat → Int32)) (R_tails : (Nat → Int32)) (R_rowsInAll : Int32) (R_made : Int32)  :
    ∀ (n : Nat) (v4 : Int32) (v5 : Int32) (H_items : (Nat → Int64)) (H_size : Int32) (R_members : (Nat → Int32)) (R_starts : (Nat → Int32)) (R_all : Int32) (R_filled : Int32) (e_H_items : (Nat → Int64)) (e_H_size : Int32) (e_R_members : (Nat → Int32)) (e_R_starts : (Nat → Int32)) (e_R_all : Int32) (e_R_filled : Int32), l_X5_select_44 N W_sorts W_values W_turns W_falling W_count R_rowsInAll n v4 v5 H_items H_size R_members R_starts R_all R_filled = some (e_H_items, e_H_size, e_R_members, e_R_starts, e_R_all, e_R_filled) → ∀ (H : Heap) (locs : List Loc) (ls : Array Slot), Wd (dC, dI) A s.heap H locs (w_WHR aW aH aR cI cJ cZ W_sorts W_values W_turns W_falling W_count H_items H_size R_members R_starts R_inOrder R_standing R_heads R_tails R_rowsInAll R_made R_all R_filled) → lv_has ls 11 [(0, .ref (aR 0)), (1, .ref (aW 0)), (3, .ref (aH 0)), (4, .int v4), (5, .int v5)] → (∀ (H : Heap) (locs : List Loc) (ls : Array Slot), Wd (dC, dI) A s.heap H locs (w_WHR aW aH aR cI cJ cZ W_sorts W_values W_turns W_falling W_count e_H_items e_H_size e_R_members e_R_starts R_inOrder R_standing R_heads R_tails R_rowsInAll R_made e_R_all e_R_filled) → lv_has ls 11 [] → W p l e rm_X5_select s m args below meth c H locs 0 0 Q (F0 m 151 ls [])) → W p l e rm_X5_select s m args below meth c H locs 0 0 Q (F0 m 44 ls []) := by
  obtain ⟨hx, hb, hml, hown, hts⟩ := X.1
  have hK := X.2.1
  have hN := X.2.2.2
  intro n
  induction n with
  | zero =>
    intro _ _ _ _ _ _ _ _ _ _ _ _ _ _ hf
    cases hf
  | succ n ih =>
    intro v4 v5 H_items H_size R_members R_starts R_all R_filled e_H_items e_H_size e_R_members e_R_starts e_R_all e_R_filled hf H locs ls hw hl kx
    rw [l_X5_select_44] at hf
    refine lv_iload hx hb dX5_select_44 (lv_at hl 4 rfl) ?_
    refine lv_aload_n hx hb dX5_select_46 rfl (lv_at hl 0 rfl) ?_
    refine va_get (D := (dC, dI)) (ci := 5) (v := .int R_rowsInAll) (C := RX5) (T := TX5) (N := 10) hx hb hts i_X5_select_X5 hown hK hw.1 7 rfl rfl 6 (by decide) (hts _ m_X5_select_0) (fun _ h9 => h9) rfl dX5_select_47 ?_
    refine lv_icmp_ge (tgt := 151) hx hb dX5_select_50 (by decide) (fun b14 => ?_) (fun b14 => ?_)
    · replace hf := it_t hf b14
      cases hf
      exact kx _ _ _ hw (lv_sub hl [] rfl)
    · replace hf := it_f hf b14
      refine lv_aload_n hx hb dX5_select_53 rfl (lv_at hl 2 rfl) ?_
      obtain ⟨r15, c16, c17, h18, hf⟩ := bd3_ob hf
      refine clVL (As := []) (rest := []) X (c_X1_takeLeast l dC dI cI cJ cZ aH N H_items H_size h18) (cwV 0 hts gX5_select_X1_takeLeast rfl rfl rfl (by decide +kernel) ⟨Nat.le_of_ble_eq_true rfl, Nat.le_of_ble_eq_true rfl⟩) (ci := 1) (k0 := 0) rfl rfl rfl hw [5, 6] rfl rfl rfl rfl hl.1 rfl (Nat.le_of_ble_eq_true rfl) dX5_select_54 ⟨Nat.zero_le _, Nat.zero_le _⟩ (fun H locs hw => ?_)
      replace hw : Wd (dC, dI) A s.heap H locs (w_WHR aW aH aR cI cJ cZ W_sorts W_values W_turns W_falling W_count c16 c17 R_members R_starts R_inOrder R_standing R_heads R_tails R_rowsInAll R_made R_all R_filled) := hw
      refine lv_lstore (lv' := [(6, .long r15), (0, .ref (aR 0)), (1, .ref (aW 0)), (3, .ref (aH 0)), (4, .int v4), (5, .int v5)]) hx hb dX5_select_57 hl (by decide) rfl (fun ls hl => ?_)
      refine lv_lload hx hb dX5_select_59 (lv_at hl 0 rfl) ?_
      refine lv_ldc2 (v := 320001600) hx hb hown (hts _ m_X5_select_5) dX5_select_61 ?_
      refine lv_ldiv hx hb dX5_select_64 (by decide) ?_
      refine lv_topl (fun x19 ex19 => ?_)
      replace hf := nl_at hf ex19
      refine lv_lstore (lv' := [(8, .long x19), (6, .long r15), (0, .ref (aR 0)), (1, .ref (aW 0)), (3, .ref (aH 0)), (4, .int v4), (5, .int v5)]) hx hb dX5_select_65 hl (by decide) rfl (fun ls hl => ?_)
      refine lv_lload hx hb dX5_select_67 (lv_at hl 0 rfl) ?_
      refine lv_aload_n hx hb dX5_select_69 rfl (lv_at hl 2 rfl) ?_
      refine va_get (D := (dC, dI)) (ci := 5) (v := .int R_all) (C := RX5) (T := TX5) (N := 10) hx hb hts i_X5_select_X5 hown hK hw.1 7 rfl rfl 8 (by decide) (hts _ m_X5_select_6) (fun _ h9 => h9) rfl dX5_select_70 ?_
      refine lv_i2l hx hb dX5_select_73 rfl ?_
      refine W.lcmp hx hb dX5_select_74 ?_
      obtain ⟨y20, y21, h22, hf⟩ := bd2_ob hf
      refine join_ (nL := 11) (dC, dI) A 82 [] (w_WHR aW aH aR cI cJ cZ W_sorts W_values W_turns W_falling W_count c16 c17 R_members y20 R_inOrder R_standing R_heads R_tails R_rowsInAll R_made y21 R_filled) [(0, .ref (aR 0)), (1, .ref (aW 0)), (3, .ref (aH 0)), (4, .int v4), (5, .int v5), (6, .long r15), (8, .long x19)] (fun H locs ls hw hl => ?_) (fun jn => ?_)
      · refine lv_aload_n hx hb dX5_select_82 rfl (lv_at hl 0 rfl) ?_
        refine lv_lload hx hb dX5_select_83 (lv_at hl 5 rfl) ?_
        obtain ⟨r23, h24, hf⟩ := bd1_ob hf
        refine clSI (As := [.long r15]) (rest := [.ref (aR 0)]) X (c_X4_rowOf l dC dI cI cJ cZ N r15 h24) (va_cwS 1 hts gX5_select_X4_rowOf rfl rfl rfl (by decide +kernel) ⟨Nat.le_of_ble_eq_true rfl, Nat.le_of_ble_eq_true rfl⟩) hw [] rfl rfl rfl rfl hl.1 rfl (Nat.le_of_ble_eq_true rfl) dX5_select_85 ⟨Nat.zero_le _, Nat.zero_le _⟩ (fun H locs hw => ?_)
        replace hw : Wd (dC, dI) A s.heap H locs (w_WHR aW aH aR cI cJ cZ W_sorts W_values W_turns W_falling W_count c16 c17 R_members y20 R_inOrder R_standing R_heads R_tails R_rowsInAll R_made y21 R_filled) := hw
        obtain ⟨c25, c26, c27, h28, hf⟩ := bd3_ob hf
        refine clVV (As := [.int r23]) (rest := []) X (c_X5_append l dC dI cI cJ cZ aR N R_members y20 R_inOrder R_standing R_heads R_tails R_rowsInAll R_made y21 R_filled r23 h28) (cwV 1 hts gX5_select_X5_append rfl rfl rfl (by decide +kernel) ⟨Nat.le_of_ble_eq_true rfl, Nat.le_of_ble_eq_true rfl⟩) (ci := 5) (k0 := 0) rfl rfl rfl hw [7, 8, 9, 10, 11, 12, 13] rfl rfl rfl rfl hl.1 rfl (Nat.le_of_ble_eq_true rfl) dX5_select_88 ⟨Nat.zero_le _, Nat.zero_le _⟩ (fun H locs hw => ?_)
        replace hw : Wd (dC, dI) A s.heap H locs (w_WHR aW aH aR cI cJ cZ W_sorts W_values W_turns W_falling W_count c16 c17 c25 c26 R_inOrder R_standing R_heads R_tails R_rowsInAll R_made y21 c27) := hw
        refine lv_iload hx hb dX5_select_91 (lv_at hl 3 rfl) ?_
        refine lv_aload_n hx hb dX5_select_93 rfl (lv_at hl 0 rfl) ?_
        refine va_get (D := (dC, dI)) (ci := 5) (v := .int R_rowsInAll) (C := RX5) (T := TX5) (N := 10) hx hb hts i_X5_select_X5 hown hK hw.1 7 rfl rfl 6 (by decide) (hts _ m_X5_select_0) (fun _ h9 => h9) rfl dX5_select_94 ?_
        refine lv_icmp_ge (tgt := 145) hx hb dX5_select_97 (by decide) (fun b29 => ?_) (fun b29 => ?_)
        · replace hf := it_t hf b29
          obtain ⟨x30, ex30⟩ : ∃ y : Int32, y = v5 + 1 := ⟨_, rfl⟩
          replace hf := nl_at hf ex30
          refine lv_iinc (v := x30) (lv' := [(5, .int x30), (0, .ref (aR 0)), (1, .ref (aW 0)), (3, .ref (aH 0)), (4, .int v4), (6, .long r15), (8, .long x19)]) hx hb dX5_select_145 hl (k := 4) rfl (by rw [ex30]; rfl) (by decide) rfl (fun ls hl => ?_)
          refine lv_goto (tgt := 44) hx hb dX5_select_148 (by decide) ?_
          exact ih _ _ _ _ _ _ _ _ _ _ _ _ _ _ hf _ _ _ hw (lv_sub hl [1, 2, 3, 4, 0] rfl) kx
        · replace hf := it_f hf b29
          refine lv_aload_n hx hb dX5_select_100 rfl (lv_at hl 1 rfl) ?_
          refine lv_iload hx hb dX5_select_101 (lv_at hl 3 rfl) ?_
          obtain ⟨r31, h32, hf⟩ := bd1_ob hf
          refine clVI (As := [.int v4]) (rest := []) X (c_X4_placeOf l dC dI cI cJ cZ aW N W_sorts W_values W_turns W_falling W_count v4 h32) (cwV 1 hts gX5_select_X4_placeOf rfl rfl rfl (by decide +kernel) ⟨Nat.le_of_ble_eq_true rfl, Nat.le_of_ble_eq_true rfl⟩) (ci := 4) (k0 := 0) rfl rfl rfl hw [0, 1, 2, 3, 4] rfl rfl rfl rfl hl.1 rfl (Nat.le_of_ble_eq_true rfl) dX5_select_103 ⟨Nat.zero_le _, Nat.zero_le _⟩ (fun H locs hw => ?_)
          replace hw : Wd (dC, dI) A s.heap H locs (w_WHR aW aH aR cI cJ cZ W_sorts W_values W_turns W_falling W_count c16 c17 c25 c26 R_inOrder R_standing R_heads R_tails R_rowsInAll R_made y21 c27) := hw
          refine lv_istore (lv' := [(10, .int r31), (0, .ref (aR 0)), (1, .ref (aW 0)), (3, .ref (aH 0)), (4, .int v4), (5, .int v5), (6, .long r15), (8, .long x19)]) hx hb dX5_select_106 hl (by decide) rfl (fun ls hl => ?_)
          refine lv_aload_n hx hb dX5_select_108 rfl (lv_at hl 3 rfl) ?_
          refine lv_iload hx hb dX5_select_109 (lv_at hl 0 rfl) ?_
          refine lv_i2l hx hb dX5_select_111 rfl ?_
          refine lv_ldc2 (v := 320001600) hx hb hown (hts _ m_X5_select_5) dX5_select_112 ?_
          refine lv_iload hx hb dX5_select_115 (lv_at hl 0 rfl) ?_
          refine lv_i2l hx hb dX5_select_117 rfl ?_
          refine lv_lload hx hb dX5_select_118 (lv_at hl 6 rfl) ?_
          refine lv_ldc2 (v := 320001600) hx hb hown (hts _ m_X5_select_5) dX5_select_120 ?_
          refine lv_lrem hx hb dX5_select_123 (by decide) ?_
          refine W.lcmp hx hb dX5_select_124 ?_
          obtain ⟨y33, h34, hf⟩ := bd1_ob hf
          refine join_ (nL := 11) (dC, dI) A 137 [.long y33, .long 320001600, .long (r31.toInt64), .ref (aH 0)] (w_WHR aW aH aR cI cJ cZ W_sorts W_values W_turns W_falling W_count c16 c17 c25 c26 R_inOrder R_standing R_heads R_tails R_rowsInAll R_made y21 c27) [(0, .ref (aR 0)), (1, .ref (aW 0)), (3, .ref (aH 0)), (4, .int v4), (5, .int v5)] (fun H locs ls hw hl => ?_) (fun jn => ?_)
          · refine lv_lmul hx hb dX5_select_137 ?_
            refine lv_ladd hx hb dX5_select_138 ?_
            obtain ⟨c35, c36, h37, hf⟩ := bd2_ob hf
            refine clVV (As := [.long (r31.toInt64 + (320001600 * y33))]) (rest := []) X (c_X1_add l dC dI cI cJ cZ aH N c16 c17 (r31.toInt64 + (320001600 * y33)) h37) (cwV 1 hts gX5_select_X1_add rfl rfl rfl (by decide +kernel) ⟨Nat.le_of_ble_eq_true rfl, Nat.le_of_ble_eq_true rfl⟩) (ci := 1) (k0 := 0) rfl rfl rfl hw [5, 6] rfl rfl rfl rfl hl.1 rfl (Nat.le_of_ble_eq_true rfl) dX5_select_139 ⟨Nat.zero_le _, Nat.zero_le _⟩ (fun H locs hw => ?_)
            replace hw : Wd (dC, dI) A s.heap H locs (w_WHR aW aH aR cI cJ cZ W_sorts W_values W_turns W_falling W_count c35 c36 c25 c26 R_inOrder R_standing R_heads R_tails R_rowsInAll R_made y21 c27) := hw
            obtain ⟨x38, ex38⟩ : ∃ y : Int32, y = v4 + 1 := ⟨_, rfl⟩
            replace hf := nl_at hf ex38
            refine lv_iinc (v := x38) (lv' := [(4, .int x38), (0, .ref (aR 0)), (1, .ref (aW 0)), (3, .ref (aH 0)), (5, .int v5)]) hx hb dX5_select_142 hl (k := 3) rfl (by rw [ex38]; rfl) (by decide) rfl (fun ls hl => ?_)
            obtain ⟨x39, ex39⟩ : ∃ y : Int32, y = v5 + 1 := ⟨_, rfl⟩
            replace hf := nl_at hf ex39
            refine lv_iinc (v := x39) (lv' := [(5, .int x39), (4, .int x38), (0, .ref (aR 0)), (1, .ref (aW 0)), (3, .ref (aH 0))]) hx hb dX5_select_145 hl (k := 4) rfl (by rw [ex39]; rfl) (by decide) rfl (fun ls hl => ?_)
            refine lv_goto (tgt := 44) hx hb dX5_select_148 (by decide) ?_
            exact ih _ _ _ _ _ _ _ _ _ _ _ _ _ _ hf _ _ _ hw (lv_sub hl [2, 3, 4, 1, 0] rfl) kx
          · replace hf := h34
            refine lv_if_ge (tgt := 135) hx hb dX5_select_125 (by decide) (fun b40 => ?_) (fun b40 => ?_)
            · replace b40 := (lc_ge (r31.toInt64) (r15 - r15 / 320001600 * 320001600)).mp b40
              replace hf := it_t hf b40
              refine lv_lload hx hb dX5_select_135 (lv_at hl 7 rfl) ?_
              cases hf
              exact jn _ _ _ hw (lv_sub hl [1, 2, 3, 4, 5] rfl)
            · replace b40 := mt (lc_ge (r31.toInt64) (r15 - r15 / 320001600 * 320001600)).mpr b40
              replace hf := it_f hf b40
              refine lv_lload hx hb dX5_select_128 (lv_at hl 7 rfl) ?_
              refine lv_lconst (v := 1) hx hb dX5_select_130 (by decide) ?_
              refine lv_ladd hx hb dX5_select_131 ?_
              refine lv_goto (tgt := 137) hx hb dX5_select_132 (by decide) ?_
              cases hf
              exact jn _ _ _ hw (lv_sub hl [1, 2, 3, 4, 5] rfl)
      · replace hf := h22
        refine lv_if_lt (tgt := 82) hx hb dX5_select_75 (by decide) (fun b41 => ?_) (fun b41 => ?_)
        · replace b41 := (lc_lt x19 (R_all.toInt64)).mp b41
          replace hf := it_t hf b41
          cases hf
          exact jn _ _ _ hw (lv_sub hl [2, 3, 4, 5, 6, 1, 0] rfl)
        · replace b41 := mt (lc_lt x19 (R_all.toInt64)).mpr b41
          replace hf := it_f hf b41
          refine lv_aload_n hx hb dX5_select_78 rfl (lv_at hl 2 rfl) ?_
          obtain ⟨c42, c43, h44, hf⟩ := bd2_ob hf
          refine clVV (As := []) (rest := []) X (c_X5_begin l dC dI cI cJ cZ aR N R_members R_starts R_inOrder R_standing R_heads R_tails R_rowsInAll R_made R_all R_filled h44) (cwV 0 hts gX5_select_X5_begin rfl rfl rfl (by decide +kernel) ⟨Nat.le_of_ble_eq_true rfl, Nat.le_of_ble_eq_true rfl⟩) (ci := 5) (k0 := 0) rfl rfl rfl hw [7, 8, 9, 10, 11, 12, 13] rfl rfl rfl rfl hl.1 rfl (Nat.le_of_ble_eq_true rfl) dX5_select_79 ⟨Nat.zero_le _, Nat.zero_le _⟩ (fun H locs hw => ?_)
          replace hw : Wd (dC, dI) A s.heap H locs (w_WHR aW aH aR cI cJ cZ W_sorts W_values W_turns W_falling W_count c16 c17 R_members c42 R_inOrder R_standing R_heads R_tails R_rowsInAll R_made c43 R_filled) := hw
          cases hf
          exact jn _ _ _ hw (lv_sub hl [2, 3, 4, 5, 6, 1, 0] rfl)
set_option maxHeartbeats 4000000 in
set_option maxRecDepth 100000 in
theorem c_X5_select (l : Launch) (dC : Nat → ClassId) (dI : Nat → Nat → Nat) (cI cJ cZ : ClassId) (aW aH aR : Nat → Nat) (N : Nat) (W_sorts : (Nat → Int32)) (W_values : (Nat → Int32)) (W_turns : (Nat → Int32)) (W_falling : (Nat → Int32)) (W_count : Int32) (H_items : (Nat → Int64)) (H_size : Int32) (R_members : (Nat → Int32)) (R_starts : (Nat → Int32)) (R_inOrder : (Nat → Int32)) (R_standing : (Nat → Int32)) (R_heads : (Nat → Int32)) (R_tails : (Nat → Int32)) (R_rowsInAll : Int32) (R_made : Int32) (R_all : Int32) (R_filled : Int32) (v2 : Int32) {o_H_items : (Nat → Int64)} {o_H_size : Int32} {o_R_members : (Nat → Int32)} {o_R_starts : (Nat → Int32)} {o_R_all : Int32} {o_R_filled : Int32} (hf : f_X5_select N W_sorts W_values W_turns W_falling W_count H_items H_size R_members R_starts R_rowsInAll R_all R_filled v2 = some (o_H_items, o_H_size, o_R_members, o_R_starts, o_R_all, o_R_filled)) :
    CtV l yX5_select wsX5_select rm_X5_select (dC, dI) (tyl cI cJ cZ) [.ref (aR 0), .ref (aW 0), .int v2, .ref (aH 0)] (w_WHR aW aH aR cI cJ cZ W_sorts W_values W_turns W_falling W_count H_items H_size R_members R_starts R_inOrder R_standing R_heads R_tails R_rowsInAll R_made R_all R_filled) (w_WHR aW aH aR cI cJ cZ W_sorts W_values W_turns W_falling W_count o_H_items o_H_size o_R_members o_R_starts R_inOrder R_standing R_heads R_tails R_rowsInAll R_made o_R_all o_R_filled) := by
  refine startV (cc := cX5_select) (maxL := 11) (rt := none) (by decide +kernel) rfl (Nat.le_of_ble_eq_true rfl) ?_
  intro p e s m below meth c A ls X hr hlocks hw hl
  replace X : Cx p m c cX5_select 11 s _ wsX5_select RX5 (dC, dI) (tyl cI cJ cZ) A := X
  replace hl : lv_has ls 11 [(0, .ref (aR 0)), (1, .ref (aW 0)), (2, .int v2), (3, .ref (aH 0))] := hl
  obtain ⟨hx, hb, hml, hown, hts⟩ := X.1
  have hK := X.2.1
  have hN := X.2.2.2
  unfold f_X5_select at hf
  refine lv_aload_n hx hb dX5_select_0 rfl (lv_at hl 3 rfl) ?_
  obtain ⟨c1, h2, hf⟩ := bd1_ob hf
  refine clVV (As := []) (rest := []) X (c_X1_forget l dC dI cI cJ cZ aH N H_items H_size h2) (cwV 0 hts gX5_select_X1_forget rfl rfl rfl (by decide +kernel) ⟨Nat.le_of_ble_eq_true rfl, Nat.le_of_ble_eq_true rfl⟩) (ci := 1) (k0 := 0) rfl rfl rfl hw [5, 6] rfl rfl rfl rfl hl.1 rfl (Nat.le_of_ble_eq_true rfl) dX5_select_1 ⟨Nat.zero_le _, Nat.zero_le _⟩ (fun H locs hw => ?_)
  replace hw : Wd (dC, dI) A s.heap H locs (w_WHR aW aH aR cI cJ cZ W_sorts W_values W_turns W_falling W_count H_items c1 R_members R_starts R_inOrder R_standing R_heads R_tails R_rowsInAll R_made R_all R_filled) := hw
  refine lv_iload_n hx hb dX5_select_4 rfl (lv_at hl 2 rfl) ?_
  refine lv_aload_n hx hb dX5_select_5 rfl (lv_at hl 0 rfl) ?_
  refine va_get (D := (dC, dI)) (ci := 5) (v := .int R_rowsInAll) (C := RX5) (T := TX5) (N := 10) hx hb hts i_X5_select_X5 hown hK hw.1 7 rfl rfl 6 (by decide) (hts _ m_X5_select_0) (fun _ h9 => h9) rfl dX5_select_6 ?_
  refine va_mmin hx hb (hml.trans hl.1.symm) hown (hts _ m_X5_select_1) (hts _ m_X5_select_2) (hts _ m_X5_select_3) (hts _ m_X5_select_4) (by decide) (Nat.le_of_ble_eq_true rfl) (Nat.zero_le _) (Nat.zero_le _) dX5_select_9 ?_
  refine lv_topi (fun x3 ex3 => ?_)
  replace hf := nl_at hf ex3
  refine lv_istore (lv' := [(4, .int x3), (0, .ref (aR 0)), (1, .ref (aW 0)), (2, .int v2), (3, .ref (aH 0))]) hx hb dX5_select_12 hl (by decide) rfl (fun ls hl => ?_)
  refine lv_iconst (v := 0) hx hb dX5_select_14 (by decide) ?_
  refine lv_istore (lv' := [(5, .int 0), (4, .int x3), (0, .ref (aR 0)), (1, .ref (aW 0)), (2, .int v2), (3, .ref (aH 0))]) hx hb dX5_select_15 hl (by decide) rfl (fun ls hl => ?_)
  obtain ⟨e11, e12, h13, hf⟩ := bd2_ob hf
  refine t_X5_select_17 aW aH aR X N W_sorts W_values W_turns W_falling W_count R_members R_starts R_inOrder R_standing R_heads R_tails R_rowsInAll R_made R_all R_filled x3 N _ _ _ _ _ h13 _ _ _ hw (lv_sub hl [2, 3, 5, 1, 0] rfl) (fun H locs ls hw hl => ?_)
  refine lv_iconst (v := 0) hx hb dX5_select_41 (by decide) ?_
  refine lv_istore (lv' := [(5, .int 0), (0, .ref (aR 0)), (1, .ref (aW 0)), (3, .ref (aH 0)), (4, .int x3)]) hx hb dX5_select_42 hl (by decide) rfl (fun ls hl => ?_)
  obtain ⟨e45, e46, e47, e48, e49, e50, h51, hf⟩ := bd6_ob hf
  refine t_X5_select_44 aW aH aR X N W_sorts W_values W_turns W_falling W_count R_inOrder R_standing R_heads R_tails R_rowsInAll R_made N _ _ _ _ _ _ _ _ _ _ _ _ _ _ h51 _ _ _ hw (lv_sub hl [1, 2, 3, 4, 0] rfl) (fun H locs ls hw hl => ?_)
  cases hf
  exact endV X hr hlocks hw dX5_select_151
def rm_X5_makeOf : Room := { frames := 4, cells := 0, slots := 0, locals := 96 }
set_option maxRecDepth 20000 in
theorem i_X5_makeOf_X4 : ∀ w ∈ u_ws RX4 TX4 5, w ∈ wsX5_makeOf := by decide +kernel
set_option maxRecDepth 20000 in
theorem i_X5_makeOf_X5 : ∀ w ∈ u_ws RX5 TX5 10, w ∈ wsX5_makeOf := by decide +kernel
set_option maxRecDepth 20000 in
theorem m_X5_makeOf_0 : Cond.fieldLink RX5 30 "GreatSort$Runs" "rowsInAll" "I" ∈ wsX5_makeOf := by decide +kernel
set_option maxRecDepth 20000 in
theorem m_X5_makeOf_1 : Cond.fieldLink RX5 37 "GreatSort$Runs" "all" "I" ∈ wsX5_makeOf := by decide +kernel
set_option maxRecDepth 20000 in
theorem m_X5_makeOf_2 : Cond.fieldLink RX5 34 "GreatSort$Runs" "made" "I" ∈ wsX5_makeOf := by decide +kernel
set_option maxHeartbeats 4000000 in
set_option maxRecDepth 100000 in
theorem c_X5_makeOf (l : Launch) (dC : Nat → ClassId) (dI : Nat → Nat → Nat) (cI cJ cZ : ClassId) (aW aH aR : Nat → Nat) (N : Nat) (W_sorts : (Nat → Int32)) (W_values : (Nat → Int32)) (W_turns : (Nat → Int32)) (W_falling : (Nat → Int32)) (W_count : Int32) (H_items : (Nat → Int64)) (H_size : Int32) (R_members : (Nat → Int32)) (R_starts : (Nat → Int32)) (R_inOrder : (Nat → Int32)) (R_standing : (Nat → Int32)) (R_heads : (Nat → Int32)) (R_tails : (Nat → Int32)) (R_rowsInAll : Int32) (R_made : Int32) (R_all : Int32) (R_filled : Int32) (v2 : Int32) {o_H_items : (Nat → Int64)} {o_H_size : Int32} {o_R_members : (Nat → Int32)} {o_R_starts : (Nat → Int32)} {o_R_inOrder : (Nat → Int32)} {o_R_standing : (Nat → Int32)} {o_R_rowsInAll : Int32} {o_R_made : Int32} {o_R_all : Int32} {o_R_filled : Int32} (hf : f_X5_makeOf N W_sorts W_values W_turns W_falling W_count H_items H_size R_members R_starts R_inOrder R_standing R_rowsInAll R_made R_all R_filled v2 = some (o_H_items, o_H_size, o_R_members, o_R_starts, o_R_inOrder, o_R_standing, o_R_rowsInAll, o_R_made, o_R_all, o_R_filled)) :
    CtV l yX5_makeOf wsX5_makeOf rm_X5_makeOf (dC, dI) (tyl cI cJ cZ) [.ref (aR 0), .ref (aW 0), .int v2, .ref (aH 0)] (w_WHR aW aH aR cI cJ cZ W_sorts W_values W_turns W_falling W_count H_items H_size R_members R_starts R_inOrder R_standing R_heads R_tails R_rowsInAll R_made R_all R_filled) (w_WHR aW aH aR cI cJ cZ W_sorts W_values W_turns W_falling W_count o_H_items o_H_size o_R_members o_R_starts o_R_inOrder o_R_standing R_heads R_tails o_R_rowsInAll o_R_made o_R_all o_R_filled) := by
  refine startV (cc := cX5_makeOf) (maxL := 4) (rt := none) (by decide +kernel) rfl (Nat.le_of_ble_eq_true rfl) ?_
  intro p e s m below meth c A ls X hr hlocks hw hl
  replace X : Cx p m c cX5_makeOf 4 s _ wsX5_makeOf RX5 (dC, dI) (tyl cI cJ cZ) A := X
  replace hl : lv_has ls 4 [(0, .ref (aR 0)), (1, .ref (aW 0)), (2, .int v2), (3, .ref (aH 0))] := hl
  obtain ⟨hx, hb, hml, hown, hts⟩ := X.1
  have hK := X.2.1
  have hN := X.2.2.2
  unfold f_X5_makeOf at hf
  refine lv_aload_n hx hb dX5_makeOf_0 rfl (lv_at hl 0 rfl) ?_
  refine lv_aload_n hx hb dX5_makeOf_1 rfl (lv_at hl 1 rfl) ?_
  refine va_getN (D := (dC, dI)) (ci := 4) (v := .int W_count) (C := RX4) (T := TX4) (N := 5) hx hb hts i_X5_makeOf_X4 hown hK hw.1 0 rfl rfl 4 (by decide) (va_Nw.use rfl (hN _ nk_26)) (fun _ h9 => h9) rfl dX5_makeOf_2 ?_
  refine g_put (D := (dC, dI)) (ci := 5) (v := .int W_count) (ty := .int) (C := RX5) (T := TX5) (N := 10) hx hb hts i_X5_makeOf_X5 tyX5 tyX5_ok nmX5 hown hK hw 7 rfl rfl 6 (by decide) (hts _ m_X5_makeOf_0) (fun _ h9 => h9) rfl (by decide +kernel) rfl rfl (Nat.le_of_ble_eq_true rfl) dX5_makeOf_5 (fun H locs hw => ?_)
  replace hw : Wd (dC, dI) A s.heap H locs (w_WHR aW aH aR cI cJ cZ W_sorts W_values W_turns W_falling W_count H_items H_size R_members R_starts R_inOrder R_standing R_heads R_tails W_count R_made R_all R_filled) := hw
  refine lv_aload_n hx hb dX5_makeOf_8 rfl (lv_at hl 0 rfl) ?_
  refine lv_aload_n hx hb dX5_makeOf_9 rfl (lv_at hl 1 rfl) ?_
  refine lv_aload_n hx hb dX5_makeOf_10 rfl (lv_at hl 3 rfl) ?_
  obtain ⟨c1, c2, c3, c4, h5, hf⟩ := bd4_ob hf
  refine clFV (As := [.ref (aW 0), .ref (aH 0)]) (rest := []) X (c_X5_putInOrder l dC dI cI cJ cZ aW aH aR N W_sorts W_values W_turns W_falling W_count H_items H_size R_members R_starts R_inOrder R_standing R_heads R_tails W_count R_made R_all R_filled h5) (cwV 2 hts gX5_makeOf_X5_putInOrder rfl rfl rfl (by decide +kernel) ⟨Nat.le_of_ble_eq_true rfl, Nat.le_of_ble_eq_true rfl⟩) (ci := 5) (k0 := 7) rfl rfl rfl hw rfl rfl hl.1 rfl (Nat.le_of_ble_eq_true rfl) dX5_makeOf_11 ⟨Nat.zero_le _, Nat.zero_le _⟩ (fun H locs hw => ?_)
  refine lv_aload_n hx hb dX5_makeOf_14 rfl (lv_at hl 0 rfl) ?_
  refine lv_aload_n hx hb dX5_makeOf_15 rfl (lv_at hl 1 rfl) ?_
  refine lv_iload_n hx hb dX5_makeOf_16 rfl (lv_at hl 2 rfl) ?_
  refine lv_aload_n hx hb dX5_makeOf_17 rfl (lv_at hl 3 rfl) ?_
  obtain ⟨c6, c7, c8, c9, c10, c11, h12, hf⟩ := bd6_ob hf
  refine clFV (As := [.ref (aW 0), .int v2, .ref (aH 0)]) (rest := []) X (c_X5_select l dC dI cI cJ cZ aW aH aR N W_sorts W_values W_turns W_falling W_count c1 c2 R_members R_starts c3 c4 R_heads R_tails W_count R_made R_all R_filled v2 h12) (cwV 3 hts gX5_makeOf_X5_select rfl rfl rfl (by decide +kernel) ⟨Nat.le_of_ble_eq_true rfl, Nat.le_of_ble_eq_true rfl⟩) (ci := 5) (k0 := 7) rfl rfl rfl hw rfl rfl hl.1 rfl (Nat.le_of_ble_eq_true rfl) dX5_makeOf_18 ⟨Nat.zero_le _, Nat.zero_le _⟩ (fun H locs hw => ?_)
  refine lv_aload_n hx hb dX5_makeOf_21 rfl (lv_at hl 0 rfl) ?_
  refine lv_aload_n hx hb dX5_makeOf_22 rfl (lv_at hl 0 rfl) ?_
  refine va_get (D := (dC, dI)) (ci := 5) (v := .int c10) (C := RX5) (T := TX5) (N := 10) hx hb hts i_X5_makeOf_X5 hown hK hw.1 7 rfl rfl 8 (by decide) (hts _ m_X5_makeOf_1) (fun _ h9 => h9) rfl dX5_makeOf_23 ?_
  refine g_put (D := (dC, dI)) (ci := 5) (v := .int c10) (ty := .int) (C := RX5) (T := TX5) (N := 10) hx hb hts i_X5_makeOf_X5 tyX5 tyX5_ok nmX5 hown hK hw 7 rfl rfl 7 (by decide) (hts _ m_X5_makeOf_2) (fun _ h9 => h9) rfl (by decide +kernel) rfl rfl (Nat.le_of_ble_eq_true rfl) dX5_makeOf_26 (fun H locs hw => ?_)
  replace hw : Wd (dC, dI) A s.heap H locs (w_WHR aW aH aR cI cJ cZ W_sorts W_values W_turns W_falling W_count c6 c7 c8 c9 c3 c4 R_heads R_tails W_count c10 c10 c11) := hw
  cases hf
  exact endV X hr hlocks hw dX5_makeOf_29
def rm_X5_has : Room := { frames := 1, cells := 0, slots := 0, locals := 22 }
set_option maxRecDepth 20000 in
theorem i_X5_has_X5 : ∀ w ∈ u_ws RX5 TX5 10, w ∈ wsX5_has := by decide +kernel
set_option maxRecDepth 20000 in
theorem m_X5_has_0 : Cond.fieldLink RX5 37 "GreatSort$Runs" "all" "I" ∈ wsX5_has := by decide +kernel
set_option maxRecDepth 20000 in
theorem m_X5_has_1 : Cond.initialized RX6 ∈ wsX5_has := by decide +kernel
set_option maxRecDepth 20000 in
theorem m_X5_has_2 : Cond.static yX6_isIn ∈ wsX5_has := by decide +kernel
set_option maxHeartbeats 4000000 in
set_option maxRecDepth 100000 in
theorem c_X5_has (l : Launch) (dC : Nat → ClassId) (dI : Nat → Nat → Nat) (cI cJ cZ : ClassId) (aR : Nat → Nat) (N : Nat) (R_members : (Nat → Int32)) (R_starts : (Nat → Int32)) (R_inOrder : (Nat → Int32)) (R_standing : (Nat → Int32)) (R_heads : (Nat → Int32)) (R_tails : (Nat → Int32)) (R_rowsInAll : Int32) (R_made : Int32) (R_all : Int32) (R_filled : Int32) (v1 : Int32) {r : Int32} (hf : f_X5_has N R_all v1 = some r) :
    CtI l yX5_has wsX5_has rm_X5_has (dC, dI) (tyl cI cJ cZ) [.ref (aR 0), .int v1] (w_R aR cI cJ cZ R_members R_starts R_inOrder R_standing R_heads R_tails R_rowsInAll R_made R_all R_filled) (w_R aR cI cJ cZ R_members R_starts R_inOrder R_standing R_heads R_tails R_rowsInAll R_made R_all R_filled) r := by
  refine startI (cc := cX5_has) (maxL := 2) (rt := (some .boolean)) (by decide +kernel) rfl (Nat.le_of_ble_eq_true rfl) ?_
  intro p e s m below meth c A ls X hr hlocks hw hl
  replace X : Cx p m c cX5_has 2 s _ wsX5_has RX5 (dC, dI) (tyl cI cJ cZ) A := X
  replace hl : lv_has ls 2 [(0, .ref (aR 0)), (1, .int v1)] := hl
  obtain ⟨hx, hb, hml, hown, hts⟩ := X.1
  have hK := X.2.1
  have hN := X.2.2.2
  unfold f_X5_has at hf
  refine lv_iload_n hx hb dX5_has_0 rfl (lv_at hl 1 rfl) ?_
  refine lv_iconst (v := 0) hx hb dX5_has_1 (by decide) ?_
  refine lv_aload_n hx hb dX5_has_2 rfl (lv_at hl 0 rfl) ?_
  refine va_get (D := (dC, dI)) (ci := 5) (v := .int R_all) (C := RX5) (T := TX5) (N := 10) hx hb hts i_X5_has_X5 hown hK hw.1 0 rfl rfl 8 (by decide) (hts _ m_X5_has_0) (fun _ h9 => h9) rfl dX5_has_3 ?_
  refine lv_iconst (v := 1) hx hb dX5_has_6 (by decide) ?_
  refine lv_isub hx hb dX5_has_7 ?_
  obtain ⟨r1, h2, hf⟩ := bd1_ob hf
  refine clSNI (As := [.int v1, .int (0 : Int32), .int (R_all - 1)]) (rest := []) X (c_X6_isIn l dC dI cI cJ cZ N v1 (0 : Int32) (R_all - 1) h2) (⟨va_cnB 3 hts gX5_has_X6_isIn_n43 rfl rfl rfl (hN _ nk_35) (hts _ m_X5_has_1) (by decide +kernel) ⟨Nat.le_of_ble_eq_true rfl, Nat.le_of_ble_eq_true rfl⟩, hts _ m_X5_has_2, trivial⟩) hw [] rfl rfl rfl rfl hl.1 rfl (Nat.le_of_ble_eq_true rfl) dX5_has_8 ⟨Nat.zero_le _, Nat.zero_le _⟩ (fun H locs hw => ?_)
  replace hw : Wd (dC, dI) A s.heap H locs (w_R aR cI cJ cZ R_members R_starts R_inOrder R_standing R_heads R_tails R_rowsInAll R_made R_all R_filled) := hw
  have g3 := bz_nar (gd_l hf)
  replace hf := gd_r hf
  cases hf
  exact endI X hr g3 hlocks rfl hw dX5_has_11
def rm_X5_sizeOf : Room := { frames := 2, cells := 0, slots := 0, locals := 43 }
set_option maxRecDepth 20000 in
theorem i_X5_sizeOf_X5 : ∀ w ∈ u_ws RX5 TX5 10, w ∈ wsX5_sizeOf := by decide +kernel
set_option maxRecDepth 20000 in
theorem m_X5_sizeOf_0 : Cond.fieldLink RX5 15 "GreatSort$Runs" "starts" "[I" ∈ wsX5_sizeOf := by decide +kernel
set_option maxHeartbeats 4000000 in
set_option maxRecDepth 100000 in
theorem c_X5_sizeOf (l : Launch) (dC : Nat → ClassId) (dI : Nat → Nat → Nat) (cI cJ cZ : ClassId) (aR : Nat → Nat) (N : Nat) (R_members : (Nat → Int32)) (R_starts : (Nat → Int32)) (R_inOrder : (Nat → Int32)) (R_standing : (Nat → Int32)) (R_heads : (Nat → Int32)) (R_tails : (Nat → Int32)) (R_rowsInAll : Int32) (R_made : Int32) (R_all : Int32) (R_filled : Int32) (v1 : Int32) {r : Int32} (hf : f_X5_sizeOf N R_starts R_all v1 = some r) :
    CtI l yX5_sizeOf wsX5_sizeOf rm_X5_sizeOf (dC, dI) (tyl cI cJ cZ) [.ref (aR 0), .int v1] (w_R aR cI cJ cZ R_members R_starts R_inOrder R_standing R_heads R_tails R_rowsInAll R_made R_all R_filled) (w_R aR cI cJ cZ R_members R_starts R_inOrder R_standing R_heads R_tails R_rowsInAll R_made R_all R_filled) r := by
  refine startI (cc := cX5_sizeOf) (maxL := 2) (rt := (some .int)) (by decide +kernel) rfl (Nat.le_of_ble_eq_true rfl) ?_
  intro p e s m below meth c A ls X hr hlocks hw hl
  replace X : Cx p m c cX5_sizeOf 2 s _ wsX5_sizeOf RX5 (dC, dI) (tyl cI cJ cZ) A := X
  replace hl : lv_has ls 2 [(0, .ref (aR 0)), (1, .int v1)] := hl
  obtain ⟨hx, hb, hml, hown, hts⟩ := X.1
  have hK := X.2.1
  have hN := X.2.2.2
  unfold f_X5_sizeOf at hf
  refine lv_aload_n hx hb dX5_sizeOf_0 rfl (lv_at hl 0 rfl) ?_
  refine lv_iload_n hx hb dX5_sizeOf_1 rfl (lv_at hl 1 rfl) ?_
  obtain ⟨r1, h2, hf⟩ := bd1_ob hf
  refine clFI (As := [.int v1]) (rest := []) X (c_X5_has l dC dI cI cJ cZ aR N R_members R_starts R_inOrder R_standing R_heads R_tails R_rowsInAll R_made R_all R_filled v1 h2) (cwV 1 hts gX5_sizeOf_X5_has rfl rfl rfl (by decide +kernel) ⟨Nat.le_of_ble_eq_true rfl, Nat.le_of_ble_eq_true rfl⟩) (ci := 5) (k0 := 0) rfl rfl rfl hw rfl rfl hl.1 rfl (Nat.le_of_ble_eq_true rfl) dX5_sizeOf_2 ⟨Nat.zero_le _, Nat.zero_le _⟩ (fun H locs hw => ?_)
  refine lv_if_eq (tgt := 26) hx hb dX5_sizeOf_5 (by decide) (fun b3 => ?_) (fun b3 => ?_)
  · replace hf := it_t hf b3
    refine lv_iconst (v := 0) hx hb dX5_sizeOf_26 (by decide) ?_
    cases hf
    exact endI X hr rfl hlocks rfl hw dX5_sizeOf_27
  · replace hf := it_f hf b3
    refine lv_aload_n hx hb dX5_sizeOf_8 rfl (lv_at hl 0 rfl) ?_
    refine va_get (D := (dC, dI)) (ci := 5) (v := .ref (aR 2)) (C := RX5) (T := TX5) (N := 10) hx hb hts i_X5_sizeOf_X5 hown hK hw.1 0 rfl rfl 1 (by decide) (hts _ m_X5_sizeOf_0) (fun _ h9 => h9) rfl dX5_sizeOf_9 ?_
    refine lv_iload_n hx hb dX5_sizeOf_12 rfl (lv_at hl 1 rfl) ?_
    refine lv_iconst (v := 1) hx hb dX5_sizeOf_13 (by decide) ?_
    refine lv_iadd hx hb dX5_sizeOf_14 ?_
    have g4 := ix_in (gd_l hf)
    replace hf := gd_r hf
    refine va_iald hx hb hK hw.1 2 0 rfl rfl g4 dX5_sizeOf_15 ?_
    refine lv_aload_n hx hb dX5_sizeOf_16 rfl (lv_at hl 0 rfl) ?_
    refine va_get (D := (dC, dI)) (ci := 5) (v := .ref (aR 2)) (C := RX5) (T := TX5) (N := 10) hx hb hts i_X5_sizeOf_X5 hown hK hw.1 0 rfl rfl 1 (by decide) (hts _ m_X5_sizeOf_0) (fun _ h9 => h9) rfl dX5_sizeOf_17 ?_
    refine lv_iload_n hx hb dX5_sizeOf_20 rfl (lv_at hl 1 rfl) ?_
    have g5 := ix_in (gd_l hf)
    replace hf := gd_r hf
    refine va_iald hx hb hK hw.1 2 0 rfl rfl g5 dX5_sizeOf_21 ?_
    refine lv_isub hx hb dX5_sizeOf_22 ?_
    refine lv_goto (tgt := 27) hx hb dX5_sizeOf_23 (by decide) ?_
    cases hf
    exact endI X hr rfl hlocks rfl hw dX5_sizeOf_27
def rm_X5_rowIn : Room := { frames := 3, cells := 0, slots := 0, locals := 64 }
set_option maxRecDepth 20000 in
theorem i_X5_rowIn_X5 : ∀ w ∈ u_ws RX5 TX5 10, w ∈ wsX5_rowIn := by decide +kernel
set_option maxRecDepth 20000 in
theorem m_X5_rowIn_0 : Cond.initialized RX6 ∈ wsX5_rowIn := by decide +kernel
set_option maxRecDepth 20000 in
theorem m_X5_rowIn_1 : Cond.static yX6_isIn ∈ wsX5_rowIn := by decide +kernel
set_option maxRecDepth 20000 in
theorem m_X5_rowIn_2 : Cond.fieldLink RX5 9 "GreatSort$Runs" "members" "[I" ∈ wsX5_rowIn := by decide +kernel
set_option maxRecDepth 20000 in
theorem m_X5_rowIn_3 : Cond.fieldLink RX5 15 "GreatSort$Runs" "starts" "[I" ∈ wsX5_rowIn := by decide +kernel
set_option maxHeartbeats 4000000 in
set_option maxRecDepth 100000 in
theorem c_X5_rowIn (l : Launch) (dC : Nat → ClassId) (dI : Nat → Nat → Nat) (cI cJ cZ : ClassId) (aR : Nat → Nat) (N : Nat) (R_members : (Nat → Int32)) (R_starts : (Nat → Int32)) (R_inOrder : (Nat → Int32)) (R_standing : (Nat → Int32)) (R_heads : (Nat → Int32)) (R_tails : (Nat → Int32)) (R_rowsInAll : Int32) (R_made : Int32) (R_all : Int32) (R_filled : Int32) (v1 : Int32) (v2 : Int32) {r : Int32} (hf : f_X5_rowIn N R_members R_starts R_all v1 v2 = some r) :
    CtI l yX5_rowIn wsX5_rowIn rm_X5_rowIn (dC, dI) (tyl cI cJ cZ) [.ref (aR 0), .int v1, .int v2] (w_R aR cI cJ cZ R_members R_starts R_inOrder R_standing R_heads R_tails R_rowsInAll R_made R_all R_filled) (w_R aR cI cJ cZ R_members R_starts R_inOrder R_standing R_heads R_tails R_rowsInAll R_made R_all R_filled) r := by
  refine startI (cc := cX5_rowIn) (maxL := 3) (rt := (some .int)) (by decide +kernel) rfl (Nat.le_of_ble_eq_true rfl) ?_
  intro p e s m below meth c A ls X hr hlocks hw hl
  replace X : Cx p m c cX5_rowIn 3 s _ wsX5_rowIn RX5 (dC, dI) (tyl cI cJ cZ) A := X
  replace hl : lv_has ls 3 [(0, .ref (aR 0)), (1, .int v1), (2, .int v2)] := hl
  obtain ⟨hx, hb, hml, hown, hts⟩ := X.1
  have hK := X.2.1
  have hN := X.2.2.2
  unfold f_X5_rowIn at hf
  refine lv_iload_n hx hb dX5_rowIn_0 rfl (lv_at hl 2 rfl) ?_
  refine lv_iconst (v := 0) hx hb dX5_rowIn_1 (by decide) ?_
  refine lv_aload_n hx hb dX5_rowIn_2 rfl (lv_at hl 0 rfl) ?_
  refine lv_iload_n hx hb dX5_rowIn_3 rfl (lv_at hl 1 rfl) ?_
  obtain ⟨r1, h2, hf⟩ := bd1_ob hf
  refine clFI (As := [.int v1]) (rest := [.int 0, .int v2]) X (c_X5_sizeOf l dC dI cI cJ cZ aR N R_members R_starts R_inOrder R_standing R_heads R_tails R_rowsInAll R_made R_all R_filled v1 h2) (cwV 1 hts gX5_rowIn_X5_sizeOf rfl rfl rfl (by decide +kernel) ⟨Nat.le_of_ble_eq_true rfl, Nat.le_of_ble_eq_true rfl⟩) (ci := 5) (k0 := 0) rfl rfl rfl hw rfl rfl hl.1 rfl (Nat.le_of_ble_eq_true rfl) dX5_rowIn_4 ⟨Nat.zero_le _, Nat.zero_le _⟩ (fun H locs hw => ?_)
  refine lv_iconst (v := 1) hx hb dX5_rowIn_7 (by decide) ?_
  refine lv_isub hx hb dX5_rowIn_8 ?_
  obtain ⟨r3, h4, hf⟩ := bd1_ob hf
  refine clSNI (As := [.int v2, .int (0 : Int32), .int (r1 - 1)]) (rest := []) X (c_X6_isIn l dC dI cI cJ cZ N v2 (0 : Int32) (r1 - 1) h4) (⟨va_cnB 3 hts gX5_rowIn_X6_isIn_n43 rfl rfl rfl (hN _ nk_35) (hts _ m_X5_rowIn_0) (by decide +kernel) ⟨Nat.le_of_ble_eq_true rfl, Nat.le_of_ble_eq_true rfl⟩, hts _ m_X5_rowIn_1, trivial⟩) hw [] rfl rfl rfl rfl hl.1 rfl (Nat.le_of_ble_eq_true rfl) dX5_rowIn_9 ⟨Nat.zero_le _, Nat.zero_le _⟩ (fun H locs hw => ?_)
  replace hw : Wd (dC, dI) A s.heap H locs (w_R aR cI cJ cZ R_members R_starts R_inOrder R_standing R_heads R_tails R_rowsInAll R_made R_all R_filled) := hw
  refine lv_if_eq (tgt := 31) hx hb dX5_rowIn_12 (by decide) (fun b5 => ?_) (fun b5 => ?_)
  · replace hf := it_t hf b5
    refine lv_iconst (v := (-1)) hx hb dX5_rowIn_31 (by decide) ?_
    cases hf
    exact endI X hr rfl hlocks rfl hw dX5_rowIn_32
  · replace hf := it_f hf b5
    refine lv_aload_n hx hb dX5_rowIn_15 rfl (lv_at hl 0 rfl) ?_
    refine va_get (D := (dC, dI)) (ci := 5) (v := .ref (aR 1)) (C := RX5) (T := TX5) (N := 10) hx hb hts i_X5_rowIn_X5 hown hK hw.1 0 rfl rfl 0 (by decide) (hts _ m_X5_rowIn_2) (fun _ h9 => h9) rfl dX5_rowIn_16 ?_
    refine lv_aload_n hx hb dX5_rowIn_19 rfl (lv_at hl 0 rfl) ?_
    refine va_get (D := (dC, dI)) (ci := 5) (v := .ref (aR 2)) (C := RX5) (T := TX5) (N := 10) hx hb hts i_X5_rowIn_X5 hown hK hw.1 0 rfl rfl 1 (by decide) (hts _ m_X5_rowIn_3) (fun _ h9 => h9) rfl dX5_rowIn_20 ?_
    refine lv_iload_n hx hb dX5_rowIn_23 rfl (lv_at hl 1 rfl) ?_
    have g6 := ix_in (gd_l hf)
    replace hf := gd_r hf
    refine va_iald hx hb hK hw.1 2 0 rfl rfl g6 dX5_rowIn_24 ?_
    refine lv_iload_n hx hb dX5_rowIn_25 rfl (lv_at hl 2 rfl) ?_
    refine lv_iadd hx hb dX5_rowIn_26 ?_
    have g7 := ix_in (gd_l hf)
    replace hf := gd_r hf
    refine va_iald hx hb hK hw.1 1 0 rfl rfl g7 dX5_rowIn_27 ?_
    refine lv_goto (tgt := 32) hx hb dX5_rowIn_28 (by decide) ?_
    cases hf
    exact endI X hr rfl hlocks rfl hw dX5_rowIn_32
def rm_X5_forgetMerged : Room := { frames := 0, cells := 0, slots := 0, locals := 0 }
set_option maxRecDepth 20000 in
theorem i_X5_forgetMerged_X5 : ∀ w ∈ u_ws RX5 TX5 10, w ∈ wsX5_forgetMerged := by decide +kernel
set_option maxRecDepth 20000 in
theorem m_X5_forgetMerged_0 : Cond.fieldLink RX5 34 "GreatSort$Runs" "made" "I" ∈ wsX5_forgetMerged := by decide +kernel
set_option maxRecDepth 20000 in
theorem m_X5_forgetMerged_1 : Cond.fieldLink RX5 37 "GreatSort$Runs" "all" "I" ∈ wsX5_forgetMerged := by decide +kernel
set_option maxRecDepth 20000 in
theorem m_X5_forgetMerged_2 : Cond.fieldLink RX5 30 "GreatSort$Runs" "rowsInAll" "I" ∈ wsX5_forgetMerged := by decide +kernel
set_option maxRecDepth 20000 in
theorem m_X5_forgetMerged_3 : Cond.fieldLink RX5 40 "GreatSort$Runs" "filled" "I" ∈ wsX5_forgetMerged := by decide +kernel
set_option maxHeartbeats 4000000 in
set_option maxRecDepth 100000 in
theorem c_X5_forgetMerged (l : Launch) (dC : Nat → ClassId) (dI : Nat → Nat → Nat) (cI cJ cZ : ClassId) (aR : Nat → Nat) (N : Nat) (R_members : (Nat → Int32)) (R_starts : (Nat → Int32)) (R_inOrder : (Nat → Int32)) (R_standing : (Nat → Int32)) (R_heads : (Nat → Int32)) (R_tails : (Nat → Int32)) (R_rowsInAll : Int32) (R_made : Int32) (R_all : Int32) (R_filled : Int32)  {o_R_all : Int32} {o_R_filled : Int32} (hf : f_X5_forgetMerged N R_rowsInAll R_made R_all R_filled  = some (o_R_all, o_R_filled)) :
    CtV l yX5_forgetMerged wsX5_forgetMerged rm_X5_forgetMerged (dC, dI) (tyl cI cJ cZ) [.ref (aR 0)] (w_R aR cI cJ cZ R_members R_starts R_inOrder R_standing R_heads R_tails R_rowsInAll R_made R_all R_filled) (w_R aR cI cJ cZ R_members R_starts R_inOrder R_standing R_heads R_tails R_rowsInAll R_made o_R_all o_R_filled) := by
  refine startV (cc := cX5_forgetMerged) (maxL := 1) (rt := none) (by decide +kernel) rfl (Nat.le_of_ble_eq_true rfl) ?_
  intro p e s m below meth c A ls X hr hlocks hw hl
  replace X : Cx p m c cX5_forgetMerged 1 s _ wsX5_forgetMerged RX5 (dC, dI) (tyl cI cJ cZ) A := X
  replace hl : lv_has ls 1 [(0, .ref (aR 0))] := hl
  obtain ⟨hx, hb, hml, hown, hts⟩ := X.1
  have hK := X.2.1
  have hN := X.2.2.2
  unfold f_X5_forgetMerged at hf
  refine lv_aload_n hx hb dX5_forgetMerged_0 rfl (lv_at hl 0 rfl) ?_
  refine lv_aload_n hx hb dX5_forgetMerged_1 rfl (lv_at hl 0 rfl) ?_
  refine va_get (D := (dC, dI)) (ci := 5) (v := .int R_made) (C := RX5) (T := TX5) (N := 10) hx hb hts i_X5_forgetMerged_X5 hown hK hw.1 0 rfl rfl 7 (by decide) (hts _ m_X5_forgetMerged_0) (fun _ h9 => h9) rfl dX5_forgetMerged_2 ?_
  refine g_put (D := (dC, dI)) (ci := 5) (v := .int R_made) (ty := .int) (C := RX5) (T := TX5) (N := 10) hx hb hts i_X5_forgetMerged_X5 tyX5 tyX5_ok nmX5 hown hK hw 0 rfl rfl 8 (by decide) (hts _ m_X5_forgetMerged_1) (fun _ h9 => h9) rfl (by decide +kernel) rfl rfl (Nat.le_of_ble_eq_true rfl) dX5_forgetMerged_5 (fun H locs hw => ?_)
  replace hw : Wd (dC, dI) A s.heap H locs (w_R aR cI cJ cZ R_members R_starts R_inOrder R_standing R_heads R_tails R_rowsInAll R_made R_made R_filled) := hw
  refine lv_aload_n hx hb dX5_forgetMerged_8 rfl (lv_at hl 0 rfl) ?_
  refine lv_aload_n hx hb dX5_forgetMerged_9 rfl (lv_at hl 0 rfl) ?_
  refine va_get (D := (dC, dI)) (ci := 5) (v := .int R_rowsInAll) (C := RX5) (T := TX5) (N := 10) hx hb hts i_X5_forgetMerged_X5 hown hK hw.1 0 rfl rfl 6 (by decide) (hts _ m_X5_forgetMerged_2) (fun _ h9 => h9) rfl dX5_forgetMerged_10 ?_
  refine g_put (D := (dC, dI)) (ci := 5) (v := .int R_rowsInAll) (ty := .int) (C := RX5) (T := TX5) (N := 10) hx hb hts i_X5_forgetMerged_X5 tyX5 tyX5_ok nmX5 hown hK hw 0 rfl rfl 9 (by decide) (hts _ m_X5_forgetMerged_3) (fun _ h9 => h9) rfl (by decide +kernel) rfl rfl (Nat.le_of_ble_eq_true rfl) dX5_forgetMerged_13 (fun H locs hw => ?_)
  replace hw : Wd (dC, dI) A s.heap H locs (w_R aR cI cJ cZ R_members R_starts R_inOrder R_standing R_heads R_tails R_rowsInAll R_made R_made R_rowsInAll) := hw
  cases hf
  exact endV X hr hlocks hw dX5_forgetMerged_16
def rm_X3_takeFewest : Room := { frames := 2, cells := 0, slots := 0, locals := 48 }
set_option maxRecDepth 20000 in
theorem i_X3_takeFewest_X3 : ∀ w ∈ u_ws RX3 TX3 5, w ∈ wsX3_takeFewest := by decide +kernel
set_option maxRecDepth 20000 in
theorem m_X3_takeFewest_0 : Cond.fieldLink RX3 15 "GreatSort$Plan" "starts" "[I" ∈ wsX3_takeFewest := by decide +kernel
set_option maxRecDepth 20000 in
theorem m_X3_takeFewest_1 : Cond.fieldLink RX3 9 "GreatSort$Plan" "takenRuns" "[I" ∈ wsX3_takeFewest := by decide +kernel
set_option maxRecDepth 20000 in
theorem m_X3_takeFewest_2 : Cond.constantLong RX3 79 (799) ∈ wsX3_takeFewest := by decide +kernel
set_option maxHeartbeats 4000000 in
set_option maxRecDepth 100000 in
theorem t_X3_takeFewest_14 {p : Program} {l : Launch} {e : Env} {s : State} {m : MethodId} {args : Array Value} {below : List Frame} {meth : Method} {c : Code} {Q : State → Prop} {dC : Nat → ClassId} {dI : Nat → Nat → Nat} {cI cJ cZ : ClassId} {A : Nat → Prop} (aH aP : Nat → Nat) (X : Cx p m c cX3_takeFewest 9 s args wsX3_takeFewest RX3 (dC, dI) (tyl cI cJ cZ) A) (N : Nat) (P_starts : (Nat → Int32)) (P_queued : (Nat → Int32)) (P_merges : Int32) (P_told : Int32) (v1 : Int32) (v2 : Int32) :
    ∀ (n : Nat) (v4 : Int32) (v5 : Int32) (v6 : Int32) (H_items : (Nat → Int64)) (H_size : Int32) (P_takenRuns : (Nat → Int32)) (e4 : Int32) (e5 : Int32) (e_H_items : (Nat → Int64)) (e_H_size : Int32) (e_P_takenRuns : (Nat → Int32)), l_X3_takeFewest_14 N v2 n v4 v5 v6 H_items H_size P_takenRuns = some (e4, e5, e_H_items, e_H_size, e_P_takenRuns) → ∀ (H : Heap) (locs : List Loc) (ls : Array Slot), Wd (dC, dI) A s.heap H locs (w_HP aH aP cI cJ cZ H_items H_size P_takenRuns P_starts P_queued P_merges P_told) → lv_has ls 9 [(0, .ref (aP 0)), (1, .int v1), (2, .int v2), (3, .ref (aH 0)), (4, .int v4), (5, .int v5), (6, .int v6)] → (∀ (H : Heap) (locs : List Loc) (ls : Array Slot), Wd (dC, dI) A s.heap H locs (w_HP aH aP cI cJ cZ e_H_items e_H_size e_P_takenRuns P_starts P_queued P_merges P_told) → lv_has ls 9 [(0, .ref (aP 0)), (1, .int v1), (4, .int e4), (5, .int e5)] → W p l e rm_X3_takeFewest s m args below meth c H locs 0 0 Q (F0 m 71 ls [])) → W p l e rm_X3_takeFewest s m args below meth c H locs 0 0 Q (F0 m 14 ls []) := by
  obtain ⟨hx, hb, hml, hown, hts⟩ := X.1
  have hK := X.2.1
  have hN := X.2.2.2
  intro n
  induction n with
  | zero =>
    intro _ _ _ _ _ _ _ _ _ _ _ hf
    cases hf
  | succ n ih =>
    intro v4 v5 v6 H_items H_size P_takenRuns e4 e5 e_H_items e_H_size e_P_takenRuns hf H locs ls hw hl kx
    rw [l_X3_takeFewest_14] at hf
    refine lv_iload hx hb dX3_takeFewest_14 (lv_at hl 6 rfl) ?_
    refine lv_iload_n hx hb dX3_takeFewest_16 rfl (lv_at hl 2 rfl) ?_
    refine lv_icmp_ge (tgt := 71) hx hb dX3_takeFewest_17 (by decide) (fun b3 => ?_) (fun b3 => ?_)
    · replace hf := it_t hf b3
      cases hf
      exact kx _ _ _ hw (lv_sub hl [0, 1, 4, 5] rfl)
    · replace hf := it_f hf b3
      refine lv_iload hx hb dX3_takeFewest_20 (lv_at hl 5 rfl) ?_
      refine lv_aload_n hx hb dX3_takeFewest_22 rfl (lv_at hl 0 rfl) ?_
      refine va_get (D := (dC, dI)) (ci := 3) (v := .ref (aP 1)) (C := RX3) (T := TX3) (N := 5) hx hb hts i_X3_takeFewest_X3 hown hK hw.1 2 rfl rfl 0 (by decide) (hts _ m_X3_takeFewest_1) (fun _ h9 => h9) rfl dX3_takeFewest_23 ?_
      refine va_alen hx hb hK hw.1 3 0 rfl rfl (v := 800) rfl dX3_takeFewest_26 ?_
      refine lv_icmp_ge (tgt := 71) hx hb dX3_takeFewest_27 (by decide) (fun b4 => ?_) (fun b4 => ?_)
      · replace hf := it_t hf b4
        cases hf
        exact kx _ _ _ hw (lv_sub hl [0, 1, 4, 5] rfl)
      · replace hf := it_f hf b4
        refine lv_aload_n hx hb dX3_takeFewest_30 rfl (lv_at hl 3 rfl) ?_
        obtain ⟨r5, c6, c7, h8, hf⟩ := bd3_ob hf
        refine clVL (As := []) (rest := []) X (c_X1_takeLeast l dC dI cI cJ cZ aH N H_items H_size h8) (cwV 0 hts gX3_takeFewest_X1_takeLeast rfl rfl rfl (by decide +kernel) ⟨Nat.le_of_ble_eq_true rfl, Nat.le_of_ble_eq_true rfl⟩) (ci := 1) (k0 := 0) rfl rfl rfl hw [0, 1] rfl rfl rfl rfl hl.1 rfl (Nat.le_of_ble_eq_true rfl) dX3_takeFewest_31 ⟨Nat.zero_le _, Nat.zero_le _⟩ (fun H locs hw => ?_)
        replace hw : Wd (dC, dI) A s.heap H locs (w_HP aH aP cI cJ cZ c6 c7 P_takenRuns P_starts P_queued P_merges P_told) := hw
        refine lv_lstore (lv' := [(7, .long r5), (0, .ref (aP 0)), (1, .int v1), (2, .int v2), (3, .ref (aH 0)), (4, .int v4), (5, .int v5), (6, .int v6)]) hx hb dX3_takeFewest_34 hl (by decide) rfl (fun ls hl => ?_)
        refine lv_aload_n hx hb dX3_takeFewest_36 rfl (lv_at hl 1 rfl) ?_
        refine va_get (D := (dC, dI)) (ci := 3) (v := .ref (aP 1)) (C := RX3) (T := TX3) (N := 5) hx hb hts i_X3_takeFewest_X3 hown hK hw.1 2 rfl rfl 0 (by decide) (hts _ m_X3_takeFewest_1) (fun _ h9 => h9) rfl dX3_takeFewest_37 ?_
        refine lv_iload hx hb dX3_takeFewest_40 (lv_at hl 6 rfl) ?_
        refine lv_lload hx hb dX3_takeFewest_42 (lv_at hl 0 rfl) ?_
        refine lv_ldc2 (v := 799) hx hb hown (hts _ m_X3_takeFewest_2) dX3_takeFewest_44 ?_
        refine lv_lrem hx hb dX3_takeFewest_47 (by decide) ?_
        refine lv_l2i hx hb dX3_takeFewest_48 rfl ?_
        refine lv_topi (fun x9 ex9 => ?_)
        replace hf := nl_at hf ex9
        have g10 := ix_in (gd_l hf)
        replace hf := gd_r hf
        refine g_iast hx hb hK hw 3 0 rfl rfl g10 dX3_takeFewest_49 (fun H locs hw => ?_)
        replace hw : Wd (dC, dI) A s.heap H locs (w_HP aH aP cI cJ cZ c6 c7 (upd P_takenRuns v5.toNatClampNeg x9) P_starts P_queued P_merges P_told) := hw
        refine lv_iload hx hb dX3_takeFewest_50 (lv_at hl 5 rfl) ?_
        refine lv_lload hx hb dX3_takeFewest_52 (lv_at hl 0 rfl) ?_
        refine lv_ldc2 (v := 799) hx hb hown (hts _ m_X3_takeFewest_2) dX3_takeFewest_54 ?_
        refine lv_ldiv hx hb dX3_takeFewest_57 (by decide) ?_
        refine lv_l2i hx hb dX3_takeFewest_58 rfl ?_
        refine lv_iadd hx hb dX3_takeFewest_59 ?_
        refine lv_topi (fun x11 ex11 => ?_)
        replace hf := nl_at hf ex11
        refine lv_istore (lv' := [(4, .int x11), (7, .long r5), (0, .ref (aP 0)), (1, .int v1), (2, .int v2), (3, .ref (aH 0)), (5, .int v5), (6, .int v6)]) hx hb dX3_takeFewest_60 hl (by decide) rfl (fun ls hl => ?_)
        obtain ⟨x12, ex12⟩ : ∃ y : Int32, y = v5 + 1 := ⟨_, rfl⟩
        replace hf := nl_at hf ex12
        refine lv_iinc (v := x12) (lv' := [(5, .int x12), (4, .int x11), (7, .long r5), (0, .ref (aP 0)), (1, .int v1), (2, .int v2), (3, .ref (aH 0)), (6, .int v6)]) hx hb dX3_takeFewest_62 hl (k := 6) rfl (by rw [ex12]; rfl) (by decide) rfl (fun ls hl => ?_)
        obtain ⟨x13, ex13⟩ : ∃ y : Int32, y = v6 + 1 := ⟨_, rfl⟩
        replace hf := nl_at hf ex13
        refine lv_iinc (v := x13) (lv' := [(6, .int x13), (5, .int x12), (4, .int x11), (7, .long r5), (0, .ref (aP 0)), (1, .int v1), (2, .int v2), (3, .ref (aH 0))]) hx hb dX3_takeFewest_65 hl (k := 7) rfl (by rw [ex13]; rfl) (by decide) rfl (fun ls hl => ?_)
        refine lv_goto (tgt := 14) hx hb dX3_takeFewest_68 (by decide) ?_
        exact ih _ _ _ _ _ _ _ _ _ _ _ hf _ _ _ hw (lv_sub hl [4, 5, 6, 7, 2, 1, 0] rfl) kx
set_option maxHeartbeats 4000000 in
set_option maxRecDepth 100000 in
theorem c_X3_takeFewest (l : Launch) (dC : Nat → ClassId) (dI : Nat → Nat → Nat) (cI cJ cZ : ClassId) (aH aP : Nat → Nat) (N : Nat) (H_items : (Nat → Int64)) (H_size : Int32) (P_takenRuns : (Nat → Int32)) (P_starts : (Nat → Int32)) (P_queued : (Nat → Int32)) (P_merges : Int32) (P_told : Int32) (v1 : Int32) (v2 : Int32) {r : Int32} {o_H_items : (Nat → Int64)} {o_H_size : Int32} {o_P_takenRuns : (Nat → Int32)} {o_P_starts : (Nat → Int32)} (hf : f_X3_takeFewest N H_items H_size P_takenRuns P_starts v1 v2 = some (r, o_H_items, o_H_size, o_P_takenRuns, o_P_starts)) :
    CtI l yX3_takeFewest wsX3_takeFewest rm_X3_takeFewest (dC, dI) (tyl cI cJ cZ) [.ref (aP 0), .int v1, .int v2, .ref (aH 0)] (w_HP aH aP cI cJ cZ H_items H_size P_takenRuns P_starts P_queued P_merges P_told) (w_HP aH aP cI cJ cZ o_H_items o_H_size o_P_takenRuns o_P_starts P_queued P_merges P_told) r := by
  refine startI (cc := cX3_takeFewest) (maxL := 9) (rt := (some .int)) (by decide +kernel) rfl (Nat.le_of_ble_eq_true rfl) ?_
  intro p e s m below meth c A ls X hr hlocks hw hl
  replace X : Cx p m c cX3_takeFewest 9 s _ wsX3_takeFewest RX3 (dC, dI) (tyl cI cJ cZ) A := X
  replace hl : lv_has ls 9 [(0, .ref (aP 0)), (1, .int v1), (2, .int v2), (3, .ref (aH 0))] := hl
  obtain ⟨hx, hb, hml, hown, hts⟩ := X.1
  have hK := X.2.1
  have hN := X.2.2.2
  unfold f_X3_takeFewest at hf
  refine lv_iconst (v := 0) hx hb dX3_takeFewest_0 (by decide) ?_
  refine lv_istore (lv' := [(4, .int 0), (0, .ref (aP 0)), (1, .int v1), (2, .int v2), (3, .ref (aH 0))]) hx hb dX3_takeFewest_1 hl (by decide) rfl (fun ls hl => ?_)
  refine lv_aload_n hx hb dX3_takeFewest_3 rfl (lv_at hl 1 rfl) ?_
  refine va_get (D := (dC, dI)) (ci := 3) (v := .ref (aP 2)) (C := RX3) (T := TX3) (N := 5) hx hb hts i_X3_takeFewest_X3 hown hK hw.1 2 rfl rfl 1 (by decide) (hts _ m_X3_takeFewest_0) (fun _ h9 => h9) rfl dX3_takeFewest_4 ?_
  refine lv_iload_n hx hb dX3_takeFewest_7 rfl (lv_at hl 2 rfl) ?_
  have g1 := ix_in (gd_l hf)
  replace hf := gd_r hf
  refine va_iald hx hb hK hw.1 4 0 rfl rfl g1 dX3_takeFewest_8 ?_
  refine lv_topi (fun x2 ex2 => ?_)
  replace hf := nl_at hf ex2
  refine lv_istore (lv' := [(5, .int x2), (4, .int 0), (0, .ref (aP 0)), (1, .int v1), (2, .int v2), (3, .ref (aH 0))]) hx hb dX3_takeFewest_9 hl (by decide) rfl (fun ls hl => ?_)
  refine lv_iconst (v := 0) hx hb dX3_takeFewest_11 (by decide) ?_
  refine lv_istore (lv' := [(6, .int 0), (5, .int x2), (4, .int 0), (0, .ref (aP 0)), (1, .int v1), (2, .int v2), (3, .ref (aH 0))]) hx hb dX3_takeFewest_12 hl (by decide) rfl (fun ls hl => ?_)
  obtain ⟨e14, e15, e16, e17, e18, h19, hf⟩ := bd5_ob hf
  refine t_X3_takeFewest_14 aH aP X N P_starts P_queued P_merges P_told v1 v2 N _ _ _ _ _ _ _ _ _ _ _ h19 _ _ _ hw (lv_sub hl [3, 4, 5, 6, 2, 1, 0] rfl) (fun H locs ls hw hl => ?_)
  refine lv_aload_n hx hb dX3_takeFewest_71 rfl (lv_at hl 0 rfl) ?_
  refine va_get (D := (dC, dI)) (ci := 3) (v := .ref (aP 2)) (C := RX3) (T := TX3) (N := 5) hx hb hts i_X3_takeFewest_X3 hown hK hw.1 2 rfl rfl 1 (by decide) (hts _ m_X3_takeFewest_0) (fun _ h9 => h9) rfl dX3_takeFewest_72 ?_
  refine lv_iload_n hx hb dX3_takeFewest_75 rfl (lv_at hl 1 rfl) ?_
  refine lv_iconst (v := 1) hx hb dX3_takeFewest_76 (by decide) ?_
  refine lv_iadd hx hb dX3_takeFewest_77 ?_
  refine lv_iload hx hb dX3_takeFewest_78 (lv_at hl 3 rfl) ?_
  have g20 := ix_in (gd_l hf)
  replace hf := gd_r hf
  refine g_iast hx hb hK hw 4 0 rfl rfl g20 dX3_takeFewest_80 (fun H locs hw => ?_)
  replace hw : Wd (dC, dI) A s.heap H locs (w_HP aH aP cI cJ cZ e16 e17 e18 (upd P_starts (v1 + 1).toNatClampNeg e15) P_queued P_merges P_told) := hw
  refine lv_iload hx hb dX3_takeFewest_81 (lv_at hl 2 rfl) ?_
  cases hf
  exact endI X hr rfl hlocks rfl hw dX3_takeFewest_83
def rm_X3_tell : Room := { frames := 3, cells := 0, slots := 0, locals := 76 }
set_option maxRecDepth 20000 in
theorem i_X3_tell_X5 : ∀ w ∈ u_ws RX5 TX5 10, w ∈ wsX3_tell := by decide +kernel
set_option maxRecDepth 20000 in
theorem i_X3_tell_X3 : ∀ w ∈ u_ws RX3 TX3 5, w ∈ wsX3_tell := by decide +kernel
set_option maxRecDepth 20000 in
theorem m_X3_tell_0 : Cond.methodLink RX3 62 Lib.Math.min.name ∈ wsX3_tell := by decide +kernel
set_option maxRecDepth 20000 in
theorem m_X3_tell_1 : Cond.static Lib.Math.min.name ∈ wsX3_tell := by decide +kernel
set_option maxRecDepth 20000 in
theorem m_X3_tell_2 : Cond.initialized "java/lang/Math" ∈ wsX3_tell := by decide +kernel
set_option maxRecDepth 20000 in
theorem m_X3_tell_3 : Cond.code Lib.Math.min.name Lib.Math.min.code 2 (some .int) ∈ wsX3_tell := by decide +kernel
set_option maxRecDepth 20000 in
theorem m_X3_tell_4 : Cond.fieldLink RX3 21 "GreatSort$Plan" "merges" "I" ∈ wsX3_tell := by decide +kernel
set_option maxRecDepth 20000 in
theorem m_X3_tell_5 : Cond.fieldLink RX3 25 "GreatSort$Plan" "told" "Z" ∈ wsX3_tell := by decide +kernel
set_option maxHeartbeats 4000000 in
set_option maxRecDepth 100000 in
theorem t_X3_tell_7 {p : Program} {l : Launch} {e : Env} {s : State} {m : MethodId} {args : Array Value} {below : List Frame} {meth : Method} {c : Code} {Q : State → Prop} {dC : Nat → ClassId} {dI : Nat → Nat → Nat} {cI cJ cZ : ClassId} {A : Nat → Prop} (aH aR aP : Nat → Nat) (X : Cx p m c cX3_tell 7 s args wsX3_tell RX3 (dC, dI) (tyl cI cJ cZ) A) (N : Nat) (R_members : (Nat → Int32)) (R_starts : (Nat → Int32)) (R_inOrder : (Nat → Int32)) (R_standing : (Nat → Int32)) (R_heads : (Nat → Int32)) (R_tails : (Nat → Int32)) (R_rowsInAll : Int32) (R_made : Int32) (R_all : Int32) (R_filled : Int32) (P_takenRuns : (Nat → Int32)) (P_starts : (Nat → Int32)) (P_queued : (Nat → Int32)) (P_merges : Int32) (P_told : Int32) (v2 : Int32) :
    ∀ (n : Nat) (v4 : Int32) (H_items : (Nat → Int64)) (H_size : Int32) (e_H_items : (Nat → Int64)) (e_H_size : Int32), l_X3_tell_7 N R_starts R_made R_all n v4 H_items H_size = some (e_H_items, e_H_size) → ∀ (H : Heap) (locs : List Loc) (ls : Array Slot), Wd (dC, dI) A s.heap H locs (w_HRP aH aR aP cI cJ cZ H_items H_size R_members R_starts R_inOrder R_standing R_heads R_tails R_rowsInAll R_made R_all R_filled P_takenRuns P_starts P_queued P_merges P_told) → lv_has ls 7 [(0, .ref (aP 0)), (1, .ref (aR 0)), (2, .int v2), (3, .ref (aH 0)), (4, .int v4)] → (∀ (H : Heap) (locs : List Loc) (ls : Array Slot), Wd (dC, dI) A s.heap H locs (w_HRP aH aR aP cI cJ cZ e_H_items e_H_size R_members R_starts R_inOrder R_standing R_heads R_tails R_rowsInAll R_made R_all R_filled P_takenRuns P_starts P_queued P_merges P_told) → lv_has ls 7 [(0, .ref (aP 0)), (1, .ref (aR 0)), (2, .int v2), (3, .ref (aH 0))] → W p l e rm_X3_tell s m args below meth c H locs 0 0 Q (F0 m 37 ls [])) → W p l e rm_X3_tell s m args below meth c H locs 0 0 Q (F0 m 7 ls []) := by
  obtain ⟨hx, hb, hml, hown, hts⟩ := X.1
  have hK := X.2.1
  have hN := X.2.2.2
  intro n
  induction n with
  | zero =>
    intro _ _ _ _ _ hf
    cases hf
  | succ n ih =>
    intro v4 H_items H_size e_H_items e_H_size hf H locs ls hw hl kx
    rw [l_X3_tell_7] at hf
    refine lv_iload hx hb dX3_tell_7 (lv_at hl 4 rfl) ?_
    refine lv_aload_n hx hb dX3_tell_9 rfl (lv_at hl 1 rfl) ?_
    refine va_getN (D := (dC, dI)) (ci := 5) (v := .int R_made) (C := RX5) (T := TX5) (N := 10) hx hb hts i_X3_tell_X5 hown hK hw.1 2 rfl rfl 7 (by decide) (va_Nw.use rfl (hN _ nk_25)) (fun _ h9 => h9) rfl dX3_tell_10 ?_
    refine lv_icmp_ge (tgt := 37) hx hb dX3_tell_13 (by decide) (fun b3 => ?_) (fun b3 => ?_)
    · replace hf := it_t hf b3
      cases hf
      exact kx _ _ _ hw (lv_sub hl [0, 1, 2, 3] rfl)
    · replace hf := it_f hf b3
      refine lv_aload_n hx hb dX3_tell_16 rfl (lv_at hl 3 rfl) ?_
      refine lv_aload_n hx hb dX3_tell_17 rfl (lv_at hl 1 rfl) ?_
      refine lv_iload hx hb dX3_tell_18 (lv_at hl 4 rfl) ?_
      obtain ⟨r4, h5, hf⟩ := bd1_ob hf
      refine clVI (As := [.int v4]) (rest := [.ref (aH 0)]) X (c_X5_sizeOf l dC dI cI cJ cZ aR N R_members R_starts R_inOrder R_standing R_heads R_tails R_rowsInAll R_made R_all R_filled v4 h5) (cwV 1 hts gX3_tell_X5_sizeOf rfl rfl rfl (by decide +kernel) ⟨Nat.le_of_ble_eq_true rfl, Nat.le_of_ble_eq_true rfl⟩) (ci := 5) (k0 := 0) rfl rfl rfl hw [2, 3, 4, 5, 6, 7, 8] rfl rfl rfl rfl hl.1 rfl (Nat.le_of_ble_eq_true rfl) dX3_tell_20 ⟨Nat.zero_le _, Nat.zero_le _⟩ (fun H locs hw => ?_)
      replace hw : Wd (dC, dI) A s.heap H locs (w_HRP aH aR aP cI cJ cZ H_items H_size R_members R_starts R_inOrder R_standing R_heads R_tails R_rowsInAll R_made R_all R_filled P_takenRuns P_starts P_queued P_merges P_told) := hw
      refine lv_iload hx hb dX3_tell_23 (lv_at hl 4 rfl) ?_
      obtain ⟨r6, h7, hf⟩ := bd1_ob hf
      refine clSL (As := [.int r4, .int v4]) (rest := [.ref (aH 0)]) X (c_X3_sized l dC dI cI cJ cZ N r4 v4 h7) (va_cwS 2 hts gX3_tell_X3_sized rfl rfl rfl (by decide +kernel) ⟨Nat.le_of_ble_eq_true rfl, Nat.le_of_ble_eq_true rfl⟩) hw [] rfl rfl rfl rfl hl.1 rfl (Nat.le_of_ble_eq_true rfl) dX3_tell_25 ⟨Nat.zero_le _, Nat.zero_le _⟩ (fun H locs hw => ?_)
      replace hw : Wd (dC, dI) A s.heap H locs (w_HRP aH aR aP cI cJ cZ H_items H_size R_members R_starts R_inOrder R_standing R_heads R_tails R_rowsInAll R_made R_all R_filled P_takenRuns P_starts P_queued P_merges P_told) := hw
      obtain ⟨c8, c9, h10, hf⟩ := bd2_ob hf
      refine clVV (As := [.long r6]) (rest := []) X (c_X1_add l dC dI cI cJ cZ aH N H_items H_size r6 h10) (cwV 1 hts gX3_tell_X1_add rfl rfl rfl (by decide +kernel) ⟨Nat.le_of_ble_eq_true rfl, Nat.le_of_ble_eq_true rfl⟩) (ci := 1) (k0 := 0) rfl rfl rfl hw [0, 1] rfl rfl rfl rfl hl.1 rfl (Nat.le_of_ble_eq_true rfl) dX3_tell_28 ⟨Nat.zero_le _, Nat.zero_le _⟩ (fun H locs hw => ?_)
      replace hw : Wd (dC, dI) A s.heap H locs (w_HRP aH aR aP cI cJ cZ c8 c9 R_members R_starts R_inOrder R_standing R_heads R_tails R_rowsInAll R_made R_all R_filled P_takenRuns P_starts P_queued P_merges P_told) := hw
      obtain ⟨x11, ex11⟩ : ∃ y : Int32, y = v4 + 1 := ⟨_, rfl⟩
      replace hf := nl_at hf ex11
      refine lv_iinc (v := x11) (lv' := [(4, .int x11), (0, .ref (aP 0)), (1, .ref (aR 0)), (2, .int v2), (3, .ref (aH 0))]) hx hb dX3_tell_31 hl (k := 4) rfl (by rw [ex11]; rfl) (by decide) rfl (fun ls hl => ?_)
      refine lv_goto (tgt := 7) hx hb dX3_tell_34 (by decide) ?_
      exact ih _ _ _ _ _ hf _ _ _ hw (lv_sub hl [1, 2, 3, 4, 0] rfl) kx
set_option maxHeartbeats 4000000 in
set_option maxRecDepth 100000 in
theorem t_X3_tell_66 {p : Program} {l : Launch} {e : Env} {s : State} {m : MethodId} {args : Array Value} {below : List Frame} {meth : Method} {c : Code} {Q : State → Prop} {dC : Nat → ClassId} {dI : Nat → Nat → Nat} {cI cJ cZ : ClassId} {A : Nat → Prop} (aH aR aP : Nat → Nat) (X : Cx p m c cX3_tell 7 s args wsX3_tell RX3 (dC, dI) (tyl cI cJ cZ) A) (N : Nat) (R_members : (Nat → Int32)) (R_starts : (Nat → Int32)) (R_inOrder : (Nat → Int32)) (R_standing : (Nat → Int32)) (R_heads : (Nat → Int32)) (R_tails : (Nat → Int32)) (R_rowsInAll : Int32) (R_made : Int32) (R_all : Int32) (R_filled : Int32) (P_queued : (Nat → Int32)) (P_merges : Int32) (P_told : Int32) (v2 : Int32) :
    ∀ (n : Nat) (v4 : Int32) (v5 : Int32) (H_items : (Nat → Int64)) (H_size : Int32) (P_takenRuns : (Nat → Int32)) (P_starts : (Nat → Int32)) (e4 : Int32) (e_H_items : (Nat → Int64)) (e_H_size : Int32) (e_P_takenRuns : (Nat → Int32)) (e_P_starts : (Nat → Int32)), l_X3_tell_66 N R_made P_merges v2 n v4 v5 H_items H_size P_takenRuns P_starts = some (e4, e_H_items, e_H_size, e_P_takenRuns, e_P_starts) → ∀ (H : Heap) (locs : List Loc) (ls : Array Slot), Wd (dC, dI) A s.heap H locs (w_HRP aH aR aP cI cJ cZ H_items H_size R_members R_starts R_inOrder R_standing R_heads R_tails R_rowsInAll R_made R_all R_filled P_takenRuns P_starts P_queued P_merges P_told) → lv_has ls 7 [(0, .ref (aP 0)), (1, .ref (aR 0)), (2, .int v2), (3, .ref (aH 0)), (4, .int v4), (5, .int v5)] → (∀ (H : Heap) (locs : List Loc) (ls : Array Slot), Wd (dC, dI) A s.heap H locs (w_HRP aH aR aP cI cJ cZ e_H_items e_H_size R_members R_starts R_inOrder R_standing R_heads R_tails R_rowsInAll R_made R_all R_filled e_P_takenRuns e_P_starts P_queued P_merges P_told) → lv_has ls 7 [(4, .int e4)] → W p l e rm_X3_tell s m args below meth c H locs 0 0 Q (F0 m 123 ls [])) → W p l e rm_X3_tell s m args below meth c H locs 0 0 Q (F0 m 66 ls []) := by
  obtain ⟨hx, hb, hml, hown, hts⟩ := X.1
  have hK := X.2.1
  have hN := X.2.2.2
  intro n
  induction n with
  | zero =>
    intro _ _ _ _ _ _ _ _ _ _ _ hf
    cases hf
  | succ n ih =>
    intro v4 v5 H_items H_size P_takenRuns P_starts e4 e_H_items e_H_size e_P_takenRuns e_P_starts hf H locs ls hw hl kx
    rw [l_X3_tell_66] at hf
    refine lv_iload hx hb dX3_tell_66 (lv_at hl 5 rfl) ?_
    refine lv_aload_n hx hb dX3_tell_68 rfl (lv_at hl 0 rfl) ?_
    refine va_get (D := (dC, dI)) (ci := 3) (v := .int P_merges) (C := RX3) (T := TX3) (N := 5) hx hb hts i_X3_tell_X3 hown hK hw.1 9 rfl rfl 3 (by decide) (hts _ m_X3_tell_4) (fun _ h9 => h9) rfl dX3_tell_69 ?_
    refine lv_icmp_ge (tgt := 123) hx hb dX3_tell_72 (by decide) (fun b18 => ?_) (fun b18 => ?_)
    · replace hf := it_t hf b18
      cases hf
      exact kx _ _ _ hw (lv_sub hl [4] rfl)
    · replace hf := it_f hf b18
      refine lv_aload_n hx hb dX3_tell_75 rfl (lv_at hl 0 rfl) ?_
      refine lv_iload hx hb dX3_tell_76 (lv_at hl 5 rfl) ?_
      refine lv_iload hx hb dX3_tell_78 (lv_at hl 5 rfl) ?_
      refine lv_aload_n hx hb dX3_tell_80 rfl (lv_at hl 1 rfl) ?_
      refine va_getN (D := (dC, dI)) (ci := 5) (v := .int R_made) (C := RX5) (T := TX5) (N := 10) hx hb hts i_X3_tell_X5 hown hK hw.1 2 rfl rfl 7 (by decide) (va_Nw.use rfl (hN _ nk_25)) (fun _ h9 => h9) rfl dX3_tell_81 ?_
      refine lv_iload_n hx hb dX3_tell_84 rfl (lv_at hl 2 rfl) ?_
      obtain ⟨r19, h20, hf⟩ := bd1_ob hf
      refine clSI (As := [.int v5, .int R_made, .int v2]) (rest := [.int v5, .ref (aP 0)]) X (c_X3_waysOf l dC dI cI cJ cZ N v5 R_made v2 h20) (va_cwS 3 hts gX3_tell_X3_waysOf rfl rfl rfl (by decide +kernel) ⟨Nat.le_of_ble_eq_true rfl, Nat.le_of_ble_eq_true rfl⟩) hw [] rfl rfl rfl rfl hl.1 rfl (Nat.le_of_ble_eq_true rfl) dX3_tell_85 ⟨Nat.zero_le _, Nat.zero_le _⟩ (fun H locs hw => ?_)
      replace hw : Wd (dC, dI) A s.heap H locs (w_HRP aH aR aP cI cJ cZ H_items H_size R_members R_starts R_inOrder R_standing R_heads R_tails R_rowsInAll R_made R_all R_filled P_takenRuns P_starts P_queued P_merges P_told) := hw
      refine lv_aload_n hx hb dX3_tell_88 rfl (lv_at hl 3 rfl) ?_
      obtain ⟨r21, c22, c23, c24, c25, h26, hf⟩ := bd5_ob hf
      refine clVI (As := [.int v5, .int r19, .ref (aH 0)]) (rest := []) X (c_X3_takeFewest l dC dI cI cJ cZ aH aP N H_items H_size P_takenRuns P_starts P_queued P_merges P_told v5 r19 h26) (cwV 3 hts gX3_tell_X3_takeFewest rfl rfl rfl (by decide +kernel) ⟨Nat.le_of_ble_eq_true rfl, Nat.le_of_ble_eq_true rfl⟩) (ci := 3) (k0 := 2) rfl rfl rfl hw [0, 1, 9, 10, 11, 12] rfl rfl rfl rfl hl.1 rfl (Nat.le_of_ble_eq_true rfl) dX3_tell_89 ⟨Nat.zero_le _, Nat.zero_le _⟩ (fun H locs hw => ?_)
      replace hw : Wd (dC, dI) A s.heap H locs (w_HRP aH aR aP cI cJ cZ c22 c23 R_members R_starts R_inOrder R_standing R_heads R_tails R_rowsInAll R_made R_all R_filled c24 c25 P_queued P_merges P_told) := hw
      refine lv_istore (lv' := [(6, .int r21), (0, .ref (aP 0)), (1, .ref (aR 0)), (2, .int v2), (3, .ref (aH 0)), (4, .int v4), (5, .int v5)]) hx hb dX3_tell_92 hl (by decide) rfl (fun ls hl => ?_)
      refine lv_aload_n hx hb dX3_tell_94 rfl (lv_at hl 4 rfl) ?_
      refine lv_iload hx hb dX3_tell_95 (lv_at hl 0 rfl) ?_
      refine lv_aload_n hx hb dX3_tell_97 rfl (lv_at hl 2 rfl) ?_
      refine va_getN (D := (dC, dI)) (ci := 5) (v := .int R_made) (C := RX5) (T := TX5) (N := 10) hx hb hts i_X3_tell_X5 hown hK hw.1 2 rfl rfl 7 (by decide) (va_Nw.use rfl (hN _ nk_25)) (fun _ h9 => h9) rfl dX3_tell_98 ?_
      refine lv_iload hx hb dX3_tell_101 (lv_at hl 6 rfl) ?_
      refine lv_iadd hx hb dX3_tell_103 ?_
      obtain ⟨r27, h28, hf⟩ := bd1_ob hf
      refine clSL (As := [.int r21, .int (R_made + v5)]) (rest := [.ref (aH 0)]) X (c_X3_sized l dC dI cI cJ cZ N r21 (R_made + v5) h28) (va_cwS 2 hts gX3_tell_X3_sized rfl rfl rfl (by decide +kernel) ⟨Nat.le_of_ble_eq_true rfl, Nat.le_of_ble_eq_true rfl⟩) hw [] rfl rfl rfl rfl hl.1 rfl (Nat.le_of_ble_eq_true rfl) dX3_tell_104 ⟨Nat.zero_le _, Nat.zero_le _⟩ (fun H locs hw => ?_)
      replace hw : Wd (dC, dI) A s.heap H locs (w_HRP aH aR aP cI cJ cZ c22 c23 R_members R_starts R_inOrder R_standing R_heads R_tails R_rowsInAll R_made R_all R_filled c24 c25 P_queued P_merges P_told) := hw
      obtain ⟨c29, c30, h31, hf⟩ := bd2_ob hf
      refine clVV (As := [.long r27]) (rest := []) X (c_X1_add l dC dI cI cJ cZ aH N c22 c23 r27 h31) (cwV 1 hts gX3_tell_X1_add rfl rfl rfl (by decide +kernel) ⟨Nat.le_of_ble_eq_true rfl, Nat.le_of_ble_eq_true rfl⟩) (ci := 1) (k0 := 0) rfl rfl rfl hw [0, 1] rfl rfl rfl rfl hl.1 rfl (Nat.le_of_ble_eq_true rfl) dX3_tell_107 ⟨Nat.zero_le _, Nat.zero_le _⟩ (fun H locs hw => ?_)
      replace hw : Wd (dC, dI) A s.heap H locs (w_HRP aH aR aP cI cJ cZ c29 c30 R_members R_starts R_inOrder R_standing R_heads R_tails R_rowsInAll R_made R_all R_filled c24 c25 P_queued P_merges P_told) := hw
      refine lv_iload hx hb dX3_tell_110 (lv_at hl 5 rfl) ?_
      refine lv_iload hx hb dX3_tell_112 (lv_at hl 0 rfl) ?_
      refine lv_iadd hx hb dX3_tell_114 ?_
      refine lv_topi (fun x32 ex32 => ?_)
      replace hf := nl_at hf ex32
      refine lv_istore (lv' := [(4, .int x32), (6, .int r21), (0, .ref (aP 0)), (1, .ref (aR 0)), (2, .int v2), (3, .ref (aH 0)), (5, .int v5)]) hx hb dX3_tell_115 hl (by decide) rfl (fun ls hl => ?_)
      obtain ⟨x33, ex33⟩ : ∃ y : Int32, y = v5 + 1 := ⟨_, rfl⟩
      replace hf := nl_at hf ex33
      refine lv_iinc (v := x33) (lv' := [(5, .int x33), (4, .int x32), (6, .int r21), (0, .ref (aP 0)), (1, .ref (aR 0)), (2, .int v2), (3, .ref (aH 0))]) hx hb dX3_tell_117 hl (k := 6) rfl (by rw [ex33]; rfl) (by decide) rfl (fun ls hl => ?_)
      refine lv_goto (tgt := 66) hx hb dX3_tell_120 (by decide) ?_
      exact ih _ _ _ _ _ _ _ _ _ _ _ hf _ _ _ hw (lv_sub hl [3, 4, 5, 6, 1, 0] rfl) kx
set_option maxHeartbeats 4000000 in
set_option maxRecDepth 100000 in
theorem c_X3_tell (l : Launch) (dC : Nat → ClassId) (dI : Nat → Nat → Nat) (cI cJ cZ : ClassId) (aH aR aP : Nat → Nat) (N : Nat) (H_items : (Nat → Int64)) (H_size : Int32) (R_members : (Nat → Int32)) (R_starts : (Nat → Int32)) (R_inOrder : (Nat → Int32)) (R_standing : (Nat → Int32)) (R_heads : (Nat → Int32)) (R_tails : (Nat → Int32)) (R_rowsInAll : Int32) (R_made : Int32) (R_all : Int32) (R_filled : Int32) (P_takenRuns : (Nat → Int32)) (P_starts : (Nat → Int32)) (P_queued : (Nat → Int32)) (P_merges : Int32) (P_told : Int32) (v2 : Int32) {r : Int32} {o_H_items : (Nat → Int64)} {o_H_size : Int32} {o_P_takenRuns : (Nat → Int32)} {o_P_starts : (Nat → Int32)} {o_P_merges : Int32} {o_P_told : Int32} (hf : f_X3_tell N H_items H_size R_starts R_made R_all P_takenRuns P_starts P_merges P_told v2 = some (r, o_H_items, o_H_size, o_P_takenRuns, o_P_starts, o_P_merges, o_P_told)) :
    CtI l yX3_tell wsX3_tell rm_X3_tell (dC, dI) (tyl cI cJ cZ) [.ref (aP 0), .ref (aR 0), .int v2, .ref (aH 0)] (w_HRP aH aR aP cI cJ cZ H_items H_size R_members R_starts R_inOrder R_standing R_heads R_tails R_rowsInAll R_made R_all R_filled P_takenRuns P_starts P_queued P_merges P_told) (w_HRP aH aR aP cI cJ cZ o_H_items o_H_size R_members R_starts R_inOrder R_standing R_heads R_tails R_rowsInAll R_made R_all R_filled o_P_takenRuns o_P_starts P_queued o_P_merges o_P_told) r := by
  refine startI (cc := cX3_tell) (maxL := 7) (rt := (some .int)) (by decide +kernel) rfl (Nat.le_of_ble_eq_true rfl) ?_
  intro p e s m below meth c A ls X hr hlocks hw hl
  replace X : Cx p m c cX3_tell 7 s _ wsX3_tell RX3 (dC, dI) (tyl cI cJ cZ) A := X
  replace hl : lv_has ls 7 [(0, .ref (aP 0)), (1, .ref (aR 0)), (2, .int v2), (3, .ref (aH 0))] := hl
  obtain ⟨hx, hb, hml, hown, hts⟩ := X.1
  have hK := X.2.1
  have hN := X.2.2.2
  unfold f_X3_tell at hf
  refine lv_aload_n hx hb dX3_tell_0 rfl (lv_at hl 3 rfl) ?_
  obtain ⟨c1, h2, hf⟩ := bd1_ob hf
  refine clVV (As := []) (rest := []) X (c_X1_forget l dC dI cI cJ cZ aH N H_items H_size h2) (cwV 0 hts gX3_tell_X1_forget rfl rfl rfl (by decide +kernel) ⟨Nat.le_of_ble_eq_true rfl, Nat.le_of_ble_eq_true rfl⟩) (ci := 1) (k0 := 0) rfl rfl rfl hw [0, 1] rfl rfl rfl rfl hl.1 rfl (Nat.le_of_ble_eq_true rfl) dX3_tell_1 ⟨Nat.zero_le _, Nat.zero_le _⟩ (fun H locs hw => ?_)
  replace hw : Wd (dC, dI) A s.heap H locs (w_HRP aH aR aP cI cJ cZ H_items c1 R_members R_starts R_inOrder R_standing R_heads R_tails R_rowsInAll R_made R_all R_filled P_takenRuns P_starts P_queued P_merges P_told) := hw
  refine lv_iconst (v := 0) hx hb dX3_tell_4 (by decide) ?_
  refine lv_istore (lv' := [(4, .int 0), (0, .ref (aP 0)), (1, .ref (aR 0)), (2, .int v2), (3, .ref (aH 0))]) hx hb dX3_tell_5 hl (by decide) rfl (fun ls hl => ?_)
  obtain ⟨e12, e13, h14, hf⟩ := bd2_ob hf
  refine t_X3_tell_7 aH aR aP X N R_members R_starts R_inOrder R_standing R_heads R_tails R_rowsInAll R_made R_all R_filled P_takenRuns P_starts P_queued P_merges P_told v2 N _ _ _ _ _ h14 _ _ _ hw (lv_sub hl [1, 2, 3, 4, 0] rfl) (fun H locs ls hw hl => ?_)
  refine lv_iconst (v := 0) hx hb dX3_tell_37 (by decide) ?_
  refine lv_istore (lv' := [(4, .int 0), (0, .ref (aP 0)), (1, .ref (aR 0)), (2, .int v2), (3, .ref (aH 0))]) hx hb dX3_tell_38 hl (by decide) rfl (fun ls hl => ?_)
  refine lv_aload_n hx hb dX3_tell_40 rfl (lv_at hl 1 rfl) ?_
  refine lv_aload_n hx hb dX3_tell_41 rfl (lv_at hl 2 rfl) ?_
  refine va_getN (D := (dC, dI)) (ci := 5) (v := .int R_made) (C := RX5) (T := TX5) (N := 10) hx hb hts i_X3_tell_X5 hown hK hw.1 2 rfl rfl 7 (by decide) (va_Nw.use rfl (hN _ nk_25)) (fun _ h9 => h9) rfl dX3_tell_42 ?_
  refine lv_iload_n hx hb dX3_tell_45 rfl (lv_at hl 3 rfl) ?_
  obtain ⟨r15, h16, hf⟩ := bd1_ob hf
  refine clSI (As := [.int R_made, .int v2]) (rest := [.ref (aP 0)]) X (c_X3_mergesOf l dC dI cI cJ cZ N R_made v2 h16) (va_cwS 2 hts gX3_tell_X3_mergesOf rfl rfl rfl (by decide +kernel) ⟨Nat.le_of_ble_eq_true rfl, Nat.le_of_ble_eq_true rfl⟩) hw [] rfl rfl rfl rfl hl.1 rfl (Nat.le_of_ble_eq_true rfl) dX3_tell_46 ⟨Nat.zero_le _, Nat.zero_le _⟩ (fun H locs hw => ?_)
  replace hw : Wd (dC, dI) A s.heap H locs (w_HRP aH aR aP cI cJ cZ e12 e13 R_members R_starts R_inOrder R_standing R_heads R_tails R_rowsInAll R_made R_all R_filled P_takenRuns P_starts P_queued P_merges P_told) := hw
  refine lv_sipush (v := 400) hx hb dX3_tell_49 (by decide) ?_
  refine va_mmin hx hb (hml.trans hl.1.symm) hown (hts _ m_X3_tell_0) (hts _ m_X3_tell_1) (hts _ m_X3_tell_2) (hts _ m_X3_tell_3) (by decide) (Nat.le_of_ble_eq_true rfl) (Nat.zero_le _) (Nat.zero_le _) dX3_tell_52 ?_
  refine lv_topi (fun x17 ex17 => ?_)
  replace hf := nl_at hf ex17
  refine g_put (D := (dC, dI)) (ci := 3) (v := .int x17) (ty := .int) (C := RX3) (T := TX3) (N := 5) hx hb hts i_X3_tell_X3 tyX3 tyX3_ok nmX3 hown hK hw 9 rfl rfl 3 (by decide) (hts _ m_X3_tell_4) (fun _ h9 => h9) rfl (by decide +kernel) rfl rfl (Nat.le_of_ble_eq_true rfl) dX3_tell_55 (fun H locs hw => ?_)
  replace hw : Wd (dC, dI) A s.heap H locs (w_HRP aH aR aP cI cJ cZ e12 e13 R_members R_starts R_inOrder R_standing R_heads R_tails R_rowsInAll R_made R_all R_filled P_takenRuns P_starts P_queued x17 P_told) := hw
  refine lv_aload_n hx hb dX3_tell_58 rfl (lv_at hl 1 rfl) ?_
  refine lv_iconst (v := 1) hx hb dX3_tell_59 (by decide) ?_
  refine g_put (D := (dC, dI)) (ci := 3) (v := .int 1) (ty := .boolean) (C := RX3) (T := TX3) (N := 5) hx hb hts i_X3_tell_X3 tyX3 tyX3_ok nmX3 hown hK hw 9 rfl rfl 4 (by decide) (hts _ m_X3_tell_5) (fun _ h9 => h9) rfl (by decide +kernel) (by decide) (by decide) (Nat.le_of_ble_eq_true rfl) dX3_tell_60 (fun H locs hw => ?_)
  replace hw : Wd (dC, dI) A s.heap H locs (w_HRP aH aR aP cI cJ cZ e12 e13 R_members R_starts R_inOrder R_standing R_heads R_tails R_rowsInAll R_made R_all R_filled P_takenRuns P_starts P_queued x17 1) := hw
  refine lv_iconst (v := 0) hx hb dX3_tell_63 (by decide) ?_
  refine lv_istore (lv' := [(5, .int 0), (4, .int 0), (0, .ref (aP 0)), (1, .ref (aR 0)), (2, .int v2), (3, .ref (aH 0))]) hx hb dX3_tell_64 hl (by decide) rfl (fun ls hl => ?_)
  obtain ⟨e34, e35, e36, e37, e38, h39, hf⟩ := bd5_ob hf
  refine t_X3_tell_66 aH aR aP X N R_members R_starts R_inOrder R_standing R_heads R_tails R_rowsInAll R_made R_all R_filled P_queued x17 1 v2 N _ _ _ _ _ _ _ _ _ _ _ h39 _ _ _ hw (lv_sub hl [2, 3, 4, 5, 1, 0] rfl) (fun H locs ls hw hl => ?_)
  refine lv_iload hx hb dX3_tell_123 (lv_at hl 0 rfl) ?_
  cases hf
  exact endI X hr rfl hlocks rfl hw dX3_tell_125
def rm_X3_movedByQueue : Room := { frames := 3, cells := 0, slots := 0, locals := 64 }
set_option maxRecDepth 20000 in
theorem i_X3_movedByQueue_X5 : ∀ w ∈ u_ws RX5 TX5 10, w ∈ wsX3_movedByQueue := by decide +kernel
set_option maxRecDepth 20000 in
theorem i_X3_movedByQueue_X3 : ∀ w ∈ u_ws RX3 TX3 5, w ∈ wsX3_movedByQueue := by decide +kernel
set_option maxRecDepth 20000 in
theorem m_X3_movedByQueue_0 : Cond.fieldLink RX3 18 "GreatSort$Plan" "queued" "[I" ∈ wsX3_movedByQueue := by decide +kernel
set_option maxRecDepth 20000 in
theorem m_X3_movedByQueue_1 : Cond.methodLink RX3 62 Lib.Math.min.name ∈ wsX3_movedByQueue := by decide +kernel
set_option maxRecDepth 20000 in
theorem m_X3_movedByQueue_2 : Cond.static Lib.Math.min.name ∈ wsX3_movedByQueue := by decide +kernel
set_option maxRecDepth 20000 in
theorem m_X3_movedByQueue_3 : Cond.initialized "java/lang/Math" ∈ wsX3_movedByQueue := by decide +kernel
set_option maxRecDepth 20000 in
theorem m_X3_movedByQueue_4 : Cond.code Lib.Math.min.name Lib.Math.min.code 2 (some .int) ∈ wsX3_movedByQueue := by decide +kernel
set_option maxHeartbeats 4000000 in
set_option maxRecDepth 100000 in
theorem t_X3_movedByQueue_2 {p : Program} {l : Launch} {e : Env} {s : State} {m : MethodId} {args : Array Value} {below : List Frame} {meth : Method} {c : Code} {Q : State → Prop} {dC : Nat → ClassId} {dI : Nat → Nat → Nat} {cI cJ cZ : ClassId} {A : Nat → Prop} (aR aP : Nat → Nat) (X : Cx p m c cX3_movedByQueue 9 s args wsX3_movedByQueue RX3 (dC, dI) (tyl cI cJ cZ) A) (N : Nat) (R_members : (Nat → Int32)) (R_starts : (Nat → Int32)) (R_inOrder : (Nat → Int32)) (R_standing : (Nat → Int32)) (R_heads : (Nat → Int32)) (R_tails : (Nat → Int32)) (R_rowsInAll : Int32) (R_made : Int32) (R_all : Int32) (R_filled : Int32) (P_takenRuns : (Nat → Int32)) (P_starts : (Nat → Int32)) (P_merges : Int32) (P_told : Int32) (v2 : Int32) :
    ∀ (n : Nat) (v3 : Int32) (P_queued : (Nat → Int32)) (e_P_queued : (Nat → Int32)), l_X3_movedByQueue_2 N R_starts R_made R_all n v3 P_queued = some e_P_queued → ∀ (H : Heap) (locs : List Loc) (ls : Array Slot), Wd (dC, dI) A s.heap H locs (w_RP aR aP cI cJ cZ R_members R_starts R_inOrder R_standing R_heads R_tails R_rowsInAll R_made R_all R_filled P_takenRuns P_starts P_queued P_merges P_told) → lv_has ls 9 [(0, .ref (aP 0)), (1, .ref (aR 0)), (2, .int v2), (3, .int v3)] → (∀ (H : Heap) (locs : List Loc) (ls : Array Slot), Wd (dC, dI) A s.heap H locs (w_RP aR aP cI cJ cZ R_members R_starts R_inOrder R_standing R_heads R_tails R_rowsInAll R_made R_all R_filled P_takenRuns P_starts e_P_queued P_merges P_told) → lv_has ls 9 [(0, .ref (aP 0)), (1, .ref (aR 0)), (2, .int v2)] → W p l e rm_X3_movedByQueue s m args below meth c H locs 0 0 Q (F0 m 27 ls [])) → W p l e rm_X3_movedByQueue s m args below meth c H locs 0 0 Q (F0 m 2 ls []) := by
  obtain ⟨hx, hb, hml, hown, hts⟩ := X.1
  have hK := X.2.1
  have hN := X.2.2.2
  intro n
  induction n with
  | zero =>
    intro _ _ _ hf
    cases hf
  | succ n ih =>
    intro v3 P_queued e_P_queued hf H locs ls hw hl kx
    rw [l_X3_movedByQueue_2] at hf
    refine lv_iload_n hx hb dX3_movedByQueue_2 rfl (lv_at hl 3 rfl) ?_
    refine lv_aload_n hx hb dX3_movedByQueue_3 rfl (lv_at hl 1 rfl) ?_
    refine va_getN (D := (dC, dI)) (ci := 5) (v := .int R_made) (C := RX5) (T := TX5) (N := 10) hx hb hts i_X3_movedByQueue_X5 hown hK hw.1 0 rfl rfl 7 (by decide) (va_Nw.use rfl (hN _ nk_25)) (fun _ h9 => h9) rfl dX3_movedByQueue_4 ?_
    refine lv_icmp_ge (tgt := 27) hx hb dX3_movedByQueue_7 (by decide) (fun b1 => ?_) (fun b1 => ?_)
    · replace hf := it_t hf b1
      cases hf
      exact kx _ _ _ hw (lv_sub hl [0, 1, 2] rfl)
    · replace hf := it_f hf b1
      refine lv_aload_n hx hb dX3_movedByQueue_10 rfl (lv_at hl 0 rfl) ?_
      refine va_get (D := (dC, dI)) (ci := 3) (v := .ref (aP 3)) (C := RX3) (T := TX3) (N := 5) hx hb hts i_X3_movedByQueue_X3 hown hK hw.1 7 rfl rfl 2 (by decide) (hts _ m_X3_movedByQueue_0) (fun _ h9 => h9) rfl dX3_movedByQueue_11 ?_
      refine lv_iload_n hx hb dX3_movedByQueue_14 rfl (lv_at hl 3 rfl) ?_
      refine lv_aload_n hx hb dX3_movedByQueue_15 rfl (lv_at hl 1 rfl) ?_
      refine lv_iload_n hx hb dX3_movedByQueue_16 rfl (lv_at hl 3 rfl) ?_
      obtain ⟨r2, h3, hf⟩ := bd1_ob hf
      refine clVI (As := [.int v3]) (rest := [.int v3, .ref (aP 3)]) X (c_X5_sizeOf l dC dI cI cJ cZ aR N R_members R_starts R_inOrder R_standing R_heads R_tails R_rowsInAll R_made R_all R_filled v3 h3) (cwV 1 hts gX3_movedByQueue_X5_sizeOf rfl rfl rfl (by decide +kernel) ⟨Nat.le_of_ble_eq_true rfl, Nat.le_of_ble_eq_true rfl⟩) (ci := 5) (k0 := 0) rfl rfl rfl hw [0, 1, 2, 3, 4, 5, 6] rfl rfl rfl rfl hl.1 rfl (Nat.le_of_ble_eq_true rfl) dX3_movedByQueue_17 ⟨Nat.zero_le _, Nat.zero_le _⟩ (fun H locs hw => ?_)
      replace hw : Wd (dC, dI) A s.heap H locs (w_RP aR aP cI cJ cZ R_members R_starts R_inOrder R_standing R_heads R_tails R_rowsInAll R_made R_all R_filled P_takenRuns P_starts P_queued P_merges P_told) := hw
      have g4 := ix_in (gd_l hf)
      replace hf := gd_r hf
      refine g_iast hx hb hK hw 10 0 rfl rfl g4 dX3_movedByQueue_20 (fun H locs hw => ?_)
      replace hw : Wd (dC, dI) A s.heap H locs (w_RP aR aP cI cJ cZ R_members R_starts R_inOrder R_standing R_heads R_tails R_rowsInAll R_made R_all R_filled P_takenRuns P_starts (upd P_queued v3.toNatClampNeg r2) P_merges P_told) := hw
      obtain ⟨x5, ex5⟩ : ∃ y : Int32, y = v3 + 1 := ⟨_, rfl⟩
      replace hf := nl_at hf ex5
      refine lv_iinc (v := x5) (lv' := [(3, .int x5), (0, .ref (aP 0)), (1, .ref (aR 0)), (2, .int v2)]) hx hb dX3_movedByQueue_21 hl (k := 3) rfl (by rw [ex5]; rfl) (by decide) rfl (fun ls hl => ?_)
      refine lv_goto (tgt := 2) hx hb dX3_movedByQueue_24 (by decide) ?_
      exact ih _ _ _ hf _ _ _ hw (lv_sub hl [1, 2, 3, 0] rfl) kx
set_option maxHeartbeats 4000000 in
set_option maxRecDepth 100000 in
theorem t_X3_movedByQueue_89 {p : Program} {l : Launch} {e : Env} {s : State} {m : MethodId} {args : Array Value} {below : List Frame} {meth : Method} {c : Code} {Q : State → Prop} {dC : Nat → ClassId} {dI : Nat → Nat → Nat} {cI cJ cZ : ClassId} {A : Nat → Prop} (aR aP : Nat → Nat) (X : Cx p m c cX3_movedByQueue 9 s args wsX3_movedByQueue RX3 (dC, dI) (tyl cI cJ cZ) A) (N : Nat) (R_members : (Nat → Int32)) (R_starts : (Nat → Int32)) (R_inOrder : (Nat → Int32)) (R_standing : (Nat → Int32)) (R_heads : (Nat → Int32)) (R_tails : (Nat → Int32)) (R_rowsInAll : Int32) (R_made : Int32) (R_all : Int32) (R_filled : Int32) (P_takenRuns : (Nat → Int32)) (P_starts : (Nat → Int32)) (P_queued : (Nat → Int32)) (P_merges : Int32) (P_told : Int32) (v2 : Int32) (v3 : Int32) (v5 : Int32) (v6 : Int32) (v8 : Int32) :
    ∀ (n : Nat) (v4 : Int32) (v7 : Int32) (e4 : Int32) (e7 : Int32), l_X3_movedByQueue_89 N P_queued v6 v8 n v4 v7 = some (e4, e7) → ∀ (H : Heap) (locs : List Loc) (ls : Array Slot), Wd (dC, dI) A s.heap H locs (w_RP aR aP cI cJ cZ R_members R_starts R_inOrder R_standing R_heads R_tails R_rowsInAll R_made R_all R_filled P_takenRuns P_starts P_queued P_merges P_told) → lv_has ls 9 [(0, .ref (aP 0)), (1, .ref (aR 0)), (2, .int v2), (3, .int v3), (4, .int v4), (5, .int v5), (6, .int v6), (7, .int v7), (8, .int v8)] → (∀ (H : Heap) (locs : List Loc) (ls : Array Slot), Wd (dC, dI) A s.heap H locs (w_RP aR aP cI cJ cZ R_members R_starts R_inOrder R_standing R_heads R_tails R_rowsInAll R_made R_all R_filled P_takenRuns P_starts P_queued P_merges P_told) → lv_has ls 9 [(0, .ref (aP 0)), (1, .ref (aR 0)), (2, .int v2), (3, .int v3), (4, .int e4), (5, .int v5), (6, .int v6), (7, .int e7)] → W p l e rm_X3_movedByQueue s m args below meth c H locs 0 0 Q (F0 m 121 ls [])) → W p l e rm_X3_movedByQueue s m args below meth c H locs 0 0 Q (F0 m 89 ls []) := by
  obtain ⟨hx, hb, hml, hown, hts⟩ := X.1
  have hK := X.2.1
  have hN := X.2.2.2
  intro n
  induction n with
  | zero =>
    intro _ _ _ _ hf
    cases hf
  | succ n ih =>
    intro v4 v7 e4 e7 hf H locs ls hw hl kx
    rw [l_X3_movedByQueue_89] at hf
    refine lv_iload hx hb dX3_movedByQueue_89 (lv_at hl 4 rfl) ?_
    refine lv_iload hx hb dX3_movedByQueue_91 (lv_at hl 8 rfl) ?_
    refine lv_icmp_ge (tgt := 121) hx hb dX3_movedByQueue_93 (by decide) (fun b15 => ?_) (fun b15 => ?_)
    · replace hf := it_t hf b15
      cases hf
      exact kx _ _ _ hw (lv_sub hl [0, 1, 2, 3, 4, 5, 6, 7] rfl)
    · replace hf := it_f hf b15
      refine lv_iload hx hb dX3_movedByQueue_96 (lv_at hl 4 rfl) ?_
      refine lv_iload hx hb dX3_movedByQueue_98 (lv_at hl 6 rfl) ?_
      refine lv_icmp_ge (tgt := 121) hx hb dX3_movedByQueue_100 (by decide) (fun b16 => ?_) (fun b16 => ?_)
      · replace hf := it_t hf b16
        cases hf
        exact kx _ _ _ hw (lv_sub hl [0, 1, 2, 3, 4, 5, 6, 7] rfl)
      · replace hf := it_f hf b16
        refine lv_iload hx hb dX3_movedByQueue_103 (lv_at hl 7 rfl) ?_
        refine lv_aload_n hx hb dX3_movedByQueue_105 rfl (lv_at hl 0 rfl) ?_
        refine va_get (D := (dC, dI)) (ci := 3) (v := .ref (aP 3)) (C := RX3) (T := TX3) (N := 5) hx hb hts i_X3_movedByQueue_X3 hown hK hw.1 7 rfl rfl 2 (by decide) (hts _ m_X3_movedByQueue_0) (fun _ h9 => h9) rfl dX3_movedByQueue_106 ?_
        refine lv_iload hx hb dX3_movedByQueue_109 (lv_at hl 4 rfl) ?_
        have g17 := ix_in (gd_l hf)
        replace hf := gd_r hf
        refine va_iald hx hb hK hw.1 10 0 rfl rfl g17 dX3_movedByQueue_111 ?_
        refine lv_iadd hx hb dX3_movedByQueue_112 ?_
        refine lv_topi (fun x18 ex18 => ?_)
        replace hf := nl_at hf ex18
        refine lv_istore (lv' := [(7, .int x18), (0, .ref (aP 0)), (1, .ref (aR 0)), (2, .int v2), (3, .int v3), (4, .int v4), (5, .int v5), (6, .int v6), (8, .int v8)]) hx hb dX3_movedByQueue_113 hl (by decide) rfl (fun ls hl => ?_)
        obtain ⟨x19, ex19⟩ : ∃ y : Int32, y = v4 + 1 := ⟨_, rfl⟩
        replace hf := nl_at hf ex19
        refine lv_iinc (v := x19) (lv' := [(4, .int x19), (7, .int x18), (0, .ref (aP 0)), (1, .ref (aR 0)), (2, .int v2), (3, .int v3), (5, .int v5), (6, .int v6), (8, .int v8)]) hx hb dX3_movedByQueue_115 hl (k := 5) rfl (by rw [ex19]; rfl) (by decide) rfl (fun ls hl => ?_)
        refine lv_goto (tgt := 89) hx hb dX3_movedByQueue_118 (by decide) ?_
        exact ih _ _ _ _ hf _ _ _ hw (lv_sub hl [2, 3, 4, 5, 0, 6, 7, 1, 8] rfl) kx
set_option maxHeartbeats 4000000 in
set_option maxRecDepth 100000 in
theorem t_X3_movedByQueue_59 {p : Program} {l : Launch} {e : Env} {s : State} {m : MethodId} {args : Array Value} {below : List Frame} {meth : Method} {c : Code} {Q : State → Prop} {dC : Nat → ClassId} {dI : Nat → Nat → Nat} {cI cJ cZ : ClassId} {A : Nat → Prop} (aR aP : Nat → Nat) (X : Cx p m c cX3_movedByQueue 9 s args wsX3_movedByQueue RX3 (dC, dI) (tyl cI cJ cZ) A) (N : Nat) (R_members : (Nat → Int32)) (R_starts : (Nat → Int32)) (R_inOrder : (Nat → Int32)) (R_standing : (Nat → Int32)) (R_heads : (Nat → Int32)) (R_tails : (Nat → Int32)) (R_rowsInAll : Int32) (R_made : Int32) (R_all : Int32) (R_filled : Int32) (P_takenRuns : (Nat → Int32)) (P_starts : (Nat → Int32)) (P_merges : Int32) (P_told : Int32) (v2 : Int32) (v5 : Int32) :
    ∀ (n : Nat) (v3 : Int32) (v4 : Int32) (v6 : Int32) (P_queued : (Nat → Int32)) (e3 : Int32) (e_P_queued : (Nat → Int32)), l_X3_movedByQueue_59 N R_made v2 v5 n v3 v4 v6 P_queued = some (e3, e_P_queued) → ∀ (H : Heap) (locs : List Loc) (ls : Array Slot), Wd (dC, dI) A s.heap H locs (w_RP aR aP cI cJ cZ R_members R_starts R_inOrder R_standing R_heads R_tails R_rowsInAll R_made R_all R_filled P_takenRuns P_starts P_queued P_merges P_told) → lv_has ls 9 [(0, .ref (aP 0)), (1, .ref (aR 0)), (2, .int v2), (3, .int v3), (4, .int v4), (5, .int v5), (6, .int v6)] → (∀ (H : Heap) (locs : List Loc) (ls : Array Slot), Wd (dC, dI) A s.heap H locs (w_RP aR aP cI cJ cZ R_members R_starts R_inOrder R_standing R_heads R_tails R_rowsInAll R_made R_all R_filled P_takenRuns P_starts e_P_queued P_merges P_told) → lv_has ls 9 [(3, .int e3)] → W p l e rm_X3_movedByQueue s m args below meth c H locs 0 0 Q (F0 m 141 ls [])) → W p l e rm_X3_movedByQueue s m args below meth c H locs 0 0 Q (F0 m 59 ls []) := by
  obtain ⟨hx, hb, hml, hown, hts⟩ := X.1
  have hK := X.2.1
  have hN := X.2.2.2
  intro n
  induction n with
  | zero =>
    intro _ _ _ _ _ _ hf
    cases hf
  | succ n ih =>
    intro v3 v4 v6 P_queued e3 e_P_queued hf H locs ls hw hl kx
    rw [l_X3_movedByQueue_59] at hf
    refine lv_iload hx hb dX3_movedByQueue_59 (lv_at hl 6 rfl) ?_
    refine lv_iload hx hb dX3_movedByQueue_61 (lv_at hl 5 rfl) ?_
    refine lv_icmp_ge (tgt := 141) hx hb dX3_movedByQueue_63 (by decide) (fun b11 => ?_) (fun b11 => ?_)
    · replace hf := it_t hf b11
      cases hf
      exact kx _ _ _ hw (lv_sub hl [3] rfl)
    · replace hf := it_f hf b11
      refine lv_iconst (v := 0) hx hb dX3_movedByQueue_66 (by decide) ?_
      refine lv_istore (lv' := [(7, .int 0), (0, .ref (aP 0)), (1, .ref (aR 0)), (2, .int v2), (3, .int v3), (4, .int v4), (5, .int v5), (6, .int v6)]) hx hb dX3_movedByQueue_67 hl (by decide) rfl (fun ls hl => ?_)
      refine lv_iload hx hb dX3_movedByQueue_69 (lv_at hl 5 rfl) ?_
      refine lv_iload hx hb dX3_movedByQueue_71 (lv_at hl 7 rfl) ?_
      refine lv_aload_n hx hb dX3_movedByQueue_73 rfl (lv_at hl 2 rfl) ?_
      refine va_getN (D := (dC, dI)) (ci := 5) (v := .int R_made) (C := RX5) (T := TX5) (N := 10) hx hb hts i_X3_movedByQueue_X5 hown hK hw.1 0 rfl rfl 7 (by decide) (va_Nw.use rfl (hN _ nk_25)) (fun _ h9 => h9) rfl dX3_movedByQueue_74 ?_
      refine lv_isub hx hb dX3_movedByQueue_77 ?_
      refine lv_aload_n hx hb dX3_movedByQueue_78 rfl (lv_at hl 2 rfl) ?_
      refine va_getN (D := (dC, dI)) (ci := 5) (v := .int R_made) (C := RX5) (T := TX5) (N := 10) hx hb hts i_X3_movedByQueue_X5 hown hK hw.1 0 rfl rfl 7 (by decide) (va_Nw.use rfl (hN _ nk_25)) (fun _ h9 => h9) rfl dX3_movedByQueue_79 ?_
      refine lv_iload_n hx hb dX3_movedByQueue_82 rfl (lv_at hl 3 rfl) ?_
      obtain ⟨r12, h13, hf⟩ := bd1_ob hf
      refine clSI (As := [.int (v6 - R_made), .int R_made, .int v2]) (rest := [.int v4]) X (c_X3_waysOf l dC dI cI cJ cZ N (v6 - R_made) R_made v2 h13) (va_cwS 3 hts gX3_movedByQueue_X3_waysOf rfl rfl rfl (by decide +kernel) ⟨Nat.le_of_ble_eq_true rfl, Nat.le_of_ble_eq_true rfl⟩) hw [] rfl rfl rfl rfl hl.1 rfl (Nat.le_of_ble_eq_true rfl) dX3_movedByQueue_83 ⟨Nat.zero_le _, Nat.zero_le _⟩ (fun H locs hw => ?_)
      replace hw : Wd (dC, dI) A s.heap H locs (w_RP aR aP cI cJ cZ R_members R_starts R_inOrder R_standing R_heads R_tails R_rowsInAll R_made R_all R_filled P_takenRuns P_starts P_queued P_merges P_told) := hw
      refine lv_iadd hx hb dX3_movedByQueue_86 ?_
      refine lv_topi (fun x14 ex14 => ?_)
      replace hf := nl_at hf ex14
      refine lv_istore (lv' := [(8, .int x14), (7, .int 0), (0, .ref (aP 0)), (1, .ref (aR 0)), (2, .int v2), (3, .int v3), (4, .int v4), (5, .int v5), (6, .int v6)]) hx hb dX3_movedByQueue_87 hl (by decide) rfl (fun ls hl => ?_)
      obtain ⟨e20, e21, h22, hf⟩ := bd2_ob hf
      refine t_X3_movedByQueue_89 aR aP X N R_members R_starts R_inOrder R_standing R_heads R_tails R_rowsInAll R_made R_all R_filled P_takenRuns P_starts P_queued P_merges P_told v2 v3 v5 v6 x14 N _ _ _ _ h22 _ _ _ hw (lv_sub hl [2, 3, 4, 5, 6, 7, 8, 1, 0] rfl) (fun H locs ls hw hl => ?_)
      refine lv_aload_n hx hb dX3_movedByQueue_121 rfl (lv_at hl 0 rfl) ?_
      refine va_get (D := (dC, dI)) (ci := 3) (v := .ref (aP 3)) (C := RX3) (T := TX3) (N := 5) hx hb hts i_X3_movedByQueue_X3 hown hK hw.1 7 rfl rfl 2 (by decide) (hts _ m_X3_movedByQueue_0) (fun _ h9 => h9) rfl dX3_movedByQueue_122 ?_
      refine lv_iload hx hb dX3_movedByQueue_125 (lv_at hl 6 rfl) ?_
      refine lv_iload hx hb dX3_movedByQueue_127 (lv_at hl 7 rfl) ?_
      have g23 := ix_in (gd_l hf)
      replace hf := gd_r hf
      refine g_iast hx hb hK hw 10 0 rfl rfl g23 dX3_movedByQueue_129 (fun H locs hw => ?_)
      replace hw : Wd (dC, dI) A s.heap H locs (w_RP aR aP cI cJ cZ R_members R_starts R_inOrder R_standing R_heads R_tails R_rowsInAll R_made R_all R_filled P_takenRuns P_starts (upd P_queued v6.toNatClampNeg e21) P_merges P_told) := hw
      refine lv_iload_n hx hb dX3_movedByQueue_130 rfl (lv_at hl 3 rfl) ?_
      refine lv_iload hx hb dX3_movedByQueue_131 (lv_at hl 7 rfl) ?_
      refine lv_iadd hx hb dX3_movedByQueue_133 ?_
      refine lv_topi (fun x24 ex24 => ?_)
      replace hf := nl_at hf ex24
      refine lv_istore_n (lv' := [(3, .int x24), (0, .ref (aP 0)), (1, .ref (aR 0)), (2, .int v2), (4, .int e20), (5, .int v5), (6, .int v6), (7, .int e21)]) hx hb dX3_movedByQueue_134 rfl hl (by decide) rfl (fun ls hl => ?_)
      obtain ⟨x25, ex25⟩ : ∃ y : Int32, y = v6 + 1 := ⟨_, rfl⟩
      replace hf := nl_at hf ex25
      refine lv_iinc (v := x25) (lv' := [(6, .int x25), (3, .int x24), (0, .ref (aP 0)), (1, .ref (aR 0)), (2, .int v2), (4, .int e20), (5, .int v5), (7, .int e21)]) hx hb dX3_movedByQueue_135 hl (k := 6) rfl (by rw [ex25]; rfl) (by decide) rfl (fun ls hl => ?_)
      refine lv_goto (tgt := 59) hx hb dX3_movedByQueue_138 (by decide) ?_
      exact ih _ _ _ _ _ _ hf _ _ _ hw (lv_sub hl [2, 3, 4, 1, 5, 6, 0] rfl) kx
set_option maxHeartbeats 4000000 in
set_option maxRecDepth 100000 in
theorem c_X3_movedByQueue (l : Launch) (dC : Nat → ClassId) (dI : Nat → Nat → Nat) (cI cJ cZ : ClassId) (aR aP : Nat → Nat) (N : Nat) (R_members : (Nat → Int32)) (R_starts : (Nat → Int32)) (R_inOrder : (Nat → Int32)) (R_standing : (Nat → Int32)) (R_heads : (Nat → Int32)) (R_tails : (Nat → Int32)) (R_rowsInAll : Int32) (R_made : Int32) (R_all : Int32) (R_filled : Int32) (P_takenRuns : (Nat → Int32)) (P_starts : (Nat → Int32)) (P_queued : (Nat → Int32)) (P_merges : Int32) (P_told : Int32) (v2 : Int32) {r : Int32} {o_P_queued : (Nat → Int32)} (hf : f_X3_movedByQueue N R_starts R_made R_all P_queued v2 = some (r, o_P_queued)) :
    CtI l yX3_movedByQueue wsX3_movedByQueue rm_X3_movedByQueue (dC, dI) (tyl cI cJ cZ) [.ref (aP 0), .ref (aR 0), .int v2] (w_RP aR aP cI cJ cZ R_members R_starts R_inOrder R_standing R_heads R_tails R_rowsInAll R_made R_all R_filled P_takenRuns P_starts P_queued P_merges P_told) (w_RP aR aP cI cJ cZ R_members R_starts R_inOrder R_standing R_heads R_tails R_rowsInAll R_made R_all R_filled P_takenRuns P_starts o_P_queued P_merges P_told) r := by
  refine startI (cc := cX3_movedByQueue) (maxL := 9) (rt := (some .int)) (by decide +kernel) rfl (Nat.le_of_ble_eq_true rfl) ?_
  intro p e s m below meth c A ls X hr hlocks hw hl
  replace X : Cx p m c cX3_movedByQueue 9 s _ wsX3_movedByQueue RX3 (dC, dI) (tyl cI cJ cZ) A := X
  replace hl : lv_has ls 9 [(0, .ref (aP 0)), (1, .ref (aR 0)), (2, .int v2)] := hl
  obtain ⟨hx, hb, hml, hown, hts⟩ := X.1
  have hK := X.2.1
  have hN := X.2.2.2
  unfold f_X3_movedByQueue at hf
  refine lv_iconst (v := 0) hx hb dX3_movedByQueue_0 (by decide) ?_
  refine lv_istore_n (lv' := [(3, .int 0), (0, .ref (aP 0)), (1, .ref (aR 0)), (2, .int v2)]) hx hb dX3_movedByQueue_1 rfl hl (by decide) rfl (fun ls hl => ?_)
  obtain ⟨e6, h7, hf⟩ := bd1_ob hf
  refine t_X3_movedByQueue_2 aR aP X N R_members R_starts R_inOrder R_standing R_heads R_tails R_rowsInAll R_made R_all R_filled P_takenRuns P_starts P_merges P_told v2 N _ _ _ h7 _ _ _ hw (lv_sub hl [1, 2, 3, 0] rfl) (fun H locs ls hw hl => ?_)
  refine lv_iconst (v := 0) hx hb dX3_movedByQueue_27 (by decide) ?_
  refine lv_istore_n (lv' := [(3, .int 0), (0, .ref (aP 0)), (1, .ref (aR 0)), (2, .int v2)]) hx hb dX3_movedByQueue_28 rfl hl (by decide) rfl (fun ls hl => ?_)
  refine lv_iconst (v := 0) hx hb dX3_movedByQueue_29 (by decide) ?_
  refine lv_istore (lv' := [(4, .int 0), (3, .int 0), (0, .ref (aP 0)), (1, .ref (aR 0)), (2, .int v2)]) hx hb dX3_movedByQueue_30 hl (by decide) rfl (fun ls hl => ?_)
  refine lv_aload_n hx hb dX3_movedByQueue_32 rfl (lv_at hl 3 rfl) ?_
  refine va_getN (D := (dC, dI)) (ci := 5) (v := .int R_made) (C := RX5) (T := TX5) (N := 10) hx hb hts i_X3_movedByQueue_X5 hown hK hw.1 0 rfl rfl 7 (by decide) (va_Nw.use rfl (hN _ nk_25)) (fun _ h9 => h9) rfl dX3_movedByQueue_33 ?_
  refine lv_aload_n hx hb dX3_movedByQueue_36 rfl (lv_at hl 3 rfl) ?_
  refine va_getN (D := (dC, dI)) (ci := 5) (v := .int R_made) (C := RX5) (T := TX5) (N := 10) hx hb hts i_X3_movedByQueue_X5 hown hK hw.1 0 rfl rfl 7 (by decide) (va_Nw.use rfl (hN _ nk_25)) (fun _ h9 => h9) rfl dX3_movedByQueue_37 ?_
  refine lv_iload_n hx hb dX3_movedByQueue_40 rfl (lv_at hl 4 rfl) ?_
  obtain ⟨r8, h9, hf⟩ := bd1_ob hf
  refine clSI (As := [.int R_made, .int v2]) (rest := [.int R_made]) X (c_X3_mergesOf l dC dI cI cJ cZ N R_made v2 h9) (va_cwS 2 hts gX3_movedByQueue_X3_mergesOf rfl rfl rfl (by decide +kernel) ⟨Nat.le_of_ble_eq_true rfl, Nat.le_of_ble_eq_true rfl⟩) hw [] rfl rfl rfl rfl hl.1 rfl (Nat.le_of_ble_eq_true rfl) dX3_movedByQueue_41 ⟨Nat.zero_le _, Nat.zero_le _⟩ (fun H locs hw => ?_)
  replace hw : Wd (dC, dI) A s.heap H locs (w_RP aR aP cI cJ cZ R_members R_starts R_inOrder R_standing R_heads R_tails R_rowsInAll R_made R_all R_filled P_takenRuns P_starts e6 P_merges P_told) := hw
  refine lv_iadd hx hb dX3_movedByQueue_44 ?_
  refine lv_sipush (v := 799) hx hb dX3_movedByQueue_45 (by decide) ?_
  refine va_mmin hx hb (hml.trans hl.1.symm) hown (hts _ m_X3_movedByQueue_1) (hts _ m_X3_movedByQueue_2) (hts _ m_X3_movedByQueue_3) (hts _ m_X3_movedByQueue_4) (by decide) (Nat.le_of_ble_eq_true rfl) (Nat.zero_le _) (Nat.zero_le _) dX3_movedByQueue_48 ?_
  refine lv_topi (fun x10 ex10 => ?_)
  replace hf := nl_at hf ex10
  refine lv_istore (lv' := [(5, .int x10), (4, .int 0), (3, .int 0), (0, .ref (aP 0)), (1, .ref (aR 0)), (2, .int v2)]) hx hb dX3_movedByQueue_51 hl (by decide) rfl (fun ls hl => ?_)
  refine lv_aload_n hx hb dX3_movedByQueue_53 rfl (lv_at hl 4 rfl) ?_
  refine va_getN (D := (dC, dI)) (ci := 5) (v := .int R_made) (C := RX5) (T := TX5) (N := 10) hx hb hts i_X3_movedByQueue_X5 hown hK hw.1 0 rfl rfl 7 (by decide) (va_Nw.use rfl (hN _ nk_25)) (fun _ h9 => h9) rfl dX3_movedByQueue_54 ?_
  refine lv_istore (lv' := [(6, .int R_made), (5, .int x10), (4, .int 0), (3, .int 0), (0, .ref (aP 0)), (1, .ref (aR 0)), (2, .int v2)]) hx hb dX3_movedByQueue_57 hl (by decide) rfl (fun ls hl => ?_)
  obtain ⟨e26, e27, h28, hf⟩ := bd2_ob hf
  refine t_X3_movedByQueue_59 aR aP X N R_members R_starts R_inOrder R_standing R_heads R_tails R_rowsInAll R_made R_all R_filled P_takenRuns P_starts P_merges P_told v2 x10 N _ _ _ _ _ _ h28 _ _ _ hw (lv_sub hl [4, 5, 6, 3, 2, 1, 0] rfl) (fun H locs ls hw hl => ?_)
  refine lv_iload_n hx hb dX3_movedByQueue_141 rfl (lv_at hl 0 rfl) ?_
  cases hf
  exact endI X hr rfl hlocks rfl hw dX3_movedByQueue_142
def rm_X3_waysIn : Room := { frames := 1, cells := 0, slots := 0, locals := 22 }
set_option maxRecDepth 20000 in
theorem i_X3_waysIn_X3 : ∀ w ∈ u_ws RX3 TX3 5, w ∈ wsX3_waysIn := by decide +kernel
set_option maxRecDepth 20000 in
theorem m_X3_waysIn_0 : Cond.fieldLink RX3 21 "GreatSort$Plan" "merges" "I" ∈ wsX3_waysIn := by decide +kernel
set_option maxRecDepth 20000 in
theorem m_X3_waysIn_1 : Cond.initialized RX6 ∈ wsX3_waysIn := by decide +kernel
set_option maxRecDepth 20000 in
theorem m_X3_waysIn_2 : Cond.static yX6_isIn ∈ wsX3_waysIn := by decide +kernel
set_option maxRecDepth 20000 in
theorem m_X3_waysIn_3 : Cond.fieldLink RX3 15 "GreatSort$Plan" "starts" "[I" ∈ wsX3_waysIn := by decide +kernel
set_option maxHeartbeats 4000000 in
set_option maxRecDepth 100000 in
theorem c_X3_waysIn (l : Launch) (dC : Nat → ClassId) (dI : Nat → Nat → Nat) (cI cJ cZ : ClassId) (aP : Nat → Nat) (N : Nat) (P_takenRuns : (Nat → Int32)) (P_starts : (Nat → Int32)) (P_queued : (Nat → Int32)) (P_merges : Int32) (P_told : Int32) (v1 : Int32) {r : Int32} (hf : f_X3_waysIn N P_starts P_merges v1 = some r) :
    CtI l yX3_waysIn wsX3_waysIn rm_X3_waysIn (dC, dI) (tyl cI cJ cZ) [.ref (aP 0), .int v1] (w_P aP cI cJ cZ P_takenRuns P_starts P_queued P_merges P_told) (w_P aP cI cJ cZ P_takenRuns P_starts P_queued P_merges P_told) r := by
  refine startI (cc := cX3_waysIn) (maxL := 2) (rt := (some .int)) (by decide +kernel) rfl (Nat.le_of_ble_eq_true rfl) ?_
  intro p e s m below meth c A ls X hr hlocks hw hl
  replace X : Cx p m c cX3_waysIn 2 s _ wsX3_waysIn RX3 (dC, dI) (tyl cI cJ cZ) A := X
  replace hl : lv_has ls 2 [(0, .ref (aP 0)), (1, .int v1)] := hl
  obtain ⟨hx, hb, hml, hown, hts⟩ := X.1
  have hK := X.2.1
  have hN := X.2.2.2
  unfold f_X3_waysIn at hf
  refine lv_iload_n hx hb dX3_waysIn_0 rfl (lv_at hl 1 rfl) ?_
  refine lv_iconst (v := 0) hx hb dX3_waysIn_1 (by decide) ?_
  refine lv_aload_n hx hb dX3_waysIn_2 rfl (lv_at hl 0 rfl) ?_
  refine va_get (D := (dC, dI)) (ci := 3) (v := .int P_merges) (C := RX3) (T := TX3) (N := 5) hx hb hts i_X3_waysIn_X3 hown hK hw.1 0 rfl rfl 3 (by decide) (hts _ m_X3_waysIn_0) (fun _ h9 => h9) rfl dX3_waysIn_3 ?_
  refine lv_iconst (v := 1) hx hb dX3_waysIn_6 (by decide) ?_
  refine lv_isub hx hb dX3_waysIn_7 ?_
  obtain ⟨r1, h2, hf⟩ := bd1_ob hf
  refine clSNI (As := [.int v1, .int (0 : Int32), .int (P_merges - 1)]) (rest := []) X (c_X6_isIn l dC dI cI cJ cZ N v1 (0 : Int32) (P_merges - 1) h2) (⟨va_cnB 3 hts gX3_waysIn_X6_isIn_n29 rfl rfl rfl (hN _ nk_33) (hts _ m_X3_waysIn_1) (by decide +kernel) ⟨Nat.le_of_ble_eq_true rfl, Nat.le_of_ble_eq_true rfl⟩, hts _ m_X3_waysIn_2, trivial⟩) hw [] rfl rfl rfl rfl hl.1 rfl (Nat.le_of_ble_eq_true rfl) dX3_waysIn_8 ⟨Nat.zero_le _, Nat.zero_le _⟩ (fun H locs hw => ?_)
  replace hw : Wd (dC, dI) A s.heap H locs (w_P aP cI cJ cZ P_takenRuns P_starts P_queued P_merges P_told) := hw
  refine lv_if_eq (tgt := 32) hx hb dX3_waysIn_11 (by decide) (fun b3 => ?_) (fun b3 => ?_)
  · replace hf := it_t hf b3
    refine lv_iconst (v := 0) hx hb dX3_waysIn_32 (by decide) ?_
    cases hf
    exact endI X hr rfl hlocks rfl hw dX3_waysIn_33
  · replace hf := it_f hf b3
    refine lv_aload_n hx hb dX3_waysIn_14 rfl (lv_at hl 0 rfl) ?_
    refine va_get (D := (dC, dI)) (ci := 3) (v := .ref (aP 2)) (C := RX3) (T := TX3) (N := 5) hx hb hts i_X3_waysIn_X3 hown hK hw.1 0 rfl rfl 1 (by decide) (hts _ m_X3_waysIn_3) (fun _ h9 => h9) rfl dX3_waysIn_15 ?_
    refine lv_iload_n hx hb dX3_waysIn_18 rfl (lv_at hl 1 rfl) ?_
    refine lv_iconst (v := 1) hx hb dX3_waysIn_19 (by decide) ?_
    refine lv_iadd hx hb dX3_waysIn_20 ?_
    have g4 := ix_in (gd_l hf)
    replace hf := gd_r hf
    refine va_iald hx hb hK hw.1 2 0 rfl rfl g4 dX3_waysIn_21 ?_
    refine lv_aload_n hx hb dX3_waysIn_22 rfl (lv_at hl 0 rfl) ?_
    refine va_get (D := (dC, dI)) (ci := 3) (v := .ref (aP 2)) (C := RX3) (T := TX3) (N := 5) hx hb hts i_X3_waysIn_X3 hown hK hw.1 0 rfl rfl 1 (by decide) (hts _ m_X3_waysIn_3) (fun _ h9 => h9) rfl dX3_waysIn_23 ?_
    refine lv_iload_n hx hb dX3_waysIn_26 rfl (lv_at hl 1 rfl) ?_
    have g5 := ix_in (gd_l hf)
    replace hf := gd_r hf
    refine va_iald hx hb hK hw.1 2 0 rfl rfl g5 dX3_waysIn_27 ?_
    refine lv_isub hx hb dX3_waysIn_28 ?_
    refine lv_goto (tgt := 33) hx hb dX3_waysIn_29 (by decide) ?_
    cases hf
    exact endI X hr rfl hlocks rfl hw dX3_waysIn_33
def rm_X3_taken : Room := { frames := 2, cells := 0, slots := 0, locals := 43 }
set_option maxRecDepth 20000 in
theorem i_X3_taken_X3 : ∀ w ∈ u_ws RX3 TX3 5, w ∈ wsX3_taken := by decide +kernel
set_option maxRecDepth 20000 in
theorem m_X3_taken_0 : Cond.initialized RX6 ∈ wsX3_taken := by decide +kernel
set_option maxRecDepth 20000 in
theorem m_X3_taken_1 : Cond.static yX6_isIn ∈ wsX3_taken := by decide +kernel
set_option maxRecDepth 20000 in
theorem m_X3_taken_2 : Cond.fieldLink RX3 9 "GreatSort$Plan" "takenRuns" "[I" ∈ wsX3_taken := by decide +kernel
set_option maxRecDepth 20000 in
theorem m_X3_taken_3 : Cond.fieldLink RX3 15 "GreatSort$Plan" "starts" "[I" ∈ wsX3_taken := by decide +kernel
set_option maxHeartbeats 4000000 in
set_option maxRecDepth 100000 in
theorem c_X3_taken (l : Launch) (dC : Nat → ClassId) (dI : Nat → Nat → Nat) (cI cJ cZ : ClassId) (aP : Nat → Nat) (N : Nat) (P_takenRuns : (Nat → Int32)) (P_starts : (Nat → Int32)) (P_queued : (Nat → Int32)) (P_merges : Int32) (P_told : Int32) (v1 : Int32) (v2 : Int32) {r : Int32} (hf : f_X3_taken N P_takenRuns P_starts P_merges v1 v2 = some r) :
    CtI l yX3_taken wsX3_taken rm_X3_taken (dC, dI) (tyl cI cJ cZ) [.ref (aP 0), .int v1, .int v2] (w_P aP cI cJ cZ P_takenRuns P_starts P_queued P_merges P_told) (w_P aP cI cJ cZ P_takenRuns P_starts P_queued P_merges P_told) r := by
  refine startI (cc := cX3_taken) (maxL := 3) (rt := (some .int)) (by decide +kernel) rfl (Nat.le_of_ble_eq_true rfl) ?_
  intro p e s m below meth c A ls X hr hlocks hw hl
  replace X : Cx p m c cX3_taken 3 s _ wsX3_taken RX3 (dC, dI) (tyl cI cJ cZ) A := X
  replace hl : lv_has ls 3 [(0, .ref (aP 0)), (1, .int v1), (2, .int v2)] := hl
  obtain ⟨hx, hb, hml, hown, hts⟩ := X.1
  have hK := X.2.1
  have hN := X.2.2.2
  unfold f_X3_taken at hf
  refine lv_iload_n hx hb dX3_taken_0 rfl (lv_at hl 2 rfl) ?_
  refine lv_iconst (v := 0) hx hb dX3_taken_1 (by decide) ?_
  refine lv_aload_n hx hb dX3_taken_2 rfl (lv_at hl 0 rfl) ?_
  refine lv_iload_n hx hb dX3_taken_3 rfl (lv_at hl 1 rfl) ?_
  obtain ⟨r1, h2, hf⟩ := bd1_ob hf
  refine clFI (As := [.int v1]) (rest := [.int 0, .int v2]) X (c_X3_waysIn l dC dI cI cJ cZ aP N P_takenRuns P_starts P_queued P_merges P_told v1 h2) (cwV 1 hts gX3_taken_X3_waysIn rfl rfl rfl (by decide +kernel) ⟨Nat.le_of_ble_eq_true rfl, Nat.le_of_ble_eq_true rfl⟩) (ci := 3) (k0 := 0) rfl rfl rfl hw rfl rfl hl.1 rfl (Nat.le_of_ble_eq_true rfl) dX3_taken_4 ⟨Nat.zero_le _, Nat.zero_le _⟩ (fun H locs hw => ?_)
  refine lv_iconst (v := 1) hx hb dX3_taken_7 (by decide) ?_
  refine lv_isub hx hb dX3_taken_8 ?_
  obtain ⟨r3, h4, hf⟩ := bd1_ob hf
  refine clSNI (As := [.int v2, .int (0 : Int32), .int (r1 - 1)]) (rest := []) X (c_X6_isIn l dC dI cI cJ cZ N v2 (0 : Int32) (r1 - 1) h4) (⟨va_cnB 3 hts gX3_taken_X6_isIn_n29 rfl rfl rfl (hN _ nk_33) (hts _ m_X3_taken_0) (by decide +kernel) ⟨Nat.le_of_ble_eq_true rfl, Nat.le_of_ble_eq_true rfl⟩, hts _ m_X3_taken_1, trivial⟩) hw [] rfl rfl rfl rfl hl.1 rfl (Nat.le_of_ble_eq_true rfl) dX3_taken_9 ⟨Nat.zero_le _, Nat.zero_le _⟩ (fun H locs hw => ?_)
  replace hw : Wd (dC, dI) A s.heap H locs (w_P aP cI cJ cZ P_takenRuns P_starts P_queued P_merges P_told) := hw
  refine lv_if_eq (tgt := 31) hx hb dX3_taken_12 (by decide) (fun b5 => ?_) (fun b5 => ?_)
  · replace hf := it_t hf b5
    refine lv_iconst (v := (-1)) hx hb dX3_taken_31 (by decide) ?_
    cases hf
    exact endI X hr rfl hlocks rfl hw dX3_taken_32
  · replace hf := it_f hf b5
    refine lv_aload_n hx hb dX3_taken_15 rfl (lv_at hl 0 rfl) ?_
    refine va_get (D := (dC, dI)) (ci := 3) (v := .ref (aP 1)) (C := RX3) (T := TX3) (N := 5) hx hb hts i_X3_taken_X3 hown hK hw.1 0 rfl rfl 0 (by decide) (hts _ m_X3_taken_2) (fun _ h9 => h9) rfl dX3_taken_16 ?_
    refine lv_aload_n hx hb dX3_taken_19 rfl (lv_at hl 0 rfl) ?_
    refine va_get (D := (dC, dI)) (ci := 3) (v := .ref (aP 2)) (C := RX3) (T := TX3) (N := 5) hx hb hts i_X3_taken_X3 hown hK hw.1 0 rfl rfl 1 (by decide) (hts _ m_X3_taken_3) (fun _ h9 => h9) rfl dX3_taken_20 ?_
    refine lv_iload_n hx hb dX3_taken_23 rfl (lv_at hl 1 rfl) ?_
    have g6 := ix_in (gd_l hf)
    replace hf := gd_r hf
    refine va_iald hx hb hK hw.1 2 0 rfl rfl g6 dX3_taken_24 ?_
    refine lv_iload_n hx hb dX3_taken_25 rfl (lv_at hl 2 rfl) ?_
    refine lv_iadd hx hb dX3_taken_26 ?_
    have g7 := ix_in (gd_l hf)
    replace hf := gd_r hf
    refine va_iald hx hb hK hw.1 1 0 rfl rfl g7 dX3_taken_27 ?_
    refine lv_goto (tgt := 32) hx hb dX3_taken_28 (by decide) ?_
    cases hf
    exact endI X hr rfl hlocks rfl hw dX3_taken_32
def rm_X5_standingOf : Room := { frames := 1, cells := 0, slots := 0, locals := 22 }
set_option maxRecDepth 20000 in
theorem i_X5_standingOf_X5 : ∀ w ∈ u_ws RX5 TX5 10, w ∈ wsX5_standingOf := by decide +kernel
set_option maxRecDepth 20000 in
theorem m_X5_standingOf_0 : Cond.fieldLink RX5 30 "GreatSort$Runs" "rowsInAll" "I" ∈ wsX5_standingOf := by decide +kernel
set_option maxRecDepth 20000 in
theorem m_X5_standingOf_1 : Cond.initialized RX6 ∈ wsX5_standingOf := by decide +kernel
set_option maxRecDepth 20000 in
theorem m_X5_standingOf_2 : Cond.static yX6_isIn ∈ wsX5_standingOf := by decide +kernel
set_option maxRecDepth 20000 in
theorem m_X5_standingOf_3 : Cond.fieldLink RX5 21 "GreatSort$Runs" "standing" "[I" ∈ wsX5_standingOf := by decide +kernel
set_option maxHeartbeats 4000000 in
set_option maxRecDepth 100000 in
theorem c_X5_standingOf (l : Launch) (dC : Nat → ClassId) (dI : Nat → Nat → Nat) (cI cJ cZ : ClassId) (aR : Nat → Nat) (N : Nat) (R_members : (Nat → Int32)) (R_starts : (Nat → Int32)) (R_inOrder : (Nat → Int32)) (R_standing : (Nat → Int32)) (R_heads : (Nat → Int32)) (R_tails : (Nat → Int32)) (R_rowsInAll : Int32) (R_made : Int32) (R_all : Int32) (R_filled : Int32) (v1 : Int32) {r : Int32} (hf : f_X5_standingOf N R_standing R_rowsInAll v1 = some r) :
    CtI l yX5_standingOf wsX5_standingOf rm_X5_standingOf (dC, dI) (tyl cI cJ cZ) [.ref (aR 0), .int v1] (w_R aR cI cJ cZ R_members R_starts R_inOrder R_standing R_heads R_tails R_rowsInAll R_made R_all R_filled) (w_R aR cI cJ cZ R_members R_starts R_inOrder R_standing R_heads R_tails R_rowsInAll R_made R_all R_filled) r := by
  refine startI (cc := cX5_standingOf) (maxL := 2) (rt := (some .int)) (by decide +kernel) rfl (Nat.le_of_ble_eq_true rfl) ?_
  intro p e s m below meth c A ls X hr hlocks hw hl
  replace X : Cx p m c cX5_standingOf 2 s _ wsX5_standingOf RX5 (dC, dI) (tyl cI cJ cZ) A := X
  replace hl : lv_has ls 2 [(0, .ref (aR 0)), (1, .int v1)] := hl
  obtain ⟨hx, hb, hml, hown, hts⟩ := X.1
  have hK := X.2.1
  have hN := X.2.2.2
  unfold f_X5_standingOf at hf
  refine lv_iload_n hx hb dX5_standingOf_0 rfl (lv_at hl 1 rfl) ?_
  refine lv_iconst (v := 0) hx hb dX5_standingOf_1 (by decide) ?_
  refine lv_aload_n hx hb dX5_standingOf_2 rfl (lv_at hl 0 rfl) ?_
  refine va_get (D := (dC, dI)) (ci := 5) (v := .int R_rowsInAll) (C := RX5) (T := TX5) (N := 10) hx hb hts i_X5_standingOf_X5 hown hK hw.1 0 rfl rfl 6 (by decide) (hts _ m_X5_standingOf_0) (fun _ h9 => h9) rfl dX5_standingOf_3 ?_
  refine lv_iconst (v := 1) hx hb dX5_standingOf_6 (by decide) ?_
  refine lv_isub hx hb dX5_standingOf_7 ?_
  obtain ⟨r1, h2, hf⟩ := bd1_ob hf
  refine clSNI (As := [.int v1, .int (0 : Int32), .int (R_rowsInAll - 1)]) (rest := []) X (c_X6_isIn l dC dI cI cJ cZ N v1 (0 : Int32) (R_rowsInAll - 1) h2) (⟨va_cnB 3 hts gX5_standingOf_X6_isIn_n43 rfl rfl rfl (hN _ nk_35) (hts _ m_X5_standingOf_1) (by decide +kernel) ⟨Nat.le_of_ble_eq_true rfl, Nat.le_of_ble_eq_true rfl⟩, hts _ m_X5_standingOf_2, trivial⟩) hw [] rfl rfl rfl rfl hl.1 rfl (Nat.le_of_ble_eq_true rfl) dX5_standingOf_8 ⟨Nat.zero_le _, Nat.zero_le _⟩ (fun H locs hw => ?_)
  replace hw : Wd (dC, dI) A s.heap H locs (w_R aR cI cJ cZ R_members R_starts R_inOrder R_standing R_heads R_tails R_rowsInAll R_made R_all R_filled) := hw
  refine lv_if_eq (tgt := 23) hx hb dX5_standingOf_11 (by decide) (fun b3 => ?_) (fun b3 => ?_)
  · replace hf := it_t hf b3
    refine lv_iconst (v := (-1)) hx hb dX5_standingOf_23 (by decide) ?_
    cases hf
    exact endI X hr rfl hlocks rfl hw dX5_standingOf_24
  · replace hf := it_f hf b3
    refine lv_aload_n hx hb dX5_standingOf_14 rfl (lv_at hl 0 rfl) ?_
    refine va_get (D := (dC, dI)) (ci := 5) (v := .ref (aR 4)) (C := RX5) (T := TX5) (N := 10) hx hb hts i_X5_standingOf_X5 hown hK hw.1 0 rfl rfl 3 (by decide) (hts _ m_X5_standingOf_3) (fun _ h9 => h9) rfl dX5_standingOf_15 ?_
    refine lv_iload_n hx hb dX5_standingOf_18 rfl (lv_at hl 1 rfl) ?_
    have g4 := ix_in (gd_l hf)
    replace hf := gd_r hf
    refine va_iald hx hb hK hw.1 4 0 rfl rfl g4 dX5_standingOf_19 ?_
    refine lv_goto (tgt := 24) hx hb dX5_standingOf_20 (by decide) ?_
    cases hf
    exact endI X hr rfl hlocks rfl hw dX5_standingOf_24
def rm_X5_takeFirst : Room := { frames := 2, cells := 0, slots := 0, locals := 43 }
set_option maxRecDepth 20000 in
theorem i_X5_takeFirst_X5 : ∀ w ∈ u_ws RX5 TX5 10, w ∈ wsX5_takeFirst := by decide +kernel
set_option maxRecDepth 20000 in
theorem m_X5_takeFirst_0 : Cond.fieldLink RX5 24 "GreatSort$Runs" "heads" "[I" ∈ wsX5_takeFirst := by decide +kernel
set_option maxRecDepth 20000 in
theorem m_X5_takeFirst_1 : Cond.fieldLink RX5 27 "GreatSort$Runs" "tails" "[I" ∈ wsX5_takeFirst := by decide +kernel
set_option maxRecDepth 20000 in
theorem m_X5_takeFirst_2 : Cond.fieldLink RX5 9 "GreatSort$Runs" "members" "[I" ∈ wsX5_takeFirst := by decide +kernel
set_option maxHeartbeats 4000000 in
set_option maxRecDepth 100000 in
theorem t_X5_takeFirst_10 {p : Program} {l : Launch} {e : Env} {s : State} {m : MethodId} {args : Array Value} {below : List Frame} {meth : Method} {c : Code} {Q : State → Prop} {dC : Nat → ClassId} {dI : Nat → Nat → Nat} {cI cJ cZ : ClassId} {A : Nat → Prop} (aR : Nat → Nat) (X : Cx p m c cX5_takeFirst 7 s args wsX5_takeFirst RX5 (dC, dI) (tyl cI cJ cZ) A) (N : Nat) (R_members : (Nat → Int32)) (R_starts : (Nat → Int32)) (R_inOrder : (Nat → Int32)) (R_standing : (Nat → Int32)) (R_heads : (Nat → Int32)) (R_tails : (Nat → Int32)) (R_rowsInAll : Int32) (R_made : Int32) (R_all : Int32) (R_filled : Int32) (v1 : Int32) :
    ∀ (n : Nat) (v2 : Int32) (v3 : Int32) (v4 : Int32) (v5 : Int32) (e2 : Int32) (e3 : Int32) (e4 : Int32), l_X5_takeFirst_10 N R_members R_standing R_heads R_tails R_rowsInAll v1 n v2 v3 v4 v5 = some (e2, e3, e4) → ∀ (H : Heap) (locs : List Loc) (ls : Array Slot), Wd (dC, dI) A s.heap H locs (w_R aR cI cJ cZ R_members R_starts R_inOrder R_standing R_heads R_tails R_rowsInAll R_made R_all R_filled) → lv_has ls 7 [(0, .ref (aR 0)), (1, .int v1), (2, .int v2), (3, .int v3), (4, .int v4), (5, .int v5)] → (∀ (H : Heap) (locs : List Loc) (ls : Array Slot), Wd (dC, dI) A s.heap H locs (w_R aR cI cJ cZ R_members R_starts R_inOrder R_standing R_heads R_tails R_rowsInAll R_made R_all R_filled) → lv_has ls 7 [(0, .ref (aR 0)), (2, .int e2), (3, .int e3), (4, .int e4)] → W p l e rm_X5_takeFirst s m args below meth c H locs 0 0 Q (F0 m 87 ls [])) → W p l e rm_X5_takeFirst s m args below meth c H locs 0 0 Q (F0 m 10 ls []) := by
  obtain ⟨hx, hb, hml, hown, hts⟩ := X.1
  have hK := X.2.1
  have hN := X.2.2.2
  intro n
  induction n with
  | zero =>
    intro _ _ _ _ _ _ _ hf
    cases hf
  | succ n ih =>
    intro v2 v3 v4 v5 e2 e3 e4 hf H locs ls hw hl kx
    rw [l_X5_takeFirst_10] at hf
    refine lv_iload hx hb dX5_takeFirst_10 (lv_at hl 5 rfl) ?_
    refine lv_iload_n hx hb dX5_takeFirst_12 rfl (lv_at hl 1 rfl) ?_
    refine lv_icmp_ge (tgt := 87) hx hb dX5_takeFirst_13 (by decide) (fun b1 => ?_) (fun b1 => ?_)
    · replace hf := it_t hf b1
      cases hf
      exact kx _ _ _ hw (lv_sub hl [0, 2, 3, 4] rfl)
    · replace hf := it_f hf b1
      refine lv_aload_n hx hb dX5_takeFirst_16 rfl (lv_at hl 0 rfl) ?_
      refine va_get (D := (dC, dI)) (ci := 5) (v := .ref (aR 5)) (C := RX5) (T := TX5) (N := 10) hx hb hts i_X5_takeFirst_X5 hown hK hw.1 0 rfl rfl 4 (by decide) (hts _ m_X5_takeFirst_0) (fun _ h9 => h9) rfl dX5_takeFirst_17 ?_
      refine lv_iload hx hb dX5_takeFirst_20 (lv_at hl 5 rfl) ?_
      have g2 := ix_in (gd_l hf)
      replace hf := gd_r hf
      refine va_iald hx hb hK hw.1 5 0 rfl rfl g2 dX5_takeFirst_22 ?_
      refine lv_aload_n hx hb dX5_takeFirst_23 rfl (lv_at hl 0 rfl) ?_
      refine va_get (D := (dC, dI)) (ci := 5) (v := .ref (aR 6)) (C := RX5) (T := TX5) (N := 10) hx hb hts i_X5_takeFirst_X5 hown hK hw.1 0 rfl rfl 5 (by decide) (hts _ m_X5_takeFirst_1) (fun _ h9 => h9) rfl dX5_takeFirst_24 ?_
      refine lv_iload hx hb dX5_takeFirst_27 (lv_at hl 5 rfl) ?_
      have g3 := ix_in (gd_l hf)
      replace hf := gd_r hf
      refine va_iald hx hb hK hw.1 6 0 rfl rfl g3 dX5_takeFirst_29 ?_
      refine lv_icmp_lt (tgt := 36) hx hb dX5_takeFirst_30 (by decide) (fun b4 => ?_) (fun b4 => ?_)
      · replace hf := it_t hf b4
        obtain ⟨x5, ex5⟩ : ∃ y : Int32, y = v2 + 1 := ⟨_, rfl⟩
        replace hf := nl_at hf ex5
        refine lv_iinc (v := x5) (lv' := [(2, .int x5), (0, .ref (aR 0)), (1, .int v1), (3, .int v3), (4, .int v4), (5, .int v5)]) hx hb dX5_takeFirst_36 hl (k := 2) rfl (by rw [ex5]; rfl) (by decide) rfl (fun ls hl => ?_)
        refine lv_aload_n hx hb dX5_takeFirst_39 rfl (lv_at hl 1 rfl) ?_
        refine va_get (D := (dC, dI)) (ci := 5) (v := .ref (aR 1)) (C := RX5) (T := TX5) (N := 10) hx hb hts i_X5_takeFirst_X5 hown hK hw.1 0 rfl rfl 0 (by decide) (hts _ m_X5_takeFirst_2) (fun _ h9 => h9) rfl dX5_takeFirst_40 ?_
        refine lv_aload_n hx hb dX5_takeFirst_43 rfl (lv_at hl 1 rfl) ?_
        refine va_get (D := (dC, dI)) (ci := 5) (v := .ref (aR 5)) (C := RX5) (T := TX5) (N := 10) hx hb hts i_X5_takeFirst_X5 hown hK hw.1 0 rfl rfl 4 (by decide) (hts _ m_X5_takeFirst_0) (fun _ h9 => h9) rfl dX5_takeFirst_44 ?_
        refine lv_iload hx hb dX5_takeFirst_47 (lv_at hl 5 rfl) ?_
        have g6 := ix_in (gd_l hf)
        replace hf := gd_r hf
        refine va_iald hx hb hK hw.1 5 0 rfl rfl g6 dX5_takeFirst_49 ?_
        have g7 := ix_in (gd_l hf)
        replace hf := gd_r hf
        refine va_iald hx hb hK hw.1 1 0 rfl rfl g7 dX5_takeFirst_50 ?_
        refine lv_topi (fun x8 ex8 => ?_)
        replace hf := nl_at hf ex8
        refine lv_istore (lv' := [(6, .int x8), (2, .int x5), (0, .ref (aR 0)), (1, .int v1), (3, .int v3), (4, .int v4), (5, .int v5)]) hx hb dX5_takeFirst_51 hl (by decide) rfl (fun ls hl => ?_)
        refine lv_iload hx hb dX5_takeFirst_53 (lv_at hl 5 rfl) ?_
        refine lv_iconst (v := (-1)) hx hb dX5_takeFirst_55 (by decide) ?_
        refine lv_icmp_eq (tgt := 74) hx hb dX5_takeFirst_56 (by decide) (fun b9 => ?_) (fun b9 => ?_)
        · replace hf := it_t hf b9
          refine lv_iload hx hb dX5_takeFirst_74 (lv_at hl 0 rfl) ?_
          refine lv_istore (lv' := [(4, .int x8), (6, .int x8), (2, .int x5), (0, .ref (aR 0)), (1, .int v1), (3, .int v3), (5, .int v5)]) hx hb dX5_takeFirst_76 hl (by decide) rfl (fun ls hl => ?_)
          refine lv_iload hx hb dX5_takeFirst_78 (lv_at hl 6 rfl) ?_
          refine lv_istore_n (lv' := [(3, .int v5), (4, .int x8), (6, .int x8), (2, .int x5), (0, .ref (aR 0)), (1, .int v1), (5, .int v5)]) hx hb dX5_takeFirst_80 rfl hl (by decide) rfl (fun ls hl => ?_)
          obtain ⟨x10, ex10⟩ : ∃ y : Int32, y = v5 + 1 := ⟨_, rfl⟩
          replace hf := nl_at hf ex10
          refine lv_iinc (v := x10) (lv' := [(5, .int x10), (3, .int v5), (4, .int x8), (6, .int x8), (2, .int x5), (0, .ref (aR 0)), (1, .int v1)]) hx hb dX5_takeFirst_81 hl (k := 6) rfl (by rw [ex10]; rfl) (by decide) rfl (fun ls hl => ?_)
          refine lv_goto (tgt := 10) hx hb dX5_takeFirst_84 (by decide) ?_
          exact ih _ _ _ _ _ _ _ hf _ _ _ hw (lv_sub hl [5, 6, 4, 1, 2, 0] rfl) kx
        · replace hf := it_f hf b9
          refine lv_aload_n hx hb dX5_takeFirst_59 rfl (lv_at hl 2 rfl) ?_
          refine lv_iload hx hb dX5_takeFirst_60 (lv_at hl 0 rfl) ?_
          obtain ⟨r11, h12, hf⟩ := bd1_ob hf
          refine clFI (As := [.int x8]) (rest := []) X (c_X5_standingOf l dC dI cI cJ cZ aR N R_members R_starts R_inOrder R_standing R_heads R_tails R_rowsInAll R_made R_all R_filled x8 h12) (cwV 1 hts gX5_takeFirst_X5_standingOf rfl rfl rfl (by decide +kernel) ⟨Nat.le_of_ble_eq_true rfl, Nat.le_of_ble_eq_true rfl⟩) (ci := 5) (k0 := 0) rfl rfl rfl hw rfl rfl hl.1 rfl (Nat.le_of_ble_eq_true rfl) dX5_takeFirst_62 ⟨Nat.zero_le _, Nat.zero_le _⟩ (fun H locs hw => ?_)
          refine lv_aload_n hx hb dX5_takeFirst_65 rfl (lv_at hl 2 rfl) ?_
          refine lv_iload hx hb dX5_takeFirst_66 (lv_at hl 5 rfl) ?_
          obtain ⟨r13, h14, hf⟩ := bd1_ob hf
          refine clFI (As := [.int v4]) (rest := [.int r11]) X (c_X5_standingOf l dC dI cI cJ cZ aR N R_members R_starts R_inOrder R_standing R_heads R_tails R_rowsInAll R_made R_all R_filled v4 h14) (cwV 1 hts gX5_takeFirst_X5_standingOf rfl rfl rfl (by decide +kernel) ⟨Nat.le_of_ble_eq_true rfl, Nat.le_of_ble_eq_true rfl⟩) (ci := 5) (k0 := 0) rfl rfl rfl hw rfl rfl hl.1 rfl (Nat.le_of_ble_eq_true rfl) dX5_takeFirst_68 ⟨Nat.zero_le _, Nat.zero_le _⟩ (fun H locs hw => ?_)
          refine lv_icmp_ge (tgt := 81) hx hb dX5_takeFirst_71 (by decide) (fun b15 => ?_) (fun b15 => ?_)
          · replace hf := it_t hf b15
            obtain ⟨x16, ex16⟩ : ∃ y : Int32, y = v5 + 1 := ⟨_, rfl⟩
            replace hf := nl_at hf ex16
            refine lv_iinc (v := x16) (lv' := [(5, .int x16), (6, .int x8), (2, .int x5), (0, .ref (aR 0)), (1, .int v1), (3, .int v3), (4, .int v4)]) hx hb dX5_takeFirst_81 hl (k := 6) rfl (by rw [ex16]; rfl) (by decide) rfl (fun ls hl => ?_)
            refine lv_goto (tgt := 10) hx hb dX5_takeFirst_84 (by decide) ?_
            exact ih _ _ _ _ _ _ _ hf _ _ _ hw (lv_sub hl [3, 4, 2, 5, 6, 0] rfl) kx
          · replace hf := it_f hf b15
            refine lv_iload hx hb dX5_takeFirst_74 (lv_at hl 0 rfl) ?_
            refine lv_istore (lv' := [(4, .int x8), (6, .int x8), (2, .int x5), (0, .ref (aR 0)), (1, .int v1), (3, .int v3), (5, .int v5)]) hx hb dX5_takeFirst_76 hl (by decide) rfl (fun ls hl => ?_)
            refine lv_iload hx hb dX5_takeFirst_78 (lv_at hl 6 rfl) ?_
            refine lv_istore_n (lv' := [(3, .int v5), (4, .int x8), (6, .int x8), (2, .int x5), (0, .ref (aR 0)), (1, .int v1), (5, .int v5)]) hx hb dX5_takeFirst_80 rfl hl (by decide) rfl (fun ls hl => ?_)
            obtain ⟨x17, ex17⟩ : ∃ y : Int32, y = v5 + 1 := ⟨_, rfl⟩
            replace hf := nl_at hf ex17
            refine lv_iinc (v := x17) (lv' := [(5, .int x17), (3, .int v5), (4, .int x8), (6, .int x8), (2, .int x5), (0, .ref (aR 0)), (1, .int v1)]) hx hb dX5_takeFirst_81 hl (k := 6) rfl (by rw [ex17]; rfl) (by decide) rfl (fun ls hl => ?_)
            refine lv_goto (tgt := 10) hx hb dX5_takeFirst_84 (by decide) ?_
            exact ih _ _ _ _ _ _ _ hf _ _ _ hw (lv_sub hl [5, 6, 4, 1, 2, 0] rfl) kx
      · replace hf := it_f hf b4
        refine lv_goto (tgt := 81) hx hb dX5_takeFirst_33 (by decide) ?_
        obtain ⟨x18, ex18⟩ : ∃ y : Int32, y = v5 + 1 := ⟨_, rfl⟩
        replace hf := nl_at hf ex18
        refine lv_iinc (v := x18) (lv' := [(5, .int x18), (0, .ref (aR 0)), (1, .int v1), (2, .int v2), (3, .int v3), (4, .int v4)]) hx hb dX5_takeFirst_81 hl (k := 5) rfl (by rw [ex18]; rfl) (by decide) rfl (fun ls hl => ?_)
        refine lv_goto (tgt := 10) hx hb dX5_takeFirst_84 (by decide) ?_
        exact ih _ _ _ _ _ _ _ hf _ _ _ hw (lv_sub hl [1, 2, 3, 4, 5, 0] rfl) kx
set_option maxHeartbeats 4000000 in
set_option maxRecDepth 100000 in
theorem c_X5_takeFirst (l : Launch) (dC : Nat → ClassId) (dI : Nat → Nat → Nat) (cI cJ cZ : ClassId) (aR : Nat → Nat) (N : Nat) (R_members : (Nat → Int32)) (R_starts : (Nat → Int32)) (R_inOrder : (Nat → Int32)) (R_standing : (Nat → Int32)) (R_heads : (Nat → Int32)) (R_tails : (Nat → Int32)) (R_rowsInAll : Int32) (R_made : Int32) (R_all : Int32) (R_filled : Int32) (v1 : Int32) {r : Int32} {o_R_members : (Nat → Int32)} {o_R_starts : (Nat → Int32)} {o_R_heads : (Nat → Int32)} {o_R_filled : Int32} (hf : f_X5_takeFirst N R_members R_starts R_standing R_heads R_tails R_rowsInAll R_all R_filled v1 = some (r, o_R_members, o_R_starts, o_R_heads, o_R_filled)) :
    CtI l yX5_takeFirst wsX5_takeFirst rm_X5_takeFirst (dC, dI) (tyl cI cJ cZ) [.ref (aR 0), .int v1] (w_R aR cI cJ cZ R_members R_starts R_inOrder R_standing R_heads R_tails R_rowsInAll R_made R_all R_filled) (w_R aR cI cJ cZ o_R_members o_R_starts R_inOrder R_standing o_R_heads R_tails R_rowsInAll R_made R_all o_R_filled) r := by
  refine startI (cc := cX5_takeFirst) (maxL := 7) (rt := (some .int)) (by decide +kernel) rfl (Nat.le_of_ble_eq_true rfl) ?_
  intro p e s m below meth c A ls X hr hlocks hw hl
  replace X : Cx p m c cX5_takeFirst 7 s _ wsX5_takeFirst RX5 (dC, dI) (tyl cI cJ cZ) A := X
  replace hl : lv_has ls 7 [(0, .ref (aR 0)), (1, .int v1)] := hl
  obtain ⟨hx, hb, hml, hown, hts⟩ := X.1
  have hK := X.2.1
  have hN := X.2.2.2
  unfold f_X5_takeFirst at hf
  refine lv_iconst (v := 0) hx hb dX5_takeFirst_0 (by decide) ?_
  refine lv_istore_n (lv' := [(2, .int 0), (0, .ref (aR 0)), (1, .int v1)]) hx hb dX5_takeFirst_1 rfl hl (by decide) rfl (fun ls hl => ?_)
  refine lv_iconst (v := 0) hx hb dX5_takeFirst_2 (by decide) ?_
  refine lv_istore_n (lv' := [(3, .int 0), (2, .int 0), (0, .ref (aR 0)), (1, .int v1)]) hx hb dX5_takeFirst_3 rfl hl (by decide) rfl (fun ls hl => ?_)
  refine lv_iconst (v := (-1)) hx hb dX5_takeFirst_4 (by decide) ?_
  refine lv_istore (lv' := [(4, .int (-1)), (3, .int 0), (2, .int 0), (0, .ref (aR 0)), (1, .int v1)]) hx hb dX5_takeFirst_5 hl (by decide) rfl (fun ls hl => ?_)
  refine lv_iconst (v := 0) hx hb dX5_takeFirst_7 (by decide) ?_
  refine lv_istore (lv' := [(5, .int 0), (4, .int (-1)), (3, .int 0), (2, .int 0), (0, .ref (aR 0)), (1, .int v1)]) hx hb dX5_takeFirst_8 hl (by decide) rfl (fun ls hl => ?_)
  obtain ⟨e19, e20, e21, h22, hf⟩ := bd3_ob hf
  refine t_X5_takeFirst_10 aR X N R_members R_starts R_inOrder R_standing R_heads R_tails R_rowsInAll R_made R_all R_filled v1 N _ _ _ _ _ _ _ h22 _ _ _ hw (lv_sub hl [4, 5, 3, 2, 1, 0] rfl) (fun H locs ls hw hl => ?_)
  refine lv_iload_n hx hb dX5_takeFirst_87 rfl (lv_at hl 1 rfl) ?_
  refine lv_if_ne (tgt := 93) hx hb dX5_takeFirst_88 (by decide) (fun b23 => ?_) (fun b23 => ?_)
  · replace hf := it_f hf b23
    refine lv_aload_n hx hb dX5_takeFirst_93 rfl (lv_at hl 0 rfl) ?_
    refine va_get (D := (dC, dI)) (ci := 5) (v := .ref (aR 5)) (C := RX5) (T := TX5) (N := 10) hx hb hts i_X5_takeFirst_X5 hown hK hw.1 0 rfl rfl 4 (by decide) (hts _ m_X5_takeFirst_0) (fun _ h9 => h9) rfl dX5_takeFirst_94 ?_
    refine lv_iload_n hx hb dX5_takeFirst_97 rfl (lv_at hl 2 rfl) ?_
    refine lv_dup2_11 hx hb dX5_takeFirst_98 rfl rfl ?_
    have g24 := ix_in (gd_l hf)
    replace hf := gd_r hf
    refine va_iald hx hb hK hw.1 5 0 rfl rfl g24 dX5_takeFirst_99 ?_
    refine lv_iconst (v := 1) hx hb dX5_takeFirst_100 (by decide) ?_
    refine lv_iadd hx hb dX5_takeFirst_101 ?_
    refine lv_topi (fun x25 ex25 => ?_)
    replace hf := nl_at hf ex25
    have g26 := ix_in (gd_l hf)
    replace hf := gd_r hf
    refine g_iast hx hb hK hw 5 0 rfl rfl g26 dX5_takeFirst_102 (fun H locs hw => ?_)
    replace hw : Wd (dC, dI) A s.heap H locs (w_R aR cI cJ cZ R_members R_starts R_inOrder R_standing (upd R_heads e20.toNatClampNeg x25) R_tails R_rowsInAll R_made R_all R_filled) := hw
    refine lv_aload_n hx hb dX5_takeFirst_103 rfl (lv_at hl 0 rfl) ?_
    refine lv_iload hx hb dX5_takeFirst_104 (lv_at hl 3 rfl) ?_
    obtain ⟨c27, c28, c29, h30, hf⟩ := bd3_ob hf
    refine clFV (As := [.int e21]) (rest := []) X (c_X5_append l dC dI cI cJ cZ aR N R_members R_starts R_inOrder R_standing (upd R_heads e20.toNatClampNeg x25) R_tails R_rowsInAll R_made R_all R_filled e21 h30) (cwV 1 hts gX5_takeFirst_X5_append rfl rfl rfl (by decide +kernel) ⟨Nat.le_of_ble_eq_true rfl, Nat.le_of_ble_eq_true rfl⟩) (ci := 5) (k0 := 0) rfl rfl rfl hw rfl rfl hl.1 rfl (Nat.le_of_ble_eq_true rfl) dX5_takeFirst_106 ⟨Nat.zero_le _, Nat.zero_le _⟩ (fun H locs hw => ?_)
    refine lv_iload_n hx hb dX5_takeFirst_109 rfl (lv_at hl 1 rfl) ?_
    refine lv_iconst (v := 1) hx hb dX5_takeFirst_110 (by decide) ?_
    refine lv_isub hx hb dX5_takeFirst_111 ?_
    cases hf
    exact endI X hr rfl hlocks rfl hw dX5_takeFirst_112
  · replace hf := it_t hf b23
    refine lv_iconst (v := 0) hx hb dX5_takeFirst_91 (by decide) ?_
    cases hf
    exact endI X hr rfl hlocks rfl hw dX5_takeFirst_92
def rm_X5_mergeThose : Room := { frames := 3, cells := 0, slots := 0, locals := 69 }
set_option maxRecDepth 20000 in
theorem i_X5_mergeThose_X5 : ∀ w ∈ u_ws RX5 TX5 10, w ∈ wsX5_mergeThose := by decide +kernel
set_option maxRecDepth 20000 in
theorem m_X5_mergeThose_0 : Cond.methodLink RX5 88 Lib.Math.min.name ∈ wsX5_mergeThose := by decide +kernel
set_option maxRecDepth 20000 in
theorem m_X5_mergeThose_1 : Cond.static Lib.Math.min.name ∈ wsX5_mergeThose := by decide +kernel
set_option maxRecDepth 20000 in
theorem m_X5_mergeThose_2 : Cond.initialized "java/lang/Math" ∈ wsX5_mergeThose := by decide +kernel
set_option maxRecDepth 20000 in
theorem m_X5_mergeThose_3 : Cond.code Lib.Math.min.name Lib.Math.min.code 2 (some .int) ∈ wsX5_mergeThose := by decide +kernel
set_option maxRecDepth 20000 in
theorem m_X5_mergeThose_4 : Cond.fieldLink RX5 24 "GreatSort$Runs" "heads" "[I" ∈ wsX5_mergeThose := by decide +kernel
set_option maxRecDepth 20000 in
theorem m_X5_mergeThose_5 : Cond.fieldLink RX5 27 "GreatSort$Runs" "tails" "[I" ∈ wsX5_mergeThose := by decide +kernel
set_option maxRecDepth 20000 in
theorem m_X5_mergeThose_6 : Cond.fieldLink RX5 15 "GreatSort$Runs" "starts" "[I" ∈ wsX5_mergeThose := by decide +kernel
set_option maxHeartbeats 4000000 in
set_option maxRecDepth 100000 in
theorem t_X5_mergeThose_17 {p : Program} {l : Launch} {e : Env} {s : State} {m : MethodId} {args : Array Value} {below : List Frame} {meth : Method} {c : Code} {Q : State → Prop} {dC : Nat → ClassId} {dI : Nat → Nat → Nat} {cI cJ cZ : ClassId} {A : Nat → Prop} (aR aP : Nat → Nat) (X : Cx p m c cX5_mergeThose 7 s args wsX5_mergeThose RX5 (dC, dI) (tyl cI cJ cZ) A) (N : Nat) (R_members : (Nat → Int32)) (R_starts : (Nat → Int32)) (R_inOrder : (Nat → Int32)) (R_standing : (Nat → Int32)) (R_rowsInAll : Int32) (R_made : Int32) (R_all : Int32) (R_filled : Int32) (P_takenRuns : (Nat → Int32)) (P_starts : (Nat → Int32)) (P_queued : (Nat → Int32)) (P_merges : Int32) (P_told : Int32) (v2 : Int32) (v3 : Int32) :
    ∀ (n : Nat) (v4 : Int32) (v5 : Int32) (R_heads : (Nat → Int32)) (R_tails : (Nat → Int32)) (e4 : Int32) (e_R_heads : (Nat → Int32)) (e_R_tails : (Nat → Int32)), l_X5_mergeThose_17 N R_starts R_all P_takenRuns P_starts P_merges v2 v3 n v4 v5 R_heads R_tails = some (e4, e_R_heads, e_R_tails) → ∀ (H : Heap) (locs : List Loc) (ls : Array Slot), Wd (dC, dI) A s.heap H locs (w_RP aR aP cI cJ cZ R_members R_starts R_inOrder R_standing R_heads R_tails R_rowsInAll R_made R_all R_filled P_takenRuns P_starts P_queued P_merges P_told) → lv_has ls 7 [(0, .ref (aR 0)), (1, .ref (aP 0)), (2, .int v2), (3, .int v3), (4, .int v4), (5, .int v5)] → (∀ (H : Heap) (locs : List Loc) (ls : Array Slot), Wd (dC, dI) A s.heap H locs (w_RP aR aP cI cJ cZ R_members R_starts R_inOrder R_standing e_R_heads e_R_tails R_rowsInAll R_made R_all R_filled P_takenRuns P_starts P_queued P_merges P_told) → lv_has ls 7 [(0, .ref (aR 0)), (3, .int v3), (4, .int e4)] → W p l e rm_X5_mergeThose s m args below meth c H locs 0 0 Q (F0 m 97 ls [])) → W p l e rm_X5_mergeThose s m args below meth c H locs 0 0 Q (F0 m 17 ls []) := by
  obtain ⟨hx, hb, hml, hown, hts⟩ := X.1
  have hK := X.2.1
  have hN := X.2.2.2
  intro n
  induction n with
  | zero =>
    intro _ _ _ _ _ _ _ hf
    cases hf
  | succ n ih =>
    intro v4 v5 R_heads R_tails e4 e_R_heads e_R_tails hf H locs ls hw hl kx
    rw [l_X5_mergeThose_17] at hf
    refine lv_iload hx hb dX5_mergeThose_17 (lv_at hl 5 rfl) ?_
    refine lv_iload_n hx hb dX5_mergeThose_19 rfl (lv_at hl 3 rfl) ?_
    refine lv_icmp_ge (tgt := 97) hx hb dX5_mergeThose_20 (by decide) (fun b4 => ?_) (fun b4 => ?_)
    · replace hf := it_t hf b4
      cases hf
      exact kx _ _ _ hw (lv_sub hl [0, 3, 4] rfl)
    · replace hf := it_f hf b4
      refine lv_aload_n hx hb dX5_mergeThose_23 rfl (lv_at hl 1 rfl) ?_
      refine lv_iload_n hx hb dX5_mergeThose_24 rfl (lv_at hl 2 rfl) ?_
      refine lv_iload hx hb dX5_mergeThose_25 (lv_at hl 5 rfl) ?_
      obtain ⟨r5, h6, hf⟩ := bd1_ob hf
      refine clVI (As := [.int v2, .int v5]) (rest := []) X (c_X3_taken l dC dI cI cJ cZ aP N P_takenRuns P_starts P_queued P_merges P_told v2 v5 h6) (cwV 2 hts gX5_mergeThose_X3_taken rfl rfl rfl (by decide +kernel) ⟨Nat.le_of_ble_eq_true rfl, Nat.le_of_ble_eq_true rfl⟩) (ci := 3) (k0 := 0) rfl rfl rfl hw [7, 8, 9, 10] rfl rfl rfl rfl hl.1 rfl (Nat.le_of_ble_eq_true rfl) dX5_mergeThose_27 ⟨Nat.zero_le _, Nat.zero_le _⟩ (fun H locs hw => ?_)
      replace hw : Wd (dC, dI) A s.heap H locs (w_RP aR aP cI cJ cZ R_members R_starts R_inOrder R_standing R_heads R_tails R_rowsInAll R_made R_all R_filled P_takenRuns P_starts P_queued P_merges P_told) := hw
      refine lv_istore (lv' := [(6, .int r5), (0, .ref (aR 0)), (1, .ref (aP 0)), (2, .int v2), (3, .int v3), (4, .int v4), (5, .int v5)]) hx hb dX5_mergeThose_30 hl (by decide) rfl (fun ls hl => ?_)
      refine lv_aload_n hx hb dX5_mergeThose_32 rfl (lv_at hl 1 rfl) ?_
      refine va_get (D := (dC, dI)) (ci := 5) (v := .ref (aR 5)) (C := RX5) (T := TX5) (N := 10) hx hb hts i_X5_mergeThose_X5 hown hK hw.1 0 rfl rfl 4 (by decide) (hts _ m_X5_mergeThose_4) (fun _ h9 => h9) rfl dX5_mergeThose_33 ?_
      refine lv_iload hx hb dX5_mergeThose_36 (lv_at hl 6 rfl) ?_
      refine lv_aload_n hx hb dX5_mergeThose_38 rfl (lv_at hl 1 rfl) ?_
      refine lv_iload hx hb dX5_mergeThose_39 (lv_at hl 0 rfl) ?_
      obtain ⟨r7, h8, hf⟩ := bd1_ob hf
      refine clVI (As := [.int r5]) (rest := [.int v5, .ref (aR 5)]) X (c_X5_has l dC dI cI cJ cZ aR N R_members R_starts R_inOrder R_standing R_heads R_tails R_rowsInAll R_made R_all R_filled r5 h8) (cwV 1 hts gX5_mergeThose_X5_has rfl rfl rfl (by decide +kernel) ⟨Nat.le_of_ble_eq_true rfl, Nat.le_of_ble_eq_true rfl⟩) (ci := 5) (k0 := 0) rfl rfl rfl hw [0, 1, 2, 3, 4, 5, 6] rfl rfl rfl rfl hl.1 rfl (Nat.le_of_ble_eq_true rfl) dX5_mergeThose_41 ⟨Nat.zero_le _, Nat.zero_le _⟩ (fun H locs hw => ?_)
      replace hw : Wd (dC, dI) A s.heap H locs (w_RP aR aP cI cJ cZ R_members R_starts R_inOrder R_standing R_heads R_tails R_rowsInAll R_made R_all R_filled P_takenRuns P_starts P_queued P_merges P_told) := hw
      obtain ⟨y9, h10, hf⟩ := bd1_ob hf
      refine join_ (nL := 7) (dC, dI) A 58 [.int y9, .int v5, .ref (aR 5)] (w_RP aR aP cI cJ cZ R_members R_starts R_inOrder R_standing R_heads R_tails R_rowsInAll R_made R_all R_filled P_takenRuns P_starts P_queued P_merges P_told) [(0, .ref (aR 0)), (1, .ref (aP 0)), (2, .int v2), (3, .int v3), (4, .int v4), (5, .int v5), (6, .int r5)] (fun H locs ls hw hl => ?_) (fun jn => ?_)
      · have g11 := ix_in (gd_l hf)
        replace hf := gd_r hf
        refine g_iast hx hb hK hw 5 0 rfl rfl g11 dX5_mergeThose_58 (fun H locs hw => ?_)
        replace hw : Wd (dC, dI) A s.heap H locs (w_RP aR aP cI cJ cZ R_members R_starts R_inOrder R_standing (upd R_heads v5.toNatClampNeg y9) R_tails R_rowsInAll R_made R_all R_filled P_takenRuns P_starts P_queued P_merges P_told) := hw
        refine lv_aload_n hx hb dX5_mergeThose_59 rfl (lv_at hl 0 rfl) ?_
        refine va_get (D := (dC, dI)) (ci := 5) (v := .ref (aR 6)) (C := RX5) (T := TX5) (N := 10) hx hb hts i_X5_mergeThose_X5 hown hK hw.1 0 rfl rfl 5 (by decide) (hts _ m_X5_mergeThose_5) (fun _ h9 => h9) rfl dX5_mergeThose_60 ?_
        refine lv_iload hx hb dX5_mergeThose_63 (lv_at hl 5 rfl) ?_
        refine lv_aload_n hx hb dX5_mergeThose_65 rfl (lv_at hl 0 rfl) ?_
        refine va_get (D := (dC, dI)) (ci := 5) (v := .ref (aR 5)) (C := RX5) (T := TX5) (N := 10) hx hb hts i_X5_mergeThose_X5 hown hK hw.1 0 rfl rfl 4 (by decide) (hts _ m_X5_mergeThose_4) (fun _ h9 => h9) rfl dX5_mergeThose_66 ?_
        refine lv_iload hx hb dX5_mergeThose_69 (lv_at hl 5 rfl) ?_
        have g12 := ix_in (gd_l hf)
        replace hf := gd_r hf
        refine va_iald hx hb hK hw.1 5 0 rfl rfl g12 dX5_mergeThose_71 ?_
        refine lv_aload_n hx hb dX5_mergeThose_72 rfl (lv_at hl 0 rfl) ?_
        refine lv_iload hx hb dX5_mergeThose_73 (lv_at hl 6 rfl) ?_
        obtain ⟨r13, h14, hf⟩ := bd1_ob hf
        refine clVI (As := [.int r5]) (rest := [.int ((upd R_heads v5.toNatClampNeg y9) v5.toNatClampNeg), .int v5, .ref (aR 6)]) X (c_X5_sizeOf l dC dI cI cJ cZ aR N R_members R_starts R_inOrder R_standing (upd R_heads v5.toNatClampNeg y9) R_tails R_rowsInAll R_made R_all R_filled r5 h14) (cwV 1 hts gX5_mergeThose_X5_sizeOf rfl rfl rfl (by decide +kernel) ⟨Nat.le_of_ble_eq_true rfl, Nat.le_of_ble_eq_true rfl⟩) (ci := 5) (k0 := 0) rfl rfl rfl hw [0, 1, 2, 3, 4, 5, 6] rfl rfl rfl rfl hl.1 rfl (Nat.le_of_ble_eq_true rfl) dX5_mergeThose_75 ⟨Nat.zero_le _, Nat.zero_le _⟩ (fun H locs hw => ?_)
        replace hw : Wd (dC, dI) A s.heap H locs (w_RP aR aP cI cJ cZ R_members R_starts R_inOrder R_standing (upd R_heads v5.toNatClampNeg y9) R_tails R_rowsInAll R_made R_all R_filled P_takenRuns P_starts P_queued P_merges P_told) := hw
        refine lv_iadd hx hb dX5_mergeThose_78 ?_
        refine lv_topi (fun x15 ex15 => ?_)
        replace hf := nl_at hf ex15
        have g16 := ix_in (gd_l hf)
        replace hf := gd_r hf
        refine g_iast hx hb hK hw 6 0 rfl rfl g16 dX5_mergeThose_79 (fun H locs hw => ?_)
        replace hw : Wd (dC, dI) A s.heap H locs (w_RP aR aP cI cJ cZ R_members R_starts R_inOrder R_standing (upd R_heads v5.toNatClampNeg y9) (upd R_tails v5.toNatClampNeg x15) R_rowsInAll R_made R_all R_filled P_takenRuns P_starts P_queued P_merges P_told) := hw
        refine lv_iload hx hb dX5_mergeThose_80 (lv_at hl 4 rfl) ?_
        refine lv_aload_n hx hb dX5_mergeThose_82 rfl (lv_at hl 0 rfl) ?_
        refine lv_iload hx hb dX5_mergeThose_83 (lv_at hl 6 rfl) ?_
        obtain ⟨r17, h18, hf⟩ := bd1_ob hf
        refine clVI (As := [.int r5]) (rest := [.int v4]) X (c_X5_sizeOf l dC dI cI cJ cZ aR N R_members R_starts R_inOrder R_standing (upd R_heads v5.toNatClampNeg y9) (upd R_tails v5.toNatClampNeg x15) R_rowsInAll R_made R_all R_filled r5 h18) (cwV 1 hts gX5_mergeThose_X5_sizeOf rfl rfl rfl (by decide +kernel) ⟨Nat.le_of_ble_eq_true rfl, Nat.le_of_ble_eq_true rfl⟩) (ci := 5) (k0 := 0) rfl rfl rfl hw [0, 1, 2, 3, 4, 5, 6] rfl rfl rfl rfl hl.1 rfl (Nat.le_of_ble_eq_true rfl) dX5_mergeThose_85 ⟨Nat.zero_le _, Nat.zero_le _⟩ (fun H locs hw => ?_)
        replace hw : Wd (dC, dI) A s.heap H locs (w_RP aR aP cI cJ cZ R_members R_starts R_inOrder R_standing (upd R_heads v5.toNatClampNeg y9) (upd R_tails v5.toNatClampNeg x15) R_rowsInAll R_made R_all R_filled P_takenRuns P_starts P_queued P_merges P_told) := hw
        refine lv_iadd hx hb dX5_mergeThose_88 ?_
        refine lv_topi (fun x19 ex19 => ?_)
        replace hf := nl_at hf ex19
        refine lv_istore (lv' := [(4, .int x19), (0, .ref (aR 0)), (1, .ref (aP 0)), (2, .int v2), (3, .int v3), (5, .int v5), (6, .int r5)]) hx hb dX5_mergeThose_89 hl (by decide) rfl (fun ls hl => ?_)
        obtain ⟨x20, ex20⟩ : ∃ y : Int32, y = v5 + 1 := ⟨_, rfl⟩
        replace hf := nl_at hf ex20
        refine lv_iinc (v := x20) (lv' := [(5, .int x20), (4, .int x19), (0, .ref (aR 0)), (1, .ref (aP 0)), (2, .int v2), (3, .int v3), (6, .int r5)]) hx hb dX5_mergeThose_91 hl (k := 5) rfl (by rw [ex20]; rfl) (by decide) rfl (fun ls hl => ?_)
        refine lv_goto (tgt := 17) hx hb dX5_mergeThose_94 (by decide) ?_
        exact ih _ _ _ _ _ _ _ hf _ _ _ hw (lv_sub hl [2, 3, 4, 5, 1, 0] rfl) kx
      · replace hf := h10
        refine lv_if_eq (tgt := 57) hx hb dX5_mergeThose_44 (by decide) (fun b21 => ?_) (fun b21 => ?_)
        · replace hf := it_t hf b21
          refine lv_iconst (v := 0) hx hb dX5_mergeThose_57 (by decide) ?_
          cases hf
          exact jn _ _ _ hw (lv_sub hl [1, 2, 3, 4, 5, 6, 0] rfl)
        · replace hf := it_f hf b21
          refine lv_aload_n hx hb dX5_mergeThose_47 rfl (lv_at hl 1 rfl) ?_
          refine va_get (D := (dC, dI)) (ci := 5) (v := .ref (aR 2)) (C := RX5) (T := TX5) (N := 10) hx hb hts i_X5_mergeThose_X5 hown hK hw.1 0 rfl rfl 1 (by decide) (hts _ m_X5_mergeThose_6) (fun _ h9 => h9) rfl dX5_mergeThose_48 ?_
          refine lv_iload hx hb dX5_mergeThose_51 (lv_at hl 0 rfl) ?_
          have g22 := ix_in (gd_l hf)
          replace hf := gd_r hf
          refine va_iald hx hb hK hw.1 2 0 rfl rfl g22 dX5_mergeThose_53 ?_
          refine lv_goto (tgt := 58) hx hb dX5_mergeThose_54 (by decide) ?_
          cases hf
          exact jn _ _ _ hw (lv_sub hl [1, 2, 3, 4, 5, 6, 0] rfl)
set_option maxHeartbeats 4000000 in
set_option maxRecDepth 100000 in
theorem t_X5_mergeThose_107 {p : Program} {l : Launch} {e : Env} {s : State} {m : MethodId} {args : Array Value} {below : List Frame} {meth : Method} {c : Code} {Q : State → Prop} {dC : Nat → ClassId} {dI : Nat → Nat → Nat} {cI cJ cZ : ClassId} {A : Nat → Prop} (aR aP : Nat → Nat) (X : Cx p m c cX5_mergeThose 7 s args wsX5_mergeThose RX5 (dC, dI) (tyl cI cJ cZ) A) (N : Nat) (R_inOrder : (Nat → Int32)) (R_standing : (Nat → Int32)) (R_tails : (Nat → Int32)) (R_rowsInAll : Int32) (R_made : Int32) (R_all : Int32) (P_takenRuns : (Nat → Int32)) (P_starts : (Nat → Int32)) (P_queued : (Nat → Int32)) (P_merges : Int32) (P_told : Int32) (v3 : Int32) (v4 : Int32) :
    ∀ (n : Nat) (v5 : Int32) (v6 : Int32) (R_members : (Nat → Int32)) (R_starts : (Nat → Int32)) (R_heads : (Nat → Int32)) (R_filled : Int32) (e5 : Int32) (e_R_members : (Nat → Int32)) (e_R_starts : (Nat → Int32)) (e_R_heads : (Nat → Int32)) (e_R_filled : Int32), l_X5_mergeThose_107 N R_standing R_tails R_rowsInAll R_all v3 v4 n v5 v6 R_members R_starts R_heads R_filled = some (e5, e_R_members, e_R_starts, e_R_heads, e_R_filled) → ∀ (H : Heap) (locs : List Loc) (ls : Array Slot), Wd (dC, dI) A s.heap H locs (w_RP aR aP cI cJ cZ R_members R_starts R_inOrder R_standing R_heads R_tails R_rowsInAll R_made R_all R_filled P_takenRuns P_starts P_queued P_merges P_told) → lv_has ls 7 [(0, .ref (aR 0)), (3, .int v3), (4, .int v4), (5, .int v5), (6, .int v6)] → (∀ (H : Heap) (locs : List Loc) (ls : Array Slot), Wd (dC, dI) A s.heap H locs (w_RP aR aP cI cJ cZ e_R_members e_R_starts R_inOrder R_standing e_R_heads R_tails R_rowsInAll R_made R_all e_R_filled P_takenRuns P_starts P_queued P_merges P_told) → lv_has ls 7 [(5, .int e5)] → W p l e rm_X5_mergeThose s m args below meth c H locs 0 0 Q (F0 m 130 ls [])) → W p l e rm_X5_mergeThose s m args below meth c H locs 0 0 Q (F0 m 107 ls []) := by
  obtain ⟨hx, hb, hml, hown, hts⟩ := X.1
  have hK := X.2.1
  have hN := X.2.2.2
  intro n
  induction n with
  | zero =>
    intro _ _ _ _ _ _ _ _ _ _ _ hf
    cases hf
  | succ n ih =>
    intro v5 v6 R_members R_starts R_heads R_filled e5 e_R_members e_R_starts e_R_heads e_R_filled hf H locs ls hw hl kx
    rw [l_X5_mergeThose_107] at hf
    refine lv_iload hx hb dX5_mergeThose_107 (lv_at hl 4 rfl) ?_
    refine lv_iload hx hb dX5_mergeThose_109 (lv_at hl 2 rfl) ?_
    refine lv_icmp_ge (tgt := 130) hx hb dX5_mergeThose_111 (by decide) (fun b30 => ?_) (fun b30 => ?_)
    · replace hf := it_t hf b30
      cases hf
      exact kx _ _ _ hw (lv_sub hl [3] rfl)
    · replace hf := it_f hf b30
      refine lv_iload hx hb dX5_mergeThose_114 (lv_at hl 3 rfl) ?_
      refine lv_aload_n hx hb dX5_mergeThose_116 rfl (lv_at hl 0 rfl) ?_
      refine lv_iload_n hx hb dX5_mergeThose_117 rfl (lv_at hl 1 rfl) ?_
      obtain ⟨r31, c32, c33, c34, c35, h36, hf⟩ := bd5_ob hf
      refine clVI (As := [.int v3]) (rest := [.int v5]) X (c_X5_takeFirst l dC dI cI cJ cZ aR N R_members R_starts R_inOrder R_standing R_heads R_tails R_rowsInAll R_made R_all R_filled v3 h36) (cwV 1 hts gX5_mergeThose_X5_takeFirst rfl rfl rfl (by decide +kernel) ⟨Nat.le_of_ble_eq_true rfl, Nat.le_of_ble_eq_true rfl⟩) (ci := 5) (k0 := 0) rfl rfl rfl hw [0, 1, 2, 3, 4, 5, 6] rfl rfl rfl rfl hl.1 rfl (Nat.le_of_ble_eq_true rfl) dX5_mergeThose_118 ⟨Nat.zero_le _, Nat.zero_le _⟩ (fun H locs hw => ?_)
      replace hw : Wd (dC, dI) A s.heap H locs (w_RP aR aP cI cJ cZ c32 c33 R_inOrder R_standing c34 R_tails R_rowsInAll R_made R_all c35 P_takenRuns P_starts P_queued P_merges P_told) := hw
      refine lv_iadd hx hb dX5_mergeThose_121 ?_
      refine lv_topi (fun x37 ex37 => ?_)
      replace hf := nl_at hf ex37
      refine lv_istore (lv' := [(5, .int x37), (0, .ref (aR 0)), (3, .int v3), (4, .int v4), (6, .int v6)]) hx hb dX5_mergeThose_122 hl (by decide) rfl (fun ls hl => ?_)
      obtain ⟨x38, ex38⟩ : ∃ y : Int32, y = v6 + 1 := ⟨_, rfl⟩
      replace hf := nl_at hf ex38
      refine lv_iinc (v := x38) (lv' := [(6, .int x38), (5, .int x37), (0, .ref (aR 0)), (3, .int v3), (4, .int v4)]) hx hb dX5_mergeThose_124 hl (k := 4) rfl (by rw [ex38]; rfl) (by decide) rfl (fun ls hl => ?_)
      refine lv_goto (tgt := 107) hx hb dX5_mergeThose_127 (by decide) ?_
      exact ih _ _ _ _ _ _ _ _ _ _ _ hf _ _ _ hw (lv_sub hl [2, 3, 4, 1, 0] rfl) kx
set_option maxHeartbeats 4000000 in
set_option maxRecDepth 100000 in
theorem c_X5_mergeThose (l : Launch) (dC : Nat → ClassId) (dI : Nat → Nat → Nat) (cI cJ cZ : ClassId) (aR aP : Nat → Nat) (N : Nat) (R_members : (Nat → Int32)) (R_starts : (Nat → Int32)) (R_inOrder : (Nat → Int32)) (R_standing : (Nat → Int32)) (R_heads : (Nat → Int32)) (R_tails : (Nat → Int32)) (R_rowsInAll : Int32) (R_made : Int32) (R_all : Int32) (R_filled : Int32) (P_takenRuns : (Nat → Int32)) (P_starts : (Nat → Int32)) (P_queued : (Nat → Int32)) (P_merges : Int32) (P_told : Int32) (v2 : Int32) {r : Int32} {o_R_members : (Nat → Int32)} {o_R_starts : (Nat → Int32)} {o_R_heads : (Nat → Int32)} {o_R_tails : (Nat → Int32)} {o_R_all : Int32} {o_R_filled : Int32} (hf : f_X5_mergeThose N R_members R_starts R_standing R_heads R_tails R_rowsInAll R_all R_filled P_takenRuns P_starts P_merges v2 = some (r, o_R_members, o_R_starts, o_R_heads, o_R_tails, o_R_all, o_R_filled)) :
    CtI l yX5_mergeThose wsX5_mergeThose rm_X5_mergeThose (dC, dI) (tyl cI cJ cZ) [.ref (aR 0), .ref (aP 0), .int v2] (w_RP aR aP cI cJ cZ R_members R_starts R_inOrder R_standing R_heads R_tails R_rowsInAll R_made R_all R_filled P_takenRuns P_starts P_queued P_merges P_told) (w_RP aR aP cI cJ cZ o_R_members o_R_starts R_inOrder R_standing o_R_heads o_R_tails R_rowsInAll R_made o_R_all o_R_filled P_takenRuns P_starts P_queued P_merges P_told) r := by
  refine startI (cc := cX5_mergeThose) (maxL := 7) (rt := (some .int)) (by decide +kernel) rfl (Nat.le_of_ble_eq_true rfl) ?_
  intro p e s m below meth c A ls X hr hlocks hw hl
  replace X : Cx p m c cX5_mergeThose 7 s _ wsX5_mergeThose RX5 (dC, dI) (tyl cI cJ cZ) A := X
  replace hl : lv_has ls 7 [(0, .ref (aR 0)), (1, .ref (aP 0)), (2, .int v2)] := hl
  obtain ⟨hx, hb, hml, hown, hts⟩ := X.1
  have hK := X.2.1
  have hN := X.2.2.2
  unfold f_X5_mergeThose at hf
  refine lv_aload_n hx hb dX5_mergeThose_0 rfl (lv_at hl 1 rfl) ?_
  refine lv_iload_n hx hb dX5_mergeThose_1 rfl (lv_at hl 2 rfl) ?_
  obtain ⟨r1, h2, hf⟩ := bd1_ob hf
  refine clVI (As := [.int v2]) (rest := []) X (c_X3_waysIn l dC dI cI cJ cZ aP N P_takenRuns P_starts P_queued P_merges P_told v2 h2) (cwV 1 hts gX5_mergeThose_X3_waysIn rfl rfl rfl (by decide +kernel) ⟨Nat.le_of_ble_eq_true rfl, Nat.le_of_ble_eq_true rfl⟩) (ci := 3) (k0 := 0) rfl rfl rfl hw [7, 8, 9, 10] rfl rfl rfl rfl hl.1 rfl (Nat.le_of_ble_eq_true rfl) dX5_mergeThose_2 ⟨Nat.zero_le _, Nat.zero_le _⟩ (fun H locs hw => ?_)
  replace hw : Wd (dC, dI) A s.heap H locs (w_RP aR aP cI cJ cZ R_members R_starts R_inOrder R_standing R_heads R_tails R_rowsInAll R_made R_all R_filled P_takenRuns P_starts P_queued P_merges P_told) := hw
  refine lv_bipush (v := 8) hx hb dX5_mergeThose_5 (by decide) ?_
  refine va_mmin hx hb (hml.trans hl.1.symm) hown (hts _ m_X5_mergeThose_0) (hts _ m_X5_mergeThose_1) (hts _ m_X5_mergeThose_2) (hts _ m_X5_mergeThose_3) (by decide) (Nat.le_of_ble_eq_true rfl) (Nat.zero_le _) (Nat.zero_le _) dX5_mergeThose_7 ?_
  refine lv_topi (fun x3 ex3 => ?_)
  replace hf := nl_at hf ex3
  refine lv_istore_n (lv' := [(3, .int x3), (0, .ref (aR 0)), (1, .ref (aP 0)), (2, .int v2)]) hx hb dX5_mergeThose_10 rfl hl (by decide) rfl (fun ls hl => ?_)
  refine lv_iconst (v := 0) hx hb dX5_mergeThose_11 (by decide) ?_
  refine lv_istore (lv' := [(4, .int 0), (3, .int x3), (0, .ref (aR 0)), (1, .ref (aP 0)), (2, .int v2)]) hx hb dX5_mergeThose_12 hl (by decide) rfl (fun ls hl => ?_)
  refine lv_iconst (v := 0) hx hb dX5_mergeThose_14 (by decide) ?_
  refine lv_istore (lv' := [(5, .int 0), (4, .int 0), (3, .int x3), (0, .ref (aR 0)), (1, .ref (aP 0)), (2, .int v2)]) hx hb dX5_mergeThose_15 hl (by decide) rfl (fun ls hl => ?_)
  obtain ⟨e23, e24, e25, h26, hf⟩ := bd3_ob hf
  refine t_X5_mergeThose_17 aR aP X N R_members R_starts R_inOrder R_standing R_rowsInAll R_made R_all R_filled P_takenRuns P_starts P_queued P_merges P_told v2 x3 N _ _ _ _ _ _ _ h26 _ _ _ hw (lv_sub hl [3, 4, 5, 2, 1, 0] rfl) (fun H locs ls hw hl => ?_)
  refine lv_aload_n hx hb dX5_mergeThose_97 rfl (lv_at hl 0 rfl) ?_
  obtain ⟨c27, c28, h29, hf⟩ := bd2_ob hf
  refine clVV (As := []) (rest := []) X (c_X5_begin l dC dI cI cJ cZ aR N R_members R_starts R_inOrder R_standing e24 e25 R_rowsInAll R_made R_all R_filled h29) (cwV 0 hts gX5_mergeThose_X5_begin rfl rfl rfl (by decide +kernel) ⟨Nat.le_of_ble_eq_true rfl, Nat.le_of_ble_eq_true rfl⟩) (ci := 5) (k0 := 0) rfl rfl rfl hw [0, 1, 2, 3, 4, 5, 6] rfl rfl rfl rfl hl.1 rfl (Nat.le_of_ble_eq_true rfl) dX5_mergeThose_98 ⟨Nat.zero_le _, Nat.zero_le _⟩ (fun H locs hw => ?_)
  replace hw : Wd (dC, dI) A s.heap H locs (w_RP aR aP cI cJ cZ R_members c27 R_inOrder R_standing e24 e25 R_rowsInAll R_made c28 R_filled P_takenRuns P_starts P_queued P_merges P_told) := hw
  refine lv_iconst (v := 0) hx hb dX5_mergeThose_101 (by decide) ?_
  refine lv_istore (lv' := [(5, .int 0), (0, .ref (aR 0)), (3, .int x3), (4, .int e23)]) hx hb dX5_mergeThose_102 hl (by decide) rfl (fun ls hl => ?_)
  refine lv_iconst (v := 0) hx hb dX5_mergeThose_104 (by decide) ?_
  refine lv_istore (lv' := [(6, .int 0), (5, .int 0), (0, .ref (aR 0)), (3, .int x3), (4, .int e23)]) hx hb dX5_mergeThose_105 hl (by decide) rfl (fun ls hl => ?_)
  obtain ⟨e39, e40, e41, e42, e43, h44, hf⟩ := bd5_ob hf
  refine t_X5_mergeThose_107 aR aP X N R_inOrder R_standing e25 R_rowsInAll R_made c28 P_takenRuns P_starts P_queued P_merges P_told x3 e23 N _ _ _ _ _ _ _ _ _ _ _ h44 _ _ _ hw (lv_sub hl [2, 3, 4, 1, 0] rfl) (fun H locs ls hw hl => ?_)
  refine lv_iload hx hb dX5_mergeThose_130 (lv_at hl 0 rfl) ?_
  cases hf
  exact endI X hr rfl hlocks rfl hw dX5_mergeThose_132
def rm_X5_rowInOrder : Room := { frames := 1, cells := 0, slots := 0, locals := 22 }
set_option maxRecDepth 20000 in
theorem i_X5_rowInOrder_X5 : ∀ w ∈ u_ws RX5 TX5 10, w ∈ wsX5_rowInOrder := by decide +kernel
set_option maxRecDepth 20000 in
theorem m_X5_rowInOrder_0 : Cond.fieldLink RX5 30 "GreatSort$Runs" "rowsInAll" "I" ∈ wsX5_rowInOrder := by decide +kernel
set_option maxRecDepth 20000 in
theorem m_X5_rowInOrder_1 : Cond.initialized RX6 ∈ wsX5_rowInOrder := by decide +kernel
set_option maxRecDepth 20000 in
theorem m_X5_rowInOrder_2 : Cond.static yX6_isIn ∈ wsX5_rowInOrder := by decide +kernel
set_option maxRecDepth 20000 in
theorem m_X5_rowInOrder_3 : Cond.fieldLink RX5 18 "GreatSort$Runs" "inOrder" "[I" ∈ wsX5_rowInOrder := by decide +kernel
set_option maxHeartbeats 4000000 in
set_option maxRecDepth 100000 in
theorem c_X5_rowInOrder (l : Launch) (dC : Nat → ClassId) (dI : Nat → Nat → Nat) (cI cJ cZ : ClassId) (aR : Nat → Nat) (N : Nat) (R_members : (Nat → Int32)) (R_starts : (Nat → Int32)) (R_inOrder : (Nat → Int32)) (R_standing : (Nat → Int32)) (R_heads : (Nat → Int32)) (R_tails : (Nat → Int32)) (R_rowsInAll : Int32) (R_made : Int32) (R_all : Int32) (R_filled : Int32) (v1 : Int32) {r : Int32} (hf : f_X5_rowInOrder N R_inOrder R_rowsInAll v1 = some r) :
    CtI l yX5_rowInOrder wsX5_rowInOrder rm_X5_rowInOrder (dC, dI) (tyl cI cJ cZ) [.ref (aR 0), .int v1] (w_R aR cI cJ cZ R_members R_starts R_inOrder R_standing R_heads R_tails R_rowsInAll R_made R_all R_filled) (w_R aR cI cJ cZ R_members R_starts R_inOrder R_standing R_heads R_tails R_rowsInAll R_made R_all R_filled) r := by
  refine startI (cc := cX5_rowInOrder) (maxL := 2) (rt := (some .int)) (by decide +kernel) rfl (Nat.le_of_ble_eq_true rfl) ?_
  intro p e s m below meth c A ls X hr hlocks hw hl
  replace X : Cx p m c cX5_rowInOrder 2 s _ wsX5_rowInOrder RX5 (dC, dI) (tyl cI cJ cZ) A := X
  replace hl : lv_has ls 2 [(0, .ref (aR 0)), (1, .int v1)] := hl
  obtain ⟨hx, hb, hml, hown, hts⟩ := X.1
  have hK := X.2.1
  have hN := X.2.2.2
  unfold f_X5_rowInOrder at hf
  refine lv_iload_n hx hb dX5_rowInOrder_0 rfl (lv_at hl 1 rfl) ?_
  refine lv_iconst (v := 0) hx hb dX5_rowInOrder_1 (by decide) ?_
  refine lv_aload_n hx hb dX5_rowInOrder_2 rfl (lv_at hl 0 rfl) ?_
  refine va_get (D := (dC, dI)) (ci := 5) (v := .int R_rowsInAll) (C := RX5) (T := TX5) (N := 10) hx hb hts i_X5_rowInOrder_X5 hown hK hw.1 0 rfl rfl 6 (by decide) (hts _ m_X5_rowInOrder_0) (fun _ h9 => h9) rfl dX5_rowInOrder_3 ?_
  refine lv_iconst (v := 1) hx hb dX5_rowInOrder_6 (by decide) ?_
  refine lv_isub hx hb dX5_rowInOrder_7 ?_
  obtain ⟨r1, h2, hf⟩ := bd1_ob hf
  refine clSNI (As := [.int v1, .int (0 : Int32), .int (R_rowsInAll - 1)]) (rest := []) X (c_X6_isIn l dC dI cI cJ cZ N v1 (0 : Int32) (R_rowsInAll - 1) h2) (⟨va_cnB 3 hts gX5_rowInOrder_X6_isIn_n43 rfl rfl rfl (hN _ nk_35) (hts _ m_X5_rowInOrder_1) (by decide +kernel) ⟨Nat.le_of_ble_eq_true rfl, Nat.le_of_ble_eq_true rfl⟩, hts _ m_X5_rowInOrder_2, trivial⟩) hw [] rfl rfl rfl rfl hl.1 rfl (Nat.le_of_ble_eq_true rfl) dX5_rowInOrder_8 ⟨Nat.zero_le _, Nat.zero_le _⟩ (fun H locs hw => ?_)
  replace hw : Wd (dC, dI) A s.heap H locs (w_R aR cI cJ cZ R_members R_starts R_inOrder R_standing R_heads R_tails R_rowsInAll R_made R_all R_filled) := hw
  refine lv_if_eq (tgt := 23) hx hb dX5_rowInOrder_11 (by decide) (fun b3 => ?_) (fun b3 => ?_)
  · replace hf := it_t hf b3
    refine lv_iconst (v := (-1)) hx hb dX5_rowInOrder_23 (by decide) ?_
    cases hf
    exact endI X hr rfl hlocks rfl hw dX5_rowInOrder_24
  · replace hf := it_f hf b3
    refine lv_aload_n hx hb dX5_rowInOrder_14 rfl (lv_at hl 0 rfl) ?_
    refine va_get (D := (dC, dI)) (ci := 5) (v := .ref (aR 3)) (C := RX5) (T := TX5) (N := 10) hx hb hts i_X5_rowInOrder_X5 hown hK hw.1 0 rfl rfl 2 (by decide) (hts _ m_X5_rowInOrder_3) (fun _ h9 => h9) rfl dX5_rowInOrder_15 ?_
    refine lv_iload_n hx hb dX5_rowInOrder_18 rfl (lv_at hl 1 rfl) ?_
    have g4 := ix_in (gd_l hf)
    replace hf := gd_r hf
    refine va_iald hx hb hK hw.1 3 0 rfl rfl g4 dX5_rowInOrder_19 ?_
    refine lv_goto (tgt := 24) hx hb dX5_rowInOrder_20 (by decide) ?_
    cases hf
    exact endI X hr rfl hlocks rfl hw dX5_rowInOrder_24
