def w_O (aO : Nat → Nat) (cI cJ cZ : ClassId) (O_paces : (Nat → Int32)) (O_up : (Nat → Int32)) : va_W := [(aO 0, .inr (2, [.ref (aO 1), .ref (aO 2)])), (aO 1, .inl (cI, 8, .inl O_paces)), (aO 2, .inl (cZ, 8, .inl O_up))]
def rm_X4_init : Room := { frames := 1, cells := 4, slots := 808, locals := 12 }
set_option maxRecDepth 20000 in
theorem i_X4_init_X4 : ∀ w ∈ u_ws RX4 TX4 5, w ∈ wsX4_init := by decide +kernel
set_option maxRecDepth 20000 in
theorem m_X4_init_0 : Cond.methodLink RX4 3 objectInit ∈ wsX4_init := by decide +kernel
set_option maxRecDepth 20000 in
theorem m_X4_init_1 : Cond.instanceMethod objectInit ∈ wsX4_init := by decide +kernel
set_option maxRecDepth 20000 in
theorem m_X4_init_2 : Cond.code objectInit ⟨#[0xb1]⟩ 1 none ∈ wsX4_init := by decide +kernel
set_option maxRecDepth 20000 in
theorem m_X4_init_3 : Cond.arrayClass .int ∈ wsX4_init := by decide +kernel
set_option maxRecDepth 20000 in
theorem m_X4_init_4 : Cond.fieldLink RX4 9 "GreatSort$Rows" "sorts" "[I" ∈ wsX4_init := by decide +kernel
set_option maxRecDepth 20000 in
theorem m_X4_init_5 : Cond.fieldLink RX4 15 "GreatSort$Rows" "values" "[I" ∈ wsX4_init := by decide +kernel
set_option maxRecDepth 20000 in
theorem m_X4_init_6 : Cond.fieldLink RX4 18 "GreatSort$Rows" "turns" "[I" ∈ wsX4_init := by decide +kernel
set_option maxRecDepth 20000 in
theorem m_X4_init_7 : Cond.arrayClass .boolean ∈ wsX4_init := by decide +kernel
set_option maxRecDepth 20000 in
theorem m_X4_init_8 : Cond.fieldLink RX4 21 "GreatSort$Rows" "falling" "[Z" ∈ wsX4_init := by decide +kernel
set_option maxHeartbeats 4000000 in
set_option maxRecDepth 100000 in
theorem c_X4_init (l : Launch) (dC : Nat → ClassId) (dI : Nat → Nat → Nat) (cI cJ cZ : ClassId) (h0 : Nat) : CtN l yX4_init wsX4_init rm_X4_init (dC, dI) (tyl cI cJ cZ) h0 ([(h0, .inr (4, [.null, .null, .null, .null, .int 0]))] : va_W) (fun aW => w_W aW cI cJ cZ (fun _ => 0) (fun _ => 0) (upd (upd (upd (upd (fun _ => 0) (0 : Int32).toNatClampNeg 0) (1 : Int32).toNatClampNeg 1) (2 : Int32).toNatClampNeg 2) (3 : Int32).toNatClampNeg 3) (fun _ => 0) 0) 4 808 := by
  refine startN (cc := cX4_init) (maxL := 1) (by decide +kernel) rfl (Nat.le_of_ble_eq_true rfl) ?_
  intro p e s m below meth c A ls X hr hlocks hin hw hl
  replace X : Cx p m c cX4_init 1 s _ wsX4_init RX4 (dC, dI) (tyl cI cJ cZ) A := X
  replace hl : lv_has ls 1 [(0, .ref h0)] := hl
  obtain ⟨hx, hb, hml, hown, hts⟩ := X.1
  have hK := X.2.1
  have hN := X.2.2.2
  refine lv_aload_n hx hb dX4_init_0 rfl (lv_at hl 0 rfl) ?_
  refine W.objInit hx hb hown (hts _ m_X4_init_0) (hts _ m_X4_init_1) (hts _ m_X4_init_2) rfl (by rw [hml]; exact hl.1) rfl dX4_init_1 (Nat.le_of_ble_eq_true rfl) (Nat.le_of_ble_eq_true rfl) ?_
  refine W.eq (g2 := F0 m 4 ls []) rfl ?_
  refine lv_aload_n hx hb dX4_init_4 rfl (lv_at hl 0 rfl) ?_
  refine lv_sipush (v := 400) hx hb dX4_init_5 (by decide) ?_
  refine g_newa_i X (hts _ m_X4_init_3) hw (N := 400) (by decide) (by decide) (by decide) (Nat.le_of_ble_eq_true rfl) (Nat.le_of_ble_eq_true rfl) dX4_init_8 (fun q1 H hw => ?_)
  replace hw : Wd (dC, dI) A s.heap _ _ ([(h0, .inr (4, [.null, .null, .null, .null, .int 0])), (q1, .inl (cI, 400, .inl (fun _ => 0)))] : va_W) := hw
  refine g_putF (D := (dC, dI)) (ci := 4) (v := .ref q1) (ty := .array .int) (C := RX4) (T := TX4) (N := 5) hx hb hts i_X4_init_X4 tyX4 tyX4_ok nmX4 hown hK hw 0 rfl rfl 0 (by decide) (hts _ m_X4_init_4) (fun _ h9 => h9) rfl hin rfl (by decide +kernel) rfl rfl (Nat.le_of_ble_eq_true rfl) dX4_init_10 (fun H locs hw => ?_)
  replace hw : Wd (dC, dI) A s.heap _ _ ([(h0, .inr (4, [.ref q1, .null, .null, .null, .int 0])), (q1, .inl (cI, 400, .inl (fun _ => 0)))] : va_W) := hw
  refine lv_aload_n hx hb dX4_init_13 rfl (lv_at hl 0 rfl) ?_
  refine lv_sipush (v := 400) hx hb dX4_init_14 (by decide) ?_
  refine g_newa_i X (hts _ m_X4_init_3) hw (N := 400) (by decide) (by decide) (by decide) (Nat.le_of_ble_eq_true rfl) (Nat.le_of_ble_eq_true rfl) dX4_init_17 (fun q2 H hw => ?_)
  replace hw : Wd (dC, dI) A s.heap _ _ ([(h0, .inr (4, [.ref q1, .null, .null, .null, .int 0])), (q1, .inl (cI, 400, .inl (fun _ => 0))), (q2, .inl (cI, 400, .inl (fun _ => 0)))] : va_W) := hw
  refine g_putF (D := (dC, dI)) (ci := 4) (v := .ref q2) (ty := .array .int) (C := RX4) (T := TX4) (N := 5) hx hb hts i_X4_init_X4 tyX4 tyX4_ok nmX4 hown hK hw 0 rfl rfl 1 (by decide) (hts _ m_X4_init_5) (fun _ h9 => h9) rfl hin rfl (by decide +kernel) rfl rfl (Nat.le_of_ble_eq_true rfl) dX4_init_19 (fun H locs hw => ?_)
  replace hw : Wd (dC, dI) A s.heap _ _ ([(h0, .inr (4, [.ref q1, .ref q2, .null, .null, .int 0])), (q1, .inl (cI, 400, .inl (fun _ => 0))), (q2, .inl (cI, 400, .inl (fun _ => 0)))] : va_W) := hw
  refine lv_aload_n hx hb dX4_init_22 rfl (lv_at hl 0 rfl) ?_
  refine lv_iconst (v := 4) hx hb dX4_init_23 (by decide) ?_
  refine g_newa_i X (hts _ m_X4_init_3) hw (N := 4) (by decide) (by decide) (by decide) (Nat.le_of_ble_eq_true rfl) (Nat.le_of_ble_eq_true rfl) dX4_init_24 (fun q3 H hw => ?_)
  replace hw : Wd (dC, dI) A s.heap _ _ ([(h0, .inr (4, [.ref q1, .ref q2, .null, .null, .int 0])), (q1, .inl (cI, 400, .inl (fun _ => 0))), (q2, .inl (cI, 400, .inl (fun _ => 0))), (q3, .inl (cI, 4, .inl (fun _ => 0)))] : va_W) := hw
  refine lv_dup hx hb dX4_init_26 rfl ?_
  refine lv_iconst (v := 0) hx hb dX4_init_27 (by decide) ?_
  refine lv_iconst (v := 0) hx hb dX4_init_28 (by decide) ?_
  refine g_iast hx hb hK hw 3 0 rfl rfl (ix_in (i := 0) (n := 4) (by decide)) dX4_init_29 (fun H locs hw => ?_)
  replace hw : Wd (dC, dI) A s.heap _ _ ([(h0, .inr (4, [.ref q1, .ref q2, .null, .null, .int 0])), (q1, .inl (cI, 400, .inl (fun _ => 0))), (q2, .inl (cI, 400, .inl (fun _ => 0))), (q3, .inl (cI, 4, .inl (upd (fun _ => 0) (0 : Int32).toNatClampNeg 0)))] : va_W) := hw
  refine lv_dup hx hb dX4_init_30 rfl ?_
  refine lv_iconst (v := 1) hx hb dX4_init_31 (by decide) ?_
  refine lv_iconst (v := 1) hx hb dX4_init_32 (by decide) ?_
  refine g_iast hx hb hK hw 3 0 rfl rfl (ix_in (i := 1) (n := 4) (by decide)) dX4_init_33 (fun H locs hw => ?_)
  replace hw : Wd (dC, dI) A s.heap _ _ ([(h0, .inr (4, [.ref q1, .ref q2, .null, .null, .int 0])), (q1, .inl (cI, 400, .inl (fun _ => 0))), (q2, .inl (cI, 400, .inl (fun _ => 0))), (q3, .inl (cI, 4, .inl (upd (upd (fun _ => 0) (0 : Int32).toNatClampNeg 0) (1 : Int32).toNatClampNeg 1)))] : va_W) := hw
  refine lv_dup hx hb dX4_init_34 rfl ?_
  refine lv_iconst (v := 2) hx hb dX4_init_35 (by decide) ?_
  refine lv_iconst (v := 2) hx hb dX4_init_36 (by decide) ?_
  refine g_iast hx hb hK hw 3 0 rfl rfl (ix_in (i := 2) (n := 4) (by decide)) dX4_init_37 (fun H locs hw => ?_)
  replace hw : Wd (dC, dI) A s.heap _ _ ([(h0, .inr (4, [.ref q1, .ref q2, .null, .null, .int 0])), (q1, .inl (cI, 400, .inl (fun _ => 0))), (q2, .inl (cI, 400, .inl (fun _ => 0))), (q3, .inl (cI, 4, .inl (upd (upd (upd (fun _ => 0) (0 : Int32).toNatClampNeg 0) (1 : Int32).toNatClampNeg 1) (2 : Int32).toNatClampNeg 2)))] : va_W) := hw
  refine lv_dup hx hb dX4_init_38 rfl ?_
  refine lv_iconst (v := 3) hx hb dX4_init_39 (by decide) ?_
  refine lv_iconst (v := 3) hx hb dX4_init_40 (by decide) ?_
  refine g_iast hx hb hK hw 3 0 rfl rfl (ix_in (i := 3) (n := 4) (by decide)) dX4_init_41 (fun H locs hw => ?_)
  replace hw : Wd (dC, dI) A s.heap _ _ ([(h0, .inr (4, [.ref q1, .ref q2, .null, .null, .int 0])), (q1, .inl (cI, 400, .inl (fun _ => 0))), (q2, .inl (cI, 400, .inl (fun _ => 0))), (q3, .inl (cI, 4, .inl (upd (upd (upd (upd (fun _ => 0) (0 : Int32).toNatClampNeg 0) (1 : Int32).toNatClampNeg 1) (2 : Int32).toNatClampNeg 2) (3 : Int32).toNatClampNeg 3)))] : va_W) := hw
  refine g_putF (D := (dC, dI)) (ci := 4) (v := .ref q3) (ty := .array .int) (C := RX4) (T := TX4) (N := 5) hx hb hts i_X4_init_X4 tyX4 tyX4_ok nmX4 hown hK hw 0 rfl rfl 2 (by decide) (hts _ m_X4_init_6) (fun _ h9 => h9) rfl hin rfl (by decide +kernel) rfl rfl (Nat.le_of_ble_eq_true rfl) dX4_init_42 (fun H locs hw => ?_)
  replace hw : Wd (dC, dI) A s.heap _ _ ([(h0, .inr (4, [.ref q1, .ref q2, .ref q3, .null, .int 0])), (q1, .inl (cI, 400, .inl (fun _ => 0))), (q2, .inl (cI, 400, .inl (fun _ => 0))), (q3, .inl (cI, 4, .inl (upd (upd (upd (upd (fun _ => 0) (0 : Int32).toNatClampNeg 0) (1 : Int32).toNatClampNeg 1) (2 : Int32).toNatClampNeg 2) (3 : Int32).toNatClampNeg 3)))] : va_W) := hw
  refine lv_aload_n hx hb dX4_init_45 rfl (lv_at hl 0 rfl) ?_
  refine lv_iconst (v := 4) hx hb dX4_init_46 (by decide) ?_
  refine g_newa_z X (hts _ m_X4_init_7) hw (N := 4) (by decide) (by decide) (by decide) (Nat.le_of_ble_eq_true rfl) (Nat.le_of_ble_eq_true rfl) dX4_init_47 (fun q4 H hw => ?_)
  replace hw : Wd (dC, dI) A s.heap _ _ ([(h0, .inr (4, [.ref q1, .ref q2, .ref q3, .null, .int 0])), (q1, .inl (cI, 400, .inl (fun _ => 0))), (q2, .inl (cI, 400, .inl (fun _ => 0))), (q3, .inl (cI, 4, .inl (upd (upd (upd (upd (fun _ => 0) (0 : Int32).toNatClampNeg 0) (1 : Int32).toNatClampNeg 1) (2 : Int32).toNatClampNeg 2) (3 : Int32).toNatClampNeg 3))), (q4, .inl (cZ, 4, .inl (fun _ => 0)))] : va_W) := hw
  refine g_putF (D := (dC, dI)) (ci := 4) (v := .ref q4) (ty := .array .boolean) (C := RX4) (T := TX4) (N := 5) hx hb hts i_X4_init_X4 tyX4 tyX4_ok nmX4 hown hK hw 0 rfl rfl 3 (by decide) (hts _ m_X4_init_8) (fun _ h9 => h9) rfl hin rfl (by decide +kernel) rfl rfl (Nat.le_of_ble_eq_true rfl) dX4_init_49 (fun H locs hw => ?_)
  replace hw : Wd (dC, dI) A s.heap _ _ ([(h0, .inr (4, [.ref q1, .ref q2, .ref q3, .ref q4, .int 0])), (q1, .inl (cI, 400, .inl (fun _ => 0))), (q2, .inl (cI, 400, .inl (fun _ => 0))), (q3, .inl (cI, 4, .inl (upd (upd (upd (upd (fun _ => 0) (0 : Int32).toNatClampNeg 0) (1 : Int32).toNatClampNeg 1) (2 : Int32).toNatClampNeg 2) (3 : Int32).toNatClampNeg 3))), (q4, .inl (cZ, 4, .inl (fun _ => 0)))] : va_W) := hw
  exact endN (w' := fun aW => w_W aW cI cJ cZ (fun _ => 0) (fun _ => 0) (upd (upd (upd (upd (fun _ => 0) (0 : Int32).toNatClampNeg 0) (1 : Int32).toNatClampNeg 1) (2 : Int32).toNatClampNeg 2) (3 : Int32).toNatClampNeg 3) (fun _ => 0) 0) X hr hlocks (fun k => match k with | 0 => h0 | 1 => q1 | 2 => q2 | 3 => q3 | _ => q4) rfl hw dX4_init_52
def rm_X1_init : Room := { frames := 1, cells := 1, slots := 400, locals := 12 }
set_option maxRecDepth 20000 in
theorem i_X1_init_X1 : ∀ w ∈ u_ws RX1 TX1 2, w ∈ wsX1_init := by decide +kernel
set_option maxRecDepth 20000 in
theorem m_X1_init_0 : Cond.methodLink RX1 3 objectInit ∈ wsX1_init := by decide +kernel
set_option maxRecDepth 20000 in
theorem m_X1_init_1 : Cond.instanceMethod objectInit ∈ wsX1_init := by decide +kernel
set_option maxRecDepth 20000 in
theorem m_X1_init_2 : Cond.code objectInit ⟨#[0xb1]⟩ 1 none ∈ wsX1_init := by decide +kernel
set_option maxRecDepth 20000 in
theorem m_X1_init_3 : Cond.arrayClass .long ∈ wsX1_init := by decide +kernel
set_option maxRecDepth 20000 in
theorem m_X1_init_4 : Cond.fieldLink RX1 9 "GreatSort$Heap" "items" "[J" ∈ wsX1_init := by decide +kernel
set_option maxHeartbeats 4000000 in
set_option maxRecDepth 100000 in
theorem c_X1_init (l : Launch) (dC : Nat → ClassId) (dI : Nat → Nat → Nat) (cI cJ cZ : ClassId) (h0 : Nat) : CtN l yX1_init wsX1_init rm_X1_init (dC, dI) (tyl cI cJ cZ) h0 ([(h0, .inr (1, [.null, .int 0]))] : va_W) (fun aH => w_H aH cI cJ cZ (fun _ => 0) 0) 1 400 := by
  refine startN (cc := cX1_init) (maxL := 1) (by decide +kernel) rfl (Nat.le_of_ble_eq_true rfl) ?_
  intro p e s m below meth c A ls X hr hlocks hin hw hl
  replace X : Cx p m c cX1_init 1 s _ wsX1_init RX1 (dC, dI) (tyl cI cJ cZ) A := X
  replace hl : lv_has ls 1 [(0, .ref h0)] := hl
  obtain ⟨hx, hb, hml, hown, hts⟩ := X.1
  have hK := X.2.1
  have hN := X.2.2.2
  refine lv_aload_n hx hb dX1_init_0 rfl (lv_at hl 0 rfl) ?_
  refine W.objInit hx hb hown (hts _ m_X1_init_0) (hts _ m_X1_init_1) (hts _ m_X1_init_2) rfl (by rw [hml]; exact hl.1) rfl dX1_init_1 (Nat.le_of_ble_eq_true rfl) (Nat.le_of_ble_eq_true rfl) ?_
  refine W.eq (g2 := F0 m 4 ls []) rfl ?_
  refine lv_aload_n hx hb dX1_init_4 rfl (lv_at hl 0 rfl) ?_
  refine lv_sipush (v := 400) hx hb dX1_init_5 (by decide) ?_
  refine g_newa_j X (hts _ m_X1_init_3) hw (N := 400) (by decide) (by decide) (by decide) (Nat.le_of_ble_eq_true rfl) (Nat.le_of_ble_eq_true rfl) dX1_init_8 (fun q1 H hw => ?_)
  replace hw : Wd (dC, dI) A s.heap _ _ ([(h0, .inr (1, [.null, .int 0])), (q1, .inl (cJ, 400, .inr (.inl (fun _ => 0))))] : va_W) := hw
  refine g_putF (D := (dC, dI)) (ci := 1) (v := .ref q1) (ty := .array .long) (C := RX1) (T := TX1) (N := 2) hx hb hts i_X1_init_X1 tyX1 tyX1_ok nmX1 hown hK hw 0 rfl rfl 0 (by decide) (hts _ m_X1_init_4) (fun _ h9 => h9) rfl hin rfl (by decide +kernel) rfl rfl (Nat.le_of_ble_eq_true rfl) dX1_init_10 (fun H locs hw => ?_)
  replace hw : Wd (dC, dI) A s.heap _ _ ([(h0, .inr (1, [.ref q1, .int 0])), (q1, .inl (cJ, 400, .inr (.inl (fun _ => 0))))] : va_W) := hw
  exact endN (w' := fun aH => w_H aH cI cJ cZ (fun _ => 0) 0) X hr hlocks (fun k => match k with | 0 => h0 | _ => q1) rfl hw dX1_init_13
def rm_X5_init : Room := { frames := 1, cells := 6, slots := 5616, locals := 12 }
set_option maxRecDepth 20000 in
theorem i_X5_init_X5 : ∀ w ∈ u_ws RX5 TX5 10, w ∈ wsX5_init := by decide +kernel
set_option maxRecDepth 20000 in
theorem m_X5_init_0 : Cond.methodLink RX5 3 objectInit ∈ wsX5_init := by decide +kernel
set_option maxRecDepth 20000 in
theorem m_X5_init_1 : Cond.instanceMethod objectInit ∈ wsX5_init := by decide +kernel
set_option maxRecDepth 20000 in
theorem m_X5_init_2 : Cond.code objectInit ⟨#[0xb1]⟩ 1 none ∈ wsX5_init := by decide +kernel
set_option maxRecDepth 20000 in
theorem m_X5_init_3 : Cond.arrayClass .int ∈ wsX5_init := by decide +kernel
set_option maxRecDepth 20000 in
theorem m_X5_init_4 : Cond.fieldLink RX5 9 "GreatSort$Runs" "members" "[I" ∈ wsX5_init := by decide +kernel
set_option maxRecDepth 20000 in
theorem m_X5_init_5 : Cond.fieldLink RX5 15 "GreatSort$Runs" "starts" "[I" ∈ wsX5_init := by decide +kernel
set_option maxRecDepth 20000 in
theorem m_X5_init_6 : Cond.fieldLink RX5 18 "GreatSort$Runs" "inOrder" "[I" ∈ wsX5_init := by decide +kernel
set_option maxRecDepth 20000 in
theorem m_X5_init_7 : Cond.fieldLink RX5 21 "GreatSort$Runs" "standing" "[I" ∈ wsX5_init := by decide +kernel
set_option maxRecDepth 20000 in
theorem m_X5_init_8 : Cond.fieldLink RX5 24 "GreatSort$Runs" "heads" "[I" ∈ wsX5_init := by decide +kernel
set_option maxRecDepth 20000 in
theorem m_X5_init_9 : Cond.fieldLink RX5 27 "GreatSort$Runs" "tails" "[I" ∈ wsX5_init := by decide +kernel
set_option maxHeartbeats 4000000 in
set_option maxRecDepth 100000 in
theorem c_X5_init (l : Launch) (dC : Nat → ClassId) (dI : Nat → Nat → Nat) (cI cJ cZ : ClassId) (h0 : Nat) : CtN l yX5_init wsX5_init rm_X5_init (dC, dI) (tyl cI cJ cZ) h0 ([(h0, .inr (5, [.null, .null, .null, .null, .null, .null, .int 0, .int 0, .int 0, .int 0]))] : va_W) (fun aR => w_R aR cI cJ cZ (fun _ => 0) (fun _ => 0) (fun _ => 0) (fun _ => 0) (fun _ => 0) (fun _ => 0) 0 0 0 0) 6 5616 := by
  refine startN (cc := cX5_init) (maxL := 1) (by decide +kernel) rfl (Nat.le_of_ble_eq_true rfl) ?_
  intro p e s m below meth c A ls X hr hlocks hin hw hl
  replace X : Cx p m c cX5_init 1 s _ wsX5_init RX5 (dC, dI) (tyl cI cJ cZ) A := X
  replace hl : lv_has ls 1 [(0, .ref h0)] := hl
  obtain ⟨hx, hb, hml, hown, hts⟩ := X.1
  have hK := X.2.1
  have hN := X.2.2.2
  refine lv_aload_n hx hb dX5_init_0 rfl (lv_at hl 0 rfl) ?_
  refine W.objInit hx hb hown (hts _ m_X5_init_0) (hts _ m_X5_init_1) (hts _ m_X5_init_2) rfl (by rw [hml]; exact hl.1) rfl dX5_init_1 (Nat.le_of_ble_eq_true rfl) (Nat.le_of_ble_eq_true rfl) ?_
  refine W.eq (g2 := F0 m 4 ls []) rfl ?_
  refine lv_aload_n hx hb dX5_init_4 rfl (lv_at hl 0 rfl) ?_
  refine lv_sipush (v := 4000) hx hb dX5_init_5 (by decide) ?_
  refine g_newa_i X (hts _ m_X5_init_3) hw (N := 4000) (by decide) (by decide) (by decide) (Nat.le_of_ble_eq_true rfl) (Nat.le_of_ble_eq_true rfl) dX5_init_8 (fun q1 H hw => ?_)
  replace hw : Wd (dC, dI) A s.heap _ _ ([(h0, .inr (5, [.null, .null, .null, .null, .null, .null, .int 0, .int 0, .int 0, .int 0])), (q1, .inl (cI, 4000, .inl (fun _ => 0)))] : va_W) := hw
  refine g_putF (D := (dC, dI)) (ci := 5) (v := .ref q1) (ty := .array .int) (C := RX5) (T := TX5) (N := 10) hx hb hts i_X5_init_X5 tyX5 tyX5_ok nmX5 hown hK hw 0 rfl rfl 0 (by decide) (hts _ m_X5_init_4) (fun _ h9 => h9) rfl hin rfl (by decide +kernel) rfl rfl (Nat.le_of_ble_eq_true rfl) dX5_init_10 (fun H locs hw => ?_)
  replace hw : Wd (dC, dI) A s.heap _ _ ([(h0, .inr (5, [.ref q1, .null, .null, .null, .null, .null, .int 0, .int 0, .int 0, .int 0])), (q1, .inl (cI, 4000, .inl (fun _ => 0)))] : va_W) := hw
  refine lv_aload_n hx hb dX5_init_13 rfl (lv_at hl 0 rfl) ?_
  refine lv_sipush (v := 800) hx hb dX5_init_14 (by decide) ?_
  refine g_newa_i X (hts _ m_X5_init_3) hw (N := 800) (by decide) (by decide) (by decide) (Nat.le_of_ble_eq_true rfl) (Nat.le_of_ble_eq_true rfl) dX5_init_17 (fun q2 H hw => ?_)
  replace hw : Wd (dC, dI) A s.heap _ _ ([(h0, .inr (5, [.ref q1, .null, .null, .null, .null, .null, .int 0, .int 0, .int 0, .int 0])), (q1, .inl (cI, 4000, .inl (fun _ => 0))), (q2, .inl (cI, 800, .inl (fun _ => 0)))] : va_W) := hw
  refine g_putF (D := (dC, dI)) (ci := 5) (v := .ref q2) (ty := .array .int) (C := RX5) (T := TX5) (N := 10) hx hb hts i_X5_init_X5 tyX5 tyX5_ok nmX5 hown hK hw 0 rfl rfl 1 (by decide) (hts _ m_X5_init_5) (fun _ h9 => h9) rfl hin rfl (by decide +kernel) rfl rfl (Nat.le_of_ble_eq_true rfl) dX5_init_19 (fun H locs hw => ?_)
  replace hw : Wd (dC, dI) A s.heap _ _ ([(h0, .inr (5, [.ref q1, .ref q2, .null, .null, .null, .null, .int 0, .int 0, .int 0, .int 0])), (q1, .inl (cI, 4000, .inl (fun _ => 0))), (q2, .inl (cI, 800, .inl (fun _ => 0)))] : va_W) := hw
  refine lv_aload_n hx hb dX5_init_22 rfl (lv_at hl 0 rfl) ?_
  refine lv_sipush (v := 400) hx hb dX5_init_23 (by decide) ?_
  refine g_newa_i X (hts _ m_X5_init_3) hw (N := 400) (by decide) (by decide) (by decide) (Nat.le_of_ble_eq_true rfl) (Nat.le_of_ble_eq_true rfl) dX5_init_26 (fun q3 H hw => ?_)
  replace hw : Wd (dC, dI) A s.heap _ _ ([(h0, .inr (5, [.ref q1, .ref q2, .null, .null, .null, .null, .int 0, .int 0, .int 0, .int 0])), (q1, .inl (cI, 4000, .inl (fun _ => 0))), (q2, .inl (cI, 800, .inl (fun _ => 0))), (q3, .inl (cI, 400, .inl (fun _ => 0)))] : va_W) := hw
  refine g_putF (D := (dC, dI)) (ci := 5) (v := .ref q3) (ty := .array .int) (C := RX5) (T := TX5) (N := 10) hx hb hts i_X5_init_X5 tyX5 tyX5_ok nmX5 hown hK hw 0 rfl rfl 2 (by decide) (hts _ m_X5_init_6) (fun _ h9 => h9) rfl hin rfl (by decide +kernel) rfl rfl (Nat.le_of_ble_eq_true rfl) dX5_init_28 (fun H locs hw => ?_)
  replace hw : Wd (dC, dI) A s.heap _ _ ([(h0, .inr (5, [.ref q1, .ref q2, .ref q3, .null, .null, .null, .int 0, .int 0, .int 0, .int 0])), (q1, .inl (cI, 4000, .inl (fun _ => 0))), (q2, .inl (cI, 800, .inl (fun _ => 0))), (q3, .inl (cI, 400, .inl (fun _ => 0)))] : va_W) := hw
  refine lv_aload_n hx hb dX5_init_31 rfl (lv_at hl 0 rfl) ?_
  refine lv_sipush (v := 400) hx hb dX5_init_32 (by decide) ?_
  refine g_newa_i X (hts _ m_X5_init_3) hw (N := 400) (by decide) (by decide) (by decide) (Nat.le_of_ble_eq_true rfl) (Nat.le_of_ble_eq_true rfl) dX5_init_35 (fun q4 H hw => ?_)
  replace hw : Wd (dC, dI) A s.heap _ _ ([(h0, .inr (5, [.ref q1, .ref q2, .ref q3, .null, .null, .null, .int 0, .int 0, .int 0, .int 0])), (q1, .inl (cI, 4000, .inl (fun _ => 0))), (q2, .inl (cI, 800, .inl (fun _ => 0))), (q3, .inl (cI, 400, .inl (fun _ => 0))), (q4, .inl (cI, 400, .inl (fun _ => 0)))] : va_W) := hw
  refine g_putF (D := (dC, dI)) (ci := 5) (v := .ref q4) (ty := .array .int) (C := RX5) (T := TX5) (N := 10) hx hb hts i_X5_init_X5 tyX5 tyX5_ok nmX5 hown hK hw 0 rfl rfl 3 (by decide) (hts _ m_X5_init_7) (fun _ h9 => h9) rfl hin rfl (by decide +kernel) rfl rfl (Nat.le_of_ble_eq_true rfl) dX5_init_37 (fun H locs hw => ?_)
  replace hw : Wd (dC, dI) A s.heap _ _ ([(h0, .inr (5, [.ref q1, .ref q2, .ref q3, .ref q4, .null, .null, .int 0, .int 0, .int 0, .int 0])), (q1, .inl (cI, 4000, .inl (fun _ => 0))), (q2, .inl (cI, 800, .inl (fun _ => 0))), (q3, .inl (cI, 400, .inl (fun _ => 0))), (q4, .inl (cI, 400, .inl (fun _ => 0)))] : va_W) := hw
  refine lv_aload_n hx hb dX5_init_40 rfl (lv_at hl 0 rfl) ?_
  refine lv_bipush (v := 8) hx hb dX5_init_41 (by decide) ?_
  refine g_newa_i X (hts _ m_X5_init_3) hw (N := 8) (by decide) (by decide) (by decide) (Nat.le_of_ble_eq_true rfl) (Nat.le_of_ble_eq_true rfl) dX5_init_43 (fun q5 H hw => ?_)
  replace hw : Wd (dC, dI) A s.heap _ _ ([(h0, .inr (5, [.ref q1, .ref q2, .ref q3, .ref q4, .null, .null, .int 0, .int 0, .int 0, .int 0])), (q1, .inl (cI, 4000, .inl (fun _ => 0))), (q2, .inl (cI, 800, .inl (fun _ => 0))), (q3, .inl (cI, 400, .inl (fun _ => 0))), (q4, .inl (cI, 400, .inl (fun _ => 0))), (q5, .inl (cI, 8, .inl (fun _ => 0)))] : va_W) := hw
  refine g_putF (D := (dC, dI)) (ci := 5) (v := .ref q5) (ty := .array .int) (C := RX5) (T := TX5) (N := 10) hx hb hts i_X5_init_X5 tyX5 tyX5_ok nmX5 hown hK hw 0 rfl rfl 4 (by decide) (hts _ m_X5_init_8) (fun _ h9 => h9) rfl hin rfl (by decide +kernel) rfl rfl (Nat.le_of_ble_eq_true rfl) dX5_init_45 (fun H locs hw => ?_)
  replace hw : Wd (dC, dI) A s.heap _ _ ([(h0, .inr (5, [.ref q1, .ref q2, .ref q3, .ref q4, .ref q5, .null, .int 0, .int 0, .int 0, .int 0])), (q1, .inl (cI, 4000, .inl (fun _ => 0))), (q2, .inl (cI, 800, .inl (fun _ => 0))), (q3, .inl (cI, 400, .inl (fun _ => 0))), (q4, .inl (cI, 400, .inl (fun _ => 0))), (q5, .inl (cI, 8, .inl (fun _ => 0)))] : va_W) := hw
  refine lv_aload_n hx hb dX5_init_48 rfl (lv_at hl 0 rfl) ?_
  refine lv_bipush (v := 8) hx hb dX5_init_49 (by decide) ?_
  refine g_newa_i X (hts _ m_X5_init_3) hw (N := 8) (by decide) (by decide) (by decide) (Nat.le_of_ble_eq_true rfl) (Nat.le_of_ble_eq_true rfl) dX5_init_51 (fun q6 H hw => ?_)
  replace hw : Wd (dC, dI) A s.heap _ _ ([(h0, .inr (5, [.ref q1, .ref q2, .ref q3, .ref q4, .ref q5, .null, .int 0, .int 0, .int 0, .int 0])), (q1, .inl (cI, 4000, .inl (fun _ => 0))), (q2, .inl (cI, 800, .inl (fun _ => 0))), (q3, .inl (cI, 400, .inl (fun _ => 0))), (q4, .inl (cI, 400, .inl (fun _ => 0))), (q5, .inl (cI, 8, .inl (fun _ => 0))), (q6, .inl (cI, 8, .inl (fun _ => 0)))] : va_W) := hw
  refine g_putF (D := (dC, dI)) (ci := 5) (v := .ref q6) (ty := .array .int) (C := RX5) (T := TX5) (N := 10) hx hb hts i_X5_init_X5 tyX5 tyX5_ok nmX5 hown hK hw 0 rfl rfl 5 (by decide) (hts _ m_X5_init_9) (fun _ h9 => h9) rfl hin rfl (by decide +kernel) rfl rfl (Nat.le_of_ble_eq_true rfl) dX5_init_53 (fun H locs hw => ?_)
  replace hw : Wd (dC, dI) A s.heap _ _ ([(h0, .inr (5, [.ref q1, .ref q2, .ref q3, .ref q4, .ref q5, .ref q6, .int 0, .int 0, .int 0, .int 0])), (q1, .inl (cI, 4000, .inl (fun _ => 0))), (q2, .inl (cI, 800, .inl (fun _ => 0))), (q3, .inl (cI, 400, .inl (fun _ => 0))), (q4, .inl (cI, 400, .inl (fun _ => 0))), (q5, .inl (cI, 8, .inl (fun _ => 0))), (q6, .inl (cI, 8, .inl (fun _ => 0)))] : va_W) := hw
  exact endN (w' := fun aR => w_R aR cI cJ cZ (fun _ => 0) (fun _ => 0) (fun _ => 0) (fun _ => 0) (fun _ => 0) (fun _ => 0) 0 0 0 0) X hr hlocks (fun k => match k with | 0 => h0 | 1 => q1 | 2 => q2 | 3 => q3 | 4 => q4 | 5 => q5 | _ => q6) rfl hw dX5_init_56
def rm_X3_init : Room := { frames := 1, cells := 3, slots := 2000, locals := 12 }
set_option maxRecDepth 20000 in
theorem i_X3_init_X3 : ∀ w ∈ u_ws RX3 TX3 5, w ∈ wsX3_init := by decide +kernel
set_option maxRecDepth 20000 in
theorem m_X3_init_0 : Cond.methodLink RX3 3 objectInit ∈ wsX3_init := by decide +kernel
set_option maxRecDepth 20000 in
theorem m_X3_init_1 : Cond.instanceMethod objectInit ∈ wsX3_init := by decide +kernel
set_option maxRecDepth 20000 in
theorem m_X3_init_2 : Cond.code objectInit ⟨#[0xb1]⟩ 1 none ∈ wsX3_init := by decide +kernel
set_option maxRecDepth 20000 in
theorem m_X3_init_3 : Cond.arrayClass .int ∈ wsX3_init := by decide +kernel
set_option maxRecDepth 20000 in
theorem m_X3_init_4 : Cond.fieldLink RX3 9 "GreatSort$Plan" "takenRuns" "[I" ∈ wsX3_init := by decide +kernel
set_option maxRecDepth 20000 in
theorem m_X3_init_5 : Cond.fieldLink RX3 15 "GreatSort$Plan" "starts" "[I" ∈ wsX3_init := by decide +kernel
set_option maxRecDepth 20000 in
theorem m_X3_init_6 : Cond.fieldLink RX3 18 "GreatSort$Plan" "queued" "[I" ∈ wsX3_init := by decide +kernel
set_option maxHeartbeats 4000000 in
set_option maxRecDepth 100000 in
theorem c_X3_init (l : Launch) (dC : Nat → ClassId) (dI : Nat → Nat → Nat) (cI cJ cZ : ClassId) (h0 : Nat) : CtN l yX3_init wsX3_init rm_X3_init (dC, dI) (tyl cI cJ cZ) h0 ([(h0, .inr (3, [.null, .null, .null, .int 0, .int 0]))] : va_W) (fun aP => w_P aP cI cJ cZ (fun _ => 0) (fun _ => 0) (fun _ => 0) 0 0) 3 2000 := by
  refine startN (cc := cX3_init) (maxL := 1) (by decide +kernel) rfl (Nat.le_of_ble_eq_true rfl) ?_
  intro p e s m below meth c A ls X hr hlocks hin hw hl
  replace X : Cx p m c cX3_init 1 s _ wsX3_init RX3 (dC, dI) (tyl cI cJ cZ) A := X
  replace hl : lv_has ls 1 [(0, .ref h0)] := hl
  obtain ⟨hx, hb, hml, hown, hts⟩ := X.1
  have hK := X.2.1
  have hN := X.2.2.2
  refine lv_aload_n hx hb dX3_init_0 rfl (lv_at hl 0 rfl) ?_
  refine W.objInit hx hb hown (hts _ m_X3_init_0) (hts _ m_X3_init_1) (hts _ m_X3_init_2) rfl (by rw [hml]; exact hl.1) rfl dX3_init_1 (Nat.le_of_ble_eq_true rfl) (Nat.le_of_ble_eq_true rfl) ?_
  refine W.eq (g2 := F0 m 4 ls []) rfl ?_
  refine lv_aload_n hx hb dX3_init_4 rfl (lv_at hl 0 rfl) ?_
  refine lv_sipush (v := 800) hx hb dX3_init_5 (by decide) ?_
  refine g_newa_i X (hts _ m_X3_init_3) hw (N := 800) (by decide) (by decide) (by decide) (Nat.le_of_ble_eq_true rfl) (Nat.le_of_ble_eq_true rfl) dX3_init_8 (fun q1 H hw => ?_)
  replace hw : Wd (dC, dI) A s.heap _ _ ([(h0, .inr (3, [.null, .null, .null, .int 0, .int 0])), (q1, .inl (cI, 800, .inl (fun _ => 0)))] : va_W) := hw
  refine g_putF (D := (dC, dI)) (ci := 3) (v := .ref q1) (ty := .array .int) (C := RX3) (T := TX3) (N := 5) hx hb hts i_X3_init_X3 tyX3 tyX3_ok nmX3 hown hK hw 0 rfl rfl 0 (by decide) (hts _ m_X3_init_4) (fun _ h9 => h9) rfl hin rfl (by decide +kernel) rfl rfl (Nat.le_of_ble_eq_true rfl) dX3_init_10 (fun H locs hw => ?_)
  replace hw : Wd (dC, dI) A s.heap _ _ ([(h0, .inr (3, [.ref q1, .null, .null, .int 0, .int 0])), (q1, .inl (cI, 800, .inl (fun _ => 0)))] : va_W) := hw
  refine lv_aload_n hx hb dX3_init_13 rfl (lv_at hl 0 rfl) ?_
  refine lv_sipush (v := 401) hx hb dX3_init_14 (by decide) ?_
  refine g_newa_i X (hts _ m_X3_init_3) hw (N := 401) (by decide) (by decide) (by decide) (Nat.le_of_ble_eq_true rfl) (Nat.le_of_ble_eq_true rfl) dX3_init_17 (fun q2 H hw => ?_)
  replace hw : Wd (dC, dI) A s.heap _ _ ([(h0, .inr (3, [.ref q1, .null, .null, .int 0, .int 0])), (q1, .inl (cI, 800, .inl (fun _ => 0))), (q2, .inl (cI, 401, .inl (fun _ => 0)))] : va_W) := hw
  refine g_putF (D := (dC, dI)) (ci := 3) (v := .ref q2) (ty := .array .int) (C := RX3) (T := TX3) (N := 5) hx hb hts i_X3_init_X3 tyX3 tyX3_ok nmX3 hown hK hw 0 rfl rfl 1 (by decide) (hts _ m_X3_init_5) (fun _ h9 => h9) rfl hin rfl (by decide +kernel) rfl rfl (Nat.le_of_ble_eq_true rfl) dX3_init_19 (fun H locs hw => ?_)
  replace hw : Wd (dC, dI) A s.heap _ _ ([(h0, .inr (3, [.ref q1, .ref q2, .null, .int 0, .int 0])), (q1, .inl (cI, 800, .inl (fun _ => 0))), (q2, .inl (cI, 401, .inl (fun _ => 0)))] : va_W) := hw
  refine lv_aload_n hx hb dX3_init_22 rfl (lv_at hl 0 rfl) ?_
  refine lv_sipush (v := 799) hx hb dX3_init_23 (by decide) ?_
  refine g_newa_i X (hts _ m_X3_init_3) hw (N := 799) (by decide) (by decide) (by decide) (Nat.le_of_ble_eq_true rfl) (Nat.le_of_ble_eq_true rfl) dX3_init_26 (fun q3 H hw => ?_)
  replace hw : Wd (dC, dI) A s.heap _ _ ([(h0, .inr (3, [.ref q1, .ref q2, .null, .int 0, .int 0])), (q1, .inl (cI, 800, .inl (fun _ => 0))), (q2, .inl (cI, 401, .inl (fun _ => 0))), (q3, .inl (cI, 799, .inl (fun _ => 0)))] : va_W) := hw
  refine g_putF (D := (dC, dI)) (ci := 3) (v := .ref q3) (ty := .array .int) (C := RX3) (T := TX3) (N := 5) hx hb hts i_X3_init_X3 tyX3 tyX3_ok nmX3 hown hK hw 0 rfl rfl 2 (by decide) (hts _ m_X3_init_6) (fun _ h9 => h9) rfl hin rfl (by decide +kernel) rfl rfl (Nat.le_of_ble_eq_true rfl) dX3_init_28 (fun H locs hw => ?_)
  replace hw : Wd (dC, dI) A s.heap _ _ ([(h0, .inr (3, [.ref q1, .ref q2, .ref q3, .int 0, .int 0])), (q1, .inl (cI, 800, .inl (fun _ => 0))), (q2, .inl (cI, 401, .inl (fun _ => 0))), (q3, .inl (cI, 799, .inl (fun _ => 0)))] : va_W) := hw
  exact endN (w' := fun aP => w_P aP cI cJ cZ (fun _ => 0) (fun _ => 0) (fun _ => 0) 0 0) X hr hlocks (fun k => match k with | 0 => h0 | 1 => q1 | 2 => q2 | _ => q3) rfl hw dX3_init_31
def rm_X0_init : Room := { frames := 1, cells := 9, slots := 856, locals := 12 }
set_option maxRecDepth 20000 in
theorem i_X0_init_X0 : ∀ w ∈ u_ws RX0 TX0 15, w ∈ wsX0_init := by decide +kernel
set_option maxRecDepth 20000 in
theorem m_X0_init_0 : Cond.methodLink RX0 3 objectInit ∈ wsX0_init := by decide +kernel
set_option maxRecDepth 20000 in
theorem m_X0_init_1 : Cond.instanceMethod objectInit ∈ wsX0_init := by decide +kernel
set_option maxRecDepth 20000 in
theorem m_X0_init_2 : Cond.code objectInit ⟨#[0xb1]⟩ 1 none ∈ wsX0_init := by decide +kernel
set_option maxRecDepth 20000 in
theorem m_X0_init_3 : Cond.arrayClass .boolean ∈ wsX0_init := by decide +kernel
set_option maxRecDepth 20000 in
theorem m_X0_init_4 : Cond.fieldLink RX0 9 "GreatSort$Cut" "sampled" "[Z" ∈ wsX0_init := by decide +kernel
set_option maxRecDepth 20000 in
theorem m_X0_init_5 : Cond.arrayClass .int ∈ wsX0_init := by decide +kernel
set_option maxRecDepth 20000 in
theorem m_X0_init_6 : Cond.fieldLink RX0 15 "GreatSort$Cut" "sampleStandings" "[I" ∈ wsX0_init := by decide +kernel
set_option maxRecDepth 20000 in
theorem m_X0_init_7 : Cond.fieldLink RX0 19 "GreatSort$Cut" "sizes" "[I" ∈ wsX0_init := by decide +kernel
set_option maxRecDepth 20000 in
theorem m_X0_init_8 : Cond.fieldLink RX0 22 "GreatSort$Cut" "ends" "[I" ∈ wsX0_init := by decide +kernel
set_option maxRecDepth 20000 in
theorem m_X0_init_9 : Cond.fieldLink RX0 25 "GreatSort$Cut" "lies" "[I" ∈ wsX0_init := by decide +kernel
set_option maxRecDepth 20000 in
theorem m_X0_init_10 : Cond.fieldLink RX0 28 "GreatSort$Cut" "merged" "[I" ∈ wsX0_init := by decide +kernel
set_option maxRecDepth 20000 in
theorem m_X0_init_11 : Cond.fieldLink RX0 31 "GreatSort$Cut" "reached" "[I" ∈ wsX0_init := by decide +kernel
set_option maxRecDepth 20000 in
theorem m_X0_init_12 : Cond.fieldLink RX0 34 "GreatSort$Cut" "done" "[Z" ∈ wsX0_init := by decide +kernel
set_option maxRecDepth 20000 in
theorem m_X0_init_13 : Cond.fieldLink RX0 37 "GreatSort$Cut" "mergedBy" "[I" ∈ wsX0_init := by decide +kernel
set_option maxHeartbeats 4000000 in
set_option maxRecDepth 100000 in
theorem c_X0_init (l : Launch) (dC : Nat → ClassId) (dI : Nat → Nat → Nat) (cI cJ cZ : ClassId) (h0 : Nat) : CtN l yX0_init wsX0_init rm_X0_init (dC, dI) (tyl cI cJ cZ) h0 ([(h0, .inr (0, [.null, .null, .null, .null, .null, .null, .null, .null, .null, .int 0, .int 0, .int 0, .int 0, .int 0, .int 0]))] : va_W) (fun aC => w_C aC cI cJ cZ (fun _ => 0) (fun _ => 0) (fun _ => 0) (fun _ => 0) (fun _ => 0) (fun _ => 0) (fun _ => 0) (fun _ => 0) (fun _ => 0) 0 0 0 0 0 0) 9 856 := by
  refine startN (cc := cX0_init) (maxL := 1) (by decide +kernel) rfl (Nat.le_of_ble_eq_true rfl) ?_
  intro p e s m below meth c A ls X hr hlocks hin hw hl
  replace X : Cx p m c cX0_init 1 s _ wsX0_init RX0 (dC, dI) (tyl cI cJ cZ) A := X
  replace hl : lv_has ls 1 [(0, .ref h0)] := hl
  obtain ⟨hx, hb, hml, hown, hts⟩ := X.1
  have hK := X.2.1
  have hN := X.2.2.2
  refine lv_aload_n hx hb dX0_init_0 rfl (lv_at hl 0 rfl) ?_
  refine W.objInit hx hb hown (hts _ m_X0_init_0) (hts _ m_X0_init_1) (hts _ m_X0_init_2) rfl (by rw [hml]; exact hl.1) rfl dX0_init_1 (Nat.le_of_ble_eq_true rfl) (Nat.le_of_ble_eq_true rfl) ?_
  refine W.eq (g2 := F0 m 4 ls []) rfl ?_
  refine lv_aload_n hx hb dX0_init_4 rfl (lv_at hl 0 rfl) ?_
  refine lv_sipush (v := 400) hx hb dX0_init_5 (by decide) ?_
  refine g_newa_z X (hts _ m_X0_init_3) hw (N := 400) (by decide) (by decide) (by decide) (Nat.le_of_ble_eq_true rfl) (Nat.le_of_ble_eq_true rfl) dX0_init_8 (fun q1 H hw => ?_)
  replace hw : Wd (dC, dI) A s.heap _ _ ([(h0, .inr (0, [.null, .null, .null, .null, .null, .null, .null, .null, .null, .int 0, .int 0, .int 0, .int 0, .int 0, .int 0])), (q1, .inl (cZ, 400, .inl (fun _ => 0)))] : va_W) := hw
  refine g_putF (D := (dC, dI)) (ci := 0) (v := .ref q1) (ty := .array .boolean) (C := RX0) (T := TX0) (N := 15) hx hb hts i_X0_init_X0 tyX0 tyX0_ok nmX0 hown hK hw 0 rfl rfl 0 (by decide) (hts _ m_X0_init_4) (fun _ h9 => h9) rfl hin rfl (by decide +kernel) rfl rfl (Nat.le_of_ble_eq_true rfl) dX0_init_10 (fun H locs hw => ?_)
  replace hw : Wd (dC, dI) A s.heap _ _ ([(h0, .inr (0, [.ref q1, .null, .null, .null, .null, .null, .null, .null, .null, .int 0, .int 0, .int 0, .int 0, .int 0, .int 0])), (q1, .inl (cZ, 400, .inl (fun _ => 0)))] : va_W) := hw
  refine lv_aload_n hx hb dX0_init_13 rfl (lv_at hl 0 rfl) ?_
  refine lv_sipush (v := 400) hx hb dX0_init_14 (by decide) ?_
  refine g_newa_i X (hts _ m_X0_init_5) hw (N := 400) (by decide) (by decide) (by decide) (Nat.le_of_ble_eq_true rfl) (Nat.le_of_ble_eq_true rfl) dX0_init_17 (fun q2 H hw => ?_)
  replace hw : Wd (dC, dI) A s.heap _ _ ([(h0, .inr (0, [.ref q1, .null, .null, .null, .null, .null, .null, .null, .null, .int 0, .int 0, .int 0, .int 0, .int 0, .int 0])), (q1, .inl (cZ, 400, .inl (fun _ => 0))), (q2, .inl (cI, 400, .inl (fun _ => 0)))] : va_W) := hw
  refine g_putF (D := (dC, dI)) (ci := 0) (v := .ref q2) (ty := .array .int) (C := RX0) (T := TX0) (N := 15) hx hb hts i_X0_init_X0 tyX0 tyX0_ok nmX0 hown hK hw 0 rfl rfl 1 (by decide) (hts _ m_X0_init_6) (fun _ h9 => h9) rfl hin rfl (by decide +kernel) rfl rfl (Nat.le_of_ble_eq_true rfl) dX0_init_19 (fun H locs hw => ?_)
  replace hw : Wd (dC, dI) A s.heap _ _ ([(h0, .inr (0, [.ref q1, .ref q2, .null, .null, .null, .null, .null, .null, .null, .int 0, .int 0, .int 0, .int 0, .int 0, .int 0])), (q1, .inl (cZ, 400, .inl (fun _ => 0))), (q2, .inl (cI, 400, .inl (fun _ => 0)))] : va_W) := hw
  refine lv_aload_n hx hb dX0_init_22 rfl (lv_at hl 0 rfl) ?_
  refine lv_bipush (v := 8) hx hb dX0_init_23 (by decide) ?_
  refine g_newa_i X (hts _ m_X0_init_5) hw (N := 8) (by decide) (by decide) (by decide) (Nat.le_of_ble_eq_true rfl) (Nat.le_of_ble_eq_true rfl) dX0_init_25 (fun q3 H hw => ?_)
  replace hw : Wd (dC, dI) A s.heap _ _ ([(h0, .inr (0, [.ref q1, .ref q2, .null, .null, .null, .null, .null, .null, .null, .int 0, .int 0, .int 0, .int 0, .int 0, .int 0])), (q1, .inl (cZ, 400, .inl (fun _ => 0))), (q2, .inl (cI, 400, .inl (fun _ => 0))), (q3, .inl (cI, 8, .inl (fun _ => 0)))] : va_W) := hw
  refine g_putF (D := (dC, dI)) (ci := 0) (v := .ref q3) (ty := .array .int) (C := RX0) (T := TX0) (N := 15) hx hb hts i_X0_init_X0 tyX0 tyX0_ok nmX0 hown hK hw 0 rfl rfl 2 (by decide) (hts _ m_X0_init_7) (fun _ h9 => h9) rfl hin rfl (by decide +kernel) rfl rfl (Nat.le_of_ble_eq_true rfl) dX0_init_27 (fun H locs hw => ?_)
  replace hw : Wd (dC, dI) A s.heap _ _ ([(h0, .inr (0, [.ref q1, .ref q2, .ref q3, .null, .null, .null, .null, .null, .null, .int 0, .int 0, .int 0, .int 0, .int 0, .int 0])), (q1, .inl (cZ, 400, .inl (fun _ => 0))), (q2, .inl (cI, 400, .inl (fun _ => 0))), (q3, .inl (cI, 8, .inl (fun _ => 0)))] : va_W) := hw
  refine lv_aload_n hx hb dX0_init_30 rfl (lv_at hl 0 rfl) ?_
  refine lv_bipush (v := 8) hx hb dX0_init_31 (by decide) ?_
  refine g_newa_i X (hts _ m_X0_init_5) hw (N := 8) (by decide) (by decide) (by decide) (Nat.le_of_ble_eq_true rfl) (Nat.le_of_ble_eq_true rfl) dX0_init_33 (fun q4 H hw => ?_)
  replace hw : Wd (dC, dI) A s.heap _ _ ([(h0, .inr (0, [.ref q1, .ref q2, .ref q3, .null, .null, .null, .null, .null, .null, .int 0, .int 0, .int 0, .int 0, .int 0, .int 0])), (q1, .inl (cZ, 400, .inl (fun _ => 0))), (q2, .inl (cI, 400, .inl (fun _ => 0))), (q3, .inl (cI, 8, .inl (fun _ => 0))), (q4, .inl (cI, 8, .inl (fun _ => 0)))] : va_W) := hw
  refine g_putF (D := (dC, dI)) (ci := 0) (v := .ref q4) (ty := .array .int) (C := RX0) (T := TX0) (N := 15) hx hb hts i_X0_init_X0 tyX0 tyX0_ok nmX0 hown hK hw 0 rfl rfl 3 (by decide) (hts _ m_X0_init_8) (fun _ h9 => h9) rfl hin rfl (by decide +kernel) rfl rfl (Nat.le_of_ble_eq_true rfl) dX0_init_35 (fun H locs hw => ?_)
  replace hw : Wd (dC, dI) A s.heap _ _ ([(h0, .inr (0, [.ref q1, .ref q2, .ref q3, .ref q4, .null, .null, .null, .null, .null, .int 0, .int 0, .int 0, .int 0, .int 0, .int 0])), (q1, .inl (cZ, 400, .inl (fun _ => 0))), (q2, .inl (cI, 400, .inl (fun _ => 0))), (q3, .inl (cI, 8, .inl (fun _ => 0))), (q4, .inl (cI, 8, .inl (fun _ => 0)))] : va_W) := hw
  refine lv_aload_n hx hb dX0_init_38 rfl (lv_at hl 0 rfl) ?_
  refine lv_bipush (v := 8) hx hb dX0_init_39 (by decide) ?_
  refine g_newa_i X (hts _ m_X0_init_5) hw (N := 8) (by decide) (by decide) (by decide) (Nat.le_of_ble_eq_true rfl) (Nat.le_of_ble_eq_true rfl) dX0_init_41 (fun q5 H hw => ?_)
  replace hw : Wd (dC, dI) A s.heap _ _ ([(h0, .inr (0, [.ref q1, .ref q2, .ref q3, .ref q4, .null, .null, .null, .null, .null, .int 0, .int 0, .int 0, .int 0, .int 0, .int 0])), (q1, .inl (cZ, 400, .inl (fun _ => 0))), (q2, .inl (cI, 400, .inl (fun _ => 0))), (q3, .inl (cI, 8, .inl (fun _ => 0))), (q4, .inl (cI, 8, .inl (fun _ => 0))), (q5, .inl (cI, 8, .inl (fun _ => 0)))] : va_W) := hw
  refine g_putF (D := (dC, dI)) (ci := 0) (v := .ref q5) (ty := .array .int) (C := RX0) (T := TX0) (N := 15) hx hb hts i_X0_init_X0 tyX0 tyX0_ok nmX0 hown hK hw 0 rfl rfl 4 (by decide) (hts _ m_X0_init_9) (fun _ h9 => h9) rfl hin rfl (by decide +kernel) rfl rfl (Nat.le_of_ble_eq_true rfl) dX0_init_43 (fun H locs hw => ?_)
  replace hw : Wd (dC, dI) A s.heap _ _ ([(h0, .inr (0, [.ref q1, .ref q2, .ref q3, .ref q4, .ref q5, .null, .null, .null, .null, .int 0, .int 0, .int 0, .int 0, .int 0, .int 0])), (q1, .inl (cZ, 400, .inl (fun _ => 0))), (q2, .inl (cI, 400, .inl (fun _ => 0))), (q3, .inl (cI, 8, .inl (fun _ => 0))), (q4, .inl (cI, 8, .inl (fun _ => 0))), (q5, .inl (cI, 8, .inl (fun _ => 0)))] : va_W) := hw
  refine lv_aload_n hx hb dX0_init_46 rfl (lv_at hl 0 rfl) ?_
  refine lv_bipush (v := 8) hx hb dX0_init_47 (by decide) ?_
  refine g_newa_i X (hts _ m_X0_init_5) hw (N := 8) (by decide) (by decide) (by decide) (Nat.le_of_ble_eq_true rfl) (Nat.le_of_ble_eq_true rfl) dX0_init_49 (fun q6 H hw => ?_)
  replace hw : Wd (dC, dI) A s.heap _ _ ([(h0, .inr (0, [.ref q1, .ref q2, .ref q3, .ref q4, .ref q5, .null, .null, .null, .null, .int 0, .int 0, .int 0, .int 0, .int 0, .int 0])), (q1, .inl (cZ, 400, .inl (fun _ => 0))), (q2, .inl (cI, 400, .inl (fun _ => 0))), (q3, .inl (cI, 8, .inl (fun _ => 0))), (q4, .inl (cI, 8, .inl (fun _ => 0))), (q5, .inl (cI, 8, .inl (fun _ => 0))), (q6, .inl (cI, 8, .inl (fun _ => 0)))] : va_W) := hw
  refine g_putF (D := (dC, dI)) (ci := 0) (v := .ref q6) (ty := .array .int) (C := RX0) (T := TX0) (N := 15) hx hb hts i_X0_init_X0 tyX0 tyX0_ok nmX0 hown hK hw 0 rfl rfl 5 (by decide) (hts _ m_X0_init_10) (fun _ h9 => h9) rfl hin rfl (by decide +kernel) rfl rfl (Nat.le_of_ble_eq_true rfl) dX0_init_51 (fun H locs hw => ?_)
  replace hw : Wd (dC, dI) A s.heap _ _ ([(h0, .inr (0, [.ref q1, .ref q2, .ref q3, .ref q4, .ref q5, .ref q6, .null, .null, .null, .int 0, .int 0, .int 0, .int 0, .int 0, .int 0])), (q1, .inl (cZ, 400, .inl (fun _ => 0))), (q2, .inl (cI, 400, .inl (fun _ => 0))), (q3, .inl (cI, 8, .inl (fun _ => 0))), (q4, .inl (cI, 8, .inl (fun _ => 0))), (q5, .inl (cI, 8, .inl (fun _ => 0))), (q6, .inl (cI, 8, .inl (fun _ => 0)))] : va_W) := hw
  refine lv_aload_n hx hb dX0_init_54 rfl (lv_at hl 0 rfl) ?_
  refine lv_bipush (v := 8) hx hb dX0_init_55 (by decide) ?_
  refine g_newa_i X (hts _ m_X0_init_5) hw (N := 8) (by decide) (by decide) (by decide) (Nat.le_of_ble_eq_true rfl) (Nat.le_of_ble_eq_true rfl) dX0_init_57 (fun q7 H hw => ?_)
  replace hw : Wd (dC, dI) A s.heap _ _ ([(h0, .inr (0, [.ref q1, .ref q2, .ref q3, .ref q4, .ref q5, .ref q6, .null, .null, .null, .int 0, .int 0, .int 0, .int 0, .int 0, .int 0])), (q1, .inl (cZ, 400, .inl (fun _ => 0))), (q2, .inl (cI, 400, .inl (fun _ => 0))), (q3, .inl (cI, 8, .inl (fun _ => 0))), (q4, .inl (cI, 8, .inl (fun _ => 0))), (q5, .inl (cI, 8, .inl (fun _ => 0))), (q6, .inl (cI, 8, .inl (fun _ => 0))), (q7, .inl (cI, 8, .inl (fun _ => 0)))] : va_W) := hw
  refine g_putF (D := (dC, dI)) (ci := 0) (v := .ref q7) (ty := .array .int) (C := RX0) (T := TX0) (N := 15) hx hb hts i_X0_init_X0 tyX0 tyX0_ok nmX0 hown hK hw 0 rfl rfl 6 (by decide) (hts _ m_X0_init_11) (fun _ h9 => h9) rfl hin rfl (by decide +kernel) rfl rfl (Nat.le_of_ble_eq_true rfl) dX0_init_59 (fun H locs hw => ?_)
  replace hw : Wd (dC, dI) A s.heap _ _ ([(h0, .inr (0, [.ref q1, .ref q2, .ref q3, .ref q4, .ref q5, .ref q6, .ref q7, .null, .null, .int 0, .int 0, .int 0, .int 0, .int 0, .int 0])), (q1, .inl (cZ, 400, .inl (fun _ => 0))), (q2, .inl (cI, 400, .inl (fun _ => 0))), (q3, .inl (cI, 8, .inl (fun _ => 0))), (q4, .inl (cI, 8, .inl (fun _ => 0))), (q5, .inl (cI, 8, .inl (fun _ => 0))), (q6, .inl (cI, 8, .inl (fun _ => 0))), (q7, .inl (cI, 8, .inl (fun _ => 0)))] : va_W) := hw
  refine lv_aload_n hx hb dX0_init_62 rfl (lv_at hl 0 rfl) ?_
  refine lv_bipush (v := 8) hx hb dX0_init_63 (by decide) ?_
  refine g_newa_z X (hts _ m_X0_init_3) hw (N := 8) (by decide) (by decide) (by decide) (Nat.le_of_ble_eq_true rfl) (Nat.le_of_ble_eq_true rfl) dX0_init_65 (fun q8 H hw => ?_)
  replace hw : Wd (dC, dI) A s.heap _ _ ([(h0, .inr (0, [.ref q1, .ref q2, .ref q3, .ref q4, .ref q5, .ref q6, .ref q7, .null, .null, .int 0, .int 0, .int 0, .int 0, .int 0, .int 0])), (q1, .inl (cZ, 400, .inl (fun _ => 0))), (q2, .inl (cI, 400, .inl (fun _ => 0))), (q3, .inl (cI, 8, .inl (fun _ => 0))), (q4, .inl (cI, 8, .inl (fun _ => 0))), (q5, .inl (cI, 8, .inl (fun _ => 0))), (q6, .inl (cI, 8, .inl (fun _ => 0))), (q7, .inl (cI, 8, .inl (fun _ => 0))), (q8, .inl (cZ, 8, .inl (fun _ => 0)))] : va_W) := hw
  refine g_putF (D := (dC, dI)) (ci := 0) (v := .ref q8) (ty := .array .boolean) (C := RX0) (T := TX0) (N := 15) hx hb hts i_X0_init_X0 tyX0 tyX0_ok nmX0 hown hK hw 0 rfl rfl 7 (by decide) (hts _ m_X0_init_12) (fun _ h9 => h9) rfl hin rfl (by decide +kernel) rfl rfl (Nat.le_of_ble_eq_true rfl) dX0_init_67 (fun H locs hw => ?_)
  replace hw : Wd (dC, dI) A s.heap _ _ ([(h0, .inr (0, [.ref q1, .ref q2, .ref q3, .ref q4, .ref q5, .ref q6, .ref q7, .ref q8, .null, .int 0, .int 0, .int 0, .int 0, .int 0, .int 0])), (q1, .inl (cZ, 400, .inl (fun _ => 0))), (q2, .inl (cI, 400, .inl (fun _ => 0))), (q3, .inl (cI, 8, .inl (fun _ => 0))), (q4, .inl (cI, 8, .inl (fun _ => 0))), (q5, .inl (cI, 8, .inl (fun _ => 0))), (q6, .inl (cI, 8, .inl (fun _ => 0))), (q7, .inl (cI, 8, .inl (fun _ => 0))), (q8, .inl (cZ, 8, .inl (fun _ => 0)))] : va_W) := hw
  refine lv_aload_n hx hb dX0_init_70 rfl (lv_at hl 0 rfl) ?_
  refine lv_bipush (v := 8) hx hb dX0_init_71 (by decide) ?_
  refine g_newa_i X (hts _ m_X0_init_5) hw (N := 8) (by decide) (by decide) (by decide) (Nat.le_of_ble_eq_true rfl) (Nat.le_of_ble_eq_true rfl) dX0_init_73 (fun q9 H hw => ?_)
  replace hw : Wd (dC, dI) A s.heap _ _ ([(h0, .inr (0, [.ref q1, .ref q2, .ref q3, .ref q4, .ref q5, .ref q6, .ref q7, .ref q8, .null, .int 0, .int 0, .int 0, .int 0, .int 0, .int 0])), (q1, .inl (cZ, 400, .inl (fun _ => 0))), (q2, .inl (cI, 400, .inl (fun _ => 0))), (q3, .inl (cI, 8, .inl (fun _ => 0))), (q4, .inl (cI, 8, .inl (fun _ => 0))), (q5, .inl (cI, 8, .inl (fun _ => 0))), (q6, .inl (cI, 8, .inl (fun _ => 0))), (q7, .inl (cI, 8, .inl (fun _ => 0))), (q8, .inl (cZ, 8, .inl (fun _ => 0))), (q9, .inl (cI, 8, .inl (fun _ => 0)))] : va_W) := hw
  refine g_putF (D := (dC, dI)) (ci := 0) (v := .ref q9) (ty := .array .int) (C := RX0) (T := TX0) (N := 15) hx hb hts i_X0_init_X0 tyX0 tyX0_ok nmX0 hown hK hw 0 rfl rfl 8 (by decide) (hts _ m_X0_init_13) (fun _ h9 => h9) rfl hin rfl (by decide +kernel) rfl rfl (Nat.le_of_ble_eq_true rfl) dX0_init_75 (fun H locs hw => ?_)
  replace hw : Wd (dC, dI) A s.heap _ _ ([(h0, .inr (0, [.ref q1, .ref q2, .ref q3, .ref q4, .ref q5, .ref q6, .ref q7, .ref q8, .ref q9, .int 0, .int 0, .int 0, .int 0, .int 0, .int 0])), (q1, .inl (cZ, 400, .inl (fun _ => 0))), (q2, .inl (cI, 400, .inl (fun _ => 0))), (q3, .inl (cI, 8, .inl (fun _ => 0))), (q4, .inl (cI, 8, .inl (fun _ => 0))), (q5, .inl (cI, 8, .inl (fun _ => 0))), (q6, .inl (cI, 8, .inl (fun _ => 0))), (q7, .inl (cI, 8, .inl (fun _ => 0))), (q8, .inl (cZ, 8, .inl (fun _ => 0))), (q9, .inl (cI, 8, .inl (fun _ => 0)))] : va_W) := hw
  exact endN (w' := fun aC => w_C aC cI cJ cZ (fun _ => 0) (fun _ => 0) (fun _ => 0) (fun _ => 0) (fun _ => 0) (fun _ => 0) (fun _ => 0) (fun _ => 0) (fun _ => 0) 0 0 0 0 0 0) X hr hlocks (fun k => match k with | 0 => h0 | 1 => q1 | 2 => q2 | 3 => q3 | 4 => q4 | 5 => q5 | 6 => q6 | 7 => q7 | 8 => q8 | _ => q9) rfl hw dX0_init_78
def rm_X2_init : Room := { frames := 1, cells := 2, slots := 16, locals := 12 }
set_option maxRecDepth 20000 in
theorem i_X2_init_X2 : ∀ w ∈ u_ws RX2 TX2 2, w ∈ wsX2_init := by decide +kernel
set_option maxRecDepth 20000 in
theorem m_X2_init_0 : Cond.methodLink RX2 3 objectInit ∈ wsX2_init := by decide +kernel
set_option maxRecDepth 20000 in
theorem m_X2_init_1 : Cond.instanceMethod objectInit ∈ wsX2_init := by decide +kernel
set_option maxRecDepth 20000 in
theorem m_X2_init_2 : Cond.code objectInit ⟨#[0xb1]⟩ 1 none ∈ wsX2_init := by decide +kernel
set_option maxRecDepth 20000 in
theorem m_X2_init_3 : Cond.arrayClass .int ∈ wsX2_init := by decide +kernel
set_option maxRecDepth 20000 in
theorem m_X2_init_4 : Cond.fieldLink RX2 9 "GreatSort$Hosts" "paces" "[I" ∈ wsX2_init := by decide +kernel
set_option maxRecDepth 20000 in
theorem m_X2_init_5 : Cond.arrayClass .boolean ∈ wsX2_init := by decide +kernel
set_option maxRecDepth 20000 in
theorem m_X2_init_6 : Cond.fieldLink RX2 15 "GreatSort$Hosts" "up" "[Z" ∈ wsX2_init := by decide +kernel
set_option maxHeartbeats 4000000 in
set_option maxRecDepth 100000 in
theorem t_X2_init_22 {p : Program} {l : Launch} {e : Env} {s : State} {m : MethodId} {args : Array Value} {below : List Frame} {meth : Method} {c : Code} {Q : State → Prop} {dC : Nat → ClassId} {dI : Nat → Nat → Nat} {cI cJ cZ : ClassId} {A : Nat → Prop} (aO : Nat → Nat) (X : Cx p m c cX2_init 2 s args wsX2_init RX2 (dC, dI) (tyl cI cJ cZ) A) (N : Nat)   :
    ∀ (n : Nat) (v1 : Int32) (O_paces : (Nat → Int32)) (O_up : (Nat → Int32)) (e_O_paces : (Nat → Int32)) (e_O_up : (Nat → Int32)), l_X2_init_22 N  n v1 O_paces O_up = some (e_O_paces, e_O_up) → ∀ (H : Heap) (locs : List Loc) (ls : Array Slot), Wd (dC, dI) A s.heap H locs (w_O aO cI cJ cZ O_paces O_up) → lv_has ls 2 [(0, .ref (aO 0)), (1, .int v1)] → (∀ (H : Heap) (locs : List Loc) (ls : Array Slot), Wd (dC, dI) A s.heap H locs (w_O aO cI cJ cZ e_O_paces e_O_up) → lv_has ls 2 [] → W p l e rm_X2_init s m args below meth c H locs 2 16 Q (F0 m 49 ls [])) → W p l e rm_X2_init s m args below meth c H locs 2 16 Q (F0 m 22 ls []) := by
  obtain ⟨hx, hb, hml, hown, hts⟩ := X.1
  have hK := X.2.1
  have hN := X.2.2.2
  intro n
  induction n with
  | zero =>
    intro _ _ _ _ _ hf
    cases hf
  | succ n ih =>
    intro v1 O_paces O_up e_O_paces e_O_up hf H locs ls hw hl kx
    rw [l_X2_init_22] at hf
    refine lv_iload_n hx hb dX2_init_22 rfl (lv_at hl 1 rfl) ?_
    refine lv_bipush (v := 8) hx hb dX2_init_23 (by decide) ?_
    refine lv_icmp_ge (tgt := 49) hx hb dX2_init_25 (by decide) (fun b1001 => ?_) (fun b1001 => ?_)
    · replace hf := it_t hf b1001
      cases hf
      exact kx _ _ _ hw (lv_sub hl [] rfl)
    · replace hf := it_f hf b1001
      refine lv_aload_n hx hb dX2_init_28 rfl (lv_at hl 0 rfl) ?_
      refine va_get (D := (dC, dI)) (ci := 2) (v := .ref (aO 1)) (C := RX2) (T := TX2) (N := 2) hx hb hts i_X2_init_X2 hown hK hw.1 0 rfl rfl 0 (by decide) (hts _ m_X2_init_4) (fun _ h9 => h9) rfl dX2_init_29 ?_
      refine lv_iload_n hx hb dX2_init_32 rfl (lv_at hl 1 rfl) ?_
      refine lv_bipush (v := 10) hx hb dX2_init_33 (by decide) ?_
      have g1002 := ix_in (gd_l hf)
      replace hf := gd_r hf
      refine g_iast hx hb hK hw 1 0 rfl rfl g1002 dX2_init_35 (fun H locs hw => ?_)
      replace hw : Wd (dC, dI) A s.heap H locs (w_O aO cI cJ cZ (upd O_paces v1.toNatClampNeg 10) O_up) := hw
      refine lv_aload_n hx hb dX2_init_36 rfl (lv_at hl 0 rfl) ?_
      refine va_get (D := (dC, dI)) (ci := 2) (v := .ref (aO 2)) (C := RX2) (T := TX2) (N := 2) hx hb hts i_X2_init_X2 hown hK hw.1 0 rfl rfl 1 (by decide) (hts _ m_X2_init_6) (fun _ h9 => h9) rfl dX2_init_37 ?_
      refine lv_iload_n hx hb dX2_init_40 rfl (lv_at hl 1 rfl) ?_
      refine lv_iconst (v := 1) hx hb dX2_init_41 (by decide) ?_
      have g1003 := ix_in (gd_l hf)
      replace hf := gd_r hf
      refine g_zast hx hb hK hw 2 2 rfl rfl g1003 dX2_init_42 (fun H locs hw => ?_)
      replace hw : Wd (dC, dI) A s.heap H locs (w_O aO cI cJ cZ (upd O_paces v1.toNatClampNeg 10) (upd O_up v1.toNatClampNeg (vp_nar .boolean 1))) := hw
      obtain ⟨x1004, ex1004⟩ : ∃ y : Int32, y = v1 + 1 := ⟨_, rfl⟩
      replace hf := nl_at hf ex1004
      refine lv_iinc (v := x1004) (lv' := [(1, .int x1004), (0, .ref (aO 0))]) hx hb dX2_init_43 hl (k := 1) rfl (by rw [ex1004]; rfl) (by decide) rfl (fun ls hl => ?_)
      refine lv_goto (tgt := 22) hx hb dX2_init_46 (by decide) ?_
      exact ih _ _ _ _ _ hf _ _ _ hw (lv_sub hl [1, 0] rfl) kx
set_option maxHeartbeats 4000000 in
set_option maxRecDepth 100000 in
theorem c_X2_init (l : Launch) (dC : Nat → ClassId) (dI : Nat → Nat → Nat) (cI cJ cZ : ClassId) (N : Nat) {o_O_paces : (Nat → Int32)} {o_O_up : (Nat → Int32)} (hf : f_X2_init N = some (o_O_paces, o_O_up)) (h0 : Nat) : CtN l yX2_init wsX2_init rm_X2_init (dC, dI) (tyl cI cJ cZ) h0 ([(h0, .inr (2, [.null, .null]))] : va_W) (fun aO => w_O aO cI cJ cZ o_O_paces o_O_up) 2 16 := by
  refine startN (cc := cX2_init) (maxL := 2) (by decide +kernel) rfl (Nat.le_of_ble_eq_true rfl) ?_
  intro p e s m below meth c A ls X hr hlocks hin hw hl
  replace X : Cx p m c cX2_init 2 s _ wsX2_init RX2 (dC, dI) (tyl cI cJ cZ) A := X
  replace hl : lv_has ls 2 [(0, .ref h0)] := hl
  obtain ⟨hx, hb, hml, hown, hts⟩ := X.1
  have hK := X.2.1
  have hN := X.2.2.2
  refine lv_aload_n hx hb dX2_init_0 rfl (lv_at hl 0 rfl) ?_
  refine W.objInit hx hb hown (hts _ m_X2_init_0) (hts _ m_X2_init_1) (hts _ m_X2_init_2) rfl (by rw [hml]; exact hl.1) rfl dX2_init_1 (Nat.le_of_ble_eq_true rfl) (Nat.le_of_ble_eq_true rfl) ?_
  refine W.eq (g2 := F0 m 4 ls []) rfl ?_
  refine lv_aload_n hx hb dX2_init_4 rfl (lv_at hl 0 rfl) ?_
  refine lv_bipush (v := 8) hx hb dX2_init_5 (by decide) ?_
  refine g_newa_i X (hts _ m_X2_init_3) hw (N := 8) (by decide) (by decide) (by decide) (Nat.le_of_ble_eq_true rfl) (Nat.le_of_ble_eq_true rfl) dX2_init_7 (fun q1 H hw => ?_)
  replace hw : Wd (dC, dI) A s.heap _ _ ([(h0, .inr (2, [.null, .null])), (q1, .inl (cI, 8, .inl (fun _ => 0)))] : va_W) := hw
  refine g_putF (D := (dC, dI)) (ci := 2) (v := .ref q1) (ty := .array .int) (C := RX2) (T := TX2) (N := 2) hx hb hts i_X2_init_X2 tyX2 tyX2_ok nmX2 hown hK hw 0 rfl rfl 0 (by decide) (hts _ m_X2_init_4) (fun _ h9 => h9) rfl hin rfl (by decide +kernel) rfl rfl (Nat.le_of_ble_eq_true rfl) dX2_init_9 (fun H locs hw => ?_)
  replace hw : Wd (dC, dI) A s.heap _ _ ([(h0, .inr (2, [.ref q1, .null])), (q1, .inl (cI, 8, .inl (fun _ => 0)))] : va_W) := hw
  refine lv_aload_n hx hb dX2_init_12 rfl (lv_at hl 0 rfl) ?_
  refine lv_bipush (v := 8) hx hb dX2_init_13 (by decide) ?_
  refine g_newa_z X (hts _ m_X2_init_5) hw (N := 8) (by decide) (by decide) (by decide) (Nat.le_of_ble_eq_true rfl) (Nat.le_of_ble_eq_true rfl) dX2_init_15 (fun q2 H hw => ?_)
  replace hw : Wd (dC, dI) A s.heap _ _ ([(h0, .inr (2, [.ref q1, .null])), (q1, .inl (cI, 8, .inl (fun _ => 0))), (q2, .inl (cZ, 8, .inl (fun _ => 0)))] : va_W) := hw
  refine g_putF (D := (dC, dI)) (ci := 2) (v := .ref q2) (ty := .array .boolean) (C := RX2) (T := TX2) (N := 2) hx hb hts i_X2_init_X2 tyX2 tyX2_ok nmX2 hown hK hw 0 rfl rfl 1 (by decide) (hts _ m_X2_init_6) (fun _ h9 => h9) rfl hin rfl (by decide +kernel) rfl rfl (Nat.le_of_ble_eq_true rfl) dX2_init_17 (fun H locs hw => ?_)
  replace hw : Wd (dC, dI) A s.heap _ _ ([(h0, .inr (2, [.ref q1, .ref q2])), (q1, .inl (cI, 8, .inl (fun _ => 0))), (q2, .inl (cZ, 8, .inl (fun _ => 0)))] : va_W) := hw
  refine lv_iconst (v := 0) hx hb dX2_init_20 (by decide) ?_
  obtain ⟨aO, ea⟩ : ∃ f : Nat → Nat, f = (fun k => match k with | 0 => h0 | 1 => q1 | _ => q2) := ⟨_, rfl⟩
  have ea0 : aO 0 = h0 := congrFun ea 0
  replace hw : Wd (dC, dI) A s.heap H locs (w_O aO cI cJ cZ (fun _ => 0) (fun _ => 0)) := by rw [ea]; exact hw
  replace hl : lv_has ls 2 [(0, .ref (aO 0))] := by rw [ea]; exact hl
  unfold f_X2_init at hf
  refine lv_istore_n (lv' := [(1, .int 0), (0, .ref (aO 0))]) hx hb dX2_init_21 rfl hl (by decide) rfl (fun ls hl => ?_)
  obtain ⟨e1005, e1006, h1007, hf⟩ := bd2_ob hf
  refine t_X2_init_22 aO X N N _ _ _ _ _ h1007 _ _ _ hw (lv_sub hl [1, 0] rfl) (fun H locs ls hw hl => ?_)
  cases hf
  exact endN X hr hlocks aO ea0 hw dX2_init_49
def rm_X7_init : Room := { frames := 1, cells := 23, slots := 48128, locals := 12 }
set_option maxRecDepth 20000 in
theorem i_X7_init_X7 : ∀ w ∈ u_ws RX7 TX7 36, w ∈ wsX7_init := by decide +kernel
set_option maxRecDepth 20000 in
theorem m_X7_init_0 : Cond.methodLink RX7 1 objectInit ∈ wsX7_init := by decide +kernel
set_option maxRecDepth 20000 in
theorem m_X7_init_1 : Cond.instanceMethod objectInit ∈ wsX7_init := by decide +kernel
set_option maxRecDepth 20000 in
theorem m_X7_init_2 : Cond.code objectInit ⟨#[0xb1]⟩ 1 none ∈ wsX7_init := by decide +kernel
set_option maxRecDepth 20000 in
theorem m_X7_init_3 : Cond.arrayClass .int ∈ wsX7_init := by decide +kernel
set_option maxRecDepth 20000 in
theorem m_X7_init_4 : Cond.fieldLink RX7 7 "GreatSortModel" "sorts" "[I" ∈ wsX7_init := by decide +kernel
set_option maxRecDepth 20000 in
theorem m_X7_init_5 : Cond.fieldLink RX7 13 "GreatSortModel" "values" "[I" ∈ wsX7_init := by decide +kernel
set_option maxRecDepth 20000 in
theorem m_X7_init_6 : Cond.fieldLink RX7 16 "GreatSortModel" "rows" "I" ∈ wsX7_init := by decide +kernel
set_option maxRecDepth 20000 in
theorem m_X7_init_7 : Cond.fieldLink RX7 20 "GreatSortModel" "placeOf" "[I" ∈ wsX7_init := by decide +kernel
set_option maxRecDepth 20000 in
theorem m_X7_init_8 : Cond.arrayClass .boolean ∈ wsX7_init := by decide +kernel
set_option maxRecDepth 20000 in
theorem m_X7_init_9 : Cond.fieldLink RX7 23 "GreatSortModel" "falling" "[Z" ∈ wsX7_init := by decide +kernel
set_option maxRecDepth 20000 in
theorem m_X7_init_10 : Cond.fieldLink RX7 27 "GreatSortModel" "made" "Z" ∈ wsX7_init := by decide +kernel
set_option maxRecDepth 20000 in
theorem m_X7_init_11 : Cond.fieldLink RX7 31 "GreatSortModel" "runs" "I" ∈ wsX7_init := by decide +kernel
set_option maxRecDepth 20000 in
theorem m_X7_init_12 : Cond.fieldLink RX7 34 "GreatSortModel" "allRuns" "I" ∈ wsX7_init := by decide +kernel
set_option maxRecDepth 20000 in
theorem m_X7_init_13 : Cond.fieldLink RX7 37 "GreatSortModel" "begin" "[I" ∈ wsX7_init := by decide +kernel
set_option maxRecDepth 20000 in
theorem m_X7_init_14 : Cond.fieldLink RX7 40 "GreatSortModel" "size" "[I" ∈ wsX7_init := by decide +kernel
set_option maxRecDepth 20000 in
theorem m_X7_init_15 : Cond.constant RX7 43 (40000) ∈ wsX7_init := by decide +kernel
set_option maxRecDepth 20000 in
theorem m_X7_init_16 : Cond.fieldLink RX7 44 "GreatSortModel" "pool" "[I" ∈ wsX7_init := by decide +kernel
set_option maxRecDepth 20000 in
theorem m_X7_init_17 : Cond.fieldLink RX7 47 "GreatSortModel" "pooled" "I" ∈ wsX7_init := by decide +kernel
set_option maxRecDepth 20000 in
theorem m_X7_init_18 : Cond.fieldLink RX7 50 "GreatSortModel" "ways" "I" ∈ wsX7_init := by decide +kernel
set_option maxRecDepth 20000 in
theorem m_X7_init_19 : Cond.fieldLink RX7 53 "GreatSortModel" "merges" "I" ∈ wsX7_init := by decide +kernel
set_option maxRecDepth 20000 in
theorem m_X7_init_20 : Cond.fieldLink RX7 56 "GreatSortModel" "takes" "[I" ∈ wsX7_init := by decide +kernel
set_option maxRecDepth 20000 in
theorem m_X7_init_21 : Cond.fieldLink RX7 59 "GreatSortModel" "taken" "[I" ∈ wsX7_init := by decide +kernel
set_option maxRecDepth 20000 in
theorem m_X7_init_22 : Cond.fieldLink RX7 62 "GreatSortModel" "parts" "I" ∈ wsX7_init := by decide +kernel
set_option maxRecDepth 20000 in
theorem m_X7_init_23 : Cond.fieldLink RX7 65 "GreatSortModel" "every" "I" ∈ wsX7_init := by decide +kernel
set_option maxRecDepth 20000 in
theorem m_X7_init_24 : Cond.fieldLink RX7 68 "GreatSortModel" "samples" "I" ∈ wsX7_init := by decide +kernel
set_option maxRecDepth 20000 in
theorem m_X7_init_25 : Cond.fieldLink RX7 71 "GreatSortModel" "sample" "[I" ∈ wsX7_init := by decide +kernel
set_option maxRecDepth 20000 in
theorem m_X7_init_26 : Cond.fieldLink RX7 74 "GreatSortModel" "ends" "[I" ∈ wsX7_init := by decide +kernel
set_option maxRecDepth 20000 in
theorem m_X7_init_27 : Cond.fieldLink RX7 77 "GreatSortModel" "partSize" "[I" ∈ wsX7_init := by decide +kernel
set_option maxRecDepth 20000 in
theorem m_X7_init_28 : Cond.fieldLink RX7 80 "GreatSortModel" "merged" "[I" ∈ wsX7_init := by decide +kernel
set_option maxRecDepth 20000 in
theorem m_X7_init_29 : Cond.fieldLink RX7 83 "GreatSortModel" "most" "[I" ∈ wsX7_init := by decide +kernel
set_option maxRecDepth 20000 in
theorem m_X7_init_30 : Cond.fieldLink RX7 86 "GreatSortModel" "done" "[Z" ∈ wsX7_init := by decide +kernel
set_option maxRecDepth 20000 in
theorem m_X7_init_31 : Cond.fieldLink RX7 89 "GreatSortModel" "on" "[I" ∈ wsX7_init := by decide +kernel
set_option maxRecDepth 20000 in
theorem m_X7_init_32 : Cond.fieldLink RX7 92 "GreatSortModel" "ticks" "I" ∈ wsX7_init := by decide +kernel
set_option maxRecDepth 20000 in
theorem m_X7_init_33 : Cond.fieldLink RX7 95 "GreatSortModel" "mergedAll" "I" ∈ wsX7_init := by decide +kernel
set_option maxRecDepth 20000 in
theorem m_X7_init_34 : Cond.fieldLink RX7 98 "GreatSortModel" "again" "I" ∈ wsX7_init := by decide +kernel
set_option maxRecDepth 20000 in
theorem m_X7_init_35 : Cond.fieldLink RX7 101 "GreatSortModel" "paces" "[I" ∈ wsX7_init := by decide +kernel
set_option maxRecDepth 20000 in
theorem m_X7_init_36 : Cond.fieldLink RX7 104 "GreatSortModel" "up" "[Z" ∈ wsX7_init := by decide +kernel
set_option maxRecDepth 20000 in
theorem m_X7_init_37 : Cond.fieldLink RX7 107 "GreatSortModel" "byHost" "[I" ∈ wsX7_init := by decide +kernel
set_option maxRecDepth 20000 in
theorem m_X7_init_38 : Cond.fieldLink RX7 110 "GreatSortModel" "heap" "[I" ∈ wsX7_init := by decide +kernel
set_option maxRecDepth 20000 in
theorem m_X7_init_39 : Cond.fieldLink RX7 113 "GreatSortModel" "used" "[Z" ∈ wsX7_init := by decide +kernel
set_option maxRecDepth 20000 in
theorem m_X7_init_40 : Cond.fieldLink RX7 116 "GreatSortModel" "planned" "[I" ∈ wsX7_init := by decide +kernel
set_option maxRecDepth 20000 in
theorem m_X7_init_41 : Cond.fieldLink RX7 119 "GreatSortModel" "gone" "[I" ∈ wsX7_init := by decide +kernel
set_option maxHeartbeats 4000000 in
set_option maxRecDepth 100000 in
theorem t_X7_init_262 {p : Program} {l : Launch} {e : Env} {s : State} {m : MethodId} {args : Array Value} {below : List Frame} {meth : Method} {c : Code} {Q : State → Prop} {dC : Nat → ClassId} {dI : Nat → Nat → Nat} {cI cJ cZ : ClassId} {A : Nat → Prop} (aM : Nat → Nat) (X : Cx p m c cX7_init 2 s args wsX7_init RX7 (dC, dI) (tyl cI cJ cZ) A) (N : Nat) (M_sorts : (Nat → Int32)) (M_values : (Nat → Int32)) (M_rows : Int32) (M_falling : (Nat → Int32)) (M_made : Int32) (M_runs : Int32) (M_allRuns : Int32) (M_begin : (Nat → Int32)) (M_size : (Nat → Int32)) (M_pool : (Nat → Int32)) (M_pooled : Int32) (M_ways : Int32) (M_merges : Int32) (M_takes : (Nat → Int32)) (M_taken : (Nat → Int32)) (M_parts : Int32) (M_every : Int32) (M_samples : Int32) (M_sample : (Nat → Int32)) (M_ends : (Nat → Int32)) (M_partSize : (Nat → Int32)) (M_merged : (Nat → Int32)) (M_most : (Nat → Int32)) (M_done : (Nat → Int32)) (M_on : (Nat → Int32)) (M_ticks : Int32) (M_mergedAll : Int32) (M_again : Int32) (M_paces : (Nat → Int32)) (M_up : (Nat → Int32)) (M_byHost : (Nat → Int32)) (M_heap : (Nat → Int32)) (M_used : (Nat → Int32)) (M_planned : (Nat → Int32)) (M_gone : (Nat → Int32))  :
    ∀ (n : Nat) (v1 : Int32) (M_placeOf : (Nat → Int32)) (e_M_placeOf : (Nat → Int32)), l_X7_init_262 N  n v1 M_placeOf = some e_M_placeOf → ∀ (H : Heap) (locs : List Loc) (ls : Array Slot), Wd (dC, dI) A s.heap H locs (w_M aM cI cJ cZ M_sorts M_values M_rows M_placeOf M_falling M_made M_runs M_allRuns M_begin M_size M_pool M_pooled M_ways M_merges M_takes M_taken M_parts M_every M_samples M_sample M_ends M_partSize M_merged M_most M_done M_on M_ticks M_mergedAll M_again M_paces M_up M_byHost M_heap M_used M_planned M_gone) → lv_has ls 2 [(0, .ref (aM 0)), (1, .int v1)] → (∀ (H : Heap) (locs : List Loc) (ls : Array Slot), Wd (dC, dI) A s.heap H locs (w_M aM cI cJ cZ M_sorts M_values M_rows e_M_placeOf M_falling M_made M_runs M_allRuns M_begin M_size M_pool M_pooled M_ways M_merges M_takes M_taken M_parts M_every M_samples M_sample M_ends M_partSize M_merged M_most M_done M_on M_ticks M_mergedAll M_again M_paces M_up M_byHost M_heap M_used M_planned M_gone) → lv_has ls 2 [(0, .ref (aM 0))] → W p l e rm_X7_init s m args below meth c H locs 23 48128 Q (F0 m 280 ls [])) → W p l e rm_X7_init s m args below meth c H locs 23 48128 Q (F0 m 262 ls []) := by
  obtain ⟨hx, hb, hml, hown, hts⟩ := X.1
  have hK := X.2.1
  have hN := X.2.2.2
  intro n
  induction n with
  | zero =>
    intro _ _ _ hf
    cases hf
  | succ n ih =>
    intro v1 M_placeOf e_M_placeOf hf H locs ls hw hl kx
    rw [l_X7_init_262] at hf
    refine lv_iload_n hx hb dX7_init_262 rfl (lv_at hl 1 rfl) ?_
    refine lv_iconst (v := 4) hx hb dX7_init_263 (by decide) ?_
    refine lv_icmp_ge (tgt := 280) hx hb dX7_init_264 (by decide) (fun b1001 => ?_) (fun b1001 => ?_)
    · replace hf := it_t hf b1001
      cases hf
      exact kx _ _ _ hw (lv_sub hl [0] rfl)
    · replace hf := it_f hf b1001
      refine lv_aload_n hx hb dX7_init_267 rfl (lv_at hl 0 rfl) ?_
      refine va_get (D := (dC, dI)) (ci := 7) (v := .ref (aM 3)) (C := RX7) (T := TX7) (N := 36) hx hb hts i_X7_init_X7 hown hK hw.1 0 rfl rfl 3 (by decide) (hts _ m_X7_init_7) (fun _ h9 => h9) rfl dX7_init_268 ?_
      refine lv_iload_n hx hb dX7_init_271 rfl (lv_at hl 1 rfl) ?_
      refine lv_iload_n hx hb dX7_init_272 rfl (lv_at hl 1 rfl) ?_
      have g1002 := ix_in (gd_l hf)
      replace hf := gd_r hf
      refine g_iast hx hb hK hw 3 0 rfl rfl g1002 dX7_init_273 (fun H locs hw => ?_)
      replace hw : Wd (dC, dI) A s.heap H locs (w_M aM cI cJ cZ M_sorts M_values M_rows (upd M_placeOf v1.toNatClampNeg v1) M_falling M_made M_runs M_allRuns M_begin M_size M_pool M_pooled M_ways M_merges M_takes M_taken M_parts M_every M_samples M_sample M_ends M_partSize M_merged M_most M_done M_on M_ticks M_mergedAll M_again M_paces M_up M_byHost M_heap M_used M_planned M_gone) := hw
      obtain ⟨x1003, ex1003⟩ : ∃ y : Int32, y = v1 + 1 := ⟨_, rfl⟩
      replace hf := nl_at hf ex1003
      refine lv_iinc (v := x1003) (lv' := [(1, .int x1003), (0, .ref (aM 0))]) hx hb dX7_init_274 hl (k := 1) rfl (by rw [ex1003]; rfl) (by decide) rfl (fun ls hl => ?_)
      refine lv_goto (tgt := 262) hx hb dX7_init_277 (by decide) ?_
      exact ih _ _ _ hf _ _ _ hw (lv_sub hl [1, 0] rfl) kx
set_option maxHeartbeats 4000000 in
set_option maxRecDepth 100000 in
theorem t_X7_init_282 {p : Program} {l : Launch} {e : Env} {s : State} {m : MethodId} {args : Array Value} {below : List Frame} {meth : Method} {c : Code} {Q : State → Prop} {dC : Nat → ClassId} {dI : Nat → Nat → Nat} {cI cJ cZ : ClassId} {A : Nat → Prop} (aM : Nat → Nat) (X : Cx p m c cX7_init 2 s args wsX7_init RX7 (dC, dI) (tyl cI cJ cZ) A) (N : Nat) (M_sorts : (Nat → Int32)) (M_values : (Nat → Int32)) (M_rows : Int32) (M_placeOf : (Nat → Int32)) (M_falling : (Nat → Int32)) (M_made : Int32) (M_runs : Int32) (M_allRuns : Int32) (M_begin : (Nat → Int32)) (M_size : (Nat → Int32)) (M_pool : (Nat → Int32)) (M_pooled : Int32) (M_ways : Int32) (M_merges : Int32) (M_takes : (Nat → Int32)) (M_taken : (Nat → Int32)) (M_parts : Int32) (M_every : Int32) (M_samples : Int32) (M_sample : (Nat → Int32)) (M_ends : (Nat → Int32)) (M_partSize : (Nat → Int32)) (M_merged : (Nat → Int32)) (M_most : (Nat → Int32)) (M_done : (Nat → Int32)) (M_on : (Nat → Int32)) (M_ticks : Int32) (M_mergedAll : Int32) (M_again : Int32) (M_byHost : (Nat → Int32)) (M_heap : (Nat → Int32)) (M_used : (Nat → Int32)) (M_planned : (Nat → Int32)) (M_gone : (Nat → Int32))  :
    ∀ (n : Nat) (v1 : Int32) (M_paces : (Nat → Int32)) (M_up : (Nat → Int32)) (e_M_paces : (Nat → Int32)) (e_M_up : (Nat → Int32)), l_X7_init_282 N  n v1 M_paces M_up = some (e_M_paces, e_M_up) → ∀ (H : Heap) (locs : List Loc) (ls : Array Slot), Wd (dC, dI) A s.heap H locs (w_M aM cI cJ cZ M_sorts M_values M_rows M_placeOf M_falling M_made M_runs M_allRuns M_begin M_size M_pool M_pooled M_ways M_merges M_takes M_taken M_parts M_every M_samples M_sample M_ends M_partSize M_merged M_most M_done M_on M_ticks M_mergedAll M_again M_paces M_up M_byHost M_heap M_used M_planned M_gone) → lv_has ls 2 [(0, .ref (aM 0)), (1, .int v1)] → (∀ (H : Heap) (locs : List Loc) (ls : Array Slot), Wd (dC, dI) A s.heap H locs (w_M aM cI cJ cZ M_sorts M_values M_rows M_placeOf M_falling M_made M_runs M_allRuns M_begin M_size M_pool M_pooled M_ways M_merges M_takes M_taken M_parts M_every M_samples M_sample M_ends M_partSize M_merged M_most M_done M_on M_ticks M_mergedAll M_again e_M_paces e_M_up M_byHost M_heap M_used M_planned M_gone) → lv_has ls 2 [] → W p l e rm_X7_init s m args below meth c H locs 23 48128 Q (F0 m 309 ls [])) → W p l e rm_X7_init s m args below meth c H locs 23 48128 Q (F0 m 282 ls []) := by
  obtain ⟨hx, hb, hml, hown, hts⟩ := X.1
  have hK := X.2.1
  have hN := X.2.2.2
  intro n
  induction n with
  | zero =>
    intro _ _ _ _ _ hf
    cases hf
  | succ n ih =>
    intro v1 M_paces M_up e_M_paces e_M_up hf H locs ls hw hl kx
    rw [l_X7_init_282] at hf
    refine lv_iload_n hx hb dX7_init_282 rfl (lv_at hl 1 rfl) ?_
    refine lv_bipush (v := 8) hx hb dX7_init_283 (by decide) ?_
    refine lv_icmp_ge (tgt := 309) hx hb dX7_init_285 (by decide) (fun b1006 => ?_) (fun b1006 => ?_)
    · replace hf := it_t hf b1006
      cases hf
      exact kx _ _ _ hw (lv_sub hl [] rfl)
    · replace hf := it_f hf b1006
      refine lv_aload_n hx hb dX7_init_288 rfl (lv_at hl 0 rfl) ?_
      refine va_get (D := (dC, dI)) (ci := 7) (v := .ref (aM 17)) (C := RX7) (T := TX7) (N := 36) hx hb hts i_X7_init_X7 hown hK hw.1 0 rfl rfl 29 (by decide) (hts _ m_X7_init_35) (fun _ h9 => h9) rfl dX7_init_289 ?_
      refine lv_iload_n hx hb dX7_init_292 rfl (lv_at hl 1 rfl) ?_
      refine lv_bipush (v := 10) hx hb dX7_init_293 (by decide) ?_
      have g1007 := ix_in (gd_l hf)
      replace hf := gd_r hf
      refine g_iast hx hb hK hw 17 0 rfl rfl g1007 dX7_init_295 (fun H locs hw => ?_)
      replace hw : Wd (dC, dI) A s.heap H locs (w_M aM cI cJ cZ M_sorts M_values M_rows M_placeOf M_falling M_made M_runs M_allRuns M_begin M_size M_pool M_pooled M_ways M_merges M_takes M_taken M_parts M_every M_samples M_sample M_ends M_partSize M_merged M_most M_done M_on M_ticks M_mergedAll M_again (upd M_paces v1.toNatClampNeg 10) M_up M_byHost M_heap M_used M_planned M_gone) := hw
      refine lv_aload_n hx hb dX7_init_296 rfl (lv_at hl 0 rfl) ?_
      refine va_get (D := (dC, dI)) (ci := 7) (v := .ref (aM 18)) (C := RX7) (T := TX7) (N := 36) hx hb hts i_X7_init_X7 hown hK hw.1 0 rfl rfl 30 (by decide) (hts _ m_X7_init_36) (fun _ h9 => h9) rfl dX7_init_297 ?_
      refine lv_iload_n hx hb dX7_init_300 rfl (lv_at hl 1 rfl) ?_
      refine lv_iconst (v := 1) hx hb dX7_init_301 (by decide) ?_
      have g1008 := ix_in (gd_l hf)
      replace hf := gd_r hf
      refine g_zast hx hb hK hw 18 2 rfl rfl g1008 dX7_init_302 (fun H locs hw => ?_)
      replace hw : Wd (dC, dI) A s.heap H locs (w_M aM cI cJ cZ M_sorts M_values M_rows M_placeOf M_falling M_made M_runs M_allRuns M_begin M_size M_pool M_pooled M_ways M_merges M_takes M_taken M_parts M_every M_samples M_sample M_ends M_partSize M_merged M_most M_done M_on M_ticks M_mergedAll M_again (upd M_paces v1.toNatClampNeg 10) (upd M_up v1.toNatClampNeg (vp_nar .boolean 1)) M_byHost M_heap M_used M_planned M_gone) := hw
      obtain ⟨x1009, ex1009⟩ : ∃ y : Int32, y = v1 + 1 := ⟨_, rfl⟩
      replace hf := nl_at hf ex1009
      refine lv_iinc (v := x1009) (lv' := [(1, .int x1009), (0, .ref (aM 0))]) hx hb dX7_init_303 hl (k := 1) rfl (by rw [ex1009]; rfl) (by decide) rfl (fun ls hl => ?_)
      refine lv_goto (tgt := 282) hx hb dX7_init_306 (by decide) ?_
      exact ih _ _ _ _ _ hf _ _ _ hw (lv_sub hl [1, 0] rfl) kx
set_option maxHeartbeats 4000000 in
set_option maxRecDepth 100000 in
theorem c_X7_init (l : Launch) (dC : Nat → ClassId) (dI : Nat → Nat → Nat) (cI cJ cZ : ClassId) (N : Nat) {o_M_placeOf : (Nat → Int32)} {o_M_paces : (Nat → Int32)} {o_M_up : (Nat → Int32)} (hf : f_X7_init N = some (o_M_placeOf, o_M_paces, o_M_up)) (h0 : Nat) : CtN l yX7_init wsX7_init rm_X7_init (dC, dI) (tyl cI cJ cZ) h0 ([(h0, .inr (7, [.null, .null, .int 0, .null, .null, .int 0, .int 0, .int 0, .null, .null, .null, .int 0, .int 0, .int 0, .null, .null, .int 0, .int 0, .int 0, .null, .null, .null, .null, .null, .null, .null, .int 0, .int 0, .int 0, .null, .null, .null, .null, .null, .null, .null]))] : va_W) (fun aM => w_M aM cI cJ cZ (fun _ => 0) (fun _ => 0) 0 o_M_placeOf (fun _ => 0) 0 0 0 (fun _ => 0) (fun _ => 0) (fun _ => 0) 0 (-1) 0 (fun _ => 0) (fun _ => 0) 0 0 0 (fun _ => 0) (fun _ => 0) (fun _ => 0) (fun _ => 0) (fun _ => 0) (fun _ => 0) (fun _ => 0) 0 0 0 o_M_paces o_M_up (fun _ => 0) (fun _ => 0) (fun _ => 0) (fun _ => 0) (fun _ => 0)) 23 48128 := by
  refine startN (cc := cX7_init) (maxL := 2) (by decide +kernel) rfl (Nat.le_of_ble_eq_true rfl) ?_
  intro p e s m below meth c A ls X hr hlocks hin hw hl
  replace X : Cx p m c cX7_init 2 s _ wsX7_init RX7 (dC, dI) (tyl cI cJ cZ) A := X
  replace hl : lv_has ls 2 [(0, .ref h0)] := hl
  obtain ⟨hx, hb, hml, hown, hts⟩ := X.1
  have hK := X.2.1
  have hN := X.2.2.2
  refine lv_aload_n hx hb dX7_init_0 rfl (lv_at hl 0 rfl) ?_
  refine W.objInit hx hb hown (hts _ m_X7_init_0) (hts _ m_X7_init_1) (hts _ m_X7_init_2) rfl (by rw [hml]; exact hl.1) rfl dX7_init_1 (Nat.le_of_ble_eq_true rfl) (Nat.le_of_ble_eq_true rfl) ?_
  refine W.eq (g2 := F0 m 4 ls []) rfl ?_
  refine lv_aload_n hx hb dX7_init_4 rfl (lv_at hl 0 rfl) ?_
  refine lv_sipush (v := 400) hx hb dX7_init_5 (by decide) ?_
  refine g_newa_i X (hts _ m_X7_init_3) hw (N := 400) (by decide) (by decide) (by decide) (Nat.le_of_ble_eq_true rfl) (Nat.le_of_ble_eq_true rfl) dX7_init_8 (fun q1 H hw => ?_)
  replace hw : Wd (dC, dI) A s.heap _ _ ([(h0, .inr (7, [.null, .null, .int 0, .null, .null, .int 0, .int 0, .int 0, .null, .null, .null, .int 0, .int 0, .int 0, .null, .null, .int 0, .int 0, .int 0, .null, .null, .null, .null, .null, .null, .null, .int 0, .int 0, .int 0, .null, .null, .null, .null, .null, .null, .null])), (q1, .inl (cI, 400, .inl (fun _ => 0)))] : va_W) := hw
  refine g_putF (D := (dC, dI)) (ci := 7) (v := .ref q1) (ty := .array .int) (C := RX7) (T := TX7) (N := 36) hx hb hts i_X7_init_X7 tyX7 tyX7_ok nmX7 hown hK hw 0 rfl rfl 0 (by decide) (hts _ m_X7_init_4) (fun _ h9 => h9) rfl hin rfl (by decide +kernel) rfl rfl (Nat.le_of_ble_eq_true rfl) dX7_init_10 (fun H locs hw => ?_)
  replace hw : Wd (dC, dI) A s.heap _ _ ([(h0, .inr (7, [.ref q1, .null, .int 0, .null, .null, .int 0, .int 0, .int 0, .null, .null, .null, .int 0, .int 0, .int 0, .null, .null, .int 0, .int 0, .int 0, .null, .null, .null, .null, .null, .null, .null, .int 0, .int 0, .int 0, .null, .null, .null, .null, .null, .null, .null])), (q1, .inl (cI, 400, .inl (fun _ => 0)))] : va_W) := hw
  refine lv_aload_n hx hb dX7_init_13 rfl (lv_at hl 0 rfl) ?_
  refine lv_sipush (v := 400) hx hb dX7_init_14 (by decide) ?_
  refine g_newa_i X (hts _ m_X7_init_3) hw (N := 400) (by decide) (by decide) (by decide) (Nat.le_of_ble_eq_true rfl) (Nat.le_of_ble_eq_true rfl) dX7_init_17 (fun q2 H hw => ?_)
  replace hw : Wd (dC, dI) A s.heap _ _ ([(h0, .inr (7, [.ref q1, .null, .int 0, .null, .null, .int 0, .int 0, .int 0, .null, .null, .null, .int 0, .int 0, .int 0, .null, .null, .int 0, .int 0, .int 0, .null, .null, .null, .null, .null, .null, .null, .int 0, .int 0, .int 0, .null, .null, .null, .null, .null, .null, .null])), (q1, .inl (cI, 400, .inl (fun _ => 0))), (q2, .inl (cI, 400, .inl (fun _ => 0)))] : va_W) := hw
  refine g_putF (D := (dC, dI)) (ci := 7) (v := .ref q2) (ty := .array .int) (C := RX7) (T := TX7) (N := 36) hx hb hts i_X7_init_X7 tyX7 tyX7_ok nmX7 hown hK hw 0 rfl rfl 1 (by decide) (hts _ m_X7_init_5) (fun _ h9 => h9) rfl hin rfl (by decide +kernel) rfl rfl (Nat.le_of_ble_eq_true rfl) dX7_init_19 (fun H locs hw => ?_)
  replace hw : Wd (dC, dI) A s.heap _ _ ([(h0, .inr (7, [.ref q1, .ref q2, .int 0, .null, .null, .int 0, .int 0, .int 0, .null, .null, .null, .int 0, .int 0, .int 0, .null, .null, .int 0, .int 0, .int 0, .null, .null, .null, .null, .null, .null, .null, .int 0, .int 0, .int 0, .null, .null, .null, .null, .null, .null, .null])), (q1, .inl (cI, 400, .inl (fun _ => 0))), (q2, .inl (cI, 400, .inl (fun _ => 0)))] : va_W) := hw
  refine lv_aload_n hx hb dX7_init_22 rfl (lv_at hl 0 rfl) ?_
  refine lv_iconst (v := 0) hx hb dX7_init_23 (by decide) ?_
  refine g_put (D := (dC, dI)) (ci := 7) (v := .int 0) (ty := .int) (C := RX7) (T := TX7) (N := 36) hx hb hts i_X7_init_X7 tyX7 tyX7_ok nmX7 hown hK hw 0 rfl rfl 2 (by decide) (hts _ m_X7_init_6) (fun _ h9 => h9) rfl (by decide +kernel) rfl rfl (Nat.le_of_ble_eq_true rfl) dX7_init_24 (fun H locs hw => ?_)
  replace hw : Wd (dC, dI) A s.heap _ _ ([(h0, .inr (7, [.ref q1, .ref q2, .int 0, .null, .null, .int 0, .int 0, .int 0, .null, .null, .null, .int 0, .int 0, .int 0, .null, .null, .int 0, .int 0, .int 0, .null, .null, .null, .null, .null, .null, .null, .int 0, .int 0, .int 0, .null, .null, .null, .null, .null, .null, .null])), (q1, .inl (cI, 400, .inl (fun _ => 0))), (q2, .inl (cI, 400, .inl (fun _ => 0)))] : va_W) := hw
  refine lv_aload_n hx hb dX7_init_27 rfl (lv_at hl 0 rfl) ?_
  refine lv_iconst (v := 4) hx hb dX7_init_28 (by decide) ?_
  refine g_newa_i X (hts _ m_X7_init_3) hw (N := 4) (by decide) (by decide) (by decide) (Nat.le_of_ble_eq_true rfl) (Nat.le_of_ble_eq_true rfl) dX7_init_29 (fun q3 H hw => ?_)
  replace hw : Wd (dC, dI) A s.heap _ _ ([(h0, .inr (7, [.ref q1, .ref q2, .int 0, .null, .null, .int 0, .int 0, .int 0, .null, .null, .null, .int 0, .int 0, .int 0, .null, .null, .int 0, .int 0, .int 0, .null, .null, .null, .null, .null, .null, .null, .int 0, .int 0, .int 0, .null, .null, .null, .null, .null, .null, .null])), (q1, .inl (cI, 400, .inl (fun _ => 0))), (q2, .inl (cI, 400, .inl (fun _ => 0))), (q3, .inl (cI, 4, .inl (fun _ => 0)))] : va_W) := hw
  refine g_putF (D := (dC, dI)) (ci := 7) (v := .ref q3) (ty := .array .int) (C := RX7) (T := TX7) (N := 36) hx hb hts i_X7_init_X7 tyX7 tyX7_ok nmX7 hown hK hw 0 rfl rfl 3 (by decide) (hts _ m_X7_init_7) (fun _ h9 => h9) rfl hin rfl (by decide +kernel) rfl rfl (Nat.le_of_ble_eq_true rfl) dX7_init_31 (fun H locs hw => ?_)
  replace hw : Wd (dC, dI) A s.heap _ _ ([(h0, .inr (7, [.ref q1, .ref q2, .int 0, .ref q3, .null, .int 0, .int 0, .int 0, .null, .null, .null, .int 0, .int 0, .int 0, .null, .null, .int 0, .int 0, .int 0, .null, .null, .null, .null, .null, .null, .null, .int 0, .int 0, .int 0, .null, .null, .null, .null, .null, .null, .null])), (q1, .inl (cI, 400, .inl (fun _ => 0))), (q2, .inl (cI, 400, .inl (fun _ => 0))), (q3, .inl (cI, 4, .inl (fun _ => 0)))] : va_W) := hw
  refine lv_aload_n hx hb dX7_init_34 rfl (lv_at hl 0 rfl) ?_
  refine lv_iconst (v := 4) hx hb dX7_init_35 (by decide) ?_
  refine g_newa_z X (hts _ m_X7_init_8) hw (N := 4) (by decide) (by decide) (by decide) (Nat.le_of_ble_eq_true rfl) (Nat.le_of_ble_eq_true rfl) dX7_init_36 (fun q4 H hw => ?_)
  replace hw : Wd (dC, dI) A s.heap _ _ ([(h0, .inr (7, [.ref q1, .ref q2, .int 0, .ref q3, .null, .int 0, .int 0, .int 0, .null, .null, .null, .int 0, .int 0, .int 0, .null, .null, .int 0, .int 0, .int 0, .null, .null, .null, .null, .null, .null, .null, .int 0, .int 0, .int 0, .null, .null, .null, .null, .null, .null, .null])), (q1, .inl (cI, 400, .inl (fun _ => 0))), (q2, .inl (cI, 400, .inl (fun _ => 0))), (q3, .inl (cI, 4, .inl (fun _ => 0))), (q4, .inl (cZ, 4, .inl (fun _ => 0)))] : va_W) := hw
  refine g_putF (D := (dC, dI)) (ci := 7) (v := .ref q4) (ty := .array .boolean) (C := RX7) (T := TX7) (N := 36) hx hb hts i_X7_init_X7 tyX7 tyX7_ok nmX7 hown hK hw 0 rfl rfl 4 (by decide) (hts _ m_X7_init_9) (fun _ h9 => h9) rfl hin rfl (by decide +kernel) rfl rfl (Nat.le_of_ble_eq_true rfl) dX7_init_38 (fun H locs hw => ?_)
  replace hw : Wd (dC, dI) A s.heap _ _ ([(h0, .inr (7, [.ref q1, .ref q2, .int 0, .ref q3, .ref q4, .int 0, .int 0, .int 0, .null, .null, .null, .int 0, .int 0, .int 0, .null, .null, .int 0, .int 0, .int 0, .null, .null, .null, .null, .null, .null, .null, .int 0, .int 0, .int 0, .null, .null, .null, .null, .null, .null, .null])), (q1, .inl (cI, 400, .inl (fun _ => 0))), (q2, .inl (cI, 400, .inl (fun _ => 0))), (q3, .inl (cI, 4, .inl (fun _ => 0))), (q4, .inl (cZ, 4, .inl (fun _ => 0)))] : va_W) := hw
  refine lv_aload_n hx hb dX7_init_41 rfl (lv_at hl 0 rfl) ?_
  refine lv_iconst (v := 0) hx hb dX7_init_42 (by decide) ?_
  refine g_put (D := (dC, dI)) (ci := 7) (v := .int 0) (ty := .boolean) (C := RX7) (T := TX7) (N := 36) hx hb hts i_X7_init_X7 tyX7 tyX7_ok nmX7 hown hK hw 0 rfl rfl 5 (by decide) (hts _ m_X7_init_10) (fun _ h9 => h9) rfl (by decide +kernel) (by decide) (by decide) (Nat.le_of_ble_eq_true rfl) dX7_init_43 (fun H locs hw => ?_)
  replace hw : Wd (dC, dI) A s.heap _ _ ([(h0, .inr (7, [.ref q1, .ref q2, .int 0, .ref q3, .ref q4, .int 0, .int 0, .int 0, .null, .null, .null, .int 0, .int 0, .int 0, .null, .null, .int 0, .int 0, .int 0, .null, .null, .null, .null, .null, .null, .null, .int 0, .int 0, .int 0, .null, .null, .null, .null, .null, .null, .null])), (q1, .inl (cI, 400, .inl (fun _ => 0))), (q2, .inl (cI, 400, .inl (fun _ => 0))), (q3, .inl (cI, 4, .inl (fun _ => 0))), (q4, .inl (cZ, 4, .inl (fun _ => 0)))] : va_W) := hw
  refine lv_aload_n hx hb dX7_init_46 rfl (lv_at hl 0 rfl) ?_
  refine lv_iconst (v := 0) hx hb dX7_init_47 (by decide) ?_
  refine g_put (D := (dC, dI)) (ci := 7) (v := .int 0) (ty := .int) (C := RX7) (T := TX7) (N := 36) hx hb hts i_X7_init_X7 tyX7 tyX7_ok nmX7 hown hK hw 0 rfl rfl 6 (by decide) (hts _ m_X7_init_11) (fun _ h9 => h9) rfl (by decide +kernel) rfl rfl (Nat.le_of_ble_eq_true rfl) dX7_init_48 (fun H locs hw => ?_)
  replace hw : Wd (dC, dI) A s.heap _ _ ([(h0, .inr (7, [.ref q1, .ref q2, .int 0, .ref q3, .ref q4, .int 0, .int 0, .int 0, .null, .null, .null, .int 0, .int 0, .int 0, .null, .null, .int 0, .int 0, .int 0, .null, .null, .null, .null, .null, .null, .null, .int 0, .int 0, .int 0, .null, .null, .null, .null, .null, .null, .null])), (q1, .inl (cI, 400, .inl (fun _ => 0))), (q2, .inl (cI, 400, .inl (fun _ => 0))), (q3, .inl (cI, 4, .inl (fun _ => 0))), (q4, .inl (cZ, 4, .inl (fun _ => 0)))] : va_W) := hw
  refine lv_aload_n hx hb dX7_init_51 rfl (lv_at hl 0 rfl) ?_
  refine lv_iconst (v := 0) hx hb dX7_init_52 (by decide) ?_
  refine g_put (D := (dC, dI)) (ci := 7) (v := .int 0) (ty := .int) (C := RX7) (T := TX7) (N := 36) hx hb hts i_X7_init_X7 tyX7 tyX7_ok nmX7 hown hK hw 0 rfl rfl 7 (by decide) (hts _ m_X7_init_12) (fun _ h9 => h9) rfl (by decide +kernel) rfl rfl (Nat.le_of_ble_eq_true rfl) dX7_init_53 (fun H locs hw => ?_)
  replace hw : Wd (dC, dI) A s.heap _ _ ([(h0, .inr (7, [.ref q1, .ref q2, .int 0, .ref q3, .ref q4, .int 0, .int 0, .int 0, .null, .null, .null, .int 0, .int 0, .int 0, .null, .null, .int 0, .int 0, .int 0, .null, .null, .null, .null, .null, .null, .null, .int 0, .int 0, .int 0, .null, .null, .null, .null, .null, .null, .null])), (q1, .inl (cI, 400, .inl (fun _ => 0))), (q2, .inl (cI, 400, .inl (fun _ => 0))), (q3, .inl (cI, 4, .inl (fun _ => 0))), (q4, .inl (cZ, 4, .inl (fun _ => 0)))] : va_W) := hw
  refine lv_aload_n hx hb dX7_init_56 rfl (lv_at hl 0 rfl) ?_
  refine lv_sipush (v := 800) hx hb dX7_init_57 (by decide) ?_
  refine g_newa_i X (hts _ m_X7_init_3) hw (N := 800) (by decide) (by decide) (by decide) (Nat.le_of_ble_eq_true rfl) (Nat.le_of_ble_eq_true rfl) dX7_init_60 (fun q5 H hw => ?_)
  replace hw : Wd (dC, dI) A s.heap _ _ ([(h0, .inr (7, [.ref q1, .ref q2, .int 0, .ref q3, .ref q4, .int 0, .int 0, .int 0, .null, .null, .null, .int 0, .int 0, .int 0, .null, .null, .int 0, .int 0, .int 0, .null, .null, .null, .null, .null, .null, .null, .int 0, .int 0, .int 0, .null, .null, .null, .null, .null, .null, .null])), (q1, .inl (cI, 400, .inl (fun _ => 0))), (q2, .inl (cI, 400, .inl (fun _ => 0))), (q3, .inl (cI, 4, .inl (fun _ => 0))), (q4, .inl (cZ, 4, .inl (fun _ => 0))), (q5, .inl (cI, 800, .inl (fun _ => 0)))] : va_W) := hw
  refine g_putF (D := (dC, dI)) (ci := 7) (v := .ref q5) (ty := .array .int) (C := RX7) (T := TX7) (N := 36) hx hb hts i_X7_init_X7 tyX7 tyX7_ok nmX7 hown hK hw 0 rfl rfl 8 (by decide) (hts _ m_X7_init_13) (fun _ h9 => h9) rfl hin rfl (by decide +kernel) rfl rfl (Nat.le_of_ble_eq_true rfl) dX7_init_62 (fun H locs hw => ?_)
  replace hw : Wd (dC, dI) A s.heap _ _ ([(h0, .inr (7, [.ref q1, .ref q2, .int 0, .ref q3, .ref q4, .int 0, .int 0, .int 0, .ref q5, .null, .null, .int 0, .int 0, .int 0, .null, .null, .int 0, .int 0, .int 0, .null, .null, .null, .null, .null, .null, .null, .int 0, .int 0, .int 0, .null, .null, .null, .null, .null, .null, .null])), (q1, .inl (cI, 400, .inl (fun _ => 0))), (q2, .inl (cI, 400, .inl (fun _ => 0))), (q3, .inl (cI, 4, .inl (fun _ => 0))), (q4, .inl (cZ, 4, .inl (fun _ => 0))), (q5, .inl (cI, 800, .inl (fun _ => 0)))] : va_W) := hw
  refine lv_aload_n hx hb dX7_init_65 rfl (lv_at hl 0 rfl) ?_
  refine lv_sipush (v := 800) hx hb dX7_init_66 (by decide) ?_
  refine g_newa_i X (hts _ m_X7_init_3) hw (N := 800) (by decide) (by decide) (by decide) (Nat.le_of_ble_eq_true rfl) (Nat.le_of_ble_eq_true rfl) dX7_init_69 (fun q6 H hw => ?_)
  replace hw : Wd (dC, dI) A s.heap _ _ ([(h0, .inr (7, [.ref q1, .ref q2, .int 0, .ref q3, .ref q4, .int 0, .int 0, .int 0, .ref q5, .null, .null, .int 0, .int 0, .int 0, .null, .null, .int 0, .int 0, .int 0, .null, .null, .null, .null, .null, .null, .null, .int 0, .int 0, .int 0, .null, .null, .null, .null, .null, .null, .null])), (q1, .inl (cI, 400, .inl (fun _ => 0))), (q2, .inl (cI, 400, .inl (fun _ => 0))), (q3, .inl (cI, 4, .inl (fun _ => 0))), (q4, .inl (cZ, 4, .inl (fun _ => 0))), (q5, .inl (cI, 800, .inl (fun _ => 0))), (q6, .inl (cI, 800, .inl (fun _ => 0)))] : va_W) := hw
  refine g_putF (D := (dC, dI)) (ci := 7) (v := .ref q6) (ty := .array .int) (C := RX7) (T := TX7) (N := 36) hx hb hts i_X7_init_X7 tyX7 tyX7_ok nmX7 hown hK hw 0 rfl rfl 9 (by decide) (hts _ m_X7_init_14) (fun _ h9 => h9) rfl hin rfl (by decide +kernel) rfl rfl (Nat.le_of_ble_eq_true rfl) dX7_init_71 (fun H locs hw => ?_)
  replace hw : Wd (dC, dI) A s.heap _ _ ([(h0, .inr (7, [.ref q1, .ref q2, .int 0, .ref q3, .ref q4, .int 0, .int 0, .int 0, .ref q5, .ref q6, .null, .int 0, .int 0, .int 0, .null, .null, .int 0, .int 0, .int 0, .null, .null, .null, .null, .null, .null, .null, .int 0, .int 0, .int 0, .null, .null, .null, .null, .null, .null, .null])), (q1, .inl (cI, 400, .inl (fun _ => 0))), (q2, .inl (cI, 400, .inl (fun _ => 0))), (q3, .inl (cI, 4, .inl (fun _ => 0))), (q4, .inl (cZ, 4, .inl (fun _ => 0))), (q5, .inl (cI, 800, .inl (fun _ => 0))), (q6, .inl (cI, 800, .inl (fun _ => 0)))] : va_W) := hw
  refine lv_aload_n hx hb dX7_init_74 rfl (lv_at hl 0 rfl) ?_
  refine lv_ldc (v := 40000) hx hb hown (hts _ m_X7_init_15) dX7_init_75 ?_
  refine g_newa_i X (hts _ m_X7_init_3) hw (N := 40000) (by decide) (by decide) (by decide) (Nat.le_of_ble_eq_true rfl) (Nat.le_of_ble_eq_true rfl) dX7_init_77 (fun q7 H hw => ?_)
  replace hw : Wd (dC, dI) A s.heap _ _ ([(h0, .inr (7, [.ref q1, .ref q2, .int 0, .ref q3, .ref q4, .int 0, .int 0, .int 0, .ref q5, .ref q6, .null, .int 0, .int 0, .int 0, .null, .null, .int 0, .int 0, .int 0, .null, .null, .null, .null, .null, .null, .null, .int 0, .int 0, .int 0, .null, .null, .null, .null, .null, .null, .null])), (q1, .inl (cI, 400, .inl (fun _ => 0))), (q2, .inl (cI, 400, .inl (fun _ => 0))), (q3, .inl (cI, 4, .inl (fun _ => 0))), (q4, .inl (cZ, 4, .inl (fun _ => 0))), (q5, .inl (cI, 800, .inl (fun _ => 0))), (q6, .inl (cI, 800, .inl (fun _ => 0))), (q7, .inl (cI, 40000, .inl (fun _ => 0)))] : va_W) := hw
  refine g_putF (D := (dC, dI)) (ci := 7) (v := .ref q7) (ty := .array .int) (C := RX7) (T := TX7) (N := 36) hx hb hts i_X7_init_X7 tyX7 tyX7_ok nmX7 hown hK hw 0 rfl rfl 10 (by decide) (hts _ m_X7_init_16) (fun _ h9 => h9) rfl hin rfl (by decide +kernel) rfl rfl (Nat.le_of_ble_eq_true rfl) dX7_init_79 (fun H locs hw => ?_)
  replace hw : Wd (dC, dI) A s.heap _ _ ([(h0, .inr (7, [.ref q1, .ref q2, .int 0, .ref q3, .ref q4, .int 0, .int 0, .int 0, .ref q5, .ref q6, .ref q7, .int 0, .int 0, .int 0, .null, .null, .int 0, .int 0, .int 0, .null, .null, .null, .null, .null, .null, .null, .int 0, .int 0, .int 0, .null, .null, .null, .null, .null, .null, .null])), (q1, .inl (cI, 400, .inl (fun _ => 0))), (q2, .inl (cI, 400, .inl (fun _ => 0))), (q3, .inl (cI, 4, .inl (fun _ => 0))), (q4, .inl (cZ, 4, .inl (fun _ => 0))), (q5, .inl (cI, 800, .inl (fun _ => 0))), (q6, .inl (cI, 800, .inl (fun _ => 0))), (q7, .inl (cI, 40000, .inl (fun _ => 0)))] : va_W) := hw
  refine lv_aload_n hx hb dX7_init_82 rfl (lv_at hl 0 rfl) ?_
  refine lv_iconst (v := 0) hx hb dX7_init_83 (by decide) ?_
  refine g_put (D := (dC, dI)) (ci := 7) (v := .int 0) (ty := .int) (C := RX7) (T := TX7) (N := 36) hx hb hts i_X7_init_X7 tyX7 tyX7_ok nmX7 hown hK hw 0 rfl rfl 11 (by decide) (hts _ m_X7_init_17) (fun _ h9 => h9) rfl (by decide +kernel) rfl rfl (Nat.le_of_ble_eq_true rfl) dX7_init_84 (fun H locs hw => ?_)
  replace hw : Wd (dC, dI) A s.heap _ _ ([(h0, .inr (7, [.ref q1, .ref q2, .int 0, .ref q3, .ref q4, .int 0, .int 0, .int 0, .ref q5, .ref q6, .ref q7, .int 0, .int 0, .int 0, .null, .null, .int 0, .int 0, .int 0, .null, .null, .null, .null, .null, .null, .null, .int 0, .int 0, .int 0, .null, .null, .null, .null, .null, .null, .null])), (q1, .inl (cI, 400, .inl (fun _ => 0))), (q2, .inl (cI, 400, .inl (fun _ => 0))), (q3, .inl (cI, 4, .inl (fun _ => 0))), (q4, .inl (cZ, 4, .inl (fun _ => 0))), (q5, .inl (cI, 800, .inl (fun _ => 0))), (q6, .inl (cI, 800, .inl (fun _ => 0))), (q7, .inl (cI, 40000, .inl (fun _ => 0)))] : va_W) := hw
  refine lv_aload_n hx hb dX7_init_87 rfl (lv_at hl 0 rfl) ?_
  refine lv_iconst (v := (-1)) hx hb dX7_init_88 (by decide) ?_
  refine g_put (D := (dC, dI)) (ci := 7) (v := .int (-1)) (ty := .int) (C := RX7) (T := TX7) (N := 36) hx hb hts i_X7_init_X7 tyX7 tyX7_ok nmX7 hown hK hw 0 rfl rfl 12 (by decide) (hts _ m_X7_init_18) (fun _ h9 => h9) rfl (by decide +kernel) rfl rfl (Nat.le_of_ble_eq_true rfl) dX7_init_89 (fun H locs hw => ?_)
  replace hw : Wd (dC, dI) A s.heap _ _ ([(h0, .inr (7, [.ref q1, .ref q2, .int 0, .ref q3, .ref q4, .int 0, .int 0, .int 0, .ref q5, .ref q6, .ref q7, .int 0, .int (-1), .int 0, .null, .null, .int 0, .int 0, .int 0, .null, .null, .null, .null, .null, .null, .null, .int 0, .int 0, .int 0, .null, .null, .null, .null, .null, .null, .null])), (q1, .inl (cI, 400, .inl (fun _ => 0))), (q2, .inl (cI, 400, .inl (fun _ => 0))), (q3, .inl (cI, 4, .inl (fun _ => 0))), (q4, .inl (cZ, 4, .inl (fun _ => 0))), (q5, .inl (cI, 800, .inl (fun _ => 0))), (q6, .inl (cI, 800, .inl (fun _ => 0))), (q7, .inl (cI, 40000, .inl (fun _ => 0)))] : va_W) := hw
  refine lv_aload_n hx hb dX7_init_92 rfl (lv_at hl 0 rfl) ?_
  refine lv_iconst (v := 0) hx hb dX7_init_93 (by decide) ?_
  refine g_put (D := (dC, dI)) (ci := 7) (v := .int 0) (ty := .int) (C := RX7) (T := TX7) (N := 36) hx hb hts i_X7_init_X7 tyX7 tyX7_ok nmX7 hown hK hw 0 rfl rfl 13 (by decide) (hts _ m_X7_init_19) (fun _ h9 => h9) rfl (by decide +kernel) rfl rfl (Nat.le_of_ble_eq_true rfl) dX7_init_94 (fun H locs hw => ?_)
  replace hw : Wd (dC, dI) A s.heap _ _ ([(h0, .inr (7, [.ref q1, .ref q2, .int 0, .ref q3, .ref q4, .int 0, .int 0, .int 0, .ref q5, .ref q6, .ref q7, .int 0, .int (-1), .int 0, .null, .null, .int 0, .int 0, .int 0, .null, .null, .null, .null, .null, .null, .null, .int 0, .int 0, .int 0, .null, .null, .null, .null, .null, .null, .null])), (q1, .inl (cI, 400, .inl (fun _ => 0))), (q2, .inl (cI, 400, .inl (fun _ => 0))), (q3, .inl (cI, 4, .inl (fun _ => 0))), (q4, .inl (cZ, 4, .inl (fun _ => 0))), (q5, .inl (cI, 800, .inl (fun _ => 0))), (q6, .inl (cI, 800, .inl (fun _ => 0))), (q7, .inl (cI, 40000, .inl (fun _ => 0)))] : va_W) := hw
  refine lv_aload_n hx hb dX7_init_97 rfl (lv_at hl 0 rfl) ?_
  refine lv_sipush (v := 400) hx hb dX7_init_98 (by decide) ?_
  refine g_newa_i X (hts _ m_X7_init_3) hw (N := 400) (by decide) (by decide) (by decide) (Nat.le_of_ble_eq_true rfl) (Nat.le_of_ble_eq_true rfl) dX7_init_101 (fun q8 H hw => ?_)
  replace hw : Wd (dC, dI) A s.heap _ _ ([(h0, .inr (7, [.ref q1, .ref q2, .int 0, .ref q3, .ref q4, .int 0, .int 0, .int 0, .ref q5, .ref q6, .ref q7, .int 0, .int (-1), .int 0, .null, .null, .int 0, .int 0, .int 0, .null, .null, .null, .null, .null, .null, .null, .int 0, .int 0, .int 0, .null, .null, .null, .null, .null, .null, .null])), (q1, .inl (cI, 400, .inl (fun _ => 0))), (q2, .inl (cI, 400, .inl (fun _ => 0))), (q3, .inl (cI, 4, .inl (fun _ => 0))), (q4, .inl (cZ, 4, .inl (fun _ => 0))), (q5, .inl (cI, 800, .inl (fun _ => 0))), (q6, .inl (cI, 800, .inl (fun _ => 0))), (q7, .inl (cI, 40000, .inl (fun _ => 0))), (q8, .inl (cI, 400, .inl (fun _ => 0)))] : va_W) := hw
  refine g_putF (D := (dC, dI)) (ci := 7) (v := .ref q8) (ty := .array .int) (C := RX7) (T := TX7) (N := 36) hx hb hts i_X7_init_X7 tyX7 tyX7_ok nmX7 hown hK hw 0 rfl rfl 14 (by decide) (hts _ m_X7_init_20) (fun _ h9 => h9) rfl hin rfl (by decide +kernel) rfl rfl (Nat.le_of_ble_eq_true rfl) dX7_init_103 (fun H locs hw => ?_)
  replace hw : Wd (dC, dI) A s.heap _ _ ([(h0, .inr (7, [.ref q1, .ref q2, .int 0, .ref q3, .ref q4, .int 0, .int 0, .int 0, .ref q5, .ref q6, .ref q7, .int 0, .int (-1), .int 0, .ref q8, .null, .int 0, .int 0, .int 0, .null, .null, .null, .null, .null, .null, .null, .int 0, .int 0, .int 0, .null, .null, .null, .null, .null, .null, .null])), (q1, .inl (cI, 400, .inl (fun _ => 0))), (q2, .inl (cI, 400, .inl (fun _ => 0))), (q3, .inl (cI, 4, .inl (fun _ => 0))), (q4, .inl (cZ, 4, .inl (fun _ => 0))), (q5, .inl (cI, 800, .inl (fun _ => 0))), (q6, .inl (cI, 800, .inl (fun _ => 0))), (q7, .inl (cI, 40000, .inl (fun _ => 0))), (q8, .inl (cI, 400, .inl (fun _ => 0)))] : va_W) := hw
  refine lv_aload_n hx hb dX7_init_106 rfl (lv_at hl 0 rfl) ?_
  refine lv_sipush (v := 3200) hx hb dX7_init_107 (by decide) ?_
  refine g_newa_i X (hts _ m_X7_init_3) hw (N := 3200) (by decide) (by decide) (by decide) (Nat.le_of_ble_eq_true rfl) (Nat.le_of_ble_eq_true rfl) dX7_init_110 (fun q9 H hw => ?_)
  replace hw : Wd (dC, dI) A s.heap _ _ ([(h0, .inr (7, [.ref q1, .ref q2, .int 0, .ref q3, .ref q4, .int 0, .int 0, .int 0, .ref q5, .ref q6, .ref q7, .int 0, .int (-1), .int 0, .ref q8, .null, .int 0, .int 0, .int 0, .null, .null, .null, .null, .null, .null, .null, .int 0, .int 0, .int 0, .null, .null, .null, .null, .null, .null, .null])), (q1, .inl (cI, 400, .inl (fun _ => 0))), (q2, .inl (cI, 400, .inl (fun _ => 0))), (q3, .inl (cI, 4, .inl (fun _ => 0))), (q4, .inl (cZ, 4, .inl (fun _ => 0))), (q5, .inl (cI, 800, .inl (fun _ => 0))), (q6, .inl (cI, 800, .inl (fun _ => 0))), (q7, .inl (cI, 40000, .inl (fun _ => 0))), (q8, .inl (cI, 400, .inl (fun _ => 0))), (q9, .inl (cI, 3200, .inl (fun _ => 0)))] : va_W) := hw
  refine g_putF (D := (dC, dI)) (ci := 7) (v := .ref q9) (ty := .array .int) (C := RX7) (T := TX7) (N := 36) hx hb hts i_X7_init_X7 tyX7 tyX7_ok nmX7 hown hK hw 0 rfl rfl 15 (by decide) (hts _ m_X7_init_21) (fun _ h9 => h9) rfl hin rfl (by decide +kernel) rfl rfl (Nat.le_of_ble_eq_true rfl) dX7_init_112 (fun H locs hw => ?_)
  replace hw : Wd (dC, dI) A s.heap _ _ ([(h0, .inr (7, [.ref q1, .ref q2, .int 0, .ref q3, .ref q4, .int 0, .int 0, .int 0, .ref q5, .ref q6, .ref q7, .int 0, .int (-1), .int 0, .ref q8, .ref q9, .int 0, .int 0, .int 0, .null, .null, .null, .null, .null, .null, .null, .int 0, .int 0, .int 0, .null, .null, .null, .null, .null, .null, .null])), (q1, .inl (cI, 400, .inl (fun _ => 0))), (q2, .inl (cI, 400, .inl (fun _ => 0))), (q3, .inl (cI, 4, .inl (fun _ => 0))), (q4, .inl (cZ, 4, .inl (fun _ => 0))), (q5, .inl (cI, 800, .inl (fun _ => 0))), (q6, .inl (cI, 800, .inl (fun _ => 0))), (q7, .inl (cI, 40000, .inl (fun _ => 0))), (q8, .inl (cI, 400, .inl (fun _ => 0))), (q9, .inl (cI, 3200, .inl (fun _ => 0)))] : va_W) := hw
  refine lv_aload_n hx hb dX7_init_115 rfl (lv_at hl 0 rfl) ?_
  refine lv_iconst (v := 0) hx hb dX7_init_116 (by decide) ?_
  refine g_put (D := (dC, dI)) (ci := 7) (v := .int 0) (ty := .int) (C := RX7) (T := TX7) (N := 36) hx hb hts i_X7_init_X7 tyX7 tyX7_ok nmX7 hown hK hw 0 rfl rfl 16 (by decide) (hts _ m_X7_init_22) (fun _ h9 => h9) rfl (by decide +kernel) rfl rfl (Nat.le_of_ble_eq_true rfl) dX7_init_117 (fun H locs hw => ?_)
  replace hw : Wd (dC, dI) A s.heap _ _ ([(h0, .inr (7, [.ref q1, .ref q2, .int 0, .ref q3, .ref q4, .int 0, .int 0, .int 0, .ref q5, .ref q6, .ref q7, .int 0, .int (-1), .int 0, .ref q8, .ref q9, .int 0, .int 0, .int 0, .null, .null, .null, .null, .null, .null, .null, .int 0, .int 0, .int 0, .null, .null, .null, .null, .null, .null, .null])), (q1, .inl (cI, 400, .inl (fun _ => 0))), (q2, .inl (cI, 400, .inl (fun _ => 0))), (q3, .inl (cI, 4, .inl (fun _ => 0))), (q4, .inl (cZ, 4, .inl (fun _ => 0))), (q5, .inl (cI, 800, .inl (fun _ => 0))), (q6, .inl (cI, 800, .inl (fun _ => 0))), (q7, .inl (cI, 40000, .inl (fun _ => 0))), (q8, .inl (cI, 400, .inl (fun _ => 0))), (q9, .inl (cI, 3200, .inl (fun _ => 0)))] : va_W) := hw
  refine lv_aload_n hx hb dX7_init_120 rfl (lv_at hl 0 rfl) ?_
  refine lv_iconst (v := 0) hx hb dX7_init_121 (by decide) ?_
  refine g_put (D := (dC, dI)) (ci := 7) (v := .int 0) (ty := .int) (C := RX7) (T := TX7) (N := 36) hx hb hts i_X7_init_X7 tyX7 tyX7_ok nmX7 hown hK hw 0 rfl rfl 17 (by decide) (hts _ m_X7_init_23) (fun _ h9 => h9) rfl (by decide +kernel) rfl rfl (Nat.le_of_ble_eq_true rfl) dX7_init_122 (fun H locs hw => ?_)
  replace hw : Wd (dC, dI) A s.heap _ _ ([(h0, .inr (7, [.ref q1, .ref q2, .int 0, .ref q3, .ref q4, .int 0, .int 0, .int 0, .ref q5, .ref q6, .ref q7, .int 0, .int (-1), .int 0, .ref q8, .ref q9, .int 0, .int 0, .int 0, .null, .null, .null, .null, .null, .null, .null, .int 0, .int 0, .int 0, .null, .null, .null, .null, .null, .null, .null])), (q1, .inl (cI, 400, .inl (fun _ => 0))), (q2, .inl (cI, 400, .inl (fun _ => 0))), (q3, .inl (cI, 4, .inl (fun _ => 0))), (q4, .inl (cZ, 4, .inl (fun _ => 0))), (q5, .inl (cI, 800, .inl (fun _ => 0))), (q6, .inl (cI, 800, .inl (fun _ => 0))), (q7, .inl (cI, 40000, .inl (fun _ => 0))), (q8, .inl (cI, 400, .inl (fun _ => 0))), (q9, .inl (cI, 3200, .inl (fun _ => 0)))] : va_W) := hw
  refine lv_aload_n hx hb dX7_init_125 rfl (lv_at hl 0 rfl) ?_
  refine lv_iconst (v := 0) hx hb dX7_init_126 (by decide) ?_
  refine g_put (D := (dC, dI)) (ci := 7) (v := .int 0) (ty := .int) (C := RX7) (T := TX7) (N := 36) hx hb hts i_X7_init_X7 tyX7 tyX7_ok nmX7 hown hK hw 0 rfl rfl 18 (by decide) (hts _ m_X7_init_24) (fun _ h9 => h9) rfl (by decide +kernel) rfl rfl (Nat.le_of_ble_eq_true rfl) dX7_init_127 (fun H locs hw => ?_)
  replace hw : Wd (dC, dI) A s.heap _ _ ([(h0, .inr (7, [.ref q1, .ref q2, .int 0, .ref q3, .ref q4, .int 0, .int 0, .int 0, .ref q5, .ref q6, .ref q7, .int 0, .int (-1), .int 0, .ref q8, .ref q9, .int 0, .int 0, .int 0, .null, .null, .null, .null, .null, .null, .null, .int 0, .int 0, .int 0, .null, .null, .null, .null, .null, .null, .null])), (q1, .inl (cI, 400, .inl (fun _ => 0))), (q2, .inl (cI, 400, .inl (fun _ => 0))), (q3, .inl (cI, 4, .inl (fun _ => 0))), (q4, .inl (cZ, 4, .inl (fun _ => 0))), (q5, .inl (cI, 800, .inl (fun _ => 0))), (q6, .inl (cI, 800, .inl (fun _ => 0))), (q7, .inl (cI, 40000, .inl (fun _ => 0))), (q8, .inl (cI, 400, .inl (fun _ => 0))), (q9, .inl (cI, 3200, .inl (fun _ => 0)))] : va_W) := hw
  refine lv_aload_n hx hb dX7_init_130 rfl (lv_at hl 0 rfl) ?_
  refine lv_sipush (v := 400) hx hb dX7_init_131 (by decide) ?_
  refine g_newa_i X (hts _ m_X7_init_3) hw (N := 400) (by decide) (by decide) (by decide) (Nat.le_of_ble_eq_true rfl) (Nat.le_of_ble_eq_true rfl) dX7_init_134 (fun q10 H hw => ?_)
  replace hw : Wd (dC, dI) A s.heap _ _ ([(h0, .inr (7, [.ref q1, .ref q2, .int 0, .ref q3, .ref q4, .int 0, .int 0, .int 0, .ref q5, .ref q6, .ref q7, .int 0, .int (-1), .int 0, .ref q8, .ref q9, .int 0, .int 0, .int 0, .null, .null, .null, .null, .null, .null, .null, .int 0, .int 0, .int 0, .null, .null, .null, .null, .null, .null, .null])), (q1, .inl (cI, 400, .inl (fun _ => 0))), (q2, .inl (cI, 400, .inl (fun _ => 0))), (q3, .inl (cI, 4, .inl (fun _ => 0))), (q4, .inl (cZ, 4, .inl (fun _ => 0))), (q5, .inl (cI, 800, .inl (fun _ => 0))), (q6, .inl (cI, 800, .inl (fun _ => 0))), (q7, .inl (cI, 40000, .inl (fun _ => 0))), (q8, .inl (cI, 400, .inl (fun _ => 0))), (q9, .inl (cI, 3200, .inl (fun _ => 0))), (q10, .inl (cI, 400, .inl (fun _ => 0)))] : va_W) := hw
  refine g_putF (D := (dC, dI)) (ci := 7) (v := .ref q10) (ty := .array .int) (C := RX7) (T := TX7) (N := 36) hx hb hts i_X7_init_X7 tyX7 tyX7_ok nmX7 hown hK hw 0 rfl rfl 19 (by decide) (hts _ m_X7_init_25) (fun _ h9 => h9) rfl hin rfl (by decide +kernel) rfl rfl (Nat.le_of_ble_eq_true rfl) dX7_init_136 (fun H locs hw => ?_)
  replace hw : Wd (dC, dI) A s.heap _ _ ([(h0, .inr (7, [.ref q1, .ref q2, .int 0, .ref q3, .ref q4, .int 0, .int 0, .int 0, .ref q5, .ref q6, .ref q7, .int 0, .int (-1), .int 0, .ref q8, .ref q9, .int 0, .int 0, .int 0, .ref q10, .null, .null, .null, .null, .null, .null, .int 0, .int 0, .int 0, .null, .null, .null, .null, .null, .null, .null])), (q1, .inl (cI, 400, .inl (fun _ => 0))), (q2, .inl (cI, 400, .inl (fun _ => 0))), (q3, .inl (cI, 4, .inl (fun _ => 0))), (q4, .inl (cZ, 4, .inl (fun _ => 0))), (q5, .inl (cI, 800, .inl (fun _ => 0))), (q6, .inl (cI, 800, .inl (fun _ => 0))), (q7, .inl (cI, 40000, .inl (fun _ => 0))), (q8, .inl (cI, 400, .inl (fun _ => 0))), (q9, .inl (cI, 3200, .inl (fun _ => 0))), (q10, .inl (cI, 400, .inl (fun _ => 0)))] : va_W) := hw
  refine lv_aload_n hx hb dX7_init_139 rfl (lv_at hl 0 rfl) ?_
  refine lv_bipush (v := 8) hx hb dX7_init_140 (by decide) ?_
  refine g_newa_i X (hts _ m_X7_init_3) hw (N := 8) (by decide) (by decide) (by decide) (Nat.le_of_ble_eq_true rfl) (Nat.le_of_ble_eq_true rfl) dX7_init_142 (fun q11 H hw => ?_)
  replace hw : Wd (dC, dI) A s.heap _ _ ([(h0, .inr (7, [.ref q1, .ref q2, .int 0, .ref q3, .ref q4, .int 0, .int 0, .int 0, .ref q5, .ref q6, .ref q7, .int 0, .int (-1), .int 0, .ref q8, .ref q9, .int 0, .int 0, .int 0, .ref q10, .null, .null, .null, .null, .null, .null, .int 0, .int 0, .int 0, .null, .null, .null, .null, .null, .null, .null])), (q1, .inl (cI, 400, .inl (fun _ => 0))), (q2, .inl (cI, 400, .inl (fun _ => 0))), (q3, .inl (cI, 4, .inl (fun _ => 0))), (q4, .inl (cZ, 4, .inl (fun _ => 0))), (q5, .inl (cI, 800, .inl (fun _ => 0))), (q6, .inl (cI, 800, .inl (fun _ => 0))), (q7, .inl (cI, 40000, .inl (fun _ => 0))), (q8, .inl (cI, 400, .inl (fun _ => 0))), (q9, .inl (cI, 3200, .inl (fun _ => 0))), (q10, .inl (cI, 400, .inl (fun _ => 0))), (q11, .inl (cI, 8, .inl (fun _ => 0)))] : va_W) := hw
  refine g_putF (D := (dC, dI)) (ci := 7) (v := .ref q11) (ty := .array .int) (C := RX7) (T := TX7) (N := 36) hx hb hts i_X7_init_X7 tyX7 tyX7_ok nmX7 hown hK hw 0 rfl rfl 20 (by decide) (hts _ m_X7_init_26) (fun _ h9 => h9) rfl hin rfl (by decide +kernel) rfl rfl (Nat.le_of_ble_eq_true rfl) dX7_init_144 (fun H locs hw => ?_)
  replace hw : Wd (dC, dI) A s.heap _ _ ([(h0, .inr (7, [.ref q1, .ref q2, .int 0, .ref q3, .ref q4, .int 0, .int 0, .int 0, .ref q5, .ref q6, .ref q7, .int 0, .int (-1), .int 0, .ref q8, .ref q9, .int 0, .int 0, .int 0, .ref q10, .ref q11, .null, .null, .null, .null, .null, .int 0, .int 0, .int 0, .null, .null, .null, .null, .null, .null, .null])), (q1, .inl (cI, 400, .inl (fun _ => 0))), (q2, .inl (cI, 400, .inl (fun _ => 0))), (q3, .inl (cI, 4, .inl (fun _ => 0))), (q4, .inl (cZ, 4, .inl (fun _ => 0))), (q5, .inl (cI, 800, .inl (fun _ => 0))), (q6, .inl (cI, 800, .inl (fun _ => 0))), (q7, .inl (cI, 40000, .inl (fun _ => 0))), (q8, .inl (cI, 400, .inl (fun _ => 0))), (q9, .inl (cI, 3200, .inl (fun _ => 0))), (q10, .inl (cI, 400, .inl (fun _ => 0))), (q11, .inl (cI, 8, .inl (fun _ => 0)))] : va_W) := hw
  refine lv_aload_n hx hb dX7_init_147 rfl (lv_at hl 0 rfl) ?_
  refine lv_bipush (v := 8) hx hb dX7_init_148 (by decide) ?_
  refine g_newa_i X (hts _ m_X7_init_3) hw (N := 8) (by decide) (by decide) (by decide) (Nat.le_of_ble_eq_true rfl) (Nat.le_of_ble_eq_true rfl) dX7_init_150 (fun q12 H hw => ?_)
  replace hw : Wd (dC, dI) A s.heap _ _ ([(h0, .inr (7, [.ref q1, .ref q2, .int 0, .ref q3, .ref q4, .int 0, .int 0, .int 0, .ref q5, .ref q6, .ref q7, .int 0, .int (-1), .int 0, .ref q8, .ref q9, .int 0, .int 0, .int 0, .ref q10, .ref q11, .null, .null, .null, .null, .null, .int 0, .int 0, .int 0, .null, .null, .null, .null, .null, .null, .null])), (q1, .inl (cI, 400, .inl (fun _ => 0))), (q2, .inl (cI, 400, .inl (fun _ => 0))), (q3, .inl (cI, 4, .inl (fun _ => 0))), (q4, .inl (cZ, 4, .inl (fun _ => 0))), (q5, .inl (cI, 800, .inl (fun _ => 0))), (q6, .inl (cI, 800, .inl (fun _ => 0))), (q7, .inl (cI, 40000, .inl (fun _ => 0))), (q8, .inl (cI, 400, .inl (fun _ => 0))), (q9, .inl (cI, 3200, .inl (fun _ => 0))), (q10, .inl (cI, 400, .inl (fun _ => 0))), (q11, .inl (cI, 8, .inl (fun _ => 0))), (q12, .inl (cI, 8, .inl (fun _ => 0)))] : va_W) := hw
  refine g_putF (D := (dC, dI)) (ci := 7) (v := .ref q12) (ty := .array .int) (C := RX7) (T := TX7) (N := 36) hx hb hts i_X7_init_X7 tyX7 tyX7_ok nmX7 hown hK hw 0 rfl rfl 21 (by decide) (hts _ m_X7_init_27) (fun _ h9 => h9) rfl hin rfl (by decide +kernel) rfl rfl (Nat.le_of_ble_eq_true rfl) dX7_init_152 (fun H locs hw => ?_)
  replace hw : Wd (dC, dI) A s.heap _ _ ([(h0, .inr (7, [.ref q1, .ref q2, .int 0, .ref q3, .ref q4, .int 0, .int 0, .int 0, .ref q5, .ref q6, .ref q7, .int 0, .int (-1), .int 0, .ref q8, .ref q9, .int 0, .int 0, .int 0, .ref q10, .ref q11, .ref q12, .null, .null, .null, .null, .int 0, .int 0, .int 0, .null, .null, .null, .null, .null, .null, .null])), (q1, .inl (cI, 400, .inl (fun _ => 0))), (q2, .inl (cI, 400, .inl (fun _ => 0))), (q3, .inl (cI, 4, .inl (fun _ => 0))), (q4, .inl (cZ, 4, .inl (fun _ => 0))), (q5, .inl (cI, 800, .inl (fun _ => 0))), (q6, .inl (cI, 800, .inl (fun _ => 0))), (q7, .inl (cI, 40000, .inl (fun _ => 0))), (q8, .inl (cI, 400, .inl (fun _ => 0))), (q9, .inl (cI, 3200, .inl (fun _ => 0))), (q10, .inl (cI, 400, .inl (fun _ => 0))), (q11, .inl (cI, 8, .inl (fun _ => 0))), (q12, .inl (cI, 8, .inl (fun _ => 0)))] : va_W) := hw
  refine lv_aload_n hx hb dX7_init_155 rfl (lv_at hl 0 rfl) ?_
  refine lv_bipush (v := 8) hx hb dX7_init_156 (by decide) ?_
  refine g_newa_i X (hts _ m_X7_init_3) hw (N := 8) (by decide) (by decide) (by decide) (Nat.le_of_ble_eq_true rfl) (Nat.le_of_ble_eq_true rfl) dX7_init_158 (fun q13 H hw => ?_)
  replace hw : Wd (dC, dI) A s.heap _ _ ([(h0, .inr (7, [.ref q1, .ref q2, .int 0, .ref q3, .ref q4, .int 0, .int 0, .int 0, .ref q5, .ref q6, .ref q7, .int 0, .int (-1), .int 0, .ref q8, .ref q9, .int 0, .int 0, .int 0, .ref q10, .ref q11, .ref q12, .null, .null, .null, .null, .int 0, .int 0, .int 0, .null, .null, .null, .null, .null, .null, .null])), (q1, .inl (cI, 400, .inl (fun _ => 0))), (q2, .inl (cI, 400, .inl (fun _ => 0))), (q3, .inl (cI, 4, .inl (fun _ => 0))), (q4, .inl (cZ, 4, .inl (fun _ => 0))), (q5, .inl (cI, 800, .inl (fun _ => 0))), (q6, .inl (cI, 800, .inl (fun _ => 0))), (q7, .inl (cI, 40000, .inl (fun _ => 0))), (q8, .inl (cI, 400, .inl (fun _ => 0))), (q9, .inl (cI, 3200, .inl (fun _ => 0))), (q10, .inl (cI, 400, .inl (fun _ => 0))), (q11, .inl (cI, 8, .inl (fun _ => 0))), (q12, .inl (cI, 8, .inl (fun _ => 0))), (q13, .inl (cI, 8, .inl (fun _ => 0)))] : va_W) := hw
  refine g_putF (D := (dC, dI)) (ci := 7) (v := .ref q13) (ty := .array .int) (C := RX7) (T := TX7) (N := 36) hx hb hts i_X7_init_X7 tyX7 tyX7_ok nmX7 hown hK hw 0 rfl rfl 22 (by decide) (hts _ m_X7_init_28) (fun _ h9 => h9) rfl hin rfl (by decide +kernel) rfl rfl (Nat.le_of_ble_eq_true rfl) dX7_init_160 (fun H locs hw => ?_)
  replace hw : Wd (dC, dI) A s.heap _ _ ([(h0, .inr (7, [.ref q1, .ref q2, .int 0, .ref q3, .ref q4, .int 0, .int 0, .int 0, .ref q5, .ref q6, .ref q7, .int 0, .int (-1), .int 0, .ref q8, .ref q9, .int 0, .int 0, .int 0, .ref q10, .ref q11, .ref q12, .ref q13, .null, .null, .null, .int 0, .int 0, .int 0, .null, .null, .null, .null, .null, .null, .null])), (q1, .inl (cI, 400, .inl (fun _ => 0))), (q2, .inl (cI, 400, .inl (fun _ => 0))), (q3, .inl (cI, 4, .inl (fun _ => 0))), (q4, .inl (cZ, 4, .inl (fun _ => 0))), (q5, .inl (cI, 800, .inl (fun _ => 0))), (q6, .inl (cI, 800, .inl (fun _ => 0))), (q7, .inl (cI, 40000, .inl (fun _ => 0))), (q8, .inl (cI, 400, .inl (fun _ => 0))), (q9, .inl (cI, 3200, .inl (fun _ => 0))), (q10, .inl (cI, 400, .inl (fun _ => 0))), (q11, .inl (cI, 8, .inl (fun _ => 0))), (q12, .inl (cI, 8, .inl (fun _ => 0))), (q13, .inl (cI, 8, .inl (fun _ => 0)))] : va_W) := hw
  refine lv_aload_n hx hb dX7_init_163 rfl (lv_at hl 0 rfl) ?_
  refine lv_bipush (v := 8) hx hb dX7_init_164 (by decide) ?_
  refine g_newa_i X (hts _ m_X7_init_3) hw (N := 8) (by decide) (by decide) (by decide) (Nat.le_of_ble_eq_true rfl) (Nat.le_of_ble_eq_true rfl) dX7_init_166 (fun q14 H hw => ?_)
  replace hw : Wd (dC, dI) A s.heap _ _ ([(h0, .inr (7, [.ref q1, .ref q2, .int 0, .ref q3, .ref q4, .int 0, .int 0, .int 0, .ref q5, .ref q6, .ref q7, .int 0, .int (-1), .int 0, .ref q8, .ref q9, .int 0, .int 0, .int 0, .ref q10, .ref q11, .ref q12, .ref q13, .null, .null, .null, .int 0, .int 0, .int 0, .null, .null, .null, .null, .null, .null, .null])), (q1, .inl (cI, 400, .inl (fun _ => 0))), (q2, .inl (cI, 400, .inl (fun _ => 0))), (q3, .inl (cI, 4, .inl (fun _ => 0))), (q4, .inl (cZ, 4, .inl (fun _ => 0))), (q5, .inl (cI, 800, .inl (fun _ => 0))), (q6, .inl (cI, 800, .inl (fun _ => 0))), (q7, .inl (cI, 40000, .inl (fun _ => 0))), (q8, .inl (cI, 400, .inl (fun _ => 0))), (q9, .inl (cI, 3200, .inl (fun _ => 0))), (q10, .inl (cI, 400, .inl (fun _ => 0))), (q11, .inl (cI, 8, .inl (fun _ => 0))), (q12, .inl (cI, 8, .inl (fun _ => 0))), (q13, .inl (cI, 8, .inl (fun _ => 0))), (q14, .inl (cI, 8, .inl (fun _ => 0)))] : va_W) := hw
  refine g_putF (D := (dC, dI)) (ci := 7) (v := .ref q14) (ty := .array .int) (C := RX7) (T := TX7) (N := 36) hx hb hts i_X7_init_X7 tyX7 tyX7_ok nmX7 hown hK hw 0 rfl rfl 23 (by decide) (hts _ m_X7_init_29) (fun _ h9 => h9) rfl hin rfl (by decide +kernel) rfl rfl (Nat.le_of_ble_eq_true rfl) dX7_init_168 (fun H locs hw => ?_)
  replace hw : Wd (dC, dI) A s.heap _ _ ([(h0, .inr (7, [.ref q1, .ref q2, .int 0, .ref q3, .ref q4, .int 0, .int 0, .int 0, .ref q5, .ref q6, .ref q7, .int 0, .int (-1), .int 0, .ref q8, .ref q9, .int 0, .int 0, .int 0, .ref q10, .ref q11, .ref q12, .ref q13, .ref q14, .null, .null, .int 0, .int 0, .int 0, .null, .null, .null, .null, .null, .null, .null])), (q1, .inl (cI, 400, .inl (fun _ => 0))), (q2, .inl (cI, 400, .inl (fun _ => 0))), (q3, .inl (cI, 4, .inl (fun _ => 0))), (q4, .inl (cZ, 4, .inl (fun _ => 0))), (q5, .inl (cI, 800, .inl (fun _ => 0))), (q6, .inl (cI, 800, .inl (fun _ => 0))), (q7, .inl (cI, 40000, .inl (fun _ => 0))), (q8, .inl (cI, 400, .inl (fun _ => 0))), (q9, .inl (cI, 3200, .inl (fun _ => 0))), (q10, .inl (cI, 400, .inl (fun _ => 0))), (q11, .inl (cI, 8, .inl (fun _ => 0))), (q12, .inl (cI, 8, .inl (fun _ => 0))), (q13, .inl (cI, 8, .inl (fun _ => 0))), (q14, .inl (cI, 8, .inl (fun _ => 0)))] : va_W) := hw
  refine lv_aload_n hx hb dX7_init_171 rfl (lv_at hl 0 rfl) ?_
  refine lv_bipush (v := 8) hx hb dX7_init_172 (by decide) ?_
  refine g_newa_z X (hts _ m_X7_init_8) hw (N := 8) (by decide) (by decide) (by decide) (Nat.le_of_ble_eq_true rfl) (Nat.le_of_ble_eq_true rfl) dX7_init_174 (fun q15 H hw => ?_)
  replace hw : Wd (dC, dI) A s.heap _ _ ([(h0, .inr (7, [.ref q1, .ref q2, .int 0, .ref q3, .ref q4, .int 0, .int 0, .int 0, .ref q5, .ref q6, .ref q7, .int 0, .int (-1), .int 0, .ref q8, .ref q9, .int 0, .int 0, .int 0, .ref q10, .ref q11, .ref q12, .ref q13, .ref q14, .null, .null, .int 0, .int 0, .int 0, .null, .null, .null, .null, .null, .null, .null])), (q1, .inl (cI, 400, .inl (fun _ => 0))), (q2, .inl (cI, 400, .inl (fun _ => 0))), (q3, .inl (cI, 4, .inl (fun _ => 0))), (q4, .inl (cZ, 4, .inl (fun _ => 0))), (q5, .inl (cI, 800, .inl (fun _ => 0))), (q6, .inl (cI, 800, .inl (fun _ => 0))), (q7, .inl (cI, 40000, .inl (fun _ => 0))), (q8, .inl (cI, 400, .inl (fun _ => 0))), (q9, .inl (cI, 3200, .inl (fun _ => 0))), (q10, .inl (cI, 400, .inl (fun _ => 0))), (q11, .inl (cI, 8, .inl (fun _ => 0))), (q12, .inl (cI, 8, .inl (fun _ => 0))), (q13, .inl (cI, 8, .inl (fun _ => 0))), (q14, .inl (cI, 8, .inl (fun _ => 0))), (q15, .inl (cZ, 8, .inl (fun _ => 0)))] : va_W) := hw
  refine g_putF (D := (dC, dI)) (ci := 7) (v := .ref q15) (ty := .array .boolean) (C := RX7) (T := TX7) (N := 36) hx hb hts i_X7_init_X7 tyX7 tyX7_ok nmX7 hown hK hw 0 rfl rfl 24 (by decide) (hts _ m_X7_init_30) (fun _ h9 => h9) rfl hin rfl (by decide +kernel) rfl rfl (Nat.le_of_ble_eq_true rfl) dX7_init_176 (fun H locs hw => ?_)
  replace hw : Wd (dC, dI) A s.heap _ _ ([(h0, .inr (7, [.ref q1, .ref q2, .int 0, .ref q3, .ref q4, .int 0, .int 0, .int 0, .ref q5, .ref q6, .ref q7, .int 0, .int (-1), .int 0, .ref q8, .ref q9, .int 0, .int 0, .int 0, .ref q10, .ref q11, .ref q12, .ref q13, .ref q14, .ref q15, .null, .int 0, .int 0, .int 0, .null, .null, .null, .null, .null, .null, .null])), (q1, .inl (cI, 400, .inl (fun _ => 0))), (q2, .inl (cI, 400, .inl (fun _ => 0))), (q3, .inl (cI, 4, .inl (fun _ => 0))), (q4, .inl (cZ, 4, .inl (fun _ => 0))), (q5, .inl (cI, 800, .inl (fun _ => 0))), (q6, .inl (cI, 800, .inl (fun _ => 0))), (q7, .inl (cI, 40000, .inl (fun _ => 0))), (q8, .inl (cI, 400, .inl (fun _ => 0))), (q9, .inl (cI, 3200, .inl (fun _ => 0))), (q10, .inl (cI, 400, .inl (fun _ => 0))), (q11, .inl (cI, 8, .inl (fun _ => 0))), (q12, .inl (cI, 8, .inl (fun _ => 0))), (q13, .inl (cI, 8, .inl (fun _ => 0))), (q14, .inl (cI, 8, .inl (fun _ => 0))), (q15, .inl (cZ, 8, .inl (fun _ => 0)))] : va_W) := hw
  refine lv_aload_n hx hb dX7_init_179 rfl (lv_at hl 0 rfl) ?_
  refine lv_bipush (v := 8) hx hb dX7_init_180 (by decide) ?_
  refine g_newa_i X (hts _ m_X7_init_3) hw (N := 8) (by decide) (by decide) (by decide) (Nat.le_of_ble_eq_true rfl) (Nat.le_of_ble_eq_true rfl) dX7_init_182 (fun q16 H hw => ?_)
  replace hw : Wd (dC, dI) A s.heap _ _ ([(h0, .inr (7, [.ref q1, .ref q2, .int 0, .ref q3, .ref q4, .int 0, .int 0, .int 0, .ref q5, .ref q6, .ref q7, .int 0, .int (-1), .int 0, .ref q8, .ref q9, .int 0, .int 0, .int 0, .ref q10, .ref q11, .ref q12, .ref q13, .ref q14, .ref q15, .null, .int 0, .int 0, .int 0, .null, .null, .null, .null, .null, .null, .null])), (q1, .inl (cI, 400, .inl (fun _ => 0))), (q2, .inl (cI, 400, .inl (fun _ => 0))), (q3, .inl (cI, 4, .inl (fun _ => 0))), (q4, .inl (cZ, 4, .inl (fun _ => 0))), (q5, .inl (cI, 800, .inl (fun _ => 0))), (q6, .inl (cI, 800, .inl (fun _ => 0))), (q7, .inl (cI, 40000, .inl (fun _ => 0))), (q8, .inl (cI, 400, .inl (fun _ => 0))), (q9, .inl (cI, 3200, .inl (fun _ => 0))), (q10, .inl (cI, 400, .inl (fun _ => 0))), (q11, .inl (cI, 8, .inl (fun _ => 0))), (q12, .inl (cI, 8, .inl (fun _ => 0))), (q13, .inl (cI, 8, .inl (fun _ => 0))), (q14, .inl (cI, 8, .inl (fun _ => 0))), (q15, .inl (cZ, 8, .inl (fun _ => 0))), (q16, .inl (cI, 8, .inl (fun _ => 0)))] : va_W) := hw
  refine g_putF (D := (dC, dI)) (ci := 7) (v := .ref q16) (ty := .array .int) (C := RX7) (T := TX7) (N := 36) hx hb hts i_X7_init_X7 tyX7 tyX7_ok nmX7 hown hK hw 0 rfl rfl 25 (by decide) (hts _ m_X7_init_31) (fun _ h9 => h9) rfl hin rfl (by decide +kernel) rfl rfl (Nat.le_of_ble_eq_true rfl) dX7_init_184 (fun H locs hw => ?_)
  replace hw : Wd (dC, dI) A s.heap _ _ ([(h0, .inr (7, [.ref q1, .ref q2, .int 0, .ref q3, .ref q4, .int 0, .int 0, .int 0, .ref q5, .ref q6, .ref q7, .int 0, .int (-1), .int 0, .ref q8, .ref q9, .int 0, .int 0, .int 0, .ref q10, .ref q11, .ref q12, .ref q13, .ref q14, .ref q15, .ref q16, .int 0, .int 0, .int 0, .null, .null, .null, .null, .null, .null, .null])), (q1, .inl (cI, 400, .inl (fun _ => 0))), (q2, .inl (cI, 400, .inl (fun _ => 0))), (q3, .inl (cI, 4, .inl (fun _ => 0))), (q4, .inl (cZ, 4, .inl (fun _ => 0))), (q5, .inl (cI, 800, .inl (fun _ => 0))), (q6, .inl (cI, 800, .inl (fun _ => 0))), (q7, .inl (cI, 40000, .inl (fun _ => 0))), (q8, .inl (cI, 400, .inl (fun _ => 0))), (q9, .inl (cI, 3200, .inl (fun _ => 0))), (q10, .inl (cI, 400, .inl (fun _ => 0))), (q11, .inl (cI, 8, .inl (fun _ => 0))), (q12, .inl (cI, 8, .inl (fun _ => 0))), (q13, .inl (cI, 8, .inl (fun _ => 0))), (q14, .inl (cI, 8, .inl (fun _ => 0))), (q15, .inl (cZ, 8, .inl (fun _ => 0))), (q16, .inl (cI, 8, .inl (fun _ => 0)))] : va_W) := hw
  refine lv_aload_n hx hb dX7_init_187 rfl (lv_at hl 0 rfl) ?_
  refine lv_iconst (v := 0) hx hb dX7_init_188 (by decide) ?_
  refine g_put (D := (dC, dI)) (ci := 7) (v := .int 0) (ty := .int) (C := RX7) (T := TX7) (N := 36) hx hb hts i_X7_init_X7 tyX7 tyX7_ok nmX7 hown hK hw 0 rfl rfl 26 (by decide) (hts _ m_X7_init_32) (fun _ h9 => h9) rfl (by decide +kernel) rfl rfl (Nat.le_of_ble_eq_true rfl) dX7_init_189 (fun H locs hw => ?_)
  replace hw : Wd (dC, dI) A s.heap _ _ ([(h0, .inr (7, [.ref q1, .ref q2, .int 0, .ref q3, .ref q4, .int 0, .int 0, .int 0, .ref q5, .ref q6, .ref q7, .int 0, .int (-1), .int 0, .ref q8, .ref q9, .int 0, .int 0, .int 0, .ref q10, .ref q11, .ref q12, .ref q13, .ref q14, .ref q15, .ref q16, .int 0, .int 0, .int 0, .null, .null, .null, .null, .null, .null, .null])), (q1, .inl (cI, 400, .inl (fun _ => 0))), (q2, .inl (cI, 400, .inl (fun _ => 0))), (q3, .inl (cI, 4, .inl (fun _ => 0))), (q4, .inl (cZ, 4, .inl (fun _ => 0))), (q5, .inl (cI, 800, .inl (fun _ => 0))), (q6, .inl (cI, 800, .inl (fun _ => 0))), (q7, .inl (cI, 40000, .inl (fun _ => 0))), (q8, .inl (cI, 400, .inl (fun _ => 0))), (q9, .inl (cI, 3200, .inl (fun _ => 0))), (q10, .inl (cI, 400, .inl (fun _ => 0))), (q11, .inl (cI, 8, .inl (fun _ => 0))), (q12, .inl (cI, 8, .inl (fun _ => 0))), (q13, .inl (cI, 8, .inl (fun _ => 0))), (q14, .inl (cI, 8, .inl (fun _ => 0))), (q15, .inl (cZ, 8, .inl (fun _ => 0))), (q16, .inl (cI, 8, .inl (fun _ => 0)))] : va_W) := hw
  refine lv_aload_n hx hb dX7_init_192 rfl (lv_at hl 0 rfl) ?_
  refine lv_iconst (v := 0) hx hb dX7_init_193 (by decide) ?_
  refine g_put (D := (dC, dI)) (ci := 7) (v := .int 0) (ty := .int) (C := RX7) (T := TX7) (N := 36) hx hb hts i_X7_init_X7 tyX7 tyX7_ok nmX7 hown hK hw 0 rfl rfl 27 (by decide) (hts _ m_X7_init_33) (fun _ h9 => h9) rfl (by decide +kernel) rfl rfl (Nat.le_of_ble_eq_true rfl) dX7_init_194 (fun H locs hw => ?_)
  replace hw : Wd (dC, dI) A s.heap _ _ ([(h0, .inr (7, [.ref q1, .ref q2, .int 0, .ref q3, .ref q4, .int 0, .int 0, .int 0, .ref q5, .ref q6, .ref q7, .int 0, .int (-1), .int 0, .ref q8, .ref q9, .int 0, .int 0, .int 0, .ref q10, .ref q11, .ref q12, .ref q13, .ref q14, .ref q15, .ref q16, .int 0, .int 0, .int 0, .null, .null, .null, .null, .null, .null, .null])), (q1, .inl (cI, 400, .inl (fun _ => 0))), (q2, .inl (cI, 400, .inl (fun _ => 0))), (q3, .inl (cI, 4, .inl (fun _ => 0))), (q4, .inl (cZ, 4, .inl (fun _ => 0))), (q5, .inl (cI, 800, .inl (fun _ => 0))), (q6, .inl (cI, 800, .inl (fun _ => 0))), (q7, .inl (cI, 40000, .inl (fun _ => 0))), (q8, .inl (cI, 400, .inl (fun _ => 0))), (q9, .inl (cI, 3200, .inl (fun _ => 0))), (q10, .inl (cI, 400, .inl (fun _ => 0))), (q11, .inl (cI, 8, .inl (fun _ => 0))), (q12, .inl (cI, 8, .inl (fun _ => 0))), (q13, .inl (cI, 8, .inl (fun _ => 0))), (q14, .inl (cI, 8, .inl (fun _ => 0))), (q15, .inl (cZ, 8, .inl (fun _ => 0))), (q16, .inl (cI, 8, .inl (fun _ => 0)))] : va_W) := hw
  refine lv_aload_n hx hb dX7_init_197 rfl (lv_at hl 0 rfl) ?_
  refine lv_iconst (v := 0) hx hb dX7_init_198 (by decide) ?_
  refine g_put (D := (dC, dI)) (ci := 7) (v := .int 0) (ty := .int) (C := RX7) (T := TX7) (N := 36) hx hb hts i_X7_init_X7 tyX7 tyX7_ok nmX7 hown hK hw 0 rfl rfl 28 (by decide) (hts _ m_X7_init_34) (fun _ h9 => h9) rfl (by decide +kernel) rfl rfl (Nat.le_of_ble_eq_true rfl) dX7_init_199 (fun H locs hw => ?_)
  replace hw : Wd (dC, dI) A s.heap _ _ ([(h0, .inr (7, [.ref q1, .ref q2, .int 0, .ref q3, .ref q4, .int 0, .int 0, .int 0, .ref q5, .ref q6, .ref q7, .int 0, .int (-1), .int 0, .ref q8, .ref q9, .int 0, .int 0, .int 0, .ref q10, .ref q11, .ref q12, .ref q13, .ref q14, .ref q15, .ref q16, .int 0, .int 0, .int 0, .null, .null, .null, .null, .null, .null, .null])), (q1, .inl (cI, 400, .inl (fun _ => 0))), (q2, .inl (cI, 400, .inl (fun _ => 0))), (q3, .inl (cI, 4, .inl (fun _ => 0))), (q4, .inl (cZ, 4, .inl (fun _ => 0))), (q5, .inl (cI, 800, .inl (fun _ => 0))), (q6, .inl (cI, 800, .inl (fun _ => 0))), (q7, .inl (cI, 40000, .inl (fun _ => 0))), (q8, .inl (cI, 400, .inl (fun _ => 0))), (q9, .inl (cI, 3200, .inl (fun _ => 0))), (q10, .inl (cI, 400, .inl (fun _ => 0))), (q11, .inl (cI, 8, .inl (fun _ => 0))), (q12, .inl (cI, 8, .inl (fun _ => 0))), (q13, .inl (cI, 8, .inl (fun _ => 0))), (q14, .inl (cI, 8, .inl (fun _ => 0))), (q15, .inl (cZ, 8, .inl (fun _ => 0))), (q16, .inl (cI, 8, .inl (fun _ => 0)))] : va_W) := hw
  refine lv_aload_n hx hb dX7_init_202 rfl (lv_at hl 0 rfl) ?_
  refine lv_bipush (v := 8) hx hb dX7_init_203 (by decide) ?_
  refine g_newa_i X (hts _ m_X7_init_3) hw (N := 8) (by decide) (by decide) (by decide) (Nat.le_of_ble_eq_true rfl) (Nat.le_of_ble_eq_true rfl) dX7_init_205 (fun q17 H hw => ?_)
  replace hw : Wd (dC, dI) A s.heap _ _ ([(h0, .inr (7, [.ref q1, .ref q2, .int 0, .ref q3, .ref q4, .int 0, .int 0, .int 0, .ref q5, .ref q6, .ref q7, .int 0, .int (-1), .int 0, .ref q8, .ref q9, .int 0, .int 0, .int 0, .ref q10, .ref q11, .ref q12, .ref q13, .ref q14, .ref q15, .ref q16, .int 0, .int 0, .int 0, .null, .null, .null, .null, .null, .null, .null])), (q1, .inl (cI, 400, .inl (fun _ => 0))), (q2, .inl (cI, 400, .inl (fun _ => 0))), (q3, .inl (cI, 4, .inl (fun _ => 0))), (q4, .inl (cZ, 4, .inl (fun _ => 0))), (q5, .inl (cI, 800, .inl (fun _ => 0))), (q6, .inl (cI, 800, .inl (fun _ => 0))), (q7, .inl (cI, 40000, .inl (fun _ => 0))), (q8, .inl (cI, 400, .inl (fun _ => 0))), (q9, .inl (cI, 3200, .inl (fun _ => 0))), (q10, .inl (cI, 400, .inl (fun _ => 0))), (q11, .inl (cI, 8, .inl (fun _ => 0))), (q12, .inl (cI, 8, .inl (fun _ => 0))), (q13, .inl (cI, 8, .inl (fun _ => 0))), (q14, .inl (cI, 8, .inl (fun _ => 0))), (q15, .inl (cZ, 8, .inl (fun _ => 0))), (q16, .inl (cI, 8, .inl (fun _ => 0))), (q17, .inl (cI, 8, .inl (fun _ => 0)))] : va_W) := hw
  refine g_putF (D := (dC, dI)) (ci := 7) (v := .ref q17) (ty := .array .int) (C := RX7) (T := TX7) (N := 36) hx hb hts i_X7_init_X7 tyX7 tyX7_ok nmX7 hown hK hw 0 rfl rfl 29 (by decide) (hts _ m_X7_init_35) (fun _ h9 => h9) rfl hin rfl (by decide +kernel) rfl rfl (Nat.le_of_ble_eq_true rfl) dX7_init_207 (fun H locs hw => ?_)
  replace hw : Wd (dC, dI) A s.heap _ _ ([(h0, .inr (7, [.ref q1, .ref q2, .int 0, .ref q3, .ref q4, .int 0, .int 0, .int 0, .ref q5, .ref q6, .ref q7, .int 0, .int (-1), .int 0, .ref q8, .ref q9, .int 0, .int 0, .int 0, .ref q10, .ref q11, .ref q12, .ref q13, .ref q14, .ref q15, .ref q16, .int 0, .int 0, .int 0, .ref q17, .null, .null, .null, .null, .null, .null])), (q1, .inl (cI, 400, .inl (fun _ => 0))), (q2, .inl (cI, 400, .inl (fun _ => 0))), (q3, .inl (cI, 4, .inl (fun _ => 0))), (q4, .inl (cZ, 4, .inl (fun _ => 0))), (q5, .inl (cI, 800, .inl (fun _ => 0))), (q6, .inl (cI, 800, .inl (fun _ => 0))), (q7, .inl (cI, 40000, .inl (fun _ => 0))), (q8, .inl (cI, 400, .inl (fun _ => 0))), (q9, .inl (cI, 3200, .inl (fun _ => 0))), (q10, .inl (cI, 400, .inl (fun _ => 0))), (q11, .inl (cI, 8, .inl (fun _ => 0))), (q12, .inl (cI, 8, .inl (fun _ => 0))), (q13, .inl (cI, 8, .inl (fun _ => 0))), (q14, .inl (cI, 8, .inl (fun _ => 0))), (q15, .inl (cZ, 8, .inl (fun _ => 0))), (q16, .inl (cI, 8, .inl (fun _ => 0))), (q17, .inl (cI, 8, .inl (fun _ => 0)))] : va_W) := hw
  refine lv_aload_n hx hb dX7_init_210 rfl (lv_at hl 0 rfl) ?_
  refine lv_bipush (v := 8) hx hb dX7_init_211 (by decide) ?_
  refine g_newa_z X (hts _ m_X7_init_8) hw (N := 8) (by decide) (by decide) (by decide) (Nat.le_of_ble_eq_true rfl) (Nat.le_of_ble_eq_true rfl) dX7_init_213 (fun q18 H hw => ?_)
  replace hw : Wd (dC, dI) A s.heap _ _ ([(h0, .inr (7, [.ref q1, .ref q2, .int 0, .ref q3, .ref q4, .int 0, .int 0, .int 0, .ref q5, .ref q6, .ref q7, .int 0, .int (-1), .int 0, .ref q8, .ref q9, .int 0, .int 0, .int 0, .ref q10, .ref q11, .ref q12, .ref q13, .ref q14, .ref q15, .ref q16, .int 0, .int 0, .int 0, .ref q17, .null, .null, .null, .null, .null, .null])), (q1, .inl (cI, 400, .inl (fun _ => 0))), (q2, .inl (cI, 400, .inl (fun _ => 0))), (q3, .inl (cI, 4, .inl (fun _ => 0))), (q4, .inl (cZ, 4, .inl (fun _ => 0))), (q5, .inl (cI, 800, .inl (fun _ => 0))), (q6, .inl (cI, 800, .inl (fun _ => 0))), (q7, .inl (cI, 40000, .inl (fun _ => 0))), (q8, .inl (cI, 400, .inl (fun _ => 0))), (q9, .inl (cI, 3200, .inl (fun _ => 0))), (q10, .inl (cI, 400, .inl (fun _ => 0))), (q11, .inl (cI, 8, .inl (fun _ => 0))), (q12, .inl (cI, 8, .inl (fun _ => 0))), (q13, .inl (cI, 8, .inl (fun _ => 0))), (q14, .inl (cI, 8, .inl (fun _ => 0))), (q15, .inl (cZ, 8, .inl (fun _ => 0))), (q16, .inl (cI, 8, .inl (fun _ => 0))), (q17, .inl (cI, 8, .inl (fun _ => 0))), (q18, .inl (cZ, 8, .inl (fun _ => 0)))] : va_W) := hw
  refine g_putF (D := (dC, dI)) (ci := 7) (v := .ref q18) (ty := .array .boolean) (C := RX7) (T := TX7) (N := 36) hx hb hts i_X7_init_X7 tyX7 tyX7_ok nmX7 hown hK hw 0 rfl rfl 30 (by decide) (hts _ m_X7_init_36) (fun _ h9 => h9) rfl hin rfl (by decide +kernel) rfl rfl (Nat.le_of_ble_eq_true rfl) dX7_init_215 (fun H locs hw => ?_)
  replace hw : Wd (dC, dI) A s.heap _ _ ([(h0, .inr (7, [.ref q1, .ref q2, .int 0, .ref q3, .ref q4, .int 0, .int 0, .int 0, .ref q5, .ref q6, .ref q7, .int 0, .int (-1), .int 0, .ref q8, .ref q9, .int 0, .int 0, .int 0, .ref q10, .ref q11, .ref q12, .ref q13, .ref q14, .ref q15, .ref q16, .int 0, .int 0, .int 0, .ref q17, .ref q18, .null, .null, .null, .null, .null])), (q1, .inl (cI, 400, .inl (fun _ => 0))), (q2, .inl (cI, 400, .inl (fun _ => 0))), (q3, .inl (cI, 4, .inl (fun _ => 0))), (q4, .inl (cZ, 4, .inl (fun _ => 0))), (q5, .inl (cI, 800, .inl (fun _ => 0))), (q6, .inl (cI, 800, .inl (fun _ => 0))), (q7, .inl (cI, 40000, .inl (fun _ => 0))), (q8, .inl (cI, 400, .inl (fun _ => 0))), (q9, .inl (cI, 3200, .inl (fun _ => 0))), (q10, .inl (cI, 400, .inl (fun _ => 0))), (q11, .inl (cI, 8, .inl (fun _ => 0))), (q12, .inl (cI, 8, .inl (fun _ => 0))), (q13, .inl (cI, 8, .inl (fun _ => 0))), (q14, .inl (cI, 8, .inl (fun _ => 0))), (q15, .inl (cZ, 8, .inl (fun _ => 0))), (q16, .inl (cI, 8, .inl (fun _ => 0))), (q17, .inl (cI, 8, .inl (fun _ => 0))), (q18, .inl (cZ, 8, .inl (fun _ => 0)))] : va_W) := hw
  refine lv_aload_n hx hb dX7_init_218 rfl (lv_at hl 0 rfl) ?_
  refine lv_bipush (v := 8) hx hb dX7_init_219 (by decide) ?_
  refine g_newa_i X (hts _ m_X7_init_3) hw (N := 8) (by decide) (by decide) (by decide) (Nat.le_of_ble_eq_true rfl) (Nat.le_of_ble_eq_true rfl) dX7_init_221 (fun q19 H hw => ?_)
  replace hw : Wd (dC, dI) A s.heap _ _ ([(h0, .inr (7, [.ref q1, .ref q2, .int 0, .ref q3, .ref q4, .int 0, .int 0, .int 0, .ref q5, .ref q6, .ref q7, .int 0, .int (-1), .int 0, .ref q8, .ref q9, .int 0, .int 0, .int 0, .ref q10, .ref q11, .ref q12, .ref q13, .ref q14, .ref q15, .ref q16, .int 0, .int 0, .int 0, .ref q17, .ref q18, .null, .null, .null, .null, .null])), (q1, .inl (cI, 400, .inl (fun _ => 0))), (q2, .inl (cI, 400, .inl (fun _ => 0))), (q3, .inl (cI, 4, .inl (fun _ => 0))), (q4, .inl (cZ, 4, .inl (fun _ => 0))), (q5, .inl (cI, 800, .inl (fun _ => 0))), (q6, .inl (cI, 800, .inl (fun _ => 0))), (q7, .inl (cI, 40000, .inl (fun _ => 0))), (q8, .inl (cI, 400, .inl (fun _ => 0))), (q9, .inl (cI, 3200, .inl (fun _ => 0))), (q10, .inl (cI, 400, .inl (fun _ => 0))), (q11, .inl (cI, 8, .inl (fun _ => 0))), (q12, .inl (cI, 8, .inl (fun _ => 0))), (q13, .inl (cI, 8, .inl (fun _ => 0))), (q14, .inl (cI, 8, .inl (fun _ => 0))), (q15, .inl (cZ, 8, .inl (fun _ => 0))), (q16, .inl (cI, 8, .inl (fun _ => 0))), (q17, .inl (cI, 8, .inl (fun _ => 0))), (q18, .inl (cZ, 8, .inl (fun _ => 0))), (q19, .inl (cI, 8, .inl (fun _ => 0)))] : va_W) := hw
  refine g_putF (D := (dC, dI)) (ci := 7) (v := .ref q19) (ty := .array .int) (C := RX7) (T := TX7) (N := 36) hx hb hts i_X7_init_X7 tyX7 tyX7_ok nmX7 hown hK hw 0 rfl rfl 31 (by decide) (hts _ m_X7_init_37) (fun _ h9 => h9) rfl hin rfl (by decide +kernel) rfl rfl (Nat.le_of_ble_eq_true rfl) dX7_init_223 (fun H locs hw => ?_)
  replace hw : Wd (dC, dI) A s.heap _ _ ([(h0, .inr (7, [.ref q1, .ref q2, .int 0, .ref q3, .ref q4, .int 0, .int 0, .int 0, .ref q5, .ref q6, .ref q7, .int 0, .int (-1), .int 0, .ref q8, .ref q9, .int 0, .int 0, .int 0, .ref q10, .ref q11, .ref q12, .ref q13, .ref q14, .ref q15, .ref q16, .int 0, .int 0, .int 0, .ref q17, .ref q18, .ref q19, .null, .null, .null, .null])), (q1, .inl (cI, 400, .inl (fun _ => 0))), (q2, .inl (cI, 400, .inl (fun _ => 0))), (q3, .inl (cI, 4, .inl (fun _ => 0))), (q4, .inl (cZ, 4, .inl (fun _ => 0))), (q5, .inl (cI, 800, .inl (fun _ => 0))), (q6, .inl (cI, 800, .inl (fun _ => 0))), (q7, .inl (cI, 40000, .inl (fun _ => 0))), (q8, .inl (cI, 400, .inl (fun _ => 0))), (q9, .inl (cI, 3200, .inl (fun _ => 0))), (q10, .inl (cI, 400, .inl (fun _ => 0))), (q11, .inl (cI, 8, .inl (fun _ => 0))), (q12, .inl (cI, 8, .inl (fun _ => 0))), (q13, .inl (cI, 8, .inl (fun _ => 0))), (q14, .inl (cI, 8, .inl (fun _ => 0))), (q15, .inl (cZ, 8, .inl (fun _ => 0))), (q16, .inl (cI, 8, .inl (fun _ => 0))), (q17, .inl (cI, 8, .inl (fun _ => 0))), (q18, .inl (cZ, 8, .inl (fun _ => 0))), (q19, .inl (cI, 8, .inl (fun _ => 0)))] : va_W) := hw
  refine lv_aload_n hx hb dX7_init_226 rfl (lv_at hl 0 rfl) ?_
  refine lv_bipush (v := 40) hx hb dX7_init_227 (by decide) ?_
  refine g_newa_i X (hts _ m_X7_init_3) hw (N := 40) (by decide) (by decide) (by decide) (Nat.le_of_ble_eq_true rfl) (Nat.le_of_ble_eq_true rfl) dX7_init_229 (fun q20 H hw => ?_)
  replace hw : Wd (dC, dI) A s.heap _ _ ([(h0, .inr (7, [.ref q1, .ref q2, .int 0, .ref q3, .ref q4, .int 0, .int 0, .int 0, .ref q5, .ref q6, .ref q7, .int 0, .int (-1), .int 0, .ref q8, .ref q9, .int 0, .int 0, .int 0, .ref q10, .ref q11, .ref q12, .ref q13, .ref q14, .ref q15, .ref q16, .int 0, .int 0, .int 0, .ref q17, .ref q18, .ref q19, .null, .null, .null, .null])), (q1, .inl (cI, 400, .inl (fun _ => 0))), (q2, .inl (cI, 400, .inl (fun _ => 0))), (q3, .inl (cI, 4, .inl (fun _ => 0))), (q4, .inl (cZ, 4, .inl (fun _ => 0))), (q5, .inl (cI, 800, .inl (fun _ => 0))), (q6, .inl (cI, 800, .inl (fun _ => 0))), (q7, .inl (cI, 40000, .inl (fun _ => 0))), (q8, .inl (cI, 400, .inl (fun _ => 0))), (q9, .inl (cI, 3200, .inl (fun _ => 0))), (q10, .inl (cI, 400, .inl (fun _ => 0))), (q11, .inl (cI, 8, .inl (fun _ => 0))), (q12, .inl (cI, 8, .inl (fun _ => 0))), (q13, .inl (cI, 8, .inl (fun _ => 0))), (q14, .inl (cI, 8, .inl (fun _ => 0))), (q15, .inl (cZ, 8, .inl (fun _ => 0))), (q16, .inl (cI, 8, .inl (fun _ => 0))), (q17, .inl (cI, 8, .inl (fun _ => 0))), (q18, .inl (cZ, 8, .inl (fun _ => 0))), (q19, .inl (cI, 8, .inl (fun _ => 0))), (q20, .inl (cI, 40, .inl (fun _ => 0)))] : va_W) := hw
  refine g_putF (D := (dC, dI)) (ci := 7) (v := .ref q20) (ty := .array .int) (C := RX7) (T := TX7) (N := 36) hx hb hts i_X7_init_X7 tyX7 tyX7_ok nmX7 hown hK hw 0 rfl rfl 32 (by decide) (hts _ m_X7_init_38) (fun _ h9 => h9) rfl hin rfl (by decide +kernel) rfl rfl (Nat.le_of_ble_eq_true rfl) dX7_init_231 (fun H locs hw => ?_)
  replace hw : Wd (dC, dI) A s.heap _ _ ([(h0, .inr (7, [.ref q1, .ref q2, .int 0, .ref q3, .ref q4, .int 0, .int 0, .int 0, .ref q5, .ref q6, .ref q7, .int 0, .int (-1), .int 0, .ref q8, .ref q9, .int 0, .int 0, .int 0, .ref q10, .ref q11, .ref q12, .ref q13, .ref q14, .ref q15, .ref q16, .int 0, .int 0, .int 0, .ref q17, .ref q18, .ref q19, .ref q20, .null, .null, .null])), (q1, .inl (cI, 400, .inl (fun _ => 0))), (q2, .inl (cI, 400, .inl (fun _ => 0))), (q3, .inl (cI, 4, .inl (fun _ => 0))), (q4, .inl (cZ, 4, .inl (fun _ => 0))), (q5, .inl (cI, 800, .inl (fun _ => 0))), (q6, .inl (cI, 800, .inl (fun _ => 0))), (q7, .inl (cI, 40000, .inl (fun _ => 0))), (q8, .inl (cI, 400, .inl (fun _ => 0))), (q9, .inl (cI, 3200, .inl (fun _ => 0))), (q10, .inl (cI, 400, .inl (fun _ => 0))), (q11, .inl (cI, 8, .inl (fun _ => 0))), (q12, .inl (cI, 8, .inl (fun _ => 0))), (q13, .inl (cI, 8, .inl (fun _ => 0))), (q14, .inl (cI, 8, .inl (fun _ => 0))), (q15, .inl (cZ, 8, .inl (fun _ => 0))), (q16, .inl (cI, 8, .inl (fun _ => 0))), (q17, .inl (cI, 8, .inl (fun _ => 0))), (q18, .inl (cZ, 8, .inl (fun _ => 0))), (q19, .inl (cI, 8, .inl (fun _ => 0))), (q20, .inl (cI, 40, .inl (fun _ => 0)))] : va_W) := hw
  refine lv_aload_n hx hb dX7_init_234 rfl (lv_at hl 0 rfl) ?_
  refine lv_sipush (v := 800) hx hb dX7_init_235 (by decide) ?_
  refine g_newa_z X (hts _ m_X7_init_8) hw (N := 800) (by decide) (by decide) (by decide) (Nat.le_of_ble_eq_true rfl) (Nat.le_of_ble_eq_true rfl) dX7_init_238 (fun q21 H hw => ?_)
  replace hw : Wd (dC, dI) A s.heap _ _ ([(h0, .inr (7, [.ref q1, .ref q2, .int 0, .ref q3, .ref q4, .int 0, .int 0, .int 0, .ref q5, .ref q6, .ref q7, .int 0, .int (-1), .int 0, .ref q8, .ref q9, .int 0, .int 0, .int 0, .ref q10, .ref q11, .ref q12, .ref q13, .ref q14, .ref q15, .ref q16, .int 0, .int 0, .int 0, .ref q17, .ref q18, .ref q19, .ref q20, .null, .null, .null])), (q1, .inl (cI, 400, .inl (fun _ => 0))), (q2, .inl (cI, 400, .inl (fun _ => 0))), (q3, .inl (cI, 4, .inl (fun _ => 0))), (q4, .inl (cZ, 4, .inl (fun _ => 0))), (q5, .inl (cI, 800, .inl (fun _ => 0))), (q6, .inl (cI, 800, .inl (fun _ => 0))), (q7, .inl (cI, 40000, .inl (fun _ => 0))), (q8, .inl (cI, 400, .inl (fun _ => 0))), (q9, .inl (cI, 3200, .inl (fun _ => 0))), (q10, .inl (cI, 400, .inl (fun _ => 0))), (q11, .inl (cI, 8, .inl (fun _ => 0))), (q12, .inl (cI, 8, .inl (fun _ => 0))), (q13, .inl (cI, 8, .inl (fun _ => 0))), (q14, .inl (cI, 8, .inl (fun _ => 0))), (q15, .inl (cZ, 8, .inl (fun _ => 0))), (q16, .inl (cI, 8, .inl (fun _ => 0))), (q17, .inl (cI, 8, .inl (fun _ => 0))), (q18, .inl (cZ, 8, .inl (fun _ => 0))), (q19, .inl (cI, 8, .inl (fun _ => 0))), (q20, .inl (cI, 40, .inl (fun _ => 0))), (q21, .inl (cZ, 800, .inl (fun _ => 0)))] : va_W) := hw
  refine g_putF (D := (dC, dI)) (ci := 7) (v := .ref q21) (ty := .array .boolean) (C := RX7) (T := TX7) (N := 36) hx hb hts i_X7_init_X7 tyX7 tyX7_ok nmX7 hown hK hw 0 rfl rfl 33 (by decide) (hts _ m_X7_init_39) (fun _ h9 => h9) rfl hin rfl (by decide +kernel) rfl rfl (Nat.le_of_ble_eq_true rfl) dX7_init_240 (fun H locs hw => ?_)
  replace hw : Wd (dC, dI) A s.heap _ _ ([(h0, .inr (7, [.ref q1, .ref q2, .int 0, .ref q3, .ref q4, .int 0, .int 0, .int 0, .ref q5, .ref q6, .ref q7, .int 0, .int (-1), .int 0, .ref q8, .ref q9, .int 0, .int 0, .int 0, .ref q10, .ref q11, .ref q12, .ref q13, .ref q14, .ref q15, .ref q16, .int 0, .int 0, .int 0, .ref q17, .ref q18, .ref q19, .ref q20, .ref q21, .null, .null])), (q1, .inl (cI, 400, .inl (fun _ => 0))), (q2, .inl (cI, 400, .inl (fun _ => 0))), (q3, .inl (cI, 4, .inl (fun _ => 0))), (q4, .inl (cZ, 4, .inl (fun _ => 0))), (q5, .inl (cI, 800, .inl (fun _ => 0))), (q6, .inl (cI, 800, .inl (fun _ => 0))), (q7, .inl (cI, 40000, .inl (fun _ => 0))), (q8, .inl (cI, 400, .inl (fun _ => 0))), (q9, .inl (cI, 3200, .inl (fun _ => 0))), (q10, .inl (cI, 400, .inl (fun _ => 0))), (q11, .inl (cI, 8, .inl (fun _ => 0))), (q12, .inl (cI, 8, .inl (fun _ => 0))), (q13, .inl (cI, 8, .inl (fun _ => 0))), (q14, .inl (cI, 8, .inl (fun _ => 0))), (q15, .inl (cZ, 8, .inl (fun _ => 0))), (q16, .inl (cI, 8, .inl (fun _ => 0))), (q17, .inl (cI, 8, .inl (fun _ => 0))), (q18, .inl (cZ, 8, .inl (fun _ => 0))), (q19, .inl (cI, 8, .inl (fun _ => 0))), (q20, .inl (cI, 40, .inl (fun _ => 0))), (q21, .inl (cZ, 800, .inl (fun _ => 0)))] : va_W) := hw
  refine lv_aload_n hx hb dX7_init_243 rfl (lv_at hl 0 rfl) ?_
  refine lv_sipush (v := 800) hx hb dX7_init_244 (by decide) ?_
  refine g_newa_i X (hts _ m_X7_init_3) hw (N := 800) (by decide) (by decide) (by decide) (Nat.le_of_ble_eq_true rfl) (Nat.le_of_ble_eq_true rfl) dX7_init_247 (fun q22 H hw => ?_)
  replace hw : Wd (dC, dI) A s.heap _ _ ([(h0, .inr (7, [.ref q1, .ref q2, .int 0, .ref q3, .ref q4, .int 0, .int 0, .int 0, .ref q5, .ref q6, .ref q7, .int 0, .int (-1), .int 0, .ref q8, .ref q9, .int 0, .int 0, .int 0, .ref q10, .ref q11, .ref q12, .ref q13, .ref q14, .ref q15, .ref q16, .int 0, .int 0, .int 0, .ref q17, .ref q18, .ref q19, .ref q20, .ref q21, .null, .null])), (q1, .inl (cI, 400, .inl (fun _ => 0))), (q2, .inl (cI, 400, .inl (fun _ => 0))), (q3, .inl (cI, 4, .inl (fun _ => 0))), (q4, .inl (cZ, 4, .inl (fun _ => 0))), (q5, .inl (cI, 800, .inl (fun _ => 0))), (q6, .inl (cI, 800, .inl (fun _ => 0))), (q7, .inl (cI, 40000, .inl (fun _ => 0))), (q8, .inl (cI, 400, .inl (fun _ => 0))), (q9, .inl (cI, 3200, .inl (fun _ => 0))), (q10, .inl (cI, 400, .inl (fun _ => 0))), (q11, .inl (cI, 8, .inl (fun _ => 0))), (q12, .inl (cI, 8, .inl (fun _ => 0))), (q13, .inl (cI, 8, .inl (fun _ => 0))), (q14, .inl (cI, 8, .inl (fun _ => 0))), (q15, .inl (cZ, 8, .inl (fun _ => 0))), (q16, .inl (cI, 8, .inl (fun _ => 0))), (q17, .inl (cI, 8, .inl (fun _ => 0))), (q18, .inl (cZ, 8, .inl (fun _ => 0))), (q19, .inl (cI, 8, .inl (fun _ => 0))), (q20, .inl (cI, 40, .inl (fun _ => 0))), (q21, .inl (cZ, 800, .inl (fun _ => 0))), (q22, .inl (cI, 800, .inl (fun _ => 0)))] : va_W) := hw
  refine g_putF (D := (dC, dI)) (ci := 7) (v := .ref q22) (ty := .array .int) (C := RX7) (T := TX7) (N := 36) hx hb hts i_X7_init_X7 tyX7 tyX7_ok nmX7 hown hK hw 0 rfl rfl 34 (by decide) (hts _ m_X7_init_40) (fun _ h9 => h9) rfl hin rfl (by decide +kernel) rfl rfl (Nat.le_of_ble_eq_true rfl) dX7_init_249 (fun H locs hw => ?_)
  replace hw : Wd (dC, dI) A s.heap _ _ ([(h0, .inr (7, [.ref q1, .ref q2, .int 0, .ref q3, .ref q4, .int 0, .int 0, .int 0, .ref q5, .ref q6, .ref q7, .int 0, .int (-1), .int 0, .ref q8, .ref q9, .int 0, .int 0, .int 0, .ref q10, .ref q11, .ref q12, .ref q13, .ref q14, .ref q15, .ref q16, .int 0, .int 0, .int 0, .ref q17, .ref q18, .ref q19, .ref q20, .ref q21, .ref q22, .null])), (q1, .inl (cI, 400, .inl (fun _ => 0))), (q2, .inl (cI, 400, .inl (fun _ => 0))), (q3, .inl (cI, 4, .inl (fun _ => 0))), (q4, .inl (cZ, 4, .inl (fun _ => 0))), (q5, .inl (cI, 800, .inl (fun _ => 0))), (q6, .inl (cI, 800, .inl (fun _ => 0))), (q7, .inl (cI, 40000, .inl (fun _ => 0))), (q8, .inl (cI, 400, .inl (fun _ => 0))), (q9, .inl (cI, 3200, .inl (fun _ => 0))), (q10, .inl (cI, 400, .inl (fun _ => 0))), (q11, .inl (cI, 8, .inl (fun _ => 0))), (q12, .inl (cI, 8, .inl (fun _ => 0))), (q13, .inl (cI, 8, .inl (fun _ => 0))), (q14, .inl (cI, 8, .inl (fun _ => 0))), (q15, .inl (cZ, 8, .inl (fun _ => 0))), (q16, .inl (cI, 8, .inl (fun _ => 0))), (q17, .inl (cI, 8, .inl (fun _ => 0))), (q18, .inl (cZ, 8, .inl (fun _ => 0))), (q19, .inl (cI, 8, .inl (fun _ => 0))), (q20, .inl (cI, 40, .inl (fun _ => 0))), (q21, .inl (cZ, 800, .inl (fun _ => 0))), (q22, .inl (cI, 800, .inl (fun _ => 0)))] : va_W) := hw
  refine lv_aload_n hx hb dX7_init_252 rfl (lv_at hl 0 rfl) ?_
  refine lv_bipush (v := 8) hx hb dX7_init_253 (by decide) ?_
  refine g_newa_i X (hts _ m_X7_init_3) hw (N := 8) (by decide) (by decide) (by decide) (Nat.le_of_ble_eq_true rfl) (Nat.le_of_ble_eq_true rfl) dX7_init_255 (fun q23 H hw => ?_)
  replace hw : Wd (dC, dI) A s.heap _ _ ([(h0, .inr (7, [.ref q1, .ref q2, .int 0, .ref q3, .ref q4, .int 0, .int 0, .int 0, .ref q5, .ref q6, .ref q7, .int 0, .int (-1), .int 0, .ref q8, .ref q9, .int 0, .int 0, .int 0, .ref q10, .ref q11, .ref q12, .ref q13, .ref q14, .ref q15, .ref q16, .int 0, .int 0, .int 0, .ref q17, .ref q18, .ref q19, .ref q20, .ref q21, .ref q22, .null])), (q1, .inl (cI, 400, .inl (fun _ => 0))), (q2, .inl (cI, 400, .inl (fun _ => 0))), (q3, .inl (cI, 4, .inl (fun _ => 0))), (q4, .inl (cZ, 4, .inl (fun _ => 0))), (q5, .inl (cI, 800, .inl (fun _ => 0))), (q6, .inl (cI, 800, .inl (fun _ => 0))), (q7, .inl (cI, 40000, .inl (fun _ => 0))), (q8, .inl (cI, 400, .inl (fun _ => 0))), (q9, .inl (cI, 3200, .inl (fun _ => 0))), (q10, .inl (cI, 400, .inl (fun _ => 0))), (q11, .inl (cI, 8, .inl (fun _ => 0))), (q12, .inl (cI, 8, .inl (fun _ => 0))), (q13, .inl (cI, 8, .inl (fun _ => 0))), (q14, .inl (cI, 8, .inl (fun _ => 0))), (q15, .inl (cZ, 8, .inl (fun _ => 0))), (q16, .inl (cI, 8, .inl (fun _ => 0))), (q17, .inl (cI, 8, .inl (fun _ => 0))), (q18, .inl (cZ, 8, .inl (fun _ => 0))), (q19, .inl (cI, 8, .inl (fun _ => 0))), (q20, .inl (cI, 40, .inl (fun _ => 0))), (q21, .inl (cZ, 800, .inl (fun _ => 0))), (q22, .inl (cI, 800, .inl (fun _ => 0))), (q23, .inl (cI, 8, .inl (fun _ => 0)))] : va_W) := hw
  refine g_putF (D := (dC, dI)) (ci := 7) (v := .ref q23) (ty := .array .int) (C := RX7) (T := TX7) (N := 36) hx hb hts i_X7_init_X7 tyX7 tyX7_ok nmX7 hown hK hw 0 rfl rfl 35 (by decide) (hts _ m_X7_init_41) (fun _ h9 => h9) rfl hin rfl (by decide +kernel) rfl rfl (Nat.le_of_ble_eq_true rfl) dX7_init_257 (fun H locs hw => ?_)
  replace hw : Wd (dC, dI) A s.heap _ _ ([(h0, .inr (7, [.ref q1, .ref q2, .int 0, .ref q3, .ref q4, .int 0, .int 0, .int 0, .ref q5, .ref q6, .ref q7, .int 0, .int (-1), .int 0, .ref q8, .ref q9, .int 0, .int 0, .int 0, .ref q10, .ref q11, .ref q12, .ref q13, .ref q14, .ref q15, .ref q16, .int 0, .int 0, .int 0, .ref q17, .ref q18, .ref q19, .ref q20, .ref q21, .ref q22, .ref q23])), (q1, .inl (cI, 400, .inl (fun _ => 0))), (q2, .inl (cI, 400, .inl (fun _ => 0))), (q3, .inl (cI, 4, .inl (fun _ => 0))), (q4, .inl (cZ, 4, .inl (fun _ => 0))), (q5, .inl (cI, 800, .inl (fun _ => 0))), (q6, .inl (cI, 800, .inl (fun _ => 0))), (q7, .inl (cI, 40000, .inl (fun _ => 0))), (q8, .inl (cI, 400, .inl (fun _ => 0))), (q9, .inl (cI, 3200, .inl (fun _ => 0))), (q10, .inl (cI, 400, .inl (fun _ => 0))), (q11, .inl (cI, 8, .inl (fun _ => 0))), (q12, .inl (cI, 8, .inl (fun _ => 0))), (q13, .inl (cI, 8, .inl (fun _ => 0))), (q14, .inl (cI, 8, .inl (fun _ => 0))), (q15, .inl (cZ, 8, .inl (fun _ => 0))), (q16, .inl (cI, 8, .inl (fun _ => 0))), (q17, .inl (cI, 8, .inl (fun _ => 0))), (q18, .inl (cZ, 8, .inl (fun _ => 0))), (q19, .inl (cI, 8, .inl (fun _ => 0))), (q20, .inl (cI, 40, .inl (fun _ => 0))), (q21, .inl (cZ, 800, .inl (fun _ => 0))), (q22, .inl (cI, 800, .inl (fun _ => 0))), (q23, .inl (cI, 8, .inl (fun _ => 0)))] : va_W) := hw
  refine lv_iconst (v := 0) hx hb dX7_init_260 (by decide) ?_
  obtain ⟨aM, ea⟩ : ∃ f : Nat → Nat, f = (fun k => match k with | 0 => h0 | 1 => q1 | 2 => q2 | 3 => q3 | 4 => q4 | 5 => q5 | 6 => q6 | 7 => q7 | 8 => q8 | 9 => q9 | 10 => q10 | 11 => q11 | 12 => q12 | 13 => q13 | 14 => q14 | 15 => q15 | 16 => q16 | 17 => q17 | 18 => q18 | 19 => q19 | 20 => q20 | 21 => q21 | 22 => q22 | _ => q23) := ⟨_, rfl⟩
  have ea0 : aM 0 = h0 := congrFun ea 0
  replace hw : Wd (dC, dI) A s.heap H locs (w_M aM cI cJ cZ (fun _ => 0) (fun _ => 0) 0 (fun _ => 0) (fun _ => 0) 0 0 0 (fun _ => 0) (fun _ => 0) (fun _ => 0) 0 (-1) 0 (fun _ => 0) (fun _ => 0) 0 0 0 (fun _ => 0) (fun _ => 0) (fun _ => 0) (fun _ => 0) (fun _ => 0) (fun _ => 0) (fun _ => 0) 0 0 0 (fun _ => 0) (fun _ => 0) (fun _ => 0) (fun _ => 0) (fun _ => 0) (fun _ => 0) (fun _ => 0)) := by rw [ea]; exact hw
  replace hl : lv_has ls 2 [(0, .ref (aM 0))] := by rw [ea]; exact hl
  unfold f_X7_init at hf
  refine lv_istore_n (lv' := [(1, .int 0), (0, .ref (aM 0))]) hx hb dX7_init_261 rfl hl (by decide) rfl (fun ls hl => ?_)
  obtain ⟨e1004, h1005, hf⟩ := bd1_ob hf
  refine t_X7_init_262 aM X N (fun _ => 0) (fun _ => 0) 0 (fun _ => 0) 0 0 0 (fun _ => 0) (fun _ => 0) (fun _ => 0) 0 (-1) 0 (fun _ => 0) (fun _ => 0) 0 0 0 (fun _ => 0) (fun _ => 0) (fun _ => 0) (fun _ => 0) (fun _ => 0) (fun _ => 0) (fun _ => 0) 0 0 0 (fun _ => 0) (fun _ => 0) (fun _ => 0) (fun _ => 0) (fun _ => 0) (fun _ => 0) (fun _ => 0) N _ _ _ h1005 _ _ _ hw (lv_sub hl [1, 0] rfl) (fun H locs ls hw hl => ?_)
  refine lv_iconst (v := 0) hx hb dX7_init_280 (by decide) ?_
  refine lv_istore_n (lv' := [(1, .int 0), (0, .ref (aM 0))]) hx hb dX7_init_281 rfl hl (by decide) rfl (fun ls hl => ?_)
  obtain ⟨e1010, e1011, h1012, hf⟩ := bd2_ob hf
  refine t_X7_init_282 aM X N (fun _ => 0) (fun _ => 0) 0 e1004 (fun _ => 0) 0 0 0 (fun _ => 0) (fun _ => 0) (fun _ => 0) 0 (-1) 0 (fun _ => 0) (fun _ => 0) 0 0 0 (fun _ => 0) (fun _ => 0) (fun _ => 0) (fun _ => 0) (fun _ => 0) (fun _ => 0) (fun _ => 0) 0 0 0 (fun _ => 0) (fun _ => 0) (fun _ => 0) (fun _ => 0) (fun _ => 0) N _ _ _ _ _ h1012 _ _ _ hw (lv_sub hl [1, 0] rfl) (fun H locs ls hw hl => ?_)
  cases hf
  exact endN X hr hlocks aM ea0 hw dX7_init_309
def rm_X6_init : Room := { frames := 2, cells := 31, slots := 9735, locals := 33 }
set_option maxRecDepth 20000 in
theorem i_X6_init_X4 : ∀ w ∈ u_ws RX4 TX4 5, w ∈ wsX6_init := by decide +kernel
set_option maxRecDepth 20000 in
theorem i_X6_init_X6 : ∀ w ∈ u_ws RX6 TX6 6, w ∈ wsX6_init := by decide +kernel
set_option maxRecDepth 20000 in
theorem i_X6_init_X1 : ∀ w ∈ u_ws RX1 TX1 2, w ∈ wsX6_init := by decide +kernel
set_option maxRecDepth 20000 in
theorem i_X6_init_X5 : ∀ w ∈ u_ws RX5 TX5 10, w ∈ wsX6_init := by decide +kernel
set_option maxRecDepth 20000 in
theorem i_X6_init_X3 : ∀ w ∈ u_ws RX3 TX3 5, w ∈ wsX6_init := by decide +kernel
set_option maxRecDepth 20000 in
theorem i_X6_init_X0 : ∀ w ∈ u_ws RX0 TX0 15, w ∈ wsX6_init := by decide +kernel
set_option maxRecDepth 20000 in
theorem i_X6_init_X2 : ∀ w ∈ u_ws RX2 TX2 2, w ∈ wsX6_init := by decide +kernel
set_option maxRecDepth 20000 in
theorem m_X6_init_0 : Cond.methodLink RX6 3 objectInit ∈ wsX6_init := by decide +kernel
set_option maxRecDepth 20000 in
theorem m_X6_init_1 : Cond.instanceMethod objectInit ∈ wsX6_init := by decide +kernel
set_option maxRecDepth 20000 in
theorem m_X6_init_2 : Cond.code objectInit ⟨#[0xb1]⟩ 1 none ∈ wsX6_init := by decide +kernel
set_option maxRecDepth 20000 in
theorem m_X6_init_3 : Cond.classLink RX6 9 RX4 ∈ wsX6_init := by decide +kernel
set_option maxRecDepth 20000 in
theorem m_X6_init_4 : Cond.instantiable RX4 5 ∈ wsX6_init := by decide +kernel
set_option maxRecDepth 20000 in
theorem m_X6_init_5 : Cond.initialized RX4 ∈ wsX6_init := by decide +kernel
set_option maxRecDepth 20000 in
theorem m_X6_init_6 : Cond.instanceMethod yX4_init ∈ wsX6_init := by decide +kernel
set_option maxRecDepth 20000 in
theorem m_X6_init_7 : Cond.fieldLink RX6 12 "GreatSort" "rows" "LGreatSort$Rows;" ∈ wsX6_init := by decide +kernel
set_option maxRecDepth 20000 in
theorem m_X6_init_8 : Cond.classLink RX6 16 RX1 ∈ wsX6_init := by decide +kernel
set_option maxRecDepth 20000 in
theorem m_X6_init_9 : Cond.instantiable RX1 2 ∈ wsX6_init := by decide +kernel
set_option maxRecDepth 20000 in
theorem m_X6_init_10 : Cond.initialized RX1 ∈ wsX6_init := by decide +kernel
set_option maxRecDepth 20000 in
theorem m_X6_init_11 : Cond.instanceMethod yX1_init ∈ wsX6_init := by decide +kernel
set_option maxRecDepth 20000 in
theorem m_X6_init_12 : Cond.fieldLink RX6 19 "GreatSort" "heap" "LGreatSort$Heap;" ∈ wsX6_init := by decide +kernel
set_option maxRecDepth 20000 in
theorem m_X6_init_13 : Cond.classLink RX6 23 RX5 ∈ wsX6_init := by decide +kernel
set_option maxRecDepth 20000 in
theorem m_X6_init_14 : Cond.instantiable RX5 10 ∈ wsX6_init := by decide +kernel
set_option maxRecDepth 20000 in
theorem m_X6_init_15 : Cond.initialized RX5 ∈ wsX6_init := by decide +kernel
set_option maxRecDepth 20000 in
theorem m_X6_init_16 : Cond.instanceMethod yX5_init ∈ wsX6_init := by decide +kernel
set_option maxRecDepth 20000 in
theorem m_X6_init_17 : Cond.fieldLink RX6 26 "GreatSort" "runs" "LGreatSort$Runs;" ∈ wsX6_init := by decide +kernel
set_option maxRecDepth 20000 in
theorem m_X6_init_18 : Cond.classLink RX6 30 RX3 ∈ wsX6_init := by decide +kernel
set_option maxRecDepth 20000 in
theorem m_X6_init_19 : Cond.instantiable RX3 5 ∈ wsX6_init := by decide +kernel
set_option maxRecDepth 20000 in
theorem m_X6_init_20 : Cond.initialized RX3 ∈ wsX6_init := by decide +kernel
set_option maxRecDepth 20000 in
theorem m_X6_init_21 : Cond.instanceMethod yX3_init ∈ wsX6_init := by decide +kernel
set_option maxRecDepth 20000 in
theorem m_X6_init_22 : Cond.fieldLink RX6 33 "GreatSort" "plan" "LGreatSort$Plan;" ∈ wsX6_init := by decide +kernel
set_option maxRecDepth 20000 in
theorem m_X6_init_23 : Cond.classLink RX6 37 RX0 ∈ wsX6_init := by decide +kernel
set_option maxRecDepth 20000 in
theorem m_X6_init_24 : Cond.instantiable RX0 15 ∈ wsX6_init := by decide +kernel
set_option maxRecDepth 20000 in
theorem m_X6_init_25 : Cond.initialized RX0 ∈ wsX6_init := by decide +kernel
set_option maxRecDepth 20000 in
theorem m_X6_init_26 : Cond.instanceMethod yX0_init ∈ wsX6_init := by decide +kernel
set_option maxRecDepth 20000 in
theorem m_X6_init_27 : Cond.fieldLink RX6 40 "GreatSort" "cut" "LGreatSort$Cut;" ∈ wsX6_init := by decide +kernel
set_option maxRecDepth 20000 in
theorem m_X6_init_28 : Cond.classLink RX6 44 RX2 ∈ wsX6_init := by decide +kernel
set_option maxRecDepth 20000 in
theorem m_X6_init_29 : Cond.instantiable RX2 2 ∈ wsX6_init := by decide +kernel
set_option maxRecDepth 20000 in
theorem m_X6_init_30 : Cond.initialized RX2 ∈ wsX6_init := by decide +kernel
set_option maxRecDepth 20000 in
theorem m_X6_init_31 : Cond.methodLink RX6 46 yX2_init ∈ wsX6_init := by decide +kernel
set_option maxRecDepth 20000 in
theorem m_X6_init_32 : Cond.instanceMethod yX2_init ∈ wsX6_init := by decide +kernel
set_option maxRecDepth 20000 in
theorem m_X6_init_33 : Cond.fieldLink RX6 47 "GreatSort" "hosts" "LGreatSort$Hosts;" ∈ wsX6_init := by decide +kernel
set_option maxHeartbeats 4000000 in
set_option maxRecDepth 100000 in
theorem c_X6_init (l : Launch) (dC : Nat → ClassId) (dI : Nat → Nat → Nat) (cI cJ cZ : ClassId) (N : Nat) {o_O_paces o_O_up : Nat → Int32} (hf : f_X2_init N = some (o_O_paces, o_O_up)) (h0 : Nat) : CtN l yX6_init wsX6_init rm_X6_init (dC, dI) (tyl cI cJ cZ) h0 ([(h0, .inr (6, [.null, .null, .null, .null, .null, .null]))] : va_W) (fun aG => w_GWHRPCO (fun _ => aG 0) (fun k => aG (k + 1)) (fun k => aG (k + 6)) (fun k => aG (k + 8)) (fun k => aG (k + 15)) (fun k => aG (k + 19)) (fun k => aG (k + 29)) cI cJ cZ (fun _ => 0) (fun _ => 0) (upd (upd (upd (upd (fun _ => 0) (0 : Int32).toNatClampNeg 0) (1 : Int32).toNatClampNeg 1) (2 : Int32).toNatClampNeg 2) (3 : Int32).toNatClampNeg 3) (fun _ => 0) 0 (fun _ => 0) 0 (fun _ => 0) (fun _ => 0) (fun _ => 0) (fun _ => 0) (fun _ => 0) (fun _ => 0) 0 0 0 0 (fun _ => 0) (fun _ => 0) (fun _ => 0) 0 0 (fun _ => 0) (fun _ => 0) (fun _ => 0) (fun _ => 0) (fun _ => 0) (fun _ => 0) (fun _ => 0) (fun _ => 0) (fun _ => 0) 0 0 0 0 0 0 o_O_paces o_O_up) 31 9735 := by
  refine startN (cc := cX6_init) (maxL := 1) (by decide +kernel) rfl (Nat.le_of_ble_eq_true rfl) ?_
  intro p e s m below meth c A ls X hr hlocks hin hw hl
  replace X : Cx p m c cX6_init 1 s _ wsX6_init RX6 (dC, dI) (tyl cI cJ cZ) A := X
  replace hl : lv_has ls 1 [(0, .ref h0)] := hl
  obtain ⟨hx, hb, hml, hown, hts⟩ := X.1
  have hK := X.2.1
  have hN := X.2.2.2
  refine lv_aload_n hx hb dX6_init_0 rfl (lv_at hl 0 rfl) ?_
  refine W.objInit hx hb hown (hts _ m_X6_init_0) (hts _ m_X6_init_1) (hts _ m_X6_init_2) rfl (by rw [hml]; exact hl.1) rfl dX6_init_1 (Nat.le_of_ble_eq_true rfl) (Nat.le_of_ble_eq_true rfl) ?_
  refine W.eq (g2 := F0 m 4 ls []) rfl ?_
  refine lv_aload_n hx hb dX6_init_4 rfl (lv_at hl 0 rfl) ?_
  refine g_new X (T := TX4) (N := 5) (ci := 4) (fs := [.null, .null, .null, .null, .int 0]) i_X6_init_X4 tyX4 tyX4_ok (hts _ m_X6_init_3) (hts _ m_X6_init_4) (hts _ m_X6_init_5) hw rfl (fun j hj => by rcases (show j = 0 ∨ j = 1 ∨ j = 2 ∨ j = 3 ∨ j = 4 by omega) with rfl | rfl | rfl | rfl | rfl <;> rfl) (Nat.le_of_ble_eq_true rfl) (Nat.le_of_ble_eq_true rfl) dX6_init_5 (fun q1 H hw => ?_)
  replace hw : Wd (dC, dI) A s.heap _ _ ([(h0, .inr (6, [.null, .null, .null, .null, .null, .null])), (q1, .inr (4, [.null, .null, .null, .null, .int 0]))] : va_W) := hw
  refine lv_dup hx hb dX6_init_8 rfl ?_
  refine clIN (rest := [.ref q1, .ref h0]) (wr := ([(h0, .inr (6, [.null, .null, .null, .null, .null, .null]))] : va_W)) X (c_X4_init l dC dI cI cJ cZ q1) (⟨va_cnB 0 hts gX6_init_X4_init_n11 rfl rfl rfl (hN _ nk_27) (hts _ m_X6_init_5) (by decide +kernel) ⟨Nat.le_of_ble_eq_true rfl, Nat.le_of_ble_eq_true rfl⟩, rfl, hts _ m_X6_init_6⟩) hw [1] [0] rfl rfl rfl rfl (by decide) rfl hl.1 rfl (Nat.le_of_ble_eq_true rfl) dX6_init_9 ⟨Nat.le_of_ble_eq_true rfl, Nat.le_of_ble_eq_true rfl⟩ (fun aW H locs eaW hw2 => ?_)
  subst eaW
  replace hw : Wd (dC, dI) A s.heap _ _ ([(h0, .inr (6, [.null, .null, .null, .null, .null, .null])), ((aW 0), .inr (4, [.ref (aW 1), .ref (aW 2), .ref (aW 3), .ref (aW 4), .int 0])), ((aW 1), .inl (cI, 400, .inl (fun _ => 0))), ((aW 2), .inl (cI, 400, .inl (fun _ => 0))), ((aW 3), .inl (cI, 4, .inl (upd (upd (upd (upd (fun _ => 0) (0 : Int32).toNatClampNeg 0) (1 : Int32).toNatClampNeg 1) (2 : Int32).toNatClampNeg 2) (3 : Int32).toNatClampNeg 3))), ((aW 4), .inl (cZ, 4, .inl (fun _ => 0)))] : va_W) := hw2
  clear hw2
  refine g_putF (D := (dC, dI)) (ci := 6) (v := .ref (aW 0)) (ty := .object "GreatSort$Rows") (C := RX6) (T := TX6) (N := 6) hx hb hts i_X6_init_X6 tyX6 tyX6_ok nmX6 hown hK hw 0 rfl rfl 0 (by decide) (hts _ m_X6_init_7) (fun _ h9 => h9) rfl hin rfl (by decide +kernel) rfl rfl (Nat.le_of_ble_eq_true rfl) dX6_init_12 (fun H locs hw => ?_)
  replace hw : Wd (dC, dI) A s.heap _ _ ([(h0, .inr (6, [.ref (aW 0), .null, .null, .null, .null, .null])), ((aW 0), .inr (4, [.ref (aW 1), .ref (aW 2), .ref (aW 3), .ref (aW 4), .int 0])), ((aW 1), .inl (cI, 400, .inl (fun _ => 0))), ((aW 2), .inl (cI, 400, .inl (fun _ => 0))), ((aW 3), .inl (cI, 4, .inl (upd (upd (upd (upd (fun _ => 0) (0 : Int32).toNatClampNeg 0) (1 : Int32).toNatClampNeg 1) (2 : Int32).toNatClampNeg 2) (3 : Int32).toNatClampNeg 3))), ((aW 4), .inl (cZ, 4, .inl (fun _ => 0)))] : va_W) := hw
  refine lv_aload_n hx hb dX6_init_15 rfl (lv_at hl 0 rfl) ?_
  refine g_new X (T := TX1) (N := 2) (ci := 1) (fs := [.null, .int 0]) i_X6_init_X1 tyX1 tyX1_ok (hts _ m_X6_init_8) (hts _ m_X6_init_9) (hts _ m_X6_init_10) hw rfl (fun j hj => by rcases (show j = 0 ∨ j = 1 by omega) with rfl | rfl <;> rfl) (Nat.le_of_ble_eq_true rfl) (Nat.le_of_ble_eq_true rfl) dX6_init_16 (fun q2 H hw => ?_)
  replace hw : Wd (dC, dI) A s.heap _ _ ([(h0, .inr (6, [.ref (aW 0), .null, .null, .null, .null, .null])), ((aW 0), .inr (4, [.ref (aW 1), .ref (aW 2), .ref (aW 3), .ref (aW 4), .int 0])), ((aW 1), .inl (cI, 400, .inl (fun _ => 0))), ((aW 2), .inl (cI, 400, .inl (fun _ => 0))), ((aW 3), .inl (cI, 4, .inl (upd (upd (upd (upd (fun _ => 0) (0 : Int32).toNatClampNeg 0) (1 : Int32).toNatClampNeg 1) (2 : Int32).toNatClampNeg 2) (3 : Int32).toNatClampNeg 3))), ((aW 4), .inl (cZ, 4, .inl (fun _ => 0))), (q2, .inr (1, [.null, .int 0]))] : va_W) := hw
  refine lv_dup hx hb dX6_init_19 rfl ?_
  refine clIN (rest := [.ref q2, .ref h0]) (wr := ([(h0, .inr (6, [.ref (aW 0), .null, .null, .null, .null, .null])), ((aW 0), .inr (4, [.ref (aW 1), .ref (aW 2), .ref (aW 3), .ref (aW 4), .int 0])), ((aW 1), .inl (cI, 400, .inl (fun _ => 0))), ((aW 2), .inl (cI, 400, .inl (fun _ => 0))), ((aW 3), .inl (cI, 4, .inl (upd (upd (upd (upd (fun _ => 0) (0 : Int32).toNatClampNeg 0) (1 : Int32).toNatClampNeg 1) (2 : Int32).toNatClampNeg 2) (3 : Int32).toNatClampNeg 3))), ((aW 4), .inl (cZ, 4, .inl (fun _ => 0)))] : va_W)) X (c_X1_init l dC dI cI cJ cZ q2) (⟨va_cnB 0 hts gX6_init_X1_init_n18 rfl rfl rfl (hN _ nk_28) (hts _ m_X6_init_10) (by decide +kernel) ⟨Nat.le_of_ble_eq_true rfl, Nat.le_of_ble_eq_true rfl⟩, rfl, hts _ m_X6_init_11⟩) hw [6] [0, 1, 2, 3, 4, 5] rfl rfl rfl rfl (by decide) rfl hl.1 rfl (Nat.le_of_ble_eq_true rfl) dX6_init_20 ⟨Nat.le_of_ble_eq_true rfl, Nat.le_of_ble_eq_true rfl⟩ (fun aH H locs eaH hw2 => ?_)
  subst eaH
  replace hw : Wd (dC, dI) A s.heap _ _ ([(h0, .inr (6, [.ref (aW 0), .null, .null, .null, .null, .null])), ((aW 0), .inr (4, [.ref (aW 1), .ref (aW 2), .ref (aW 3), .ref (aW 4), .int 0])), ((aW 1), .inl (cI, 400, .inl (fun _ => 0))), ((aW 2), .inl (cI, 400, .inl (fun _ => 0))), ((aW 3), .inl (cI, 4, .inl (upd (upd (upd (upd (fun _ => 0) (0 : Int32).toNatClampNeg 0) (1 : Int32).toNatClampNeg 1) (2 : Int32).toNatClampNeg 2) (3 : Int32).toNatClampNeg 3))), ((aW 4), .inl (cZ, 4, .inl (fun _ => 0))), ((aH 0), .inr (1, [.ref (aH 1), .int 0])), ((aH 1), .inl (cJ, 400, .inr (.inl (fun _ => 0))))] : va_W) := hw2
  clear hw2
  refine g_putF (D := (dC, dI)) (ci := 6) (v := .ref (aH 0)) (ty := .object "GreatSort$Heap") (C := RX6) (T := TX6) (N := 6) hx hb hts i_X6_init_X6 tyX6 tyX6_ok nmX6 hown hK hw 0 rfl rfl 1 (by decide) (hts _ m_X6_init_12) (fun _ h9 => h9) rfl hin rfl (by decide +kernel) rfl rfl (Nat.le_of_ble_eq_true rfl) dX6_init_23 (fun H locs hw => ?_)
  replace hw : Wd (dC, dI) A s.heap _ _ ([(h0, .inr (6, [.ref (aW 0), .ref (aH 0), .null, .null, .null, .null])), ((aW 0), .inr (4, [.ref (aW 1), .ref (aW 2), .ref (aW 3), .ref (aW 4), .int 0])), ((aW 1), .inl (cI, 400, .inl (fun _ => 0))), ((aW 2), .inl (cI, 400, .inl (fun _ => 0))), ((aW 3), .inl (cI, 4, .inl (upd (upd (upd (upd (fun _ => 0) (0 : Int32).toNatClampNeg 0) (1 : Int32).toNatClampNeg 1) (2 : Int32).toNatClampNeg 2) (3 : Int32).toNatClampNeg 3))), ((aW 4), .inl (cZ, 4, .inl (fun _ => 0))), ((aH 0), .inr (1, [.ref (aH 1), .int 0])), ((aH 1), .inl (cJ, 400, .inr (.inl (fun _ => 0))))] : va_W) := hw
  refine lv_aload_n hx hb dX6_init_26 rfl (lv_at hl 0 rfl) ?_
  refine g_new X (T := TX5) (N := 10) (ci := 5) (fs := [.null, .null, .null, .null, .null, .null, .int 0, .int 0, .int 0, .int 0]) i_X6_init_X5 tyX5 tyX5_ok (hts _ m_X6_init_13) (hts _ m_X6_init_14) (hts _ m_X6_init_15) hw rfl (fun j hj => by rcases (show j = 0 ∨ j = 1 ∨ j = 2 ∨ j = 3 ∨ j = 4 ∨ j = 5 ∨ j = 6 ∨ j = 7 ∨ j = 8 ∨ j = 9 by omega) with rfl | rfl | rfl | rfl | rfl | rfl | rfl | rfl | rfl | rfl <;> rfl) (Nat.le_of_ble_eq_true rfl) (Nat.le_of_ble_eq_true rfl) dX6_init_27 (fun q3 H hw => ?_)
  replace hw : Wd (dC, dI) A s.heap _ _ ([(h0, .inr (6, [.ref (aW 0), .ref (aH 0), .null, .null, .null, .null])), ((aW 0), .inr (4, [.ref (aW 1), .ref (aW 2), .ref (aW 3), .ref (aW 4), .int 0])), ((aW 1), .inl (cI, 400, .inl (fun _ => 0))), ((aW 2), .inl (cI, 400, .inl (fun _ => 0))), ((aW 3), .inl (cI, 4, .inl (upd (upd (upd (upd (fun _ => 0) (0 : Int32).toNatClampNeg 0) (1 : Int32).toNatClampNeg 1) (2 : Int32).toNatClampNeg 2) (3 : Int32).toNatClampNeg 3))), ((aW 4), .inl (cZ, 4, .inl (fun _ => 0))), ((aH 0), .inr (1, [.ref (aH 1), .int 0])), ((aH 1), .inl (cJ, 400, .inr (.inl (fun _ => 0)))), (q3, .inr (5, [.null, .null, .null, .null, .null, .null, .int 0, .int 0, .int 0, .int 0]))] : va_W) := hw
  refine lv_dup hx hb dX6_init_30 rfl ?_
  refine clIN (rest := [.ref q3, .ref h0]) (wr := ([(h0, .inr (6, [.ref (aW 0), .ref (aH 0), .null, .null, .null, .null])), ((aW 0), .inr (4, [.ref (aW 1), .ref (aW 2), .ref (aW 3), .ref (aW 4), .int 0])), ((aW 1), .inl (cI, 400, .inl (fun _ => 0))), ((aW 2), .inl (cI, 400, .inl (fun _ => 0))), ((aW 3), .inl (cI, 4, .inl (upd (upd (upd (upd (fun _ => 0) (0 : Int32).toNatClampNeg 0) (1 : Int32).toNatClampNeg 1) (2 : Int32).toNatClampNeg 2) (3 : Int32).toNatClampNeg 3))), ((aW 4), .inl (cZ, 4, .inl (fun _ => 0))), ((aH 0), .inr (1, [.ref (aH 1), .int 0])), ((aH 1), .inl (cJ, 400, .inr (.inl (fun _ => 0))))] : va_W)) X (c_X5_init l dC dI cI cJ cZ q3) (⟨va_cnB 0 hts gX6_init_X5_init_n25 rfl rfl rfl (hN _ nk_29) (hts _ m_X6_init_15) (by decide +kernel) ⟨Nat.le_of_ble_eq_true rfl, Nat.le_of_ble_eq_true rfl⟩, rfl, hts _ m_X6_init_16⟩) hw [8] [0, 1, 2, 3, 4, 5, 6, 7] rfl rfl rfl rfl (by decide) rfl hl.1 rfl (Nat.le_of_ble_eq_true rfl) dX6_init_31 ⟨Nat.le_of_ble_eq_true rfl, Nat.le_of_ble_eq_true rfl⟩ (fun aR H locs eaR hw2 => ?_)
  subst eaR
  replace hw : Wd (dC, dI) A s.heap _ _ ([(h0, .inr (6, [.ref (aW 0), .ref (aH 0), .null, .null, .null, .null])), ((aW 0), .inr (4, [.ref (aW 1), .ref (aW 2), .ref (aW 3), .ref (aW 4), .int 0])), ((aW 1), .inl (cI, 400, .inl (fun _ => 0))), ((aW 2), .inl (cI, 400, .inl (fun _ => 0))), ((aW 3), .inl (cI, 4, .inl (upd (upd (upd (upd (fun _ => 0) (0 : Int32).toNatClampNeg 0) (1 : Int32).toNatClampNeg 1) (2 : Int32).toNatClampNeg 2) (3 : Int32).toNatClampNeg 3))), ((aW 4), .inl (cZ, 4, .inl (fun _ => 0))), ((aH 0), .inr (1, [.ref (aH 1), .int 0])), ((aH 1), .inl (cJ, 400, .inr (.inl (fun _ => 0)))), ((aR 0), .inr (5, [.ref (aR 1), .ref (aR 2), .ref (aR 3), .ref (aR 4), .ref (aR 5), .ref (aR 6), .int 0, .int 0, .int 0, .int 0])), ((aR 1), .inl (cI, 4000, .inl (fun _ => 0))), ((aR 2), .inl (cI, 800, .inl (fun _ => 0))), ((aR 3), .inl (cI, 400, .inl (fun _ => 0))), ((aR 4), .inl (cI, 400, .inl (fun _ => 0))), ((aR 5), .inl (cI, 8, .inl (fun _ => 0))), ((aR 6), .inl (cI, 8, .inl (fun _ => 0)))] : va_W) := hw2
  clear hw2
  refine g_putF (D := (dC, dI)) (ci := 6) (v := .ref (aR 0)) (ty := .object "GreatSort$Runs") (C := RX6) (T := TX6) (N := 6) hx hb hts i_X6_init_X6 tyX6 tyX6_ok nmX6 hown hK hw 0 rfl rfl 2 (by decide) (hts _ m_X6_init_17) (fun _ h9 => h9) rfl hin rfl (by decide +kernel) rfl rfl (Nat.le_of_ble_eq_true rfl) dX6_init_34 (fun H locs hw => ?_)
  replace hw : Wd (dC, dI) A s.heap _ _ ([(h0, .inr (6, [.ref (aW 0), .ref (aH 0), .ref (aR 0), .null, .null, .null])), ((aW 0), .inr (4, [.ref (aW 1), .ref (aW 2), .ref (aW 3), .ref (aW 4), .int 0])), ((aW 1), .inl (cI, 400, .inl (fun _ => 0))), ((aW 2), .inl (cI, 400, .inl (fun _ => 0))), ((aW 3), .inl (cI, 4, .inl (upd (upd (upd (upd (fun _ => 0) (0 : Int32).toNatClampNeg 0) (1 : Int32).toNatClampNeg 1) (2 : Int32).toNatClampNeg 2) (3 : Int32).toNatClampNeg 3))), ((aW 4), .inl (cZ, 4, .inl (fun _ => 0))), ((aH 0), .inr (1, [.ref (aH 1), .int 0])), ((aH 1), .inl (cJ, 400, .inr (.inl (fun _ => 0)))), ((aR 0), .inr (5, [.ref (aR 1), .ref (aR 2), .ref (aR 3), .ref (aR 4), .ref (aR 5), .ref (aR 6), .int 0, .int 0, .int 0, .int 0])), ((aR 1), .inl (cI, 4000, .inl (fun _ => 0))), ((aR 2), .inl (cI, 800, .inl (fun _ => 0))), ((aR 3), .inl (cI, 400, .inl (fun _ => 0))), ((aR 4), .inl (cI, 400, .inl (fun _ => 0))), ((aR 5), .inl (cI, 8, .inl (fun _ => 0))), ((aR 6), .inl (cI, 8, .inl (fun _ => 0)))] : va_W) := hw
  refine lv_aload_n hx hb dX6_init_37 rfl (lv_at hl 0 rfl) ?_
  refine g_new X (T := TX3) (N := 5) (ci := 3) (fs := [.null, .null, .null, .int 0, .int 0]) i_X6_init_X3 tyX3 tyX3_ok (hts _ m_X6_init_18) (hts _ m_X6_init_19) (hts _ m_X6_init_20) hw rfl (fun j hj => by rcases (show j = 0 ∨ j = 1 ∨ j = 2 ∨ j = 3 ∨ j = 4 by omega) with rfl | rfl | rfl | rfl | rfl <;> rfl) (Nat.le_of_ble_eq_true rfl) (Nat.le_of_ble_eq_true rfl) dX6_init_38 (fun q4 H hw => ?_)
  replace hw : Wd (dC, dI) A s.heap _ _ ([(h0, .inr (6, [.ref (aW 0), .ref (aH 0), .ref (aR 0), .null, .null, .null])), ((aW 0), .inr (4, [.ref (aW 1), .ref (aW 2), .ref (aW 3), .ref (aW 4), .int 0])), ((aW 1), .inl (cI, 400, .inl (fun _ => 0))), ((aW 2), .inl (cI, 400, .inl (fun _ => 0))), ((aW 3), .inl (cI, 4, .inl (upd (upd (upd (upd (fun _ => 0) (0 : Int32).toNatClampNeg 0) (1 : Int32).toNatClampNeg 1) (2 : Int32).toNatClampNeg 2) (3 : Int32).toNatClampNeg 3))), ((aW 4), .inl (cZ, 4, .inl (fun _ => 0))), ((aH 0), .inr (1, [.ref (aH 1), .int 0])), ((aH 1), .inl (cJ, 400, .inr (.inl (fun _ => 0)))), ((aR 0), .inr (5, [.ref (aR 1), .ref (aR 2), .ref (aR 3), .ref (aR 4), .ref (aR 5), .ref (aR 6), .int 0, .int 0, .int 0, .int 0])), ((aR 1), .inl (cI, 4000, .inl (fun _ => 0))), ((aR 2), .inl (cI, 800, .inl (fun _ => 0))), ((aR 3), .inl (cI, 400, .inl (fun _ => 0))), ((aR 4), .inl (cI, 400, .inl (fun _ => 0))), ((aR 5), .inl (cI, 8, .inl (fun _ => 0))), ((aR 6), .inl (cI, 8, .inl (fun _ => 0))), (q4, .inr (3, [.null, .null, .null, .int 0, .int 0]))] : va_W) := hw
  refine lv_dup hx hb dX6_init_41 rfl ?_
  refine clIN (rest := [.ref q4, .ref h0]) (wr := ([(h0, .inr (6, [.ref (aW 0), .ref (aH 0), .ref (aR 0), .null, .null, .null])), ((aW 0), .inr (4, [.ref (aW 1), .ref (aW 2), .ref (aW 3), .ref (aW 4), .int 0])), ((aW 1), .inl (cI, 400, .inl (fun _ => 0))), ((aW 2), .inl (cI, 400, .inl (fun _ => 0))), ((aW 3), .inl (cI, 4, .inl (upd (upd (upd (upd (fun _ => 0) (0 : Int32).toNatClampNeg 0) (1 : Int32).toNatClampNeg 1) (2 : Int32).toNatClampNeg 2) (3 : Int32).toNatClampNeg 3))), ((aW 4), .inl (cZ, 4, .inl (fun _ => 0))), ((aH 0), .inr (1, [.ref (aH 1), .int 0])), ((aH 1), .inl (cJ, 400, .inr (.inl (fun _ => 0)))), ((aR 0), .inr (5, [.ref (aR 1), .ref (aR 2), .ref (aR 3), .ref (aR 4), .ref (aR 5), .ref (aR 6), .int 0, .int 0, .int 0, .int 0])), ((aR 1), .inl (cI, 4000, .inl (fun _ => 0))), ((aR 2), .inl (cI, 800, .inl (fun _ => 0))), ((aR 3), .inl (cI, 400, .inl (fun _ => 0))), ((aR 4), .inl (cI, 400, .inl (fun _ => 0))), ((aR 5), .inl (cI, 8, .inl (fun _ => 0))), ((aR 6), .inl (cI, 8, .inl (fun _ => 0)))] : va_W)) X (c_X3_init l dC dI cI cJ cZ q4) (⟨va_cnB 0 hts gX6_init_X3_init_n32 rfl rfl rfl (hN _ nk_30) (hts _ m_X6_init_20) (by decide +kernel) ⟨Nat.le_of_ble_eq_true rfl, Nat.le_of_ble_eq_true rfl⟩, rfl, hts _ m_X6_init_21⟩) hw [15] [0, 1, 2, 3, 4, 5, 6, 7, 8, 9, 10, 11, 12, 13, 14] rfl rfl rfl rfl (by decide) rfl hl.1 rfl (Nat.le_of_ble_eq_true rfl) dX6_init_42 ⟨Nat.le_of_ble_eq_true rfl, Nat.le_of_ble_eq_true rfl⟩ (fun aP H locs eaP hw2 => ?_)
  subst eaP
  replace hw : Wd (dC, dI) A s.heap _ _ ([(h0, .inr (6, [.ref (aW 0), .ref (aH 0), .ref (aR 0), .null, .null, .null])), ((aW 0), .inr (4, [.ref (aW 1), .ref (aW 2), .ref (aW 3), .ref (aW 4), .int 0])), ((aW 1), .inl (cI, 400, .inl (fun _ => 0))), ((aW 2), .inl (cI, 400, .inl (fun _ => 0))), ((aW 3), .inl (cI, 4, .inl (upd (upd (upd (upd (fun _ => 0) (0 : Int32).toNatClampNeg 0) (1 : Int32).toNatClampNeg 1) (2 : Int32).toNatClampNeg 2) (3 : Int32).toNatClampNeg 3))), ((aW 4), .inl (cZ, 4, .inl (fun _ => 0))), ((aH 0), .inr (1, [.ref (aH 1), .int 0])), ((aH 1), .inl (cJ, 400, .inr (.inl (fun _ => 0)))), ((aR 0), .inr (5, [.ref (aR 1), .ref (aR 2), .ref (aR 3), .ref (aR 4), .ref (aR 5), .ref (aR 6), .int 0, .int 0, .int 0, .int 0])), ((aR 1), .inl (cI, 4000, .inl (fun _ => 0))), ((aR 2), .inl (cI, 800, .inl (fun _ => 0))), ((aR 3), .inl (cI, 400, .inl (fun _ => 0))), ((aR 4), .inl (cI, 400, .inl (fun _ => 0))), ((aR 5), .inl (cI, 8, .inl (fun _ => 0))), ((aR 6), .inl (cI, 8, .inl (fun _ => 0))), ((aP 0), .inr (3, [.ref (aP 1), .ref (aP 2), .ref (aP 3), .int 0, .int 0])), ((aP 1), .inl (cI, 800, .inl (fun _ => 0))), ((aP 2), .inl (cI, 401, .inl (fun _ => 0))), ((aP 3), .inl (cI, 799, .inl (fun _ => 0)))] : va_W) := hw2
  clear hw2
  refine g_putF (D := (dC, dI)) (ci := 6) (v := .ref (aP 0)) (ty := .object "GreatSort$Plan") (C := RX6) (T := TX6) (N := 6) hx hb hts i_X6_init_X6 tyX6 tyX6_ok nmX6 hown hK hw 0 rfl rfl 3 (by decide) (hts _ m_X6_init_22) (fun _ h9 => h9) rfl hin rfl (by decide +kernel) rfl rfl (Nat.le_of_ble_eq_true rfl) dX6_init_45 (fun H locs hw => ?_)
  replace hw : Wd (dC, dI) A s.heap _ _ ([(h0, .inr (6, [.ref (aW 0), .ref (aH 0), .ref (aR 0), .ref (aP 0), .null, .null])), ((aW 0), .inr (4, [.ref (aW 1), .ref (aW 2), .ref (aW 3), .ref (aW 4), .int 0])), ((aW 1), .inl (cI, 400, .inl (fun _ => 0))), ((aW 2), .inl (cI, 400, .inl (fun _ => 0))), ((aW 3), .inl (cI, 4, .inl (upd (upd (upd (upd (fun _ => 0) (0 : Int32).toNatClampNeg 0) (1 : Int32).toNatClampNeg 1) (2 : Int32).toNatClampNeg 2) (3 : Int32).toNatClampNeg 3))), ((aW 4), .inl (cZ, 4, .inl (fun _ => 0))), ((aH 0), .inr (1, [.ref (aH 1), .int 0])), ((aH 1), .inl (cJ, 400, .inr (.inl (fun _ => 0)))), ((aR 0), .inr (5, [.ref (aR 1), .ref (aR 2), .ref (aR 3), .ref (aR 4), .ref (aR 5), .ref (aR 6), .int 0, .int 0, .int 0, .int 0])), ((aR 1), .inl (cI, 4000, .inl (fun _ => 0))), ((aR 2), .inl (cI, 800, .inl (fun _ => 0))), ((aR 3), .inl (cI, 400, .inl (fun _ => 0))), ((aR 4), .inl (cI, 400, .inl (fun _ => 0))), ((aR 5), .inl (cI, 8, .inl (fun _ => 0))), ((aR 6), .inl (cI, 8, .inl (fun _ => 0))), ((aP 0), .inr (3, [.ref (aP 1), .ref (aP 2), .ref (aP 3), .int 0, .int 0])), ((aP 1), .inl (cI, 800, .inl (fun _ => 0))), ((aP 2), .inl (cI, 401, .inl (fun _ => 0))), ((aP 3), .inl (cI, 799, .inl (fun _ => 0)))] : va_W) := hw
  refine lv_aload_n hx hb dX6_init_48 rfl (lv_at hl 0 rfl) ?_
  refine g_new X (T := TX0) (N := 15) (ci := 0) (fs := [.null, .null, .null, .null, .null, .null, .null, .null, .null, .int 0, .int 0, .int 0, .int 0, .int 0, .int 0]) i_X6_init_X0 tyX0 tyX0_ok (hts _ m_X6_init_23) (hts _ m_X6_init_24) (hts _ m_X6_init_25) hw rfl (fun j hj => by rcases (show j = 0 ∨ j = 1 ∨ j = 2 ∨ j = 3 ∨ j = 4 ∨ j = 5 ∨ j = 6 ∨ j = 7 ∨ j = 8 ∨ j = 9 ∨ j = 10 ∨ j = 11 ∨ j = 12 ∨ j = 13 ∨ j = 14 by omega) with rfl | rfl | rfl | rfl | rfl | rfl | rfl | rfl | rfl | rfl | rfl | rfl | rfl | rfl | rfl <;> rfl) (Nat.le_of_ble_eq_true rfl) (Nat.le_of_ble_eq_true rfl) dX6_init_49 (fun q5 H hw => ?_)
  replace hw : Wd (dC, dI) A s.heap _ _ ([(h0, .inr (6, [.ref (aW 0), .ref (aH 0), .ref (aR 0), .ref (aP 0), .null, .null])), ((aW 0), .inr (4, [.ref (aW 1), .ref (aW 2), .ref (aW 3), .ref (aW 4), .int 0])), ((aW 1), .inl (cI, 400, .inl (fun _ => 0))), ((aW 2), .inl (cI, 400, .inl (fun _ => 0))), ((aW 3), .inl (cI, 4, .inl (upd (upd (upd (upd (fun _ => 0) (0 : Int32).toNatClampNeg 0) (1 : Int32).toNatClampNeg 1) (2 : Int32).toNatClampNeg 2) (3 : Int32).toNatClampNeg 3))), ((aW 4), .inl (cZ, 4, .inl (fun _ => 0))), ((aH 0), .inr (1, [.ref (aH 1), .int 0])), ((aH 1), .inl (cJ, 400, .inr (.inl (fun _ => 0)))), ((aR 0), .inr (5, [.ref (aR 1), .ref (aR 2), .ref (aR 3), .ref (aR 4), .ref (aR 5), .ref (aR 6), .int 0, .int 0, .int 0, .int 0])), ((aR 1), .inl (cI, 4000, .inl (fun _ => 0))), ((aR 2), .inl (cI, 800, .inl (fun _ => 0))), ((aR 3), .inl (cI, 400, .inl (fun _ => 0))), ((aR 4), .inl (cI, 400, .inl (fun _ => 0))), ((aR 5), .inl (cI, 8, .inl (fun _ => 0))), ((aR 6), .inl (cI, 8, .inl (fun _ => 0))), ((aP 0), .inr (3, [.ref (aP 1), .ref (aP 2), .ref (aP 3), .int 0, .int 0])), ((aP 1), .inl (cI, 800, .inl (fun _ => 0))), ((aP 2), .inl (cI, 401, .inl (fun _ => 0))), ((aP 3), .inl (cI, 799, .inl (fun _ => 0))), (q5, .inr (0, [.null, .null, .null, .null, .null, .null, .null, .null, .null, .int 0, .int 0, .int 0, .int 0, .int 0, .int 0]))] : va_W) := hw
  refine lv_dup hx hb dX6_init_52 rfl ?_
  refine clIN (rest := [.ref q5, .ref h0]) (wr := ([(h0, .inr (6, [.ref (aW 0), .ref (aH 0), .ref (aR 0), .ref (aP 0), .null, .null])), ((aW 0), .inr (4, [.ref (aW 1), .ref (aW 2), .ref (aW 3), .ref (aW 4), .int 0])), ((aW 1), .inl (cI, 400, .inl (fun _ => 0))), ((aW 2), .inl (cI, 400, .inl (fun _ => 0))), ((aW 3), .inl (cI, 4, .inl (upd (upd (upd (upd (fun _ => 0) (0 : Int32).toNatClampNeg 0) (1 : Int32).toNatClampNeg 1) (2 : Int32).toNatClampNeg 2) (3 : Int32).toNatClampNeg 3))), ((aW 4), .inl (cZ, 4, .inl (fun _ => 0))), ((aH 0), .inr (1, [.ref (aH 1), .int 0])), ((aH 1), .inl (cJ, 400, .inr (.inl (fun _ => 0)))), ((aR 0), .inr (5, [.ref (aR 1), .ref (aR 2), .ref (aR 3), .ref (aR 4), .ref (aR 5), .ref (aR 6), .int 0, .int 0, .int 0, .int 0])), ((aR 1), .inl (cI, 4000, .inl (fun _ => 0))), ((aR 2), .inl (cI, 800, .inl (fun _ => 0))), ((aR 3), .inl (cI, 400, .inl (fun _ => 0))), ((aR 4), .inl (cI, 400, .inl (fun _ => 0))), ((aR 5), .inl (cI, 8, .inl (fun _ => 0))), ((aR 6), .inl (cI, 8, .inl (fun _ => 0))), ((aP 0), .inr (3, [.ref (aP 1), .ref (aP 2), .ref (aP 3), .int 0, .int 0])), ((aP 1), .inl (cI, 800, .inl (fun _ => 0))), ((aP 2), .inl (cI, 401, .inl (fun _ => 0))), ((aP 3), .inl (cI, 799, .inl (fun _ => 0)))] : va_W)) X (c_X0_init l dC dI cI cJ cZ q5) (⟨va_cnB 0 hts gX6_init_X0_init_n39 rfl rfl rfl (hN _ nk_31) (hts _ m_X6_init_25) (by decide +kernel) ⟨Nat.le_of_ble_eq_true rfl, Nat.le_of_ble_eq_true rfl⟩, rfl, hts _ m_X6_init_26⟩) hw [19] [0, 1, 2, 3, 4, 5, 6, 7, 8, 9, 10, 11, 12, 13, 14, 15, 16, 17, 18] rfl rfl rfl rfl (by decide) rfl hl.1 rfl (Nat.le_of_ble_eq_true rfl) dX6_init_53 ⟨Nat.le_of_ble_eq_true rfl, Nat.le_of_ble_eq_true rfl⟩ (fun aC H locs eaC hw2 => ?_)
  subst eaC
  replace hw : Wd (dC, dI) A s.heap _ _ ([(h0, .inr (6, [.ref (aW 0), .ref (aH 0), .ref (aR 0), .ref (aP 0), .null, .null])), ((aW 0), .inr (4, [.ref (aW 1), .ref (aW 2), .ref (aW 3), .ref (aW 4), .int 0])), ((aW 1), .inl (cI, 400, .inl (fun _ => 0))), ((aW 2), .inl (cI, 400, .inl (fun _ => 0))), ((aW 3), .inl (cI, 4, .inl (upd (upd (upd (upd (fun _ => 0) (0 : Int32).toNatClampNeg 0) (1 : Int32).toNatClampNeg 1) (2 : Int32).toNatClampNeg 2) (3 : Int32).toNatClampNeg 3))), ((aW 4), .inl (cZ, 4, .inl (fun _ => 0))), ((aH 0), .inr (1, [.ref (aH 1), .int 0])), ((aH 1), .inl (cJ, 400, .inr (.inl (fun _ => 0)))), ((aR 0), .inr (5, [.ref (aR 1), .ref (aR 2), .ref (aR 3), .ref (aR 4), .ref (aR 5), .ref (aR 6), .int 0, .int 0, .int 0, .int 0])), ((aR 1), .inl (cI, 4000, .inl (fun _ => 0))), ((aR 2), .inl (cI, 800, .inl (fun _ => 0))), ((aR 3), .inl (cI, 400, .inl (fun _ => 0))), ((aR 4), .inl (cI, 400, .inl (fun _ => 0))), ((aR 5), .inl (cI, 8, .inl (fun _ => 0))), ((aR 6), .inl (cI, 8, .inl (fun _ => 0))), ((aP 0), .inr (3, [.ref (aP 1), .ref (aP 2), .ref (aP 3), .int 0, .int 0])), ((aP 1), .inl (cI, 800, .inl (fun _ => 0))), ((aP 2), .inl (cI, 401, .inl (fun _ => 0))), ((aP 3), .inl (cI, 799, .inl (fun _ => 0))), ((aC 0), .inr (0, [.ref (aC 1), .ref (aC 2), .ref (aC 3), .ref (aC 4), .ref (aC 5), .ref (aC 6), .ref (aC 7), .ref (aC 8), .ref (aC 9), .int 0, .int 0, .int 0, .int 0, .int 0, .int 0])), ((aC 1), .inl (cZ, 400, .inl (fun _ => 0))), ((aC 2), .inl (cI, 400, .inl (fun _ => 0))), ((aC 3), .inl (cI, 8, .inl (fun _ => 0))), ((aC 4), .inl (cI, 8, .inl (fun _ => 0))), ((aC 5), .inl (cI, 8, .inl (fun _ => 0))), ((aC 6), .inl (cI, 8, .inl (fun _ => 0))), ((aC 7), .inl (cI, 8, .inl (fun _ => 0))), ((aC 8), .inl (cZ, 8, .inl (fun _ => 0))), ((aC 9), .inl (cI, 8, .inl (fun _ => 0)))] : va_W) := hw2
  clear hw2
  refine g_putF (D := (dC, dI)) (ci := 6) (v := .ref (aC 0)) (ty := .object "GreatSort$Cut") (C := RX6) (T := TX6) (N := 6) hx hb hts i_X6_init_X6 tyX6 tyX6_ok nmX6 hown hK hw 0 rfl rfl 4 (by decide) (hts _ m_X6_init_27) (fun _ h9 => h9) rfl hin rfl (by decide +kernel) rfl rfl (Nat.le_of_ble_eq_true rfl) dX6_init_56 (fun H locs hw => ?_)
  replace hw : Wd (dC, dI) A s.heap _ _ ([(h0, .inr (6, [.ref (aW 0), .ref (aH 0), .ref (aR 0), .ref (aP 0), .ref (aC 0), .null])), ((aW 0), .inr (4, [.ref (aW 1), .ref (aW 2), .ref (aW 3), .ref (aW 4), .int 0])), ((aW 1), .inl (cI, 400, .inl (fun _ => 0))), ((aW 2), .inl (cI, 400, .inl (fun _ => 0))), ((aW 3), .inl (cI, 4, .inl (upd (upd (upd (upd (fun _ => 0) (0 : Int32).toNatClampNeg 0) (1 : Int32).toNatClampNeg 1) (2 : Int32).toNatClampNeg 2) (3 : Int32).toNatClampNeg 3))), ((aW 4), .inl (cZ, 4, .inl (fun _ => 0))), ((aH 0), .inr (1, [.ref (aH 1), .int 0])), ((aH 1), .inl (cJ, 400, .inr (.inl (fun _ => 0)))), ((aR 0), .inr (5, [.ref (aR 1), .ref (aR 2), .ref (aR 3), .ref (aR 4), .ref (aR 5), .ref (aR 6), .int 0, .int 0, .int 0, .int 0])), ((aR 1), .inl (cI, 4000, .inl (fun _ => 0))), ((aR 2), .inl (cI, 800, .inl (fun _ => 0))), ((aR 3), .inl (cI, 400, .inl (fun _ => 0))), ((aR 4), .inl (cI, 400, .inl (fun _ => 0))), ((aR 5), .inl (cI, 8, .inl (fun _ => 0))), ((aR 6), .inl (cI, 8, .inl (fun _ => 0))), ((aP 0), .inr (3, [.ref (aP 1), .ref (aP 2), .ref (aP 3), .int 0, .int 0])), ((aP 1), .inl (cI, 800, .inl (fun _ => 0))), ((aP 2), .inl (cI, 401, .inl (fun _ => 0))), ((aP 3), .inl (cI, 799, .inl (fun _ => 0))), ((aC 0), .inr (0, [.ref (aC 1), .ref (aC 2), .ref (aC 3), .ref (aC 4), .ref (aC 5), .ref (aC 6), .ref (aC 7), .ref (aC 8), .ref (aC 9), .int 0, .int 0, .int 0, .int 0, .int 0, .int 0])), ((aC 1), .inl (cZ, 400, .inl (fun _ => 0))), ((aC 2), .inl (cI, 400, .inl (fun _ => 0))), ((aC 3), .inl (cI, 8, .inl (fun _ => 0))), ((aC 4), .inl (cI, 8, .inl (fun _ => 0))), ((aC 5), .inl (cI, 8, .inl (fun _ => 0))), ((aC 6), .inl (cI, 8, .inl (fun _ => 0))), ((aC 7), .inl (cI, 8, .inl (fun _ => 0))), ((aC 8), .inl (cZ, 8, .inl (fun _ => 0))), ((aC 9), .inl (cI, 8, .inl (fun _ => 0)))] : va_W) := hw
  refine lv_aload_n hx hb dX6_init_59 rfl (lv_at hl 0 rfl) ?_
  refine g_new X (T := TX2) (N := 2) (ci := 2) (fs := [.null, .null]) i_X6_init_X2 tyX2 tyX2_ok (hts _ m_X6_init_28) (hts _ m_X6_init_29) (hts _ m_X6_init_30) hw rfl (fun j hj => by rcases (show j = 0 ∨ j = 1 by omega) with rfl | rfl <;> rfl) (Nat.le_of_ble_eq_true rfl) (Nat.le_of_ble_eq_true rfl) dX6_init_60 (fun q6 H hw => ?_)
  replace hw : Wd (dC, dI) A s.heap _ _ ([(h0, .inr (6, [.ref (aW 0), .ref (aH 0), .ref (aR 0), .ref (aP 0), .ref (aC 0), .null])), ((aW 0), .inr (4, [.ref (aW 1), .ref (aW 2), .ref (aW 3), .ref (aW 4), .int 0])), ((aW 1), .inl (cI, 400, .inl (fun _ => 0))), ((aW 2), .inl (cI, 400, .inl (fun _ => 0))), ((aW 3), .inl (cI, 4, .inl (upd (upd (upd (upd (fun _ => 0) (0 : Int32).toNatClampNeg 0) (1 : Int32).toNatClampNeg 1) (2 : Int32).toNatClampNeg 2) (3 : Int32).toNatClampNeg 3))), ((aW 4), .inl (cZ, 4, .inl (fun _ => 0))), ((aH 0), .inr (1, [.ref (aH 1), .int 0])), ((aH 1), .inl (cJ, 400, .inr (.inl (fun _ => 0)))), ((aR 0), .inr (5, [.ref (aR 1), .ref (aR 2), .ref (aR 3), .ref (aR 4), .ref (aR 5), .ref (aR 6), .int 0, .int 0, .int 0, .int 0])), ((aR 1), .inl (cI, 4000, .inl (fun _ => 0))), ((aR 2), .inl (cI, 800, .inl (fun _ => 0))), ((aR 3), .inl (cI, 400, .inl (fun _ => 0))), ((aR 4), .inl (cI, 400, .inl (fun _ => 0))), ((aR 5), .inl (cI, 8, .inl (fun _ => 0))), ((aR 6), .inl (cI, 8, .inl (fun _ => 0))), ((aP 0), .inr (3, [.ref (aP 1), .ref (aP 2), .ref (aP 3), .int 0, .int 0])), ((aP 1), .inl (cI, 800, .inl (fun _ => 0))), ((aP 2), .inl (cI, 401, .inl (fun _ => 0))), ((aP 3), .inl (cI, 799, .inl (fun _ => 0))), ((aC 0), .inr (0, [.ref (aC 1), .ref (aC 2), .ref (aC 3), .ref (aC 4), .ref (aC 5), .ref (aC 6), .ref (aC 7), .ref (aC 8), .ref (aC 9), .int 0, .int 0, .int 0, .int 0, .int 0, .int 0])), ((aC 1), .inl (cZ, 400, .inl (fun _ => 0))), ((aC 2), .inl (cI, 400, .inl (fun _ => 0))), ((aC 3), .inl (cI, 8, .inl (fun _ => 0))), ((aC 4), .inl (cI, 8, .inl (fun _ => 0))), ((aC 5), .inl (cI, 8, .inl (fun _ => 0))), ((aC 6), .inl (cI, 8, .inl (fun _ => 0))), ((aC 7), .inl (cI, 8, .inl (fun _ => 0))), ((aC 8), .inl (cZ, 8, .inl (fun _ => 0))), ((aC 9), .inl (cI, 8, .inl (fun _ => 0))), (q6, .inr (2, [.null, .null]))] : va_W) := hw
  refine lv_dup hx hb dX6_init_63 rfl ?_
  refine clI (rest := [.ref q6, .ref h0]) (wr := ([(h0, .inr (6, [.ref (aW 0), .ref (aH 0), .ref (aR 0), .ref (aP 0), .ref (aC 0), .null])), ((aW 0), .inr (4, [.ref (aW 1), .ref (aW 2), .ref (aW 3), .ref (aW 4), .int 0])), ((aW 1), .inl (cI, 400, .inl (fun _ => 0))), ((aW 2), .inl (cI, 400, .inl (fun _ => 0))), ((aW 3), .inl (cI, 4, .inl (upd (upd (upd (upd (fun _ => 0) (0 : Int32).toNatClampNeg 0) (1 : Int32).toNatClampNeg 1) (2 : Int32).toNatClampNeg 2) (3 : Int32).toNatClampNeg 3))), ((aW 4), .inl (cZ, 4, .inl (fun _ => 0))), ((aH 0), .inr (1, [.ref (aH 1), .int 0])), ((aH 1), .inl (cJ, 400, .inr (.inl (fun _ => 0)))), ((aR 0), .inr (5, [.ref (aR 1), .ref (aR 2), .ref (aR 3), .ref (aR 4), .ref (aR 5), .ref (aR 6), .int 0, .int 0, .int 0, .int 0])), ((aR 1), .inl (cI, 4000, .inl (fun _ => 0))), ((aR 2), .inl (cI, 800, .inl (fun _ => 0))), ((aR 3), .inl (cI, 400, .inl (fun _ => 0))), ((aR 4), .inl (cI, 400, .inl (fun _ => 0))), ((aR 5), .inl (cI, 8, .inl (fun _ => 0))), ((aR 6), .inl (cI, 8, .inl (fun _ => 0))), ((aP 0), .inr (3, [.ref (aP 1), .ref (aP 2), .ref (aP 3), .int 0, .int 0])), ((aP 1), .inl (cI, 800, .inl (fun _ => 0))), ((aP 2), .inl (cI, 401, .inl (fun _ => 0))), ((aP 3), .inl (cI, 799, .inl (fun _ => 0))), ((aC 0), .inr (0, [.ref (aC 1), .ref (aC 2), .ref (aC 3), .ref (aC 4), .ref (aC 5), .ref (aC 6), .ref (aC 7), .ref (aC 8), .ref (aC 9), .int 0, .int 0, .int 0, .int 0, .int 0, .int 0])), ((aC 1), .inl (cZ, 400, .inl (fun _ => 0))), ((aC 2), .inl (cI, 400, .inl (fun _ => 0))), ((aC 3), .inl (cI, 8, .inl (fun _ => 0))), ((aC 4), .inl (cI, 8, .inl (fun _ => 0))), ((aC 5), .inl (cI, 8, .inl (fun _ => 0))), ((aC 6), .inl (cI, 8, .inl (fun _ => 0))), ((aC 7), .inl (cI, 8, .inl (fun _ => 0))), ((aC 8), .inl (cZ, 8, .inl (fun _ => 0))), ((aC 9), .inl (cI, 8, .inl (fun _ => 0)))] : va_W)) X (c_X2_init l dC dI cI cJ cZ N hf q6) (cwI 0 hts gX6_init_X2_init rfl rfl rfl (hts _ m_X6_init_30) (hts _ m_X6_init_31) (hts _ m_X6_init_32) rfl (by decide +kernel) ⟨Nat.le_of_ble_eq_true rfl, Nat.le_of_ble_eq_true rfl⟩) hw [29] [0, 1, 2, 3, 4, 5, 6, 7, 8, 9, 10, 11, 12, 13, 14, 15, 16, 17, 18, 19, 20, 21, 22, 23, 24, 25, 26, 27, 28] rfl rfl rfl rfl (by decide) rfl hl.1 rfl (Nat.le_of_ble_eq_true rfl) dX6_init_64 ⟨Nat.le_of_ble_eq_true rfl, Nat.le_of_ble_eq_true rfl⟩ (fun aO H locs eaO hw2 => ?_)
  subst eaO
  replace hw : Wd (dC, dI) A s.heap _ _ ([(h0, .inr (6, [.ref (aW 0), .ref (aH 0), .ref (aR 0), .ref (aP 0), .ref (aC 0), .null])), ((aW 0), .inr (4, [.ref (aW 1), .ref (aW 2), .ref (aW 3), .ref (aW 4), .int 0])), ((aW 1), .inl (cI, 400, .inl (fun _ => 0))), ((aW 2), .inl (cI, 400, .inl (fun _ => 0))), ((aW 3), .inl (cI, 4, .inl (upd (upd (upd (upd (fun _ => 0) (0 : Int32).toNatClampNeg 0) (1 : Int32).toNatClampNeg 1) (2 : Int32).toNatClampNeg 2) (3 : Int32).toNatClampNeg 3))), ((aW 4), .inl (cZ, 4, .inl (fun _ => 0))), ((aH 0), .inr (1, [.ref (aH 1), .int 0])), ((aH 1), .inl (cJ, 400, .inr (.inl (fun _ => 0)))), ((aR 0), .inr (5, [.ref (aR 1), .ref (aR 2), .ref (aR 3), .ref (aR 4), .ref (aR 5), .ref (aR 6), .int 0, .int 0, .int 0, .int 0])), ((aR 1), .inl (cI, 4000, .inl (fun _ => 0))), ((aR 2), .inl (cI, 800, .inl (fun _ => 0))), ((aR 3), .inl (cI, 400, .inl (fun _ => 0))), ((aR 4), .inl (cI, 400, .inl (fun _ => 0))), ((aR 5), .inl (cI, 8, .inl (fun _ => 0))), ((aR 6), .inl (cI, 8, .inl (fun _ => 0))), ((aP 0), .inr (3, [.ref (aP 1), .ref (aP 2), .ref (aP 3), .int 0, .int 0])), ((aP 1), .inl (cI, 800, .inl (fun _ => 0))), ((aP 2), .inl (cI, 401, .inl (fun _ => 0))), ((aP 3), .inl (cI, 799, .inl (fun _ => 0))), ((aC 0), .inr (0, [.ref (aC 1), .ref (aC 2), .ref (aC 3), .ref (aC 4), .ref (aC 5), .ref (aC 6), .ref (aC 7), .ref (aC 8), .ref (aC 9), .int 0, .int 0, .int 0, .int 0, .int 0, .int 0])), ((aC 1), .inl (cZ, 400, .inl (fun _ => 0))), ((aC 2), .inl (cI, 400, .inl (fun _ => 0))), ((aC 3), .inl (cI, 8, .inl (fun _ => 0))), ((aC 4), .inl (cI, 8, .inl (fun _ => 0))), ((aC 5), .inl (cI, 8, .inl (fun _ => 0))), ((aC 6), .inl (cI, 8, .inl (fun _ => 0))), ((aC 7), .inl (cI, 8, .inl (fun _ => 0))), ((aC 8), .inl (cZ, 8, .inl (fun _ => 0))), ((aC 9), .inl (cI, 8, .inl (fun _ => 0))), ((aO 0), .inr (2, [.ref (aO 1), .ref (aO 2)])), ((aO 1), .inl (cI, 8, .inl o_O_paces)), ((aO 2), .inl (cZ, 8, .inl o_O_up))] : va_W) := hw2
  clear hw2
  refine g_putF (D := (dC, dI)) (ci := 6) (v := .ref (aO 0)) (ty := .object "GreatSort$Hosts") (C := RX6) (T := TX6) (N := 6) hx hb hts i_X6_init_X6 tyX6 tyX6_ok nmX6 hown hK hw 0 rfl rfl 5 (by decide) (hts _ m_X6_init_33) (fun _ h9 => h9) rfl hin rfl (by decide +kernel) rfl rfl (Nat.le_of_ble_eq_true rfl) dX6_init_67 (fun H locs hw => ?_)
  replace hw : Wd (dC, dI) A s.heap _ _ ([(h0, .inr (6, [.ref (aW 0), .ref (aH 0), .ref (aR 0), .ref (aP 0), .ref (aC 0), .ref (aO 0)])), ((aW 0), .inr (4, [.ref (aW 1), .ref (aW 2), .ref (aW 3), .ref (aW 4), .int 0])), ((aW 1), .inl (cI, 400, .inl (fun _ => 0))), ((aW 2), .inl (cI, 400, .inl (fun _ => 0))), ((aW 3), .inl (cI, 4, .inl (upd (upd (upd (upd (fun _ => 0) (0 : Int32).toNatClampNeg 0) (1 : Int32).toNatClampNeg 1) (2 : Int32).toNatClampNeg 2) (3 : Int32).toNatClampNeg 3))), ((aW 4), .inl (cZ, 4, .inl (fun _ => 0))), ((aH 0), .inr (1, [.ref (aH 1), .int 0])), ((aH 1), .inl (cJ, 400, .inr (.inl (fun _ => 0)))), ((aR 0), .inr (5, [.ref (aR 1), .ref (aR 2), .ref (aR 3), .ref (aR 4), .ref (aR 5), .ref (aR 6), .int 0, .int 0, .int 0, .int 0])), ((aR 1), .inl (cI, 4000, .inl (fun _ => 0))), ((aR 2), .inl (cI, 800, .inl (fun _ => 0))), ((aR 3), .inl (cI, 400, .inl (fun _ => 0))), ((aR 4), .inl (cI, 400, .inl (fun _ => 0))), ((aR 5), .inl (cI, 8, .inl (fun _ => 0))), ((aR 6), .inl (cI, 8, .inl (fun _ => 0))), ((aP 0), .inr (3, [.ref (aP 1), .ref (aP 2), .ref (aP 3), .int 0, .int 0])), ((aP 1), .inl (cI, 800, .inl (fun _ => 0))), ((aP 2), .inl (cI, 401, .inl (fun _ => 0))), ((aP 3), .inl (cI, 799, .inl (fun _ => 0))), ((aC 0), .inr (0, [.ref (aC 1), .ref (aC 2), .ref (aC 3), .ref (aC 4), .ref (aC 5), .ref (aC 6), .ref (aC 7), .ref (aC 8), .ref (aC 9), .int 0, .int 0, .int 0, .int 0, .int 0, .int 0])), ((aC 1), .inl (cZ, 400, .inl (fun _ => 0))), ((aC 2), .inl (cI, 400, .inl (fun _ => 0))), ((aC 3), .inl (cI, 8, .inl (fun _ => 0))), ((aC 4), .inl (cI, 8, .inl (fun _ => 0))), ((aC 5), .inl (cI, 8, .inl (fun _ => 0))), ((aC 6), .inl (cI, 8, .inl (fun _ => 0))), ((aC 7), .inl (cI, 8, .inl (fun _ => 0))), ((aC 8), .inl (cZ, 8, .inl (fun _ => 0))), ((aC 9), .inl (cI, 8, .inl (fun _ => 0))), ((aO 0), .inr (2, [.ref (aO 1), .ref (aO 2)])), ((aO 1), .inl (cI, 8, .inl o_O_paces)), ((aO 2), .inl (cZ, 8, .inl o_O_up))] : va_W) := hw
  exact endN (w' := fun aG => w_GWHRPCO (fun _ => aG 0) (fun k => aG (k + 1)) (fun k => aG (k + 6)) (fun k => aG (k + 8)) (fun k => aG (k + 15)) (fun k => aG (k + 19)) (fun k => aG (k + 29)) cI cJ cZ (fun _ => 0) (fun _ => 0) (upd (upd (upd (upd (fun _ => 0) (0 : Int32).toNatClampNeg 0) (1 : Int32).toNatClampNeg 1) (2 : Int32).toNatClampNeg 2) (3 : Int32).toNatClampNeg 3) (fun _ => 0) 0 (fun _ => 0) 0 (fun _ => 0) (fun _ => 0) (fun _ => 0) (fun _ => 0) (fun _ => 0) (fun _ => 0) 0 0 0 0 (fun _ => 0) (fun _ => 0) (fun _ => 0) 0 0 (fun _ => 0) (fun _ => 0) (fun _ => 0) (fun _ => 0) (fun _ => 0) (fun _ => 0) (fun _ => 0) (fun _ => 0) (fun _ => 0) 0 0 0 0 0 0 o_O_paces o_O_up) X hr hlocks (fun k => if k = 0 then h0 else if k < 6 then aW (k - 1) else if k < 8 then aH (k - 6) else if k < 15 then aR (k - 8) else if k < 19 then aP (k - 15) else if k < 29 then aC (k - 19) else aO (k - 29)) rfl hw dX6_init_70
