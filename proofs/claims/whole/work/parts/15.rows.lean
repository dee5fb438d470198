def rm_X4_hasRoomFor : Room := { frames := 0, cells := 0, slots := 0, locals := 0 }
set_option maxRecDepth 20000 in
theorem i_X4_hasRoomFor_X4 : ∀ w ∈ u_ws RX4 TX4 5, w ∈ wsX4_hasRoomFor := by decide +kernel
set_option maxRecDepth 20000 in
theorem m_X4_hasRoomFor_0 : Cond.fieldLink RX4 25 "GreatSort$Rows" "count" "I" ∈ wsX4_hasRoomFor := by decide +kernel
set_option maxHeartbeats 4000000 in
set_option maxRecDepth 100000 in
theorem c_X4_hasRoomFor (l : Launch) (dC : Nat → ClassId) (dI : Nat → Nat → Nat) (cI cJ cZ : ClassId) (aW : Nat → Nat) (N : Nat) (W_sorts : (Nat → Int32)) (W_values : (Nat → Int32)) (W_turns : (Nat → Int32)) (W_falling : (Nat → Int32)) (W_count : Int32) (v1 : Int32) {r : Int32} (hf : f_X4_hasRoomFor N W_count v1 = some r) :
    CtI l yX4_hasRoomFor wsX4_hasRoomFor rm_X4_hasRoomFor (dC, dI) (tyl cI cJ cZ) [.ref (aW 0), .int v1] (w_W aW cI cJ cZ W_sorts W_values W_turns W_falling W_count) (w_W aW cI cJ cZ W_sorts W_values W_turns W_falling W_count) r := by
  refine startI (cc := cX4_hasRoomFor) (maxL := 2) (rt := (some .boolean)) (by decide +kernel) rfl (Nat.le_of_ble_eq_true rfl) ?_
  intro p e s m below meth c A ls X hr hlocks hw hl
  replace X : Cx p m c cX4_hasRoomFor 2 s _ wsX4_hasRoomFor RX4 (dC, dI) (tyl cI cJ cZ) A := X
  replace hl : lv_has ls 2 [(0, .ref (aW 0)), (1, .int v1)] := hl
  obtain ⟨hx, hb, hml, hown, hts⟩ := X.1
  have hK := X.2.1
  have hN := X.2.2.2
  unfold f_X4_hasRoomFor at hf
  refine lv_iload_n hx hb dX4_hasRoomFor_0 rfl (lv_at hl 1 rfl) ?_
  refine lv_sipush (v := 400) hx hb dX4_hasRoomFor_1 (by decide) ?_
  refine lv_aload_n hx hb dX4_hasRoomFor_4 rfl (lv_at hl 0 rfl) ?_
  refine va_get (D := (dC, dI)) (ci := 4) (v := .int W_count) (C := RX4) (T := TX4) (N := 5) hx hb hts i_X4_hasRoomFor_X4 hown hK hw.1 0 rfl rfl 4 (by decide) (hts _ m_X4_hasRoomFor_0) (fun _ h9 => h9) rfl dX4_hasRoomFor_5 ?_
  refine lv_isub hx hb dX4_hasRoomFor_8 ?_
  refine lv_icmp_gt (tgt := 16) hx hb dX4_hasRoomFor_9 (by decide) (fun b1 => ?_) (fun b1 => ?_)
  · replace hf := it_t hf b1
    refine lv_iconst (v := 0) hx hb dX4_hasRoomFor_16 (by decide) ?_
    have g2 := bz_nar (gd_l hf)
    replace hf := gd_r hf
    cases hf
    exact endI X hr g2 hlocks rfl hw dX4_hasRoomFor_17
  · replace hf := it_f hf b1
    refine lv_iconst (v := 1) hx hb dX4_hasRoomFor_12 (by decide) ?_
    refine lv_goto (tgt := 17) hx hb dX4_hasRoomFor_13 (by decide) ?_
    have g3 := bz_nar (gd_l hf)
    replace hf := gd_r hf
    cases hf
    exact endI X hr g3 hlocks rfl hw dX4_hasRoomFor_17
def rm_X4_add : Room := { frames := 0, cells := 0, slots := 0, locals := 0 }
set_option maxRecDepth 20000 in
theorem i_X4_add_X4 : ∀ w ∈ u_ws RX4 TX4 5, w ∈ wsX4_add := by decide +kernel
set_option maxRecDepth 20000 in
theorem m_X4_add_0 : Cond.fieldLink RX4 25 "GreatSort$Rows" "count" "I" ∈ wsX4_add := by decide +kernel
set_option maxRecDepth 20000 in
theorem m_X4_add_1 : Cond.fieldLink RX4 9 "GreatSort$Rows" "sorts" "[I" ∈ wsX4_add := by decide +kernel
set_option maxRecDepth 20000 in
theorem m_X4_add_2 : Cond.fieldLink RX4 15 "GreatSort$Rows" "values" "[I" ∈ wsX4_add := by decide +kernel
set_option maxHeartbeats 4000000 in
set_option maxRecDepth 100000 in
theorem c_X4_add (l : Launch) (dC : Nat → ClassId) (dI : Nat → Nat → Nat) (cI cJ cZ : ClassId) (aW : Nat → Nat) (N : Nat) (W_sorts : (Nat → Int32)) (W_values : (Nat → Int32)) (W_turns : (Nat → Int32)) (W_falling : (Nat → Int32)) (W_count : Int32) (v1 : Int32) (v2 : Int32) {o_W_sorts : (Nat → Int32)} {o_W_values : (Nat → Int32)} {o_W_count : Int32} (hf : f_X4_add N W_sorts W_values W_count v1 v2 = some (o_W_sorts, o_W_values, o_W_count)) :
    CtV l yX4_add wsX4_add rm_X4_add (dC, dI) (tyl cI cJ cZ) [.ref (aW 0), .int v1, .int v2] (w_W aW cI cJ cZ W_sorts W_values W_turns W_falling W_count) (w_W aW cI cJ cZ o_W_sorts o_W_values W_turns W_falling o_W_count) := by
  refine startV (cc := cX4_add) (maxL := 3) (rt := none) (by decide +kernel) rfl (Nat.le_of_ble_eq_true rfl) ?_
  intro p e s m below meth c A ls X hr hlocks hw hl
  replace X : Cx p m c cX4_add 3 s _ wsX4_add RX4 (dC, dI) (tyl cI cJ cZ) A := X
  replace hl : lv_has ls 3 [(0, .ref (aW 0)), (1, .int v1), (2, .int v2)] := hl
  obtain ⟨hx, hb, hml, hown, hts⟩ := X.1
  have hK := X.2.1
  have hN := X.2.2.2
  unfold f_X4_add at hf
  refine lv_aload_n hx hb dX4_add_0 rfl (lv_at hl 0 rfl) ?_
  refine va_get (D := (dC, dI)) (ci := 4) (v := .int W_count) (C := RX4) (T := TX4) (N := 5) hx hb hts i_X4_add_X4 hown hK hw.1 0 rfl rfl 4 (by decide) (hts _ m_X4_add_0) (fun _ h9 => h9) rfl dX4_add_1 ?_
  refine lv_sipush (v := 400) hx hb dX4_add_4 (by decide) ?_
  refine lv_icmp_ge (tgt := 40) hx hb dX4_add_7 (by decide) (fun b1 => ?_) (fun b1 => ?_)
  · replace hf := it_t hf b1
    cases hf
    exact endV X hr hlocks hw dX4_add_40
  · replace hf := it_f hf b1
    refine lv_aload_n hx hb dX4_add_10 rfl (lv_at hl 0 rfl) ?_
    refine va_get (D := (dC, dI)) (ci := 4) (v := .ref (aW 1)) (C := RX4) (T := TX4) (N := 5) hx hb hts i_X4_add_X4 hown hK hw.1 0 rfl rfl 0 (by decide) (hts _ m_X4_add_1) (fun _ h9 => h9) rfl dX4_add_11 ?_
    refine lv_aload_n hx hb dX4_add_14 rfl (lv_at hl 0 rfl) ?_
    refine va_get (D := (dC, dI)) (ci := 4) (v := .int W_count) (C := RX4) (T := TX4) (N := 5) hx hb hts i_X4_add_X4 hown hK hw.1 0 rfl rfl 4 (by decide) (hts _ m_X4_add_0) (fun _ h9 => h9) rfl dX4_add_15 ?_
    refine lv_iload_n hx hb dX4_add_18 rfl (lv_at hl 1 rfl) ?_
    have g2 := ix_in (gd_l hf)
    replace hf := gd_r hf
    refine g_iast hx hb hK hw 1 0 rfl rfl g2 dX4_add_19 (fun H locs hw => ?_)
    replace hw : Wd (dC, dI) A s.heap H locs (w_W aW cI cJ cZ (upd W_sorts W_count.toNatClampNeg v1) W_values W_turns W_falling W_count) := hw
    refine lv_aload_n hx hb dX4_add_20 rfl (lv_at hl 0 rfl) ?_
    refine va_get (D := (dC, dI)) (ci := 4) (v := .ref (aW 2)) (C := RX4) (T := TX4) (N := 5) hx hb hts i_X4_add_X4 hown hK hw.1 0 rfl rfl 1 (by decide) (hts _ m_X4_add_2) (fun _ h9 => h9) rfl dX4_add_21 ?_
    refine lv_aload_n hx hb dX4_add_24 rfl (lv_at hl 0 rfl) ?_
    refine va_get (D := (dC, dI)) (ci := 4) (v := .int W_count) (C := RX4) (T := TX4) (N := 5) hx hb hts i_X4_add_X4 hown hK hw.1 0 rfl rfl 4 (by decide) (hts _ m_X4_add_0) (fun _ h9 => h9) rfl dX4_add_25 ?_
    refine lv_iload_n hx hb dX4_add_28 rfl (lv_at hl 2 rfl) ?_
    have g3 := ix_in (gd_l hf)
    replace hf := gd_r hf
    refine g_iast hx hb hK hw 2 0 rfl rfl g3 dX4_add_29 (fun H locs hw => ?_)
    replace hw : Wd (dC, dI) A s.heap H locs (w_W aW cI cJ cZ (upd W_sorts W_count.toNatClampNeg v1) (upd W_values W_count.toNatClampNeg v2) W_turns W_falling W_count) := hw
    refine lv_aload_n hx hb dX4_add_30 rfl (lv_at hl 0 rfl) ?_
    refine lv_dup hx hb dX4_add_31 rfl ?_
    refine va_get (D := (dC, dI)) (ci := 4) (v := .int W_count) (C := RX4) (T := TX4) (N := 5) hx hb hts i_X4_add_X4 hown hK hw.1 0 rfl rfl 4 (by decide) (hts _ m_X4_add_0) (fun _ h9 => h9) rfl dX4_add_32 ?_
    refine lv_iconst (v := 1) hx hb dX4_add_35 (by decide) ?_
    refine lv_iadd hx hb dX4_add_36 ?_
    refine lv_topi (fun x4 ex4 => ?_)
    replace hf := nl_at hf ex4
    refine g_put (D := (dC, dI)) (ci := 4) (v := .int x4) (ty := .int) (C := RX4) (T := TX4) (N := 5) hx hb hts i_X4_add_X4 tyX4 tyX4_ok nmX4 hown hK hw 0 rfl rfl 4 (by decide) (hts _ m_X4_add_0) (fun _ h9 => h9) rfl (by decide +kernel) rfl rfl (Nat.le_of_ble_eq_true rfl) dX4_add_37 (fun H locs hw => ?_)
    replace hw : Wd (dC, dI) A s.heap H locs (w_W aW cI cJ cZ (upd W_sorts W_count.toNatClampNeg v1) (upd W_values W_count.toNatClampNeg v2) W_turns W_falling x4) := hw
    cases hf
    exact endV X hr hlocks hw dX4_add_40
def rm_X4_has : Room := { frames := 1, cells := 0, slots := 0, locals := 22 }
set_option maxRecDepth 20000 in
theorem i_X4_has_X4 : ∀ w ∈ u_ws RX4 TX4 5, w ∈ wsX4_has := by decide +kernel
set_option maxRecDepth 20000 in
theorem m_X4_has_0 : Cond.fieldLink RX4 25 "GreatSort$Rows" "count" "I" ∈ wsX4_has := by decide +kernel
set_option maxRecDepth 20000 in
theorem m_X4_has_1 : Cond.initialized RX6 ∈ wsX4_has := by decide +kernel
set_option maxRecDepth 20000 in
theorem m_X4_has_2 : Cond.static yX6_isIn ∈ wsX4_has := by decide +kernel
set_option maxHeartbeats 4000000 in
set_option maxRecDepth 100000 in
theorem c_X4_has (l : Launch) (dC : Nat → ClassId) (dI : Nat → Nat → Nat) (cI cJ cZ : ClassId) (aW : Nat → Nat) (N : Nat) (W_sorts : (Nat → Int32)) (W_values : (Nat → Int32)) (W_turns : (Nat → Int32)) (W_falling : (Nat → Int32)) (W_count : Int32) (v1 : Int32) {r : Int32} (hf : f_X4_has N W_count v1 = some r) :
    CtI l yX4_has wsX4_has rm_X4_has (dC, dI) (tyl cI cJ cZ) [.ref (aW 0), .int v1] (w_W aW cI cJ cZ W_sorts W_values W_turns W_falling W_count) (w_W aW cI cJ cZ W_sorts W_values W_turns W_falling W_count) r := by
  refine startI (cc := cX4_has) (maxL := 2) (rt := (some .boolean)) (by decide +kernel) rfl (Nat.le_of_ble_eq_true rfl) ?_
  intro p e s m below meth c A ls X hr hlocks hw hl
  replace X : Cx p m c cX4_has 2 s _ wsX4_has RX4 (dC, dI) (tyl cI cJ cZ) A := X
  replace hl : lv_has ls 2 [(0, .ref (aW 0)), (1, .int v1)] := hl
  obtain ⟨hx, hb, hml, hown, hts⟩ := X.1
  have hK := X.2.1
  have hN := X.2.2.2
  unfold f_X4_has at hf
  refine lv_iload_n hx hb dX4_has_0 rfl (lv_at hl 1 rfl) ?_
  refine lv_iconst (v := 0) hx hb dX4_has_1 (by decide) ?_
  refine lv_aload_n hx hb dX4_has_2 rfl (lv_at hl 0 rfl) ?_
  refine va_get (D := (dC, dI)) (ci := 4) (v := .int W_count) (C := RX4) (T := TX4) (N := 5) hx hb hts i_X4_has_X4 hown hK hw.1 0 rfl rfl 4 (by decide) (hts _ m_X4_has_0) (fun _ h9 => h9) rfl dX4_has_3 ?_
  refine lv_iconst (v := 1) hx hb dX4_has_6 (by decide) ?_
  refine lv_isub hx hb dX4_has_7 ?_
  obtain ⟨r1, h2, hf⟩ := bd1_ob hf
  refine clSNI (As := [.int v1, .int (0 : Int32), .int (W_count - 1)]) (rest := []) X (c_X6_isIn l dC dI cI cJ cZ N v1 (0 : Int32) (W_count - 1) h2) (⟨va_cnB 3 hts gX4_has_X6_isIn_n29 rfl rfl rfl (hN _ nk_34) (hts _ m_X4_has_1) (by decide +kernel) ⟨Nat.le_of_ble_eq_true rfl, Nat.le_of_ble_eq_true rfl⟩, hts _ m_X4_has_2, trivial⟩) hw [] rfl rfl rfl rfl hl.1 rfl (Nat.le_of_ble_eq_true rfl) dX4_has_8 ⟨Nat.zero_le _, Nat.zero_le _⟩ (fun H locs hw => ?_)
  replace hw : Wd (dC, dI) A s.heap H locs (w_W aW cI cJ cZ W_sorts W_values W_turns W_falling W_count) := hw
  have g3 := bz_nar (gd_l hf)
  replace hf := gd_r hf
  cases hf
  exact endI X hr g3 hlocks rfl hw dX4_has_11
def rm_X4_placeOf : Room := { frames := 2, cells := 0, slots := 0, locals := 43 }
set_option maxRecDepth 20000 in
theorem i_X4_placeOf_X4 : ∀ w ∈ u_ws RX4 TX4 5, w ∈ wsX4_placeOf := by decide +kernel
set_option maxRecDepth 20000 in
theorem m_X4_placeOf_0 : Cond.fieldLink RX4 9 "GreatSort$Rows" "sorts" "[I" ∈ wsX4_placeOf := by decide +kernel
set_option maxRecDepth 20000 in
theorem m_X4_placeOf_1 : Cond.fieldLink RX4 21 "GreatSort$Rows" "falling" "[Z" ∈ wsX4_placeOf := by decide +kernel
set_option maxRecDepth 20000 in
theorem m_X4_placeOf_2 : Cond.fieldLink RX4 18 "GreatSort$Rows" "turns" "[I" ∈ wsX4_placeOf := by decide +kernel
set_option maxRecDepth 20000 in
theorem m_X4_placeOf_3 : Cond.constant RX4 38 (200001) ∈ wsX4_placeOf := by decide +kernel
set_option maxRecDepth 20000 in
theorem m_X4_placeOf_4 : Cond.constant RX4 39 (100000) ∈ wsX4_placeOf := by decide +kernel
set_option maxRecDepth 20000 in
theorem m_X4_placeOf_5 : Cond.fieldLink RX4 15 "GreatSort$Rows" "values" "[I" ∈ wsX4_placeOf := by decide +kernel
set_option maxRecDepth 20000 in
theorem m_X4_placeOf_6 : Cond.constant RX4 37 (320001600) ∈ wsX4_placeOf := by decide +kernel
set_option maxHeartbeats 4000000 in
set_option maxRecDepth 100000 in
theorem c_X4_placeOf (l : Launch) (dC : Nat → ClassId) (dI : Nat → Nat → Nat) (cI cJ cZ : ClassId) (aW : Nat → Nat) (N : Nat) (W_sorts : (Nat → Int32)) (W_values : (Nat → Int32)) (W_turns : (Nat → Int32)) (W_falling : (Nat → Int32)) (W_count : Int32) (v1 : Int32) {r : Int32} (hf : f_X4_placeOf N W_sorts W_values W_turns W_falling W_count v1 = some r) :
    CtI l yX4_placeOf wsX4_placeOf rm_X4_placeOf (dC, dI) (tyl cI cJ cZ) [.ref (aW 0), .int v1] (w_W aW cI cJ cZ W_sorts W_values W_turns W_falling W_count) (w_W aW cI cJ cZ W_sorts W_values W_turns W_falling W_count) r := by
  refine startI (cc := cX4_placeOf) (maxL := 4) (rt := (some .int)) (by decide +kernel) rfl (Nat.le_of_ble_eq_true rfl) ?_
  intro p e s m below meth c A ls X hr hlocks hw hl
  replace X : Cx p m c cX4_placeOf 4 s _ wsX4_placeOf RX4 (dC, dI) (tyl cI cJ cZ) A := X
  replace hl : lv_has ls 4 [(0, .ref (aW 0)), (1, .int v1)] := hl
  obtain ⟨hx, hb, hml, hown, hts⟩ := X.1
  have hK := X.2.1
  have hN := X.2.2.2
  unfold f_X4_placeOf at hf
  refine lv_aload_n hx hb dX4_placeOf_0 rfl (lv_at hl 0 rfl) ?_
  refine lv_iload_n hx hb dX4_placeOf_1 rfl (lv_at hl 1 rfl) ?_
  obtain ⟨r1, h2, hf⟩ := bd1_ob hf
  refine clFI (As := [.int v1]) (rest := []) X (c_X4_has l dC dI cI cJ cZ aW N W_sorts W_values W_turns W_falling W_count v1 h2) (cwV 1 hts gX4_placeOf_X4_has rfl rfl rfl (by decide +kernel) ⟨Nat.le_of_ble_eq_true rfl, Nat.le_of_ble_eq_true rfl⟩) (ci := 4) (k0 := 0) rfl rfl rfl hw rfl rfl hl.1 rfl (Nat.le_of_ble_eq_true rfl) dX4_placeOf_2 ⟨Nat.zero_le _, Nat.zero_le _⟩ (fun H locs hw => ?_)
  refine lv_if_ne (tgt := 11) hx hb dX4_placeOf_5 (by decide) (fun b3 => ?_) (fun b3 => ?_)
  · replace hf := it_f hf b3
    refine lv_aload_n hx hb dX4_placeOf_11 rfl (lv_at hl 0 rfl) ?_
    refine va_get (D := (dC, dI)) (ci := 4) (v := .ref (aW 1)) (C := RX4) (T := TX4) (N := 5) hx hb hts i_X4_placeOf_X4 hown hK hw.1 0 rfl rfl 0 (by decide) (hts _ m_X4_placeOf_0) (fun _ h9 => h9) rfl dX4_placeOf_12 ?_
    refine lv_iload_n hx hb dX4_placeOf_15 rfl (lv_at hl 1 rfl) ?_
    have g4 := ix_in (gd_l hf)
    replace hf := gd_r hf
    refine va_iald hx hb hK hw.1 1 0 rfl rfl g4 dX4_placeOf_16 ?_
    refine lv_topi (fun x5 ex5 => ?_)
    replace hf := nl_at hf ex5
    refine lv_istore_n (lv' := [(2, .int x5), (0, .ref (aW 0)), (1, .int v1)]) hx hb dX4_placeOf_17 rfl hl (by decide) rfl (fun ls hl => ?_)
    refine lv_aload_n hx hb dX4_placeOf_18 rfl (lv_at hl 1 rfl) ?_
    refine va_get (D := (dC, dI)) (ci := 4) (v := .ref (aW 4)) (C := RX4) (T := TX4) (N := 5) hx hb hts i_X4_placeOf_X4 hown hK hw.1 0 rfl rfl 3 (by decide) (hts _ m_X4_placeOf_1) (fun _ h9 => h9) rfl dX4_placeOf_19 ?_
    refine lv_iload_n hx hb dX4_placeOf_22 rfl (lv_at hl 0 rfl) ?_
    have g6 := ix_in (gd_l hf)
    replace hf := gd_r hf
    refine va_zald hx hb hK hw.1 4 2 rfl rfl g6 dX4_placeOf_23 ?_
    obtain ⟨y7, h8, hf⟩ := bd1_ob hf
    refine join_ (nL := 4) (dC, dI) A 43 [.int y7] (w_W aW cI cJ cZ W_sorts W_values W_turns W_falling W_count) [(0, .ref (aW 0)), (1, .int v1), (2, .int x5)] (fun H locs ls hw hl => ?_) (fun jn => ?_)
    · refine lv_istore_n (lv' := [(3, .int y7), (0, .ref (aW 0)), (1, .int v1), (2, .int x5)]) hx hb dX4_placeOf_43 rfl hl (by decide) rfl (fun ls hl => ?_)
      refine lv_aload_n hx hb dX4_placeOf_44 rfl (lv_at hl 1 rfl) ?_
      refine va_get (D := (dC, dI)) (ci := 4) (v := .ref (aW 3)) (C := RX4) (T := TX4) (N := 5) hx hb hts i_X4_placeOf_X4 hown hK hw.1 0 rfl rfl 2 (by decide) (hts _ m_X4_placeOf_2) (fun _ h9 => h9) rfl dX4_placeOf_45 ?_
      refine lv_iload_n hx hb dX4_placeOf_48 rfl (lv_at hl 3 rfl) ?_
      have g9 := ix_in (gd_l hf)
      replace hf := gd_r hf
      refine va_iald hx hb hK hw.1 3 0 rfl rfl g9 dX4_placeOf_49 ?_
      refine lv_ldc (v := 200001) hx hb hown (hts _ m_X4_placeOf_3) dX4_placeOf_50 ?_
      refine lv_imul hx hb dX4_placeOf_52 ?_
      refine lv_iload_n hx hb dX4_placeOf_53 rfl (lv_at hl 0 rfl) ?_
      refine lv_iadd hx hb dX4_placeOf_54 ?_
      refine lv_ldc (v := 100000) hx hb hown (hts _ m_X4_placeOf_4) dX4_placeOf_55 ?_
      refine lv_iadd hx hb dX4_placeOf_57 ?_
      refine lv_sipush (v := 400) hx hb dX4_placeOf_58 (by decide) ?_
      refine lv_imul hx hb dX4_placeOf_61 ?_
      refine lv_iload_n hx hb dX4_placeOf_62 rfl (lv_at hl 2 rfl) ?_
      refine lv_iadd hx hb dX4_placeOf_63 ?_
      cases hf
      exact endI X hr rfl hlocks rfl hw dX4_placeOf_64
    · replace hf := h8
      refine lv_if_eq (tgt := 37) hx hb dX4_placeOf_24 (by decide) (fun b10 => ?_) (fun b10 => ?_)
      · replace hf := it_t hf b10
        refine lv_aload_n hx hb dX4_placeOf_37 rfl (lv_at hl 1 rfl) ?_
        refine va_get (D := (dC, dI)) (ci := 4) (v := .ref (aW 2)) (C := RX4) (T := TX4) (N := 5) hx hb hts i_X4_placeOf_X4 hown hK hw.1 0 rfl rfl 1 (by decide) (hts _ m_X4_placeOf_5) (fun _ h9 => h9) rfl dX4_placeOf_38 ?_
        refine lv_iload_n hx hb dX4_placeOf_41 rfl (lv_at hl 2 rfl) ?_
        have g11 := ix_in (gd_l hf)
        replace hf := gd_r hf
        refine va_iald hx hb hK hw.1 2 0 rfl rfl g11 dX4_placeOf_42 ?_
        cases hf
        exact jn _ _ _ hw (lv_sub hl [1, 2, 0] rfl)
      · replace hf := it_f hf b10
        refine lv_aload_n hx hb dX4_placeOf_27 rfl (lv_at hl 1 rfl) ?_
        refine va_get (D := (dC, dI)) (ci := 4) (v := .ref (aW 2)) (C := RX4) (T := TX4) (N := 5) hx hb hts i_X4_placeOf_X4 hown hK hw.1 0 rfl rfl 1 (by decide) (hts _ m_X4_placeOf_5) (fun _ h9 => h9) rfl dX4_placeOf_28 ?_
        refine lv_iload_n hx hb dX4_placeOf_31 rfl (lv_at hl 2 rfl) ?_
        have g12 := ix_in (gd_l hf)
        replace hf := gd_r hf
        refine va_iald hx hb hK hw.1 2 0 rfl rfl g12 dX4_placeOf_32 ?_
        refine lv_ineg hx hb dX4_placeOf_33 ?_
        refine lv_goto (tgt := 43) hx hb dX4_placeOf_34 (by decide) ?_
        cases hf
        exact jn _ _ _ hw (lv_sub hl [1, 2, 0] rfl)
  · replace hf := it_t hf b3
    refine lv_ldc (v := 320001600) hx hb hown (hts _ m_X4_placeOf_6) dX4_placeOf_8 ?_
    cases hf
    exact endI X hr rfl hlocks rfl hw dX4_placeOf_10
