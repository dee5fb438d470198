def rm_X1_forget : Room := { frames := 0, cells := 0, slots := 0, locals := 0 }
set_option maxRecDepth 20000 in
theorem i_X1_forget_X1 : ∀ w ∈ u_ws RX1 TX1 2, w ∈ wsX1_forget := by decide +kernel
set_option maxRecDepth 20000 in
theorem m_X1_forget_0 : Cond.fieldLink RX1 15 "GreatSort$Heap" "size" "I" ∈ wsX1_forget := by decide +kernel
set_option maxHeartbeats 4000000 in
set_option maxRecDepth 100000 in
theorem c_X1_forget (l : Launch) (dC : Nat → ClassId) (dI : Nat → Nat → Nat) (cI cJ cZ : ClassId) (aH : Nat → Nat) (N : Nat) (H_items : (Nat → Int64)) (H_size : Int32)  {o_H_size : Int32} (hf : f_X1_forget N H_size  = some o_H_size) :
    CtV l yX1_forget wsX1_forget rm_X1_forget (dC, dI) (tyl cI cJ cZ) [.ref (aH 0)] (w_H aH cI cJ cZ H_items H_size) (w_H aH cI cJ cZ H_items o_H_size) := by
  refine startV (cc := cX1_forget) (maxL := 1) (rt := none) (by decide +kernel) rfl (Nat.le_of_ble_eq_true rfl) ?_
  intro p e s m below meth c A ls X hr hlocks hw hl
  replace X : Cx p m c cX1_forget 1 s _ wsX1_forget RX1 (dC, dI) (tyl cI cJ cZ) A := X
  replace hl : lv_has ls 1 [(0, .ref (aH 0))] := hl
  obtain ⟨hx, hb, hml, hown, hts⟩ := X.1
  have hK := X.2.1
  have hN := X.2.2.2
  unfold f_X1_forget at hf
  refine lv_aload_n hx hb dX1_forget_0 rfl (lv_at hl 0 rfl) ?_
  refine lv_iconst (v := 0) hx hb dX1_forget_1 (by decide) ?_
  refine g_put (D := (dC, dI)) (ci := 1) (v := .int 0) (ty := .int) (C := RX1) (T := TX1) (N := 2) hx hb hts i_X1_forget_X1 tyX1 tyX1_ok nmX1 hown hK hw 0 rfl rfl 1 (by decide) (hts _ m_X1_forget_0) (fun _ h9 => h9) rfl (by decide +kernel) rfl rfl (Nat.le_of_ble_eq_true rfl) dX1_forget_2 (fun H locs hw => ?_)
  replace hw : Wd (dC, dI) A s.heap H locs (w_H aH cI cJ cZ H_items 0) := hw
  cases hf
  exact endV X hr hlocks hw dX1_forget_5
def rm_X1_add : Room := { frames := 0, cells := 0, slots := 0, locals := 0 }
set_option maxRecDepth 20000 in
theorem i_X1_add_X1 : ∀ w ∈ u_ws RX1 TX1 2, w ∈ wsX1_add := by decide +kernel
set_option maxRecDepth 20000 in
theorem m_X1_add_0 : Cond.fieldLink RX1 15 "GreatSort$Heap" "size" "I" ∈ wsX1_add := by decide +kernel
set_option maxRecDepth 20000 in
theorem m_X1_add_1 : Cond.fieldLink RX1 9 "GreatSort$Heap" "items" "[J" ∈ wsX1_add := by decide +kernel
set_option maxHeartbeats 4000000 in
set_option maxRecDepth 100000 in
theorem t_X1_add_28 {p : Program} {l : Launch} {e : Env} {s : State} {m : MethodId} {args : Array Value} {below : List Frame} {meth : Method} {c : Code} {Q : State → Prop} {dC : Nat → ClassId} {dI : Nat → Nat → Nat} {cI cJ cZ : ClassId} {A : Nat → Prop} (aH : Nat → Nat) (X : Cx p m c cX1_add 5 s args wsX1_add RX1 (dC, dI) (tyl cI cJ cZ) A) (N : Nat) (H_size : Int32) (v1 : Int64) :
    ∀ (n : Nat) (v3 : Int32) (H_items : (Nat → Int64)) (e3 : Int32) (e_H_items : (Nat → Int64)), l_X1_add_28 N v1 n v3 H_items = some (e3, e_H_items) → ∀ (H : Heap) (locs : List Loc) (ls : Array Slot), Wd (dC, dI) A s.heap H locs (w_H aH cI cJ cZ H_items H_size) → lv_has ls 5 [(0, .ref (aH 0)), (1, .long v1), (3, .int v3)] → (∀ (H : Heap) (locs : List Loc) (ls : Array Slot), Wd (dC, dI) A s.heap H locs (w_H aH cI cJ cZ e_H_items H_size) → lv_has ls 5 [(0, .ref (aH 0)), (1, .long v1), (3, .int e3)] → W p l e rm_X1_add s m args below meth c H locs 0 0 Q (F0 m 73 ls [])) → W p l e rm_X1_add s m args below meth c H locs 0 0 Q (F0 m 28 ls []) := by
  obtain ⟨hx, hb, hml, hown, hts⟩ := X.1
  have hK := X.2.1
  have hN := X.2.2.2
  intro n
  induction n with
  | zero =>
    intro _ _ _ _ hf
    cases hf
  | succ n ih =>
    intro v3 H_items e3 e_H_items hf H locs ls hw hl kx
    rw [l_X1_add_28] at hf
    refine lv_iload_n hx hb dX1_add_28 rfl (lv_at hl 2 rfl) ?_
    refine lv_if_le (tgt := 73) hx hb dX1_add_29 (by decide) (fun b3 => ?_) (fun b3 => ?_)
    · replace hf := it_t hf b3
      cases hf
      exact kx _ _ _ hw (lv_sub hl [0, 1, 2] rfl)
    · replace hf := it_f hf b3
      refine lv_iload_n hx hb dX1_add_32 rfl (lv_at hl 2 rfl) ?_
      refine lv_iconst (v := 1) hx hb dX1_add_33 (by decide) ?_
      refine lv_isub hx hb dX1_add_34 ?_
      refine lv_iconst (v := 2) hx hb dX1_add_35 (by decide) ?_
      refine lv_idiv hx hb dX1_add_36 (by decide) ?_
      refine lv_topi (fun x4 ex4 => ?_)
      replace hf := nl_at hf ex4
      refine lv_istore (lv' := [(4, .int x4), (0, .ref (aH 0)), (1, .long v1), (3, .int v3)]) hx hb dX1_add_37 hl (by decide) rfl (fun ls hl => ?_)
      refine lv_aload_n hx hb dX1_add_39 rfl (lv_at hl 1 rfl) ?_
      refine va_get (D := (dC, dI)) (ci := 1) (v := .ref (aH 1)) (C := RX1) (T := TX1) (N := 2) hx hb hts i_X1_add_X1 hown hK hw.1 0 rfl rfl 0 (by decide) (hts _ m_X1_add_1) (fun _ h9 => h9) rfl dX1_add_40 ?_
      refine lv_iload hx hb dX1_add_43 (lv_at hl 0 rfl) ?_
      have g5 := ix_in (gd_l hf)
      replace hf := gd_r hf
      refine va_lald hx hb hK hw.1 1 1 rfl rfl g5 dX1_add_45 ?_
      refine lv_lload_n hx hb dX1_add_46 rfl (lv_at hl 2 rfl) ?_
      refine W.lcmp hx hb dX1_add_47 ?_
      refine lv_if_gt (tgt := 54) hx hb dX1_add_48 (by decide) (fun b6 => ?_) (fun b6 => ?_)
      · replace b6 := (lc_gt (H_items x4.toNatClampNeg) v1).mp b6
        replace hf := it_t hf b6
        refine lv_aload_n hx hb dX1_add_54 rfl (lv_at hl 1 rfl) ?_
        refine va_get (D := (dC, dI)) (ci := 1) (v := .ref (aH 1)) (C := RX1) (T := TX1) (N := 2) hx hb hts i_X1_add_X1 hown hK hw.1 0 rfl rfl 0 (by decide) (hts _ m_X1_add_1) (fun _ h9 => h9) rfl dX1_add_55 ?_
        refine lv_iload_n hx hb dX1_add_58 rfl (lv_at hl 3 rfl) ?_
        refine lv_aload_n hx hb dX1_add_59 rfl (lv_at hl 1 rfl) ?_
        refine va_get (D := (dC, dI)) (ci := 1) (v := .ref (aH 1)) (C := RX1) (T := TX1) (N := 2) hx hb hts i_X1_add_X1 hown hK hw.1 0 rfl rfl 0 (by decide) (hts _ m_X1_add_1) (fun _ h9 => h9) rfl dX1_add_60 ?_
        refine lv_iload hx hb dX1_add_63 (lv_at hl 0 rfl) ?_
        have g7 := ix_in (gd_l hf)
        replace hf := gd_r hf
        refine va_lald hx hb hK hw.1 1 1 rfl rfl g7 dX1_add_65 ?_
        refine lv_topl (fun x8 ex8 => ?_)
        replace hf := nl_at hf ex8
        have g9 := ix_in (gd_l hf)
        replace hf := gd_r hf
        refine g_last hx hb hK hw 1 1 rfl rfl g9 dX1_add_66 (fun H locs hw => ?_)
        replace hw : Wd (dC, dI) A s.heap H locs (w_H aH cI cJ cZ (vp_updL H_items v3.toNatClampNeg x8) H_size) := hw
        refine lv_iload hx hb dX1_add_67 (lv_at hl 0 rfl) ?_
        refine lv_istore_n (lv' := [(3, .int x4), (4, .int x4), (0, .ref (aH 0)), (1, .long v1)]) hx hb dX1_add_69 rfl hl (by decide) rfl (fun ls hl => ?_)
        refine lv_goto (tgt := 28) hx hb dX1_add_70 (by decide) ?_
        exact ih _ _ _ _ hf _ _ _ hw (lv_sub hl [2, 3, 0] rfl) kx
      · replace b6 := mt (lc_gt (H_items x4.toNatClampNeg) v1).mpr b6
        replace hf := it_f hf b6
        refine lv_goto (tgt := 73) hx hb dX1_add_51 (by decide) ?_
        cases hf
        exact kx _ _ _ hw (lv_sub hl [1, 2, 3] rfl)
set_option maxHeartbeats 4000000 in
set_option maxRecDepth 100000 in
theorem c_X1_add (l : Launch) (dC : Nat → ClassId) (dI : Nat → Nat → Nat) (cI cJ cZ : ClassId) (aH : Nat → Nat) (N : Nat) (H_items : (Nat → Int64)) (H_size : Int32) (v1 : Int64) {o_H_items : (Nat → Int64)} {o_H_size : Int32} (hf : f_X1_add N H_items H_size v1 = some (o_H_items, o_H_size)) :
    CtV l yX1_add wsX1_add rm_X1_add (dC, dI) (tyl cI cJ cZ) [.ref (aH 0), .long v1] (w_H aH cI cJ cZ H_items H_size) (w_H aH cI cJ cZ o_H_items o_H_size) := by
  refine startV (cc := cX1_add) (maxL := 5) (rt := none) (by decide +kernel) rfl (Nat.le_of_ble_eq_true rfl) ?_
  intro p e s m below meth c A ls X hr hlocks hw hl
  replace X : Cx p m c cX1_add 5 s _ wsX1_add RX1 (dC, dI) (tyl cI cJ cZ) A := X
  replace hl : lv_has ls 5 [(0, .ref (aH 0)), (1, .long v1)] := hl
  obtain ⟨hx, hb, hml, hown, hts⟩ := X.1
  have hK := X.2.1
  have hN := X.2.2.2
  unfold f_X1_add at hf
  refine lv_aload_n hx hb dX1_add_0 rfl (lv_at hl 0 rfl) ?_
  refine va_get (D := (dC, dI)) (ci := 1) (v := .int H_size) (C := RX1) (T := TX1) (N := 2) hx hb hts i_X1_add_X1 hown hK hw.1 0 rfl rfl 1 (by decide) (hts _ m_X1_add_0) (fun _ h9 => h9) rfl dX1_add_1 ?_
  refine lv_aload_n hx hb dX1_add_4 rfl (lv_at hl 0 rfl) ?_
  refine va_get (D := (dC, dI)) (ci := 1) (v := .ref (aH 1)) (C := RX1) (T := TX1) (N := 2) hx hb hts i_X1_add_X1 hown hK hw.1 0 rfl rfl 0 (by decide) (hts _ m_X1_add_1) (fun _ h9 => h9) rfl dX1_add_5 ?_
  refine va_alen hx hb hK hw.1 1 1 rfl rfl (v := 400) rfl dX1_add_8 ?_
  refine lv_icmp_lt (tgt := 13) hx hb dX1_add_9 (by decide) (fun b1 => ?_) (fun b1 => ?_)
  · replace hf := it_t hf b1
    refine lv_aload_n hx hb dX1_add_13 rfl (lv_at hl 0 rfl) ?_
    refine va_get (D := (dC, dI)) (ci := 1) (v := .int H_size) (C := RX1) (T := TX1) (N := 2) hx hb hts i_X1_add_X1 hown hK hw.1 0 rfl rfl 1 (by decide) (hts _ m_X1_add_0) (fun _ h9 => h9) rfl dX1_add_14 ?_
    refine lv_istore_n (lv' := [(3, .int H_size), (0, .ref (aH 0)), (1, .long v1)]) hx hb dX1_add_17 rfl hl (by decide) rfl (fun ls hl => ?_)
    refine lv_aload_n hx hb dX1_add_18 rfl (lv_at hl 1 rfl) ?_
    refine lv_dup hx hb dX1_add_19 rfl ?_
    refine va_get (D := (dC, dI)) (ci := 1) (v := .int H_size) (C := RX1) (T := TX1) (N := 2) hx hb hts i_X1_add_X1 hown hK hw.1 0 rfl rfl 1 (by decide) (hts _ m_X1_add_0) (fun _ h9 => h9) rfl dX1_add_20 ?_
    refine lv_iconst (v := 1) hx hb dX1_add_23 (by decide) ?_
    refine lv_iadd hx hb dX1_add_24 ?_
    refine lv_topi (fun x2 ex2 => ?_)
    replace hf := nl_at hf ex2
    refine g_put (D := (dC, dI)) (ci := 1) (v := .int x2) (ty := .int) (C := RX1) (T := TX1) (N := 2) hx hb hts i_X1_add_X1 tyX1 tyX1_ok nmX1 hown hK hw 0 rfl rfl 1 (by decide) (hts _ m_X1_add_0) (fun _ h9 => h9) rfl (by decide +kernel) rfl rfl (Nat.le_of_ble_eq_true rfl) dX1_add_25 (fun H locs hw => ?_)
    replace hw : Wd (dC, dI) A s.heap H locs (w_H aH cI cJ cZ H_items x2) := hw
    obtain ⟨e10, e11, h12, hf⟩ := bd2_ob hf
    refine t_X1_add_28 aH X N x2 v1 N _ _ _ _ h12 _ _ _ hw (lv_sub hl [1, 2, 0] rfl) (fun H locs ls hw hl => ?_)
    refine lv_aload_n hx hb dX1_add_73 rfl (lv_at hl 0 rfl) ?_
    refine va_get (D := (dC, dI)) (ci := 1) (v := .ref (aH 1)) (C := RX1) (T := TX1) (N := 2) hx hb hts i_X1_add_X1 hown hK hw.1 0 rfl rfl 0 (by decide) (hts _ m_X1_add_1) (fun _ h9 => h9) rfl dX1_add_74 ?_
    refine lv_iload_n hx hb dX1_add_77 rfl (lv_at hl 2 rfl) ?_
    refine lv_lload_n hx hb dX1_add_78 rfl (lv_at hl 1 rfl) ?_
    have g13 := ix_in (gd_l hf)
    replace hf := gd_r hf
    refine g_last hx hb hK hw 1 1 rfl rfl g13 dX1_add_79 (fun H locs hw => ?_)
    replace hw : Wd (dC, dI) A s.heap H locs (w_H aH cI cJ cZ (vp_updL e11 e10.toNatClampNeg v1) x2) := hw
    cases hf
    exact endV X hr hlocks hw dX1_add_80
  · replace hf := it_f hf b1
    cases hf
    exact endV X hr hlocks hw dX1_add_12
def rm_X1_sink : Room := { frames := 0, cells := 0, slots := 0, locals := 0 }
set_option maxRecDepth 20000 in
theorem i_X1_sink_X1 : ∀ w ∈ u_ws RX1 TX1 2, w ∈ wsX1_sink := by decide +kernel
set_option maxRecDepth 20000 in
theorem m_X1_sink_0 : Cond.fieldLink RX1 15 "GreatSort$Heap" "size" "I" ∈ wsX1_sink := by decide +kernel
set_option maxRecDepth 20000 in
theorem m_X1_sink_1 : Cond.fieldLink RX1 9 "GreatSort$Heap" "items" "[J" ∈ wsX1_sink := by decide +kernel
set_option maxHeartbeats 4000000 in
set_option maxRecDepth 100000 in
theorem t_X1_sink_5 {p : Program} {l : Launch} {e : Env} {s : State} {m : MethodId} {args : Array Value} {below : List Frame} {meth : Method} {c : Code} {Q : State → Prop} {dC : Nat → ClassId} {dI : Nat → Nat → Nat} {cI cJ cZ : ClassId} {A : Nat → Prop} (aH : Nat → Nat) (X : Cx p m c cX1_sink 7 s args wsX1_sink RX1 (dC, dI) (tyl cI cJ cZ) A) (N : Nat) (H_size : Int32) (v1 : Int64) :
    ∀ (n : Nat) (v3 : Int32) (v4 : Int32) (H_items : (Nat → Int64)) (e3 : Int32) (e_H_items : (Nat → Int64)), l_X1_sink_5 N H_size v1 n v3 v4 H_items = some (e3, e_H_items) → ∀ (H : Heap) (locs : List Loc) (ls : Array Slot), Wd (dC, dI) A s.heap H locs (w_H aH cI cJ cZ H_items H_size) → lv_has ls 7 [(0, .ref (aH 0)), (1, .long v1), (3, .int v3), (4, .int v4)] → (∀ (H : Heap) (locs : List Loc) (ls : Array Slot), Wd (dC, dI) A s.heap H locs (w_H aH cI cJ cZ e_H_items H_size) → lv_has ls 7 [(0, .ref (aH 0)), (1, .long v1), (3, .int e3)] → W p l e rm_X1_sink s m args below meth c H locs 0 0 Q (F0 m 97 ls [])) → W p l e rm_X1_sink s m args below meth c H locs 0 0 Q (F0 m 5 ls []) := by
  obtain ⟨hx, hb, hml, hown, hts⟩ := X.1
  have hK := X.2.1
  have hN := X.2.2.2
  intro n
  induction n with
  | zero =>
    intro _ _ _ _ _ hf
    cases hf
  | succ n ih =>
    intro v3 v4 H_items e3 e_H_items hf H locs ls hw hl kx
    rw [l_X1_sink_5] at hf
    refine lv_iload hx hb dX1_sink_5 (lv_at hl 3 rfl) ?_
    refine lv_aload_n hx hb dX1_sink_7 rfl (lv_at hl 0 rfl) ?_
    refine va_get (D := (dC, dI)) (ci := 1) (v := .int H_size) (C := RX1) (T := TX1) (N := 2) hx hb hts i_X1_sink_X1 hown hK hw.1 0 rfl rfl 1 (by decide) (hts _ m_X1_sink_0) (fun _ h9 => h9) rfl dX1_sink_8 ?_
    refine lv_icmp_ge (tgt := 97) hx hb dX1_sink_11 (by decide) (fun b1 => ?_) (fun b1 => ?_)
    · replace hf := it_t hf b1
      cases hf
      exact kx _ _ _ hw (lv_sub hl [0, 1, 2] rfl)
    · replace hf := it_f hf b1
      refine lv_iload hx hb dX1_sink_14 (lv_at hl 3 rfl) ?_
      refine lv_iconst (v := 1) hx hb dX1_sink_16 (by decide) ?_
      refine lv_iadd hx hb dX1_sink_17 ?_
      refine lv_topi (fun x2 ex2 => ?_)
      replace hf := nl_at hf ex2
      refine lv_istore (lv' := [(5, .int x2), (0, .ref (aH 0)), (1, .long v1), (3, .int v3), (4, .int v4)]) hx hb dX1_sink_18 hl (by decide) rfl (fun ls hl => ?_)
      refine lv_iload hx hb dX1_sink_20 (lv_at hl 0 rfl) ?_
      refine lv_aload_n hx hb dX1_sink_22 rfl (lv_at hl 1 rfl) ?_
      refine va_get (D := (dC, dI)) (ci := 1) (v := .int H_size) (C := RX1) (T := TX1) (N := 2) hx hb hts i_X1_sink_X1 hown hK hw.1 0 rfl rfl 1 (by decide) (hts _ m_X1_sink_0) (fun _ h9 => h9) rfl dX1_sink_23 ?_
      obtain ⟨y3, h4, hf⟩ := bd1_ob hf
      refine join_ (nL := 7) (dC, dI) A 54 [.int y3] (w_H aH cI cJ cZ H_items H_size) [(0, .ref (aH 0)), (1, .long v1), (3, .int v3)] (fun H locs ls hw hl => ?_) (fun jn => ?_)
      · refine lv_istore (lv' := [(6, .int y3), (0, .ref (aH 0)), (1, .long v1), (3, .int v3)]) hx hb dX1_sink_54 hl (by decide) rfl (fun ls hl => ?_)
        refine lv_aload_n hx hb dX1_sink_56 rfl (lv_at hl 1 rfl) ?_
        refine va_get (D := (dC, dI)) (ci := 1) (v := .ref (aH 1)) (C := RX1) (T := TX1) (N := 2) hx hb hts i_X1_sink_X1 hown hK hw.1 0 rfl rfl 0 (by decide) (hts _ m_X1_sink_1) (fun _ h9 => h9) rfl dX1_sink_57 ?_
        refine lv_iload hx hb dX1_sink_60 (lv_at hl 0 rfl) ?_
        have g5 := ix_in (gd_l hf)
        replace hf := gd_r hf
        refine va_lald hx hb hK hw.1 1 1 rfl rfl g5 dX1_sink_62 ?_
        refine lv_lload_n hx hb dX1_sink_63 rfl (lv_at hl 2 rfl) ?_
        refine W.lcmp hx hb dX1_sink_64 ?_
        refine lv_if_lt (tgt := 71) hx hb dX1_sink_65 (by decide) (fun b6 => ?_) (fun b6 => ?_)
        · replace b6 := (lc_lt (H_items y3.toNatClampNeg) v1).mp b6
          replace hf := it_t hf b6
          refine lv_aload_n hx hb dX1_sink_71 rfl (lv_at hl 1 rfl) ?_
          refine va_get (D := (dC, dI)) (ci := 1) (v := .ref (aH 1)) (C := RX1) (T := TX1) (N := 2) hx hb hts i_X1_sink_X1 hown hK hw.1 0 rfl rfl 0 (by decide) (hts _ m_X1_sink_1) (fun _ h9 => h9) rfl dX1_sink_72 ?_
          refine lv_iload_n hx hb dX1_sink_75 rfl (lv_at hl 3 rfl) ?_
          refine lv_aload_n hx hb dX1_sink_76 rfl (lv_at hl 1 rfl) ?_
          refine va_get (D := (dC, dI)) (ci := 1) (v := .ref (aH 1)) (C := RX1) (T := TX1) (N := 2) hx hb hts i_X1_sink_X1 hown hK hw.1 0 rfl rfl 0 (by decide) (hts _ m_X1_sink_1) (fun _ h9 => h9) rfl dX1_sink_77 ?_
          refine lv_iload hx hb dX1_sink_80 (lv_at hl 0 rfl) ?_
          have g7 := ix_in (gd_l hf)
          replace hf := gd_r hf
          refine va_lald hx hb hK hw.1 1 1 rfl rfl g7 dX1_sink_82 ?_
          refine lv_topl (fun x8 ex8 => ?_)
          replace hf := nl_at hf ex8
          have g9 := ix_in (gd_l hf)
          replace hf := gd_r hf
          refine g_last hx hb hK hw 1 1 rfl rfl g9 dX1_sink_83 (fun H locs hw => ?_)
          replace hw : Wd (dC, dI) A s.heap H locs (w_H aH cI cJ cZ (vp_updL H_items v3.toNatClampNeg x8) H_size) := hw
          refine lv_iload hx hb dX1_sink_84 (lv_at hl 0 rfl) ?_
          refine lv_istore_n (lv' := [(3, .int y3), (6, .int y3), (0, .ref (aH 0)), (1, .long v1)]) hx hb dX1_sink_86 rfl hl (by decide) rfl (fun ls hl => ?_)
          refine lv_iconst (v := 2) hx hb dX1_sink_87 (by decide) ?_
          refine lv_iload_n hx hb dX1_sink_88 rfl (lv_at hl 0 rfl) ?_
          refine lv_imul hx hb dX1_sink_89 ?_
          refine lv_iconst (v := 1) hx hb dX1_sink_90 (by decide) ?_
          refine lv_iadd hx hb dX1_sink_91 ?_
          refine lv_topi (fun x10 ex10 => ?_)
          replace hf := nl_at hf ex10
          refine lv_istore (lv' := [(4, .int x10), (3, .int y3), (6, .int y3), (0, .ref (aH 0)), (1, .long v1)]) hx hb dX1_sink_92 hl (by decide) rfl (fun ls hl => ?_)
          refine lv_goto (tgt := 5) hx hb dX1_sink_94 (by decide) ?_
          exact ih _ _ _ _ _ hf _ _ _ hw (lv_sub hl [3, 4, 1, 0] rfl) kx
        · replace b6 := mt (lc_lt (H_items y3.toNatClampNeg) v1).mpr b6
          replace hf := it_f hf b6
          refine lv_goto (tgt := 97) hx hb dX1_sink_68 (by decide) ?_
          cases hf
          exact kx _ _ _ hw (lv_sub hl [1, 2, 3] rfl)
      · replace hf := h4
        refine lv_icmp_ge (tgt := 52) hx hb dX1_sink_26 (by decide) (fun b11 => ?_) (fun b11 => ?_)
        · replace hf := it_t hf b11
          refine lv_iload hx hb dX1_sink_52 (lv_at hl 4 rfl) ?_
          cases hf
          exact jn _ _ _ hw (lv_sub hl [1, 2, 3] rfl)
        · replace hf := it_f hf b11
          refine lv_aload_n hx hb dX1_sink_29 rfl (lv_at hl 1 rfl) ?_
          refine va_get (D := (dC, dI)) (ci := 1) (v := .ref (aH 1)) (C := RX1) (T := TX1) (N := 2) hx hb hts i_X1_sink_X1 hown hK hw.1 0 rfl rfl 0 (by decide) (hts _ m_X1_sink_1) (fun _ h9 => h9) rfl dX1_sink_30 ?_
          refine lv_iload hx hb dX1_sink_33 (lv_at hl 0 rfl) ?_
          have g12 := ix_in (gd_l hf)
          replace hf := gd_r hf
          refine va_lald hx hb hK hw.1 1 1 rfl rfl g12 dX1_sink_35 ?_
          refine lv_aload_n hx hb dX1_sink_36 rfl (lv_at hl 1 rfl) ?_
          refine va_get (D := (dC, dI)) (ci := 1) (v := .ref (aH 1)) (C := RX1) (T := TX1) (N := 2) hx hb hts i_X1_sink_X1 hown hK hw.1 0 rfl rfl 0 (by decide) (hts _ m_X1_sink_1) (fun _ h9 => h9) rfl dX1_sink_37 ?_
          refine lv_iload hx hb dX1_sink_40 (lv_at hl 4 rfl) ?_
          have g13 := ix_in (gd_l hf)
          replace hf := gd_r hf
          refine va_lald hx hb hK hw.1 1 1 rfl rfl g13 dX1_sink_42 ?_
          refine W.lcmp hx hb dX1_sink_43 ?_
          refine lv_if_ge (tgt := 52) hx hb dX1_sink_44 (by decide) (fun b14 => ?_) (fun b14 => ?_)
          · replace b14 := (lc_ge (H_items x2.toNatClampNeg) (H_items v4.toNatClampNeg)).mp b14
            replace hf := it_t hf b14
            refine lv_iload hx hb dX1_sink_52 (lv_at hl 4 rfl) ?_
            cases hf
            exact jn _ _ _ hw (lv_sub hl [1, 2, 3] rfl)
          · replace b14 := mt (lc_ge (H_items x2.toNatClampNeg) (H_items v4.toNatClampNeg)).mpr b14
            replace hf := it_f hf b14
            refine lv_iload hx hb dX1_sink_47 (lv_at hl 0 rfl) ?_
            refine lv_goto (tgt := 54) hx hb dX1_sink_49 (by decide) ?_
            cases hf
            exact jn _ _ _ hw (lv_sub hl [1, 2, 3] rfl)
set_option maxHeartbeats 4000000 in
set_option maxRecDepth 100000 in
theorem c_X1_sink (l : Launch) (dC : Nat → ClassId) (dI : Nat → Nat → Nat) (cI cJ cZ : ClassId) (aH : Nat → Nat) (N : Nat) (H_items : (Nat → Int64)) (H_size : Int32) (v1 : Int64) {o_H_items : (Nat → Int64)} (hf : f_X1_sink N H_items H_size v1 = some o_H_items) :
    CtV l yX1_sink wsX1_sink rm_X1_sink (dC, dI) (tyl cI cJ cZ) [.ref (aH 0), .long v1] (w_H aH cI cJ cZ H_items H_size) (w_H aH cI cJ cZ o_H_items H_size) := by
  refine startV (cc := cX1_sink) (maxL := 7) (rt := none) (by decide +kernel) rfl (Nat.le_of_ble_eq_true rfl) ?_
  intro p e s m below meth c A ls X hr hlocks hw hl
  replace X : Cx p m c cX1_sink 7 s _ wsX1_sink RX1 (dC, dI) (tyl cI cJ cZ) A := X
  replace hl : lv_has ls 7 [(0, .ref (aH 0)), (1, .long v1)] := hl
  obtain ⟨hx, hb, hml, hown, hts⟩ := X.1
  have hK := X.2.1
  have hN := X.2.2.2
  unfold f_X1_sink at hf
  refine lv_iconst (v := 0) hx hb dX1_sink_0 (by decide) ?_
  refine lv_istore_n (lv' := [(3, .int 0), (0, .ref (aH 0)), (1, .long v1)]) hx hb dX1_sink_1 rfl hl (by decide) rfl (fun ls hl => ?_)
  refine lv_iconst (v := 1) hx hb dX1_sink_2 (by decide) ?_
  refine lv_istore (lv' := [(4, .int 1), (3, .int 0), (0, .ref (aH 0)), (1, .long v1)]) hx hb dX1_sink_3 hl (by decide) rfl (fun ls hl => ?_)
  obtain ⟨e15, e16, h17, hf⟩ := bd2_ob hf
  refine t_X1_sink_5 aH X N H_size v1 N _ _ _ _ _ h17 _ _ _ hw (lv_sub hl [2, 3, 1, 0] rfl) (fun H locs ls hw hl => ?_)
  refine lv_aload_n hx hb dX1_sink_97 rfl (lv_at hl 0 rfl) ?_
  refine va_get (D := (dC, dI)) (ci := 1) (v := .ref (aH 1)) (C := RX1) (T := TX1) (N := 2) hx hb hts i_X1_sink_X1 hown hK hw.1 0 rfl rfl 0 (by decide) (hts _ m_X1_sink_1) (fun _ h9 => h9) rfl dX1_sink_98 ?_
  refine lv_iload_n hx hb dX1_sink_101 rfl (lv_at hl 2 rfl) ?_
  refine lv_lload_n hx hb dX1_sink_102 rfl (lv_at hl 1 rfl) ?_
  have g18 := ix_in (gd_l hf)
  replace hf := gd_r hf
  refine g_last hx hb hK hw 1 1 rfl rfl g18 dX1_sink_103 (fun H locs hw => ?_)
  replace hw : Wd (dC, dI) A s.heap H locs (w_H aH cI cJ cZ (vp_updL e16 e15.toNatClampNeg v1) H_size) := hw
  cases hf
  exact endV X hr hlocks hw dX1_sink_104
def rm_X1_takeLeast : Room := { frames := 1, cells := 0, slots := 0, locals := 26 }
set_option maxRecDepth 20000 in
theorem i_X1_takeLeast_X1 : ∀ w ∈ u_ws RX1 TX1 2, w ∈ wsX1_takeLeast := by decide +kernel
set_option maxRecDepth 20000 in
theorem m_X1_takeLeast_0 : Cond.fieldLink RX1 15 "GreatSort$Heap" "size" "I" ∈ wsX1_takeLeast := by decide +kernel
set_option maxRecDepth 20000 in
theorem m_X1_takeLeast_1 : Cond.fieldLink RX1 9 "GreatSort$Heap" "items" "[J" ∈ wsX1_takeLeast := by decide +kernel
set_option maxHeartbeats 4000000 in
set_option maxRecDepth 100000 in
theorem c_X1_takeLeast (l : Launch) (dC : Nat → ClassId) (dI : Nat → Nat → Nat) (cI cJ cZ : ClassId) (aH : Nat → Nat) (N : Nat) (H_items : (Nat → Int64)) (H_size : Int32)  {r : Int64} {o_H_items : (Nat → Int64)} {o_H_size : Int32} (hf : f_X1_takeLeast N H_items H_size  = some (r, o_H_items, o_H_size)) :
    CtL l yX1_takeLeast wsX1_takeLeast rm_X1_takeLeast (dC, dI) (tyl cI cJ cZ) [.ref (aH 0)] (w_H aH cI cJ cZ H_items H_size) (w_H aH cI cJ cZ o_H_items o_H_size) r := by
  refine startL (cc := cX1_takeLeast) (maxL := 3) (rt := (some .long)) (by decide +kernel) rfl (Nat.le_of_ble_eq_true rfl) ?_
  intro p e s m below meth c A ls X hr hlocks hw hl
  replace X : Cx p m c cX1_takeLeast 3 s _ wsX1_takeLeast RX1 (dC, dI) (tyl cI cJ cZ) A := X
  replace hl : lv_has ls 3 [(0, .ref (aH 0))] := hl
  obtain ⟨hx, hb, hml, hown, hts⟩ := X.1
  have hK := X.2.1
  have hN := X.2.2.2
  unfold f_X1_takeLeast at hf
  refine lv_aload_n hx hb dX1_takeLeast_0 rfl (lv_at hl 0 rfl) ?_
  refine va_get (D := (dC, dI)) (ci := 1) (v := .int H_size) (C := RX1) (T := TX1) (N := 2) hx hb hts i_X1_takeLeast_X1 hown hK hw.1 0 rfl rfl 1 (by decide) (hts _ m_X1_takeLeast_0) (fun _ h9 => h9) rfl dX1_takeLeast_1 ?_
  refine lv_if_ne (tgt := 9) hx hb dX1_takeLeast_4 (by decide) (fun b1 => ?_) (fun b1 => ?_)
  · replace hf := it_f hf b1
    refine lv_aload_n hx hb dX1_takeLeast_9 rfl (lv_at hl 0 rfl) ?_
    refine va_get (D := (dC, dI)) (ci := 1) (v := .ref (aH 1)) (C := RX1) (T := TX1) (N := 2) hx hb hts i_X1_takeLeast_X1 hown hK hw.1 0 rfl rfl 0 (by decide) (hts _ m_X1_takeLeast_1) (fun _ h9 => h9) rfl dX1_takeLeast_10 ?_
    refine lv_iconst (v := 0) hx hb dX1_takeLeast_13 (by decide) ?_
    have g2 := ix_in (gd_l hf)
    replace hf := gd_r hf
    refine va_lald hx hb hK hw.1 1 1 rfl rfl g2 dX1_takeLeast_14 ?_
    refine lv_topl (fun x3 ex3 => ?_)
    replace hf := nl_at hf ex3
    refine lv_lstore_n (lv' := [(1, .long x3), (0, .ref (aH 0))]) hx hb dX1_takeLeast_15 rfl hl (by decide) rfl (fun ls hl => ?_)
    refine lv_aload_n hx hb dX1_takeLeast_16 rfl (lv_at hl 1 rfl) ?_
    refine lv_dup hx hb dX1_takeLeast_17 rfl ?_
    refine va_get (D := (dC, dI)) (ci := 1) (v := .int H_size) (C := RX1) (T := TX1) (N := 2) hx hb hts i_X1_takeLeast_X1 hown hK hw.1 0 rfl rfl 1 (by decide) (hts _ m_X1_takeLeast_0) (fun _ h9 => h9) rfl dX1_takeLeast_18 ?_
    refine lv_iconst (v := 1) hx hb dX1_takeLeast_21 (by decide) ?_
    refine lv_isub hx hb dX1_takeLeast_22 ?_
    refine lv_topi (fun x4 ex4 => ?_)
    replace hf := nl_at hf ex4
    refine g_put (D := (dC, dI)) (ci := 1) (v := .int x4) (ty := .int) (C := RX1) (T := TX1) (N := 2) hx hb hts i_X1_takeLeast_X1 tyX1 tyX1_ok nmX1 hown hK hw 0 rfl rfl 1 (by decide) (hts _ m_X1_takeLeast_0) (fun _ h9 => h9) rfl (by decide +kernel) rfl rfl (Nat.le_of_ble_eq_true rfl) dX1_takeLeast_23 (fun H locs hw => ?_)
    replace hw : Wd (dC, dI) A s.heap H locs (w_H aH cI cJ cZ H_items x4) := hw
    refine lv_aload_n hx hb dX1_takeLeast_26 rfl (lv_at hl 1 rfl) ?_
    refine lv_aload_n hx hb dX1_takeLeast_27 rfl (lv_at hl 1 rfl) ?_
    refine va_get (D := (dC, dI)) (ci := 1) (v := .ref (aH 1)) (C := RX1) (T := TX1) (N := 2) hx hb hts i_X1_takeLeast_X1 hown hK hw.1 0 rfl rfl 0 (by decide) (hts _ m_X1_takeLeast_1) (fun _ h9 => h9) rfl dX1_takeLeast_28 ?_
    refine lv_aload_n hx hb dX1_takeLeast_31 rfl (lv_at hl 1 rfl) ?_
    refine va_get (D := (dC, dI)) (ci := 1) (v := .int x4) (C := RX1) (T := TX1) (N := 2) hx hb hts i_X1_takeLeast_X1 hown hK hw.1 0 rfl rfl 1 (by decide) (hts _ m_X1_takeLeast_0) (fun _ h9 => h9) rfl dX1_takeLeast_32 ?_
    have g5 := ix_in (gd_l hf)
    replace hf := gd_r hf
    refine va_lald hx hb hK hw.1 1 1 rfl rfl g5 dX1_takeLeast_35 ?_
    obtain ⟨c6, h7, hf⟩ := bd1_ob hf
    refine clFV (As := [.long (H_items x4.toNatClampNeg)]) (rest := []) X (c_X1_sink l dC dI cI cJ cZ aH N H_items x4 (H_items x4.toNatClampNeg) h7) (cwV 1 hts gX1_takeLeast_X1_sink rfl rfl rfl (by decide +kernel) ⟨Nat.le_of_ble_eq_true rfl, Nat.le_of_ble_eq_true rfl⟩) (ci := 1) (k0 := 0) rfl rfl rfl hw rfl rfl hl.1 rfl (Nat.le_of_ble_eq_true rfl) dX1_takeLeast_36 ⟨Nat.zero_le _, Nat.zero_le _⟩ (fun H locs hw => ?_)
    refine lv_lload_n hx hb dX1_takeLeast_39 rfl (lv_at hl 0 rfl) ?_
    cases hf
    exact endL X hr hlocks rfl hw dX1_takeLeast_40
  · replace hf := it_t hf b1
    refine lv_lconst (v := 0) hx hb dX1_takeLeast_7 (by decide) ?_
    cases hf
    exact endL X hr hlocks rfl hw dX1_takeLeast_8
