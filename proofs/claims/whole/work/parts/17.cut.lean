def rm_X0_forget : Room := { frames := 0, cells := 0, slots := 0, locals := 0 }
set_option maxRecDepth 20000 in
theorem i_X0_forget_X0 : ∀ w ∈ u_ws RX0 TX0 15, w ∈ wsX0_forget := by decide +kernel
set_option maxRecDepth 20000 in
theorem m_X0_forget_0 : Cond.fieldLink RX0 40 "GreatSort$Cut" "parts" "I" ∈ wsX0_forget := by decide +kernel
set_option maxRecDepth 20000 in
theorem m_X0_forget_1 : Cond.fieldLink RX0 44 "GreatSort$Cut" "samples" "I" ∈ wsX0_forget := by decide +kernel
set_option maxRecDepth 20000 in
theorem m_X0_forget_2 : Cond.fieldLink RX0 47 "GreatSort$Cut" "bound" "I" ∈ wsX0_forget := by decide +kernel
set_option maxRecDepth 20000 in
theorem m_X0_forget_3 : Cond.fieldLink RX0 50 "GreatSort$Cut" "ticks" "I" ∈ wsX0_forget := by decide +kernel
set_option maxRecDepth 20000 in
theorem m_X0_forget_4 : Cond.fieldLink RX0 53 "GreatSort$Cut" "mergedInAll" "I" ∈ wsX0_forget := by decide +kernel
set_option maxRecDepth 20000 in
theorem m_X0_forget_5 : Cond.fieldLink RX0 56 "GreatSort$Cut" "mergedAgain" "I" ∈ wsX0_forget := by decide +kernel
set_option maxRecDepth 20000 in
theorem m_X0_forget_6 : Cond.fieldLink RX0 37 "GreatSort$Cut" "mergedBy" "[I" ∈ wsX0_forget := by decide +kernel
set_option maxHeartbeats 4000000 in
set_option maxRecDepth 100000 in
theorem t_X0_forget_32 {p : Program} {l : Launch} {e : Env} {s : State} {m : MethodId} {args : Array Value} {below : List Frame} {meth : Method} {c : Code} {Q : State → Prop} {dC : Nat → ClassId} {dI : Nat → Nat → Nat} {cI cJ cZ : ClassId} {A : Nat → Prop} (aC : Nat → Nat) (X : Cx p m c cX0_forget 2 s args wsX0_forget RX0 (dC, dI) (tyl cI cJ cZ) A) (N : Nat) (C_sampled : (Nat → Int32)) (C_sampleStandings : (Nat → Int32)) (C_sizes : (Nat → Int32)) (C_ends : (Nat → Int32)) (C_lies : (Nat → Int32)) (C_merged : (Nat → Int32)) (C_reached : (Nat → Int32)) (C_done : (Nat → Int32)) (C_parts : Int32) (C_samples : Int32) (C_bound : Int32) (C_ticks : Int32) (C_mergedInAll : Int32) (C_mergedAgain : Int32)  :
    ∀ (n : Nat) (v1 : Int32) (C_mergedBy : (Nat → Int32)) (e_C_mergedBy : (Nat → Int32)), l_X0_forget_32 N  n v1 C_mergedBy = some e_C_mergedBy → ∀ (H : Heap) (locs : List Loc) (ls : Array Slot), Wd (dC, dI) A s.heap H locs (w_C aC cI cJ cZ C_sampled C_sampleStandings C_sizes C_ends C_lies C_merged C_reached C_done C_mergedBy C_parts C_samples C_bound C_ticks C_mergedInAll C_mergedAgain) → lv_has ls 2 [(0, .ref (aC 0)), (1, .int v1)] → (∀ (H : Heap) (locs : List Loc) (ls : Array Slot), Wd (dC, dI) A s.heap H locs (w_C aC cI cJ cZ C_sampled C_sampleStandings C_sizes C_ends C_lies C_merged C_reached C_done e_C_mergedBy C_parts C_samples C_bound C_ticks C_mergedInAll C_mergedAgain) → lv_has ls 2 [] → W p l e rm_X0_forget s m args below meth c H locs 0 0 Q (F0 m 51 ls [])) → W p l e rm_X0_forget s m args below meth c H locs 0 0 Q (F0 m 32 ls []) := by
  obtain ⟨hx, hb, hml, hown, hts⟩ := X.1
  have hK := X.2.1
  have hN := X.2.2.2
  intro n
  induction n with
  | zero =>
    intro _ _ _ hf
    cases hf
  | succ n ih =>
    intro v1 C_mergedBy e_C_mergedBy hf H locs ls hw hl kx
    rw [l_X0_forget_32] at hf
    refine lv_iload_n hx hb dX0_forget_32 rfl (lv_at hl 1 rfl) ?_
    refine lv_bipush (v := 8) hx hb dX0_forget_33 (by decide) ?_
    refine lv_icmp_ge (tgt := 51) hx hb dX0_forget_35 (by decide) (fun b1 => ?_) (fun b1 => ?_)
    · replace hf := it_t hf b1
      cases hf
      exact kx _ _ _ hw (lv_sub hl [] rfl)
    · replace hf := it_f hf b1
      refine lv_aload_n hx hb dX0_forget_38 rfl (lv_at hl 0 rfl) ?_
      refine va_get (D := (dC, dI)) (ci := 0) (v := .ref (aC 9)) (C := RX0) (T := TX0) (N := 15) hx hb hts i_X0_forget_X0 hown hK hw.1 0 rfl rfl 8 (by decide) (hts _ m_X0_forget_6) (fun _ h9 => h9) rfl dX0_forget_39 ?_
      refine lv_iload_n hx hb dX0_forget_42 rfl (lv_at hl 1 rfl) ?_
      refine lv_iconst (v := 0) hx hb dX0_forget_43 (by decide) ?_
      have g2 := ix_in (gd_l hf)
      replace hf := gd_r hf
      refine g_iast hx hb hK hw 9 0 rfl rfl g2 dX0_forget_44 (fun H locs hw => ?_)
      replace hw : Wd (dC, dI) A s.heap H locs (w_C aC cI cJ cZ C_sampled C_sampleStandings C_sizes C_ends C_lies C_merged C_reached C_done (upd C_mergedBy v1.toNatClampNeg 0) C_parts C_samples C_bound C_ticks C_mergedInAll C_mergedAgain) := hw
      obtain ⟨x3, ex3⟩ : ∃ y : Int32, y = v1 + 1 := ⟨_, rfl⟩
      replace hf := nl_at hf ex3
      refine lv_iinc (v := x3) (lv' := [(1, .int x3), (0, .ref (aC 0))]) hx hb dX0_forget_45 hl (k := 1) rfl (by rw [ex3]; rfl) (by decide) rfl (fun ls hl => ?_)
      refine lv_goto (tgt := 32) hx hb dX0_forget_48 (by decide) ?_
      exact ih _ _ _ hf _ _ _ hw (lv_sub hl [1, 0] rfl) kx
set_option maxHeartbeats 4000000 in
set_option maxRecDepth 100000 in
theorem c_X0_forget (l : Launch) (dC : Nat → ClassId) (dI : Nat → Nat → Nat) (cI cJ cZ : ClassId) (aC : Nat → Nat) (N : Nat) (C_sampled : (Nat → Int32)) (C_sampleStandings : (Nat → Int32)) (C_sizes : (Nat → Int32)) (C_ends : (Nat → Int32)) (C_lies : (Nat → Int32)) (C_merged : (Nat → Int32)) (C_reached : (Nat → Int32)) (C_done : (Nat → Int32)) (C_mergedBy : (Nat → Int32)) (C_parts : Int32) (C_samples : Int32) (C_bound : Int32) (C_ticks : Int32) (C_mergedInAll : Int32) (C_mergedAgain : Int32)  {o_C_mergedBy : (Nat → Int32)} {o_C_parts : Int32} {o_C_samples : Int32} {o_C_bound : Int32} {o_C_ticks : Int32} {o_C_mergedInAll : Int32} {o_C_mergedAgain : Int32} (hf : f_X0_forget N C_mergedBy C_parts C_samples C_bound C_ticks C_mergedInAll C_mergedAgain  = some (o_C_mergedBy, o_C_parts, o_C_samples, o_C_bound, o_C_ticks, o_C_mergedInAll, o_C_mergedAgain)) :
    CtV l yX0_forget wsX0_forget rm_X0_forget (dC, dI) (tyl cI cJ cZ) [.ref (aC 0)] (w_C aC cI cJ cZ C_sampled C_sampleStandings C_sizes C_ends C_lies C_merged C_reached C_done C_mergedBy C_parts C_samples C_bound C_ticks C_mergedInAll C_mergedAgain) (w_C aC cI cJ cZ C_sampled C_sampleStandings C_sizes C_ends C_lies C_merged C_reached C_done o_C_mergedBy o_C_parts o_C_samples o_C_bound o_C_ticks o_C_mergedInAll o_C_mergedAgain) := by
  refine startV (cc := cX0_forget) (maxL := 2) (rt := none) (by decide +kernel) rfl (Nat.le_of_ble_eq_true rfl) ?_
  intro p e s m below meth c A ls X hr hlocks hw hl
  replace X : Cx p m c cX0_forget 2 s _ wsX0_forget RX0 (dC, dI) (tyl cI cJ cZ) A := X
  replace hl : lv_has ls 2 [(0, .ref (aC 0))] := hl
  obtain ⟨hx, hb, hml, hown, hts⟩ := X.1
  have hK := X.2.1
  have hN := X.2.2.2
  unfold f_X0_forget at hf
  refine lv_aload_n hx hb dX0_forget_0 rfl (lv_at hl 0 rfl) ?_
  refine lv_iconst (v := 0) hx hb dX0_forget_1 (by decide) ?_
  refine g_put (D := (dC, dI)) (ci := 0) (v := .int 0) (ty := .int) (C := RX0) (T := TX0) (N := 15) hx hb hts i_X0_forget_X0 tyX0 tyX0_ok nmX0 hown hK hw 0 rfl rfl 9 (by decide) (hts _ m_X0_forget_0) (fun _ h9 => h9) rfl (by decide +kernel) rfl rfl (Nat.le_of_ble_eq_true rfl) dX0_forget_2 (fun H locs hw => ?_)
  replace hw : Wd (dC, dI) A s.heap H locs (w_C aC cI cJ cZ C_sampled C_sampleStandings C_sizes C_ends C_lies C_merged C_reached C_done C_mergedBy 0 C_samples C_bound C_ticks C_mergedInAll C_mergedAgain) := hw
  refine lv_aload_n hx hb dX0_forget_5 rfl (lv_at hl 0 rfl) ?_
  refine lv_iconst (v := 0) hx hb dX0_forget_6 (by decide) ?_
  refine g_put (D := (dC, dI)) (ci := 0) (v := .int 0) (ty := .int) (C := RX0) (T := TX0) (N := 15) hx hb hts i_X0_forget_X0 tyX0 tyX0_ok nmX0 hown hK hw 0 rfl rfl 10 (by decide) (hts _ m_X0_forget_1) (fun _ h9 => h9) rfl (by decide +kernel) rfl rfl (Nat.le_of_ble_eq_true rfl) dX0_forget_7 (fun H locs hw => ?_)
  replace hw : Wd (dC, dI) A s.heap H locs (w_C aC cI cJ cZ C_sampled C_sampleStandings C_sizes C_ends C_lies C_merged C_reached C_done C_mergedBy 0 0 C_bound C_ticks C_mergedInAll C_mergedAgain) := hw
  refine lv_aload_n hx hb dX0_forget_10 rfl (lv_at hl 0 rfl) ?_
  refine lv_iconst (v := 0) hx hb dX0_forget_11 (by decide) ?_
  refine g_put (D := (dC, dI)) (ci := 0) (v := .int 0) (ty := .int) (C := RX0) (T := TX0) (N := 15) hx hb hts i_X0_forget_X0 tyX0 tyX0_ok nmX0 hown hK hw 0 rfl rfl 11 (by decide) (hts _ m_X0_forget_2) (fun _ h9 => h9) rfl (by decide +kernel) rfl rfl (Nat.le_of_ble_eq_true rfl) dX0_forget_12 (fun H locs hw => ?_)
  replace hw : Wd (dC, dI) A s.heap H locs (w_C aC cI cJ cZ C_sampled C_sampleStandings C_sizes C_ends C_lies C_merged C_reached C_done C_mergedBy 0 0 0 C_ticks C_mergedInAll C_mergedAgain) := hw
  refine lv_aload_n hx hb dX0_forget_15 rfl (lv_at hl 0 rfl) ?_
  refine lv_iconst (v := 0) hx hb dX0_forget_16 (by decide) ?_
  refine g_put (D := (dC, dI)) (ci := 0) (v := .int 0) (ty := .int) (C := RX0) (T := TX0) (N := 15) hx hb hts i_X0_forget_X0 tyX0 tyX0_ok nmX0 hown hK hw 0 rfl rfl 12 (by decide) (hts _ m_X0_forget_3) (fun _ h9 => h9) rfl (by decide +kernel) rfl rfl (Nat.le_of_ble_eq_true rfl) dX0_forget_17 (fun H locs hw => ?_)
  replace hw : Wd (dC, dI) A s.heap H locs (w_C aC cI cJ cZ C_sampled C_sampleStandings C_sizes C_ends C_lies C_merged C_reached C_done C_mergedBy 0 0 0 0 C_mergedInAll C_mergedAgain) := hw
  refine lv_aload_n hx hb dX0_forget_20 rfl (lv_at hl 0 rfl) ?_
  refine lv_iconst (v := 0) hx hb dX0_forget_21 (by decide) ?_
  refine g_put (D := (dC, dI)) (ci := 0) (v := .int 0) (ty := .int) (C := RX0) (T := TX0) (N := 15) hx hb hts i_X0_forget_X0 tyX0 tyX0_ok nmX0 hown hK hw 0 rfl rfl 13 (by decide) (hts _ m_X0_forget_4) (fun _ h9 => h9) rfl (by decide +kernel) rfl rfl (Nat.le_of_ble_eq_true rfl) dX0_forget_22 (fun H locs hw => ?_)
  replace hw : Wd (dC, dI) A s.heap H locs (w_C aC cI cJ cZ C_sampled C_sampleStandings C_sizes C_ends C_lies C_merged C_reached C_done C_mergedBy 0 0 0 0 0 C_mergedAgain) := hw
  refine lv_aload_n hx hb dX0_forget_25 rfl (lv_at hl 0 rfl) ?_
  refine lv_iconst (v := 0) hx hb dX0_forget_26 (by decide) ?_
  refine g_put (D := (dC, dI)) (ci := 0) (v := .int 0) (ty := .int) (C := RX0) (T := TX0) (N := 15) hx hb hts i_X0_forget_X0 tyX0 tyX0_ok nmX0 hown hK hw 0 rfl rfl 14 (by decide) (hts _ m_X0_forget_5) (fun _ h9 => h9) rfl (by decide +kernel) rfl rfl (Nat.le_of_ble_eq_true rfl) dX0_forget_27 (fun H locs hw => ?_)
  replace hw : Wd (dC, dI) A s.heap H locs (w_C aC cI cJ cZ C_sampled C_sampleStandings C_sizes C_ends C_lies C_merged C_reached C_done C_mergedBy 0 0 0 0 0 0) := hw
  refine lv_iconst (v := 0) hx hb dX0_forget_30 (by decide) ?_
  refine lv_istore_n (lv' := [(1, .int 0), (0, .ref (aC 0))]) hx hb dX0_forget_31 rfl hl (by decide) rfl (fun ls hl => ?_)
  obtain ⟨e4, h5, hf⟩ := bd1_ob hf
  refine t_X0_forget_32 aC X N C_sampled C_sampleStandings C_sizes C_ends C_lies C_merged C_reached C_done 0 0 0 0 0 0 N _ _ _ h5 _ _ _ hw (lv_sub hl [1, 0] rfl) (fun H locs ls hw hl => ?_)
  cases hf
  exact endV X hr hlocks hw dX0_forget_51
def rm_X0_takeSamples : Room := { frames := 4, cells := 0, slots := 0, locals := 86 }
set_option maxRecDepth 20000 in
theorem i_X0_takeSamples_X0 : ∀ w ∈ u_ws RX0 TX0 15, w ∈ wsX0_takeSamples := by decide +kernel
set_option maxRecDepth 20000 in
theorem i_X0_takeSamples_X5 : ∀ w ∈ u_ws RX5 TX5 10, w ∈ wsX0_takeSamples := by decide +kernel
set_option maxRecDepth 20000 in
theorem m_X0_takeSamples_0 : Cond.fieldLink RX0 9 "GreatSort$Cut" "sampled" "[Z" ∈ wsX0_takeSamples := by decide +kernel
set_option maxRecDepth 20000 in
theorem m_X0_takeSamples_1 : Cond.fieldLink RX0 15 "GreatSort$Cut" "sampleStandings" "[I" ∈ wsX0_takeSamples := by decide +kernel
set_option maxRecDepth 20000 in
theorem m_X0_takeSamples_2 : Cond.fieldLink RX0 44 "GreatSort$Cut" "samples" "I" ∈ wsX0_takeSamples := by decide +kernel
set_option maxHeartbeats 4000000 in
set_option maxRecDepth 100000 in
theorem t_X0_takeSamples_2 {p : Program} {l : Launch} {e : Env} {s : State} {m : MethodId} {args : Array Value} {below : List Frame} {meth : Method} {c : Code} {Q : State → Prop} {dC : Nat → ClassId} {dI : Nat → Nat → Nat} {cI cJ cZ : ClassId} {A : Nat → Prop} (aR aC : Nat → Nat) (X : Cx p m c cX0_takeSamples 7 s args wsX0_takeSamples RX0 (dC, dI) (tyl cI cJ cZ) A) (N : Nat) (R_members : (Nat → Int32)) (R_starts : (Nat → Int32)) (R_inOrder : (Nat → Int32)) (R_standing : (Nat → Int32)) (R_heads : (Nat → Int32)) (R_tails : (Nat → Int32)) (R_rowsInAll : Int32) (R_made : Int32) (R_all : Int32) (R_filled : Int32) (C_sampleStandings : (Nat → Int32)) (C_sizes : (Nat → Int32)) (C_ends : (Nat → Int32)) (C_lies : (Nat → Int32)) (C_merged : (Nat → Int32)) (C_reached : (Nat → Int32)) (C_done : (Nat → Int32)) (C_mergedBy : (Nat → Int32)) (C_parts : Int32) (C_samples : Int32) (C_bound : Int32) (C_ticks : Int32) (C_mergedInAll : Int32) (C_mergedAgain : Int32) (v2 : Int32) :
    ∀ (n : Nat) (v3 : Int32) (C_sampled : (Nat → Int32)) (e_C_sampled : (Nat → Int32)), l_X0_takeSamples_2 N  n v3 C_sampled = some e_C_sampled → ∀ (H : Heap) (locs : List Loc) (ls : Array Slot), Wd (dC, dI) A s.heap H locs (w_RC aR aC cI cJ cZ R_members R_starts R_inOrder R_standing R_heads R_tails R_rowsInAll R_made R_all R_filled C_sampled C_sampleStandings C_sizes C_ends C_lies C_merged C_reached C_done C_mergedBy C_parts C_samples C_bound C_ticks C_mergedInAll C_mergedAgain) → lv_has ls 7 [(0, .ref (aC 0)), (1, .ref (aR 0)), (2, .int v2), (3, .int v3)] → (∀ (H : Heap) (locs : List Loc) (ls : Array Slot), Wd (dC, dI) A s.heap H locs (w_RC aR aC cI cJ cZ R_members R_starts R_inOrder R_standing R_heads R_tails R_rowsInAll R_made R_all R_filled e_C_sampled C_sampleStandings C_sizes C_ends C_lies C_merged C_reached C_done C_mergedBy C_parts C_samples C_bound C_ticks C_mergedInAll C_mergedAgain) → lv_has ls 7 [(0, .ref (aC 0)), (1, .ref (aR 0)), (2, .int v2)] → W p l e rm_X0_takeSamples s m args below meth c H locs 0 0 Q (F0 m 22 ls [])) → W p l e rm_X0_takeSamples s m args below meth c H locs 0 0 Q (F0 m 2 ls []) := by
  obtain ⟨hx, hb, hml, hown, hts⟩ := X.1
  have hK := X.2.1
  have hN := X.2.2.2
  intro n
  induction n with
  | zero =>
    intro _ _ _ hf
    cases hf
  | succ n ih =>
    intro v3 C_sampled e_C_sampled hf H locs ls hw hl kx
    rw [l_X0_takeSamples_2] at hf
    refine lv_iload_n hx hb dX0_takeSamples_2 rfl (lv_at hl 3 rfl) ?_
    refine lv_sipush (v := 400) hx hb dX0_takeSamples_3 (by decide) ?_
    refine lv_icmp_ge (tgt := 22) hx hb dX0_takeSamples_6 (by decide) (fun b1 => ?_) (fun b1 => ?_)
    · replace hf := it_t hf b1
      cases hf
      exact kx _ _ _ hw (lv_sub hl [0, 1, 2] rfl)
    · replace hf := it_f hf b1
      refine lv_aload_n hx hb dX0_takeSamples_9 rfl (lv_at hl 0 rfl) ?_
      refine va_get (D := (dC, dI)) (ci := 0) (v := .ref (aC 1)) (C := RX0) (T := TX0) (N := 15) hx hb hts i_X0_takeSamples_X0 hown hK hw.1 7 rfl rfl 0 (by decide) (hts _ m_X0_takeSamples_0) (fun _ h9 => h9) rfl dX0_takeSamples_10 ?_
      refine lv_iload_n hx hb dX0_takeSamples_13 rfl (lv_at hl 3 rfl) ?_
      refine lv_iconst (v := 0) hx hb dX0_takeSamples_14 (by decide) ?_
      have g2 := ix_in (gd_l hf)
      replace hf := gd_r hf
      refine g_zast hx hb hK hw 8 2 rfl rfl g2 dX0_takeSamples_15 (fun H locs hw => ?_)
      replace hw : Wd (dC, dI) A s.heap H locs (w_RC aR aC cI cJ cZ R_members R_starts R_inOrder R_standing R_heads R_tails R_rowsInAll R_made R_all R_filled (upd C_sampled v3.toNatClampNeg (vp_nar .boolean 0)) C_sampleStandings C_sizes C_ends C_lies C_merged C_reached C_done C_mergedBy C_parts C_samples C_bound C_ticks C_mergedInAll C_mergedAgain) := hw
      obtain ⟨x3, ex3⟩ : ∃ y : Int32, y = v3 + 1 := ⟨_, rfl⟩
      replace hf := nl_at hf ex3
      refine lv_iinc (v := x3) (lv' := [(3, .int x3), (0, .ref (aC 0)), (1, .ref (aR 0)), (2, .int v2)]) hx hb dX0_takeSamples_16 hl (k := 3) rfl (by rw [ex3]; rfl) (by decide) rfl (fun ls hl => ?_)
      refine lv_goto (tgt := 2) hx hb dX0_takeSamples_19 (by decide) ?_
      exact ih _ _ _ hf _ _ _ hw (lv_sub hl [1, 2, 3, 0] rfl) kx
set_option maxHeartbeats 4000000 in
set_option maxRecDepth 100000 in
theorem t_X0_takeSamples_44 {p : Program} {l : Launch} {e : Env} {s : State} {m : MethodId} {args : Array Value} {below : List Frame} {meth : Method} {c : Code} {Q : State → Prop} {dC : Nat → ClassId} {dI : Nat → Nat → Nat} {cI cJ cZ : ClassId} {A : Nat → Prop} (aR aC : Nat → Nat) (X : Cx p m c cX0_takeSamples 7 s args wsX0_takeSamples RX0 (dC, dI) (tyl cI cJ cZ) A) (N : Nat) (R_members : (Nat → Int32)) (R_starts : (Nat → Int32)) (R_inOrder : (Nat → Int32)) (R_standing : (Nat → Int32)) (R_heads : (Nat → Int32)) (R_tails : (Nat → Int32)) (R_rowsInAll : Int32) (R_made : Int32) (R_all : Int32) (R_filled : Int32) (C_sampleStandings : (Nat → Int32)) (C_sizes : (Nat → Int32)) (C_ends : (Nat → Int32)) (C_lies : (Nat → Int32)) (C_merged : (Nat → Int32)) (C_reached : (Nat → Int32)) (C_done : (Nat → Int32)) (C_mergedBy : (Nat → Int32)) (C_parts : Int32) (C_samples : Int32) (C_bound : Int32) (C_ticks : Int32) (C_mergedInAll : Int32) (C_mergedAgain : Int32) (v2 : Int32) (v3 : Int32) (v4 : Int32) :
    ∀ (n : Nat) (v5 : Int32) (C_sampled : (Nat → Int32)) (e_C_sampled : (Nat → Int32)), l_X0_takeSamples_44 N R_members R_starts R_standing R_rowsInAll R_all v2 v3 v4 n v5 C_sampled = some e_C_sampled → ∀ (H : Heap) (locs : List Loc) (ls : Array Slot), Wd (dC, dI) A s.heap H locs (w_RC aR aC cI cJ cZ R_members R_starts R_inOrder R_standing R_heads R_tails R_rowsInAll R_made R_all R_filled C_sampled C_sampleStandings C_sizes C_ends C_lies C_merged C_reached C_done C_mergedBy C_parts C_samples C_bound C_ticks C_mergedInAll C_mergedAgain) → lv_has ls 7 [(0, .ref (aC 0)), (1, .ref (aR 0)), (2, .int v2), (3, .int v3), (4, .int v4), (5, .int v5)] → (∀ (H : Heap) (locs : List Loc) (ls : Array Slot), Wd (dC, dI) A s.heap H locs (w_RC aR aC cI cJ cZ R_members R_starts R_inOrder R_standing R_heads R_tails R_rowsInAll R_made R_all R_filled e_C_sampled C_sampleStandings C_sizes C_ends C_lies C_merged C_reached C_done C_mergedBy C_parts C_samples C_bound C_ticks C_mergedInAll C_mergedAgain) → lv_has ls 7 [(0, .ref (aC 0)), (1, .ref (aR 0)), (2, .int v2), (3, .int v3)] → W p l e rm_X0_takeSamples s m args below meth c H locs 0 0 Q (F0 m 87 ls [])) → W p l e rm_X0_takeSamples s m args below meth c H locs 0 0 Q (F0 m 44 ls []) := by
  obtain ⟨hx, hb, hml, hown, hts⟩ := X.1
  have hK := X.2.1
  have hN := X.2.2.2
  intro n
  induction n with
  | zero =>
    intro _ _ _ hf
    cases hf
  | succ n ih =>
    intro v5 C_sampled e_C_sampled hf H locs ls hw hl kx
    rw [l_X0_takeSamples_44] at hf
    refine lv_iload hx hb dX0_takeSamples_44 (lv_at hl 5 rfl) ?_
    refine lv_iload hx hb dX0_takeSamples_46 (lv_at hl 4 rfl) ?_
    refine lv_icmp_ge (tgt := 87) hx hb dX0_takeSamples_48 (by decide) (fun b10 => ?_) (fun b10 => ?_)
    · replace hf := it_t hf b10
      cases hf
      exact kx _ _ _ hw (lv_sub hl [0, 1, 2, 3] rfl)
    · replace hf := it_f hf b10
      refine lv_aload_n hx hb dX0_takeSamples_51 rfl (lv_at hl 1 rfl) ?_
      refine lv_aload_n hx hb dX0_takeSamples_52 rfl (lv_at hl 1 rfl) ?_
      refine lv_iload_n hx hb dX0_takeSamples_53 rfl (lv_at hl 3 rfl) ?_
      refine lv_iload hx hb dX0_takeSamples_54 (lv_at hl 5 rfl) ?_
      obtain ⟨r11, h12, hf⟩ := bd1_ob hf
      refine clVI (As := [.int v3, .int v5]) (rest := [.ref (aR 0)]) X (c_X5_rowIn l dC dI cI cJ cZ aR N R_members R_starts R_inOrder R_standing R_heads R_tails R_rowsInAll R_made R_all R_filled v3 v5 h12) (cwV 2 hts gX0_takeSamples_X5_rowIn rfl rfl rfl (by decide +kernel) ⟨Nat.le_of_ble_eq_true rfl, Nat.le_of_ble_eq_true rfl⟩) (ci := 5) (k0 := 0) rfl rfl rfl hw [0, 1, 2, 3, 4, 5, 6] rfl rfl rfl rfl hl.1 rfl (Nat.le_of_ble_eq_true rfl) dX0_takeSamples_56 ⟨Nat.zero_le _, Nat.zero_le _⟩ (fun H locs hw => ?_)
      replace hw : Wd (dC, dI) A s.heap H locs (w_RC aR aC cI cJ cZ R_members R_starts R_inOrder R_standing R_heads R_tails R_rowsInAll R_made R_all R_filled C_sampled C_sampleStandings C_sizes C_ends C_lies C_merged C_reached C_done C_mergedBy C_parts C_samples C_bound C_ticks C_mergedInAll C_mergedAgain) := hw
      obtain ⟨r13, h14, hf⟩ := bd1_ob hf
      refine clVI (As := [.int r11]) (rest := []) X (c_X5_standingOf l dC dI cI cJ cZ aR N R_members R_starts R_inOrder R_standing R_heads R_tails R_rowsInAll R_made R_all R_filled r11 h14) (cwV 1 hts gX0_takeSamples_X5_standingOf rfl rfl rfl (by decide +kernel) ⟨Nat.le_of_ble_eq_true rfl, Nat.le_of_ble_eq_true rfl⟩) (ci := 5) (k0 := 0) rfl rfl rfl hw [0, 1, 2, 3, 4, 5, 6] rfl rfl rfl rfl hl.1 rfl (Nat.le_of_ble_eq_true rfl) dX0_takeSamples_59 ⟨Nat.zero_le _, Nat.zero_le _⟩ (fun H locs hw => ?_)
      replace hw : Wd (dC, dI) A s.heap H locs (w_RC aR aC cI cJ cZ R_members R_starts R_inOrder R_standing R_heads R_tails R_rowsInAll R_made R_all R_filled C_sampled C_sampleStandings C_sizes C_ends C_lies C_merged C_reached C_done C_mergedBy C_parts C_samples C_bound C_ticks C_mergedInAll C_mergedAgain) := hw
      refine lv_istore (lv' := [(6, .int r13), (0, .ref (aC 0)), (1, .ref (aR 0)), (2, .int v2), (3, .int v3), (4, .int v4), (5, .int v5)]) hx hb dX0_takeSamples_62 hl (by decide) rfl (fun ls hl => ?_)
      refine lv_iload hx hb dX0_takeSamples_64 (lv_at hl 0 rfl) ?_
      refine lv_iconst (v := (-1)) hx hb dX0_takeSamples_66 (by decide) ?_
      refine lv_icmp_eq (tgt := 78) hx hb dX0_takeSamples_67 (by decide) (fun b15 => ?_) (fun b15 => ?_)
      · replace hf := it_t hf b15
        refine lv_iload hx hb dX0_takeSamples_78 (lv_at hl 6 rfl) ?_
        refine lv_iload_n hx hb dX0_takeSamples_80 rfl (lv_at hl 3 rfl) ?_
        refine lv_iadd hx hb dX0_takeSamples_81 ?_
        refine lv_topi (fun x16 ex16 => ?_)
        replace hf := nl_at hf ex16
        refine lv_istore (lv' := [(5, .int x16), (6, .int r13), (0, .ref (aC 0)), (1, .ref (aR 0)), (2, .int v2), (3, .int v3), (4, .int v4)]) hx hb dX0_takeSamples_82 hl (by decide) rfl (fun ls hl => ?_)
        refine lv_goto (tgt := 44) hx hb dX0_takeSamples_84 (by decide) ?_
        exact ih _ _ _ hf _ _ _ hw (lv_sub hl [2, 3, 4, 5, 6, 0] rfl) kx
      · replace hf := it_f hf b15
        refine lv_aload_n hx hb dX0_takeSamples_70 rfl (lv_at hl 1 rfl) ?_
        refine va_get (D := (dC, dI)) (ci := 0) (v := .ref (aC 1)) (C := RX0) (T := TX0) (N := 15) hx hb hts i_X0_takeSamples_X0 hown hK hw.1 7 rfl rfl 0 (by decide) (hts _ m_X0_takeSamples_0) (fun _ h9 => h9) rfl dX0_takeSamples_71 ?_
        refine lv_iload hx hb dX0_takeSamples_74 (lv_at hl 0 rfl) ?_
        refine lv_iconst (v := 1) hx hb dX0_takeSamples_76 (by decide) ?_
        have g17 := ix_in (gd_l hf)
        replace hf := gd_r hf
        refine g_zast hx hb hK hw 8 2 rfl rfl g17 dX0_takeSamples_77 (fun H locs hw => ?_)
        replace hw : Wd (dC, dI) A s.heap H locs (w_RC aR aC cI cJ cZ R_members R_starts R_inOrder R_standing R_heads R_tails R_rowsInAll R_made R_all R_filled (upd C_sampled r13.toNatClampNeg (vp_nar .boolean 1)) C_sampleStandings C_sizes C_ends C_lies C_merged C_reached C_done C_mergedBy C_parts C_samples C_bound C_ticks C_mergedInAll C_mergedAgain) := hw
        refine lv_iload hx hb dX0_takeSamples_78 (lv_at hl 6 rfl) ?_
        refine lv_iload_n hx hb dX0_takeSamples_80 rfl (lv_at hl 3 rfl) ?_
        refine lv_iadd hx hb dX0_takeSamples_81 ?_
        refine lv_topi (fun x18 ex18 => ?_)
        replace hf := nl_at hf ex18
        refine lv_istore (lv' := [(5, .int x18), (6, .int r13), (0, .ref (aC 0)), (1, .ref (aR 0)), (2, .int v2), (3, .int v3), (4, .int v4)]) hx hb dX0_takeSamples_82 hl (by decide) rfl (fun ls hl => ?_)
        refine lv_goto (tgt := 44) hx hb dX0_takeSamples_84 (by decide) ?_
        exact ih _ _ _ hf _ _ _ hw (lv_sub hl [2, 3, 4, 5, 6, 0] rfl) kx
set_option maxHeartbeats 4000000 in
set_option maxRecDepth 100000 in
theorem t_X0_takeSamples_24 {p : Program} {l : Launch} {e : Env} {s : State} {m : MethodId} {args : Array Value} {below : List Frame} {meth : Method} {c : Code} {Q : State → Prop} {dC : Nat → ClassId} {dI : Nat → Nat → Nat} {cI cJ cZ : ClassId} {A : Nat → Prop} (aR aC : Nat → Nat) (X : Cx p m c cX0_takeSamples 7 s args wsX0_takeSamples RX0 (dC, dI) (tyl cI cJ cZ) A) (N : Nat) (R_members : (Nat → Int32)) (R_starts : (Nat → Int32)) (R_inOrder : (Nat → Int32)) (R_standing : (Nat → Int32)) (R_heads : (Nat → Int32)) (R_tails : (Nat → Int32)) (R_rowsInAll : Int32) (R_made : Int32) (R_all : Int32) (R_filled : Int32) (C_sampleStandings : (Nat → Int32)) (C_sizes : (Nat → Int32)) (C_ends : (Nat → Int32)) (C_lies : (Nat → Int32)) (C_merged : (Nat → Int32)) (C_reached : (Nat → Int32)) (C_done : (Nat → Int32)) (C_mergedBy : (Nat → Int32)) (C_parts : Int32) (C_samples : Int32) (C_bound : Int32) (C_ticks : Int32) (C_mergedInAll : Int32) (C_mergedAgain : Int32) (v2 : Int32) :
    ∀ (n : Nat) (v3 : Int32) (C_sampled : (Nat → Int32)) (e_C_sampled : (Nat → Int32)), l_X0_takeSamples_24 N R_members R_starts R_standing R_rowsInAll R_made R_all v2 n v3 C_sampled = some e_C_sampled → ∀ (H : Heap) (locs : List Loc) (ls : Array Slot), Wd (dC, dI) A s.heap H locs (w_RC aR aC cI cJ cZ R_members R_starts R_inOrder R_standing R_heads R_tails R_rowsInAll R_made R_all R_filled C_sampled C_sampleStandings C_sizes C_ends C_lies C_merged C_reached C_done C_mergedBy C_parts C_samples C_bound C_ticks C_mergedInAll C_mergedAgain) → lv_has ls 7 [(0, .ref (aC 0)), (1, .ref (aR 0)), (2, .int v2), (3, .int v3)] → (∀ (H : Heap) (locs : List Loc) (ls : Array Slot), Wd (dC, dI) A s.heap H locs (w_RC aR aC cI cJ cZ R_members R_starts R_inOrder R_standing R_heads R_tails R_rowsInAll R_made R_all R_filled e_C_sampled C_sampleStandings C_sizes C_ends C_lies C_merged C_reached C_done C_mergedBy C_parts C_samples C_bound C_ticks C_mergedInAll C_mergedAgain) → lv_has ls 7 [(0, .ref (aC 0))] → W p l e rm_X0_takeSamples s m args below meth c H locs 0 0 Q (F0 m 93 ls [])) → W p l e rm_X0_takeSamples s m args below meth c H locs 0 0 Q (F0 m 24 ls []) := by
  obtain ⟨hx, hb, hml, hown, hts⟩ := X.1
  have hK := X.2.1
  have hN := X.2.2.2
  intro n
  induction n with
  | zero =>
    intro _ _ _ hf
    cases hf
  | succ n ih =>
    intro v3 C_sampled e_C_sampled hf H locs ls hw hl kx
    rw [l_X0_takeSamples_24] at hf
    refine lv_iload_n hx hb dX0_takeSamples_24 rfl (lv_at hl 3 rfl) ?_
    refine lv_aload_n hx hb dX0_takeSamples_25 rfl (lv_at hl 1 rfl) ?_
    refine va_getN (D := (dC, dI)) (ci := 5) (v := .int R_made) (C := RX5) (T := TX5) (N := 10) hx hb hts i_X0_takeSamples_X5 hown hK hw.1 0 rfl rfl 7 (by decide) (va_Nw.use rfl (hN _ nk_22)) (fun _ h9 => h9) rfl dX0_takeSamples_26 ?_
    refine lv_icmp_ge (tgt := 93) hx hb dX0_takeSamples_29 (by decide) (fun b6 => ?_) (fun b6 => ?_)
    · replace hf := it_t hf b6
      cases hf
      exact kx _ _ _ hw (lv_sub hl [0] rfl)
    · replace hf := it_f hf b6
      refine lv_aload_n hx hb dX0_takeSamples_32 rfl (lv_at hl 1 rfl) ?_
      refine lv_iload_n hx hb dX0_takeSamples_33 rfl (lv_at hl 3 rfl) ?_
      obtain ⟨r7, h8, hf⟩ := bd1_ob hf
      refine clVI (As := [.int v3]) (rest := []) X (c_X5_sizeOf l dC dI cI cJ cZ aR N R_members R_starts R_inOrder R_standing R_heads R_tails R_rowsInAll R_made R_all R_filled v3 h8) (cwV 1 hts gX0_takeSamples_X5_sizeOf rfl rfl rfl (by decide +kernel) ⟨Nat.le_of_ble_eq_true rfl, Nat.le_of_ble_eq_true rfl⟩) (ci := 5) (k0 := 0) rfl rfl rfl hw [0, 1, 2, 3, 4, 5, 6] rfl rfl rfl rfl hl.1 rfl (Nat.le_of_ble_eq_true rfl) dX0_takeSamples_34 ⟨Nat.zero_le _, Nat.zero_le _⟩ (fun H locs hw => ?_)
      replace hw : Wd (dC, dI) A s.heap H locs (w_RC aR aC cI cJ cZ R_members R_starts R_inOrder R_standing R_heads R_tails R_rowsInAll R_made R_all R_filled C_sampled C_sampleStandings C_sizes C_ends C_lies C_merged C_reached C_done C_mergedBy C_parts C_samples C_bound C_ticks C_mergedInAll C_mergedAgain) := hw
      refine lv_istore (lv' := [(4, .int r7), (0, .ref (aC 0)), (1, .ref (aR 0)), (2, .int v2), (3, .int v3)]) hx hb dX0_takeSamples_37 hl (by decide) rfl (fun ls hl => ?_)
      refine lv_iload_n hx hb dX0_takeSamples_39 rfl (lv_at hl 3 rfl) ?_
      refine lv_iconst (v := 1) hx hb dX0_takeSamples_40 (by decide) ?_
      refine lv_isub hx hb dX0_takeSamples_41 ?_
      refine lv_topi (fun x9 ex9 => ?_)
      replace hf := nl_at hf ex9
      refine lv_istore (lv' := [(5, .int x9), (4, .int r7), (0, .ref (aC 0)), (1, .ref (aR 0)), (2, .int v2), (3, .int v3)]) hx hb dX0_takeSamples_42 hl (by decide) rfl (fun ls hl => ?_)
      obtain ⟨e19, h20, hf⟩ := bd1_ob hf
      refine t_X0_takeSamples_44 aR aC X N R_members R_starts R_inOrder R_standing R_heads R_tails R_rowsInAll R_made R_all R_filled C_sampleStandings C_sizes C_ends C_lies C_merged C_reached C_done C_mergedBy C_parts C_samples C_bound C_ticks C_mergedInAll C_mergedAgain v2 v3 r7 N _ _ _ h20 _ _ _ hw (lv_sub hl [2, 3, 4, 5, 1, 0] rfl) (fun H locs ls hw hl => ?_)
      obtain ⟨x21, ex21⟩ : ∃ y : Int32, y = v3 + 1 := ⟨_, rfl⟩
      replace hf := nl_at hf ex21
      refine lv_iinc (v := x21) (lv' := [(3, .int x21), (0, .ref (aC 0)), (1, .ref (aR 0)), (2, .int v2)]) hx hb dX0_takeSamples_87 hl (k := 3) rfl (by rw [ex21]; rfl) (by decide) rfl (fun ls hl => ?_)
      refine lv_goto (tgt := 24) hx hb dX0_takeSamples_90 (by decide) ?_
      exact ih _ _ _ hf _ _ _ hw (lv_sub hl [1, 2, 3, 0] rfl) kx
set_option maxHeartbeats 4000000 in
set_option maxRecDepth 100000 in
theorem t_X0_takeSamples_95 {p : Program} {l : Launch} {e : Env} {s : State} {m : MethodId} {args : Array Value} {below : List Frame} {meth : Method} {c : Code} {Q : State → Prop} {dC : Nat → ClassId} {dI : Nat → Nat → Nat} {cI cJ cZ : ClassId} {A : Nat → Prop} (aR aC : Nat → Nat) (X : Cx p m c cX0_takeSamples 7 s args wsX0_takeSamples RX0 (dC, dI) (tyl cI cJ cZ) A) (N : Nat) (R_members : (Nat → Int32)) (R_starts : (Nat → Int32)) (R_inOrder : (Nat → Int32)) (R_standing : (Nat → Int32)) (R_heads : (Nat → Int32)) (R_tails : (Nat → Int32)) (R_rowsInAll : Int32) (R_made : Int32) (R_all : Int32) (R_filled : Int32) (C_sampled : (Nat → Int32)) (C_sizes : (Nat → Int32)) (C_ends : (Nat → Int32)) (C_lies : (Nat → Int32)) (C_merged : (Nat → Int32)) (C_reached : (Nat → Int32)) (C_done : (Nat → Int32)) (C_mergedBy : (Nat → Int32)) (C_parts : Int32) (C_bound : Int32) (C_ticks : Int32) (C_mergedInAll : Int32) (C_mergedAgain : Int32)  :
    ∀ (n : Nat) (v3 : Int32) (C_sampleStandings : (Nat → Int32)) (C_samples : Int32) (e_C_sampleStandings : (Nat → Int32)) (e_C_samples : Int32), l_X0_takeSamples_95 N C_sampled n v3 C_sampleStandings C_samples = some (e_C_sampleStandings, e_C_samples) → ∀ (H : Heap) (locs : List Loc) (ls : Array Slot), Wd (dC, dI) A s.heap H locs (w_RC aR aC cI cJ cZ R_members R_starts R_inOrder R_standing R_heads R_tails R_rowsInAll R_made R_all R_filled C_sampled C_sampleStandings C_sizes C_ends C_lies C_merged C_reached C_done C_mergedBy C_parts C_samples C_bound C_ticks C_mergedInAll C_mergedAgain) → lv_has ls 7 [(0, .ref (aC 0)), (3, .int v3)] → (∀ (H : Heap) (locs : List Loc) (ls : Array Slot), Wd (dC, dI) A s.heap H locs (w_RC aR aC cI cJ cZ R_members R_starts R_inOrder R_standing R_heads R_tails R_rowsInAll R_made R_all R_filled C_sampled e_C_sampleStandings C_sizes C_ends C_lies C_merged C_reached C_done C_mergedBy C_parts e_C_samples C_bound C_ticks C_mergedInAll C_mergedAgain) → lv_has ls 7 [] → W p l e rm_X0_takeSamples s m args below meth c H locs 0 0 Q (F0 m 137 ls [])) → W p l e rm_X0_takeSamples s m args below meth c H locs 0 0 Q (F0 m 95 ls []) := by
  obtain ⟨hx, hb, hml, hown, hts⟩ := X.1
  have hK := X.2.1
  have hN := X.2.2.2
  intro n
  induction n with
  | zero =>
    intro _ _ _ _ _ hf
    cases hf
  | succ n ih =>
    intro v3 C_sampleStandings C_samples e_C_sampleStandings e_C_samples hf H locs ls hw hl kx
    rw [l_X0_takeSamples_95] at hf
    refine lv_iload_n hx hb dX0_takeSamples_95 rfl (lv_at hl 1 rfl) ?_
    refine lv_sipush (v := 400) hx hb dX0_takeSamples_96 (by decide) ?_
    refine lv_icmp_ge (tgt := 137) hx hb dX0_takeSamples_99 (by decide) (fun b24 => ?_) (fun b24 => ?_)
    · replace hf := it_t hf b24
      cases hf
      exact kx _ _ _ hw (lv_sub hl [] rfl)
    · replace hf := it_f hf b24
      refine lv_aload_n hx hb dX0_takeSamples_102 rfl (lv_at hl 0 rfl) ?_
      refine va_get (D := (dC, dI)) (ci := 0) (v := .ref (aC 1)) (C := RX0) (T := TX0) (N := 15) hx hb hts i_X0_takeSamples_X0 hown hK hw.1 7 rfl rfl 0 (by decide) (hts _ m_X0_takeSamples_0) (fun _ h9 => h9) rfl dX0_takeSamples_103 ?_
      refine lv_iload_n hx hb dX0_takeSamples_106 rfl (lv_at hl 1 rfl) ?_
      have g25 := ix_in (gd_l hf)
      replace hf := gd_r hf
      refine va_zald hx hb hK hw.1 8 2 rfl rfl g25 dX0_takeSamples_107 ?_
      refine lv_if_eq (tgt := 131) hx hb dX0_takeSamples_108 (by decide) (fun b26 => ?_) (fun b26 => ?_)
      · replace hf := it_t hf b26
        obtain ⟨x27, ex27⟩ : ∃ y : Int32, y = v3 + 1 := ⟨_, rfl⟩
        replace hf := nl_at hf ex27
        refine lv_iinc (v := x27) (lv' := [(3, .int x27), (0, .ref (aC 0))]) hx hb dX0_takeSamples_131 hl (k := 1) rfl (by rw [ex27]; rfl) (by decide) rfl (fun ls hl => ?_)
        refine lv_goto (tgt := 95) hx hb dX0_takeSamples_134 (by decide) ?_
        exact ih _ _ _ _ _ hf _ _ _ hw (lv_sub hl [1, 0] rfl) kx
      · replace hf := it_f hf b26
        refine lv_aload_n hx hb dX0_takeSamples_111 rfl (lv_at hl 0 rfl) ?_
        refine va_get (D := (dC, dI)) (ci := 0) (v := .ref (aC 2)) (C := RX0) (T := TX0) (N := 15) hx hb hts i_X0_takeSamples_X0 hown hK hw.1 7 rfl rfl 1 (by decide) (hts _ m_X0_takeSamples_1) (fun _ h9 => h9) rfl dX0_takeSamples_112 ?_
        refine lv_aload_n hx hb dX0_takeSamples_115 rfl (lv_at hl 0 rfl) ?_
        refine va_get (D := (dC, dI)) (ci := 0) (v := .int C_samples) (C := RX0) (T := TX0) (N := 15) hx hb hts i_X0_takeSamples_X0 hown hK hw.1 7 rfl rfl 10 (by decide) (hts _ m_X0_takeSamples_2) (fun _ h9 => h9) rfl dX0_takeSamples_116 ?_
        refine lv_iload_n hx hb dX0_takeSamples_119 rfl (lv_at hl 1 rfl) ?_
        have g28 := ix_in (gd_l hf)
        replace hf := gd_r hf
        refine g_iast hx hb hK hw 9 0 rfl rfl g28 dX0_takeSamples_120 (fun H locs hw => ?_)
        replace hw : Wd (dC, dI) A s.heap H locs (w_RC aR aC cI cJ cZ R_members R_starts R_inOrder R_standing R_heads R_tails R_rowsInAll R_made R_all R_filled C_sampled (upd C_sampleStandings C_samples.toNatClampNeg v3) C_sizes C_ends C_lies C_merged C_reached C_done C_mergedBy C_parts C_samples C_bound C_ticks C_mergedInAll C_mergedAgain) := hw
        refine lv_aload_n hx hb dX0_takeSamples_121 rfl (lv_at hl 0 rfl) ?_
        refine lv_dup hx hb dX0_takeSamples_122 rfl ?_
        refine va_get (D := (dC, dI)) (ci := 0) (v := .int C_samples) (C := RX0) (T := TX0) (N := 15) hx hb hts i_X0_takeSamples_X0 hown hK hw.1 7 rfl rfl 10 (by decide) (hts _ m_X0_takeSamples_2) (fun _ h9 => h9) rfl dX0_takeSamples_123 ?_
        refine lv_iconst (v := 1) hx hb dX0_takeSamples_126 (by decide) ?_
        refine lv_iadd hx hb dX0_takeSamples_127 ?_
        refine lv_topi (fun x29 ex29 => ?_)
        replace hf := nl_at hf ex29
        refine g_put (D := (dC, dI)) (ci := 0) (v := .int x29) (ty := .int) (C := RX0) (T := TX0) (N := 15) hx hb hts i_X0_takeSamples_X0 tyX0 tyX0_ok nmX0 hown hK hw 7 rfl rfl 10 (by decide) (hts _ m_X0_takeSamples_2) (fun _ h9 => h9) rfl (by decide +kernel) rfl rfl (Nat.le_of_ble_eq_true rfl) dX0_takeSamples_128 (fun H locs hw => ?_)
        replace hw : Wd (dC, dI) A s.heap H locs (w_RC aR aC cI cJ cZ R_members R_starts R_inOrder R_standing R_heads R_tails R_rowsInAll R_made R_all R_filled C_sampled (upd C_sampleStandings C_samples.toNatClampNeg v3) C_sizes C_ends C_lies C_merged C_reached C_done C_mergedBy C_parts x29 C_bound C_ticks C_mergedInAll C_mergedAgain) := hw
        obtain ⟨x30, ex30⟩ : ∃ y : Int32, y = v3 + 1 := ⟨_, rfl⟩
        replace hf := nl_at hf ex30
        refine lv_iinc (v := x30) (lv' := [(3, .int x30), (0, .ref (aC 0))]) hx hb dX0_takeSamples_131 hl (k := 1) rfl (by rw [ex30]; rfl) (by decide) rfl (fun ls hl => ?_)
        refine lv_goto (tgt := 95) hx hb dX0_takeSamples_134 (by decide) ?_
        exact ih _ _ _ _ _ hf _ _ _ hw (lv_sub hl [1, 0] rfl) kx
set_option maxHeartbeats 4000000 in
set_option maxRecDepth 100000 in
theorem c_X0_takeSamples (l : Launch) (dC : Nat → ClassId) (dI : Nat → Nat → Nat) (cI cJ cZ : ClassId) (aR aC : Nat → Nat) (N : Nat) (R_members : (Nat → Int32)) (R_starts : (Nat → Int32)) (R_inOrder : (Nat → Int32)) (R_standing : (Nat → Int32)) (R_heads : (Nat → Int32)) (R_tails : (Nat → Int32)) (R_rowsInAll : Int32) (R_made : Int32) (R_all : Int32) (R_filled : Int32) (C_sampled : (Nat → Int32)) (C_sampleStandings : (Nat → Int32)) (C_sizes : (Nat → Int32)) (C_ends : (Nat → Int32)) (C_lies : (Nat → Int32)) (C_merged : (Nat → Int32)) (C_reached : (Nat → Int32)) (C_done : (Nat → Int32)) (C_mergedBy : (Nat → Int32)) (C_parts : Int32) (C_samples : Int32) (C_bound : Int32) (C_ticks : Int32) (C_mergedInAll : Int32) (C_mergedAgain : Int32) (v2 : Int32) {o_C_sampled : (Nat → Int32)} {o_C_sampleStandings : (Nat → Int32)} {o_C_samples : Int32} (hf : f_X0_takeSamples N R_members R_starts R_standing R_rowsInAll R_made R_all C_sampled C_sampleStandings C_samples v2 = some (o_C_sampled, o_C_sampleStandings, o_C_samples)) :
    CtV l yX0_takeSamples wsX0_takeSamples rm_X0_takeSamples (dC, dI) (tyl cI cJ cZ) [.ref (aC 0), .ref (aR 0), .int v2] (w_RC aR aC cI cJ cZ R_members R_starts R_inOrder R_standing R_heads R_tails R_rowsInAll R_made R_all R_filled C_sampled C_sampleStandings C_sizes C_ends C_lies C_merged C_reached C_done C_mergedBy C_parts C_samples C_bound C_ticks C_mergedInAll C_mergedAgain) (w_RC aR aC cI cJ cZ R_members R_starts R_inOrder R_standing R_heads R_tails R_rowsInAll R_made R_all R_filled o_C_sampled o_C_sampleStandings C_sizes C_ends C_lies C_merged C_reached C_done C_mergedBy C_parts o_C_samples C_bound C_ticks C_mergedInAll C_mergedAgain) := by
  refine startV (cc := cX0_takeSamples) (maxL := 7) (rt := none) (by decide +kernel) rfl (Nat.le_of_ble_eq_true rfl) ?_
  intro p e s m below meth c A ls X hr hlocks hw hl
  replace X : Cx p m c cX0_takeSamples 7 s _ wsX0_takeSamples RX0 (dC, dI) (tyl cI cJ cZ) A := X
  replace hl : lv_has ls 7 [(0, .ref (aC 0)), (1, .ref (aR 0)), (2, .int v2)] := hl
  obtain ⟨hx, hb, hml, hown, hts⟩ := X.1
  have hK := X.2.1
  have hN := X.2.2.2
  unfold f_X0_takeSamples at hf
  refine lv_iconst (v := 0) hx hb dX0_takeSamples_0 (by decide) ?_
  refine lv_istore_n (lv' := [(3, .int 0), (0, .ref (aC 0)), (1, .ref (aR 0)), (2, .int v2)]) hx hb dX0_takeSamples_1 rfl hl (by decide) rfl (fun ls hl => ?_)
  obtain ⟨e4, h5, hf⟩ := bd1_ob hf
  refine t_X0_takeSamples_2 aR aC X N R_members R_starts R_inOrder R_standing R_heads R_tails R_rowsInAll R_made R_all R_filled C_sampleStandings C_sizes C_ends C_lies C_merged C_reached C_done C_mergedBy C_parts C_samples C_bound C_ticks C_mergedInAll C_mergedAgain v2 N _ _ _ h5 _ _ _ hw (lv_sub hl [1, 2, 3, 0] rfl) (fun H locs ls hw hl => ?_)
  refine lv_iconst (v := 0) hx hb dX0_takeSamples_22 (by decide) ?_
  refine lv_istore_n (lv' := [(3, .int 0), (0, .ref (aC 0)), (1, .ref (aR 0)), (2, .int v2)]) hx hb dX0_takeSamples_23 rfl hl (by decide) rfl (fun ls hl => ?_)
  obtain ⟨e22, h23, hf⟩ := bd1_ob hf
  refine t_X0_takeSamples_24 aR aC X N R_members R_starts R_inOrder R_standing R_heads R_tails R_rowsInAll R_made R_all R_filled C_sampleStandings C_sizes C_ends C_lies C_merged C_reached C_done C_mergedBy C_parts C_samples C_bound C_ticks C_mergedInAll C_mergedAgain v2 N _ _ _ h23 _ _ _ hw (lv_sub hl [1, 2, 3, 0] rfl) (fun H locs ls hw hl => ?_)
  refine lv_iconst (v := 0) hx hb dX0_takeSamples_93 (by decide) ?_
  refine lv_istore_n (lv' := [(3, .int 0), (0, .ref (aC 0))]) hx hb dX0_takeSamples_94 rfl hl (by decide) rfl (fun ls hl => ?_)
  obtain ⟨e31, e32, h33, hf⟩ := bd2_ob hf
  refine t_X0_takeSamples_95 aR aC X N R_members R_starts R_inOrder R_standing R_heads R_tails R_rowsInAll R_made R_all R_filled e22 C_sizes C_ends C_lies C_merged C_reached C_done C_mergedBy C_parts C_bound C_ticks C_mergedInAll C_mergedAgain N _ _ _ _ _ h33 _ _ _ hw (lv_sub hl [1, 0] rfl) (fun H locs ls hw hl => ?_)
  cases hf
  exact endV X hr hlocks hw dX0_takeSamples_137
def rm_X0_lastStanding : Room := { frames := 1, cells := 0, slots := 0, locals := 22 }
set_option maxRecDepth 20000 in
theorem i_X0_lastStanding_X0 : ∀ w ∈ u_ws RX0 TX0 15, w ∈ wsX0_lastStanding := by decide +kernel
set_option maxRecDepth 20000 in
theorem m_X0_lastStanding_0 : Cond.fieldLink RX0 44 "GreatSort$Cut" "samples" "I" ∈ wsX0_lastStanding := by decide +kernel
set_option maxRecDepth 20000 in
theorem m_X0_lastStanding_1 : Cond.initialized RX6 ∈ wsX0_lastStanding := by decide +kernel
set_option maxRecDepth 20000 in
theorem m_X0_lastStanding_2 : Cond.static yX6_isIn ∈ wsX0_lastStanding := by decide +kernel
set_option maxRecDepth 20000 in
theorem m_X0_lastStanding_3 : Cond.fieldLink RX0 15 "GreatSort$Cut" "sampleStandings" "[I" ∈ wsX0_lastStanding := by decide +kernel
set_option maxHeartbeats 4000000 in
set_option maxRecDepth 100000 in
theorem c_X0_lastStanding (l : Launch) (dC : Nat → ClassId) (dI : Nat → Nat → Nat) (cI cJ cZ : ClassId) (aC : Nat → Nat) (N : Nat) (C_sampled : (Nat → Int32)) (C_sampleStandings : (Nat → Int32)) (C_sizes : (Nat → Int32)) (C_ends : (Nat → Int32)) (C_lies : (Nat → Int32)) (C_merged : (Nat → Int32)) (C_reached : (Nat → Int32)) (C_done : (Nat → Int32)) (C_mergedBy : (Nat → Int32)) (C_parts : Int32) (C_samples : Int32) (C_bound : Int32) (C_ticks : Int32) (C_mergedInAll : Int32) (C_mergedAgain : Int32) (v1 : Int32) {r : Int32} (hf : f_X0_lastStanding N C_sampleStandings C_samples v1 = some r) :
    CtI l yX0_lastStanding wsX0_lastStanding rm_X0_lastStanding (dC, dI) (tyl cI cJ cZ) [.ref (aC 0), .int v1] (w_C aC cI cJ cZ C_sampled C_sampleStandings C_sizes C_ends C_lies C_merged C_reached C_done C_mergedBy C_parts C_samples C_bound C_ticks C_mergedInAll C_mergedAgain) (w_C aC cI cJ cZ C_sampled C_sampleStandings C_sizes C_ends C_lies C_merged C_reached C_done C_mergedBy C_parts C_samples C_bound C_ticks C_mergedInAll C_mergedAgain) r := by
  refine startI (cc := cX0_lastStanding) (maxL := 2) (rt := (some .int)) (by decide +kernel) rfl (Nat.le_of_ble_eq_true rfl) ?_
  intro p e s m below meth c A ls X hr hlocks hw hl
  replace X : Cx p m c cX0_lastStanding 2 s _ wsX0_lastStanding RX0 (dC, dI) (tyl cI cJ cZ) A := X
  replace hl : lv_has ls 2 [(0, .ref (aC 0)), (1, .int v1)] := hl
  obtain ⟨hx, hb, hml, hown, hts⟩ := X.1
  have hK := X.2.1
  have hN := X.2.2.2
  unfold f_X0_lastStanding at hf
  refine lv_iload_n hx hb dX0_lastStanding_0 rfl (lv_at hl 1 rfl) ?_
  refine lv_iconst (v := 0) hx hb dX0_lastStanding_1 (by decide) ?_
  refine lv_aload_n hx hb dX0_lastStanding_2 rfl (lv_at hl 0 rfl) ?_
  refine va_get (D := (dC, dI)) (ci := 0) (v := .int C_samples) (C := RX0) (T := TX0) (N := 15) hx hb hts i_X0_lastStanding_X0 hown hK hw.1 0 rfl rfl 10 (by decide) (hts _ m_X0_lastStanding_0) (fun _ h9 => h9) rfl dX0_lastStanding_3 ?_
  refine lv_iconst (v := 1) hx hb dX0_lastStanding_6 (by decide) ?_
  refine lv_isub hx hb dX0_lastStanding_7 ?_
  obtain ⟨r1, h2, hf⟩ := bd1_ob hf
  refine clSNI (As := [.int v1, .int (0 : Int32), .int (C_samples - 1)]) (rest := []) X (c_X6_isIn l dC dI cI cJ cZ N v1 (0 : Int32) (C_samples - 1) h2) (⟨va_cnB 3 hts gX0_lastStanding_X6_isIn_n85 rfl rfl rfl (hN _ nk_32) (hts _ m_X0_lastStanding_1) (by decide +kernel) ⟨Nat.le_of_ble_eq_true rfl, Nat.le_of_ble_eq_true rfl⟩, hts _ m_X0_lastStanding_2, trivial⟩) hw [] rfl rfl rfl rfl hl.1 rfl (Nat.le_of_ble_eq_true rfl) dX0_lastStanding_8 ⟨Nat.zero_le _, Nat.zero_le _⟩ (fun H locs hw => ?_)
  replace hw : Wd (dC, dI) A s.heap H locs (w_C aC cI cJ cZ C_sampled C_sampleStandings C_sizes C_ends C_lies C_merged C_reached C_done C_mergedBy C_parts C_samples C_bound C_ticks C_mergedInAll C_mergedAgain) := hw
  refine lv_if_eq (tgt := 23) hx hb dX0_lastStanding_11 (by decide) (fun b3 => ?_) (fun b3 => ?_)
  · replace hf := it_t hf b3
    refine lv_iconst (v := (-1)) hx hb dX0_lastStanding_23 (by decide) ?_
    cases hf
    exact endI X hr rfl hlocks rfl hw dX0_lastStanding_24
  · replace hf := it_f hf b3
    refine lv_aload_n hx hb dX0_lastStanding_14 rfl (lv_at hl 0 rfl) ?_
    refine va_get (D := (dC, dI)) (ci := 0) (v := .ref (aC 2)) (C := RX0) (T := TX0) (N := 15) hx hb hts i_X0_lastStanding_X0 hown hK hw.1 0 rfl rfl 1 (by decide) (hts _ m_X0_lastStanding_3) (fun _ h9 => h9) rfl dX0_lastStanding_15 ?_
    refine lv_iload_n hx hb dX0_lastStanding_18 rfl (lv_at hl 1 rfl) ?_
    have g4 := ix_in (gd_l hf)
    replace hf := gd_r hf
    refine va_iald hx hb hK hw.1 2 0 rfl rfl g4 dX0_lastStanding_19 ?_
    refine lv_goto (tgt := 24) hx hb dX0_lastStanding_20 (by decide) ?_
    cases hf
    exact endI X hr rfl hlocks rfl hw dX0_lastStanding_24
def rm_X0_beginAnew : Room := { frames := 0, cells := 0, slots := 0, locals := 0 }
set_option maxRecDepth 20000 in
theorem i_X0_beginAnew_X0 : ∀ w ∈ u_ws RX0 TX0 15, w ∈ wsX0_beginAnew := by decide +kernel
set_option maxRecDepth 20000 in
theorem m_X0_beginAnew_0 : Cond.fieldLink RX0 28 "GreatSort$Cut" "merged" "[I" ∈ wsX0_beginAnew := by decide +kernel
set_option maxRecDepth 20000 in
theorem m_X0_beginAnew_1 : Cond.fieldLink RX0 34 "GreatSort$Cut" "done" "[Z" ∈ wsX0_beginAnew := by decide +kernel
set_option maxHeartbeats 4000000 in
set_option maxRecDepth 100000 in
theorem c_X0_beginAnew (l : Launch) (dC : Nat → ClassId) (dI : Nat → Nat → Nat) (cI cJ cZ : ClassId) (aC : Nat → Nat) (N : Nat) (C_sampled : (Nat → Int32)) (C_sampleStandings : (Nat → Int32)) (C_sizes : (Nat → Int32)) (C_ends : (Nat → Int32)) (C_lies : (Nat → Int32)) (C_merged : (Nat → Int32)) (C_reached : (Nat → Int32)) (C_done : (Nat → Int32)) (C_mergedBy : (Nat → Int32)) (C_parts : Int32) (C_samples : Int32) (C_bound : Int32) (C_ticks : Int32) (C_mergedInAll : Int32) (C_mergedAgain : Int32) (v1 : Int32) {o_C_merged : (Nat → Int32)} {o_C_done : (Nat → Int32)} (hf : f_X0_beginAnew N C_merged C_done v1 = some (o_C_merged, o_C_done)) :
    CtV l yX0_beginAnew wsX0_beginAnew rm_X0_beginAnew (dC, dI) (tyl cI cJ cZ) [.ref (aC 0), .int v1] (w_C aC cI cJ cZ C_sampled C_sampleStandings C_sizes C_ends C_lies C_merged C_reached C_done C_mergedBy C_parts C_samples C_bound C_ticks C_mergedInAll C_mergedAgain) (w_C aC cI cJ cZ C_sampled C_sampleStandings C_sizes C_ends C_lies o_C_merged C_reached o_C_done C_mergedBy C_parts C_samples C_bound C_ticks C_mergedInAll C_mergedAgain) := by
  refine startV (cc := cX0_beginAnew) (maxL := 2) (rt := none) (by decide +kernel) rfl (Nat.le_of_ble_eq_true rfl) ?_
  intro p e s m below meth c A ls X hr hlocks hw hl
  replace X : Cx p m c cX0_beginAnew 2 s _ wsX0_beginAnew RX0 (dC, dI) (tyl cI cJ cZ) A := X
  replace hl : lv_has ls 2 [(0, .ref (aC 0)), (1, .int v1)] := hl
  obtain ⟨hx, hb, hml, hown, hts⟩ := X.1
  have hK := X.2.1
  have hN := X.2.2.2
  unfold f_X0_beginAnew at hf
  refine lv_aload_n hx hb dX0_beginAnew_0 rfl (lv_at hl 0 rfl) ?_
  refine va_get (D := (dC, dI)) (ci := 0) (v := .ref (aC 6)) (C := RX0) (T := TX0) (N := 15) hx hb hts i_X0_beginAnew_X0 hown hK hw.1 0 rfl rfl 5 (by decide) (hts _ m_X0_beginAnew_0) (fun _ h9 => h9) rfl dX0_beginAnew_1 ?_
  refine lv_iload_n hx hb dX0_beginAnew_4 rfl (lv_at hl 1 rfl) ?_
  refine lv_iconst (v := 0) hx hb dX0_beginAnew_5 (by decide) ?_
  have g1 := ix_in (gd_l hf)
  replace hf := gd_r hf
  refine g_iast hx hb hK hw 6 0 rfl rfl g1 dX0_beginAnew_6 (fun H locs hw => ?_)
  replace hw : Wd (dC, dI) A s.heap H locs (w_C aC cI cJ cZ C_sampled C_sampleStandings C_sizes C_ends C_lies (upd C_merged v1.toNatClampNeg 0) C_reached C_done C_mergedBy C_parts C_samples C_bound C_ticks C_mergedInAll C_mergedAgain) := hw
  refine lv_aload_n hx hb dX0_beginAnew_7 rfl (lv_at hl 0 rfl) ?_
  refine va_get (D := (dC, dI)) (ci := 0) (v := .ref (aC 8)) (C := RX0) (T := TX0) (N := 15) hx hb hts i_X0_beginAnew_X0 hown hK hw.1 0 rfl rfl 7 (by decide) (hts _ m_X0_beginAnew_1) (fun _ h9 => h9) rfl dX0_beginAnew_8 ?_
  refine lv_iload_n hx hb dX0_beginAnew_11 rfl (lv_at hl 1 rfl) ?_
  refine lv_iconst (v := 0) hx hb dX0_beginAnew_12 (by decide) ?_
  have g2 := ix_in (gd_l hf)
  replace hf := gd_r hf
  refine g_zast hx hb hK hw 8 2 rfl rfl g2 dX0_beginAnew_13 (fun H locs hw => ?_)
  replace hw : Wd (dC, dI) A s.heap H locs (w_C aC cI cJ cZ C_sampled C_sampleStandings C_sizes C_ends C_lies (upd C_merged v1.toNatClampNeg 0) C_reached (upd C_done v1.toNatClampNeg (vp_nar .boolean 0)) C_mergedBy C_parts C_samples C_bound C_ticks C_mergedInAll C_mergedAgain) := hw
  cases hf
  exact endV X hr hlocks hw dX0_beginAnew_14
def rm_X0_makeOf : Room := { frames := 5, cells := 0, slots := 0, locals := 112 }
set_option maxRecDepth 20000 in
theorem i_X0_makeOf_X0 : ∀ w ∈ u_ws RX0 TX0 15, w ∈ wsX0_makeOf := by decide +kernel
set_option maxRecDepth 20000 in
theorem i_X0_makeOf_X5 : ∀ w ∈ u_ws RX5 TX5 10, w ∈ wsX0_makeOf := by decide +kernel
set_option maxRecDepth 20000 in
theorem m_X0_makeOf_0 : Cond.fieldLink RX0 40 "GreatSort$Cut" "parts" "I" ∈ wsX0_makeOf := by decide +kernel
set_option maxRecDepth 20000 in
theorem m_X0_makeOf_1 : Cond.fieldLink RX0 44 "GreatSort$Cut" "samples" "I" ∈ wsX0_makeOf := by decide +kernel
set_option maxRecDepth 20000 in
theorem m_X0_makeOf_2 : Cond.fieldLink RX0 47 "GreatSort$Cut" "bound" "I" ∈ wsX0_makeOf := by decide +kernel
set_option maxRecDepth 20000 in
theorem m_X0_makeOf_3 : Cond.fieldLink RX0 22 "GreatSort$Cut" "ends" "[I" ∈ wsX0_makeOf := by decide +kernel
set_option maxRecDepth 20000 in
theorem m_X0_makeOf_4 : Cond.fieldLink RX0 19 "GreatSort$Cut" "sizes" "[I" ∈ wsX0_makeOf := by decide +kernel
set_option maxRecDepth 20000 in
theorem m_X0_makeOf_5 : Cond.fieldLink RX0 31 "GreatSort$Cut" "reached" "[I" ∈ wsX0_makeOf := by decide +kernel
set_option maxHeartbeats 4000000 in
set_option maxRecDepth 100000 in
theorem t_X0_makeOf_63 {p : Program} {l : Launch} {e : Env} {s : State} {m : MethodId} {args : Array Value} {below : List Frame} {meth : Method} {c : Code} {Q : State → Prop} {dC : Nat → ClassId} {dI : Nat → Nat → Nat} {cI cJ cZ : ClassId} {A : Nat → Prop} (aR aC : Nat → Nat) (X : Cx p m c cX0_makeOf 7 s args wsX0_makeOf RX0 (dC, dI) (tyl cI cJ cZ) A) (N : Nat) (R_members : (Nat → Int32)) (R_starts : (Nat → Int32)) (R_inOrder : (Nat → Int32)) (R_standing : (Nat → Int32)) (R_heads : (Nat → Int32)) (R_tails : (Nat → Int32)) (R_rowsInAll : Int32) (R_made : Int32) (R_all : Int32) (R_filled : Int32) (C_sampled : (Nat → Int32)) (C_sampleStandings : (Nat → Int32)) (C_lies : (Nat → Int32)) (C_mergedBy : (Nat → Int32)) (C_parts : Int32) (C_samples : Int32) (C_bound : Int32) (C_ticks : Int32) (C_mergedInAll : Int32) (C_mergedAgain : Int32) (v2 : Int32) :
    ∀ (n : Nat) (v4 : Int32) (v5 : Int32) (C_sizes : (Nat → Int32)) (C_ends : (Nat → Int32)) (C_merged : (Nat → Int32)) (C_reached : (Nat → Int32)) (C_done : (Nat → Int32)) (e_C_sizes : (Nat → Int32)) (e_C_ends : (Nat → Int32)) (e_C_merged : (Nat → Int32)) (e_C_reached : (Nat → Int32)) (e_C_done : (Nat → Int32)), l_X0_makeOf_63 N R_inOrder R_rowsInAll C_sampleStandings C_samples v2 n v4 v5 C_sizes C_ends C_merged C_reached C_done = some (e_C_sizes, e_C_ends, e_C_merged, e_C_reached, e_C_done) → ∀ (H : Heap) (locs : List Loc) (ls : Array Slot), Wd (dC, dI) A s.heap H locs (w_RC aR aC cI cJ cZ R_members R_starts R_inOrder R_standing R_heads R_tails R_rowsInAll R_made R_all R_filled C_sampled C_sampleStandings C_sizes C_ends C_lies C_merged C_reached C_done C_mergedBy C_parts C_samples C_bound C_ticks C_mergedInAll C_mergedAgain) → lv_has ls 7 [(0, .ref (aC 0)), (1, .ref (aR 0)), (2, .int v2), (4, .int v4), (5, .int v5)] → (∀ (H : Heap) (locs : List Loc) (ls : Array Slot), Wd (dC, dI) A s.heap H locs (w_RC aR aC cI cJ cZ R_members R_starts R_inOrder R_standing R_heads R_tails R_rowsInAll R_made R_all R_filled C_sampled C_sampleStandings e_C_sizes e_C_ends C_lies e_C_merged e_C_reached e_C_done C_mergedBy C_parts C_samples C_bound C_ticks C_mergedInAll C_mergedAgain) → lv_has ls 7 [] → W p l e rm_X0_makeOf s m args below meth c H locs 0 0 Q (F0 m 170 ls [])) → W p l e rm_X0_makeOf s m args below meth c H locs 0 0 Q (F0 m 63 ls []) := by
  obtain ⟨hx, hb, hml, hown, hts⟩ := X.1
  have hK := X.2.1
  have hN := X.2.2.2
  intro n
  induction n with
  | zero =>
    intro _ _ _ _ _ _ _ _ _ _ _ _ hf
    cases hf
  | succ n ih =>
    intro v4 v5 C_sizes C_ends C_merged C_reached C_done e_C_sizes e_C_ends e_C_merged e_C_reached e_C_done hf H locs ls hw hl kx
    rw [l_X0_makeOf_63] at hf
    refine lv_iload hx hb dX0_makeOf_63 (lv_at hl 4 rfl) ?_
    refine lv_iload_n hx hb dX0_makeOf_65 rfl (lv_at hl 2 rfl) ?_
    refine lv_icmp_ge (tgt := 170) hx hb dX0_makeOf_66 (by decide) (fun b18 => ?_) (fun b18 => ?_)
    · replace hf := it_t hf b18
      cases hf
      exact kx _ _ _ hw (lv_sub hl [] rfl)
    · replace hf := it_f hf b18
      refine lv_iload hx hb dX0_makeOf_69 (lv_at hl 4 rfl) ?_
      refine lv_iload_n hx hb dX0_makeOf_71 rfl (lv_at hl 2 rfl) ?_
      refine lv_iconst (v := 1) hx hb dX0_makeOf_72 (by decide) ?_
      refine lv_isub hx hb dX0_makeOf_73 ?_
      obtain ⟨y19, h20, hf⟩ := bd1_ob hf
      refine join_ (nL := 7) (dC, dI) A 103 [.int y19] (w_RC aR aC cI cJ cZ R_members R_starts R_inOrder R_standing R_heads R_tails R_rowsInAll R_made R_all R_filled C_sampled C_sampleStandings C_sizes C_ends C_lies C_merged C_reached C_done C_mergedBy C_parts C_samples C_bound C_ticks C_mergedInAll C_mergedAgain) [(0, .ref (aC 0)), (1, .ref (aR 0)), (2, .int v2), (4, .int v4), (5, .int v5)] (fun H locs ls hw hl => ?_) (fun jn => ?_)
      · refine lv_istore (lv' := [(6, .int y19), (0, .ref (aC 0)), (1, .ref (aR 0)), (2, .int v2), (4, .int v4), (5, .int v5)]) hx hb dX0_makeOf_103 hl (by decide) rfl (fun ls hl => ?_)
        refine lv_aload_n hx hb dX0_makeOf_105 rfl (lv_at hl 1 rfl) ?_
        refine va_get (D := (dC, dI)) (ci := 0) (v := .ref (aC 4)) (C := RX0) (T := TX0) (N := 15) hx hb hts i_X0_makeOf_X0 hown hK hw.1 7 rfl rfl 3 (by decide) (hts _ m_X0_makeOf_3) (fun _ h9 => h9) rfl dX0_makeOf_106 ?_
        refine lv_iload hx hb dX0_makeOf_109 (lv_at hl 5 rfl) ?_
        refine lv_iload hx hb dX0_makeOf_111 (lv_at hl 5 rfl) ?_
        refine lv_iload_n hx hb dX0_makeOf_113 rfl (lv_at hl 3 rfl) ?_
        refine lv_iconst (v := 1) hx hb dX0_makeOf_114 (by decide) ?_
        refine lv_isub hx hb dX0_makeOf_115 ?_
        obtain ⟨y21, h22, hf⟩ := bd1_ob hf
        refine join_ (nL := 7) (dC, dI) A 129 [.int y21, .int v5, .ref (aC 4)] (w_RC aR aC cI cJ cZ R_members R_starts R_inOrder R_standing R_heads R_tails R_rowsInAll R_made R_all R_filled C_sampled C_sampleStandings C_sizes C_ends C_lies C_merged C_reached C_done C_mergedBy C_parts C_samples C_bound C_ticks C_mergedInAll C_mergedAgain) [(0, .ref (aC 0)), (1, .ref (aR 0)), (2, .int v2), (4, .int v4), (5, .int v5), (6, .int y19)] (fun H locs ls hw hl => ?_) (fun jn => ?_)
        · have g23 := ix_in (gd_l hf)
          replace hf := gd_r hf
          refine g_iast hx hb hK hw 11 0 rfl rfl g23 dX0_makeOf_129 (fun H locs hw => ?_)
          replace hw : Wd (dC, dI) A s.heap H locs (w_RC aR aC cI cJ cZ R_members R_starts R_inOrder R_standing R_heads R_tails R_rowsInAll R_made R_all R_filled C_sampled C_sampleStandings C_sizes (upd C_ends v5.toNatClampNeg y21) C_lies C_merged C_reached C_done C_mergedBy C_parts C_samples C_bound C_ticks C_mergedInAll C_mergedAgain) := hw
          refine lv_aload_n hx hb dX0_makeOf_130 rfl (lv_at hl 0 rfl) ?_
          refine va_get (D := (dC, dI)) (ci := 0) (v := .ref (aC 3)) (C := RX0) (T := TX0) (N := 15) hx hb hts i_X0_makeOf_X0 hown hK hw.1 7 rfl rfl 2 (by decide) (hts _ m_X0_makeOf_4) (fun _ h9 => h9) rfl dX0_makeOf_131 ?_
          refine lv_iload hx hb dX0_makeOf_134 (lv_at hl 4 rfl) ?_
          refine lv_iload hx hb dX0_makeOf_136 (lv_at hl 5 rfl) ?_
          refine lv_iconst (v := 1) hx hb dX0_makeOf_138 (by decide) ?_
          refine lv_iadd hx hb dX0_makeOf_139 ?_
          refine lv_iload hx hb dX0_makeOf_140 (lv_at hl 3 rfl) ?_
          refine lv_isub hx hb dX0_makeOf_142 ?_
          refine lv_topi (fun x24 ex24 => ?_)
          replace hf := nl_at hf ex24
          have g25 := ix_in (gd_l hf)
          replace hf := gd_r hf
          refine g_iast hx hb hK hw 10 0 rfl rfl g25 dX0_makeOf_143 (fun H locs hw => ?_)
          replace hw : Wd (dC, dI) A s.heap H locs (w_RC aR aC cI cJ cZ R_members R_starts R_inOrder R_standing R_heads R_tails R_rowsInAll R_made R_all R_filled C_sampled C_sampleStandings (upd C_sizes v5.toNatClampNeg x24) (upd C_ends v5.toNatClampNeg y21) C_lies C_merged C_reached C_done C_mergedBy C_parts C_samples C_bound C_ticks C_mergedInAll C_mergedAgain) := hw
          refine lv_iload hx hb dX0_makeOf_144 (lv_at hl 5 rfl) ?_
          refine lv_iconst (v := 1) hx hb dX0_makeOf_146 (by decide) ?_
          refine lv_iadd hx hb dX0_makeOf_147 ?_
          refine lv_topi (fun x26 ex26 => ?_)
          replace hf := nl_at hf ex26
          refine lv_istore (lv' := [(4, .int x26), (0, .ref (aC 0)), (1, .ref (aR 0)), (2, .int v2), (5, .int v5), (6, .int y19)]) hx hb dX0_makeOf_148 hl (by decide) rfl (fun ls hl => ?_)
          refine lv_aload_n hx hb dX0_makeOf_150 rfl (lv_at hl 1 rfl) ?_
          refine va_get (D := (dC, dI)) (ci := 0) (v := .ref (aC 7)) (C := RX0) (T := TX0) (N := 15) hx hb hts i_X0_makeOf_X0 hown hK hw.1 7 rfl rfl 6 (by decide) (hts _ m_X0_makeOf_5) (fun _ h9 => h9) rfl dX0_makeOf_151 ?_
          refine lv_iload hx hb dX0_makeOf_154 (lv_at hl 4 rfl) ?_
          refine lv_iconst (v := 0) hx hb dX0_makeOf_156 (by decide) ?_
          have g27 := ix_in (gd_l hf)
          replace hf := gd_r hf
          refine g_iast hx hb hK hw 14 0 rfl rfl g27 dX0_makeOf_157 (fun H locs hw => ?_)
          replace hw : Wd (dC, dI) A s.heap H locs (w_RC aR aC cI cJ cZ R_members R_starts R_inOrder R_standing R_heads R_tails R_rowsInAll R_made R_all R_filled C_sampled C_sampleStandings (upd C_sizes v5.toNatClampNeg x24) (upd C_ends v5.toNatClampNeg y21) C_lies C_merged (upd C_reached v5.toNatClampNeg 0) C_done C_mergedBy C_parts C_samples C_bound C_ticks C_mergedInAll C_mergedAgain) := hw
          refine lv_aload_n hx hb dX0_makeOf_158 rfl (lv_at hl 1 rfl) ?_
          refine lv_iload hx hb dX0_makeOf_159 (lv_at hl 4 rfl) ?_
          obtain ⟨c28, c29, h30, hf⟩ := bd2_ob hf
          refine clVV (As := [.int v5]) (rest := []) X (c_X0_beginAnew l dC dI cI cJ cZ aC N C_sampled C_sampleStandings (upd C_sizes v5.toNatClampNeg x24) (upd C_ends v5.toNatClampNeg y21) C_lies C_merged (upd C_reached v5.toNatClampNeg 0) C_done C_mergedBy C_parts C_samples C_bound C_ticks C_mergedInAll C_mergedAgain v5 h30) (cwV 1 hts gX0_makeOf_X0_beginAnew rfl rfl rfl (by decide +kernel) ⟨Nat.le_of_ble_eq_true rfl, Nat.le_of_ble_eq_true rfl⟩) (ci := 0) (k0 := 0) rfl rfl rfl hw [7, 8, 9, 10, 11, 12, 13, 14, 15, 16] rfl rfl rfl rfl hl.1 rfl (Nat.le_of_ble_eq_true rfl) dX0_makeOf_161 ⟨Nat.zero_le _, Nat.zero_le _⟩ (fun H locs hw => ?_)
          replace hw : Wd (dC, dI) A s.heap H locs (w_RC aR aC cI cJ cZ R_members R_starts R_inOrder R_standing R_heads R_tails R_rowsInAll R_made R_all R_filled C_sampled C_sampleStandings (upd C_sizes v5.toNatClampNeg x24) (upd C_ends v5.toNatClampNeg y21) C_lies c28 (upd C_reached v5.toNatClampNeg 0) c29 C_mergedBy C_parts C_samples C_bound C_ticks C_mergedInAll C_mergedAgain) := hw
          obtain ⟨x31, ex31⟩ : ∃ y : Int32, y = v5 + 1 := ⟨_, rfl⟩
          replace hf := nl_at hf ex31
          refine lv_iinc (v := x31) (lv' := [(5, .int x31), (4, .int x26), (0, .ref (aC 0)), (1, .ref (aR 0)), (2, .int v2), (6, .int y19)]) hx hb dX0_makeOf_164 hl (k := 4) rfl (by rw [ex31]; rfl) (by decide) rfl (fun ls hl => ?_)
          refine lv_goto (tgt := 63) hx hb dX0_makeOf_167 (by decide) ?_
          exact ih _ _ _ _ _ _ _ _ _ _ _ _ hf _ _ _ hw (lv_sub hl [2, 3, 4, 1, 0] rfl) kx
        · replace hf := h22
          refine lv_icmp_ne (tgt := 123) hx hb dX0_makeOf_116 (by decide) (fun b32 => ?_) (fun b32 => ?_)
          · replace hf := it_f hf b32
            refine lv_aload_n hx hb dX0_makeOf_123 rfl (lv_at hl 2 rfl) ?_
            refine lv_iload hx hb dX0_makeOf_124 (lv_at hl 0 rfl) ?_
            obtain ⟨r33, h34, hf⟩ := bd1_ob hf
            refine clVI (As := [.int y19]) (rest := [.int v5, .ref (aC 4)]) X (c_X5_rowInOrder l dC dI cI cJ cZ aR N R_members R_starts R_inOrder R_standing R_heads R_tails R_rowsInAll R_made R_all R_filled y19 h34) (cwV 1 hts gX0_makeOf_X5_rowInOrder rfl rfl rfl (by decide +kernel) ⟨Nat.le_of_ble_eq_true rfl, Nat.le_of_ble_eq_true rfl⟩) (ci := 5) (k0 := 0) rfl rfl rfl hw [0, 1, 2, 3, 4, 5, 6] rfl rfl rfl rfl hl.1 rfl (Nat.le_of_ble_eq_true rfl) dX0_makeOf_126 ⟨Nat.zero_le _, Nat.zero_le _⟩ (fun H locs hw => ?_)
            replace hw : Wd (dC, dI) A s.heap H locs (w_RC aR aC cI cJ cZ R_members R_starts R_inOrder R_standing R_heads R_tails R_rowsInAll R_made R_all R_filled C_sampled C_sampleStandings C_sizes C_ends C_lies C_merged C_reached C_done C_mergedBy C_parts C_samples C_bound C_ticks C_mergedInAll C_mergedAgain) := hw
            cases hf
            exact jn _ _ _ hw (lv_sub hl [1, 2, 3, 4, 5, 0] rfl)
          · replace hf := it_t hf b32
            refine lv_iconst (v := (-1)) hx hb dX0_makeOf_119 (by decide) ?_
            refine lv_goto (tgt := 129) hx hb dX0_makeOf_120 (by decide) ?_
            cases hf
            exact jn _ _ _ hw (lv_sub hl [1, 2, 3, 4, 5, 0] rfl)
      · replace hf := h20
        refine lv_icmp_ne (tgt := 86) hx hb dX0_makeOf_74 (by decide) (fun b35 => ?_) (fun b35 => ?_)
        · replace hf := it_f hf b35
          refine lv_aload_n hx hb dX0_makeOf_86 rfl (lv_at hl 0 rfl) ?_
          refine lv_iload hx hb dX0_makeOf_87 (lv_at hl 4 rfl) ?_
          refine lv_iconst (v := 1) hx hb dX0_makeOf_89 (by decide) ?_
          refine lv_iadd hx hb dX0_makeOf_90 ?_
          refine lv_aload_n hx hb dX0_makeOf_91 rfl (lv_at hl 0 rfl) ?_
          refine va_get (D := (dC, dI)) (ci := 0) (v := .int C_samples) (C := RX0) (T := TX0) (N := 15) hx hb hts i_X0_makeOf_X0 hown hK hw.1 7 rfl rfl 10 (by decide) (hts _ m_X0_makeOf_1) (fun _ h9 => h9) rfl dX0_makeOf_92 ?_
          refine lv_imul hx hb dX0_makeOf_95 ?_
          refine lv_iload_n hx hb dX0_makeOf_96 rfl (lv_at hl 2 rfl) ?_
          have g36 := nz_ne (gd_l hf)
          replace hf := gd_r hf
          refine lv_idiv hx hb dX0_makeOf_97 g36 ?_
          refine lv_iconst (v := 1) hx hb dX0_makeOf_98 (by decide) ?_
          refine lv_isub hx hb dX0_makeOf_99 ?_
          obtain ⟨r37, h38, hf⟩ := bd1_ob hf
          refine clVI (As := [.int ((((v5 + 1) * C_samples) / v2) - 1)]) (rest := []) X (c_X0_lastStanding l dC dI cI cJ cZ aC N C_sampled C_sampleStandings C_sizes C_ends C_lies C_merged C_reached C_done C_mergedBy C_parts C_samples C_bound C_ticks C_mergedInAll C_mergedAgain ((((v5 + 1) * C_samples) / v2) - 1) h38) (cwV 1 hts gX0_makeOf_X0_lastStanding rfl rfl rfl (by decide +kernel) ⟨Nat.le_of_ble_eq_true rfl, Nat.le_of_ble_eq_true rfl⟩) (ci := 0) (k0 := 0) rfl rfl rfl hw [7, 8, 9, 10, 11, 12, 13, 14, 15, 16] rfl rfl rfl rfl hl.1 rfl (Nat.le_of_ble_eq_true rfl) dX0_makeOf_100 ⟨Nat.zero_le _, Nat.zero_le _⟩ (fun H locs hw => ?_)
          replace hw : Wd (dC, dI) A s.heap H locs (w_RC aR aC cI cJ cZ R_members R_starts R_inOrder R_standing R_heads R_tails R_rowsInAll R_made R_all R_filled C_sampled C_sampleStandings C_sizes C_ends C_lies C_merged C_reached C_done C_mergedBy C_parts C_samples C_bound C_ticks C_mergedInAll C_mergedAgain) := hw
          cases hf
          exact jn _ _ _ hw (lv_sub hl [0, 1, 2, 3, 4] rfl)
        · replace hf := it_t hf b35
          refine lv_aload_n hx hb dX0_makeOf_77 rfl (lv_at hl 1 rfl) ?_
          refine va_getN (D := (dC, dI)) (ci := 5) (v := .int R_rowsInAll) (C := RX5) (T := TX5) (N := 10) hx hb hts i_X0_makeOf_X5 hown hK hw.1 0 rfl rfl 6 (by decide) (va_Nw.use rfl (hN _ nk_23)) (fun _ h9 => h9) rfl dX0_makeOf_78 ?_
          refine lv_iconst (v := 1) hx hb dX0_makeOf_81 (by decide) ?_
          refine lv_isub hx hb dX0_makeOf_82 ?_
          refine lv_goto (tgt := 103) hx hb dX0_makeOf_83 (by decide) ?_
          cases hf
          exact jn _ _ _ hw (lv_sub hl [0, 1, 2, 3, 4] rfl)
set_option maxHeartbeats 4000000 in
set_option maxRecDepth 100000 in
theorem c_X0_makeOf (l : Launch) (dC : Nat → ClassId) (dI : Nat → Nat → Nat) (cI cJ cZ : ClassId) (aR aC : Nat → Nat) (N : Nat) (R_members : (Nat → Int32)) (R_starts : (Nat → Int32)) (R_inOrder : (Nat → Int32)) (R_standing : (Nat → Int32)) (R_heads : (Nat → Int32)) (R_tails : (Nat → Int32)) (R_rowsInAll : Int32) (R_made : Int32) (R_all : Int32) (R_filled : Int32) (C_sampled : (Nat → Int32)) (C_sampleStandings : (Nat → Int32)) (C_sizes : (Nat → Int32)) (C_ends : (Nat → Int32)) (C_lies : (Nat → Int32)) (C_merged : (Nat → Int32)) (C_reached : (Nat → Int32)) (C_done : (Nat → Int32)) (C_mergedBy : (Nat → Int32)) (C_parts : Int32) (C_samples : Int32) (C_bound : Int32) (C_ticks : Int32) (C_mergedInAll : Int32) (C_mergedAgain : Int32) (v2 : Int32) (v3 : Int32) {o_C_sampled : (Nat → Int32)} {o_C_sampleStandings : (Nat → Int32)} {o_C_sizes : (Nat → Int32)} {o_C_ends : (Nat → Int32)} {o_C_merged : (Nat → Int32)} {o_C_reached : (Nat → Int32)} {o_C_done : (Nat → Int32)} {o_C_mergedBy : (Nat → Int32)} {o_C_parts : Int32} {o_C_samples : Int32} {o_C_bound : Int32} {o_C_ticks : Int32} {o_C_mergedInAll : Int32} {o_C_mergedAgain : Int32} (hf : f_X0_makeOf N R_members R_starts R_inOrder R_standing R_rowsInAll R_made R_all C_sampled C_sampleStandings C_sizes C_ends C_merged C_reached C_done C_mergedBy C_parts C_samples C_bound C_ticks C_mergedInAll C_mergedAgain v2 v3 = some (o_C_sampled, o_C_sampleStandings, o_C_sizes, o_C_ends, o_C_merged, o_C_reached, o_C_done, o_C_mergedBy, o_C_parts, o_C_samples, o_C_bound, o_C_ticks, o_C_mergedInAll, o_C_mergedAgain)) :
    CtV l yX0_makeOf wsX0_makeOf rm_X0_makeOf (dC, dI) (tyl cI cJ cZ) [.ref (aC 0), .ref (aR 0), .int v2, .int v3] (w_RC aR aC cI cJ cZ R_members R_starts R_inOrder R_standing R_heads R_tails R_rowsInAll R_made R_all R_filled C_sampled C_sampleStandings C_sizes C_ends C_lies C_merged C_reached C_done C_mergedBy C_parts C_samples C_bound C_ticks C_mergedInAll C_mergedAgain) (w_RC aR aC cI cJ cZ R_members R_starts R_inOrder R_standing R_heads R_tails R_rowsInAll R_made R_all R_filled o_C_sampled o_C_sampleStandings o_C_sizes o_C_ends C_lies o_C_merged o_C_reached o_C_done o_C_mergedBy o_C_parts o_C_samples o_C_bound o_C_ticks o_C_mergedInAll o_C_mergedAgain) := by
  refine startV (cc := cX0_makeOf) (maxL := 7) (rt := none) (by decide +kernel) rfl (Nat.le_of_ble_eq_true rfl) ?_
  intro p e s m below meth c A ls X hr hlocks hw hl
  replace X : Cx p m c cX0_makeOf 7 s _ wsX0_makeOf RX0 (dC, dI) (tyl cI cJ cZ) A := X
  replace hl : lv_has ls 7 [(0, .ref (aC 0)), (1, .ref (aR 0)), (2, .int v2), (3, .int v3)] := hl
  obtain ⟨hx, hb, hml, hown, hts⟩ := X.1
  have hK := X.2.1
  have hN := X.2.2.2
  unfold f_X0_makeOf at hf
  refine lv_aload_n hx hb dX0_makeOf_0 rfl (lv_at hl 0 rfl) ?_
  obtain ⟨c1, c2, c3, c4, c5, c6, c7, h8, hf⟩ := bd7_ob hf
  refine clVV (As := []) (rest := []) X (c_X0_forget l dC dI cI cJ cZ aC N C_sampled C_sampleStandings C_sizes C_ends C_lies C_merged C_reached C_done C_mergedBy C_parts C_samples C_bound C_ticks C_mergedInAll C_mergedAgain h8) (cwV 0 hts gX0_makeOf_X0_forget rfl rfl rfl (by decide +kernel) ⟨Nat.le_of_ble_eq_true rfl, Nat.le_of_ble_eq_true rfl⟩) (ci := 0) (k0 := 0) rfl rfl rfl hw [7, 8, 9, 10, 11, 12, 13, 14, 15, 16] rfl rfl rfl rfl hl.1 rfl (Nat.le_of_ble_eq_true rfl) dX0_makeOf_1 ⟨Nat.zero_le _, Nat.zero_le _⟩ (fun H locs hw => ?_)
  replace hw : Wd (dC, dI) A s.heap H locs (w_RC aR aC cI cJ cZ R_members R_starts R_inOrder R_standing R_heads R_tails R_rowsInAll R_made R_all R_filled C_sampled C_sampleStandings C_sizes C_ends C_lies C_merged C_reached C_done c1 c2 c3 c4 c5 c6 c7) := hw
  refine lv_iload_n hx hb dX0_makeOf_4 rfl (lv_at hl 2 rfl) ?_
  refine lv_iconst (v := 1) hx hb dX0_makeOf_5 (by decide) ?_
  refine lv_icmp_lt (tgt := 20) hx hb dX0_makeOf_6 (by decide) (fun b9 => ?_) (fun b9 => ?_)
  · replace hf := it_t hf b9
    cases hf
    exact endV X hr hlocks hw dX0_makeOf_20
  · replace hf := it_f hf b9
    refine lv_iload_n hx hb dX0_makeOf_9 rfl (lv_at hl 2 rfl) ?_
    refine lv_bipush (v := 8) hx hb dX0_makeOf_10 (by decide) ?_
    refine lv_icmp_gt (tgt := 20) hx hb dX0_makeOf_12 (by decide) (fun b10 => ?_) (fun b10 => ?_)
    · replace hf := it_t hf b10
      cases hf
      exact endV X hr hlocks hw dX0_makeOf_20
    · replace hf := it_f hf b10
      refine lv_iload_n hx hb dX0_makeOf_15 rfl (lv_at hl 3 rfl) ?_
      refine lv_iconst (v := 1) hx hb dX0_makeOf_16 (by decide) ?_
      refine lv_icmp_ge (tgt := 21) hx hb dX0_makeOf_17 (by decide) (fun b11 => ?_) (fun b11 => ?_)
      · replace hf := it_t hf b11
        refine lv_aload_n hx hb dX0_makeOf_21 rfl (lv_at hl 0 rfl) ?_
        refine lv_aload_n hx hb dX0_makeOf_22 rfl (lv_at hl 1 rfl) ?_
        refine lv_iload_n hx hb dX0_makeOf_23 rfl (lv_at hl 3 rfl) ?_
        obtain ⟨c12, c13, c14, h15, hf⟩ := bd3_ob hf
        refine clFV (As := [.ref (aR 0), .int v3]) (rest := []) X (c_X0_takeSamples l dC dI cI cJ cZ aR aC N R_members R_starts R_inOrder R_standing R_heads R_tails R_rowsInAll R_made R_all R_filled C_sampled C_sampleStandings C_sizes C_ends C_lies C_merged C_reached C_done c1 c2 c3 c4 c5 c6 c7 v3 h15) (cwV 2 hts gX0_makeOf_X0_takeSamples rfl rfl rfl (by decide +kernel) ⟨Nat.le_of_ble_eq_true rfl, Nat.le_of_ble_eq_true rfl⟩) (ci := 0) (k0 := 7) rfl rfl rfl hw rfl rfl hl.1 rfl (Nat.le_of_ble_eq_true rfl) dX0_makeOf_24 ⟨Nat.zero_le _, Nat.zero_le _⟩ (fun H locs hw => ?_)
        refine lv_aload_n hx hb dX0_makeOf_27 rfl (lv_at hl 0 rfl) ?_
        refine lv_iload_n hx hb dX0_makeOf_28 rfl (lv_at hl 2 rfl) ?_
        refine g_put (D := (dC, dI)) (ci := 0) (v := .int v2) (ty := .int) (C := RX0) (T := TX0) (N := 15) hx hb hts i_X0_makeOf_X0 tyX0 tyX0_ok nmX0 hown hK hw 7 rfl rfl 9 (by decide) (hts _ m_X0_makeOf_0) (fun _ h9 => h9) rfl (by decide +kernel) rfl rfl (Nat.le_of_ble_eq_true rfl) dX0_makeOf_29 (fun H locs hw => ?_)
        replace hw : Wd (dC, dI) A s.heap H locs (w_RC aR aC cI cJ cZ R_members R_starts R_inOrder R_standing R_heads R_tails R_rowsInAll R_made R_all R_filled c12 c13 C_sizes C_ends C_lies C_merged C_reached C_done c1 v2 c14 c4 c5 c6 c7) := hw
        refine lv_aload_n hx hb dX0_makeOf_32 rfl (lv_at hl 0 rfl) ?_
        refine lv_iload_n hx hb dX0_makeOf_33 rfl (lv_at hl 3 rfl) ?_
        refine lv_aload_n hx hb dX0_makeOf_34 rfl (lv_at hl 0 rfl) ?_
        refine va_get (D := (dC, dI)) (ci := 0) (v := .int c14) (C := RX0) (T := TX0) (N := 15) hx hb hts i_X0_makeOf_X0 hown hK hw.1 7 rfl rfl 10 (by decide) (hts _ m_X0_makeOf_1) (fun _ h9 => h9) rfl dX0_makeOf_35 ?_
        refine lv_iload_n hx hb dX0_makeOf_38 rfl (lv_at hl 2 rfl) ?_
        refine lv_iadd hx hb dX0_makeOf_39 ?_
        refine lv_iconst (v := 1) hx hb dX0_makeOf_40 (by decide) ?_
        refine lv_isub hx hb dX0_makeOf_41 ?_
        refine lv_iload_n hx hb dX0_makeOf_42 rfl (lv_at hl 2 rfl) ?_
        have g16 := nz_ne (gd_l hf)
        replace hf := gd_r hf
        refine lv_idiv hx hb dX0_makeOf_43 g16 ?_
        refine lv_imul hx hb dX0_makeOf_44 ?_
        refine lv_iload_n hx hb dX0_makeOf_45 rfl (lv_at hl 3 rfl) ?_
        refine lv_iconst (v := 1) hx hb dX0_makeOf_46 (by decide) ?_
        refine lv_isub hx hb dX0_makeOf_47 ?_
        refine lv_aload_n hx hb dX0_makeOf_48 rfl (lv_at hl 1 rfl) ?_
        refine va_getN (D := (dC, dI)) (ci := 5) (v := .int R_made) (C := RX5) (T := TX5) (N := 10) hx hb hts i_X0_makeOf_X5 hown hK hw.1 0 rfl rfl 7 (by decide) (va_Nw.use rfl (hN _ nk_22)) (fun _ h9 => h9) rfl dX0_makeOf_49 ?_
        refine lv_imul hx hb dX0_makeOf_52 ?_
        refine lv_iadd hx hb dX0_makeOf_53 ?_
        refine lv_topi (fun x17 ex17 => ?_)
        replace hf := nl_at hf ex17
        refine g_put (D := (dC, dI)) (ci := 0) (v := .int x17) (ty := .int) (C := RX0) (T := TX0) (N := 15) hx hb hts i_X0_makeOf_X0 tyX0 tyX0_ok nmX0 hown hK hw 7 rfl rfl 11 (by decide) (hts _ m_X0_makeOf_2) (fun _ h9 => h9) rfl (by decide +kernel) rfl rfl (Nat.le_of_ble_eq_true rfl) dX0_makeOf_54 (fun H locs hw => ?_)
        replace hw : Wd (dC, dI) A s.heap H locs (w_RC aR aC cI cJ cZ R_members R_starts R_inOrder R_standing R_heads R_tails R_rowsInAll R_made R_all R_filled c12 c13 C_sizes C_ends C_lies C_merged C_reached C_done c1 v2 c14 x17 c5 c6 c7) := hw
        refine lv_iconst (v := 0) hx hb dX0_makeOf_57 (by decide) ?_
        refine lv_istore (lv' := [(4, .int 0), (0, .ref (aC 0)), (1, .ref (aR 0)), (2, .int v2), (3, .int v3)]) hx hb dX0_makeOf_58 hl (by decide) rfl (fun ls hl => ?_)
        refine lv_iconst (v := 0) hx hb dX0_makeOf_60 (by decide) ?_
        refine lv_istore (lv' := [(5, .int 0), (4, .int 0), (0, .ref (aC 0)), (1, .ref (aR 0)), (2, .int v2), (3, .int v3)]) hx hb dX0_makeOf_61 hl (by decide) rfl (fun ls hl => ?_)
        obtain ⟨e39, e40, e41, e42, e43, h44, hf⟩ := bd5_ob hf
        refine t_X0_makeOf_63 aR aC X N R_members R_starts R_inOrder R_standing R_heads R_tails R_rowsInAll R_made R_all R_filled c12 c13 C_lies c1 v2 c14 x17 c5 c6 c7 v2 N _ _ _ _ _ _ _ _ _ _ _ _ h44 _ _ _ hw (lv_sub hl [2, 3, 4, 1, 0] rfl) (fun H locs ls hw hl => ?_)
        cases hf
        exact endV X hr hlocks hw dX0_makeOf_170
      · replace hf := it_f hf b11
        cases hf
        exact endV X hr hlocks hw dX0_makeOf_20
def rm_X0_leftOn : Room := { frames := 0, cells := 0, slots := 0, locals := 0 }
set_option maxRecDepth 20000 in
theorem i_X0_leftOn_X0 : ∀ w ∈ u_ws RX0 TX0 15, w ∈ wsX0_leftOn := by decide +kernel
set_option maxRecDepth 20000 in
theorem m_X0_leftOn_0 : Cond.fieldLink RX0 40 "GreatSort$Cut" "parts" "I" ∈ wsX0_leftOn := by decide +kernel
set_option maxRecDepth 20000 in
theorem m_X0_leftOn_1 : Cond.fieldLink RX0 25 "GreatSort$Cut" "lies" "[I" ∈ wsX0_leftOn := by decide +kernel
set_option maxRecDepth 20000 in
theorem m_X0_leftOn_2 : Cond.fieldLink RX0 19 "GreatSort$Cut" "sizes" "[I" ∈ wsX0_leftOn := by decide +kernel
set_option maxRecDepth 20000 in
theorem m_X0_leftOn_3 : Cond.fieldLink RX0 28 "GreatSort$Cut" "merged" "[I" ∈ wsX0_leftOn := by decide +kernel
set_option maxHeartbeats 4000000 in
set_option maxRecDepth 100000 in
theorem t_X0_leftOn_4 {p : Program} {l : Launch} {e : Env} {s : State} {m : MethodId} {args : Array Value} {below : List Frame} {meth : Method} {c : Code} {Q : State → Prop} {dC : Nat → ClassId} {dI : Nat → Nat → Nat} {cI cJ cZ : ClassId} {A : Nat → Prop} (aC : Nat → Nat) (X : Cx p m c cX0_leftOn 4 s args wsX0_leftOn RX0 (dC, dI) (tyl cI cJ cZ) A) (N : Nat) (C_sampled : (Nat → Int32)) (C_sampleStandings : (Nat → Int32)) (C_sizes : (Nat → Int32)) (C_ends : (Nat → Int32)) (C_lies : (Nat → Int32)) (C_merged : (Nat → Int32)) (C_reached : (Nat → Int32)) (C_done : (Nat → Int32)) (C_mergedBy : (Nat → Int32)) (C_parts : Int32) (C_samples : Int32) (C_bound : Int32) (C_ticks : Int32) (C_mergedInAll : Int32) (C_mergedAgain : Int32) (v1 : Int32) :
    ∀ (n : Nat) (v2 : Int32) (v3 : Int32) (e2 : Int32), l_X0_leftOn_4 N C_sizes C_lies C_merged C_parts v1 n v2 v3 = some e2 → ∀ (H : Heap) (locs : List Loc) (ls : Array Slot), Wd (dC, dI) A s.heap H locs (w_C aC cI cJ cZ C_sampled C_sampleStandings C_sizes C_ends C_lies C_merged C_reached C_done C_mergedBy C_parts C_samples C_bound C_ticks C_mergedInAll C_mergedAgain) → lv_has ls 4 [(0, .ref (aC 0)), (1, .int v1), (2, .int v2), (3, .int v3)] → (∀ (H : Heap) (locs : List Loc) (ls : Array Slot), Wd (dC, dI) A s.heap H locs (w_C aC cI cJ cZ C_sampled C_sampleStandings C_sizes C_ends C_lies C_merged C_reached C_done C_mergedBy C_parts C_samples C_bound C_ticks C_mergedInAll C_mergedAgain) → lv_has ls 4 [(2, .int e2)] → W p l e rm_X0_leftOn s m args below meth c H locs 0 0 Q (F0 m 44 ls [])) → W p l e rm_X0_leftOn s m args below meth c H locs 0 0 Q (F0 m 4 ls []) := by
  obtain ⟨hx, hb, hml, hown, hts⟩ := X.1
  have hK := X.2.1
  have hN := X.2.2.2
  intro n
  induction n with
  | zero =>
    intro _ _ _ hf
    cases hf
  | succ n ih =>
    intro v2 v3 e2 hf H locs ls hw hl kx
    rw [l_X0_leftOn_4] at hf
    refine lv_iload_n hx hb dX0_leftOn_4 rfl (lv_at hl 3 rfl) ?_
    refine lv_aload_n hx hb dX0_leftOn_5 rfl (lv_at hl 0 rfl) ?_
    refine va_get (D := (dC, dI)) (ci := 0) (v := .int C_parts) (C := RX0) (T := TX0) (N := 15) hx hb hts i_X0_leftOn_X0 hown hK hw.1 0 rfl rfl 9 (by decide) (hts _ m_X0_leftOn_0) (fun _ h9 => h9) rfl dX0_leftOn_6 ?_
    refine lv_icmp_ge (tgt := 44) hx hb dX0_leftOn_9 (by decide) (fun b1 => ?_) (fun b1 => ?_)
    · replace hf := it_t hf b1
      cases hf
      exact kx _ _ _ hw (lv_sub hl [2] rfl)
    · replace hf := it_f hf b1
      refine lv_aload_n hx hb dX0_leftOn_12 rfl (lv_at hl 0 rfl) ?_
      refine va_get (D := (dC, dI)) (ci := 0) (v := .ref (aC 5)) (C := RX0) (T := TX0) (N := 15) hx hb hts i_X0_leftOn_X0 hown hK hw.1 0 rfl rfl 4 (by decide) (hts _ m_X0_leftOn_1) (fun _ h9 => h9) rfl dX0_leftOn_13 ?_
      refine lv_iload_n hx hb dX0_leftOn_16 rfl (lv_at hl 3 rfl) ?_
      have g2 := ix_in (gd_l hf)
      replace hf := gd_r hf
      refine va_iald hx hb hK hw.1 5 0 rfl rfl g2 dX0_leftOn_17 ?_
      refine lv_iload_n hx hb dX0_leftOn_18 rfl (lv_at hl 1 rfl) ?_
      refine lv_icmp_ne (tgt := 38) hx hb dX0_leftOn_19 (by decide) (fun b3 => ?_) (fun b3 => ?_)
      · replace hf := it_f hf b3
        obtain ⟨x4, ex4⟩ : ∃ y : Int32, y = v3 + 1 := ⟨_, rfl⟩
        replace hf := nl_at hf ex4
        refine lv_iinc (v := x4) (lv' := [(3, .int x4), (0, .ref (aC 0)), (1, .int v1), (2, .int v2)]) hx hb dX0_leftOn_38 hl (k := 3) rfl (by rw [ex4]; rfl) (by decide) rfl (fun ls hl => ?_)
        refine lv_goto (tgt := 4) hx hb dX0_leftOn_41 (by decide) ?_
        exact ih _ _ _ hf _ _ _ hw (lv_sub hl [1, 2, 3, 0] rfl) kx
      · replace hf := it_t hf b3
        refine lv_iload_n hx hb dX0_leftOn_22 rfl (lv_at hl 2 rfl) ?_
        refine lv_aload_n hx hb dX0_leftOn_23 rfl (lv_at hl 0 rfl) ?_
        refine va_get (D := (dC, dI)) (ci := 0) (v := .ref (aC 3)) (C := RX0) (T := TX0) (N := 15) hx hb hts i_X0_leftOn_X0 hown hK hw.1 0 rfl rfl 2 (by decide) (hts _ m_X0_leftOn_2) (fun _ h9 => h9) rfl dX0_leftOn_24 ?_
        refine lv_iload_n hx hb dX0_leftOn_27 rfl (lv_at hl 3 rfl) ?_
        have g5 := ix_in (gd_l hf)
        replace hf := gd_r hf
        refine va_iald hx hb hK hw.1 3 0 rfl rfl g5 dX0_leftOn_28 ?_
        refine lv_aload_n hx hb dX0_leftOn_29 rfl (lv_at hl 0 rfl) ?_
        refine va_get (D := (dC, dI)) (ci := 0) (v := .ref (aC 6)) (C := RX0) (T := TX0) (N := 15) hx hb hts i_X0_leftOn_X0 hown hK hw.1 0 rfl rfl 5 (by decide) (hts _ m_X0_leftOn_3) (fun _ h9 => h9) rfl dX0_leftOn_30 ?_
        refine lv_iload_n hx hb dX0_leftOn_33 rfl (lv_at hl 3 rfl) ?_
        have g6 := ix_in (gd_l hf)
        replace hf := gd_r hf
        refine va_iald hx hb hK hw.1 6 0 rfl rfl g6 dX0_leftOn_34 ?_
        refine lv_isub hx hb dX0_leftOn_35 ?_
        refine lv_iadd hx hb dX0_leftOn_36 ?_
        refine lv_topi (fun x7 ex7 => ?_)
        replace hf := nl_at hf ex7
        refine lv_istore_n (lv' := [(2, .int x7), (0, .ref (aC 0)), (1, .int v1), (3, .int v3)]) hx hb dX0_leftOn_37 rfl hl (by decide) rfl (fun ls hl => ?_)
        obtain ⟨x8, ex8⟩ : ∃ y : Int32, y = v3 + 1 := ⟨_, rfl⟩
        replace hf := nl_at hf ex8
        refine lv_iinc (v := x8) (lv' := [(3, .int x8), (2, .int x7), (0, .ref (aC 0)), (1, .int v1)]) hx hb dX0_leftOn_38 hl (k := 3) rfl (by rw [ex8]; rfl) (by decide) rfl (fun ls hl => ?_)
        refine lv_goto (tgt := 4) hx hb dX0_leftOn_41 (by decide) ?_
        exact ih _ _ _ hf _ _ _ hw (lv_sub hl [2, 3, 1, 0] rfl) kx
set_option maxHeartbeats 4000000 in
set_option maxRecDepth 100000 in
theorem c_X0_leftOn (l : Launch) (dC : Nat → ClassId) (dI : Nat → Nat → Nat) (cI cJ cZ : ClassId) (aC : Nat → Nat) (N : Nat) (C_sampled : (Nat → Int32)) (C_sampleStandings : (Nat → Int32)) (C_sizes : (Nat → Int32)) (C_ends : (Nat → Int32)) (C_lies : (Nat → Int32)) (C_merged : (Nat → Int32)) (C_reached : (Nat → Int32)) (C_done : (Nat → Int32)) (C_mergedBy : (Nat → Int32)) (C_parts : Int32) (C_samples : Int32) (C_bound : Int32) (C_ticks : Int32) (C_mergedInAll : Int32) (C_mergedAgain : Int32) (v1 : Int32) {r : Int32} (hf : f_X0_leftOn N C_sizes C_lies C_merged C_parts v1 = some r) :
    CtI l yX0_leftOn wsX0_leftOn rm_X0_leftOn (dC, dI) (tyl cI cJ cZ) [.ref (aC 0), .int v1] (w_C aC cI cJ cZ C_sampled C_sampleStandings C_sizes C_ends C_lies C_merged C_reached C_done C_mergedBy C_parts C_samples C_bound C_ticks C_mergedInAll C_mergedAgain) (w_C aC cI cJ cZ C_sampled C_sampleStandings C_sizes C_ends C_lies C_merged C_reached C_done C_mergedBy C_parts C_samples C_bound C_ticks C_mergedInAll C_mergedAgain) r := by
  refine startI (cc := cX0_leftOn) (maxL := 4) (rt := (some .int)) (by decide +kernel) rfl (Nat.le_of_ble_eq_true rfl) ?_
  intro p e s m below meth c A ls X hr hlocks hw hl
  replace X : Cx p m c cX0_leftOn 4 s _ wsX0_leftOn RX0 (dC, dI) (tyl cI cJ cZ) A := X
  replace hl : lv_has ls 4 [(0, .ref (aC 0)), (1, .int v1)] := hl
  obtain ⟨hx, hb, hml, hown, hts⟩ := X.1
  have hK := X.2.1
  have hN := X.2.2.2
  unfold f_X0_leftOn at hf
  refine lv_iconst (v := 0) hx hb dX0_leftOn_0 (by decide) ?_
  refine lv_istore_n (lv' := [(2, .int 0), (0, .ref (aC 0)), (1, .int v1)]) hx hb dX0_leftOn_1 rfl hl (by decide) rfl (fun ls hl => ?_)
  refine lv_iconst (v := 0) hx hb dX0_leftOn_2 (by decide) ?_
  refine lv_istore_n (lv' := [(3, .int 0), (2, .int 0), (0, .ref (aC 0)), (1, .int v1)]) hx hb dX0_leftOn_3 rfl hl (by decide) rfl (fun ls hl => ?_)
  obtain ⟨e9, h10, hf⟩ := bd1_ob hf
  refine t_X0_leftOn_4 aC X N C_sampled C_sampleStandings C_sizes C_ends C_lies C_merged C_reached C_done C_mergedBy C_parts C_samples C_bound C_ticks C_mergedInAll C_mergedAgain v1 N _ _ _ h10 _ _ _ hw (lv_sub hl [2, 3, 1, 0] rfl) (fun H locs ls hw hl => ?_)
  refine lv_iload_n hx hb dX0_leftOn_44 rfl (lv_at hl 0 rfl) ?_
  cases hf
  exact endI X hr rfl hlocks rfl hw dX0_leftOn_45
def rm_X0_leastLaden : Room := { frames := 1, cells := 0, slots := 0, locals := 23 }
set_option maxRecDepth 20000 in
theorem i_X0_leastLaden_X2 : ∀ w ∈ u_ws RX2 TX2 2, w ∈ wsX0_leastLaden := by decide +kernel
set_option maxHeartbeats 4000000 in
set_option maxRecDepth 100000 in
theorem t_X0_leastLaden_7 {p : Program} {l : Launch} {e : Env} {s : State} {m : MethodId} {args : Array Value} {below : List Frame} {meth : Method} {c : Code} {Q : State → Prop} {dC : Nat → ClassId} {dI : Nat → Nat → Nat} {cI cJ cZ : ClassId} {A : Nat → Prop} (aC aO : Nat → Nat) (X : Cx p m c cX0_leastLaden 6 s args wsX0_leastLaden RX0 (dC, dI) (tyl cI cJ cZ) A) (N : Nat) (C_sampled : (Nat → Int32)) (C_sampleStandings : (Nat → Int32)) (C_sizes : (Nat → Int32)) (C_ends : (Nat → Int32)) (C_lies : (Nat → Int32)) (C_merged : (Nat → Int32)) (C_reached : (Nat → Int32)) (C_done : (Nat → Int32)) (C_mergedBy : (Nat → Int32)) (C_parts : Int32) (C_samples : Int32) (C_bound : Int32) (C_ticks : Int32) (C_mergedInAll : Int32) (C_mergedAgain : Int32) (O_paces : (Nat → Int32)) (O_up : (Nat → Int32))  :
    ∀ (n : Nat) (v2 : Int32) (v3 : Int32) (v4 : Int32) (e2 : Int32), l_X0_leastLaden_7 N C_sizes C_lies C_merged C_parts O_up n v2 v3 v4 = some e2 → ∀ (H : Heap) (locs : List Loc) (ls : Array Slot), Wd (dC, dI) A s.heap H locs (w_CO aC aO cI cJ cZ C_sampled C_sampleStandings C_sizes C_ends C_lies C_merged C_reached C_done C_mergedBy C_parts C_samples C_bound C_ticks C_mergedInAll C_mergedAgain O_paces O_up) → lv_has ls 6 [(0, .ref (aC 0)), (1, .ref (aO 0)), (2, .int v2), (3, .int v3), (4, .int v4)] → (∀ (H : Heap) (locs : List Loc) (ls : Array Slot), Wd (dC, dI) A s.heap H locs (w_CO aC aO cI cJ cZ C_sampled C_sampleStandings C_sizes C_ends C_lies C_merged C_reached C_done C_mergedBy C_parts C_samples C_bound C_ticks C_mergedInAll C_mergedAgain O_paces O_up) → lv_has ls 6 [(2, .int e2)] → W p l e rm_X0_leastLaden s m args below meth c H locs 0 0 Q (F0 m 58 ls [])) → W p l e rm_X0_leastLaden s m args below meth c H locs 0 0 Q (F0 m 7 ls []) := by
  obtain ⟨hx, hb, hml, hown, hts⟩ := X.1
  have hK := X.2.1
  have hN := X.2.2.2
  intro n
  induction n with
  | zero =>
    intro _ _ _ _ hf
    cases hf
  | succ n ih =>
    intro v2 v3 v4 e2 hf H locs ls hw hl kx
    rw [l_X0_leastLaden_7] at hf
    refine lv_iload hx hb dX0_leastLaden_7 (lv_at hl 4 rfl) ?_
    refine lv_bipush (v := 8) hx hb dX0_leastLaden_9 (by decide) ?_
    refine lv_icmp_ge (tgt := 58) hx hb dX0_leastLaden_11 (by decide) (fun b1 => ?_) (fun b1 => ?_)
    · replace hf := it_t hf b1
      cases hf
      exact kx _ _ _ hw (lv_sub hl [2] rfl)
    · replace hf := it_f hf b1
      refine lv_aload_n hx hb dX0_leastLaden_14 rfl (lv_at hl 1 rfl) ?_
      refine va_getN (D := (dC, dI)) (ci := 2) (v := .ref (aO 2)) (C := RX2) (T := TX2) (N := 2) hx hb hts i_X0_leastLaden_X2 hown hK hw.1 10 rfl rfl 1 (by decide) (va_Nw.use rfl (hN _ nk_24)) (fun _ h9 => h9) rfl dX0_leastLaden_15 ?_
      refine lv_iload hx hb dX0_leastLaden_18 (lv_at hl 4 rfl) ?_
      have g2 := ix_in (gd_l hf)
      replace hf := gd_r hf
      refine va_zald hx hb hK hw.1 12 2 rfl rfl g2 dX0_leastLaden_20 ?_
      refine lv_if_ne (tgt := 27) hx hb dX0_leastLaden_21 (by decide) (fun b3 => ?_) (fun b3 => ?_)
      · replace hf := it_f hf b3
        refine lv_aload_n hx hb dX0_leastLaden_27 rfl (lv_at hl 0 rfl) ?_
        refine lv_iload hx hb dX0_leastLaden_28 (lv_at hl 4 rfl) ?_
        obtain ⟨r4, h5, hf⟩ := bd1_ob hf
        refine clVI (As := [.int v4]) (rest := []) X (c_X0_leftOn l dC dI cI cJ cZ aC N C_sampled C_sampleStandings C_sizes C_ends C_lies C_merged C_reached C_done C_mergedBy C_parts C_samples C_bound C_ticks C_mergedInAll C_mergedAgain v4 h5) (cwV 1 hts gX0_leastLaden_X0_leftOn rfl rfl rfl (by decide +kernel) ⟨Nat.le_of_ble_eq_true rfl, Nat.le_of_ble_eq_true rfl⟩) (ci := 0) (k0 := 0) rfl rfl rfl hw [0, 1, 2, 3, 4, 5, 6, 7, 8, 9] rfl rfl rfl rfl hl.1 rfl (Nat.le_of_ble_eq_true rfl) dX0_leastLaden_30 ⟨Nat.zero_le _, Nat.zero_le _⟩ (fun H locs hw => ?_)
        replace hw : Wd (dC, dI) A s.heap H locs (w_CO aC aO cI cJ cZ C_sampled C_sampleStandings C_sizes C_ends C_lies C_merged C_reached C_done C_mergedBy C_parts C_samples C_bound C_ticks C_mergedInAll C_mergedAgain O_paces O_up) := hw
        refine lv_istore (lv' := [(5, .int r4), (0, .ref (aC 0)), (1, .ref (aO 0)), (2, .int v2), (3, .int v3), (4, .int v4)]) hx hb dX0_leastLaden_33 hl (by decide) rfl (fun ls hl => ?_)
        refine lv_iload_n hx hb dX0_leastLaden_35 rfl (lv_at hl 3 rfl) ?_
        refine lv_iconst (v := (-1)) hx hb dX0_leastLaden_36 (by decide) ?_
        refine lv_icmp_eq (tgt := 46) hx hb dX0_leastLaden_37 (by decide) (fun b6 => ?_) (fun b6 => ?_)
        · replace hf := it_t hf b6
          refine lv_iload hx hb dX0_leastLaden_46 (lv_at hl 5 rfl) ?_
          refine lv_istore_n (lv' := [(2, .int v4), (5, .int r4), (0, .ref (aC 0)), (1, .ref (aO 0)), (3, .int v3), (4, .int v4)]) hx hb dX0_leastLaden_48 rfl hl (by decide) rfl (fun ls hl => ?_)
          refine lv_iload hx hb dX0_leastLaden_49 (lv_at hl 1 rfl) ?_
          refine lv_istore_n (lv' := [(3, .int r4), (2, .int v4), (5, .int r4), (0, .ref (aC 0)), (1, .ref (aO 0)), (4, .int v4)]) hx hb dX0_leastLaden_51 rfl hl (by decide) rfl (fun ls hl => ?_)
          obtain ⟨x7, ex7⟩ : ∃ y : Int32, y = v4 + 1 := ⟨_, rfl⟩
          replace hf := nl_at hf ex7
          refine lv_iinc (v := x7) (lv' := [(4, .int x7), (3, .int r4), (2, .int v4), (5, .int r4), (0, .ref (aC 0)), (1, .ref (aO 0))]) hx hb dX0_leastLaden_52 hl (k := 5) rfl (by rw [ex7]; rfl) (by decide) rfl (fun ls hl => ?_)
          refine lv_goto (tgt := 7) hx hb dX0_leastLaden_55 (by decide) ?_
          exact ih _ _ _ _ hf _ _ _ hw (lv_sub hl [4, 5, 2, 1, 0] rfl) kx
        · replace hf := it_f hf b6
          refine lv_iload hx hb dX0_leastLaden_40 (lv_at hl 0 rfl) ?_
          refine lv_iload_n hx hb dX0_leastLaden_42 rfl (lv_at hl 4 rfl) ?_
          refine lv_icmp_ge (tgt := 52) hx hb dX0_leastLaden_43 (by decide) (fun b8 => ?_) (fun b8 => ?_)
          · replace hf := it_t hf b8
            obtain ⟨x9, ex9⟩ : ∃ y : Int32, y = v4 + 1 := ⟨_, rfl⟩
            replace hf := nl_at hf ex9
            refine lv_iinc (v := x9) (lv' := [(4, .int x9), (5, .int r4), (0, .ref (aC 0)), (1, .ref (aO 0)), (2, .int v2), (3, .int v3)]) hx hb dX0_leastLaden_52 hl (k := 5) rfl (by rw [ex9]; rfl) (by decide) rfl (fun ls hl => ?_)
            refine lv_goto (tgt := 7) hx hb dX0_leastLaden_55 (by decide) ?_
            exact ih _ _ _ _ hf _ _ _ hw (lv_sub hl [2, 3, 4, 5, 0] rfl) kx
          · replace hf := it_f hf b8
            refine lv_iload hx hb dX0_leastLaden_46 (lv_at hl 5 rfl) ?_
            refine lv_istore_n (lv' := [(2, .int v4), (5, .int r4), (0, .ref (aC 0)), (1, .ref (aO 0)), (3, .int v3), (4, .int v4)]) hx hb dX0_leastLaden_48 rfl hl (by decide) rfl (fun ls hl => ?_)
            refine lv_iload hx hb dX0_leastLaden_49 (lv_at hl 1 rfl) ?_
            refine lv_istore_n (lv' := [(3, .int r4), (2, .int v4), (5, .int r4), (0, .ref (aC 0)), (1, .ref (aO 0)), (4, .int v4)]) hx hb dX0_leastLaden_51 rfl hl (by decide) rfl (fun ls hl => ?_)
            obtain ⟨x10, ex10⟩ : ∃ y : Int32, y = v4 + 1 := ⟨_, rfl⟩
            replace hf := nl_at hf ex10
            refine lv_iinc (v := x10) (lv' := [(4, .int x10), (3, .int r4), (2, .int v4), (5, .int r4), (0, .ref (aC 0)), (1, .ref (aO 0))]) hx hb dX0_leastLaden_52 hl (k := 5) rfl (by rw [ex10]; rfl) (by decide) rfl (fun ls hl => ?_)
            refine lv_goto (tgt := 7) hx hb dX0_leastLaden_55 (by decide) ?_
            exact ih _ _ _ _ hf _ _ _ hw (lv_sub hl [4, 5, 2, 1, 0] rfl) kx
      · replace hf := it_t hf b3
        refine lv_goto (tgt := 52) hx hb dX0_leastLaden_24 (by decide) ?_
        obtain ⟨x11, ex11⟩ : ∃ y : Int32, y = v4 + 1 := ⟨_, rfl⟩
        replace hf := nl_at hf ex11
        refine lv_iinc (v := x11) (lv' := [(4, .int x11), (0, .ref (aC 0)), (1, .ref (aO 0)), (2, .int v2), (3, .int v3)]) hx hb dX0_leastLaden_52 hl (k := 4) rfl (by rw [ex11]; rfl) (by decide) rfl (fun ls hl => ?_)
        refine lv_goto (tgt := 7) hx hb dX0_leastLaden_55 (by decide) ?_
        exact ih _ _ _ _ hf _ _ _ hw (lv_sub hl [1, 2, 3, 4, 0] rfl) kx
set_option maxHeartbeats 4000000 in
set_option maxRecDepth 100000 in
theorem c_X0_leastLaden (l : Launch) (dC : Nat → ClassId) (dI : Nat → Nat → Nat) (cI cJ cZ : ClassId) (aC aO : Nat → Nat) (N : Nat) (C_sampled : (Nat → Int32)) (C_sampleStandings : (Nat → Int32)) (C_sizes : (Nat → Int32)) (C_ends : (Nat → Int32)) (C_lies : (Nat → Int32)) (C_merged : (Nat → Int32)) (C_reached : (Nat → Int32)) (C_done : (Nat → Int32)) (C_mergedBy : (Nat → Int32)) (C_parts : Int32) (C_samples : Int32) (C_bound : Int32) (C_ticks : Int32) (C_mergedInAll : Int32) (C_mergedAgain : Int32) (O_paces : (Nat → Int32)) (O_up : (Nat → Int32))  {r : Int32} (hf : f_X0_leastLaden N C_sizes C_lies C_merged C_parts O_up  = some r) :
    CtI l yX0_leastLaden wsX0_leastLaden rm_X0_leastLaden (dC, dI) (tyl cI cJ cZ) [.ref (aC 0), .ref (aO 0)] (w_CO aC aO cI cJ cZ C_sampled C_sampleStandings C_sizes C_ends C_lies C_merged C_reached C_done C_mergedBy C_parts C_samples C_bound C_ticks C_mergedInAll C_mergedAgain O_paces O_up) (w_CO aC aO cI cJ cZ C_sampled C_sampleStandings C_sizes C_ends C_lies C_merged C_reached C_done C_mergedBy C_parts C_samples C_bound C_ticks C_mergedInAll C_mergedAgain O_paces O_up) r := by
  refine startI (cc := cX0_leastLaden) (maxL := 6) (rt := (some .int)) (by decide +kernel) rfl (Nat.le_of_ble_eq_true rfl) ?_
  intro p e s m below meth c A ls X hr hlocks hw hl
  replace X : Cx p m c cX0_leastLaden 6 s _ wsX0_leastLaden RX0 (dC, dI) (tyl cI cJ cZ) A := X
  replace hl : lv_has ls 6 [(0, .ref (aC 0)), (1, .ref (aO 0))] := hl
  obtain ⟨hx, hb, hml, hown, hts⟩ := X.1
  have hK := X.2.1
  have hN := X.2.2.2
  unfold f_X0_leastLaden at hf
  refine lv_iconst (v := (-1)) hx hb dX0_leastLaden_0 (by decide) ?_
  refine lv_istore_n (lv' := [(2, .int (-1)), (0, .ref (aC 0)), (1, .ref (aO 0))]) hx hb dX0_leastLaden_1 rfl hl (by decide) rfl (fun ls hl => ?_)
  refine lv_iconst (v := 0) hx hb dX0_leastLaden_2 (by decide) ?_
  refine lv_istore_n (lv' := [(3, .int 0), (2, .int (-1)), (0, .ref (aC 0)), (1, .ref (aO 0))]) hx hb dX0_leastLaden_3 rfl hl (by decide) rfl (fun ls hl => ?_)
  refine lv_iconst (v := 0) hx hb dX0_leastLaden_4 (by decide) ?_
  refine lv_istore (lv' := [(4, .int 0), (3, .int 0), (2, .int (-1)), (0, .ref (aC 0)), (1, .ref (aO 0))]) hx hb dX0_leastLaden_5 hl (by decide) rfl (fun ls hl => ?_)
  obtain ⟨e12, h13, hf⟩ := bd1_ob hf
  refine t_X0_leastLaden_7 aC aO X N C_sampled C_sampleStandings C_sizes C_ends C_lies C_merged C_reached C_done C_mergedBy C_parts C_samples C_bound C_ticks C_mergedInAll C_mergedAgain O_paces O_up N _ _ _ _ h13 _ _ _ hw (lv_sub hl [3, 4, 2, 1, 0] rfl) (fun H locs ls hw hl => ?_)
  refine lv_iload_n hx hb dX0_leastLaden_58 rfl (lv_at hl 0 rfl) ?_
  cases hf
  exact endI X hr rfl hlocks rfl hw dX0_leastLaden_59
def rm_X0_moveFrom : Room := { frames := 2, cells := 0, slots := 0, locals := 48 }
set_option maxRecDepth 20000 in
theorem i_X0_moveFrom_X0 : ∀ w ∈ u_ws RX0 TX0 15, w ∈ wsX0_moveFrom := by decide +kernel
set_option maxRecDepth 20000 in
theorem m_X0_moveFrom_0 : Cond.fieldLink RX0 40 "GreatSort$Cut" "parts" "I" ∈ wsX0_moveFrom := by decide +kernel
set_option maxRecDepth 20000 in
theorem m_X0_moveFrom_1 : Cond.fieldLink RX0 25 "GreatSort$Cut" "lies" "[I" ∈ wsX0_moveFrom := by decide +kernel
set_option maxHeartbeats 4000000 in
set_option maxRecDepth 100000 in
theorem t_X0_moveFrom_5 {p : Program} {l : Launch} {e : Env} {s : State} {m : MethodId} {args : Array Value} {below : List Frame} {meth : Method} {c : Code} {Q : State → Prop} {dC : Nat → ClassId} {dI : Nat → Nat → Nat} {cI cJ cZ : ClassId} {A : Nat → Prop} (aC aO : Nat → Nat) (X : Cx p m c cX0_moveFrom 5 s args wsX0_moveFrom RX0 (dC, dI) (tyl cI cJ cZ) A) (N : Nat) (C_sampled : (Nat → Int32)) (C_sampleStandings : (Nat → Int32)) (C_sizes : (Nat → Int32)) (C_ends : (Nat → Int32)) (C_reached : (Nat → Int32)) (C_mergedBy : (Nat → Int32)) (C_parts : Int32) (C_samples : Int32) (C_bound : Int32) (C_ticks : Int32) (C_mergedInAll : Int32) (C_mergedAgain : Int32) (O_paces : (Nat → Int32)) (O_up : (Nat → Int32)) (v1 : Int32) :
    ∀ (n : Nat) (v3 : Int32) (v4 : Int32) (C_lies : (Nat → Int32)) (C_merged : (Nat → Int32)) (C_done : (Nat → Int32)) (e3 : Int32) (e_C_lies : (Nat → Int32)) (e_C_merged : (Nat → Int32)) (e_C_done : (Nat → Int32)), l_X0_moveFrom_5 N C_sizes C_parts O_up v1 n v3 v4 C_lies C_merged C_done = some (e3, e_C_lies, e_C_merged, e_C_done) → ∀ (H : Heap) (locs : List Loc) (ls : Array Slot), Wd (dC, dI) A s.heap H locs (w_CO aC aO cI cJ cZ C_sampled C_sampleStandings C_sizes C_ends C_lies C_merged C_reached C_done C_mergedBy C_parts C_samples C_bound C_ticks C_mergedInAll C_mergedAgain O_paces O_up) → lv_has ls 5 [(0, .ref (aC 0)), (1, .int v1), (2, .ref (aO 0)), (3, .int v3), (4, .int v4)] → (∀ (H : Heap) (locs : List Loc) (ls : Array Slot), Wd (dC, dI) A s.heap H locs (w_CO aC aO cI cJ cZ C_sampled C_sampleStandings C_sizes C_ends e_C_lies e_C_merged C_reached e_C_done C_mergedBy C_parts C_samples C_bound C_ticks C_mergedInAll C_mergedAgain O_paces O_up) → lv_has ls 5 [(3, .int e3)] → W p l e rm_X0_moveFrom s m args below meth c H locs 0 0 Q (F0 m 52 ls [])) → W p l e rm_X0_moveFrom s m args below meth c H locs 0 0 Q (F0 m 5 ls []) := by
  obtain ⟨hx, hb, hml, hown, hts⟩ := X.1
  have hK := X.2.1
  have hN := X.2.2.2
  intro n
  induction n with
  | zero =>
    intro _ _ _ _ _ _ _ _ _ hf
    cases hf
  | succ n ih =>
    intro v3 v4 C_lies C_merged C_done e3 e_C_lies e_C_merged e_C_done hf H locs ls hw hl kx
    rw [l_X0_moveFrom_5] at hf
    refine lv_iload hx hb dX0_moveFrom_5 (lv_at hl 4 rfl) ?_
    refine lv_aload_n hx hb dX0_moveFrom_7 rfl (lv_at hl 0 rfl) ?_
    refine va_get (D := (dC, dI)) (ci := 0) (v := .int C_parts) (C := RX0) (T := TX0) (N := 15) hx hb hts i_X0_moveFrom_X0 hown hK hw.1 0 rfl rfl 9 (by decide) (hts _ m_X0_moveFrom_0) (fun _ h9 => h9) rfl dX0_moveFrom_8 ?_
    refine lv_icmp_ge (tgt := 52) hx hb dX0_moveFrom_11 (by decide) (fun b1 => ?_) (fun b1 => ?_)
    · replace hf := it_t hf b1
      cases hf
      exact kx _ _ _ hw (lv_sub hl [3] rfl)
    · replace hf := it_f hf b1
      refine lv_aload_n hx hb dX0_moveFrom_14 rfl (lv_at hl 0 rfl) ?_
      refine va_get (D := (dC, dI)) (ci := 0) (v := .ref (aC 5)) (C := RX0) (T := TX0) (N := 15) hx hb hts i_X0_moveFrom_X0 hown hK hw.1 0 rfl rfl 4 (by decide) (hts _ m_X0_moveFrom_1) (fun _ h9 => h9) rfl dX0_moveFrom_15 ?_
      refine lv_iload hx hb dX0_moveFrom_18 (lv_at hl 4 rfl) ?_
      have g2 := ix_in (gd_l hf)
      replace hf := gd_r hf
      refine va_iald hx hb hK hw.1 5 0 rfl rfl g2 dX0_moveFrom_20 ?_
      refine lv_iload_n hx hb dX0_moveFrom_21 rfl (lv_at hl 1 rfl) ?_
      refine lv_icmp_ne (tgt := 46) hx hb dX0_moveFrom_22 (by decide) (fun b3 => ?_) (fun b3 => ?_)
      · replace hf := it_f hf b3
        obtain ⟨x4, ex4⟩ : ∃ y : Int32, y = v4 + 1 := ⟨_, rfl⟩
        replace hf := nl_at hf ex4
        refine lv_iinc (v := x4) (lv' := [(4, .int x4), (0, .ref (aC 0)), (1, .int v1), (2, .ref (aO 0)), (3, .int v3)]) hx hb dX0_moveFrom_46 hl (k := 4) rfl (by rw [ex4]; rfl) (by decide) rfl (fun ls hl => ?_)
        refine lv_goto (tgt := 5) hx hb dX0_moveFrom_49 (by decide) ?_
        exact ih _ _ _ _ _ _ _ _ _ hf _ _ _ hw (lv_sub hl [1, 2, 3, 4, 0] rfl) kx
      · replace hf := it_t hf b3
        refine lv_aload_n hx hb dX0_moveFrom_25 rfl (lv_at hl 0 rfl) ?_
        refine lv_iload hx hb dX0_moveFrom_26 (lv_at hl 4 rfl) ?_
        obtain ⟨c5, c6, h7, hf⟩ := bd2_ob hf
        refine clVV (As := [.int v4]) (rest := []) X (c_X0_beginAnew l dC dI cI cJ cZ aC N C_sampled C_sampleStandings C_sizes C_ends C_lies C_merged C_reached C_done C_mergedBy C_parts C_samples C_bound C_ticks C_mergedInAll C_mergedAgain v4 h7) (cwV 1 hts gX0_moveFrom_X0_beginAnew rfl rfl rfl (by decide +kernel) ⟨Nat.le_of_ble_eq_true rfl, Nat.le_of_ble_eq_true rfl⟩) (ci := 0) (k0 := 0) rfl rfl rfl hw [0, 1, 2, 3, 4, 5, 6, 7, 8, 9] rfl rfl rfl rfl hl.1 rfl (Nat.le_of_ble_eq_true rfl) dX0_moveFrom_28 ⟨Nat.zero_le _, Nat.zero_le _⟩ (fun H locs hw => ?_)
        replace hw : Wd (dC, dI) A s.heap H locs (w_CO aC aO cI cJ cZ C_sampled C_sampleStandings C_sizes C_ends C_lies c5 C_reached c6 C_mergedBy C_parts C_samples C_bound C_ticks C_mergedInAll C_mergedAgain O_paces O_up) := hw
        refine lv_aload_n hx hb dX0_moveFrom_31 rfl (lv_at hl 0 rfl) ?_
        refine va_get (D := (dC, dI)) (ci := 0) (v := .ref (aC 5)) (C := RX0) (T := TX0) (N := 15) hx hb hts i_X0_moveFrom_X0 hown hK hw.1 0 rfl rfl 4 (by decide) (hts _ m_X0_moveFrom_1) (fun _ h9 => h9) rfl dX0_moveFrom_32 ?_
        refine lv_iload hx hb dX0_moveFrom_35 (lv_at hl 4 rfl) ?_
        refine lv_aload_n hx hb dX0_moveFrom_37 rfl (lv_at hl 0 rfl) ?_
        refine lv_aload_n hx hb dX0_moveFrom_38 rfl (lv_at hl 2 rfl) ?_
        obtain ⟨r8, h9, hf⟩ := bd1_ob hf
        refine clFI (As := [.ref (aO 0)]) (rest := [.int v4, .ref (aC 5)]) X (c_X0_leastLaden l dC dI cI cJ cZ aC aO N C_sampled C_sampleStandings C_sizes C_ends C_lies c5 C_reached c6 C_mergedBy C_parts C_samples C_bound C_ticks C_mergedInAll C_mergedAgain O_paces O_up h9) (cwV 1 hts gX0_moveFrom_X0_leastLaden rfl rfl rfl (by decide +kernel) ⟨Nat.le_of_ble_eq_true rfl, Nat.le_of_ble_eq_true rfl⟩) (ci := 0) (k0 := 0) rfl rfl rfl hw rfl rfl hl.1 rfl (Nat.le_of_ble_eq_true rfl) dX0_moveFrom_39 ⟨Nat.zero_le _, Nat.zero_le _⟩ (fun H locs hw => ?_)
        have g10 := ix_in (gd_l hf)
        replace hf := gd_r hf
        refine g_iast hx hb hK hw 5 0 rfl rfl g10 dX0_moveFrom_42 (fun H locs hw => ?_)
        replace hw : Wd (dC, dI) A s.heap H locs (w_CO aC aO cI cJ cZ C_sampled C_sampleStandings C_sizes C_ends (upd C_lies v4.toNatClampNeg r8) c5 C_reached c6 C_mergedBy C_parts C_samples C_bound C_ticks C_mergedInAll C_mergedAgain O_paces O_up) := hw
        obtain ⟨x11, ex11⟩ : ∃ y : Int32, y = v3 + 1 := ⟨_, rfl⟩
        replace hf := nl_at hf ex11
        refine lv_iinc (v := x11) (lv' := [(3, .int x11), (0, .ref (aC 0)), (1, .int v1), (2, .ref (aO 0)), (4, .int v4)]) hx hb dX0_moveFrom_43 hl (k := 3) rfl (by rw [ex11]; rfl) (by decide) rfl (fun ls hl => ?_)
        obtain ⟨x12, ex12⟩ : ∃ y : Int32, y = v4 + 1 := ⟨_, rfl⟩
        replace hf := nl_at hf ex12
        refine lv_iinc (v := x12) (lv' := [(4, .int x12), (3, .int x11), (0, .ref (aC 0)), (1, .int v1), (2, .ref (aO 0))]) hx hb dX0_moveFrom_46 hl (k := 4) rfl (by rw [ex12]; rfl) (by decide) rfl (fun ls hl => ?_)
        refine lv_goto (tgt := 5) hx hb dX0_moveFrom_49 (by decide) ?_
        exact ih _ _ _ _ _ _ _ _ _ hf _ _ _ hw (lv_sub hl [2, 3, 4, 1, 0] rfl) kx
set_option maxHeartbeats 4000000 in
set_option maxRecDepth 100000 in
theorem c_X0_moveFrom (l : Launch) (dC : Nat → ClassId) (dI : Nat → Nat → Nat) (cI cJ cZ : ClassId) (aC aO : Nat → Nat) (N : Nat) (C_sampled : (Nat → Int32)) (C_sampleStandings : (Nat → Int32)) (C_sizes : (Nat → Int32)) (C_ends : (Nat → Int32)) (C_lies : (Nat → Int32)) (C_merged : (Nat → Int32)) (C_reached : (Nat → Int32)) (C_done : (Nat → Int32)) (C_mergedBy : (Nat → Int32)) (C_parts : Int32) (C_samples : Int32) (C_bound : Int32) (C_ticks : Int32) (C_mergedInAll : Int32) (C_mergedAgain : Int32) (O_paces : (Nat → Int32)) (O_up : (Nat → Int32)) (v1 : Int32) {r : Int32} {o_C_lies : (Nat → Int32)} {o_C_merged : (Nat → Int32)} {o_C_done : (Nat → Int32)} (hf : f_X0_moveFrom N C_sizes C_lies C_merged C_done C_parts O_up v1 = some (r, o_C_lies, o_C_merged, o_C_done)) :
    CtI l yX0_moveFrom wsX0_moveFrom rm_X0_moveFrom (dC, dI) (tyl cI cJ cZ) [.ref (aC 0), .int v1, .ref (aO 0)] (w_CO aC aO cI cJ cZ C_sampled C_sampleStandings C_sizes C_ends C_lies C_merged C_reached C_done C_mergedBy C_parts C_samples C_bound C_ticks C_mergedInAll C_mergedAgain O_paces O_up) (w_CO aC aO cI cJ cZ C_sampled C_sampleStandings C_sizes C_ends o_C_lies o_C_merged C_reached o_C_done C_mergedBy C_parts C_samples C_bound C_ticks C_mergedInAll C_mergedAgain O_paces O_up) r := by
  refine startI (cc := cX0_moveFrom) (maxL := 5) (rt := (some .int)) (by decide +kernel) rfl (Nat.le_of_ble_eq_true rfl) ?_
  intro p e s m below meth c A ls X hr hlocks hw hl
  replace X : Cx p m c cX0_moveFrom 5 s _ wsX0_moveFrom RX0 (dC, dI) (tyl cI cJ cZ) A := X
  replace hl : lv_has ls 5 [(0, .ref (aC 0)), (1, .int v1), (2, .ref (aO 0))] := hl
  obtain ⟨hx, hb, hml, hown, hts⟩ := X.1
  have hK := X.2.1
  have hN := X.2.2.2
  unfold f_X0_moveFrom at hf
  refine lv_iconst (v := 0) hx hb dX0_moveFrom_0 (by decide) ?_
  refine lv_istore_n (lv' := [(3, .int 0), (0, .ref (aC 0)), (1, .int v1), (2, .ref (aO 0))]) hx hb dX0_moveFrom_1 rfl hl (by decide) rfl (fun ls hl => ?_)
  refine lv_iconst (v := 0) hx hb dX0_moveFrom_2 (by decide) ?_
  refine lv_istore (lv' := [(4, .int 0), (3, .int 0), (0, .ref (aC 0)), (1, .int v1), (2, .ref (aO 0))]) hx hb dX0_moveFrom_3 hl (by decide) rfl (fun ls hl => ?_)
  obtain ⟨e13, e14, e15, e16, h17, hf⟩ := bd4_ob hf
  refine t_X0_moveFrom_5 aC aO X N C_sampled C_sampleStandings C_sizes C_ends C_reached C_mergedBy C_parts C_samples C_bound C_ticks C_mergedInAll C_mergedAgain O_paces O_up v1 N _ _ _ _ _ _ _ _ _ h17 _ _ _ hw (lv_sub hl [2, 3, 4, 1, 0] rfl) (fun H locs ls hw hl => ?_)
  refine lv_iload_n hx hb dX0_moveFrom_52 rfl (lv_at hl 0 rfl) ?_
  cases hf
  exact endI X hr rfl hlocks rfl hw dX0_moveFrom_53
def rm_X0_layOn : Room := { frames := 3, cells := 0, slots := 0, locals := 72 }
set_option maxRecDepth 20000 in
theorem i_X0_layOn_X0 : ∀ w ∈ u_ws RX0 TX0 15, w ∈ wsX0_layOn := by decide +kernel
set_option maxRecDepth 20000 in
theorem i_X0_layOn_X2 : ∀ w ∈ u_ws RX2 TX2 2, w ∈ wsX0_layOn := by decide +kernel
set_option maxRecDepth 20000 in
theorem m_X0_layOn_0 : Cond.fieldLink RX0 40 "GreatSort$Cut" "parts" "I" ∈ wsX0_layOn := by decide +kernel
set_option maxRecDepth 20000 in
theorem m_X0_layOn_1 : Cond.fieldLink RX0 25 "GreatSort$Cut" "lies" "[I" ∈ wsX0_layOn := by decide +kernel
set_option maxHeartbeats 4000000 in
set_option maxRecDepth 100000 in
theorem t_X0_layOn_2 {p : Program} {l : Launch} {e : Env} {s : State} {m : MethodId} {args : Array Value} {below : List Frame} {meth : Method} {c : Code} {Q : State → Prop} {dC : Nat → ClassId} {dI : Nat → Nat → Nat} {cI cJ cZ : ClassId} {A : Nat → Prop} (aC aO : Nat → Nat) (X : Cx p m c cX0_layOn 3 s args wsX0_layOn RX0 (dC, dI) (tyl cI cJ cZ) A) (N : Nat) (C_sampled : (Nat → Int32)) (C_sampleStandings : (Nat → Int32)) (C_sizes : (Nat → Int32)) (C_ends : (Nat → Int32)) (C_merged : (Nat → Int32)) (C_reached : (Nat → Int32)) (C_done : (Nat → Int32)) (C_mergedBy : (Nat → Int32)) (C_parts : Int32) (C_samples : Int32) (C_bound : Int32) (C_ticks : Int32) (C_mergedInAll : Int32) (C_mergedAgain : Int32) (O_paces : (Nat → Int32)) (O_up : (Nat → Int32))  :
    ∀ (n : Nat) (v2 : Int32) (C_lies : (Nat → Int32)) (e_C_lies : (Nat → Int32)), l_X0_layOn_2 N C_parts n v2 C_lies = some e_C_lies → ∀ (H : Heap) (locs : List Loc) (ls : Array Slot), Wd (dC, dI) A s.heap H locs (w_CO aC aO cI cJ cZ C_sampled C_sampleStandings C_sizes C_ends C_lies C_merged C_reached C_done C_mergedBy C_parts C_samples C_bound C_ticks C_mergedInAll C_mergedAgain O_paces O_up) → lv_has ls 3 [(0, .ref (aC 0)), (1, .ref (aO 0)), (2, .int v2)] → (∀ (H : Heap) (locs : List Loc) (ls : Array Slot), Wd (dC, dI) A s.heap H locs (w_CO aC aO cI cJ cZ C_sampled C_sampleStandings C_sizes C_ends e_C_lies C_merged C_reached C_done C_mergedBy C_parts C_samples C_bound C_ticks C_mergedInAll C_mergedAgain O_paces O_up) → lv_has ls 3 [(0, .ref (aC 0)), (1, .ref (aO 0))] → W p l e rm_X0_layOn s m args below meth c H locs 0 0 Q (F0 m 23 ls [])) → W p l e rm_X0_layOn s m args below meth c H locs 0 0 Q (F0 m 2 ls []) := by
  obtain ⟨hx, hb, hml, hown, hts⟩ := X.1
  have hK := X.2.1
  have hN := X.2.2.2
  intro n
  induction n with
  | zero =>
    intro _ _ _ hf
    cases hf
  | succ n ih =>
    intro v2 C_lies e_C_lies hf H locs ls hw hl kx
    rw [l_X0_layOn_2] at hf
    refine lv_iload_n hx hb dX0_layOn_2 rfl (lv_at hl 2 rfl) ?_
    refine lv_aload_n hx hb dX0_layOn_3 rfl (lv_at hl 0 rfl) ?_
    refine va_get (D := (dC, dI)) (ci := 0) (v := .int C_parts) (C := RX0) (T := TX0) (N := 15) hx hb hts i_X0_layOn_X0 hown hK hw.1 0 rfl rfl 9 (by decide) (hts _ m_X0_layOn_0) (fun _ h9 => h9) rfl dX0_layOn_4 ?_
    refine lv_icmp_ge (tgt := 23) hx hb dX0_layOn_7 (by decide) (fun b1 => ?_) (fun b1 => ?_)
    · replace hf := it_t hf b1
      cases hf
      exact kx _ _ _ hw (lv_sub hl [0, 1] rfl)
    · replace hf := it_f hf b1
      refine lv_aload_n hx hb dX0_layOn_10 rfl (lv_at hl 0 rfl) ?_
      refine va_get (D := (dC, dI)) (ci := 0) (v := .ref (aC 5)) (C := RX0) (T := TX0) (N := 15) hx hb hts i_X0_layOn_X0 hown hK hw.1 0 rfl rfl 4 (by decide) (hts _ m_X0_layOn_1) (fun _ h9 => h9) rfl dX0_layOn_11 ?_
      refine lv_iload_n hx hb dX0_layOn_14 rfl (lv_at hl 2 rfl) ?_
      refine lv_iload_n hx hb dX0_layOn_15 rfl (lv_at hl 2 rfl) ?_
      have g2 := ix_in (gd_l hf)
      replace hf := gd_r hf
      refine g_iast hx hb hK hw 5 0 rfl rfl g2 dX0_layOn_16 (fun H locs hw => ?_)
      replace hw : Wd (dC, dI) A s.heap H locs (w_CO aC aO cI cJ cZ C_sampled C_sampleStandings C_sizes C_ends (upd C_lies v2.toNatClampNeg v2) C_merged C_reached C_done C_mergedBy C_parts C_samples C_bound C_ticks C_mergedInAll C_mergedAgain O_paces O_up) := hw
      obtain ⟨x3, ex3⟩ : ∃ y : Int32, y = v2 + 1 := ⟨_, rfl⟩
      replace hf := nl_at hf ex3
      refine lv_iinc (v := x3) (lv' := [(2, .int x3), (0, .ref (aC 0)), (1, .ref (aO 0))]) hx hb dX0_layOn_17 hl (k := 2) rfl (by rw [ex3]; rfl) (by decide) rfl (fun ls hl => ?_)
      refine lv_goto (tgt := 2) hx hb dX0_layOn_20 (by decide) ?_
      exact ih _ _ _ hf _ _ _ hw (lv_sub hl [1, 2, 0] rfl) kx
set_option maxHeartbeats 4000000 in
set_option maxRecDepth 100000 in
theorem t_X0_layOn_25 {p : Program} {l : Launch} {e : Env} {s : State} {m : MethodId} {args : Array Value} {below : List Frame} {meth : Method} {c : Code} {Q : State → Prop} {dC : Nat → ClassId} {dI : Nat → Nat → Nat} {cI cJ cZ : ClassId} {A : Nat → Prop} (aC aO : Nat → Nat) (X : Cx p m c cX0_layOn 3 s args wsX0_layOn RX0 (dC, dI) (tyl cI cJ cZ) A) (N : Nat) (C_sampled : (Nat → Int32)) (C_sampleStandings : (Nat → Int32)) (C_sizes : (Nat → Int32)) (C_ends : (Nat → Int32)) (C_reached : (Nat → Int32)) (C_mergedBy : (Nat → Int32)) (C_parts : Int32) (C_samples : Int32) (C_bound : Int32) (C_ticks : Int32) (C_mergedInAll : Int32) (C_mergedAgain : Int32) (O_paces : (Nat → Int32)) (O_up : (Nat → Int32))  :
    ∀ (n : Nat) (v2 : Int32) (C_lies : (Nat → Int32)) (C_merged : (Nat → Int32)) (C_done : (Nat → Int32)) (e_C_lies : (Nat → Int32)) (e_C_merged : (Nat → Int32)) (e_C_done : (Nat → Int32)), l_X0_layOn_25 N C_sizes C_parts O_up n v2 C_lies C_merged C_done = some (e_C_lies, e_C_merged, e_C_done) → ∀ (H : Heap) (locs : List Loc) (ls : Array Slot), Wd (dC, dI) A s.heap H locs (w_CO aC aO cI cJ cZ C_sampled C_sampleStandings C_sizes C_ends C_lies C_merged C_reached C_done C_mergedBy C_parts C_samples C_bound C_ticks C_mergedInAll C_mergedAgain O_paces O_up) → lv_has ls 3 [(0, .ref (aC 0)), (1, .ref (aO 0)), (2, .int v2)] → (∀ (H : Heap) (locs : List Loc) (ls : Array Slot), Wd (dC, dI) A s.heap H locs (w_CO aC aO cI cJ cZ C_sampled C_sampleStandings C_sizes C_ends e_C_lies e_C_merged C_reached e_C_done C_mergedBy C_parts C_samples C_bound C_ticks C_mergedInAll C_mergedAgain O_paces O_up) → lv_has ls 3 [] → W p l e rm_X0_layOn s m args below meth c H locs 0 0 Q (F0 m 53 ls [])) → W p l e rm_X0_layOn s m args below meth c H locs 0 0 Q (F0 m 25 ls []) := by
  obtain ⟨hx, hb, hml, hown, hts⟩ := X.1
  have hK := X.2.1
  have hN := X.2.2.2
  intro n
  induction n with
  | zero =>
    intro _ _ _ _ _ _ _ hf
    cases hf
  | succ n ih =>
    intro v2 C_lies C_merged C_done e_C_lies e_C_merged e_C_done hf H locs ls hw hl kx
    rw [l_X0_layOn_25] at hf
    refine lv_iload_n hx hb dX0_layOn_25 rfl (lv_at hl 2 rfl) ?_
    refine lv_bipush (v := 8) hx hb dX0_layOn_26 (by decide) ?_
    refine lv_icmp_ge (tgt := 53) hx hb dX0_layOn_28 (by decide) (fun b6 => ?_) (fun b6 => ?_)
    · replace hf := it_t hf b6
      cases hf
      exact kx _ _ _ hw (lv_sub hl [] rfl)
    · replace hf := it_f hf b6
      refine lv_aload_n hx hb dX0_layOn_31 rfl (lv_at hl 1 rfl) ?_
      refine va_getN (D := (dC, dI)) (ci := 2) (v := .ref (aO 2)) (C := RX2) (T := TX2) (N := 2) hx hb hts i_X0_layOn_X2 hown hK hw.1 10 rfl rfl 1 (by decide) (va_Nw.use rfl (hN _ nk_24)) (fun _ h9 => h9) rfl dX0_layOn_32 ?_
      refine lv_iload_n hx hb dX0_layOn_35 rfl (lv_at hl 2 rfl) ?_
      have g7 := ix_in (gd_l hf)
      replace hf := gd_r hf
      refine va_zald hx hb hK hw.1 12 2 rfl rfl g7 dX0_layOn_36 ?_
      refine lv_if_ne (tgt := 47) hx hb dX0_layOn_37 (by decide) (fun b8 => ?_) (fun b8 => ?_)
      · replace hf := it_f hf b8
        obtain ⟨x9, ex9⟩ : ∃ y : Int32, y = v2 + 1 := ⟨_, rfl⟩
        replace hf := nl_at hf ex9
        refine lv_iinc (v := x9) (lv' := [(2, .int x9), (0, .ref (aC 0)), (1, .ref (aO 0))]) hx hb dX0_layOn_47 hl (k := 2) rfl (by rw [ex9]; rfl) (by decide) rfl (fun ls hl => ?_)
        refine lv_goto (tgt := 25) hx hb dX0_layOn_50 (by decide) ?_
        exact ih _ _ _ _ _ _ _ hf _ _ _ hw (lv_sub hl [1, 2, 0] rfl) kx
      · replace hf := it_t hf b8
        refine lv_aload_n hx hb dX0_layOn_40 rfl (lv_at hl 0 rfl) ?_
        refine lv_iload_n hx hb dX0_layOn_41 rfl (lv_at hl 2 rfl) ?_
        refine lv_aload_n hx hb dX0_layOn_42 rfl (lv_at hl 1 rfl) ?_
        obtain ⟨r10, c11, c12, c13, h14, hf⟩ := bd4_ob hf
        refine clFI (As := [.int v2, .ref (aO 0)]) (rest := []) X (c_X0_moveFrom l dC dI cI cJ cZ aC aO N C_sampled C_sampleStandings C_sizes C_ends C_lies C_merged C_reached C_done C_mergedBy C_parts C_samples C_bound C_ticks C_mergedInAll C_mergedAgain O_paces O_up v2 h14) (cwV 2 hts gX0_layOn_X0_moveFrom rfl rfl rfl (by decide +kernel) ⟨Nat.le_of_ble_eq_true rfl, Nat.le_of_ble_eq_true rfl⟩) (ci := 0) (k0 := 0) rfl rfl rfl hw rfl rfl hl.1 rfl (Nat.le_of_ble_eq_true rfl) dX0_layOn_43 ⟨Nat.zero_le _, Nat.zero_le _⟩ (fun H locs hw => ?_)
        refine lv_pop hx hb dX0_layOn_46 rfl ?_
        obtain ⟨x15, ex15⟩ : ∃ y : Int32, y = v2 + 1 := ⟨_, rfl⟩
        replace hf := nl_at hf ex15
        refine lv_iinc (v := x15) (lv' := [(2, .int x15), (0, .ref (aC 0)), (1, .ref (aO 0))]) hx hb dX0_layOn_47 hl (k := 2) rfl (by rw [ex15]; rfl) (by decide) rfl (fun ls hl => ?_)
        refine lv_goto (tgt := 25) hx hb dX0_layOn_50 (by decide) ?_
        exact ih _ _ _ _ _ _ _ hf _ _ _ hw (lv_sub hl [1, 2, 0] rfl) kx
set_option maxHeartbeats 4000000 in
set_option maxRecDepth 100000 in
theorem c_X0_layOn (l : Launch) (dC : Nat → ClassId) (dI : Nat → Nat → Nat) (cI cJ cZ : ClassId) (aC aO : Nat → Nat) (N : Nat) (C_sampled : (Nat → Int32)) (C_sampleStandings : (Nat → Int32)) (C_sizes : (Nat → Int32)) (C_ends : (Nat → Int32)) (C_lies : (Nat → Int32)) (C_merged : (Nat → Int32)) (C_reached : (Nat → Int32)) (C_done : (Nat → Int32)) (C_mergedBy : (Nat → Int32)) (C_parts : Int32) (C_samples : Int32) (C_bound : Int32) (C_ticks : Int32) (C_mergedInAll : Int32) (C_mergedAgain : Int32) (O_paces : (Nat → Int32)) (O_up : (Nat → Int32))  {o_C_lies : (Nat → Int32)} {o_C_merged : (Nat → Int32)} {o_C_done : (Nat → Int32)} (hf : f_X0_layOn N C_sizes C_lies C_merged C_done C_parts O_up  = some (o_C_lies, o_C_merged, o_C_done)) :
    CtV l yX0_layOn wsX0_layOn rm_X0_layOn (dC, dI) (tyl cI cJ cZ) [.ref (aC 0), .ref (aO 0)] (w_CO aC aO cI cJ cZ C_sampled C_sampleStandings C_sizes C_ends C_lies C_merged C_reached C_done C_mergedBy C_parts C_samples C_bound C_ticks C_mergedInAll C_mergedAgain O_paces O_up) (w_CO aC aO cI cJ cZ C_sampled C_sampleStandings C_sizes C_ends o_C_lies o_C_merged C_reached o_C_done C_mergedBy C_parts C_samples C_bound C_ticks C_mergedInAll C_mergedAgain O_paces O_up) := by
  refine startV (cc := cX0_layOn) (maxL := 3) (rt := none) (by decide +kernel) rfl (Nat.le_of_ble_eq_true rfl) ?_
  intro p e s m below meth c A ls X hr hlocks hw hl
  replace X : Cx p m c cX0_layOn 3 s _ wsX0_layOn RX0 (dC, dI) (tyl cI cJ cZ) A := X
  replace hl : lv_has ls 3 [(0, .ref (aC 0)), (1, .ref (aO 0))] := hl
  obtain ⟨hx, hb, hml, hown, hts⟩ := X.1
  have hK := X.2.1
  have hN := X.2.2.2
  unfold f_X0_layOn at hf
  refine lv_iconst (v := 0) hx hb dX0_layOn_0 (by decide) ?_
  refine lv_istore_n (lv' := [(2, .int 0), (0, .ref (aC 0)), (1, .ref (aO 0))]) hx hb dX0_layOn_1 rfl hl (by decide) rfl (fun ls hl => ?_)
  obtain ⟨e4, h5, hf⟩ := bd1_ob hf
  refine t_X0_layOn_2 aC aO X N C_sampled C_sampleStandings C_sizes C_ends C_merged C_reached C_done C_mergedBy C_parts C_samples C_bound C_ticks C_mergedInAll C_mergedAgain O_paces O_up N _ _ _ h5 _ _ _ hw (lv_sub hl [1, 2, 0] rfl) (fun H locs ls hw hl => ?_)
  refine lv_iconst (v := 0) hx hb dX0_layOn_23 (by decide) ?_
  refine lv_istore_n (lv' := [(2, .int 0), (0, .ref (aC 0)), (1, .ref (aO 0))]) hx hb dX0_layOn_24 rfl hl (by decide) rfl (fun ls hl => ?_)
  obtain ⟨e16, e17, e18, h19, hf⟩ := bd3_ob hf
  refine t_X0_layOn_25 aC aO X N C_sampled C_sampleStandings C_sizes C_ends C_reached C_mergedBy C_parts C_samples C_bound C_ticks C_mergedInAll C_mergedAgain O_paces O_up N _ _ _ _ _ _ _ h19 _ _ _ hw (lv_sub hl [1, 2, 0] rfl) (fun H locs ls hw hl => ?_)
  cases hf
  exact endV X hr hlocks hw dX0_layOn_53
def rm_X0_stands : Room := { frames := 0, cells := 0, slots := 0, locals := 0 }
set_option maxRecDepth 20000 in
theorem i_X0_stands_X0 : ∀ w ∈ u_ws RX0 TX0 15, w ∈ wsX0_stands := by decide +kernel
set_option maxRecDepth 20000 in
theorem m_X0_stands_0 : Cond.fieldLink RX0 40 "GreatSort$Cut" "parts" "I" ∈ wsX0_stands := by decide +kernel
set_option maxHeartbeats 4000000 in
set_option maxRecDepth 100000 in
theorem c_X0_stands (l : Launch) (dC : Nat → ClassId) (dI : Nat → Nat → Nat) (cI cJ cZ : ClassId) (aC : Nat → Nat) (N : Nat) (C_sampled : (Nat → Int32)) (C_sampleStandings : (Nat → Int32)) (C_sizes : (Nat → Int32)) (C_ends : (Nat → Int32)) (C_lies : (Nat → Int32)) (C_merged : (Nat → Int32)) (C_reached : (Nat → Int32)) (C_done : (Nat → Int32)) (C_mergedBy : (Nat → Int32)) (C_parts : Int32) (C_samples : Int32) (C_bound : Int32) (C_ticks : Int32) (C_mergedInAll : Int32) (C_mergedAgain : Int32)  {r : Int32} (hf : f_X0_stands N C_parts  = some r) :
    CtI l yX0_stands wsX0_stands rm_X0_stands (dC, dI) (tyl cI cJ cZ) [.ref (aC 0)] (w_C aC cI cJ cZ C_sampled C_sampleStandings C_sizes C_ends C_lies C_merged C_reached C_done C_mergedBy C_parts C_samples C_bound C_ticks C_mergedInAll C_mergedAgain) (w_C aC cI cJ cZ C_sampled C_sampleStandings C_sizes C_ends C_lies C_merged C_reached C_done C_mergedBy C_parts C_samples C_bound C_ticks C_mergedInAll C_mergedAgain) r := by
  refine startI (cc := cX0_stands) (maxL := 1) (rt := (some .boolean)) (by decide +kernel) rfl (Nat.le_of_ble_eq_true rfl) ?_
  intro p e s m below meth c A ls X hr hlocks hw hl
  replace X : Cx p m c cX0_stands 1 s _ wsX0_stands RX0 (dC, dI) (tyl cI cJ cZ) A := X
  replace hl : lv_has ls 1 [(0, .ref (aC 0))] := hl
  obtain ⟨hx, hb, hml, hown, hts⟩ := X.1
  have hK := X.2.1
  have hN := X.2.2.2
  unfold f_X0_stands at hf
  refine lv_aload_n hx hb dX0_stands_0 rfl (lv_at hl 0 rfl) ?_
  refine va_get (D := (dC, dI)) (ci := 0) (v := .int C_parts) (C := RX0) (T := TX0) (N := 15) hx hb hts i_X0_stands_X0 hown hK hw.1 0 rfl rfl 9 (by decide) (hts _ m_X0_stands_0) (fun _ h9 => h9) rfl dX0_stands_1 ?_
  refine lv_if_le (tgt := 11) hx hb dX0_stands_4 (by decide) (fun b1 => ?_) (fun b1 => ?_)
  · replace hf := it_t hf b1
    refine lv_iconst (v := 0) hx hb dX0_stands_11 (by decide) ?_
    have g2 := bz_nar (gd_l hf)
    replace hf := gd_r hf
    cases hf
    exact endI X hr g2 hlocks rfl hw dX0_stands_12
  · replace hf := it_f hf b1
    refine lv_iconst (v := 1) hx hb dX0_stands_7 (by decide) ?_
    refine lv_goto (tgt := 12) hx hb dX0_stands_8 (by decide) ?_
    have g3 := bz_nar (gd_l hf)
    replace hf := gd_r hf
    cases hf
    exact endI X hr g3 hlocks rfl hw dX0_stands_12
def rm_X0_bringTo : Room := { frames := 0, cells := 0, slots := 0, locals := 0 }
set_option maxRecDepth 20000 in
theorem i_X0_bringTo_X0 : ∀ w ∈ u_ws RX0 TX0 15, w ∈ wsX0_bringTo := by decide +kernel
set_option maxRecDepth 20000 in
theorem m_X0_bringTo_0 : Cond.fieldLink RX0 40 "GreatSort$Cut" "parts" "I" ∈ wsX0_bringTo := by decide +kernel
set_option maxRecDepth 20000 in
theorem m_X0_bringTo_1 : Cond.fieldLink RX0 25 "GreatSort$Cut" "lies" "[I" ∈ wsX0_bringTo := by decide +kernel
set_option maxHeartbeats 4000000 in
set_option maxRecDepth 100000 in
theorem t_X0_bringTo_4 {p : Program} {l : Launch} {e : Env} {s : State} {m : MethodId} {args : Array Value} {below : List Frame} {meth : Method} {c : Code} {Q : State → Prop} {dC : Nat → ClassId} {dI : Nat → Nat → Nat} {cI cJ cZ : ClassId} {A : Nat → Prop} (aC : Nat → Nat) (X : Cx p m c cX0_bringTo 4 s args wsX0_bringTo RX0 (dC, dI) (tyl cI cJ cZ) A) (N : Nat) (C_sampled : (Nat → Int32)) (C_sampleStandings : (Nat → Int32)) (C_sizes : (Nat → Int32)) (C_ends : (Nat → Int32)) (C_merged : (Nat → Int32)) (C_reached : (Nat → Int32)) (C_done : (Nat → Int32)) (C_mergedBy : (Nat → Int32)) (C_parts : Int32) (C_samples : Int32) (C_bound : Int32) (C_ticks : Int32) (C_mergedInAll : Int32) (C_mergedAgain : Int32) (v1 : Int32) :
    ∀ (n : Nat) (v2 : Int32) (v3 : Int32) (C_lies : (Nat → Int32)) (e2 : Int32) (e_C_lies : (Nat → Int32)), l_X0_bringTo_4 N C_parts v1 n v2 v3 C_lies = some (e2, e_C_lies) → ∀ (H : Heap) (locs : List Loc) (ls : Array Slot), Wd (dC, dI) A s.heap H locs (w_C aC cI cJ cZ C_sampled C_sampleStandings C_sizes C_ends C_lies C_merged C_reached C_done C_mergedBy C_parts C_samples C_bound C_ticks C_mergedInAll C_mergedAgain) → lv_has ls 4 [(0, .ref (aC 0)), (1, .int v1), (2, .int v2), (3, .int v3)] → (∀ (H : Heap) (locs : List Loc) (ls : Array Slot), Wd (dC, dI) A s.heap H locs (w_C aC cI cJ cZ C_sampled C_sampleStandings C_sizes C_ends e_C_lies C_merged C_reached C_done C_mergedBy C_parts C_samples C_bound C_ticks C_mergedInAll C_mergedAgain) → lv_has ls 4 [(2, .int e2)] → W p l e rm_X0_bringTo s m args below meth c H locs 0 0 Q (F0 m 38 ls [])) → W p l e rm_X0_bringTo s m args below meth c H locs 0 0 Q (F0 m 4 ls []) := by
  obtain ⟨hx, hb, hml, hown, hts⟩ := X.1
  have hK := X.2.1
  have hN := X.2.2.2
  intro n
  induction n with
  | zero =>
    intro _ _ _ _ _ hf
    cases hf
  | succ n ih =>
    intro v2 v3 C_lies e2 e_C_lies hf H locs ls hw hl kx
    rw [l_X0_bringTo_4] at hf
    refine lv_iload_n hx hb dX0_bringTo_4 rfl (lv_at hl 3 rfl) ?_
    refine lv_aload_n hx hb dX0_bringTo_5 rfl (lv_at hl 0 rfl) ?_
    refine va_get (D := (dC, dI)) (ci := 0) (v := .int C_parts) (C := RX0) (T := TX0) (N := 15) hx hb hts i_X0_bringTo_X0 hown hK hw.1 0 rfl rfl 9 (by decide) (hts _ m_X0_bringTo_0) (fun _ h9 => h9) rfl dX0_bringTo_6 ?_
    refine lv_icmp_ge (tgt := 38) hx hb dX0_bringTo_9 (by decide) (fun b1 => ?_) (fun b1 => ?_)
    · replace hf := it_t hf b1
      cases hf
      exact kx _ _ _ hw (lv_sub hl [2] rfl)
    · replace hf := it_f hf b1
      refine lv_aload_n hx hb dX0_bringTo_12 rfl (lv_at hl 0 rfl) ?_
      refine va_get (D := (dC, dI)) (ci := 0) (v := .ref (aC 5)) (C := RX0) (T := TX0) (N := 15) hx hb hts i_X0_bringTo_X0 hown hK hw.1 0 rfl rfl 4 (by decide) (hts _ m_X0_bringTo_1) (fun _ h9 => h9) rfl dX0_bringTo_13 ?_
      refine lv_iload_n hx hb dX0_bringTo_16 rfl (lv_at hl 3 rfl) ?_
      have g2 := ix_in (gd_l hf)
      replace hf := gd_r hf
      refine va_iald hx hb hK hw.1 5 0 rfl rfl g2 dX0_bringTo_17 ?_
      refine lv_iconst (v := (-1)) hx hb dX0_bringTo_18 (by decide) ?_
      refine lv_icmp_ne (tgt := 32) hx hb dX0_bringTo_19 (by decide) (fun b3 => ?_) (fun b3 => ?_)
      · replace hf := it_f hf b3
        obtain ⟨x4, ex4⟩ : ∃ y : Int32, y = v3 + 1 := ⟨_, rfl⟩
        replace hf := nl_at hf ex4
        refine lv_iinc (v := x4) (lv' := [(3, .int x4), (0, .ref (aC 0)), (1, .int v1), (2, .int v2)]) hx hb dX0_bringTo_32 hl (k := 3) rfl (by rw [ex4]; rfl) (by decide) rfl (fun ls hl => ?_)
        refine lv_goto (tgt := 4) hx hb dX0_bringTo_35 (by decide) ?_
        exact ih _ _ _ _ _ hf _ _ _ hw (lv_sub hl [1, 2, 3, 0] rfl) kx
      · replace hf := it_t hf b3
        refine lv_aload_n hx hb dX0_bringTo_22 rfl (lv_at hl 0 rfl) ?_
        refine va_get (D := (dC, dI)) (ci := 0) (v := .ref (aC 5)) (C := RX0) (T := TX0) (N := 15) hx hb hts i_X0_bringTo_X0 hown hK hw.1 0 rfl rfl 4 (by decide) (hts _ m_X0_bringTo_1) (fun _ h9 => h9) rfl dX0_bringTo_23 ?_
        refine lv_iload_n hx hb dX0_bringTo_26 rfl (lv_at hl 3 rfl) ?_
        refine lv_iload_n hx hb dX0_bringTo_27 rfl (lv_at hl 1 rfl) ?_
        have g5 := ix_in (gd_l hf)
        replace hf := gd_r hf
        refine g_iast hx hb hK hw 5 0 rfl rfl g5 dX0_bringTo_28 (fun H locs hw => ?_)
        replace hw : Wd (dC, dI) A s.heap H locs (w_C aC cI cJ cZ C_sampled C_sampleStandings C_sizes C_ends (upd C_lies v3.toNatClampNeg v1) C_merged C_reached C_done C_mergedBy C_parts C_samples C_bound C_ticks C_mergedInAll C_mergedAgain) := hw
        obtain ⟨x6, ex6⟩ : ∃ y : Int32, y = v2 + 1 := ⟨_, rfl⟩
        replace hf := nl_at hf ex6
        refine lv_iinc (v := x6) (lv' := [(2, .int x6), (0, .ref (aC 0)), (1, .int v1), (3, .int v3)]) hx hb dX0_bringTo_29 hl (k := 2) rfl (by rw [ex6]; rfl) (by decide) rfl (fun ls hl => ?_)
        obtain ⟨x7, ex7⟩ : ∃ y : Int32, y = v3 + 1 := ⟨_, rfl⟩
        replace hf := nl_at hf ex7
        refine lv_iinc (v := x7) (lv' := [(3, .int x7), (2, .int x6), (0, .ref (aC 0)), (1, .int v1)]) hx hb dX0_bringTo_32 hl (k := 3) rfl (by rw [ex7]; rfl) (by decide) rfl (fun ls hl => ?_)
        refine lv_goto (tgt := 4) hx hb dX0_bringTo_35 (by decide) ?_
        exact ih _ _ _ _ _ hf _ _ _ hw (lv_sub hl [2, 3, 1, 0] rfl) kx
set_option maxHeartbeats 4000000 in
set_option maxRecDepth 100000 in
theorem c_X0_bringTo (l : Launch) (dC : Nat → ClassId) (dI : Nat → Nat → Nat) (cI cJ cZ : ClassId) (aC : Nat → Nat) (N : Nat) (C_sampled : (Nat → Int32)) (C_sampleStandings : (Nat → Int32)) (C_sizes : (Nat → Int32)) (C_ends : (Nat → Int32)) (C_lies : (Nat → Int32)) (C_merged : (Nat → Int32)) (C_reached : (Nat → Int32)) (C_done : (Nat → Int32)) (C_mergedBy : (Nat → Int32)) (C_parts : Int32) (C_samples : Int32) (C_bound : Int32) (C_ticks : Int32) (C_mergedInAll : Int32) (C_mergedAgain : Int32) (v1 : Int32) {r : Int32} {o_C_lies : (Nat → Int32)} (hf : f_X0_bringTo N C_lies C_parts v1 = some (r, o_C_lies)) :
    CtI l yX0_bringTo wsX0_bringTo rm_X0_bringTo (dC, dI) (tyl cI cJ cZ) [.ref (aC 0), .int v1] (w_C aC cI cJ cZ C_sampled C_sampleStandings C_sizes C_ends C_lies C_merged C_reached C_done C_mergedBy C_parts C_samples C_bound C_ticks C_mergedInAll C_mergedAgain) (w_C aC cI cJ cZ C_sampled C_sampleStandings C_sizes C_ends o_C_lies C_merged C_reached C_done C_mergedBy C_parts C_samples C_bound C_ticks C_mergedInAll C_mergedAgain) r := by
  refine startI (cc := cX0_bringTo) (maxL := 4) (rt := (some .int)) (by decide +kernel) rfl (Nat.le_of_ble_eq_true rfl) ?_
  intro p e s m below meth c A ls X hr hlocks hw hl
  replace X : Cx p m c cX0_bringTo 4 s _ wsX0_bringTo RX0 (dC, dI) (tyl cI cJ cZ) A := X
  replace hl : lv_has ls 4 [(0, .ref (aC 0)), (1, .int v1)] := hl
  obtain ⟨hx, hb, hml, hown, hts⟩ := X.1
  have hK := X.2.1
  have hN := X.2.2.2
  unfold f_X0_bringTo at hf
  refine lv_iconst (v := 0) hx hb dX0_bringTo_0 (by decide) ?_
  refine lv_istore_n (lv' := [(2, .int 0), (0, .ref (aC 0)), (1, .int v1)]) hx hb dX0_bringTo_1 rfl hl (by decide) rfl (fun ls hl => ?_)
  refine lv_iconst (v := 0) hx hb dX0_bringTo_2 (by decide) ?_
  refine lv_istore_n (lv' := [(3, .int 0), (2, .int 0), (0, .ref (aC 0)), (1, .int v1)]) hx hb dX0_bringTo_3 rfl hl (by decide) rfl (fun ls hl => ?_)
  obtain ⟨e8, e9, h10, hf⟩ := bd2_ob hf
  refine t_X0_bringTo_4 aC X N C_sampled C_sampleStandings C_sizes C_ends C_merged C_reached C_done C_mergedBy C_parts C_samples C_bound C_ticks C_mergedInAll C_mergedAgain v1 N _ _ _ _ _ h10 _ _ _ hw (lv_sub hl [2, 3, 1, 0] rfl) (fun H locs ls hw hl => ?_)
  refine lv_iload_n hx hb dX0_bringTo_38 rfl (lv_at hl 0 rfl) ?_
  cases hf
  exact endI X hr rfl hlocks rfl hw dX0_bringTo_39
def rm_X0_partsOn : Room := { frames := 0, cells := 0, slots := 0, locals := 0 }
set_option maxRecDepth 20000 in
theorem i_X0_partsOn_X0 : ∀ w ∈ u_ws RX0 TX0 15, w ∈ wsX0_partsOn := by decide +kernel
set_option maxRecDepth 20000 in
theorem m_X0_partsOn_0 : Cond.fieldLink RX0 40 "GreatSort$Cut" "parts" "I" ∈ wsX0_partsOn := by decide +kernel
set_option maxRecDepth 20000 in
theorem m_X0_partsOn_1 : Cond.fieldLink RX0 25 "GreatSort$Cut" "lies" "[I" ∈ wsX0_partsOn := by decide +kernel
set_option maxHeartbeats 4000000 in
set_option maxRecDepth 100000 in
theorem t_X0_partsOn_4 {p : Program} {l : Launch} {e : Env} {s : State} {m : MethodId} {args : Array Value} {below : List Frame} {meth : Method} {c : Code} {Q : State → Prop} {dC : Nat → ClassId} {dI : Nat → Nat → Nat} {cI cJ cZ : ClassId} {A : Nat → Prop} (aC : Nat → Nat) (X : Cx p m c cX0_partsOn 4 s args wsX0_partsOn RX0 (dC, dI) (tyl cI cJ cZ) A) (N : Nat) (C_sampled : (Nat → Int32)) (C_sampleStandings : (Nat → Int32)) (C_sizes : (Nat → Int32)) (C_ends : (Nat → Int32)) (C_lies : (Nat → Int32)) (C_merged : (Nat → Int32)) (C_reached : (Nat → Int32)) (C_done : (Nat → Int32)) (C_mergedBy : (Nat → Int32)) (C_parts : Int32) (C_samples : Int32) (C_bound : Int32) (C_ticks : Int32) (C_mergedInAll : Int32) (C_mergedAgain : Int32) (v1 : Int32) :
    ∀ (n : Nat) (v2 : Int32) (v3 : Int32) (e2 : Int32), l_X0_partsOn_4 N C_lies C_parts v1 n v2 v3 = some e2 → ∀ (H : Heap) (locs : List Loc) (ls : Array Slot), Wd (dC, dI) A s.heap H locs (w_C aC cI cJ cZ C_sampled C_sampleStandings C_sizes C_ends C_lies C_merged C_reached C_done C_mergedBy C_parts C_samples C_bound C_ticks C_mergedInAll C_mergedAgain) → lv_has ls 4 [(0, .ref (aC 0)), (1, .int v1), (2, .int v2), (3, .int v3)] → (∀ (H : Heap) (locs : List Loc) (ls : Array Slot), Wd (dC, dI) A s.heap H locs (w_C aC cI cJ cZ C_sampled C_sampleStandings C_sizes C_ends C_lies C_merged C_reached C_done C_mergedBy C_parts C_samples C_bound C_ticks C_mergedInAll C_mergedAgain) → lv_has ls 4 [(2, .int e2)] → W p l e rm_X0_partsOn s m args below meth c H locs 0 0 Q (F0 m 31 ls [])) → W p l e rm_X0_partsOn s m args below meth c H locs 0 0 Q (F0 m 4 ls []) := by
  obtain ⟨hx, hb, hml, hown, hts⟩ := X.1
  have hK := X.2.1
  have hN := X.2.2.2
  intro n
  induction n with
  | zero =>
    intro _ _ _ hf
    cases hf
  | succ n ih =>
    intro v2 v3 e2 hf H locs ls hw hl kx
    rw [l_X0_partsOn_4] at hf
    refine lv_iload_n hx hb dX0_partsOn_4 rfl (lv_at hl 3 rfl) ?_
    refine lv_aload_n hx hb dX0_partsOn_5 rfl (lv_at hl 0 rfl) ?_
    refine va_get (D := (dC, dI)) (ci := 0) (v := .int C_parts) (C := RX0) (T := TX0) (N := 15) hx hb hts i_X0_partsOn_X0 hown hK hw.1 0 rfl rfl 9 (by decide) (hts _ m_X0_partsOn_0) (fun _ h9 => h9) rfl dX0_partsOn_6 ?_
    refine lv_icmp_ge (tgt := 31) hx hb dX0_partsOn_9 (by decide) (fun b1 => ?_) (fun b1 => ?_)
    · replace hf := it_t hf b1
      cases hf
      exact kx _ _ _ hw (lv_sub hl [2] rfl)
    · replace hf := it_f hf b1
      refine lv_aload_n hx hb dX0_partsOn_12 rfl (lv_at hl 0 rfl) ?_
      refine va_get (D := (dC, dI)) (ci := 0) (v := .ref (aC 5)) (C := RX0) (T := TX0) (N := 15) hx hb hts i_X0_partsOn_X0 hown hK hw.1 0 rfl rfl 4 (by decide) (hts _ m_X0_partsOn_1) (fun _ h9 => h9) rfl dX0_partsOn_13 ?_
      refine lv_iload_n hx hb dX0_partsOn_16 rfl (lv_at hl 3 rfl) ?_
      have g2 := ix_in (gd_l hf)
      replace hf := gd_r hf
      refine va_iald hx hb hK hw.1 5 0 rfl rfl g2 dX0_partsOn_17 ?_
      refine lv_iload_n hx hb dX0_partsOn_18 rfl (lv_at hl 1 rfl) ?_
      refine lv_icmp_ne (tgt := 25) hx hb dX0_partsOn_19 (by decide) (fun b3 => ?_) (fun b3 => ?_)
      · replace hf := it_f hf b3
        obtain ⟨x4, ex4⟩ : ∃ y : Int32, y = v3 + 1 := ⟨_, rfl⟩
        replace hf := nl_at hf ex4
        refine lv_iinc (v := x4) (lv' := [(3, .int x4), (0, .ref (aC 0)), (1, .int v1), (2, .int v2)]) hx hb dX0_partsOn_25 hl (k := 3) rfl (by rw [ex4]; rfl) (by decide) rfl (fun ls hl => ?_)
        refine lv_goto (tgt := 4) hx hb dX0_partsOn_28 (by decide) ?_
        exact ih _ _ _ hf _ _ _ hw (lv_sub hl [1, 2, 3, 0] rfl) kx
      · replace hf := it_t hf b3
        obtain ⟨x5, ex5⟩ : ∃ y : Int32, y = v2 + 1 := ⟨_, rfl⟩
        replace hf := nl_at hf ex5
        refine lv_iinc (v := x5) (lv' := [(2, .int x5), (0, .ref (aC 0)), (1, .int v1), (3, .int v3)]) hx hb dX0_partsOn_22 hl (k := 2) rfl (by rw [ex5]; rfl) (by decide) rfl (fun ls hl => ?_)
        obtain ⟨x6, ex6⟩ : ∃ y : Int32, y = v3 + 1 := ⟨_, rfl⟩
        replace hf := nl_at hf ex6
        refine lv_iinc (v := x6) (lv' := [(3, .int x6), (2, .int x5), (0, .ref (aC 0)), (1, .int v1)]) hx hb dX0_partsOn_25 hl (k := 3) rfl (by rw [ex6]; rfl) (by decide) rfl (fun ls hl => ?_)
        refine lv_goto (tgt := 4) hx hb dX0_partsOn_28 (by decide) ?_
        exact ih _ _ _ hf _ _ _ hw (lv_sub hl [2, 3, 1, 0] rfl) kx
set_option maxHeartbeats 4000000 in
set_option maxRecDepth 100000 in
theorem c_X0_partsOn (l : Launch) (dC : Nat → ClassId) (dI : Nat → Nat → Nat) (cI cJ cZ : ClassId) (aC : Nat → Nat) (N : Nat) (C_sampled : (Nat → Int32)) (C_sampleStandings : (Nat → Int32)) (C_sizes : (Nat → Int32)) (C_ends : (Nat → Int32)) (C_lies : (Nat → Int32)) (C_merged : (Nat → Int32)) (C_reached : (Nat → Int32)) (C_done : (Nat → Int32)) (C_mergedBy : (Nat → Int32)) (C_parts : Int32) (C_samples : Int32) (C_bound : Int32) (C_ticks : Int32) (C_mergedInAll : Int32) (C_mergedAgain : Int32) (v1 : Int32) {r : Int32} (hf : f_X0_partsOn N C_lies C_parts v1 = some r) :
    CtI l yX0_partsOn wsX0_partsOn rm_X0_partsOn (dC, dI) (tyl cI cJ cZ) [.ref (aC 0), .int v1] (w_C aC cI cJ cZ C_sampled C_sampleStandings C_sizes C_ends C_lies C_merged C_reached C_done C_mergedBy C_parts C_samples C_bound C_ticks C_mergedInAll C_mergedAgain) (w_C aC cI cJ cZ C_sampled C_sampleStandings C_sizes C_ends C_lies C_merged C_reached C_done C_mergedBy C_parts C_samples C_bound C_ticks C_mergedInAll C_mergedAgain) r := by
  refine startI (cc := cX0_partsOn) (maxL := 4) (rt := (some .int)) (by decide +kernel) rfl (Nat.le_of_ble_eq_true rfl) ?_
  intro p e s m below meth c A ls X hr hlocks hw hl
  replace X : Cx p m c cX0_partsOn 4 s _ wsX0_partsOn RX0 (dC, dI) (tyl cI cJ cZ) A := X
  replace hl : lv_has ls 4 [(0, .ref (aC 0)), (1, .int v1)] := hl
  obtain ⟨hx, hb, hml, hown, hts⟩ := X.1
  have hK := X.2.1
  have hN := X.2.2.2
  unfold f_X0_partsOn at hf
  refine lv_iconst (v := 0) hx hb dX0_partsOn_0 (by decide) ?_
  refine lv_istore_n (lv' := [(2, .int 0), (0, .ref (aC 0)), (1, .int v1)]) hx hb dX0_partsOn_1 rfl hl (by decide) rfl (fun ls hl => ?_)
  refine lv_iconst (v := 0) hx hb dX0_partsOn_2 (by decide) ?_
  refine lv_istore_n (lv' := [(3, .int 0), (2, .int 0), (0, .ref (aC 0)), (1, .int v1)]) hx hb dX0_partsOn_3 rfl hl (by decide) rfl (fun ls hl => ?_)
  obtain ⟨e7, h8, hf⟩ := bd1_ob hf
  refine t_X0_partsOn_4 aC X N C_sampled C_sampleStandings C_sizes C_ends C_lies C_merged C_reached C_done C_mergedBy C_parts C_samples C_bound C_ticks C_mergedInAll C_mergedAgain v1 N _ _ _ h8 _ _ _ hw (lv_sub hl [2, 3, 1, 0] rfl) (fun H locs ls hw hl => ?_)
  refine lv_iload_n hx hb dX0_partsOn_31 rfl (lv_at hl 0 rfl) ?_
  cases hf
  exact endI X hr rfl hlocks rfl hw dX0_partsOn_32
def rm_X0_mergeSome : Room := { frames := 1, cells := 0, slots := 0, locals := 21 }
set_option maxRecDepth 20000 in
theorem i_X0_mergeSome_X0 : ∀ w ∈ u_ws RX0 TX0 15, w ∈ wsX0_mergeSome := by decide +kernel
set_option maxRecDepth 20000 in
theorem m_X0_mergeSome_0 : Cond.fieldLink RX0 56 "GreatSort$Cut" "mergedAgain" "I" ∈ wsX0_mergeSome := by decide +kernel
set_option maxRecDepth 20000 in
theorem m_X0_mergeSome_1 : Cond.fieldLink RX0 31 "GreatSort$Cut" "reached" "[I" ∈ wsX0_mergeSome := by decide +kernel
set_option maxRecDepth 20000 in
theorem m_X0_mergeSome_2 : Cond.fieldLink RX0 28 "GreatSort$Cut" "merged" "[I" ∈ wsX0_mergeSome := by decide +kernel
set_option maxRecDepth 20000 in
theorem m_X0_mergeSome_3 : Cond.methodLink RX0 130 Lib.Math.max.name ∈ wsX0_mergeSome := by decide +kernel
set_option maxRecDepth 20000 in
theorem m_X0_mergeSome_4 : Cond.static Lib.Math.max.name ∈ wsX0_mergeSome := by decide +kernel
set_option maxRecDepth 20000 in
theorem m_X0_mergeSome_5 : Cond.initialized "java/lang/Math" ∈ wsX0_mergeSome := by decide +kernel
set_option maxRecDepth 20000 in
theorem m_X0_mergeSome_6 : Cond.code Lib.Math.max.name Lib.Math.max.code 2 (some .int) ∈ wsX0_mergeSome := by decide +kernel
set_option maxRecDepth 20000 in
theorem m_X0_mergeSome_7 : Cond.methodLink RX0 122 Lib.Math.min.name ∈ wsX0_mergeSome := by decide +kernel
set_option maxRecDepth 20000 in
theorem m_X0_mergeSome_8 : Cond.static Lib.Math.min.name ∈ wsX0_mergeSome := by decide +kernel
set_option maxRecDepth 20000 in
theorem m_X0_mergeSome_9 : Cond.code Lib.Math.min.name Lib.Math.min.code 2 (some .int) ∈ wsX0_mergeSome := by decide +kernel
set_option maxRecDepth 20000 in
theorem m_X0_mergeSome_10 : Cond.fieldLink RX0 53 "GreatSort$Cut" "mergedInAll" "I" ∈ wsX0_mergeSome := by decide +kernel
set_option maxHeartbeats 4000000 in
set_option maxRecDepth 100000 in
theorem c_X0_mergeSome (l : Launch) (dC : Nat → ClassId) (dI : Nat → Nat → Nat) (cI cJ cZ : ClassId) (aC : Nat → Nat) (N : Nat) (C_sampled : (Nat → Int32)) (C_sampleStandings : (Nat → Int32)) (C_sizes : (Nat → Int32)) (C_ends : (Nat → Int32)) (C_lies : (Nat → Int32)) (C_merged : (Nat → Int32)) (C_reached : (Nat → Int32)) (C_done : (Nat → Int32)) (C_mergedBy : (Nat → Int32)) (C_parts : Int32) (C_samples : Int32) (C_bound : Int32) (C_ticks : Int32) (C_mergedInAll : Int32) (C_mergedAgain : Int32) (v1 : Int32) (v2 : Int32) {o_C_merged : (Nat → Int32)} {o_C_reached : (Nat → Int32)} {o_C_mergedInAll : Int32} {o_C_mergedAgain : Int32} (hf : f_X0_mergeSome N C_merged C_reached C_mergedInAll C_mergedAgain v1 v2 = some (o_C_merged, o_C_reached, o_C_mergedInAll, o_C_mergedAgain)) :
    CtV l yX0_mergeSome wsX0_mergeSome rm_X0_mergeSome (dC, dI) (tyl cI cJ cZ) [.ref (aC 0), .int v1, .int v2] (w_C aC cI cJ cZ C_sampled C_sampleStandings C_sizes C_ends C_lies C_merged C_reached C_done C_mergedBy C_parts C_samples C_bound C_ticks C_mergedInAll C_mergedAgain) (w_C aC cI cJ cZ C_sampled C_sampleStandings C_sizes C_ends C_lies o_C_merged o_C_reached C_done C_mergedBy C_parts C_samples C_bound C_ticks o_C_mergedInAll o_C_mergedAgain) := by
  refine startV (cc := cX0_mergeSome) (maxL := 3) (rt := none) (by decide +kernel) rfl (Nat.le_of_ble_eq_true rfl) ?_
  intro p e s m below meth c A ls X hr hlocks hw hl
  replace X : Cx p m c cX0_mergeSome 3 s _ wsX0_mergeSome RX0 (dC, dI) (tyl cI cJ cZ) A := X
  replace hl : lv_has ls 3 [(0, .ref (aC 0)), (1, .int v1), (2, .int v2)] := hl
  obtain ⟨hx, hb, hml, hown, hts⟩ := X.1
  have hK := X.2.1
  have hN := X.2.2.2
  unfold f_X0_mergeSome at hf
  refine lv_aload_n hx hb dX0_mergeSome_0 rfl (lv_at hl 0 rfl) ?_
  refine lv_dup hx hb dX0_mergeSome_1 rfl ?_
  refine va_get (D := (dC, dI)) (ci := 0) (v := .int C_mergedAgain) (C := RX0) (T := TX0) (N := 15) hx hb hts i_X0_mergeSome_X0 hown hK hw.1 0 rfl rfl 14 (by decide) (hts _ m_X0_mergeSome_0) (fun _ h9 => h9) rfl dX0_mergeSome_2 ?_
  refine lv_iload_n hx hb dX0_mergeSome_5 rfl (lv_at hl 2 rfl) ?_
  refine lv_iconst (v := 0) hx hb dX0_mergeSome_6 (by decide) ?_
  refine lv_aload_n hx hb dX0_mergeSome_7 rfl (lv_at hl 0 rfl) ?_
  refine va_get (D := (dC, dI)) (ci := 0) (v := .ref (aC 7)) (C := RX0) (T := TX0) (N := 15) hx hb hts i_X0_mergeSome_X0 hown hK hw.1 0 rfl rfl 6 (by decide) (hts _ m_X0_mergeSome_1) (fun _ h9 => h9) rfl dX0_mergeSome_8 ?_
  refine lv_iload_n hx hb dX0_mergeSome_11 rfl (lv_at hl 1 rfl) ?_
  have g1 := ix_in (gd_l hf)
  replace hf := gd_r hf
  refine va_iald hx hb hK hw.1 7 0 rfl rfl g1 dX0_mergeSome_12 ?_
  refine lv_aload_n hx hb dX0_mergeSome_13 rfl (lv_at hl 0 rfl) ?_
  refine va_get (D := (dC, dI)) (ci := 0) (v := .ref (aC 6)) (C := RX0) (T := TX0) (N := 15) hx hb hts i_X0_mergeSome_X0 hown hK hw.1 0 rfl rfl 5 (by decide) (hts _ m_X0_mergeSome_2) (fun _ h9 => h9) rfl dX0_mergeSome_14 ?_
  refine lv_iload_n hx hb dX0_mergeSome_17 rfl (lv_at hl 1 rfl) ?_
  have g2 := ix_in (gd_l hf)
  replace hf := gd_r hf
  refine va_iald hx hb hK hw.1 6 0 rfl rfl g2 dX0_mergeSome_18 ?_
  refine lv_isub hx hb dX0_mergeSome_19 ?_
  refine va_mmax hx hb (hml.trans hl.1.symm) hown (hts _ m_X0_mergeSome_3) (hts _ m_X0_mergeSome_4) (hts _ m_X0_mergeSome_5) (hts _ m_X0_mergeSome_6) (by decide) (Nat.le_of_ble_eq_true rfl) (Nat.zero_le _) (Nat.zero_le _) dX0_mergeSome_20 ?_
  refine va_mmin hx hb (hml.trans hl.1.symm) hown (hts _ m_X0_mergeSome_7) (hts _ m_X0_mergeSome_8) (hts _ m_X0_mergeSome_5) (hts _ m_X0_mergeSome_9) (by decide) (Nat.le_of_ble_eq_true rfl) (Nat.zero_le _) (Nat.zero_le _) dX0_mergeSome_23 ?_
  refine lv_iadd hx hb dX0_mergeSome_26 ?_
  refine lv_topi (fun x3 ex3 => ?_)
  replace hf := nl_at hf ex3
  refine g_put (D := (dC, dI)) (ci := 0) (v := .int x3) (ty := .int) (C := RX0) (T := TX0) (N := 15) hx hb hts i_X0_mergeSome_X0 tyX0 tyX0_ok nmX0 hown hK hw 0 rfl rfl 14 (by decide) (hts _ m_X0_mergeSome_0) (fun _ h9 => h9) rfl (by decide +kernel) rfl rfl (Nat.le_of_ble_eq_true rfl) dX0_mergeSome_27 (fun H locs hw => ?_)
  replace hw : Wd (dC, dI) A s.heap H locs (w_C aC cI cJ cZ C_sampled C_sampleStandings C_sizes C_ends C_lies C_merged C_reached C_done C_mergedBy C_parts C_samples C_bound C_ticks C_mergedInAll x3) := hw
  refine lv_aload_n hx hb dX0_mergeSome_30 rfl (lv_at hl 0 rfl) ?_
  refine lv_dup hx hb dX0_mergeSome_31 rfl ?_
  refine va_get (D := (dC, dI)) (ci := 0) (v := .int C_mergedInAll) (C := RX0) (T := TX0) (N := 15) hx hb hts i_X0_mergeSome_X0 hown hK hw.1 0 rfl rfl 13 (by decide) (hts _ m_X0_mergeSome_10) (fun _ h9 => h9) rfl dX0_mergeSome_32 ?_
  refine lv_iload_n hx hb dX0_mergeSome_35 rfl (lv_at hl 2 rfl) ?_
  refine lv_iadd hx hb dX0_mergeSome_36 ?_
  refine lv_topi (fun x4 ex4 => ?_)
  replace hf := nl_at hf ex4
  refine g_put (D := (dC, dI)) (ci := 0) (v := .int x4) (ty := .int) (C := RX0) (T := TX0) (N := 15) hx hb hts i_X0_mergeSome_X0 tyX0 tyX0_ok nmX0 hown hK hw 0 rfl rfl 13 (by decide) (hts _ m_X0_mergeSome_10) (fun _ h9 => h9) rfl (by decide +kernel) rfl rfl (Nat.le_of_ble_eq_true rfl) dX0_mergeSome_37 (fun H locs hw => ?_)
  replace hw : Wd (dC, dI) A s.heap H locs (w_C aC cI cJ cZ C_sampled C_sampleStandings C_sizes C_ends C_lies C_merged C_reached C_done C_mergedBy C_parts C_samples C_bound C_ticks x4 x3) := hw
  refine lv_aload_n hx hb dX0_mergeSome_40 rfl (lv_at hl 0 rfl) ?_
  refine va_get (D := (dC, dI)) (ci := 0) (v := .ref (aC 6)) (C := RX0) (T := TX0) (N := 15) hx hb hts i_X0_mergeSome_X0 hown hK hw.1 0 rfl rfl 5 (by decide) (hts _ m_X0_mergeSome_2) (fun _ h9 => h9) rfl dX0_mergeSome_41 ?_
  refine lv_iload_n hx hb dX0_mergeSome_44 rfl (lv_at hl 1 rfl) ?_
  refine lv_dup2_11 hx hb dX0_mergeSome_45 rfl rfl ?_
  have g5 := ix_in (gd_l hf)
  replace hf := gd_r hf
  refine va_iald hx hb hK hw.1 6 0 rfl rfl g5 dX0_mergeSome_46 ?_
  refine lv_iload_n hx hb dX0_mergeSome_47 rfl (lv_at hl 2 rfl) ?_
  refine lv_iadd hx hb dX0_mergeSome_48 ?_
  refine lv_topi (fun x6 ex6 => ?_)
  replace hf := nl_at hf ex6
  have g7 := ix_in (gd_l hf)
  replace hf := gd_r hf
  refine g_iast hx hb hK hw 6 0 rfl rfl g7 dX0_mergeSome_49 (fun H locs hw => ?_)
  replace hw : Wd (dC, dI) A s.heap H locs (w_C aC cI cJ cZ C_sampled C_sampleStandings C_sizes C_ends C_lies (upd C_merged v1.toNatClampNeg x6) C_reached C_done C_mergedBy C_parts C_samples C_bound C_ticks x4 x3) := hw
  refine lv_aload_n hx hb dX0_mergeSome_50 rfl (lv_at hl 0 rfl) ?_
  refine va_get (D := (dC, dI)) (ci := 0) (v := .ref (aC 7)) (C := RX0) (T := TX0) (N := 15) hx hb hts i_X0_mergeSome_X0 hown hK hw.1 0 rfl rfl 6 (by decide) (hts _ m_X0_mergeSome_1) (fun _ h9 => h9) rfl dX0_mergeSome_51 ?_
  refine lv_iload_n hx hb dX0_mergeSome_54 rfl (lv_at hl 1 rfl) ?_
  refine lv_aload_n hx hb dX0_mergeSome_55 rfl (lv_at hl 0 rfl) ?_
  refine va_get (D := (dC, dI)) (ci := 0) (v := .ref (aC 7)) (C := RX0) (T := TX0) (N := 15) hx hb hts i_X0_mergeSome_X0 hown hK hw.1 0 rfl rfl 6 (by decide) (hts _ m_X0_mergeSome_1) (fun _ h9 => h9) rfl dX0_mergeSome_56 ?_
  refine lv_iload_n hx hb dX0_mergeSome_59 rfl (lv_at hl 1 rfl) ?_
  have g8 := ix_in (gd_l hf)
  replace hf := gd_r hf
  refine va_iald hx hb hK hw.1 7 0 rfl rfl g8 dX0_mergeSome_60 ?_
  refine lv_aload_n hx hb dX0_mergeSome_61 rfl (lv_at hl 0 rfl) ?_
  refine va_get (D := (dC, dI)) (ci := 0) (v := .ref (aC 6)) (C := RX0) (T := TX0) (N := 15) hx hb hts i_X0_mergeSome_X0 hown hK hw.1 0 rfl rfl 5 (by decide) (hts _ m_X0_mergeSome_2) (fun _ h9 => h9) rfl dX0_mergeSome_62 ?_
  refine lv_iload_n hx hb dX0_mergeSome_65 rfl (lv_at hl 1 rfl) ?_
  have g9 := ix_in (gd_l hf)
  replace hf := gd_r hf
  refine va_iald hx hb hK hw.1 6 0 rfl rfl g9 dX0_mergeSome_66 ?_
  refine va_mmax hx hb (hml.trans hl.1.symm) hown (hts _ m_X0_mergeSome_3) (hts _ m_X0_mergeSome_4) (hts _ m_X0_mergeSome_5) (hts _ m_X0_mergeSome_6) (by decide) (Nat.le_of_ble_eq_true rfl) (Nat.zero_le _) (Nat.zero_le _) dX0_mergeSome_67 ?_
  refine lv_topi (fun x10 ex10 => ?_)
  replace hf := nl_at hf ex10
  have g11 := ix_in (gd_l hf)
  replace hf := gd_r hf
  refine g_iast hx hb hK hw 7 0 rfl rfl g11 dX0_mergeSome_70 (fun H locs hw => ?_)
  replace hw : Wd (dC, dI) A s.heap H locs (w_C aC cI cJ cZ C_sampled C_sampleStandings C_sizes C_ends C_lies (upd C_merged v1.toNatClampNeg x6) (upd C_reached v1.toNatClampNeg x10) C_done C_mergedBy C_parts C_samples C_bound C_ticks x4 x3) := hw
  cases hf
  exact endV X hr hlocks hw dX0_mergeSome_71
def rm_X0_workAtPartsOf : Room := { frames := 2, cells := 0, slots := 0, locals := 43 }
set_option maxRecDepth 20000 in
theorem i_X0_workAtPartsOf_X0 : ∀ w ∈ u_ws RX0 TX0 15, w ∈ wsX0_workAtPartsOf := by decide +kernel
set_option maxRecDepth 20000 in
theorem m_X0_workAtPartsOf_0 : Cond.fieldLink RX0 40 "GreatSort$Cut" "parts" "I" ∈ wsX0_workAtPartsOf := by decide +kernel
set_option maxRecDepth 20000 in
theorem m_X0_workAtPartsOf_1 : Cond.fieldLink RX0 25 "GreatSort$Cut" "lies" "[I" ∈ wsX0_workAtPartsOf := by decide +kernel
set_option maxRecDepth 20000 in
theorem m_X0_workAtPartsOf_2 : Cond.fieldLink RX0 34 "GreatSort$Cut" "done" "[Z" ∈ wsX0_workAtPartsOf := by decide +kernel
set_option maxRecDepth 20000 in
theorem m_X0_workAtPartsOf_3 : Cond.fieldLink RX0 19 "GreatSort$Cut" "sizes" "[I" ∈ wsX0_workAtPartsOf := by decide +kernel
set_option maxRecDepth 20000 in
theorem m_X0_workAtPartsOf_4 : Cond.fieldLink RX0 28 "GreatSort$Cut" "merged" "[I" ∈ wsX0_workAtPartsOf := by decide +kernel
set_option maxRecDepth 20000 in
theorem m_X0_workAtPartsOf_5 : Cond.methodLink RX0 122 Lib.Math.min.name ∈ wsX0_workAtPartsOf := by decide +kernel
set_option maxRecDepth 20000 in
theorem m_X0_workAtPartsOf_6 : Cond.static Lib.Math.min.name ∈ wsX0_workAtPartsOf := by decide +kernel
set_option maxRecDepth 20000 in
theorem m_X0_workAtPartsOf_7 : Cond.initialized "java/lang/Math" ∈ wsX0_workAtPartsOf := by decide +kernel
set_option maxRecDepth 20000 in
theorem m_X0_workAtPartsOf_8 : Cond.code Lib.Math.min.name Lib.Math.min.code 2 (some .int) ∈ wsX0_workAtPartsOf := by decide +kernel
set_option maxRecDepth 20000 in
theorem m_X0_workAtPartsOf_9 : Cond.fieldLink RX0 37 "GreatSort$Cut" "mergedBy" "[I" ∈ wsX0_workAtPartsOf := by decide +kernel
set_option maxHeartbeats 4000000 in
set_option maxRecDepth 100000 in
theorem t_X0_workAtPartsOf_5 {p : Program} {l : Launch} {e : Env} {s : State} {m : MethodId} {args : Array Value} {below : List Frame} {meth : Method} {c : Code} {Q : State → Prop} {dC : Nat → ClassId} {dI : Nat → Nat → Nat} {cI cJ cZ : ClassId} {A : Nat → Prop} (aC : Nat → Nat) (X : Cx p m c cX0_workAtPartsOf 6 s args wsX0_workAtPartsOf RX0 (dC, dI) (tyl cI cJ cZ) A) (N : Nat) (C_sampled : (Nat → Int32)) (C_sampleStandings : (Nat → Int32)) (C_sizes : (Nat → Int32)) (C_ends : (Nat → Int32)) (C_lies : (Nat → Int32)) (C_parts : Int32) (C_samples : Int32) (C_bound : Int32) (C_ticks : Int32) (v1 : Int32) :
    ∀ (n : Nat) (v3 : Int32) (v4 : Int32) (C_merged : (Nat → Int32)) (C_reached : (Nat → Int32)) (C_done : (Nat → Int32)) (C_mergedBy : (Nat → Int32)) (C_mergedInAll : Int32) (C_mergedAgain : Int32) (e_C_merged : (Nat → Int32)) (e_C_reached : (Nat → Int32)) (e_C_done : (Nat → Int32)) (e_C_mergedBy : (Nat → Int32)) (e_C_mergedInAll : Int32) (e_C_mergedAgain : Int32), l_X0_workAtPartsOf_5 N C_sizes C_lies C_parts v1 n v3 v4 C_merged C_reached C_done C_mergedBy C_mergedInAll C_mergedAgain = some (e_C_merged, e_C_reached, e_C_done, e_C_mergedBy, e_C_mergedInAll, e_C_mergedAgain) → ∀ (H : Heap) (locs : List Loc) (ls : Array Slot), Wd (dC, dI) A s.heap H locs (w_C aC cI cJ cZ C_sampled C_sampleStandings C_sizes C_ends C_lies C_merged C_reached C_done C_mergedBy C_parts C_samples C_bound C_ticks C_mergedInAll C_mergedAgain) → lv_has ls 6 [(0, .ref (aC 0)), (1, .int v1), (3, .int v3), (4, .int v4)] → (∀ (H : Heap) (locs : List Loc) (ls : Array Slot), Wd (dC, dI) A s.heap H locs (w_C aC cI cJ cZ C_sampled C_sampleStandings C_sizes C_ends C_lies e_C_merged e_C_reached e_C_done e_C_mergedBy C_parts C_samples C_bound C_ticks e_C_mergedInAll e_C_mergedAgain) → lv_has ls 6 [] → W p l e rm_X0_workAtPartsOf s m args below meth c H locs 0 0 Q (F0 m 117 ls [])) → W p l e rm_X0_workAtPartsOf s m args below meth c H locs 0 0 Q (F0 m 5 ls []) := by
  obtain ⟨hx, hb, hml, hown, hts⟩ := X.1
  have hK := X.2.1
  have hN := X.2.2.2
  intro n
  induction n with
  | zero =>
    intro _ _ _ _ _ _ _ _ _ _ _ _ _ _ hf
    cases hf
  | succ n ih =>
    intro v3 v4 C_merged C_reached C_done C_mergedBy C_mergedInAll C_mergedAgain e_C_merged e_C_reached e_C_done e_C_mergedBy e_C_mergedInAll e_C_mergedAgain hf H locs ls hw hl kx
    rw [l_X0_workAtPartsOf_5] at hf
    refine lv_iload hx hb dX0_workAtPartsOf_5 (lv_at hl 3 rfl) ?_
    refine lv_aload_n hx hb dX0_workAtPartsOf_7 rfl (lv_at hl 0 rfl) ?_
    refine va_get (D := (dC, dI)) (ci := 0) (v := .int C_parts) (C := RX0) (T := TX0) (N := 15) hx hb hts i_X0_workAtPartsOf_X0 hown hK hw.1 0 rfl rfl 9 (by decide) (hts _ m_X0_workAtPartsOf_0) (fun _ h9 => h9) rfl dX0_workAtPartsOf_8 ?_
    refine lv_icmp_ge (tgt := 117) hx hb dX0_workAtPartsOf_11 (by decide) (fun b1 => ?_) (fun b1 => ?_)
    · replace hf := it_t hf b1
      cases hf
      exact kx _ _ _ hw (lv_sub hl [] rfl)
    · replace hf := it_f hf b1
      refine lv_aload_n hx hb dX0_workAtPartsOf_14 rfl (lv_at hl 0 rfl) ?_
      refine va_get (D := (dC, dI)) (ci := 0) (v := .ref (aC 5)) (C := RX0) (T := TX0) (N := 15) hx hb hts i_X0_workAtPartsOf_X0 hown hK hw.1 0 rfl rfl 4 (by decide) (hts _ m_X0_workAtPartsOf_1) (fun _ h9 => h9) rfl dX0_workAtPartsOf_15 ?_
      refine lv_iload hx hb dX0_workAtPartsOf_18 (lv_at hl 3 rfl) ?_
      have g2 := ix_in (gd_l hf)
      replace hf := gd_r hf
      refine va_iald hx hb hK hw.1 5 0 rfl rfl g2 dX0_workAtPartsOf_20 ?_
      refine lv_iload_n hx hb dX0_workAtPartsOf_21 rfl (lv_at hl 1 rfl) ?_
      refine lv_icmp_ne (tgt := 111) hx hb dX0_workAtPartsOf_22 (by decide) (fun b3 => ?_) (fun b3 => ?_)
      · replace hf := it_f hf b3
        obtain ⟨x4, ex4⟩ : ∃ y : Int32, y = v4 + 1 := ⟨_, rfl⟩
        replace hf := nl_at hf ex4
        refine lv_iinc (v := x4) (lv' := [(4, .int x4), (0, .ref (aC 0)), (1, .int v1), (3, .int v3)]) hx hb dX0_workAtPartsOf_111 hl (k := 3) rfl (by rw [ex4]; rfl) (by decide) rfl (fun ls hl => ?_)
        refine lv_goto (tgt := 5) hx hb dX0_workAtPartsOf_114 (by decide) ?_
        exact ih _ _ _ _ _ _ _ _ _ _ _ _ _ _ hf _ _ _ hw (lv_sub hl [1, 2, 3, 0] rfl) kx
      · replace hf := it_t hf b3
        refine lv_aload_n hx hb dX0_workAtPartsOf_25 rfl (lv_at hl 0 rfl) ?_
        refine va_get (D := (dC, dI)) (ci := 0) (v := .ref (aC 8)) (C := RX0) (T := TX0) (N := 15) hx hb hts i_X0_workAtPartsOf_X0 hown hK hw.1 0 rfl rfl 7 (by decide) (hts _ m_X0_workAtPartsOf_2) (fun _ h9 => h9) rfl dX0_workAtPartsOf_26 ?_
        refine lv_iload hx hb dX0_workAtPartsOf_29 (lv_at hl 3 rfl) ?_
        have g5 := ix_in (gd_l hf)
        replace hf := gd_r hf
        refine va_zald hx hb hK hw.1 8 2 rfl rfl g5 dX0_workAtPartsOf_31 ?_
        refine lv_if_eq (tgt := 38) hx hb dX0_workAtPartsOf_32 (by decide) (fun b6 => ?_) (fun b6 => ?_)
        · replace hf := it_t hf b6
          refine lv_iload_n hx hb dX0_workAtPartsOf_38 rfl (lv_at hl 2 rfl) ?_
          refine lv_aload_n hx hb dX0_workAtPartsOf_39 rfl (lv_at hl 0 rfl) ?_
          refine va_get (D := (dC, dI)) (ci := 0) (v := .ref (aC 3)) (C := RX0) (T := TX0) (N := 15) hx hb hts i_X0_workAtPartsOf_X0 hown hK hw.1 0 rfl rfl 2 (by decide) (hts _ m_X0_workAtPartsOf_3) (fun _ h9 => h9) rfl dX0_workAtPartsOf_40 ?_
          refine lv_iload hx hb dX0_workAtPartsOf_43 (lv_at hl 3 rfl) ?_
          have g7 := ix_in (gd_l hf)
          replace hf := gd_r hf
          refine va_iald hx hb hK hw.1 3 0 rfl rfl g7 dX0_workAtPartsOf_45 ?_
          refine lv_aload_n hx hb dX0_workAtPartsOf_46 rfl (lv_at hl 0 rfl) ?_
          refine va_get (D := (dC, dI)) (ci := 0) (v := .ref (aC 6)) (C := RX0) (T := TX0) (N := 15) hx hb hts i_X0_workAtPartsOf_X0 hown hK hw.1 0 rfl rfl 5 (by decide) (hts _ m_X0_workAtPartsOf_4) (fun _ h9 => h9) rfl dX0_workAtPartsOf_47 ?_
          refine lv_iload hx hb dX0_workAtPartsOf_50 (lv_at hl 3 rfl) ?_
          have g8 := ix_in (gd_l hf)
          replace hf := gd_r hf
          refine va_iald hx hb hK hw.1 6 0 rfl rfl g8 dX0_workAtPartsOf_52 ?_
          refine lv_isub hx hb dX0_workAtPartsOf_53 ?_
          refine va_mmin hx hb (hml.trans hl.1.symm) hown (hts _ m_X0_workAtPartsOf_5) (hts _ m_X0_workAtPartsOf_6) (hts _ m_X0_workAtPartsOf_7) (hts _ m_X0_workAtPartsOf_8) (by decide) (Nat.le_of_ble_eq_true rfl) (Nat.zero_le _) (Nat.zero_le _) dX0_workAtPartsOf_54 ?_
          refine lv_topi (fun x9 ex9 => ?_)
          replace hf := nl_at hf ex9
          refine lv_istore (lv' := [(5, .int x9), (0, .ref (aC 0)), (1, .int v1), (3, .int v3), (4, .int v4)]) hx hb dX0_workAtPartsOf_57 hl (by decide) rfl (fun ls hl => ?_)
          refine lv_aload_n hx hb dX0_workAtPartsOf_59 rfl (lv_at hl 1 rfl) ?_
          refine lv_iload hx hb dX0_workAtPartsOf_60 (lv_at hl 4 rfl) ?_
          refine lv_iload hx hb dX0_workAtPartsOf_62 (lv_at hl 0 rfl) ?_
          obtain ⟨c10, c11, c12, c13, h14, hf⟩ := bd4_ob hf
          refine clFV (As := [.int v4, .int x9]) (rest := []) X (c_X0_mergeSome l dC dI cI cJ cZ aC N C_sampled C_sampleStandings C_sizes C_ends C_lies C_merged C_reached C_done C_mergedBy C_parts C_samples C_bound C_ticks C_mergedInAll C_mergedAgain v4 x9 h14) (cwV 2 hts gX0_workAtPartsOf_X0_mergeSome rfl rfl rfl (by decide +kernel) ⟨Nat.le_of_ble_eq_true rfl, Nat.le_of_ble_eq_true rfl⟩) (ci := 0) (k0 := 0) rfl rfl rfl hw rfl rfl hl.1 rfl (Nat.le_of_ble_eq_true rfl) dX0_workAtPartsOf_64 ⟨Nat.zero_le _, Nat.zero_le _⟩ (fun H locs hw => ?_)
          refine lv_aload_n hx hb dX0_workAtPartsOf_67 rfl (lv_at hl 1 rfl) ?_
          refine va_get (D := (dC, dI)) (ci := 0) (v := .ref (aC 9)) (C := RX0) (T := TX0) (N := 15) hx hb hts i_X0_workAtPartsOf_X0 hown hK hw.1 0 rfl rfl 8 (by decide) (hts _ m_X0_workAtPartsOf_9) (fun _ h9 => h9) rfl dX0_workAtPartsOf_68 ?_
          refine lv_iload_n hx hb dX0_workAtPartsOf_71 rfl (lv_at hl 2 rfl) ?_
          refine lv_dup2_11 hx hb dX0_workAtPartsOf_72 rfl rfl ?_
          have g15 := ix_in (gd_l hf)
          replace hf := gd_r hf
          refine va_iald hx hb hK hw.1 9 0 rfl rfl g15 dX0_workAtPartsOf_73 ?_
          refine lv_iload hx hb dX0_workAtPartsOf_74 (lv_at hl 0 rfl) ?_
          refine lv_iadd hx hb dX0_workAtPartsOf_76 ?_
          refine lv_topi (fun x16 ex16 => ?_)
          replace hf := nl_at hf ex16
          have g17 := ix_in (gd_l hf)
          replace hf := gd_r hf
          refine g_iast hx hb hK hw 9 0 rfl rfl g17 dX0_workAtPartsOf_77 (fun H locs hw => ?_)
          replace hw : Wd (dC, dI) A s.heap H locs (w_C aC cI cJ cZ C_sampled C_sampleStandings C_sizes C_ends C_lies c10 c11 C_done (upd C_mergedBy v1.toNatClampNeg x16) C_parts C_samples C_bound C_ticks c12 c13) := hw
          refine lv_iload_n hx hb dX0_workAtPartsOf_78 rfl (lv_at hl 3 rfl) ?_
          refine lv_iload hx hb dX0_workAtPartsOf_79 (lv_at hl 0 rfl) ?_
          refine lv_isub hx hb dX0_workAtPartsOf_81 ?_
          refine lv_topi (fun x18 ex18 => ?_)
          replace hf := nl_at hf ex18
          refine lv_istore_n (lv' := [(3, .int x18), (5, .int x9), (0, .ref (aC 0)), (1, .int v1), (4, .int v4)]) hx hb dX0_workAtPartsOf_82 rfl hl (by decide) rfl (fun ls hl => ?_)
          refine lv_aload_n hx hb dX0_workAtPartsOf_83 rfl (lv_at hl 2 rfl) ?_
          refine va_get (D := (dC, dI)) (ci := 0) (v := .ref (aC 6)) (C := RX0) (T := TX0) (N := 15) hx hb hts i_X0_workAtPartsOf_X0 hown hK hw.1 0 rfl rfl 5 (by decide) (hts _ m_X0_workAtPartsOf_4) (fun _ h9 => h9) rfl dX0_workAtPartsOf_84 ?_
          refine lv_iload hx hb dX0_workAtPartsOf_87 (lv_at hl 4 rfl) ?_
          have g19 := ix_in (gd_l hf)
          replace hf := gd_r hf
          refine va_iald hx hb hK hw.1 6 0 rfl rfl g19 dX0_workAtPartsOf_89 ?_
          refine lv_aload_n hx hb dX0_workAtPartsOf_90 rfl (lv_at hl 2 rfl) ?_
          refine va_get (D := (dC, dI)) (ci := 0) (v := .ref (aC 3)) (C := RX0) (T := TX0) (N := 15) hx hb hts i_X0_workAtPartsOf_X0 hown hK hw.1 0 rfl rfl 2 (by decide) (hts _ m_X0_workAtPartsOf_3) (fun _ h9 => h9) rfl dX0_workAtPartsOf_91 ?_
          refine lv_iload hx hb dX0_workAtPartsOf_94 (lv_at hl 4 rfl) ?_
          have g20 := ix_in (gd_l hf)
          replace hf := gd_r hf
          refine va_iald hx hb hK hw.1 3 0 rfl rfl g20 dX0_workAtPartsOf_96 ?_
          refine lv_icmp_ge (tgt := 103) hx hb dX0_workAtPartsOf_97 (by decide) (fun b21 => ?_) (fun b21 => ?_)
          · replace hf := it_t hf b21
            refine lv_aload_n hx hb dX0_workAtPartsOf_103 rfl (lv_at hl 2 rfl) ?_
            refine va_get (D := (dC, dI)) (ci := 0) (v := .ref (aC 8)) (C := RX0) (T := TX0) (N := 15) hx hb hts i_X0_workAtPartsOf_X0 hown hK hw.1 0 rfl rfl 7 (by decide) (hts _ m_X0_workAtPartsOf_2) (fun _ h9 => h9) rfl dX0_workAtPartsOf_104 ?_
            refine lv_iload hx hb dX0_workAtPartsOf_107 (lv_at hl 4 rfl) ?_
            refine lv_iconst (v := 1) hx hb dX0_workAtPartsOf_109 (by decide) ?_
            have g22 := ix_in (gd_l hf)
            replace hf := gd_r hf
            refine g_zast hx hb hK hw 8 2 rfl rfl g22 dX0_workAtPartsOf_110 (fun H locs hw => ?_)
            replace hw : Wd (dC, dI) A s.heap H locs (w_C aC cI cJ cZ C_sampled C_sampleStandings C_sizes C_ends C_lies c10 c11 (upd C_done v4.toNatClampNeg (vp_nar .boolean 1)) (upd C_mergedBy v1.toNatClampNeg x16) C_parts C_samples C_bound C_ticks c12 c13) := hw
            obtain ⟨x23, ex23⟩ : ∃ y : Int32, y = v4 + 1 := ⟨_, rfl⟩
            replace hf := nl_at hf ex23
            refine lv_iinc (v := x23) (lv' := [(4, .int x23), (3, .int x18), (5, .int x9), (0, .ref (aC 0)), (1, .int v1)]) hx hb dX0_workAtPartsOf_111 hl (k := 4) rfl (by rw [ex23]; rfl) (by decide) rfl (fun ls hl => ?_)
            refine lv_goto (tgt := 5) hx hb dX0_workAtPartsOf_114 (by decide) ?_
            exact ih _ _ _ _ _ _ _ _ _ _ _ _ _ _ hf _ _ _ hw (lv_sub hl [3, 4, 1, 0] rfl) kx
          · replace hf := it_f hf b21
            refine lv_goto (tgt := 117) hx hb dX0_workAtPartsOf_100 (by decide) ?_
            cases hf
            exact kx _ _ _ hw (lv_sub hl [] rfl)
        · replace hf := it_f hf b6
          refine lv_goto (tgt := 111) hx hb dX0_workAtPartsOf_35 (by decide) ?_
          obtain ⟨x24, ex24⟩ : ∃ y : Int32, y = v4 + 1 := ⟨_, rfl⟩
          replace hf := nl_at hf ex24
          refine lv_iinc (v := x24) (lv' := [(4, .int x24), (0, .ref (aC 0)), (1, .int v1), (3, .int v3)]) hx hb dX0_workAtPartsOf_111 hl (k := 3) rfl (by rw [ex24]; rfl) (by decide) rfl (fun ls hl => ?_)
          refine lv_goto (tgt := 5) hx hb dX0_workAtPartsOf_114 (by decide) ?_
          exact ih _ _ _ _ _ _ _ _ _ _ _ _ _ _ hf _ _ _ hw (lv_sub hl [1, 2, 3, 0] rfl) kx
set_option maxHeartbeats 4000000 in
set_option maxRecDepth 100000 in
theorem c_X0_workAtPartsOf (l : Launch) (dC : Nat → ClassId) (dI : Nat → Nat → Nat) (cI cJ cZ : ClassId) (aC : Nat → Nat) (N : Nat) (C_sampled : (Nat → Int32)) (C_sampleStandings : (Nat → Int32)) (C_sizes : (Nat → Int32)) (C_ends : (Nat → Int32)) (C_lies : (Nat → Int32)) (C_merged : (Nat → Int32)) (C_reached : (Nat → Int32)) (C_done : (Nat → Int32)) (C_mergedBy : (Nat → Int32)) (C_parts : Int32) (C_samples : Int32) (C_bound : Int32) (C_ticks : Int32) (C_mergedInAll : Int32) (C_mergedAgain : Int32) (v1 : Int32) (v2 : Int32) {o_C_merged : (Nat → Int32)} {o_C_reached : (Nat → Int32)} {o_C_done : (Nat → Int32)} {o_C_mergedBy : (Nat → Int32)} {o_C_mergedInAll : Int32} {o_C_mergedAgain : Int32} (hf : f_X0_workAtPartsOf N C_sizes C_lies C_merged C_reached C_done C_mergedBy C_parts C_mergedInAll C_mergedAgain v1 v2 = some (o_C_merged, o_C_reached, o_C_done, o_C_mergedBy, o_C_mergedInAll, o_C_mergedAgain)) :
    CtV l yX0_workAtPartsOf wsX0_workAtPartsOf rm_X0_workAtPartsOf (dC, dI) (tyl cI cJ cZ) [.ref (aC 0), .int v1, .int v2] (w_C aC cI cJ cZ C_sampled C_sampleStandings C_sizes C_ends C_lies C_merged C_reached C_done C_mergedBy C_parts C_samples C_bound C_ticks C_mergedInAll C_mergedAgain) (w_C aC cI cJ cZ C_sampled C_sampleStandings C_sizes C_ends C_lies o_C_merged o_C_reached o_C_done o_C_mergedBy C_parts C_samples C_bound C_ticks o_C_mergedInAll o_C_mergedAgain) := by
  refine startV (cc := cX0_workAtPartsOf) (maxL := 6) (rt := none) (by decide +kernel) rfl (Nat.le_of_ble_eq_true rfl) ?_
  intro p e s m below meth c A ls X hr hlocks hw hl
  replace X : Cx p m c cX0_workAtPartsOf 6 s _ wsX0_workAtPartsOf RX0 (dC, dI) (tyl cI cJ cZ) A := X
  replace hl : lv_has ls 6 [(0, .ref (aC 0)), (1, .int v1), (2, .int v2)] := hl
  obtain ⟨hx, hb, hml, hown, hts⟩ := X.1
  have hK := X.2.1
  have hN := X.2.2.2
  unfold f_X0_workAtPartsOf at hf
  refine lv_iload_n hx hb dX0_workAtPartsOf_0 rfl (lv_at hl 2 rfl) ?_
  refine lv_istore_n (lv' := [(3, .int v2), (0, .ref (aC 0)), (1, .int v1), (2, .int v2)]) hx hb dX0_workAtPartsOf_1 rfl hl (by decide) rfl (fun ls hl => ?_)
  refine lv_iconst (v := 0) hx hb dX0_workAtPartsOf_2 (by decide) ?_
  refine lv_istore (lv' := [(4, .int 0), (3, .int v2), (0, .ref (aC 0)), (1, .int v1), (2, .int v2)]) hx hb dX0_workAtPartsOf_3 hl (by decide) rfl (fun ls hl => ?_)
  obtain ⟨e25, e26, e27, e28, e29, e30, h31, hf⟩ := bd6_ob hf
  refine t_X0_workAtPartsOf_5 aC X N C_sampled C_sampleStandings C_sizes C_ends C_lies C_parts C_samples C_bound C_ticks v1 N _ _ _ _ _ _ _ _ _ _ _ _ _ _ h31 _ _ _ hw (lv_sub hl [2, 3, 1, 0] rfl) (fun H locs ls hw hl => ?_)
  cases hf
  exact endV X hr hlocks hw dX0_workAtPartsOf_117
def rm_X0_goOn : Room := { frames := 3, cells := 0, slots := 0, locals := 68 }
set_option maxRecDepth 20000 in
theorem i_X0_goOn_X0 : ∀ w ∈ u_ws RX0 TX0 15, w ∈ wsX0_goOn := by decide +kernel
set_option maxRecDepth 20000 in
theorem i_X0_goOn_X2 : ∀ w ∈ u_ws RX2 TX2 2, w ∈ wsX0_goOn := by decide +kernel
set_option maxRecDepth 20000 in
theorem m_X0_goOn_0 : Cond.fieldLink RX0 50 "GreatSort$Cut" "ticks" "I" ∈ wsX0_goOn := by decide +kernel
set_option maxRecDepth 20000 in
theorem m_X0_goOn_1 : Cond.fieldLink RX0 53 "GreatSort$Cut" "mergedInAll" "I" ∈ wsX0_goOn := by decide +kernel
set_option maxHeartbeats 4000000 in
set_option maxRecDepth 100000 in
theorem t_X0_goOn_17 {p : Program} {l : Launch} {e : Env} {s : State} {m : MethodId} {args : Array Value} {below : List Frame} {meth : Method} {c : Code} {Q : State → Prop} {dC : Nat → ClassId} {dI : Nat → Nat → Nat} {cI cJ cZ : ClassId} {A : Nat → Prop} (aC aO : Nat → Nat) (X : Cx p m c cX0_goOn 4 s args wsX0_goOn RX0 (dC, dI) (tyl cI cJ cZ) A) (N : Nat) (C_sampled : (Nat → Int32)) (C_sampleStandings : (Nat → Int32)) (C_sizes : (Nat → Int32)) (C_ends : (Nat → Int32)) (C_lies : (Nat → Int32)) (C_parts : Int32) (C_samples : Int32) (C_bound : Int32) (C_ticks : Int32) (O_paces : (Nat → Int32)) (O_up : (Nat → Int32)) (v2 : Int32) :
    ∀ (n : Nat) (v3 : Int32) (C_merged : (Nat → Int32)) (C_reached : (Nat → Int32)) (C_done : (Nat → Int32)) (C_mergedBy : (Nat → Int32)) (C_mergedInAll : Int32) (C_mergedAgain : Int32) (e_C_merged : (Nat → Int32)) (e_C_reached : (Nat → Int32)) (e_C_done : (Nat → Int32)) (e_C_mergedBy : (Nat → Int32)) (e_C_mergedInAll : Int32) (e_C_mergedAgain : Int32), l_X0_goOn_17 N C_sizes C_lies C_parts O_paces O_up n v3 C_merged C_reached C_done C_mergedBy C_mergedInAll C_mergedAgain = some (e_C_merged, e_C_reached, e_C_done, e_C_mergedBy, e_C_mergedInAll, e_C_mergedAgain) → ∀ (H : Heap) (locs : List Loc) (ls : Array Slot), Wd (dC, dI) A s.heap H locs (w_CO aC aO cI cJ cZ C_sampled C_sampleStandings C_sizes C_ends C_lies C_merged C_reached C_done C_mergedBy C_parts C_samples C_bound C_ticks C_mergedInAll C_mergedAgain O_paces O_up) → lv_has ls 4 [(0, .ref (aC 0)), (1, .ref (aO 0)), (2, .int v2), (3, .int v3)] → (∀ (H : Heap) (locs : List Loc) (ls : Array Slot), Wd (dC, dI) A s.heap H locs (w_CO aC aO cI cJ cZ C_sampled C_sampleStandings C_sizes C_ends C_lies e_C_merged e_C_reached e_C_done e_C_mergedBy C_parts C_samples C_bound C_ticks e_C_mergedInAll e_C_mergedAgain O_paces O_up) → lv_has ls 4 [(0, .ref (aC 0)), (2, .int v2)] → W p l e rm_X0_goOn s m args below meth c H locs 0 0 Q (F0 m 49 ls [])) → W p l e rm_X0_goOn s m args below meth c H locs 0 0 Q (F0 m 17 ls []) := by
  obtain ⟨hx, hb, hml, hown, hts⟩ := X.1
  have hK := X.2.1
  have hN := X.2.2.2
  intro n
  induction n with
  | zero =>
    intro _ _ _ _ _ _ _ _ _ _ _ _ _ hf
    cases hf
  | succ n ih =>
    intro v3 C_merged C_reached C_done C_mergedBy C_mergedInAll C_mergedAgain e_C_merged e_C_reached e_C_done e_C_mergedBy e_C_mergedInAll e_C_mergedAgain hf H locs ls hw hl kx
    rw [l_X0_goOn_17] at hf
    refine lv_iload_n hx hb dX0_goOn_17 rfl (lv_at hl 3 rfl) ?_
    refine lv_bipush (v := 8) hx hb dX0_goOn_18 (by decide) ?_
    refine lv_icmp_ge (tgt := 49) hx hb dX0_goOn_20 (by decide) (fun b2 => ?_) (fun b2 => ?_)
    · replace hf := it_t hf b2
      cases hf
      exact kx _ _ _ hw (lv_sub hl [0, 2] rfl)
    · replace hf := it_f hf b2
      refine lv_aload_n hx hb dX0_goOn_23 rfl (lv_at hl 1 rfl) ?_
      refine va_getN (D := (dC, dI)) (ci := 2) (v := .ref (aO 2)) (C := RX2) (T := TX2) (N := 2) hx hb hts i_X0_goOn_X2 hown hK hw.1 10 rfl rfl 1 (by decide) (va_Nw.use rfl (hN _ nk_24)) (fun _ h9 => h9) rfl dX0_goOn_24 ?_
      refine lv_iload_n hx hb dX0_goOn_27 rfl (lv_at hl 3 rfl) ?_
      have g3 := ix_in (gd_l hf)
      replace hf := gd_r hf
      refine va_zald hx hb hK hw.1 12 2 rfl rfl g3 dX0_goOn_28 ?_
      refine lv_if_eq (tgt := 43) hx hb dX0_goOn_29 (by decide) (fun b4 => ?_) (fun b4 => ?_)
      · replace hf := it_t hf b4
        obtain ⟨x5, ex5⟩ : ∃ y : Int32, y = v3 + 1 := ⟨_, rfl⟩
        replace hf := nl_at hf ex5
        refine lv_iinc (v := x5) (lv' := [(3, .int x5), (0, .ref (aC 0)), (1, .ref (aO 0)), (2, .int v2)]) hx hb dX0_goOn_43 hl (k := 3) rfl (by rw [ex5]; rfl) (by decide) rfl (fun ls hl => ?_)
        refine lv_goto (tgt := 17) hx hb dX0_goOn_46 (by decide) ?_
        exact ih _ _ _ _ _ _ _ _ _ _ _ _ _ hf _ _ _ hw (lv_sub hl [1, 2, 3, 0] rfl) kx
      · replace hf := it_f hf b4
        refine lv_aload_n hx hb dX0_goOn_32 rfl (lv_at hl 0 rfl) ?_
        refine lv_iload_n hx hb dX0_goOn_33 rfl (lv_at hl 3 rfl) ?_
        refine lv_aload_n hx hb dX0_goOn_34 rfl (lv_at hl 1 rfl) ?_
        refine va_getN (D := (dC, dI)) (ci := 2) (v := .ref (aO 1)) (C := RX2) (T := TX2) (N := 2) hx hb hts i_X0_goOn_X2 hown hK hw.1 10 rfl rfl 0 (by decide) (va_Nw.use rfl (hN _ nk_21)) (fun _ h9 => h9) rfl dX0_goOn_35 ?_
        refine lv_iload_n hx hb dX0_goOn_38 rfl (lv_at hl 3 rfl) ?_
        have g6 := ix_in (gd_l hf)
        replace hf := gd_r hf
        refine va_iald hx hb hK hw.1 11 0 rfl rfl g6 dX0_goOn_39 ?_
        obtain ⟨c7, c8, c9, c10, c11, c12, h13, hf⟩ := bd6_ob hf
        refine clVV (As := [.int v3, .int (O_paces v3.toNatClampNeg)]) (rest := []) X (c_X0_workAtPartsOf l dC dI cI cJ cZ aC N C_sampled C_sampleStandings C_sizes C_ends C_lies C_merged C_reached C_done C_mergedBy C_parts C_samples C_bound C_ticks C_mergedInAll C_mergedAgain v3 (O_paces v3.toNatClampNeg) h13) (cwV 2 hts gX0_goOn_X0_workAtPartsOf rfl rfl rfl (by decide +kernel) ⟨Nat.le_of_ble_eq_true rfl, Nat.le_of_ble_eq_true rfl⟩) (ci := 0) (k0 := 0) rfl rfl rfl hw [0, 1, 2, 3, 4, 5, 6, 7, 8, 9] rfl rfl rfl rfl hl.1 rfl (Nat.le_of_ble_eq_true rfl) dX0_goOn_40 ⟨Nat.zero_le _, Nat.zero_le _⟩ (fun H locs hw => ?_)
        replace hw : Wd (dC, dI) A s.heap H locs (w_CO aC aO cI cJ cZ C_sampled C_sampleStandings C_sizes C_ends C_lies c7 c8 c9 c10 C_parts C_samples C_bound C_ticks c11 c12 O_paces O_up) := hw
        obtain ⟨x14, ex14⟩ : ∃ y : Int32, y = v3 + 1 := ⟨_, rfl⟩
        replace hf := nl_at hf ex14
        refine lv_iinc (v := x14) (lv' := [(3, .int x14), (0, .ref (aC 0)), (1, .ref (aO 0)), (2, .int v2)]) hx hb dX0_goOn_43 hl (k := 3) rfl (by rw [ex14]; rfl) (by decide) rfl (fun ls hl => ?_)
        refine lv_goto (tgt := 17) hx hb dX0_goOn_46 (by decide) ?_
        exact ih _ _ _ _ _ _ _ _ _ _ _ _ _ hf _ _ _ hw (lv_sub hl [1, 2, 3, 0] rfl) kx
set_option maxHeartbeats 4000000 in
set_option maxRecDepth 100000 in
theorem c_X0_goOn (l : Launch) (dC : Nat → ClassId) (dI : Nat → Nat → Nat) (cI cJ cZ : ClassId) (aC aO : Nat → Nat) (N : Nat) (C_sampled : (Nat → Int32)) (C_sampleStandings : (Nat → Int32)) (C_sizes : (Nat → Int32)) (C_ends : (Nat → Int32)) (C_lies : (Nat → Int32)) (C_merged : (Nat → Int32)) (C_reached : (Nat → Int32)) (C_done : (Nat → Int32)) (C_mergedBy : (Nat → Int32)) (C_parts : Int32) (C_samples : Int32) (C_bound : Int32) (C_ticks : Int32) (C_mergedInAll : Int32) (C_mergedAgain : Int32) (O_paces : (Nat → Int32)) (O_up : (Nat → Int32))  {r : Int32} {o_C_merged : (Nat → Int32)} {o_C_reached : (Nat → Int32)} {o_C_done : (Nat → Int32)} {o_C_mergedBy : (Nat → Int32)} {o_C_ticks : Int32} {o_C_mergedInAll : Int32} {o_C_mergedAgain : Int32} (hf : f_X0_goOn N C_sizes C_lies C_merged C_reached C_done C_mergedBy C_parts C_ticks C_mergedInAll C_mergedAgain O_paces O_up  = some (r, o_C_merged, o_C_reached, o_C_done, o_C_mergedBy, o_C_ticks, o_C_mergedInAll, o_C_mergedAgain)) :
    CtI l yX0_goOn wsX0_goOn rm_X0_goOn (dC, dI) (tyl cI cJ cZ) [.ref (aC 0), .ref (aO 0)] (w_CO aC aO cI cJ cZ C_sampled C_sampleStandings C_sizes C_ends C_lies C_merged C_reached C_done C_mergedBy C_parts C_samples C_bound C_ticks C_mergedInAll C_mergedAgain O_paces O_up) (w_CO aC aO cI cJ cZ C_sampled C_sampleStandings C_sizes C_ends C_lies o_C_merged o_C_reached o_C_done o_C_mergedBy C_parts C_samples C_bound o_C_ticks o_C_mergedInAll o_C_mergedAgain O_paces O_up) r := by
  refine startI (cc := cX0_goOn) (maxL := 4) (rt := (some .int)) (by decide +kernel) rfl (Nat.le_of_ble_eq_true rfl) ?_
  intro p e s m below meth c A ls X hr hlocks hw hl
  replace X : Cx p m c cX0_goOn 4 s _ wsX0_goOn RX0 (dC, dI) (tyl cI cJ cZ) A := X
  replace hl : lv_has ls 4 [(0, .ref (aC 0)), (1, .ref (aO 0))] := hl
  obtain ⟨hx, hb, hml, hown, hts⟩ := X.1
  have hK := X.2.1
  have hN := X.2.2.2
  unfold f_X0_goOn at hf
  refine lv_aload_n hx hb dX0_goOn_0 rfl (lv_at hl 0 rfl) ?_
  refine lv_dup hx hb dX0_goOn_1 rfl ?_
  refine va_get (D := (dC, dI)) (ci := 0) (v := .int C_ticks) (C := RX0) (T := TX0) (N := 15) hx hb hts i_X0_goOn_X0 hown hK hw.1 0 rfl rfl 12 (by decide) (hts _ m_X0_goOn_0) (fun _ h9 => h9) rfl dX0_goOn_2 ?_
  refine lv_iconst (v := 1) hx hb dX0_goOn_5 (by decide) ?_
  refine lv_iadd hx hb dX0_goOn_6 ?_
  refine lv_topi (fun x1 ex1 => ?_)
  replace hf := nl_at hf ex1
  refine g_put (D := (dC, dI)) (ci := 0) (v := .int x1) (ty := .int) (C := RX0) (T := TX0) (N := 15) hx hb hts i_X0_goOn_X0 tyX0 tyX0_ok nmX0 hown hK hw 0 rfl rfl 12 (by decide) (hts _ m_X0_goOn_0) (fun _ h9 => h9) rfl (by decide +kernel) rfl rfl (Nat.le_of_ble_eq_true rfl) dX0_goOn_7 (fun H locs hw => ?_)
  replace hw : Wd (dC, dI) A s.heap H locs (w_CO aC aO cI cJ cZ C_sampled C_sampleStandings C_sizes C_ends C_lies C_merged C_reached C_done C_mergedBy C_parts C_samples C_bound x1 C_mergedInAll C_mergedAgain O_paces O_up) := hw
  refine lv_aload_n hx hb dX0_goOn_10 rfl (lv_at hl 0 rfl) ?_
  refine va_get (D := (dC, dI)) (ci := 0) (v := .int C_mergedInAll) (C := RX0) (T := TX0) (N := 15) hx hb hts i_X0_goOn_X0 hown hK hw.1 0 rfl rfl 13 (by decide) (hts _ m_X0_goOn_1) (fun _ h9 => h9) rfl dX0_goOn_11 ?_
  refine lv_istore_n (lv' := [(2, .int C_mergedInAll), (0, .ref (aC 0)), (1, .ref (aO 0))]) hx hb dX0_goOn_14 rfl hl (by decide) rfl (fun ls hl => ?_)
  refine lv_iconst (v := 0) hx hb dX0_goOn_15 (by decide) ?_
  refine lv_istore_n (lv' := [(3, .int 0), (2, .int C_mergedInAll), (0, .ref (aC 0)), (1, .ref (aO 0))]) hx hb dX0_goOn_16 rfl hl (by decide) rfl (fun ls hl => ?_)
  obtain ⟨e15, e16, e17, e18, e19, e20, h21, hf⟩ := bd6_ob hf
  refine t_X0_goOn_17 aC aO X N C_sampled C_sampleStandings C_sizes C_ends C_lies C_parts C_samples C_bound x1 O_paces O_up C_mergedInAll N _ _ _ _ _ _ _ _ _ _ _ _ _ h21 _ _ _ hw (lv_sub hl [2, 3, 1, 0] rfl) (fun H locs ls hw hl => ?_)
  refine lv_aload_n hx hb dX0_goOn_49 rfl (lv_at hl 0 rfl) ?_
  refine va_get (D := (dC, dI)) (ci := 0) (v := .int e19) (C := RX0) (T := TX0) (N := 15) hx hb hts i_X0_goOn_X0 hown hK hw.1 0 rfl rfl 13 (by decide) (hts _ m_X0_goOn_1) (fun _ h9 => h9) rfl dX0_goOn_50 ?_
  refine lv_iload_n hx hb dX0_goOn_53 rfl (lv_at hl 1 rfl) ?_
  refine lv_isub hx hb dX0_goOn_54 ?_
  cases hf
  exact endI X hr rfl hlocks rfl hw dX0_goOn_55
def rm_X0_partsDone : Room := { frames := 0, cells := 0, slots := 0, locals := 0 }
set_option maxRecDepth 20000 in
theorem i_X0_partsDone_X0 : ∀ w ∈ u_ws RX0 TX0 15, w ∈ wsX0_partsDone := by decide +kernel
set_option maxRecDepth 20000 in
theorem m_X0_partsDone_0 : Cond.fieldLink RX0 40 "GreatSort$Cut" "parts" "I" ∈ wsX0_partsDone := by decide +kernel
set_option maxRecDepth 20000 in
theorem m_X0_partsDone_1 : Cond.fieldLink RX0 34 "GreatSort$Cut" "done" "[Z" ∈ wsX0_partsDone := by decide +kernel
set_option maxHeartbeats 4000000 in
set_option maxRecDepth 100000 in
theorem t_X0_partsDone_4 {p : Program} {l : Launch} {e : Env} {s : State} {m : MethodId} {args : Array Value} {below : List Frame} {meth : Method} {c : Code} {Q : State → Prop} {dC : Nat → ClassId} {dI : Nat → Nat → Nat} {cI cJ cZ : ClassId} {A : Nat → Prop} (aC : Nat → Nat) (X : Cx p m c cX0_partsDone 3 s args wsX0_partsDone RX0 (dC, dI) (tyl cI cJ cZ) A) (N : Nat) (C_sampled : (Nat → Int32)) (C_sampleStandings : (Nat → Int32)) (C_sizes : (Nat → Int32)) (C_ends : (Nat → Int32)) (C_lies : (Nat → Int32)) (C_merged : (Nat → Int32)) (C_reached : (Nat → Int32)) (C_done : (Nat → Int32)) (C_mergedBy : (Nat → Int32)) (C_parts : Int32) (C_samples : Int32) (C_bound : Int32) (C_ticks : Int32) (C_mergedInAll : Int32) (C_mergedAgain : Int32)  :
    ∀ (n : Nat) (v1 : Int32) (v2 : Int32) (e1 : Int32), l_X0_partsDone_4 N C_done C_parts n v1 v2 = some e1 → ∀ (H : Heap) (locs : List Loc) (ls : Array Slot), Wd (dC, dI) A s.heap H locs (w_C aC cI cJ cZ C_sampled C_sampleStandings C_sizes C_ends C_lies C_merged C_reached C_done C_mergedBy C_parts C_samples C_bound C_ticks C_mergedInAll C_mergedAgain) → lv_has ls 3 [(0, .ref (aC 0)), (1, .int v1), (2, .int v2)] → (∀ (H : Heap) (locs : List Loc) (ls : Array Slot), Wd (dC, dI) A s.heap H locs (w_C aC cI cJ cZ C_sampled C_sampleStandings C_sizes C_ends C_lies C_merged C_reached C_done C_mergedBy C_parts C_samples C_bound C_ticks C_mergedInAll C_mergedAgain) → lv_has ls 3 [(1, .int e1)] → W p l e rm_X0_partsDone s m args below meth c H locs 0 0 Q (F0 m 30 ls [])) → W p l e rm_X0_partsDone s m args below meth c H locs 0 0 Q (F0 m 4 ls []) := by
  obtain ⟨hx, hb, hml, hown, hts⟩ := X.1
  have hK := X.2.1
  have hN := X.2.2.2
  intro n
  induction n with
  | zero =>
    intro _ _ _ hf
    cases hf
  | succ n ih =>
    intro v1 v2 e1 hf H locs ls hw hl kx
    rw [l_X0_partsDone_4] at hf
    refine lv_iload_n hx hb dX0_partsDone_4 rfl (lv_at hl 2 rfl) ?_
    refine lv_aload_n hx hb dX0_partsDone_5 rfl (lv_at hl 0 rfl) ?_
    refine va_get (D := (dC, dI)) (ci := 0) (v := .int C_parts) (C := RX0) (T := TX0) (N := 15) hx hb hts i_X0_partsDone_X0 hown hK hw.1 0 rfl rfl 9 (by decide) (hts _ m_X0_partsDone_0) (fun _ h9 => h9) rfl dX0_partsDone_6 ?_
    refine lv_icmp_ge (tgt := 30) hx hb dX0_partsDone_9 (by decide) (fun b1 => ?_) (fun b1 => ?_)
    · replace hf := it_t hf b1
      cases hf
      exact kx _ _ _ hw (lv_sub hl [1] rfl)
    · replace hf := it_f hf b1
      refine lv_aload_n hx hb dX0_partsDone_12 rfl (lv_at hl 0 rfl) ?_
      refine va_get (D := (dC, dI)) (ci := 0) (v := .ref (aC 8)) (C := RX0) (T := TX0) (N := 15) hx hb hts i_X0_partsDone_X0 hown hK hw.1 0 rfl rfl 7 (by decide) (hts _ m_X0_partsDone_1) (fun _ h9 => h9) rfl dX0_partsDone_13 ?_
      refine lv_iload_n hx hb dX0_partsDone_16 rfl (lv_at hl 2 rfl) ?_
      have g2 := ix_in (gd_l hf)
      replace hf := gd_r hf
      refine va_zald hx hb hK hw.1 8 2 rfl rfl g2 dX0_partsDone_17 ?_
      refine lv_if_eq (tgt := 24) hx hb dX0_partsDone_18 (by decide) (fun b3 => ?_) (fun b3 => ?_)
      · replace hf := it_t hf b3
        obtain ⟨x4, ex4⟩ : ∃ y : Int32, y = v2 + 1 := ⟨_, rfl⟩
        replace hf := nl_at hf ex4
        refine lv_iinc (v := x4) (lv' := [(2, .int x4), (0, .ref (aC 0)), (1, .int v1)]) hx hb dX0_partsDone_24 hl (k := 2) rfl (by rw [ex4]; rfl) (by decide) rfl (fun ls hl => ?_)
        refine lv_goto (tgt := 4) hx hb dX0_partsDone_27 (by decide) ?_
        exact ih _ _ _ hf _ _ _ hw (lv_sub hl [1, 2, 0] rfl) kx
      · replace hf := it_f hf b3
        obtain ⟨x5, ex5⟩ : ∃ y : Int32, y = v1 + 1 := ⟨_, rfl⟩
        replace hf := nl_at hf ex5
        refine lv_iinc (v := x5) (lv' := [(1, .int x5), (0, .ref (aC 0)), (2, .int v2)]) hx hb dX0_partsDone_21 hl (k := 1) rfl (by rw [ex5]; rfl) (by decide) rfl (fun ls hl => ?_)
        obtain ⟨x6, ex6⟩ : ∃ y : Int32, y = v2 + 1 := ⟨_, rfl⟩
        replace hf := nl_at hf ex6
        refine lv_iinc (v := x6) (lv' := [(2, .int x6), (1, .int x5), (0, .ref (aC 0))]) hx hb dX0_partsDone_24 hl (k := 2) rfl (by rw [ex6]; rfl) (by decide) rfl (fun ls hl => ?_)
        refine lv_goto (tgt := 4) hx hb dX0_partsDone_27 (by decide) ?_
        exact ih _ _ _ hf _ _ _ hw (lv_sub hl [2, 1, 0] rfl) kx
set_option maxHeartbeats 4000000 in
set_option maxRecDepth 100000 in
theorem c_X0_partsDone (l : Launch) (dC : Nat → ClassId) (dI : Nat → Nat → Nat) (cI cJ cZ : ClassId) (aC : Nat → Nat) (N : Nat) (C_sampled : (Nat → Int32)) (C_sampleStandings : (Nat → Int32)) (C_sizes : (Nat → Int32)) (C_ends : (Nat → Int32)) (C_lies : (Nat → Int32)) (C_merged : (Nat → Int32)) (C_reached : (Nat → Int32)) (C_done : (Nat → Int32)) (C_mergedBy : (Nat → Int32)) (C_parts : Int32) (C_samples : Int32) (C_bound : Int32) (C_ticks : Int32) (C_mergedInAll : Int32) (C_mergedAgain : Int32)  {r : Int32} (hf : f_X0_partsDone N C_done C_parts  = some r) :
    CtI l yX0_partsDone wsX0_partsDone rm_X0_partsDone (dC, dI) (tyl cI cJ cZ) [.ref (aC 0)] (w_C aC cI cJ cZ C_sampled C_sampleStandings C_sizes C_ends C_lies C_merged C_reached C_done C_mergedBy C_parts C_samples C_bound C_ticks C_mergedInAll C_mergedAgain) (w_C aC cI cJ cZ C_sampled C_sampleStandings C_sizes C_ends C_lies C_merged C_reached C_done C_mergedBy C_parts C_samples C_bound C_ticks C_mergedInAll C_mergedAgain) r := by
  refine startI (cc := cX0_partsDone) (maxL := 3) (rt := (some .int)) (by decide +kernel) rfl (Nat.le_of_ble_eq_true rfl) ?_
  intro p e s m below meth c A ls X hr hlocks hw hl
  replace X : Cx p m c cX0_partsDone 3 s _ wsX0_partsDone RX0 (dC, dI) (tyl cI cJ cZ) A := X
  replace hl : lv_has ls 3 [(0, .ref (aC 0))] := hl
  obtain ⟨hx, hb, hml, hown, hts⟩ := X.1
  have hK := X.2.1
  have hN := X.2.2.2
  unfold f_X0_partsDone at hf
  refine lv_iconst (v := 0) hx hb dX0_partsDone_0 (by decide) ?_
  refine lv_istore_n (lv' := [(1, .int 0), (0, .ref (aC 0))]) hx hb dX0_partsDone_1 rfl hl (by decide) rfl (fun ls hl => ?_)
  refine lv_iconst (v := 0) hx hb dX0_partsDone_2 (by decide) ?_
  refine lv_istore_n (lv' := [(2, .int 0), (1, .int 0), (0, .ref (aC 0))]) hx hb dX0_partsDone_3 rfl hl (by decide) rfl (fun ls hl => ?_)
  obtain ⟨e7, h8, hf⟩ := bd1_ob hf
  refine t_X0_partsDone_4 aC X N C_sampled C_sampleStandings C_sizes C_ends C_lies C_merged C_reached C_done C_mergedBy C_parts C_samples C_bound C_ticks C_mergedInAll C_mergedAgain N _ _ _ h8 _ _ _ hw (lv_sub hl [2, 1, 0] rfl) (fun H locs ls hw hl => ?_)
  refine lv_iload_n hx hb dX0_partsDone_30 rfl (lv_at hl 0 rfl) ?_
  cases hf
  exact endI X hr rfl hlocks rfl hw dX0_partsDone_31
def rm_X0_isAtEnd : Room := { frames := 1, cells := 0, slots := 0, locals := 22 }
set_option maxRecDepth 20000 in
theorem i_X0_isAtEnd_X0 : ∀ w ∈ u_ws RX0 TX0 15, w ∈ wsX0_isAtEnd := by decide +kernel
set_option maxRecDepth 20000 in
theorem m_X0_isAtEnd_0 : Cond.fieldLink RX0 40 "GreatSort$Cut" "parts" "I" ∈ wsX0_isAtEnd := by decide +kernel
set_option maxHeartbeats 4000000 in
set_option maxRecDepth 100000 in
theorem c_X0_isAtEnd (l : Launch) (dC : Nat → ClassId) (dI : Nat → Nat → Nat) (cI cJ cZ : ClassId) (aC : Nat → Nat) (N : Nat) (C_sampled : (Nat → Int32)) (C_sampleStandings : (Nat → Int32)) (C_sizes : (Nat → Int32)) (C_ends : (Nat → Int32)) (C_lies : (Nat → Int32)) (C_merged : (Nat → Int32)) (C_reached : (Nat → Int32)) (C_done : (Nat → Int32)) (C_mergedBy : (Nat → Int32)) (C_parts : Int32) (C_samples : Int32) (C_bound : Int32) (C_ticks : Int32) (C_mergedInAll : Int32) (C_mergedAgain : Int32)  {r : Int32} (hf : f_X0_isAtEnd N C_done C_parts  = some r) :
    CtI l yX0_isAtEnd wsX0_isAtEnd rm_X0_isAtEnd (dC, dI) (tyl cI cJ cZ) [.ref (aC 0)] (w_C aC cI cJ cZ C_sampled C_sampleStandings C_sizes C_ends C_lies C_merged C_reached C_done C_mergedBy C_parts C_samples C_bound C_ticks C_mergedInAll C_mergedAgain) (w_C aC cI cJ cZ C_sampled C_sampleStandings C_sizes C_ends C_lies C_merged C_reached C_done C_mergedBy C_parts C_samples C_bound C_ticks C_mergedInAll C_mergedAgain) r := by
  refine startI (cc := cX0_isAtEnd) (maxL := 1) (rt := (some .boolean)) (by decide +kernel) rfl (Nat.le_of_ble_eq_true rfl) ?_
  intro p e s m below meth c A ls X hr hlocks hw hl
  replace X : Cx p m c cX0_isAtEnd 1 s _ wsX0_isAtEnd RX0 (dC, dI) (tyl cI cJ cZ) A := X
  replace hl : lv_has ls 1 [(0, .ref (aC 0))] := hl
  obtain ⟨hx, hb, hml, hown, hts⟩ := X.1
  have hK := X.2.1
  have hN := X.2.2.2
  unfold f_X0_isAtEnd at hf
  refine lv_aload_n hx hb dX0_isAtEnd_0 rfl (lv_at hl 0 rfl) ?_
  obtain ⟨r1, h2, hf⟩ := bd1_ob hf
  refine clFI (As := []) (rest := []) X (c_X0_stands l dC dI cI cJ cZ aC N C_sampled C_sampleStandings C_sizes C_ends C_lies C_merged C_reached C_done C_mergedBy C_parts C_samples C_bound C_ticks C_mergedInAll C_mergedAgain h2) (cwV 0 hts gX0_isAtEnd_X0_stands rfl rfl rfl (by decide +kernel) ⟨Nat.le_of_ble_eq_true rfl, Nat.le_of_ble_eq_true rfl⟩) (ci := 0) (k0 := 0) rfl rfl rfl hw rfl rfl hl.1 rfl (Nat.le_of_ble_eq_true rfl) dX0_isAtEnd_1 ⟨Nat.zero_le _, Nat.zero_le _⟩ (fun H locs hw => ?_)
  refine lv_if_eq (tgt := 22) hx hb dX0_isAtEnd_4 (by decide) (fun b3 => ?_) (fun b3 => ?_)
  · replace hf := it_t hf b3
    refine lv_iconst (v := 0) hx hb dX0_isAtEnd_22 (by decide) ?_
    have g4 := bz_nar (gd_l hf)
    replace hf := gd_r hf
    cases hf
    exact endI X hr g4 hlocks rfl hw dX0_isAtEnd_23
  · replace hf := it_f hf b3
    refine lv_aload_n hx hb dX0_isAtEnd_7 rfl (lv_at hl 0 rfl) ?_
    obtain ⟨r5, h6, hf⟩ := bd1_ob hf
    refine clFI (As := []) (rest := []) X (c_X0_partsDone l dC dI cI cJ cZ aC N C_sampled C_sampleStandings C_sizes C_ends C_lies C_merged C_reached C_done C_mergedBy C_parts C_samples C_bound C_ticks C_mergedInAll C_mergedAgain h6) (cwV 0 hts gX0_isAtEnd_X0_partsDone rfl rfl rfl (by decide +kernel) ⟨Nat.le_of_ble_eq_true rfl, Nat.le_of_ble_eq_true rfl⟩) (ci := 0) (k0 := 0) rfl rfl rfl hw rfl rfl hl.1 rfl (Nat.le_of_ble_eq_true rfl) dX0_isAtEnd_8 ⟨Nat.zero_le _, Nat.zero_le _⟩ (fun H locs hw => ?_)
    refine lv_aload_n hx hb dX0_isAtEnd_11 rfl (lv_at hl 0 rfl) ?_
    refine va_get (D := (dC, dI)) (ci := 0) (v := .int C_parts) (C := RX0) (T := TX0) (N := 15) hx hb hts i_X0_isAtEnd_X0 hown hK hw.1 0 rfl rfl 9 (by decide) (hts _ m_X0_isAtEnd_0) (fun _ h9 => h9) rfl dX0_isAtEnd_12 ?_
    refine lv_icmp_ne (tgt := 22) hx hb dX0_isAtEnd_15 (by decide) (fun b7 => ?_) (fun b7 => ?_)
    · replace hf := it_f hf b7
      refine lv_iconst (v := 0) hx hb dX0_isAtEnd_22 (by decide) ?_
      have g8 := bz_nar (gd_l hf)
      replace hf := gd_r hf
      cases hf
      exact endI X hr g8 hlocks rfl hw dX0_isAtEnd_23
    · replace hf := it_t hf b7
      refine lv_iconst (v := 1) hx hb dX0_isAtEnd_18 (by decide) ?_
      refine lv_goto (tgt := 23) hx hb dX0_isAtEnd_19 (by decide) ?_
      have g9 := bz_nar (gd_l hf)
      replace hf := gd_r hf
      cases hf
      exact endI X hr g9 hlocks rfl hw dX0_isAtEnd_23
