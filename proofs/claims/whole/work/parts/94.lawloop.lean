/-! THE CLAIM OUT OF ONE WALK OF THE LAW'S BODY. Your part is whole_start (and what it stands on); all else here is the same for every law, but numbers. -/
def R_law : String := "GreatSortLaw"
def lw_P (b : Addr) (xs : List Int32) (args : Array Value) (s : State) : Prop := args = #[.ref b] ∧ s.IntsAt b xs ∧ xs.length ≤ 3072 ∧ (Jvm.Cond.and given_1 narrow_1).before args s = true
def lw_Q (_ : Array Value) (s : State) (o : Outcome) (t : State) : Prop := o = .returned (some (.int 1)) ∧ Framed s o t [] 600000 7302250
def lw_Z (below : List Frame) (a : Array Value) (s : State) : State → Prop := fun t => ∃ o, t.status = .running ∧ Ended t below o ∧ lw_Q a s o t
/-- the law's own end, with 1 on the stack, nothing written that was there before, its room as the claim has it -/
theorem lw_ret {p : Program} {l : Launch} {e : Env} {s : State} {m : MethodId} {below : List Frame} {meth : Method} {c : Code} {b : Nat} (hx : p.tables.exec = Jvm.exec) (hb : c.code = code) (hr : meth.sig.returnType = ret) (hlocks : meth.locks = false) {pc : Nat} {H : Heap} {ls : Array Slot} (hdg : decode code pc = .ok (.ireturn, 1)) : W p l e room_1 s m #[Value.ref b] below meth c H [] 600000 7302250 (lw_Z below #[Value.ref b] s) (F0 m pc ls [.int 1]) := by
  intro T hT X
  obtain ⟨fs, hret, hrun, hended, hW, hframe⟩ := X.leave (v := some (.int 1)) (hlocks := hlocks) (fun h => by rw [hr] at h; cases h)
  have hmeth' : T.vm.method? m = some meth := X.method'
  refine ⟨T.setFrames fs, ?_, .returned (some (.int 1)), hrun, hended, rfl, ⟨_, rfl⟩, hW, hframe⟩
  jvm_step X.here [X.here.top, hx, hb, hdg, hmeth', hr, ret, narrow_b1]
  (try refine ⟨rfl, ?_⟩); (try refine ⟨rfl, ?_⟩)
  first | (intro acts; rw [hret _ acts rfl rfl rfl]) | rw [hret _ _ rfl rfl rfl]
  exact Steps.refl _
/-- what holds at the law's entry: the machine, the code, the tables' words (any of lw_tbl by 'hts w (by decide +kernel)'), the script of L ints xs at the cell b, what the Statement gives of the start (any of its parts by flat_of_before) -/
def lw_At (p : Program) (s : State) (m : MethodId) (meth : Method) (c : Code) (b L : Nat) (xs : Nat → Int32) : Prop :=
  p.tables.exec = Jvm.exec ∧ c.code = code ∧ meth.sig.returnType = ret ∧ c.maxLocals = 4 ∧ s.vm.findClass R_law = some m.cls ∧ (∀ w ∈ lw_tbl, w.before #[Value.ref b] s = true) ∧ va_X b L xs s s.heap ∧ b < s.heap.size ∧ meth.locks = false ∧ (Jvm.Cond.and given_1 narrow_1).before #[Value.ref b] s = true
/-! THE LAW: its loop. -/
set_option maxHeartbeats 4000000 in
set_option maxRecDepth 100000 in
theorem law_loop {p : Program} {e : Env} {s : State} {m : MethodId} {below : List Frame} {meth : Method} {c : Code} {cells slots : Nat} (l : Launch) {b L N : Nat} {xs : Nat → Int32} {dC : Nat → ClassId} {dI : Nat → Nat → Nat} {cI cJ cZ : ClassId} {aG aW aH aR aP aC aO aM : Nat → Nat} (hN : 5000 ≤ N) (X : Cx p m c cL_law 4 s #[Value.ref b] wsL_law RL (dC, dI) (tyl cI cJ cZ) (fun q : Nat => s.heap.size ≤ q)) (hX : va_X b L xs s s.heap) (hbl : b < s.heap.size) (hbA : ¬ (fun q : Nat => s.heap.size ≤ q) b) (hL : L ≤ 3072) (hf : cells ≤ room_1.cells ∧ slots ≤ room_1.slots) (hf6 : cells ≤ 600000 ∧ slots ≤ 7302250) (hr : meth.sig.returnType = ret) (hlocks : meth.locks = false) :
    ∀ (f i : Nat) (H : Heap) (locs : List Loc) (w : va_W) (ls : Array Slot), L < i + f → i ≤ L + 6 → LI cI cJ cZ aG aW aH aR aP aC aO aM w → Wd (dC, dI) (fun q : Nat => s.heap.size ≤ q) s.heap H locs w → lv_has ls 4 [(3, .int (nI i)), (2, .ref (aM 0)), (1, .ref (aG 0)), (0, .ref b)] → W p l e room_1 s m #[Value.ref b] below meth c H locs cells slots (lw_Z below #[Value.ref b] s) (F0 m 18 ls []) := by
  obtain ⟨hx, hb, hml, hown, hts⟩ := X.1
  have le6 : (6 : Int32) = nI 6 := rfl
  -- the end
  have fin : ∀ (H : Heap) (locs : List Loc) (w : va_W) (ls : Array Slot), Wd (dC, dI) (fun q : Nat => s.heap.size ≤ q) s.heap H locs w → W p l e room_1 s m #[Value.ref b] below meth c H locs cells slots (lw_Z below #[Value.ref b] s) (F0 m 919 ls []) := by
    intro H locs w ls hw
    refine lv_iconst (v := 1) hx hb dL_law_919 (by decide) ?_
    refine va_forget (fun q hq => hw.2.2.2.2 q hq) ?_
    refine W.widen hf6.1 hf6.2 ?_
    exact lw_ret hx hb hr hlocks dL_law_920
  intro f
  induction f with
  | zero =>
    intro i H locs w ls hLi hi6 hI hw hl
    refine lv_iload_n hx hb dL_law_18 rfl (lv_at hl 0 rfl) ?_
    refine lv_aload_n hx hb dL_law_19 rfl (lv_at hl 3 rfl) ?_
    refine va_slen hx hb hX hbl hbA hw.2.2 dL_law_20 ?_
    refine lv_bipush (v := 6) hx hb dL_law_21 (by decide) ?_
    refine lv_isub hx hb dL_law_23 ?_
    refine lv_icmp_gt (tgt := 919) hx hb dL_law_24 (by decide) (fun q => ?_) (fun q => ?_)
    · exact fin H locs w ls hw
    · exfalso
      apply q
      show nI L - nI 6 < nI i
      rw [i32_lt, pk_sub_toInt (by omega) (by omega), nI_toInt (by omega)]
      omega
  | succ f ih =>
    intro i H locs w ls hLi hi6 hI hw hl
    refine lv_iload_n hx hb dL_law_18 rfl (lv_at hl 0 rfl) ?_
    refine lv_aload_n hx hb dL_law_19 rfl (lv_at hl 3 rfl) ?_
    refine va_slen hx hb hX hbl hbA hw.2.2 dL_law_20 ?_
    refine lv_bipush (v := 6) hx hb dL_law_21 (by decide) ?_
    refine lv_isub hx hb dL_law_23 ?_
    refine lv_icmp_gt (tgt := 919) hx hb dL_law_24 (by decide) (fun q => ?_) (fun q => ?_)
    · exact fin H locs w ls hw
    · have hi : i + 6 ≤ L := by
        have q2 : ¬ nI L - nI 6 < nI i := q
        rw [i32_lt, pk_sub_toInt (by omega) (by omega), nI_toInt (by omega)] at q2
        omega
      have kk : ∀ (H : Heap) (locs : List Loc) (w : va_W), LI cI cJ cZ aG aW aH aR aP aC aO aM w → Wd (dC, dI) (fun q : Nat => s.heap.size ≤ q) s.heap H locs w → W p l e room_1 s m #[Value.ref b] below meth c H locs cells slots (lw_Z below #[Value.ref b] s) (F0 m 913 ls []) := by
        intro H locs w hI hw
        refine lv_iinc (v := nI (i + 6)) (lv' := [(3, .int (nI (i + 6))), (2, .ref (aM 0)), (1, .ref (aG 0)), (0, .ref b)]) hx hb dL_law_913 hl (k := 0) rfl (by rw [← nI_add]; rfl) (by decide) rfl (fun ls hl => ?_)
        refine lv_goto (tgt := 18) hx hb dL_law_916 (by decide) ?_
        exact ih (i + 6) H locs w ls (by omega) (by omega) hI hw hl
      refine lv_aload_n hx hb dL_law_27 rfl (lv_at hl 3 rfl) ?_
      refine lv_iload_n hx hb dL_law_28 rfl (lv_at hl 0 rfl) ?_
      refine va_sld hx hb hX hbl hbA hw.2.2 (vp_in_nI (show i < L by omega) (by omega)) dL_law_29 ?_
      refine lv_bipush (v := 31) hx hb dL_law_30 (by decide) ?_
      refine lv_iand hx hb dL_law_32 ?_
      obtain ⟨j, hj, ej⟩ := pk_andE (xs (nI i).toNatClampNeg) (m := 31) 5 (by decide)
      rw [ej]
      rcases (show j = 0 ∨ j = 1 ∨ j = 2 ∨ j = 3 ∨ j = 4 ∨ j = 5 ∨ j = 6 ∨ j = 7 ∨ j = 8 ∨ j = 9 ∨ j = 10 ∨ j = 11 ∨ j = 12 ∨ j = 13 ∨ j = 14 ∨ j = 15 ∨ j = 16 ∨ j = 17 ∨ j = 18 ∨ j = 19 ∨ j = 20 ∨ j = 21 ∨ j = 22 ∨ j = 23 ∨ j = 24 ∨ j = 25 ∨ j = 26 ∨ 27 ≤ j by omega) with rfl | rfl | rfl | rfl | rfl | rfl | rfl | rfl | rfl | rfl | rfl | rfl | rfl | rfl | rfl | rfl | rfl | rfl | rfl | rfl | rfl | rfl | rfl | rfl | rfl | rfl | rfl | h27
      · refine lv_tableIn (tgt := 156) (off := 123) hx hb dL_law_33 (by decide) (by decide) (by decide) (by decide) ?_
        exact lo_give l hN X hX hbl hbA hi hL hf hI hw hl kk
      · refine lv_tableIn (tgt := 189) (off := 156) hx hb dL_law_33 (by decide) (by decide) (by decide) (by decide) ?_
        exact lo_sow l hN X hX hbl hbA hi hL hf hI hw hl kk
      · refine lv_tableIn (tgt := 252) (off := 219) hx hb dL_law_33 (by decide) (by decide) (by decide) (by decide) ?_
        exact lo_clear l hN X hX hbl hbA hi hL hf hI hw hl kk
      · refine lv_tableIn (tgt := 265) (off := 232) hx hb dL_law_33 (by decide) (by decide) (by decide) (by decide) ?_
        exact lo_order l hN X hX hbl hbA hi hL hf hI hw hl kk
      · refine lv_tableIn (tgt := 318) (off := 285) hx hb dL_law_33 (by decide) (by decide) (by decide) (by decide) ?_
        exact lo_falls l hN X hX hbl hbA hi hL hf hI hw hl kk
      · refine lv_tableIn (tgt := 367) (off := 334) hx hb dL_law_33 (by decide) (by decide) (by decide) (by decide) ?_
        exact lo_row l hN X hX hbl hbA hi hL hf hI hw hl kk
      · refine lv_tableIn (tgt := 400) (off := 367) hx hb dL_law_33 (by decide) (by decide) (by decide) (by decide) ?_
        exact lo_against l hN X hX hbl hbA hi hL hf hI hw hl kk
      · refine lv_tableIn (tgt := 433) (off := 400) hx hb dL_law_33 (by decide) (by decide) (by decide) (by decide) ?_
        exact lo_rank l hN X hX hbl hbA hi hL hf hI hw hl kk
      · refine lv_tableIn (tgt := 456) (off := 423) hx hb dL_law_33 (by decide) (by decide) (by decide) (by decide) ?_
        exact lo_runs l hN X hX hbl hbA hi hL hf hI hw hl kk
      · refine lv_tableIn (tgt := 479) (off := 446) hx hb dL_law_33 (by decide) (by decide) (by decide) (by decide) ?_
        exact lo_length l hN X hX hbl hbA hi hL hf hI hw hl kk
      · refine lv_tableIn (tgt := 502) (off := 469) hx hb dL_law_33 (by decide) (by decide) (by decide) (by decide) ?_
        exact lo_at l hN X hX hbl hbA hi hL hf hI hw hl kk
      · refine lv_tableIn (tgt := 535) (off := 502) hx hb dL_law_33 (by decide) (by decide) (by decide) (by decide) ?_
        exact lo_plan l hN X hX hbl hbA hi hL hf hI hw hl kk
      · refine lv_tableIn (tgt := 558) (off := 525) hx hb dL_law_33 (by decide) (by decide) (by decide) (by decide) ?_
        exact lo_queue l hN X hX hbl hbA hi hL hf hI hw hl kk
      · refine lv_tableIn (tgt := 581) (off := 548) hx hb dL_law_33 (by decide) (by decide) (by decide) (by decide) ?_
        exact lo_merges l hN X hX hbl hbA hi hL hf hI hw hl kk
      · refine lv_tableIn (tgt := 594) (off := 561) hx hb dL_law_33 (by decide) (by decide) (by decide) (by decide) ?_
        exact lo_takes l hN X hX hbl hbA hi hL hf hI hw hl kk
      · refine lv_tableIn (tgt := 627) (off := 594) hx hb dL_law_33 (by decide) (by decide) (by decide) (by decide) ?_
        exact lo_merge l hN X hX hbl hbA hi hL hf hI hw hl kk
      · refine lv_tableIn (tgt := 640) (off := 607) hx hb dL_law_33 (by decide) (by decide) (by decide) (by decide) ?_
        exact lo_cut l hN X hX hbl hbA hi hL hf hI hw hl kk
      · refine lv_tableIn (tgt := 673) (off := 640) hx hb dL_law_33 (by decide) (by decide) (by decide) (by decide) ?_
        exact lo_bound l hN X hX hbl hbA hi hL hf hI hw hl kk
      · refine lv_tableIn (tgt := 686) (off := 653) hx hb dL_law_33 (by decide) (by decide) (by decide) (by decide) ?_
        exact lo_part l hN X hX hbl hbA hi hL hf hI hw hl kk
      · refine lv_tableIn (tgt := 719) (off := 686) hx hb dL_law_33 (by decide) (by decide) (by decide) (by decide) ?_
        exact lo_pace l hN X hX hbl hbA hi hL hf hI hw hl kk
      · refine lv_tableIn (tgt := 752) (off := 719) hx hb dL_law_33 (by decide) (by decide) (by decide) (by decide) ?_
        exact lo_fall l hN X hX hbl hbA hi hL hf hI hw hl kk
      · refine lv_tableIn (tgt := 775) (off := 742) hx hb dL_law_33 (by decide) (by decide) (by decide) (by decide) ?_
        exact lo_rise l hN X hX hbl hbA hi hL hf hI hw hl kk
      · refine lv_tableIn (tgt := 798) (off := 765) hx hb dL_law_33 (by decide) (by decide) (by decide) (by decide) ?_
        exact lo_host l hN X hX hbl hbA hi hL hf hI hw hl kk
      · refine lv_tableIn (tgt := 831) (off := 798) hx hb dL_law_33 (by decide) (by decide) (by decide) (by decide) ?_
        exact lo_tick l hN X hX hbl hbA hi hL hf hI hw hl kk
      · refine lv_tableIn (tgt := 844) (off := 811) hx hb dL_law_33 (by decide) (by decide) (by decide) (by decide) ?_
        exact lo_work l hN X hX hbl hbA hi hL hf hI hw hl kk
      · refine lv_tableIn (tgt := 867) (off := 834) hx hb dL_law_33 (by decide) (by decide) (by decide) (by decide) ?_
        exact lo_end l hN X hX hbl hbA hi hL hf hI hw hl kk
      · refine lv_tableIn (tgt := 890) (off := 857) hx hb dL_law_33 (by decide) (by decide) (by decide) (by decide) ?_
        exact lo_count l hN X hX hbl hbA hi hL hf hI hw hl kk
      · refine lv_tableOut (tgt := 913) hx hb dL_law_33 (Or.inr (by rw [nI_toInt (by omega)]; omega)) (by decide) ?_
        exact kk H locs w hI hw
