abbrev vwCl : List vw_C := [(RX0, TX0, 15), (RX1, TX1, 2), (RX2, TX2, 2), (RX3, TX3, 5), (RX4, TX4, 5), (RX5, TX5, 10), (RX6, TX6, 6), (RX7, TX7, 36)]
def nests : List Cond := [Cond.fieldLinkNest RX6 130 "GreatSort$Plan" "merges" "I" RX6, Cond.fieldLinkNest RX6 136 "GreatSort$Plan" "told" "Z" RX6, Cond.fieldLinkNest RX6 151 "GreatSort$Cut" "samples" "I" RX6, Cond.fieldLinkNest RX6 158 "GreatSort$Cut" "bound" "I" RX6, Cond.fieldLinkNest RX6 161 "GreatSort$Cut" "parts" "I" RX6, Cond.fieldLinkNest RX6 164 "GreatSort$Cut" "sizes" "[I" RX6, Cond.fieldLinkNest RX6 167 "GreatSort$Cut" "merged" "[I" RX6, Cond.fieldLinkNest RX6 170 "GreatSort$Cut" "lies" "[I" RX6, Cond.fieldLinkNest RX6 173 "GreatSort$Cut" "ends" "[I" RX6, Cond.fieldLinkNest RX6 179 "GreatSort$Hosts" "paces" "[I" RX6, Cond.fieldLinkNest RX6 182 "GreatSort$Hosts" "up" "[Z" RX6, Cond.fieldLinkNest RX6 198 "GreatSort$Cut" "mergedBy" "[I" RX6, Cond.fieldLinkNest RX6 205 "GreatSort$Cut" "ticks" "I" RX6, Cond.fieldLinkNest RX6 208 "GreatSort$Cut" "mergedInAll" "I" RX6, Cond.fieldLinkNest RX6 211 "GreatSort$Cut" "mergedAgain" "I" RX6, Cond.fieldLinkNest RX6 65 "GreatSort$Rows" "count" "I" RX6, Cond.fieldLinkNest RX6 73 "GreatSort$Runs" "made" "I" RX6, Cond.fieldLinkNest RX6 80 "GreatSort$Rows" "turns" "[I" RX6, Cond.fieldLinkNest RX6 84 "GreatSort$Rows" "falling" "[Z" RX6, Cond.fieldLinkNest RX6 92 "GreatSort$Rows" "sorts" "[I" RX6, Cond.fieldLinkNest RX6 95 "GreatSort$Rows" "values" "[I" RX6, Cond.fieldLinkNest RX0 115 "GreatSort$Hosts" "paces" "[I" RX6, Cond.fieldLinkNest RX0 66 "GreatSort$Runs" "made" "I" RX6, Cond.fieldLinkNest RX0 71 "GreatSort$Runs" "rowsInAll" "I" RX6, Cond.fieldLinkNest RX0 99 "GreatSort$Hosts" "up" "[Z" RX6, Cond.fieldLinkNest RX3 42 "GreatSort$Runs" "made" "I" RX6, Cond.fieldLinkNest RX5 55 "GreatSort$Rows" "count" "I" RX6, Cond.methodLinkNest RX6 11 yX4_init RX6, Cond.methodLinkNest RX6 18 yX1_init RX6, Cond.methodLinkNest RX6 25 yX5_init RX6, Cond.methodLinkNest RX6 32 yX3_init RX6, Cond.methodLinkNest RX6 39 yX0_init RX6, Cond.methodLinkNest RX0 85 yX6_isIn RX6, Cond.methodLinkNest RX3 29 yX6_isIn RX6, Cond.methodLinkNest RX4 29 yX6_isIn RX6, Cond.methodLinkNest RX5 43 yX6_isIn RX6]
theorem nk_0 : Cond.fieldLinkNest RX6 130 "GreatSort$Plan" "merges" "I" RX6 ∈ nests := List.mem_of_getElem? (i := 0) rfl
theorem nk_1 : Cond.fieldLinkNest RX6 136 "GreatSort$Plan" "told" "Z" RX6 ∈ nests := List.mem_of_getElem? (i := 1) rfl
theorem nk_2 : Cond.fieldLinkNest RX6 151 "GreatSort$Cut" "samples" "I" RX6 ∈ nests := List.mem_of_getElem? (i := 2) rfl
theorem nk_3 : Cond.fieldLinkNest RX6 158 "GreatSort$Cut" "bound" "I" RX6 ∈ nests := List.mem_of_getElem? (i := 3) rfl
theorem nk_4 : Cond.fieldLinkNest RX6 161 "GreatSort$Cut" "parts" "I" RX6 ∈ nests := List.mem_of_getElem? (i := 4) rfl
theorem nk_5 : Cond.fieldLinkNest RX6 164 "GreatSort$Cut" "sizes" "[I" RX6 ∈ nests := List.mem_of_getElem? (i := 5) rfl
theorem nk_6 : Cond.fieldLinkNest RX6 167 "GreatSort$Cut" "merged" "[I" RX6 ∈ nests := List.mem_of_getElem? (i := 6) rfl
theorem nk_7 : Cond.fieldLinkNest RX6 170 "GreatSort$Cut" "lies" "[I" RX6 ∈ nests := List.mem_of_getElem? (i := 7) rfl
theorem nk_8 : Cond.fieldLinkNest RX6 173 "GreatSort$Cut" "ends" "[I" RX6 ∈ nests := List.mem_of_getElem? (i := 8) rfl
theorem nk_9 : Cond.fieldLinkNest RX6 179 "GreatSort$Hosts" "paces" "[I" RX6 ∈ nests := List.mem_of_getElem? (i := 9) rfl
theorem nk_10 : Cond.fieldLinkNest RX6 182 "GreatSort$Hosts" "up" "[Z" RX6 ∈ nests := List.mem_of_getElem? (i := 10) rfl
theorem nk_11 : Cond.fieldLinkNest RX6 198 "GreatSort$Cut" "mergedBy" "[I" RX6 ∈ nests := List.mem_of_getElem? (i := 11) rfl
theorem nk_12 : Cond.fieldLinkNest RX6 205 "GreatSort$Cut" "ticks" "I" RX6 ∈ nests := List.mem_of_getElem? (i := 12) rfl
theorem nk_13 : Cond.fieldLinkNest RX6 208 "GreatSort$Cut" "mergedInAll" "I" RX6 ∈ nests := List.mem_of_getElem? (i := 13) rfl
theorem nk_14 : Cond.fieldLinkNest RX6 211 "GreatSort$Cut" "mergedAgain" "I" RX6 ∈ nests := List.mem_of_getElem? (i := 14) rfl
theorem nk_15 : Cond.fieldLinkNest RX6 65 "GreatSort$Rows" "count" "I" RX6 ∈ nests := List.mem_of_getElem? (i := 15) rfl
theorem nk_16 : Cond.fieldLinkNest RX6 73 "GreatSort$Runs" "made" "I" RX6 ∈ nests := List.mem_of_getElem? (i := 16) rfl
theorem nk_17 : Cond.fieldLinkNest RX6 80 "GreatSort$Rows" "turns" "[I" RX6 ∈ nests := List.mem_of_getElem? (i := 17) rfl
theorem nk_18 : Cond.fieldLinkNest RX6 84 "GreatSort$Rows" "falling" "[Z" RX6 ∈ nests := List.mem_of_getElem? (i := 18) rfl
theorem nk_19 : Cond.fieldLinkNest RX6 92 "GreatSort$Rows" "sorts" "[I" RX6 ∈ nests := List.mem_of_getElem? (i := 19) rfl
theorem nk_20 : Cond.fieldLinkNest RX6 95 "GreatSort$Rows" "values" "[I" RX6 ∈ nests := List.mem_of_getElem? (i := 20) rfl
theorem nk_21 : Cond.fieldLinkNest RX0 115 "GreatSort$Hosts" "paces" "[I" RX6 ∈ nests := List.mem_of_getElem? (i := 21) rfl
theorem nk_22 : Cond.fieldLinkNest RX0 66 "GreatSort$Runs" "made" "I" RX6 ∈ nests := List.mem_of_getElem? (i := 22) rfl
theorem nk_23 : Cond.fieldLinkNest RX0 71 "GreatSort$Runs" "rowsInAll" "I" RX6 ∈ nests := List.mem_of_getElem? (i := 23) rfl
theorem nk_24 : Cond.fieldLinkNest RX0 99 "GreatSort$Hosts" "up" "[Z" RX6 ∈ nests := List.mem_of_getElem? (i := 24) rfl
theorem nk_25 : Cond.fieldLinkNest RX3 42 "GreatSort$Runs" "made" "I" RX6 ∈ nests := List.mem_of_getElem? (i := 25) rfl
theorem nk_26 : Cond.fieldLinkNest RX5 55 "GreatSort$Rows" "count" "I" RX6 ∈ nests := List.mem_of_getElem? (i := 26) rfl
theorem nk_27 : Cond.methodLinkNest RX6 11 yX4_init RX6 ∈ nests := List.mem_of_getElem? (i := 27) rfl
theorem nk_28 : Cond.methodLinkNest RX6 18 yX1_init RX6 ∈ nests := List.mem_of_getElem? (i := 28) rfl
theorem nk_29 : Cond.methodLinkNest RX6 25 yX5_init RX6 ∈ nests := List.mem_of_getElem? (i := 29) rfl
theorem nk_30 : Cond.methodLinkNest RX6 32 yX3_init RX6 ∈ nests := List.mem_of_getElem? (i := 30) rfl
theorem nk_31 : Cond.methodLinkNest RX6 39 yX0_init RX6 ∈ nests := List.mem_of_getElem? (i := 31) rfl
theorem nk_32 : Cond.methodLinkNest RX0 85 yX6_isIn RX6 ∈ nests := List.mem_of_getElem? (i := 32) rfl
theorem nk_33 : Cond.methodLinkNest RX3 29 yX6_isIn RX6 ∈ nests := List.mem_of_getElem? (i := 33) rfl
theorem nk_34 : Cond.methodLinkNest RX4 29 yX6_isIn RX6 ∈ nests := List.mem_of_getElem? (i := 34) rfl
theorem nk_35 : Cond.methodLinkNest RX5 43 yX6_isIn RX6 ∈ nests := List.mem_of_getElem? (i := 35) rfl
def isNest (w : Cond) : Bool := match w with
  | .fieldLinkNest _ _ _ _ _ _ => true
  | .methodLinkNest _ _ _ _ => true
  | _ => false
def KN (U : State) : Prop := ∀ w ∈ nests, va_Nw w U
theorem nests_ok : ∀ w ∈ nests, isNest w = true := List.all_eq_true.mp rfl
theorem isNest_on {w : Cond} (h : isNest w = true) : w.onTables = true := by
  unfold isNest at h
  split at h
  · rfl
  · rfl
  · cases h
theorem KN.moved {s U : State} (hW : s.WarmedH U.vm) (h : KN s) : KN U := by
  intro w hw
  have h1 := nests_ok w hw
  have h2 := h w hw
  unfold isNest at h1
  split at h1
  · exact va_Nw.warmF hW h2
  · exact va_Nw.warmM hW h2
  · cases h1
theorem KN.same {s U : State} (hv : s.vm = U.vm) (h : KN s) : KN U := fun w hw => va_Nw.same (isNest_on (nests_ok w hw)) hv (h w hw)
/-- cells put at ascending places -/
def sb : va_W → Nat → List Nat → va_W → va_W
  | [], _, _, _ => []
  | c :: w, _, [], _ => c :: w
  | c :: w, _, _ :: _, [] => c :: w
  | c :: w, k, i :: is, x :: xs => match Nat.beq i k with
    | true => x :: sb w (k + 1) is xs
    | false => c :: sb w (k + 1) (i :: is) (x :: xs)
def asc : Nat → List Nat → Bool
  | _, [] => true
  | k, i :: is => decide (k ≤ i) && asc (i + 1) is
theorem asc_le : ∀ (is : List Nat) (k : Nat), asc k is = true → ∀ m ∈ is, k ≤ m
  | [], _, _, m, hm => by cases hm
  | i :: is, k, h, m, hm => by
    simp only [asc, Bool.and_eq_true, decide_eq_true_eq] at h
    rcases List.mem_cons.mp hm with e | e
    · omega
    · have := asc_le is (i + 1) h.2 m e
      omega
theorem asc_up {i k : Nat} {is : List Nat} (h : asc k (i :: is) = true) (hk : k < i) : asc (k + 1) (i :: is) = true := by
  simp only [asc, Bool.and_eq_true, decide_eq_true_eq] at h ⊢
  exact ⟨hk, h.2⟩
theorem sb_get : ∀ (w : va_W) (k : Nat) (is : List Nat) (xs : va_W) (j : Nat) (q : Nat × va_E), asc k is = true → is.length = xs.length → (sb w k is xs)[j]? = some q →
    (w[j]? = some q ∧ (k + j) ∉ is) ∨ ∃ t : Nat, is[t]? = some (k + j) ∧ xs[t]? = some q ∧ j < w.length
  | [], k, is, xs, j, q, _, _, h => by simp [sb] at h
  | c :: w, k, [], xs, j, q, _, _, h => Or.inl ⟨h, by simp⟩
  | c :: w, k, i :: is, [], j, q, _, hl, h => by simp at hl
  | c :: w, k, i :: is, x :: xs, j, q, ha, hl, h => by
    have hl2 : is.length = xs.length := by simpa using hl
    have ha2 := ha
    simp only [asc, Bool.and_eq_true, decide_eq_true_eq] at ha2
    by_cases e : i = k
    · subst e
      have hs : sb (c :: w) i (i :: is) (x :: xs) = x :: sb w (i + 1) is xs := by
        simp [sb]
      rw [hs] at h
      cases j with
      | zero =>
        rw [List.getElem?_cons_zero] at h
        cases h
        exact Or.inr ⟨0, rfl, rfl, by simp⟩
      | succ j =>
        rw [List.getElem?_cons_succ] at h
        rcases sb_get w (i + 1) is xs j q ha2.2 hl2 h with ⟨h1, h2⟩ | ⟨t, h1, h2, h3⟩
        · refine Or.inl ⟨by rw [List.getElem?_cons_succ]; exact h1, fun hm => ?_⟩
          rcases List.mem_cons.mp hm with e | e
          · omega
          · exact h2 (by rw [show i + 1 + j = i + (j + 1) by omega]; exact e)
        · refine Or.inr ⟨t + 1, ?_, h2, by simp; omega⟩
          rw [List.getElem?_cons_succ, h1, show i + 1 + j = i + (j + 1) by omega]
    · have hlt : k < i := by omega
      have hb : Nat.beq i k = false := by
        cases hq : Nat.beq i k with
        | true => exact absurd (Nat.eq_of_beq_eq_true hq) e
        | false => rfl
      have hs : sb (c :: w) k (i :: is) (x :: xs) = c :: sb w (k + 1) (i :: is) (x :: xs) := by
        rw [sb, hb]
      rw [hs] at h
      cases j with
      | zero =>
        rw [List.getElem?_cons_zero] at h
        refine Or.inl ⟨by rw [List.getElem?_cons_zero]; exact h, fun hm => ?_⟩
        have := asc_le _ _ (asc_up ha hlt) _ hm
        omega
      | succ j =>
        rw [List.getElem?_cons_succ] at h
        rcases sb_get w (k + 1) (i :: is) (x :: xs) j q (asc_up ha hlt) hl h with ⟨h1, h2⟩ | ⟨t, h1, h2, h3⟩
        · refine Or.inl ⟨by rw [List.getElem?_cons_succ]; exact h1, fun hm => h2 (by rw [show k + 1 + j = k + (j + 1) by omega]; exact hm)⟩
        · exact Or.inr ⟨t, by rw [h1, show k + 1 + j = k + (j + 1) by omega], h2, by simp; omega⟩
theorem asc_nd : ∀ (is : List Nat) (k : Nat), asc k is = true → va_nd is = true
  | [], _, _ => rfl
  | i :: is, k, h => by
    simp only [asc, Bool.and_eq_true, decide_eq_true_eq] at h
    simp only [va_nd, Bool.and_eq_true, decide_eq_true_eq]
    refine ⟨fun hm => ?_, asc_nd is _ h.2⟩
    have := asc_le is (i + 1) h.2 i hm
    omega
/-- behind a call, each cell at its own place -/
theorem sa_join {A0 : Nat → Prop} {D : va_G} {cl : List vw_C} {ws wc w1 : va_W} {H H1 : Heap} (hP : va_P D cl ws H) (hD : va_D A0 ws) (isC : List Nat) (hC : isC.map (fun i => ws[i]?) = wc.map some) (hn : asc 0 isC = true) (ha : w1.map Prod.fst = wc.map Prod.fst)
    (hk : ∀ q : Nat, q < H.size → ¬ va_A wc H.size q → H1[q]? = H[q]?) (hP1 : va_P D cl w1 H1) : va_P D cl (sb ws 0 isC w1) H1 ∧ va_D A0 (sb ws 0 isC w1) := by
  have at' : ∀ (k : Nat) (q : Nat × va_E), wc[k]? = some q → ∃ i, isC[k]? = some i ∧ ws[i]? = some q := by
    intro k q hq
    have h1 : (isC.map (fun i => ws[i]?))[k]? = some (some q) := by rw [hC, List.getElem?_map, hq]; rfl
    rw [List.getElem?_map] at h1
    cases hi : isC[k]? with
    | none => rw [hi] at h1; cases h1
    | some i => rw [hi] at h1; exact ⟨i, rfl, Option.some.inj h1⟩
  have hlen : isC.length = w1.length := by
    have h1 := congrArg List.length hC
    have h2 := congrArg List.length ha
    simp only [List.length_map] at h1 h2
    omega
  -- the cell of w1 at t lies where wc's lies
  have pl : ∀ (t k : Nat) (q : Nat × va_E), isC[t]? = some k → w1[t]? = some q → ∃ q0, ws[k]? = some q0 ∧ q0.1 = q.1 := by
    intro t k q h1 h2
    have h3 : (w1.map Prod.fst)[t]? = some q.1 := by rw [List.getElem?_map, h2]; rfl
    rw [ha, List.getElem?_map] at h3
    cases h4 : wc[t]? with
    | none => rw [h4] at h3; cases h3
    | some q0 =>
      rw [h4] at h3
      obtain ⟨i, h5, h6⟩ := at' t q0 h4
      rw [h1] at h5
      cases h5
      exact ⟨q0, h6, Option.some.inj h3⟩
  have key : ∀ (k : Nat) (q : Nat × va_E), (sb ws 0 isC w1)[k]? = some q → ∃ q0, ws[k]? = some q0 ∧ q0.1 = q.1 := by
    intro k q hq
    rcases sb_get ws 0 isC w1 k q hn hlen hq with ⟨h, -⟩ | ⟨t, h1, h2, -⟩
    · exact ⟨q, h, rfl⟩
    · rw [Nat.zero_add] at h1
      exact pl t k q h1 h2
  refine ⟨fun k q hq => ?_, fun i j x y hi hj hxy => ?_, fun k q hq => ?_⟩
  · rcases sb_get ws 0 isC w1 k q hn hlen hq with ⟨h, hnk⟩ | ⟨t, h1, h2, -⟩
    · rw [Nat.zero_add] at hnk
      refine (hP k q h).kept (hk q.1 (hP k q h).lt (fun z => ?_))
      rcases z with ⟨k2, e, z⟩ | z
      · obtain ⟨i, h3, h4⟩ := at' k2 (q.1, e) z
        have hij := hD.1 k i q (q.1, e) h h4 rfl
        subst hij
        exact hnk (List.mem_of_getElem? h3)
      · exact absurd (hP k q h).lt (by omega)
    · exact hP1 t q h2
  · obtain ⟨x0, h1, h2⟩ := key i x hi
    obtain ⟨y0, h3, h4⟩ := key j y hj
    exact hD.1 i j x0 y0 h1 h3 (h2.trans (hxy.trans h4.symm))
  · obtain ⟨q0, h1, h2⟩ := key k q hq
    rw [← h2]
    exact hD.2 k q0 h1
/-- a contract's start: the cells w -/
def cP (D : va_G) (tys : List (ClassId × FieldType)) (av : List Value) (w : va_W) (sz : Nat) : Array Value → State → Prop := va_Pc av (fun U => U.heap.size = sz ∧ va_P D vwCl w U.heap ∧ (va_K D vwCl tys U ∧ KN U) ∧ va_D (fun _ => True) w)
def cB (D : va_G) (w : va_W) (_ : Unit) (t : State) : Prop := va_P D vwCl w t.heap
def CtI (l : Launch) (y : MethodName) (ws : List Cond) (rm : Room) (D : va_G) (tys : List (ClassId × FieldType)) (av : List Value) (w w' : va_W) (r : Int32) : Prop := ∀ sz, Met l y ws rm (cP D tys av w sz) (va_Qi (fun r' _ => r' = r) (cB D w') (va_A w sz)) 0 0 (va_A w sz)
def CtL (l : Launch) (y : MethodName) (ws : List Cond) (rm : Room) (D : va_G) (tys : List (ClassId × FieldType)) (av : List Value) (w w' : va_W) (r : Int64) : Prop := ∀ sz, Met l y ws rm (cP D tys av w sz) (va_Ql (fun r' _ => r' = r) (cB D w') (va_A w sz)) 0 0 (va_A w sz)
def CtV (l : Launch) (y : MethodName) (ws : List Cond) (rm : Room) (D : va_G) (tys : List (ClassId × FieldType)) (av : List Value) (w w' : va_W) : Prop := ∀ sz, Met l y ws rm (cP D tys av w sz) (va_Qv (fun _ => True) (cB D w') (va_A w sz)) 0 0 (va_A w sz)
theorem cP_blind {D : va_G} {tys : List (ClassId × FieldType)} {av : List Value} {w : va_W} {sz : Nat} : FrameBlind (cP D tys av w sz) := fun a U g mk q => by
  obtain ⟨q0, q1, qP, qK, qD⟩ := q
  exact ⟨q0, q1, qP, ⟨va_K.moved (u := U) (U := U.calling g mk a) (Vm.Alike.refl U.vm) qK.1, KN.same (s := U) (U := U.calling g mk a) rfl qK.2⟩, qD⟩
/-- what stays the same in a walk -/
def Cx (p : Program) (m : MethodId) (c : Code) (cc : ByteArray) (nL : Nat) (s : State) (args : Array Value) (Ts : List Cond) (own : String) (D : va_G) (tys : List (ClassId × FieldType)) (A : Nat → Prop) : Prop := CallFix p m c cc nL s args Ts own ∧ va_K D vwCl tys s ∧ (∀ q : Nat, s.heap.size ≤ q → A q) ∧ KN s
/-- the world now -/
def Wd (D : va_G) (A : Nat → Prop) (H0 H : Heap) (locs : List Loc) (w : va_W) : Prop := va_P D vwCl w H ∧ va_D A w ∧ va_S A H0 H locs
section BCALL
variable {p : Program} {l : Launch} {e : Env} {R : Room} {s : State} {m : MethodId} {args : Array Value} {below : List Frame} {meth : Method} {c : Code} {H : Heap} {locs : List Loc} {cells slots : Nat} {Q : State → Prop}
variable {cc bytes : ByteArray} {nL pc index maxL n : Nat} {ls : Array Slot} {rest As st0 : List Value} {b : Nat} {y : MethodName} {Ts ws : List Cond} {own C : String} {D : va_G} {tys : List (ClassId × FieldType)} {A : Nat → Prop} {w wc w' : va_W} {rm : Room} {ret : Option FieldType}

theorem clVI {r : Int32} (X : Cx p m c cc nL s args Ts own D tys A) (hM : CtI l y ws rm D tys (.ref b :: As) wc w' r) (cw : CallW R s args own C index y bytes maxL ret ws rm 0 0 n) {ci : Nat} {vc : vw_C} {fs : List Value} (hc : vwCl[ci]? = some vc) (hcC : vc.1 = C) {k0 : Nat} (he : wc[k0]? = some (b, .inr (ci, fs))) (hw : Wd D A s.heap H locs w) (isC : List Nat) (hC : isC.map (fun i => w[i]?) = wc.map some) (hn : asc 0 isC = true) (ha : w'.map Prod.fst = wc.map Prod.fst) (hlen : As.length = n) (hsize : ls.size = nL) (hst : st0 = As.reverse ++ .ref b :: rest) (hW : (rest.map fun v => v.category).sum ≤ 8) (hdg : decode cc pc = .ok (.invokevirtual index, 3)) (hf : cells ≤ R.cells ∧ slots ≤ R.slots)
    (kk : ∀ (H1 : Heap) (locs1 : List Loc), Wd D A s.heap H1 locs1 (sb w 0 isC w') → W p l e R s m args below meth c H1 locs1 cells slots Q (F0 m (pc + 3) ls (.int r :: rest))) : W p l e R s m args below meth c H locs cells slots Q (F0 m pc ls st0) := by
  obtain ⟨S, hK, hA, hN⟩ := X
  obtain ⟨hP, hD, hS⟩ := hw
  have hPc : va_P D vwCl wc H := fun k q hq => by
    have h1 : (isC.map (fun i => w[i]?))[k]? = some (some q) := by rw [hC, List.getElem?_map, hq]; rfl
    rw [List.getElem?_map] at h1
    cases hi : isC[k]? with
    | none => rw [hi] at h1; cases h1
    | some i => rw [hi] at h1; exact hP i q (Option.some.inj h1)
  have hDc := hD.sub isC (asc_nd _ _ hn) hC
  have hFc := va_free hD hS hA isC hC
  have hKs := hK
  subst hst
  have hrun := va_runV (l := l) (e := e) (below := below) (meth := meth) (H := H) (locs := locs) (cells := cells) (slots := slots) (g := F0 m pc ls _) (rest := rest) S (hM H.size) cw ⟨cP_blind, (by rw [← hcC]; exact va_recv hKs hPc hc he), fun U hU hWU => ⟨rfl, by rw [hU], by rw [hU]; exact hPc, ⟨va_K.moved hWU.alike hK, KN.moved hWU hN⟩, hDc.weaken (fun _ _ _ _ => trivial)⟩⟩ rfl hlen hsize rfl (lv_room hW) hdg hf
  refine va_calli hrun hS (fun q _ h => hFc q h) hFc (fun r2 u t H1 locs1 ht hvm hpo hB hz1 hk1 hS1 => ?_)
  subst hpo
  have hP1 : va_P D vwCl w' t.heap := hB
  rw [ht] at hP1
  obtain ⟨hP2, hD2⟩ := sa_join hP hD isC hC hn ha hk1 hP1
  exact kk H1 locs1 ⟨hP2, hD2, hS1⟩
theorem clVL {r : Int64} (X : Cx p m c cc nL s args Ts own D tys A) (hM : CtL l y ws rm D tys (.ref b :: As) wc w' r) (cw : CallW R s args own C index y bytes maxL ret ws rm 0 0 n) {ci : Nat} {vc : vw_C} {fs : List Value} (hc : vwCl[ci]? = some vc) (hcC : vc.1 = C) {k0 : Nat} (he : wc[k0]? = some (b, .inr (ci, fs))) (hw : Wd D A s.heap H locs w) (isC : List Nat) (hC : isC.map (fun i => w[i]?) = wc.map some) (hn : asc 0 isC = true) (ha : w'.map Prod.fst = wc.map Prod.fst) (hlen : As.length = n) (hsize : ls.size = nL) (hst : st0 = As.reverse ++ .ref b :: rest) (hW : (rest.map fun v => v.category).sum ≤ 8) (hdg : decode cc pc = .ok (.invokevirtual index, 3)) (hf : cells ≤ R.cells ∧ slots ≤ R.slots)
    (kk : ∀ (H1 : Heap) (locs1 : List Loc), Wd D A s.heap H1 locs1 (sb w 0 isC w') → W p l e R s m args below meth c H1 locs1 cells slots Q (F0 m (pc + 3) ls (.long r :: rest))) : W p l e R s m args below meth c H locs cells slots Q (F0 m pc ls st0) := by
  obtain ⟨S, hK, hA, hN⟩ := X
  obtain ⟨hP, hD, hS⟩ := hw
  have hPc : va_P D vwCl wc H := fun k q hq => by
    have h1 : (isC.map (fun i => w[i]?))[k]? = some (some q) := by rw [hC, List.getElem?_map, hq]; rfl
    rw [List.getElem?_map] at h1
    cases hi : isC[k]? with
    | none => rw [hi] at h1; cases h1
    | some i => rw [hi] at h1; exact hP i q (Option.some.inj h1)
  have hDc := hD.sub isC (asc_nd _ _ hn) hC
  have hFc := va_free hD hS hA isC hC
  have hKs := hK
  subst hst
  have hrun := va_runV (l := l) (e := e) (below := below) (meth := meth) (H := H) (locs := locs) (cells := cells) (slots := slots) (g := F0 m pc ls _) (rest := rest) S (hM H.size) cw ⟨cP_blind, (by rw [← hcC]; exact va_recv hKs hPc hc he), fun U hU hWU => ⟨rfl, by rw [hU], by rw [hU]; exact hPc, ⟨va_K.moved hWU.alike hK, KN.moved hWU hN⟩, hDc.weaken (fun _ _ _ _ => trivial)⟩⟩ rfl hlen hsize rfl (lv_room hW) hdg hf
  refine va_calll hrun hS (fun q _ h => hFc q h) hFc (fun r2 u t H1 locs1 ht hvm hpo hB hz1 hk1 hS1 => ?_)
  subst hpo
  have hP1 : va_P D vwCl w' t.heap := hB
  rw [ht] at hP1
  obtain ⟨hP2, hD2⟩ := sa_join hP hD isC hC hn ha hk1 hP1
  exact kk H1 locs1 ⟨hP2, hD2, hS1⟩
theorem clVV  (X : Cx p m c cc nL s args Ts own D tys A) (hM : CtV l y ws rm D tys (.ref b :: As) wc w') (cw : CallW R s args own C index y bytes maxL ret ws rm 0 0 n) {ci : Nat} {vc : vw_C} {fs : List Value} (hc : vwCl[ci]? = some vc) (hcC : vc.1 = C) {k0 : Nat} (he : wc[k0]? = some (b, .inr (ci, fs))) (hw : Wd D A s.heap H locs w) (isC : List Nat) (hC : isC.map (fun i => w[i]?) = wc.map some) (hn : asc 0 isC = true) (ha : w'.map Prod.fst = wc.map Prod.fst) (hlen : As.length = n) (hsize : ls.size = nL) (hst : st0 = As.reverse ++ .ref b :: rest) (hW : (rest.map fun v => v.category).sum ≤ 8) (hdg : decode cc pc = .ok (.invokevirtual index, 3)) (hf : cells ≤ R.cells ∧ slots ≤ R.slots)
    (kk : ∀ (H1 : Heap) (locs1 : List Loc), Wd D A s.heap H1 locs1 (sb w 0 isC w') → W p l e R s m args below meth c H1 locs1 cells slots Q (F0 m (pc + 3) ls (rest))) : W p l e R s m args below meth c H locs cells slots Q (F0 m pc ls st0) := by
  obtain ⟨S, hK, hA, hN⟩ := X
  obtain ⟨hP, hD, hS⟩ := hw
  have hPc : va_P D vwCl wc H := fun k q hq => by
    have h1 : (isC.map (fun i => w[i]?))[k]? = some (some q) := by rw [hC, List.getElem?_map, hq]; rfl
    rw [List.getElem?_map] at h1
    cases hi : isC[k]? with
    | none => rw [hi] at h1; cases h1
    | some i => rw [hi] at h1; exact hP i q (Option.some.inj h1)
  have hDc := hD.sub isC (asc_nd _ _ hn) hC
  have hFc := va_free hD hS hA isC hC
  have hKs := hK
  subst hst
  have hrun := va_runV (l := l) (e := e) (below := below) (meth := meth) (H := H) (locs := locs) (cells := cells) (slots := slots) (g := F0 m pc ls _) (rest := rest) S (hM H.size) cw ⟨cP_blind, (by rw [← hcC]; exact va_recv hKs hPc hc he), fun U hU hWU => ⟨rfl, by rw [hU], by rw [hU]; exact hPc, ⟨va_K.moved hWU.alike hK, KN.moved hWU hN⟩, hDc.weaken (fun _ _ _ _ => trivial)⟩⟩ rfl hlen hsize rfl (lv_room hW) hdg hf
  refine va_callv hrun hS (fun q _ h => hFc q h) hFc (fun u t H1 locs1 ht hvm hpo hB hz1 hk1 hS1 => ?_)
  have hP1 : va_P D vwCl w' t.heap := hB
  rw [ht] at hP1
  obtain ⟨hP2, hD2⟩ := sa_join hP hD isC hC hn ha hk1 hP1
  exact kk H1 locs1 ⟨hP2, hD2, hS1⟩
theorem clSI {r : Int32} (X : Cx p m c cc nL s args Ts own D tys A) (hM : CtI l y ws rm D tys As wc w' r) (cw : CallB R s args own index y bytes maxL ret ws rm 0 0 n ∧ (Cond.static y).before args s = true) (hw : Wd D A s.heap H locs w) (isC : List Nat) (hC : isC.map (fun i => w[i]?) = wc.map some) (hn : asc 0 isC = true) (ha : w'.map Prod.fst = wc.map Prod.fst) (hlen : As.length = n) (hsize : ls.size = nL) (hst : st0 = As.reverse ++ rest) (hW : (rest.map fun v => v.category).sum ≤ 8) (hdg : decode cc pc = .ok (.invokestatic index, 3)) (hf : cells ≤ R.cells ∧ slots ≤ R.slots)
    (kk : ∀ (H1 : Heap) (locs1 : List Loc), Wd D A s.heap H1 locs1 (sb w 0 isC w') → W p l e R s m args below meth c H1 locs1 cells slots Q (F0 m (pc + 3) ls (.int r :: rest))) : W p l e R s m args below meth c H locs cells slots Q (F0 m pc ls st0) := by
  obtain ⟨S, hK, hA, hN⟩ := X
  obtain ⟨hP, hD, hS⟩ := hw
  have hPc : va_P D vwCl wc H := fun k q hq => by
    have h1 : (isC.map (fun i => w[i]?))[k]? = some (some q) := by rw [hC, List.getElem?_map, hq]; rfl
    rw [List.getElem?_map] at h1
    cases hi : isC[k]? with
    | none => rw [hi] at h1; cases h1
    | some i => rw [hi] at h1; exact hP i q (Option.some.inj h1)
  have hDc := hD.sub isC (asc_nd _ _ hn) hC
  have hFc := va_free hD hS hA isC hC
  have hKs := hK
  subst hst
  have hrun := va_runS (l := l) (e := e) (below := below) (meth := meth) (H := H) (locs := locs) (cells := cells) (slots := slots) (g := F0 m pc ls _) (rest := rest) S (hM H.size) cw ⟨cP_blind, fun U hU hWU => ⟨rfl, by rw [hU], by rw [hU]; exact hPc, ⟨va_K.moved hWU.alike hK, KN.moved hWU hN⟩, hDc.weaken (fun _ _ _ _ => trivial)⟩⟩ rfl hlen hsize rfl (lv_room hW) hdg hf
  refine va_calli hrun hS (fun q _ h => hFc q h) hFc (fun r2 u t H1 locs1 ht hvm hpo hB hz1 hk1 hS1 => ?_)
  subst hpo
  have hP1 : va_P D vwCl w' t.heap := hB
  rw [ht] at hP1
  obtain ⟨hP2, hD2⟩ := sa_join hP hD isC hC hn ha hk1 hP1
  exact kk H1 locs1 ⟨hP2, hD2, hS1⟩
theorem clSL {r : Int64} (X : Cx p m c cc nL s args Ts own D tys A) (hM : CtL l y ws rm D tys As wc w' r) (cw : CallB R s args own index y bytes maxL ret ws rm 0 0 n ∧ (Cond.static y).before args s = true) (hw : Wd D A s.heap H locs w) (isC : List Nat) (hC : isC.map (fun i => w[i]?) = wc.map some) (hn : asc 0 isC = true) (ha : w'.map Prod.fst = wc.map Prod.fst) (hlen : As.length = n) (hsize : ls.size = nL) (hst : st0 = As.reverse ++ rest) (hW : (rest.map fun v => v.category).sum ≤ 8) (hdg : decode cc pc = .ok (.invokestatic index, 3)) (hf : cells ≤ R.cells ∧ slots ≤ R.slots)
    (kk : ∀ (H1 : Heap) (locs1 : List Loc), Wd D A s.heap H1 locs1 (sb w 0 isC w') → W p l e R s m args below meth c H1 locs1 cells slots Q (F0 m (pc + 3) ls (.long r :: rest))) : W p l e R s m args below meth c H locs cells slots Q (F0 m pc ls st0) := by
  obtain ⟨S, hK, hA, hN⟩ := X
  obtain ⟨hP, hD, hS⟩ := hw
  have hPc : va_P D vwCl wc H := fun k q hq => by
    have h1 : (isC.map (fun i => w[i]?))[k]? = some (some q) := by rw [hC, List.getElem?_map, hq]; rfl
    rw [List.getElem?_map] at h1
    cases hi : isC[k]? with
    | none => rw [hi] at h1; cases h1
    | some i => rw [hi] at h1; exact hP i q (Option.some.inj h1)
  have hDc := hD.sub isC (asc_nd _ _ hn) hC
  have hFc := va_free hD hS hA isC hC
  have hKs := hK
  subst hst
  have hrun := va_runS (l := l) (e := e) (below := below) (meth := meth) (H := H) (locs := locs) (cells := cells) (slots := slots) (g := F0 m pc ls _) (rest := rest) S (hM H.size) cw ⟨cP_blind, fun U hU hWU => ⟨rfl, by rw [hU], by rw [hU]; exact hPc, ⟨va_K.moved hWU.alike hK, KN.moved hWU hN⟩, hDc.weaken (fun _ _ _ _ => trivial)⟩⟩ rfl hlen hsize rfl (lv_room hW) hdg hf
  refine va_calll hrun hS (fun q _ h => hFc q h) hFc (fun r2 u t H1 locs1 ht hvm hpo hB hz1 hk1 hS1 => ?_)
  subst hpo
  have hP1 : va_P D vwCl w' t.heap := hB
  rw [ht] at hP1
  obtain ⟨hP2, hD2⟩ := sa_join hP hD isC hC hn ha hk1 hP1
  exact kk H1 locs1 ⟨hP2, hD2, hS1⟩
theorem clSV  (X : Cx p m c cc nL s args Ts own D tys A) (hM : CtV l y ws rm D tys As wc w') (cw : CallB R s args own index y bytes maxL ret ws rm 0 0 n ∧ (Cond.static y).before args s = true) (hw : Wd D A s.heap H locs w) (isC : List Nat) (hC : isC.map (fun i => w[i]?) = wc.map some) (hn : asc 0 isC = true) (ha : w'.map Prod.fst = wc.map Prod.fst) (hlen : As.length = n) (hsize : ls.size = nL) (hst : st0 = As.reverse ++ rest) (hW : (rest.map fun v => v.category).sum ≤ 8) (hdg : decode cc pc = .ok (.invokestatic index, 3)) (hf : cells ≤ R.cells ∧ slots ≤ R.slots)
    (kk : ∀ (H1 : Heap) (locs1 : List Loc), Wd D A s.heap H1 locs1 (sb w 0 isC w') → W p l e R s m args below meth c H1 locs1 cells slots Q (F0 m (pc + 3) ls (rest))) : W p l e R s m args below meth c H locs cells slots Q (F0 m pc ls st0) := by
  obtain ⟨S, hK, hA, hN⟩ := X
  obtain ⟨hP, hD, hS⟩ := hw
  have hPc : va_P D vwCl wc H := fun k q hq => by
    have h1 : (isC.map (fun i => w[i]?))[k]? = some (some q) := by rw [hC, List.getElem?_map, hq]; rfl
    rw [List.getElem?_map] at h1
    cases hi : isC[k]? with
    | none => rw [hi] at h1; cases h1
    | some i => rw [hi] at h1; exact hP i q (Option.some.inj h1)
  have hDc := hD.sub isC (asc_nd _ _ hn) hC
  have hFc := va_free hD hS hA isC hC
  have hKs := hK
  subst hst
  have hrun := va_runS (l := l) (e := e) (below := below) (meth := meth) (H := H) (locs := locs) (cells := cells) (slots := slots) (g := F0 m pc ls _) (rest := rest) S (hM H.size) cw ⟨cP_blind, fun U hU hWU => ⟨rfl, by rw [hU], by rw [hU]; exact hPc, ⟨va_K.moved hWU.alike hK, KN.moved hWU hN⟩, hDc.weaken (fun _ _ _ _ => trivial)⟩⟩ rfl hlen hsize rfl (lv_room hW) hdg hf
  refine va_callv hrun hS (fun q _ h => hFc q h) hFc (fun u t H1 locs1 ht hvm hpo hB hz1 hk1 hS1 => ?_)
  have hP1 : va_P D vwCl w' t.heap := hB
  rw [ht] at hP1
  obtain ⟨hP2, hD2⟩ := sa_join hP hD isC hC hn ha hk1 hP1
  exact kk H1 locs1 ⟨hP2, hD2, hS1⟩
theorem clSNI {r : Int32} (X : Cx p m c cc nL s args Ts own D tys A) (hM : CtI l y ws rm D tys As wc w' r) {host : String} (cw : va_CN R s args own index y host bytes maxL ret ws rm 0 0 n ∧ (Cond.static y).before args s = true ∧ True) (hw : Wd D A s.heap H locs w) (isC : List Nat) (hC : isC.map (fun i => w[i]?) = wc.map some) (hn : asc 0 isC = true) (ha : w'.map Prod.fst = wc.map Prod.fst) (hlen : As.length = n) (hsize : ls.size = nL) (hst : st0 = As.reverse ++ rest) (hW : (rest.map fun v => v.category).sum ≤ 8) (hdg : decode cc pc = .ok (.invokestatic index, 3)) (hf : cells ≤ R.cells ∧ slots ≤ R.slots)
    (kk : ∀ (H1 : Heap) (locs1 : List Loc), Wd D A s.heap H1 locs1 (sb w 0 isC w') → W p l e R s m args below meth c H1 locs1 cells slots Q (F0 m (pc + 3) ls (.int r :: rest))) : W p l e R s m args below meth c H locs cells slots Q (F0 m pc ls st0) := by
  obtain ⟨S, hK, hA, hN⟩ := X
  obtain ⟨hP, hD, hS⟩ := hw
  have hPc : va_P D vwCl wc H := fun k q hq => by
    have h1 : (isC.map (fun i => w[i]?))[k]? = some (some q) := by rw [hC, List.getElem?_map, hq]; rfl
    rw [List.getElem?_map] at h1
    cases hi : isC[k]? with
    | none => rw [hi] at h1; cases h1
    | some i => rw [hi] at h1; exact hP i q (Option.some.inj h1)
  have hDc := hD.sub isC (asc_nd _ _ hn) hC
  have hFc := va_free hD hS hA isC hC
  have hKs := hK
  subst hst
  have hrun := va_runSN (l := l) (e := e) (below := below) (meth := meth) (H := H) (locs := locs) (cells := cells) (slots := slots) (g := F0 m pc ls _) (rest := rest) S (hM H.size) cw ⟨cP_blind, fun U hU hWU => ⟨rfl, by rw [hU], by rw [hU]; exact hPc, ⟨va_K.moved hWU.alike hK, KN.moved hWU hN⟩, hDc.weaken (fun _ _ _ _ => trivial)⟩⟩ rfl hlen hsize rfl (lv_room hW) hdg hf
  refine va_calli hrun hS (fun q _ h => hFc q h) hFc (fun r2 u t H1 locs1 ht hvm hpo hB hz1 hk1 hS1 => ?_)
  subst hpo
  have hP1 : va_P D vwCl w' t.heap := hB
  rw [ht] at hP1
  obtain ⟨hP2, hD2⟩ := sa_join hP hD isC hC hn ha hk1 hP1
  exact kk H1 locs1 ⟨hP2, hD2, hS1⟩
theorem va_D_fst {A : Nat → Prop} {w w' : va_W} (h : va_D A w) (e : w'.map Prod.fst = w.map Prod.fst) : va_D A w' := by
  have key : ∀ (k : Nat) (q : Nat × va_E), w'[k]? = some q → ∃ q0, w[k]? = some q0 ∧ q0.1 = q.1 := by
    intro k q hq
    have h1 : (w'.map Prod.fst)[k]? = some q.1 := by rw [List.getElem?_map, hq]; rfl
    rw [e, List.getElem?_map] at h1
    cases h2 : w[k]? with
    | none => rw [h2] at h1; cases h1
    | some q0 => rw [h2] at h1; exact ⟨q0, rfl, Option.some.inj h1⟩
  refine ⟨fun i j x y hi hj hxy => ?_, fun k q hq => ?_⟩
  · obtain ⟨x0, h1, h2⟩ := key i x hi
    obtain ⟨y0, h3, h4⟩ := key j y hj
    exact h.1 i j x0 y0 h1 h3 (h2.trans (hxy.trans h4.symm))
  · obtain ⟨q0, h1, h2⟩ := key k q hq
    rw [← h2]
    exact h.2 k q0 h1
theorem va_free_all {A0 : Nat → Prop} {ws : va_W} {H0 H : Heap} {locs : List Loc} (hD : va_D A0 ws) (hS : va_S A0 H0 H locs) (hA : ∀ q, H0.size ≤ q → A0 q) : ∀ q, va_A ws H.size q → A0 q := by
  intro q h
  rcases h with ⟨k, e, h⟩ | h
  · exact hD.2 k (q, e) h
  · exact hA q (Nat.le_trans hS.1 h)
/-- a call with the whole world -/
theorem clFI {r : Int32} (X : Cx p m c cc nL s args Ts own D tys A) (hM : CtI l y ws rm D tys (.ref b :: As) w w' r) (cw : CallW R s args own C index y bytes maxL ret ws rm 0 0 n) {ci : Nat} {vc : vw_C} {fs : List Value} (hc : vwCl[ci]? = some vc) (hcC : vc.1 = C) {k0 : Nat} (he : w[k0]? = some (b, .inr (ci, fs))) (hw : Wd D A s.heap H locs w) (ha : w'.map Prod.fst = w.map Prod.fst) (hlen : As.length = n) (hsize : ls.size = nL) (hst : st0 = As.reverse ++ .ref b :: rest) (hW : (rest.map fun v => v.category).sum ≤ 8) (hdg : decode cc pc = .ok (.invokevirtual index, 3)) (hf : cells ≤ R.cells ∧ slots ≤ R.slots)
    (kk : ∀ (H1 : Heap) (locs1 : List Loc), Wd D A s.heap H1 locs1 w' → W p l e R s m args below meth c H1 locs1 cells slots Q (F0 m (pc + 3) ls (.int r :: rest))) : W p l e R s m args below meth c H locs cells slots Q (F0 m pc ls st0) := by
  obtain ⟨S, hK, hA, hN⟩ := X
  obtain ⟨hP, hD, hS⟩ := hw
  have hFc := va_free_all hD hS hA
  subst hst
  have hrun := va_runV (l := l) (e := e) (below := below) (meth := meth) (H := H) (locs := locs) (cells := cells) (slots := slots) (g := F0 m pc ls _) (rest := rest) S (hM H.size) cw ⟨cP_blind, (by rw [← hcC]; exact va_recv hK hP hc he), fun U hU hWU => ⟨rfl, by rw [hU], by rw [hU]; exact hP, ⟨va_K.moved hWU.alike hK, KN.moved hWU hN⟩, hD.weaken (fun _ _ _ _ => trivial)⟩⟩ rfl hlen hsize rfl (lv_room hW) hdg hf
  refine va_calli hrun hS (fun q _ h => hFc q h) hFc (fun r2 u t H1 locs1 ht hvm hpo hB hz1 hk1 hS1 => ?_)
  subst hpo
  have hP1 : va_P D vwCl w' t.heap := hB
  rw [ht] at hP1
  exact kk H1 locs1 ⟨hP1, va_D_fst hD ha, hS1⟩
/-- a call with the whole world -/
theorem clFL {r : Int64} (X : Cx p m c cc nL s args Ts own D tys A) (hM : CtL l y ws rm D tys (.ref b :: As) w w' r) (cw : CallW R s args own C index y bytes maxL ret ws rm 0 0 n) {ci : Nat} {vc : vw_C} {fs : List Value} (hc : vwCl[ci]? = some vc) (hcC : vc.1 = C) {k0 : Nat} (he : w[k0]? = some (b, .inr (ci, fs))) (hw : Wd D A s.heap H locs w) (ha : w'.map Prod.fst = w.map Prod.fst) (hlen : As.length = n) (hsize : ls.size = nL) (hst : st0 = As.reverse ++ .ref b :: rest) (hW : (rest.map fun v => v.category).sum ≤ 8) (hdg : decode cc pc = .ok (.invokevirtual index, 3)) (hf : cells ≤ R.cells ∧ slots ≤ R.slots)
    (kk : ∀ (H1 : Heap) (locs1 : List Loc), Wd D A s.heap H1 locs1 w' → W p l e R s m args below meth c H1 locs1 cells slots Q (F0 m (pc + 3) ls (.long r :: rest))) : W p l e R s m args below meth c H locs cells slots Q (F0 m pc ls st0) := by
  obtain ⟨S, hK, hA, hN⟩ := X
  obtain ⟨hP, hD, hS⟩ := hw
  have hFc := va_free_all hD hS hA
  subst hst
  have hrun := va_runV (l := l) (e := e) (below := below) (meth := meth) (H := H) (locs := locs) (cells := cells) (slots := slots) (g := F0 m pc ls _) (rest := rest) S (hM H.size) cw ⟨cP_blind, (by rw [← hcC]; exact va_recv hK hP hc he), fun U hU hWU => ⟨rfl, by rw [hU], by rw [hU]; exact hP, ⟨va_K.moved hWU.alike hK, KN.moved hWU hN⟩, hD.weaken (fun _ _ _ _ => trivial)⟩⟩ rfl hlen hsize rfl (lv_room hW) hdg hf
  refine va_calll hrun hS (fun q _ h => hFc q h) hFc (fun r2 u t H1 locs1 ht hvm hpo hB hz1 hk1 hS1 => ?_)
  subst hpo
  have hP1 : va_P D vwCl w' t.heap := hB
  rw [ht] at hP1
  exact kk H1 locs1 ⟨hP1, va_D_fst hD ha, hS1⟩
/-- a call with the whole world -/
theorem clFV  (X : Cx p m c cc nL s args Ts own D tys A) (hM : CtV l y ws rm D tys (.ref b :: As) w w') (cw : CallW R s args own C index y bytes maxL ret ws rm 0 0 n) {ci : Nat} {vc : vw_C} {fs : List Value} (hc : vwCl[ci]? = some vc) (hcC : vc.1 = C) {k0 : Nat} (he : w[k0]? = some (b, .inr (ci, fs))) (hw : Wd D A s.heap H locs w) (ha : w'.map Prod.fst = w.map Prod.fst) (hlen : As.length = n) (hsize : ls.size = nL) (hst : st0 = As.reverse ++ .ref b :: rest) (hW : (rest.map fun v => v.category).sum ≤ 8) (hdg : decode cc pc = .ok (.invokevirtual index, 3)) (hf : cells ≤ R.cells ∧ slots ≤ R.slots)
    (kk : ∀ (H1 : Heap) (locs1 : List Loc), Wd D A s.heap H1 locs1 w' → W p l e R s m args below meth c H1 locs1 cells slots Q (F0 m (pc + 3) ls (rest))) : W p l e R s m args below meth c H locs cells slots Q (F0 m pc ls st0) := by
  obtain ⟨S, hK, hA, hN⟩ := X
  obtain ⟨hP, hD, hS⟩ := hw
  have hFc := va_free_all hD hS hA
  subst hst
  have hrun := va_runV (l := l) (e := e) (below := below) (meth := meth) (H := H) (locs := locs) (cells := cells) (slots := slots) (g := F0 m pc ls _) (rest := rest) S (hM H.size) cw ⟨cP_blind, (by rw [← hcC]; exact va_recv hK hP hc he), fun U hU hWU => ⟨rfl, by rw [hU], by rw [hU]; exact hP, ⟨va_K.moved hWU.alike hK, KN.moved hWU hN⟩, hD.weaken (fun _ _ _ _ => trivial)⟩⟩ rfl hlen hsize rfl (lv_room hW) hdg hf
  refine va_callv hrun hS (fun q _ h => hFc q h) hFc (fun u t H1 locs1 ht hvm hpo hB hz1 hk1 hS1 => ?_)
  have hP1 : va_P D vwCl w' t.heap := hB
  rw [ht] at hP1
  exact kk H1 locs1 ⟨hP1, va_D_fst hD ha, hS1⟩
/-- the ends of a walk -/
theorem endI {v r : Int32} {ty : FieldType} (X : Cx p m c cc nL s args Ts own D tys A) (hr : meth.sig.returnType = some ty) (hnar : narrow ty (.int v) = .int v) (hlocks : meth.locks = false) (hv : v = r) (hw : Wd D A s.heap H locs w) (hdg : decode cc pc = .ok (.ireturn, 1)) : W p l e R s m args below meth c H locs 0 0 (MQ below (va_Qi (fun r' _ => r' = r) (cB D w) A) args s 0 0 A) (F0 m pc ls [.int v]) := by
  obtain ⟨⟨hx, hb, -⟩, -⟩ := X
  obtain ⟨hP, -, hS⟩ := hw
  exact W.zret hx hb hr hnar (fun t ht _ => ⟨⟨v, (), rfl, hv, by show va_P D vwCl w t.heap; rw [ht]; exact hP⟩, hS.F ht⟩) hS.2.2 hdg hlocks
theorem endL {v r : Int64} (X : Cx p m c cc nL s args Ts own D tys A) (hr : meth.sig.returnType = some .long) (hlocks : meth.locks = false) (hv : v = r) (hw : Wd D A s.heap H locs w) (hdg : decode cc pc = .ok (.lreturn, 1)) : W p l e R s m args below meth c H locs 0 0 (MQ below (va_Ql (fun r' _ => r' = r) (cB D w) A) args s 0 0 A) (F0 m pc ls [.long v]) := by
  obtain ⟨⟨hx, hb, -⟩, -⟩ := X
  obtain ⟨hP, -, hS⟩ := hw
  exact W.lret hx hb hr (fun t ht _ => ⟨⟨v, (), rfl, hv, by show va_P D vwCl w t.heap; rw [ht]; exact hP⟩, hS.F ht⟩) hS.2.2 hdg hlocks
theorem endV (X : Cx p m c cc nL s args Ts own D tys A) (hr : meth.sig.returnType = none) (hlocks : meth.locks = false) (hw : Wd D A s.heap H locs w) (hdg : decode cc pc = .ok (.return_, 1)) : W p l e R s m args below meth c H locs 0 0 (MQ below (va_Qv (fun _ => True) (cB D w) A) args s 0 0 A) (F0 m pc ls []) := by
  obtain ⟨⟨hx, hb, -⟩, -⟩ := X
  obtain ⟨hP, -, hS⟩ := hw
  exact W.vret hx hb hr (fun t ht _ => ⟨⟨(), rfl, trivial, by show va_P D vwCl w t.heap; rw [ht]; exact hP⟩, hS.F ht⟩) hS.2.2 hdg hlocks
end BCALL

theorem startI {l : Launch} {y : MethodName} {ws ws' : List Cond} {rm : Room} {D : va_G} {tys : List (ClassId × FieldType)} {av : List Value} {w w' : va_W} {r : Int32} {cc : ByteArray} {maxL : Nat} {rt : Option FieldType} (hy : plainName y.cls = true) (hws : ws = Cond.code y cc maxL rt :: ws') (hlen : (lg_sl av).length ≤ maxL)
    (body : ∀ (p : Program) (e : Env) (s : State) (m : MethodId) (below : List Frame) (meth : Method) (c : Code) (A : Nat → Prop) (ls : Array Slot), Cx p m c cc maxL s av.toArray ws y.cls D tys A → meth.sig.returnType = rt → meth.locks = false → Wd D A s.heap s.heap [] w → lv_has ls maxL (lv_args 0 av) → W p l e rm s m av.toArray below meth c s.heap [] 0 0 (MQ below (va_Qi (fun r' _ => r' = r) (cB D w') A) av.toArray s 0 0 A) (F0 m 0 ls [])) : CtI l y ws rm D tys av w w' r := by
  intro sz
  refine Met.ofW (cc := cc) (maxL := maxL) (ret := rt) hy hws ?_
  intro p e s m args below meth c s₁ B hml hv
  obtain ⟨rfl, hsz, hP, ⟨hK, hN⟩, hD0⟩ := hv
  subst hsz
  have hD := hD0.self (sz := s.heap.size)
  have hl := lv_entry av (n := maxL) hlen
  rw [lg_entry_eq]
  exact body p e s m below meth c (va_A w s.heap.size) _ ⟨⟨B.exec, B.bytes, hml, findClass_of_methodNamed B.named, atoms_spec (ws := ws) B.pre⟩, hK, fun q h => Or.inr h, hN⟩ B.returns B.notSynchronized ⟨hP, hD, va_S.rf⟩ hl
theorem startL {l : Launch} {y : MethodName} {ws ws' : List Cond} {rm : Room} {D : va_G} {tys : List (ClassId × FieldType)} {av : List Value} {w w' : va_W} {r : Int64} {cc : ByteArray} {maxL : Nat} {rt : Option FieldType} (hy : plainName y.cls = true) (hws : ws = Cond.code y cc maxL rt :: ws') (hlen : (lg_sl av).length ≤ maxL)
    (body : ∀ (p : Program) (e : Env) (s : State) (m : MethodId) (below : List Frame) (meth : Method) (c : Code) (A : Nat → Prop) (ls : Array Slot), Cx p m c cc maxL s av.toArray ws y.cls D tys A → meth.sig.returnType = rt → meth.locks = false → Wd D A s.heap s.heap [] w → lv_has ls maxL (lv_args 0 av) → W p l e rm s m av.toArray below meth c s.heap [] 0 0 (MQ below (va_Ql (fun r' _ => r' = r) (cB D w') A) av.toArray s 0 0 A) (F0 m 0 ls [])) : CtL l y ws rm D tys av w w' r := by
  intro sz
  refine Met.ofW (cc := cc) (maxL := maxL) (ret := rt) hy hws ?_
  intro p e s m args below meth c s₁ B hml hv
  obtain ⟨rfl, hsz, hP, ⟨hK, hN⟩, hD0⟩ := hv
  subst hsz
  have hD := hD0.self (sz := s.heap.size)
  have hl := lv_entry av (n := maxL) hlen
  rw [lg_entry_eq]
  exact body p e s m below meth c (va_A w s.heap.size) _ ⟨⟨B.exec, B.bytes, hml, findClass_of_methodNamed B.named, atoms_spec (ws := ws) B.pre⟩, hK, fun q h => Or.inr h, hN⟩ B.returns B.notSynchronized ⟨hP, hD, va_S.rf⟩ hl
theorem startV {l : Launch} {y : MethodName} {ws ws' : List Cond} {rm : Room} {D : va_G} {tys : List (ClassId × FieldType)} {av : List Value} {w w' : va_W}  {cc : ByteArray} {maxL : Nat} {rt : Option FieldType} (hy : plainName y.cls = true) (hws : ws = Cond.code y cc maxL rt :: ws') (hlen : (lg_sl av).length ≤ maxL)
    (body : ∀ (p : Program) (e : Env) (s : State) (m : MethodId) (below : List Frame) (meth : Method) (c : Code) (A : Nat → Prop) (ls : Array Slot), Cx p m c cc maxL s av.toArray ws y.cls D tys A → meth.sig.returnType = rt → meth.locks = false → Wd D A s.heap s.heap [] w → lv_has ls maxL (lv_args 0 av) → W p l e rm s m av.toArray below meth c s.heap [] 0 0 (MQ below (va_Qv (fun _ => True) (cB D w') A) av.toArray s 0 0 A) (F0 m 0 ls [])) : CtV l y ws rm D tys av w w' := by
  intro sz
  refine Met.ofW (cc := cc) (maxL := maxL) (ret := rt) hy hws ?_
  intro p e s m args below meth c s₁ B hml hv
  obtain ⟨rfl, hsz, hP, ⟨hK, hN⟩, hD0⟩ := hv
  subst hsz
  have hD := hD0.self (sz := s.heap.size)
  have hl := lv_entry av (n := maxL) hlen
  rw [lg_entry_eq]
  exact body p e s m below meth c (va_A w s.heap.size) _ ⟨⟨B.exec, B.bytes, hml, findClass_of_methodNamed B.named, atoms_spec (ws := ws) B.pre⟩, hK, fun q h => Or.inr h, hN⟩ B.returns B.notSynchronized ⟨hP, hD, va_S.rf⟩ hl
section BPUT
variable {p : Program} {l : Launch} {e : Env} {R : Room} {s : State} {m : MethodId} {args : Array Value} {below : List Frame} {meth : Method} {c : Code} {H : Heap} {locs : List Loc} {cells slots : Nat} {Q : State → Prop}
variable {cc : ByteArray} {pc nL : Nat} {ls : Array Slot} {rest : List Value} {D : va_G} {A : Nat → Prop} {a : Nat} {tys : List (ClassId × FieldType)} {ws : va_W} {H0 : Heap}
theorem g_put (hexec : p.tables.exec = Jvm.exec) (hb : c.code = cc) {own ref C : String} {T : u_T} {N ci index : Nat} {Ts : List Cond} (hts : ∀ w ∈ Ts, w.before args s = true) (hin : ∀ w ∈ u_ws C T N, w ∈ Ts) (ty0 : Nat → FieldType) (hty : ∀ k, k < N → parseFieldDescriptor (T k).2.2.1 = some (ty0 k)) (hnm : ∀ a, a < N → ∀ b, b < N → a ≠ b → (T a).2.1 ≠ (T b).2.1) (hown : s.vm.findClass own = some m.cls) (hK : va_K D vwCl tys s) (hw : Wd D A H0 H locs ws) (q0 : Nat) {fs : List Value} (he : ws[q0]? = some (a, .inr (ci, fs))) (hc : vwCl[ci]? = some (C, T, N)) (k : Nat) (hk : k < N) (hlink : (Cond.fieldLink own index ref (T k).2.1 (T k).2.2.1).before args s = true) (hsame : ∀ x, s.fieldFound? (T k).1 (T k).2.1 (T k).2.2.1 = some x → s.fieldFound? ref (T k).2.1 (T k).2.2.1 = some x) (hfin : (T k).2.2.2 = false) {ty : FieldType} {v : Value} (hd : parseFieldDescriptor (T k).2.2.1 = some ty) (hn : narrow ty v = v) (hfit : fits ty v = true) (hl : k < fs.length)
    (hdg : decode cc pc = .ok (.putfield index, 3)) (kk : ∀ (H1 : Heap) (locs1 : List Loc), Wd D A H0 H1 locs1 (ws.set q0 (a, .inr (ci, fs.set k v))) → W p l e R s m args below meth c H1 locs1 cells slots Q (F0 m (pc + 3) ls rest)) : W p l e R s m args below meth c H locs cells slots Q (F0 m pc ls (v :: .ref a :: rest)) :=
  va_put hexec hb hts hin ty0 hty hnm hown hK hw.1 hw.2.1 hw.2.2 q0 he hc k hk hlink hsame hfin hd hn hfit hl hdg (fun H1 l1 x y z => kk H1 l1 ⟨x, y, z⟩)
theorem g_putN (hexec : p.tables.exec = Jvm.exec) (hb : c.code = cc) {own ref C host : String} {T : u_T} {N ci index : Nat} {Ts : List Cond} (hts : ∀ w ∈ Ts, w.before args s = true) (hin : ∀ w ∈ u_ws C T N, w ∈ Ts) (ty0 : Nat → FieldType) (hty : ∀ k, k < N → parseFieldDescriptor (T k).2.2.1 = some (ty0 k)) (hnm : ∀ a, a < N → ∀ b, b < N → a ≠ b → (T a).2.1 ≠ (T b).2.1) (hown : s.vm.findClass own = some m.cls) (hK : va_K D vwCl tys s) (hw : Wd D A H0 H locs ws) (q0 : Nat) {fs : List Value} (he : ws[q0]? = some (a, .inr (ci, fs))) (hc : vwCl[ci]? = some (C, T, N)) (k : Nat) (hk : k < N) (hlink : (Cond.fieldLinkNest own index ref (T k).2.1 (T k).2.2.1 host).before args s = true) (hsame : ∀ x, s.fieldFound? (T k).1 (T k).2.1 (T k).2.2.1 = some x → s.fieldFound? ref (T k).2.1 (T k).2.2.1 = some x) (hfin : (T k).2.2.2 = false) {ty : FieldType} {v : Value} (hd : parseFieldDescriptor (T k).2.2.1 = some ty) (hn : narrow ty v = v) (hfit : fits ty v = true) (hl : k < fs.length)
    (hdg : decode cc pc = .ok (.putfield index, 3)) (kk : ∀ (H1 : Heap) (locs1 : List Loc), Wd D A H0 H1 locs1 (ws.set q0 (a, .inr (ci, fs.set k v))) → W p l e R s m args below meth c H1 locs1 cells slots Q (F0 m (pc + 3) ls rest)) : W p l e R s m args below meth c H locs cells slots Q (F0 m pc ls (v :: .ref a :: rest)) :=
  va_putN hexec hb hts hin ty0 hty hnm hown hK hw.1 hw.2.1 hw.2.2 q0 he hc k hk hlink hsame hfin hd hn hfit hl hdg (fun H1 l1 x y z => kk H1 l1 ⟨x, y, z⟩)
theorem g_iast (hexec : p.tables.exec = Jvm.exec) (hb : c.code = cc) (hK : va_K D vwCl tys s) (hw : Wd D A H0 H locs ws) (q0 t0 : Nat) {cA : ClassId} {n : Nat} {f : Nat → Int32} (ha : ws[q0]? = some (a, .inl (cA, n, .inl f))) (ht : tys[t0]? = some (cA, .int)) {i : Int32} {x : Int32} (hin : vp_in i n) (hdg : decode cc pc = .ok (.iastore, 1))
    (kk : ∀ (H1 : Heap) (locs1 : List Loc), Wd D A H0 H1 locs1 (ws.set q0 (a, .inl (cA, n, .inl (upd f i.toNatClampNeg x)))) → W p l e R s m args below meth c H1 locs1 cells slots Q (F0 m (pc + 1) ls rest)) : W p l e R s m args below meth c H locs cells slots Q (F0 m pc ls (.int x :: .int i :: .ref a :: rest)) :=
  va_iast hexec hb hK hw.1 hw.2.1 hw.2.2 q0 t0 ha ht hin hdg (fun H1 l1 x y z => kk H1 l1 ⟨x, y, z⟩)
theorem g_zast (hexec : p.tables.exec = Jvm.exec) (hb : c.code = cc) (hK : va_K D vwCl tys s) (hw : Wd D A H0 H locs ws) (q0 t0 : Nat) {cA : ClassId} {n : Nat} {f : Nat → Int32} (ha : ws[q0]? = some (a, .inl (cA, n, .inl f))) (ht : tys[t0]? = some (cA, .boolean)) {i : Int32} {x : Int32} (hin : vp_in i n) (hdg : decode cc pc = .ok (.bastore, 1))
    (kk : ∀ (H1 : Heap) (locs1 : List Loc), Wd D A H0 H1 locs1 (ws.set q0 (a, .inl (cA, n, .inl (upd f i.toNatClampNeg (vp_nar .boolean x))))) → W p l e R s m args below meth c H1 locs1 cells slots Q (F0 m (pc + 1) ls rest)) : W p l e R s m args below meth c H locs cells slots Q (F0 m pc ls (.int x :: .int i :: .ref a :: rest)) :=
  va_zast hexec hb hK hw.1 hw.2.1 hw.2.2 q0 t0 ha ht hin hdg (fun H1 l1 x y z => kk H1 l1 ⟨x, y, z⟩)
theorem g_last (hexec : p.tables.exec = Jvm.exec) (hb : c.code = cc) (hK : va_K D vwCl tys s) (hw : Wd D A H0 H locs ws) (q0 t0 : Nat) {cA : ClassId} {n : Nat} {f : Nat → Int64} (ha : ws[q0]? = some (a, .inl (cA, n, .inr (.inl f)))) (ht : tys[t0]? = some (cA, .long)) {i : Int32} {x : Int64} (hin : vp_in i n) (hdg : decode cc pc = .ok (.lastore, 1))
    (kk : ∀ (H1 : Heap) (locs1 : List Loc), Wd D A H0 H1 locs1 (ws.set q0 (a, .inl (cA, n, .inr (.inl (vp_updL f i.toNatClampNeg x))))) → W p l e R s m args below meth c H1 locs1 cells slots Q (F0 m (pc + 1) ls rest)) : W p l e R s m args below meth c H locs cells slots Q (F0 m pc ls (.long x :: .int i :: .ref a :: rest)) :=
  va_last hexec hb hK hw.1 hw.2.1 hw.2.2 q0 t0 ha ht hin hdg (fun H1 l1 x y z => kk H1 l1 ⟨x, y, z⟩)
/-- where ways meet: the rest first, then the ways to it -/
theorem join_ {g : JFrame} (D : va_G) (A : Nat → Prop) (J : Nat) (stk : List Value) (w : va_W) (lv : List (Nat × Value)) (rs : ∀ (H : Heap) (locs : List Loc) (ls : Array Slot), Wd D A s.heap H locs w → lv_has ls nL lv → W p l e R s m args below meth c H locs cells slots Q (F0 m J ls stk)) (br : (∀ (H : Heap) (locs : List Loc) (ls : Array Slot), Wd D A s.heap H locs w → lv_has ls nL lv → W p l e R s m args below meth c H locs cells slots Q (F0 m J ls stk)) → W p l e R s m args below meth c H locs cells slots Q g) : W p l e R s m args below meth c H locs cells slots Q g := br rs
end BPUT
abbrev tyl (cI cJ cZ : ClassId) : List (ClassId × FieldType) := [(cI, .int), (cJ, .long), (cZ, .boolean)]

