/-! constructors: rules. My own text. -/
theorem ty_int {D : va_G} {cI cJ cZ cA : ClassId} {s : State} (h : va_K D vwCl (tyl cI cJ cZ ++ [(cA, .int)]) s) : cI = cA := by
  have h1 : s.vm.findClass ("[" ++ FieldType.int.toString) = some cI := (h.2 0 (cI, .int) rfl).2
  have h2 : s.vm.findClass ("[" ++ FieldType.int.toString) = some cA := (h.2 3 (cA, .int) rfl).2
  exact Option.some.inj (h1.symm.trans h2)
theorem ty_long {D : va_G} {cI cJ cZ cA : ClassId} {s : State} (h : va_K D vwCl (tyl cI cJ cZ ++ [(cA, .long)]) s) : cJ = cA := by
  have h1 : s.vm.findClass ("[" ++ FieldType.long.toString) = some cJ := (h.2 1 (cJ, .long) rfl).2
  have h2 : s.vm.findClass ("[" ++ FieldType.long.toString) = some cA := (h.2 3 (cA, .long) rfl).2
  exact Option.some.inj (h1.symm.trans h2)
theorem ty_bool {D : va_G} {cI cJ cZ cA : ClassId} {s : State} (h : va_K D vwCl (tyl cI cJ cZ ++ [(cA, .boolean)]) s) : cZ = cA := by
  have h1 : s.vm.findClass ("[" ++ FieldType.boolean.toString) = some cZ := (h.2 2 (cZ, .boolean) rfl).2
  have h2 : s.vm.findClass ("[" ++ FieldType.boolean.toString) = some cA := (h.2 3 (cA, .boolean) rfl).2
  exact Option.some.inj (h1.symm.trans h2)
def CtN (l : Launch) (y : MethodName) (ws : List Cond) (rm : Room) (D : va_G) (tys : List (ClassId × FieldType)) (b : Nat) (w : va_W) (w' : (Nat → Nat) → va_W) (mc ms : Nat) : Prop := ∀ sz, Met l y ws rm (cP D tys [.ref b] w sz) (va_Qv (fun a : Nat → Nat => a 0 = b) (fun a t => va_P D vwCl (w' a) t.heap ∧ va_D (va_A w sz) (w' a)) (va_A w sz)) mc ms (va_A w sz)
section CBASE
variable {p : Program} {l : Launch} {e : Env} {R : Room} {s : State} {m : MethodId} {args : Array Value} {below : List Frame} {meth : Method} {c : Code} {H : Heap} {locs : List Loc} {cells slots : Nat} {Q : State → Prop}
variable {cc bytes : ByteArray} {nL pc index maxL n : Nat} {ls : Array Slot} {rest As st0 : List Value} {a b : Nat} {y : MethodName} {Ts ws : List Cond} {own C : String} {D : va_G} {tys : List (ClassId × FieldType)} {A : Nat → Prop} {w wc wr : va_W} {w' : (Nat → Nat) → va_W} {rm : Room} {ret : Option FieldType} {cI cJ cZ : ClassId}

theorem g_newa_i (X : Cx p m c cc nL s args Ts own D (tyl cI cJ cZ) A) (harr : (Cond.arrayClass .int).before args s = true) (hw : Wd D A s.heap H locs w) {v : Int32} {N : Nat} (hn : ¬ v < 0) (hN : v.toNatClampNeg = N) (hbytes : N * componentBytes .int ≤ 536870912) (hcells : cells + 1 ≤ R.cells) (hslots : slots + N ≤ R.slots) (hdg : decode cc pc = .ok (.newarray .int, 2))
    (kk : ∀ (q : Nat) (H1 : Heap), Wd D A s.heap H1 locs (w ++ [(q, .inl (cI, N, .inl (fun _ => 0)))]) → W p l e R s m args below meth c H1 locs (cells + 1) (slots + N) Q (F0 m (pc + 2) ls (.ref q :: rest))) : W p l e R s m args below meth c H locs cells slots Q (F0 m pc ls (.int v :: rest)) := by
  obtain ⟨⟨hx, hb, -⟩, hK, hA, -⟩ := X
  refine va_newa (atype := .int) (ty := .int) hx hb harr rfl hK hw.1 hw.2.1 hw.2.2 hA (a0 := (N, .inl (fun _ => 0))) (fun _ => rfl) hn hN hbytes hcells hslots hdg (fun q cA H1 hK1 x y z => ?_)
  have e1 := ty_int hK1
  subst e1
  exact kk q H1 ⟨x, y, z⟩
theorem g_newa_z (X : Cx p m c cc nL s args Ts own D (tyl cI cJ cZ) A) (harr : (Cond.arrayClass .boolean).before args s = true) (hw : Wd D A s.heap H locs w) {v : Int32} {N : Nat} (hn : ¬ v < 0) (hN : v.toNatClampNeg = N) (hbytes : N * componentBytes .boolean ≤ 536870912) (hcells : cells + 1 ≤ R.cells) (hslots : slots + N ≤ R.slots) (hdg : decode cc pc = .ok (.newarray .boolean, 2))
    (kk : ∀ (q : Nat) (H1 : Heap), Wd D A s.heap H1 locs (w ++ [(q, .inl (cZ, N, .inl (fun _ => 0)))]) → W p l e R s m args below meth c H1 locs (cells + 1) (slots + N) Q (F0 m (pc + 2) ls (.ref q :: rest))) : W p l e R s m args below meth c H locs cells slots Q (F0 m pc ls (.int v :: rest)) := by
  obtain ⟨⟨hx, hb, -⟩, hK, hA, -⟩ := X
  refine va_newa (atype := .boolean) (ty := .boolean) hx hb harr rfl hK hw.1 hw.2.1 hw.2.2 hA (a0 := (N, .inl (fun _ => 0))) (fun _ => rfl) hn hN hbytes hcells hslots hdg (fun q cA H1 hK1 x y z => ?_)
  have e1 := ty_bool hK1
  subst e1
  exact kk q H1 ⟨x, y, z⟩
theorem g_newa_j (X : Cx p m c cc nL s args Ts own D (tyl cI cJ cZ) A) (harr : (Cond.arrayClass .long).before args s = true) (hw : Wd D A s.heap H locs w) {v : Int32} {N : Nat} (hn : ¬ v < 0) (hN : v.toNatClampNeg = N) (hbytes : N * componentBytes .long ≤ 536870912) (hcells : cells + 1 ≤ R.cells) (hslots : slots + N ≤ R.slots) (hdg : decode cc pc = .ok (.newarray .long, 2))
    (kk : ∀ (q : Nat) (H1 : Heap), Wd D A s.heap H1 locs (w ++ [(q, .inl (cJ, N, .inr (.inl (fun _ => 0))))]) → W p l e R s m args below meth c H1 locs (cells + 1) (slots + N) Q (F0 m (pc + 2) ls (.ref q :: rest))) : W p l e R s m args below meth c H locs cells slots Q (F0 m pc ls (.int v :: rest)) := by
  obtain ⟨⟨hx, hb, -⟩, hK, hA, -⟩ := X
  refine va_newa (atype := .long) (ty := .long) hx hb harr rfl hK hw.1 hw.2.1 hw.2.2 hA (a0 := (N, .inr (.inl (fun _ => 0)))) (fun _ => rfl) hn hN hbytes hcells hslots hdg (fun q cA H1 hK1 x y z => ?_)
  have e1 := ty_long hK1
  subst e1
  exact kk q H1 ⟨x, y, z⟩
theorem g_new (X : Cx p m c cc nL s args Ts own D tys A) {T : u_T} {N ci : Nat} (hin : ∀ w ∈ u_ws C T N, w ∈ Ts) (ty : Nat → FieldType) (hty : ∀ k, k < N → parseFieldDescriptor (T k).2.2.1 = some (ty k)) (hcl : (Cond.classLink own index C).before args s = true) (hinst : (Cond.instantiable C N).before args s = true) (hini : (Cond.initialized C).before args s = true) (hw : Wd D A s.heap H locs w) (hc : vwCl[ci]? = some (C, T, N)) {fs : List Value} (hfs : ∀ j, j < N → defaultValue (ty j) = vp_V fs j) (hcells : cells + 1 ≤ R.cells) (hslots : slots + N ≤ R.slots) (hdg : decode cc pc = .ok (.new index, 3))
    (kk : ∀ (q : Nat) (H1 : Heap), Wd D A s.heap H1 locs (w ++ [(q, .inr (ci, fs))]) → W p l e R s m args below meth c H1 locs (cells + 1) (slots + N) Q (F0 m (pc + 3) ls (.ref q :: rest))) : W p l e R s m args below meth c H locs cells slots Q (F0 m pc ls rest) := by
  obtain ⟨⟨hx, hb, hml, hown, hts⟩, hK, hA, -⟩ := X
  exact va_new hx hb hts hin ty hty hown hcl hinst hini hK hw.1 hw.2.1 hw.2.2 hA hc hfs hcells hslots hdg (fun q H1 x y z => kk q H1 ⟨x, y, z⟩)
theorem g_putF (hexec : p.tables.exec = Jvm.exec) (hb : c.code = cc) {ref : String} {T : u_T} {N ci : Nat} {H0 : Heap} (hts : ∀ w ∈ Ts, w.before args s = true) (hin : ∀ w ∈ u_ws C T N, w ∈ Ts) (ty0 : Nat → FieldType) (hty : ∀ k, k < N → parseFieldDescriptor (T k).2.2.1 = some (ty0 k)) (hnm : ∀ a, a < N → ∀ b, b < N → a ≠ b → (T a).2.1 ≠ (T b).2.1) (hown : s.vm.findClass own = some m.cls) (hK : va_K D vwCl tys s) (hw : Wd D A H0 H locs w) (q0 : Nat) {fs : List Value} (he : w[q0]? = some (a, .inr (ci, fs))) (hc : vwCl[ci]? = some (C, T, N)) (k : Nat) (hk : k < N) (hlink : (Cond.fieldLink own index ref (T k).2.1 (T k).2.2.1).before args s = true) (hsame : ∀ x, s.fieldFound? (T k).1 (T k).2.1 (T k).2.2.1 = some x → s.fieldFound? ref (T k).2.1 (T k).2.2.1 = some x) (hfin : (T k).2.2.2 = true) (hin2 : meth.name = "<init>") (hdecl : (T k).1 = own) {ty : FieldType} {v : Value} (hd : parseFieldDescriptor (T k).2.2.1 = some ty) (hn : narrow ty v = v) (hfit : fits ty v = true) (hl : k < fs.length)
    (hdg : decode cc pc = .ok (.putfield index, 3)) (kk : ∀ (H1 : Heap) (locs1 : List Loc), Wd D A H0 H1 locs1 (w.set q0 (a, .inr (ci, fs.set k v))) → W p l e R s m args below meth c H1 locs1 cells slots Q (F0 m (pc + 3) ls rest)) : W p l e R s m args below meth c H locs cells slots Q (F0 m pc ls (v :: .ref a :: rest)) :=
  va_putF hexec hb hts hin ty0 hty hnm hown hK hw.1 hw.2.1 hw.2.2 q0 he hc k hk hlink hsame hfin hin2 hdecl hd hn hfit hl hdg (fun H1 l1 x y z => kk H1 l1 ⟨x, y, z⟩)
theorem endN (X : Cx p m c cc nL s args Ts own D tys A) (hr : meth.sig.returnType = none) (hlocks : meth.locks = false) (f : Nat → Nat) (hf : f 0 = b) (hw : Wd D A s.heap H locs (w' f)) (hdg : decode cc pc = .ok (.return_, 1)) : W p l e R s m args below meth c H locs cells slots (MQ below (va_Qv (fun a : Nat → Nat => a 0 = b) (fun a t => va_P D vwCl (w' a) t.heap ∧ va_D A (w' a)) A) args s cells slots A) (F0 m pc ls []) := by
  obtain ⟨⟨hx, hb, -⟩, -⟩ := X
  obtain ⟨hP, hD, hS⟩ := hw
  exact W.vret hx hb hr (fun t ht _ => ⟨⟨f, rfl, hf, by rw [ht]; exact hP, hD⟩, hS.F ht⟩) hS.2.2 hdg hlocks
theorem startN {ws' : List Cond} {w0 : va_W} {mc ms : Nat} (hy : plainName y.cls = true) (hws : ws = Cond.code y cc maxL none :: ws') (hlen : (lg_sl [Value.ref b]).length ≤ maxL)
    (body : ∀ (p : Program) (e : Env) (s : State) (m : MethodId) (below : List Frame) (meth : Method) (c : Code) (A : Nat → Prop) (ls : Array Slot), Cx p m c cc maxL s [Value.ref b].toArray ws y.cls D tys A → meth.sig.returnType = none → meth.locks = false → meth.name = y.name → Wd D A s.heap s.heap [] w0 → lv_has ls maxL (lv_args 0 [.ref b]) → W p l e rm s m [Value.ref b].toArray below meth c s.heap [] 0 0 (MQ below (va_Qv (fun a : Nat → Nat => a 0 = b) (fun a t => va_P D vwCl (w' a) t.heap ∧ va_D A (w' a)) A) [Value.ref b].toArray s mc ms A) (F0 m 0 ls [])) : CtN l y ws rm D tys b w0 w' mc ms := by
  intro sz
  refine Met.ofW (cc := cc) (maxL := maxL) (ret := none) hy hws ?_
  intro p e s m args below meth c s₁ B hml hv
  obtain ⟨rfl, hsz, hP, ⟨hK, hN⟩, hD0⟩ := hv
  subst hsz
  have hD := hD0.self (sz := s.heap.size)
  have hl := lv_entry [Value.ref b] (n := maxL) hlen
  rw [lg_entry_eq]
  exact body p e s m below meth c (va_A w0 s.heap.size) _ ⟨⟨B.exec, B.bytes, hml, findClass_of_methodNamed B.named, atoms_spec (ws := ws) B.pre⟩, hK, fun q h => Or.inr h, hN⟩ B.returns B.notSynchronized (name_of_methodNamed B.named B.method).1 ⟨hP, hD, va_S.rf⟩ hl

theorem clI {mc ms : Nat} (X : Cx p m c cc nL s args Ts own D tys A) (hM : CtN l y ws rm D tys b wc w' mc ms) (cw : CallB R s args own index y bytes maxL none ws rm mc ms n ∧ y.name = "<init>" ∧ (Cond.instanceMethod y).before args s = true) (hw : Wd D A s.heap H locs w) (isC isR : List Nat) (hC : isC.map (fun i => w[i]?) = wc.map some) (hR : isR.map (fun i => w[i]?) = wr.map some) (hnC : va_nd isC = true) (hnR : va_nd isR = true) (hdis : ∀ i ∈ isR, i ∉ isC) (hlen : 0 = n) (hsize : ls.size = nL) (hst : st0 = .ref b :: rest) (hW : (rest.map fun v => v.category).sum ≤ 8) (hdg : decode cc pc = .ok (.invokespecial index, 3)) (hf : cells + mc ≤ R.cells ∧ slots + ms ≤ R.slots)
    (kk : ∀ (a : Nat → Nat) (H1 : Heap) (locs1 : List Loc), a 0 = b → Wd D A s.heap H1 locs1 (wr ++ w' a) → W p l e R s m args below meth c H1 locs1 (cells + mc) (slots + ms) Q (F0 m (pc + 3) ls rest)) : W p l e R s m args below meth c H locs cells slots Q (F0 m pc ls st0) := by
  obtain ⟨S, hK, hA, hN⟩ := X
  obtain ⟨hP, hD, hS⟩ := hw
  have hPc : va_P D vwCl wc H := fun k q hq => by
    have h1 : (isC.map (fun i => w[i]?))[k]? = some (some q) := by rw [hC, List.getElem?_map, hq]; rfl
    rw [List.getElem?_map] at h1
    cases hi : isC[k]? with
    | none => rw [hi] at h1; cases h1
    | some i => rw [hi] at h1; exact hP i q (Option.some.inj h1)
  have hDc := hD.sub isC hnC hC
  have hFc := va_free hD hS hA isC hC
  subst hst
  have hrun := va_runI (l := l) (e := e) (below := below) (meth := meth) (H := H) (locs := locs) (cells := cells) (slots := slots) (g := F0 m pc ls _) (As := []) (rest := rest) S (hM H.size) cw ⟨cP_blind, fun U hU hWU => ⟨rfl, by rw [hU], by rw [hU]; exact hPc, ⟨va_K.moved hWU.alike hK, KN.moved hWU hN⟩, hDc.weaken (fun _ _ _ _ => trivial)⟩⟩ rfl hlen hsize rfl (lv_room hW) hdg hf
  refine va_callv hrun hS (fun q _ h => hFc q h) hFc (fun u t H1 locs1 ht hvm hpo hB hz1 hk1 hS1 => ?_)
  obtain ⟨hP1, hD1⟩ := hB
  rw [ht] at hP1
  obtain ⟨hP2, hD2⟩ := va_join hP hD isC isR hC hR hnR hdis hk1 hFc hP1 hD1
  exact kk u H1 locs1 hpo ⟨hP2, hD2, hS1⟩
theorem clIN {mc ms : Nat} (X : Cx p m c cc nL s args Ts own D tys A) (hM : CtN l y ws rm D tys b wc w' mc ms) {host : String} (cw : va_CN R s args own index y host bytes maxL none ws rm mc ms n ∧ y.name = "<init>" ∧ (Cond.instanceMethod y).before args s = true) (hw : Wd D A s.heap H locs w) (isC isR : List Nat) (hC : isC.map (fun i => w[i]?) = wc.map some) (hR : isR.map (fun i => w[i]?) = wr.map some) (hnC : va_nd isC = true) (hnR : va_nd isR = true) (hdis : ∀ i ∈ isR, i ∉ isC) (hlen : 0 = n) (hsize : ls.size = nL) (hst : st0 = .ref b :: rest) (hW : (rest.map fun v => v.category).sum ≤ 8) (hdg : decode cc pc = .ok (.invokespecial index, 3)) (hf : cells + mc ≤ R.cells ∧ slots + ms ≤ R.slots)
    (kk : ∀ (a : Nat → Nat) (H1 : Heap) (locs1 : List Loc), a 0 = b → Wd D A s.heap H1 locs1 (wr ++ w' a) → W p l e R s m args below meth c H1 locs1 (cells + mc) (slots + ms) Q (F0 m (pc + 3) ls rest)) : W p l e R s m args below meth c H locs cells slots Q (F0 m pc ls st0) := by
  obtain ⟨S, hK, hA, hN⟩ := X
  obtain ⟨hP, hD, hS⟩ := hw
  have hPc : va_P D vwCl wc H := fun k q hq => by
    have h1 : (isC.map (fun i => w[i]?))[k]? = some (some q) := by rw [hC, List.getElem?_map, hq]; rfl
    rw [List.getElem?_map] at h1
    cases hi : isC[k]? with
    | none => rw [hi] at h1; cases h1
    | some i => rw [hi] at h1; exact hP i q (Option.some.inj h1)
  have hDc := hD.sub isC hnC hC
  have hFc := va_free hD hS hA isC hC
  subst hst
  have hrun := va_runIN (l := l) (e := e) (below := below) (meth := meth) (H := H) (locs := locs) (cells := cells) (slots := slots) (g := F0 m pc ls _) (As := []) (rest := rest) S (hM H.size) cw ⟨cP_blind, fun U hU hWU => ⟨rfl, by rw [hU], by rw [hU]; exact hPc, ⟨va_K.moved hWU.alike hK, KN.moved hWU hN⟩, hDc.weaken (fun _ _ _ _ => trivial)⟩⟩ rfl hlen hsize rfl (lv_room hW) hdg hf
  refine va_callv hrun hS (fun q _ h => hFc q h) hFc (fun u t H1 locs1 ht hvm hpo hB hz1 hk1 hS1 => ?_)
  obtain ⟨hP1, hD1⟩ := hB
  rw [ht] at hP1
  obtain ⟨hP2, hD2⟩ := va_join hP hD isC isR hC hR hnR hdis hk1 hFc hP1 hD1
  exact kk u H1 locs1 hpo ⟨hP2, hD2, hS1⟩
end CBASE
