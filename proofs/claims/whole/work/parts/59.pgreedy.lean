/-! GREEDY MERGES: how many ROWS they move at most. My own text. -/
def gsm : List Nat → Nat
  | [] => 0
  | v :: t => v / 799 + gsm t
theorem gsm_app : ∀ a b : List Nat, gsm (a ++ b) = gsm a + gsm b
  | [], b => by simp [gsm]
  | v :: t, b => by
    have := gsm_app t b
    show v / 799 + gsm (t ++ b) = v / 799 + gsm t + gsm b
    omega
theorem gsm_td (k : Nat) (V : List Nat) : gsm (V.take k) + gsm (V.drop k) = gsm V := by
  rw [← gsm_app, List.take_append_drop]
def gins (x : Nat) : List Nat → List Nat
  | [] => [x]
  | v :: t => if x ≤ v then x :: v :: t else v :: gins x t
theorem gins_mem (x y : Nat) : ∀ l : List Nat, y ∈ gins x l ↔ y = x ∨ y ∈ l
  | [] => by simp [gins]
  | v :: t => by
    have ih := gins_mem x y t
    unfold gins
    split
    · simp
    · rw [List.mem_cons, ih, List.mem_cons]
      constructor
      · rintro (h | h | h)
        · exact Or.inr (Or.inl h)
        · exact Or.inl h
        · exact Or.inr (Or.inr h)
      · rintro (h | h | h)
        · exact Or.inr (Or.inl h)
        · exact Or.inl h
        · exact Or.inr (Or.inr h)
theorem gins_len (x : Nat) : ∀ l : List Nat, (gins x l).length = l.length + 1
  | [] => rfl
  | v :: t => by
    have ih := gins_len x t
    unfold gins
    split
    · rfl
    · rw [List.length_cons, ih, List.length_cons]
theorem gins_sum (x : Nat) : ∀ l : List Nat, gsm (gins x l) = x / 799 + gsm l
  | [] => rfl
  | v :: t => by
    have ih := gins_sum x t
    unfold gins
    split
    · rfl
    · show v / 799 + gsm (gins x t) = x / 799 + (v / 799 + gsm t)
      omega
theorem gins_sub (x : Nat) : ∀ l : List Nat, List.Sublist l (gins x l)
  | [] => List.nil_sublist _
  | v :: t => by
    unfold gins
    split
    · exact List.sublist_cons_self x (v :: t)
    · exact List.Sublist.cons_cons v (gins_sub x t)
def gasc (V : List Nat) : Prop := List.Pairwise (fun a b => a < b) V
theorem gasc_tail {v : Nat} {t : List Nat} (h : gasc (v :: t)) : gasc t := (List.pairwise_cons.mp h).2
theorem gasc_head {v : Nat} {t : List Nat} (h : gasc (v :: t)) : ∀ y, y ∈ t → v < y := (List.pairwise_cons.mp h).1
theorem gasc_drop {V : List Nat} (h : gasc V) (k : Nat) : gasc (V.drop k) := List.Pairwise.sublist (List.drop_sublist k V) h
theorem gins_asc {x : Nat} : ∀ {l : List Nat}, gasc l → x ∉ l → gasc (gins x l)
  | [], _, _ => List.pairwise_singleton _ _
  | v :: t, h, hx => by
    have hne : x ≠ v := fun e => hx (by rw [e]; exact List.mem_cons_self)
    have ht : x ∉ t := fun e => hx (List.mem_cons_of_mem v e)
    unfold gins
    split
    · refine List.pairwise_cons.mpr ⟨fun y hy => ?_, h⟩
      rcases List.mem_cons.mp hy with e | e
      · rw [e]; omega
      · have := gasc_head h y e
        omega
    · refine List.pairwise_cons.mpr ⟨fun y hy => ?_, gins_asc (gasc_tail h) ht⟩
      rcases (gins_mem x y t).mp hy with e | e
      · rw [e]; omega
      · exact gasc_head h y e
theorem take_more : ∀ (l : List Nat) (m a : Nat), (∀ v, v ∈ l → a ≤ v) → m < l.length → a / 799 + gsm (l.take m) ≤ gsm (l.take (m + 1))
  | [], m, a, _, hm => absurd hm (Nat.not_lt_zero m)
  | v :: t, 0, a, h, _ => by
    have h1 : a / 799 ≤ v / 799 := Nat.div_le_div_right (h v List.mem_cons_self)
    show a / 799 + 0 ≤ v / 799 + gsm (t.take 0)
    omega
  | v :: t, m + 1, a, h, hm => by
    have ih := take_more t m a (fun y hy => h y (List.mem_cons_of_mem v hy)) (by rw [List.length_cons] at hm; omega)
    show a / 799 + (v / 799 + gsm (t.take m)) ≤ v / 799 + gsm (t.take (m + 1))
    omega
theorem first_least {O V : List Nat} (hs : List.Sublist O V) : gasc V → gsm (V.take O.length) ≤ gsm O := by
  induction hs with
  | slnil => intro _; exact Nat.le_refl _
  | @cons l1 l2 a h ih =>
    intro hV
    have ih' := ih (gasc_tail hV)
    cases l1 with
    | nil => exact Nat.zero_le _
    | cons o O' =>
      have hl := h.length_le
      rw [List.length_cons] at ih' hl ⊢
      have := take_more l2 O'.length a (fun y hy => Nat.le_of_lt (gasc_head hV y hy)) (by omega)
      show a / 799 + gsm (l2.take O'.length) ≤ _
      omega
  | @cons_cons l1 l2 a h ih =>
    intro hV
    have ih' := ih (gasc_tail hV)
    rw [List.length_cons]
    show a / 799 + gsm (l2.take l1.length) ≤ a / 799 + gsm l1
    omega
def gok (idx : Nat) (V : List Nat) : Prop := gasc V ∧ ∀ v, v ∈ V → v % 799 < idx
def gst (k idx : Nat) (V : List Nat) : List Nat := gins (gsm (V.take k) * 799 + idx) (V.drop k)
def gco (k : Nat) : Nat → Nat → List Nat → Nat
  | 0, _, _ => 0
  | q + 1, idx, V => gsm (V.take k) + gco k q (idx + 1) (gst k idx V)
def gsts (k : Nat) : Nat → Nat → List Nat → List Nat
  | 0, _, V => V
  | q + 1, idx, V => gsts k q (idx + 1) (gst k idx V)
theorem gst_new {k idx : Nat} {V : List Nat} (h : gok idx V) (hi : idx < 799) : (gsm (V.take k) * 799 + idx) ∉ V.drop k := by
  intro q
  have := h.2 _ (List.mem_of_mem_drop q)
  omega
theorem gst_ok {k idx : Nat} {V : List Nat} (h : gok idx V) (hi : idx < 799) : gok (idx + 1) (gst k idx V) := by
  refine ⟨gins_asc (gasc_drop h.1 k) (gst_new h hi), fun v hv => ?_⟩
  rcases (gins_mem _ _ _).mp hv with e | e
  · rw [e]; omega
  · have := h.2 v (List.mem_of_mem_drop e)
    omega
theorem gst_sum (k : Nat) {idx : Nat} (V : List Nat) (hi : idx < 799) : gsm (gst k idx V) = gsm V := by
  unfold gst
  rw [gins_sum, ← gsm_td k V]
  congr 1
  omega
theorem gst_len {k idx : Nat} {V : List Nat} (hk : k ≤ V.length) : (gst k idx V).length + k = V.length + 1 := by
  unfold gst
  rw [gins_len, List.length_drop]
  omega
theorem gst_sub {k idx : Nat} {V O : List Nat} (h : List.Sublist O V) : List.Sublist (O.drop k) (gst k idx V) := (List.Sublist.drop h k).trans (gins_sub _ _)
theorem g_phase {k : Nat} : ∀ (p idx : Nat) (V O : List Nat), gok idx V → idx + p ≤ 799 → List.Sublist O V → k * p ≤ O.length → gco k p idx V ≤ gsm O
  | 0, idx, V, O, _, _, _, _ => Nat.zero_le _
  | p + 1, idx, V, O, h, hi, hs, hl => by
    rw [Nat.mul_succ] at hl
    have h1 : gsm (V.take k) ≤ gsm (O.take k) := by
      have := first_least (O := O.take k) ((List.take_sublist k O).trans hs) h.1
      rw [List.length_take, Nat.min_eq_left (by omega)] at this
      exact this
    have h2 := g_phase (k := k) p (idx + 1) (gst k idx V) (O.drop k) (gst_ok h (by omega)) (by omega) (gst_sub hs) (by rw [List.length_drop]; omega)
    have h3 := gsm_td k O
    show gsm (V.take k) + gco k p (idx + 1) (gst k idx V) ≤ gsm O
    omega
theorem gco_add (k : Nat) : ∀ (p r idx : Nat) (V : List Nat), gco k (p + r) idx V = gco k p idx V + gco k r (idx + p) (gsts k p idx V)
  | 0, r, idx, V => by
    rw [Nat.zero_add]
    show gco k r idx V = 0 + gco k r (idx + 0) V
    rw [Nat.zero_add, Nat.add_zero]
  | p + 1, r, idx, V => by
    have ih := gco_add k p r (idx + 1) (gst k idx V)
    have e : p + 1 + r = (p + r) + 1 := by omega
    have e2 : idx + (p + 1) = idx + 1 + p := by omega
    rw [e, e2]
    show gsm (V.take k) + gco k (p + r) (idx + 1) (gst k idx V) = gsm (V.take k) + gco k p (idx + 1) (gst k idx V) + gco k r (idx + 1 + p) (gsts k p (idx + 1) (gst k idx V))
    omega
theorem gsts_ok {k : Nat} : ∀ (p idx : Nat) (V : List Nat), gok idx V → idx + p ≤ 799 → gok (idx + p) (gsts k p idx V) ∧ gsm (gsts k p idx V) = gsm V
  | 0, idx, V, h, _ => ⟨h, rfl⟩
  | p + 1, idx, V, h, hi => by
    have ih := gsts_ok (k := k) p (idx + 1) (gst k idx V) (gst_ok h (by omega)) (by omega)
    have e2 : idx + (p + 1) = idx + 1 + p := by omega
    rw [e2]
    refine ⟨ih.1, ih.2.trans (gst_sum k V (by omega))⟩
theorem gsts_len {k : Nat} (hk : 1 ≤ k) : ∀ (p idx : Nat) (V : List Nat), p * k ≤ V.length + (p - 1) → (gsts k p idx V).length + p * k = V.length + p
  | 0, idx, V, _ => by simp [gsts]
  | p + 1, idx, V, h => by
    rw [Nat.succ_mul] at h ⊢
    have hpk : p ≤ p * k := Nat.le_mul_of_pos_right p hk
    have h0 := gst_len (k := k) (idx := idx) (V := V) (by omega)
    have ih := gsts_len hk p (idx + 1) (gst k idx V) (by
      by_cases z : p = 0
      · subst z; simp
      · omega)
    show (gsts k p (idx + 1) (gst k idx V)).length + (p * k + k) = V.length + (p + 1)
    omega
theorem g_half {k q : Nat} (hk : 2 ≤ k) (hk8 : k ≤ 8) (hq : 0 < q) : k * (q - (q + k - 2) / k) ≤ 1 + q * (k - 1) ∧ 2 * ((q + k - 2) / k) ≤ q ∧ (q - (q + k - 2) / k) * k ≤ 1 + q * (k - 1) ∧ 1 + q * (k - 1) + (q - (q + k - 2) / k) = (1 + (q + k - 2) / k * (k - 1)) + (q - (q + k - 2) / k) * k := by
  have h : k = 2 ∨ k = 3 ∨ k = 4 ∨ k = 5 ∨ k = 6 ∨ k = 7 ∨ k = 8 := by omega
  rcases h with rfl | rfl | rfl | rfl | rfl | rfl | rfl <;> omega
theorem g_bound {k : Nat} (hk : 2 ≤ k) (hk8 : k ≤ 8) : ∀ (b q idx : Nat) (V : List Nat), q < 2 ^ b → V.length = 1 + q * (k - 1) → gok idx V → idx + q ≤ 799 → gco k q idx V ≤ b * gsm V
  | 0, q, idx, V, hq, _, _, _ => by
    have e : q = 0 := by
      rw [Nat.pow_zero] at hq
      omega
    subst e
    exact Nat.zero_le _
  | b + 1, q, idx, V, hq, hl, hV, hi => by
    by_cases z : q = 0
    · subst z
      exact Nat.zero_le _
    · obtain ⟨a1, a2, a3, a4⟩ := g_half hk hk8 (show 0 < q by omega)
      generalize hr : (q + k - 2) / k = r at a1 a2 a3 a4
      generalize hp : q - r = p at a1 a3 a4
      have eq : q = p + r := by omega
      rw [Nat.pow_succ] at hq
      have hs := gsts_ok (k := k) p idx V hV (by omega)
      have hlen := gsts_len (k := k) (by omega) p idx V (by omega)
      have ih := g_bound hk hk8 b r (idx + p) (gsts k p idx V) (by omega) (by omega) hs.1 (by omega)
      have ph := g_phase (k := k) p idx V V hV (by omega) (List.Sublist.refl V) (by omega)
      rw [hs.2] at ih
      rw [eq, gco_add, Nat.succ_mul]
      omega
/-- how many RUNS the first MERGE takes, and how many MERGES follow it -/
def gw0 (n k : Nat) : Nat := 2 + (n - 2) % (k - 1)
def gq (n k : Nat) : Nat := (n - 2) / (k - 1)
def gtot (n k : Nat) (V : List Nat) : Nat := gsm (V.take (gw0 n k)) + gco k (gq n k) (n + 1) (gst (gw0 n k) n V)
theorem gw_facts {n k : Nat} (hk : 2 ≤ k) (hk8 : k ≤ 8) (hn : 2 ≤ n) : 2 ≤ gw0 n k ∧ gw0 n k ≤ k ∧ gw0 n k ≤ n ∧ n + 1 = gw0 n k + (1 + gq n k * (k - 1)) ∧ gq n k + 2 ≤ n ∧ (3 ≤ k → 2 * gq n k + 2 ≤ n) ∧ (k = 2 → gw0 n k = 2 ∧ gq n k + 2 = n) := by
  unfold gw0 gq
  have h : k = 2 ∨ k = 3 ∨ k = 4 ∨ k = 5 ∨ k = 6 ∨ k = 7 ∨ k = 8 := by omega
  rcases h with rfl | rfl | rfl | rfl | rfl | rfl | rfl <;> simp only [Nat.reduceSub] <;> omega
theorem gtot_bound {n k : Nat} {V : List Nat} (hk : 2 ≤ k) (hk8 : k ≤ 8) (hn : 2 ≤ n) (hn4 : n ≤ 400) (hl : V.length = n) (hV : gok n V) : gtot n k V ≤ 9 * gsm V := by
  obtain ⟨a1, a2, a3, a4, a5, a6, a7⟩ := gw_facts hk hk8 hn
  by_cases z : k = 2
  · obtain ⟨e1, e2⟩ := a7 z
    have h := g_bound (k := 2) (by omega) (by omega) 9 (n - 1) n V (by omega) (by omega) hV (by omega)
    obtain ⟨m, rfl⟩ : ∃ m, n = m + 2 := ⟨n - 2, by omega⟩
    have e3 : gq (m + 2) k = m := by omega
    unfold gtot
    rw [e1, e3, z]
    exact h
  · have h0 := gst_len (k := gw0 n k) (idx := n) (V := V) (by omega)
    have h := g_bound hk hk8 8 (gq n k) (n + 1) (gst (gw0 n k) n V) (by have := a6 (by omega); omega) (by omega) (gst_ok hV (by omega)) (by have := a6 (by omega); omega)
    rw [gst_sum _ _ (by omega)] at h
    have h1 := gsm_td (gw0 n k) V
    unfold gtot
    omega
