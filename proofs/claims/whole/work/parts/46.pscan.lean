/-! THE REFERENCE'S SCAN of its heap, and small parts of select. My own text. -/
def lI (o : Option Nat) : Int32 := match o with
  | none => -1
  | some l => nI l
theorem lI_none {o : Option Nat} (h : ∀ l, o = some l → l < 2 ^ 31) : lI o = -1 ↔ o = none := by
  cases o with
  | none => exact ⟨fun _ => rfl, fun _ => rfl⟩
  | some l => exact ⟨fun q => absurd q (nI_ne_m1 (h l rfl)), fun q => by cases q⟩
/-- a ROW may follow the last one -/
def elig (P : Nat → Nat) (lst : Option Nat) (r : Nat) : Prop := ∀ l, lst = some l → ¬ P r < P l
def bestOf (P : Nat → Nat) (lst : Option Nat) (hr : Nat → Nat) (j : Nat) (b : Option Nat) : Prop := (b = none → ∀ k, k < j → ¬ elig P lst (hr k)) ∧ ∀ x, b = some x → x < j ∧ elig P lst (hr x) ∧ ∀ k, k < j → elig P lst (hr k) → P (hr x) ≤ P (hr k)
theorem bestOf_skip {P : Nat → Nat} {lst : Option Nat} {hr : Nat → Nat} {j : Nat} {b : Option Nat} (h : bestOf P lst hr j b) (hn : ¬ elig P lst (hr j)) : bestOf P lst hr (j + 1) b := by
  refine ⟨fun e k hk => ?_, fun x e => ?_⟩
  · by_cases q : k = j
    · rw [q]; exact hn
    · exact h.1 e k (by omega)
  · obtain ⟨a1, a2, a3⟩ := h.2 x e
    refine ⟨by omega, a2, fun k hk he => ?_⟩
    by_cases q : k = j
    · rw [q] at he; exact absurd he hn
    · exact a3 k (by omega) he
theorem bestOf_keep {P : Nat → Nat} {lst : Option Nat} {hr : Nat → Nat} {j b : Nat} (h : bestOf P lst hr j (some b)) (hle : P (hr b) ≤ P (hr j)) : bestOf P lst hr (j + 1) (some b) := by
  refine ⟨fun e => absurd e (by simp), fun x e => ?_⟩
  cases e
  obtain ⟨a1, a2, a3⟩ := h.2 b rfl
  refine ⟨by omega, a2, fun k hk he => ?_⟩
  by_cases q : k = j
  · rw [q]; exact hle
  · exact a3 k (by omega) he
theorem bestOf_new {P : Nat → Nat} {lst : Option Nat} {hr : Nat → Nat} {j : Nat} {b : Option Nat} (h : bestOf P lst hr j b) (he : elig P lst (hr j)) (hlt : ∀ x, b = some x → P (hr j) ≤ P (hr x)) : bestOf P lst hr (j + 1) (some j) := by
  refine ⟨fun e => absurd e (by simp), fun x e => ?_⟩
  cases e
  refine ⟨by omega, he, fun k hk hek => ?_⟩
  by_cases q : k = j
  · rw [q]; exact Nat.le_refl _
  · cases hb : b with
    | none => exact absurd hek (h.1 hb k (by omega))
    | some y =>
      have h1 := (h.2 y hb).2.2 k (by omega) hek
      have h2 := hlt y hb
      omega
theorem p_scan {N c h : Nat} {P hr : Nat → Nat} {S V T F hp : Nat → Int32} {lst : Option Nat} (hh : h ≤ 40) (hc : c ≤ 400) (ah : ∀ a b, a < c → b < c → f_X7_ahead N S V T F (nI a) (nI b) = some (if P a < P b then 1 else 0)) (hl : ∀ l, lst = some l → l < c) (hhr : ∀ k, k < h → hr k < c ∧ hp k = nI (hr k)) :
    ∀ (f j : Nat) (b : Option Nat), j ≤ h → h - j < f → bestOf P lst hr j b → ∃ b', l_X7_runs_88 N S V T F hp (nI h) (lI lst) f (lI b) (nI j) = some (lI b') ∧ bestOf P lst hr h b'
  | 0, j, b, _, hf, _ => absurd hf (by omega)
  | f + 1, j, b, hj, hf, hb => by
    rw [l_X7_runs_88]
    by_cases q : h ≤ j
    · have e : j = h := by omega
      subst e
      rw [if_pos (nI_le (Nat.le_refl _) (by omega))]
      exact ⟨b, rfl, hb⟩
    · have hjh : j < h := by omega
      rw [if_neg (nI_ge hjh (by omega))]
      have ih := fun b' => p_scan (P := P) (hr := hr) (lst := lst) hh hc ah hl hhr f (j + 1) b' (by omega) (by omega)
      have rj := hhr j hjh
      have cj : (nI j).toNatClampNeg = j := nI_clamp (by omega)
      have gj : ∀ {X : Option Int32}, gd (ix (nI j) 40) X = X := gd_nI (by omega) (by decide)
      have hbl : ∀ x, b = some x → x < 2 ^ 31 := fun x e => by have := (hb.2 x e).1; omega
      -- the end of a step for an eligible ROW
      have tail : elig P lst (hr j) → ∃ b', (if lI b = -1 then l_X7_runs_88 N S V T F hp (nI h) (lI lst) f (nI j) (nI (j + 1)) else gd (ix (nI j) 40) <| gd (ix (lI b) 40) <| bd1 (f_X7_ahead N S V T F (hp (nI j).toNatClampNeg) (hp (lI b).toNatClampNeg)) fun r => if r = 0 then l_X7_runs_88 N S V T F hp (nI h) (lI lst) f (lI b) (nI (j + 1)) else l_X7_runs_88 N S V T F hp (nI h) (lI lst) f (nI j) (nI (j + 1))) = some (lI b') ∧ bestOf P lst hr h b' := by
        intro he
        cases hbe : b with
        | none =>
          rw [if_pos (show lI none = -1 from rfl)]
          rw [hbe] at hb
          exact ih (some j) (bestOf_new hb he (fun x e => by cases e))
        | some x =>
          rw [hbe] at hb
          have hx := hb.2 x rfl
          have rx := hhr x (by omega)
          have e1 : lI (some x) = nI x := rfl
          rw [e1, if_neg (nI_ne_m1 (by omega)), gj, gd_nI (show x < 40 by omega) (by decide), cj, nI_clamp (show x < 2 ^ 31 by omega), rj.2, rx.2, ah _ _ rj.1 rx.1]
          simp only [bd1]
          by_cases z : P (hr j) < P (hr x)
          · rw [if_pos z, if_neg (by decide)]
            exact ih (some j) (bestOf_new hb he (fun y e => by cases e; omega))
          · rw [if_neg z, if_pos rfl]
            exact ih (some x) (bestOf_keep hb (by omega))
      simp only [nl, nI_1]
      cases hls : lst with
      | none =>
        rw [hls] at tail ih
        have e0 : lI (none : Option Nat) = -1 := rfl
        rw [e0, if_pos rfl]
        rw [e0] at tail
        exact tail (fun l e => by cases e)
      | some l =>
        have hlc := hl l hls
        rw [hls] at tail ih hb
        have e0 : lI (some l) = nI l := rfl
        rw [e0] at tail ih ⊢
        rw [if_neg (nI_ne_m1 (by omega)), gj, cj, rj.2, ah _ _ rj.1 hlc]
        rw [cj, rj.2] at tail
        simp only [bd1]
        by_cases z : P (hr j) < P l
        · rw [if_pos z, if_neg (by decide)]
          exact ih b (bestOf_skip hb (fun he => he l rfl z))
        · rw [if_neg z, if_pos rfl]
          exact tail (fun l2 e => by cases e; exact z)
