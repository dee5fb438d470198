section
/-! BASE: combinators of the pure programs; contracts; rules for calls. My own text. -/
def nl {α β : Type} (e : α) (B : α → β) : β := B e
theorem nl_at {α β : Type} {e : α} {B : α → Option β} {r : β} (h : nl e B = some r) {x : α} (hx : x = e) : B x = some r := by
  subst hx
  exact h
theorem nl_rf {α β : Type} {e : α} {B : α → Option β} {r : β} (h : nl e B = some r) : B e = some r := h
def gd {β : Type} (b : Bool) (X : Option β) : Option β := match b with
  | true => X
  | false => none
theorem gd_l {β : Type} {b : Bool} {X : Option β} {r : β} (h : gd b X = some r) : b = true := by
  cases b
  · cases h
  · rfl
theorem gd_r {β : Type} {b : Bool} {X : Option β} {r : β} (h : gd b X = some r) : X = some r := by
  cases b
  · cases h
  · exact h
theorem gd_t {β : Type} {b : Bool} {X : Option β} (h : b = true) : gd b X = X := by
  subst h
  rfl
theorem it_t {β : Type} {p : Prop} {ins : Decidable p} {X Y : Option β} {r : β} (h : @ite (Option β) p ins X Y = some r) (hp : p) : X = some r := by
  rw [if_pos hp] at h
  exact h
theorem it_f {β : Type} {p : Prop} {ins : Decidable p} {X Y : Option β} {r : β} (h : @ite (Option β) p ins X Y = some r) (hp : ¬ p) : Y = some r := by
  rw [if_neg hp] at h
  exact h
def ix (i : Int32) (n : Nat) : Bool := decide (0 ≤ i.toInt ∧ i.toInt < (n : Int))
theorem ix_in {i : Int32} {n : Nat} (h : ix i n = true) : vp_in i n := vp_in_iff.mpr (of_decide_eq_true h)
theorem in_ix {i : Int32} {n : Nat} (h : vp_in i n) : ix i n = true := decide_eq_true (vp_in_iff.mp h)
def nz (i : Int32) : Bool := decide (¬ i = 0)
theorem nz_ne {i : Int32} (h : nz i = true) : ¬ i = 0 := of_decide_eq_true h
def bz (v : Int32) : Bool := decide (v = 0 ∨ v = 1)
theorem bz_nar {v : Int32} (h : bz v = true) : narrow .boolean (.int v) = .int v := by
  rcases (of_decide_eq_true h : v = 0 ∨ v = 1) with q | q <;> (subst q; decide)
theorem lc_gt (x y : Int64) : 0 < lg_cmp x y ↔ y < x := by
  unfold lg_cmp
  by_cases h : y < x
  · simp [h]
  · by_cases h2 : x = y <;> simp [h, h2]
theorem lc_ge (x y : Int64) : 0 ≤ lg_cmp x y ↔ y ≤ x := by
  unfold lg_cmp
  by_cases h : y < x
  · simp [h, Int64.le_of_lt h]
  · by_cases h2 : x = y
    · subst h2; simp
    · have h3 : ¬ y ≤ x := fun q => by
        rw [Int64.lt_iff_toInt_lt] at h
        rw [Int64.le_iff_toInt_le] at q
        exact h2 (Int64.toInt_inj.mp (by omega))
      simp [h, h2, h3]
theorem lc_lt (x y : Int64) : lg_cmp x y < 0 ↔ x < y := by
  unfold lg_cmp
  by_cases h : y < x
  · have h3 : ¬ x < y := fun q => by
      rw [Int64.lt_iff_toInt_lt] at h q
      omega
    simp [h, h3]
  · by_cases h2 : x = y
    · subst h2; simp
    · have h3 : x < y := by
        rw [Int64.lt_iff_toInt_lt] at h ⊢
        have : x.toInt ≠ y.toInt := fun q => h2 (Int64.toInt_inj.mp q)
        omega
      simp [h, h2, h3]
theorem lc_le (x y : Int64) : lg_cmp x y ≤ 0 ↔ x ≤ y := by
  unfold lg_cmp
  by_cases h : y < x
  · have h3 : ¬ x ≤ y := fun q => by
      rw [Int64.lt_iff_toInt_lt] at h
      rw [Int64.le_iff_toInt_le] at q
      omega
    simp [h, h3]
  · have h3 : x ≤ y := by
      rw [Int64.lt_iff_toInt_lt] at h
      rw [Int64.le_iff_toInt_le]
      omega
    by_cases h2 : x = y
    · subst h2; simp
    · simp [h, h2, h3]

def bd1 {A1 γ : Type} (x : Option (A1)) (B : A1 → Option γ) : Option γ := match x with
  | some a1 => B a1
  | none => none
theorem bd1_ob {A1 γ : Type} {x : Option (A1)} {B : A1 → Option γ} {r : γ} (h : bd1 x B = some r) : ∃ a1, x = some a1 ∧ B a1 = some r := by
  cases x with
  | none => cases h
  | some u =>
    have a1 := 0
    exact ⟨u, rfl, h⟩
theorem bd1_eq {A1 γ : Type} {x : Option (A1)} {B : A1 → Option γ} {a1 : A1} (h : x = some a1) : bd1 x B = B a1 := by
  subst h
  rfl
def bd2 {A1 A2 γ : Type} (x : Option (A1 × A2)) (B : A1 → A2 → Option γ) : Option γ := match x with
  | some (a1, a2) => B a1 a2
  | none => none
theorem bd2_ob {A1 A2 γ : Type} {x : Option (A1 × A2)} {B : A1 → A2 → Option γ} {r : γ} (h : bd2 x B = some r) : ∃ a1 a2, x = some (a1, a2) ∧ B a1 a2 = some r := by
  cases x with
  | none => cases h
  | some u =>
    obtain ⟨a1, a2⟩ := u
    exact ⟨a1, a2, rfl, h⟩
theorem bd2_eq {A1 A2 γ : Type} {x : Option (A1 × A2)} {B : A1 → A2 → Option γ} {a1 : A1} {a2 : A2} (h : x = some (a1, a2)) : bd2 x B = B a1 a2 := by
  subst h
  rfl
def bd3 {A1 A2 A3 γ : Type} (x : Option (A1 × A2 × A3)) (B : A1 → A2 → A3 → Option γ) : Option γ := match x with
  | some (a1, a2, a3) => B a1 a2 a3
  | none => none
theorem bd3_ob {A1 A2 A3 γ : Type} {x : Option (A1 × A2 × A3)} {B : A1 → A2 → A3 → Option γ} {r : γ} (h : bd3 x B = some r) : ∃ a1 a2 a3, x = some (a1, a2, a3) ∧ B a1 a2 a3 = some r := by
  cases x with
  | none => cases h
  | some u =>
    obtain ⟨a1, a2, a3⟩ := u
    exact ⟨a1, a2, a3, rfl, h⟩
theorem bd3_eq {A1 A2 A3 γ : Type} {x : Option (A1 × A2 × A3)} {B : A1 → A2 → A3 → Option γ} {a1 : A1} {a2 : A2} {a3 : A3} (h : x = some (a1, a2, a3)) : bd3 x B = B a1 a2 a3 := by
  subst h
  rfl
def bd4 {A1 A2 A3 A4 γ : Type} (x : Option (A1 × A2 × A3 × A4)) (B : A1 → A2 → A3 → A4 → Option γ) : Option γ := match x with
  | some (a1, a2, a3, a4) => B a1 a2 a3 a4
  | none => none
theorem bd4_ob {A1 A2 A3 A4 γ : Type} {x : Option (A1 × A2 × A3 × A4)} {B : A1 → A2 → A3 → A4 → Option γ} {r : γ} (h : bd4 x B = some r) : ∃ a1 a2 a3 a4, x = some (a1, a2, a3, a4) ∧ B a1 a2 a3 a4 = some r := by
  cases x with
  | none => cases h
  | some u =>
    obtain ⟨a1, a2, a3, a4⟩ := u
    exact ⟨a1, a2, a3, a4, rfl, h⟩
theorem bd4_eq {A1 A2 A3 A4 γ : Type} {x : Option (A1 × A2 × A3 × A4)} {B : A1 → A2 → A3 → A4 → Option γ} {a1 : A1} {a2 : A2} {a3 : A3} {a4 : A4} (h : x = some (a1, a2, a3, a4)) : bd4 x B = B a1 a2 a3 a4 := by
  subst h
  rfl
def bd5 {A1 A2 A3 A4 A5 γ : Type} (x : Option (A1 × A2 × A3 × A4 × A5)) (B : A1 → A2 → A3 → A4 → A5 → Option γ) : Option γ := match x with
  | some (a1, a2, a3, a4, a5) => B a1 a2 a3 a4 a5
  | none => none
theorem bd5_ob {A1 A2 A3 A4 A5 γ : Type} {x : Option (A1 × A2 × A3 × A4 × A5)} {B : A1 → A2 → A3 → A4 → A5 → Option γ} {r : γ} (h : bd5 x B = some r) : ∃ a1 a2 a3 a4 a5, x = some (a1, a2, a3, a4, a5) ∧ B a1 a2 a3 a4 a5 = some r := by
  cases x with
  | none => cases h
  | some u =>
    obtain ⟨a1, a2, a3, a4, a5⟩ := u
    exact ⟨a1, a2, a3, a4, a5, rfl, h⟩
theorem bd5_eq {A1 A2 A3 A4 A5 γ : Type} {x : Option (A1 × A2 × A3 × A4 × A5)} {B : A1 → A2 → A3 → A4 → A5 → Option γ} {a1 : A1} {a2 : A2} {a3 : A3} {a4 : A4} {a5 : A5} (h : x = some (a1, a2, a3, a4, a5)) : bd5 x B = B a1 a2 a3 a4 a5 := by
  subst h
  rfl
def bd6 {A1 A2 A3 A4 A5 A6 γ : Type} (x : Option (A1 × A2 × A3 × A4 × A5 × A6)) (B : A1 → A2 → A3 → A4 → A5 → A6 → Option γ) : Option γ := match x with
  | some (a1, a2, a3, a4, a5, a6) => B a1 a2 a3 a4 a5 a6
  | none => none
theorem bd6_ob {A1 A2 A3 A4 A5 A6 γ : Type} {x : Option (A1 × A2 × A3 × A4 × A5 × A6)} {B : A1 → A2 → A3 → A4 → A5 → A6 → Option γ} {r : γ} (h : bd6 x B = some r) : ∃ a1 a2 a3 a4 a5 a6, x = some (a1, a2, a3, a4, a5, a6) ∧ B a1 a2 a3 a4 a5 a6 = some r := by
  cases x with
  | none => cases h
  | some u =>
    obtain ⟨a1, a2, a3, a4, a5, a6⟩ := u
    exact ⟨a1, a2, a3, a4, a5, a6, rfl, h⟩
theorem bd6_eq {A1 A2 A3 A4 A5 A6 γ : Type} {x : Option (A1 × A2 × A3 × A4 × A5 × A6)} {B : A1 → A2 → A3 → A4 → A5 → A6 → Option γ} {a1 : A1} {a2 : A2} {a3 : A3} {a4 : A4} {a5 : A5} {a6 : A6} (h : x = some (a1, a2, a3, a4, a5, a6)) : bd6 x B = B a1 a2 a3 a4 a5 a6 := by
  subst h
  rfl
def bd7 {A1 A2 A3 A4 A5 A6 A7 γ : Type} (x : Option (A1 × A2 × A3 × A4 × A5 × A6 × A7)) (B : A1 → A2 → A3 → A4 → A5 → A6 → A7 → Option γ) : Option γ := match x with
  | some (a1, a2, a3, a4, a5, a6, a7) => B a1 a2 a3 a4 a5 a6 a7
  | none => none
theorem bd7_ob {A1 A2 A3 A4 A5 A6 A7 γ : Type} {x : Option (A1 × A2 × A3 × A4 × A5 × A6 × A7)} {B : A1 → A2 → A3 → A4 → A5 → A6 → A7 → Option γ} {r : γ} (h : bd7 x B = some r) : ∃ a1 a2 a3 a4 a5 a6 a7, x = some (a1, a2, a3, a4, a5, a6, a7) ∧ B a1 a2 a3 a4 a5 a6 a7 = some r := by
  cases x with
  | none => cases h
  | some u =>
    obtain ⟨a1, a2, a3, a4, a5, a6, a7⟩ := u
    exact ⟨a1, a2, a3, a4, a5, a6, a7, rfl, h⟩
theorem bd7_eq {A1 A2 A3 A4 A5 A6 A7 γ : Type} {x : Option (A1 × A2 × A3 × A4 × A5 × A6 × A7)} {B : A1 → A2 → A3 → A4 → A5 → A6 → A7 → Option γ} {a1 : A1} {a2 : A2} {a3 : A3} {a4 : A4} {a5 : A5} {a6 : A6} {a7 : A7} (h : x = some (a1, a2, a3, a4, a5, a6, a7)) : bd7 x B = B a1 a2 a3 a4 a5 a6 a7 := by
  subst h
  rfl
def bd8 {A1 A2 A3 A4 A5 A6 A7 A8 γ : Type} (x : Option (A1 × A2 × A3 × A4 × A5 × A6 × A7 × A8)) (B : A1 → A2 → A3 → A4 → A5 → A6 → A7 → A8 → Option γ) : Option γ := match x with
  | some (a1, a2, a3, a4, a5, a6, a7, a8) => B a1 a2 a3 a4 a5 a6 a7 a8
  | none => none
theorem bd8_ob {A1 A2 A3 A4 A5 A6 A7 A8 γ : Type} {x : Option (A1 × A2 × A3 × A4 × A5 × A6 × A7 × A8)} {B : A1 → A2 → A3 → A4 → A5 → A6 → A7 → A8 → Option γ} {r : γ} (h : bd8 x B = some r) : ∃ a1 a2 a3 a4 a5 a6 a7 a8, x = some (a1, a2, a3, a4, a5, a6, a7, a8) ∧ B a1 a2 a3 a4 a5 a6 a7 a8 = some r := by
  cases x with
  | none => cases h
  | some u =>
    obtain ⟨a1, a2, a3, a4, a5, a6, a7, a8⟩ := u
    exact ⟨a1, a2, a3, a4, a5, a6, a7, a8, rfl, h⟩
theorem bd8_eq {A1 A2 A3 A4 A5 A6 A7 A8 γ : Type} {x : Option (A1 × A2 × A3 × A4 × A5 × A6 × A7 × A8)} {B : A1 → A2 → A3 → A4 → A5 → A6 → A7 → A8 → Option γ} {a1 : A1} {a2 : A2} {a3 : A3} {a4 : A4} {a5 : A5} {a6 : A6} {a7 : A7} {a8 : A8} (h : x = some (a1, a2, a3, a4, a5, a6, a7, a8)) : bd8 x B = B a1 a2 a3 a4 a5 a6 a7 a8 := by
  subst h
  rfl
def bd9 {A1 A2 A3 A4 A5 A6 A7 A8 A9 γ : Type} (x : Option (A1 × A2 × A3 × A4 × A5 × A6 × A7 × A8 × A9)) (B : A1 → A2 → A3 → A4 → A5 → A6 → A7 → A8 → A9 → Option γ) : Option γ := match x with
  | some (a1, a2, a3, a4, a5, a6, a7, a8, a9) => B a1 a2 a3 a4 a5 a6 a7 a8 a9
  | none => none
theorem bd9_ob {A1 A2 A3 A4 A5 A6 A7 A8 A9 γ : Type} {x : Option (A1 × A2 × A3 × A4 × A5 × A6 × A7 × A8 × A9)} {B : A1 → A2 → A3 → A4 → A5 → A6 → A7 → A8 → A9 → Option γ} {r : γ} (h : bd9 x B = some r) : ∃ a1 a2 a3 a4 a5 a6 a7 a8 a9, x = some (a1, a2, a3, a4, a5, a6, a7, a8, a9) ∧ B a1 a2 a3 a4 a5 a6 a7 a8 a9 = some r := by
  cases x with
  | none => cases h
  | some u =>
    obtain ⟨a1, a2, a3, a4, a5, a6, a7, a8, a9⟩ := u
    exact ⟨a1, a2, a3, a4, a5, a6, a7, a8, a9, rfl, h⟩
theorem bd9_eq {A1 A2 A3 A4 A5 A6 A7 A8 A9 γ : Type} {x : Option (A1 × A2 × A3 × A4 × A5 × A6 × A7 × A8 × A9)} {B : A1 → A2 → A3 → A4 → A5 → A6 → A7 → A8 → A9 → Option γ} {a1 : A1} {a2 : A2} {a3 : A3} {a4 : A4} {a5 : A5} {a6 : A6} {a7 : A7} {a8 : A8} {a9 : A9} (h : x = some (a1, a2, a3, a4, a5, a6, a7, a8, a9)) : bd9 x B = B a1 a2 a3 a4 a5 a6 a7 a8 a9 := by
  subst h
  rfl
def bd10 {A1 A2 A3 A4 A5 A6 A7 A8 A9 A10 γ : Type} (x : Option (A1 × A2 × A3 × A4 × A5 × A6 × A7 × A8 × A9 × A10)) (B : A1 → A2 → A3 → A4 → A5 → A6 → A7 → A8 → A9 → A10 → Option γ) : Option γ := match x with
  | some (a1, a2, a3, a4, a5, a6, a7, a8, a9, a10) => B a1 a2 a3 a4 a5 a6 a7 a8 a9 a10
  | none => none
theorem bd10_ob {A1 A2 A3 A4 A5 A6 A7 A8 A9 A10 γ : Type} {x : Option (A1 × A2 × A3 × A4 × A5 × A6 × A7 × A8 × A9 × A10)} {B : A1 → A2 → A3 → A4 → A5 → A6 → A7 → A8 → A9 → A10 → Option γ} {r : γ} (h : bd10 x B = some r) : ∃ a1 a2 a3 a4 a5 a6 a7 a8 a9 a10, x = some (a1, a2, a3, a4, a5, a6, a7, a8, a9, a10) ∧ B a1 a2 a3 a4 a5 a6 a7 a8 a9 a10 = some r := by
  cases x with
  | none => cases h
  | some u =>
    obtain ⟨a1, a2, a3, a4, a5, a6, a7, a8, a9, a10⟩ := u
    exact ⟨a1, a2, a3, a4, a5, a6, a7, a8, a9, a10, rfl, h⟩
theorem bd10_eq {A1 A2 A3 A4 A5 A6 A7 A8 A9 A10 γ : Type} {x : Option (A1 × A2 × A3 × A4 × A5 × A6 × A7 × A8 × A9 × A10)} {B : A1 → A2 → A3 → A4 → A5 → A6 → A7 → A8 → A9 → A10 → Option γ} {a1 : A1} {a2 : A2} {a3 : A3} {a4 : A4} {a5 : A5} {a6 : A6} {a7 : A7} {a8 : A8} {a9 : A9} {a10 : A10} (h : x = some (a1, a2, a3, a4, a5, a6, a7, a8, a9, a10)) : bd10 x B = B a1 a2 a3 a4 a5 a6 a7 a8 a9 a10 := by
  subst h
  rfl
def bd11 {A1 A2 A3 A4 A5 A6 A7 A8 A9 A10 A11 γ : Type} (x : Option (A1 × A2 × A3 × A4 × A5 × A6 × A7 × A8 × A9 × A10 × A11)) (B : A1 → A2 → A3 → A4 → A5 → A6 → A7 → A8 → A9 → A10 → A11 → Option γ) : Option γ := match x with
  | some (a1, a2, a3, a4, a5, a6, a7, a8, a9, a10, a11) => B a1 a2 a3 a4 a5 a6 a7 a8 a9 a10 a11
  | none => none
theorem bd11_ob {A1 A2 A3 A4 A5 A6 A7 A8 A9 A10 A11 γ : Type} {x : Option (A1 × A2 × A3 × A4 × A5 × A6 × A7 × A8 × A9 × A10 × A11)} {B : A1 → A2 → A3 → A4 → A5 → A6 → A7 → A8 → A9 → A10 → A11 → Option γ} {r : γ} (h : bd11 x B = some r) : ∃ a1 a2 a3 a4 a5 a6 a7 a8 a9 a10 a11, x = some (a1, a2, a3, a4, a5, a6, a7, a8, a9, a10, a11) ∧ B a1 a2 a3 a4 a5 a6 a7 a8 a9 a10 a11 = some r := by
  cases x with
  | none => cases h
  | some u =>
    obtain ⟨a1, a2, a3, a4, a5, a6, a7, a8, a9, a10, a11⟩ := u
    exact ⟨a1, a2, a3, a4, a5, a6, a7, a8, a9, a10, a11, rfl, h⟩
theorem bd11_eq {A1 A2 A3 A4 A5 A6 A7 A8 A9 A10 A11 γ : Type} {x : Option (A1 × A2 × A3 × A4 × A5 × A6 × A7 × A8 × A9 × A10 × A11)} {B : A1 → A2 → A3 → A4 → A5 → A6 → A7 → A8 → A9 → A10 → A11 → Option γ} {a1 : A1} {a2 : A2} {a3 : A3} {a4 : A4} {a5 : A5} {a6 : A6} {a7 : A7} {a8 : A8} {a9 : A9} {a10 : A10} {a11 : A11} (h : x = some (a1, a2, a3, a4, a5, a6, a7, a8, a9, a10, a11)) : bd11 x B = B a1 a2 a3 a4 a5 a6 a7 a8 a9 a10 a11 := by
  subst h
  rfl
def bd12 {A1 A2 A3 A4 A5 A6 A7 A8 A9 A10 A11 A12 γ : Type} (x : Option (A1 × A2 × A3 × A4 × A5 × A6 × A7 × A8 × A9 × A10 × A11 × A12)) (B : A1 → A2 → A3 → A4 → A5 → A6 → A7 → A8 → A9 → A10 → A11 → A12 → Option γ) : Option γ := match x with
  | some (a1, a2, a3, a4, a5, a6, a7, a8, a9, a10, a11, a12) => B a1 a2 a3 a4 a5 a6 a7 a8 a9 a10 a11 a12
  | none => none
theorem bd12_ob {A1 A2 A3 A4 A5 A6 A7 A8 A9 A10 A11 A12 γ : Type} {x : Option (A1 × A2 × A3 × A4 × A5 × A6 × A7 × A8 × A9 × A10 × A11 × A12)} {B : A1 → A2 → A3 → A4 → A5 → A6 → A7 → A8 → A9 → A10 → A11 → A12 → Option γ} {r : γ} (h : bd12 x B = some r) : ∃ a1 a2 a3 a4 a5 a6 a7 a8 a9 a10 a11 a12, x = some (a1, a2, a3, a4, a5, a6, a7, a8, a9, a10, a11, a12) ∧ B a1 a2 a3 a4 a5 a6 a7 a8 a9 a10 a11 a12 = some r := by
  cases x with
  | none => cases h
  | some u =>
    obtain ⟨a1, a2, a3, a4, a5, a6, a7, a8, a9, a10, a11, a12⟩ := u
    exact ⟨a1, a2, a3, a4, a5, a6, a7, a8, a9, a10, a11, a12, rfl, h⟩
theorem bd12_eq {A1 A2 A3 A4 A5 A6 A7 A8 A9 A10 A11 A12 γ : Type} {x : Option (A1 × A2 × A3 × A4 × A5 × A6 × A7 × A8 × A9 × A10 × A11 × A12)} {B : A1 → A2 → A3 → A4 → A5 → A6 → A7 → A8 → A9 → A10 → A11 → A12 → Option γ} {a1 : A1} {a2 : A2} {a3 : A3} {a4 : A4} {a5 : A5} {a6 : A6} {a7 : A7} {a8 : A8} {a9 : A9} {a10 : A10} {a11 : A11} {a12 : A12} (h : x = some (a1, a2, a3, a4, a5, a6, a7, a8, a9, a10, a11, a12)) : bd12 x B = B a1 a2 a3 a4 a5 a6 a7 a8 a9 a10 a11 a12 := by
  subst h
  rfl
def bd13 {A1 A2 A3 A4 A5 A6 A7 A8 A9 A10 A11 A12 A13 γ : Type} (x : Option (A1 × A2 × A3 × A4 × A5 × A6 × A7 × A8 × A9 × A10 × A11 × A12 × A13)) (B : A1 → A2 → A3 → A4 → A5 → A6 → A7 → A8 → A9 → A10 → A11 → A12 → A13 → Option γ) : Option γ := match x with
  | some (a1, a2, a3, a4, a5, a6, a7, a8, a9, a10, a11, a12, a13) => B a1 a2 a3 a4 a5 a6 a7 a8 a9 a10 a11 a12 a13
  | none => none
theorem bd13_ob {A1 A2 A3 A4 A5 A6 A7 A8 A9 A10 A11 A12 A13 γ : Type} {x : Option (A1 × A2 × A3 × A4 × A5 × A6 × A7 × A8 × A9 × A10 × A11 × A12 × A13)} {B : A1 → A2 → A3 → A4 → A5 → A6 → A7 → A8 → A9 → A10 → A11 → A12 → A13 → Option γ} {r : γ} (h : bd13 x B = some r) : ∃ a1 a2 a3 a4 a5 a6 a7 a8 a9 a10 a11 a12 a13, x = some (a1, a2, a3, a4, a5, a6, a7, a8, a9, a10, a11, a12, a13) ∧ B a1 a2 a3 a4 a5 a6 a7 a8 a9 a10 a11 a12 a13 = some r := by
  cases x with
  | none => cases h
  | some u =>
    obtain ⟨a1, a2, a3, a4, a5, a6, a7, a8, a9, a10, a11, a12, a13⟩ := u
    exact ⟨a1, a2, a3, a4, a5, a6, a7, a8, a9, a10, a11, a12, a13, rfl, h⟩
theorem bd13_eq {A1 A2 A3 A4 A5 A6 A7 A8 A9 A10 A11 A12 A13 γ : Type} {x : Option (A1 × A2 × A3 × A4 × A5 × A6 × A7 × A8 × A9 × A10 × A11 × A12 × A13)} {B : A1 → A2 → A3 → A4 → A5 → A6 → A7 → A8 → A9 → A10 → A11 → A12 → A13 → Option γ} {a1 : A1} {a2 : A2} {a3 : A3} {a4 : A4} {a5 : A5} {a6 : A6} {a7 : A7} {a8 : A8} {a9 : A9} {a10 : A10} {a11 : A11} {a12 : A12} {a13 : A13} (h : x = some (a1, a2, a3, a4, a5, a6, a7, a8, a9, a10, a11, a12, a13)) : bd13 x B = B a1 a2 a3 a4 a5 a6 a7 a8 a9 a10 a11 a12 a13 := by
  subst h
  rfl
def bd14 {A1 A2 A3 A4 A5 A6 A7 A8 A9 A10 A11 A12 A13 A14 γ : Type} (x : Option (A1 × A2 × A3 × A4 × A5 × A6 × A7 × A8 × A9 × A10 × A11 × A12 × A13 × A14)) (B : A1 → A2 → A3 → A4 → A5 → A6 → A7 → A8 → A9 → A10 → A11 → A12 → A13 → A14 → Option γ) : Option γ := match x with
  | some (a1, a2, a3, a4, a5, a6, a7, a8, a9, a10, a11, a12, a13, a14) => B a1 a2 a3 a4 a5 a6 a7 a8 a9 a10 a11 a12 a13 a14
  | none => none
theorem bd14_ob {A1 A2 A3 A4 A5 A6 A7 A8 A9 A10 A11 A12 A13 A14 γ : Type} {x : Option (A1 × A2 × A3 × A4 × A5 × A6 × A7 × A8 × A9 × A10 × A11 × A12 × A13 × A14)} {B : A1 → A2 → A3 → A4 → A5 → A6 → A7 → A8 → A9 → A10 → A11 → A12 → A13 → A14 → Option γ} {r : γ} (h : bd14 x B = some r) : ∃ a1 a2 a3 a4 a5 a6 a7 a8 a9 a10 a11 a12 a13 a14, x = some (a1, a2, a3, a4, a5, a6, a7, a8, a9, a10, a11, a12, a13, a14) ∧ B a1 a2 a3 a4 a5 a6 a7 a8 a9 a10 a11 a12 a13 a14 = some r := by
  cases x with
  | none => cases h
  | some u =>
    obtain ⟨a1, a2, a3, a4, a5, a6, a7, a8, a9, a10, a11, a12, a13, a14⟩ := u
    exact ⟨a1, a2, a3, a4, a5, a6, a7, a8, a9, a10, a11, a12, a13, a14, rfl, h⟩
theorem bd14_eq {A1 A2 A3 A4 A5 A6 A7 A8 A9 A10 A11 A12 A13 A14 γ : Type} {x : Option (A1 × A2 × A3 × A4 × A5 × A6 × A7 × A8 × A9 × A10 × A11 × A12 × A13 × A14)} {B : A1 → A2 → A3 → A4 → A5 → A6 → A7 → A8 → A9 → A10 → A11 → A12 → A13 → A14 → Option γ} {a1 : A1} {a2 : A2} {a3 : A3} {a4 : A4} {a5 : A5} {a6 : A6} {a7 : A7} {a8 : A8} {a9 : A9} {a10 : A10} {a11 : A11} {a12 : A12} {a13 : A13} {a14 : A14} (h : x = some (a1, a2, a3, a4, a5, a6, a7, a8, a9, a10, a11, a12, a13, a14)) : bd14 x B = B a1 a2 a3 a4 a5 a6 a7 a8 a9 a10 a11 a12 a13 a14 := by
  subst h
  rfl
end
section
/-! PURE PROGRAMS, laid by program out of the bytecode: f_.. a method, l_.. a loop. -/
def f_X6_isIn (N : Nat)  (v0 : Int32) (v1 : Int32) (v2 : Int32) : Option (Int32) :=
  if v0 < v1 then
    gd (bz (0 : Int32)) <|
    some ((0 : Int32))
  else
    if v2 < v0 then
      gd (bz (0 : Int32)) <|
      some ((0 : Int32))
    else
      gd (bz (1 : Int32)) <|
      some ((1 : Int32))
def f_X4_hasRoomFor (N : Nat) (W_count : Int32) (v1 : Int32) : Option (Int32) :=
  if (400 - W_count) < v1 then
    gd (bz (0 : Int32)) <|
    some ((0 : Int32))
  else
    gd (bz (1 : Int32)) <|
    some ((1 : Int32))
def f_X4_add (N : Nat) (W_sorts : (Nat → Int32)) (W_values : (Nat → Int32)) (W_count : Int32) (v1 : Int32) (v2 : Int32) : Option ((Nat → Int32) × (Nat → Int32) × Int32) :=
  if (400 : Int32) ≤ W_count then
    some (W_sorts, W_values, W_count)
  else
    gd (ix W_count 400) <|
    gd (ix W_count 400) <|
    nl (W_count + 1) fun x4 =>
    some ((upd W_sorts W_count.toNatClampNeg v1), (upd W_values W_count.toNatClampNeg v2), x4)
def f_X6_give (N : Nat) (W_sorts : (Nat → Int32)) (W_values : (Nat → Int32)) (W_count : Int32) (v1 : Int32) (v2 : Int32) : Option (Int32 × (Nat → Int32) × (Nat → Int32) × Int32) :=
  bd1 (f_X6_isIn N v1 (0 : Int32) (3 : Int32)) fun r1 =>
  if r1 = 0 then
    some ((-1 : Int32), W_sorts, W_values, W_count)
  else
    bd1 (f_X6_isIn N v2 (-100000 : Int32) (100000 : Int32)) fun r4 =>
    if r4 = 0 then
      some ((-1 : Int32), W_sorts, W_values, W_count)
    else
      bd1 (f_X4_hasRoomFor N W_count (1 : Int32)) fun r7 =>
      if r7 = 0 then
        some ((-1 : Int32), W_sorts, W_values, W_count)
      else
        bd3 (f_X4_add N W_sorts W_values W_count v1 v2) fun c10 c11 c12 =>
        some ((c12 - 1), c10, c11, c12)
def l_X6_sow_62 (N : Nat) (v1 : Int32) (v2 : Int32) (v4 : Int32) (v5 : Int32) : Nat → Int32 → Int32 → (Nat → Int32) → (Nat → Int32) → Int32 → Option ((Nat → Int32) × (Nat → Int32) × Int32)
  | 0, _, _, _, _, _ => none
  | n + 1, v6, v7, W_sorts, W_values, W_count =>
    if v2 ≤ v7 then
      some (W_sorts, W_values, W_count)
    else
      nl ((1103515245 * v6) + 12345) fun x17 =>
      gd (nz v5) <|
      bd3 (f_X4_add N W_sorts W_values W_count v1 ((W_count * v4) + ((x17.toUInt32 >>> (((8 : Int32)).toUInt32 &&& Int32.toUInt32 31)).toInt32 - (x17.toUInt32 >>> (((8 : Int32)).toUInt32 &&& Int32.toUInt32 31)).toInt32 / v5 * v5))) fun c19 c20 c21 =>
      nl (v7 + 1) fun x23 =>
      l_X6_sow_62 N v1 v2 v4 v5 n x17 x23 c19 c20 c21
def f_X6_sow (N : Nat) (W_sorts : (Nat → Int32)) (W_values : (Nat → Int32)) (W_count : Int32) (v1 : Int32) (v2 : Int32) (v3 : Int32) (v4 : Int32) (v5 : Int32) : Option (Int32 × (Nat → Int32) × (Nat → Int32) × Int32) :=
  bd1 (f_X6_isIn N v1 (0 : Int32) (3 : Int32)) fun r1 =>
  if r1 = 0 then
    some ((-1 : Int32), W_sorts, W_values, W_count)
  else
    bd1 (f_X6_isIn N v2 (1 : Int32) (100 : Int32)) fun r4 =>
    if r4 = 0 then
      some ((-1 : Int32), W_sorts, W_values, W_count)
    else
      bd1 (f_X6_isIn N v4 (-100 : Int32) (100 : Int32)) fun r7 =>
      if r7 = 0 then
        some ((-1 : Int32), W_sorts, W_values, W_count)
      else
        bd1 (f_X6_isIn N v5 (1 : Int32) (10000 : Int32)) fun r10 =>
        if r10 = 0 then
          some ((-1 : Int32), W_sorts, W_values, W_count)
        else
          bd1 (f_X4_hasRoomFor N W_count v2) fun r13 =>
          if r13 = 0 then
            some ((-1 : Int32), W_sorts, W_values, W_count)
          else
            bd3 (l_X6_sow_62 N v1 v2 v4 v5 N v3 (0 : Int32) W_sorts W_values W_count) fun e24 e25 e26 =>
            some (e26, e24, e25, e26)
def f_X5_forget (N : Nat) (R_rowsInAll : Int32) (R_made : Int32) (R_all : Int32) (R_filled : Int32)  : Option (Int32 × Int32 × Int32 × Int32) :=
  some (0, 0, 0, 0)
def f_X3_forget (N : Nat) (P_merges : Int32) (P_told : Int32)  : Option (Int32 × Int32) :=
  some (0, 0)
def l_X0_forget_32 (N : Nat)  : Nat → Int32 → (Nat → Int32) → Option ((Nat → Int32))
  | 0, _, _ => none
  | n + 1, v1, C_mergedBy =>
    if (8 : Int32) ≤ v1 then
      some (C_mergedBy)
    else
      gd (ix v1 8) <|
      nl (v1 + 1) fun x3 =>
      l_X0_forget_32 N n x3 (upd C_mergedBy v1.toNatClampNeg 0)
def f_X0_forget (N : Nat) (C_mergedBy : (Nat → Int32)) (C_parts : Int32) (C_samples : Int32) (C_bound : Int32) (C_ticks : Int32) (C_mergedInAll : Int32) (C_mergedAgain : Int32)  : Option ((Nat → Int32) × Int32 × Int32 × Int32 × Int32 × Int32 × Int32) :=
  bd1 (l_X0_forget_32 N N (0 : Int32) C_mergedBy) fun e4 =>
  some (e4, 0, 0, 0, 0, 0, 0)
def f_X6_forgetRuns (N : Nat) (R_rowsInAll : Int32) (R_made : Int32) (R_all : Int32) (R_filled : Int32) (P_merges : Int32) (P_told : Int32) (C_mergedBy : (Nat → Int32)) (C_parts : Int32) (C_samples : Int32) (C_bound : Int32) (C_ticks : Int32) (C_mergedInAll : Int32) (C_mergedAgain : Int32)  : Option (Int32 × Int32 × Int32 × Int32 × Int32 × Int32 × (Nat → Int32) × Int32 × Int32 × Int32 × Int32 × Int32 × Int32) :=
  bd4 (f_X5_forget N R_rowsInAll R_made R_all R_filled) fun c1 c2 c3 c4 =>
  bd2 (f_X3_forget N P_merges P_told) fun c6 c7 =>
  bd7 (f_X0_forget N C_mergedBy C_parts C_samples C_bound C_ticks C_mergedInAll C_mergedAgain) fun c9 c10 c11 c12 c13 c14 c15 =>
  some (c1, c2, c3, c4, c6, c7, c9, c10, c11, c12, c13, c14, c15)
def f_X6_clear (N : Nat) (W_count : Int32) (R_rowsInAll : Int32) (R_made : Int32) (R_all : Int32) (R_filled : Int32) (P_merges : Int32) (P_told : Int32) (C_mergedBy : (Nat → Int32)) (C_parts : Int32) (C_samples : Int32) (C_bound : Int32) (C_ticks : Int32) (C_mergedInAll : Int32) (C_mergedAgain : Int32)  : Option (Int32 × Int32 × Int32 × Int32 × Int32 × Int32 × Int32 × Int32 × (Nat → Int32) × Int32 × Int32 × Int32 × Int32 × Int32 × Int32) :=
  bd13 (f_X6_forgetRuns N R_rowsInAll R_made R_all R_filled P_merges P_told C_mergedBy C_parts C_samples C_bound C_ticks C_mergedInAll C_mergedAgain) fun c1 c2 c3 c4 c5 c6 c7 c8 c9 c10 c11 c12 c13 =>
  some (W_count, 0, c1, c2, c3, c4, c5, c6, c7, c8, c9, c10, c11, c12, c13)
def f_X6_isEachSortOnce (N : Nat)  (v0 : Int32) (v1 : Int32) (v2 : Int32) (v3 : Int32) : Option (Int32) :=
  bd1 (f_X6_isIn N v0 (0 : Int32) (3 : Int32)) fun r1 =>
  if r1 = 0 then
    gd (bz (0 : Int32)) <|
    some ((0 : Int32))
  else
    bd1 (f_X6_isIn N v1 (0 : Int32) (3 : Int32)) fun r5 =>
    if r5 = 0 then
      gd (bz (0 : Int32)) <|
      some ((0 : Int32))
    else
      bd1 (f_X6_isIn N v2 (0 : Int32) (3 : Int32)) fun r9 =>
      if r9 = 0 then
        gd (bz (0 : Int32)) <|
        some ((0 : Int32))
      else
        bd1 (f_X6_isIn N v3 (0 : Int32) (3 : Int32)) fun r13 =>
        if r13 = 0 then
          gd (bz (0 : Int32)) <|
          some ((0 : Int32))
        else
          if v0 = v1 then
            gd (bz (0 : Int32)) <|
            some ((0 : Int32))
          else
            if v0 = v2 then
              gd (bz (0 : Int32)) <|
              some ((0 : Int32))
            else
              if v0 = v3 then
                gd (bz (0 : Int32)) <|
                some ((0 : Int32))
              else
                if v1 = v2 then
                  gd (bz (0 : Int32)) <|
                  some ((0 : Int32))
                else
                  if v1 = v3 then
                    gd (bz (0 : Int32)) <|
                    some ((0 : Int32))
                  else
                    if v2 = v3 then
                      gd (bz (0 : Int32)) <|
                      some ((0 : Int32))
                    else
                      gd (bz (1 : Int32)) <|
                      some ((1 : Int32))
def f_X6_order (N : Nat) (W_turns : (Nat → Int32)) (R_made : Int32) (v1 : Int32) (v2 : Int32) (v3 : Int32) (v4 : Int32) : Option (Int32 × (Nat → Int32)) :=
  if 0 < R_made then
    gd (bz (0 : Int32)) <|
    some ((0 : Int32), W_turns)
  else
    bd1 (f_X6_isEachSortOnce N v1 v2 v3 v4) fun r3 =>
    if r3 = 0 then
      gd (bz (0 : Int32)) <|
      some ((0 : Int32), W_turns)
    else
      gd (ix v1 4) <|
      gd (ix v2 4) <|
      gd (ix v3 4) <|
      gd (ix v4 4) <|
      gd (bz (1 : Int32)) <|
      some ((1 : Int32), (upd (upd (upd (upd W_turns v1.toNatClampNeg 0) v2.toNatClampNeg 1) v3.toNatClampNeg 2) v4.toNatClampNeg 3))
def f_X6_falls (N : Nat) (W_falling : (Nat → Int32)) (R_made : Int32) (v1 : Int32) (v2 : Int32) : Option (Int32 × (Nat → Int32)) :=
  if 0 < R_made then
    gd (bz (0 : Int32)) <|
    some ((0 : Int32), W_falling)
  else
    bd1 (f_X6_isIn N v1 (0 : Int32) (3 : Int32)) fun r3 =>
    if r3 = 0 then
      gd (bz (0 : Int32)) <|
      some ((0 : Int32), W_falling)
    else
      gd (ix v1 4) <|
      gd (bz (1 : Int32)) <|
      some ((1 : Int32), (upd W_falling v1.toNatClampNeg (vp_nar .boolean v2)))
def f_X4_has (N : Nat) (W_count : Int32) (v1 : Int32) : Option (Int32) :=
  bd1 (f_X6_isIn N v1 (0 : Int32) (W_count - 1)) fun r1 =>
  gd (bz r1) <|
  some (r1)
def f_X6_row (N : Nat) (W_sorts : (Nat → Int32)) (W_values : (Nat → Int32)) (W_count : Int32) (v1 : Int32) (v2 : Int32) : Option (Int32) :=
  bd1 (f_X4_has N W_count v1) fun r1 =>
  if r1 = 0 then
    some ((-1000000 : Int32))
  else
    if v2 = 0 then
      gd (ix v1 400) <|
      some ((W_sorts v1.toNatClampNeg))
    else
      if v2 = 1 then
        gd (ix v1 400) <|
        some ((W_values v1.toNatClampNeg))
      else
        some ((-1000000 : Int32))
def f_X4_placeOf (N : Nat) (W_sorts : (Nat → Int32)) (W_values : (Nat → Int32)) (W_turns : (Nat → Int32)) (W_falling : (Nat → Int32)) (W_count : Int32) (v1 : Int32) : Option (Int32) :=
  bd1 (f_X4_has N W_count v1) fun r1 =>
  if r1 = 0 then
    some ((320001600 : Int32))
  else
    gd (ix v1 400) <|
    nl (W_sorts v1.toNatClampNeg) fun x5 =>
    gd (ix x5 4) <|
    bd1 (if (W_falling x5.toNatClampNeg) = 0 then
        gd (ix v1 400) <|
        some ((W_values v1.toNatClampNeg))
      else
        gd (ix v1 400) <|
        some ((-(W_values v1.toNatClampNeg))))
      fun y7 =>
    gd (ix x5 4) <|
    some (((((((W_turns x5.toNatClampNeg) * 200001) + y7) + 100000) * 400) + v1))
def f_J6_compare_7cf53 (N : Nat)  (v0 : Int32) (v1 : Int32) : Option (Int32) :=
  if v1 ≤ v0 then
    if v0 = v1 then
      some ((0 : Int32))
    else
      some ((1 : Int32))
  else
    some ((-1 : Int32))
def f_X6_against (N : Nat) (W_sorts : (Nat → Int32)) (W_values : (Nat → Int32)) (W_turns : (Nat → Int32)) (W_falling : (Nat → Int32)) (W_count : Int32) (v1 : Int32) (v2 : Int32) : Option (Int32) :=
  bd1 (f_X4_has N W_count v1) fun r1 =>
  if r1 = 0 then
    some ((-2 : Int32))
  else
    bd1 (f_X4_has N W_count v2) fun r4 =>
    if r4 = 0 then
      some ((-2 : Int32))
    else
      bd1 (f_X4_placeOf N W_sorts W_values W_turns W_falling W_count v1) fun r7 =>
      bd1 (f_X4_placeOf N W_sorts W_values W_turns W_falling W_count v2) fun r9 =>
      bd1 (f_J6_compare_7cf53 N r7 r9) fun r11 =>
      some (r11)
def l_X6_rank_27 (N : Nat) (W_sorts : (Nat → Int32)) (W_values : (Nat → Int32)) (W_turns : (Nat → Int32)) (W_falling : (Nat → Int32)) (W_count : Int32) (v2 : Int32) : Nat → Int32 → Int32 → Option (Int32)
  | 0, _, _ => none
  | n + 1, v3, v4 =>
    if W_count ≤ v4 then
      some (v3)
    else
      bd1 (f_X4_placeOf N W_sorts W_values W_turns W_falling W_count v4) fun r7 =>
      if v2 ≤ r7 then
        nl (v4 + 1) fun x10 =>
        l_X6_rank_27 N W_sorts W_values W_turns W_falling W_count v2 n v3 x10
      else
        nl (v3 + 1) fun x11 =>
        nl (v4 + 1) fun x12 =>
        l_X6_rank_27 N W_sorts W_values W_turns W_falling W_count v2 n x11 x12
def f_X6_rank (N : Nat) (W_sorts : (Nat → Int32)) (W_values : (Nat → Int32)) (W_turns : (Nat → Int32)) (W_falling : (Nat → Int32)) (W_count : Int32) (v1 : Int32) : Option (Int32) :=
  bd1 (f_X4_has N W_count v1) fun r1 =>
  if r1 = 0 then
    some ((-1 : Int32))
  else
    bd1 (f_X4_placeOf N W_sorts W_values W_turns W_falling W_count v1) fun r4 =>
    bd1 (l_X6_rank_27 N W_sorts W_values W_turns W_falling W_count r4 N (0 : Int32) (0 : Int32)) fun e13 =>
    some (e13)
def f_X1_forget (N : Nat) (H_size : Int32)  : Option (Int32) :=
  some (0)
def l_X1_add_28 (N : Nat) (v1 : Int64) : Nat → Int32 → (Nat → Int64) → Option (Int32 × (Nat → Int64))
  | 0, _, _ => none
  | n + 1, v3, H_items =>
    if v3 ≤ 0 then
      some (v3, H_items)
    else
      nl ((v3 - 1) / 2) fun x4 =>
      gd (ix x4 400) <|
      if v1 < (H_items x4.toNatClampNeg) then
        gd (ix x4 400) <|
        nl (H_items x4.toNatClampNeg) fun x8 =>
        gd (ix v3 400) <|
        l_X1_add_28 N v1 n x4 (vp_updL H_items v3.toNatClampNeg x8)
      else
        some (v3, H_items)
def f_X1_add (N : Nat) (H_items : (Nat → Int64)) (H_size : Int32) (v1 : Int64) : Option ((Nat → Int64) × Int32) :=
  if H_size < (400 : Int32) then
    nl (H_size + 1) fun x2 =>
    bd2 (l_X1_add_28 N v1 N H_size H_items) fun e10 e11 =>
    gd (ix e10 400) <|
    some ((vp_updL e11 e10.toNatClampNeg v1), x2)
  else
    some (H_items, H_size)
def l_X1_sink_5 (N : Nat) (H_size : Int32) (v1 : Int64) : Nat → Int32 → Int32 → (Nat → Int64) → Option (Int32 × (Nat → Int64))
  | 0, _, _, _ => none
  | n + 1, v3, v4, H_items =>
    if H_size ≤ v4 then
      some (v3, H_items)
    else
      nl (v4 + 1) fun x2 =>
      bd1 (if H_size ≤ x2 then
          some (v4)
        else
          gd (ix x2 400) <|
          gd (ix v4 400) <|
          if (H_items v4.toNatClampNeg) ≤ (H_items x2.toNatClampNeg) then
            some (v4)
          else
            some (x2))
        fun y3 =>
      gd (ix y3 400) <|
      if (H_items y3.toNatClampNeg) < v1 then
        gd (ix y3 400) <|
        nl (H_items y3.toNatClampNeg) fun x8 =>
        gd (ix v3 400) <|
        nl ((2 * y3) + 1) fun x10 =>
        l_X1_sink_5 N H_size v1 n y3 x10 (vp_updL H_items v3.toNatClampNeg x8)
      else
        some (v3, H_items)
def f_X1_sink (N : Nat) (H_items : (Nat → Int64)) (H_size : Int32) (v1 : Int64) : Option ((Nat → Int64)) :=
  bd2 (l_X1_sink_5 N H_size v1 N (0 : Int32) (1 : Int32) H_items) fun e15 e16 =>
  gd (ix e15 400) <|
  some ((vp_updL e16 e15.toNatClampNeg v1))
def f_X1_takeLeast (N : Nat) (H_items : (Nat → Int64)) (H_size : Int32)  : Option (Int64 × (Nat → Int64) × Int32) :=
  if H_size = 0 then
    some ((0 : Int64), H_items, H_size)
  else
    gd (ix (0 : Int32) 400) <|
    nl (H_items (0 : Int32).toNatClampNeg) fun x3 =>
    nl (H_size - 1) fun x4 =>
    gd (ix x4 400) <|
    bd1 (f_X1_sink N H_items x4 (H_items x4.toNatClampNeg)) fun c6 =>
    some (x3, c6, x4)
def f_X4_rowOf (N : Nat)  (v0 : Int64) : Option (Int32) :=
  some (((v0 - v0 / 400 * 400).toInt32))
def l_X5_putInOrder_6 (N : Nat) (W_sorts : (Nat → Int32)) (W_values : (Nat → Int32)) (W_turns : (Nat → Int32)) (W_falling : (Nat → Int32)) (W_count : Int32) (R_rowsInAll : Int32) : Nat → Int32 → (Nat → Int64) → Int32 → Option ((Nat → Int64) × Int32)
  | 0, _, _, _ => none
  | n + 1, v3, H_items, H_size =>
    if R_rowsInAll ≤ v3 then
      some (H_items, H_size)
    else
      bd1 (f_X4_placeOf N W_sorts W_values W_turns W_falling W_count v3) fun r4 =>
      bd2 (f_X1_add N H_items H_size (r4.toInt64)) fun c6 c7 =>
      nl (v3 + 1) fun x9 =>
      l_X5_putInOrder_6 N W_sorts W_values W_turns W_falling W_count R_rowsInAll n x9 c6 c7
def l_X5_putInOrder_32 (N : Nat) (R_rowsInAll : Int32) : Nat → Int32 → (Nat → Int64) → Int32 → (Nat → Int32) → (Nat → Int32) → Option ((Nat → Int64) × Int32 × (Nat → Int32) × (Nat → Int32))
  | 0, _, _, _, _, _ => none
  | n + 1, v3, H_items, H_size, R_inOrder, R_standing =>
    if R_rowsInAll ≤ v3 then
      some (H_items, H_size, R_inOrder, R_standing)
    else
      bd3 (f_X1_takeLeast N H_items H_size) fun r14 c15 c16 =>
      bd1 (f_X4_rowOf N r14) fun r18 =>
      gd (ix v3 400) <|
      gd (ix r18 400) <|
      nl (v3 + 1) fun x22 =>
      l_X5_putInOrder_32 N R_rowsInAll n x22 c15 c16 (upd R_inOrder v3.toNatClampNeg r18) (upd R_standing r18.toNatClampNeg v3)
def f_X5_putInOrder (N : Nat) (W_sorts : (Nat → Int32)) (W_values : (Nat → Int32)) (W_turns : (Nat → Int32)) (W_falling : (Nat → Int32)) (W_count : Int32) (H_items : (Nat → Int64)) (H_size : Int32) (R_inOrder : (Nat → Int32)) (R_standing : (Nat → Int32)) (R_rowsInAll : Int32)  : Option ((Nat → Int64) × Int32 × (Nat → Int32) × (Nat → Int32)) :=
  bd1 (f_X1_forget N H_size) fun c1 =>
  bd2 (l_X5_putInOrder_6 N W_sorts W_values W_turns W_falling W_count R_rowsInAll N (0 : Int32) H_items c1) fun e10 e11 =>
  bd4 (l_X5_putInOrder_32 N R_rowsInAll N (0 : Int32) e10 e11 R_inOrder R_standing) fun e23 e24 e25 e26 =>
  some (e23, e24, e25, e26)
def f_X5_begin (N : Nat) (R_starts : (Nat → Int32)) (R_all : Int32) (R_filled : Int32)  : Option ((Nat → Int32) × Int32) :=
  if (799 : Int32) ≤ R_all then
    some (R_starts, R_all)
  else
    gd (ix R_all 800) <|
    nl (R_all + 1) fun x3 =>
    gd (ix x3 800) <|
    some ((upd (upd R_starts R_all.toNatClampNeg R_filled) x3.toNatClampNeg R_filled), x3)
def f_X5_append (N : Nat) (R_members : (Nat → Int32)) (R_starts : (Nat → Int32)) (R_all : Int32) (R_filled : Int32) (v1 : Int32) : Option ((Nat → Int32) × (Nat → Int32) × Int32) :=
  if (4000 : Int32) ≤ R_filled then
    some (R_members, R_starts, R_filled)
  else
    gd (ix R_filled 4000) <|
    nl (R_filled + 1) fun x3 =>
    gd (ix R_all 800) <|
    some ((upd R_members R_filled.toNatClampNeg v1), (upd R_starts R_all.toNatClampNeg x3), x3)
def l_X5_select_17 (N : Nat) (W_sorts : (Nat → Int32)) (W_values : (Nat → Int32)) (W_turns : (Nat → Int32)) (W_falling : (Nat → Int32)) (W_count : Int32) (v4 : Int32) : Nat → Int32 → (Nat → Int64) → Int32 → Option ((Nat → Int64) × Int32)
  | 0, _, _, _ => none
  | n + 1, v5, H_items, H_size =>
    if v4 ≤ v5 then
      some (H_items, H_size)
    else
      bd1 (f_X4_placeOf N W_sorts W_values W_turns W_falling W_count v5) fun r5 =>
      bd2 (f_X1_add N H_items H_size (r5.toInt64)) fun c7 c8 =>
      nl (v5 + 1) fun x10 =>
      l_X5_select_17 N W_sorts W_values W_turns W_falling W_count v4 n x10 c7 c8
def l_X5_select_44 (N : Nat) (W_sorts : (Nat → Int32)) (W_values : (Nat → Int32)) (W_turns : (Nat → Int32)) (W_falling : (Nat → Int32)) (W_count : Int32) (R_rowsInAll : Int32) : Nat → Int32 → Int32 → (Nat → Int64) → Int32 → (Nat → Int32) → (Nat → Int32) → Int32 → Int32 → Option ((Nat → Int64) × Int32 × (Nat → Int32) × (Nat → Int32) × Int32 × Int32)
  | 0, _, _, _, _, _, _, _, _ => none
  | n + 1, v4, v5, H_items, H_size, R_members, R_starts, R_all, R_filled =>
    if R_rowsInAll ≤ v5 then
      some (H_items, H_size, R_members, R_starts, R_all, R_filled)
    else
      bd3 (f_X1_takeLeast N H_items H_size) fun r15 c16 c17 =>
      nl (r15 / 320001600) fun x19 =>
      bd2 (if x19 < (R_all.toInt64) then
          some (R_starts, R_all)
        else
          bd2 (f_X5_begin N R_starts R_all R_filled) fun c42 c43 =>
          some (c42, c43))
        fun y20 y21 =>
      bd1 (f_X4_rowOf N r15) fun r23 =>
      bd3 (f_X5_append N R_members y20 y21 R_filled r23) fun c25 c26 c27 =>
      if R_rowsInAll ≤ v4 then
        nl (v5 + 1) fun x30 =>
        l_X5_select_44 N W_sorts W_values W_turns W_falling W_count R_rowsInAll n v4 x30 c16 c17 c25 c26 y21 c27
      else
        bd1 (f_X4_placeOf N W_sorts W_values W_turns W_falling W_count v4) fun r31 =>
        bd1 (if (r15 - r15 / 320001600 * 320001600) ≤ (r31.toInt64) then
            some (x19)
          else
            some ((x19 + 1)))
          fun y33 =>
        bd2 (f_X1_add N c16 c17 (r31.toInt64 + (320001600 * y33))) fun c35 c36 =>
        nl (v4 + 1) fun x38 =>
        nl (v5 + 1) fun x39 =>
        l_X5_select_44 N W_sorts W_values W_turns W_falling W_count R_rowsInAll n x38 x39 c35 c36 c25 c26 y21 c27
def f_X5_select (N : Nat) (W_sorts : (Nat → Int32)) (W_values : (Nat → Int32)) (W_turns : (Nat → Int32)) (W_falling : (Nat → Int32)) (W_count : Int32) (H_items : (Nat → Int64)) (H_size : Int32) (R_members : (Nat → Int32)) (R_starts : (Nat → Int32)) (R_rowsInAll : Int32) (R_all : Int32) (R_filled : Int32) (v2 : Int32) : Option ((Nat → Int64) × Int32 × (Nat → Int32) × (Nat → Int32) × Int32 × Int32) :=
  bd1 (f_X1_forget N H_size) fun c1 =>
  nl (if R_rowsInAll < v2 then R_rowsInAll else v2) fun x3 =>
  bd2 (l_X5_select_17 N W_sorts W_values W_turns W_falling W_count x3 N (0 : Int32) H_items c1) fun e11 e12 =>
  bd6 (l_X5_select_44 N W_sorts W_values W_turns W_falling W_count R_rowsInAll N x3 (0 : Int32) e11 e12 R_members R_starts R_all R_filled) fun e45 e46 e47 e48 e49 e50 =>
  some (e45, e46, e47, e48, e49, e50)
def f_X5_makeOf (N : Nat) (W_sorts : (Nat → Int32)) (W_values : (Nat → Int32)) (W_turns : (Nat → Int32)) (W_falling : (Nat → Int32)) (W_count : Int32) (H_items : (Nat → Int64)) (H_size : Int32) (R_members : (Nat → Int32)) (R_starts : (Nat → Int32)) (R_inOrder : (Nat → Int32)) (R_standing : (Nat → Int32)) (R_rowsInAll : Int32) (R_made : Int32) (R_all : Int32) (R_filled : Int32) (v2 : Int32) : Option ((Nat → Int64) × Int32 × (Nat → Int32) × (Nat → Int32) × (Nat → Int32) × (Nat → Int32) × Int32 × Int32 × Int32 × Int32) :=
  bd4 (f_X5_putInOrder N W_sorts W_values W_turns W_falling W_count H_items H_size R_inOrder R_standing W_count) fun c1 c2 c3 c4 =>
  bd6 (f_X5_select N W_sorts W_values W_turns W_falling W_count c1 c2 R_members R_starts W_count R_all R_filled v2) fun c6 c7 c8 c9 c10 c11 =>
  some (c6, c7, c8, c9, c3, c4, W_count, c10, c10, c11)
def f_X6_runs (N : Nat) (W_sorts : (Nat → Int32)) (W_values : (Nat → Int32)) (W_turns : (Nat → Int32)) (W_falling : (Nat → Int32)) (W_count : Int32) (H_items : (Nat → Int64)) (H_size : Int32) (R_members : (Nat → Int32)) (R_starts : (Nat → Int32)) (R_inOrder : (Nat → Int32)) (R_standing : (Nat → Int32)) (R_rowsInAll : Int32) (R_made : Int32) (R_all : Int32) (R_filled : Int32) (P_merges : Int32) (P_told : Int32) (C_mergedBy : (Nat → Int32)) (C_parts : Int32) (C_samples : Int32) (C_bound : Int32) (C_ticks : Int32) (C_mergedInAll : Int32) (C_mergedAgain : Int32) (v1 : Int32) : Option (Int32 × (Nat → Int64) × Int32 × (Nat → Int32) × (Nat → Int32) × (Nat → Int32) × (Nat → Int32) × Int32 × Int32 × Int32 × Int32 × Int32 × Int32 × (Nat → Int32) × Int32 × Int32 × Int32 × Int32 × Int32 × Int32) :=
  bd1 (f_X6_isIn N v1 (1 : Int32) (40 : Int32)) fun r1 =>
  if r1 = 0 then
    some ((-1 : Int32), H_items, H_size, R_members, R_starts, R_inOrder, R_standing, R_rowsInAll, R_made, R_all, R_filled, P_merges, P_told, C_mergedBy, C_parts, C_samples, C_bound, C_ticks, C_mergedInAll, C_mergedAgain)
  else
    bd13 (f_X6_forgetRuns N R_rowsInAll R_made R_all R_filled P_merges P_told C_mergedBy C_parts C_samples C_bound C_ticks C_mergedInAll C_mergedAgain) fun c4 c5 c6 c7 c8 c9 c10 c11 c12 c13 c14 c15 c16 =>
    bd10 (f_X5_makeOf N W_sorts W_values W_turns W_falling W_count H_items H_size R_members R_starts R_inOrder R_standing c4 c5 c6 c7 v1) fun c18 c19 c20 c21 c22 c23 c24 c25 c26 c27 =>
    some (c25, c18, c19, c20, c21, c22, c23, c24, c25, c26, c27, c8, c9, c10, c11, c12, c13, c14, c15, c16)
def f_X5_has (N : Nat) (R_all : Int32) (v1 : Int32) : Option (Int32) :=
  bd1 (f_X6_isIn N v1 (0 : Int32) (R_all - 1)) fun r1 =>
  gd (bz r1) <|
  some (r1)
def f_X5_sizeOf (N : Nat) (R_starts : (Nat → Int32)) (R_all : Int32) (v1 : Int32) : Option (Int32) :=
  bd1 (f_X5_has N R_all v1) fun r1 =>
  if r1 = 0 then
    some ((0 : Int32))
  else
    gd (ix (v1 + 1) 800) <|
    gd (ix v1 800) <|
    some (((R_starts (v1 + 1).toNatClampNeg) - (R_starts v1.toNatClampNeg)))
def f_X6_length (N : Nat) (R_starts : (Nat → Int32)) (R_all : Int32) (v1 : Int32) : Option (Int32) :=
  bd1 (f_X5_has N R_all v1) fun r1 =>
  if r1 = 0 then
    some ((-1 : Int32))
  else
    bd1 (f_X5_sizeOf N R_starts R_all v1) fun r4 =>
    some (r4)
def f_X5_rowIn (N : Nat) (R_members : (Nat → Int32)) (R_starts : (Nat → Int32)) (R_all : Int32) (v1 : Int32) (v2 : Int32) : Option (Int32) :=
  bd1 (f_X5_sizeOf N R_starts R_all v1) fun r1 =>
  bd1 (f_X6_isIn N v2 (0 : Int32) (r1 - 1)) fun r3 =>
  if r3 = 0 then
    some ((-1 : Int32))
  else
    gd (ix v1 800) <|
    gd (ix ((R_starts v1.toNatClampNeg) + v2) 4000) <|
    some ((R_members ((R_starts v1.toNatClampNeg) + v2).toNatClampNeg))
def f_X6_at (N : Nat) (R_members : (Nat → Int32)) (R_starts : (Nat → Int32)) (R_all : Int32) (v1 : Int32) (v2 : Int32) : Option (Int32) :=
  bd1 (f_X5_rowIn N R_members R_starts R_all v1 v2) fun r1 =>
  some (r1)
def f_X5_forgetMerged (N : Nat) (R_rowsInAll : Int32) (R_made : Int32) (R_all : Int32) (R_filled : Int32)  : Option (Int32 × Int32) :=
  some (R_made, R_rowsInAll)
def f_X3_sized (N : Nat)  (v0 : Int32) (v1 : Int32) : Option (Int64) :=
  some (((v0.toInt64 * 799) + v1.toInt64))
def f_X3_waysOf (N : Nat)  (v0 : Int32) (v1 : Int32) (v2 : Int32) : Option (Int32) :=
  if 0 < v0 then
    some (v2)
  else
    if (2 : Int32) ≤ v2 then
      gd (nz (v2 - 1)) <|
      some ((2 + ((v1 - 2) - (v1 - 2) / (v2 - 1) * (v2 - 1))))
    else
      some (v2)
def f_X3_mergesOf (N : Nat)  (v0 : Int32) (v1 : Int32) : Option (Int32) :=
  if v0 < (2 : Int32) then
    some ((0 : Int32))
  else
    if (2 : Int32) ≤ v1 then
      bd1 (f_X3_waysOf N (0 : Int32) v0 v1) fun r3 =>
      gd (nz (v1 - 1)) <|
      some ((1 + ((v0 - r3) / (v1 - 1))))
    else
      some ((0 : Int32))
def l_X3_takeFewest_14 (N : Nat) (v2 : Int32) : Nat → Int32 → Int32 → Int32 → (Nat → Int64) → Int32 → (Nat → Int32) → Option (Int32 × Int32 × (Nat → Int64) × Int32 × (Nat → Int32))
  | 0, _, _, _, _, _, _ => none
  | n + 1, v4, v5, v6, H_items, H_size, P_takenRuns =>
    if v2 ≤ v6 then
      some (v4, v5, H_items, H_size, P_takenRuns)
    else
      if (800 : Int32) ≤ v5 then
        some (v4, v5, H_items, H_size, P_takenRuns)
      else
        bd3 (f_X1_takeLeast N H_items H_size) fun r5 c6 c7 =>
        nl ((r5 - r5 / 799 * 799).toInt32) fun x9 =>
        gd (ix v5 800) <|
        nl (v4 + (r5 / 799).toInt32) fun x11 =>
        nl (v5 + 1) fun x12 =>
        nl (v6 + 1) fun x13 =>
        l_X3_takeFewest_14 N v2 n x11 x12 x13 c6 c7 (upd P_takenRuns v5.toNatClampNeg x9)
def f_X3_takeFewest (N : Nat) (H_items : (Nat → Int64)) (H_size : Int32) (P_takenRuns : (Nat → Int32)) (P_starts : (Nat → Int32)) (v1 : Int32) (v2 : Int32) : Option (Int32 × (Nat → Int64) × Int32 × (Nat → Int32) × (Nat → Int32)) :=
  gd (ix v1 401) <|
  nl (P_starts v1.toNatClampNeg) fun x2 =>
  bd5 (l_X3_takeFewest_14 N v2 N (0 : Int32) x2 (0 : Int32) H_items H_size P_takenRuns) fun e14 e15 e16 e17 e18 =>
  gd (ix (v1 + 1) 401) <|
  some (e14, e16, e17, e18, (upd P_starts (v1 + 1).toNatClampNeg e15))
def l_X3_tell_7 (N : Nat) (R_starts : (Nat → Int32)) (R_made : Int32) (R_all : Int32) : Nat → Int32 → (Nat → Int64) → Int32 → Option ((Nat → Int64) × Int32)
  | 0, _, _, _ => none
  | n + 1, v4, H_items, H_size =>
    if R_made ≤ v4 then
      some (H_items, H_size)
    else
      bd1 (f_X5_sizeOf N R_starts R_all v4) fun r4 =>
      bd1 (f_X3_sized N r4 v4) fun r6 =>
      bd2 (f_X1_add N H_items H_size r6) fun c8 c9 =>
      nl (v4 + 1) fun x11 =>
      l_X3_tell_7 N R_starts R_made R_all n x11 c8 c9
def l_X3_tell_66 (N : Nat) (R_made : Int32) (P_merges : Int32) (v2 : Int32) : Nat → Int32 → Int32 → (Nat → Int64) → Int32 → (Nat → Int32) → (Nat → Int32) → Option (Int32 × (Nat → Int64) × Int32 × (Nat → Int32) × (Nat → Int32))
  | 0, _, _, _, _, _, _ => none
  | n + 1, v4, v5, H_items, H_size, P_takenRuns, P_starts =>
    if P_merges ≤ v5 then
      some (v4, H_items, H_size, P_takenRuns, P_starts)
    else
      bd1 (f_X3_waysOf N v5 R_made v2) fun r19 =>
      bd5 (f_X3_takeFewest N H_items H_size P_takenRuns P_starts v5 r19) fun r21 c22 c23 c24 c25 =>
      bd1 (f_X3_sized N r21 (R_made + v5)) fun r27 =>
      bd2 (f_X1_add N c22 c23 r27) fun c29 c30 =>
      nl (v4 + r21) fun x32 =>
      nl (v5 + 1) fun x33 =>
      l_X3_tell_66 N R_made P_merges v2 n x32 x33 c29 c30 c24 c25
def f_X3_tell (N : Nat) (H_items : (Nat → Int64)) (H_size : Int32) (R_starts : (Nat → Int32)) (R_made : Int32) (R_all : Int32) (P_takenRuns : (Nat → Int32)) (P_starts : (Nat → Int32)) (P_merges : Int32) (P_told : Int32) (v2 : Int32) : Option (Int32 × (Nat → Int64) × Int32 × (Nat → Int32) × (Nat → Int32) × Int32 × Int32) :=
  bd1 (f_X1_forget N H_size) fun c1 =>
  bd2 (l_X3_tell_7 N R_starts R_made R_all N (0 : Int32) H_items c1) fun e12 e13 =>
  bd1 (f_X3_mergesOf N R_made v2) fun r15 =>
  nl (if (400 : Int32) < r15 then (400 : Int32) else r15) fun x17 =>
  bd5 (l_X3_tell_66 N R_made x17 v2 N (0 : Int32) (0 : Int32) e12 e13 P_takenRuns P_starts) fun e34 e35 e36 e37 e38 =>
  some (e34, e35, e36, e37, e38, x17, 1)
def f_X6_plan (N : Nat) (H_items : (Nat → Int64)) (H_size : Int32) (R_starts : (Nat → Int32)) (R_rowsInAll : Int32) (R_made : Int32) (R_all : Int32) (R_filled : Int32) (P_takenRuns : (Nat → Int32)) (P_starts : (Nat → Int32)) (P_merges : Int32) (P_told : Int32) (v1 : Int32) : Option (Int32 × (Nat → Int64) × Int32 × Int32 × Int32 × (Nat → Int32) × (Nat → Int32) × Int32 × Int32) :=
  if R_made = 0 then
    some ((-1 : Int32), H_items, H_size, R_all, R_filled, P_takenRuns, P_starts, P_merges, P_told)
  else
    bd1 (f_X6_isIn N v1 (2 : Int32) (8 : Int32)) fun r2 =>
    if r2 = 0 then
      some ((-1 : Int32), H_items, H_size, R_all, R_filled, P_takenRuns, P_starts, P_merges, P_told)
    else
      bd2 (f_X5_forgetMerged N R_rowsInAll R_made R_all R_filled) fun c5 c6 =>
      bd7 (f_X3_tell N H_items H_size R_starts R_made c5 P_takenRuns P_starts P_merges P_told v1) fun r8 c9 c10 c11 c12 c13 c14 =>
      some (r8, c9, c10, c5, c6, c11, c12, c13, c14)
def l_X3_movedByQueue_2 (N : Nat) (R_starts : (Nat → Int32)) (R_made : Int32) (R_all : Int32) : Nat → Int32 → (Nat → Int32) → Option ((Nat → Int32))
  | 0, _, _ => none
  | n + 1, v3, P_queued =>
    if R_made ≤ v3 then
      some (P_queued)
    else
      bd1 (f_X5_sizeOf N R_starts R_all v3) fun r2 =>
      gd (ix v3 799) <|
      nl (v3 + 1) fun x5 =>
      l_X3_movedByQueue_2 N R_starts R_made R_all n x5 (upd P_queued v3.toNatClampNeg r2)
def l_X3_movedByQueue_89 (N : Nat) (P_queued : (Nat → Int32)) (v6 : Int32) (v8 : Int32) : Nat → Int32 → Int32 → Option (Int32 × Int32)
  | 0, _, _ => none
  | n + 1, v4, v7 =>
    if v8 ≤ v4 then
      some (v4, v7)
    else
      if v6 ≤ v4 then
        some (v4, v7)
      else
        gd (ix v4 799) <|
        nl (v7 + (P_queued v4.toNatClampNeg)) fun x18 =>
        nl (v4 + 1) fun x19 =>
        l_X3_movedByQueue_89 N P_queued v6 v8 n x19 x18
def l_X3_movedByQueue_59 (N : Nat) (R_made : Int32) (v2 : Int32) (v5 : Int32) : Nat → Int32 → Int32 → Int32 → (Nat → Int32) → Option (Int32 × (Nat → Int32))
  | 0, _, _, _, _ => none
  | n + 1, v3, v4, v6, P_queued =>
    if v5 ≤ v6 then
      some (v3, P_queued)
    else
      bd1 (f_X3_waysOf N (v6 - R_made) R_made v2) fun r12 =>
      nl (v4 + r12) fun x14 =>
      bd2 (l_X3_movedByQueue_89 N P_queued v6 x14 N v4 (0 : Int32)) fun e20 e21 =>
      gd (ix v6 799) <|
      nl (v3 + e21) fun x24 =>
      nl (v6 + 1) fun x25 =>
      l_X3_movedByQueue_59 N R_made v2 v5 n x24 e20 x25 (upd P_queued v6.toNatClampNeg e21)
def f_X3_movedByQueue (N : Nat) (R_starts : (Nat → Int32)) (R_made : Int32) (R_all : Int32) (P_queued : (Nat → Int32)) (v2 : Int32) : Option (Int32 × (Nat → Int32)) :=
  bd1 (l_X3_movedByQueue_2 N R_starts R_made R_all N (0 : Int32) P_queued) fun e6 =>
  bd1 (f_X3_mergesOf N R_made v2) fun r8 =>
  nl (if (799 : Int32) < (R_made + r8) then (799 : Int32) else (R_made + r8)) fun x10 =>
  bd2 (l_X3_movedByQueue_59 N R_made v2 x10 N (0 : Int32) (0 : Int32) R_made e6) fun e26 e27 =>
  some (e26, e27)
def f_X6_queue (N : Nat) (R_starts : (Nat → Int32)) (R_made : Int32) (R_all : Int32) (P_queued : (Nat → Int32)) (v1 : Int32) : Option (Int32 × (Nat → Int32)) :=
  if R_made = 0 then
    some ((-1 : Int32), P_queued)
  else
    bd1 (f_X6_isIn N v1 (2 : Int32) (8 : Int32)) fun r2 =>
    if r2 = 0 then
      some ((-1 : Int32), P_queued)
    else
      bd2 (f_X3_movedByQueue N R_starts R_made R_all P_queued v1) fun r5 c6 =>
      some (r5, c6)
def f_X6_merges (N : Nat) (P_merges : Int32)  : Option (Int32) :=
  some (P_merges)
def f_X3_waysIn (N : Nat) (P_starts : (Nat → Int32)) (P_merges : Int32) (v1 : Int32) : Option (Int32) :=
  bd1 (f_X6_isIn N v1 (0 : Int32) (P_merges - 1)) fun r1 =>
  if r1 = 0 then
    some ((0 : Int32))
  else
    gd (ix (v1 + 1) 401) <|
    gd (ix v1 401) <|
    some (((P_starts (v1 + 1).toNatClampNeg) - (P_starts v1.toNatClampNeg)))
def f_X3_taken (N : Nat) (P_takenRuns : (Nat → Int32)) (P_starts : (Nat → Int32)) (P_merges : Int32) (v1 : Int32) (v2 : Int32) : Option (Int32) :=
  bd1 (f_X3_waysIn N P_starts P_merges v1) fun r1 =>
  bd1 (f_X6_isIn N v2 (0 : Int32) (r1 - 1)) fun r3 =>
  if r3 = 0 then
    some ((-1 : Int32))
  else
    gd (ix v1 401) <|
    gd (ix ((P_starts v1.toNatClampNeg) + v2) 800) <|
    some ((P_takenRuns ((P_starts v1.toNatClampNeg) + v2).toNatClampNeg))
def f_X6_takes (N : Nat) (P_takenRuns : (Nat → Int32)) (P_starts : (Nat → Int32)) (P_merges : Int32) (v1 : Int32) (v2 : Int32) : Option (Int32) :=
  bd1 (f_X3_taken N P_takenRuns P_starts P_merges v1 v2) fun r1 =>
  some (r1)
def f_X5_standingOf (N : Nat) (R_standing : (Nat → Int32)) (R_rowsInAll : Int32) (v1 : Int32) : Option (Int32) :=
  bd1 (f_X6_isIn N v1 (0 : Int32) (R_rowsInAll - 1)) fun r1 =>
  if r1 = 0 then
    some ((-1 : Int32))
  else
    gd (ix v1 400) <|
    some ((R_standing v1.toNatClampNeg))
def l_X5_takeFirst_10 (N : Nat) (R_members : (Nat → Int32)) (R_standing : (Nat → Int32)) (R_heads : (Nat → Int32)) (R_tails : (Nat → Int32)) (R_rowsInAll : Int32) (v1 : Int32) : Nat → Int32 → Int32 → Int32 → Int32 → Option (Int32 × Int32 × Int32)
  | 0, _, _, _, _ => none
  | n + 1, v2, v3, v4, v5 =>
    if v1 ≤ v5 then
      some (v2, v3, v4)
    else
      gd (ix v5 8) <|
      gd (ix v5 8) <|
      if (R_heads v5.toNatClampNeg) < (R_tails v5.toNatClampNeg) then
        nl (v2 + 1) fun x5 =>
        gd (ix v5 8) <|
        gd (ix (R_heads v5.toNatClampNeg) 4000) <|
        nl (R_members (R_heads v5.toNatClampNeg).toNatClampNeg) fun x8 =>
        if v4 = (-1 : Int32) then
          nl (v5 + 1) fun x10 =>
          l_X5_takeFirst_10 N R_members R_standing R_heads R_tails R_rowsInAll v1 n x5 v5 x8 x10
        else
          bd1 (f_X5_standingOf N R_standing R_rowsInAll x8) fun r11 =>
          bd1 (f_X5_standingOf N R_standing R_rowsInAll v4) fun r13 =>
          if r13 ≤ r11 then
            nl (v5 + 1) fun x16 =>
            l_X5_takeFirst_10 N R_members R_standing R_heads R_tails R_rowsInAll v1 n x5 v3 v4 x16
          else
            nl (v5 + 1) fun x17 =>
            l_X5_takeFirst_10 N R_members R_standing R_heads R_tails R_rowsInAll v1 n x5 v5 x8 x17
      else
        nl (v5 + 1) fun x18 =>
        l_X5_takeFirst_10 N R_members R_standing R_heads R_tails R_rowsInAll v1 n v2 v3 v4 x18
def f_X5_takeFirst (N : Nat) (R_members : (Nat → Int32)) (R_starts : (Nat → Int32)) (R_standing : (Nat → Int32)) (R_heads : (Nat → Int32)) (R_tails : (Nat → Int32)) (R_rowsInAll : Int32) (R_all : Int32) (R_filled : Int32) (v1 : Int32) : Option (Int32 × (Nat → Int32) × (Nat → Int32) × (Nat → Int32) × Int32) :=
  bd3 (l_X5_takeFirst_10 N R_members R_standing R_heads R_tails R_rowsInAll v1 N (0 : Int32) (0 : Int32) (-1 : Int32) (0 : Int32)) fun e19 e20 e21 =>
  if e19 = 0 then
    some ((0 : Int32), R_members, R_starts, R_heads, R_filled)
  else
    gd (ix e20 8) <|
    nl ((R_heads e20.toNatClampNeg) + 1) fun x25 =>
    gd (ix e20 8) <|
    bd3 (f_X5_append N R_members R_starts R_all R_filled e21) fun c27 c28 c29 =>
    some ((e19 - 1), c27, c28, (upd R_heads e20.toNatClampNeg x25), c29)
def l_X5_mergeThose_17 (N : Nat) (R_starts : (Nat → Int32)) (R_all : Int32) (P_takenRuns : (Nat → Int32)) (P_starts : (Nat → Int32)) (P_merges : Int32) (v2 : Int32) (v3 : Int32) : Nat → Int32 → Int32 → (Nat → Int32) → (Nat → Int32) → Option (Int32 × (Nat → Int32) × (Nat → Int32))
  | 0, _, _, _, _ => none
  | n + 1, v4, v5, R_heads, R_tails =>
    if v3 ≤ v5 then
      some (v4, R_heads, R_tails)
    else
      bd1 (f_X3_taken N P_takenRuns P_starts P_merges v2 v5) fun r5 =>
      bd1 (f_X5_has N R_all r5) fun r7 =>
      bd1 (if r7 = 0 then
          some ((0 : Int32))
        else
          gd (ix r5 800) <|
          some ((R_starts r5.toNatClampNeg)))
        fun y9 =>
      gd (ix v5 8) <|
      gd (ix v5 8) <|
      bd1 (f_X5_sizeOf N R_starts R_all r5) fun r13 =>
      nl (((upd R_heads v5.toNatClampNeg y9) v5.toNatClampNeg) + r13) fun x15 =>
      gd (ix v5 8) <|
      bd1 (f_X5_sizeOf N R_starts R_all r5) fun r17 =>
      nl (v4 + r17) fun x19 =>
      nl (v5 + 1) fun x20 =>
      l_X5_mergeThose_17 N R_starts R_all P_takenRuns P_starts P_merges v2 v3 n x19 x20 (upd R_heads v5.toNatClampNeg y9) (upd R_tails v5.toNatClampNeg x15)
def l_X5_mergeThose_107 (N : Nat) (R_standing : (Nat → Int32)) (R_tails : (Nat → Int32)) (R_rowsInAll : Int32) (R_all : Int32) (v3 : Int32) (v4 : Int32) : Nat → Int32 → Int32 → (Nat → Int32) → (Nat → Int32) → (Nat → Int32) → Int32 → Option (Int32 × (Nat → Int32) × (Nat → Int32) × (Nat → Int32) × Int32)
  | 0, _, _, _, _, _, _ => none
  | n + 1, v5, v6, R_members, R_starts, R_heads, R_filled =>
    if v4 ≤ v6 then
      some (v5, R_members, R_starts, R_heads, R_filled)
    else
      bd5 (f_X5_takeFirst N R_members R_starts R_standing R_heads R_tails R_rowsInAll R_all R_filled v3) fun r31 c32 c33 c34 c35 =>
      nl (v5 + r31) fun x37 =>
      nl (v6 + 1) fun x38 =>
      l_X5_mergeThose_107 N R_standing R_tails R_rowsInAll R_all v3 v4 n x37 x38 c32 c33 c34 c35
def f_X5_mergeThose (N : Nat) (R_members : (Nat → Int32)) (R_starts : (Nat → Int32)) (R_standing : (Nat → Int32)) (R_heads : (Nat → Int32)) (R_tails : (Nat → Int32)) (R_rowsInAll : Int32) (R_all : Int32) (R_filled : Int32) (P_takenRuns : (Nat → Int32)) (P_starts : (Nat → Int32)) (P_merges : Int32) (v2 : Int32) : Option (Int32 × (Nat → Int32) × (Nat → Int32) × (Nat → Int32) × (Nat → Int32) × Int32 × Int32) :=
  bd1 (f_X3_waysIn N P_starts P_merges v2) fun r1 =>
  nl (if (8 : Int32) < r1 then (8 : Int32) else r1) fun x3 =>
  bd3 (l_X5_mergeThose_17 N R_starts R_all P_takenRuns P_starts P_merges v2 x3 N (0 : Int32) (0 : Int32) R_heads R_tails) fun e23 e24 e25 =>
  bd2 (f_X5_begin N R_starts R_all R_filled) fun c27 c28 =>
  bd5 (l_X5_mergeThose_107 N R_standing e25 R_rowsInAll c28 x3 e23 N (0 : Int32) (0 : Int32) R_members c27 e24 R_filled) fun e39 e40 e41 e42 e43 =>
  some (e39, e40, e41, e42, e25, c28, e43)
def l_X6_merge_23 (N : Nat) (R_standing : (Nat → Int32)) (R_rowsInAll : Int32) (P_takenRuns : (Nat → Int32)) (P_starts : (Nat → Int32)) (P_merges : Int32) : Nat → Int32 → Int32 → (Nat → Int32) → (Nat → Int32) → (Nat → Int32) → (Nat → Int32) → Int32 → Int32 → Option (Int32 × (Nat → Int32) × (Nat → Int32) × (Nat → Int32) × (Nat → Int32) × Int32 × Int32)
  | 0, _, _, _, _, _, _, _, _ => none
  | n + 1, v1, v2, R_members, R_starts, R_heads, R_tails, R_all, R_filled =>
    if P_merges ≤ v2 then
      some (v1, R_members, R_starts, R_heads, R_tails, R_all, R_filled)
    else
      bd7 (f_X5_mergeThose N R_members R_starts R_standing R_heads R_tails R_rowsInAll R_all R_filled P_takenRuns P_starts P_merges v2) fun r6 c7 c8 c9 c10 c11 c12 =>
      nl (v1 + r6) fun x14 =>
      nl (v2 + 1) fun x15 =>
      l_X6_merge_23 N R_standing R_rowsInAll P_takenRuns P_starts P_merges n x14 x15 c7 c8 c9 c10 c11 c12
def f_X6_merge (N : Nat) (R_members : (Nat → Int32)) (R_starts : (Nat → Int32)) (R_standing : (Nat → Int32)) (R_heads : (Nat → Int32)) (R_tails : (Nat → Int32)) (R_rowsInAll : Int32) (R_made : Int32) (R_all : Int32) (R_filled : Int32) (P_takenRuns : (Nat → Int32)) (P_starts : (Nat → Int32)) (P_merges : Int32) (P_told : Int32)  : Option (Int32 × (Nat → Int32) × (Nat → Int32) × (Nat → Int32) × (Nat → Int32) × Int32 × Int32) :=
  if P_told = 0 then
    some ((-1 : Int32), R_members, R_starts, R_heads, R_tails, R_all, R_filled)
  else
    bd2 (f_X5_forgetMerged N R_rowsInAll R_made R_all R_filled) fun c2 c3 =>
    bd7 (l_X6_merge_23 N R_standing R_rowsInAll P_takenRuns P_starts P_merges N (0 : Int32) (0 : Int32) R_members R_starts R_heads R_tails c2 c3) fun e16 e17 e18 e19 e20 e21 e22 =>
    some (e16, e17, e18, e19, e20, e21, e22)
def l_X0_takeSamples_2 (N : Nat)  : Nat → Int32 → (Nat → Int32) → Option ((Nat → Int32))
  | 0, _, _ => none
  | n + 1, v3, C_sampled =>
    if (400 : Int32) ≤ v3 then
      some (C_sampled)
    else
      gd (ix v3 400) <|
      nl (v3 + 1) fun x3 =>
      l_X0_takeSamples_2 N n x3 (upd C_sampled v3.toNatClampNeg (vp_nar .boolean 0))
def l_X0_takeSamples_44 (N : Nat) (R_members : (Nat → Int32)) (R_starts : (Nat → Int32)) (R_standing : (Nat → Int32)) (R_rowsInAll : Int32) (R_all : Int32) (v2 : Int32) (v3 : Int32) (v4 : Int32) : Nat → Int32 → (Nat → Int32) → Option ((Nat → Int32))
  | 0, _, _ => none
  | n + 1, v5, C_sampled =>
    if v4 ≤ v5 then
      some (C_sampled)
    else
      bd1 (f_X5_rowIn N R_members R_starts R_all v3 v5) fun r11 =>
      bd1 (f_X5_standingOf N R_standing R_rowsInAll r11) fun r13 =>
      if r13 = (-1 : Int32) then
        nl (v5 + v2) fun x16 =>
        l_X0_takeSamples_44 N R_members R_starts R_standing R_rowsInAll R_all v2 v3 v4 n x16 C_sampled
      else
        gd (ix r13 400) <|
        nl (v5 + v2) fun x18 =>
        l_X0_takeSamples_44 N R_members R_starts R_standing R_rowsInAll R_all v2 v3 v4 n x18 (upd C_sampled r13.toNatClampNeg (vp_nar .boolean 1))
def l_X0_takeSamples_24 (N : Nat) (R_members : (Nat → Int32)) (R_starts : (Nat → Int32)) (R_standing : (Nat → Int32)) (R_rowsInAll : Int32) (R_made : Int32) (R_all : Int32) (v2 : Int32) : Nat → Int32 → (Nat → Int32) → Option ((Nat → Int32))
  | 0, _, _ => none
  | n + 1, v3, C_sampled =>
    if R_made ≤ v3 then
      some (C_sampled)
    else
      bd1 (f_X5_sizeOf N R_starts R_all v3) fun r7 =>
      nl (v2 - 1) fun x9 =>
      bd1 (l_X0_takeSamples_44 N R_members R_starts R_standing R_rowsInAll R_all v2 v3 r7 N x9 C_sampled) fun e19 =>
      nl (v3 + 1) fun x21 =>
      l_X0_takeSamples_24 N R_members R_starts R_standing R_rowsInAll R_made R_all v2 n x21 e19
def l_X0_takeSamples_95 (N : Nat) (C_sampled : (Nat → Int32)) : Nat → Int32 → (Nat → Int32) → Int32 → Option ((Nat → Int32) × Int32)
  | 0, _, _, _ => none
  | n + 1, v3, C_sampleStandings, C_samples =>
    if (400 : Int32) ≤ v3 then
      some (C_sampleStandings, C_samples)
    else
      gd (ix v3 400) <|
      if (C_sampled v3.toNatClampNeg) = 0 then
        nl (v3 + 1) fun x27 =>
        l_X0_takeSamples_95 N C_sampled n x27 C_sampleStandings C_samples
      else
        gd (ix C_samples 400) <|
        nl (C_samples + 1) fun x29 =>
        nl (v3 + 1) fun x30 =>
        l_X0_takeSamples_95 N C_sampled n x30 (upd C_sampleStandings C_samples.toNatClampNeg v3) x29
def f_X0_takeSamples (N : Nat) (R_members : (Nat → Int32)) (R_starts : (Nat → Int32)) (R_standing : (Nat → Int32)) (R_rowsInAll : Int32) (R_made : Int32) (R_all : Int32) (C_sampled : (Nat → Int32)) (C_sampleStandings : (Nat → Int32)) (C_samples : Int32) (v2 : Int32) : Option ((Nat → Int32) × (Nat → Int32) × Int32) :=
  bd1 (l_X0_takeSamples_2 N N (0 : Int32) C_sampled) fun e4 =>
  bd1 (l_X0_takeSamples_24 N R_members R_starts R_standing R_rowsInAll R_made R_all v2 N (0 : Int32) e4) fun e22 =>
  bd2 (l_X0_takeSamples_95 N e22 N (0 : Int32) C_sampleStandings C_samples) fun e31 e32 =>
  some (e22, e31, e32)
def f_X0_lastStanding (N : Nat) (C_sampleStandings : (Nat → Int32)) (C_samples : Int32) (v1 : Int32) : Option (Int32) :=
  bd1 (f_X6_isIn N v1 (0 : Int32) (C_samples - 1)) fun r1 =>
  if r1 = 0 then
    some ((-1 : Int32))
  else
    gd (ix v1 400) <|
    some ((C_sampleStandings v1.toNatClampNeg))
def f_X5_rowInOrder (N : Nat) (R_inOrder : (Nat → Int32)) (R_rowsInAll : Int32) (v1 : Int32) : Option (Int32) :=
  bd1 (f_X6_isIn N v1 (0 : Int32) (R_rowsInAll - 1)) fun r1 =>
  if r1 = 0 then
    some ((-1 : Int32))
  else
    gd (ix v1 400) <|
    some ((R_inOrder v1.toNatClampNeg))
def f_X0_beginAnew (N : Nat) (C_merged : (Nat → Int32)) (C_done : (Nat → Int32)) (v1 : Int32) : Option ((Nat → Int32) × (Nat → Int32)) :=
  gd (ix v1 8) <|
  gd (ix v1 8) <|
  some ((upd C_merged v1.toNatClampNeg 0), (upd C_done v1.toNatClampNeg (vp_nar .boolean 0)))
def l_X0_makeOf_63 (N : Nat) (R_inOrder : (Nat → Int32)) (R_rowsInAll : Int32) (C_sampleStandings : (Nat → Int32)) (C_samples : Int32) (v2 : Int32) : Nat → Int32 → Int32 → (Nat → Int32) → (Nat → Int32) → (Nat → Int32) → (Nat → Int32) → (Nat → Int32) → Option ((Nat → Int32) × (Nat → Int32) × (Nat → Int32) × (Nat → Int32) × (Nat → Int32))
  | 0, _, _, _, _, _, _, _ => none
  | n + 1, v4, v5, C_sizes, C_ends, C_merged, C_reached, C_done =>
    if v2 ≤ v5 then
      some (C_sizes, C_ends, C_merged, C_reached, C_done)
    else
      bd1 (if v5 = (v2 - 1) then
          some ((R_rowsInAll - 1))
        else
          gd (nz v2) <|
          bd1 (f_X0_lastStanding N C_sampleStandings C_samples ((((v5 + 1) * C_samples) / v2) - 1)) fun r37 =>
          some (r37))
        fun y19 =>
      bd1 (if v5 = (v2 - 1) then
          some ((-1 : Int32))
        else
          bd1 (f_X5_rowInOrder N R_inOrder R_rowsInAll y19) fun r33 =>
          some (r33))
        fun y21 =>
      gd (ix v5 8) <|
      nl ((y19 + 1) - v4) fun x24 =>
      gd (ix v5 8) <|
      nl (y19 + 1) fun x26 =>
      gd (ix v5 8) <|
      bd2 (f_X0_beginAnew N C_merged C_done v5) fun c28 c29 =>
      nl (v5 + 1) fun x31 =>
      l_X0_makeOf_63 N R_inOrder R_rowsInAll C_sampleStandings C_samples v2 n x26 x31 (upd C_sizes v5.toNatClampNeg x24) (upd C_ends v5.toNatClampNeg y21) c28 (upd C_reached v5.toNatClampNeg 0) c29
def f_X0_makeOf (N : Nat) (R_members : (Nat → Int32)) (R_starts : (Nat → Int32)) (R_inOrder : (Nat → Int32)) (R_standing : (Nat → Int32)) (R_rowsInAll : Int32) (R_made : Int32) (R_all : Int32) (C_sampled : (Nat → Int32)) (C_sampleStandings : (Nat → Int32)) (C_sizes : (Nat → Int32)) (C_ends : (Nat → Int32)) (C_merged : (Nat → Int32)) (C_reached : (Nat → Int32)) (C_done : (Nat → Int32)) (C_mergedBy : (Nat → Int32)) (C_parts : Int32) (C_samples : Int32) (C_bound : Int32) (C_ticks : Int32) (C_mergedInAll : Int32) (C_mergedAgain : Int32) (v2 : Int32) (v3 : Int32) : Option ((Nat → Int32) × (Nat → Int32) × (Nat → Int32) × (Nat → Int32) × (Nat → Int32) × (Nat → Int32) × (Nat → Int32) × (Nat → Int32) × Int32 × Int32 × Int32 × Int32 × Int32 × Int32) :=
  bd7 (f_X0_forget N C_mergedBy C_parts C_samples C_bound C_ticks C_mergedInAll C_mergedAgain) fun c1 c2 c3 c4 c5 c6 c7 =>
  if v2 < (1 : Int32) then
    some (C_sampled, C_sampleStandings, C_sizes, C_ends, C_merged, C_reached, C_done, c1, c2, c3, c4, c5, c6, c7)
  else
    if (8 : Int32) < v2 then
      some (C_sampled, C_sampleStandings, C_sizes, C_ends, C_merged, C_reached, C_done, c1, c2, c3, c4, c5, c6, c7)
    else
      if (1 : Int32) ≤ v3 then
        bd3 (f_X0_takeSamples N R_members R_starts R_standing R_rowsInAll R_made R_all C_sampled C_sampleStandings c3 v3) fun c12 c13 c14 =>
        gd (nz v2) <|
        nl ((v3 * (((c14 + v2) - 1) / v2)) + ((v3 - 1) * R_made)) fun x17 =>
        bd5 (l_X0_makeOf_63 N R_inOrder R_rowsInAll c13 c14 v2 N (0 : Int32) (0 : Int32) C_sizes C_ends C_merged C_reached C_done) fun e39 e40 e41 e42 e43 =>
        some (c12, c13, e39, e40, e41, e42, e43, c1, v2, c14, x17, c5, c6, c7)
      else
        some (C_sampled, C_sampleStandings, C_sizes, C_ends, C_merged, C_reached, C_done, c1, c2, c3, c4, c5, c6, c7)
def l_X0_leftOn_4 (N : Nat) (C_sizes : (Nat → Int32)) (C_lies : (Nat → Int32)) (C_merged : (Nat → Int32)) (C_parts : Int32) (v1 : Int32) : Nat → Int32 → Int32 → Option (Int32)
  | 0, _, _ => none
  | n + 1, v2, v3 =>
    if C_parts ≤ v3 then
      some (v2)
    else
      gd (ix v3 8) <|
      if (C_lies v3.toNatClampNeg) = v1 then
        gd (ix v3 8) <|
        gd (ix v3 8) <|
        nl (v2 + ((C_sizes v3.toNatClampNeg) - (C_merged v3.toNatClampNeg))) fun x7 =>
        nl (v3 + 1) fun x8 =>
        l_X0_leftOn_4 N C_sizes C_lies C_merged C_parts v1 n x7 x8
      else
        nl (v3 + 1) fun x4 =>
        l_X0_leftOn_4 N C_sizes C_lies C_merged C_parts v1 n v2 x4
def f_X0_leftOn (N : Nat) (C_sizes : (Nat → Int32)) (C_lies : (Nat → Int32)) (C_merged : (Nat → Int32)) (C_parts : Int32) (v1 : Int32) : Option (Int32) :=
  bd1 (l_X0_leftOn_4 N C_sizes C_lies C_merged C_parts v1 N (0 : Int32) (0 : Int32)) fun e9 =>
  some (e9)
def l_X0_leastLaden_7 (N : Nat) (C_sizes : (Nat → Int32)) (C_lies : (Nat → Int32)) (C_merged : (Nat → Int32)) (C_parts : Int32) (O_up : (Nat → Int32)) : Nat → Int32 → Int32 → Int32 → Option (Int32)
  | 0, _, _, _ => none
  | n + 1, v2, v3, v4 =>
    if (8 : Int32) ≤ v4 then
      some (v2)
    else
      gd (ix v4 8) <|
      if (O_up v4.toNatClampNeg) = 0 then
        nl (v4 + 1) fun x11 =>
        l_X0_leastLaden_7 N C_sizes C_lies C_merged C_parts O_up n v2 v3 x11
      else
        bd1 (f_X0_leftOn N C_sizes C_lies C_merged C_parts v4) fun r4 =>
        if v2 = (-1 : Int32) then
          nl (v4 + 1) fun x7 =>
          l_X0_leastLaden_7 N C_sizes C_lies C_merged C_parts O_up n v4 r4 x7
        else
          if v3 ≤ r4 then
            nl (v4 + 1) fun x9 =>
            l_X0_leastLaden_7 N C_sizes C_lies C_merged C_parts O_up n v2 v3 x9
          else
            nl (v4 + 1) fun x10 =>
            l_X0_leastLaden_7 N C_sizes C_lies C_merged C_parts O_up n v4 r4 x10
def f_X0_leastLaden (N : Nat) (C_sizes : (Nat → Int32)) (C_lies : (Nat → Int32)) (C_merged : (Nat → Int32)) (C_parts : Int32) (O_up : (Nat → Int32))  : Option (Int32) :=
  bd1 (l_X0_leastLaden_7 N C_sizes C_lies C_merged C_parts O_up N (-1 : Int32) (0 : Int32) (0 : Int32)) fun e12 =>
  some (e12)
def l_X0_moveFrom_5 (N : Nat) (C_sizes : (Nat → Int32)) (C_parts : Int32) (O_up : (Nat → Int32)) (v1 : Int32) : Nat → Int32 → Int32 → (Nat → Int32) → (Nat → Int32) → (Nat → Int32) → Option (Int32 × (Nat → Int32) × (Nat → Int32) × (Nat → Int32))
  | 0, _, _, _, _, _ => none
  | n + 1, v3, v4, C_lies, C_merged, C_done =>
    if C_parts ≤ v4 then
      some (v3, C_lies, C_merged, C_done)
    else
      gd (ix v4 8) <|
      if (C_lies v4.toNatClampNeg) = v1 then
        bd2 (f_X0_beginAnew N C_merged C_done v4) fun c5 c6 =>
        bd1 (f_X0_leastLaden N C_sizes C_lies c5 C_parts O_up) fun r8 =>
        gd (ix v4 8) <|
        nl (v3 + 1) fun x11 =>
        nl (v4 + 1) fun x12 =>
        l_X0_moveFrom_5 N C_sizes C_parts O_up v1 n x11 x12 (upd C_lies v4.toNatClampNeg r8) c5 c6
      else
        nl (v4 + 1) fun x4 =>
        l_X0_moveFrom_5 N C_sizes C_parts O_up v1 n v3 x4 C_lies C_merged C_done
def f_X0_moveFrom (N : Nat) (C_sizes : (Nat → Int32)) (C_lies : (Nat → Int32)) (C_merged : (Nat → Int32)) (C_done : (Nat → Int32)) (C_parts : Int32) (O_up : (Nat → Int32)) (v1 : Int32) : Option (Int32 × (Nat → Int32) × (Nat → Int32) × (Nat → Int32)) :=
  bd4 (l_X0_moveFrom_5 N C_sizes C_parts O_up v1 N (0 : Int32) (0 : Int32) C_lies C_merged C_done) fun e13 e14 e15 e16 =>
  some (e13, e14, e15, e16)
def l_X0_layOn_2 (N : Nat) (C_parts : Int32) : Nat → Int32 → (Nat → Int32) → Option ((Nat → Int32))
  | 0, _, _ => none
  | n + 1, v2, C_lies =>
    if C_parts ≤ v2 then
      some (C_lies)
    else
      gd (ix v2 8) <|
      nl (v2 + 1) fun x3 =>
      l_X0_layOn_2 N C_parts n x3 (upd C_lies v2.toNatClampNeg v2)
def l_X0_layOn_25 (N : Nat) (C_sizes : (Nat → Int32)) (C_parts : Int32) (O_up : (Nat → Int32)) : Nat → Int32 → (Nat → Int32) → (Nat → Int32) → (Nat → Int32) → Option ((Nat → Int32) × (Nat → Int32) × (Nat → Int32))
  | 0, _, _, _, _ => none
  | n + 1, v2, C_lies, C_merged, C_done =>
    if (8 : Int32) ≤ v2 then
      some (C_lies, C_merged, C_done)
    else
      gd (ix v2 8) <|
      if (O_up v2.toNatClampNeg) = 0 then
        bd4 (f_X0_moveFrom N C_sizes C_lies C_merged C_done C_parts O_up v2) fun r10 c11 c12 c13 =>
        nl (v2 + 1) fun x15 =>
        l_X0_layOn_25 N C_sizes C_parts O_up n x15 c11 c12 c13
      else
        nl (v2 + 1) fun x9 =>
        l_X0_layOn_25 N C_sizes C_parts O_up n x9 C_lies C_merged C_done
def f_X0_layOn (N : Nat) (C_sizes : (Nat → Int32)) (C_lies : (Nat → Int32)) (C_merged : (Nat → Int32)) (C_done : (Nat → Int32)) (C_parts : Int32) (O_up : (Nat → Int32))  : Option ((Nat → Int32) × (Nat → Int32) × (Nat → Int32)) :=
  bd1 (l_X0_layOn_2 N C_parts N (0 : Int32) C_lies) fun e4 =>
  bd3 (l_X0_layOn_25 N C_sizes C_parts O_up N (0 : Int32) e4 C_merged C_done) fun e16 e17 e18 =>
  some (e16, e17, e18)
def f_X6_cut (N : Nat) (R_members : (Nat → Int32)) (R_starts : (Nat → Int32)) (R_inOrder : (Nat → Int32)) (R_standing : (Nat → Int32)) (R_rowsInAll : Int32) (R_made : Int32) (R_all : Int32) (C_sampled : (Nat → Int32)) (C_sampleStandings : (Nat → Int32)) (C_sizes : (Nat → Int32)) (C_ends : (Nat → Int32)) (C_lies : (Nat → Int32)) (C_merged : (Nat → Int32)) (C_reached : (Nat → Int32)) (C_done : (Nat → Int32)) (C_mergedBy : (Nat → Int32)) (C_parts : Int32) (C_samples : Int32) (C_bound : Int32) (C_ticks : Int32) (C_mergedInAll : Int32) (C_mergedAgain : Int32) (O_up : (Nat → Int32)) (v1 : Int32) (v2 : Int32) : Option (Int32 × (Nat → Int32) × (Nat → Int32) × (Nat → Int32) × (Nat → Int32) × (Nat → Int32) × (Nat → Int32) × (Nat → Int32) × (Nat → Int32) × (Nat → Int32) × Int32 × Int32 × Int32 × Int32 × Int32 × Int32) :=
  if R_made = 0 then
    some ((-1 : Int32), C_sampled, C_sampleStandings, C_sizes, C_ends, C_lies, C_merged, C_reached, C_done, C_mergedBy, C_parts, C_samples, C_bound, C_ticks, C_mergedInAll, C_mergedAgain)
  else
    bd1 (f_X6_isIn N v1 (1 : Int32) (8 : Int32)) fun r2 =>
    if r2 = 0 then
      some ((-1 : Int32), C_sampled, C_sampleStandings, C_sizes, C_ends, C_lies, C_merged, C_reached, C_done, C_mergedBy, C_parts, C_samples, C_bound, C_ticks, C_mergedInAll, C_mergedAgain)
    else
      bd1 (f_X6_isIn N v2 (1 : Int32) (20 : Int32)) fun r5 =>
      if r5 = 0 then
        some ((-1 : Int32), C_sampled, C_sampleStandings, C_sizes, C_ends, C_lies, C_merged, C_reached, C_done, C_mergedBy, C_parts, C_samples, C_bound, C_ticks, C_mergedInAll, C_mergedAgain)
      else
        bd14 (f_X0_makeOf N R_members R_starts R_inOrder R_standing R_rowsInAll R_made R_all C_sampled C_sampleStandings C_sizes C_ends C_merged C_reached C_done C_mergedBy C_parts C_samples C_bound C_ticks C_mergedInAll C_mergedAgain v1 v2) fun c8 c9 c10 c11 c12 c13 c14 c15 c16 c17 c18 c19 c20 c21 =>
        bd3 (f_X0_layOn N c10 C_lies c12 c14 c16 O_up) fun c23 c24 c25 =>
        some (c17, c8, c9, c10, c11, c23, c24, c13, c25, c15, c16, c17, c18, c19, c20, c21)
def f_X0_stands (N : Nat) (C_parts : Int32)  : Option (Int32) :=
  if C_parts ≤ 0 then
    gd (bz (0 : Int32)) <|
    some ((0 : Int32))
  else
    gd (bz (1 : Int32)) <|
    some ((1 : Int32))
def f_X6_bound (N : Nat) (C_parts : Int32) (C_bound : Int32)  : Option (Int32) :=
  bd1 (f_X0_stands N C_parts) fun r1 =>
  if r1 = 0 then
    some ((-1 : Int32))
  else
    some (C_bound)
def f_X6_part (N : Nat) (C_sizes : (Nat → Int32)) (C_ends : (Nat → Int32)) (C_lies : (Nat → Int32)) (C_merged : (Nat → Int32)) (C_parts : Int32) (v1 : Int32) (v2 : Int32) : Option (Int32) :=
  bd1 (f_X6_isIn N v1 (0 : Int32) (C_parts - 1)) fun r1 =>
  if r1 = 0 then
    some ((-2 : Int32))
  else
    if v2 = 0 then
      gd (ix v1 8) <|
      some ((C_sizes v1.toNatClampNeg))
    else
      if v2 = 1 then
        gd (ix v1 8) <|
        some ((C_merged v1.toNatClampNeg))
      else
        if v2 = 2 then
          gd (ix v1 8) <|
          some ((C_lies v1.toNatClampNeg))
        else
          if v2 = 3 then
            gd (ix v1 8) <|
            some ((C_ends v1.toNatClampNeg))
          else
            some ((-2 : Int32))
def f_X6_isHost (N : Nat)  (v0 : Int32) : Option (Int32) :=
  bd1 (f_X6_isIn N v0 (0 : Int32) (7 : Int32)) fun r1 =>
  gd (bz r1) <|
  some (r1)
def f_X6_pace (N : Nat) (O_paces : (Nat → Int32)) (v1 : Int32) (v2 : Int32) : Option (Int32 × (Nat → Int32)) :=
  bd1 (f_X6_isHost N v1) fun r1 =>
  if r1 = 0 then
    gd (bz (0 : Int32)) <|
    some ((0 : Int32), O_paces)
  else
    bd1 (f_X6_isIn N v2 (0 : Int32) (50 : Int32)) fun r5 =>
    if r5 = 0 then
      gd (bz (0 : Int32)) <|
      some ((0 : Int32), O_paces)
    else
      gd (ix v1 8) <|
      gd (bz (1 : Int32)) <|
      some ((1 : Int32), (upd O_paces v1.toNatClampNeg v2))
def f_X6_fall (N : Nat) (C_sizes : (Nat → Int32)) (C_lies : (Nat → Int32)) (C_merged : (Nat → Int32)) (C_done : (Nat → Int32)) (C_parts : Int32) (O_up : (Nat → Int32)) (v1 : Int32) : Option (Int32 × (Nat → Int32) × (Nat → Int32) × (Nat → Int32) × (Nat → Int32)) :=
  bd1 (f_X6_isHost N v1) fun r1 =>
  if r1 = 0 then
    some ((-1 : Int32), C_lies, C_merged, C_done, O_up)
  else
    gd (ix v1 8) <|
    if (O_up v1.toNatClampNeg) = 0 then
      some ((-1 : Int32), C_lies, C_merged, C_done, O_up)
    else
      gd (ix v1 8) <|
      bd4 (f_X0_moveFrom N C_sizes C_lies C_merged C_done C_parts (upd O_up v1.toNatClampNeg (vp_nar .boolean 0)) v1) fun r7 c8 c9 c10 =>
      some (r7, c8, c9, c10, (upd O_up v1.toNatClampNeg (vp_nar .boolean 0)))
def l_X0_bringTo_4 (N : Nat) (C_parts : Int32) (v1 : Int32) : Nat → Int32 → Int32 → (Nat → Int32) → Option (Int32 × (Nat → Int32))
  | 0, _, _, _ => none
  | n + 1, v2, v3, C_lies =>
    if C_parts ≤ v3 then
      some (v2, C_lies)
    else
      gd (ix v3 8) <|
      if (C_lies v3.toNatClampNeg) = (-1 : Int32) then
        gd (ix v3 8) <|
        nl (v2 + 1) fun x6 =>
        nl (v3 + 1) fun x7 =>
        l_X0_bringTo_4 N C_parts v1 n x6 x7 (upd C_lies v3.toNatClampNeg v1)
      else
        nl (v3 + 1) fun x4 =>
        l_X0_bringTo_4 N C_parts v1 n v2 x4 C_lies
def f_X0_bringTo (N : Nat) (C_lies : (Nat → Int32)) (C_parts : Int32) (v1 : Int32) : Option (Int32 × (Nat → Int32)) :=
  bd2 (l_X0_bringTo_4 N C_parts v1 N (0 : Int32) (0 : Int32) C_lies) fun e8 e9 =>
  some (e8, e9)
def f_X6_rise (N : Nat) (C_lies : (Nat → Int32)) (C_parts : Int32) (O_up : (Nat → Int32)) (v1 : Int32) : Option (Int32 × (Nat → Int32) × (Nat → Int32)) :=
  bd1 (f_X6_isHost N v1) fun r1 =>
  if r1 = 0 then
    some ((-1 : Int32), C_lies, O_up)
  else
    gd (ix v1 8) <|
    if (O_up v1.toNatClampNeg) = 0 then
      gd (ix v1 8) <|
      bd2 (f_X0_bringTo N C_lies C_parts v1) fun r7 c8 =>
      some (r7, c8, (upd O_up v1.toNatClampNeg (vp_nar .boolean 1)))
    else
      some ((-1 : Int32), C_lies, O_up)
def l_X0_partsOn_4 (N : Nat) (C_lies : (Nat → Int32)) (C_parts : Int32) (v1 : Int32) : Nat → Int32 → Int32 → Option (Int32)
  | 0, _, _ => none
  | n + 1, v2, v3 =>
    if C_parts ≤ v3 then
      some (v2)
    else
      gd (ix v3 8) <|
      if (C_lies v3.toNatClampNeg) = v1 then
        nl (v2 + 1) fun x5 =>
        nl (v3 + 1) fun x6 =>
        l_X0_partsOn_4 N C_lies C_parts v1 n x5 x6
      else
        nl (v3 + 1) fun x4 =>
        l_X0_partsOn_4 N C_lies C_parts v1 n v2 x4
def f_X0_partsOn (N : Nat) (C_lies : (Nat → Int32)) (C_parts : Int32) (v1 : Int32) : Option (Int32) :=
  bd1 (l_X0_partsOn_4 N C_lies C_parts v1 N (0 : Int32) (0 : Int32)) fun e7 =>
  some (e7)
def f_X6_host (N : Nat) (C_sizes : (Nat → Int32)) (C_lies : (Nat → Int32)) (C_merged : (Nat → Int32)) (C_mergedBy : (Nat → Int32)) (C_parts : Int32) (O_paces : (Nat → Int32)) (O_up : (Nat → Int32)) (v1 : Int32) (v2 : Int32) : Option (Int32) :=
  bd1 (f_X6_isHost N v1) fun r1 =>
  if r1 = 0 then
    some ((-1 : Int32))
  else
    if v2 = 0 then
      gd (ix v1 8) <|
      some ((O_paces v1.toNatClampNeg))
    else
      if v2 = 1 then
        gd (ix v1 8) <|
        if (O_up v1.toNatClampNeg) = 0 then
          some ((0 : Int32))
        else
          some ((1 : Int32))
      else
        if v2 = 2 then
          bd1 (f_X0_partsOn N C_lies C_parts v1) fun r10 =>
          some (r10)
        else
          if v2 = 3 then
            bd1 (f_X0_leftOn N C_sizes C_lies C_merged C_parts v1) fun r13 =>
            some (r13)
          else
            if v2 = 4 then
              gd (ix v1 8) <|
              some ((C_mergedBy v1.toNatClampNeg))
            else
              some ((-1 : Int32))
def f_X0_mergeSome (N : Nat) (C_merged : (Nat → Int32)) (C_reached : (Nat → Int32)) (C_mergedInAll : Int32) (C_mergedAgain : Int32) (v1 : Int32) (v2 : Int32) : Option ((Nat → Int32) × (Nat → Int32) × Int32 × Int32) :=
  gd (ix v1 8) <|
  gd (ix v1 8) <|
  nl (C_mergedAgain + (if (if (0 : Int32) < ((C_reached v1.toNatClampNeg) - (C_merged v1.toNatClampNeg)) then ((C_reached v1.toNatClampNeg) - (C_merged v1.toNatClampNeg)) else (0 : Int32)) < v2 then (if (0 : Int32) < ((C_reached v1.toNatClampNeg) - (C_merged v1.toNatClampNeg)) then ((C_reached v1.toNatClampNeg) - (C_merged v1.toNatClampNeg)) else (0 : Int32)) else v2)) fun x3 =>
  nl (C_mergedInAll + v2) fun x4 =>
  gd (ix v1 8) <|
  nl ((C_merged v1.toNatClampNeg) + v2) fun x6 =>
  gd (ix v1 8) <|
  gd (ix v1 8) <|
  gd (ix v1 8) <|
  nl (if (C_reached v1.toNatClampNeg) < ((upd C_merged v1.toNatClampNeg x6) v1.toNatClampNeg) then ((upd C_merged v1.toNatClampNeg x6) v1.toNatClampNeg) else (C_reached v1.toNatClampNeg)) fun x10 =>
  gd (ix v1 8) <|
  some ((upd C_merged v1.toNatClampNeg x6), (upd C_reached v1.toNatClampNeg x10), x4, x3)
def l_X0_workAtPartsOf_5 (N : Nat) (C_sizes : (Nat → Int32)) (C_lies : (Nat → Int32)) (C_parts : Int32) (v1 : Int32) : Nat → Int32 → Int32 → (Nat → Int32) → (Nat → Int32) → (Nat → Int32) → (Nat → Int32) → Int32 → Int32 → Option ((Nat → Int32) × (Nat → Int32) × (Nat → Int32) × (Nat → Int32) × Int32 × Int32)
  | 0, _, _, _, _, _, _, _, _ => none
  | n + 1, v3, v4, C_merged, C_reached, C_done, C_mergedBy, C_mergedInAll, C_mergedAgain =>
    if C_parts ≤ v4 then
      some (C_merged, C_reached, C_done, C_mergedBy, C_mergedInAll, C_mergedAgain)
    else
      gd (ix v4 8) <|
      if (C_lies v4.toNatClampNeg) = v1 then
        gd (ix v4 8) <|
        if (C_done v4.toNatClampNeg) = 0 then
          gd (ix v4 8) <|
          gd (ix v4 8) <|
          nl (if ((C_sizes v4.toNatClampNeg) - (C_merged v4.toNatClampNeg)) < v3 then ((C_sizes v4.toNatClampNeg) - (C_merged v4.toNatClampNeg)) else v3) fun x9 =>
          bd4 (f_X0_mergeSome N C_merged C_reached C_mergedInAll C_mergedAgain v4 x9) fun c10 c11 c12 c13 =>
          gd (ix v1 8) <|
          nl ((C_mergedBy v1.toNatClampNeg) + x9) fun x16 =>
          gd (ix v1 8) <|
          nl (v3 - x9) fun x18 =>
          gd (ix v4 8) <|
          gd (ix v4 8) <|
          if (C_sizes v4.toNatClampNeg) ≤ (c10 v4.toNatClampNeg) then
            gd (ix v4 8) <|
            nl (v4 + 1) fun x23 =>
            l_X0_workAtPartsOf_5 N C_sizes C_lies C_parts v1 n x18 x23 c10 c11 (upd C_done v4.toNatClampNeg (vp_nar .boolean 1)) (upd C_mergedBy v1.toNatClampNeg x16) c12 c13
          else
            some (c10, c11, C_done, (upd C_mergedBy v1.toNatClampNeg x16), c12, c13)
        else
          nl (v4 + 1) fun x24 =>
          l_X0_workAtPartsOf_5 N C_sizes C_lies C_parts v1 n v3 x24 C_merged C_reached C_done C_mergedBy C_mergedInAll C_mergedAgain
      else
        nl (v4 + 1) fun x4 =>
        l_X0_workAtPartsOf_5 N C_sizes C_lies C_parts v1 n v3 x4 C_merged C_reached C_done C_mergedBy C_mergedInAll C_mergedAgain
def f_X0_workAtPartsOf (N : Nat) (C_sizes : (Nat → Int32)) (C_lies : (Nat → Int32)) (C_merged : (Nat → Int32)) (C_reached : (Nat → Int32)) (C_done : (Nat → Int32)) (C_mergedBy : (Nat → Int32)) (C_parts : Int32) (C_mergedInAll : Int32) (C_mergedAgain : Int32) (v1 : Int32) (v2 : Int32) : Option ((Nat → Int32) × (Nat → Int32) × (Nat → Int32) × (Nat → Int32) × Int32 × Int32) :=
  bd6 (l_X0_workAtPartsOf_5 N C_sizes C_lies C_parts v1 N v2 (0 : Int32) C_merged C_reached C_done C_mergedBy C_mergedInAll C_mergedAgain) fun e25 e26 e27 e28 e29 e30 =>
  some (e25, e26, e27, e28, e29, e30)
def l_X0_goOn_17 (N : Nat) (C_sizes : (Nat → Int32)) (C_lies : (Nat → Int32)) (C_parts : Int32) (O_paces : (Nat → Int32)) (O_up : (Nat → Int32)) : Nat → Int32 → (Nat → Int32) → (Nat → Int32) → (Nat → Int32) → (Nat → Int32) → Int32 → Int32 → Option ((Nat → Int32) × (Nat → Int32) × (Nat → Int32) × (Nat → Int32) × Int32 × Int32)
  | 0, _, _, _, _, _, _, _ => none
  | n + 1, v3, C_merged, C_reached, C_done, C_mergedBy, C_mergedInAll, C_mergedAgain =>
    if (8 : Int32) ≤ v3 then
      some (C_merged, C_reached, C_done, C_mergedBy, C_mergedInAll, C_mergedAgain)
    else
      gd (ix v3 8) <|
      if (O_up v3.toNatClampNeg) = 0 then
        nl (v3 + 1) fun x5 =>
        l_X0_goOn_17 N C_sizes C_lies C_parts O_paces O_up n x5 C_merged C_reached C_done C_mergedBy C_mergedInAll C_mergedAgain
      else
        gd (ix v3 8) <|
        bd6 (f_X0_workAtPartsOf N C_sizes C_lies C_merged C_reached C_done C_mergedBy C_parts C_mergedInAll C_mergedAgain v3 (O_paces v3.toNatClampNeg)) fun c7 c8 c9 c10 c11 c12 =>
        nl (v3 + 1) fun x14 =>
        l_X0_goOn_17 N C_sizes C_lies C_parts O_paces O_up n x14 c7 c8 c9 c10 c11 c12
def f_X0_goOn (N : Nat) (C_sizes : (Nat → Int32)) (C_lies : (Nat → Int32)) (C_merged : (Nat → Int32)) (C_reached : (Nat → Int32)) (C_done : (Nat → Int32)) (C_mergedBy : (Nat → Int32)) (C_parts : Int32) (C_ticks : Int32) (C_mergedInAll : Int32) (C_mergedAgain : Int32) (O_paces : (Nat → Int32)) (O_up : (Nat → Int32))  : Option (Int32 × (Nat → Int32) × (Nat → Int32) × (Nat → Int32) × (Nat → Int32) × Int32 × Int32 × Int32) :=
  nl (C_ticks + 1) fun x1 =>
  bd6 (l_X0_goOn_17 N C_sizes C_lies C_parts O_paces O_up N (0 : Int32) C_merged C_reached C_done C_mergedBy C_mergedInAll C_mergedAgain) fun e15 e16 e17 e18 e19 e20 =>
  some ((e19 - C_mergedInAll), e15, e16, e17, e18, x1, e19, e20)
def f_X6_tick (N : Nat) (C_sizes : (Nat → Int32)) (C_lies : (Nat → Int32)) (C_merged : (Nat → Int32)) (C_reached : (Nat → Int32)) (C_done : (Nat → Int32)) (C_mergedBy : (Nat → Int32)) (C_parts : Int32) (C_ticks : Int32) (C_mergedInAll : Int32) (C_mergedAgain : Int32) (O_paces : (Nat → Int32)) (O_up : (Nat → Int32))  : Option (Int32 × (Nat → Int32) × (Nat → Int32) × (Nat → Int32) × (Nat → Int32) × Int32 × Int32 × Int32) :=
  bd1 (f_X0_stands N C_parts) fun r1 =>
  if r1 = 0 then
    some ((-1 : Int32), C_merged, C_reached, C_done, C_mergedBy, C_ticks, C_mergedInAll, C_mergedAgain)
  else
    bd8 (f_X0_goOn N C_sizes C_lies C_merged C_reached C_done C_mergedBy C_parts C_ticks C_mergedInAll C_mergedAgain O_paces O_up) fun r4 c5 c6 c7 c8 c9 c10 c11 =>
    some (r4, c5, c6, c7, c8, c9, c10, c11)
def l_X0_partsDone_4 (N : Nat) (C_done : (Nat → Int32)) (C_parts : Int32) : Nat → Int32 → Int32 → Option (Int32)
  | 0, _, _ => none
  | n + 1, v1, v2 =>
    if C_parts ≤ v2 then
      some (v1)
    else
      gd (ix v2 8) <|
      if (C_done v2.toNatClampNeg) = 0 then
        nl (v2 + 1) fun x4 =>
        l_X0_partsDone_4 N C_done C_parts n v1 x4
      else
        nl (v1 + 1) fun x5 =>
        nl (v2 + 1) fun x6 =>
        l_X0_partsDone_4 N C_done C_parts n x5 x6
def f_X0_partsDone (N : Nat) (C_done : (Nat → Int32)) (C_parts : Int32)  : Option (Int32) :=
  bd1 (l_X0_partsDone_4 N C_done C_parts N (0 : Int32) (0 : Int32)) fun e7 =>
  some (e7)
def f_X0_isAtEnd (N : Nat) (C_done : (Nat → Int32)) (C_parts : Int32)  : Option (Int32) :=
  bd1 (f_X0_stands N C_parts) fun r1 =>
  if r1 = 0 then
    gd (bz (0 : Int32)) <|
    some ((0 : Int32))
  else
    bd1 (f_X0_partsDone N C_done C_parts) fun r5 =>
    if r5 = C_parts then
      gd (bz (1 : Int32)) <|
      some ((1 : Int32))
    else
      gd (bz (0 : Int32)) <|
      some ((0 : Int32))
def f_X6_work (N : Nat) (C_done : (Nat → Int32)) (C_parts : Int32) (C_ticks : Int32) (C_mergedInAll : Int32) (C_mergedAgain : Int32) (v1 : Int32) : Option (Int32) :=
  bd1 (f_X0_stands N C_parts) fun r1 =>
  if r1 = 0 then
    some ((-1 : Int32))
  else
    if v1 = 0 then
      some (C_ticks)
    else
      if v1 = 1 then
        some (C_mergedInAll)
      else
        if v1 = 2 then
          some (C_mergedAgain)
        else
          if v1 = 3 then
            bd1 (f_X0_partsDone N C_done C_parts) fun r8 =>
            some (r8)
          else
            if v1 = 4 then
              bd1 (f_X0_isAtEnd N C_done C_parts) fun r11 =>
              if r11 = 0 then
                some ((0 : Int32))
              else
                some ((1 : Int32))
            else
              some ((-1 : Int32))
def f_X6_end (N : Nat) (R_inOrder : (Nat → Int32)) (R_rowsInAll : Int32) (C_done : (Nat → Int32)) (C_parts : Int32) (v1 : Int32) : Option (Int32) :=
  bd1 (f_X0_isAtEnd N C_done C_parts) fun r1 =>
  if r1 = 0 then
    some ((-1 : Int32))
  else
    bd1 (f_X5_rowInOrder N R_inOrder R_rowsInAll v1) fun r4 =>
    some (r4)
def f_X6_count (N : Nat) (W_count : Int32) (R_made : Int32) (C_parts : Int32) (C_samples : Int32) (v1 : Int32) : Option (Int32) :=
  if v1 = 0 then
    some (W_count)
  else
    if v1 = 1 then
      some (R_made)
    else
      if v1 = 2 then
        some (C_samples)
      else
        if v1 = 3 then
          some (C_parts)
        else
          some ((-1 : Int32))
def f_X7_is (N : Nat)  (v0 : Int32) (v1 : Int32) (v2 : Int32) : Option (Int32) :=
  if v0 < v1 then
    gd (bz (0 : Int32)) <|
    some ((0 : Int32))
  else
    if v2 < v0 then
      gd (bz (0 : Int32)) <|
      some ((0 : Int32))
    else
      gd (bz (1 : Int32)) <|
      some ((1 : Int32))
def f_X7_give (N : Nat) (M_sorts : (Nat → Int32)) (M_values : (Nat → Int32)) (M_rows : Int32) (v1 : Int32) (v2 : Int32) : Option (Int32 × (Nat → Int32) × (Nat → Int32) × Int32) :=
  bd1 (f_X7_is N v1 (0 : Int32) (3 : Int32)) fun r1 =>
  if r1 = 0 then
    some ((-1 : Int32), M_sorts, M_values, M_rows)
  else
    bd1 (f_X7_is N v2 (-100000 : Int32) (100000 : Int32)) fun r4 =>
    if r4 = 0 then
      some ((-1 : Int32), M_sorts, M_values, M_rows)
    else
      if M_rows = (400 : Int32) then
        some ((-1 : Int32), M_sorts, M_values, M_rows)
      else
        gd (ix M_rows 400) <|
        gd (ix M_rows 400) <|
        nl (M_rows + 1) fun x10 =>
        some ((x10 - 1), (upd M_sorts M_rows.toNatClampNeg v1), (upd M_values M_rows.toNatClampNeg v2), x10)
def l_X7_sow_63 (N : Nat) (v1 : Int32) (v2 : Int32) (v4 : Int32) (v5 : Int32) : Nat → Int32 → Int32 → (Nat → Int32) → (Nat → Int32) → Int32 → Option ((Nat → Int32) × (Nat → Int32) × Int32)
  | 0, _, _, _, _, _ => none
  | n + 1, v6, v7, M_sorts, M_values, M_rows =>
    if v2 ≤ v7 then
      some (M_sorts, M_values, M_rows)
    else
      nl ((1103515245 * v6) + 12345) fun x15 =>
      gd (ix M_rows 400) <|
      gd (nz v5) <|
      nl ((M_rows * v4) + ((x15.toUInt32 >>> (((8 : Int32)).toUInt32 &&& Int32.toUInt32 31)).toInt32 - (x15.toUInt32 >>> (((8 : Int32)).toUInt32 &&& Int32.toUInt32 31)).toInt32 / v5 * v5)) fun x18 =>
      gd (ix M_rows 400) <|
      nl (M_rows + 1) fun x20 =>
      nl (v7 + 1) fun x21 =>
      l_X7_sow_63 N v1 v2 v4 v5 n x15 x21 (upd M_sorts M_rows.toNatClampNeg v1) (upd M_values M_rows.toNatClampNeg x18) x20
def f_X7_sow (N : Nat) (M_sorts : (Nat → Int32)) (M_values : (Nat → Int32)) (M_rows : Int32) (v1 : Int32) (v2 : Int32) (v3 : Int32) (v4 : Int32) (v5 : Int32) : Option (Int32 × (Nat → Int32) × (Nat → Int32) × Int32) :=
  bd1 (f_X7_is N v1 (0 : Int32) (3 : Int32)) fun r1 =>
  if r1 = 0 then
    some ((-1 : Int32), M_sorts, M_values, M_rows)
  else
    bd1 (f_X7_is N v2 (1 : Int32) (100 : Int32)) fun r4 =>
    if r4 = 0 then
      some ((-1 : Int32), M_sorts, M_values, M_rows)
    else
      bd1 (f_X7_is N v4 (-100 : Int32) (100 : Int32)) fun r7 =>
      if r7 = 0 then
        some ((-1 : Int32), M_sorts, M_values, M_rows)
      else
        bd1 (f_X7_is N v5 (1 : Int32) (10000 : Int32)) fun r10 =>
        if r10 = 0 then
          some ((-1 : Int32), M_sorts, M_values, M_rows)
        else
          if (M_rows + v2) ≤ (400 : Int32) then
            bd3 (l_X7_sow_63 N v1 v2 v4 v5 N v3 (0 : Int32) M_sorts M_values M_rows) fun e22 e23 e24 =>
            some (e24, e22, e23, e24)
          else
            some ((-1 : Int32), M_sorts, M_values, M_rows)
def f_X7_clear (N : Nat) (M_rows : Int32) (M_made : Int32) (M_runs : Int32) (M_allRuns : Int32) (M_ways : Int32) (M_merges : Int32) (M_parts : Int32) (M_samples : Int32)  : Option (Int32 × Int32 × Int32 × Int32 × Int32 × Int32 × Int32 × Int32 × Int32) :=
  some (M_rows, 0, 0, 0, 0, (-1), 0, 0, 0)
def f_X7_order (N : Nat) (M_placeOf : (Nat → Int32)) (M_made : Int32) (v1 : Int32) (v2 : Int32) (v3 : Int32) (v4 : Int32) : Option (Int32 × (Nat → Int32)) :=
  if M_made = 0 then
    bd1 (f_X7_is N v1 (0 : Int32) (3 : Int32)) fun r3 =>
    if r3 = 0 then
      gd (bz (0 : Int32)) <|
      some ((0 : Int32), M_placeOf)
    else
      bd1 (f_X7_is N v2 (0 : Int32) (3 : Int32)) fun r7 =>
      if r7 = 0 then
        gd (bz (0 : Int32)) <|
        some ((0 : Int32), M_placeOf)
      else
        bd1 (f_X7_is N v3 (0 : Int32) (3 : Int32)) fun r11 =>
        if r11 = 0 then
          gd (bz (0 : Int32)) <|
          some ((0 : Int32), M_placeOf)
        else
          bd1 (f_X7_is N v4 (0 : Int32) (3 : Int32)) fun r15 =>
          if r15 = 0 then
            gd (bz (0 : Int32)) <|
            some ((0 : Int32), M_placeOf)
          else
            if v1 = v2 then
              gd (bz (0 : Int32)) <|
              some ((0 : Int32), M_placeOf)
            else
              if v1 = v3 then
                gd (bz (0 : Int32)) <|
                some ((0 : Int32), M_placeOf)
              else
                if v1 = v4 then
                  gd (bz (0 : Int32)) <|
                  some ((0 : Int32), M_placeOf)
                else
                  if v2 = v3 then
                    gd (bz (0 : Int32)) <|
                    some ((0 : Int32), M_placeOf)
                  else
                    if v2 = v4 then
                      gd (bz (0 : Int32)) <|
                      some ((0 : Int32), M_placeOf)
                    else
                      if v3 = v4 then
                        gd (bz (0 : Int32)) <|
                        some ((0 : Int32), M_placeOf)
                      else
                        gd (ix v1 4) <|
                        gd (ix v2 4) <|
                        gd (ix v3 4) <|
                        gd (ix v4 4) <|
                        gd (bz (1 : Int32)) <|
                        some ((1 : Int32), (upd (upd (upd (upd M_placeOf v1.toNatClampNeg 0) v2.toNatClampNeg 1) v3.toNatClampNeg 2) v4.toNatClampNeg 3))
  else
    gd (bz (0 : Int32)) <|
    some ((0 : Int32), M_placeOf)
def f_X7_falls (N : Nat) (M_falling : (Nat → Int32)) (M_made : Int32) (v1 : Int32) (v2 : Int32) : Option (Int32 × (Nat → Int32)) :=
  if M_made = 0 then
    bd1 (f_X7_is N v1 (0 : Int32) (3 : Int32)) fun r3 =>
    if r3 = 0 then
      gd (bz (0 : Int32)) <|
      some ((0 : Int32), M_falling)
    else
      gd (ix v1 4) <|
      gd (bz (1 : Int32)) <|
      some ((1 : Int32), (upd M_falling v1.toNatClampNeg (vp_nar .boolean v2)))
  else
    gd (bz (0 : Int32)) <|
    some ((0 : Int32), M_falling)
def f_X7_isRow (N : Nat) (M_rows : Int32) (v1 : Int32) : Option (Int32) :=
  if v1 < 0 then
    gd (bz (0 : Int32)) <|
    some ((0 : Int32))
  else
    if M_rows ≤ v1 then
      gd (bz (0 : Int32)) <|
      some ((0 : Int32))
    else
      gd (bz (1 : Int32)) <|
      some ((1 : Int32))
def f_X7_row (N : Nat) (M_sorts : (Nat → Int32)) (M_values : (Nat → Int32)) (M_rows : Int32) (v1 : Int32) (v2 : Int32) : Option (Int32) :=
  bd1 (f_X7_isRow N M_rows v1) fun r1 =>
  if r1 = 0 then
    some ((-1000000 : Int32))
  else
    bd1 (f_X7_is N v2 (0 : Int32) (1 : Int32)) fun r4 =>
    if r4 = 0 then
      some ((-1000000 : Int32))
    else
      if v2 = 0 then
        gd (ix v1 400) <|
        some ((M_sorts v1.toNatClampNeg))
      else
        gd (ix v1 400) <|
        some ((M_values v1.toNatClampNeg))
def f_X7_ahead (N : Nat) (M_sorts : (Nat → Int32)) (M_values : (Nat → Int32)) (M_placeOf : (Nat → Int32)) (M_falling : (Nat → Int32)) (v1 : Int32) (v2 : Int32) : Option (Int32) :=
  gd (ix v1 400) <|
  gd (ix v2 400) <|
  if (M_sorts v1.toNatClampNeg) = (M_sorts v2.toNatClampNeg) then
    gd (ix v1 400) <|
    gd (ix v2 400) <|
    if (M_values v1.toNatClampNeg) = (M_values v2.toNatClampNeg) then
      if v2 ≤ v1 then
        gd (bz (0 : Int32)) <|
        some ((0 : Int32))
      else
        gd (bz (1 : Int32)) <|
        some ((1 : Int32))
    else
      gd (ix v1 400) <|
      gd (ix v2 400) <|
      bd1 (if (M_values v2.toNatClampNeg) ≤ (M_values v1.toNatClampNeg) then
          some ((0 : Int32))
        else
          some ((1 : Int32)))
        fun y12 =>
      gd (ix v1 400) <|
      gd (ix (M_sorts v1.toNatClampNeg) 4) <|
      if y12 = (M_falling (M_sorts v1.toNatClampNeg).toNatClampNeg) then
        gd (bz (0 : Int32)) <|
        some ((0 : Int32))
      else
        gd (bz (1 : Int32)) <|
        some ((1 : Int32))
  else
    gd (ix v1 400) <|
    gd (ix (M_sorts v1.toNatClampNeg) 4) <|
    gd (ix v2 400) <|
    gd (ix (M_sorts v2.toNatClampNeg) 4) <|
    if (M_placeOf (M_sorts v2.toNatClampNeg).toNatClampNeg) ≤ (M_placeOf (M_sorts v1.toNatClampNeg).toNatClampNeg) then
      gd (bz (0 : Int32)) <|
      some ((0 : Int32))
    else
      gd (bz (1 : Int32)) <|
      some ((1 : Int32))
def f_X7_against (N : Nat) (M_sorts : (Nat → Int32)) (M_values : (Nat → Int32)) (M_rows : Int32) (M_placeOf : (Nat → Int32)) (M_falling : (Nat → Int32)) (v1 : Int32) (v2 : Int32) : Option (Int32) :=
  bd1 (f_X7_isRow N M_rows v1) fun r1 =>
  if r1 = 0 then
    some ((-2 : Int32))
  else
    bd1 (f_X7_isRow N M_rows v2) fun r4 =>
    if r4 = 0 then
      some ((-2 : Int32))
    else
      if v1 = v2 then
        some ((0 : Int32))
      else
        bd1 (f_X7_ahead N M_sorts M_values M_placeOf M_falling v1 v2) fun r8 =>
        if r8 = 0 then
          some ((1 : Int32))
        else
          some ((-1 : Int32))
def l_X7_rank_14 (N : Nat) (M_sorts : (Nat → Int32)) (M_values : (Nat → Int32)) (M_rows : Int32) (M_placeOf : (Nat → Int32)) (M_falling : (Nat → Int32)) (v1 : Int32) : Nat → Int32 → Int32 → Option (Int32)
  | 0, _, _ => none
  | n + 1, v2, v3 =>
    if M_rows ≤ v3 then
      some (v2)
    else
      if v3 = v1 then
        nl (v2 + 0) fun x6 =>
        nl (v3 + 1) fun x7 =>
        l_X7_rank_14 N M_sorts M_values M_rows M_placeOf M_falling v1 n x6 x7
      else
        bd1 (f_X7_ahead N M_sorts M_values M_placeOf M_falling v3 v1) fun r8 =>
        if r8 = 0 then
          nl (v2 + 0) fun x11 =>
          nl (v3 + 1) fun x12 =>
          l_X7_rank_14 N M_sorts M_values M_rows M_placeOf M_falling v1 n x11 x12
        else
          nl (v2 + 1) fun x13 =>
          nl (v3 + 1) fun x14 =>
          l_X7_rank_14 N M_sorts M_values M_rows M_placeOf M_falling v1 n x13 x14
def f_X7_rank (N : Nat) (M_sorts : (Nat → Int32)) (M_values : (Nat → Int32)) (M_rows : Int32) (M_placeOf : (Nat → Int32)) (M_falling : (Nat → Int32)) (v1 : Int32) : Option (Int32) :=
  bd1 (f_X7_isRow N M_rows v1) fun r1 =>
  if r1 = 0 then
    some ((-1 : Int32))
  else
    bd1 (l_X7_rank_14 N M_sorts M_values M_rows M_placeOf M_falling v1 N (0 : Int32) (0 : Int32)) fun e15 =>
    some (e15)
def l_X7_runs_46 (N : Nat) (M_rows : Int32) (v1 : Int32) : Nat → Int32 → Int32 → (Nat → Int32) → Option (Int32 × Int32 × (Nat → Int32))
  | 0, _, _, _ => none
  | n + 1, v2, v3, M_heap =>
    if v1 ≤ v2 then
      some (v2, v3, M_heap)
    else
      if M_rows ≤ v3 then
        some (v2, v3, M_heap)
      else
        gd (ix v2 40) <|
        nl (v2 + 1) fun x7 =>
        nl (v3 + 1) fun x8 =>
        l_X7_runs_46 N M_rows v1 n x7 x8 (upd M_heap v2.toNatClampNeg v3)
def l_X7_runs_88 (N : Nat) (M_sorts : (Nat → Int32)) (M_values : (Nat → Int32)) (M_placeOf : (Nat → Int32)) (M_falling : (Nat → Int32)) (M_heap : (Nat → Int32)) (v2 : Int32) (v4 : Int32) : Nat → Int32 → Int32 → Option (Int32)
  | 0, _, _ => none
  | n + 1, v5, v6 =>
    if v2 ≤ v6 then
      some (v5)
    else
      if v4 = (-1 : Int32) then
        if v5 = (-1 : Int32) then
          nl (v6 + 1) fun x17 =>
          l_X7_runs_88 N M_sorts M_values M_placeOf M_falling M_heap v2 v4 n v6 x17
        else
          gd (ix v6 40) <|
          gd (ix v5 40) <|
          bd1 (f_X7_ahead N M_sorts M_values M_placeOf M_falling (M_heap v6.toNatClampNeg) (M_heap v5.toNatClampNeg)) fun r20 =>
          if r20 = 0 then
            nl (v6 + 1) fun x23 =>
            l_X7_runs_88 N M_sorts M_values M_placeOf M_falling M_heap v2 v4 n v5 x23
          else
            nl (v6 + 1) fun x24 =>
            l_X7_runs_88 N M_sorts M_values M_placeOf M_falling M_heap v2 v4 n v6 x24
      else
        gd (ix v6 40) <|
        bd1 (f_X7_ahead N M_sorts M_values M_placeOf M_falling (M_heap v6.toNatClampNeg) v4) fun r26 =>
        if r26 = 0 then
          if v5 = (-1 : Int32) then
            nl (v6 + 1) fun x30 =>
            l_X7_runs_88 N M_sorts M_values M_placeOf M_falling M_heap v2 v4 n v6 x30
          else
            gd (ix v6 40) <|
            gd (ix v5 40) <|
            bd1 (f_X7_ahead N M_sorts M_values M_placeOf M_falling (M_heap v6.toNatClampNeg) (M_heap v5.toNatClampNeg)) fun r33 =>
            if r33 = 0 then
              nl (v6 + 1) fun x36 =>
              l_X7_runs_88 N M_sorts M_values M_placeOf M_falling M_heap v2 v4 n v5 x36
            else
              nl (v6 + 1) fun x37 =>
              l_X7_runs_88 N M_sorts M_values M_placeOf M_falling M_heap v2 v4 n v6 x37
        else
          nl (v6 + 1) fun x38 =>
          l_X7_runs_88 N M_sorts M_values M_placeOf M_falling M_heap v2 v4 n v5 x38
def l_X7_runs_78 (N : Nat) (M_sorts : (Nat → Int32)) (M_values : (Nat → Int32)) (M_rows : Int32) (M_placeOf : (Nat → Int32)) (M_falling : (Nat → Int32)) : Nat → Int32 → Int32 → Int32 → Int32 → (Nat → Int32) → (Nat → Int32) → (Nat → Int32) → Int32 → (Nat → Int32) → Option (Int32 × (Nat → Int32) × (Nat → Int32) × (Nat → Int32) × Int32 × (Nat → Int32))
  | 0, _, _, _, _, _, _, _, _, _ => none
  | n + 1, v2, v3, v4, M_runs, M_begin, M_size, M_pool, M_pooled, M_heap =>
    if v2 ≤ 0 then
      some (M_runs, M_begin, M_size, M_pool, M_pooled, M_heap)
    else
      bd1 (l_X7_runs_88 N M_sorts M_values M_placeOf M_falling M_heap v2 v4 N (-1 : Int32) (0 : Int32)) fun e39 =>
      if e39 = (-1 : Int32) then
        l_X7_runs_78 N M_sorts M_values M_rows M_placeOf M_falling n v2 v3 (-1 : Int32) M_runs M_begin M_size M_pool M_pooled M_heap
      else
        bd3 (if v4 = (-1 : Int32) then
            gd (ix M_runs 800) <|
            gd (ix M_runs 800) <|
            nl (M_runs + 1) fun x63 =>
            some (x63, (upd M_begin M_runs.toNatClampNeg M_pooled), (upd M_size M_runs.toNatClampNeg 0))
          else
            some (M_runs, M_begin, M_size))
          fun y42 y43 y44 =>
        gd (ix e39 40) <|
        nl (M_heap e39.toNatClampNeg) fun x47 =>
        gd (ix M_pooled 40000) <|
        nl (M_pooled + 1) fun x49 =>
        gd (ix (y42 - 1) 800) <|
        nl ((y44 (y42 - 1).toNatClampNeg) + 1) fun x51 =>
        gd (ix (y42 - 1) 800) <|
        if M_rows ≤ v3 then
          nl (v2 + (-1)) fun x54 =>
          gd (ix x54 40) <|
          nl (M_heap x54.toNatClampNeg) fun x56 =>
          gd (ix e39 40) <|
          l_X7_runs_78 N M_sorts M_values M_rows M_placeOf M_falling n x54 v3 x47 y42 y43 (upd y44 (y42 - 1).toNatClampNeg x51) (upd M_pool M_pooled.toNatClampNeg x47) x49 (upd M_heap e39.toNatClampNeg x56)
        else
          gd (ix e39 40) <|
          nl (v3 + 1) fun x59 =>
          l_X7_runs_78 N M_sorts M_values M_rows M_placeOf M_falling n v2 x59 x47 y42 y43 (upd y44 (y42 - 1).toNatClampNeg x51) (upd M_pool M_pooled.toNatClampNeg x47) x49 (upd M_heap e39.toNatClampNeg v3)
def f_X7_runs (N : Nat) (M_sorts : (Nat → Int32)) (M_values : (Nat → Int32)) (M_rows : Int32) (M_placeOf : (Nat → Int32)) (M_falling : (Nat → Int32)) (M_made : Int32) (M_runs : Int32) (M_allRuns : Int32) (M_begin : (Nat → Int32)) (M_size : (Nat → Int32)) (M_pool : (Nat → Int32)) (M_pooled : Int32) (M_ways : Int32) (M_merges : Int32) (M_parts : Int32) (M_samples : Int32) (M_heap : (Nat → Int32)) (v1 : Int32) : Option (Int32 × Int32 × Int32 × Int32 × (Nat → Int32) × (Nat → Int32) × (Nat → Int32) × Int32 × Int32 × Int32 × Int32 × Int32 × (Nat → Int32)) :=
  bd1 (f_X7_is N v1 (1 : Int32) (40 : Int32)) fun r1 =>
  if r1 = 0 then
    some ((-1 : Int32), M_made, M_runs, M_allRuns, M_begin, M_size, M_pool, M_pooled, M_ways, M_merges, M_parts, M_samples, M_heap)
  else
    bd3 (l_X7_runs_46 N M_rows v1 N (0 : Int32) (0 : Int32) M_heap) fun e9 e10 e11 =>
    bd6 (l_X7_runs_78 N M_sorts M_values M_rows M_placeOf M_falling N e9 e10 (-1 : Int32) 0 M_begin M_size M_pool 0 e11) fun e64 e65 e66 e67 e68 e69 =>
    if e64 ≤ 0 then
      some (e64, 0, e64, e64, e65, e66, e67, e68, (-1), 0, 0, 0, e69)
    else
      some (e64, 1, e64, e64, e65, e66, e67, e68, (-1), 0, 0, 0, e69)
def f_X7_length (N : Nat) (M_allRuns : Int32) (M_size : (Nat → Int32)) (v1 : Int32) : Option (Int32) :=
  if v1 < 0 then
    some ((-1 : Int32))
  else
    if v1 < M_allRuns then
      gd (ix v1 800) <|
      some ((M_size v1.toNatClampNeg))
    else
      some ((-1 : Int32))
def f_X7_at (N : Nat) (M_allRuns : Int32) (M_begin : (Nat → Int32)) (M_size : (Nat → Int32)) (M_pool : (Nat → Int32)) (v1 : Int32) (v2 : Int32) : Option (Int32) :=
  if v1 < 0 then
    some ((-1 : Int32))
  else
    if M_allRuns ≤ v1 then
      some ((-1 : Int32))
    else
      if v2 < 0 then
        some ((-1 : Int32))
      else
        gd (ix v1 800) <|
        if v2 < (M_size v1.toNatClampNeg) then
          gd (ix v1 800) <|
          gd (ix ((M_begin v1.toNatClampNeg) + v2) 40000) <|
          some ((M_pool ((M_begin v1.toNatClampNeg) + v2).toNatClampNeg))
        else
          some ((-1 : Int32))
def l_X7_moves_9 (N : Nat) (M_size : (Nat → Int32)) (v4 : Int32) : Nat → Int32 → (Nat → Int32) → (Nat → Int32) → Option ((Nat → Int32) × (Nat → Int32))
  | 0, _, _, _ => none
  | n + 1, v5, M_used, M_planned =>
    if v4 ≤ v5 then
      some (M_used, M_planned)
    else
      gd (ix v5 800) <|
      nl (M_size v5.toNatClampNeg) fun x3 =>
      gd (ix v5 800) <|
      gd (ix v5 800) <|
      nl (v5 + 1) fun x6 =>
      l_X7_moves_9 N M_size v4 n x6 (upd M_used v5.toNatClampNeg (vp_nar .boolean 0)) (upd M_planned v5.toNatClampNeg x3)
def l_X7_moves_119 (N : Nat) (M_used : (Nat → Int32)) (M_planned : (Nat → Int32)) (v2 : Int32) (v4 : Int32) (v7 : Int32) : Nat → Int32 → Int32 → Option (Int32)
  | 0, _, _ => none
  | n + 1, v10, v11 =>
    if (v4 + v7) ≤ v11 then
      some (v10)
    else
      gd (ix v11 800) <|
      if (M_used v11.toNatClampNeg) = 0 then
        if v10 = (-1 : Int32) then
          nl (v11 + 1) fun x20 =>
          l_X7_moves_119 N M_used M_planned v2 v4 v7 n v11 x20
        else
          if v2 = 0 then
            nl (v11 + 1) fun x22 =>
            l_X7_moves_119 N M_used M_planned v2 v4 v7 n v10 x22
          else
            gd (ix v11 800) <|
            gd (ix v10 800) <|
            if (M_planned v10.toNatClampNeg) ≤ (M_planned v11.toNatClampNeg) then
              nl (v11 + 1) fun x26 =>
              l_X7_moves_119 N M_used M_planned v2 v4 v7 n v10 x26
            else
              nl (v11 + 1) fun x27 =>
              l_X7_moves_119 N M_used M_planned v2 v4 v7 n v11 x27
      else
        nl (v11 + 1) fun x28 =>
        l_X7_moves_119 N M_used M_planned v2 v4 v7 n v10 x28
def l_X7_moves_106 (N : Nat) (v2 : Int32) (v3 : Int32) (v4 : Int32) (v7 : Int32) (v8 : Int32) : Nat → Int32 → (Nat → Int32) → (Nat → Int32) → (Nat → Int32) → Option ((Nat → Int32) × (Nat → Int32) × (Nat → Int32))
  | 0, _, _, _, _ => none
  | n + 1, v9, M_taken, M_used, M_planned =>
    if v8 ≤ v9 then
      some (M_taken, M_used, M_planned)
    else
      bd1 (l_X7_moves_119 N M_used M_planned v2 v4 v7 N (-1 : Int32) (0 : Int32)) fun e29 =>
      gd (ix e29 800) <|
      gd (ix (v4 + v7) 800) <|
      gd (ix e29 800) <|
      nl ((M_planned (v4 + v7).toNatClampNeg) + (M_planned e29.toNatClampNeg)) fun x34 =>
      gd (ix (v4 + v7) 800) <|
      if v3 = 0 then
        nl (v9 + 1) fun x37 =>
        l_X7_moves_106 N v2 v3 v4 v7 v8 n x37 M_taken (upd M_used e29.toNatClampNeg (vp_nar .boolean 1)) (upd M_planned (v4 + v7).toNatClampNeg x34)
      else
        gd (ix ((8 * v7) + v9) 3200) <|
        nl (v9 + 1) fun x39 =>
        l_X7_moves_106 N v2 v3 v4 v7 v8 n x39 (upd M_taken ((8 * v7) + v9).toNatClampNeg e29) (upd M_used e29.toNatClampNeg (vp_nar .boolean 1)) (upd M_planned (v4 + v7).toNatClampNeg x34)
def l_X7_moves_54 (N : Nat) (v1 : Int32) (v2 : Int32) (v3 : Int32) (v4 : Int32) : Nat → Int32 → Int32 → Int32 → (Nat → Int32) → (Nat → Int32) → (Nat → Int32) → (Nat → Int32) → Option (Int32 × Int32 × (Nat → Int32) × (Nat → Int32) × (Nat → Int32) × (Nat → Int32))
  | 0, _, _, _, _, _, _, _ => none
  | n + 1, v5, v6, v7, M_takes, M_taken, M_used, M_planned =>
    if v5 ≤ (1 : Int32) then
      some (v6, v7, M_takes, M_taken, M_used, M_planned)
    else
      bd1 (if v7 = 0 then
          gd (nz (v1 - 1)) <|
          some ((2 + ((v4 - 2) - (v4 - 2) / (v1 - 1) * (v1 - 1))))
        else
          some (v1))
        fun y11 =>
      gd (ix (v4 + v7) 800) <|
      gd (ix (v4 + v7) 800) <|
      bd3 (l_X7_moves_106 N v2 v3 v4 v7 y11 N (0 : Int32) M_taken (upd M_used (v4 + v7).toNatClampNeg (vp_nar .boolean 0)) (upd M_planned (v4 + v7).toNatClampNeg 0)) fun e40 e41 e42 =>
      bd1 (if v3 = 0 then
          some (M_takes)
        else
          gd (ix v7 400) <|
          some ((upd M_takes v7.toNatClampNeg y11)))
        fun y44 =>
      gd (ix (v4 + v7) 800) <|
      nl (v6 + (e42 (v4 + v7).toNatClampNeg)) fun x47 =>
      nl (v5 - (y11 - 1)) fun x48 =>
      nl (v7 + 1) fun x49 =>
      l_X7_moves_54 N v1 v2 v3 v4 n x48 x47 x49 y44 e40 e41 e42
def f_X7_moves (N : Nat) (M_runs : Int32) (M_size : (Nat → Int32)) (M_merges : Int32) (M_takes : (Nat → Int32)) (M_taken : (Nat → Int32)) (M_used : (Nat → Int32)) (M_planned : (Nat → Int32)) (v1 : Int32) (v2 : Int32) (v3 : Int32) : Option (Int32 × Int32 × (Nat → Int32) × (Nat → Int32) × (Nat → Int32) × (Nat → Int32)) :=
  bd2 (l_X7_moves_9 N M_size M_runs N (0 : Int32) M_used M_planned) fun e7 e8 =>
  bd6 (l_X7_moves_54 N v1 v2 v3 M_runs N M_runs (0 : Int32) (0 : Int32) M_takes M_taken e7 e8) fun e54 e55 e56 e57 e58 e59 =>
  if v3 = 0 then
    some (e54, M_merges, e56, e57, e58, e59)
  else
    some (e54, e55, e56, e57, e58, e59)
def f_X7_plan (N : Nat) (M_made : Int32) (M_runs : Int32) (M_allRuns : Int32) (M_begin : (Nat → Int32)) (M_size : (Nat → Int32)) (M_pooled : Int32) (M_ways : Int32) (M_merges : Int32) (M_takes : (Nat → Int32)) (M_taken : (Nat → Int32)) (M_used : (Nat → Int32)) (M_planned : (Nat → Int32)) (v1 : Int32) : Option (Int32 × Int32 × Int32 × Int32 × Int32 × (Nat → Int32) × (Nat → Int32) × (Nat → Int32) × (Nat → Int32)) :=
  if M_made = 0 then
    some ((-1 : Int32), M_allRuns, M_pooled, M_ways, M_merges, M_takes, M_taken, M_used, M_planned)
  else
    bd1 (f_X7_is N v1 (2 : Int32) (8 : Int32)) fun r2 =>
    if r2 = 0 then
      some ((-1 : Int32), M_allRuns, M_pooled, M_ways, M_merges, M_takes, M_taken, M_used, M_planned)
    else
      bd1 (if M_runs = 0 then
          some ((0 : Int32))
        else
          gd (ix (M_runs - 1) 800) <|
          gd (ix (M_runs - 1) 800) <|
          some (((M_begin (M_runs - 1).toNatClampNeg) + (M_size (M_runs - 1).toNatClampNeg))))
        fun y5 =>
      bd6 (f_X7_moves N M_runs M_size M_merges M_takes M_taken M_used M_planned v1 (1 : Int32) (1 : Int32)) fun r7 c8 c9 c10 c11 c12 =>
      some (r7, M_runs, y5, v1, c8, c9, c10, c11, c12)
def f_X7_queue (N : Nat) (M_made : Int32) (M_runs : Int32) (M_size : (Nat → Int32)) (M_merges : Int32) (M_takes : (Nat → Int32)) (M_taken : (Nat → Int32)) (M_used : (Nat → Int32)) (M_planned : (Nat → Int32)) (v1 : Int32) : Option (Int32 × Int32 × (Nat → Int32) × (Nat → Int32) × (Nat → Int32) × (Nat → Int32)) :=
  if M_made = 0 then
    some ((-1 : Int32), M_merges, M_takes, M_taken, M_used, M_planned)
  else
    bd1 (f_X7_is N v1 (2 : Int32) (8 : Int32)) fun r2 =>
    if r2 = 0 then
      some ((-1 : Int32), M_merges, M_takes, M_taken, M_used, M_planned)
    else
      bd6 (f_X7_moves N M_runs M_size M_merges M_takes M_taken M_used M_planned v1 (0 : Int32) (0 : Int32)) fun r5 c6 c7 c8 c9 c10 =>
      some (r5, c6, c7, c8, c9, c10)
def f_X7_merges (N : Nat) (M_merges : Int32)  : Option (Int32) :=
  some (M_merges)
def f_X7_takes (N : Nat) (M_merges : Int32) (M_takes : (Nat → Int32)) (M_taken : (Nat → Int32)) (v1 : Int32) (v2 : Int32) : Option (Int32) :=
  if v1 < 0 then
    some ((-1 : Int32))
  else
    if M_merges ≤ v1 then
      some ((-1 : Int32))
    else
      if v2 < 0 then
        some ((-1 : Int32))
      else
        gd (ix v1 400) <|
        if v2 < (M_takes v1.toNatClampNeg) then
          gd (ix ((8 * v1) + v2) 3200) <|
          some ((M_taken ((8 * v1) + v2).toNatClampNeg))
        else
          some ((-1 : Int32))
def l_X7_merge_70 (N : Nat)  : Nat → Int32 → (Nat → Int32) → Option ((Nat → Int32))
  | 0, _, _ => none
  | n + 1, v3, M_gone =>
    if (8 : Int32) ≤ v3 then
      some (M_gone)
    else
      gd (ix v3 8) <|
      nl (v3 + 1) fun x7 =>
      l_X7_merge_70 N n x7 (upd M_gone v3.toNatClampNeg 0)
def l_X7_merge_128 (N : Nat) (M_sorts : (Nat → Int32)) (M_values : (Nat → Int32)) (M_placeOf : (Nat → Int32)) (M_falling : (Nat → Int32)) (M_begin : (Nat → Int32)) (M_size : (Nat → Int32)) (M_pool : (Nat → Int32)) (M_takes : (Nat → Int32)) (M_taken : (Nat → Int32)) (M_gone : (Nat → Int32)) (v2 : Int32) : Nat → Int32 → Int32 → Int32 → Option (Int32 × Int32)
  | 0, _, _, _ => none
  | n + 1, v5, v6, v7 =>
    gd (ix v2 400) <|
    if (M_takes v2.toNatClampNeg) ≤ v7 then
      some (v5, v6)
    else
      gd (ix ((8 * v2) + v7) 3200) <|
      nl (M_taken ((8 * v2) + v7).toNatClampNeg) fun x16 =>
      gd (ix v7 8) <|
      gd (ix x16 800) <|
      if (M_gone v7.toNatClampNeg) = (M_size x16.toNatClampNeg) then
        nl (v7 + 1) fun x35 =>
        l_X7_merge_128 N M_sorts M_values M_placeOf M_falling M_begin M_size M_pool M_takes M_taken M_gone v2 n v5 v6 x35
      else
        nl (v6 + 1) fun x20 =>
        if v5 = (-1 : Int32) then
          nl (v7 + 1) fun x22 =>
          l_X7_merge_128 N M_sorts M_values M_placeOf M_falling M_begin M_size M_pool M_takes M_taken M_gone v2 n v7 x20 x22
        else
          gd (ix x16 800) <|
          gd (ix v7 8) <|
          gd (ix ((M_begin x16.toNatClampNeg) + (M_gone v7.toNatClampNeg)) 40000) <|
          gd (ix ((8 * v2) + v5) 3200) <|
          gd (ix (M_taken ((8 * v2) + v5).toNatClampNeg) 800) <|
          gd (ix v5 8) <|
          gd (ix ((M_begin (M_taken ((8 * v2) + v5).toNatClampNeg).toNatClampNeg) + (M_gone v5.toNatClampNeg)) 40000) <|
          bd1 (f_X7_ahead N M_sorts M_values M_placeOf M_falling (M_pool ((M_begin x16.toNatClampNeg) + (M_gone v7.toNatClampNeg)).toNatClampNeg) (M_pool ((M_begin (M_taken ((8 * v2) + v5).toNatClampNeg).toNatClampNeg) + (M_gone v5.toNatClampNeg)).toNatClampNeg)) fun r30 =>
          if r30 = 0 then
            nl (v7 + 1) fun x33 =>
            l_X7_merge_128 N M_sorts M_values M_placeOf M_falling M_begin M_size M_pool M_takes M_taken M_gone v2 n v5 x20 x33
          else
            nl (v7 + 1) fun x34 =>
            l_X7_merge_128 N M_sorts M_values M_placeOf M_falling M_begin M_size M_pool M_takes M_taken M_gone v2 n v7 x20 x34
def l_X7_merge_114 (N : Nat) (M_sorts : (Nat → Int32)) (M_values : (Nat → Int32)) (M_placeOf : (Nat → Int32)) (M_falling : (Nat → Int32)) (M_begin : (Nat → Int32)) (M_takes : (Nat → Int32)) (M_taken : (Nat → Int32)) (v2 : Int32) (v3 : Int32) : Nat → Int32 → Int32 → (Nat → Int32) → (Nat → Int32) → Int32 → (Nat → Int32) → Option (Int32 × (Nat → Int32) × (Nat → Int32) × Int32 × (Nat → Int32))
  | 0, _, _, _, _, _, _ => none
  | n + 1, v1, v4, M_size, M_pool, M_pooled, M_gone =>
    if v4 = 0 then
      some (v1, M_size, M_pool, M_pooled, M_gone)
    else
      bd2 (l_X7_merge_128 N M_sorts M_values M_placeOf M_falling M_begin M_size M_pool M_takes M_taken M_gone v2 N (-1 : Int32) (0 : Int32) (0 : Int32)) fun e36 e37 =>
      bd1 (if e36 = (-1 : Int32) then
          some ((0 : Int32))
        else
          some ((1 : Int32)))
        fun y39 =>
      if y39 = 0 then
        l_X7_merge_114 N M_sorts M_values M_placeOf M_falling M_begin M_takes M_taken v2 v3 n v1 y39 M_size M_pool M_pooled M_gone
      else
        nl (v1 + (e37 - 1)) fun x42 =>
        gd (ix ((8 * v2) + e36) 3200) <|
        gd (ix (M_taken ((8 * v2) + e36).toNatClampNeg) 800) <|
        gd (ix e36 8) <|
        gd (ix ((M_begin (M_taken ((8 * v2) + e36).toNatClampNeg).toNatClampNeg) + (M_gone e36.toNatClampNeg)) 40000) <|
        nl (M_pool ((M_begin (M_taken ((8 * v2) + e36).toNatClampNeg).toNatClampNeg) + (M_gone e36.toNatClampNeg)).toNatClampNeg) fun x47 =>
        gd (ix M_pooled 40000) <|
        nl (M_pooled + 1) fun x49 =>
        gd (ix v3 800) <|
        nl ((M_size v3.toNatClampNeg) + 1) fun x51 =>
        gd (ix v3 800) <|
        gd (ix e36 8) <|
        nl ((M_gone e36.toNatClampNeg) + 1) fun x54 =>
        gd (ix e36 8) <|
        l_X7_merge_114 N M_sorts M_values M_placeOf M_falling M_begin M_takes M_taken v2 v3 n x42 y39 (upd M_size v3.toNatClampNeg x51) (upd M_pool M_pooled.toNatClampNeg x47) x49 (upd M_gone e36.toNatClampNeg x54)
def l_X7_merge_60 (N : Nat) (M_sorts : (Nat → Int32)) (M_values : (Nat → Int32)) (M_placeOf : (Nat → Int32)) (M_falling : (Nat → Int32)) (M_merges : Int32) (M_takes : (Nat → Int32)) (M_taken : (Nat → Int32)) : Nat → Int32 → Int32 → Int32 → (Nat → Int32) → (Nat → Int32) → (Nat → Int32) → Int32 → (Nat → Int32) → Option (Int32 × Int32 × (Nat → Int32) × (Nat → Int32) × (Nat → Int32) × Int32 × (Nat → Int32))
  | 0, _, _, _, _, _, _, _, _ => none
  | n + 1, v1, v2, M_allRuns, M_begin, M_size, M_pool, M_pooled, M_gone =>
    if M_merges ≤ v2 then
      some (v1, M_allRuns, M_begin, M_size, M_pool, M_pooled, M_gone)
    else
      bd1 (l_X7_merge_70 N N (0 : Int32) M_gone) fun e8 =>
      gd (ix M_allRuns 800) <|
      gd (ix M_allRuns 800) <|
      bd5 (l_X7_merge_114 N M_sorts M_values M_placeOf M_falling (upd M_begin M_allRuns.toNatClampNeg M_pooled) M_takes M_taken v2 M_allRuns N v1 (1 : Int32) (upd M_size M_allRuns.toNatClampNeg 0) M_pool M_pooled e8) fun e57 e58 e59 e60 e61 =>
      nl (M_allRuns + 1) fun x63 =>
      nl (v2 + 1) fun x64 =>
      l_X7_merge_60 N M_sorts M_values M_placeOf M_falling M_merges M_takes M_taken n e57 x64 x63 (upd M_begin M_allRuns.toNatClampNeg M_pooled) e58 e59 e60 e61
def f_X7_merge (N : Nat) (M_sorts : (Nat → Int32)) (M_values : (Nat → Int32)) (M_placeOf : (Nat → Int32)) (M_falling : (Nat → Int32)) (M_runs : Int32) (M_allRuns : Int32) (M_begin : (Nat → Int32)) (M_size : (Nat → Int32)) (M_pool : (Nat → Int32)) (M_pooled : Int32) (M_ways : Int32) (M_merges : Int32) (M_takes : (Nat → Int32)) (M_taken : (Nat → Int32)) (M_gone : (Nat → Int32))  : Option (Int32 × Int32 × (Nat → Int32) × (Nat → Int32) × (Nat → Int32) × Int32 × (Nat → Int32)) :=
  if M_ways = (-1 : Int32) then
    some ((-1 : Int32), M_allRuns, M_begin, M_size, M_pool, M_pooled, M_gone)
  else
    bd1 (if M_runs = 0 then
        some ((0 : Int32))
      else
        gd (ix (M_runs - 1) 800) <|
        gd (ix (M_runs - 1) 800) <|
        some (((M_begin (M_runs - 1).toNatClampNeg) + (M_size (M_runs - 1).toNatClampNeg))))
      fun y2 =>
    bd7 (l_X7_merge_60 N M_sorts M_values M_placeOf M_falling M_merges M_takes M_taken N (0 : Int32) (0 : Int32) M_runs M_begin M_size M_pool y2 M_gone) fun e65 e66 e67 e68 e69 e70 e71 =>
    some (e65, e66, e67, e68, e69, e70, e71)
def f_X7_isIn (N : Nat) (M_sorts : (Nat → Int32)) (M_values : (Nat → Int32)) (M_placeOf : (Nat → Int32)) (M_falling : (Nat → Int32)) (M_parts : Int32) (M_ends : (Nat → Int32)) (v1 : Int32) (v2 : Int32) : Option (Int32) :=
  if v2 ≤ 0 then
    if v2 = (M_parts - 1) then
      gd (bz (1 : Int32)) <|
      some ((1 : Int32))
    else
      gd (ix v2 8) <|
      if (M_ends v2.toNatClampNeg) = (-1 : Int32) then
        gd (bz (0 : Int32)) <|
        some ((0 : Int32))
      else
        gd (ix v2 8) <|
        bd1 (f_X7_ahead N M_sorts M_values M_placeOf M_falling (M_ends v2.toNatClampNeg) v1) fun r7 =>
        if r7 = 0 then
          gd (bz (1 : Int32)) <|
          some ((1 : Int32))
        else
          gd (bz (0 : Int32)) <|
          some ((0 : Int32))
  else
    gd (ix (v2 - 1) 8) <|
    if (M_ends (v2 - 1).toNatClampNeg) = (-1 : Int32) then
      if v2 = (M_parts - 1) then
        gd (bz (1 : Int32)) <|
        some ((1 : Int32))
      else
        gd (ix v2 8) <|
        if (M_ends v2.toNatClampNeg) = (-1 : Int32) then
          gd (bz (0 : Int32)) <|
          some ((0 : Int32))
        else
          gd (ix v2 8) <|
          bd1 (f_X7_ahead N M_sorts M_values M_placeOf M_falling (M_ends v2.toNatClampNeg) v1) fun r20 =>
          if r20 = 0 then
            gd (bz (1 : Int32)) <|
            some ((1 : Int32))
          else
            gd (bz (0 : Int32)) <|
            some ((0 : Int32))
    else
      gd (ix (v2 - 1) 8) <|
      bd1 (f_X7_ahead N M_sorts M_values M_placeOf M_falling (M_ends (v2 - 1).toNatClampNeg) v1) fun r27 =>
      if r27 = 0 then
        gd (bz (0 : Int32)) <|
        some ((0 : Int32))
      else
        if v2 = (M_parts - 1) then
          gd (bz (1 : Int32)) <|
          some ((1 : Int32))
        else
          gd (ix v2 8) <|
          if (M_ends v2.toNatClampNeg) = (-1 : Int32) then
            gd (bz (0 : Int32)) <|
            some ((0 : Int32))
          else
            gd (ix v2 8) <|
            bd1 (f_X7_ahead N M_sorts M_values M_placeOf M_falling (M_ends v2.toNatClampNeg) v1) fun r35 =>
            if r35 = 0 then
              gd (bz (1 : Int32)) <|
              some ((1 : Int32))
            else
              gd (bz (0 : Int32)) <|
              some ((0 : Int32))
def l_X7_left_4 (N : Nat) (M_parts : Int32) (M_partSize : (Nat → Int32)) (M_merged : (Nat → Int32)) (M_on : (Nat → Int32)) (v1 : Int32) : Nat → Int32 → Int32 → Option (Int32)
  | 0, _, _ => none
  | n + 1, v2, v3 =>
    if M_parts ≤ v3 then
      some (v2)
    else
      gd (ix v3 8) <|
      if (M_on v3.toNatClampNeg) = v1 then
        gd (ix v3 8) <|
        gd (ix v3 8) <|
        nl (v2 + ((M_partSize v3.toNatClampNeg) - (M_merged v3.toNatClampNeg))) fun x8 =>
        nl (v3 + 1) fun x9 =>
        l_X7_left_4 N M_parts M_partSize M_merged M_on v1 n x8 x9
      else
        nl (v2 + 0) fun x4 =>
        nl (v3 + 1) fun x5 =>
        l_X7_left_4 N M_parts M_partSize M_merged M_on v1 n x4 x5
def f_X7_left (N : Nat) (M_parts : Int32) (M_partSize : (Nat → Int32)) (M_merged : (Nat → Int32)) (M_on : (Nat → Int32)) (v1 : Int32) : Option (Int32) :=
  bd1 (l_X7_left_4 N M_parts M_partSize M_merged M_on v1 N (0 : Int32) (0 : Int32)) fun e10 =>
  some (e10)
def l_X7_leaves_55 (N : Nat) (M_parts : Int32) (M_partSize : (Nat → Int32)) (M_merged : (Nat → Int32)) (M_on : (Nat → Int32)) (M_up : (Nat → Int32)) : Nat → Int32 → Int32 → Option (Int32)
  | 0, _, _ => none
  | n + 1, v4, v5 =>
    if (8 : Int32) ≤ v5 then
      some (v4)
    else
      gd (ix v5 8) <|
      if (M_up v5.toNatClampNeg) = 0 then
        nl (v5 + 1) fun x11 =>
        l_X7_leaves_55 N M_parts M_partSize M_merged M_on M_up n v4 x11
      else
        if v4 = (-1 : Int32) then
          nl (v5 + 1) fun x13 =>
          l_X7_leaves_55 N M_parts M_partSize M_merged M_on M_up n v5 x13
        else
          bd1 (f_X7_left N M_parts M_partSize M_merged M_on v5) fun r14 =>
          bd1 (f_X7_left N M_parts M_partSize M_merged M_on v4) fun r16 =>
          if r16 ≤ r14 then
            nl (v5 + 1) fun x19 =>
            l_X7_leaves_55 N M_parts M_partSize M_merged M_on M_up n v4 x19
          else
            nl (v5 + 1) fun x20 =>
            l_X7_leaves_55 N M_parts M_partSize M_merged M_on M_up n v5 x20
def l_X7_leaves_4 (N : Nat) (M_parts : Int32) (M_partSize : (Nat → Int32)) (M_up : (Nat → Int32)) (v1 : Int32) : Nat → Int32 → Int32 → (Nat → Int32) → (Nat → Int32) → (Nat → Int32) → Option (Int32 × (Nat → Int32) × (Nat → Int32) × (Nat → Int32))
  | 0, _, _, _, _, _ => none
  | n + 1, v2, v3, M_merged, M_done, M_on =>
    if M_parts ≤ v3 then
      some (v2, M_merged, M_done, M_on)
    else
      gd (ix v3 8) <|
      if (M_on v3.toNatClampNeg) = v1 then
        nl (v2 + 1) fun x4 =>
        gd (ix v3 8) <|
        gd (ix v3 8) <|
        gd (ix v3 8) <|
        bd1 (l_X7_leaves_55 N M_parts M_partSize (upd M_merged v3.toNatClampNeg 0) (upd M_on v3.toNatClampNeg (-1)) M_up N (-1 : Int32) (0 : Int32)) fun e21 =>
        gd (ix v3 8) <|
        nl (v3 + 1) fun x24 =>
        l_X7_leaves_4 N M_parts M_partSize M_up v1 n x4 x24 (upd M_merged v3.toNatClampNeg 0) (upd M_done v3.toNatClampNeg (vp_nar .boolean 0)) (upd (upd M_on v3.toNatClampNeg (-1)) v3.toNatClampNeg e21)
      else
        nl (v3 + 1) fun x25 =>
        l_X7_leaves_4 N M_parts M_partSize M_up v1 n v2 x25 M_merged M_done M_on
def f_X7_leaves (N : Nat) (M_parts : Int32) (M_partSize : (Nat → Int32)) (M_merged : (Nat → Int32)) (M_done : (Nat → Int32)) (M_on : (Nat → Int32)) (M_up : (Nat → Int32)) (v1 : Int32) : Option (Int32 × (Nat → Int32) × (Nat → Int32) × (Nat → Int32)) :=
  bd4 (l_X7_leaves_4 N M_parts M_partSize M_up v1 N (0 : Int32) (0 : Int32) M_merged M_done M_on) fun e26 e27 e28 e29 =>
  some (e26, e27, e28, e29)
def l_X7_cut_92 (N : Nat) (M_sorts : (Nat → Int32)) (M_values : (Nat → Int32)) (M_placeOf : (Nat → Int32)) (M_falling : (Nat → Int32)) (v5 : Int32) : Nat → Int32 → (Nat → Int32) → Option (Int32 × (Nat → Int32))
  | 0, _, _ => none
  | n + 1, v6, M_sample =>
    if v6 ≤ 0 then
      some (v6, M_sample)
    else
      gd (ix (v6 - 1) 400) <|
      bd1 (f_X7_ahead N M_sorts M_values M_placeOf M_falling v5 (M_sample (v6 - 1).toNatClampNeg)) fun r17 =>
      if r17 = 0 then
        some (v6, M_sample)
      else
        gd (ix (v6 - 1) 400) <|
        nl (M_sample (v6 - 1).toNatClampNeg) fun x21 =>
        gd (ix v6 400) <|
        nl (v6 + (-1)) fun x23 =>
        l_X7_cut_92 N M_sorts M_values M_placeOf M_falling v5 n x23 (upd M_sample v6.toNatClampNeg x21)
def l_X7_cut_59 (N : Nat) (M_sorts : (Nat → Int32)) (M_values : (Nat → Int32)) (M_placeOf : (Nat → Int32)) (M_falling : (Nat → Int32)) (M_begin : (Nat → Int32)) (M_size : (Nat → Int32)) (M_pool : (Nat → Int32)) (v2 : Int32) (v3 : Int32) : Nat → Int32 → Int32 → (Nat → Int32) → Option (Int32 × (Nat → Int32))
  | 0, _, _, _ => none
  | n + 1, v4, M_samples, M_sample =>
    gd (ix v3 800) <|
    if (M_size v3.toNatClampNeg) ≤ v4 then
      some (M_samples, M_sample)
    else
      gd (ix v3 800) <|
      gd (ix ((M_begin v3.toNatClampNeg) + v4) 40000) <|
      nl (M_pool ((M_begin v3.toNatClampNeg) + v4).toNatClampNeg) fun x14 =>
      bd2 (l_X7_cut_92 N M_sorts M_values M_placeOf M_falling x14 N M_samples M_sample) fun e24 e25 =>
      gd (ix e24 400) <|
      nl (M_samples + 1) fun x28 =>
      nl (v4 + v2) fun x29 =>
      l_X7_cut_59 N M_sorts M_values M_placeOf M_falling M_begin M_size M_pool v2 v3 n x29 x28 (upd e25 e24.toNatClampNeg x14)
def l_X7_cut_46 (N : Nat) (M_sorts : (Nat → Int32)) (M_values : (Nat → Int32)) (M_placeOf : (Nat → Int32)) (M_falling : (Nat → Int32)) (M_runs : Int32) (M_begin : (Nat → Int32)) (M_size : (Nat → Int32)) (M_pool : (Nat → Int32)) (v2 : Int32) : Nat → Int32 → Int32 → (Nat → Int32) → Option (Int32 × (Nat → Int32))
  | 0, _, _, _ => none
  | n + 1, v3, M_samples, M_sample =>
    if M_runs ≤ v3 then
      some (M_samples, M_sample)
    else
      nl (v2 - 1) fun x9 =>
      bd2 (l_X7_cut_59 N M_sorts M_values M_placeOf M_falling M_begin M_size M_pool v2 v3 N x9 M_samples M_sample) fun e30 e31 =>
      nl (v3 + 1) fun x33 =>
      l_X7_cut_46 N M_sorts M_values M_placeOf M_falling M_runs M_begin M_size M_pool v2 n x33 e30 e31
def l_X7_cut_173 (N : Nat) (M_samples : Int32) (M_sample : (Nat → Int32)) (v1 : Int32) : Nat → Int32 → (Nat → Int32) → Option ((Nat → Int32))
  | 0, _, _ => none
  | n + 1, v3, M_ends =>
    if v1 < v3 then
      some (M_ends)
    else
      gd (nz v1) <|
      nl (((v3 * M_samples) / v1) - 1) fun x39 =>
      if v3 = v1 then
        gd (ix (v3 - 1) 8) <|
        nl (v3 + 1) fun x42 =>
        l_X7_cut_173 N M_samples M_sample v1 n x42 (upd M_ends (v3 - 1).toNatClampNeg (-1))
      else
        if 0 ≤ x39 then
          gd (ix x39 400) <|
          nl (M_sample x39.toNatClampNeg) fun x45 =>
          gd (ix (v3 - 1) 8) <|
          nl (v3 + 1) fun x47 =>
          l_X7_cut_173 N M_samples M_sample v1 n x47 (upd M_ends (v3 - 1).toNatClampNeg x45)
        else
          gd (ix (v3 - 1) 8) <|
          nl (v3 + 1) fun x49 =>
          l_X7_cut_173 N M_samples M_sample v1 n x49 (upd M_ends (v3 - 1).toNatClampNeg (-1))
def l_X7_cut_227 (N : Nat) (v1 : Int32) : Nat → Int32 → (Nat → Int32) → (Nat → Int32) → (Nat → Int32) → (Nat → Int32) → (Nat → Int32) → Option ((Nat → Int32) × (Nat → Int32) × (Nat → Int32) × (Nat → Int32) × (Nat → Int32))
  | 0, _, _, _, _, _, _ => none
  | n + 1, v3, M_partSize, M_merged, M_most, M_done, M_on =>
    if v1 ≤ v3 then
      some (M_partSize, M_merged, M_most, M_done, M_on)
    else
      gd (ix v3 8) <|
      gd (ix v3 8) <|
      gd (ix v3 8) <|
      gd (ix v3 8) <|
      gd (ix v3 8) <|
      nl (v3 + 1) fun x58 =>
      l_X7_cut_227 N v1 n x58 (upd M_partSize v3.toNatClampNeg 0) (upd M_merged v3.toNatClampNeg 0) (upd M_most v3.toNatClampNeg 0) (upd M_done v3.toNatClampNeg (vp_nar .boolean 0)) (upd M_on v3.toNatClampNeg v3)
def l_X7_cut_320 (N : Nat) (M_sorts : (Nat → Int32)) (M_values : (Nat → Int32)) (M_placeOf : (Nat → Int32)) (M_falling : (Nat → Int32)) (M_pool : (Nat → Int32)) (M_parts : Int32) (M_ends : (Nat → Int32)) (v1 : Int32) (v4 : Int32) : Nat → Int32 → (Nat → Int32) → Option ((Nat → Int32))
  | 0, _, _ => none
  | n + 1, v5, M_partSize =>
    if v1 ≤ v5 then
      some (M_partSize)
    else
      gd (ix v5 8) <|
      gd (ix v4 40000) <|
      bd1 (f_X7_isIn N M_sorts M_values M_placeOf M_falling M_parts M_ends (M_pool v4.toNatClampNeg) v5) fun r71 =>
      if r71 = 0 then
        nl ((M_partSize v5.toNatClampNeg) + 0) fun x74 =>
        gd (ix v5 8) <|
        nl (v5 + 1) fun x76 =>
        l_X7_cut_320 N M_sorts M_values M_placeOf M_falling M_pool M_parts M_ends v1 v4 n x76 (upd M_partSize v5.toNatClampNeg x74)
      else
        nl ((M_partSize v5.toNatClampNeg) + 1) fun x77 =>
        gd (ix v5 8) <|
        nl (v5 + 1) fun x79 =>
        l_X7_cut_320 N M_sorts M_values M_placeOf M_falling M_pool M_parts M_ends v1 v4 n x79 (upd M_partSize v5.toNatClampNeg x77)
def l_X7_cut_311 (N : Nat) (M_sorts : (Nat → Int32)) (M_values : (Nat → Int32)) (M_placeOf : (Nat → Int32)) (M_falling : (Nat → Int32)) (M_pool : (Nat → Int32)) (M_parts : Int32) (M_ends : (Nat → Int32)) (v1 : Int32) (v3 : Int32) : Nat → Int32 → (Nat → Int32) → Option ((Nat → Int32))
  | 0, _, _ => none
  | n + 1, v4, M_partSize =>
    if v3 ≤ v4 then
      some (M_partSize)
    else
      bd1 (l_X7_cut_320 N M_sorts M_values M_placeOf M_falling M_pool M_parts M_ends v1 v4 N (0 : Int32) M_partSize) fun e80 =>
      nl (v4 + 1) fun x82 =>
      l_X7_cut_311 N M_sorts M_values M_placeOf M_falling M_pool M_parts M_ends v1 v3 n x82 e80
def l_X7_cut_387 (N : Nat)  : Nat → Int32 → (Nat → Int32) → Option ((Nat → Int32))
  | 0, _, _ => none
  | n + 1, v4, M_byHost =>
    if (8 : Int32) ≤ v4 then
      some (M_byHost)
    else
      gd (ix v4 8) <|
      nl (v4 + 1) fun x87 =>
      l_X7_cut_387 N n x87 (upd M_byHost v4.toNatClampNeg 0)
def l_X7_cut_411 (N : Nat) (M_parts : Int32) (M_partSize : (Nat → Int32)) (M_up : (Nat → Int32)) : Nat → Int32 → (Nat → Int32) → (Nat → Int32) → (Nat → Int32) → Option ((Nat → Int32) × (Nat → Int32) × (Nat → Int32))
  | 0, _, _, _, _ => none
  | n + 1, v4, M_merged, M_done, M_on =>
    if (8 : Int32) ≤ v4 then
      some (M_merged, M_done, M_on)
    else
      gd (ix v4 8) <|
      if (M_up v4.toNatClampNeg) = 0 then
        bd4 (f_X7_leaves N M_parts M_partSize M_merged M_done M_on M_up v4) fun r94 c95 c96 c97 =>
        nl (v4 + 1) fun x99 =>
        l_X7_cut_411 N M_parts M_partSize M_up n x99 c95 c96 c97
      else
        nl (v4 + 1) fun x93 =>
        l_X7_cut_411 N M_parts M_partSize M_up n x93 M_merged M_done M_on
def f_X7_cut (N : Nat) (M_sorts : (Nat → Int32)) (M_values : (Nat → Int32)) (M_placeOf : (Nat → Int32)) (M_falling : (Nat → Int32)) (M_made : Int32) (M_runs : Int32) (M_begin : (Nat → Int32)) (M_size : (Nat → Int32)) (M_pool : (Nat → Int32)) (M_parts : Int32) (M_every : Int32) (M_samples : Int32) (M_sample : (Nat → Int32)) (M_ends : (Nat → Int32)) (M_partSize : (Nat → Int32)) (M_merged : (Nat → Int32)) (M_most : (Nat → Int32)) (M_done : (Nat → Int32)) (M_on : (Nat → Int32)) (M_ticks : Int32) (M_mergedAll : Int32) (M_again : Int32) (M_up : (Nat → Int32)) (M_byHost : (Nat → Int32)) (v1 : Int32) (v2 : Int32) : Option (Int32 × Int32 × Int32 × Int32 × (Nat → Int32) × (Nat → Int32) × (Nat → Int32) × (Nat → Int32) × (Nat → Int32) × (Nat → Int32) × (Nat → Int32) × Int32 × Int32 × Int32 × (Nat → Int32)) :=
  if M_made = 0 then
    some ((-1 : Int32), M_parts, M_every, M_samples, M_sample, M_ends, M_partSize, M_merged, M_most, M_done, M_on, M_ticks, M_mergedAll, M_again, M_byHost)
  else
    bd1 (f_X7_is N v1 (1 : Int32) (8 : Int32)) fun r2 =>
    if r2 = 0 then
      some ((-1 : Int32), M_parts, M_every, M_samples, M_sample, M_ends, M_partSize, M_merged, M_most, M_done, M_on, M_ticks, M_mergedAll, M_again, M_byHost)
    else
      bd1 (f_X7_is N v2 (1 : Int32) (20 : Int32)) fun r5 =>
      if r5 = 0 then
        some ((-1 : Int32), M_parts, M_every, M_samples, M_sample, M_ends, M_partSize, M_merged, M_most, M_done, M_on, M_ticks, M_mergedAll, M_again, M_byHost)
      else
        bd2 (l_X7_cut_46 N M_sorts M_values M_placeOf M_falling M_runs M_begin M_size M_pool v2 N (0 : Int32) 0 M_sample) fun e34 e35 =>
        bd1 (l_X7_cut_173 N e34 e35 v1 N (1 : Int32) M_ends) fun e50 =>
        bd5 (l_X7_cut_227 N v1 N (0 : Int32) M_partSize M_merged M_most M_done M_on) fun e59 e60 e61 e62 e63 =>
        bd1 (if M_runs = 0 then
            some ((0 : Int32))
          else
            gd (ix (M_runs - 1) 800) <|
            gd (ix (M_runs - 1) 800) <|
            some (((M_begin (M_runs - 1).toNatClampNeg) + (M_size (M_runs - 1).toNatClampNeg))))
          fun y65 =>
        bd1 (l_X7_cut_311 N M_sorts M_values M_placeOf M_falling M_pool v1 e50 v1 y65 N (0 : Int32) e59) fun e83 =>
        bd1 (l_X7_cut_387 N N (0 : Int32) M_byHost) fun e88 =>
        bd3 (l_X7_cut_411 N v1 e83 M_up N (0 : Int32) e60 e62 e63) fun e100 e101 e102 =>
        some (e34, v1, v2, e34, e35, e50, e83, e100, e61, e101, e102, 0, 0, 0, e88)
def f_X7_bound (N : Nat) (M_runs : Int32) (M_parts : Int32) (M_every : Int32) (M_samples : Int32)  : Option (Int32) :=
  if M_parts = 0 then
    some ((-1 : Int32))
  else
    gd (nz M_parts) <|
    some (((M_every * (((M_samples + M_parts) - 1) / M_parts)) + ((M_every - 1) * M_runs)))
def f_X7_part (N : Nat) (M_parts : Int32) (M_ends : (Nat → Int32)) (M_partSize : (Nat → Int32)) (M_merged : (Nat → Int32)) (M_on : (Nat → Int32)) (v1 : Int32) (v2 : Int32) : Option (Int32) :=
  if v1 < 0 then
    some ((-2 : Int32))
  else
    if v1 < M_parts then
      if v2 = 0 then
        gd (ix v1 8) <|
        some ((M_partSize v1.toNatClampNeg))
      else
        if v2 = 1 then
          gd (ix v1 8) <|
          some ((M_merged v1.toNatClampNeg))
        else
          if v2 = 2 then
            gd (ix v1 8) <|
            some ((M_on v1.toNatClampNeg))
          else
            if v2 = 3 then
              gd (ix v1 8) <|
              some ((M_ends v1.toNatClampNeg))
            else
              some ((-2 : Int32))
    else
      some ((-2 : Int32))
def f_X7_isHost (N : Nat)  (v0 : Int32) : Option (Int32) :=
  if v0 < 0 then
    gd (bz (0 : Int32)) <|
    some ((0 : Int32))
  else
    if (8 : Int32) ≤ v0 then
      gd (bz (0 : Int32)) <|
      some ((0 : Int32))
    else
      gd (bz (1 : Int32)) <|
      some ((1 : Int32))
def f_X7_pace (N : Nat) (M_paces : (Nat → Int32)) (v1 : Int32) (v2 : Int32) : Option (Int32 × (Nat → Int32)) :=
  bd1 (f_X7_isHost N v1) fun r1 =>
  if r1 = 0 then
    gd (bz (0 : Int32)) <|
    some ((0 : Int32), M_paces)
  else
    bd1 (f_X7_is N v2 (0 : Int32) (50 : Int32)) fun r5 =>
    if r5 = 0 then
      gd (bz (0 : Int32)) <|
      some ((0 : Int32), M_paces)
    else
      gd (ix v1 8) <|
      gd (bz (1 : Int32)) <|
      some ((1 : Int32), (upd M_paces v1.toNatClampNeg v2))
def f_X7_fall (N : Nat) (M_parts : Int32) (M_partSize : (Nat → Int32)) (M_merged : (Nat → Int32)) (M_done : (Nat → Int32)) (M_on : (Nat → Int32)) (M_up : (Nat → Int32)) (v1 : Int32) : Option (Int32 × (Nat → Int32) × (Nat → Int32) × (Nat → Int32) × (Nat → Int32)) :=
  bd1 (f_X7_isHost N v1) fun r1 =>
  if r1 = 0 then
    some ((-1 : Int32), M_merged, M_done, M_on, M_up)
  else
    gd (ix v1 8) <|
    if (M_up v1.toNatClampNeg) = 0 then
      some ((-1 : Int32), M_merged, M_done, M_on, M_up)
    else
      gd (ix v1 8) <|
      bd4 (f_X7_leaves N M_parts M_partSize M_merged M_done M_on (upd M_up v1.toNatClampNeg (vp_nar .boolean 0)) v1) fun r7 c8 c9 c10 =>
      some (r7, c8, c9, c10, (upd M_up v1.toNatClampNeg (vp_nar .boolean 0)))
def l_X7_rise_29 (N : Nat) (M_parts : Int32) (v1 : Int32) : Nat → Int32 → Int32 → (Nat → Int32) → Option (Int32 × (Nat → Int32))
  | 0, _, _, _ => none
  | n + 1, v2, v3, M_on =>
    if M_parts ≤ v3 then
      some (v2, M_on)
    else
      gd (ix v3 8) <|
      if (M_on v3.toNatClampNeg) = (-1 : Int32) then
        gd (ix v3 8) <|
        nl (v2 + 1) fun x11 =>
        nl (v3 + 1) fun x12 =>
        l_X7_rise_29 N M_parts v1 n x11 x12 (upd M_on v3.toNatClampNeg v1)
      else
        nl (v3 + 1) fun x13 =>
        l_X7_rise_29 N M_parts v1 n v2 x13 M_on
def f_X7_rise (N : Nat) (M_parts : Int32) (M_on : (Nat → Int32)) (M_up : (Nat → Int32)) (v1 : Int32) : Option (Int32 × (Nat → Int32) × (Nat → Int32)) :=
  bd1 (f_X7_isHost N v1) fun r1 =>
  if r1 = 0 then
    some ((-1 : Int32), M_on, M_up)
  else
    gd (ix v1 8) <|
    if (M_up v1.toNatClampNeg) = 0 then
      gd (ix v1 8) <|
      bd2 (l_X7_rise_29 N M_parts v1 N (0 : Int32) (0 : Int32) M_on) fun e14 e15 =>
      some (e14, e15, (upd M_up v1.toNatClampNeg (vp_nar .boolean 1)))
    else
      some ((-1 : Int32), M_on, M_up)
def l_X7_host_73 (N : Nat) (M_parts : Int32) (M_on : (Nat → Int32)) (v1 : Int32) : Nat → Int32 → Int32 → Option (Int32)
  | 0, _, _ => none
  | n + 1, v3, v4 =>
    if M_parts ≤ v4 then
      some (v3)
    else
      gd (ix v4 8) <|
      if (M_on v4.toNatClampNeg) = v1 then
        nl (v3 + 1) fun x15 =>
        nl (v4 + 1) fun x16 =>
        l_X7_host_73 N M_parts M_on v1 n x15 x16
      else
        nl (v3 + 0) fun x13 =>
        nl (v4 + 1) fun x14 =>
        l_X7_host_73 N M_parts M_on v1 n x13 x14
def f_X7_host (N : Nat) (M_parts : Int32) (M_partSize : (Nat → Int32)) (M_merged : (Nat → Int32)) (M_on : (Nat → Int32)) (M_paces : (Nat → Int32)) (M_up : (Nat → Int32)) (M_byHost : (Nat → Int32)) (v1 : Int32) (v2 : Int32) : Option (Int32) :=
  bd1 (f_X7_isHost N v1) fun r1 =>
  if r1 = 0 then
    some ((-1 : Int32))
  else
    if v2 = 0 then
      gd (ix v1 8) <|
      some ((M_paces v1.toNatClampNeg))
    else
      if v2 = 1 then
        gd (ix v1 8) <|
        if (M_up v1.toNatClampNeg) = 0 then
          some ((0 : Int32))
        else
          some ((1 : Int32))
      else
        if v2 = 2 then
          bd1 (l_X7_host_73 N M_parts M_on v1 N (0 : Int32) (0 : Int32)) fun e17 =>
          some (e17)
        else
          if v2 = 3 then
            bd1 (f_X7_left N M_parts M_partSize M_merged M_on v1) fun r20 =>
            some (r20)
          else
            if v2 = 4 then
              if M_parts = 0 then
                some ((0 : Int32))
              else
                gd (ix v1 8) <|
                some ((M_byHost v1.toNatClampNeg))
            else
              some ((-1 : Int32))
def l_X7_tick_55 (N : Nat) (M_parts : Int32) (M_partSize : (Nat → Int32)) (M_on : (Nat → Int32)) (v2 : Int32) : Nat → Int32 → Int32 → (Nat → Int32) → (Nat → Int32) → (Nat → Int32) → Int32 → Int32 → (Nat → Int32) → Option ((Nat → Int32) × (Nat → Int32) × (Nat → Int32) × Int32 × Int32 × (Nat → Int32))
  | 0, _, _, _, _, _, _, _, _ => none
  | n + 1, v3, v4, M_merged, M_most, M_done, M_mergedAll, M_again, M_byHost =>
    if M_parts ≤ v4 then
      some (M_merged, M_most, M_done, M_mergedAll, M_again, M_byHost)
    else
      if v3 < 0 then
        some (M_merged, M_most, M_done, M_mergedAll, M_again, M_byHost)
      else
        gd (ix v4 8) <|
        if (M_on v4.toNatClampNeg) = v2 then
          gd (ix v4 8) <|
          if (M_done v4.toNatClampNeg) = 0 then
            gd (ix v4 8) <|
            gd (ix v4 8) <|
            bd1 (if v3 ≤ ((M_partSize v4.toNatClampNeg) - (M_merged v4.toNatClampNeg)) then
                some (v3)
              else
                gd (ix v4 8) <|
                gd (ix v4 8) <|
                some (((M_partSize v4.toNatClampNeg) - (M_merged v4.toNatClampNeg))))
              fun y16 =>
            gd (ix v4 8) <|
            gd (ix v4 8) <|
            bd1 (if ((M_merged v4.toNatClampNeg) + y16) = (M_partSize v4.toNatClampNeg) then
                some ((1 : Int32))
              else
                some ((0 : Int32)))
              fun y20 =>
            gd (ix v4 8) <|
            gd (ix v4 8) <|
            gd (ix v4 8) <|
            bd1 (if y16 ≤ ((M_most v4.toNatClampNeg) - (M_merged v4.toNatClampNeg)) then
                some (y16)
              else
                gd (ix v4 8) <|
                gd (ix v4 8) <|
                some (((M_most v4.toNatClampNeg) - (M_merged v4.toNatClampNeg))))
              fun y25 =>
            bd1 (if y25 ≤ 0 then
                some ((0 : Int32))
              else
                some (y25))
              fun y27 =>
            nl (M_again + y27) fun x29 =>
            gd (ix v4 8) <|
            nl ((M_merged v4.toNatClampNeg) + y16) fun x31 =>
            gd (ix v4 8) <|
            gd (ix v4 8) <|
            gd (ix v4 8) <|
            bd1 (if ((upd M_merged v4.toNatClampNeg x31) v4.toNatClampNeg) ≤ (M_most v4.toNatClampNeg) then
                gd (ix v4 8) <|
                some ((M_most v4.toNatClampNeg))
              else
                gd (ix v4 8) <|
                some (((upd M_merged v4.toNatClampNeg x31) v4.toNatClampNeg)))
              fun y35 =>
            gd (ix v4 8) <|
            nl (M_mergedAll + y16) fun x38 =>
            gd (ix v2 8) <|
            nl ((M_byHost v2.toNatClampNeg) + y16) fun x40 =>
            gd (ix v2 8) <|
            gd (ix v4 8) <|
            if ((upd M_done v4.toNatClampNeg (vp_nar .boolean y20)) v4.toNatClampNeg) = 0 then
              nl (v4 + 1) fun x44 =>
              l_X7_tick_55 N M_parts M_partSize M_on v2 n (-1 : Int32) x44 (upd M_merged v4.toNatClampNeg x31) (upd M_most v4.toNatClampNeg y35) (upd M_done v4.toNatClampNeg (vp_nar .boolean y20)) x38 x29 (upd M_byHost v2.toNatClampNeg x40)
            else
              nl (v3 - y16) fun x45 =>
              nl (v4 + 1) fun x46 =>
              l_X7_tick_55 N M_parts M_partSize M_on v2 n x45 x46 (upd M_merged v4.toNatClampNeg x31) (upd M_most v4.toNatClampNeg y35) (upd M_done v4.toNatClampNeg (vp_nar .boolean y20)) x38 x29 (upd M_byHost v2.toNatClampNeg x40)
          else
            nl (v4 + 1) fun x58 =>
            l_X7_tick_55 N M_parts M_partSize M_on v2 n v3 x58 M_merged M_most M_done M_mergedAll M_again M_byHost
        else
          nl (v4 + 1) fun x11 =>
          l_X7_tick_55 N M_parts M_partSize M_on v2 n v3 x11 M_merged M_most M_done M_mergedAll M_again M_byHost
def l_X7_tick_26 (N : Nat) (M_parts : Int32) (M_partSize : (Nat → Int32)) (M_on : (Nat → Int32)) (M_paces : (Nat → Int32)) (M_up : (Nat → Int32)) : Nat → Int32 → (Nat → Int32) → (Nat → Int32) → (Nat → Int32) → Int32 → Int32 → (Nat → Int32) → Option ((Nat → Int32) × (Nat → Int32) × (Nat → Int32) × Int32 × Int32 × (Nat → Int32))
  | 0, _, _, _, _, _, _, _ => none
  | n + 1, v2, M_merged, M_most, M_done, M_mergedAll, M_again, M_byHost =>
    if (8 : Int32) ≤ v2 then
      some (M_merged, M_most, M_done, M_mergedAll, M_again, M_byHost)
    else
      gd (ix v2 8) <|
      bd1 (if (M_up v2.toNatClampNeg) = 0 then
          some ((-1 : Int32))
        else
          gd (ix v2 8) <|
          some ((M_paces v2.toNatClampNeg)))
        fun y5 =>
      bd6 (l_X7_tick_55 N M_parts M_partSize M_on v2 N y5 (0 : Int32) M_merged M_most M_done M_mergedAll M_again M_byHost) fun e59 e60 e61 e62 e63 e64 =>
      nl (v2 + 1) fun x66 =>
      l_X7_tick_26 N M_parts M_partSize M_on M_paces M_up n x66 e59 e60 e61 e62 e63 e64
def f_X7_tick (N : Nat) (M_parts : Int32) (M_partSize : (Nat → Int32)) (M_merged : (Nat → Int32)) (M_most : (Nat → Int32)) (M_done : (Nat → Int32)) (M_on : (Nat → Int32)) (M_ticks : Int32) (M_mergedAll : Int32) (M_again : Int32) (M_paces : (Nat → Int32)) (M_up : (Nat → Int32)) (M_byHost : (Nat → Int32))  : Option (Int32 × (Nat → Int32) × (Nat → Int32) × (Nat → Int32) × Int32 × Int32 × Int32 × (Nat → Int32)) :=
  if M_parts = 0 then
    some ((-1 : Int32), M_merged, M_most, M_done, M_ticks, M_mergedAll, M_again, M_byHost)
  else
    nl (M_ticks + 1) fun x2 =>
    bd6 (l_X7_tick_26 N M_parts M_partSize M_on M_paces M_up N (0 : Int32) M_merged M_most M_done M_mergedAll M_again M_byHost) fun e69 e70 e71 e72 e73 e74 =>
    some ((e72 - M_mergedAll), e69, e70, e71, x2, e72, e73, e74)
def l_X7_isThere_15 (N : Nat) (M_parts : Int32) (M_done : (Nat → Int32)) : Nat → Int32 → Int32 → Option (Int32)
  | 0, _, _ => none
  | n + 1, v1, v2 =>
    if M_parts ≤ v2 then
      some (v1)
    else
      if v1 = 0 then
        nl (v2 + 1) fun x5 =>
        l_X7_isThere_15 N M_parts M_done n (0 : Int32) x5
      else
        gd (ix v2 8) <|
        if (M_done v2.toNatClampNeg) = 0 then
          nl (v2 + 1) fun x8 =>
          l_X7_isThere_15 N M_parts M_done n (0 : Int32) x8
        else
          nl (v2 + 1) fun x9 =>
          l_X7_isThere_15 N M_parts M_done n (1 : Int32) x9
def f_X7_isThere (N : Nat) (M_parts : Int32) (M_done : (Nat → Int32))  : Option (Int32) :=
  bd1 (if M_parts ≤ 0 then
      some ((0 : Int32))
    else
      some ((1 : Int32)))
    fun y1 =>
  bd1 (l_X7_isThere_15 N M_parts M_done N y1 (0 : Int32)) fun e10 =>
  gd (bz e10) <|
  some (e10)
def l_X7_work_65 (N : Nat) (M_parts : Int32) (M_done : (Nat → Int32)) : Nat → Int32 → Int32 → Option (Int32)
  | 0, _, _ => none
  | n + 1, v2, v3 =>
    if M_parts ≤ v3 then
      some (v2)
    else
      gd (ix v3 8) <|
      if (M_done v3.toNatClampNeg) = 0 then
        nl (v2 + 0) fun x9 =>
        nl (v3 + 1) fun x10 =>
        l_X7_work_65 N M_parts M_done n x9 x10
      else
        nl (v2 + 1) fun x11 =>
        nl (v3 + 1) fun x12 =>
        l_X7_work_65 N M_parts M_done n x11 x12
def f_X7_work (N : Nat) (M_parts : Int32) (M_done : (Nat → Int32)) (M_ticks : Int32) (M_mergedAll : Int32) (M_again : Int32) (v1 : Int32) : Option (Int32) :=
  if M_parts = 0 then
    some ((-1 : Int32))
  else
    if v1 = 0 then
      some (M_ticks)
    else
      if v1 = 1 then
        some (M_mergedAll)
      else
        if v1 = 2 then
          some (M_again)
        else
          if v1 = 3 then
            bd1 (l_X7_work_65 N M_parts M_done N (0 : Int32) (0 : Int32)) fun e13 =>
            some (e13)
          else
            if v1 = 4 then
              bd1 (f_X7_isThere N M_parts M_done) fun r16 =>
              if r16 = 0 then
                some ((0 : Int32))
              else
                some ((1 : Int32))
            else
              some ((-1 : Int32))
def l_X7_end_68 (N : Nat) (M_sorts : (Nat → Int32)) (M_values : (Nat → Int32)) (M_placeOf : (Nat → Int32)) (M_falling : (Nat → Int32)) (M_pool : (Nat → Int32)) (v2 : Int32) (v3 : Int32) : Nat → Int32 → Int32 → Option (Int32)
  | 0, _, _ => none
  | n + 1, v4, v5 =>
    if v2 ≤ v5 then
      some (v4)
    else
      if v5 = v3 then
        nl (v4 + 0) fun x11 =>
        nl (v5 + 1) fun x12 =>
        l_X7_end_68 N M_sorts M_values M_placeOf M_falling M_pool v2 v3 n x11 x12
      else
        gd (ix v5 40000) <|
        gd (ix v3 40000) <|
        bd1 (f_X7_ahead N M_sorts M_values M_placeOf M_falling (M_pool v5.toNatClampNeg) (M_pool v3.toNatClampNeg)) fun r15 =>
        if r15 = 0 then
          nl (v4 + 0) fun x18 =>
          nl (v5 + 1) fun x19 =>
          l_X7_end_68 N M_sorts M_values M_placeOf M_falling M_pool v2 v3 n x18 x19
        else
          nl (v4 + 1) fun x20 =>
          nl (v5 + 1) fun x21 =>
          l_X7_end_68 N M_sorts M_values M_placeOf M_falling M_pool v2 v3 n x20 x21
def l_X7_end_57 (N : Nat) (M_sorts : (Nat → Int32)) (M_values : (Nat → Int32)) (M_placeOf : (Nat → Int32)) (M_falling : (Nat → Int32)) (M_pool : (Nat → Int32)) (v1 : Int32) (v2 : Int32) : Nat → Int32 → Option (Option Int32)
  | 0, _ => none
  | n + 1, v3 =>
    if v2 ≤ v3 then
      some none
    else
      bd1 (l_X7_end_68 N M_sorts M_values M_placeOf M_falling M_pool v2 v3 N (0 : Int32) (0 : Int32)) fun e22 =>
      if e22 = v1 then
        gd (ix v3 40000) <|
        some (some (M_pool v3.toNatClampNeg))
      else
        nl (v3 + 1) fun x25 =>
        l_X7_end_57 N M_sorts M_values M_placeOf M_falling M_pool v1 v2 n x25
def f_X7_end (N : Nat) (M_sorts : (Nat → Int32)) (M_values : (Nat → Int32)) (M_placeOf : (Nat → Int32)) (M_falling : (Nat → Int32)) (M_runs : Int32) (M_begin : (Nat → Int32)) (M_size : (Nat → Int32)) (M_pool : (Nat → Int32)) (M_parts : Int32) (M_done : (Nat → Int32)) (v1 : Int32) : Option (Int32) :=
  bd1 (f_X7_isThere N M_parts M_done) fun r1 =>
  if r1 = 0 then
    some ((-1 : Int32))
  else
    bd1 (if M_runs = 0 then
        some ((0 : Int32))
      else
        gd (ix (M_runs - 1) 800) <|
        gd (ix (M_runs - 1) 800) <|
        some (((M_begin (M_runs - 1).toNatClampNeg) + (M_size (M_runs - 1).toNatClampNeg))))
      fun y4 =>
    if v1 < 0 then
      some ((-1 : Int32))
    else
      if v1 < y4 then
        bd1 (l_X7_end_57 N M_sorts M_values M_placeOf M_falling M_pool v1 y4 N (0 : Int32)) fun e27 =>
        match e27 with
        | none =>
          some ((-1 : Int32))
        | some r29 =>
          some (r29)
      else
        some ((-1 : Int32))
def f_X7_count (N : Nat) (M_rows : Int32) (M_runs : Int32) (M_parts : Int32) (M_samples : Int32) (v1 : Int32) : Option (Int32) :=
  if v1 = 0 then
    some (M_rows)
  else
    if v1 = 1 then
      some (M_runs)
    else
      if v1 = 2 then
        some (M_samples)
      else
        if v1 = 3 then
          some (M_parts)
        else
          some ((-1 : Int32))
def l_X2_init_22 (N : Nat)  : Nat → Int32 → (Nat → Int32) → (Nat → Int32) → Option ((Nat → Int32) × (Nat → Int32))
  | 0, _, _, _ => none
  | n + 1, v1, O_paces, O_up =>
    if (8 : Int32) ≤ v1 then
      some (O_paces, O_up)
    else
      gd (ix v1 8) <|
      gd (ix v1 8) <|
      nl (v1 + 1) fun x1004 =>
      l_X2_init_22 N n x1004 (upd O_paces v1.toNatClampNeg 10) (upd O_up v1.toNatClampNeg (vp_nar .boolean 1))
def f_X2_init (N : Nat) : Option ((Nat → Int32) × (Nat → Int32)) :=
  bd2 (l_X2_init_22 N N (0 : Int32) (fun _ => 0) (fun _ => 0)) fun e1005 e1006 =>
  some (e1005, e1006)
def l_X7_init_262 (N : Nat)  : Nat → Int32 → (Nat → Int32) → Option ((Nat → Int32))
  | 0, _, _ => none
  | n + 1, v1, M_placeOf =>
    if (4 : Int32) ≤ v1 then
      some (M_placeOf)
    else
      gd (ix v1 4) <|
      nl (v1 + 1) fun x1003 =>
      l_X7_init_262 N n x1003 (upd M_placeOf v1.toNatClampNeg v1)
def l_X7_init_282 (N : Nat)  : Nat → Int32 → (Nat → Int32) → (Nat → Int32) → Option ((Nat → Int32) × (Nat → Int32))
  | 0, _, _, _ => none
  | n + 1, v1, M_paces, M_up =>
    if (8 : Int32) ≤ v1 then
      some (M_paces, M_up)
    else
      gd (ix v1 8) <|
      gd (ix v1 8) <|
      nl (v1 + 1) fun x1009 =>
      l_X7_init_282 N n x1009 (upd M_paces v1.toNatClampNeg 10) (upd M_up v1.toNatClampNeg (vp_nar .boolean 1))
def f_X7_init (N : Nat) : Option ((Nat → Int32) × (Nat → Int32) × (Nat → Int32)) :=
  bd1 (l_X7_init_262 N N (0 : Int32) (fun _ => 0)) fun e1004 =>
  bd2 (l_X7_init_282 N N (0 : Int32) (fun _ => 0) (fun _ => 0)) fun e1010 e1011 =>
  some (e1004, e1010, e1011)
end
section
/-! plain facts on numbers and arrays, to paste: each family by itself; over the kit's rows on nI and upd -/
/-! ===== order of ints, in all its forms, and through longs ===== -/
theorem fa_lt (a b : Int32) : a < b ↔ a.toInt < b.toInt := Int32.lt_iff_toInt_lt
theorem fa_le (a b : Int32) : a ≤ b ↔ a.toInt ≤ b.toInt := Int32.le_iff_toInt_le
theorem fa_eq (a b : Int32) : a = b ↔ a.toInt = b.toInt := Int32.toInt_inj.symm
theorem fa_lt64 (a b : Int64) : a < b ↔ a.toInt < b.toInt := Int64.lt_iff_toInt_lt
theorem fa_le64 (a b : Int64) : a ≤ b ↔ a.toInt ≤ b.toInt := Int64.le_iff_toInt_le
theorem fa_eq64 (a b : Int64) : a = b ↔ a.toInt = b.toInt := Int64.toInt_inj.symm
/-- a comparison of two ints taken as longs -/
theorem fa_wide_lt (a b : Int32) : a.toInt64 < b.toInt64 ↔ a < b := by rw [fa_lt64, fa_lt, Int32.toInt_toInt64, Int32.toInt_toInt64]
theorem fa_wide_le (a b : Int32) : a.toInt64 ≤ b.toInt64 ↔ a ≤ b := by rw [fa_le64, fa_le, Int32.toInt_toInt64, Int32.toInt_toInt64]
theorem fa_wide_eq (a b : Int32) : a.toInt64 = b.toInt64 ↔ a = b := by rw [fa_eq64, fa_eq, Int32.toInt_toInt64, Int32.toInt_toInt64]
/-- one strict comparison gives all the others -/
theorem fa_of_lt {a b : Int32} (h : a < b) : a ≤ b ∧ ¬ b ≤ a ∧ ¬ b < a ∧ a ≠ b ∧ b ≠ a := by
  rw [fa_lt] at h
  refine ⟨?_, ?_, ?_, ?_, ?_⟩
  · rw [fa_le]; omega
  · rw [fa_le]; omega
  · rw [fa_lt]; omega
  · intro e; rw [fa_eq] at e; omega
  · intro e; rw [fa_eq] at e; omega
theorem fa_of_nlt {a b : Int32} (h : ¬ a < b) : b ≤ a := by
  rw [fa_lt] at h
  rw [fa_le]
  omega
theorem fa_of_nle {a b : Int32} (h : ¬ a ≤ b) : b < a := by
  rw [fa_le] at h
  rw [fa_lt]
  omega
theorem fa_le_ne {a b : Int32} (h : a ≤ b) (h2 : a ≠ b) : a < b := by
  rw [fa_le] at h
  rw [fa_lt]
  have h3 : a.toInt ≠ b.toInt := fun e => h2 ((fa_eq a b).mpr e)
  omega
theorem fa_three (a b : Int32) : a < b ∨ a = b ∨ b < a := by
  rw [fa_lt, fa_lt, fa_eq]
  omega
theorem fa_trans {a b c : Int32} (h : a < b) (h2 : b ≤ c) : a < c := by
  rw [fa_lt] at *
  rw [fa_le] at h2
  omega
/-! ===== small literals as numbers ===== -/
theorem fa_lit (n : Nat) : (OfNat.ofNat n : Int32) = nI n := rfl
theorem fa_litL (n : Nat) : (OfNat.ofNat n : Int64) = lN n := rfl
/-! ===== bits of a number: 'or', masks, one bit ===== -/
theorem fa_and (a b : Nat) : nI a &&& nI b = nI (a &&& b) := by
  apply Int32.toBitVec_inj.1
  show BitVec.ofNat 32 a &&& BitVec.ofNat 32 b = BitVec.ofNat 32 (a &&& b)
  apply BitVec.eq_of_getLsbD_eq
  intro i hi
  simp [hi]
theorem fa_or (a b : Nat) : nI a ||| nI b = nI (a ||| b) := by
  apply Int32.toBitVec_inj.1
  show BitVec.ofNat 32 a ||| BitVec.ofNat 32 b = BitVec.ofNat 32 (a ||| b)
  apply BitVec.eq_of_getLsbD_eq
  intro i hi
  simp [hi]
/-- a remainder by a power of two, as a mask -/
theorem fa_mask (n k : Nat) : nI n &&& nI (2 ^ k - 1) = nI (n % 2 ^ k) := by rw [fa_and, Nat.and_two_pow_sub_one_eq_mod]
/-- 'or' of a high part and a low one that don't meet is their sum -/
theorem fa_or_sum {a k : Nat} (b : Nat) (h : a < 2 ^ k) : nI (2 ^ k * b) ||| nI a = nI (2 ^ k * b + a) := by rw [fa_or, Nat.two_pow_add_eq_or_of_lt h]
/-- one bit, by 'and' with a power of two -/
theorem fa_bit {n j : Nat} (hj : j < 31) : nI n &&& nI (2 ^ j) = 0 ↔ n.testBit j = false := by
  have h2 : (2 : Nat) ^ j < 2 ^ 31 := Nat.pow_lt_pow_right (by decide) hj
  have hle : n &&& 2 ^ j ≤ 2 ^ j := Nat.and_le_right
  have e : n &&& 2 ^ j = 0 ↔ n.testBit j = false := by
    constructor
    · intro h
      have h1 : (n &&& 2 ^ j).testBit j = false := by rw [h]; simp
      rw [Nat.testBit_and] at h1
      first | simpa using h1 | simpa [Nat.testBit_two_pow_self] using h1 | simpa [Nat.testBit_two_pow] using h1
    · intro h
      apply Nat.eq_of_testBit_eq
      intro i
      rw [Nat.testBit_and]
      by_cases hi : j = i
      · subst hi; simp [h]
      · first | (simp [Nat.testBit_two_pow, hi]; done) | (simp [Nat.testBit_two_pow_of_ne hi]; done)
  rw [fa_and]
  constructor
  · intro h
    apply e.mp
    rcases Nat.eq_zero_or_pos (n &&& 2 ^ j) with z | z
    · exact z
    · exact absurd h (nI_ne0 z (Nat.lt_of_le_of_lt hle h2))
  · intro h
    rw [e.mpr h]; exact nI_0
/-- a remainder by a power of two of a number that isn't negative, as Java divides -/
theorem fa_rem {a k : Nat} (ha : a < 2 ^ 31) (hk : k < 31) : nI a - nI a / nI (2 ^ k) * nI (2 ^ k) = nI (a % 2 ^ k) := pk_rem ha (Nat.two_pow_pos k) (Nat.pow_lt_pow_right (by decide) hk)
/-! ===== cuts to a byte, a short ===== -/
theorem fa_byte_xor (x y : Int32) : (x ^^^ y).toInt8 = x.toInt8 ^^^ y.toInt8 := by
  apply Int8.toBitVec_inj.1
  apply BitVec.eq_of_getLsbD_eq
  intro i hi
  first | (simp [hi]; done) | (simp [hi, BitVec.getLsbD_setWidth, BitVec.getLsbD_signExtend]; done)
theorem fa_short_xor (x y : Int32) : (x ^^^ y).toInt16 = x.toInt16 ^^^ y.toInt16 := by
  apply Int16.toBitVec_inj.1
  apply BitVec.eq_of_getLsbD_eq
  intro i hi
  first | (simp [hi]; done) | (simp [hi, BitVec.getLsbD_setWidth, BitVec.getLsbD_signExtend]; done)
/-- the cut to a byte sees the low byte alone -/
theorem fa_byte_low (x : Int32) : (x &&& 255).toInt8 = x.toInt8 := by
  apply Int8.toBitVec_inj.1
  apply BitVec.eq_of_getLsbD_eq
  intro i hi
  have h2 : (255 : Int32).toBitVec.getLsbD i = true := by
    have : ∀ j : Fin 8, (255 : Int32).toBitVec.getLsbD j.val = true := by decide +kernel
    exact this ⟨i, hi⟩
  have h4 : (x &&& 255).toBitVec.getLsbD i = x.toBitVec.getLsbD i := by
    show (x.toBitVec &&& (255 : Int32).toBitVec).getLsbD i = _
    rw [BitVec.getLsbD_and, h2, Bool.and_true]
  have h3 : i < 32 := by omega
  first
    | (show (((x &&& 255).toBitVec).signExtend 8).getLsbD i = (x.toBitVec.signExtend 8).getLsbD i; rw [BitVec.getLsbD_signExtend, BitVec.getLsbD_signExtend, if_pos h3, if_pos h3, h4])
    | (show (((x &&& 255).toBitVec).setWidth 8).getLsbD i = (x.toBitVec.setWidth 8).getLsbD i; rw [BitVec.getLsbD_setWidth, BitVec.getLsbD_setWidth, h4])
    | (simp [hi, h3, h4]; done)
theorem fa_short_low (x : Int32) : (x &&& 65535).toInt16 = x.toInt16 := by
  apply Int16.toBitVec_inj.1
  apply BitVec.eq_of_getLsbD_eq
  intro i hi
  have h2 : (65535 : Int32).toBitVec.getLsbD i = true := by
    have : ∀ j : Fin 16, (65535 : Int32).toBitVec.getLsbD j.val = true := by decide +kernel
    exact this ⟨i, hi⟩
  have h4 : (x &&& 65535).toBitVec.getLsbD i = x.toBitVec.getLsbD i := by
    show (x.toBitVec &&& (65535 : Int32).toBitVec).getLsbD i = _
    rw [BitVec.getLsbD_and, h2, Bool.and_true]
  have h3 : i < 32 := by omega
  first
    | (show (((x &&& 65535).toBitVec).signExtend 16).getLsbD i = (x.toBitVec.signExtend 16).getLsbD i; rw [BitVec.getLsbD_signExtend, BitVec.getLsbD_signExtend, if_pos h3, if_pos h3, h4])
    | (show (((x &&& 65535).toBitVec).setWidth 16).getLsbD i = (x.toBitVec.setWidth 16).getLsbD i; rw [BitVec.getLsbD_setWidth, BitVec.getLsbD_setWidth, h4])
    | (simp [hi, h3, h4]; done)
/-- a small number is its own byte, its own short -/
theorem fa_byte_small {n : Nat} (h : n < 128) : (nI n).toInt8.toInt32 = nI n := by
  have : ∀ j : Fin 128, (nI j.val).toInt8.toInt32 = nI j.val := by decide +kernel
  exact this ⟨n, h⟩
/-! ===== absolute difference ===== -/
theorem fa_absdiff {a b : Nat} (ha : a < 2 ^ 31) (hb : b < 2 ^ 31) : (if nI a < nI b then nI b - nI a else nI a - nI b) = nI (if a < b then b - a else a - b) := by
  by_cases h : a < b
  · rw [if_pos (nI_lt h hb), if_pos h]
    exact pk_sub (Nat.le_of_lt h)
  · rw [if_neg (nI_nlt (Nat.le_of_not_lt h) ha), if_neg h]
    exact pk_sub (Nat.le_of_not_lt h)
/-! ===== an array behind i stores, a conditional store, a row copied ===== -/
/-- f where k < i, what stood there else -/
def fa_fill {α : Type} (f g : Nat → α) (i : Nat) : Nat → α := fun k => if k < i then f k else g k
theorem fa_fill_0 {α : Type} (f g : Nat → α) : fa_fill f g 0 = g := funext fun k => if_neg (Nat.not_lt_zero k)
theorem fa_fill_in {α : Type} {f g : Nat → α} {i k : Nat} (h : k < i) : fa_fill f g i k = f k := if_pos h
theorem fa_fill_out {α : Type} {f g : Nat → α} {i k : Nat} (h : i ≤ k) : fa_fill f g i k = g k := if_neg (Nat.not_lt.mpr h)
theorem fa_fill_succ (f g : Nat → Int32) (i : Nat) : upd (fa_fill f g i) i (f i) = fa_fill f g (i + 1) := by
  funext k
  by_cases e : k = i
  · subst e
    rw [pk_us]
    exact (if_pos (Nat.lt_succ_self k)).symm
  · rw [pk_un e]
    by_cases h : k < i
    · rw [fa_fill_in h, fa_fill_in (Nat.lt_succ_of_lt h)]
    · rw [fa_fill_out (Nat.le_of_not_lt h), fa_fill_out (by omega)]
/-- a store that changes nothing -/
theorem fa_upd_same {f : Nat → Int32} {i : Nat} {x : Int32} (h : f i = x) : upd f i x = f := by
  funext k
  by_cases e : k = i
  · subst e
    rw [pk_us, h]
  · rw [pk_un e]
/-- a store under a condition, told as one -/
theorem fa_upd_if (c : Prop) [Decidable c] (f : Nat → Int32) (i : Nat) (x : Int32) : (if c then upd f i x else f) = upd f i (if c then x else f i) := by
  by_cases h : c
  · rw [if_pos h, if_pos h]
  · rw [if_neg h, if_neg h, fa_upd_same rfl]
/-- two stores at one place, at two -/
theorem fa_upd_twice (f : Nat → Int32) (i : Nat) (x y : Int32) : upd (upd f i x) i y = upd f i y := by
  funext k
  by_cases e : k = i
  · subst e
    rw [pk_us, pk_us]
  · rw [pk_un e, pk_un e, pk_un e]
theorem fa_upd_swap (f : Nat → Int32) {i j : Nat} (h : i ≠ j) (x y : Int32) : upd (upd f i x) j y = upd (upd f j y) i x := by
  funext k
  by_cases e : k = i
  · subst e
    rw [pk_un h, pk_us, pk_us]
  · by_cases e2 : k = j
    · subst e2
      rw [pk_us, pk_un e, pk_us]
    · rw [pk_un e2, pk_un e, pk_un e, pk_un e2]
/-! ===== the first index with a property; a count ===== -/
/-- the first k < n with p k, n if there is none -/
def fa_first (p : Nat → Bool) : Nat → Nat
  | 0 => 0
  | n + 1 => if fa_first p n < n then fa_first p n else if p n then n else n + 1
theorem fa_first_le (p : Nat → Bool) : ∀ n, fa_first p n ≤ n
  | 0 => Nat.le_refl 0
  | n + 1 => by
    have ih := fa_first_le p n
    unfold fa_first
    split
    · omega
    · split
      · omega
      · omega
theorem fa_first_no (p : Nat → Bool) : ∀ n k, k < fa_first p n → p k = false
  | 0, k, h => absurd h (Nat.not_lt_zero k)
  | n + 1, k, h => by
    have ih := fa_first_no p n
    have hl := fa_first_le p n
    unfold fa_first at h
    split at h
    · exact ih k h
    · rename_i h1
      split at h
      · exact ih k (by omega)
      · rename_i h2
        by_cases e : k = n
        · subst e
          exact Bool.eq_false_iff.mpr h2
        · exact ih k (by omega)
theorem fa_first_yes (p : Nat → Bool) : ∀ n, fa_first p n < n → p (fa_first p n) = true
  | 0, h => absurd h (Nat.not_lt_zero _)
  | n + 1, h => by
    have ih := fa_first_yes p n
    have hl := fa_first_le p n
    unfold fa_first at h ⊢
    split at h
    · rename_i h1
      rw [if_pos h1]
      exact ih h1
    · rename_i h1
      rw [if_neg h1]
      split at h
      · rename_i h2
        rw [if_pos h2]
        exact h2
      · omega
/-- how many k < n have p k -/
def fa_cnt (p : Nat → Bool) : Nat → Nat
  | 0 => 0
  | n + 1 => fa_cnt p n + if p n then 1 else 0
theorem fa_cnt_le (p : Nat → Bool) : ∀ n, fa_cnt p n ≤ n
  | 0 => Nat.le_refl 0
  | n + 1 => by
    have ih := fa_cnt_le p n
    unfold fa_cnt
    split
    · omega
    · omega
theorem fa_cnt_yes {p : Nat → Bool} {n : Nat} (h : p n = true) : fa_cnt p (n + 1) = fa_cnt p n + 1 := by rw [fa_cnt, if_pos h]
theorem fa_cnt_no {p : Nat → Bool} {n : Nat} (h : p n = false) : fa_cnt p (n + 1) = fa_cnt p n := by rw [fa_cnt, if_neg (by rw [h]; decide)]; rfl
theorem fa_cnt_cong {p q : Nat → Bool} : ∀ {n : Nat}, (∀ k, k < n → p k = q k) → fa_cnt p n = fa_cnt q n
  | 0, _ => rfl
  | n + 1, h => by rw [fa_cnt, fa_cnt, fa_cnt_cong (fun k hk => h k (Nat.lt_succ_of_lt hk)), h n (Nat.lt_succ_self n)]
/-! ===== an answer carried into a post; a branch on a boolean answer ===== -/
theorem fa_post {α : Type} {P : α → Prop} {x y : α} (h : x = y) (hp : P y) : P x := h ▸ hp
theorem fa_post2 {α β : Type} {P : α → β → Prop} {x y : α} {u v : β} (h : x = y) (h2 : u = v) (hp : P y v) : P x u := h ▸ h2 ▸ hp
theorem fa_bool {r : Int32} {b : Bool} (h : r = if b then 1 else 0) : (r = 0 ↔ b = false) ∧ (¬ r = 0 ↔ b = true) := by
  subst h
  cases b
  · exact ⟨⟨fun _ => rfl, fun _ => rfl⟩, ⟨fun h => absurd rfl h, fun h => absurd h (by decide)⟩⟩
  · exact ⟨⟨fun h => absurd h (by decide), fun h => absurd h (by decide)⟩, ⟨fun _ => rfl, fun _ => by decide⟩⟩
/-- a boolean's narrowing changes nothing -/
theorem fa_bool_and {r : Int32} (h : r = 0 ∨ r = 1) : r &&& 1 = r := by
  rcases h with rfl | rfl
  · decide
  · decide
theorem fa_bool_prop {c : Prop} [Decidable c] {r : Int32} (h : r = if c then 1 else 0) : (r = 0 ↔ ¬ c) ∧ (¬ r = 0 ↔ c) := by
  subst h
  by_cases hc : c
  · rw [if_pos hc]
    exact ⟨⟨fun h => absurd h (by decide), fun h => absurd hc h⟩, ⟨fun _ => hc, fun _ => by decide⟩⟩
  · rw [if_neg hc]
    exact ⟨⟨fun _ => hc, fun _ => rfl⟩, ⟨fun h => absurd rfl h, fun h => absurd h hc⟩⟩
end
section
/-! plain facts to paste, each family by itself; over the kit's nI, lN and upd -/
/-! ===== drawers: more things than places ===== -/
theorem fb_holes : ∀ (m n : Nat) (f : Nat → Nat), (∀ i, i < n → f i < m) → (∀ i j, i < j → j < n → f i ≠ f j) → n ≤ m := by
  intro m
  induction m with
  | zero =>
    intro n f h1 _
    rcases Nat.eq_zero_or_pos n with h | h
    · omega
    · exact absurd (h1 0 h) (Nat.not_lt_zero _)
  | succ m ih =>
    intro n f h1 h2
    by_cases hx : ∃ i, i < n ∧ f i = m
    · obtain ⟨a, ha, hfa⟩ := hx
      have hg := ih (n - 1) (fun i => if i < a then f i else f (i + 1)) (by
        intro i hi
        by_cases q : i < a
        · simp only [if_pos q]
          have b1 := h1 i (by omega)
          have b2 := h2 i a q ha
          omega
        · simp only [if_neg q]
          have b1 := h1 (i + 1) (by omega)
          have b2 := h2 a (i + 1) (by omega) (by omega)
          omega) (by
        intro i j hij hj
        by_cases q : i < a
        · by_cases r : j < a
          · simp only [if_pos q, if_pos r]
            exact h2 i j hij (by omega)
          · simp only [if_pos q, if_neg r]
            exact h2 i (j + 1) (by omega) (by omega)
        · have r : ¬ j < a := by omega
          simp only [if_neg q, if_neg r]
          exact h2 (i + 1) (j + 1) (by omega) (by omega))
      omega
    · have hg := ih n f (fun i hi => by
        have b1 := h1 i hi
        have b2 : f i ≠ m := fun e => hx ⟨i, hi, e⟩
        omega) h2
      omega
/-- two of them in one place -/
theorem fb_twice {m n : Nat} {f : Nat → Nat} (h : ∀ i, i < n → f i < m) (hm : m < n) : ∃ i j, i < j ∧ j < n ∧ f i = f j := by
  refine Classical.byContradiction fun hx => ?_
  have := fb_holes m n f h (fun i j hij hj e => hx ⟨i, j, hij, hj, e⟩)
  omega
/-- as many as places, none twice: each place is taken -/
theorem fb_onto {n : Nat} {f : Nat → Nat} (h : ∀ i, i < n → f i < n) (h2 : ∀ i j, i < j → j < n → f i ≠ f j) {y : Nat} (hy : y < n) : ∃ i, i < n ∧ f i = y := by
  refine Classical.byContradiction fun hx => ?_
  have hne : ∀ i, i < n → f i ≠ y := fun i hi e => hx ⟨i, hi, e⟩
  have := fb_holes (n - 1) n (fun i => if f i < y then f i else f i - 1) (by
    intro i hi
    have b1 := h i hi
    have b2 := hne i hi
    by_cases q : f i < y
    · simp only [if_pos q]; omega
    · simp only [if_neg q]; omega) (by
    intro i j hij hj
    have b1 := hne i (by omega)
    have b2 := hne j hj
    have b3 := h2 i j hij hj
    by_cases q : f i < y
    · by_cases r : f j < y
      · simp only [if_pos q, if_pos r]; exact b3
      · simp only [if_pos q, if_neg r]; omega
    · by_cases r : f j < y
      · simp only [if_neg q, if_pos r]; omega
      · simp only [if_neg q, if_neg r]; omega)
  omega
/-! ===== how many places have a property ===== -/
def fb_ct (p : Nat → Bool) : Nat → Nat
  | 0 => 0
  | n + 1 => fb_ct p n + (if p n then 1 else 0)
theorem fb_ct_succ (p : Nat → Bool) (n : Nat) : fb_ct p (n + 1) = fb_ct p n + (if p n then 1 else 0) := rfl
theorem fb_ct_le (p : Nat → Bool) : ∀ n, fb_ct p n ≤ n
  | 0 => Nat.le_refl _
  | n + 1 => by
    have h := fb_ct_le p n
    rw [fb_ct_succ]
    split <;> omega
theorem fb_ct_step (p : Nat → Bool) (m : Nat) : ∀ n, fb_ct p m ≤ fb_ct p (m + n)
  | 0 => Nat.le_refl _
  | n + 1 => by
    have h := fb_ct_step p m n
    show fb_ct p m ≤ fb_ct p (m + n + 1)
    rw [fb_ct_succ]
    omega
theorem fb_ct_mono (p : Nat → Bool) {m n : Nat} (h : m ≤ n) : fb_ct p m ≤ fb_ct p n := by
  have := fb_ct_step p m (n - m)
  rwa [Nat.add_sub_cancel' h] at this
theorem fb_ct_cong {p q : Nat → Bool} : ∀ {n : Nat}, (∀ k, k < n → p k = q k) → fb_ct p n = fb_ct q n
  | 0, _ => rfl
  | n + 1, h => by
    rw [fb_ct_succ, fb_ct_succ, fb_ct_cong (fun k hk => h k (by omega)), h n (by omega)]
/-- one place changed -/
theorem fb_ct_out (p : Nat → Bool) (b : Bool) {i n : Nat} (h : n ≤ i) : fb_ct (fun k => if k = i then b else p k) n = fb_ct p n :=
  fb_ct_cong fun k hk => if_neg (by omega)
theorem fb_ct_upd (p : Nat → Bool) (b : Bool) {i : Nat} : ∀ {n : Nat}, i < n → fb_ct (fun k => if k = i then b else p k) n + (if p i then 1 else 0) = fb_ct p n + (if b then 1 else 0)
  | 0, h => absurd h (Nat.not_lt_zero i)
  | n + 1, h => by
    rw [fb_ct_succ, fb_ct_succ]
    rcases Nat.lt_or_ge i n with q | q
    · have := fb_ct_upd p b q
      have e : (if n = i then b else p n) = p n := if_neg (by omega)
      rw [e]
      omega
    · have e : i = n := by omega
      subst e
      rw [fb_ct_out p b (Nat.le_refl _)]
      simp only [if_true]
      omega
theorem fb_ct_sub {p q : Nat → Bool} : ∀ {n : Nat}, (∀ k, k < n → p k = true → q k = true) → fb_ct p n ≤ fb_ct q n
  | 0, _ => Nat.le_refl _
  | n + 1, h => by
    have h1 := fb_ct_sub (n := n) (p := p) (q := q) (fun k hk => h k (by omega))
    have h2 := h n (by omega)
    rw [fb_ct_succ, fb_ct_succ]
    cases hp : p n <;> cases hq : q n <;> simp_all <;> omega
theorem fb_ct_or {p q : Nat → Bool} : ∀ {n : Nat}, (∀ k, k < n → ¬ (p k = true ∧ q k = true)) → fb_ct (fun k => p k || q k) n = fb_ct p n + fb_ct q n
  | 0, _ => rfl
  | n + 1, h => by
    have h1 := fb_ct_or (n := n) (p := p) (q := q) (fun k hk => h k (by omega))
    have h2 := h n (by omega)
    rw [fb_ct_succ, fb_ct_succ, fb_ct_succ, h1]
    cases hp : p n <;> cases hq : q n <;> simp_all <;> omega
theorem fb_ct_not (p : Nat → Bool) : ∀ n, fb_ct p n + fb_ct (fun k => !p k) n = n
  | 0 => rfl
  | n + 1 => by
    have h := fb_ct_not p n
    rw [fb_ct_succ, fb_ct_succ]
    cases p n <;> simp <;> omega
theorem fb_ct_split (p : Nat → Bool) (m : Nat) : ∀ n, fb_ct p (m + n) = fb_ct p m + fb_ct (fun k => p (m + k)) n
  | 0 => rfl
  | n + 1 => by
    have h := fb_ct_split p m n
    show fb_ct p (m + n + 1) = _
    rw [fb_ct_succ, fb_ct_succ, h, Nat.add_assoc]
theorem fb_ct_zero {p : Nat → Bool} : ∀ {n : Nat}, fb_ct p n = 0 ↔ ∀ k, k < n → p k = false
  | 0 => ⟨fun _ k hk => absurd hk (Nat.not_lt_zero k), fun _ => rfl⟩
  | n + 1 => by
    have h := fb_ct_zero (p := p) (n := n)
    rw [fb_ct_succ]
    constructor
    · intro e k hk
      have e1 : fb_ct p n = 0 := by omega
      rcases Nat.lt_or_ge k n with q | q
      · exact h.mp e1 k q
      · have ek : k = n := by omega
        subst ek
        cases hp : p k
        · rfl
        · simp [hp] at e
    · intro a
      rw [h.mpr (fun k hk => a k (by omega)), a n (by omega)]
      rfl
theorem fb_ct_pos {p : Nat → Bool} {n : Nat} : 0 < fb_ct p n ↔ ∃ k, k < n ∧ p k = true := by
  constructor
  · intro h
    refine Classical.byContradiction fun hx => ?_
    have := fb_ct_zero.mpr (fun k hk => by
      cases hp : p k
      · rfl
      · exact absurd ⟨k, hk, hp⟩ hx : ∀ k, k < n → p k = false)
    omega
  · rintro ⟨k, hk, hp⟩
    rcases Nat.eq_zero_or_pos (fb_ct p n) with e | e
    · have := fb_ct_zero.mp e k hk
      rw [this] at hp
      cases hp
    · exact e
theorem fb_ct_all {p : Nat → Bool} {n : Nat} : fb_ct p n = n ↔ ∀ k, k < n → p k = true := by
  have h := fb_ct_not p n
  constructor
  · intro e k hk
    have z : fb_ct (fun k => !p k) n = 0 := by omega
    have := fb_ct_zero.mp z k hk
    cases hp : p k
    · simp [hp] at this
    · rfl
  · intro a
    have z : fb_ct (fun k => !p k) n = 0 := fb_ct_zero.mpr (fun k hk => by simp [a k hk])
    omega
/-- the k-th place with the property -/
theorem fb_ct_kth {p : Nat → Bool} {k : Nat} : ∀ {n : Nat}, k < fb_ct p n → ∃ i, i < n ∧ p i = true ∧ fb_ct p i = k
  | 0, h => absurd h (Nat.not_lt_zero k)
  | n + 1, h => by
    rcases Nat.lt_or_ge k (fb_ct p n) with q | q
    · obtain ⟨i, h1, h2⟩ := fb_ct_kth q
      exact ⟨i, by omega, h2⟩
    · rw [fb_ct_succ] at h
      cases hp : p n
      · simp [hp] at h; omega
      · simp [hp] at h
        exact ⟨n, by omega, hp, by omega⟩
theorem fb_ct_kth_one {p : Nat → Bool} {i j : Nat} (hi : p i = true) (hj : p j = true) (e : fb_ct p i = fb_ct p j) : i = j := by
  have key : ∀ a b : Nat, a < b → p a = true → fb_ct p a < fb_ct p b := by
    intro a b hab ha
    have h := fb_ct_mono p (show a + 1 ≤ b from hab)
    rw [fb_ct_succ, ha] at h
    simp at h
    omega
  rcases Nat.lt_trichotomy i j with q | q | q
  · have := key i j q hi; omega
  · exact q
  · have := key j i q hj; omega
/-! ===== sums over a range: one place changed, parts, bounds ===== -/
def fb_sm (f : Nat → Nat) : Nat → Nat
  | 0 => 0
  | n + 1 => fb_sm f n + f n
theorem fb_sm_succ (f : Nat → Nat) (n : Nat) : fb_sm f (n + 1) = fb_sm f n + f n := rfl
theorem fb_sm_cong {f g : Nat → Nat} : ∀ {n : Nat}, (∀ k, k < n → f k = g k) → fb_sm f n = fb_sm g n
  | 0, _ => rfl
  | n + 1, h => by rw [fb_sm_succ, fb_sm_succ, fb_sm_cong (fun k hk => h k (by omega)), h n (by omega)]
theorem fb_sm_out (f : Nat → Nat) (v : Nat) {i n : Nat} (h : n ≤ i) : fb_sm (fun k => if k = i then v else f k) n = fb_sm f n :=
  fb_sm_cong fun k hk => if_neg (by omega)
theorem fb_sm_upd (f : Nat → Nat) (v : Nat) {i : Nat} : ∀ {n : Nat}, i < n → fb_sm (fun k => if k = i then v else f k) n + f i = fb_sm f n + v
  | 0, h => absurd h (Nat.not_lt_zero i)
  | n + 1, h => by
    rw [fb_sm_succ, fb_sm_succ]
    rcases Nat.lt_or_ge i n with q | q
    · have := fb_sm_upd f v q
      have e : (if n = i then v else f n) = f n := if_neg (by omega)
      rw [e]
      omega
    · have e : i = n := by omega
      subst e
      rw [fb_sm_out f v (Nat.le_refl _)]
      simp only [if_true]
      omega
theorem fb_sm_add (f g : Nat → Nat) : ∀ n, fb_sm (fun k => f k + g k) n = fb_sm f n + fb_sm g n
  | 0 => rfl
  | n + 1 => by
    have h := fb_sm_add f g n
    rw [fb_sm_succ, fb_sm_succ, fb_sm_succ, h]
    omega
theorem fb_sm_le {f g : Nat → Nat} : ∀ {n : Nat}, (∀ k, k < n → f k ≤ g k) → fb_sm f n ≤ fb_sm g n
  | 0, _ => Nat.le_refl _
  | n + 1, h => by
    have h1 := fb_sm_le (n := n) (f := f) (g := g) (fun k hk => h k (by omega))
    have h2 := h n (by omega)
    rw [fb_sm_succ, fb_sm_succ]
    omega
theorem fb_sm_const (c : Nat) : ∀ n, fb_sm (fun _ => c) n = n * c
  | 0 => by rw [Nat.zero_mul]; rfl
  | n + 1 => by rw [fb_sm_succ, fb_sm_const c n, Nat.succ_mul]
theorem fb_sm_bound {f : Nat → Nat} {c n : Nat} (h : ∀ k, k < n → f k ≤ c) : fb_sm f n ≤ n * c := by
  rw [← fb_sm_const c n]
  exact fb_sm_le h
theorem fb_sm_mono (f : Nat → Nat) (m : Nat) : ∀ n, fb_sm f m ≤ fb_sm f (m + n)
  | 0 => Nat.le_refl _
  | n + 1 => by
    have h := fb_sm_mono f m n
    show fb_sm f m ≤ fb_sm f (m + n + 1)
    rw [fb_sm_succ]
    omega
theorem fb_sm_part (f : Nat → Nat) {i n : Nat} (h : i < n) : fb_sm f i + f i ≤ fb_sm f n := by
  have := fb_sm_mono f (i + 1) (n - (i + 1))
  rw [fb_sm_succ, show i + 1 + (n - (i + 1)) = n by omega] at this
  exact this
theorem fb_sm_split (f : Nat → Nat) (m : Nat) : ∀ n, fb_sm f (m + n) = fb_sm f m + fb_sm (fun k => f (m + k)) n
  | 0 => rfl
  | n + 1 => by
    have h := fb_sm_split f m n
    show fb_sm f (m + n + 1) = _
    rw [fb_sm_succ, fb_sm_succ, h, Nat.add_assoc]
theorem fb_sm_zero {f : Nat → Nat} {n : Nat} (h : fb_sm f n = 0) : ∀ k, k < n → f k = 0 := fun k hk => by
  have := fb_sm_part f hk
  omega
/-- the same over whole numbers -/
def fb_si (f : Nat → Int) : Nat → Int
  | 0 => 0
  | n + 1 => fb_si f n + f n
theorem fb_si_succ (f : Nat → Int) (n : Nat) : fb_si f (n + 1) = fb_si f n + f n := rfl
theorem fb_si_cong {f g : Nat → Int} : ∀ {n : Nat}, (∀ k, k < n → f k = g k) → fb_si f n = fb_si g n
  | 0, _ => rfl
  | n + 1, h => by rw [fb_si_succ, fb_si_succ, fb_si_cong (fun k hk => h k (by omega)), h n (by omega)]
theorem fb_si_out (f : Nat → Int) (v : Int) {i n : Nat} (h : n ≤ i) : fb_si (fun k => if k = i then v else f k) n = fb_si f n :=
  fb_si_cong fun k hk => if_neg (by omega)
theorem fb_si_upd (f : Nat → Int) (v : Int) {i : Nat} : ∀ {n : Nat}, i < n → fb_si (fun k => if k = i then v else f k) n = fb_si f n - f i + v
  | 0, h => absurd h (Nat.not_lt_zero i)
  | n + 1, h => by
    rw [fb_si_succ, fb_si_succ]
    rcases Nat.lt_or_ge i n with q | q
    · have := fb_si_upd f v q
      have e : (if n = i then v else f n) = f n := if_neg (by omega)
      rw [e]
      omega
    · have e : i = n := by omega
      subst e
      rw [fb_si_out f v (Nat.le_refl _)]
      simp only [if_true]
      omega
theorem fb_si_add (f g : Nat → Int) : ∀ n, fb_si (fun k => f k + g k) n = fb_si f n + fb_si g n
  | 0 => rfl
  | n + 1 => by
    have h := fb_si_add f g n
    rw [fb_si_succ, fb_si_succ, fb_si_succ, h]
    omega
theorem fb_si_sub (f g : Nat → Int) : ∀ n, fb_si (fun k => f k - g k) n = fb_si f n - fb_si g n
  | 0 => rfl
  | n + 1 => by
    have h := fb_si_sub f g n
    rw [fb_si_succ, fb_si_succ, fb_si_succ, h]
    omega
theorem fb_si_mul (c : Int) (f : Nat → Int) : ∀ n, fb_si (fun k => c * f k) n = c * fb_si f n
  | 0 => (Int.mul_zero c).symm
  | n + 1 => by
    have h := fb_si_mul c f n
    rw [fb_si_succ, fb_si_succ, h, Int.mul_add]
theorem fb_si_split (f : Nat → Int) (m : Nat) : ∀ n, fb_si f (m + n) = fb_si f m + fb_si (fun k => f (m + k)) n
  | 0 => (Int.add_zero _).symm
  | n + 1 => by
    have h := fb_si_split f m n
    show fb_si f (m + n + 1) = _
    rw [fb_si_succ, fb_si_succ, h, Int.add_assoc]
theorem fb_si_nat (f : Nat → Nat) : ∀ n, fb_si (fun k => (f k : Int)) n = (fb_sm f n : Int)
  | 0 => rfl
  | n + 1 => by
    have h := fb_si_nat f n
    rw [fb_si_succ, fb_sm_succ, h]
    omega
theorem fb_si_bound {f : Nat → Int} {c : Int} (hc : 0 ≤ c) : ∀ {n : Nat}, (∀ k, k < n → -c ≤ f k ∧ f k ≤ c) → -(n * c) ≤ fb_si f n ∧ fb_si f n ≤ n * c
  | 0, _ => by simp [fb_si]
  | n + 1, h => by
    have h1 := fb_si_bound (n := n) (f := f) hc (fun k hk => h k (by omega))
    have h2 := h n (by omega)
    have e : ((n + 1 : Nat) : Int) * c = n * c + c := by rw [Int.natCast_add, Int.add_mul]; simp
    rw [fb_si_succ, e]
    omega
/-! ===== bits of a long that isn't negative ===== -/
theorem fb_andL (a b : Nat) : lN a &&& lN b = lN (a &&& b) := by
  apply Int64.toBitVec_inj.1
  show BitVec.ofNat 64 a &&& BitVec.ofNat 64 b = BitVec.ofNat 64 (a &&& b)
  apply BitVec.eq_of_getLsbD_eq
  intro i hi
  simp [hi]
theorem fb_orL (a b : Nat) : lN a ||| lN b = lN (a ||| b) := by
  apply Int64.toBitVec_inj.1
  show BitVec.ofNat 64 a ||| BitVec.ofNat 64 b = BitVec.ofNat 64 (a ||| b)
  apply BitVec.eq_of_getLsbD_eq
  intro i hi
  simp [hi]
theorem fb_xorL (a b : Nat) : lN a ^^^ lN b = lN (a ^^^ b) := by
  apply Int64.toBitVec_inj.1
  show BitVec.ofNat 64 a ^^^ BitVec.ofNat 64 b = BitVec.ofNat 64 (a ^^^ b)
  apply BitVec.eq_of_getLsbD_eq
  intro i hi
  simp [hi]
theorem fb_xorI (a b : Nat) : nI a ^^^ nI b = nI (a ^^^ b) := by
  apply Int32.toBitVec_inj.1
  show BitVec.ofNat 32 a ^^^ BitVec.ofNat 32 b = BitVec.ofNat 32 (a ^^^ b)
  apply BitVec.eq_of_getLsbD_eq
  intro i hi
  simp [hi]
theorem fb_maskL (n k : Nat) : lN n &&& lN (2 ^ k - 1) = lN (n % 2 ^ k) := by rw [fb_andL, Nat.and_two_pow_sub_one_eq_mod]
theorem fb_or_sumL {a k : Nat} (b : Nat) (h : a < 2 ^ k) : lN (2 ^ k * b) ||| lN a = lN (2 ^ k * b + a) := by rw [fb_orL, Nat.two_pow_add_eq_or_of_lt h]
theorem fb_lN_inj {a b : Nat} (ha : a < 2 ^ 63) (hb : b < 2 ^ 63) : lN a = lN b ↔ a = b := by
  constructor
  · intro h
    have h1 : (BitVec.ofNat 64 a).toNat = (BitVec.ofNat 64 b).toNat := congrArg (fun x : Int64 => x.toBitVec.toNat) h
    rw [BitVec.toNat_ofNat, BitVec.toNat_ofNat, Nat.mod_eq_of_lt (by omega), Nat.mod_eq_of_lt (by omega)] at h1
    exact h1
  · rintro rfl; rfl
theorem fb_bit_nat (n j : Nat) : n &&& 2 ^ j = 0 ↔ n.testBit j = false := by
  constructor
  · intro h
    have h1 : (n &&& 2 ^ j).testBit j = false := by rw [h]; simp
    rw [Nat.testBit_and] at h1
    simpa using h1
  · intro h
    apply Nat.eq_of_testBit_eq
    intro i
    rw [Nat.testBit_and]
    by_cases hi : j = i
    · subst hi; simp [h]
    · first | (simp [Nat.testBit_two_pow, hi]; done) | (simp [Nat.testBit_two_pow_of_ne hi]; done)
/-- one bit of a long -/
theorem fb_bitL {n j : Nat} (hj : j < 63) : lN n &&& lN (2 ^ j) = 0 ↔ n.testBit j = false := by
  have h2 : (2 : Nat) ^ j < 2 ^ 63 := Nat.pow_lt_pow_right (by decide) hj
  have hle : n &&& 2 ^ j ≤ 2 ^ j := Nat.and_le_right
  rw [fb_andL, ← fb_bit_nat, show (0 : Int64) = lN 0 from rfl]
  exact fb_lN_inj (by omega) (by decide)
/-- a bit set, a bit taken off -/
theorem fb_bit_set (n j i : Nat) : (n ||| 2 ^ j).testBit i = (n.testBit i || decide (i = j)) := by
  rw [Nat.testBit_or]
  by_cases h : j = i
  · subst h; simp
  · have h2 : ¬ i = j := fun e => h e.symm
    first | (simp [Nat.testBit_two_pow, h, h2]; done) | (simp [Nat.testBit_two_pow_of_ne h, h2]; done)
theorem fb_bit_flip (n j i : Nat) : (n ^^^ 2 ^ j).testBit i = (n.testBit i ^^ decide (i = j)) := by
  rw [Nat.testBit_xor]
  by_cases h : j = i
  · subst h; simp
  · have h2 : ¬ i = j := fun e => h e.symm
    first | (simp [Nat.testBit_two_pow, h, h2]; done) | (simp [Nat.testBit_two_pow_of_ne h, h2]; done)
/-! ===== a stretch of an array written over by a function ===== -/
def fb_put {α : Type} (f g : Nat → α) (a n : Nat) : Nat → α := fun k => if a ≤ k ∧ k < a + n then g (k - a) else f k
theorem fb_put_0 {α : Type} (f g : Nat → α) (a : Nat) : fb_put f g a 0 = f := funext fun k => if_neg (by omega)
theorem fb_put_in {α : Type} {f g : Nat → α} {a n k : Nat} (h1 : a ≤ k) (h2 : k < a + n) : fb_put f g a n k = g (k - a) := if_pos ⟨h1, h2⟩
theorem fb_put_out {α : Type} {f g : Nat → α} {a n k : Nat} (h : k < a ∨ a + n ≤ k) : fb_put f g a n k = f k := if_neg (by omega)
theorem fb_put_succ (f g : Nat → Int32) (a n : Nat) : upd (fb_put f g a n) (a + n) (g n) = fb_put f g a (n + 1) := by
  funext k
  by_cases h : k = a + n
  · subst h
    simp [upd, fb_put]
  · by_cases h1 : a ≤ k ∧ k < a + n
    · have h2 : a ≤ k ∧ k < a + (n + 1) := by omega
      simp only [upd, fb_put, if_neg h, if_pos h1, if_pos h2]
    · have h2 : ¬ (a ≤ k ∧ k < a + (n + 1)) := by omega
      simp only [upd, fb_put, if_neg h, if_neg h1, if_neg h2]
/-- .. from the far end down -/
theorem fb_put_down (f g : Nat → Int32) {a n m : Nat} (h : m < n) : upd (fb_put f (fun k => g (k + (m + 1))) (a + (m + 1)) (n - (m + 1))) (a + m) (g m) = fb_put f (fun k => g (k + m)) (a + m) (n - m) := by
  funext k
  by_cases h0 : k = a + m
  · subst h0
    simp only [upd, if_true]
    rw [fb_put_in (by omega) (by omega)]
    exact congrArg g (by omega)
  · simp only [upd, if_neg h0]
    by_cases h1 : a + (m + 1) ≤ k ∧ k < a + (m + 1) + (n - (m + 1))
    · rw [fb_put_in h1.1 h1.2, fb_put_in (by omega) (by omega)]
      exact congrArg g (by omega)
    · rw [fb_put_out (by omega), fb_put_out (by omega)]
theorem fb_put_cong {α : Type} {f f2 g g2 : Nat → α} {a n : Nat} (hf : ∀ k, (k < a ∨ a + n ≤ k) → f k = f2 k) (hg : ∀ k, k < n → g k = g2 k) : fb_put f g a n = fb_put f2 g2 a n := by
  funext k
  by_cases h : a ≤ k ∧ k < a + n
  · rw [fb_put_in h.1 h.2, fb_put_in h.1 h.2, hg _ (by omega)]
  · rw [fb_put_out (by omega), fb_put_out (by omega), hf _ (by omega)]
/-! ===== the least, the first, the best so far; that there is one alone ===== -/
theorem fb_first {p : Nat → Prop} [DecidablePred p] : ∀ {n : Nat}, (∃ i, i < n ∧ p i) → ∃ i, i < n ∧ p i ∧ ∀ j, j < i → ¬ p j
  | 0, h => by obtain ⟨i, hi, -⟩ := h; exact absurd hi (Nat.not_lt_zero i)
  | n + 1, h => by
    by_cases q : ∃ i, i < n ∧ p i
    · obtain ⟨i, h1, h2⟩ := fb_first q
      exact ⟨i, by omega, h2⟩
    · obtain ⟨i, h1, h2⟩ := h
      have e : i = n := by
        rcases Nat.lt_or_ge i n with r | r
        · exact absurd ⟨i, r, h2⟩ q
        · omega
      subst e
      exact ⟨i, by omega, h2, fun j hj hp => q ⟨j, hj, hp⟩⟩
theorem fb_first_one {p : Nat → Prop} {i j : Nat} (hi : p i) (hi2 : ∀ k, k < i → ¬ p k) (hj : p j) (hj2 : ∀ k, k < j → ¬ p k) : i = j := by
  rcases Nat.lt_trichotomy i j with q | q | q
  · exact absurd hi (hj2 i q)
  · exact q
  · exact absurd hj (hi2 j q)
theorem fb_last {p : Nat → Prop} [DecidablePred p] : ∀ {n : Nat}, (∃ i, i < n ∧ p i) → ∃ i, i < n ∧ p i ∧ ∀ j, i < j → j < n → ¬ p j
  | 0, h => by obtain ⟨i, hi, -⟩ := h; exact absurd hi (Nat.not_lt_zero i)
  | n + 1, h => by
    by_cases q : p n
    · exact ⟨n, by omega, q, fun j h1 h2 => by omega⟩
    · obtain ⟨i, h1, h2⟩ := h
      have hi : i < n := by
        rcases Nat.lt_or_ge i n with r | r
        · exact r
        · have e : i = n := by omega
          subst e
          exact absurd h2 q
      obtain ⟨i2, a1, a2, a3⟩ := fb_last (n := n) ⟨i, hi, h2⟩
      refine ⟨i2, by omega, a2, fun j b1 b2 => ?_⟩
      rcases Nat.lt_or_ge j n with r | r
      · exact a3 j b1 r
      · have e : j = n := by omega
        subst e
        exact q
/-- the first greatest -/
theorem fb_best (f : Nat → Int) : ∀ {n : Nat}, 0 < n → ∃ i, i < n ∧ (∀ j, j < n → f j ≤ f i) ∧ ∀ j, j < i → f j < f i
  | 0, h => absurd h (Nat.lt_irrefl 0)
  | 1, _ => ⟨0, by omega, fun j hj => by have e : j = 0 := by omega
                                         subst e; exact Int.le_refl _, fun j hj => absurd hj (Nat.not_lt_zero j)⟩
  | n + 2, _ => by
    obtain ⟨i, h1, h2, h3⟩ := fb_best f (n := n + 1) (by omega)
    by_cases q : f i < f (n + 1)
    · refine ⟨n + 1, by omega, fun j hj => ?_, fun j hj => ?_⟩
      · rcases Nat.lt_or_ge j (n + 1) with r | r
        · have := h2 j r; omega
        · have e : j = n + 1 := by omega
          subst e; exact Int.le_refl _
      · have := h2 j hj; omega
    · refine ⟨i, by omega, fun j hj => ?_, h3⟩
      rcases Nat.lt_or_ge j (n + 1) with r | r
      · exact h2 j r
      · have e : j = n + 1 := by omega
        subst e; omega
theorem fb_best_one {f : Nat → Int} {n i j : Nat} (hi : i < n) (hi2 : ∀ k, k < n → f k ≤ f i) (hi3 : ∀ k, k < i → f k < f i) (hj : j < n) (hj2 : ∀ k, k < n → f k ≤ f j) (hj3 : ∀ k, k < j → f k < f j) : i = j := by
  rcases Nat.lt_trichotomy i j with q | q | q
  · have a := hj3 i q
    have b := hi2 j hj
    omega
  · exact q
  · have a := hi3 j q
    have b := hj2 i hi
    omega
/-- the first least -/
theorem fb_low (f : Nat → Int) {n : Nat} (h : 0 < n) : ∃ i, i < n ∧ (∀ j, j < n → f i ≤ f j) ∧ ∀ j, j < i → f i < f j := by
  obtain ⟨i, h1, h2, h3⟩ := fb_best (fun k => -f k) h
  exact ⟨i, h1, fun j hj => by have := h2 j hj; omega, fun j hj => by have := h3 j hj; omega⟩
/-! ===== signed ints as whole numbers, within bounds ===== -/
theorem fb_rng (x : Int32) : -2147483648 ≤ x.toInt ∧ x.toInt < 2147483648 := by
  have h1 := Int32.le_toInt x
  have h2 := Int32.toInt_lt x
  omega
theorem fb_bmod {z : Int} (h1 : -2147483648 ≤ z) (h2 : z < 2147483648) : z.bmod (2 ^ 32) = z := by
  rw [Int.bmod_eq_of_le (by omega) (by omega)]
theorem fb_addI {x y : Int32} (h1 : -2147483648 ≤ x.toInt + y.toInt) (h2 : x.toInt + y.toInt < 2147483648) : (x + y).toInt = x.toInt + y.toInt := by
  rw [Int32.toInt_add, fb_bmod h1 h2]
theorem fb_subI {x y : Int32} (h1 : -2147483648 ≤ x.toInt - y.toInt) (h2 : x.toInt - y.toInt < 2147483648) : (x - y).toInt = x.toInt - y.toInt := by
  rw [Int32.toInt_sub, fb_bmod h1 h2]
theorem fb_mulI {x y : Int32} (h1 : -2147483648 ≤ x.toInt * y.toInt) (h2 : x.toInt * y.toInt < 2147483648) : (x * y).toInt = x.toInt * y.toInt := by
  rw [Int32.toInt_mul, fb_bmod h1 h2]
theorem fb_negI {x : Int32} (h : x.toInt ≠ -2147483648) : (-x).toInt = -x.toInt := by
  have := fb_rng x
  rw [Int32.toInt_neg, fb_bmod (by omega) (by omega)]
theorem fb_ofI {z : Int} (h1 : -2147483648 ≤ z) (h2 : z < 2147483648) : (Int32.ofInt z).toInt = z := by
  rw [Int32.toInt_ofInt, fb_bmod h1 h2]
theorem fb_asI (x : Int32) : Int32.ofInt x.toInt = x := Int32.ofInt_toInt x
theorem fb_rngL (x : Int64) : -9223372036854775808 ≤ x.toInt ∧ x.toInt < 9223372036854775808 := by
  have h1 := Int64.le_toInt x
  have h2 := Int64.toInt_lt x
  omega
theorem fb_bmodL {z : Int} (h1 : -9223372036854775808 ≤ z) (h2 : z < 9223372036854775808) : z.bmod (2 ^ 64) = z := by
  rw [Int.bmod_eq_of_le (by omega) (by omega)]
theorem fb_addL {x y : Int64} (h1 : -9223372036854775808 ≤ x.toInt + y.toInt) (h2 : x.toInt + y.toInt < 9223372036854775808) : (x + y).toInt = x.toInt + y.toInt := by
  rw [Int64.toInt_add, fb_bmodL h1 h2]
theorem fb_subL {x y : Int64} (h1 : -9223372036854775808 ≤ x.toInt - y.toInt) (h2 : x.toInt - y.toInt < 9223372036854775808) : (x - y).toInt = x.toInt - y.toInt := by
  rw [Int64.toInt_sub, fb_bmodL h1 h2]
theorem fb_mulL {x y : Int64} (h1 : -9223372036854775808 ≤ x.toInt * y.toInt) (h2 : x.toInt * y.toInt < 9223372036854775808) : (x * y).toInt = x.toInt * y.toInt := by
  rw [Int64.toInt_mul, fb_bmodL h1 h2]
/-! ===== cuts of what is narrow already ===== -/
theorem fb_byte {x : Int32} (h1 : -128 ≤ x.toInt) (h2 : x.toInt < 128) : x.toInt8.toInt32 = x := by
  apply Int32.toInt_inj.1
  rw [Int8.toInt_toInt32, Int32.toInt_toInt8, Int.bmod_eq_of_le (by omega) (by omega)]
theorem fb_short {x : Int32} (h1 : -32768 ≤ x.toInt) (h2 : x.toInt < 32768) : x.toInt16.toInt32 = x := by
  apply Int32.toInt_inj.1
  rw [Int16.toInt_toInt32, Int32.toInt_toInt16, Int.bmod_eq_of_le (by omega) (by omega)]
theorem fb_byte_rng (x : Int32) : -128 ≤ x.toInt8.toInt32.toInt ∧ x.toInt8.toInt32.toInt < 128 := by
  rw [Int8.toInt_toInt32]
  have h1 := Int8.le_toInt x.toInt8
  have h2 := Int8.toInt_lt x.toInt8
  omega
theorem fb_short_rng (x : Int32) : -32768 ≤ x.toInt16.toInt32.toInt ∧ x.toInt16.toInt32.toInt < 32768 := by
  rw [Int16.toInt_toInt32]
  have h1 := Int16.le_toInt x.toInt16
  have h2 := Int16.toInt_lt x.toInt16
  omega
theorem fb_byte_twice (x : Int32) : x.toInt8.toInt32.toInt8.toInt32 = x.toInt8.toInt32 := fb_byte (fb_byte_rng x).1 (fb_byte_rng x).2
theorem fb_short_twice (x : Int32) : x.toInt16.toInt32.toInt16.toInt32 = x.toInt16.toInt32 := fb_short (fb_short_rng x).1 (fb_short_rng x).2
theorem fb_char {n : Nat} (h : n < 65536) : (nI n).toUInt32.toUInt16.toUInt32.toInt32 = nI n := by
  apply Int32.toBitVec_inj.1
  apply BitVec.eq_of_toNat_eq
  have e1 : (nI n).toBitVec.toNat = n := by
    show (BitVec.ofNat 32 n).toNat = n
    rw [BitVec.toNat_ofNat, Nat.mod_eq_of_lt (by omega)]
  have e2 : ((nI n).toUInt32.toUInt16.toUInt32).toNat = n := by
    rw [UInt16.toNat_toUInt32, UInt32.toNat_toUInt16]
    show (nI n).toBitVec.toNat % 2 ^ 16 = n
    rw [e1, Nat.mod_eq_of_lt (by omega)]
  rw [e1]
  exact e2
end
section
/-! NUMBERS: from Int32 and Int64 to Nat and Int. My own text. -/
theorem gd_nI {β : Type} {X : Option β} {i n : Nat} (h : i < n) (hn : n < 2 ^ 31) : gd (ix (nI i) n) X = X := gd_t (in_ix (vp_in_nI h hn))
theorem gd_b0 {β : Type} {X : Option β} : gd (bz 0) X = X := rfl
theorem gd_b1 {β : Type} {X : Option β} : gd (bz 1) X = X := rfl
theorem gd_bi {β : Type} {X : Option β} (p : Prop) {ins : Decidable p} : gd (bz (@ite Int32 p ins 1 0)) X = X := by
  by_cases h : p
  · rw [if_pos h]; rfl
  · rw [if_neg h]; rfl
theorem bi_1 (p : Prop) {ins : Decidable p} : (@ite Int32 p ins 1 0 = 1) ↔ p := by
  by_cases h : p <;> simp [h]
theorem bi_0 (p : Prop) {ins : Decidable p} : (@ite Int32 p ins 1 0 = 0) ↔ ¬ p := by
  by_cases h : p <;> simp [h]
theorem up_s {α : Type} (f : Nat → Int32) (k : Nat) (x : Int32) : upd f k x k = x := pk_us
theorem i32_lt (a b : Int32) : a < b ↔ a.toInt < b.toInt := Int32.lt_iff_toInt_lt
theorem i32_le (a b : Int32) : a ≤ b ↔ a.toInt ≤ b.toInt := Int32.le_iff_toInt_le
theorem i32_eq (a b : Int32) : a = b ↔ a.toInt = b.toInt := Int32.toInt_inj.symm
theorem nI_sub {a b : Nat} (h : b ≤ a) : nI a - nI b = nI (a - b) := pk_sub h
theorem nI_s1 {a : Nat} (h : 0 < a) : nI a - 1 = nI (a - 1) := pk_sub (b := 1) h
theorem nI_d2 {a : Nat} (h : a < 2 ^ 31) : nI a / 2 = nI (a / 2) := pk_div (d := 2) h (by decide) (by decide)
theorem nI_ne_m1 {a : Nat} (h : a < 2 ^ 31) : ¬ nI a = -1 := by
  intro q
  have h1 := nI_toInt h
  rw [q] at h1
  have h2 : ((-1 : Int32)).toInt = -1 := by decide
  omega
theorem i0 : (0 : Int32) = nI 0 := rfl
theorem i1 : (1 : Int32) = nI 1 := rfl
theorem i2 : (2 : Int32) = nI 2 := rfl
/-- isIn, is: within two bounds -/
theorem p_isIn (N : Nat) (a b c : Int32) : f_X6_isIn N a b c = some (if b.toInt ≤ a.toInt ∧ a.toInt ≤ c.toInt then 1 else 0) := by
  unfold f_X6_isIn
  by_cases h1 : a < b
  · rw [if_pos h1, gd_b0, if_neg]
    rw [i32_lt] at h1
    omega
  · rw [if_neg h1]
    by_cases h2 : c < a
    · rw [if_pos h2, gd_b0, if_neg]
      rw [i32_lt] at h2
      omega
    · rw [if_neg h2, gd_b1, if_pos]
      rw [i32_lt] at h1 h2
      omega
theorem p_is (N : Nat) (a b c : Int32) : f_X7_is N a b c = some (if b.toInt ≤ a.toInt ∧ a.toInt ≤ c.toInt then 1 else 0) := by
  unfold f_X7_is
  by_cases h1 : a < b
  · rw [if_pos h1, gd_b0, if_neg]
    rw [i32_lt] at h1
    omega
  · rw [if_neg h1]
    by_cases h2 : c < a
    · rw [if_pos h2, gd_b0, if_neg]
      rw [i32_lt] at h2
      omega
    · rw [if_neg h2, gd_b1, if_pos]
      rw [i32_lt] at h1 h2
      omega
end
section
/-! THE HEAP: a set of numbers, the least first. My own text. -/
def hpR (items : Nat → Int64) (ys : Nat → Nat) (n : Nat) : Prop := ∀ j, j < n → items j = lN (ys j) ∧ ys j < 2 ^ 62
def hpI (ys : Nat → Nat) (n : Nat) : Prop := ∀ i j, i < n → j < n → ys i = ys j → i = j
def hpS (ys : Nat → Nat) (n : Nat) (S : Nat → Prop) : Prop := ∀ v, S v ↔ ∃ j, j < n ∧ ys j = v
/-- the heap's cells hold the n different numbers of S -/
def HP (items : Nat → Int64) (size : Int32) (n : Nat) (S : Nat → Prop) : Prop := size = nI n ∧ n ≤ 400 ∧ ∃ ys : Nat → Nat, hpR items ys n ∧ (∀ j, 0 < j → j < n → ys ((j - 1) / 2) ≤ ys j) ∧ hpI ys n ∧ hpS ys n S
theorem HP.empty (items : Nat → Int64) : HP items 0 0 (fun _ => False) :=
  ⟨rfl, by omega, fun _ => 0, fun j h => absurd h (by omega), fun j _ h => absurd h (by omega), fun i j h => absurd h (by omega), fun v => ⟨fun h => h.elim, fun ⟨j, h, _⟩ => absurd h (by omega)⟩⟩
theorem lN_ltw {a b : Nat} (ha : a < 2 ^ 62) (hb : b < 2 ^ 62) : lN a < lN b ↔ a < b := pk_lLT (by omega) (by omega)
theorem lN_lew {a b : Nat} (ha : a < 2 ^ 62) (hb : b < 2 ^ 62) : lN a ≤ lN b ↔ a ≤ b := pk_lLE (by omega) (by omega)
/-- two places changed -/
def sw2 (ys : Nat → Nat) (h p : Nat) : Nat → Nat := fun j => if j = h then ys p else if j = p then ys h else ys j
theorem sw2_h (ys : Nat → Nat) (h p : Nat) : sw2 ys h p h = ys p := by simp [sw2]
theorem sw2_p (ys : Nat → Nat) (h p : Nat) : sw2 ys h p p = ys h := by
  unfold sw2
  by_cases q : p = h
  · rw [if_pos q, q]
  · rw [if_neg q, if_pos rfl]
theorem sw2_o (ys : Nat → Nat) {h p j : Nat} (a : j ≠ h) (b : j ≠ p) : sw2 ys h p j = ys j := by simp [sw2, a, b]
def sx (h p j : Nat) : Nat := if j = h then p else if j = p then h else j
theorem sw2_sx (ys : Nat → Nat) (h p j : Nat) : sw2 ys h p j = ys (sx h p j) := by
  unfold sw2 sx
  by_cases a : j = h
  · rw [if_pos a, if_pos a]
  · rw [if_neg a, if_neg a]
    by_cases b : j = p
    · rw [if_pos b, if_pos b]
    · rw [if_neg b, if_neg b]
theorem sx_lt {h p j n : Nat} (hh : h < n) (hp : p < n) (hj : j < n) : sx h p j < n := by
  unfold sx
  split
  · exact hp
  · split
    · exact hh
    · exact hj
theorem sx_inj {h p i j : Nat} (e : sx h p i = sx h p j) : i = j := by
  unfold sx at e
  split at e <;> split at e <;> (try split at e) <;> (try split at e) <;> omega
theorem sw2_I {ys : Nat → Nat} {n h p : Nat} (hh : h < n) (hp : p < n) (hi : hpI ys n) : hpI (sw2 ys h p) n := by
  intro i j hin hjn e
  rw [sw2_sx, sw2_sx] at e
  exact sx_inj (hi _ _ (sx_lt hh hp hin) (sx_lt hh hp hjn) e)
theorem sw2_S {ys : Nat → Nat} {n h p : Nat} (hh : h < n) (hp : p < n) (v : Nat) : (∃ j, j < n ∧ sw2 ys h p j = v) ↔ ∃ j, j < n ∧ ys j = v := by
  constructor
  · rintro ⟨j, hj, e⟩
    by_cases a : j = h
    · exact ⟨p, hp, by rw [← e, a, sw2_h]⟩
    · by_cases b : j = p
      · exact ⟨h, hh, by rw [← e, b, sw2_p]⟩
      · exact ⟨j, hj, by rw [← e, sw2_o ys a b]⟩
  · rintro ⟨j, hj, e⟩
    by_cases a : j = h
    · exact ⟨p, hp, by rw [sw2_p, ← e, a]⟩
    · by_cases b : j = p
      · exact ⟨h, hh, by rw [sw2_h, ← e, b]⟩
      · exact ⟨j, hj, by rw [sw2_o ys a b, e]⟩
/-- up: the hole at h; what is meant is ys, with x at the hole -/
theorem p_add_loop (N x : Nat) (hx : x < 2 ^ 62) : ∀ (f h n : Nat) (items : Nat → Int64) (ys : Nat → Nat), h < f → h < n → n ≤ 400 → ys h = x → (∀ j, j < n → j ≠ h → items j = lN (ys j) ∧ ys j < 2 ^ 62) →
    (∀ j, 0 < j → j < n → j ≠ h → ys ((j - 1) / 2) ≤ ys j) → (∀ j, 0 < h → 0 < j → j < n → (j - 1) / 2 = h → ys ((h - 1) / 2) ≤ ys j) → hpI ys n →
    ∃ (h' : Nat) (items' : Nat → Int64) (ys' : Nat → Nat), l_X1_add_28 N (lN x) f (nI h) items = some (nI h', items') ∧ h' < n ∧ ys' h' = x ∧ (∀ j, j < n → j ≠ h' → items' j = lN (ys' j) ∧ ys' j < 2 ^ 62) ∧ (∀ j, 0 < j → j < n → ys' ((j - 1) / 2) ≤ ys' j) ∧ hpI ys' n ∧ ∀ v, (∃ j, j < n ∧ ys' j = v) ↔ ∃ j, j < n ∧ ys j = v
  | 0, h, n, items, ys, hf, _, _, _, _, _, _, _ => absurd hf (by omega)
  | f + 1, h, n, items, ys, hf, hh, hn, e0, hr, ho, hg, hi => by
    by_cases h0 : h = 0
    · subst h0
      refine ⟨0, items, ys, ?_, hh, e0, hr, fun j a b => ho j a b (by omega), hi, fun v => Iff.rfl⟩
      rw [l_X1_add_28, if_pos (by decide)]
    · have hp : (h - 1) / 2 < h := by omega
      generalize hpe : (h - 1) / 2 = p at hp
      have e : (nI h - 1) / 2 = nI p := by rw [nI_s1 (by omega), nI_d2 (by omega), hpe]
      have hp1 := hr p (by omega) (by omega)
      have g1 : ∀ {X : Option (Int32 × (Nat → Int64))}, gd (ix (nI p) 400) X = X := gd_nI (by omega) (by decide)
      have g2 : ∀ {X : Option (Int32 × (Nat → Int64))}, gd (ix (nI h) 400) X = X := gd_nI (by omega) (by decide)
      have c1 : (nI p).toNatClampNeg = p := nI_clamp (by omega)
      have c2 : (nI h).toNatClampNeg = h := nI_clamp (by omega)
      have st : l_X1_add_28 N (lN x) (f + 1) (nI h) items = if lN x < items p then l_X1_add_28 N (lN x) f (nI p) (vp_updL items h (items p)) else some (nI h, items) := by
        rw [l_X1_add_28, if_neg (nI_nle (by omega) (by omega))]
        simp only [nl, e, g1, g2, c1, c2]
      rw [st, hp1.1]
      by_cases hc : x < ys p
      · rw [if_pos ((lN_ltw hx hp1.2).mpr hc)]
        obtain ⟨h', items', ys', a1, a2, a3, a4, a5, a6, a7⟩ := p_add_loop N x hx f p n (vp_updL items h (lN (ys p))) (sw2 ys h p) (by omega) (by omega) hn (by rw [sw2_p, e0])
          (fun j hj hne => by
            by_cases q : j = h
            · subst q
              rw [sw2_h]
              exact ⟨pk_uLs, hp1.2⟩
            · rw [sw2_o ys q hne, pk_uLn q]
              exact hr j hj q)
          (fun j hj0 hjn hne => by
            by_cases q : j = h
            · subst q
              rw [hpe, sw2_p, sw2_h, e0]
              omega
            · rw [sw2_o ys q hne]
              by_cases q2 : (j - 1) / 2 = h
              · rw [q2, sw2_h]
                have := hg j (by omega) hj0 hjn q2
                rw [hpe] at this
                exact this
              · by_cases q3 : (j - 1) / 2 = p
                · rw [q3, sw2_p, e0]
                  have := ho j hj0 hjn q
                  rw [q3] at this
                  omega
                · rw [sw2_o ys q2 q3]
                  exact ho j hj0 hjn q)
          (fun j hp0 hj0 hjn hjp => by
            have hpp := ho p hp0 (by omega) (by omega)
            rw [sw2_o ys (by omega) (by omega)]
            by_cases q : j = h
            · rw [q, sw2_h]
              exact hpp
            · rw [sw2_o ys q (by omega)]
              have := ho j hj0 hjn q
              rw [hjp] at this
              omega)
          (sw2_I hh (by omega) hi)
        exact ⟨h', items', ys', a1, a2, a3, a4, a5, a6, fun v => (a7 v).trans (sw2_S hh (by omega) v)⟩
      · rw [if_neg (fun q => hc ((lN_ltw hx hp1.2).mp q))]
        refine ⟨h, items, ys, rfl, hh, e0, hr, fun j a b => ?_, hi, fun v => Iff.rfl⟩
        by_cases q : j = h
        · rw [q, hpe, e0]
          omega
        · exact ho j a b q
/-- a number more -/
theorem p_add {N : Nat} (hN : 1000 ≤ N) {items : Nat → Int64} {size : Int32} {n : Nat} {S : Nat → Prop} (h : HP items size n S) (hn : n < 400) {x : Nat} (hx : x < 2 ^ 62) (hS : ¬ S x) :
    ∃ (items' : Nat → Int64), f_X1_add N items size (lN x) = some (items', nI (n + 1)) ∧ HP items' (nI (n + 1)) (n + 1) (fun v => S v ∨ v = x) := by
  obtain ⟨rfl, -, ys, hr, ho, hi, hs⟩ := h
  obtain ⟨h', items', ys', a1, a2, a3, a4, a5, a6, a7⟩ := p_add_loop N x hx N n (n + 1) items (fun j => if j = n then x else ys j) (by omega) (by omega) (by omega) (by simp)
    (fun j hj hne => by simp only [hne, if_false]; exact hr j (by omega))
    (fun j h0 hj hne => by
      have q : (j - 1) / 2 ≠ n := by omega
      simp only [hne, q, if_false]
      exact ho j h0 (by omega))
    (fun j h0 hj0 hj hp => by omega)
    (fun i j h1 h2 e => by
      by_cases a : i = n <;> by_cases b : j = n
      · omega
      · simp only [a, b, if_true, if_false] at e
        exact absurd ((hs x).mpr ⟨j, by omega, e.symm⟩) hS
      · simp only [a, b, if_true, if_false] at e
        exact absurd ((hs x).mpr ⟨i, by omega, e⟩) hS
      · simp only [a, b, if_false] at e
        exact hi i j (by omega) (by omega) e)
  refine ⟨vp_updL items' h' (lN x), ?_, rfl, by omega, ys', fun j hj => ?_, a5, a6, fun v => ?_⟩
  · have l1 : nI n < 400 := nI_lt (b := 400) hn (by decide)
    unfold f_X1_add
    rw [if_pos l1]
    simp only [nl, a1, bd2, gd_nI (show h' < 400 by omega) (by decide), nI_clamp (show h' < 2 ^ 31 by omega), nI_1]
  · by_cases q : j = h'
    · rw [q, pk_uLs, a3]
      exact ⟨rfl, hx⟩
    · rw [pk_uLn q]
      exact a4 j hj q
  · refine Iff.trans ?_ (a7 v).symm
    constructor
    · rintro (h1 | h1)
      · obtain ⟨j, hj, e⟩ := (hs v).mp h1
        exact ⟨j, by omega, by simp only [show j ≠ n by omega, if_false]; exact e⟩
      · exact ⟨n, by omega, by simp [h1]⟩
    · rintro ⟨j, hj, e⟩
      by_cases q : j = n
      · simp only [q, if_true] at e
        exact Or.inr e.symm
      · simp only [q, if_false] at e
        exact Or.inl ((hs v).mpr ⟨j, by omega, e⟩)
/-- down: the hole at h, left its first child; what is meant is ys, with x at the hole -/
theorem p_sink_loop (N x n : Nat) (hx : x < 2 ^ 62) (hn : n ≤ 400) : ∀ (f h : Nat) (items : Nat → Int64) (ys : Nat → Nat), n < h + f → h < n → ys h = x → (∀ j, j < n → j ≠ h → items j = lN (ys j) ∧ ys j < 2 ^ 62) →
    (∀ j, 0 < j → j < n → (j - 1) / 2 ≠ h → ys ((j - 1) / 2) ≤ ys j) → (∀ j, 0 < h → 0 < j → j < n → (j - 1) / 2 = h → ys ((h - 1) / 2) ≤ ys j) → hpI ys n →
    ∃ (h' : Nat) (items' : Nat → Int64) (ys' : Nat → Nat), l_X1_sink_5 N (nI n) (lN x) f (nI h) (nI (2 * h + 1)) items = some (nI h', items') ∧ h' < n ∧ ys' h' = x ∧ (∀ j, j < n → j ≠ h' → items' j = lN (ys' j) ∧ ys' j < 2 ^ 62) ∧ (∀ j, 0 < j → j < n → ys' ((j - 1) / 2) ≤ ys' j) ∧ hpI ys' n ∧ ∀ v, (∃ j, j < n ∧ ys' j = v) ↔ ∃ j, j < n ∧ ys j = v
  | 0, h, items, ys, hf, hh, _, _, _, _, _ => absurd hf (by omega)
  | f + 1, h, items, ys, hf, hh, e0, hr, ho, hg, hi => by
    by_cases h0 : n ≤ 2 * h + 1
    · refine ⟨h, items, ys, ?_, hh, e0, hr, fun j a b => ho j a b (by omega), hi, fun v => Iff.rfl⟩
      rw [l_X1_sink_5, if_pos (nI_le h0 (by omega))]
    · -- the lesser child
      obtain ⟨c, hc1, hc2, hc3, hcs⟩ : ∃ c : Nat, (c = 2 * h + 1 ∨ c = 2 * h + 2) ∧ c < n ∧ (∀ j, (j = 2 * h + 1 ∨ j = 2 * h + 2) → j < n → ys c ≤ ys j) ∧
          (if nI n ≤ nI (2 * h + 1) + 1 then some (nI (2 * h + 1)) else gd (ix (nI (2 * h + 1) + 1) 400) <| gd (ix (nI (2 * h + 1)) 400) <| if items (nI (2 * h + 1)).toNatClampNeg ≤ items (nI (2 * h + 1) + 1).toNatClampNeg then some (nI (2 * h + 1)) else some (nI (2 * h + 1) + 1)) = some (nI c) := by
        have r1 := hr (2 * h + 1) (by omega) (by omega)
        rw [nI_1]
        by_cases q : n ≤ 2 * h + 1 + 1
        · rw [if_pos (nI_le q (by omega))]
          exact ⟨2 * h + 1, Or.inl rfl, by omega, fun j hj hjn => by have : j = 2 * h + 1 := by omega
                                                                     rw [this]; exact Nat.le_refl _, rfl⟩
        · have r2 := hr (2 * h + 1 + 1) (by omega) (by omega)
          rw [if_neg (nI_ge (by omega) (by omega)), gd_nI (show 2 * h + 1 + 1 < 400 by omega) (by decide), gd_nI (show 2 * h + 1 < 400 by omega) (by decide), nI_clamp (by omega), nI_clamp (by omega), r1.1, r2.1]
          by_cases q2 : ys (2 * h + 1) ≤ ys (2 * h + 1 + 1)
          · rw [if_pos ((lN_lew r1.2 r2.2).mpr q2)]
            exact ⟨2 * h + 1, Or.inl rfl, by omega, fun j hj hjn => by rcases hj with rfl | rfl
                                                                       · exact Nat.le_refl _
                                                                       · exact q2, rfl⟩
          · rw [if_neg (fun z => q2 ((lN_lew r1.2 r2.2).mp z))]
            exact ⟨2 * h + 1 + 1, Or.inr rfl, by omega, fun j hj hjn => by rcases hj with rfl | rfl
                                                                           · omega
                                                                           · exact Nat.le_refl _, rfl⟩
      have hcp : (c - 1) / 2 = h := by omega
      have rc := hr c hc2 (by omega)
      have g1 : ∀ {X : Option (Int32 × (Nat → Int64))}, gd (ix (nI c) 400) X = X := gd_nI (by omega) (by decide)
      have g2 : ∀ {X : Option (Int32 × (Nat → Int64))}, gd (ix (nI h) 400) X = X := gd_nI (by omega) (by decide)
      have c1 : (nI c).toNatClampNeg = c := nI_clamp (by omega)
      have c2 : (nI h).toNatClampNeg = h := nI_clamp (by omega)
      have e2 : (2 * nI c) + 1 = nI (2 * c + 1) := by rw [i2, pk_mul, nI_1]
      have st : l_X1_sink_5 N (nI n) (lN x) (f + 1) (nI h) (nI (2 * h + 1)) items = if items c < lN x then l_X1_sink_5 N (nI n) (lN x) f (nI c) (nI (2 * c + 1)) (vp_updL items h (items c)) else some (nI h, items) := by
        rw [l_X1_sink_5, if_neg (nI_ge (by omega) (by omega))]
        simp only [nl]
        rw [hcs]
        simp only [bd1, g1, g2, c1, c2, e2]
      rw [st, rc.1]
      by_cases hc : ys c < x
      · rw [if_pos ((lN_ltw rc.2 hx).mpr hc)]
        obtain ⟨h', items', ys', a1, a2, a3, a4, a5, a6, a7⟩ := p_sink_loop N x n hx hn f c (vp_updL items h (lN (ys c))) (sw2 ys h c) (by omega) hc2 (by rw [sw2_p, e0])
          (fun j hj hne => by
            by_cases q : j = h
            · subst q
              rw [sw2_h]
              exact ⟨pk_uLs, rc.2⟩
            · rw [sw2_o ys q hne, pk_uLn q]
              exact hr j hj q)
          (fun j hj0 hjn hne => by
            by_cases q : j = c
            · rw [q, hcp, sw2_h, sw2_p, e0]
              omega
            · by_cases q2 : j = h
              · rw [q2, sw2_h, sw2_o ys (by omega) (by omega)]
                have := hg c (by omega) (by omega) hc2 hcp
                exact this
              · rw [sw2_o ys q2 q]
                by_cases q3 : (j - 1) / 2 = h
                · rw [q3, sw2_h]
                  exact hc3 j (by omega) hjn
                · rw [sw2_o ys q3 hne]
                  exact ho j hj0 hjn q3)
          (fun j hp0 hj0 hjn hjp => by
            rw [hcp, sw2_h, sw2_o ys (by omega) (by omega)]
            have := ho j hj0 hjn (by omega)
            rw [hjp] at this
            exact this)
          (sw2_I hh hc2 hi)
        exact ⟨h', items', ys', a1, a2, a3, a4, a5, a6, fun v => (a7 v).trans (sw2_S hh hc2 v)⟩
      · rw [if_neg (fun q => hc ((lN_ltw rc.2 hx).mp q))]
        refine ⟨h, items, ys, rfl, hh, e0, hr, fun j a b => ?_, hi, fun v => Iff.rfl⟩
        by_cases q : (j - 1) / 2 = h
        · rw [q, e0]
          have := hc3 j (by omega) b
          omega
        · exact ho j a b q
/-- the first is the least -/
theorem hp_least {ys : Nat → Nat} {n : Nat} (ho : ∀ j, 0 < j → j < n → ys ((j - 1) / 2) ≤ ys j) : ∀ j, j < n → ys 0 ≤ ys j := by
  intro j
  induction j using Nat.strongRecOn with
  | ind j ih =>
    intro hj
    by_cases h0 : j = 0
    · rw [h0]; exact Nat.le_refl _
    · have h1 := ih ((j - 1) / 2) (by omega) (by omega)
      have h2 := ho j (by omega) hj
      omega
/-- the least number goes -/
theorem p_takeLeast {N : Nat} (hN : 1000 ≤ N) {items : Nat → Int64} {size : Int32} {n : Nat} {S : Nat → Prop} (h : HP items size (n + 1) S) :
    ∃ (m : Nat) (items' : Nat → Int64), f_X1_takeLeast N items size = some (lN m, items', nI n) ∧ S m ∧ (∀ v, S v → m ≤ v) ∧ m < 2 ^ 62 ∧ HP items' (nI n) n (fun v => S v ∧ v ≠ m) := by
  obtain ⟨rfl, hn, ys, hr, ho, hi, hs⟩ := h
  have r0 := hr 0 (by omega)
  have rn := hr n (by omega)
  have hle := hp_least ho
  have hS0 : ∀ v, (S v ∧ v ≠ ys 0) ↔ ∃ j, j < n ∧ (if j = 0 then ys n else ys j) = v ∧ 0 < n := by
    intro v
    rw [hs v]
    constructor
    · rintro ⟨⟨j, hj, e⟩, hne⟩
      have hj0 : j ≠ 0 := fun q => hne (by rw [← e, q])
      by_cases q : j = n
      · exact ⟨0, by omega, by simp [← q, e], by omega⟩
      · exact ⟨j, by omega, by simp [hj0, e], by omega⟩
    · rintro ⟨j, hj, e, hn0⟩
      by_cases q : j = 0
      · simp only [q, if_true] at e
        exact ⟨⟨n, by omega, e⟩, fun z => by have := hi n 0 (by omega) (by omega) (by rw [e, z]); omega⟩
      · simp only [q, if_false] at e
        exact ⟨⟨j, by omega, e⟩, fun z => by have := hi j 0 (by omega) (by omega) (by rw [e, z]); omega⟩
  have g0 : ∀ {X : Option (Int64 × (Nat → Int64) × Int32)}, gd (ix 0 400) X = X := fun {X} => gd_nI (i := 0) (by decide) (by decide)
  have gn : ∀ {X : Option (Int64 × (Nat → Int64) × Int32)}, gd (ix (nI n) 400) X = X := gd_nI (by omega) (by decide)
  have c0 : (0 : Int32).toNatClampNeg = 0 := by decide
  have cn : (nI n).toNatClampNeg = n := nI_clamp (by omega)
  have hne : ¬ nI (n + 1) = 0 := nI_ne0 (by omega) (by omega)
  by_cases hn0 : n = 0
  · subst hn0
    refine ⟨ys 0, vp_updL items 0 (lN (ys 0)), ?_, (hs _).mpr ⟨0, by omega, rfl⟩, fun v hv => ?_, r0.2, rfl, by omega, ys, fun j h => absurd h (by omega), fun j _ h => absurd h (by omega), fun i j h => absurd h (by omega), fun v => ?_⟩
    · unfold f_X1_takeLeast
      rw [if_neg hne]
      simp only [nl, nI_pred, g0, gn, c0, cn, r0.1]
      have : f_X1_sink N items (nI 0) (lN (ys 0)) = some (vp_updL items 0 (lN (ys 0))) := by
        unfold f_X1_sink
        obtain ⟨M, rfl⟩ : ∃ M, N = M + 1 := ⟨N - 1, by omega⟩
        rw [l_X1_sink_5, if_pos (by decide)]
        rfl
      rw [this]
      rfl
    · obtain ⟨j, hj, e⟩ := (hs v).mp hv
      rw [← e]
      exact hle j hj
    · refine (hS0 v).trans ?_
      constructor
      · rintro ⟨j, hj, -⟩
        omega
      · rintro ⟨j, hj, -⟩
        omega
  · obtain ⟨h', items', ys', a1, a2, a3, a4, a5, a6, a7⟩ := p_sink_loop N (ys n) n rn.2 (by omega) N 0 items (fun j => if j = 0 then ys n else ys j) (by omega) (by omega) (by simp)
      (fun j hj hne => by simp only [hne, if_false]; exact hr j (by omega))
      (fun j h0 hj hp => by
        have q : j ≠ 0 := by omega
        simp only [q, hp, if_false]
        exact ho j h0 (by omega))
      (fun j h0 => absurd h0 (by omega))
      (fun i j h1 h2 e => by
        by_cases a : i = 0 <;> by_cases b : j = 0
        · omega
        · simp only [a, b, if_true, if_false] at e
          have := hi n j (by omega) (by omega) e
          omega
        · simp only [a, b, if_true, if_false] at e
          have := hi i n (by omega) (by omega) e
          omega
        · simp only [a, b, if_false] at e
          exact hi i j (by omega) (by omega) e)
    refine ⟨ys 0, vp_updL items' h' (lN (ys n)), ?_, (hs _).mpr ⟨0, by omega, rfl⟩, fun v hv => ?_, r0.2, rfl, by omega, ys', fun j hj => ?_, a5, a6, fun v => ?_⟩
    · unfold f_X1_takeLeast
      rw [if_neg hne]
      simp only [nl, nI_pred, g0, gn, c0, cn, r0.1, rn.1]
      have : f_X1_sink N items (nI n) (lN (ys n)) = some (vp_updL items' h' (lN (ys n))) := by
        unfold f_X1_sink
        have a1' : l_X1_sink_5 N (nI n) (lN (ys n)) N 0 1 items = some (nI h', items') := a1
        rw [a1']
        simp only [bd2, gd_nI (show h' < 400 by omega) (by decide), nI_clamp (show h' < 2 ^ 31 by omega)]
      rw [this]
      rfl
    · obtain ⟨j, hj, e⟩ := (hs v).mp hv
      rw [← e]
      exact hle j hj
    · by_cases q : j = h'
      · rw [q, pk_uLs, a3]
        exact ⟨rfl, rn.2⟩
      · rw [pk_uLn q]
        exact a4 j hj q
    · refine (hS0 v).trans (Iff.trans ?_ (a7 v).symm)
      constructor
      · rintro ⟨j, hj, e, -⟩
        exact ⟨j, hj, e⟩
      · rintro ⟨j, hj, e⟩
        exact ⟨j, hj, e, by omega⟩
end
section
/-! ROWS AND THE ORDER: a ROW's place as a number. My own text. -/
def rOK (c : Nat) (S V T F : Nat → Int32) : Prop := c ≤ 400 ∧ (∀ j, j < c → 0 ≤ (S j).toInt ∧ (S j).toInt < 4) ∧ (∀ j, j < c → -100000 ≤ (V j).toInt ∧ (V j).toInt ≤ 100000) ∧ (∀ j, j < 4 → 0 ≤ (T j).toInt ∧ (T j).toInt < 4) ∧ (∀ i j, i < 4 → j < 4 → (T i).toInt = (T j).toInt → i = j) ∧ ∀ j, j < 4 → F j = 0 ∨ F j = 1
def sIx (S : Nat → Int32) (i : Nat) : Nat := (S i).toNatClampNeg
def plV (S V F : Nat → Int32) (i : Nat) : Int := if F (sIx S i) = 0 then (V i).toInt else -(V i).toInt
def plI (S V T F : Nat → Int32) (i : Nat) : Int := ((T (sIx S i)).toInt * 200001 + plV S V F i + 100000) * 400 + i
def plc (S V T F : Nat → Int32) (i : Nat) : Nat := (plI S V T F i).toNat
theorem sIx_ok {c : Nat} {S V T F : Nat → Int32} (h : rOK c S V T F) {i : Nat} (hi : i < c) : sIx S i < 4 ∧ S i = nI (sIx S i) ∧ ((sIx S i : Nat) : Int) = (S i).toInt := by
  have h1 := h.2.1 i hi
  obtain ⟨j, hj, e⟩ := vp_in_of (vp_in_iff.mpr h1 : vp_in (S i) 4) (by decide)
  have e2 : sIx S i = j := by unfold sIx; rw [e]; exact nI_clamp (by omega)
  rw [e2]
  refine ⟨hj, e, ?_⟩
  rw [e, nI_toInt (by omega)]
theorem plV_rng {c : Nat} {S V T F : Nat → Int32} (h : rOK c S V T F) {i : Nat} (hi : i < c) : -100000 ≤ plV S V F i ∧ plV S V F i ≤ 100000 := by
  have h1 := h.2.2.1 i hi
  unfold plV
  split <;> omega
theorem plI_rng {c : Nat} {S V T F : Nat → Int32} (h : rOK c S V T F) {i : Nat} (hi : i < c) : 0 ≤ plI S V T F i ∧ plI S V T F i < 320001600 := by
  have h1 := plV_rng h hi
  have h2 := h.2.2.2.1 _ (sIx_ok h hi).1
  have h3 := h.1
  unfold plI
  omega
theorem plc_I {c : Nat} {S V T F : Nat → Int32} (h : rOK c S V T F) {i : Nat} (hi : i < c) : ((plc S V T F i : Nat) : Int) = plI S V T F i := Int.toNat_of_nonneg (plI_rng h hi).1
theorem plc_lt {c : Nat} {S V T F : Nat → Int32} (h : rOK c S V T F) {i : Nat} (hi : i < c) : plc S V T F i < 320001600 := by
  have h1 := plc_I h hi
  have h2 := plI_rng h hi
  omega
theorem plc_mod {c : Nat} {S V T F : Nat → Int32} (h : rOK c S V T F) {i : Nat} (hi : i < c) : plc S V T F i % 400 = i := by
  have h1 := plc_I h hi
  have h2 := plI_rng h hi
  have h3 := h.1
  unfold plI at h1 h2
  omega
theorem plc_inj {c : Nat} {S V T F : Nat → Int32} (h : rOK c S V T F) {i j : Nat} (hi : i < c) (hj : j < c) (e : plc S V T F i = plc S V T F j) : i = j := by
  have h1 := plc_mod h hi
  have h2 := plc_mod h hj
  omega
theorem p_has (N c : Nat) (hc : c ≤ 400) (v : Int32) : f_X4_has N (nI c) v = some (if 0 ≤ v.toInt ∧ v.toInt < c then 1 else 0) := by
  unfold f_X4_has
  have e : (nI c - 1).toInt = (c : Int) - 1 := pk_sub_toInt (b := 1) (by omega) (by omega)
  have e0 : (0 : Int32).toInt = 0 := by decide
  rw [p_isIn]
  simp only [bd1, gd_bi, e, e0]
  by_cases h : 0 ≤ v.toInt ∧ v.toInt < c
  · rw [if_pos h, if_pos ⟨h.1, by omega⟩]
  · rw [if_neg h, if_neg (by omega)]
theorem p_isRow (N c : Nat) (hc : c ≤ 400) (v : Int32) : f_X7_isRow N (nI c) v = some (if 0 ≤ v.toInt ∧ v.toInt < c then 1 else 0) := by
  unfold f_X7_isRow
  have e : (nI c).toInt = (c : Int) := nI_toInt (by omega)
  have e0 : (0 : Int32).toInt = 0 := by decide
  by_cases h1 : v < 0
  · rw [if_pos h1, gd_b0, if_neg]
    rw [i32_lt, e0] at h1
    omega
  · rw [if_neg h1]
    rw [i32_lt, e0] at h1
    by_cases h2 : nI c ≤ v
    · rw [if_pos h2, gd_b0, if_neg]
      rw [i32_le, e] at h2
      omega
    · rw [if_neg h2, gd_b1, if_pos]
      rw [i32_le, e] at h2
      omega
theorem p_placeOf (N : Nat) {c : Nat} {S V T F : Nat → Int32} (h : rOK c S V T F) {i : Nat} (hi : i < c) : f_X4_placeOf N S V T F (nI c) (nI i) = some (nI (plc S V T F i)) := by
  have hc := h.1
  obtain ⟨s1, s2, s3⟩ := sIx_ok h hi
  have hV := h.2.2.1 i hi
  have hT := h.2.2.2.1 _ s1
  have hr := plI_rng h hi
  have ei : (nI i).toInt = (i : Int) := nI_toInt (by omega)
  have ci : (nI i).toNatClampNeg = i := nI_clamp (by omega)
  have cs : (nI (sIx S i)).toNatClampNeg = sIx S i := nI_clamp (by omega)
  unfold f_X4_placeOf
  rw [p_has N c hc, if_pos (by rw [ei]; omega)]
  simp only [bd1]
  rw [if_neg (by decide)]
  rw [gd_nI (show i < 400 by omega) (by decide)]
  simp only [nl, ci]
  rw [s2, gd_nI s1 (by decide)]
  simp only [cs]
  have key : ∀ y : Int32, y.toInt = plV S V F i → (((((T (sIx S i)) * 200001) + y) + 100000) * 400) + nI i = nI (plc S V T F i) := by
    intro y hy
    have hvr := plV_rng h hi
    have l1 : (200001 : Int32).toInt = 200001 := by decide
    have l2 : (100000 : Int32).toInt = 100000 := by decide
    have l3 : (400 : Int32).toInt = 400 := by decide
    have a1 : ((T (sIx S i)) * 200001).toInt = (T (sIx S i)).toInt * 200001 := by rw [fb_mulI (by rw [l1]; omega) (by rw [l1]; omega), l1]
    have a2 : (((T (sIx S i)) * 200001) + y).toInt = (T (sIx S i)).toInt * 200001 + plV S V F i := by rw [fb_addI (by rw [a1, hy]; omega) (by rw [a1, hy]; omega), a1, hy]
    have a3 : ((((T (sIx S i)) * 200001) + y) + 100000).toInt = (T (sIx S i)).toInt * 200001 + plV S V F i + 100000 := by rw [fb_addI (by rw [a2, l2]; omega) (by rw [a2, l2]; omega), a2, l2]
    have a4 : (((((T (sIx S i)) * 200001) + y) + 100000) * 400).toInt = ((T (sIx S i)).toInt * 200001 + plV S V F i + 100000) * 400 := by rw [fb_mulI (by rw [a3, l3]; omega) (by rw [a3, l3]; omega), a3, l3]
    rw [i32_eq, nI_toInt (by have := plc_lt h hi; omega), plc_I h hi]
    rw [fb_addI (by rw [a4, ei]; omega) (by rw [a4, ei]; omega), a4, ei]
    rfl
  by_cases hF : F (sIx S i) = 0
  · rw [if_pos hF, gd_nI (show i < 400 by omega) (by decide)]
    simp only
    rw [gd_nI s1 (by decide), key]
    unfold plV
    rw [if_pos hF]
  · rw [if_neg hF, gd_nI (show i < 400 by omega) (by decide)]
    simp only
    rw [gd_nI s1 (by decide), key]
    unfold plV
    rw [if_neg hF, fb_negI (by omega)]
theorem p_ahead (N : Nat) {c : Nat} {S V T F : Nat → Int32} (h : rOK c S V T F) {a b : Nat} (ha : a < c) (hb : b < c) : f_X7_ahead N S V T F (nI a) (nI b) = some (if plc S V T F a < plc S V T F b then 1 else 0) := by
  have hc := h.1
  obtain ⟨s1, s2, s3⟩ := sIx_ok h ha
  obtain ⟨t1, t2, t3⟩ := sIx_ok h hb
  have pa := plc_I h ha
  have pb := plc_I h hb
  have va := plV_rng h ha
  have vb := plV_rng h hb
  have Ta := h.2.2.2.1 _ s1
  have Tb := h.2.2.2.1 _ t1
  have ca : (nI a).toNatClampNeg = a := nI_clamp (by omega)
  have cb : (nI b).toNatClampNeg = b := nI_clamp (by omega)
  have ga : ∀ {X : Option Int32}, gd (ix (nI a) 400) X = X := gd_nI (by omega) (by decide)
  have gb : ∀ {X : Option Int32}, gd (ix (nI b) 400) X = X := gd_nI (by omega) (by decide)
  have gs : ∀ {X : Option Int32}, gd (ix (S a) 4) X = X := by intro X; rw [s2]; exact gd_nI s1 (by decide)
  have gt : ∀ {X : Option Int32}, gd (ix (S b) 4) X = X := by intro X; rw [t2]; exact gd_nI t1 (by decide)
  have es : (S a).toNatClampNeg = sIx S a := rfl
  have et : (S b).toNatClampNeg = sIx S b := rfl
  unfold f_X7_ahead
  simp only [ga, gb, gs, gt, ca, cb, es, et, gd_b0, gd_b1]
  unfold plI at pa pb
  by_cases h1 : S a = S b
  · have e1 : sIx S a = sIx S b := by unfold sIx; rw [h1]
    rw [if_pos h1]
    rw [e1] at pa
    by_cases h2 : V a = V b
    · have e2 : plV S V F a = plV S V F b := by unfold plV; rw [e1, h2]
      rw [if_pos h2]
      rw [e2] at pa
      by_cases h3 : b ≤ a
      · rw [if_pos (nI_le h3 (by omega)), if_neg (by omega)]
      · rw [if_neg (nI_ge (by omega) (by omega)), if_pos (by omega)]
    · rw [if_neg h2]
      have h2' : (V a).toInt ≠ (V b).toInt := fun q => h2 (Int32.toInt_inj.mp q)
      unfold plV at pa pb
      rw [e1] at pa
      rcases h.2.2.2.2.2 _ t1 with hF | hF
      · rw [if_pos hF] at pa pb
        by_cases h3 : V b ≤ V a
        · rw [if_pos h3]
          simp only [bd1]
          rw [e1, if_pos hF.symm, if_neg]
          rw [i32_le] at h3
          omega
        · rw [if_neg h3]
          simp only [bd1]
          rw [e1, if_neg (by rw [hF]; decide), if_pos]
          rw [i32_le] at h3
          omega
      · rw [if_neg (by rw [hF]; decide)] at pa pb
        by_cases h3 : V b ≤ V a
        · rw [if_pos h3]
          simp only [bd1]
          rw [e1, if_neg (by rw [hF]; decide), if_pos]
          rw [i32_le] at h3
          omega
        · rw [if_neg h3]
          simp only [bd1]
          rw [e1, if_pos hF.symm, if_neg]
          rw [i32_le] at h3
          omega
  · rw [if_neg h1]
    have hne : sIx S a ≠ sIx S b := fun q => h1 (by rw [s2, t2, q])
    have hTne : (T (sIx S a)).toInt ≠ (T (sIx S b)).toInt := fun q => hne (h.2.2.2.2.1 _ _ s1 t1 q)
    by_cases h3 : T (sIx S b) ≤ T (sIx S a)
    · rw [if_pos h3, if_neg]
      rw [i32_le] at h3
      omega
    · rw [if_neg h3, if_pos]
      rw [i32_le] at h3
      omega
end
section
/-! THE ORDER of all ROWS: putInOrder. My own text. -/
def ups (f : Nat → Nat) (k x : Nat) : Nat → Nat := fun j => if j = k then x else f j
theorem ups_s (f : Nat → Nat) (k x : Nat) : ups f k x k = x := by simp [ups]
theorem ups_n (f : Nat → Nat) {k x j : Nat} (h : j ≠ k) : ups f k x j = f j := by simp [ups, h]
def SO (n : Nat) (P io sd : Nat → Nat) : Prop := (∀ i, i < n → io i < n ∧ sd (io i) = i) ∧ (∀ r, r < n → sd r < n ∧ io (sd r) = r) ∧ ∀ i j, i < j → j < n → P (io i) < P (io j)
theorem SO.lt {n : Nat} {P io sd : Nat → Nat} (h : SO n P io sd) {a b : Nat} (ha : a < n) (hb : b < n) : P a < P b ↔ sd a < sd b := by
  obtain ⟨h1, h2, h3⟩ := h
  have ea := h2 a ha
  have eb := h2 b hb
  constructor
  · intro q
    rcases Nat.lt_or_ge (sd a) (sd b) with z | z
    · exact z
    · rcases Nat.lt_or_ge (sd b) (sd a) with y | y
      · have := h3 _ _ y ea.1
        rw [ea.2, eb.2] at this
        omega
      · have e : sd a = sd b := by omega
        have : a = b := by rw [← ea.2, e, eb.2]
        rw [this] at q
        omega
  · intro q
    have := h3 _ _ q eb.1
    rw [ea.2, eb.2] at this
    exact this
theorem p_rowOf (N : Nat) {m : Nat} (h : m < 2 ^ 62) : f_X4_rowOf N (lN m) = some (nI (m % 400)) := by
  unfold f_X4_rowOf
  have e : lN m - lN m / 400 * 400 = lN (m % 400) := pk_lRem (b := 400) (by omega) (by decide) (by decide)
  rw [e, lN_i]
theorem HP.congr {items : Nat → Int64} {size : Int32} {n : Nat} {S S' : Nat → Prop} (h : HP items size n S) (e : ∀ v, S' v ↔ S v) : HP items size n S' := by
  obtain ⟨h1, h2, ys, h3, h4, h5, h6⟩ := h
  exact ⟨h1, h2, ys, h3, h4, h5, fun v => (e v).trans (h6 v)⟩
theorem p_put1 {N : Nat} (hN : 1000 ≤ N) {c : Nat} {S V T F : Nat → Int32} (h : rOK c S V T F) : ∀ (f j : Nat) (items : Nat → Int64), j ≤ c → c - j < f → HP items (nI j) j (fun v => ∃ r, r < j ∧ v = plc S V T F r) →
    ∃ items', l_X5_putInOrder_6 N S V T F (nI c) (nI c) f (nI j) items (nI j) = some (items', nI c) ∧ HP items' (nI c) c (fun v => ∃ r, r < c ∧ v = plc S V T F r)
  | 0, j, items, _, hf, _ => absurd hf (by omega)
  | f + 1, j, items, hj, hf, hp => by
    have hc := h.1
    rw [l_X5_putInOrder_6]
    by_cases q : c ≤ j
    · have e : j = c := by omega
      subst e
      rw [if_pos (nI_le (Nat.le_refl _) (by omega))]
      exact ⟨items, rfl, hp⟩
    · have hjc : j < c := by omega
      rw [if_neg (nI_ge hjc (by omega)), p_placeOf N h hjc]
      have hlt := plc_lt h hjc
      obtain ⟨items', a1, a2⟩ := p_add hN hp (by omega) (x := plc S V T F j) (by omega) (by
        rintro ⟨r, hr, e⟩
        have := plc_inj h hjc (by omega) e
        omega)
      simp only [bd1, nI_l (show plc S V T F j < 2 ^ 31 by omega), a1, bd2, nl, nI_1]
      exact p_put1 hN h f (j + 1) items' (by omega) (by omega) (a2.congr fun v => by
        constructor
        · rintro ⟨r, hr, e⟩
          by_cases z : r = j
          · exact Or.inr (by rw [e, z])
          · exact Or.inl ⟨r, by omega, e⟩
        · rintro (⟨r, hr, e⟩ | e)
          · exact ⟨r, by omega, e⟩
          · exact ⟨j, by omega, e⟩)
theorem p_put2 {N : Nat} (hN : 1000 ≤ N) {c : Nat} {P : Nat → Nat} (hc : c ≤ 400) (hP : ∀ r, r < c → P r < 320001600 ∧ P r % 400 = r) : ∀ (f i : Nat) (inO st : Nat → Int32) (items : Nat → Int64) (io : Nat → Nat) (S : Nat → Prop), i ≤ c → c - i < f → HP items (nI (c - i)) (c - i) S →
    (∀ k, k < i → io k < c ∧ inO k = nI (io k) ∧ st (io k) = nI k) → (∀ a b, a < b → b < i → P (io a) < P (io b)) → (∀ k v, k < i → S v → P (io k) < v) → (∀ v, S v ↔ ∃ r, r < c ∧ v = P r ∧ ∀ k, k < i → io k ≠ r) →
    ∃ (inO' st' : Nat → Int32) (items' : Nat → Int64) (io' sd' : Nat → Nat), l_X5_putInOrder_32 N (nI c) f (nI i) items (nI (c - i)) inO st = some (items', nI 0, inO', st') ∧ SO c P io' sd' ∧ (∀ k, k < c → inO' k = nI (io' k)) ∧ (∀ r, r < c → st' r = nI (sd' r))
  | 0, i, inO, st, items, io, S, _, hf, _, _, _, _, _ => absurd hf (by omega)
  | f + 1, i, inO, st, items, io, S, hi, hf, hp, hA, hB, hC, hD => by
    rw [l_X5_putInOrder_32]
    by_cases q : c ≤ i
    · have e : i = c := by omega
      subst e
      rw [if_pos (nI_le (Nat.le_refl _) (by omega))]
      rw [Nat.sub_self] at hp ⊢
      obtain ⟨-, -, ys, -, -, -, hs⟩ := hp
      -- every ROW has come out
      have all : ∀ r, r < i → ∃ k, k < i ∧ io k = r := by
        intro r hr
        by_cases z : ∃ k, k < i ∧ io k = r
        · exact z
        · have : S (P r) := (hD _).mpr ⟨r, hr, rfl, fun k hk e => z ⟨k, hk, e⟩⟩
          obtain ⟨j, hj, -⟩ := (hs _).mp this
          omega
      have inj : ∀ a b, a < i → b < i → io a = io b → a = b := by
        intro a b ha hb e
        rcases Nat.lt_or_ge a b with z | z
        · have := hB a b z hb
          rw [e] at this
          omega
        · rcases Nat.lt_or_ge b a with y | y
          · have := hB b a y ha
            rw [e] at this
            omega
          · omega
      refine ⟨inO, st, items, io, fun r => (st r).toNatClampNeg, rfl, ⟨fun k hk => ?_, fun r hr => ?_, hB⟩, fun k hk => (hA k hk).2.1, fun r hr => ?_⟩
      · refine ⟨(hA k hk).1, ?_⟩
        show (st (io k)).toNatClampNeg = k
        rw [(hA k hk).2.2]
        exact nI_clamp (by omega)
      · obtain ⟨k, hk, e⟩ := all r hr
        show (st r).toNatClampNeg < i ∧ io (st r).toNatClampNeg = r
        rw [← e, (hA k hk).2.2, nI_clamp (by omega)]
        exact ⟨hk, rfl⟩
      · obtain ⟨k, hk, e⟩ := all r hr
        show st r = nI (st r).toNatClampNeg
        rw [← e, (hA k hk).2.2, nI_clamp (by omega)]
    · have hic : i < c := by omega
      rw [if_neg (nI_ge hic (by omega))]
      obtain ⟨d, hd⟩ : ∃ d, c - i = d + 1 := ⟨c - i - 1, by omega⟩
      have hd2 : c - (i + 1) = d := by omega
      rw [hd] at hp ⊢
      obtain ⟨m, items', a1, a2, a3, a4, a5⟩ := p_takeLeast hN hp
      obtain ⟨r, hr, em, hro⟩ := (hD m).mp a2
      have hPr := hP r hr
      have emod : m % 400 = r := by rw [em]; exact hPr.2
      rw [a1]
      simp only [bd3]
      rw [p_rowOf N a4, emod]
      simp only [bd1, nl, gd_nI (show i < 400 by omega) (by decide), gd_nI (show r < 400 by omega) (by decide), nI_clamp (show i < 2 ^ 31 by omega), nI_clamp (show r < 2 ^ 31 by omega), nI_1]
      rw [← hd2]
      rw [← hd2] at a5
      refine p_put2 hN hc hP f (i + 1) (upd inO i (nI r)) (upd st r (nI i)) items' (ups io i r) (fun v => S v ∧ v ≠ m) (by omega) (by omega) a5 ?_ ?_ ?_ ?_
      · intro k hk
        by_cases z : k = i
        · rw [z, ups_s, pk_us, pk_us]
          exact ⟨hr, rfl, rfl⟩
        · have hk2 : k < i := by omega
          rw [ups_n io z, pk_un z, pk_un (hro k hk2)]
          exact hA k hk2
      · intro a b hab hb
        by_cases z : b = i
        · rw [z, ups_s, ups_n io (by omega), ← em]
          exact hC a m (by omega) a2
        · rw [ups_n io z, ups_n io (by omega)]
          exact hB a b hab (by omega)
      · intro k v hk hv
        by_cases z : k = i
        · rw [z, ups_s, ← em]
          have := a3 v hv.1
          have := hv.2
          omega
        · rw [ups_n io z]
          exact hC k v (by omega) hv.1
      · intro v
        rw [hD v]
        constructor
        · rintro ⟨⟨r2, h1, h2, h3⟩, hne⟩
          refine ⟨r2, h1, h2, fun k hk => ?_⟩
          by_cases z : k = i
          · rw [z, ups_s]
            exact fun e => hne (by rw [h2, ← e, em])
          · rw [ups_n io z]
            exact h3 k (by omega)
        · rintro ⟨r2, h1, h2, h3⟩
          have h4 := h3 i (by omega)
          rw [ups_s] at h4
          refine ⟨⟨r2, h1, h2, fun k hk => ?_⟩, fun e => ?_⟩
          · have := h3 k (by omega)
            rw [ups_n io (by omega)] at this
            exact this
          · have h5 := (hP r2 h1).2
            rw [← h2, e, emod] at h5
            exact h4 h5
theorem p_putInOrder {N : Nat} (hN : 1000 ≤ N) {c : Nat} {S V T F : Nat → Int32} (h : rOK c S V T F) (inO st : Nat → Int32) (items : Nat → Int64) (size : Int32) :
    ∃ (inO' st' : Nat → Int32) (items' : Nat → Int64) (io sd : Nat → Nat), f_X5_putInOrder N S V T F (nI c) items size inO st (nI c) = some (items', nI 0, inO', st') ∧ SO c (plc S V T F) io sd ∧ (∀ k, k < c → inO' k = nI (io k)) ∧ (∀ r, r < c → st' r = nI (sd r)) := by
  obtain ⟨i1, a1, a2⟩ := p_put1 hN h N 0 items (by omega) (by have := h.1; omega) ((HP.empty items).congr fun v => ⟨fun ⟨r, hr, _⟩ => absurd hr (by omega), fun z => z.elim⟩)
  obtain ⟨inO', st', i2, io, sd, b1, b2, b3, b4⟩ := p_put2 hN h.1 (fun r hr => ⟨plc_lt h hr, plc_mod h hr⟩) N 0 inO st i1 (fun _ => 0) _ (by omega) (by have := h.1; omega) a2 (fun k hk => absurd hk (by omega)) (fun a b _ hb => absurd hb (by omega)) (fun k v hk => absurd hk (by omega)) (fun v => by
    constructor
    · rintro ⟨r, hr, e⟩
      exact ⟨r, hr, e, fun k hk => absurd hk (by omega)⟩
    · rintro ⟨r, hr, e, _⟩
      exact ⟨r, hr, e⟩)
  refine ⟨inO', st', i2, io, sd, ?_, b2, b3, b4⟩
  unfold f_X5_putInOrder
  have e1 : f_X1_forget N size = some 0 := rfl
  rw [e1]
  simp only [bd1]
  have a1' : l_X5_putInOrder_6 N S V T F (nI c) (nI c) N 0 items 0 = some (i1, nI c) := a1
  rw [a1']
  simp only [bd2]
  have b1' : l_X5_putInOrder_32 N (nI c) N 0 i1 (nI c) inO st = some (i2, nI 0, inO', st') := b1
  rw [b1']
  rfl
end
section
/-! THE REFERENCE'S SCAN of its heap, and small parts of select. My own text. -/
def lI (o : Option Nat) : Int32 := match o with
  | none => -1
  | some l => nI l
theorem lI_none {o : Option Nat} (h : ∀ l, o = some l → l < 2 ^ 31) : lI o = -1 ↔ o = none := by
  cases o with
  | none => exact ⟨fun _ => rfl, fun _ => rfl⟩
  | some l => exact ⟨fun q => absurd q (nI_ne_m1 (h l rfl)), fun q => by cases q⟩
/-- a ROW may follow the last one -/
def elig (P : Nat → Nat) (lst : Option Nat) (r : Nat) : Prop := ∀ l, lst = some l → ¬ P r < P l
def bestOf (P : Nat → Nat) (lst : Option Nat) (hr : Nat → Nat) (j : Nat) (b : Option Nat) : Prop := (b = none → ∀ k, k < j → ¬ elig P lst (hr k)) ∧ ∀ x, b = some x → x < j ∧ elig P lst (hr x) ∧ ∀ k, k < j → elig P lst (hr k) → P (hr x) ≤ P (hr k)
theorem bestOf_skip {P : Nat → Nat} {lst : Option Nat} {hr : Nat → Nat} {j : Nat} {b : Option Nat} (h : bestOf P lst hr j b) (hn : ¬ elig P lst (hr j)) : bestOf P lst hr (j + 1) b := by
  refine ⟨fun e k hk => ?_, fun x e => ?_⟩
  · by_cases q : k = j
    · rw [q]; exact hn
    · exact h.1 e k (by omega)
  · obtain ⟨a1, a2, a3⟩ := h.2 x e
    refine ⟨by omega, a2, fun k hk he => ?_⟩
    by_cases q : k = j
    · rw [q] at he; exact absurd he hn
    · exact a3 k (by omega) he
theorem bestOf_keep {P : Nat → Nat} {lst : Option Nat} {hr : Nat → Nat} {j b : Nat} (h : bestOf P lst hr j (some b)) (hle : P (hr b) ≤ P (hr j)) : bestOf P lst hr (j + 1) (some b) := by
  refine ⟨fun e => absurd e (by simp), fun x e => ?_⟩
  cases e
  obtain ⟨a1, a2, a3⟩ := h.2 b rfl
  refine ⟨by omega, a2, fun k hk he => ?_⟩
  by_cases q : k = j
  · rw [q]; exact hle
  · exact a3 k (by omega) he
theorem bestOf_new {P : Nat → Nat} {lst : Option Nat} {hr : Nat → Nat} {j : Nat} {b : Option Nat} (h : bestOf P lst hr j b) (he : elig P lst (hr j)) (hlt : ∀ x, b = some x → P (hr j) ≤ P (hr x)) : bestOf P lst hr (j + 1) (some j) := by
  refine ⟨fun e => absurd e (by simp), fun x e => ?_⟩
  cases e
  refine ⟨by omega, he, fun k hk hek => ?_⟩
  by_cases q : k = j
  · rw [q]; exact Nat.le_refl _
  · cases hb : b with
    | none => exact absurd hek (h.1 hb k (by omega))
    | some y =>
      have h1 := (h.2 y hb).2.2 k (by omega) hek
      have h2 := hlt y hb
      omega
theorem p_scan {N c h : Nat} {P hr : Nat → Nat} {S V T F hp : Nat → Int32} {lst : Option Nat} (hh : h ≤ 40) (hc : c ≤ 400) (ah : ∀ a b, a < c → b < c → f_X7_ahead N S V T F (nI a) (nI b) = some (if P a < P b then 1 else 0)) (hl : ∀ l, lst = some l → l < c) (hhr : ∀ k, k < h → hr k < c ∧ hp k = nI (hr k)) :
    ∀ (f j : Nat) (b : Option Nat), j ≤ h → h - j < f → bestOf P lst hr j b → ∃ b', l_X7_runs_88 N S V T F hp (nI h) (lI lst) f (lI b) (nI j) = some (lI b') ∧ bestOf P lst hr h b'
  | 0, j, b, _, hf, _ => absurd hf (by omega)
  | f + 1, j, b, hj, hf, hb => by
    rw [l_X7_runs_88]
    by_cases q : h ≤ j
    · have e : j = h := by omega
      subst e
      rw [if_pos (nI_le (Nat.le_refl _) (by omega))]
      exact ⟨b, rfl, hb⟩
    · have hjh : j < h := by omega
      rw [if_neg (nI_ge hjh (by omega))]
      have ih := fun b' => p_scan (P := P) (hr := hr) (lst := lst) hh hc ah hl hhr f (j + 1) b' (by omega) (by omega)
      have rj := hhr j hjh
      have cj : (nI j).toNatClampNeg = j := nI_clamp (by omega)
      have gj : ∀ {X : Option Int32}, gd (ix (nI j) 40) X = X := gd_nI (by omega) (by decide)
      have hbl : ∀ x, b = some x → x < 2 ^ 31 := fun x e => by have := (hb.2 x e).1; omega
      -- the end of a step for an eligible ROW
      have tail : elig P lst (hr j) → ∃ b', (if lI b = -1 then l_X7_runs_88 N S V T F hp (nI h) (lI lst) f (nI j) (nI (j + 1)) else gd (ix (nI j) 40) <| gd (ix (lI b) 40) <| bd1 (f_X7_ahead N S V T F (hp (nI j).toNatClampNeg) (hp (lI b).toNatClampNeg)) fun r => if r = 0 then l_X7_runs_88 N S V T F hp (nI h) (lI lst) f (lI b) (nI (j + 1)) else l_X7_runs_88 N S V T F hp (nI h) (lI lst) f (nI j) (nI (j + 1))) = some (lI b') ∧ bestOf P lst hr h b' := by
        intro he
        cases hbe : b with
        | none =>
          rw [if_pos (show lI none = -1 from rfl)]
          rw [hbe] at hb
          exact ih (some j) (bestOf_new hb he (fun x e => by cases e))
        | some x =>
          rw [hbe] at hb
          have hx := hb.2 x rfl
          have rx := hhr x (by omega)
          have e1 : lI (some x) = nI x := rfl
          rw [e1, if_neg (nI_ne_m1 (by omega)), gj, gd_nI (show x < 40 by omega) (by decide), cj, nI_clamp (show x < 2 ^ 31 by omega), rj.2, rx.2, ah _ _ rj.1 rx.1]
          simp only [bd1]
          by_cases z : P (hr j) < P (hr x)
          · rw [if_pos z, if_neg (by decide)]
            exact ih (some j) (bestOf_new hb he (fun y e => by cases e; omega))
          · rw [if_neg z, if_pos rfl]
            exact ih (some x) (bestOf_keep hb (by omega))
      simp only [nl, nI_1]
      cases hls : lst with
      | none =>
        rw [hls] at tail ih
        have e0 : lI (none : Option Nat) = -1 := rfl
        rw [e0, if_pos rfl]
        rw [e0] at tail
        exact tail (fun l e => by cases e)
      | some l =>
        have hlc := hl l hls
        rw [hls] at tail ih hb
        have e0 : lI (some l) = nI l := rfl
        rw [e0] at tail ih ⊢
        rw [if_neg (nI_ne_m1 (by omega)), gj, cj, rj.2, ah _ _ rj.1 hlc]
        rw [cj, rj.2] at tail
        simp only [bd1]
        by_cases z : P (hr j) < P l
        · rw [if_pos z, if_neg (by decide)]
          exact ih b (bestOf_skip hb (fun he => he l rfl z))
        · rw [if_neg z, if_pos rfl]
          exact tail (fun l2 e => by cases e; exact z)
end
section
/-! SELECT: a ROW's RUN and place as one number; which ROW is next. My own text. -/
def tg (P : Nat → Nat) (lst : Option Nat) (rn r : Nat) : Nat := match lst with
  | none => rn
  | some l => if P l < P r then rn - 1 else rn
def vl (P : Nat → Nat) (lst : Option Nat) (rn r : Nat) : Nat := tg P lst rn r * 320001600 + P r
theorem tg_or (P : Nat → Nat) (lst : Option Nat) (rn r : Nat) : tg P lst rn r = rn ∨ (∃ l, lst = some l ∧ P l < P r ∧ tg P lst rn r = rn - 1) := by
  cases lst with
  | none => exact Or.inl rfl
  | some l =>
    by_cases h : P l < P r
    · exact Or.inr ⟨l, rfl, h, by simp [tg, h]⟩
    · exact Or.inl (by simp [tg, h])
theorem tg_some {P : Nat → Nat} {l rn r : Nat} : tg P (some l) rn r = if P l < P r then rn - 1 else rn := rfl
/-- what the least number says: b is the ROW of the heap that goes next; it begins a RUN where bn is true -/
def nextB (P : Nat → Nat) (lst : Option Nat) (hr : Nat → Nat) (h b : Nat) (bn : Bool) : Prop := b < h ∧
  (bn = false → ∃ l, lst = some l ∧ P l < P (hr b) ∧ ∀ k, k < h → P l < P (hr k) → P (hr b) ≤ P (hr k)) ∧
  (bn = true → (∀ l, lst = some l → ∀ k, k < h → ¬ P l < P (hr k)) ∧ ∀ k, k < h → P (hr b) ≤ P (hr k))
theorem next_of_least {c h rn b : Nat} {P hr : Nat → Nat} {lst : Option Nat} (hP : ∀ r, r < c → P r < 320001600) (hhr : ∀ k, k < h → hr k < c) (hrn : ∀ l, lst = some l → 0 < rn) (hb : b < h) (hmin : ∀ k, k < h → vl P lst rn (hr b) ≤ vl P lst rn (hr k)) :
    ∃ bn : Bool, nextB P lst hr h b bn ∧ (bn = false → tg P lst rn (hr b) + 1 = rn) ∧ (bn = true → tg P lst rn (hr b) = rn) := by
  have pb := hP _ (hhr b hb)
  rcases tg_or P lst rn (hr b) with e | ⟨l, e1, e2, e3⟩
  · refine ⟨true, ⟨hb, fun q => absurd q (by decide), fun _ => ⟨fun l el k hk hlt => ?_, fun k hk => ?_⟩⟩, fun q => absurd q (by decide), fun _ => e⟩
    · have h1 := hmin k hk
      have pk := hP _ (hhr k hk)
      have h2 : tg P lst rn (hr k) = rn - 1 := by rw [el, tg_some, if_pos hlt]
      have h3 := hrn l el
      unfold vl at h1
      rw [e, h2] at h1
      omega
    · have h1 := hmin k hk
      have pk := hP _ (hhr k hk)
      unfold vl at h1
      rw [e] at h1
      rcases tg_or P lst rn (hr k) with f | ⟨l, f1, f2, f3⟩
      · rw [f] at h1
        omega
      · have := hrn l f1
        rw [f3] at h1
        omega
  · have h3 := hrn l e1
    refine ⟨false, ⟨hb, fun _ => ⟨l, e1, e2, fun k hk hlt => ?_⟩, fun q => absurd q (by decide)⟩, fun _ => by omega, fun q => absurd q (by decide)⟩
    have h1 := hmin k hk
    have h2 : tg P lst rn (hr k) = rn - 1 := by rw [e1, tg_some, if_pos hlt]
    unfold vl at h1
    rw [e3, h2] at h1
    omega
/-- the others keep their RUN -/
theorem tags_stay {h rn b : Nat} {P hr : Nat → Nat} {lst : Option Nat} {bn : Bool} (hn : nextB P lst hr h b bn) (inj : ∀ k, k < h → P (hr k) = P (hr b) → k = b) {k : Nat} (hk : k < h) (hne : k ≠ b) : tg P (some (hr b)) (if bn then rn + 1 else rn) (hr k) = tg P lst rn (hr k) := by
  have hne2 : P (hr k) ≠ P (hr b) := fun q => hne (inj k hk q)
  cases bn with
  | false =>
    obtain ⟨l, e1, e2, e3⟩ := hn.2.1 rfl
    rw [tg_some, e1, tg_some]
    simp only [Bool.false_eq_true, if_false]
    by_cases z : P l < P (hr k)
    · have := e3 k hk z
      rw [if_pos z, if_pos (by omega)]
    · rw [if_neg z, if_neg (by omega)]
  | true =>
    obtain ⟨e1, e2⟩ := hn.2.2 rfl
    have := e2 k hk
    rw [tg_some]
    simp only [if_true]
    rw [if_pos (by omega)]
    cases hl : lst with
    | none => rfl
    | some l => rw [tg_some, if_neg (e1 l hl k hk)]; rfl
/-- the reference's scan finds the same one -/
theorem scan_next {h b : Nat} {P hr : Nat → Nat} {lst : Option Nat} {bn : Bool} {o : Option Nat} (hn : nextB P lst hr h b bn) (inj : ∀ k, k < h → P (hr k) = P (hr b) → k = b) (hl : ∀ l k, lst = some l → k < h → P (hr k) ≠ P l) (ho : bestOf P lst hr h o) : (bn = false ∨ lst = none → o = some b) ∧ (bn = true → lst ≠ none → o = none) := by
  constructor
  · intro q
    have heb : elig P lst (hr b) := by
      rcases q with q | q
      · obtain ⟨l, e1, e2, -⟩ := hn.2.1 q
        intro l2 e
        rw [e1] at e
        cases e
        omega
      · intro l e
        rw [q] at e
        cases e
    cases hoe : o with
    | none => exact absurd heb (ho.1 hoe b hn.1)
    | some x =>
      obtain ⟨x1, x2, x3⟩ := ho.2 x hoe
      have h1 := x3 b hn.1 heb
      have h2 : P (hr b) ≤ P (hr x) := by
        cases bn with
        | false =>
          obtain ⟨l, e1, e2, e3⟩ := hn.2.1 rfl
          have := x2 l e1
          have := hl l x e1 x1
          exact e3 x x1 (by omega)
        | true => exact (hn.2.2 rfl).2 x x1
      rw [inj x x1 (by omega)]
  · intro q hne
    cases hoe : o with
    | none => rfl
    | some x =>
      obtain ⟨x1, x2, -⟩ := ho.2 x hoe
      cases hls : lst with
      | none => exact absurd hls hne
      | some l =>
        have h1 := (hn.2.2 q).1 l hls x x1
        have h2 := x2 l hls
        have h3 := hl l x hls x1
        omega
end
section
/-! RUNS: what both programs hold in a step of theirs, and the step. My own text. -/
def gh (c nx h : Nat) : Nat := if nx < c then h else h - 1
def gn (c nx : Nat) : Nat := if nx < c then nx + 1 else nx
def gr (c nx h : Nat) (hr : Nat → Nat) (b : Nat) : Nat → Nat := if nx < c then ups hr b nx else ups hr b (hr (h - 1))
def gm (bn : Bool) (rn : Nat) : Nat := if bn then rn + 1 else rn
def gb (bn : Bool) (rn i : Nat) (bg : Nat → Nat) : Nat → Nat := if bn then ups bg rn i else bg
def RJ (c rm h nx i rn : Nat) (lst : Option Nat) (hr bg ord : Nat → Nat) : Prop :=
  i + h = nx ∧ nx ≤ c ∧ h ≤ rm ∧ (nx < c → h = rm) ∧ rn ≤ i ∧ (∀ k, k < h → hr k < nx) ∧ (∀ a b, a < h → b < h → hr a = hr b → a = b) ∧ (∀ j, j < i → ord j < nx) ∧ (∀ a b, a < i → b < i → ord a = ord b → a = b) ∧ (∀ j k, j < i → k < h → ord j ≠ hr k) ∧
  (∀ l, lst = some l → 0 < i ∧ l = ord (i - 1)) ∧ (0 < i → 0 < rn) ∧ (0 < rn → bg 0 = 0) ∧ (∀ r, r + 1 < rn → bg r < bg (r + 1)) ∧ (0 < rn → bg (rn - 1) < i)
theorem RJ.step {c rm h nx i rn b : Nat} {lst : Option Nat} {hr bg ord P : Nat → Nat} {bn : Bool} (J : RJ c rm h nx i rn lst hr bg ord) (hrm : 0 < rm) (hi : i < c) (hn : nextB P lst hr h b bn) : RJ c rm (gh c nx h) (gn c nx) (i + 1) (gm bn rn) (some (hr b)) (gr c nx h hr b) (gb bn rn i bg) (ups ord i (hr b)) := by
  obtain ⟨j1, j2, j3, j4, j5, j6, j7, j8, j9, j10, j11, j12, j13, j14, j15⟩ := J
  have hb := hn.1
  have hbx := j6 b hb
  have o9 : ∀ a b', a < i + 1 → b' < i + 1 → ups ord i (hr b) a = ups ord i (hr b) b' → a = b' := by
    intro a b' ha hb' e
    by_cases q : a = i <;> by_cases q2 : b' = i
    · omega
    · rw [q, ups_s, ups_n ord q2] at e
      exact absurd e.symm (j10 b' b (by omega) hb)
    · rw [q2, ups_s, ups_n ord q] at e
      exact absurd e (j10 a b (by omega) hb)
    · rw [ups_n ord q, ups_n ord q2] at e
      exact j9 a b' (by omega) (by omega) e
  have o11 : ∀ l, some (hr b) = some l → 0 < i + 1 ∧ l = ups ord i (hr b) (i + 1 - 1) := by
    intro l e
    cases e
    exact ⟨by omega, by rw [Nat.add_sub_cancel, ups_s]⟩
  have o12 : 0 < i + 1 → 0 < gm bn rn := by
    intro _
    unfold gm
    cases bn with
    | true => simp
    | false =>
      obtain ⟨l, e1, -⟩ := hn.2.1 rfl
      have := j12 (j11 l e1).1
      simpa using this
  have o5 : gm bn rn ≤ i + 1 := by unfold gm; split <;> omega
  have o13 : 0 < gm bn rn → gb bn rn i bg 0 = 0 := by
    intro _
    unfold gb
    cases bn with
    | true =>
      simp only [if_true]
      by_cases q : rn = 0
      · have : i = 0 := by
          rcases Nat.eq_zero_or_pos i with z | z
          · exact z
          · have := j12 z; omega
        rw [q, this, ups_s]
      · rw [ups_n bg (by omega)]
        exact j13 (by omega)
    | false =>
      simp only [Bool.false_eq_true, if_false]
      obtain ⟨l, e1, -⟩ := hn.2.1 rfl
      exact j13 (j12 (j11 l e1).1)
  have o14 : ∀ r, r + 1 < gm bn rn → gb bn rn i bg r < gb bn rn i bg (r + 1) := by
    intro r hr1
    unfold gm at hr1
    unfold gb
    cases bn with
    | true =>
      simp only [if_true] at hr1 ⊢
      rw [ups_n bg (show r ≠ rn by omega)]
      by_cases q : r + 1 = rn
      · rw [q, ups_s]
        have := j15 (by omega)
        rw [← q, Nat.add_sub_cancel] at this
        exact this
      · rw [ups_n bg q]
        exact j14 r (by omega)
    | false =>
      simp only [Bool.false_eq_true, if_false] at hr1 ⊢
      exact j14 r hr1
  have o15 : 0 < gm bn rn → gb bn rn i bg (gm bn rn - 1) < i + 1 := by
    intro q
    unfold gb gm
    unfold gm at q
    cases bn with
    | true =>
      simp only [if_true, Nat.add_sub_cancel]
      rw [ups_s]
      omega
    | false =>
      simp only [Bool.false_eq_true, if_false] at q ⊢
      have := j15 q
      omega
  by_cases hnx : nx < c
  · unfold gh gn gr
    simp only [hnx, if_true]
    refine ⟨by omega, by omega, j3, fun _ => j4 hnx, o5, fun k hk => ?_, fun a b' ha hb' e => ?_, fun j hj => ?_, o9, fun j k hj hk => ?_, o11, o12, o13, o14, o15⟩
    · by_cases q : k = b
      · rw [q, ups_s]; omega
      · rw [ups_n hr q]; have := j6 k hk; omega
    · by_cases q : a = b <;> by_cases q2 : b' = b
      · omega
      · rw [q, ups_s, ups_n hr q2] at e
        have := j6 b' hb'; omega
      · rw [q2, ups_s, ups_n hr q] at e
        have := j6 a ha; omega
      · rw [ups_n hr q, ups_n hr q2] at e
        exact j7 a b' ha hb' e
    · by_cases q : j = i
      · rw [q, ups_s]; omega
      · rw [ups_n ord q]; have := j8 j (by omega); omega
    · have hoj : ups ord i (hr b) j < nx := by
        by_cases q : j = i
        · rw [q, ups_s]; exact hbx
        · rw [ups_n ord q]; exact j8 j (by omega)
      by_cases q2 : k = b
      · rw [q2, ups_s]; omega
      · rw [ups_n hr q2]
        by_cases q : j = i
        · rw [q, ups_s]
          exact fun e => q2 (j7 k b hk hb e.symm)
        · rw [ups_n ord q]
          exact j10 j k (by omega) hk
  · unfold gh gn gr
    simp only [hnx, if_false]
    -- the last of the heap comes to b's place
    have key : ∀ k, k < h - 1 → ∃ k', k' < h ∧ k' ≠ b ∧ ups hr b (hr (h - 1)) k = hr k' ∧ (k' = k ∨ (k = b ∧ k' = h - 1)) := by
      intro k hk
      by_cases q : k = b
      · exact ⟨h - 1, by omega, by omega, by rw [q, ups_s], Or.inr ⟨q, rfl⟩⟩
      · exact ⟨k, by omega, q, by rw [ups_n hr q], Or.inl rfl⟩
    refine ⟨by omega, j2, by omega, fun z => absurd z hnx, o5, fun k hk => ?_, fun a b' ha hb' e => ?_, fun j hj => ?_, o9, fun j k hj hk => ?_, o11, o12, o13, o14, o15⟩
    · obtain ⟨k', a1, a2, a3, -⟩ := key k hk
      rw [a3]
      exact j6 k' a1
    · obtain ⟨x, a1, a2, a3, a4⟩ := key a ha
      obtain ⟨y, b1, b2, b3, b4⟩ := key b' hb'
      rw [a3, b3] at e
      have := j7 x y a1 b1 e
      omega
    · by_cases q : j = i
      · rw [q, ups_s]; exact hbx
      · rw [ups_n ord q]; exact j8 j (by omega)
    · obtain ⟨k', a1, a2, a3, -⟩ := key k hk
      rw [a3]
      by_cases q : j = i
      · rw [q, ups_s]
        exact fun e => a2 (j7 k' b a1 hb e.symm)
      · rw [ups_n ord q]
        exact j10 j k' (by omega) a1
end
section
/-! SELECT: a step of the class. My own text. -/
theorem p_begin (N : Nat) (st : Nat → Int32) {rn i : Nat} (h : rn < 799) : f_X5_begin N st (nI rn) (nI i) = some (upd (upd st rn (nI i)) (rn + 1) (nI i), nI (rn + 1)) := by
  unfold f_X5_begin
  have q : ¬ (799 : Int32) ≤ nI rn := nI_ge (b := 799) h (by decide)
  rw [if_neg q, gd_nI (show rn < 800 by omega) (by decide)]
  simp only [nl, nI_1, gd_nI (show rn + 1 < 800 by omega) (by decide), nI_clamp (show rn < 2 ^ 31 by omega), nI_clamp (show rn + 1 < 2 ^ 31 by omega)]
theorem p_append (N : Nat) (mb st : Nat → Int32) {rn i : Nat} (v : Int32) (h : rn < 800) (hi : i < 4000) : f_X5_append N mb st (nI rn) (nI i) v = some (upd mb i v, upd st rn (nI (i + 1)), nI (i + 1)) := by
  unfold f_X5_append
  have q : ¬ (4000 : Int32) ≤ nI i := nI_ge (b := 4000) hi (by decide)
  rw [if_neg q, gd_nI hi (by decide)]
  simp only [nl, nI_1, gd_nI h (by decide), nI_clamp (show rn < 2 ^ 31 by omega), nI_clamp (show i < 2 ^ 31 by omega)]
def RC (P : Nat → Nat) (h i rn : Nat) (lst : Option Nat) (hr bg ord : Nat → Nat) (items : Nat → Int64) (mb st : Nat → Int32) : Prop := HP items (nI h) h (fun v => ∃ k, k < h ∧ v = vl P lst rn (hr k)) ∧ (∀ j, j < i → mb j = nI (ord j)) ∧ (∀ r, r < rn → st r = nI (bg r)) ∧ (0 < rn → st rn = nI i)
theorem c_step {N c rm h nx i rn : Nat} {P hr bg ord : Nat → Nat} {lst : Option Nat} {S V T F mb st : Nat → Int32} {items : Nat → Int64} (hN : 1000 ≤ N) (hc : c ≤ 400) (po : ∀ a, a < c → f_X4_placeOf N S V T F (nI c) (nI a) = some (nI (P a))) (hP : ∀ r, r < c → P r < 320001600 ∧ P r % 400 = r) (hrm : 0 < rm) (hrm2 : rm ≤ 40) (J : RJ c rm h nx i rn lst hr bg ord) (C : RC P h i rn lst hr bg ord items mb st) (hi : i < c) :
    ∃ (b : Nat) (bn : Bool) (items' : Nat → Int64) (st' : Nat → Int32), nextB P lst hr h b bn ∧ (∀ f, l_X5_select_44 N S V T F (nI c) (nI c) (f + 1) (nI nx) (nI i) items (nI h) mb st (nI rn) (nI i) = l_X5_select_44 N S V T F (nI c) (nI c) f (nI (gn c nx)) (nI (i + 1)) items' (nI (gh c nx h)) (upd mb i (nI (hr b))) st' (nI (gm bn rn)) (nI (i + 1))) ∧
      RC P (gh c nx h) (i + 1) (gm bn rn) (some (hr b)) (gr c nx h hr b) (gb bn rn i bg) (ups ord i (hr b)) items' (upd mb i (nI (hr b))) st' := by
  obtain ⟨j1, j2, j3, j4, j5, j6, j7, j8, j9, j10, j11, j12, j13, j14, j15⟩ := J
  obtain ⟨c1, c2, c3, c4⟩ := C
  have hh : 0 < h := by
    rcases Nat.lt_or_ge nx c with q | q
    · have := j4 q; omega
    · omega
  obtain ⟨h0, rfl⟩ : ∃ h0, h = h0 + 1 := ⟨h - 1, by omega⟩
  obtain ⟨m, items1, t1, t2, t3, t4, t5⟩ := p_takeLeast hN c1
  obtain ⟨b, hb, em⟩ := t2
  have hrc : ∀ k, k < h0 + 1 → hr k < c := fun k hk => by have := j6 k hk; omega
  have hPl : ∀ r, r < c → P r < 320001600 := fun r q => (hP r q).1
  obtain ⟨bn, hn, hn1, hn2⟩ := next_of_least hPl hrc (fun l e => j12 (j11 l e).1) hb (fun k hk => by rw [← em]; exact t3 _ ⟨k, hk, rfl⟩)
  have hbc := hrc b hb
  have pb := hP _ hbc
  have injP : ∀ x y, x < c → y < c → P x = P y → x = y := fun x y hx hy e => by
    have h1 := (hP x hx).2
    have h2 := (hP y hy).2
    omega
  have inj : ∀ k, k < h0 + 1 → P (hr k) = P (hr b) → k = b := fun k hk e => j7 k b hk hb (injP _ _ (hrc k hk) hbc e)
  generalize ht : tg P lst rn (hr b) = t at hn1 hn2
  have em2 : m = t * 320001600 + P (hr b) := by rw [em]; unfold vl; rw [ht]
  have hgt : t + 1 = gm bn rn := by
    unfold gm
    cases bn with
    | true => simp only [if_true]; rw [hn2 rfl]
    | false => simp only [Bool.false_eq_true, if_false]; exact hn1 rfl
  have hrn : rn ≤ 400 := by omega
  have htn : t ≤ 400 := by
    cases bn with
    | true => rw [hn2 rfl]; exact hrn
    | false => have := hn1 rfl; omega
  have ed : lN m / 320001600 = lN t := by
    have h1 : lN m / lN 320001600 = lN (m / 320001600) := pk_lDiv (by omega) (by decide) (by decide)
    have h2 : m / 320001600 = t := by omega
    rw [h2] at h1
    exact h1
  have er : lN m - lN t * 320001600 = lN (P (hr b)) := by
    have h1 : lN m - lN m / lN 320001600 * lN 320001600 = lN (m % 320001600) := pk_lRem (by omega) (by decide) (by decide)
    have h2 : m % 320001600 = P (hr b) := by omega
    rw [h2] at h1
    rw [← ed]
    exact h1
  have emr : m % 400 = hr b := by omega
  -- the RUN's beginning
  obtain ⟨st1, hst, hs1, hs2⟩ : ∃ st1 : Nat → Int32, (if lN t < (nI rn).toInt64 then some (st, nI rn) else bd2 (f_X5_begin N st (nI rn) (nI i)) fun c42 c43 => some (c42, c43)) = some (st1, nI (gm bn rn)) ∧ (∀ r, r < rn → st1 r = nI (bg r)) ∧ (bn = true → st1 rn = nI i) := by
    rw [nI_l (show rn < 2 ^ 31 by omega)]
    cases bn with
    | true =>
      have e1 := hn2 rfl
      rw [if_neg (fun q => by have := (lN_ltw (by omega) (by omega)).mp q; omega), p_begin N st (by omega)]
      refine ⟨upd (upd st rn (nI i)) (rn + 1) (nI i), rfl, fun r hr1 => ?_, fun _ => ?_⟩
      · rw [pk_un (by omega), pk_un (by omega)]
        exact c3 r hr1
      · rw [pk_un (by omega), pk_us]
    | false =>
      have e1 := hn1 rfl
      rw [if_pos ((lN_ltw (by omega) (by omega)).mpr (by omega))]
      exact ⟨st, rfl, c3, fun q => absurd q (by decide)⟩
  have hgm : gm bn rn < 800 := by omega
  have stOK : (∀ r, r < gm bn rn → (upd st1 (gm bn rn) (nI (i + 1))) r = nI (gb bn rn i bg r)) ∧ (0 < gm bn rn → (upd st1 (gm bn rn) (nI (i + 1))) (gm bn rn) = nI (i + 1)) := by
    refine ⟨fun r hr1 => ?_, fun _ => pk_us⟩
    rw [pk_un (by omega)]
    unfold gb
    unfold gm at hr1
    cases bn with
    | true =>
      simp only [if_true] at hr1 ⊢
      by_cases q : r = rn
      · rw [q, ups_s]; exact hs2 rfl
      · rw [ups_n bg q]; exact hs1 r (by omega)
    | false =>
      simp only [Bool.false_eq_true, if_false] at hr1 ⊢
      exact hs1 r hr1
  have mbOK : ∀ j, j < i + 1 → (upd mb i (nI (hr b))) j = nI (ups ord i (hr b) j) := by
    intro j hj
    by_cases q : j = i
    · rw [q, pk_us, ups_s]
    · rw [pk_un q, ups_n ord q]
      exact c2 j (by omega)
  have stay : ∀ k, k < h0 + 1 → k ≠ b → vl P (some (hr b)) (gm bn rn) (hr k) = vl P lst rn (hr k) := by
    intro k hk hne
    unfold vl
    rw [show tg P (some (hr b)) (gm bn rn) (hr k) = tg P lst rn (hr k) from tags_stay hn inj hk hne]
  have vinj : ∀ x y, x < c → y < c → vl P lst rn x = vl P lst rn y → x = y := by
    intro x y hx hy e
    unfold vl at e
    have h1 := hP x hx
    have h2 := hP y hy
    omega
  by_cases hnx : nx < c
  · -- a ROW takes its place
    have pn := hP nx hnx
    have hne : P (hr b) ≠ P nx := fun e => by have := injP _ _ hbc hnx e; have := j6 b hb; omega
    have hy : (if lN (P (hr b)) ≤ (nI (P nx)).toInt64 then some (lN t) else some (lN t + 1)) = some (lN (tg P (some (hr b)) (gm bn rn) nx)) := by
      rw [nI_l (show P nx < 2 ^ 31 by omega), tg_some]
      by_cases q : P (hr b) < P nx
      · rw [if_pos ((lN_lew (by omega) (by omega)).mpr (by omega)), if_pos q, ← hgt, Nat.add_sub_cancel]
      · rw [if_neg (fun z => by have := (lN_lew (by omega) (by omega)).mp z; omega), if_neg q, ← hgt, lN_1]
    have hv : (nI (P nx)).toInt64 + 320001600 * lN (tg P (some (hr b)) (gm bn rn) nx) = lN (vl P (some (hr b)) (gm bn rn) nx) := by
      rw [nI_l (show P nx < 2 ^ 31 by omega)]
      have h1 : lN 320001600 * lN (tg P (some (hr b)) (gm bn rn) nx) = lN (320001600 * tg P (some (hr b)) (gm bn rn) nx) := lN_mul _ _
      have h2 : (320001600 : Int64) = lN 320001600 := rfl
      rw [h2, h1, lN_add]
      congr 1
      unfold vl
      omega
    have htg : tg P (some (hr b)) (gm bn rn) nx ≤ 401 := by
      rw [tg_some]
      split <;> omega
    obtain ⟨items2, a1, a2⟩ := p_add hN t5 (show h0 < 400 by omega) (x := vl P (some (hr b)) (gm bn rn) nx) (by unfold vl; omega) (by
      rintro ⟨⟨k, hk, e⟩, -⟩
      unfold vl at e
      have h1 := hP _ (hrc k hk)
      have h2 := j6 k hk
      omega)
    refine ⟨b, bn, items2, upd st1 (gm bn rn) (nI (i + 1)), hn, fun f => ?_, ?_⟩
    · rw [l_X5_select_44, if_neg (nI_ge hi (by omega)), t1]
      simp only [bd3, nl]
      rw [ed, hst]
      simp only [bd2]
      rw [p_rowOf N t4, emr]
      simp only [bd1]
      rw [p_append N mb st1 (nI (hr b)) hgm (by omega)]
      simp only [bd3]
      rw [if_neg (nI_ge hnx (by omega)), po nx hnx]
      simp only [bd1]
      rw [er, hy]
      simp only [bd1]
      rw [hv, a1]
      simp only [bd2, nI_1]
      unfold gn gh
      simp only [hnx, if_true]
    · refine ⟨?_, mbOK, stOK.1, stOK.2⟩
      unfold gh gr
      simp only [hnx, if_true]
      refine a2.congr fun v => ?_
      constructor
      · rintro ⟨k, hk, e⟩
        by_cases q : k = b
        · rw [q, ups_s] at e
          exact Or.inr e
        · rw [ups_n hr q, stay k hk q] at e
          exact Or.inl ⟨⟨k, hk, e⟩, fun z => q (j7 k b hk hb (vinj _ _ (hrc k hk) hbc (by rw [← e, z, em])))⟩
      · rintro (⟨⟨k, hk, e⟩, hne2⟩ | e)
        · have q : k ≠ b := fun z => hne2 (by rw [e, z, em])
          exact ⟨k, hk, by rw [ups_n hr q, stay k hk q]; exact e⟩
        · exact ⟨b, hb, by rw [ups_s]; exact e⟩
  · -- the heap grows less
    refine ⟨b, bn, items1, upd st1 (gm bn rn) (nI (i + 1)), hn, fun f => ?_, ?_⟩
    · rw [l_X5_select_44, if_neg (nI_ge hi (by omega)), t1]
      simp only [bd3, nl]
      rw [ed, hst]
      simp only [bd2]
      rw [p_rowOf N t4, emr]
      simp only [bd1]
      rw [p_append N mb st1 (nI (hr b)) hgm (by omega)]
      simp only [bd3]
      rw [if_pos (nI_le (by omega) (by omega))]
      simp only [nI_1]
      unfold gn gh
      simp only [hnx, if_false, Nat.add_sub_cancel]
    · refine ⟨?_, mbOK, stOK.1, stOK.2⟩
      unfold gh gr
      simp only [hnx, if_false, Nat.add_sub_cancel]
      refine t5.congr fun v => ?_
      constructor
      · rintro ⟨k, hk, e⟩
        by_cases q : k = b
        · rw [q, ups_s, stay h0 (by omega) (by omega)] at e
          exact ⟨⟨h0, by omega, e⟩, fun z => by have := j7 h0 b (by omega) hb (vinj _ _ (hrc h0 (by omega)) hbc (by rw [← e, z, em])); omega⟩
        · rw [ups_n hr q, stay k (by omega) q] at e
          exact ⟨⟨k, by omega, e⟩, fun z => q (j7 k b (by omega) hb (vinj _ _ (hrc k (by omega)) hbc (by rw [← e, z, em])))⟩
      · rintro ⟨⟨k, hk, e⟩, hne2⟩
        have q : k ≠ b := fun z => hne2 (by rw [e, z, em])
        by_cases q2 : k = h0
        · exact ⟨b, by omega, by rw [ups_s, ← q2, stay k hk q]; exact e⟩
        · exact ⟨k, by omega, by rw [ups_n hr q, stay k hk q]; exact e⟩
end
section
/-! RUNS: a step of the reference. My own text. -/
theorem nl_e {α β : Type} (e : α) (B : α → β) : nl e B = B e := by
  have h : B e = B e := rfl
  exact h
def RM (h i rn : Nat) (hr bg ord : Nat → Nat) (bgn sz pool hp : Nat → Int32) : Prop := (∀ k, k < h → hp k = nI (hr k)) ∧ (∀ j, j < i → pool j = nI (ord j)) ∧ (∀ r, r < rn → bgn r = nI (bg r)) ∧ (∀ r, r + 1 < rn → sz r = nI (bg (r + 1) - bg r)) ∧ (0 < rn → sz (rn - 1) = nI (i - bg (rn - 1)))
theorem m_out {N c rm h nx i rn b : Nat} {P hr bg ord : Nat → Nat} {lst : Option Nat} {bn : Bool} {S V T F bgn sz pool hp : Nat → Int32} (hN : 1000 ≤ N) (hc : c ≤ 400) (ah : ∀ a b, a < c → b < c → f_X7_ahead N S V T F (nI a) (nI b) = some (if P a < P b then 1 else 0)) (injP : ∀ x y, x < c → y < c → P x = P y → x = y) (hrm2 : rm ≤ 40) (J : RJ c rm h nx i rn lst hr bg ord) (M : RM h i rn hr bg ord bgn sz pool hp) (hi : i < c) (hn : nextB P lst hr h b bn) (hbl : bn = true ↔ lst = none) :
    ∃ (bgn' sz' hp' : Nat → Int32), (∀ f, l_X7_runs_78 N S V (nI c) T F (f + 1) (nI h) (nI nx) (lI lst) (nI rn) bgn sz pool (nI i) hp = l_X7_runs_78 N S V (nI c) T F f (nI (gh c nx h)) (nI (gn c nx)) (nI (hr b)) (nI (gm bn rn)) bgn' sz' (upd pool i (nI (hr b))) (nI (i + 1)) hp') ∧
      RM (gh c nx h) (i + 1) (gm bn rn) (gr c nx h hr b) (gb bn rn i bg) (ups ord i (hr b)) bgn' sz' (upd pool i (nI (hr b))) hp' := by
  obtain ⟨j1, j2, j3, j4, j5, j6, j7, j8, j9, j10, j11, j12, j13, j14, j15⟩ := J
  obtain ⟨m1, m2, m3, m4, m5⟩ := M
  have hb := hn.1
  have hrc : ∀ k, k < h → hr k < c := fun k hk => by have := j6 k hk; omega
  have hbc := hrc b hb
  have hlc : ∀ l, lst = some l → l < c := fun l e => by
    have h1 := j11 l e
    have h2 := j8 (i - 1) (by omega)
    omega
  have inj : ∀ k, k < h → P (hr k) = P (hr b) → k = b := fun k hk e => j7 k b hk hb (injP _ _ (hrc k hk) hbc e)
  obtain ⟨o, s1, s2⟩ := p_scan (N := N) (c := c) (h := h) (P := P) (hr := hr) (lst := lst) (hp := hp) (by omega) hc ah hlc (fun k hk => ⟨hrc k hk, m1 k hk⟩) N 0 none (by omega) (by omega) ⟨fun _ k hk => absurd hk (by omega), fun x e => absurd e (by simp)⟩
  have so : o = some b := (scan_next hn inj (fun l k e hk q => by
    have h1 := injP _ _ (hrc k hk) (hlc l e) q
    have h2 := j11 l e
    exact j10 (i - 1) k (by omega) hk (by rw [← h2.2, h1])) s2).1 (by
      cases hbn : bn with
      | false => exact Or.inl rfl
      | true => exact Or.inr (hbl.mp hbn))
  rw [so] at s1
  have s1' : l_X7_runs_88 N S V T F hp (nI h) (lI lst) N (-1) 0 = some (nI b) := s1
  have hrn0 : 0 < gm bn rn := by
    unfold gm
    cases hbn : bn with
    | true => simp
    | false =>
      obtain ⟨l, e, -⟩ := hn.2.1 hbn
      have := j12 (j11 l e).1
      simpa using this
  have hgm : gm bn rn ≤ 401 := by unfold gm; split <;> omega
  obtain ⟨bgn1, sz1, hbs, b1, b2, b3⟩ : ∃ bgn1 sz1 : Nat → Int32, (if lI lst = (-1 : Int32) then gd (ix (nI rn) 800) <| gd (ix (nI rn) 800) <| nl (nI rn + 1) fun x63 => some (x63, upd bgn (nI rn).toNatClampNeg (nI i), upd sz (nI rn).toNatClampNeg 0) else some (nI rn, bgn, sz)) = some (nI (gm bn rn), bgn1, sz1) ∧ (∀ r, r < gm bn rn → bgn1 r = nI (gb bn rn i bg r)) ∧ (∀ r, r + 1 < gm bn rn → sz1 r = nI (gb bn rn i bg (r + 1) - gb bn rn i bg r)) ∧ sz1 (gm bn rn - 1) = nI (i - gb bn rn i bg (gm bn rn - 1)) := by
    cases hbn : bn with
    | true =>
      have e := hbl.mp hbn
      rw [e, if_pos (show lI none = -1 from rfl), gd_nI (show rn < 800 by omega) (by decide), gd_nI (show rn < 800 by omega) (by decide), nI_clamp (by omega)]
      refine ⟨upd bgn rn (nI i), upd sz rn 0, by simp only [nl, nI_1]; rfl, fun r hr1 => ?_, fun r hr1 => ?_, ?_⟩
      · unfold gm at hr1
        unfold gb
        simp only [if_true] at hr1 ⊢
        by_cases q : r = rn
        · rw [q, pk_us, ups_s]
        · rw [pk_un q, ups_n bg q]; exact m3 r (by omega)
      · unfold gm at hr1
        unfold gb
        simp only [if_true] at hr1 ⊢
        rw [pk_un (show r ≠ rn by omega), ups_n bg (show r ≠ rn by omega)]
        by_cases q : r + 1 = rn
        · rw [q, ups_s]
          have := m5 (by omega)
          rw [← q, Nat.add_sub_cancel] at this
          exact this
        · rw [ups_n bg q]
          exact m4 r (by omega)
      · unfold gm gb
        simp only [if_true, Nat.add_sub_cancel]
        rw [pk_us, ups_s, Nat.sub_self]
        rfl
    | false =>
      obtain ⟨l, e, -⟩ := hn.2.1 hbn
      have hl := hlc l e
      have hrp := j12 (j11 l e).1
      rw [e, if_neg (show ¬ lI (some l) = -1 from nI_ne_m1 (by omega))]
      unfold gm gb
      simp only [Bool.false_eq_true, if_false]
      exact ⟨bgn, sz, rfl, m3, m4, m5 hrp⟩
  have hh : 0 < h := by omega
  have hbg : gb bn rn i bg (gm bn rn - 1) ≤ i := by
    unfold gb gm
    cases hbn : bn with
    | true => simp only [if_true, Nat.add_sub_cancel]; rw [ups_s]; exact Nat.le_refl _
    | false =>
      simp only [Bool.false_eq_true, if_false]
      obtain ⟨l, e, -⟩ := hn.2.1 hbn
      have := j15 (j12 (j11 l e).1)
      omega
  have e42 : nI (gm bn rn) - 1 = nI (gm bn rn - 1) := nI_s1 hrn0
  have e51 : sz1 (gm bn rn - 1) + 1 = nI (i + 1 - gb bn rn i bg (gm bn rn - 1)) := by
    have e0 : i - gb bn rn i bg (gm bn rn - 1) + 1 = i + 1 - gb bn rn i bg (gm bn rn - 1) := by omega
    rw [b3, nI_1, e0]
  have szOK : (∀ r, r + 1 < gm bn rn → upd sz1 (gm bn rn - 1) (nI (i + 1 - gb bn rn i bg (gm bn rn - 1))) r = nI (gb bn rn i bg (r + 1) - gb bn rn i bg r)) := by
    intro r hr1
    rw [pk_un (by omega)]
    exact b2 r hr1
  have poolOK : ∀ j, j < i + 1 → (upd pool i (nI (hr b))) j = nI (ups ord i (hr b) j) := by
    intro j hj
    by_cases q : j = i
    · rw [q, pk_us, ups_s]
    · rw [pk_un q, ups_n ord q]
      exact m2 j (by omega)
  have head : ∀ f, l_X7_runs_78 N S V (nI c) T F (f + 1) (nI h) (nI nx) (lI lst) (nI rn) bgn sz pool (nI i) hp = (if nI c ≤ nI nx then nl (nI h + (-1)) fun x54 => gd (ix x54 40) <| nl (hp x54.toNatClampNeg) fun x56 => gd (ix (nI b) 40) <| l_X7_runs_78 N S V (nI c) T F f x54 (nI nx) (nI (hr b)) (nI (gm bn rn)) bgn1 (upd sz1 (gm bn rn - 1) (nI (i + 1 - gb bn rn i bg (gm bn rn - 1)))) (upd pool i (nI (hr b))) (nI (i + 1)) (upd hp b x56) else gd (ix (nI b) 40) <| nl (nI nx + 1) fun x59 => l_X7_runs_78 N S V (nI c) T F f (nI h) x59 (nI (hr b)) (nI (gm bn rn)) bgn1 (upd sz1 (gm bn rn - 1) (nI (i + 1 - gb bn rn i bg (gm bn rn - 1)))) (upd pool i (nI (hr b))) (nI (i + 1)) (upd hp b (nI nx))) := by
    intro f
    rw [l_X7_runs_78, if_neg (nI_nle hh (by omega)), bd1_eq s1', if_neg (nI_ne_m1 (show b < 2 ^ 31 by omega)), bd3_eq hbs]
    rw [gd_nI (show b < 40 by omega) (by decide), nl_e, gd_nI (show i < 40000 by omega) (by decide), nl_e, e42, gd_nI (show gm bn rn - 1 < 800 by omega) (by decide), nl_e, gd_nI (show gm bn rn - 1 < 800 by omega) (by decide)]
    rw [nI_clamp (show b < 2 ^ 31 by omega), nI_clamp (show i < 2 ^ 31 by omega), nI_clamp (show gm bn rn - 1 < 2 ^ 31 by omega), e51, m1 b hb, nI_1]
  by_cases hnx : nx < c
  · refine ⟨bgn1, upd sz1 (gm bn rn - 1) (nI (i + 1 - gb bn rn i bg (gm bn rn - 1))), upd hp b (nI nx), fun f => ?_, ?_, poolOK, b1, szOK, fun _ => pk_us⟩
    · rw [head f, if_neg (nI_ge hnx (by omega)), gd_nI (show b < 40 by omega) (by decide), nl_e, nI_1]
      rw [show gh c nx h = h from if_pos hnx, show gn c nx = nx + 1 from if_pos hnx]
    · unfold gh gr
      simp only [hnx, if_true]
      intro k hk
      by_cases q : k = b
      · rw [q, pk_us, ups_s]
      · rw [pk_un q, ups_n hr q]
        exact m1 k hk
  · refine ⟨bgn1, upd sz1 (gm bn rn - 1) (nI (i + 1 - gb bn rn i bg (gm bn rn - 1))), upd hp b (hp (h - 1)), fun f => ?_, ?_, poolOK, b1, szOK, fun _ => pk_us⟩
    · have e54 : nI h + (-1) = nI (h - 1) := by
        obtain ⟨h0, rfl⟩ : ∃ h0, h = h0 + 1 := ⟨h - 1, by omega⟩
        rw [pk_m1, Nat.add_sub_cancel]
      rw [head f, if_pos (nI_le (by omega) (by omega))]
      rw [nl_e, e54, gd_nI (show h - 1 < 40 by omega) (by decide), nl_e, gd_nI (show b < 40 by omega) (by decide), nI_clamp (show h - 1 < 2 ^ 31 by omega)]
      rw [show gh c nx h = h - 1 from if_neg hnx, show gn c nx = nx from if_neg hnx]
    · unfold gh gr
      simp only [hnx, if_false]
      intro k hk
      by_cases q : k = b
      · rw [q, pk_us, ups_s]
        exact m1 (h - 1) (by omega)
      · rw [pk_un q, ups_n hr q]
        exact m1 k (by omega)
end
section
/-! RUNS: both programs to their ends. My own text. -/
theorem m_skip {N c rm h nx i rn b : Nat} {P hr bg ord : Nat → Nat} {lst : Option Nat} {S V T F bgn sz pool hp : Nat → Int32} (hN : 1000 ≤ N) (hc : c ≤ 400) (ah : ∀ a b, a < c → b < c → f_X7_ahead N S V T F (nI a) (nI b) = some (if P a < P b then 1 else 0)) (injP : ∀ x y, x < c → y < c → P x = P y → x = y) (hrm2 : rm ≤ 40) (J : RJ c rm h nx i rn lst hr bg ord) (M : RM h i rn hr bg ord bgn sz pool hp) (hn : nextB P lst hr h b true) (hl : lst ≠ none) (f : Nat) :
    l_X7_runs_78 N S V (nI c) T F (f + 1) (nI h) (nI nx) (lI lst) (nI rn) bgn sz pool (nI i) hp = l_X7_runs_78 N S V (nI c) T F f (nI h) (nI nx) (-1) (nI rn) bgn sz pool (nI i) hp := by
  obtain ⟨j1, j2, j3, j4, j5, j6, j7, j8, j9, j10, j11, j12, j13, j14, j15⟩ := J
  obtain ⟨m1, -⟩ := M
  have hb := hn.1
  have hrc : ∀ k, k < h → hr k < c := fun k hk => by have := j6 k hk; omega
  have hbc := hrc b hb
  have hlc : ∀ l, lst = some l → l < c := fun l e => by
    have h1 := j11 l e
    have h2 := j8 (i - 1) (by omega)
    omega
  have inj : ∀ k, k < h → P (hr k) = P (hr b) → k = b := fun k hk e => j7 k b hk hb (injP _ _ (hrc k hk) hbc e)
  obtain ⟨o, s1, s2⟩ := p_scan (N := N) (c := c) (h := h) (P := P) (hr := hr) (lst := lst) (hp := hp) (by omega) hc ah hlc (fun k hk => ⟨hrc k hk, m1 k hk⟩) N 0 none (by omega) (by omega) ⟨fun _ k hk => absurd hk (by omega), fun x e => absurd e (by simp)⟩
  have so : o = none := (scan_next hn inj (fun l k e hk q => by
    have h1 := injP _ _ (hrc k hk) (hlc l e) q
    have h2 := j11 l e
    exact j10 (i - 1) k (by omega) hk (by rw [← h2.2, h1])) s2).2 rfl hl
  rw [so] at s1
  have s1' : l_X7_runs_88 N S V T F hp (nI h) (lI lst) N (-1) 0 = some (-1) := s1
  rw [l_X7_runs_78, if_neg (nI_nle (by omega) (by omega)), bd1_eq s1', if_pos rfl]
theorem both_runs {N c rm : Nat} {P : Nat → Nat} {S V T F S2 V2 T2 F2 : Nat → Int32} (hN : 1000 ≤ N) (hc : c ≤ 400) (po : ∀ a, a < c → f_X4_placeOf N S V T F (nI c) (nI a) = some (nI (P a))) (hP : ∀ r, r < c → P r < 320001600 ∧ P r % 400 = r) (ah : ∀ a b, a < c → b < c → f_X7_ahead N S2 V2 T2 F2 (nI a) (nI b) = some (if P a < P b then 1 else 0)) (hrm : 0 < rm) (hrm2 : rm ≤ 40) :
    ∀ (d h nx i rn : Nat) (lst : Option Nat) (hr bg ord : Nat → Nat) (items : Nat → Int64) (mb st bgn sz pool hp : Nat → Int32) (fC fM : Nat), c - i = d → d < fC → 2 * d < fM → i ≤ c → RJ c rm h nx i rn lst hr bg ord → RC P h i rn lst hr bg ord items mb st → RM h i rn hr bg ord bgn sz pool hp →
    ∃ (rn' : Nat) (lst' : Option Nat) (hr' bg' ord' : Nat → Nat) (items' : Nat → Int64) (mb' st' bgn' sz' pool' hp' : Nat → Int32), l_X5_select_44 N S V T F (nI c) (nI c) fC (nI nx) (nI i) items (nI h) mb st (nI rn) (nI i) = some (items', nI 0, mb', st', nI rn', nI c) ∧ l_X7_runs_78 N S2 V2 (nI c) T2 F2 fM (nI h) (nI nx) (lI lst) (nI rn) bgn sz pool (nI i) hp = some (nI rn', bgn', sz', pool', nI c, hp') ∧ RJ c rm 0 c c rn' lst' hr' bg' ord' ∧ RC P 0 c rn' lst' hr' bg' ord' items' mb' st' ∧ RM 0 c rn' hr' bg' ord' bgn' sz' pool' hp' := by
  have injP : ∀ x y, x < c → y < c → P x = P y → x = y := fun x y hx hy e => by
    have h1 := (hP x hx).2
    have h2 := (hP y hy).2
    omega
  intro d
  induction d with
  | zero =>
    intro h nx i rn lst hr bg ord items mb st bgn sz pool hp fC fM hd hf1 hf2 hic J C M
    have e : i = c := by omega
    subst e
    have hh : h = 0 := by have := J.1; have := J.2.1; omega
    have hn : nx = i := by have := J.1; omega
    subst hh
    subst hn
    obtain ⟨gC, rfl⟩ : ∃ g, fC = g + 1 := ⟨fC - 1, by omega⟩
    obtain ⟨gM, rfl⟩ : ∃ g, fM = g + 1 := ⟨fM - 1, by omega⟩
    refine ⟨rn, lst, hr, bg, ord, items, mb, st, bgn, sz, pool, hp, ?_, ?_, J, C, M⟩
    · rw [l_X5_select_44, if_pos (nI_le (Nat.le_refl _) (by omega))]
    · rw [l_X7_runs_78, if_pos (by decide)]
  | succ d ih =>
    intro h nx i rn lst hr bg ord items mb st bgn sz pool hp fC fM hd hf1 hf2 hic J C M
    have hi : i < c := by omega
    obtain ⟨gC, rfl⟩ : ∃ g, fC = g + 1 := ⟨fC - 1, by omega⟩
    obtain ⟨b, bn, items1, st1, hn, e1, C1⟩ := c_step hN hc po hP hrm hrm2 J C hi
    have J1 := J.step hrm hi hn
    rw [e1 gC]
    by_cases hbl : bn = true ↔ lst = none
    · obtain ⟨gM, rfl⟩ : ∃ g, fM = g + 1 := ⟨fM - 1, by omega⟩
      obtain ⟨bgn1, sz1, hp1, e2, M1⟩ := m_out hN hc ah injP hrm2 J M hi hn hbl
      rw [e2 gM]
      exact ih _ _ _ _ (some (hr b)) _ _ _ _ _ _ _ _ _ _ gC gM (by omega) (by omega) (by omega) (by omega) J1 C1 M1
    · have hbt : bn = true := by
        cases hb : bn with
        | true => rfl
        | false =>
          obtain ⟨l, e, -⟩ := hn.2.1 hb
          exact absurd ⟨fun q => absurd q (by rw [hb]; decide), fun q => by rw [e] at q; cases q⟩ hbl
      have hls : lst ≠ none := fun q => hbl ⟨fun _ => q, fun _ => hbt⟩
      subst hbt
      obtain ⟨gM, rfl⟩ : ∃ g, fM = g + 2 := ⟨fM - 2, by omega⟩
      have J0 : RJ c rm h nx i rn none hr bg ord := by
        obtain ⟨j1, j2, j3, j4, j5, j6, j7, j8, j9, j10, j11, j12, j13, j14, j15⟩ := J
        exact ⟨j1, j2, j3, j4, j5, j6, j7, j8, j9, j10, fun l e => (nomatch e), j12, j13, j14, j15⟩
      have hn0 : nextB P none hr h b true := ⟨hn.1, fun q => absurd q (by decide), fun q => ⟨fun l e => (nomatch e), (hn.2.2 q).2⟩⟩
      obtain ⟨bgn1, sz1, hp1, e2, M1⟩ := m_out hN hc ah injP hrm2 J0 M hi hn0 ⟨fun _ => rfl, fun _ => rfl⟩
      have e2' := e2 gM
      have e3 : lI none = -1 := rfl
      rw [e3] at e2'
      rw [m_skip hN hc ah injP hrm2 J M hn hls (gM + 1), e2']
      exact ih _ _ _ _ (some (hr b)) _ _ _ _ _ _ _ _ _ _ gC gM (by omega) (by omega) (by omega) (by omega) J1 C1 M1
end
section
/-! RUNS: from the start. My own text. -/
theorem p_sel17 {N : Nat} (hN : 1000 ≤ N) {c q : Nat} {S V T F : Nat → Int32} (h : rOK c S V T F) (hq : q ≤ c) : ∀ (f j : Nat) (items : Nat → Int64), j ≤ q → q - j < f → HP items (nI j) j (fun v => ∃ r, r < j ∧ v = plc S V T F r) →
    ∃ items', l_X5_select_17 N S V T F (nI c) (nI q) f (nI j) items (nI j) = some (items', nI q) ∧ HP items' (nI q) q (fun v => ∃ r, r < q ∧ v = plc S V T F r)
  | 0, j, items, _, hf, _ => absurd hf (by omega)
  | f + 1, j, items, hj, hf, hp => by
    have hc := h.1
    rw [l_X5_select_17]
    by_cases z : q ≤ j
    · have e : j = q := by omega
      subst e
      rw [if_pos (nI_le (Nat.le_refl _) (by omega))]
      exact ⟨items, rfl, hp⟩
    · have hjc : j < c := by omega
      have hlt := plc_lt h hjc
      obtain ⟨items', a1, a2⟩ := p_add hN hp (by omega) (x := plc S V T F j) (by omega) (by
        rintro ⟨r, hr, e⟩
        have := plc_inj h hjc (by omega) e
        omega)
      rw [if_neg (nI_ge (by omega) (by omega)), bd1_eq (p_placeOf N h hjc), nI_l (show plc S V T F j < 2 ^ 31 by omega), bd2_eq a1, nl_e, nI_1]
      exact p_sel17 hN h hq f (j + 1) items' (by omega) (by omega) (a2.congr fun v => by
        constructor
        · rintro ⟨r, hr, e⟩
          by_cases y : r = j
          · exact Or.inr (by rw [e, y])
          · exact Or.inl ⟨r, by omega, e⟩
        · rintro (⟨r, hr, e⟩ | e)
          · exact ⟨r, by omega, e⟩
          · exact ⟨j, by omega, e⟩)
theorem p_fill (N : Nat) {c rm : Nat} (hc : c ≤ 400) (hrm : rm ≤ 40) : ∀ (f j : Nat) (hp : Nat → Int32), j ≤ min rm c → min rm c - j < f → (∀ k, k < j → hp k = nI k) →
    ∃ hp', l_X7_runs_46 N (nI c) (nI rm) f (nI j) (nI j) hp = some (nI (min rm c), nI (min rm c), hp') ∧ ∀ k, k < min rm c → hp' k = nI k
  | 0, j, hp, _, hf, _ => absurd hf (by omega)
  | f + 1, j, hp, hj, hf, hk => by
    rw [l_X7_runs_46]
    by_cases a : rm ≤ j
    · have e : j = min rm c := by omega
      rw [if_pos (nI_le a (by omega)), e]
      rw [e] at hk
      exact ⟨hp, rfl, hk⟩
    · rw [if_neg (nI_ge (by omega) (by omega))]
      by_cases b : c ≤ j
      · have e : j = min rm c := by omega
        rw [if_pos (nI_le b (by omega)), e]
        rw [e] at hk
        exact ⟨hp, rfl, hk⟩
      · rw [if_neg (nI_ge (by omega) (by omega)), gd_nI (show j < 40 by omega) (by decide), nl_e, nl_e, nI_1, nI_clamp (show j < 2 ^ 31 by omega)]
        exact p_fill N hc hrm f (j + 1) _ (by omega) (by omega) (fun k hk2 => by
          by_cases z : k = j
          · rw [z, pk_us]
          · rw [pk_un z]; exact hk k (by omega))
theorem vl0 (P : Nat → Nat) (k : Nat) : vl P none 0 k = P k := by
  show 0 * 320001600 + P k = P k
  omega
theorem runs_alike {N c rm : Nat} {S V T F S2 V2 T2 F2 : Nat → Int32} (hN : 1000 ≤ N) (h : rOK c S V T F) (ah : ∀ a b, a < c → b < c → f_X7_ahead N S2 V2 T2 F2 (nI a) (nI b) = some (if plc S V T F a < plc S V T F b then 1 else 0)) (hrm : 0 < rm) (hrm2 : rm ≤ 40) (items : Nat → Int64) (size ra md : Int32) (mb st inO sd bgn sz pool hp : Nat → Int32) :
    ∃ (rn : Nat) (lst : Option Nat) (hr bg ord io so : Nat → Nat) (items' : Nat → Int64) (mb' st' inO' sd' bgn' sz' pool' hp0 hp' : Nat → Int32),
      f_X5_makeOf N S V T F (nI c) items size mb st inO sd ra md 0 0 (nI rm) = some (items', nI 0, mb', st', inO', sd', nI c, nI rn, nI rn, nI c) ∧
      l_X7_runs_46 N (nI c) (nI rm) N 0 0 hp = some (nI (min rm c), nI (min rm c), hp0) ∧
      l_X7_runs_78 N S2 V2 (nI c) T2 F2 N (nI (min rm c)) (nI (min rm c)) (-1) 0 bgn sz pool 0 hp0 = some (nI rn, bgn', sz', pool', nI c, hp') ∧
      SO c (plc S V T F) io so ∧ (∀ k, k < c → inO' k = nI (io k)) ∧ (∀ r, r < c → sd' r = nI (so r)) ∧
      RJ c rm 0 c c rn lst hr bg ord ∧ RC (plc S V T F) 0 c rn lst hr bg ord items' mb' st' ∧ RM 0 c rn hr bg ord bgn' sz' pool' hp' := by
  have hc := h.1
  obtain ⟨inO', sd', i1, io, so, a1, a2, a3, a4⟩ := p_putInOrder hN h inO sd items size
  obtain ⟨i2, b1, b2⟩ := p_sel17 hN h (q := min rm c) (by omega) N 0 i1 (by omega) (by omega) ((HP.empty i1).congr fun v => ⟨fun ⟨r, hr, _⟩ => absurd hr (by omega), fun z => z.elim⟩)
  obtain ⟨hp0, d1, d2⟩ := p_fill N hc hrm2 N 0 hp (by omega) (by omega) (fun k hk => absurd hk (by omega))
  have J0 : RJ c rm (min rm c) (min rm c) 0 0 none (fun k => k) (fun _ => 0) (fun _ => 0) := ⟨by omega, by omega, by omega, fun z => by omega, by omega, fun k hk => hk, fun a b _ _ e => e, fun j hj => absurd hj (by omega), fun a b ha => absurd ha (by omega), fun j k hj => absurd hj (by omega), fun l e => (nomatch e), fun z => absurd z (by omega), fun z => absurd z (by omega), fun r z => absurd z (by omega), fun z => absurd z (by omega)⟩
  have C0 : RC (plc S V T F) (min rm c) 0 0 none (fun k => k) (fun _ => 0) (fun _ => 0) i2 mb st := ⟨b2.congr fun v => by
      constructor
      · rintro ⟨k, hk, e⟩
        exact ⟨k, hk, e.trans (vl0 _ _)⟩
      · rintro ⟨k, hk, e⟩
        exact ⟨k, hk, e.trans (vl0 _ _).symm⟩, fun j hj => absurd hj (by omega), fun r hr => absurd hr (by omega), fun z => absurd z (by omega)⟩
  have M0 : RM (min rm c) 0 0 (fun k => k) (fun _ => 0) (fun _ => 0) bgn sz pool hp0 := ⟨d2, fun j hj => absurd hj (by omega), fun r hr => absurd hr (by omega), fun r hr => absurd hr (by omega), fun z => absurd z (by omega)⟩
  obtain ⟨rn, lst, hr, bg, ord, items', mb', st', bgn', sz', pool', hp', e1, e2, e3, e4, e5⟩ := both_runs hN hc (fun a ha => p_placeOf N h ha) (fun r hr => ⟨plc_lt h hr, plc_mod h hr⟩) ah hrm hrm2 c _ _ 0 0 none _ _ _ i2 mb st bgn sz pool hp0 N N (by omega) (by omega) (by omega) (by omega) J0 C0 M0
  refine ⟨rn, lst, hr, bg, ord, io, so, items', mb', st', inO', sd', bgn', sz', pool', hp0, hp', ?_, d1, e2, a2, a3, a4, e3, e4, e5⟩
  have x3 : (if nI c < nI rm then nI c else nI rm) = nI (min rm c) := by
    by_cases z : c < rm
    · rw [if_pos (nI_lt z (by omega))]; congr 1; omega
    · rw [if_neg (nI_nlt (by omega) (by omega))]; congr 1; omega
  have b1' : l_X5_select_17 N S V T F (nI c) (nI (min rm c)) N 0 i1 0 = some (i2, nI (min rm c)) := b1
  have e1' : l_X5_select_44 N S V T F (nI c) (nI c) N (nI (min rm c)) 0 i2 (nI (min rm c)) mb st 0 0 = some (items', nI 0, mb', st', nI rn, nI c) := e1
  have f1 : f_X1_forget N (nI 0) = some 0 := rfl
  have sel : f_X5_select N S V T F (nI c) i1 (nI 0) mb st (nI c) 0 0 (nI rm) = some (items', nI 0, mb', st', nI rn, nI c) := by
    unfold f_X5_select
    rw [bd1_eq f1, x3, nl_e, bd2_eq b1', bd6_eq e1']
  unfold f_X5_makeOf
  rw [bd4_eq a1, bd6_eq sel]
end
section
/-! HOSTS: how many ROWS are left on one. My own text. -/
def lefS (sz mg ln : Nat → Int32) (v : Int32) : Nat → Int32
  | 0 => 0
  | n + 1 => if ln n = v then lefS sz mg ln v n + (sz n - mg n) else lefS sz mg ln v n
theorem lefS_congr {sz mg ln sz2 mg2 ln2 : Nat → Int32} {v : Int32} : ∀ {p : Nat}, (∀ j, j < p → sz j = sz2 j ∧ mg j = mg2 j ∧ (ln j = v ↔ ln2 j = v)) → lefS sz mg ln v p = lefS sz2 mg2 ln2 v p
  | 0, _ => rfl
  | p + 1, h => by
    have ih := lefS_congr (p := p) (fun j hj => h j (by omega))
    obtain ⟨h1, h2, h3⟩ := h p (by omega)
    show (if ln p = v then _ else _) = (if ln2 p = v then _ else _)
    rw [ih, h1, h2]
    by_cases q : ln p = v
    · rw [if_pos q, if_pos (h3.mp q)]
    · rw [if_neg q, if_neg (fun z => q (h3.mpr z))]
theorem p_leftOn_loop (N : Nat) {p : Nat} (hp : p ≤ 8) (sz ln mg : Nat → Int32) (v : Int32) : ∀ (f j : Nat), j ≤ p → p - j < f → l_X0_leftOn_4 N sz ln mg (nI p) v f (lefS sz mg ln v j) (nI j) = some (lefS sz mg ln v p)
  | 0, j, _, hf => absurd hf (by omega)
  | f + 1, j, hj, hf => by
    rw [l_X0_leftOn_4]
    by_cases q : p ≤ j
    · have e : j = p := by omega
      rw [if_pos (nI_le q (by omega)), e]
    · have ih := p_leftOn_loop N hp sz ln mg v f (j + 1) (by omega) (by omega)
      have e1 : lefS sz mg ln v (j + 1) = if ln j = v then lefS sz mg ln v j + (sz j - mg j) else lefS sz mg ln v j := rfl
      rw [e1] at ih
      rw [if_neg (nI_ge (by omega) (by omega)), gd_nI (show j < 8 by omega) (by decide), nI_clamp (show j < 2 ^ 31 by omega)]
      by_cases z : ln j = v
      · rw [if_pos z] at ih ⊢
        rw [gd_nI (show j < 8 by omega) (by decide), gd_nI (show j < 8 by omega) (by decide), nl_e, nl_e, nI_1]
        exact ih
      · rw [if_neg z] at ih ⊢
        rw [nl_e, nI_1]
        exact ih
theorem p_leftOn {N p : Nat} (hN : 1000 ≤ N) (hp : p ≤ 8) (sz ln mg : Nat → Int32) (v : Int32) : f_X0_leftOn N sz ln mg (nI p) v = some (lefS sz mg ln v p) := by
  unfold f_X0_leftOn
  have h : l_X0_leftOn_4 N sz ln mg (nI p) v N 0 0 = some (lefS sz mg ln v p) := p_leftOn_loop N hp sz ln mg v N 0 (by omega) (by omega)
  rw [bd1_eq h]
theorem p_left_loop (N : Nat) {p : Nat} (hp : p ≤ 8) (sz ln mg : Nat → Int32) (v : Int32) : ∀ (f j : Nat), j ≤ p → p - j < f → l_X7_left_4 N (nI p) sz mg ln v f (lefS sz mg ln v j) (nI j) = some (lefS sz mg ln v p)
  | 0, j, _, hf => absurd hf (by omega)
  | f + 1, j, hj, hf => by
    rw [l_X7_left_4]
    by_cases q : p ≤ j
    · have e : j = p := by omega
      rw [if_pos (nI_le q (by omega)), e]
    · have ih := p_left_loop N hp sz ln mg v f (j + 1) (by omega) (by omega)
      have e1 : lefS sz mg ln v (j + 1) = if ln j = v then lefS sz mg ln v j + (sz j - mg j) else lefS sz mg ln v j := rfl
      rw [e1] at ih
      rw [if_neg (nI_ge (by omega) (by omega)), gd_nI (show j < 8 by omega) (by decide), nI_clamp (show j < 2 ^ 31 by omega)]
      by_cases z : ln j = v
      · rw [if_pos z] at ih ⊢
        rw [gd_nI (show j < 8 by omega) (by decide), gd_nI (show j < 8 by omega) (by decide), nl_e, nl_e, nI_1]
        exact ih
      · rw [if_neg z] at ih ⊢
        rw [nl_e, nl_e, nI_1, Int32.add_zero]
        exact ih
theorem p_left {N p : Nat} (hN : 1000 ≤ N) (hp : p ≤ 8) (sz ln mg : Nat → Int32) (v : Int32) : f_X7_left N (nI p) sz mg ln v = some (lefS sz mg ln v p) := by
  unfold f_X7_left
  have h : l_X7_left_4 N (nI p) sz mg ln v N 0 0 = some (lefS sz mg ln v p) := p_left_loop N hp sz ln mg v N 0 (by omega) (by omega)
  rw [bd1_eq h]
end
section
/-! HOSTS: the one with the fewest ROWS left. My own text. -/
theorem p_least_loop {N p p2 : Nat} (hN : 1000 ≤ N) (hp : p ≤ 8) (hp2 : p2 ≤ 8) {sz ln mg sz2 ln2 mg2 up up2 : Nat → Int32} {L : Nat → Int32} (hup : ∀ k, k < 8 → (up k = 0 ↔ up2 k = 0)) (hL : ∀ k, k < 8 → up k ≠ 0 → lefS sz mg ln (nI k) p = L k ∧ lefS sz2 mg2 ln2 (nI k) p2 = L k) :
    ∀ (f j : Nat) (b : Option Nat) (v3 : Int32), j ≤ 8 → 8 - j < f → (∀ x, b = some x → x < 8 ∧ up x ≠ 0 ∧ v3 = L x) →
    ∃ b', l_X0_leastLaden_7 N sz ln mg (nI p) up f (lI b) v3 (nI j) = some (lI b') ∧ l_X7_leaves_55 N (nI p2) sz2 mg2 ln2 up2 f (lI b) (nI j) = some (lI b') ∧ ∀ x, b' = some x → x < 8 ∧ up x ≠ 0
  | 0, j, b, v3, _, hf, _ => absurd hf (by omega)
  | f + 1, j, b, v3, hj, hf, hb => by
    rw [l_X0_leastLaden_7, l_X7_leaves_55]
    by_cases q : 8 ≤ j
    · have q8 : (8 : Int32) ≤ nI j := nI_le (a := 8) q (by omega)
      rw [if_pos q8, if_pos q8]
      exact ⟨b, rfl, rfl, fun x e => ⟨(hb x e).1, (hb x e).2.1⟩⟩
    · have q8 : ¬ (8 : Int32) ≤ nI j := nI_ge (b := 8) (by omega) (by decide)
      rw [if_neg q8, if_neg q8, gd_nI (show j < 8 by omega) (by decide), gd_nI (show j < 8 by omega) (by decide), nI_clamp (show j < 2 ^ 31 by omega)]
      by_cases u : up j = 0
      · rw [if_pos u, if_pos ((hup j (by omega)).mp u), nl_e, nl_e, nI_1]
        exact p_least_loop hN hp hp2 hup hL f (j + 1) b v3 (by omega) (by omega) hb
      · have l1 := hL j (by omega) u
        have c1 := p_leftOn hN hp sz ln mg (nI j)
        have c2 := p_left hN hp2 sz2 ln2 mg2 (nI j)
        rw [l1.1] at c1
        rw [l1.2] at c2
        rw [if_neg u, if_neg (fun z => u ((hup j (by omega)).mpr z)), bd1_eq c1]
        cases hbe : b with
        | none =>
          rw [if_pos (show lI none = -1 from rfl), if_pos (show lI none = -1 from rfl), nl_e, nl_e, nI_1]
          exact p_least_loop hN hp hp2 hup hL f (j + 1) (some j) (L j) (by omega) (by omega) (fun x e => by cases e; exact ⟨by omega, u, rfl⟩)
        | some x =>
          obtain ⟨x1, x2, x3⟩ := hb x hbe
          have l2 := hL x x1 x2
          have c3 := p_left hN hp2 sz2 ln2 mg2 (nI x)
          rw [l2.2] at c3
          have ex : ¬ lI (some x) = -1 := nI_ne_m1 (show x < 2 ^ 31 by omega)
          have c3' : f_X7_left N (nI p2) sz2 mg2 ln2 (lI (some x)) = some (L x) := c3
          rw [if_neg ex, if_neg ex, bd1_eq c2, bd1_eq c3', x3]
          by_cases z : L x ≤ L j
          · rw [if_pos z, if_pos z, nl_e, nl_e, nI_1]
            exact p_least_loop hN hp hp2 hup hL f (j + 1) (some x) (L x) (by omega) (by omega) (fun y e => by cases e; exact ⟨x1, x2, rfl⟩)
          · rw [if_neg z, if_neg z, nl_e, nl_e, nI_1]
            exact p_least_loop hN hp hp2 hup hL f (j + 1) (some j) (L j) (by omega) (by omega) (fun y e => by cases e; exact ⟨by omega, u, rfl⟩)
end
section
/-! HOSTS: the PARTS of one that is DOWN go elsewhere. My own text. -/
def agr (p : Nat) (a b : Nat → Int32) : Prop := ∀ j, j < p → a j = b j
theorem agr.upd {p : Nat} {a b : Nat → Int32} (h : agr p a b) (k : Nat) (x : Int32) : agr p (upd a k x) (upd b k x) := by
  intro j hj
  by_cases q : j = k
  · rw [q, pk_us, pk_us]
  · rw [pk_un q, pk_un q]; exact h j hj
theorem p_move_loop {N p hst : Nat} (hN : 1000 ≤ N) (hp : p ≤ 8) (hh : hst < 8) {sz sz2 up up2 : Nat → Int32} (hup : ∀ k, k < 8 → (up k = 0 ↔ up2 k = 0)) (hdn : up hst = 0) (hsz : agr p sz sz2) :
    ∀ (f j : Nat) (mv : Int32) (ln mg dn ln2 mg2 dn2 : Nat → Int32), j ≤ p → p - j < f → agr p ln ln2 → agr p mg mg2 → agr p dn dn2 →
    ∃ (mv' : Int32) (ln' mg' dn' ln2' mg2' dn2' : Nat → Int32), l_X0_moveFrom_5 N sz (nI p) up (nI hst) f mv (nI j) ln mg dn = some (mv', ln', mg', dn') ∧ l_X7_leaves_4 N (nI p) sz2 up2 (nI hst) f mv (nI j) mg2 dn2 ln2 = some (mv', mg2', dn2', ln2') ∧ agr p ln' ln2' ∧ agr p mg' mg2' ∧ agr p dn' dn2'
  | 0, j, mv, ln, mg, dn, ln2, mg2, dn2, _, hf, _, _, _ => absurd hf (by omega)
  | f + 1, j, mv, ln, mg, dn, ln2, mg2, dn2, hj, hf, h1, h2, h3 => by
    rw [l_X0_moveFrom_5, l_X7_leaves_4]
    by_cases q : p ≤ j
    · rw [if_pos (nI_le q (by omega)), if_pos (nI_le q (by omega))]
      exact ⟨mv, ln, mg, dn, ln2, mg2, dn2, rfl, rfl, h1, h2, h3⟩
    · rw [if_neg (nI_ge (by omega) (by omega)), if_neg (nI_ge (by omega) (by omega)), gd_nI (show j < 8 by omega) (by decide), gd_nI (show j < 8 by omega) (by decide), nI_clamp (show j < 2 ^ 31 by omega), ← h1 j (by omega)]
      by_cases z : ln j = nI hst
      · have ba : f_X0_beginAnew N mg dn (nI j) = some (upd mg j 0, upd dn j (vp_nar .boolean 0)) := by
          unfold f_X0_beginAnew
          rw [gd_nI (show j < 8 by omega) (by decide), gd_nI (show j < 8 by omega) (by decide), nI_clamp (show j < 2 ^ 31 by omega)]
        obtain ⟨b, l1, l2, -⟩ := p_least_loop (p := p) (p2 := p) (sz := sz) (ln := ln) (mg := upd mg j 0) (sz2 := sz2) (ln2 := upd ln2 j (-1)) (mg2 := upd mg2 j 0) (L := fun k => lefS sz (upd mg j 0) ln (nI k) p) hN hp hp hup (fun k hk hu => ⟨rfl, (lefS_congr (fun i hi => by
          refine ⟨hsz i hi, h2.upd j 0 i hi, ?_⟩
          by_cases y : i = j
          · rw [y, pk_us, z]
            constructor
            · intro e
              have : hst = k := (nI_eq (by omega) (by omega)).mp e
              rw [← this] at hu
              exact absurd hdn hu
            · intro e
              exact absurd e.symm (nI_ne_m1 (by omega))
          · rw [pk_un y, h1 i hi])).symm⟩) N 0 none 0 (by omega) (by omega) (fun x e => (nomatch e))
        have l1' : f_X0_leastLaden N sz ln (upd mg j 0) (nI p) up = some (lI b) := by
          unfold f_X0_leastLaden
          have e : l_X0_leastLaden_7 N sz ln (upd mg j 0) (nI p) up N (-1) 0 0 = some (lI b) := l1
          rw [bd1_eq e]
        have l2' : l_X7_leaves_55 N (nI p) sz2 (upd mg2 j 0) (upd ln2 j (-1)) up2 N (-1) 0 = some (lI b) := l2
        rw [if_pos z, if_pos z, bd2_eq ba, bd1_eq l1', gd_nI (show j < 8 by omega) (by decide), nl_e, nl_e, nl_e, gd_nI (show j < 8 by omega) (by decide), gd_nI (show j < 8 by omega) (by decide), gd_nI (show j < 8 by omega) (by decide), bd1_eq l2', gd_nI (show j < 8 by omega) (by decide), nl_e, nI_1]
        exact p_move_loop hN hp hh hup hdn hsz f (j + 1) _ _ _ _ _ _ _ (by omega) (by omega) (fun i hi => by
          by_cases y : i = j
          · rw [y, pk_us, pk_us]
          · rw [pk_un y, pk_un y, pk_un y]; exact h1 i hi) (h2.upd j 0) (h3.upd j _)
      · rw [if_neg z, if_neg z, nl_e, nl_e, nI_1]
        exact p_move_loop hN hp hh hup hdn hsz f (j + 1) _ _ _ _ _ _ _ (by omega) (by omega) h1 h2 h3
end
section
/-! HOSTS: one comes UP. My own text. -/
theorem p_rise_loop {N p : Nat} (hp : p ≤ 8) (v : Int32) : ∀ (f j : Nat) (mv : Int32) (ln ln2 : Nat → Int32), j ≤ p → p - j < f → agr p ln ln2 →
    ∃ (mv' : Int32) (ln' ln2' : Nat → Int32), l_X0_bringTo_4 N (nI p) v f mv (nI j) ln = some (mv', ln') ∧ l_X7_rise_29 N (nI p) v f mv (nI j) ln2 = some (mv', ln2') ∧ agr p ln' ln2'
  | 0, j, mv, ln, ln2, _, hf, _ => absurd hf (by omega)
  | f + 1, j, mv, ln, ln2, hj, hf, h1 => by
    rw [l_X0_bringTo_4, l_X7_rise_29]
    by_cases q : p ≤ j
    · rw [if_pos (nI_le q (by omega)), if_pos (nI_le q (by omega))]
      exact ⟨mv, ln, ln2, rfl, rfl, h1⟩
    · rw [if_neg (nI_ge (by omega) (by omega)), if_neg (nI_ge (by omega) (by omega))]
      have g8 : ∀ {X : Option (Int32 × (Nat → Int32))}, gd (ix (nI j) 8) X = X := gd_nI (by omega) (by decide)
      simp only [g8]
      rw [nI_clamp (show j < 2 ^ 31 by omega), ← h1 j (by omega)]
      by_cases z : ln j = -1
      · rw [if_pos z, if_pos z, nl_e, nl_e, nl_e, nl_e, nI_1]
        exact p_rise_loop (N := N) hp v f (j + 1) (mv + 1) (upd ln j v) (upd ln2 j v) (by omega) (by omega) (h1.upd j v)
      · rw [if_neg z, if_neg z, nl_e, nl_e, nI_1]
        exact p_rise_loop (N := N) hp v f (j + 1) mv ln ln2 (by omega) (by omega) h1
end
section
/-! PARTS on a HOST, PARTS that are done, THE END. My own text. -/
theorem p_partsOn_loop {N p : Nat} (hp : p ≤ 8) (v : Int32) {ln ln2 : Nat → Int32} (h : agr p ln ln2) : ∀ (f j k : Nat), j ≤ p → p - j < f → k ≤ j → ∃ k', k' ≤ p ∧ l_X0_partsOn_4 N ln (nI p) v f (nI k) (nI j) = some (nI k') ∧ l_X7_host_73 N (nI p) ln2 v f (nI k) (nI j) = some (nI k')
  | 0, j, k, _, hf, _ => absurd hf (by omega)
  | f + 1, j, k, hj, hf, hk => by
    rw [l_X0_partsOn_4, l_X7_host_73]
    by_cases q : p ≤ j
    · rw [if_pos (nI_le q (by omega)), if_pos (nI_le q (by omega))]
      exact ⟨k, by omega, rfl, rfl⟩
    · have g8 : ∀ {X : Option Int32}, gd (ix (nI j) 8) X = X := gd_nI (by omega) (by decide)
      rw [if_neg (nI_ge (by omega) (by omega)), if_neg (nI_ge (by omega) (by omega))]
      simp only [g8]
      rw [nI_clamp (show j < 2 ^ 31 by omega), ← h j (by omega)]
      by_cases z : ln j = v
      · rw [if_pos z, if_pos z]
        simp only [nl_e, nI_1]
        exact p_partsOn_loop hp v h f (j + 1) (k + 1) (by omega) (by omega) (by omega)
      · rw [if_neg z, if_neg z]
        simp only [nl_e, nI_1, Int32.add_zero]
        exact p_partsOn_loop hp v h f (j + 1) k (by omega) (by omega) (by omega)
def dnS (dn : Nat → Int32) : Nat → Nat
  | 0 => 0
  | n + 1 => if dn n = 0 then dnS dn n else dnS dn n + 1
theorem dnS_le (dn : Nat → Int32) : ∀ n, dnS dn n ≤ n
  | 0 => Nat.le_refl _
  | n + 1 => by
    have := dnS_le dn n
    unfold dnS
    split <;> omega
theorem p_done_loop {N p : Nat} (hp : p ≤ 8) {dn dn2 : Nat → Int32} (h : agr p dn dn2) : ∀ (f j : Nat), j ≤ p → p - j < f → l_X0_partsDone_4 N dn (nI p) f (nI (dnS dn j)) (nI j) = some (nI (dnS dn p)) ∧ l_X7_work_65 N (nI p) dn2 f (nI (dnS dn j)) (nI j) = some (nI (dnS dn p))
  | 0, j, _, hf => absurd hf (by omega)
  | f + 1, j, hj, hf => by
    rw [l_X0_partsDone_4, l_X7_work_65]
    by_cases q : p ≤ j
    · have e : j = p := by omega
      rw [if_pos (nI_le q (by omega)), if_pos (nI_le q (by omega)), e]
      exact ⟨rfl, rfl⟩
    · have g8 : ∀ {X : Option Int32}, gd (ix (nI j) 8) X = X := gd_nI (by omega) (by decide)
      have ih := p_done_loop (N := N) hp h f (j + 1) (by omega) (by omega)
      have e1 : dnS dn (j + 1) = if dn j = 0 then dnS dn j else dnS dn j + 1 := rfl
      rw [e1] at ih
      rw [if_neg (nI_ge (by omega) (by omega)), if_neg (nI_ge (by omega) (by omega))]
      simp only [g8]
      rw [nI_clamp (show j < 2 ^ 31 by omega), ← h j (by omega)]
      by_cases z : dn j = 0
      · rw [if_pos z] at ih
        rw [if_pos z, if_pos z]
        simp only [nl_e, nI_1, Int32.add_zero]
        exact ih
      · rw [if_neg z] at ih
        rw [if_neg z, if_neg z]
        simp only [nl_e, nI_1]
        exact ih
end
section
/-! THE END is there. My own text. -/
theorem p_there_loop {N p : Nat} (hp : p ≤ 8) {dn dn2 : Nat → Int32} (h : agr p dn dn2) : ∀ (f j : Nat), j ≤ p → p - j < f → l_X7_isThere_15 N (nI p) dn2 f (if 0 < p ∧ dnS dn j = j then 1 else 0) (nI j) = some (if 0 < p ∧ dnS dn p = p then 1 else 0)
  | 0, j, _, hf => absurd hf (by omega)
  | f + 1, j, hj, hf => by
    rw [l_X7_isThere_15]
    by_cases q : p ≤ j
    · have e : j = p := by omega
      rw [if_pos (nI_le q (by omega)), e]
    · have g8 : ∀ {X : Option Int32}, gd (ix (nI j) 8) X = X := gd_nI (by omega) (by decide)
      have ih := p_there_loop (N := N) hp h f (j + 1) (by omega) (by omega)
      have e1 : dnS dn (j + 1) = if dn j = 0 then dnS dn j else dnS dn j + 1 := rfl
      have le := dnS_le dn j
      rw [if_neg (nI_ge (by omega) (by omega))]
      simp only [g8, nl_e, nI_1]
      rw [nI_clamp (show j < 2 ^ 31 by omega), ← h j (by omega)]
      by_cases a : 0 < p ∧ dnS dn j = j
      · rw [if_pos a, if_neg (by decide)]
        by_cases z : dn j = 0
        · rw [if_pos z] at e1 ⊢
          rw [if_neg (show ¬ (0 < p ∧ dnS dn (j + 1) = j + 1) by omega)] at ih
          exact ih
        · rw [if_neg z] at e1 ⊢
          rw [if_pos (show 0 < p ∧ dnS dn (j + 1) = j + 1 by omega)] at ih
          exact ih
      · rw [if_neg a, if_pos rfl]
        rw [if_neg (show ¬ (0 < p ∧ dnS dn (j + 1) = j + 1) by
          rw [e1]
          split <;> omega)] at ih
        exact ih
theorem p_isThere {N p : Nat} (hN : 1000 ≤ N) (hp : p ≤ 8) {dn dn2 : Nat → Int32} (h : agr p dn dn2) : f_X7_isThere N (nI p) dn2 = some (if 0 < p ∧ dnS dn p = p then 1 else 0) := by
  unfold f_X7_isThere
  have e0 : (if nI p ≤ 0 then some (0 : Int32) else some 1) = some (if 0 < p ∧ dnS dn 0 = 0 then 1 else 0) := by
    have d0 : dnS dn 0 = 0 := rfl
    by_cases q : p = 0
    · rw [q, if_pos (by decide), if_neg (by omega)]
    · rw [if_neg (nI_nle (by omega) (by omega)), if_pos ⟨by omega, d0⟩]
  have e1 : l_X7_isThere_15 N (nI p) dn2 N (if 0 < p ∧ dnS dn 0 = 0 then 1 else 0) 0 = some (if 0 < p ∧ dnS dn p = p then 1 else 0) := p_there_loop hp h N 0 (by omega) (by omega)
  rw [bd1_eq e0, bd1_eq e1, gd_bi]
theorem p_partsDone {N p : Nat} (hN : 1000 ≤ N) (hp : p ≤ 8) (dn : Nat → Int32) : f_X0_partsDone N dn (nI p) = some (nI (dnS dn p)) := by
  unfold f_X0_partsDone
  have e : l_X0_partsDone_4 N dn (nI p) N 0 0 = some (nI (dnS dn p)) := (p_done_loop (N := N) (dn2 := dn) hp (fun _ _ => rfl) N 0 (by omega) (by omega)).1
  rw [bd1_eq e]
end
