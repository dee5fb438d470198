/-! BASE: combinators of the pure programs; contracts; rules for calls. My own text. -/
def nl {α β : Type} (e : α) (B : α → β) : β := B e
theorem nl_at {α β : Type} {e : α} {B : α → Option β} {r : β} (h : nl e B = some r) {x : α} (hx : x = e) : B x = some r := by
  subst hx
  exact h
theorem nl_rf {α β : Type} {e : α} {B : α → Option β} {r : β} (h : nl e B = some r) : B e = some r := h
def gd {β : Type} (b : Bool) (X : Option β) : Option β := match b with
  | true => X
  | false => none
theorem gd_l {β : Type} {b : Bool} {X : Option β} {r : β} (h : gd b X = some r) : b = true := by
  cases b
  · cases h
  · rfl
theorem gd_r {β : Type} {b : Bool} {X : Option β} {r : β} (h : gd b X = some r) : X = some r := by
  cases b
  · cases h
  · exact h
theorem gd_t {β : Type} {b : Bool} {X : Option β} (h : b = true) : gd b X = X := by
  subst h
  rfl
theorem it_t {β : Type} {p : Prop} {ins : Decidable p} {X Y : Option β} {r : β} (h : @ite (Option β) p ins X Y = some r) (hp : p) : X = some r := by
  rw [if_pos hp] at h
  exact h
theorem it_f {β : Type} {p : Prop} {ins : Decidable p} {X Y : Option β} {r : β} (h : @ite (Option β) p ins X Y = some r) (hp : ¬ p) : Y = some r := by
  rw [if_neg hp] at h
  exact h
def ix (i : Int32) (n : Nat) : Bool := decide (0 ≤ i.toInt ∧ i.toInt < (n : Int))
theorem ix_in {i : Int32} {n : Nat} (h : ix i n = true) : vp_in i n := vp_in_iff.mpr (of_decide_eq_true h)
theorem in_ix {i : Int32} {n : Nat} (h : vp_in i n) : ix i n = true := decide_eq_true (vp_in_iff.mp h)
def nz (i : Int32) : Bool := decide (¬ i = 0)
theorem nz_ne {i : Int32} (h : nz i = true) : ¬ i = 0 := of_decide_eq_true h
def bz (v : Int32) : Bool := decide (v = 0 ∨ v = 1)
theorem bz_nar {v : Int32} (h : bz v = true) : narrow .boolean (.int v) = .int v := by
  rcases (of_decide_eq_true h : v = 0 ∨ v = 1) with q | q <;> (subst q; decide)
theorem lc_gt (x y : Int64) : 0 < lg_cmp x y ↔ y < x := by
  unfold lg_cmp
  by_cases h : y < x
  · simp [h]
  · by_cases h2 : x = y <;> simp [h, h2]
theorem lc_ge (x y : Int64) : 0 ≤ lg_cmp x y ↔ y ≤ x := by
  unfold lg_cmp
  by_cases h : y < x
  · simp [h, Int64.le_of_lt h]
  · by_cases h2 : x = y
    · subst h2; simp
    · have h3 : ¬ y ≤ x := fun q => by
        rw [Int64.lt_iff_toInt_lt] at h
        rw [Int64.le_iff_toInt_le] at q
        exact h2 (Int64.toInt_inj.mp (by omega))
      simp [h, h2, h3]
theorem lc_lt (x y : Int64) : lg_cmp x y < 0 ↔ x < y := by
  unfold lg_cmp
  by_cases h : y < x
  · have h3 : ¬ x < y := fun q => by
      rw [Int64.lt_iff_toInt_lt] at h q
      omega
    simp [h, h3]
  · by_cases h2 : x = y
    · subst h2; simp
    · have h3 : x < y := by
        rw [Int64.lt_iff_toInt_lt] at h ⊢
        have : x.toInt ≠ y.toInt := fun q => h2 (Int64.toInt_inj.mp q)
        omega
      simp [h, h2, h3]
theorem lc_le (x y : Int64) : lg_cmp x y ≤ 0 ↔ x ≤ y := by
  unfold lg_cmp
  by_cases h : y < x
  · have h3 : ¬ x ≤ y := fun q => by
      rw [Int64.lt_iff_toInt_lt] at h
      rw [Int64.le_iff_toInt_le] at q
      omega
    simp [h, h3]
  · have h3 : x ≤ y := by
      rw [Int64.lt_iff_toInt_lt] at h
      rw [Int64.le_iff_toInt_le]
      omega
    by_cases h2 : x = y
    · subst h2; simp
    · simp [h, h2, h3]

def bd1 {A1 γ : Type} (x : Option (A1)) (B : A1 → Option γ) : Option γ := match x with
  | some a1 => B a1
  | none => none
theorem bd1_ob {A1 γ : Type} {x : Option (A1)} {B : A1 → Option γ} {r : γ} (h : bd1 x B = some r) : ∃ a1, x = some a1 ∧ B a1 = some r := by
  cases x with
  | none => cases h
  | some u =>
    have a1 := 0
    exact ⟨u, rfl, h⟩
theorem bd1_eq {A1 γ : Type} {x : Option (A1)} {B : A1 → Option γ} {a1 : A1} (h : x = some a1) : bd1 x B = B a1 := by
  subst h
  rfl
def bd2 {A1 A2 γ : Type} (x : Option (A1 × A2)) (B : A1 → A2 → Option γ) : Option γ := match x with
  | some (a1, a2) => B a1 a2
  | none => none
theorem bd2_ob {A1 A2 γ : Type} {x : Option (A1 × A2)} {B : A1 → A2 → Option γ} {r : γ} (h : bd2 x B = some r) : ∃ a1 a2, x = some (a1, a2) ∧ B a1 a2 = some r := by
  cases x with
  | none => cases h
  | some u =>
    obtain ⟨a1, a2⟩ := u
    exact ⟨a1, a2, rfl, h⟩
theorem bd2_eq {A1 A2 γ : Type} {x : Option (A1 × A2)} {B : A1 → A2 → Option γ} {a1 : A1} {a2 : A2} (h : x = some (a1, a2)) : bd2 x B = B a1 a2 := by
  subst h
  rfl
def bd3 {A1 A2 A3 γ : Type} (x : Option (A1 × A2 × A3)) (B : A1 → A2 → A3 → Option γ) : Option γ := match x with
  | some (a1, a2, a3) => B a1 a2 a3
  | none => none
theorem bd3_ob {A1 A2 A3 γ : Type} {x : Option (A1 × A2 × A3)} {B : A1 → A2 → A3 → Option γ} {r : γ} (h : bd3 x B = some r) : ∃ a1 a2 a3, x = some (a1, a2, a3) ∧ B a1 a2 a3 = some r := by
  cases x with
  | none => cases h
  | some u =>
    obtain ⟨a1, a2, a3⟩ := u
    exact ⟨a1, a2, a3, rfl, h⟩
theorem bd3_eq {A1 A2 A3 γ : Type} {x : Option (A1 × A2 × A3)} {B : A1 → A2 → A3 → Option γ} {a1 : A1} {a2 : A2} {a3 : A3} (h : x = some (a1, a2, a3)) : bd3 x B = B a1 a2 a3 := by
  subst h
  rfl
def bd4 {A1 A2 A3 A4 γ : Type} (x : Option (A1 × A2 × A3 × A4)) (B : A1 → A2 → A3 → A4 → Option γ) : Option γ := match x with
  | some (a1, a2, a3, a4) => B a1 a2 a3 a4
  | none => none
theorem bd4_ob {A1 A2 A3 A4 γ : Type} {x : Option (A1 × A2 × A3 × A4)} {B : A1 → A2 → A3 → A4 → Option γ} {r : γ} (h : bd4 x B = some r) : ∃ a1 a2 a3 a4, x = some (a1, a2, a3, a4) ∧ B a1 a2 a3 a4 = some r := by
  cases x with
  | none => cases h
  | some u =>
    obtain ⟨a1, a2, a3, a4⟩ := u
    exact ⟨a1, a2, a3, a4, rfl, h⟩
theorem bd4_eq {A1 A2 A3 A4 γ : Type} {x : Option (A1 × A2 × A3 × A4)} {B : A1 → A2 → A3 → A4 → Option γ} {a1 : A1} {a2 : A2} {a3 : A3} {a4 : A4} (h : x = some (a1, a2, a3, a4)) : bd4 x B = B a1 a2 a3 a4 := by
  subst h
  rfl
def bd5 {A1 A2 A3 A4 A5 γ : Type} (x : Option (A1 × A2 × A3 × A4 × A5)) (B : A1 → A2 → A3 → A4 → A5 → Option γ) : Option γ := match x with
  | some (a1, a2, a3, a4, a5) => B a1 a2 a3 a4 a5
  | none => none
theorem bd5_ob {A1 A2 A3 A4 A5 γ : Type} {x : Option (A1 × A2 × A3 × A4 × A5)} {B : A1 → A2 → A3 → A4 → A5 → Option γ} {r : γ} (h : bd5 x B = some r) : ∃ a1 a2 a3 a4 a5, x = some (a1, a2, a3, a4, a5) ∧ B a1 a2 a3 a4 a5 = some r := by
  cases x with
  | none => cases h
  | some u =>
    obtain ⟨a1, a2, a3, a4, a5⟩ := u
    exact ⟨a1, a2, a3, a4, a5, rfl, h⟩
theorem bd5_eq {A1 A2 A3 A4 A5 γ : Type} {x : Option (A1 × A2 × A3 × A4 × A5)} {B : A1 → A2 → A3 → A4 → A5 → Option γ} {a1 : A1} {a2 : A2} {a3 : A3} {a4 : A4} {a5 : A5} (h : x = some (a1, a2, a3, a4, a5)) : bd5 x B = B a1 a2 a3 a4 a5 := by
  subst h
  rfl
def bd6 {A1 A2 A3 A4 A5 A6 γ : Type} (x : Option (A1 × A2 × A3 × A4 × A5 × A6)) (B : A1 → A2 → A3 → A4 → A5 → A6 → Option γ) : Option γ := match x with
  | some (a1, a2, a3, a4, a5, a6) => B a1 a2 a3 a4 a5 a6
  | none => none
theorem bd6_ob {A1 A2 A3 A4 A5 A6 γ : Type} {x : Option (A1 × A2 × A3 × A4 × A5 × A6)} {B : A1 → A2 → A3 → A4 → A5 → A6 → Option γ} {r : γ} (h : bd6 x B = some r) : ∃ a1 a2 a3 a4 a5 a6, x = some (a1, a2, a3, a4, a5, a6) ∧ B a1 a2 a3 a4 a5 a6 = some r := by
  cases x with
  | none => cases h
  | some u =>
    obtain ⟨a1, a2, a3, a4, a5, a6⟩ := u
    exact ⟨a1, a2, a3, a4, a5, a6, rfl, h⟩
theorem bd6_eq {A1 A2 A3 A4 A5 A6 γ : Type} {x : Option (A1 × A2 × A3 × A4 × A5 × A6)} {B : A1 → A2 → A3 → A4 → A5 → A6 → Option γ} {a1 : A1} {a2 : A2} {a3 : A3} {a4 : A4} {a5 : A5} {a6 : A6} (h : x = some (a1, a2, a3, a4, a5, a6)) : bd6 x B = B a1 a2 a3 a4 a5 a6 := by
  subst h
  rfl
def bd7 {A1 A2 A3 A4 A5 A6 A7 γ : Type} (x : Option (A1 × A2 × A3 × A4 × A5 × A6 × A7)) (B : A1 → A2 → A3 → A4 → A5 → A6 → A7 → Option γ) : Option γ := match x with
  | some (a1, a2, a3, a4, a5, a6, a7) => B a1 a2 a3 a4 a5 a6 a7
  | none => none
theorem bd7_ob {A1 A2 A3 A4 A5 A6 A7 γ : Type} {x : Option (A1 × A2 × A3 × A4 × A5 × A6 × A7)} {B : A1 → A2 → A3 → A4 → A5 → A6 → A7 → Option γ} {r : γ} (h : bd7 x B = some r) : ∃ a1 a2 a3 a4 a5 a6 a7, x = some (a1, a2, a3, a4, a5, a6, a7) ∧ B a1 a2 a3 a4 a5 a6 a7 = some r := by
  cases x with
  | none => cases h
  | some u =>
    obtain ⟨a1, a2, a3, a4, a5, a6, a7⟩ := u
    exact ⟨a1, a2, a3, a4, a5, a6, a7, rfl, h⟩
theorem bd7_eq {A1 A2 A3 A4 A5 A6 A7 γ : Type} {x : Option (A1 × A2 × A3 × A4 × A5 × A6 × A7)} {B : A1 → A2 → A3 → A4 → A5 → A6 → A7 → Option γ} {a1 : A1} {a2 : A2} {a3 : A3} {a4 : A4} {a5 : A5} {a6 : A6} {a7 : A7} (h : x = some (a1, a2, a3, a4, a5, a6, a7)) : bd7 x B = B a1 a2 a3 a4 a5 a6 a7 := by
  subst h
  rfl
def bd8 {A1 A2 A3 A4 A5 A6 A7 A8 γ : Type} (x : Option (A1 × A2 × A3 × A4 × A5 × A6 × A7 × A8)) (B : A1 → A2 → A3 → A4 → A5 → A6 → A7 → A8 → Option γ) : Option γ := match x with
  | some (a1, a2, a3, a4, a5, a6, a7, a8) => B a1 a2 a3 a4 a5 a6 a7 a8
  | none => none
theorem bd8_ob {A1 A2 A3 A4 A5 A6 A7 A8 γ : Type} {x : Option (A1 × A2 × A3 × A4 × A5 × A6 × A7 × A8)} {B : A1 → A2 → A3 → A4 → A5 → A6 → A7 → A8 → Option γ} {r : γ} (h : bd8 x B = some r) : ∃ a1 a2 a3 a4 a5 a6 a7 a8, x = some (a1, a2, a3, a4, a5, a6, a7, a8) ∧ B a1 a2 a3 a4 a5 a6 a7 a8 = some r := by
  cases x with
  | none => cases h
  | some u =>
    obtain ⟨a1, a2, a3, a4, a5, a6, a7, a8⟩ := u
    exact ⟨a1, a2, a3, a4, a5, a6, a7, a8, rfl, h⟩
theorem bd8_eq {A1 A2 A3 A4 A5 A6 A7 A8 γ : Type} {x : Option (A1 × A2 × A3 × A4 × A5 × A6 × A7 × A8)} {B : A1 → A2 → A3 → A4 → A5 → A6 → A7 → A8 → Option γ} {a1 : A1} {a2 : A2} {a3 : A3} {a4 : A4} {a5 : A5} {a6 : A6} {a7 : A7} {a8 : A8} (h : x = some (a1, a2, a3, a4, a5, a6, a7, a8)) : bd8 x B = B a1 a2 a3 a4 a5 a6 a7 a8 := by
  subst h
  rfl
def bd9 {A1 A2 A3 A4 A5 A6 A7 A8 A9 γ : Type} (x : Option (A1 × A2 × A3 × A4 × A5 × A6 × A7 × A8 × A9)) (B : A1 → A2 → A3 → A4 → A5 → A6 → A7 → A8 → A9 → Option γ) : Option γ := match x with
  | some (a1, a2, a3, a4, a5, a6, a7, a8, a9) => B a1 a2 a3 a4 a5 a6 a7 a8 a9
  | none => none
theorem bd9_ob {A1 A2 A3 A4 A5 A6 A7 A8 A9 γ : Type} {x : Option (A1 × A2 × A3 × A4 × A5 × A6 × A7 × A8 × A9)} {B : A1 → A2 → A3 → A4 → A5 → A6 → A7 → A8 → A9 → Option γ} {r : γ} (h : bd9 x B = some r) : ∃ a1 a2 a3 a4 a5 a6 a7 a8 a9, x = some (a1, a2, a3, a4, a5, a6, a7, a8, a9) ∧ B a1 a2 a3 a4 a5 a6 a7 a8 a9 = some r := by
  cases x with
  | none => cases h
  | some u =>
    obtain ⟨a1, a2, a3, a4, a5, a6, a7, a8, a9⟩ := u
    exact ⟨a1, a2, a3, a4, a5, a6, a7, a8, a9, rfl, h⟩
theorem bd9_eq {A1 A2 A3 A4 A5 A6 A7 A8 A9 γ : Type} {x : Option (A1 × A2 × A3 × A4 × A5 × A6 × A7 × A8 × A9)} {B : A1 → A2 → A3 → A4 → A5 → A6 → A7 → A8 → A9 → Option γ} {a1 : A1} {a2 : A2} {a3 : A3} {a4 : A4} {a5 : A5} {a6 : A6} {a7 : A7} {a8 : A8} {a9 : A9} (h : x = some (a1, a2, a3, a4, a5, a6, a7, a8, a9)) : bd9 x B = B a1 a2 a3 a4 a5 a6 a7 a8 a9 := by
  subst h
  rfl
def bd10 {A1 A2 A3 A4 A5 A6 A7 A8 A9 A10 γ : Type} (x : Option (A1 × A2 × A3 × A4 × A5 × A6 × A7 × A8 × A9 × A10)) (B : A1 → A2 → A3 → A4 → A5 → A6 → A7 → A8 → A9 → A10 → Option γ) : Option γ := match x with
  | some (a1, a2, a3, a4, a5, a6, a7, a8, a9, a10) => B a1 a2 a3 a4 a5 a6 a7 a8 a9 a10
  | none => none
theorem bd10_ob {A1 A2 A3 A4 A5 A6 A7 A8 A9 A10 γ : Type} {x : Option (A1 × A2 × A3 × A4 × A5 × A6 × A7 × A8 × A9 × A10)} {B : A1 → A2 → A3 → A4 → A5 → A6 → A7 → A8 → A9 → A10 → Option γ} {r : γ} (h : bd10 x B = some r) : ∃ a1 a2 a3 a4 a5 a6 a7 a8 a9 a10, x = some (a1, a2, a3, a4, a5, a6, a7, a8, a9, a10) ∧ B a1 a2 a3 a4 a5 a6 a7 a8 a9 a10 = some r := by
  cases x with
  | none => cases h
  | some u =>
    obtain ⟨a1, a2, a3, a4, a5, a6, a7, a8, a9, a10⟩ := u
    exact ⟨a1, a2, a3, a4, a5, a6, a7, a8, a9, a10, rfl, h⟩
theorem bd10_eq {A1 A2 A3 A4 A5 A6 A7 A8 A9 A10 γ : Type} {x : Option (A1 × A2 × A3 × A4 × A5 × A6 × A7 × A8 × A9 × A10)} {B : A1 → A2 → A3 → A4 → A5 → A6 → A7 → A8 → A9 → A10 → Option γ} {a1 : A1} {a2 : A2} {a3 : A3} {a4 : A4} {a5 : A5} {a6 : A6} {a7 : A7} {a8 : A8} {a9 : A9} {a10 : A10} (h : x = some (a1, a2, a3, a4, a5, a6, a7, a8, a9, a10)) : bd10 x B = B a1 a2 a3 a4 a5 a6 a7 a8 a9 a10 := by
  subst h
  rfl
def bd11 {A1 A2 A3 A4 A5 A6 A7 A8 A9 A10 A11 γ : Type} (x : Option (A1 × A2 × A3 × A4 × A5 × A6 × A7 × A8 × A9 × A10 × A11)) (B : A1 → A2 → A3 → A4 → A5 → A6 → A7 → A8 → A9 → A10 → A11 → Option γ) : Option γ := match x with
  | some (a1, a2, a3, a4, a5, a6, a7, a8, a9, a10, a11) => B a1 a2 a3 a4 a5 a6 a7 a8 a9 a10 a11
  | none => none
theorem bd11_ob {A1 A2 A3 A4 A5 A6 A7 A8 A9 A10 A11 γ : Type} {x : Option (A1 × A2 × A3 × A4 × A5 × A6 × A7 × A8 × A9 × A10 × A11)} {B : A1 → A2 → A3 → A4 → A5 → A6 → A7 → A8 → A9 → A10 → A11 → Option γ} {r : γ} (h : bd11 x B = some r) : ∃ a1 a2 a3 a4 a5 a6 a7 a8 a9 a10 a11, x = some (a1, a2, a3, a4, a5, a6, a7, a8, a9, a10, a11) ∧ B a1 a2 a3 a4 a5 a6 a7 a8 a9 a10 a11 = some r := by
  cases x with
  | none => cases h
  | some u =>
    obtain ⟨a1, a2, a3, a4, a5, a6, a7, a8, a9, a10, a11⟩ := u
    exact ⟨a1, a2, a3, a4, a5, a6, a7, a8, a9, a10, a11, rfl, h⟩
theorem bd11_eq {A1 A2 A3 A4 A5 A6 A7 A8 A9 A10 A11 γ : Type} {x : Option (A1 × A2 × A3 × A4 × A5 × A6 × A7 × A8 × A9 × A10 × A11)} {B : A1 → A2 → A3 → A4 → A5 → A6 → A7 → A8 → A9 → A10 → A11 → Option γ} {a1 : A1} {a2 : A2} {a3 : A3} {a4 : A4} {a5 : A5} {a6 : A6} {a7 : A7} {a8 : A8} {a9 : A9} {a10 : A10} {a11 : A11} (h : x = some (a1, a2, a3, a4, a5, a6, a7, a8, a9, a10, a11)) : bd11 x B = B a1 a2 a3 a4 a5 a6 a7 a8 a9 a10 a11 := by
  subst h
  rfl
def bd12 {A1 A2 A3 A4 A5 A6 A7 A8 A9 A10 A11 A12 γ : Type} (x : Option (A1 × A2 × A3 × A4 × A5 × A6 × A7 × A8 × A9 × A10 × A11 × A12)) (B : A1 → A2 → A3 → A4 → A5 → A6 → A7 → A8 → A9 → A10 → A11 → A12 → Option γ) : Option γ := match x with
  | some (a1, a2, a3, a4, a5, a6, a7, a8, a9, a10, a11, a12) => B a1 a2 a3 a4 a5 a6 a7 a8 a9 a10 a11 a12
  | none => none
theorem bd12_ob {A1 A2 A3 A4 A5 A6 A7 A8 A9 A10 A11 A12 γ : Type} {x : Option (A1 × A2 × A3 × A4 × A5 × A6 × A7 × A8 × A9 × A10 × A11 × A12)} {B : A1 → A2 → A3 → A4 → A5 → A6 → A7 → A8 → A9 → A10 → A11 → A12 → Option γ} {r : γ} (h : bd12 x B = some r) : ∃ a1 a2 a3 a4 a5 a6 a7 a8 a9 a10 a11 a12, x = some (a1, a2, a3, a4, a5, a6, a7, a8, a9, a10, a11, a12) ∧ B a1 a2 a3 a4 a5 a6 a7 a8 a9 a10 a11 a12 = some r := by
  cases x with
  | none => cases h
  | some u =>
    obtain ⟨a1, a2, a3, a4, a5, a6, a7, a8, a9, a10, a11, a12⟩ := u
    exact ⟨a1, a2, a3, a4, a5, a6, a7, a8, a9, a10, a11, a12, rfl, h⟩
theorem bd12_eq {A1 A2 A3 A4 A5 A6 A7 A8 A9 A10 A11 A12 γ : Type} {x : Option (A1 × A2 × A3 × A4 × A5 × A6 × A7 × A8 × A9 × A10 × A11 × A12)} {B : A1 → A2 → A3 → A4 → A5 → A6 → A7 → A8 → A9 → A10 → A11 → A12 → Option γ} {a1 : A1} {a2 : A2} {a3 : A3} {a4 : A4} {a5 : A5} {a6 : A6} {a7 : A7} {a8 : A8} {a9 : A9} {a10 : A10} {a11 : A11} {a12 : A12} (h : x = some (a1, a2, a3, a4, a5, a6, a7, a8, a9, a10, a11, a12)) : bd12 x B = B a1 a2 a3 a4 a5 a6 a7 a8 a9 a10 a11 a12 := by
  subst h
  rfl
def bd13 {A1 A2 A3 A4 A5 A6 A7 A8 A9 A10 A11 A12 A13 γ : Type} (x : Option (A1 × A2 × A3 × A4 × A5 × A6 × A7 × A8 × A9 × A10 × A11 × A12 × A13)) (B : A1 → A2 → A3 → A4 → A5 → A6 → A7 → A8 → A9 → A10 → A11 → A12 → A13 → Option γ) : Option γ := match x with
  | some (a1, a2, a3, a4, a5, a6, a7, a8, a9, a10, a11, a12, a13) => B a1 a2 a3 a4 a5 a6 a7 a8 a9 a10 a11 a12 a13
  | none => none
theorem bd13_ob {A1 A2 A3 A4 A5 A6 A7 A8 A9 A10 A11 A12 A13 γ : Type} {x : Option (A1 × A2 × A3 × A4 × A5 × A6 × A7 × A8 × A9 × A10 × A11 × A12 × A13)} {B : A1 → A2 → A3 → A4 → A5 → A6 → A7 → A8 → A9 → A10 → A11 → A12 → A13 → Option γ} {r : γ} (h : bd13 x B = some r) : ∃ a1 a2 a3 a4 a5 a6 a7 a8 a9 a10 a11 a12 a13, x = some (a1, a2, a3, a4, a5, a6, a7, a8, a9, a10, a11, a12, a13) ∧ B a1 a2 a3 a4 a5 a6 a7 a8 a9 a10 a11 a12 a13 = some r := by
  cases x with
  | none => cases h
  | some u =>
    obtain ⟨a1, a2, a3, a4, a5, a6, a7, a8, a9, a10, a11, a12, a13⟩ := u
    exact ⟨a1, a2, a3, a4, a5, a6, a7, a8, a9, a10, a11, a12, a13, rfl, h⟩
theorem bd13_eq {A1 A2 A3 A4 A5 A6 A7 A8 A9 A10 A11 A12 A13 γ : Type} {x : Option (A1 × A2 × A3 × A4 × A5 × A6 × A7 × A8 × A9 × A10 × A11 × A12 × A13)} {B : A1 → A2 → A3 → A4 → A5 → A6 → A7 → A8 → A9 → A10 → A11 → A12 → A13 → Option γ} {a1 : A1} {a2 : A2} {a3 : A3} {a4 : A4} {a5 : A5} {a6 : A6} {a7 : A7} {a8 : A8} {a9 : A9} {a10 : A10} {a11 : A11} {a12 : A12} {a13 : A13} (h : x = some (a1, a2, a3, a4, a5, a6, a7, a8, a9, a10, a11, a12, a13)) : bd13 x B = B a1 a2 a3 a4 a5 a6 a7 a8 a9 a10 a11 a12 a13 := by
  subst h
  rfl
def bd14 {A1 A2 A3 A4 A5 A6 A7 A8 A9 A10 A11 A12 A13 A14 γ : Type} (x : Option (A1 × A2 × A3 × A4 × A5 × A6 × A7 × A8 × A9 × A10 × A11 × A12 × A13 × A14)) (B : A1 → A2 → A3 → A4 → A5 → A6 → A7 → A8 → A9 → A10 → A11 → A12 → A13 → A14 → Option γ) : Option γ := match x with
  | some (a1, a2, a3, a4, a5, a6, a7, a8, a9, a10, a11, a12, a13, a14) => B a1 a2 a3 a4 a5 a6 a7 a8 a9 a10 a11 a12 a13 a14
  | none => none
theorem bd14_ob {A1 A2 A3 A4 A5 A6 A7 A8 A9 A10 A11 A12 A13 A14 γ : Type} {x : Option (A1 × A2 × A3 × A4 × A5 × A6 × A7 × A8 × A9 × A10 × A11 × A12 × A13 × A14)} {B : A1 → A2 → A3 → A4 → A5 → A6 → A7 → A8 → A9 → A10 → A11 → A12 → A13 → A14 → Option γ} {r : γ} (h : bd14 x B = some r) : ∃ a1 a2 a3 a4 a5 a6 a7 a8 a9 a10 a11 a12 a13 a14, x = some (a1, a2, a3, a4, a5, a6, a7, a8, a9, a10, a11, a12, a13, a14) ∧ B a1 a2 a3 a4 a5 a6 a7 a8 a9 a10 a11 a12 a13 a14 = some r := by
  cases x with
  | none => cases h
  | some u =>
    obtain ⟨a1, a2, a3, a4, a5, a6, a7, a8, a9, a10, a11, a12, a13, a14⟩ := u
    exact ⟨a1, a2, a3, a4, a5, a6, a7, a8, a9, a10, a11, a12, a13, a14, rfl, h⟩
theorem bd14_eq {A1 A2 A3 A4 A5 A6 A7 A8 A9 A10 A11 A12 A13 A14 γ : Type} {x : Option (A1 × A2 × A3 × A4 × A5 × A6 × A7 × A8 × A9 × A10 × A11 × A12 × A13 × A14)} {B : A1 → A2 → A3 → A4 → A5 → A6 → A7 → A8 → A9 → A10 → A11 → A12 → A13 → A14 → Option γ} {a1 : A1} {a2 : A2} {a3 : A3} {a4 : A4} {a5 : A5} {a6 : A6} {a7 : A7} {a8 : A8} {a9 : A9} {a10 : A10} {a11 : A11} {a12 : A12} {a13 : A13} {a14 : A14} (h : x = some (a1, a2, a3, a4, a5, a6, a7, a8, a9, a10, a11, a12, a13, a14)) : bd14 x B = B a1 a2 a3 a4 a5 a6 a7 a8 a9 a10 a11 a12 a13 a14 := by
  subst h
  rfl
