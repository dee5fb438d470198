section
/-! BASE: combinators of the pure programs; contracts; rules for calls. My own text. -/
def nl {α β : Type} (e : α) (B : α → β) : β := B e
theorem nl_at {α β : Type} {e : α} {B : α → Option β} {r : β} (h : nl e B = some r) {x : α} (hx : x = e) : B x = some r := by
  subst hx
  exact h
theorem nl_rf {α β : Type} {e : α} {B : α → Option β} {r : β} (h : nl e B = some r) : B e = some r := h
def gd {β : Type} (b : Bool) (X : Option β) : Option β := match b with
  | true => X
  | false => none
theorem gd_l {β : Type} {b : Bool} {X : Option β} {r : β} (h : gd b X = some r) : b = true := by
  cases b
  · cases h
  · rfl
theorem gd_r {β : Type} {b : Bool} {X : Option β} {r : β} (h : gd b X = some r) : X = some r := by
  cases b
  · cases h
  · exact h
theorem gd_t {β : Type} {b : Bool} {X : Option β} (h : b = true) : gd b X = X := by
  subst h
  rfl
theorem it_t {β : Type} {p : Prop} {ins : Decidable p} {X Y : Option β} {r : β} (h : @ite (Option β) p ins X Y = some r) (hp : p) : X = some r := by
  rw [if_pos hp] at h
  exact h
theorem it_f {β : Type} {p : Prop} {ins : Decidable p} {X Y : Option β} {r : β} (h : @ite (Option β) p ins X Y = some r) (hp : ¬ p) : Y = some r := by
  rw [if_neg hp] at h
  exact h
def ix (i : Int32) (n : Nat) : Bool := decide (¬ (i < 0 ∨ n ≤ i.toNatClampNeg))
theorem ix_in {i : Int32} {n : Nat} (h : ix i n = true) : vp_in i n := of_decide_eq_true (p := ¬ (i < 0 ∨ n ≤ i.toNatClampNeg)) h
theorem in_ix {i : Int32} {n : Nat} (h : vp_in i n) : ix i n = true := decide_eq_true (p := ¬ (i < 0 ∨ n ≤ i.toNatClampNeg)) h
def nz (i : Int32) : Bool := decide (¬ i = 0)
theorem nz_ne {i : Int32} (h : nz i = true) : ¬ i = 0 := of_decide_eq_true h
def bz (v : Int32) : Bool := decide (v = 0 ∨ v = 1)
theorem bz_nar {v : Int32} (h : bz v = true) : narrow .boolean (.int v) = .int v := by
  rcases (of_decide_eq_true h : v = 0 ∨ v = 1) with q | q <;> (subst q; decide)
theorem lc_gt (x y : Int64) : 0 < lg_cmp x y ↔ y < x := by
  unfold lg_cmp
  by_cases h : y < x
  · simp [h]
  · by_cases h2 : x = y <;> simp [h, h2]
theorem lc_ge (x y : Int64) : 0 ≤ lg_cmp x y ↔ y ≤ x := by
  unfold lg_cmp
  by_cases h : y < x
  · simp [h, Int64.le_of_lt h]
  · by_cases h2 : x = y
    · subst h2; simp
    · have h3 : ¬ y ≤ x := fun q => by
        rw [Int64.lt_iff_toInt_lt] at h
        rw [Int64.le_iff_toInt_le] at q
        exact h2 (Int64.toInt_inj.mp (by omega))
      simp [h, h2, h3]
theorem lc_lt (x y : Int64) : lg_cmp x y < 0 ↔ x < y := by
  unfold lg_cmp
  by_cases h : y < x
  · have h3 : ¬ x < y := fun q => by
      rw [Int64.lt_iff_toInt_lt] at h q
      omega
    simp [h, h3]
  · by_cases h2 : x = y
    · subst h2; simp
    · have h3 : x < y := by
        rw [Int64.lt_iff_toInt_lt] at h ⊢
        have : x.toInt ≠ y.toInt := fun q => h2 (Int64.toInt_inj.mp q)
        omega
      simp [h, h2, h3]
theorem lc_le (x y : Int64) : lg_cmp x y ≤ 0 ↔ x ≤ y := by
  unfold lg_cmp
  by_cases h : y < x
  · have h3 : ¬ x ≤ y := fun q => by
      rw [Int64.lt_iff_toInt_lt] at h
      rw [Int64.le_iff_toInt_le] at q
      omega
    simp [h, h3]
  · have h3 : x ≤ y := by
      rw [Int64.lt_iff_toInt_lt] at h
      rw [Int64.le_iff_toInt_le]
      omega
    by_cases h2 : x = y
    · subst h2; simp
    · simp [h, h2, h3]

def bd1 {A1 γ : Type} (x : Option (A1)) (B : A1 → Option γ) : Option γ := match x with
  | some a1 => B a1
  | none => none
theorem bd1_ob {A1 γ : Type} {x : Option (A1)} {B : A1 → Option γ} {r : γ} (h : bd1 x B = some r) : ∃ a1, x = some a1 ∧ B a1 = some r := by
  cases x with
  | none => cases h
  | some u =>
    have a1 := 0
    exact ⟨u, rfl, h⟩
theorem bd1_eq {A1 γ : Type} {x : Option (A1)} {B : A1 → Option γ} {a1 : A1} (h : x = some a1) : bd1 x B = B a1 := by
  subst h
  rfl
def bd2 {A1 A2 γ : Type} (x : Option (A1 × A2)) (B : A1 → A2 → Option γ) : Option γ := match x with
  | some (a1, a2) => B a1 a2
  | none => none
theorem bd2_ob {A1 A2 γ : Type} {x : Option (A1 × A2)} {B : A1 → A2 → Option γ} {r : γ} (h : bd2 x B = some r) : ∃ a1 a2, x = some (a1, a2) ∧ B a1 a2 = some r := by
  cases x with
  | none => cases h
  | some u =>
    obtain ⟨a1, a2⟩ := u
    exact ⟨a1, a2, rfl, h⟩
theorem bd2_eq {A1 A2 γ : Type} {x : Option (A1 × A2)} {B : A1 → A2 → Option γ} {a1 : A1} {a2 : A2} (h : x = some (a1, a2)) : bd2 x B = B a1 a2 := by
  subst h
  rfl
def bd3 {A1 A2 A3 γ : Type} (x : Option (A1 × A2 × A3)) (B : A1 → A2 → A3 → Option γ) : Option γ := match x with
  | some (a1, a2, a3) => B a1 a2 a3
  | none => none
theorem bd3_ob {A1 A2 A3 γ : Type} {x : Option (A1 × A2 × A3)} {B : A1 → A2 → A3 → Option γ} {r : γ} (h : bd3 x B = some r) : ∃ a1 a2 a3, x = some (a1, a2, a3) ∧ B a1 a2 a3 = some r := by
  cases x with
  | none => cases h
  | some u =>
    obtain ⟨a1, a2, a3⟩ := u
    exact ⟨a1, a2, a3, rfl, h⟩
theorem bd3_eq {A1 A2 A3 γ : Type} {x : Option (A1 × A2 × A3)} {B : A1 → A2 → A3 → Option γ} {a1 : A1} {a2 : A2} {a3 : A3} (h : x = some (a1, a2, a3)) : bd3 x B = B a1 a2 a3 := by
  subst h
  rfl
def bd4 {A1 A2 A3 A4 γ : Type} (x : Option (A1 × A2 × A3 × A4)) (B : A1 → A2 → A3 → A4 → Option γ) : Option γ := match x with
  | some (a1, a2, a3, a4) => B a1 a2 a3 a4
  | none => none
theorem bd4_ob {A1 A2 A3 A4 γ : Type} {x : Option (A1 × A2 × A3 × A4)} {B : A1 → A2 → A3 → A4 → Option γ} {r : γ} (h : bd4 x B = some r) : ∃ a1 a2 a3 a4, x = some (a1, a2, a3, a4) ∧ B a1 a2 a3 a4 = some r := by
  cases x with
  | none => cases h
  | some u =>
    obtain ⟨a1, a2, a3, a4⟩ := u
    exact ⟨a1, a2, a3, a4, rfl, h⟩
theorem bd4_eq {A1 A2 A3 A4 γ : Type} {x : Option (A1 × A2 × A3 × A4)} {B : A1 → A2 → A3 → A4 → Option γ} {a1 : A1} {a2 : A2} {a3 : A3} {a4 : A4} (h : x = some (a1, a2, a3, a4)) : bd4 x B = B a1 a2 a3 a4 := by
  subst h
  rfl
def bd5 {A1 A2 A3 A4 A5 γ : Type} (x : Option (A1 × A2 × A3 × A4 × A5)) (B : A1 → A2 → A3 → A4 → A5 → Option γ) : Option γ := match x with
  | some (a1, a2, a3, a4, a5) => B a1 a2 a3 a4 a5
  | none => none
theorem bd5_ob {A1 A2 A3 A4 A5 γ : Type} {x : Option (A1 × A2 × A3 × A4 × A5)} {B : A1 → A2 → A3 → A4 → A5 → Option γ} {r : γ} (h : bd5 x B = some r) : ∃ a1 a2 a3 a4 a5, x = some (a1, a2, a3, a4, a5) ∧ B a1 a2 a3 a4 a5 = some r := by
  cases x with
  | none => cases h
  | some u =>
    obtain ⟨a1, a2, a3, a4, a5⟩ := u
    exact ⟨a1, a2, a3, a4, a5, rfl, h⟩
theorem bd5_eq {A1 A2 A3 A4 A5 γ : Type} {x : Option (A1 × A2 × A3 × A4 × A5)} {B : A1 → A2 → A3 → A4 → A5 → Option γ} {a1 : A1} {a2 : A2} {a3 : A3} {a4 : A4} {a5 : A5} (h : x = some (a1, a2, a3, a4, a5)) : bd5 x B = B a1 a2 a3 a4 a5 := by
  subst h
  rfl
def bd6 {A1 A2 A3 A4 A5 A6 γ : Type} (x : Option (A1 × A2 × A3 × A4 × A5 × A6)) (B : A1 → A2 → A3 → A4 → A5 → A6 → Option γ) : Option γ := match x with
  | some (a1, a2, a3, a4, a5, a6) => B a1 a2 a3 a4 a5 a6
  | none => none
theorem bd6_ob {A1 A2 A3 A4 A5 A6 γ : Type} {x : Option (A1 × A2 × A3 × A4 × A5 × A6)} {B : A1 → A2 → A3 → A4 → A5 → A6 → Option γ} {r : γ} (h : bd6 x B = some r) : ∃ a1 a2 a3 a4 a5 a6, x = some (a1, a2, a3, a4, a5, a6) ∧ B a1 a2 a3 a4 a5 a6 = some r := by
  cases x with
  | none => cases h
  | some u =>
    obtain ⟨a1, a2, a3, a4, a5, a6⟩ := u
    exact ⟨a1, a2, a3, a4, a5, a6, rfl, h⟩
theorem bd6_eq {A1 A2 A3 A4 A5 A6 γ : Type} {x : Option (A1 × A2 × A3 × A4 × A5 × A6)} {B : A1 → A2 → A3 → A4 → A5 → A6 → Option γ} {a1 : A1} {a2 : A2} {a3 : A3} {a4 : A4} {a5 : A5} {a6 : A6} (h : x = some (a1, a2, a3, a4, a5, a6)) : bd6 x B = B a1 a2 a3 a4 a5 a6 := by
  subst h
  rfl
def bd7 {A1 A2 A3 A4 A5 A6 A7 γ : Type} (x : Option (A1 × A2 × A3 × A4 × A5 × A6 × A7)) (B : A1 → A2 → A3 → A4 → A5 → A6 → A7 → Option γ) : Option γ := match x with
  | some (a1, a2, a3, a4, a5, a6, a7) => B a1 a2 a3 a4 a5 a6 a7
  | none => none
theorem bd7_ob {A1 A2 A3 A4 A5 A6 A7 γ : Type} {x : Option (A1 × A2 × A3 × A4 × A5 × A6 × A7)} {B : A1 → A2 → A3 → A4 → A5 → A6 → A7 → Option γ} {r : γ} (h : bd7 x B = some r) : ∃ a1 a2 a3 a4 a5 a6 a7, x = some (a1, a2, a3, a4, a5, a6, a7) ∧ B a1 a2 a3 a4 a5 a6 a7 = some r := by
  cases x with
  | none => cases h
  | some u =>
    obtain ⟨a1, a2, a3, a4, a5, a6, a7⟩ := u
    exact ⟨a1, a2, a3, a4, a5, a6, a7, rfl, h⟩
theorem bd7_eq {A1 A2 A3 A4 A5 A6 A7 γ : Type} {x : Option (A1 × A2 × A3 × A4 × A5 × A6 × A7)} {B : A1 → A2 → A3 → A4 → A5 → A6 → A7 → Option γ} {a1 : A1} {a2 : A2} {a3 : A3} {a4 : A4} {a5 : A5} {a6 : A6} {a7 : A7} (h : x = some (a1, a2, a3, a4, a5, a6, a7)) : bd7 x B = B a1 a2 a3 a4 a5 a6 a7 := by
  subst h
  rfl
def bd8 {A1 A2 A3 A4 A5 A6 A7 A8 γ : Type} (x : Option (A1 × A2 × A3 × A4 × A5 × A6 × A7 × A8)) (B : A1 → A2 → A3 → A4 → A5 → A6 → A7 → A8 → Option γ) : Option γ := match x with
  | some (a1, a2, a3, a4, a5, a6, a7, a8) => B a1 a2 a3 a4 a5 a6 a7 a8
  | none => none
theorem bd8_ob {A1 A2 A3 A4 A5 A6 A7 A8 γ : Type} {x : Option (A1 × A2 × A3 × A4 × A5 × A6 × A7 × A8)} {B : A1 → A2 → A3 → A4 → A5 → A6 → A7 → A8 → Option γ} {r : γ} (h : bd8 x B = some r) : ∃ a1 a2 a3 a4 a5 a6 a7 a8, x = some (a1, a2, a3, a4, a5, a6, a7, a8) ∧ B a1 a2 a3 a4 a5 a6 a7 a8 = some r := by
  cases x with
  | none => cases h
  | some u =>
    obtain ⟨a1, a2, a3, a4, a5, a6, a7, a8⟩ := u
    exact ⟨a1, a2, a3, a4, a5, a6, a7, a8, rfl, h⟩
theorem bd8_eq {A1 A2 A3 A4 A5 A6 A7 A8 γ : Type} {x : Option (A1 × A2 × A3 × A4 × A5 × A6 × A7 × A8)} {B : A1 → A2 → A3 → A4 → A5 → A6 → A7 → A8 → Option γ} {a1 : A1} {a2 : A2} {a3 : A3} {a4 : A4} {a5 : A5} {a6 : A6} {a7 : A7} {a8 : A8} (h : x = some (a1, a2, a3, a4, a5, a6, a7, a8)) : bd8 x B = B a1 a2 a3 a4 a5 a6 a7 a8 := by
  subst h
  rfl
def bd9 {A1 A2 A3 A4 A5 A6 A7 A8 A9 γ : Type} (x : Option (A1 × A2 × A3 × A4 × A5 × A6 × A7 × A8 × A9)) (B : A1 → A2 → A3 → A4 → A5 → A6 → A7 → A8 → A9 → Option γ) : Option γ := match x with
  | some (a1, a2, a3, a4, a5, a6, a7, a8, a9) => B a1 a2 a3 a4 a5 a6 a7 a8 a9
  | none => none
theorem bd9_ob {A1 A2 A3 A4 A5 A6 A7 A8 A9 γ : Type} {x : Option (A1 × A2 × A3 × A4 × A5 × A6 × A7 × A8 × A9)} {B : A1 → A2 → A3 → A4 → A5 → A6 → A7 → A8 → A9 → Option γ} {r : γ} (h : bd9 x B = some r) : ∃ a1 a2 a3 a4 a5 a6 a7 a8 a9, x = some (a1, a2, a3, a4, a5, a6, a7, a8, a9) ∧ B a1 a2 a3 a4 a5 a6 a7 a8 a9 = some r := by
  cases x with
  | none => cases h
  | some u =>
    obtain ⟨a1, a2, a3, a4, a5, a6, a7, a8, a9⟩ := u
    exact ⟨a1, a2, a3, a4, a5, a6, a7, a8, a9, rfl, h⟩
theorem bd9_eq {A1 A2 A3 A4 A5 A6 A7 A8 A9 γ : Type} {x : Option (A1 × A2 × A3 × A4 × A5 × A6 × A7 × A8 × A9)} {B : A1 → A2 → A3 → A4 → A5 → A6 → A7 → A8 → A9 → Option γ} {a1 : A1} {a2 : A2} {a3 : A3} {a4 : A4} {a5 : A5} {a6 : A6} {a7 : A7} {a8 : A8} {a9 : A9} (h : x = some (a1, a2, a3, a4, a5, a6, a7, a8, a9)) : bd9 x B = B a1 a2 a3 a4 a5 a6 a7 a8 a9 := by
  subst h
  rfl
def bd10 {A1 A2 A3 A4 A5 A6 A7 A8 A9 A10 γ : Type} (x : Option (A1 × A2 × A3 × A4 × A5 × A6 × A7 × A8 × A9 × A10)) (B : A1 → A2 → A3 → A4 → A5 → A6 → A7 → A8 → A9 → A10 → Option γ) : Option γ := match x with
  | some (a1, a2, a3, a4, a5, a6, a7, a8, a9, a10) => B a1 a2 a3 a4 a5 a6 a7 a8 a9 a10
  | none => none
theorem bd10_ob {A1 A2 A3 A4 A5 A6 A7 A8 A9 A10 γ : Type} {x : Option (A1 × A2 × A3 × A4 × A5 × A6 × A7 × A8 × A9 × A10)} {B : A1 → A2 → A3 → A4 → A5 → A6 → A7 → A8 → A9 → A10 → Option γ} {r : γ} (h : bd10 x B = some r) : ∃ a1 a2 a3 a4 a5 a6 a7 a8 a9 a10, x = some (a1, a2, a3, a4, a5, a6, a7, a8, a9, a10) ∧ B a1 a2 a3 a4 a5 a6 a7 a8 a9 a10 = some r := by
  cases x with
  | none => cases h
  | some u =>
    obtain ⟨a1, a2, a3, a4, a5, a6, a7, a8, a9, a10⟩ := u
    exact ⟨a1, a2, a3, a4, a5, a6, a7, a8, a9, a10, rfl, h⟩
theorem bd10_eq {A1 A2 A3 A4 A5 A6 A7 A8 A9 A10 γ : Type} {x : Option (A1 × A2 × A3 × A4 × A5 × A6 × A7 × A8 × A9 × A10)} {B : A1 → A2 → A3 → A4 → A5 → A6 → A7 → A8 → A9 → A10 → Option γ} {a1 : A1} {a2 : A2} {a3 : A3} {a4 : A4} {a5 : A5} {a6 : A6} {a7 : A7} {a8 : A8} {a9 : A9} {a10 : A10} (h : x = some (a1, a2, a3, a4, a5, a6, a7, a8, a9, a10)) : bd10 x B = B a1 a2 a3 a4 a5 a6 a7 a8 a9 a10 := by
  subst h
  rfl
def bd11 {A1 A2 A3 A4 A5 A6 A7 A8 A9 A10 A11 γ : Type} (x : Option (A1 × A2 × A3 × A4 × A5 × A6 × A7 × A8 × A9 × A10 × A11)) (B : A1 → A2 → A3 → A4 → A5 → A6 → A7 → A8 → A9 → A10 → A11 → Option γ) : Option γ := match x with
  | some (a1, a2, a3, a4, a5, a6, a7, a8, a9, a10, a11) => B a1 a2 a3 a4 a5 a6 a7 a8 a9 a10 a11
  | none => none
theorem bd11_ob {A1 A2 A3 A4 A5 A6 A7 A8 A9 A10 A11 γ : Type} {x : Option (A1 × A2 × A3 × A4 × A5 × A6 × A7 × A8 × A9 × A10 × A11)} {B : A1 → A2 → A3 → A4 → A5 → A6 → A7 → A8 → A9 → A10 → A11 → Option γ} {r : γ} (h : bd11 x B = some r) : ∃ a1 a2 a3 a4 a5 a6 a7 a8 a9 a10 a11, x = some (a1, a2, a3, a4, a5, a6, a7, a8, a9, a10, a11) ∧ B a1 a2 a3 a4 a5 a6 a7 a8 a9 a10 a11 = some r := by
  cases x with
  | none => cases h
  | some u =>
    obtain ⟨a1, a2, a3, a4, a5, a6, a7, a8, a9, a10, a11⟩ := u
    exact ⟨a1, a2, a3, a4, a5, a6, a7, a8, a9, a10, a11, rfl, h⟩
theorem bd11_eq {A1 A2 A3 A4 A5 A6 A7 A8 A9 A10 A11 γ : Type} {x : Option (A1 × A2 × A3 × A4 × A5 × A6 × A7 × A8 × A9 × A10 × A11)} {B : A1 → A2 → A3 → A4 → A5 → A6 → A7 → A8 → A9 → A10 → A11 → Option γ} {a1 : A1} {a2 : A2} {a3 : A3} {a4 : A4} {a5 : A5} {a6 : A6} {a7 : A7} {a8 : A8} {a9 : A9} {a10 : A10} {a11 : A11} (h : x = some (a1, a2, a3, a4, a5, a6, a7, a8, a9, a10, a11)) : bd11 x B = B a1 a2 a3 a4 a5 a6 a7 a8 a9 a10 a11 := by
  subst h
  rfl
def bd12 {A1 A2 A3 A4 A5 A6 A7 A8 A9 A10 A11 A12 γ : Type} (x : Option (A1 × A2 × A3 × A4 × A5 × A6 × A7 × A8 × A9 × A10 × A11 × A12)) (B : A1 → A2 → A3 → A4 → A5 → A6 → A7 → A8 → A9 → A10 → A11 → A12 → Option γ) : Option γ := match x with
  | some (a1, a2, a3, a4, a5, a6, a7, a8, a9, a10, a11, a12) => B a1 a2 a3 a4 a5 a6 a7 a8 a9 a10 a11 a12
  | none => none
theorem bd12_ob {A1 A2 A3 A4 A5 A6 A7 A8 A9 A10 A11 A12 γ : Type} {x : Option (A1 × A2 × A3 × A4 × A5 × A6 × A7 × A8 × A9 × A10 × A11 × A12)} {B : A1 → A2 → A3 → A4 → A5 → A6 → A7 → A8 → A9 → A10 → A11 → A12 → Option γ} {r : γ} (h : bd12 x B = some r) : ∃ a1 a2 a3 a4 a5 a6 a7 a8 a9 a10 a11 a12, x = some (a1, a2, a3, a4, a5, a6, a7, a8, a9, a10, a11, a12) ∧ B a1 a2 a3 a4 a5 a6 a7 a8 a9 a10 a11 a12 = some r := by
  cases x with
  | none => cases h
  | some u =>
    obtain ⟨a1, a2, a3, a4, a5, a6, a7, a8, a9, a10, a11, a12⟩ := u
    exact ⟨a1, a2, a3, a4, a5, a6, a7, a8, a9, a10, a11, a12, rfl, h⟩
theorem bd12_eq {A1 A2 A3 A4 A5 A6 A7 A8 A9 A10 A11 A12 γ : Type} {x : Option (A1 × A2 × A3 × A4 × A5 × A6 × A7 × A8 × A9 × A10 × A11 × A12)} {B : A1 → A2 → A3 → A4 → A5 → A6 → A7 → A8 → A9 → A10 → A11 → A12 → Option γ} {a1 : A1} {a2 : A2} {a3 : A3} {a4 : A4} {a5 : A5} {a6 : A6} {a7 : A7} {a8 : A8} {a9 : A9} {a10 : A10} {a11 : A11} {a12 : A12} (h : x = some (a1, a2, a3, a4, a5, a6, a7, a8, a9, a10, a11, a12)) : bd12 x B = B a1 a2 a3 a4 a5 a6 a7 a8 a9 a10 a11 a12 := by
  subst h
  rfl
def bd13 {A1 A2 A3 A4 A5 A6 A7 A8 A9 A10 A11 A12 A13 γ : Type} (x : Option (A1 × A2 × A3 × A4 × A5 × A6 × A7 × A8 × A9 × A10 × A11 × A12 × A13)) (B : A1 → A2 → A3 → A4 → A5 → A6 → A7 → A8 → A9 → A10 → A11 → A12 → A13 → Option γ) : Option γ := match x with
  | some (a1, a2, a3, a4, a5, a6, a7, a8, a9, a10, a11, a12, a13) => B a1 a2 a3 a4 a5 a6 a7 a8 a9 a10 a11 a12 a13
  | none => none
theorem bd13_ob {A1 A2 A3 A4 A5 A6 A7 A8 A9 A10 A11 A12 A13 γ : Type} {x : Option (A1 × A2 × A3 × A4 × A5 × A6 × A7 × A8 × A9 × A10 × A11 × A12 × A13)} {B : A1 → A2 → A3 → A4 → A5 → A6 → A7 → A8 → A9 → A10 → A11 → A12 → A13 → Option γ} {r : γ} (h : bd13 x B = some r) : ∃ a1 a2 a3 a4 a5 a6 a7 a8 a9 a10 a11 a12 a13, x = some (a1, a2, a3, a4, a5, a6, a7, a8, a9, a10, a11, a12, a13) ∧ B a1 a2 a3 a4 a5 a6 a7 a8 a9 a10 a11 a12 a13 = some r := by
  cases x with
  | none => cases h
  | some u =>
    obtain ⟨a1, a2, a3, a4, a5, a6, a7, a8, a9, a10, a11, a12, a13⟩ := u
    exact ⟨a1, a2, a3, a4, a5, a6, a7, a8, a9, a10, a11, a12, a13, rfl, h⟩
theorem bd13_eq {A1 A2 A3 A4 A5 A6 A7 A8 A9 A10 A11 A12 A13 γ : Type} {x : Option (A1 × A2 × A3 × A4 × A5 × A6 × A7 × A8 × A9 × A10 × A11 × A12 × A13)} {B : A1 → A2 → A3 → A4 → A5 → A6 → A7 → A8 → A9 → A10 → A11 → A12 → A13 → Option γ} {a1 : A1} {a2 : A2} {a3 : A3} {a4 : A4} {a5 : A5} {a6 : A6} {a7 : A7} {a8 : A8} {a9 : A9} {a10 : A10} {a11 : A11} {a12 : A12} {a13 : A13} (h : x = some (a1, a2, a3, a4, a5, a6, a7, a8, a9, a10, a11, a12, a13)) : bd13 x B = B a1 a2 a3 a4 a5 a6 a7 a8 a9 a10 a11 a12 a13 := by
  subst h
  rfl
def bd14 {A1 A2 A3 A4 A5 A6 A7 A8 A9 A10 A11 A12 A13 A14 γ : Type} (x : Option (A1 × A2 × A3 × A4 × A5 × A6 × A7 × A8 × A9 × A10 × A11 × A12 × A13 × A14)) (B : A1 → A2 → A3 → A4 → A5 → A6 → A7 → A8 → A9 → A10 → A11 → A12 → A13 → A14 → Option γ) : Option γ := match x with
  | some (a1, a2, a3, a4, a5, a6, a7, a8, a9, a10, a11, a12, a13, a14) => B a1 a2 a3 a4 a5 a6 a7 a8 a9 a10 a11 a12 a13 a14
  | none => none
theorem bd14_ob {A1 A2 A3 A4 A5 A6 A7 A8 A9 A10 A11 A12 A13 A14 γ : Type} {x : Option (A1 × A2 × A3 × A4 × A5 × A6 × A7 × A8 × A9 × A10 × A11 × A12 × A13 × A14)} {B : A1 → A2 → A3 → A4 → A5 → A6 → A7 → A8 → A9 → A10 → A11 → A12 → A13 → A14 → Option γ} {r : γ} (h : bd14 x B = some r) : ∃ a1 a2 a3 a4 a5 a6 a7 a8 a9 a10 a11 a12 a13 a14, x = some (a1, a2, a3, a4, a5, a6, a7, a8, a9, a10, a11, a12, a13, a14) ∧ B a1 a2 a3 a4 a5 a6 a7 a8 a9 a10 a11 a12 a13 a14 = some r := by
  cases x with
  | none => cases h
  | some u =>
    obtain ⟨a1, a2, a3, a4, a5, a6, a7, a8, a9, a10, a11, a12, a13, a14⟩ := u
    exact ⟨a1, a2, a3, a4, a5, a6, a7, a8, a9, a10, a11, a12, a13, a14, rfl, h⟩
theorem bd14_eq {A1 A2 A3 A4 A5 A6 A7 A8 A9 A10 A11 A12 A13 A14 γ : Type} {x : Option (A1 × A2 × A3 × A4 × A5 × A6 × A7 × A8 × A9 × A10 × A11 × A12 × A13 × A14)} {B : A1 → A2 → A3 → A4 → A5 → A6 → A7 → A8 → A9 → A10 → A11 → A12 → A13 → A14 → Option γ} {a1 : A1} {a2 : A2} {a3 : A3} {a4 : A4} {a5 : A5} {a6 : A6} {a7 : A7} {a8 : A8} {a9 : A9} {a10 : A10} {a11 : A11} {a12 : A12} {a13 : A13} {a14 : A14} (h : x = some (a1, a2, a3, a4, a5, a6, a7, a8, a9, a10, a11, a12, a13, a14)) : bd14 x B = B a1 a2 a3 a4 a5 a6 a7 a8 a9 a10 a11 a12 a13 a14 := by
  subst h
  rfl
end
section
/-! PURE PROGRAMS, laid by program out of the bytecode: f_.. a method, l_.. a loop. -/
def f_X6_isIn (N : Nat)  (v0 : Int32) (v1 : Int32) (v2 : Int32) : Option (Int32) :=
  if v0 < v1 then
    gd (bz (0 : Int32)) <|
    some ((0 : Int32))
  else
    if v2 < v0 then
      gd (bz (0 : Int32)) <|
      some ((0 : Int32))
    else
      gd (bz (1 : Int32)) <|
      some ((1 : Int32))
def f_X4_hasRoomFor (N : Nat) (W_count : Int32) (v1 : Int32) : Option (Int32) :=
  if (400 - W_count) < v1 then
    gd (bz (0 : Int32)) <|
    some ((0 : Int32))
  else
    gd (bz (1 : Int32)) <|
    some ((1 : Int32))
def f_X4_add (N : Nat) (W_sorts : (Nat → Int32)) (W_values : (Nat → Int32)) (W_count : Int32) (v1 : Int32) (v2 : Int32) : Option ((Nat → Int32) × (Nat → Int32) × Int32) :=
  if (400 : Int32) ≤ W_count then
    some (W_sorts, W_values, W_count)
  else
    gd (ix W_count 400) <|
    gd (ix W_count 400) <|
    nl (W_count + 1) fun x4 =>
    some ((upd W_sorts W_count.toNatClampNeg v1), (upd W_values W_count.toNatClampNeg v2), x4)
def f_X6_give (N : Nat) (W_sorts : (Nat → Int32)) (W_values : (Nat → Int32)) (W_count : Int32) (v1 : Int32) (v2 : Int32) : Option (Int32 × (Nat → Int32) × (Nat → Int32) × Int32) :=
  bd1 (f_X6_isIn N v1 (0 : Int32) (3 : Int32)) fun r1 =>
  if r1 = 0 then
    some ((-1 : Int32), W_sorts, W_values, W_count)
  else
    bd1 (f_X6_isIn N v2 (-100000 : Int32) (100000 : Int32)) fun r4 =>
    if r4 = 0 then
      some ((-1 : Int32), W_sorts, W_values, W_count)
    else
      bd1 (f_X4_hasRoomFor N W_count (1 : Int32)) fun r7 =>
      if r7 = 0 then
        some ((-1 : Int32), W_sorts, W_values, W_count)
      else
        bd3 (f_X4_add N W_sorts W_values W_count v1 v2) fun c10 c11 c12 =>
        some ((c12 - 1), c10, c11, c12)
def l_X6_sow_62 (N : Nat) (v1 : Int32) (v2 : Int32) (v4 : Int32) (v5 : Int32) : Nat → Int32 → Int32 → (Nat → Int32) → (Nat → Int32) → Int32 → Option ((Nat → Int32) × (Nat → Int32) × Int32)
  | 0, _, _, _, _, _ => none
  | n + 1, v6, v7, W_sorts, W_values, W_count =>
    if v2 ≤ v7 then
      some (W_sorts, W_values, W_count)
    else
      nl ((1103515245 * v6) + 12345) fun x17 =>
      gd (nz v5) <|
      bd3 (f_X4_add N W_sorts W_values W_count v1 ((W_count * v4) + ((x17.toUInt32 >>> (((8 : Int32)).toUInt32 &&& Int32.toUInt32 31)).toInt32 - (x17.toUInt32 >>> (((8 : Int32)).toUInt32 &&& Int32.toUInt32 31)).toInt32 / v5 * v5))) fun c19 c20 c21 =>
      nl (v7 + 1) fun x23 =>
      l_X6_sow_62 N v1 v2 v4 v5 n x17 x23 c19 c20 c21
def f_X6_sow (N : Nat) (W_sorts : (Nat → Int32)) (W_values : (Nat → Int32)) (W_count : Int32) (v1 : Int32) (v2 : Int32) (v3 : Int32) (v4 : Int32) (v5 : Int32) : Option (Int32 × (Nat → Int32) × (Nat → Int32) × Int32) :=
  bd1 (f_X6_isIn N v1 (0 : Int32) (3 : Int32)) fun r1 =>
  if r1 = 0 then
    some ((-1 : Int32), W_sorts, W_values, W_count)
  else
    bd1 (f_X6_isIn N v2 (1 : Int32) (100 : Int32)) fun r4 =>
    if r4 = 0 then
      some ((-1 : Int32), W_sorts, W_values, W_count)
    else
      bd1 (f_X6_isIn N v4 (-100 : Int32) (100 : Int32)) fun r7 =>
      if r7 = 0 then
        some ((-1 : Int32), W_sorts, W_values, W_count)
      else
        bd1 (f_X6_isIn N v5 (1 : Int32) (10000 : Int32)) fun r10 =>
        if r10 = 0 then
          some ((-1 : Int32), W_sorts, W_values, W_count)
        else
          bd1 (f_X4_hasRoomFor N W_count v2) fun r13 =>
          if r13 = 0 then
            some ((-1 : Int32), W_sorts, W_values, W_count)
          else
            bd3 (l_X6_sow_62 N v1 v2 v4 v5 N v3 (0 : Int32) W_sorts W_values W_count) fun e24 e25 e26 =>
            some (e26, e24, e25, e26)
def f_X5_forget (N : Nat) (R_rowsInAll : Int32) (R_made : Int32) (R_all : Int32) (R_filled : Int32)  : Option (Int32 × Int32 × Int32 × Int32) :=
  some (0, 0, 0, 0)
def f_X3_forget (N : Nat) (P_merges : Int32) (P_told : Int32)  : Option (Int32 × Int32) :=
  some (0, 0)
def l_X0_forget_32 (N : Nat)  : Nat → Int32 → (Nat → Int32) → Option ((Nat → Int32))
  | 0, _, _ => none
  | n + 1, v1, C_mergedBy =>
    if (8 : Int32) ≤ v1 then
      some (C_mergedBy)
    else
      gd (ix v1 8) <|
      nl (v1 + 1) fun x3 =>
      l_X0_forget_32 N n x3 (upd C_mergedBy v1.toNatClampNeg 0)
def f_X0_forget (N : Nat) (C_mergedBy : (Nat → Int32)) (C_parts : Int32) (C_samples : Int32) (C_bound : Int32) (C_ticks : Int32) (C_mergedInAll : Int32) (C_mergedAgain : Int32)  : Option ((Nat → Int32) × Int32 × Int32 × Int32 × Int32 × Int32 × Int32) :=
  bd1 (l_X0_forget_32 N N (0 : Int32) C_mergedBy) fun e4 =>
  some (e4, 0, 0, 0, 0, 0, 0)
def f_X6_forgetRuns (N : Nat) (R_rowsInAll : Int32) (R_made : Int32) (R_all : Int32) (R_filled : Int32) (P_merges : Int32) (P_told : Int32) (C_mergedBy : (Nat → Int32)) (C_parts : Int32) (C_samples : Int32) (C_bound : Int32) (C_ticks : Int32) (C_mergedInAll : Int32) (C_mergedAgain : Int32)  : Option (Int32 × Int32 × Int32 × Int32 × Int32 × Int32 × (Nat → Int32) × Int32 × Int32 × Int32 × Int32 × Int32 × Int32) :=
  bd4 (f_X5_forget N R_rowsInAll R_made R_all R_filled) fun c1 c2 c3 c4 =>
  bd2 (f_X3_forget N P_merges P_told) fun c6 c7 =>
  bd7 (f_X0_forget N C_mergedBy C_parts C_samples C_bound C_ticks C_mergedInAll C_mergedAgain) fun c9 c10 c11 c12 c13 c14 c15 =>
  some (c1, c2, c3, c4, c6, c7, c9, c10, c11, c12, c13, c14, c15)
def f_X6_clear (N : Nat) (W_count : Int32) (R_rowsInAll : Int32) (R_made : Int32) (R_all : Int32) (R_filled : Int32) (P_merges : Int32) (P_told : Int32) (C_mergedBy : (Nat → Int32)) (C_parts : Int32) (C_samples : Int32) (C_bound : Int32) (C_ticks : Int32) (C_mergedInAll : Int32) (C_mergedAgain : Int32)  : Option (Int32 × Int32 × Int32 × Int32 × Int32 × Int32 × Int32 × Int32 × (Nat → Int32) × Int32 × Int32 × Int32 × Int32 × Int32 × Int32) :=
  bd13 (f_X6_forgetRuns N R_rowsInAll R_made R_all R_filled P_merges P_told C_mergedBy C_parts C_samples C_bound C_ticks C_mergedInAll C_mergedAgain) fun c1 c2 c3 c4 c5 c6 c7 c8 c9 c10 c11 c12 c13 =>
  some (W_count, 0, c1, c2, c3, c4, c5, c6, c7, c8, c9, c10, c11, c12, c13)
def f_X6_isEachSortOnce (N : Nat)  (v0 : Int32) (v1 : Int32) (v2 : Int32) (v3 : Int32) : Option (Int32) :=
  bd1 (f_X6_isIn N v0 (0 : Int32) (3 : Int32)) fun r1 =>
  if r1 = 0 then
    gd (bz (0 : Int32)) <|
    some ((0 : Int32))
  else
    bd1 (f_X6_isIn N v1 (0 : Int32) (3 : Int32)) fun r5 =>
    if r5 = 0 then
      gd (bz (0 : Int32)) <|
      some ((0 : Int32))
    else
      bd1 (f_X6_isIn N v2 (0 : Int32) (3 : Int32)) fun r9 =>
      if r9 = 0 then
        gd (bz (0 : Int32)) <|
        some ((0 : Int32))
      else
        bd1 (f_X6_isIn N v3 (0 : Int32) (3 : Int32)) fun r13 =>
        if r13 = 0 then
          gd (bz (0 : Int32)) <|
          some ((0 : Int32))
        else
          if v0 = v1 then
            gd (bz (0 : Int32)) <|
            some ((0 : Int32))
          else
            if v0 = v2 then
              gd (bz (0 : Int32)) <|
              some ((0 : Int32))
            else
              if v0 = v3 then
                gd (bz (0 : Int32)) <|
                some ((0 : Int32))
              else
                if v1 = v2 then
                  gd (bz (0 : Int32)) <|
                  some ((0 : Int32))
                else
                  if v1 = v3 then
                    gd (bz (0 : Int32)) <|
                    some ((0 : Int32))
                  else
                    if v2 = v3 then
                      gd (bz (0 : Int32)) <|
                      some ((0 : Int32))
                    else
                      gd (bz (1 : Int32)) <|
                      some ((1 : Int32))
def f_X6_order (N : Nat) (W_turns : (Nat → Int32)) (R_made : Int32) (v1 : Int32) (v2 : Int32) (v3 : Int32) (v4 : Int32) : Option (Int32 × (Nat → Int32)) :=
  if 0 < R_made then
    gd (bz (0 : Int32)) <|
    some ((0 : Int32), W_turns)
  else
    bd1 (f_X6_isEachSortOnce N v1 v2 v3 v4) fun r3 =>
    if r3 = 0 then
      gd (bz (0 : Int32)) <|
      some ((0 : Int32), W_turns)
    else
      gd (ix v1 4) <|
      gd (ix v2 4) <|
      gd (ix v3 4) <|
      gd (ix v4 4) <|
      gd (bz (1 : Int32)) <|
      some ((1 : Int32), (upd (upd (upd (upd W_turns v1.toNatClampNeg 0) v2.toNatClampNeg 1) v3.toNatClampNeg 2) v4.toNatClampNeg 3))
def f_X6_falls (N : Nat) (W_falling : (Nat → Int32)) (R_made : Int32) (v1 : Int32) (v2 : Int32) : Option (Int32 × (Nat → Int32)) :=
  if 0 < R_made then
    gd (bz (0 : Int32)) <|
    some ((0 : Int32), W_falling)
  else
    bd1 (f_X6_isIn N v1 (0 : Int32) (3 : Int32)) fun r3 =>
    if r3 = 0 then
      gd (bz (0 : Int32)) <|
      some ((0 : Int32), W_falling)
    else
      gd (ix v1 4) <|
      gd (bz (1 : Int32)) <|
      some ((1 : Int32), (upd W_falling v1.toNatClampNeg (vp_nar .boolean v2)))
def f_X4_has (N : Nat) (W_count : Int32) (v1 : Int32) : Option (Int32) :=
  bd1 (f_X6_isIn N v1 (0 : Int32) (W_count - 1)) fun r1 =>
  gd (bz r1) <|
  some (r1)
def f_X6_row (N : Nat) (W_sorts : (Nat → Int32)) (W_values : (Nat → Int32)) (W_count : Int32) (v1 : Int32) (v2 : Int32) : Option (Int32) :=
  bd1 (f_X4_has N W_count v1) fun r1 =>
  if r1 = 0 then
    some ((-1000000 : Int32))
  else
    if v2 = 0 then
      gd (ix v1 400) <|
      some ((W_sorts v1.toNatClampNeg))
    else
      if v2 = 1 then
        gd (ix v1 400) <|
        some ((W_values v1.toNatClampNeg))
      else
        some ((-1000000 : Int32))
def f_X4_placeOf (N : Nat) (W_sorts : (Nat → Int32)) (W_values : (Nat → Int32)) (W_turns : (Nat → Int32)) (W_falling : (Nat → Int32)) (W_count : Int32) (v1 : Int32) : Option (Int32) :=
  bd1 (f_X4_has N W_count v1) fun r1 =>
  if r1 = 0 then
    some ((320001600 : Int32))
  else
    gd (ix v1 400) <|
    nl (W_sorts v1.toNatClampNeg) fun x5 =>
    gd (ix x5 4) <|
    bd1 (if (W_falling x5.toNatClampNeg) = 0 then
        gd (ix v1 400) <|
        some ((W_values v1.toNatClampNeg))
      else
        gd (ix v1 400) <|
        some ((-(W_values v1.toNatClampNeg))))
      fun y7 =>
    gd (ix x5 4) <|
    some (((((((W_turns x5.toNatClampNeg) * 200001) + y7) + 100000) * 400) + v1))
def f_J6_compare_7cf53 (N : Nat)  (v0 : Int32) (v1 : Int32) : Option (Int32) :=
  if v1 ≤ v0 then
    if v0 = v1 then
      some ((0 : Int32))
    else
      some ((1 : Int32))
  else
    some ((-1 : Int32))
def f_X6_against (N : Nat) (W_sorts : (Nat → Int32)) (W_values : (Nat → Int32)) (W_turns : (Nat → Int32)) (W_falling : (Nat → Int32)) (W_count : Int32) (v1 : Int32) (v2 : Int32) : Option (Int32) :=
  bd1 (f_X4_has N W_count v1) fun r1 =>
  if r1 = 0 then
    some ((-2 : Int32))
  else
    bd1 (f_X4_has N W_count v2) fun r4 =>
    if r4 = 0 then
      some ((-2 : Int32))
    else
      bd1 (f_X4_placeOf N W_sorts W_values W_turns W_falling W_count v1) fun r7 =>
      bd1 (f_X4_placeOf N W_sorts W_values W_turns W_falling W_count v2) fun r9 =>
      bd1 (f_J6_compare_7cf53 N r7 r9) fun r11 =>
      some (r11)
def l_X6_rank_27 (N : Nat) (W_sorts : (Nat → Int32)) (W_values : (Nat → Int32)) (W_turns : (Nat → Int32)) (W_falling : (Nat → Int32)) (W_count : Int32) (v2 : Int32) : Nat → Int32 → Int32 → Option (Int32)
  | 0, _, _ => none
  | n + 1, v3, v4 =>
    if W_count ≤ v4 then
      some (v3)
    else
      bd1 (f_X4_placeOf N W_sorts W_values W_turns W_falling W_count v4) fun r7 =>
      if v2 ≤ r7 then
        nl (v4 + 1) fun x10 =>
        l_X6_rank_27 N W_sorts W_values W_turns W_falling W_count v2 n v3 x10
      else
        nl (v3 + 1) fun x11 =>
        nl (v4 + 1) fun x12 =>
        l_X6_rank_27 N W_sorts W_values W_turns W_falling W_count v2 n x11 x12
def f_X6_rank (N : Nat) (W_sorts : (Nat → Int32)) (W_values : (Nat → Int32)) (W_turns : (Nat → Int32)) (W_falling : (Nat → Int32)) (W_count : Int32) (v1 : Int32) : Option (Int32) :=
  bd1 (f_X4_has N W_count v1) fun r1 =>
  if r1 = 0 then
    some ((-1 : Int32))
  else
    bd1 (f_X4_placeOf N W_sorts W_values W_turns W_falling W_count v1) fun r4 =>
    bd1 (l_X6_rank_27 N W_sorts W_values W_turns W_falling W_count r4 N (0 : Int32) (0 : Int32)) fun e13 =>
    some (e13)
def f_X1_forget (N : Nat) (H_size : Int32)  : Option (Int32) :=
  some (0)
def l_X1_add_28 (N : Nat) (v1 : Int64) : Nat → Int32 → (Nat → Int64) → Option (Int32 × (Nat → Int64))
  | 0, _, _ => none
  | n + 1, v3, H_items =>
    if v3 ≤ 0 then
      some (v3, H_items)
    else
      nl ((v3 - 1) / 2) fun x4 =>
      gd (ix x4 400) <|
      if v1 < (H_items x4.toNatClampNeg) then
        gd (ix x4 400) <|
        nl (H_items x4.toNatClampNeg) fun x8 =>
        gd (ix v3 400) <|
        l_X1_add_28 N v1 n x4 (vp_updL H_items v3.toNatClampNeg x8)
      else
        some (v3, H_items)
def f_X1_add (N : Nat) (H_items : (Nat → Int64)) (H_size : Int32) (v1 : Int64) : Option ((Nat → Int64) × Int32) :=
  if H_size < (400 : Int32) then
    nl (H_size + 1) fun x2 =>
    bd2 (l_X1_add_28 N v1 N H_size H_items) fun e10 e11 =>
    gd (ix e10 400) <|
    some ((vp_updL e11 e10.toNatClampNeg v1), x2)
  else
    some (H_items, H_size)
def l_X1_sink_5 (N : Nat) (H_size : Int32) (v1 : Int64) : Nat → Int32 → Int32 → (Nat → Int64) → Option (Int32 × (Nat → Int64))
  | 0, _, _, _ => none
  | n + 1, v3, v4, H_items =>
    if H_size ≤ v4 then
      some (v3, H_items)
    else
      nl (v4 + 1) fun x2 =>
      bd1 (if H_size ≤ x2 then
          some (v4)
        else
          gd (ix x2 400) <|
          gd (ix v4 400) <|
          if (H_items v4.toNatClampNeg) ≤ (H_items x2.toNatClampNeg) then
            some (v4)
          else
            some (x2))
        fun y3 =>
      gd (ix y3 400) <|
      if (H_items y3.toNatClampNeg) < v1 then
        gd (ix y3 400) <|
        nl (H_items y3.toNatClampNeg) fun x8 =>
        gd (ix v3 400) <|
        nl ((2 * y3) + 1) fun x10 =>
        l_X1_sink_5 N H_size v1 n y3 x10 (vp_updL H_items v3.toNatClampNeg x8)
      else
        some (v3, H_items)
def f_X1_sink (N : Nat) (H_items : (Nat → Int64)) (H_size : Int32) (v1 : Int64) : Option ((Nat → Int64)) :=
  bd2 (l_X1_sink_5 N H_size v1 N (0 : Int32) (1 : Int32) H_items) fun e15 e16 =>
  gd (ix e15 400) <|
  some ((vp_updL e16 e15.toNatClampNeg v1))
def f_X1_takeLeast (N : Nat) (H_items : (Nat → Int64)) (H_size : Int32)  : Option (Int64 × (Nat → Int64) × Int32) :=
  if H_size = 0 then
    some ((0 : Int64), H_items, H_size)
  else
    gd (ix (0 : Int32) 400) <|
    nl (H_items (0 : Int32).toNatClampNeg) fun x3 =>
    nl (H_size - 1) fun x4 =>
    gd (ix x4 400) <|
    bd1 (f_X1_sink N H_items x4 (H_items x4.toNatClampNeg)) fun c6 =>
    some (x3, c6, x4)
def f_X4_rowOf (N : Nat)  (v0 : Int64) : Option (Int32) :=
  some (((v0 - v0 / 400 * 400).toInt32))
def l_X5_putInOrder_6 (N : Nat) (R_rowsInAll : Int32) (W_sorts : (Nat → Int32)) (W_values : (Nat → Int32)) (W_turns : (Nat → Int32)) (W_falling : (Nat → Int32)) (W_count : Int32) : Nat → Int32 → (Nat → Int64) → Int32 → Option ((Nat → Int64) × Int32)
  | 0, _, _, _ => none
  | n + 1, v3, H_items, H_size =>
    if R_rowsInAll ≤ v3 then
      some (H_items, H_size)
    else
      bd1 (f_X4_placeOf N W_sorts W_values W_turns W_falling W_count v3) fun r4 =>
      bd2 (f_X1_add N H_items H_size (r4.toInt64)) fun c6 c7 =>
      nl (v3 + 1) fun x9 =>
      l_X5_putInOrder_6 N R_rowsInAll W_sorts W_values W_turns W_falling W_count n x9 c6 c7
def l_X5_putInOrder_32 (N : Nat) (R_rowsInAll : Int32) : Nat → Int32 → (Nat → Int32) → (Nat → Int32) → (Nat → Int64) → Int32 → Option ((Nat → Int32) × (Nat → Int32) × (Nat → Int64) × Int32)
  | 0, _, _, _, _, _ => none
  | n + 1, v3, R_inOrder, R_standing, H_items, H_size =>
    if R_rowsInAll ≤ v3 then
      some (R_inOrder, R_standing, H_items, H_size)
    else
      bd3 (f_X1_takeLeast N H_items H_size) fun r14 c15 c16 =>
      bd1 (f_X4_rowOf N r14) fun r18 =>
      gd (ix v3 400) <|
      gd (ix r18 400) <|
      nl (v3 + 1) fun x22 =>
      l_X5_putInOrder_32 N R_rowsInAll n x22 (upd R_inOrder v3.toNatClampNeg r18) (upd R_standing r18.toNatClampNeg v3) c15 c16
def f_X5_putInOrder (N : Nat) (R_inOrder : (Nat → Int32)) (R_standing : (Nat → Int32)) (R_rowsInAll : Int32) (W_sorts : (Nat → Int32)) (W_values : (Nat → Int32)) (W_turns : (Nat → Int32)) (W_falling : (Nat → Int32)) (W_count : Int32) (H_items : (Nat → Int64)) (H_size : Int32)  : Option ((Nat → Int32) × (Nat → Int32) × (Nat → Int64) × Int32) :=
  bd1 (f_X1_forget N H_size) fun c1 =>
  bd2 (l_X5_putInOrder_6 N R_rowsInAll W_sorts W_values W_turns W_falling W_count N (0 : Int32) H_items c1) fun e10 e11 =>
  bd4 (l_X5_putInOrder_32 N R_rowsInAll N (0 : Int32) R_inOrder R_standing e10 e11) fun e23 e24 e25 e26 =>
  some (e23, e24, e25, e26)
def f_X5_begin (N : Nat) (R_starts : (Nat → Int32)) (R_all : Int32) (R_filled : Int32)  : Option ((Nat → Int32) × Int32) :=
  if (799 : Int32) ≤ R_all then
    some (R_starts, R_all)
  else
    gd (ix R_all 800) <|
    nl (R_all + 1) fun x3 =>
    gd (ix x3 800) <|
    some ((upd (upd R_starts R_all.toNatClampNeg R_filled) x3.toNatClampNeg R_filled), x3)
def f_X5_append (N : Nat) (R_members : (Nat → Int32)) (R_starts : (Nat → Int32)) (R_all : Int32) (R_filled : Int32) (v1 : Int32) : Option ((Nat → Int32) × (Nat → Int32) × Int32) :=
  if (4000 : Int32) ≤ R_filled then
    some (R_members, R_starts, R_filled)
  else
    gd (ix R_filled 4000) <|
    nl (R_filled + 1) fun x3 =>
    gd (ix R_all 800) <|
    some ((upd R_members R_filled.toNatClampNeg v1), (upd R_starts R_all.toNatClampNeg x3), x3)
def l_X5_select_17 (N : Nat) (W_sorts : (Nat → Int32)) (W_values : (Nat → Int32)) (W_turns : (Nat → Int32)) (W_falling : (Nat → Int32)) (W_count : Int32) (v4 : Int32) : Nat → Int32 → (Nat → Int64) → Int32 → Option ((Nat → Int64) × Int32)
  | 0, _, _, _ => none
  | n + 1, v5, H_items, H_size =>
    if v4 ≤ v5 then
      some (H_items, H_size)
    else
      bd1 (f_X4_placeOf N W_sorts W_values W_turns W_falling W_count v5) fun r5 =>
      bd2 (f_X1_add N H_items H_size (r5.toInt64)) fun c7 c8 =>
      nl (v5 + 1) fun x10 =>
      l_X5_select_17 N W_sorts W_values W_turns W_falling W_count v4 n x10 c7 c8
def l_X5_select_44 (N : Nat) (R_rowsInAll : Int32) (W_sorts : (Nat → Int32)) (W_values : (Nat → Int32)) (W_turns : (Nat → Int32)) (W_falling : (Nat → Int32)) (W_count : Int32) : Nat → Int32 → Int32 → (Nat → Int32) → (Nat → Int32) → Int32 → Int32 → (Nat → Int64) → Int32 → Option ((Nat → Int32) × (Nat → Int32) × Int32 × Int32 × (Nat → Int64) × Int32)
  | 0, _, _, _, _, _, _, _, _ => none
  | n + 1, v4, v5, R_members, R_starts, R_all, R_filled, H_items, H_size =>
    if R_rowsInAll ≤ v5 then
      some (R_members, R_starts, R_all, R_filled, H_items, H_size)
    else
      bd3 (f_X1_takeLeast N H_items H_size) fun r15 c16 c17 =>
      nl (r15 / 320001600) fun x19 =>
      bd2 (if x19 < (R_all.toInt64) then
          some (R_starts, R_all)
        else
          bd2 (f_X5_begin N R_starts R_all R_filled) fun c42 c43 =>
          some (c42, c43))
        fun y20 y21 =>
      bd1 (f_X4_rowOf N r15) fun r23 =>
      bd3 (f_X5_append N R_members y20 y21 R_filled r23) fun c25 c26 c27 =>
      if R_rowsInAll ≤ v4 then
        nl (v5 + 1) fun x30 =>
        l_X5_select_44 N R_rowsInAll W_sorts W_values W_turns W_falling W_count n v4 x30 c25 c26 y21 c27 c16 c17
      else
        bd1 (f_X4_placeOf N W_sorts W_values W_turns W_falling W_count v4) fun r31 =>
        bd1 (if (r15 - r15 / 320001600 * 320001600) ≤ (r31.toInt64) then
            some (x19)
          else
            some ((x19 + 1)))
          fun y33 =>
        bd2 (f_X1_add N c16 c17 (r31.toInt64 + (320001600 * y33))) fun c35 c36 =>
        nl (v4 + 1) fun x38 =>
        nl (v5 + 1) fun x39 =>
        l_X5_select_44 N R_rowsInAll W_sorts W_values W_turns W_falling W_count n x38 x39 c25 c26 y21 c27 c35 c36
def f_X5_select (N : Nat) (R_members : (Nat → Int32)) (R_starts : (Nat → Int32)) (R_rowsInAll : Int32) (R_all : Int32) (R_filled : Int32) (W_sorts : (Nat → Int32)) (W_values : (Nat → Int32)) (W_turns : (Nat → Int32)) (W_falling : (Nat → Int32)) (W_count : Int32) (H_items : (Nat → Int64)) (H_size : Int32) (v2 : Int32) : Option ((Nat → Int32) × (Nat → Int32) × Int32 × Int32 × (Nat → Int64) × Int32) :=
  bd1 (f_X1_forget N H_size) fun c1 =>
  nl (if R_rowsInAll < v2 then R_rowsInAll else v2) fun x3 =>
  bd2 (l_X5_select_17 N W_sorts W_values W_turns W_falling W_count x3 N (0 : Int32) H_items c1) fun e11 e12 =>
  bd6 (l_X5_select_44 N R_rowsInAll W_sorts W_values W_turns W_falling W_count N x3 (0 : Int32) R_members R_starts R_all R_filled e11 e12) fun e45 e46 e47 e48 e49 e50 =>
  some (e45, e46, e47, e48, e49, e50)
def f_X5_makeOf (N : Nat) (R_members : (Nat → Int32)) (R_starts : (Nat → Int32)) (R_inOrder : (Nat → Int32)) (R_standing : (Nat → Int32)) (R_rowsInAll : Int32) (R_made : Int32) (R_all : Int32) (R_filled : Int32) (W_sorts : (Nat → Int32)) (W_values : (Nat → Int32)) (W_turns : (Nat → Int32)) (W_falling : (Nat → Int32)) (W_count : Int32) (H_items : (Nat → Int64)) (H_size : Int32) (v2 : Int32) : Option ((Nat → Int32) × (Nat → Int32) × (Nat → Int32) × (Nat → Int32) × Int32 × Int32 × Int32 × Int32 × (Nat → Int64) × Int32) :=
  bd4 (f_X5_putInOrder N R_inOrder R_standing W_count W_sorts W_values W_turns W_falling W_count H_items H_size) fun c1 c2 c3 c4 =>
  bd6 (f_X5_select N R_members R_starts W_count R_all R_filled W_sorts W_values W_turns W_falling W_count c3 c4 v2) fun c6 c7 c8 c9 c10 c11 =>
  some (c6, c7, c1, c2, W_count, c8, c8, c9, c10, c11)
def f_X6_runs (N : Nat) (W_sorts : (Nat → Int32)) (W_values : (Nat → Int32)) (W_turns : (Nat → Int32)) (W_falling : (Nat → Int32)) (W_count : Int32) (H_items : (Nat → Int64)) (H_size : Int32) (R_members : (Nat → Int32)) (R_starts : (Nat → Int32)) (R_inOrder : (Nat → Int32)) (R_standing : (Nat → Int32)) (R_rowsInAll : Int32) (R_made : Int32) (R_all : Int32) (R_filled : Int32) (P_merges : Int32) (P_told : Int32) (C_mergedBy : (Nat → Int32)) (C_parts : Int32) (C_samples : Int32) (C_bound : Int32) (C_ticks : Int32) (C_mergedInAll : Int32) (C_mergedAgain : Int32) (v1 : Int32) : Option (Int32 × (Nat → Int64) × Int32 × (Nat → Int32) × (Nat → Int32) × (Nat → Int32) × (Nat → Int32) × Int32 × Int32 × Int32 × Int32 × Int32 × Int32 × (Nat → Int32) × Int32 × Int32 × Int32 × Int32 × Int32 × Int32) :=
  bd1 (f_X6_isIn N v1 (1 : Int32) (40 : Int32)) fun r1 =>
  if r1 = 0 then
    some ((-1 : Int32), H_items, H_size, R_members, R_starts, R_inOrder, R_standing, R_rowsInAll, R_made, R_all, R_filled, P_merges, P_told, C_mergedBy, C_parts, C_samples, C_bound, C_ticks, C_mergedInAll, C_mergedAgain)
  else
    bd13 (f_X6_forgetRuns N R_rowsInAll R_made R_all R_filled P_merges P_told C_mergedBy C_parts C_samples C_bound C_ticks C_mergedInAll C_mergedAgain) fun c4 c5 c6 c7 c8 c9 c10 c11 c12 c13 c14 c15 c16 =>
    bd10 (f_X5_makeOf N R_members R_starts R_inOrder R_standing c4 c5 c6 c7 W_sorts W_values W_turns W_falling W_count H_items H_size v1) fun c18 c19 c20 c21 c22 c23 c24 c25 c26 c27 =>
    some (c23, c26, c27, c18, c19, c20, c21, c22, c23, c24, c25, c8, c9, c10, c11, c12, c13, c14, c15, c16)
def f_X5_has (N : Nat) (R_all : Int32) (v1 : Int32) : Option (Int32) :=
  bd1 (f_X6_isIn N v1 (0 : Int32) (R_all - 1)) fun r1 =>
  gd (bz r1) <|
  some (r1)
def f_X5_sizeOf (N : Nat) (R_starts : (Nat → Int32)) (R_all : Int32) (v1 : Int32) : Option (Int32) :=
  bd1 (f_X5_has N R_all v1) fun r1 =>
  if r1 = 0 then
    some ((0 : Int32))
  else
    gd (ix (v1 + 1) 800) <|
    gd (ix v1 800) <|
    some (((R_starts (v1 + 1).toNatClampNeg) - (R_starts v1.toNatClampNeg)))
def f_X6_length (N : Nat) (R_starts : (Nat → Int32)) (R_all : Int32) (v1 : Int32) : Option (Int32) :=
  bd1 (f_X5_has N R_all v1) fun r1 =>
  if r1 = 0 then
    some ((-1 : Int32))
  else
    bd1 (f_X5_sizeOf N R_starts R_all v1) fun r4 =>
    some (r4)
def f_X5_rowIn (N : Nat) (R_members : (Nat → Int32)) (R_starts : (Nat → Int32)) (R_all : Int32) (v1 : Int32) (v2 : Int32) : Option (Int32) :=
  bd1 (f_X5_sizeOf N R_starts R_all v1) fun r1 =>
  bd1 (f_X6_isIn N v2 (0 : Int32) (r1 - 1)) fun r3 =>
  if r3 = 0 then
    some ((-1 : Int32))
  else
    gd (ix v1 800) <|
    gd (ix ((R_starts v1.toNatClampNeg) + v2) 4000) <|
    some ((R_members ((R_starts v1.toNatClampNeg) + v2).toNatClampNeg))
def f_X6_at (N : Nat) (R_members : (Nat → Int32)) (R_starts : (Nat → Int32)) (R_all : Int32) (v1 : Int32) (v2 : Int32) : Option (Int32) :=
  bd1 (f_X5_rowIn N R_members R_starts R_all v1 v2) fun r1 =>
  some (r1)
def f_X5_forgetMerged (N : Nat) (R_rowsInAll : Int32) (R_made : Int32) (R_all : Int32) (R_filled : Int32)  : Option (Int32 × Int32) :=
  some (R_made, R_rowsInAll)
def f_X3_sized (N : Nat)  (v0 : Int32) (v1 : Int32) : Option (Int64) :=
  some (((v0.toInt64 * 799) + v1.toInt64))
def f_X3_waysOf (N : Nat)  (v0 : Int32) (v1 : Int32) (v2 : Int32) : Option (Int32) :=
  if 0 < v0 then
    some (v2)
  else
    if (2 : Int32) ≤ v2 then
      gd (nz (v2 - 1)) <|
      some ((2 + ((v1 - 2) - (v1 - 2) / (v2 - 1) * (v2 - 1))))
    else
      some (v2)
def f_X3_mergesOf (N : Nat)  (v0 : Int32) (v1 : Int32) : Option (Int32) :=
  if v0 < (2 : Int32) then
    some ((0 : Int32))
  else
    if (2 : Int32) ≤ v1 then
      bd1 (f_X3_waysOf N (0 : Int32) v0 v1) fun r3 =>
      gd (nz (v1 - 1)) <|
      some ((1 + ((v0 - r3) / (v1 - 1))))
    else
      some ((0 : Int32))
def l_X3_takeFewest_14 (N : Nat) (v2 : Int32) : Nat → Int32 → Int32 → Int32 → (Nat → Int32) → (Nat → Int64) → Int32 → Option (Int32 × Int32 × (Nat → Int32) × (Nat → Int64) × Int32)
  | 0, _, _, _, _, _, _ => none
  | n + 1, v4, v5, v6, P_takenRuns, H_items, H_size =>
    if v2 ≤ v6 then
      some (v4, v5, P_takenRuns, H_items, H_size)
    else
      if (800 : Int32) ≤ v5 then
        some (v4, v5, P_takenRuns, H_items, H_size)
      else
        bd3 (f_X1_takeLeast N H_items H_size) fun r5 c6 c7 =>
        nl ((r5 - r5 / 799 * 799).toInt32) fun x9 =>
        gd (ix v5 800) <|
        nl (v4 + (r5 / 799).toInt32) fun x11 =>
        nl (v5 + 1) fun x12 =>
        nl (v6 + 1) fun x13 =>
        l_X3_takeFewest_14 N v2 n x11 x12 x13 (upd P_takenRuns v5.toNatClampNeg x9) c6 c7
def f_X3_takeFewest (N : Nat) (P_takenRuns : (Nat → Int32)) (P_starts : (Nat → Int32)) (H_items : (Nat → Int64)) (H_size : Int32) (v1 : Int32) (v2 : Int32) : Option (Int32 × (Nat → Int32) × (Nat → Int32) × (Nat → Int64) × Int32) :=
  gd (ix v1 401) <|
  nl (P_starts v1.toNatClampNeg) fun x2 =>
  bd5 (l_X3_takeFewest_14 N v2 N (0 : Int32) x2 (0 : Int32) P_takenRuns H_items H_size) fun e14 e15 e16 e17 e18 =>
  gd (ix (v1 + 1) 401) <|
  some (e14, e16, (upd P_starts (v1 + 1).toNatClampNeg e15), e17, e18)
def l_X3_tell_7 (N : Nat) (R_starts : (Nat → Int32)) (R_made : Int32) (R_all : Int32) : Nat → Int32 → (Nat → Int64) → Int32 → Option ((Nat → Int64) × Int32)
  | 0, _, _, _ => none
  | n + 1, v4, H_items, H_size =>
    if R_made ≤ v4 then
      some (H_items, H_size)
    else
      bd1 (f_X5_sizeOf N R_starts R_all v4) fun r4 =>
      bd1 (f_X3_sized N r4 v4) fun r6 =>
      bd2 (f_X1_add N H_items H_size r6) fun c8 c9 =>
      nl (v4 + 1) fun x11 =>
      l_X3_tell_7 N R_starts R_made R_all n x11 c8 c9
def l_X3_tell_66 (N : Nat) (P_merges : Int32) (R_made : Int32) (v2 : Int32) : Nat → Int32 → Int32 → (Nat → Int32) → (Nat → Int32) → (Nat → Int64) → Int32 → Option (Int32 × (Nat → Int32) × (Nat → Int32) × (Nat → Int64) × Int32)
  | 0, _, _, _, _, _, _ => none
  | n + 1, v4, v5, P_takenRuns, P_starts, H_items, H_size =>
    if P_merges ≤ v5 then
      some (v4, P_takenRuns, P_starts, H_items, H_size)
    else
      bd1 (f_X3_waysOf N v5 R_made v2) fun r19 =>
      bd5 (f_X3_takeFewest N P_takenRuns P_starts H_items H_size v5 r19) fun r21 c22 c23 c24 c25 =>
      bd1 (f_X3_sized N r21 (R_made + v5)) fun r27 =>
      bd2 (f_X1_add N c24 c25 r27) fun c29 c30 =>
      nl (v4 + r21) fun x32 =>
      nl (v5 + 1) fun x33 =>
      l_X3_tell_66 N P_merges R_made v2 n x32 x33 c22 c23 c29 c30
def f_X3_tell (N : Nat) (P_takenRuns : (Nat → Int32)) (P_starts : (Nat → Int32)) (P_merges : Int32) (P_told : Int32) (R_starts : (Nat → Int32)) (R_made : Int32) (R_all : Int32) (H_items : (Nat → Int64)) (H_size : Int32) (v2 : Int32) : Option (Int32 × (Nat → Int32) × (Nat → Int32) × Int32 × Int32 × (Nat → Int64) × Int32) :=
  bd1 (f_X1_forget N H_size) fun c1 =>
  bd2 (l_X3_tell_7 N R_starts R_made R_all N (0 : Int32) H_items c1) fun e12 e13 =>
  bd1 (f_X3_mergesOf N R_made v2) fun r15 =>
  nl (if (400 : Int32) < r15 then (400 : Int32) else r15) fun x17 =>
  bd5 (l_X3_tell_66 N x17 R_made v2 N (0 : Int32) (0 : Int32) P_takenRuns P_starts e12 e13) fun e34 e35 e36 e37 e38 =>
  some (e34, e35, e36, x17, 1, e37, e38)
def f_X6_plan (N : Nat) (H_items : (Nat → Int64)) (H_size : Int32) (R_starts : (Nat → Int32)) (R_rowsInAll : Int32) (R_made : Int32) (R_all : Int32) (R_filled : Int32) (P_takenRuns : (Nat → Int32)) (P_starts : (Nat → Int32)) (P_merges : Int32) (P_told : Int32) (v1 : Int32) : Option (Int32 × (Nat → Int64) × Int32 × Int32 × Int32 × (Nat → Int32) × (Nat → Int32) × Int32 × Int32) :=
  if R_made = 0 then
    some ((-1 : Int32), H_items, H_size, R_all, R_filled, P_takenRuns, P_starts, P_merges, P_told)
  else
    bd1 (f_X6_isIn N v1 (2 : Int32) (8 : Int32)) fun r2 =>
    if r2 = 0 then
      some ((-1 : Int32), H_items, H_size, R_all, R_filled, P_takenRuns, P_starts, P_merges, P_told)
    else
      bd2 (f_X5_forgetMerged N R_rowsInAll R_made R_all R_filled) fun c5 c6 =>
      bd7 (f_X3_tell N P_takenRuns P_starts P_merges P_told R_starts R_made c5 H_items H_size v1) fun r8 c9 c10 c11 c12 c13 c14 =>
      some (r8, c13, c14, c5, c6, c9, c10, c11, c12)
def l_X3_movedByQueue_2 (N : Nat) (R_starts : (Nat → Int32)) (R_made : Int32) (R_all : Int32) : Nat → Int32 → (Nat → Int32) → Option ((Nat → Int32))
  | 0, _, _ => none
  | n + 1, v3, P_queued =>
    if R_made ≤ v3 then
      some (P_queued)
    else
      bd1 (f_X5_sizeOf N R_starts R_all v3) fun r2 =>
      gd (ix v3 799) <|
      nl (v3 + 1) fun x5 =>
      l_X3_movedByQueue_2 N R_starts R_made R_all n x5 (upd P_queued v3.toNatClampNeg r2)
def l_X3_movedByQueue_89 (N : Nat) (P_queued : (Nat → Int32)) (v6 : Int32) (v8 : Int32) : Nat → Int32 → Int32 → Option (Int32 × Int32)
  | 0, _, _ => none
  | n + 1, v4, v7 =>
    if v8 ≤ v4 then
      some (v4, v7)
    else
      if v6 ≤ v4 then
        some (v4, v7)
      else
        gd (ix v4 799) <|
        nl (v7 + (P_queued v4.toNatClampNeg)) fun x18 =>
        nl (v4 + 1) fun x19 =>
        l_X3_movedByQueue_89 N P_queued v6 v8 n x19 x18
def l_X3_movedByQueue_59 (N : Nat) (R_made : Int32) (v2 : Int32) (v5 : Int32) : Nat → Int32 → Int32 → Int32 → (Nat → Int32) → Option (Int32 × (Nat → Int32))
  | 0, _, _, _, _ => none
  | n + 1, v3, v4, v6, P_queued =>
    if v5 ≤ v6 then
      some (v3, P_queued)
    else
      bd1 (f_X3_waysOf N (v6 - R_made) R_made v2) fun r12 =>
      nl (v4 + r12) fun x14 =>
      bd2 (l_X3_movedByQueue_89 N P_queued v6 x14 N v4 (0 : Int32)) fun e20 e21 =>
      gd (ix v6 799) <|
      nl (v3 + e21) fun x24 =>
      nl (v6 + 1) fun x25 =>
      l_X3_movedByQueue_59 N R_made v2 v5 n x24 e20 x25 (upd P_queued v6.toNatClampNeg e21)
def f_X3_movedByQueue (N : Nat) (P_queued : (Nat → Int32)) (R_starts : (Nat → Int32)) (R_made : Int32) (R_all : Int32) (v2 : Int32) : Option (Int32 × (Nat → Int32)) :=
  bd1 (l_X3_movedByQueue_2 N R_starts R_made R_all N (0 : Int32) P_queued) fun e6 =>
  bd1 (f_X3_mergesOf N R_made v2) fun r8 =>
  nl (if (799 : Int32) < (R_made + r8) then (799 : Int32) else (R_made + r8)) fun x10 =>
  bd2 (l_X3_movedByQueue_59 N R_made v2 x10 N (0 : Int32) (0 : Int32) R_made e6) fun e26 e27 =>
  some (e26, e27)
def f_X6_queue (N : Nat) (R_starts : (Nat → Int32)) (R_made : Int32) (R_all : Int32) (P_queued : (Nat → Int32)) (v1 : Int32) : Option (Int32 × (Nat → Int32)) :=
  if R_made = 0 then
    some ((-1 : Int32), P_queued)
  else
    bd1 (f_X6_isIn N v1 (2 : Int32) (8 : Int32)) fun r2 =>
    if r2 = 0 then
      some ((-1 : Int32), P_queued)
    else
      bd2 (f_X3_movedByQueue N P_queued R_starts R_made R_all v1) fun r5 c6 =>
      some (r5, c6)
def f_X6_merges (N : Nat) (P_merges : Int32)  : Option (Int32) :=
  some (P_merges)
def f_X3_waysIn (N : Nat) (P_starts : (Nat → Int32)) (P_merges : Int32) (v1 : Int32) : Option (Int32) :=
  bd1 (f_X6_isIn N v1 (0 : Int32) (P_merges - 1)) fun r1 =>
  if r1 = 0 then
    some ((0 : Int32))
  else
    gd (ix (v1 + 1) 401) <|
    gd (ix v1 401) <|
    some (((P_starts (v1 + 1).toNatClampNeg) - (P_starts v1.toNatClampNeg)))
def f_X3_taken (N : Nat) (P_takenRuns : (Nat → Int32)) (P_starts : (Nat → Int32)) (P_merges : Int32) (v1 : Int32) (v2 : Int32) : Option (Int32) :=
  bd1 (f_X3_waysIn N P_starts P_merges v1) fun r1 =>
  bd1 (f_X6_isIn N v2 (0 : Int32) (r1 - 1)) fun r3 =>
  if r3 = 0 then
    some ((-1 : Int32))
  else
    gd (ix v1 401) <|
    gd (ix ((P_starts v1.toNatClampNeg) + v2) 800) <|
    some ((P_takenRuns ((P_starts v1.toNatClampNeg) + v2).toNatClampNeg))
def f_X6_takes (N : Nat) (P_takenRuns : (Nat → Int32)) (P_starts : (Nat → Int32)) (P_merges : Int32) (v1 : Int32) (v2 : Int32) : Option (Int32) :=
  bd1 (f_X3_taken N P_takenRuns P_starts P_merges v1 v2) fun r1 =>
  some (r1)
def f_X5_standingOf (N : Nat) (R_standing : (Nat → Int32)) (R_rowsInAll : Int32) (v1 : Int32) : Option (Int32) :=
  bd1 (f_X6_isIn N v1 (0 : Int32) (R_rowsInAll - 1)) fun r1 =>
  if r1 = 0 then
    some ((-1 : Int32))
  else
    gd (ix v1 400) <|
    some ((R_standing v1.toNatClampNeg))
def l_X5_takeFirst_10 (N : Nat) (R_members : (Nat → Int32)) (R_standing : (Nat → Int32)) (R_heads : (Nat → Int32)) (R_tails : (Nat → Int32)) (R_rowsInAll : Int32) (v1 : Int32) : Nat → Int32 → Int32 → Int32 → Int32 → Option (Int32 × Int32 × Int32)
  | 0, _, _, _, _ => none
  | n + 1, v2, v3, v4, v5 =>
    if v1 ≤ v5 then
      some (v2, v3, v4)
    else
      gd (ix v5 8) <|
      gd (ix v5 8) <|
      if (R_heads v5.toNatClampNeg) < (R_tails v5.toNatClampNeg) then
        nl (v2 + 1) fun x5 =>
        gd (ix v5 8) <|
        gd (ix (R_heads v5.toNatClampNeg) 4000) <|
        nl (R_members (R_heads v5.toNatClampNeg).toNatClampNeg) fun x8 =>
        if v4 = (-1 : Int32) then
          nl (v5 + 1) fun x10 =>
          l_X5_takeFirst_10 N R_members R_standing R_heads R_tails R_rowsInAll v1 n x5 v5 x8 x10
        else
          bd1 (f_X5_standingOf N R_standing R_rowsInAll x8) fun r11 =>
          bd1 (f_X5_standingOf N R_standing R_rowsInAll v4) fun r13 =>
          if r13 ≤ r11 then
            nl (v5 + 1) fun x16 =>
            l_X5_takeFirst_10 N R_members R_standing R_heads R_tails R_rowsInAll v1 n x5 v3 v4 x16
          else
            nl (v5 + 1) fun x17 =>
            l_X5_takeFirst_10 N R_members R_standing R_heads R_tails R_rowsInAll v1 n x5 v5 x8 x17
      else
        nl (v5 + 1) fun x18 =>
        l_X5_takeFirst_10 N R_members R_standing R_heads R_tails R_rowsInAll v1 n v2 v3 v4 x18
def f_X5_takeFirst (N : Nat) (R_members : (Nat → Int32)) (R_starts : (Nat → Int32)) (R_standing : (Nat → Int32)) (R_heads : (Nat → Int32)) (R_tails : (Nat → Int32)) (R_rowsInAll : Int32) (R_all : Int32) (R_filled : Int32) (v1 : Int32) : Option (Int32 × (Nat → Int32) × (Nat → Int32) × (Nat → Int32) × Int32) :=
  bd3 (l_X5_takeFirst_10 N R_members R_standing R_heads R_tails R_rowsInAll v1 N (0 : Int32) (0 : Int32) (-1 : Int32) (0 : Int32)) fun e19 e20 e21 =>
  if e19 = 0 then
    some ((0 : Int32), R_members, R_starts, R_heads, R_filled)
  else
    gd (ix e20 8) <|
    nl ((R_heads e20.toNatClampNeg) + 1) fun x25 =>
    gd (ix e20 8) <|
    bd3 (f_X5_append N R_members R_starts R_all R_filled e21) fun c27 c28 c29 =>
    some ((e19 - 1), c27, c28, (upd R_heads e20.toNatClampNeg x25), c29)
def l_X5_mergeThose_17 (N : Nat) (R_starts : (Nat → Int32)) (R_all : Int32) (P_takenRuns : (Nat → Int32)) (P_starts : (Nat → Int32)) (P_merges : Int32) (v2 : Int32) (v3 : Int32) : Nat → Int32 → Int32 → (Nat → Int32) → (Nat → Int32) → Option (Int32 × (Nat → Int32) × (Nat → Int32))
  | 0, _, _, _, _ => none
  | n + 1, v4, v5, R_heads, R_tails =>
    if v3 ≤ v5 then
      some (v4, R_heads, R_tails)
    else
      bd1 (f_X3_taken N P_takenRuns P_starts P_merges v2 v5) fun r5 =>
      bd1 (f_X5_has N R_all r5) fun r7 =>
      bd1 (if r7 = 0 then
          some ((0 : Int32))
        else
          gd (ix r5 800) <|
          some ((R_starts r5.toNatClampNeg)))
        fun y9 =>
      gd (ix v5 8) <|
      gd (ix v5 8) <|
      bd1 (f_X5_sizeOf N R_starts R_all r5) fun r13 =>
      nl (((upd R_heads v5.toNatClampNeg y9) v5.toNatClampNeg) + r13) fun x15 =>
      gd (ix v5 8) <|
      bd1 (f_X5_sizeOf N R_starts R_all r5) fun r17 =>
      nl (v4 + r17) fun x19 =>
      nl (v5 + 1) fun x20 =>
      l_X5_mergeThose_17 N R_starts R_all P_takenRuns P_starts P_merges v2 v3 n x19 x20 (upd R_heads v5.toNatClampNeg y9) (upd R_tails v5.toNatClampNeg x15)
def l_X5_mergeThose_107 (N : Nat) (R_standing : (Nat → Int32)) (R_tails : (Nat → Int32)) (R_rowsInAll : Int32) (R_all : Int32) (v3 : Int32) (v4 : Int32) : Nat → Int32 → Int32 → (Nat → Int32) → (Nat → Int32) → (Nat → Int32) → Int32 → Option (Int32 × (Nat → Int32) × (Nat → Int32) × (Nat → Int32) × Int32)
  | 0, _, _, _, _, _, _ => none
  | n + 1, v5, v6, R_members, R_starts, R_heads, R_filled =>
    if v4 ≤ v6 then
      some (v5, R_members, R_starts, R_heads, R_filled)
    else
      bd5 (f_X5_takeFirst N R_members R_starts R_standing R_heads R_tails R_rowsInAll R_all R_filled v3) fun r31 c32 c33 c34 c35 =>
      nl (v5 + r31) fun x37 =>
      nl (v6 + 1) fun x38 =>
      l_X5_mergeThose_107 N R_standing R_tails R_rowsInAll R_all v3 v4 n x37 x38 c32 c33 c34 c35
def f_X5_mergeThose (N : Nat) (R_members : (Nat → Int32)) (R_starts : (Nat → Int32)) (R_standing : (Nat → Int32)) (R_heads : (Nat → Int32)) (R_tails : (Nat → Int32)) (R_rowsInAll : Int32) (R_all : Int32) (R_filled : Int32) (P_takenRuns : (Nat → Int32)) (P_starts : (Nat → Int32)) (P_merges : Int32) (v2 : Int32) : Option (Int32 × (Nat → Int32) × (Nat → Int32) × (Nat → Int32) × (Nat → Int32) × Int32 × Int32) :=
  bd1 (f_X3_waysIn N P_starts P_merges v2) fun r1 =>
  nl (if (8 : Int32) < r1 then (8 : Int32) else r1) fun x3 =>
  bd3 (l_X5_mergeThose_17 N R_starts R_all P_takenRuns P_starts P_merges v2 x3 N (0 : Int32) (0 : Int32) R_heads R_tails) fun e23 e24 e25 =>
  bd2 (f_X5_begin N R_starts R_all R_filled) fun c27 c28 =>
  bd5 (l_X5_mergeThose_107 N R_standing e25 R_rowsInAll c28 x3 e23 N (0 : Int32) (0 : Int32) R_members c27 e24 R_filled) fun e39 e40 e41 e42 e43 =>
  some (e39, e40, e41, e42, e25, c28, e43)
def l_X6_merge_23 (N : Nat) (R_standing : (Nat → Int32)) (R_rowsInAll : Int32) (P_takenRuns : (Nat → Int32)) (P_starts : (Nat → Int32)) (P_merges : Int32) : Nat → Int32 → Int32 → (Nat → Int32) → (Nat → Int32) → (Nat → Int32) → (Nat → Int32) → Int32 → Int32 → Option (Int32 × (Nat → Int32) × (Nat → Int32) × (Nat → Int32) × (Nat → Int32) × Int32 × Int32)
  | 0, _, _, _, _, _, _, _, _ => none
  | n + 1, v1, v2, R_members, R_starts, R_heads, R_tails, R_all, R_filled =>
    if P_merges ≤ v2 then
      some (v1, R_members, R_starts, R_heads, R_tails, R_all, R_filled)
    else
      bd7 (f_X5_mergeThose N R_members R_starts R_standing R_heads R_tails R_rowsInAll R_all R_filled P_takenRuns P_starts P_merges v2) fun r6 c7 c8 c9 c10 c11 c12 =>
      nl (v1 + r6) fun x14 =>
      nl (v2 + 1) fun x15 =>
      l_X6_merge_23 N R_standing R_rowsInAll P_takenRuns P_starts P_merges n x14 x15 c7 c8 c9 c10 c11 c12
def f_X6_merge (N : Nat) (R_members : (Nat → Int32)) (R_starts : (Nat → Int32)) (R_standing : (Nat → Int32)) (R_heads : (Nat → Int32)) (R_tails : (Nat → Int32)) (R_rowsInAll : Int32) (R_made : Int32) (R_all : Int32) (R_filled : Int32) (P_takenRuns : (Nat → Int32)) (P_starts : (Nat → Int32)) (P_merges : Int32) (P_told : Int32)  : Option (Int32 × (Nat → Int32) × (Nat → Int32) × (Nat → Int32) × (Nat → Int32) × Int32 × Int32) :=
  if P_told = 0 then
    some ((-1 : Int32), R_members, R_starts, R_heads, R_tails, R_all, R_filled)
  else
    bd2 (f_X5_forgetMerged N R_rowsInAll R_made R_all R_filled) fun c2 c3 =>
    bd7 (l_X6_merge_23 N R_standing R_rowsInAll P_takenRuns P_starts P_merges N (0 : Int32) (0 : Int32) R_members R_starts R_heads R_tails c2 c3) fun e16 e17 e18 e19 e20 e21 e22 =>
    some (e16, e17, e18, e19, e20, e21, e22)
def l_X0_takeSamples_2 (N : Nat)  : Nat → Int32 → (Nat → Int32) → Option ((Nat → Int32))
  | 0, _, _ => none
  | n + 1, v3, C_sampled =>
    if (400 : Int32) ≤ v3 then
      some (C_sampled)
    else
      gd (ix v3 400) <|
      nl (v3 + 1) fun x3 =>
      l_X0_takeSamples_2 N n x3 (upd C_sampled v3.toNatClampNeg (vp_nar .boolean 0))
def l_X0_takeSamples_44 (N : Nat) (R_members : (Nat → Int32)) (R_starts : (Nat → Int32)) (R_standing : (Nat → Int32)) (R_rowsInAll : Int32) (R_all : Int32) (v2 : Int32) (v3 : Int32) (v4 : Int32) : Nat → Int32 → (Nat → Int32) → Option ((Nat → Int32))
  | 0, _, _ => none
  | n + 1, v5, C_sampled =>
    if v4 ≤ v5 then
      some (C_sampled)
    else
      bd1 (f_X5_rowIn N R_members R_starts R_all v3 v5) fun r11 =>
      bd1 (f_X5_standingOf N R_standing R_rowsInAll r11) fun r13 =>
      if r13 = (-1 : Int32) then
        nl (v5 + v2) fun x16 =>
        l_X0_takeSamples_44 N R_members R_starts R_standing R_rowsInAll R_all v2 v3 v4 n x16 C_sampled
      else
        gd (ix r13 400) <|
        nl (v5 + v2) fun x18 =>
        l_X0_takeSamples_44 N R_members R_starts R_standing R_rowsInAll R_all v2 v3 v4 n x18 (upd C_sampled r13.toNatClampNeg (vp_nar .boolean 1))
def l_X0_takeSamples_24 (N : Nat) (R_members : (Nat → Int32)) (R_starts : (Nat → Int32)) (R_standing : (Nat → Int32)) (R_rowsInAll : Int32) (R_made : Int32) (R_all : Int32) (v2 : Int32) : Nat → Int32 → (Nat → Int32) → Option ((Nat → Int32))
  | 0, _, _ => none
  | n + 1, v3, C_sampled =>
    if R_made ≤ v3 then
      some (C_sampled)
    else
      bd1 (f_X5_sizeOf N R_starts R_all v3) fun r7 =>
      nl (v2 - 1) fun x9 =>
      bd1 (l_X0_takeSamples_44 N R_members R_starts R_standing R_rowsInAll R_all v2 v3 r7 N x9 C_sampled) fun e19 =>
      nl (v3 + 1) fun x21 =>
      l_X0_takeSamples_24 N R_members R_starts R_standing R_rowsInAll R_made R_all v2 n x21 e19
def l_X0_takeSamples_95 (N : Nat) (C_sampled : (Nat → Int32)) : Nat → Int32 → (Nat → Int32) → Int32 → Option ((Nat → Int32) × Int32)
  | 0, _, _, _ => none
  | n + 1, v3, C_sampleStandings, C_samples =>
    if (400 : Int32) ≤ v3 then
      some (C_sampleStandings, C_samples)
    else
      gd (ix v3 400) <|
      if (C_sampled v3.toNatClampNeg) = 0 then
        nl (v3 + 1) fun x27 =>
        l_X0_takeSamples_95 N C_sampled n x27 C_sampleStandings C_samples
      else
        gd (ix C_samples 400) <|
        nl (C_samples + 1) fun x29 =>
        nl (v3 + 1) fun x30 =>
        l_X0_takeSamples_95 N C_sampled n x30 (upd C_sampleStandings C_samples.toNatClampNeg v3) x29
def f_X0_takeSamples (N : Nat) (C_sampled : (Nat → Int32)) (C_sampleStandings : (Nat → Int32)) (C_samples : Int32) (R_members : (Nat → Int32)) (R_starts : (Nat → Int32)) (R_standing : (Nat → Int32)) (R_rowsInAll : Int32) (R_made : Int32) (R_all : Int32) (v2 : Int32) : Option ((Nat → Int32) × (Nat → Int32) × Int32) :=
  bd1 (l_X0_takeSamples_2 N N (0 : Int32) C_sampled) fun e4 =>
  bd1 (l_X0_takeSamples_24 N R_members R_starts R_standing R_rowsInAll R_made R_all v2 N (0 : Int32) e4) fun e22 =>
  bd2 (l_X0_takeSamples_95 N e22 N (0 : Int32) C_sampleStandings C_samples) fun e31 e32 =>
  some (e22, e31, e32)
def f_X0_lastStanding (N : Nat) (C_sampleStandings : (Nat → Int32)) (C_samples : Int32) (v1 : Int32) : Option (Int32) :=
  bd1 (f_X6_isIn N v1 (0 : Int32) (C_samples - 1)) fun r1 =>
  if r1 = 0 then
    some ((-1 : Int32))
  else
    gd (ix v1 400) <|
    some ((C_sampleStandings v1.toNatClampNeg))
def f_X5_rowInOrder (N : Nat) (R_inOrder : (Nat → Int32)) (R_rowsInAll : Int32) (v1 : Int32) : Option (Int32) :=
  bd1 (f_X6_isIn N v1 (0 : Int32) (R_rowsInAll - 1)) fun r1 =>
  if r1 = 0 then
    some ((-1 : Int32))
  else
    gd (ix v1 400) <|
    some ((R_inOrder v1.toNatClampNeg))
def f_X0_beginAnew (N : Nat) (C_merged : (Nat → Int32)) (C_done : (Nat → Int32)) (v1 : Int32) : Option ((Nat → Int32) × (Nat → Int32)) :=
  gd (ix v1 8) <|
  gd (ix v1 8) <|
  some ((upd C_merged v1.toNatClampNeg 0), (upd C_done v1.toNatClampNeg (vp_nar .boolean 0)))
def l_X0_makeOf_63 (N : Nat) (C_sampleStandings : (Nat → Int32)) (C_samples : Int32) (R_inOrder : (Nat → Int32)) (R_rowsInAll : Int32) (v2 : Int32) : Nat → Int32 → Int32 → (Nat → Int32) → (Nat → Int32) → (Nat → Int32) → (Nat → Int32) → (Nat → Int32) → Option ((Nat → Int32) × (Nat → Int32) × (Nat → Int32) × (Nat → Int32) × (Nat → Int32))
  | 0, _, _, _, _, _, _, _ => none
  | n + 1, v4, v5, C_sizes, C_ends, C_merged, C_reached, C_done =>
    if v2 ≤ v5 then
      some (C_sizes, C_ends, C_merged, C_reached, C_done)
    else
      bd1 (if v5 = (v2 - 1) then
          some ((R_rowsInAll - 1))
        else
          gd (nz v2) <|
          bd1 (f_X0_lastStanding N C_sampleStandings C_samples ((((v5 + 1) * C_samples) / v2) - 1)) fun r37 =>
          some (r37))
        fun y19 =>
      bd1 (if v5 = (v2 - 1) then
          some ((-1 : Int32))
        else
          bd1 (f_X5_rowInOrder N R_inOrder R_rowsInAll y19) fun r33 =>
          some (r33))
        fun y21 =>
      gd (ix v5 8) <|
      nl ((y19 + 1) - v4) fun x24 =>
      gd (ix v5 8) <|
      nl (y19 + 1) fun x26 =>
      gd (ix v5 8) <|
      bd2 (f_X0_beginAnew N C_merged C_done v5) fun c28 c29 =>
      nl (v5 + 1) fun x31 =>
      l_X0_makeOf_63 N C_sampleStandings C_samples R_inOrder R_rowsInAll v2 n x26 x31 (upd C_sizes v5.toNatClampNeg x24) (upd C_ends v5.toNatClampNeg y21) c28 (upd C_reached v5.toNatClampNeg 0) c29
def f_X0_makeOf (N : Nat) (C_sampled : (Nat → Int32)) (C_sampleStandings : (Nat → Int32)) (C_sizes : (Nat → Int32)) (C_ends : (Nat → Int32)) (C_merged : (Nat → Int32)) (C_reached : (Nat → Int32)) (C_done : (Nat → Int32)) (C_mergedBy : (Nat → Int32)) (C_parts : Int32) (C_samples : Int32) (C_bound : Int32) (C_ticks : Int32) (C_mergedInAll : Int32) (C_mergedAgain : Int32) (R_members : (Nat → Int32)) (R_starts : (Nat → Int32)) (R_inOrder : (Nat → Int32)) (R_standing : (Nat → Int32)) (R_rowsInAll : Int32) (R_made : Int32) (R_all : Int32) (v2 : Int32) (v3 : Int32) : Option ((Nat → Int32) × (Nat → Int32) × (Nat → Int32) × (Nat → Int32) × (Nat → Int32) × (Nat → Int32) × (Nat → Int32) × (Nat → Int32) × Int32 × Int32 × Int32 × Int32 × Int32 × Int32) :=
  bd7 (f_X0_forget N C_mergedBy C_parts C_samples C_bound C_ticks C_mergedInAll C_mergedAgain) fun c1 c2 c3 c4 c5 c6 c7 =>
  if v2 < (1 : Int32) then
    some (C_sampled, C_sampleStandings, C_sizes, C_ends, C_merged, C_reached, C_done, c1, c2, c3, c4, c5, c6, c7)
  else
    if (8 : Int32) < v2 then
      some (C_sampled, C_sampleStandings, C_sizes, C_ends, C_merged, C_reached, C_done, c1, c2, c3, c4, c5, c6, c7)
    else
      if (1 : Int32) ≤ v3 then
        bd3 (f_X0_takeSamples N C_sampled C_sampleStandings c3 R_members R_starts R_standing R_rowsInAll R_made R_all v3) fun c12 c13 c14 =>
        gd (nz v2) <|
        nl ((v3 * (((c14 + v2) - 1) / v2)) + ((v3 - 1) * R_made)) fun x17 =>
        bd5 (l_X0_makeOf_63 N c13 c14 R_inOrder R_rowsInAll v2 N (0 : Int32) (0 : Int32) C_sizes C_ends C_merged C_reached C_done) fun e39 e40 e41 e42 e43 =>
        some (c12, c13, e39, e40, e41, e42, e43, c1, v2, c14, x17, c5, c6, c7)
      else
        some (C_sampled, C_sampleStandings, C_sizes, C_ends, C_merged, C_reached, C_done, c1, c2, c3, c4, c5, c6, c7)
def l_X0_leftOn_4 (N : Nat) (C_sizes : (Nat → Int32)) (C_lies : (Nat → Int32)) (C_merged : (Nat → Int32)) (C_parts : Int32) (v1 : Int32) : Nat → Int32 → Int32 → Option (Int32)
  | 0, _, _ => none
  | n + 1, v2, v3 =>
    if C_parts ≤ v3 then
      some (v2)
    else
      gd (ix v3 8) <|
      if (C_lies v3.toNatClampNeg) = v1 then
        gd (ix v3 8) <|
        gd (ix v3 8) <|
        nl (v2 + ((C_sizes v3.toNatClampNeg) - (C_merged v3.toNatClampNeg))) fun x7 =>
        nl (v3 + 1) fun x8 =>
        l_X0_leftOn_4 N C_sizes C_lies C_merged C_parts v1 n x7 x8
      else
        nl (v3 + 1) fun x4 =>
        l_X0_leftOn_4 N C_sizes C_lies C_merged C_parts v1 n v2 x4
def f_X0_leftOn (N : Nat) (C_sizes : (Nat → Int32)) (C_lies : (Nat → Int32)) (C_merged : (Nat → Int32)) (C_parts : Int32) (v1 : Int32) : Option (Int32) :=
  bd1 (l_X0_leftOn_4 N C_sizes C_lies C_merged C_parts v1 N (0 : Int32) (0 : Int32)) fun e9 =>
  some (e9)
def l_X0_leastLaden_7 (N : Nat) (C_sizes : (Nat → Int32)) (C_lies : (Nat → Int32)) (C_merged : (Nat → Int32)) (C_parts : Int32) (O_up : (Nat → Int32)) : Nat → Int32 → Int32 → Int32 → Option (Int32)
  | 0, _, _, _ => none
  | n + 1, v2, v3, v4 =>
    if (8 : Int32) ≤ v4 then
      some (v2)
    else
      gd (ix v4 8) <|
      if (O_up v4.toNatClampNeg) = 0 then
        nl (v4 + 1) fun x11 =>
        l_X0_leastLaden_7 N C_sizes C_lies C_merged C_parts O_up n v2 v3 x11
      else
        bd1 (f_X0_leftOn N C_sizes C_lies C_merged C_parts v4) fun r4 =>
        if v2 = (-1 : Int32) then
          nl (v4 + 1) fun x7 =>
          l_X0_leastLaden_7 N C_sizes C_lies C_merged C_parts O_up n v4 r4 x7
        else
          if v3 ≤ r4 then
            nl (v4 + 1) fun x9 =>
            l_X0_leastLaden_7 N C_sizes C_lies C_merged C_parts O_up n v2 v3 x9
          else
            nl (v4 + 1) fun x10 =>
            l_X0_leastLaden_7 N C_sizes C_lies C_merged C_parts O_up n v4 r4 x10
def f_X0_leastLaden (N : Nat) (C_sizes : (Nat → Int32)) (C_lies : (Nat → Int32)) (C_merged : (Nat → Int32)) (C_parts : Int32) (O_up : (Nat → Int32))  : Option (Int32) :=
  bd1 (l_X0_leastLaden_7 N C_sizes C_lies C_merged C_parts O_up N (-1 : Int32) (0 : Int32) (0 : Int32)) fun e12 =>
  some (e12)
def l_X0_moveFrom_5 (N : Nat) (C_sizes : (Nat → Int32)) (C_parts : Int32) (O_up : (Nat → Int32)) (v1 : Int32) : Nat → Int32 → Int32 → (Nat → Int32) → (Nat → Int32) → (Nat → Int32) → Option (Int32 × (Nat → Int32) × (Nat → Int32) × (Nat → Int32))
  | 0, _, _, _, _, _ => none
  | n + 1, v3, v4, C_lies, C_merged, C_done =>
    if C_parts ≤ v4 then
      some (v3, C_lies, C_merged, C_done)
    else
      gd (ix v4 8) <|
      if (C_lies v4.toNatClampNeg) = v1 then
        bd2 (f_X0_beginAnew N C_merged C_done v4) fun c5 c6 =>
        bd1 (f_X0_leastLaden N C_sizes C_lies c5 C_parts O_up) fun r8 =>
        gd (ix v4 8) <|
        nl (v3 + 1) fun x11 =>
        nl (v4 + 1) fun x12 =>
        l_X0_moveFrom_5 N C_sizes C_parts O_up v1 n x11 x12 (upd C_lies v4.toNatClampNeg r8) c5 c6
      else
        nl (v4 + 1) fun x4 =>
        l_X0_moveFrom_5 N C_sizes C_parts O_up v1 n v3 x4 C_lies C_merged C_done
def f_X0_moveFrom (N : Nat) (C_sizes : (Nat → Int32)) (C_lies : (Nat → Int32)) (C_merged : (Nat → Int32)) (C_done : (Nat → Int32)) (C_parts : Int32) (O_up : (Nat → Int32)) (v1 : Int32) : Option (Int32 × (Nat → Int32) × (Nat → Int32) × (Nat → Int32)) :=
  bd4 (l_X0_moveFrom_5 N C_sizes C_parts O_up v1 N (0 : Int32) (0 : Int32) C_lies C_merged C_done) fun e13 e14 e15 e16 =>
  some (e13, e14, e15, e16)
def l_X0_layOn_2 (N : Nat) (C_parts : Int32) : Nat → Int32 → (Nat → Int32) → Option ((Nat → Int32))
  | 0, _, _ => none
  | n + 1, v2, C_lies =>
    if C_parts ≤ v2 then
      some (C_lies)
    else
      gd (ix v2 8) <|
      nl (v2 + 1) fun x3 =>
      l_X0_layOn_2 N C_parts n x3 (upd C_lies v2.toNatClampNeg v2)
def l_X0_layOn_25 (N : Nat) (C_sizes : (Nat → Int32)) (C_parts : Int32) (O_up : (Nat → Int32)) : Nat → Int32 → (Nat → Int32) → (Nat → Int32) → (Nat → Int32) → Option ((Nat → Int32) × (Nat → Int32) × (Nat → Int32))
  | 0, _, _, _, _ => none
  | n + 1, v2, C_lies, C_merged, C_done =>
    if (8 : Int32) ≤ v2 then
      some (C_lies, C_merged, C_done)
    else
      gd (ix v2 8) <|
      if (O_up v2.toNatClampNeg) = 0 then
        bd4 (f_X0_moveFrom N C_sizes C_lies C_merged C_done C_parts O_up v2) fun r10 c11 c12 c13 =>
        nl (v2 + 1) fun x15 =>
        l_X0_layOn_25 N C_sizes C_parts O_up n x15 c11 c12 c13
      else
        nl (v2 + 1) fun x9 =>
        l_X0_layOn_25 N C_sizes C_parts O_up n x9 C_lies C_merged C_done
def f_X0_layOn (N : Nat) (C_sizes : (Nat → Int32)) (C_lies : (Nat → Int32)) (C_merged : (Nat → Int32)) (C_done : (Nat → Int32)) (C_parts : Int32) (O_up : (Nat → Int32))  : Option ((Nat → Int32) × (Nat → Int32) × (Nat → Int32)) :=
  bd1 (l_X0_layOn_2 N C_parts N (0 : Int32) C_lies) fun e4 =>
  bd3 (l_X0_layOn_25 N C_sizes C_parts O_up N (0 : Int32) e4 C_merged C_done) fun e16 e17 e18 =>
  some (e16, e17, e18)
def f_X6_cut (N : Nat) (R_members : (Nat → Int32)) (R_starts : (Nat → Int32)) (R_inOrder : (Nat → Int32)) (R_standing : (Nat → Int32)) (R_rowsInAll : Int32) (R_made : Int32) (R_all : Int32) (C_sampled : (Nat → Int32)) (C_sampleStandings : (Nat → Int32)) (C_sizes : (Nat → Int32)) (C_ends : (Nat → Int32)) (C_lies : (Nat → Int32)) (C_merged : (Nat → Int32)) (C_reached : (Nat → Int32)) (C_done : (Nat → Int32)) (C_mergedBy : (Nat → Int32)) (C_parts : Int32) (C_samples : Int32) (C_bound : Int32) (C_ticks : Int32) (C_mergedInAll : Int32) (C_mergedAgain : Int32) (O_up : (Nat → Int32)) (v1 : Int32) (v2 : Int32) : Option (Int32 × (Nat → Int32) × (Nat → Int32) × (Nat → Int32) × (Nat → Int32) × (Nat → Int32) × (Nat → Int32) × (Nat → Int32) × (Nat → Int32) × (Nat → Int32) × Int32 × Int32 × Int32 × Int32 × Int32 × Int32) :=
  if R_made = 0 then
    some ((-1 : Int32), C_sampled, C_sampleStandings, C_sizes, C_ends, C_lies, C_merged, C_reached, C_done, C_mergedBy, C_parts, C_samples, C_bound, C_ticks, C_mergedInAll, C_mergedAgain)
  else
    bd1 (f_X6_isIn N v1 (1 : Int32) (8 : Int32)) fun r2 =>
    if r2 = 0 then
      some ((-1 : Int32), C_sampled, C_sampleStandings, C_sizes, C_ends, C_lies, C_merged, C_reached, C_done, C_mergedBy, C_parts, C_samples, C_bound, C_ticks, C_mergedInAll, C_mergedAgain)
    else
      bd1 (f_X6_isIn N v2 (1 : Int32) (20 : Int32)) fun r5 =>
      if r5 = 0 then
        some ((-1 : Int32), C_sampled, C_sampleStandings, C_sizes, C_ends, C_lies, C_merged, C_reached, C_done, C_mergedBy, C_parts, C_samples, C_bound, C_ticks, C_mergedInAll, C_mergedAgain)
      else
        bd14 (f_X0_makeOf N C_sampled C_sampleStandings C_sizes C_ends C_merged C_reached C_done C_mergedBy C_parts C_samples C_bound C_ticks C_mergedInAll C_mergedAgain R_members R_starts R_inOrder R_standing R_rowsInAll R_made R_all v1 v2) fun c8 c9 c10 c11 c12 c13 c14 c15 c16 c17 c18 c19 c20 c21 =>
        bd3 (f_X0_layOn N c10 C_lies c12 c14 c16 O_up) fun c23 c24 c25 =>
        some (c17, c8, c9, c10, c11, c23, c24, c13, c25, c15, c16, c17, c18, c19, c20, c21)
def f_X0_stands (N : Nat) (C_parts : Int32)  : Option (Int32) :=
  if C_parts ≤ 0 then
    gd (bz (0 : Int32)) <|
    some ((0 : Int32))
  else
    gd (bz (1 : Int32)) <|
    some ((1 : Int32))
def f_X6_bound (N : Nat) (C_parts : Int32) (C_bound : Int32)  : Option (Int32) :=
  bd1 (f_X0_stands N C_parts) fun r1 =>
  if r1 = 0 then
    some ((-1 : Int32))
  else
    some (C_bound)
def f_X6_part (N : Nat) (C_sizes : (Nat → Int32)) (C_ends : (Nat → Int32)) (C_lies : (Nat → Int32)) (C_merged : (Nat → Int32)) (C_parts : Int32) (v1 : Int32) (v2 : Int32) : Option (Int32) :=
  bd1 (f_X6_isIn N v1 (0 : Int32) (C_parts - 1)) fun r1 =>
  if r1 = 0 then
    some ((-2 : Int32))
  else
    if v2 = 0 then
      gd (ix v1 8) <|
      some ((C_sizes v1.toNatClampNeg))
    else
      if v2 = 1 then
        gd (ix v1 8) <|
        some ((C_merged v1.toNatClampNeg))
      else
        if v2 = 2 then
          gd (ix v1 8) <|
          some ((C_lies v1.toNatClampNeg))
        else
          if v2 = 3 then
            gd (ix v1 8) <|
            some ((C_ends v1.toNatClampNeg))
          else
            some ((-2 : Int32))
def f_X6_isHost (N : Nat)  (v0 : Int32) : Option (Int32) :=
  bd1 (f_X6_isIn N v0 (0 : Int32) (7 : Int32)) fun r1 =>
  gd (bz r1) <|
  some (r1)
def f_X6_pace (N : Nat) (O_paces : (Nat → Int32)) (v1 : Int32) (v2 : Int32) : Option (Int32 × (Nat → Int32)) :=
  bd1 (f_X6_isHost N v1) fun r1 =>
  if r1 = 0 then
    gd (bz (0 : Int32)) <|
    some ((0 : Int32), O_paces)
  else
    bd1 (f_X6_isIn N v2 (0 : Int32) (50 : Int32)) fun r5 =>
    if r5 = 0 then
      gd (bz (0 : Int32)) <|
      some ((0 : Int32), O_paces)
    else
      gd (ix v1 8) <|
      gd (bz (1 : Int32)) <|
      some ((1 : Int32), (upd O_paces v1.toNatClampNeg v2))
def f_X6_fall (N : Nat) (C_sizes : (Nat → Int32)) (C_lies : (Nat → Int32)) (C_merged : (Nat → Int32)) (C_done : (Nat → Int32)) (C_parts : Int32) (O_up : (Nat → Int32)) (v1 : Int32) : Option (Int32 × (Nat → Int32) × (Nat → Int32) × (Nat → Int32) × (Nat → Int32)) :=
  bd1 (f_X6_isHost N v1) fun r1 =>
  if r1 = 0 then
    some ((-1 : Int32), C_lies, C_merged, C_done, O_up)
  else
    gd (ix v1 8) <|
    if (O_up v1.toNatClampNeg) = 0 then
      some ((-1 : Int32), C_lies, C_merged, C_done, O_up)
    else
      gd (ix v1 8) <|
      bd4 (f_X0_moveFrom N C_sizes C_lies C_merged C_done C_parts (upd O_up v1.toNatClampNeg (vp_nar .boolean 0)) v1) fun r7 c8 c9 c10 =>
      some (r7, c8, c9, c10, (upd O_up v1.toNatClampNeg (vp_nar .boolean 0)))
def l_X0_bringTo_4 (N : Nat) (C_parts : Int32) (v1 : Int32) : Nat → Int32 → Int32 → (Nat → Int32) → Option (Int32 × (Nat → Int32))
  | 0, _, _, _ => none
  | n + 1, v2, v3, C_lies =>
    if C_parts ≤ v3 then
      some (v2, C_lies)
    else
      gd (ix v3 8) <|
      if (C_lies v3.toNatClampNeg) = (-1 : Int32) then
        gd (ix v3 8) <|
        nl (v2 + 1) fun x6 =>
        nl (v3 + 1) fun x7 =>
        l_X0_bringTo_4 N C_parts v1 n x6 x7 (upd C_lies v3.toNatClampNeg v1)
      else
        nl (v3 + 1) fun x4 =>
        l_X0_bringTo_4 N C_parts v1 n v2 x4 C_lies
def f_X0_bringTo (N : Nat) (C_lies : (Nat → Int32)) (C_parts : Int32) (v1 : Int32) : Option (Int32 × (Nat → Int32)) :=
  bd2 (l_X0_bringTo_4 N C_parts v1 N (0 : Int32) (0 : Int32) C_lies) fun e8 e9 =>
  some (e8, e9)
def f_X6_rise (N : Nat) (C_lies : (Nat → Int32)) (C_parts : Int32) (O_up : (Nat → Int32)) (v1 : Int32) : Option (Int32 × (Nat → Int32) × (Nat → Int32)) :=
  bd1 (f_X6_isHost N v1) fun r1 =>
  if r1 = 0 then
    some ((-1 : Int32), C_lies, O_up)
  else
    gd (ix v1 8) <|
    if (O_up v1.toNatClampNeg) = 0 then
      gd (ix v1 8) <|
      bd2 (f_X0_bringTo N C_lies C_parts v1) fun r7 c8 =>
      some (r7, c8, (upd O_up v1.toNatClampNeg (vp_nar .boolean 1)))
    else
      some ((-1 : Int32), C_lies, O_up)
def l_X0_partsOn_4 (N : Nat) (C_lies : (Nat → Int32)) (C_parts : Int32) (v1 : Int32) : Nat → Int32 → Int32 → Option (Int32)
  | 0, _, _ => none
  | n + 1, v2, v3 =>
    if C_parts ≤ v3 then
      some (v2)
    else
      gd (ix v3 8) <|
      if (C_lies v3.toNatClampNeg) = v1 then
        nl (v2 + 1) fun x5 =>
        nl (v3 + 1) fun x6 =>
        l_X0_partsOn_4 N C_lies C_parts v1 n x5 x6
      else
        nl (v3 + 1) fun x4 =>
        l_X0_partsOn_4 N C_lies C_parts v1 n v2 x4
def f_X0_partsOn (N : Nat) (C_lies : (Nat → Int32)) (C_parts : Int32) (v1 : Int32) : Option (Int32) :=
  bd1 (l_X0_partsOn_4 N C_lies C_parts v1 N (0 : Int32) (0 : Int32)) fun e7 =>
  some (e7)
def f_X6_host (N : Nat) (C_sizes : (Nat → Int32)) (C_lies : (Nat → Int32)) (C_merged : (Nat → Int32)) (C_mergedBy : (Nat → Int32)) (C_parts : Int32) (O_paces : (Nat → Int32)) (O_up : (Nat → Int32)) (v1 : Int32) (v2 : Int32) : Option (Int32) :=
  bd1 (f_X6_isHost N v1) fun r1 =>
  if r1 = 0 then
    some ((-1 : Int32))
  else
    if v2 = 0 then
      gd (ix v1 8) <|
      some ((O_paces v1.toNatClampNeg))
    else
      if v2 = 1 then
        gd (ix v1 8) <|
        if (O_up v1.toNatClampNeg) = 0 then
          some ((0 : Int32))
        else
          some ((1 : Int32))
      else
        if v2 = 2 then
          bd1 (f_X0_partsOn N C_lies C_parts v1) fun r10 =>
          some (r10)
        else
          if v2 = 3 then
            bd1 (f_X0_leftOn N C_sizes C_lies C_merged C_parts v1) fun r13 =>
            some (r13)
          else
            if v2 = 4 then
              gd (ix v1 8) <|
              some ((C_mergedBy v1.toNatClampNeg))
            else
              some ((-1 : Int32))
def f_X0_mergeSome (N : Nat) (C_merged : (Nat → Int32)) (C_reached : (Nat → Int32)) (C_mergedInAll : Int32) (C_mergedAgain : Int32) (v1 : Int32) (v2 : Int32) : Option ((Nat → Int32) × (Nat → Int32) × Int32 × Int32) :=
  gd (ix v1 8) <|
  gd (ix v1 8) <|
  nl (C_mergedAgain + (if (if (0 : Int32) < ((C_reached v1.toNatClampNeg) - (C_merged v1.toNatClampNeg)) then ((C_reached v1.toNatClampNeg) - (C_merged v1.toNatClampNeg)) else (0 : Int32)) < v2 then (if (0 : Int32) < ((C_reached v1.toNatClampNeg) - (C_merged v1.toNatClampNeg)) then ((C_reached v1.toNatClampNeg) - (C_merged v1.toNatClampNeg)) else (0 : Int32)) else v2)) fun x3 =>
  nl (C_mergedInAll + v2) fun x4 =>
  gd (ix v1 8) <|
  nl ((C_merged v1.toNatClampNeg) + v2) fun x6 =>
  gd (ix v1 8) <|
  gd (ix v1 8) <|
  gd (ix v1 8) <|
  nl (if (C_reached v1.toNatClampNeg) < ((upd C_merged v1.toNatClampNeg x6) v1.toNatClampNeg) then ((upd C_merged v1.toNatClampNeg x6) v1.toNatClampNeg) else (C_reached v1.toNatClampNeg)) fun x10 =>
  gd (ix v1 8) <|
  some ((upd C_merged v1.toNatClampNeg x6), (upd C_reached v1.toNatClampNeg x10), x4, x3)
def l_X0_workAtPartsOf_5 (N : Nat) (C_sizes : (Nat → Int32)) (C_lies : (Nat → Int32)) (C_parts : Int32) (v1 : Int32) : Nat → Int32 → Int32 → (Nat → Int32) → (Nat → Int32) → (Nat → Int32) → (Nat → Int32) → Int32 → Int32 → Option ((Nat → Int32) × (Nat → Int32) × (Nat → Int32) × (Nat → Int32) × Int32 × Int32)
  | 0, _, _, _, _, _, _, _, _ => none
  | n + 1, v3, v4, C_merged, C_reached, C_done, C_mergedBy, C_mergedInAll, C_mergedAgain =>
    if C_parts ≤ v4 then
      some (C_merged, C_reached, C_done, C_mergedBy, C_mergedInAll, C_mergedAgain)
    else
      gd (ix v4 8) <|
      if (C_lies v4.toNatClampNeg) = v1 then
        gd (ix v4 8) <|
        if (C_done v4.toNatClampNeg) = 0 then
          gd (ix v4 8) <|
          gd (ix v4 8) <|
          nl (if ((C_sizes v4.toNatClampNeg) - (C_merged v4.toNatClampNeg)) < v3 then ((C_sizes v4.toNatClampNeg) - (C_merged v4.toNatClampNeg)) else v3) fun x9 =>
          bd4 (f_X0_mergeSome N C_merged C_reached C_mergedInAll C_mergedAgain v4 x9) fun c10 c11 c12 c13 =>
          gd (ix v1 8) <|
          nl ((C_mergedBy v1.toNatClampNeg) + x9) fun x16 =>
          gd (ix v1 8) <|
          nl (v3 - x9) fun x18 =>
          gd (ix v4 8) <|
          gd (ix v4 8) <|
          if (C_sizes v4.toNatClampNeg) ≤ (c10 v4.toNatClampNeg) then
            gd (ix v4 8) <|
            nl (v4 + 1) fun x23 =>
            l_X0_workAtPartsOf_5 N C_sizes C_lies C_parts v1 n x18 x23 c10 c11 (upd C_done v4.toNatClampNeg (vp_nar .boolean 1)) (upd C_mergedBy v1.toNatClampNeg x16) c12 c13
          else
            some (c10, c11, C_done, (upd C_mergedBy v1.toNatClampNeg x16), c12, c13)
        else
          nl (v4 + 1) fun x24 =>
          l_X0_workAtPartsOf_5 N C_sizes C_lies C_parts v1 n v3 x24 C_merged C_reached C_done C_mergedBy C_mergedInAll C_mergedAgain
      else
        nl (v4 + 1) fun x4 =>
        l_X0_workAtPartsOf_5 N C_sizes C_lies C_parts v1 n v3 x4 C_merged C_reached C_done C_mergedBy C_mergedInAll C_mergedAgain
def f_X0_workAtPartsOf (N : Nat) (C_sizes : (Nat → Int32)) (C_lies : (Nat → Int32)) (C_merged : (Nat → Int32)) (C_reached : (Nat → Int32)) (C_done : (Nat → Int32)) (C_mergedBy : (Nat → Int32)) (C_parts : Int32) (C_mergedInAll : Int32) (C_mergedAgain : Int32) (v1 : Int32) (v2 : Int32) : Option ((Nat → Int32) × (Nat → Int32) × (Nat → Int32) × (Nat → Int32) × Int32 × Int32) :=
  bd6 (l_X0_workAtPartsOf_5 N C_sizes C_lies C_parts v1 N v2 (0 : Int32) C_merged C_reached C_done C_mergedBy C_mergedInAll C_mergedAgain) fun e25 e26 e27 e28 e29 e30 =>
  some (e25, e26, e27, e28, e29, e30)
def l_X0_goOn_17 (N : Nat) (C_sizes : (Nat → Int32)) (C_lies : (Nat → Int32)) (C_parts : Int32) (O_paces : (Nat → Int32)) (O_up : (Nat → Int32)) : Nat → Int32 → (Nat → Int32) → (Nat → Int32) → (Nat → Int32) → (Nat → Int32) → Int32 → Int32 → Option ((Nat → Int32) × (Nat → Int32) × (Nat → Int32) × (Nat → Int32) × Int32 × Int32)
  | 0, _, _, _, _, _, _, _ => none
  | n + 1, v3, C_merged, C_reached, C_done, C_mergedBy, C_mergedInAll, C_mergedAgain =>
    if (8 : Int32) ≤ v3 then
      some (C_merged, C_reached, C_done, C_mergedBy, C_mergedInAll, C_mergedAgain)
    else
      gd (ix v3 8) <|
      if (O_up v3.toNatClampNeg) = 0 then
        nl (v3 + 1) fun x5 =>
        l_X0_goOn_17 N C_sizes C_lies C_parts O_paces O_up n x5 C_merged C_reached C_done C_mergedBy C_mergedInAll C_mergedAgain
      else
        gd (ix v3 8) <|
        bd6 (f_X0_workAtPartsOf N C_sizes C_lies C_merged C_reached C_done C_mergedBy C_parts C_mergedInAll C_mergedAgain v3 (O_paces v3.toNatClampNeg)) fun c7 c8 c9 c10 c11 c12 =>
        nl (v3 + 1) fun x14 =>
        l_X0_goOn_17 N C_sizes C_lies C_parts O_paces O_up n x14 c7 c8 c9 c10 c11 c12
def f_X0_goOn (N : Nat) (C_sizes : (Nat → Int32)) (C_lies : (Nat → Int32)) (C_merged : (Nat → Int32)) (C_reached : (Nat → Int32)) (C_done : (Nat → Int32)) (C_mergedBy : (Nat → Int32)) (C_parts : Int32) (C_ticks : Int32) (C_mergedInAll : Int32) (C_mergedAgain : Int32) (O_paces : (Nat → Int32)) (O_up : (Nat → Int32))  : Option (Int32 × (Nat → Int32) × (Nat → Int32) × (Nat → Int32) × (Nat → Int32) × Int32 × Int32 × Int32) :=
  nl (C_ticks + 1) fun x1 =>
  bd6 (l_X0_goOn_17 N C_sizes C_lies C_parts O_paces O_up N (0 : Int32) C_merged C_reached C_done C_mergedBy C_mergedInAll C_mergedAgain) fun e15 e16 e17 e18 e19 e20 =>
  some ((e19 - C_mergedInAll), e15, e16, e17, e18, x1, e19, e20)
def f_X6_tick (N : Nat) (C_sizes : (Nat → Int32)) (C_lies : (Nat → Int32)) (C_merged : (Nat → Int32)) (C_reached : (Nat → Int32)) (C_done : (Nat → Int32)) (C_mergedBy : (Nat → Int32)) (C_parts : Int32) (C_ticks : Int32) (C_mergedInAll : Int32) (C_mergedAgain : Int32) (O_paces : (Nat → Int32)) (O_up : (Nat → Int32))  : Option (Int32 × (Nat → Int32) × (Nat → Int32) × (Nat → Int32) × (Nat → Int32) × Int32 × Int32 × Int32) :=
  bd1 (f_X0_stands N C_parts) fun r1 =>
  if r1 = 0 then
    some ((-1 : Int32), C_merged, C_reached, C_done, C_mergedBy, C_ticks, C_mergedInAll, C_mergedAgain)
  else
    bd8 (f_X0_goOn N C_sizes C_lies C_merged C_reached C_done C_mergedBy C_parts C_ticks C_mergedInAll C_mergedAgain O_paces O_up) fun r4 c5 c6 c7 c8 c9 c10 c11 =>
    some (r4, c5, c6, c7, c8, c9, c10, c11)
def l_X0_partsDone_4 (N : Nat) (C_done : (Nat → Int32)) (C_parts : Int32) : Nat → Int32 → Int32 → Option (Int32)
  | 0, _, _ => none
  | n + 1, v1, v2 =>
    if C_parts ≤ v2 then
      some (v1)
    else
      gd (ix v2 8) <|
      if (C_done v2.toNatClampNeg) = 0 then
        nl (v2 + 1) fun x4 =>
        l_X0_partsDone_4 N C_done C_parts n v1 x4
      else
        nl (v1 + 1) fun x5 =>
        nl (v2 + 1) fun x6 =>
        l_X0_partsDone_4 N C_done C_parts n x5 x6
def f_X0_partsDone (N : Nat) (C_done : (Nat → Int32)) (C_parts : Int32)  : Option (Int32) :=
  bd1 (l_X0_partsDone_4 N C_done C_parts N (0 : Int32) (0 : Int32)) fun e7 =>
  some (e7)
def f_X0_isAtEnd (N : Nat) (C_done : (Nat → Int32)) (C_parts : Int32)  : Option (Int32) :=
  bd1 (f_X0_stands N C_parts) fun r1 =>
  if r1 = 0 then
    gd (bz (0 : Int32)) <|
    some ((0 : Int32))
  else
    bd1 (f_X0_partsDone N C_done C_parts) fun r5 =>
    if r5 = C_parts then
      gd (bz (1 : Int32)) <|
      some ((1 : Int32))
    else
      gd (bz (0 : Int32)) <|
      some ((0 : Int32))
def f_X6_work (N : Nat) (C_done : (Nat → Int32)) (C_parts : Int32) (C_ticks : Int32) (C_mergedInAll : Int32) (C_mergedAgain : Int32) (v1 : Int32) : Option (Int32) :=
  bd1 (f_X0_stands N C_parts) fun r1 =>
  if r1 = 0 then
    some ((-1 : Int32))
  else
    if v1 = 0 then
      some (C_ticks)
    else
      if v1 = 1 then
        some (C_mergedInAll)
      else
        if v1 = 2 then
          some (C_mergedAgain)
        else
          if v1 = 3 then
            bd1 (f_X0_partsDone N C_done C_parts) fun r8 =>
            some (r8)
          else
            if v1 = 4 then
              bd1 (f_X0_isAtEnd N C_done C_parts) fun r11 =>
              if r11 = 0 then
                some ((0 : Int32))
              else
                some ((1 : Int32))
            else
              some ((-1 : Int32))
def f_X6_end (N : Nat) (R_inOrder : (Nat → Int32)) (R_rowsInAll : Int32) (C_done : (Nat → Int32)) (C_parts : Int32) (v1 : Int32) : Option (Int32) :=
  bd1 (f_X0_isAtEnd N C_done C_parts) fun r1 =>
  if r1 = 0 then
    some ((-1 : Int32))
  else
    bd1 (f_X5_rowInOrder N R_inOrder R_rowsInAll v1) fun r4 =>
    some (r4)
def f_X6_count (N : Nat) (W_count : Int32) (R_made : Int32) (C_parts : Int32) (C_samples : Int32) (v1 : Int32) : Option (Int32) :=
  if v1 = 0 then
    some (W_count)
  else
    if v1 = 1 then
      some (R_made)
    else
      if v1 = 2 then
        some (C_samples)
      else
        if v1 = 3 then
          some (C_parts)
        else
          some ((-1 : Int32))
def f_X7_is (N : Nat)  (v0 : Int32) (v1 : Int32) (v2 : Int32) : Option (Int32) :=
  if v0 < v1 then
    gd (bz (0 : Int32)) <|
    some ((0 : Int32))
  else
    if v2 < v0 then
      gd (bz (0 : Int32)) <|
      some ((0 : Int32))
    else
      gd (bz (1 : Int32)) <|
      some ((1 : Int32))
def f_X7_give (N : Nat) (M_sorts : (Nat → Int32)) (M_values : (Nat → Int32)) (M_rows : Int32) (v1 : Int32) (v2 : Int32) : Option (Int32 × (Nat → Int32) × (Nat → Int32) × Int32) :=
  bd1 (f_X7_is N v1 (0 : Int32) (3 : Int32)) fun r1 =>
  if r1 = 0 then
    some ((-1 : Int32), M_sorts, M_values, M_rows)
  else
    bd1 (f_X7_is N v2 (-100000 : Int32) (100000 : Int32)) fun r4 =>
    if r4 = 0 then
      some ((-1 : Int32), M_sorts, M_values, M_rows)
    else
      if M_rows = (400 : Int32) then
        some ((-1 : Int32), M_sorts, M_values, M_rows)
      else
        gd (ix M_rows 400) <|
        gd (ix M_rows 400) <|
        nl (M_rows + 1) fun x10 =>
        some ((x10 - 1), (upd M_sorts M_rows.toNatClampNeg v1), (upd M_values M_rows.toNatClampNeg v2), x10)
def l_X7_sow_63 (N : Nat) (v1 : Int32) (v2 : Int32) (v4 : Int32) (v5 : Int32) : Nat → Int32 → Int32 → (Nat → Int32) → (Nat → Int32) → Int32 → Option ((Nat → Int32) × (Nat → Int32) × Int32)
  | 0, _, _, _, _, _ => none
  | n + 1, v6, v7, M_sorts, M_values, M_rows =>
    if v2 ≤ v7 then
      some (M_sorts, M_values, M_rows)
    else
      nl ((1103515245 * v6) + 12345) fun x15 =>
      gd (ix M_rows 400) <|
      gd (nz v5) <|
      nl ((M_rows * v4) + ((x15.toUInt32 >>> (((8 : Int32)).toUInt32 &&& Int32.toUInt32 31)).toInt32 - (x15.toUInt32 >>> (((8 : Int32)).toUInt32 &&& Int32.toUInt32 31)).toInt32 / v5 * v5)) fun x18 =>
      gd (ix M_rows 400) <|
      nl (M_rows + 1) fun x20 =>
      nl (v7 + 1) fun x21 =>
      l_X7_sow_63 N v1 v2 v4 v5 n x15 x21 (upd M_sorts M_rows.toNatClampNeg v1) (upd M_values M_rows.toNatClampNeg x18) x20
def f_X7_sow (N : Nat) (M_sorts : (Nat → Int32)) (M_values : (Nat → Int32)) (M_rows : Int32) (v1 : Int32) (v2 : Int32) (v3 : Int32) (v4 : Int32) (v5 : Int32) : Option (Int32 × (Nat → Int32) × (Nat → Int32) × Int32) :=
  bd1 (f_X7_is N v1 (0 : Int32) (3 : Int32)) fun r1 =>
  if r1 = 0 then
    some ((-1 : Int32), M_sorts, M_values, M_rows)
  else
    bd1 (f_X7_is N v2 (1 : Int32) (100 : Int32)) fun r4 =>
    if r4 = 0 then
      some ((-1 : Int32), M_sorts, M_values, M_rows)
    else
      bd1 (f_X7_is N v4 (-100 : Int32) (100 : Int32)) fun r7 =>
      if r7 = 0 then
        some ((-1 : Int32), M_sorts, M_values, M_rows)
      else
        bd1 (f_X7_is N v5 (1 : Int32) (10000 : Int32)) fun r10 =>
        if r10 = 0 then
          some ((-1 : Int32), M_sorts, M_values, M_rows)
        else
          if (M_rows + v2) ≤ (400 : Int32) then
            bd3 (l_X7_sow_63 N v1 v2 v4 v5 N v3 (0 : Int32) M_sorts M_values M_rows) fun e22 e23 e24 =>
            some (e24, e22, e23, e24)
          else
            some ((-1 : Int32), M_sorts, M_values, M_rows)
def f_X7_clear (N : Nat) (M_rows : Int32) (M_made : Int32) (M_runs : Int32) (M_allRuns : Int32) (M_ways : Int32) (M_merges : Int32) (M_parts : Int32) (M_samples : Int32)  : Option (Int32 × Int32 × Int32 × Int32 × Int32 × Int32 × Int32 × Int32 × Int32) :=
  some (M_rows, 0, 0, 0, 0, (-1), 0, 0, 0)
def f_X7_order (N : Nat) (M_placeOf : (Nat → Int32)) (M_made : Int32) (v1 : Int32) (v2 : Int32) (v3 : Int32) (v4 : Int32) : Option (Int32 × (Nat → Int32)) :=
  if M_made = 0 then
    bd1 (f_X7_is N v1 (0 : Int32) (3 : Int32)) fun r3 =>
    if r3 = 0 then
      gd (bz (0 : Int32)) <|
      some ((0 : Int32), M_placeOf)
    else
      bd1 (f_X7_is N v2 (0 : Int32) (3 : Int32)) fun r7 =>
      if r7 = 0 then
        gd (bz (0 : Int32)) <|
        some ((0 : Int32), M_placeOf)
      else
        bd1 (f_X7_is N v3 (0 : Int32) (3 : Int32)) fun r11 =>
        if r11 = 0 then
          gd (bz (0 : Int32)) <|
          some ((0 : Int32), M_placeOf)
        else
          bd1 (f_X7_is N v4 (0 : Int32) (3 : Int32)) fun r15 =>
          if r15 = 0 then
            gd (bz (0 : Int32)) <|
            some ((0 : Int32), M_placeOf)
          else
            if v1 = v2 then
              gd (bz (0 : Int32)) <|
              some ((0 : Int32), M_placeOf)
            else
              if v1 = v3 then
                gd (bz (0 : Int32)) <|
                some ((0 : Int32), M_placeOf)
              else
                if v1 = v4 then
                  gd (bz (0 : Int32)) <|
                  some ((0 : Int32), M_placeOf)
                else
                  if v2 = v3 then
                    gd (bz (0 : Int32)) <|
                    some ((0 : Int32), M_placeOf)
                  else
                    if v2 = v4 then
                      gd (bz (0 : Int32)) <|
                      some ((0 : Int32), M_placeOf)
                    else
                      if v3 = v4 then
                        gd (bz (0 : Int32)) <|
                        some ((0 : Int32), M_placeOf)
                      else
                        gd (ix v1 4) <|
                        gd (ix v2 4) <|
                        gd (ix v3 4) <|
                        gd (ix v4 4) <|
                        gd (bz (1 : Int32)) <|
                        some ((1 : Int32), (upd (upd (upd (upd M_placeOf v1.toNatClampNeg 0) v2.toNatClampNeg 1) v3.toNatClampNeg 2) v4.toNatClampNeg 3))
  else
    gd (bz (0 : Int32)) <|
    some ((0 : Int32), M_placeOf)
def f_X7_falls (N : Nat) (M_falling : (Nat → Int32)) (M_made : Int32) (v1 : Int32) (v2 : Int32) : Option (Int32 × (Nat → Int32)) :=
  if M_made = 0 then
    bd1 (f_X7_is N v1 (0 : Int32) (3 : Int32)) fun r3 =>
    if r3 = 0 then
      gd (bz (0 : Int32)) <|
      some ((0 : Int32), M_falling)
    else
      gd (ix v1 4) <|
      gd (bz (1 : Int32)) <|
      some ((1 : Int32), (upd M_falling v1.toNatClampNeg (vp_nar .boolean v2)))
  else
    gd (bz (0 : Int32)) <|
    some ((0 : Int32), M_falling)
def f_X7_isRow (N : Nat) (M_rows : Int32) (v1 : Int32) : Option (Int32) :=
  if v1 < 0 then
    gd (bz (0 : Int32)) <|
    some ((0 : Int32))
  else
    if M_rows ≤ v1 then
      gd (bz (0 : Int32)) <|
      some ((0 : Int32))
    else
      gd (bz (1 : Int32)) <|
      some ((1 : Int32))
def f_X7_row (N : Nat) (M_sorts : (Nat → Int32)) (M_values : (Nat → Int32)) (M_rows : Int32) (v1 : Int32) (v2 : Int32) : Option (Int32) :=
  bd1 (f_X7_isRow N M_rows v1) fun r1 =>
  if r1 = 0 then
    some ((-1000000 : Int32))
  else
    bd1 (f_X7_is N v2 (0 : Int32) (1 : Int32)) fun r4 =>
    if r4 = 0 then
      some ((-1000000 : Int32))
    else
      if v2 = 0 then
        gd (ix v1 400) <|
        some ((M_sorts v1.toNatClampNeg))
      else
        gd (ix v1 400) <|
        some ((M_values v1.toNatClampNeg))
def f_X7_ahead (N : Nat) (M_sorts : (Nat → Int32)) (M_values : (Nat → Int32)) (M_placeOf : (Nat → Int32)) (M_falling : (Nat → Int32)) (v1 : Int32) (v2 : Int32) : Option (Int32) :=
  gd (ix v1 400) <|
  gd (ix v2 400) <|
  if (M_sorts v1.toNatClampNeg) = (M_sorts v2.toNatClampNeg) then
    gd (ix v1 400) <|
    gd (ix v2 400) <|
    if (M_values v1.toNatClampNeg) = (M_values v2.toNatClampNeg) then
      if v2 ≤ v1 then
        gd (bz (0 : Int32)) <|
        some ((0 : Int32))
      else
        gd (bz (1 : Int32)) <|
        some ((1 : Int32))
    else
      gd (ix v1 400) <|
      gd (ix v2 400) <|
      bd1 (if (M_values v2.toNatClampNeg) ≤ (M_values v1.toNatClampNeg) then
          some ((0 : Int32))
        else
          some ((1 : Int32)))
        fun y12 =>
      gd (ix v1 400) <|
      gd (ix (M_sorts v1.toNatClampNeg) 4) <|
      if y12 = (M_falling (M_sorts v1.toNatClampNeg).toNatClampNeg) then
        gd (bz (0 : Int32)) <|
        some ((0 : Int32))
      else
        gd (bz (1 : Int32)) <|
        some ((1 : Int32))
  else
    gd (ix v1 400) <|
    gd (ix (M_sorts v1.toNatClampNeg) 4) <|
    gd (ix v2 400) <|
    gd (ix (M_sorts v2.toNatClampNeg) 4) <|
    if (M_placeOf (M_sorts v2.toNatClampNeg).toNatClampNeg) ≤ (M_placeOf (M_sorts v1.toNatClampNeg).toNatClampNeg) then
      gd (bz (0 : Int32)) <|
      some ((0 : Int32))
    else
      gd (bz (1 : Int32)) <|
      some ((1 : Int32))
def f_X7_against (N : Nat) (M_sorts : (Nat → Int32)) (M_values : (Nat → Int32)) (M_rows : Int32) (M_placeOf : (Nat → Int32)) (M_falling : (Nat → Int32)) (v1 : Int32) (v2 : Int32) : Option (Int32) :=
  bd1 (f_X7_isRow N M_rows v1) fun r1 =>
  if r1 = 0 then
    some ((-2 : Int32))
  else
    bd1 (f_X7_isRow N M_rows v2) fun r4 =>
    if r4 = 0 then
      some ((-2 : Int32))
    else
      if v1 = v2 then
        some ((0 : Int32))
      else
        bd1 (f_X7_ahead N M_sorts M_values M_placeOf M_falling v1 v2) fun r8 =>
        if r8 = 0 then
          some ((1 : Int32))
        else
          some ((-1 : Int32))
def l_X7_rank_14 (N : Nat) (M_sorts : (Nat → Int32)) (M_values : (Nat → Int32)) (M_rows : Int32) (M_placeOf : (Nat → Int32)) (M_falling : (Nat → Int32)) (v1 : Int32) : Nat → Int32 → Int32 → Option (Int32)
  | 0, _, _ => none
  | n + 1, v2, v3 =>
    if M_rows ≤ v3 then
      some (v2)
    else
      if v3 = v1 then
        nl (v2 + 0) fun x6 =>
        nl (v3 + 1) fun x7 =>
        l_X7_rank_14 N M_sorts M_values M_rows M_placeOf M_falling v1 n x6 x7
      else
        bd1 (f_X7_ahead N M_sorts M_values M_placeOf M_falling v3 v1) fun r8 =>
        if r8 = 0 then
          nl (v2 + 0) fun x11 =>
          nl (v3 + 1) fun x12 =>
          l_X7_rank_14 N M_sorts M_values M_rows M_placeOf M_falling v1 n x11 x12
        else
          nl (v2 + 1) fun x13 =>
          nl (v3 + 1) fun x14 =>
          l_X7_rank_14 N M_sorts M_values M_rows M_placeOf M_falling v1 n x13 x14
def f_X7_rank (N : Nat) (M_sorts : (Nat → Int32)) (M_values : (Nat → Int32)) (M_rows : Int32) (M_placeOf : (Nat → Int32)) (M_falling : (Nat → Int32)) (v1 : Int32) : Option (Int32) :=
  bd1 (f_X7_isRow N M_rows v1) fun r1 =>
  if r1 = 0 then
    some ((-1 : Int32))
  else
    bd1 (l_X7_rank_14 N M_sorts M_values M_rows M_placeOf M_falling v1 N (0 : Int32) (0 : Int32)) fun e15 =>
    some (e15)
def l_X7_runs_46 (N : Nat) (M_rows : Int32) (v1 : Int32) : Nat → Int32 → Int32 → (Nat → Int32) → Option (Int32 × Int32 × (Nat → Int32))
  | 0, _, _, _ => none
  | n + 1, v2, v3, M_heap =>
    if v1 ≤ v2 then
      some (v2, v3, M_heap)
    else
      if M_rows ≤ v3 then
        some (v2, v3, M_heap)
      else
        gd (ix v2 40) <|
        nl (v2 + 1) fun x7 =>
        nl (v3 + 1) fun x8 =>
        l_X7_runs_46 N M_rows v1 n x7 x8 (upd M_heap v2.toNatClampNeg v3)
def l_X7_runs_88 (N : Nat) (M_sorts : (Nat → Int32)) (M_values : (Nat → Int32)) (M_placeOf : (Nat → Int32)) (M_falling : (Nat → Int32)) (M_heap : (Nat → Int32)) (v2 : Int32) (v4 : Int32) : Nat → Int32 → Int32 → Option (Int32)
  | 0, _, _ => none
  | n + 1, v5, v6 =>
    if v2 ≤ v6 then
      some (v5)
    else
      if v4 = (-1 : Int32) then
        if v5 = (-1 : Int32) then
          nl (v6 + 1) fun x17 =>
          l_X7_runs_88 N M_sorts M_values M_placeOf M_falling M_heap v2 v4 n v6 x17
        else
          gd (ix v6 40) <|
          gd (ix v5 40) <|
          bd1 (f_X7_ahead N M_sorts M_values M_placeOf M_falling (M_heap v6.toNatClampNeg) (M_heap v5.toNatClampNeg)) fun r20 =>
          if r20 = 0 then
            nl (v6 + 1) fun x23 =>
            l_X7_runs_88 N M_sorts M_values M_placeOf M_falling M_heap v2 v4 n v5 x23
          else
            nl (v6 + 1) fun x24 =>
            l_X7_runs_88 N M_sorts M_values M_placeOf M_falling M_heap v2 v4 n v6 x24
      else
        gd (ix v6 40) <|
        bd1 (f_X7_ahead N M_sorts M_values M_placeOf M_falling (M_heap v6.toNatClampNeg) v4) fun r26 =>
        if r26 = 0 then
          if v5 = (-1 : Int32) then
            nl (v6 + 1) fun x30 =>
            l_X7_runs_88 N M_sorts M_values M_placeOf M_falling M_heap v2 v4 n v6 x30
          else
            gd (ix v6 40) <|
            gd (ix v5 40) <|
            bd1 (f_X7_ahead N M_sorts M_values M_placeOf M_falling (M_heap v6.toNatClampNeg) (M_heap v5.toNatClampNeg)) fun r33 =>
            if r33 = 0 then
              nl (v6 + 1) fun x36 =>
              l_X7_runs_88 N M_sorts M_values M_placeOf M_falling M_heap v2 v4 n v5 x36
            else
              nl (v6 + 1) fun x37 =>
              l_X7_runs_88 N M_sorts M_values M_placeOf M_falling M_heap v2 v4 n v6 x37
        else
          nl (v6 + 1) fun x38 =>
          l_X7_runs_88 N M_sorts M_values M_placeOf M_falling M_heap v2 v4 n v5 x38
def l_X7_runs_78 (N : Nat) (M_sorts : (Nat → Int32)) (M_values : (Nat → Int32)) (M_rows : Int32) (M_placeOf : (Nat → Int32)) (M_falling : (Nat → Int32)) : Nat → Int32 → Int32 → Int32 → Int32 → (Nat → Int32) → (Nat → Int32) → (Nat → Int32) → Int32 → (Nat → Int32) → Option (Int32 × (Nat → Int32) × (Nat → Int32) × (Nat → Int32) × Int32 × (Nat → Int32))
  | 0, _, _, _, _, _, _, _, _, _ => none
  | n + 1, v2, v3, v4, M_runs, M_begin, M_size, M_pool, M_pooled, M_heap =>
    if v2 ≤ 0 then
      some (M_runs, M_begin, M_size, M_pool, M_pooled, M_heap)
    else
      bd1 (l_X7_runs_88 N M_sorts M_values M_placeOf M_falling M_heap v2 v4 N (-1 : Int32) (0 : Int32)) fun e39 =>
      if e39 = (-1 : Int32) then
        l_X7_runs_78 N M_sorts M_values M_rows M_placeOf M_falling n v2 v3 (-1 : Int32) M_runs M_begin M_size M_pool M_pooled M_heap
      else
        bd3 (if v4 = (-1 : Int32) then
            gd (ix M_runs 800) <|
            gd (ix M_runs 800) <|
            nl (M_runs + 1) fun x63 =>
            some (x63, (upd M_begin M_runs.toNatClampNeg M_pooled), (upd M_size M_runs.toNatClampNeg 0))
          else
            some (M_runs, M_begin, M_size))
          fun y42 y43 y44 =>
        gd (ix e39 40) <|
        nl (M_heap e39.toNatClampNeg) fun x47 =>
        gd (ix M_pooled 800) <|
        nl (M_pooled + 1) fun x49 =>
        gd (ix (y42 - 1) 800) <|
        nl ((y44 (y42 - 1).toNatClampNeg) + 1) fun x51 =>
        gd (ix (y42 - 1) 800) <|
        if M_rows ≤ v3 then
          nl (v2 + (-1)) fun x54 =>
          gd (ix x54 40) <|
          nl (M_heap x54.toNatClampNeg) fun x56 =>
          gd (ix e39 40) <|
          l_X7_runs_78 N M_sorts M_values M_rows M_placeOf M_falling n x54 v3 x47 y42 y43 (upd y44 (y42 - 1).toNatClampNeg x51) (upd M_pool M_pooled.toNatClampNeg x47) x49 (upd M_heap e39.toNatClampNeg x56)
        else
          gd (ix e39 40) <|
          nl (v3 + 1) fun x59 =>
          l_X7_runs_78 N M_sorts M_values M_rows M_placeOf M_falling n v2 x59 x47 y42 y43 (upd y44 (y42 - 1).toNatClampNeg x51) (upd M_pool M_pooled.toNatClampNeg x47) x49 (upd M_heap e39.toNatClampNeg v3)
def f_X7_runs (N : Nat) (M_sorts : (Nat → Int32)) (M_values : (Nat → Int32)) (M_rows : Int32) (M_placeOf : (Nat → Int32)) (M_falling : (Nat → Int32)) (M_made : Int32) (M_runs : Int32) (M_allRuns : Int32) (M_begin : (Nat → Int32)) (M_size : (Nat → Int32)) (M_pool : (Nat → Int32)) (M_pooled : Int32) (M_ways : Int32) (M_merges : Int32) (M_parts : Int32) (M_samples : Int32) (M_heap : (Nat → Int32)) (v1 : Int32) : Option (Int32 × Int32 × Int32 × Int32 × (Nat → Int32) × (Nat → Int32) × (Nat → Int32) × Int32 × Int32 × Int32 × Int32 × Int32 × (Nat → Int32)) :=
  bd1 (f_X7_is N v1 (1 : Int32) (40 : Int32)) fun r1 =>
  if r1 = 0 then
    some ((-1 : Int32), M_made, M_runs, M_allRuns, M_begin, M_size, M_pool, M_pooled, M_ways, M_merges, M_parts, M_samples, M_heap)
  else
    bd3 (l_X7_runs_46 N M_rows v1 N (0 : Int32) (0 : Int32) M_heap) fun e9 e10 e11 =>
    bd6 (l_X7_runs_78 N M_sorts M_values M_rows M_placeOf M_falling N e9 e10 (-1 : Int32) 0 M_begin M_size M_pool 0 e11) fun e64 e65 e66 e67 e68 e69 =>
    if e64 ≤ 0 then
      some (e64, 0, e64, e64, e65, e66, e67, e68, (-1), 0, 0, 0, e69)
    else
      some (e64, 1, e64, e64, e65, e66, e67, e68, (-1), 0, 0, 0, e69)
def f_X7_length (N : Nat) (M_allRuns : Int32) (M_size : (Nat → Int32)) (v1 : Int32) : Option (Int32) :=
  if v1 < 0 then
    some ((-1 : Int32))
  else
    if v1 < M_allRuns then
      gd (ix v1 800) <|
      some ((M_size v1.toNatClampNeg))
    else
      some ((-1 : Int32))
def f_X7_at (N : Nat) (M_allRuns : Int32) (M_begin : (Nat → Int32)) (M_size : (Nat → Int32)) (M_pool : (Nat → Int32)) (v1 : Int32) (v2 : Int32) : Option (Int32) :=
  if v1 < 0 then
    some ((-1 : Int32))
  else
    if M_allRuns ≤ v1 then
      some ((-1 : Int32))
    else
      if v2 < 0 then
        some ((-1 : Int32))
      else
        gd (ix v1 800) <|
        if v2 < (M_size v1.toNatClampNeg) then
          gd (ix v1 800) <|
          gd (ix ((M_begin v1.toNatClampNeg) + v2) 800) <|
          some ((M_pool ((M_begin v1.toNatClampNeg) + v2).toNatClampNeg))
        else
          some ((-1 : Int32))
def l_X7_moves_9 (N : Nat) (M_size : (Nat → Int32)) (v4 : Int32) : Nat → Int32 → (Nat → Int32) → (Nat → Int32) → Option ((Nat → Int32) × (Nat → Int32))
  | 0, _, _, _ => none
  | n + 1, v5, M_used, M_planned =>
    if v4 ≤ v5 then
      some (M_used, M_planned)
    else
      gd (ix v5 800) <|
      nl (M_size v5.toNatClampNeg) fun x3 =>
      gd (ix v5 800) <|
      gd (ix v5 800) <|
      nl (v5 + 1) fun x6 =>
      l_X7_moves_9 N M_size v4 n x6 (upd M_used v5.toNatClampNeg (vp_nar .boolean 0)) (upd M_planned v5.toNatClampNeg x3)
def l_X7_moves_119 (N : Nat) (M_used : (Nat → Int32)) (M_planned : (Nat → Int32)) (v2 : Int32) (v4 : Int32) (v7 : Int32) : Nat → Int32 → Int32 → Option (Int32)
  | 0, _, _ => none
  | n + 1, v10, v11 =>
    if (v4 + v7) ≤ v11 then
      some (v10)
    else
      gd (ix v11 800) <|
      if (M_used v11.toNatClampNeg) = 0 then
        if v10 = (-1 : Int32) then
          nl (v11 + 1) fun x20 =>
          l_X7_moves_119 N M_used M_planned v2 v4 v7 n v11 x20
        else
          if v2 = 0 then
            nl (v11 + 1) fun x22 =>
            l_X7_moves_119 N M_used M_planned v2 v4 v7 n v10 x22
          else
            gd (ix v11 800) <|
            gd (ix v10 800) <|
            if (M_planned v10.toNatClampNeg) ≤ (M_planned v11.toNatClampNeg) then
              nl (v11 + 1) fun x26 =>
              l_X7_moves_119 N M_used M_planned v2 v4 v7 n v10 x26
            else
              nl (v11 + 1) fun x27 =>
              l_X7_moves_119 N M_used M_planned v2 v4 v7 n v11 x27
      else
        nl (v11 + 1) fun x28 =>
        l_X7_moves_119 N M_used M_planned v2 v4 v7 n v10 x28
def l_X7_moves_106 (N : Nat) (v2 : Int32) (v3 : Int32) (v4 : Int32) (v7 : Int32) (v8 : Int32) : Nat → Int32 → (Nat → Int32) → (Nat → Int32) → (Nat → Int32) → Option ((Nat → Int32) × (Nat → Int32) × (Nat → Int32))
  | 0, _, _, _, _ => none
  | n + 1, v9, M_taken, M_used, M_planned =>
    if v8 ≤ v9 then
      some (M_taken, M_used, M_planned)
    else
      bd1 (l_X7_moves_119 N M_used M_planned v2 v4 v7 N (-1 : Int32) (0 : Int32)) fun e29 =>
      gd (ix e29 800) <|
      gd (ix (v4 + v7) 800) <|
      gd (ix e29 800) <|
      nl ((M_planned (v4 + v7).toNatClampNeg) + (M_planned e29.toNatClampNeg)) fun x34 =>
      gd (ix (v4 + v7) 800) <|
      if v3 = 0 then
        nl (v9 + 1) fun x37 =>
        l_X7_moves_106 N v2 v3 v4 v7 v8 n x37 M_taken (upd M_used e29.toNatClampNeg (vp_nar .boolean 1)) (upd M_planned (v4 + v7).toNatClampNeg x34)
      else
        gd (ix ((8 * v7) + v9) 3200) <|
        nl (v9 + 1) fun x39 =>
        l_X7_moves_106 N v2 v3 v4 v7 v8 n x39 (upd M_taken ((8 * v7) + v9).toNatClampNeg e29) (upd M_used e29.toNatClampNeg (vp_nar .boolean 1)) (upd M_planned (v4 + v7).toNatClampNeg x34)
def l_X7_moves_54 (N : Nat) (v1 : Int32) (v2 : Int32) (v3 : Int32) (v4 : Int32) : Nat → Int32 → Int32 → Int32 → (Nat → Int32) → (Nat → Int32) → (Nat → Int32) → (Nat → Int32) → Option (Int32 × Int32 × (Nat → Int32) × (Nat → Int32) × (Nat → Int32) × (Nat → Int32))
  | 0, _, _, _, _, _, _, _ => none
  | n + 1, v5, v6, v7, M_takes, M_taken, M_used, M_planned =>
    if v5 ≤ (1 : Int32) then
      some (v6, v7, M_takes, M_taken, M_used, M_planned)
    else
      bd1 (if v7 = 0 then
          gd (nz (v1 - 1)) <|
          some ((2 + ((v4 - 2) - (v4 - 2) / (v1 - 1) * (v1 - 1))))
        else
          some (v1))
        fun y11 =>
      gd (ix (v4 + v7) 800) <|
      gd (ix (v4 + v7) 800) <|
      bd3 (l_X7_moves_106 N v2 v3 v4 v7 y11 N (0 : Int32) M_taken (upd M_used (v4 + v7).toNatClampNeg (vp_nar .boolean 0)) (upd M_planned (v4 + v7).toNatClampNeg 0)) fun e40 e41 e42 =>
      bd1 (if v3 = 0 then
          some (M_takes)
        else
          gd (ix v7 400) <|
          some ((upd M_takes v7.toNatClampNeg y11)))
        fun y44 =>
      gd (ix (v4 + v7) 800) <|
      nl (v6 + (e42 (v4 + v7).toNatClampNeg)) fun x47 =>
      nl (v5 - (y11 - 1)) fun x48 =>
      nl (v7 + 1) fun x49 =>
      l_X7_moves_54 N v1 v2 v3 v4 n x48 x47 x49 y44 e40 e41 e42
def f_X7_moves (N : Nat) (M_runs : Int32) (M_size : (Nat → Int32)) (M_merges : Int32) (M_takes : (Nat → Int32)) (M_taken : (Nat → Int32)) (M_used : (Nat → Int32)) (M_planned : (Nat → Int32)) (v1 : Int32) (v2 : Int32) (v3 : Int32) : Option (Int32 × Int32 × (Nat → Int32) × (Nat → Int32) × (Nat → Int32) × (Nat → Int32)) :=
  bd2 (l_X7_moves_9 N M_size M_runs N (0 : Int32) M_used M_planned) fun e7 e8 =>
  bd6 (l_X7_moves_54 N v1 v2 v3 M_runs N M_runs (0 : Int32) (0 : Int32) M_takes M_taken e7 e8) fun e54 e55 e56 e57 e58 e59 =>
  if v3 = 0 then
    some (e54, M_merges, e56, e57, e58, e59)
  else
    some (e54, e55, e56, e57, e58, e59)
def f_X7_plan (N : Nat) (M_made : Int32) (M_runs : Int32) (M_allRuns : Int32) (M_begin : (Nat → Int32)) (M_size : (Nat → Int32)) (M_pooled : Int32) (M_ways : Int32) (M_merges : Int32) (M_takes : (Nat → Int32)) (M_taken : (Nat → Int32)) (M_used : (Nat → Int32)) (M_planned : (Nat → Int32)) (v1 : Int32) : Option (Int32 × Int32 × Int32 × Int32 × Int32 × (Nat → Int32) × (Nat → Int32) × (Nat → Int32) × (Nat → Int32)) :=
  if M_made = 0 then
    some ((-1 : Int32), M_allRuns, M_pooled, M_ways, M_merges, M_takes, M_taken, M_used, M_planned)
  else
    bd1 (f_X7_is N v1 (2 : Int32) (8 : Int32)) fun r2 =>
    if r2 = 0 then
      some ((-1 : Int32), M_allRuns, M_pooled, M_ways, M_merges, M_takes, M_taken, M_used, M_planned)
    else
      bd1 (if M_runs = 0 then
          some ((0 : Int32))
        else
          gd (ix (M_runs - 1) 800) <|
          gd (ix (M_runs - 1) 800) <|
          some (((M_begin (M_runs - 1).toNatClampNeg) + (M_size (M_runs - 1).toNatClampNeg))))
        fun y5 =>
      bd6 (f_X7_moves N M_runs M_size M_merges M_takes M_taken M_used M_planned v1 (1 : Int32) (1 : Int32)) fun r7 c8 c9 c10 c11 c12 =>
      some (r7, M_runs, y5, v1, c8, c9, c10, c11, c12)
def f_X7_queue (N : Nat) (M_made : Int32) (M_runs : Int32) (M_size : (Nat → Int32)) (M_merges : Int32) (M_takes : (Nat → Int32)) (M_taken : (Nat → Int32)) (M_used : (Nat → Int32)) (M_planned : (Nat → Int32)) (v1 : Int32) : Option (Int32 × Int32 × (Nat → Int32) × (Nat → Int32) × (Nat → Int32) × (Nat → Int32)) :=
  if M_made = 0 then
    some ((-1 : Int32), M_merges, M_takes, M_taken, M_used, M_planned)
  else
    bd1 (f_X7_is N v1 (2 : Int32) (8 : Int32)) fun r2 =>
    if r2 = 0 then
      some ((-1 : Int32), M_merges, M_takes, M_taken, M_used, M_planned)
    else
      bd6 (f_X7_moves N M_runs M_size M_merges M_takes M_taken M_used M_planned v1 (0 : Int32) (0 : Int32)) fun r5 c6 c7 c8 c9 c10 =>
      some (r5, c6, c7, c8, c9, c10)
def f_X7_merges (N : Nat) (M_merges : Int32)  : Option (Int32) :=
  some (M_merges)
def f_X7_takes (N : Nat) (M_merges : Int32) (M_takes : (Nat → Int32)) (M_taken : (Nat → Int32)) (v1 : Int32) (v2 : Int32) : Option (Int32) :=
  if v1 < 0 then
    some ((-1 : Int32))
  else
    if M_merges ≤ v1 then
      some ((-1 : Int32))
    else
      if v2 < 0 then
        some ((-1 : Int32))
      else
        gd (ix v1 400) <|
        if v2 < (M_takes v1.toNatClampNeg) then
          gd (ix ((8 * v1) + v2) 3200) <|
          some ((M_taken ((8 * v1) + v2).toNatClampNeg))
        else
          some ((-1 : Int32))
def l_X7_merge_70 (N : Nat)  : Nat → Int32 → (Nat → Int32) → Option ((Nat → Int32))
  | 0, _, _ => none
  | n + 1, v3, M_gone =>
    if (8 : Int32) ≤ v3 then
      some (M_gone)
    else
      gd (ix v3 8) <|
      nl (v3 + 1) fun x7 =>
      l_X7_merge_70 N n x7 (upd M_gone v3.toNatClampNeg 0)
def l_X7_merge_128 (N : Nat) (M_sorts : (Nat → Int32)) (M_values : (Nat → Int32)) (M_placeOf : (Nat → Int32)) (M_falling : (Nat → Int32)) (M_begin : (Nat → Int32)) (M_size : (Nat → Int32)) (M_pool : (Nat → Int32)) (M_takes : (Nat → Int32)) (M_taken : (Nat → Int32)) (M_gone : (Nat → Int32)) (v2 : Int32) : Nat → Int32 → Int32 → Int32 → Option (Int32 × Int32)
  | 0, _, _, _ => none
  | n + 1, v5, v6, v7 =>
    gd (ix v2 400) <|
    if (M_takes v2.toNatClampNeg) ≤ v7 then
      some (v5, v6)
    else
      gd (ix ((8 * v2) + v7) 3200) <|
      nl (M_taken ((8 * v2) + v7).toNatClampNeg) fun x16 =>
      gd (ix v7 8) <|
      gd (ix x16 800) <|
      if (M_gone v7.toNatClampNeg) = (M_size x16.toNatClampNeg) then
        nl (v7 + 1) fun x35 =>
        l_X7_merge_128 N M_sorts M_values M_placeOf M_falling M_begin M_size M_pool M_takes M_taken M_gone v2 n v5 v6 x35
      else
        nl (v6 + 1) fun x20 =>
        if v5 = (-1 : Int32) then
          nl (v7 + 1) fun x22 =>
          l_X7_merge_128 N M_sorts M_values M_placeOf M_falling M_begin M_size M_pool M_takes M_taken M_gone v2 n v7 x20 x22
        else
          gd (ix x16 800) <|
          gd (ix v7 8) <|
          gd (ix ((M_begin x16.toNatClampNeg) + (M_gone v7.toNatClampNeg)) 800) <|
          gd (ix ((8 * v2) + v5) 3200) <|
          gd (ix (M_taken ((8 * v2) + v5).toNatClampNeg) 800) <|
          gd (ix v5 8) <|
          gd (ix ((M_begin (M_taken ((8 * v2) + v5).toNatClampNeg).toNatClampNeg) + (M_gone v5.toNatClampNeg)) 800) <|
          bd1 (f_X7_ahead N M_sorts M_values M_placeOf M_falling (M_pool ((M_begin x16.toNatClampNeg) + (M_gone v7.toNatClampNeg)).toNatClampNeg) (M_pool ((M_begin (M_taken ((8 * v2) + v5).toNatClampNeg).toNatClampNeg) + (M_gone v5.toNatClampNeg)).toNatClampNeg)) fun r30 =>
          if r30 = 0 then
            nl (v7 + 1) fun x33 =>
            l_X7_merge_128 N M_sorts M_values M_placeOf M_falling M_begin M_size M_pool M_takes M_taken M_gone v2 n v5 x20 x33
          else
            nl (v7 + 1) fun x34 =>
            l_X7_merge_128 N M_sorts M_values M_placeOf M_falling M_begin M_size M_pool M_takes M_taken M_gone v2 n v7 x20 x34
def l_X7_merge_114 (N : Nat) (M_sorts : (Nat → Int32)) (M_values : (Nat → Int32)) (M_placeOf : (Nat → Int32)) (M_falling : (Nat → Int32)) (M_begin : (Nat → Int32)) (M_takes : (Nat → Int32)) (M_taken : (Nat → Int32)) (v2 : Int32) (v3 : Int32) : Nat → Int32 → Int32 → (Nat → Int32) → (Nat → Int32) → Int32 → (Nat → Int32) → Option (Int32 × (Nat → Int32) × (Nat → Int32) × Int32 × (Nat → Int32))
  | 0, _, _, _, _, _, _ => none
  | n + 1, v1, v4, M_size, M_pool, M_pooled, M_gone =>
    if v4 = 0 then
      some (v1, M_size, M_pool, M_pooled, M_gone)
    else
      bd2 (l_X7_merge_128 N M_sorts M_values M_placeOf M_falling M_begin M_size M_pool M_takes M_taken M_gone v2 N (-1 : Int32) (0 : Int32) (0 : Int32)) fun e36 e37 =>
      bd1 (if e36 = (-1 : Int32) then
          some ((0 : Int32))
        else
          some ((1 : Int32)))
        fun y39 =>
      if y39 = 0 then
        l_X7_merge_114 N M_sorts M_values M_placeOf M_falling M_begin M_takes M_taken v2 v3 n v1 y39 M_size M_pool M_pooled M_gone
      else
        nl (v1 + (e37 - 1)) fun x42 =>
        gd (ix ((8 * v2) + e36) 3200) <|
        gd (ix (M_taken ((8 * v2) + e36).toNatClampNeg) 800) <|
        gd (ix e36 8) <|
        gd (ix ((M_begin (M_taken ((8 * v2) + e36).toNatClampNeg).toNatClampNeg) + (M_gone e36.toNatClampNeg)) 800) <|
        nl (M_pool ((M_begin (M_taken ((8 * v2) + e36).toNatClampNeg).toNatClampNeg) + (M_gone e36.toNatClampNeg)).toNatClampNeg) fun x47 =>
        gd (ix M_pooled 800) <|
        nl (M_pooled + 1) fun x49 =>
        gd (ix v3 800) <|
        nl ((M_size v3.toNatClampNeg) + 1) fun x51 =>
        gd (ix v3 800) <|
        gd (ix e36 8) <|
        nl ((M_gone e36.toNatClampNeg) + 1) fun x54 =>
        gd (ix e36 8) <|
        l_X7_merge_114 N M_sorts M_values M_placeOf M_falling M_begin M_takes M_taken v2 v3 n x42 y39 (upd M_size v3.toNatClampNeg x51) (upd M_pool M_pooled.toNatClampNeg x47) x49 (upd M_gone e36.toNatClampNeg x54)
def l_X7_merge_60 (N : Nat) (M_sorts : (Nat → Int32)) (M_values : (Nat → Int32)) (M_placeOf : (Nat → Int32)) (M_falling : (Nat → Int32)) (M_merges : Int32) (M_takes : (Nat → Int32)) (M_taken : (Nat → Int32)) : Nat → Int32 → Int32 → Int32 → (Nat → Int32) → (Nat → Int32) → (Nat → Int32) → Int32 → (Nat → Int32) → Option (Int32 × Int32 × (Nat → Int32) × (Nat → Int32) × (Nat → Int32) × Int32 × (Nat → Int32))
  | 0, _, _, _, _, _, _, _, _ => none
  | n + 1, v1, v2, M_allRuns, M_begin, M_size, M_pool, M_pooled, M_gone =>
    if M_merges ≤ v2 then
      some (v1, M_allRuns, M_begin, M_size, M_pool, M_pooled, M_gone)
    else
      bd1 (l_X7_merge_70 N N (0 : Int32) M_gone) fun e8 =>
      gd (ix M_allRuns 800) <|
      gd (ix M_allRuns 800) <|
      bd5 (l_X7_merge_114 N M_sorts M_values M_placeOf M_falling (upd M_begin M_allRuns.toNatClampNeg M_pooled) M_takes M_taken v2 M_allRuns N v1 (1 : Int32) (upd M_size M_allRuns.toNatClampNeg 0) M_pool M_pooled e8) fun e57 e58 e59 e60 e61 =>
      nl (M_allRuns + 1) fun x63 =>
      nl (v2 + 1) fun x64 =>
      l_X7_merge_60 N M_sorts M_values M_placeOf M_falling M_merges M_takes M_taken n e57 x64 x63 (upd M_begin M_allRuns.toNatClampNeg M_pooled) e58 e59 e60 e61
def f_X7_merge (N : Nat) (M_sorts : (Nat → Int32)) (M_values : (Nat → Int32)) (M_placeOf : (Nat → Int32)) (M_falling : (Nat → Int32)) (M_runs : Int32) (M_allRuns : Int32) (M_begin : (Nat → Int32)) (M_size : (Nat → Int32)) (M_pool : (Nat → Int32)) (M_pooled : Int32) (M_ways : Int32) (M_merges : Int32) (M_takes : (Nat → Int32)) (M_taken : (Nat → Int32)) (M_gone : (Nat → Int32))  : Option (Int32 × Int32 × (Nat → Int32) × (Nat → Int32) × (Nat → Int32) × Int32 × (Nat → Int32)) :=
  if M_ways = (-1 : Int32) then
    some ((-1 : Int32), M_allRuns, M_begin, M_size, M_pool, M_pooled, M_gone)
  else
    bd1 (if M_runs = 0 then
        some ((0 : Int32))
      else
        gd (ix (M_runs - 1) 800) <|
        gd (ix (M_runs - 1) 800) <|
        some (((M_begin (M_runs - 1).toNatClampNeg) + (M_size (M_runs - 1).toNatClampNeg))))
      fun y2 =>
    bd7 (l_X7_merge_60 N M_sorts M_values M_placeOf M_falling M_merges M_takes M_taken N (0 : Int32) (0 : Int32) M_runs M_begin M_size M_pool y2 M_gone) fun e65 e66 e67 e68 e69 e70 e71 =>
    some (e65, e66, e67, e68, e69, e70, e71)
def f_X7_isIn (N : Nat) (M_sorts : (Nat → Int32)) (M_values : (Nat → Int32)) (M_placeOf : (Nat → Int32)) (M_falling : (Nat → Int32)) (M_parts : Int32) (M_ends : (Nat → Int32)) (v1 : Int32) (v2 : Int32) : Option (Int32) :=
  if v2 ≤ 0 then
    if v2 = (M_parts - 1) then
      gd (bz (1 : Int32)) <|
      some ((1 : Int32))
    else
      gd (ix v2 8) <|
      if (M_ends v2.toNatClampNeg) = (-1 : Int32) then
        gd (bz (0 : Int32)) <|
        some ((0 : Int32))
      else
        gd (ix v2 8) <|
        bd1 (f_X7_ahead N M_sorts M_values M_placeOf M_falling (M_ends v2.toNatClampNeg) v1) fun r7 =>
        if r7 = 0 then
          gd (bz (1 : Int32)) <|
          some ((1 : Int32))
        else
          gd (bz (0 : Int32)) <|
          some ((0 : Int32))
  else
    gd (ix (v2 - 1) 8) <|
    if (M_ends (v2 - 1).toNatClampNeg) = (-1 : Int32) then
      if v2 = (M_parts - 1) then
        gd (bz (1 : Int32)) <|
        some ((1 : Int32))
      else
        gd (ix v2 8) <|
        if (M_ends v2.toNatClampNeg) = (-1 : Int32) then
          gd (bz (0 : Int32)) <|
          some ((0 : Int32))
        else
          gd (ix v2 8) <|
          bd1 (f_X7_ahead N M_sorts M_values M_placeOf M_falling (M_ends v2.toNatClampNeg) v1) fun r20 =>
          if r20 = 0 then
            gd (bz (1 : Int32)) <|
            some ((1 : Int32))
          else
            gd (bz (0 : Int32)) <|
            some ((0 : Int32))
    else
      gd (ix (v2 - 1) 8) <|
      bd1 (f_X7_ahead N M_sorts M_values M_placeOf M_falling (M_ends (v2 - 1).toNatClampNeg) v1) fun r27 =>
      if r27 = 0 then
        gd (bz (0 : Int32)) <|
        some ((0 : Int32))
      else
        if v2 = (M_parts - 1) then
          gd (bz (1 : Int32)) <|
          some ((1 : Int32))
        else
          gd (ix v2 8) <|
          if (M_ends v2.toNatClampNeg) = (-1 : Int32) then
            gd (bz (0 : Int32)) <|
            some ((0 : Int32))
          else
            gd (ix v2 8) <|
            bd1 (f_X7_ahead N M_sorts M_values M_placeOf M_falling (M_ends v2.toNatClampNeg) v1) fun r35 =>
            if r35 = 0 then
              gd (bz (1 : Int32)) <|
              some ((1 : Int32))
            else
              gd (bz (0 : Int32)) <|
              some ((0 : Int32))
def l_X7_left_4 (N : Nat) (M_parts : Int32) (M_partSize : (Nat → Int32)) (M_merged : (Nat → Int32)) (M_on : (Nat → Int32)) (v1 : Int32) : Nat → Int32 → Int32 → Option (Int32)
  | 0, _, _ => none
  | n + 1, v2, v3 =>
    if M_parts ≤ v3 then
      some (v2)
    else
      gd (ix v3 8) <|
      if (M_on v3.toNatClampNeg) = v1 then
        gd (ix v3 8) <|
        gd (ix v3 8) <|
        nl (v2 + ((M_partSize v3.toNatClampNeg) - (M_merged v3.toNatClampNeg))) fun x8 =>
        nl (v3 + 1) fun x9 =>
        l_X7_left_4 N M_parts M_partSize M_merged M_on v1 n x8 x9
      else
        nl (v2 + 0) fun x4 =>
        nl (v3 + 1) fun x5 =>
        l_X7_left_4 N M_parts M_partSize M_merged M_on v1 n x4 x5
def f_X7_left (N : Nat) (M_parts : Int32) (M_partSize : (Nat → Int32)) (M_merged : (Nat → Int32)) (M_on : (Nat → Int32)) (v1 : Int32) : Option (Int32) :=
  bd1 (l_X7_left_4 N M_parts M_partSize M_merged M_on v1 N (0 : Int32) (0 : Int32)) fun e10 =>
  some (e10)
def l_X7_leaves_55 (N : Nat) (M_parts : Int32) (M_partSize : (Nat → Int32)) (M_merged : (Nat → Int32)) (M_on : (Nat → Int32)) (M_up : (Nat → Int32)) : Nat → Int32 → Int32 → Option (Int32)
  | 0, _, _ => none
  | n + 1, v4, v5 =>
    if (8 : Int32) ≤ v5 then
      some (v4)
    else
      gd (ix v5 8) <|
      if (M_up v5.toNatClampNeg) = 0 then
        nl (v5 + 1) fun x11 =>
        l_X7_leaves_55 N M_parts M_partSize M_merged M_on M_up n v4 x11
      else
        if v4 = (-1 : Int32) then
          nl (v5 + 1) fun x13 =>
          l_X7_leaves_55 N M_parts M_partSize M_merged M_on M_up n v5 x13
        else
          bd1 (f_X7_left N M_parts M_partSize M_merged M_on v5) fun r14 =>
          bd1 (f_X7_left N M_parts M_partSize M_merged M_on v4) fun r16 =>
          if r16 ≤ r14 then
            nl (v5 + 1) fun x19 =>
            l_X7_leaves_55 N M_parts M_partSize M_merged M_on M_up n v4 x19
          else
            nl (v5 + 1) fun x20 =>
            l_X7_leaves_55 N M_parts M_partSize M_merged M_on M_up n v5 x20
def l_X7_leaves_4 (N : Nat) (M_parts : Int32) (M_partSize : (Nat → Int32)) (M_up : (Nat → Int32)) (v1 : Int32) : Nat → Int32 → Int32 → (Nat → Int32) → (Nat → Int32) → (Nat → Int32) → Option (Int32 × (Nat → Int32) × (Nat → Int32) × (Nat → Int32))
  | 0, _, _, _, _, _ => none
  | n + 1, v2, v3, M_merged, M_done, M_on =>
    if M_parts ≤ v3 then
      some (v2, M_merged, M_done, M_on)
    else
      gd (ix v3 8) <|
      if (M_on v3.toNatClampNeg) = v1 then
        nl (v2 + 1) fun x4 =>
        gd (ix v3 8) <|
        gd (ix v3 8) <|
        gd (ix v3 8) <|
        bd1 (l_X7_leaves_55 N M_parts M_partSize (upd M_merged v3.toNatClampNeg 0) (upd M_on v3.toNatClampNeg (-1)) M_up N (-1 : Int32) (0 : Int32)) fun e21 =>
        gd (ix v3 8) <|
        nl (v3 + 1) fun x24 =>
        l_X7_leaves_4 N M_parts M_partSize M_up v1 n x4 x24 (upd M_merged v3.toNatClampNeg 0) (upd M_done v3.toNatClampNeg (vp_nar .boolean 0)) (upd (upd M_on v3.toNatClampNeg (-1)) v3.toNatClampNeg e21)
      else
        nl (v3 + 1) fun x25 =>
        l_X7_leaves_4 N M_parts M_partSize M_up v1 n v2 x25 M_merged M_done M_on
def f_X7_leaves (N : Nat) (M_parts : Int32) (M_partSize : (Nat → Int32)) (M_merged : (Nat → Int32)) (M_done : (Nat → Int32)) (M_on : (Nat → Int32)) (M_up : (Nat → Int32)) (v1 : Int32) : Option (Int32 × (Nat → Int32) × (Nat → Int32) × (Nat → Int32)) :=
  bd4 (l_X7_leaves_4 N M_parts M_partSize M_up v1 N (0 : Int32) (0 : Int32) M_merged M_done M_on) fun e26 e27 e28 e29 =>
  some (e26, e27, e28, e29)
def l_X7_cut_92 (N : Nat) (M_sorts : (Nat → Int32)) (M_values : (Nat → Int32)) (M_placeOf : (Nat → Int32)) (M_falling : (Nat → Int32)) (v5 : Int32) : Nat → Int32 → (Nat → Int32) → Option (Int32 × (Nat → Int32))
  | 0, _, _ => none
  | n + 1, v6, M_sample =>
    if v6 ≤ 0 then
      some (v6, M_sample)
    else
      gd (ix (v6 - 1) 400) <|
      bd1 (f_X7_ahead N M_sorts M_values M_placeOf M_falling v5 (M_sample (v6 - 1).toNatClampNeg)) fun r17 =>
      if r17 = 0 then
        some (v6, M_sample)
      else
        gd (ix (v6 - 1) 400) <|
        nl (M_sample (v6 - 1).toNatClampNeg) fun x21 =>
        gd (ix v6 400) <|
        nl (v6 + (-1)) fun x23 =>
        l_X7_cut_92 N M_sorts M_values M_placeOf M_falling v5 n x23 (upd M_sample v6.toNatClampNeg x21)
def l_X7_cut_59 (N : Nat) (M_sorts : (Nat → Int32)) (M_values : (Nat → Int32)) (M_placeOf : (Nat → Int32)) (M_falling : (Nat → Int32)) (M_begin : (Nat → Int32)) (M_size : (Nat → Int32)) (M_pool : (Nat → Int32)) (v2 : Int32) (v3 : Int32) : Nat → Int32 → Int32 → (Nat → Int32) → Option (Int32 × (Nat → Int32))
  | 0, _, _, _ => none
  | n + 1, v4, M_samples, M_sample =>
    gd (ix v3 800) <|
    if (M_size v3.toNatClampNeg) ≤ v4 then
      some (M_samples, M_sample)
    else
      gd (ix v3 800) <|
      gd (ix ((M_begin v3.toNatClampNeg) + v4) 800) <|
      nl (M_pool ((M_begin v3.toNatClampNeg) + v4).toNatClampNeg) fun x14 =>
      bd2 (l_X7_cut_92 N M_sorts M_values M_placeOf M_falling x14 N M_samples M_sample) fun e24 e25 =>
      gd (ix e24 400) <|
      nl (M_samples + 1) fun x28 =>
      nl (v4 + v2) fun x29 =>
      l_X7_cut_59 N M_sorts M_values M_placeOf M_falling M_begin M_size M_pool v2 v3 n x29 x28 (upd e25 e24.toNatClampNeg x14)
def l_X7_cut_46 (N : Nat) (M_sorts : (Nat → Int32)) (M_values : (Nat → Int32)) (M_placeOf : (Nat → Int32)) (M_falling : (Nat → Int32)) (M_runs : Int32) (M_begin : (Nat → Int32)) (M_size : (Nat → Int32)) (M_pool : (Nat → Int32)) (v2 : Int32) : Nat → Int32 → Int32 → (Nat → Int32) → Option (Int32 × (Nat → Int32))
  | 0, _, _, _ => none
  | n + 1, v3, M_samples, M_sample =>
    if M_runs ≤ v3 then
      some (M_samples, M_sample)
    else
      nl (v2 - 1) fun x9 =>
      bd2 (l_X7_cut_59 N M_sorts M_values M_placeOf M_falling M_begin M_size M_pool v2 v3 N x9 M_samples M_sample) fun e30 e31 =>
      nl (v3 + 1) fun x33 =>
      l_X7_cut_46 N M_sorts M_values M_placeOf M_falling M_runs M_begin M_size M_pool v2 n x33 e30 e31
def l_X7_cut_173 (N : Nat) (M_samples : Int32) (M_sample : (Nat → Int32)) (v1 : Int32) : Nat → Int32 → (Nat → Int32) → Option ((Nat → Int32))
  | 0, _, _ => none
  | n + 1, v3, M_ends =>
    if v1 < v3 then
      some (M_ends)
    else
      gd (nz v1) <|
      nl (((v3 * M_samples) / v1) - 1) fun x39 =>
      if v3 = v1 then
        gd (ix (v3 - 1) 8) <|
        nl (v3 + 1) fun x42 =>
        l_X7_cut_173 N M_samples M_sample v1 n x42 (upd M_ends (v3 - 1).toNatClampNeg (-1))
      else
        if 0 ≤ x39 then
          gd (ix x39 400) <|
          nl (M_sample x39.toNatClampNeg) fun x45 =>
          gd (ix (v3 - 1) 8) <|
          nl (v3 + 1) fun x47 =>
          l_X7_cut_173 N M_samples M_sample v1 n x47 (upd M_ends (v3 - 1).toNatClampNeg x45)
        else
          gd (ix (v3 - 1) 8) <|
          nl (v3 + 1) fun x49 =>
          l_X7_cut_173 N M_samples M_sample v1 n x49 (upd M_ends (v3 - 1).toNatClampNeg (-1))
def l_X7_cut_227 (N : Nat) (v1 : Int32) : Nat → Int32 → (Nat → Int32) → (Nat → Int32) → (Nat → Int32) → (Nat → Int32) → (Nat → Int32) → Option ((Nat → Int32) × (Nat → Int32) × (Nat → Int32) × (Nat → Int32) × (Nat → Int32))
  | 0, _, _, _, _, _, _ => none
  | n + 1, v3, M_partSize, M_merged, M_most, M_done, M_on =>
    if v1 ≤ v3 then
      some (M_partSize, M_merged, M_most, M_done, M_on)
    else
      gd (ix v3 8) <|
      gd (ix v3 8) <|
      gd (ix v3 8) <|
      gd (ix v3 8) <|
      gd (ix v3 8) <|
      nl (v3 + 1) fun x58 =>
      l_X7_cut_227 N v1 n x58 (upd M_partSize v3.toNatClampNeg 0) (upd M_merged v3.toNatClampNeg 0) (upd M_most v3.toNatClampNeg 0) (upd M_done v3.toNatClampNeg (vp_nar .boolean 0)) (upd M_on v3.toNatClampNeg v3)
def l_X7_cut_320 (N : Nat) (M_sorts : (Nat → Int32)) (M_values : (Nat → Int32)) (M_placeOf : (Nat → Int32)) (M_falling : (Nat → Int32)) (M_pool : (Nat → Int32)) (M_parts : Int32) (M_ends : (Nat → Int32)) (v1 : Int32) (v4 : Int32) : Nat → Int32 → (Nat → Int32) → Option ((Nat → Int32))
  | 0, _, _ => none
  | n + 1, v5, M_partSize =>
    if v1 ≤ v5 then
      some (M_partSize)
    else
      gd (ix v5 8) <|
      gd (ix v4 800) <|
      bd1 (f_X7_isIn N M_sorts M_values M_placeOf M_falling M_parts M_ends (M_pool v4.toNatClampNeg) v5) fun r71 =>
      if r71 = 0 then
        nl ((M_partSize v5.toNatClampNeg) + 0) fun x74 =>
        gd (ix v5 8) <|
        nl (v5 + 1) fun x76 =>
        l_X7_cut_320 N M_sorts M_values M_placeOf M_falling M_pool M_parts M_ends v1 v4 n x76 (upd M_partSize v5.toNatClampNeg x74)
      else
        nl ((M_partSize v5.toNatClampNeg) + 1) fun x77 =>
        gd (ix v5 8) <|
        nl (v5 + 1) fun x79 =>
        l_X7_cut_320 N M_sorts M_values M_placeOf M_falling M_pool M_parts M_ends v1 v4 n x79 (upd M_partSize v5.toNatClampNeg x77)
def l_X7_cut_311 (N : Nat) (M_sorts : (Nat → Int32)) (M_values : (Nat → Int32)) (M_placeOf : (Nat → Int32)) (M_falling : (Nat → Int32)) (M_pool : (Nat → Int32)) (M_parts : Int32) (M_ends : (Nat → Int32)) (v1 : Int32) (v3 : Int32) : Nat → Int32 → (Nat → Int32) → Option ((Nat → Int32))
  | 0, _, _ => none
  | n + 1, v4, M_partSize =>
    if v3 ≤ v4 then
      some (M_partSize)
    else
      bd1 (l_X7_cut_320 N M_sorts M_values M_placeOf M_falling M_pool M_parts M_ends v1 v4 N (0 : Int32) M_partSize) fun e80 =>
      nl (v4 + 1) fun x82 =>
      l_X7_cut_311 N M_sorts M_values M_placeOf M_falling M_pool M_parts M_ends v1 v3 n x82 e80
def l_X7_cut_387 (N : Nat)  : Nat → Int32 → (Nat → Int32) → Option ((Nat → Int32))
  | 0, _, _ => none
  | n + 1, v4, M_byHost =>
    if (8 : Int32) ≤ v4 then
      some (M_byHost)
    else
      gd (ix v4 8) <|
      nl (v4 + 1) fun x87 =>
      l_X7_cut_387 N n x87 (upd M_byHost v4.toNatClampNeg 0)
def l_X7_cut_411 (N : Nat) (M_parts : Int32) (M_partSize : (Nat → Int32)) (M_up : (Nat → Int32)) : Nat → Int32 → (Nat → Int32) → (Nat → Int32) → (Nat → Int32) → Option ((Nat → Int32) × (Nat → Int32) × (Nat → Int32))
  | 0, _, _, _, _ => none
  | n + 1, v4, M_merged, M_done, M_on =>
    if (8 : Int32) ≤ v4 then
      some (M_merged, M_done, M_on)
    else
      gd (ix v4 8) <|
      if (M_up v4.toNatClampNeg) = 0 then
        bd4 (f_X7_leaves N M_parts M_partSize M_merged M_done M_on M_up v4) fun r94 c95 c96 c97 =>
        nl (v4 + 1) fun x99 =>
        l_X7_cut_411 N M_parts M_partSize M_up n x99 c95 c96 c97
      else
        nl (v4 + 1) fun x93 =>
        l_X7_cut_411 N M_parts M_partSize M_up n x93 M_merged M_done M_on
def f_X7_cut (N : Nat) (M_sorts : (Nat → Int32)) (M_values : (Nat → Int32)) (M_placeOf : (Nat → Int32)) (M_falling : (Nat → Int32)) (M_made : Int32) (M_runs : Int32) (M_begin : (Nat → Int32)) (M_size : (Nat → Int32)) (M_pool : (Nat → Int32)) (M_parts : Int32) (M_every : Int32) (M_samples : Int32) (M_sample : (Nat → Int32)) (M_ends : (Nat → Int32)) (M_partSize : (Nat → Int32)) (M_merged : (Nat → Int32)) (M_most : (Nat → Int32)) (M_done : (Nat → Int32)) (M_on : (Nat → Int32)) (M_ticks : Int32) (M_mergedAll : Int32) (M_again : Int32) (M_up : (Nat → Int32)) (M_byHost : (Nat → Int32)) (v1 : Int32) (v2 : Int32) : Option (Int32 × Int32 × Int32 × Int32 × (Nat → Int32) × (Nat → Int32) × (Nat → Int32) × (Nat → Int32) × (Nat → Int32) × (Nat → Int32) × (Nat → Int32) × Int32 × Int32 × Int32 × (Nat → Int32)) :=
  if M_made = 0 then
    some ((-1 : Int32), M_parts, M_every, M_samples, M_sample, M_ends, M_partSize, M_merged, M_most, M_done, M_on, M_ticks, M_mergedAll, M_again, M_byHost)
  else
    bd1 (f_X7_is N v1 (1 : Int32) (8 : Int32)) fun r2 =>
    if r2 = 0 then
      some ((-1 : Int32), M_parts, M_every, M_samples, M_sample, M_ends, M_partSize, M_merged, M_most, M_done, M_on, M_ticks, M_mergedAll, M_again, M_byHost)
    else
      bd1 (f_X7_is N v2 (1 : Int32) (20 : Int32)) fun r5 =>
      if r5 = 0 then
        some ((-1 : Int32), M_parts, M_every, M_samples, M_sample, M_ends, M_partSize, M_merged, M_most, M_done, M_on, M_ticks, M_mergedAll, M_again, M_byHost)
      else
        bd2 (l_X7_cut_46 N M_sorts M_values M_placeOf M_falling M_runs M_begin M_size M_pool v2 N (0 : Int32) 0 M_sample) fun e34 e35 =>
        bd1 (l_X7_cut_173 N e34 e35 v1 N (1 : Int32) M_ends) fun e50 =>
        bd5 (l_X7_cut_227 N v1 N (0 : Int32) M_partSize M_merged M_most M_done M_on) fun e59 e60 e61 e62 e63 =>
        bd1 (if M_runs = 0 then
            some ((0 : Int32))
          else
            gd (ix (M_runs - 1) 800) <|
            gd (ix (M_runs - 1) 800) <|
            some (((M_begin (M_runs - 1).toNatClampNeg) + (M_size (M_runs - 1).toNatClampNeg))))
          fun y65 =>
        bd1 (l_X7_cut_311 N M_sorts M_values M_placeOf M_falling M_pool v1 e50 v1 y65 N (0 : Int32) e59) fun e83 =>
        bd1 (l_X7_cut_387 N N (0 : Int32) M_byHost) fun e88 =>
        bd3 (l_X7_cut_411 N v1 e83 M_up N (0 : Int32) e60 e62 e63) fun e100 e101 e102 =>
        some (e34, v1, v2, e34, e35, e50, e83, e100, e61, e101, e102, 0, 0, 0, e88)
def f_X7_bound (N : Nat) (M_runs : Int32) (M_parts : Int32) (M_every : Int32) (M_samples : Int32)  : Option (Int32) :=
  if M_parts = 0 then
    some ((-1 : Int32))
  else
    gd (nz M_parts) <|
    some (((M_every * (((M_samples + M_parts) - 1) / M_parts)) + ((M_every - 1) * M_runs)))
def f_X7_part (N : Nat) (M_parts : Int32) (M_ends : (Nat → Int32)) (M_partSize : (Nat → Int32)) (M_merged : (Nat → Int32)) (M_on : (Nat → Int32)) (v1 : Int32) (v2 : Int32) : Option (Int32) :=
  if v1 < 0 then
    some ((-2 : Int32))
  else
    if v1 < M_parts then
      if v2 = 0 then
        gd (ix v1 8) <|
        some ((M_partSize v1.toNatClampNeg))
      else
        if v2 = 1 then
          gd (ix v1 8) <|
          some ((M_merged v1.toNatClampNeg))
        else
          if v2 = 2 then
            gd (ix v1 8) <|
            some ((M_on v1.toNatClampNeg))
          else
            if v2 = 3 then
              gd (ix v1 8) <|
              some ((M_ends v1.toNatClampNeg))
            else
              some ((-2 : Int32))
    else
      some ((-2 : Int32))
def f_X7_isHost (N : Nat)  (v0 : Int32) : Option (Int32) :=
  if v0 < 0 then
    gd (bz (0 : Int32)) <|
    some ((0 : Int32))
  else
    if (8 : Int32) ≤ v0 then
      gd (bz (0 : Int32)) <|
      some ((0 : Int32))
    else
      gd (bz (1 : Int32)) <|
      some ((1 : Int32))
def f_X7_pace (N : Nat) (M_paces : (Nat → Int32)) (v1 : Int32) (v2 : Int32) : Option (Int32 × (Nat → Int32)) :=
  bd1 (f_X7_isHost N v1) fun r1 =>
  if r1 = 0 then
    gd (bz (0 : Int32)) <|
    some ((0 : Int32), M_paces)
  else
    bd1 (f_X7_is N v2 (0 : Int32) (50 : Int32)) fun r5 =>
    if r5 = 0 then
      gd (bz (0 : Int32)) <|
      some ((0 : Int32), M_paces)
    else
      gd (ix v1 8) <|
      gd (bz (1 : Int32)) <|
      some ((1 : Int32), (upd M_paces v1.toNatClampNeg v2))
def f_X7_fall (N : Nat) (M_parts : Int32) (M_partSize : (Nat → Int32)) (M_merged : (Nat → Int32)) (M_done : (Nat → Int32)) (M_on : (Nat → Int32)) (M_up : (Nat → Int32)) (v1 : Int32) : Option (Int32 × (Nat → Int32) × (Nat → Int32) × (Nat → Int32) × (Nat → Int32)) :=
  bd1 (f_X7_isHost N v1) fun r1 =>
  if r1 = 0 then
    some ((-1 : Int32), M_merged, M_done, M_on, M_up)
  else
    gd (ix v1 8) <|
    if (M_up v1.toNatClampNeg) = 0 then
      some ((-1 : Int32), M_merged, M_done, M_on, M_up)
    else
      gd (ix v1 8) <|
      bd4 (f_X7_leaves N M_parts M_partSize M_merged M_done M_on (upd M_up v1.toNatClampNeg (vp_nar .boolean 0)) v1) fun r7 c8 c9 c10 =>
      some (r7, c8, c9, c10, (upd M_up v1.toNatClampNeg (vp_nar .boolean 0)))
def l_X7_rise_29 (N : Nat) (M_parts : Int32) (v1 : Int32) : Nat → Int32 → Int32 → (Nat → Int32) → Option (Int32 × (Nat → Int32))
  | 0, _, _, _ => none
  | n + 1, v2, v3, M_on =>
    if M_parts ≤ v3 then
      some (v2, M_on)
    else
      gd (ix v3 8) <|
      if (M_on v3.toNatClampNeg) = (-1 : Int32) then
        gd (ix v3 8) <|
        nl (v2 + 1) fun x11 =>
        nl (v3 + 1) fun x12 =>
        l_X7_rise_29 N M_parts v1 n x11 x12 (upd M_on v3.toNatClampNeg v1)
      else
        nl (v3 + 1) fun x13 =>
        l_X7_rise_29 N M_parts v1 n v2 x13 M_on
def f_X7_rise (N : Nat) (M_parts : Int32) (M_on : (Nat → Int32)) (M_up : (Nat → Int32)) (v1 : Int32) : Option (Int32 × (Nat → Int32) × (Nat → Int32)) :=
  bd1 (f_X7_isHost N v1) fun r1 =>
  if r1 = 0 then
    some ((-1 : Int32), M_on, M_up)
  else
    gd (ix v1 8) <|
    if (M_up v1.toNatClampNeg) = 0 then
      gd (ix v1 8) <|
      bd2 (l_X7_rise_29 N M_parts v1 N (0 : Int32) (0 : Int32) M_on) fun e14 e15 =>
      some (e14, e15, (upd M_up v1.toNatClampNeg (vp_nar .boolean 1)))
    else
      some ((-1 : Int32), M_on, M_up)
def l_X7_host_73 (N : Nat) (M_parts : Int32) (M_on : (Nat → Int32)) (v1 : Int32) : Nat → Int32 → Int32 → Option (Int32)
  | 0, _, _ => none
  | n + 1, v3, v4 =>
    if M_parts ≤ v4 then
      some (v3)
    else
      gd (ix v4 8) <|
      if (M_on v4.toNatClampNeg) = v1 then
        nl (v3 + 1) fun x15 =>
        nl (v4 + 1) fun x16 =>
        l_X7_host_73 N M_parts M_on v1 n x15 x16
      else
        nl (v3 + 0) fun x13 =>
        nl (v4 + 1) fun x14 =>
        l_X7_host_73 N M_parts M_on v1 n x13 x14
def f_X7_host (N : Nat) (M_parts : Int32) (M_partSize : (Nat → Int32)) (M_merged : (Nat → Int32)) (M_on : (Nat → Int32)) (M_paces : (Nat → Int32)) (M_up : (Nat → Int32)) (M_byHost : (Nat → Int32)) (v1 : Int32) (v2 : Int32) : Option (Int32) :=
  bd1 (f_X7_isHost N v1) fun r1 =>
  if r1 = 0 then
    some ((-1 : Int32))
  else
    if v2 = 0 then
      gd (ix v1 8) <|
      some ((M_paces v1.toNatClampNeg))
    else
      if v2 = 1 then
        gd (ix v1 8) <|
        if (M_up v1.toNatClampNeg) = 0 then
          some ((0 : Int32))
        else
          some ((1 : Int32))
      else
        if v2 = 2 then
          bd1 (l_X7_host_73 N M_parts M_on v1 N (0 : Int32) (0 : Int32)) fun e17 =>
          some (e17)
        else
          if v2 = 3 then
            bd1 (f_X7_left N M_parts M_partSize M_merged M_on v1) fun r20 =>
            some (r20)
          else
            if v2 = 4 then
              if M_parts = 0 then
                some ((0 : Int32))
              else
                gd (ix v1 8) <|
                some ((M_byHost v1.toNatClampNeg))
            else
              some ((-1 : Int32))
def l_X7_tick_55 (N : Nat) (M_parts : Int32) (M_partSize : (Nat → Int32)) (M_on : (Nat → Int32)) (v2 : Int32) : Nat → Int32 → Int32 → (Nat → Int32) → (Nat → Int32) → (Nat → Int32) → Int32 → Int32 → (Nat → Int32) → Option ((Nat → Int32) × (Nat → Int32) × (Nat → Int32) × Int32 × Int32 × (Nat → Int32))
  | 0, _, _, _, _, _, _, _, _ => none
  | n + 1, v3, v4, M_merged, M_most, M_done, M_mergedAll, M_again, M_byHost =>
    if M_parts ≤ v4 then
      some (M_merged, M_most, M_done, M_mergedAll, M_again, M_byHost)
    else
      if v3 < 0 then
        some (M_merged, M_most, M_done, M_mergedAll, M_again, M_byHost)
      else
        gd (ix v4 8) <|
        if (M_on v4.toNatClampNeg) = v2 then
          gd (ix v4 8) <|
          if (M_done v4.toNatClampNeg) = 0 then
            gd (ix v4 8) <|
            gd (ix v4 8) <|
            bd1 (if v3 ≤ ((M_partSize v4.toNatClampNeg) - (M_merged v4.toNatClampNeg)) then
                some (v3)
              else
                gd (ix v4 8) <|
                gd (ix v4 8) <|
                some (((M_partSize v4.toNatClampNeg) - (M_merged v4.toNatClampNeg))))
              fun y16 =>
            gd (ix v4 8) <|
            gd (ix v4 8) <|
            bd1 (if ((M_merged v4.toNatClampNeg) + y16) = (M_partSize v4.toNatClampNeg) then
                some ((1 : Int32))
              else
                some ((0 : Int32)))
              fun y20 =>
            gd (ix v4 8) <|
            gd (ix v4 8) <|
            gd (ix v4 8) <|
            bd1 (if y16 ≤ ((M_most v4.toNatClampNeg) - (M_merged v4.toNatClampNeg)) then
                some (y16)
              else
                gd (ix v4 8) <|
                gd (ix v4 8) <|
                some (((M_most v4.toNatClampNeg) - (M_merged v4.toNatClampNeg))))
              fun y25 =>
            bd1 (if y25 ≤ 0 then
                some ((0 : Int32))
              else
                some (y25))
              fun y27 =>
            nl (M_again + y27) fun x29 =>
            gd (ix v4 8) <|
            nl ((M_merged v4.toNatClampNeg) + y16) fun x31 =>
            gd (ix v4 8) <|
            gd (ix v4 8) <|
            gd (ix v4 8) <|
            bd1 (if ((upd M_merged v4.toNatClampNeg x31) v4.toNatClampNeg) ≤ (M_most v4.toNatClampNeg) then
                gd (ix v4 8) <|
                some ((M_most v4.toNatClampNeg))
              else
                gd (ix v4 8) <|
                some (((upd M_merged v4.toNatClampNeg x31) v4.toNatClampNeg)))
              fun y35 =>
            gd (ix v4 8) <|
            nl (M_mergedAll + y16) fun x38 =>
            gd (ix v2 8) <|
            nl ((M_byHost v2.toNatClampNeg) + y16) fun x40 =>
            gd (ix v2 8) <|
            gd (ix v4 8) <|
            if ((upd M_done v4.toNatClampNeg (vp_nar .boolean y20)) v4.toNatClampNeg) = 0 then
              nl (v4 + 1) fun x44 =>
              l_X7_tick_55 N M_parts M_partSize M_on v2 n (-1 : Int32) x44 (upd M_merged v4.toNatClampNeg x31) (upd M_most v4.toNatClampNeg y35) (upd M_done v4.toNatClampNeg (vp_nar .boolean y20)) x38 x29 (upd M_byHost v2.toNatClampNeg x40)
            else
              nl (v3 - y16) fun x45 =>
              nl (v4 + 1) fun x46 =>
              l_X7_tick_55 N M_parts M_partSize M_on v2 n x45 x46 (upd M_merged v4.toNatClampNeg x31) (upd M_most v4.toNatClampNeg y35) (upd M_done v4.toNatClampNeg (vp_nar .boolean y20)) x38 x29 (upd M_byHost v2.toNatClampNeg x40)
          else
            nl (v4 + 1) fun x58 =>
            l_X7_tick_55 N M_parts M_partSize M_on v2 n v3 x58 M_merged M_most M_done M_mergedAll M_again M_byHost
        else
          nl (v4 + 1) fun x11 =>
          l_X7_tick_55 N M_parts M_partSize M_on v2 n v3 x11 M_merged M_most M_done M_mergedAll M_again M_byHost
def l_X7_tick_26 (N : Nat) (M_parts : Int32) (M_partSize : (Nat → Int32)) (M_on : (Nat → Int32)) (M_paces : (Nat → Int32)) (M_up : (Nat → Int32)) : Nat → Int32 → (Nat → Int32) → (Nat → Int32) → (Nat → Int32) → Int32 → Int32 → (Nat → Int32) → Option ((Nat → Int32) × (Nat → Int32) × (Nat → Int32) × Int32 × Int32 × (Nat → Int32))
  | 0, _, _, _, _, _, _, _ => none
  | n + 1, v2, M_merged, M_most, M_done, M_mergedAll, M_again, M_byHost =>
    if (8 : Int32) ≤ v2 then
      some (M_merged, M_most, M_done, M_mergedAll, M_again, M_byHost)
    else
      gd (ix v2 8) <|
      bd1 (if (M_up v2.toNatClampNeg) = 0 then
          some ((-1 : Int32))
        else
          gd (ix v2 8) <|
          some ((M_paces v2.toNatClampNeg)))
        fun y5 =>
      bd6 (l_X7_tick_55 N M_parts M_partSize M_on v2 N y5 (0 : Int32) M_merged M_most M_done M_mergedAll M_again M_byHost) fun e59 e60 e61 e62 e63 e64 =>
      nl (v2 + 1) fun x66 =>
      l_X7_tick_26 N M_parts M_partSize M_on M_paces M_up n x66 e59 e60 e61 e62 e63 e64
def f_X7_tick (N : Nat) (M_parts : Int32) (M_partSize : (Nat → Int32)) (M_merged : (Nat → Int32)) (M_most : (Nat → Int32)) (M_done : (Nat → Int32)) (M_on : (Nat → Int32)) (M_ticks : Int32) (M_mergedAll : Int32) (M_again : Int32) (M_paces : (Nat → Int32)) (M_up : (Nat → Int32)) (M_byHost : (Nat → Int32))  : Option (Int32 × (Nat → Int32) × (Nat → Int32) × (Nat → Int32) × Int32 × Int32 × Int32 × (Nat → Int32)) :=
  if M_parts = 0 then
    some ((-1 : Int32), M_merged, M_most, M_done, M_ticks, M_mergedAll, M_again, M_byHost)
  else
    nl (M_ticks + 1) fun x2 =>
    bd6 (l_X7_tick_26 N M_parts M_partSize M_on M_paces M_up N (0 : Int32) M_merged M_most M_done M_mergedAll M_again M_byHost) fun e69 e70 e71 e72 e73 e74 =>
    some ((e72 - M_mergedAll), e69, e70, e71, x2, e72, e73, e74)
def l_X7_isThere_15 (N : Nat) (M_parts : Int32) (M_done : (Nat → Int32)) : Nat → Int32 → Int32 → Option (Int32)
  | 0, _, _ => none
  | n + 1, v1, v2 =>
    if M_parts ≤ v2 then
      some (v1)
    else
      if v1 = 0 then
        nl (v2 + 1) fun x5 =>
        l_X7_isThere_15 N M_parts M_done n (0 : Int32) x5
      else
        gd (ix v2 8) <|
        if (M_done v2.toNatClampNeg) = 0 then
          nl (v2 + 1) fun x8 =>
          l_X7_isThere_15 N M_parts M_done n (0 : Int32) x8
        else
          nl (v2 + 1) fun x9 =>
          l_X7_isThere_15 N M_parts M_done n (1 : Int32) x9
def f_X7_isThere (N : Nat) (M_parts : Int32) (M_done : (Nat → Int32))  : Option (Int32) :=
  bd1 (if M_parts ≤ 0 then
      some ((0 : Int32))
    else
      some ((1 : Int32)))
    fun y1 =>
  bd1 (l_X7_isThere_15 N M_parts M_done N y1 (0 : Int32)) fun e10 =>
  gd (bz e10) <|
  some (e10)
def l_X7_work_65 (N : Nat) (M_parts : Int32) (M_done : (Nat → Int32)) : Nat → Int32 → Int32 → Option (Int32)
  | 0, _, _ => none
  | n + 1, v2, v3 =>
    if M_parts ≤ v3 then
      some (v2)
    else
      gd (ix v3 8) <|
      if (M_done v3.toNatClampNeg) = 0 then
        nl (v2 + 0) fun x9 =>
        nl (v3 + 1) fun x10 =>
        l_X7_work_65 N M_parts M_done n x9 x10
      else
        nl (v2 + 1) fun x11 =>
        nl (v3 + 1) fun x12 =>
        l_X7_work_65 N M_parts M_done n x11 x12
def f_X7_work (N : Nat) (M_parts : Int32) (M_done : (Nat → Int32)) (M_ticks : Int32) (M_mergedAll : Int32) (M_again : Int32) (v1 : Int32) : Option (Int32) :=
  if M_parts = 0 then
    some ((-1 : Int32))
  else
    if v1 = 0 then
      some (M_ticks)
    else
      if v1 = 1 then
        some (M_mergedAll)
      else
        if v1 = 2 then
          some (M_again)
        else
          if v1 = 3 then
            bd1 (l_X7_work_65 N M_parts M_done N (0 : Int32) (0 : Int32)) fun e13 =>
            some (e13)
          else
            if v1 = 4 then
              bd1 (f_X7_isThere N M_parts M_done) fun r16 =>
              if r16 = 0 then
                some ((0 : Int32))
              else
                some ((1 : Int32))
            else
              some ((-1 : Int32))
def l_X7_end_68 (N : Nat) (M_sorts : (Nat → Int32)) (M_values : (Nat → Int32)) (M_placeOf : (Nat → Int32)) (M_falling : (Nat → Int32)) (M_pool : (Nat → Int32)) (v2 : Int32) (v3 : Int32) : Nat → Int32 → Int32 → Option (Int32)
  | 0, _, _ => none
  | n + 1, v4, v5 =>
    if v2 ≤ v5 then
      some (v4)
    else
      if v5 = v3 then
        nl (v4 + 0) fun x11 =>
        nl (v5 + 1) fun x12 =>
        l_X7_end_68 N M_sorts M_values M_placeOf M_falling M_pool v2 v3 n x11 x12
      else
        gd (ix v5 800) <|
        gd (ix v3 800) <|
        bd1 (f_X7_ahead N M_sorts M_values M_placeOf M_falling (M_pool v5.toNatClampNeg) (M_pool v3.toNatClampNeg)) fun r15 =>
        if r15 = 0 then
          nl (v4 + 0) fun x18 =>
          nl (v5 + 1) fun x19 =>
          l_X7_end_68 N M_sorts M_values M_placeOf M_falling M_pool v2 v3 n x18 x19
        else
          nl (v4 + 1) fun x20 =>
          nl (v5 + 1) fun x21 =>
          l_X7_end_68 N M_sorts M_values M_placeOf M_falling M_pool v2 v3 n x20 x21
def l_X7_end_57 (N : Nat) (M_sorts : (Nat → Int32)) (M_values : (Nat → Int32)) (M_placeOf : (Nat → Int32)) (M_falling : (Nat → Int32)) (M_pool : (Nat → Int32)) (v1 : Int32) (v2 : Int32) : Nat → Int32 → Option (Option Int32)
  | 0, _ => none
  | n + 1, v3 =>
    if v2 ≤ v3 then
      some none
    else
      bd1 (l_X7_end_68 N M_sorts M_values M_placeOf M_falling M_pool v2 v3 N (0 : Int32) (0 : Int32)) fun e22 =>
      if e22 = v1 then
        gd (ix v3 800) <|
        some (some (M_pool v3.toNatClampNeg))
      else
        nl (v3 + 1) fun x25 =>
        l_X7_end_57 N M_sorts M_values M_placeOf M_falling M_pool v1 v2 n x25
def f_X7_end (N : Nat) (M_sorts : (Nat → Int32)) (M_values : (Nat → Int32)) (M_placeOf : (Nat → Int32)) (M_falling : (Nat → Int32)) (M_runs : Int32) (M_begin : (Nat → Int32)) (M_size : (Nat → Int32)) (M_pool : (Nat → Int32)) (M_parts : Int32) (M_done : (Nat → Int32)) (v1 : Int32) : Option (Int32) :=
  bd1 (f_X7_isThere N M_parts M_done) fun r1 =>
  if r1 = 0 then
    some ((-1 : Int32))
  else
    bd1 (if M_runs = 0 then
        some ((0 : Int32))
      else
        gd (ix (M_runs - 1) 800) <|
        gd (ix (M_runs - 1) 800) <|
        some (((M_begin (M_runs - 1).toNatClampNeg) + (M_size (M_runs - 1).toNatClampNeg))))
      fun y4 =>
    if v1 < 0 then
      some ((-1 : Int32))
    else
      if v1 < y4 then
        bd1 (l_X7_end_57 N M_sorts M_values M_placeOf M_falling M_pool v1 y4 N (0 : Int32)) fun e27 =>
        match e27 with
        | none =>
          some ((-1 : Int32))
        | some r29 =>
          some (r29)
      else
        some ((-1 : Int32))
def f_X7_count (N : Nat) (M_rows : Int32) (M_runs : Int32) (M_parts : Int32) (M_samples : Int32) (v1 : Int32) : Option (Int32) :=
  if v1 = 0 then
    some (M_rows)
  else
    if v1 = 1 then
      some (M_runs)
    else
      if v1 = 2 then
        some (M_samples)
      else
        if v1 = 3 then
          some (M_parts)
        else
          some ((-1 : Int32))
end
section
-- ===== PART A: goes FIRST, ahead of the names: the tables' words, and 'selects' of the private methods out of them =====
/-- a private method of a class that the tables say can be made, by its rows of tables_1 -/
def lw_okq (q : MethodName × Nat) : Prop := (q.1.cls ≠ "java/lang/invoke/MethodHandle" ∧ q.1.cls ≠ "java/lang/invoke/VarHandle") ∧ Cond.instantiable q.1.cls q.2 ∈ tables_1 ∧ Cond.privateMethod q.1 ∈ tables_1 ∧ Cond.instanceMethod q.1 ∈ tables_1
theorem lw_p0 : lw_okq (⟨"GreatSort", "forgetRuns", "()V"⟩, 6) := ⟨⟨by decide +kernel, by decide +kernel⟩, List.mem_of_getElem? (i := 12) (by decide +kernel), List.mem_of_getElem? (i := 254) (by decide +kernel), List.mem_of_getElem? (i := 255) (by decide +kernel)⟩
theorem lw_p1 : lw_okq (⟨"GreatSort$Runs", "putInOrder", "(LGreatSort$Rows;LGreatSort$Heap;)V"⟩, 10) := ⟨⟨by decide +kernel, by decide +kernel⟩, List.mem_of_getElem? (i := 64) (by decide +kernel), List.mem_of_getElem? (i := 318) (by decide +kernel), List.mem_of_getElem? (i := 319) (by decide +kernel)⟩
theorem lw_p2 : lw_okq (⟨"GreatSort$Heap", "sink", "(J)V"⟩, 2) := ⟨⟨by decide +kernel, by decide +kernel⟩, List.mem_of_getElem? (i := 50) (by decide +kernel), List.mem_of_getElem? (i := 335) (by decide +kernel), List.mem_of_getElem? (i := 336) (by decide +kernel)⟩
theorem lw_p3 : lw_okq (⟨"GreatSort$Runs", "select", "(LGreatSort$Rows;ILGreatSort$Heap;)V"⟩, 10) := ⟨⟨by decide +kernel, by decide +kernel⟩, List.mem_of_getElem? (i := 64) (by decide +kernel), List.mem_of_getElem? (i := 343) (by decide +kernel), List.mem_of_getElem? (i := 344) (by decide +kernel)⟩
theorem lw_p4 : lw_okq (⟨"GreatSort$Runs", "begin", "()V"⟩, 10) := ⟨⟨by decide +kernel, by decide +kernel⟩, List.mem_of_getElem? (i := 64) (by decide +kernel), List.mem_of_getElem? (i := 351) (by decide +kernel), List.mem_of_getElem? (i := 352) (by decide +kernel)⟩
theorem lw_p5 : lw_okq (⟨"GreatSort$Runs", "append", "(I)V"⟩, 10) := ⟨⟨by decide +kernel, by decide +kernel⟩, List.mem_of_getElem? (i := 64) (by decide +kernel), List.mem_of_getElem? (i := 355) (by decide +kernel), List.mem_of_getElem? (i := 356) (by decide +kernel)⟩
theorem lw_p6 : lw_okq (⟨"GreatSort$Plan", "takeFewest", "(IILGreatSort$Heap;)I"⟩, 5) := ⟨⟨by decide +kernel, by decide +kernel⟩, List.mem_of_getElem? (i := 105) (by decide +kernel), List.mem_of_getElem? (i := 408) (by decide +kernel), List.mem_of_getElem? (i := 409) (by decide +kernel)⟩
theorem lw_p7 : lw_okq (⟨"GreatSort$Runs", "takeFirst", "(I)I"⟩, 10) := ⟨⟨by decide +kernel, by decide +kernel⟩, List.mem_of_getElem? (i := 64) (by decide +kernel), List.mem_of_getElem? (i := 448) (by decide +kernel), List.mem_of_getElem? (i := 449) (by decide +kernel)⟩
theorem lw_p8 : lw_okq (⟨"GreatSort$Cut", "takeSamples", "(LGreatSort$Runs;I)V"⟩, 15) := ⟨⟨by decide +kernel, by decide +kernel⟩, List.mem_of_getElem? (i := 129) (by decide +kernel), List.mem_of_getElem? (i := 465) (by decide +kernel), List.mem_of_getElem? (i := 466) (by decide +kernel)⟩
theorem lw_p9 : lw_okq (⟨"GreatSort$Cut", "lastStanding", "(I)I"⟩, 15) := ⟨⟨by decide +kernel, by decide +kernel⟩, List.mem_of_getElem? (i := 129) (by decide +kernel), List.mem_of_getElem? (i := 472) (by decide +kernel), List.mem_of_getElem? (i := 473) (by decide +kernel)⟩
theorem lw_p10 : lw_okq (⟨"GreatSort$Cut", "beginAnew", "(I)V"⟩, 15) := ⟨⟨by decide +kernel, by decide +kernel⟩, List.mem_of_getElem? (i := 129) (by decide +kernel), List.mem_of_getElem? (i := 481) (by decide +kernel), List.mem_of_getElem? (i := 482) (by decide +kernel)⟩
theorem lw_p11 : lw_okq (⟨"GreatSort$Cut", "leastLaden", "(LGreatSort$Hosts;)I"⟩, 15) := ⟨⟨by decide +kernel, by decide +kernel⟩, List.mem_of_getElem? (i := 129) (by decide +kernel), List.mem_of_getElem? (i := 493) (by decide +kernel), List.mem_of_getElem? (i := 494) (by decide +kernel)⟩
theorem lw_p12 : lw_okq (⟨"GreatSort$Cut", "workAtPartsOf", "(II)V"⟩, 15) := ⟨⟨by decide +kernel, by decide +kernel⟩, List.mem_of_getElem? (i := 129) (by decide +kernel), List.mem_of_getElem? (i := 550) (by decide +kernel), List.mem_of_getElem? (i := 551) (by decide +kernel)⟩
theorem lw_p13 : lw_okq (⟨"GreatSort$Cut", "mergeSome", "(II)V"⟩, 15) := ⟨⟨by decide +kernel, by decide +kernel⟩, List.mem_of_getElem? (i := 129) (by decide +kernel), List.mem_of_getElem? (i := 555) (by decide +kernel), List.mem_of_getElem? (i := 556) (by decide +kernel)⟩
theorem lw_p14 : lw_okq (⟨"GreatSortModel", "isRow", "(I)Z"⟩, 36) := ⟨⟨by decide +kernel, by decide +kernel⟩, List.mem_of_getElem? (i := 585) (by decide +kernel), List.mem_of_getElem? (i := 731) (by decide +kernel), List.mem_of_getElem? (i := 732) (by decide +kernel)⟩
theorem lw_p15 : lw_okq (⟨"GreatSortModel", "ahead", "(II)Z"⟩, 36) := ⟨⟨by decide +kernel, by decide +kernel⟩, List.mem_of_getElem? (i := 585) (by decide +kernel), List.mem_of_getElem? (i := 740) (by decide +kernel), List.mem_of_getElem? (i := 741) (by decide +kernel)⟩
def lw_privs_1 : List (MethodName × Nat) := [(⟨"GreatSort", "forgetRuns", "()V"⟩, 6), (⟨"GreatSort$Runs", "putInOrder", "(LGreatSort$Rows;LGreatSort$Heap;)V"⟩, 10), (⟨"GreatSort$Heap", "sink", "(J)V"⟩, 2), (⟨"GreatSort$Runs", "select", "(LGreatSort$Rows;ILGreatSort$Heap;)V"⟩, 10), (⟨"GreatSort$Runs", "begin", "()V"⟩, 10), (⟨"GreatSort$Runs", "append", "(I)V"⟩, 10), (⟨"GreatSort$Plan", "takeFewest", "(IILGreatSort$Heap;)I"⟩, 5), (⟨"GreatSort$Runs", "takeFirst", "(I)I"⟩, 10), (⟨"GreatSort$Cut", "takeSamples", "(LGreatSort$Runs;I)V"⟩, 15), (⟨"GreatSort$Cut", "lastStanding", "(I)I"⟩, 15), (⟨"GreatSort$Cut", "beginAnew", "(I)V"⟩, 15), (⟨"GreatSort$Cut", "leastLaden", "(LGreatSort$Hosts;)I"⟩, 15), (⟨"GreatSort$Cut", "workAtPartsOf", "(II)V"⟩, 15), (⟨"GreatSort$Cut", "mergeSome", "(II)V"⟩, 15), (⟨"GreatSortModel", "isRow", "(I)Z"⟩, 36), (⟨"GreatSortModel", "ahead", "(II)Z"⟩, 36)]
theorem lw_r1 : ∀ q ∈ lw_privs_1, lw_okq q := List.forall_mem_cons.mpr ⟨lw_p0, List.forall_mem_cons.mpr ⟨lw_p1, List.forall_mem_cons.mpr ⟨lw_p2, List.forall_mem_cons.mpr ⟨lw_p3, List.forall_mem_cons.mpr ⟨lw_p4, List.forall_mem_cons.mpr ⟨lw_p5, List.forall_mem_cons.mpr ⟨lw_p6, List.forall_mem_cons.mpr ⟨lw_p7, List.forall_mem_cons.mpr ⟨lw_p8, List.forall_mem_cons.mpr ⟨lw_p9, List.forall_mem_cons.mpr ⟨lw_p10, List.forall_mem_cons.mpr ⟨lw_p11, List.forall_mem_cons.mpr ⟨lw_p12, List.forall_mem_cons.mpr ⟨lw_p13, List.forall_mem_cons.mpr ⟨lw_p14, List.forall_mem_cons.mpr ⟨lw_p15, fun _ h => absurd h List.not_mem_nil⟩⟩⟩⟩⟩⟩⟩⟩⟩⟩⟩⟩⟩⟩⟩⟩
theorem lw_p16 : lw_okq (⟨"GreatSortModel", "moves", "(IZZ)I"⟩, 36) := ⟨⟨by decide +kernel, by decide +kernel⟩, List.mem_of_getElem? (i := 585) (by decide +kernel), List.mem_of_getElem? (i := 764) (by decide +kernel), List.mem_of_getElem? (i := 765) (by decide +kernel)⟩
theorem lw_p17 : lw_okq (⟨"GreatSortModel", "isIn", "(II)Z"⟩, 36) := ⟨⟨by decide +kernel, by decide +kernel⟩, List.mem_of_getElem? (i := 585) (by decide +kernel), List.mem_of_getElem? (i := 788) (by decide +kernel), List.mem_of_getElem? (i := 789) (by decide +kernel)⟩
theorem lw_p18 : lw_okq (⟨"GreatSortModel", "leaves", "(I)I"⟩, 36) := ⟨⟨by decide +kernel, by decide +kernel⟩, List.mem_of_getElem? (i := 585) (by decide +kernel), List.mem_of_getElem? (i := 792) (by decide +kernel), List.mem_of_getElem? (i := 793) (by decide +kernel)⟩
theorem lw_p19 : lw_okq (⟨"GreatSortModel", "left", "(I)I"⟩, 36) := ⟨⟨by decide +kernel, by decide +kernel⟩, List.mem_of_getElem? (i := 585) (by decide +kernel), List.mem_of_getElem? (i := 796) (by decide +kernel), List.mem_of_getElem? (i := 797) (by decide +kernel)⟩
theorem lw_p20 : lw_okq (⟨"GreatSortModel", "isThere", "()Z"⟩, 36) := ⟨⟨by decide +kernel, by decide +kernel⟩, List.mem_of_getElem? (i := 585) (by decide +kernel), List.mem_of_getElem? (i := 835) (by decide +kernel), List.mem_of_getElem? (i := 836) (by decide +kernel)⟩
def lw_privs_2 : List (MethodName × Nat) := [(⟨"GreatSortModel", "moves", "(IZZ)I"⟩, 36), (⟨"GreatSortModel", "isIn", "(II)Z"⟩, 36), (⟨"GreatSortModel", "leaves", "(I)I"⟩, 36), (⟨"GreatSortModel", "left", "(I)I"⟩, 36), (⟨"GreatSortModel", "isThere", "()Z"⟩, 36)]
theorem lw_r2 : ∀ q ∈ lw_privs_2, lw_okq q := List.forall_mem_cons.mpr ⟨lw_p16, List.forall_mem_cons.mpr ⟨lw_p17, List.forall_mem_cons.mpr ⟨lw_p18, List.forall_mem_cons.mpr ⟨lw_p19, List.forall_mem_cons.mpr ⟨lw_p20, fun _ h => absurd h List.not_mem_nil⟩⟩⟩⟩⟩
def lw_privs : List (MethodName × Nat) := lw_privs_1 ++ (lw_privs_2)
def lw_tbl : List Cond := k2_sels lw_privs ++ tables_1
theorem lw_privs_ok : ∀ q ∈ lw_privs, lw_okq q := by
  show ∀ q ∈ lw_privs_1 ++ (lw_privs_2), lw_okq q
  exact List.forall_mem_append.mpr ⟨lw_r1, lw_r2⟩
end
section
/-! ===== BEGIN words of one list among another's, by their places ===== -/
theorem goodIn_r {big : List Cond} (ws : List Cond) (ps : List Nat) (hp : ws = ps.filterMap (fun i => big[i]?)) (h : ws.all goodWord = true) : GoodIn big ws := by
  intro w hw
  have h1 := List.all_eq_true.mp h w hw
  rw [hp] at hw
  obtain ⟨i, -, hi⟩ := List.mem_filterMap.mp hw
  have hm : w ∈ big := by first | exact List.mem_of_getElem? hi | exact List.getElem?_mem hi
  exact ⟨hm, good_of_word h1⟩
theorem goodIn_app {big a b : List Cond} (ha : GoodIn big a) (hb : GoodIn big b) : GoodIn big (a ++ b) := fun w h => (List.mem_append.mp h).elim (ha w) (hb w)
theorem goodIn_ca {big a b : List Cond} {c : Cond} (ha : GoodIn big (c :: a)) (hb : GoodIn big b) : GoodIn big (c :: (a ++ b)) := fun w h => (List.mem_cons.mp h).elim (fun e => ha w (List.mem_cons.mpr (Or.inl e))) (fun h => (List.mem_append.mp h).elim (fun h => ha w (List.mem_cons.mpr (Or.inr h))) (hb w))
theorem goodIn_sub {big ws : List Cond} (hm : ∀ w ∈ ws, w ∈ big) (h : ws.all goodWord = true) : GoodIn big ws := fun w hw => ⟨hm w hw, good_of_word (List.all_eq_true.mp h w hw)⟩
/-! ===== END ===== -/

/-! ===== BEGIN printed: names, fields, word lists, decode rows ===== -/
def RX0 : String := "GreatSort$Cut"
def TX0 : u_T := fun k => match k with
  | 0 => ("GreatSort$Cut", "sampled", "[Z", true)
  | 1 => ("GreatSort$Cut", "sampleStandings", "[I", true)
  | 2 => ("GreatSort$Cut", "sizes", "[I", true)
  | 3 => ("GreatSort$Cut", "ends", "[I", true)
  | 4 => ("GreatSort$Cut", "lies", "[I", true)
  | 5 => ("GreatSort$Cut", "merged", "[I", true)
  | 6 => ("GreatSort$Cut", "reached", "[I", true)
  | 7 => ("GreatSort$Cut", "done", "[Z", true)
  | 8 => ("GreatSort$Cut", "mergedBy", "[I", true)
  | 9 => ("GreatSort$Cut", "parts", "I", false)
  | 10 => ("GreatSort$Cut", "samples", "I", false)
  | 11 => ("GreatSort$Cut", "bound", "I", false)
  | 12 => ("GreatSort$Cut", "ticks", "I", false)
  | 13 => ("GreatSort$Cut", "mergedInAll", "I", false)
  | _ => ("GreatSort$Cut", "mergedAgain", "I", false)
def tyX0 : Nat → FieldType := fun k => match k with
  | 0 => .array .boolean
  | 1 => .array .int
  | 2 => .array .int
  | 3 => .array .int
  | 4 => .array .int
  | 5 => .array .int
  | 6 => .array .int
  | 7 => .array .boolean
  | 8 => .array .int
  | 9 => .int
  | 10 => .int
  | 11 => .int
  | 12 => .int
  | 13 => .int
  | _ => .int
abbrev wsX00 : List Cond := u_ws RX0 TX0 15
theorem nmX0 : ∀ a, a < 15 → ∀ b, b < 15 → a ≠ b → (TX0 a).2.1 ≠ (TX0 b).2.1 := by decide +kernel
theorem tyX0_ok : ∀ k, k < 15 → parseFieldDescriptor (TX0 k).2.2.1 = some (tyX0 k) := by decide +kernel
abbrev cX0_init : ByteArray := prog_2_method_1_code
def yX0_init : MethodName := ⟨RX0, "<init>", "()V"⟩
abbrev cX0_forget : ByteArray := prog_2_method_2_code
def yX0_forget : MethodName := ⟨RX0, "forget", "()V"⟩
abbrev cX0_stands : ByteArray := prog_2_method_3_code
def yX0_stands : MethodName := ⟨RX0, "stands", "()Z"⟩
abbrev cX0_makeOf : ByteArray := prog_2_method_4_code
def yX0_makeOf : MethodName := ⟨RX0, "makeOf", "(LGreatSort$Runs;II)V"⟩
abbrev cX0_lastStanding : ByteArray := prog_2_method_5_code
def yX0_lastStanding : MethodName := ⟨RX0, "lastStanding", "(I)I"⟩
abbrev cX0_takeSamples : ByteArray := prog_2_method_6_code
def yX0_takeSamples : MethodName := ⟨RX0, "takeSamples", "(LGreatSort$Runs;I)V"⟩
abbrev cX0_layOn : ByteArray := prog_2_method_7_code
def yX0_layOn : MethodName := ⟨RX0, "layOn", "(LGreatSort$Hosts;)V"⟩
abbrev cX0_moveFrom : ByteArray := prog_2_method_8_code
def yX0_moveFrom : MethodName := ⟨RX0, "moveFrom", "(ILGreatSort$Hosts;)I"⟩
abbrev cX0_bringTo : ByteArray := prog_2_method_9_code
def yX0_bringTo : MethodName := ⟨RX0, "bringTo", "(I)I"⟩
abbrev cX0_beginAnew : ByteArray := prog_2_method_10_code
def yX0_beginAnew : MethodName := ⟨RX0, "beginAnew", "(I)V"⟩
abbrev cX0_leastLaden : ByteArray := prog_2_method_11_code
def yX0_leastLaden : MethodName := ⟨RX0, "leastLaden", "(LGreatSort$Hosts;)I"⟩
abbrev cX0_partsOn : ByteArray := prog_2_method_12_code
def yX0_partsOn : MethodName := ⟨RX0, "partsOn", "(I)I"⟩
abbrev cX0_leftOn : ByteArray := prog_2_method_13_code
def yX0_leftOn : MethodName := ⟨RX0, "leftOn", "(I)I"⟩
abbrev cX0_goOn : ByteArray := prog_2_method_14_code
def yX0_goOn : MethodName := ⟨RX0, "goOn", "(LGreatSort$Hosts;)I"⟩
abbrev cX0_workAtPartsOf : ByteArray := prog_2_method_15_code
def yX0_workAtPartsOf : MethodName := ⟨RX0, "workAtPartsOf", "(II)V"⟩
abbrev cX0_mergeSome : ByteArray := prog_2_method_16_code
def yX0_mergeSome : MethodName := ⟨RX0, "mergeSome", "(II)V"⟩
abbrev cX0_partsDone : ByteArray := prog_2_method_17_code
def yX0_partsDone : MethodName := ⟨RX0, "partsDone", "()I"⟩
abbrev cX0_isAtEnd : ByteArray := prog_2_method_18_code
def yX0_isAtEnd : MethodName := ⟨RX0, "isAtEnd", "()Z"⟩
def RX1 : String := "GreatSort$Heap"
def TX1 : u_T := fun k => match k with
  | 0 => ("GreatSort$Heap", "items", "[J", true)
  | _ => ("GreatSort$Heap", "size", "I", false)
def tyX1 : Nat → FieldType := fun k => match k with
  | 0 => .array .long
  | _ => .int
abbrev wsX10 : List Cond := u_ws RX1 TX1 2
theorem nmX1 : ∀ a, a < 2 → ∀ b, b < 2 → a ≠ b → (TX1 a).2.1 ≠ (TX1 b).2.1 := by decide +kernel
theorem tyX1_ok : ∀ k, k < 2 → parseFieldDescriptor (TX1 k).2.2.1 = some (tyX1 k) := by decide +kernel
abbrev cX1_init : ByteArray := prog_3_method_1_code
def yX1_init : MethodName := ⟨RX1, "<init>", "()V"⟩
abbrev cX1_forget : ByteArray := prog_3_method_2_code
def yX1_forget : MethodName := ⟨RX1, "forget", "()V"⟩
abbrev cX1_add : ByteArray := prog_3_method_3_code
def yX1_add : MethodName := ⟨RX1, "add", "(J)V"⟩
abbrev cX1_takeLeast : ByteArray := prog_3_method_4_code
def yX1_takeLeast : MethodName := ⟨RX1, "takeLeast", "()J"⟩
abbrev cX1_sink : ByteArray := prog_3_method_5_code
def yX1_sink : MethodName := ⟨RX1, "sink", "(J)V"⟩
def RX2 : String := "GreatSort$Hosts"
def TX2 : u_T := fun k => match k with
  | 0 => ("GreatSort$Hosts", "paces", "[I", true)
  | _ => ("GreatSort$Hosts", "up", "[Z", true)
def tyX2 : Nat → FieldType := fun k => match k with
  | 0 => .array .int
  | _ => .array .boolean
abbrev wsX20 : List Cond := u_ws RX2 TX2 2
theorem nmX2 : ∀ a, a < 2 → ∀ b, b < 2 → a ≠ b → (TX2 a).2.1 ≠ (TX2 b).2.1 := by decide +kernel
theorem tyX2_ok : ∀ k, k < 2 → parseFieldDescriptor (TX2 k).2.2.1 = some (tyX2 k) := by decide +kernel
abbrev cX2_init : ByteArray := prog_4_method_1_code
def yX2_init : MethodName := ⟨RX2, "<init>", "()V"⟩
def RX3 : String := "GreatSort$Plan"
def TX3 : u_T := fun k => match k with
  | 0 => ("GreatSort$Plan", "takenRuns", "[I", true)
  | 1 => ("GreatSort$Plan", "starts", "[I", true)
  | 2 => ("GreatSort$Plan", "queued", "[I", true)
  | 3 => ("GreatSort$Plan", "merges", "I", false)
  | _ => ("GreatSort$Plan", "told", "Z", false)
def tyX3 : Nat → FieldType := fun k => match k with
  | 0 => .array .int
  | 1 => .array .int
  | 2 => .array .int
  | 3 => .int
  | _ => .boolean
abbrev wsX30 : List Cond := u_ws RX3 TX3 5
theorem nmX3 : ∀ a, a < 5 → ∀ b, b < 5 → a ≠ b → (TX3 a).2.1 ≠ (TX3 b).2.1 := by decide +kernel
theorem tyX3_ok : ∀ k, k < 5 → parseFieldDescriptor (TX3 k).2.2.1 = some (tyX3 k) := by decide +kernel
abbrev cX3_init : ByteArray := prog_5_method_1_code
def yX3_init : MethodName := ⟨RX3, "<init>", "()V"⟩
abbrev cX3_forget : ByteArray := prog_5_method_2_code
def yX3_forget : MethodName := ⟨RX3, "forget", "()V"⟩
abbrev cX3_waysIn : ByteArray := prog_5_method_3_code
def yX3_waysIn : MethodName := ⟨RX3, "waysIn", "(I)I"⟩
abbrev cX3_taken : ByteArray := prog_5_method_4_code
def yX3_taken : MethodName := ⟨RX3, "taken", "(II)I"⟩
abbrev cX3_tell : ByteArray := prog_5_method_5_code
def yX3_tell : MethodName := ⟨RX3, "tell", "(LGreatSort$Runs;ILGreatSort$Heap;)I"⟩
abbrev cX3_takeFewest : ByteArray := prog_5_method_6_code
def yX3_takeFewest : MethodName := ⟨RX3, "takeFewest", "(IILGreatSort$Heap;)I"⟩
abbrev cX3_movedByQueue : ByteArray := prog_5_method_7_code
def yX3_movedByQueue : MethodName := ⟨RX3, "movedByQueue", "(LGreatSort$Runs;I)I"⟩
abbrev cX3_sized : ByteArray := prog_5_method_8_code
def yX3_sized : MethodName := ⟨RX3, "sized", "(II)J"⟩
abbrev cX3_waysOf : ByteArray := prog_5_method_9_code
def yX3_waysOf : MethodName := ⟨RX3, "waysOf", "(III)I"⟩
abbrev cX3_mergesOf : ByteArray := prog_5_method_10_code
def yX3_mergesOf : MethodName := ⟨RX3, "mergesOf", "(II)I"⟩
def RX4 : String := "GreatSort$Rows"
def TX4 : u_T := fun k => match k with
  | 0 => ("GreatSort$Rows", "sorts", "[I", true)
  | 1 => ("GreatSort$Rows", "values", "[I", true)
  | 2 => ("GreatSort$Rows", "turns", "[I", true)
  | 3 => ("GreatSort$Rows", "falling", "[Z", true)
  | _ => ("GreatSort$Rows", "count", "I", false)
def tyX4 : Nat → FieldType := fun k => match k with
  | 0 => .array .int
  | 1 => .array .int
  | 2 => .array .int
  | 3 => .array .boolean
  | _ => .int
abbrev wsX40 : List Cond := u_ws RX4 TX4 5
theorem nmX4 : ∀ a, a < 5 → ∀ b, b < 5 → a ≠ b → (TX4 a).2.1 ≠ (TX4 b).2.1 := by decide +kernel
theorem tyX4_ok : ∀ k, k < 5 → parseFieldDescriptor (TX4 k).2.2.1 = some (tyX4 k) := by decide +kernel
abbrev cX4_init : ByteArray := prog_6_method_1_code
def yX4_init : MethodName := ⟨RX4, "<init>", "()V"⟩
abbrev cX4_has : ByteArray := prog_6_method_2_code
def yX4_has : MethodName := ⟨RX4, "has", "(I)Z"⟩
abbrev cX4_hasRoomFor : ByteArray := prog_6_method_3_code
def yX4_hasRoomFor : MethodName := ⟨RX4, "hasRoomFor", "(I)Z"⟩
abbrev cX4_add : ByteArray := prog_6_method_4_code
def yX4_add : MethodName := ⟨RX4, "add", "(II)V"⟩
abbrev cX4_placeOf : ByteArray := prog_6_method_5_code
def yX4_placeOf : MethodName := ⟨RX4, "placeOf", "(I)I"⟩
abbrev cX4_rowOf : ByteArray := prog_6_method_6_code
def yX4_rowOf : MethodName := ⟨RX4, "rowOf", "(J)I"⟩
def RX5 : String := "GreatSort$Runs"
def TX5 : u_T := fun k => match k with
  | 0 => ("GreatSort$Runs", "members", "[I", true)
  | 1 => ("GreatSort$Runs", "starts", "[I", true)
  | 2 => ("GreatSort$Runs", "inOrder", "[I", true)
  | 3 => ("GreatSort$Runs", "standing", "[I", true)
  | 4 => ("GreatSort$Runs", "heads", "[I", true)
  | 5 => ("GreatSort$Runs", "tails", "[I", true)
  | 6 => ("GreatSort$Runs", "rowsInAll", "I", false)
  | 7 => ("GreatSort$Runs", "made", "I", false)
  | 8 => ("GreatSort$Runs", "all", "I", false)
  | _ => ("GreatSort$Runs", "filled", "I", false)
def tyX5 : Nat → FieldType := fun k => match k with
  | 0 => .array .int
  | 1 => .array .int
  | 2 => .array .int
  | 3 => .array .int
  | 4 => .array .int
  | 5 => .array .int
  | 6 => .int
  | 7 => .int
  | 8 => .int
  | _ => .int
abbrev wsX50 : List Cond := u_ws RX5 TX5 10
theorem nmX5 : ∀ a, a < 10 → ∀ b, b < 10 → a ≠ b → (TX5 a).2.1 ≠ (TX5 b).2.1 := by decide +kernel
theorem tyX5_ok : ∀ k, k < 10 → parseFieldDescriptor (TX5 k).2.2.1 = some (tyX5 k) := by decide +kernel
abbrev cX5_init : ByteArray := prog_7_method_1_code
def yX5_init : MethodName := ⟨RX5, "<init>", "()V"⟩
abbrev cX5_forget : ByteArray := prog_7_method_2_code
def yX5_forget : MethodName := ⟨RX5, "forget", "()V"⟩
abbrev cX5_forgetMerged : ByteArray := prog_7_method_3_code
def yX5_forgetMerged : MethodName := ⟨RX5, "forgetMerged", "()V"⟩
abbrev cX5_has : ByteArray := prog_7_method_4_code
def yX5_has : MethodName := ⟨RX5, "has", "(I)Z"⟩
abbrev cX5_sizeOf : ByteArray := prog_7_method_5_code
def yX5_sizeOf : MethodName := ⟨RX5, "sizeOf", "(I)I"⟩
abbrev cX5_rowIn : ByteArray := prog_7_method_6_code
def yX5_rowIn : MethodName := ⟨RX5, "rowIn", "(II)I"⟩
abbrev cX5_rowInOrder : ByteArray := prog_7_method_7_code
def yX5_rowInOrder : MethodName := ⟨RX5, "rowInOrder", "(I)I"⟩
abbrev cX5_standingOf : ByteArray := prog_7_method_8_code
def yX5_standingOf : MethodName := ⟨RX5, "standingOf", "(I)I"⟩
abbrev cX5_makeOf : ByteArray := prog_7_method_9_code
def yX5_makeOf : MethodName := ⟨RX5, "makeOf", "(LGreatSort$Rows;ILGreatSort$Heap;)V"⟩
abbrev cX5_putInOrder : ByteArray := prog_7_method_10_code
def yX5_putInOrder : MethodName := ⟨RX5, "putInOrder", "(LGreatSort$Rows;LGreatSort$Heap;)V"⟩
abbrev cX5_select : ByteArray := prog_7_method_11_code
def yX5_select : MethodName := ⟨RX5, "select", "(LGreatSort$Rows;ILGreatSort$Heap;)V"⟩
abbrev cX5_begin : ByteArray := prog_7_method_12_code
def yX5_begin : MethodName := ⟨RX5, "begin", "()V"⟩
abbrev cX5_append : ByteArray := prog_7_method_13_code
def yX5_append : MethodName := ⟨RX5, "append", "(I)V"⟩
abbrev cX5_mergeThose : ByteArray := prog_7_method_14_code
def yX5_mergeThose : MethodName := ⟨RX5, "mergeThose", "(LGreatSort$Plan;I)I"⟩
abbrev cX5_takeFirst : ByteArray := prog_7_method_15_code
def yX5_takeFirst : MethodName := ⟨RX5, "takeFirst", "(I)I"⟩
def RX6 : String := "GreatSort"
def TX6 : u_T := fun k => match k with
  | 0 => ("GreatSort", "rows", "LGreatSort$Rows;", true)
  | 1 => ("GreatSort", "heap", "LGreatSort$Heap;", true)
  | 2 => ("GreatSort", "runs", "LGreatSort$Runs;", true)
  | 3 => ("GreatSort", "plan", "LGreatSort$Plan;", true)
  | 4 => ("GreatSort", "cut", "LGreatSort$Cut;", true)
  | _ => ("GreatSort", "hosts", "LGreatSort$Hosts;", true)
def tyX6 : Nat → FieldType := fun k => match k with
  | 0 => .object "GreatSort$Rows"
  | 1 => .object "GreatSort$Heap"
  | 2 => .object "GreatSort$Runs"
  | 3 => .object "GreatSort$Plan"
  | 4 => .object "GreatSort$Cut"
  | _ => .object "GreatSort$Hosts"
abbrev wsX60 : List Cond := u_ws RX6 TX6 6
theorem nmX6 : ∀ a, a < 6 → ∀ b, b < 6 → a ≠ b → (TX6 a).2.1 ≠ (TX6 b).2.1 := by decide +kernel
theorem tyX6_ok : ∀ k, k < 6 → parseFieldDescriptor (TX6 k).2.2.1 = some (tyX6 k) := by decide +kernel
abbrev cX6_init : ByteArray := prog_1_method_1_code
def yX6_init : MethodName := ⟨RX6, "<init>", "()V"⟩
abbrev cX6_give : ByteArray := prog_1_method_2_code
def yX6_give : MethodName := ⟨RX6, "give", "(II)I"⟩
abbrev cX6_sow : ByteArray := prog_1_method_3_code
def yX6_sow : MethodName := ⟨RX6, "sow", "(IIIII)I"⟩
abbrev cX6_clear : ByteArray := prog_1_method_4_code
def yX6_clear : MethodName := ⟨RX6, "clear", "()I"⟩
abbrev cX6_order : ByteArray := prog_1_method_5_code
def yX6_order : MethodName := ⟨RX6, "order", "(IIII)Z"⟩
abbrev cX6_falls : ByteArray := prog_1_method_6_code
def yX6_falls : MethodName := ⟨RX6, "falls", "(IZ)Z"⟩
abbrev cX6_row : ByteArray := prog_1_method_7_code
def yX6_row : MethodName := ⟨RX6, "row", "(II)I"⟩
abbrev cX6_against : ByteArray := prog_1_method_8_code
def yX6_against : MethodName := ⟨RX6, "against", "(II)I"⟩
abbrev cX6_rank : ByteArray := prog_1_method_9_code
def yX6_rank : MethodName := ⟨RX6, "rank", "(I)I"⟩
abbrev cX6_runs : ByteArray := prog_1_method_10_code
def yX6_runs : MethodName := ⟨RX6, "runs", "(I)I"⟩
abbrev cX6_length : ByteArray := prog_1_method_11_code
def yX6_length : MethodName := ⟨RX6, "length", "(I)I"⟩
abbrev cX6_at : ByteArray := prog_1_method_12_code
def yX6_at : MethodName := ⟨RX6, "at", "(II)I"⟩
abbrev cX6_plan : ByteArray := prog_1_method_13_code
def yX6_plan : MethodName := ⟨RX6, "plan", "(I)I"⟩
abbrev cX6_queue : ByteArray := prog_1_method_14_code
def yX6_queue : MethodName := ⟨RX6, "queue", "(I)I"⟩
abbrev cX6_merges : ByteArray := prog_1_method_15_code
def yX6_merges : MethodName := ⟨RX6, "merges", "()I"⟩
abbrev cX6_takes : ByteArray := prog_1_method_16_code
def yX6_takes : MethodName := ⟨RX6, "takes", "(II)I"⟩
abbrev cX6_merge : ByteArray := prog_1_method_17_code
def yX6_merge : MethodName := ⟨RX6, "merge", "()I"⟩
abbrev cX6_cut : ByteArray := prog_1_method_18_code
def yX6_cut : MethodName := ⟨RX6, "cut", "(II)I"⟩
abbrev cX6_bound : ByteArray := prog_1_method_19_code
def yX6_bound : MethodName := ⟨RX6, "bound", "()I"⟩
abbrev cX6_part : ByteArray := prog_1_method_20_code
def yX6_part : MethodName := ⟨RX6, "part", "(II)I"⟩
abbrev cX6_pace : ByteArray := prog_1_method_21_code
def yX6_pace : MethodName := ⟨RX6, "pace", "(II)Z"⟩
abbrev cX6_fall : ByteArray := prog_1_method_22_code
def yX6_fall : MethodName := ⟨RX6, "fall", "(I)I"⟩
abbrev cX6_rise : ByteArray := prog_1_method_23_code
def yX6_rise : MethodName := ⟨RX6, "rise", "(I)I"⟩
abbrev cX6_host : ByteArray := prog_1_method_24_code
def yX6_host : MethodName := ⟨RX6, "host", "(II)I"⟩
abbrev cX6_tick : ByteArray := prog_1_method_25_code
def yX6_tick : MethodName := ⟨RX6, "tick", "()I"⟩
abbrev cX6_work : ByteArray := prog_1_method_26_code
def yX6_work : MethodName := ⟨RX6, "work", "(I)I"⟩
abbrev cX6_end : ByteArray := prog_1_method_27_code
def yX6_end : MethodName := ⟨RX6, "end", "(I)I"⟩
abbrev cX6_count : ByteArray := prog_1_method_28_code
def yX6_count : MethodName := ⟨RX6, "count", "(I)I"⟩
abbrev cX6_forgetRuns : ByteArray := prog_1_method_29_code
def yX6_forgetRuns : MethodName := ⟨RX6, "forgetRuns", "()V"⟩
abbrev cX6_isIn : ByteArray := prog_1_method_30_code
def yX6_isIn : MethodName := ⟨RX6, "isIn", "(III)Z"⟩
abbrev cX6_isHost : ByteArray := prog_1_method_31_code
def yX6_isHost : MethodName := ⟨RX6, "isHost", "(I)Z"⟩
abbrev cX6_isEachSortOnce : ByteArray := prog_1_method_32_code
def yX6_isEachSortOnce : MethodName := ⟨RX6, "isEachSortOnce", "(IIII)Z"⟩
def RX7 : String := "GreatSortModel"
def TX7 : u_T := fun k => match k with
  | 0 => ("GreatSortModel", "sorts", "[I", true)
  | 1 => ("GreatSortModel", "values", "[I", true)
  | 2 => ("GreatSortModel", "rows", "I", false)
  | 3 => ("GreatSortModel", "placeOf", "[I", true)
  | 4 => ("GreatSortModel", "falling", "[Z", true)
  | 5 => ("GreatSortModel", "made", "Z", false)
  | 6 => ("GreatSortModel", "runs", "I", false)
  | 7 => ("GreatSortModel", "allRuns", "I", false)
  | 8 => ("GreatSortModel", "begin", "[I", true)
  | 9 => ("GreatSortModel", "size", "[I", true)
  | 10 => ("GreatSortModel", "pool", "[I", true)
  | 11 => ("GreatSortModel", "pooled", "I", false)
  | 12 => ("GreatSortModel", "ways", "I", false)
  | 13 => ("GreatSortModel", "merges", "I", false)
  | 14 => ("GreatSortModel", "takes", "[I", true)
  | 15 => ("GreatSortModel", "taken", "[I", true)
  | 16 => ("GreatSortModel", "parts", "I", false)
  | 17 => ("GreatSortModel", "every", "I", false)
  | 18 => ("GreatSortModel", "samples", "I", false)
  | 19 => ("GreatSortModel", "sample", "[I", true)
  | 20 => ("GreatSortModel", "ends", "[I", true)
  | 21 => ("GreatSortModel", "partSize", "[I", true)
  | 22 => ("GreatSortModel", "merged", "[I", true)
  | 23 => ("GreatSortModel", "most", "[I", true)
  | 24 => ("GreatSortModel", "done", "[Z", true)
  | 25 => ("GreatSortModel", "on", "[I", true)
  | 26 => ("GreatSortModel", "ticks", "I", false)
  | 27 => ("GreatSortModel", "mergedAll", "I", false)
  | 28 => ("GreatSortModel", "again", "I", false)
  | 29 => ("GreatSortModel", "paces", "[I", true)
  | 30 => ("GreatSortModel", "up", "[Z", true)
  | 31 => ("GreatSortModel", "byHost", "[I", true)
  | 32 => ("GreatSortModel", "heap", "[I", true)
  | 33 => ("GreatSortModel", "used", "[Z", true)
  | 34 => ("GreatSortModel", "planned", "[I", true)
  | _ => ("GreatSortModel", "gone", "[I", true)
def tyX7 : Nat → FieldType := fun k => match k with
  | 0 => .array .int
  | 1 => .array .int
  | 2 => .int
  | 3 => .array .int
  | 4 => .array .boolean
  | 5 => .boolean
  | 6 => .int
  | 7 => .int
  | 8 => .array .int
  | 9 => .array .int
  | 10 => .array .int
  | 11 => .int
  | 12 => .int
  | 13 => .int
  | 14 => .array .int
  | 15 => .array .int
  | 16 => .int
  | 17 => .int
  | 18 => .int
  | 19 => .array .int
  | 20 => .array .int
  | 21 => .array .int
  | 22 => .array .int
  | 23 => .array .int
  | 24 => .array .boolean
  | 25 => .array .int
  | 26 => .int
  | 27 => .int
  | 28 => .int
  | 29 => .array .int
  | 30 => .array .boolean
  | 31 => .array .int
  | 32 => .array .int
  | 33 => .array .boolean
  | 34 => .array .int
  | _ => .array .int
abbrev wsX70 : List Cond := u_ws RX7 TX7 36
theorem nmX7 : ∀ a, a < 36 → ∀ b, b < 36 → a ≠ b → (TX7 a).2.1 ≠ (TX7 b).2.1 := by decide +kernel
theorem tyX7_ok : ∀ k, k < 36 → parseFieldDescriptor (TX7 k).2.2.1 = some (tyX7 k) := by decide +kernel
abbrev cX7_init : ByteArray := prog_9_method_1_code
def yX7_init : MethodName := ⟨RX7, "<init>", "()V"⟩
abbrev cX7_is : ByteArray := prog_9_method_2_code
def yX7_is : MethodName := ⟨RX7, "is", "(III)Z"⟩
abbrev cX7_give : ByteArray := prog_9_method_3_code
def yX7_give : MethodName := ⟨RX7, "give", "(II)I"⟩
abbrev cX7_sow : ByteArray := prog_9_method_4_code
def yX7_sow : MethodName := ⟨RX7, "sow", "(IIIII)I"⟩
abbrev cX7_clear : ByteArray := prog_9_method_5_code
def yX7_clear : MethodName := ⟨RX7, "clear", "()I"⟩
abbrev cX7_order : ByteArray := prog_9_method_6_code
def yX7_order : MethodName := ⟨RX7, "order", "(IIII)Z"⟩
abbrev cX7_falls : ByteArray := prog_9_method_7_code
def yX7_falls : MethodName := ⟨RX7, "falls", "(IZ)Z"⟩
abbrev cX7_isRow : ByteArray := prog_9_method_8_code
def yX7_isRow : MethodName := ⟨RX7, "isRow", "(I)Z"⟩
abbrev cX7_row : ByteArray := prog_9_method_9_code
def yX7_row : MethodName := ⟨RX7, "row", "(II)I"⟩
abbrev cX7_ahead : ByteArray := prog_9_method_10_code
def yX7_ahead : MethodName := ⟨RX7, "ahead", "(II)Z"⟩
abbrev cX7_against : ByteArray := prog_9_method_11_code
def yX7_against : MethodName := ⟨RX7, "against", "(II)I"⟩
abbrev cX7_rank : ByteArray := prog_9_method_12_code
def yX7_rank : MethodName := ⟨RX7, "rank", "(I)I"⟩
abbrev cX7_runs : ByteArray := prog_9_method_13_code
def yX7_runs : MethodName := ⟨RX7, "runs", "(I)I"⟩
abbrev cX7_length : ByteArray := prog_9_method_14_code
def yX7_length : MethodName := ⟨RX7, "length", "(I)I"⟩
abbrev cX7_at : ByteArray := prog_9_method_15_code
def yX7_at : MethodName := ⟨RX7, "at", "(II)I"⟩
abbrev cX7_moves : ByteArray := prog_9_method_16_code
def yX7_moves : MethodName := ⟨RX7, "moves", "(IZZ)I"⟩
abbrev cX7_plan : ByteArray := prog_9_method_17_code
def yX7_plan : MethodName := ⟨RX7, "plan", "(I)I"⟩
abbrev cX7_queue : ByteArray := prog_9_method_18_code
def yX7_queue : MethodName := ⟨RX7, "queue", "(I)I"⟩
abbrev cX7_merges : ByteArray := prog_9_method_19_code
def yX7_merges : MethodName := ⟨RX7, "merges", "()I"⟩
abbrev cX7_takes : ByteArray := prog_9_method_20_code
def yX7_takes : MethodName := ⟨RX7, "takes", "(II)I"⟩
abbrev cX7_merge : ByteArray := prog_9_method_21_code
def yX7_merge : MethodName := ⟨RX7, "merge", "()I"⟩
abbrev cX7_isIn : ByteArray := prog_9_method_22_code
def yX7_isIn : MethodName := ⟨RX7, "isIn", "(II)Z"⟩
abbrev cX7_cut : ByteArray := prog_9_method_23_code
def yX7_cut : MethodName := ⟨RX7, "cut", "(II)I"⟩
abbrev cX7_bound : ByteArray := prog_9_method_24_code
def yX7_bound : MethodName := ⟨RX7, "bound", "()I"⟩
abbrev cX7_part : ByteArray := prog_9_method_25_code
def yX7_part : MethodName := ⟨RX7, "part", "(II)I"⟩
abbrev cX7_isHost : ByteArray := prog_9_method_26_code
def yX7_isHost : MethodName := ⟨RX7, "isHost", "(I)Z"⟩
abbrev cX7_pace : ByteArray := prog_9_method_27_code
def yX7_pace : MethodName := ⟨RX7, "pace", "(II)Z"⟩
abbrev cX7_left : ByteArray := prog_9_method_28_code
def yX7_left : MethodName := ⟨RX7, "left", "(I)I"⟩
abbrev cX7_leaves : ByteArray := prog_9_method_29_code
def yX7_leaves : MethodName := ⟨RX7, "leaves", "(I)I"⟩
abbrev cX7_fall : ByteArray := prog_9_method_30_code
def yX7_fall : MethodName := ⟨RX7, "fall", "(I)I"⟩
abbrev cX7_rise : ByteArray := prog_9_method_31_code
def yX7_rise : MethodName := ⟨RX7, "rise", "(I)I"⟩
abbrev cX7_host : ByteArray := prog_9_method_32_code
def yX7_host : MethodName := ⟨RX7, "host", "(II)I"⟩
abbrev cX7_tick : ByteArray := prog_9_method_33_code
def yX7_tick : MethodName := ⟨RX7, "tick", "()I"⟩
abbrev cX7_isThere : ByteArray := prog_9_method_34_code
def yX7_isThere : MethodName := ⟨RX7, "isThere", "()Z"⟩
abbrev cX7_work : ByteArray := prog_9_method_35_code
def yX7_work : MethodName := ⟨RX7, "work", "(I)I"⟩
abbrev cX7_end : ByteArray := prog_9_method_36_code
def yX7_end : MethodName := ⟨RX7, "end", "(I)I"⟩
abbrev cX7_count : ByteArray := prog_9_method_37_code
def yX7_count : MethodName := ⟨RX7, "count", "(I)I"⟩
def RJ6 : String := "java/lang/Integer"
def TJ6 : u_T := fun k => match k with
  | _ => ("", "", "", false)
def tyJ6 : Nat → FieldType := fun k => match k with
  | _ => .int
abbrev wsJ60 : List Cond := u_ws RJ6 TJ6 0
theorem nmJ6 : ∀ a, a < 0 → ∀ b, b < 0 → a ≠ b → (TJ6 a).2.1 ≠ (TJ6 b).2.1 := by decide +kernel
theorem tyJ6_ok : ∀ k, k < 0 → parseFieldDescriptor (TJ6 k).2.2.1 = some (tyJ6 k) := by decide +kernel
abbrev cJ6_compare_7cf53 : ByteArray := prog_10_method_40_code
def yJ6_compare_7cf53 : MethodName := ⟨RJ6, "compare", "(II)I"⟩
def RJ9 : String := "java/lang/Math"
def TJ9 : u_T := fun k => match k with
  | _ => ("", "", "", false)
def tyJ9 : Nat → FieldType := fun k => match k with
  | _ => .int
abbrev wsJ90 : List Cond := u_ws RJ9 TJ9 0
theorem nmJ9 : ∀ a, a < 0 → ∀ b, b < 0 → a ≠ b → (TJ9 a).2.1 ≠ (TJ9 b).2.1 := by decide +kernel
theorem tyJ9_ok : ∀ k, k < 0 → parseFieldDescriptor (TJ9 k).2.2.1 = some (tyJ9 k) := by decide +kernel
abbrev cJ9_max_7cf53 : ByteArray := prog_11_method_65_code
def yJ9_max_7cf53 : MethodName := ⟨RJ9, "max", "(II)I"⟩
abbrev cJ9_min_7cf53 : ByteArray := prog_11_method_69_code
def yJ9_min_7cf53 : MethodName := ⟨RJ9, "min", "(II)I"⟩
def RL : String := "GreatSortLaw"
abbrev cL_law : ByteArray := code
def yL_law : MethodName := ⟨RL, "law", "([I)Z"⟩
def wsX0_init : List Cond := .code yX0_init cX0_init 1 none :: ([.methodLink RX0 3 objectInit, .instanceMethod objectInit, .code objectInit ⟨#[0xb1]⟩ 1 none, .arrayClass .boolean, .fieldLink RX0 9 "GreatSort$Cut" "sampled" "[Z", .arrayClass .int, .fieldLink RX0 15 "GreatSort$Cut" "sampleStandings" "[I", .fieldLink RX0 19 "GreatSort$Cut" "sizes" "[I", .fieldLink RX0 22 "GreatSort$Cut" "ends" "[I", .fieldLink RX0 25 "GreatSort$Cut" "lies" "[I", .fieldLink RX0 28 "GreatSort$Cut" "merged" "[I", .fieldLink RX0 31 "GreatSort$Cut" "reached" "[I", .fieldLink RX0 34 "GreatSort$Cut" "done" "[Z", .fieldLink RX0 37 "GreatSort$Cut" "mergedBy" "[I"] ++ wsX00)
def wsX0_forget : List Cond := .code yX0_forget cX0_forget 2 none :: ([.fieldLink RX0 40 "GreatSort$Cut" "parts" "I", .fieldLink RX0 44 "GreatSort$Cut" "samples" "I", .fieldLink RX0 47 "GreatSort$Cut" "bound" "I", .fieldLink RX0 50 "GreatSort$Cut" "ticks" "I", .fieldLink RX0 53 "GreatSort$Cut" "mergedInAll" "I", .fieldLink RX0 56 "GreatSort$Cut" "mergedAgain" "I", .fieldLink RX0 37 "GreatSort$Cut" "mergedBy" "[I"] ++ wsX00)
def wsX0_stands : List Cond := .code yX0_stands cX0_stands 1 (some .boolean) :: ([.fieldLink RX0 40 "GreatSort$Cut" "parts" "I"] ++ wsX00)
def wsX6_isIn : List Cond := .code yX6_isIn cX6_isIn 3 (some .boolean) :: ([])
def wsX5_has : List Cond := .code yX5_has cX5_has 2 (some .boolean) :: ([.fieldLink RX5 37 "GreatSort$Runs" "all" "I", .static yX6_isIn, .initialized RX6, .code yX6_isIn cX6_isIn 3 (some .boolean)] ++ wsX50)
def wsX5_sizeOf : List Cond := .code yX5_sizeOf cX5_sizeOf 2 (some .int) :: ([.fieldLink RX5 15 "GreatSort$Runs" "starts" "[I", .methodLink RX5 47 yX5_has, .instanceMethod yX5_has, .selects RX5 yX5_has yX5_has, .initialized RX5, .code yX5_has cX5_has 2 (some .boolean), .fieldLink RX5 37 "GreatSort$Runs" "all" "I", .static yX6_isIn, .initialized RX6, .code yX6_isIn cX6_isIn 3 (some .boolean)] ++ wsX50)
def wsX5_rowIn : List Cond := .code yX5_rowIn cX5_rowIn 3 (some .int) :: ([.fieldLink RX5 9 "GreatSort$Runs" "members" "[I", .fieldLink RX5 15 "GreatSort$Runs" "starts" "[I", .methodLink RX5 51 yX5_sizeOf, .instanceMethod yX5_sizeOf, .selects RX5 yX5_sizeOf yX5_sizeOf, .initialized RX5, .code yX5_sizeOf cX5_sizeOf 2 (some .int), .methodLink RX5 47 yX5_has, .instanceMethod yX5_has, .selects RX5 yX5_has yX5_has, .code yX5_has cX5_has 2 (some .boolean), .fieldLink RX5 37 "GreatSort$Runs" "all" "I", .static yX6_isIn, .initialized RX6, .code yX6_isIn cX6_isIn 3 (some .boolean)] ++ wsX50)
def wsX5_standingOf : List Cond := .code yX5_standingOf cX5_standingOf 2 (some .int) :: ([.fieldLink RX5 30 "GreatSort$Runs" "rowsInAll" "I", .fieldLink RX5 21 "GreatSort$Runs" "standing" "[I", .static yX6_isIn, .initialized RX6, .code yX6_isIn cX6_isIn 3 (some .boolean)] ++ wsX50)
def wsX0_takeSamples_r1 : List Cond := [Cond.fieldLink RX0 9 "GreatSort$Cut" "sampled" "[Z", Cond.fieldLink RX0 15 "GreatSort$Cut" "sampleStandings" "[I", Cond.fieldLink RX0 44 "GreatSort$Cut" "samples" "I", Cond.methodLink RX0 89 yX5_sizeOf, Cond.instanceMethod yX5_sizeOf, Cond.selects RX5 yX5_sizeOf yX5_sizeOf, Cond.initialized RX5, Cond.code yX5_sizeOf cX5_sizeOf 2 (some .int), Cond.fieldLink RX5 15 "GreatSort$Runs" "starts" "[I", Cond.methodLink RX5 47 yX5_has, Cond.instanceMethod yX5_has, Cond.selects RX5 yX5_has yX5_has, Cond.code yX5_has cX5_has 2 (some .boolean), Cond.fieldLink RX5 37 "GreatSort$Runs" "all" "I", Cond.static yX6_isIn, Cond.initialized RX6, Cond.code yX6_isIn cX6_isIn 3 (some .boolean), Cond.methodLink RX0 92 yX5_rowIn, Cond.instanceMethod yX5_rowIn, Cond.selects RX5 yX5_rowIn yX5_rowIn, Cond.code yX5_rowIn cX5_rowIn 3 (some .int), Cond.fieldLink RX5 9 "GreatSort$Runs" "members" "[I", Cond.methodLink RX5 51 yX5_sizeOf, Cond.methodLink RX0 96 yX5_standingOf]
def wsX0_takeSamples_r2 : List Cond := [Cond.instanceMethod yX5_standingOf, Cond.selects RX5 yX5_standingOf yX5_standingOf, Cond.code yX5_standingOf cX5_standingOf 2 (some .int), Cond.fieldLink RX5 30 "GreatSort$Runs" "rowsInAll" "I", Cond.fieldLink RX5 21 "GreatSort$Runs" "standing" "[I"]
def wsX0_takeSamples : List Cond := .code yX0_takeSamples cX0_takeSamples 7 none :: ((wsX0_takeSamples_r1 ++ wsX0_takeSamples_r2) ++ wsX00 ++ wsX50)
def wsX0_lastStanding : List Cond := .code yX0_lastStanding cX0_lastStanding 2 (some .int) :: ([.fieldLink RX0 44 "GreatSort$Cut" "samples" "I", .fieldLink RX0 15 "GreatSort$Cut" "sampleStandings" "[I", .static yX6_isIn, .initialized RX6, .code yX6_isIn cX6_isIn 3 (some .boolean)] ++ wsX00)
def wsX5_rowInOrder : List Cond := .code yX5_rowInOrder cX5_rowInOrder 2 (some .int) :: ([.fieldLink RX5 30 "GreatSort$Runs" "rowsInAll" "I", .fieldLink RX5 18 "GreatSort$Runs" "inOrder" "[I", .static yX6_isIn, .initialized RX6, .code yX6_isIn cX6_isIn 3 (some .boolean)] ++ wsX50)
def wsX0_beginAnew : List Cond := .code yX0_beginAnew cX0_beginAnew 2 none :: ([.fieldLink RX0 28 "GreatSort$Cut" "merged" "[I", .fieldLink RX0 34 "GreatSort$Cut" "done" "[Z"] ++ wsX00)
def wsX0_makeOf_r1 : List Cond := [Cond.fieldLink RX0 40 "GreatSort$Cut" "parts" "I", Cond.fieldLink RX0 44 "GreatSort$Cut" "samples" "I", Cond.fieldLink RX0 47 "GreatSort$Cut" "bound" "I", Cond.fieldLink RX0 22 "GreatSort$Cut" "ends" "[I", Cond.fieldLink RX0 19 "GreatSort$Cut" "sizes" "[I", Cond.fieldLink RX0 31 "GreatSort$Cut" "reached" "[I", Cond.methodLink RX0 59 yX0_forget, Cond.instanceMethod yX0_forget, Cond.selects RX0 yX0_forget yX0_forget, Cond.initialized RX0, Cond.code yX0_forget cX0_forget 2 none, Cond.fieldLink RX0 50 "GreatSort$Cut" "ticks" "I", Cond.fieldLink RX0 53 "GreatSort$Cut" "mergedInAll" "I", Cond.fieldLink RX0 56 "GreatSort$Cut" "mergedAgain" "I", Cond.fieldLink RX0 37 "GreatSort$Cut" "mergedBy" "[I", Cond.methodLink RX0 62 yX0_takeSamples, Cond.instanceMethod yX0_takeSamples, Cond.selects RX0 yX0_takeSamples yX0_takeSamples, Cond.code yX0_takeSamples cX0_takeSamples 7 none, Cond.fieldLink RX0 9 "GreatSort$Cut" "sampled" "[Z", Cond.fieldLink RX0 15 "GreatSort$Cut" "sampleStandings" "[I", Cond.methodLink RX0 89 yX5_sizeOf, Cond.instanceMethod yX5_sizeOf, Cond.selects RX5 yX5_sizeOf yX5_sizeOf]
def wsX0_makeOf_r2 : List Cond := [Cond.initialized RX5, Cond.code yX5_sizeOf cX5_sizeOf 2 (some .int), Cond.fieldLink RX5 15 "GreatSort$Runs" "starts" "[I", Cond.methodLink RX5 47 yX5_has, Cond.instanceMethod yX5_has, Cond.selects RX5 yX5_has yX5_has, Cond.code yX5_has cX5_has 2 (some .boolean), Cond.fieldLink RX5 37 "GreatSort$Runs" "all" "I", Cond.static yX6_isIn, Cond.initialized RX6, Cond.code yX6_isIn cX6_isIn 3 (some .boolean), Cond.methodLink RX0 92 yX5_rowIn, Cond.instanceMethod yX5_rowIn, Cond.selects RX5 yX5_rowIn yX5_rowIn, Cond.code yX5_rowIn cX5_rowIn 3 (some .int), Cond.fieldLink RX5 9 "GreatSort$Runs" "members" "[I", Cond.methodLink RX5 51 yX5_sizeOf, Cond.methodLink RX0 96 yX5_standingOf, Cond.instanceMethod yX5_standingOf, Cond.selects RX5 yX5_standingOf yX5_standingOf, Cond.code yX5_standingOf cX5_standingOf 2 (some .int), Cond.fieldLink RX5 30 "GreatSort$Runs" "rowsInAll" "I", Cond.fieldLink RX5 21 "GreatSort$Runs" "standing" "[I", Cond.methodLink RX0 74 yX0_lastStanding]
def wsX0_makeOf_r3 : List Cond := [Cond.instanceMethod yX0_lastStanding, Cond.selects RX0 yX0_lastStanding yX0_lastStanding, Cond.code yX0_lastStanding cX0_lastStanding 2 (some .int), Cond.methodLink RX0 78 yX5_rowInOrder, Cond.instanceMethod yX5_rowInOrder, Cond.selects RX5 yX5_rowInOrder yX5_rowInOrder, Cond.code yX5_rowInOrder cX5_rowInOrder 2 (some .int), Cond.fieldLink RX5 18 "GreatSort$Runs" "inOrder" "[I", Cond.methodLink RX0 81 yX0_beginAnew, Cond.instanceMethod yX0_beginAnew, Cond.selects RX0 yX0_beginAnew yX0_beginAnew, Cond.code yX0_beginAnew cX0_beginAnew 2 none, Cond.fieldLink RX0 28 "GreatSort$Cut" "merged" "[I", Cond.fieldLink RX0 34 "GreatSort$Cut" "done" "[Z"]
def wsX0_makeOf : List Cond := .code yX0_makeOf cX0_makeOf 7 none :: ((wsX0_makeOf_r1 ++ (wsX0_makeOf_r2 ++ wsX0_makeOf_r3)) ++ wsX00 ++ wsX50)
def wsX0_leftOn : List Cond := .code yX0_leftOn cX0_leftOn 4 (some .int) :: ([.fieldLink RX0 40 "GreatSort$Cut" "parts" "I", .fieldLink RX0 25 "GreatSort$Cut" "lies" "[I", .fieldLink RX0 19 "GreatSort$Cut" "sizes" "[I", .fieldLink RX0 28 "GreatSort$Cut" "merged" "[I"] ++ wsX00)
def wsX0_leastLaden : List Cond := .code yX0_leastLaden cX0_leastLaden 6 (some .int) :: ([.methodLink RX0 112 yX0_leftOn, .instanceMethod yX0_leftOn, .selects RX0 yX0_leftOn yX0_leftOn, .initialized RX0, .code yX0_leftOn cX0_leftOn 4 (some .int), .fieldLink RX0 40 "GreatSort$Cut" "parts" "I", .fieldLink RX0 25 "GreatSort$Cut" "lies" "[I", .fieldLink RX0 19 "GreatSort$Cut" "sizes" "[I", .fieldLink RX0 28 "GreatSort$Cut" "merged" "[I"] ++ wsX20 ++ wsX00)
def wsX0_moveFrom : List Cond := .code yX0_moveFrom cX0_moveFrom 5 (some .int) :: ([.fieldLink RX0 40 "GreatSort$Cut" "parts" "I", .fieldLink RX0 25 "GreatSort$Cut" "lies" "[I", .methodLink RX0 81 yX0_beginAnew, .instanceMethod yX0_beginAnew, .selects RX0 yX0_beginAnew yX0_beginAnew, .initialized RX0, .code yX0_beginAnew cX0_beginAnew 2 none, .fieldLink RX0 28 "GreatSort$Cut" "merged" "[I", .fieldLink RX0 34 "GreatSort$Cut" "done" "[Z", .methodLink RX0 108 yX0_leastLaden, .instanceMethod yX0_leastLaden, .selects RX0 yX0_leastLaden yX0_leastLaden, .code yX0_leastLaden cX0_leastLaden 6 (some .int), .methodLink RX0 112 yX0_leftOn, .instanceMethod yX0_leftOn, .selects RX0 yX0_leftOn yX0_leftOn, .code yX0_leftOn cX0_leftOn 4 (some .int), .fieldLink RX0 19 "GreatSort$Cut" "sizes" "[I"] ++ wsX00 ++ wsX20)
def wsX0_layOn : List Cond := .code yX0_layOn cX0_layOn 3 none :: ([.fieldLink RX0 40 "GreatSort$Cut" "parts" "I", .fieldLink RX0 25 "GreatSort$Cut" "lies" "[I", .methodLink RX0 104 yX0_moveFrom, .instanceMethod yX0_moveFrom, .selects RX0 yX0_moveFrom yX0_moveFrom, .initialized RX0, .code yX0_moveFrom cX0_moveFrom 5 (some .int), .methodLink RX0 81 yX0_beginAnew, .instanceMethod yX0_beginAnew, .selects RX0 yX0_beginAnew yX0_beginAnew, .code yX0_beginAnew cX0_beginAnew 2 none, .fieldLink RX0 28 "GreatSort$Cut" "merged" "[I", .fieldLink RX0 34 "GreatSort$Cut" "done" "[Z", .methodLink RX0 108 yX0_leastLaden, .instanceMethod yX0_leastLaden, .selects RX0 yX0_leastLaden yX0_leastLaden, .code yX0_leastLaden cX0_leastLaden 6 (some .int), .methodLink RX0 112 yX0_leftOn, .instanceMethod yX0_leftOn, .selects RX0 yX0_leftOn yX0_leftOn, .code yX0_leftOn cX0_leftOn 4 (some .int), .fieldLink RX0 19 "GreatSort$Cut" "sizes" "[I"] ++ wsX00 ++ wsX20)
def wsX0_bringTo : List Cond := .code yX0_bringTo cX0_bringTo 4 (some .int) :: ([.fieldLink RX0 40 "GreatSort$Cut" "parts" "I", .fieldLink RX0 25 "GreatSort$Cut" "lies" "[I"] ++ wsX00)
def wsX0_partsOn : List Cond := .code yX0_partsOn cX0_partsOn 4 (some .int) :: ([.fieldLink RX0 40 "GreatSort$Cut" "parts" "I", .fieldLink RX0 25 "GreatSort$Cut" "lies" "[I"] ++ wsX00)
def wsX0_mergeSome : List Cond := .code yX0_mergeSome cX0_mergeSome 3 none :: ([.fieldLink RX0 56 "GreatSort$Cut" "mergedAgain" "I", .fieldLink RX0 31 "GreatSort$Cut" "reached" "[I", .fieldLink RX0 28 "GreatSort$Cut" "merged" "[I", .methodLink RX0 130 Lib.Math.max.name, .static Lib.Math.max.name, .initialized "java/lang/Math", .code Lib.Math.max.name Lib.Math.max.code 2 (some .int), .methodLink RX0 122 Lib.Math.min.name, .static Lib.Math.min.name, .code Lib.Math.min.name Lib.Math.min.code 2 (some .int), .fieldLink RX0 53 "GreatSort$Cut" "mergedInAll" "I"] ++ wsX00)
def wsX0_workAtPartsOf : List Cond := .code yX0_workAtPartsOf cX0_workAtPartsOf 6 none :: ([.fieldLink RX0 40 "GreatSort$Cut" "parts" "I", .fieldLink RX0 25 "GreatSort$Cut" "lies" "[I", .fieldLink RX0 34 "GreatSort$Cut" "done" "[Z", .fieldLink RX0 19 "GreatSort$Cut" "sizes" "[I", .fieldLink RX0 28 "GreatSort$Cut" "merged" "[I", .methodLink RX0 122 Lib.Math.min.name, .static Lib.Math.min.name, .initialized "java/lang/Math", .code Lib.Math.min.name Lib.Math.min.code 2 (some .int), .fieldLink RX0 37 "GreatSort$Cut" "mergedBy" "[I", .methodLink RX0 127 yX0_mergeSome, .instanceMethod yX0_mergeSome, .selects RX0 yX0_mergeSome yX0_mergeSome, .initialized RX0, .code yX0_mergeSome cX0_mergeSome 3 none, .fieldLink RX0 56 "GreatSort$Cut" "mergedAgain" "I", .fieldLink RX0 31 "GreatSort$Cut" "reached" "[I", .methodLink RX0 130 Lib.Math.max.name, .static Lib.Math.max.name, .code Lib.Math.max.name Lib.Math.max.code 2 (some .int), .fieldLink RX0 53 "GreatSort$Cut" "mergedInAll" "I"] ++ wsX00)
def wsX0_goOn_r1 : List Cond := [Cond.fieldLink RX0 50 "GreatSort$Cut" "ticks" "I", Cond.fieldLink RX0 53 "GreatSort$Cut" "mergedInAll" "I", Cond.methodLink RX0 118 yX0_workAtPartsOf, Cond.instanceMethod yX0_workAtPartsOf, Cond.selects RX0 yX0_workAtPartsOf yX0_workAtPartsOf, Cond.initialized RX0, Cond.code yX0_workAtPartsOf cX0_workAtPartsOf 6 none, Cond.fieldLink RX0 40 "GreatSort$Cut" "parts" "I", Cond.fieldLink RX0 25 "GreatSort$Cut" "lies" "[I", Cond.fieldLink RX0 34 "GreatSort$Cut" "done" "[Z", Cond.fieldLink RX0 19 "GreatSort$Cut" "sizes" "[I", Cond.fieldLink RX0 28 "GreatSort$Cut" "merged" "[I", Cond.methodLink RX0 122 Lib.Math.min.name, Cond.static Lib.Math.min.name, Cond.initialized "java/lang/Math", Cond.code Lib.Math.min.name Lib.Math.min.code 2 (some .int), Cond.fieldLink RX0 37 "GreatSort$Cut" "mergedBy" "[I", Cond.methodLink RX0 127 yX0_mergeSome, Cond.instanceMethod yX0_mergeSome, Cond.selects RX0 yX0_mergeSome yX0_mergeSome, Cond.code yX0_mergeSome cX0_mergeSome 3 none, Cond.fieldLink RX0 56 "GreatSort$Cut" "mergedAgain" "I", Cond.fieldLink RX0 31 "GreatSort$Cut" "reached" "[I", Cond.methodLink RX0 130 Lib.Math.max.name]
def wsX0_goOn_r2 : List Cond := [Cond.static Lib.Math.max.name, Cond.code Lib.Math.max.name Lib.Math.max.code 2 (some .int)]
def wsX0_goOn : List Cond := .code yX0_goOn cX0_goOn 4 (some .int) :: ((wsX0_goOn_r1 ++ wsX0_goOn_r2) ++ wsX00 ++ wsX20)
def wsX0_partsDone : List Cond := .code yX0_partsDone cX0_partsDone 3 (some .int) :: ([.fieldLink RX0 40 "GreatSort$Cut" "parts" "I", .fieldLink RX0 34 "GreatSort$Cut" "done" "[Z"] ++ wsX00)
def wsX0_isAtEnd : List Cond := .code yX0_isAtEnd cX0_isAtEnd 1 (some .boolean) :: ([.fieldLink RX0 40 "GreatSort$Cut" "parts" "I", .methodLink RX0 133 yX0_stands, .instanceMethod yX0_stands, .selects RX0 yX0_stands yX0_stands, .initialized RX0, .code yX0_stands cX0_stands 1 (some .boolean), .methodLink RX0 137 yX0_partsDone, .instanceMethod yX0_partsDone, .selects RX0 yX0_partsDone yX0_partsDone, .code yX0_partsDone cX0_partsDone 3 (some .int), .fieldLink RX0 34 "GreatSort$Cut" "done" "[Z"] ++ wsX00)
def wsX1_init : List Cond := .code yX1_init cX1_init 1 none :: ([.methodLink RX1 3 objectInit, .instanceMethod objectInit, .code objectInit ⟨#[0xb1]⟩ 1 none, .arrayClass .long, .fieldLink RX1 9 "GreatSort$Heap" "items" "[J"] ++ wsX10)
def wsX1_forget : List Cond := .code yX1_forget cX1_forget 1 none :: ([.fieldLink RX1 15 "GreatSort$Heap" "size" "I"] ++ wsX10)
def wsX1_add : List Cond := .code yX1_add cX1_add 5 none :: ([.fieldLink RX1 15 "GreatSort$Heap" "size" "I", .fieldLink RX1 9 "GreatSort$Heap" "items" "[J"] ++ wsX10)
def wsX1_sink : List Cond := .code yX1_sink cX1_sink 7 none :: ([.fieldLink RX1 15 "GreatSort$Heap" "size" "I", .fieldLink RX1 9 "GreatSort$Heap" "items" "[J"] ++ wsX10)
def wsX1_takeLeast : List Cond := .code yX1_takeLeast cX1_takeLeast 3 (some .long) :: ([.fieldLink RX1 15 "GreatSort$Heap" "size" "I", .fieldLink RX1 9 "GreatSort$Heap" "items" "[J", .methodLink RX1 19 yX1_sink, .instanceMethod yX1_sink, .selects RX1 yX1_sink yX1_sink, .initialized RX1, .code yX1_sink cX1_sink 7 none] ++ wsX10)
def wsX2_init : List Cond := .code yX2_init cX2_init 2 none :: ([.methodLink RX2 3 objectInit, .instanceMethod objectInit, .code objectInit ⟨#[0xb1]⟩ 1 none, .arrayClass .int, .fieldLink RX2 9 "GreatSort$Hosts" "paces" "[I", .arrayClass .boolean, .fieldLink RX2 15 "GreatSort$Hosts" "up" "[Z"] ++ wsX20)
def wsX3_init : List Cond := .code yX3_init cX3_init 1 none :: ([.methodLink RX3 3 objectInit, .instanceMethod objectInit, .code objectInit ⟨#[0xb1]⟩ 1 none, .arrayClass .int, .fieldLink RX3 9 "GreatSort$Plan" "takenRuns" "[I", .fieldLink RX3 15 "GreatSort$Plan" "starts" "[I", .fieldLink RX3 18 "GreatSort$Plan" "queued" "[I"] ++ wsX30)
def wsX3_forget : List Cond := .code yX3_forget cX3_forget 1 none :: ([.fieldLink RX3 21 "GreatSort$Plan" "merges" "I", .fieldLink RX3 25 "GreatSort$Plan" "told" "Z"] ++ wsX30)
def wsX3_waysIn : List Cond := .code yX3_waysIn cX3_waysIn 2 (some .int) :: ([.fieldLink RX3 21 "GreatSort$Plan" "merges" "I", .fieldLink RX3 15 "GreatSort$Plan" "starts" "[I", .static yX6_isIn, .initialized RX6, .code yX6_isIn cX6_isIn 3 (some .boolean)] ++ wsX30)
def wsX3_taken : List Cond := .code yX3_taken cX3_taken 3 (some .int) :: ([.fieldLink RX3 9 "GreatSort$Plan" "takenRuns" "[I", .fieldLink RX3 15 "GreatSort$Plan" "starts" "[I", .methodLink RX3 33 yX3_waysIn, .instanceMethod yX3_waysIn, .selects RX3 yX3_waysIn yX3_waysIn, .initialized RX3, .code yX3_waysIn cX3_waysIn 2 (some .int), .fieldLink RX3 21 "GreatSort$Plan" "merges" "I", .static yX6_isIn, .initialized RX6, .code yX6_isIn cX6_isIn 3 (some .boolean)] ++ wsX30)
def wsX3_sized : List Cond := .code yX3_sized cX3_sized 2 (some .long) :: ([.constantLong RX3 79 (799)])
def wsX3_waysOf : List Cond := .code yX3_waysOf cX3_waysOf 3 (some .int) :: ([])
def wsX3_mergesOf : List Cond := .code yX3_mergesOf cX3_mergesOf 2 (some .int) :: ([.methodLink RX3 67 yX3_waysOf, .static yX3_waysOf, .initialized RX3, .code yX3_waysOf cX3_waysOf 3 (some .int)])
def wsX3_takeFewest : List Cond := .code yX3_takeFewest cX3_takeFewest 9 (some .int) :: ([.fieldLink RX3 15 "GreatSort$Plan" "starts" "[I", .fieldLink RX3 9 "GreatSort$Plan" "takenRuns" "[I", .constantLong RX3 79 (799), .methodLink RX3 75 yX1_takeLeast, .instanceMethod yX1_takeLeast, .selects RX1 yX1_takeLeast yX1_takeLeast, .initialized RX1, .code yX1_takeLeast cX1_takeLeast 3 (some .long), .fieldLink RX1 15 "GreatSort$Heap" "size" "I", .fieldLink RX1 9 "GreatSort$Heap" "items" "[J", .methodLink RX1 19 yX1_sink, .instanceMethod yX1_sink, .selects RX1 yX1_sink yX1_sink, .code yX1_sink cX1_sink 7 none] ++ wsX30 ++ wsX10)
def wsX3_tell_r1 : List Cond := [Cond.methodLink RX3 62 Lib.Math.min.name, Cond.static Lib.Math.min.name, Cond.initialized "java/lang/Math", Cond.code Lib.Math.min.name Lib.Math.min.code 2 (some .int), Cond.fieldLink RX3 21 "GreatSort$Plan" "merges" "I", Cond.fieldLink RX3 25 "GreatSort$Plan" "told" "Z", Cond.methodLink RX3 37 yX1_forget, Cond.instanceMethod yX1_forget, Cond.selects RX1 yX1_forget yX1_forget, Cond.initialized RX1, Cond.code yX1_forget cX1_forget 1 none, Cond.fieldLink RX1 15 "GreatSort$Heap" "size" "I", Cond.methodLink RX3 47 yX5_sizeOf, Cond.instanceMethod yX5_sizeOf, Cond.selects RX5 yX5_sizeOf yX5_sizeOf, Cond.initialized RX5, Cond.code yX5_sizeOf cX5_sizeOf 2 (some .int), Cond.fieldLink RX5 15 "GreatSort$Runs" "starts" "[I", Cond.methodLink RX5 47 yX5_has, Cond.instanceMethod yX5_has, Cond.selects RX5 yX5_has yX5_has, Cond.code yX5_has cX5_has 2 (some .boolean), Cond.fieldLink RX5 37 "GreatSort$Runs" "all" "I", Cond.static yX6_isIn]
def wsX3_tell_r2 : List Cond := [Cond.initialized RX6, Cond.code yX6_isIn cX6_isIn 3 (some .boolean), Cond.methodLink RX3 50 yX3_sized, Cond.static yX3_sized, Cond.initialized RX3, Cond.code yX3_sized cX3_sized 2 (some .long), Cond.constantLong RX3 79 (799), Cond.methodLink RX3 54 yX1_add, Cond.instanceMethod yX1_add, Cond.selects RX1 yX1_add yX1_add, Cond.code yX1_add cX1_add 5 none, Cond.fieldLink RX1 9 "GreatSort$Heap" "items" "[J", Cond.methodLink RX3 58 yX3_mergesOf, Cond.static yX3_mergesOf, Cond.code yX3_mergesOf cX3_mergesOf 2 (some .int), Cond.methodLink RX3 67 yX3_waysOf, Cond.static yX3_waysOf, Cond.code yX3_waysOf cX3_waysOf 3 (some .int), Cond.methodLink RX3 71 yX3_takeFewest, Cond.instanceMethod yX3_takeFewest, Cond.selects RX3 yX3_takeFewest yX3_takeFewest, Cond.code yX3_takeFewest cX3_takeFewest 9 (some .int), Cond.fieldLink RX3 15 "GreatSort$Plan" "starts" "[I", Cond.fieldLink RX3 9 "GreatSort$Plan" "takenRuns" "[I"]
def wsX3_tell_r3 : List Cond := [Cond.methodLink RX3 75 yX1_takeLeast, Cond.instanceMethod yX1_takeLeast, Cond.selects RX1 yX1_takeLeast yX1_takeLeast, Cond.code yX1_takeLeast cX1_takeLeast 3 (some .long), Cond.methodLink RX1 19 yX1_sink, Cond.instanceMethod yX1_sink, Cond.selects RX1 yX1_sink yX1_sink, Cond.code yX1_sink cX1_sink 7 none]
def wsX3_tell : List Cond := .code yX3_tell cX3_tell 7 (some .int) :: ((wsX3_tell_r1 ++ (wsX3_tell_r2 ++ wsX3_tell_r3)) ++ wsX50 ++ wsX30 ++ wsX10)
def wsX3_movedByQueue_r1 : List Cond := [Cond.fieldLink RX3 18 "GreatSort$Plan" "queued" "[I", Cond.methodLink RX3 62 Lib.Math.min.name, Cond.static Lib.Math.min.name, Cond.initialized "java/lang/Math", Cond.code Lib.Math.min.name Lib.Math.min.code 2 (some .int), Cond.methodLink RX3 47 yX5_sizeOf, Cond.instanceMethod yX5_sizeOf, Cond.selects RX5 yX5_sizeOf yX5_sizeOf, Cond.initialized RX5, Cond.code yX5_sizeOf cX5_sizeOf 2 (some .int), Cond.fieldLink RX5 15 "GreatSort$Runs" "starts" "[I", Cond.methodLink RX5 47 yX5_has, Cond.instanceMethod yX5_has, Cond.selects RX5 yX5_has yX5_has, Cond.code yX5_has cX5_has 2 (some .boolean), Cond.fieldLink RX5 37 "GreatSort$Runs" "all" "I", Cond.static yX6_isIn, Cond.initialized RX6, Cond.code yX6_isIn cX6_isIn 3 (some .boolean), Cond.methodLink RX3 58 yX3_mergesOf, Cond.static yX3_mergesOf, Cond.initialized RX3, Cond.code yX3_mergesOf cX3_mergesOf 2 (some .int), Cond.methodLink RX3 67 yX3_waysOf]
def wsX3_movedByQueue_r2 : List Cond := [Cond.static yX3_waysOf, Cond.code yX3_waysOf cX3_waysOf 3 (some .int)]
def wsX3_movedByQueue : List Cond := .code yX3_movedByQueue cX3_movedByQueue 9 (some .int) :: ((wsX3_movedByQueue_r1 ++ wsX3_movedByQueue_r2) ++ wsX50 ++ wsX30)
def wsX4_init : List Cond := .code yX4_init cX4_init 1 none :: ([.methodLink RX4 3 objectInit, .instanceMethod objectInit, .code objectInit ⟨#[0xb1]⟩ 1 none, .arrayClass .int, .fieldLink RX4 9 "GreatSort$Rows" "sorts" "[I", .fieldLink RX4 15 "GreatSort$Rows" "values" "[I", .fieldLink RX4 18 "GreatSort$Rows" "turns" "[I", .arrayClass .boolean, .fieldLink RX4 21 "GreatSort$Rows" "falling" "[Z"] ++ wsX40)
def wsX4_has : List Cond := .code yX4_has cX4_has 2 (some .boolean) :: ([.fieldLink RX4 25 "GreatSort$Rows" "count" "I", .static yX6_isIn, .initialized RX6, .code yX6_isIn cX6_isIn 3 (some .boolean)] ++ wsX40)
def wsX4_hasRoomFor : List Cond := .code yX4_hasRoomFor cX4_hasRoomFor 2 (some .boolean) :: ([.fieldLink RX4 25 "GreatSort$Rows" "count" "I"] ++ wsX40)
def wsX4_add : List Cond := .code yX4_add cX4_add 3 none :: ([.fieldLink RX4 25 "GreatSort$Rows" "count" "I", .fieldLink RX4 9 "GreatSort$Rows" "sorts" "[I", .fieldLink RX4 15 "GreatSort$Rows" "values" "[I"] ++ wsX40)
def wsX4_placeOf : List Cond := .code yX4_placeOf cX4_placeOf 4 (some .int) :: ([.constant RX4 37 (320001600), .fieldLink RX4 9 "GreatSort$Rows" "sorts" "[I", .fieldLink RX4 21 "GreatSort$Rows" "falling" "[Z", .fieldLink RX4 15 "GreatSort$Rows" "values" "[I", .fieldLink RX4 18 "GreatSort$Rows" "turns" "[I", .constant RX4 38 (200001), .constant RX4 39 (100000), .methodLink RX4 33 yX4_has, .instanceMethod yX4_has, .selects RX4 yX4_has yX4_has, .initialized RX4, .code yX4_has cX4_has 2 (some .boolean), .fieldLink RX4 25 "GreatSort$Rows" "count" "I", .static yX6_isIn, .initialized RX6, .code yX6_isIn cX6_isIn 3 (some .boolean)] ++ wsX40)
def wsX4_rowOf : List Cond := .code yX4_rowOf cX4_rowOf 2 (some .int) :: ([.constantLong RX4 40 (400)])
def wsX5_init : List Cond := .code yX5_init cX5_init 1 none :: ([.methodLink RX5 3 objectInit, .instanceMethod objectInit, .code objectInit ⟨#[0xb1]⟩ 1 none, .arrayClass .int, .fieldLink RX5 9 "GreatSort$Runs" "members" "[I", .fieldLink RX5 15 "GreatSort$Runs" "starts" "[I", .fieldLink RX5 18 "GreatSort$Runs" "inOrder" "[I", .fieldLink RX5 21 "GreatSort$Runs" "standing" "[I", .fieldLink RX5 24 "GreatSort$Runs" "heads" "[I", .fieldLink RX5 27 "GreatSort$Runs" "tails" "[I"] ++ wsX50)
def wsX5_forget : List Cond := .code yX5_forget cX5_forget 1 none :: ([.fieldLink RX5 30 "GreatSort$Runs" "rowsInAll" "I", .fieldLink RX5 34 "GreatSort$Runs" "made" "I", .fieldLink RX5 37 "GreatSort$Runs" "all" "I", .fieldLink RX5 40 "GreatSort$Runs" "filled" "I"] ++ wsX50)
def wsX5_forgetMerged : List Cond := .code yX5_forgetMerged cX5_forgetMerged 1 none :: ([.fieldLink RX5 34 "GreatSort$Runs" "made" "I", .fieldLink RX5 37 "GreatSort$Runs" "all" "I", .fieldLink RX5 30 "GreatSort$Runs" "rowsInAll" "I", .fieldLink RX5 40 "GreatSort$Runs" "filled" "I"] ++ wsX50)
def wsX5_putInOrder_r1 : List Cond := [Cond.fieldLink RX5 30 "GreatSort$Runs" "rowsInAll" "I", Cond.fieldLink RX5 18 "GreatSort$Runs" "inOrder" "[I", Cond.fieldLink RX5 21 "GreatSort$Runs" "standing" "[I", Cond.methodLink RX5 68 yX1_forget, Cond.instanceMethod yX1_forget, Cond.selects RX1 yX1_forget yX1_forget, Cond.initialized RX1, Cond.code yX1_forget cX1_forget 1 none, Cond.fieldLink RX1 15 "GreatSort$Heap" "size" "I", Cond.methodLink RX5 73 yX4_placeOf, Cond.instanceMethod yX4_placeOf, Cond.selects RX4 yX4_placeOf yX4_placeOf, Cond.initialized RX4, Cond.code yX4_placeOf cX4_placeOf 4 (some .int), Cond.constant RX4 37 (320001600), Cond.fieldLink RX4 9 "GreatSort$Rows" "sorts" "[I", Cond.fieldLink RX4 21 "GreatSort$Rows" "falling" "[Z", Cond.fieldLink RX4 15 "GreatSort$Rows" "values" "[I", Cond.fieldLink RX4 18 "GreatSort$Rows" "turns" "[I", Cond.constant RX4 38 (200001), Cond.constant RX4 39 (100000), Cond.methodLink RX4 33 yX4_has, Cond.instanceMethod yX4_has, Cond.selects RX4 yX4_has yX4_has]
def wsX5_putInOrder_r2 : List Cond := [Cond.code yX4_has cX4_has 2 (some .boolean), Cond.fieldLink RX4 25 "GreatSort$Rows" "count" "I", Cond.static yX6_isIn, Cond.initialized RX6, Cond.code yX6_isIn cX6_isIn 3 (some .boolean), Cond.methodLink RX5 76 yX1_add, Cond.instanceMethod yX1_add, Cond.selects RX1 yX1_add yX1_add, Cond.code yX1_add cX1_add 5 none, Cond.fieldLink RX1 9 "GreatSort$Heap" "items" "[J", Cond.methodLink RX5 80 yX1_takeLeast, Cond.instanceMethod yX1_takeLeast, Cond.selects RX1 yX1_takeLeast yX1_takeLeast, Cond.code yX1_takeLeast cX1_takeLeast 3 (some .long), Cond.methodLink RX1 19 yX1_sink, Cond.instanceMethod yX1_sink, Cond.selects RX1 yX1_sink yX1_sink, Cond.code yX1_sink cX1_sink 7 none, Cond.methodLink RX5 84 yX4_rowOf, Cond.static yX4_rowOf, Cond.code yX4_rowOf cX4_rowOf 2 (some .int), Cond.constantLong RX4 40 (400)]
def wsX5_putInOrder : List Cond := .code yX5_putInOrder cX5_putInOrder 5 none :: ((wsX5_putInOrder_r1 ++ wsX5_putInOrder_r2) ++ wsX50 ++ wsX10 ++ wsX40)
def wsX5_begin : List Cond := .code yX5_begin cX5_begin 1 none :: ([.fieldLink RX5 37 "GreatSort$Runs" "all" "I", .fieldLink RX5 15 "GreatSort$Runs" "starts" "[I", .fieldLink RX5 40 "GreatSort$Runs" "filled" "I"] ++ wsX50)
def wsX5_append : List Cond := .code yX5_append cX5_append 2 none :: ([.fieldLink RX5 40 "GreatSort$Runs" "filled" "I", .fieldLink RX5 9 "GreatSort$Runs" "members" "[I", .fieldLink RX5 15 "GreatSort$Runs" "starts" "[I", .fieldLink RX5 37 "GreatSort$Runs" "all" "I"] ++ wsX50)
def wsX5_select_r1 : List Cond := [Cond.fieldLink RX5 30 "GreatSort$Runs" "rowsInAll" "I", Cond.methodLink RX5 88 Lib.Math.min.name, Cond.static Lib.Math.min.name, Cond.initialized "java/lang/Math", Cond.code Lib.Math.min.name Lib.Math.min.code 2 (some .int), Cond.constantLong RX5 94 (320001600), Cond.fieldLink RX5 37 "GreatSort$Runs" "all" "I", Cond.methodLink RX5 68 yX1_forget, Cond.instanceMethod yX1_forget, Cond.selects RX1 yX1_forget yX1_forget, Cond.initialized RX1, Cond.code yX1_forget cX1_forget 1 none, Cond.fieldLink RX1 15 "GreatSort$Heap" "size" "I", Cond.methodLink RX5 73 yX4_placeOf, Cond.instanceMethod yX4_placeOf, Cond.selects RX4 yX4_placeOf yX4_placeOf, Cond.initialized RX4, Cond.code yX4_placeOf cX4_placeOf 4 (some .int), Cond.constant RX4 37 (320001600), Cond.fieldLink RX4 9 "GreatSort$Rows" "sorts" "[I", Cond.fieldLink RX4 21 "GreatSort$Rows" "falling" "[Z", Cond.fieldLink RX4 15 "GreatSort$Rows" "values" "[I", Cond.fieldLink RX4 18 "GreatSort$Rows" "turns" "[I", Cond.constant RX4 38 (200001)]
def wsX5_select_r2 : List Cond := [Cond.constant RX4 39 (100000), Cond.methodLink RX4 33 yX4_has, Cond.instanceMethod yX4_has, Cond.selects RX4 yX4_has yX4_has, Cond.code yX4_has cX4_has 2 (some .boolean), Cond.fieldLink RX4 25 "GreatSort$Rows" "count" "I", Cond.static yX6_isIn, Cond.initialized RX6, Cond.code yX6_isIn cX6_isIn 3 (some .boolean), Cond.methodLink RX5 76 yX1_add, Cond.instanceMethod yX1_add, Cond.selects RX1 yX1_add yX1_add, Cond.code yX1_add cX1_add 5 none, Cond.fieldLink RX1 9 "GreatSort$Heap" "items" "[J", Cond.methodLink RX5 80 yX1_takeLeast, Cond.instanceMethod yX1_takeLeast, Cond.selects RX1 yX1_takeLeast yX1_takeLeast, Cond.code yX1_takeLeast cX1_takeLeast 3 (some .long), Cond.methodLink RX1 19 yX1_sink, Cond.instanceMethod yX1_sink, Cond.selects RX1 yX1_sink yX1_sink, Cond.code yX1_sink cX1_sink 7 none, Cond.methodLink RX5 96 yX5_begin, Cond.instanceMethod yX5_begin]
def wsX5_select_r3 : List Cond := [Cond.selects RX5 yX5_begin yX5_begin, Cond.initialized RX5, Cond.code yX5_begin cX5_begin 1 none, Cond.fieldLink RX5 15 "GreatSort$Runs" "starts" "[I", Cond.fieldLink RX5 40 "GreatSort$Runs" "filled" "I", Cond.methodLink RX5 84 yX4_rowOf, Cond.static yX4_rowOf, Cond.code yX4_rowOf cX4_rowOf 2 (some .int), Cond.constantLong RX4 40 (400), Cond.methodLink RX5 99 yX5_append, Cond.instanceMethod yX5_append, Cond.selects RX5 yX5_append yX5_append, Cond.code yX5_append cX5_append 2 none, Cond.fieldLink RX5 9 "GreatSort$Runs" "members" "[I"]
def wsX5_select : List Cond := .code yX5_select cX5_select 11 none :: ((wsX5_select_r1 ++ (wsX5_select_r2 ++ wsX5_select_r3)) ++ wsX50 ++ wsX10 ++ wsX40)
def wsX5_makeOf_r1 : List Cond := [Cond.fieldLink RX5 30 "GreatSort$Runs" "rowsInAll" "I", Cond.fieldLink RX5 37 "GreatSort$Runs" "all" "I", Cond.fieldLink RX5 34 "GreatSort$Runs" "made" "I", Cond.methodLink RX5 60 yX5_putInOrder, Cond.instanceMethod yX5_putInOrder, Cond.selects RX5 yX5_putInOrder yX5_putInOrder, Cond.initialized RX5, Cond.code yX5_putInOrder cX5_putInOrder 5 none, Cond.fieldLink RX5 18 "GreatSort$Runs" "inOrder" "[I", Cond.fieldLink RX5 21 "GreatSort$Runs" "standing" "[I", Cond.methodLink RX5 68 yX1_forget, Cond.instanceMethod yX1_forget, Cond.selects RX1 yX1_forget yX1_forget, Cond.initialized RX1, Cond.code yX1_forget cX1_forget 1 none, Cond.fieldLink RX1 15 "GreatSort$Heap" "size" "I", Cond.methodLink RX5 73 yX4_placeOf, Cond.instanceMethod yX4_placeOf, Cond.selects RX4 yX4_placeOf yX4_placeOf, Cond.initialized RX4, Cond.code yX4_placeOf cX4_placeOf 4 (some .int), Cond.constant RX4 37 (320001600), Cond.fieldLink RX4 9 "GreatSort$Rows" "sorts" "[I", Cond.fieldLink RX4 21 "GreatSort$Rows" "falling" "[Z"]
def wsX5_makeOf_r2 : List Cond := [Cond.fieldLink RX4 15 "GreatSort$Rows" "values" "[I", Cond.fieldLink RX4 18 "GreatSort$Rows" "turns" "[I", Cond.constant RX4 38 (200001), Cond.constant RX4 39 (100000), Cond.methodLink RX4 33 yX4_has, Cond.instanceMethod yX4_has, Cond.selects RX4 yX4_has yX4_has, Cond.code yX4_has cX4_has 2 (some .boolean), Cond.fieldLink RX4 25 "GreatSort$Rows" "count" "I", Cond.static yX6_isIn, Cond.initialized RX6, Cond.code yX6_isIn cX6_isIn 3 (some .boolean), Cond.methodLink RX5 76 yX1_add, Cond.instanceMethod yX1_add, Cond.selects RX1 yX1_add yX1_add, Cond.code yX1_add cX1_add 5 none, Cond.fieldLink RX1 9 "GreatSort$Heap" "items" "[J", Cond.methodLink RX5 80 yX1_takeLeast, Cond.instanceMethod yX1_takeLeast, Cond.selects RX1 yX1_takeLeast yX1_takeLeast, Cond.code yX1_takeLeast cX1_takeLeast 3 (some .long), Cond.methodLink RX1 19 yX1_sink, Cond.instanceMethod yX1_sink, Cond.selects RX1 yX1_sink yX1_sink]
def wsX5_makeOf_r3 : List Cond := [Cond.code yX1_sink cX1_sink 7 none, Cond.methodLink RX5 84 yX4_rowOf, Cond.static yX4_rowOf, Cond.code yX4_rowOf cX4_rowOf 2 (some .int), Cond.constantLong RX4 40 (400), Cond.methodLink RX5 64 yX5_select, Cond.instanceMethod yX5_select, Cond.selects RX5 yX5_select yX5_select, Cond.code yX5_select cX5_select 11 none, Cond.methodLink RX5 88 Lib.Math.min.name, Cond.static Lib.Math.min.name, Cond.initialized "java/lang/Math", Cond.code Lib.Math.min.name Lib.Math.min.code 2 (some .int), Cond.constantLong RX5 94 (320001600), Cond.methodLink RX5 96 yX5_begin, Cond.instanceMethod yX5_begin, Cond.selects RX5 yX5_begin yX5_begin, Cond.code yX5_begin cX5_begin 1 none, Cond.fieldLink RX5 15 "GreatSort$Runs" "starts" "[I", Cond.fieldLink RX5 40 "GreatSort$Runs" "filled" "I", Cond.methodLink RX5 99 yX5_append, Cond.instanceMethod yX5_append, Cond.selects RX5 yX5_append yX5_append, Cond.code yX5_append cX5_append 2 none]
def wsX5_makeOf_r4 : List Cond := [Cond.fieldLink RX5 9 "GreatSort$Runs" "members" "[I"]
def wsX5_makeOf : List Cond := .code yX5_makeOf cX5_makeOf 4 none :: ((wsX5_makeOf_r1 ++ (wsX5_makeOf_r2 ++ (wsX5_makeOf_r3 ++ wsX5_makeOf_r4))) ++ wsX40 ++ wsX50 ++ wsX10)
def wsX5_takeFirst : List Cond := .code yX5_takeFirst cX5_takeFirst 7 (some .int) :: ([.fieldLink RX5 24 "GreatSort$Runs" "heads" "[I", .fieldLink RX5 27 "GreatSort$Runs" "tails" "[I", .fieldLink RX5 9 "GreatSort$Runs" "members" "[I", .methodLink RX5 114 yX5_standingOf, .instanceMethod yX5_standingOf, .selects RX5 yX5_standingOf yX5_standingOf, .initialized RX5, .code yX5_standingOf cX5_standingOf 2 (some .int), .fieldLink RX5 30 "GreatSort$Runs" "rowsInAll" "I", .fieldLink RX5 21 "GreatSort$Runs" "standing" "[I", .static yX6_isIn, .initialized RX6, .code yX6_isIn cX6_isIn 3 (some .boolean), .methodLink RX5 99 yX5_append, .instanceMethod yX5_append, .selects RX5 yX5_append yX5_append, .code yX5_append cX5_append 2 none, .fieldLink RX5 40 "GreatSort$Runs" "filled" "I", .fieldLink RX5 15 "GreatSort$Runs" "starts" "[I", .fieldLink RX5 37 "GreatSort$Runs" "all" "I"] ++ wsX50)
def wsX5_mergeThose_r1 : List Cond := [Cond.methodLink RX5 88 Lib.Math.min.name, Cond.static Lib.Math.min.name, Cond.initialized "java/lang/Math", Cond.code Lib.Math.min.name Lib.Math.min.code 2 (some .int), Cond.fieldLink RX5 24 "GreatSort$Runs" "heads" "[I", Cond.fieldLink RX5 15 "GreatSort$Runs" "starts" "[I", Cond.fieldLink RX5 27 "GreatSort$Runs" "tails" "[I", Cond.methodLink RX5 103 yX3_waysIn, Cond.instanceMethod yX3_waysIn, Cond.selects RX3 yX3_waysIn yX3_waysIn, Cond.initialized RX3, Cond.code yX3_waysIn cX3_waysIn 2 (some .int), Cond.fieldLink RX3 21 "GreatSort$Plan" "merges" "I", Cond.fieldLink RX3 15 "GreatSort$Plan" "starts" "[I", Cond.static yX6_isIn, Cond.initialized RX6, Cond.code yX6_isIn cX6_isIn 3 (some .boolean), Cond.methodLink RX5 108 yX3_taken, Cond.instanceMethod yX3_taken, Cond.selects RX3 yX3_taken yX3_taken, Cond.code yX3_taken cX3_taken 3 (some .int), Cond.fieldLink RX3 9 "GreatSort$Plan" "takenRuns" "[I", Cond.methodLink RX3 33 yX3_waysIn, Cond.methodLink RX5 47 yX5_has]
def wsX5_mergeThose_r2 : List Cond := [Cond.instanceMethod yX5_has, Cond.selects RX5 yX5_has yX5_has, Cond.initialized RX5, Cond.code yX5_has cX5_has 2 (some .boolean), Cond.fieldLink RX5 37 "GreatSort$Runs" "all" "I", Cond.methodLink RX5 51 yX5_sizeOf, Cond.instanceMethod yX5_sizeOf, Cond.selects RX5 yX5_sizeOf yX5_sizeOf, Cond.code yX5_sizeOf cX5_sizeOf 2 (some .int), Cond.methodLink RX5 96 yX5_begin, Cond.instanceMethod yX5_begin, Cond.selects RX5 yX5_begin yX5_begin, Cond.code yX5_begin cX5_begin 1 none, Cond.fieldLink RX5 40 "GreatSort$Runs" "filled" "I", Cond.methodLink RX5 111 yX5_takeFirst, Cond.instanceMethod yX5_takeFirst, Cond.selects RX5 yX5_takeFirst yX5_takeFirst, Cond.code yX5_takeFirst cX5_takeFirst 7 (some .int), Cond.fieldLink RX5 9 "GreatSort$Runs" "members" "[I", Cond.methodLink RX5 114 yX5_standingOf, Cond.instanceMethod yX5_standingOf, Cond.selects RX5 yX5_standingOf yX5_standingOf, Cond.code yX5_standingOf cX5_standingOf 2 (some .int), Cond.fieldLink RX5 30 "GreatSort$Runs" "rowsInAll" "I"]
def wsX5_mergeThose_r3 : List Cond := [Cond.fieldLink RX5 21 "GreatSort$Runs" "standing" "[I", Cond.methodLink RX5 99 yX5_append, Cond.instanceMethod yX5_append, Cond.selects RX5 yX5_append yX5_append, Cond.code yX5_append cX5_append 2 none]
def wsX5_mergeThose : List Cond := .code yX5_mergeThose cX5_mergeThose 7 (some .int) :: ((wsX5_mergeThose_r1 ++ (wsX5_mergeThose_r2 ++ wsX5_mergeThose_r3)) ++ wsX50 ++ wsX30)
def wsX6_init_r1 : List Cond := [Cond.methodLink RX6 3 objectInit, Cond.instanceMethod objectInit, Cond.code objectInit ⟨#[0xb1]⟩ 1 none, Cond.classLink RX6 9 RX4, Cond.instantiable RX4 5, Cond.initialized RX4, Cond.fieldLink RX6 12 "GreatSort" "rows" "LGreatSort$Rows;", Cond.classLink RX6 16 RX1, Cond.instantiable RX1 2, Cond.initialized RX1, Cond.fieldLink RX6 19 "GreatSort" "heap" "LGreatSort$Heap;", Cond.classLink RX6 23 RX5, Cond.instantiable RX5 10, Cond.initialized RX5, Cond.fieldLink RX6 26 "GreatSort" "runs" "LGreatSort$Runs;", Cond.classLink RX6 30 RX3, Cond.instantiable RX3 5, Cond.initialized RX3, Cond.fieldLink RX6 33 "GreatSort" "plan" "LGreatSort$Plan;", Cond.classLink RX6 37 RX0, Cond.instantiable RX0 15, Cond.initialized RX0, Cond.fieldLink RX6 40 "GreatSort" "cut" "LGreatSort$Cut;", Cond.classLink RX6 44 RX2]
def wsX6_init_r2 : List Cond := [Cond.instantiable RX2 2, Cond.initialized RX2, Cond.fieldLink RX6 47 "GreatSort" "hosts" "LGreatSort$Hosts;", Cond.instanceMethod yX4_init, Cond.code yX4_init cX4_init 1 none, Cond.methodLink RX4 3 objectInit, Cond.arrayClass .int, Cond.fieldLink RX4 9 "GreatSort$Rows" "sorts" "[I", Cond.fieldLink RX4 15 "GreatSort$Rows" "values" "[I", Cond.fieldLink RX4 18 "GreatSort$Rows" "turns" "[I", Cond.arrayClass .boolean, Cond.fieldLink RX4 21 "GreatSort$Rows" "falling" "[Z", Cond.instanceMethod yX1_init, Cond.code yX1_init cX1_init 1 none, Cond.methodLink RX1 3 objectInit, Cond.arrayClass .long, Cond.fieldLink RX1 9 "GreatSort$Heap" "items" "[J", Cond.instanceMethod yX5_init, Cond.code yX5_init cX5_init 1 none, Cond.methodLink RX5 3 objectInit, Cond.fieldLink RX5 9 "GreatSort$Runs" "members" "[I", Cond.fieldLink RX5 15 "GreatSort$Runs" "starts" "[I", Cond.fieldLink RX5 18 "GreatSort$Runs" "inOrder" "[I", Cond.fieldLink RX5 21 "GreatSort$Runs" "standing" "[I"]
def wsX6_init_r3 : List Cond := [Cond.fieldLink RX5 24 "GreatSort$Runs" "heads" "[I", Cond.fieldLink RX5 27 "GreatSort$Runs" "tails" "[I", Cond.instanceMethod yX3_init, Cond.code yX3_init cX3_init 1 none, Cond.methodLink RX3 3 objectInit, Cond.fieldLink RX3 9 "GreatSort$Plan" "takenRuns" "[I", Cond.fieldLink RX3 15 "GreatSort$Plan" "starts" "[I", Cond.fieldLink RX3 18 "GreatSort$Plan" "queued" "[I", Cond.instanceMethod yX0_init, Cond.code yX0_init cX0_init 1 none, Cond.methodLink RX0 3 objectInit, Cond.fieldLink RX0 9 "GreatSort$Cut" "sampled" "[Z", Cond.fieldLink RX0 15 "GreatSort$Cut" "sampleStandings" "[I", Cond.fieldLink RX0 19 "GreatSort$Cut" "sizes" "[I", Cond.fieldLink RX0 22 "GreatSort$Cut" "ends" "[I", Cond.fieldLink RX0 25 "GreatSort$Cut" "lies" "[I", Cond.fieldLink RX0 28 "GreatSort$Cut" "merged" "[I", Cond.fieldLink RX0 31 "GreatSort$Cut" "reached" "[I", Cond.fieldLink RX0 34 "GreatSort$Cut" "done" "[Z", Cond.fieldLink RX0 37 "GreatSort$Cut" "mergedBy" "[I", Cond.methodLink RX6 46 yX2_init, Cond.instanceMethod yX2_init, Cond.code yX2_init cX2_init 2 none, Cond.methodLink RX2 3 objectInit]
def wsX6_init_r4 : List Cond := [Cond.fieldLink RX2 9 "GreatSort$Hosts" "paces" "[I", Cond.fieldLink RX2 15 "GreatSort$Hosts" "up" "[Z"]
def wsX6_init : List Cond := .code yX6_init cX6_init 1 none :: ((wsX6_init_r1 ++ (wsX6_init_r2 ++ (wsX6_init_r3 ++ wsX6_init_r4))) ++ wsX40 ++ wsX60 ++ wsX10 ++ wsX50 ++ wsX30 ++ wsX00 ++ wsX20)
def wsX6_give : List Cond := .code yX6_give cX6_give 3 (some .int) :: ([.constant RX6 55 (-100000), .constant RX6 56 (100000), .fieldLink RX6 12 "GreatSort" "rows" "LGreatSort$Rows;", .methodLink RX6 51 yX6_isIn, .static yX6_isIn, .initialized RX6, .code yX6_isIn cX6_isIn 3 (some .boolean), .methodLink RX6 57 yX4_hasRoomFor, .instanceMethod yX4_hasRoomFor, .selects RX4 yX4_hasRoomFor yX4_hasRoomFor, .initialized RX4, .code yX4_hasRoomFor cX4_hasRoomFor 2 (some .boolean), .fieldLink RX4 25 "GreatSort$Rows" "count" "I", .methodLink RX6 61 yX4_add, .instanceMethod yX4_add, .selects RX4 yX4_add yX4_add, .code yX4_add cX4_add 3 none, .fieldLink RX4 9 "GreatSort$Rows" "sorts" "[I", .fieldLink RX4 15 "GreatSort$Rows" "values" "[I"] ++ wsX60 ++ wsX40)
def wsX6_sow : List Cond := .code yX6_sow cX6_sow 8 (some .int) :: ([.fieldLink RX6 12 "GreatSort" "rows" "LGreatSort$Rows;", .constant RX6 69 (1103515245), .methodLink RX6 51 yX6_isIn, .static yX6_isIn, .initialized RX6, .code yX6_isIn cX6_isIn 3 (some .boolean), .methodLink RX6 57 yX4_hasRoomFor, .instanceMethod yX4_hasRoomFor, .selects RX4 yX4_hasRoomFor yX4_hasRoomFor, .initialized RX4, .code yX4_hasRoomFor cX4_hasRoomFor 2 (some .boolean), .fieldLink RX4 25 "GreatSort$Rows" "count" "I", .methodLink RX6 61 yX4_add, .instanceMethod yX4_add, .selects RX4 yX4_add yX4_add, .code yX4_add cX4_add 3 none, .fieldLink RX4 9 "GreatSort$Rows" "sorts" "[I", .fieldLink RX4 15 "GreatSort$Rows" "values" "[I"] ++ wsX60 ++ wsX40)
def wsX6_forgetRuns_r1 : List Cond := [Cond.fieldLink RX6 26 "GreatSort" "runs" "LGreatSort$Runs;", Cond.fieldLink RX6 33 "GreatSort" "plan" "LGreatSort$Plan;", Cond.fieldLink RX6 40 "GreatSort" "cut" "LGreatSort$Cut;", Cond.methodLink RX6 224 yX5_forget, Cond.instanceMethod yX5_forget, Cond.selects RX5 yX5_forget yX5_forget, Cond.initialized RX5, Cond.code yX5_forget cX5_forget 1 none, Cond.fieldLink RX5 30 "GreatSort$Runs" "rowsInAll" "I", Cond.fieldLink RX5 34 "GreatSort$Runs" "made" "I", Cond.fieldLink RX5 37 "GreatSort$Runs" "all" "I", Cond.fieldLink RX5 40 "GreatSort$Runs" "filled" "I", Cond.methodLink RX6 227 yX3_forget, Cond.instanceMethod yX3_forget, Cond.selects RX3 yX3_forget yX3_forget, Cond.initialized RX3, Cond.code yX3_forget cX3_forget 1 none, Cond.fieldLink RX3 21 "GreatSort$Plan" "merges" "I", Cond.fieldLink RX3 25 "GreatSort$Plan" "told" "Z", Cond.methodLink RX6 228 yX0_forget, Cond.instanceMethod yX0_forget, Cond.selects RX0 yX0_forget yX0_forget, Cond.initialized RX0, Cond.code yX0_forget cX0_forget 2 none]
def wsX6_forgetRuns_r2 : List Cond := [Cond.fieldLink RX0 40 "GreatSort$Cut" "parts" "I", Cond.fieldLink RX0 44 "GreatSort$Cut" "samples" "I", Cond.fieldLink RX0 47 "GreatSort$Cut" "bound" "I", Cond.fieldLink RX0 50 "GreatSort$Cut" "ticks" "I", Cond.fieldLink RX0 53 "GreatSort$Cut" "mergedInAll" "I", Cond.fieldLink RX0 56 "GreatSort$Cut" "mergedAgain" "I", Cond.fieldLink RX0 37 "GreatSort$Cut" "mergedBy" "[I"]
def wsX6_forgetRuns : List Cond := .code yX6_forgetRuns cX6_forgetRuns 1 none :: ((wsX6_forgetRuns_r1 ++ wsX6_forgetRuns_r2) ++ wsX60 ++ wsX50 ++ wsX30 ++ wsX00)
def wsX6_clear_r1 : List Cond := [Cond.fieldLink RX6 12 "GreatSort" "rows" "LGreatSort$Rows;", Cond.methodLink RX6 70 yX6_forgetRuns, Cond.instanceMethod yX6_forgetRuns, Cond.selects RX6 yX6_forgetRuns yX6_forgetRuns, Cond.initialized RX6, Cond.code yX6_forgetRuns cX6_forgetRuns 1 none, Cond.fieldLink RX6 26 "GreatSort" "runs" "LGreatSort$Runs;", Cond.fieldLink RX6 33 "GreatSort" "plan" "LGreatSort$Plan;", Cond.fieldLink RX6 40 "GreatSort" "cut" "LGreatSort$Cut;", Cond.methodLink RX6 224 yX5_forget, Cond.instanceMethod yX5_forget, Cond.selects RX5 yX5_forget yX5_forget, Cond.initialized RX5, Cond.code yX5_forget cX5_forget 1 none, Cond.fieldLink RX5 30 "GreatSort$Runs" "rowsInAll" "I", Cond.fieldLink RX5 34 "GreatSort$Runs" "made" "I", Cond.fieldLink RX5 37 "GreatSort$Runs" "all" "I", Cond.fieldLink RX5 40 "GreatSort$Runs" "filled" "I", Cond.methodLink RX6 227 yX3_forget, Cond.instanceMethod yX3_forget, Cond.selects RX3 yX3_forget yX3_forget, Cond.initialized RX3, Cond.code yX3_forget cX3_forget 1 none, Cond.fieldLink RX3 21 "GreatSort$Plan" "merges" "I"]
def wsX6_clear_r2 : List Cond := [Cond.fieldLink RX3 25 "GreatSort$Plan" "told" "Z", Cond.methodLink RX6 228 yX0_forget, Cond.instanceMethod yX0_forget, Cond.selects RX0 yX0_forget yX0_forget, Cond.initialized RX0, Cond.code yX0_forget cX0_forget 2 none, Cond.fieldLink RX0 40 "GreatSort$Cut" "parts" "I", Cond.fieldLink RX0 44 "GreatSort$Cut" "samples" "I", Cond.fieldLink RX0 47 "GreatSort$Cut" "bound" "I", Cond.fieldLink RX0 50 "GreatSort$Cut" "ticks" "I", Cond.fieldLink RX0 53 "GreatSort$Cut" "mergedInAll" "I", Cond.fieldLink RX0 56 "GreatSort$Cut" "mergedAgain" "I", Cond.fieldLink RX0 37 "GreatSort$Cut" "mergedBy" "[I"]
def wsX6_clear : List Cond := .code yX6_clear cX6_clear 2 (some .int) :: ((wsX6_clear_r1 ++ wsX6_clear_r2) ++ wsX60 ++ wsX40 ++ wsX50 ++ wsX30 ++ wsX00)
def wsX6_isEachSortOnce : List Cond := .code yX6_isEachSortOnce cX6_isEachSortOnce 5 (some .boolean) :: ([.methodLink RX6 51 yX6_isIn, .static yX6_isIn, .initialized RX6, .code yX6_isIn cX6_isIn 3 (some .boolean)])
def wsX6_order : List Cond := .code yX6_order cX6_order 5 (some .boolean) :: ([.fieldLink RX6 26 "GreatSort" "runs" "LGreatSort$Runs;", .fieldLink RX6 12 "GreatSort" "rows" "LGreatSort$Rows;", .methodLink RX6 76 yX6_isEachSortOnce, .static yX6_isEachSortOnce, .initialized RX6, .code yX6_isEachSortOnce cX6_isEachSortOnce 5 (some .boolean), .methodLink RX6 51 yX6_isIn, .static yX6_isIn, .code yX6_isIn cX6_isIn 3 (some .boolean)] ++ wsX60 ++ wsX50 ++ wsX40)
def wsX6_falls : List Cond := .code yX6_falls cX6_falls 3 (some .boolean) :: ([.fieldLink RX6 26 "GreatSort" "runs" "LGreatSort$Runs;", .fieldLink RX6 12 "GreatSort" "rows" "LGreatSort$Rows;", .methodLink RX6 51 yX6_isIn, .static yX6_isIn, .initialized RX6, .code yX6_isIn cX6_isIn 3 (some .boolean)] ++ wsX60 ++ wsX50 ++ wsX40)
def wsX6_row : List Cond := .code yX6_row cX6_row 3 (some .int) :: ([.fieldLink RX6 12 "GreatSort" "rows" "LGreatSort$Rows;", .constant RX6 91 (-1000000), .methodLink RX6 88 yX4_has, .instanceMethod yX4_has, .selects RX4 yX4_has yX4_has, .initialized RX4, .code yX4_has cX4_has 2 (some .boolean), .fieldLink RX4 25 "GreatSort$Rows" "count" "I", .static yX6_isIn, .initialized RX6, .code yX6_isIn cX6_isIn 3 (some .boolean)] ++ wsX60 ++ wsX40)
def wsJ6_compare_7cf53 : List Cond := .code yJ6_compare_7cf53 cJ6_compare_7cf53 2 (some .int) :: ([])
def wsX6_against_r1 : List Cond := [Cond.fieldLink RX6 12 "GreatSort" "rows" "LGreatSort$Rows;", Cond.methodLink RX6 88 yX4_has, Cond.instanceMethod yX4_has, Cond.selects RX4 yX4_has yX4_has, Cond.initialized RX4, Cond.code yX4_has cX4_has 2 (some .boolean), Cond.fieldLink RX4 25 "GreatSort$Rows" "count" "I", Cond.static yX6_isIn, Cond.initialized RX6, Cond.code yX6_isIn cX6_isIn 3 (some .boolean), Cond.methodLink RX6 98 yX4_placeOf, Cond.instanceMethod yX4_placeOf, Cond.selects RX4 yX4_placeOf yX4_placeOf, Cond.code yX4_placeOf cX4_placeOf 4 (some .int), Cond.constant RX4 37 (320001600), Cond.fieldLink RX4 9 "GreatSort$Rows" "sorts" "[I", Cond.fieldLink RX4 21 "GreatSort$Rows" "falling" "[Z", Cond.fieldLink RX4 15 "GreatSort$Rows" "values" "[I", Cond.fieldLink RX4 18 "GreatSort$Rows" "turns" "[I", Cond.constant RX4 38 (200001), Cond.constant RX4 39 (100000), Cond.methodLink RX4 33 yX4_has, Cond.methodLink RX6 102 yJ6_compare_7cf53, Cond.static yJ6_compare_7cf53]
def wsX6_against_r2 : List Cond := [Cond.initialized RJ6, Cond.code yJ6_compare_7cf53 cJ6_compare_7cf53 2 (some .int)]
def wsX6_against : List Cond := .code yX6_against cX6_against 3 (some .int) :: ((wsX6_against_r1 ++ wsX6_against_r2) ++ wsX60 ++ wsX40)
def wsX6_rank : List Cond := .code yX6_rank cX6_rank 5 (some .int) :: ([.fieldLink RX6 12 "GreatSort" "rows" "LGreatSort$Rows;", .methodLink RX6 88 yX4_has, .instanceMethod yX4_has, .selects RX4 yX4_has yX4_has, .initialized RX4, .code yX4_has cX4_has 2 (some .boolean), .fieldLink RX4 25 "GreatSort$Rows" "count" "I", .static yX6_isIn, .initialized RX6, .code yX6_isIn cX6_isIn 3 (some .boolean), .methodLink RX6 98 yX4_placeOf, .instanceMethod yX4_placeOf, .selects RX4 yX4_placeOf yX4_placeOf, .code yX4_placeOf cX4_placeOf 4 (some .int), .constant RX4 37 (320001600), .fieldLink RX4 9 "GreatSort$Rows" "sorts" "[I", .fieldLink RX4 21 "GreatSort$Rows" "falling" "[Z", .fieldLink RX4 15 "GreatSort$Rows" "values" "[I", .fieldLink RX4 18 "GreatSort$Rows" "turns" "[I", .constant RX4 38 (200001), .constant RX4 39 (100000), .methodLink RX4 33 yX4_has] ++ wsX60 ++ wsX40)
def wsX6_runs_r1 : List Cond := [Cond.fieldLink RX6 26 "GreatSort" "runs" "LGreatSort$Runs;", Cond.fieldLink RX6 12 "GreatSort" "rows" "LGreatSort$Rows;", Cond.fieldLink RX6 19 "GreatSort" "heap" "LGreatSort$Heap;", Cond.methodLink RX6 51 yX6_isIn, Cond.static yX6_isIn, Cond.initialized RX6, Cond.code yX6_isIn cX6_isIn 3 (some .boolean), Cond.methodLink RX6 70 yX6_forgetRuns, Cond.instanceMethod yX6_forgetRuns, Cond.selects RX6 yX6_forgetRuns yX6_forgetRuns, Cond.code yX6_forgetRuns cX6_forgetRuns 1 none, Cond.fieldLink RX6 33 "GreatSort" "plan" "LGreatSort$Plan;", Cond.fieldLink RX6 40 "GreatSort" "cut" "LGreatSort$Cut;", Cond.methodLink RX6 224 yX5_forget, Cond.instanceMethod yX5_forget, Cond.selects RX5 yX5_forget yX5_forget, Cond.initialized RX5, Cond.code yX5_forget cX5_forget 1 none, Cond.fieldLink RX5 30 "GreatSort$Runs" "rowsInAll" "I", Cond.fieldLink RX5 34 "GreatSort$Runs" "made" "I", Cond.fieldLink RX5 37 "GreatSort$Runs" "all" "I", Cond.fieldLink RX5 40 "GreatSort$Runs" "filled" "I", Cond.methodLink RX6 227 yX3_forget, Cond.instanceMethod yX3_forget]
def wsX6_runs_r2 : List Cond := [Cond.selects RX3 yX3_forget yX3_forget, Cond.initialized RX3, Cond.code yX3_forget cX3_forget 1 none, Cond.fieldLink RX3 21 "GreatSort$Plan" "merges" "I", Cond.fieldLink RX3 25 "GreatSort$Plan" "told" "Z", Cond.methodLink RX6 228 yX0_forget, Cond.instanceMethod yX0_forget, Cond.selects RX0 yX0_forget yX0_forget, Cond.initialized RX0, Cond.code yX0_forget cX0_forget 2 none, Cond.fieldLink RX0 40 "GreatSort$Cut" "parts" "I", Cond.fieldLink RX0 44 "GreatSort$Cut" "samples" "I", Cond.fieldLink RX0 47 "GreatSort$Cut" "bound" "I", Cond.fieldLink RX0 50 "GreatSort$Cut" "ticks" "I", Cond.fieldLink RX0 53 "GreatSort$Cut" "mergedInAll" "I", Cond.fieldLink RX0 56 "GreatSort$Cut" "mergedAgain" "I", Cond.fieldLink RX0 37 "GreatSort$Cut" "mergedBy" "[I", Cond.methodLink RX6 108 yX5_makeOf, Cond.instanceMethod yX5_makeOf, Cond.selects RX5 yX5_makeOf yX5_makeOf, Cond.code yX5_makeOf cX5_makeOf 4 none, Cond.methodLink RX5 60 yX5_putInOrder, Cond.instanceMethod yX5_putInOrder, Cond.selects RX5 yX5_putInOrder yX5_putInOrder]
def wsX6_runs_r3 : List Cond := [Cond.code yX5_putInOrder cX5_putInOrder 5 none, Cond.fieldLink RX5 18 "GreatSort$Runs" "inOrder" "[I", Cond.fieldLink RX5 21 "GreatSort$Runs" "standing" "[I", Cond.methodLink RX5 68 yX1_forget, Cond.instanceMethod yX1_forget, Cond.selects RX1 yX1_forget yX1_forget, Cond.initialized RX1, Cond.code yX1_forget cX1_forget 1 none, Cond.fieldLink RX1 15 "GreatSort$Heap" "size" "I", Cond.methodLink RX5 73 yX4_placeOf, Cond.instanceMethod yX4_placeOf, Cond.selects RX4 yX4_placeOf yX4_placeOf, Cond.initialized RX4, Cond.code yX4_placeOf cX4_placeOf 4 (some .int), Cond.constant RX4 37 (320001600), Cond.fieldLink RX4 9 "GreatSort$Rows" "sorts" "[I", Cond.fieldLink RX4 21 "GreatSort$Rows" "falling" "[Z", Cond.fieldLink RX4 15 "GreatSort$Rows" "values" "[I", Cond.fieldLink RX4 18 "GreatSort$Rows" "turns" "[I", Cond.constant RX4 38 (200001), Cond.constant RX4 39 (100000), Cond.methodLink RX4 33 yX4_has, Cond.instanceMethod yX4_has, Cond.selects RX4 yX4_has yX4_has]
def wsX6_runs_r4 : List Cond := [Cond.code yX4_has cX4_has 2 (some .boolean), Cond.fieldLink RX4 25 "GreatSort$Rows" "count" "I", Cond.methodLink RX5 76 yX1_add, Cond.instanceMethod yX1_add, Cond.selects RX1 yX1_add yX1_add, Cond.code yX1_add cX1_add 5 none, Cond.fieldLink RX1 9 "GreatSort$Heap" "items" "[J", Cond.methodLink RX5 80 yX1_takeLeast, Cond.instanceMethod yX1_takeLeast, Cond.selects RX1 yX1_takeLeast yX1_takeLeast, Cond.code yX1_takeLeast cX1_takeLeast 3 (some .long), Cond.methodLink RX1 19 yX1_sink, Cond.instanceMethod yX1_sink, Cond.selects RX1 yX1_sink yX1_sink, Cond.code yX1_sink cX1_sink 7 none, Cond.methodLink RX5 84 yX4_rowOf, Cond.static yX4_rowOf, Cond.code yX4_rowOf cX4_rowOf 2 (some .int), Cond.constantLong RX4 40 (400), Cond.methodLink RX5 64 yX5_select, Cond.instanceMethod yX5_select, Cond.selects RX5 yX5_select yX5_select, Cond.code yX5_select cX5_select 11 none, Cond.methodLink RX5 88 Lib.Math.min.name]
def wsX6_runs_r5 : List Cond := [Cond.static Lib.Math.min.name, Cond.initialized "java/lang/Math", Cond.code Lib.Math.min.name Lib.Math.min.code 2 (some .int), Cond.constantLong RX5 94 (320001600), Cond.methodLink RX5 96 yX5_begin, Cond.instanceMethod yX5_begin, Cond.selects RX5 yX5_begin yX5_begin, Cond.code yX5_begin cX5_begin 1 none, Cond.fieldLink RX5 15 "GreatSort$Runs" "starts" "[I", Cond.methodLink RX5 99 yX5_append, Cond.instanceMethod yX5_append, Cond.selects RX5 yX5_append yX5_append, Cond.code yX5_append cX5_append 2 none, Cond.fieldLink RX5 9 "GreatSort$Runs" "members" "[I"]
def wsX6_runs : List Cond := .code yX6_runs cX6_runs 2 (some .int) :: ((wsX6_runs_r1 ++ (wsX6_runs_r2 ++ (wsX6_runs_r3 ++ (wsX6_runs_r4 ++ wsX6_runs_r5)))) ++ wsX60 ++ wsX50 ++ wsX30 ++ wsX00 ++ wsX40 ++ wsX10)
def wsX6_length : List Cond := .code yX6_length cX6_length 2 (some .int) :: ([.fieldLink RX6 26 "GreatSort" "runs" "LGreatSort$Runs;", .methodLink RX6 112 yX5_has, .instanceMethod yX5_has, .selects RX5 yX5_has yX5_has, .initialized RX5, .code yX5_has cX5_has 2 (some .boolean), .fieldLink RX5 37 "GreatSort$Runs" "all" "I", .static yX6_isIn, .initialized RX6, .code yX6_isIn cX6_isIn 3 (some .boolean), .methodLink RX6 113 yX5_sizeOf, .instanceMethod yX5_sizeOf, .selects RX5 yX5_sizeOf yX5_sizeOf, .code yX5_sizeOf cX5_sizeOf 2 (some .int), .fieldLink RX5 15 "GreatSort$Runs" "starts" "[I", .methodLink RX5 47 yX5_has] ++ wsX60 ++ wsX50)
def wsX6_at : List Cond := .code yX6_at cX6_at 3 (some .int) :: ([.fieldLink RX6 26 "GreatSort" "runs" "LGreatSort$Runs;", .methodLink RX6 116 yX5_rowIn, .instanceMethod yX5_rowIn, .selects RX5 yX5_rowIn yX5_rowIn, .initialized RX5, .code yX5_rowIn cX5_rowIn 3 (some .int), .fieldLink RX5 9 "GreatSort$Runs" "members" "[I", .fieldLink RX5 15 "GreatSort$Runs" "starts" "[I", .methodLink RX5 51 yX5_sizeOf, .instanceMethod yX5_sizeOf, .selects RX5 yX5_sizeOf yX5_sizeOf, .code yX5_sizeOf cX5_sizeOf 2 (some .int), .methodLink RX5 47 yX5_has, .instanceMethod yX5_has, .selects RX5 yX5_has yX5_has, .code yX5_has cX5_has 2 (some .boolean), .fieldLink RX5 37 "GreatSort$Runs" "all" "I", .static yX6_isIn, .initialized RX6, .code yX6_isIn cX6_isIn 3 (some .boolean)] ++ wsX60 ++ wsX50)
def wsX6_plan_r1 : List Cond := [Cond.fieldLink RX6 26 "GreatSort" "runs" "LGreatSort$Runs;", Cond.fieldLink RX6 33 "GreatSort" "plan" "LGreatSort$Plan;", Cond.fieldLink RX6 19 "GreatSort" "heap" "LGreatSort$Heap;", Cond.methodLink RX6 51 yX6_isIn, Cond.static yX6_isIn, Cond.initialized RX6, Cond.code yX6_isIn cX6_isIn 3 (some .boolean), Cond.methodLink RX6 119 yX5_forgetMerged, Cond.instanceMethod yX5_forgetMerged, Cond.selects RX5 yX5_forgetMerged yX5_forgetMerged, Cond.initialized RX5, Cond.code yX5_forgetMerged cX5_forgetMerged 1 none, Cond.fieldLink RX5 34 "GreatSort$Runs" "made" "I", Cond.fieldLink RX5 37 "GreatSort$Runs" "all" "I", Cond.fieldLink RX5 30 "GreatSort$Runs" "rowsInAll" "I", Cond.fieldLink RX5 40 "GreatSort$Runs" "filled" "I", Cond.methodLink RX6 122 yX3_tell, Cond.instanceMethod yX3_tell, Cond.selects RX3 yX3_tell yX3_tell, Cond.initialized RX3, Cond.code yX3_tell cX3_tell 7 (some .int), Cond.methodLink RX3 62 Lib.Math.min.name, Cond.static Lib.Math.min.name, Cond.initialized "java/lang/Math"]
def wsX6_plan_r2 : List Cond := [Cond.code Lib.Math.min.name Lib.Math.min.code 2 (some .int), Cond.fieldLink RX3 21 "GreatSort$Plan" "merges" "I", Cond.fieldLink RX3 25 "GreatSort$Plan" "told" "Z", Cond.methodLink RX3 37 yX1_forget, Cond.instanceMethod yX1_forget, Cond.selects RX1 yX1_forget yX1_forget, Cond.initialized RX1, Cond.code yX1_forget cX1_forget 1 none, Cond.fieldLink RX1 15 "GreatSort$Heap" "size" "I", Cond.methodLink RX3 47 yX5_sizeOf, Cond.instanceMethod yX5_sizeOf, Cond.selects RX5 yX5_sizeOf yX5_sizeOf, Cond.code yX5_sizeOf cX5_sizeOf 2 (some .int), Cond.fieldLink RX5 15 "GreatSort$Runs" "starts" "[I", Cond.methodLink RX5 47 yX5_has, Cond.instanceMethod yX5_has, Cond.selects RX5 yX5_has yX5_has, Cond.code yX5_has cX5_has 2 (some .boolean), Cond.methodLink RX3 50 yX3_sized, Cond.static yX3_sized, Cond.code yX3_sized cX3_sized 2 (some .long), Cond.constantLong RX3 79 (799), Cond.methodLink RX3 54 yX1_add, Cond.instanceMethod yX1_add]
def wsX6_plan_r3 : List Cond := [Cond.selects RX1 yX1_add yX1_add, Cond.code yX1_add cX1_add 5 none, Cond.fieldLink RX1 9 "GreatSort$Heap" "items" "[J", Cond.methodLink RX3 58 yX3_mergesOf, Cond.static yX3_mergesOf, Cond.code yX3_mergesOf cX3_mergesOf 2 (some .int), Cond.methodLink RX3 67 yX3_waysOf, Cond.static yX3_waysOf, Cond.code yX3_waysOf cX3_waysOf 3 (some .int), Cond.methodLink RX3 71 yX3_takeFewest, Cond.instanceMethod yX3_takeFewest, Cond.selects RX3 yX3_takeFewest yX3_takeFewest, Cond.code yX3_takeFewest cX3_takeFewest 9 (some .int), Cond.fieldLink RX3 15 "GreatSort$Plan" "starts" "[I", Cond.fieldLink RX3 9 "GreatSort$Plan" "takenRuns" "[I", Cond.methodLink RX3 75 yX1_takeLeast, Cond.instanceMethod yX1_takeLeast, Cond.selects RX1 yX1_takeLeast yX1_takeLeast, Cond.code yX1_takeLeast cX1_takeLeast 3 (some .long), Cond.methodLink RX1 19 yX1_sink, Cond.instanceMethod yX1_sink, Cond.selects RX1 yX1_sink yX1_sink, Cond.code yX1_sink cX1_sink 7 none]
def wsX6_plan : List Cond := .code yX6_plan cX6_plan 2 (some .int) :: ((wsX6_plan_r1 ++ (wsX6_plan_r2 ++ wsX6_plan_r3)) ++ wsX60 ++ wsX50 ++ wsX30 ++ wsX10)
def wsX6_queue_r1 : List Cond := [Cond.fieldLink RX6 26 "GreatSort" "runs" "LGreatSort$Runs;", Cond.fieldLink RX6 33 "GreatSort" "plan" "LGreatSort$Plan;", Cond.methodLink RX6 51 yX6_isIn, Cond.static yX6_isIn, Cond.initialized RX6, Cond.code yX6_isIn cX6_isIn 3 (some .boolean), Cond.methodLink RX6 126 yX3_movedByQueue, Cond.instanceMethod yX3_movedByQueue, Cond.selects RX3 yX3_movedByQueue yX3_movedByQueue, Cond.initialized RX3, Cond.code yX3_movedByQueue cX3_movedByQueue 9 (some .int), Cond.fieldLink RX3 18 "GreatSort$Plan" "queued" "[I", Cond.methodLink RX3 62 Lib.Math.min.name, Cond.static Lib.Math.min.name, Cond.initialized "java/lang/Math", Cond.code Lib.Math.min.name Lib.Math.min.code 2 (some .int), Cond.methodLink RX3 47 yX5_sizeOf, Cond.instanceMethod yX5_sizeOf, Cond.selects RX5 yX5_sizeOf yX5_sizeOf, Cond.initialized RX5, Cond.code yX5_sizeOf cX5_sizeOf 2 (some .int), Cond.fieldLink RX5 15 "GreatSort$Runs" "starts" "[I", Cond.methodLink RX5 47 yX5_has, Cond.instanceMethod yX5_has]
def wsX6_queue_r2 : List Cond := [Cond.selects RX5 yX5_has yX5_has, Cond.code yX5_has cX5_has 2 (some .boolean), Cond.fieldLink RX5 37 "GreatSort$Runs" "all" "I", Cond.methodLink RX3 58 yX3_mergesOf, Cond.static yX3_mergesOf, Cond.code yX3_mergesOf cX3_mergesOf 2 (some .int), Cond.methodLink RX3 67 yX3_waysOf, Cond.static yX3_waysOf, Cond.code yX3_waysOf cX3_waysOf 3 (some .int)]
def wsX6_queue : List Cond := .code yX6_queue cX6_queue 2 (some .int) :: ((wsX6_queue_r1 ++ wsX6_queue_r2) ++ wsX60 ++ wsX50 ++ wsX30)
def wsX6_merges : List Cond := .code yX6_merges cX6_merges 1 (some .int) :: ([.fieldLink RX6 33 "GreatSort" "plan" "LGreatSort$Plan;"] ++ wsX60 ++ wsX30)
def wsX6_takes : List Cond := .code yX6_takes cX6_takes 3 (some .int) :: ([.fieldLink RX6 33 "GreatSort" "plan" "LGreatSort$Plan;", .methodLink RX6 133 yX3_taken, .instanceMethod yX3_taken, .selects RX3 yX3_taken yX3_taken, .initialized RX3, .code yX3_taken cX3_taken 3 (some .int), .fieldLink RX3 9 "GreatSort$Plan" "takenRuns" "[I", .fieldLink RX3 15 "GreatSort$Plan" "starts" "[I", .methodLink RX3 33 yX3_waysIn, .instanceMethod yX3_waysIn, .selects RX3 yX3_waysIn yX3_waysIn, .code yX3_waysIn cX3_waysIn 2 (some .int), .fieldLink RX3 21 "GreatSort$Plan" "merges" "I", .static yX6_isIn, .initialized RX6, .code yX6_isIn cX6_isIn 3 (some .boolean)] ++ wsX60 ++ wsX30)
def wsX6_merge_r1 : List Cond := [Cond.fieldLink RX6 33 "GreatSort" "plan" "LGreatSort$Plan;", Cond.fieldLink RX6 26 "GreatSort" "runs" "LGreatSort$Runs;", Cond.methodLink RX6 119 yX5_forgetMerged, Cond.instanceMethod yX5_forgetMerged, Cond.selects RX5 yX5_forgetMerged yX5_forgetMerged, Cond.initialized RX5, Cond.code yX5_forgetMerged cX5_forgetMerged 1 none, Cond.fieldLink RX5 34 "GreatSort$Runs" "made" "I", Cond.fieldLink RX5 37 "GreatSort$Runs" "all" "I", Cond.fieldLink RX5 30 "GreatSort$Runs" "rowsInAll" "I", Cond.fieldLink RX5 40 "GreatSort$Runs" "filled" "I", Cond.methodLink RX6 140 yX5_mergeThose, Cond.instanceMethod yX5_mergeThose, Cond.selects RX5 yX5_mergeThose yX5_mergeThose, Cond.code yX5_mergeThose cX5_mergeThose 7 (some .int), Cond.methodLink RX5 88 Lib.Math.min.name, Cond.static Lib.Math.min.name, Cond.initialized "java/lang/Math", Cond.code Lib.Math.min.name Lib.Math.min.code 2 (some .int), Cond.fieldLink RX5 24 "GreatSort$Runs" "heads" "[I", Cond.fieldLink RX5 15 "GreatSort$Runs" "starts" "[I", Cond.fieldLink RX5 27 "GreatSort$Runs" "tails" "[I", Cond.methodLink RX5 103 yX3_waysIn, Cond.instanceMethod yX3_waysIn]
def wsX6_merge_r2 : List Cond := [Cond.selects RX3 yX3_waysIn yX3_waysIn, Cond.initialized RX3, Cond.code yX3_waysIn cX3_waysIn 2 (some .int), Cond.fieldLink RX3 21 "GreatSort$Plan" "merges" "I", Cond.fieldLink RX3 15 "GreatSort$Plan" "starts" "[I", Cond.static yX6_isIn, Cond.initialized RX6, Cond.code yX6_isIn cX6_isIn 3 (some .boolean), Cond.methodLink RX5 108 yX3_taken, Cond.instanceMethod yX3_taken, Cond.selects RX3 yX3_taken yX3_taken, Cond.code yX3_taken cX3_taken 3 (some .int), Cond.fieldLink RX3 9 "GreatSort$Plan" "takenRuns" "[I", Cond.methodLink RX3 33 yX3_waysIn, Cond.methodLink RX5 47 yX5_has, Cond.instanceMethod yX5_has, Cond.selects RX5 yX5_has yX5_has, Cond.code yX5_has cX5_has 2 (some .boolean), Cond.methodLink RX5 51 yX5_sizeOf, Cond.instanceMethod yX5_sizeOf, Cond.selects RX5 yX5_sizeOf yX5_sizeOf, Cond.code yX5_sizeOf cX5_sizeOf 2 (some .int), Cond.methodLink RX5 96 yX5_begin, Cond.instanceMethod yX5_begin]
def wsX6_merge_r3 : List Cond := [Cond.selects RX5 yX5_begin yX5_begin, Cond.code yX5_begin cX5_begin 1 none, Cond.methodLink RX5 111 yX5_takeFirst, Cond.instanceMethod yX5_takeFirst, Cond.selects RX5 yX5_takeFirst yX5_takeFirst, Cond.code yX5_takeFirst cX5_takeFirst 7 (some .int), Cond.fieldLink RX5 9 "GreatSort$Runs" "members" "[I", Cond.methodLink RX5 114 yX5_standingOf, Cond.instanceMethod yX5_standingOf, Cond.selects RX5 yX5_standingOf yX5_standingOf, Cond.code yX5_standingOf cX5_standingOf 2 (some .int), Cond.fieldLink RX5 21 "GreatSort$Runs" "standing" "[I", Cond.methodLink RX5 99 yX5_append, Cond.instanceMethod yX5_append, Cond.selects RX5 yX5_append yX5_append, Cond.code yX5_append cX5_append 2 none]
def wsX6_merge : List Cond := .code yX6_merge cX6_merge 3 (some .int) :: ((wsX6_merge_r1 ++ (wsX6_merge_r2 ++ wsX6_merge_r3)) ++ wsX60 ++ wsX30 ++ wsX50)
def wsX6_cut_r1 : List Cond := [Cond.fieldLink RX6 26 "GreatSort" "runs" "LGreatSort$Runs;", Cond.fieldLink RX6 40 "GreatSort" "cut" "LGreatSort$Cut;", Cond.fieldLink RX6 47 "GreatSort" "hosts" "LGreatSort$Hosts;", Cond.methodLink RX6 51 yX6_isIn, Cond.static yX6_isIn, Cond.initialized RX6, Cond.code yX6_isIn cX6_isIn 3 (some .boolean), Cond.methodLink RX6 144 yX0_makeOf, Cond.instanceMethod yX0_makeOf, Cond.selects RX0 yX0_makeOf yX0_makeOf, Cond.initialized RX0, Cond.code yX0_makeOf cX0_makeOf 7 none, Cond.fieldLink RX0 40 "GreatSort$Cut" "parts" "I", Cond.fieldLink RX0 44 "GreatSort$Cut" "samples" "I", Cond.fieldLink RX0 47 "GreatSort$Cut" "bound" "I", Cond.fieldLink RX0 22 "GreatSort$Cut" "ends" "[I", Cond.fieldLink RX0 19 "GreatSort$Cut" "sizes" "[I", Cond.fieldLink RX0 31 "GreatSort$Cut" "reached" "[I", Cond.methodLink RX0 59 yX0_forget, Cond.instanceMethod yX0_forget, Cond.selects RX0 yX0_forget yX0_forget, Cond.code yX0_forget cX0_forget 2 none, Cond.fieldLink RX0 50 "GreatSort$Cut" "ticks" "I", Cond.fieldLink RX0 53 "GreatSort$Cut" "mergedInAll" "I"]
def wsX6_cut_r2 : List Cond := [Cond.fieldLink RX0 56 "GreatSort$Cut" "mergedAgain" "I", Cond.fieldLink RX0 37 "GreatSort$Cut" "mergedBy" "[I", Cond.methodLink RX0 62 yX0_takeSamples, Cond.instanceMethod yX0_takeSamples, Cond.selects RX0 yX0_takeSamples yX0_takeSamples, Cond.code yX0_takeSamples cX0_takeSamples 7 none, Cond.fieldLink RX0 9 "GreatSort$Cut" "sampled" "[Z", Cond.fieldLink RX0 15 "GreatSort$Cut" "sampleStandings" "[I", Cond.methodLink RX0 89 yX5_sizeOf, Cond.instanceMethod yX5_sizeOf, Cond.selects RX5 yX5_sizeOf yX5_sizeOf, Cond.initialized RX5, Cond.code yX5_sizeOf cX5_sizeOf 2 (some .int), Cond.fieldLink RX5 15 "GreatSort$Runs" "starts" "[I", Cond.methodLink RX5 47 yX5_has, Cond.instanceMethod yX5_has, Cond.selects RX5 yX5_has yX5_has, Cond.code yX5_has cX5_has 2 (some .boolean), Cond.fieldLink RX5 37 "GreatSort$Runs" "all" "I", Cond.methodLink RX0 92 yX5_rowIn, Cond.instanceMethod yX5_rowIn, Cond.selects RX5 yX5_rowIn yX5_rowIn, Cond.code yX5_rowIn cX5_rowIn 3 (some .int), Cond.fieldLink RX5 9 "GreatSort$Runs" "members" "[I"]
def wsX6_cut_r3 : List Cond := [Cond.methodLink RX5 51 yX5_sizeOf, Cond.methodLink RX0 96 yX5_standingOf, Cond.instanceMethod yX5_standingOf, Cond.selects RX5 yX5_standingOf yX5_standingOf, Cond.code yX5_standingOf cX5_standingOf 2 (some .int), Cond.fieldLink RX5 30 "GreatSort$Runs" "rowsInAll" "I", Cond.fieldLink RX5 21 "GreatSort$Runs" "standing" "[I", Cond.methodLink RX0 74 yX0_lastStanding, Cond.instanceMethod yX0_lastStanding, Cond.selects RX0 yX0_lastStanding yX0_lastStanding, Cond.code yX0_lastStanding cX0_lastStanding 2 (some .int), Cond.methodLink RX0 78 yX5_rowInOrder, Cond.instanceMethod yX5_rowInOrder, Cond.selects RX5 yX5_rowInOrder yX5_rowInOrder, Cond.code yX5_rowInOrder cX5_rowInOrder 2 (some .int), Cond.fieldLink RX5 18 "GreatSort$Runs" "inOrder" "[I", Cond.methodLink RX0 81 yX0_beginAnew, Cond.instanceMethod yX0_beginAnew, Cond.selects RX0 yX0_beginAnew yX0_beginAnew, Cond.code yX0_beginAnew cX0_beginAnew 2 none, Cond.fieldLink RX0 28 "GreatSort$Cut" "merged" "[I", Cond.fieldLink RX0 34 "GreatSort$Cut" "done" "[Z", Cond.methodLink RX6 147 yX0_layOn, Cond.instanceMethod yX0_layOn]
def wsX6_cut_r4 : List Cond := [Cond.selects RX0 yX0_layOn yX0_layOn, Cond.code yX0_layOn cX0_layOn 3 none, Cond.fieldLink RX0 25 "GreatSort$Cut" "lies" "[I", Cond.methodLink RX0 104 yX0_moveFrom, Cond.instanceMethod yX0_moveFrom, Cond.selects RX0 yX0_moveFrom yX0_moveFrom, Cond.code yX0_moveFrom cX0_moveFrom 5 (some .int), Cond.methodLink RX0 108 yX0_leastLaden, Cond.instanceMethod yX0_leastLaden, Cond.selects RX0 yX0_leastLaden yX0_leastLaden, Cond.code yX0_leastLaden cX0_leastLaden 6 (some .int), Cond.methodLink RX0 112 yX0_leftOn, Cond.instanceMethod yX0_leftOn, Cond.selects RX0 yX0_leftOn yX0_leftOn, Cond.code yX0_leftOn cX0_leftOn 4 (some .int)]
def wsX6_cut : List Cond := .code yX6_cut cX6_cut 3 (some .int) :: ((wsX6_cut_r1 ++ (wsX6_cut_r2 ++ (wsX6_cut_r3 ++ wsX6_cut_r4))) ++ wsX60 ++ wsX50 ++ wsX00 ++ wsX20)
def wsX6_bound : List Cond := .code yX6_bound cX6_bound 1 (some .int) :: ([.fieldLink RX6 40 "GreatSort" "cut" "LGreatSort$Cut;", .methodLink RX6 154 yX0_stands, .instanceMethod yX0_stands, .selects RX0 yX0_stands yX0_stands, .initialized RX0, .code yX0_stands cX0_stands 1 (some .boolean), .fieldLink RX0 40 "GreatSort$Cut" "parts" "I"] ++ wsX60 ++ wsX00)
def wsX6_part : List Cond := .code yX6_part cX6_part 3 (some .int) :: ([.fieldLink RX6 40 "GreatSort" "cut" "LGreatSort$Cut;", .methodLink RX6 51 yX6_isIn, .static yX6_isIn, .initialized RX6, .code yX6_isIn cX6_isIn 3 (some .boolean)] ++ wsX60 ++ wsX00)
def wsX6_isHost : List Cond := .code yX6_isHost cX6_isHost 1 (some .boolean) :: ([.methodLink RX6 51 yX6_isIn, .static yX6_isIn, .initialized RX6, .code yX6_isIn cX6_isIn 3 (some .boolean)])
def wsX6_pace : List Cond := .code yX6_pace cX6_pace 3 (some .boolean) :: ([.fieldLink RX6 47 "GreatSort" "hosts" "LGreatSort$Hosts;", .methodLink RX6 176 yX6_isHost, .static yX6_isHost, .initialized RX6, .code yX6_isHost cX6_isHost 1 (some .boolean), .methodLink RX6 51 yX6_isIn, .static yX6_isIn, .code yX6_isIn cX6_isIn 3 (some .boolean)] ++ wsX60 ++ wsX20)
def wsX6_fall_r1 : List Cond := [Cond.fieldLink RX6 47 "GreatSort" "hosts" "LGreatSort$Hosts;", Cond.fieldLink RX6 40 "GreatSort" "cut" "LGreatSort$Cut;", Cond.methodLink RX6 176 yX6_isHost, Cond.static yX6_isHost, Cond.initialized RX6, Cond.code yX6_isHost cX6_isHost 1 (some .boolean), Cond.methodLink RX6 51 yX6_isIn, Cond.static yX6_isIn, Cond.code yX6_isIn cX6_isIn 3 (some .boolean), Cond.methodLink RX6 185 yX0_moveFrom, Cond.instanceMethod yX0_moveFrom, Cond.selects RX0 yX0_moveFrom yX0_moveFrom, Cond.initialized RX0, Cond.code yX0_moveFrom cX0_moveFrom 5 (some .int), Cond.fieldLink RX0 40 "GreatSort$Cut" "parts" "I", Cond.fieldLink RX0 25 "GreatSort$Cut" "lies" "[I", Cond.methodLink RX0 81 yX0_beginAnew, Cond.instanceMethod yX0_beginAnew, Cond.selects RX0 yX0_beginAnew yX0_beginAnew, Cond.code yX0_beginAnew cX0_beginAnew 2 none, Cond.fieldLink RX0 28 "GreatSort$Cut" "merged" "[I", Cond.fieldLink RX0 34 "GreatSort$Cut" "done" "[Z", Cond.methodLink RX0 108 yX0_leastLaden, Cond.instanceMethod yX0_leastLaden]
def wsX6_fall_r2 : List Cond := [Cond.selects RX0 yX0_leastLaden yX0_leastLaden, Cond.code yX0_leastLaden cX0_leastLaden 6 (some .int), Cond.methodLink RX0 112 yX0_leftOn, Cond.instanceMethod yX0_leftOn, Cond.selects RX0 yX0_leftOn yX0_leftOn, Cond.code yX0_leftOn cX0_leftOn 4 (some .int), Cond.fieldLink RX0 19 "GreatSort$Cut" "sizes" "[I"]
def wsX6_fall : List Cond := .code yX6_fall cX6_fall 2 (some .int) :: ((wsX6_fall_r1 ++ wsX6_fall_r2) ++ wsX60 ++ wsX20 ++ wsX00)
def wsX6_rise : List Cond := .code yX6_rise cX6_rise 2 (some .int) :: ([.fieldLink RX6 47 "GreatSort" "hosts" "LGreatSort$Hosts;", .fieldLink RX6 40 "GreatSort" "cut" "LGreatSort$Cut;", .methodLink RX6 176 yX6_isHost, .static yX6_isHost, .initialized RX6, .code yX6_isHost cX6_isHost 1 (some .boolean), .methodLink RX6 51 yX6_isIn, .static yX6_isIn, .code yX6_isIn cX6_isIn 3 (some .boolean), .methodLink RX6 189 yX0_bringTo, .instanceMethod yX0_bringTo, .selects RX0 yX0_bringTo yX0_bringTo, .initialized RX0, .code yX0_bringTo cX0_bringTo 4 (some .int), .fieldLink RX0 40 "GreatSort$Cut" "parts" "I", .fieldLink RX0 25 "GreatSort$Cut" "lies" "[I"] ++ wsX60 ++ wsX20 ++ wsX00)
def wsX6_host : List Cond := .code yX6_host cX6_host 3 (some .int) :: ([.fieldLink RX6 47 "GreatSort" "hosts" "LGreatSort$Hosts;", .fieldLink RX6 40 "GreatSort" "cut" "LGreatSort$Cut;", .methodLink RX6 176 yX6_isHost, .static yX6_isHost, .initialized RX6, .code yX6_isHost cX6_isHost 1 (some .boolean), .methodLink RX6 51 yX6_isIn, .static yX6_isIn, .code yX6_isIn cX6_isIn 3 (some .boolean), .methodLink RX6 192 yX0_partsOn, .instanceMethod yX0_partsOn, .selects RX0 yX0_partsOn yX0_partsOn, .initialized RX0, .code yX0_partsOn cX0_partsOn 4 (some .int), .fieldLink RX0 40 "GreatSort$Cut" "parts" "I", .fieldLink RX0 25 "GreatSort$Cut" "lies" "[I", .methodLink RX6 195 yX0_leftOn, .instanceMethod yX0_leftOn, .selects RX0 yX0_leftOn yX0_leftOn, .code yX0_leftOn cX0_leftOn 4 (some .int), .fieldLink RX0 19 "GreatSort$Cut" "sizes" "[I", .fieldLink RX0 28 "GreatSort$Cut" "merged" "[I"] ++ wsX60 ++ wsX20 ++ wsX00)
def wsX6_tick_r1 : List Cond := [Cond.fieldLink RX6 40 "GreatSort" "cut" "LGreatSort$Cut;", Cond.fieldLink RX6 47 "GreatSort" "hosts" "LGreatSort$Hosts;", Cond.methodLink RX6 154 yX0_stands, Cond.instanceMethod yX0_stands, Cond.selects RX0 yX0_stands yX0_stands, Cond.initialized RX0, Cond.code yX0_stands cX0_stands 1 (some .boolean), Cond.fieldLink RX0 40 "GreatSort$Cut" "parts" "I", Cond.methodLink RX6 201 yX0_goOn, Cond.instanceMethod yX0_goOn, Cond.selects RX0 yX0_goOn yX0_goOn, Cond.code yX0_goOn cX0_goOn 4 (some .int), Cond.fieldLink RX0 50 "GreatSort$Cut" "ticks" "I", Cond.fieldLink RX0 53 "GreatSort$Cut" "mergedInAll" "I", Cond.methodLink RX0 118 yX0_workAtPartsOf, Cond.instanceMethod yX0_workAtPartsOf, Cond.selects RX0 yX0_workAtPartsOf yX0_workAtPartsOf, Cond.code yX0_workAtPartsOf cX0_workAtPartsOf 6 none, Cond.fieldLink RX0 25 "GreatSort$Cut" "lies" "[I", Cond.fieldLink RX0 34 "GreatSort$Cut" "done" "[Z", Cond.fieldLink RX0 19 "GreatSort$Cut" "sizes" "[I", Cond.fieldLink RX0 28 "GreatSort$Cut" "merged" "[I", Cond.methodLink RX0 122 Lib.Math.min.name, Cond.static Lib.Math.min.name]
def wsX6_tick_r2 : List Cond := [Cond.initialized "java/lang/Math", Cond.code Lib.Math.min.name Lib.Math.min.code 2 (some .int), Cond.fieldLink RX0 37 "GreatSort$Cut" "mergedBy" "[I", Cond.methodLink RX0 127 yX0_mergeSome, Cond.instanceMethod yX0_mergeSome, Cond.selects RX0 yX0_mergeSome yX0_mergeSome, Cond.code yX0_mergeSome cX0_mergeSome 3 none, Cond.fieldLink RX0 56 "GreatSort$Cut" "mergedAgain" "I", Cond.fieldLink RX0 31 "GreatSort$Cut" "reached" "[I", Cond.methodLink RX0 130 Lib.Math.max.name, Cond.static Lib.Math.max.name, Cond.code Lib.Math.max.name Lib.Math.max.code 2 (some .int)]
def wsX6_tick : List Cond := .code yX6_tick cX6_tick 1 (some .int) :: ((wsX6_tick_r1 ++ wsX6_tick_r2) ++ wsX60 ++ wsX00 ++ wsX20)
def wsX6_work : List Cond := .code yX6_work cX6_work 2 (some .int) :: ([.fieldLink RX6 40 "GreatSort" "cut" "LGreatSort$Cut;", .methodLink RX6 154 yX0_stands, .instanceMethod yX0_stands, .selects RX0 yX0_stands yX0_stands, .initialized RX0, .code yX0_stands cX0_stands 1 (some .boolean), .fieldLink RX0 40 "GreatSort$Cut" "parts" "I", .methodLink RX6 214 yX0_partsDone, .instanceMethod yX0_partsDone, .selects RX0 yX0_partsDone yX0_partsDone, .code yX0_partsDone cX0_partsDone 3 (some .int), .fieldLink RX0 34 "GreatSort$Cut" "done" "[Z", .methodLink RX6 218 yX0_isAtEnd, .instanceMethod yX0_isAtEnd, .selects RX0 yX0_isAtEnd yX0_isAtEnd, .code yX0_isAtEnd cX0_isAtEnd 1 (some .boolean), .methodLink RX0 133 yX0_stands, .methodLink RX0 137 yX0_partsDone] ++ wsX60 ++ wsX00)
def wsX6_end_r1 : List Cond := [Cond.fieldLink RX6 40 "GreatSort" "cut" "LGreatSort$Cut;", Cond.fieldLink RX6 26 "GreatSort" "runs" "LGreatSort$Runs;", Cond.methodLink RX6 218 yX0_isAtEnd, Cond.instanceMethod yX0_isAtEnd, Cond.selects RX0 yX0_isAtEnd yX0_isAtEnd, Cond.initialized RX0, Cond.code yX0_isAtEnd cX0_isAtEnd 1 (some .boolean), Cond.fieldLink RX0 40 "GreatSort$Cut" "parts" "I", Cond.methodLink RX0 133 yX0_stands, Cond.instanceMethod yX0_stands, Cond.selects RX0 yX0_stands yX0_stands, Cond.code yX0_stands cX0_stands 1 (some .boolean), Cond.methodLink RX0 137 yX0_partsDone, Cond.instanceMethod yX0_partsDone, Cond.selects RX0 yX0_partsDone yX0_partsDone, Cond.code yX0_partsDone cX0_partsDone 3 (some .int), Cond.fieldLink RX0 34 "GreatSort$Cut" "done" "[Z", Cond.methodLink RX6 221 yX5_rowInOrder, Cond.instanceMethod yX5_rowInOrder, Cond.selects RX5 yX5_rowInOrder yX5_rowInOrder, Cond.initialized RX5, Cond.code yX5_rowInOrder cX5_rowInOrder 2 (some .int), Cond.fieldLink RX5 30 "GreatSort$Runs" "rowsInAll" "I", Cond.fieldLink RX5 18 "GreatSort$Runs" "inOrder" "[I"]
def wsX6_end_r2 : List Cond := [Cond.static yX6_isIn, Cond.initialized RX6, Cond.code yX6_isIn cX6_isIn 3 (some .boolean)]
def wsX6_end : List Cond := .code yX6_end cX6_end 2 (some .int) :: ((wsX6_end_r1 ++ wsX6_end_r2) ++ wsX60 ++ wsX00 ++ wsX50)
def wsX6_count : List Cond := .code yX6_count cX6_count 2 (some .int) :: ([.fieldLink RX6 12 "GreatSort" "rows" "LGreatSort$Rows;", .fieldLink RX6 26 "GreatSort" "runs" "LGreatSort$Runs;", .fieldLink RX6 40 "GreatSort" "cut" "LGreatSort$Cut;"] ++ wsX60 ++ wsX40 ++ wsX50 ++ wsX00)
def wsX7_init_r1 : List Cond := [Cond.methodLink RX7 1 objectInit, Cond.instanceMethod objectInit, Cond.code objectInit ⟨#[0xb1]⟩ 1 none, Cond.arrayClass .int, Cond.fieldLink RX7 7 "GreatSortModel" "sorts" "[I", Cond.fieldLink RX7 13 "GreatSortModel" "values" "[I", Cond.fieldLink RX7 16 "GreatSortModel" "rows" "I", Cond.fieldLink RX7 20 "GreatSortModel" "placeOf" "[I", Cond.arrayClass .boolean, Cond.fieldLink RX7 23 "GreatSortModel" "falling" "[Z", Cond.fieldLink RX7 27 "GreatSortModel" "made" "Z", Cond.fieldLink RX7 31 "GreatSortModel" "runs" "I", Cond.fieldLink RX7 34 "GreatSortModel" "allRuns" "I", Cond.fieldLink RX7 37 "GreatSortModel" "begin" "[I", Cond.fieldLink RX7 40 "GreatSortModel" "size" "[I", Cond.constant RX7 43 (40000), Cond.fieldLink RX7 44 "GreatSortModel" "pool" "[I", Cond.fieldLink RX7 47 "GreatSortModel" "pooled" "I", Cond.fieldLink RX7 50 "GreatSortModel" "ways" "I", Cond.fieldLink RX7 53 "GreatSortModel" "merges" "I", Cond.fieldLink RX7 56 "GreatSortModel" "takes" "[I", Cond.fieldLink RX7 59 "GreatSortModel" "taken" "[I", Cond.fieldLink RX7 62 "GreatSortModel" "parts" "I", Cond.fieldLink RX7 65 "GreatSortModel" "every" "I"]
def wsX7_init_r2 : List Cond := [Cond.fieldLink RX7 68 "GreatSortModel" "samples" "I", Cond.fieldLink RX7 71 "GreatSortModel" "sample" "[I", Cond.fieldLink RX7 74 "GreatSortModel" "ends" "[I", Cond.fieldLink RX7 77 "GreatSortModel" "partSize" "[I", Cond.fieldLink RX7 80 "GreatSortModel" "merged" "[I", Cond.fieldLink RX7 83 "GreatSortModel" "most" "[I", Cond.fieldLink RX7 86 "GreatSortModel" "done" "[Z", Cond.fieldLink RX7 89 "GreatSortModel" "on" "[I", Cond.fieldLink RX7 92 "GreatSortModel" "ticks" "I", Cond.fieldLink RX7 95 "GreatSortModel" "mergedAll" "I", Cond.fieldLink RX7 98 "GreatSortModel" "again" "I", Cond.fieldLink RX7 101 "GreatSortModel" "paces" "[I", Cond.fieldLink RX7 104 "GreatSortModel" "up" "[Z", Cond.fieldLink RX7 107 "GreatSortModel" "byHost" "[I", Cond.fieldLink RX7 110 "GreatSortModel" "heap" "[I", Cond.fieldLink RX7 113 "GreatSortModel" "used" "[Z", Cond.fieldLink RX7 116 "GreatSortModel" "planned" "[I", Cond.fieldLink RX7 119 "GreatSortModel" "gone" "[I"]
def wsX7_init : List Cond := .code yX7_init cX7_init 2 none :: ((wsX7_init_r1 ++ wsX7_init_r2) ++ wsX70)
def wsX7_is : List Cond := .code yX7_is cX7_is 3 (some .boolean) :: ([])
def wsX7_give : List Cond := .code yX7_give cX7_give 3 (some .int) :: ([.constant RX7 126 (-100000), .constant RX7 127 (100000), .fieldLink RX7 16 "GreatSortModel" "rows" "I", .fieldLink RX7 7 "GreatSortModel" "sorts" "[I", .fieldLink RX7 13 "GreatSortModel" "values" "[I", .methodLink RX7 122 yX7_is, .static yX7_is, .initialized RX7, .code yX7_is cX7_is 3 (some .boolean)] ++ wsX70)
def wsX7_sow : List Cond := .code yX7_sow cX7_sow 8 (some .int) :: ([.fieldLink RX7 16 "GreatSortModel" "rows" "I", .constant RX7 128 (1103515245), .fieldLink RX7 7 "GreatSortModel" "sorts" "[I", .fieldLink RX7 13 "GreatSortModel" "values" "[I", .methodLink RX7 122 yX7_is, .static yX7_is, .initialized RX7, .code yX7_is cX7_is 3 (some .boolean)] ++ wsX70)
def wsX7_clear : List Cond := .code yX7_clear cX7_clear 2 (some .int) :: ([.fieldLink RX7 16 "GreatSortModel" "rows" "I", .fieldLink RX7 27 "GreatSortModel" "made" "Z", .fieldLink RX7 31 "GreatSortModel" "runs" "I", .fieldLink RX7 34 "GreatSortModel" "allRuns" "I", .fieldLink RX7 50 "GreatSortModel" "ways" "I", .fieldLink RX7 53 "GreatSortModel" "merges" "I", .fieldLink RX7 62 "GreatSortModel" "parts" "I", .fieldLink RX7 68 "GreatSortModel" "samples" "I"] ++ wsX70)
def wsX7_order : List Cond := .code yX7_order cX7_order 5 (some .boolean) :: ([.fieldLink RX7 27 "GreatSortModel" "made" "Z", .fieldLink RX7 20 "GreatSortModel" "placeOf" "[I", .methodLink RX7 122 yX7_is, .static yX7_is, .initialized RX7, .code yX7_is cX7_is 3 (some .boolean)] ++ wsX70)
def wsX7_falls : List Cond := .code yX7_falls cX7_falls 3 (some .boolean) :: ([.fieldLink RX7 27 "GreatSortModel" "made" "Z", .fieldLink RX7 23 "GreatSortModel" "falling" "[Z", .methodLink RX7 122 yX7_is, .static yX7_is, .initialized RX7, .code yX7_is cX7_is 3 (some .boolean)] ++ wsX70)
def wsX7_isRow : List Cond := .code yX7_isRow cX7_isRow 2 (some .boolean) :: ([.fieldLink RX7 16 "GreatSortModel" "rows" "I"] ++ wsX70)
def wsX7_row : List Cond := .code yX7_row cX7_row 3 (some .int) :: ([.constant RX7 133 (-1000000), .fieldLink RX7 7 "GreatSortModel" "sorts" "[I", .fieldLink RX7 13 "GreatSortModel" "values" "[I", .methodLink RX7 129 yX7_isRow, .instanceMethod yX7_isRow, .selects RX7 yX7_isRow yX7_isRow, .initialized RX7, .code yX7_isRow cX7_isRow 2 (some .boolean), .fieldLink RX7 16 "GreatSortModel" "rows" "I", .methodLink RX7 122 yX7_is, .static yX7_is, .code yX7_is cX7_is 3 (some .boolean)] ++ wsX70)
def wsX7_ahead : List Cond := .code yX7_ahead cX7_ahead 3 (some .boolean) :: ([.fieldLink RX7 7 "GreatSortModel" "sorts" "[I", .fieldLink RX7 20 "GreatSortModel" "placeOf" "[I", .fieldLink RX7 13 "GreatSortModel" "values" "[I", .fieldLink RX7 23 "GreatSortModel" "falling" "[Z"] ++ wsX70)
def wsX7_against : List Cond := .code yX7_against cX7_against 3 (some .int) :: ([.methodLink RX7 129 yX7_isRow, .instanceMethod yX7_isRow, .selects RX7 yX7_isRow yX7_isRow, .initialized RX7, .code yX7_isRow cX7_isRow 2 (some .boolean), .fieldLink RX7 16 "GreatSortModel" "rows" "I", .methodLink RX7 134 yX7_ahead, .instanceMethod yX7_ahead, .selects RX7 yX7_ahead yX7_ahead, .code yX7_ahead cX7_ahead 3 (some .boolean), .fieldLink RX7 7 "GreatSortModel" "sorts" "[I", .fieldLink RX7 20 "GreatSortModel" "placeOf" "[I", .fieldLink RX7 13 "GreatSortModel" "values" "[I", .fieldLink RX7 23 "GreatSortModel" "falling" "[Z"] ++ wsX70)
def wsX7_rank : List Cond := .code yX7_rank cX7_rank 4 (some .int) :: ([.fieldLink RX7 16 "GreatSortModel" "rows" "I", .methodLink RX7 129 yX7_isRow, .instanceMethod yX7_isRow, .selects RX7 yX7_isRow yX7_isRow, .initialized RX7, .code yX7_isRow cX7_isRow 2 (some .boolean), .methodLink RX7 134 yX7_ahead, .instanceMethod yX7_ahead, .selects RX7 yX7_ahead yX7_ahead, .code yX7_ahead cX7_ahead 3 (some .boolean), .fieldLink RX7 7 "GreatSortModel" "sorts" "[I", .fieldLink RX7 20 "GreatSortModel" "placeOf" "[I", .fieldLink RX7 13 "GreatSortModel" "values" "[I", .fieldLink RX7 23 "GreatSortModel" "falling" "[Z"] ++ wsX70)
def wsX7_runs_r1 : List Cond := [Cond.fieldLink RX7 31 "GreatSortModel" "runs" "I", Cond.fieldLink RX7 47 "GreatSortModel" "pooled" "I", Cond.fieldLink RX7 50 "GreatSortModel" "ways" "I", Cond.fieldLink RX7 53 "GreatSortModel" "merges" "I", Cond.fieldLink RX7 62 "GreatSortModel" "parts" "I", Cond.fieldLink RX7 68 "GreatSortModel" "samples" "I", Cond.fieldLink RX7 16 "GreatSortModel" "rows" "I", Cond.fieldLink RX7 110 "GreatSortModel" "heap" "[I", Cond.fieldLink RX7 37 "GreatSortModel" "begin" "[I", Cond.fieldLink RX7 40 "GreatSortModel" "size" "[I", Cond.fieldLink RX7 44 "GreatSortModel" "pool" "[I", Cond.fieldLink RX7 34 "GreatSortModel" "allRuns" "I", Cond.fieldLink RX7 27 "GreatSortModel" "made" "Z", Cond.methodLink RX7 122 yX7_is, Cond.static yX7_is, Cond.initialized RX7, Cond.code yX7_is cX7_is 3 (some .boolean), Cond.methodLink RX7 134 yX7_ahead, Cond.instanceMethod yX7_ahead, Cond.selects RX7 yX7_ahead yX7_ahead, Cond.code yX7_ahead cX7_ahead 3 (some .boolean), Cond.fieldLink RX7 7 "GreatSortModel" "sorts" "[I", Cond.fieldLink RX7 20 "GreatSortModel" "placeOf" "[I", Cond.fieldLink RX7 13 "GreatSortModel" "values" "[I"]
def wsX7_runs_r2 : List Cond := [Cond.fieldLink RX7 23 "GreatSortModel" "falling" "[Z"]
def wsX7_runs : List Cond := .code yX7_runs cX7_runs 7 (some .int) :: ((wsX7_runs_r1 ++ wsX7_runs_r2) ++ wsX70)
def wsX7_length : List Cond := .code yX7_length cX7_length 2 (some .int) :: ([.fieldLink RX7 34 "GreatSortModel" "allRuns" "I", .fieldLink RX7 40 "GreatSortModel" "size" "[I"] ++ wsX70)
def wsX7_at : List Cond := .code yX7_at cX7_at 3 (some .int) :: ([.fieldLink RX7 34 "GreatSortModel" "allRuns" "I", .fieldLink RX7 40 "GreatSortModel" "size" "[I", .fieldLink RX7 44 "GreatSortModel" "pool" "[I", .fieldLink RX7 37 "GreatSortModel" "begin" "[I"] ++ wsX70)
def wsX7_moves : List Cond := .code yX7_moves cX7_moves 12 (some .int) :: ([.fieldLink RX7 31 "GreatSortModel" "runs" "I", .fieldLink RX7 116 "GreatSortModel" "planned" "[I", .fieldLink RX7 40 "GreatSortModel" "size" "[I", .fieldLink RX7 113 "GreatSortModel" "used" "[Z", .fieldLink RX7 59 "GreatSortModel" "taken" "[I", .fieldLink RX7 56 "GreatSortModel" "takes" "[I", .fieldLink RX7 53 "GreatSortModel" "merges" "I"] ++ wsX70)
def wsX7_plan : List Cond := .code yX7_plan cX7_plan 2 (some .int) :: ([.fieldLink RX7 27 "GreatSortModel" "made" "Z", .fieldLink RX7 50 "GreatSortModel" "ways" "I", .fieldLink RX7 31 "GreatSortModel" "runs" "I", .fieldLink RX7 34 "GreatSortModel" "allRuns" "I", .fieldLink RX7 37 "GreatSortModel" "begin" "[I", .fieldLink RX7 40 "GreatSortModel" "size" "[I", .fieldLink RX7 47 "GreatSortModel" "pooled" "I", .methodLink RX7 122 yX7_is, .static yX7_is, .initialized RX7, .code yX7_is cX7_is 3 (some .boolean), .methodLink RX7 138 yX7_moves, .instanceMethod yX7_moves, .selects RX7 yX7_moves yX7_moves, .code yX7_moves cX7_moves 12 (some .int), .fieldLink RX7 116 "GreatSortModel" "planned" "[I", .fieldLink RX7 113 "GreatSortModel" "used" "[Z", .fieldLink RX7 59 "GreatSortModel" "taken" "[I", .fieldLink RX7 56 "GreatSortModel" "takes" "[I", .fieldLink RX7 53 "GreatSortModel" "merges" "I"] ++ wsX70)
def wsX7_queue : List Cond := .code yX7_queue cX7_queue 2 (some .int) :: ([.fieldLink RX7 27 "GreatSortModel" "made" "Z", .methodLink RX7 122 yX7_is, .static yX7_is, .initialized RX7, .code yX7_is cX7_is 3 (some .boolean), .methodLink RX7 138 yX7_moves, .instanceMethod yX7_moves, .selects RX7 yX7_moves yX7_moves, .code yX7_moves cX7_moves 12 (some .int), .fieldLink RX7 31 "GreatSortModel" "runs" "I", .fieldLink RX7 116 "GreatSortModel" "planned" "[I", .fieldLink RX7 40 "GreatSortModel" "size" "[I", .fieldLink RX7 113 "GreatSortModel" "used" "[Z", .fieldLink RX7 59 "GreatSortModel" "taken" "[I", .fieldLink RX7 56 "GreatSortModel" "takes" "[I", .fieldLink RX7 53 "GreatSortModel" "merges" "I"] ++ wsX70)
def wsX7_merges : List Cond := .code yX7_merges cX7_merges 1 (some .int) :: ([.fieldLink RX7 53 "GreatSortModel" "merges" "I"] ++ wsX70)
def wsX7_takes : List Cond := .code yX7_takes cX7_takes 3 (some .int) :: ([.fieldLink RX7 53 "GreatSortModel" "merges" "I", .fieldLink RX7 56 "GreatSortModel" "takes" "[I", .fieldLink RX7 59 "GreatSortModel" "taken" "[I"] ++ wsX70)
def wsX7_merge : List Cond := .code yX7_merge cX7_merge 9 (some .int) :: ([.fieldLink RX7 50 "GreatSortModel" "ways" "I", .fieldLink RX7 31 "GreatSortModel" "runs" "I", .fieldLink RX7 34 "GreatSortModel" "allRuns" "I", .fieldLink RX7 37 "GreatSortModel" "begin" "[I", .fieldLink RX7 40 "GreatSortModel" "size" "[I", .fieldLink RX7 47 "GreatSortModel" "pooled" "I", .fieldLink RX7 53 "GreatSortModel" "merges" "I", .fieldLink RX7 119 "GreatSortModel" "gone" "[I", .fieldLink RX7 56 "GreatSortModel" "takes" "[I", .fieldLink RX7 59 "GreatSortModel" "taken" "[I", .fieldLink RX7 44 "GreatSortModel" "pool" "[I", .methodLink RX7 134 yX7_ahead, .instanceMethod yX7_ahead, .selects RX7 yX7_ahead yX7_ahead, .initialized RX7, .code yX7_ahead cX7_ahead 3 (some .boolean), .fieldLink RX7 7 "GreatSortModel" "sorts" "[I", .fieldLink RX7 20 "GreatSortModel" "placeOf" "[I", .fieldLink RX7 13 "GreatSortModel" "values" "[I", .fieldLink RX7 23 "GreatSortModel" "falling" "[Z"] ++ wsX70)
def wsX7_isIn : List Cond := .code yX7_isIn cX7_isIn 3 (some .boolean) :: ([.fieldLink RX7 74 "GreatSortModel" "ends" "[I", .fieldLink RX7 62 "GreatSortModel" "parts" "I", .methodLink RX7 134 yX7_ahead, .instanceMethod yX7_ahead, .selects RX7 yX7_ahead yX7_ahead, .initialized RX7, .code yX7_ahead cX7_ahead 3 (some .boolean), .fieldLink RX7 7 "GreatSortModel" "sorts" "[I", .fieldLink RX7 20 "GreatSortModel" "placeOf" "[I", .fieldLink RX7 13 "GreatSortModel" "values" "[I", .fieldLink RX7 23 "GreatSortModel" "falling" "[Z"] ++ wsX70)
def wsX7_left : List Cond := .code yX7_left cX7_left 4 (some .int) :: ([.fieldLink RX7 62 "GreatSortModel" "parts" "I", .fieldLink RX7 89 "GreatSortModel" "on" "[I", .fieldLink RX7 77 "GreatSortModel" "partSize" "[I", .fieldLink RX7 80 "GreatSortModel" "merged" "[I"] ++ wsX70)
def wsX7_leaves : List Cond := .code yX7_leaves cX7_leaves 6 (some .int) :: ([.fieldLink RX7 62 "GreatSortModel" "parts" "I", .fieldLink RX7 89 "GreatSortModel" "on" "[I", .fieldLink RX7 80 "GreatSortModel" "merged" "[I", .fieldLink RX7 86 "GreatSortModel" "done" "[Z", .fieldLink RX7 104 "GreatSortModel" "up" "[Z", .methodLink RX7 152 yX7_left, .instanceMethod yX7_left, .selects RX7 yX7_left yX7_left, .initialized RX7, .code yX7_left cX7_left 4 (some .int), .fieldLink RX7 77 "GreatSortModel" "partSize" "[I"] ++ wsX70)
def wsX7_cut_r1 : List Cond := [Cond.fieldLink RX7 27 "GreatSortModel" "made" "Z", Cond.fieldLink RX7 62 "GreatSortModel" "parts" "I", Cond.fieldLink RX7 65 "GreatSortModel" "every" "I", Cond.fieldLink RX7 68 "GreatSortModel" "samples" "I", Cond.fieldLink RX7 31 "GreatSortModel" "runs" "I", Cond.fieldLink RX7 40 "GreatSortModel" "size" "[I", Cond.fieldLink RX7 44 "GreatSortModel" "pool" "[I", Cond.fieldLink RX7 37 "GreatSortModel" "begin" "[I", Cond.fieldLink RX7 71 "GreatSortModel" "sample" "[I", Cond.fieldLink RX7 74 "GreatSortModel" "ends" "[I", Cond.fieldLink RX7 77 "GreatSortModel" "partSize" "[I", Cond.fieldLink RX7 80 "GreatSortModel" "merged" "[I", Cond.fieldLink RX7 83 "GreatSortModel" "most" "[I", Cond.fieldLink RX7 86 "GreatSortModel" "done" "[Z", Cond.fieldLink RX7 89 "GreatSortModel" "on" "[I", Cond.fieldLink RX7 92 "GreatSortModel" "ticks" "I", Cond.fieldLink RX7 95 "GreatSortModel" "mergedAll" "I", Cond.fieldLink RX7 98 "GreatSortModel" "again" "I", Cond.fieldLink RX7 107 "GreatSortModel" "byHost" "[I", Cond.fieldLink RX7 104 "GreatSortModel" "up" "[Z", Cond.methodLink RX7 122 yX7_is, Cond.static yX7_is, Cond.initialized RX7, Cond.code yX7_is cX7_is 3 (some .boolean)]
def wsX7_cut_r2 : List Cond := [Cond.methodLink RX7 134 yX7_ahead, Cond.instanceMethod yX7_ahead, Cond.selects RX7 yX7_ahead yX7_ahead, Cond.code yX7_ahead cX7_ahead 3 (some .boolean), Cond.fieldLink RX7 7 "GreatSortModel" "sorts" "[I", Cond.fieldLink RX7 20 "GreatSortModel" "placeOf" "[I", Cond.fieldLink RX7 13 "GreatSortModel" "values" "[I", Cond.fieldLink RX7 23 "GreatSortModel" "falling" "[Z", Cond.methodLink RX7 142 yX7_isIn, Cond.instanceMethod yX7_isIn, Cond.selects RX7 yX7_isIn yX7_isIn, Cond.code yX7_isIn cX7_isIn 3 (some .boolean), Cond.methodLink RX7 145 yX7_leaves, Cond.instanceMethod yX7_leaves, Cond.selects RX7 yX7_leaves yX7_leaves, Cond.code yX7_leaves cX7_leaves 6 (some .int), Cond.methodLink RX7 152 yX7_left, Cond.instanceMethod yX7_left, Cond.selects RX7 yX7_left yX7_left, Cond.code yX7_left cX7_left 4 (some .int)]
def wsX7_cut : List Cond := .code yX7_cut cX7_cut 7 (some .int) :: ((wsX7_cut_r1 ++ wsX7_cut_r2) ++ wsX70)
def wsX7_bound : List Cond := .code yX7_bound cX7_bound 1 (some .int) :: ([.fieldLink RX7 62 "GreatSortModel" "parts" "I", .fieldLink RX7 65 "GreatSortModel" "every" "I", .fieldLink RX7 68 "GreatSortModel" "samples" "I", .fieldLink RX7 31 "GreatSortModel" "runs" "I"] ++ wsX70)
def wsX7_part : List Cond := .code yX7_part cX7_part 3 (some .int) :: ([.fieldLink RX7 62 "GreatSortModel" "parts" "I", .fieldLink RX7 77 "GreatSortModel" "partSize" "[I", .fieldLink RX7 80 "GreatSortModel" "merged" "[I", .fieldLink RX7 89 "GreatSortModel" "on" "[I", .fieldLink RX7 74 "GreatSortModel" "ends" "[I"] ++ wsX70)
def wsX7_isHost : List Cond := .code yX7_isHost cX7_isHost 1 (some .boolean) :: ([])
def wsX7_pace : List Cond := .code yX7_pace cX7_pace 3 (some .boolean) :: ([.fieldLink RX7 101 "GreatSortModel" "paces" "[I", .methodLink RX7 149 yX7_isHost, .static yX7_isHost, .initialized RX7, .code yX7_isHost cX7_isHost 1 (some .boolean), .methodLink RX7 122 yX7_is, .static yX7_is, .code yX7_is cX7_is 3 (some .boolean)] ++ wsX70)
def wsX7_fall : List Cond := .code yX7_fall cX7_fall 2 (some .int) :: ([.fieldLink RX7 104 "GreatSortModel" "up" "[Z", .methodLink RX7 149 yX7_isHost, .static yX7_isHost, .initialized RX7, .code yX7_isHost cX7_isHost 1 (some .boolean), .methodLink RX7 145 yX7_leaves, .instanceMethod yX7_leaves, .selects RX7 yX7_leaves yX7_leaves, .code yX7_leaves cX7_leaves 6 (some .int), .fieldLink RX7 62 "GreatSortModel" "parts" "I", .fieldLink RX7 89 "GreatSortModel" "on" "[I", .fieldLink RX7 80 "GreatSortModel" "merged" "[I", .fieldLink RX7 86 "GreatSortModel" "done" "[Z", .methodLink RX7 152 yX7_left, .instanceMethod yX7_left, .selects RX7 yX7_left yX7_left, .code yX7_left cX7_left 4 (some .int), .fieldLink RX7 77 "GreatSortModel" "partSize" "[I"] ++ wsX70)
def wsX7_rise : List Cond := .code yX7_rise cX7_rise 4 (some .int) :: ([.fieldLink RX7 104 "GreatSortModel" "up" "[Z", .fieldLink RX7 62 "GreatSortModel" "parts" "I", .fieldLink RX7 89 "GreatSortModel" "on" "[I", .methodLink RX7 149 yX7_isHost, .static yX7_isHost, .initialized RX7, .code yX7_isHost cX7_isHost 1 (some .boolean)] ++ wsX70)
def wsX7_host : List Cond := .code yX7_host cX7_host 5 (some .int) :: ([.fieldLink RX7 101 "GreatSortModel" "paces" "[I", .fieldLink RX7 104 "GreatSortModel" "up" "[Z", .fieldLink RX7 62 "GreatSortModel" "parts" "I", .fieldLink RX7 89 "GreatSortModel" "on" "[I", .fieldLink RX7 107 "GreatSortModel" "byHost" "[I", .methodLink RX7 149 yX7_isHost, .static yX7_isHost, .initialized RX7, .code yX7_isHost cX7_isHost 1 (some .boolean), .methodLink RX7 152 yX7_left, .instanceMethod yX7_left, .selects RX7 yX7_left yX7_left, .code yX7_left cX7_left 4 (some .int), .fieldLink RX7 77 "GreatSortModel" "partSize" "[I", .fieldLink RX7 80 "GreatSortModel" "merged" "[I"] ++ wsX70)
def wsX7_tick : List Cond := .code yX7_tick cX7_tick 7 (some .int) :: ([.fieldLink RX7 62 "GreatSortModel" "parts" "I", .fieldLink RX7 92 "GreatSortModel" "ticks" "I", .fieldLink RX7 95 "GreatSortModel" "mergedAll" "I", .fieldLink RX7 104 "GreatSortModel" "up" "[Z", .fieldLink RX7 101 "GreatSortModel" "paces" "[I", .fieldLink RX7 89 "GreatSortModel" "on" "[I", .fieldLink RX7 86 "GreatSortModel" "done" "[Z", .fieldLink RX7 77 "GreatSortModel" "partSize" "[I", .fieldLink RX7 80 "GreatSortModel" "merged" "[I", .fieldLink RX7 83 "GreatSortModel" "most" "[I", .fieldLink RX7 98 "GreatSortModel" "again" "I", .fieldLink RX7 107 "GreatSortModel" "byHost" "[I"] ++ wsX70)
def wsX7_isThere : List Cond := .code yX7_isThere cX7_isThere 3 (some .boolean) :: ([.fieldLink RX7 62 "GreatSortModel" "parts" "I", .fieldLink RX7 86 "GreatSortModel" "done" "[Z"] ++ wsX70)
def wsX7_work : List Cond := .code yX7_work cX7_work 4 (some .int) :: ([.fieldLink RX7 62 "GreatSortModel" "parts" "I", .fieldLink RX7 92 "GreatSortModel" "ticks" "I", .fieldLink RX7 95 "GreatSortModel" "mergedAll" "I", .fieldLink RX7 98 "GreatSortModel" "again" "I", .fieldLink RX7 86 "GreatSortModel" "done" "[Z", .methodLink RX7 155 yX7_isThere, .instanceMethod yX7_isThere, .selects RX7 yX7_isThere yX7_isThere, .initialized RX7, .code yX7_isThere cX7_isThere 3 (some .boolean)] ++ wsX70)
def wsX7_end : List Cond := .code yX7_end cX7_end 6 (some .int) :: ([.fieldLink RX7 31 "GreatSortModel" "runs" "I", .fieldLink RX7 37 "GreatSortModel" "begin" "[I", .fieldLink RX7 40 "GreatSortModel" "size" "[I", .fieldLink RX7 44 "GreatSortModel" "pool" "[I", .methodLink RX7 155 yX7_isThere, .instanceMethod yX7_isThere, .selects RX7 yX7_isThere yX7_isThere, .initialized RX7, .code yX7_isThere cX7_isThere 3 (some .boolean), .fieldLink RX7 62 "GreatSortModel" "parts" "I", .fieldLink RX7 86 "GreatSortModel" "done" "[Z", .methodLink RX7 134 yX7_ahead, .instanceMethod yX7_ahead, .selects RX7 yX7_ahead yX7_ahead, .code yX7_ahead cX7_ahead 3 (some .boolean), .fieldLink RX7 7 "GreatSortModel" "sorts" "[I", .fieldLink RX7 20 "GreatSortModel" "placeOf" "[I", .fieldLink RX7 13 "GreatSortModel" "values" "[I", .fieldLink RX7 23 "GreatSortModel" "falling" "[Z"] ++ wsX70)
def wsX7_count : List Cond := .code yX7_count cX7_count 2 (some .int) :: ([.fieldLink RX7 16 "GreatSortModel" "rows" "I", .fieldLink RX7 31 "GreatSortModel" "runs" "I", .fieldLink RX7 68 "GreatSortModel" "samples" "I", .fieldLink RX7 62 "GreatSortModel" "parts" "I"] ++ wsX70)
def wsJ9_max_7cf53 : List Cond := .code yJ9_max_7cf53 cJ9_max_7cf53 2 (some .int) :: ([])
def wsJ9_min_7cf53 : List Cond := .code yJ9_min_7cf53 cJ9_min_7cf53 2 (some .int) :: ([])
def wsL_law_r1 : List Cond := [Cond.classLink RL 7 RX6, Cond.instantiable RX6 6, Cond.initialized RX6, Cond.classLink RL 10 RX7, Cond.instantiable RX7 36, Cond.initialized RX7, Cond.methodLink RL 9 yX6_init, Cond.instanceMethod yX6_init, Cond.code yX6_init cX6_init 1 none, Cond.methodLink RX6 3 objectInit, Cond.instanceMethod objectInit, Cond.code objectInit ⟨#[0xb1]⟩ 1 none, Cond.classLink RX6 9 RX4, Cond.instantiable RX4 5, Cond.initialized RX4, Cond.fieldLink RX6 12 "GreatSort" "rows" "LGreatSort$Rows;", Cond.classLink RX6 16 RX1, Cond.instantiable RX1 2, Cond.initialized RX1, Cond.fieldLink RX6 19 "GreatSort" "heap" "LGreatSort$Heap;", Cond.classLink RX6 23 RX5, Cond.instantiable RX5 10, Cond.initialized RX5, Cond.fieldLink RX6 26 "GreatSort" "runs" "LGreatSort$Runs;"]
def wsL_law_r2 : List Cond := [Cond.classLink RX6 30 RX3, Cond.instantiable RX3 5, Cond.initialized RX3, Cond.fieldLink RX6 33 "GreatSort" "plan" "LGreatSort$Plan;", Cond.classLink RX6 37 RX0, Cond.instantiable RX0 15, Cond.initialized RX0, Cond.fieldLink RX6 40 "GreatSort" "cut" "LGreatSort$Cut;", Cond.classLink RX6 44 RX2, Cond.instantiable RX2 2, Cond.initialized RX2, Cond.fieldLink RX6 47 "GreatSort" "hosts" "LGreatSort$Hosts;", Cond.instanceMethod yX4_init, Cond.code yX4_init cX4_init 1 none, Cond.methodLink RX4 3 objectInit, Cond.arrayClass .int, Cond.fieldLink RX4 9 "GreatSort$Rows" "sorts" "[I", Cond.fieldLink RX4 15 "GreatSort$Rows" "values" "[I", Cond.fieldLink RX4 18 "GreatSort$Rows" "turns" "[I", Cond.arrayClass .boolean, Cond.fieldLink RX4 21 "GreatSort$Rows" "falling" "[Z", Cond.instanceMethod yX1_init, Cond.code yX1_init cX1_init 1 none, Cond.methodLink RX1 3 objectInit]
def wsL_law_r3 : List Cond := [Cond.arrayClass .long, Cond.fieldLink RX1 9 "GreatSort$Heap" "items" "[J", Cond.instanceMethod yX5_init, Cond.code yX5_init cX5_init 1 none, Cond.methodLink RX5 3 objectInit, Cond.fieldLink RX5 9 "GreatSort$Runs" "members" "[I", Cond.fieldLink RX5 15 "GreatSort$Runs" "starts" "[I", Cond.fieldLink RX5 18 "GreatSort$Runs" "inOrder" "[I", Cond.fieldLink RX5 21 "GreatSort$Runs" "standing" "[I", Cond.fieldLink RX5 24 "GreatSort$Runs" "heads" "[I", Cond.fieldLink RX5 27 "GreatSort$Runs" "tails" "[I", Cond.instanceMethod yX3_init, Cond.code yX3_init cX3_init 1 none, Cond.methodLink RX3 3 objectInit, Cond.fieldLink RX3 9 "GreatSort$Plan" "takenRuns" "[I", Cond.fieldLink RX3 15 "GreatSort$Plan" "starts" "[I", Cond.fieldLink RX3 18 "GreatSort$Plan" "queued" "[I", Cond.instanceMethod yX0_init, Cond.code yX0_init cX0_init 1 none, Cond.methodLink RX0 3 objectInit, Cond.fieldLink RX0 9 "GreatSort$Cut" "sampled" "[Z", Cond.fieldLink RX0 15 "GreatSort$Cut" "sampleStandings" "[I", Cond.fieldLink RX0 19 "GreatSort$Cut" "sizes" "[I", Cond.fieldLink RX0 22 "GreatSort$Cut" "ends" "[I"]
def wsL_law_r4 : List Cond := [Cond.fieldLink RX0 25 "GreatSort$Cut" "lies" "[I", Cond.fieldLink RX0 28 "GreatSort$Cut" "merged" "[I", Cond.fieldLink RX0 31 "GreatSort$Cut" "reached" "[I", Cond.fieldLink RX0 34 "GreatSort$Cut" "done" "[Z", Cond.fieldLink RX0 37 "GreatSort$Cut" "mergedBy" "[I", Cond.methodLink RX6 46 yX2_init, Cond.instanceMethod yX2_init, Cond.code yX2_init cX2_init 2 none, Cond.methodLink RX2 3 objectInit, Cond.fieldLink RX2 9 "GreatSort$Hosts" "paces" "[I", Cond.fieldLink RX2 15 "GreatSort$Hosts" "up" "[Z", Cond.methodLink RL 12 yX7_init, Cond.instanceMethod yX7_init, Cond.code yX7_init cX7_init 2 none, Cond.methodLink RX7 1 objectInit, Cond.fieldLink RX7 7 "GreatSortModel" "sorts" "[I", Cond.fieldLink RX7 13 "GreatSortModel" "values" "[I", Cond.fieldLink RX7 16 "GreatSortModel" "rows" "I", Cond.fieldLink RX7 20 "GreatSortModel" "placeOf" "[I", Cond.fieldLink RX7 23 "GreatSortModel" "falling" "[Z", Cond.fieldLink RX7 27 "GreatSortModel" "made" "Z", Cond.fieldLink RX7 31 "GreatSortModel" "runs" "I", Cond.fieldLink RX7 34 "GreatSortModel" "allRuns" "I", Cond.fieldLink RX7 37 "GreatSortModel" "begin" "[I"]
def wsL_law_r5 : List Cond := [Cond.fieldLink RX7 40 "GreatSortModel" "size" "[I", Cond.constant RX7 43 (40000), Cond.fieldLink RX7 44 "GreatSortModel" "pool" "[I", Cond.fieldLink RX7 47 "GreatSortModel" "pooled" "I", Cond.fieldLink RX7 50 "GreatSortModel" "ways" "I", Cond.fieldLink RX7 53 "GreatSortModel" "merges" "I", Cond.fieldLink RX7 56 "GreatSortModel" "takes" "[I", Cond.fieldLink RX7 59 "GreatSortModel" "taken" "[I", Cond.fieldLink RX7 62 "GreatSortModel" "parts" "I", Cond.fieldLink RX7 65 "GreatSortModel" "every" "I", Cond.fieldLink RX7 68 "GreatSortModel" "samples" "I", Cond.fieldLink RX7 71 "GreatSortModel" "sample" "[I", Cond.fieldLink RX7 74 "GreatSortModel" "ends" "[I", Cond.fieldLink RX7 77 "GreatSortModel" "partSize" "[I", Cond.fieldLink RX7 80 "GreatSortModel" "merged" "[I", Cond.fieldLink RX7 83 "GreatSortModel" "most" "[I", Cond.fieldLink RX7 86 "GreatSortModel" "done" "[Z", Cond.fieldLink RX7 89 "GreatSortModel" "on" "[I", Cond.fieldLink RX7 92 "GreatSortModel" "ticks" "I", Cond.fieldLink RX7 95 "GreatSortModel" "mergedAll" "I", Cond.fieldLink RX7 98 "GreatSortModel" "again" "I", Cond.fieldLink RX7 101 "GreatSortModel" "paces" "[I", Cond.fieldLink RX7 104 "GreatSortModel" "up" "[Z", Cond.fieldLink RX7 107 "GreatSortModel" "byHost" "[I"]
def wsL_law_r6 : List Cond := [Cond.fieldLink RX7 110 "GreatSortModel" "heap" "[I", Cond.fieldLink RX7 113 "GreatSortModel" "used" "[Z", Cond.fieldLink RX7 116 "GreatSortModel" "planned" "[I", Cond.fieldLink RX7 119 "GreatSortModel" "gone" "[I", Cond.methodLink RL 13 yX6_give, Cond.instanceMethod yX6_give, Cond.selects RX6 yX6_give yX6_give, Cond.code yX6_give cX6_give 3 (some .int), Cond.constant RX6 55 (-100000), Cond.constant RX6 56 (100000), Cond.methodLink RX6 51 yX6_isIn, Cond.static yX6_isIn, Cond.code yX6_isIn cX6_isIn 3 (some .boolean), Cond.methodLink RX6 57 yX4_hasRoomFor, Cond.instanceMethod yX4_hasRoomFor, Cond.selects RX4 yX4_hasRoomFor yX4_hasRoomFor, Cond.code yX4_hasRoomFor cX4_hasRoomFor 2 (some .boolean), Cond.fieldLink RX4 25 "GreatSort$Rows" "count" "I", Cond.methodLink RX6 61 yX4_add, Cond.instanceMethod yX4_add, Cond.selects RX4 yX4_add yX4_add, Cond.code yX4_add cX4_add 3 none, Cond.methodLink RL 17 yX7_give, Cond.instanceMethod yX7_give]
def wsL_law_r7 : List Cond := [Cond.selects RX7 yX7_give yX7_give, Cond.code yX7_give cX7_give 3 (some .int), Cond.constant RX7 126 (-100000), Cond.constant RX7 127 (100000), Cond.methodLink RX7 122 yX7_is, Cond.static yX7_is, Cond.code yX7_is cX7_is 3 (some .boolean), Cond.methodLink RL 18 yX6_sow, Cond.instanceMethod yX6_sow, Cond.selects RX6 yX6_sow yX6_sow, Cond.code yX6_sow cX6_sow 8 (some .int), Cond.constant RX6 69 (1103515245), Cond.methodLink RL 22 yX7_sow, Cond.instanceMethod yX7_sow, Cond.selects RX7 yX7_sow yX7_sow, Cond.code yX7_sow cX7_sow 8 (some .int), Cond.constant RX7 128 (1103515245), Cond.methodLink RL 23 yX6_clear, Cond.instanceMethod yX6_clear, Cond.selects RX6 yX6_clear yX6_clear, Cond.code yX6_clear cX6_clear 2 (some .int), Cond.methodLink RX6 70 yX6_forgetRuns, Cond.instanceMethod yX6_forgetRuns, Cond.selects RX6 yX6_forgetRuns yX6_forgetRuns]
def wsL_law_r8 : List Cond := [Cond.code yX6_forgetRuns cX6_forgetRuns 1 none, Cond.methodLink RX6 224 yX5_forget, Cond.instanceMethod yX5_forget, Cond.selects RX5 yX5_forget yX5_forget, Cond.code yX5_forget cX5_forget 1 none, Cond.fieldLink RX5 30 "GreatSort$Runs" "rowsInAll" "I", Cond.fieldLink RX5 34 "GreatSort$Runs" "made" "I", Cond.fieldLink RX5 37 "GreatSort$Runs" "all" "I", Cond.fieldLink RX5 40 "GreatSort$Runs" "filled" "I", Cond.methodLink RX6 227 yX3_forget, Cond.instanceMethod yX3_forget, Cond.selects RX3 yX3_forget yX3_forget, Cond.code yX3_forget cX3_forget 1 none, Cond.fieldLink RX3 21 "GreatSort$Plan" "merges" "I", Cond.fieldLink RX3 25 "GreatSort$Plan" "told" "Z", Cond.methodLink RX6 228 yX0_forget, Cond.instanceMethod yX0_forget, Cond.selects RX0 yX0_forget yX0_forget, Cond.code yX0_forget cX0_forget 2 none, Cond.fieldLink RX0 40 "GreatSort$Cut" "parts" "I", Cond.fieldLink RX0 44 "GreatSort$Cut" "samples" "I", Cond.fieldLink RX0 47 "GreatSort$Cut" "bound" "I", Cond.fieldLink RX0 50 "GreatSort$Cut" "ticks" "I", Cond.fieldLink RX0 53 "GreatSort$Cut" "mergedInAll" "I"]
def wsL_law_r9 : List Cond := [Cond.fieldLink RX0 56 "GreatSort$Cut" "mergedAgain" "I", Cond.methodLink RL 27 yX7_clear, Cond.instanceMethod yX7_clear, Cond.selects RX7 yX7_clear yX7_clear, Cond.code yX7_clear cX7_clear 2 (some .int), Cond.methodLink RL 28 yX6_order, Cond.instanceMethod yX6_order, Cond.selects RX6 yX6_order yX6_order, Cond.code yX6_order cX6_order 5 (some .boolean), Cond.methodLink RX6 76 yX6_isEachSortOnce, Cond.static yX6_isEachSortOnce, Cond.code yX6_isEachSortOnce cX6_isEachSortOnce 5 (some .boolean), Cond.methodLink RL 32 yX7_order, Cond.instanceMethod yX7_order, Cond.selects RX7 yX7_order yX7_order, Cond.code yX7_order cX7_order 5 (some .boolean), Cond.methodLink RL 33 yX6_falls, Cond.instanceMethod yX6_falls, Cond.selects RX6 yX6_falls yX6_falls, Cond.code yX6_falls cX6_falls 3 (some .boolean), Cond.methodLink RL 37 yX7_falls, Cond.instanceMethod yX7_falls, Cond.selects RX7 yX7_falls yX7_falls, Cond.code yX7_falls cX7_falls 3 (some .boolean)]
def wsL_law_r10 : List Cond := [Cond.methodLink RL 38 yX6_row, Cond.instanceMethod yX6_row, Cond.selects RX6 yX6_row yX6_row, Cond.code yX6_row cX6_row 3 (some .int), Cond.constant RX6 91 (-1000000), Cond.methodLink RX6 88 yX4_has, Cond.instanceMethod yX4_has, Cond.selects RX4 yX4_has yX4_has, Cond.code yX4_has cX4_has 2 (some .boolean), Cond.methodLink RL 41 yX7_row, Cond.instanceMethod yX7_row, Cond.selects RX7 yX7_row yX7_row, Cond.code yX7_row cX7_row 3 (some .int), Cond.constant RX7 133 (-1000000), Cond.methodLink RX7 129 yX7_isRow, Cond.instanceMethod yX7_isRow, Cond.selects RX7 yX7_isRow yX7_isRow, Cond.code yX7_isRow cX7_isRow 2 (some .boolean), Cond.methodLink RL 42 yX6_against, Cond.instanceMethod yX6_against, Cond.selects RX6 yX6_against yX6_against, Cond.code yX6_against cX6_against 3 (some .int), Cond.methodLink RX6 98 yX4_placeOf, Cond.instanceMethod yX4_placeOf]
def wsL_law_r11 : List Cond := [Cond.selects RX4 yX4_placeOf yX4_placeOf, Cond.code yX4_placeOf cX4_placeOf 4 (some .int), Cond.constant RX4 37 (320001600), Cond.constant RX4 38 (200001), Cond.constant RX4 39 (100000), Cond.methodLink RX4 33 yX4_has, Cond.methodLink RX6 102 yJ6_compare_7cf53, Cond.static yJ6_compare_7cf53, Cond.initialized RJ6, Cond.code yJ6_compare_7cf53 cJ6_compare_7cf53 2 (some .int), Cond.methodLink RL 45 yX7_against, Cond.instanceMethod yX7_against, Cond.selects RX7 yX7_against yX7_against, Cond.code yX7_against cX7_against 3 (some .int), Cond.methodLink RX7 134 yX7_ahead, Cond.instanceMethod yX7_ahead, Cond.selects RX7 yX7_ahead yX7_ahead, Cond.code yX7_ahead cX7_ahead 3 (some .boolean), Cond.methodLink RL 46 yX6_rank, Cond.instanceMethod yX6_rank, Cond.selects RX6 yX6_rank yX6_rank, Cond.code yX6_rank cX6_rank 5 (some .int), Cond.methodLink RL 50 yX7_rank, Cond.instanceMethod yX7_rank]
def wsL_law_r12 : List Cond := [Cond.selects RX7 yX7_rank yX7_rank, Cond.code yX7_rank cX7_rank 4 (some .int), Cond.methodLink RL 51 yX6_runs, Cond.instanceMethod yX6_runs, Cond.selects RX6 yX6_runs yX6_runs, Cond.code yX6_runs cX6_runs 2 (some .int), Cond.methodLink RX6 108 yX5_makeOf, Cond.instanceMethod yX5_makeOf, Cond.selects RX5 yX5_makeOf yX5_makeOf, Cond.code yX5_makeOf cX5_makeOf 4 none, Cond.methodLink RX5 60 yX5_putInOrder, Cond.instanceMethod yX5_putInOrder, Cond.selects RX5 yX5_putInOrder yX5_putInOrder, Cond.code yX5_putInOrder cX5_putInOrder 5 none, Cond.methodLink RX5 68 yX1_forget, Cond.instanceMethod yX1_forget, Cond.selects RX1 yX1_forget yX1_forget, Cond.code yX1_forget cX1_forget 1 none, Cond.fieldLink RX1 15 "GreatSort$Heap" "size" "I", Cond.methodLink RX5 73 yX4_placeOf, Cond.methodLink RX5 76 yX1_add, Cond.instanceMethod yX1_add, Cond.selects RX1 yX1_add yX1_add, Cond.code yX1_add cX1_add 5 none]
def wsL_law_r13 : List Cond := [Cond.methodLink RX5 80 yX1_takeLeast, Cond.instanceMethod yX1_takeLeast, Cond.selects RX1 yX1_takeLeast yX1_takeLeast, Cond.code yX1_takeLeast cX1_takeLeast 3 (some .long), Cond.methodLink RX1 19 yX1_sink, Cond.instanceMethod yX1_sink, Cond.selects RX1 yX1_sink yX1_sink, Cond.code yX1_sink cX1_sink 7 none, Cond.methodLink RX5 84 yX4_rowOf, Cond.static yX4_rowOf, Cond.code yX4_rowOf cX4_rowOf 2 (some .int), Cond.constantLong RX4 40 (400), Cond.methodLink RX5 64 yX5_select, Cond.instanceMethod yX5_select, Cond.selects RX5 yX5_select yX5_select, Cond.code yX5_select cX5_select 11 none, Cond.methodLink RX5 88 Lib.Math.min.name, Cond.static Lib.Math.min.name, Cond.initialized "java/lang/Math", Cond.code Lib.Math.min.name Lib.Math.min.code 2 (some .int), Cond.constantLong RX5 94 (320001600), Cond.methodLink RX5 96 yX5_begin, Cond.instanceMethod yX5_begin, Cond.selects RX5 yX5_begin yX5_begin]
end
section
abbrev vwCl : List vw_C := [(RX0, TX0, 15), (RX1, TX1, 2), (RX2, TX2, 2), (RX3, TX3, 5), (RX4, TX4, 5), (RX5, TX5, 10), (RX6, TX6, 6), (RX7, TX7, 36)]
/-- cells put at places -/
def sa : va_W → List Nat → va_W → va_W
  | w, i :: is, x :: xs => sa (w.set i x) is xs
  | w, _, _ => w
theorem sa_out {k : Nat} : ∀ (is : List Nat) (w xs : va_W), k ∉ is → (sa w is xs)[k]? = w[k]?
  | [], w, xs, _ => by cases xs <;> rfl
  | i :: is, w, [], _ => rfl
  | i :: is, w, x :: xs, h => by
    have h1 : k ≠ i ∧ k ∉ is := by simpa using h
    show (sa (w.set i x) is xs)[k]? = w[k]?
    rw [sa_out is (w.set i x) xs h1.2, List.getElem?_set_ne (Ne.symm h1.1)]
theorem sa_in {k : Nat} {y : Nat × va_E} : ∀ (is : List Nat) (w xs : va_W) (j : Nat), va_nd is = true → k < w.length → is[j]? = some k → xs[j]? = some y → (sa w is xs)[k]? = some y
  | [], w, xs, j, _, _, h, _ => by simp at h
  | i :: is, w, [], j, _, _, _, h => by simp at h
  | i :: is, w, x :: xs, j, hn, hk, h1, h2 => by
    simp only [va_nd, Bool.and_eq_true, decide_eq_true_eq] at hn
    show (sa (w.set i x) is xs)[k]? = some y
    cases j with
    | zero =>
      rw [List.getElem?_cons_zero] at h1 h2
      have e1 : i = k := Option.some.inj h1
      have e2 : x = y := Option.some.inj h2
      rw [sa_out is (w.set i x) xs (by rw [← e1]; exact hn.1), e1, List.getElem?_set_self hk, e2]
    | succ j =>
      rw [List.getElem?_cons_succ] at h1 h2
      exact sa_in is (w.set i x) xs j hn.2 (by rw [List.length_set]; exact hk) h1 h2
theorem sa_cases {k : Nat} {q : Nat × va_E} (is : List Nat) (w wc xs : va_W) (hC : is.map (fun i => w[i]?) = wc.map some) (hn : va_nd is = true) (ha : xs.map Prod.fst = wc.map Prod.fst) (h : (sa w is xs)[k]? = some q) :
    (k ∉ is ∧ w[k]? = some q) ∨ ∃ (j : Nat) (q0 : Nat × va_E), is[j]? = some k ∧ wc[j]? = some q0 ∧ w[k]? = some q0 ∧ xs[j]? = some q ∧ q0.1 = q.1 := by
  by_cases hk : k ∈ is
  · right
    obtain ⟨j, hj⟩ := List.getElem?_of_mem hk
    have h1 : (is.map (fun i => w[i]?))[j]? = some (w[k]?) := by rw [List.getElem?_map, hj]; rfl
    rw [hC, List.getElem?_map] at h1
    cases hq : wc[j]? with
    | none => rw [hq] at h1; cases h1
    | some q0 =>
      rw [hq] at h1
      have h2 : w[k]? = some q0 := (Option.some.inj h1).symm
      have h3 : (xs.map Prod.fst)[j]? = some q0.1 := by rw [ha, List.getElem?_map, hq]; rfl
      rw [List.getElem?_map] at h3
      cases hx : xs[j]? with
      | none => rw [hx] at h3; cases h3
      | some y =>
        rw [hx] at h3
        have h4 : y.1 = q0.1 := Option.some.inj h3
        have h5 := sa_in is w xs j hn (List.getElem?_eq_some_iff.mp h2).1 hj hx
        rw [h] at h5
        cases h5
        exact ⟨j, q0, hj, hq, h2, hx, h4.symm⟩
  · left
    rw [sa_out is w xs hk] at h
    exact ⟨hk, h⟩
/-- behind a call, each cell at its own place -/
theorem sa_join {A0 : Nat → Prop} {D : va_G} {cl : List vw_C} {ws wc w1 : va_W} {H H1 : Heap} (hP : va_P D cl ws H) (hD : va_D A0 ws) (isC : List Nat) (hC : isC.map (fun i => ws[i]?) = wc.map some) (hn : va_nd isC = true) (ha : w1.map Prod.fst = wc.map Prod.fst)
    (hk : ∀ q : Nat, q < H.size → ¬ va_A wc H.size q → H1[q]? = H[q]?) (hP1 : va_P D cl w1 H1) : va_P D cl (sa ws isC w1) H1 ∧ va_D A0 (sa ws isC w1) := by
  have at' : ∀ (k : Nat) (q : Nat × va_E), wc[k]? = some q → ∃ i, isC[k]? = some i ∧ ws[i]? = some q := by
    intro k q hq
    have h1 : (isC.map (fun i => ws[i]?))[k]? = some (some q) := by rw [hC, List.getElem?_map, hq]; rfl
    rw [List.getElem?_map] at h1
    cases hi : isC[k]? with
    | none => rw [hi] at h1; cases h1
    | some i => rw [hi] at h1; exact ⟨i, rfl, Option.some.inj h1⟩
  have key : ∀ (k : Nat) (q : Nat × va_E), (sa ws isC w1)[k]? = some q → ∃ q0, ws[k]? = some q0 ∧ q0.1 = q.1 := by
    intro k q hq
    rcases sa_cases isC ws wc w1 hC hn ha hq with ⟨-, h⟩ | ⟨j, q0, -, -, h, -, e⟩
    · exact ⟨q, h, rfl⟩
    · exact ⟨q0, h, e⟩
  refine ⟨fun k q hq => ?_, fun i j x y hi hj hxy => ?_, fun k q hq => ?_⟩
  · rcases sa_cases isC ws wc w1 hC hn ha hq with ⟨hnk, h⟩ | ⟨j, q0, -, -, -, h, -⟩
    · refine (hP k q h).kept (hk q.1 (hP k q h).lt (fun z => ?_))
      rcases z with ⟨k2, e, z⟩ | z
      · obtain ⟨i, h3, h4⟩ := at' k2 (q.1, e) z
        have hij := hD.1 k i q (q.1, e) h h4 rfl
        subst hij
        exact hnk (List.mem_of_getElem? h3)
      · exact absurd (hP k q h).lt (by omega)
    · exact hP1 j q h
  · obtain ⟨x0, h1, h2⟩ := key i x hi
    obtain ⟨y0, h3, h4⟩ := key j y hj
    exact hD.1 i j x0 y0 h1 h3 (h2.trans (hxy.trans h4.symm))
  · obtain ⟨q0, h1, h2⟩ := key k q hq
    rw [← h2]
    exact hD.2 k q0 h1
/-- a contract's start: the cells w -/
def cP (D : va_G) (tys : List (ClassId × FieldType)) (av : List Value) (w : va_W) (sz : Nat) : Array Value → State → Prop := va_Pc av (fun U => U.heap.size = sz ∧ va_P D vwCl w U.heap ∧ va_K D vwCl tys U ∧ va_D (fun _ => True) w)
def cB (D : va_G) (w : va_W) (_ : Unit) (t : State) : Prop := va_P D vwCl w t.heap
def CtI (l : Launch) (y : MethodName) (ws : List Cond) (rm : Room) (D : va_G) (tys : List (ClassId × FieldType)) (av : List Value) (w w' : va_W) (r : Int32) : Prop := ∀ sz, Met l y ws rm (cP D tys av w sz) (va_Qi (fun r' _ => r' = r) (cB D w') (va_A w sz)) 0 0 (va_A w sz)
def CtL (l : Launch) (y : MethodName) (ws : List Cond) (rm : Room) (D : va_G) (tys : List (ClassId × FieldType)) (av : List Value) (w w' : va_W) (r : Int64) : Prop := ∀ sz, Met l y ws rm (cP D tys av w sz) (va_Ql (fun r' _ => r' = r) (cB D w') (va_A w sz)) 0 0 (va_A w sz)
def CtV (l : Launch) (y : MethodName) (ws : List Cond) (rm : Room) (D : va_G) (tys : List (ClassId × FieldType)) (av : List Value) (w w' : va_W) : Prop := ∀ sz, Met l y ws rm (cP D tys av w sz) (va_Qv (fun _ => True) (cB D w') (va_A w sz)) 0 0 (va_A w sz)
theorem cP_blind {D : va_G} {tys : List (ClassId × FieldType)} {av : List Value} {w : va_W} {sz : Nat} : FrameBlind (cP D tys av w sz) := fun a U g mk q => by
  obtain ⟨q0, q1, qP, qK, qD⟩ := q
  exact ⟨q0, q1, qP, va_K.moved (u := U) (U := U.calling g mk a) (Vm.Alike.refl U.vm) qK, qD⟩
/-- what stays the same in a walk -/
def Cx (p : Program) (m : MethodId) (c : Code) (cc : ByteArray) (nL : Nat) (s : State) (args : Array Value) (Ts : List Cond) (own : String) (D : va_G) (tys : List (ClassId × FieldType)) (A : Nat → Prop) : Prop := CallFix p m c cc nL s args Ts own ∧ va_K D vwCl tys s ∧ ∀ q : Nat, s.heap.size ≤ q → A q
/-- the world now -/
def Wd (D : va_G) (A : Nat → Prop) (H0 H : Heap) (locs : List Loc) (w : va_W) : Prop := va_P D vwCl w H ∧ va_D A w ∧ va_S A H0 H locs
section BCALL
variable {p : Program} {l : Launch} {e : Env} {R : Room} {s : State} {m : MethodId} {args : Array Value} {below : List Frame} {meth : Method} {c : Code} {H : Heap} {locs : List Loc} {cells slots : Nat} {Q : State → Prop}
variable {cc bytes : ByteArray} {nL pc index maxL n : Nat} {ls : Array Slot} {rest As st0 : List Value} {b : Nat} {y : MethodName} {Ts ws : List Cond} {own C : String} {D : va_G} {tys : List (ClassId × FieldType)} {A : Nat → Prop} {w wc w' : va_W} {rm : Room} {ret : Option FieldType}

theorem clVI {r : Int32} (X : Cx p m c cc nL s args Ts own D tys A) (hM : CtI l y ws rm D tys (.ref b :: As) wc w' r) (cw : CallW R s args own C index y bytes maxL ret ws rm 0 0 n) {ci : Nat} {vc : vw_C} {fs : List Value} (hc : vwCl[ci]? = some vc) (hcC : vc.1 = C) (he : wc[0]? = some (b, .inr (ci, fs))) (hw : Wd D A s.heap H locs w) (isC : List Nat) (hC : isC.map (fun i => w[i]?) = wc.map some) (hn : va_nd isC = true) (ha : w'.map Prod.fst = wc.map Prod.fst) (hlen : As.length = n) (hsize : ls.size = nL) (hst : st0 = As.reverse ++ .ref b :: rest) (hW : (rest.map fun v => v.category).sum ≤ 8) (hdg : decode cc pc = .ok (.invokevirtual index, 3)) (hf : cells ≤ R.cells ∧ slots ≤ R.slots)
    (kk : ∀ (H1 : Heap) (locs1 : List Loc), Wd D A s.heap H1 locs1 (sa w isC w') → W p l e R s m args below meth c H1 locs1 cells slots Q (F0 m (pc + 3) ls (.int r :: rest))) : W p l e R s m args below meth c H locs cells slots Q (F0 m pc ls st0) := by
  obtain ⟨S, hK, hA⟩ := X
  obtain ⟨hP, hD, hS⟩ := hw
  have hPc : va_P D vwCl wc H := fun k q hq => by
    have h1 : (isC.map (fun i => w[i]?))[k]? = some (some q) := by rw [hC, List.getElem?_map, hq]; rfl
    rw [List.getElem?_map] at h1
    cases hi : isC[k]? with
    | none => rw [hi] at h1; cases h1
    | some i => rw [hi] at h1; exact hP i q (Option.some.inj h1)
  have hDc := hD.sub isC hn hC
  have hFc := va_free hD hS hA isC hC
  have hKs := hK
  subst hst
  have hrun := va_runV (l := l) (e := e) (below := below) (meth := meth) (H := H) (locs := locs) (cells := cells) (slots := slots) (g := F0 m pc ls _) (rest := rest) S (hM H.size) cw ⟨cP_blind, (by rw [← hcC]; exact va_recv hKs hPc hc he), fun U hU hWU => ⟨rfl, by rw [hU], by rw [hU]; exact hPc, va_K.moved hWU.alike hK, hDc.weaken (fun _ _ _ _ => trivial)⟩⟩ rfl hlen hsize rfl (lv_room hW) hdg hf
  refine va_calli hrun hS (fun q _ h => hFc q h) hFc (fun r2 u t H1 locs1 ht hvm hpo hB hz1 hk1 hS1 => ?_)
  subst hpo
  have hP1 : va_P D vwCl w' t.heap := hB
  rw [ht] at hP1
  obtain ⟨hP2, hD2⟩ := sa_join hP hD isC hC hn ha hk1 hP1
  exact kk H1 locs1 ⟨hP2, hD2, hS1⟩
theorem clVL {r : Int64} (X : Cx p m c cc nL s args Ts own D tys A) (hM : CtL l y ws rm D tys (.ref b :: As) wc w' r) (cw : CallW R s args own C index y bytes maxL ret ws rm 0 0 n) {ci : Nat} {vc : vw_C} {fs : List Value} (hc : vwCl[ci]? = some vc) (hcC : vc.1 = C) (he : wc[0]? = some (b, .inr (ci, fs))) (hw : Wd D A s.heap H locs w) (isC : List Nat) (hC : isC.map (fun i => w[i]?) = wc.map some) (hn : va_nd isC = true) (ha : w'.map Prod.fst = wc.map Prod.fst) (hlen : As.length = n) (hsize : ls.size = nL) (hst : st0 = As.reverse ++ .ref b :: rest) (hW : (rest.map fun v => v.category).sum ≤ 8) (hdg : decode cc pc = .ok (.invokevirtual index, 3)) (hf : cells ≤ R.cells ∧ slots ≤ R.slots)
    (kk : ∀ (H1 : Heap) (locs1 : List Loc), Wd D A s.heap H1 locs1 (sa w isC w') → W p l e R s m args below meth c H1 locs1 cells slots Q (F0 m (pc + 3) ls (.long r :: rest))) : W p l e R s m args below meth c H locs cells slots Q (F0 m pc ls st0) := by
  obtain ⟨S, hK, hA⟩ := X
  obtain ⟨hP, hD, hS⟩ := hw
  have hPc : va_P D vwCl wc H := fun k q hq => by
    have h1 : (isC.map (fun i => w[i]?))[k]? = some (some q) := by rw [hC, List.getElem?_map, hq]; rfl
    rw [List.getElem?_map] at h1
    cases hi : isC[k]? with
    | none => rw [hi] at h1; cases h1
    | some i => rw [hi] at h1; exact hP i q (Option.some.inj h1)
  have hDc := hD.sub isC hn hC
  have hFc := va_free hD hS hA isC hC
  have hKs := hK
  subst hst
  have hrun := va_runV (l := l) (e := e) (below := below) (meth := meth) (H := H) (locs := locs) (cells := cells) (slots := slots) (g := F0 m pc ls _) (rest := rest) S (hM H.size) cw ⟨cP_blind, (by rw [← hcC]; exact va_recv hKs hPc hc he), fun U hU hWU => ⟨rfl, by rw [hU], by rw [hU]; exact hPc, va_K.moved hWU.alike hK, hDc.weaken (fun _ _ _ _ => trivial)⟩⟩ rfl hlen hsize rfl (lv_room hW) hdg hf
  refine va_calll hrun hS (fun q _ h => hFc q h) hFc (fun r2 u t H1 locs1 ht hvm hpo hB hz1 hk1 hS1 => ?_)
  subst hpo
  have hP1 : va_P D vwCl w' t.heap := hB
  rw [ht] at hP1
  obtain ⟨hP2, hD2⟩ := sa_join hP hD isC hC hn ha hk1 hP1
  exact kk H1 locs1 ⟨hP2, hD2, hS1⟩
theorem clVV  (X : Cx p m c cc nL s args Ts own D tys A) (hM : CtV l y ws rm D tys (.ref b :: As) wc w') (cw : CallW R s args own C index y bytes maxL ret ws rm 0 0 n) {ci : Nat} {vc : vw_C} {fs : List Value} (hc : vwCl[ci]? = some vc) (hcC : vc.1 = C) (he : wc[0]? = some (b, .inr (ci, fs))) (hw : Wd D A s.heap H locs w) (isC : List Nat) (hC : isC.map (fun i => w[i]?) = wc.map some) (hn : va_nd isC = true) (ha : w'.map Prod.fst = wc.map Prod.fst) (hlen : As.length = n) (hsize : ls.size = nL) (hst : st0 = As.reverse ++ .ref b :: rest) (hW : (rest.map fun v => v.category).sum ≤ 8) (hdg : decode cc pc = .ok (.invokevirtual index, 3)) (hf : cells ≤ R.cells ∧ slots ≤ R.slots)
    (kk : ∀ (H1 : Heap) (locs1 : List Loc), Wd D A s.heap H1 locs1 (sa w isC w') → W p l e R s m args below meth c H1 locs1 cells slots Q (F0 m (pc + 3) ls (rest))) : W p l e R s m args below meth c H locs cells slots Q (F0 m pc ls st0) := by
  obtain ⟨S, hK, hA⟩ := X
  obtain ⟨hP, hD, hS⟩ := hw
  have hPc : va_P D vwCl wc H := fun k q hq => by
    have h1 : (isC.map (fun i => w[i]?))[k]? = some (some q) := by rw [hC, List.getElem?_map, hq]; rfl
    rw [List.getElem?_map] at h1
    cases hi : isC[k]? with
    | none => rw [hi] at h1; cases h1
    | some i => rw [hi] at h1; exact hP i q (Option.some.inj h1)
  have hDc := hD.sub isC hn hC
  have hFc := va_free hD hS hA isC hC
  have hKs := hK
  subst hst
  have hrun := va_runV (l := l) (e := e) (below := below) (meth := meth) (H := H) (locs := locs) (cells := cells) (slots := slots) (g := F0 m pc ls _) (rest := rest) S (hM H.size) cw ⟨cP_blind, (by rw [← hcC]; exact va_recv hKs hPc hc he), fun U hU hWU => ⟨rfl, by rw [hU], by rw [hU]; exact hPc, va_K.moved hWU.alike hK, hDc.weaken (fun _ _ _ _ => trivial)⟩⟩ rfl hlen hsize rfl (lv_room hW) hdg hf
  refine va_callv hrun hS (fun q _ h => hFc q h) hFc (fun u t H1 locs1 ht hvm hpo hB hz1 hk1 hS1 => ?_)
  have hP1 : va_P D vwCl w' t.heap := hB
  rw [ht] at hP1
  obtain ⟨hP2, hD2⟩ := sa_join hP hD isC hC hn ha hk1 hP1
  exact kk H1 locs1 ⟨hP2, hD2, hS1⟩
theorem clSI {r : Int32} (X : Cx p m c cc nL s args Ts own D tys A) (hM : CtI l y ws rm D tys As wc w' r) (cw : CallB R s args own index y bytes maxL ret ws rm 0 0 n ∧ (Cond.static y).before args s = true) (hw : Wd D A s.heap H locs w) (isC : List Nat) (hC : isC.map (fun i => w[i]?) = wc.map some) (hn : va_nd isC = true) (ha : w'.map Prod.fst = wc.map Prod.fst) (hlen : As.length = n) (hsize : ls.size = nL) (hst : st0 = As.reverse ++ rest) (hW : (rest.map fun v => v.category).sum ≤ 8) (hdg : decode cc pc = .ok (.invokestatic index, 3)) (hf : cells ≤ R.cells ∧ slots ≤ R.slots)
    (kk : ∀ (H1 : Heap) (locs1 : List Loc), Wd D A s.heap H1 locs1 (sa w isC w') → W p l e R s m args below meth c H1 locs1 cells slots Q (F0 m (pc + 3) ls (.int r :: rest))) : W p l e R s m args below meth c H locs cells slots Q (F0 m pc ls st0) := by
  obtain ⟨S, hK, hA⟩ := X
  obtain ⟨hP, hD, hS⟩ := hw
  have hPc : va_P D vwCl wc H := fun k q hq => by
    have h1 : (isC.map (fun i => w[i]?))[k]? = some (some q) := by rw [hC, List.getElem?_map, hq]; rfl
    rw [List.getElem?_map] at h1
    cases hi : isC[k]? with
    | none => rw [hi] at h1; cases h1
    | some i => rw [hi] at h1; exact hP i q (Option.some.inj h1)
  have hDc := hD.sub isC hn hC
  have hFc := va_free hD hS hA isC hC
  have hKs := hK
  subst hst
  have hrun := va_runS (l := l) (e := e) (below := below) (meth := meth) (H := H) (locs := locs) (cells := cells) (slots := slots) (g := F0 m pc ls _) (rest := rest) S (hM H.size) cw ⟨cP_blind, fun U hU hWU => ⟨rfl, by rw [hU], by rw [hU]; exact hPc, va_K.moved hWU.alike hK, hDc.weaken (fun _ _ _ _ => trivial)⟩⟩ rfl hlen hsize rfl (lv_room hW) hdg hf
  refine va_calli hrun hS (fun q _ h => hFc q h) hFc (fun r2 u t H1 locs1 ht hvm hpo hB hz1 hk1 hS1 => ?_)
  subst hpo
  have hP1 : va_P D vwCl w' t.heap := hB
  rw [ht] at hP1
  obtain ⟨hP2, hD2⟩ := sa_join hP hD isC hC hn ha hk1 hP1
  exact kk H1 locs1 ⟨hP2, hD2, hS1⟩
theorem clSL {r : Int64} (X : Cx p m c cc nL s args Ts own D tys A) (hM : CtL l y ws rm D tys As wc w' r) (cw : CallB R s args own index y bytes maxL ret ws rm 0 0 n ∧ (Cond.static y).before args s = true) (hw : Wd D A s.heap H locs w) (isC : List Nat) (hC : isC.map (fun i => w[i]?) = wc.map some) (hn : va_nd isC = true) (ha : w'.map Prod.fst = wc.map Prod.fst) (hlen : As.length = n) (hsize : ls.size = nL) (hst : st0 = As.reverse ++ rest) (hW : (rest.map fun v => v.category).sum ≤ 8) (hdg : decode cc pc = .ok (.invokestatic index, 3)) (hf : cells ≤ R.cells ∧ slots ≤ R.slots)
    (kk : ∀ (H1 : Heap) (locs1 : List Loc), Wd D A s.heap H1 locs1 (sa w isC w') → W p l e R s m args below meth c H1 locs1 cells slots Q (F0 m (pc + 3) ls (.long r :: rest))) : W p l e R s m args below meth c H locs cells slots Q (F0 m pc ls st0) := by
  obtain ⟨S, hK, hA⟩ := X
  obtain ⟨hP, hD, hS⟩ := hw
  have hPc : va_P D vwCl wc H := fun k q hq => by
    have h1 : (isC.map (fun i => w[i]?))[k]? = some (some q) := by rw [hC, List.getElem?_map, hq]; rfl
    rw [List.getElem?_map] at h1
    cases hi : isC[k]? with
    | none => rw [hi] at h1; cases h1
    | some i => rw [hi] at h1; exact hP i q (Option.some.inj h1)
  have hDc := hD.sub isC hn hC
  have hFc := va_free hD hS hA isC hC
  have hKs := hK
  subst hst
  have hrun := va_runS (l := l) (e := e) (below := below) (meth := meth) (H := H) (locs := locs) (cells := cells) (slots := slots) (g := F0 m pc ls _) (rest := rest) S (hM H.size) cw ⟨cP_blind, fun U hU hWU => ⟨rfl, by rw [hU], by rw [hU]; exact hPc, va_K.moved hWU.alike hK, hDc.weaken (fun _ _ _ _ => trivial)⟩⟩ rfl hlen hsize rfl (lv_room hW) hdg hf
  refine va_calll hrun hS (fun q _ h => hFc q h) hFc (fun r2 u t H1 locs1 ht hvm hpo hB hz1 hk1 hS1 => ?_)
  subst hpo
  have hP1 : va_P D vwCl w' t.heap := hB
  rw [ht] at hP1
  obtain ⟨hP2, hD2⟩ := sa_join hP hD isC hC hn ha hk1 hP1
  exact kk H1 locs1 ⟨hP2, hD2, hS1⟩
theorem clSV  (X : Cx p m c cc nL s args Ts own D tys A) (hM : CtV l y ws rm D tys As wc w') (cw : CallB R s args own index y bytes maxL ret ws rm 0 0 n ∧ (Cond.static y).before args s = true) (hw : Wd D A s.heap H locs w) (isC : List Nat) (hC : isC.map (fun i => w[i]?) = wc.map some) (hn : va_nd isC = true) (ha : w'.map Prod.fst = wc.map Prod.fst) (hlen : As.length = n) (hsize : ls.size = nL) (hst : st0 = As.reverse ++ rest) (hW : (rest.map fun v => v.category).sum ≤ 8) (hdg : decode cc pc = .ok (.invokestatic index, 3)) (hf : cells ≤ R.cells ∧ slots ≤ R.slots)
    (kk : ∀ (H1 : Heap) (locs1 : List Loc), Wd D A s.heap H1 locs1 (sa w isC w') → W p l e R s m args below meth c H1 locs1 cells slots Q (F0 m (pc + 3) ls (rest))) : W p l e R s m args below meth c H locs cells slots Q (F0 m pc ls st0) := by
  obtain ⟨S, hK, hA⟩ := X
  obtain ⟨hP, hD, hS⟩ := hw
  have hPc : va_P D vwCl wc H := fun k q hq => by
    have h1 : (isC.map (fun i => w[i]?))[k]? = some (some q) := by rw [hC, List.getElem?_map, hq]; rfl
    rw [List.getElem?_map] at h1
    cases hi : isC[k]? with
    | none => rw [hi] at h1; cases h1
    | some i => rw [hi] at h1; exact hP i q (Option.some.inj h1)
  have hDc := hD.sub isC hn hC
  have hFc := va_free hD hS hA isC hC
  have hKs := hK
  subst hst
  have hrun := va_runS (l := l) (e := e) (below := below) (meth := meth) (H := H) (locs := locs) (cells := cells) (slots := slots) (g := F0 m pc ls _) (rest := rest) S (hM H.size) cw ⟨cP_blind, fun U hU hWU => ⟨rfl, by rw [hU], by rw [hU]; exact hPc, va_K.moved hWU.alike hK, hDc.weaken (fun _ _ _ _ => trivial)⟩⟩ rfl hlen hsize rfl (lv_room hW) hdg hf
  refine va_callv hrun hS (fun q _ h => hFc q h) hFc (fun u t H1 locs1 ht hvm hpo hB hz1 hk1 hS1 => ?_)
  have hP1 : va_P D vwCl w' t.heap := hB
  rw [ht] at hP1
  obtain ⟨hP2, hD2⟩ := sa_join hP hD isC hC hn ha hk1 hP1
  exact kk H1 locs1 ⟨hP2, hD2, hS1⟩
/-- the ends of a walk -/
theorem endI {v r : Int32} {ty : FieldType} (X : Cx p m c cc nL s args Ts own D tys A) (hr : meth.sig.returnType = some ty) (hnar : narrow ty (.int v) = .int v) (hlocks : meth.locks = false) (hv : v = r) (hw : Wd D A s.heap H locs w) (hdg : decode cc pc = .ok (.ireturn, 1)) : W p l e R s m args below meth c H locs 0 0 (MQ below (va_Qi (fun r' _ => r' = r) (cB D w) A) args s 0 0 A) (F0 m pc ls [.int v]) := by
  obtain ⟨⟨hx, hb, -⟩, -⟩ := X
  obtain ⟨hP, -, hS⟩ := hw
  exact W.zret hx hb hr hnar (fun t ht _ => ⟨⟨v, (), rfl, hv, by show va_P D vwCl w t.heap; rw [ht]; exact hP⟩, hS.F ht⟩) hS.2.2 hdg hlocks
theorem endL {v r : Int64} (X : Cx p m c cc nL s args Ts own D tys A) (hr : meth.sig.returnType = some .long) (hlocks : meth.locks = false) (hv : v = r) (hw : Wd D A s.heap H locs w) (hdg : decode cc pc = .ok (.lreturn, 1)) : W p l e R s m args below meth c H locs 0 0 (MQ below (va_Ql (fun r' _ => r' = r) (cB D w) A) args s 0 0 A) (F0 m pc ls [.long v]) := by
  obtain ⟨⟨hx, hb, -⟩, -⟩ := X
  obtain ⟨hP, -, hS⟩ := hw
  exact W.lret hx hb hr (fun t ht _ => ⟨⟨v, (), rfl, hv, by show va_P D vwCl w t.heap; rw [ht]; exact hP⟩, hS.F ht⟩) hS.2.2 hdg hlocks
theorem endV (X : Cx p m c cc nL s args Ts own D tys A) (hr : meth.sig.returnType = none) (hlocks : meth.locks = false) (hw : Wd D A s.heap H locs w) (hdg : decode cc pc = .ok (.return_, 1)) : W p l e R s m args below meth c H locs 0 0 (MQ below (va_Qv (fun _ => True) (cB D w) A) args s 0 0 A) (F0 m pc ls []) := by
  obtain ⟨⟨hx, hb, -⟩, -⟩ := X
  obtain ⟨hP, -, hS⟩ := hw
  exact W.vret hx hb hr (fun t ht _ => ⟨⟨(), rfl, trivial, by show va_P D vwCl w t.heap; rw [ht]; exact hP⟩, hS.F ht⟩) hS.2.2 hdg hlocks
end BCALL

theorem startI {l : Launch} {y : MethodName} {ws ws' : List Cond} {rm : Room} {D : va_G} {tys : List (ClassId × FieldType)} {av : List Value} {w w' : va_W} {r : Int32} {cc : ByteArray} {maxL : Nat} {rt : Option FieldType} (hy : plainName y.cls = true) (hws : ws = Cond.code y cc maxL rt :: ws') (hlen : (lg_sl av).length ≤ maxL)
    (body : ∀ (p : Program) (e : Env) (s : State) (m : MethodId) (below : List Frame) (meth : Method) (c : Code) (A : Nat → Prop) (ls : Array Slot), Cx p m c cc maxL s av.toArray ws y.cls D tys A → meth.sig.returnType = rt → meth.locks = false → Wd D A s.heap s.heap [] w → lv_has ls maxL (lv_args 0 av) → W p l e rm s m av.toArray below meth c s.heap [] 0 0 (MQ below (va_Qi (fun r' _ => r' = r) (cB D w') A) av.toArray s 0 0 A) (F0 m 0 ls [])) : CtI l y ws rm D tys av w w' r := by
  intro sz
  refine Met.ofW (cc := cc) (maxL := maxL) (ret := rt) hy hws ?_
  intro p e s m args below meth c s₁ B hml hv
  obtain ⟨rfl, hsz, hP, hK, hD0⟩ := hv
  subst hsz
  have hD := hD0.self (sz := s.heap.size)
  have hl := lv_entry av (n := maxL) hlen
  rw [lg_entry_eq]
  exact body p e s m below meth c (va_A w s.heap.size) _ ⟨⟨B.exec, B.bytes, hml, findClass_of_methodNamed B.named, atoms_spec (ws := ws) B.pre⟩, hK, fun q h => Or.inr h⟩ B.returns B.notSynchronized ⟨hP, hD, va_S.rf⟩ hl
theorem startL {l : Launch} {y : MethodName} {ws ws' : List Cond} {rm : Room} {D : va_G} {tys : List (ClassId × FieldType)} {av : List Value} {w w' : va_W} {r : Int64} {cc : ByteArray} {maxL : Nat} {rt : Option FieldType} (hy : plainName y.cls = true) (hws : ws = Cond.code y cc maxL rt :: ws') (hlen : (lg_sl av).length ≤ maxL)
    (body : ∀ (p : Program) (e : Env) (s : State) (m : MethodId) (below : List Frame) (meth : Method) (c : Code) (A : Nat → Prop) (ls : Array Slot), Cx p m c cc maxL s av.toArray ws y.cls D tys A → meth.sig.returnType = rt → meth.locks = false → Wd D A s.heap s.heap [] w → lv_has ls maxL (lv_args 0 av) → W p l e rm s m av.toArray below meth c s.heap [] 0 0 (MQ below (va_Ql (fun r' _ => r' = r) (cB D w') A) av.toArray s 0 0 A) (F0 m 0 ls [])) : CtL l y ws rm D tys av w w' r := by
  intro sz
  refine Met.ofW (cc := cc) (maxL := maxL) (ret := rt) hy hws ?_
  intro p e s m args below meth c s₁ B hml hv
  obtain ⟨rfl, hsz, hP, hK, hD0⟩ := hv
  subst hsz
  have hD := hD0.self (sz := s.heap.size)
  have hl := lv_entry av (n := maxL) hlen
  rw [lg_entry_eq]
  exact body p e s m below meth c (va_A w s.heap.size) _ ⟨⟨B.exec, B.bytes, hml, findClass_of_methodNamed B.named, atoms_spec (ws := ws) B.pre⟩, hK, fun q h => Or.inr h⟩ B.returns B.notSynchronized ⟨hP, hD, va_S.rf⟩ hl
theorem startV {l : Launch} {y : MethodName} {ws ws' : List Cond} {rm : Room} {D : va_G} {tys : List (ClassId × FieldType)} {av : List Value} {w w' : va_W}  {cc : ByteArray} {maxL : Nat} {rt : Option FieldType} (hy : plainName y.cls = true) (hws : ws = Cond.code y cc maxL rt :: ws') (hlen : (lg_sl av).length ≤ maxL)
    (body : ∀ (p : Program) (e : Env) (s : State) (m : MethodId) (below : List Frame) (meth : Method) (c : Code) (A : Nat → Prop) (ls : Array Slot), Cx p m c cc maxL s av.toArray ws y.cls D tys A → meth.sig.returnType = rt → meth.locks = false → Wd D A s.heap s.heap [] w → lv_has ls maxL (lv_args 0 av) → W p l e rm s m av.toArray below meth c s.heap [] 0 0 (MQ below (va_Qv (fun _ => True) (cB D w') A) av.toArray s 0 0 A) (F0 m 0 ls [])) : CtV l y ws rm D tys av w w' := by
  intro sz
  refine Met.ofW (cc := cc) (maxL := maxL) (ret := rt) hy hws ?_
  intro p e s m args below meth c s₁ B hml hv
  obtain ⟨rfl, hsz, hP, hK, hD0⟩ := hv
  subst hsz
  have hD := hD0.self (sz := s.heap.size)
  have hl := lv_entry av (n := maxL) hlen
  rw [lg_entry_eq]
  exact body p e s m below meth c (va_A w s.heap.size) _ ⟨⟨B.exec, B.bytes, hml, findClass_of_methodNamed B.named, atoms_spec (ws := ws) B.pre⟩, hK, fun q h => Or.inr h⟩ B.returns B.notSynchronized ⟨hP, hD, va_S.rf⟩ hl
section BPUT
variable {p : Program} {l : Launch} {e : Env} {R : Room} {s : State} {m : MethodId} {args : Array Value} {below : List Frame} {meth : Method} {c : Code} {H : Heap} {locs : List Loc} {cells slots : Nat} {Q : State → Prop}
variable {cc : ByteArray} {pc nL : Nat} {ls : Array Slot} {rest : List Value} {D : va_G} {A : Nat → Prop} {a : Nat} {tys : List (ClassId × FieldType)} {ws : va_W} {H0 : Heap}
theorem g_put (hexec : p.tables.exec = Jvm.exec) (hb : c.code = cc) {own ref C : String} {T : u_T} {N ci index : Nat} {Ts : List Cond} (hts : ∀ w ∈ Ts, w.before args s = true) (hin : ∀ w ∈ u_ws C T N, w ∈ Ts) (ty0 : Nat → FieldType) (hty : ∀ k, k < N → parseFieldDescriptor (T k).2.2.1 = some (ty0 k)) (hnm : ∀ a, a < N → ∀ b, b < N → a ≠ b → (T a).2.1 ≠ (T b).2.1) (hown : s.vm.findClass own = some m.cls) (hK : va_K D vwCl tys s) (hw : Wd D A H0 H locs ws) (q0 : Nat) {fs : List Value} (he : ws[q0]? = some (a, .inr (ci, fs))) (hc : vwCl[ci]? = some (C, T, N)) (k : Nat) (hk : k < N) (hlink : (Cond.fieldLink own index ref (T k).2.1 (T k).2.2.1).before args s = true) (hsame : ∀ x, s.fieldFound? (T k).1 (T k).2.1 (T k).2.2.1 = some x → s.fieldFound? ref (T k).2.1 (T k).2.2.1 = some x) (hfin : (T k).2.2.2 = false) {ty : FieldType} {v : Value} (hd : parseFieldDescriptor (T k).2.2.1 = some ty) (hn : narrow ty v = v) (hfit : fits ty v = true) (hl : k < fs.length)
    (hdg : decode cc pc = .ok (.putfield index, 3)) (kk : ∀ (H1 : Heap) (locs1 : List Loc), Wd D A H0 H1 locs1 (ws.set q0 (a, .inr (ci, fs.set k v))) → W p l e R s m args below meth c H1 locs1 cells slots Q (F0 m (pc + 3) ls rest)) : W p l e R s m args below meth c H locs cells slots Q (F0 m pc ls (v :: .ref a :: rest)) :=
  va_put hexec hb hts hin ty0 hty hnm hown hK hw.1 hw.2.1 hw.2.2 q0 he hc k hk hlink hsame hfin hd hn hfit hl hdg (fun H1 l1 x y z => kk H1 l1 ⟨x, y, z⟩)
theorem g_iast (hexec : p.tables.exec = Jvm.exec) (hb : c.code = cc) (hK : va_K D vwCl tys s) (hw : Wd D A H0 H locs ws) (q0 t0 : Nat) {cA : ClassId} {n : Nat} {f : Nat → Int32} (ha : ws[q0]? = some (a, .inl (cA, n, .inl f))) (ht : tys[t0]? = some (cA, .int)) {i : Int32} {x : Int32} (hin : vp_in i n) (hdg : decode cc pc = .ok (.iastore, 1))
    (kk : ∀ (H1 : Heap) (locs1 : List Loc), Wd D A H0 H1 locs1 (ws.set q0 (a, .inl (cA, n, .inl (upd f i.toNatClampNeg x)))) → W p l e R s m args below meth c H1 locs1 cells slots Q (F0 m (pc + 1) ls rest)) : W p l e R s m args below meth c H locs cells slots Q (F0 m pc ls (.int x :: .int i :: .ref a :: rest)) :=
  va_iast hexec hb hK hw.1 hw.2.1 hw.2.2 q0 t0 ha ht hin hdg (fun H1 l1 x y z => kk H1 l1 ⟨x, y, z⟩)
theorem g_zast (hexec : p.tables.exec = Jvm.exec) (hb : c.code = cc) (hK : va_K D vwCl tys s) (hw : Wd D A H0 H locs ws) (q0 t0 : Nat) {cA : ClassId} {n : Nat} {f : Nat → Int32} (ha : ws[q0]? = some (a, .inl (cA, n, .inl f))) (ht : tys[t0]? = some (cA, .boolean)) {i : Int32} {x : Int32} (hin : vp_in i n) (hdg : decode cc pc = .ok (.bastore, 1))
    (kk : ∀ (H1 : Heap) (locs1 : List Loc), Wd D A H0 H1 locs1 (ws.set q0 (a, .inl (cA, n, .inl (upd f i.toNatClampNeg (vp_nar .boolean x))))) → W p l e R s m args below meth c H1 locs1 cells slots Q (F0 m (pc + 1) ls rest)) : W p l e R s m args below meth c H locs cells slots Q (F0 m pc ls (.int x :: .int i :: .ref a :: rest)) :=
  va_zast hexec hb hK hw.1 hw.2.1 hw.2.2 q0 t0 ha ht hin hdg (fun H1 l1 x y z => kk H1 l1 ⟨x, y, z⟩)
theorem g_last (hexec : p.tables.exec = Jvm.exec) (hb : c.code = cc) (hK : va_K D vwCl tys s) (hw : Wd D A H0 H locs ws) (q0 t0 : Nat) {cA : ClassId} {n : Nat} {f : Nat → Int64} (ha : ws[q0]? = some (a, .inl (cA, n, .inr (.inl f)))) (ht : tys[t0]? = some (cA, .long)) {i : Int32} {x : Int64} (hin : vp_in i n) (hdg : decode cc pc = .ok (.lastore, 1))
    (kk : ∀ (H1 : Heap) (locs1 : List Loc), Wd D A H0 H1 locs1 (ws.set q0 (a, .inl (cA, n, .inr (.inl (vp_updL f i.toNatClampNeg x))))) → W p l e R s m args below meth c H1 locs1 cells slots Q (F0 m (pc + 1) ls rest)) : W p l e R s m args below meth c H locs cells slots Q (F0 m pc ls (.long x :: .int i :: .ref a :: rest)) :=
  va_last hexec hb hK hw.1 hw.2.1 hw.2.2 q0 t0 ha ht hin hdg (fun H1 l1 x y z => kk H1 l1 ⟨x, y, z⟩)
/-- where ways meet: the rest first, then the ways to it -/
theorem join_ {g : JFrame} (D : va_G) (A : Nat → Prop) (J : Nat) (stk : List Value) (w : va_W) (lv : List (Nat × Value)) (rs : ∀ (H : Heap) (locs : List Loc) (ls : Array Slot), Wd D A s.heap H locs w → lv_has ls nL lv → W p l e R s m args below meth c H locs cells slots Q (F0 m J ls stk)) (br : (∀ (H : Heap) (locs : List Loc) (ls : Array Slot), Wd D A s.heap H locs w → lv_has ls nL lv → W p l e R s m args below meth c H locs cells slots Q (F0 m J ls stk)) → W p l e R s m args below meth c H locs cells slots Q g) : W p l e R s m args below meth c H locs cells slots Q g := br rs
end BPUT
abbrev tyl (cI cJ cZ : ClassId) : List (ClassId × FieldType) := [(cI, .int), (cJ, .long), (cZ, .boolean)]
end
section
theorem dX0_init_0 : decode cX0_init 0 = .ok (.aload_n 0, 1) := by decide +kernel
theorem dX0_init_1 : decode cX0_init 1 = .ok (.invokespecial 3, 3) := by decide +kernel
theorem dX0_init_4 : decode cX0_init 4 = .ok (.aload_n 0, 1) := by decide +kernel
theorem dX0_init_5 : decode cX0_init 5 = .ok (.sipush 400, 3) := by decide +kernel
theorem dX0_init_8 : decode cX0_init 8 = .ok (.newarray .boolean, 2) := by decide +kernel
theorem dX0_init_10 : decode cX0_init 10 = .ok (.putfield 9, 3) := by decide +kernel
theorem dX0_init_13 : decode cX0_init 13 = .ok (.aload_n 0, 1) := by decide +kernel
theorem dX0_init_14 : decode cX0_init 14 = .ok (.sipush 400, 3) := by decide +kernel
theorem dX0_init_17 : decode cX0_init 17 = .ok (.newarray .int, 2) := by decide +kernel
theorem dX0_init_19 : decode cX0_init 19 = .ok (.putfield 15, 3) := by decide +kernel
theorem dX0_init_22 : decode cX0_init 22 = .ok (.aload_n 0, 1) := by decide +kernel
theorem dX0_init_23 : decode cX0_init 23 = .ok (.bipush 8, 2) := by decide +kernel
theorem dX0_init_25 : decode cX0_init 25 = .ok (.newarray .int, 2) := by decide +kernel
theorem dX0_init_27 : decode cX0_init 27 = .ok (.putfield 19, 3) := by decide +kernel
theorem dX0_init_30 : decode cX0_init 30 = .ok (.aload_n 0, 1) := by decide +kernel
theorem dX0_init_31 : decode cX0_init 31 = .ok (.bipush 8, 2) := by decide +kernel
theorem dX0_init_33 : decode cX0_init 33 = .ok (.newarray .int, 2) := by decide +kernel
theorem dX0_init_35 : decode cX0_init 35 = .ok (.putfield 22, 3) := by decide +kernel
theorem dX0_init_38 : decode cX0_init 38 = .ok (.aload_n 0, 1) := by decide +kernel
theorem dX0_init_39 : decode cX0_init 39 = .ok (.bipush 8, 2) := by decide +kernel
theorem dX0_init_41 : decode cX0_init 41 = .ok (.newarray .int, 2) := by decide +kernel
theorem dX0_init_43 : decode cX0_init 43 = .ok (.putfield 25, 3) := by decide +kernel
theorem dX0_init_46 : decode cX0_init 46 = .ok (.aload_n 0, 1) := by decide +kernel
theorem dX0_init_47 : decode cX0_init 47 = .ok (.bipush 8, 2) := by decide +kernel
theorem dX0_init_49 : decode cX0_init 49 = .ok (.newarray .int, 2) := by decide +kernel
theorem dX0_init_51 : decode cX0_init 51 = .ok (.putfield 28, 3) := by decide +kernel
theorem dX0_init_54 : decode cX0_init 54 = .ok (.aload_n 0, 1) := by decide +kernel
theorem dX0_init_55 : decode cX0_init 55 = .ok (.bipush 8, 2) := by decide +kernel
theorem dX0_init_57 : decode cX0_init 57 = .ok (.newarray .int, 2) := by decide +kernel
theorem dX0_init_59 : decode cX0_init 59 = .ok (.putfield 31, 3) := by decide +kernel
theorem dX0_init_62 : decode cX0_init 62 = .ok (.aload_n 0, 1) := by decide +kernel
theorem dX0_init_63 : decode cX0_init 63 = .ok (.bipush 8, 2) := by decide +kernel
theorem dX0_init_65 : decode cX0_init 65 = .ok (.newarray .boolean, 2) := by decide +kernel
theorem dX0_init_67 : decode cX0_init 67 = .ok (.putfield 34, 3) := by decide +kernel
theorem dX0_init_70 : decode cX0_init 70 = .ok (.aload_n 0, 1) := by decide +kernel
theorem dX0_init_71 : decode cX0_init 71 = .ok (.bipush 8, 2) := by decide +kernel
theorem dX0_init_73 : decode cX0_init 73 = .ok (.newarray .int, 2) := by decide +kernel
theorem dX0_init_75 : decode cX0_init 75 = .ok (.putfield 37, 3) := by decide +kernel
theorem dX0_init_78 : decode cX0_init 78 = .ok (.return_, 1) := by decide +kernel
theorem dX0_forget_0 : decode cX0_forget 0 = .ok (.aload_n 0, 1) := by decide +kernel
theorem dX0_forget_1 : decode cX0_forget 1 = .ok (.iconst 0, 1) := by decide +kernel
theorem dX0_forget_2 : decode cX0_forget 2 = .ok (.putfield 40, 3) := by decide +kernel
theorem dX0_forget_5 : decode cX0_forget 5 = .ok (.aload_n 0, 1) := by decide +kernel
theorem dX0_forget_6 : decode cX0_forget 6 = .ok (.iconst 0, 1) := by decide +kernel
theorem dX0_forget_7 : decode cX0_forget 7 = .ok (.putfield 44, 3) := by decide +kernel
theorem dX0_forget_10 : decode cX0_forget 10 = .ok (.aload_n 0, 1) := by decide +kernel
theorem dX0_forget_11 : decode cX0_forget 11 = .ok (.iconst 0, 1) := by decide +kernel
theorem dX0_forget_12 : decode cX0_forget 12 = .ok (.putfield 47, 3) := by decide +kernel
theorem dX0_forget_15 : decode cX0_forget 15 = .ok (.aload_n 0, 1) := by decide +kernel
theorem dX0_forget_16 : decode cX0_forget 16 = .ok (.iconst 0, 1) := by decide +kernel
theorem dX0_forget_17 : decode cX0_forget 17 = .ok (.putfield 50, 3) := by decide +kernel
theorem dX0_forget_20 : decode cX0_forget 20 = .ok (.aload_n 0, 1) := by decide +kernel
theorem dX0_forget_21 : decode cX0_forget 21 = .ok (.iconst 0, 1) := by decide +kernel
theorem dX0_forget_22 : decode cX0_forget 22 = .ok (.putfield 53, 3) := by decide +kernel
theorem dX0_forget_25 : decode cX0_forget 25 = .ok (.aload_n 0, 1) := by decide +kernel
theorem dX0_forget_26 : decode cX0_forget 26 = .ok (.iconst 0, 1) := by decide +kernel
theorem dX0_forget_27 : decode cX0_forget 27 = .ok (.putfield 56, 3) := by decide +kernel
theorem dX0_forget_30 : decode cX0_forget 30 = .ok (.iconst 0, 1) := by decide +kernel
theorem dX0_forget_31 : decode cX0_forget 31 = .ok (.istore_n 1, 1) := by decide +kernel
theorem dX0_forget_32 : decode cX0_forget 32 = .ok (.iload_n 1, 1) := by decide +kernel
theorem dX0_forget_33 : decode cX0_forget 33 = .ok (.bipush 8, 2) := by decide +kernel
theorem dX0_forget_35 : decode cX0_forget 35 = .ok (.if_icmp .ge 16, 3) := by decide +kernel
theorem dX0_forget_38 : decode cX0_forget 38 = .ok (.aload_n 0, 1) := by decide +kernel
theorem dX0_forget_39 : decode cX0_forget 39 = .ok (.getfield 37, 3) := by decide +kernel
theorem dX0_forget_42 : decode cX0_forget 42 = .ok (.iload_n 1, 1) := by decide +kernel
theorem dX0_forget_43 : decode cX0_forget 43 = .ok (.iconst 0, 1) := by decide +kernel
theorem dX0_forget_44 : decode cX0_forget 44 = .ok (.iastore, 1) := by decide +kernel
theorem dX0_forget_45 : decode cX0_forget 45 = .ok (.iinc 1 1, 3) := by decide +kernel
theorem dX0_forget_48 : decode cX0_forget 48 = .ok (.goto (-16), 3) := by decide +kernel
theorem dX0_forget_51 : decode cX0_forget 51 = .ok (.return_, 1) := by decide +kernel
theorem dX0_stands_0 : decode cX0_stands 0 = .ok (.aload_n 0, 1) := by decide +kernel
theorem dX0_stands_1 : decode cX0_stands 1 = .ok (.getfield 40, 3) := by decide +kernel
theorem dX0_stands_4 : decode cX0_stands 4 = .ok (.ifCond .le 7, 3) := by decide +kernel
theorem dX0_stands_7 : decode cX0_stands 7 = .ok (.iconst 1, 1) := by decide +kernel
theorem dX0_stands_8 : decode cX0_stands 8 = .ok (.goto 4, 3) := by decide +kernel
theorem dX0_stands_11 : decode cX0_stands 11 = .ok (.iconst 0, 1) := by decide +kernel
theorem dX0_stands_12 : decode cX0_stands 12 = .ok (.ireturn, 1) := by decide +kernel
set_option maxRecDepth 20000 in
theorem ggX0_makeOf_X0_forget : GoodIn wsX0_makeOf wsX0_forget := goodIn_r _ [11, 1, 2, 3, 12, 13, 14, 15, 63, 64, 65, 66, 67, 68, 69, 70, 71, 72, 73, 74, 75, 76, 77] (by decide +kernel) (by decide +kernel)
set_option maxRecDepth 20000 in
theorem gX0_makeOf_X0_forget : GoodIn wsX0_makeOf (wsV RX0 59 RX0 yX0_forget wsX0_forget) := goodIn_app (goodIn_of _ (by decide +kernel)) ggX0_makeOf_X0_forget
set_option maxRecDepth 20000 in
theorem ggX0_makeOf_X0_takeSamples : GoodIn wsX0_makeOf wsX0_takeSamples := goodIn_r _ [19, 20, 21, 2, 22, 23, 24, 25, 26, 27, 28, 29, 30, 31, 32, 33, 34, 35, 36, 37, 38, 39, 40, 41, 42, 43, 44, 45, 46, 47, 63, 64, 65, 66, 67, 68, 69, 70, 71, 72, 73, 74, 75, 76, 77, 78, 79, 80, 81, 82, 83, 84, 85, 86, 87] (by decide +kernel) (by decide +kernel)
set_option maxRecDepth 20000 in
theorem gX0_makeOf_X0_takeSamples : GoodIn wsX0_makeOf (wsV RX0 62 RX0 yX0_takeSamples wsX0_takeSamples) := goodIn_app (goodIn_of _ (by decide +kernel)) ggX0_makeOf_X0_takeSamples
set_option maxRecDepth 20000 in
theorem ggX0_makeOf_X0_lastStanding : GoodIn wsX0_makeOf wsX0_lastStanding := goodIn_r _ [51, 2, 21, 33, 34, 35, 63, 64, 65, 66, 67, 68, 69, 70, 71, 72, 73, 74, 75, 76, 77] (by decide +kernel) (by decide +kernel)
set_option maxRecDepth 20000 in
theorem gX0_makeOf_X0_lastStanding : GoodIn wsX0_makeOf (wsV RX0 74 RX0 yX0_lastStanding wsX0_lastStanding) := goodIn_app (goodIn_of _ (by decide +kernel)) ggX0_makeOf_X0_lastStanding
set_option maxRecDepth 20000 in
theorem ggX0_makeOf_X5_rowInOrder : GoodIn wsX0_makeOf wsX5_rowInOrder := goodIn_r _ [55, 46, 56, 33, 34, 35, 78, 79, 80, 81, 82, 83, 84, 85, 86, 87] (by decide +kernel) (by decide +kernel)
set_option maxRecDepth 20000 in
theorem gX0_makeOf_X5_rowInOrder : GoodIn wsX0_makeOf (wsV RX0 78 RX5 yX5_rowInOrder wsX5_rowInOrder) := goodIn_app (goodIn_of _ (by decide +kernel)) ggX0_makeOf_X5_rowInOrder
set_option maxRecDepth 20000 in
theorem ggX0_makeOf_X0_beginAnew : GoodIn wsX0_makeOf wsX0_beginAnew := goodIn_r _ [60, 61, 62, 63, 64, 65, 66, 67, 68, 69, 70, 71, 72, 73, 74, 75, 76, 77] (by decide +kernel) (by decide +kernel)
set_option maxRecDepth 20000 in
theorem gX0_makeOf_X0_beginAnew : GoodIn wsX0_makeOf (wsV RX0 81 RX0 yX0_beginAnew wsX0_beginAnew) := goodIn_app (goodIn_of _ (by decide +kernel)) ggX0_makeOf_X0_beginAnew
theorem dX0_makeOf_0 : decode cX0_makeOf 0 = .ok (.aload_n 0, 1) := by decide +kernel
theorem dX0_makeOf_1 : decode cX0_makeOf 1 = .ok (.invokevirtual 59, 3) := by decide +kernel
theorem dX0_makeOf_4 : decode cX0_makeOf 4 = .ok (.iload_n 2, 1) := by decide +kernel
theorem dX0_makeOf_5 : decode cX0_makeOf 5 = .ok (.iconst 1, 1) := by decide +kernel
theorem dX0_makeOf_6 : decode cX0_makeOf 6 = .ok (.if_icmp .lt 14, 3) := by decide +kernel
theorem dX0_makeOf_9 : decode cX0_makeOf 9 = .ok (.iload_n 2, 1) := by decide +kernel
theorem dX0_makeOf_10 : decode cX0_makeOf 10 = .ok (.bipush 8, 2) := by decide +kernel
theorem dX0_makeOf_12 : decode cX0_makeOf 12 = .ok (.if_icmp .gt 8, 3) := by decide +kernel
theorem dX0_makeOf_15 : decode cX0_makeOf 15 = .ok (.iload_n 3, 1) := by decide +kernel
theorem dX0_makeOf_16 : decode cX0_makeOf 16 = .ok (.iconst 1, 1) := by decide +kernel
theorem dX0_makeOf_17 : decode cX0_makeOf 17 = .ok (.if_icmp .ge 4, 3) := by decide +kernel
theorem dX0_makeOf_20 : decode cX0_makeOf 20 = .ok (.return_, 1) := by decide +kernel
theorem dX0_makeOf_21 : decode cX0_makeOf 21 = .ok (.aload_n 0, 1) := by decide +kernel
theorem dX0_makeOf_22 : decode cX0_makeOf 22 = .ok (.aload_n 1, 1) := by decide +kernel
theorem dX0_makeOf_23 : decode cX0_makeOf 23 = .ok (.iload_n 3, 1) := by decide +kernel
theorem dX0_makeOf_24 : decode cX0_makeOf 24 = .ok (.invokevirtual 62, 3) := by decide +kernel
theorem dX0_makeOf_27 : decode cX0_makeOf 27 = .ok (.aload_n 0, 1) := by decide +kernel
theorem dX0_makeOf_28 : decode cX0_makeOf 28 = .ok (.iload_n 2, 1) := by decide +kernel
theorem dX0_makeOf_29 : decode cX0_makeOf 29 = .ok (.putfield 40, 3) := by decide +kernel
theorem dX0_makeOf_32 : decode cX0_makeOf 32 = .ok (.aload_n 0, 1) := by decide +kernel
theorem dX0_makeOf_33 : decode cX0_makeOf 33 = .ok (.iload_n 3, 1) := by decide +kernel
theorem dX0_makeOf_34 : decode cX0_makeOf 34 = .ok (.aload_n 0, 1) := by decide +kernel
theorem dX0_makeOf_35 : decode cX0_makeOf 35 = .ok (.getfield 44, 3) := by decide +kernel
theorem dX0_makeOf_38 : decode cX0_makeOf 38 = .ok (.iload_n 2, 1) := by decide +kernel
theorem dX0_makeOf_39 : decode cX0_makeOf 39 = .ok (.iadd, 1) := by decide +kernel
theorem dX0_makeOf_40 : decode cX0_makeOf 40 = .ok (.iconst 1, 1) := by decide +kernel
theorem dX0_makeOf_41 : decode cX0_makeOf 41 = .ok (.isub, 1) := by decide +kernel
theorem dX0_makeOf_42 : decode cX0_makeOf 42 = .ok (.iload_n 2, 1) := by decide +kernel
theorem dX0_makeOf_43 : decode cX0_makeOf 43 = .ok (.idiv, 1) := by decide +kernel
theorem dX0_makeOf_44 : decode cX0_makeOf 44 = .ok (.imul, 1) := by decide +kernel
theorem dX0_makeOf_45 : decode cX0_makeOf 45 = .ok (.iload_n 3, 1) := by decide +kernel
theorem dX0_makeOf_46 : decode cX0_makeOf 46 = .ok (.iconst 1, 1) := by decide +kernel
theorem dX0_makeOf_47 : decode cX0_makeOf 47 = .ok (.isub, 1) := by decide +kernel
theorem dX0_makeOf_48 : decode cX0_makeOf 48 = .ok (.aload_n 1, 1) := by decide +kernel
theorem dX0_makeOf_49 : decode cX0_makeOf 49 = .ok (.getfield 66, 3) := by decide +kernel
theorem dX0_makeOf_52 : decode cX0_makeOf 52 = .ok (.imul, 1) := by decide +kernel
theorem dX0_makeOf_53 : decode cX0_makeOf 53 = .ok (.iadd, 1) := by decide +kernel
theorem dX0_makeOf_54 : decode cX0_makeOf 54 = .ok (.putfield 47, 3) := by decide +kernel
theorem dX0_makeOf_57 : decode cX0_makeOf 57 = .ok (.iconst 0, 1) := by decide +kernel
theorem dX0_makeOf_58 : decode cX0_makeOf 58 = .ok (.istore 4, 2) := by decide +kernel
theorem dX0_makeOf_60 : decode cX0_makeOf 60 = .ok (.iconst 0, 1) := by decide +kernel
theorem dX0_makeOf_61 : decode cX0_makeOf 61 = .ok (.istore 5, 2) := by decide +kernel
theorem dX0_makeOf_63 : decode cX0_makeOf 63 = .ok (.iload 5, 2) := by decide +kernel
theorem dX0_makeOf_65 : decode cX0_makeOf 65 = .ok (.iload_n 2, 1) := by decide +kernel
theorem dX0_makeOf_66 : decode cX0_makeOf 66 = .ok (.if_icmp .ge 104, 3) := by decide +kernel
theorem dX0_makeOf_69 : decode cX0_makeOf 69 = .ok (.iload 5, 2) := by decide +kernel
theorem dX0_makeOf_71 : decode cX0_makeOf 71 = .ok (.iload_n 2, 1) := by decide +kernel
theorem dX0_makeOf_72 : decode cX0_makeOf 72 = .ok (.iconst 1, 1) := by decide +kernel
theorem dX0_makeOf_73 : decode cX0_makeOf 73 = .ok (.isub, 1) := by decide +kernel
theorem dX0_makeOf_74 : decode cX0_makeOf 74 = .ok (.if_icmp .ne 12, 3) := by decide +kernel
theorem dX0_makeOf_77 : decode cX0_makeOf 77 = .ok (.aload_n 1, 1) := by decide +kernel
theorem dX0_makeOf_78 : decode cX0_makeOf 78 = .ok (.getfield 71, 3) := by decide +kernel
theorem dX0_makeOf_81 : decode cX0_makeOf 81 = .ok (.iconst 1, 1) := by decide +kernel
theorem dX0_makeOf_82 : decode cX0_makeOf 82 = .ok (.isub, 1) := by decide +kernel
theorem dX0_makeOf_83 : decode cX0_makeOf 83 = .ok (.goto 20, 3) := by decide +kernel
theorem dX0_makeOf_86 : decode cX0_makeOf 86 = .ok (.aload_n 0, 1) := by decide +kernel
theorem dX0_makeOf_87 : decode cX0_makeOf 87 = .ok (.iload 5, 2) := by decide +kernel
theorem dX0_makeOf_89 : decode cX0_makeOf 89 = .ok (.iconst 1, 1) := by decide +kernel
theorem dX0_makeOf_90 : decode cX0_makeOf 90 = .ok (.iadd, 1) := by decide +kernel
theorem dX0_makeOf_91 : decode cX0_makeOf 91 = .ok (.aload_n 0, 1) := by decide +kernel
theorem dX0_makeOf_92 : decode cX0_makeOf 92 = .ok (.getfield 44, 3) := by decide +kernel
theorem dX0_makeOf_95 : decode cX0_makeOf 95 = .ok (.imul, 1) := by decide +kernel
theorem dX0_makeOf_96 : decode cX0_makeOf 96 = .ok (.iload_n 2, 1) := by decide +kernel
theorem dX0_makeOf_97 : decode cX0_makeOf 97 = .ok (.idiv, 1) := by decide +kernel
theorem dX0_makeOf_98 : decode cX0_makeOf 98 = .ok (.iconst 1, 1) := by decide +kernel
theorem dX0_makeOf_99 : decode cX0_makeOf 99 = .ok (.isub, 1) := by decide +kernel
theorem dX0_makeOf_100 : decode cX0_makeOf 100 = .ok (.invokevirtual 74, 3) := by decide +kernel
theorem dX0_makeOf_103 : decode cX0_makeOf 103 = .ok (.istore 6, 2) := by decide +kernel
theorem dX0_makeOf_105 : decode cX0_makeOf 105 = .ok (.aload_n 0, 1) := by decide +kernel
theorem dX0_makeOf_106 : decode cX0_makeOf 106 = .ok (.getfield 22, 3) := by decide +kernel
theorem dX0_makeOf_109 : decode cX0_makeOf 109 = .ok (.iload 5, 2) := by decide +kernel
theorem dX0_makeOf_111 : decode cX0_makeOf 111 = .ok (.iload 5, 2) := by decide +kernel
theorem dX0_makeOf_113 : decode cX0_makeOf 113 = .ok (.iload_n 2, 1) := by decide +kernel
theorem dX0_makeOf_114 : decode cX0_makeOf 114 = .ok (.iconst 1, 1) := by decide +kernel
theorem dX0_makeOf_115 : decode cX0_makeOf 115 = .ok (.isub, 1) := by decide +kernel
theorem dX0_makeOf_116 : decode cX0_makeOf 116 = .ok (.if_icmp .ne 7, 3) := by decide +kernel
theorem dX0_makeOf_119 : decode cX0_makeOf 119 = .ok (.iconst (-1), 1) := by decide +kernel
theorem dX0_makeOf_120 : decode cX0_makeOf 120 = .ok (.goto 9, 3) := by decide +kernel
theorem dX0_makeOf_123 : decode cX0_makeOf 123 = .ok (.aload_n 1, 1) := by decide +kernel
theorem dX0_makeOf_124 : decode cX0_makeOf 124 = .ok (.iload 6, 2) := by decide +kernel
theorem dX0_makeOf_126 : decode cX0_makeOf 126 = .ok (.invokevirtual 78, 3) := by decide +kernel
theorem dX0_makeOf_129 : decode cX0_makeOf 129 = .ok (.iastore, 1) := by decide +kernel
theorem dX0_makeOf_130 : decode cX0_makeOf 130 = .ok (.aload_n 0, 1) := by decide +kernel
theorem dX0_makeOf_131 : decode cX0_makeOf 131 = .ok (.getfield 19, 3) := by decide +kernel
theorem dX0_makeOf_134 : decode cX0_makeOf 134 = .ok (.iload 5, 2) := by decide +kernel
theorem dX0_makeOf_136 : decode cX0_makeOf 136 = .ok (.iload 6, 2) := by decide +kernel
theorem dX0_makeOf_138 : decode cX0_makeOf 138 = .ok (.iconst 1, 1) := by decide +kernel
theorem dX0_makeOf_139 : decode cX0_makeOf 139 = .ok (.iadd, 1) := by decide +kernel
theorem dX0_makeOf_140 : decode cX0_makeOf 140 = .ok (.iload 4, 2) := by decide +kernel
theorem dX0_makeOf_142 : decode cX0_makeOf 142 = .ok (.isub, 1) := by decide +kernel
theorem dX0_makeOf_143 : decode cX0_makeOf 143 = .ok (.iastore, 1) := by decide +kernel
theorem dX0_makeOf_144 : decode cX0_makeOf 144 = .ok (.iload 6, 2) := by decide +kernel
theorem dX0_makeOf_146 : decode cX0_makeOf 146 = .ok (.iconst 1, 1) := by decide +kernel
theorem dX0_makeOf_147 : decode cX0_makeOf 147 = .ok (.iadd, 1) := by decide +kernel
theorem dX0_makeOf_148 : decode cX0_makeOf 148 = .ok (.istore 4, 2) := by decide +kernel
theorem dX0_makeOf_150 : decode cX0_makeOf 150 = .ok (.aload_n 0, 1) := by decide +kernel
theorem dX0_makeOf_151 : decode cX0_makeOf 151 = .ok (.getfield 31, 3) := by decide +kernel
theorem dX0_makeOf_154 : decode cX0_makeOf 154 = .ok (.iload 5, 2) := by decide +kernel
theorem dX0_makeOf_156 : decode cX0_makeOf 156 = .ok (.iconst 0, 1) := by decide +kernel
theorem dX0_makeOf_157 : decode cX0_makeOf 157 = .ok (.iastore, 1) := by decide +kernel
theorem dX0_makeOf_158 : decode cX0_makeOf 158 = .ok (.aload_n 0, 1) := by decide +kernel
theorem dX0_makeOf_159 : decode cX0_makeOf 159 = .ok (.iload 5, 2) := by decide +kernel
theorem dX0_makeOf_161 : decode cX0_makeOf 161 = .ok (.invokevirtual 81, 3) := by decide +kernel
theorem dX0_makeOf_164 : decode cX0_makeOf 164 = .ok (.iinc 5 1, 3) := by decide +kernel
theorem dX0_makeOf_167 : decode cX0_makeOf 167 = .ok (.goto (-104), 3) := by decide +kernel
theorem dX0_makeOf_170 : decode cX0_makeOf 170 = .ok (.return_, 1) := by decide +kernel
set_option maxRecDepth 20000 in
theorem ggX0_lastStanding_X6_isIn : GoodIn wsX0_lastStanding wsX6_isIn := goodIn_r _ [5] (by decide +kernel) (by decide +kernel)
set_option maxRecDepth 20000 in
theorem gX0_lastStanding_X6_isIn_n85 : GoodIn wsX0_lastStanding (wsX6_isIn) := ggX0_lastStanding_X6_isIn
theorem dX0_lastStanding_0 : decode cX0_lastStanding 0 = .ok (.iload_n 1, 1) := by decide +kernel
theorem dX0_lastStanding_1 : decode cX0_lastStanding 1 = .ok (.iconst 0, 1) := by decide +kernel
theorem dX0_lastStanding_2 : decode cX0_lastStanding 2 = .ok (.aload_n 0, 1) := by decide +kernel
theorem dX0_lastStanding_3 : decode cX0_lastStanding 3 = .ok (.getfield 44, 3) := by decide +kernel
theorem dX0_lastStanding_6 : decode cX0_lastStanding 6 = .ok (.iconst 1, 1) := by decide +kernel
theorem dX0_lastStanding_7 : decode cX0_lastStanding 7 = .ok (.isub, 1) := by decide +kernel
theorem dX0_lastStanding_8 : decode cX0_lastStanding 8 = .ok (.invokestatic 85, 3) := by decide +kernel
theorem dX0_lastStanding_11 : decode cX0_lastStanding 11 = .ok (.ifCond .eq 12, 3) := by decide +kernel
theorem dX0_lastStanding_14 : decode cX0_lastStanding 14 = .ok (.aload_n 0, 1) := by decide +kernel
theorem dX0_lastStanding_15 : decode cX0_lastStanding 15 = .ok (.getfield 15, 3) := by decide +kernel
theorem dX0_lastStanding_18 : decode cX0_lastStanding 18 = .ok (.iload_n 1, 1) := by decide +kernel
theorem dX0_lastStanding_19 : decode cX0_lastStanding 19 = .ok (.iaload, 1) := by decide +kernel
theorem dX0_lastStanding_20 : decode cX0_lastStanding 20 = .ok (.goto 4, 3) := by decide +kernel
theorem dX0_lastStanding_23 : decode cX0_lastStanding 23 = .ok (.iconst (-1), 1) := by decide +kernel
theorem dX0_lastStanding_24 : decode cX0_lastStanding 24 = .ok (.ireturn, 1) := by decide +kernel
set_option maxRecDepth 20000 in
theorem ggX0_takeSamples_X5_sizeOf : GoodIn wsX0_takeSamples wsX5_sizeOf := goodIn_r _ [8, 9, 10, 11, 12, 7, 13, 14, 15, 16, 17, 45, 46, 47, 48, 49, 50, 51, 52, 53, 54] (by decide +kernel) (by decide +kernel)
set_option maxRecDepth 20000 in
theorem gX0_takeSamples_X5_sizeOf : GoodIn wsX0_takeSamples (wsV RX0 89 RX5 yX5_sizeOf wsX5_sizeOf) := goodIn_app (goodIn_of _ (by decide +kernel)) ggX0_takeSamples_X5_sizeOf
set_option maxRecDepth 20000 in
theorem ggX0_takeSamples_X5_rowIn : GoodIn wsX0_takeSamples wsX5_rowIn := goodIn_r _ [21, 22, 9, 23, 5, 6, 7, 8, 10, 11, 12, 13, 14, 15, 16, 17, 45, 46, 47, 48, 49, 50, 51, 52, 53, 54] (by decide +kernel) (by decide +kernel)
set_option maxRecDepth 20000 in
theorem gX0_takeSamples_X5_rowIn : GoodIn wsX0_takeSamples (wsV RX0 92 RX5 yX5_rowIn wsX5_rowIn) := goodIn_app (goodIn_of _ (by decide +kernel)) ggX0_takeSamples_X5_rowIn
set_option maxRecDepth 20000 in
theorem ggX0_takeSamples_X5_standingOf : GoodIn wsX0_takeSamples wsX5_standingOf := goodIn_r _ [27, 28, 29, 15, 16, 17, 45, 46, 47, 48, 49, 50, 51, 52, 53, 54] (by decide +kernel) (by decide +kernel)
set_option maxRecDepth 20000 in
theorem gX0_takeSamples_X5_standingOf : GoodIn wsX0_takeSamples (wsV RX0 96 RX5 yX5_standingOf wsX5_standingOf) := goodIn_app (goodIn_of _ (by decide +kernel)) ggX0_takeSamples_X5_standingOf
theorem dX0_takeSamples_0 : decode cX0_takeSamples 0 = .ok (.iconst 0, 1) := by decide +kernel
theorem dX0_takeSamples_1 : decode cX0_takeSamples 1 = .ok (.istore_n 3, 1) := by decide +kernel
theorem dX0_takeSamples_2 : decode cX0_takeSamples 2 = .ok (.iload_n 3, 1) := by decide +kernel
theorem dX0_takeSamples_3 : decode cX0_takeSamples 3 = .ok (.sipush 400, 3) := by decide +kernel
theorem dX0_takeSamples_6 : decode cX0_takeSamples 6 = .ok (.if_icmp .ge 16, 3) := by decide +kernel
theorem dX0_takeSamples_9 : decode cX0_takeSamples 9 = .ok (.aload_n 0, 1) := by decide +kernel
theorem dX0_takeSamples_10 : decode cX0_takeSamples 10 = .ok (.getfield 9, 3) := by decide +kernel
theorem dX0_takeSamples_13 : decode cX0_takeSamples 13 = .ok (.iload_n 3, 1) := by decide +kernel
theorem dX0_takeSamples_14 : decode cX0_takeSamples 14 = .ok (.iconst 0, 1) := by decide +kernel
theorem dX0_takeSamples_15 : decode cX0_takeSamples 15 = .ok (.bastore, 1) := by decide +kernel
theorem dX0_takeSamples_16 : decode cX0_takeSamples 16 = .ok (.iinc 3 1, 3) := by decide +kernel
theorem dX0_takeSamples_19 : decode cX0_takeSamples 19 = .ok (.goto (-17), 3) := by decide +kernel
theorem dX0_takeSamples_22 : decode cX0_takeSamples 22 = .ok (.iconst 0, 1) := by decide +kernel
theorem dX0_takeSamples_23 : decode cX0_takeSamples 23 = .ok (.istore_n 3, 1) := by decide +kernel
theorem dX0_takeSamples_24 : decode cX0_takeSamples 24 = .ok (.iload_n 3, 1) := by decide +kernel
theorem dX0_takeSamples_25 : decode cX0_takeSamples 25 = .ok (.aload_n 1, 1) := by decide +kernel
theorem dX0_takeSamples_26 : decode cX0_takeSamples 26 = .ok (.getfield 66, 3) := by decide +kernel
theorem dX0_takeSamples_29 : decode cX0_takeSamples 29 = .ok (.if_icmp .ge 64, 3) := by decide +kernel
theorem dX0_takeSamples_32 : decode cX0_takeSamples 32 = .ok (.aload_n 1, 1) := by decide +kernel
theorem dX0_takeSamples_33 : decode cX0_takeSamples 33 = .ok (.iload_n 3, 1) := by decide +kernel
theorem dX0_takeSamples_34 : decode cX0_takeSamples 34 = .ok (.invokevirtual 89, 3) := by decide +kernel
theorem dX0_takeSamples_37 : decode cX0_takeSamples 37 = .ok (.istore 4, 2) := by decide +kernel
theorem dX0_takeSamples_39 : decode cX0_takeSamples 39 = .ok (.iload_n 2, 1) := by decide +kernel
theorem dX0_takeSamples_40 : decode cX0_takeSamples 40 = .ok (.iconst 1, 1) := by decide +kernel
theorem dX0_takeSamples_41 : decode cX0_takeSamples 41 = .ok (.isub, 1) := by decide +kernel
theorem dX0_takeSamples_42 : decode cX0_takeSamples 42 = .ok (.istore 5, 2) := by decide +kernel
theorem dX0_takeSamples_44 : decode cX0_takeSamples 44 = .ok (.iload 5, 2) := by decide +kernel
theorem dX0_takeSamples_46 : decode cX0_takeSamples 46 = .ok (.iload 4, 2) := by decide +kernel
theorem dX0_takeSamples_48 : decode cX0_takeSamples 48 = .ok (.if_icmp .ge 39, 3) := by decide +kernel
theorem dX0_takeSamples_51 : decode cX0_takeSamples 51 = .ok (.aload_n 1, 1) := by decide +kernel
theorem dX0_takeSamples_52 : decode cX0_takeSamples 52 = .ok (.aload_n 1, 1) := by decide +kernel
theorem dX0_takeSamples_53 : decode cX0_takeSamples 53 = .ok (.iload_n 3, 1) := by decide +kernel
theorem dX0_takeSamples_54 : decode cX0_takeSamples 54 = .ok (.iload 5, 2) := by decide +kernel
theorem dX0_takeSamples_56 : decode cX0_takeSamples 56 = .ok (.invokevirtual 92, 3) := by decide +kernel
theorem dX0_takeSamples_59 : decode cX0_takeSamples 59 = .ok (.invokevirtual 96, 3) := by decide +kernel
theorem dX0_takeSamples_62 : decode cX0_takeSamples 62 = .ok (.istore 6, 2) := by decide +kernel
theorem dX0_takeSamples_64 : decode cX0_takeSamples 64 = .ok (.iload 6, 2) := by decide +kernel
theorem dX0_takeSamples_66 : decode cX0_takeSamples 66 = .ok (.iconst (-1), 1) := by decide +kernel
theorem dX0_takeSamples_67 : decode cX0_takeSamples 67 = .ok (.if_icmp .eq 11, 3) := by decide +kernel
theorem dX0_takeSamples_70 : decode cX0_takeSamples 70 = .ok (.aload_n 0, 1) := by decide +kernel
theorem dX0_takeSamples_71 : decode cX0_takeSamples 71 = .ok (.getfield 9, 3) := by decide +kernel
theorem dX0_takeSamples_74 : decode cX0_takeSamples 74 = .ok (.iload 6, 2) := by decide +kernel
theorem dX0_takeSamples_76 : decode cX0_takeSamples 76 = .ok (.iconst 1, 1) := by decide +kernel
theorem dX0_takeSamples_77 : decode cX0_takeSamples 77 = .ok (.bastore, 1) := by decide +kernel
theorem dX0_takeSamples_78 : decode cX0_takeSamples 78 = .ok (.iload 5, 2) := by decide +kernel
theorem dX0_takeSamples_80 : decode cX0_takeSamples 80 = .ok (.iload_n 2, 1) := by decide +kernel
theorem dX0_takeSamples_81 : decode cX0_takeSamples 81 = .ok (.iadd, 1) := by decide +kernel
theorem dX0_takeSamples_82 : decode cX0_takeSamples 82 = .ok (.istore 5, 2) := by decide +kernel
theorem dX0_takeSamples_84 : decode cX0_takeSamples 84 = .ok (.goto (-40), 3) := by decide +kernel
theorem dX0_takeSamples_87 : decode cX0_takeSamples 87 = .ok (.iinc 3 1, 3) := by decide +kernel
theorem dX0_takeSamples_90 : decode cX0_takeSamples 90 = .ok (.goto (-66), 3) := by decide +kernel
theorem dX0_takeSamples_93 : decode cX0_takeSamples 93 = .ok (.iconst 0, 1) := by decide +kernel
theorem dX0_takeSamples_94 : decode cX0_takeSamples 94 = .ok (.istore_n 3, 1) := by decide +kernel
theorem dX0_takeSamples_95 : decode cX0_takeSamples 95 = .ok (.iload_n 3, 1) := by decide +kernel
theorem dX0_takeSamples_96 : decode cX0_takeSamples 96 = .ok (.sipush 400, 3) := by decide +kernel
theorem dX0_takeSamples_99 : decode cX0_takeSamples 99 = .ok (.if_icmp .ge 38, 3) := by decide +kernel
theorem dX0_takeSamples_102 : decode cX0_takeSamples 102 = .ok (.aload_n 0, 1) := by decide +kernel
theorem dX0_takeSamples_103 : decode cX0_takeSamples 103 = .ok (.getfield 9, 3) := by decide +kernel
theorem dX0_takeSamples_106 : decode cX0_takeSamples 106 = .ok (.iload_n 3, 1) := by decide +kernel
theorem dX0_takeSamples_107 : decode cX0_takeSamples 107 = .ok (.baload, 1) := by decide +kernel
theorem dX0_takeSamples_108 : decode cX0_takeSamples 108 = .ok (.ifCond .eq 23, 3) := by decide +kernel
theorem dX0_takeSamples_111 : decode cX0_takeSamples 111 = .ok (.aload_n 0, 1) := by decide +kernel
theorem dX0_takeSamples_112 : decode cX0_takeSamples 112 = .ok (.getfield 15, 3) := by decide +kernel
theorem dX0_takeSamples_115 : decode cX0_takeSamples 115 = .ok (.aload_n 0, 1) := by decide +kernel
theorem dX0_takeSamples_116 : decode cX0_takeSamples 116 = .ok (.getfield 44, 3) := by decide +kernel
theorem dX0_takeSamples_119 : decode cX0_takeSamples 119 = .ok (.iload_n 3, 1) := by decide +kernel
theorem dX0_takeSamples_120 : decode cX0_takeSamples 120 = .ok (.iastore, 1) := by decide +kernel
theorem dX0_takeSamples_121 : decode cX0_takeSamples 121 = .ok (.aload_n 0, 1) := by decide +kernel
theorem dX0_takeSamples_122 : decode cX0_takeSamples 122 = .ok (.dup, 1) := by decide +kernel
theorem dX0_takeSamples_123 : decode cX0_takeSamples 123 = .ok (.getfield 44, 3) := by decide +kernel
theorem dX0_takeSamples_126 : decode cX0_takeSamples 126 = .ok (.iconst 1, 1) := by decide +kernel
theorem dX0_takeSamples_127 : decode cX0_takeSamples 127 = .ok (.iadd, 1) := by decide +kernel
theorem dX0_takeSamples_128 : decode cX0_takeSamples 128 = .ok (.putfield 44, 3) := by decide +kernel
theorem dX0_takeSamples_131 : decode cX0_takeSamples 131 = .ok (.iinc 3 1, 3) := by decide +kernel
theorem dX0_takeSamples_134 : decode cX0_takeSamples 134 = .ok (.goto (-39), 3) := by decide +kernel
theorem dX0_takeSamples_137 : decode cX0_takeSamples 137 = .ok (.return_, 1) := by decide +kernel
set_option maxRecDepth 20000 in
theorem ggX0_layOn_X0_moveFrom : GoodIn wsX0_layOn wsX0_moveFrom := goodIn_r _ [7, 1, 2, 8, 9, 10, 6, 11, 12, 13, 14, 15, 16, 17, 18, 19, 20, 21, 22, 23, 24, 25, 26, 27, 28, 29, 30, 31, 32, 33, 34, 35, 36, 37, 38, 39] (by decide +kernel) (by decide +kernel)
set_option maxRecDepth 20000 in
theorem gX0_layOn_X0_moveFrom : GoodIn wsX0_layOn (wsV RX0 104 RX0 yX0_moveFrom wsX0_moveFrom) := goodIn_app (goodIn_of _ (by decide +kernel)) ggX0_layOn_X0_moveFrom
theorem dX0_layOn_0 : decode cX0_layOn 0 = .ok (.iconst 0, 1) := by decide +kernel
theorem dX0_layOn_1 : decode cX0_layOn 1 = .ok (.istore_n 2, 1) := by decide +kernel
theorem dX0_layOn_2 : decode cX0_layOn 2 = .ok (.iload_n 2, 1) := by decide +kernel
theorem dX0_layOn_3 : decode cX0_layOn 3 = .ok (.aload_n 0, 1) := by decide +kernel
theorem dX0_layOn_4 : decode cX0_layOn 4 = .ok (.getfield 40, 3) := by decide +kernel
theorem dX0_layOn_7 : decode cX0_layOn 7 = .ok (.if_icmp .ge 16, 3) := by decide +kernel
theorem dX0_layOn_10 : decode cX0_layOn 10 = .ok (.aload_n 0, 1) := by decide +kernel
theorem dX0_layOn_11 : decode cX0_layOn 11 = .ok (.getfield 25, 3) := by decide +kernel
theorem dX0_layOn_14 : decode cX0_layOn 14 = .ok (.iload_n 2, 1) := by decide +kernel
theorem dX0_layOn_15 : decode cX0_layOn 15 = .ok (.iload_n 2, 1) := by decide +kernel
theorem dX0_layOn_16 : decode cX0_layOn 16 = .ok (.iastore, 1) := by decide +kernel
theorem dX0_layOn_17 : decode cX0_layOn 17 = .ok (.iinc 2 1, 3) := by decide +kernel
theorem dX0_layOn_20 : decode cX0_layOn 20 = .ok (.goto (-18), 3) := by decide +kernel
theorem dX0_layOn_23 : decode cX0_layOn 23 = .ok (.iconst 0, 1) := by decide +kernel
theorem dX0_layOn_24 : decode cX0_layOn 24 = .ok (.istore_n 2, 1) := by decide +kernel
theorem dX0_layOn_25 : decode cX0_layOn 25 = .ok (.iload_n 2, 1) := by decide +kernel
theorem dX0_layOn_26 : decode cX0_layOn 26 = .ok (.bipush 8, 2) := by decide +kernel
theorem dX0_layOn_28 : decode cX0_layOn 28 = .ok (.if_icmp .ge 25, 3) := by decide +kernel
theorem dX0_layOn_31 : decode cX0_layOn 31 = .ok (.aload_n 1, 1) := by decide +kernel
theorem dX0_layOn_32 : decode cX0_layOn 32 = .ok (.getfield 99, 3) := by decide +kernel
theorem dX0_layOn_35 : decode cX0_layOn 35 = .ok (.iload_n 2, 1) := by decide +kernel
theorem dX0_layOn_36 : decode cX0_layOn 36 = .ok (.baload, 1) := by decide +kernel
theorem dX0_layOn_37 : decode cX0_layOn 37 = .ok (.ifCond .ne 10, 3) := by decide +kernel
theorem dX0_layOn_40 : decode cX0_layOn 40 = .ok (.aload_n 0, 1) := by decide +kernel
theorem dX0_layOn_41 : decode cX0_layOn 41 = .ok (.iload_n 2, 1) := by decide +kernel
theorem dX0_layOn_42 : decode cX0_layOn 42 = .ok (.aload_n 1, 1) := by decide +kernel
theorem dX0_layOn_43 : decode cX0_layOn 43 = .ok (.invokevirtual 104, 3) := by decide +kernel
theorem dX0_layOn_46 : decode cX0_layOn 46 = .ok (.pop, 1) := by decide +kernel
theorem dX0_layOn_47 : decode cX0_layOn 47 = .ok (.iinc 2 1, 3) := by decide +kernel
theorem dX0_layOn_50 : decode cX0_layOn 50 = .ok (.goto (-25), 3) := by decide +kernel
theorem dX0_layOn_53 : decode cX0_layOn 53 = .ok (.return_, 1) := by decide +kernel
set_option maxRecDepth 20000 in
theorem ggX0_moveFrom_X0_beginAnew : GoodIn wsX0_moveFrom wsX0_beginAnew := goodIn_r _ [7, 8, 9, 19, 20, 21, 22, 23, 24, 25, 26, 27, 28, 29, 30, 31, 32, 33] (by decide +kernel) (by decide +kernel)
set_option maxRecDepth 20000 in
theorem gX0_moveFrom_X0_beginAnew : GoodIn wsX0_moveFrom (wsV RX0 81 RX0 yX0_beginAnew wsX0_beginAnew) := goodIn_app (goodIn_of _ (by decide +kernel)) ggX0_moveFrom_X0_beginAnew
set_option maxRecDepth 20000 in
theorem ggX0_moveFrom_X0_leastLaden : GoodIn wsX0_moveFrom wsX0_leastLaden := goodIn_r _ [13, 14, 15, 16, 6, 17, 1, 2, 18, 8, 34, 35, 19, 20, 21, 22, 23, 24, 25, 26, 27, 28, 29, 30, 31, 32, 33] (by decide +kernel) (by decide +kernel)
set_option maxRecDepth 20000 in
theorem gX0_moveFrom_X0_leastLaden : GoodIn wsX0_moveFrom (wsV RX0 108 RX0 yX0_leastLaden wsX0_leastLaden) := goodIn_app (goodIn_of _ (by decide +kernel)) ggX0_moveFrom_X0_leastLaden
theorem dX0_moveFrom_0 : decode cX0_moveFrom 0 = .ok (.iconst 0, 1) := by decide +kernel
theorem dX0_moveFrom_1 : decode cX0_moveFrom 1 = .ok (.istore_n 3, 1) := by decide +kernel
theorem dX0_moveFrom_2 : decode cX0_moveFrom 2 = .ok (.iconst 0, 1) := by decide +kernel
theorem dX0_moveFrom_3 : decode cX0_moveFrom 3 = .ok (.istore 4, 2) := by decide +kernel
theorem dX0_moveFrom_5 : decode cX0_moveFrom 5 = .ok (.iload 4, 2) := by decide +kernel
theorem dX0_moveFrom_7 : decode cX0_moveFrom 7 = .ok (.aload_n 0, 1) := by decide +kernel
theorem dX0_moveFrom_8 : decode cX0_moveFrom 8 = .ok (.getfield 40, 3) := by decide +kernel
theorem dX0_moveFrom_11 : decode cX0_moveFrom 11 = .ok (.if_icmp .ge 41, 3) := by decide +kernel
theorem dX0_moveFrom_14 : decode cX0_moveFrom 14 = .ok (.aload_n 0, 1) := by decide +kernel
theorem dX0_moveFrom_15 : decode cX0_moveFrom 15 = .ok (.getfield 25, 3) := by decide +kernel
theorem dX0_moveFrom_18 : decode cX0_moveFrom 18 = .ok (.iload 4, 2) := by decide +kernel
theorem dX0_moveFrom_20 : decode cX0_moveFrom 20 = .ok (.iaload, 1) := by decide +kernel
theorem dX0_moveFrom_21 : decode cX0_moveFrom 21 = .ok (.iload_n 1, 1) := by decide +kernel
theorem dX0_moveFrom_22 : decode cX0_moveFrom 22 = .ok (.if_icmp .ne 24, 3) := by decide +kernel
theorem dX0_moveFrom_25 : decode cX0_moveFrom 25 = .ok (.aload_n 0, 1) := by decide +kernel
theorem dX0_moveFrom_26 : decode cX0_moveFrom 26 = .ok (.iload 4, 2) := by decide +kernel
theorem dX0_moveFrom_28 : decode cX0_moveFrom 28 = .ok (.invokevirtual 81, 3) := by decide +kernel
theorem dX0_moveFrom_31 : decode cX0_moveFrom 31 = .ok (.aload_n 0, 1) := by decide +kernel
theorem dX0_moveFrom_32 : decode cX0_moveFrom 32 = .ok (.getfield 25, 3) := by decide +kernel
theorem dX0_moveFrom_35 : decode cX0_moveFrom 35 = .ok (.iload 4, 2) := by decide +kernel
theorem dX0_moveFrom_37 : decode cX0_moveFrom 37 = .ok (.aload_n 0, 1) := by decide +kernel
theorem dX0_moveFrom_38 : decode cX0_moveFrom 38 = .ok (.aload_n 2, 1) := by decide +kernel
theorem dX0_moveFrom_39 : decode cX0_moveFrom 39 = .ok (.invokevirtual 108, 3) := by decide +kernel
theorem dX0_moveFrom_42 : decode cX0_moveFrom 42 = .ok (.iastore, 1) := by decide +kernel
theorem dX0_moveFrom_43 : decode cX0_moveFrom 43 = .ok (.iinc 3 1, 3) := by decide +kernel
theorem dX0_moveFrom_46 : decode cX0_moveFrom 46 = .ok (.iinc 4 1, 3) := by decide +kernel
theorem dX0_moveFrom_49 : decode cX0_moveFrom 49 = .ok (.goto (-44), 3) := by decide +kernel
theorem dX0_moveFrom_52 : decode cX0_moveFrom 52 = .ok (.iload_n 3, 1) := by decide +kernel
theorem dX0_moveFrom_53 : decode cX0_moveFrom 53 = .ok (.ireturn, 1) := by decide +kernel
theorem dX0_bringTo_0 : decode cX0_bringTo 0 = .ok (.iconst 0, 1) := by decide +kernel
theorem dX0_bringTo_1 : decode cX0_bringTo 1 = .ok (.istore_n 2, 1) := by decide +kernel
theorem dX0_bringTo_2 : decode cX0_bringTo 2 = .ok (.iconst 0, 1) := by decide +kernel
theorem dX0_bringTo_3 : decode cX0_bringTo 3 = .ok (.istore_n 3, 1) := by decide +kernel
theorem dX0_bringTo_4 : decode cX0_bringTo 4 = .ok (.iload_n 3, 1) := by decide +kernel
theorem dX0_bringTo_5 : decode cX0_bringTo 5 = .ok (.aload_n 0, 1) := by decide +kernel
theorem dX0_bringTo_6 : decode cX0_bringTo 6 = .ok (.getfield 40, 3) := by decide +kernel
theorem dX0_bringTo_9 : decode cX0_bringTo 9 = .ok (.if_icmp .ge 29, 3) := by decide +kernel
theorem dX0_bringTo_12 : decode cX0_bringTo 12 = .ok (.aload_n 0, 1) := by decide +kernel
theorem dX0_bringTo_13 : decode cX0_bringTo 13 = .ok (.getfield 25, 3) := by decide +kernel
theorem dX0_bringTo_16 : decode cX0_bringTo 16 = .ok (.iload_n 3, 1) := by decide +kernel
theorem dX0_bringTo_17 : decode cX0_bringTo 17 = .ok (.iaload, 1) := by decide +kernel
theorem dX0_bringTo_18 : decode cX0_bringTo 18 = .ok (.iconst (-1), 1) := by decide +kernel
theorem dX0_bringTo_19 : decode cX0_bringTo 19 = .ok (.if_icmp .ne 13, 3) := by decide +kernel
theorem dX0_bringTo_22 : decode cX0_bringTo 22 = .ok (.aload_n 0, 1) := by decide +kernel
theorem dX0_bringTo_23 : decode cX0_bringTo 23 = .ok (.getfield 25, 3) := by decide +kernel
theorem dX0_bringTo_26 : decode cX0_bringTo 26 = .ok (.iload_n 3, 1) := by decide +kernel
theorem dX0_bringTo_27 : decode cX0_bringTo 27 = .ok (.iload_n 1, 1) := by decide +kernel
theorem dX0_bringTo_28 : decode cX0_bringTo 28 = .ok (.iastore, 1) := by decide +kernel
theorem dX0_bringTo_29 : decode cX0_bringTo 29 = .ok (.iinc 2 1, 3) := by decide +kernel
theorem dX0_bringTo_32 : decode cX0_bringTo 32 = .ok (.iinc 3 1, 3) := by decide +kernel
theorem dX0_bringTo_35 : decode cX0_bringTo 35 = .ok (.goto (-31), 3) := by decide +kernel
theorem dX0_bringTo_38 : decode cX0_bringTo 38 = .ok (.iload_n 2, 1) := by decide +kernel
theorem dX0_bringTo_39 : decode cX0_bringTo 39 = .ok (.ireturn, 1) := by decide +kernel
theorem dX0_beginAnew_0 : decode cX0_beginAnew 0 = .ok (.aload_n 0, 1) := by decide +kernel
theorem dX0_beginAnew_1 : decode cX0_beginAnew 1 = .ok (.getfield 28, 3) := by decide +kernel
theorem dX0_beginAnew_4 : decode cX0_beginAnew 4 = .ok (.iload_n 1, 1) := by decide +kernel
theorem dX0_beginAnew_5 : decode cX0_beginAnew 5 = .ok (.iconst 0, 1) := by decide +kernel
theorem dX0_beginAnew_6 : decode cX0_beginAnew 6 = .ok (.iastore, 1) := by decide +kernel
theorem dX0_beginAnew_7 : decode cX0_beginAnew 7 = .ok (.aload_n 0, 1) := by decide +kernel
theorem dX0_beginAnew_8 : decode cX0_beginAnew 8 = .ok (.getfield 34, 3) := by decide +kernel
theorem dX0_beginAnew_11 : decode cX0_beginAnew 11 = .ok (.iload_n 1, 1) := by decide +kernel
theorem dX0_beginAnew_12 : decode cX0_beginAnew 12 = .ok (.iconst 0, 1) := by decide +kernel
theorem dX0_beginAnew_13 : decode cX0_beginAnew 13 = .ok (.bastore, 1) := by decide +kernel
theorem dX0_beginAnew_14 : decode cX0_beginAnew 14 = .ok (.return_, 1) := by decide +kernel
set_option maxRecDepth 20000 in
theorem ggX0_leastLaden_X0_leftOn : GoodIn wsX0_leastLaden wsX0_leftOn := goodIn_r _ [5, 6, 7, 8, 9, 12, 13, 14, 15, 16, 17, 18, 19, 20, 21, 22, 23, 24, 25, 26] (by decide +kernel) (by decide +kernel)
set_option maxRecDepth 20000 in
theorem gX0_leastLaden_X0_leftOn : GoodIn wsX0_leastLaden (wsV RX0 112 RX0 yX0_leftOn wsX0_leftOn) := goodIn_app (goodIn_of _ (by decide +kernel)) ggX0_leastLaden_X0_leftOn
theorem dX0_leastLaden_0 : decode cX0_leastLaden 0 = .ok (.iconst (-1), 1) := by decide +kernel
theorem dX0_leastLaden_1 : decode cX0_leastLaden 1 = .ok (.istore_n 2, 1) := by decide +kernel
theorem dX0_leastLaden_2 : decode cX0_leastLaden 2 = .ok (.iconst 0, 1) := by decide +kernel
theorem dX0_leastLaden_3 : decode cX0_leastLaden 3 = .ok (.istore_n 3, 1) := by decide +kernel
theorem dX0_leastLaden_4 : decode cX0_leastLaden 4 = .ok (.iconst 0, 1) := by decide +kernel
theorem dX0_leastLaden_5 : decode cX0_leastLaden 5 = .ok (.istore 4, 2) := by decide +kernel
theorem dX0_leastLaden_7 : decode cX0_leastLaden 7 = .ok (.iload 4, 2) := by decide +kernel
theorem dX0_leastLaden_9 : decode cX0_leastLaden 9 = .ok (.bipush 8, 2) := by decide +kernel
theorem dX0_leastLaden_11 : decode cX0_leastLaden 11 = .ok (.if_icmp .ge 47, 3) := by decide +kernel
theorem dX0_leastLaden_14 : decode cX0_leastLaden 14 = .ok (.aload_n 1, 1) := by decide +kernel
theorem dX0_leastLaden_15 : decode cX0_leastLaden 15 = .ok (.getfield 99, 3) := by decide +kernel
theorem dX0_leastLaden_18 : decode cX0_leastLaden 18 = .ok (.iload 4, 2) := by decide +kernel
theorem dX0_leastLaden_20 : decode cX0_leastLaden 20 = .ok (.baload, 1) := by decide +kernel
theorem dX0_leastLaden_21 : decode cX0_leastLaden 21 = .ok (.ifCond .ne 6, 3) := by decide +kernel
theorem dX0_leastLaden_24 : decode cX0_leastLaden 24 = .ok (.goto 28, 3) := by decide +kernel
theorem dX0_leastLaden_27 : decode cX0_leastLaden 27 = .ok (.aload_n 0, 1) := by decide +kernel
theorem dX0_leastLaden_28 : decode cX0_leastLaden 28 = .ok (.iload 4, 2) := by decide +kernel
theorem dX0_leastLaden_30 : decode cX0_leastLaden 30 = .ok (.invokevirtual 112, 3) := by decide +kernel
theorem dX0_leastLaden_33 : decode cX0_leastLaden 33 = .ok (.istore 5, 2) := by decide +kernel
theorem dX0_leastLaden_35 : decode cX0_leastLaden 35 = .ok (.iload_n 2, 1) := by decide +kernel
theorem dX0_leastLaden_36 : decode cX0_leastLaden 36 = .ok (.iconst (-1), 1) := by decide +kernel
theorem dX0_leastLaden_37 : decode cX0_leastLaden 37 = .ok (.if_icmp .eq 9, 3) := by decide +kernel
theorem dX0_leastLaden_40 : decode cX0_leastLaden 40 = .ok (.iload 5, 2) := by decide +kernel
theorem dX0_leastLaden_42 : decode cX0_leastLaden 42 = .ok (.iload_n 3, 1) := by decide +kernel
theorem dX0_leastLaden_43 : decode cX0_leastLaden 43 = .ok (.if_icmp .ge 9, 3) := by decide +kernel
theorem dX0_leastLaden_46 : decode cX0_leastLaden 46 = .ok (.iload 4, 2) := by decide +kernel
theorem dX0_leastLaden_48 : decode cX0_leastLaden 48 = .ok (.istore_n 2, 1) := by decide +kernel
theorem dX0_leastLaden_49 : decode cX0_leastLaden 49 = .ok (.iload 5, 2) := by decide +kernel
theorem dX0_leastLaden_51 : decode cX0_leastLaden 51 = .ok (.istore_n 3, 1) := by decide +kernel
theorem dX0_leastLaden_52 : decode cX0_leastLaden 52 = .ok (.iinc 4 1, 3) := by decide +kernel
theorem dX0_leastLaden_55 : decode cX0_leastLaden 55 = .ok (.goto (-48), 3) := by decide +kernel
theorem dX0_leastLaden_58 : decode cX0_leastLaden 58 = .ok (.iload_n 2, 1) := by decide +kernel
theorem dX0_leastLaden_59 : decode cX0_leastLaden 59 = .ok (.ireturn, 1) := by decide +kernel
theorem dX0_partsOn_0 : decode cX0_partsOn 0 = .ok (.iconst 0, 1) := by decide +kernel
theorem dX0_partsOn_1 : decode cX0_partsOn 1 = .ok (.istore_n 2, 1) := by decide +kernel
theorem dX0_partsOn_2 : decode cX0_partsOn 2 = .ok (.iconst 0, 1) := by decide +kernel
theorem dX0_partsOn_3 : decode cX0_partsOn 3 = .ok (.istore_n 3, 1) := by decide +kernel
theorem dX0_partsOn_4 : decode cX0_partsOn 4 = .ok (.iload_n 3, 1) := by decide +kernel
theorem dX0_partsOn_5 : decode cX0_partsOn 5 = .ok (.aload_n 0, 1) := by decide +kernel
theorem dX0_partsOn_6 : decode cX0_partsOn 6 = .ok (.getfield 40, 3) := by decide +kernel
theorem dX0_partsOn_9 : decode cX0_partsOn 9 = .ok (.if_icmp .ge 22, 3) := by decide +kernel
theorem dX0_partsOn_12 : decode cX0_partsOn 12 = .ok (.aload_n 0, 1) := by decide +kernel
theorem dX0_partsOn_13 : decode cX0_partsOn 13 = .ok (.getfield 25, 3) := by decide +kernel
theorem dX0_partsOn_16 : decode cX0_partsOn 16 = .ok (.iload_n 3, 1) := by decide +kernel
theorem dX0_partsOn_17 : decode cX0_partsOn 17 = .ok (.iaload, 1) := by decide +kernel
theorem dX0_partsOn_18 : decode cX0_partsOn 18 = .ok (.iload_n 1, 1) := by decide +kernel
theorem dX0_partsOn_19 : decode cX0_partsOn 19 = .ok (.if_icmp .ne 6, 3) := by decide +kernel
theorem dX0_partsOn_22 : decode cX0_partsOn 22 = .ok (.iinc 2 1, 3) := by decide +kernel
theorem dX0_partsOn_25 : decode cX0_partsOn 25 = .ok (.iinc 3 1, 3) := by decide +kernel
theorem dX0_partsOn_28 : decode cX0_partsOn 28 = .ok (.goto (-24), 3) := by decide +kernel
theorem dX0_partsOn_31 : decode cX0_partsOn 31 = .ok (.iload_n 2, 1) := by decide +kernel
theorem dX0_partsOn_32 : decode cX0_partsOn 32 = .ok (.ireturn, 1) := by decide +kernel
theorem dX0_leftOn_0 : decode cX0_leftOn 0 = .ok (.iconst 0, 1) := by decide +kernel
theorem dX0_leftOn_1 : decode cX0_leftOn 1 = .ok (.istore_n 2, 1) := by decide +kernel
theorem dX0_leftOn_2 : decode cX0_leftOn 2 = .ok (.iconst 0, 1) := by decide +kernel
theorem dX0_leftOn_3 : decode cX0_leftOn 3 = .ok (.istore_n 3, 1) := by decide +kernel
theorem dX0_leftOn_4 : decode cX0_leftOn 4 = .ok (.iload_n 3, 1) := by decide +kernel
theorem dX0_leftOn_5 : decode cX0_leftOn 5 = .ok (.aload_n 0, 1) := by decide +kernel
theorem dX0_leftOn_6 : decode cX0_leftOn 6 = .ok (.getfield 40, 3) := by decide +kernel
theorem dX0_leftOn_9 : decode cX0_leftOn 9 = .ok (.if_icmp .ge 35, 3) := by decide +kernel
theorem dX0_leftOn_12 : decode cX0_leftOn 12 = .ok (.aload_n 0, 1) := by decide +kernel
theorem dX0_leftOn_13 : decode cX0_leftOn 13 = .ok (.getfield 25, 3) := by decide +kernel
theorem dX0_leftOn_16 : decode cX0_leftOn 16 = .ok (.iload_n 3, 1) := by decide +kernel
theorem dX0_leftOn_17 : decode cX0_leftOn 17 = .ok (.iaload, 1) := by decide +kernel
theorem dX0_leftOn_18 : decode cX0_leftOn 18 = .ok (.iload_n 1, 1) := by decide +kernel
theorem dX0_leftOn_19 : decode cX0_leftOn 19 = .ok (.if_icmp .ne 19, 3) := by decide +kernel
theorem dX0_leftOn_22 : decode cX0_leftOn 22 = .ok (.iload_n 2, 1) := by decide +kernel
theorem dX0_leftOn_23 : decode cX0_leftOn 23 = .ok (.aload_n 0, 1) := by decide +kernel
theorem dX0_leftOn_24 : decode cX0_leftOn 24 = .ok (.getfield 19, 3) := by decide +kernel
theorem dX0_leftOn_27 : decode cX0_leftOn 27 = .ok (.iload_n 3, 1) := by decide +kernel
theorem dX0_leftOn_28 : decode cX0_leftOn 28 = .ok (.iaload, 1) := by decide +kernel
theorem dX0_leftOn_29 : decode cX0_leftOn 29 = .ok (.aload_n 0, 1) := by decide +kernel
theorem dX0_leftOn_30 : decode cX0_leftOn 30 = .ok (.getfield 28, 3) := by decide +kernel
theorem dX0_leftOn_33 : decode cX0_leftOn 33 = .ok (.iload_n 3, 1) := by decide +kernel
theorem dX0_leftOn_34 : decode cX0_leftOn 34 = .ok (.iaload, 1) := by decide +kernel
theorem dX0_leftOn_35 : decode cX0_leftOn 35 = .ok (.isub, 1) := by decide +kernel
theorem dX0_leftOn_36 : decode cX0_leftOn 36 = .ok (.iadd, 1) := by decide +kernel
theorem dX0_leftOn_37 : decode cX0_leftOn 37 = .ok (.istore_n 2, 1) := by decide +kernel
theorem dX0_leftOn_38 : decode cX0_leftOn 38 = .ok (.iinc 3 1, 3) := by decide +kernel
theorem dX0_leftOn_41 : decode cX0_leftOn 41 = .ok (.goto (-37), 3) := by decide +kernel
theorem dX0_leftOn_44 : decode cX0_leftOn 44 = .ok (.iload_n 2, 1) := by decide +kernel
theorem dX0_leftOn_45 : decode cX0_leftOn 45 = .ok (.ireturn, 1) := by decide +kernel
set_option maxRecDepth 20000 in
theorem ggX0_goOn_X0_workAtPartsOf : GoodIn wsX0_goOn wsX0_workAtPartsOf := goodIn_r _ [7, 8, 9, 10, 11, 12, 13, 14, 15, 16, 17, 18, 19, 20, 6, 21, 22, 23, 24, 25, 26, 2, 27, 28, 29, 30, 31, 32, 33, 34, 35, 36, 37, 38, 39, 40, 41] (by decide +kernel) (by decide +kernel)
set_option maxRecDepth 20000 in
theorem gX0_goOn_X0_workAtPartsOf : GoodIn wsX0_goOn (wsV RX0 118 RX0 yX0_workAtPartsOf wsX0_workAtPartsOf) := goodIn_app (goodIn_of _ (by decide +kernel)) ggX0_goOn_X0_workAtPartsOf
theorem dX0_goOn_0 : decode cX0_goOn 0 = .ok (.aload_n 0, 1) := by decide +kernel
theorem dX0_goOn_1 : decode cX0_goOn 1 = .ok (.dup, 1) := by decide +kernel
theorem dX0_goOn_2 : decode cX0_goOn 2 = .ok (.getfield 50, 3) := by decide +kernel
theorem dX0_goOn_5 : decode cX0_goOn 5 = .ok (.iconst 1, 1) := by decide +kernel
theorem dX0_goOn_6 : decode cX0_goOn 6 = .ok (.iadd, 1) := by decide +kernel
theorem dX0_goOn_7 : decode cX0_goOn 7 = .ok (.putfield 50, 3) := by decide +kernel
theorem dX0_goOn_10 : decode cX0_goOn 10 = .ok (.aload_n 0, 1) := by decide +kernel
theorem dX0_goOn_11 : decode cX0_goOn 11 = .ok (.getfield 53, 3) := by decide +kernel
theorem dX0_goOn_14 : decode cX0_goOn 14 = .ok (.istore_n 2, 1) := by decide +kernel
theorem dX0_goOn_15 : decode cX0_goOn 15 = .ok (.iconst 0, 1) := by decide +kernel
theorem dX0_goOn_16 : decode cX0_goOn 16 = .ok (.istore_n 3, 1) := by decide +kernel
theorem dX0_goOn_17 : decode cX0_goOn 17 = .ok (.iload_n 3, 1) := by decide +kernel
theorem dX0_goOn_18 : decode cX0_goOn 18 = .ok (.bipush 8, 2) := by decide +kernel
theorem dX0_goOn_20 : decode cX0_goOn 20 = .ok (.if_icmp .ge 29, 3) := by decide +kernel
theorem dX0_goOn_23 : decode cX0_goOn 23 = .ok (.aload_n 1, 1) := by decide +kernel
theorem dX0_goOn_24 : decode cX0_goOn 24 = .ok (.getfield 99, 3) := by decide +kernel
theorem dX0_goOn_27 : decode cX0_goOn 27 = .ok (.iload_n 3, 1) := by decide +kernel
theorem dX0_goOn_28 : decode cX0_goOn 28 = .ok (.baload, 1) := by decide +kernel
theorem dX0_goOn_29 : decode cX0_goOn 29 = .ok (.ifCond .eq 14, 3) := by decide +kernel
theorem dX0_goOn_32 : decode cX0_goOn 32 = .ok (.aload_n 0, 1) := by decide +kernel
theorem dX0_goOn_33 : decode cX0_goOn 33 = .ok (.iload_n 3, 1) := by decide +kernel
theorem dX0_goOn_34 : decode cX0_goOn 34 = .ok (.aload_n 1, 1) := by decide +kernel
theorem dX0_goOn_35 : decode cX0_goOn 35 = .ok (.getfield 115, 3) := by decide +kernel
theorem dX0_goOn_38 : decode cX0_goOn 38 = .ok (.iload_n 3, 1) := by decide +kernel
theorem dX0_goOn_39 : decode cX0_goOn 39 = .ok (.iaload, 1) := by decide +kernel
theorem dX0_goOn_40 : decode cX0_goOn 40 = .ok (.invokevirtual 118, 3) := by decide +kernel
theorem dX0_goOn_43 : decode cX0_goOn 43 = .ok (.iinc 3 1, 3) := by decide +kernel
theorem dX0_goOn_46 : decode cX0_goOn 46 = .ok (.goto (-29), 3) := by decide +kernel
theorem dX0_goOn_49 : decode cX0_goOn 49 = .ok (.aload_n 0, 1) := by decide +kernel
theorem dX0_goOn_50 : decode cX0_goOn 50 = .ok (.getfield 53, 3) := by decide +kernel
theorem dX0_goOn_53 : decode cX0_goOn 53 = .ok (.iload_n 2, 1) := by decide +kernel
theorem dX0_goOn_54 : decode cX0_goOn 54 = .ok (.isub, 1) := by decide +kernel
theorem dX0_goOn_55 : decode cX0_goOn 55 = .ok (.ireturn, 1) := by decide +kernel
set_option maxRecDepth 20000 in
theorem ggX0_workAtPartsOf_X0_mergeSome : GoodIn wsX0_workAtPartsOf wsX0_mergeSome := goodIn_r _ [15, 16, 17, 5, 18, 19, 8, 20, 6, 7, 9, 21, 22, 23, 24, 25, 26, 27, 28, 29, 30, 31, 32, 33, 34, 35, 36] (by decide +kernel) (by decide +kernel)
set_option maxRecDepth 20000 in
theorem gX0_workAtPartsOf_X0_mergeSome : GoodIn wsX0_workAtPartsOf (wsV RX0 127 RX0 yX0_mergeSome wsX0_mergeSome) := goodIn_app (goodIn_of _ (by decide +kernel)) ggX0_workAtPartsOf_X0_mergeSome
theorem dX0_workAtPartsOf_0 : decode cX0_workAtPartsOf 0 = .ok (.iload_n 2, 1) := by decide +kernel
theorem dX0_workAtPartsOf_1 : decode cX0_workAtPartsOf 1 = .ok (.istore_n 3, 1) := by decide +kernel
theorem dX0_workAtPartsOf_2 : decode cX0_workAtPartsOf 2 = .ok (.iconst 0, 1) := by decide +kernel
theorem dX0_workAtPartsOf_3 : decode cX0_workAtPartsOf 3 = .ok (.istore 4, 2) := by decide +kernel
theorem dX0_workAtPartsOf_5 : decode cX0_workAtPartsOf 5 = .ok (.iload 4, 2) := by decide +kernel
theorem dX0_workAtPartsOf_7 : decode cX0_workAtPartsOf 7 = .ok (.aload_n 0, 1) := by decide +kernel
theorem dX0_workAtPartsOf_8 : decode cX0_workAtPartsOf 8 = .ok (.getfield 40, 3) := by decide +kernel
theorem dX0_workAtPartsOf_11 : decode cX0_workAtPartsOf 11 = .ok (.if_icmp .ge 106, 3) := by decide +kernel
theorem dX0_workAtPartsOf_14 : decode cX0_workAtPartsOf 14 = .ok (.aload_n 0, 1) := by decide +kernel
theorem dX0_workAtPartsOf_15 : decode cX0_workAtPartsOf 15 = .ok (.getfield 25, 3) := by decide +kernel
theorem dX0_workAtPartsOf_18 : decode cX0_workAtPartsOf 18 = .ok (.iload 4, 2) := by decide +kernel
theorem dX0_workAtPartsOf_20 : decode cX0_workAtPartsOf 20 = .ok (.iaload, 1) := by decide +kernel
theorem dX0_workAtPartsOf_21 : decode cX0_workAtPartsOf 21 = .ok (.iload_n 1, 1) := by decide +kernel
theorem dX0_workAtPartsOf_22 : decode cX0_workAtPartsOf 22 = .ok (.if_icmp .ne 89, 3) := by decide +kernel
theorem dX0_workAtPartsOf_25 : decode cX0_workAtPartsOf 25 = .ok (.aload_n 0, 1) := by decide +kernel
theorem dX0_workAtPartsOf_26 : decode cX0_workAtPartsOf 26 = .ok (.getfield 34, 3) := by decide +kernel
theorem dX0_workAtPartsOf_29 : decode cX0_workAtPartsOf 29 = .ok (.iload 4, 2) := by decide +kernel
theorem dX0_workAtPartsOf_31 : decode cX0_workAtPartsOf 31 = .ok (.baload, 1) := by decide +kernel
theorem dX0_workAtPartsOf_32 : decode cX0_workAtPartsOf 32 = .ok (.ifCond .eq 6, 3) := by decide +kernel
theorem dX0_workAtPartsOf_35 : decode cX0_workAtPartsOf 35 = .ok (.goto 76, 3) := by decide +kernel
theorem dX0_workAtPartsOf_38 : decode cX0_workAtPartsOf 38 = .ok (.iload_n 3, 1) := by decide +kernel
theorem dX0_workAtPartsOf_39 : decode cX0_workAtPartsOf 39 = .ok (.aload_n 0, 1) := by decide +kernel
theorem dX0_workAtPartsOf_40 : decode cX0_workAtPartsOf 40 = .ok (.getfield 19, 3) := by decide +kernel
theorem dX0_workAtPartsOf_43 : decode cX0_workAtPartsOf 43 = .ok (.iload 4, 2) := by decide +kernel
theorem dX0_workAtPartsOf_45 : decode cX0_workAtPartsOf 45 = .ok (.iaload, 1) := by decide +kernel
theorem dX0_workAtPartsOf_46 : decode cX0_workAtPartsOf 46 = .ok (.aload_n 0, 1) := by decide +kernel
theorem dX0_workAtPartsOf_47 : decode cX0_workAtPartsOf 47 = .ok (.getfield 28, 3) := by decide +kernel
theorem dX0_workAtPartsOf_50 : decode cX0_workAtPartsOf 50 = .ok (.iload 4, 2) := by decide +kernel
theorem dX0_workAtPartsOf_52 : decode cX0_workAtPartsOf 52 = .ok (.iaload, 1) := by decide +kernel
theorem dX0_workAtPartsOf_53 : decode cX0_workAtPartsOf 53 = .ok (.isub, 1) := by decide +kernel
theorem dX0_workAtPartsOf_54 : decode cX0_workAtPartsOf 54 = .ok (.invokestatic 122, 3) := by decide +kernel
theorem dX0_workAtPartsOf_57 : decode cX0_workAtPartsOf 57 = .ok (.istore 5, 2) := by decide +kernel
theorem dX0_workAtPartsOf_59 : decode cX0_workAtPartsOf 59 = .ok (.aload_n 0, 1) := by decide +kernel
theorem dX0_workAtPartsOf_60 : decode cX0_workAtPartsOf 60 = .ok (.iload 4, 2) := by decide +kernel
theorem dX0_workAtPartsOf_62 : decode cX0_workAtPartsOf 62 = .ok (.iload 5, 2) := by decide +kernel
theorem dX0_workAtPartsOf_64 : decode cX0_workAtPartsOf 64 = .ok (.invokevirtual 127, 3) := by decide +kernel
theorem dX0_workAtPartsOf_67 : decode cX0_workAtPartsOf 67 = .ok (.aload_n 0, 1) := by decide +kernel
theorem dX0_workAtPartsOf_68 : decode cX0_workAtPartsOf 68 = .ok (.getfield 37, 3) := by decide +kernel
theorem dX0_workAtPartsOf_71 : decode cX0_workAtPartsOf 71 = .ok (.iload_n 1, 1) := by decide +kernel
theorem dX0_workAtPartsOf_72 : decode cX0_workAtPartsOf 72 = .ok (.dup2, 1) := by decide +kernel
theorem dX0_workAtPartsOf_73 : decode cX0_workAtPartsOf 73 = .ok (.iaload, 1) := by decide +kernel
theorem dX0_workAtPartsOf_74 : decode cX0_workAtPartsOf 74 = .ok (.iload 5, 2) := by decide +kernel
theorem dX0_workAtPartsOf_76 : decode cX0_workAtPartsOf 76 = .ok (.iadd, 1) := by decide +kernel
theorem dX0_workAtPartsOf_77 : decode cX0_workAtPartsOf 77 = .ok (.iastore, 1) := by decide +kernel
theorem dX0_workAtPartsOf_78 : decode cX0_workAtPartsOf 78 = .ok (.iload_n 3, 1) := by decide +kernel
theorem dX0_workAtPartsOf_79 : decode cX0_workAtPartsOf 79 = .ok (.iload 5, 2) := by decide +kernel
theorem dX0_workAtPartsOf_81 : decode cX0_workAtPartsOf 81 = .ok (.isub, 1) := by decide +kernel
theorem dX0_workAtPartsOf_82 : decode cX0_workAtPartsOf 82 = .ok (.istore_n 3, 1) := by decide +kernel
theorem dX0_workAtPartsOf_83 : decode cX0_workAtPartsOf 83 = .ok (.aload_n 0, 1) := by decide +kernel
theorem dX0_workAtPartsOf_84 : decode cX0_workAtPartsOf 84 = .ok (.getfield 28, 3) := by decide +kernel
theorem dX0_workAtPartsOf_87 : decode cX0_workAtPartsOf 87 = .ok (.iload 4, 2) := by decide +kernel
theorem dX0_workAtPartsOf_89 : decode cX0_workAtPartsOf 89 = .ok (.iaload, 1) := by decide +kernel
theorem dX0_workAtPartsOf_90 : decode cX0_workAtPartsOf 90 = .ok (.aload_n 0, 1) := by decide +kernel
theorem dX0_workAtPartsOf_91 : decode cX0_workAtPartsOf 91 = .ok (.getfield 19, 3) := by decide +kernel
theorem dX0_workAtPartsOf_94 : decode cX0_workAtPartsOf 94 = .ok (.iload 4, 2) := by decide +kernel
theorem dX0_workAtPartsOf_96 : decode cX0_workAtPartsOf 96 = .ok (.iaload, 1) := by decide +kernel
theorem dX0_workAtPartsOf_97 : decode cX0_workAtPartsOf 97 = .ok (.if_icmp .ge 6, 3) := by decide +kernel
theorem dX0_workAtPartsOf_100 : decode cX0_workAtPartsOf 100 = .ok (.goto 17, 3) := by decide +kernel
theorem dX0_workAtPartsOf_103 : decode cX0_workAtPartsOf 103 = .ok (.aload_n 0, 1) := by decide +kernel
theorem dX0_workAtPartsOf_104 : decode cX0_workAtPartsOf 104 = .ok (.getfield 34, 3) := by decide +kernel
theorem dX0_workAtPartsOf_107 : decode cX0_workAtPartsOf 107 = .ok (.iload 4, 2) := by decide +kernel
theorem dX0_workAtPartsOf_109 : decode cX0_workAtPartsOf 109 = .ok (.iconst 1, 1) := by decide +kernel
theorem dX0_workAtPartsOf_110 : decode cX0_workAtPartsOf 110 = .ok (.bastore, 1) := by decide +kernel
theorem dX0_workAtPartsOf_111 : decode cX0_workAtPartsOf 111 = .ok (.iinc 4 1, 3) := by decide +kernel
theorem dX0_workAtPartsOf_114 : decode cX0_workAtPartsOf 114 = .ok (.goto (-109), 3) := by decide +kernel
theorem dX0_workAtPartsOf_117 : decode cX0_workAtPartsOf 117 = .ok (.return_, 1) := by decide +kernel
theorem dX0_mergeSome_0 : decode cX0_mergeSome 0 = .ok (.aload_n 0, 1) := by decide +kernel
theorem dX0_mergeSome_1 : decode cX0_mergeSome 1 = .ok (.dup, 1) := by decide +kernel
theorem dX0_mergeSome_2 : decode cX0_mergeSome 2 = .ok (.getfield 56, 3) := by decide +kernel
theorem dX0_mergeSome_5 : decode cX0_mergeSome 5 = .ok (.iload_n 2, 1) := by decide +kernel
theorem dX0_mergeSome_6 : decode cX0_mergeSome 6 = .ok (.iconst 0, 1) := by decide +kernel
theorem dX0_mergeSome_7 : decode cX0_mergeSome 7 = .ok (.aload_n 0, 1) := by decide +kernel
theorem dX0_mergeSome_8 : decode cX0_mergeSome 8 = .ok (.getfield 31, 3) := by decide +kernel
theorem dX0_mergeSome_11 : decode cX0_mergeSome 11 = .ok (.iload_n 1, 1) := by decide +kernel
theorem dX0_mergeSome_12 : decode cX0_mergeSome 12 = .ok (.iaload, 1) := by decide +kernel
theorem dX0_mergeSome_13 : decode cX0_mergeSome 13 = .ok (.aload_n 0, 1) := by decide +kernel
theorem dX0_mergeSome_14 : decode cX0_mergeSome 14 = .ok (.getfield 28, 3) := by decide +kernel
theorem dX0_mergeSome_17 : decode cX0_mergeSome 17 = .ok (.iload_n 1, 1) := by decide +kernel
theorem dX0_mergeSome_18 : decode cX0_mergeSome 18 = .ok (.iaload, 1) := by decide +kernel
theorem dX0_mergeSome_19 : decode cX0_mergeSome 19 = .ok (.isub, 1) := by decide +kernel
theorem dX0_mergeSome_20 : decode cX0_mergeSome 20 = .ok (.invokestatic 130, 3) := by decide +kernel
theorem dX0_mergeSome_23 : decode cX0_mergeSome 23 = .ok (.invokestatic 122, 3) := by decide +kernel
theorem dX0_mergeSome_26 : decode cX0_mergeSome 26 = .ok (.iadd, 1) := by decide +kernel
theorem dX0_mergeSome_27 : decode cX0_mergeSome 27 = .ok (.putfield 56, 3) := by decide +kernel
theorem dX0_mergeSome_30 : decode cX0_mergeSome 30 = .ok (.aload_n 0, 1) := by decide +kernel
theorem dX0_mergeSome_31 : decode cX0_mergeSome 31 = .ok (.dup, 1) := by decide +kernel
theorem dX0_mergeSome_32 : decode cX0_mergeSome 32 = .ok (.getfield 53, 3) := by decide +kernel
theorem dX0_mergeSome_35 : decode cX0_mergeSome 35 = .ok (.iload_n 2, 1) := by decide +kernel
theorem dX0_mergeSome_36 : decode cX0_mergeSome 36 = .ok (.iadd, 1) := by decide +kernel
theorem dX0_mergeSome_37 : decode cX0_mergeSome 37 = .ok (.putfield 53, 3) := by decide +kernel
theorem dX0_mergeSome_40 : decode cX0_mergeSome 40 = .ok (.aload_n 0, 1) := by decide +kernel
theorem dX0_mergeSome_41 : decode cX0_mergeSome 41 = .ok (.getfield 28, 3) := by decide +kernel
theorem dX0_mergeSome_44 : decode cX0_mergeSome 44 = .ok (.iload_n 1, 1) := by decide +kernel
theorem dX0_mergeSome_45 : decode cX0_mergeSome 45 = .ok (.dup2, 1) := by decide +kernel
theorem dX0_mergeSome_46 : decode cX0_mergeSome 46 = .ok (.iaload, 1) := by decide +kernel
theorem dX0_mergeSome_47 : decode cX0_mergeSome 47 = .ok (.iload_n 2, 1) := by decide +kernel
theorem dX0_mergeSome_48 : decode cX0_mergeSome 48 = .ok (.iadd, 1) := by decide +kernel
theorem dX0_mergeSome_49 : decode cX0_mergeSome 49 = .ok (.iastore, 1) := by decide +kernel
theorem dX0_mergeSome_50 : decode cX0_mergeSome 50 = .ok (.aload_n 0, 1) := by decide +kernel
theorem dX0_mergeSome_51 : decode cX0_mergeSome 51 = .ok (.getfield 31, 3) := by decide +kernel
theorem dX0_mergeSome_54 : decode cX0_mergeSome 54 = .ok (.iload_n 1, 1) := by decide +kernel
theorem dX0_mergeSome_55 : decode cX0_mergeSome 55 = .ok (.aload_n 0, 1) := by decide +kernel
theorem dX0_mergeSome_56 : decode cX0_mergeSome 56 = .ok (.getfield 31, 3) := by decide +kernel
theorem dX0_mergeSome_59 : decode cX0_mergeSome 59 = .ok (.iload_n 1, 1) := by decide +kernel
theorem dX0_mergeSome_60 : decode cX0_mergeSome 60 = .ok (.iaload, 1) := by decide +kernel
theorem dX0_mergeSome_61 : decode cX0_mergeSome 61 = .ok (.aload_n 0, 1) := by decide +kernel
theorem dX0_mergeSome_62 : decode cX0_mergeSome 62 = .ok (.getfield 28, 3) := by decide +kernel
theorem dX0_mergeSome_65 : decode cX0_mergeSome 65 = .ok (.iload_n 1, 1) := by decide +kernel
theorem dX0_mergeSome_66 : decode cX0_mergeSome 66 = .ok (.iaload, 1) := by decide +kernel
theorem dX0_mergeSome_67 : decode cX0_mergeSome 67 = .ok (.invokestatic 130, 3) := by decide +kernel
theorem dX0_mergeSome_70 : decode cX0_mergeSome 70 = .ok (.iastore, 1) := by decide +kernel
theorem dX0_mergeSome_71 : decode cX0_mergeSome 71 = .ok (.return_, 1) := by decide +kernel
theorem dX0_partsDone_0 : decode cX0_partsDone 0 = .ok (.iconst 0, 1) := by decide +kernel
theorem dX0_partsDone_1 : decode cX0_partsDone 1 = .ok (.istore_n 1, 1) := by decide +kernel
theorem dX0_partsDone_2 : decode cX0_partsDone 2 = .ok (.iconst 0, 1) := by decide +kernel
theorem dX0_partsDone_3 : decode cX0_partsDone 3 = .ok (.istore_n 2, 1) := by decide +kernel
theorem dX0_partsDone_4 : decode cX0_partsDone 4 = .ok (.iload_n 2, 1) := by decide +kernel
theorem dX0_partsDone_5 : decode cX0_partsDone 5 = .ok (.aload_n 0, 1) := by decide +kernel
theorem dX0_partsDone_6 : decode cX0_partsDone 6 = .ok (.getfield 40, 3) := by decide +kernel
theorem dX0_partsDone_9 : decode cX0_partsDone 9 = .ok (.if_icmp .ge 21, 3) := by decide +kernel
theorem dX0_partsDone_12 : decode cX0_partsDone 12 = .ok (.aload_n 0, 1) := by decide +kernel
theorem dX0_partsDone_13 : decode cX0_partsDone 13 = .ok (.getfield 34, 3) := by decide +kernel
theorem dX0_partsDone_16 : decode cX0_partsDone 16 = .ok (.iload_n 2, 1) := by decide +kernel
theorem dX0_partsDone_17 : decode cX0_partsDone 17 = .ok (.baload, 1) := by decide +kernel
theorem dX0_partsDone_18 : decode cX0_partsDone 18 = .ok (.ifCond .eq 6, 3) := by decide +kernel
theorem dX0_partsDone_21 : decode cX0_partsDone 21 = .ok (.iinc 1 1, 3) := by decide +kernel
theorem dX0_partsDone_24 : decode cX0_partsDone 24 = .ok (.iinc 2 1, 3) := by decide +kernel
theorem dX0_partsDone_27 : decode cX0_partsDone 27 = .ok (.goto (-23), 3) := by decide +kernel
theorem dX0_partsDone_30 : decode cX0_partsDone 30 = .ok (.iload_n 1, 1) := by decide +kernel
theorem dX0_partsDone_31 : decode cX0_partsDone 31 = .ok (.ireturn, 1) := by decide +kernel
set_option maxRecDepth 20000 in
theorem ggX0_isAtEnd_X0_stands : GoodIn wsX0_isAtEnd wsX0_stands := goodIn_r _ [6, 1, 12, 13, 14, 15, 16, 17, 18, 19, 20, 21, 22, 23, 24, 25, 26] (by decide +kernel) (by decide +kernel)
set_option maxRecDepth 20000 in
theorem gX0_isAtEnd_X0_stands : GoodIn wsX0_isAtEnd (wsV RX0 133 RX0 yX0_stands wsX0_stands) := goodIn_app (goodIn_of _ (by decide +kernel)) ggX0_isAtEnd_X0_stands
set_option maxRecDepth 20000 in
theorem ggX0_isAtEnd_X0_partsDone : GoodIn wsX0_isAtEnd wsX0_partsDone := goodIn_r _ [10, 1, 11, 12, 13, 14, 15, 16, 17, 18, 19, 20, 21, 22, 23, 24, 25, 26] (by decide +kernel) (by decide +kernel)
set_option maxRecDepth 20000 in
theorem gX0_isAtEnd_X0_partsDone : GoodIn wsX0_isAtEnd (wsV RX0 137 RX0 yX0_partsDone wsX0_partsDone) := goodIn_app (goodIn_of _ (by decide +kernel)) ggX0_isAtEnd_X0_partsDone
theorem dX0_isAtEnd_0 : decode cX0_isAtEnd 0 = .ok (.aload_n 0, 1) := by decide +kernel
theorem dX0_isAtEnd_1 : decode cX0_isAtEnd 1 = .ok (.invokevirtual 133, 3) := by decide +kernel
theorem dX0_isAtEnd_4 : decode cX0_isAtEnd 4 = .ok (.ifCond .eq 18, 3) := by decide +kernel
theorem dX0_isAtEnd_7 : decode cX0_isAtEnd 7 = .ok (.aload_n 0, 1) := by decide +kernel
theorem dX0_isAtEnd_8 : decode cX0_isAtEnd 8 = .ok (.invokevirtual 137, 3) := by decide +kernel
theorem dX0_isAtEnd_11 : decode cX0_isAtEnd 11 = .ok (.aload_n 0, 1) := by decide +kernel
theorem dX0_isAtEnd_12 : decode cX0_isAtEnd 12 = .ok (.getfield 40, 3) := by decide +kernel
theorem dX0_isAtEnd_15 : decode cX0_isAtEnd 15 = .ok (.if_icmp .ne 7, 3) := by decide +kernel
theorem dX0_isAtEnd_18 : decode cX0_isAtEnd 18 = .ok (.iconst 1, 1) := by decide +kernel
theorem dX0_isAtEnd_19 : decode cX0_isAtEnd 19 = .ok (.goto 4, 3) := by decide +kernel
theorem dX0_isAtEnd_22 : decode cX0_isAtEnd 22 = .ok (.iconst 0, 1) := by decide +kernel
theorem dX0_isAtEnd_23 : decode cX0_isAtEnd 23 = .ok (.ireturn, 1) := by decide +kernel
theorem dX1_init_0 : decode cX1_init 0 = .ok (.aload_n 0, 1) := by decide +kernel
theorem dX1_init_1 : decode cX1_init 1 = .ok (.invokespecial 3, 3) := by decide +kernel
theorem dX1_init_4 : decode cX1_init 4 = .ok (.aload_n 0, 1) := by decide +kernel
theorem dX1_init_5 : decode cX1_init 5 = .ok (.sipush 400, 3) := by decide +kernel
theorem dX1_init_8 : decode cX1_init 8 = .ok (.newarray .long, 2) := by decide +kernel
theorem dX1_init_10 : decode cX1_init 10 = .ok (.putfield 9, 3) := by decide +kernel
theorem dX1_init_13 : decode cX1_init 13 = .ok (.return_, 1) := by decide +kernel
theorem dX1_forget_0 : decode cX1_forget 0 = .ok (.aload_n 0, 1) := by decide +kernel
theorem dX1_forget_1 : decode cX1_forget 1 = .ok (.iconst 0, 1) := by decide +kernel
theorem dX1_forget_2 : decode cX1_forget 2 = .ok (.putfield 15, 3) := by decide +kernel
theorem dX1_forget_5 : decode cX1_forget 5 = .ok (.return_, 1) := by decide +kernel
theorem dX1_add_0 : decode cX1_add 0 = .ok (.aload_n 0, 1) := by decide +kernel
theorem dX1_add_1 : decode cX1_add 1 = .ok (.getfield 15, 3) := by decide +kernel
theorem dX1_add_4 : decode cX1_add 4 = .ok (.aload_n 0, 1) := by decide +kernel
theorem dX1_add_5 : decode cX1_add 5 = .ok (.getfield 9, 3) := by decide +kernel
theorem dX1_add_8 : decode cX1_add 8 = .ok (.arraylength, 1) := by decide +kernel
theorem dX1_add_9 : decode cX1_add 9 = .ok (.if_icmp .lt 4, 3) := by decide +kernel
theorem dX1_add_12 : decode cX1_add 12 = .ok (.return_, 1) := by decide +kernel
theorem dX1_add_13 : decode cX1_add 13 = .ok (.aload_n 0, 1) := by decide +kernel
theorem dX1_add_14 : decode cX1_add 14 = .ok (.getfield 15, 3) := by decide +kernel
theorem dX1_add_17 : decode cX1_add 17 = .ok (.istore_n 3, 1) := by decide +kernel
theorem dX1_add_18 : decode cX1_add 18 = .ok (.aload_n 0, 1) := by decide +kernel
theorem dX1_add_19 : decode cX1_add 19 = .ok (.dup, 1) := by decide +kernel
theorem dX1_add_20 : decode cX1_add 20 = .ok (.getfield 15, 3) := by decide +kernel
theorem dX1_add_23 : decode cX1_add 23 = .ok (.iconst 1, 1) := by decide +kernel
theorem dX1_add_24 : decode cX1_add 24 = .ok (.iadd, 1) := by decide +kernel
theorem dX1_add_25 : decode cX1_add 25 = .ok (.putfield 15, 3) := by decide +kernel
theorem dX1_add_28 : decode cX1_add 28 = .ok (.iload_n 3, 1) := by decide +kernel
theorem dX1_add_29 : decode cX1_add 29 = .ok (.ifCond .le 44, 3) := by decide +kernel
theorem dX1_add_32 : decode cX1_add 32 = .ok (.iload_n 3, 1) := by decide +kernel
theorem dX1_add_33 : decode cX1_add 33 = .ok (.iconst 1, 1) := by decide +kernel
theorem dX1_add_34 : decode cX1_add 34 = .ok (.isub, 1) := by decide +kernel
theorem dX1_add_35 : decode cX1_add 35 = .ok (.iconst 2, 1) := by decide +kernel
theorem dX1_add_36 : decode cX1_add 36 = .ok (.idiv, 1) := by decide +kernel
theorem dX1_add_37 : decode cX1_add 37 = .ok (.istore 4, 2) := by decide +kernel
theorem dX1_add_39 : decode cX1_add 39 = .ok (.aload_n 0, 1) := by decide +kernel
theorem dX1_add_40 : decode cX1_add 40 = .ok (.getfield 9, 3) := by decide +kernel
theorem dX1_add_43 : decode cX1_add 43 = .ok (.iload 4, 2) := by decide +kernel
theorem dX1_add_45 : decode cX1_add 45 = .ok (.laload, 1) := by decide +kernel
theorem dX1_add_46 : decode cX1_add 46 = .ok (.lload_n 1, 1) := by decide +kernel
theorem dX1_add_47 : decode cX1_add 47 = .ok (.lcmp, 1) := by decide +kernel
theorem dX1_add_48 : decode cX1_add 48 = .ok (.ifCond .gt 6, 3) := by decide +kernel
theorem dX1_add_51 : decode cX1_add 51 = .ok (.goto 22, 3) := by decide +kernel
theorem dX1_add_54 : decode cX1_add 54 = .ok (.aload_n 0, 1) := by decide +kernel
theorem dX1_add_55 : decode cX1_add 55 = .ok (.getfield 9, 3) := by decide +kernel
theorem dX1_add_58 : decode cX1_add 58 = .ok (.iload_n 3, 1) := by decide +kernel
theorem dX1_add_59 : decode cX1_add 59 = .ok (.aload_n 0, 1) := by decide +kernel
theorem dX1_add_60 : decode cX1_add 60 = .ok (.getfield 9, 3) := by decide +kernel
theorem dX1_add_63 : decode cX1_add 63 = .ok (.iload 4, 2) := by decide +kernel
theorem dX1_add_65 : decode cX1_add 65 = .ok (.laload, 1) := by decide +kernel
theorem dX1_add_66 : decode cX1_add 66 = .ok (.lastore, 1) := by decide +kernel
theorem dX1_add_67 : decode cX1_add 67 = .ok (.iload 4, 2) := by decide +kernel
theorem dX1_add_69 : decode cX1_add 69 = .ok (.istore_n 3, 1) := by decide +kernel
theorem dX1_add_70 : decode cX1_add 70 = .ok (.goto (-42), 3) := by decide +kernel
theorem dX1_add_73 : decode cX1_add 73 = .ok (.aload_n 0, 1) := by decide +kernel
theorem dX1_add_74 : decode cX1_add 74 = .ok (.getfield 9, 3) := by decide +kernel
theorem dX1_add_77 : decode cX1_add 77 = .ok (.iload_n 3, 1) := by decide +kernel
theorem dX1_add_78 : decode cX1_add 78 = .ok (.lload_n 1, 1) := by decide +kernel
theorem dX1_add_79 : decode cX1_add 79 = .ok (.lastore, 1) := by decide +kernel
theorem dX1_add_80 : decode cX1_add 80 = .ok (.return_, 1) := by decide +kernel
set_option maxRecDepth 20000 in
theorem ggX1_takeLeast_X1_sink : GoodIn wsX1_takeLeast wsX1_sink := goodIn_r _ [7, 1, 2, 8, 9] (by decide +kernel) (by decide +kernel)
set_option maxRecDepth 20000 in
theorem gX1_takeLeast_X1_sink : GoodIn wsX1_takeLeast (wsV RX1 19 RX1 yX1_sink wsX1_sink) := goodIn_app (goodIn_of _ (by decide +kernel)) ggX1_takeLeast_X1_sink
theorem dX1_takeLeast_0 : decode cX1_takeLeast 0 = .ok (.aload_n 0, 1) := by decide +kernel
theorem dX1_takeLeast_1 : decode cX1_takeLeast 1 = .ok (.getfield 15, 3) := by decide +kernel
theorem dX1_takeLeast_4 : decode cX1_takeLeast 4 = .ok (.ifCond .ne 5, 3) := by decide +kernel
theorem dX1_takeLeast_7 : decode cX1_takeLeast 7 = .ok (.lconst 0, 1) := by decide +kernel
theorem dX1_takeLeast_8 : decode cX1_takeLeast 8 = .ok (.lreturn, 1) := by decide +kernel
theorem dX1_takeLeast_9 : decode cX1_takeLeast 9 = .ok (.aload_n 0, 1) := by decide +kernel
theorem dX1_takeLeast_10 : decode cX1_takeLeast 10 = .ok (.getfield 9, 3) := by decide +kernel
theorem dX1_takeLeast_13 : decode cX1_takeLeast 13 = .ok (.iconst 0, 1) := by decide +kernel
theorem dX1_takeLeast_14 : decode cX1_takeLeast 14 = .ok (.laload, 1) := by decide +kernel
theorem dX1_takeLeast_15 : decode cX1_takeLeast 15 = .ok (.lstore_n 1, 1) := by decide +kernel
theorem dX1_takeLeast_16 : decode cX1_takeLeast 16 = .ok (.aload_n 0, 1) := by decide +kernel
theorem dX1_takeLeast_17 : decode cX1_takeLeast 17 = .ok (.dup, 1) := by decide +kernel
theorem dX1_takeLeast_18 : decode cX1_takeLeast 18 = .ok (.getfield 15, 3) := by decide +kernel
theorem dX1_takeLeast_21 : decode cX1_takeLeast 21 = .ok (.iconst 1, 1) := by decide +kernel
theorem dX1_takeLeast_22 : decode cX1_takeLeast 22 = .ok (.isub, 1) := by decide +kernel
theorem dX1_takeLeast_23 : decode cX1_takeLeast 23 = .ok (.putfield 15, 3) := by decide +kernel
theorem dX1_takeLeast_26 : decode cX1_takeLeast 26 = .ok (.aload_n 0, 1) := by decide +kernel
theorem dX1_takeLeast_27 : decode cX1_takeLeast 27 = .ok (.aload_n 0, 1) := by decide +kernel
theorem dX1_takeLeast_28 : decode cX1_takeLeast 28 = .ok (.getfield 9, 3) := by decide +kernel
theorem dX1_takeLeast_31 : decode cX1_takeLeast 31 = .ok (.aload_n 0, 1) := by decide +kernel
theorem dX1_takeLeast_32 : decode cX1_takeLeast 32 = .ok (.getfield 15, 3) := by decide +kernel
theorem dX1_takeLeast_35 : decode cX1_takeLeast 35 = .ok (.laload, 1) := by decide +kernel
theorem dX1_takeLeast_36 : decode cX1_takeLeast 36 = .ok (.invokevirtual 19, 3) := by decide +kernel
theorem dX1_takeLeast_39 : decode cX1_takeLeast 39 = .ok (.lload_n 1, 1) := by decide +kernel
theorem dX1_takeLeast_40 : decode cX1_takeLeast 40 = .ok (.lreturn, 1) := by decide +kernel
theorem dX1_sink_0 : decode cX1_sink 0 = .ok (.iconst 0, 1) := by decide +kernel
theorem dX1_sink_1 : decode cX1_sink 1 = .ok (.istore_n 3, 1) := by decide +kernel
theorem dX1_sink_2 : decode cX1_sink 2 = .ok (.iconst 1, 1) := by decide +kernel
theorem dX1_sink_3 : decode cX1_sink 3 = .ok (.istore 4, 2) := by decide +kernel
theorem dX1_sink_5 : decode cX1_sink 5 = .ok (.iload 4, 2) := by decide +kernel
theorem dX1_sink_7 : decode cX1_sink 7 = .ok (.aload_n 0, 1) := by decide +kernel
theorem dX1_sink_8 : decode cX1_sink 8 = .ok (.getfield 15, 3) := by decide +kernel
theorem dX1_sink_11 : decode cX1_sink 11 = .ok (.if_icmp .ge 86, 3) := by decide +kernel
theorem dX1_sink_14 : decode cX1_sink 14 = .ok (.iload 4, 2) := by decide +kernel
theorem dX1_sink_16 : decode cX1_sink 16 = .ok (.iconst 1, 1) := by decide +kernel
theorem dX1_sink_17 : decode cX1_sink 17 = .ok (.iadd, 1) := by decide +kernel
theorem dX1_sink_18 : decode cX1_sink 18 = .ok (.istore 5, 2) := by decide +kernel
theorem dX1_sink_20 : decode cX1_sink 20 = .ok (.iload 5, 2) := by decide +kernel
theorem dX1_sink_22 : decode cX1_sink 22 = .ok (.aload_n 0, 1) := by decide +kernel
theorem dX1_sink_23 : decode cX1_sink 23 = .ok (.getfield 15, 3) := by decide +kernel
theorem dX1_sink_26 : decode cX1_sink 26 = .ok (.if_icmp .ge 26, 3) := by decide +kernel
theorem dX1_sink_29 : decode cX1_sink 29 = .ok (.aload_n 0, 1) := by decide +kernel
theorem dX1_sink_30 : decode cX1_sink 30 = .ok (.getfield 9, 3) := by decide +kernel
theorem dX1_sink_33 : decode cX1_sink 33 = .ok (.iload 5, 2) := by decide +kernel
theorem dX1_sink_35 : decode cX1_sink 35 = .ok (.laload, 1) := by decide +kernel
theorem dX1_sink_36 : decode cX1_sink 36 = .ok (.aload_n 0, 1) := by decide +kernel
theorem dX1_sink_37 : decode cX1_sink 37 = .ok (.getfield 9, 3) := by decide +kernel
theorem dX1_sink_40 : decode cX1_sink 40 = .ok (.iload 4, 2) := by decide +kernel
theorem dX1_sink_42 : decode cX1_sink 42 = .ok (.laload, 1) := by decide +kernel
theorem dX1_sink_43 : decode cX1_sink 43 = .ok (.lcmp, 1) := by decide +kernel
theorem dX1_sink_44 : decode cX1_sink 44 = .ok (.ifCond .ge 8, 3) := by decide +kernel
theorem dX1_sink_47 : decode cX1_sink 47 = .ok (.iload 5, 2) := by decide +kernel
theorem dX1_sink_49 : decode cX1_sink 49 = .ok (.goto 5, 3) := by decide +kernel
theorem dX1_sink_52 : decode cX1_sink 52 = .ok (.iload 4, 2) := by decide +kernel
theorem dX1_sink_54 : decode cX1_sink 54 = .ok (.istore 6, 2) := by decide +kernel
theorem dX1_sink_56 : decode cX1_sink 56 = .ok (.aload_n 0, 1) := by decide +kernel
theorem dX1_sink_57 : decode cX1_sink 57 = .ok (.getfield 9, 3) := by decide +kernel
theorem dX1_sink_60 : decode cX1_sink 60 = .ok (.iload 6, 2) := by decide +kernel
theorem dX1_sink_62 : decode cX1_sink 62 = .ok (.laload, 1) := by decide +kernel
theorem dX1_sink_63 : decode cX1_sink 63 = .ok (.lload_n 1, 1) := by decide +kernel
theorem dX1_sink_64 : decode cX1_sink 64 = .ok (.lcmp, 1) := by decide +kernel
theorem dX1_sink_65 : decode cX1_sink 65 = .ok (.ifCond .lt 6, 3) := by decide +kernel
theorem dX1_sink_68 : decode cX1_sink 68 = .ok (.goto 29, 3) := by decide +kernel
theorem dX1_sink_71 : decode cX1_sink 71 = .ok (.aload_n 0, 1) := by decide +kernel
theorem dX1_sink_72 : decode cX1_sink 72 = .ok (.getfield 9, 3) := by decide +kernel
theorem dX1_sink_75 : decode cX1_sink 75 = .ok (.iload_n 3, 1) := by decide +kernel
theorem dX1_sink_76 : decode cX1_sink 76 = .ok (.aload_n 0, 1) := by decide +kernel
theorem dX1_sink_77 : decode cX1_sink 77 = .ok (.getfield 9, 3) := by decide +kernel
theorem dX1_sink_80 : decode cX1_sink 80 = .ok (.iload 6, 2) := by decide +kernel
theorem dX1_sink_82 : decode cX1_sink 82 = .ok (.laload, 1) := by decide +kernel
theorem dX1_sink_83 : decode cX1_sink 83 = .ok (.lastore, 1) := by decide +kernel
theorem dX1_sink_84 : decode cX1_sink 84 = .ok (.iload 6, 2) := by decide +kernel
theorem dX1_sink_86 : decode cX1_sink 86 = .ok (.istore_n 3, 1) := by decide +kernel
theorem dX1_sink_87 : decode cX1_sink 87 = .ok (.iconst 2, 1) := by decide +kernel
theorem dX1_sink_88 : decode cX1_sink 88 = .ok (.iload_n 3, 1) := by decide +kernel
theorem dX1_sink_89 : decode cX1_sink 89 = .ok (.imul, 1) := by decide +kernel
theorem dX1_sink_90 : decode cX1_sink 90 = .ok (.iconst 1, 1) := by decide +kernel
theorem dX1_sink_91 : decode cX1_sink 91 = .ok (.iadd, 1) := by decide +kernel
theorem dX1_sink_92 : decode cX1_sink 92 = .ok (.istore 4, 2) := by decide +kernel
theorem dX1_sink_94 : decode cX1_sink 94 = .ok (.goto (-89), 3) := by decide +kernel
theorem dX1_sink_97 : decode cX1_sink 97 = .ok (.aload_n 0, 1) := by decide +kernel
theorem dX1_sink_98 : decode cX1_sink 98 = .ok (.getfield 9, 3) := by decide +kernel
theorem dX1_sink_101 : decode cX1_sink 101 = .ok (.iload_n 3, 1) := by decide +kernel
theorem dX1_sink_102 : decode cX1_sink 102 = .ok (.lload_n 1, 1) := by decide +kernel
theorem dX1_sink_103 : decode cX1_sink 103 = .ok (.lastore, 1) := by decide +kernel
theorem dX1_sink_104 : decode cX1_sink 104 = .ok (.return_, 1) := by decide +kernel
theorem dX2_init_0 : decode cX2_init 0 = .ok (.aload_n 0, 1) := by decide +kernel
theorem dX2_init_1 : decode cX2_init 1 = .ok (.invokespecial 3, 3) := by decide +kernel
theorem dX2_init_4 : decode cX2_init 4 = .ok (.aload_n 0, 1) := by decide +kernel
theorem dX2_init_5 : decode cX2_init 5 = .ok (.bipush 8, 2) := by decide +kernel
theorem dX2_init_7 : decode cX2_init 7 = .ok (.newarray .int, 2) := by decide +kernel
theorem dX2_init_9 : decode cX2_init 9 = .ok (.putfield 9, 3) := by decide +kernel
theorem dX2_init_12 : decode cX2_init 12 = .ok (.aload_n 0, 1) := by decide +kernel
theorem dX2_init_13 : decode cX2_init 13 = .ok (.bipush 8, 2) := by decide +kernel
theorem dX2_init_15 : decode cX2_init 15 = .ok (.newarray .boolean, 2) := by decide +kernel
theorem dX2_init_17 : decode cX2_init 17 = .ok (.putfield 15, 3) := by decide +kernel
theorem dX2_init_20 : decode cX2_init 20 = .ok (.iconst 0, 1) := by decide +kernel
theorem dX2_init_21 : decode cX2_init 21 = .ok (.istore_n 1, 1) := by decide +kernel
theorem dX2_init_22 : decode cX2_init 22 = .ok (.iload_n 1, 1) := by decide +kernel
theorem dX2_init_23 : decode cX2_init 23 = .ok (.bipush 8, 2) := by decide +kernel
theorem dX2_init_25 : decode cX2_init 25 = .ok (.if_icmp .ge 24, 3) := by decide +kernel
theorem dX2_init_28 : decode cX2_init 28 = .ok (.aload_n 0, 1) := by decide +kernel
theorem dX2_init_29 : decode cX2_init 29 = .ok (.getfield 9, 3) := by decide +kernel
theorem dX2_init_32 : decode cX2_init 32 = .ok (.iload_n 1, 1) := by decide +kernel
theorem dX2_init_33 : decode cX2_init 33 = .ok (.bipush 10, 2) := by decide +kernel
theorem dX2_init_35 : decode cX2_init 35 = .ok (.iastore, 1) := by decide +kernel
theorem dX2_init_36 : decode cX2_init 36 = .ok (.aload_n 0, 1) := by decide +kernel
theorem dX2_init_37 : decode cX2_init 37 = .ok (.getfield 15, 3) := by decide +kernel
theorem dX2_init_40 : decode cX2_init 40 = .ok (.iload_n 1, 1) := by decide +kernel
theorem dX2_init_41 : decode cX2_init 41 = .ok (.iconst 1, 1) := by decide +kernel
theorem dX2_init_42 : decode cX2_init 42 = .ok (.bastore, 1) := by decide +kernel
theorem dX2_init_43 : decode cX2_init 43 = .ok (.iinc 1 1, 3) := by decide +kernel
theorem dX2_init_46 : decode cX2_init 46 = .ok (.goto (-24), 3) := by decide +kernel
theorem dX2_init_49 : decode cX2_init 49 = .ok (.return_, 1) := by decide +kernel
theorem dX3_init_0 : decode cX3_init 0 = .ok (.aload_n 0, 1) := by decide +kernel
theorem dX3_init_1 : decode cX3_init 1 = .ok (.invokespecial 3, 3) := by decide +kernel
theorem dX3_init_4 : decode cX3_init 4 = .ok (.aload_n 0, 1) := by decide +kernel
theorem dX3_init_5 : decode cX3_init 5 = .ok (.sipush 800, 3) := by decide +kernel
theorem dX3_init_8 : decode cX3_init 8 = .ok (.newarray .int, 2) := by decide +kernel
theorem dX3_init_10 : decode cX3_init 10 = .ok (.putfield 9, 3) := by decide +kernel
theorem dX3_init_13 : decode cX3_init 13 = .ok (.aload_n 0, 1) := by decide +kernel
theorem dX3_init_14 : decode cX3_init 14 = .ok (.sipush 401, 3) := by decide +kernel
theorem dX3_init_17 : decode cX3_init 17 = .ok (.newarray .int, 2) := by decide +kernel
theorem dX3_init_19 : decode cX3_init 19 = .ok (.putfield 15, 3) := by decide +kernel
theorem dX3_init_22 : decode cX3_init 22 = .ok (.aload_n 0, 1) := by decide +kernel
theorem dX3_init_23 : decode cX3_init 23 = .ok (.sipush 799, 3) := by decide +kernel
theorem dX3_init_26 : decode cX3_init 26 = .ok (.newarray .int, 2) := by decide +kernel
theorem dX3_init_28 : decode cX3_init 28 = .ok (.putfield 18, 3) := by decide +kernel
theorem dX3_init_31 : decode cX3_init 31 = .ok (.return_, 1) := by decide +kernel
theorem dX3_forget_0 : decode cX3_forget 0 = .ok (.aload_n 0, 1) := by decide +kernel
theorem dX3_forget_1 : decode cX3_forget 1 = .ok (.iconst 0, 1) := by decide +kernel
theorem dX3_forget_2 : decode cX3_forget 2 = .ok (.putfield 21, 3) := by decide +kernel
theorem dX3_forget_5 : decode cX3_forget 5 = .ok (.aload_n 0, 1) := by decide +kernel
theorem dX3_forget_6 : decode cX3_forget 6 = .ok (.iconst 0, 1) := by decide +kernel
theorem dX3_forget_7 : decode cX3_forget 7 = .ok (.putfield 25, 3) := by decide +kernel
theorem dX3_forget_10 : decode cX3_forget 10 = .ok (.return_, 1) := by decide +kernel
set_option maxRecDepth 20000 in
theorem ggX3_waysIn_X6_isIn : GoodIn wsX3_waysIn wsX6_isIn := goodIn_r _ [5] (by decide +kernel) (by decide +kernel)
set_option maxRecDepth 20000 in
theorem gX3_waysIn_X6_isIn_n29 : GoodIn wsX3_waysIn (wsX6_isIn) := ggX3_waysIn_X6_isIn
theorem dX3_waysIn_0 : decode cX3_waysIn 0 = .ok (.iload_n 1, 1) := by decide +kernel
theorem dX3_waysIn_1 : decode cX3_waysIn 1 = .ok (.iconst 0, 1) := by decide +kernel
theorem dX3_waysIn_2 : decode cX3_waysIn 2 = .ok (.aload_n 0, 1) := by decide +kernel
theorem dX3_waysIn_3 : decode cX3_waysIn 3 = .ok (.getfield 21, 3) := by decide +kernel
theorem dX3_waysIn_6 : decode cX3_waysIn 6 = .ok (.iconst 1, 1) := by decide +kernel
theorem dX3_waysIn_7 : decode cX3_waysIn 7 = .ok (.isub, 1) := by decide +kernel
theorem dX3_waysIn_8 : decode cX3_waysIn 8 = .ok (.invokestatic 29, 3) := by decide +kernel
theorem dX3_waysIn_11 : decode cX3_waysIn 11 = .ok (.ifCond .eq 21, 3) := by decide +kernel
theorem dX3_waysIn_14 : decode cX3_waysIn 14 = .ok (.aload_n 0, 1) := by decide +kernel
theorem dX3_waysIn_15 : decode cX3_waysIn 15 = .ok (.getfield 15, 3) := by decide +kernel
theorem dX3_waysIn_18 : decode cX3_waysIn 18 = .ok (.iload_n 1, 1) := by decide +kernel
theorem dX3_waysIn_19 : decode cX3_waysIn 19 = .ok (.iconst 1, 1) := by decide +kernel
theorem dX3_waysIn_20 : decode cX3_waysIn 20 = .ok (.iadd, 1) := by decide +kernel
theorem dX3_waysIn_21 : decode cX3_waysIn 21 = .ok (.iaload, 1) := by decide +kernel
theorem dX3_waysIn_22 : decode cX3_waysIn 22 = .ok (.aload_n 0, 1) := by decide +kernel
theorem dX3_waysIn_23 : decode cX3_waysIn 23 = .ok (.getfield 15, 3) := by decide +kernel
theorem dX3_waysIn_26 : decode cX3_waysIn 26 = .ok (.iload_n 1, 1) := by decide +kernel
theorem dX3_waysIn_27 : decode cX3_waysIn 27 = .ok (.iaload, 1) := by decide +kernel
theorem dX3_waysIn_28 : decode cX3_waysIn 28 = .ok (.isub, 1) := by decide +kernel
theorem dX3_waysIn_29 : decode cX3_waysIn 29 = .ok (.goto 4, 3) := by decide +kernel
theorem dX3_waysIn_32 : decode cX3_waysIn 32 = .ok (.iconst 0, 1) := by decide +kernel
theorem dX3_waysIn_33 : decode cX3_waysIn 33 = .ok (.ireturn, 1) := by decide +kernel
set_option maxRecDepth 20000 in
theorem ggX3_taken_X3_waysIn : GoodIn wsX3_taken wsX3_waysIn := goodIn_r _ [7, 8, 2, 9, 10, 11, 12, 13, 14, 15, 16] (by decide +kernel) (by decide +kernel)
set_option maxRecDepth 20000 in
theorem gX3_taken_X3_waysIn : GoodIn wsX3_taken (wsV RX3 33 RX3 yX3_waysIn wsX3_waysIn) := goodIn_app (goodIn_of _ (by decide +kernel)) ggX3_taken_X3_waysIn
set_option maxRecDepth 20000 in
theorem ggX3_taken_X6_isIn : GoodIn wsX3_taken wsX6_isIn := goodIn_r _ [11] (by decide +kernel) (by decide +kernel)
set_option maxRecDepth 20000 in
theorem gX3_taken_X6_isIn_n29 : GoodIn wsX3_taken (wsX6_isIn) := ggX3_taken_X6_isIn
theorem dX3_taken_0 : decode cX3_taken 0 = .ok (.iload_n 2, 1) := by decide +kernel
theorem dX3_taken_1 : decode cX3_taken 1 = .ok (.iconst 0, 1) := by decide +kernel
theorem dX3_taken_2 : decode cX3_taken 2 = .ok (.aload_n 0, 1) := by decide +kernel
theorem dX3_taken_3 : decode cX3_taken 3 = .ok (.iload_n 1, 1) := by decide +kernel
theorem dX3_taken_4 : decode cX3_taken 4 = .ok (.invokevirtual 33, 3) := by decide +kernel
theorem dX3_taken_7 : decode cX3_taken 7 = .ok (.iconst 1, 1) := by decide +kernel
theorem dX3_taken_8 : decode cX3_taken 8 = .ok (.isub, 1) := by decide +kernel
theorem dX3_taken_9 : decode cX3_taken 9 = .ok (.invokestatic 29, 3) := by decide +kernel
theorem dX3_taken_12 : decode cX3_taken 12 = .ok (.ifCond .eq 19, 3) := by decide +kernel
theorem dX3_taken_15 : decode cX3_taken 15 = .ok (.aload_n 0, 1) := by decide +kernel
theorem dX3_taken_16 : decode cX3_taken 16 = .ok (.getfield 9, 3) := by decide +kernel
theorem dX3_taken_19 : decode cX3_taken 19 = .ok (.aload_n 0, 1) := by decide +kernel
theorem dX3_taken_20 : decode cX3_taken 20 = .ok (.getfield 15, 3) := by decide +kernel
theorem dX3_taken_23 : decode cX3_taken 23 = .ok (.iload_n 1, 1) := by decide +kernel
theorem dX3_taken_24 : decode cX3_taken 24 = .ok (.iaload, 1) := by decide +kernel
theorem dX3_taken_25 : decode cX3_taken 25 = .ok (.iload_n 2, 1) := by decide +kernel
theorem dX3_taken_26 : decode cX3_taken 26 = .ok (.iadd, 1) := by decide +kernel
theorem dX3_taken_27 : decode cX3_taken 27 = .ok (.iaload, 1) := by decide +kernel
theorem dX3_taken_28 : decode cX3_taken 28 = .ok (.goto 4, 3) := by decide +kernel
theorem dX3_taken_31 : decode cX3_taken 31 = .ok (.iconst (-1), 1) := by decide +kernel
theorem dX3_taken_32 : decode cX3_taken 32 = .ok (.ireturn, 1) := by decide +kernel
set_option maxRecDepth 20000 in
theorem ggX3_tell_X1_forget : GoodIn wsX3_tell wsX1_forget := goodIn_r _ [11, 12, 72, 73] (by decide +kernel) (by decide +kernel)
set_option maxRecDepth 20000 in
theorem gX3_tell_X1_forget : GoodIn wsX3_tell (wsV RX3 37 RX1 yX1_forget wsX1_forget) := goodIn_app (goodIn_of _ (by decide +kernel)) ggX3_tell_X1_forget
set_option maxRecDepth 20000 in
theorem ggX3_tell_X5_sizeOf : GoodIn wsX3_tell wsX5_sizeOf := goodIn_r _ [17, 18, 19, 20, 21, 16, 22, 23, 24, 25, 26, 57, 58, 59, 60, 61, 62, 63, 64, 65, 66] (by decide +kernel) (by decide +kernel)
set_option maxRecDepth 20000 in
theorem gX3_tell_X5_sizeOf : GoodIn wsX3_tell (wsV RX3 47 RX5 yX5_sizeOf wsX5_sizeOf) := goodIn_app (goodIn_of _ (by decide +kernel)) ggX3_tell_X5_sizeOf
set_option maxRecDepth 20000 in
theorem ggX3_tell_X3_sized : GoodIn wsX3_tell wsX3_sized := goodIn_r _ [30, 31] (by decide +kernel) (by decide +kernel)
set_option maxRecDepth 20000 in
theorem gX3_tell_X3_sized : GoodIn wsX3_tell (va_wsS RX3 50 yX3_sized wsX3_sized) := goodIn_app (goodIn_of _ (by decide +kernel)) ggX3_tell_X3_sized
set_option maxRecDepth 20000 in
theorem ggX3_tell_X1_add : GoodIn wsX3_tell wsX1_add := goodIn_r _ [35, 12, 36, 72, 73] (by decide +kernel) (by decide +kernel)
set_option maxRecDepth 20000 in
theorem gX3_tell_X1_add : GoodIn wsX3_tell (wsV RX3 54 RX1 yX1_add wsX1_add) := goodIn_app (goodIn_of _ (by decide +kernel)) ggX3_tell_X1_add
set_option maxRecDepth 20000 in
theorem ggX3_tell_X3_mergesOf : GoodIn wsX3_tell wsX3_mergesOf := goodIn_r _ [39, 40, 41, 29, 42] (by decide +kernel) (by decide +kernel)
set_option maxRecDepth 20000 in
theorem gX3_tell_X3_mergesOf : GoodIn wsX3_tell (va_wsS RX3 58 yX3_mergesOf wsX3_mergesOf) := goodIn_app (goodIn_of _ (by decide +kernel)) ggX3_tell_X3_mergesOf
set_option maxRecDepth 20000 in
theorem ggX3_tell_X3_waysOf : GoodIn wsX3_tell wsX3_waysOf := goodIn_r _ [42] (by decide +kernel) (by decide +kernel)
set_option maxRecDepth 20000 in
theorem gX3_tell_X3_waysOf : GoodIn wsX3_tell (va_wsS RX3 67 yX3_waysOf wsX3_waysOf) := goodIn_app (goodIn_of _ (by decide +kernel)) ggX3_tell_X3_waysOf
set_option maxRecDepth 20000 in
theorem ggX3_tell_X3_takeFewest : GoodIn wsX3_tell wsX3_takeFewest := goodIn_r _ [46, 47, 48, 31, 49, 50, 51, 10, 52, 12, 36, 53, 54, 55, 56, 67, 68, 69, 70, 71, 72, 73] (by decide +kernel) (by decide +kernel)
set_option maxRecDepth 20000 in
theorem gX3_tell_X3_takeFewest : GoodIn wsX3_tell (wsV RX3 71 RX3 yX3_takeFewest wsX3_takeFewest) := goodIn_app (goodIn_of _ (by decide +kernel)) ggX3_tell_X3_takeFewest
theorem dX3_tell_0 : decode cX3_tell 0 = .ok (.aload_n 3, 1) := by decide +kernel
theorem dX3_tell_1 : decode cX3_tell 1 = .ok (.invokevirtual 37, 3) := by decide +kernel
theorem dX3_tell_4 : decode cX3_tell 4 = .ok (.iconst 0, 1) := by decide +kernel
theorem dX3_tell_5 : decode cX3_tell 5 = .ok (.istore 4, 2) := by decide +kernel
theorem dX3_tell_7 : decode cX3_tell 7 = .ok (.iload 4, 2) := by decide +kernel
theorem dX3_tell_9 : decode cX3_tell 9 = .ok (.aload_n 1, 1) := by decide +kernel
theorem dX3_tell_10 : decode cX3_tell 10 = .ok (.getfield 42, 3) := by decide +kernel
theorem dX3_tell_13 : decode cX3_tell 13 = .ok (.if_icmp .ge 24, 3) := by decide +kernel
theorem dX3_tell_16 : decode cX3_tell 16 = .ok (.aload_n 3, 1) := by decide +kernel
theorem dX3_tell_17 : decode cX3_tell 17 = .ok (.aload_n 1, 1) := by decide +kernel
theorem dX3_tell_18 : decode cX3_tell 18 = .ok (.iload 4, 2) := by decide +kernel
theorem dX3_tell_20 : decode cX3_tell 20 = .ok (.invokevirtual 47, 3) := by decide +kernel
theorem dX3_tell_23 : decode cX3_tell 23 = .ok (.iload 4, 2) := by decide +kernel
theorem dX3_tell_25 : decode cX3_tell 25 = .ok (.invokestatic 50, 3) := by decide +kernel
theorem dX3_tell_28 : decode cX3_tell 28 = .ok (.invokevirtual 54, 3) := by decide +kernel
theorem dX3_tell_31 : decode cX3_tell 31 = .ok (.iinc 4 1, 3) := by decide +kernel
theorem dX3_tell_34 : decode cX3_tell 34 = .ok (.goto (-27), 3) := by decide +kernel
theorem dX3_tell_37 : decode cX3_tell 37 = .ok (.iconst 0, 1) := by decide +kernel
theorem dX3_tell_38 : decode cX3_tell 38 = .ok (.istore 4, 2) := by decide +kernel
theorem dX3_tell_40 : decode cX3_tell 40 = .ok (.aload_n 0, 1) := by decide +kernel
theorem dX3_tell_41 : decode cX3_tell 41 = .ok (.aload_n 1, 1) := by decide +kernel
theorem dX3_tell_42 : decode cX3_tell 42 = .ok (.getfield 42, 3) := by decide +kernel
theorem dX3_tell_45 : decode cX3_tell 45 = .ok (.iload_n 2, 1) := by decide +kernel
theorem dX3_tell_46 : decode cX3_tell 46 = .ok (.invokestatic 58, 3) := by decide +kernel
theorem dX3_tell_49 : decode cX3_tell 49 = .ok (.sipush 400, 3) := by decide +kernel
theorem dX3_tell_52 : decode cX3_tell 52 = .ok (.invokestatic 62, 3) := by decide +kernel
theorem dX3_tell_55 : decode cX3_tell 55 = .ok (.putfield 21, 3) := by decide +kernel
theorem dX3_tell_58 : decode cX3_tell 58 = .ok (.aload_n 0, 1) := by decide +kernel
theorem dX3_tell_59 : decode cX3_tell 59 = .ok (.iconst 1, 1) := by decide +kernel
theorem dX3_tell_60 : decode cX3_tell 60 = .ok (.putfield 25, 3) := by decide +kernel
theorem dX3_tell_63 : decode cX3_tell 63 = .ok (.iconst 0, 1) := by decide +kernel
theorem dX3_tell_64 : decode cX3_tell 64 = .ok (.istore 5, 2) := by decide +kernel
theorem dX3_tell_66 : decode cX3_tell 66 = .ok (.iload 5, 2) := by decide +kernel
theorem dX3_tell_68 : decode cX3_tell 68 = .ok (.aload_n 0, 1) := by decide +kernel
theorem dX3_tell_69 : decode cX3_tell 69 = .ok (.getfield 21, 3) := by decide +kernel
theorem dX3_tell_72 : decode cX3_tell 72 = .ok (.if_icmp .ge 51, 3) := by decide +kernel
theorem dX3_tell_75 : decode cX3_tell 75 = .ok (.aload_n 0, 1) := by decide +kernel
theorem dX3_tell_76 : decode cX3_tell 76 = .ok (.iload 5, 2) := by decide +kernel
theorem dX3_tell_78 : decode cX3_tell 78 = .ok (.iload 5, 2) := by decide +kernel
theorem dX3_tell_80 : decode cX3_tell 80 = .ok (.aload_n 1, 1) := by decide +kernel
theorem dX3_tell_81 : decode cX3_tell 81 = .ok (.getfield 42, 3) := by decide +kernel
theorem dX3_tell_84 : decode cX3_tell 84 = .ok (.iload_n 2, 1) := by decide +kernel
theorem dX3_tell_85 : decode cX3_tell 85 = .ok (.invokestatic 67, 3) := by decide +kernel
theorem dX3_tell_88 : decode cX3_tell 88 = .ok (.aload_n 3, 1) := by decide +kernel
theorem dX3_tell_89 : decode cX3_tell 89 = .ok (.invokevirtual 71, 3) := by decide +kernel
theorem dX3_tell_92 : decode cX3_tell 92 = .ok (.istore 6, 2) := by decide +kernel
theorem dX3_tell_94 : decode cX3_tell 94 = .ok (.aload_n 3, 1) := by decide +kernel
theorem dX3_tell_95 : decode cX3_tell 95 = .ok (.iload 6, 2) := by decide +kernel
theorem dX3_tell_97 : decode cX3_tell 97 = .ok (.aload_n 1, 1) := by decide +kernel
theorem dX3_tell_98 : decode cX3_tell 98 = .ok (.getfield 42, 3) := by decide +kernel
theorem dX3_tell_101 : decode cX3_tell 101 = .ok (.iload 5, 2) := by decide +kernel
theorem dX3_tell_103 : decode cX3_tell 103 = .ok (.iadd, 1) := by decide +kernel
theorem dX3_tell_104 : decode cX3_tell 104 = .ok (.invokestatic 50, 3) := by decide +kernel
theorem dX3_tell_107 : decode cX3_tell 107 = .ok (.invokevirtual 54, 3) := by decide +kernel
theorem dX3_tell_110 : decode cX3_tell 110 = .ok (.iload 4, 2) := by decide +kernel
theorem dX3_tell_112 : decode cX3_tell 112 = .ok (.iload 6, 2) := by decide +kernel
theorem dX3_tell_114 : decode cX3_tell 114 = .ok (.iadd, 1) := by decide +kernel
theorem dX3_tell_115 : decode cX3_tell 115 = .ok (.istore 4, 2) := by decide +kernel
theorem dX3_tell_117 : decode cX3_tell 117 = .ok (.iinc 5 1, 3) := by decide +kernel
theorem dX3_tell_120 : decode cX3_tell 120 = .ok (.goto (-54), 3) := by decide +kernel
theorem dX3_tell_123 : decode cX3_tell 123 = .ok (.iload 4, 2) := by decide +kernel
theorem dX3_tell_125 : decode cX3_tell 125 = .ok (.ireturn, 1) := by decide +kernel
set_option maxRecDepth 20000 in
theorem ggX3_takeFewest_X1_takeLeast : GoodIn wsX3_takeFewest wsX1_takeLeast := goodIn_r _ [8, 9, 10, 11, 12, 13, 7, 14, 20, 21] (by decide +kernel) (by decide +kernel)
set_option maxRecDepth 20000 in
theorem gX3_takeFewest_X1_takeLeast : GoodIn wsX3_takeFewest (wsV RX3 75 RX1 yX1_takeLeast wsX1_takeLeast) := goodIn_app (goodIn_of _ (by decide +kernel)) ggX3_takeFewest_X1_takeLeast
theorem dX3_takeFewest_0 : decode cX3_takeFewest 0 = .ok (.iconst 0, 1) := by decide +kernel
theorem dX3_takeFewest_1 : decode cX3_takeFewest 1 = .ok (.istore 4, 2) := by decide +kernel
theorem dX3_takeFewest_3 : decode cX3_takeFewest 3 = .ok (.aload_n 0, 1) := by decide +kernel
theorem dX3_takeFewest_4 : decode cX3_takeFewest 4 = .ok (.getfield 15, 3) := by decide +kernel
theorem dX3_takeFewest_7 : decode cX3_takeFewest 7 = .ok (.iload_n 1, 1) := by decide +kernel
theorem dX3_takeFewest_8 : decode cX3_takeFewest 8 = .ok (.iaload, 1) := by decide +kernel
theorem dX3_takeFewest_9 : decode cX3_takeFewest 9 = .ok (.istore 5, 2) := by decide +kernel
theorem dX3_takeFewest_11 : decode cX3_takeFewest 11 = .ok (.iconst 0, 1) := by decide +kernel
theorem dX3_takeFewest_12 : decode cX3_takeFewest 12 = .ok (.istore 6, 2) := by decide +kernel
theorem dX3_takeFewest_14 : decode cX3_takeFewest 14 = .ok (.iload 6, 2) := by decide +kernel
theorem dX3_takeFewest_16 : decode cX3_takeFewest 16 = .ok (.iload_n 2, 1) := by decide +kernel
theorem dX3_takeFewest_17 : decode cX3_takeFewest 17 = .ok (.if_icmp .ge 54, 3) := by decide +kernel
theorem dX3_takeFewest_20 : decode cX3_takeFewest 20 = .ok (.iload 5, 2) := by decide +kernel
theorem dX3_takeFewest_22 : decode cX3_takeFewest 22 = .ok (.aload_n 0, 1) := by decide +kernel
theorem dX3_takeFewest_23 : decode cX3_takeFewest 23 = .ok (.getfield 9, 3) := by decide +kernel
theorem dX3_takeFewest_26 : decode cX3_takeFewest 26 = .ok (.arraylength, 1) := by decide +kernel
theorem dX3_takeFewest_27 : decode cX3_takeFewest 27 = .ok (.if_icmp .ge 44, 3) := by decide +kernel
theorem dX3_takeFewest_30 : decode cX3_takeFewest 30 = .ok (.aload_n 3, 1) := by decide +kernel
theorem dX3_takeFewest_31 : decode cX3_takeFewest 31 = .ok (.invokevirtual 75, 3) := by decide +kernel
theorem dX3_takeFewest_34 : decode cX3_takeFewest 34 = .ok (.lstore 7, 2) := by decide +kernel
theorem dX3_takeFewest_36 : decode cX3_takeFewest 36 = .ok (.aload_n 0, 1) := by decide +kernel
theorem dX3_takeFewest_37 : decode cX3_takeFewest 37 = .ok (.getfield 9, 3) := by decide +kernel
theorem dX3_takeFewest_40 : decode cX3_takeFewest 40 = .ok (.iload 5, 2) := by decide +kernel
theorem dX3_takeFewest_42 : decode cX3_takeFewest 42 = .ok (.lload 7, 2) := by decide +kernel
theorem dX3_takeFewest_44 : decode cX3_takeFewest 44 = .ok (.ldc2_w 79, 3) := by decide +kernel
theorem dX3_takeFewest_47 : decode cX3_takeFewest 47 = .ok (.lrem, 1) := by decide +kernel
theorem dX3_takeFewest_48 : decode cX3_takeFewest 48 = .ok (.l2i, 1) := by decide +kernel
theorem dX3_takeFewest_49 : decode cX3_takeFewest 49 = .ok (.iastore, 1) := by decide +kernel
theorem dX3_takeFewest_50 : decode cX3_takeFewest 50 = .ok (.iload 4, 2) := by decide +kernel
theorem dX3_takeFewest_52 : decode cX3_takeFewest 52 = .ok (.lload 7, 2) := by decide +kernel
theorem dX3_takeFewest_54 : decode cX3_takeFewest 54 = .ok (.ldc2_w 79, 3) := by decide +kernel
theorem dX3_takeFewest_57 : decode cX3_takeFewest 57 = .ok (.ldiv, 1) := by decide +kernel
theorem dX3_takeFewest_58 : decode cX3_takeFewest 58 = .ok (.l2i, 1) := by decide +kernel
theorem dX3_takeFewest_59 : decode cX3_takeFewest 59 = .ok (.iadd, 1) := by decide +kernel
theorem dX3_takeFewest_60 : decode cX3_takeFewest 60 = .ok (.istore 4, 2) := by decide +kernel
theorem dX3_takeFewest_62 : decode cX3_takeFewest 62 = .ok (.iinc 5 1, 3) := by decide +kernel
theorem dX3_takeFewest_65 : decode cX3_takeFewest 65 = .ok (.iinc 6 1, 3) := by decide +kernel
theorem dX3_takeFewest_68 : decode cX3_takeFewest 68 = .ok (.goto (-54), 3) := by decide +kernel
theorem dX3_takeFewest_71 : decode cX3_takeFewest 71 = .ok (.aload_n 0, 1) := by decide +kernel
theorem dX3_takeFewest_72 : decode cX3_takeFewest 72 = .ok (.getfield 15, 3) := by decide +kernel
theorem dX3_takeFewest_75 : decode cX3_takeFewest 75 = .ok (.iload_n 1, 1) := by decide +kernel
theorem dX3_takeFewest_76 : decode cX3_takeFewest 76 = .ok (.iconst 1, 1) := by decide +kernel
theorem dX3_takeFewest_77 : decode cX3_takeFewest 77 = .ok (.iadd, 1) := by decide +kernel
theorem dX3_takeFewest_78 : decode cX3_takeFewest 78 = .ok (.iload 5, 2) := by decide +kernel
theorem dX3_takeFewest_80 : decode cX3_takeFewest 80 = .ok (.iastore, 1) := by decide +kernel
theorem dX3_takeFewest_81 : decode cX3_takeFewest 81 = .ok (.iload 4, 2) := by decide +kernel
theorem dX3_takeFewest_83 : decode cX3_takeFewest 83 = .ok (.ireturn, 1) := by decide +kernel
set_option maxRecDepth 20000 in
theorem ggX3_movedByQueue_X5_sizeOf : GoodIn wsX3_movedByQueue wsX5_sizeOf := goodIn_r _ [10, 11, 12, 13, 14, 9, 15, 16, 17, 18, 19, 27, 28, 29, 30, 31, 32, 33, 34, 35, 36] (by decide +kernel) (by decide +kernel)
set_option maxRecDepth 20000 in
theorem gX3_movedByQueue_X5_sizeOf : GoodIn wsX3_movedByQueue (wsV RX3 47 RX5 yX5_sizeOf wsX5_sizeOf) := goodIn_app (goodIn_of _ (by decide +kernel)) ggX3_movedByQueue_X5_sizeOf
set_option maxRecDepth 20000 in
theorem ggX3_movedByQueue_X3_mergesOf : GoodIn wsX3_movedByQueue wsX3_mergesOf := goodIn_r _ [23, 24, 25, 22, 26] (by decide +kernel) (by decide +kernel)
set_option maxRecDepth 20000 in
theorem gX3_movedByQueue_X3_mergesOf : GoodIn wsX3_movedByQueue (va_wsS RX3 58 yX3_mergesOf wsX3_mergesOf) := goodIn_app (goodIn_of _ (by decide +kernel)) ggX3_movedByQueue_X3_mergesOf
set_option maxRecDepth 20000 in
theorem ggX3_movedByQueue_X3_waysOf : GoodIn wsX3_movedByQueue wsX3_waysOf := goodIn_r _ [26] (by decide +kernel) (by decide +kernel)
set_option maxRecDepth 20000 in
theorem gX3_movedByQueue_X3_waysOf : GoodIn wsX3_movedByQueue (va_wsS RX3 67 yX3_waysOf wsX3_waysOf) := goodIn_app (goodIn_of _ (by decide +kernel)) ggX3_movedByQueue_X3_waysOf
theorem dX3_movedByQueue_0 : decode cX3_movedByQueue 0 = .ok (.iconst 0, 1) := by decide +kernel
theorem dX3_movedByQueue_1 : decode cX3_movedByQueue 1 = .ok (.istore_n 3, 1) := by decide +kernel
theorem dX3_movedByQueue_2 : decode cX3_movedByQueue 2 = .ok (.iload_n 3, 1) := by decide +kernel
theorem dX3_movedByQueue_3 : decode cX3_movedByQueue 3 = .ok (.aload_n 1, 1) := by decide +kernel
theorem dX3_movedByQueue_4 : decode cX3_movedByQueue 4 = .ok (.getfield 42, 3) := by decide +kernel
theorem dX3_movedByQueue_7 : decode cX3_movedByQueue 7 = .ok (.if_icmp .ge 20, 3) := by decide +kernel
theorem dX3_movedByQueue_10 : decode cX3_movedByQueue 10 = .ok (.aload_n 0, 1) := by decide +kernel
theorem dX3_movedByQueue_11 : decode cX3_movedByQueue 11 = .ok (.getfield 18, 3) := by decide +kernel
theorem dX3_movedByQueue_14 : decode cX3_movedByQueue 14 = .ok (.iload_n 3, 1) := by decide +kernel
theorem dX3_movedByQueue_15 : decode cX3_movedByQueue 15 = .ok (.aload_n 1, 1) := by decide +kernel
theorem dX3_movedByQueue_16 : decode cX3_movedByQueue 16 = .ok (.iload_n 3, 1) := by decide +kernel
theorem dX3_movedByQueue_17 : decode cX3_movedByQueue 17 = .ok (.invokevirtual 47, 3) := by decide +kernel
theorem dX3_movedByQueue_20 : decode cX3_movedByQueue 20 = .ok (.iastore, 1) := by decide +kernel
theorem dX3_movedByQueue_21 : decode cX3_movedByQueue 21 = .ok (.iinc 3 1, 3) := by decide +kernel
theorem dX3_movedByQueue_24 : decode cX3_movedByQueue 24 = .ok (.goto (-22), 3) := by decide +kernel
theorem dX3_movedByQueue_27 : decode cX3_movedByQueue 27 = .ok (.iconst 0, 1) := by decide +kernel
theorem dX3_movedByQueue_28 : decode cX3_movedByQueue 28 = .ok (.istore_n 3, 1) := by decide +kernel
theorem dX3_movedByQueue_29 : decode cX3_movedByQueue 29 = .ok (.iconst 0, 1) := by decide +kernel
theorem dX3_movedByQueue_30 : decode cX3_movedByQueue 30 = .ok (.istore 4, 2) := by decide +kernel
theorem dX3_movedByQueue_32 : decode cX3_movedByQueue 32 = .ok (.aload_n 1, 1) := by decide +kernel
theorem dX3_movedByQueue_33 : decode cX3_movedByQueue 33 = .ok (.getfield 42, 3) := by decide +kernel
theorem dX3_movedByQueue_36 : decode cX3_movedByQueue 36 = .ok (.aload_n 1, 1) := by decide +kernel
theorem dX3_movedByQueue_37 : decode cX3_movedByQueue 37 = .ok (.getfield 42, 3) := by decide +kernel
theorem dX3_movedByQueue_40 : decode cX3_movedByQueue 40 = .ok (.iload_n 2, 1) := by decide +kernel
theorem dX3_movedByQueue_41 : decode cX3_movedByQueue 41 = .ok (.invokestatic 58, 3) := by decide +kernel
theorem dX3_movedByQueue_44 : decode cX3_movedByQueue 44 = .ok (.iadd, 1) := by decide +kernel
theorem dX3_movedByQueue_45 : decode cX3_movedByQueue 45 = .ok (.sipush 799, 3) := by decide +kernel
theorem dX3_movedByQueue_48 : decode cX3_movedByQueue 48 = .ok (.invokestatic 62, 3) := by decide +kernel
theorem dX3_movedByQueue_51 : decode cX3_movedByQueue 51 = .ok (.istore 5, 2) := by decide +kernel
theorem dX3_movedByQueue_53 : decode cX3_movedByQueue 53 = .ok (.aload_n 1, 1) := by decide +kernel
theorem dX3_movedByQueue_54 : decode cX3_movedByQueue 54 = .ok (.getfield 42, 3) := by decide +kernel
theorem dX3_movedByQueue_57 : decode cX3_movedByQueue 57 = .ok (.istore 6, 2) := by decide +kernel
theorem dX3_movedByQueue_59 : decode cX3_movedByQueue 59 = .ok (.iload 6, 2) := by decide +kernel
theorem dX3_movedByQueue_61 : decode cX3_movedByQueue 61 = .ok (.iload 5, 2) := by decide +kernel
theorem dX3_movedByQueue_63 : decode cX3_movedByQueue 63 = .ok (.if_icmp .ge 78, 3) := by decide +kernel
theorem dX3_movedByQueue_66 : decode cX3_movedByQueue 66 = .ok (.iconst 0, 1) := by decide +kernel
theorem dX3_movedByQueue_67 : decode cX3_movedByQueue 67 = .ok (.istore 7, 2) := by decide +kernel
theorem dX3_movedByQueue_69 : decode cX3_movedByQueue 69 = .ok (.iload 4, 2) := by decide +kernel
theorem dX3_movedByQueue_71 : decode cX3_movedByQueue 71 = .ok (.iload 6, 2) := by decide +kernel
theorem dX3_movedByQueue_73 : decode cX3_movedByQueue 73 = .ok (.aload_n 1, 1) := by decide +kernel
theorem dX3_movedByQueue_74 : decode cX3_movedByQueue 74 = .ok (.getfield 42, 3) := by decide +kernel
theorem dX3_movedByQueue_77 : decode cX3_movedByQueue 77 = .ok (.isub, 1) := by decide +kernel
theorem dX3_movedByQueue_78 : decode cX3_movedByQueue 78 = .ok (.aload_n 1, 1) := by decide +kernel
theorem dX3_movedByQueue_79 : decode cX3_movedByQueue 79 = .ok (.getfield 42, 3) := by decide +kernel
theorem dX3_movedByQueue_82 : decode cX3_movedByQueue 82 = .ok (.iload_n 2, 1) := by decide +kernel
theorem dX3_movedByQueue_83 : decode cX3_movedByQueue 83 = .ok (.invokestatic 67, 3) := by decide +kernel
theorem dX3_movedByQueue_86 : decode cX3_movedByQueue 86 = .ok (.iadd, 1) := by decide +kernel
theorem dX3_movedByQueue_87 : decode cX3_movedByQueue 87 = .ok (.istore 8, 2) := by decide +kernel
theorem dX3_movedByQueue_89 : decode cX3_movedByQueue 89 = .ok (.iload 4, 2) := by decide +kernel
theorem dX3_movedByQueue_91 : decode cX3_movedByQueue 91 = .ok (.iload 8, 2) := by decide +kernel
theorem dX3_movedByQueue_93 : decode cX3_movedByQueue 93 = .ok (.if_icmp .ge 28, 3) := by decide +kernel
theorem dX3_movedByQueue_96 : decode cX3_movedByQueue 96 = .ok (.iload 4, 2) := by decide +kernel
theorem dX3_movedByQueue_98 : decode cX3_movedByQueue 98 = .ok (.iload 6, 2) := by decide +kernel
theorem dX3_movedByQueue_100 : decode cX3_movedByQueue 100 = .ok (.if_icmp .ge 21, 3) := by decide +kernel
theorem dX3_movedByQueue_103 : decode cX3_movedByQueue 103 = .ok (.iload 7, 2) := by decide +kernel
theorem dX3_movedByQueue_105 : decode cX3_movedByQueue 105 = .ok (.aload_n 0, 1) := by decide +kernel
theorem dX3_movedByQueue_106 : decode cX3_movedByQueue 106 = .ok (.getfield 18, 3) := by decide +kernel
theorem dX3_movedByQueue_109 : decode cX3_movedByQueue 109 = .ok (.iload 4, 2) := by decide +kernel
theorem dX3_movedByQueue_111 : decode cX3_movedByQueue 111 = .ok (.iaload, 1) := by decide +kernel
theorem dX3_movedByQueue_112 : decode cX3_movedByQueue 112 = .ok (.iadd, 1) := by decide +kernel
theorem dX3_movedByQueue_113 : decode cX3_movedByQueue 113 = .ok (.istore 7, 2) := by decide +kernel
theorem dX3_movedByQueue_115 : decode cX3_movedByQueue 115 = .ok (.iinc 4 1, 3) := by decide +kernel
theorem dX3_movedByQueue_118 : decode cX3_movedByQueue 118 = .ok (.goto (-29), 3) := by decide +kernel
theorem dX3_movedByQueue_121 : decode cX3_movedByQueue 121 = .ok (.aload_n 0, 1) := by decide +kernel
theorem dX3_movedByQueue_122 : decode cX3_movedByQueue 122 = .ok (.getfield 18, 3) := by decide +kernel
theorem dX3_movedByQueue_125 : decode cX3_movedByQueue 125 = .ok (.iload 6, 2) := by decide +kernel
theorem dX3_movedByQueue_127 : decode cX3_movedByQueue 127 = .ok (.iload 7, 2) := by decide +kernel
theorem dX3_movedByQueue_129 : decode cX3_movedByQueue 129 = .ok (.iastore, 1) := by decide +kernel
theorem dX3_movedByQueue_130 : decode cX3_movedByQueue 130 = .ok (.iload_n 3, 1) := by decide +kernel
theorem dX3_movedByQueue_131 : decode cX3_movedByQueue 131 = .ok (.iload 7, 2) := by decide +kernel
theorem dX3_movedByQueue_133 : decode cX3_movedByQueue 133 = .ok (.iadd, 1) := by decide +kernel
theorem dX3_movedByQueue_134 : decode cX3_movedByQueue 134 = .ok (.istore_n 3, 1) := by decide +kernel
theorem dX3_movedByQueue_135 : decode cX3_movedByQueue 135 = .ok (.iinc 6 1, 3) := by decide +kernel
theorem dX3_movedByQueue_138 : decode cX3_movedByQueue 138 = .ok (.goto (-79), 3) := by decide +kernel
theorem dX3_movedByQueue_141 : decode cX3_movedByQueue 141 = .ok (.iload_n 3, 1) := by decide +kernel
theorem dX3_movedByQueue_142 : decode cX3_movedByQueue 142 = .ok (.ireturn, 1) := by decide +kernel
theorem dX3_sized_0 : decode cX3_sized 0 = .ok (.iload_n 0, 1) := by decide +kernel
theorem dX3_sized_1 : decode cX3_sized 1 = .ok (.i2l, 1) := by decide +kernel
theorem dX3_sized_2 : decode cX3_sized 2 = .ok (.ldc2_w 79, 3) := by decide +kernel
theorem dX3_sized_5 : decode cX3_sized 5 = .ok (.lmul, 1) := by decide +kernel
theorem dX3_sized_6 : decode cX3_sized 6 = .ok (.iload_n 1, 1) := by decide +kernel
theorem dX3_sized_7 : decode cX3_sized 7 = .ok (.i2l, 1) := by decide +kernel
theorem dX3_sized_8 : decode cX3_sized 8 = .ok (.ladd, 1) := by decide +kernel
theorem dX3_sized_9 : decode cX3_sized 9 = .ok (.lreturn, 1) := by decide +kernel
theorem dX3_waysOf_0 : decode cX3_waysOf 0 = .ok (.iload_n 0, 1) := by decide +kernel
theorem dX3_waysOf_1 : decode cX3_waysOf 1 = .ok (.ifCond .gt 8, 3) := by decide +kernel
theorem dX3_waysOf_4 : decode cX3_waysOf 4 = .ok (.iload_n 2, 1) := by decide +kernel
theorem dX3_waysOf_5 : decode cX3_waysOf 5 = .ok (.iconst 2, 1) := by decide +kernel
theorem dX3_waysOf_6 : decode cX3_waysOf 6 = .ok (.if_icmp .ge 5, 3) := by decide +kernel
theorem dX3_waysOf_9 : decode cX3_waysOf 9 = .ok (.iload_n 2, 1) := by decide +kernel
theorem dX3_waysOf_10 : decode cX3_waysOf 10 = .ok (.ireturn, 1) := by decide +kernel
theorem dX3_waysOf_11 : decode cX3_waysOf 11 = .ok (.iconst 2, 1) := by decide +kernel
theorem dX3_waysOf_12 : decode cX3_waysOf 12 = .ok (.iload_n 1, 1) := by decide +kernel
theorem dX3_waysOf_13 : decode cX3_waysOf 13 = .ok (.iconst 2, 1) := by decide +kernel
theorem dX3_waysOf_14 : decode cX3_waysOf 14 = .ok (.isub, 1) := by decide +kernel
theorem dX3_waysOf_15 : decode cX3_waysOf 15 = .ok (.iload_n 2, 1) := by decide +kernel
theorem dX3_waysOf_16 : decode cX3_waysOf 16 = .ok (.iconst 1, 1) := by decide +kernel
theorem dX3_waysOf_17 : decode cX3_waysOf 17 = .ok (.isub, 1) := by decide +kernel
theorem dX3_waysOf_18 : decode cX3_waysOf 18 = .ok (.irem, 1) := by decide +kernel
theorem dX3_waysOf_19 : decode cX3_waysOf 19 = .ok (.iadd, 1) := by decide +kernel
theorem dX3_waysOf_20 : decode cX3_waysOf 20 = .ok (.ireturn, 1) := by decide +kernel
set_option maxRecDepth 20000 in
theorem ggX3_mergesOf_X3_waysOf : GoodIn wsX3_mergesOf wsX3_waysOf := goodIn_r _ [4] (by decide +kernel) (by decide +kernel)
set_option maxRecDepth 20000 in
theorem gX3_mergesOf_X3_waysOf : GoodIn wsX3_mergesOf (va_wsS RX3 67 yX3_waysOf wsX3_waysOf) := goodIn_app (goodIn_of _ (by decide +kernel)) ggX3_mergesOf_X3_waysOf
theorem dX3_mergesOf_0 : decode cX3_mergesOf 0 = .ok (.iload_n 0, 1) := by decide +kernel
theorem dX3_mergesOf_1 : decode cX3_mergesOf 1 = .ok (.iconst 2, 1) := by decide +kernel
theorem dX3_mergesOf_2 : decode cX3_mergesOf 2 = .ok (.if_icmp .lt 8, 3) := by decide +kernel
theorem dX3_mergesOf_5 : decode cX3_mergesOf 5 = .ok (.iload_n 1, 1) := by decide +kernel
theorem dX3_mergesOf_6 : decode cX3_mergesOf 6 = .ok (.iconst 2, 1) := by decide +kernel
theorem dX3_mergesOf_7 : decode cX3_mergesOf 7 = .ok (.if_icmp .ge 5, 3) := by decide +kernel
theorem dX3_mergesOf_10 : decode cX3_mergesOf 10 = .ok (.iconst 0, 1) := by decide +kernel
theorem dX3_mergesOf_11 : decode cX3_mergesOf 11 = .ok (.ireturn, 1) := by decide +kernel
theorem dX3_mergesOf_12 : decode cX3_mergesOf 12 = .ok (.iconst 1, 1) := by decide +kernel
theorem dX3_mergesOf_13 : decode cX3_mergesOf 13 = .ok (.iload_n 0, 1) := by decide +kernel
theorem dX3_mergesOf_14 : decode cX3_mergesOf 14 = .ok (.iconst 0, 1) := by decide +kernel
theorem dX3_mergesOf_15 : decode cX3_mergesOf 15 = .ok (.iload_n 0, 1) := by decide +kernel
theorem dX3_mergesOf_16 : decode cX3_mergesOf 16 = .ok (.iload_n 1, 1) := by decide +kernel
theorem dX3_mergesOf_17 : decode cX3_mergesOf 17 = .ok (.invokestatic 67, 3) := by decide +kernel
theorem dX3_mergesOf_20 : decode cX3_mergesOf 20 = .ok (.isub, 1) := by decide +kernel
theorem dX3_mergesOf_21 : decode cX3_mergesOf 21 = .ok (.iload_n 1, 1) := by decide +kernel
theorem dX3_mergesOf_22 : decode cX3_mergesOf 22 = .ok (.iconst 1, 1) := by decide +kernel
theorem dX3_mergesOf_23 : decode cX3_mergesOf 23 = .ok (.isub, 1) := by decide +kernel
theorem dX3_mergesOf_24 : decode cX3_mergesOf 24 = .ok (.idiv, 1) := by decide +kernel
theorem dX3_mergesOf_25 : decode cX3_mergesOf 25 = .ok (.iadd, 1) := by decide +kernel
theorem dX3_mergesOf_26 : decode cX3_mergesOf 26 = .ok (.ireturn, 1) := by decide +kernel
theorem dX4_init_0 : decode cX4_init 0 = .ok (.aload_n 0, 1) := by decide +kernel
theorem dX4_init_1 : decode cX4_init 1 = .ok (.invokespecial 3, 3) := by decide +kernel
theorem dX4_init_4 : decode cX4_init 4 = .ok (.aload_n 0, 1) := by decide +kernel
theorem dX4_init_5 : decode cX4_init 5 = .ok (.sipush 400, 3) := by decide +kernel
theorem dX4_init_8 : decode cX4_init 8 = .ok (.newarray .int, 2) := by decide +kernel
theorem dX4_init_10 : decode cX4_init 10 = .ok (.putfield 9, 3) := by decide +kernel
theorem dX4_init_13 : decode cX4_init 13 = .ok (.aload_n 0, 1) := by decide +kernel
theorem dX4_init_14 : decode cX4_init 14 = .ok (.sipush 400, 3) := by decide +kernel
theorem dX4_init_17 : decode cX4_init 17 = .ok (.newarray .int, 2) := by decide +kernel
theorem dX4_init_19 : decode cX4_init 19 = .ok (.putfield 15, 3) := by decide +kernel
theorem dX4_init_22 : decode cX4_init 22 = .ok (.aload_n 0, 1) := by decide +kernel
theorem dX4_init_23 : decode cX4_init 23 = .ok (.iconst 4, 1) := by decide +kernel
theorem dX4_init_24 : decode cX4_init 24 = .ok (.newarray .int, 2) := by decide +kernel
theorem dX4_init_26 : decode cX4_init 26 = .ok (.dup, 1) := by decide +kernel
theorem dX4_init_27 : decode cX4_init 27 = .ok (.iconst 0, 1) := by decide +kernel
theorem dX4_init_28 : decode cX4_init 28 = .ok (.iconst 0, 1) := by decide +kernel
theorem dX4_init_29 : decode cX4_init 29 = .ok (.iastore, 1) := by decide +kernel
theorem dX4_init_30 : decode cX4_init 30 = .ok (.dup, 1) := by decide +kernel
theorem dX4_init_31 : decode cX4_init 31 = .ok (.iconst 1, 1) := by decide +kernel
theorem dX4_init_32 : decode cX4_init 32 = .ok (.iconst 1, 1) := by decide +kernel
theorem dX4_init_33 : decode cX4_init 33 = .ok (.iastore, 1) := by decide +kernel
theorem dX4_init_34 : decode cX4_init 34 = .ok (.dup, 1) := by decide +kernel
theorem dX4_init_35 : decode cX4_init 35 = .ok (.iconst 2, 1) := by decide +kernel
theorem dX4_init_36 : decode cX4_init 36 = .ok (.iconst 2, 1) := by decide +kernel
theorem dX4_init_37 : decode cX4_init 37 = .ok (.iastore, 1) := by decide +kernel
theorem dX4_init_38 : decode cX4_init 38 = .ok (.dup, 1) := by decide +kernel
theorem dX4_init_39 : decode cX4_init 39 = .ok (.iconst 3, 1) := by decide +kernel
theorem dX4_init_40 : decode cX4_init 40 = .ok (.iconst 3, 1) := by decide +kernel
theorem dX4_init_41 : decode cX4_init 41 = .ok (.iastore, 1) := by decide +kernel
theorem dX4_init_42 : decode cX4_init 42 = .ok (.putfield 18, 3) := by decide +kernel
theorem dX4_init_45 : decode cX4_init 45 = .ok (.aload_n 0, 1) := by decide +kernel
theorem dX4_init_46 : decode cX4_init 46 = .ok (.iconst 4, 1) := by decide +kernel
theorem dX4_init_47 : decode cX4_init 47 = .ok (.newarray .boolean, 2) := by decide +kernel
theorem dX4_init_49 : decode cX4_init 49 = .ok (.putfield 21, 3) := by decide +kernel
theorem dX4_init_52 : decode cX4_init 52 = .ok (.return_, 1) := by decide +kernel
set_option maxRecDepth 20000 in
theorem ggX4_has_X6_isIn : GoodIn wsX4_has wsX6_isIn := goodIn_r _ [4] (by decide +kernel) (by decide +kernel)
set_option maxRecDepth 20000 in
theorem gX4_has_X6_isIn_n29 : GoodIn wsX4_has (wsX6_isIn) := ggX4_has_X6_isIn
theorem dX4_has_0 : decode cX4_has 0 = .ok (.iload_n 1, 1) := by decide +kernel
theorem dX4_has_1 : decode cX4_has 1 = .ok (.iconst 0, 1) := by decide +kernel
theorem dX4_has_2 : decode cX4_has 2 = .ok (.aload_n 0, 1) := by decide +kernel
theorem dX4_has_3 : decode cX4_has 3 = .ok (.getfield 25, 3) := by decide +kernel
theorem dX4_has_6 : decode cX4_has 6 = .ok (.iconst 1, 1) := by decide +kernel
theorem dX4_has_7 : decode cX4_has 7 = .ok (.isub, 1) := by decide +kernel
theorem dX4_has_8 : decode cX4_has 8 = .ok (.invokestatic 29, 3) := by decide +kernel
theorem dX4_has_11 : decode cX4_has 11 = .ok (.ireturn, 1) := by decide +kernel
theorem dX4_hasRoomFor_0 : decode cX4_hasRoomFor 0 = .ok (.iload_n 1, 1) := by decide +kernel
theorem dX4_hasRoomFor_1 : decode cX4_hasRoomFor 1 = .ok (.sipush 400, 3) := by decide +kernel
theorem dX4_hasRoomFor_4 : decode cX4_hasRoomFor 4 = .ok (.aload_n 0, 1) := by decide +kernel
theorem dX4_hasRoomFor_5 : decode cX4_hasRoomFor 5 = .ok (.getfield 25, 3) := by decide +kernel
theorem dX4_hasRoomFor_8 : decode cX4_hasRoomFor 8 = .ok (.isub, 1) := by decide +kernel
theorem dX4_hasRoomFor_9 : decode cX4_hasRoomFor 9 = .ok (.if_icmp .gt 7, 3) := by decide +kernel
theorem dX4_hasRoomFor_12 : decode cX4_hasRoomFor 12 = .ok (.iconst 1, 1) := by decide +kernel
theorem dX4_hasRoomFor_13 : decode cX4_hasRoomFor 13 = .ok (.goto 4, 3) := by decide +kernel
theorem dX4_hasRoomFor_16 : decode cX4_hasRoomFor 16 = .ok (.iconst 0, 1) := by decide +kernel
theorem dX4_hasRoomFor_17 : decode cX4_hasRoomFor 17 = .ok (.ireturn, 1) := by decide +kernel
theorem dX4_add_0 : decode cX4_add 0 = .ok (.aload_n 0, 1) := by decide +kernel
theorem dX4_add_1 : decode cX4_add 1 = .ok (.getfield 25, 3) := by decide +kernel
theorem dX4_add_4 : decode cX4_add 4 = .ok (.sipush 400, 3) := by decide +kernel
theorem dX4_add_7 : decode cX4_add 7 = .ok (.if_icmp .ge 33, 3) := by decide +kernel
theorem dX4_add_10 : decode cX4_add 10 = .ok (.aload_n 0, 1) := by decide +kernel
theorem dX4_add_11 : decode cX4_add 11 = .ok (.getfield 9, 3) := by decide +kernel
theorem dX4_add_14 : decode cX4_add 14 = .ok (.aload_n 0, 1) := by decide +kernel
theorem dX4_add_15 : decode cX4_add 15 = .ok (.getfield 25, 3) := by decide +kernel
theorem dX4_add_18 : decode cX4_add 18 = .ok (.iload_n 1, 1) := by decide +kernel
theorem dX4_add_19 : decode cX4_add 19 = .ok (.iastore, 1) := by decide +kernel
theorem dX4_add_20 : decode cX4_add 20 = .ok (.aload_n 0, 1) := by decide +kernel
theorem dX4_add_21 : decode cX4_add 21 = .ok (.getfield 15, 3) := by decide +kernel
theorem dX4_add_24 : decode cX4_add 24 = .ok (.aload_n 0, 1) := by decide +kernel
theorem dX4_add_25 : decode cX4_add 25 = .ok (.getfield 25, 3) := by decide +kernel
theorem dX4_add_28 : decode cX4_add 28 = .ok (.iload_n 2, 1) := by decide +kernel
theorem dX4_add_29 : decode cX4_add 29 = .ok (.iastore, 1) := by decide +kernel
theorem dX4_add_30 : decode cX4_add 30 = .ok (.aload_n 0, 1) := by decide +kernel
theorem dX4_add_31 : decode cX4_add 31 = .ok (.dup, 1) := by decide +kernel
theorem dX4_add_32 : decode cX4_add 32 = .ok (.getfield 25, 3) := by decide +kernel
theorem dX4_add_35 : decode cX4_add 35 = .ok (.iconst 1, 1) := by decide +kernel
theorem dX4_add_36 : decode cX4_add 36 = .ok (.iadd, 1) := by decide +kernel
theorem dX4_add_37 : decode cX4_add 37 = .ok (.putfield 25, 3) := by decide +kernel
theorem dX4_add_40 : decode cX4_add 40 = .ok (.return_, 1) := by decide +kernel
set_option maxRecDepth 20000 in
theorem ggX4_placeOf_X4_has : GoodIn wsX4_placeOf wsX4_has := goodIn_r _ [12, 13, 14, 15, 16, 17, 18, 19, 20, 21] (by decide +kernel) (by decide +kernel)
set_option maxRecDepth 20000 in
theorem gX4_placeOf_X4_has : GoodIn wsX4_placeOf (wsV RX4 33 RX4 yX4_has wsX4_has) := goodIn_app (goodIn_of _ (by decide +kernel)) ggX4_placeOf_X4_has
theorem dX4_placeOf_0 : decode cX4_placeOf 0 = .ok (.aload_n 0, 1) := by decide +kernel
theorem dX4_placeOf_1 : decode cX4_placeOf 1 = .ok (.iload_n 1, 1) := by decide +kernel
theorem dX4_placeOf_2 : decode cX4_placeOf 2 = .ok (.invokevirtual 33, 3) := by decide +kernel
theorem dX4_placeOf_5 : decode cX4_placeOf 5 = .ok (.ifCond .ne 6, 3) := by decide +kernel
theorem dX4_placeOf_8 : decode cX4_placeOf 8 = .ok (.ldc 37, 2) := by decide +kernel
theorem dX4_placeOf_10 : decode cX4_placeOf 10 = .ok (.ireturn, 1) := by decide +kernel
theorem dX4_placeOf_11 : decode cX4_placeOf 11 = .ok (.aload_n 0, 1) := by decide +kernel
theorem dX4_placeOf_12 : decode cX4_placeOf 12 = .ok (.getfield 9, 3) := by decide +kernel
theorem dX4_placeOf_15 : decode cX4_placeOf 15 = .ok (.iload_n 1, 1) := by decide +kernel
theorem dX4_placeOf_16 : decode cX4_placeOf 16 = .ok (.iaload, 1) := by decide +kernel
theorem dX4_placeOf_17 : decode cX4_placeOf 17 = .ok (.istore_n 2, 1) := by decide +kernel
theorem dX4_placeOf_18 : decode cX4_placeOf 18 = .ok (.aload_n 0, 1) := by decide +kernel
theorem dX4_placeOf_19 : decode cX4_placeOf 19 = .ok (.getfield 21, 3) := by decide +kernel
theorem dX4_placeOf_22 : decode cX4_placeOf 22 = .ok (.iload_n 2, 1) := by decide +kernel
theorem dX4_placeOf_23 : decode cX4_placeOf 23 = .ok (.baload, 1) := by decide +kernel
theorem dX4_placeOf_24 : decode cX4_placeOf 24 = .ok (.ifCond .eq 13, 3) := by decide +kernel
theorem dX4_placeOf_27 : decode cX4_placeOf 27 = .ok (.aload_n 0, 1) := by decide +kernel
theorem dX4_placeOf_28 : decode cX4_placeOf 28 = .ok (.getfield 15, 3) := by decide +kernel
theorem dX4_placeOf_31 : decode cX4_placeOf 31 = .ok (.iload_n 1, 1) := by decide +kernel
theorem dX4_placeOf_32 : decode cX4_placeOf 32 = .ok (.iaload, 1) := by decide +kernel
theorem dX4_placeOf_33 : decode cX4_placeOf 33 = .ok (.ineg, 1) := by decide +kernel
theorem dX4_placeOf_34 : decode cX4_placeOf 34 = .ok (.goto 9, 3) := by decide +kernel
theorem dX4_placeOf_37 : decode cX4_placeOf 37 = .ok (.aload_n 0, 1) := by decide +kernel
theorem dX4_placeOf_38 : decode cX4_placeOf 38 = .ok (.getfield 15, 3) := by decide +kernel
theorem dX4_placeOf_41 : decode cX4_placeOf 41 = .ok (.iload_n 1, 1) := by decide +kernel
theorem dX4_placeOf_42 : decode cX4_placeOf 42 = .ok (.iaload, 1) := by decide +kernel
theorem dX4_placeOf_43 : decode cX4_placeOf 43 = .ok (.istore_n 3, 1) := by decide +kernel
theorem dX4_placeOf_44 : decode cX4_placeOf 44 = .ok (.aload_n 0, 1) := by decide +kernel
theorem dX4_placeOf_45 : decode cX4_placeOf 45 = .ok (.getfield 18, 3) := by decide +kernel
theorem dX4_placeOf_48 : decode cX4_placeOf 48 = .ok (.iload_n 2, 1) := by decide +kernel
theorem dX4_placeOf_49 : decode cX4_placeOf 49 = .ok (.iaload, 1) := by decide +kernel
theorem dX4_placeOf_50 : decode cX4_placeOf 50 = .ok (.ldc 38, 2) := by decide +kernel
theorem dX4_placeOf_52 : decode cX4_placeOf 52 = .ok (.imul, 1) := by decide +kernel
theorem dX4_placeOf_53 : decode cX4_placeOf 53 = .ok (.iload_n 3, 1) := by decide +kernel
theorem dX4_placeOf_54 : decode cX4_placeOf 54 = .ok (.iadd, 1) := by decide +kernel
theorem dX4_placeOf_55 : decode cX4_placeOf 55 = .ok (.ldc 39, 2) := by decide +kernel
theorem dX4_placeOf_57 : decode cX4_placeOf 57 = .ok (.iadd, 1) := by decide +kernel
theorem dX4_placeOf_58 : decode cX4_placeOf 58 = .ok (.sipush 400, 3) := by decide +kernel
theorem dX4_placeOf_61 : decode cX4_placeOf 61 = .ok (.imul, 1) := by decide +kernel
theorem dX4_placeOf_62 : decode cX4_placeOf 62 = .ok (.iload_n 1, 1) := by decide +kernel
theorem dX4_placeOf_63 : decode cX4_placeOf 63 = .ok (.iadd, 1) := by decide +kernel
theorem dX4_placeOf_64 : decode cX4_placeOf 64 = .ok (.ireturn, 1) := by decide +kernel
theorem dX4_rowOf_0 : decode cX4_rowOf 0 = .ok (.lload_n 0, 1) := by decide +kernel
theorem dX4_rowOf_1 : decode cX4_rowOf 1 = .ok (.ldc2_w 40, 3) := by decide +kernel
theorem dX4_rowOf_4 : decode cX4_rowOf 4 = .ok (.lrem, 1) := by decide +kernel
theorem dX4_rowOf_5 : decode cX4_rowOf 5 = .ok (.l2i, 1) := by decide +kernel
theorem dX4_rowOf_6 : decode cX4_rowOf 6 = .ok (.ireturn, 1) := by decide +kernel
theorem dX5_init_0 : decode cX5_init 0 = .ok (.aload_n 0, 1) := by decide +kernel
theorem dX5_init_1 : decode cX5_init 1 = .ok (.invokespecial 3, 3) := by decide +kernel
theorem dX5_init_4 : decode cX5_init 4 = .ok (.aload_n 0, 1) := by decide +kernel
theorem dX5_init_5 : decode cX5_init 5 = .ok (.sipush 4000, 3) := by decide +kernel
theorem dX5_init_8 : decode cX5_init 8 = .ok (.newarray .int, 2) := by decide +kernel
theorem dX5_init_10 : decode cX5_init 10 = .ok (.putfield 9, 3) := by decide +kernel
end
section
def w_W (aW : Nat → Nat) (cI cJ cZ : ClassId) (W_sorts : (Nat → Int32)) (W_values : (Nat → Int32)) (W_turns : (Nat → Int32)) (W_falling : (Nat → Int32)) (W_count : Int32) : va_W := [(aW 0, .inr (4, [.ref (aW 1), .ref (aW 2), .ref (aW 3), .ref (aW 4), .int W_count])), (aW 1, .inl (cI, 400, .inl W_sorts)), (aW 2, .inl (cI, 400, .inl W_values)), (aW 3, .inl (cI, 4, .inl W_turns)), (aW 4, .inl (cZ, 4, .inl W_falling))]
def w_GWHRPCO (aG aW aH aR aP aC aO : Nat → Nat) (cI cJ cZ : ClassId) (W_sorts : (Nat → Int32)) (W_values : (Nat → Int32)) (W_turns : (Nat → Int32)) (W_falling : (Nat → Int32)) (W_count : Int32) (H_items : (Nat → Int64)) (H_size : Int32) (R_members : (Nat → Int32)) (R_starts : (Nat → Int32)) (R_inOrder : (Nat → Int32)) (R_standing : (Nat → Int32)) (R_heads : (Nat → Int32)) (R_tails : (Nat → Int32)) (R_rowsInAll : Int32) (R_made : Int32) (R_all : Int32) (R_filled : Int32) (P_takenRuns : (Nat → Int32)) (P_starts : (Nat → Int32)) (P_queued : (Nat → Int32)) (P_merges : Int32) (P_told : Int32) (C_sampled : (Nat → Int32)) (C_sampleStandings : (Nat → Int32)) (C_sizes : (Nat → Int32)) (C_ends : (Nat → Int32)) (C_lies : (Nat → Int32)) (C_merged : (Nat → Int32)) (C_reached : (Nat → Int32)) (C_done : (Nat → Int32)) (C_mergedBy : (Nat → Int32)) (C_parts : Int32) (C_samples : Int32) (C_bound : Int32) (C_ticks : Int32) (C_mergedInAll : Int32) (C_mergedAgain : Int32) (O_paces : (Nat → Int32)) (O_up : (Nat → Int32)) : va_W := [(aG 0, .inr (6, [.ref (aW 0), .ref (aH 0), .ref (aR 0), .ref (aP 0), .ref (aC 0), .ref (aO 0)])), (aW 0, .inr (4, [.ref (aW 1), .ref (aW 2), .ref (aW 3), .ref (aW 4), .int W_count])), (aW 1, .inl (cI, 400, .inl W_sorts)), (aW 2, .inl (cI, 400, .inl W_values)), (aW 3, .inl (cI, 4, .inl W_turns)), (aW 4, .inl (cZ, 4, .inl W_falling)), (aH 0, .inr (1, [.ref (aH 1), .int H_size])), (aH 1, .inl (cJ, 400, .inr (.inl H_items))), (aR 0, .inr (5, [.ref (aR 1), .ref (aR 2), .ref (aR 3), .ref (aR 4), .ref (aR 5), .ref (aR 6), .int R_rowsInAll, .int R_made, .int R_all, .int R_filled])), (aR 1, .inl (cI, 4000, .inl R_members)), (aR 2, .inl (cI, 800, .inl R_starts)), (aR 3, .inl (cI, 400, .inl R_inOrder)), (aR 4, .inl (cI, 400, .inl R_standing)), (aR 5, .inl (cI, 8, .inl R_heads)), (aR 6, .inl (cI, 8, .inl R_tails)), (aP 0, .inr (3, [.ref (aP 1), .ref (aP 2), .ref (aP 3), .int P_merges, .int P_told])), (aP 1, .inl (cI, 800, .inl P_takenRuns)), (aP 2, .inl (cI, 401, .inl P_starts)), (aP 3, .inl (cI, 799, .inl P_queued)), (aC 0, .inr (0, [.ref (aC 1), .ref (aC 2), .ref (aC 3), .ref (aC 4), .ref (aC 5), .ref (aC 6), .ref (aC 7), .ref (aC 8), .ref (aC 9), .int C_parts, .int C_samples, .int C_bound, .int C_ticks, .int C_mergedInAll, .int C_mergedAgain])), (aC 1, .inl (cZ, 400, .inl C_sampled)), (aC 2, .inl (cI, 400, .inl C_sampleStandings)), (aC 3, .inl (cI, 8, .inl C_sizes)), (aC 4, .inl (cI, 8, .inl C_ends)), (aC 5, .inl (cI, 8, .inl C_lies)), (aC 6, .inl (cI, 8, .inl C_merged)), (aC 7, .inl (cI, 8, .inl C_reached)), (aC 8, .inl (cZ, 8, .inl C_done)), (aC 9, .inl (cI, 8, .inl C_mergedBy)), (aO 0, .inr (2, [.ref (aO 1), .ref (aO 2)])), (aO 1, .inl (cI, 8, .inl O_paces)), (aO 2, .inl (cZ, 8, .inl O_up))]
def w_R (aR : Nat → Nat) (cI cJ cZ : ClassId) (R_members : (Nat → Int32)) (R_starts : (Nat → Int32)) (R_inOrder : (Nat → Int32)) (R_standing : (Nat → Int32)) (R_heads : (Nat → Int32)) (R_tails : (Nat → Int32)) (R_rowsInAll : Int32) (R_made : Int32) (R_all : Int32) (R_filled : Int32) : va_W := [(aR 0, .inr (5, [.ref (aR 1), .ref (aR 2), .ref (aR 3), .ref (aR 4), .ref (aR 5), .ref (aR 6), .int R_rowsInAll, .int R_made, .int R_all, .int R_filled])), (aR 1, .inl (cI, 4000, .inl R_members)), (aR 2, .inl (cI, 800, .inl R_starts)), (aR 3, .inl (cI, 400, .inl R_inOrder)), (aR 4, .inl (cI, 400, .inl R_standing)), (aR 5, .inl (cI, 8, .inl R_heads)), (aR 6, .inl (cI, 8, .inl R_tails))]
def w_P (aP : Nat → Nat) (cI cJ cZ : ClassId) (P_takenRuns : (Nat → Int32)) (P_starts : (Nat → Int32)) (P_queued : (Nat → Int32)) (P_merges : Int32) (P_told : Int32) : va_W := [(aP 0, .inr (3, [.ref (aP 1), .ref (aP 2), .ref (aP 3), .int P_merges, .int P_told])), (aP 1, .inl (cI, 800, .inl P_takenRuns)), (aP 2, .inl (cI, 401, .inl P_starts)), (aP 3, .inl (cI, 799, .inl P_queued))]
def w_C (aC : Nat → Nat) (cI cJ cZ : ClassId) (C_sampled : (Nat → Int32)) (C_sampleStandings : (Nat → Int32)) (C_sizes : (Nat → Int32)) (C_ends : (Nat → Int32)) (C_lies : (Nat → Int32)) (C_merged : (Nat → Int32)) (C_reached : (Nat → Int32)) (C_done : (Nat → Int32)) (C_mergedBy : (Nat → Int32)) (C_parts : Int32) (C_samples : Int32) (C_bound : Int32) (C_ticks : Int32) (C_mergedInAll : Int32) (C_mergedAgain : Int32) : va_W := [(aC 0, .inr (0, [.ref (aC 1), .ref (aC 2), .ref (aC 3), .ref (aC 4), .ref (aC 5), .ref (aC 6), .ref (aC 7), .ref (aC 8), .ref (aC 9), .int C_parts, .int C_samples, .int C_bound, .int C_ticks, .int C_mergedInAll, .int C_mergedAgain])), (aC 1, .inl (cZ, 400, .inl C_sampled)), (aC 2, .inl (cI, 400, .inl C_sampleStandings)), (aC 3, .inl (cI, 8, .inl C_sizes)), (aC 4, .inl (cI, 8, .inl C_ends)), (aC 5, .inl (cI, 8, .inl C_lies)), (aC 6, .inl (cI, 8, .inl C_merged)), (aC 7, .inl (cI, 8, .inl C_reached)), (aC 8, .inl (cZ, 8, .inl C_done)), (aC 9, .inl (cI, 8, .inl C_mergedBy))]
def w_H (aH : Nat → Nat) (cI cJ cZ : ClassId) (H_items : (Nat → Int64)) (H_size : Int32) : va_W := [(aH 0, .inr (1, [.ref (aH 1), .int H_size])), (aH 1, .inl (cJ, 400, .inr (.inl H_items)))]
def w_RWH (aR aW aH : Nat → Nat) (cI cJ cZ : ClassId) (R_members : (Nat → Int32)) (R_starts : (Nat → Int32)) (R_inOrder : (Nat → Int32)) (R_standing : (Nat → Int32)) (R_heads : (Nat → Int32)) (R_tails : (Nat → Int32)) (R_rowsInAll : Int32) (R_made : Int32) (R_all : Int32) (R_filled : Int32) (W_sorts : (Nat → Int32)) (W_values : (Nat → Int32)) (W_turns : (Nat → Int32)) (W_falling : (Nat → Int32)) (W_count : Int32) (H_items : (Nat → Int64)) (H_size : Int32) : va_W := [(aR 0, .inr (5, [.ref (aR 1), .ref (aR 2), .ref (aR 3), .ref (aR 4), .ref (aR 5), .ref (aR 6), .int R_rowsInAll, .int R_made, .int R_all, .int R_filled])), (aR 1, .inl (cI, 4000, .inl R_members)), (aR 2, .inl (cI, 800, .inl R_starts)), (aR 3, .inl (cI, 400, .inl R_inOrder)), (aR 4, .inl (cI, 400, .inl R_standing)), (aR 5, .inl (cI, 8, .inl R_heads)), (aR 6, .inl (cI, 8, .inl R_tails)), (aW 0, .inr (4, [.ref (aW 1), .ref (aW 2), .ref (aW 3), .ref (aW 4), .int W_count])), (aW 1, .inl (cI, 400, .inl W_sorts)), (aW 2, .inl (cI, 400, .inl W_values)), (aW 3, .inl (cI, 4, .inl W_turns)), (aW 4, .inl (cZ, 4, .inl W_falling)), (aH 0, .inr (1, [.ref (aH 1), .int H_size])), (aH 1, .inl (cJ, 400, .inr (.inl H_items)))]
def w_PH (aP aH : Nat → Nat) (cI cJ cZ : ClassId) (P_takenRuns : (Nat → Int32)) (P_starts : (Nat → Int32)) (P_queued : (Nat → Int32)) (P_merges : Int32) (P_told : Int32) (H_items : (Nat → Int64)) (H_size : Int32) : va_W := [(aP 0, .inr (3, [.ref (aP 1), .ref (aP 2), .ref (aP 3), .int P_merges, .int P_told])), (aP 1, .inl (cI, 800, .inl P_takenRuns)), (aP 2, .inl (cI, 401, .inl P_starts)), (aP 3, .inl (cI, 799, .inl P_queued)), (aH 0, .inr (1, [.ref (aH 1), .int H_size])), (aH 1, .inl (cJ, 400, .inr (.inl H_items)))]
def w_PRH (aP aR aH : Nat → Nat) (cI cJ cZ : ClassId) (P_takenRuns : (Nat → Int32)) (P_starts : (Nat → Int32)) (P_queued : (Nat → Int32)) (P_merges : Int32) (P_told : Int32) (R_members : (Nat → Int32)) (R_starts : (Nat → Int32)) (R_inOrder : (Nat → Int32)) (R_standing : (Nat → Int32)) (R_heads : (Nat → Int32)) (R_tails : (Nat → Int32)) (R_rowsInAll : Int32) (R_made : Int32) (R_all : Int32) (R_filled : Int32) (H_items : (Nat → Int64)) (H_size : Int32) : va_W := [(aP 0, .inr (3, [.ref (aP 1), .ref (aP 2), .ref (aP 3), .int P_merges, .int P_told])), (aP 1, .inl (cI, 800, .inl P_takenRuns)), (aP 2, .inl (cI, 401, .inl P_starts)), (aP 3, .inl (cI, 799, .inl P_queued)), (aR 0, .inr (5, [.ref (aR 1), .ref (aR 2), .ref (aR 3), .ref (aR 4), .ref (aR 5), .ref (aR 6), .int R_rowsInAll, .int R_made, .int R_all, .int R_filled])), (aR 1, .inl (cI, 4000, .inl R_members)), (aR 2, .inl (cI, 800, .inl R_starts)), (aR 3, .inl (cI, 400, .inl R_inOrder)), (aR 4, .inl (cI, 400, .inl R_standing)), (aR 5, .inl (cI, 8, .inl R_heads)), (aR 6, .inl (cI, 8, .inl R_tails)), (aH 0, .inr (1, [.ref (aH 1), .int H_size])), (aH 1, .inl (cJ, 400, .inr (.inl H_items)))]
def w_PR (aP aR : Nat → Nat) (cI cJ cZ : ClassId) (P_takenRuns : (Nat → Int32)) (P_starts : (Nat → Int32)) (P_queued : (Nat → Int32)) (P_merges : Int32) (P_told : Int32) (R_members : (Nat → Int32)) (R_starts : (Nat → Int32)) (R_inOrder : (Nat → Int32)) (R_standing : (Nat → Int32)) (R_heads : (Nat → Int32)) (R_tails : (Nat → Int32)) (R_rowsInAll : Int32) (R_made : Int32) (R_all : Int32) (R_filled : Int32) : va_W := [(aP 0, .inr (3, [.ref (aP 1), .ref (aP 2), .ref (aP 3), .int P_merges, .int P_told])), (aP 1, .inl (cI, 800, .inl P_takenRuns)), (aP 2, .inl (cI, 401, .inl P_starts)), (aP 3, .inl (cI, 799, .inl P_queued)), (aR 0, .inr (5, [.ref (aR 1), .ref (aR 2), .ref (aR 3), .ref (aR 4), .ref (aR 5), .ref (aR 6), .int R_rowsInAll, .int R_made, .int R_all, .int R_filled])), (aR 1, .inl (cI, 4000, .inl R_members)), (aR 2, .inl (cI, 800, .inl R_starts)), (aR 3, .inl (cI, 400, .inl R_inOrder)), (aR 4, .inl (cI, 400, .inl R_standing)), (aR 5, .inl (cI, 8, .inl R_heads)), (aR 6, .inl (cI, 8, .inl R_tails))]
def w_RP (aR aP : Nat → Nat) (cI cJ cZ : ClassId) (R_members : (Nat → Int32)) (R_starts : (Nat → Int32)) (R_inOrder : (Nat → Int32)) (R_standing : (Nat → Int32)) (R_heads : (Nat → Int32)) (R_tails : (Nat → Int32)) (R_rowsInAll : Int32) (R_made : Int32) (R_all : Int32) (R_filled : Int32) (P_takenRuns : (Nat → Int32)) (P_starts : (Nat → Int32)) (P_queued : (Nat → Int32)) (P_merges : Int32) (P_told : Int32) : va_W := [(aR 0, .inr (5, [.ref (aR 1), .ref (aR 2), .ref (aR 3), .ref (aR 4), .ref (aR 5), .ref (aR 6), .int R_rowsInAll, .int R_made, .int R_all, .int R_filled])), (aR 1, .inl (cI, 4000, .inl R_members)), (aR 2, .inl (cI, 800, .inl R_starts)), (aR 3, .inl (cI, 400, .inl R_inOrder)), (aR 4, .inl (cI, 400, .inl R_standing)), (aR 5, .inl (cI, 8, .inl R_heads)), (aR 6, .inl (cI, 8, .inl R_tails)), (aP 0, .inr (3, [.ref (aP 1), .ref (aP 2), .ref (aP 3), .int P_merges, .int P_told])), (aP 1, .inl (cI, 800, .inl P_takenRuns)), (aP 2, .inl (cI, 401, .inl P_starts)), (aP 3, .inl (cI, 799, .inl P_queued))]
def w_CR (aC aR : Nat → Nat) (cI cJ cZ : ClassId) (C_sampled : (Nat → Int32)) (C_sampleStandings : (Nat → Int32)) (C_sizes : (Nat → Int32)) (C_ends : (Nat → Int32)) (C_lies : (Nat → Int32)) (C_merged : (Nat → Int32)) (C_reached : (Nat → Int32)) (C_done : (Nat → Int32)) (C_mergedBy : (Nat → Int32)) (C_parts : Int32) (C_samples : Int32) (C_bound : Int32) (C_ticks : Int32) (C_mergedInAll : Int32) (C_mergedAgain : Int32) (R_members : (Nat → Int32)) (R_starts : (Nat → Int32)) (R_inOrder : (Nat → Int32)) (R_standing : (Nat → Int32)) (R_heads : (Nat → Int32)) (R_tails : (Nat → Int32)) (R_rowsInAll : Int32) (R_made : Int32) (R_all : Int32) (R_filled : Int32) : va_W := [(aC 0, .inr (0, [.ref (aC 1), .ref (aC 2), .ref (aC 3), .ref (aC 4), .ref (aC 5), .ref (aC 6), .ref (aC 7), .ref (aC 8), .ref (aC 9), .int C_parts, .int C_samples, .int C_bound, .int C_ticks, .int C_mergedInAll, .int C_mergedAgain])), (aC 1, .inl (cZ, 400, .inl C_sampled)), (aC 2, .inl (cI, 400, .inl C_sampleStandings)), (aC 3, .inl (cI, 8, .inl C_sizes)), (aC 4, .inl (cI, 8, .inl C_ends)), (aC 5, .inl (cI, 8, .inl C_lies)), (aC 6, .inl (cI, 8, .inl C_merged)), (aC 7, .inl (cI, 8, .inl C_reached)), (aC 8, .inl (cZ, 8, .inl C_done)), (aC 9, .inl (cI, 8, .inl C_mergedBy)), (aR 0, .inr (5, [.ref (aR 1), .ref (aR 2), .ref (aR 3), .ref (aR 4), .ref (aR 5), .ref (aR 6), .int R_rowsInAll, .int R_made, .int R_all, .int R_filled])), (aR 1, .inl (cI, 4000, .inl R_members)), (aR 2, .inl (cI, 800, .inl R_starts)), (aR 3, .inl (cI, 400, .inl R_inOrder)), (aR 4, .inl (cI, 400, .inl R_standing)), (aR 5, .inl (cI, 8, .inl R_heads)), (aR 6, .inl (cI, 8, .inl R_tails))]
def w_CO (aC aO : Nat → Nat) (cI cJ cZ : ClassId) (C_sampled : (Nat → Int32)) (C_sampleStandings : (Nat → Int32)) (C_sizes : (Nat → Int32)) (C_ends : (Nat → Int32)) (C_lies : (Nat → Int32)) (C_merged : (Nat → Int32)) (C_reached : (Nat → Int32)) (C_done : (Nat → Int32)) (C_mergedBy : (Nat → Int32)) (C_parts : Int32) (C_samples : Int32) (C_bound : Int32) (C_ticks : Int32) (C_mergedInAll : Int32) (C_mergedAgain : Int32) (O_paces : (Nat → Int32)) (O_up : (Nat → Int32)) : va_W := [(aC 0, .inr (0, [.ref (aC 1), .ref (aC 2), .ref (aC 3), .ref (aC 4), .ref (aC 5), .ref (aC 6), .ref (aC 7), .ref (aC 8), .ref (aC 9), .int C_parts, .int C_samples, .int C_bound, .int C_ticks, .int C_mergedInAll, .int C_mergedAgain])), (aC 1, .inl (cZ, 400, .inl C_sampled)), (aC 2, .inl (cI, 400, .inl C_sampleStandings)), (aC 3, .inl (cI, 8, .inl C_sizes)), (aC 4, .inl (cI, 8, .inl C_ends)), (aC 5, .inl (cI, 8, .inl C_lies)), (aC 6, .inl (cI, 8, .inl C_merged)), (aC 7, .inl (cI, 8, .inl C_reached)), (aC 8, .inl (cZ, 8, .inl C_done)), (aC 9, .inl (cI, 8, .inl C_mergedBy)), (aO 0, .inr (2, [.ref (aO 1), .ref (aO 2)])), (aO 1, .inl (cI, 8, .inl O_paces)), (aO 2, .inl (cZ, 8, .inl O_up))]
def w_M (aM : Nat → Nat) (cI cJ cZ : ClassId) (M_sorts : (Nat → Int32)) (M_values : (Nat → Int32)) (M_rows : Int32) (M_placeOf : (Nat → Int32)) (M_falling : (Nat → Int32)) (M_made : Int32) (M_runs : Int32) (M_allRuns : Int32) (M_begin : (Nat → Int32)) (M_size : (Nat → Int32)) (M_pool : (Nat → Int32)) (M_pooled : Int32) (M_ways : Int32) (M_merges : Int32) (M_takes : (Nat → Int32)) (M_taken : (Nat → Int32)) (M_parts : Int32) (M_every : Int32) (M_samples : Int32) (M_sample : (Nat → Int32)) (M_ends : (Nat → Int32)) (M_partSize : (Nat → Int32)) (M_merged : (Nat → Int32)) (M_most : (Nat → Int32)) (M_done : (Nat → Int32)) (M_on : (Nat → Int32)) (M_ticks : Int32) (M_mergedAll : Int32) (M_again : Int32) (M_paces : (Nat → Int32)) (M_up : (Nat → Int32)) (M_byHost : (Nat → Int32)) (M_heap : (Nat → Int32)) (M_used : (Nat → Int32)) (M_planned : (Nat → Int32)) (M_gone : (Nat → Int32)) : va_W := [(aM 0, .inr (7, [.ref (aM 1), .ref (aM 2), .int M_rows, .ref (aM 3), .ref (aM 4), .int M_made, .int M_runs, .int M_allRuns, .ref (aM 5), .ref (aM 6), .ref (aM 7), .int M_pooled, .int M_ways, .int M_merges, .ref (aM 8), .ref (aM 9), .int M_parts, .int M_every, .int M_samples, .ref (aM 10), .ref (aM 11), .ref (aM 12), .ref (aM 13), .ref (aM 14), .ref (aM 15), .ref (aM 16), .int M_ticks, .int M_mergedAll, .int M_again, .ref (aM 17), .ref (aM 18), .ref (aM 19), .ref (aM 20), .ref (aM 21), .ref (aM 22), .ref (aM 23)])), (aM 1, .inl (cI, 400, .inl M_sorts)), (aM 2, .inl (cI, 400, .inl M_values)), (aM 3, .inl (cI, 4, .inl M_placeOf)), (aM 4, .inl (cZ, 4, .inl M_falling)), (aM 5, .inl (cI, 800, .inl M_begin)), (aM 6, .inl (cI, 800, .inl M_size)), (aM 7, .inl (cI, 800, .inl M_pool)), (aM 8, .inl (cI, 400, .inl M_takes)), (aM 9, .inl (cI, 3200, .inl M_taken)), (aM 10, .inl (cI, 400, .inl M_sample)), (aM 11, .inl (cI, 8, .inl M_ends)), (aM 12, .inl (cI, 8, .inl M_partSize)), (aM 13, .inl (cI, 8, .inl M_merged)), (aM 14, .inl (cI, 8, .inl M_most)), (aM 15, .inl (cZ, 8, .inl M_done)), (aM 16, .inl (cI, 8, .inl M_on)), (aM 17, .inl (cI, 8, .inl M_paces)), (aM 18, .inl (cZ, 8, .inl M_up)), (aM 19, .inl (cI, 8, .inl M_byHost)), (aM 20, .inl (cI, 40, .inl M_heap)), (aM 21, .inl (cZ, 800, .inl M_used)), (aM 22, .inl (cI, 800, .inl M_planned)), (aM 23, .inl (cI, 8, .inl M_gone))]
end
section
def rm_X1_forget : Room := { frames := 0, cells := 0, slots := 0, locals := 0 }
set_option maxRecDepth 20000 in
theorem i_X1_forget_X1 : ∀ w ∈ u_ws RX1 TX1 2, w ∈ wsX1_forget := by decide +kernel
set_option maxRecDepth 20000 in
theorem m_X1_forget_0 : Cond.fieldLink RX1 15 "GreatSort$Heap" "size" "I" ∈ wsX1_forget := by decide +kernel
set_option maxHeartbeats 4000000 in
set_option maxRecDepth 100000 in
theorem c_X1_forget (l : Launch) (dC : Nat → ClassId) (dI : Nat → Nat → Nat) (cI cJ cZ : ClassId) (aH : Nat → Nat) (N : Nat) (H_items : (Nat → Int64)) (H_size : Int32)  {o_H_size : Int32} (hf : f_X1_forget N H_size  = some o_H_size) :
    CtV l yX1_forget wsX1_forget rm_X1_forget (dC, dI) (tyl cI cJ cZ) [.ref (aH 0)] (w_H aH cI cJ cZ H_items H_size) (w_H aH cI cJ cZ H_items o_H_size) := by
  refine startV (cc := cX1_forget) (maxL := 1) (rt := none) (by decide +kernel) rfl (Nat.le_of_ble_eq_true rfl) ?_
  intro p e s m below meth c A ls X hr hlocks hw hl
  replace X : Cx p m c cX1_forget 1 s _ wsX1_forget RX1 (dC, dI) (tyl cI cJ cZ) A := X
  replace hl : lv_has ls 1 [(0, .ref (aH 0))] := hl
  obtain ⟨hx, hb, hml, hown, hts⟩ := X.1
  have hK := X.2.1
  unfold f_X1_forget at hf
  refine lv_aload_n hx hb dX1_forget_0 rfl (lv_at hl 0 rfl) ?_
  refine lv_iconst (v := 0) hx hb dX1_forget_1 (by decide) ?_
  refine g_put (D := (dC, dI)) (ci := 1) (v := .int 0) (ty := .int) (C := RX1) (T := TX1) (N := 2) hx hb hts i_X1_forget_X1 tyX1 tyX1_ok nmX1 hown hK hw 0 rfl rfl 1 (by decide) (hts _ m_X1_forget_0) (fun _ h9 => h9) rfl (by decide +kernel) rfl rfl (Nat.le_of_ble_eq_true rfl) dX1_forget_2 (fun H locs hw => ?_)
  replace hw : Wd (dC, dI) A s.heap H locs (w_H aH cI cJ cZ H_items 0) := hw
  cases hf
  exact endV X hr hlocks hw dX1_forget_5
def rm_X1_add : Room := { frames := 0, cells := 0, slots := 0, locals := 0 }
set_option maxRecDepth 20000 in
theorem i_X1_add_X1 : ∀ w ∈ u_ws RX1 TX1 2, w ∈ wsX1_add := by decide +kernel
set_option maxRecDepth 20000 in
theorem m_X1_add_0 : Cond.fieldLink RX1 15 "GreatSort$Heap" "size" "I" ∈ wsX1_add := by decide +kernel
set_option maxRecDepth 20000 in
theorem m_X1_add_1 : Cond.fieldLink RX1 9 "GreatSort$Heap" "items" "[J" ∈ wsX1_add := by decide +kernel
set_option maxHeartbeats 4000000 in
set_option maxRecDepth 100000 in
theorem t_X1_add_28 {p : Program} {l : Launch} {e : Env} {s : State} {m : MethodId} {args : Array Value} {below : List Frame} {meth : Method} {c : Code} {Q : State → Prop} {dC : Nat → ClassId} {dI : Nat → Nat → Nat} {cI cJ cZ : ClassId} {A : Nat → Prop} (aH : Nat → Nat) (X : Cx p m c cX1_add 5 s args wsX1_add RX1 (dC, dI) (tyl cI cJ cZ) A) (N : Nat) (H_size : Int32) (v1 : Int64) :
    ∀ (n : Nat) (v3 : Int32) (H_items : (Nat → Int64)) (e3 : Int32) (e_H_items : (Nat → Int64)), l_X1_add_28 N v1 n v3 H_items = some (e3, e_H_items) → ∀ (H : Heap) (locs : List Loc) (ls : Array Slot), Wd (dC, dI) A s.heap H locs (w_H aH cI cJ cZ H_items H_size) → lv_has ls 5 [(0, .ref (aH 0)), (1, .long v1), (3, .int v3)] → (∀ (H : Heap) (locs : List Loc) (ls : Array Slot), Wd (dC, dI) A s.heap H locs (w_H aH cI cJ cZ e_H_items H_size) → lv_has ls 5 [(0, .ref (aH 0)), (1, .long v1), (3, .int e3)] → W p l e rm_X1_add s m args below meth c H locs 0 0 Q (F0 m 73 ls [])) → W p l e rm_X1_add s m args below meth c H locs 0 0 Q (F0 m 28 ls []) := by
  obtain ⟨hx, hb, hml, hown, hts⟩ := X.1
  have hK := X.2.1
  intro n
  induction n with
  | zero =>
    intro _ _ _ _ hf
    cases hf
  | succ n ih =>
    intro v3 H_items e3 e_H_items hf H locs ls hw hl kx
    rw [l_X1_add_28] at hf
    refine lv_iload_n hx hb dX1_add_28 rfl (lv_at hl 2 rfl) ?_
    refine lv_if_le (tgt := 73) hx hb dX1_add_29 (by decide) (fun b3 => ?_) (fun b3 => ?_)
    · replace hf := it_t hf b3
      cases hf
      exact kx _ _ _ hw (lv_sub hl [0, 1, 2] rfl)
    · replace hf := it_f hf b3
      refine lv_iload_n hx hb dX1_add_32 rfl (lv_at hl 2 rfl) ?_
      refine lv_iconst (v := 1) hx hb dX1_add_33 (by decide) ?_
      refine lv_isub hx hb dX1_add_34 ?_
      refine lv_iconst (v := 2) hx hb dX1_add_35 (by decide) ?_
      refine lv_idiv hx hb dX1_add_36 (by decide) ?_
      refine lv_topi (fun x4 ex4 => ?_)
      replace hf := nl_at hf ex4
      refine lv_istore (lv' := [(4, .int x4), (0, .ref (aH 0)), (1, .long v1), (3, .int v3)]) hx hb dX1_add_37 hl (by decide) rfl (fun ls hl => ?_)
      refine lv_aload_n hx hb dX1_add_39 rfl (lv_at hl 1 rfl) ?_
      refine va_get (D := (dC, dI)) (ci := 1) (v := .ref (aH 1)) (C := RX1) (T := TX1) (N := 2) hx hb hts i_X1_add_X1 hown hK hw.1 0 rfl rfl 0 (by decide) (hts _ m_X1_add_1) (fun _ h9 => h9) rfl dX1_add_40 ?_
      refine lv_iload hx hb dX1_add_43 (lv_at hl 0 rfl) ?_
      have g5 := ix_in (gd_l hf)
      replace hf := gd_r hf
      refine va_lald hx hb hK hw.1 1 1 rfl rfl g5 dX1_add_45 ?_
      refine lv_lload_n hx hb dX1_add_46 rfl (lv_at hl 2 rfl) ?_
      refine W.lcmp hx hb dX1_add_47 ?_
      refine lv_if_gt (tgt := 54) hx hb dX1_add_48 (by decide) (fun b6 => ?_) (fun b6 => ?_)
      · replace b6 := (lc_gt (H_items x4.toNatClampNeg) v1).mp b6
        replace hf := it_t hf b6
        refine lv_aload_n hx hb dX1_add_54 rfl (lv_at hl 1 rfl) ?_
        refine va_get (D := (dC, dI)) (ci := 1) (v := .ref (aH 1)) (C := RX1) (T := TX1) (N := 2) hx hb hts i_X1_add_X1 hown hK hw.1 0 rfl rfl 0 (by decide) (hts _ m_X1_add_1) (fun _ h9 => h9) rfl dX1_add_55 ?_
        refine lv_iload_n hx hb dX1_add_58 rfl (lv_at hl 3 rfl) ?_
        refine lv_aload_n hx hb dX1_add_59 rfl (lv_at hl 1 rfl) ?_
        refine va_get (D := (dC, dI)) (ci := 1) (v := .ref (aH 1)) (C := RX1) (T := TX1) (N := 2) hx hb hts i_X1_add_X1 hown hK hw.1 0 rfl rfl 0 (by decide) (hts _ m_X1_add_1) (fun _ h9 => h9) rfl dX1_add_60 ?_
        refine lv_iload hx hb dX1_add_63 (lv_at hl 0 rfl) ?_
        have g7 := ix_in (gd_l hf)
        replace hf := gd_r hf
        refine va_lald hx hb hK hw.1 1 1 rfl rfl g7 dX1_add_65 ?_
        refine lv_topl (fun x8 ex8 => ?_)
        replace hf := nl_at hf ex8
        have g9 := ix_in (gd_l hf)
        replace hf := gd_r hf
        refine g_last hx hb hK hw 1 1 rfl rfl g9 dX1_add_66 (fun H locs hw => ?_)
        replace hw : Wd (dC, dI) A s.heap H locs (w_H aH cI cJ cZ (vp_updL H_items v3.toNatClampNeg x8) H_size) := hw
        refine lv_iload hx hb dX1_add_67 (lv_at hl 0 rfl) ?_
        refine lv_istore_n (lv' := [(3, .int x4), (4, .int x4), (0, .ref (aH 0)), (1, .long v1)]) hx hb dX1_add_69 rfl hl (by decide) rfl (fun ls hl => ?_)
        refine lv_goto (tgt := 28) hx hb dX1_add_70 (by decide) ?_
        exact ih _ _ _ _ hf _ _ _ hw (lv_sub hl [2, 3, 0] rfl) kx
      · replace b6 := mt (lc_gt (H_items x4.toNatClampNeg) v1).mpr b6
        replace hf := it_f hf b6
        refine lv_goto (tgt := 73) hx hb dX1_add_51 (by decide) ?_
        cases hf
        exact kx _ _ _ hw (lv_sub hl [1, 2, 3] rfl)
set_option maxHeartbeats 4000000 in
set_option maxRecDepth 100000 in
theorem c_X1_add (l : Launch) (dC : Nat → ClassId) (dI : Nat → Nat → Nat) (cI cJ cZ : ClassId) (aH : Nat → Nat) (N : Nat) (H_items : (Nat → Int64)) (H_size : Int32) (v1 : Int64) {o_H_items : (Nat → Int64)} {o_H_size : Int32} (hf : f_X1_add N H_items H_size v1 = some (o_H_items, o_H_size)) :
    CtV l yX1_add wsX1_add rm_X1_add (dC, dI) (tyl cI cJ cZ) [.ref (aH 0), .long v1] (w_H aH cI cJ cZ H_items H_size) (w_H aH cI cJ cZ o_H_items o_H_size) := by
  refine startV (cc := cX1_add) (maxL := 5) (rt := none) (by decide +kernel) rfl (Nat.le_of_ble_eq_true rfl) ?_
  intro p e s m below meth c A ls X hr hlocks hw hl
  replace X : Cx p m c cX1_add 5 s _ wsX1_add RX1 (dC, dI) (tyl cI cJ cZ) A := X
  replace hl : lv_has ls 5 [(0, .ref (aH 0)), (1, .long v1)] := hl
  obtain ⟨hx, hb, hml, hown, hts⟩ := X.1
  have hK := X.2.1
  unfold f_X1_add at hf
  refine lv_aload_n hx hb dX1_add_0 rfl (lv_at hl 0 rfl) ?_
  refine va_get (D := (dC, dI)) (ci := 1) (v := .int H_size) (C := RX1) (T := TX1) (N := 2) hx hb hts i_X1_add_X1 hown hK hw.1 0 rfl rfl 1 (by decide) (hts _ m_X1_add_0) (fun _ h9 => h9) rfl dX1_add_1 ?_
  refine lv_aload_n hx hb dX1_add_4 rfl (lv_at hl 0 rfl) ?_
  refine va_get (D := (dC, dI)) (ci := 1) (v := .ref (aH 1)) (C := RX1) (T := TX1) (N := 2) hx hb hts i_X1_add_X1 hown hK hw.1 0 rfl rfl 0 (by decide) (hts _ m_X1_add_1) (fun _ h9 => h9) rfl dX1_add_5 ?_
  refine va_alen hx hb hK hw.1 1 1 rfl rfl (v := 400) rfl dX1_add_8 ?_
  refine lv_icmp_lt (tgt := 13) hx hb dX1_add_9 (by decide) (fun b1 => ?_) (fun b1 => ?_)
  · replace hf := it_t hf b1
    refine lv_aload_n hx hb dX1_add_13 rfl (lv_at hl 0 rfl) ?_
    refine va_get (D := (dC, dI)) (ci := 1) (v := .int H_size) (C := RX1) (T := TX1) (N := 2) hx hb hts i_X1_add_X1 hown hK hw.1 0 rfl rfl 1 (by decide) (hts _ m_X1_add_0) (fun _ h9 => h9) rfl dX1_add_14 ?_
    refine lv_istore_n (lv' := [(3, .int H_size), (0, .ref (aH 0)), (1, .long v1)]) hx hb dX1_add_17 rfl hl (by decide) rfl (fun ls hl => ?_)
    refine lv_aload_n hx hb dX1_add_18 rfl (lv_at hl 1 rfl) ?_
    refine lv_dup hx hb dX1_add_19 rfl ?_
    refine va_get (D := (dC, dI)) (ci := 1) (v := .int H_size) (C := RX1) (T := TX1) (N := 2) hx hb hts i_X1_add_X1 hown hK hw.1 0 rfl rfl 1 (by decide) (hts _ m_X1_add_0) (fun _ h9 => h9) rfl dX1_add_20 ?_
    refine lv_iconst (v := 1) hx hb dX1_add_23 (by decide) ?_
    refine lv_iadd hx hb dX1_add_24 ?_
    refine lv_topi (fun x2 ex2 => ?_)
    replace hf := nl_at hf ex2
    refine g_put (D := (dC, dI)) (ci := 1) (v := .int x2) (ty := .int) (C := RX1) (T := TX1) (N := 2) hx hb hts i_X1_add_X1 tyX1 tyX1_ok nmX1 hown hK hw 0 rfl rfl 1 (by decide) (hts _ m_X1_add_0) (fun _ h9 => h9) rfl (by decide +kernel) rfl rfl (Nat.le_of_ble_eq_true rfl) dX1_add_25 (fun H locs hw => ?_)
    replace hw : Wd (dC, dI) A s.heap H locs (w_H aH cI cJ cZ H_items x2) := hw
    obtain ⟨e10, e11, h12, hf⟩ := bd2_ob hf
    refine t_X1_add_28 aH X N x2 v1 N _ _ _ _ h12 _ _ _ hw (lv_sub hl [1, 2, 0] rfl) (fun H locs ls hw hl => ?_)
    refine lv_aload_n hx hb dX1_add_73 rfl (lv_at hl 0 rfl) ?_
    refine va_get (D := (dC, dI)) (ci := 1) (v := .ref (aH 1)) (C := RX1) (T := TX1) (N := 2) hx hb hts i_X1_add_X1 hown hK hw.1 0 rfl rfl 0 (by decide) (hts _ m_X1_add_1) (fun _ h9 => h9) rfl dX1_add_74 ?_
    refine lv_iload_n hx hb dX1_add_77 rfl (lv_at hl 2 rfl) ?_
    refine lv_lload_n hx hb dX1_add_78 rfl (lv_at hl 1 rfl) ?_
    have g13 := ix_in (gd_l hf)
    replace hf := gd_r hf
    refine g_last hx hb hK hw 1 1 rfl rfl g13 dX1_add_79 (fun H locs hw => ?_)
    replace hw : Wd (dC, dI) A s.heap H locs (w_H aH cI cJ cZ (vp_updL e11 e10.toNatClampNeg v1) x2) := hw
    cases hf
    exact endV X hr hlocks hw dX1_add_80
  · replace hf := it_f hf b1
    cases hf
    exact endV X hr hlocks hw dX1_add_12
def rm_X1_sink : Room := { frames := 0, cells := 0, slots := 0, locals := 0 }
set_option maxRecDepth 20000 in
theorem i_X1_sink_X1 : ∀ w ∈ u_ws RX1 TX1 2, w ∈ wsX1_sink := by decide +kernel
set_option maxRecDepth 20000 in
theorem m_X1_sink_0 : Cond.fieldLink RX1 15 "GreatSort$Heap" "size" "I" ∈ wsX1_sink := by decide +kernel
set_option maxRecDepth 20000 in
theorem m_X1_sink_1 : Cond.fieldLink RX1 9 "GreatSort$Heap" "items" "[J" ∈ wsX1_sink := by decide +kernel
set_option maxHeartbeats 4000000 in
set_option maxRecDepth 100000 in
theorem t_X1_sink_5 {p : Program} {l : Launch} {e : Env} {s : State} {m : MethodId} {args : Array Value} {below : List Frame} {meth : Method} {c : Code} {Q : State → Prop} {dC : Nat → ClassId} {dI : Nat → Nat → Nat} {cI cJ cZ : ClassId} {A : Nat → Prop} (aH : Nat → Nat) (X : Cx p m c cX1_sink 7 s args wsX1_sink RX1 (dC, dI) (tyl cI cJ cZ) A) (N : Nat) (H_size : Int32) (v1 : Int64) :
    ∀ (n : Nat) (v3 : Int32) (v4 : Int32) (H_items : (Nat → Int64)) (e3 : Int32) (e_H_items : (Nat → Int64)), l_X1_sink_5 N H_size v1 n v3 v4 H_items = some (e3, e_H_items) → ∀ (H : Heap) (locs : List Loc) (ls : Array Slot), Wd (dC, dI) A s.heap H locs (w_H aH cI cJ cZ H_items H_size) → lv_has ls 7 [(0, .ref (aH 0)), (1, .long v1), (3, .int v3), (4, .int v4)] → (∀ (H : Heap) (locs : List Loc) (ls : Array Slot), Wd (dC, dI) A s.heap H locs (w_H aH cI cJ cZ e_H_items H_size) → lv_has ls 7 [(0, .ref (aH 0)), (1, .long v1), (3, .int e3)] → W p l e rm_X1_sink s m args below meth c H locs 0 0 Q (F0 m 97 ls [])) → W p l e rm_X1_sink s m args below meth c H locs 0 0 Q (F0 m 5 ls []) := by
  obtain ⟨hx, hb, hml, hown, hts⟩ := X.1
  have hK := X.2.1
  intro n
  induction n with
  | zero =>
    intro _ _ _ _ _ hf
    cases hf
  | succ n ih =>
    intro v3 v4 H_items e3 e_H_items hf H locs ls hw hl kx
    rw [l_X1_sink_5] at hf
    refine lv_iload hx hb dX1_sink_5 (lv_at hl 3 rfl) ?_
    refine lv_aload_n hx hb dX1_sink_7 rfl (lv_at hl 0 rfl) ?_
    refine va_get (D := (dC, dI)) (ci := 1) (v := .int H_size) (C := RX1) (T := TX1) (N := 2) hx hb hts i_X1_sink_X1 hown hK hw.1 0 rfl rfl 1 (by decide) (hts _ m_X1_sink_0) (fun _ h9 => h9) rfl dX1_sink_8 ?_
    refine lv_icmp_ge (tgt := 97) hx hb dX1_sink_11 (by decide) (fun b1 => ?_) (fun b1 => ?_)
    · replace hf := it_t hf b1
      cases hf
      exact kx _ _ _ hw (lv_sub hl [0, 1, 2] rfl)
    · replace hf := it_f hf b1
      refine lv_iload hx hb dX1_sink_14 (lv_at hl 3 rfl) ?_
      refine lv_iconst (v := 1) hx hb dX1_sink_16 (by decide) ?_
      refine lv_iadd hx hb dX1_sink_17 ?_
      refine lv_topi (fun x2 ex2 => ?_)
      replace hf := nl_at hf ex2
      refine lv_istore (lv' := [(5, .int x2), (0, .ref (aH 0)), (1, .long v1), (3, .int v3), (4, .int v4)]) hx hb dX1_sink_18 hl (by decide) rfl (fun ls hl => ?_)
      refine lv_iload hx hb dX1_sink_20 (lv_at hl 0 rfl) ?_
      refine lv_aload_n hx hb dX1_sink_22 rfl (lv_at hl 1 rfl) ?_
      refine va_get (D := (dC, dI)) (ci := 1) (v := .int H_size) (C := RX1) (T := TX1) (N := 2) hx hb hts i_X1_sink_X1 hown hK hw.1 0 rfl rfl 1 (by decide) (hts _ m_X1_sink_0) (fun _ h9 => h9) rfl dX1_sink_23 ?_
      obtain ⟨y3, h4, hf⟩ := bd1_ob hf
      refine join_ (dC, dI) A 54 [.int y3] (w_H aH cI cJ cZ H_items H_size) [(0, .ref (aH 0)), (1, .long v1), (3, .int v3)] (fun H locs ls hw hl => ?_) (fun jn => ?_)
      · refine lv_istore (lv' := [(6, .int y3), (0, .ref (aH 0)), (1, .long v1), (3, .int v3)]) hx hb dX1_sink_54 hl (by decide) rfl (fun ls hl => ?_)
        refine lv_aload_n hx hb dX1_sink_56 rfl (lv_at hl 1 rfl) ?_
        refine va_get (D := (dC, dI)) (ci := 1) (v := .ref (aH 1)) (C := RX1) (T := TX1) (N := 2) hx hb hts i_X1_sink_X1 hown hK hw.1 0 rfl rfl 0 (by decide) (hts _ m_X1_sink_1) (fun _ h9 => h9) rfl dX1_sink_57 ?_
        refine lv_iload hx hb dX1_sink_60 (lv_at hl 0 rfl) ?_
        have g5 := ix_in (gd_l hf)
        replace hf := gd_r hf
        refine va_lald hx hb hK hw.1 1 1 rfl rfl g5 dX1_sink_62 ?_
        refine lv_lload_n hx hb dX1_sink_63 rfl (lv_at hl 2 rfl) ?_
        refine W.lcmp hx hb dX1_sink_64 ?_
        refine lv_if_lt (tgt := 71) hx hb dX1_sink_65 (by decide) (fun b6 => ?_) (fun b6 => ?_)
        · replace b6 := (lc_lt (H_items y3.toNatClampNeg) v1).mp b6
          replace hf := it_t hf b6
          refine lv_aload_n hx hb dX1_sink_71 rfl (lv_at hl 1 rfl) ?_
          refine va_get (D := (dC, dI)) (ci := 1) (v := .ref (aH 1)) (C := RX1) (T := TX1) (N := 2) hx hb hts i_X1_sink_X1 hown hK hw.1 0 rfl rfl 0 (by decide) (hts _ m_X1_sink_1) (fun _ h9 => h9) rfl dX1_sink_72 ?_
          refine lv_iload_n hx hb dX1_sink_75 rfl (lv_at hl 3 rfl) ?_
          refine lv_aload_n hx hb dX1_sink_76 rfl (lv_at hl 1 rfl) ?_
          refine va_get (D := (dC, dI)) (ci := 1) (v := .ref (aH 1)) (C := RX1) (T := TX1) (N := 2) hx hb hts i_X1_sink_X1 hown hK hw.1 0 rfl rfl 0 (by decide) (hts _ m_X1_sink_1) (fun _ h9 => h9) rfl dX1_sink_77 ?_
          refine lv_iload hx hb dX1_sink_80 (lv_at hl 0 rfl) ?_
          have g7 := ix_in (gd_l hf)
          replace hf := gd_r hf
          refine va_lald hx hb hK hw.1 1 1 rfl rfl g7 dX1_sink_82 ?_
          refine lv_topl (fun x8 ex8 => ?_)
          replace hf := nl_at hf ex8
          have g9 := ix_in (gd_l hf)
          replace hf := gd_r hf
          refine g_last hx hb hK hw 1 1 rfl rfl g9 dX1_sink_83 (fun H locs hw => ?_)
          replace hw : Wd (dC, dI) A s.heap H locs (w_H aH cI cJ cZ (vp_updL H_items v3.toNatClampNeg x8) H_size) := hw
          refine lv_iload hx hb dX1_sink_84 (lv_at hl 0 rfl) ?_
          refine lv_istore_n (lv' := [(3, .int y3), (6, .int y3), (0, .ref (aH 0)), (1, .long v1)]) hx hb dX1_sink_86 rfl hl (by decide) rfl (fun ls hl => ?_)
          refine lv_iconst (v := 2) hx hb dX1_sink_87 (by decide) ?_
          refine lv_iload_n hx hb dX1_sink_88 rfl (lv_at hl 0 rfl) ?_
          refine lv_imul hx hb dX1_sink_89 ?_
          refine lv_iconst (v := 1) hx hb dX1_sink_90 (by decide) ?_
          refine lv_iadd hx hb dX1_sink_91 ?_
          refine lv_topi (fun x10 ex10 => ?_)
          replace hf := nl_at hf ex10
          refine lv_istore (lv' := [(4, .int x10), (3, .int y3), (6, .int y3), (0, .ref (aH 0)), (1, .long v1)]) hx hb dX1_sink_92 hl (by decide) rfl (fun ls hl => ?_)
          refine lv_goto (tgt := 5) hx hb dX1_sink_94 (by decide) ?_
          exact ih _ _ _ _ _ hf _ _ _ hw (lv_sub hl [3, 4, 1, 0] rfl) kx
        · replace b6 := mt (lc_lt (H_items y3.toNatClampNeg) v1).mpr b6
          replace hf := it_f hf b6
          refine lv_goto (tgt := 97) hx hb dX1_sink_68 (by decide) ?_
          cases hf
          exact kx _ _ _ hw (lv_sub hl [1, 2, 3] rfl)
      · replace hf := h4
        refine lv_icmp_ge (tgt := 52) hx hb dX1_sink_26 (by decide) (fun b11 => ?_) (fun b11 => ?_)
        · replace hf := it_t hf b11
          refine lv_iload hx hb dX1_sink_52 (lv_at hl 4 rfl) ?_
          cases hf
          exact jn _ _ _ hw (lv_sub hl [1, 2, 3] rfl)
        · replace hf := it_f hf b11
          refine lv_aload_n hx hb dX1_sink_29 rfl (lv_at hl 1 rfl) ?_
          refine va_get (D := (dC, dI)) (ci := 1) (v := .ref (aH 1)) (C := RX1) (T := TX1) (N := 2) hx hb hts i_X1_sink_X1 hown hK hw.1 0 rfl rfl 0 (by decide) (hts _ m_X1_sink_1) (fun _ h9 => h9) rfl dX1_sink_30 ?_
          refine lv_iload hx hb dX1_sink_33 (lv_at hl 0 rfl) ?_
          have g12 := ix_in (gd_l hf)
          replace hf := gd_r hf
          refine va_lald hx hb hK hw.1 1 1 rfl rfl g12 dX1_sink_35 ?_
          refine lv_aload_n hx hb dX1_sink_36 rfl (lv_at hl 1 rfl) ?_
          refine va_get (D := (dC, dI)) (ci := 1) (v := .ref (aH 1)) (C := RX1) (T := TX1) (N := 2) hx hb hts i_X1_sink_X1 hown hK hw.1 0 rfl rfl 0 (by decide) (hts _ m_X1_sink_1) (fun _ h9 => h9) rfl dX1_sink_37 ?_
          refine lv_iload hx hb dX1_sink_40 (lv_at hl 4 rfl) ?_
          have g13 := ix_in (gd_l hf)
          replace hf := gd_r hf
          refine va_lald hx hb hK hw.1 1 1 rfl rfl g13 dX1_sink_42 ?_
          refine W.lcmp hx hb dX1_sink_43 ?_
          refine lv_if_ge (tgt := 52) hx hb dX1_sink_44 (by decide) (fun b14 => ?_) (fun b14 => ?_)
          · replace b14 := (lc_ge (H_items x2.toNatClampNeg) (H_items v4.toNatClampNeg)).mp b14
            replace hf := it_t hf b14
            refine lv_iload hx hb dX1_sink_52 (lv_at hl 4 rfl) ?_
            cases hf
            exact jn _ _ _ hw (lv_sub hl [1, 2, 3] rfl)
          · replace b14 := mt (lc_ge (H_items x2.toNatClampNeg) (H_items v4.toNatClampNeg)).mpr b14
            replace hf := it_f hf b14
            refine lv_iload hx hb dX1_sink_47 (lv_at hl 0 rfl) ?_
            refine lv_goto (tgt := 54) hx hb dX1_sink_49 (by decide) ?_
            cases hf
            exact jn _ _ _ hw (lv_sub hl [1, 2, 3] rfl)
set_option maxHeartbeats 4000000 in
set_option maxRecDepth 100000 in
theorem c_X1_sink (l : Launch) (dC : Nat → ClassId) (dI : Nat → Nat → Nat) (cI cJ cZ : ClassId) (aH : Nat → Nat) (N : Nat) (H_items : (Nat → Int64)) (H_size : Int32) (v1 : Int64) {o_H_items : (Nat → Int64)} (hf : f_X1_sink N H_items H_size v1 = some o_H_items) :
    CtV l yX1_sink wsX1_sink rm_X1_sink (dC, dI) (tyl cI cJ cZ) [.ref (aH 0), .long v1] (w_H aH cI cJ cZ H_items H_size) (w_H aH cI cJ cZ o_H_items H_size) := by
  refine startV (cc := cX1_sink) (maxL := 7) (rt := none) (by decide +kernel) rfl (Nat.le_of_ble_eq_true rfl) ?_
  intro p e s m below meth c A ls X hr hlocks hw hl
  replace X : Cx p m c cX1_sink 7 s _ wsX1_sink RX1 (dC, dI) (tyl cI cJ cZ) A := X
  replace hl : lv_has ls 7 [(0, .ref (aH 0)), (1, .long v1)] := hl
  obtain ⟨hx, hb, hml, hown, hts⟩ := X.1
  have hK := X.2.1
  unfold f_X1_sink at hf
  refine lv_iconst (v := 0) hx hb dX1_sink_0 (by decide) ?_
  refine lv_istore_n (lv' := [(3, .int 0), (0, .ref (aH 0)), (1, .long v1)]) hx hb dX1_sink_1 rfl hl (by decide) rfl (fun ls hl => ?_)
  refine lv_iconst (v := 1) hx hb dX1_sink_2 (by decide) ?_
  refine lv_istore (lv' := [(4, .int 1), (3, .int 0), (0, .ref (aH 0)), (1, .long v1)]) hx hb dX1_sink_3 hl (by decide) rfl (fun ls hl => ?_)
  obtain ⟨e15, e16, h17, hf⟩ := bd2_ob hf
  refine t_X1_sink_5 aH X N H_size v1 N _ _ _ _ _ h17 _ _ _ hw (lv_sub hl [2, 3, 1, 0] rfl) (fun H locs ls hw hl => ?_)
  refine lv_aload_n hx hb dX1_sink_97 rfl (lv_at hl 0 rfl) ?_
  refine va_get (D := (dC, dI)) (ci := 1) (v := .ref (aH 1)) (C := RX1) (T := TX1) (N := 2) hx hb hts i_X1_sink_X1 hown hK hw.1 0 rfl rfl 0 (by decide) (hts _ m_X1_sink_1) (fun _ h9 => h9) rfl dX1_sink_98 ?_
  refine lv_iload_n hx hb dX1_sink_101 rfl (lv_at hl 2 rfl) ?_
  refine lv_lload_n hx hb dX1_sink_102 rfl (lv_at hl 1 rfl) ?_
  have g18 := ix_in (gd_l hf)
  replace hf := gd_r hf
  refine g_last hx hb hK hw 1 1 rfl rfl g18 dX1_sink_103 (fun H locs hw => ?_)
  replace hw : Wd (dC, dI) A s.heap H locs (w_H aH cI cJ cZ (vp_updL e16 e15.toNatClampNeg v1) H_size) := hw
  cases hf
  exact endV X hr hlocks hw dX1_sink_104
def rm_X1_takeLeast : Room := { frames := 1, cells := 0, slots := 0, locals := 26 }
set_option maxRecDepth 20000 in
theorem i_X1_takeLeast_X1 : ∀ w ∈ u_ws RX1 TX1 2, w ∈ wsX1_takeLeast := by decide +kernel
set_option maxRecDepth 20000 in
theorem m_X1_takeLeast_0 : Cond.fieldLink RX1 15 "GreatSort$Heap" "size" "I" ∈ wsX1_takeLeast := by decide +kernel
set_option maxRecDepth 20000 in
theorem m_X1_takeLeast_1 : Cond.fieldLink RX1 9 "GreatSort$Heap" "items" "[J" ∈ wsX1_takeLeast := by decide +kernel
set_option maxHeartbeats 4000000 in
set_option maxRecDepth 100000 in
theorem c_X1_takeLeast (l : Launch) (dC : Nat → ClassId) (dI : Nat → Nat → Nat) (cI cJ cZ : ClassId) (aH : Nat → Nat) (N : Nat) (H_items : (Nat → Int64)) (H_size : Int32)  {r : Int64} {o_H_items : (Nat → Int64)} {o_H_size : Int32} (hf : f_X1_takeLeast N H_items H_size  = some (r, o_H_items, o_H_size)) :
    CtL l yX1_takeLeast wsX1_takeLeast rm_X1_takeLeast (dC, dI) (tyl cI cJ cZ) [.ref (aH 0)] (w_H aH cI cJ cZ H_items H_size) (w_H aH cI cJ cZ o_H_items o_H_size) r := by
  refine startL (cc := cX1_takeLeast) (maxL := 3) (rt := (some .long)) (by decide +kernel) rfl (Nat.le_of_ble_eq_true rfl) ?_
  intro p e s m below meth c A ls X hr hlocks hw hl
  replace X : Cx p m c cX1_takeLeast 3 s _ wsX1_takeLeast RX1 (dC, dI) (tyl cI cJ cZ) A := X
  replace hl : lv_has ls 3 [(0, .ref (aH 0))] := hl
  obtain ⟨hx, hb, hml, hown, hts⟩ := X.1
  have hK := X.2.1
  unfold f_X1_takeLeast at hf
  refine lv_aload_n hx hb dX1_takeLeast_0 rfl (lv_at hl 0 rfl) ?_
  refine va_get (D := (dC, dI)) (ci := 1) (v := .int H_size) (C := RX1) (T := TX1) (N := 2) hx hb hts i_X1_takeLeast_X1 hown hK hw.1 0 rfl rfl 1 (by decide) (hts _ m_X1_takeLeast_0) (fun _ h9 => h9) rfl dX1_takeLeast_1 ?_
  refine lv_if_ne (tgt := 9) hx hb dX1_takeLeast_4 (by decide) (fun b1 => ?_) (fun b1 => ?_)
  · replace hf := it_f hf b1
    refine lv_aload_n hx hb dX1_takeLeast_9 rfl (lv_at hl 0 rfl) ?_
    refine va_get (D := (dC, dI)) (ci := 1) (v := .ref (aH 1)) (C := RX1) (T := TX1) (N := 2) hx hb hts i_X1_takeLeast_X1 hown hK hw.1 0 rfl rfl 0 (by decide) (hts _ m_X1_takeLeast_1) (fun _ h9 => h9) rfl dX1_takeLeast_10 ?_
    refine lv_iconst (v := 0) hx hb dX1_takeLeast_13 (by decide) ?_
    have g2 := ix_in (gd_l hf)
    replace hf := gd_r hf
    refine va_lald hx hb hK hw.1 1 1 rfl rfl g2 dX1_takeLeast_14 ?_
    refine lv_topl (fun x3 ex3 => ?_)
    replace hf := nl_at hf ex3
    refine lv_lstore_n (lv' := [(1, .long x3), (0, .ref (aH 0))]) hx hb dX1_takeLeast_15 rfl hl (by decide) rfl (fun ls hl => ?_)
    refine lv_aload_n hx hb dX1_takeLeast_16 rfl (lv_at hl 1 rfl) ?_
    refine lv_dup hx hb dX1_takeLeast_17 rfl ?_
    refine va_get (D := (dC, dI)) (ci := 1) (v := .int H_size) (C := RX1) (T := TX1) (N := 2) hx hb hts i_X1_takeLeast_X1 hown hK hw.1 0 rfl rfl 1 (by decide) (hts _ m_X1_takeLeast_0) (fun _ h9 => h9) rfl dX1_takeLeast_18 ?_
    refine lv_iconst (v := 1) hx hb dX1_takeLeast_21 (by decide) ?_
    refine lv_isub hx hb dX1_takeLeast_22 ?_
    refine lv_topi (fun x4 ex4 => ?_)
    replace hf := nl_at hf ex4
    refine g_put (D := (dC, dI)) (ci := 1) (v := .int x4) (ty := .int) (C := RX1) (T := TX1) (N := 2) hx hb hts i_X1_takeLeast_X1 tyX1 tyX1_ok nmX1 hown hK hw 0 rfl rfl 1 (by decide) (hts _ m_X1_takeLeast_0) (fun _ h9 => h9) rfl (by decide +kernel) rfl rfl (Nat.le_of_ble_eq_true rfl) dX1_takeLeast_23 (fun H locs hw => ?_)
    replace hw : Wd (dC, dI) A s.heap H locs (w_H aH cI cJ cZ H_items x4) := hw
    refine lv_aload_n hx hb dX1_takeLeast_26 rfl (lv_at hl 1 rfl) ?_
    refine lv_aload_n hx hb dX1_takeLeast_27 rfl (lv_at hl 1 rfl) ?_
    refine va_get (D := (dC, dI)) (ci := 1) (v := .ref (aH 1)) (C := RX1) (T := TX1) (N := 2) hx hb hts i_X1_takeLeast_X1 hown hK hw.1 0 rfl rfl 0 (by decide) (hts _ m_X1_takeLeast_1) (fun _ h9 => h9) rfl dX1_takeLeast_28 ?_
    refine lv_aload_n hx hb dX1_takeLeast_31 rfl (lv_at hl 1 rfl) ?_
    refine va_get (D := (dC, dI)) (ci := 1) (v := .int x4) (C := RX1) (T := TX1) (N := 2) hx hb hts i_X1_takeLeast_X1 hown hK hw.1 0 rfl rfl 1 (by decide) (hts _ m_X1_takeLeast_0) (fun _ h9 => h9) rfl dX1_takeLeast_32 ?_
    have g5 := ix_in (gd_l hf)
    replace hf := gd_r hf
    refine va_lald hx hb hK hw.1 1 1 rfl rfl g5 dX1_takeLeast_35 ?_
    obtain ⟨c6, h7, hf⟩ := bd1_ob hf
    refine clVV (As := [.long (H_items x4.toNatClampNeg)]) (rest := []) X (c_X1_sink l dC dI cI cJ cZ aH N H_items x4 (H_items x4.toNatClampNeg) h7) (cwV 1 hts gX1_takeLeast_X1_sink rfl rfl rfl (by decide +kernel) ⟨Nat.le_of_ble_eq_true rfl, Nat.le_of_ble_eq_true rfl⟩) (ci := 1) rfl rfl rfl hw [0, 1] rfl rfl rfl rfl hl.1 rfl (Nat.le_of_ble_eq_true rfl) dX1_takeLeast_36 ⟨Nat.zero_le _, Nat.zero_le _⟩ (fun H locs hw => ?_)
    replace hw : Wd (dC, dI) A s.heap H locs (w_H aH cI cJ cZ c6 x4) := hw
    refine lv_lload_n hx hb dX1_takeLeast_39 rfl (lv_at hl 0 rfl) ?_
    cases hf
    exact endL X hr hlocks rfl hw dX1_takeLeast_40
  · replace hf := it_t hf b1
    refine lv_lconst (v := 0) hx hb dX1_takeLeast_7 (by decide) ?_
    cases hf
    exact endL X hr hlocks rfl hw dX1_takeLeast_8
end
