/-! NUMBERS: from Int32 and Int64 to Nat and Int. My own text. -/
theorem gd_nI {β : Type} {X : Option β} {i n : Nat} (h : i < n) (hn : n < 2 ^ 31) : gd (ix (nI i) n) X = X := gd_t (in_ix (vp_in_nI h hn))
theorem gd_b0 {β : Type} {X : Option β} : gd (bz 0) X = X := rfl
theorem gd_b1 {β : Type} {X : Option β} : gd (bz 1) X = X := rfl
theorem gd_bi {β : Type} {X : Option β} (p : Prop) {ins : Decidable p} : gd (bz (@ite Int32 p ins 1 0)) X = X := by
  by_cases h : p
  · rw [if_pos h]; rfl
  · rw [if_neg h]; rfl
theorem bi_1 (p : Prop) {ins : Decidable p} : (@ite Int32 p ins 1 0 = 1) ↔ p := by
  by_cases h : p <;> simp [h]
theorem bi_0 (p : Prop) {ins : Decidable p} : (@ite Int32 p ins 1 0 = 0) ↔ ¬ p := by
  by_cases h : p <;> simp [h]
theorem up_s {α : Type} (f : Nat → Int32) (k : Nat) (x : Int32) : upd f k x k = x := pk_us
theorem i32_lt (a b : Int32) : a < b ↔ a.toInt < b.toInt := Int32.lt_iff_toInt_lt
theorem i32_le (a b : Int32) : a ≤ b ↔ a.toInt ≤ b.toInt := Int32.le_iff_toInt_le
theorem i32_eq (a b : Int32) : a = b ↔ a.toInt = b.toInt := Int32.toInt_inj.symm
theorem nI_sub {a b : Nat} (h : b ≤ a) : nI a - nI b = nI (a - b) := pk_sub h
theorem nI_s1 {a : Nat} (h : 0 < a) : nI a - 1 = nI (a - 1) := pk_sub (b := 1) h
theorem nI_d2 {a : Nat} (h : a < 2 ^ 31) : nI a / 2 = nI (a / 2) := pk_div (d := 2) h (by decide) (by decide)
theorem nI_ne_m1 {a : Nat} (h : a < 2 ^ 31) : ¬ nI a = -1 := by
  intro q
  have h1 := nI_toInt h
  rw [q] at h1
  have h2 : ((-1 : Int32)).toInt = -1 := by decide
  omega
theorem i0 : (0 : Int32) = nI 0 := rfl
theorem i1 : (1 : Int32) = nI 1 := rfl
theorem i2 : (2 : Int32) = nI 2 := rfl
/-- isIn, is: within two bounds -/
theorem p_isIn (N : Nat) (a b c : Int32) : f_X6_isIn N a b c = some (if b.toInt ≤ a.toInt ∧ a.toInt ≤ c.toInt then 1 else 0) := by
  unfold f_X6_isIn
  by_cases h1 : a < b
  · rw [if_pos h1, gd_b0, if_neg]
    rw [i32_lt] at h1
    omega
  · rw [if_neg h1]
    by_cases h2 : c < a
    · rw [if_pos h2, gd_b0, if_neg]
      rw [i32_lt] at h2
      omega
    · rw [if_neg h2, gd_b1, if_pos]
      rw [i32_lt] at h1 h2
      omega
theorem p_is (N : Nat) (a b c : Int32) : f_X7_is N a b c = some (if b.toInt ≤ a.toInt ∧ a.toInt ≤ c.toInt then 1 else 0) := by
  unfold f_X7_is
  by_cases h1 : a < b
  · rw [if_pos h1, gd_b0, if_neg]
    rw [i32_lt] at h1
    omega
  · rw [if_neg h1]
    by_cases h2 : c < a
    · rw [if_pos h2, gd_b0, if_neg]
      rw [i32_lt] at h2
      omega
    · rw [if_neg h2, gd_b1, if_pos]
      rw [i32_lt] at h1 h2
      omega
