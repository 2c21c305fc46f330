/-! sums and extremes over places with a mark -/
def k_sum (m : Int → Bool) (f : Int → Int) : Nat → Int
  | 0 => 0
  | n + 1 => k_sum m f n + (if m n = true then f n else 0)
def k_min (m : Int → Bool) (f : Int → Int) : Nat → Int
  | 0 => 99
  | n + 1 => if m n = true then min (k_min m f n) (f n) else k_min m f n
def k_max (m : Int → Bool) (f : Int → Int) : Nat → Int
  | 0 => -1
  | n + 1 => if m n = true then max (k_max m f n) (f n) else k_max m f n
section KST
variable {m m1 m2 : Int → Bool} {f : Int → Int}
theorem k_sum_congr : ∀ n : Nat, (∀ q : Int, 0 ≤ q → q < n → m q = m1 q) → k_sum m f n = k_sum m1 f n := by
  intro n
  induction n with
  | zero => intro _; rfl
  | succ n ih => intro h; simp only [k_sum, ih (fun q h0 h1 => h q h0 (by omega)), h n (by omega) (by omega)]
theorem k_min_congr : ∀ n : Nat, (∀ q : Int, 0 ≤ q → q < n → m q = m1 q) → k_min m f n = k_min m1 f n := by
  intro n
  induction n with
  | zero => intro _; rfl
  | succ n ih => intro h; simp only [k_min, ih (fun q h0 h1 => h q h0 (by omega)), h n (by omega) (by omega)]
theorem k_max_congr : ∀ n : Nat, (∀ q : Int, 0 ≤ q → q < n → m q = m1 q) → k_max m f n = k_max m1 f n := by
  intro n
  induction n with
  | zero => intro _; rfl
  | succ n ih => intro h; simp only [k_max, ih (fun q h0 h1 => h q h0 (by omega)), h n (by omega) (by omega)]
theorem k_sum_or : ∀ n : Nat, (∀ q : Int, 0 ≤ q → q < n → (m q = true ↔ m1 q = true ∨ m2 q = true) ∧ ¬ (m1 q = true ∧ m2 q = true)) → k_sum m f n = k_sum m1 f n + k_sum m2 f n := by
  intro n
  induction n with
  | zero => intro _; rfl
  | succ n ih =>
    intro h
    have h1 := ih (fun q h0 h1 => h q h0 (by omega))
    obtain ⟨h2, h3⟩ := h n (by omega) (by omega)
    simp only [k_sum, h1]
    by_cases ha : m1 n = true
    · have hb : ¬ m2 n = true := fun q => h3 ⟨ha, q⟩
      rw [if_pos (h2.mpr (Or.inl ha)), if_pos ha, if_neg hb]; omega
    · by_cases hb : m2 n = true
      · rw [if_pos (h2.mpr (Or.inr hb)), if_neg ha, if_pos hb]; omega
      · rw [if_neg (fun q => (h2.mp q).elim ha hb), if_neg ha, if_neg hb]; omega
theorem k_min_or : ∀ n : Nat, (∀ q : Int, 0 ≤ q → q < n → (m q = true ↔ m1 q = true ∨ m2 q = true)) → k_min m f n = min (k_min m1 f n) (k_min m2 f n) := by
  intro n
  induction n with
  | zero => intro _; rfl
  | succ n ih =>
    intro h
    have h1 := ih (fun q h0 h1 => h q h0 (by omega))
    have h2 := h n (by omega) (by omega)
    simp only [k_min, h1]
    by_cases ha : m1 n = true <;> by_cases hb : m2 n = true <;> simp only [ha, hb, h2, or_true, true_or, or_self, if_true, if_false, or_false, false_or] <;> (first | omega | rfl | (simp only [Bool.false_eq_true, if_false] <;> omega))
theorem k_max_or : ∀ n : Nat, (∀ q : Int, 0 ≤ q → q < n → (m q = true ↔ m1 q = true ∨ m2 q = true)) → k_max m f n = max (k_max m1 f n) (k_max m2 f n) := by
  intro n
  induction n with
  | zero => intro _; rfl
  | succ n ih =>
    intro h
    have h1 := ih (fun q h0 h1 => h q h0 (by omega))
    have h2 := h n (by omega) (by omega)
    simp only [k_max, h1]
    by_cases ha : m1 n = true <;> by_cases hb : m2 n = true <;> simp only [ha, hb, h2, or_true, true_or, or_self, if_true, if_false, or_false, false_or] <;> (first | omega | rfl | (simp only [Bool.false_eq_true, if_false] <;> omega))
theorem k_sum_b {B : Int} (hf : ∀ q : Int, 0 ≤ f q ∧ f q ≤ B) : ∀ n : Nat, 0 ≤ k_sum m f n ∧ k_sum m f n ≤ B * n := by
  intro n
  induction n with
  | zero => simp [k_sum]
  | succ n ih =>
    have h := hf n
    have e : B * ((n + 1 : Nat) : Int) = B * n + B := by rw [show ((n + 1 : Nat) : Int) = (n : Int) + 1 by omega, Int.mul_add, Int.mul_one]
    simp only [k_sum, e]
    split <;> omega
theorem k_min_b (hf : ∀ q : Int, 0 ≤ q → 0 ≤ f q) : ∀ n : Nat, 0 ≤ k_min m f n ∧ k_min m f n ≤ 99 := by
  intro n
  induction n with
  | zero => simp [k_min]
  | succ n ih =>
    have h := hf n (by omega)
    simp only [k_min]
    split <;> omega
theorem k_max_b {B : Int} (hB : 0 ≤ B) : ∀ n : Nat, (∀ q : Int, 0 ≤ q → q < n → f q ≤ B) → -1 ≤ k_max m f n ∧ k_max m f n ≤ B := by
  intro n
  induction n with
  | zero => intro _; simp only [k_max]; omega
  | succ n ih =>
    intro hf
    have h := hf n (by omega) (by omega)
    have h1 := ih (fun q h0 h1 => hf q h0 (by omega))
    simp only [k_max]
    split <;> omega
theorem k_max_ge : ∀ n : Nat, ∀ q : Int, 0 ≤ q → q < n → m q = true → f q ≤ k_max m f n := by
  intro n
  induction n with
  | zero => intro q h0 h1; omega
  | succ n ih =>
    intro q h0 h1 hm
    simp only [k_max]
    by_cases hq : q = n
    · subst hq; rw [if_pos hm]; omega
    · have := ih q h0 (by omega) hm
      split <;> omega
theorem k_max_ex (hf : ∀ q : Int, 0 ≤ q → 0 ≤ f q) : ∀ n : Nat, (k_max m f n = -1 ∧ ∀ q : Int, 0 ≤ q → q < n → ¬ m q = true) ∨ ∃ q : Int, (0 ≤ q ∧ q < n) ∧ m q = true ∧ f q = k_max m f n := by
  intro n
  induction n with
  | zero => exact Or.inl ⟨rfl, fun q h0 h1 => by omega⟩
  | succ n ih =>
    have h := hf n (by omega)
    simp only [k_max]
    by_cases hm : m n = true
    · rw [if_pos hm]
      rcases ih with ⟨h1, h2⟩ | ⟨q, hq, hmq, hfq⟩
      · exact Or.inr ⟨n, by omega, hm, by omega⟩
      · by_cases hle : k_max m f n ≤ f n
        · exact Or.inr ⟨n, by omega, hm, by omega⟩
        · exact Or.inr ⟨q, by omega, hmq, by omega⟩
    · rw [if_neg hm]
      rcases ih with ⟨h1, h2⟩ | ⟨q, hq, hmq, hfq⟩
      · exact Or.inl ⟨h1, fun q h0 h3 => by
          by_cases hq : q = n
          · subst hq; exact hm
          · exact h2 q h0 (by omega)⟩
      · exact Or.inr ⟨q, by omega, hmq, hfq⟩
theorem k_sum_nn (hf : ∀ q : Int, 0 ≤ f q) : ∀ n : Nat, 0 ≤ k_sum m f n := by
  intro n
  induction n with
  | zero => simp [k_sum]
  | succ n ih => have := hf n; simp only [k_sum]; split <;> omega
theorem k_sum_ge (hf : ∀ q : Int, 0 ≤ f q) : ∀ n : Nat, ∀ q : Int, 0 ≤ q → q < n → m q = true → f q ≤ k_sum m f n := by
  intro n
  induction n with
  | zero => intro q h0 h1; omega
  | succ n ih =>
    intro q h0 h1 hm
    have hn := hf n
    simp only [k_sum]
    by_cases hq : q = n
    · subst hq
      rw [if_pos hm]
      have h9 := k_sum_nn (m := m) hf n
      omega
    · have := ih q h0 (by omega) hm
      split <;> omega
theorem k_none : ∀ n : Nat, (∀ q : Int, 0 ≤ q → q < n → ¬ m q = true) → k_sum m f n = 0 ∧ k_min m f n = 99 ∧ k_max m f n = -1 := by
  intro n
  induction n with
  | zero => intro _; exact ⟨rfl, rfl, rfl⟩
  | succ n ih =>
    intro h
    obtain ⟨h1, h2, h3⟩ := ih (fun q h0 h1 => h q h0 (by omega))
    have hn := h n (by omega) (by omega)
    simp only [k_sum, k_min, k_max, h1, h2, h3, if_neg hn]
    exact ⟨by omega, trivial, trivial⟩
end KST
