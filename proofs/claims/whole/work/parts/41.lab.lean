/-! labels of places: least places of those that hang together; a fold's state under them -/
def mm (cl L : gRw) (x : Int) : Int → Bool := fun q => decide (0 < cl q ∧ L q = x)
theorem mm_t {cl L : gRw} {x q : Int} : mm cl L x q = true ↔ 0 < cl q ∧ L q = x := by simp [mm]
def k_row (cl : gRw) (D : Int) (m : Int → Bool) (x : Int) (n : Nat) : gRw := fun k => if k = 0 then x / 16 else if k = 1 then k_max m (fun q => q / 16) n else if k = 2 then x % 16 else if k = 3 then k_min m (fun q => q % 16) n else if k = 4 then k_max m (fun q => q % 16) n else if k = 5 then k_sum m (fun _ => 1) n else if k = 6 then k_sum m cl n else k_sum m (fun q => f_dk D (cl q)) n
def bl_eq (r q : gRw) : Prop := r 0 = q 0 ∧ r 1 = q 1 ∧ r 2 = q 2 ∧ r 3 = q 3 ∧ r 4 = q 4 ∧ r 5 = q 5 ∧ r 6 = q 6 ∧ r 7 = q 7
/-- what a label's places tell, field by field -/
def isSt (cl : gRw) (D : Int) (m : Int → Bool) (x : Int) (n : Nat) (r : gRw) : Prop := (16 * r 0 + r 2 = x ∧ 0 ≤ r 0 ∧ 0 ≤ r 2 ∧ r 2 < 16) ∧ r 1 = k_max m (fun q => q / 16) n ∧ r 3 = k_min m (fun q => q % 16) n ∧ r 4 = k_max m (fun q => q % 16) n ∧ r 5 = k_sum m (fun _ => 1) n ∧ r 6 = k_sum m cl n ∧ r 7 = k_sum m (fun q => f_dk D (cl q)) n
theorem isSt.congr {cl : gRw} {D : Int} {m m' : Int → Bool} {x : Int} {n : Nat} {r : gRw} (h : isSt cl D m x n r) (hm : ∀ q : Int, 0 ≤ q → q < n → m q = m' q) : isSt cl D m' x n r := by
  obtain ⟨h0, h1, h3, h4, h5, h6, h7⟩ := h
  exact ⟨h0, h1.trans (k_max_congr n hm), h3.trans (k_min_congr n hm), h4.trans (k_max_congr n hm), h5.trans (k_sum_congr n hm), h6.trans (k_sum_congr n hm), h7.trans (k_sum_congr n hm)⟩
theorem isSt.skip {cl : gRw} {D : Int} {m : Int → Bool} {x : Int} {n : Nat} {r : gRw} (h : isSt cl D m x n r) (hm : ¬ m n = true) : isSt cl D m x (n + 1) r := by
  obtain ⟨h0, h1, h3, h4, h5, h6, h7⟩ := h
  refine ⟨h0, ?_, ?_, ?_, ?_, ?_, ?_⟩
  · simp only [k_max, if_neg hm]; exact h1
  · simp only [k_min, if_neg hm]; exact h3
  · simp only [k_max, if_neg hm]; exact h4
  · simp only [k_sum, if_neg hm]; omega
  · simp only [k_sum, if_neg hm]; omega
  · simp only [k_sum, if_neg hm]; omega
/-- one place more of the label -/
theorem isSt.inc {cl : gRw} {D : Int} {m : Int → Bool} {x : Int} {n : Nat} {r : gRw} {t c : Int} (h : isSt cl D m x n r) (hm : m n = true) (hn : (n : Int) = 16 * t + c) (hc : 0 ≤ c ∧ c < 16) : isSt cl D m x (n + 1) (bl_inc r t c (cl n) (f_dk D (cl n))) := by
  obtain ⟨h0, h1, h3, h4, h5, h6, h7⟩ := h
  have e1 : (n : Int) / 16 = t := by omega
  have e2 : (n : Int) % 16 = c := by omega
  refine ⟨?_, ?_, ?_, ?_, ?_, ?_, ?_⟩
  · simp [bl_inc]; exact h0
  · simp only [k_max, if_pos hm, e1]; simp [bl_inc, h1]
  · simp only [k_min, if_pos hm, e2]; simp [bl_inc, h3]
  · simp only [k_max, if_pos hm, e2]; simp [bl_inc, h4]
  · simp only [k_sum, if_pos hm]; simp [bl_inc, h5]
  · simp only [k_sum, if_pos hm]; simp [bl_inc, h6]
  · simp only [k_sum, if_pos hm]; simp [bl_inc, h7]
/-- two labels made one -/
theorem isSt.abs {cl : gRw} {D : Int} {m m1 m2 : Int → Bool} {x y : Int} {n : Nat} {r q : gRw} (h : isSt cl D m1 x n r) (g : isSt cl D m2 y n q) (hm : ∀ z : Int, 0 ≤ z → z < n → (m z = true ↔ m1 z = true ∨ m2 z = true) ∧ ¬ (m1 z = true ∧ m2 z = true)) : isSt cl D m (min x y) n (bl_abs r q) := by
  obtain ⟨h0, h1, h3, h4, h5, h6, h7⟩ := h
  obtain ⟨g0, g1, g3, g4, g5, g6, g7⟩ := g
  have hm' : ∀ z : Int, 0 ≤ z → z < n → (m z = true ↔ m1 z = true ∨ m2 z = true) := fun z z0 z1 => (hm z z0 z1).1
  refine ⟨?_, ?_, ?_, ?_, ?_, ?_, ?_⟩
  · simp only [bl_abs]
    by_cases hq : q 0 < r 0 ∨ q 0 = r 0 ∧ q 2 < r 2
    · simp [hq]; omega
    · simp [hq]; omega
  · rw [k_max_or n hm', ← h1, ← g1]; simp [bl_abs]
  · rw [k_min_or n hm', ← h3, ← g3]; simp [bl_abs]
  · rw [k_max_or n hm', ← h4, ← g4]; simp [bl_abs]
  · rw [k_sum_or n hm, ← h5, ← g5]; simp [bl_abs]
  · rw [k_sum_or n hm, ← h6, ← g6]; simp [bl_abs]
  · rw [k_sum_or n hm, ← h7, ← g7]; simp [bl_abs]
theorem f_dk_r (D x : Int) : 0 ≤ f_dk D x ∧ f_dk D x ≤ 1 := by rcases f_dk_b D x with h | h <;> omega
/-- such a row is small -/
theorem isSt.ok {cl : gRw} {D : Int} {m : Int → Bool} {x : Int} {n : Nat} {r : gRw} (h : isSt cl D m x n r) (hcl : ∀ q, 0 ≤ cl q ∧ cl q ≤ 9) (hn : n ≤ 960) (hx : x < n) (hr : ∃ q : Int, (0 ≤ q ∧ q < n) ∧ m q = true) : bl_ok r ∧ (0 ≤ r 0 ∧ r 0 < 60) ∧ (0 ≤ r 1 ∧ r 1 < 60) ∧ (0 ≤ r 3 ∧ r 3 < 16) ∧ (0 ≤ r 4 ∧ r 4 < 16) ∧ 1 ≤ r 5 ∧ r 5 ≤ 960 ∧ r 3 ≤ r 4 := by
  obtain ⟨h0, h1, h3, h4, h5, h6, h7⟩ := h
  obtain ⟨w, hw, hmw⟩ := hr
  have b1 := k_max_b (m := m) (f := fun q => q / 16) (B := 59) (by decide) n (fun q q0 q1 => by omega)
  have b3 := k_min_b (m := m) (f := fun q => q % 16) (fun q q0 => by omega) n
  have b4 := k_max_b (m := m) (f := fun q => q % 16) (B := 15) (by decide) n (fun q q0 q1 => by omega)
  have b5 := k_sum_b (m := m) (f := fun _ => 1) (B := 1) (fun q => by omega) n
  have b6 := k_sum_b (m := m) (f := cl) (B := 9) hcl n
  have b7 := k_sum_b (m := m) (f := fun q => f_dk D (cl q)) (B := 1) (fun q => f_dk_r D _) n
  have c1 := k_max_ge (m := m) (f := fun q => q / 16) n w hw.1 hw.2 hmw
  have c4 := k_max_ge (m := m) (f := fun q => q % 16) n w hw.1 hw.2 hmw
  have c5 := k_sum_ge (m := m) (f := fun _ => (1 : Int)) (fun q => by omega) n w hw.1 hw.2 hmw
  have c3 : k_min m (fun q => q % 16) n ≤ w % 16 := by
    clear h0 h1 h3 h4 h5 h6 h7 b1 b3 b4 b5 b6 b7 c1 c4 c5 hn hx
    induction n with
    | zero => omega
    | succ n ih =>
      simp only [k_min]
      by_cases hq : w = n
      · subst hq; rw [if_pos hmw]; omega
      · have := ih ⟨hw.1, by omega⟩
        split <;> omega
  refine ⟨fun k k0 k1 => ?_, by omega, by omega, by omega, by omega, by omega, by omega, by omega⟩
  rcases (show k = 0 ∨ k = 1 ∨ k = 2 ∨ k = 3 ∨ k = 4 ∨ k = 5 ∨ k = 6 ∨ k = 7 by omega) with rfl | rfl | rfl | rfl | rfl | rfl | rfl | rfl <;> omega
def rlab (r : gRw) : Int := 16 * r 0 + r 2
/-- labels of the first K places -/
def Lab (cl L : gRw) (K : Int) : Prop := (∀ q : Int, 0 ≤ q → q < K → 0 < cl q → (0 ≤ L q ∧ L q ≤ q) ∧ 0 < cl (L q) ∧ L (L q) = L q) ∧ ∀ q : Int, ¬ (0 ≤ q ∧ q < K ∧ 0 < cl q) → L q = q
def j_jn (L : gRw) (x y : Int) : gRw := fun q => if L q = max (L x) (L y) then min (L x) (L y) else L q
/-- a place of the line ahead or of the line that is seen, with something there -/
def fro (cl : gRw) (t c q : Int) : Prop := 0 ≤ q ∧ 16 * (t - 1) ≤ q ∧ q < 16 * t + c ∧ 0 < cl q
def own (t : Int) (S : fS) (q : Int) : Int := if q < 16 * t then S.2.1 (q - 16 * (t - 1)) else S.2.2 (q - 16 * t)
def usd (S : fS) (s : Int) : Prop := (0 ≤ s ∧ s < 16) ∧ 0 < S.1 s 5
/-- a fold's state: t lines are folded and c cells of the next -/
def FR (cl : gRw) (D : Int) (L : gRw) (t c : Int) (S : fS) : Prop :=
  Lab cl L (16 * t + c) ∧
  (∀ q, fro cl t c q → usd S (own t S q) ∧ rlab (S.1 (own t S q)) = L q) ∧
  (∀ x : Int, 0 ≤ x → x < 16 → (¬ fro cl t c (16 * (t - 1) + x) → S.2.1 x = -1) ∧ (¬ fro cl t c (16 * t + x) → S.2.2 x = -1)) ∧
  (∀ s, usd S s → ∃ q, fro cl t c q ∧ own t S q = s) ∧
  (∀ s s', usd S s → usd S s' → rlab (S.1 s) = rlab (S.1 s') → s = s') ∧
  (∀ s, usd S s → isSt cl D (mm cl L (rlab (S.1 s))) (rlab (S.1 s)) (16 * t + c).toNat (S.1 s)) ∧
  ∀ s : Int, 0 ≤ s → s < 16 → bl_ok (S.1 s)
