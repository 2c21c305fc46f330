/-! how many blobs there can be, and those that have not ended -/
theorem FS.few {cl : gRw} {D T : Int} {S : fS} {er : Int → gRw} {ec : Int} (h : FS cl D T S er ec) (hT : 0 ≤ T ∧ T ≤ 60) (n : Nat) (f : Int → Int) (hf : ∀ i : Int, 0 ≤ i → i < n → rtL cl (j_all cl T.toNat) (16 * T) (f i)) (hs : ∀ i j : Int, 0 ≤ i → i < j → j < n → f i < f j) : n ≤ 48 := by
  obtain ⟨-, ha, he, h0, h31⟩ := h
  generalize j_all cl T.toNat = L at ha he hf
  have hinj : ∀ i j : Nat, i < n → j < n → f i = f j → i = j := fun i j hi hj e => by
    rcases (show i = j ∨ i < j ∨ j < i by omega) with w | w | w
    · exact w
    · have := hs i j (by omega) (by omega) (by omega); omega
    · have := hs j i (by omega) (by omega) (by omega); omega
  have hc : ∀ i : Nat, ∃ c : Nat, i < n → (c < 31 ∧ ∃ e : Int, (0 ≤ e ∧ e < ec) ∧ c = e.toNat ∧ rlab (er e) = f i) ∨ ((31 ≤ c ∧ c < 39) ∧ ∃ q : Int, (16 * (T - 1) ≤ q ∧ 0 ≤ q ∧ q < 16 * T) ∧ 0 < cl q ∧ L q = f i ∧ c = 31 + ((q - 16 * (T - 1)) / 2).toNat) := fun i => by
    by_cases hi : i < n
    · have hr := hf i (by omega) (by omega)
      by_cases hk : k_max (mm cl L (f i)) (fun q => q / 16) (16 * T).toNat < T - 1
      · obtain ⟨e, he1, he2⟩ := he.2.2 _ hr hk
        exact ⟨e.toNat, fun _ => Or.inl ⟨by omega, e, he1, rfl, he2⟩⟩
      · rcases k_max_ex (m := mm cl L (f i)) (f := fun q => q / 16) (fun q q0 => by omega) (16 * T).toNat with ⟨h2, -⟩ | ⟨q, hq, hm, h2⟩
        · have := hr.1; omega
        · have hm' := mm_t.mp hm
          have h2' : q / 16 = k_max (mm cl L (f i)) (fun q => q / 16) (16 * T).toNat := h2
          exact ⟨31 + ((q - 16 * (T - 1)) / 2).toNat, fun _ => Or.inr ⟨by omega, q, by omega, hm'.1, hm'.2, rfl⟩⟩
    · exact ⟨0, fun w => absurd w hi⟩
  have h1 := p_cnt_le n (fun _ => true) (fun i => (hc i).choose) 39 (fun i hi _ => by
    have w := (hc i).choose_spec hi
    rcases w with w | w
    · exact Nat.lt_trans w.1 (by decide)
    · exact w.1.2) (fun i j hi hj _ _ e => by
    have wi := (hc i).choose_spec hi
    have wj := (hc j).choose_spec hj
    have e' : (hc i).choose = (hc j).choose := e
    generalize (hc i).choose = a at wi e'
    generalize (hc j).choose = b at wj e'
    subst e'
    refine hinj i j hi hj ?_
    rcases wi with ⟨w1, x, w2, w3, w4⟩ | ⟨w1, x, w2, w3, w4, w5⟩
    · rcases wj with ⟨v1, y, v2, v3, v4⟩ | ⟨v1, y, v2, v3, v4, v5⟩
      · rw [← w4, ← v4, show x = y by omega]
      · omega
    · rcases wj with ⟨v1, y, v2, v3, v4⟩ | ⟨v1, y, v2, v3, v4, v5⟩
      · omega
      · have hcase : x = y ∨ (x + 1 = y ∧ ¬ y % 16 = 0) ∨ (y + 1 = x ∧ ¬ x % 16 = 0) := by omega
        rw [← w4, ← v4]
        rcases hcase with rfl | ⟨rfl, h9⟩ | ⟨rfl, h9⟩
        · rfl
        · exact ha x (by omega) (by omega) h9 w3 v3
        · exact (ha y (by omega) (by omega) h9 v3 w3).symm)
  rw [p_cnt_all n _ (fun _ _ => rfl)] at h1
  omega
/-! sums over numbered things are sums over their labels -/
def p_sum (P : Nat → Bool) (w : Nat → Int) : Nat → Int
  | 0 => 0
  | n + 1 => p_sum P w n + (if P n = true then w n else 0)
theorem p_sum_congr {P P' : Nat → Bool} {w w' : Nat → Int} : ∀ n : Nat, (∀ i, i < n → P i = P' i) → (∀ i, i < n → P i = true → w i = w' i) → p_sum P w n = p_sum P' w' n := by
  intro n
  induction n with
  | zero => intro _ _; rfl
  | succ n ih =>
    intro h1 h2
    unfold p_sum
    rw [ih (fun i hi => h1 i (by omega)) (fun i hi => h2 i (by omega)), ← h1 n (by omega)]
    by_cases e : P n = true
    · rw [if_pos e, if_pos e, h2 n (by omega) e]
    · rw [if_neg e, if_neg e]
theorem k_sum_one {w : Int → Int} {x : Int} : ∀ K : Nat, 0 ≤ x → x < K → k_sum (fun q => decide (q = x)) w K = w x := by
  intro K
  induction K with
  | zero => intro h1 h2; omega
  | succ K ih =>
    intro h1 h2
    unfold k_sum
    by_cases e : (K : Int) = x
    · rw [(k_none (m := fun q => decide (q = x)) (f := w) K (fun q q0 q1 => by simp; omega)).1, if_pos (by simp [e]), e]; omega
    · rw [ih h1 (by omega), if_neg (by simp [e])]; omega
theorem p_sum_inj {K : Nat} {w : Int → Int} : ∀ (n : Nat) (P : Nat → Bool) (f : Nat → Int) (M : Int → Bool), (∀ i, i < n → P i = true → (0 ≤ f i ∧ f i < K) ∧ M (f i) = true) → (∀ i j, i < n → j < n → P i = true → P j = true → f i = f j → i = j) → (∀ q : Int, 0 ≤ q → q < K → M q = true → ∃ i, i < n ∧ P i = true ∧ f i = q) → p_sum P (fun i => w (f i)) n = k_sum M w K := by
  intro n
  induction n with
  | zero =>
    intro P f M h1 h2 h3
    rw [(k_none (m := M) (f := w) K (fun q q0 q1 m => by obtain ⟨i, hi, -⟩ := h3 q q0 q1 m; omega)).1]
    rfl
  | succ n ih =>
    intro P f M h1 h2 h3
    unfold p_sum
    by_cases e : P n = true
    · rw [if_pos e]
      obtain ⟨a1, a2⟩ := h1 n (by omega) e
      have hM : k_sum M w K = k_sum (fun q => M q && !decide (q = f n)) w K + k_sum (fun q => decide (q = f n)) w K := by
        refine k_sum_or K (fun q q0 q1 => ⟨?_, ?_⟩)
        · simp only [Bool.and_eq_true, Bool.not_eq_true', decide_eq_false_iff_not, decide_eq_true_eq]
          constructor
          · intro m
            by_cases c : q = f n
            · exact Or.inr c
            · exact Or.inl ⟨m, c⟩
          · intro m
            rcases m with m | m
            · exact m.1
            · rw [m]; exact a2
        · simp only [Bool.and_eq_true, Bool.not_eq_true', decide_eq_false_iff_not, decide_eq_true_eq]
          intro c; exact c.1.2 c.2
      rw [hM, k_sum_one K a1.1 a1.2]
      congr 1
      refine ih P f _ (fun i hi hP => ⟨(h1 i (by omega) hP).1, ?_⟩) (fun i j hi hj => h2 i j (by omega) (by omega)) (fun q q0 q1 m => ?_)
      · simp only [Bool.and_eq_true, Bool.not_eq_true', decide_eq_false_iff_not]
        refine ⟨(h1 i (by omega) hP).2, fun c => ?_⟩
        have := h2 i n (by omega) (by omega) hP e c
        omega
      · simp only [Bool.and_eq_true, Bool.not_eq_true', decide_eq_false_iff_not] at m
        obtain ⟨i, hi, hP, hf⟩ := h3 q q0 q1 m.1
        refine ⟨i, ?_, hP, hf⟩
        by_cases c : i = n
        · exfalso; rw [c] at hf; exact m.2 hf.symm
        · omega
    · rw [if_neg e, ih P f M (fun i hi => h1 i (by omega)) (fun i j hi hj => h2 i j (by omega) (by omega)) (fun q q0 q1 m => by
        obtain ⟨i, hi, hP, hf⟩ := h3 q q0 q1 m
        refine ⟨i, ?_, hP, hf⟩
        by_cases c : i = n
        · exfalso; rw [c] at hP; exact e hP
        · omega)]
      omega
/-- labels that have not ended -/
noncomputable def lvM (cl L : gRw) (T : Int) : Int → Bool := fun x => @decide (∃ q, fro cl T 0 q ∧ L q = x) (Classical.propDecidable _)
theorem lvM_t {cl L : gRw} {T x : Int} : lvM cl L T x = true ↔ ∃ q, fro cl T 0 q ∧ L q = x := by unfold lvM; exact @decide_eq_true_iff _ (Classical.propDecidable _)
def lvW (cl L : gRw) (T : Int) (x : Int) : Int := k_sum (mm cl L x) (fun _ => 1) (16 * T).toNat
theorem FR.live {cl : gRw} {D : Int} {L : gRw} {T : Int} {S : fS} (h : FR cl D L T 0 S) (hT : 0 ≤ T) : f_cnt S.1 16 = k_sum (lvM cl L T) (fun _ => 1) (16 * T).toNat ∧ f_sum S.1 16 = k_sum (lvM cl L T) (lvW cl L T) (16 * T).toNat := by
  obtain ⟨hl, h1, h2, h3, h4, h5, h6⟩ := h
  have hu : ∀ i : Nat, i < 16 → decide (0 < S.1 (i : Int) 5) = true → usd S i := fun i hi e => ⟨by omega, of_decide_eq_true e⟩
  have hM : ∀ i : Nat, i < 16 → decide (0 < S.1 (i : Int) 5) = true → (0 ≤ rlab (S.1 (i : Int)) ∧ rlab (S.1 (i : Int)) < ((16 * T).toNat : Int)) ∧ lvM cl L T (rlab (S.1 (i : Int))) = true := fun i hi e => by
    obtain ⟨q, hq, ho⟩ := h3 i (hu i hi e)
    have e2 := (h1 q hq).2
    rw [ho] at e2
    have hv := hl.1 q hq.1 (by have := hq.2.2.1; omega) hq.2.2.2
    have hq3 := hq.2.2.1
    rw [e2]
    exact ⟨by omega, lvM_t.mpr ⟨q, hq, rfl⟩⟩
  have hi : ∀ i j : Nat, i < 16 → j < 16 → decide (0 < S.1 (i : Int) 5) = true → decide (0 < S.1 (j : Int) 5) = true → rlab (S.1 (i : Int)) = rlab (S.1 (j : Int)) → i = j := fun i j hi hj ei ej e => by
    have := h4 i j (hu i hi ei) (hu j hj ej) e
    omega
  have hs : ∀ q : Int, 0 ≤ q → q < ((16 * T).toNat : Int) → lvM cl L T q = true → ∃ i : Nat, i < 16 ∧ decide (0 < S.1 (i : Int) 5) = true ∧ rlab (S.1 (i : Int)) = q := fun q q0 q1 m => by
    obtain ⟨p, hp, e⟩ := lvM_t.mp m
    obtain ⟨u, e2⟩ := h1 p hp
    refine ⟨(own T S p).toNat, by have := u.1; omega, ?_, ?_⟩
    · rw [show (((own T S p).toNat : Nat) : Int) = own T S p by have := u.1; omega]; exact decide_eq_true u.2
    · rw [show (((own T S p).toNat : Nat) : Int) = own T S p by have := u.1; omega, e2, e]
  have c1 : ∀ n : Nat, f_cnt S.1 n = p_sum (fun i => decide (0 < S.1 (i : Int) 5)) (fun _ => 1) n := by
    intro n
    induction n with
    | zero => rfl
    | succ n ih =>
      unfold f_cnt p_sum
      rw [ih]
      by_cases e : 0 < S.1 (n : Int) 5
      · rw [if_pos e, if_pos (decide_eq_true e)]
      · rw [if_neg e, if_neg (fun w => e (of_decide_eq_true w))]
  have c2 : ∀ n : Nat, n ≤ 16 → f_sum S.1 n = p_sum (fun i => decide (0 < S.1 (i : Int) 5)) (fun i => lvW cl L T (rlab (S.1 (i : Int)))) n := by
    intro n
    induction n with
    | zero => intro _; rfl
    | succ n ih =>
      intro hn
      unfold f_sum p_sum
      rw [ih (by omega)]
      by_cases e : 0 < S.1 (n : Int) 5
      · rw [if_pos (decide_eq_true e)]
        have := (h5 n ⟨by omega, e⟩).2.2.2.2.1
        rw [this, show (16 * T + 0).toNat = (16 * T).toNat by omega]
        rfl
      · rw [if_neg (fun w => e (of_decide_eq_true w))]
        have := h6 n (by omega) (by omega) 5 (by decide) (by decide)
        omega
  refine ⟨?_, ?_⟩
  · rw [c1 16]
    exact p_sum_inj (w := fun _ => 1) 16 _ (fun i => rlab (S.1 (i : Int))) _ hM hi hs
  · rw [c2 16 (Nat.le_refl _)]
    exact p_sum_inj (w := lvW cl L T) 16 _ (fun i => rlab (S.1 (i : Int))) _ hM hi hs
/-- the same of the model's blobs -/
theorem BS.live {cl : gRw} {D : Int} {L : gRw} {T : Int} {g : gF} {nb : Int} (h : BS cl D L (16 * T) g nb) (hl : Lab cl L (16 * T)) (hT : 0 ≤ T) : p_sum (fun i => decide (¬ g 203 (i : Int) < T - 1)) (fun _ => 1) nb.toNat = k_sum (lvM cl L T) (fun _ => 1) (16 * T).toNat ∧ p_sum (fun i => decide (¬ g 203 (i : Int) < T - 1)) (fun i => g 207 (i : Int)) nb.toNat = k_sum (lvM cl L T) (lvW cl L T) (16 * T).toNat := by
  obtain ⟨h0, h1, h2, h3⟩ := h
  have hlast : ∀ b : Int, 0 ≤ b → b < nb → g 203 b = k_max (mm cl L (g 201 b)) (fun q => q / 16) (16 * T).toNat := fun b b0 b1 => (h1 b b0 b1).2.2.1
  have hM : ∀ i : Nat, i < nb.toNat → decide (¬ g 203 (i : Int) < T - 1) = true → (0 ≤ g 201 (i : Int) ∧ g 201 (i : Int) < ((16 * T).toNat : Int)) ∧ lvM cl L T (g 201 (i : Int)) = true := fun i hi e => by
    have e := of_decide_eq_true e
    have hr := (h1 i (by omega) (by omega)).1
    refine ⟨by have := hr.1; omega, lvM_t.mpr ?_⟩
    have hk := hlast i (by omega) (by omega)
    rcases k_max_ex (m := mm cl L (g 201 (i : Int))) (f := fun q => q / 16) (fun q q0 => by omega) (16 * T).toNat with ⟨h9, -⟩ | ⟨q, hq, hm, h9⟩
    · have := hr.1; omega
    · have hm' := mm_t.mp hm
      have h9' : q / 16 = k_max (mm cl L (g 201 (i : Int))) (fun q => q / 16) (16 * T).toNat := h9
      exact ⟨q, ⟨hq.1, by omega, by omega, hm'.1⟩, hm'.2⟩
  have hi : ∀ i j : Nat, i < nb.toNat → j < nb.toNat → decide (¬ g 203 (i : Int) < T - 1) = true → decide (¬ g 203 (j : Int) < T - 1) = true → g 201 (i : Int) = g 201 (j : Int) → i = j := fun i j hi hj _ _ e => by
    rcases (show i = j ∨ i < j ∨ j < i by omega) with w | w | w
    · exact w
    · have := h2 i j (by omega) (by omega) (by omega); omega
    · have := h2 j i (by omega) (by omega) (by omega); omega
  have hs : ∀ q : Int, 0 ≤ q → q < ((16 * T).toNat : Int) → lvM cl L T q = true → ∃ i : Nat, i < nb.toNat ∧ decide (¬ g 203 (i : Int) < T - 1) = true ∧ g 201 (i : Int) = q := fun q q0 q1 m => by
    obtain ⟨p, hp, e⟩ := lvM_t.mp m
    have hp3 := hp.2.2.1
    obtain ⟨v1, v2, v3⟩ := hl.1 p hp.1 (by omega) hp.2.2.2
    rw [e] at v1 v2 v3
    obtain ⟨b, hb, eb⟩ := h3 q ⟨by omega, v2, v3⟩
    refine ⟨b.toNat, by omega, ?_, ?_⟩
    · rw [show ((b.toNat : Nat) : Int) = b by omega]
      refine decide_eq_true ?_
      have hk := hlast b hb.1 hb.2
      have := k_max_ge (m := mm cl L (g 201 b)) (f := fun q => q / 16) (16 * T).toNat p hp.1 (by omega) (mm_t.mpr ⟨hp.2.2.2, by rw [eb]; exact e⟩)
      have hp2 := hp.2.1
      have this' : p / 16 ≤ k_max (mm cl L (g 201 b)) (fun q => q / 16) (16 * T).toNat := this
      omega
    · rw [show ((b.toNat : Nat) : Int) = b by omega]; exact eb
  refine ⟨?_, ?_⟩
  · exact p_sum_inj (w := fun _ => 1) nb.toNat _ (fun i => g 201 (i : Int)) _ hM hi hs
  · rw [← p_sum_inj (w := lvW cl L T) nb.toNat _ (fun i => g 201 (i : Int)) _ hM hi hs]
    refine p_sum_congr _ (fun _ _ => rfl) (fun i hi _ => ?_)
    have := (h1 i (by omega) (by omega)).2.2.2.2.2.1
    rw [mrow_5] at this
    exact this
