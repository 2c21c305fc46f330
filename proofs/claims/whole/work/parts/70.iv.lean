/-! openings: what is wanted, what is open, and the intervals that a valve keeps -/
def opn (r : Int) (Wt : Int → Prop) (t : Int) : Prop := Wt t ∨ ∃ a b : Int, Wt a ∧ Wt b ∧ a < t ∧ t < b ∧ b - a - 1 < r
theorem opn.mono {r : Int} {Wt Wt' : Int → Prop} {t : Int} (h : ∀ t, Wt t → Wt' t) (o : opn r Wt t) : opn r Wt' t := by
  rcases o with o | ⟨a, b, ha, hb, o⟩
  · exact Or.inl (h t o)
  · exact Or.inr ⟨a, b, h a ha, h b hb, o⟩
theorem opn.congr {r : Int} {Wt Wt' : Int → Prop} (h : ∀ t, Wt t ↔ Wt' t) (t : Int) : opn r Wt t ↔ opn r Wt' t := ⟨fun o => o.mono (fun t => (h t).mp), fun o => o.mono (fun t => (h t).mpr)⟩
def IV (r : Int) (Wt : Int → Prop) (n : Int) (fs ls : gRw) : Prop :=
  (∀ k : Int, 0 ≤ k → k < n → fs k ≤ ls k ∧ Wt (fs k) ∧ Wt (ls k) ∧ ∀ t : Int, fs k ≤ t → t ≤ ls k → opn r Wt t) ∧
  (∀ k : Int, 0 ≤ k → k + 1 < n → ls k + 1 < fs (k + 1) ∧ r ≤ fs (k + 1) - ls k - 1) ∧
  ∀ t : Int, Wt t → ∃ k : Int, (0 ≤ k ∧ k < n) ∧ fs k ≤ t ∧ t ≤ ls k
theorem IV.congr {r : Int} {Wt Wt' : Int → Prop} {n : Int} {fs ls : gRw} (h : IV r Wt n fs ls) (e : ∀ t, Wt t ↔ Wt' t) : IV r Wt' n fs ls := by
  have : Wt = Wt' := funext (fun t => propext (e t))
  rw [← this]; exact h
/-- later ones lie behind earlier ones -/
theorem IV.apart {r : Int} {Wt : Int → Prop} {n : Int} {fs ls : gRw} (h : IV r Wt n fs ls) : ∀ (m : Nat) (k : Int), 0 ≤ k → k + 1 + m < n → ls k + 1 < fs (k + 1 + m) ∧ r ≤ fs (k + 1 + m) - ls k - 1 := by
  intro m
  induction m with
  | zero => intro k k0 k1; have := h.2.1 k k0 (by omega); simpa using this
  | succ m ih =>
    intro k k0 k1
    have a := ih k k0 (by omega)
    have b := (h.1 (k + 1 + m) (by omega) (by omega)).1
    have c := h.2.1 (k + 1 + m) (by omega) (by omega)
    rw [show k + 1 + ((m + 1 : Nat) : Int) = k + 1 + m + 1 by omega]
    omega
theorem IV.lt {r : Int} {Wt : Int → Prop} {n : Int} {fs ls : gRw} (h : IV r Wt n fs ls) {i j : Int} (i0 : 0 ≤ i) (ij : i < j) (jn : j < n) : ls i + 1 < fs j ∧ r ≤ fs j - ls i - 1 := by
  have := h.apart (j - i - 1).toNat i i0 (by omega)
  rw [show i + 1 + ((j - i - 1).toNat : Int) = j by omega] at this
  exact this
/-- open is just what lies in an interval -/
theorem IV.opn {r : Int} {Wt : Int → Prop} {n : Int} {fs ls : gRw} (h : IV r Wt n fs ls) (t : Int) : opn r Wt t ↔ ∃ k : Int, (0 ≤ k ∧ k < n) ∧ fs k ≤ t ∧ t ≤ ls k := by
  constructor
  · intro o
    rcases o with o | ⟨a, b, ha, hb, h1, h2, h3⟩
    · exact h.2.2 t o
    · obtain ⟨i, hi, i1, i2⟩ := h.2.2 a ha
      obtain ⟨j, hj, j1, j2⟩ := h.2.2 b hb
      rcases (show i = j ∨ i < j ∨ j < i by omega) with e | e | e
      · subst e; exact ⟨i, hi, by omega, by omega⟩
      · have := h.lt hi.1 e hj.2; omega
      · have := h.lt hj.1 e hi.2
        have := (h.1 i hi.1 hi.2).1
        have := (h.1 j hj.1 hj.2).1
        omega
  · intro ⟨k, hk, h1, h2⟩
    exact (h.1 k hk.1 hk.2).2.2.2 t h1 h2
theorem IV.nil {r : Int} {Wt : Int → Prop} {fs ls : gRw} (h : ∀ t, ¬ Wt t) : IV r Wt 0 fs ls := ⟨fun k k0 k1 => by omega, fun k k0 k1 => by omega, fun t w => absurd w (h t)⟩
theorem vl_w_iv {r to : Int} {Wt : Int → Prop} {fs ls : gRw} : ∀ (n : Nat) (f : Int), (∀ k : Int, 0 ≤ k → k < n → Wt (fs k) ∧ Wt (ls k) ∧ ∀ t : Int, fs k ≤ t → t ≤ ls k → opn r Wt t) → (∀ t, f ≤ t → t ≤ to → opn r Wt t) → Wt f →
    (∀ t, (vl_w fs ls r n f).2 ≤ t → t ≤ to → opn r Wt t) ∧ Wt (vl_w fs ls r n f).2 ∧ (vl_w fs ls r n f).2 ≤ f ∧ (∀ k : Int, ((vl_w fs ls r n f).1 : Int) ≤ k → k < n → (vl_w fs ls r n f).2 ≤ fs k) ∧ ((vl_w fs ls r n f).1 = 0 ∨ (ls (((vl_w fs ls r n f).1 : Int) - 1) + 1 < (vl_w fs ls r n f).2 ∧ r ≤ (vl_w fs ls r n f).2 - ls (((vl_w fs ls r n f).1 : Int) - 1) - 1)) := by
  intro n
  induction n with
  | zero => intro f h h1 h2; exact ⟨h1, h2, Int.le_refl _, fun k k0 k1 => by simp only [vl_w] at k0; omega, Or.inl rfl⟩
  | succ n ih =>
    intro f h h1 h2
    obtain ⟨a2, a3, a4⟩ := h n (by omega) (by omega)
    by_cases hn : f - ls (n : Int) - 1 ≤ 0 ∨ f - ls (n : Int) - 1 < r
    · have e : vl_w fs ls r (n + 1) f = vl_w fs ls r n (min f (fs (n : Int))) := by
        conv => lhs; unfold vl_w
        rw [if_pos hn]
      rw [e]
      have g1 : ∀ t, min f (fs (n : Int)) ≤ t → t ≤ to → opn r Wt t := by
        intro t t0 t1
        by_cases c1 : f ≤ t
        · exact h1 t c1 t1
        · by_cases c2 : t ≤ ls (n : Int)
          · exact a4 t (by omega) c2
          · exact Or.inr ⟨ls (n : Int), f, a3, h2, by omega, by omega, by omega⟩
      have g2 : Wt (min f (fs (n : Int))) := by
        rcases (show min f (fs (n : Int)) = f ∨ min f (fs (n : Int)) = fs (n : Int) by omega) with e | e <;> rw [e]
        · exact h2
        · exact a2
      obtain ⟨k1, k2, k3, k5, k6⟩ := ih (min f (fs (n : Int))) (fun k k0 k1 => h k k0 (by omega)) g1 g2
      refine ⟨k1, k2, by omega, fun k k0 k9 => ?_, k6⟩
      by_cases ek : k = n
      · rw [ek]; omega
      · exact k5 k k0 (by omega)
    · have e : vl_w fs ls r (n + 1) f = (n + 1, f) := by
        conv => lhs; unfold vl_w
        rw [if_neg hn]
      rw [e]
      refine ⟨h1, h2, Int.le_refl _, fun k k0 k9 => ?_, Or.inr ?_⟩
      · have k0' : ((n + 1 : Nat) : Int) ≤ k := k0
        omega
      · show ls (((n + 1 : Nat) : Int) - 1) + 1 < f ∧ r ≤ f - ls (((n + 1 : Nat) : Int) - 1) - 1
        rw [show ((n + 1 : Nat) : Int) - 1 = (n : Int) by omega]
        omega
/-- one interval more is wanted -/
theorem IV.want {r fr to : Int} {Wt : Int → Prop} {n : Int} {fs ls : gRw} (h : IV r Wt n fs ls) (h0 : 0 ≤ n) (hft : fr ≤ to) (hto : ∀ t, Wt t → t ≤ to) :
    IV r (fun t => Wt t ∨ fr ≤ t ∧ t ≤ to) (((vl_w fs ls r n.toNat fr).1 : Int) + 1) (r_up fs ((vl_w fs ls r n.toNat fr).1 : Int) (vl_w fs ls r n.toNat fr).2) (r_up ls ((vl_w fs ls r n.toNat fr).1 : Int) to) := by
  have hm : ∀ t, Wt t → (Wt t ∨ fr ≤ t ∧ t ≤ to) := fun t w => Or.inl w
  have hle := vl_w_le fs ls r n.toNat fr
  obtain ⟨k1, k2, k3, k5, k6⟩ := vl_w_iv (r := r) (to := to) (Wt := fun t => Wt t ∨ fr ≤ t ∧ t ≤ to) (fs := fs) (ls := ls) n.toNat fr (fun k k0 k1 => by
    obtain ⟨b1, b2, b3, b4⟩ := h.1 k k0 (by omega)
    exact ⟨hm _ b2, hm _ b3, fun t t0 t1 => (b4 t t0 t1).mono hm⟩) (fun t t0 t1 => Or.inl (Or.inr ⟨t0, t1⟩)) (Or.inr ⟨Int.le_refl _, hft⟩)
  generalize (vl_w fs ls r n.toNat fr).2 = f at k1 k2 k3 k5 k6 ⊢
  generalize (vl_w fs ls r n.toNat fr).1 = m at hle k5 k6 ⊢
  refine ⟨fun k a0 a1 => ?_, fun k a0 a1 => ?_, fun t w => ?_⟩
  · by_cases e : k = m
    · rw [e, r_up_at, r_up_at]
      exact ⟨by omega, k2, Or.inr ⟨hft, Int.le_refl _⟩, k1⟩
    · rw [r_up_ne e, r_up_ne e]
      obtain ⟨b1, b2, b3, b4⟩ := h.1 k a0 (by omega)
      exact ⟨b1, hm _ b2, hm _ b3, fun t t0 t1 => (b4 t t0 t1).mono hm⟩
  · rw [r_up_ne (show k ≠ m by omega)]
    by_cases e : k + 1 = m
    · rw [e, r_up_at]
      rcases k6 with k6 | k6
      · omega
      · rw [show k = (m : Int) - 1 by omega]; exact k6
    · rw [r_up_ne e]; exact h.2.1 k a0 (by omega)
  · rcases w with w | w
    · obtain ⟨k, hk, c1, c2⟩ := h.2.2 t w
      by_cases e : k < m
      · exact ⟨k, by omega, by rw [r_up_ne (by omega)]; exact c1, by rw [r_up_ne (by omega)]; exact c2⟩
      · have := k5 k (by omega) (by omega)
        exact ⟨m, by omega, by rw [r_up_at]; omega, by rw [r_up_at]; exact hto t w⟩
    · exact ⟨m, by omega, by rw [r_up_at]; omega, by rw [r_up_at]; exact w.2⟩
/-- a valve's openings after one more is wanted of valves j .. -/
theorem v_wants_at {fr to r : Int} : ∀ (n : Nat) (j : Int) (V : vV) (i : Int), ((v_wants fr to r n j V).1 i, (v_wants fr to r n j V).2.1 i, (v_wants fr to r n j V).2.2 i) = if j ≤ i ∧ i < j + n then ((v_want V i fr to r).1 i, (v_want V i fr to r).2.1 i, (v_want V i fr to r).2.2 i) else (V.1 i, V.2.1 i, V.2.2 i) := by
  intro n
  induction n with
  | zero => intro j V i; rw [if_neg (by omega)]; rfl
  | succ n ih =>
    intro j V i
    simp only [v_wants]
    rw [ih (j + 1) (v_want V j fr to r) i]
    by_cases e : i = j
    · subst e
      rw [if_neg (by omega), if_pos (by omega)]
    · have e1 : (v_want V j fr to r).1 i = V.1 i := by simp only [v_want, g_row_ne e]
      have e2 : (v_want V j fr to r).2.1 i = V.2.1 i := by simp only [v_want, g_row_ne e]
      have e3 : (v_want V j fr to r).2.2 i = V.2.2 i := by simp only [v_want, g_row_ne e]
      by_cases c : j + 1 ≤ i ∧ i < j + 1 + n
      · rw [if_pos c, if_pos (by omega)]
        simp only [v_want, g_row_at, g_row_ne e]
      · rw [if_neg c, if_neg (by omega), e1, e2, e3]
/-- tick t of valve j is wanted by one of the first n -/
def wnt (er : Int → gRw) (pl kn nu : gRw) (n : Nat) (j t : Int) : Prop := ∃ b : Int, (0 ≤ b ∧ b < n) ∧ v_rule pl kn nu (er b) ≠ -4 ∧ (v_lo pl (er b) ≤ j ∧ j ≤ v_hi pl (er b)) ∧ v_fr pl (er b) ≤ t ∧ t ≤ v_to pl (er b)
theorem wnt_succ {er : Int → gRw} {pl kn nu : gRw} {n : Nat} {j t : Int} : wnt er pl kn nu (n + 1) j t ↔ wnt er pl kn nu n j t ∨ (v_rule pl kn nu (er n) ≠ -4 ∧ (v_lo pl (er n) ≤ j ∧ j ≤ v_hi pl (er n)) ∧ v_fr pl (er n) ≤ t ∧ t ≤ v_to pl (er n)) := by
  constructor
  · intro ⟨b, hb, w⟩
    by_cases e : b = n
    · rw [e] at w; exact Or.inr w
    · exact Or.inl ⟨b, by omega, w⟩
  · intro w
    rcases w with ⟨b, hb, w⟩ | w
    · exact ⟨b, by omega, w⟩
    · exact ⟨n, by omega, w⟩
/-- blobs as they come to be judged: first and last of each, and none ends ahead of one ahead of it -/
def erS (er : Int → gRw) (n : Nat) : Prop := (∀ b : Int, 0 ≤ b → b < n → er b 0 ≤ er b 1) ∧ ∀ a b : Int, 0 ≤ a → a ≤ b → b < n → er a 1 ≤ er b 1
theorem jv_iv {er : Int → gRw} {pl kn nu : gRw} (hp : v_pok pl) : ∀ n : Nat, erS er n → (∀ b : Int, 0 ≤ b → b < n → v_bok pl (er b)) → (∀ b : Int, 0 ≤ b → b < n → (jv er pl kn nu n).1 b = v_rule pl kn nu (er b)) ∧ ∀ j : Int, 0 ≤ j → j < 16 → 0 ≤ (jv er pl kn nu n).2.1 j ∧ IV (pl 9) (wnt er pl kn nu n j) ((jv er pl kn nu n).2.1 j) ((jv er pl kn nu n).2.2.1 j) ((jv er pl kn nu n).2.2.2 j) := by
  intro n
  induction n with
  | zero =>
    intro _ _
    refine ⟨fun b b0 b1 => by omega, fun j j0 j1 => ⟨Int.le_refl _, IV.nil (fun t w => ?_)⟩⟩
    obtain ⟨b, hb, -⟩ := w
    omega
  | succ n ih =>
    intro hs hb
    obtain ⟨i1, i2⟩ := ih ⟨fun b b0 b1 => hs.1 b b0 (by omega), fun a b a0 ab b1 => hs.2 a b a0 ab (by omega)⟩ (fun b b0 b1 => hb b b0 (by omega))
    have e1 : (jv er pl kn nu (n + 1)).1 = r_up (jv er pl kn nu n).1 n (v_rule pl kn nu (er n)) := rfl
    have e2 : (jv er pl kn nu (n + 1)).2 = if v_rule pl kn nu (er n) = -4 then (jv er pl kn nu n).2 else v_open (jv er pl kn nu n).2 pl (er n) := rfl
    refine ⟨fun b b0 b1 => ?_, fun j j0 j1 => ?_⟩
    · rw [e1]
      by_cases e : b = n
      · rw [e, r_up_at]
      · rw [r_up_ne e]; exact i1 b b0 (by omega)
    · obtain ⟨v0, v1⟩ := i2 j j0 j1
      rw [e2]
      by_cases hr : v_rule pl kn nu (er n) = -4
      · rw [if_pos hr]
        exact ⟨v0, v1.congr (fun t => ⟨fun w => wnt_succ.mpr (Or.inl w), fun w => (wnt_succ.mp w).elim id (fun w => absurd hr w.1)⟩)⟩
      · rw [if_neg hr]
        unfold v_open
        have hfl := hs.1 n (by omega) (by omega)
        have hf : v_fr pl (er n) = max (er n 0 + pl 5 - pl 6) (er n 1 + 1) := rfl
        have ht : v_to pl (er n) = er n 1 + pl 5 + pl 7 := rfl
        have p6 := hp.2.2.1.1
        have p7 := hp.2.2.2.1.1
        by_cases hte : v_to pl (er n) < er n 1 + 1
        · rw [if_pos hte]
          exact ⟨v0, v1.congr (fun t => ⟨fun w => wnt_succ.mpr (Or.inl w), fun w => (wnt_succ.mp w).elim id (fun w => by omega)⟩)⟩
        · rw [if_neg hte]
          have ev := v_wants_at (fr := v_fr pl (er n)) (to := v_to pl (er n)) (r := pl 9) (v_hi pl (er n) - v_lo pl (er n) + 1).toNat (v_lo pl (er n)) (jv er pl kn nu n).2 j
          generalize v_wants (v_fr pl (er n)) (v_to pl (er n)) (pl 9) (v_hi pl (er n) - v_lo pl (er n) + 1).toNat (v_lo pl (er n)) (jv er pl kn nu n).2 = V' at ev ⊢
          by_cases hj : v_lo pl (er n) ≤ j ∧ j ≤ v_hi pl (er n)
          · rw [if_pos (by omega)] at ev
            simp only [v_want, g_row_at, Prod.mk.injEq] at ev
            obtain ⟨ev1, ev2, ev3⟩ := ev
            rw [ev1, ev2, ev3]
            refine ⟨by omega, (v1.want v0 (by omega) (fun t w => ?_)).congr (fun t => ?_)⟩
            · obtain ⟨b, hb1, -, -, -, hb2⟩ := w
              have := hs.2 b n hb1.1 (by omega) (by omega)
              have hb3 : v_to pl (er b) = er b 1 + pl 5 + pl 7 := rfl
              omega
            · rw [wnt_succ]
              constructor
              · intro w; rcases w with w | w
                · exact Or.inl w
                · exact Or.inr ⟨hr, hj, w⟩
              · intro w; rcases w with w | w
                · exact Or.inl w
                · exact Or.inr w.2.2
          · rw [if_neg (by omega)] at ev
            simp only [Prod.mk.injEq] at ev
            obtain ⟨ev1, ev2, ev3⟩ := ev
            rw [ev1, ev2, ev3]
            exact ⟨v0, v1.congr (fun t => ⟨fun w => wnt_succ.mpr (Or.inl w), fun w => (wnt_succ.mp w).elim id (fun w => absurd w.2.1 hj)⟩)⟩
/-- blown, told by ticks -/
theorem v_bl_opn {er : Int → gRw} {pl kn nu : gRw} {n : Nat} (hp : v_pok pl) (hs : erS er n) (hb : ∀ b : Int, 0 ≤ b → b < n → v_bok pl (er b)) {r : gRw} (hr : r 0 ≤ r 1) : v_bl (jv er pl kn nu n).2 pl r ↔ ∃ j : Int, (v_lo pl r ≤ j ∧ j ≤ v_hi pl r) ∧ ∃ t : Int, (r 0 + pl 5 ≤ t ∧ t ≤ r 1 + pl 5) ∧ opn (pl 9) (wnt er pl kn nu n j) t := by
  have hI := (jv_iv (kn := kn) (nu := nu) hp n hs hb).2
  have hj0 : ∀ j, v_lo pl r ≤ j → j ≤ v_hi pl r → 0 ≤ j ∧ j < 16 := fun j a b => by unfold v_lo at a; unfold v_hi at b; omega
  constructor
  · intro ⟨j, hj, k, k0, k1, c1, c2⟩
    obtain ⟨a, b⟩ := hj0 j hj.1 hj.2
    have hv := (hI j a b).2
    have hfl := (hv.1 k k0 k1).1
    by_cases e : r 0 + pl 5 ≤ (jv er pl kn nu n).2.2.1 j k
    · exact ⟨j, hj, (jv er pl kn nu n).2.2.1 j k, ⟨e, c1⟩, (hv.opn _).mpr ⟨k, ⟨k0, k1⟩, Int.le_refl _, hfl⟩⟩
    · exact ⟨j, hj, r 0 + pl 5, ⟨Int.le_refl _, by omega⟩, (hv.opn _).mpr ⟨k, ⟨k0, k1⟩, by omega, c2⟩⟩
  · intro ⟨j, hj, t, ht, ho⟩
    obtain ⟨a, b⟩ := hj0 j hj.1 hj.2
    obtain ⟨k, hk, c1, c2⟩ := ((hI j a b).2.opn t).mp ho
    exact ⟨j, hj, k, hk.1, hk.2, by omega, by omega⟩
