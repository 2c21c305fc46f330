theorem fro_next {cl : gRw} {t c q : Int} (h : fro cl t c q) : fro cl t (c + 1) q := ⟨h.1, h.2.1, by have := h.2.2.1; omega, h.2.2.2⟩
theorem fro_prev {cl : gRw} {t c q : Int} (h : fro cl t (c + 1) q) (hq : q ≠ 16 * t + c) : fro cl t c q := ⟨h.1, h.2.1, by have := h.2.2.1; omega, h.2.2.2⟩
/-- a cell with nothing there -/
theorem FR.skip {cl : gRw} {D : Int} {L : gRw} {t c : Int} {S : fS} (ht : 0 ≤ t) (hc : 0 ≤ c ∧ c < 16) (h : FR cl D L t c S) (hz : ¬ 0 < cl (16 * t + c)) : FR cl D L t (c + 1) S := by
  obtain ⟨hL, hO, hN, hU, hI, hS, hB⟩ := h
  have hf : ∀ q, fro cl t (c + 1) q → fro cl t c q := fun q hq => fro_prev hq (fun e => hz (e ▸ hq.2.2.2))
  have en : (16 * t + (c + 1)).toNat = (16 * t + c).toNat + 1 := by omega
  have hlq : ∀ q, q < 16 * t + (c + 1) → 0 < cl q → q < 16 * t + c := fun q q1 q2 => by
    have : q ≠ 16 * t + c := fun e => hz (e ▸ q2)
    omega
  refine ⟨⟨fun q q0 q1 q2 => hL.1 q q0 (hlq q q1 q2) q2, fun q q0 => hL.2 q (fun w => q0 ⟨w.1, by omega, w.2.2⟩)⟩, fun q hq => hO q (hf q hq), fun x x0 x1 => ⟨fun w => (hN x x0 x1).1 (fun z => w (fro_next z)), fun w => (hN x x0 x1).2 (fun z => w (fro_next z))⟩, fun s us => ?_, hI, fun s us => ?_, hB⟩
  · obtain ⟨q, hq, ho⟩ := hU s us
    exact ⟨q, fro_next hq, ho⟩
  · rw [en]
    refine (hS s us).skip (fun w => hz ?_)
    have := (mm_t.mp w).1
    rw [show (((16 * t + c).toNat : Nat) : Int) = 16 * t + c by omega] at this
    exact this
/-- a cell with something there, put to slot s, label x -/
theorem FR.put {cl : gRw} {D : Int} {L L1 : gRw} {t c : Int} {S : fS} (hcl : ∀ q, 0 ≤ cl q ∧ cl q ≤ 9) (ht : 0 ≤ t) (hc : 0 ≤ c ∧ c < 16) (hK : 16 * t + c < 960) (h : FR cl D L t c S) (hp : 0 < cl (16 * t + c)) {s x : Int} {r : gRw} (hs : 0 ≤ s ∧ s < 16)
    (h1 : ∀ q, q ≠ 16 * t + c → L1 q = L q) (h2 : L1 (16 * t + c) = x) (hLab : Lab cl L1 (16 * t + c + 1)) (hr : isSt cl D (mm cl L1 x) x ((16 * t + c).toNat + 1) r) (hu : usd S s → rlab (S.1 s) = x) (ho : ∀ z, usd S z → z ≠ s → rlab (S.1 z) ≠ x) : FR cl D L1 t (c + 1) (g_row S.1 s r, S.2.1, r_up S.2.2 c s) := by
  obtain ⟨hL, hO, hN, hU, hI, hS, hB⟩ := h
  have en : (16 * t + (c + 1)).toNat = (16 * t + c).toNat + 1 := by omega
  have eK : (((16 * t + c).toNat : Nat) : Int) = 16 * t + c := by omega
  have hxl : x ≤ 16 * t + c ∧ 0 ≤ x := by
    have := (hLab.1 (16 * t + c) (by omega) (by omega) hp).1
    omega
  have hfK : fro cl t (c + 1) (16 * t + c) := ⟨by omega, by omega, by omega, hp⟩
  have hmem : mm cl L1 x (16 * t + c) = true := mm_t.mpr ⟨hp, h2⟩
  have hok := hr.ok hcl (by omega) (by omega) ⟨16 * t + c, by omega, hmem⟩
  have hrl : rlab r = x := hr.1.1
  have hown : ∀ q, fro cl t c q → own t (g_row S.1 s r, S.2.1, r_up S.2.2 c s) q = own t S q := fun q hq => by
    have := hq.2.2.1
    unfold own
    split
    · rfl
    · dsimp only; rw [r_up_ne (by omega)]
  have hownK : own t (g_row S.1 s r, S.2.1, r_up S.2.2 c s) (16 * t + c) = s := by
    unfold own
    rw [if_neg (by omega)]
    dsimp only
    rw [show 16 * t + c - 16 * t = c by omega, r_up_at]
  have hus : usd (g_row S.1 s r, S.2.1, r_up S.2.2 c s) s := ⟨hs, by dsimp only; rw [g_row_at]; omega⟩
  have huz : ∀ z, z ≠ s → (usd (g_row S.1 s r, S.2.1, r_up S.2.2 c s) z ↔ usd S z) := fun z hz => by unfold usd; dsimp only; rw [g_row_ne hz]
  refine ⟨by rw [show 16 * t + (c + 1) = 16 * t + c + 1 by omega]; exact hLab, fun q hq => ?_, fun z z0 z1 => ⟨fun w => (hN z z0 z1).1 (fun v => w (fro_next v)), fun w => ?_⟩, fun z uz => ?_, fun z z' uz uz' hzz => ?_, fun z uz => ?_, fun z z0 z1 => ?_⟩
  · by_cases hq1 : q = 16 * t + c
    · subst hq1
      rw [hownK, h2]
      refine ⟨hus, ?_⟩
      dsimp only
      rw [g_row_at, hrl]
    · have hq2 := fro_prev hq hq1
      obtain ⟨uq, lq⟩ := hO q hq2
      rw [hown q hq2, h1 q hq1]
      by_cases hqs : own t S q = s
      · rw [hqs]
        refine ⟨hus, ?_⟩
        dsimp only
        rw [g_row_at, hrl, ← lq, hqs]
        exact (hu (hqs ▸ uq)).symm
      · refine ⟨(huz _ hqs).mpr uq, ?_⟩
        dsimp only
        rw [g_row_ne hqs]
        exact lq
  · have hzc : z ≠ c := fun e => w (by rw [e]; exact hfK)
    dsimp only
    rw [r_up_ne hzc]
    exact (hN z z0 z1).2 (fun v => w (fro_next v))
  · by_cases hzs : z = s
    · exact ⟨_, hfK, by rw [hownK, hzs]⟩
    · obtain ⟨q, hq, hoq⟩ := hU z ((huz z hzs).mp uz)
      exact ⟨q, fro_next hq, by rw [hown q hq, hoq]⟩
  · dsimp only at hzz
    by_cases hzs : z = s
    · by_cases hzs' : z' = s
      · rw [hzs, hzs']
      · exfalso
        rw [hzs, g_row_at, hrl, g_row_ne hzs'] at hzz
        exact ho z' ((huz z' hzs').mp uz') hzs' hzz.symm
    · by_cases hzs' : z' = s
      · exfalso
        rw [hzs', g_row_at, hrl, g_row_ne hzs] at hzz
        exact ho z ((huz z hzs).mp uz) hzs hzz
      · rw [g_row_ne hzs, g_row_ne hzs'] at hzz
        exact hI z z' ((huz z hzs).mp uz) ((huz z' hzs').mp uz') hzz
  · dsimp only
    rw [en]
    by_cases hzs : z = s
    · rw [hzs, g_row_at, hrl]; exact hr
    · rw [g_row_ne hzs]
      have uz2 := (huz z hzs).mp uz
      have hne := ho z uz2 hzs
      refine ((hS z uz2).congr (fun q q0 q1 => ?_)).skip (fun w => ?_)
      · simp only [mm, h1 q (by omega)]
      · have w2 := (mm_t.mp w).2
        rw [eK, h2] at w2
        exact hne w2.symm
  · dsimp only
    by_cases hzs : z = s
    · rw [hzs, g_row_at]; exact hok.1
    · rw [g_row_ne hzs]; exact hB z z0 z1
theorem isSt.new {cl : gRw} {D : Int} {m : Int → Bool} {n : Nat} {r : gRw} {t c : Int} (hno : ∀ q : Int, 0 ≤ q → q < n → ¬ m q = true) (hm : m n = true) (hn : (n : Int) = 16 * t + c) (hc : 0 ≤ c ∧ c < 16) (ht : 0 ≤ t) (h5 : r 5 = 0) : isSt cl D m (16 * t + c) (n + 1) (bl_inc (bl_new r t c) t c (cl n) (f_dk D (cl n))) := by
  have e1 : (n : Int) / 16 = t := by omega
  have e2 : (n : Int) % 16 = c := by omega
  have k1 := fun f => (k_none (m := m) (f := f) n hno).1
  have k2 := fun f => (k_none (m := m) (f := f) n hno).2.1
  have k3 := fun f => (k_none (m := m) (f := f) n hno).2.2
  refine ⟨?_, ?_, ?_, ?_, ?_, ?_, ?_⟩
  · simp [bl_inc, bl_new]; omega
  · simp only [k_max, if_pos hm, e1, k3]; simp [bl_inc, bl_new]; omega
  · simp only [k_min, if_pos hm, e2, k2]; simp [bl_inc, bl_new]; omega
  · simp only [k_max, if_pos hm, e2, k3]; simp [bl_inc, bl_new]; omega
  · simp only [k_sum, if_pos hm, k1]; simp [bl_inc, bl_new, h5]
  · simp only [k_sum, if_pos hm, k1]; simp [bl_inc, bl_new]
  · simp only [k_sum, if_pos hm, k1]; simp [bl_inc, bl_new]
/-- no cell to its left: a blob of its own -/
theorem FR.putNew {cl : gRw} {D : Int} {L : gRw} {t c : Int} {S : fS} (hcl : ∀ q, 0 ≤ cl q ∧ cl q ≤ 9) (ht : 0 ≤ t) (hc : 0 ≤ c ∧ c < 16) (hK : 16 * t + c < 960) (h : FR cl D L t c S) (hp : 0 < cl (16 * t + c)) {s : Int} (hs : 0 ≤ s ∧ s < 16) (h5 : S.1 s 5 = 0) : FR cl D L t (c + 1) (f_put S s t c (cl (16 * t + c)) (f_dk D (cl (16 * t + c)))) := by
  have hL := h.1
  have hKK : L (16 * t + c) = 16 * t + c := hL.2 _ (fun w => by omega)
  have eK : (((16 * t + c).toNat : Nat) : Int) = 16 * t + c := by omega
  have hr : isSt cl D (mm cl L (16 * t + c)) (16 * t + c) ((16 * t + c).toNat + 1) (bl_inc (bl_new (S.1 s) t c) t c (cl ((16 * t + c).toNat : Nat)) (f_dk D (cl ((16 * t + c).toNat : Nat)))) := by
    refine isSt.new (fun q q0 q1 w => ?_) ?_ eK hc ht h5
    · have hw := mm_t.mp w
      have := (hL.1 q q0 (by omega) hw.1).1
      omega
    · rw [eK]; exact mm_t.mpr ⟨hp, hKK⟩
  rw [eK] at hr
  have e : f_put S s t c (cl (16 * t + c)) (f_dk D (cl (16 * t + c))) = (g_row S.1 s (bl_inc (bl_new (S.1 s) t c) t c (cl (16 * t + c)) (f_dk D (cl (16 * t + c)))), S.2.1, r_up S.2.2 c s) := by
    unfold f_put bl_add; rw [if_pos h5]
  rw [e]
  refine FR.put hcl ht hc hK h hp hs (fun q _ => rfl) hKK ⟨fun q q0 q1 q2 => ?_, fun q q0 => hL.2 q (fun w => q0 ⟨w.1, by omega, w.2.2⟩)⟩ hr (fun us => by have := us.2; omega) (fun z uz hz w => ?_)
  · by_cases hq : q = 16 * t + c
    · subst hq; rw [hKK]; exact ⟨⟨q0, Int.le_refl _⟩, q2, hKK⟩
    · exact hL.1 q q0 (by omega) q2
  · obtain ⟨q, hq, hoq⟩ := h.2.2.2.1 z uz
    have h9 := (h.2.1 q hq).2
    rw [hoq, w] at h9
    have := (hL.1 q hq.1 hq.2.2.1 hq.2.2.2).1
    have := hq.2.2.1
    omega
/-- a cell to its left: the same blob -/
theorem FR.putLeft {cl : gRw} {D : Int} {L : gRw} {t c : Int} {S : fS} (hcl : ∀ q, 0 ≤ cl q ∧ cl q ≤ 9) (ht : 0 ≤ t) (hc : 0 < c ∧ c < 16) (hK : 16 * t + c < 960) (h : FR cl D L t c S) (hp : 0 < cl (16 * t + c)) (hl : 0 < cl (16 * t + c - 1)) : FR cl D (j_jn L (16 * t + c) (16 * t + c - 1)) t (c + 1) (f_put S (own t S (16 * t + c - 1)) t c (cl (16 * t + c)) (f_dk D (cl (16 * t + c)))) := by
  have hL := h.1
  have hf : fro cl t c (16 * t + c - 1) := ⟨by omega, by omega, by omega, hl⟩
  obtain ⟨us, ls⟩ := h.2.1 _ hf
  generalize own t S (16 * t + c - 1) = s at us ls
  have eK : (((16 * t + c).toNat : Nat) : Int) = 16 * t + c := by omega
  have hx := hL.1 _ hf.1 hf.2.2.1 hl
  have hKK : L (16 * t + c) = 16 * t + c := hL.2 _ (fun w => by omega)
  have hj : ∀ q, j_jn L (16 * t + c) (16 * t + c - 1) q = if L q = 16 * t + c then L (16 * t + c - 1) else L q := fun q => by
    unfold j_jn; rw [hKK, Int.max_eq_left (by omega), Int.min_eq_right (by omega)]
  have hst := h.2.2.2.2.2.1 s us
  rw [ls] at hst
  have e : f_put S s t c (cl (16 * t + c)) (f_dk D (cl (16 * t + c))) = (g_row S.1 s (bl_inc (S.1 s) t c (cl (16 * t + c)) (f_dk D (cl (16 * t + c)))), S.2.1, r_up S.2.2 c s) := by
    unfold f_put bl_add; rw [if_neg (by have := us.2; omega)]
  rw [e]
  -- the label told anew at that place alone
  have hL1 : ∀ q, q ≠ 16 * t + c → r_up L (16 * t + c) (L (16 * t + c - 1)) q = L q := fun q hq => r_up_ne hq
  have hL2 : r_up L (16 * t + c) (L (16 * t + c - 1)) (16 * t + c) = L (16 * t + c - 1) := r_up_at
  have hlb : Lab cl (r_up L (16 * t + c) (L (16 * t + c - 1))) (16 * t + c + 1) := by
    refine ⟨fun q q0 q1 q2 => ?_, fun q q0 => ?_⟩
    by_cases hq : q = 16 * t + c
    · subst hq
      rw [hL2, hL1 _ (by omega)]
      exact ⟨⟨hx.1.1, by omega⟩, hx.2.1, hx.2.2⟩
    · have h9 := hL.1 q q0 (by omega) q2
      rw [hL1 q hq, hL1 (L q) (by omega)]
      exact h9
    · have hq : q ≠ 16 * t + c := fun e => q0 (by rw [e]; exact ⟨by omega, by omega, hp⟩)
      rw [hL1 q hq]
      exact hL.2 q (fun w => q0 ⟨w.1, by omega, w.2.2⟩)
  have hr : isSt cl D (mm cl (r_up L (16 * t + c) (L (16 * t + c - 1))) (L (16 * t + c - 1))) (L (16 * t + c - 1)) ((16 * t + c).toNat + 1) (bl_inc (S.1 s) t c (cl ((16 * t + c).toNat : Nat)) (f_dk D (cl ((16 * t + c).toNat : Nat)))) := by
    refine (hst.congr (fun q q0 q1 => ?_)).inc ?_ eK ⟨by omega, hc.2⟩
    · simp only [mm, hL1 q (by omega)]
    · rw [eK]; exact mm_t.mpr ⟨hp, hL2⟩
  rw [eK] at hr
  have hfin := FR.put hcl ht ⟨by omega, hc.2⟩ hK h hp us.1 hL1 hL2 hlb hr (fun _ => ls) (fun z uz hz w => hz (h.2.2.2.2.1 z s uz us (w.trans ls.symm)))
  -- both ways to tell it are one on places that matter
  have hsame : ∀ q : Int, j_jn L (16 * t + c) (16 * t + c - 1) q = r_up L (16 * t + c) (L (16 * t + c - 1)) q := by
    intro q
    rw [hj]
    by_cases hq : q = 16 * t + c
    · subst hq; rw [if_pos hKK, hL2]
    · rw [hL1 q hq, if_neg (fun w => hq ?_)]
      by_cases h9 : 0 ≤ q ∧ q < 16 * t + c ∧ 0 < cl q
      · have := (hL.1 q h9.1 h9.2.1 h9.2.2).1; omega
      · rw [hL.2 q h9] at w; exact w
  have : j_jn L (16 * t + c) (16 * t + c - 1) = r_up L (16 * t + c) (L (16 * t + c - 1)) := funext hsame
  rw [this]
  exact hfin
