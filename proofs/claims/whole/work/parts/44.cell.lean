/-! counting by codes -/
def p_cnt (P : Nat → Bool) : Nat → Nat
  | 0 => 0
  | n + 1 => p_cnt P n + (if P n = true then 1 else 0)
theorem p_cnt_le : ∀ (n : Nat) (P : Nat → Bool) (g : Nat → Nat) (B : Nat), (∀ i, i < n → P i = true → g i < B) → (∀ i j, i < n → j < n → P i = true → P j = true → g i = g j → i = j) → p_cnt P n ≤ B := by
  intro n
  induction n with
  | zero => intro P g B _ _; exact Nat.zero_le _
  | succ n ih =>
    intro P g B h1 h2
    simp only [p_cnt]
    by_cases hp : P n = true
    · rw [if_pos hp]
      have hB := h1 n (by omega) hp
      have := ih P (fun i => if g n < g i then g i - 1 else g i) (B - 1) (fun i hi hPi => by
          have hne : g i ≠ g n := fun e => by have := h2 i n (by omega) (by omega) hPi hp e; omega
          have := h1 i (by omega) hPi
          split <;> omega) (fun i j hi hj hPi hPj he => by
          have hni : g i ≠ g n := fun e => by have := h2 i n (by omega) (by omega) hPi hp e; omega
          have hnj : g j ≠ g n := fun e => by have := h2 j n (by omega) (by omega) hPj hp e; omega
          refine h2 i j (by omega) (by omega) hPi hPj ?_
          split at he <;> split at he <;> omega)
      omega
    · rw [if_neg hp]
      exact ih P g B (fun i hi hPi => h1 i (by omega) hPi) (fun i j hi hj => h2 i j (by omega) (by omega))
theorem p_cnt_all : ∀ (n : Nat) (P : Nat → Bool), (∀ i, i < n → P i = true) → p_cnt P n = n := by
  intro n
  induction n with
  | zero => intro P _; rfl
  | succ n ih => intro P h; simp only [p_cnt, ih P (fun i hi => h i (by omega)), if_pos (h n (by omega))]
/-- side by side places have one label -/
def AdjL (cl L : gRw) (K : Int) : Prop := ∀ q : Int, 0 ≤ q → q + 1 < K → ¬ (q + 1) % 16 = 0 → 0 < cl q → 0 < cl (q + 1) → L q = L (q + 1)
theorem AdjL.jn {cl L : gRw} {K : Int} (h : AdjL cl L K) (x y : Int) : AdjL cl (j_jn L x y) K := fun q q0 q1 q2 q3 q4 => by
  unfold j_jn; rw [h q q0 q1 q2 q3 q4]
def j_c1 (cl L : gRw) (t c : Int) : gRw := if 0 < c ∧ 0 < cl (16 * t + c - 1) then j_jn L (16 * t + c) (16 * t + c - 1) else L
def j_c2 (cl L : gRw) (t c : Int) : gRw := if (0 < t ∧ 0 < c) ∧ 0 < cl (16 * t + c - 17) then j_jn L (16 * t + c) (16 * t + c - 17) else L
def j_c3 (cl L : gRw) (t c : Int) : gRw := if 0 < t ∧ 0 < cl (16 * t + c - 16) then j_jn L (16 * t + c) (16 * t + c - 16) else L
def j_c4 (cl L : gRw) (t c : Int) : gRw := if (0 < t ∧ c < 15) ∧ 0 < cl (16 * t + c - 15) then j_jn L (16 * t + c) (16 * t + c - 15) else L
def j_cell (cl L : gRw) (t c : Int) : gRw := if 0 < cl (16 * t + c) then j_c4 cl (j_c3 cl (j_c2 cl (j_c1 cl L t c) t c) t c) t c else L
/-- who owns two places with one label -/
theorem FR.same {cl : gRw} {D : Int} {L : gRw} {t c : Int} {S : fS} (h : FR cl D L t c S) {x y : Int} (hx : fro cl t c x) (hy : fro cl t c y) (e : L x = L y) : own t S x = own t S y :=
  h.2.2.2.2.1 _ _ (h.2.1 x hx).1 (h.2.1 y hy).1 (by rw [(h.2.1 x hx).2, (h.2.1 y hy).2, e])
theorem f_fr_ex {lv : Int → gRw} : ∀ (n : Nat) (s : Int), (∃ z : Int, s ≤ z ∧ z < s + n ∧ lv z 5 = 0) → (s ≤ f_fr lv n s ∧ f_fr lv n s < s + n) ∧ lv (f_fr lv n s) 5 = 0 := by
  intro n
  induction n with
  | zero => intro s ⟨z, z0, z1, _⟩; omega
  | succ n ih =>
    intro s ⟨z, z0, z1, z2⟩
    unfold f_fr
    by_cases h : lv s 5 = 0
    · rw [if_pos h]; exact ⟨by omega, h⟩
    · rw [if_neg h]
      have hzs : z ≠ s := fun e => h (e ▸ z2)
      have := ih (s + 1) ⟨z, by omega, by omega, z2⟩
      exact ⟨by omega, this.2⟩
/-- where a cell has none to its left, there is a slot for it -/
theorem FR.free {cl : gRw} {D : Int} {L : gRw} {t c : Int} {S : fS} (h : FR cl D L t c S) (ha : AdjL cl L (16 * t + c)) (ht : 0 ≤ t) (hc : 0 ≤ c ∧ c < 16) (hl : ¬ (0 < c ∧ 0 < cl (16 * t + c - 1))) : (0 ≤ f_fr S.1 16 0 ∧ f_fr S.1 16 0 < 16) ∧ S.1 (f_fr S.1 16 0) 5 = 0 := by
  have key : ∃ z : Int, 0 ≤ z ∧ z < 0 + (16 : Nat) ∧ S.1 z 5 = 0 := by
    refine Classical.byContradiction (fun hno => ?_)
    have hall : ∀ i : Nat, i < 16 → usd S i := fun i hi => ⟨by omega, by
      have h5 := (h.2.2.2.2.2.2 i (by omega) (by omega)) 5 (by decide) (by decide)
      have : S.1 i 5 ≠ 0 := fun e => hno ⟨i, by omega, by omega, e⟩
      omega⟩
    have hq : ∀ i : Nat, ∃ q : Int, i < 16 → fro cl t c q ∧ own t S q = i := fun i => by
      by_cases hi : i < 16
      · obtain ⟨q, h1, h2⟩ := h.2.2.2.1 i (hall i hi); exact ⟨q, fun _ => ⟨h1, h2⟩⟩
      · exact ⟨0, fun h => absurd h hi⟩
    have hle := p_cnt_le 16 (fun _ => true) (fun i => (if (hq i).choose < 16 * t then ((hq i).choose - 16 * (t - 1)) / 2 else 8 + ((hq i).choose - 16 * t) / 2).toNat) 15 (fun i hi _ => by
        obtain ⟨h1, h2⟩ := (hq i).choose_spec hi
        generalize (hq i).choose = q at h1 h2
        obtain ⟨f0, f1, f2, f3⟩ := h1
        have hne : ¬ (q = 16 * t + c - 1 ∧ 16 * t ≤ q) := fun e => hl ⟨by omega, e.1 ▸ f3⟩
        split <;> omega) (fun i j hi hj _ _ he => by
        obtain ⟨h1, h2⟩ := (hq i).choose_spec hi
        obtain ⟨g1, g2⟩ := (hq j).choose_spec hj
        generalize (hq i).choose = q at h1 h2 he
        generalize (hq j).choose = w at g1 g2 he
        have hL : L q = L w := by
          obtain ⟨f0, f1, f2, f3⟩ := h1
          obtain ⟨e0, e1, e2, e3⟩ := g1
          have hcase : q = w ∨ (q + 1 = w ∧ ¬ w % 16 = 0) ∨ (w + 1 = q ∧ ¬ q % 16 = 0) := by
            split at he <;> split at he <;> omega
          rcases hcase with rfl | ⟨rfl, h9⟩ | ⟨rfl, h9⟩
          · rfl
          · exact ha q f0 e2 h9 f3 e3
          · exact (ha w e0 f2 h9 e3 f3).symm
        have := h.same h1 g1 hL
        rw [h2, g2] at this
        omega)
    rw [p_cnt_all 16 _ (fun _ _ => rfl)] at hle
    omega
  have := f_fr_ex 16 0 key
  exact ⟨by omega, this.2⟩
theorem own_join {t c : Int} {S : fS} {cl : gRw} {s o q : Int} (hc : c ≤ 16) (hq : fro cl t c q) (h : own t S q = s) : own t (f_join S s o) q = s := by
  unfold f_join
  split
  · rename_i hso
    rw [own_ho hc hq, h, if_neg (fun e => hso.2 e.symm)]
  · exact h
theorem f_join_none {S : fS} {s : Int} : f_join S s (-1) = S := by unfold f_join; rw [if_neg (by omega)]
/-- what stands ahead of a cell -/
theorem FR.ahead {cl : gRw} {D : Int} {L : gRw} {t c : Int} {S : fS} (h : FR cl D L t c S) (ht : 0 ≤ t) (x : Int) : (fro cl t c (16 * (t - 1) + x) → x < 16 → 0 ≤ x → f_own S.2.1 x = own t S (16 * (t - 1) + x)) ∧ (¬ (0 < t ∧ (0 ≤ x ∧ x < 16) ∧ 0 < cl (16 * (t - 1) + x)) → f_own S.2.1 x = -1) := by
  refine ⟨fun hf h1 h0 => ?_, fun hno => ?_⟩
  · unfold f_own own
    rw [if_pos ⟨h0, h1⟩, if_pos (by omega), show 16 * (t - 1) + x - 16 * (t - 1) = x by omega]
  · unfold f_own
    split
    · rename_i hx
      exact (h.2.2.1 x hx.1 hx.2).1 (fun hf => hno ⟨by have := hf.1; omega, hx, hf.2.2.2⟩)
    · rfl
/-- one step of joining with a place of the line ahead -/
theorem FR.jstep {cl : gRw} {D : Int} {L : gRw} {t c : Int} {S : fS} {s : Int} (hcl : ∀ q, 0 ≤ cl q ∧ cl q ≤ 9) (ht : 0 ≤ t) (hc : 0 ≤ c ∧ c < 16) (hK : 16 * t + c < 960) (h : FR cl D L t (c + 1) S) (ha : AdjL cl L (16 * t + c + 1)) (hp : 0 < cl (16 * t + c)) (hs : own t S (16 * t + c) = s) (x : Int) (P : Prop) (hP : P ↔ 0 < t ∧ (0 ≤ x ∧ x < 16) ∧ 0 < cl (16 * (t - 1) + x)) :
    (P → FR cl D (j_jn L (16 * t + c) (16 * (t - 1) + x)) t (c + 1) (f_join S s (f_own S.2.1 x)) ∧ AdjL cl (j_jn L (16 * t + c) (16 * (t - 1) + x)) (16 * t + c + 1)) ∧ (¬ P → f_join S s (f_own S.2.1 x) = S) ∧ own t (f_join S s (f_own S.2.1 x)) (16 * t + c) = s := by
  have hf : fro cl t (c + 1) (16 * t + c) := ⟨by omega, by omega, by omega, hp⟩
  refine ⟨fun p => ?_, fun p => ?_, own_join (by omega) hf hs⟩
  · obtain ⟨p1, p2, p3⟩ := hP.mp p
    have hx : fro cl t (c + 1) (16 * (t - 1) + x) := ⟨by omega, by omega, by omega, p3⟩
    have := h.join hcl ht (by omega) (by omega) hf hx
    rw [hs] at this
    rw [(h.ahead ht x).1 hx p2.2 p2.1]
    exact ⟨this, ha.jn _ _⟩
  · rw [(h.ahead ht x).2 (fun q => p (hP.mpr q)), f_join_none]
/-- a cell -/
theorem FR.cell {cl : gRw} {D : Int} {L : gRw} {t c : Int} {S : fS} (hcl : ∀ q, 0 ≤ cl q ∧ cl q ≤ 9) (ht : 0 ≤ t) (hc : 0 ≤ c ∧ c < 16) (hK : 16 * t + c < 960) (h : FR cl D L t c S) (ha : AdjL cl L (16 * t + c)) (hp : 0 < cl (16 * t + c)) :
    f_sok S t c (cl (16 * t + c)) (f_dk D (cl (16 * t + c))) ∧ FR cl D (j_cell cl L t c) t (c + 1) (f_cell S t c (cl (16 * t + c)) (f_dk D (cl (16 * t + c)))) ∧ AdjL cl (j_cell cl L t c) (16 * t + c + 1) := by
  -- the slot, and the cell put there
  have h1 : (0 ≤ f_slot S c ∧ f_slot S c < 16) ∧ FR cl D (j_c1 cl L t c) t (c + 1) (f_c1 S t c (cl (16 * t + c)) (f_dk D (cl (16 * t + c)))) ∧ AdjL cl (j_c1 cl L t c) (16 * t + c + 1) ∧ own t (f_c1 S t c (cl (16 * t + c)) (f_dk D (cl (16 * t + c)))) (16 * t + c) = f_slot S c := by
    have hown : own t (f_c1 S t c (cl (16 * t + c)) (f_dk D (cl (16 * t + c)))) (16 * t + c) = f_slot S c := by
      unfold own f_c1 f_put
      rw [if_neg (by omega)]
      dsimp only
      rw [show 16 * t + c - 16 * t = c by omega, r_up_at]
    by_cases hl : 0 < c ∧ 0 < cl (16 * t + c - 1)
    · have hf : fro cl t c (16 * t + c - 1) := ⟨by omega, by omega, by omega, hl.2⟩
      have hsl : f_slot S c = own t S (16 * t + c - 1) := by
        have e1 : f_own S.2.2 (c - 1) = own t S (16 * t + c - 1) := by
          unfold f_own own
          rw [if_pos (by omega), if_neg (by omega), show 16 * t + c - 1 - 16 * t = c - 1 by omega]
        have hu := (h.2.1 _ hf).1.1
        unfold f_slot
        rw [e1, if_neg (by omega)]
      have hj : j_c1 cl L t c = j_jn L (16 * t + c) (16 * t + c - 1) := by unfold j_c1; rw [if_pos hl]
      refine ⟨by rw [hsl]; exact (h.2.1 _ hf).1.1, ?_, ?_, hown⟩
      · rw [hj]; unfold f_c1; rw [hsl]
        exact h.putLeft hcl ht ⟨hl.1, hc.2⟩ hK hp hl.2
      · rw [hj]
        intro q q0 q1 q2 q3 q4
        by_cases hq : q + 1 = 16 * t + c
        · have e1 : q = 16 * t + c - 1 := by omega
          have hKK : L (16 * t + c) = 16 * t + c := h.1.2 _ (fun w => by omega)
          have hlt := (h.1.1 _ hf.1 hf.2.2.1 hf.2.2.2).1
          rw [hq, e1]
          unfold j_jn
          rw [hKK, Int.max_eq_left (by omega), Int.min_eq_right (by omega), if_pos rfl, if_neg (by omega)]
        · exact (ha.jn _ _) q q0 (by omega) q2 q3 q4
    · have hfr := h.free ha ht hc hl
      have hsl : f_slot S c = f_fr S.1 16 0 := by
        have e1 : f_own S.2.2 (c - 1) = -1 := by
          unfold f_own
          split
          · rename_i hx
            refine (h.2.2.1 (c - 1) hx.1 hx.2).2 (fun hf => hl ⟨by omega, ?_⟩)
            have := hf.2.2.2
            rwa [show 16 * t + (c - 1) = 16 * t + c - 1 by omega] at this
          · rfl
        unfold f_slot
        rw [e1, if_pos rfl]
      have hj : j_c1 cl L t c = L := by unfold j_c1; rw [if_neg hl]
      refine ⟨by rw [hsl]; exact hfr.1, ?_, ?_, hown⟩
      · rw [hj]; unfold f_c1; rw [hsl]
        exact h.putNew hcl ht hc hK hp hfr.1 hfr.2
      · rw [hj]
        intro q q0 q1 q2 q3 q4
        by_cases hq : q + 1 = 16 * t + c
        · exact absurd ⟨by omega, by rw [show 16 * t + c - 1 = q by omega]; exact q3⟩ hl
        · exact ha q q0 (by omega) q2 q3 q4
  obtain ⟨hs, hF1, hA1, ho1⟩ := h1
  generalize hS1 : f_c1 S t c (cl (16 * t + c)) (f_dk D (cl (16 * t + c))) = S1 at hF1 ho1
  -- the three places ahead
  have j2 := hF1.jstep hcl ht hc hK hA1 hp ho1 (c - 1) ((0 < t ∧ 0 < c) ∧ 0 < cl (16 * t + c - 17)) (by
    rw [show 16 * (t - 1) + (c - 1) = 16 * t + c - 17 by omega]; constructor
    · intro w; exact ⟨w.1.1, by omega, w.2⟩
    · intro w; exact ⟨⟨w.1, by omega⟩, w.2.2⟩)
  rw [show 16 * (t - 1) + (c - 1) = 16 * t + c - 17 by omega] at j2
  have hS2 : f_c2 S t c (cl (16 * t + c)) (f_dk D (cl (16 * t + c))) = f_join S1 (f_slot S c) (f_own S1.2.1 (c - 1)) := by unfold f_c2; rw [hS1]
  have h2 : FR cl D (j_c2 cl (j_c1 cl L t c) t c) t (c + 1) (f_c2 S t c (cl (16 * t + c)) (f_dk D (cl (16 * t + c)))) ∧ AdjL cl (j_c2 cl (j_c1 cl L t c) t c) (16 * t + c + 1) := by
    rw [hS2]
    unfold j_c2
    split
    · rename_i hp2; exact j2.1 hp2
    · rename_i hp2; rw [j2.2.1 hp2]; exact ⟨hF1, hA1⟩
  have ho2 := j2.2.2
  rw [← hS2] at ho2
  generalize hS2' : f_c2 S t c (cl (16 * t + c)) (f_dk D (cl (16 * t + c))) = S2 at h2 ho2
  have j3 := h2.1.jstep hcl ht hc hK h2.2 hp ho2 c (0 < t ∧ 0 < cl (16 * t + c - 16)) (by
    rw [show 16 * (t - 1) + c = 16 * t + c - 16 by omega]; constructor
    · intro w; exact ⟨w.1, by omega, w.2⟩
    · intro w; exact ⟨w.1, w.2.2⟩)
  rw [show 16 * (t - 1) + c = 16 * t + c - 16 by omega] at j3
  have hS3 : f_c3 S t c (cl (16 * t + c)) (f_dk D (cl (16 * t + c))) = f_join S2 (f_slot S c) (f_own S2.2.1 c) := by unfold f_c3; rw [hS2']
  have h3 : FR cl D (j_c3 cl (j_c2 cl (j_c1 cl L t c) t c) t c) t (c + 1) (f_c3 S t c (cl (16 * t + c)) (f_dk D (cl (16 * t + c)))) ∧ AdjL cl (j_c3 cl (j_c2 cl (j_c1 cl L t c) t c) t c) (16 * t + c + 1) := by
    rw [hS3]
    unfold j_c3
    split
    · rename_i hp3; exact j3.1 hp3
    · rename_i hp3; rw [j3.2.1 hp3]; exact h2
  have ho3 := j3.2.2
  rw [← hS3] at ho3
  generalize hS3' : f_c3 S t c (cl (16 * t + c)) (f_dk D (cl (16 * t + c))) = S3 at h3 ho3
  have j4 := h3.1.jstep hcl ht hc hK h3.2 hp ho3 (c + 1) ((0 < t ∧ c < 15) ∧ 0 < cl (16 * t + c - 15)) (by
    rw [show 16 * (t - 1) + (c + 1) = 16 * t + c - 15 by omega]; constructor
    · intro w; exact ⟨w.1.1, by omega, w.2⟩
    · intro w; exact ⟨⟨w.1, by omega⟩, w.2.2⟩)
  rw [show 16 * (t - 1) + (c + 1) = 16 * t + c - 15 by omega] at j4
  have hS4 : f_cell S t c (cl (16 * t + c)) (f_dk D (cl (16 * t + c))) = f_join S3 (f_slot S c) (f_own S3.2.1 (c + 1)) := by unfold f_cell; rw [hS3']
  have h4 : FR cl D (j_c4 cl (j_c3 cl (j_c2 cl (j_c1 cl L t c) t c) t c) t c) t (c + 1) (f_cell S t c (cl (16 * t + c)) (f_dk D (cl (16 * t + c)))) ∧ AdjL cl (j_c4 cl (j_c3 cl (j_c2 cl (j_c1 cl L t c) t c) t c) t c) (16 * t + c + 1) := by
    rw [hS4]
    unfold j_c4
    split
    · rename_i hp4; exact j4.1 hp4
    · rename_i hp4; rw [j4.2.1 hp4]; exact h3
  have hjc : j_cell cl L t c = j_c4 cl (j_c3 cl (j_c2 cl (j_c1 cl L t c) t c) t c) t c := by unfold j_cell; rw [if_pos hp]
  rw [hjc]
  refine ⟨⟨hs, h.2.2.2.2.2.2, ?_, ?_, ?_⟩, h4.1, h4.2⟩
  · rw [hS1]; exact hF1.2.2.2.2.2.2
  · rw [hS2']; exact h2.1.2.2.2.2.2.2
  · rw [hS3']; exact h3.1.2.2.2.2.2.2
