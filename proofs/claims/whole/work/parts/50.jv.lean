/-! judging does not look at what was left behind -/
def vEq (V V' : vV) : Prop := ∀ j : Int, 0 ≤ j → j < 16 → V.1 j = V'.1 j ∧ 0 ≤ V.1 j ∧ ∀ k : Int, 0 ≤ k → k < V.1 j → V.2.1 j k = V'.2.1 j k ∧ V.2.2 j k = V'.2.2 j k
theorem vl_w_congr {fs ls fs' ls' : gRw} {r : Int} : ∀ (n : Nat) (f : Int), (∀ k : Int, 0 ≤ k → k < n → fs k = fs' k ∧ ls k = ls' k) → vl_w fs ls r n f = vl_w fs' ls' r n f := by
  intro n
  induction n with
  | zero => intro f _; rfl
  | succ n ih =>
    intro f h
    have h1 := h n (by omega) (by omega)
    unfold vl_w
    rw [h1.1, h1.2, ih _ (fun k k0 k1 => h k k0 (by omega))]
theorem v_want_eq {V V' : vV} (h : vEq V V') {j fr to r : Int} (hj : 0 ≤ j ∧ j < 16) : vEq (v_want V j fr to r) (v_want V' j fr to r) := by
  obtain ⟨e1, e2, e3⟩ := h j hj.1 hj.2
  have ew : vl_w (V.2.1 j) (V.2.2 j) r (V.1 j).toNat fr = vl_w (V'.2.1 j) (V'.2.2 j) r (V'.1 j).toNat fr := by
    rw [← e1]
    exact vl_w_congr _ _ (fun k k0 k1 => e3 k k0 (by omega))
  have hle := vl_w_le (V.2.1 j) (V.2.2 j) r (V.1 j).toNat fr
  unfold v_want
  rw [← ew]
  generalize vl_w (V.2.1 j) (V.2.2 j) r (V.1 j).toNat fr = w at hle
  intro i i0 i1
  dsimp only
  by_cases hij : i = j
  · subst hij
    rw [g_row_at, g_row_at, g_row_at, g_row_at, g_row_at, g_row_at]
    refine ⟨rfl, by omega, fun k k0 k1 => ?_⟩
    by_cases hk : k = (w.1 : Int)
    · rw [hk, r_up_at, r_up_at, r_up_at, r_up_at]; exact ⟨rfl, rfl⟩
    · rw [r_up_ne hk, r_up_ne hk, r_up_ne hk, r_up_ne hk]
      exact e3 k k0 (by omega)
  · rw [g_row_ne hij, g_row_ne hij, g_row_ne hij, g_row_ne hij, g_row_ne hij, g_row_ne hij]
    exact h i i0 i1
theorem v_wants_eq {fr to r : Int} : ∀ (n : Nat) (j : Int) (V V' : vV), 0 ≤ j → j + n ≤ 16 → vEq V V' → vEq (v_wants fr to r n j V) (v_wants fr to r n j V') := by
  intro n
  induction n with
  | zero => intro j V V' _ _ h; exact h
  | succ n ih =>
    intro j V V' h0 h1 h
    unfold v_wants
    exact ih (j + 1) _ _ (by omega) (by omega) (v_want_eq h ⟨h0, by omega⟩)
theorem v_open_eq {V V' : vV} (h : vEq V V') (pl b : gRw) : vEq (v_open V pl b) (v_open V' pl b) := by
  unfold v_open
  split
  · exact h
  · by_cases hn : v_hi pl b < v_lo pl b
    · rw [show (v_hi pl b - v_lo pl b + 1).toNat = 0 by omega]; exact h
    · have h15 : v_hi pl b ≤ 15 := by unfold v_hi; omega
      have h00 : 0 ≤ v_lo pl b := by unfold v_lo; omega
      exact v_wants_eq _ _ _ _ h00 (by omega) h
theorem v_rl_congr {kn nu nu' r : gRw} : ∀ (n : Nat) (k : Int), (∀ i : Int, k ≤ i → i < k + n → nu i = nu' i) → v_rl kn nu r n k = v_rl kn nu' r n k := by
  intro n
  induction n with
  | zero => intro k _; rfl
  | succ n ih =>
    intro k h
    unfold v_rl
    rw [h k (by omega) (by omega), ih (k + 1) (fun i i0 i1 => h i (by omega) (by omega))]
theorem v_all_eq {er : Int → gRw} {pl kn nu nu' bb0 bb0' : gRw} {V0 V0' : vV} (hp : 0 ≤ pl 2) (hnu : ∀ k : Int, 0 ≤ k → k < pl 2 → nu k = nu' k) (h0 : vEq V0 V0') : ∀ n : Nat, (∀ b : Int, 0 ≤ b → b < n → (v_all er pl kn nu bb0 V0 n).1 b = (v_all er pl kn nu' bb0' V0' n).1 b) ∧ vEq (v_all er pl kn nu bb0 V0 n).2 (v_all er pl kn nu' bb0' V0' n).2 := by
  intro n
  induction n with
  | zero => exact ⟨fun b b0 b1 => by omega, h0⟩
  | succ n ih =>
    have er1 : v_rule pl kn nu (er n) = v_rule pl kn nu' (er n) := v_rl_congr _ _ (fun i i0 i1 => hnu i i0 (by omega))
    simp only [v_all]
    rw [er1]
    refine ⟨fun b b0 b1 => ?_, ?_⟩
    · by_cases hb : b = (n : Int)
      · rw [hb, r_up_at, r_up_at]
      · rw [r_up_ne hb, r_up_ne hb]; exact ih.1 b b0 (by omega)
    · split
      · exact ih.2
      · exact v_open_eq ih.2 _ _
theorem v_bl_imp {V V' : vV} (h : vEq V V') {pl b : gRw} (hb : v_bl V pl b) : v_bl V' pl b := by
  obtain ⟨j, hj, k, k0, k1, k2, k3⟩ := hb
  have h15 : v_hi pl b ≤ 15 := by unfold v_hi; omega
  have h00 : 0 ≤ v_lo pl b := by unfold v_lo; omega
  obtain ⟨e1, e2, e3⟩ := h j (by omega) (by omega)
  obtain ⟨e4, e5⟩ := e3 k k0 k1
  exact ⟨j, hj, k, k0, by omega, by rw [← e4]; exact k2, by rw [← e5]; exact k3⟩
theorem vEq.sy {V V' : vV} (h : vEq V V') : vEq V' V := fun j j0 j1 => by
  obtain ⟨e1, e2, e3⟩ := h j j0 j1
  exact ⟨e1.symm, by omega, fun k k0 k1 => by
    have := e3 k k0 (by omega)
    exact ⟨this.1.symm, this.2.symm⟩⟩
theorem zb_iff {P P' : Prop} (h : P ↔ P') : zb P = zb P' := by rw [propext h]
def vZ : vV := (fun _ => 0, fun _ _ => 0, fun _ _ => 0)
/-- the judgement of the first n -/
def jv (er : Int → gRw) (pl kn nu : gRw) (n : Nat) : gRw × vV := v_all er pl kn nu (fun _ => 0) vZ n
noncomputable def jb (er : Int → gRw) (pl kn nu : gRw) (n : Nat) : gRw := fun b => zb (v_bl (jv er pl kn nu n).2 pl (er b))
/-- a verdict at v is this judgement -/
def VD (gi : gF) (v : Int) (er : Int → gRw) (pl kn nu : gRw) (ec : Int) : Prop :=
  (∀ b : Int, 0 ≤ b → b < ec → gi (v + 1) b = (jv er pl kn nu ec.toNat).1 b ∧ gi (v + 2) b = jb er pl kn nu ec.toNat b) ∧
  ∀ j : Int, 0 ≤ j → j < 16 → gi (v + 4 + 3 * j) 2 = (jv er pl kn nu ec.toNat).2.1 j ∧ ∀ k : Int, 0 ≤ k → k < (jv er pl kn nu ec.toNat).2.1 j → gi (v + 4 + 3 * j + 1) k = (jv er pl kn nu ec.toNat).2.2.1 j k ∧ gi (v + 4 + 3 * j + 2) k = (jv er pl kn nu ec.toNat).2.2.2 j k
theorem VD.nu {gi : gF} {v : Int} {er : Int → gRw} {pl kn nu nu' : gRw} {ec : Int} (h : VD gi v er pl kn nu ec) (hp : 0 ≤ pl 2) (hnu : ∀ k : Int, 0 ≤ k → k < pl 2 → nu k = nu' k) : VD gi v er pl kn nu' ec := by
  have e := v_all_eq (er := er) (kn := kn) (bb0 := fun _ => 0) (bb0' := fun _ => 0) (V0 := vZ) (V0' := vZ) hp hnu (fun j _ _ => ⟨rfl, Int.le_refl _, fun k _ _ => ⟨rfl, rfl⟩⟩) ec.toNat
  refine ⟨fun b b0 b1 => ⟨?_, ?_⟩, fun j j0 j1 => ⟨?_, fun k k0 k1 => ?_⟩⟩
  · rw [(h.1 b b0 b1).1]; exact e.1 b b0 (by omega)
  · rw [(h.1 b b0 b1).2]; exact zb_iff ⟨v_bl_imp e.2, v_bl_imp e.2.sy⟩
  · rw [(h.2 j j0 j1).1]; exact (e.2 j j0 j1).1
  · have e1 := e.2 j j0 j1
    have k1' : k < (jv er pl kn nu ec.toNat).2.1 j := by have := e1.1; unfold jv; unfold jv at k1; omega
    have e2 := (h.2 j j0 j1).2 k k0 k1'
    have e3 := e1.2.2 k k0 k1'
    exact ⟨e2.1.trans e3.1, e2.2.trans e3.2⟩
theorem jv_ok {er : Int → gRw} {pl kn nu : gRw} (hp : v_pok pl) (n : Nat) (h : ∀ b : Int, 0 ≤ b → b < n → v_bok pl (er b)) : v_ok (jv er pl kn nu n).2 (fun _ => n) :=
  v_all_ok hp (fun j _ _ => ⟨⟨Int.le_refl _, Int.le_refl _⟩, fun k k0 k1 => by have : k < 0 := k1; omega⟩) n h
section JUDGE
variable {gi gl : gF} {sh : gSh} {oa a v : Int}
/-- judged: the verdict is this judgement, all else is as it was -/
theorem c_judgeQ (hV : isVerd sh v) (hF : isFold sh oa) (hP : isPlan sh a) (hav : a < v ∨ v + 52 ≤ a) (hv79 : 79 ≤ v) (nb : Int) (hn : sh.2.1 nb = 11) (hnl : (sh.2.2.1 nb : Int) = 4) (hnv : nb < v ∨ v + 52 ≤ nb) (hna : a + 1 < v ∨ v + 52 ≤ a + 1) (ec : Int) (he : gi 27 4 = ec) (hec : 0 ≤ ec ∧ ec ≤ 31) (hpo : v_pok (gi a)) (hbo : ∀ b : Int, 0 ≤ b → b < ec → v_bok (gi a) (gi (32 + b))) :
    Ct mdX7_judgeAll 0 0 [vR v, vR a, vR nb, vR 27] gi gl sh (fun r gi' gl' sh' => r = none ∧ gl' = gl ∧ sh' = sh ∧ (∀ b : Int, b ≤ v ∨ v + 52 ≤ b → gi' b = gi b) ∧ VD gi' v (fun b => gi (32 + b)) (gi a) (gi (a + 1)) (gi nb) ec) := by
  refine Go.imp (c_judgeAll (gl := gl) hV hF hP hav hv79 nb hn hnl hnv hna ec he hec hpo hbo) (fun r gi' gl' sh' q => ?_)
  obtain ⟨q1, q2, q3, q4⟩ := q
  have hp2 := hpo.2.2.2.2.1
  have e := v_all_eq (er := fun b => gi (32 + b)) (pl := gi a) (kn := gi (a + 1)) (nu := gi nb) (nu' := gi nb) (bb0 := gi (v + 1)) (bb0' := fun _ => 0) (V0 := (fun j => if 0 ≤ j ∧ j < 16 then 0 else gi (v + 4 + 3 * j) 2, fun j => gi (v + 4 + 3 * j + 1), fun j => gi (v + 4 + 3 * j + 2))) (V0' := vZ) hp2 (fun _ _ _ => rfl) (fun j j0 j1 => by
    have e0 : (if 0 ≤ j ∧ j < 16 then (0 : Int) else gi (v + 4 + 3 * j) 2) = 0 := if_pos ⟨j0, j1⟩
    refine ⟨e0, ?_, fun k k0 k1 => ?_⟩
    · show 0 ≤ (if 0 ≤ j ∧ j < 16 then (0 : Int) else gi (v + 4 + 3 * j) 2)
      rw [e0]; exact Int.le_refl _
    · have k2 : k < (if 0 ≤ j ∧ j < 16 then (0 : Int) else gi (v + 4 + 3 * j) 2) := k1
      rw [e0] at k2; omega) ec.toNat
  generalize v_all (fun b => gi (32 + b)) (gi a) (gi (a + 1)) (gi nb) (gi (v + 1)) (fun j => if 0 ≤ j ∧ j < 16 then 0 else gi (v + 4 + 3 * j) 2, fun j => gi (v + 4 + 3 * j + 1), fun j => gi (v + 4 + 3 * j + 2)) ec.toNat = R at e q2
  refine ⟨q1, q3, q4, fun b hb => ?_, fun b b0 b1 => ⟨?_, ?_⟩, fun j j0 j1 => ⟨?_, fun k k0 k1 => ?_⟩⟩
  · rw [q2]; unfold vmem; rw [if_neg (by omega), if_neg (by omega), if_neg (by omega)]
  · rw [q2, vm_b]; exact e.1 b b0 (by omega)
  · rw [q2, vm_w, if_pos ⟨b0, b1⟩]; exact zb_iff ⟨v_bl_imp e.2, v_bl_imp e.2.sy⟩
  · rw [q2]; unfold vmem
    rw [if_neg (by omega), if_neg (by omega), if_pos (by omega), if_pos (by omega), r_up_at, show (v + 4 + 3 * j - (v + 4)) / 3 = j by omega]
    exact (e.2 j j0 j1).1
  · have e1 := e.2 j j0 j1
    have k1' : k < R.2.1 j := by have := e1.1; unfold jv at k1; omega
    have e3 := e1.2.2 k k0 k1'
    rw [q2]
    unfold vmem
    refine ⟨?_, ?_⟩
    · rw [if_neg (by omega), if_neg (by omega), if_pos (by omega), if_neg (by omega), if_pos (by omega), show (v + 4 + 3 * j + 1 - (v + 4)) / 3 = j by omega]
      exact e3.1
    · rw [if_neg (by omega), if_neg (by omega), if_pos (by omega), if_neg (by omega), if_neg (by omega), show (v + 4 + 3 * j + 2 - (v + 4)) / 3 = j by omega]
      exact e3.2
/-- closed: what is judged of none -/
theorem c_closeQ (hV : isVerd sh v) : Ct mdX7_closeAll 0 0 [vR v] gi gl sh (fun r gi' gl' sh' => r = none ∧ gl' = gl ∧ sh' = sh ∧ (∀ b : Int, b ≤ v ∨ v + 52 ≤ b → gi' b = gi b) ∧ ∀ (er : Int → gRw) (pl kn nu : gRw), VD gi' v er pl kn nu 0) := by
  refine Go.imp (c_closeAll (gi := gi) (gl := gl) hV) (fun r gi' gl' sh' q => ?_)
  obtain ⟨q1, q2, q3, q4⟩ := q
  refine ⟨q1, q3, q4, fun b hb => ?_, fun er pl kn nu => ⟨fun b b0 b1 => by omega, fun j j0 j1 => ⟨?_, fun k k0 k1 => ?_⟩⟩⟩
  · rw [q2]; unfold vmem; rw [if_neg (by omega), if_neg (by omega), if_neg (by omega)]
  · rw [q2, vm_o j0 j1, r_up_at]
    dsimp only
    rw [if_pos ⟨j0, j1⟩]
    rfl
  · have k2 : k < 0 := k1
    omega
end JUDGE
