/-! the model's forest: every place hangs at an earlier one of its label -/
def vld (cl : gRw) (K q : Int) : Prop := 0 ≤ q ∧ q < K ∧ 0 < cl q
def LB (cl L lst : gRw) (K : Int) : Prop := Lab cl L K ∧ ∀ q : Int, vld cl K q → (0 ≤ lst q ∧ lst q ≤ q) ∧ 0 < cl (lst q) ∧ L (lst q) = L q ∧ (lst q = q ↔ L q = q)
theorem Lab.v {cl L : gRw} {K q : Int} (h : Lab cl L K) (hq : vld cl K q) : vld cl K (L q) ∧ L (L q) = L q ∧ L q ≤ q := by
  obtain ⟨a, b, c⟩ := h.1 q hq.1 hq.2.1 hq.2.2
  exact ⟨⟨a.1, by have := hq.2.1; omega, b⟩, c, a.2⟩
theorem jn_ends {cl L : gRw} {K x y : Int} (h : Lab cl L K) (hx : vld cl K x) (hy : vld cl K y) : (vld cl K (min (L x) (L y)) ∧ L (min (L x) (L y)) = min (L x) (L y)) ∧ vld cl K (max (L x) (L y)) ∧ L (max (L x) (L y)) = max (L x) (L y) := by
  have ax := h.v hx
  have ay := h.v hy
  constructor
  · rcases (show (min (L x) (L y) = L x ∨ min (L x) (L y) = L y) by omega) with e | e <;> rw [e]
    · exact ⟨ax.1, ax.2.1⟩
    · exact ⟨ay.1, ay.2.1⟩
  · rcases (show max (L x) (L y) = L x ∨ max (L x) (L y) = L y by omega) with e | e <;> rw [e]
    · exact ⟨ax.1, ax.2.1⟩
    · exact ⟨ay.1, ay.2.1⟩
theorem Lab.jn {cl L : gRw} {K x y : Int} (h : Lab cl L K) (hx : vld cl K x) (hy : vld cl K y) : Lab cl (j_jn L x y) K := by
  obtain ⟨vlo, vhi, -⟩ := jn_ends h hx hy
  refine ⟨fun q q0 q1 q2 => ?_, fun q hq => ?_⟩
  · have aq := h.v (q := q) ⟨q0, q1, q2⟩
    unfold j_jn
    by_cases e : L q = max (L x) (L y)
    · rw [if_pos e]
      refine ⟨⟨vlo.1.1, by omega⟩, vlo.1.2.2, ?_⟩
      rw [vlo.2]
      split <;> omega
    · rw [if_neg e, aq.2.1, if_neg e]
      exact ⟨⟨aq.1.1, aq.2.2⟩, aq.1.2.2, rfl⟩
  · have e := h.2 q hq
    unfold j_jn
    rw [e, if_neg]
    intro w
    rw [w] at hq
    exact hq vhi
theorem LB.jn0 {cl L lst : gRw} {K lo hi : Int} (h : LB cl L lst K) (vlo : vld cl K lo) (elo : L lo = lo) (ehi : L hi = hi) (hle : lo ≤ hi) (q : Int) (hq : vld cl K q) : (0 ≤ r_up lst hi lo q ∧ r_up lst hi lo q ≤ q) ∧ 0 < cl (r_up lst hi lo q) ∧ (if L (r_up lst hi lo q) = hi then lo else L (r_up lst hi lo q)) = (if L q = hi then lo else L q) ∧ (r_up lst hi lo q = q ↔ (if L q = hi then lo else L q) = q) := by
  obtain ⟨a, b, c, d⟩ := h.2 q hq
  by_cases e : q = hi
  · subst e
    rw [r_up_at, elo, if_pos ehi]
    refine ⟨⟨vlo.1, hle⟩, vlo.2.2, ?_, Iff.rfl⟩
    split <;> rfl
  · rw [r_up_ne e, c]
    refine ⟨a, b, rfl, ?_⟩
    by_cases e2 : L q = hi
    · rw [if_pos e2]
      constructor
      · intro w; exact absurd (by rw [← e2]; exact (d.mp w).symm) e
      · intro w; rw [w] at elo; omega
    · rw [if_neg e2]; exact d
theorem LB.jn {cl L lst : gRw} {K x y : Int} (h : LB cl L lst K) (hx : vld cl K x) (hy : vld cl K y) : LB cl (j_jn L x y) (r_up lst (max (L x) (L y)) (min (L x) (L y))) K := by
  obtain ⟨vlo, vhi⟩ := jn_ends h.1 hx hy
  exact ⟨h.1.jn hx hy, fun q hq => h.jn0 vlo.1 vlo.2 vhi.2 (by omega) q hq⟩
theorem LB.init {cl lst : gRw} {K : Int} (h : ∀ q : Int, vld cl K q → lst q = q) : LB cl (fun q => q) lst K :=
  ⟨⟨fun q q0 q1 q2 => ⟨⟨q0, Int.le_refl _⟩, q2, rfl⟩, fun q _ => rfl⟩, fun q hq => by rw [h q hq]; exact ⟨⟨hq.1, Int.le_refl _⟩, hq.2.2, rfl, Iff.rfl⟩⟩
section MD5
variable {gi gl : gF} {sh : gSh} {cl L : gRw} {K : Int}

set_option maxRecDepth 20000 in
theorem l_root (hM : isMd sh) (h : LB cl L (gi 200) K) (hK : K ≤ 960) (x : Int) : ∀ (m : Nat) (p : Int), p.toNat < m → vld cl K p → Go mdX9_rootOf 0 0 2 [some (vR 190), some (vI x), some (vI p)] [] gi gl sh (Rt (some (vI (L p))) gi gl sh) := by
  intro m
  induction m with
  | zero => intro p hm; omega
  | succ m ih =>
    intro p hm hp
    obtain ⟨a, b, c, d⟩ := h.2 p hp
    have p0 := hp.1
    have p1 := hp.2.1
    refine g_aload_n dX9_rootOf_2 rfl ?_
    refine g_getR 14 dX9_rootOf_3 flX9_38 rfl hM.o hM.r14 ?_
    refine g_iload_n dX9_rootOf_6 rfl ?_
    refine g_iaload dX9_rootOf_7 hM.k200 (by omega) (hM.b200 (by omega)) ?_
    refine g_iload_n dX9_rootOf_8 rfl ?_
    refine g_icmp_eq 22 dX9_rootOf_9 (by decide) (fun h9 => ?_) (fun h9 => ?_)
    · skip
      refine g_iload_n dX9_rootOf_22 rfl ?_
      refine g_ireturn dX9_rootOf_23 rfl ?_
      exact ⟨by rw [d.mp h9], rfl, rfl, rfl⟩
    · skip
      refine g_aload_n dX9_rootOf_12 rfl ?_
      refine g_getR 14 dX9_rootOf_13 flX9_38 rfl hM.o hM.r14 ?_
      refine g_iload_n dX9_rootOf_16 rfl ?_
      refine g_iaload dX9_rootOf_17 hM.k200 (by omega) (hM.b200 (by omega)) ?_
      refine n_istore_n (lN := [_, _, _]) dX9_rootOf_18 (by decide) rfl ?_
      refine g_goto 2 dX9_rootOf_19 (by decide) ?_
      rw [← c]
      exact ih (gi 200 p) (by omega) ⟨a.1, by omega, b⟩
theorem m_rootOf (hM : isMd sh) (h : LB cl L (gi 200) K) (hK : K ≤ 960) (p : Int) (hp : vld cl K p) : Ct mdX9_rootOf 0 0 [vR 190, vI p] gi gl sh (Rt (some (vI (L p))) gi gl sh) := by
  show Go mdX9_rootOf 0 0 0 [some (vR 190), some (vI p), none] [] gi gl sh _
  refine g_iload_n dX9_rootOf_0 rfl ?_
  refine n_istore_n (lN := [_, _, _]) dX9_rootOf_1 (by decide) rfl ?_
  exact l_root hM h hK p (p.toNat + 1) p (by omega) hp
set_option maxRecDepth 20000 in
set_option maxHeartbeats 1000000 in
theorem m_joins (hM : isMd sh) (h : LB cl L (gi 200) K) (hK : K ≤ 960) (x y : Int) (hx : vld cl K x) (hy : vld cl K y) : Ct mdX9_joins 0 0 [vR 190, vI x, vI y] gi gl sh (Rt none (g_up gi 200 (max (L x) (L y)) (min (L x) (L y))) gl sh) := by
  show Go mdX9_joins 0 0 0 [some (vR 190), some (vI x), some (vI y), none, none] [] gi gl sh _
  have vx := (h.1.v hx).1
  have vy := (h.1.v hy).1
  have x0 := vx.1
  have x1 := vx.2.1
  have y0 := vy.1
  have y1 := vy.2.1
  refine g_aload_n dX9_joins_0 rfl ?_
  refine g_iload_n dX9_joins_1 rfl ?_
  refine g_cVi [_] dX9_joins_2 mlX9_168 mvX9_rootOf (by decide) hM.o (by decide) rfl rfl (Nat.le_of_ble_eq_true rfl) rfl (Nat.le_of_ble_eq_true rfl) (m_rootOf hM h hK x hx) ?_
  refine n_istore_n (lN := [_, _, _, _, _]) dX9_joins_5 (by decide) rfl ?_
  refine g_aload_n dX9_joins_6 rfl ?_
  refine g_iload_n dX9_joins_7 rfl ?_
  refine g_cVi [_] dX9_joins_8 mlX9_168 mvX9_rootOf (by decide) hM.o (by decide) rfl rfl (Nat.le_of_ble_eq_true rfl) rfl (Nat.le_of_ble_eq_true rfl) (m_rootOf hM h hK y hy) ?_
  refine n_istore (lN := [_, _, _, _, _]) dX9_joins_11 (by decide) rfl ?_
  refine g_aload_n dX9_joins_13 rfl ?_
  refine g_getR 14 dX9_joins_14 flX9_38 rfl hM.o hM.r14 ?_
  refine g_iload_n dX9_joins_17 rfl ?_
  refine g_iload dX9_joins_18 rfl ?_
  refine g_icmp_ge 28 dX9_joins_20 (by decide) (fun h20 => ?_) (fun h20 => ?_)
  · skip
    refine g_iload_n dX9_joins_28 rfl ?_
    refine g_iload_n dX9_joins_29 rfl ?_
    refine g_iload dX9_joins_30 rfl ?_
    refine g_icmp_ge 39 dX9_joins_32 (by decide) (fun h32 => ?_) (fun h32 => ?_)
    · skip
      refine g_iload dX9_joins_39 rfl ?_
      refine g_iastore dX9_joins_41 hM.k200 (by omega) (hM.b200 (by omega)) ?_
      refine g_return dX9_joins_42 rfl ?_
      exact ⟨rfl, by first | (rw [show max (L x) (L y) = L x by omega, show min (L x) (L y) = L y by omega]; done) | (rw [show max (L x) (L y) = L y by omega, show min (L x) (L y) = L x by omega]; done), rfl, rfl⟩
    · exfalso; omega
  · skip
    refine g_iload dX9_joins_23 rfl ?_
    refine g_goto 29 dX9_joins_25 (by decide) ?_
    refine g_iload_n dX9_joins_29 rfl ?_
    refine g_iload dX9_joins_30 rfl ?_
    refine g_icmp_ge 39 dX9_joins_32 (by decide) (fun h32 => ?_) (fun h32 => ?_)
    · exfalso; omega
    · skip
      refine g_iload_n dX9_joins_35 rfl ?_
      refine g_goto 41 dX9_joins_36 (by decide) ?_
      refine g_iastore dX9_joins_41 hM.k200 (by omega) (hM.b200 (by omega)) ?_
      refine g_return dX9_joins_42 rfl ?_
      exact ⟨rfl, by first | (rw [show max (L x) (L y) = L x by omega, show min (L x) (L y) = L y by omega]; done) | (rw [show max (L x) (L y) = L y by omega, show min (L x) (L y) = L x by omega]; done), rfl, rfl⟩

/-- joined around: the forest alone has changed -/
def JQ (cl LF : gRw) (K : Int) (g0 gl : gF) (sh : gSh) : gQ := fun r g' gl' sh' => r = none ∧ gl' = gl ∧ sh' = sh ∧ (∀ b : Int, b ≠ 200 → g' b = g0 b) ∧ LB cl LF (g' 200) K
set_option maxRecDepth 20000 in
theorem l_ja2 {T t c : Int} (g : gF) (hg : ∀ b : Int, b ≠ 200 → g b = gi b) (hL : LB cl L (g 200) (16 * T)) : Go mdX9_joinsAround 0 0 51 [some (vR 190), some (vI t), some (vI c), some (vI (16 * t + c)), some (vI 2)] [] g gl sh (JQ cl L (16 * T) gi gl sh) := by
  refine g_iload dX9_joinsAround_51 rfl ?_
  refine g_iconst dX9_joinsAround_53 (by decide) ?_
  refine g_icmp_ge 107 dX9_joinsAround_54 (by decide) (fun h54 => ?_) (fun h54 => ?_)
  · skip
    refine g_return dX9_joinsAround_107 rfl ?_
    exact ⟨rfl, rfl, rfl, hg, hL⟩
  · exact absurd h54 (by decide)
set_option maxRecDepth 20000 in
set_option maxHeartbeats 1000000 in
theorem l_ja1 (hM : isMd sh) {W T t c : Int} (hW : gi 191 0 = W) (hW0 : 0 ≤ W ∧ W ≤ 16) (ht : 0 ≤ t ∧ t < T) (hT : T ≤ 60) (hc : 0 ≤ c ∧ c < W) (hcl : ∀ q : Int, 0 ≤ q → q < 16 * T → q % 16 < W → gi 199 q = cl q) (hz : ∀ q : Int, 0 ≤ q → q < 16 * T → W ≤ q % 16 → cl q = 0) (hp : 0 < cl (16 * t + c)) (g : gF) (hg : ∀ b : Int, b ≠ 200 → g b = gi b) (hL : LB cl L (g 200) (16 * T)) : Go mdX9_joinsAround 0 0 51 [some (vR 190), some (vI t), some (vI c), some (vI (16 * t + c)), some (vI 1)] [] g gl sh (JQ cl (j_c4 cl L t c) (16 * T) gi gl sh) := by
  have eW : g 191 0 = W := by rw [hg 191 (by decide)]; exact hW
  have vp : vld cl (16 * T) (16 * t + c) := ⟨by omega, by omega, hp⟩
  refine g_iload dX9_joinsAround_51 rfl ?_
  refine g_iconst dX9_joinsAround_53 (by decide) ?_
  refine g_icmp_ge 107 dX9_joinsAround_54 (by decide) (fun h54 => ?_) (fun h54 => ?_)
  · exact absurd h54 (by decide)
  · skip
    refine g_iload_n dX9_joinsAround_57 rfl ?_
    refine g_if_le 107 dX9_joinsAround_58 (by decide) (fun h58 => ?_) (fun h58 => ?_)
    · skip
      refine g_return dX9_joinsAround_107 rfl ?_
      have e : j_c4 cl L t c = L := by unfold j_c4; rw [if_neg (fun w => by omega)]
      rw [e]
      exact ⟨rfl, rfl, rfl, hg, hL⟩
    · skip
      refine g_iload_n dX9_joinsAround_61 rfl ?_
      refine g_iload dX9_joinsAround_62 rfl ?_
      refine g_iadd dX9_joinsAround_64 (by omega) (by omega) ?_
      refine g_aload_n dX9_joinsAround_65 rfl ?_
      refine g_getR 0 dX9_joinsAround_66 flX9_7 rfl hM.o hM.r0 ?_
      refine g_iconst dX9_joinsAround_69 (by decide) ?_
      refine g_iaload dX9_joinsAround_70 hM.k191 (by omega) (hM.b191 (by omega)) ?_
      rw [eW]
      refine g_icmp_ge 101 dX9_joinsAround_71 (by decide) (fun h71 => ?_) (fun h71 => ?_)
      · skip
        have e : j_c4 cl L t c = L := by unfold j_c4; rw [if_neg (fun w => by have w2 := w.2; have w3 := hz (16 * t + c - 15) (by omega) (by omega) (by omega); omega)]
        rw [e]
        refine n_iinc (lN := [_, _, _, _, some (vI 2)]) dX9_joinsAround_101 rfl (by decide) (by decide) (by decide) rfl ?_
        refine g_goto 51 dX9_joinsAround_104 (by decide) ?_
        exact l_ja2 g hg hL
      · skip
        refine g_aload_n dX9_joinsAround_74 rfl ?_
        refine g_getR 13 dX9_joinsAround_75 flX9_35 rfl hM.o hM.r13 ?_
        refine g_iload_n dX9_joinsAround_78 rfl ?_
        refine g_bipush dX9_joinsAround_79 (by decide) (by decide) ?_
        refine g_isub dX9_joinsAround_81 (by omega) (by omega) ?_
        refine g_iload dX9_joinsAround_82 rfl ?_
        refine g_iadd dX9_joinsAround_84 (by omega) (by omega) ?_
        have ex : 16 * t + c - 16 + 1 = 16 * t + c - 15 := by omega
        rw [ex]
        refine g_iaload dX9_joinsAround_85 hM.k199 (by omega) (hM.b199 (by omega)) ?_
        have ec : g 199 (16 * t + c - 15) = cl (16 * t + c - 15) := by rw [hg 199 (by decide)]; exact hcl _ (by omega) (by omega) (by omega)
        rw [ec]
        refine g_if_le 101 dX9_joinsAround_86 (by decide) (fun h86 => ?_) (fun h86 => ?_)
        · skip
          have e : j_c4 cl L t c = L := by unfold j_c4; rw [if_neg (fun w => by have w2 := w.2; omega)]
          rw [e]
          refine n_iinc (lN := [_, _, _, _, some (vI 2)]) dX9_joinsAround_101 rfl (by decide) (by decide) (by decide) rfl ?_
          refine g_goto 51 dX9_joinsAround_104 (by decide) ?_
          exact l_ja2 g hg hL
        · skip
          have vq : vld cl (16 * T) (16 * t + c - 15) := ⟨by omega, by omega, by omega⟩
          refine g_aload_n dX9_joinsAround_89 rfl ?_
          refine g_iload_n dX9_joinsAround_90 rfl ?_
          refine g_iload_n dX9_joinsAround_91 rfl ?_
          refine g_bipush dX9_joinsAround_92 (by decide) (by decide) ?_
          refine g_isub dX9_joinsAround_94 (by omega) (by omega) ?_
          refine g_iload dX9_joinsAround_95 rfl ?_
          refine g_iadd dX9_joinsAround_97 (by omega) (by omega) ?_
          rw [ex]
          refine g_cVv [_, _] dX9_joinsAround_98 mlX9_172 mvX9_joins (by decide) hM.o (by decide) rfl rfl (Nat.le_of_ble_eq_true rfl) rfl (Nat.le_of_ble_eq_true rfl) (m_joins hM hL (by omega) _ _ vp vq) ?_
          have e : j_c4 cl L t c = j_jn L (16 * t + c) (16 * t + c - 15) := by unfold j_c4; rw [if_pos (by omega)]
          rw [e]
          refine n_iinc (lN := [_, _, _, _, some (vI 2)]) dX9_joinsAround_101 rfl (by decide) (by decide) (by decide) rfl ?_
          refine g_goto 51 dX9_joinsAround_104 (by decide) ?_
          exact l_ja2 _ (fun b hb => by rw [g_up_row hb]; exact hg b hb) (by rw [g_up_r]; exact hL.jn vp vq)
set_option maxRecDepth 20000 in
set_option maxHeartbeats 1000000 in
theorem l_ja0 (hM : isMd sh) {W T t c : Int} (hW : gi 191 0 = W) (hW0 : 0 ≤ W ∧ W ≤ 16) (ht : 0 ≤ t ∧ t < T) (hT : T ≤ 60) (hc : 0 ≤ c ∧ c < W) (hcl : ∀ q : Int, 0 ≤ q → q < 16 * T → q % 16 < W → gi 199 q = cl q) (hz : ∀ q : Int, 0 ≤ q → q < 16 * T → W ≤ q % 16 → cl q = 0) (hp : 0 < cl (16 * t + c)) (g : gF) (hg : ∀ b : Int, b ≠ 200 → g b = gi b) (hL : LB cl L (g 200) (16 * T)) : Go mdX9_joinsAround 0 0 51 [some (vR 190), some (vI t), some (vI c), some (vI (16 * t + c)), some (vI 0)] [] g gl sh (JQ cl (j_c4 cl (j_c3 cl L t c) t c) (16 * T) gi gl sh) := by
  have eW : g 191 0 = W := by rw [hg 191 (by decide)]; exact hW
  have vp : vld cl (16 * T) (16 * t + c) := ⟨by omega, by omega, hp⟩
  refine g_iload dX9_joinsAround_51 rfl ?_
  refine g_iconst dX9_joinsAround_53 (by decide) ?_
  refine g_icmp_ge 107 dX9_joinsAround_54 (by decide) (fun h54 => ?_) (fun h54 => ?_)
  · exact absurd h54 (by decide)
  · skip
    refine g_iload_n dX9_joinsAround_57 rfl ?_
    refine g_if_le 107 dX9_joinsAround_58 (by decide) (fun h58 => ?_) (fun h58 => ?_)
    · skip
      refine g_return dX9_joinsAround_107 rfl ?_
      have e : j_c3 cl L t c = L := by unfold j_c3; rw [if_neg (fun w => by omega)]
      have e4 : j_c4 cl L t c = L := by unfold j_c4; rw [if_neg (fun w => by omega)]
      rw [e, e4]
      exact ⟨rfl, rfl, rfl, hg, hL⟩
    · skip
      refine g_iload_n dX9_joinsAround_61 rfl ?_
      refine g_iload dX9_joinsAround_62 rfl ?_
      refine g_iadd dX9_joinsAround_64 (by omega) (by omega) ?_
      refine g_aload_n dX9_joinsAround_65 rfl ?_
      refine g_getR 0 dX9_joinsAround_66 flX9_7 rfl hM.o hM.r0 ?_
      refine g_iconst dX9_joinsAround_69 (by decide) ?_
      refine g_iaload dX9_joinsAround_70 hM.k191 (by omega) (hM.b191 (by omega)) ?_
      rw [eW]
      refine g_icmp_ge 101 dX9_joinsAround_71 (by decide) (fun h71 => ?_) (fun h71 => ?_)
      · exfalso; omega
      · skip
        refine g_aload_n dX9_joinsAround_74 rfl ?_
        refine g_getR 13 dX9_joinsAround_75 flX9_35 rfl hM.o hM.r13 ?_
        refine g_iload_n dX9_joinsAround_78 rfl ?_
        refine g_bipush dX9_joinsAround_79 (by decide) (by decide) ?_
        refine g_isub dX9_joinsAround_81 (by omega) (by omega) ?_
        refine g_iload dX9_joinsAround_82 rfl ?_
        refine g_iadd dX9_joinsAround_84 (by omega) (by omega) ?_
        have ex : 16 * t + c - 16 + 0 = 16 * t + c - 16 := by omega
        rw [ex]
        refine g_iaload dX9_joinsAround_85 hM.k199 (by omega) (hM.b199 (by omega)) ?_
        have ec : g 199 (16 * t + c - 16) = cl (16 * t + c - 16) := by rw [hg 199 (by decide)]; exact hcl _ (by omega) (by omega) (by omega)
        rw [ec]
        refine g_if_le 101 dX9_joinsAround_86 (by decide) (fun h86 => ?_) (fun h86 => ?_)
        · skip
          have e : j_c3 cl L t c = L := by unfold j_c3; rw [if_neg (fun w => by have w2 := w.2; omega)]
          rw [e]
          refine n_iinc (lN := [_, _, _, _, some (vI 1)]) dX9_joinsAround_101 rfl (by decide) (by decide) (by decide) rfl ?_
          refine g_goto 51 dX9_joinsAround_104 (by decide) ?_
          exact l_ja1 hM hW hW0 ht hT hc hcl hz hp g hg hL
        · skip
          have vq : vld cl (16 * T) (16 * t + c - 16) := ⟨by omega, by omega, by omega⟩
          refine g_aload_n dX9_joinsAround_89 rfl ?_
          refine g_iload_n dX9_joinsAround_90 rfl ?_
          refine g_iload_n dX9_joinsAround_91 rfl ?_
          refine g_bipush dX9_joinsAround_92 (by decide) (by decide) ?_
          refine g_isub dX9_joinsAround_94 (by omega) (by omega) ?_
          refine g_iload dX9_joinsAround_95 rfl ?_
          refine g_iadd dX9_joinsAround_97 (by omega) (by omega) ?_
          rw [ex]
          refine g_cVv [_, _] dX9_joinsAround_98 mlX9_172 mvX9_joins (by decide) hM.o (by decide) rfl rfl (Nat.le_of_ble_eq_true rfl) rfl (Nat.le_of_ble_eq_true rfl) (m_joins hM hL (by omega) _ _ vp vq) ?_
          have e : j_c3 cl L t c = j_jn L (16 * t + c) (16 * t + c - 16) := by unfold j_c3; rw [if_pos (by omega)]
          rw [e]
          refine n_iinc (lN := [_, _, _, _, some (vI 1)]) dX9_joinsAround_101 rfl (by decide) (by decide) (by decide) rfl ?_
          refine g_goto 51 dX9_joinsAround_104 (by decide) ?_
          exact l_ja1 hM hW hW0 ht hT hc hcl hz hp _ (fun b hb => by rw [g_up_row hb]; exact hg b hb) (by rw [g_up_r]; exact hL.jn vp vq)
set_option maxRecDepth 20000 in
set_option maxHeartbeats 1000000 in
theorem l_jam (hM : isMd sh) {W T t c : Int} (hW : gi 191 0 = W) (hW0 : 0 ≤ W ∧ W ≤ 16) (ht : 0 ≤ t ∧ t < T) (hT : T ≤ 60) (hc : 0 ≤ c ∧ c < W) (hcl : ∀ q : Int, 0 ≤ q → q < 16 * T → q % 16 < W → gi 199 q = cl q) (hz : ∀ q : Int, 0 ≤ q → q < 16 * T → W ≤ q % 16 → cl q = 0) (hp : 0 < cl (16 * t + c)) (g : gF) (hg : ∀ b : Int, b ≠ 200 → g b = gi b) (hL : LB cl L (g 200) (16 * T)) (hcc : 0 < c) : Go mdX9_joinsAround 0 0 51 [some (vR 190), some (vI t), some (vI c), some (vI (16 * t + c)), some (vI (-1))] [] g gl sh (JQ cl (j_c4 cl (j_c3 cl (j_c2 cl L t c) t c) t c) (16 * T) gi gl sh) := by
  have eW : g 191 0 = W := by rw [hg 191 (by decide)]; exact hW
  have vp : vld cl (16 * T) (16 * t + c) := ⟨by omega, by omega, hp⟩
  refine g_iload dX9_joinsAround_51 rfl ?_
  refine g_iconst dX9_joinsAround_53 (by decide) ?_
  refine g_icmp_ge 107 dX9_joinsAround_54 (by decide) (fun h54 => ?_) (fun h54 => ?_)
  · exact absurd h54 (by decide)
  · skip
    refine g_iload_n dX9_joinsAround_57 rfl ?_
    refine g_if_le 107 dX9_joinsAround_58 (by decide) (fun h58 => ?_) (fun h58 => ?_)
    · skip
      refine g_return dX9_joinsAround_107 rfl ?_
      have e : j_c2 cl L t c = L := by unfold j_c2; rw [if_neg (fun w => by omega)]
      have e3 : j_c3 cl L t c = L := by unfold j_c3; rw [if_neg (fun w => by omega)]
      have e4 : j_c4 cl L t c = L := by unfold j_c4; rw [if_neg (fun w => by omega)]
      rw [e, e3, e4]
      exact ⟨rfl, rfl, rfl, hg, hL⟩
    · skip
      refine g_iload_n dX9_joinsAround_61 rfl ?_
      refine g_iload dX9_joinsAround_62 rfl ?_
      refine g_iadd dX9_joinsAround_64 (by omega) (by omega) ?_
      refine g_aload_n dX9_joinsAround_65 rfl ?_
      refine g_getR 0 dX9_joinsAround_66 flX9_7 rfl hM.o hM.r0 ?_
      refine g_iconst dX9_joinsAround_69 (by decide) ?_
      refine g_iaload dX9_joinsAround_70 hM.k191 (by omega) (hM.b191 (by omega)) ?_
      rw [eW]
      refine g_icmp_ge 101 dX9_joinsAround_71 (by decide) (fun h71 => ?_) (fun h71 => ?_)
      · exfalso; omega
      · skip
        refine g_aload_n dX9_joinsAround_74 rfl ?_
        refine g_getR 13 dX9_joinsAround_75 flX9_35 rfl hM.o hM.r13 ?_
        refine g_iload_n dX9_joinsAround_78 rfl ?_
        refine g_bipush dX9_joinsAround_79 (by decide) (by decide) ?_
        refine g_isub dX9_joinsAround_81 (by omega) (by omega) ?_
        refine g_iload dX9_joinsAround_82 rfl ?_
        refine g_iadd dX9_joinsAround_84 (by omega) (by omega) ?_
        have ex : 16 * t + c - 16 + (-1) = 16 * t + c - 17 := by omega
        rw [ex]
        refine g_iaload dX9_joinsAround_85 hM.k199 (by omega) (hM.b199 (by omega)) ?_
        have ec : g 199 (16 * t + c - 17) = cl (16 * t + c - 17) := by rw [hg 199 (by decide)]; exact hcl _ (by omega) (by omega) (by omega)
        rw [ec]
        refine g_if_le 101 dX9_joinsAround_86 (by decide) (fun h86 => ?_) (fun h86 => ?_)
        · skip
          have e : j_c2 cl L t c = L := by unfold j_c2; rw [if_neg (fun w => by have w2 := w.2; omega)]
          rw [e]
          refine n_iinc (lN := [_, _, _, _, some (vI 0)]) dX9_joinsAround_101 rfl (by decide) (by decide) (by decide) rfl ?_
          refine g_goto 51 dX9_joinsAround_104 (by decide) ?_
          exact l_ja0 hM hW hW0 ht hT hc hcl hz hp g hg hL
        · skip
          have vq : vld cl (16 * T) (16 * t + c - 17) := ⟨by omega, by omega, by omega⟩
          refine g_aload_n dX9_joinsAround_89 rfl ?_
          refine g_iload_n dX9_joinsAround_90 rfl ?_
          refine g_iload_n dX9_joinsAround_91 rfl ?_
          refine g_bipush dX9_joinsAround_92 (by decide) (by decide) ?_
          refine g_isub dX9_joinsAround_94 (by omega) (by omega) ?_
          refine g_iload dX9_joinsAround_95 rfl ?_
          refine g_iadd dX9_joinsAround_97 (by omega) (by omega) ?_
          rw [ex]
          refine g_cVv [_, _] dX9_joinsAround_98 mlX9_172 mvX9_joins (by decide) hM.o (by decide) rfl rfl (Nat.le_of_ble_eq_true rfl) rfl (Nat.le_of_ble_eq_true rfl) (m_joins hM hL (by omega) _ _ vp vq) ?_
          have e : j_c2 cl L t c = j_jn L (16 * t + c) (16 * t + c - 17) := by unfold j_c2; rw [if_pos (by omega)]
          rw [e]
          refine n_iinc (lN := [_, _, _, _, some (vI 0)]) dX9_joinsAround_101 rfl (by decide) (by decide) (by decide) rfl ?_
          refine g_goto 51 dX9_joinsAround_104 (by decide) ?_
          exact l_ja0 hM hW hW0 ht hT hc hcl hz hp _ (fun b hb => by rw [g_up_row hb]; exact hg b hb) (by rw [g_up_r]; exact hL.jn vp vq)

set_option maxRecDepth 20000 in
set_option maxHeartbeats 2000000 in
theorem m_joinsAround (hM : isMd sh) {W T t c : Int} (hW : gi 191 0 = W) (hW0 : 0 ≤ W ∧ W ≤ 16) (ht : 0 ≤ t ∧ t < T) (hT : T ≤ 60) (hc : 0 ≤ c ∧ c < W) (hcl : ∀ q : Int, 0 ≤ q → q < 16 * T → q % 16 < W → gi 199 q = cl q) (hz : ∀ q : Int, 0 ≤ q → q < 16 * T → W ≤ q % 16 → cl q = 0) (hnn : ∀ q, 0 ≤ cl q ∧ cl q ≤ 9) (hL : LB cl L (gi 200) (16 * T)) : Ct mdX9_joinsAround 0 0 [vR 190, vI t, vI c] gi gl sh (JQ cl (j_cell cl L t c) (16 * T) gi gl sh) := by
  show Go mdX9_joinsAround 0 0 0 [some (vR 190), some (vI t), some (vI c), none, none] [] gi gl sh _
  have e0 : gi 199 (16 * t + c) = cl (16 * t + c) := hcl _ (by omega) (by omega) (by omega)
  refine g_bipush dX9_joinsAround_0 (by decide) (by decide) ?_
  refine g_iload_n dX9_joinsAround_2 rfl ?_
  refine g_imul dX9_joinsAround_3 (by omega) (by omega) ?_
  refine g_iload_n dX9_joinsAround_4 rfl ?_
  refine g_iadd dX9_joinsAround_5 (by omega) (by omega) ?_
  refine n_istore_n (lN := [_, _, _, _, _]) dX9_joinsAround_6 (by decide) rfl ?_
  refine g_aload_n dX9_joinsAround_7 rfl ?_
  refine g_getR 13 dX9_joinsAround_8 flX9_35 rfl hM.o hM.r13 ?_
  refine g_iload_n dX9_joinsAround_11 rfl ?_
  refine g_iaload dX9_joinsAround_12 hM.k199 (by omega) (hM.b199 (by omega)) ?_
  rw [e0]
  refine g_if_ne 17 dX9_joinsAround_13 (by decide) (fun h13 => ?_) (fun h13 => ?_)
  · skip
    have hp : 0 < cl (16 * t + c) := by have := hnn (16 * t + c); omega
    have vp : vld cl (16 * T) (16 * t + c) := ⟨by omega, by omega, hp⟩
    refine g_iload_n dX9_joinsAround_17 rfl ?_
    refine g_if_le 40 dX9_joinsAround_18 (by decide) (fun h18 => ?_) (fun h18 => ?_)
    · skip
      have e1 : j_c1 cl L t c = L := by unfold j_c1; rw [if_neg (fun w => by omega)]
      refine g_iload_n dX9_joinsAround_40 rfl ?_
      refine g_if_le 48 dX9_joinsAround_41 (by decide) (fun h41 => ?_) (fun h41 => ?_)
      · skip
        refine g_iconst dX9_joinsAround_48 (by decide) ?_
        refine n_istore (lN := [_, _, _, _, _]) dX9_joinsAround_49 (by decide) rfl ?_
        have e2 : j_c2 cl (j_c1 cl L t c) t c = j_c1 cl L t c := by unfold j_c2; rw [if_neg (fun w => by omega)]
        unfold j_cell
        rw [if_pos hp, e2]
        rw [e1]
        exact l_ja0 hM hW hW0 ht hT hc hcl hz hp gi (fun _ _ => rfl) hL
      · exfalso; omega
    · skip
      refine g_aload_n dX9_joinsAround_21 rfl ?_
      refine g_getR 13 dX9_joinsAround_22 flX9_35 rfl hM.o hM.r13 ?_
      refine g_iload_n dX9_joinsAround_25 rfl ?_
      refine g_iconst dX9_joinsAround_26 (by decide) ?_
      refine g_isub dX9_joinsAround_27 (by omega) (by omega) ?_
      refine g_iaload dX9_joinsAround_28 hM.k199 (by omega) (hM.b199 (by omega)) ?_
      rw [hcl (16 * t + c - 1) (by omega) (by omega) (by omega)]
      refine g_if_le 40 dX9_joinsAround_29 (by decide) (fun h29 => ?_) (fun h29 => ?_)
      · skip
        have e1 : j_c1 cl L t c = L := by unfold j_c1; rw [if_neg (fun w => by omega)]
        refine g_iload_n dX9_joinsAround_40 rfl ?_
        refine g_if_le 48 dX9_joinsAround_41 (by decide) (fun h41 => ?_) (fun h41 => ?_)
        · exfalso; omega
        · skip
          refine g_iconst dX9_joinsAround_44 (by decide) ?_
          refine g_goto 49 dX9_joinsAround_45 (by decide) ?_
          refine n_istore (lN := [_, _, _, _, _]) dX9_joinsAround_49 (by decide) rfl ?_
          unfold j_cell
          rw [if_pos hp, e1]
          exact l_jam hM hW hW0 ht hT hc hcl hz hp gi (fun _ _ => rfl) hL (by omega)
      · skip
        have e1 : j_c1 cl L t c = j_jn L (16 * t + c) (16 * t + c - 1) := by unfold j_c1; rw [if_pos (by omega)]
        have vq : vld cl (16 * T) (16 * t + c - 1) := ⟨by omega, by omega, by omega⟩
        refine g_aload_n dX9_joinsAround_32 rfl ?_
        refine g_iload_n dX9_joinsAround_33 rfl ?_
        refine g_iload_n dX9_joinsAround_34 rfl ?_
        refine g_iconst dX9_joinsAround_35 (by decide) ?_
        refine g_isub dX9_joinsAround_36 (by omega) (by omega) ?_
        refine g_cVv [_, _] dX9_joinsAround_37 mlX9_172 mvX9_joins (by decide) hM.o (by decide) rfl rfl (Nat.le_of_ble_eq_true rfl) rfl (Nat.le_of_ble_eq_true rfl) (m_joins hM hL (by omega) _ _ vp vq) ?_
        refine g_iload_n dX9_joinsAround_40 rfl ?_
        refine g_if_le 48 dX9_joinsAround_41 (by decide) (fun h41 => ?_) (fun h41 => ?_)
        · exfalso; omega
        · skip
          refine g_iconst dX9_joinsAround_44 (by decide) ?_
          refine g_goto 49 dX9_joinsAround_45 (by decide) ?_
          refine n_istore (lN := [_, _, _, _, _]) dX9_joinsAround_49 (by decide) rfl ?_
          unfold j_cell
          rw [if_pos hp, e1]
          exact l_jam hM hW hW0 ht hT hc hcl hz hp _ (fun b hb => by rw [g_up_row hb]) (by rw [g_up_r]; exact hL.jn vp vq) (by omega)
  · skip
    refine g_return dX9_joinsAround_16 rfl ?_
    unfold j_cell
    rw [if_neg (by omega)]
    exact ⟨rfl, rfl, rfl, fun _ _ => rfl, hL⟩

end MD5
