/-! the model judges: rests, blown -/
section MD11
variable {gi gl : gF} {sh : gSh} {pl kn nu r : gRw} {b : Int} {Q : gQ}
/-- what is open by what is wanted ahead of t -/
def opB (rs : Int) (Wt : Int → Prop) (t s : Int) : Prop := Wt s ∨ ∃ a b : Int, Wt a ∧ Wt b ∧ a < s ∧ s < b ∧ b < t ∧ b - a - 1 < rs
theorem opB.skip {rs : Int} {Wt : Int → Prop} {t s : Int} (h : ¬ Wt t) : opB rs Wt (t + 1) s ↔ opB rs Wt t s := by
  constructor
  · intro w
    rcases w with w | ⟨a, b, ha, hb, w⟩
    · exact Or.inl w
    · refine Or.inr ⟨a, b, ha, hb, w.1, w.2.1, ?_, w.2.2.2⟩
      by_cases c : b = t
      · rw [c] at hb; exact absurd hb h
      · omega
  · intro w
    rcases w with w | ⟨a, b, ha, hb, w⟩
    · exact Or.inl w
    · exact Or.inr ⟨a, b, ha, hb, w.1, w.2.1, by omega, w.2.2.2⟩
theorem opB.none {rs : Int} {Wt : Int → Prop} {t s : Int} (hn : ∀ a, a < t → ¬ Wt a) : opB rs Wt (t + 1) s ↔ opB rs Wt t s := by
  constructor
  · intro w
    rcases w with w | ⟨a, b, ha, hb, w⟩
    · exact Or.inl w
    · exact absurd ha (hn a (by omega))
  · intro w
    rcases w with w | ⟨a, b, ha, hb, w⟩
    · exact Or.inl w
    · exact Or.inr ⟨a, b, ha, hb, w.1, w.2.1, by omega, w.2.2.2⟩
theorem opB.next {rs : Int} {Wt : Int → Prop} {t s w : Int} (ht : Wt t) (hw : Wt w) (hwt : w < t) (hl : ∀ a, w < a → a < t → ¬ Wt a) : opB rs Wt (t + 1) s ↔ opB rs Wt t s ∨ (t - w - 1 < rs ∧ w < s ∧ s < t) := by
  constructor
  · intro o
    rcases o with o | ⟨a, b, ha, hb, o⟩
    · exact Or.inl (Or.inl o)
    · by_cases c : b = t
      · subst c
        have haw : a ≤ w := Classical.byContradiction (fun h => hl a (by omega) (by omega) ha)
        rcases (show w < s ∨ s = w ∨ s < w by omega) with v | v | v
        · exact Or.inr (by omega)
        · rw [v]; exact Or.inl (Or.inl hw)
        · exact Or.inl (Or.inr ⟨a, w, ha, hw, by omega, v, hwt, by omega⟩)
      · exact Or.inl (Or.inr ⟨a, b, ha, hb, o.1, o.2.1, by omega, o.2.2.2⟩)
  · intro o
    rcases o with (o | ⟨a, b, ha, hb, o⟩) | o
    · exact Or.inl o
    · exact Or.inr ⟨a, b, ha, hb, o.1, o.2.1, by omega, o.2.2.2⟩
    · exact Or.inr ⟨w, t, hw, ht, o.2.1, o.2.2, by omega, o.1⟩
/-- what is wanted of a valve, as ticks that it has -/
def tkW (g : gF) (j a : Int) : Prop := (0 ≤ a ∧ a < 96) ∧ On g j a

set_option maxRecDepth 20000 in
set_option maxHeartbeats 1000000 in
theorem l_rs2 (hM : isMd sh) (j w t rs : Int) (hj : 0 ≤ j ∧ j < 16) (ht : t < 96) (hw : 0 ≤ w ∧ w < t) (h6 : gi 191 6 = rs) (hlt : t - w - 1 < rs) (g0 : gF) (hn : ∀ (g : gF) (k : Int), FO gi g → (∀ i s : Int, 0 ≤ i → i < 16 → 0 ≤ s → s < 96 → (On g i s ↔ On g0 i s ∨ i = j ∧ w < s ∧ s < t)) → Go mdX9_rests 0 0 74 [some (vR 190), some (vI j), some (vI w), some (vI t), some (vI k)] [] g gl sh Q) :
  ∀ (n : Nat) (k : Int), n = (t - k).toNat → w < k → ∀ g : gF, FO gi g → (∀ i s : Int, 0 ≤ i → i < 16 → 0 ≤ s → s < 96 → (On g i s ↔ On g0 i s ∨ i = j ∧ w < s ∧ s < k ∧ s < t)) → Go mdX9_rests 0 0 30 [some (vR 190), some (vI j), some (vI w), some (vI t), some (vI k)] [] g gl sh Q := by
  intro n
  induction n with
  | zero =>
    intro k h1 h2 g hg hO
    have g6 : g 191 6 = rs := by rw [hg 191 (by decide)]; exact h6
    refine g_iload_n dX9_rests_30 rfl ?_
    refine g_if_lt 74 dX9_rests_31 (by decide) (fun h31 => ?_) (fun h31 => ?_)
    · exfalso; omega
    · skip
      refine g_iload_n dX9_rests_34 rfl ?_
      refine g_iload_n dX9_rests_35 rfl ?_
      refine g_isub dX9_rests_36 (by omega) (by omega) ?_
      refine g_iconst dX9_rests_37 (by decide) ?_
      refine g_isub dX9_rests_38 (by omega) (by omega) ?_
      refine g_aload_n dX9_rests_39 rfl ?_
      refine g_getR 0 dX9_rests_40 flX9_7 rfl hM.o hM.r0 ?_
      refine g_bipush dX9_rests_43 (by decide) (by decide) ?_
      refine g_iaload dX9_rests_45 hM.k191 (by omega) (hM.b191 (by omega)) ?_
      refine g_icmp_ge 74 dX9_rests_46 (by decide) (fun h46 => ?_) (fun h46 => ?_)
      · exfalso; omega
      · skip
        refine g_iload dX9_rests_49 rfl ?_
        refine g_iload_n dX9_rests_51 rfl ?_
        refine g_icmp_ge 74 dX9_rests_52 (by decide) (fun h52 => ?_) (fun h52 => ?_)
        · skip
          refine hn g k hg (fun i s i0 i1 s0 s1 => ?_)
          rw [hO i s i0 i1 s0 s1]
          constructor
          · intro v; rcases v with v | v
            · exact Or.inl v
            · exact Or.inr (by omega)
          · intro v; rcases v with v | v
            · exact Or.inl v
            · exact Or.inr (by omega)
        · exfalso; omega
  | succ n ih =>
    intro k h1 h2 g hg hO
    have g6 : g 191 6 = rs := by rw [hg 191 (by decide)]; exact h6
    refine g_iload_n dX9_rests_30 rfl ?_
    refine g_if_lt 74 dX9_rests_31 (by decide) (fun h31 => ?_) (fun h31 => ?_)
    · exfalso; omega
    · skip
      refine g_iload_n dX9_rests_34 rfl ?_
      refine g_iload_n dX9_rests_35 rfl ?_
      refine g_isub dX9_rests_36 (by omega) (by omega) ?_
      refine g_iconst dX9_rests_37 (by decide) ?_
      refine g_isub dX9_rests_38 (by omega) (by omega) ?_
      refine g_aload_n dX9_rests_39 rfl ?_
      refine g_getR 0 dX9_rests_40 flX9_7 rfl hM.o hM.r0 ?_
      refine g_bipush dX9_rests_43 (by decide) (by decide) ?_
      refine g_iaload dX9_rests_45 hM.k191 (by omega) (hM.b191 (by omega)) ?_
      refine g_icmp_ge 74 dX9_rests_46 (by decide) (fun h46 => ?_) (fun h46 => ?_)
      · exfalso; omega
      · skip
        refine g_iload dX9_rests_49 rfl ?_
        refine g_iload_n dX9_rests_51 rfl ?_
        refine g_icmp_ge 74 dX9_rests_52 (by decide) (fun h52 => ?_) (fun h52 => ?_)
        · exfalso; omega
        · skip
          refine g_aload_n dX9_rests_55 rfl ?_
          refine g_getR 30 dX9_rests_56 flX9_77 rfl hM.o hM.r30 ?_
          refine g_bipush dX9_rests_59 (by decide) (by decide) ?_
          refine g_iload_n dX9_rests_61 rfl ?_
          refine g_imul dX9_rests_62 (by omega) (by omega) ?_
          refine g_iload dX9_rests_63 rfl ?_
          refine g_iadd dX9_rests_65 (by omega) (by omega) ?_
          refine g_iconst dX9_rests_66 (by decide) ?_
          refine g_bastore dX9_rests_67 hM.k213 (by omega) (hM.b213 (by omega)) (by decide) ?_
          refine n_iinc (lN := [_, _, _, _, some (vI (k + 1))]) dX9_rests_68 rfl (by decide) (by omega) (by omega) rfl ?_
          refine g_goto 30 dX9_rests_71 (by decide) ?_
          refine ih (k + 1) (by omega) (by omega) _ hg.up (fun i s i0 i1 s0 s1 => ?_)
          rw [On.up (by omega) ⟨s0, s1⟩, hO i s i0 i1 s0 s1]
          constructor
          · intro v; rcases v with (v | v) | v
            · exact Or.inl v
            · exact Or.inr (by omega)
            · exact Or.inr (by omega)
          · intro v; rcases v with v | v
            · exact Or.inl (Or.inl v)
            · by_cases c : s = k
              · exact Or.inr (by omega)
              · exact Or.inl (Or.inr (by omega))
/-- the last one that is wanted ahead of t, or none -/
def wsB (Wt : Int → Prop) (w t : Int) : Prop := (w = -4 ∧ ∀ a, a < t → ¬ Wt a) ∨ ((0 ≤ w ∧ w < t) ∧ Wt w ∧ ∀ a, w < a → a < t → ¬ Wt a)
set_option maxRecDepth 20000 in
set_option maxHeartbeats 1000000 in
theorem l_rs1 (hM : isMd sh) (j rs : Int) (hj : 0 ≤ j ∧ j < 16) (h6 : gi 191 6 = rs) (hrs : 0 ≤ rs ∧ rs ≤ 9) :
  ∀ (n : Nat) (t : Int), t + n = 96 → 0 ≤ t → ∀ (g : gF) (w : Int), FO gi g → wsB (tkW gi j) w t → (∀ i s : Int, 0 ≤ i → i < 16 → 0 ≤ s → s < 96 → (i ≠ j → (On g i s ↔ On gi i s)) ∧ (i = j → (On g i s ↔ opB rs (tkW gi j) t s))) → ∀ l4 : Option gV, Go mdX9_rests 0 0 5 [some (vR 190), some (vI j), some (vI w), some (vI t), l4] [] g gl sh (fun x g' gl' sh' => x = none ∧ gl' = gl ∧ sh' = sh ∧ FO gi g' ∧ ∀ i s : Int, 0 ≤ i → i < 16 → 0 ≤ s → s < 96 → (i ≠ j → (On g' i s ↔ On gi i s)) ∧ (i = j → (On g' i s ↔ opn rs (tkW gi j) s))) := by
  intro n
  induction n with
  | zero =>
    intro t h1 h2 g w hg hw hO l4
    refine g_iload_n dX9_rests_5 rfl ?_
    refine g_bipush dX9_rests_6 (by decide) (by decide) ?_
    refine g_icmp_ge 82 dX9_rests_8 (by decide) (fun h8 => ?_) (fun h8 => ?_)
    · skip
      refine g_return dX9_rests_82 rfl ?_
      refine ⟨rfl, rfl, rfl, hg, fun i s i0 i1 s0 s1 => ⟨(hO i s i0 i1 s0 s1).1, fun e => ?_⟩⟩
      rw [(hO i s i0 i1 s0 s1).2 e]
      constructor
      · intro v; rcases v with v | ⟨a, b, ha, hb, v⟩
        · exact Or.inl v
        · exact Or.inr ⟨a, b, ha, hb, v.1, v.2.1, v.2.2.2⟩
      · intro v; rcases v with v | ⟨a, b, ha, hb, v⟩
        · exact Or.inl v
        · exact Or.inr ⟨a, b, ha, hb, v.1, v.2.1, by have := hb.1; omega, v.2.2⟩
    · exfalso; omega
  | succ n ih =>
    intro t h1 h2 g w hg hw hO l4
    have g6 : g 191 6 = rs := by rw [hg 191 (by decide)]; exact h6
    have wb : -4 ≤ w ∧ w < t := by rcases hw with v | v <;> omega
    -- the bit at t is as it was wanted
    have ht : On g j t ↔ tkW gi j t := by
      rw [(hO j t hj.1 hj.2 h2 (by omega)).2 rfl]
      constructor
      · intro v; rcases v with v | ⟨a, b, ha, hb, v⟩
        · exact v
        · omega
      · intro v; exact Or.inl v
    refine g_iload_n dX9_rests_5 rfl ?_
    refine g_bipush dX9_rests_6 (by decide) (by decide) ?_
    refine g_icmp_ge 82 dX9_rests_8 (by decide) (fun h8 => ?_) (fun h8 => ?_)
    · exfalso; omega
    · skip
      refine g_aload_n dX9_rests_11 rfl ?_
      refine g_getR 30 dX9_rests_12 flX9_77 rfl hM.o hM.r30 ?_
      refine g_bipush dX9_rests_15 (by decide) (by decide) ?_
      refine g_iload_n dX9_rests_17 rfl ?_
      refine g_imul dX9_rests_18 (by omega) (by omega) ?_
      refine g_iload_n dX9_rests_19 rfl ?_
      refine g_iadd dX9_rests_20 (by omega) (by omega) ?_
      refine g_baload dX9_rests_21 hM.k213 (by omega) (hM.b213 (by omega)) ?_
      refine g_if_eq 76 dX9_rests_22 (by decide) (fun h22 => ?_) (fun h22 => ?_)
      · skip
        have hnw : ¬ tkW gi j t := fun v => (ht.mpr v) h22
        refine n_iinc (lN := [_, _, _, some (vI (t + 1)), _]) dX9_rests_76 rfl (by decide) (by omega) (by omega) rfl ?_
        refine g_goto 5 dX9_rests_79 (by decide) ?_
        refine ih (t + 1) (by omega) (by omega) g w hg ?_ (fun i s i0 i1 s0 s1 => ⟨(hO i s i0 i1 s0 s1).1, fun e => by rw [opB.skip hnw]; exact (hO i s i0 i1 s0 s1).2 e⟩) _
        rcases hw with ⟨v1, v2⟩ | ⟨v1, v2, v3⟩
        · exact Or.inl ⟨v1, fun a ha => by
            by_cases c : a = t
            · rw [c]; exact hnw
            · exact v2 a (by omega)⟩
        · exact Or.inr ⟨by omega, v2, fun a a0 a1 => by
            by_cases c : a = t
            · rw [c]; exact hnw
            · exact v3 a a0 (by omega)⟩
      · skip
        have hwt : tkW gi j t := ht.mp h22
        refine g_iload_n dX9_rests_25 rfl ?_
        refine g_iconst dX9_rests_26 (by decide) ?_
        refine g_iadd dX9_rests_27 (by omega) (by omega) ?_
        refine n_istore (lN := [_, _, _, _, _]) dX9_rests_28 (by decide) rfl ?_
        have hw2 : wsB (tkW gi j) t (t + 1) := Or.inr ⟨by omega, hwt, fun a a0 a1 => by omega⟩
        rcases hw with ⟨v1, v2⟩ | ⟨v1, v2, v3⟩
        · subst v1
          refine g_iload_n dX9_rests_30 rfl ?_
          refine g_if_lt 74 dX9_rests_31 (by decide) (fun h31 => ?_) (fun h31 => absurd h31 (by decide))
          refine g_iload_n dX9_rests_74 rfl ?_
          refine n_istore_n (lN := [_, _, some (vI t), _, _]) dX9_rests_75 (by decide) rfl ?_
          refine n_iinc (lN := [_, _, _, some (vI (t + 1)), _]) dX9_rests_76 rfl (by decide) (by omega) (by omega) rfl ?_
          refine g_goto 5 dX9_rests_79 (by decide) ?_
          exact ih (t + 1) (by omega) (by omega) g t hg hw2 (fun i s i0 i1 s0 s1 => ⟨(hO i s i0 i1 s0 s1).1, fun e => by rw [opB.none v2]; exact (hO i s i0 i1 s0 s1).2 e⟩) _
        · by_cases hlt : t - w - 1 < rs
          · refine l_rs2 (gi := g) (gl := gl) hM j w t rs hj (by omega) v1 g6 hlt g (fun g9 k9 hg9 hO9 => ?_) (t - (w + 1)).toNat (w + 1) rfl (by omega) g FO.rf (fun i s i0 i1 s0 s1 => ⟨fun v => Or.inl v, fun v => v.elim id (fun v => by omega)⟩)
            refine g_iload_n dX9_rests_74 rfl ?_
            refine n_istore_n (lN := [_, _, some (vI t), _, _]) dX9_rests_75 (by decide) rfl ?_
            refine n_iinc (lN := [_, _, _, some (vI (t + 1)), _]) dX9_rests_76 rfl (by decide) (by omega) (by omega) rfl ?_
            refine g_goto 5 dX9_rests_79 (by decide) ?_
            refine ih (t + 1) (by omega) (by omega) g9 t (fun b hb => by rw [hg9 b hb]; exact hg b hb) hw2 (fun i s i0 i1 s0 s1 => ⟨fun e => ?_, fun e => ?_⟩) _
            · rw [hO9 i s i0 i1 s0 s1, (hO i s i0 i1 s0 s1).1 e]
              constructor
              · intro v; rcases v with v | v
                · exact v
                · exact absurd v.1 e
              · intro v; exact Or.inl v
            · rw [hO9 i s i0 i1 s0 s1, (hO i s i0 i1 s0 s1).2 e, opB.next hwt v2 v1.2 v3]
              constructor
              · intro v; rcases v with v | v
                · exact Or.inl v
                · exact Or.inr ⟨hlt, v.2⟩
              · intro v; rcases v with v | v
                · exact Or.inl v
                · exact Or.inr ⟨e, v.2⟩
          · refine g_iload_n dX9_rests_30 rfl ?_
            refine g_if_lt 74 dX9_rests_31 (by decide) (fun h31 => ?_) (fun h31 => ?_)
            · exfalso; omega
            refine g_iload_n dX9_rests_34 rfl ?_
            refine g_iload_n dX9_rests_35 rfl ?_
            refine g_isub dX9_rests_36 (by omega) (by omega) ?_
            refine g_iconst dX9_rests_37 (by decide) ?_
            refine g_isub dX9_rests_38 (by omega) (by omega) ?_
            refine g_aload_n dX9_rests_39 rfl ?_
            refine g_getR 0 dX9_rests_40 flX9_7 rfl hM.o hM.r0 ?_
            refine g_bipush dX9_rests_43 (by decide) (by decide) ?_
            refine g_iaload dX9_rests_45 hM.k191 (by omega) (hM.b191 (by omega)) ?_
            refine g_icmp_ge 74 dX9_rests_46 (by decide) (fun h46 => ?_) (fun h46 => ?_)
            · skip
              refine g_iload_n dX9_rests_74 rfl ?_
              refine n_istore_n (lN := [_, _, some (vI t), _, _]) dX9_rests_75 (by decide) rfl ?_
              refine n_iinc (lN := [_, _, _, some (vI (t + 1)), _]) dX9_rests_76 rfl (by decide) (by omega) (by omega) rfl ?_
              refine g_goto 5 dX9_rests_79 (by decide) ?_
              refine ih (t + 1) (by omega) (by omega) g t hg hw2 (fun i s i0 i1 s0 s1 => ⟨(hO i s i0 i1 s0 s1).1, fun e => ?_⟩) _
              rw [(hO i s i0 i1 s0 s1).2 e, opB.next hwt v2 v1.2 v3]
              constructor
              · intro v; exact Or.inl v
              · intro v; rcases v with v | v
                · exact v
                · exact absurd v.1 hlt
            · exfalso; omega
set_option maxRecDepth 20000 in
set_option maxHeartbeats 1000000 in
theorem m_rests (hM : isMd sh) (j rs : Int) (hj : 0 ≤ j ∧ j < 16) (h6 : gi 191 6 = rs) (hrs : 0 ≤ rs ∧ rs ≤ 9) : Ct mdX9_rests 0 0 [vR 190, vI j] gi gl sh (fun x g' gl' sh' => x = none ∧ gl' = gl ∧ sh' = sh ∧ FO gi g' ∧ ∀ i s : Int, 0 ≤ i → i < 16 → 0 ≤ s → s < 96 → (i ≠ j → (On g' i s ↔ On gi i s)) ∧ (i = j → (On g' i s ↔ opn rs (tkW gi j) s))) := by
  show Go mdX9_rests 0 0 0 [some (vR 190), some (vI j), none, none, none] [] gi gl sh _
  refine g_bipush dX9_rests_0 (by decide) (by decide) ?_
  refine n_istore_n (lN := [_, _, _, _, _]) dX9_rests_2 (by decide) rfl ?_
  refine g_iconst dX9_rests_3 (by decide) ?_
  refine n_istore_n (lN := [_, _, _, _, _]) dX9_rests_4 (by decide) rfl ?_
  refine l_rs1 hM j rs hj h6 hrs 96 0 (by omega) (Int.le_refl _) gi (-4) FO.rf (Or.inl ⟨rfl, fun a ha w => by have := w.1; omega⟩) (fun i s i0 i1 s0 s1 => ⟨fun _ => Iff.rfl, fun e => ?_⟩) none
  subst e
  constructor
  · intro v; exact Or.inl ⟨⟨s0, s1⟩, v⟩
  · intro v; rcases v with v | ⟨a, b, ha, hb, v⟩
    · exact v.2
    · have := ha.1; omega

set_option maxRecDepth 20000 in
set_option maxHeartbeats 1000000 in
theorem l_bn2 (hM : isMd sh) (hr : rwB gi b r) (hP : MP gi pl kn) (hpo : v_pok pl) (h90 : pl 5 ≤ 20) (j : Int) (hj : 0 ≤ j ∧ j < 16) (P : Prop) (hn : ∀ (z t : Int), Zq (P ∨ ∃ s : Int, (r 0 + pl 5 ≤ s ∧ s ≤ r 1 + pl 5) ∧ On gi j s) z → Go mdX9_isBlownNow 0 0 93 [some (vR 190), some (vI b), some (vI z), some (vI j), some (vI t)] [] gi gl sh Q) :
  ∀ (n : Nat) (t z : Int), n = (r 1 + pl 5 - t + 1).toNat → r 0 + pl 5 ≤ t → Zq (P ∨ ∃ s : Int, (r 0 + pl 5 ≤ s ∧ s < t ∧ s ≤ r 1 + pl 5) ∧ On gi j s) z → Go mdX9_isBlownNow 0 0 44 [some (vR 190), some (vI b), some (vI z), some (vI j), some (vI t)] [] gi gl sh Q := by
  obtain ⟨e0, e1, e3, e4, e5, e6, e7⟩ := hr.e
  obtain ⟨p0, p1, p2, p3, p4, p5, p6⟩ := hP.p
  have hb := hr.1
  have k0 := hr.2.2.2.1
  have k1 := hr.2.2.2.2.1
  have q5 := hpo.2.1
  intro n
  induction n with
  | zero =>
    intro t z h1 h2 hz
    refine g_iload dX9_isBlownNow_44 rfl ?_
    refine g_aload_n dX9_isBlownNow_46 rfl ?_
    refine g_getR 20 dX9_isBlownNow_47 flX9_47 rfl hM.o hM.r20 ?_
    refine g_iload_n dX9_isBlownNow_50 rfl ?_
    refine g_iaload dX9_isBlownNow_51 hM.k203 (by omega) (hM.b203 (by omega)) ?_
    refine g_aload_n dX9_isBlownNow_52 rfl ?_
    refine g_getR 0 dX9_isBlownNow_53 flX9_7 rfl hM.o hM.r0 ?_
    refine g_iconst dX9_isBlownNow_56 (by decide) ?_
    refine g_iaload dX9_isBlownNow_57 hM.k191 (by omega) (hM.b191 (by omega)) ?_
    refine g_iadd dX9_isBlownNow_58 (by omega) (by omega) ?_
    refine g_icmp_gt 93 dX9_isBlownNow_59 (by decide) (fun h59 => ?_) (fun h59 => ?_)
    · skip
      refine hn z t ⟨fun w => hz.1 ?_, fun w => hz.2 (fun v => w ?_)⟩
      · rcases w with w | ⟨s, w, o⟩
        · exact Or.inl w
        · exact Or.inr ⟨s, by omega, o⟩
      · rcases v with v | ⟨s, v, o⟩
        · exact Or.inl v
        · exact Or.inr ⟨s, by omega, o⟩
    · exfalso; omega
  | succ n ih =>
    intro t z h1 h2 hz
    have hzb := hz.b
    have nx : ∀ z' : Int, Zq (P ∨ ∃ s : Int, (r 0 + pl 5 ≤ s ∧ s < t + 1 ∧ s ≤ r 1 + pl 5) ∧ On gi j s) z' → Go mdX9_isBlownNow 0 0 87 [some (vR 190), some (vI b), some (vI z'), some (vI j), some (vI t)] [] gi gl sh Q := fun z' hz' => by
      refine n_iinc (lN := [_, _, _, _, some (vI (t + 1))]) dX9_isBlownNow_87 rfl (by decide) (by omega) (by omega) rfl ?_
      refine g_goto 44 dX9_isBlownNow_90 (by decide) ?_
      exact ih (t + 1) z' (by omega) (by omega) hz'
    refine g_iload dX9_isBlownNow_44 rfl ?_
    refine g_aload_n dX9_isBlownNow_46 rfl ?_
    refine g_getR 20 dX9_isBlownNow_47 flX9_47 rfl hM.o hM.r20 ?_
    refine g_iload_n dX9_isBlownNow_50 rfl ?_
    refine g_iaload dX9_isBlownNow_51 hM.k203 (by omega) (hM.b203 (by omega)) ?_
    refine g_aload_n dX9_isBlownNow_52 rfl ?_
    refine g_getR 0 dX9_isBlownNow_53 flX9_7 rfl hM.o hM.r0 ?_
    refine g_iconst dX9_isBlownNow_56 (by decide) ?_
    refine g_iaload dX9_isBlownNow_57 hM.k191 (by omega) (hM.b191 (by omega)) ?_
    refine g_iadd dX9_isBlownNow_58 (by omega) (by omega) ?_
    refine g_icmp_gt 93 dX9_isBlownNow_59 (by decide) (fun h59 => ?_) (fun h59 => ?_)
    · exfalso; omega
    · skip
      refine g_iload_n dX9_isBlownNow_62 rfl ?_
      refine g_if_ne 81 dX9_isBlownNow_63 (by decide) (fun h63 => ?_) (fun h63 => ?_)
      · skip
        refine g_iconst dX9_isBlownNow_81 (by decide) ?_
        refine g_goto 86 dX9_isBlownNow_82 (by decide) ?_
        refine n_istore_n (lN := [_, _, _, _, _]) dX9_isBlownNow_86 (by decide) rfl ?_
        refine nx 1 ⟨fun _ => rfl, fun w => absurd ?_ w⟩
        rcases hz.yes h63 with v | ⟨s, v, o⟩
        · exact Or.inl v
        · exact Or.inr ⟨s, by omega, o⟩
      · skip
        refine g_aload_n dX9_isBlownNow_66 rfl ?_
        refine g_getR 30 dX9_isBlownNow_67 flX9_77 rfl hM.o hM.r30 ?_
        refine g_bipush dX9_isBlownNow_70 (by decide) (by decide) ?_
        refine g_iload_n dX9_isBlownNow_72 rfl ?_
        refine g_imul dX9_isBlownNow_73 (by omega) (by omega) ?_
        refine g_iload dX9_isBlownNow_74 rfl ?_
        refine g_iadd dX9_isBlownNow_76 (by omega) (by omega) ?_
        refine g_baload dX9_isBlownNow_77 hM.k213 (by omega) (hM.b213 (by omega)) ?_
        refine g_if_eq 85 dX9_isBlownNow_78 (by decide) (fun h78 => ?_) (fun h78 => ?_)
        · skip
          refine g_iconst dX9_isBlownNow_85 (by decide) ?_
          refine n_istore_n (lN := [_, _, _, _, _]) dX9_isBlownNow_86 (by decide) rfl ?_
          refine nx 0 ⟨fun w => absurd ?_ (hz.no (by omega)), fun _ => rfl⟩
          rcases w with w | ⟨s, w, o⟩
          · exact Or.inl w
          · by_cases c : s = t
            · exfalso; subst c; exact o h78
            · exact Or.inr ⟨s, by omega, o⟩
        · skip
          refine g_iconst dX9_isBlownNow_81 (by decide) ?_
          refine g_goto 86 dX9_isBlownNow_82 (by decide) ?_
          refine n_istore_n (lN := [_, _, _, _, _]) dX9_isBlownNow_86 (by decide) rfl ?_
          exact nx 1 ⟨fun _ => rfl, fun w => absurd (Or.inr ⟨t, by omega, h78⟩) w⟩
set_option maxRecDepth 20000 in
set_option maxHeartbeats 1000000 in
theorem l_bn1 (hM : isMd sh) (hr : rwB gi b r) (hP : MP gi pl kn) (hpo : v_pok pl) (h90 : pl 5 ≤ 20) (hlo : 0 ≤ r 3 / v_cpv pl) (hhi : r 4 / v_cpv pl < 16) (z0 : Int) (hz0 : Zq (∃ j : Int, (r 3 / v_cpv pl ≤ j ∧ j ≤ r 4 / v_cpv pl) ∧ ∃ s : Int, (r 0 + pl 5 ≤ s ∧ s ≤ r 1 + pl 5) ∧ On gi j s) z0) :
  ∀ (n : Nat) (j z : Int), n = (r 4 / v_cpv pl - j + 1).toNat → r 3 / v_cpv pl ≤ j → Zq (∃ i : Int, (r 3 / v_cpv pl ≤ i ∧ i < j ∧ i ≤ r 4 / v_cpv pl) ∧ ∃ s : Int, (r 0 + pl 5 ≤ s ∧ s ≤ r 1 + pl 5) ∧ On gi i s) z → ∀ l4 : Option gV, Go mdX9_isBlownNow 0 0 14 [some (vR 190), some (vI b), some (vI z), some (vI j), l4] [] gi gl sh (Rt (some (vI z0)) gi gl sh) := by
  obtain ⟨e0, e1, e3, e4, e5, e6, e7⟩ := hr.e
  obtain ⟨p0, p1, p2, p3, p4, p5, p6⟩ := hP.p
  have hb := hr.1
  have k0 := hr.2.2.2.1
  have k1 := hr.2.2.2.2.1
  have q5 := hpo.2.1
  have k4 := hr.2.2.2.2.2.2.1
  have hcp := hpo.1.2.2
  intro n
  induction n with
  | zero =>
    intro j z h1 h2 hz l4
    have hzb := hz.b
    refine g_iload_n dX9_isBlownNow_14 rfl ?_
    refine g_aload_n dX9_isBlownNow_15 rfl ?_
    refine g_getR 23 dX9_isBlownNow_16 flX9_56 rfl hM.o hM.r23 ?_
    refine g_iload_n dX9_isBlownNow_19 rfl ?_
    refine g_iaload dX9_isBlownNow_20 hM.k206 (by omega) (hM.b206 (by omega)) ?_
    refine g_aload_n dX9_isBlownNow_21 rfl ?_
    refine g_cVi [] dX9_isBlownNow_22 mlX9_211 mvX9_perValve (by decide) hM.o (by decide) rfl rfl (Nat.le_of_ble_eq_true rfl) rfl (Nat.le_of_ble_eq_true rfl) (m_perValve hM hP hpo) ?_
    rw [e4]
    refine g_idiv dX9_isBlownNow_25 (by omega) (by omega) ?_
    refine g_icmp_gt 99 dX9_isBlownNow_26 (by decide) (fun h26 => ?_) (fun h26 => ?_)
    · skip
      refine g_iload_n dX9_isBlownNow_99 rfl ?_
      refine g_zreturn dX9_isBlownNow_100 rfl (by omega) ?_
      refine ⟨?_, rfl, rfl, rfl⟩
      rw [show z = z0 from ?_]
      by_cases c : ∃ j : Int, (r 3 / v_cpv pl ≤ j ∧ j ≤ r 4 / v_cpv pl) ∧ ∃ s : Int, (r 0 + pl 5 ≤ s ∧ s ≤ r 1 + pl 5) ∧ On gi j s
      · rw [hz0.1 c]
        obtain ⟨i, c1, c2⟩ := c
        exact hz.1 ⟨i, by omega, c2⟩
      · rw [hz0.2 c]
        exact hz.2 (fun ⟨i, v1, v2⟩ => c ⟨i, by omega, v2⟩)
    · exfalso; omega
  | succ n ih =>
    intro j z h1 h2 hz l4
    refine g_iload_n dX9_isBlownNow_14 rfl ?_
    refine g_aload_n dX9_isBlownNow_15 rfl ?_
    refine g_getR 23 dX9_isBlownNow_16 flX9_56 rfl hM.o hM.r23 ?_
    refine g_iload_n dX9_isBlownNow_19 rfl ?_
    refine g_iaload dX9_isBlownNow_20 hM.k206 (by omega) (hM.b206 (by omega)) ?_
    refine g_aload_n dX9_isBlownNow_21 rfl ?_
    refine g_cVi [] dX9_isBlownNow_22 mlX9_211 mvX9_perValve (by decide) hM.o (by decide) rfl rfl (Nat.le_of_ble_eq_true rfl) rfl (Nat.le_of_ble_eq_true rfl) (m_perValve hM hP hpo) ?_
    rw [e4]
    refine g_idiv dX9_isBlownNow_25 (by omega) (by omega) ?_
    refine g_icmp_gt 99 dX9_isBlownNow_26 (by decide) (fun h26 => ?_) (fun h26 => ?_)
    · exfalso; omega
    · skip
      refine g_aload_n dX9_isBlownNow_29 rfl ?_
      refine g_getR 19 dX9_isBlownNow_30 flX9_44 rfl hM.o hM.r19 ?_
      refine g_iload_n dX9_isBlownNow_33 rfl ?_
      refine g_iaload dX9_isBlownNow_34 hM.k202 (by omega) (hM.b202 (by omega)) ?_
      refine g_aload_n dX9_isBlownNow_35 rfl ?_
      refine g_getR 0 dX9_isBlownNow_36 flX9_7 rfl hM.o hM.r0 ?_
      refine g_iconst dX9_isBlownNow_39 (by decide) ?_
      refine g_iaload dX9_isBlownNow_40 hM.k191 (by omega) (hM.b191 (by omega)) ?_
      rw [e0, p2]
      refine g_iadd dX9_isBlownNow_41 (by omega) (by omega) ?_
      refine n_istore (lN := [_, _, _, _, _]) dX9_isBlownNow_42 (by decide) rfl ?_
      refine l_bn2 hM hr hP hpo h90 j (by omega) (∃ i : Int, (r 3 / v_cpv pl ≤ i ∧ i < j ∧ i ≤ r 4 / v_cpv pl) ∧ ∃ s : Int, (r 0 + pl 5 ≤ s ∧ s ≤ r 1 + pl 5) ∧ On gi i s) (fun z9 t9 hz9 => ?_) (r 1 + pl 5 - (r 0 + pl 5) + 1).toNat (r 0 + pl 5) z rfl (Int.le_refl _) ⟨fun w => hz.1 (w.elim id (fun ⟨s, w, _⟩ => by omega)), fun w => hz.2 (fun v => w (Or.inl v))⟩
      refine n_iinc (lN := [_, _, _, some (vI (j + 1)), _]) dX9_isBlownNow_93 rfl (by decide) (by omega) (by omega) rfl ?_
      refine g_goto 14 dX9_isBlownNow_96 (by decide) ?_
      refine ih (j + 1) z9 (by omega) (by omega) ⟨fun w => hz9.1 ?_, fun w => hz9.2 (fun v => w ?_)⟩ _
      · obtain ⟨i, w1, w2⟩ := w
        by_cases c : i = j
        · subst c; exact Or.inr w2
        · exact Or.inl ⟨i, by omega, w2⟩
      · rcases v with ⟨i, v1, v2⟩ | v
        · exact ⟨i, by omega, v2⟩
        · exact ⟨j, by omega, v⟩
set_option maxRecDepth 20000 in
set_option maxHeartbeats 1000000 in
theorem m_isBlownNow (hM : isMd sh) (hr : rwB gi b r) (hP : MP gi pl kn) (hpo : v_pok pl) (h90 : pl 5 ≤ 20) (z0 : Int) (hz0 : Zq (∃ j : Int, (v_lo pl r ≤ j ∧ j ≤ v_hi pl r) ∧ ∃ s : Int, (r 0 + pl 5 ≤ s ∧ s ≤ r 1 + pl 5) ∧ On gi j s) z0) : Ct mdX9_isBlownNow 0 0 [vR 190, vI b] gi gl sh (Rt (some (vI z0)) gi gl sh) := by
  show Go mdX9_isBlownNow 0 0 0 [some (vR 190), some (vI b), none, none, none] [] gi gl sh _
  obtain ⟨e0, e1, e3, e4, e5, e6, e7⟩ := hr.e
  have hb := hr.1
  have k3 := hr.2.2.2.2.2.1
  have k4 := hr.2.2.2.2.2.2.1
  have hcp := hpo.1.2.2
  have hl := v_lo_e (r := r) hcp k3.1
  have hh := v_hi_e (r := r) hcp k4
  have d4 := Int.ediv_le_self (v_cpv pl) k4.1
  have d3 := Int.ediv_nonneg k3.1 (Int.le_of_lt hcp)
  rw [hl, hh] at hz0
  refine g_iconst dX9_isBlownNow_0 (by decide) ?_
  refine n_istore_n (lN := [_, _, _, _, _]) dX9_isBlownNow_1 (by decide) rfl ?_
  refine g_aload_n dX9_isBlownNow_2 rfl ?_
  refine g_getR 22 dX9_isBlownNow_3 flX9_53 rfl hM.o hM.r22 ?_
  refine g_iload_n dX9_isBlownNow_6 rfl ?_
  refine g_iaload dX9_isBlownNow_7 hM.k205 (by omega) (hM.b205 (by omega)) ?_
  refine g_aload_n dX9_isBlownNow_8 rfl ?_
  refine g_cVi [] dX9_isBlownNow_9 mlX9_211 mvX9_perValve (by decide) hM.o (by decide) rfl rfl (Nat.le_of_ble_eq_true rfl) rfl (Nat.le_of_ble_eq_true rfl) (m_perValve hM hP hpo) ?_
  rw [e3]
  refine g_idiv dX9_isBlownNow_12 (by omega) (by omega) ?_
  refine n_istore_n (lN := [_, _, _, _, _]) dX9_isBlownNow_13 (by decide) rfl ?_
  exact l_bn1 hM hr hP hpo h90 d3 (by omega) z0 hz0 _ (r 3 / v_cpv pl) 0 rfl (Int.le_refl _) ⟨fun ⟨i, w, _⟩ => by omega, fun _ => rfl⟩ none

end MD11
