/-! an item read into a plan -/
def Zq (P : Prop) (z : Int) : Prop := (P → z = 1) ∧ (¬ P → z = 0)
theorem Zq.ex (P : Prop) : ∃ z : Int, Zq P z := by
  obtain ⟨z, h1, h2, -⟩ := z_ex P
  exact ⟨z, h1, h2⟩
theorem Zq.b {P : Prop} {z : Int} (h : Zq P z) : z = 0 ∨ z = 1 := by
  by_cases hP : P
  · exact Or.inr (h.1 hP)
  · exact Or.inl (h.2 hP)
theorem Zq.yes {P : Prop} {z : Int} (h : Zq P z) (hz : z ≠ 0) : P := Classical.byContradiction (fun q => hz (h.2 q))
theorem Zq.no {P : Prop} {z : Int} (h : Zq P z) (hz : z = 0) : ¬ P := fun q => by have := h.1 q; omega
def t_rI (tx : gRw) (n p : Int) (gi gl : gF) (sh : gSh) (a : Int) : gQ := fun r gi' gl' sh' => gl' = gl ∧ sh' = sh ∧ (∀ b : Int, b ≠ 1 → b ≠ 3 → b ≠ a → b ≠ a + 1 → b ≠ a + 2 → gi' b = gi b) ∧ gi' 1 2 = gi 1 2 ∧
  ((t_item tx n p (gi a) (gi (a + 1)) (gi (a + 2)) = none ∧ r = some (vI 0) ∧ gi' a = gi a ∧ gi' (a + 1) = gi (a + 1) ∧ gi' (a + 2) = gi (a + 2)) ∨
   ∃ (p' : Int) (pl kn nu : gRw), t_item tx n p (gi a) (gi (a + 1)) (gi (a + 2)) = some (p', pl, kn, nu) ∧ r = some (vI 1) ∧ gi' 1 3 = p' ∧ gi' a = pl ∧ gi' (a + 1) = kn ∧ gi' (a + 2) = nu)
section TEXT2
variable {gi gl gi1 : gF} {sh : gSh} {a : Int} {Q : gQ}
set_option maxRecDepth 20000 in
set_option maxHeartbeats 1000000 in
theorem l_item_44 (hV : isText sh) (tx : gRw) (n p : Int) (hx : gi 2 = tx) (hn : gi 1 2 = n) (hp : gi 1 3 = p) (hp0 : 0 ≤ p ∧ p ≤ 900) (hn2 : n ≤ 200) (ht : t_tx tx n) (lt w i : Int) (hi : 0 ≤ i ∧ i < w ∧ w ≤ 5) (hch : i + 1 < w)
    (hS : ∀ x q : Int, t_num tx n p 44 = some (x, q) → Go mdX5_readItem 0 0 29 [some (vR 1), some (vR a), some (vI lt), some (vI w), some (vI (i + 1))] [] (g_up (g_up gi 1 3 q) 3 i x) gl sh Q)
    (hN : t_num tx n p 44 = none → ∀ q : Int, Q (some (vI 0)) (g_up (g_up gi 1 3 q) 3 i (-1)) gl sh) : Go mdX5_readItem 0 0 29 [some (vR 1), some (vR a), some (vI lt), some (vI w), some (vI i)] [] gi gl sh Q := by
  obtain ⟨k0, r0, r1, k1, l1, k2, l2⟩ := id hV
  refine g_iload dX5_readItem_29 rfl ?_
  refine g_iload_n dX5_readItem_31 rfl ?_
  refine g_icmp_ge 89 dX5_readItem_32 (by decide) (fun h32 => ?_) (fun h32 => ?_)
  · exfalso; omega
  · skip
    refine g_iload dX5_readItem_35 rfl ?_
    refine g_aload_n dX5_readItem_37 rfl ?_
    refine g_getR 1 dX5_readItem_38 flX5_15 rfl (by assumption) (by assumption) ?_
    refine g_alen _ dX5_readItem_41 (by omega) (by assumption) (by decide) ?_
    refine g_icmp_ge 89 dX5_readItem_42 (by decide) (fun h42 => ?_) (fun h42 => ?_)
    · exfalso; omega
    · skip
      refine g_aload_n dX5_readItem_45 rfl ?_
      refine g_getR 1 dX5_readItem_46 flX5_15 rfl (by assumption) (by assumption) ?_
      refine g_iload dX5_readItem_49 rfl ?_
      refine g_aload_n dX5_readItem_51 rfl ?_
      refine g_iload dX5_readItem_52 rfl ?_
      refine g_iconst dX5_readItem_54 (by decide) ?_
      refine g_iadd dX5_readItem_55 (by omega) (by omega) ?_
      refine g_iload_n dX5_readItem_56 rfl ?_
      refine g_icmp_ge 65 dX5_readItem_57 (by decide) (fun h57 => ?_) (fun h57 => ?_)
      · exfalso; omega
      · skip
        refine g_bipush dX5_readItem_60 (by decide) (by decide) ?_
        refine g_goto 67 dX5_readItem_62 (by decide) ?_
        refine g_callV_i [_] dX5_readItem_67 mlX5_43 mvX5_readNumber (by decide) (by assumption) (by decide) rfl rfl (Nat.le_of_ble_eq_true rfl) rfl (Nat.le_of_ble_eq_true rfl) (c_readNumber hV tx n p 44 hx hn hp (by omega) hn2 ht) (fun _ _ _ _ q => by obtain ⟨x, q, e, -⟩ := q; exact ⟨x, e⟩) (fun x0 g1 l1 s1 hq hw1 hw2 => ?_)
        obtain ⟨x, q, e, rfl, rfl, rfl, hb, hc⟩ := hq
        cases e
        refine g_iastore dX5_readItem_70 (by assumption) (by omega) (by omega) ?_
        refine g_aload_n dX5_readItem_71 rfl ?_
        refine g_getR 1 dX5_readItem_72 flX5_15 rfl (by assumption) (by assumption) ?_
        refine g_iload dX5_readItem_75 rfl ?_
        refine g_iaload dX5_readItem_77 (by assumption) (by omega) (by omega) ?_
        rw [g_up_at]
        refine g_if_ge 83 dX5_readItem_78 (by decide) (fun h78 => ?_) (fun h78 => ?_)
        · skip
          refine n_iinc (lN := [_, _, _, _, _]) dX5_readItem_83 rfl (by decide) (by omega) (by omega) rfl ?_
          refine g_goto 29 dX5_readItem_86 (by decide) ?_
          rcases hc with hc | hc
          · exact hS x0 q hc
          · exfalso; omega
        · skip
          refine g_iconst dX5_readItem_81 (by decide) ?_
          refine g_zreturn dX5_readItem_82 rfl (by omega) ?_
          rcases hc with hc | hc
          · exfalso; have := t_num_b hc; omega
          · rw [hc.2]
            exact hN hc.1 q
set_option maxRecDepth 20000 in
set_option maxHeartbeats 1000000 in
theorem l_item_59 (hV : isText sh) (tx : gRw) (n p : Int) (hx : gi 2 = tx) (hn : gi 1 2 = n) (hp : gi 1 3 = p) (hp0 : 0 ≤ p ∧ p ≤ 900) (hn2 : n ≤ 200) (ht : t_tx tx n) (lt w i : Int) (hi : 0 ≤ i ∧ i < w ∧ w ≤ 5) (hch : w ≤ i + 1)
    (hS : ∀ x q : Int, t_num tx n p 59 = some (x, q) → Go mdX5_readItem 0 0 29 [some (vR 1), some (vR a), some (vI lt), some (vI w), some (vI (i + 1))] [] (g_up (g_up gi 1 3 q) 3 i x) gl sh Q)
    (hN : t_num tx n p 59 = none → ∀ q : Int, Q (some (vI 0)) (g_up (g_up gi 1 3 q) 3 i (-1)) gl sh) : Go mdX5_readItem 0 0 29 [some (vR 1), some (vR a), some (vI lt), some (vI w), some (vI i)] [] gi gl sh Q := by
  obtain ⟨k0, r0, r1, k1, l1, k2, l2⟩ := id hV
  refine g_iload dX5_readItem_29 rfl ?_
  refine g_iload_n dX5_readItem_31 rfl ?_
  refine g_icmp_ge 89 dX5_readItem_32 (by decide) (fun h32 => ?_) (fun h32 => ?_)
  · exfalso; omega
  · skip
    refine g_iload dX5_readItem_35 rfl ?_
    refine g_aload_n dX5_readItem_37 rfl ?_
    refine g_getR 1 dX5_readItem_38 flX5_15 rfl (by assumption) (by assumption) ?_
    refine g_alen _ dX5_readItem_41 (by omega) (by assumption) (by decide) ?_
    refine g_icmp_ge 89 dX5_readItem_42 (by decide) (fun h42 => ?_) (fun h42 => ?_)
    · exfalso; omega
    · skip
      refine g_aload_n dX5_readItem_45 rfl ?_
      refine g_getR 1 dX5_readItem_46 flX5_15 rfl (by assumption) (by assumption) ?_
      refine g_iload dX5_readItem_49 rfl ?_
      refine g_aload_n dX5_readItem_51 rfl ?_
      refine g_iload dX5_readItem_52 rfl ?_
      refine g_iconst dX5_readItem_54 (by decide) ?_
      refine g_iadd dX5_readItem_55 (by omega) (by omega) ?_
      refine g_iload_n dX5_readItem_56 rfl ?_
      refine g_icmp_ge 65 dX5_readItem_57 (by decide) (fun h57 => ?_) (fun h57 => ?_)
      · skip
        refine g_bipush dX5_readItem_65 (by decide) (by decide) ?_
        refine g_callV_i [_] dX5_readItem_67 mlX5_43 mvX5_readNumber (by decide) (by assumption) (by decide) rfl rfl (Nat.le_of_ble_eq_true rfl) rfl (Nat.le_of_ble_eq_true rfl) (c_readNumber hV tx n p 59 hx hn hp (by omega) hn2 ht) (fun _ _ _ _ q => by obtain ⟨x, q, e, -⟩ := q; exact ⟨x, e⟩) (fun x0 g1 l1 s1 hq hw1 hw2 => ?_)
        obtain ⟨x, q, e, rfl, rfl, rfl, hb, hc⟩ := hq
        cases e
        refine g_iastore dX5_readItem_70 (by assumption) (by omega) (by omega) ?_
        refine g_aload_n dX5_readItem_71 rfl ?_
        refine g_getR 1 dX5_readItem_72 flX5_15 rfl (by assumption) (by assumption) ?_
        refine g_iload dX5_readItem_75 rfl ?_
        refine g_iaload dX5_readItem_77 (by assumption) (by omega) (by omega) ?_
        rw [g_up_at]
        refine g_if_ge 83 dX5_readItem_78 (by decide) (fun h78 => ?_) (fun h78 => ?_)
        · skip
          refine n_iinc (lN := [_, _, _, _, _]) dX5_readItem_83 rfl (by decide) (by omega) (by omega) rfl ?_
          refine g_goto 29 dX5_readItem_86 (by decide) ?_
          rcases hc with hc | hc
          · exact hS x0 q hc
          · exfalso; omega
        · skip
          refine g_iconst dX5_readItem_81 (by decide) ?_
          refine g_zreturn dX5_readItem_82 rfl (by omega) ?_
          rcases hc with hc | hc
          · exfalso; have := t_num_b hc; omega
          · rw [hc.2]
            exact hN hc.1 q
      · exfalso; omega
end TEXT2
