/-! the reference, its small methods -/
section MO1
variable {d : mS} {N : Nt} {wt wh : Nat} {Q : Option Int32 → mS → Prop}
theorem M_isNode {a : Int32} (hM : MI d N wt wh) : WP mLayM 95 0 [some (.ref 0), some (.int a)] [] d Q ↔ Q (some (bi (ix (nN N) a).isSome)) d := by
  simp only [w_X7_isNode_0, w_X7_isNode_1, w_X7_isNode_4, w_X7_isNode_5, w_X7_isNode_6, w_X7_isNode_9, w_X7_isNode_12, w_X7_isNode_13, w_X7_isNode_16, w_X7_isNode_17, true_or, or_true, true_and, hM.2.1, t_node]
  exact ite_bi (Q := fun x => Q (some x) d)
theorem M_isLink {a : Int32} (hM : MI d N wt wh) : WP mLayM 96 0 [some (.ref 0), some (.int a)] [] d Q ↔ Q (some (bi (ix (nM N) a).isSome)) d := by
  simp only [w_X7_isLink_0, w_X7_isLink_1, w_X7_isLink_4, w_X7_isLink_5, w_X7_isLink_6, w_X7_isLink_9, w_X7_isLink_12, w_X7_isLink_13, w_X7_isLink_16, w_X7_isLink_17, true_or, or_true, true_and, hM.2.2.1, t_node]
  exact ite_bi (Q := fun x => Q (some x) d)
theorem M_isPair {a b : Int32} (hM : MI d N wt wh) : WP mLayM 97 0 [some (.ref 0), some (.int a), some (.int b)] [] d Q ↔ Q (some (bi ((ix (nN N) a).isSome && (ix (nN N) b).isSome && decide (¬ a = b)))) d := by
  simp only [w_X7_isPair_0, w_X7_isPair_1, w_X7_isPair_2, w_X7_isPair_5, w_X7_isPair_8, w_X7_isPair_9, w_X7_isPair_10, w_X7_isPair_13, w_X7_isPair_16, w_X7_isPair_17, w_X7_isPair_18, w_X7_isPair_21, w_X7_isPair_22, w_X7_isPair_25, w_X7_isPair_26, true_or, or_true, true_and, M_isNode hM, mKI_some, bi_0]
  cases (ix (nN N) a).isSome <;> cases (ix (nN N) b).isSome <;> by_cases h : a = b <;> simp [h, bi]
theorem M_linkOf_loop {a b : Nat} (ha : a < 2 ^ 31) (hb : b < 2 ^ 31) (hM : MI d N wt wh) : ∀ (k l : Nat), l + k = nM N → (WP mLayM 98 5 [some (.ref 0), some (.int (nI a)), some (.int (nI b)), some (.int (en (lkF N a b l))), some (.int (nI l))] [] d Q ↔ Q (some (en (lk N a b))) d) := by
  obtain ⟨hN, h1, h2, h3, -⟩ := hM
  intro k
  induction k with
  | zero =>
    intro l hl
    rw [w_X7_linkOf_5]
    simp only [w_X7_linkOf_0, w_X7_linkOf_1, w_X7_linkOf_2, w_X7_linkOf_3, w_X7_linkOf_7, w_X7_linkOf_8, w_X7_linkOf_11, w_X7_linkOf_14, w_X7_linkOf_15, w_X7_linkOf_18, w_X7_linkOf_20, w_X7_linkOf_21, w_X7_linkOf_22, w_X7_linkOf_25, w_X7_linkOf_26, w_X7_linkOf_29, w_X7_linkOf_31, w_X7_linkOf_32, w_X7_linkOf_33, w_X7_linkOf_36, w_X7_linkOf_37, w_X7_linkOf_40, w_X7_linkOf_42, w_X7_linkOf_43, w_X7_linkOf_44, w_X7_linkOf_47, w_X7_linkOf_48, w_X7_linkOf_51, w_X7_linkOf_53, w_X7_linkOf_54, w_X7_linkOf_55, w_X7_linkOf_58, w_X7_linkOf_60, w_X7_linkOf_63, w_X7_linkOf_64, w_X7_linkOf_65, w_X7_linkOf_68, w_X7_linkOf_71, w_X7_linkOf_72, h2]
    rw [if_pos (by rw [kLe (by have := hN.2.2.1; omega) (by have := hN.2.2.1; omega)]; omega)]
    rw [show l = nM N by omega]
    exact Iff.rfl
  | succ k ih =>
    intro l hl
    have hb24 := hN.2.2.1
    obtain ⟨e1, e2, e3, e4⟩ := h3 l (by omega)
    obtain ⟨g1, g2, g3, g4, g5, g6⟩ := hN.2.2.2.1 l (by omega)
    have g0 := hN.2.1
    have ih := ih (l + 1) (by omega)
    rw [w_X7_linkOf_5]
    simp only [w_X7_linkOf_0, w_X7_linkOf_1, w_X7_linkOf_2, w_X7_linkOf_3, w_X7_linkOf_7, w_X7_linkOf_8, w_X7_linkOf_11, w_X7_linkOf_14, w_X7_linkOf_15, w_X7_linkOf_18, w_X7_linkOf_20, w_X7_linkOf_21, w_X7_linkOf_22, w_X7_linkOf_25, w_X7_linkOf_26, w_X7_linkOf_29, w_X7_linkOf_31, w_X7_linkOf_32, w_X7_linkOf_33, w_X7_linkOf_36, w_X7_linkOf_37, w_X7_linkOf_40, w_X7_linkOf_42, w_X7_linkOf_43, w_X7_linkOf_44, w_X7_linkOf_47, w_X7_linkOf_48, w_X7_linkOf_51, w_X7_linkOf_53, w_X7_linkOf_54, w_X7_linkOf_55, w_X7_linkOf_58, w_X7_linkOf_60, w_X7_linkOf_63, w_X7_linkOf_64, w_X7_linkOf_65, w_X7_linkOf_68, w_X7_linkOf_71, w_X7_linkOf_72, h2]
    simp (disch := omega) only [kLe, kIn, kCl, e1, e2, kEq, nI_1]
    rw [if_neg (by omega)]
    simp only [show l < 24 by omega, true_and]
    unfold lkF at ih
    repeat' split
    all_goals first
      | (have hj : jn N l a b = true := by (rw [jn_iff]; omega)
         rw [if_pos hj] at ih; exact ih)
      | (have hj : ¬ jn N l a b = true := by (rw [jn_iff]; omega)
         rw [if_neg hj] at ih; exact ih)
theorem M_linkOf {a b : Nat} (ha : a < 2 ^ 31) (hb : b < 2 ^ 31) (hM : MI d N wt wh) : WP mLayM 98 0 [some (.ref 0), some (.int (nI a)), some (.int (nI b)), none, none] [] d Q ↔ Q (some (en (lk N a b))) d := by
  simp only [w_X7_linkOf_0, w_X7_linkOf_1, w_X7_linkOf_2, w_X7_linkOf_3, w_X7_linkOf_7, w_X7_linkOf_8, w_X7_linkOf_11, w_X7_linkOf_14, w_X7_linkOf_15, w_X7_linkOf_18, w_X7_linkOf_20, w_X7_linkOf_21, w_X7_linkOf_22, w_X7_linkOf_25, w_X7_linkOf_26, w_X7_linkOf_29, w_X7_linkOf_31, w_X7_linkOf_32, w_X7_linkOf_33, w_X7_linkOf_36, w_X7_linkOf_37, w_X7_linkOf_40, w_X7_linkOf_42, w_X7_linkOf_43, w_X7_linkOf_44, w_X7_linkOf_47, w_X7_linkOf_48, w_X7_linkOf_51, w_X7_linkOf_53, w_X7_linkOf_54, w_X7_linkOf_55, w_X7_linkOf_58, w_X7_linkOf_60, w_X7_linkOf_63, w_X7_linkOf_64, w_X7_linkOf_65, w_X7_linkOf_68, w_X7_linkOf_71, w_X7_linkOf_72]
  exact M_linkOf_loop ha hb hM (nM N) 0 (by omega)
end MO1
