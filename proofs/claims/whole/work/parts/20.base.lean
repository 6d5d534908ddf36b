/-! numbers, networks, what a state of the reference means -/
theorem t_within {lay : mLay} {a b c : Int32} {σ : mS} {Q : Option Int32 → mS → Prop} : WP lay 94 0 [some (.int a), some (.int b), some (.int c)] [] σ Q ↔ Q (some (if b ≤ a ∧ a ≤ c then 1 else 0)) σ := by
  simp only [w_X7_within_0, w_X7_within_1, w_X7_within_2, w_X7_within_5, w_X7_within_6, w_X7_within_7, w_X7_within_10, w_X7_within_11, w_X7_within_14, w_X7_within_15]
  done
theorem t_isNode {a : Int32} {σ : mS} {Q : Option Int32 → mS → Prop} : WP mLayM 95 0 [some (.ref 0), some (.int a)] [] σ Q ↔ Q (some (if 0 ≤ a ∧ a < σ 0 1 then 1 else 0)) σ := by
  simp only [w_X7_isNode_0, w_X7_isNode_1, w_X7_isNode_4, w_X7_isNode_5, w_X7_isNode_6, w_X7_isNode_9, w_X7_isNode_12, w_X7_isNode_13, w_X7_isNode_16, w_X7_isNode_17]
  done
theorem t_linkOf {a b x y : Int32} {σ : mS} {Q : Option Int32 → mS → Prop} : WP mLayM 98 5 [some (.ref 0), some (.int a), some (.int b), some (.int x), some (.int y)] [] σ Q ↔ True := by
  rw [w_X7_linkOf_5]
  simp only [w_X7_linkOf_0, w_X7_linkOf_1, w_X7_linkOf_2, w_X7_linkOf_3, w_X7_linkOf_7, w_X7_linkOf_8, w_X7_linkOf_11, w_X7_linkOf_14, w_X7_linkOf_15, w_X7_linkOf_18, w_X7_linkOf_20, w_X7_linkOf_21, w_X7_linkOf_22, w_X7_linkOf_25, w_X7_linkOf_26, w_X7_linkOf_29, w_X7_linkOf_31, w_X7_linkOf_32, w_X7_linkOf_33, w_X7_linkOf_36, w_X7_linkOf_37, w_X7_linkOf_40, w_X7_linkOf_42, w_X7_linkOf_43, w_X7_linkOf_44, w_X7_linkOf_47, w_X7_linkOf_48, w_X7_linkOf_51, w_X7_linkOf_53, w_X7_linkOf_54, w_X7_linkOf_55, w_X7_linkOf_58, w_X7_linkOf_60, w_X7_linkOf_63, w_X7_linkOf_64, w_X7_linkOf_65, w_X7_linkOf_68, w_X7_linkOf_71, w_X7_linkOf_72]
  done
