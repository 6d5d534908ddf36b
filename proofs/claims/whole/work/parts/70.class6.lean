/-! the class: count, of -/
section CL7
variable {c : mS} {N : Nt} {wt wh : Nat} {Q : Option Int32 → mS → Prop} {a b a1 : Int32} {l : Nat}
theorem D_count (h : CI c N wt wh) (hD : Dok N wt wh) (kk : ∀ c' : mS, CI c' N wt wh → Q (some (qCount N wt wh a)) c') : WP mLayH 84 0 [some (.ref 0), some (.int a)] [] c Q := by
  have k := kk c h
  unfold qCount at k
  simp only [w_X6_count_0, w_X6_count_1, w_X6_count_40, w_X6_count_41, w_X6_count_44, w_X6_count_47, w_X6_count_48, w_X6_count_49, w_X6_count_52, w_X6_count_55, w_X6_count_56, w_X6_count_57, w_X6_count_60, w_X6_count_63, w_X6_count_64, w_X6_count_65, w_X6_count_68, w_X6_count_71, w_X6_count_72, w_X6_count_73, w_X6_count_76, w_X6_count_77, w_X6_count_80, w_X6_count_83, w_X6_count_86, w_X6_count_87, w_X6_count_88, w_X6_count_91, w_X6_count_94, w_X6_count_95, w_X6_count_96, h.1.2.1, h.1.2.2.1, h.1.2.2.2.2.2.1, h.1.2.2.2.2.2.2, C_broken h.1 hD, C_costs h.1, mKI_some, C_bits h.1.1.2.2.1]
  by_cases e0 : a = 0
  · rw [if_pos e0] at k ⊢; exact k
  rw [if_neg e0] at k ⊢
  by_cases e1 : a = 1
  · rw [if_pos e1] at k ⊢; exact k
  rw [if_neg e1] at k ⊢
  by_cases e2 : a = 2
  · rw [if_pos e2] at k ⊢; exact k
  rw [if_neg e2] at k ⊢
  by_cases e3 : a = 3
  · rw [if_pos e3] at k ⊢; exact k
  rw [if_neg e3] at k ⊢
  by_cases e4 : a = 4
  · rw [if_pos e4] at k ⊢; exact k
  rw [if_neg e4] at k ⊢
  by_cases e5 : a = 5
  · rw [if_pos e5] at k ⊢; exact k
  rw [if_neg e5] at k ⊢
  exact k
theorem ways_loop (h : CS c N wt wh) (hl : l < nM N) : ∀ (k j : Nat), j + k = nN N →
    (WP mLayH 4 5 [some (.ref 5), some (.ref 1), some (.int (nI l)), some (.int (nI (sumN (fun d => cnt (fun s => onW N l d s) (nN N)) j))), some (.int (nI j))] [] c Q ↔ Q (some (nI (sumN (fun d => cnt (fun s => onW N l d s) (nN N)) (nN N)))) c) := by
  have h12 := h.1.1.2.1
  intro k
  induction k with
  | zero =>
    intro j hj
    rw [w_X0_waysOver_5]
    simp only [w_X0_waysOver_7, w_X0_waysOver_8, w_X0_waysOver_11, w_X0_waysOver_14, w_X0_waysOver_15, w_X0_waysOver_16, w_X0_waysOver_17, w_X0_waysOver_18, w_X0_waysOver_20, w_X0_waysOver_23, w_X0_waysOver_26, w_X0_waysOver_27, w_X0_waysOver_28, w_X0_waysOver_31, w_X0_waysOver_34, w_X0_waysOver_35, h.1.2.1]
    rw [if_pos ((kLe (by omega) (by omega)).mpr (by omega)), show j = nN N by omega]
  | succ k ih =>
    intro j hj
    have hjn : j < nN N := by omega
    rw [w_X0_waysOver_5]
    simp only [w_X0_waysOver_7, w_X0_waysOver_8, w_X0_waysOver_11, w_X0_waysOver_14, w_X0_waysOver_15, w_X0_waysOver_16, w_X0_waysOver_17, w_X0_waysOver_18, w_X0_waysOver_20, w_X0_waysOver_23, w_X0_waysOver_26, w_X0_waysOver_27, w_X0_waysOver_28, w_X0_waysOver_31, w_X0_waysOver_34, w_X0_waysOver_35, h.1.2.1, C_hitN h hl hjn, mKI_some, C_bits (show nN N ≤ 24 by omega), nI_1, nI_add]
    rw [if_neg (fun q => by rw [kLe (by omega) (by omega)] at q; omega)]
    exact ih (j + 1) (by omega)
theorem C_ways (h : CS c N wt wh) (hl : l < nM N) : WP mLayH 4 0 [some (.ref 5), some (.ref 1), some (.int (nI l)), none, none] [] c Q ↔ Q (some (nI (btw N l))) c := by
  simp only [w_X0_waysOver_0, w_X0_waysOver_1, w_X0_waysOver_2, w_X0_waysOver_3]
  unfold btw
  rw [sum_ex (p := fun a dd => onW N l dd a)]
  exact ways_loop h hl (nN N) 0 (by omega)
theorem D_of (h : CI c N wt wh) (hD : Dok N wt wh) (kk : ∀ c' : mS, CI c' N wt wh → Q (some (qOf N wt wh a b)) c') : WP mLayH 64 0 [some (.ref 0), some (.int a), some (.int b)] [] c Q := by
  have hN := h.1.1
  have h24 := hN.2.2.1
  simp only [w_X6_of_0, w_X6_of_1, w_X6_of_4, w_X6_of_5, w_X6_of_8, w_X6_of_11, w_X6_of_12, w_X6_of_13, w_X6_of_14, w_X6_of_52, w_X6_of_53, w_X6_of_56, w_X6_of_59, w_X6_of_60, w_X6_of_61, w_X6_of_62, w_X6_of_63, w_X6_of_66, w_X6_of_69, w_X6_of_70, w_X6_of_71, w_X6_of_72, w_X6_of_73, w_X6_of_76, w_X6_of_79, w_X6_of_80, w_X6_of_81, w_X6_of_82, w_X6_of_83, w_X6_of_86, w_X6_of_89, w_X6_of_90, w_X6_of_91, w_X6_of_92, w_X6_of_93, w_X6_of_96, w_X6_of_97, w_X6_of_100, w_X6_of_101, w_X6_of_104, w_X6_of_107, w_X6_of_108, w_X6_of_111, w_X6_of_112, w_X6_of_113, w_X6_of_114, w_X6_of_117, w_X6_of_120, w_X6_of_121, w_X6_of_124, w_X6_of_125, w_X6_of_128, w_X6_of_129, w_X6_of_132, w_X6_of_133, w_X6_of_134, C_isLink h.1, mKI_some]
  unfold qOf at kk
  cases hl : ix (nM N) a with
  | none => rw [hl] at kk; exact kk c h
  | some l =>
    rw [hl] at kk
    obtain ⟨rfl, hlm⟩ := ix_some (by omega) hl
    obtain ⟨e1, e2, e3, e4⟩ := h.1.2.2.2.1 l hlm
    rw [if_pos bs1]
    dsimp only at kk
    simp (disch := omega) only [C_takes h.1 hD hlm, mKI_some, kIn, kCl, e1, e2, e3, e4, show l < 24 by omega, true_and]
    by_cases z0 : b = 0
    · rw [if_pos z0] at kk ⊢; exact kk c h
    rw [if_neg z0] at kk ⊢
    by_cases z1 : b = 1
    · rw [if_pos z1] at kk ⊢; exact kk c h
    rw [if_neg z1] at kk ⊢
    by_cases z2 : b = 2
    · rw [if_pos z2] at kk ⊢; exact kk c h
    rw [if_neg z2] at kk ⊢
    by_cases z3 : b = 3
    · rw [if_pos z3] at kk ⊢; exact kk c h
    rw [if_neg z3] at kk ⊢
    by_cases z4 : b = 4
    · rw [if_pos z4] at kk ⊢
      have k := kk c h
      cases hs : sdn N wt wh l with
      | false => rw [hs] at k; rw [if_pos bf0]; exact k
      | true => rw [hs] at k; rw [if_neg bt1]; exact k
    rw [if_neg z4] at kk ⊢
    by_cases z5 : b = 5
    · rw [if_pos z5] at kk ⊢
      refine C_settle h (fun c1 h1 => ?_)
      rw [mKV_none, C_ways h1 hlm, mKI_some]
      exact kk c1 (CS_I h1)
    rw [if_neg z5] at kk ⊢
    exact kk c h
end CL7
