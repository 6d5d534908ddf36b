/-! the reference: cut -/
theorem shl1 {k : Nat} (hk : k < 31) : (1 : Int32) <<< (nI k &&& 31) = nI (2 ^ k) := by
  have h := pk_shlN (n := 1) (nI k &&& 31) k (s_l k (by omega)) (by
    have : 2 ^ k ≤ 2 ^ 30 := Nat.pow_le_pow_right (by omega) (by omega)
    omega)
  rw [Nat.one_mul] at h
  exact h
theorem pow12 {k : Nat} (hk : k ≤ 12) : 2 ^ k ≤ 4096 := by
  have : 2 ^ k ≤ 2 ^ 12 := Nat.pow_le_pow_right (by omega) hk
  omega
section MOU
variable {d : mS} {N : Nt} {wt wh : Nat} {Q : Option Int32 → mS → Prop} {a b : Int32}
theorem F_cut_l {x y s : Nat} {lst : Int32} (h : MI d N wt wh) (hs : s < 4096) (kk : WP mLayM 154 39 [some (.ref 0), some (.int (nI x)), some (.int (nI y)), some (.int lst), some (.int (nI s)), some (.int (nI (crs N s))), some (.int (nI (nM N)))] [] d Q) : ∀ (k j : Nat), j + k = nM N → WP mLayM 154 39 [some (.ref 0), some (.int (nI x)), some (.int (nI y)), some (.int lst), some (.int (nI s)), some (.int (nI (cnt (fun l => bt (nI s) (nA N l) != bt (nI s) (nB N l)) j))), some (.int (nI j))] [] d Q := by
  have h12 := h.1.2.1
  have h24 := h.1.2.2.1
  intro k
  induction k with
  | zero => intro j hj; rw [show j = nM N by omega]; exact kk
  | succ k ih =>
    intro j hj
    have ih := ih (j + 1) (by omega)
    obtain ⟨e1, e2, -, -⟩ := h.2.2.2.1 j (by omega)
    obtain ⟨g1, g2, -⟩ := h.1.2.2.2.1 j (by omega)
    rw [w_X7_cut_39]
    simp only [w_X7_cut_0, w_X7_cut_1, w_X7_cut_2, w_X7_cut_5, w_X7_cut_6, w_X7_cut_7, w_X7_cut_8, w_X7_cut_11, w_X7_cut_14, w_X7_cut_15, w_X7_cut_16, w_X7_cut_18, w_X7_cut_19, w_X7_cut_20, w_X7_cut_24, w_X7_cut_25, w_X7_cut_26, w_X7_cut_29, w_X7_cut_30, w_X7_cut_33, w_X7_cut_34, w_X7_cut_36, w_X7_cut_37, w_X7_cut_41, w_X7_cut_42, w_X7_cut_45, w_X7_cut_48, w_X7_cut_50, w_X7_cut_52, w_X7_cut_53, w_X7_cut_56, w_X7_cut_58, w_X7_cut_59, w_X7_cut_60, w_X7_cut_61, w_X7_cut_62, w_X7_cut_64, w_X7_cut_65, w_X7_cut_68, w_X7_cut_70, w_X7_cut_71, w_X7_cut_72, w_X7_cut_73, w_X7_cut_74, w_X7_cut_77, w_X7_cut_78, w_X7_cut_81, w_X7_cut_82, w_X7_cut_83, w_X7_cut_85, w_X7_cut_88, w_X7_cut_91, w_X7_cut_93, w_X7_cut_94, w_X7_cut_95, w_X7_cut_96, w_X7_cut_97, w_X7_cut_98, w_X7_cut_101, w_X7_cut_103, w_X7_cut_104, w_X7_cut_105, w_X7_cut_106, w_X7_cut_107, w_X7_cut_110, w_X7_cut_112, w_X7_cut_113, w_X7_cut_116, w_X7_cut_118, w_X7_cut_121, w_X7_cut_122, w_X7_cut_123, w_X7_cut_126, w_X7_cut_129, w_X7_cut_130, h.2.2.1]
    rw [if_neg (fun q => by rw [kLe (by omega) (by omega)] at q; omega)]
    simp (disch := omega) only [kIn, kCl, e1, e2, bt_ask (nI s) (show nA N j < 32 by omega), bt_ask (nI s) (show nB N j < 32 by omega), nI_1, show j < 24 by omega, true_and]
    have hc : cnt (fun l => bt (nI s) (nA N l) != bt (nI s) (nB N l)) (j + 1) = cnt (fun l => bt (nI s) (nA N l) != bt (nI s) (nB N l)) j + (if (bt (nI s) (nA N j) != bt (nI s) (nB N j)) then 1 else 0) := rfl
    rw [hc] at ih
    cases b1 : bt (nI s) (nA N j) <;> cases b2 : bt (nI s) (nB N j) <;> rw [b1, b2] at ih
    · rw [if_pos rfl, k0, nI_add]; exact ih
    · rw [if_neg (by decide)]; exact ih
    · rw [if_neg (by decide)]; exact ih
    · rw [if_pos rfl, k0, nI_add]; exact ih
theorem F_cut_s {x y : Nat} (hx : x < nN N) (hy : y < nN N) (h : MI d N wt wh) (kk : Q (some (nI (mnC N x y (2 ^ nN N)))) d) : ∀ (k j : Nat) (l5 l6 : Option Value), j + k = 2 ^ nN N → WP mLayM 154 22 [some (.ref 0), some (.int (nI x)), some (.int (nI y)), some (.int (nI (mnC N x y j))), some (.int (nI j)), l5, l6] [] d Q := by
  have h12 := h.1.2.1
  have h24 := h.1.2.2.1
  have hp := pow12 h12
  have c31 := mnC_le (N := N) (x := x) (y := y)
  intro k
  induction k with
  | zero =>
    intro j l5 l6 hj
    rw [w_X7_cut_22]
    simp only [w_X7_cut_0, w_X7_cut_1, w_X7_cut_2, w_X7_cut_5, w_X7_cut_6, w_X7_cut_7, w_X7_cut_8, w_X7_cut_11, w_X7_cut_14, w_X7_cut_15, w_X7_cut_16, w_X7_cut_18, w_X7_cut_19, w_X7_cut_20, w_X7_cut_24, w_X7_cut_25, w_X7_cut_26, w_X7_cut_29, w_X7_cut_30, w_X7_cut_33, w_X7_cut_34, w_X7_cut_36, w_X7_cut_37, w_X7_cut_41, w_X7_cut_42, w_X7_cut_45, w_X7_cut_48, w_X7_cut_50, w_X7_cut_52, w_X7_cut_53, w_X7_cut_56, w_X7_cut_58, w_X7_cut_59, w_X7_cut_60, w_X7_cut_61, w_X7_cut_62, w_X7_cut_64, w_X7_cut_65, w_X7_cut_68, w_X7_cut_70, w_X7_cut_71, w_X7_cut_72, w_X7_cut_73, w_X7_cut_74, w_X7_cut_77, w_X7_cut_78, w_X7_cut_81, w_X7_cut_82, w_X7_cut_83, w_X7_cut_85, w_X7_cut_88, w_X7_cut_91, w_X7_cut_93, w_X7_cut_94, w_X7_cut_95, w_X7_cut_96, w_X7_cut_97, w_X7_cut_98, w_X7_cut_101, w_X7_cut_103, w_X7_cut_104, w_X7_cut_105, w_X7_cut_106, w_X7_cut_107, w_X7_cut_110, w_X7_cut_112, w_X7_cut_113, w_X7_cut_116, w_X7_cut_118, w_X7_cut_121, w_X7_cut_122, w_X7_cut_123, w_X7_cut_126, w_X7_cut_129, w_X7_cut_130, h.2.1]
    rw [shl1 (by omega), if_pos ((kLe (by omega) (by omega)).mpr (by omega)), show j = 2 ^ nN N by omega]
    exact kk
  | succ k ih =>
    intro j l5 l6 hj
    have ih := fun l5 l6 => ih (j + 1) l5 l6 (by omega)
    have cj := c31 j
    rw [w_X7_cut_22]
    simp only [w_X7_cut_0, w_X7_cut_1, w_X7_cut_2, w_X7_cut_5, w_X7_cut_6, w_X7_cut_7, w_X7_cut_8, w_X7_cut_11, w_X7_cut_14, w_X7_cut_15, w_X7_cut_16, w_X7_cut_18, w_X7_cut_19, w_X7_cut_20, w_X7_cut_24, w_X7_cut_25, w_X7_cut_26, w_X7_cut_29, w_X7_cut_30, w_X7_cut_33, w_X7_cut_34, w_X7_cut_36, w_X7_cut_37, w_X7_cut_41, w_X7_cut_42, w_X7_cut_45, w_X7_cut_48, w_X7_cut_50, w_X7_cut_52, w_X7_cut_53, w_X7_cut_56, w_X7_cut_58, w_X7_cut_59, w_X7_cut_60, w_X7_cut_61, w_X7_cut_62, w_X7_cut_64, w_X7_cut_65, w_X7_cut_68, w_X7_cut_70, w_X7_cut_71, w_X7_cut_72, w_X7_cut_73, w_X7_cut_74, w_X7_cut_77, w_X7_cut_78, w_X7_cut_81, w_X7_cut_82, w_X7_cut_83, w_X7_cut_85, w_X7_cut_88, w_X7_cut_91, w_X7_cut_93, w_X7_cut_94, w_X7_cut_95, w_X7_cut_96, w_X7_cut_97, w_X7_cut_98, w_X7_cut_101, w_X7_cut_103, w_X7_cut_104, w_X7_cut_105, w_X7_cut_106, w_X7_cut_107, w_X7_cut_110, w_X7_cut_112, w_X7_cut_113, w_X7_cut_116, w_X7_cut_118, w_X7_cut_121, w_X7_cut_122, w_X7_cut_123, w_X7_cut_126, w_X7_cut_129, w_X7_cut_130, h.2.1]
    rw [shl1 (by omega), if_neg (fun q => by rw [kLe (by omega) (by omega)] at q; omega)]
    refine F_cut_l h (by omega) ?_ (nM N) 0 (by omega)
    have hcr : crs N j ≤ nM N := cnt_le
    rw [w_X7_cut_39]
    simp only [w_X7_cut_0, w_X7_cut_1, w_X7_cut_2, w_X7_cut_5, w_X7_cut_6, w_X7_cut_7, w_X7_cut_8, w_X7_cut_11, w_X7_cut_14, w_X7_cut_15, w_X7_cut_16, w_X7_cut_18, w_X7_cut_19, w_X7_cut_20, w_X7_cut_24, w_X7_cut_25, w_X7_cut_26, w_X7_cut_29, w_X7_cut_30, w_X7_cut_33, w_X7_cut_34, w_X7_cut_36, w_X7_cut_37, w_X7_cut_41, w_X7_cut_42, w_X7_cut_45, w_X7_cut_48, w_X7_cut_50, w_X7_cut_52, w_X7_cut_53, w_X7_cut_56, w_X7_cut_58, w_X7_cut_59, w_X7_cut_60, w_X7_cut_61, w_X7_cut_62, w_X7_cut_64, w_X7_cut_65, w_X7_cut_68, w_X7_cut_70, w_X7_cut_71, w_X7_cut_72, w_X7_cut_73, w_X7_cut_74, w_X7_cut_77, w_X7_cut_78, w_X7_cut_81, w_X7_cut_82, w_X7_cut_83, w_X7_cut_85, w_X7_cut_88, w_X7_cut_91, w_X7_cut_93, w_X7_cut_94, w_X7_cut_95, w_X7_cut_96, w_X7_cut_97, w_X7_cut_98, w_X7_cut_101, w_X7_cut_103, w_X7_cut_104, w_X7_cut_105, w_X7_cut_106, w_X7_cut_107, w_X7_cut_110, w_X7_cut_112, w_X7_cut_113, w_X7_cut_116, w_X7_cut_118, w_X7_cut_121, w_X7_cut_122, w_X7_cut_123, w_X7_cut_126, w_X7_cut_129, w_X7_cut_130, h.2.2.1]
    rw [if_pos (Int32.le_refl _)]
    simp (disch := omega) only [bt_ask (nI j) (show x < 32 by omega), bt_ask (nI j) (show y < 32 by omega), bi_1, bi_0, kLe, nI_1]
    have hs : mnC N x y (j + 1) = (if bt (nI j) x = true ∧ bt (nI j) y = false ∧ crs N j < mnC N x y j then crs N j else mnC N x y j) := rfl
    rw [hs] at ih
    cases bx : bt (nI j) x with
    | false => rw [if_pos (by decide)]; rw [if_neg (fun q => by rw [bx] at q; cases q.1)] at ih; exact ih _ _
    | true =>
      rw [if_neg (by decide)]
      cases b2 : bt (nI j) y with
      | true => rw [if_pos (by decide)]; rw [if_neg (fun q => by rw [b2] at q; cases q.2.1)] at ih; exact ih _ _
      | false =>
        rw [if_neg (by decide)]
        by_cases cc : mnC N x y j ≤ crs N j
        · rw [if_pos cc]; rw [if_neg (fun q => by omega)] at ih; exact ih _ _
        · rw [if_neg cc]; rw [if_pos ⟨bx, b2, by omega⟩] at ih; exact ih _ _
theorem P_cut (hM : MI d N wt wh) (kk : ∀ d' : mS, MI d' N wt wh → Q (some (qCut N a b)) d') : WP mLayM 154 0 [some (.ref 0), some (.int a), some (.int b), none, none, none, none] [] d Q := by
  have h0 := MI_0 (v := 0) hM
  simp only [w_X7_cut_0, w_X7_cut_1, w_X7_cut_2, w_X7_cut_5, w_X7_cut_6, w_X7_cut_7, w_X7_cut_8, w_X7_cut_11, w_X7_cut_14, w_X7_cut_15, w_X7_cut_16, w_X7_cut_18, w_X7_cut_19, w_X7_cut_20, w_X7_cut_24, w_X7_cut_25, w_X7_cut_26, w_X7_cut_29, w_X7_cut_30, w_X7_cut_33, w_X7_cut_34, w_X7_cut_36, w_X7_cut_37, w_X7_cut_41, w_X7_cut_42, w_X7_cut_45, w_X7_cut_48, w_X7_cut_50, w_X7_cut_52, w_X7_cut_53, w_X7_cut_56, w_X7_cut_58, w_X7_cut_59, w_X7_cut_60, w_X7_cut_61, w_X7_cut_62, w_X7_cut_64, w_X7_cut_65, w_X7_cut_68, w_X7_cut_70, w_X7_cut_71, w_X7_cut_72, w_X7_cut_73, w_X7_cut_74, w_X7_cut_77, w_X7_cut_78, w_X7_cut_81, w_X7_cut_82, w_X7_cut_83, w_X7_cut_85, w_X7_cut_88, w_X7_cut_91, w_X7_cut_93, w_X7_cut_94, w_X7_cut_95, w_X7_cut_96, w_X7_cut_97, w_X7_cut_98, w_X7_cut_101, w_X7_cut_103, w_X7_cut_104, w_X7_cut_105, w_X7_cut_106, w_X7_cut_107, w_X7_cut_110, w_X7_cut_112, w_X7_cut_113, w_X7_cut_116, w_X7_cut_118, w_X7_cut_121, w_X7_cut_122, w_X7_cut_123, w_X7_cut_126, w_X7_cut_129, w_X7_cut_130]
  rw [M_isPair h0, mKI_some, two_pair hM.1]
  unfold qCut at kk
  cases ht : two N a b with
  | none => rw [ht] at kk; rw [bi_f, if_neg (by decide)]; exact kk _ h0
  | some q =>
    obtain ⟨x, y⟩ := q
    obtain ⟨rfl, rfl, hx, hy⟩ := two_some hM.1 ht
    rw [ht] at kk
    dsimp only at kk ⊢
    by_cases e : x = y
    · rw [if_pos e] at kk; rw [if_neg (fun q => q (by simp [e, bi]))]; exact kk _ h0
    · rw [if_neg e] at kk
      rw [if_pos (by simp [e, bi])]
      exact F_cut_s hx hy h0 (kk _ h0) (2 ^ nN N) 0 none none (by omega)
end MOU
