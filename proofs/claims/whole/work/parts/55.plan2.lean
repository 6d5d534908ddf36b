/-! the class: aim -/
noncomputable def mtP (N : Nt) (s x : Nat) : Bool := decide (x ≠ s ∧ fr N s x < INF)
def otP (N : Nt) (s e u : Nat) : Bool := decide (u ≠ e) && (lk N s u).isSome
def PLn (c : mS) (N : Nt) (s dd e l n : Nat) : Prop := JI c s dd e l (nC N l) ∧ c 3 5 = mkS (mtP N s) n ∧ c 3 6 = mkS (otP N s e) n ∧ c 3 7 = mkS (onP N s dd 0) n ∧ c 3 8 = mkS (onP N s dd 1) n ∧ c 3 9 = mkS (onP N s dd 2) n ∧ c 3 10 = mkS (onP N s dd 3) n
def PL (c : mS) (N : Nt) (s dd e l : Nat) : Prop := PLn c N s dd e l (nN N)
section PL2
variable {c : mS} {N : Nt} {wt wh : Nat} {Q : Option Int32 → mS → Prop} {s dd e l : Nat} {a b : Int32}
theorem onP_ot (hx : HX N s dd e l) {w u : Nat} : onP N s dd w u = (otP N s e u && soP N s dd e u w) := by
  unfold onP otP
  rw [hx.2.2.2.1]
theorem aim_loop (hx : HX N s dd e l) : ∀ (k n : Nat) (c : mS), n + k = nN N → CS c N wt wh → PLn c N s dd e l n → (∀ c' : mS, but1 3 c c' → PL c' N s dd e l → Q (some 1) c') →
    WP mLayH 45 65 [some (.ref 3), some (.ref 1), some (.int (nI s)), some (.int (nI dd)), some (.int (nI e)), some (.int (nI l)), some (.int (nI n))] [] c Q := by
  intro k
  induction k with
  | zero =>
    intro n c hn h hP kk
    have hN := h.1.1
    have h12 := hN.2.1
    rw [w_X5_aim_65]
    simp only [w_X5_aim_0, w_X5_aim_1, w_X5_aim_2, w_X5_aim_3, w_X5_aim_6, w_X5_aim_8, w_X5_aim_9, w_X5_aim_10, w_X5_aim_12, w_X5_aim_15, w_X5_aim_17, w_X5_aim_19, w_X5_aim_20, w_X5_aim_23, w_X5_aim_24, w_X5_aim_25, w_X5_aim_26, w_X5_aim_27, w_X5_aim_30, w_X5_aim_31, w_X5_aim_32, w_X5_aim_35, w_X5_aim_36, w_X5_aim_38, w_X5_aim_41, w_X5_aim_42, w_X5_aim_44, w_X5_aim_47, w_X5_aim_48, w_X5_aim_49, w_X5_aim_52, w_X5_aim_54, w_X5_aim_55, w_X5_aim_58, w_X5_aim_59, w_X5_aim_62, w_X5_aim_63, w_X5_aim_67, w_X5_aim_68, w_X5_aim_71, w_X5_aim_74, w_X5_aim_76, w_X5_aim_77, w_X5_aim_80, w_X5_aim_83, w_X5_aim_84, w_X5_aim_87, w_X5_aim_88, w_X5_aim_91, w_X5_aim_92, w_X5_aim_94, w_X5_aim_95, w_X5_aim_97, w_X5_aim_100, w_X5_aim_101, w_X5_aim_102, w_X5_aim_105, w_X5_aim_106, w_X5_aim_108, w_X5_aim_109, w_X5_aim_110, w_X5_aim_113, w_X5_aim_115, w_X5_aim_116, w_X5_aim_119, w_X5_aim_122, w_X5_aim_123, w_X5_aim_124, w_X5_aim_127, w_X5_aim_129, w_X5_aim_132, w_X5_aim_133, w_X5_aim_136, w_X5_aim_137, w_X5_aim_138, w_X5_aim_140, w_X5_aim_141, w_X5_aim_142, w_X5_aim_145, w_X5_aim_147, w_X5_aim_150, w_X5_aim_153, w_X5_aim_156, w_X5_aim_159, w_X5_aim_160, h.1.2.1, true_or, or_true, true_and]
    rw [if_pos ((kLe (by omega) (by omega)).mpr (by omega))]
    rw [show n = nN N by omega] at hP
    exact kk c but1_rf hP
  | succ k ih =>
    intro n c hn h hP kk
    have hN := h.1.1
    have h12 := hN.2.1
    have h24 := hN.2.2.1
    have hi : INF = 1000000 := rfl
    obtain ⟨hs, hd, he, hnx, hlk, hl⟩ := hx
    have hx : HX N s dd e l := ⟨hs, hd, he, hnx, hlk, hl⟩
    have hnn : n < nN N := by omega
    have f1 := fr_inf hN hs hnn
    obtain ⟨hJ, p5, p6, p7, p8, p9, p10⟩ := hP
    -- the second half, from any state in which the mates are told
    have half : ∀ c1 : mS, but1 3 c c1 → JI c1 s dd e l (nC N l) → c1 3 5 = mkS (mtP N s) (n + 1) → c1 3 6 = mkS (otP N s e) n → c1 3 7 = mkS (onP N s dd 0) n → c1 3 8 = mkS (onP N s dd 1) n → c1 3 9 = mkS (onP N s dd 2) n → c1 3 10 = mkS (onP N s dd 3) n →
        WP mLayH 45 113 [some (.ref 3), some (.ref 1), some (.int (nI s)), some (.int (nI dd)), some (.int (nI e)), some (.int (nI l)), some (.int (nI n))] [] c1 Q := by
      intro c1 b1 j1 q5 q6 q7 q8 q9 q10
      have h1 : CS c1 N wt wh := CS_scr h (scr_but b1 (by omega))
      simp only [w_X5_aim_113, w_X5_aim_115, w_X5_aim_116, w_X5_aim_119, w_X5_aim_122, w_X5_aim_123, w_X5_aim_124, w_X5_aim_127, w_X5_aim_129, w_X5_aim_132, w_X5_aim_133, w_X5_aim_136, w_X5_aim_137, w_X5_aim_138, w_X5_aim_140, w_X5_aim_141, w_X5_aim_142, w_X5_aim_145, w_X5_aim_147, w_X5_aim_150, w_X5_aim_153, w_X5_aim_156, j1.1, j1.2.2.1, C_link h1.1 hs hnn, mKI_some, nI_1]
      simp (disch := omega) only [kEq]
      have skip : otP N s e n = false → WP mLayH 45 65 [some (.ref 3), some (.ref 1), some (.int (nI s)), some (.int (nI dd)), some (.int (nI e)), some (.int (nI l)), some (.int (nI (n + 1)))] [] c1 Q := by
        intro ho
        refine ih (n + 1) c1 (by omega) h1 ⟨j1, q5, ?_, ?_, ?_, ?_, ?_⟩ (fun c2 b2 b3 => kk c2 (but1_tr b1 b2) b3)
        · rw [q6, mkS_o, ho, oneN_f]
        · rw [q7, mkS_o, onP_ot hx, ho, Bool.false_and, oneN_f]
        · rw [q8, mkS_o, onP_ot hx, ho, Bool.false_and, oneN_f]
        · rw [q9, mkS_o, onP_ot hx, ho, Bool.false_and, oneN_f]
        · rw [q10, mkS_o, onP_ot hx, ho, Bool.false_and, oneN_f]
      by_cases e1 : n = e
      · rw [if_pos e1]
        exact skip (by unfold otP; rw [decide_eq_false (fun z => z e1), Bool.false_and])
      · rw [if_neg e1]
        cases hl2 : lk N s n with
        | none =>
          rw [en_none, if_pos rfl]
          exact skip (by unfold otP; rw [hl2]; exact Bool.and_false _)
        | some l2 =>
          have hlm := (lk_some hl2).1
          have ho : otP N s e n = true := by unfold otP; rw [hl2, decide_eq_true e1]; rfl
          rw [en_some, if_neg (fun q => (kNe (by omega)).mp q), C_judge h1 j1 hx hl2 hnn, mKV_none]
          refine ih (n + 1) _ (by omega) (jU_S (jU_S (jU_S (jU_S (jU_S h1))))) ⟨jU_J (jU_J (jU_J (jU_J (jU_J j1 (by decide)) (by decide)) (by decide)) (by decide)) (by decide), ?_, ?_, ?_, ?_, ?_, ?_⟩ (fun c2 b2 b3 => kk c2 (but1_tr b1 (but1_tr (but1_tr (but1_tr (but1_tr (but1_tr jU_b jU_b) jU_b) jU_b) jU_b) b2)) b3)
          · simp (disch := decide) only [jU_j]; exact q5
          · simp (disch := decide) only [jU_j, jU_s]; rw [q6, mkS_o, ho]
          · simp (disch := decide) only [jU_j, jU_s]; rw [q7, mkS_o, onP_ot hx, ho, Bool.true_and]
          · simp (disch := decide) only [jU_j, jU_s]; rw [q8, mkS_o, onP_ot hx, ho, Bool.true_and]
          · simp (disch := decide) only [jU_j, jU_s]; rw [q9, mkS_o, onP_ot hx, ho, Bool.true_and]
          · simp (disch := decide) only [jU_j, jU_s]; rw [q10, mkS_o, onP_ot hx, ho, Bool.true_and]
    rw [w_X5_aim_65]
    simp only [w_X5_aim_67, w_X5_aim_68, w_X5_aim_71, w_X5_aim_74, w_X5_aim_76, w_X5_aim_77, w_X5_aim_80, w_X5_aim_83, w_X5_aim_84, w_X5_aim_87, w_X5_aim_88, w_X5_aim_91, w_X5_aim_92, w_X5_aim_94, w_X5_aim_95, w_X5_aim_97, w_X5_aim_100, w_X5_aim_101, w_X5_aim_102, w_X5_aim_105, w_X5_aim_106, w_X5_aim_108, w_X5_aim_109, w_X5_aim_110, h.1.2.1, hJ.1]
    rw [if_neg (fun q => by rw [kLe (by omega) (by omega)] at q; omega), show (1000000 : Int32) = nI INF from rfl]
    simp (disch := omega) only [kIn, kCl, kEq, CS_far h hs hnn, kLe, show s < 12 by omega, show n < 12 by omega, show s < 36 by omega, true_and]
    have no : mtP N s n = false → WP mLayH 45 113 [some (.ref 3), some (.ref 1), some (.int (nI s)), some (.int (nI dd)), some (.int (nI e)), some (.int (nI l)), some (.int (nI n))] [] c Q :=
      fun hm => half c but1_rf hJ (by rw [p5, mkS_o, hm, oneN_f]) p6 p7 p8 p9 p10
    by_cases e1 : n = s
    · rw [if_pos e1]
      exact no (decide_eq_false (fun z => z.1 e1))
    · rw [if_neg e1]
      by_cases e2 : INF ≤ fr N s n
      · rw [if_pos e2]
        exact no (decide_eq_false (fun z => by omega))
      · rw [if_neg e2]
        have hm : mtP N s n = true := decide_eq_true ⟨e1, by omega⟩
        refine half _ but1_up (JI_up hJ (by decide)) ?_ ?_ ?_ ?_ ?_ ?_
        · rw [mUp_s, p5, mkS_o, hm]; rfl
        · rw [mUp_j (by decide)]; exact p6
        · rw [mUp_j (by decide)]; exact p7
        · rw [mUp_j (by decide)]; exact p8
        · rw [mUp_j (by decide)]; exact p9
        · rw [mUp_j (by decide)]; exact p10
theorem wnx_HX (hN : Nok N) (h : wnx N a b = some (s, dd, e, l)) : HX N s dd e l ∧ a = nI s ∧ b = nI dd := by
  unfold wnx at h
  cases h2 : two N a b with
  | none => rw [h2] at h; cases h
  | some p =>
    obtain ⟨x, y⟩ := p
    rw [h2] at h
    dsimp only at h
    obtain ⟨ha, hb, hx, hy⟩ := two_some hN h2
    cases hn : nx N none y x with
    | none => rw [hn] at h; cases h
    | some e' =>
      rw [hn] at h
      cases h
      obtain ⟨l', hl'⟩ := HX_of hx hy hn
      refine ⟨?_, ha, hb⟩
      rw [hl'.2.2.2.2.1]
      exact hl'
theorem lkI_neg {a : Int32} : lkI N a (-1) = none := by
  unfold lkI two
  rw [ix_neg (show (-1 : Int32) < 0 by decide)]
  cases ix (nN N) a <;> rfl
theorem C_aim (h : CS c N wt wh) (k0 : wnx N a b = none → Q (some 0) c) (k1 : ∀ (s dd e l : Nat) (c' : mS), wnx N a b = some (s, dd, e, l) → a = nI s → b = nI dd → HX N s dd e l → but1 3 c c' → PL c' N s dd e l → Q (some 1) c') :
    WP mLayH 45 0 [some (.ref 3), some (.ref 1), some (.int a), some (.int b), none, none, none] [] c Q := by
  have hN := h.1.1
  have h12 := hN.2.1
  have h24 := hN.2.2.1
  simp only [w_X5_aim_0, w_X5_aim_1, w_X5_aim_2, w_X5_aim_3, w_X5_aim_6, w_X5_aim_8, w_X5_aim_9, w_X5_aim_10, w_X5_aim_12, w_X5_aim_15, w_X5_aim_17, w_X5_aim_19, w_X5_aim_20, w_X5_aim_23, w_X5_aim_24, w_X5_aim_25, w_X5_aim_26, w_X5_aim_27, w_X5_aim_30, w_X5_aim_31, w_X5_aim_32, w_X5_aim_35, w_X5_aim_36, w_X5_aim_38, w_X5_aim_41, w_X5_aim_42, w_X5_aim_44, w_X5_aim_47, w_X5_aim_48, w_X5_aim_49, w_X5_aim_52, w_X5_aim_54, w_X5_aim_55, w_X5_aim_58, w_X5_aim_59, w_X5_aim_62, w_X5_aim_63, w_X5_aim_67, w_X5_aim_68, w_X5_aim_71, w_X5_aim_74, w_X5_aim_76, w_X5_aim_77, w_X5_aim_80, w_X5_aim_83, w_X5_aim_84, w_X5_aim_87, w_X5_aim_88, w_X5_aim_91, w_X5_aim_92, w_X5_aim_94, w_X5_aim_95, w_X5_aim_97, w_X5_aim_100, w_X5_aim_101, w_X5_aim_102, w_X5_aim_105, w_X5_aim_106, w_X5_aim_108, w_X5_aim_109, w_X5_aim_110, w_X5_aim_113, w_X5_aim_115, w_X5_aim_116, w_X5_aim_119, w_X5_aim_122, w_X5_aim_123, w_X5_aim_124, w_X5_aim_127, w_X5_aim_129, w_X5_aim_132, w_X5_aim_133, w_X5_aim_136, w_X5_aim_137, w_X5_aim_138, w_X5_aim_140, w_X5_aim_141, w_X5_aim_142, w_X5_aim_145, w_X5_aim_147, w_X5_aim_150, w_X5_aim_153, w_X5_aim_156, w_X5_aim_159, w_X5_aim_160, C_hop h, C_linkAt h.1, mKI_some, true_or, or_true, true_and]
  rcases two_cs hN a b with ⟨h1, -⟩ | ⟨x, y, rfl, rfl, hx, hy⟩
  · have e1 : qNext N a b = -1 := by unfold qNext; rw [h1]
    rw [e1, lkI_neg, en_none, if_neg (fun q => q rfl)]
    exact k0 (by unfold wnx; rw [h1])
  · rw [qNext_nI hN hx hy]
    cases hn : nx N none y x with
    | none =>
      rw [en_none, lkI_neg, en_none, if_neg (fun q => q rfl)]
      exact k0 (by unfold wnx; rw [two_nI hN hx hy]; dsimp only; rw [hn])
    | some e =>
      obtain ⟨l, hH⟩ := HX_of hx hy hn
      have he := hH.2.2.1
      have hl := hH.2.2.2.2.2
      have hw : wnx N (nI x) (nI y) = some (x, y, e, l) := by
        unfold wnx; rw [two_nI hN hx hy]; dsimp only; rw [hn]; dsimp only; rw [hH.2.2.2.2.1]; rfl
      rw [en_some, lkI_nI hN hx he, hH.2.2.2.2.1, en_some, if_pos (fun q => (kNe (by omega)).mp q)]
      simp (disch := omega) only [w_X5_forgetOnes_0, w_X5_forgetOnes_1, w_X5_forgetOnes_2, w_X5_forgetOnes_5, w_X5_forgetOnes_6, w_X5_forgetOnes_7, w_X5_forgetOnes_10, w_X5_forgetOnes_11, w_X5_forgetOnes_12, w_X5_forgetOnes_15, w_X5_forgetOnes_16, w_X5_forgetOnes_17, w_X5_forgetOnes_20, w_X5_forgetOnes_21, w_X5_forgetOnes_22, w_X5_forgetOnes_25, w_X5_forgetOnes_26, w_X5_forgetOnes_27, w_X5_forgetOnes_30, kIn, kCl, mUp_k, (h.1.2.2.2.1 l hl).2.2.1, show l < 24 by omega, true_and, mKV_none]
      refine aim_loop hH (nN N) 0 _ (by omega) (CS_scr h ?_) ⟨⟨?_, ?_, ?_, ?_, ?_⟩, ?_, ?_, ?_, ?_, ?_, ?_⟩ (fun c1 b1 b2 => k1 x y e l c1 hw rfl rfl hH (but1_tr ?_ b1) b2)
      · intro k hk _; simp (disch := omega) only [mUp_kf]
      · simp (disch := decide) only [mUp_j, mUp_s]
      · simp (disch := decide) only [mUp_j, mUp_s]
      · simp (disch := decide) only [mUp_j, mUp_s]
      · simp (disch := decide) only [mUp_j, mUp_s]
      · simp (disch := decide) only [mUp_j, mUp_s]
      · simp (disch := decide) only [mUp_j, mUp_s]; rfl
      · simp (disch := decide) only [mUp_j, mUp_s]; rfl
      · simp (disch := decide) only [mUp_j, mUp_s]; rfl
      · simp (disch := decide) only [mUp_j, mUp_s]; rfl
      · simp (disch := decide) only [mUp_j, mUp_s]; rfl
      · simp (disch := decide) only [mUp_j, mUp_s]; rfl
      · intro k hk; simp (disch := omega) only [mUp_kf]
end PL2
