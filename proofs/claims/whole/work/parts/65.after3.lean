/-! the class: GOES ROUND, SPARE -/
section AF3
variable {c : mS} {N : Nt} {wt wh : Nat} {Q : Option Int32 → mS → Prop} {a b a1 : Int32} {l dd v : Nat}
theorem end_loop {f : Nat → Option Nat} (h : CB c N wt wh) (hf : ∀ x y, x < nN N → f x = some y → y < nN N) (hh : ∀ x, x < nN N → c 16 x = en (f x)) {v0 : Int32} : ∀ (k st at' : Nat), st + k = nN N → at' < nN N →
    (WP mLayH 9 5 [some (.ref 5), some (.ref 1), some (.int v0), some (.int (nI at')), some (.int (nI st))] [] c Q ↔ Q (some (bi (itF f k at').isNone)) c) := by
  have h12 := h.1.2.1
  intro k
  induction k with
  | zero =>
    intro st at' hst hat
    rw [w_X0_comesToAnEnd_5]
    simp only [w_X0_comesToAnEnd_7, w_X0_comesToAnEnd_8, w_X0_comesToAnEnd_11, w_X0_comesToAnEnd_14, w_X0_comesToAnEnd_15, w_X0_comesToAnEnd_18, w_X0_comesToAnEnd_19, w_X0_comesToAnEnd_20, w_X0_comesToAnEnd_21, w_X0_comesToAnEnd_22, w_X0_comesToAnEnd_23, w_X0_comesToAnEnd_26, w_X0_comesToAnEnd_27, w_X0_comesToAnEnd_28, w_X0_comesToAnEnd_31, w_X0_comesToAnEnd_34, w_X0_comesToAnEnd_35, h.2.1, true_or, or_true, true_and]
    rw [if_pos ((kLe (by omega) (by omega)).mpr (by omega))]
    exact Iff.rfl
  | succ k ih =>
    intro st at' hst hat
    rw [w_X0_comesToAnEnd_5]
    simp (disch := omega) only [w_X0_comesToAnEnd_7, w_X0_comesToAnEnd_8, w_X0_comesToAnEnd_11, w_X0_comesToAnEnd_14, w_X0_comesToAnEnd_15, w_X0_comesToAnEnd_18, w_X0_comesToAnEnd_19, w_X0_comesToAnEnd_20, w_X0_comesToAnEnd_21, w_X0_comesToAnEnd_22, w_X0_comesToAnEnd_23, w_X0_comesToAnEnd_26, w_X0_comesToAnEnd_27, w_X0_comesToAnEnd_28, w_X0_comesToAnEnd_31, w_X0_comesToAnEnd_34, w_X0_comesToAnEnd_35, h.2.1, kIn, kCl, hh at' hat, show at' < 12 by omega, true_or, or_true, true_and, nI_1]
    rw [if_neg (fun q => by rw [kLe (by omega) (by omega)] at q; omega)]
    unfold itF
    cases hn : f at' with
    | none => rw [en_none, if_neg (fun q => q rfl)]; exact Iff.rfl
    | some u =>
      have hu := hf at' u hat hn
      rw [en_some, if_pos (fun q => (kNe (by omega)).mp q)]
      exact ih (st + 1) u (by omega) hu
theorem rdN_lt {set : Int32} {x y : Nat} (h : rdN N l dd set x = some y) : y < nN N := by
  unfold rdN at h
  split at h
  · exact (nx_some h).1
  · exact (nx_some h).1
theorem circ_bits {set : Int32} (h : CS c N wt wh) (hh : ∀ x, x < nN N → c 16 x = en (rdN N l dd set x)) {l0 d0 : Int32} : ∀ (k j : Nat), j + k = nN N →
    (WP mLayH 8 72 [some (.ref 5), some (.ref 1), some (.int l0), some (.int d0), some (.int set), some (.int (mkS (fun v => (itF (rdN N l dd set) 12 v).isSome) j)), some (.int (nI j))] [] c Q ↔ Q (some (mkS (fun v => (itF (rdN N l dd set) 12 v).isSome) (nN N))) c) := by
  have h12 := h.1.1.2.1
  intro k
  induction k with
  | zero =>
    intro j hj
    rw [w_X0_circling_72]
    simp only [w_X0_circling_74, w_X0_circling_75, w_X0_circling_78, w_X0_circling_81, w_X0_circling_82, w_X0_circling_83, w_X0_circling_85, w_X0_circling_88, w_X0_circling_91, w_X0_circling_93, w_X0_circling_94, w_X0_circling_96, w_X0_circling_97, w_X0_circling_98, w_X0_circling_100, w_X0_circling_103, w_X0_circling_106, w_X0_circling_108, h.1.2.1]
    rw [if_pos ((kLe (by omega) (by omega)).mpr (by omega)), show j = nN N by omega]
  | succ k ih =>
    intro j hj
    have hjn : j < nN N := by omega
    have hf : ∀ x y, x < nN N → rdN N l dd set x = some y → y < nN N := fun x y _ q => rdN_lt q
    rw [w_X0_circling_72]
    simp only [w_X0_circling_74, w_X0_circling_75, w_X0_circling_78, w_X0_circling_81, w_X0_circling_82, w_X0_circling_83, w_X0_circling_85, w_X0_circling_88, w_X0_circling_91, w_X0_circling_93, w_X0_circling_94, w_X0_circling_96, w_X0_circling_97, w_X0_circling_98, w_X0_circling_100, w_X0_circling_103, w_X0_circling_106, w_X0_circling_108, w_X0_comesToAnEnd_0, w_X0_comesToAnEnd_1, w_X0_comesToAnEnd_2, w_X0_comesToAnEnd_3, h.1.2.1, nI_1]
    rw [if_neg (fun q => by rw [kLe (by omega) (by omega)] at q; omega), ← ih (j + 1) (by omega), mkS_o]
    rw [show (0 : Int32) = nI 0 from rfl, end_loop h.1 hf hh (nN N) 0 j (by omega) hjn, mKI_some]
    have e := itF_12 hf h12 hjn
    rw [← e]
    cases itF (rdN N l dd set) (nN N) j with
    | none => rw [if_pos (show ¬ bi (none : Option Nat).isNone = nI 0 from bt1)]; exact (by rw [show oneN (none : Option Nat).isSome j = 0 from rfl, or0])
    | some y => rw [if_neg (fun q => q (show bi (some y).isNone = nI 0 from rfl))]; exact Iff.rfl
theorem circ_hops {set : Int32} (hl : l < nM N) (hd : dd < nN N) : ∀ (k j : Nat) (c : mS), j + k = nN N → CS c N wt wh → RW c 15 N (gd N (some l) dd) → (∀ x, x < j → c 16 x = en (rdN N l dd set x)) →
    (∀ c' : mS, but1 16 c c' → Q (some (mkS (fun v => (itF (rdN N l dd set) 12 v).isSome) (nN N))) c') →
    WP mLayH 8 13 [some (.ref 5), some (.ref 1), some (.int (nI l)), some (.int (nI dd)), some (.int set), some (.int (nI j)), none] [] c Q := by
  intro k
  induction k with
  | zero =>
    intro j c hj h hR hh kk
    have h12 := h.1.1.2.1
    rw [w_X0_circling_13]
    simp only [w_X0_circling_15, w_X0_circling_16, w_X0_circling_19, w_X0_circling_66, w_X0_circling_67, w_X0_circling_69, w_X0_circling_70, h.1.2.1]
    rw [if_pos ((kLe (by omega) (by omega)).mpr (by omega))]
    exact (circ_bits h (fun x hx => hh x (by omega)) (nN N) 0 (by omega)).mpr (kk c but1_rf)
  | succ k ih =>
    intro j c hj h hR hh kk
    have hN := h.1.1
    have h12 := hN.2.1
    have h24 := hN.2.2.1
    have hjn : j < nN N := by omega
    have hbl : ∀ q, some l = some q → q < 24 := fun q hq => by cases hq; omega
    have nxt : ∀ x, x = en (rdN N l dd set j) → WP mLayH 8 13 [some (.ref 5), some (.ref 1), some (.int (nI l)), some (.int (nI dd)), some (.int set), some (.int (nI (j + 1))), none] [] (mUp c 16 j x) Q := by
      intro x hx
      have hb : but1 16 c (mUp c 16 j x) := but1_up
      refine ih (j + 1) _ (by omega) (CS_scr h (scr_but hb (by omega))) (fun v hv => by rw [hb 15 (by decide)]; exact hR v hv) (fun z hz => ?_) (fun c2 b2 => kk c2 (but1_tr hb b2))
      by_cases e : z = j
      · subst e; rw [mUp_s]; exact hx
      · rw [mUp_j e]; exact hh z (by omega)
    rw [w_X0_circling_13]
    simp only [w_X0_circling_15, w_X0_circling_16, w_X0_circling_19, w_X0_circling_22, w_X0_circling_23, w_X0_circling_26, w_X0_circling_28, w_X0_circling_30, w_X0_circling_32, w_X0_circling_35, w_X0_circling_38, w_X0_circling_39, w_X0_circling_40, w_X0_circling_43, w_X0_circling_45, w_X0_circling_46, w_X0_circling_49, w_X0_circling_52, w_X0_circling_53, w_X0_circling_55, w_X0_circling_56, w_X0_circling_59, w_X0_circling_60, w_X0_circling_63, h.1.2.1, c_has (show j < 32 by omega), mKI_some, C_hopN h hjn hd, nI_1]
    rw [if_neg (fun q => by rw [kLe (by omega) (by omega)] at q; omega)]
    unfold rdN at nxt
    cases hs : bt set j with
    | false =>
      rw [hs, if_neg Bool.false_ne_true] at nxt
      rw [if_pos bf0, kIn (by omega), kCl (by omega)]
      exact ⟨by omega, nxt _ rfl⟩
    | true =>
      rw [hs, if_pos rfl] at nxt
      rw [if_neg bt1]
      rw [show nI l = en (some l) from rfl]
      refine (C_hopBy lay15 h.1 hd hbl hR hjn).mpr ?_
      rw [mKI_some, kIn (by omega), kCl (by omega)]
      exact ⟨by omega, nxt _ rfl⟩
theorem D_round (h : CI c N wt wh) (kk : ∀ c' : mS, CI c' N wt wh → Q (some (qRound N a b a1)) c') : WP mLayH 79 0 [some (.ref 0), some (.int a), some (.int b), some (.int a1)] [] c Q := by
  have hN := h.1.1
  have h12 := hN.2.1
  have h24 := hN.2.2.1
  simp only [w_X6_round_0, w_X6_round_1, w_X6_round_4, w_X6_round_5, w_X6_round_8, w_X6_round_11, w_X6_round_12, w_X6_round_15, w_X6_round_16, w_X6_round_19, w_X6_round_22, w_X6_round_23, w_X6_round_24, w_X6_round_25, w_X6_round_28, w_X6_round_31, w_X6_round_32, w_X6_round_35, w_X6_round_36, w_X6_round_39, w_X6_round_40, w_X6_round_41, w_X6_round_42, w_X6_round_45, C_isLink h.1, C_isNode h.1, mKI_some]
  unfold qRound at kk
  cases hl : ix (nM N) a with
  | none => rw [hl] at kk; exact kk c h
  | some l =>
    rw [hl] at kk
    rw [if_neg bs1]
    cases hy : ix (nN N) b with
    | none => rw [hy] at kk; rw [if_neg (fun q => q rfl)]; exact kk c h
    | some y =>
      rw [hy] at kk
      obtain ⟨rfl, hlm⟩ := ix_some (by omega) hl
      obtain ⟨rfl, hyn⟩ := ix_some (by omega) hy
      rw [if_pos bs1]
      refine C_settle h (fun c1 h1 => ?_)
      simp only [mKV_none, w_X0_circling_0, w_X0_circling_1, w_X0_circling_2, w_X0_circling_5, w_X0_circling_6, w_X0_circling_7, w_X0_circling_10, w_X0_circling_11]
      rw [show nI l = en (some l) from rfl]
      refine C_measure (but := some l) lay15 (by decide) (by decide) h1.1 hyn (fun q hq => by cases hq; omega) (fun c2 b1 b2 => ?_)
      rw [mKV_none]
      have h2 := CS_scr h1 (scr_but b1 (by omega))
      refine circ_hops hlm hyn (nN N) 0 c2 (by omega) h2 b2 (fun x hx => by omega) (fun c3 b3 => ?_)
      rw [mKI_some]
      exact kk c3 (CS_I (CS_scr h2 (scr_but b3 (by omega))))
/-! SPARE -/
theorem gd_ge (hN : Nok N) {y : Nat} (hy : y < nN N) (hv : v < nN N) : gd N none y v ≤ gd N (some l) y v :=
  d_le hN (gd_is hN hy).1 (gd_0 hN hy) (fun w hw => gd_inf hN hy hw) (fun l' hl' _ => (gd_is (but := none) hN hy).2 l' hl' (fun q => by cases q)) _ v hv rfl
theorem gd_off (hN : Nok N) {y : Nat} (hy : y < nN N) : ∀ (k v : Nat), v < nN N → rk N none y v = k → gd N none y v < INF → onW N l y v = false → gd N (some l) y v ≤ gd N none y v := by
  intro k
  induction k using Nat.strongRecOn with
  | ind k ih =>
    intro v hv hk hi ho
    by_cases e : v = y
    · subst e; rw [gd_0 hN hy]; exact Nat.zero_le _
    · cases hn : nx N none y v with
      | none =>
        rcases (nx_none hN hy hv).mp hn with q | q
        · exact absurd q e
        · omega
      | some u =>
        rw [onW_eq hN hv, hn] at ho
        dsimp only at ho
        rw [Bool.or_eq_false_iff, decide_eq_false_iff_not] at ho
        obtain ⟨hu, l', hl', -, -, -, h6⟩ := nx_some hn
        have hr := nx_rk hN hn
        have h1 := ih _ (by omega) u hu rfl (by omega) ho.2
        obtain ⟨hlm, hj⟩ := lk_some hl'
        have h2 := gd_cl (but := some l) hN hy hlm (fun q => ho.1 (by rw [hl']; exact q)) hj
        omega
theorem spS_ge {x y : Nat} : ∀ {m j : Nat}, j < m → gd N (some j) y x ≤ spS N x y m
  | 0, j, h => absurd h (Nat.not_lt_zero j)
  | m + 1, j, h => by
    unfold spS
    by_cases e : j = m
    · subst e; split <;> omega
    · have := spS_ge (x := x) (y := y) (m := m) (j := j) (by omega)
      split <;> omega
theorem spS_fr {x y : Nat} : ∀ {m : Nat}, fr N x y ≤ spS N x y m
  | 0 => Nat.le_refl _
  | m + 1 => by
    unfold spS
    have := spS_fr (x := x) (y := y) (m := m)
    split <;> omega
theorem spS_le {x y B : Nat} (h0 : fr N x y ≤ B) : ∀ {m : Nat}, (∀ j, j < m → gd N (some j) y x ≤ B) → spS N x y m ≤ B
  | 0, _ => h0
  | m + 1, h => by
    unfold spS
    have h1 := spS_le h0 (m := m) (fun j hj => h j (by omega))
    have h2 := h m (by omega)
    split <;> omega
/-- what is asked for SPARE: none if a LINK's loss leaves no way -/
noncomputable def spO (N : Nt) (x y : Nat) : Nat := if spS N x y (nM N) < INF then spS N x y (nM N) - fr N x y else INF
theorem detour_loop {x y : Nat} (hx : x < nN N) (hy : y < nN N) (hfr : fr N x y < INF) : ∀ (k st at' w : Nat) (c : mS) (l8 l9 : Option Value), st + k = nN N → at' < nN N → fr N at' y < INF → rk N none y at' < k + 1 → (∀ l, l < nM N → onW N l y x = true → onW N l y at' = true ∨ gd N (some l) y x ≤ fr N x y + w) → (w = 0 ∨ ∃ l, l < nM N ∧ gd N (some l) y x = fr N x y + w) → fr N x y + w < INF → CS c N wt wh →
    (∀ c' : mS, but1 15 c c' → Q (some (nI (spO N x y))) c') →
    WP mLayH 10 29 [some (.ref 5), some (.ref 1), some (.int (nI x)), some (.int (nI y)), some (.int (nI (fr N x y))), some (.int (nI w)), some (.int (nI at')), some (.int (nI st)), l8, l9] [] c Q := by
  have hi : INF = 1000000 := rfl
  -- at the end
  have fin' : ∀ (w at' : Nat) (c : mS), Nok N → at' = y → (∀ l, l < nM N → onW N l y x = true → onW N l y at' = true ∨ gd N (some l) y x ≤ fr N x y + w) → (w = 0 ∨ ∃ l, l < nM N ∧ gd N (some l) y x = fr N x y + w) → fr N x y + w < INF → Q (some (nI (spO N x y))) c → Q (some (nI w)) c := by
    intro w at' c hN hat h1 h2 h3 kk
    have hoff : ∀ l, onW N l y at' = false := by
      intro l
      rw [onW_eq hN (by rw [hat]; exact hy), hat, (nx_none hN hy hy).mpr (Or.inl rfl)]
    have hall : ∀ l, l < nM N → gd N (some l) y x ≤ fr N x y + w := by
      intro l hl
      cases ho : onW N l y x with
      | false => have := gd_off hN hy _ x hx rfl hfr ho; unfold fr; omega
      | true =>
        rcases h1 l hl ho with q | q
        · rw [hoff l] at q; cases q
        · exact q
    have e1 : spS N x y (nM N) = fr N x y + w := by
      refine Nat.le_antisymm (spS_le (by omega) hall) ?_
      rcases h2 with q | ⟨l, hl, q⟩
      · rw [q]; exact spS_fr
      · rw [← q]; exact spS_ge hl
    have e2 : spO N x y = w := by unfold spO; rw [e1, if_pos h3]; omega
    rw [e2] at kk
    exact kk
  intro k
  induction k with
  | zero =>
    intro st at' w c l8 l9 hst hat hf hr h1 h2 h3 h kk
    have hN := h.1.1
    have h12 := hN.2.1
    have e : at' = y := by
      apply Classical.byContradiction
      intro q
      cases hn : nx N none y at' with
      | none =>
        rcases (nx_none hN hy hat).mp hn with z | z
        · exact q z
        · unfold fr at hf; omega
      | some u => have := nx_rk hN hn; omega
    rw [w_X0_worstDetour_29]
    simp only [w_X0_worstDetour_31, w_X0_worstDetour_32, w_X0_worstDetour_35, w_X0_worstDetour_102, w_X0_worstDetour_104, h.1.2.1]
    rw [if_pos ((kLe (by omega) (by omega)).mpr (by omega))]
    exact fin' w at' c hN e h1 h2 h3 (kk c but1_rf)
  | succ k ih =>
    intro st at' w c l8 l9 hst hat hf hr h1 h2 h3 h kk
    have hN := h.1.1
    have h12 := hN.2.1
    have h24 := hN.2.2.1
    rw [w_X0_worstDetour_29]
    simp only [w_X0_worstDetour_31, w_X0_worstDetour_32, w_X0_worstDetour_35, w_X0_worstDetour_38, w_X0_worstDetour_40, w_X0_worstDetour_41, w_X0_worstDetour_102, w_X0_worstDetour_104, h.1.2.1]
    rw [if_neg (fun q => by rw [kLe (by omega) (by omega)] at q; omega)]
    by_cases e : at' = y
    · rw [if_pos (by rw [e])]
      exact fin' w at' c hN e h1 h2 h3 (kk c but1_rf)
    · rw [if_neg (fun q => e ((kEq (by omega) (by omega)).mp q))]
      cases hn : nx N none y at' with
      | none =>
        rcases (nx_none hN hy hat).mp hn with z | z
        · exact absurd z e
        · unfold fr at hf; omega
      | some u =>
        obtain ⟨hu, l', hl', -, -, -, h6⟩ := nx_some hn
        have hlm := (lk_some hl').1
        have hrr := nx_rk hN hn
        have hge := gd_ge (l := l') hN hy hx
        have hgi := gd_inf (but := some l') hN hy hx
        simp only [w_X0_worstDetour_44, w_X0_worstDetour_45, w_X0_worstDetour_47, w_X0_worstDetour_48, w_X0_worstDetour_51, w_X0_worstDetour_53, w_X0_worstDetour_54, w_X0_worstDetour_55, w_X0_worstDetour_56, w_X0_worstDetour_58, w_X0_worstDetour_60, w_X0_worstDetour_63, w_X0_worstDetour_64, w_X0_worstDetour_65, C_hopN h hat hy, hn, en_some, C_link h.1 hat hu, hl', mKI_some]
        refine C_farWithout h.1 hlm hx hy (fun c1 b1 => ?_)
        rw [mKI_some]
        simp only [w_X0_worstDetour_68, w_X0_worstDetour_70, w_X0_worstDetour_72, w_X0_worstDetour_74, w_X0_worstDetour_77, w_X0_worstDetour_79, w_X0_worstDetour_80, w_X0_worstDetour_82, w_X0_worstDetour_84, w_X0_worstDetour_86, w_X0_worstDetour_87, w_X0_worstDetour_90, w_X0_worstDetour_92, w_X0_worstDetour_94, w_X0_worstDetour_96, w_X0_worstDetour_99, nI_1]
        rw [show (1000000 : Int32) = nI INF from rfl]
        by_cases z : gd N (some l') y x < INF
        · rw [if_pos ((kLt (by omega) (by omega)).mpr z)]
          have hfe : fr N x y = gd N none y x := rfl
          rw [pk_sub (show fr N x y ≤ gd N (some l') y x by rw [hfe]; exact hge)]
          have go : ∀ w', (gd N (some l') y x ≤ fr N x y + w') → w ≤ w' → (w' = 0 ∨ ∃ l, l < nM N ∧ gd N (some l) y x = fr N x y + w') → fr N x y + w' < INF → WP mLayH 10 29 [some (.ref 5), some (.ref 1), some (.int (nI x)), some (.int (nI y)), some (.int (nI (fr N x y))), some (.int (nI w')), some (.int (nI u)), some (.int (nI (st + 1))), some (.int (nI u)), some (.int (nI (gd N (some l') y x)))] [] c1 Q := by
            intro w' g1 g2 g3 g4
            refine ih (st + 1) u w' c1 _ _ (by omega) hu (by unfold fr; unfold fr at hf; omega) (by omega) (fun l hl ho => ?_) g3 g4 (CS_scr h (scr_but b1 (by omega))) (fun c2 b2 => kk c2 (but1_tr b1 b2))
            rcases h1 l hl ho with q | q
            · rw [onW_eq hN hat, hn] at q
              dsimp only at q
              rw [Bool.or_eq_true, decide_eq_true_iff] at q
              rcases q with q | q
              · rw [hl'] at q; cases q; exact Or.inr g1
              · exact Or.inl q
            · exact Or.inr (by omega)
          by_cases y' : w < gd N (some l') y x - fr N x y
          · rw [if_pos ((kLt (by omega) (by omega)).mpr y')]
            exact go _ (by omega) (by omega) (Or.inr ⟨l', hlm, by omega⟩) (by omega)
          · rw [if_neg (fun q => y' ((kLt (by omega) (by omega)).mp q))]
            exact go w (by omega) (Nat.le_refl _) h2 h3
        · rw [if_neg (fun q => z ((kLt (by omega) (by omega)).mp q))]
          have e2 : spO N x y = INF := by
            unfold spO
            have := spS_ge (N := N) (x := x) (y := y) hlm
            rw [if_neg (by omega)]
          have k2 := kk c1 b1
          rw [e2] at k2
          exact k2
theorem D_spare (h : CI c N wt wh) (kk : ∀ c' : mS, CI c' N wt wh → Q (some (qSpare N a b)) c') : WP mLayH 82 0 [some (.ref 0), some (.int a), some (.int b)] [] c Q := by
  have hN := h.1.1
  have h12 := hN.2.1
  have hi : INF = 1000000 := rfl
  simp only [w_X6_spare_0, w_X6_spare_1, w_X6_spare_4, w_X6_spare_5, w_X6_spare_6, w_X6_spare_9, w_X6_spare_12, w_X6_spare_13, w_X6_spare_14, w_X6_spare_15, w_X6_spare_18, w_X6_spare_21, w_X6_spare_22, w_X6_spare_25, w_X6_spare_26, w_X6_spare_29, w_X6_spare_30, w_X6_spare_31, w_X6_spare_34, w_X6_spare_37, C_areTwo h.1, mKI_some]
  unfold qSpare at kk
  rw [two_pair hN]
  rcases two_cs hN a b with ⟨h1, -⟩ | ⟨x, y, rfl, rfl, hx, hy⟩
  · rw [h1] at kk ⊢; exact kk c h
  · rw [two_nI hN hx hy] at kk ⊢
    dsimp only at kk ⊢
    by_cases e : x = y
    · rw [if_pos e] at kk
      rw [if_neg (fun q => q (bd0.mpr (fun z => z e)))]; exact kk c h
    · rw [if_neg e] at kk
      rw [if_pos (fun q => bd0.mp q e)]
      refine C_settle h (fun c1 h1 => ?_)
      have hf := fr_inf hN hx hy
      simp (disch := omega) only [mKV_none, w_X0_worstDetour_0, w_X0_worstDetour_1, w_X0_worstDetour_4, w_X0_worstDetour_5, w_X0_worstDetour_6, w_X0_worstDetour_7, w_X0_worstDetour_8, w_X0_worstDetour_10, w_X0_worstDetour_12, w_X0_worstDetour_14, w_X0_worstDetour_17, w_X0_worstDetour_19, w_X0_worstDetour_20, w_X0_worstDetour_21, w_X0_worstDetour_23, w_X0_worstDetour_24, w_X0_worstDetour_26, w_X0_worstDetour_27, kIn, kCl, CS_far h1 hx hy, show x < 12 by omega, show y < 12 by omega, show x < 36 by omega, true_and]
      rw [show (1000000 : Int32) = nI INF from rfl]
      by_cases z : fr N x y < INF
      · rw [if_pos ((kLt (by omega) (by omega)).mpr z)]
        have hr := rk_n (N := N) (but := none) (d := y) hx
        refine detour_loop hx hy z (nN N) 0 x 0 c1 none none (by omega) hx z (by omega) (fun l _ ho => Or.inl ho) (Or.inl rfl) (by omega) h1 (fun c2 b2 => ?_)
        rw [mKI_some]
        have hsb : spO N x y ≤ INF := by
          unfold spO
          split
          · omega
          · exact Nat.le_refl _
        rw [c_orNone hsb, mKI_some]
        have k2 := kk c2 (CS_I (CS_scr h1 (scr_but b2 (by omega))))
        unfold spO fin
        by_cases s : spS N x y (nM N) < INF
        · rw [if_pos s] at k2 ⊢
          rw [if_pos (by omega)]; exact k2
        · rw [if_neg s] at k2 ⊢
          rw [if_neg (Nat.lt_irrefl _)]; exact k2
      · rw [if_neg (fun q => z ((kLt (by omega) (by omega)).mp q)), mKI_some, c_orNone (Nat.le_refl _), mKI_some]
        have k2 := kk c1 (CS_I h1)
        have := spS_fr (N := N) (x := x) (y := y) (m := nM N)
        rw [if_neg (by omega)] at k2
        unfold fin
        rw [if_neg (Nat.lt_irrefl _)]; exact k2
end AF3
