/-! the class: safeSenders, covered -/
section CV3
variable {c : mS} {N : Nt} {wt wh : Nat} {Q : Option Int32 → mS → Prop} {a b a1 : Int32} {s dd e l g : Nat}
theorem mk_dn1 {m : Nat} (hm : m ≤ 32) (hl : l < m) : (1 <<< (nI l &&& 31) : Int32) = mkS (dn1 l) m := by
  apply b_ext
  intro i hi
  rw [bt_shl1 (by omega) hi, bt_mk hm hi]
  unfold dn1
  by_cases e : i = l
  · subst e; rw [decide_eq_true rfl, decide_eq_true hl]; rfl
  · rw [decide_eq_false e, Bool.and_false]
theorem within_loop {p : Nat → Bool} (h : CS c N wt wh) (hg : g < nN N) {a0 : Int32} : ∀ (k st : Nat) (o : Option Nat), st + k = nN N → (∀ u, o = some u → u < nN N) →
    (WP mLayH 29 6 [some (.ref 1), some (.int a0), some (.int (nI g)), some (.int (mkS p (nN N))), some (.int (en o)), some (.int (nI st))] [] c Q ↔ Q (some (bi (wW N g p k o))) c) := by
  have hN := h.1.1
  have h12 := hN.2.1
  have eqg : ∀ o : Option Nat, (∀ u, o = some u → u < nN N) → ((en o = nI g) ↔ o = some g) := fun o ho => en_eq (p := some g) (fun q hq => by have := ho q hq; omega) (fun q hq => by cases hq; omega)
  intro k
  induction k with
  | zero =>
    intro st o hst ho
    rw [w_X2_isWayWithin_6]
    simp only [w_X2_isWayWithin_8, w_X2_isWayWithin_9, w_X2_isWayWithin_12, w_X2_isWayWithin_53, w_X2_isWayWithin_55, w_X2_isWayWithin_56, w_X2_isWayWithin_59, w_X2_isWayWithin_60, w_X2_isWayWithin_63, w_X2_isWayWithin_64, h.1.2.1, true_or, or_true, true_and]
    rw [if_pos ((kLe (by omega) (by omega)).mpr (by omega))]
    unfold wW
    by_cases e : o = some g
    · rw [if_neg (fun q => q ((eqg o ho).mpr e)), decide_eq_true e]; exact Iff.rfl
    · rw [if_pos (fun q => e ((eqg o ho).mp q)), decide_eq_false e]; exact Iff.rfl
  | succ k ih =>
    intro st o hst ho
    rw [w_X2_isWayWithin_6]
    simp only [w_X2_isWayWithin_8, w_X2_isWayWithin_9, w_X2_isWayWithin_12, w_X2_isWayWithin_15, w_X2_isWayWithin_17, w_X2_isWayWithin_18, w_X2_isWayWithin_21, w_X2_isWayWithin_23, w_X2_isWayWithin_24, w_X2_isWayWithin_27, w_X2_isWayWithin_28, w_X2_isWayWithin_30, w_X2_isWayWithin_33, w_X2_isWayWithin_36, w_X2_isWayWithin_37, w_X2_isWayWithin_38, w_X2_isWayWithin_39, w_X2_isWayWithin_41, w_X2_isWayWithin_42, w_X2_isWayWithin_45, w_X2_isWayWithin_47, w_X2_isWayWithin_50, w_X2_isWayWithin_53, w_X2_isWayWithin_55, w_X2_isWayWithin_56, w_X2_isWayWithin_59, w_X2_isWayWithin_60, w_X2_isWayWithin_63, w_X2_isWayWithin_64, h.1.2.1, true_or, or_true, true_and, nI_1]
    rw [if_neg (fun q => by rw [kLe (by omega) (by omega)] at q; omega)]
    unfold wW
    cases o with
    | none =>
      rw [if_neg (fun q => by have := (eqg none (fun u hu => by cases hu)).mp q; cases this), en_none, if_pos rfl]
      exact Iff.rfl
    | some v =>
      have hv := ho v rfl
      dsimp only
      by_cases e : v = g
      · rw [if_pos ((eqg _ ho).mpr (by rw [e])), if_neg (fun q => q ((eqg _ ho).mpr (by rw [e]))), if_pos e]
        exact Iff.rfl
      · rw [if_neg (fun q => e (Option.some.inj ((eqg _ ho).mp q))), en_some, if_neg (fun q => (kNe (by omega)).mp q), if_neg e, c_hasM (by omega) hv, mKI_some]
        cases p v with
        | false => rw [if_neg (fun q => q bf0), if_neg Bool.false_ne_true]; exact Iff.rfl
        | true =>
          rw [if_pos bt1, if_pos rfl, C_hopN h hv hg, mKI_some]
          exact ih (st + 1) (nx N none g v) (by omega) (fun u hu => (nx_some hu).1)
theorem C_within {p : Nat → Bool} (h : CS c N wt wh) (hg : g < nN N) (hs : s < nN N) : WP mLayH 29 0 [some (.ref 1), some (.int (nI s)), some (.int (nI g)), some (.int (mkS p (nN N))), none, none] [] c Q ↔ Q (some (bi (wW N g p (nN N) (some s)))) c := by
  simp only [w_X2_isWayWithin_0, w_X2_isWayWithin_1, w_X2_isWayWithin_3, w_X2_isWayWithin_4]
  exact within_loop h hg (nN N) 0 (some s) (by omega) (fun u hu => by cases hu; exact hs)
theorem cv_7 (hN : Nok N) (hg : g < nN N) (hs : s < nN N) : cvP N 7 s g = (decide (s ≠ g) && wW N g (own N g) (nN N) (some s)) := by
  have hr := rk_n (N := N) (but := none) (d := g) hs
  by_cases e : s = g
  · rw [decide_eq_false (fun z => z e), Bool.false_and]
    unfold cvP
    rw [(nx_none hN hg hs).mpr (Or.inl e)]
  · rw [decide_eq_true e, Bool.true_and, wW_sf hN hg (nN N) s hs hr e]
    cases hn : nx N none g s with
    | none => unfold cvP; rw [hn]
    | some u =>
      obtain ⟨l, hH⟩ := HX_of hs hg hn
      rw [cv_HX hH]
      rfl
theorem safe_cnt (h : CS c N wt wh) (hg : g < nN N) : ∀ (k j : Nat), j + k = nN N →
    (WP mLayH 92 92 [some (.ref 0), some (.int (nI g)), some (.int (mkS (own N g) (nN N))), some (.int (nI (cnt (fun s => cvP N 7 s g) j))), some (.int (nI j))] [] c Q ↔ Q (some (nI (cnt (fun s => cvP N 7 s g) (nN N)))) c) := by
  have hN := h.1.1
  have h12 := hN.2.1
  intro k
  induction k with
  | zero =>
    intro j hj
    rw [w_X6_safeSenders_92]
    simp only [w_X6_safeSenders_94, w_X6_safeSenders_95, w_X6_safeSenders_98, w_X6_safeSenders_101, w_X6_safeSenders_104, w_X6_safeSenders_106, w_X6_safeSenders_107, w_X6_safeSenders_110, w_X6_safeSenders_111, w_X6_safeSenders_114, w_X6_safeSenders_116, w_X6_safeSenders_117, w_X6_safeSenders_118, w_X6_safeSenders_121, w_X6_safeSenders_124, w_X6_safeSenders_127, w_X6_safeSenders_130, w_X6_safeSenders_133, w_X6_safeSenders_134, h.1.2.1]
    rw [if_pos ((kLe (by omega) (by omega)).mpr (by omega)), show j = nN N by omega]
  | succ k ih =>
    intro j hj
    have hjn : j < nN N := by omega
    rw [w_X6_safeSenders_92]
    simp only [w_X6_safeSenders_94, w_X6_safeSenders_95, w_X6_safeSenders_98, w_X6_safeSenders_101, w_X6_safeSenders_104, w_X6_safeSenders_106, w_X6_safeSenders_107, w_X6_safeSenders_110, w_X6_safeSenders_111, w_X6_safeSenders_114, w_X6_safeSenders_116, w_X6_safeSenders_117, w_X6_safeSenders_118, w_X6_safeSenders_121, w_X6_safeSenders_124, w_X6_safeSenders_127, w_X6_safeSenders_130, w_X6_safeSenders_133, w_X6_safeSenders_134, h.1.2.1, C_within h hg hjn, mKI_some, nI_1]
    rw [if_neg (fun q => by rw [kLe (by omega) (by omega)] at q; omega), ← ih (j + 1) (by omega)]
    have hst : cnt (fun s => cvP N 7 s g) (j + 1) = cnt (fun s => cvP N 7 s g) j + (if cvP N 7 j g then 1 else 0) := rfl
    rw [hst, cv_7 hN hg hjn]
    by_cases e : j = g
    · rw [if_pos (by rw [e]), decide_eq_false (fun z => z e), Bool.false_and, if_neg Bool.false_ne_true]; exact Iff.rfl
    · rw [if_neg (fun q => e ((kEq (by omega) (by omega)).mp q)), decide_eq_true e, Bool.true_and]
      cases wW N g (own N g) (nN N) (some j) with
      | false => rw [if_pos bf0, if_neg Bool.false_ne_true]; exact Iff.rfl
      | true => rw [if_neg bt1, if_pos rfl]
theorem safe_sure (hg : g < nN N) : ∀ (k j : Nat) (c : mS) (l4 : Option Value), j + k = nN N → CS c N wt wh →
    (∀ c' : mS, CS c' N wt wh → Q (some (nI (cnt (fun s => cvP N 7 s g) (nN N)))) c') →
    WP mLayH 92 4 [some (.ref 0), some (.int (nI g)), some (.int (mkS (own N g) j)), some (.int (nI j)), l4] [] c Q := by
  intro k
  induction k with
  | zero =>
    intro j c l4 hj h kk
    have h12 := h.1.1.2.1
    rw [w_X6_safeSenders_4]
    simp only [w_X6_safeSenders_5, w_X6_safeSenders_6, w_X6_safeSenders_9, w_X6_safeSenders_12, w_X6_safeSenders_87, w_X6_safeSenders_88, w_X6_safeSenders_89, w_X6_safeSenders_90, h.1.2.1]
    rw [if_pos ((kLe (by omega) (by omega)).mpr (by omega)), show j = nN N by omega]
    exact (safe_cnt h hg (nN N) 0 (by omega)).mpr (kk c h)
  | succ k ih =>
    intro j c l4 hj h kk
    have hN := h.1.1
    have h12 := hN.2.1
    have h24 := hN.2.2.1
    have hjn : j < nN N := by omega
    rw [w_X6_safeSenders_4]
    simp only [w_X6_safeSenders_5, w_X6_safeSenders_6, w_X6_safeSenders_9, w_X6_safeSenders_12, w_X6_safeSenders_15, w_X6_safeSenders_16, w_X6_safeSenders_19, w_X6_safeSenders_20, w_X6_safeSenders_21, w_X6_safeSenders_24, w_X6_safeSenders_25, w_X6_safeSenders_26, w_X6_safeSenders_29, w_X6_safeSenders_32, w_X6_safeSenders_34, w_X6_safeSenders_36, w_X6_safeSenders_37, w_X6_safeSenders_81, w_X6_safeSenders_84, h.1.2.1, C_hopN h hjn hg, C_linkAt h.1, mKI_some, nI_1]
    rw [if_neg (fun q => by rw [kLe (by omega) (by omega)] at q; omega)]
    have ih' := ih (j + 1)
    rw [mkS_o] at ih'
    cases hn : nx N none g j with
    | none =>
      rw [show own N g j = false by unfold own; rw [hn], oneN_f] at ih'
      rw [en_none, lkI_neg, en_none, if_pos rfl]
      exact ih' c _ (by omega) h kk
    | some u =>
      have hu := (nx_some hn).1
      obtain ⟨l, hl, hlm⟩ := nx_lk hN hn
      have ho : own N g j = decide (kEn (psd N (dn1 l) j g) = some 0) := by unfold own; rw [hn]; dsimp only; rw [hl]
      rw [ho] at ih'
      rw [en_some, lkI_nI hN hjn hu, hl, en_some, if_neg (fun q => (kNe (by omega)).mp q)]
      simp only [w_X6_safeSenders_40, w_X6_safeSenders_41, w_X6_safeSenders_44, w_X6_safeSenders_45, w_X6_safeSenders_48, w_X6_safeSenders_49, w_X6_safeSenders_52, w_X6_safeSenders_53, w_X6_safeSenders_55, w_X6_safeSenders_56, w_X6_safeSenders_57, w_X6_safeSenders_58]
      refine C_travel h hjn hg (mk_dn1 (by omega) hlm) (fun c2 b2 hp => ?_)
      have h2 := CS_scr h b2
      simp only [mKV_none, w_X6_safeSenders_61, w_X6_safeSenders_62, w_X6_safeSenders_63, w_X6_safeSenders_66, w_X6_safeSenders_69, w_X6_safeSenders_72, w_X6_safeSenders_73, w_X6_safeSenders_74, w_X6_safeSenders_75, w_X6_safeSenders_78, w_X6_safeSenders_79, w_X6_safeSenders_80, w_X6_safeSenders_81, w_X6_safeSenders_84, hp.1, nI_1]
      have e0 : (en (kEn (psd N (dn1 l) j g)) = 0) ↔ kEn (psd N (dn1 l) j g) = some 0 := en_eq (p := some 0) (fun q hq => by have := hp.2.2.2.2.2.2.2.2 q hq; omega) (fun q hq => by cases hq; omega)
      by_cases z : kEn (psd N (dn1 l) j g) = some 0
      · rw [decide_eq_true z] at ih'
        rw [if_neg (fun q => q (e0.mpr z))]
        exact ih' c2 _ (by omega) h2 kk
      · rw [decide_eq_false z, oneN_f] at ih'
        rw [if_pos (fun q => z (e0.mp q)), or0]
        exact ih' c2 _ (by omega) h2 kk
theorem C_safe (hg : g < nN N) (h : CS c N wt wh) (kk : ∀ c' : mS, CS c' N wt wh → Q (some (nI (cnt (fun s => cvP N 7 s g) (nN N)))) c') : WP mLayH 92 0 [some (.ref 0), some (.int (nI g)), none, none, none] [] c Q := by
  simp only [w_X6_safeSenders_0, w_X6_safeSenders_1, w_X6_safeSenders_2, w_X6_safeSenders_3]
  exact safe_sure hg (nN N) 0 c none (by omega) h kk
theorem cov_loop {w : Nat} (hw : w ≤ 7) : ∀ (k j : Nat) (c : mS), j + k = nN N → CS c N wt wh →
    (∀ c' : mS, CS c' N wt wh → Q (some (nI (sumN (fun d => cnt (fun s => cvP N w s d) (nN N)) (nN N)))) c') →
    WP mLayH 80 23 [some (.ref 0), some (.int (nI w)), some (.int (nI (sumN (fun d => cnt (fun s => cvP N w s d) (nN N)) j))), some (.int (nI j))] [] c Q := by
  intro k
  induction k with
  | zero =>
    intro j c hj h kk
    have h12 := h.1.1.2.1
    rw [w_X6_covered_23]
    simp only [w_X6_covered_24, w_X6_covered_25, w_X6_covered_28, w_X6_covered_31, w_X6_covered_63, w_X6_covered_64, h.1.2.1]
    rw [if_pos ((kLe (by omega) (by omega)).mpr (by omega)), show j = nN N by omega]
    exact kk c h
  | succ k ih =>
    intro j c hj h kk
    have h12 := h.1.1.2.1
    have hjn : j < nN N := by omega
    rw [w_X6_covered_23]
    simp only [w_X6_covered_24, w_X6_covered_25, w_X6_covered_28, w_X6_covered_31, w_X6_covered_34, w_X6_covered_35, w_X6_covered_36, w_X6_covered_38, w_X6_covered_41, w_X6_covered_42, w_X6_covered_43, w_X6_covered_46, w_X6_covered_49, w_X6_covered_50, w_X6_covered_51, w_X6_covered_52, w_X6_covered_55, w_X6_covered_56, w_X6_covered_57, w_X6_covered_60, h.1.2.1, nI_1]
    rw [if_neg (fun q => by rw [kLe (by omega) (by omega)] at q; omega)]
    have ih' := ih (j + 1)
    rw [show sumN (fun d => cnt (fun s => cvP N w s d) (nN N)) (j + 1) = sumN (fun d => cnt (fun s => cvP N w s d) (nN N)) j + cnt (fun s => cvP N w s j) (nN N) from rfl] at ih'
    by_cases e : w = 7
    · subst e
      rw [if_neg (fun q => q rfl)]
      refine C_safe hjn h (fun c2 h2 => ?_)
      rw [mKI_some, nI_add]
      exact ih' c2 (by omega) h2 kk
    · rw [if_pos (show ¬ nI w = 7 from fun q => e ((kq7 (by omega)).mp q))]
      refine C_ofKind (show w ≤ 6 by omega) hjn h (fun c2 h2 => ?_)
      rw [mKI_some, nI_add]
      exact ih' c2 (by omega) h2 kk
theorem D_covered (h : CI c N wt wh) (kk : ∀ c' : mS, CI c' N wt wh → Q (some (qCovered N a)) c') : WP mLayH 80 0 [some (.ref 0), some (.int a), none, none] [] c Q := by
  simp only [w_X6_covered_0, w_X6_covered_1, w_X6_covered_4, w_X6_covered_5, w_X6_covered_7, w_X6_covered_10, w_X6_covered_11, w_X6_covered_12, w_X6_covered_13, w_X6_covered_16, w_X6_covered_19, w_X6_covered_20, w_X6_covered_21, w_X6_covered_22]
  unfold qCovered at kk
  rcases pk_ix a (show 8 < 2 ^ 31 by decide) with q | q | ⟨w, hw, rfl⟩
  · rw [ix_neg q] at kk
    rw [if_pos q]; exact kk c h
  · rw [ix_big q] at kk
    have h7 : ¬ a ≤ 7 := fun z => absurd (Int32.lt_of_le_of_lt z (show (7 : Int32) < nI 8 by decide)) (Int32.not_lt.mpr q)
    rw [if_neg h7]
    split <;> exact kk c h
  · rw [ix_nI (by decide) hw] at kk
    rw [if_neg (nI_pos (by omega)), show (7 : Int32) = nI 7 from rfl, if_pos ((kLe (by omega) (by decide)).mpr (by omega))]
    refine C_settle h (fun c1 h1 => ?_)
    rw [mKV_none]
    refine cov_loop (show w ≤ 7 by omega) (nN N) 0 c1 (by omega) h1 (fun c2 h2 => ?_)
    rw [← sum_ex (p := fun s d => cvP N w s d)]
    exact kk c2 (CS_I h2)
end CV3
