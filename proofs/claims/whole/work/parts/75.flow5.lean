/-! CUT: useWay, leastCut -/
section FL5
variable {c : mS} {N : Nt} {wt wh : Nat} {Q : Option Int32 → mS → Prop} {u u0 : Nat → Int} {a b k0 : Nat}
theorem use_loop {cf : Nat → Option Nat} {q : Nat → Nat} {w : Nat} {b0 : Int32} (hB : BQ N u0 a cf q w) : ∀ (k st i : Nat) (c : mS) (u : Nat → Int) (l6 l7 : Option Value), st + k = nN N → i < w → i < k → CB c N wt wh → UR c N u → (∀ x, x < nN N → c 18 x = en (cf x)) → FV N u k0 a b (q i) → (∀ i', i' ≤ i → 0 < i' → ∀ j l, j < i' → cf (q i') = some (q j) → lk N (q j) (q i') = some l → u l ≠ dr N l (q j)) →
    (∀ (c' : mS) (u' : Nat → Int), but1 17 c c' → UR c' N u' → FV N u' k0 a b a → Q none c') →
    WP mLayH 16 6 [some (.ref 6), some (.ref 1), some (.int (nI a)), some (.int b0), some (.int (nI (q i))), some (.int (nI st)), l6, l7] [] c Q := by
  intro k
  induction k with
  | zero => intro st i c u l6 l7 _ _ h; omega
  | succ k ih =>
    intro st i c u l6 l7 hst hi hik h hU hcf hF hfr kk
    have hN := h.1
    have h12 := hN.2.1
    have h24 := hN.2.2.1
    obtain ⟨⟨b1, b2⟩, b3, b4, b5, b6, b7⟩ := hB
    have hqi := b4 i hi
    have ha : a < nN N := by rw [← b2]; exact b4 0 (by omega)
    rw [w_X1_useWay_6]
    simp (disch := omega) only [w_X1_useWay_8, w_X1_useWay_9, w_X1_useWay_12, w_X1_useWay_15, w_X1_useWay_17, w_X1_useWay_18, w_X1_useWay_75, h.2.1, kEq, kLe]
    rw [if_neg (fun z => by omega)]
    by_cases e : q i = a
    · rw [if_pos e]
      rw [e] at hF
      exact kk c u but1_rf hU hF
    · rw [if_neg e]
      have hi0 : 0 < i := Nat.pos_of_ne_zero (fun z => e (by rw [z]; exact b2))
      obtain ⟨j, hji, hc, hf⟩ := b7 i hi0 hi
      have hqj := b4 j (by omega)
      unfold fre at hf
      cases hl : lk N (q j) (q i) with
      | none => rw [hl] at hf; cases hf
      | some l =>
        obtain ⟨hlm, hjn⟩ := lk_some hl
        have hne := hfr i (Nat.le_refl _) hi0 j l hji hc hl
        have e18 : c 18 (q i) = nI (q j) := by rw [hcf _ hqi, hc]; rfl
        simp (disch := omega) only [w_X1_useWay_21, w_X1_useWay_22, w_X1_useWay_25, w_X1_useWay_27, w_X1_useWay_28, w_X1_useWay_30, w_X1_useWay_31, w_X1_useWay_33, w_X1_useWay_35, w_X1_useWay_38, w_X1_useWay_40, w_X1_useWay_42, w_X1_useWay_43, kIn, kCl, e18, C_link h hqj hqi, hl, en_some, mKI_some, show q i < 12 by omega, true_and]
        rw [if_pos (fun z => (kNe (by omega)).mp z)]
        simp (disch := omega) only [w_X1_useWay_47, w_X1_useWay_48, w_X1_useWay_51, w_X1_useWay_53, w_X1_useWay_54, w_X1_useWay_55, w_X1_useWay_56, w_X1_useWay_58, w_X1_useWay_60, w_X1_useWay_63, w_X1_useWay_64, w_X1_useWay_65, w_X1_useWay_67, w_X1_useWay_69, w_X1_useWay_72, kIn, kCl, hU.2 l hlm, C_dir h hlm hqj, mKI_some, show l < 24 by omega, true_and, nI_1]
        rw [uE_add (hU.1 l hlm) dr_3 hne]
        have hF' := FV_step hN hlm hjn hne hF
        have hb : but1 17 c (mUp c 17 l (uE (u l + dr N l (q j)))) := but1_up
        refine ih (st + 1) j _ (uup u l (u l + dr N l (q j))) _ _ (by omega) (by omega) (by omega) (CB_but h hb (by decide) (by decide)) ⟨hF'.1, fun l' hl' => ?_⟩ (fun x hx => by rw [hb 18 (by decide)]; exact hcf x hx) hF' (fun i' h1 h2 j' l' h3 h4 h5 => ?_) (fun c2 u2 d1 d2 d3 => kk c2 u2 (but1_tr hb d1) d2 d3)
        · by_cases z : l' = l
          · subst z; rw [mUp_s, uup_s]
          · rw [mUp_j z, uup_n z]; exact hU.2 l' hl'
        · have hll : l' ≠ l := by
            intro z
            subst z
            have hj2 := (lk_some h5).2
            have hq : q i = q j' ∨ q i = q i' := by
              rw [jn_iff] at hjn hj2
              omega
            rcases hq with z | z
            · have := b6 i j' hi (by omega) z; omega
            · have := b6 i i' hi (by omega) z; omega
          rw [uup_n hll]
          exact hfr i' (by omega) h2 j' l' h3 h4 h5
theorem cut_loop (ha : a < nN N) (hb : b < nN N) (hab : a ≠ b) : ∀ (k w : Nat) (c : mS) (u : Nat → Int), w + k = 24 → CI c N wt wh → UR c N u → FV N u w a b b →
    (∀ c' : mS, CI c' N wt wh → Q (some (nI (mnC N a b (2 ^ nN N)))) c') →
    WP mLayH 11 11 [some (.ref 6), some (.ref 1), some (.int (nI a)), some (.int (nI b)), some (.int (nI w))] [] c Q := by
  intro k
  induction k with
  | zero =>
    intro w c u hk h hU hF kk
    have hN := h.1.1
    rw [w_X1_leastCut_11]
    simp only [w_X1_leastCut_13, w_X1_leastCut_15, w_X1_leastCut_18, w_X1_leastCut_19, w_X1_leastCut_20, w_X1_leastCut_21, w_X1_leastCut_22, w_X1_leastCut_25, w_X1_leastCut_28, w_X1_leastCut_29, w_X1_leastCut_30, w_X1_leastCut_31, w_X1_leastCut_32, w_X1_leastCut_35, w_X1_leastCut_38, w_X1_leastCut_41, w_X1_leastCut_43]
    rw [show (24 : Int32) = nI 24 from rfl, if_pos ((kLe (by omega) (by omega)).mpr (by omega))]
    have k1 := kk c h
    rw [show w = 24 by omega] at hF ⊢
    rw [cut_24 hN hF] at k1
    exact k1
  | succ k ih =>
    intro w c u hk h hU hF kk
    have hN := h.1.1
    have h12 := hN.2.1
    rw [w_X1_leastCut_11]
    simp only [w_X1_leastCut_13, w_X1_leastCut_15, w_X1_leastCut_18, w_X1_leastCut_19, w_X1_leastCut_20, w_X1_leastCut_21, w_X1_leastCut_22, w_X1_leastCut_25, w_X1_leastCut_28, w_X1_leastCut_29, w_X1_leastCut_30, w_X1_leastCut_31, w_X1_leastCut_32, w_X1_leastCut_35, w_X1_leastCut_38, w_X1_leastCut_41, w_X1_leastCut_43, nI_1]
    rw [show (24 : Int32) = nI 24 from rfl, if_neg (fun z => by rw [kLe (by omega) (by omega)] at z; omega)]
    refine C_find h.1 hU ha hb (fun c1 cf q w1 s1 hB hR hcl => ?_)
    have h1 : CI c1 N wt wh := CI_scr h (s89_scr s1)
    have hU1 := UR_s89 hU s1
    obtain ⟨⟨b1, b2⟩, b3, b4, b5, b6, b7⟩ := hB
    have hB : BQ N u a cf q w1 := ⟨⟨b1, b2⟩, b3, b4, b5, b6, b7⟩
    rw [mKI_some]
    cases hc : (cf b).isSome with
    | false =>
      rw [if_pos bf0]
      have hcl := hcl hc
      have cl : ∀ x y, x < nN N → y < nN N → (cf x).isSome = true → fre N u x y = true → (cf y).isSome = true := by
        intro x y hx hy h1 h2
        obtain ⟨i, hi, hq⟩ := (b5 x hx).mp h1
        exact hcl i hi y hy (by rw [hq]; exact h2)
      have e := cut_R (R := fun x => (cf x).isSome) hN (show w ≤ 24 by omega) ha hb hF ((b5 a ha).mpr ⟨0, by omega, b2⟩) hc (fun l hl => by
        obtain ⟨g1, g2, g3, -⟩ := hN.2.2.2.1 l hl
        constructor
        · intro z1 z2
          apply Classical.byContradiction
          intro z3
          have := cl _ _ g1 g2 z1 (by
            unfold fre
            rw [(lk_iff hN).mpr ⟨hl, jn_iff.mpr (Or.inl ⟨rfl, rfl⟩)⟩]
            refine decide_eq_true (fun z4 => z3 ?_)
            rw [z4]; exact if_pos rfl)
          rw [z2] at this; cases this
        · intro z1 z2
          apply Classical.byContradiction
          intro z3
          have := cl _ _ g2 g1 z1 (by
            unfold fre
            rw [(lk_iff hN).mpr ⟨hl, jn_iff.mpr (Or.inr ⟨rfl, rfl⟩)⟩]
            refine decide_eq_true (fun z4 => z3 ?_)
            rw [z4]; exact if_neg g3)
          rw [z2] at this; cases this)
      have k1 := kk c1 h1
      rw [e] at k1
      exact k1
    | true =>
      rw [if_neg bt1]
      obtain ⟨i, hi, hq⟩ := (b5 b hb).mp hc
      have hw : w1 ≤ nN N := by rw [b3]; exact cnt_le
      simp only [w_X1_useWay_0, w_X1_useWay_1, w_X1_useWay_3, w_X1_useWay_4]
      have hF' := hF
      rw [← hq] at hF' ⊢
      refine use_loop hB (nN N) 0 i c1 u none none (by omega) hi (by omega) h1.1 hU1 (fun x hx => (hR.1 x hx).1) (by rw [hq]; rw [hq] at hF'; exact hF') (fun i' h1' h2 j l h3 h4 h5 => ?_) (fun c2 u2 d1 d2 d3 => ?_)
      · obtain ⟨j2, g1, g2, g3⟩ := b7 i' h2 (by omega)
        rw [h4] at g2
        have g2 := Option.some.inj g2
        rw [← g2] at g3
        unfold fre at g3
        rw [h5] at g3
        dsimp only at g3
        rw [decide_eq_true_iff] at g3
        exact g3
      · rw [mKV_none]
        rw [hq]
        exact ih (w + 1) c2 u2 (by omega) (CI_scr h1 (scr_but d1 (by omega))) d2 (FV_way d3) kk
theorem D_cut {x y : Int32} (h : CI c N wt wh) (kk : ∀ c' : mS, CI c' N wt wh → Q (some (qCut N x y)) c') : WP mLayH 81 0 [some (.ref 0), some (.int x), some (.int y)] [] c Q := by
  have hN := h.1.1
  have h12 := hN.2.1
  have h24 := hN.2.2.1
  simp only [w_X6_cut_0, w_X6_cut_1, w_X6_cut_4, w_X6_cut_5, w_X6_cut_6, w_X6_cut_9, w_X6_cut_12, w_X6_cut_13, w_X6_cut_16, w_X6_cut_17, w_X6_cut_20, w_X6_cut_21, w_X6_cut_22, w_X6_cut_25, w_X6_cut_28, w_X6_cut_29, C_areTwo h.1, mKI_some]
  unfold qCut at kk
  rw [two_pair hN]
  rcases two_cs hN x y with ⟨h1, -⟩ | ⟨a, b, rfl, rfl, ha, hb⟩
  · rw [h1] at kk ⊢; exact kk c h
  · rw [two_nI hN ha hb] at kk ⊢
    dsimp only at kk ⊢
    by_cases e : a = b
    · rw [if_pos e] at kk
      rw [if_pos (bd0.mpr (fun z => z e))]; exact kk c h
    · rw [if_neg e] at kk
      rw [if_neg (fun q => bd0.mp q e)]
      simp only [w_X1_leastCut_0, w_X1_leastCut_1, w_X1_leastCut_4, w_X1_leastCut_5, w_X1_leastCut_8, w_X1_leastCut_9]
      refine C_fill0 (p := 17) (n := 24) rfl (by decide) (fun c1 b1 b2 => ?_)
      rw [mKV_none]
      exact cut_loop ha hb e 24 0 c1 (fun _ => 0) (by omega) (CI_scr h (scr_but b1 (by omega))) ⟨fun _ _ => Or.inr (Or.inl rfl), fun l hl => b2 l (by omega)⟩ FV_0 (fun c2 h2 => by rw [mKI_some]; exact kk c2 h2)
end FL5
