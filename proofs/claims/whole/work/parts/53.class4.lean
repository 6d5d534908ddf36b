/-! the class: public methods, first part -/
theorem CI_of {c : mS} {N : Nt} {wt wh : Nat} (h : CB c N wt wh) (h9 : c 1 9 = 1) : CI c N wt wh := ⟨h, Or.inl h9⟩
theorem bd0 {p : Prop} {i : Decidable p} : bi (@decide p i) = 0 ↔ ¬ p := by
  rw [bi_0, decide_eq_false_iff_not]
theorem lk_g {N : Nt} {C G : Nat → Nat} {x y : Nat} : lk (nN N, nM N, nA N, nB N, C, G) x y = lk N x y := lkF_congr (N := N) (N' := (nN N, nM N, nA N, nB N, C, G)) (fun l _ => ⟨rfl, rfl⟩)
theorem gd_g {N : Nt} {G : Nat → Nat} {but : Option Nat} {d : Nat} : gd (nN N, nM N, nA N, nB N, nC N, G) but d = gd N but d := rfl
theorem nx_g {N : Nt} {G : Nat → Nat} {but : Option Nat} {d v : Nat} : nx (nN N, nM N, nA N, nB N, nC N, G) but d v = nx N but d v := by
  show fstI _ (nN N) = fstI _ (nN N)
  refine fstI_congr (fun u _ => ?_)
  unfold nxc
  rw [lk_g, gd_g]
  rfl
section CL5
variable {c : mS} {N : Nt} {wt wh : Nat} {Q : Option Int32 → mS → Prop} {a b a1 : Int32}
theorem lk_ne (hN : Nok N) {x : Nat} : lk N x x = none := by
  cases h : lk N x x with
  | none => rfl
  | some l =>
    obtain ⟨h1, h2⟩ := lk_some h
    exact absurd rfl (jn_lt hN h1 h2).2.2.1
theorem D_between (h : CI c N wt wh) (kk : ∀ c' : mS, CI c' N wt wh → Q (some (qBetween N a b)) c') : WP mLayH 65 0 [some (.ref 0), some (.int a), some (.int b)] [] c Q := by
  simp only [w_X6_between_0, w_X6_between_1, w_X6_between_4, w_X6_between_5, w_X6_between_6, w_X6_between_9]
  rw [C_linkAt h.1, mKI_some]
  have e : en (lkI N a b) = qBetween N a b := by
    unfold lkI qBetween
    cases two N a b with
    | none => rfl
    | some p =>
      obtain ⟨x, y⟩ := p
      dsimp only
      by_cases e : x = y
      · subst e; rw [if_pos rfl, lk_ne h.1.1]; rfl
      · rw [if_neg e]
  rw [e]
  exact kk c h
theorem D_far (h : CI c N wt wh) (kk : ∀ c' : mS, CI c' N wt wh → Q (some (qFar N a b)) c') : WP mLayH 66 0 [some (.ref 0), some (.int a), some (.int b)] [] c Q := by
  have hN := h.1.1
  have h12 := hN.2.1
  simp only [w_X6_far_0, w_X6_far_1, w_X6_far_4, w_X6_far_5, w_X6_far_8, w_X6_far_11, w_X6_far_12, w_X6_far_15, w_X6_far_16, w_X6_far_19, w_X6_far_22, w_X6_far_23, w_X6_far_24, w_X6_far_25, w_X6_far_28, w_X6_far_31, w_X6_far_32, w_X6_far_35, w_X6_far_38, w_X6_far_39, w_X6_far_40, w_X6_far_41, w_X6_far_42, w_X6_far_45, C_isNode h.1, mKI_some]
  unfold qFar at kk
  rcases two_cs hN a b with ⟨h1, h2⟩ | ⟨x, y, rfl, rfl, hx, hy⟩
  · rw [h1] at kk
    have k := kk c h
    rcases h2 with h2 | h2
    · rw [h2, if_pos bf0]; exact k
    · rw [h2]
      cases (ix (nN N) a).isSome
      · rw [if_pos bf0]; exact k
      · rw [if_neg bt1, if_neg (fun q => q bf0)]; exact k
  · rw [two_nI hN hx hy] at kk
    rw [ix_nI (by omega) hx, ix_nI (by omega) hy, if_neg bs1, if_pos bs1]
    refine C_settle h (fun c1 h1 => ?_)
    simp (disch := omega) only [mKV_none, kIn, kCl, CS_far h1 hx hy, show x < 12 by omega, show y < 12 by omega, show x < 36 by omega, true_and]
    rw [c_orNone (fr_inf hN hx hy), mKI_some]
    exact kk c1 (CS_I h1)
theorem D_next (h : CI c N wt wh) (kk : ∀ c' : mS, CI c' N wt wh → Q (some (qNext N a b)) c') : WP mLayH 67 0 [some (.ref 0), some (.int a), some (.int b)] [] c Q := by
  simp only [w_X6_next_0, w_X6_next_1, w_X6_next_4, w_X6_next_7, w_X6_next_8, w_X6_next_11, w_X6_next_12, w_X6_next_13, w_X6_next_16]
  refine C_settle h (fun c1 h1 => ?_)
  rw [mKV_none, C_hop h1, mKI_some]
  exact kk c1 (CS_I h1)
theorem clear_loop {n : Int32} : ∀ (k v : Nat) (c : mS), v + k = 12 → (∀ x y, x < v → y < 12 → c (44 + x) y = -1) →
    (∀ c' : mS, (∀ x y, x < 12 → y < 12 → c' (44 + x) y = -1) → (∀ k, k < 44 → k ≠ 1 → c' k = c k) → (∀ j, j ≠ 9 → c' 1 j = c 1 j) → c' 1 9 = 1 → Q none c') →
    WP mLayH 17 12 [some (.ref 1), some (.int n), some (.int (nI v))] [] c Q := by
  intro k
  induction k with
  | zero =>
    intro v c hv hF kk
    rw [w_X2_clear_12]
    simp only [w_X2_clear_0, w_X2_clear_1, w_X2_clear_2, w_X2_clear_5, w_X2_clear_6, w_X2_clear_7, w_X2_clear_10, w_X2_clear_11, w_X2_clear_13, w_X2_clear_15, w_X2_clear_18, w_X2_clear_19, w_X2_clear_22, w_X2_clear_23, w_X2_clear_24, w_X2_clear_25, w_X2_clear_28, w_X2_clear_31, w_X2_clear_34, w_X2_clear_35, w_X2_clear_36, w_X2_clear_39]
    rw [show (12 : Int32) = nI 12 from rfl, if_pos ((kLe (by omega) (by omega)).mpr (by omega))]
    refine ⟨Or.inr trivial, kk _ (fun x y hx hy => ?_) (fun k _ h1 => mUp_kf h1) (fun j hj => mUp_j hj) mUp_s⟩
    rw [mUp_k (by omega)]; exact hF x y (by omega) hy
  | succ k ih =>
    intro v c hv hF kk
    rw [w_X2_clear_12]
    simp only [w_X2_clear_0, w_X2_clear_1, w_X2_clear_2, w_X2_clear_5, w_X2_clear_6, w_X2_clear_7, w_X2_clear_10, w_X2_clear_11, w_X2_clear_13, w_X2_clear_15, w_X2_clear_18, w_X2_clear_19, w_X2_clear_22, w_X2_clear_23, w_X2_clear_24, w_X2_clear_25, w_X2_clear_28, w_X2_clear_31, w_X2_clear_34, w_X2_clear_35, w_X2_clear_36, w_X2_clear_39]
    rw [show (12 : Int32) = nI 12 from rfl, if_neg (fun q => by rw [kLe (by omega) (by omega)] at q; omega), nI_1]
    rw [kIn (by omega), kCl (by omega)]
    refine ⟨by omega, C_fill0 (by rw [mLayH_row44, if_pos (by omega)]) (by decide) (fun c1 b1 b2 => ?_)⟩
    rw [mKV_none]
    refine ih (v + 1) c1 (by omega) (fun x y hx hy => ?_) (fun c2 d1 d2 d3 d4 => kk c2 d1 (fun k hk hk1 => ?_) (fun j hj => ?_) d4)
    · by_cases e : x = v
      · subst e; exact b2 y hy
      · rw [b1 (44 + x) (by omega)]; exact hF x y (by omega) hy
    · rw [d2 k hk hk1, b1 k (by omega)]
    · rw [d3 j hj, b1 1 (by omega)]
theorem C_clear {n : Nat} (hn : 2 ≤ n) (hn2 : n ≤ 12) (kk : ∀ c' : mS, (∀ x y, x < 12 → y < 12 → c' (44 + x) y = -1) → (∀ k, k < 44 → k ≠ 1 → c' k = c k) → c' 1 0 = nI n → c' 1 1 = 0 → c' 1 9 = 1 → Q none c') : WP mLayH 17 0 [some (.ref 1), some (.int (nI n)), none] [] c Q := by
  simp only [w_X2_clear_0, w_X2_clear_1, w_X2_clear_2, w_X2_clear_5, w_X2_clear_6, w_X2_clear_7, w_X2_clear_10, w_X2_clear_11, w_X2_clear_13, w_X2_clear_15, w_X2_clear_18, w_X2_clear_19, w_X2_clear_22, w_X2_clear_23, w_X2_clear_24, w_X2_clear_25, w_X2_clear_28, w_X2_clear_31, w_X2_clear_34, w_X2_clear_35, w_X2_clear_36, w_X2_clear_39]
  refine clear_loop 12 0 _ (by omega) (fun x y hx _ => by omega) (fun c1 b1 b2 b3 b4 => kk c1 b1 (fun k h1 h2 => ?_) ?_ ?_ b4)
  · rw [b2 k h1 h2, mUp_kf h2, mUp_kf h2]
  · rw [b3 0 (by decide), mUp_j (by decide), mUp_s]
  · rw [b3 1 (by decide), mUp_s]
theorem D_nodes (h : CI c N wt wh) (hN' : Nok (sNodes N a)) (kk : ∀ c' : mS, CI c' (sNodes N a) (if okC 2 12 a then 0 else wt) (if okC 2 12 a then 0 else wh) → Q (some (qNodes N a)) c') : WP mLayH 59 0 [some (.ref 0), some (.int a), none] [] c Q := by
  simp only [w_X6_nodes_0, w_X6_nodes_1, w_X6_nodes_2, w_X6_nodes_5, w_X6_nodes_6, w_X6_nodes_8, w_X6_nodes_11, w_X6_nodes_12, w_X6_nodes_13, w_X6_nodes_14, w_X6_nodes_17, w_X6_nodes_20, w_X6_nodes_21, w_X6_nodes_22, w_X6_nodes_25, w_X6_nodes_26, w_X6_nodes_29, w_X6_nodes_30, w_X6_nodes_33, w_X6_nodes_34, w_X6_nodes_35, w_X6_nodes_38, w_X6_nodes_39]
  unfold qNodes at kk
  by_cases h1 : a < 2
  · have e : okC 2 12 a = false := decide_eq_false (fun q => absurd q.1 (Int32.not_le.mpr h1))
    rw [if_pos h1]
    unfold sNodes at kk
    rw [e] at kk
    exact kk c h
  rw [if_neg h1]
  by_cases h2 : a ≤ 12
  · have e : okC 2 12 a = true := decide_eq_true ⟨Int32.not_lt.mp h1, h2⟩
    rw [if_pos h2]
    obtain ⟨n, rfl, n2, n12⟩ := okC_nI (lo := 2) (hi := 12) (by decide) (by decide) e
    have eN : sNodes N (nI n) = (n, 0, N.2.2) := by unfold sNodes; rw [e, if_pos rfl, kCl (by omega)]
    rw [eN, e] at kk
    rw [eN] at hN'
    simp only [if_true] at kk
    refine C_clear n2 n12 (fun c1 b1 b2 b3 b4 b5 => ?_)
    rw [mKV_none, C_set, mKV_none, h.1.2.2.1]
    refine kk _ (CI_of ⟨hN', ?_, ?_, ?_, ?_, ?_, ?_⟩ ?_)
    · rw [mUp_k (by decide), mUp_k (by decide)]; exact b3
    · rw [mUp_k (by decide), mUp_k (by decide)]; exact b4
    · intro l hl; exact absurd hl (Nat.not_lt_zero l)
    · intro x y hx hy
      have hx : x < n := hx
      have hy : y < n := hy
      rw [mUp_k (by omega), mUp_k (by omega), b1 x y (by omega) (by omega)]; rfl
    · rw [mUp_j (by decide), mUp_s]; rfl
    · rw [mUp_s]; rfl
    · rw [mUp_k (by decide), mUp_k (by decide)]; exact b5
  · have e : okC 2 12 a = false := decide_eq_false (fun q => h2 q.2)
    rw [if_neg h2]
    unfold sNodes at kk
    rw [e] at kk
    exact kk c h
theorem D_cost (h : CI c N wt wh) (hN' : Nok (sCost N a b)) (kk : ∀ c' : mS, CI c' (sCost N a b) wt wh → Q (some (qCost N a b)) c') : WP mLayH 61 0 [some (.ref 0), some (.int a), some (.int b), none] [] c Q := by
  have hN := h.1.1
  have h24 := hN.2.2.1
  simp only [w_X6_cost_0, w_X6_cost_1, w_X6_cost_4, w_X6_cost_5, w_X6_cost_8, w_X6_cost_11, w_X6_cost_12, w_X6_cost_15, w_X6_cost_18, w_X6_cost_19, w_X6_cost_20, w_X6_cost_21, w_X6_cost_24, w_X6_cost_27, w_X6_cost_28, w_X6_cost_29, w_X6_cost_30, w_X6_cost_31, w_X6_cost_34, w_X6_cost_35, w_X6_cost_36, w_X6_cost_39, w_X6_cost_40, C_isLink h.1, c_isCost, mKI_some]
  unfold sCost at hN'
  unfold qCost sCost at kk
  cases hl : ix (nM N) a with
  | none => rw [hl] at kk; exact kk c h
  | some l =>
    obtain ⟨rfl, hlm⟩ := ix_some (by omega) hl
    rw [hl] at kk hN'
    dsimp only at kk hN'
    rw [if_neg bs1]
    cases hc : okC 1 99 b with
    | false => rw [hc] at kk; rw [if_neg (fun q => q bf0)]; exact kk c h
    | true =>
      rw [hc, if_pos rfl] at hN'
      rw [hc] at kk
      simp only [if_true] at kk
      obtain ⟨k, rfl, k1, k99⟩ := okC_nI (lo := 1) (hi := 99) (by decide) (by decide) hc
      rw [if_pos bt1]
      simp (disch := omega) only [w_X2_setCost_0, w_X2_setCost_1, w_X2_setCost_4, w_X2_setCost_5, w_X2_setCost_6, w_X2_setCost_7, w_X2_setCost_8, w_X2_setCost_9, w_X2_setCost_12, kIn, kCl, (h.1.2.2.2.1 l hlm).2.2.1, show l < 24 by omega, true_and, true_or, or_true, mKV_none]
      rw [kCl (by omega)] at kk hN'
      obtain ⟨-, g2, g3, g4, g5, g6, g7⟩ := h.1
      refine kk _ (CI_of ⟨hN', ?_, ?_, ?_, ?_, ?_, ?_⟩ mUp_s)
      · rw [mUp_j (by decide), mUp_k (by decide)]; exact g2
      · rw [mUp_j (by decide), mUp_k (by decide)]; exact g3
      · intro q hq
        obtain ⟨e1, e2, e3, e4⟩ := g4 q hq
        simp (disch := decide) only [mUp_k]
        refine ⟨e1, e2, ?_, e4⟩
        show _ = nI (fup (nC N) l k q)
        by_cases e : q = l
        · subst e; rw [mUp_s, fup_s]
        · rw [mUp_j e, fup_n e]; exact e3
      · intro x y hx hy
        rw [mUp_k (by omega), mUp_k (by omega)]
        rw [g5 x y hx hy]
        rw [lk_g]
      · rw [mUp_k (by decide), mUp_k (by decide)]; exact g6
      · rw [mUp_k (by decide), mUp_k (by decide)]; exact g7
theorem D_groups (h : CI c N wt wh) (hN' : Nok (sGroups N a b)) (kk : ∀ c' : mS, CI c' (sGroups N a b) wt wh → Q (some (qGroups N a b)) c') : WP mLayH 62 0 [some (.ref 0), some (.int a), some (.int b), none] [] c Q := by
  have hN := h.1.1
  have h24 := hN.2.2.1
  simp only [w_X6_groups_0, w_X6_groups_1, w_X6_groups_4, w_X6_groups_5, w_X6_groups_8, w_X6_groups_11, w_X6_groups_12, w_X6_groups_15, w_X6_groups_16, w_X6_groups_19, w_X6_groups_22, w_X6_groups_23, w_X6_groups_24, w_X6_groups_25, w_X6_groups_28, w_X6_groups_31, w_X6_groups_32, w_X6_groups_33, w_X6_groups_34, w_X6_groups_35, w_X6_groups_38, w_X6_groups_41, w_X6_groups_42, w_X6_groups_43, w_X6_groups_44, w_X6_groups_45, C_isLink h.1, mKI_some]
  unfold sGroups at hN'
  unfold qGroups sGroups at kk
  cases hl : ix (nM N) a with
  | none => rw [hl] at kk; exact kk c h
  | some l =>
    obtain ⟨rfl, hlm⟩ := ix_some (by omega) hl
    rw [hl] at kk hN'
    dsimp only at kk hN'
    rw [if_neg bs1]
    by_cases h1 : b < 0
    · have e : okC 0 255 b = false := decide_eq_false (fun q => absurd q.1 (Int32.not_le.mpr h1))
      rw [e] at kk
      rw [if_pos h1]; exact kk c h
    rw [if_neg h1]
    by_cases h2 : b ≤ 255
    · have hc : okC 0 255 b = true := decide_eq_true ⟨Int32.not_lt.mp h1, h2⟩
      rw [hc, if_pos rfl] at hN'
      rw [hc] at kk
      simp only [if_true] at kk
      obtain ⟨k, rfl, k1, k99⟩ := okC_nI (lo := 0) (hi := 255) (by decide) (by decide) hc
      rw [if_pos h2]
      simp (disch := omega) only [kIn, kCl, (h.1.2.2.2.1 l hlm).2.2.2, show l < 24 by omega, true_and]
      rw [kCl (by omega)] at kk hN'
      obtain ⟨-, g2, g3, g4, g5, g6, g7⟩ := h.1
      refine kk _ ⟨⟨hN', ?_, ?_, ?_, ?_, ?_, ?_⟩, ?_⟩
      · rw [mUp_k (by decide)]; exact g2
      · rw [mUp_k (by decide)]; exact g3
      · intro q hq
        obtain ⟨e1, e2, e3, e4⟩ := g4 q hq
        simp (disch := decide) only [mUp_k]
        refine ⟨e1, e2, e3, ?_⟩
        show _ = nI (fup (nG N) l k q)
        by_cases e : q = l
        · subst e; rw [mUp_s, fup_s]
        · rw [mUp_j e, fup_n e]; exact e4
      · intro x y hx hy
        rw [mUp_k (by omega)]
        rw [g5 x y hx hy]
        rw [lk_g]
      · rw [mUp_k (by decide)]; exact g6
      · rw [mUp_k (by decide)]; exact g7
      · rw [mUp_k (by decide)]
        rcases h.2 with q | ⟨q1, q2⟩
        · exact Or.inl q
        · refine Or.inr ⟨q1, fun x y hx hy => ?_⟩
          rw [mUp_k (by omega), mUp_k (by omega)]
          rw [gd_g, nx_g]
          exact q2 x y hx hy
    · have e : okC 0 255 b = false := decide_eq_false (fun q => h2 q.2)
      rw [e] at kk
      rw [if_neg h2]; exact kk c h
theorem lk_add {x y z w : Nat} {C G : Nat → Nat} : lk (nN N, nM N + 1, fup (nA N) (nM N) x, fup (nB N) (nM N) y, C, G) z w = if (z = x ∧ w = y) ∨ (z = y ∧ w = x) then some (nM N) else lk N z w := by
  show lkF _ z w (nM N + 1) = _
  unfold lkF
  have hj : (jn (nN N, nM N + 1, fup (nA N) (nM N) x, fup (nB N) (nM N) y, C, G) (nM N) z w = true) ↔ ((z = x ∧ w = y) ∨ (z = y ∧ w = x)) := by
    rw [jn_iff]
    show (fup (nA N) (nM N) x (nM N) = z ∧ fup (nB N) (nM N) y (nM N) = w) ∨ (fup (nA N) (nM N) x (nM N) = w ∧ fup (nB N) (nM N) y (nM N) = z) ↔ _
    rw [fup_s, fup_s]
    omega
  have hr : lkF (nN N, nM N + 1, fup (nA N) (nM N) x, fup (nB N) (nM N) y, C, G) z w (nM N) = lk N z w := lkF_congr (fun l hl => ⟨fup_n (by omega), fup_n (by omega)⟩)
  by_cases e : (z = x ∧ w = y) ∨ (z = y ∧ w = x)
  · rw [if_pos (hj.mpr e), if_pos e]
  · rw [if_neg (fun q => e (hj.mp q)), if_neg e, hr]
theorem D_link (h : CI c N wt wh) (hN' : Nok (sLink N a b a1)) (kk : ∀ c' : mS, CI c' (sLink N a b a1) wt wh → Q (some (qLink N a b a1)) c') : WP mLayH 60 0 [some (.ref 0), some (.int a), some (.int b), some (.int a1)] [] c Q := by
  have hN := h.1.1
  have h24 := hN.2.2.1
  have h12 := hN.2.1
  simp only [w_X6_link_0, w_X6_link_1, w_X6_link_4, w_X6_link_5, w_X6_link_6, w_X6_link_9, w_X6_link_12, w_X6_link_13, w_X6_link_16, w_X6_link_19, w_X6_link_20, w_X6_link_21, w_X6_link_22, w_X6_link_25, w_X6_link_26, w_X6_link_27, w_X6_link_30, w_X6_link_31, w_X6_link_34, w_X6_link_35, w_X6_link_38, w_X6_link_41, w_X6_link_43, w_X6_link_46, w_X6_link_47, w_X6_link_48, w_X6_link_49, w_X6_link_52, w_X6_link_53, w_X6_link_54, w_X6_link_55, w_X6_link_58, C_areTwo h.1, c_isCost, mKI_some]
  unfold sLink lkOk at hN'
  unfold qLink sLink lkOk at kk
  rw [two_pair hN]
  rcases two_cs hN a b with ⟨h1, h2⟩ | ⟨x, y, rfl, rfl, hx, hy⟩
  · rw [h1] at kk ⊢
    exact kk c h
  · rw [two_nI hN hx hy] at kk ⊢
    rw [two_nI hN hx hy] at hN'
    dsimp only at kk hN' ⊢
    by_cases e : x = y
    · rw [if_neg (fun q => q.1 e)] at kk
      rw [if_pos (bd0.mpr (fun q => q e))]; exact kk c h
    rw [if_neg (fun q => bd0.mp q e)]
    cases hc : okC 1 99 a1 with
    | false => rw [if_neg (fun q => by rw [hc] at q; cases q.2.1)] at kk; rw [if_neg (fun q => q bf0)]; exact kk c h
    | true =>
      obtain ⟨k, rfl, k1, k99⟩ := okC_nI (lo := 1) (hi := 99) (by decide) (by decide) hc
      rw [if_pos bt1, C_link h.1 hx hy, mKI_some]
      cases hl : lk N x y with
      | some l =>
        have := (lk_some hl).1
        rw [if_neg (fun q => by rw [hl] at q; cases q.2.2.1)] at kk
        rw [en_some, if_pos (fun q => (kNe (by omega)).mp q)]; exact kk c h
      | none =>
        rw [en_none, if_neg (fun q => q rfl), h.1.2.2.1, show (24 : Int32) = nI 24 from rfl]
        by_cases hm : nM N < 24
        · rw [if_pos ⟨e, hc, hl, hm⟩] at kk hN'
          dsimp only at kk hN'
          rw [if_pos ((kLt (by omega) (by decide)).mpr hm)]
          simp (disch := omega) only [w_X2_add_0, w_X2_add_1, w_X2_add_4, w_X2_add_6, w_X2_add_7, w_X2_add_10, w_X2_add_12, w_X2_add_13, w_X2_add_14, w_X2_add_15, w_X2_add_18, w_X2_add_20, w_X2_add_21, w_X2_add_22, w_X2_add_23, w_X2_add_26, w_X2_add_28, w_X2_add_29, w_X2_add_30, w_X2_add_31, w_X2_add_34, w_X2_add_36, w_X2_add_37, w_X2_add_38, w_X2_add_39, w_X2_add_42, w_X2_add_43, w_X2_add_44, w_X2_add_45, w_X2_add_47, w_X2_add_48, w_X2_add_49, w_X2_add_52, w_X2_add_53, w_X2_add_54, w_X2_add_55, w_X2_add_57, w_X2_add_58, w_X2_add_59, w_X2_add_60, w_X2_add_63, w_X2_add_64, w_X2_add_65, w_X2_add_68, w_X2_add_69, w_X2_add_70, w_X2_add_73, w_X2_add_75, h.1.2.2.1, kIn, kCl, hm, show x < 12 by omega, show y < 12 by omega, true_and, true_or, or_true, mKI_some, mUp_k, mUp_j, nI_1]
          rw [kCl (by omega)] at kk hN'
          obtain ⟨-, g2, g3, g4, g5, g6, g7⟩ := h.1
          refine kk _ (CI_of ⟨hN', ?_, ?_, ?_, ?_, ?_, ?_⟩ mUp_s)
          · simp (disch := omega) only [mUp_k, mUp_j]; exact g2
          · simp (disch := omega) only [mUp_k, mUp_j, mUp_s]; rfl
          · intro q hq
            have hq : q < nM N + 1 := hq
            show _ = nI (fup (nA N) (nM N) x q) ∧ _ = nI (fup (nB N) (nM N) y q) ∧ _ = nI (fup (nC N) (nM N) k q) ∧ _ = nI (fup (nG N) (nM N) 0 q)
            simp (disch := omega) only [mUp_k]
            by_cases e2 : q = nM N
            · subst e2; simp only [mUp_s, fup_s]; exact ⟨trivial, trivial, trivial, rfl⟩
            · simp (disch := omega) only [mUp_j, fup_n]; exact g4 q (by omega)
          · intro z w hz hw
            have hz : z < nN N := hz
            have hw : w < nN N := hw
            rw [lk_add]
            simp (disch := omega) only [mUp_k]
            by_cases e1 : z = y
            · subst e1
              by_cases e2 : w = x
              · subst e2; rw [mUp_s, if_pos (Or.inr ⟨rfl, rfl⟩)]; rfl
              · rw [mUp_j e2, if_neg (by omega)]
                simp (disch := omega) only [mUp_k]
                exact g5 z w hz hw
            · simp (disch := omega) only [mUp_k]
              by_cases e2 : z = x
              · subst e2
                by_cases e3 : w = y
                · subst e3; rw [mUp_s, if_pos (Or.inl ⟨rfl, rfl⟩)]; rfl
                · rw [mUp_j e3, if_neg (by omega)]
                  simp (disch := omega) only [mUp_k]
                  exact g5 z w hz hw
              · simp (disch := omega) only [mUp_k]
                rw [if_neg (by omega)]
                exact g5 z w hz hw
          · simp (disch := omega) only [mUp_k]; exact g6
          · simp (disch := omega) only [mUp_k]; exact g7
        · rw [if_neg (fun q => hm q.2.2.2)] at kk
          rw [if_neg (fun q => hm ((kLt (by omega) (by decide)).mp q))]; exact kk c h
theorem CI_down {w z : Nat} {x y : Int32} (h : CI c N wt wh) (hx : x = nI w) (hy : y = nI z) : CI (mUp (mUp c 2 0 x) 2 1 y) N w z := by
  obtain ⟨⟨g1, g2, g3, g4, g5, -, -⟩, g8⟩ := h
  refine ⟨⟨g1, ?_, ?_, ?_, fun x y hx hy => ?_, ?_, ?_⟩, ?_⟩
  · simp (disch := decide) only [mUp_k]; exact g2
  · simp (disch := decide) only [mUp_k]; exact g3
  · simp (disch := decide) only [mUp_k]; exact g4
  · rw [mUp_k (by omega), mUp_k (by omega)]; exact g5 x y hx hy
  · rw [mUp_j (by decide), mUp_s]; exact hx
  · rw [mUp_s]; exact hy
  · simp (disch := decide) only [mUp_k]
    rcases g8 with q | ⟨q1, q2⟩
    · exact Or.inl q
    · refine Or.inr ⟨q1, fun x y hx hy => ?_⟩
      rw [mUp_k (by omega), mUp_k (by omega), mUp_k (by omega), mUp_k (by omega)]
      exact q2 x y hx hy
theorem C_canBeDown (h : CB c N wt wh) : WP mLayH 88 0 [some (.ref 0), some (.int a), some (.int b)] [] c Q ↔ Q (some (bi (dwn N a b).isSome)) c := by
  simp only [w_X6_canBeDown_0, w_X6_canBeDown_1, w_X6_canBeDown_32, w_X6_canBeDown_33, w_X6_canBeDown_34, w_X6_canBeDown_35, w_X6_canBeDown_38, w_X6_canBeDown_39, w_X6_canBeDown_42, w_X6_canBeDown_43, w_X6_canBeDown_44, w_X6_canBeDown_47, w_X6_canBeDown_48, w_X6_canBeDown_51, w_X6_canBeDown_52, w_X6_canBeDown_53, w_X6_canBeDown_56, w_X6_canBeDown_57, w_X6_canBeDown_59, w_X6_canBeDown_62, w_X6_canBeDown_63, w_X6_canBeDown_66, w_X6_canBeDown_67, w_X6_canBeDown_68, w_X6_canBeDown_69, C_isLink h, C_isNode h, mKI_some, bi_01, true_or, or_true, true_and]
  unfold dwn
  by_cases h0 : a = 0
  · rw [if_pos h0, if_pos h0]; exact Iff.rfl
  rw [if_neg h0, if_neg h0]
  by_cases h1 : a = 1
  · rw [if_pos h1, if_pos h1, Option.isSome_map]
  rw [if_neg h1, if_neg h1]
  by_cases h2 : a = 2
  · rw [if_pos h2, if_pos h2, Option.isSome_map]
  rw [if_neg h2, if_neg h2]
  by_cases h3 : a = 3
  · rw [if_pos h3, if_pos h3, Option.isSome_map]
    rw [show (8 : Int32) = nI 8 from rfl, t_node]
    exact ite_bi (Q := fun x => Q (some x) c)
  rw [if_neg h3, if_neg h3]
  exact Iff.rfl
theorem D_down (h : CI c N wt wh) (k1 : dwn N a b = none → ∀ c' : mS, CI c' N wt wh → Q (some 0) c') (k2 : ∀ w z, dwn N a b = some (w, z) → ∀ c' : mS, CI c' N w z → Q (some 1) c') : WP mLayH 63 0 [some (.ref 0), some (.int a), some (.int b)] [] c Q := by
  have h24 := h.1.1.2.2.1
  have h12 := h.1.1.2.1
  simp only [w_X6_down_0, w_X6_down_1, w_X6_down_2, w_X6_down_3, w_X6_down_6, w_X6_down_9, w_X6_down_10, w_X6_down_11, w_X6_down_12, w_X6_down_15, w_X6_down_16, w_X6_down_17, w_X6_down_20, w_X6_down_21, w_X6_down_24, w_X6_down_25, w_X6_down_28, w_X6_down_29, C_canBeDown h.1, C_set, mKI_some, mKV_none, true_or, or_true, true_and]
  cases hd : dwn N a b with
  | none => exact k1 hd c h
  | some p =>
    obtain ⟨w, z⟩ := p
    have kk := k2 w z hd
    rw [if_pos (show ¬ bi (some (w, z)).isSome = 0 from bt1)]
    unfold dwn at hd
    by_cases h0 : a = 0
    · rw [if_pos h0] at hd; cases hd
      rw [if_neg (fun q => q h0)]
      exact kk _ (CI_down h h0 rfl)
    rw [if_neg h0] at hd
    rw [if_pos h0]
    by_cases h1 : a = 1
    · rw [if_pos h1] at hd
      cases hi : ix (nM N) b with
      | none => rw [hi] at hd; cases hd
      | some k =>
        rw [hi] at hd; cases hd
        exact kk _ (CI_down h h1 (ix_some (by omega) hi).1)
    rw [if_neg h1] at hd
    by_cases h2 : a = 2
    · rw [if_pos h2] at hd
      cases hi : ix (nN N) b with
      | none => rw [hi] at hd; cases hd
      | some k =>
        rw [hi] at hd; cases hd
        exact kk _ (CI_down h h2 (ix_some (by omega) hi).1)
    rw [if_neg h2] at hd
    by_cases h3 : a = 3
    · rw [if_pos h3] at hd
      cases hi : ix 8 b with
      | none => rw [hi] at hd; cases hd
      | some k =>
        rw [hi] at hd; cases hd
        exact kk _ (CI_down h h3 (ix_some (by omega) hi).1)
    rw [if_neg h3] at hd
    cases hd
theorem maxN_ge {f : Nat → Nat} : ∀ {n k : Nat}, k < n → f k ≤ maxN f n
  | 0, k, h => absurd h (Nat.not_lt_zero k)
  | n + 1, k, h => by
    unfold maxN
    by_cases e : k = n
    · subst e; split <;> omega
    · have := maxN_ge (f := f) (n := n) (k := k) (by omega)
      split <;> omega
/-- if one NODE is out of reach from v, each NODE has one out of its reach -/
theorem far_all (hN : Nok N) {v w : Nat} (hv : v < nN N) (hw : w < nN N) (h : INF ≤ maxN (fun y => fr N v y) (nN N)) : INF ≤ maxN (fun y => fr N w y) (nN N) := by
  have hex : ∃ y, y < nN N ∧ fr N v y = INF := by
    apply Classical.byContradiction
    intro q
    have : maxN (fun y => fr N v y) (nN N) ≤ 1089 := maxN_le (fun y hy => by
      have h1 := fr_inf hN hv hy
      exact gd_small hN hy hv (Nat.lt_of_le_of_ne h1 (fun e => q ⟨y, hy, e⟩)))
    have hi : INF = 1000000 := rfl
    omega
  obtain ⟨y, hy, he⟩ := hex
  have hi : INF = 1000000 := rfl
  have tri : fr N v y ≤ fr N v w + fr N w y := by
    have := gd_tri (but := none) hN hw hy _ v hv rfl
    unfold fr
    rw [show gd N none w v = gd N none w v from rfl] at this
    exact this
  by_cases q1 : fr N w y < INF
  · have s1 : fr N w y ≤ 1089 := gd_small hN hy hw q1
    have q2 : ¬ fr N v w < INF := fun q => by
      have : fr N v w ≤ 1089 := gd_small hN hw hv q
      omega
    have := maxN_ge (f := fun y => fr N w y) hv
    rw [fr_comm hN hw hv] at this
    omega
  · have := maxN_ge (f := fun y => fr N w y) hy
    omega
theorem cenS_no : ∀ x, (∀ v, v < x → INF ≤ maxN (fun y => fr N v y) (nN N)) → cenS N x = (none, INF)
  | 0, _ => rfl
  | x + 1, h => by
    unfold cenS
    rw [cenS_no x (fun v hv => h v (by omega)), if_neg (Nat.not_lt.mpr (h x (by omega)))]
theorem centre_loop (h : CS c N wt wh) (kk : Q (some (qCentre N)) c) : ∀ (k x : Nat) (l4 : Option Value), x + k = nN N → (∀ o, (cenS N x).1 = some o → o < 12) →
    WP mLayH 83 14 [some (.ref 0), some (.int (en (cenS N x).1)), some (.int (nI (cenS N x).2)), some (.int (nI x)), l4] [] c Q := by
  have hN := h.1.1
  have h12 := hN.2.1
  have hi : INF = 1000000 := rfl
  intro k
  induction k with
  | zero =>
    intro x l4 hx _
    rw [w_X6_centre_14]
    simp only [w_X6_centre_0, w_X6_centre_1, w_X6_centre_4, w_X6_centre_7, w_X6_centre_8, w_X6_centre_9, w_X6_centre_11, w_X6_centre_12, w_X6_centre_13, w_X6_centre_15, w_X6_centre_16, w_X6_centre_19, w_X6_centre_22, w_X6_centre_25, w_X6_centre_26, w_X6_centre_29, w_X6_centre_30, w_X6_centre_33, w_X6_centre_35, w_X6_centre_37, w_X6_centre_39, w_X6_centre_42, w_X6_centre_43, w_X6_centre_44, w_X6_centre_46, w_X6_centre_47, w_X6_centre_50, w_X6_centre_52, w_X6_centre_53, w_X6_centre_54, w_X6_centre_55, w_X6_centre_58, w_X6_centre_61, w_X6_centre_62, h.1.2.1]
    rw [if_pos ((kLe (by omega) (by omega)).mpr (by omega)), show x = nN N by omega]
    exact kk
  | succ k ih =>
    intro x l4 hx ho
    have hm : maxN (fun y => fr N x y) (nN N) ≤ 1000000 := maxN_le (fun z hz => fr_inf hN (by omega) hz)
    have hc := cenS_le (N := N) x
    rw [w_X6_centre_14]
    simp only [w_X6_centre_0, w_X6_centre_1, w_X6_centre_4, w_X6_centre_7, w_X6_centre_8, w_X6_centre_9, w_X6_centre_11, w_X6_centre_12, w_X6_centre_13, w_X6_centre_15, w_X6_centre_16, w_X6_centre_19, w_X6_centre_22, w_X6_centre_25, w_X6_centre_26, w_X6_centre_29, w_X6_centre_30, w_X6_centre_33, w_X6_centre_35, w_X6_centre_37, w_X6_centre_39, w_X6_centre_42, w_X6_centre_43, w_X6_centre_44, w_X6_centre_46, w_X6_centre_47, w_X6_centre_50, w_X6_centre_52, w_X6_centre_53, w_X6_centre_54, w_X6_centre_55, w_X6_centre_58, w_X6_centre_61, w_X6_centre_62, h.1.2.1]
    rw [if_neg (fun q => by rw [kLe (by omega) (by omega)] at q; omega), C_farthest h (show x < nN N by omega), mKI_some, nI_1, show (1000000 : Int32) = nI INF from rfl]
    by_cases e : maxN (fun y => fr N x y) (nN N) < INF
    · rw [if_pos ((kLt (by omega) (by omega)).mpr e)]
      have ih' := ih (x + 1)
      rw [show cenS N (x + 1) = (if maxN (fun y => fr N x y) (nN N) < (cenS N x).2 then (some x, maxN (fun y => fr N x y) (nN N)) else cenS N x) from rfl] at ih'
      by_cases e2 : maxN (fun y => fr N x y) (nN N) < (cenS N x).2
      · rw [if_neg (fun q => by rw [kLe (by omega) (by omega)] at q; omega)]
        rw [if_pos e2] at ih'
        exact ih' _ (by omega) (fun o ho => by cases ho; omega)
      · rw [if_pos ((kLe (by omega) (by omega)).mpr (by omega))]
        rw [if_neg e2] at ih'
        exact ih' _ (by omega) ho
    · rw [if_neg (fun q => e ((kLt (by omega) (by omega)).mp q))]
      have : qCentre N = -1 := by
        unfold qCentre
        rw [cenS_no (nN N) (fun v hv => far_all hN (show x < nN N by omega) hv (Nat.not_lt.mp e))]
        rfl
      rw [this] at kk
      exact kk
theorem D_centre (h : CI c N wt wh) (kk : ∀ c' : mS, CI c' N wt wh → Q (some (qCentre N)) c') : WP mLayH 83 0 [some (.ref 0), none, none, none, none] [] c Q := by
  simp only [w_X6_centre_0, w_X6_centre_1, w_X6_centre_4, w_X6_centre_7, w_X6_centre_8, w_X6_centre_9, w_X6_centre_11, w_X6_centre_12, w_X6_centre_13, w_X6_centre_15, w_X6_centre_16, w_X6_centre_19, w_X6_centre_22, w_X6_centre_25, w_X6_centre_26, w_X6_centre_29, w_X6_centre_30, w_X6_centre_33, w_X6_centre_35, w_X6_centre_37, w_X6_centre_39, w_X6_centre_42, w_X6_centre_43, w_X6_centre_44, w_X6_centre_46, w_X6_centre_47, w_X6_centre_50, w_X6_centre_52, w_X6_centre_53, w_X6_centre_54, w_X6_centre_55, w_X6_centre_58, w_X6_centre_61, w_X6_centre_62]
  refine C_settle h (fun c1 h1 => ?_)
  rw [mKV_none]
  exact centre_loop h1 (kk c1 (CS_I h1)) (nN N) 0 none (by omega) (fun o ho => by cases ho)
end CL5
