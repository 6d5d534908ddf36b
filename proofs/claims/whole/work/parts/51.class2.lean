/-! the class: NEXT, settle -/
section CL3
variable {c : mS} {N : Nt} {wt wh : Nat} {Q : Option Int32 → mS → Prop} {p d : Nat} {but : Option Nat}
theorem gd_b31 (hN : Nok N) (hd : d < nN N) {v : Nat} (hv : v < nN N) : gd N but d v ≤ 1000000 := gd_inf hN hd hv
theorem hopBy_n (hp : mLayH[p]? = some (.inr (.inl 12))) (h : CB c N wt wh) (hd : d < nN N) (hbl : ∀ q, but = some q → q < 24) (hR : RW c p N (gd N but d)) {v : Nat} (hv : v < nN N) (hi : gd N but d v < INF) : ∀ (k n : Nat) (l5 : Option Value), n + k = nN N →
    (WP mLayH 33 13 [some (.ref 1), some (.ref p), some (.int (nI v)), some (.int (en but)), some (.int (nI n)), l5] [] c Q ↔ Q (some (en (fstG (nxc N but d v) n (nN N)))) c) := by
  have hN := h.1
  have h12 := hN.2.1
  have h24 := hN.2.2.1
  intro k
  induction k with
  | zero =>
    intro n l5 hn
    rw [w_X2_hopBy_13]
    simp only [w_X2_hopBy_0, w_X2_hopBy_1, w_X2_hopBy_3, w_X2_hopBy_5, w_X2_hopBy_8, w_X2_hopBy_9, w_X2_hopBy_10, w_X2_hopBy_11, w_X2_hopBy_15, w_X2_hopBy_16, w_X2_hopBy_19, w_X2_hopBy_22, w_X2_hopBy_23, w_X2_hopBy_26, w_X2_hopBy_27, w_X2_hopBy_28, w_X2_hopBy_30, w_X2_hopBy_31, w_X2_hopBy_33, w_X2_hopBy_35, w_X2_hopBy_36, w_X2_hopBy_39, w_X2_hopBy_41, w_X2_hopBy_42, w_X2_hopBy_45, w_X2_hopBy_46, w_X2_hopBy_49, w_X2_hopBy_51, w_X2_hopBy_52, w_X2_hopBy_53, w_X2_hopBy_56, w_X2_hopBy_57, w_X2_hopBy_58, w_X2_hopBy_60, w_X2_hopBy_63, w_X2_hopBy_65, w_X2_hopBy_66, w_X2_hopBy_69, w_X2_hopBy_72, w_X2_hopBy_73, h.2.1]
    rw [if_pos ((kLe (by omega) (by omega)).mpr (by omega)), show n = nN N by omega, fstG_n]
    exact Iff.rfl
  | succ k ih =>
    intro n l5 hn
    have hnn : n < nN N := by omega
    rw [w_X2_hopBy_13]
    simp only [w_X2_hopBy_0, w_X2_hopBy_1, w_X2_hopBy_3, w_X2_hopBy_5, w_X2_hopBy_8, w_X2_hopBy_9, w_X2_hopBy_10, w_X2_hopBy_11, w_X2_hopBy_15, w_X2_hopBy_16, w_X2_hopBy_19, w_X2_hopBy_22, w_X2_hopBy_23, w_X2_hopBy_26, w_X2_hopBy_27, w_X2_hopBy_28, w_X2_hopBy_30, w_X2_hopBy_31, w_X2_hopBy_33, w_X2_hopBy_35, w_X2_hopBy_36, w_X2_hopBy_39, w_X2_hopBy_41, w_X2_hopBy_42, w_X2_hopBy_45, w_X2_hopBy_46, w_X2_hopBy_49, w_X2_hopBy_51, w_X2_hopBy_52, w_X2_hopBy_53, w_X2_hopBy_56, w_X2_hopBy_57, w_X2_hopBy_58, w_X2_hopBy_60, w_X2_hopBy_63, w_X2_hopBy_65, w_X2_hopBy_66, w_X2_hopBy_69, w_X2_hopBy_72, w_X2_hopBy_73, w_X2_hopBy_55 hp, w_X2_hopBy_59 hp, h.2.1]
    rw [if_neg (fun q => by rw [kLe (by omega) (by omega)] at q; omega), fstG_step hnn, nI_1]
    simp (disch := omega) only [kIn, kCl, h.2.2.2.2.1 v n hv hnn, hR v hv, hR n hnn, show v < 12 by omega, show n < 12 by omega, true_and, ih (n + 1) _ (show n + 1 + k = nN N by omega)]
    have g1 := gd_b31 (but := but) hN hd hv
    have g2 := gd_b31 (but := but) hN hd hnn
    cases hl : lk N v n with
    | none =>
      rw [en_none, if_pos rfl, if_neg (by unfold nxc; rw [hl]; exact Bool.false_ne_true)]
    | some l =>
      obtain ⟨hlm, hj⟩ := lk_some hl
      obtain ⟨-, -, -, hc1, hc2⟩ := jn_lt hN hlm hj
      rw [en_some, if_neg (fun q => (kNe (by omega)).mp q)]
      by_cases hb : some l = but
      · rw [if_pos ((en_but (by omega) hbl).mpr hb), if_neg (fun q => by
          obtain ⟨l', q1, q2, -⟩ := nxc_iff.mp q
          rw [hl] at q1; cases q1; exact q2 hb)]
      · rw [if_neg (fun q => hb ((en_but (by omega) hbl).mp q))]
        simp (disch := omega) only [kIn, kCl, (h.2.2.2.1 l hlm).2.2.1, nI_add, kEq, show l < 24 by omega, true_and]
        by_cases e : nC N l + gd N but d n = gd N but d v
        · rw [if_neg (fun q => q e), if_pos (nxc_iff.mpr ⟨l, hl, hb, fun q => by rw [q, gd_0 hN hd] at e; omega, hi, e⟩)]
          exact Iff.rfl
        · rw [if_pos e, if_neg (fun q => by
            obtain ⟨l', q1, -, -, -, q5⟩ := nxc_iff.mp q
            rw [hl] at q1; cases q1; exact e q5)]
theorem C_hopBy (hp : mLayH[p]? = some (.inr (.inl 12))) (h : CB c N wt wh) (hd : d < nN N) (hbl : ∀ q, but = some q → q < 24) (hR : RW c p N (gd N but d)) {v : Nat} (hv : v < nN N) :
    WP mLayH 33 0 [some (.ref 1), some (.ref p), some (.int (nI v)), some (.int (en but)), none, none] [] c Q ↔ Q (some (en (nx N but d v))) c := by
  have hN := h.1
  have h12 := hN.2.1
  have g1 := gd_b31 (but := but) hN hd hv
  simp only [w_X2_hopBy_0, w_X2_hopBy_1, w_X2_hopBy_3, w_X2_hopBy_5, w_X2_hopBy_8, w_X2_hopBy_9, w_X2_hopBy_10, w_X2_hopBy_11, w_X2_hopBy_15, w_X2_hopBy_16, w_X2_hopBy_19, w_X2_hopBy_22, w_X2_hopBy_23, w_X2_hopBy_26, w_X2_hopBy_27, w_X2_hopBy_28, w_X2_hopBy_30, w_X2_hopBy_31, w_X2_hopBy_33, w_X2_hopBy_35, w_X2_hopBy_36, w_X2_hopBy_39, w_X2_hopBy_41, w_X2_hopBy_42, w_X2_hopBy_45, w_X2_hopBy_46, w_X2_hopBy_49, w_X2_hopBy_51, w_X2_hopBy_52, w_X2_hopBy_53, w_X2_hopBy_56, w_X2_hopBy_57, w_X2_hopBy_58, w_X2_hopBy_60, w_X2_hopBy_63, w_X2_hopBy_65, w_X2_hopBy_66, w_X2_hopBy_69, w_X2_hopBy_72, w_X2_hopBy_73, w_X2_hopBy_2 hp]
  simp (disch := omega) only [kIn, kCl, hR v hv, show v < 12 by omega, true_and]
  rw [show (1000000 : Int32) = nI INF from rfl]
  by_cases hi : gd N but d v < INF
  · rw [if_pos ((kLt (by omega) (by decide)).mpr hi)]
    unfold nx
    rw [← fstG_0]
    exact hopBy_n hp h hd hbl hR hv hi (nN N) 0 none (by omega)
  · rw [if_neg (fun q => hi ((kLt (by omega) (by decide)).mp q)), (nx_none hN hd hv).mpr (Or.inr (by
      have := gd_inf (but := but) hN hd hv
      omega))]
    exact Iff.rfl
/-- FAR and NEXT towards the first d NODES -/
def CFd (c : mS) (N : Nt) (d v : Nat) : Prop := (∀ x y, x < nN N → y < nN N → (x < d ∨ (x = d ∧ 0 < v)) → c (20 + x) y = nI (gd N none x y)) ∧ ∀ x y, x < nN N → y < nN N → (y < d ∨ (y = d ∧ x + 1 < v)) → c (32 + x) y = en (nx N none y x)
theorem CB_1 {c' : mS} (h : CB c N wt wh) (h1 : ∀ k, k ≠ 1 → ¬ (11 ≤ k ∧ k < 44) → c' k = c k) (h2 : c' 1 0 = c 1 0) (h3 : c' 1 1 = c 1 1) : CB c' N wt wh := by
  obtain ⟨g1, g2, g3, g4, g5, g6, g7⟩ := h
  refine ⟨g1, ?_, ?_, ?_, fun x y hx hy => ?_, ?_, ?_⟩
  · rw [h2]; exact g2
  · rw [h3]; exact g3
  · rw [h1 7 (by omega) (by omega), h1 8 (by omega) (by omega), h1 9 (by omega) (by omega), h1 10 (by omega) (by omega)]; exact g4
  · rw [h1 (44 + x) (by omega) (by omega)]; exact g5 x y hx hy
  · rw [h1 2 (by omega) (by omega)]; exact g6
  · rw [h1 2 (by omega) (by omega)]; exact g7
theorem sett_v (hd : d < nN N) : ∀ (k v : Nat) (c : mS), CB c N wt wh → c 1 9 = 0 → v + k = nN N → CFd c N d (v + 1) →
    (∀ (c' : mS) (l2 : Option Value), CB c' N wt wh → c' 1 9 = 0 → CFd c' N (d + 1) 0 → WP mLayH 30 15 [some (.ref 1), some (.int (nI (d + 1))), l2] [] c' Q) →
    WP mLayH 30 37 [some (.ref 1), some (.int (nI d)), some (.int (nI v))] [] c Q := by
  intro k
  induction k with
  | zero =>
    intro v c h h9 hv hF kk
    have h12 := h.1.2.1
    rw [w_X2_settle_37]
    simp only [w_X2_settle_0, w_X2_settle_1, w_X2_settle_4, w_X2_settle_7, w_X2_settle_8, w_X2_settle_9, w_X2_settle_10, w_X2_settle_13, w_X2_settle_14, w_X2_settle_16, w_X2_settle_17, w_X2_settle_20, w_X2_settle_23, w_X2_settle_24, w_X2_settle_25, w_X2_settle_28, w_X2_settle_29, w_X2_settle_30, w_X2_settle_31, w_X2_settle_32, w_X2_settle_35, w_X2_settle_36, w_X2_settle_38, w_X2_settle_39, w_X2_settle_42, w_X2_settle_45, w_X2_settle_46, w_X2_settle_49, w_X2_settle_50, w_X2_settle_51, w_X2_settle_52, w_X2_settle_53, w_X2_settle_54, w_X2_settle_57, w_X2_settle_58, w_X2_settle_59, w_X2_settle_60, w_X2_settle_61, w_X2_settle_64, w_X2_settle_65, w_X2_settle_68, w_X2_settle_71, w_X2_settle_74, w_X2_settle_77, h.2.1]
    rw [if_pos ((kLe (by omega) (by omega)).mpr (by omega)), nI_1]
    exact kk c _ h h9 ⟨fun x y hx hy hh => hF.1 x y hx hy (by omega), fun x y hx hy hh => hF.2 x y hx hy (by omega)⟩
  | succ k ih =>
    intro v c h h9 hv hF kk
    have h12 := h.1.2.1
    rw [w_X2_settle_37]
    simp only [w_X2_settle_0, w_X2_settle_1, w_X2_settle_4, w_X2_settle_7, w_X2_settle_8, w_X2_settle_9, w_X2_settle_10, w_X2_settle_13, w_X2_settle_14, w_X2_settle_16, w_X2_settle_17, w_X2_settle_20, w_X2_settle_23, w_X2_settle_24, w_X2_settle_25, w_X2_settle_28, w_X2_settle_29, w_X2_settle_30, w_X2_settle_31, w_X2_settle_32, w_X2_settle_35, w_X2_settle_36, w_X2_settle_38, w_X2_settle_39, w_X2_settle_42, w_X2_settle_45, w_X2_settle_46, w_X2_settle_49, w_X2_settle_50, w_X2_settle_51, w_X2_settle_52, w_X2_settle_53, w_X2_settle_54, w_X2_settle_57, w_X2_settle_58, w_X2_settle_59, w_X2_settle_60, w_X2_settle_61, w_X2_settle_64, w_X2_settle_65, w_X2_settle_68, w_X2_settle_71, w_X2_settle_74, w_X2_settle_77, h.2.1]
    rw [if_neg (fun q => by rw [kLe (by omega) (by omega)] at q; omega)]
    have hR : RW c (20 + d) N (gd N none d) := fun y hy => hF.1 d y hd hy (by omega)
    simp (disch := omega) only [kIn, kCl, show d < 12 by omega, show v < 12 by omega, show v < 24 by omega, true_and]
    rw [show (-1 : Int32) = en none from rfl, C_hopBy (by rw [mLayH_row20, if_pos (by omega)]) h hd (fun q hq => by cases hq) hR (show v < nN N by omega), mKI_some, nI_1]
    have hb : but1 (32 + v) c (mUp c (32 + v) d (en (nx N none d v))) := but1_up
    refine ih (v + 1) _ (CB_but h hb (by omega) (by omega)) (by rw [hb 1 (by omega)]; exact h9) (by omega) ⟨fun x y hx hy hh => ?_, fun x y hx hy hh => ?_⟩ kk
    · rw [hb (20 + x) (by omega)]; exact hF.1 x y hx hy (by omega)
    · by_cases e : x = v
      · subst e
        by_cases e2 : y = d
        · subst e2; rw [mUp_s]
        · rw [mUp_j e2]; exact hF.2 x y hx hy (by omega)
      · rw [hb (32 + x) (by omega)]; exact hF.2 x y hx hy (by omega)
theorem sett_d : ∀ (k d : Nat) (c : mS) (l2 : Option Value), CB c N wt wh → c 1 9 = 0 → d + k = nN N → CFd c N d 0 →
    (∀ (c' : mS), CS c' N wt wh → Q none c') →
    WP mLayH 30 15 [some (.ref 1), some (.int (nI d)), l2] [] c Q := by
  intro k
  induction k with
  | zero =>
    intro d c l2 h h9 hd hF kk
    have h12 := h.1.2.1
    rw [w_X2_settle_15]
    simp only [w_X2_settle_0, w_X2_settle_1, w_X2_settle_4, w_X2_settle_7, w_X2_settle_8, w_X2_settle_9, w_X2_settle_10, w_X2_settle_13, w_X2_settle_14, w_X2_settle_16, w_X2_settle_17, w_X2_settle_20, w_X2_settle_23, w_X2_settle_24, w_X2_settle_25, w_X2_settle_28, w_X2_settle_29, w_X2_settle_30, w_X2_settle_31, w_X2_settle_32, w_X2_settle_35, w_X2_settle_36, w_X2_settle_38, w_X2_settle_39, w_X2_settle_42, w_X2_settle_45, w_X2_settle_46, w_X2_settle_49, w_X2_settle_50, w_X2_settle_51, w_X2_settle_52, w_X2_settle_53, w_X2_settle_54, w_X2_settle_57, w_X2_settle_58, w_X2_settle_59, w_X2_settle_60, w_X2_settle_61, w_X2_settle_64, w_X2_settle_65, w_X2_settle_68, w_X2_settle_71, w_X2_settle_74, w_X2_settle_77, h.2.1]
    rw [if_pos ((kLe (by omega) (by omega)).mpr (by omega))]
    exact kk c ⟨h, h9, fun x y hx hy => ⟨hF.1 x y hx hy (by omega), hF.2 x y hx hy (by omega)⟩⟩
  | succ k ih =>
    intro d c l2 h h9 hd hF kk
    have h12 := h.1.2.1
    rw [w_X2_settle_15]
    simp only [w_X2_settle_0, w_X2_settle_1, w_X2_settle_4, w_X2_settle_7, w_X2_settle_8, w_X2_settle_9, w_X2_settle_10, w_X2_settle_13, w_X2_settle_14, w_X2_settle_16, w_X2_settle_17, w_X2_settle_20, w_X2_settle_23, w_X2_settle_24, w_X2_settle_25, w_X2_settle_28, w_X2_settle_29, w_X2_settle_30, w_X2_settle_31, w_X2_settle_32, w_X2_settle_35, w_X2_settle_36, w_X2_settle_38, w_X2_settle_39, w_X2_settle_42, w_X2_settle_45, w_X2_settle_46, w_X2_settle_49, w_X2_settle_50, w_X2_settle_51, w_X2_settle_52, w_X2_settle_53, w_X2_settle_54, w_X2_settle_57, w_X2_settle_58, w_X2_settle_59, w_X2_settle_60, w_X2_settle_61, w_X2_settle_64, w_X2_settle_65, w_X2_settle_68, w_X2_settle_71, w_X2_settle_74, w_X2_settle_77, h.2.1]
    rw [if_neg (fun q => by rw [kLe (by omega) (by omega)] at q; omega)]
    simp (disch := omega) only [kIn, kCl, show d < 12 by omega, true_and]
    rw [show (-1 : Int32) = en none from rfl]
    refine C_measure (by rw [mLayH_row20, if_pos (by omega)]) (by omega) (by omega) h (by omega) (fun q hq => by cases hq) (fun c1 a1 a2 => ?_)
    rw [mKV_none]
    refine sett_v (show d < nN N by omega) (nN N) 0 c1 (CB_but h a1 (by omega) (by omega)) (by rw [a1 1 (by omega)]; exact h9) (by omega) ⟨fun x y hx hy hh => ?_, fun x y hx hy hh => ?_⟩ (fun c2 l2 b1 b2 b3 => ih (d + 1) c2 l2 b1 b2 (by omega) b3 kk)
    · by_cases e : x = d
      · subst e; exact a2 y hy
      · rw [a1 (20 + x) (by omega)]; exact hF.1 x y hx hy (by omega)
    · rw [a1 (32 + x) (by omega)]; exact hF.2 x y hx hy (by omega)
/-- settle: FAR and NEXT hold -/
theorem C_settle (h : CI c N wt wh) (kk : ∀ (c' : mS), CS c' N wt wh → Q none c') : WP mLayH 30 0 [some (.ref 1), none, none] [] c Q := by
  simp only [w_X2_settle_0, w_X2_settle_1, w_X2_settle_4, w_X2_settle_7, w_X2_settle_8, w_X2_settle_9, w_X2_settle_10, w_X2_settle_13, w_X2_settle_14, w_X2_settle_16, w_X2_settle_17, w_X2_settle_20, w_X2_settle_23, w_X2_settle_24, w_X2_settle_25, w_X2_settle_28, w_X2_settle_29, w_X2_settle_30, w_X2_settle_31, w_X2_settle_32, w_X2_settle_35, w_X2_settle_36, w_X2_settle_38, w_X2_settle_39, w_X2_settle_42, w_X2_settle_45, w_X2_settle_46, w_X2_settle_49, w_X2_settle_50, w_X2_settle_51, w_X2_settle_52, w_X2_settle_53, w_X2_settle_54, w_X2_settle_57, w_X2_settle_58, w_X2_settle_59, w_X2_settle_60, w_X2_settle_61, w_X2_settle_64, w_X2_settle_65, w_X2_settle_68, w_X2_settle_71, w_X2_settle_74, w_X2_settle_77]
  obtain ⟨h1, h2 | ⟨h2, h3⟩⟩ := h
  · rw [h2, if_pos (by decide)]
    refine ⟨Or.inl trivial, ?_⟩
    refine sett_d (nN N) 0 _ none (CB_1 h1 (fun k hk _ => mUp_kf hk) (mUp_j (by decide)) (mUp_j (by decide))) mUp_s (by omega) ⟨fun x y _ _ hh => by omega, fun x y _ _ hh => by omega⟩ kk
  · rw [if_neg (fun q => q h2)]
    exact kk c ⟨h1, h2, h3⟩
end CL3
