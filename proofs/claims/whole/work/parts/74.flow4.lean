/-! CUT: findWay, useWay, leastCut -/
section FL4
variable {c : mS} {N : Nt} {wt wh : Nat} {Q : Option Int32 → mS → Prop} {u : Nat → Int} {a b : Nat}
def s89 (c c' : mS) : Prop := ∀ k, k ≠ 18 → k ≠ 19 → c' k = c k
theorem s89_tr {a b c : mS} (h : s89 a b) (h2 : s89 b c) : s89 a c := fun k h3 h4 => by rw [h2 k h3 h4, h k h3 h4]
theorem s89_scr {c c' : mS} (h : s89 c c') : scr c c' := fun k h1 h2 => h k (by omega) (by omega)
theorem UR_s89 {c' : mS} (h : UR c N u) (hs : s89 c c') : UR c' N u := ⟨h.1, fun l hl => by rw [hs 17 (by decide) (by decide)]; exact h.2 l hl⟩
theorem find_loop (hb : b < nN N) {a0 : Int32} : ∀ (k hd : Nat) (c : mS) (cf : Nat → Option Nat) (q : Nat → Nat) (w : Nat), hd + k = nN N → CB c N wt wh → UR c N u → BQ N u a cf q w → QR c N cf q w → (∀ i, i < hd → i < w → ∀ x, x < nN N → fre N u (q i) x = true → (cf x).isSome = true) →
    (∀ (c' : mS) (cf' : Nat → Option Nat) (q' : Nat → Nat) (w' : Nat), s89 c c' → BQ N u a cf' q' w' → QR c' N cf' q' w' → ((cf' b).isSome = false → ∀ i, i < w' → ∀ x, x < nN N → fre N u (q' i) x = true → (cf' x).isSome = true) → Q (some (bi (cf' b).isSome)) c') →
    WP mLayH 12 28 [some (.ref 6), some (.ref 1), some (.int a0), some (.int (nI b)), some (.int (nI w)), some (.int (nI hd))] [] c Q := by
  have fin' : ∀ (c : mS) (cf : Nat → Option Nat) (q : Nat → Nat) (w : Nat) (l5 : Option Value), QR c N cf q w → nN N ≤ 12 → ∀ hd : Nat, Q (some (bi (cf b).isSome)) c → WP mLayH 12 76 [some (.ref 6), some (.ref 1), some (.int a0), some (.int (nI b)), some (.int (nI w)), some (.int (nI hd))] [] c Q := by
    intro c cf q w l5 hR h12 hd k
    simp (disch := omega) only [w_X1_findWay_76, w_X1_findWay_77, w_X1_findWay_80, w_X1_findWay_81, w_X1_findWay_82, w_X1_findWay_83, w_X1_findWay_86, w_X1_findWay_87, w_X1_findWay_90, w_X1_findWay_91, kIn, kCl, (hR.1 b hb).1, show b < 12 by omega, true_and, true_or, or_true]
    cases hc : cf b with
    | none => rw [hc] at k; rw [en_none, if_pos rfl]; exact k
    | some z =>
      have := (hR.1 b hb).2 z hc
      rw [hc] at k
      rw [en_some, if_neg (fun y => (kNe (by omega)).mp y)]; exact k
  intro k
  induction k with
  | zero =>
    intro hd c cf q w hk h hU hB hR hcl kk
    have h12 := h.1.2.1
    have hw : w ≤ nN N := by rw [hB.2.1]; exact cnt_le
    rw [w_X1_findWay_28]
    simp only [w_X1_findWay_30, w_X1_findWay_31, w_X1_findWay_34, h.2.1]
    rw [if_pos ((kLe (by omega) (by omega)).mpr (by omega))]
    exact fin' c cf q w none hR h12 hd (kk c cf q w (fun _ _ _ => rfl) hB hR (fun _ i hi => hcl i (by omega) hi))
  | succ k ih =>
    intro hd c cf q w hk h hU hB hR hcl kk
    have h12 := h.1.2.1
    have hw : w ≤ nN N := by rw [hB.2.1]; exact cnt_le
    rw [w_X1_findWay_28]
    simp (disch := omega) only [w_X1_findWay_30, w_X1_findWay_31, w_X1_findWay_34, w_X1_findWay_37, w_X1_findWay_39, w_X1_findWay_41, w_X1_findWay_44, w_X1_findWay_45, w_X1_findWay_48, w_X1_findWay_49, w_X1_findWay_50, w_X1_findWay_51, h.2.1, kIn, kCl, (hR.1 b hb).1, kLe, show b < 12 by omega, true_and]
    rw [if_neg (fun z => by omega)]
    by_cases e1 : w ≤ hd
    · rw [if_pos e1]
      exact fin' c cf q w none hR h12 hd (kk c cf q w (fun _ _ _ => rfl) hB hR (fun _ i hi => hcl i (by omega) hi))
    · rw [if_neg e1]
      cases hc : cf b with
      | some z =>
        have hz := (hR.1 b hb).2 z hc
        rw [en_some, if_pos (show ¬ nI z = -1 from fun y => (kNe (by omega)).mp y)]
        exact fin' c cf q w none hR h12 hd (kk c cf q w (fun _ _ _ => rfl) hB hR (fun y => by rw [hc] at y; cases y))
      | none =>
        rw [en_none, if_neg (fun z => z rfl)]
        simp (disch := omega) only [w_X1_findWay_54, w_X1_findWay_55, w_X1_findWay_56, w_X1_findWay_57, w_X1_findWay_60, w_X1_findWay_62, w_X1_findWay_63, w_X1_findWay_65, w_X1_spread_0, w_X1_spread_1, w_X1_spread_3, w_X1_spread_4, kIn, kCl, hR.2 hd (by omega), show hd < 12 by omega, true_and]
        refine spread_loop (h0 := hd) (nN N) 0 c cf q w (by omega) h hU hB hR (by omega) (fun x hx => by omega) (fun c2 cf2 q2 w2 a1 a2 a3 a4 a5 a6 a7 => ?_)
        simp only [mKI_some, w_X1_findWay_68, w_X1_findWay_70, w_X1_findWay_73, nI_1]
        refine ih (hd + 1) c2 cf2 q2 w2 (by omega) (CB_1 h (fun k h1 h2 => a1 k (by omega) (by omega)) (by rw [a1 1 (by decide) (by decide)]) (by rw [a1 1 (by decide) (by decide)])) (UR_s89 hU a1) a2 a3 (fun i hi hiw x hx hf => ?_) (fun c3 cf3 q3 w3 d1 d2 d3 d4 => kk c3 cf3 q3 w3 (s89_tr a1 d1) d2 d3 d4)
        rw [a5 i (by omega)] at hf
        by_cases e : i = hd
        · subst e; exact a7 x hx hf
        · exact a6 x (hcl i (by omega) (by omega) x hx hf)
theorem C_find (h : CB c N wt wh) (hU : UR c N u) (ha : a < nN N) (hb : b < nN N) (kk : ∀ (c' : mS) (cf' : Nat → Option Nat) (q' : Nat → Nat) (w' : Nat), s89 c c' → BQ N u a cf' q' w' → QR c' N cf' q' w' → ((cf' b).isSome = false → ∀ i, i < w' → ∀ x, x < nN N → fre N u (q' i) x = true → (cf' x).isSome = true) → Q (some (bi (cf' b).isSome)) c') : WP mLayH 12 0 [some (.ref 6), some (.ref 1), some (.int (nI a)), some (.int (nI b)), none, none] [] c Q := by
  have h12 := h.1.2.1
  simp only [w_X1_findWay_0, w_X1_findWay_1, w_X1_findWay_4, w_X1_findWay_5, w_X1_findWay_8, w_X1_findWay_9, w_X1_findWay_12, w_X1_findWay_13, w_X1_findWay_14, w_X1_findWay_15, w_X1_findWay_16, w_X1_findWay_19, w_X1_findWay_20, w_X1_findWay_21, w_X1_findWay_22, w_X1_findWay_23, w_X1_findWay_25, w_X1_findWay_26]
  refine C_fill0 (p := 18) (n := 12) rfl (by decide) (fun c1 b1 b2 => ?_)
  rw [mKV_none, kIn (by omega), kCl (by omega), show (0 : Int32) = nI 0 from rfl, kIn (by decide), kCl (by decide), show (1 : Int32) = nI 1 from rfl]
  refine ⟨by omega, by decide, ?_⟩
  have s1 : s89 c (mUp (mUp c1 18 a (nI a)) 19 0 (nI a)) := fun k h1 h2 => by rw [mUp_kf h2, mUp_kf h1, b1 k h1]
  have he : ∀ x, x < nN N → ((oup (fun _ => none) a (some a) x).isSome = true ↔ x = a) := by
    intro x _
    by_cases e : x = a
    · subst e; rw [oup_s]; exact ⟨fun _ => rfl, fun _ => rfl⟩
    · rw [oup_n e]; exact ⟨fun z => (by cases z), fun z => absurd z e⟩
  refine find_loop hb (nN N) 0 _ (oup (fun _ => none) a (some a)) (fun _ => a) 1 (by omega) (CB_1 h (fun k h1 h2 => s1 k (by omega) (by omega)) (by rw [s1 1 (by decide) (by decide)]) (by rw [s1 1 (by decide) (by decide)])) (UR_s89 hU s1) ⟨⟨Nat.le_refl _, rfl⟩, ?_, fun i _ => ha, fun x hx => ?_, fun i j hi hj _ => by omega, fun i h1 h2 => by omega⟩ ⟨fun x hx => ?_, fun i hi => ?_⟩ (fun i hi => by omega) (fun c2 cf2 q2 w2 d1 d2 d3 d4 => kk c2 cf2 q2 w2 (s89_tr s1 d1) d2 d3 d4)
  · have hz : ∀ n, cnt (fun _ => false) n = 0 := by
      intro n
      induction n with
      | zero => rfl
      | succ n ih => rw [cnt_s, ih]; rfl
    rw [cnt_set (p := fun _ => false) (q := fun x => (oup (fun _ => none) a (some a) x).isSome) (x := a) rfl (by rw [oup_s]; rfl) (fun y hy => by rw [oup_n hy]; rfl) ha, hz]
  · rw [he x hx]
    exact ⟨fun z => ⟨0, by decide, z.symm⟩, fun ⟨_, _, z⟩ => z.symm⟩
  · rw [mUp_k (by decide)]
    by_cases e : x = a
    · subst e; rw [mUp_s, oup_s]; exact ⟨rfl, fun z hz => by cases hz; exact hx⟩
    · rw [mUp_j e, oup_n e, b2 x (by omega)]; exact ⟨rfl, fun z hz => by cases hz⟩
  · rw [show i = 0 by omega, mUp_s]
end FL4
