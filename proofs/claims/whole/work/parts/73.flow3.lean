/-! CUT: breadth first -/
theorem cnt_set {p q : Nat → Bool} {x : Nat} (hp : p x = false) (hq : q x = true) (he : ∀ y, y ≠ x → q y = p y) : ∀ {n : Nat}, x < n → cnt q n = cnt p n + 1
  | 0, h => absurd h (Nat.not_lt_zero x)
  | n + 1, h => by
    rw [cnt_s, cnt_s]
    by_cases e : x = n
    · subst e
      rw [hp, hq, cnt_cong (fun k hk => he k (by omega)), if_pos rfl, if_neg Bool.false_ne_true]
    · rw [cnt_set hp hq he (n := n) (by omega), he n (by omega)]; omega
def oup (f : Nat → Option Nat) (k : Nat) (x : Option Nat) : Nat → Option Nat := fun j => if j = k then x else f j
theorem oup_s {f : Nat → Option Nat} {k : Nat} {x : Option Nat} : oup f k x k = x := if_pos rfl
theorem oup_n {f : Nat → Option Nat} {k j : Nat} {x : Option Nat} (h : j ≠ k) : oup f k x j = f j := if_neg h
/-- who is reached, from whom, in which order -/
def BQ (N : Nt) (u : Nat → Int) (a : Nat) (cf : Nat → Option Nat) (q : Nat → Nat) (w : Nat) : Prop :=
  (1 ≤ w ∧ q 0 = a) ∧ w = cnt (fun x => (cf x).isSome) (nN N) ∧ (∀ i, i < w → q i < nN N) ∧ (∀ x, x < nN N → ((cf x).isSome = true ↔ ∃ i, i < w ∧ q i = x)) ∧ (∀ i j, i < w → j < w → q i = q j → i = j) ∧ ∀ i, 0 < i → i < w → ∃ j, j < i ∧ cf (q i) = some (q j) ∧ fre N u (q j) (q i) = true
def QR (c : mS) (N : Nt) (cf : Nat → Option Nat) (q : Nat → Nat) (w : Nat) : Prop := (∀ x, x < nN N → c 18 x = en (cf x) ∧ ∀ z, cf x = some z → z < nN N) ∧ ∀ i, i < w → c 19 i = nI (q i)
section FL3
variable {c : mS} {N : Nt} {wt wh : Nat} {Q : Option Int32 → mS → Prop} {u : Nat → Int} {a b h0 : Nat}
theorem BQ_w {cf : Nat → Option Nat} {q : Nat → Nat} {w x : Nat} (hB : BQ N u a cf q w) (hx : x < nN N) (hc : (cf x).isSome = false) : w < nN N := by
  rw [hB.2.1]
  have h := cnt_lt (p := fun x => (cf x).isSome) (q := fun _ => true) (k := x) hc rfl hx (fun _ _ _ => rfl)
  exact Nat.lt_of_lt_of_le h cnt_le
theorem BQ_add {cf : Nat → Option Nat} {q : Nat → Nat} {w x : Nat} (hB : BQ N u a cf q w) (hx : x < nN N) (hc : (cf x).isSome = false) (hh : h0 < w) (hf : fre N u (q h0) x = true) : BQ N u a (oup cf x (some (q h0))) (fup q w x) (w + 1) := by
  obtain ⟨⟨b1, b2⟩, b3, b4, b5, b6, b7⟩ := hB
  have hne : ∀ i, i < w → q i ≠ x := fun i hi e => by
    have := (b5 x hx).mpr ⟨i, hi, e⟩
    rw [hc] at this; cases this
  refine ⟨⟨by omega, by rw [fup_n (by omega)]; exact b2⟩, ?_, fun i hi => ?_, fun y hy => ?_, fun i j hi hj he => ?_, fun i hi hw => ?_⟩
  · rw [cnt_set (p := fun x => (cf x).isSome) (q := fun y => (oup cf x (some (q h0)) y).isSome) hc (by rw [oup_s]; rfl) (fun y hy => by rw [oup_n hy]) hx, ← b3]
  · by_cases e : i = w
    · subst e; rw [fup_s]; exact hx
    · rw [fup_n e]; exact b4 i (by omega)
  · by_cases e : y = x
    · subst e
      rw [oup_s]
      exact ⟨fun _ => ⟨w, by omega, fup_s⟩, fun _ => rfl⟩
    · rw [oup_n e, b5 y hy]
      constructor
      · rintro ⟨i, hi, hq⟩; exact ⟨i, by omega, by rw [fup_n (by omega)]; exact hq⟩
      · rintro ⟨i, hi, hq⟩
        by_cases ei : i = w
        · subst ei; rw [fup_s] at hq; exact absurd hq.symm e
        · rw [fup_n ei] at hq; exact ⟨i, by omega, hq⟩
  · by_cases e1 : i = w <;> by_cases e2 : j = w
    · omega
    · subst e1; rw [fup_s, fup_n e2] at he; exact absurd he.symm (hne j (by omega))
    · subst e2; rw [fup_s, fup_n e1] at he; exact absurd he (hne i (by omega))
    · rw [fup_n e1, fup_n e2] at he; exact b6 i j (by omega) (by omega) he
  · by_cases e : i = w
    · subst e
      refine ⟨h0, hh, ?_, ?_⟩
      · rw [fup_s, oup_s, fup_n (by omega)]
      · rw [fup_s, fup_n (by omega)]; exact hf
    · obtain ⟨j, hj, h1, h2⟩ := b7 i hi (by omega)
      refine ⟨j, hj, ?_, ?_⟩
      · rw [fup_n e, fup_n (by omega), oup_n (hne i (by omega))]; exact h1
      · rw [fup_n e, fup_n (by omega)]; exact h2
theorem spread_loop {v0 : Int32} : ∀ (k j : Nat) (c : mS) (cf : Nat → Option Nat) (q : Nat → Nat) (w : Nat), j + k = nN N → CB c N wt wh → UR c N u → BQ N u a cf q w → QR c N cf q w → h0 < w → (∀ x, x < j → fre N u (q h0) x = true → (cf x).isSome = true) →
    (∀ (c' : mS) (cf' : Nat → Option Nat) (q' : Nat → Nat) (w' : Nat), (∀ k, k ≠ 18 → k ≠ 19 → c' k = c k) → BQ N u a cf' q' w' → QR c' N cf' q' w' → w ≤ w' → (∀ i, i < w → q' i = q i) → (∀ x, (cf x).isSome = true → (cf' x).isSome = true) → (∀ x, x < nN N → fre N u (q h0) x = true → (cf' x).isSome = true) → Q (some (nI w')) c') →
    WP mLayH 13 6 [some (.ref 6), some (.ref 1), some (.int (nI (q h0))), some (.int v0), some (.int (nI w)), some (.int (nI j))] [] c Q := by
  intro k
  induction k with
  | zero =>
    intro j c cf q w hj h hU hB hR hh hcl kk
    have h12 := h.1.2.1
    rw [w_X1_spread_6]
    simp only [w_X1_spread_8, w_X1_spread_9, w_X1_spread_12, w_X1_spread_70, w_X1_spread_72, h.2.1]
    rw [if_pos ((kLe (by omega) (by omega)).mpr (by omega))]
    exact kk c cf q w (fun _ _ _ => rfl) hB hR (Nat.le_refl _) (fun _ _ => rfl) (fun _ z => z) (fun x hx z => hcl x (by omega) z)
  | succ k ih =>
    intro j c cf q w hj h hU hB hR hh hcl kk
    have hN := h.1
    have h12 := hN.2.1
    have hjn : j < nN N := by omega
    have hw : w ≤ nN N := by rw [hB.2.1]; exact cnt_le
    have hq0 := hB.2.2.1 h0 hh
    have skip : (fre N u (q h0) j = true → (cf j).isSome = true) → WP mLayH 13 6 [some (.ref 6), some (.ref 1), some (.int (nI (q h0))), some (.int v0), some (.int (nI w)), some (.int (nI (j + 1)))] [] c Q := fun z =>
      ih (j + 1) c cf q w (by omega) h hU hB hR hh (fun x hx hf => by
        by_cases e : x = j
        · subst e; exact z hf
        · exact hcl x (by omega) hf) kk
    rw [w_X1_spread_6]
    simp (disch := omega) only [w_X1_spread_8, w_X1_spread_9, w_X1_spread_12, w_X1_spread_15, w_X1_spread_17, w_X1_spread_19, w_X1_spread_22, w_X1_spread_23, w_X1_spread_26, w_X1_spread_28, w_X1_spread_29, w_X1_spread_30, w_X1_spread_33, w_X1_spread_34, w_X1_spread_35, w_X1_spread_36, w_X1_spread_38, w_X1_spread_41, w_X1_spread_44, w_X1_spread_45, w_X1_spread_48, w_X1_spread_50, w_X1_spread_51, w_X1_spread_52, w_X1_spread_53, w_X1_spread_56, w_X1_spread_58, w_X1_spread_60, w_X1_spread_61, w_X1_spread_64, w_X1_spread_67, h.2.1, kIn, kCl, (hR.1 j hjn).1, C_free h hU hq0 hjn, mKI_some, nI_1, show j < 12 by omega, true_and]
    rw [if_neg (fun z => by rw [kLe (by omega) (by omega)] at z; omega), show (12 : Int32) = nI 12 from rfl]
    cases hc : cf j with
    | some z =>
      have hz := (hR.1 j hjn).2 z hc
      have s := skip (fun _ => by rw [hc]; rfl)
      rw [en_some, if_pos (show ¬ nI z = -1 from fun y => (kNe (by omega)).mp y)]
      split <;> exact s
    | none =>
      have hcn : (cf j).isSome = false := by rw [hc]; rfl
      have hwn := BQ_w hB hjn hcn
      rw [if_neg (fun z => by rw [kLe (by omega) (by omega)] at z; omega), en_none, if_neg (fun z => z rfl)]
      cases hf : fre N u (q h0) j with
      | false => rw [if_pos bf0]; exact skip (fun z => by rw [hf] at z; cases z)
      | true =>
        rw [if_neg bt1]
        refine ⟨by omega, ?_⟩
        have hB' := BQ_add hB hjn hcn hh hf
        have fr' : ∀ k, k ≠ 18 → k ≠ 19 → (mUp (mUp c 18 j (nI (q h0))) 19 w (nI j)) k = c k := fun k h1 h2 => by rw [mUp_kf h2, mUp_kf h1]
        have hq : fup q w j h0 = q h0 := fup_n (by omega)
        have go := ih (j + 1) (mUp (mUp c 18 j (nI (q h0))) 19 w (nI j)) (oup cf j (some (q h0))) (fup q w j) (w + 1) (by omega) (CB_1 h (fun k h1 h2 => fr' k (by omega) (by omega)) (by rw [fr' 1 (by decide) (by decide)]) (by rw [fr' 1 (by decide) (by decide)])) ⟨hU.1, fun l hl => by rw [fr' 17 (by decide) (by decide)]; exact hU.2 l hl⟩ hB' ⟨fun x hx => ?_, fun i hi => ?_⟩ (by omega) (fun x hx hff => ?_) (fun c2 cf2 q2 w2 a1 a2 a3 a4 a5 a6 a7 => kk c2 cf2 q2 w2 (fun k h1 h2 => by rw [a1 k h1 h2, fr' k h1 h2]) a2 a3 (by omega) (fun i hi => by rw [a5 i (by omega), fup_n (by omega)]) (fun x hx => a6 x (by
            by_cases e : x = j
            · subst e; rw [oup_s]; rfl
            · rw [oup_n e]; exact hx)) (fun x hx hff => a7 x hx (by rw [hq]; exact hff)))
        · rw [hq] at go
          exact go
        · rw [mUp_k (by decide)]
          by_cases e : x = j
          · subst e; rw [mUp_s, oup_s]; exact ⟨rfl, fun z hz => by cases hz; exact hq0⟩
          · rw [mUp_j e, oup_n e]; exact hR.1 x hx
        · by_cases e : i = w
          · subst e; rw [mUp_s, fup_s]
          · rw [mUp_j e, mUp_k (by decide), fup_n e]; exact hR.2 i (by omega)
        · rw [hq] at hff
          by_cases e : x = j
          · subst e; rw [oup_s]; rfl
          · rw [oup_n e]; exact hcl x (by omega) hff
end FL3
