/-! CUT: the least over all sets; a free LINK; breadth first -/
theorem mnC_ge {N : Nt} {x y : Nat} : ∀ {t s : Nat}, s < t → bt (nI s) x = true → bt (nI s) y = false → mnC N x y t ≤ crs N s
  | 0, s, h, _, _ => absurd h (Nat.not_lt_zero s)
  | t + 1, s, h, h1, h2 => by
    unfold mnC
    by_cases e : s = t
    · subst e
      by_cases z : crs N s < mnC N x y s
      · rw [if_pos ⟨h1, h2, z⟩]; exact Nat.le_refl _
      · rw [if_neg (fun q => z q.2.2)]; omega
    · have := mnC_ge (N := N) (x := x) (y := y) (t := t) (s := s) (by omega) h1 h2
      split
      · rename_i q; omega
      · exact this
theorem mnC_lo {N : Nt} {x y k : Nat} (hk : k ≤ 24) : ∀ {t : Nat}, (∀ s, s < t → bt (nI s) x = true → bt (nI s) y = false → k ≤ crs N s) → k ≤ mnC N x y t
  | 0, _ => hk
  | t + 1, h => by
    unfold mnC
    split
    · rename_i q; exact h t (by omega) q.1 q.2.1
    · exact mnC_lo hk (fun s hs => h s (by omega))
theorem crs_S {N : Nt} {s : Nat} : crs N s = cnt (fun l => bt (nI s) (nA N l) != bt (nI s) (nB N l)) (nM N) := rfl
theorem cut_24 {N : Nt} {u : Nat → Int} {a b : Nat} (hN : Nok N) (h : FV N u 24 a b b) : mnC N a b (2 ^ nN N) = 24 :=
  Nat.le_antisymm (mnC_le _) (mnC_lo (Nat.le_refl _) (fun s _ h1 h2 => by rw [crs_S]; exact FV_le (S := bt (nI s)) h h1 h2))
theorem cut_R {N : Nt} {u : Nat → Int} {k a b : Nat} {R : Nat → Bool} (hN : Nok N) (hk : k ≤ 24) (ha : a < nN N) (hb : b < nN N) (h : FV N u k a b b) (h1 : R a = true) (h2 : R b = false) (hs : ∀ l, l < nM N → (R (nA N l) = true → R (nB N l) = false → u l = 1) ∧ (R (nB N l) = true → R (nA N l) = false → u l = -1)) : mnC N a b (2 ^ nN N) = k := by
  have h12 := hN.2.1
  refine Nat.le_antisymm ?_ (mnC_lo hk (fun s _ h3 h4 => by rw [crs_S]; exact FV_le (S := bt (nI s)) h h3 h4))
  have hbit : ∀ i, i < nN N → bt (nI (vl R (nN N))) i = R i := fun i hi => by
    rw [← mk_vl (by omega), bt_mk (by omega) (by omega), decide_eq_true hi, Bool.true_and]
  have hge := mnC_ge (N := N) (x := a) (y := b) (vl_lt (p := R) (nN N)) (by rw [hbit a ha]; exact h1) (by rw [hbit b hb]; exact h2)
  have e : crs N (vl R (nN N)) = k := by
    rw [crs_S, FV_eq h h1 h2 hs]
    refine cnt_cong (fun l hl => ?_)
    obtain ⟨g1, g2, -⟩ := hN.2.2.2.1 l hl
    rw [hbit _ g1, hbit _ g2]
  omega
def uE (x : Int) : Int32 := if x = 1 then 1 else if x = 0 then 0 else -1
theorem uE_eq {x y : Int} (hx : u3 x) (hy : u3 y) : (uE x = uE y) ↔ x = y := by
  unfold u3 at hx hy
  rcases hx with rfl | rfl | rfl <;> rcases hy with rfl | rfl | rfl <;> decide
theorem uE_add {x y : Int} (hx : u3 x) (hy : y = 1 ∨ y = -1) (hne : x ≠ y) : uE x + uE y = uE (x + y) := by
  unfold u3 at hx
  rcases hx with rfl | rfl | rfl <;> rcases hy with rfl | rfl <;> first | decide | exact absurd rfl hne
theorem dr_3 {N : Nt} {l v : Nat} : dr N l v = 1 ∨ dr N l v = -1 := by unfold dr; split <;> simp
def fre (N : Nt) (u : Nat → Int) (v n : Nat) : Bool := match lk N v n with
  | none => false
  | some l => decide (u l ≠ dr N l v)
/-- used, as the class holds it -/
def UR (c : mS) (N : Nt) (u : Nat → Int) : Prop := (∀ l, l < nM N → u3 (u l)) ∧ ∀ l, l < nM N → c 17 l = uE (u l)
section FL2
variable {c : mS} {N : Nt} {wt wh : Nat} {Q : Option Int32 → mS → Prop} {u : Nat → Int} {v n l a b : Nat}
theorem C_dir (h : CB c N wt wh) (hl : l < nM N) (hv : v < nN N) : WP mLayH 15 0 [some (.ref 1), some (.int (nI l)), some (.int (nI v))] [] c Q ↔ Q (some (uE (dr N l v))) c := by
  have h12 := h.1.2.1
  have h24 := h.1.2.2.1
  have hA := (h.1.2.2.2.1 l hl).1
  simp (disch := omega) only [w_X1_direction_0, w_X1_direction_1, w_X1_direction_4, w_X1_direction_5, w_X1_direction_6, w_X1_direction_7, w_X1_direction_10, w_X1_direction_11, w_X1_direction_14, w_X1_direction_15, kIn, kCl, (h.2.2.2.1 l hl).1, kEq, show l < 24 by omega, true_and]
  unfold dr
  by_cases e : nA N l = v
  · rw [if_neg (fun q => q e), if_pos e]; exact Iff.rfl
  · rw [if_pos e, if_neg e]; exact Iff.rfl
theorem C_free (h : CB c N wt wh) (hU : UR c N u) (hv : v < nN N) (hn : n < nN N) : WP mLayH 14 0 [some (.ref 6), some (.ref 1), some (.int (nI v)), some (.int (nI n)), none] [] c Q ↔ Q (some (bi (fre N u v n))) c := by
  have h12 := h.1.2.1
  have h24 := h.1.2.2.1
  simp only [w_X1_isFree_0, w_X1_isFree_1, w_X1_isFree_2, w_X1_isFree_3, w_X1_isFree_6, w_X1_isFree_8, w_X1_isFree_10, w_X1_isFree_11, w_X1_isFree_14, w_X1_isFree_15, w_X1_isFree_18, w_X1_isFree_20, w_X1_isFree_21, w_X1_isFree_22, w_X1_isFree_24, w_X1_isFree_25, w_X1_isFree_28, w_X1_isFree_31, w_X1_isFree_32, w_X1_isFree_35, w_X1_isFree_36, C_link h hv hn, mKI_some, true_or, or_true, true_and]
  unfold fre
  cases hl : lk N v n with
  | none => rw [en_none, if_pos rfl]; exact Iff.rfl
  | some l =>
    have hlm := (lk_some hl).1
    rw [en_some, if_neg (fun q => (kNe (by omega)).mp q), kIn (by omega), kCl (by omega), C_dir h hlm hv, mKI_some, hU.2 l hlm]
    dsimp only
    have hq := uE_eq (hU.1 l hlm) (show u3 (dr N l v) by unfold u3; rcases dr_3 (N := N) (l := l) (v := v) with z | z <;> omega)
    by_cases e : u l = dr N l v
    · rw [if_pos (hq.mpr e), decide_eq_false (fun z => z e)]
      exact ⟨fun z => z.2, fun z => ⟨by omega, z⟩⟩
    · rw [if_neg (fun z => e (hq.mp z)), decide_eq_true e]
      exact ⟨fun z => z.2, fun z => ⟨by omega, z⟩⟩
end FL2
