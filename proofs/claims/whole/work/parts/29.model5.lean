/-! the reference: spaces, tunnels, repairs -/
noncomputable def rbE (N : Nt) (s e c u x : Nat) : Bool := decide (x ≠ s ∧ fr N u x < smn (smn (fr N u s) c) (fr N e x) ∧ (u = s ∨ fr N u x < smn (smn (fr N u e) c) (fr N s x)))
def anyB (p : Nat → Bool) : Nat → Bool
  | 0 => false
  | k + 1 => anyB p k || p k
theorem anyB_iff {p : Nat → Bool} : ∀ {n : Nat}, anyB p n = true ↔ ∃ k, k < n ∧ p k = true
  | 0 => by simp [anyB]
  | n + 1 => by
    unfold anyB
    rw [Bool.or_eq_true, anyB_iff]
    constructor
    · rintro (⟨k, h1, h2⟩ | h)
      · exact ⟨k, by omega, h2⟩
      · exact ⟨n, by omega, h⟩
    · rintro ⟨k, h1, h2⟩
      by_cases e : k = n
      · subst e; exact Or.inr h2
      · exact Or.inl ⟨k, by omega, h2⟩
/-- REACHED by another NEIGHBOUR -/
noncomputable def nbP (N : Nt) (s e c x u : Nat) : Bool := decide (u ≠ e) && (lk N s u).isSome && rbE N s e c u x
/-- REACH -/
noncomputable def rcE (N : Nt) (s e c x : Nat) : Bool := rbE N s e c s x || anyB (nbP N s e c x) (nN N)
/-- COMING -/
noncomputable def cmE (N : Nt) (s dd e c x : Nat) : Bool := decide (x ≠ s ∧ fr N x dd < smn (smn (fr N x s) c) (fr N e dd))
noncomputable def meE (N : Nt) (s dd e c : Nat) : Option Nat := bestF (fun x => rcE N s e c x && cmE N s dd e c x) (fun x => fr N s x) (nN N)
noncomputable def brC (N : Nt) (s dd e c p q least : Nat) : Bool := match lk N p q with
  | none => false
  | some l => decide (some l ≠ lk N s e) && rcE N s e c p && cmE N s dd e c q && decide (fr N s p + nC N l < least)
noncomputable def brS (N : Nt) (s dd e c : Nat) (st : Option Nat × Nat) (p q : Nat) : Option Nat × Nat := if brC N s dd e c p q st.2 then (some (12 * p + q), fr N s p + nC N ((lk N p q).getD 0)) else st
noncomputable def brQ (N : Nt) (s dd e c : Nat) (st : Option Nat × Nat) (p : Nat) : Nat → Option Nat × Nat
  | 0 => st
  | q + 1 => brS N s dd e c (brQ N s dd e c st p q) p q
noncomputable def brP (N : Nt) (s dd e c : Nat) : Nat → Option Nat × Nat
  | 0 => (none, INF)
  | p + 1 => brQ N s dd e c (brP N s dd e c p) p (nN N)
/-- BRIDGE: 12 p + q -/
noncomputable def brE (N : Nt) (s dd e c : Nat) : Option Nat := (brP N s dd e c (nN N)).1
noncomputable def rpE (N : Nt) (s dd e c : Nat) : Nat := if (altF N s dd).isSome then 1 else if (meE N s dd e c).isSome then 2 else if (brE N s dd e c).isSome then 3 else 0
theorem brS_ok {N : Nt} {s dd e c p q : Nat} {st : Option Nat × Nat} (h : st.2 ≤ INF ∧ ∀ k, st.1 = some k → k < 12 * p + q ∧ k / 12 < nN N ∧ k % 12 < nN N) (hn : nN N ≤ 12) (hp : p < nN N) (hq : q < nN N) : (brS N s dd e c st p q).2 ≤ INF ∧ ∀ k, (brS N s dd e c st p q).1 = some k → k < 12 * p + (q + 1) ∧ k / 12 < nN N ∧ k % 12 < nN N := by
  unfold brS
  split
  · rename_i hc
    unfold brC at hc
    split at hc
    · cases hc
    · rename_i l hl
      simp at hc
      rw [hl]
      refine ⟨by simp; omega, fun k hk => ?_⟩
      cases hk
      omega
  · exact ⟨h.1, fun k hk => by have := h.2 k hk; omega⟩
theorem brQ_ok {N : Nt} {s dd e c p : Nat} {st : Option Nat × Nat} (h : st.2 ≤ INF ∧ ∀ k, st.1 = some k → k < 12 * p ∧ k / 12 < nN N ∧ k % 12 < nN N) (hn : nN N ≤ 12) (hp : p < nN N) : ∀ q, q ≤ nN N → (brQ N s dd e c st p q).2 ≤ INF ∧ ∀ k, (brQ N s dd e c st p q).1 = some k → k < 12 * p + q ∧ k / 12 < nN N ∧ k % 12 < nN N
  | 0, _ => h
  | q + 1, hq => brS_ok (brQ_ok h hn hp q (by omega)) hn hp (by omega)
theorem brP_ok {N : Nt} {s dd e c : Nat} (hn : nN N ≤ 12) : ∀ p, p ≤ nN N → (brP N s dd e c p).2 ≤ INF ∧ ∀ k, (brP N s dd e c p).1 = some k → k < 12 * p ∧ k / 12 < nN N ∧ k % 12 < nN N
  | 0, _ => ⟨Nat.le_refl _, fun k hk => by cases hk⟩
  | p + 1, hp => by
    obtain ⟨h1, h2⟩ := brQ_ok (brP_ok (s := s) (dd := dd) (e := e) (c := c) hn p (by omega)) hn (show p < nN N by omega) (nN N) (Nat.le_refl _)
    exact ⟨h1, fun k hk => by have := h2 k hk; omega⟩
section MO6
variable {d : mS} {N : Nt} {wt wh : Nat} {Q : Option Int32 → mS → Prop} {s dd e l : Nat}
/-- what is known of s, d with a NEXT -/
def HX (N : Nt) (s dd e l : Nat) : Prop := s < nN N ∧ dd < nN N ∧ e < nN N ∧ nx N none dd s = some e ∧ lk N s e = some l ∧ l < nM N
theorem HX_of (hs : s < nN N) (hd : dd < nN N) (h : nx N none dd s = some e) : ∃ l, HX N s dd e l := by
  obtain ⟨h1, l, h2, -⟩ := nx_some h
  exact ⟨l, hs, hd, h1, h, h2, (lk_some h2).1⟩
theorem F_reachedBy_loop {u : Nat} (h : MF d N wt wh) (hx : HX N s dd e l) (hu : u < nN N) : ∀ (k j : Nat) (l7 l8 : Option Value), j + k = nN N → (WP mLayM 126 16 [some (.ref 0), some (.int (nI s)), some (.int (nI dd)), some (.int (nI u)), some (.int (nI e)), some (.int (mkS (rbE N s e (nC N l) u) j)), some (.int (nI j)), l7, l8] [] d Q ↔ Q (some (mkS (rbE N s e (nC N l) u) (nN N))) d) := by
  obtain ⟨hs, hd, he, hnx, hlk, hl⟩ := hx
  have hN := h.1.1
  have h12 := hN.2.1
  have h24 := hN.2.2.1
  have hi : INF = 1000000 := rfl
  have e3 := (h.1.2.2.2.1 l hl).2.2.1
  have g5 := (hN.2.2.2.1 l hl).2.2.2.2.1
  intro k
  induction k with
  | zero =>
    intro j l7 l8 hj
    rw [w_X7_reachedBy_16]
    simp only [w_X7_reachedBy_0, w_X7_reachedBy_1, w_X7_reachedBy_2, w_X7_reachedBy_3, w_X7_reachedBy_4, w_X7_reachedBy_5, w_X7_reachedBy_8, w_X7_reachedBy_10, w_X7_reachedBy_11, w_X7_reachedBy_13, w_X7_reachedBy_14, w_X7_reachedBy_18, w_X7_reachedBy_19, w_X7_reachedBy_22, w_X7_reachedBy_25, w_X7_reachedBy_26, w_X7_reachedBy_27, w_X7_reachedBy_28, w_X7_reachedBy_31, w_X7_reachedBy_32, w_X7_reachedBy_35, w_X7_reachedBy_36, w_X7_reachedBy_37, w_X7_reachedBy_39, w_X7_reachedBy_42, w_X7_reachedBy_43, w_X7_reachedBy_46, w_X7_reachedBy_47, w_X7_reachedBy_49, w_X7_reachedBy_51, w_X7_reachedBy_54, w_X7_reachedBy_57, w_X7_reachedBy_59, w_X7_reachedBy_60, w_X7_reachedBy_61, w_X7_reachedBy_63, w_X7_reachedBy_66, w_X7_reachedBy_67, w_X7_reachedBy_70, w_X7_reachedBy_71, w_X7_reachedBy_72, w_X7_reachedBy_74, w_X7_reachedBy_77, w_X7_reachedBy_78, w_X7_reachedBy_81, w_X7_reachedBy_82, w_X7_reachedBy_83, w_X7_reachedBy_85, w_X7_reachedBy_88, w_X7_reachedBy_91, w_X7_reachedBy_93, w_X7_reachedBy_95, w_X7_reachedBy_97, w_X7_reachedBy_98, w_X7_reachedBy_101, w_X7_reachedBy_102, w_X7_reachedBy_103, w_X7_reachedBy_105, w_X7_reachedBy_108, w_X7_reachedBy_110, w_X7_reachedBy_113, w_X7_reachedBy_114, w_X7_reachedBy_115, w_X7_reachedBy_118, w_X7_reachedBy_119, w_X7_reachedBy_120, w_X7_reachedBy_122, w_X7_reachedBy_125, w_X7_reachedBy_127, w_X7_reachedBy_130, w_X7_reachedBy_131, w_X7_reachedBy_133, w_X7_reachedBy_134, w_X7_reachedBy_137, w_X7_reachedBy_138, w_X7_reachedBy_139, w_X7_reachedBy_141, w_X7_reachedBy_144, w_X7_reachedBy_147, w_X7_reachedBy_149, h.1.2.1]
    rw [if_pos ((kLe (by omega) (by omega)).mpr (by omega)), show j = nN N by omega]
  | succ k ih =>
    intro j l7 l8 hj
    have hj2 : j < nN N := by omega
    have ih := fun l7 l8 => ih (j + 1) l7 l8 (by omega)
    rw [mkS_s] at ih
    have i1 := fr_inf hN hu hs
    have i2 := fr_inf hN he hj2
    have i3 := fr_inf hN hu he
    have i4 := fr_inf hN hs hj2
    have i5 := fr_inf hN hu hj2
    have c9 : nC N l ≤ INF := by omega
    have s1 := smn_le (a := smn (fr N u s) (nC N l)) (b := fr N e j)
    have s2 := smn_le (a := smn (fr N u e) (nC N l)) (b := fr N s j)
    rw [w_X7_reachedBy_16]
    simp only [w_X7_reachedBy_0, w_X7_reachedBy_1, w_X7_reachedBy_2, w_X7_reachedBy_3, w_X7_reachedBy_4, w_X7_reachedBy_5, w_X7_reachedBy_8, w_X7_reachedBy_10, w_X7_reachedBy_11, w_X7_reachedBy_13, w_X7_reachedBy_14, w_X7_reachedBy_18, w_X7_reachedBy_19, w_X7_reachedBy_22, w_X7_reachedBy_25, w_X7_reachedBy_26, w_X7_reachedBy_27, w_X7_reachedBy_28, w_X7_reachedBy_31, w_X7_reachedBy_32, w_X7_reachedBy_35, w_X7_reachedBy_36, w_X7_reachedBy_37, w_X7_reachedBy_39, w_X7_reachedBy_42, w_X7_reachedBy_43, w_X7_reachedBy_46, w_X7_reachedBy_47, w_X7_reachedBy_49, w_X7_reachedBy_51, w_X7_reachedBy_54, w_X7_reachedBy_57, w_X7_reachedBy_59, w_X7_reachedBy_60, w_X7_reachedBy_61, w_X7_reachedBy_63, w_X7_reachedBy_66, w_X7_reachedBy_67, w_X7_reachedBy_70, w_X7_reachedBy_71, w_X7_reachedBy_72, w_X7_reachedBy_74, w_X7_reachedBy_77, w_X7_reachedBy_78, w_X7_reachedBy_81, w_X7_reachedBy_82, w_X7_reachedBy_83, w_X7_reachedBy_85, w_X7_reachedBy_88, w_X7_reachedBy_91, w_X7_reachedBy_93, w_X7_reachedBy_95, w_X7_reachedBy_97, w_X7_reachedBy_98, w_X7_reachedBy_101, w_X7_reachedBy_102, w_X7_reachedBy_103, w_X7_reachedBy_105, w_X7_reachedBy_108, w_X7_reachedBy_110, w_X7_reachedBy_113, w_X7_reachedBy_114, w_X7_reachedBy_115, w_X7_reachedBy_118, w_X7_reachedBy_119, w_X7_reachedBy_120, w_X7_reachedBy_122, w_X7_reachedBy_125, w_X7_reachedBy_127, w_X7_reachedBy_130, w_X7_reachedBy_131, w_X7_reachedBy_133, w_X7_reachedBy_134, w_X7_reachedBy_137, w_X7_reachedBy_138, w_X7_reachedBy_139, w_X7_reachedBy_141, w_X7_reachedBy_144, w_X7_reachedBy_147, w_X7_reachedBy_149, h.1.2.1]
    rw [if_neg (fun q => by rw [kLe (by omega) (by omega)] at q; omega)]
    simp (disch := omega) only [F_far h hu hs, F_link h hs he, hlk, en_some, F_far h he hj2, F_far h hu he, F_far h hs hj2, F_far h hu hj2, mKI_some, kIn, kCl, e3, show l < 24 by omega, true_and, M_sum i1 c9, M_sum i3 c9, M_sum (smn_le (a := fr N u s) (b := nC N l)) i2, M_sum (smn_le (a := fr N u e) (b := nC N l)) i4, kEq, kLe, kLt, nI_1]
    by_cases c1 : j = s
    · rw [if_pos c1]
      have hp : ¬ rbE N s e (nC N l) u j = true := by simp [rbE, c1]
      simp only [if_neg hp] at ih
      exact ih _ _
    · rw [if_neg c1]
      by_cases c2 : smn (smn (fr N u s) (nC N l)) (fr N e j) ≤ fr N u j
      · rw [if_pos c2]
        have hp : ¬ rbE N s e (nC N l) u j = true := by simp only [rbE, decide_eq_true_eq]; intro q; omega
        simp only [if_neg hp] at ih
        exact ih _ _
      · rw [if_neg c2]
        by_cases c3 : u = s
        · rw [if_pos c3]
          have hp : rbE N s e (nC N l) u j = true := by simp only [rbE, decide_eq_true_eq]; exact ⟨c1, by omega, Or.inl c3⟩
          simp only [if_pos hp] at ih
          exact ih _ _
        · rw [if_neg c3]
          by_cases c4 : smn (smn (fr N u e) (nC N l)) (fr N s j) ≤ fr N u j
          · rw [if_pos c4]
            have hp : ¬ rbE N s e (nC N l) u j = true := by simp only [rbE, decide_eq_true_eq]; intro q; omega
            simp only [if_neg hp] at ih
            exact ih _ _
          · rw [if_neg c4]
            have hp : rbE N s e (nC N l) u j = true := by simp only [rbE, decide_eq_true_eq]; exact ⟨c1, by omega, Or.inr (by omega)⟩
            simp only [if_pos hp] at ih
            exact ih _ _
theorem F_reachedBy {u : Nat} (h : MF d N wt wh) (hx : HX N s dd e l) (hu : u < nN N) : WP mLayM 126 0 [some (.ref 0), some (.int (nI s)), some (.int (nI dd)), some (.int (nI u)), none, none, none, none, none] [] d Q ↔ Q (some (mkS (rbE N s e (nC N l) u) (nN N))) d := by
  simp only [w_X7_reachedBy_0, w_X7_reachedBy_1, w_X7_reachedBy_2, w_X7_reachedBy_3, w_X7_reachedBy_4, w_X7_reachedBy_5, w_X7_reachedBy_8, w_X7_reachedBy_10, w_X7_reachedBy_11, w_X7_reachedBy_13, w_X7_reachedBy_14, w_X7_reachedBy_18, w_X7_reachedBy_19, w_X7_reachedBy_22, w_X7_reachedBy_25, w_X7_reachedBy_26, w_X7_reachedBy_27, w_X7_reachedBy_28, w_X7_reachedBy_31, w_X7_reachedBy_32, w_X7_reachedBy_35, w_X7_reachedBy_36, w_X7_reachedBy_37, w_X7_reachedBy_39, w_X7_reachedBy_42, w_X7_reachedBy_43, w_X7_reachedBy_46, w_X7_reachedBy_47, w_X7_reachedBy_49, w_X7_reachedBy_51, w_X7_reachedBy_54, w_X7_reachedBy_57, w_X7_reachedBy_59, w_X7_reachedBy_60, w_X7_reachedBy_61, w_X7_reachedBy_63, w_X7_reachedBy_66, w_X7_reachedBy_67, w_X7_reachedBy_70, w_X7_reachedBy_71, w_X7_reachedBy_72, w_X7_reachedBy_74, w_X7_reachedBy_77, w_X7_reachedBy_78, w_X7_reachedBy_81, w_X7_reachedBy_82, w_X7_reachedBy_83, w_X7_reachedBy_85, w_X7_reachedBy_88, w_X7_reachedBy_91, w_X7_reachedBy_93, w_X7_reachedBy_95, w_X7_reachedBy_97, w_X7_reachedBy_98, w_X7_reachedBy_101, w_X7_reachedBy_102, w_X7_reachedBy_103, w_X7_reachedBy_105, w_X7_reachedBy_108, w_X7_reachedBy_110, w_X7_reachedBy_113, w_X7_reachedBy_114, w_X7_reachedBy_115, w_X7_reachedBy_118, w_X7_reachedBy_119, w_X7_reachedBy_120, w_X7_reachedBy_122, w_X7_reachedBy_125, w_X7_reachedBy_127, w_X7_reachedBy_130, w_X7_reachedBy_131, w_X7_reachedBy_133, w_X7_reachedBy_134, w_X7_reachedBy_137, w_X7_reachedBy_138, w_X7_reachedBy_139, w_X7_reachedBy_141, w_X7_reachedBy_144, w_X7_reachedBy_147, w_X7_reachedBy_149, F_next h hx.1 hx.2.1, mKI_some, hx.2.2.2.1, en_some]
  exact F_reachedBy_loop h hx hu (nN N) 0 none none (by omega)
theorem F_reach_loop (h : MF d N wt wh) (hx : HX N s dd e l) : ∀ (k j : Nat), j + k = nN N → (WP mLayM 127 21 [some (.ref 0), some (.int (nI s)), some (.int (nI dd)), some (.int (nI e)), some (.int (mkS (fun x => rbE N s e (nC N l) s x || anyB (nbP N s e (nC N l) x) j) (nN N))), some (.int (nI j))] [] d Q ↔ Q (some (mkS (rcE N s e (nC N l)) (nN N))) d) := by
  have hN := h.1.1
  have h12 := hN.2.1
  have h24 := hN.2.2.1
  have hs := hx.1
  have he := hx.2.2.1
  intro k
  induction k with
  | zero =>
    intro j hj
    rw [w_X7_reach_21]
    simp only [w_X7_reach_0, w_X7_reach_1, w_X7_reach_2, w_X7_reach_3, w_X7_reach_4, w_X7_reach_5, w_X7_reach_8, w_X7_reach_9, w_X7_reach_10, w_X7_reach_11, w_X7_reach_12, w_X7_reach_13, w_X7_reach_16, w_X7_reach_18, w_X7_reach_19, w_X7_reach_23, w_X7_reach_24, w_X7_reach_27, w_X7_reach_30, w_X7_reach_32, w_X7_reach_34, w_X7_reach_35, w_X7_reach_38, w_X7_reach_39, w_X7_reach_40, w_X7_reach_42, w_X7_reach_45, w_X7_reach_48, w_X7_reach_49, w_X7_reach_50, w_X7_reach_51, w_X7_reach_53, w_X7_reach_56, w_X7_reach_59, w_X7_reach_60, w_X7_reach_61, w_X7_reach_63, w_X7_reach_66, w_X7_reach_69, w_X7_reach_71, h.1.2.1]
    rw [if_pos ((kLe (by omega) (by omega)).mpr (by omega)), show j = nN N by omega]
    exact Iff.rfl
  | succ k ih =>
    intro j hj
    have hj2 : j < nN N := by omega
    have ih := ih (j + 1) (by omega)
    rw [w_X7_reach_21]
    simp only [w_X7_reach_0, w_X7_reach_1, w_X7_reach_2, w_X7_reach_3, w_X7_reach_4, w_X7_reach_5, w_X7_reach_8, w_X7_reach_9, w_X7_reach_10, w_X7_reach_11, w_X7_reach_12, w_X7_reach_13, w_X7_reach_16, w_X7_reach_18, w_X7_reach_19, w_X7_reach_23, w_X7_reach_24, w_X7_reach_27, w_X7_reach_30, w_X7_reach_32, w_X7_reach_34, w_X7_reach_35, w_X7_reach_38, w_X7_reach_39, w_X7_reach_40, w_X7_reach_42, w_X7_reach_45, w_X7_reach_48, w_X7_reach_49, w_X7_reach_50, w_X7_reach_51, w_X7_reach_53, w_X7_reach_56, w_X7_reach_59, w_X7_reach_60, w_X7_reach_61, w_X7_reach_63, w_X7_reach_66, w_X7_reach_69, w_X7_reach_71, h.1.2.1]
    rw [if_neg (fun q => by rw [kLe (by omega) (by omega)] at q; omega)]
    simp (disch := omega) only [kEq, F_link h hs hj2, mKI_some, F_reachedBy h hx hj2, nI_1]
    have hst : ∀ X, (X = mkS (fun x => rbE N s e (nC N l) s x || anyB (nbP N s e (nC N l) x) (j + 1)) (nN N)) → (WP mLayM 127 21 [some (.ref 0), some (.int (nI s)), some (.int (nI dd)), some (.int (nI e)), some (.int X), some (.int (nI (j + 1)))] [] d Q ↔ Q (some (mkS (rcE N s e (nC N l)) (nN N))) d) := fun X hX => by rw [hX]; exact ih
    by_cases c1 : j = e
    · rw [if_pos c1]
      refine hst _ ?_
      rw [or0]
      refine mk_congr (fun x _ => ?_)
      simp [anyB, nbP, c1]
    · rw [if_neg c1]
      cases hlj : lk N s j with
      | none =>
        simp only [en_none, kn1, if_true]
        refine hst _ ?_
        rw [or0]
        refine mk_congr (fun x _ => ?_)
        simp [anyB, nbP, hlj]
      | some q =>
        have := (lk_some hlj).1
        rw [en_some, if_neg (nI_pos (by omega))]
        refine hst _ ?_
        rw [mk_or (by omega)]
        refine mk_congr (fun x _ => ?_)
        simp [anyB, nbP, hlj, c1, Bool.or_assoc]
theorem F_reach (h : MF d N wt wh) (hx : HX N s dd e l) : WP mLayM 127 0 [some (.ref 0), some (.int (nI s)), some (.int (nI dd)), none, none, none] [] d Q ↔ Q (some (mkS (rcE N s e (nC N l)) (nN N))) d := by
  simp only [w_X7_reach_0, w_X7_reach_1, w_X7_reach_2, w_X7_reach_3, w_X7_reach_4, w_X7_reach_5, w_X7_reach_8, w_X7_reach_9, w_X7_reach_10, w_X7_reach_11, w_X7_reach_12, w_X7_reach_13, w_X7_reach_16, w_X7_reach_18, w_X7_reach_19, w_X7_reach_23, w_X7_reach_24, w_X7_reach_27, w_X7_reach_30, w_X7_reach_32, w_X7_reach_34, w_X7_reach_35, w_X7_reach_38, w_X7_reach_39, w_X7_reach_40, w_X7_reach_42, w_X7_reach_45, w_X7_reach_48, w_X7_reach_49, w_X7_reach_50, w_X7_reach_51, w_X7_reach_53, w_X7_reach_56, w_X7_reach_59, w_X7_reach_60, w_X7_reach_61, w_X7_reach_63, w_X7_reach_66, w_X7_reach_69, w_X7_reach_71, F_next h hx.1 hx.2.1, mKI_some, hx.2.2.2.1, en_some, F_reachedBy h hx hx.1]
  have := F_reach_loop (Q := Q) h hx (nN N) 0 (by omega)
  simp only [anyB, Bool.or_false] at this
  exact this
theorem F_coming_loop (h : MF d N wt wh) (hx : HX N s dd e l) : ∀ (k j : Nat) (l6 : Option Value), j + k = nN N → (WP mLayM 128 15 [some (.ref 0), some (.int (nI s)), some (.int (nI dd)), some (.int (nI e)), some (.int (mkS (cmE N s dd e (nC N l)) j)), some (.int (nI j)), l6] [] d Q ↔ Q (some (mkS (cmE N s dd e (nC N l)) (nN N))) d) := by
  obtain ⟨hs, hd, he, hnx, hlk, hl⟩ := hx
  have hN := h.1.1
  have h12 := hN.2.1
  have h24 := hN.2.2.1
  have hi : INF = 1000000 := rfl
  have e3 := (h.1.2.2.2.1 l hl).2.2.1
  have g5 := (hN.2.2.2.1 l hl).2.2.2.2.1
  intro k
  induction k with
  | zero =>
    intro j l6 hj
    rw [w_X7_coming_15]
    simp only [w_X7_coming_0, w_X7_coming_1, w_X7_coming_2, w_X7_coming_3, w_X7_coming_4, w_X7_coming_5, w_X7_coming_8, w_X7_coming_9, w_X7_coming_10, w_X7_coming_12, w_X7_coming_13, w_X7_coming_17, w_X7_coming_18, w_X7_coming_21, w_X7_coming_24, w_X7_coming_25, w_X7_coming_27, w_X7_coming_28, w_X7_coming_31, w_X7_coming_32, w_X7_coming_35, w_X7_coming_36, w_X7_coming_37, w_X7_coming_38, w_X7_coming_41, w_X7_coming_42, w_X7_coming_45, w_X7_coming_46, w_X7_coming_47, w_X7_coming_48, w_X7_coming_51, w_X7_coming_54, w_X7_coming_56, w_X7_coming_58, w_X7_coming_60, w_X7_coming_61, w_X7_coming_64, w_X7_coming_65, w_X7_coming_67, w_X7_coming_68, w_X7_coming_71, w_X7_coming_73, w_X7_coming_76, w_X7_coming_77, w_X7_coming_79, w_X7_coming_80, w_X7_coming_83, w_X7_coming_84, w_X7_coming_85, w_X7_coming_87, w_X7_coming_90, w_X7_coming_93, w_X7_coming_95, h.1.2.1]
    rw [if_pos ((kLe (by omega) (by omega)).mpr (by omega)), show j = nN N by omega]
  | succ k ih =>
    intro j l6 hj
    have hj2 : j < nN N := by omega
    have ih := fun l6 => ih (j + 1) l6 (by omega)
    rw [mkS_s] at ih
    have i1 := fr_inf hN hj2 hs
    have i2 := fr_inf hN he hd
    have i5 := fr_inf hN hj2 hd
    have c9 : nC N l ≤ INF := by omega
    have s1 := smn_le (a := smn (fr N j s) (nC N l)) (b := fr N e dd)
    rw [w_X7_coming_15]
    simp only [w_X7_coming_0, w_X7_coming_1, w_X7_coming_2, w_X7_coming_3, w_X7_coming_4, w_X7_coming_5, w_X7_coming_8, w_X7_coming_9, w_X7_coming_10, w_X7_coming_12, w_X7_coming_13, w_X7_coming_17, w_X7_coming_18, w_X7_coming_21, w_X7_coming_24, w_X7_coming_25, w_X7_coming_27, w_X7_coming_28, w_X7_coming_31, w_X7_coming_32, w_X7_coming_35, w_X7_coming_36, w_X7_coming_37, w_X7_coming_38, w_X7_coming_41, w_X7_coming_42, w_X7_coming_45, w_X7_coming_46, w_X7_coming_47, w_X7_coming_48, w_X7_coming_51, w_X7_coming_54, w_X7_coming_56, w_X7_coming_58, w_X7_coming_60, w_X7_coming_61, w_X7_coming_64, w_X7_coming_65, w_X7_coming_67, w_X7_coming_68, w_X7_coming_71, w_X7_coming_73, w_X7_coming_76, w_X7_coming_77, w_X7_coming_79, w_X7_coming_80, w_X7_coming_83, w_X7_coming_84, w_X7_coming_85, w_X7_coming_87, w_X7_coming_90, w_X7_coming_93, w_X7_coming_95, h.1.2.1]
    rw [if_neg (fun q => by rw [kLe (by omega) (by omega)] at q; omega)]
    simp (disch := omega) only [F_far h hj2 hs, F_link h hs he, hlk, en_some, F_far h he hd, F_far h hj2 hd, mKI_some, kIn, kCl, e3, show l < 24 by omega, true_and, M_sum i1 c9, M_sum (smn_le (a := fr N j s) (b := nC N l)) i2, kEq, kLe, kLt, nI_1]
    by_cases c1 : j = s
    · rw [if_pos c1]
      have hp : ¬ cmE N s dd e (nC N l) j = true := by simp [cmE, c1]
      simp only [if_neg hp] at ih
      exact ih _
    · rw [if_neg c1]
      by_cases c2 : smn (smn (fr N j s) (nC N l)) (fr N e dd) ≤ fr N j dd
      · rw [if_pos c2]
        have hp : ¬ cmE N s dd e (nC N l) j = true := by simp only [cmE, decide_eq_true_eq]; intro q; omega
        simp only [if_neg hp] at ih
        exact ih _
      · rw [if_neg c2]
        have hp : cmE N s dd e (nC N l) j = true := by simp only [cmE, decide_eq_true_eq]; exact ⟨c1, by omega⟩
        simp only [if_pos hp] at ih
        exact ih _
theorem F_coming (h : MF d N wt wh) (hx : HX N s dd e l) : WP mLayM 128 0 [some (.ref 0), some (.int (nI s)), some (.int (nI dd)), none, none, none, none] [] d Q ↔ Q (some (mkS (cmE N s dd e (nC N l)) (nN N))) d := by
  simp only [w_X7_coming_0, w_X7_coming_1, w_X7_coming_2, w_X7_coming_3, w_X7_coming_4, w_X7_coming_5, w_X7_coming_8, w_X7_coming_9, w_X7_coming_10, w_X7_coming_12, w_X7_coming_13, w_X7_coming_17, w_X7_coming_18, w_X7_coming_21, w_X7_coming_24, w_X7_coming_25, w_X7_coming_27, w_X7_coming_28, w_X7_coming_31, w_X7_coming_32, w_X7_coming_35, w_X7_coming_36, w_X7_coming_37, w_X7_coming_38, w_X7_coming_41, w_X7_coming_42, w_X7_coming_45, w_X7_coming_46, w_X7_coming_47, w_X7_coming_48, w_X7_coming_51, w_X7_coming_54, w_X7_coming_56, w_X7_coming_58, w_X7_coming_60, w_X7_coming_61, w_X7_coming_64, w_X7_coming_65, w_X7_coming_67, w_X7_coming_68, w_X7_coming_71, w_X7_coming_73, w_X7_coming_76, w_X7_coming_77, w_X7_coming_79, w_X7_coming_80, w_X7_coming_83, w_X7_coming_84, w_X7_coming_85, w_X7_coming_87, w_X7_coming_90, w_X7_coming_93, w_X7_coming_95, F_next h hx.1 hx.2.1, mKI_some, hx.2.2.2.1, en_some]
  exact F_coming_loop h hx (nN N) 0 none (by omega)
theorem F_meeting_loop (h : MF d N wt wh) (hs : s < nN N) {p : Nat → Bool} {dx : Int32} : ∀ (k j : Nat), j + k = nN N → (WP mLayM 130 20 [some (.ref 0), some (.int (nI s)), some (.int dx), some (.int (mkS p (nN N))), some (.int (en (bestF p (fun x => fr N s x) j))), some (.int (nI j))] [] d Q ↔ Q (some (en (bestF p (fun x => fr N s x) (nN N)))) d) := by
  have hN := h.1.1
  have h12 := hN.2.1
  have hi : INF = 1000000 := rfl
  intro k
  induction k with
  | zero =>
    intro j hj
    rw [w_X7_meeting_20]
    simp only [w_X7_meeting_0, w_X7_meeting_1, w_X7_meeting_2, w_X7_meeting_3, w_X7_meeting_6, w_X7_meeting_7, w_X7_meeting_8, w_X7_meeting_9, w_X7_meeting_12, w_X7_meeting_13, w_X7_meeting_14, w_X7_meeting_15, w_X7_meeting_17, w_X7_meeting_18, w_X7_meeting_22, w_X7_meeting_23, w_X7_meeting_26, w_X7_meeting_29, w_X7_meeting_30, w_X7_meeting_32, w_X7_meeting_33, w_X7_meeting_34, w_X7_meeting_35, w_X7_meeting_36, w_X7_meeting_39, w_X7_meeting_41, w_X7_meeting_44, w_X7_meeting_45, w_X7_meeting_46, w_X7_meeting_48, w_X7_meeting_51, w_X7_meeting_52, w_X7_meeting_53, w_X7_meeting_55, w_X7_meeting_58, w_X7_meeting_61, w_X7_meeting_63, w_X7_meeting_66, w_X7_meeting_68, w_X7_meeting_70, w_X7_meeting_73, w_X7_meeting_76, w_X7_meeting_78, h.1.2.1]
    rw [if_pos ((kLe (by omega) (by omega)).mpr (by omega)), show j = nN N by omega]
  | succ k ih =>
    intro j hj
    have hj2 : j < nN N := by omega
    have ih := ih (j + 1) (by omega)
    rw [w_X7_meeting_20]
    simp only [w_X7_meeting_0, w_X7_meeting_1, w_X7_meeting_2, w_X7_meeting_3, w_X7_meeting_6, w_X7_meeting_7, w_X7_meeting_8, w_X7_meeting_9, w_X7_meeting_12, w_X7_meeting_13, w_X7_meeting_14, w_X7_meeting_15, w_X7_meeting_17, w_X7_meeting_18, w_X7_meeting_22, w_X7_meeting_23, w_X7_meeting_26, w_X7_meeting_29, w_X7_meeting_30, w_X7_meeting_32, w_X7_meeting_33, w_X7_meeting_34, w_X7_meeting_35, w_X7_meeting_36, w_X7_meeting_39, w_X7_meeting_41, w_X7_meeting_44, w_X7_meeting_45, w_X7_meeting_46, w_X7_meeting_48, w_X7_meeting_51, w_X7_meeting_52, w_X7_meeting_53, w_X7_meeting_55, w_X7_meeting_58, w_X7_meeting_61, w_X7_meeting_63, w_X7_meeting_66, w_X7_meeting_68, w_X7_meeting_70, w_X7_meeting_73, w_X7_meeting_76, w_X7_meeting_78, h.1.2.1]
    rw [if_neg (fun q => by rw [kLe (by omega) (by omega)] at q; omega)]
    simp (disch := omega) only [mk_ask (show nN N ≤ 32 by omega) hj2, bi_1, nI_1]
    have hst : bestF p (fun x => fr N s x) (j + 1) = (match bestF p (fun x => fr N s x) j with
      | none => if p j then some j else none
      | some b => if p j && decide (fr N s j < fr N s b) then some j else some b) := rfl
    rw [hst] at ih
    cases hp : p j with
    | false =>
      rw [hp] at ih
      rw [if_pos (by decide)]
      cases hb : bestF p (fun x => fr N s x) j with
      | none => rw [hb] at ih; exact ih
      | some b => rw [hb] at ih; exact ih
    | true =>
      rw [hp] at ih
      rw [if_neg (by decide)]
      cases hb : bestF p (fun x => fr N s x) j with
      | none =>
        rw [hb] at ih
        simp only [en_none, kn1, if_true]
        exact ih
      | some b =>
        rw [hb] at ih
        dsimp only at ih
        have hb1 := (bestF_some hb).1
        have w1 := fr_inf hN hs hj2
        have w2 := fr_inf hN hs (show b < nN N by omega)
        simp (disch := omega) only [en_some, k0lt, if_false, F_far h hs hj2, F_far h hs (show b < nN N by omega), mKI_some, kLe]
        by_cases c : fr N s b ≤ fr N s j
        · rw [if_pos c]
          rw [if_neg (by simp; exact c)] at ih
          exact ih
        · rw [if_neg c]
          rw [if_pos (by simp; omega)] at ih
          exact ih
theorem F_meeting (h : MF d N wt wh) (hx : HX N s dd e l) : WP mLayM 130 0 [some (.ref 0), some (.int (nI s)), some (.int (nI dd)), none, none, none] [] d Q ↔ Q (some (en (meE N s dd e (nC N l)))) d := by
  have h12 := h.1.1.2.1
  simp only [w_X7_meeting_0, w_X7_meeting_1, w_X7_meeting_2, w_X7_meeting_3, w_X7_meeting_6, w_X7_meeting_7, w_X7_meeting_8, w_X7_meeting_9, w_X7_meeting_12, w_X7_meeting_13, w_X7_meeting_14, w_X7_meeting_15, w_X7_meeting_17, w_X7_meeting_18, w_X7_meeting_22, w_X7_meeting_23, w_X7_meeting_26, w_X7_meeting_29, w_X7_meeting_30, w_X7_meeting_32, w_X7_meeting_33, w_X7_meeting_34, w_X7_meeting_35, w_X7_meeting_36, w_X7_meeting_39, w_X7_meeting_41, w_X7_meeting_44, w_X7_meeting_45, w_X7_meeting_46, w_X7_meeting_48, w_X7_meeting_51, w_X7_meeting_52, w_X7_meeting_53, w_X7_meeting_55, w_X7_meeting_58, w_X7_meeting_61, w_X7_meeting_63, w_X7_meeting_66, w_X7_meeting_68, w_X7_meeting_70, w_X7_meeting_73, w_X7_meeting_76, w_X7_meeting_78, F_reach h hx, F_coming h hx, mKI_some, mk_and (show nN N ≤ 32 by omega)]
  exact F_meeting_loop h hx.1 (nN N) 0 (by omega)
end MO6
