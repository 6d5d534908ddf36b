/-! NEXT, and the first of some -/
def fstI (p : Nat → Bool) : Nat → Option Nat
  | 0 => none
  | n + 1 => match fstI p n with
    | some k => some k
    | none => if p n then some n else none
theorem fstI_some {p : Nat → Bool} {k : Nat} : ∀ {n : Nat}, fstI p n = some k → k < n ∧ p k = true ∧ ∀ j, j < k → p j = false
  | 0, h => by cases h
  | n + 1, h => by
    unfold fstI at h
    cases hn : fstI p n with
    | some j =>
      rw [hn] at h
      cases h
      obtain ⟨h1, h2, h3⟩ := fstI_some hn
      exact ⟨by omega, h2, h3⟩
    | none =>
      rw [hn] at h
      dsimp only at h
      split at h
      · rename_i hp
        cases h
        refine ⟨Nat.lt_succ_self _, hp, fun j hj => ?_⟩
        have : ∀ m, fstI p m = none → ∀ j, j < m → p j = false := by
          intro m
          induction m with
          | zero => intro _ j hj; omega
          | succ m ih =>
            intro hm j hj
            unfold fstI at hm
            cases hm2 : fstI p m with
            | some q => rw [hm2] at hm; cases hm
            | none =>
              rw [hm2] at hm
              dsimp only at hm
              split at hm
              · cases hm
              · rename_i hpm
                by_cases e : j = m
                · subst e; simpa using hpm
                · exact ih hm2 j (by omega)
        exact this k hn j hj
      · cases h
theorem fstI_none {p : Nat → Bool} : ∀ {n : Nat}, fstI p n = none ↔ ∀ j, j < n → p j = false
  | 0 => ⟨fun _ j hj => absurd hj (Nat.not_lt_zero j), fun _ => rfl⟩
  | n + 1 => by
    unfold fstI
    constructor
    · intro h j hj
      cases hn : fstI p n with
      | some q => rw [hn] at h; cases h
      | none =>
        rw [hn] at h
        dsimp only at h
        split at h
        · cases h
        · rename_i hp
          by_cases e : j = n
          · subst e; simpa using hp
          · exact fstI_none.mp hn j (by omega)
    · intro h
      rw [fstI_none.mpr (fun j hj => h j (by omega))]
      dsimp only
      rw [if_neg (by rw [h n (Nat.lt_succ_self n)]; decide)]
theorem fstI_eq {p : Nat → Bool} {k n : Nat} (hk : k < n) (hp : p k = true) (hl : ∀ j, j < k → p j = false) : fstI p n = some k := by
  cases h : fstI p n with
  | none => have := fstI_none.mp h k hk; rw [hp] at this; cases this
  | some j =>
    obtain ⟨h1, h2, h3⟩ := fstI_some h
    rcases Nat.lt_trichotomy j k with q | q | q
    · rw [hl j q] at h2; cases h2
    · rw [q]
    · rw [h3 k q] at hp; cases hp
theorem fstI_congr {p q : Nat → Bool} {n : Nat} (h : ∀ k, k < n → p k = q k) : fstI p n = fstI q n := by
  cases hp : fstI p n with
  | none => exact (fstI_none.mpr (fun j hj => by rw [← h j hj]; exact fstI_none.mp hp j hj)).symm
  | some k =>
    obtain ⟨h1, h2, h3⟩ := fstI_some hp
    exact (fstI_eq h1 (by rw [← h k h1]; exact h2) (fun j hj => by rw [← h j (by omega)]; exact h3 j hj)).symm
/-- the lowest from k on -/
def fstG (p : Nat → Bool) (k n : Nat) : Option Nat := fstI (fun i => decide (k ≤ i) && p i) n
theorem fstG_0 {p : Nat → Bool} {n : Nat} : fstG p 0 n = fstI p n := fstI_congr (fun k _ => by simp)
theorem fstG_n {p : Nat → Bool} {n : Nat} : fstG p n n = none := fstI_none.mpr (fun j hj => by simp; intro h; omega)
theorem fstG_step {p : Nat → Bool} {k n : Nat} (hk : k < n) : fstG p k n = if p k then some k else fstG p (k + 1) n := by
  by_cases hp : p k = true
  · rw [if_pos hp]
    exact fstI_eq hk (by simpa using hp) (fun j hj => by simp; intro h; omega)
  · rw [if_neg hp]
    refine fstI_congr (fun i _ => ?_)
    by_cases e : i = k
    · subst e; simp at hp; simp [hp]
    · rw [show decide (k ≤ i) = decide (k + 1 ≤ i) by apply decide_eq_decide.mpr; omega]
noncomputable def nxc (N : Nt) (but : Option Nat) (d v u : Nat) : Bool := match lk N v u with
  | none => false
  | some l => decide (some l ≠ but ∧ v ≠ d ∧ gd N but d v < INF ∧ nC N l + gd N but d u = gd N but d v)
/-- NEXT of v for d, without a LINK -/
noncomputable def nx (N : Nt) (but : Option Nat) (d v : Nat) : Option Nat := fstI (nxc N but d v) (nN N)
section NXT
variable {N : Nt} {but : Option Nat} {d v u : Nat}
theorem nxc_iff : nxc N but d v u = true ↔ ∃ l, lk N v u = some l ∧ some l ≠ but ∧ v ≠ d ∧ gd N but d v < INF ∧ nC N l + gd N but d u = gd N but d v := by
  unfold nxc
  cases h : lk N v u with
  | none => simp
  | some l => simp
theorem nx_some (h : nx N but d v = some u) : u < nN N ∧ ∃ l, lk N v u = some l ∧ some l ≠ but ∧ v ≠ d ∧ gd N but d v < INF ∧ nC N l + gd N but d u = gd N but d v := by
  obtain ⟨h1, h2, -⟩ := fstI_some h
  exact ⟨h1, nxc_iff.mp h2⟩
theorem nx_none (hN : Nok N) (hd : d < nN N) (hv : v < nN N) : nx N but d v = none ↔ v = d ∨ gd N but d v = INF := by
  constructor
  · intro h
    apply Classical.byContradiction
    intro hc
    have hvd : v ≠ d := fun q => hc (Or.inl q)
    have hi : gd N but d v < INF := by
      have := gd_inf (but := but) hN hd hv
      exact Nat.lt_of_le_of_ne this (fun q => hc (Or.inr q))
    obtain ⟨l, u, hl, hb, hj, he⟩ := gd_ti hN hd hv hvd hi
    have h2 := fstI_none.mp h u (jn_lt hN hl hj).2.1
    have h3 : nxc N but d v u = true := nxc_iff.mpr ⟨l, (lk_iff hN).mpr ⟨hl, hj⟩, hb, hvd, hi, by omega⟩
    rw [h2] at h3; cases h3
  · intro h
    refine fstI_none.mpr (fun j hj => ?_)
    cases hq : nxc N but d v j with
    | false => rfl
    | true =>
      obtain ⟨l, -, -, h3, h4, -⟩ := nxc_iff.mp hq
      rcases h with h | h
      · exact absurd h h3
      · omega
theorem nx_gd (hN : Nok N) (h : nx N but d v = some u) : gd N but d u < gd N but d v := by
  obtain ⟨h1, l, h2, -, -, -, h6⟩ := nx_some h
  obtain ⟨hl, hj⟩ := lk_some h2
  have := jn_lt hN hl hj
  omega
theorem nx_rk (hN : Nok N) (h : nx N but d v = some u) : rk N but d u < rk N but d v := rk_lt (nx_some h).1 (nx_gd hN h)
end NXT
