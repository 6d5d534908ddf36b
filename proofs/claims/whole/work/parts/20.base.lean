/-! numbers, networks, what a state of the reference means -/
theorem kLt {a b : Nat} (ha : a < 2 ^ 31) (hb : b < 2 ^ 31) : (nI a < nI b) ↔ a < b := nI_ltI ha hb
theorem kLe {a b : Nat} (ha : a < 2 ^ 31) (hb : b < 2 ^ 31) : (nI a ≤ nI b) ↔ a ≤ b := nI_leI ha hb
theorem kEq {a b : Nat} (ha : a < 2 ^ 31) (hb : b < 2 ^ 31) : (nI a = nI b) ↔ a = b := nI_eq ha hb
theorem kIn {a b : Nat} (ha : a < 2 ^ 31) : mIn (nI a) b ↔ a < b := by
  unfold mIn
  rw [nI_clamp ha]
  exact ⟨fun h => h.2, fun h => ⟨nI_pos ha, h⟩⟩
theorem kCl {a : Nat} (ha : a < 2 ^ 31) : (nI a).toNatClampNeg = a := nI_clamp ha
theorem k0lt {a : Nat} (ha : a < 2 ^ 31) : (nI a < 0) ↔ False := ⟨fun h => nI_pos ha h, False.elim⟩
theorem k0le {a : Nat} (ha : a < 2 ^ 31) : (0 ≤ nI a) ↔ True := ⟨fun _ => trivial, fun _ => nI_pos' ha⟩
theorem kNe {a : Nat} (ha : a < 2 ^ 31) : (nI a = -1) ↔ False := by
  constructor
  · intro h
    have := congrArg Int32.toInt h
    rw [nI_toInt ha] at this
    have h2 : (-1 : Int32).toInt = -1 := by decide
    omega
  · exact False.elim
theorem kNe' {a : Nat} (ha : a < 2 ^ 31) : (-1 = nI a) ↔ False := by rw [eq_comm]; exact kNe ha
theorem kn1 : ((-1 : Int32) < 0) ↔ True := by decide
theorem kn2 : ((0 : Int32) ≤ -1) ↔ False := by decide
theorem kq0 {a : Nat} (ha : a < 2 ^ 31) : (nI a = 0) ↔ a = 0 := kEq (b := 0) ha (by decide)
theorem kq1 {a : Nat} (ha : a < 2 ^ 31) : (nI a = 1) ↔ a = 1 := kEq (b := 1) ha (by decide)
theorem kq2 {a : Nat} (ha : a < 2 ^ 31) : (nI a = 2) ↔ a = 2 := kEq (b := 2) ha (by decide)
theorem kq3 {a : Nat} (ha : a < 2 ^ 31) : (nI a = 3) ↔ a = 3 := kEq (b := 3) ha (by decide)
theorem kq4 {a : Nat} (ha : a < 2 ^ 31) : (nI a = 4) ↔ a = 4 := kEq (b := 4) ha (by decide)
theorem kq5 {a : Nat} (ha : a < 2 ^ 31) : (nI a = 5) ↔ a = 5 := kEq (b := 5) ha (by decide)
theorem kq6 {a : Nat} (ha : a < 2 ^ 31) : (nI a = 6) ↔ a = 6 := kEq (b := 6) ha (by decide)
theorem kq7 {a : Nat} (ha : a < 2 ^ 31) : (nI a = 7) ↔ a = 7 := kEq (b := 7) ha (by decide)
def en (o : Option Nat) : Int32 := match o with
  | some k => nI k
  | none => -1
theorem en_some {k : Nat} : en (some k) = nI k := rfl
theorem en_none : en none = -1 := rfl
def bi (b : Bool) : Int32 := if b then 1 else 0
theorem bi_01 (b : Bool) : bi b = 0 ∨ bi b = 1 := by cases b <;> decide
theorem bi_0 {b : Bool} : bi b = 0 ↔ b = false := by cases b <;> decide
theorem bi_1 {b : Bool} : bi b = 1 ↔ b = true := by cases b <;> decide
theorem bi_t : bi true = 1 := rfl
theorem bi_f : bi false = 0 := rfl
/-- a network: NODES, LINKS, of each LINK its two NODES, COST, GROUPS -/
abbrev Nt : Type := Nat × Nat × (Nat → Nat) × (Nat → Nat) × (Nat → Nat) × (Nat → Nat)
def nN (N : Nt) : Nat := N.1
def nM (N : Nt) : Nat := N.2.1
def nA (N : Nt) : Nat → Nat := N.2.2.1
def nB (N : Nt) : Nat → Nat := N.2.2.2.1
def nC (N : Nt) : Nat → Nat := N.2.2.2.2.1
def nG (N : Nt) : Nat → Nat := N.2.2.2.2.2
def jn (N : Nt) (l a b : Nat) : Bool := (nA N l == a && nB N l == b) || (nA N l == b && nB N l == a)
theorem jn_iff {N : Nt} {l a b : Nat} : jn N l a b = true ↔ (nA N l = a ∧ nB N l = b) ∨ (nA N l = b ∧ nB N l = a) := by simp [jn]
theorem jn_comm {N : Nt} {l a b : Nat} : jn N l a b = jn N l b a := by
  rw [Bool.eq_iff_iff, jn_iff, jn_iff]
  exact ⟨Or.symm, Or.symm⟩
def Nok (N : Nt) : Prop := 2 ≤ nN N ∧ nN N ≤ 12 ∧ nM N ≤ 24 ∧ (∀ l, l < nM N → nA N l < nN N ∧ nB N l < nN N ∧ nA N l ≠ nB N l ∧ 1 ≤ nC N l ∧ nC N l ≤ 99 ∧ nG N l ≤ 255) ∧ ∀ l k, l < nM N → k < nM N → jn N l (nA N k) (nB N k) = true → l = k
def lkF (N : Nt) (a b : Nat) : Nat → Option Nat
  | 0 => none
  | l + 1 => if jn N l a b then some l else lkF N a b l
/-- the LINK of two NODES -/
def lk (N : Nt) (a b : Nat) : Option Nat := lkF N a b (nM N)
theorem lkF_some {N : Nt} {a b l : Nat} : ∀ {m : Nat}, lkF N a b m = some l → l < m ∧ jn N l a b = true
  | 0, h => by cases h
  | m + 1, h => by
    unfold lkF at h
    split at h
    · rename_i hj
      cases h
      exact ⟨Nat.lt_succ_self _, hj⟩
    · have := lkF_some h
      exact ⟨Nat.lt_succ_of_lt this.1, this.2⟩
theorem lkF_none {N : Nt} {a b : Nat} : ∀ {m : Nat}, lkF N a b m = none ↔ ∀ l, l < m → jn N l a b = false
  | 0 => ⟨fun _ l h => absurd h (Nat.not_lt_zero l), fun _ => rfl⟩
  | m + 1 => by
    unfold lkF
    constructor
    · intro h l hl
      split at h
      · cases h
      · rename_i hj
        by_cases e : l = m
        · subst e; simpa using hj
        · exact lkF_none.mp h l (by omega)
    · intro h
      rw [if_neg (by rw [h m (Nat.lt_succ_self m)]; decide)]
      exact lkF_none.mpr (fun l hl => h l (Nat.lt_succ_of_lt hl))
theorem lk_some {N : Nt} {a b l : Nat} (h : lk N a b = some l) : l < nM N ∧ jn N l a b = true := lkF_some h
theorem jn_uniq {N : Nt} (hN : Nok N) {a b l k : Nat} (hl : l < nM N) (hk : k < nM N) (h1 : jn N l a b = true) (h2 : jn N k a b = true) : l = k := by
  refine hN.2.2.2.2 l k hl hk ?_
  rw [jn_iff] at h1 h2 ⊢
  rcases h1 with ⟨rfl, rfl⟩ | ⟨rfl, rfl⟩ <;> rcases h2 with ⟨h3, h4⟩ | ⟨h3, h4⟩ <;> simp [h3, h4]
theorem lk_iff {N : Nt} (hN : Nok N) {a b l : Nat} : lk N a b = some l ↔ l < nM N ∧ jn N l a b = true := by
  refine ⟨lk_some, fun h => ?_⟩
  cases hk : lk N a b with
  | none =>
    have := lkF_none.mp hk l h.1
    rw [h.2] at this; cases this
  | some k =>
    have := lk_some hk
    rw [jn_uniq hN h.1 this.1 h.2 this.2]
theorem lk_comm {N : Nt} {a b : Nat} : lk N a b = lk N b a := by
  unfold lk
  generalize nM N = m
  induction m with
  | zero => rfl
  | succ m ih => unfold lkF; rw [jn_comm, ih]
/-- a state of the reference: the network N, what is DOWN -/
def MI (d : mS) (N : Nt) (wt wh : Nat) : Prop := Nok N ∧ d 0 1 = nI (nN N) ∧ d 0 2 = nI (nM N) ∧ (∀ l, l < nM N → d 1 l = nI (nA N l) ∧ d 2 l = nI (nB N l) ∧ d 3 l = nI (nC N l) ∧ d 4 l = nI (nG N l)) ∧ d 0 7 = nI wt ∧ d 0 8 = nI wh
theorem t_within {lay : mLay} {a b c : Int32} {σ : mS} {Q : Option Int32 → mS → Prop} : WP lay 94 0 [some (.int a), some (.int b), some (.int c)] [] σ Q ↔ Q (some (bi (decide (b ≤ a ∧ a ≤ c)))) σ := by
  simp only [w_X7_within_0, w_X7_within_1, w_X7_within_2, w_X7_within_5, w_X7_within_6, w_X7_within_7, w_X7_within_10, w_X7_within_11, w_X7_within_14, w_X7_within_15, true_or, or_true, true_and]
  by_cases h1 : a < b
  · rw [if_pos h1, show decide (b ≤ a ∧ a ≤ c) = false by rw [decide_eq_false_iff_not]; intro h; exact absurd h.1 (Int32.not_le.mpr h1)]
    exact Iff.rfl
  · rw [if_neg h1]
    by_cases h2 : c < a
    · rw [if_pos h2, show decide (b ≤ a ∧ a ≤ c) = false by rw [decide_eq_false_iff_not]; intro h; exact absurd h.2 (Int32.not_le.mpr h2)]
      exact Iff.rfl
    · rw [if_neg h2, show decide (b ≤ a ∧ a ≤ c) = true by rw [decide_eq_true_iff]; exact ⟨Int32.not_lt.mp h1, Int32.not_lt.mp h2⟩]
      exact Iff.rfl
/-- a number below n, or none -/
def ix (n : Nat) (a : Int32) : Option Nat := if 0 ≤ a ∧ a < nI n then some a.toNatClampNeg else none
theorem ix_some {n : Nat} {a : Int32} {k : Nat} (hn : n < 2 ^ 31) (h : ix n a = some k) : a = nI k ∧ k < n := by
  unfold ix at h
  split at h
  · rename_i hh
    cases h
    rcases pk_ix a hn with q | q | ⟨j, hj, rfl⟩
    · exact absurd hh.1 (Int32.not_le.mpr q)
    · exact absurd hh.2 (Int32.not_lt.mpr q)
    · rw [nI_clamp (by omega)]; exact ⟨rfl, hj⟩
  · cases h
theorem ix_nI {n k : Nat} (hn : n < 2 ^ 31) (hk : k < n) : ix n (nI k) = some k := by
  unfold ix
  rw [if_pos ⟨nI_pos' (by omega), nI_lt hk hn⟩, nI_clamp (by omega)]
theorem ix_neg {n : Nat} {a : Int32} (h : a < 0) : ix n a = none := if_neg (fun q => absurd q.1 (Int32.not_le.mpr h))
theorem ix_big {n : Nat} {a : Int32} (h : nI n ≤ a) : ix n a = none := if_neg (fun q => absurd q.2 (Int32.not_lt.mpr h))
theorem ix_in {n : Nat} {a : Int32} (h1 : ¬ a < 0) (h2 : ¬ nI n ≤ a) : ix n a = some a.toNatClampNeg := if_pos ⟨Int32.not_lt.mp h1, Int32.not_le.mp h2⟩
theorem t_node {a : Int32} {n : Nat} {A B : Prop} : (if a < 0 then A else if nI n ≤ a then A else B) ↔ (if (ix n a).isSome then B else A) := by
  by_cases h1 : a < 0
  · rw [if_pos h1, ix_neg h1]
    exact Iff.rfl
  · rw [if_neg h1]
    by_cases h2 : nI n ≤ a
    · rw [if_pos h2, ix_big h2]
      exact Iff.rfl
    · rw [if_neg h2, ix_in h1 h2]
      exact Iff.rfl
theorem ite_bi {b : Bool} {Q : Int32 → Prop} : (if b = true then Q 1 else Q 0) ↔ Q (bi b) := by cases b <;> exact Iff.rfl
