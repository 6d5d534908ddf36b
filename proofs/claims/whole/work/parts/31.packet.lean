/-! a PACKET, as both sides send it: at, end (none: underway), steps, where it was REPAIRED, COSTS, NODES it was at -/
abbrev Pk : Type := Nat × Option Nat × Nat × Option Nat × Nat × (Nat → Nat)
def kAt (P : Pk) : Nat := P.1
def kEn (P : Pk) : Option Nat := P.2.1
def kSt (P : Pk) : Nat := P.2.2.1
def kWh (P : Pk) : Option Nat := P.2.2.2.1
def kSp (P : Pk) : Nat := P.2.2.2.2.1
def kTr (P : Pk) : Nat → Nat := P.2.2.2.2.2
def kLost (P : Pk) : Pk := (kAt P, some 1, kSt P, kWh P, kSp P, kTr P)
/-- to a NODE, if it can -/
def pgo (N : Nt) (dn : Nat → Bool) (g : Nat) (P : Pk) (u : Nat) : Pk := match lk N (kAt P) u with
  | none => kLost P
  | some l => if dn l then kLost P else (u, if u = g then some 0 else none, kSt P + 1, kWh P, kSp P + nC N l, fup (kTr P) (kSt P + 1) u)
/-- on by NEXT for x -/
noncomputable def pwk (N : Nt) (dn : Nat → Bool) (g x : Nat) : Nat → Pk → Pk
  | 0, P => P
  | k + 1, P => if kEn P = none ∧ kAt P ≠ x then (match nx N none x (kAt P) with
      | none => kLost P
      | some u => pwk N dn g x k (pgo N dn g P u)) else P
/-- by a tunnel to x -/
noncomputable def ptn (N : Nt) (dn : Nat → Bool) (g s e c x : Nat) (P : Pk) : Pk := pwk N dn g x 12 (if rbE N s e c s x then P else (match fstI (nbP N s e c x) (nN N) with
  | none => kLost P
  | some u => pgo N dn g P u))
/-- REPAIRED where it is, s -/
noncomputable def prp (N : Nt) (dn : Nat → Bool) (g e c : Nat) (P0 : Pk) : Pk :=
  let s := kAt P0
  let P : Pk := (s, kEn P0, kSt P0, some s, kSp P0, kTr P0)
  match altF N s g with
  | some a => pgo N dn g P a
  | none => match meE N s g e c with
    | some x => ptn N dn g s e c x P
    | none => match brE N s g e c with
      | some k => (let P1 := ptn N dn g s e c (k / 12) P; if kEn P1 = none then pgo N dn g P1 (k % 12) else P1)
      | none => kLost P
noncomputable def psF (N : Nt) (dn : Nat → Bool) (g : Nat) : Nat → Pk → Pk
  | 0, P => P
  | k + 1, P => if kEn P = none then (match nx N none g (kAt P) with
      | none => kLost P
      | some u => if dn ((lk N (kAt P) u).getD 0) then (if kWh P = none then psF N dn g k (prp N dn g u (nC N ((lk N (kAt P) u).getD 0)) P) else kLost P) else psF N dn g k (pgo N dn g P u)) else P
def pk0 (a : Nat) : Pk := (a, none, 0, none, 0, fun _ => a)
/-- what becomes of a PACKET -/
noncomputable def psd (N : Nt) (dn : Nat → Bool) (a g : Nat) : Pk := psF N dn g 40 (pk0 a)
section PKT
variable {N : Nt} {dn : Nat → Bool} {g : Nat}
theorem pgo_wh {P : Pk} {u : Nat} : kWh (pgo N dn g P u) = kWh P := by
  unfold pgo; split
  · rfl
  · split <;> rfl
theorem pgo_st {P : Pk} {u : Nat} : kSt (pgo N dn g P u) ≤ kSt P + 1 := by
  unfold pgo; split
  · exact Nat.le_succ _
  · split
    · exact Nat.le_succ _
    · exact Nat.le_refl _
theorem pgo_un {P : Pk} {u : Nat} (h : kEn (pgo N dn g P u) = none) : kAt (pgo N dn g P u) = u ∧ kSt (pgo N dn g P u) = kSt P + 1 ∧ u ≠ g := by
  unfold pgo at h ⊢
  split at h
  · cases h
  · split at h
    · cases h
    · rename_i l hl hd
      rw [if_neg hd]
      refine ⟨rfl, rfl, fun q => ?_⟩
      have h2 : (if u = g then some 0 else none) = (none : Option Nat) := h
      rw [if_pos q] at h2
      cases h2
theorem pgo_at {P : Pk} {u : Nat} (h1 : kAt P < nN N) (h2 : u < nN N) : kAt (pgo N dn g P u) < nN N := by
  unfold pgo; split
  · exact h1
  · split
    · exact h1
    · exact h2
theorem gd_conn (hN : Nok N) {x y v : Nat} (hx : x < nN N) (hy : y < nN N) (hv : v < nN N) (h1 : fr N v x < INF) (h2 : fr N x y < INF) : fr N v y < INF := by
  have t := gd_tri (but := none) hN hx hy _ v hv rfl
  have s1 := gd_small hN hx hv h1
  have s2 := gd_small hN hy hx h2
  have hi : INF = 1000000 := rfl
  show gd N none y v < INF
  omega
theorem nx_lk (hN : Nok N) {x v u : Nat} (h : nx N none x v = some u) : ∃ l, lk N v u = some l ∧ l < nM N := by
  obtain ⟨-, l, h2, -⟩ := nx_some h
  exact ⟨l, h2, (lk_some h2).1⟩
/-- nodes joined by a LINK are as far as its COST at most -/
theorem lk_fr (hN : Nok N) {v u l x : Nat} (hx : x < nN N) (h : lk N v u = some l) : fr N v x ≤ fr N u x + nC N l ∧ nC N l ≤ 99 ∧ v < nN N ∧ u < nN N := by
  obtain ⟨h1, h2⟩ := lk_some h
  obtain ⟨a1, a2, -, -, a5⟩ := jn_lt hN h1 h2
  exact ⟨gd_cl hN hx h1 (by simp) h2, a5, a1, a2⟩
end PKT
