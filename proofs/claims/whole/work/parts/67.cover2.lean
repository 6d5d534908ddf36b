/-! the class: SAFE -/
section CV2
variable {c : mS} {N : Nt} {wt wh : Nat} {Q : Option Int32 → mS → Prop} {s dd e l g : Nat}
/-- only what is nearer is on a WAY -/
theorem on_near (hN : Nok N) : ∀ (k v : Nat), v < nN N → rk N none g v = k → onW N l g v = true → ∀ a b, jn N l a b = true → gd N none g a ≤ gd N none g v := by
  intro k
  induction k using Nat.strongRecOn with
  | ind k ih =>
    intro v hv hk ho a b hj
    rw [onW_eq hN hv] at ho
    cases hn : nx N none g v with
    | none => rw [hn] at ho; cases ho
    | some u =>
      rw [hn] at ho
      dsimp only at ho
      have hr := nx_rk hN hn
      have hg := nx_gd hN hn
      rw [Bool.or_eq_true, decide_eq_true_iff] at ho
      rcases ho with q | q
      · have hj2 := (lk_some q).2
        have hab : a = v ∨ a = u := by rw [jn_iff] at hj hj2; omega
        rcases hab with rfl | rfl <;> omega
      · have := ih _ (by omega) u (nx_some hn).1 rfl q a b hj
        omega
/-- its own LINK is not on the WAY from its NEXT -/
theorem on_own (hN : Nok N) {v u : Nat} (hn : nx N none g v = some u) (hl : lk N v u = some l) : onW N l g u = false := by
  cases ho : onW N l g u with
  | false => rfl
  | true =>
    have h1 := on_near hN _ u (nx_some hn).1 rfl ho v u (lk_some hl).2
    have h2 := nx_gd hN hn
    omega
theorem on_lt (hN : Nok N) : ∀ (k v : Nat), v < nN N → rk N none g v = k → onW N l g v = true → l < nM N := by
  intro k
  induction k using Nat.strongRecOn with
  | ind k ih =>
    intro v hv hk ho
    rw [onW_eq hN hv] at ho
    cases hn : nx N none g v with
    | none => rw [hn] at ho; cases ho
    | some u =>
      rw [hn] at ho
      dsimp only at ho
      have hr := nx_rk hN hn
      rw [Bool.or_eq_true, decide_eq_true_iff] at ho
      rcases ho with q | q
      · exact (lk_some q).1
      · exact ih _ (by omega) u (nx_some hn).1 rfl q
def dn1 (l : Nat) : Nat → Bool := fun k => decide (k = l)
theorem sdn_1 : sdn N 1 l = dn1 l := by
  funext k
  unfold sdn dn1
  rw [if_pos rfl]
theorem psF_go {dn : Nat → Bool} {P : Pk} {u k : Nat} (hen : kEn P = none) (hn : nx N none g (kAt P) = some u) (hd : dn ((lk N (kAt P) u).getD 0) = false) : psF N dn g (k + 1) P = psF N dn g k (pgo N dn g P u) := by
  conv => lhs; unfold psF
  rw [if_pos hen, hn]
  dsimp only
  rw [if_neg (by rw [hd]; exact Bool.false_ne_true)]
/-- a PACKET comes as far as the LINK that is DOWN -/
theorem psd_tail (hN : Nok N) (hg : g < nN N) {u l' : Nat} (hs : s < nN N) (hn : nx N none g s = some u) (hl : lk N s u = some l') (hne : l' ≠ l) (hu : u ≠ g) : kEn (psd N (dn1 l) s g) = kEn (psd N (dn1 l) u g) := by
  have hun := (nx_some hn).1
  have e1 : psd N (dn1 l) s g = psF N (dn1 l) g 39 (pgo N (dn1 l) g (pk0 s) u) := by
    refine psF_go (P := pk0 s) rfl hn ?_
    show dn1 l ((lk N s u).getD 0) = false
    rw [hl]
    exact decide_eq_false hne
  have e2 : PE (pgo N (dn1 l) g (pk0 s) u) (pk0 u) := by
    have : pgo N (dn1 l) g (pk0 s) u = (u, none, 1, none, 0 + nC N l', fup (fun _ => s) 1 u) := by
      unfold pgo
      show (match lk N s u with | none => _ | some l => _) = _
      rw [hl]
      dsimp only
      rw [if_neg (show ¬ dn1 l l' = true by show ¬ decide (l' = l) = true; rw [decide_eq_true_iff]; exact hne), if_neg hu]
      rfl
    rw [this]
    exact ⟨rfl, rfl, rfl⟩
  rw [e1, (PE_sF (N := N) (dn := dn1 l) (g := g) 39 e2).2.1]
  obtain ⟨i1, -⟩ := pk0_IV (g := g) hN hun
  have hm : pMs N g (pk0 u) < 39 := by
    have hr := rk_n (N := N) (but := none) (d := g) hun
    have h12 := hN.2.1
    unfold pMs
    show (if (none : Option Nat) = none then 13 else 0) + rk N none g u < 39
    rw [if_pos rfl]; omega
  unfold psd
  rw [psF_fu hN hg 39 40 (pk0 u) i1 hm (by omega)]
/-- whether s gets over the loss of its own LINK -/
noncomputable def own (N : Nt) (g s : Nat) : Bool := match nx N none g s with
  | none => false
  | some u => match lk N s u with
    | none => false
    | some l => decide (kEn (psd N (dn1 l) s g) = some 0)
theorem sf_iff : sfP N s g = true ↔ ∀ l, l < nM N → onW N l g s = true → kEn (psd N (dn1 l) s g) = some 0 := by
  unfold sfP
  rw [allB_iff]
  constructor
  · intro h l hl ho
    have := h l hl
    rw [ho, Bool.not_true, Bool.false_or, decide_eq_true_iff, sdn_1] at this
    exact this
  · intro h l hl
    cases ho : onW N l g s with
    | false => rfl
    | true => rw [Bool.not_true, Bool.false_or, decide_eq_true_iff, sdn_1]; exact h l hl ho
theorem sf_step (hN : Nok N) (hg : g < nN N) {u : Nat} (hs : s < nN N) (hn : nx N none g s = some u) : sfP N s g = (own N g s && (decide (u = g) || sfP N u g)) := by
  obtain ⟨l', hl, hlm⟩ := nx_lk hN hn
  have hun := (nx_some hn).1
  have ho : own N g s = decide (kEn (psd N (dn1 l') s g) = some 0) := by unfold own; rw [hn]; dsimp only; rw [hl]
  have hon : ∀ l, onW N l g s = (decide (lk N s u = some l) || onW N l g u) := fun l => by rw [onW_eq hN hs, hn]
  rw [Bool.eq_iff_iff, Bool.and_eq_true, Bool.or_eq_true, ho, decide_eq_true_iff, decide_eq_true_iff, sf_iff, sf_iff]
  constructor
  · intro h
    refine ⟨h l' hlm (by rw [hon, decide_eq_true hl, Bool.true_or]), ?_⟩
    by_cases e : u = g
    · exact Or.inl e
    · refine Or.inr (fun l h1 h2 => ?_)
      have hne : l' ≠ l := fun q => by subst q; rw [on_own hN hn hl] at h2; cases h2
      rw [← psd_tail hN hg hs hn hl hne e]
      exact h l h1 (by rw [hon, h2, Bool.or_true])
  · rintro ⟨h1, h2⟩ l hlm2 h3
    by_cases e : l' = l
    · subst e; exact h1
    · rw [hon, Bool.or_eq_true, decide_eq_true_iff, hl] at h3
      rcases h3 with q | q
      · exact absurd (Option.some.inj q) e
      · have hug : u ≠ g := fun z => by rw [z, on_not_d hN hg] at q; cases q
        rcases h2 with z | z
        · exact absurd z hug
        · rw [psd_tail hN hg hs hn hl e hug]; exact z l hlm2 q
/-- on the WAY from v, all in the set, before k LINKS are gone -/
noncomputable def wW (N : Nt) (g : Nat) (set : Nat → Bool) : Nat → Option Nat → Bool
  | 0, o => decide (o = some g)
  | k + 1, o => match o with
    | none => false
    | some v => if v = g then true else if set v then wW N g set k (nx N none g v) else false
theorem wW_sf (hN : Nok N) (hg : g < nN N) : ∀ (k v : Nat), v < nN N → rk N none g v < k → v ≠ g → wW N g (own N g) k (some v) = (match nx N none g v with
    | none => false
    | some _ => sfP N v g) := by
  intro k
  induction k with
  | zero => intro v _ h; omega
  | succ k ih =>
    intro v hv hr hvg
    unfold wW
    dsimp only
    rw [if_neg hvg]
    cases hn : nx N none g v with
    | none => rw [show own N g v = false by unfold own; rw [hn]]; rfl
    | some u =>
      have hu := (nx_some hn).1
      have hrr := nx_rk hN hn
      dsimp only
      rw [sf_step hN hg hv hn]
      cases own N g v with
      | false => rfl
      | true =>
        rw [if_pos rfl, Bool.true_and]
        by_cases e : u = g
        · rw [decide_eq_true e, Bool.true_or]
          cases k with
          | zero => unfold wW; rw [e, decide_eq_true rfl]
          | succ k => unfold wW; dsimp only; rw [if_pos e]
        · rw [decide_eq_false e, Bool.false_or, ih u hu (by omega) e]
          cases hn2 : nx N none g u with
          | some z => rfl
          | none =>
            rcases (nx_none hN hg hu).mp hn2 with q | q
            · exact absurd q e
            · have h1 := nx_gd hN hn
              have h2 := gd_inf (but := none) hN hg hv
              omega
end CV2
