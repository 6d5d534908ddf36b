/-! the class: WAIT, GOES ROUND -/
theorem maxO_is {p : Nat → Option Nat} {x : Nat} : ∀ {n k : Nat}, k < n → p k = some x → (maxO p n).isSome = true
  | 0, k, h, _ => absurd h (Nat.not_lt_zero k)
  | n + 1, k, h, hp => by
    unfold maxO
    by_cases e : k = n
    · subst e
      rw [hp]
      dsimp only
      cases maxO p k with
      | none => rfl
      | some y => dsimp only; split <;> rfl
    · have := maxO_is (n := n) (k := k) (by omega) hp
      cases p n with
      | none => exact this
      | some y =>
        dsimp only
        cases maxO p n with
        | none => rfl
        | some z => dsimp only; split <;> rfl
theorem stp_self {N : Nt} {dd v : Nat} : stp N dd v v = some 0 := by
  unfold stp
  show (if v = v then some 0 else _) = some 0
  rw [if_pos rfl]
theorem maxO_s {p : Nat → Option Nat} {n : Nat} : maxO p (n + 1) = (match p n with
    | none => maxO p n
    | some x => match maxO p n with
      | none => some x
      | some y => if y < x then some x else some y) := rfl
section AF2
variable {c : mS} {N : Nt} {wt wh : Nat} {Q : Option Int32 → mS → Prop} {a b a1 : Int32} {l dd v : Nat}
theorem delay_loop (h : CS c N wt wh) (hd : dd < nN N) (hv : v < nN N) {l0 : Int32} : ∀ (k j : Nat), j + k = nN N →
    (WP mLayH 5 20 [some (.ref 5), some (.ref 1), some (.int l0), some (.int (nI dd)), some (.int (nI v)), some (.int (nI ((maxO (stp N dd v) j).getD 0))), some (.int (nI j))] [] c Q ↔ Q (some (nI ((maxO (stp N dd v) (nN N)).getD 0))) c) := by
  have h12 := h.1.1.2.1
  intro k
  induction k with
  | zero =>
    intro j hj
    rw [w_X0_delay_20]
    simp only [w_X0_delay_22, w_X0_delay_23, w_X0_delay_26, w_X0_delay_29, w_X0_delay_31, w_X0_delay_32, w_X0_delay_33, w_X0_delay_35, w_X0_delay_36, w_X0_delay_38, w_X0_delay_41, w_X0_delay_44, w_X0_delay_46, w_X0_delay_49, w_X0_delay_52, w_X0_delay_54, h.1.2.1]
    rw [if_pos ((kLe (by omega) (by omega)).mpr (by omega)), show j = nN N by omega]
  | succ k ih =>
    intro j hj
    have hjn : j < nN N := by omega
    rw [w_X0_delay_20]
    simp only [w_X0_delay_22, w_X0_delay_23, w_X0_delay_26, w_X0_delay_29, w_X0_delay_31, w_X0_delay_32, w_X0_delay_33, w_X0_delay_35, w_X0_delay_36, w_X0_delay_38, w_X0_delay_41, w_X0_delay_44, w_X0_delay_46, w_X0_delay_49, w_X0_delay_52, w_X0_delay_54, h.1.2.1, C_steps h hd hv hjn, mKI_some, nI_1]
    rw [if_neg (fun q => by rw [kLe (by omega) (by omega)] at q; omega), ← ih (j + 1) (by omega), maxO_s]
    have hm : (maxO (stp N dd v) j).getD 0 < 12 := by
      cases hq : maxO (stp N dd v) j with
      | none => exact (by decide : 0 < 12)
      | some y => exact maxO_b (fun k x hx => stp_b hx) hq
    cases hs : stp N dd v j with
    | none =>
      rw [en_none, if_neg (fun q => by
        have : (nI ((maxO (stp N dd v) j).getD 0)) < 0 := Int32.lt_trans q (by decide)
        exact nI_pos (by omega) this)]
    | some x =>
      have hx := stp_b hs
      rw [en_some]
      cases hq : maxO (stp N dd v) j with
      | none =>
        show WP _ _ _ [_, _, _, _, _, some (.int (if nI 0 < nI x then nI x else nI 0)), _] _ _ _ ↔ WP _ _ _ [_, _, _, _, _, some (.int (nI x)), _] _ _ _
        by_cases e : 0 < x
        · rw [if_pos ((kLt (by decide) (by omega)).mpr e)]
        · rw [if_neg (fun q => e ((kLt (by decide) (by omega)).mp q)), show x = 0 by omega]
      | some y =>
        have hy : y < 12 := by rw [hq] at hm; exact hm
        dsimp only
        show WP _ _ _ [_, _, _, _, _, some (.int (if nI y < nI x then nI x else nI y)), _] _ _ _ ↔ _
        by_cases e : y < x
        · rw [if_pos ((kLt (by omega) (by omega)).mpr e), if_pos e]; exact Iff.rfl
        · rw [if_neg (fun q => e ((kLt (by omega) (by omega)).mp q)), if_neg e]; exact Iff.rfl
theorem C_delay (h : CS c N wt wh) (hl : l < nM N) (hd : dd < nN N) (hv : v < nN N) : WP mLayH 5 0 [some (.ref 5), some (.ref 1), some (.int (nI l)), some (.int (nI dd)), some (.int (nI v)), none, none] [] c Q ↔ Q (some (en (wtF N l dd v))) c := by
  simp only [w_X0_delay_0, w_X0_delay_1, w_X0_delay_2, w_X0_delay_3, w_X0_delay_4, w_X0_delay_6, w_X0_delay_9, w_X0_delay_12, w_X0_delay_13, w_X0_delay_14, w_X0_delay_15, w_X0_delay_17, w_X0_delay_18, C_isHit h hl hd hv, mKI_some]
  unfold wtF
  cases onW N l dd v with
  | false => rw [if_neg (fun q => q bf0), if_neg (by decide)]; exact Iff.rfl
  | true =>
    rw [if_pos bt1, if_pos rfl]
    have := delay_loop (Q := Q) (l0 := nI l) h hd hv (nN N) 0 (by omega)
    have hs := maxO_is (p := stp N dd v) hv stp_self
    cases hm : maxO (stp N dd v) (nN N) with
    | none => rw [hm] at hs; cases hs
    | some y => rw [hm] at this; exact this
theorem longest_loop (h : CS c N wt wh) (hl : l < nM N) (hv : v < nN N) : ∀ (k j : Nat), j + k = nN N →
    (WP mLayH 7 6 [some (.ref 5), some (.ref 1), some (.int (nI l)), some (.int (nI v)), some (.int (en (maxO (fun x => wtF N l x v) j))), some (.int (nI j))] [] c Q ↔ Q (some (en (maxO (fun x => wtF N l x v) (nN N)))) c) := by
  have h12 := h.1.1.2.1
  have wb : ∀ k x, wtF N l k v = some x → x < 12 := by
    intro k x hx
    unfold wtF at hx
    split at hx
    · exact maxO_b (fun k x hx => stp_b hx) hx
    · cases hx
  intro k
  induction k with
  | zero =>
    intro j hj
    rw [w_X0_longestDelay_6]
    simp only [w_X0_longestDelay_8, w_X0_longestDelay_9, w_X0_longestDelay_12, w_X0_longestDelay_15, w_X0_longestDelay_17, w_X0_longestDelay_18, w_X0_longestDelay_19, w_X0_longestDelay_20, w_X0_longestDelay_22, w_X0_longestDelay_23, w_X0_longestDelay_26, w_X0_longestDelay_29, w_X0_longestDelay_31, w_X0_longestDelay_34, w_X0_longestDelay_37, w_X0_longestDelay_39, h.1.2.1]
    rw [if_pos ((kLe (by omega) (by omega)).mpr (by omega)), show j = nN N by omega]
  | succ k ih =>
    intro j hj
    have hjn : j < nN N := by omega
    rw [w_X0_longestDelay_6]
    simp only [w_X0_longestDelay_8, w_X0_longestDelay_9, w_X0_longestDelay_12, w_X0_longestDelay_15, w_X0_longestDelay_17, w_X0_longestDelay_18, w_X0_longestDelay_19, w_X0_longestDelay_20, w_X0_longestDelay_22, w_X0_longestDelay_23, w_X0_longestDelay_26, w_X0_longestDelay_29, w_X0_longestDelay_31, w_X0_longestDelay_34, w_X0_longestDelay_37, w_X0_longestDelay_39, h.1.2.1, C_delay h hl hjn hv, mKI_some, nI_1]
    rw [if_neg (fun q => by rw [kLe (by omega) (by omega)] at q; omega), ← ih (j + 1) (by omega), maxO_s]
    cases hs : wtF N l j v with
    | none =>
      rw [en_none, if_neg]
      cases hq : maxO (fun x => wtF N l x v) j with
      | none => decide
      | some y =>
        have := maxO_b wb hq
        intro q
        exact nI_pos (show y < 2 ^ 31 by omega) (Int32.lt_trans q (by decide))
    | some x =>
      have hx := wb j x hs
      rw [en_some]
      cases hq : maxO (fun x => wtF N l x v) j with
      | none =>
        rw [en_none, if_pos (show (-1 : Int32) < nI x from by
          have h0 : (0 : Int32) ≤ nI x := nI_pos' (by omega)
          exact Int32.lt_of_lt_of_le (by decide) h0)]
        exact Iff.rfl
      | some y =>
        have hy := maxO_b wb hq
        rw [en_some]
        dsimp only
        by_cases e : y < x
        · rw [if_pos ((kLt (by omega) (by omega)).mpr e), if_pos e]; exact Iff.rfl
        · rw [if_neg (fun q => e ((kLt (by omega) (by omega)).mp q)), if_neg e]; exact Iff.rfl
theorem C_longest (h : CS c N wt wh) (hl : l < nM N) (hv : v < nN N) : WP mLayH 7 0 [some (.ref 5), some (.ref 1), some (.int (nI l)), some (.int (nI v)), none, none] [] c Q ↔ Q (some (en (maxO (fun x => wtF N l x v) (nN N)))) c := by
  simp only [w_X0_longestDelay_0, w_X0_longestDelay_1, w_X0_longestDelay_3, w_X0_longestDelay_4]
  exact longest_loop h hl hv (nN N) 0 (by omega)
theorem D_holds (h : CI c N wt wh) (kk : ∀ c' : mS, CI c' N wt wh → Q (some (qHolds N a b a1)) c') : WP mLayH 78 0 [some (.ref 0), some (.int a), some (.int b), some (.int a1)] [] c Q := by
  have hN := h.1.1
  have h12 := hN.2.1
  have h24 := hN.2.2.1
  simp only [w_X6_holds_0, w_X6_holds_1, w_X6_holds_4, w_X6_holds_5, w_X6_holds_8, w_X6_holds_11, w_X6_holds_12, w_X6_holds_15, w_X6_holds_16, w_X6_holds_19, w_X6_holds_22, w_X6_holds_23, w_X6_holds_24, w_X6_holds_25, w_X6_holds_28, w_X6_holds_31, w_X6_holds_32, w_X6_holds_33, w_X6_holds_36, w_X6_holds_37, w_X6_holds_40, w_X6_holds_41, w_X6_holds_44, w_X6_holds_45, w_X6_holds_46, w_X6_holds_49, w_X6_holds_50, w_X6_holds_51, w_X6_holds_54, w_X6_holds_55, w_X6_holds_58, w_X6_holds_61, w_X6_holds_62, w_X6_holds_65, w_X6_holds_66, w_X6_holds_69, w_X6_holds_70, w_X6_holds_71, w_X6_holds_72, w_X6_holds_75, w_X6_holds_78, w_X6_holds_79, C_isLink h.1, C_isNode h.1, mKI_some]
  unfold qHolds at kk
  cases hl : ix (nM N) a with
  | none => rw [hl] at kk; exact kk c h
  | some l =>
    rw [hl] at kk
    rw [if_neg bs1]
    cases hy : ix (nN N) a1 with
    | none => rw [hy] at kk; rw [if_neg (fun q => q rfl)]; exact kk c h
    | some v =>
      rw [hy] at kk
      obtain ⟨rfl, hlm⟩ := ix_some (by omega) hl
      obtain ⟨rfl, hv⟩ := ix_some (by omega) hy
      rw [if_pos bs1]
      refine C_settle h (fun c1 h1 => ?_)
      dsimp only at kk
      have k := kk c1 (CS_I h1)
      rw [mKV_none]
      by_cases e : b = -1
      · rw [if_pos e] at k
        rw [if_neg (fun q => q e), C_longest h1 hlm hv, mKI_some]
        exact k
      · rw [if_neg e] at k
        rw [if_pos e, C_isNode h1.1, mKI_some]
        cases hx : ix (nN N) b with
        | none => rw [hx] at k; exact k
        | some x =>
          rw [hx] at k
          obtain ⟨rfl, hxn⟩ := ix_some (by omega) hx
          rw [if_neg bs1, C_delay h1 hlm hxn hv, mKI_some]
          exact k
end AF2
/-! going on n times is going on for ever -/
section ITF
variable {f : Nat → Option Nat} {n : Nat}
theorem itF_dn : ∀ (k x : Nat), (itF f (k + 1) x).isSome = true → (itF f k x).isSome = true
  | 0, x, _ => rfl
  | k + 1, x, h => by
    unfold itF at h ⊢
    cases hf : f x with
    | none => rw [hf] at h; cases h
    | some y => rw [hf] at h; exact itF_dn k y h
theorem itF_stab (hf : ∀ x y, x < n → f x = some y → y < n) {k : Nat} (h : ∀ x, x < n → (itF f k x).isSome = true → (itF f (k + 1) x).isSome = true) : ∀ x, x < n → (itF f (k + 1) x).isSome = true → (itF f (k + 2) x).isSome = true := by
  intro x hx hs
  unfold itF at hs ⊢
  cases hq : f x with
  | none => rw [hq] at hs; cases hs
  | some y => rw [hq] at hs; exact h y (hf x y hx hq) hs
theorem itF_cnt (hf : ∀ x y, x < n → f x = some y → y < n) : ∀ k, (∀ x, x < n → (itF f k x).isSome = true → (itF f (k + 1) x).isSome = true) ∨ cnt (fun x => (itF f k x).isSome) n + k ≤ n
  | 0 => Or.inr (by have := cnt_le (p := fun x => (itF f 0 x).isSome) (n := n); omega)
  | k + 1 => by
    rcases itF_cnt hf k with h | h
    · exact Or.inl (itF_stab hf h)
    · by_cases e : ∀ x, x < n → (itF f k x).isSome = true → (itF f (k + 1) x).isSome = true
      · exact Or.inl (itF_stab hf e)
      · right
        have : ∃ x, x < n ∧ (itF f k x).isSome = true ∧ (itF f (k + 1) x).isSome = false := by
          apply Classical.byContradiction
          intro q
          apply e
          intro x hx hs
          cases hh : (itF f (k + 1) x).isSome with
          | true => rfl
          | false => exact absurd ⟨x, hx, hs, hh⟩ q
        obtain ⟨x, hx, h1, h2⟩ := this
        have := cnt_lt (p := fun x => (itF f (k + 1) x).isSome) (q := fun x => (itF f k x).isSome) (k := x) h2 h1 hx (fun v _ hv => itF_dn k v hv)
        omega
theorem itF_n (hf : ∀ x y, x < n → f x = some y → y < n) : ∀ j x, x < n → (itF f n x).isSome = true → (itF f (n + j) x).isSome = true := by
  have st : ∀ x, x < n → (itF f n x).isSome = true → (itF f (n + 1) x).isSome = true := by
    rcases itF_cnt hf n with h | h
    · exact h
    · intro x hx hs
      have := cnt_lt (p := fun _ => false) (q := fun x => (itF f n x).isSome) (k := x) rfl hs hx (fun v _ hv => by cases hv)
      omega
  have all : ∀ j, ∀ x, x < n → (itF f (n + j) x).isSome = true → (itF f (n + j + 1) x).isSome = true := by
    intro j
    induction j with
    | zero => exact st
    | succ j ih => exact itF_stab hf ih
  intro j
  induction j with
  | zero => intro x _ h; exact h
  | succ j ih => intro x hx h; exact all j x hx (ih x hx h)
theorem itF_le {k j x : Nat} (h : (itF f (k + j) x).isSome = true) : (itF f k x).isSome = true := by
  induction j with
  | zero => exact h
  | succ j ih => exact ih (itF_dn (k + j) x h)
theorem itF_12 (hf : ∀ x y, x < n → f x = some y → y < n) (hn : n ≤ 12) {x : Nat} (hx : x < n) : (itF f n x).isSome = (itF f 12 x).isSome := by
  rw [Bool.eq_iff_iff]
  constructor
  · intro h
    have := itF_n hf (12 - n) x hx h
    rwa [show n + (12 - n) = 12 by omega] at this
  · intro h
    rw [show 12 = n + (12 - n) by omega] at h
    exact itF_le h
end ITF
