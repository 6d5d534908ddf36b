/-! the reference: who is hit, who waits, what is safe -/
noncomputable def stU (N : Nt) (dd v : Nat) : Nat → Nat → Option Nat
  | 0, _ => none
  | k + 1, u => if u = v then some 0 else (match nx N none dd u with
    | none => none
    | some z => (stU N dd v k z).map (· + 1))
/-- how many LINKS from u to v on the WAY from u to d -/
noncomputable def stp (N : Nt) (dd v u : Nat) : Option Nat := stU N dd v 12 u
def maxO (p : Nat → Option Nat) : Nat → Option Nat
  | 0 => none
  | k + 1 => match p k with
    | none => maxO p k
    | some x => match maxO p k with
      | none => some x
      | some y => if y < x then some x else some y
/-- WAIT of v by a LINK for d -/
noncomputable def wtF (N : Nt) (l dd v : Nat) : Option Nat := if onW N l dd v then maxO (stp N dd v) (nN N) else none
theorem stU_st {N : Nt} (hN : Nok N) {dd v : Nat} : ∀ (k k' u : Nat), u < nN N → rk N none dd u < k → rk N none dd u < k' → stU N dd v k u = stU N dd v k' u := by
  intro k
  induction k with
  | zero => intro k' v _ h; omega
  | succ k ih =>
    intro k' u hu h1 h2
    cases k' with
    | zero => omega
    | succ k' =>
      unfold stU
      split
      · rfl
      · cases hx : nx N none dd u with
        | none => rfl
        | some z =>
          have hr := nx_rk hN hx
          dsimp only
          rw [ih k' z (nx_some hx).1 (by omega) (by omega)]
theorem stp_eq {N : Nt} (hN : Nok N) {dd v u : Nat} (hu : u < nN N) : stp N dd v u = (if u = v then some 0 else (match nx N none dd u with
    | none => none
    | some z => (stp N dd v z).map (· + 1))) := by
  have h12 := hN.2.1
  have hr := rk_n (N := N) (but := none) (d := dd) hu
  unfold stp
  rw [stU_st hN 12 13 u hu (by omega) (by omega)]
  rfl
theorem stU_b {N : Nt} {dd v : Nat} : ∀ (k u x : Nat), stU N dd v k u = some x → x < k
  | 0, u, x, h => by cases h
  | k + 1, u, x, h => by
    unfold stU at h
    split at h
    · cases h; omega
    · split at h
      · cases h
      · rename_i z hz
        cases hs : stU N dd v k z with
        | none => rw [hs] at h; cases h
        | some y =>
          rw [hs] at h
          cases h
          have := stU_b k z y hs
          show y + 1 < k + 1
          omega
theorem stp_b {N : Nt} {dd v u x : Nat} (h : stp N dd v u = some x) : x < 12 := stU_b 12 u x h
theorem maxO_b {p : Nat → Option Nat} {B : Nat} (hp : ∀ k x, p k = some x → x < B) : ∀ {n x : Nat}, maxO p n = some x → x < B
  | 0, x, h => by cases h
  | n + 1, x, h => by
    unfold maxO at h
    split at h
    · exact maxO_b hp h
    · rename_i y hy
      split at h
      · cases h; exact hp _ _ hy
      · rename_i z hz
        split at h
        · cases h; exact hp _ _ hy
        · cases h; exact maxO_b hp hz
/-- whose WAY leads over one that is hit is hit -/
theorem on_of_stp {N : Nt} (hN : Nok N) {l dd v : Nat} (hv : onW N l dd v = true) : ∀ (k u x : Nat), u < nN N → rk N none dd u = k → stp N dd v u = some x → onW N l dd u = true := by
  intro k
  induction k using Nat.strongRecOn with
  | ind k ih =>
    intro u x hu hk hs
    rw [stp_eq hN hu] at hs
    split at hs
    · rename_i e; rw [e]; exact hv
    · rw [onW_eq hN hu]
      cases hx : nx N none dd u with
      | none => rw [hx] at hs; cases hs
      | some z =>
        rw [hx] at hs
        dsimp only at hs ⊢
        cases hz : stp N dd v z with
        | none => rw [hz] at hs; cases hs
        | some y =>
          rw [ih _ (by rw [← hk]; exact nx_rk hN hx) z y (nx_some hx).1 rfl hz]
          simp
theorem on_not_d {N : Nt} (hN : Nok N) {l dd : Nat} (hd : dd < nN N) : onW N l dd dd = false := by
  rw [onW_eq hN hd, (nx_none hN hd hd).mpr (Or.inl rfl)]
theorem kLm {a : Nat} (ha : a < 2 ^ 31) : (nI a ≤ -1) ↔ False := by
  constructor
  · intro h
    have h1 : (nI a).toInt ≤ (-1 : Int32).toInt := Int32.le_iff_toInt_le.mp h
    rw [nI_toInt ha] at h1
    have h2 : (-1 : Int32).toInt = -1 := by decide
    omega
  · exact False.elim
def allB (p : Nat → Bool) : Nat → Bool
  | 0 => true
  | k + 1 => allB p k && p k
theorem allB_iff {p : Nat → Bool} : ∀ {n : Nat}, allB p n = true ↔ ∀ k, k < n → p k = true
  | 0 => by simp [allB]
  | n + 1 => by
    unfold allB
    rw [Bool.and_eq_true, allB_iff]
    constructor
    · rintro ⟨h1, h2⟩ k hk
      by_cases e : k = n
      · subst e; exact h2
      · exact h1 k (by omega)
    · intro h
      exact ⟨fun k hk => h k (by omega), h n (by omega)⟩
/-- SAFE -/
noncomputable def sfP (N : Nt) (s dd : Nat) : Bool := allB (fun l => !onW N l dd s || decide (kEn (psd N (sdn N 1 l) s dd) = some 0)) (nM N)
section MOB
variable {d : mS} {N : Nt} {wt wh : Nat} {Q : Option Int32 → mS → Prop}
theorem F_hitBy_loop {l dd : Nat} (h : MF d N wt wh) (hl : l < nM N) (hd : dd < nN N) : ∀ (k j : Nat), j + k = nN N → (WP mLayM 146 5 [some (.ref 0), some (.int (nI l)), some (.int (nI dd)), some (.int (mkS (onW N l dd) j)), some (.int (nI j))] [] d Q ↔ Q (some (mkS (onW N l dd) (nN N))) d) := by
  have h12 := h.1.1.2.1
  intro k
  induction k with
  | zero =>
    intro j hj
    rw [w_X7_hitBy_5]
    simp only [w_X7_hitBy_0, w_X7_hitBy_1, w_X7_hitBy_2, w_X7_hitBy_3, w_X7_hitBy_7, w_X7_hitBy_8, w_X7_hitBy_11, w_X7_hitBy_14, w_X7_hitBy_15, w_X7_hitBy_16, w_X7_hitBy_18, w_X7_hitBy_19, w_X7_hitBy_20, w_X7_hitBy_23, w_X7_hitBy_26, w_X7_hitBy_27, w_X7_hitBy_29, w_X7_hitBy_30, w_X7_hitBy_33, w_X7_hitBy_34, w_X7_hitBy_35, w_X7_hitBy_36, w_X7_hitBy_39, w_X7_hitBy_42, w_X7_hitBy_43, h.1.2.1]
    rw [if_pos ((kLe (by omega) (by omega)).mpr (by omega)), show j = nN N by omega]
  | succ k ih =>
    intro j hj
    have ih := ih (j + 1) (by omega)
    rw [mkS_s] at ih
    rw [w_X7_hitBy_5]
    simp only [w_X7_hitBy_0, w_X7_hitBy_1, w_X7_hitBy_2, w_X7_hitBy_3, w_X7_hitBy_7, w_X7_hitBy_8, w_X7_hitBy_11, w_X7_hitBy_14, w_X7_hitBy_15, w_X7_hitBy_16, w_X7_hitBy_18, w_X7_hitBy_19, w_X7_hitBy_20, w_X7_hitBy_23, w_X7_hitBy_26, w_X7_hitBy_27, w_X7_hitBy_29, w_X7_hitBy_30, w_X7_hitBy_33, w_X7_hitBy_34, w_X7_hitBy_35, w_X7_hitBy_36, w_X7_hitBy_39, w_X7_hitBy_42, w_X7_hitBy_43, h.1.2.1]
    rw [if_neg (fun q => by rw [kLe (by omega) (by omega)] at q; omega)]
    rw [M_isOn hl hd (show j < nN N by omega) h.1 h.2, mKI_some]
    simp only [bi_0, nI_1]
    cases ho : onW N l dd j with
    | false => rw [ho, if_neg (by decide)] at ih; rw [if_pos rfl]; exact ih
    | true => rw [ho, if_pos rfl] at ih; rw [if_neg (by decide)]; exact ih
theorem F_hitBy {l dd : Nat} (h : MF d N wt wh) (hl : l < nM N) (hd : dd < nN N) : WP mLayM 146 0 [some (.ref 0), some (.int (nI l)), some (.int (nI dd)), none, none] [] d Q ↔ Q (some (mkS (onW N l dd) (nN N))) d := by
  simp only [w_X7_hitBy_0, w_X7_hitBy_1, w_X7_hitBy_2, w_X7_hitBy_3, w_X7_hitBy_7, w_X7_hitBy_8, w_X7_hitBy_11, w_X7_hitBy_14, w_X7_hitBy_15, w_X7_hitBy_16, w_X7_hitBy_18, w_X7_hitBy_19, w_X7_hitBy_20, w_X7_hitBy_23, w_X7_hitBy_26, w_X7_hitBy_27, w_X7_hitBy_29, w_X7_hitBy_30, w_X7_hitBy_33, w_X7_hitBy_34, w_X7_hitBy_35, w_X7_hitBy_36, w_X7_hitBy_39, w_X7_hitBy_42, w_X7_hitBy_43]
  exact F_hitBy_loop h hl hd (nN N) 0 (by omega)
/-- the inner walk of waitOf -/
theorem F_wait_in {l dd v : Nat} {lg uu : Int32} (h : MF d N wt wh) (hl : l < nM N) (hd : dd < nN N) (hv : v < nN N) :
    ∀ (k x c : Nat), x < nN N → rk N none dd x = k → (∀ x' c', x' < nN N → c' ≤ c + rk N none dd x → (onW N l dd v = true → (∀ i, stp N dd v x = some i → x' = v ∧ c' = c + i) ∧ (stp N dd v x = none → x' ≠ v)) →
      WP mLayM 148 70 [some (.ref 0), some (.int (nI l)), some (.int (nI dd)), some (.int (nI v)), some (.int (mkS (onW N l dd) (nN N))), some (.int lg), some (.int uu), some (.int (nI c')), some (.int (nI x'))] [] d Q) →
    WP mLayM 148 30 [some (.ref 0), some (.int (nI l)), some (.int (nI dd)), some (.int (nI v)), some (.int (mkS (onW N l dd) (nN N))), some (.int lg), some (.int uu), some (.int (nI c)), some (.int (nI x))] [] d Q := by
  have hN := h.1.1
  have h12 := hN.2.1
  intro k
  induction k using Nat.strongRecOn with
  | ind k ih =>
    intro x c hx hk kk
    rw [w_X7_waitOf_30]
    simp only [w_X7_waitOf_0, w_X7_waitOf_1, w_X7_waitOf_2, w_X7_waitOf_3, w_X7_waitOf_6, w_X7_waitOf_8, w_X7_waitOf_9, w_X7_waitOf_11, w_X7_waitOf_12, w_X7_waitOf_16, w_X7_waitOf_17, w_X7_waitOf_20, w_X7_waitOf_23, w_X7_waitOf_24, w_X7_waitOf_26, w_X7_waitOf_28, w_X7_waitOf_32, w_X7_waitOf_34, w_X7_waitOf_35, w_X7_waitOf_36, w_X7_waitOf_37, w_X7_waitOf_38, w_X7_waitOf_41, w_X7_waitOf_43, w_X7_waitOf_44, w_X7_waitOf_47, w_X7_waitOf_49, w_X7_waitOf_50, w_X7_waitOf_53, w_X7_waitOf_54, w_X7_waitOf_55, w_X7_waitOf_57, w_X7_waitOf_58, w_X7_waitOf_59, w_X7_waitOf_62, w_X7_waitOf_64, w_X7_waitOf_67, w_X7_waitOf_72, w_X7_waitOf_74, w_X7_waitOf_75, w_X7_waitOf_76, w_X7_waitOf_77, w_X7_waitOf_78, w_X7_waitOf_81, w_X7_waitOf_83, w_X7_waitOf_84, w_X7_waitOf_85, w_X7_waitOf_86, w_X7_waitOf_87, w_X7_waitOf_88, w_X7_waitOf_91, w_X7_waitOf_93, w_X7_waitOf_94, w_X7_waitOf_97, w_X7_waitOf_99, w_X7_waitOf_101, w_X7_waitOf_104, w_X7_waitOf_106, w_X7_waitOf_109, w_X7_waitOf_111, w_X7_waitOf_113, w_X7_waitOf_116, w_X7_waitOf_119, w_X7_waitOf_121, mk_ask (show nN N ≤ 32 by omega) hx, bi_1]
    cases ho : onW N l dd x with
    | false =>
      rw [if_pos (by decide)]
      refine kk x c hx (by omega) (fun hvv => ⟨fun i hi => ?_, fun _ e => ?_⟩)
      · rw [on_of_stp hN hvv _ x i hx rfl hi] at ho; cases ho
      · rw [e, hvv] at ho; cases ho
    | true =>
      rw [if_neg (by decide)]
      by_cases hxv : x = v
      · rw [hxv, if_pos rfl]
        refine kk v c hv (by omega) (fun _ => ⟨fun i hi => ?_, fun q => ?_⟩)
        · rw [hxv, stp_eq hN hv, if_pos rfl] at hi; cases hi; exact ⟨rfl, rfl⟩
        · rw [hxv, stp_eq hN hv, if_pos rfl] at q; cases q
      · rw [if_neg (fun q => by rw [kEq (by omega) (by omega)] at q; exact hxv q)]
        have hxd : x ≠ dd := fun q => by rw [q, on_not_d hN hd] at ho; cases ho
        rw [if_neg (fun q => by rw [kEq (by omega) (by omega)] at q; exact hxd q)]
        rw [F_next h hx hd, mKI_some]
        cases hn : nx N none dd x with
        | none => rw [onW_eq hN hx, hn] at ho; cases ho
        | some z =>
          have hz := (nx_some hn).1
          have hr := nx_rk hN hn
          rw [en_some, nI_1]
          refine ih (rk N none dd z) (by omega) z (c + 1) hz rfl (fun x' c' a1 a2 a3 => kk x' c' a1 (by omega) (fun hvv => ?_))
          obtain ⟨b1, b2⟩ := a3 hvv
          have hs : stp N dd v x = (stp N dd v z).map (· + 1) := by rw [stp_eq hN hx, if_neg hxv, hn]
          refine ⟨fun i hi => ?_, fun q => ?_⟩
          · rw [hs] at hi
            cases hz2 : stp N dd v z with
            | none => rw [hz2] at hi; cases hi
            | some y =>
              rw [hz2] at hi
              have hi2 : y + 1 = i := by simpa using hi
              obtain ⟨c1, c2⟩ := b1 y hz2
              exact ⟨c1, by omega⟩
          · rw [hs] at q
            cases hz2 : stp N dd v z with
            | none => exact b2 hz2
            | some y => rw [hz2] at q; cases q
theorem F_wait_loop {l dd v : Nat} (h : MF d N wt wh) (hl : l < nM N) (hd : dd < nN N) (hv : v < nN N) (kk : Q (some (en (wtF N l dd v))) d) : ∀ (k j : Nat) (l7 l8 : Option Value), j + k = nN N → WP mLayM 148 14 [some (.ref 0), some (.int (nI l)), some (.int (nI dd)), some (.int (nI v)), some (.int (mkS (onW N l dd) (nN N))), some (.int (en (if onW N l dd v then maxO (stp N dd v) j else none))), some (.int (nI j)), l7, l8] [] d Q := by
  have hN := h.1.1
  have h12 := hN.2.1
  intro k
  induction k with
  | zero =>
    intro j l7 l8 hj
    rw [w_X7_waitOf_14]
    simp only [w_X7_waitOf_0, w_X7_waitOf_1, w_X7_waitOf_2, w_X7_waitOf_3, w_X7_waitOf_6, w_X7_waitOf_8, w_X7_waitOf_9, w_X7_waitOf_11, w_X7_waitOf_12, w_X7_waitOf_16, w_X7_waitOf_17, w_X7_waitOf_20, w_X7_waitOf_23, w_X7_waitOf_24, w_X7_waitOf_26, w_X7_waitOf_28, w_X7_waitOf_32, w_X7_waitOf_34, w_X7_waitOf_35, w_X7_waitOf_36, w_X7_waitOf_37, w_X7_waitOf_38, w_X7_waitOf_41, w_X7_waitOf_43, w_X7_waitOf_44, w_X7_waitOf_47, w_X7_waitOf_49, w_X7_waitOf_50, w_X7_waitOf_53, w_X7_waitOf_54, w_X7_waitOf_55, w_X7_waitOf_57, w_X7_waitOf_58, w_X7_waitOf_59, w_X7_waitOf_62, w_X7_waitOf_64, w_X7_waitOf_67, w_X7_waitOf_72, w_X7_waitOf_74, w_X7_waitOf_75, w_X7_waitOf_76, w_X7_waitOf_77, w_X7_waitOf_78, w_X7_waitOf_81, w_X7_waitOf_83, w_X7_waitOf_84, w_X7_waitOf_85, w_X7_waitOf_86, w_X7_waitOf_87, w_X7_waitOf_88, w_X7_waitOf_91, w_X7_waitOf_93, w_X7_waitOf_94, w_X7_waitOf_97, w_X7_waitOf_99, w_X7_waitOf_101, w_X7_waitOf_104, w_X7_waitOf_106, w_X7_waitOf_109, w_X7_waitOf_111, w_X7_waitOf_113, w_X7_waitOf_116, w_X7_waitOf_119, w_X7_waitOf_121, h.1.2.1]
    rw [if_pos ((kLe (by omega) (by omega)).mpr (by omega)), show j = nN N by omega]
    exact kk
  | succ k ih =>
    intro j l7 l8 hj
    have hj2 : j < nN N := by omega
    have ih := fun l7 l8 => ih (j + 1) l7 l8 (by omega)
    rw [w_X7_waitOf_14]
    simp only [w_X7_waitOf_0, w_X7_waitOf_1, w_X7_waitOf_2, w_X7_waitOf_3, w_X7_waitOf_6, w_X7_waitOf_8, w_X7_waitOf_9, w_X7_waitOf_11, w_X7_waitOf_12, w_X7_waitOf_16, w_X7_waitOf_17, w_X7_waitOf_20, w_X7_waitOf_23, w_X7_waitOf_24, w_X7_waitOf_26, w_X7_waitOf_28, w_X7_waitOf_32, w_X7_waitOf_34, w_X7_waitOf_35, w_X7_waitOf_36, w_X7_waitOf_37, w_X7_waitOf_38, w_X7_waitOf_41, w_X7_waitOf_43, w_X7_waitOf_44, w_X7_waitOf_47, w_X7_waitOf_49, w_X7_waitOf_50, w_X7_waitOf_53, w_X7_waitOf_54, w_X7_waitOf_55, w_X7_waitOf_57, w_X7_waitOf_58, w_X7_waitOf_59, w_X7_waitOf_62, w_X7_waitOf_64, w_X7_waitOf_67, w_X7_waitOf_72, w_X7_waitOf_74, w_X7_waitOf_75, w_X7_waitOf_76, w_X7_waitOf_77, w_X7_waitOf_78, w_X7_waitOf_81, w_X7_waitOf_83, w_X7_waitOf_84, w_X7_waitOf_85, w_X7_waitOf_86, w_X7_waitOf_87, w_X7_waitOf_88, w_X7_waitOf_91, w_X7_waitOf_93, w_X7_waitOf_94, w_X7_waitOf_97, w_X7_waitOf_99, w_X7_waitOf_101, w_X7_waitOf_104, w_X7_waitOf_106, w_X7_waitOf_109, w_X7_waitOf_111, w_X7_waitOf_113, w_X7_waitOf_116, w_X7_waitOf_119, w_X7_waitOf_121, h.1.2.1]
    rw [if_neg (fun q => by rw [kLe (by omega) (by omega)] at q; omega)]
    refine F_wait_in h hl hd hv _ j 0 hj2 rfl (fun x' c' a1 a2 a3 => ?_)
    have hr := rk_n (N := N) (but := none) (d := dd) hj2
    simp only [w_X7_waitOf_0, w_X7_waitOf_1, w_X7_waitOf_2, w_X7_waitOf_3, w_X7_waitOf_6, w_X7_waitOf_8, w_X7_waitOf_9, w_X7_waitOf_11, w_X7_waitOf_12, w_X7_waitOf_16, w_X7_waitOf_17, w_X7_waitOf_20, w_X7_waitOf_23, w_X7_waitOf_24, w_X7_waitOf_26, w_X7_waitOf_28, w_X7_waitOf_32, w_X7_waitOf_34, w_X7_waitOf_35, w_X7_waitOf_36, w_X7_waitOf_37, w_X7_waitOf_38, w_X7_waitOf_41, w_X7_waitOf_43, w_X7_waitOf_44, w_X7_waitOf_47, w_X7_waitOf_49, w_X7_waitOf_50, w_X7_waitOf_53, w_X7_waitOf_54, w_X7_waitOf_55, w_X7_waitOf_57, w_X7_waitOf_58, w_X7_waitOf_59, w_X7_waitOf_62, w_X7_waitOf_64, w_X7_waitOf_67, w_X7_waitOf_70, w_X7_waitOf_72, w_X7_waitOf_74, w_X7_waitOf_75, w_X7_waitOf_76, w_X7_waitOf_77, w_X7_waitOf_78, w_X7_waitOf_81, w_X7_waitOf_83, w_X7_waitOf_84, w_X7_waitOf_85, w_X7_waitOf_86, w_X7_waitOf_87, w_X7_waitOf_88, w_X7_waitOf_91, w_X7_waitOf_93, w_X7_waitOf_94, w_X7_waitOf_97, w_X7_waitOf_99, w_X7_waitOf_101, w_X7_waitOf_104, w_X7_waitOf_106, w_X7_waitOf_109, w_X7_waitOf_111, w_X7_waitOf_113, w_X7_waitOf_116, w_X7_waitOf_119, w_X7_waitOf_121, mk_ask (show nN N ≤ 32 by omega) hj2, mk_ask (show nN N ≤ 32 by omega) hv, bi_1, nI_1]
    have hst : maxO (stp N dd v) (j + 1) = (match stp N dd v j with
      | none => maxO (stp N dd v) j
      | some x => match maxO (stp N dd v) j with
        | none => some x
        | some y => if y < x then some x else some y) := rfl
    rw [hst] at ih
    cases hvv : onW N l dd v with
    | false =>
      simp only [hvv, Bool.false_eq_true, if_false] at ih ⊢
      cases onW N l dd j with
      | false => rw [if_pos (by decide)]; exact ih _ _
      | true => rw [if_neg (by decide), if_pos (by decide)]; exact ih _ _
    | true =>
      simp only [hvv, if_true] at ih ⊢
      obtain ⟨b1, b2⟩ := a3 hvv
      cases hs : stp N dd v j with
      | none =>
        rw [hs] at ih
        dsimp only at ih
        have hne := b2 hs
        cases onW N l dd j with
        | false => rw [if_pos (by decide)]; exact ih _ _
        | true =>
          rw [if_neg (by decide), if_neg (by decide), if_pos (fun q => by rw [kEq (by omega) (by omega)] at q; exact hne q)]
          exact ih _ _
      | some i =>
        rw [hs] at ih
        dsimp only at ih
        obtain ⟨rfl, c2⟩ := b1 i hs
        have hi := stp_b hs
        rw [on_of_stp hN hvv _ j i hj2 rfl hs]
        rw [if_neg (by decide), if_neg (by decide), if_neg (fun q => q rfl)]
        rw [show c' = i by omega]
        cases hm : maxO (stp N dd x') j with
        | none =>
          rw [hm] at ih
          rw [en_none, if_neg (fun q => (kLm (show i < 2 ^ 31 by omega)).mp q)]
          exact ih _ _
        | some y =>
          rw [hm] at ih
          dsimp only at ih
          have hy := maxO_b (fun k x => stp_b (N := N) (dd := dd) (v := x') (u := k) (x := x)) hm
          rw [en_some]
          by_cases c : i ≤ y
          · rw [if_pos ((kLe (by omega) (by omega)).mpr c)]
            rw [if_neg (by omega)] at ih
            exact ih _ _
          · rw [if_neg (fun q => by rw [kLe (by omega) (by omega)] at q; exact c q)]
            rw [if_pos (by omega)] at ih
            exact ih _ _
theorem F_wait {l dd v : Nat} (h : MF d N wt wh) (hl : l < nM N) (hd : dd < nN N) (hv : v < nN N) : WP mLayM 148 0 [some (.ref 0), some (.int (nI l)), some (.int (nI dd)), some (.int (nI v)), none, none, none, none, none] [] d Q ↔ Q (some (en (wtF N l dd v))) d := by
  refine WP_det ?_
  simp only [w_X7_waitOf_0, w_X7_waitOf_1, w_X7_waitOf_2, w_X7_waitOf_3, w_X7_waitOf_6, w_X7_waitOf_8, w_X7_waitOf_9, w_X7_waitOf_11, w_X7_waitOf_12, w_X7_waitOf_16, w_X7_waitOf_17, w_X7_waitOf_20, w_X7_waitOf_23, w_X7_waitOf_24, w_X7_waitOf_26, w_X7_waitOf_28, w_X7_waitOf_32, w_X7_waitOf_34, w_X7_waitOf_35, w_X7_waitOf_36, w_X7_waitOf_37, w_X7_waitOf_38, w_X7_waitOf_41, w_X7_waitOf_43, w_X7_waitOf_44, w_X7_waitOf_47, w_X7_waitOf_49, w_X7_waitOf_50, w_X7_waitOf_53, w_X7_waitOf_54, w_X7_waitOf_55, w_X7_waitOf_57, w_X7_waitOf_58, w_X7_waitOf_59, w_X7_waitOf_62, w_X7_waitOf_64, w_X7_waitOf_67, w_X7_waitOf_72, w_X7_waitOf_74, w_X7_waitOf_75, w_X7_waitOf_76, w_X7_waitOf_77, w_X7_waitOf_78, w_X7_waitOf_81, w_X7_waitOf_83, w_X7_waitOf_84, w_X7_waitOf_85, w_X7_waitOf_86, w_X7_waitOf_87, w_X7_waitOf_88, w_X7_waitOf_91, w_X7_waitOf_93, w_X7_waitOf_94, w_X7_waitOf_97, w_X7_waitOf_99, w_X7_waitOf_101, w_X7_waitOf_104, w_X7_waitOf_106, w_X7_waitOf_109, w_X7_waitOf_111, w_X7_waitOf_113, w_X7_waitOf_116, w_X7_waitOf_119, w_X7_waitOf_121]
  rw [F_hitBy h hl hd, mKI_some]
  have := F_wait_loop (Q := fun a b => a = some (en (wtF N l dd v)) ∧ b = d) h hl hd hv ⟨rfl, rfl⟩ (nN N) 0 none none (by omega)
  rw [show (if onW N l dd v = true then maxO (stp N dd v) 0 else none) = none by split <;> rfl] at this
  exact this
theorem allB_f {p : Nat → Bool} : ∀ {n k : Nat}, k ≤ n → allB p k = false → allB p n = false
  | n, k, hk, h => by
    cases hn : allB p n with
    | false => rfl
    | true =>
      have h1 := allB_iff.mp hn
      rw [allB_iff.mpr (fun i hi => h1 i (by omega))] at h; cases h
theorem F_safe_loop {s dd : Nat} (hs : s < nN N) (hd : dd < nN N) : ∀ (k j : Nat) (d : mS), MF d N wt wh → j + k = nM N →
    (∀ d' : mS, sameX d d' → Q (some (bi (sfP N s dd))) d') → WP mLayM 151 5 [some (.ref 0), some (.int (nI s)), some (.int (nI dd)), some (.int (bi (allB (fun l => !onW N l dd s || decide (kEn (psd N (sdn N 1 l) s dd) = some 0)) j))), some (.int (nI j))] [] d Q := by
  intro k
  induction k with
  | zero =>
    intro j d h hj kk
    have h24 := h.1.1.2.2.1
    rw [w_X7_isSafe_5]
    simp only [w_X7_isSafe_0, w_X7_isSafe_1, w_X7_isSafe_2, w_X7_isSafe_3, w_X7_isSafe_7, w_X7_isSafe_8, w_X7_isSafe_11, w_X7_isSafe_14, w_X7_isSafe_15, w_X7_isSafe_18, w_X7_isSafe_19, w_X7_isSafe_20, w_X7_isSafe_21, w_X7_isSafe_23, w_X7_isSafe_26, w_X7_isSafe_29, w_X7_isSafe_30, w_X7_isSafe_31, w_X7_isSafe_32, w_X7_isSafe_33, w_X7_isSafe_35, w_X7_isSafe_38, w_X7_isSafe_41, w_X7_isSafe_42, w_X7_isSafe_45, w_X7_isSafe_46, w_X7_isSafe_47, w_X7_isSafe_50, w_X7_isSafe_53, w_X7_isSafe_54, h.1.2.2.1]
    rw [if_pos ((kLe (by omega) (by omega)).mpr (by omega)), show j = nM N by omega]
    exact ⟨bi_01 _, kk d sameX_rf⟩
  | succ k ih =>
    intro j d h hj kk
    have h24 := h.1.1.2.2.1
    have h12 := h.1.1.2.1
    have hj2 : j < nM N := by omega
    rw [w_X7_isSafe_5]
    simp only [w_X7_isSafe_0, w_X7_isSafe_1, w_X7_isSafe_2, w_X7_isSafe_3, w_X7_isSafe_7, w_X7_isSafe_8, w_X7_isSafe_11, w_X7_isSafe_14, w_X7_isSafe_15, w_X7_isSafe_18, w_X7_isSafe_19, w_X7_isSafe_20, w_X7_isSafe_21, w_X7_isSafe_23, w_X7_isSafe_26, w_X7_isSafe_29, w_X7_isSafe_30, w_X7_isSafe_31, w_X7_isSafe_32, w_X7_isSafe_33, w_X7_isSafe_35, w_X7_isSafe_38, w_X7_isSafe_41, w_X7_isSafe_42, w_X7_isSafe_45, w_X7_isSafe_46, w_X7_isSafe_47, w_X7_isSafe_50, w_X7_isSafe_53, w_X7_isSafe_54, h.1.2.2.1]
    rw [if_neg (fun q => by rw [kLe (by omega) (by omega)] at q; omega)]
    cases ha : allB (fun l => !onW N l dd s || decide (kEn (psd N (sdn N 1 l) s dd) = some 0)) j with
    | false =>
      rw [bi_f, if_pos rfl]
      have hf : sfP N s dd = false := allB_f (show j ≤ nM N by omega) ha
      refine ⟨Or.inl rfl, ?_⟩
      have := kk d sameX_rf
      rw [hf, bi_f] at this
      exact this
    | true =>
      rw [bi_t, if_neg (by decide)]
      rw [M_isOn hj2 hd hs h.1 h.2, mKI_some]
      have hs1 : ∀ b, (!onW N j dd s || decide (kEn (psd N (sdn N 1 j) s dd) = some 0)) = b → allB (fun l => !onW N l dd s || decide (kEn (psd N (sdn N 1 l) s dd) = some 0)) (j + 1) = b := by
        intro b hb
        show (allB (fun l => !onW N l dd s || decide (kEn (psd N (sdn N 1 l) s dd) = some 0)) j && (!onW N j dd s || decide (kEn (psd N (sdn N 1 j) s dd) = some 0))) = b
        rw [ha, hb, Bool.true_and]
      have ih2 := fun (b : Bool) (hb : _ = b) (d1 : mS) (h1 : MF d1 N wt wh) (kk1 : ∀ d' : mS, sameX d1 d' → Q (some (bi (sfP N s dd))) d') => by
        have := ih (j + 1) d1 h1 (by omega) kk1
        rw [hs1 b hb] at this
        exact this
      cases ho : onW N j dd s with
      | false =>
        rw [bi_f, if_pos rfl, nI_1]
        exact ih2 true (by simp [ho]) d h kk
      | true =>
        rw [bi_t, if_neg (by decide)]
        refine F_sends (w := 1) (wx := j) h hs hd (by omega) (by omega) (fun d1 s1 hp1 => ?_)
        rw [mKI_some, nI_1]
        have hq := hp1.2.2.2.2.2.2.2
        cases he : kEn (psd N (sdn N 1 j) s dd) with
        | none =>
          obtain ⟨i1, i2⟩ := pk0_IV (g := dd) h.1.1 hs
          exact absurd he (psF_en h.1.1 hd 40 _ i1 i2)
        | some z =>
          have hz := hq z he
          rw [en_some]
          by_cases hz0 : z = 0
          · subst hz0
            rw [if_neg (by decide)]
            exact ih2 true (by simp [he]) d1 (MF_X h s1) (fun d2 s2 => kk d2 (sameX_tr s1 s2))
          · rw [if_pos (fun q => hz0 ((kq0 (by omega)).mp q))]
            exact ih2 false (by simp [ho, he, hz0]) d1 (MF_X h s1) (fun d2 s2 => kk d2 (sameX_tr s1 s2))
theorem F_safe {s dd : Nat} (hs : s < nN N) (hd : dd < nN N) (h : MF d N wt wh) (kk : ∀ d' : mS, sameX d d' → Q (some (bi (sfP N s dd))) d') : WP mLayM 151 0 [some (.ref 0), some (.int (nI s)), some (.int (nI dd)), none, none] [] d Q := by
  simp only [w_X7_isSafe_0, w_X7_isSafe_1, w_X7_isSafe_2, w_X7_isSafe_3, w_X7_isSafe_7, w_X7_isSafe_8, w_X7_isSafe_11, w_X7_isSafe_14, w_X7_isSafe_15, w_X7_isSafe_18, w_X7_isSafe_19, w_X7_isSafe_20, w_X7_isSafe_21, w_X7_isSafe_23, w_X7_isSafe_26, w_X7_isSafe_29, w_X7_isSafe_30, w_X7_isSafe_31, w_X7_isSafe_32, w_X7_isSafe_33, w_X7_isSafe_35, w_X7_isSafe_38, w_X7_isSafe_41, w_X7_isSafe_42, w_X7_isSafe_45, w_X7_isSafe_46, w_X7_isSafe_47, w_X7_isSafe_50, w_X7_isSafe_53, w_X7_isSafe_54]
  exact F_safe_loop hs hd (nM N) 0 d h (by omega) kk
/-- what covered counts -/
noncomputable def cvP (N : Nt) (w s dd : Nat) : Bool := match nx N none dd s with
  | none => false
  | some e => match lk N s e with
    | none => false
    | some l =>
      if w = 0 then true else if w ≤ 3 then decide (rpE N s dd e (nC N l) = w) else if w = 4 then decide (rpE N s dd e (nC N l) = 0) else if w = 5 then (match altF N s dd with | none => false | some a => onP N s dd 2 a) else if w = 6 then (match altF N s dd with | none => false | some a => onP N s dd 3 a) else sfP N s dd
theorem F_counts {s dd e l w : Nat} (h : MF d N wt wh) (hx : HX N s dd e l) (hw : w ≤ 7) (kk : ∀ d' : mS, sameX d d' → Q (some (bi (cvP N w s dd))) d') : WP mLayM 152 0 [some (.ref 0), some (.int (nI s)), some (.int (nI dd)), some (.int (nI w)), none] [] d Q := by
  have h12 := h.1.1.2.1
  have hs := hx.1
  have hd := hx.2.1
  have hcv : cvP N w s dd = (if w = 0 then true else if w ≤ 3 then decide (rpE N s dd e (nC N l) = w) else if w = 4 then decide (rpE N s dd e (nC N l) = 0) else if w = 5 then (match altF N s dd with | none => false | some a => onP N s dd 2 a) else if w = 6 then (match altF N s dd with | none => false | some a => onP N s dd 3 a) else sfP N s dd) := by
    unfold cvP
    rw [hx.2.2.2.1]
    dsimp only
    rw [hx.2.2.2.2.1]
  rw [hcv] at kk
  have hrp : rpE N s dd e (nC N l) ≤ 3 := by unfold rpE; (repeat' split) <;> omega
  have f2 := fun Q => F_onesOf (Q := Q) (w := 2) h hs hd (by omega)
  have f3 := fun Q => F_onesOf (Q := Q) (w := 3) h hs hd (by omega)
  rw [show (nI 2 : Int32) = 2 from rfl] at f2
  rw [show (nI 3 : Int32) = 3 from rfl] at f3
  simp only [w_X7_counts_0, w_X7_counts_1, w_X7_counts_2, w_X7_counts_3, w_X7_counts_6, w_X7_counts_8, w_X7_counts_9, w_X7_counts_52, w_X7_counts_53, w_X7_counts_54, w_X7_counts_55, w_X7_counts_56, w_X7_counts_57, w_X7_counts_60, w_X7_counts_61, w_X7_counts_64, w_X7_counts_65, w_X7_counts_68, w_X7_counts_69, w_X7_counts_70, w_X7_counts_71, w_X7_counts_72, w_X7_counts_73, w_X7_counts_76, w_X7_counts_79, w_X7_counts_80, w_X7_counts_83, w_X7_counts_84, w_X7_counts_85, w_X7_counts_87, w_X7_counts_90, w_X7_counts_91, w_X7_counts_92, w_X7_counts_93, w_X7_counts_94, w_X7_counts_97, w_X7_counts_99, w_X7_counts_100, w_X7_counts_101, w_X7_counts_102, w_X7_counts_103, w_X7_counts_106, w_X7_counts_107, w_X7_counts_110, w_X7_counts_111, w_X7_counts_112, w_X7_counts_114, w_X7_counts_117, w_X7_counts_118, w_X7_counts_119, w_X7_counts_120, w_X7_counts_121, w_X7_counts_124, w_X7_counts_126, w_X7_counts_127, w_X7_counts_128, w_X7_counts_129, w_X7_counts_130, w_X7_counts_133, w_X7_counts_134, w_X7_counts_137, w_X7_counts_138, w_X7_counts_139, w_X7_counts_140, w_X7_counts_141, w_X7_counts_142, w_X7_counts_145]
  rw [F_alt h hs hd, mKI_some]
  simp (disch := omega) only [kq0, kq1, kq2, kq3, kq4, kq5, kq6, true_or, or_true, true_and, F_repairOf h hx, mKI_some, kEq]
  have dec : ∀ (P : Prop) (dP : Decidable P) (b : Bool), b = decide P → Q (some (bi b)) d → (@ite Prop (¬ P) instDecidableNot (Q (some 0) d) (Q (some 1) d)) := by
    intro P dP b hb hq
    by_cases hP : P
    · rw [if_neg (fun q => q hP)]; rw [hb, decide_eq_true hP, bi_t] at hq; exact hq
    · rw [if_pos hP]; rw [hb, decide_eq_false hP, bi_f] at hq; exact hq
  by_cases w0 : w = 0
  · subst w0
    simp only [if_true] at kk ⊢
    exact kk d sameX_rf
  simp only [w0, if_false] at kk ⊢
  by_cases w1 : w = 1
  · subst w1
    simp only [if_true] at kk ⊢
    exact dec _ _ _ rfl (kk d sameX_rf)
  simp only [w1, if_false]
  by_cases w2 : w = 2
  · subst w2
    simp only [if_true] at kk ⊢
    exact dec _ _ _ rfl (kk d sameX_rf)
  simp only [w2, if_false]
  by_cases w3 : w = 3
  · subst w3
    simp only [if_true] at kk ⊢
    exact dec _ _ _ rfl (kk d sameX_rf)
  simp only [w3, if_false]
  simp only [show ¬ w ≤ 3 by omega, if_false] at kk
  by_cases w4 : w = 4
  · subst w4
    simp only [if_true] at kk ⊢
    exact dec _ _ _ rfl (kk d sameX_rf)
  simp only [w4, if_false] at kk ⊢
  have alt : ∀ (z : Nat) (f : Nat → Bool), (∀ Q, WP mLayM 120 0 [some (.ref 0), some (.int (nI s)), some (.int (nI dd)), some (.int (nI z)), none, none, none] [] d Q ↔ Q (some (mkS f (nN N))) d) → Q (some (bi (match altF N s dd with | none => false | some a => f a))) d →
      (if en (altF N s dd) < 0 then Q (some 0) d else WP mLayM 120 0 [some (.ref 0), some (.int (nI s)), some (.int (nI dd)), some (.int (nI z)), none, none, none] [] d (mKI fun v t => if ¬ v >>> (en (altF N s dd) &&& 31) &&& 1 = 1 then Q (some 0) t else Q (some 1) t)) := by
    intro z f hf hq
    cases ha : altF N s dd with
    | none => rw [en_none, if_pos (by decide)]; rw [ha] at hq; exact hq
    | some a =>
      have hal := (alt_lk ha).1
      rw [ha] at hq
      dsimp only at hq
      rw [en_some, if_neg (nI_pos (by omega)), hf, mKI_some, mk_ask (by omega) hal]
      cases hfa : f a with
      | true => rw [bi_t, if_neg (by decide)]; rw [hfa] at hq; exact hq
      | false => rw [bi_f, if_pos (by decide)]; rw [hfa] at hq; exact hq
  by_cases w5 : w = 5
  · subst w5
    simp only [if_true] at kk ⊢
    exact alt 2 _ f2 (kk d sameX_rf)
  simp only [w5, if_false] at kk ⊢
  by_cases w6 : w = 6
  · subst w6
    simp only [if_true] at kk ⊢
    exact alt 3 _ f3 (kk d sameX_rf)
  simp only [w6, if_false] at kk ⊢
  exact F_safe hs hd h (fun d1 s1 => ⟨bi_01 _, kk d1 s1⟩)
end MOB
