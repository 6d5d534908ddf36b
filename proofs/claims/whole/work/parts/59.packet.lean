/-! the class: a PACKET -/
theorem pwk_st {N : Nt} {dn : Nat → Bool} {g x : Nat} (hN : Nok N) : ∀ (k k' : Nat) (P : Pk), kAt P < nN N → rk N none x (kAt P) < k → rk N none x (kAt P) < k' → pwk N dn g x k P = pwk N dn g x k' P := by
  intro k
  induction k with
  | zero => intro k' P _ h; omega
  | succ k ih =>
    intro k' P hP h1 h2
    cases k' with
    | zero => omega
    | succ k' =>
      unfold pwk
      by_cases e : kEn P = none ∧ kAt P ≠ x
      · rw [if_pos e, if_pos e]
        cases hn : nx N none x (kAt P) with
        | none => rfl
        | some u =>
          dsimp only
          by_cases e2 : kEn (pgo N dn g P u) = none
          · obtain ⟨a1, -⟩ := pgo_un e2
            have hr := nx_rk hN hn
            exact ih k' _ (by rw [a1]; exact (nx_some hn).1) (by rw [a1]; omega) (by rw [a1]; omega)
          · rw [pwk_end e2, pwk_end e2]
      · rw [if_neg e, if_neg e]
def pgoO (N : Nt) (dn : Nat → Bool) (g : Nat) (P : Pk) (o : Option Nat) : Pk := match o with
  | none => kLost P
  | some u => pgo N dn g P u
/-- a PACKET as the class holds it -/
def PK (c : mS) (N : Nt) (dn : Nat → Bool) (g : Nat) (P : Pk) : Prop := c 4 0 = en (kEn P) ∧ c 4 1 = nI (kSt P) ∧ c 4 2 = nI (kSp P) ∧ c 4 3 = en (kWh P) ∧ c 4 4 = nI (kAt P) ∧ c 4 5 = nI g ∧ c 4 6 = mkS dn (nM N) ∧ (∀ i, i ≤ kSt P → c 14 i = nI (kTr P i)) ∧ ∀ q, kEn P = some q → q ≤ 2
section PK1
variable {c : mS} {N : Nt} {wt wh : Nat} {Q : Option Int32 → mS → Prop} {dn : Nat → Bool} {g : Nat} {P : Pk}
def lkO (N : Nt) (a : Nat) (o : Option Nat) : Option Nat := match o with
  | none => none
  | some u => lk N a u
def blk (N : Nt) (dn : Nat → Bool) (a : Nat) (o : Option Nat) : Bool := match o with
  | none => true
  | some u => match lk N a u with
    | none => true
    | some l => dn l
theorem en_m1 {o : Option Nat} (h : ∀ k, o = some k → k < 2 ^ 31) : (en o = -1) ↔ o = none := by
  cases o with
  | none => exact ⟨fun _ => rfl, fun _ => rfl⟩
  | some k => exact ⟨fun q => ((kNe (h k rfl)).mp q).elim, fun q => by cases q⟩
theorem C_blocked {o : Option Nat} (h : CS c N wt wh) (hp : PK c N dn g P) (hat : kAt P < nN N) (ho : ∀ u, o = some u → u < nN N) : WP mLayH 41 0 [some (.ref 4), some (.ref 1), some (.int (en o)), none] [] c Q ↔ Q (some (bi (blk N dn (kAt P) o))) c := by
  have hN := h.1.1
  have h12 := hN.2.1
  have h24 := hN.2.2.1
  have hlk : lkI N (nI (kAt P)) (en o) = lkO N (kAt P) o := by
    cases o with
    | none => exact lkI_neg
    | some u => exact lkI_nI hN hat (ho u rfl)
  simp only [w_X4_isBlocked_0, w_X4_isBlocked_1, w_X4_isBlocked_2, w_X4_isBlocked_5, w_X4_isBlocked_6, w_X4_isBlocked_9, w_X4_isBlocked_10, w_X4_isBlocked_11, w_X4_isBlocked_12, w_X4_isBlocked_15, w_X4_isBlocked_16, w_X4_isBlocked_19, w_X4_isBlocked_20, w_X4_isBlocked_23, w_X4_isBlocked_26, w_X4_isBlocked_27, w_X4_isBlocked_30, w_X4_isBlocked_31, hp.2.2.2.2.1, hp.2.2.2.2.2.2.1, C_linkAt h.1, hlk, mKI_some, true_or, or_true, true_and]
  unfold blk
  cases o with
  | none => rw [show lkO N (kAt P) none = none from rfl, en_none, if_pos rfl]; exact Iff.rfl
  | some u =>
    rw [show lkO N (kAt P) (some u) = lk N (kAt P) u from rfl]
    clear hlk
    dsimp only
    cases hl : lk N (kAt P) u with
    | none => rw [en_none, if_pos rfl]; exact Iff.rfl
    | some l =>
      have hlm := (lk_some hl).1
      rw [en_some, if_neg (fun q => (kNe (by omega)).mp q), c_hasM (by omega) hlm, mKI_some]
      dsimp only
      cases dn l
      · rw [if_pos bf0]; exact Iff.rfl
      · rw [if_neg bt1]; exact Iff.rfl
/-- scratch, but not the plan -/
def scp (c c' : mS) : Prop := ∀ k, k ≠ 4 → k ≠ 14 → c' k = c k
theorem scp_rf {c : mS} : scp c c := fun _ _ _ => rfl
theorem scp_tr {a b c : mS} (h : scp a b) (h2 : scp b c) : scp a c := fun k h3 h4 => by rw [h2 k h3 h4, h k h3 h4]
theorem scp_scr {c c' : mS} (h : scp c c') : scr c c' := fun k h1 h2 => h k (by omega) (by omega)
theorem PK_up0 {v : Nat} (hp : PK c N dn g P) (hv : v ≤ 2) : PK (mUp c 4 0 (nI v)) N dn g (kAt P, some v, kSt P, kWh P, kSp P, kTr P) := by
  obtain ⟨h1, h2, h3, h4, h5, h6, h7, h8, h9⟩ := hp
  refine ⟨mUp_s, ?_, ?_, ?_, ?_, ?_, ?_, fun i hi => ?_, fun q hq => ?_⟩
  · rw [mUp_j (by decide)]; exact h2
  · rw [mUp_j (by decide)]; exact h3
  · rw [mUp_j (by decide)]; exact h4
  · rw [mUp_j (by decide)]; exact h5
  · rw [mUp_j (by decide)]; exact h6
  · rw [mUp_j (by decide)]; exact h7
  · rw [mUp_k (by decide)]; exact h8 i hi
  · cases hq; exact hv
theorem C_go {o : Option Nat} (h : CS c N wt wh) (hp : PK c N dn g P) (hen : kEn P = none) (hat : kAt P < nN N) (hg : g < nN N) (ho : ∀ u, o = some u → u < nN N) (hs : kSt P ≤ 38) (kk : ∀ c' : mS, scp c c' → PK c' N dn g (pgoO N dn g P o) → Q none c') : WP mLayH 42 0 [some (.ref 4), some (.ref 1), some (.int (en o))] [] c Q := by
  have hN := h.1.1
  have h12 := hN.2.1
  have h24 := hN.2.2.1
  have lost : Q none (mUp c 4 0 1) ∨ pgoO N dn g P o ≠ kLost P := by
    by_cases e : pgoO N dn g P o = kLost P
    · rw [e] at kk
      exact Or.inl (kk _ (fun k h1 _ => mUp_kf h1) (PK_up0 (v := 1) hp (by decide)))
    · exact Or.inr e
  simp only [w_X4_go_0, w_X4_go_1, w_X4_go_2, w_X4_go_3, w_X4_go_6, w_X4_go_9, w_X4_go_10, w_X4_go_13, w_X4_go_15, w_X4_go_18, w_X4_go_19, w_X4_go_20, w_X4_go_23, C_blocked h hp hat ho, mKI_some, hp.2.1]
  rw [show (40 : Int32) = nI 40 from rfl]
  cases hb : blk N dn (kAt P) o with
  | true =>
    rw [if_pos bt1]
    refine lost.elim id (fun e => (e ?_).elim)
    unfold blk at hb
    unfold pgoO pgo
    cases o with
    | none => rfl
    | some u =>
      dsimp only at hb ⊢
      cases hl : lk N (kAt P) u with
      | none => rfl
      | some l => rw [hl] at hb; dsimp only at hb ⊢; rw [if_pos hb]
  | false =>
    rw [if_neg (fun q => q bf0), if_pos ((kLt (by omega) (by decide)).mpr (by omega))]
    cases o with
    | none => cases hb
    | some u =>
      have hu := ho u rfl
      unfold blk at hb
      dsimp only at hb
      cases hl : lk N (kAt P) u with
      | none => rw [hl] at hb; cases hb
      | some l =>
        rw [hl] at hb
        dsimp only at hb
        have hlm := (lk_some hl).1
        have e1 : pgoO N dn g P (some u) = (u, if u = g then some 0 else none, kSt P + 1, kWh P, kSp P + nC N l, fup (kTr P) (kSt P + 1) u) := by
          unfold pgoO pgo
          dsimp only
          rw [hl]
          dsimp only
          rw [if_neg (by rw [hb]; exact Bool.false_ne_true)]
        rw [e1] at kk
        obtain ⟨h1, h2, h3, h4, h5, h6, h7, h8, h9⟩ := hp
        have hct : lkI N (nI (kAt P)) (nI u) = some l := by rw [lkI_nI hN hat hu, hl]
        rw [en_some]
        simp (disch := omega) only [w_X4_go_24, w_X4_go_25, w_X4_go_26, w_X4_go_29, w_X4_go_30, w_X4_go_31, w_X4_go_34, w_X4_go_35, w_X4_go_38, w_X4_go_39, w_X4_go_42, w_X4_go_43, w_X4_go_44, w_X4_go_47, w_X4_go_48, w_X4_go_49, w_X4_go_52, w_X4_go_53, w_X4_go_54, w_X4_go_57, w_X4_go_58, w_X4_go_61, w_X4_go_62, w_X4_go_65, w_X4_go_66, w_X4_go_67, w_X4_go_68, w_X4_go_71, w_X4_go_72, w_X4_go_75, w_X4_go_78, w_X4_go_79, w_X4_go_80, w_X4_go_83, w_X4_go_86, w_X4_go_87, w_X4_go_90, w_X4_go_92, w_X4_go_95, w_X4_go_96, w_X4_go_97, w_X4_go_100, h2, h3, h5, h6, C_costAt h.1, hct, mKI_some, mUp_s, mUp_j, mUp_k, nI_1, kIn, kCl, show kSt P + 1 < 41 by omega, true_and]
        rw [show (40 : Int32) = nI 40 from rfl]
        simp (disch := omega) only [kEq]
        rw [show nI (kSp P) + nI (ctO N (some l)) = nI (kSp P + nC N l) from nI_add _ _]
        have base : ∀ (c' : mS) (en' : Option Nat), c' 4 0 = en en' → (∀ j, j ≠ 0 → c' 4 j = (mUp (mUp (mUp c 4 2 (nI (kSp P + nC N l))) 4 4 (nI u)) 4 1 (nI (kSt P + 1))) 4 j) → (∀ i, c' 14 i = mUp c 14 (kSt P + 1) (nI u) 14 i) → (∀ q, en' = some q → q ≤ 2) → PK c' N dn g (u, en', kSt P + 1, kWh P, kSp P + nC N l, fup (kTr P) (kSt P + 1) u) := by
          intro c' en' a1 a2 a3 a4
          refine ⟨a1, ?_, ?_, ?_, ?_, ?_, ?_, fun i hi => ?_, a4⟩
          · rw [a2 1 (by decide), mUp_s]; rfl
          · rw [a2 2 (by decide), mUp_j (by decide), mUp_j (by decide), mUp_s]; rfl
          · rw [a2 3 (by decide), mUp_j (by decide), mUp_j (by decide), mUp_j (by decide)]; exact h4
          · rw [a2 4 (by decide), mUp_j (by decide), mUp_s]; rfl
          · rw [a2 5 (by decide), mUp_j (by decide), mUp_j (by decide), mUp_j (by decide)]; exact h6
          · rw [a2 6 (by decide), mUp_j (by decide), mUp_j (by decide), mUp_j (by decide)]; exact h7
          · have hi : i ≤ kSt P + 1 := hi
            rw [a3 i]
            show _ = nI (fup (kTr P) (kSt P + 1) u i)
            by_cases e : i = kSt P + 1
            · subst e; rw [mUp_s, fup_s]
            · rw [mUp_j e, fup_n e]; exact h8 i (by omega)
        by_cases e : u = g
        · rw [if_neg (fun q => q e)]
          rw [if_pos e] at kk
          refine kk _ (fun k k1 k2 => ?_) (base _ (some 0) mUp_s (fun j hj => ?_) (fun i => ?_) (fun q hq => by cases hq; decide))
          · simp only [mUp_kf k1, mUp_kf k2]
          · rw [mUp_j hj, mUp_k (by decide)]
          · rw [mUp_k (by decide)]
            by_cases e2 : i = kSt P + 1
            · subst e2; rw [mUp_s, mUp_s]
            · rw [mUp_j e2, mUp_j e2, mUp_k (by decide), mUp_k (by decide), mUp_k (by decide)]
        · rw [if_pos e, if_pos (by omega)]
          rw [if_neg e] at kk
          refine kk _ (fun k k1 k2 => ?_) (base _ none ?_ (fun j hj => ?_) (fun i => ?_) (fun q hq => by cases hq))
          · simp only [mUp_kf k1, mUp_kf k2]
          · rw [mUp_k (by decide), mUp_j (by decide), mUp_j (by decide), mUp_j (by decide), h1, hen]
          · rw [mUp_k (by decide)]
          · by_cases e2 : i = kSt P + 1
            · subst e2; rw [mUp_s, mUp_s]
            · rw [mUp_j e2, mUp_j e2, mUp_k (by decide), mUp_k (by decide), mUp_k (by decide)]
end PK1
