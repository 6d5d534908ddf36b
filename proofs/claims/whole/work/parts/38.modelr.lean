/-! the reference's public methods, third part: what changes the network; of, count -/
noncomputable def btw (N : Nt) (l : Nat) : Nat := sumN (fun a => cnt (fun dd => onW N l dd a) (nN N)) (nN N)
def okC (lo hi c : Int32) : Bool := decide (lo ≤ c ∧ c ≤ hi)
theorem okC_nI {lo hi : Nat} {c : Int32} (hl : lo < 2 ^ 31) (hh : hi < 2 ^ 31) (h : okC (nI lo) (nI hi) c = true) : ∃ k, c = nI k ∧ lo ≤ k ∧ k ≤ hi := by
  unfold okC at h
  rw [decide_eq_true_iff] at h
  have h0 : ¬ c < 0 := fun q => by
    have := Int32.lt_of_le_of_lt h.1 q
    exact nI_pos hl this
  obtain ⟨j, hj, rfl⟩ := nI_of h0
  rw [kLe hl hj, kLe hj hh] at h
  exact ⟨j, rfl, h.1, h.2⟩
def qNodes (N : Nt) (a : Int32) : Int32 := if okC 2 12 a then nI (nM N) else -1
def sNodes (N : Nt) (a : Int32) : Nt := if okC 2 12 a then (a.toNatClampNeg, 0, N.2.2) else N
def lkOk (N : Nt) (a b c : Int32) : Option (Nat × Nat) := match two N a b with
  | some (x, y) => if ¬ x = y ∧ okC 1 99 c = true ∧ lk N x y = none ∧ nM N < 24 then some (x, y) else none
  | none => none
def qLink (N : Nt) (a b c : Int32) : Int32 := match lkOk N a b c with
  | some _ => nI (nM N)
  | none => -1
def sLink (N : Nt) (a b c : Int32) : Nt := match lkOk N a b c with
  | some (x, y) => (nN N, nM N + 1, fup (nA N) (nM N) x, fup (nB N) (nM N) y, fup (nC N) (nM N) c.toNatClampNeg, fup (nG N) (nM N) 0)
  | none => N
def qCost (N : Nt) (a c : Int32) : Int32 := match ix (nM N) a with
  | some l => if okC 1 99 c then nI (nC N l) else -1
  | none => -1
def sCost (N : Nt) (a c : Int32) : Nt := match ix (nM N) a with
  | some l => if okC 1 99 c then (nN N, nM N, nA N, nB N, fup (nC N) l c.toNatClampNeg, nG N) else N
  | none => N
def qGroups (N : Nt) (a c : Int32) : Int32 := match ix (nM N) a with
  | some l => if okC 0 255 c then nI (nG N l) else -1
  | none => -1
def sGroups (N : Nt) (a c : Int32) : Nt := match ix (nM N) a with
  | some l => if okC 0 255 c then (nN N, nM N, nA N, nB N, nC N, fup (nG N) l c.toNatClampNeg) else N
  | none => N
/-- what is DOWN after down(a, b), if that can be -/
def dwn (N : Nt) (a b : Int32) : Option (Nat × Nat) := if a = 0 then some (0, 0) else if a = 1 then (ix (nM N) b).map (fun k => (1, k)) else if a = 2 then (ix (nN N) b).map (fun k => (2, k)) else if a = 3 then (ix 8 b).map (fun k => (3, k)) else none
noncomputable def qOf (N : Nt) (wt wh : Nat) (a b : Int32) : Int32 := match ix (nM N) a with
  | some l => if b = 0 then nI (nA N l) else if b = 1 then nI (nB N l) else if b = 2 then nI (nC N l) else if b = 3 then nI (nG N l) else if b = 4 then bi (sdn N wt wh l) else if b = 5 then nI (btw N l) else -1
  | none => -1
def qCount (N : Nt) (wt wh : Nat) (a : Int32) : Int32 := if a = 0 then nI (nN N) else if a = 1 then nI (nM N) else if a = 2 then nI wt else if a = 3 then nI wh else if a = 4 then nI (cnt (sdn N wt wh) (nM N)) else if a = 5 then nI (sumN (nC N) (nM N)) else -1
section MOR
variable {d : mS} {N : Nt} {wt wh : Nat} {Q : Option Int32 → mS → Prop} {a b c : Int32}
theorem P_nodes (hM : MI d N wt wh) (kk : ∀ d' : mS, MI d' (sNodes N a) (if okC 2 12 a then 0 else wt) (if okC 2 12 a then 0 else wh) → Q (some (qNodes N a)) d') : WP mLayM 99 0 [some (.ref 0), some (.int a), none] [] d Q := by
  have h0 := MI_0 (v := 0) hM
  simp only [w_X7_nodes_0, w_X7_nodes_1, w_X7_nodes_2, w_X7_nodes_5, w_X7_nodes_6, w_X7_nodes_7, w_X7_nodes_9, w_X7_nodes_12, w_X7_nodes_15, w_X7_nodes_16, w_X7_nodes_17, w_X7_nodes_18, w_X7_nodes_21, w_X7_nodes_22, w_X7_nodes_23, w_X7_nodes_24, w_X7_nodes_27, w_X7_nodes_28, w_X7_nodes_29, w_X7_nodes_32, w_X7_nodes_33, w_X7_nodes_34, w_X7_nodes_37, w_X7_nodes_38, w_X7_nodes_39, w_X7_nodes_42, w_X7_nodes_43]
  rw [t_within, mKI_some]
  unfold sNodes qNodes at kk
  have hok : decide ((2 : Int32) ≤ a ∧ a ≤ 12) = okC 2 12 a := rfl
  rw [hok]
  cases h : okC 2 12 a with
  | false => rw [h] at kk; rw [bi_f, if_neg (by decide)]; exact kk _ h0
  | true =>
    rw [h] at kk
    obtain ⟨k, rfl, h2, h12⟩ := okC_nI (lo := 2) (hi := 12) (by decide) (by decide) h
    rw [bi_t, if_pos (by decide)]
    simp (disch := decide) only [mUp_j, hM.2.2.1]
    refine kk _ ?_
    simp only [if_true]
    refine ⟨⟨?_, ?_, ?_, ?_, ?_⟩, ?_, ?_, ?_, ?_, ?_⟩
    · show 2 ≤ (nI k).toNatClampNeg; rw [kCl (by omega)]; exact h2
    · show (nI k).toNatClampNeg ≤ 12; rw [kCl (by omega)]; exact h12
    · exact Nat.zero_le _
    · intro l hl; exact absurd hl (Nat.not_lt_zero l)
    · intro l k hl; exact absurd hl (Nat.not_lt_zero l)
    · simp (disch := decide) only [mUp_s, mUp_j]
      show nI k = nI (nI k).toNatClampNeg
      rw [kCl (by omega)]
    · simp (disch := decide) only [mUp_s, mUp_j]; rfl
    · intro l hl; exact absurd hl (Nat.not_lt_zero l)
    · simp (disch := decide) only [mUp_s, mUp_j]; rfl
    · simp (disch := decide) only [mUp_s, mUp_j]; rfl
theorem lkF_congr {N N' : Nt} {x y : Nat} : ∀ {m : Nat}, (∀ l, l < m → nA N' l = nA N l ∧ nB N' l = nB N l) → lkF N' x y m = lkF N x y m
  | 0, _ => rfl
  | m + 1, h => by
    unfold lkF
    have h1 := h m (Nat.lt_succ_self m)
    rw [show jn N' m x y = jn N m x y by unfold jn; rw [h1.1, h1.2], lkF_congr (fun l hl => h l (by omega))]
theorem Nok_link {x y k : Nat} (hN : Nok N) (hx : x < nN N) (hy : y < nN N) (hne : x ≠ y) (hk1 : 1 ≤ k) (hk : k ≤ 99) (hlk : lk N x y = none) (hm : nM N < 24) : Nok (nN N, nM N + 1, fup (nA N) (nM N) x, fup (nB N) (nM N) y, fup (nC N) (nM N) k, fup (nG N) (nM N) 0) := by
  have hA : ∀ l, l < nM N → fup (nA N) (nM N) x l = nA N l := fun l hl => fup_n (by omega)
  have hB : ∀ l, l < nM N → fup (nB N) (nM N) y l = nB N l := fun l hl => fup_n (by omega)
  have hno := lkF_none.mp hlk
  refine ⟨hN.1, hN.2.1, by show nM N + 1 ≤ 24; omega, ?_, ?_⟩
  · intro l hl
    have hl : l < nM N + 1 := hl
    show fup (nA N) (nM N) x l < nN N ∧ fup (nB N) (nM N) y l < nN N ∧ fup (nA N) (nM N) x l ≠ fup (nB N) (nM N) y l ∧ 1 ≤ fup (nC N) (nM N) k l ∧ fup (nC N) (nM N) k l ≤ 99 ∧ fup (nG N) (nM N) 0 l ≤ 255
    by_cases e : l = nM N
    · subst e; simp only [fup_s]; exact ⟨hx, hy, hne, hk1, hk, by omega⟩
    · simp only [fup_n e]; exact hN.2.2.2.1 l (by omega)
  · intro l q hl hq hj
    have hl : l < nM N + 1 := hl
    have hq : q < nM N + 1 := hq
    rw [jn_iff] at hj
    have hj : (fup (nA N) (nM N) x l = fup (nA N) (nM N) x q ∧ fup (nB N) (nM N) y l = fup (nB N) (nM N) y q) ∨ (fup (nA N) (nM N) x l = fup (nB N) (nM N) y q ∧ fup (nB N) (nM N) y l = fup (nA N) (nM N) x q) := hj
    by_cases e1 : l = nM N <;> by_cases e2 : q = nM N
    · omega
    · have := hno q (by omega)
      rw [e1, fup_s, fup_s, fup_n e2, fup_n e2] at hj
      rw [jn_iff.mpr (by omega)] at this; cases this
    · have := hno l (by omega)
      rw [e2, fup_s, fup_s, fup_n e1, fup_n e1] at hj
      rw [jn_iff.mpr (by omega)] at this; cases this
    · rw [fup_n e1, fup_n e1, fup_n e2, fup_n e2] at hj
      exact hN.2.2.2.2 l q (by omega) (by omega) (jn_iff.mpr hj)
theorem P_link (hM : MI d N wt wh) (kk : ∀ d' : mS, MI d' (sLink N a b c) wt wh → Q (some (qLink N a b c)) d') : WP mLayM 100 0 [some (.ref 0), some (.int a), some (.int b), some (.int c)] [] d Q := by
  have hN := hM.1
  have h12 := hN.2.1
  have h24 := hN.2.2.1
  have h0 := MI_0 (v := 0) hM
  simp only [w_X7_link_0, w_X7_link_1, w_X7_link_2, w_X7_link_5, w_X7_link_6, w_X7_link_7, w_X7_link_8, w_X7_link_11, w_X7_link_14, w_X7_link_15, w_X7_link_16, w_X7_link_18, w_X7_link_21, w_X7_link_24, w_X7_link_25, w_X7_link_26, w_X7_link_27, w_X7_link_30, w_X7_link_33, w_X7_link_34, w_X7_link_37, w_X7_link_39, w_X7_link_42, w_X7_link_43, w_X7_link_44, w_X7_link_45, w_X7_link_48, w_X7_link_49, w_X7_link_52, w_X7_link_53, w_X7_link_54, w_X7_link_55, w_X7_link_58, w_X7_link_59, w_X7_link_62, w_X7_link_63, w_X7_link_64, w_X7_link_65, w_X7_link_68, w_X7_link_69, w_X7_link_72, w_X7_link_73, w_X7_link_74, w_X7_link_75, w_X7_link_78, w_X7_link_79, w_X7_link_82, w_X7_link_83, w_X7_link_84, w_X7_link_85, w_X7_link_86, w_X7_link_89, w_X7_link_90, w_X7_link_91, w_X7_link_94, w_X7_link_95, w_X7_link_98, w_X7_link_99, w_X7_link_100]
  rw [M_isPair h0, mKI_some]
  unfold sLink qLink at kk
  have no : lkOk N a b c = none → Q (some (-1)) (mUp d 0 0 0) := fun h => by rw [h] at kk; exact kk _ h0
  cases ht : two N a b with
  | none =>
    have hn : ((ix (nN N) a).isSome && (ix (nN N) b).isSome && decide (¬ a = b)) = false := by
      unfold two at ht
      cases h1 : ix (nN N) a <;> cases h2 : ix (nN N) b <;> simp
      rw [h1, h2] at ht; cases ht
    rw [hn, bi_f, if_pos rfl]
    exact no (by unfold lkOk; rw [ht])
  | some q =>
    obtain ⟨x, y⟩ := q
    obtain ⟨rfl, rfl, hx, hy⟩ := two_some hN ht
    have hlo : lkOk N (nI x) (nI y) c = if ¬ x = y ∧ okC 1 99 c = true ∧ lk N x y = none ∧ nM N < 24 then some (x, y) else none := by unfold lkOk; rw [ht]
    rw [ix_nI (by omega) hx, ix_nI (by omega) hy]
    simp only [Option.isSome_some, Bool.true_and, kEq (show x < 2 ^ 31 by omega) (show y < 2 ^ 31 by omega)]
    by_cases c1 : x = y
    · rw [show decide (¬ x = y) = false by simp [c1], bi_f, if_pos rfl]
      exact no (by rw [hlo, if_neg (fun q => q.1 c1)])
    rw [show decide (¬ x = y) = true by simp [c1], bi_t, if_neg (by decide), t_within, mKI_some]
    have hok : decide ((1 : Int32) ≤ c ∧ c ≤ 99) = okC 1 99 c := rfl
    rw [hok]
    cases hc : okC 1 99 c with
    | false =>
      rw [bi_f, if_pos rfl]
      exact no (by rw [hlo, if_neg (fun q => by rw [hc] at q; cases q.2.1)])
    | true =>
      obtain ⟨k, rfl, hk1, hk⟩ := okC_nI (lo := 1) (hi := 99) (by decide) (by decide) hc
      rw [bi_t, if_neg (by decide), M_linkOf (by omega) (by omega) h0, mKI_some]
      cases hlk : lk N x y with
      | some l =>
        have := (lk_some hlk).1
        rw [en_some, if_pos (nI_pos' (by omega))]
        exact no (by rw [hlo, if_neg (fun q => by rw [hlk] at q; cases q.2.2.1)])
      | none =>
        rw [en_none, if_neg (by decide)]
        simp (disch := decide) only [mUp_s, mUp_j, mUp_k, hM.2.2.1]
        simp (disch := omega) only [show (24 : Int32) = nI 24 from rfl, kEq, kIn, kCl, nI_1]
        by_cases c4 : nM N = 24
        · rw [if_neg (fun q => q c4)]
          exact no (by rw [hlo, if_neg (fun q => by omega)])
        · rw [if_pos c4]
          have hm : nM N < 24 := by omega
          simp only [hm, true_and]
          have hok2 : lkOk N (nI x) (nI y) (nI k) = some (x, y) := by rw [hlo, if_pos ⟨c1, hc, hlk, hm⟩]
          rw [hok2] at kk
          dsimp only at kk
          rw [kCl (by omega)] at kk
          rw [show nI (nM N + 1) - 1 = nI (nM N) from nI_pred _]
          refine kk _ ⟨Nok_link hN hx hy c1 hk1 hk hlk hm, ?_, ?_, ?_, ?_, ?_⟩
          · simp (disch := decide) only [mUp_s, mUp_j, mUp_k]; exact hM.2.1
          · simp (disch := decide) only [mUp_s, mUp_j, mUp_k]; rfl
          · intro l hl
            have hl : l < nM N + 1 := hl
            simp (disch := decide) only [mUp_k]
            show mUp _ 1 (nM N) (nI x) 1 l = nI (fup (nA N) (nM N) x l) ∧ mUp _ 2 (nM N) (nI y) 2 l = nI (fup (nB N) (nM N) y l) ∧ mUp _ 3 (nM N) (nI k) 3 l = nI (fup (nC N) (nM N) k l) ∧ mUp _ 4 (nM N) 0 4 l = nI (fup (nG N) (nM N) 0 l)
            by_cases e : l = nM N
            · subst e; simp only [mUp_s, fup_s]; exact ⟨trivial, trivial, trivial, rfl⟩
            · simp only [mUp_j e, fup_n e]
              simp (disch := decide) only [mUp_k]
              exact hM.2.2.2.1 l (by omega)
          · simp (disch := decide) only [mUp_s, mUp_j, mUp_k]; exact hM.2.2.2.2.1
          · simp (disch := decide) only [mUp_s, mUp_j, mUp_k]; exact hM.2.2.2.2.2
theorem P_cost (hM : MI d N wt wh) (kk : ∀ d' : mS, MI d' (sCost N a c) wt wh → Q (some (qCost N a c)) d') : WP mLayM 101 0 [some (.ref 0), some (.int a), some (.int c), none] [] d Q := by
  have hN := hM.1
  have h24 := hN.2.2.1
  have h0 := MI_0 (v := 0) hM
  simp only [w_X7_cost_0, w_X7_cost_1, w_X7_cost_2, w_X7_cost_5, w_X7_cost_6, w_X7_cost_7, w_X7_cost_10, w_X7_cost_13, w_X7_cost_14, w_X7_cost_15, w_X7_cost_17, w_X7_cost_20, w_X7_cost_23, w_X7_cost_24, w_X7_cost_25, w_X7_cost_26, w_X7_cost_29, w_X7_cost_30, w_X7_cost_31, w_X7_cost_32, w_X7_cost_33, w_X7_cost_36, w_X7_cost_37, w_X7_cost_38, w_X7_cost_39, w_X7_cost_40]
  rw [M_isLink h0, mKI_some]
  unfold sCost qCost at kk
  cases h1 : ix (nM N) a with
  | none => rw [h1] at kk; rw [show (none : Option Nat).isSome = false from rfl, bi_f, if_pos rfl]; exact kk _ h0
  | some l =>
    obtain ⟨rfl, hl⟩ := ix_some (by omega) h1
    rw [h1] at kk
    dsimp only at kk
    rw [show (some l).isSome = true from rfl, bi_t, if_neg (by decide), t_within, mKI_some]
    have hok : decide ((1 : Int32) ≤ c ∧ c ≤ 99) = okC 1 99 c := rfl
    rw [hok]
    cases hc : okC 1 99 c with
    | false => rw [hc] at kk; rw [bi_f, if_neg (by decide)]; exact kk _ h0
    | true =>
      obtain ⟨k, rfl, hk1, hk⟩ := okC_nI (lo := 1) (hi := 99) (by decide) (by decide) hc
      rw [hc] at kk
      simp only [if_true] at kk
      rw [bi_t, if_pos (by decide)]
      have e3 := (hM.2.2.2.1 l hl).2.2.1
      simp (disch := decide) only [mUp_k, kIn (show l < 2 ^ 31 by omega), kCl (show l < 2 ^ 31 by omega), e3]
      simp only [show l < 24 by omega, true_and]
      rw [kCl (by omega)] at kk
      refine kk _ ⟨⟨hN.1, hN.2.1, hN.2.2.1, ?_, hN.2.2.2.2⟩, ?_, ?_, ?_, ?_, ?_⟩
      · intro q hq
        obtain ⟨g1, g2, g3, g4, g5, g6⟩ := hN.2.2.2.1 q hq
        refine ⟨g1, g2, g3, ?_, ?_, g6⟩
        · show 1 ≤ fup (nC N) l k q
          unfold fup; split <;> omega
        · show fup (nC N) l k q ≤ 99
          unfold fup; split <;> omega
      · simp (disch := decide) only [mUp_j, mUp_k]; exact hM.2.1
      · simp (disch := decide) only [mUp_j, mUp_k]; exact hM.2.2.1
      · intro q hq
        obtain ⟨g1, g2, g3, g4⟩ := hM.2.2.2.1 q hq
        simp (disch := decide) only [mUp_k]
        refine ⟨g1, g2, ?_, g4⟩
        show mUp _ 3 l (nI k) 3 q = nI (fup (nC N) l k q)
        by_cases e : q = l
        · subst e; rw [mUp_s, fup_s]
        · rw [mUp_j e, fup_n e, mUp_k (by decide)]; exact g3
      · simp (disch := decide) only [mUp_j, mUp_k]; exact hM.2.2.2.2.1
      · simp (disch := decide) only [mUp_j, mUp_k]; exact hM.2.2.2.2.2
theorem P_groups (hM : MI d N wt wh) (kk : ∀ d' : mS, MI d' (sGroups N a c) wt wh → Q (some (qGroups N a c)) d') : WP mLayM 102 0 [some (.ref 0), some (.int a), some (.int c), none] [] d Q := by
  have hN := hM.1
  have h24 := hN.2.2.1
  have h0 := MI_0 (v := 0) hM
  simp only [w_X7_groups_0, w_X7_groups_1, w_X7_groups_2, w_X7_groups_5, w_X7_groups_6, w_X7_groups_7, w_X7_groups_10, w_X7_groups_13, w_X7_groups_14, w_X7_groups_15, w_X7_groups_18, w_X7_groups_21, w_X7_groups_24, w_X7_groups_25, w_X7_groups_26, w_X7_groups_27, w_X7_groups_30, w_X7_groups_31, w_X7_groups_32, w_X7_groups_33, w_X7_groups_34, w_X7_groups_37, w_X7_groups_38, w_X7_groups_39, w_X7_groups_40, w_X7_groups_41]
  rw [M_isLink h0, mKI_some]
  unfold sGroups qGroups at kk
  cases h1 : ix (nM N) a with
  | none => rw [h1] at kk; rw [show (none : Option Nat).isSome = false from rfl, bi_f, if_pos rfl]; exact kk _ h0
  | some l =>
    obtain ⟨rfl, hl⟩ := ix_some (by omega) h1
    rw [h1] at kk
    dsimp only at kk
    rw [show (some l).isSome = true from rfl, bi_t, if_neg (by decide), t_within, mKI_some]
    have hok : decide ((0 : Int32) ≤ c ∧ c ≤ 255) = okC 0 255 c := rfl
    rw [hok]
    cases hc : okC 0 255 c with
    | false => rw [hc] at kk; rw [bi_f, if_neg (by decide)]; exact kk _ h0
    | true =>
      obtain ⟨k, rfl, -, hk⟩ := okC_nI (lo := 0) (hi := 255) (by decide) (by decide) hc
      rw [hc] at kk
      simp only [if_true] at kk
      rw [bi_t, if_pos (by decide)]
      have e3 := (hM.2.2.2.1 l hl).2.2.2
      simp (disch := decide) only [mUp_k, kIn (show l < 2 ^ 31 by omega), kCl (show l < 2 ^ 31 by omega), e3]
      simp only [show l < 24 by omega, true_and]
      rw [kCl (by omega)] at kk
      refine kk _ ⟨⟨hN.1, hN.2.1, hN.2.2.1, ?_, hN.2.2.2.2⟩, ?_, ?_, ?_, ?_, ?_⟩
      · intro q hq
        obtain ⟨g1, g2, g3, g4, g5, g6⟩ := hN.2.2.2.1 q hq
        refine ⟨g1, g2, g3, g4, g5, ?_⟩
        show fup (nG N) l k q ≤ 255
        unfold fup; split <;> omega
      · simp (disch := decide) only [mUp_j, mUp_k]; exact hM.2.1
      · simp (disch := decide) only [mUp_j, mUp_k]; exact hM.2.2.1
      · intro q hq
        obtain ⟨g1, g2, g3, g4⟩ := hM.2.2.2.1 q hq
        simp (disch := decide) only [mUp_k]
        refine ⟨g1, g2, g3, ?_⟩
        show mUp _ 4 l (nI k) 4 q = nI (fup (nG N) l k q)
        by_cases e : q = l
        · subst e; rw [mUp_s, fup_s]
        · rw [mUp_j e, fup_n e, mUp_k (by decide)]; exact g4
      · simp (disch := decide) only [mUp_j, mUp_k]; exact hM.2.2.2.2.1
      · simp (disch := decide) only [mUp_j, mUp_k]; exact hM.2.2.2.2.2
end MOR
