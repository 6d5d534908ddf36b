/-! the reference's public methods, first part: the questions that want no loop of their own -/
theorem MI_0 {d : mS} {N : Nt} {wt wh : Nat} {v : Int32} (h : MI d N wt wh) : MI (mUp d 0 0 v) N wt wh := by
  unfold MI at h ⊢
  simp (disch := decide) only [mUp_j, mUp_kf]
  exact h
def fin (x : Nat) : Option Nat := if x < INF then some x else none
def qBetween (N : Nt) (a b : Int32) : Int32 := match two N a b with
  | some (x, y) => if x = y then -1 else en (lk N x y)
  | none => -1
noncomputable def qFar (N : Nt) (a b : Int32) : Int32 := match two N a b with
  | some (x, y) => en (fin (fr N x y))
  | none => -1
noncomputable def qNext (N : Nt) (a b : Int32) : Int32 := match two N a b with
  | some (x, y) => en (nx N none y x)
  | none => -1
/-- two NODES of which the one has a NEXT for the other: s, d, NEXT, its LINK -/
noncomputable def wnx (N : Nt) (a b : Int32) : Option (Nat × Nat × Nat × Nat) := match two N a b with
  | some (x, y) => (match nx N none y x with
    | some e => some (x, y, e, (lk N x e).getD 0)
    | none => none)
  | none => none
noncomputable def qOnes (N : Nt) (a b c : Int32) : Int32 := match wnx N a b with
  | some (s, dd, _, _) => (match ix 4 c with
    | some w => mkS (onP N s dd w) (nN N)
    | none => 0)
  | none => 0
noncomputable def qAlt (N : Nt) (a b : Int32) : Int32 := match wnx N a b with
  | some (s, dd, _, _) => en (altF N s dd)
  | none => -1
noncomputable def qSpace (N : Nt) (a b c : Int32) : Int32 := match wnx N a b with
  | some (s, dd, e, l) => (match ix 3 c with
    | some w => if w = 0 then mkS (rbE N s e (nC N l) s) (nN N) else if w = 1 then mkS (rcE N s e (nC N l)) (nN N) else mkS (cmE N s dd e (nC N l)) (nN N)
    | none => 0)
  | none => 0
noncomputable def qTunnel (N : Nt) (a b c : Int32) : Int32 := match wnx N a b with
  | some (s, dd, e, l) => (match ix 3 c with
    | some w => if w = 0 then en (meE N s dd e (nC N l)) else en ((brE N s dd e (nC N l)).map (fun k => if w = 1 then k / 12 else k % 12))
    | none => -1)
  | none => -1
noncomputable def qRepair (N : Nt) (a b : Int32) : Int32 := match wnx N a b with
  | some (s, dd, e, l) => nI (rpE N s dd e (nC N l))
  | none => -1
def Dok (N : Nt) (wt wh : Nat) : Prop := wt ≤ 3 ∧ wh < 32 ∧ (wt = 1 → wh < nM N) ∧ (wt = 2 → wh < nN N) ∧ (wt = 3 → wh < 8) ∧ (wt = 0 → wh = 0)
def csd (N : Nt) (wt wh : Nat) (a b : Int32) : Option (Nat × Nat) := match two N a b with
  | some (x, y) => if x = y ∨ (wt = 2 ∧ (wh = x ∨ wh = y)) then none else some (x, y)
  | none => none
noncomputable def qSend (N : Nt) (wt wh : Nat) (a b c : Int32) : Int32 := match csd N wt wh a b with
  | some (x, y) => (match ix 4 c with
    | some w => if w = 0 then en (kEn (psd N (sdn N wt wh) x y)) else if w = 1 then nI (kSt (psd N (sdn N wt wh) x y)) else if w = 2 then en (kWh (psd N (sdn N wt wh) x y)) else nI (kSp (psd N (sdn N wt wh) x y))
    | none => -1)
  | none => -1
noncomputable def qTrace (N : Nt) (wt wh : Nat) (a b c : Int32) : Int32 := match csd N wt wh a b with
  | some (x, y) => (match ix (kSt (psd N (sdn N wt wh) x y) + 1) c with
    | some i => nI (kTr (psd N (sdn N wt wh) x y) i)
    | none => -1)
  | none => -1
/-- a LINK and two NODES -/
def lab (N : Nt) (k a b : Int32) : Option (Nat × Nat × Nat) := match ix (nM N) k with
  | some l => (match two N a b with
    | some (x, y) => some (l, x, y)
    | none => none)
  | none => none
noncomputable def qBehind (N : Nt) (k a b : Int32) : Int32 := match lab N k a b with
  | some (l, x, y) => en (fin (gd N (some l) y x))
  | none => -1
noncomputable def qNextBehind (N : Nt) (k a b : Int32) : Int32 := match lab N k a b with
  | some (l, x, y) => en (nx N (some l) y x)
  | none => -1
noncomputable def qHit (N : Nt) (k a : Int32) : Int32 := match ix (nM N) k with
  | some l => (match ix (nN N) a with
    | some y => mkS (onW N l y) (nN N)
    | none => 0)
  | none => 0
section MOP
variable {d : mS} {N : Nt} {wt wh : Nat} {Q : Option Int32 → mS → Prop} {a b c : Int32}
theorem MF_0 {v : Int32} (h : MF d N wt wh) : MF (mUp d 0 0 v) N wt wh := by
  refine ⟨MI_0 h.1, ?_⟩
  unfold FarR
  rw [mUp_kf (by decide)]
  exact h.2
theorem P_between (hM : MI d N wt wh) (kk : ∀ d' : mS, MI d' N wt wh → Q (some (qBetween N a b)) d') : WP mLayM 113 0 [some (.ref 0), some (.int a), some (.int b)] [] d Q := by
  have h12 := hM.1.2.1
  have h0 := MI_0 (v := 0) hM
  have kk := kk _ h0
  simp only [w_X7_between_0, w_X7_between_1, w_X7_between_2, w_X7_between_5, w_X7_between_6, w_X7_between_7, w_X7_between_8, w_X7_between_11, w_X7_between_14, w_X7_between_15, w_X7_between_16, w_X7_between_17, w_X7_between_20, w_X7_between_23, w_X7_between_24]
  rw [M_isPair h0, mKI_some]
  unfold qBetween two at kk
  cases h1 : ix (nN N) a with
  | none => simp only [h1, Option.isSome_none, Bool.false_and, bi_f, if_true] at kk ⊢; exact kk
  | some x =>
    cases h2 : ix (nN N) b with
    | none => simp only [h1, h2, Option.isSome_none, Bool.and_false, Bool.false_and, bi_f, if_true] at kk ⊢; exact kk
    | some y =>
      obtain ⟨rfl, hx⟩ := ix_some (by omega) h1
      obtain ⟨rfl, hy⟩ := ix_some (by omega) h2
      rw [h1, h2] at kk
      dsimp only at kk
      simp only [Option.isSome_some, Bool.true_and, kEq (show x < 2 ^ 31 by omega) (show y < 2 ^ 31 by omega), bi_0]
      by_cases e : x = y
      · rw [if_pos (by simp [e])]
        rw [if_pos e] at kk
        exact kk
      · rw [if_neg (by simp [e]), M_linkOf (by omega) (by omega) h0, mKI_some]
        rw [if_neg e] at kk
        exact kk
theorem P_far (hM : MI d N wt wh) (kk : ∀ d' : mS, MI d' N wt wh → Q (some (qFar N a b)) d') : WP mLayM 115 0 [some (.ref 0), some (.int a), some (.int b)] [] d Q := by
  have h12 := hM.1.2.1
  simp only [w_X7_far_0, w_X7_far_1, w_X7_far_2, w_X7_far_5, w_X7_far_6, w_X7_far_9, w_X7_far_10, w_X7_far_11, w_X7_far_14, w_X7_far_17, w_X7_far_18, w_X7_far_19, w_X7_far_22, w_X7_far_25, w_X7_far_26, w_X7_far_27, w_X7_far_28, w_X7_far_31, w_X7_far_34, w_X7_far_37, w_X7_far_38]
  refine M_lays (MI_0 hM) (fun d1 h1 h2 h3 => ?_)
  rw [mKV_none]
  have h : MF d1 N wt wh := ⟨h1, h3⟩
  have kk := kk _ h1
  unfold qFar two at kk
  rw [M_isNode h1, mKI_some]
  cases e1 : ix (nN N) a with
  | none => simp only [e1, Option.isSome_none, bi_f, if_true] at kk ⊢; exact kk
  | some x =>
    obtain ⟨rfl, hx⟩ := ix_some (by omega) e1
    rw [show (some x).isSome = true from rfl, bi_t, if_neg (by decide), M_isNode h1, mKI_some]
    cases e2 : ix (nN N) b with
    | none => simp only [e1, e2, Option.isSome_none, bi_f, if_true] at kk ⊢; exact kk
    | some y =>
      obtain ⟨rfl, hy⟩ := ix_some (by omega) e2
      rw [show (some y).isSome = true from rfl, bi_t, if_neg (by decide), F_far h hx hy, mKI_some, M_orNone (fr_inf hM.1 hx hy), mKI_some]
      rw [e1, e2] at kk
      exact kk
theorem P_next (hM : MI d N wt wh) (kk : ∀ d' : mS, MI d' N wt wh → Q (some (qNext N a b)) d') : WP mLayM 116 0 [some (.ref 0), some (.int a), some (.int b)] [] d Q := by
  have h12 := hM.1.2.1
  simp only [w_X7_next_0, w_X7_next_1, w_X7_next_2, w_X7_next_5, w_X7_next_6, w_X7_next_9, w_X7_next_10, w_X7_next_11, w_X7_next_14, w_X7_next_17, w_X7_next_18, w_X7_next_19, w_X7_next_22, w_X7_next_25, w_X7_next_26, w_X7_next_27, w_X7_next_28, w_X7_next_29, w_X7_next_30, w_X7_next_33, w_X7_next_36, w_X7_next_37]
  refine M_lays (MI_0 hM) (fun d1 h1 h2 h3 => ?_)
  rw [mKV_none]
  have h : MF d1 N wt wh := ⟨h1, h3⟩
  have kk := kk _ h1
  unfold qNext two at kk
  rw [M_isNode h1, mKI_some]
  cases e1 : ix (nN N) a with
  | none => simp only [e1, Option.isSome_none, bi_f, if_true] at kk ⊢; exact kk
  | some x =>
    obtain ⟨rfl, hx⟩ := ix_some (by omega) e1
    rw [show (some x).isSome = true from rfl, bi_t, if_neg (by decide), M_isNode h1, mKI_some]
    cases e2 : ix (nN N) b with
    | none => simp only [e1, e2, Option.isSome_none, bi_f, if_true] at kk ⊢; exact kk
    | some y =>
      obtain ⟨rfl, hy⟩ := ix_some (by omega) e2
      rw [show (some y).isSome = true from rfl, bi_t, if_neg (by decide), F_next h hx hy, mKI_some]
      rw [e1, e2] at kk
      exact kk
theorem wnx_some {s dd e l : Nat} (hN : Nok N) (h : wnx N a b = some (s, dd, e, l)) : HX N s dd e l ∧ a = nI s ∧ b = nI dd ∧ wnb N a b = true := by
  unfold wnb
  unfold wnx at h
  cases ht : two N a b with
  | none => rw [ht] at h; cases h
  | some q =>
    obtain ⟨x, y⟩ := q
    rw [ht] at h
    dsimp only at h
    obtain ⟨a1, a2, a3, a4⟩ := two_some hN ht
    cases hn : nx N none y x with
    | none => rw [hn] at h; cases h
    | some e' =>
      rw [hn] at h
      dsimp only at h
      cases h
      obtain ⟨l, hx⟩ := HX_of a3 a4 hn
      rw [hx.2.2.2.2.1, Option.getD_some]
      exact ⟨hx, a1, a2, by simp [hn]⟩
theorem wnx_none (h : wnx N a b = none) : wnb N a b = false := by
  unfold wnb
  unfold wnx at h
  cases ht : two N a b with
  | none => rfl
  | some q =>
    obtain ⟨x, y⟩ := q
    rw [ht] at h
    dsimp only at h ⊢
    cases hn : nx N none y x with
    | none => rfl
    | some e => rw [hn] at h; cases h
theorem win {lo hi : Int32} {n : Nat} (h0 : lo = 0) (h1 : hi = nI n) (hn : n + 1 < 2 ^ 31) : decide (lo ≤ c ∧ c ≤ hi) = (ix (n + 1) c).isSome := by
  subst h0; subst h1
  rcases pk_ix c (show n + 1 < 2 ^ 31 from hn) with q | q | ⟨j, hj, rfl⟩
  · rw [ix_neg q, decide_eq_false (fun z => absurd z.1 (Int32.not_le.mpr q))]; rfl
  · rw [ix_big q]
    apply decide_eq_false
    intro z
    have := Int32.le_trans q z.2
    rw [kLe (by omega) (by omega)] at this
    omega
  · rw [ix_nI hn hj]
    apply decide_eq_true
    exact ⟨nI_pos' (by omega), (kLe (by omega) (by omega)).mpr (by omega)⟩
theorem P_ones (hM : MI d N wt wh) (kk : ∀ d' : mS, MI d' N wt wh → Q (some (qOnes N a b c)) d') : WP mLayM 124 0 [some (.ref 0), some (.int a), some (.int b), some (.int c)] [] d Q := by
  simp only [w_X7_ones_0, w_X7_ones_1, w_X7_ones_2, w_X7_ones_5, w_X7_ones_6, w_X7_ones_9, w_X7_ones_10, w_X7_ones_11, w_X7_ones_12, w_X7_ones_15, w_X7_ones_18, w_X7_ones_19, w_X7_ones_20, w_X7_ones_21, w_X7_ones_24, w_X7_ones_27, w_X7_ones_28, w_X7_ones_29, w_X7_ones_30, w_X7_ones_31, w_X7_ones_34, w_X7_ones_37, w_X7_ones_38]
  refine M_lays (MI_0 hM) (fun d1 h1 h2 h3 => ?_)
  rw [mKV_none]
  have h : MF d1 N wt wh := ⟨h1, h3⟩
  have kk := kk _ h1
  unfold qOnes at kk
  rw [t_within, mKI_some, win (lo := 0) (hi := 3) (n := 3) rfl rfl (by omega)]
  cases hc : ix 4 c with
  | none =>
    rw [show (none : Option Nat).isSome = false from rfl, bi_f, if_pos rfl]
    rw [hc] at kk
    cases hw : wnx N a b with
    | none => rw [hw] at kk; exact kk
    | some q => rw [hw] at kk; exact kk
  | some w =>
    obtain ⟨rfl, hw4⟩ := ix_some (by omega) hc
    rw [hc] at kk
    rw [show (some w).isSome = true from rfl, bi_t, if_neg (by decide), F_isWithNext h, mKI_some]
    cases hw : wnx N a b with
    | none => rw [wnx_none hw, bi_f, if_pos rfl]; rw [hw] at kk; exact kk
    | some q =>
      obtain ⟨s, dd, e, l⟩ := q
      obtain ⟨hx, rfl, rfl, hb⟩ := wnx_some hM.1 hw
      rw [hb, bi_t, if_neg (by decide), F_onesOf h hx.1 hx.2.1 (by omega), mKI_some]
      rw [hw] at kk
      exact kk
theorem P_alternate (hM : MI d N wt wh) (kk : ∀ d' : mS, MI d' N wt wh → Q (some (qAlt N a b)) d') : WP mLayM 125 0 [some (.ref 0), some (.int a), some (.int b)] [] d Q := by
  simp only [w_X7_alternate_0, w_X7_alternate_1, w_X7_alternate_2, w_X7_alternate_5, w_X7_alternate_6, w_X7_alternate_9, w_X7_alternate_10, w_X7_alternate_11, w_X7_alternate_12, w_X7_alternate_15, w_X7_alternate_18, w_X7_alternate_19, w_X7_alternate_20, w_X7_alternate_21, w_X7_alternate_24, w_X7_alternate_27, w_X7_alternate_28]
  refine M_lays (MI_0 hM) (fun d1 h1 h2 h3 => ?_)
  rw [mKV_none]
  have h : MF d1 N wt wh := ⟨h1, h3⟩
  have kk := kk _ h1
  unfold qAlt at kk
  rw [F_isWithNext h, mKI_some]
  cases hw : wnx N a b with
  | none => rw [wnx_none hw, bi_f, if_pos rfl]; rw [hw] at kk; exact kk
  | some q =>
    obtain ⟨s, dd, e, l⟩ := q
    obtain ⟨hx, rfl, rfl, hb⟩ := wnx_some hM.1 hw
    rw [hb, bi_t, if_neg (by decide), F_alt h hx.1 hx.2.1, mKI_some]
    rw [hw] at kk
    exact kk
theorem P_repair (hM : MI d N wt wh) (kk : ∀ d' : mS, MI d' N wt wh → Q (some (qRepair N a b)) d') : WP mLayM 134 0 [some (.ref 0), some (.int a), some (.int b)] [] d Q := by
  simp only [w_X7_repair_0, w_X7_repair_1, w_X7_repair_2, w_X7_repair_5, w_X7_repair_6, w_X7_repair_9, w_X7_repair_10, w_X7_repair_11, w_X7_repair_12, w_X7_repair_15, w_X7_repair_18, w_X7_repair_19, w_X7_repair_20, w_X7_repair_21, w_X7_repair_24, w_X7_repair_27, w_X7_repair_28]
  refine M_lays (MI_0 hM) (fun d1 h1 h2 h3 => ?_)
  rw [mKV_none]
  have h : MF d1 N wt wh := ⟨h1, h3⟩
  have kk := kk _ h1
  unfold qRepair at kk
  rw [F_isWithNext h, mKI_some]
  cases hw : wnx N a b with
  | none => rw [wnx_none hw, bi_f, if_pos rfl]; rw [hw] at kk; exact kk
  | some q =>
    obtain ⟨s, dd, e, l⟩ := q
    obtain ⟨hx, rfl, rfl, hb⟩ := wnx_some hM.1 hw
    rw [hb, bi_t, if_neg (by decide), F_repairOf h hx, mKI_some]
    rw [hw] at kk
    exact kk
theorem P_space (hM : MI d N wt wh) (kk : ∀ d' : mS, MI d' N wt wh → Q (some (qSpace N a b c)) d') : WP mLayM 129 0 [some (.ref 0), some (.int a), some (.int b), some (.int c)] [] d Q := by
  simp only [w_X7_space_0, w_X7_space_1, w_X7_space_2, w_X7_space_5, w_X7_space_6, w_X7_space_9, w_X7_space_10, w_X7_space_11, w_X7_space_12, w_X7_space_15, w_X7_space_18, w_X7_space_19, w_X7_space_20, w_X7_space_21, w_X7_space_24, w_X7_space_27, w_X7_space_28, w_X7_space_29, w_X7_space_30, w_X7_space_33, w_X7_space_34, w_X7_space_35, w_X7_space_36, w_X7_space_37, w_X7_space_40, w_X7_space_43, w_X7_space_44, w_X7_space_45, w_X7_space_48, w_X7_space_49, w_X7_space_50, w_X7_space_51, w_X7_space_54, w_X7_space_57, w_X7_space_58, w_X7_space_59, w_X7_space_60, w_X7_space_63]
  refine M_lays (MI_0 hM) (fun d1 h1 h2 h3 => ?_)
  rw [mKV_none]
  have h : MF d1 N wt wh := ⟨h1, h3⟩
  have kk := kk _ h1
  unfold qSpace at kk
  rw [t_within, mKI_some, win (lo := 0) (hi := 2) (n := 2) rfl rfl (by omega)]
  cases hc : ix 3 c with
  | none =>
    rw [show (none : Option Nat).isSome = false from rfl, bi_f, if_pos rfl]
    rw [hc] at kk
    cases hw : wnx N a b with
    | none => rw [hw] at kk; exact kk
    | some q => rw [hw] at kk; exact kk
  | some w =>
    obtain ⟨rfl, hw4⟩ := ix_some (by omega) hc
    rw [hc] at kk
    rw [show (some w).isSome = true from rfl, bi_t, if_neg (by decide), F_isWithNext h, mKI_some]
    cases hw : wnx N a b with
    | none => rw [wnx_none hw, bi_f, if_neg (by decide)]; rw [hw] at kk; exact kk
    | some q =>
      obtain ⟨s, dd, e, l⟩ := q
      obtain ⟨hx, rfl, rfl, hb⟩ := wnx_some hM.1 hw
      rw [hw] at kk
      dsimp only at kk
      rw [hb, bi_t, if_pos (by decide)]
      simp (disch := omega) only [kq0, kq1, F_reachedBy h hx hx.1, F_reach h hx, F_coming h hx, mKI_some]
      by_cases w0 : w = 0
      · rw [if_neg (fun q => q w0)]; rw [if_pos w0] at kk; exact kk
      · rw [if_pos w0]; rw [if_neg w0] at kk
        by_cases w1 : w = 1
        · rw [if_neg (fun q => q w1)]; rw [if_pos w1] at kk; exact kk
        · rw [if_pos w1]; rw [if_neg w1] at kk; exact kk
end MOP
