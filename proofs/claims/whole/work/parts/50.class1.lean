/-! the class: its network -/
def CB (c : mS) (N : Nt) (wt wh : Nat) : Prop := Nok N ∧ c 1 0 = nI (nN N) ∧ c 1 1 = nI (nM N) ∧ (∀ l, l < nM N → c 7 l = nI (nA N l) ∧ c 8 l = nI (nB N l) ∧ c 9 l = nI (nC N l) ∧ c 10 l = nI (nG N l)) ∧ (∀ x y, x < nN N → y < nN N → c (44 + x) y = en (lk N x y)) ∧ c 2 0 = nI wt ∧ c 2 1 = nI wh
def CF (c : mS) (N : Nt) : Prop := ∀ x y, x < nN N → y < nN N → c (20 + x) y = nI (gd N none x y) ∧ c (32 + x) y = en (nx N none y x)
def CI (c : mS) (N : Nt) (wt wh : Nat) : Prop := CB c N wt wh ∧ (c 1 9 = 1 ∨ (c 1 9 = 0 ∧ CF c N))
def CS (c : mS) (N : Nt) (wt wh : Nat) : Prop := CB c N wt wh ∧ c 1 9 = 0 ∧ CF c N
/-- nothing but one place changed -/
def but1 (p : Nat) (c c' : mS) : Prop := ∀ k, k ≠ p → c' k = c k
theorem but1_rf {p : Nat} {c : mS} : but1 p c c := fun _ _ => rfl
theorem but1_tr {p : Nat} {a b c : mS} (h : but1 p a b) (h2 : but1 p b c) : but1 p a c := fun k hk => by rw [h2 k hk, h k hk]
theorem but1_up {p j : Nat} {c : mS} {v : Int32} : but1 p c (mUp c p j v) := fun _ hk => mUp_kf hk
theorem CB_but {p : Nat} {c c' : mS} {N : Nt} {wt wh : Nat} (h : CB c N wt wh) (hb : but1 p c c') (hp : 11 ≤ p) (hp2 : p < 44) : CB c' N wt wh := by
  obtain ⟨h1, h2, h3, h4, h5, h6, h7⟩ := h
  refine ⟨h1, ?_, ?_, ?_, fun x y hx hy => ?_, ?_, ?_⟩
  · rw [hb 1 (by omega)]; exact h2
  · rw [hb 1 (by omega)]; exact h3
  · rw [hb 7 (by omega), hb 8 (by omega), hb 9 (by omega), hb 10 (by omega)]; exact h4
  · rw [hb (44 + x) (by omega)]; exact h5 x y hx hy
  · rw [hb 2 (by omega)]; exact h6
  · rw [hb 2 (by omega)]; exact h7
section CL1
variable {c : mS} {N : Nt} {wt wh : Nat} {Q : Option Int32 → mS → Prop} {a b : Int32}
theorem C_isNode (h : CB c N wt wh) : WP mLayH 18 0 [some (.ref 1), some (.int a)] [] c Q ↔ Q (some (bi (ix (nN N) a).isSome)) c := by
  simp only [w_X2_isNode_0, w_X2_isNode_1, w_X2_isNode_4, w_X2_isNode_5, w_X2_isNode_6, w_X2_isNode_9, w_X2_isNode_12, w_X2_isNode_13, w_X2_isNode_16, w_X2_isNode_17, true_or, or_true, true_and, h.2.1, t_node]
  exact ite_bi (Q := fun x => Q (some x) c)
theorem C_isLink (h : CB c N wt wh) : WP mLayH 20 0 [some (.ref 1), some (.int a)] [] c Q ↔ Q (some (bi (ix (nM N) a).isSome)) c := by
  simp only [w_X2_isLink_0, w_X2_isLink_1, w_X2_isLink_4, w_X2_isLink_5, w_X2_isLink_6, w_X2_isLink_9, w_X2_isLink_12, w_X2_isLink_13, w_X2_isLink_16, w_X2_isLink_17, true_or, or_true, true_and, h.2.2.1, t_node]
  exact ite_bi (Q := fun x => Q (some x) c)
theorem C_areTwo (h : CB c N wt wh) : WP mLayH 19 0 [some (.ref 1), some (.int a), some (.int b)] [] c Q ↔ Q (some (bi ((ix (nN N) a).isSome && (ix (nN N) b).isSome && decide (¬ a = b)))) c := by
  simp only [w_X2_areTwo_0, w_X2_areTwo_1, w_X2_areTwo_2, w_X2_areTwo_5, w_X2_areTwo_8, w_X2_areTwo_9, w_X2_areTwo_10, w_X2_areTwo_13, w_X2_areTwo_16, w_X2_areTwo_17, w_X2_areTwo_18, w_X2_areTwo_21, w_X2_areTwo_22, w_X2_areTwo_25, w_X2_areTwo_26, true_or, or_true, true_and, C_isNode h, mKI_some, bi_0]
  cases (ix (nN N) a).isSome <;> cases (ix (nN N) b).isSome <;> by_cases h : a = b <;> simp [h, bi]
/-- the LINK of two, whatever they are -/
def lkI (N : Nt) (a b : Int32) : Option Nat := match two N a b with
  | some (x, y) => lk N x y
  | none => none
theorem lkI_nI {x y : Nat} (hN : Nok N) (hx : x < nN N) (hy : y < nN N) : lkI N (nI x) (nI y) = lk N x y := by
  have h12 := hN.2.1
  unfold lkI two
  rw [ix_nI (by omega) hx, ix_nI (by omega) hy]
theorem C_linkAt (h : CB c N wt wh) : WP mLayH 23 0 [some (.ref 1), some (.int a), some (.int b)] [] c Q ↔ Q (some (en (lkI N a b))) c := by
  have h12 := h.1.2.1
  simp only [w_X2_linkAt_0, w_X2_linkAt_1, w_X2_linkAt_4, w_X2_linkAt_5, w_X2_linkAt_6, w_X2_linkAt_9, w_X2_linkAt_12, w_X2_linkAt_13, w_X2_linkAt_16, w_X2_linkAt_17, w_X2_linkAt_18, w_X2_linkAt_21, w_X2_linkAt_24, w_X2_linkAt_25, w_X2_linkAt_26, w_X2_linkAt_27, w_X2_linkAt_30, w_X2_linkAt_31, w_X2_linkAt_32, w_X2_linkAt_33, w_X2_linkAt_34, h.2.1]
  unfold lkI two
  rcases pk_ix a (show nN N < 2 ^ 31 by omega) with a0 | a1 | ⟨x, hx, rfl⟩
  · rw [if_pos a0, ix_neg a0]; exact Iff.rfl
  · rw [ix_big a1]
    by_cases a0 : a < 0
    · rw [if_pos a0]; exact Iff.rfl
    · rw [if_neg a0, if_pos a1]; exact Iff.rfl
  rw [if_neg (nI_pos (by omega)), if_neg (fun q => by rw [kLe (by omega) (by omega)] at q; omega), ix_nI (by omega) hx]
  rcases pk_ix b (show nN N < 2 ^ 31 by omega) with b0 | b1 | ⟨y, hy, rfl⟩
  · rw [if_pos b0, ix_neg b0]; exact Iff.rfl
  · rw [ix_big b1]
    by_cases b0 : b < 0
    · rw [if_pos b0]; exact Iff.rfl
    · rw [if_neg b0, if_neg (Int32.not_lt.mpr b1)]; exact Iff.rfl
  rw [if_neg (nI_pos (by omega)), if_pos (nI_lt hy (by omega)), ix_nI (by omega) hy]
  simp (disch := omega) only [kIn, kCl, h.2.2.2.2.1 x y hx hy, show x < 12 by omega, show y < 12 by omega, true_and]
theorem C_link {x y : Nat} (h : CB c N wt wh) (hx : x < nN N) (hy : y < nN N) : WP mLayH 23 0 [some (.ref 1), some (.int (nI x)), some (.int (nI y))] [] c Q ↔ Q (some (en (lk N x y))) c := by
  rw [C_linkAt h, lkI_nI h.1 hx hy]
/-- the COST of a LINK of two, or none -/
def ctO (N : Nt) (o : Option Nat) : Nat := match o with
  | some l => nC N l
  | none => INF
theorem C_costAt (h : CB c N wt wh) : WP mLayH 24 0 [some (.ref 1), some (.int a), some (.int b), none] [] c Q ↔ Q (some (nI (ctO N (lkI N a b)))) c := by
  have h24 := h.1.2.2.1
  simp only [w_X2_costAt_0, w_X2_costAt_1, w_X2_costAt_2, w_X2_costAt_3, w_X2_costAt_6, w_X2_costAt_7, w_X2_costAt_8, w_X2_costAt_9, w_X2_costAt_12, w_X2_costAt_14, w_X2_costAt_17, w_X2_costAt_18, w_X2_costAt_21, w_X2_costAt_22, w_X2_costAt_23]
  rw [C_linkAt h, mKI_some]
  cases hl : lkI N a b with
  | none => rw [en_none, if_neg (fun q => q rfl)]; exact Iff.rfl
  | some l =>
    have hlm : l < nM N := by
      unfold lkI at hl
      split at hl
      · exact (lk_some hl).1
      · cases hl
    have e3 := (h.2.2.2.1 l hlm).2.2.1
    rw [en_some, if_pos (fun q => (kNe (by omega)).mp q)]
    simp (disch := omega) only [kIn, kCl, e3, show l < 24 by omega, true_and]
    exact Iff.rfl
theorem C_fill {lay : mLay} {p n : Nat} {v : Int32} (hp : lay[p]? = some (.inr (.inl n))) (hn : n < 2 ^ 31) : ∀ (k j : Nat) (c : mS), j + k = n → (∀ i, i < j → c p i = v) → (∀ c' : mS, but1 p c c' → (∀ i, i < n → c' p i = v) → Q none c') → WP lay 159 5 [some (.ref p), some (.int v), some (.int (nI j)), some (.int (nI n))] [] c Q := by
  intro k
  induction k with
  | zero =>
    intro j c hj hf kk
    rw [w_J7_fill_53178_5]
    simp only [w_J7_fill_53178_6, w_J7_fill_53178_7, w_J7_fill_53178_20]
    rw [if_pos ((kLe (by omega) (by omega)).mpr (by omega))]
    exact kk c but1_rf (fun i hi => hf i (by omega))
  | succ k ih =>
    intro j c hj hf kk
    rw [w_J7_fill_53178_5]
    simp only [w_J7_fill_53178_6, w_J7_fill_53178_7, w_J7_fill_53178_10, w_J7_fill_53178_11, w_J7_fill_53178_12, w_J7_fill_53178_13 hp, w_J7_fill_53178_14, w_J7_fill_53178_17]
    rw [if_neg (fun q => by rw [kLe (by omega) (by omega)] at q; omega)]
    refine ⟨(kIn (by omega)).mpr (by omega), ?_⟩
    rw [kCl (by omega), nI_1]
    refine ih (j + 1) _ (by omega) (fun i hi => ?_) (fun c' h1 h2 => kk c' (but1_tr but1_up h1) h2)
    by_cases e : i = j
    · subst e; rw [mUp_s]
    · rw [mUp_j e]; exact hf i (by omega)
theorem C_fill0 {lay : mLay} {p n : Nat} {v : Int32} {c : mS} (hp : lay[p]? = some (.inr (.inl n))) (hn : n < 2 ^ 31) (kk : ∀ c' : mS, but1 p c c' → (∀ i, i < n → c' p i = v) → Q none c') : WP lay 159 0 [some (.ref p), some (.int v), none, none] [] c Q := by
  simp only [w_J7_fill_53178_0, w_J7_fill_53178_1, w_J7_fill_53178_2, w_J7_fill_53178_3 hp, w_J7_fill_53178_4]
  exact C_fill hp hn n 0 c (by omega) (fun i hi => by omega) kk
/-- a row holds f -/
def RW (c : mS) (p : Nat) (N : Nt) (f : Nat → Nat) : Prop := ∀ v, v < nN N → c p v = nI (f v)
theorem RW_up {p v x : Nat} {f : Nat → Nat} (h : RW c p N f) : RW (mUp c p v (nI x)) p N (fup f v x) := by
  intro w hw
  by_cases e : w = v
  · subst e; rw [mUp_s, fup_s]
  · rw [mUp_j e, fup_n e]; exact h w hw
theorem C_shorten {p l : Nat} {f : Nat → Nat} (hp : mLayH[p]? = some (.inr (.inl 12))) (hp1 : 11 ≤ p) (h : CB c N wt wh) (hl : l < nM N) (hf : RW c p N f) (hb : ∀ v, v < nN N → f v ≤ INF)
    (kk : ∀ (c' : mS) (f' : Nat → Nat) (ch : Bool), but1 p c c' → RW c' p N f' → ((ch = false ∧ f' = f ∧ f (nB N l) ≤ f (nA N l) + nC N l ∧ f (nA N l) ≤ f (nB N l) + nC N l) ∨ (ch = true ∧ f' = fup f (nB N l) (f (nA N l) + nC N l) ∧ f (nA N l) + nC N l < f (nB N l)) ∨ (ch = true ∧ f' = fup f (nA N l) (f (nB N l) + nC N l) ∧ f (nB N l) + nC N l < f (nA N l) ∧ f (nB N l) ≤ f (nA N l) + nC N l)) → Q (some (bi ch)) c') : WP mLayH 32 0 [some (.ref 1), some (.ref p), some (.int (nI l)), none, none] [] c Q := by
  have h12 := h.1.2.1
  have h24 := h.1.2.2.1
  have hinf : INF = 1000000 := rfl
  obtain ⟨e1, e2, e3, -⟩ := h.2.2.2.1 l hl
  obtain ⟨g1, g2, g3, g4, g5, -⟩ := h.1.2.2.2.1 l hl
  have fa := hf _ g1
  have fb := hf _ g2
  have ba := hb _ g1
  have bb := hb _ g2
  simp only [w_X2_shorten_0, w_X2_shorten_1, w_X2_shorten_4, w_X2_shorten_5, w_X2_shorten_0, w_X2_shorten_1, w_X2_shorten_4, w_X2_shorten_5, w_X2_shorten_6, w_X2_shorten_7, w_X2_shorten_8, w_X2_shorten_11, w_X2_shorten_12, w_X2_shorten_13, w_X2_shorten_15, w_X2_shorten_16, w_X2_shorten_17, w_X2_shorten_18, w_X2_shorten_19, w_X2_shorten_22, w_X2_shorten_24, w_X2_shorten_25, w_X2_shorten_26, w_X2_shorten_28, w_X2_shorten_29, w_X2_shorten_33, w_X2_shorten_35, w_X2_shorten_36, w_X2_shorten_37, w_X2_shorten_38, w_X2_shorten_39, w_X2_shorten_42, w_X2_shorten_44, w_X2_shorten_45, w_X2_shorten_46, w_X2_shorten_47, w_X2_shorten_48, w_X2_shorten_49, w_X2_shorten_51, w_X2_shorten_53, w_X2_shorten_56, w_X2_shorten_57, w_X2_shorten_58, w_X2_shorten_59, w_X2_shorten_60, w_X2_shorten_62, w_X2_shorten_65, w_X2_shorten_66, w_X2_shorten_67, w_X2_shorten_68, w_X2_shorten_71, w_X2_shorten_72, w_X2_shorten_75, w_X2_shorten_76, w_X2_shorten_77, w_X2_shorten_78, w_X2_shorten_80, w_X2_shorten_82]
  sorry
end CL1
