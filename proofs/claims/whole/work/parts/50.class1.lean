/-! the class: its network -/
def CB (c : mS) (N : Nt) (wt wh : Nat) : Prop := Nok N ∧ c 1 0 = nI (nN N) ∧ c 1 1 = nI (nM N) ∧ (∀ l, l < nM N → c 7 l = nI (nA N l) ∧ c 8 l = nI (nB N l) ∧ c 9 l = nI (nC N l) ∧ c 10 l = nI (nG N l)) ∧ (∀ x y, x < nN N → y < nN N → c (44 + x) y = en (lk N x y)) ∧ c 2 0 = nI wt ∧ c 2 1 = nI wh
def CF (c : mS) (N : Nt) : Prop := ∀ x y, x < nN N → y < nN N → c (20 + x) y = nI (gd N none x y) ∧ c (32 + x) y = en (nx N none y x)
def CI (c : mS) (N : Nt) (wt wh : Nat) : Prop := CB c N wt wh ∧ (c 1 9 = 1 ∨ (c 1 9 = 0 ∧ CF c N))
def CS (c : mS) (N : Nt) (wt wh : Nat) : Prop := CB c N wt wh ∧ c 1 9 = 0 ∧ CF c N
/-- nothing but one place changed -/
def but1 (p : Nat) (c c' : mS) : Prop := ∀ k, k ≠ p → c' k = c k
theorem but1_rf {p : Nat} {c : mS} : but1 p c c := fun _ _ => rfl
theorem but1_tr {p : Nat} {a b c : mS} (h : but1 p a b) (h2 : but1 p b c) : but1 p a c := fun k hk => by rw [h2 k hk, h k hk]
theorem but1_up {p j : Nat} {c : mS} {v : Int32} : but1 p c (mUp c p j v) := fun _ hk => mUp_kf hk
theorem CB_but {p : Nat} {c c' : mS} {N : Nt} {wt wh : Nat} (h : CB c N wt wh) (hb : but1 p c c') (hp : 11 ≤ p) (hp2 : p < 44) : CB c' N wt wh := by
  obtain ⟨h1, h2, h3, h4, h5, h6, h7⟩ := h
  refine ⟨h1, ?_, ?_, ?_, fun x y hx hy => ?_, ?_, ?_⟩
  · rw [hb 1 (by omega)]; exact h2
  · rw [hb 1 (by omega)]; exact h3
  · rw [hb 7 (by omega), hb 8 (by omega), hb 9 (by omega), hb 10 (by omega)]; exact h4
  · rw [hb (44 + x) (by omega)]; exact h5 x y hx hy
  · rw [hb 2 (by omega)]; exact h6
  · rw [hb 2 (by omega)]; exact h7
section CL1
variable {c : mS} {N : Nt} {wt wh : Nat} {Q : Option Int32 → mS → Prop} {a b : Int32}
theorem C_isNode (h : CB c N wt wh) : WP mLayH 18 0 [some (.ref 1), some (.int a)] [] c Q ↔ Q (some (bi (ix (nN N) a).isSome)) c := by
  simp only [w_X2_isNode_0, w_X2_isNode_1, w_X2_isNode_4, w_X2_isNode_5, w_X2_isNode_6, w_X2_isNode_9, w_X2_isNode_12, w_X2_isNode_13, w_X2_isNode_16, w_X2_isNode_17, true_or, or_true, true_and, h.2.1, t_node]
  exact ite_bi (Q := fun x => Q (some x) c)
theorem C_isLink (h : CB c N wt wh) : WP mLayH 20 0 [some (.ref 1), some (.int a)] [] c Q ↔ Q (some (bi (ix (nM N) a).isSome)) c := by
  simp only [w_X2_isLink_0, w_X2_isLink_1, w_X2_isLink_4, w_X2_isLink_5, w_X2_isLink_6, w_X2_isLink_9, w_X2_isLink_12, w_X2_isLink_13, w_X2_isLink_16, w_X2_isLink_17, true_or, or_true, true_and, h.2.2.1, t_node]
  exact ite_bi (Q := fun x => Q (some x) c)
theorem C_areTwo (h : CB c N wt wh) : WP mLayH 19 0 [some (.ref 1), some (.int a), some (.int b)] [] c Q ↔ Q (some (bi ((ix (nN N) a).isSome && (ix (nN N) b).isSome && decide (¬ a = b)))) c := by
  simp only [w_X2_areTwo_0, w_X2_areTwo_1, w_X2_areTwo_2, w_X2_areTwo_5, w_X2_areTwo_8, w_X2_areTwo_9, w_X2_areTwo_10, w_X2_areTwo_13, w_X2_areTwo_16, w_X2_areTwo_17, w_X2_areTwo_18, w_X2_areTwo_21, w_X2_areTwo_22, w_X2_areTwo_25, w_X2_areTwo_26, true_or, or_true, true_and, C_isNode h, mKI_some, bi_0]
  cases (ix (nN N) a).isSome <;> cases (ix (nN N) b).isSome <;> by_cases h : a = b <;> simp [h, bi]
/-- the LINK of two, whatever they are -/
def lkI (N : Nt) (a b : Int32) : Option Nat := match two N a b with
  | some (x, y) => lk N x y
  | none => none
theorem lkI_nI {x y : Nat} (hN : Nok N) (hx : x < nN N) (hy : y < nN N) : lkI N (nI x) (nI y) = lk N x y := by
  have h12 := hN.2.1
  unfold lkI two
  rw [ix_nI (by omega) hx, ix_nI (by omega) hy]
theorem C_linkAt (h : CB c N wt wh) : WP mLayH 23 0 [some (.ref 1), some (.int a), some (.int b)] [] c Q ↔ Q (some (en (lkI N a b))) c := by
  have h12 := h.1.2.1
  simp only [w_X2_linkAt_0, w_X2_linkAt_1, w_X2_linkAt_4, w_X2_linkAt_5, w_X2_linkAt_6, w_X2_linkAt_9, w_X2_linkAt_12, w_X2_linkAt_13, w_X2_linkAt_16, w_X2_linkAt_17, w_X2_linkAt_18, w_X2_linkAt_21, w_X2_linkAt_24, w_X2_linkAt_25, w_X2_linkAt_26, w_X2_linkAt_27, w_X2_linkAt_30, w_X2_linkAt_31, w_X2_linkAt_32, w_X2_linkAt_33, w_X2_linkAt_34, h.2.1]
  unfold lkI two
  rcases pk_ix a (show nN N < 2 ^ 31 by omega) with a0 | a1 | ⟨x, hx, rfl⟩
  · rw [if_pos a0, ix_neg a0]; exact Iff.rfl
  · rw [ix_big a1]
    by_cases a0 : a < 0
    · rw [if_pos a0]; exact Iff.rfl
    · rw [if_neg a0, if_pos a1]; exact Iff.rfl
  rw [if_neg (nI_pos (by omega)), if_neg (fun q => by rw [kLe (by omega) (by omega)] at q; omega), ix_nI (by omega) hx]
  rcases pk_ix b (show nN N < 2 ^ 31 by omega) with b0 | b1 | ⟨y, hy, rfl⟩
  · rw [if_pos b0, ix_neg b0]; exact Iff.rfl
  · rw [ix_big b1]
    by_cases b0 : b < 0
    · rw [if_pos b0]; exact Iff.rfl
    · rw [if_neg b0, if_neg (Int32.not_lt.mpr b1)]; exact Iff.rfl
  rw [if_neg (nI_pos (by omega)), if_pos (nI_lt hy (by omega)), ix_nI (by omega) hy]
  simp (disch := omega) only [kIn, kCl, h.2.2.2.2.1 x y hx hy, show x < 12 by omega, show y < 12 by omega, true_and]
theorem C_link {x y : Nat} (h : CB c N wt wh) (hx : x < nN N) (hy : y < nN N) : WP mLayH 23 0 [some (.ref 1), some (.int (nI x)), some (.int (nI y))] [] c Q ↔ Q (some (en (lk N x y))) c := by
  rw [C_linkAt h, lkI_nI h.1 hx hy]
/-- the COST of a LINK of two, or none -/
def ctO (N : Nt) (o : Option Nat) : Nat := match o with
  | some l => nC N l
  | none => INF
theorem C_costAt (h : CB c N wt wh) : WP mLayH 24 0 [some (.ref 1), some (.int a), some (.int b), none] [] c Q ↔ Q (some (nI (ctO N (lkI N a b)))) c := by
  have h24 := h.1.2.2.1
  simp only [w_X2_costAt_0, w_X2_costAt_1, w_X2_costAt_2, w_X2_costAt_3, w_X2_costAt_6, w_X2_costAt_7, w_X2_costAt_8, w_X2_costAt_9, w_X2_costAt_12, w_X2_costAt_14, w_X2_costAt_17, w_X2_costAt_18, w_X2_costAt_21, w_X2_costAt_22, w_X2_costAt_23]
  rw [C_linkAt h, mKI_some]
  cases hl : lkI N a b with
  | none => rw [en_none, if_neg (fun q => q rfl)]; exact Iff.rfl
  | some l =>
    have hlm : l < nM N := by
      unfold lkI at hl
      split at hl
      · exact (lk_some hl).1
      · cases hl
    have e3 := (h.2.2.2.1 l hlm).2.2.1
    rw [en_some, if_pos (fun q => (kNe (by omega)).mp q)]
    simp (disch := omega) only [kIn, kCl, e3, show l < 24 by omega, true_and]
    exact Iff.rfl
theorem C_fill {lay : mLay} {p n : Nat} {v : Int32} (hp : lay[p]? = some (.inr (.inl n))) (hn : n < 2 ^ 31) : ∀ (k j : Nat) (c : mS), j + k = n → (∀ i, i < j → c p i = v) → (∀ c' : mS, but1 p c c' → (∀ i, i < n → c' p i = v) → Q none c') → WP lay 159 5 [some (.ref p), some (.int v), some (.int (nI j)), some (.int (nI n))] [] c Q := by
  intro k
  induction k with
  | zero =>
    intro j c hj hf kk
    rw [w_J7_fill_53178_5]
    simp only [w_J7_fill_53178_6, w_J7_fill_53178_7, w_J7_fill_53178_20]
    rw [if_pos ((kLe (by omega) (by omega)).mpr (by omega))]
    exact kk c but1_rf (fun i hi => hf i (by omega))
  | succ k ih =>
    intro j c hj hf kk
    rw [w_J7_fill_53178_5]
    simp only [w_J7_fill_53178_6, w_J7_fill_53178_7, w_J7_fill_53178_10, w_J7_fill_53178_11, w_J7_fill_53178_12, w_J7_fill_53178_13 hp, w_J7_fill_53178_14, w_J7_fill_53178_17]
    rw [if_neg (fun q => by rw [kLe (by omega) (by omega)] at q; omega)]
    refine ⟨(kIn (by omega)).mpr (by omega), ?_⟩
    rw [kCl (by omega), nI_1]
    refine ih (j + 1) _ (by omega) (fun i hi => ?_) (fun c' h1 h2 => kk c' (but1_tr but1_up h1) h2)
    by_cases e : i = j
    · subst e; rw [mUp_s]
    · rw [mUp_j e]; exact hf i (by omega)
theorem C_fill0 {lay : mLay} {p n : Nat} {v : Int32} {c : mS} (hp : lay[p]? = some (.inr (.inl n))) (hn : n < 2 ^ 31) (kk : ∀ c' : mS, but1 p c c' → (∀ i, i < n → c' p i = v) → Q none c') : WP lay 159 0 [some (.ref p), some (.int v), none, none] [] c Q := by
  simp only [w_J7_fill_53178_0, w_J7_fill_53178_1, w_J7_fill_53178_2, w_J7_fill_53178_3 hp, w_J7_fill_53178_4]
  exact C_fill hp hn n 0 c (by omega) (fun i hi => by omega) kk
/-- a row holds f -/
def RW (c : mS) (p : Nat) (N : Nt) (f : Nat → Nat) : Prop := ∀ v, v < nN N → c p v = nI (f v)
theorem RW_up {p v x : Nat} {f : Nat → Nat} (h : RW c p N f) : RW (mUp c p v (nI x)) p N (fup f v x) := by
  intro w hw
  by_cases e : w = v
  · subst e; rw [mUp_s, fup_s]
  · rw [mUp_j e, fup_n e]; exact h w hw
theorem C_shorten {p l : Nat} {f : Nat → Nat} (hp : mLayH[p]? = some (.inr (.inl 12))) (hp1 : 11 ≤ p) (h : CB c N wt wh) (hl : l < nM N) (hf : RW c p N f) (hb : ∀ v, v < nN N → f v ≤ INF)
    (kk : ∀ (c' : mS) (f' : Nat → Nat) (ch : Bool), but1 p c c' → RW c' p N f' → ((ch = false ∧ f' = f ∧ f (nB N l) ≤ f (nA N l) + nC N l ∧ f (nA N l) ≤ f (nB N l) + nC N l) ∨ (ch = true ∧ f' = fup f (nB N l) (f (nA N l) + nC N l) ∧ f (nA N l) + nC N l < f (nB N l)) ∨ (ch = true ∧ f' = fup f (nA N l) (f (nB N l) + nC N l) ∧ f (nB N l) + nC N l < f (nA N l) ∧ f (nB N l) ≤ f (nA N l) + nC N l)) → Q (some (bi ch)) c') : WP mLayH 32 0 [some (.ref 1), some (.ref p), some (.int (nI l)), none, none] [] c Q := by
  have h12 := h.1.2.1
  have h24 := h.1.2.2.1
  have hinf : INF = 1000000 := rfl
  obtain ⟨e1, e2, e3, -⟩ := h.2.2.2.1 l hl
  obtain ⟨g1, g2, g3, g4, g5, -⟩ := h.1.2.2.2.1 l hl
  have fa := hf _ g1
  have fb := hf _ g2
  have ba := hb _ g1
  have bb := hb _ g2
  simp only [w_X2_shorten_0, w_X2_shorten_1, w_X2_shorten_4, w_X2_shorten_5, w_X2_shorten_6, w_X2_shorten_7, w_X2_shorten_8, w_X2_shorten_11, w_X2_shorten_12, w_X2_shorten_13, w_X2_shorten_15, w_X2_shorten_16, w_X2_shorten_18, w_X2_shorten_19, w_X2_shorten_22, w_X2_shorten_23, w_X2_shorten_24, w_X2_shorten_25, w_X2_shorten_26, w_X2_shorten_29, w_X2_shorten_32, w_X2_shorten_33, w_X2_shorten_35, w_X2_shorten_36, w_X2_shorten_38, w_X2_shorten_39, w_X2_shorten_42, w_X2_shorten_43, w_X2_shorten_44, w_X2_shorten_46, w_X2_shorten_47, w_X2_shorten_48, w_X2_shorten_49, w_X2_shorten_52, w_X2_shorten_53, w_X2_shorten_56, w_X2_shorten_57, w_X2_shorten_58, w_X2_shorten_59, w_X2_shorten_60, w_X2_shorten_62, w_X2_shorten_65, w_X2_shorten_66, w_X2_shorten_67, w_X2_shorten_68, w_X2_shorten_71, w_X2_shorten_72, w_X2_shorten_75, w_X2_shorten_76, w_X2_shorten_77, w_X2_shorten_79, w_X2_shorten_80, w_X2_shorten_81, w_X2_shorten_82, w_X2_shorten_17 hp, w_X2_shorten_28 hp, w_X2_shorten_37 hp, w_X2_shorten_45 hp, w_X2_shorten_51 hp, w_X2_shorten_61 hp, w_X2_shorten_70 hp, w_X2_shorten_78 hp, true_or, or_true, true_and]
  simp (disch := omega) only [kIn, kCl, e1, e2, e3, fa, fb, nI_add, kLe, show l < 24 by omega, show nA N l < 12 by omega, show nB N l < 12 by omega, true_and]
  have st : ∀ (v x : Nat), v < nN N → Q (some (bi true)) (mUp c p v (nI x)) → Q (some 1) (mUp c p v (nI x)) := fun v x _ q => q
  split
  · rename_i c1
    split
    · rename_i c2
      exact kk c f false but1_rf hf (Or.inl ⟨rfl, rfl, c1, c2⟩)
    · rename_i c2
      exact kk _ _ true but1_up (RW_up hf) (Or.inr (Or.inr ⟨rfl, rfl, by omega, c1⟩))
  · rename_i c1
    exact kk _ _ true but1_up (RW_up hf) (Or.inr (Or.inl ⟨rfl, rfl, by omega⟩))
end CL1
/-! a pass -/
section PASS
variable {N : Nt} {but : Option Nat} {d : Nat} {f0 f : Nat → Nat}
def PJ (N : Nt) (but : Option Nat) (d : Nat) (f0 f : Nat → Nat) (l : Nat) (ch : Bool) : Prop :=
  dInv N but d f ∧ (∀ v, v < nN N → f v ≤ f0 v) ∧ (∀ l' v u, l' < l → some l' ≠ but → jn N l' v u = true → f v ≤ f0 u + nC N l') ∧ (ch = false → f = f0)
theorem PJ_0 (h : dInv N but d f) : PJ N but d f f 0 false := ⟨h, fun _ _ => Nat.le_refl _, fun l' _ _ h _ _ => absurd h (Nat.not_lt_zero l'), fun _ => rfl⟩
theorem PJ_skip {l : Nat} {ch : Bool} (h : PJ N but d f0 f l ch) (hb : some l = but) : PJ N but d f0 f (l + 1) ch := by
  refine ⟨h.1, h.2.1, fun l' v u h1 h2 h3 => h.2.2.1 l' v u ?_ h2 h3, h.2.2.2⟩
  rcases Nat.lt_or_ge l' l with q | q
  · exact q
  · exact absurd hb (by rw [show l = l' by omega]; exact h2)
theorem PJ_step {l : Nat} {ch : Bool} (hN : Nok N) (hl : l < nM N) (h : PJ N but d f0 f l ch) (h1 : f (nB N l) ≤ f (nA N l) + nC N l) (h2 : f (nA N l) ≤ f (nB N l) + nC N l) : PJ N but d f0 f (l + 1) ch := by
  obtain ⟨g1, g2, -⟩ := hN.2.2.2.1 l hl
  refine ⟨h.1, h.2.1, fun l' v u k1 k2 k3 => ?_, h.2.2.2⟩
  rcases Nat.lt_or_ge l' l with q | q
  · exact h.2.2.1 l' v u q k2 k3
  · have e : l' = l := by omega
    subst e
    have a1 := h.2.1 _ g1
    have a2 := h.2.1 _ g2
    rcases jn_iff.mp k3 with ⟨rfl, rfl⟩ | ⟨rfl, rfl⟩ <;> omega
theorem PJ_up {l v u : Nat} {ch : Bool} (hN : Nok N) (hd : d < nN N) (hl : l < nM N) (hb : some l ≠ but) (h : PJ N but d f0 f l ch) (hj : jn N l v u = true) (hlt : f u + nC N l < f v) : PJ N but d f0 (fup f v (f u + nC N l)) (l + 1) true := by
  obtain ⟨hv, hu, hne, hc, -⟩ := jn_lt hN hl hj
  have le : ∀ w, fup f v (f u + nC N l) w ≤ f w := by
    intro w
    by_cases e : w = v
    · subst e; rw [fup_s]; omega
    · rw [fup_n e]; exact Nat.le_refl _
  refine ⟨d_relax hN hd h.1 hl hb hj hlt, fun w hw => Nat.le_trans (le w) (h.2.1 w hw), fun l' w x k1 k2 k3 => ?_, fun q => by cases q⟩
  rcases Nat.lt_or_ge l' l with q | q
  · exact Nat.le_trans (le w) (h.2.2.1 l' w x q k2 k3)
  · have e : l' = l := by omega
    subst e
    have a1 := h.2.1 v hv
    have a2 := h.2.1 u hu
    have hwx : (w = v ∧ x = u) ∨ (w = u ∧ x = v) := by
      rcases jn_iff.mp k3 with ⟨rfl, rfl⟩ | ⟨rfl, rfl⟩ <;> rcases jn_iff.mp hj with ⟨rfl, rfl⟩ | ⟨rfl, rfl⟩ <;> simp
    rcases hwx with ⟨rfl, rfl⟩ | ⟨rfl, rfl⟩
    · rw [fup_s]; omega
    · rw [fup_n (Ne.symm hne)]; omega
theorem gd_lo (hN : Nok N) (hd : d < nN N) (h : dInv N but d f) {v : Nat} (hv : v < nN N) : gd N but d v ≤ f v :=
  d_le hN h (gd_0 hN hd) (fun w hw => gd_inf hN hd hw) (gd_is hN hd).2 _ v hv rfl
/-- how many NODES have their FAR -/
noncomputable def cD (N : Nt) (but : Option Nat) (d : Nat) (f : Nat → Nat) : Nat := cnt (fun v => decide (f v = gd N but d v)) (nN N)
theorem cD_all (h : nN N ≤ cD N but d f) {v : Nat} (hv : v < nN N) : f v = gd N but d v := by
  have := cnt_all (p := fun v => decide (f v = gd N but d v)) (n := nN N) (Nat.le_antisymm cnt_le h) v hv
  simpa using this
theorem cD_1 (hN : Nok N) (hd : d < nN N) (h : dInv N but d f) : 1 ≤ cD N but d f := by
  have : cnt (fun _ => false) (nN N) < cD N but d f := cnt_lt (k := d) rfl (by simp [h.1, gd_0 hN hd]) hd (fun v _ q => by cases q)
  omega
theorem PJ_cl (h : PJ N but d f0 f (nM N) false) : dCl N but f := by
  have e := h.2.2.2 rfl
  subst e
  exact fun l hl hb => ⟨h.2.2.1 l _ _ hl hb (jn_iff.mpr (Or.inl ⟨rfl, rfl⟩)), h.2.2.1 l _ _ hl hb (jn_iff.mpr (Or.inr ⟨rfl, rfl⟩))⟩
theorem PJ_cD {ch : Bool} (hN : Nok N) (hd : d < nN N) (h0 : dInv N but d f0) (h : PJ N but d f0 f (nM N) ch) : cD N but d f0 + 1 ≤ cD N but d f ∨ nN N ≤ cD N but d f := by
  have keep : ∀ v, v < nN N → f0 v = gd N but d v → f v = gd N but d v := fun v hv e => by
    have h1 := gd_lo hN hd h.1 hv
    have h2 := h.2.1 v hv
    omega
  have key : ∀ (k v : Nat), v < nN N → gd N but d v = k → f0 v ≠ gd N but d v → ∃ w, w < nN N ∧ f0 w ≠ gd N but d w ∧ f w = gd N but d w := by
    intro k
    induction k using Nat.strongRecOn with
    | ind k ih =>
      intro v hv hk hne
      have hvd : v ≠ d := fun q => hne (by rw [q, h0.1, gd_0 hN hd])
      have hi : gd N but d v < INF := by
        have a1 := gd_lo hN hd h0 hv
        have a2 := h0.2.1 v hv
        omega
      obtain ⟨l, u, hl, hb, hj, he⟩ := gd_ti hN hd hv hvd hi
      obtain ⟨-, hu, -, hc, -⟩ := jn_lt hN hl hj
      by_cases q : f0 u = gd N but d u
      · have a1 := h.2.2.1 l v u hl hb hj
        have a2 := gd_lo hN hd h.1 hv
        exact ⟨v, hv, hne, by omega⟩
      · exact ih (gd N but d u) (by omega) u hu rfl q
  by_cases hall : ∀ v, v < nN N → f0 v = gd N but d v
  · right
    have : cnt (fun _ => true) (nN N) ≤ cD N but d f := cnt_mono (fun v hv _ => by simpa using keep v hv (hall v hv))
    have e : ∀ n, cnt (fun _ => true) n = n := by
      intro n
      induction n with
      | zero => rfl
      | succ n ih => unfold cnt; rw [ih]; rfl
    rw [e] at this
    exact this
  · left
    have : ∃ v, v < nN N ∧ f0 v ≠ gd N but d v := by
      apply Classical.byContradiction
      intro q
      exact hall (fun v hv => Classical.byContradiction (fun z => q ⟨v, hv, z⟩))
    obtain ⟨v, hv, hne⟩ := this
    obtain ⟨w, hw, h1, h2⟩ := key _ v hv rfl hne
    exact cnt_lt (k := w) (by simpa using h1) (by simpa using h2) hw (fun x hx q => by simp at q ⊢; exact keep x hx q)
end PASS
section CL2
variable {c : mS} {N : Nt} {wt wh : Nat} {Q : Option Int32 → mS → Prop} {p d : Nat} {but : Option Nat}
theorem en_but {l : Nat} (hl : l < 24) (hbl : ∀ q, but = some q → q < 24) : (nI l = en but) ↔ some l = but := by
  cases hbb : but with
  | none => simp [en, kNe (show l < 2 ^ 31 by omega)]
  | some q =>
    have := hbl q hbb
    rw [en_some, kEq (by omega) (by omega)]; simp
theorem meas_l (hp : mLayH[p]? = some (.inr (.inl 12))) (hp1 : 11 ≤ p) (hp2 : p < 44) (hd : d < nN N) (hbl : ∀ q, but = some q → q < 24) {t : Nat} {f0 : Nat → Nat} : ∀ (k l : Nat) (c : mS) (ch : Bool) (f : Nat → Nat), CB c N wt wh → l + k = nM N → RW c p N f → PJ N but d f0 f l ch →
    (∀ (c' : mS) (ch : Bool) (f : Nat → Nat) (l6 : Option Value), CB c' N wt wh → but1 p c c' → RW c' p N f → PJ N but d f0 f (nM N) ch → WP mLayH 31 16 [some (.ref 1), some (.ref p), some (.int (nI d)), some (.int (en but)), some (.int (bi ch)), some (.int (nI (t + 1))), l6] [] c' Q) →
    WP mLayH 31 36 [some (.ref 1), some (.ref p), some (.int (nI d)), some (.int (en but)), some (.int (bi ch)), some (.int (nI t)), some (.int (nI l))] [] c Q := by
  intro k
  induction k with
  | zero =>
    intro l c ch f hC hl hR hJ kk
    have h24 := hC.1.2.2.1
    rw [w_X2_measure_36]
    simp only [w_X2_measure_0, w_X2_measure_1, w_X2_measure_3, w_X2_measure_6, w_X2_measure_7, w_X2_measure_8, w_X2_measure_10, w_X2_measure_11, w_X2_measure_13, w_X2_measure_14, w_X2_measure_18, w_X2_measure_19, w_X2_measure_22, w_X2_measure_25, w_X2_measure_27, w_X2_measure_30, w_X2_measure_31, w_X2_measure_33, w_X2_measure_34, w_X2_measure_38, w_X2_measure_39, w_X2_measure_42, w_X2_measure_45, w_X2_measure_47, w_X2_measure_48, w_X2_measure_51, w_X2_measure_52, w_X2_measure_53, w_X2_measure_55, w_X2_measure_58, w_X2_measure_61, w_X2_measure_62, w_X2_measure_64, w_X2_measure_67, w_X2_measure_70, w_X2_measure_73, w_X2_measure_76, hC.2.2.1]
    rw [if_pos ((kLe (by omega) (by omega)).mpr (by omega)), nI_1]
    rw [show l = nM N by omega] at hJ ⊢
    exact kk c ch f _ hC but1_rf hR hJ
  | succ k ih =>
    intro l c ch f hC hl hR hJ kk
    have hN := hC.1
    have h24 := hN.2.2.1
    rw [w_X2_measure_36]
    simp only [w_X2_measure_0, w_X2_measure_1, w_X2_measure_3, w_X2_measure_6, w_X2_measure_7, w_X2_measure_8, w_X2_measure_10, w_X2_measure_11, w_X2_measure_13, w_X2_measure_14, w_X2_measure_18, w_X2_measure_19, w_X2_measure_22, w_X2_measure_25, w_X2_measure_27, w_X2_measure_30, w_X2_measure_31, w_X2_measure_33, w_X2_measure_34, w_X2_measure_38, w_X2_measure_39, w_X2_measure_42, w_X2_measure_45, w_X2_measure_47, w_X2_measure_48, w_X2_measure_51, w_X2_measure_52, w_X2_measure_53, w_X2_measure_55, w_X2_measure_58, w_X2_measure_61, w_X2_measure_62, w_X2_measure_64, w_X2_measure_67, w_X2_measure_70, w_X2_measure_73, w_X2_measure_76, hC.2.2.1]
    rw [if_neg (fun q => by rw [kLe (by omega) (by omega)] at q; omega)]
    have nxt : ∀ (c1 : mS) (ch1 : Bool) (f1 : Nat → Nat), but1 p c c1 → RW c1 p N f1 → PJ N but d f0 f1 (l + 1) ch1 → WP mLayH 31 36 [some (.ref 1), some (.ref p), some (.int (nI d)), some (.int (en but)), some (.int (bi ch1)), some (.int (nI t)), some (.int (nI (l + 1)))] [] c1 Q :=
      fun c1 ch1 f1 a1 a2 a3 => ih (l + 1) c1 ch1 f1 (CB_but hC a1 hp1 hp2) (by omega) a2 a3 (fun c2 ch2 f2 l6 b1 b2 b3 b4 => kk c2 ch2 f2 l6 b1 (but1_tr a1 b2) b3 b4)
    by_cases hb : some l = but
    · rw [if_pos ((en_but (by omega) hbl).mpr hb), nI_1]
      exact nxt c ch f but1_rf hR (PJ_skip hJ hb)
    · rw [if_neg (fun q => hb ((en_but (by omega) hbl).mp q))]
      refine C_shorten hp hp1 hC (by omega) hR (fun v hv => hJ.1.2.1 v hv) (fun c1 f1 ch1 a1 a2 a3 => ?_)
      rw [mKI_some, nI_1]
      have jA : jn N l (nA N l) (nB N l) = true := jn_iff.mpr (Or.inl ⟨rfl, rfl⟩)
      have jB : jn N l (nB N l) (nA N l) = true := jn_iff.mpr (Or.inr ⟨rfl, rfl⟩)
      rcases a3 with ⟨rfl, rfl, q1, q2⟩ | ⟨rfl, rfl, q1⟩ | ⟨rfl, rfl, q1, -⟩
      · rw [if_pos (show bi false = 0 from rfl)]
        exact nxt c1 ch f1 a1 a2 (PJ_step hN (by omega) hJ q1 q2)
      · rw [if_neg (by decide)]
        exact nxt c1 true _ a1 a2 (PJ_up hN hd (by omega) hb hJ jB q1)
      · rw [if_neg (by decide)]
        exact nxt c1 true _ a1 a2 (PJ_up hN hd (by omega) hb hJ jA q1)
theorem meas_t (hp : mLayH[p]? = some (.inr (.inl 12))) (hp1 : 11 ≤ p) (hp2 : p < 44) (hd : d < nN N) (hbl : ∀ q, but = some q → q < 24) : ∀ (k t : Nat) (c : mS) (ch : Bool) (f : Nat → Nat) (l6 : Option Value), CB c N wt wh → t + k = nN N → RW c p N f → dInv N but d f → ((ch = true ∧ (t + 1 ≤ cD N but d f ∨ nN N ≤ cD N but d f)) ∨ (ch = false ∧ dCl N but f)) →
    (∀ c' : mS, but1 p c c' → RW c' p N (gd N but d) → Q none c') →
    WP mLayH 31 16 [some (.ref 1), some (.ref p), some (.int (nI d)), some (.int (en but)), some (.int (bi ch)), some (.int (nI t)), l6] [] c Q := by
  intro k
  induction k with
  | zero =>
    intro t c ch f l6 hC ht hR hI hch kk
    have hN := hC.1
    have h12 := hN.2.1
    rw [w_X2_measure_16]
    simp only [w_X2_measure_0, w_X2_measure_1, w_X2_measure_3, w_X2_measure_6, w_X2_measure_7, w_X2_measure_8, w_X2_measure_10, w_X2_measure_11, w_X2_measure_13, w_X2_measure_14, w_X2_measure_18, w_X2_measure_19, w_X2_measure_22, w_X2_measure_25, w_X2_measure_27, w_X2_measure_30, w_X2_measure_31, w_X2_measure_33, w_X2_measure_34, w_X2_measure_38, w_X2_measure_39, w_X2_measure_42, w_X2_measure_45, w_X2_measure_47, w_X2_measure_48, w_X2_measure_51, w_X2_measure_52, w_X2_measure_53, w_X2_measure_55, w_X2_measure_58, w_X2_measure_61, w_X2_measure_62, w_X2_measure_64, w_X2_measure_67, w_X2_measure_70, w_X2_measure_73, w_X2_measure_76, hC.2.1]
    rw [if_pos ((kLe (by omega) (by omega)).mpr (by omega))]
    refine kk c but1_rf (fun v hv => ?_)
    rw [hR v hv]
    rcases hch with ⟨-, h⟩ | ⟨-, h⟩
    · rw [cD_all (show nN N ≤ cD N but d f by omega) hv]
    · rw [gd_eq hN hd ⟨hI, h⟩ hv]
  | succ k ih =>
    intro t c ch f l6 hC ht hR hI hch kk
    have hN := hC.1
    have h12 := hN.2.1
    rw [w_X2_measure_16]
    simp only [w_X2_measure_0, w_X2_measure_1, w_X2_measure_3, w_X2_measure_6, w_X2_measure_7, w_X2_measure_8, w_X2_measure_10, w_X2_measure_11, w_X2_measure_13, w_X2_measure_14, w_X2_measure_18, w_X2_measure_19, w_X2_measure_22, w_X2_measure_25, w_X2_measure_27, w_X2_measure_30, w_X2_measure_31, w_X2_measure_33, w_X2_measure_34, w_X2_measure_38, w_X2_measure_39, w_X2_measure_42, w_X2_measure_45, w_X2_measure_47, w_X2_measure_48, w_X2_measure_51, w_X2_measure_52, w_X2_measure_53, w_X2_measure_55, w_X2_measure_58, w_X2_measure_61, w_X2_measure_62, w_X2_measure_64, w_X2_measure_67, w_X2_measure_70, w_X2_measure_73, w_X2_measure_76, hC.2.1]
    rw [if_neg (fun q => by rw [kLe (by omega) (by omega)] at q; omega)]
    rcases hch with ⟨rfl, h⟩ | ⟨rfl, h⟩
    · rw [if_neg (by decide)]
      refine meas_l hp hp1 hp2 hd hbl (f0 := f) (nM N) 0 c false f hC (by omega) hR (PJ_0 hI) (fun c1 ch1 f1 l6 a1 a2 a3 a4 => ?_)
      refine ih (t + 1) c1 ch1 f1 l6 a1 (by omega) a3 a4.1 ?_ (fun c2 b1 b2 => kk c2 (but1_tr a2 b1) b2)
      cases ch1 with
      | false => exact Or.inr ⟨rfl, PJ_cl a4⟩
      | true =>
        have h1 := PJ_cD hN hd hI a4
        have h2 : cD N but d f ≤ nN N := cnt_le
        exact Or.inl ⟨rfl, by omega⟩
    · rw [if_pos (show bi false = 0 from rfl)]
      refine kk c but1_rf (fun v hv => ?_)
      rw [hR v hv, gd_eq hN hd ⟨hI, h⟩ hv]
/-- measure: FAR of all to d, without a LINK -/
theorem C_measure (hp : mLayH[p]? = some (.inr (.inl 12))) (hp1 : 11 ≤ p) (hp2 : p < 44) (h : CB c N wt wh) (hd : d < nN N) (hbl : ∀ q, but = some q → q < 24) (kk : ∀ c' : mS, but1 p c c' → RW c' p N (gd N but d) → Q none c') : WP mLayH 31 0 [some (.ref 1), some (.ref p), some (.int (nI d)), some (.int (en but)), none, none, none] [] c Q := by
  have h12 := h.1.2.1
  simp only [w_X2_measure_0, w_X2_measure_1, w_X2_measure_3, w_X2_measure_6, w_X2_measure_7, w_X2_measure_8, w_X2_measure_10, w_X2_measure_11, w_X2_measure_13, w_X2_measure_14, w_X2_measure_18, w_X2_measure_19, w_X2_measure_22, w_X2_measure_25, w_X2_measure_27, w_X2_measure_30, w_X2_measure_31, w_X2_measure_33, w_X2_measure_34, w_X2_measure_38, w_X2_measure_39, w_X2_measure_42, w_X2_measure_45, w_X2_measure_47, w_X2_measure_48, w_X2_measure_51, w_X2_measure_52, w_X2_measure_53, w_X2_measure_55, w_X2_measure_58, w_X2_measure_61, w_X2_measure_62, w_X2_measure_64, w_X2_measure_67, w_X2_measure_70, w_X2_measure_73, w_X2_measure_76, w_X2_measure_9 hp]
  refine C_fill0 hp (by decide) (fun c1 a1 a2 => ?_)
  rw [mKV_none, kIn (by omega), kCl (by omega)]
  refine ⟨by omega, ?_⟩
  have a3 : but1 p c (mUp c1 p d 0) := but1_tr a1 but1_up
  refine meas_t hp hp1 hp2 hd hbl (nN N) 0 _ true (fun v => if v = d then 0 else INF) none (CB_but h a3 hp1 hp2) (by omega) (fun v hv => ?_) d_start (Or.inl ⟨rfl, Or.inl (cD_1 h.1 hd d_start)⟩) (fun c2 b1 b2 => kk c2 (but1_tr a3 b1) b2)
  by_cases e : v = d
  · subst e; rw [mUp_s]; dsimp only; rw [if_pos rfl]; rfl
  · rw [mUp_j e, a2 v (by omega)]; dsimp only; rw [if_neg e]; rfl
end CL2
