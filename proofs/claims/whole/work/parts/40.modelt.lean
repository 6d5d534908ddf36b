/-! the reference's public methods, fifth part -/
def maxN (f : Nat → Nat) : Nat → Nat
  | 0 => 0
  | n + 1 => if maxN f n < f n then f n else maxN f n
theorem maxN_le {f : Nat → Nat} {B : Nat} : ∀ {n : Nat}, (∀ k, k < n → f k ≤ B) → maxN f n ≤ B
  | 0, _ => Nat.zero_le _
  | n + 1, h => by unfold maxN; split; exact h n (by omega); exact maxN_le (fun k hk => h k (by omega))
/-- CENTRE: the best so far, and how far its farthest is -/
noncomputable def cenS (N : Nt) : Nat → Option Nat × Nat
  | 0 => (none, INF)
  | x + 1 => if maxN (fun y => fr N x y) (nN N) < (cenS N x).2 then (some x, maxN (fun y => fr N x y) (nN N)) else cenS N x
noncomputable def qCentre (N : Nt) : Int32 := en (cenS N (nN N)).1
theorem cenS_le {N : Nt} : ∀ x, (cenS N x).2 ≤ INF
  | 0 => Nat.le_refl _
  | x + 1 => by unfold cenS; have := cenS_le (N := N) x; split <;> first | assumption | (dsimp only; omega)
/-- the greatest FAR without one LINK -/
noncomputable def spS (N : Nt) (x y : Nat) : Nat → Nat
  | 0 => fr N x y
  | l + 1 => if spS N x y l < gd N (some l) y x then gd N (some l) y x else spS N x y l
noncomputable def qSpare (N : Nt) (a b : Int32) : Int32 := match two N a b with
  | some (x, y) => if x = y then -1 else if spS N x y (nM N) < INF then nI (spS N x y (nM N) - fr N x y) else -1
  | none => -1
/-- one step of those who know it, or not -/
noncomputable def rdN (N : Nt) (l dd : Nat) (set : Int32) (x : Nat) : Option Nat := if bt set x then nx N (some l) dd x else nx N none dd x
def itF (f : Nat → Option Nat) : Nat → Nat → Option Nat
  | 0, x => some x
  | k + 1, x => match f x with
    | none => none
    | some y => itF f k y
noncomputable def qRound (N : Nt) (k a c : Int32) : Int32 := match ix (nM N) k with
  | some l => (match ix (nN N) a with
    | some y => mkS (fun v => (itF (rdN N l y c) 12 v).isSome) (nN N)
    | none => 0)
  | none => 0
noncomputable def qCovered (N : Nt) (a : Int32) : Int32 := match ix 8 a with
  | some w => nI (sumN (fun s => cnt (fun dd => cvP N w s dd) (nN N)) (nN N))
  | none => -1
/-- LINKS that lead out of a set -/
def crs (N : Nt) (set : Nat) : Nat := cnt (fun l => bt (nI set) (nA N l) != bt (nI set) (nB N l)) (nM N)
def mnC (N : Nt) (x y : Nat) : Nat → Nat
  | 0 => 24
  | s + 1 => if bt (nI s) x = true ∧ bt (nI s) y = false ∧ crs N s < mnC N x y s then crs N s else mnC N x y s
def qCut (N : Nt) (a b : Int32) : Int32 := match two N a b with
  | some (x, y) => if x = y then -1 else nI (mnC N x y (2 ^ nN N))
  | none => -1
theorem mnC_le {N : Nt} {x y : Nat} : ∀ s, mnC N x y s ≤ 24
  | 0 => Nat.le_refl _
  | s + 1 => by unfold mnC; have := mnC_le (N := N) (x := x) (y := y) s; split <;> omega
theorem two_pair {N : Nt} {a b : Int32} (hN : Nok N) : ((ix (nN N) a).isSome && (ix (nN N) b).isSome && decide (¬ a = b)) = (match two N a b with
    | some (x, y) => decide (¬ x = y)
    | none => false) := by
  have h12 := hN.2.1
  unfold two
  cases h1 : ix (nN N) a with
  | none => rfl
  | some x =>
    cases h2 : ix (nN N) b with
    | none => rfl
    | some y =>
      obtain ⟨rfl, hx⟩ := ix_some (by omega) h1
      obtain ⟨rfl, hy⟩ := ix_some (by omega) h2
      simp only [Option.isSome_some, Bool.true_and, kEq (show x < 2 ^ 31 by omega) (show y < 2 ^ 31 by omega)]
section MOT
variable {d : mS} {N : Nt} {wt wh : Nat} {Q : Option Int32 → mS → Prop} {a b c : Int32}
theorem F_cen_y {x : Nat} {bs lst : Int32} (h : MF d N wt wh) (hx : x < nN N) (kk : WP mLayM 156 30 [some (.ref 0), some (.int bs), some (.int lst), some (.int (nI x)), some (.int (nI (maxN (fun y => fr N x y) (nN N)))), some (.int (nI (nN N)))] [] d Q) : ∀ (k j : Nat), j + k = nN N → WP mLayM 156 30 [some (.ref 0), some (.int bs), some (.int lst), some (.int (nI x)), some (.int (nI (maxN (fun y => fr N x y) j))), some (.int (nI j))] [] d Q := by
  have hN := h.1.1
  have h12 := hN.2.1
  have hi : INF = 1000000 := rfl
  intro k
  induction k with
  | zero => intro j hj; rw [show j = nN N by omega]; exact kk
  | succ k ih =>
    intro j hj
    have hj2 : j < nN N := by omega
    have ih := ih (j + 1) (by omega)
    have i1 := fr_inf hN hx hj2
    have i2 := maxN_le (f := fun y => fr N x y) (n := j) (fun k hk => fr_inf hN hx (show k < nN N by omega))
    rw [w_X7_centre_30]
    simp only [w_X7_centre_0, w_X7_centre_1, w_X7_centre_2, w_X7_centre_5, w_X7_centre_6, w_X7_centre_9, w_X7_centre_10, w_X7_centre_11, w_X7_centre_13, w_X7_centre_14, w_X7_centre_15, w_X7_centre_17, w_X7_centre_18, w_X7_centre_21, w_X7_centre_24, w_X7_centre_25, w_X7_centre_27, w_X7_centre_28, w_X7_centre_32, w_X7_centre_33, w_X7_centre_36, w_X7_centre_39, w_X7_centre_40, w_X7_centre_41, w_X7_centre_43, w_X7_centre_46, w_X7_centre_48, w_X7_centre_51, w_X7_centre_52, w_X7_centre_53, w_X7_centre_55, w_X7_centre_58, w_X7_centre_61, w_X7_centre_63, w_X7_centre_65, w_X7_centre_68, w_X7_centre_71, w_X7_centre_73, w_X7_centre_74, w_X7_centre_77, w_X7_centre_78, w_X7_centre_81, w_X7_centre_82, w_X7_centre_83, w_X7_centre_85, w_X7_centre_86, w_X7_centre_89, w_X7_centre_91, w_X7_centre_94, w_X7_centre_95, w_X7_centre_96, w_X7_centre_99, w_X7_centre_102, w_X7_centre_103, h.1.2.1]
    rw [if_neg (fun q => by rw [kLe (by omega) (by omega)] at q; omega)]
    rw [F_far h hx hj2, mKI_some]
    simp (disch := omega) only [kLe, nI_1, F_far h hx hj2, mKI_some]
    have hm : maxN (fun y => fr N x y) (j + 1) = (if maxN (fun y => fr N x y) j < fr N x j then fr N x j else maxN (fun y => fr N x y) j) := rfl
    rw [hm] at ih
    by_cases cc : fr N x j ≤ maxN (fun y => fr N x y) j
    · rw [if_pos cc]; rw [if_neg (by omega)] at ih; exact ih
    · rw [if_neg cc]; rw [if_pos (by omega)] at ih; exact ih
theorem F_cen_x (h : MF d N wt wh) (kk : Q (some (qCentre N)) d) : ∀ (k j : Nat) (l4 l5 : Option Value), j + k = nN N → WP mLayM 156 16 [some (.ref 0), some (.int (en (cenS N j).1)), some (.int (nI (cenS N j).2)), some (.int (nI j)), l4, l5] [] d Q := by
  have hN := h.1.1
  have h12 := hN.2.1
  have hi : INF = 1000000 := rfl
  intro k
  induction k with
  | zero =>
    intro j l4 l5 hj
    rw [w_X7_centre_16]
    simp only [w_X7_centre_0, w_X7_centre_1, w_X7_centre_2, w_X7_centre_5, w_X7_centre_6, w_X7_centre_9, w_X7_centre_10, w_X7_centre_11, w_X7_centre_13, w_X7_centre_14, w_X7_centre_15, w_X7_centre_17, w_X7_centre_18, w_X7_centre_21, w_X7_centre_24, w_X7_centre_25, w_X7_centre_27, w_X7_centre_28, w_X7_centre_32, w_X7_centre_33, w_X7_centre_36, w_X7_centre_39, w_X7_centre_40, w_X7_centre_41, w_X7_centre_43, w_X7_centre_46, w_X7_centre_48, w_X7_centre_51, w_X7_centre_52, w_X7_centre_53, w_X7_centre_55, w_X7_centre_58, w_X7_centre_61, w_X7_centre_63, w_X7_centre_65, w_X7_centre_68, w_X7_centre_71, w_X7_centre_73, w_X7_centre_74, w_X7_centre_77, w_X7_centre_78, w_X7_centre_81, w_X7_centre_82, w_X7_centre_83, w_X7_centre_85, w_X7_centre_86, w_X7_centre_89, w_X7_centre_91, w_X7_centre_94, w_X7_centre_95, w_X7_centre_96, w_X7_centre_99, w_X7_centre_102, w_X7_centre_103, h.1.2.1]
    rw [if_pos ((kLe (by omega) (by omega)).mpr (by omega)), show j = nN N by omega]
    exact kk
  | succ k ih =>
    intro j l4 l5 hj
    have ih := fun l4 l5 => ih (j + 1) l4 l5 (by omega)
    rw [w_X7_centre_16]
    simp only [w_X7_centre_0, w_X7_centre_1, w_X7_centre_2, w_X7_centre_5, w_X7_centre_6, w_X7_centre_9, w_X7_centre_10, w_X7_centre_11, w_X7_centre_13, w_X7_centre_14, w_X7_centre_15, w_X7_centre_17, w_X7_centre_18, w_X7_centre_21, w_X7_centre_24, w_X7_centre_25, w_X7_centre_27, w_X7_centre_28, w_X7_centre_32, w_X7_centre_33, w_X7_centre_36, w_X7_centre_39, w_X7_centre_40, w_X7_centre_41, w_X7_centre_43, w_X7_centre_46, w_X7_centre_48, w_X7_centre_51, w_X7_centre_52, w_X7_centre_53, w_X7_centre_55, w_X7_centre_58, w_X7_centre_61, w_X7_centre_63, w_X7_centre_65, w_X7_centre_68, w_X7_centre_71, w_X7_centre_73, w_X7_centre_74, w_X7_centre_77, w_X7_centre_78, w_X7_centre_81, w_X7_centre_82, w_X7_centre_83, w_X7_centre_85, w_X7_centre_86, w_X7_centre_89, w_X7_centre_91, w_X7_centre_94, w_X7_centre_95, w_X7_centre_96, w_X7_centre_99, w_X7_centre_102, w_X7_centre_103, h.1.2.1]
    rw [if_neg (fun q => by rw [kLe (by omega) (by omega)] at q; omega)]
    refine F_cen_y h (show j < nN N by omega) ?_ (nN N) 0 (by omega)
    have i1 := cenS_le (N := N) j
    have i2 := maxN_le (f := fun y => fr N j y) (n := nN N) (fun k hk => fr_inf hN (show j < nN N by omega) hk)
    rw [w_X7_centre_30]
    simp only [w_X7_centre_0, w_X7_centre_1, w_X7_centre_2, w_X7_centre_5, w_X7_centre_6, w_X7_centre_9, w_X7_centre_10, w_X7_centre_11, w_X7_centre_13, w_X7_centre_14, w_X7_centre_15, w_X7_centre_17, w_X7_centre_18, w_X7_centre_21, w_X7_centre_24, w_X7_centre_25, w_X7_centre_27, w_X7_centre_28, w_X7_centre_32, w_X7_centre_33, w_X7_centre_36, w_X7_centre_39, w_X7_centre_40, w_X7_centre_41, w_X7_centre_43, w_X7_centre_46, w_X7_centre_48, w_X7_centre_51, w_X7_centre_52, w_X7_centre_53, w_X7_centre_55, w_X7_centre_58, w_X7_centre_61, w_X7_centre_63, w_X7_centre_65, w_X7_centre_68, w_X7_centre_71, w_X7_centre_73, w_X7_centre_74, w_X7_centre_77, w_X7_centre_78, w_X7_centre_81, w_X7_centre_82, w_X7_centre_83, w_X7_centre_85, w_X7_centre_86, w_X7_centre_89, w_X7_centre_91, w_X7_centre_94, w_X7_centre_95, w_X7_centre_96, w_X7_centre_99, w_X7_centre_102, w_X7_centre_103, h.1.2.1]
    rw [if_pos ((kLe (by omega) (by omega)).mpr (by omega))]
    simp (disch := omega) only [kLe, nI_1]
    have hs : cenS N (j + 1) = (if maxN (fun y => fr N j y) (nN N) < (cenS N j).2 then (some j, maxN (fun y => fr N j y) (nN N)) else cenS N j) := rfl
    rw [hs] at ih
    by_cases cc : (cenS N j).2 ≤ maxN (fun y => fr N j y) (nN N)
    · rw [if_pos cc, if_pos cc]; rw [if_neg (by omega)] at ih; exact ih _ _
    · rw [if_neg cc, if_neg cc]; rw [if_pos (by omega)] at ih; exact ih _ _
theorem P_centre (hM : MI d N wt wh) (kk : ∀ d' : mS, MI d' N wt wh → Q (some (qCentre N)) d') : WP mLayM 156 0 [some (.ref 0), none, none, none, none, none] [] d Q := by
  simp only [w_X7_centre_0, w_X7_centre_1, w_X7_centre_2, w_X7_centre_5, w_X7_centre_6, w_X7_centre_9, w_X7_centre_10, w_X7_centre_11, w_X7_centre_13, w_X7_centre_14, w_X7_centre_15, w_X7_centre_17, w_X7_centre_18, w_X7_centre_21, w_X7_centre_24, w_X7_centre_25, w_X7_centre_27, w_X7_centre_28, w_X7_centre_32, w_X7_centre_33, w_X7_centre_36, w_X7_centre_39, w_X7_centre_40, w_X7_centre_41, w_X7_centre_43, w_X7_centre_46, w_X7_centre_48, w_X7_centre_51, w_X7_centre_52, w_X7_centre_53, w_X7_centre_55, w_X7_centre_58, w_X7_centre_61, w_X7_centre_63, w_X7_centre_65, w_X7_centre_68, w_X7_centre_71, w_X7_centre_73, w_X7_centre_74, w_X7_centre_77, w_X7_centre_78, w_X7_centre_81, w_X7_centre_82, w_X7_centre_83, w_X7_centre_85, w_X7_centre_86, w_X7_centre_89, w_X7_centre_91, w_X7_centre_94, w_X7_centre_95, w_X7_centre_96, w_X7_centre_99, w_X7_centre_102, w_X7_centre_103]
  refine M_lays (MI_0 hM) (fun d1 h1 h2 h3 => ?_)
  rw [mKV_none]
  exact F_cen_x ⟨h1, h3⟩ (kk _ h1) (nN N) 0 none none (by omega)
theorem spS_b {x y : Nat} (hN : Nok N) (hx : x < nN N) (hy : y < nN N) : ∀ l, spS N x y l ≤ INF ∧ fr N x y ≤ spS N x y l
  | 0 => ⟨fr_inf hN hx hy, Nat.le_refl _⟩
  | l + 1 => by
    have h1 := spS_b hN hx hy l
    have h2 := gd_inf (but := some l) hN hy hx
    unfold spS
    split <;> omega
theorem F_spare_loop {x y : Nat} (hx : x < nN N) (hy : y < nN N) : ∀ (k j : Nat) (d : mS), MF d N wt wh → j + k = nM N → (∀ d' : mS, MF d' N wt wh → Q (some (if spS N x y (nM N) < INF then nI (spS N x y (nM N) - fr N x y) else -1)) d') → WP mLayM 155 30 [some (.ref 0), some (.int (nI x)), some (.int (nI y)), some (.int (nI (spS N x y j))), some (.int (nI j))] [] d Q := by
  intro k
  induction k with
  | zero =>
    intro j d h hj kk
    have hN := h.1.1
    have h24 := hN.2.2.1
    have hi : INF = 1000000 := rfl
    obtain ⟨s1, s2⟩ := spS_b hN hx hy j
    rw [w_X7_spare_30]
    simp only [w_X7_spare_0, w_X7_spare_1, w_X7_spare_2, w_X7_spare_5, w_X7_spare_6, w_X7_spare_7, w_X7_spare_8, w_X7_spare_11, w_X7_spare_14, w_X7_spare_15, w_X7_spare_16, w_X7_spare_17, w_X7_spare_20, w_X7_spare_21, w_X7_spare_22, w_X7_spare_23, w_X7_spare_26, w_X7_spare_27, w_X7_spare_28, w_X7_spare_32, w_X7_spare_33, w_X7_spare_36, w_X7_spare_39, w_X7_spare_40, w_X7_spare_43, w_X7_spare_45, w_X7_spare_48, w_X7_spare_49, w_X7_spare_52, w_X7_spare_55, w_X7_spare_56, w_X7_spare_57, w_X7_spare_60, w_X7_spare_61, w_X7_spare_62, w_X7_spare_65, w_X7_spare_66, w_X7_spare_69, w_X7_spare_72, w_X7_spare_73, w_X7_spare_74, w_X7_spare_77, w_X7_spare_78, w_X7_spare_81, w_X7_spare_82, w_X7_spare_83, w_X7_spare_86, w_X7_spare_89, w_X7_spare_90, w_X7_spare_92, w_X7_spare_95, w_X7_spare_96, w_X7_spare_97, w_X7_spare_98, w_X7_spare_99, w_X7_spare_102, w_X7_spare_103, w_X7_spare_106, w_X7_spare_107, h.1.2.2.1]
    rw [if_pos ((kLe (by omega) (by omega)).mpr (by omega))]
    simp (disch := omega) only [kinf, kLe]
    rw [show j = nM N by omega] at s1 s2 ⊢
    have kk := kk d h
    by_cases cc : INF ≤ spS N x y (nM N)
    · rw [if_pos cc]; rw [if_neg (by omega)] at kk; exact kk
    · rw [if_neg cc, F_far h hx hy, mKI_some, pk_sub s2]; rw [if_pos (by omega)] at kk; exact kk
  | succ k ih =>
    intro j d h hj kk
    have hN := h.1.1
    have h12 := hN.2.1
    have h24 := hN.2.2.1
    have hi : INF = 1000000 := rfl
    obtain ⟨s1, s2⟩ := spS_b hN hx hy j
    have i1 := gd_inf (but := some j) hN hy hx
    rw [w_X7_spare_30]
    simp only [w_X7_spare_0, w_X7_spare_1, w_X7_spare_2, w_X7_spare_5, w_X7_spare_6, w_X7_spare_7, w_X7_spare_8, w_X7_spare_11, w_X7_spare_14, w_X7_spare_15, w_X7_spare_16, w_X7_spare_17, w_X7_spare_20, w_X7_spare_21, w_X7_spare_22, w_X7_spare_23, w_X7_spare_26, w_X7_spare_27, w_X7_spare_28, w_X7_spare_32, w_X7_spare_33, w_X7_spare_36, w_X7_spare_39, w_X7_spare_40, w_X7_spare_43, w_X7_spare_45, w_X7_spare_48, w_X7_spare_49, w_X7_spare_52, w_X7_spare_55, w_X7_spare_56, w_X7_spare_57, w_X7_spare_60, w_X7_spare_61, w_X7_spare_62, w_X7_spare_65, w_X7_spare_66, w_X7_spare_69, w_X7_spare_72, w_X7_spare_73, w_X7_spare_74, w_X7_spare_77, w_X7_spare_78, w_X7_spare_81, w_X7_spare_82, w_X7_spare_83, w_X7_spare_86, w_X7_spare_89, w_X7_spare_90, w_X7_spare_92, w_X7_spare_95, w_X7_spare_96, w_X7_spare_97, w_X7_spare_98, w_X7_spare_99, w_X7_spare_102, w_X7_spare_103, w_X7_spare_106, w_X7_spare_107, h.1.2.2.1]
    rw [if_neg (fun q => by rw [kLe (by omega) (by omega)] at q; omega)]
    rw [show (144 : Int32) = nI 144 from rfl]
    refine M_laysFar (b := 144) (but := some j) (by omega) (fun q h => by cases h; omega) h.1 (fun d1 h1 h2 h3 => ?_)
    have hF : MF d1 N wt wh := ⟨h1, fun u v hu hv => by rw [h2.2 _ (by omega)]; exact h.2 u v hu hv⟩
    rw [mKV_none, M_at, mKI_some]
    have e1 := h3 x y hx hy
    simp (disch := omega) only [kIn, kCl, e1, M_at, mKI_some, kLe, nI_1, show 144 + 12 * x + y < 288 by omega, true_and]
    have ih := ih (j + 1) d1 hF (by omega) kk
    have hs : spS N x y (j + 1) = (if spS N x y j < gd N (some j) y x then gd N (some j) y x else spS N x y j) := rfl
    rw [hs] at ih
    by_cases cc : gd N (some j) y x ≤ spS N x y j
    · rw [if_pos cc]; rw [if_neg (by omega)] at ih; exact ih
    · rw [if_neg cc]; rw [if_pos (by omega)] at ih; exact ih
theorem P_spare (hM : MI d N wt wh) (kk : ∀ d' : mS, MI d' N wt wh → Q (some (qSpare N a b)) d') : WP mLayM 155 0 [some (.ref 0), some (.int a), some (.int b), none, none] [] d Q := by
  have h12 := hM.1.2.1
  have h0 := MI_0 (v := 0) hM
  simp only [w_X7_spare_0, w_X7_spare_1, w_X7_spare_2, w_X7_spare_5, w_X7_spare_6, w_X7_spare_7, w_X7_spare_8, w_X7_spare_11, w_X7_spare_14, w_X7_spare_15, w_X7_spare_16, w_X7_spare_17, w_X7_spare_20, w_X7_spare_21, w_X7_spare_22, w_X7_spare_23, w_X7_spare_26, w_X7_spare_27, w_X7_spare_28, w_X7_spare_32, w_X7_spare_33, w_X7_spare_36, w_X7_spare_39, w_X7_spare_40, w_X7_spare_43, w_X7_spare_45, w_X7_spare_48, w_X7_spare_49, w_X7_spare_52, w_X7_spare_55, w_X7_spare_56, w_X7_spare_57, w_X7_spare_60, w_X7_spare_61, w_X7_spare_62, w_X7_spare_65, w_X7_spare_66, w_X7_spare_69, w_X7_spare_72, w_X7_spare_73, w_X7_spare_74, w_X7_spare_77, w_X7_spare_78, w_X7_spare_81, w_X7_spare_82, w_X7_spare_83, w_X7_spare_86, w_X7_spare_89, w_X7_spare_90, w_X7_spare_92, w_X7_spare_95, w_X7_spare_96, w_X7_spare_97, w_X7_spare_98, w_X7_spare_99, w_X7_spare_102, w_X7_spare_103, w_X7_spare_106, w_X7_spare_107]
  rw [M_isPair h0, mKI_some, two_pair hM.1]
  unfold qSpare at kk
  cases ht : two N a b with
  | none => rw [ht] at kk; rw [bi_f, if_neg (by decide)]; exact kk _ h0
  | some q =>
    obtain ⟨x, y⟩ := q
    obtain ⟨rfl, rfl, hx, hy⟩ := two_some hM.1 ht
    rw [ht] at kk
    dsimp only at kk ⊢
    by_cases e : x = y
    · rw [if_pos e] at kk; rw [if_neg (fun q => q (by simp [e, bi]))]; exact kk _ h0
    · rw [if_neg e] at kk
      rw [if_pos (by simp [e, bi])]
      refine M_lays h0 (fun d1 h1 h2 h3 => ?_)
      have h : MF d1 N wt wh := ⟨h1, h3⟩
      rw [mKV_none, F_far h hx hy, mKI_some]
      exact F_spare_loop hx hy (nM N) 0 d1 h (by omega) (fun d' h' => kk d' h'.1)
theorem F_holds_loop {l v : Nat} (h : MF d N wt wh) (hl : l < nM N) (hv : v < nN N) (kk : Q (some (en (maxO (fun x => if a = -1 ∨ a = nI x then wtF N l x v else none) (nN N)))) d) : ∀ (k j : Nat) (l6 : Option Value), j + k = nN N → WP mLayM 149 46 [some (.ref 0), some (.int (nI l)), some (.int a), some (.int (nI v)), some (.int (en (maxO (fun x => if a = -1 ∨ a = nI x then wtF N l x v else none) j))), some (.int (nI j)), l6] [] d Q := by
  have hN := h.1.1
  have h12 := hN.2.1
  have wb : ∀ x z, wtF N l x v = some z → z < 12 := by
    intro x z hz
    unfold wtF at hz
    split at hz
    · exact maxO_b (fun k x' => stp_b (N := N) (dd := x) (v := v) (u := k) (x := x')) hz
    · cases hz
  have pb : ∀ x z, (if a = -1 ∨ a = nI x then wtF N l x v else none) = some z → z < 12 := by
    intro x z hz
    split at hz
    · exact wb x z hz
    · cases hz
  intro k
  induction k with
  | zero =>
    intro j l6 hj
    rw [w_X7_holds_46]
    simp only [w_X7_holds_0, w_X7_holds_1, w_X7_holds_2, w_X7_holds_5, w_X7_holds_6, w_X7_holds_9, w_X7_holds_10, w_X7_holds_11, w_X7_holds_14, w_X7_holds_17, w_X7_holds_18, w_X7_holds_19, w_X7_holds_22, w_X7_holds_25, w_X7_holds_26, w_X7_holds_27, w_X7_holds_30, w_X7_holds_31, w_X7_holds_32, w_X7_holds_35, w_X7_holds_38, w_X7_holds_39, w_X7_holds_40, w_X7_holds_41, w_X7_holds_43, w_X7_holds_44, w_X7_holds_48, w_X7_holds_49, w_X7_holds_52, w_X7_holds_55, w_X7_holds_56, w_X7_holds_57, w_X7_holds_60, w_X7_holds_61, w_X7_holds_63, w_X7_holds_66, w_X7_holds_67, w_X7_holds_68, w_X7_holds_70, w_X7_holds_71, w_X7_holds_74, w_X7_holds_77, w_X7_holds_78, w_X7_holds_80, w_X7_holds_82, w_X7_holds_84, w_X7_holds_87, w_X7_holds_89, w_X7_holds_92, w_X7_holds_94, w_X7_holds_96, w_X7_holds_99, w_X7_holds_102, w_X7_holds_104, h.1.2.1]
    rw [if_pos ((kLe (by omega) (by omega)).mpr (by omega)), show j = nN N by omega]
    exact kk
  | succ k ih =>
    intro j l6 hj
    have ih := fun l6 => ih (j + 1) l6 (by omega)
    rw [w_X7_holds_46]
    simp only [w_X7_holds_0, w_X7_holds_1, w_X7_holds_2, w_X7_holds_5, w_X7_holds_6, w_X7_holds_9, w_X7_holds_10, w_X7_holds_11, w_X7_holds_14, w_X7_holds_17, w_X7_holds_18, w_X7_holds_19, w_X7_holds_22, w_X7_holds_25, w_X7_holds_26, w_X7_holds_27, w_X7_holds_30, w_X7_holds_31, w_X7_holds_32, w_X7_holds_35, w_X7_holds_38, w_X7_holds_39, w_X7_holds_40, w_X7_holds_41, w_X7_holds_43, w_X7_holds_44, w_X7_holds_48, w_X7_holds_49, w_X7_holds_52, w_X7_holds_55, w_X7_holds_56, w_X7_holds_57, w_X7_holds_60, w_X7_holds_61, w_X7_holds_63, w_X7_holds_66, w_X7_holds_67, w_X7_holds_68, w_X7_holds_70, w_X7_holds_71, w_X7_holds_74, w_X7_holds_77, w_X7_holds_78, w_X7_holds_80, w_X7_holds_82, w_X7_holds_84, w_X7_holds_87, w_X7_holds_89, w_X7_holds_92, w_X7_holds_94, w_X7_holds_96, w_X7_holds_99, w_X7_holds_102, w_X7_holds_104, h.1.2.1]
    rw [if_neg (fun q => by rw [kLe (by omega) (by omega)] at q; omega)]
    rw [F_wait h hl (show j < nN N by omega) hv, mKI_some]
    simp only [nI_1]
    have hs : maxO (fun x => if a = -1 ∨ a = nI x then wtF N l x v else none) (j + 1) = (match (if a = -1 ∨ a = nI j then wtF N l j v else none) with
      | none => maxO (fun x => if a = -1 ∨ a = nI x then wtF N l x v else none) j
      | some x => match maxO (fun x => if a = -1 ∨ a = nI x then wtF N l x v else none) j with
        | none => some x
        | some y => if y < x then some x else some y) := rfl
    rw [hs] at ih
    have step : ∀ o : Option Nat, o = (if a = -1 ∨ a = nI j then wtF N l j v else none) → (if en o ≤ en (maxO (fun x => if a = -1 ∨ a = nI x then wtF N l x v else none) j) then WP mLayM 149 46 [some (.ref 0), some (.int (nI l)), some (.int a), some (.int (nI v)), some (.int (en (maxO (fun x => if a = -1 ∨ a = nI x then wtF N l x v else none) j))), some (.int (nI (j + 1))), some (.int (en o))] [] d Q else WP mLayM 149 46 [some (.ref 0), some (.int (nI l)), some (.int a), some (.int (nI v)), some (.int (en o)), some (.int (nI (j + 1))), some (.int (en o))] [] d Q) := by
      intro o ho
      rw [← ho] at ih
      cases o with
      | none =>
        dsimp only at ih
        cases hm : maxO (fun x => if a = -1 ∨ a = nI x then wtF N l x v else none) j with
        | none => rw [if_pos (by decide)]; rw [hm] at ih; exact ih _
        | some y =>
          have := maxO_b pb hm
          rw [en_none, en_some, if_pos (Int32.le_of_lt (Int32.lt_of_lt_of_le (show (-1 : Int32) < 0 by decide) (nI_pos' (by omega))))]
          rw [hm] at ih; exact ih _
      | some x =>
        dsimp only at ih
        have hx := pb j x ho.symm
        cases hm : maxO (fun x => if a = -1 ∨ a = nI x then wtF N l x v else none) j with
        | none =>
          rw [en_none, en_some, if_neg (fun q => (kLm (show x < 2 ^ 31 by omega)).mp q)]
          rw [hm] at ih; exact ih _
        | some y =>
          have := maxO_b pb hm
          rw [hm] at ih
          dsimp only at ih
          simp (disch := omega) only [en_some, kLe]
          by_cases cc : x ≤ y
          · rw [if_pos cc]; rw [if_neg (by omega)] at ih; exact ih _
          · rw [if_neg cc]; rw [if_pos (by omega)] at ih; exact ih _
    by_cases c1 : a = -1
    · rw [if_pos c1]
      exact step _ (by rw [if_pos (Or.inl c1)])
    · rw [if_neg c1]
      by_cases c2 : a = nI j
      · rw [if_neg (fun q => q c2)]
        exact step _ (by rw [if_pos (Or.inr c2)])
      · rw [if_pos c2]
        exact step none (by rw [if_neg (fun q => q.elim c1 c2)])
theorem P_holds {k : Int32} (hM : MI d N wt wh) (kk : ∀ d' : mS, MI d' N wt wh → Q (some (qHolds N k a b)) d') : WP mLayM 149 0 [some (.ref 0), some (.int k), some (.int a), some (.int b), none, none, none] [] d Q := by
  have h12 := hM.1.2.1
  have h24 := hM.1.2.2.1
  simp only [w_X7_holds_0, w_X7_holds_1, w_X7_holds_2, w_X7_holds_5, w_X7_holds_6, w_X7_holds_9, w_X7_holds_10, w_X7_holds_11, w_X7_holds_14, w_X7_holds_17, w_X7_holds_18, w_X7_holds_19, w_X7_holds_22, w_X7_holds_25, w_X7_holds_26, w_X7_holds_27, w_X7_holds_30, w_X7_holds_31, w_X7_holds_32, w_X7_holds_35, w_X7_holds_38, w_X7_holds_39, w_X7_holds_40, w_X7_holds_41, w_X7_holds_43, w_X7_holds_44, w_X7_holds_48, w_X7_holds_49, w_X7_holds_52, w_X7_holds_55, w_X7_holds_56, w_X7_holds_57, w_X7_holds_60, w_X7_holds_61, w_X7_holds_63, w_X7_holds_66, w_X7_holds_67, w_X7_holds_68, w_X7_holds_70, w_X7_holds_71, w_X7_holds_74, w_X7_holds_77, w_X7_holds_78, w_X7_holds_80, w_X7_holds_82, w_X7_holds_84, w_X7_holds_87, w_X7_holds_89, w_X7_holds_92, w_X7_holds_94, w_X7_holds_96, w_X7_holds_99, w_X7_holds_102, w_X7_holds_104]
  refine M_lays (MI_0 hM) (fun d1 h1 h2 h3 => ?_)
  rw [mKV_none]
  have h : MF d1 N wt wh := ⟨h1, h3⟩
  have kk := kk _ h1
  unfold qHolds at kk
  rw [M_isLink h1, mKI_some]
  cases e1 : ix (nM N) k with
  | none => rw [e1] at kk; rw [show (none : Option Nat).isSome = false from rfl, bi_f, if_pos rfl]; exact kk
  | some l =>
    obtain ⟨rfl, hl⟩ := ix_some (by omega) e1
    rw [e1] at kk
    rw [show (some l).isSome = true from rfl, bi_t, if_neg (by decide), M_isNode h1, mKI_some]
    cases e2 : ix (nN N) b with
    | none => rw [e2] at kk; rw [show (none : Option Nat).isSome = false from rfl, bi_f, if_pos rfl]; exact kk
    | some v =>
      obtain ⟨rfl, hv⟩ := ix_some (by omega) e2
      rw [e2] at kk
      dsimp only at kk
      rw [show (some v).isSome = true from rfl, bi_t, if_neg (by decide)]
      by_cases c1 : a = -1
      · rw [if_pos c1] at kk ⊢
        refine F_holds_loop h hl hv ?_ (nN N) 0 none (by omega)
        rw [maxO_congr (q := fun x => wtF N l x v) (fun x _ => if_pos (Or.inl c1))]
        exact kk
      · rw [if_neg c1] at kk ⊢
        rw [M_isNode h1, mKI_some]
        cases e3 : ix (nN N) a with
        | none => rw [e3] at kk; rw [show (none : Option Nat).isSome = false from rfl, bi_f, if_neg (by decide)]; exact kk
        | some x =>
          obtain ⟨rfl, hx⟩ := ix_some (by omega) e3
          rw [e3] at kk
          rw [show (some x).isSome = true from rfl, bi_t, if_pos (by decide)]
          refine F_holds_loop h hl hv ?_ (nN N) 0 none (by omega)
          rw [maxO_congr (q := fun z => if z = x then wtF N l z v else none) (fun z hz => ?_), maxO_one hx]
          · exact kk
          · by_cases ez : z = x
            · rw [if_pos ez, if_pos (Or.inr (by rw [ez]))]
            · rw [if_neg ez, if_neg (fun q => q.elim c1 (fun q2 => ez ((kEq (by omega) (by omega)).mp q2).symm))]
/-- what way answers, and whether it says that it throws -/
def wyA (o : Option Nat) : Int32 := match o with
  | some u => nI u
  | none => 0
theorem F_way_loop {y i : Nat} {aa : Int32} (h : MF d N wt wh) (hy : y < nN N) (hi : i < 2 ^ 31) : ∀ (k v j : Nat), v < nN N → rk N none y v = k → j + rk N none y v ≤ 24 → j ≤ i → (∀ o : Option Nat, o = wyK N y (i - j) v → Q (some (wyA o)) (mUp d 0 0 (bi o.isNone))) → WP mLayM 117 53 [some (.ref 0), some (.int aa), some (.int (nI y)), some (.int (nI i)), some (.int 1), some (.int (nI v)), some (.int (nI j))] [] d Q := by
  have hN := h.1.1
  have h12 := hN.2.1
  intro k
  induction k using Nat.strongRecOn with
  | ind k ih =>
    intro v j hv hk hj hji kk
    rw [w_X7_way_53]
    simp only [w_X7_way_0, w_X7_way_1, w_X7_way_2, w_X7_way_5, w_X7_way_6, w_X7_way_9, w_X7_way_10, w_X7_way_11, w_X7_way_14, w_X7_way_17, w_X7_way_18, w_X7_way_19, w_X7_way_22, w_X7_way_25, w_X7_way_26, w_X7_way_29, w_X7_way_30, w_X7_way_31, w_X7_way_32, w_X7_way_35, w_X7_way_37, w_X7_way_40, w_X7_way_41, w_X7_way_44, w_X7_way_45, w_X7_way_47, w_X7_way_48, w_X7_way_50, w_X7_way_51, w_X7_way_55, w_X7_way_56, w_X7_way_59, w_X7_way_61, w_X7_way_64, w_X7_way_65, w_X7_way_66, w_X7_way_68, w_X7_way_69, w_X7_way_70, w_X7_way_73, w_X7_way_75, w_X7_way_77, w_X7_way_80, w_X7_way_81, w_X7_way_84, w_X7_way_85, w_X7_way_87, w_X7_way_90, w_X7_way_93, w_X7_way_94, w_X7_way_96, w_X7_way_99, w_X7_way_100, w_X7_way_103, w_X7_way_104, w_X7_way_107, w_X7_way_109, w_X7_way_112, w_X7_way_114, w_X7_way_117, w_X7_way_118, k10, if_false]
    by_cases c1 : i ≤ j
    · rw [if_pos ((kLe (by omega) (by omega)).mpr c1)]
      rw [show i - j = 0 by omega] at kk
      exact kk (some v) rfl
    · rw [if_neg (fun q => c1 ((kLe (by omega) (by omega)).mp q))]
      rw [F_next h hv hy, mKI_some]
      have hs : wyK N y (i - j) v = (match nx N none y v with
        | none => none
        | some u => wyK N y (i - j - 1) u) := by
        cases hq : i - j with
        | zero => omega
        | succ q => rfl
      rw [hs] at kk
      cases hx : nx N none y v with
      | none =>
        rw [hx] at kk
        simp only [en_none, kn1, if_true, nI_1]
        rw [w_X7_way_53]
        simp only [w_X7_way_0, w_X7_way_1, w_X7_way_2, w_X7_way_5, w_X7_way_6, w_X7_way_9, w_X7_way_10, w_X7_way_11, w_X7_way_14, w_X7_way_17, w_X7_way_18, w_X7_way_19, w_X7_way_22, w_X7_way_25, w_X7_way_26, w_X7_way_29, w_X7_way_30, w_X7_way_31, w_X7_way_32, w_X7_way_35, w_X7_way_37, w_X7_way_40, w_X7_way_41, w_X7_way_44, w_X7_way_45, w_X7_way_47, w_X7_way_48, w_X7_way_50, w_X7_way_51, w_X7_way_55, w_X7_way_56, w_X7_way_59, w_X7_way_61, w_X7_way_64, w_X7_way_65, w_X7_way_66, w_X7_way_68, w_X7_way_69, w_X7_way_70, w_X7_way_73, w_X7_way_75, w_X7_way_77, w_X7_way_80, w_X7_way_81, w_X7_way_84, w_X7_way_85, w_X7_way_87, w_X7_way_90, w_X7_way_93, w_X7_way_94, w_X7_way_96, w_X7_way_99, w_X7_way_100, w_X7_way_103, w_X7_way_104, w_X7_way_107, w_X7_way_109, w_X7_way_112, w_X7_way_114, w_X7_way_117, w_X7_way_118, if_true]
        by_cases c2 : nI i ≤ nI (j + 1)
        · rw [if_pos c2]; exact kk none rfl
        · rw [if_neg c2]; exact kk none rfl
      | some u =>
        rw [hx] at kk
        have hr := nx_rk hN hx
        have hu := (nx_some hx).1
        rw [en_some, nI_1, if_neg (nI_pos (by omega))]
        refine ih (rk N none y u) (by omega) u (j + 1) hu rfl (by omega) (by omega) (fun o ho => kk o ?_)
        rw [ho, show i - (j + 1) = i - j - 1 by omega]
theorem P_way (hM : MI d N wt wh) (kk : ∀ d' : mS, MI d' N wt wh → d' 0 0 = bi (wayQ N a b c).isNone → Q (some (wyA (wayQ N a b c))) d') : WP mLayM 117 0 [some (.ref 0), some (.int a), some (.int b), some (.int c), none, none, none] [] d Q := by
  have h12 := hM.1.2.1
  have hinf : INF = 1000000 := rfl
  simp only [w_X7_way_0, w_X7_way_1, w_X7_way_2, w_X7_way_5, w_X7_way_6, w_X7_way_9, w_X7_way_10, w_X7_way_11, w_X7_way_14, w_X7_way_17, w_X7_way_18, w_X7_way_19, w_X7_way_22, w_X7_way_25, w_X7_way_26, w_X7_way_29, w_X7_way_30, w_X7_way_31, w_X7_way_32, w_X7_way_35, w_X7_way_37, w_X7_way_40, w_X7_way_41, w_X7_way_44, w_X7_way_45, w_X7_way_47, w_X7_way_48, w_X7_way_50, w_X7_way_51, w_X7_way_55, w_X7_way_56, w_X7_way_59, w_X7_way_61, w_X7_way_64, w_X7_way_65, w_X7_way_66, w_X7_way_68, w_X7_way_69, w_X7_way_70, w_X7_way_73, w_X7_way_75, w_X7_way_77, w_X7_way_80, w_X7_way_81, w_X7_way_84, w_X7_way_85, w_X7_way_87, w_X7_way_90, w_X7_way_93, w_X7_way_94, w_X7_way_96, w_X7_way_99, w_X7_way_100, w_X7_way_103, w_X7_way_104, w_X7_way_107, w_X7_way_109, w_X7_way_112, w_X7_way_114, w_X7_way_117, w_X7_way_118]
  refine M_lays (MI_0 hM) (fun d1 h1 h2 h3 => ?_)
  rw [mKV_none]
  have h : MF d1 N wt wh := ⟨h1, h3⟩
  have no : ∀ {l6 : Option Value}, wayQ N a b c = none → ∀ {x k : Int32}, WP mLayM 117 53 [some (.ref 0), some (.int a), some (.int b), some (.int c), some (.int 0), some (.int x), some (.int k)] [] d1 Q := by
    intro l6 hn x k
    rw [hn] at kk
    have kk := kk (mUp d1 0 0 1) (MI_0 h1) (by rw [mUp_s]; rfl)
    rw [w_X7_way_53]
    simp only [w_X7_way_0, w_X7_way_1, w_X7_way_2, w_X7_way_5, w_X7_way_6, w_X7_way_9, w_X7_way_10, w_X7_way_11, w_X7_way_14, w_X7_way_17, w_X7_way_18, w_X7_way_19, w_X7_way_22, w_X7_way_25, w_X7_way_26, w_X7_way_29, w_X7_way_30, w_X7_way_31, w_X7_way_32, w_X7_way_35, w_X7_way_37, w_X7_way_40, w_X7_way_41, w_X7_way_44, w_X7_way_45, w_X7_way_47, w_X7_way_48, w_X7_way_50, w_X7_way_51, w_X7_way_55, w_X7_way_56, w_X7_way_59, w_X7_way_61, w_X7_way_64, w_X7_way_65, w_X7_way_66, w_X7_way_68, w_X7_way_69, w_X7_way_70, w_X7_way_73, w_X7_way_75, w_X7_way_77, w_X7_way_80, w_X7_way_81, w_X7_way_84, w_X7_way_85, w_X7_way_87, w_X7_way_90, w_X7_way_93, w_X7_way_94, w_X7_way_96, w_X7_way_99, w_X7_way_100, w_X7_way_103, w_X7_way_104, w_X7_way_107, w_X7_way_109, w_X7_way_112, w_X7_way_114, w_X7_way_117, w_X7_way_118, if_true]
    by_cases c2 : c ≤ k
    · rw [if_pos c2]; exact kk
    · rw [if_neg c2]; exact kk
  unfold wayQ two at no
  rw [M_isNode h1, mKI_some]
  cases e1 : ix (nN N) a with
  | none =>
    rw [e1] at no
    rw [show (none : Option Nat).isSome = false from rfl, bi_f, if_pos rfl]
    exact no (l6 := none) rfl
  | some x =>
    obtain ⟨rfl, hx⟩ := ix_some (by omega) e1
    rw [show (some x).isSome = true from rfl, bi_t, if_neg (by decide), M_isNode h1, mKI_some]
    cases e2 : ix (nN N) b with
    | none =>
      rw [e1, e2] at no
      rw [show (none : Option Nat).isSome = false from rfl, bi_f, if_pos rfl]
      exact no (l6 := none) rfl
    | some y =>
      obtain ⟨rfl, hy⟩ := ix_some (by omega) e2
      rw [e1, e2] at no
      dsimp only at no
      have i1 := fr_inf hM.1 hx hy
      rw [show (some y).isSome = true from rfl, bi_t, if_neg (by decide)]
      by_cases c0 : c < 0
      · rw [if_pos c0]
        refine no (l6 := none) ?_
        rw [ix_neg c0]
        split <;> rfl
      · rw [if_neg c0, F_far h hx hy, mKI_some]
        simp (disch := omega) only [kinf, kLe]
        by_cases c1 : INF ≤ fr N x y
        · rw [if_pos c1]
          exact no (l6 := none) (if_neg (by omega))
        · rw [if_neg c1]
          obtain ⟨i, hi, rfl⟩ := nI_of c0
          have hr := rk_n (N := N) (but := none) (d := y) hx
          refine F_way_loop h hy hi _ x 0 hx rfl (by omega) (by omega) (fun o ho => ?_)
          have hw : wayQ N (nI x) (nI y) (nI i) = o := by
            unfold wayQ two
            rw [e1, e2]
            dsimp only
            rw [if_pos (by omega), ho]
            by_cases hin : i < nN N
            · rw [ix_nI (by omega) hin]; rfl
            · rw [ix_big ((kLe (by omega) hi).mpr (by omega))]
              exact (wyK_none hM.1 i x hx (by omega)).symm
          rw [hw] at kk
          exact kk _ (MI_0 h1) (by rw [mUp_s])
theorem P_thrown : WP mLayM 93 0 [some (.ref 0)] [] d Q ↔ Q (some (d 0 0)) d := by
  simp only [w_X7_thrown_0, w_X7_thrown_1, w_X7_thrown_4]
theorem F_round_k {l y v : Nat} {s0 : Int32} (h : MF d N wt wh) (h2 : FarR d 144 N (gd N (some l))) (hl : l < nM N) (hy : y < nN N) (kk : ∀ (o : Option Nat) (k : Int32), o = itF (rdN N l y c) 12 v → (∀ q, o = some q → q < nN N) → WP mLayM 150 103 [some (.ref 0), some (.int (nI l)), some (.int (nI y)), some (.int c), some (.int s0), some (.int (nI v)), some (.int (en o)), some (.int k)] [] d Q) :
    ∀ (k j : Nat) (x : Nat), x < nN N → j + k = 12 → itF (rdN N l y c) 12 v = itF (rdN N l y c) k x → WP mLayM 150 50 [some (.ref 0), some (.int (nI l)), some (.int (nI y)), some (.int c), some (.int s0), some (.int (nI v)), some (.int (nI x)), some (.int (nI j))] [] d Q := by
  have hN := h.1.1
  have h12 := hN.2.1
  have h24 := hN.2.2.1
  intro k
  induction k with
  | zero =>
    intro j x hx hj he
    rw [w_X7_round_50]
    simp only [w_X7_round_0, w_X7_round_1, w_X7_round_2, w_X7_round_5, w_X7_round_6, w_X7_round_7, w_X7_round_10, w_X7_round_13, w_X7_round_14, w_X7_round_15, w_X7_round_18, w_X7_round_21, w_X7_round_22, w_X7_round_23, w_X7_round_24, w_X7_round_25, w_X7_round_28, w_X7_round_29, w_X7_round_31, w_X7_round_32, w_X7_round_36, w_X7_round_37, w_X7_round_40, w_X7_round_43, w_X7_round_45, w_X7_round_47, w_X7_round_48, w_X7_round_52, w_X7_round_54, w_X7_round_57, w_X7_round_59, w_X7_round_62, w_X7_round_63, w_X7_round_65, w_X7_round_66, w_X7_round_67, w_X7_round_68, w_X7_round_69, w_X7_round_72, w_X7_round_73, w_X7_round_76, w_X7_round_78, w_X7_round_79, w_X7_round_80, w_X7_round_83, w_X7_round_86, w_X7_round_87, w_X7_round_88, w_X7_round_90, w_X7_round_91, w_X7_round_92, w_X7_round_95, w_X7_round_97, w_X7_round_100, w_X7_round_105, w_X7_round_107, w_X7_round_110, w_X7_round_111, w_X7_round_113, w_X7_round_114, w_X7_round_117, w_X7_round_118, w_X7_round_119, w_X7_round_121, w_X7_round_124, w_X7_round_127, w_X7_round_129]
    rw [if_pos (by rw [k12, kLe (by omega) (by omega)]; omega)]
    exact kk (some x) _ he.symm (fun q hq => by cases hq; exact hx)
  | succ k ih =>
    intro j x hx hj he
    rw [w_X7_round_50]
    simp only [w_X7_round_0, w_X7_round_1, w_X7_round_2, w_X7_round_5, w_X7_round_6, w_X7_round_7, w_X7_round_10, w_X7_round_13, w_X7_round_14, w_X7_round_15, w_X7_round_18, w_X7_round_21, w_X7_round_22, w_X7_round_23, w_X7_round_24, w_X7_round_25, w_X7_round_28, w_X7_round_29, w_X7_round_31, w_X7_round_32, w_X7_round_36, w_X7_round_37, w_X7_round_40, w_X7_round_43, w_X7_round_45, w_X7_round_47, w_X7_round_48, w_X7_round_52, w_X7_round_54, w_X7_round_57, w_X7_round_59, w_X7_round_62, w_X7_round_63, w_X7_round_65, w_X7_round_66, w_X7_round_67, w_X7_round_68, w_X7_round_69, w_X7_round_72, w_X7_round_73, w_X7_round_76, w_X7_round_78, w_X7_round_79, w_X7_round_80, w_X7_round_83, w_X7_round_86, w_X7_round_87, w_X7_round_88, w_X7_round_90, w_X7_round_91, w_X7_round_92, w_X7_round_95, w_X7_round_97, w_X7_round_100, w_X7_round_105, w_X7_round_107, w_X7_round_110, w_X7_round_111, w_X7_round_113, w_X7_round_114, w_X7_round_117, w_X7_round_118, w_X7_round_119, w_X7_round_121, w_X7_round_124, w_X7_round_127, w_X7_round_129]
    rw [if_neg (fun q => by rw [k12, kLe (by omega) (by omega)] at q; omega), if_neg (nI_pos (by omega)), bt_ask c (by omega)]
    have hs : itF (rdN N l y c) (k + 1) x = (match rdN N l y c x with
      | none => none
      | some z => itF (rdN N l y c) k z) := rfl
    have go : ∀ o : Option Nat, o = rdN N l y c x → WP mLayM 150 50 [some (.ref 0), some (.int (nI l)), some (.int (nI y)), some (.int c), some (.int s0), some (.int (nI v)), some (.int (en o)), some (.int (nI (j + 1)))] [] d Q := by
      intro o ho
      rw [hs, ← ho] at he
      cases o with
      | none =>
        rw [w_X7_round_50]
        simp only [w_X7_round_0, w_X7_round_1, w_X7_round_2, w_X7_round_5, w_X7_round_6, w_X7_round_7, w_X7_round_10, w_X7_round_13, w_X7_round_14, w_X7_round_15, w_X7_round_18, w_X7_round_21, w_X7_round_22, w_X7_round_23, w_X7_round_24, w_X7_round_25, w_X7_round_28, w_X7_round_29, w_X7_round_31, w_X7_round_32, w_X7_round_36, w_X7_round_37, w_X7_round_40, w_X7_round_43, w_X7_round_45, w_X7_round_47, w_X7_round_48, w_X7_round_52, w_X7_round_54, w_X7_round_57, w_X7_round_59, w_X7_round_62, w_X7_round_63, w_X7_round_65, w_X7_round_66, w_X7_round_67, w_X7_round_68, w_X7_round_69, w_X7_round_72, w_X7_round_73, w_X7_round_76, w_X7_round_78, w_X7_round_79, w_X7_round_80, w_X7_round_83, w_X7_round_86, w_X7_round_87, w_X7_round_88, w_X7_round_90, w_X7_round_91, w_X7_round_92, w_X7_round_95, w_X7_round_97, w_X7_round_100, w_X7_round_105, w_X7_round_107, w_X7_round_110, w_X7_round_111, w_X7_round_113, w_X7_round_114, w_X7_round_117, w_X7_round_118, w_X7_round_119, w_X7_round_121, w_X7_round_124, w_X7_round_127, w_X7_round_129, en_none, kn1, if_true]
        have := kk none (nI (j + 1)) he.symm (fun q hq => by cases hq)
        rw [en_none] at this
        by_cases cc : (12 : Int32) ≤ nI (j + 1)
        · rw [if_pos cc]; exact this
        · rw [if_neg cc]; exact this
      | some z =>
        rw [en_some]
        have hz : z < nN N := by
          unfold rdN at ho
          split at ho
          · exact (nx_some ho.symm).1
          · exact (nx_some ho.symm).1
        exact ih (j + 1) z hz (by omega) he
    unfold rdN at go
    simp only [bi_1, nI_1]
    cases hb : bt c x with
    | false =>
      rw [if_pos (by decide), F_next h hx hy, mKI_some]
      exact go _ (by rw [hb]; rfl)
    | true =>
      rw [if_neg (by decide)]
      have hnb := fun Q => M_nextOf (Q := Q) (b := 144) (but := some l) (by omega) (fun q h => by cases h; omega) hx hy h.1 h2
      rw [en_some, show (nI 144 : Int32) = 144 from rfl] at hnb
      rw [hnb, mKI_some]
      exact go _ (by rw [hb]; rfl)
theorem F_round_v {l y : Nat} (h : MF d N wt wh) (h2 : FarR d 144 N (gd N (some l))) (hl : l < nM N) (hy : y < nN N) (kk : Q (some (mkS (fun v => (itF (rdN N l y c) 12 v).isSome) (nN N))) d) : ∀ (k j : Nat) (l6 l7 : Option Value), j + k = nN N → WP mLayM 150 34 [some (.ref 0), some (.int (nI l)), some (.int (nI y)), some (.int c), some (.int (mkS (fun v => (itF (rdN N l y c) 12 v).isSome) j)), some (.int (nI j)), l6, l7] [] d Q := by
  have hN := h.1.1
  have h12 := hN.2.1
  intro k
  induction k with
  | zero =>
    intro j l6 l7 hj
    rw [w_X7_round_34]
    simp only [w_X7_round_0, w_X7_round_1, w_X7_round_2, w_X7_round_5, w_X7_round_6, w_X7_round_7, w_X7_round_10, w_X7_round_13, w_X7_round_14, w_X7_round_15, w_X7_round_18, w_X7_round_21, w_X7_round_22, w_X7_round_23, w_X7_round_24, w_X7_round_25, w_X7_round_28, w_X7_round_29, w_X7_round_31, w_X7_round_32, w_X7_round_36, w_X7_round_37, w_X7_round_40, w_X7_round_43, w_X7_round_45, w_X7_round_47, w_X7_round_48, w_X7_round_52, w_X7_round_54, w_X7_round_57, w_X7_round_59, w_X7_round_62, w_X7_round_63, w_X7_round_65, w_X7_round_66, w_X7_round_67, w_X7_round_68, w_X7_round_69, w_X7_round_72, w_X7_round_73, w_X7_round_76, w_X7_round_78, w_X7_round_79, w_X7_round_80, w_X7_round_83, w_X7_round_86, w_X7_round_87, w_X7_round_88, w_X7_round_90, w_X7_round_91, w_X7_round_92, w_X7_round_95, w_X7_round_97, w_X7_round_100, w_X7_round_105, w_X7_round_107, w_X7_round_110, w_X7_round_111, w_X7_round_113, w_X7_round_114, w_X7_round_117, w_X7_round_118, w_X7_round_119, w_X7_round_121, w_X7_round_124, w_X7_round_127, w_X7_round_129, h.1.2.1]
    rw [if_pos ((kLe (by omega) (by omega)).mpr (by omega)), show j = nN N by omega]
    exact kk
  | succ k ih =>
    intro j l6 l7 hj
    have ih := fun l6 l7 => ih (j + 1) l6 l7 (by omega)
    rw [mkS_s] at ih
    rw [w_X7_round_34]
    simp only [w_X7_round_0, w_X7_round_1, w_X7_round_2, w_X7_round_5, w_X7_round_6, w_X7_round_7, w_X7_round_10, w_X7_round_13, w_X7_round_14, w_X7_round_15, w_X7_round_18, w_X7_round_21, w_X7_round_22, w_X7_round_23, w_X7_round_24, w_X7_round_25, w_X7_round_28, w_X7_round_29, w_X7_round_31, w_X7_round_32, w_X7_round_36, w_X7_round_37, w_X7_round_40, w_X7_round_43, w_X7_round_45, w_X7_round_47, w_X7_round_48, w_X7_round_52, w_X7_round_54, w_X7_round_57, w_X7_round_59, w_X7_round_62, w_X7_round_63, w_X7_round_65, w_X7_round_66, w_X7_round_67, w_X7_round_68, w_X7_round_69, w_X7_round_72, w_X7_round_73, w_X7_round_76, w_X7_round_78, w_X7_round_79, w_X7_round_80, w_X7_round_83, w_X7_round_86, w_X7_round_87, w_X7_round_88, w_X7_round_90, w_X7_round_91, w_X7_round_92, w_X7_round_95, w_X7_round_97, w_X7_round_100, w_X7_round_105, w_X7_round_107, w_X7_round_110, w_X7_round_111, w_X7_round_113, w_X7_round_114, w_X7_round_117, w_X7_round_118, w_X7_round_119, w_X7_round_121, w_X7_round_124, w_X7_round_127, w_X7_round_129, h.1.2.1]
    rw [if_neg (fun q => by rw [kLe (by omega) (by omega)] at q; omega)]
    refine F_round_k h h2 hl hy (fun o k ho hob => ?_) 12 0 j (by omega) (by omega) rfl
    rw [← ho] at ih
    simp only [w_X7_round_0, w_X7_round_1, w_X7_round_2, w_X7_round_5, w_X7_round_6, w_X7_round_7, w_X7_round_10, w_X7_round_13, w_X7_round_14, w_X7_round_15, w_X7_round_18, w_X7_round_21, w_X7_round_22, w_X7_round_23, w_X7_round_24, w_X7_round_25, w_X7_round_28, w_X7_round_29, w_X7_round_31, w_X7_round_32, w_X7_round_36, w_X7_round_37, w_X7_round_40, w_X7_round_43, w_X7_round_45, w_X7_round_47, w_X7_round_48, w_X7_round_52, w_X7_round_54, w_X7_round_57, w_X7_round_59, w_X7_round_62, w_X7_round_63, w_X7_round_65, w_X7_round_66, w_X7_round_67, w_X7_round_68, w_X7_round_69, w_X7_round_72, w_X7_round_73, w_X7_round_76, w_X7_round_78, w_X7_round_79, w_X7_round_80, w_X7_round_83, w_X7_round_86, w_X7_round_87, w_X7_round_88, w_X7_round_90, w_X7_round_91, w_X7_round_92, w_X7_round_95, w_X7_round_97, w_X7_round_100, w_X7_round_103, w_X7_round_105, w_X7_round_107, w_X7_round_110, w_X7_round_111, w_X7_round_113, w_X7_round_114, w_X7_round_117, w_X7_round_118, w_X7_round_119, w_X7_round_121, w_X7_round_124, w_X7_round_127, w_X7_round_129, nI_1]
    cases o with
    | none => simp only [en_none, kn1, if_true]; exact ih _ _
    | some z => rw [en_some, if_neg (nI_pos (by have := hob z rfl; omega))]; exact ih _ _
theorem P_round {k : Int32} (hM : MI d N wt wh) (kk : ∀ d' : mS, MI d' N wt wh → Q (some (qRound N k a c)) d') : WP mLayM 150 0 [some (.ref 0), some (.int k), some (.int a), some (.int c), none, none, none, none] [] d Q := by
  have h12 := hM.1.2.1
  have h24 := hM.1.2.2.1
  have h0 := MI_0 (v := 0) hM
  simp only [w_X7_round_0, w_X7_round_1, w_X7_round_2, w_X7_round_5, w_X7_round_6, w_X7_round_7, w_X7_round_10, w_X7_round_13, w_X7_round_14, w_X7_round_15, w_X7_round_18, w_X7_round_21, w_X7_round_22, w_X7_round_23, w_X7_round_24, w_X7_round_25, w_X7_round_28, w_X7_round_29, w_X7_round_31, w_X7_round_32, w_X7_round_36, w_X7_round_37, w_X7_round_40, w_X7_round_43, w_X7_round_45, w_X7_round_47, w_X7_round_48, w_X7_round_52, w_X7_round_54, w_X7_round_57, w_X7_round_59, w_X7_round_62, w_X7_round_63, w_X7_round_65, w_X7_round_66, w_X7_round_67, w_X7_round_68, w_X7_round_69, w_X7_round_72, w_X7_round_73, w_X7_round_76, w_X7_round_78, w_X7_round_79, w_X7_round_80, w_X7_round_83, w_X7_round_86, w_X7_round_87, w_X7_round_88, w_X7_round_90, w_X7_round_91, w_X7_round_92, w_X7_round_95, w_X7_round_97, w_X7_round_100, w_X7_round_105, w_X7_round_107, w_X7_round_110, w_X7_round_111, w_X7_round_113, w_X7_round_114, w_X7_round_117, w_X7_round_118, w_X7_round_119, w_X7_round_121, w_X7_round_124, w_X7_round_127, w_X7_round_129]
  unfold qRound at kk
  rw [M_isLink h0, mKI_some]
  cases e1 : ix (nM N) k with
  | none => rw [e1] at kk; rw [show (none : Option Nat).isSome = false from rfl, bi_f, if_pos rfl]; exact kk _ h0
  | some l =>
    obtain ⟨rfl, hl⟩ := ix_some (by omega) e1
    rw [e1] at kk
    rw [show (some l).isSome = true from rfl, bi_t, if_neg (by decide), M_isNode h0, mKI_some]
    cases e2 : ix (nN N) a with
    | none => rw [e2] at kk; rw [show (none : Option Nat).isSome = false from rfl, bi_f, if_neg (by decide)]; exact kk _ h0
    | some y =>
      obtain ⟨rfl, hy⟩ := ix_some (by omega) e2
      rw [e2] at kk
      rw [show (some y).isSome = true from rfl, bi_t, if_pos (by decide)]
      refine M_laysBoth hl h0 (fun d1 h1 h2 h3 h4 => ?_)
      rw [mKV_none]
      exact F_round_v ⟨h1, h3⟩ h4 hl hy (kk _ h1) (nN N) 0 none none (by omega)
theorem F_cov_d {w s s0 : Nat} (hw : w ≤ 7) (hs : s < nN N) : ∀ (k j : Nat) (d : mS), MF d N wt wh → j + k = nN N → (∀ (d' : mS) (l4 : Option Value), MF d' N wt wh → WP mLayM 153 25 [some (.ref 0), some (.int (nI w)), some (.int (nI (s0 + cnt (fun dd => cvP N w s dd) (nN N)))), some (.int (nI (s + 1))), l4] [] d' Q) → WP mLayM 153 36 [some (.ref 0), some (.int (nI w)), some (.int (nI (s0 + cnt (fun dd => cvP N w s dd) j))), some (.int (nI s)), some (.int (nI j))] [] d Q := by
  intro k
  induction k with
  | zero =>
    intro j d h hj kk
    have h12 := h.1.1.2.1
    rw [w_X7_covered_36]
    simp only [w_X7_covered_0, w_X7_covered_1, w_X7_covered_2, w_X7_covered_5, w_X7_covered_6, w_X7_covered_7, w_X7_covered_9, w_X7_covered_12, w_X7_covered_15, w_X7_covered_16, w_X7_covered_17, w_X7_covered_18, w_X7_covered_21, w_X7_covered_22, w_X7_covered_23, w_X7_covered_24, w_X7_covered_26, w_X7_covered_27, w_X7_covered_30, w_X7_covered_33, w_X7_covered_34, w_X7_covered_38, w_X7_covered_39, w_X7_covered_42, w_X7_covered_45, w_X7_covered_46, w_X7_covered_47, w_X7_covered_48, w_X7_covered_49, w_X7_covered_51, w_X7_covered_52, w_X7_covered_55, w_X7_covered_58, w_X7_covered_59, w_X7_covered_60, w_X7_covered_62, w_X7_covered_63, w_X7_covered_66, w_X7_covered_69, w_X7_covered_70, w_X7_covered_73, w_X7_covered_74, w_X7_covered_75, w_X7_covered_76, w_X7_covered_79, w_X7_covered_82, w_X7_covered_85, w_X7_covered_88, w_X7_covered_89, h.1.2.1]
    rw [if_pos ((kLe (by omega) (by omega)).mpr (by omega)), show j = nN N by omega, nI_1]
    exact kk d _ h
  | succ k ih =>
    intro j d h hj kk
    have h12 := h.1.1.2.1
    have hj2 : j < nN N := by omega
    rw [w_X7_covered_36]
    simp only [w_X7_covered_0, w_X7_covered_1, w_X7_covered_2, w_X7_covered_5, w_X7_covered_6, w_X7_covered_7, w_X7_covered_9, w_X7_covered_12, w_X7_covered_15, w_X7_covered_16, w_X7_covered_17, w_X7_covered_18, w_X7_covered_21, w_X7_covered_22, w_X7_covered_23, w_X7_covered_24, w_X7_covered_26, w_X7_covered_27, w_X7_covered_30, w_X7_covered_33, w_X7_covered_34, w_X7_covered_38, w_X7_covered_39, w_X7_covered_42, w_X7_covered_45, w_X7_covered_46, w_X7_covered_47, w_X7_covered_48, w_X7_covered_49, w_X7_covered_51, w_X7_covered_52, w_X7_covered_55, w_X7_covered_58, w_X7_covered_59, w_X7_covered_60, w_X7_covered_62, w_X7_covered_63, w_X7_covered_66, w_X7_covered_69, w_X7_covered_70, w_X7_covered_73, w_X7_covered_74, w_X7_covered_75, w_X7_covered_76, w_X7_covered_79, w_X7_covered_82, w_X7_covered_85, w_X7_covered_88, w_X7_covered_89, h.1.2.1]
    rw [if_neg (fun q => by rw [kLe (by omega) (by omega)] at q; omega)]
    rw [F_next h hs hj2, mKI_some]
    simp only [nI_1]
    have ih := fun d1 h1 => ih (j + 1) d1 h1 (by omega) kk
    have hc : cnt (fun dd => cvP N w s dd) (j + 1) = cnt (fun dd => cvP N w s dd) j + (if cvP N w s j then 1 else 0) := rfl
    rw [hc] at ih
    cases hx : nx N none j s with
    | none =>
      have hcv : cvP N w s j = false := by unfold cvP; rw [hx]
      rw [hcv] at ih
      simp only [en_none, kn1, if_true]
      rw [k0, nI_add]
      exact ih d h
    | some e =>
      have he := (nx_some hx).1
      obtain ⟨l, hX⟩ := HX_of hs hj2 hx
      rw [en_some, if_neg (nI_pos (by omega))]
      refine F_counts h hX hw (fun d1 s1 => ?_)
      have ih := ih d1 (MF_X h s1)
      rw [mKI_some]
      cases hcv : cvP N w s j with
      | false => rw [hcv] at ih; rw [bi_f, if_pos rfl, k0, nI_add]; exact ih
      | true => rw [hcv] at ih; rw [bi_t, if_neg (by decide)]; exact ih
theorem F_cov_s {w : Nat} (hw : w ≤ 7) : ∀ (k j : Nat) (d : mS) (l4 : Option Value), MF d N wt wh → j + k = nN N → (∀ d' : mS, MF d' N wt wh → Q (some (nI (sumN (fun s => cnt (fun dd => cvP N w s dd) (nN N)) (nN N)))) d') → WP mLayM 153 25 [some (.ref 0), some (.int (nI w)), some (.int (nI (sumN (fun s => cnt (fun dd => cvP N w s dd) (nN N)) j))), some (.int (nI j)), l4] [] d Q := by
  intro k
  induction k with
  | zero =>
    intro j d l4 h hj kk
    have h12 := h.1.1.2.1
    rw [w_X7_covered_25]
    simp only [w_X7_covered_0, w_X7_covered_1, w_X7_covered_2, w_X7_covered_5, w_X7_covered_6, w_X7_covered_7, w_X7_covered_9, w_X7_covered_12, w_X7_covered_15, w_X7_covered_16, w_X7_covered_17, w_X7_covered_18, w_X7_covered_21, w_X7_covered_22, w_X7_covered_23, w_X7_covered_24, w_X7_covered_26, w_X7_covered_27, w_X7_covered_30, w_X7_covered_33, w_X7_covered_34, w_X7_covered_38, w_X7_covered_39, w_X7_covered_42, w_X7_covered_45, w_X7_covered_46, w_X7_covered_47, w_X7_covered_48, w_X7_covered_49, w_X7_covered_51, w_X7_covered_52, w_X7_covered_55, w_X7_covered_58, w_X7_covered_59, w_X7_covered_60, w_X7_covered_62, w_X7_covered_63, w_X7_covered_66, w_X7_covered_69, w_X7_covered_70, w_X7_covered_73, w_X7_covered_74, w_X7_covered_75, w_X7_covered_76, w_X7_covered_79, w_X7_covered_82, w_X7_covered_85, w_X7_covered_88, w_X7_covered_89, h.1.2.1]
    rw [if_pos ((kLe (by omega) (by omega)).mpr (by omega)), show j = nN N by omega]
    exact kk d h
  | succ k ih =>
    intro j d l4 h hj kk
    have h12 := h.1.1.2.1
    rw [w_X7_covered_25]
    simp only [w_X7_covered_0, w_X7_covered_1, w_X7_covered_2, w_X7_covered_5, w_X7_covered_6, w_X7_covered_7, w_X7_covered_9, w_X7_covered_12, w_X7_covered_15, w_X7_covered_16, w_X7_covered_17, w_X7_covered_18, w_X7_covered_21, w_X7_covered_22, w_X7_covered_23, w_X7_covered_24, w_X7_covered_26, w_X7_covered_27, w_X7_covered_30, w_X7_covered_33, w_X7_covered_34, w_X7_covered_38, w_X7_covered_39, w_X7_covered_42, w_X7_covered_45, w_X7_covered_46, w_X7_covered_47, w_X7_covered_48, w_X7_covered_49, w_X7_covered_51, w_X7_covered_52, w_X7_covered_55, w_X7_covered_58, w_X7_covered_59, w_X7_covered_60, w_X7_covered_62, w_X7_covered_63, w_X7_covered_66, w_X7_covered_69, w_X7_covered_70, w_X7_covered_73, w_X7_covered_74, w_X7_covered_75, w_X7_covered_76, w_X7_covered_79, w_X7_covered_82, w_X7_covered_85, w_X7_covered_88, w_X7_covered_89, h.1.2.1]
    rw [if_neg (fun q => by rw [kLe (by omega) (by omega)] at q; omega)]
    exact F_cov_d hw (show j < nN N by omega) (nN N) 0 d h (by omega) (fun d1 l4 h1 => ih (j + 1) d1 l4 h1 (by omega) kk)
theorem P_covered (hM : MI d N wt wh) (kk : ∀ d' : mS, MI d' N wt wh → Q (some (qCovered N a)) d') : WP mLayM 153 0 [some (.ref 0), some (.int a), none, none, none] [] d Q := by
  have h0 := MI_0 (v := 0) hM
  simp only [w_X7_covered_0, w_X7_covered_1, w_X7_covered_2, w_X7_covered_5, w_X7_covered_6, w_X7_covered_7, w_X7_covered_9, w_X7_covered_12, w_X7_covered_15, w_X7_covered_16, w_X7_covered_17, w_X7_covered_18, w_X7_covered_21, w_X7_covered_22, w_X7_covered_23, w_X7_covered_24, w_X7_covered_26, w_X7_covered_27, w_X7_covered_30, w_X7_covered_33, w_X7_covered_34, w_X7_covered_38, w_X7_covered_39, w_X7_covered_42, w_X7_covered_45, w_X7_covered_46, w_X7_covered_47, w_X7_covered_48, w_X7_covered_49, w_X7_covered_51, w_X7_covered_52, w_X7_covered_55, w_X7_covered_58, w_X7_covered_59, w_X7_covered_60, w_X7_covered_62, w_X7_covered_63, w_X7_covered_66, w_X7_covered_69, w_X7_covered_70, w_X7_covered_73, w_X7_covered_74, w_X7_covered_75, w_X7_covered_76, w_X7_covered_79, w_X7_covered_82, w_X7_covered_85, w_X7_covered_88, w_X7_covered_89]
  rw [t_within, mKI_some, win (lo := 0) (hi := 7) (n := 7) rfl rfl (by omega)]
  unfold qCovered at kk
  cases e1 : ix 8 a with
  | none => rw [e1] at kk; rw [show (none : Option Nat).isSome = false from rfl, bi_f, if_neg (by decide)]; exact kk _ h0
  | some w =>
    obtain ⟨rfl, hw⟩ := ix_some (by omega) e1
    rw [e1] at kk
    rw [show (some w).isSome = true from rfl, bi_t, if_pos (by decide)]
    refine M_lays h0 (fun d1 h1 h2 h3 => ?_)
    rw [mKV_none]
    exact F_cov_s (by omega) (nN N) 0 d1 none ⟨h1, h3⟩ (by omega) (fun d' h' => kk d' h'.1)
theorem F_cnt4 (h : MI d N wt wh) (hD : Dok N wt wh) (kk : Q (some (nI (cnt (sdn N wt wh) (nM N)))) d) {aa : Int32} : ∀ (k j : Nat), j + k = nM N → WP mLayM 157 70 [some (.ref 0), some (.int aa), some (.int (nI (cnt (sdn N wt wh) j))), some (.int (nI j))] [] d Q := by
  have h24 := h.1.2.2.1
  intro k
  induction k with
  | zero =>
    intro j hj
    rw [w_X7_count_70]
    simp only [w_X7_count_0, w_X7_count_1, w_X7_count_2, w_X7_count_5, w_X7_count_6, w_X7_count_7, w_X7_count_8, w_X7_count_48, w_X7_count_49, w_X7_count_52, w_X7_count_53, w_X7_count_54, w_X7_count_57, w_X7_count_58, w_X7_count_59, w_X7_count_62, w_X7_count_63, w_X7_count_64, w_X7_count_67, w_X7_count_68, w_X7_count_69, w_X7_count_71, w_X7_count_72, w_X7_count_75, w_X7_count_78, w_X7_count_79, w_X7_count_80, w_X7_count_81, w_X7_count_82, w_X7_count_85, w_X7_count_86, w_X7_count_89, w_X7_count_92, w_X7_count_95, w_X7_count_96, w_X7_count_99, w_X7_count_100, w_X7_count_101, w_X7_count_102, w_X7_count_105, w_X7_count_108, w_X7_count_109, w_X7_count_110, w_X7_count_111, w_X7_count_113, w_X7_count_114, w_X7_count_117, w_X7_count_120, w_X7_count_121, w_X7_count_122, w_X7_count_125, w_X7_count_126, w_X7_count_127, w_X7_count_128, w_X7_count_129, w_X7_count_132, w_X7_count_135, w_X7_count_136, w_X7_count_137, w_X7_count_138, h.2.2.1]
    rw [if_pos ((kLe (by omega) (by omega)).mpr (by omega)), show j = nM N by omega]
    exact kk
  | succ k ih =>
    intro j hj
    have ih := ih (j + 1) (by omega)
    rw [w_X7_count_70]
    simp only [w_X7_count_0, w_X7_count_1, w_X7_count_2, w_X7_count_5, w_X7_count_6, w_X7_count_7, w_X7_count_8, w_X7_count_48, w_X7_count_49, w_X7_count_52, w_X7_count_53, w_X7_count_54, w_X7_count_57, w_X7_count_58, w_X7_count_59, w_X7_count_62, w_X7_count_63, w_X7_count_64, w_X7_count_67, w_X7_count_68, w_X7_count_69, w_X7_count_71, w_X7_count_72, w_X7_count_75, w_X7_count_78, w_X7_count_79, w_X7_count_80, w_X7_count_81, w_X7_count_82, w_X7_count_85, w_X7_count_86, w_X7_count_89, w_X7_count_92, w_X7_count_95, w_X7_count_96, w_X7_count_99, w_X7_count_100, w_X7_count_101, w_X7_count_102, w_X7_count_105, w_X7_count_108, w_X7_count_109, w_X7_count_110, w_X7_count_111, w_X7_count_113, w_X7_count_114, w_X7_count_117, w_X7_count_120, w_X7_count_121, w_X7_count_122, w_X7_count_125, w_X7_count_126, w_X7_count_127, w_X7_count_128, w_X7_count_129, w_X7_count_132, w_X7_count_135, w_X7_count_136, w_X7_count_137, w_X7_count_138, h.2.2.1, h.2.2.2.2.1, h.2.2.2.2.2]
    rw [if_neg (fun q => by rw [kLe (by omega) (by omega)] at q; omega)]
    rw [M_isDown (show j < nM N by omega) hD.1 hD.2.1 h, mKI_some]
    simp only [nI_1]
    have hc : cnt (sdn N wt wh) (j + 1) = cnt (sdn N wt wh) j + (if sdn N wt wh j then 1 else 0) := rfl
    rw [hc] at ih
    cases hs : sdn N wt wh j with
    | false => rw [hs] at ih; rw [bi_f, if_pos rfl, k0, nI_add]; exact ih
    | true => rw [hs] at ih; rw [bi_t, if_neg (by decide)]; exact ih
theorem F_cnt5 (h : MI d N wt wh) (kk : Q (some (nI (sumN (nC N) (nM N)))) d) {aa : Int32} : ∀ (k j : Nat), j + k = nM N → WP mLayM 157 112 [some (.ref 0), some (.int aa), some (.int (nI (sumN (nC N) j))), some (.int (nI j))] [] d Q := by
  have h24 := h.1.2.2.1
  intro k
  induction k with
  | zero =>
    intro j hj
    rw [w_X7_count_112]
    simp only [w_X7_count_0, w_X7_count_1, w_X7_count_2, w_X7_count_5, w_X7_count_6, w_X7_count_7, w_X7_count_8, w_X7_count_48, w_X7_count_49, w_X7_count_52, w_X7_count_53, w_X7_count_54, w_X7_count_57, w_X7_count_58, w_X7_count_59, w_X7_count_62, w_X7_count_63, w_X7_count_64, w_X7_count_67, w_X7_count_68, w_X7_count_69, w_X7_count_71, w_X7_count_72, w_X7_count_75, w_X7_count_78, w_X7_count_79, w_X7_count_80, w_X7_count_81, w_X7_count_82, w_X7_count_85, w_X7_count_86, w_X7_count_89, w_X7_count_92, w_X7_count_95, w_X7_count_96, w_X7_count_99, w_X7_count_100, w_X7_count_101, w_X7_count_102, w_X7_count_105, w_X7_count_108, w_X7_count_109, w_X7_count_110, w_X7_count_111, w_X7_count_113, w_X7_count_114, w_X7_count_117, w_X7_count_120, w_X7_count_121, w_X7_count_122, w_X7_count_125, w_X7_count_126, w_X7_count_127, w_X7_count_128, w_X7_count_129, w_X7_count_132, w_X7_count_135, w_X7_count_136, w_X7_count_137, w_X7_count_138, h.2.2.1]
    rw [if_pos ((kLe (by omega) (by omega)).mpr (by omega)), show j = nM N by omega]
    exact kk
  | succ k ih =>
    intro j hj
    have ih := ih (j + 1) (by omega)
    have e3 := (h.2.2.2.1 j (by omega)).2.2.1
    rw [w_X7_count_112]
    simp only [w_X7_count_0, w_X7_count_1, w_X7_count_2, w_X7_count_5, w_X7_count_6, w_X7_count_7, w_X7_count_8, w_X7_count_48, w_X7_count_49, w_X7_count_52, w_X7_count_53, w_X7_count_54, w_X7_count_57, w_X7_count_58, w_X7_count_59, w_X7_count_62, w_X7_count_63, w_X7_count_64, w_X7_count_67, w_X7_count_68, w_X7_count_69, w_X7_count_71, w_X7_count_72, w_X7_count_75, w_X7_count_78, w_X7_count_79, w_X7_count_80, w_X7_count_81, w_X7_count_82, w_X7_count_85, w_X7_count_86, w_X7_count_89, w_X7_count_92, w_X7_count_95, w_X7_count_96, w_X7_count_99, w_X7_count_100, w_X7_count_101, w_X7_count_102, w_X7_count_105, w_X7_count_108, w_X7_count_109, w_X7_count_110, w_X7_count_111, w_X7_count_113, w_X7_count_114, w_X7_count_117, w_X7_count_120, w_X7_count_121, w_X7_count_122, w_X7_count_125, w_X7_count_126, w_X7_count_127, w_X7_count_128, w_X7_count_129, w_X7_count_132, w_X7_count_135, w_X7_count_136, w_X7_count_137, w_X7_count_138, h.2.2.1]
    rw [if_neg (fun q => by rw [kLe (by omega) (by omega)] at q; omega)]
    simp (disch := omega) only [kIn, kCl, e3, nI_add, nI_1, show j < 24 by omega, true_and]
    exact ih
theorem P_count (hM : MI d N wt wh) (hD : Dok N wt wh) (kk : ∀ d' : mS, MI d' N wt wh → Q (some (qCount N wt wh a)) d') : WP mLayM 157 0 [some (.ref 0), some (.int a), none, none] [] d Q := by
  have h0 := MI_0 (v := 0) hM
  have kk := kk _ h0
  simp only [w_X7_count_0, w_X7_count_1, w_X7_count_2, w_X7_count_5, w_X7_count_6, w_X7_count_7, w_X7_count_8, w_X7_count_48, w_X7_count_49, w_X7_count_52, w_X7_count_53, w_X7_count_54, w_X7_count_57, w_X7_count_58, w_X7_count_59, w_X7_count_62, w_X7_count_63, w_X7_count_64, w_X7_count_67, w_X7_count_68, w_X7_count_69, w_X7_count_71, w_X7_count_72, w_X7_count_75, w_X7_count_78, w_X7_count_79, w_X7_count_80, w_X7_count_81, w_X7_count_82, w_X7_count_85, w_X7_count_86, w_X7_count_89, w_X7_count_92, w_X7_count_95, w_X7_count_96, w_X7_count_99, w_X7_count_100, w_X7_count_101, w_X7_count_102, w_X7_count_105, w_X7_count_108, w_X7_count_109, w_X7_count_110, w_X7_count_111, w_X7_count_113, w_X7_count_114, w_X7_count_117, w_X7_count_120, w_X7_count_121, w_X7_count_122, w_X7_count_125, w_X7_count_126, w_X7_count_127, w_X7_count_128, w_X7_count_129, w_X7_count_132, w_X7_count_135, w_X7_count_136, w_X7_count_137, w_X7_count_138, h0.2.1, h0.2.2.1, h0.2.2.2.2.1, h0.2.2.2.2.2]
  unfold qCount at kk
  by_cases b0 : a = 0
  · rw [if_pos b0] at kk ⊢; exact kk
  rw [if_neg b0] at kk ⊢
  by_cases b1 : a = 1
  · rw [if_pos b1] at kk ⊢; exact kk
  rw [if_neg b1] at kk ⊢
  by_cases b2 : a = 2
  · rw [if_pos b2] at kk ⊢; exact kk
  rw [if_neg b2] at kk ⊢
  by_cases b3 : a = 3
  · rw [if_pos b3] at kk ⊢; exact kk
  rw [if_neg b3] at kk ⊢
  by_cases b4 : a = 4
  · rw [if_pos b4] at kk ⊢; exact F_cnt4 h0 hD kk (nM N) 0 (by omega)
  rw [if_neg b4] at kk ⊢
  by_cases b5 : a = 5
  · rw [if_pos b5] at kk ⊢; exact F_cnt5 h0 kk (nM N) 0 (by omega)
  rw [if_neg b5] at kk ⊢
  exact kk
end MOT
