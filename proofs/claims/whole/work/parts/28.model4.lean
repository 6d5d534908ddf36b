/-! the reference: neighbours, alternates -/
def MF (d : mS) (N : Nt) (wt wh : Nat) : Prop := MI d N wt wh ∧ FarR d 0 N (gd N none)
noncomputable def soP (N : Nt) (s dd e u what : Nat) : Bool :=
  if what = 0 then decide (fr N u dd < smn (fr N u s) (fr N s dd)) else if what = 1 then decide (fr N u dd < fr N s dd) else if what = 2 then decide (e ≠ dd ∧ fr N u dd < smn (fr N u e) (fr N e dd)) else rsf N (lk N s u) (lk N s e)
noncomputable def onP (N : Nt) (s dd what u : Nat) : Bool := match nx N none dd s with
  | none => false
  | some e => decide (u ≠ e) && (lk N s u).isSome && soP N s dd e u what
def bestF (p : Nat → Bool) (w : Nat → Nat) : Nat → Option Nat
  | 0 => none
  | k + 1 => match bestF p w k with
    | none => if p k then some k else none
    | some b => if p k && decide (w k < w b) then some k else some b
theorem bestF_some {p : Nat → Bool} {w : Nat → Nat} {b : Nat} : ∀ {n : Nat}, bestF p w n = some b → b < n ∧ p b = true
  | 0, h => by cases h
  | n + 1, h => by
    unfold bestF at h
    cases hb : bestF p w n with
    | none =>
      rw [hb] at h
      dsimp only at h
      split at h
      · rename_i hp; cases h; exact ⟨by omega, hp⟩
      · cases h
    | some q =>
      rw [hb] at h
      dsimp only at h
      have := bestF_some hb
      split at h
      · rename_i hp; cases h; exact ⟨by omega, by simp at hp; exact hp.1⟩
      · cases h; exact ⟨by omega, this.2⟩
noncomputable def wth (N : Nt) (s dd u : Nat) : Nat := 100000 * (if onP N s dd 2 u then 0 else 1) + 50000 * (if onP N s dd 3 u then 0 else 1) + nC N ((lk N s u).getD 0) + fr N u dd
/-- ALTERNATE -/
noncomputable def altF (N : Nt) (s dd : Nat) : Option Nat := bestF (onP N s dd 0) (wth N s dd) (nN N)
theorem fr_inf {N : Nt} (hN : Nok N) {x y : Nat} (hx : x < nN N) (hy : y < nN N) : fr N x y ≤ INF := gd_inf hN hy hx
theorem fr_comm {N : Nt} (hN : Nok N) {x y : Nat} (hx : x < nN N) (hy : y < nN N) : fr N x y = fr N y x := gd_sym hN hy hx
section MO5
variable {d : mS} {N : Nt} {wt wh : Nat} {Q : Option Int32 → mS → Prop}
theorem F_far {x y : Nat} (h : MF d N wt wh) (hx : x < nN N) (hy : y < nN N) : WP mLayM 106 0 [some (.ref 0), some (.int (nI x)), some (.int (nI y))] [] d Q ↔ Q (some (nI (fr N x y))) d := M_farOf hx hy h.1 h.2
theorem F_next {x y : Nat} (h : MF d N wt wh) (hx : x < nN N) (hy : y < nN N) : WP mLayM 109 0 [some (.ref 0), some (.int 0), some (.int (nI x)), some (.int (nI y)), some (.int (-1)), none, none, none, none] [] d Q ↔ Q (some (en (nx N none y x))) d := M_next0 hx hy h.1 h.2
theorem F_link {x y : Nat} (h : MF d N wt wh) (hx : x < nN N) (hy : y < nN N) : WP mLayM 98 0 [some (.ref 0), some (.int (nI x)), some (.int (nI y)), none, none] [] d Q ↔ Q (some (en (lk N x y))) d := by
  have := h.1.1.2.1
  exact M_linkOf (by omega) (by omega) h.1
theorem F_isSo {s dd e u w : Nat} (h : MF d N wt wh) (hs : s < nN N) (hd : dd < nN N) (he : e < nN N) (hu : u < nN N) (h1 : (lk N s u).isSome) (h2 : (lk N s e).isSome) (hw : w ≤ 3) : WP mLayM 119 0 [some (.ref 0), some (.int (nI s)), some (.int (nI dd)), some (.int (nI e)), some (.int (nI u)), some (.int (nI w))] [] d Q ↔ Q (some (bi (soP N s dd e u w))) d := by
  have hN := h.1.1
  have h12 := hN.2.1
  have h24 := hN.2.2.1
  have hi : INF = 1000000 := rfl
  obtain ⟨l1, hl1⟩ := Option.isSome_iff_exists.mp h1
  obtain ⟨l2, hl2⟩ := Option.isSome_iff_exists.mp h2
  have b1 := (lk_some hl1).1
  have b2 := (lk_some hl2).1
  have e1 := (h.1.2.2.2.1 l1 b1).2.2.2
  have e2 := (h.1.2.2.2.1 l2 b2).2.2.2
  have i1 := fr_inf hN hu hd
  have i2 := fr_inf hN hu hs
  have i3 := fr_inf hN hs hd
  have i4 := fr_inf hN hu he
  have i5 := fr_inf hN he hd
  have s1 := smn_le (a := fr N u s) (b := fr N s dd)
  have s2 := smn_le (a := fr N u e) (b := fr N e dd)
  simp only [w_X7_isSo_0, w_X7_isSo_2, w_X7_isSo_28, w_X7_isSo_29, w_X7_isSo_31, w_X7_isSo_32, w_X7_isSo_35, w_X7_isSo_36, w_X7_isSo_38, w_X7_isSo_39, w_X7_isSo_42, w_X7_isSo_43, w_X7_isSo_44, w_X7_isSo_45, w_X7_isSo_48, w_X7_isSo_51, w_X7_isSo_54, w_X7_isSo_55, w_X7_isSo_58, w_X7_isSo_59, w_X7_isSo_60, w_X7_isSo_61, w_X7_isSo_63, w_X7_isSo_64, w_X7_isSo_67, w_X7_isSo_68, w_X7_isSo_69, w_X7_isSo_70, w_X7_isSo_73, w_X7_isSo_76, w_X7_isSo_77, w_X7_isSo_80, w_X7_isSo_81, w_X7_isSo_82, w_X7_isSo_83, w_X7_isSo_84, w_X7_isSo_87, w_X7_isSo_88, w_X7_isSo_90, w_X7_isSo_91, w_X7_isSo_94, w_X7_isSo_95, w_X7_isSo_97, w_X7_isSo_98, w_X7_isSo_101, w_X7_isSo_102, w_X7_isSo_103, w_X7_isSo_104, w_X7_isSo_107, w_X7_isSo_110, w_X7_isSo_113, w_X7_isSo_114, w_X7_isSo_117, w_X7_isSo_118, w_X7_isSo_119, w_X7_isSo_120, w_X7_isSo_123, w_X7_isSo_124, w_X7_isSo_125, w_X7_isSo_127, w_X7_isSo_130, w_X7_isSo_131, w_X7_isSo_132, w_X7_isSo_135, w_X7_isSo_136, w_X7_isSo_137, w_X7_isSo_138, w_X7_isSo_141, w_X7_isSo_142, w_X7_isSo_143, w_X7_isSo_146, w_X7_isSo_147, w_X7_isSo_150, w_X7_isSo_151, F_far h hu hd, F_far h hu hs, F_far h hs hd, F_far h hu he, F_far h he hd, F_link h hs hu, F_link h hs he, mKI_some, M_sum i2 i3, M_sum i4 i5, true_or, or_true, true_and, hl1, hl2, en_some]
  simp (disch := omega) only [kIn, kCl, e1, e2, kLe, kLt, kEq, kq0, kq1, kq2]
  simp only [show l1 < 24 by omega, show l2 < 24 by omega, true_and]
  unfold soP
  by_cases w0 : w = 0
  · subst w0
    simp only [if_true]
    by_cases c : smn (fr N u s) (fr N s dd) ≤ fr N u dd
    · rw [if_pos c, show decide (fr N u dd < smn (fr N u s) (fr N s dd)) = false by simp; exact c, bi_f]
    · rw [if_neg c, show decide (fr N u dd < smn (fr N u s) (fr N s dd)) = true by simp; omega, bi_t]
  · simp only [w0, if_false]
    by_cases w1 : w = 1
    · subst w1
      simp only [if_true]
      by_cases c : fr N s dd ≤ fr N u dd
      · rw [if_pos c, show decide (fr N u dd < fr N s dd) = false by simp; exact c, bi_f]
      · rw [if_neg c, show decide (fr N u dd < fr N s dd) = true by simp; omega, bi_t]
    · simp only [w1, if_false]
      by_cases w2 : w = 2
      · subst w2
        simp only [if_true]
        by_cases c0 : e = dd
        · rw [if_pos c0, show decide (e ≠ dd ∧ fr N u dd < smn (fr N u e) (fr N e dd)) = false by simp [c0], bi_f]
        · rw [if_neg c0]
          by_cases c : smn (fr N u e) (fr N e dd) ≤ fr N u dd
          · rw [if_pos c, show decide (e ≠ dd ∧ fr N u dd < smn (fr N u e) (fr N e dd)) = false by simp; intro _; exact c, bi_f]
          · rw [if_neg c, show decide (e ≠ dd ∧ fr N u dd < smn (fr N u e) (fr N e dd)) = true by simp; exact ⟨c0, by omega⟩, bi_t]
      · simp only [w2, if_false, rsf, hl1, hl2]
        by_cases c : nI (nG N l1) &&& nI (nG N l2) = 0
        · rw [if_neg (fun q => q c), decide_eq_true c, bi_t]
        · rw [if_pos c, decide_eq_false c, bi_f]
theorem F_onesOf_loop {s dd w : Nat} (h : MF d N wt wh) (hs : s < nN N) (hd : dd < nN N) (hw : w ≤ 3) : ∀ (k j : Nat), j + k = nN N → (WP mLayM 120 16 [some (.ref 0), some (.int (nI s)), some (.int (nI dd)), some (.int (nI w)), some (.int (en (nx N none dd s))), some (.int (mkS (onP N s dd w) j)), some (.int (nI j))] [] d Q ↔ Q (some (mkS (onP N s dd w) (nN N))) d) := by
  have hN := h.1.1
  have h12 := hN.2.1
  have h24 := hN.2.2.1
  intro k
  induction k with
  | zero =>
    intro j hj
    rw [w_X7_onesOf_16]
    simp only [w_X7_onesOf_0, w_X7_onesOf_1, w_X7_onesOf_2, w_X7_onesOf_3, w_X7_onesOf_4, w_X7_onesOf_5, w_X7_onesOf_8, w_X7_onesOf_10, w_X7_onesOf_11, w_X7_onesOf_13, w_X7_onesOf_14, w_X7_onesOf_18, w_X7_onesOf_19, w_X7_onesOf_22, w_X7_onesOf_25, w_X7_onesOf_27, w_X7_onesOf_30, w_X7_onesOf_32, w_X7_onesOf_34, w_X7_onesOf_36, w_X7_onesOf_39, w_X7_onesOf_40, w_X7_onesOf_41, w_X7_onesOf_43, w_X7_onesOf_46, w_X7_onesOf_49, w_X7_onesOf_50, w_X7_onesOf_51, w_X7_onesOf_52, w_X7_onesOf_54, w_X7_onesOf_56, w_X7_onesOf_57, w_X7_onesOf_60, w_X7_onesOf_63, w_X7_onesOf_64, w_X7_onesOf_66, w_X7_onesOf_67, w_X7_onesOf_70, w_X7_onesOf_71, w_X7_onesOf_72, w_X7_onesOf_74, w_X7_onesOf_77, w_X7_onesOf_80, w_X7_onesOf_82, h.1.2.1]
    rw [if_pos ((kLe (by omega) (by omega)).mpr (by omega)), show j = nN N by omega]
  | succ k ih =>
    intro j hj
    have ih := ih (j + 1) (by omega)
    rw [w_X7_onesOf_16]
    simp only [w_X7_onesOf_0, w_X7_onesOf_1, w_X7_onesOf_2, w_X7_onesOf_3, w_X7_onesOf_4, w_X7_onesOf_5, w_X7_onesOf_8, w_X7_onesOf_10, w_X7_onesOf_11, w_X7_onesOf_13, w_X7_onesOf_14, w_X7_onesOf_18, w_X7_onesOf_19, w_X7_onesOf_22, w_X7_onesOf_25, w_X7_onesOf_27, w_X7_onesOf_30, w_X7_onesOf_32, w_X7_onesOf_34, w_X7_onesOf_36, w_X7_onesOf_39, w_X7_onesOf_40, w_X7_onesOf_41, w_X7_onesOf_43, w_X7_onesOf_46, w_X7_onesOf_49, w_X7_onesOf_50, w_X7_onesOf_51, w_X7_onesOf_52, w_X7_onesOf_54, w_X7_onesOf_56, w_X7_onesOf_57, w_X7_onesOf_60, w_X7_onesOf_63, w_X7_onesOf_64, w_X7_onesOf_66, w_X7_onesOf_67, w_X7_onesOf_70, w_X7_onesOf_71, w_X7_onesOf_72, w_X7_onesOf_74, w_X7_onesOf_77, w_X7_onesOf_80, w_X7_onesOf_82, h.1.2.1]
    rw [if_neg (fun q => by rw [kLe (by omega) (by omega)] at q; omega)]
    have hp : onP N s dd w j = (match nx N none dd s with
      | none => false
      | some e => decide (j ≠ e) && (lk N s j).isSome && soP N s dd e j w) := rfl
    cases hx : nx N none dd s with
    | none =>
      simp only [en_none, kn1, if_true]
      have : ∀ n, mkS (onP N s dd w) n = 0 := fun n => mk_none (fun k _ => by unfold onP; rw [hx])
      rw [this, this]
    | some e =>
      rw [hx] at ih hp
      dsimp only at hp
      have he := (nx_some hx).1
      have hle : (lk N s e).isSome := by obtain ⟨l, h1, -⟩ := (nx_some hx).2; rw [h1]; rfl
      rw [mkS_s, hp] at ih
      simp (disch := omega) only [en_some, k0lt, if_false, kEq, F_link h hs (show j < nN N by omega), mKI_some, nI_1]
      by_cases c1 : j = e
      · rw [if_pos c1]
        rw [if_neg (by simp [c1])] at ih
        exact ih
      · rw [if_neg c1]
        cases hl : lk N s j with
        | none =>
          simp only [en_none, kn1, if_true]
          rw [if_neg (by simp [hl])] at ih
          exact ih
        | some l =>
          have b1 := (lk_some hl).1
          have hls : (lk N s j).isSome := by rw [hl]; rfl
          simp (disch := omega) only [en_some, k0lt, if_false, F_isSo h hs hd he (show j < nN N by omega) hls hle hw, mKI_some, bi_0]
          cases hso : soP N s dd e j w with
          | false =>
            rw [if_pos rfl]
            rw [if_neg (by simp [hso])] at ih
            exact ih
          | true =>
            rw [if_neg (by decide)]
            rw [if_pos (by simp [c1, hl, hso])] at ih
            exact ih
theorem F_onesOf {s dd w : Nat} (h : MF d N wt wh) (hs : s < nN N) (hd : dd < nN N) (hw : w ≤ 3) : WP mLayM 120 0 [some (.ref 0), some (.int (nI s)), some (.int (nI dd)), some (.int (nI w)), none, none, none] [] d Q ↔ Q (some (mkS (onP N s dd w) (nN N))) d := by
  simp only [w_X7_onesOf_0, w_X7_onesOf_1, w_X7_onesOf_2, w_X7_onesOf_3, w_X7_onesOf_4, w_X7_onesOf_5, w_X7_onesOf_8, w_X7_onesOf_10, w_X7_onesOf_11, w_X7_onesOf_13, w_X7_onesOf_14, w_X7_onesOf_18, w_X7_onesOf_19, w_X7_onesOf_22, w_X7_onesOf_25, w_X7_onesOf_27, w_X7_onesOf_30, w_X7_onesOf_32, w_X7_onesOf_34, w_X7_onesOf_36, w_X7_onesOf_39, w_X7_onesOf_40, w_X7_onesOf_41, w_X7_onesOf_43, w_X7_onesOf_46, w_X7_onesOf_49, w_X7_onesOf_50, w_X7_onesOf_51, w_X7_onesOf_52, w_X7_onesOf_54, w_X7_onesOf_56, w_X7_onesOf_57, w_X7_onesOf_60, w_X7_onesOf_63, w_X7_onesOf_64, w_X7_onesOf_66, w_X7_onesOf_67, w_X7_onesOf_70, w_X7_onesOf_71, w_X7_onesOf_72, w_X7_onesOf_74, w_X7_onesOf_77, w_X7_onesOf_80, w_X7_onesOf_82, F_next h hs hd, mKI_some]
  exact F_onesOf_loop h hs hd hw (nN N) 0 (by omega)
theorem F_worth {s dd u : Nat} (h : MF d N wt wh) (hs : s < nN N) (hd : dd < nN N) (hu : u < nN N) (h1 : (lk N s u).isSome) : WP mLayM 121 0 [some (.ref 0), some (.int (nI s)), some (.int (nI dd)), some (.int (nI u)), none, none] [] d Q ↔ Q (some (nI (wth N s dd u))) d := by
  have hN := h.1.1
  have h12 := hN.2.1
  have h24 := hN.2.2.1
  obtain ⟨l1, hl1⟩ := Option.isSome_iff_exists.mp h1
  have b1 := (lk_some hl1).1
  have e3 := (h.1.2.2.2.1 l1 b1).2.2.1
  have f2 := fun Q => F_onesOf (Q := Q) (w := 2) h hs hd (by omega)
  have f3 := fun Q => F_onesOf (Q := Q) (w := 3) h hs hd (by omega)
  rw [show (nI 2 : Int32) = 2 from rfl] at f2
  rw [show (nI 3 : Int32) = 3 from rfl] at f3
  simp only [w_X7_worth_0, w_X7_worth_1, w_X7_worth_2, w_X7_worth_3, w_X7_worth_4, w_X7_worth_7, w_X7_worth_8, w_X7_worth_9, w_X7_worth_10, w_X7_worth_11, w_X7_worth_13, w_X7_worth_14, w_X7_worth_15, w_X7_worth_16, w_X7_worth_17, w_X7_worth_20, w_X7_worth_21, w_X7_worth_22, w_X7_worth_23, w_X7_worth_24, w_X7_worth_26, w_X7_worth_28, w_X7_worth_29, w_X7_worth_31, w_X7_worth_32, w_X7_worth_33, w_X7_worth_35, w_X7_worth_36, w_X7_worth_38, w_X7_worth_39, w_X7_worth_40, w_X7_worth_41, w_X7_worth_42, w_X7_worth_45, w_X7_worth_46, w_X7_worth_47, w_X7_worth_48, w_X7_worth_51, w_X7_worth_52, w_X7_worth_53, w_X7_worth_54, w_X7_worth_55, w_X7_worth_56, w_X7_worth_59, w_X7_worth_60, f2, f3, mKI_some, F_link h hs hu, F_far h hu hd, hl1, en_some]
  simp (disch := omega) only [kIn, kCl, e3, mk_ask (show nN N ≤ 32 by omega) hu]
  simp only [show l1 < 24 by omega, true_and]
  have key : ∀ (x y : Bool), (100000 : Int32) * (1 - bi x) + 50000 * (1 - bi y) = nI (100000 * (if x then 0 else 1) + 50000 * (if y then 0 else 1)) := by decide
  rw [key, nI_add, nI_add]
  unfold wth
  rw [hl1]
  exact Iff.rfl
theorem F_alt_loop {s dd : Nat} (h : MF d N wt wh) (hs : s < nN N) (hd : dd < nN N) : ∀ (k j : Nat), j + k = nN N → (WP mLayM 122 14 [some (.ref 0), some (.int (nI s)), some (.int (nI dd)), some (.int (mkS (onP N s dd 0) (nN N))), some (.int (en (bestF (onP N s dd 0) (wth N s dd) j))), some (.int (nI j))] [] d Q ↔ Q (some (en (altF N s dd))) d) := by
  have hN := h.1.1
  have h12 := hN.2.1
  have h24 := hN.2.2.1
  intro k
  induction k with
  | zero =>
    intro j hj
    rw [w_X7_alternateOf_14]
    simp only [w_X7_alternateOf_0, w_X7_alternateOf_1, w_X7_alternateOf_2, w_X7_alternateOf_3, w_X7_alternateOf_4, w_X7_alternateOf_7, w_X7_alternateOf_8, w_X7_alternateOf_9, w_X7_alternateOf_11, w_X7_alternateOf_12, w_X7_alternateOf_16, w_X7_alternateOf_17, w_X7_alternateOf_20, w_X7_alternateOf_23, w_X7_alternateOf_24, w_X7_alternateOf_26, w_X7_alternateOf_27, w_X7_alternateOf_28, w_X7_alternateOf_29, w_X7_alternateOf_30, w_X7_alternateOf_33, w_X7_alternateOf_35, w_X7_alternateOf_38, w_X7_alternateOf_39, w_X7_alternateOf_40, w_X7_alternateOf_41, w_X7_alternateOf_43, w_X7_alternateOf_46, w_X7_alternateOf_47, w_X7_alternateOf_48, w_X7_alternateOf_49, w_X7_alternateOf_51, w_X7_alternateOf_54, w_X7_alternateOf_57, w_X7_alternateOf_59, w_X7_alternateOf_62, w_X7_alternateOf_64, w_X7_alternateOf_66, w_X7_alternateOf_69, w_X7_alternateOf_72, w_X7_alternateOf_74, h.1.2.1]
    rw [if_pos ((kLe (by omega) (by omega)).mpr (by omega)), show j = nN N by omega]
    exact Iff.rfl
  | succ k ih =>
    intro j hj
    have ih := ih (j + 1) (by omega)
    rw [w_X7_alternateOf_14]
    simp only [w_X7_alternateOf_0, w_X7_alternateOf_1, w_X7_alternateOf_2, w_X7_alternateOf_3, w_X7_alternateOf_4, w_X7_alternateOf_7, w_X7_alternateOf_8, w_X7_alternateOf_9, w_X7_alternateOf_11, w_X7_alternateOf_12, w_X7_alternateOf_16, w_X7_alternateOf_17, w_X7_alternateOf_20, w_X7_alternateOf_23, w_X7_alternateOf_24, w_X7_alternateOf_26, w_X7_alternateOf_27, w_X7_alternateOf_28, w_X7_alternateOf_29, w_X7_alternateOf_30, w_X7_alternateOf_33, w_X7_alternateOf_35, w_X7_alternateOf_38, w_X7_alternateOf_39, w_X7_alternateOf_40, w_X7_alternateOf_41, w_X7_alternateOf_43, w_X7_alternateOf_46, w_X7_alternateOf_47, w_X7_alternateOf_48, w_X7_alternateOf_49, w_X7_alternateOf_51, w_X7_alternateOf_54, w_X7_alternateOf_57, w_X7_alternateOf_59, w_X7_alternateOf_62, w_X7_alternateOf_64, w_X7_alternateOf_66, w_X7_alternateOf_69, w_X7_alternateOf_72, w_X7_alternateOf_74, h.1.2.1]
    rw [if_neg (fun q => by rw [kLe (by omega) (by omega)] at q; omega)]
    have hj2 : j < nN N := by omega
    have lkof : ∀ u, onP N s dd 0 u = true → (lk N s u).isSome := by
      intro u hu
      unfold onP at hu
      split at hu
      · cases hu
      · simp at hu; exact hu.1.2
    have wbd : ∀ u, u < nN N → (lk N s u).isSome → wth N s dd u < 2 ^ 31 := by
      intro u hu hl
      obtain ⟨l, hl1⟩ := Option.isSome_iff_exists.mp hl
      have g := (hN.2.2.2.1 l (lk_some hl1).1).2.2.2.2.1
      have i1 := fr_inf hN hu hd
      have hi : INF = 1000000 := rfl
      unfold wth
      rw [hl1, Option.getD_some]
      split <;> split <;> omega
    simp (disch := omega) only [mk_ask (show nN N ≤ 32 by omega) hj2, bi_1, nI_1]
    have hst : bestF (onP N s dd 0) (wth N s dd) (j + 1) = (match bestF (onP N s dd 0) (wth N s dd) j with
      | none => if onP N s dd 0 j then some j else none
      | some b => if onP N s dd 0 j && decide (wth N s dd j < wth N s dd b) then some j else some b) := rfl
    rw [hst] at ih
    cases hp : onP N s dd 0 j with
    | false =>
      rw [hp] at ih
      rw [if_pos (by decide)]
      cases hb : bestF (onP N s dd 0) (wth N s dd) j with
      | none => rw [hb] at ih; exact ih
      | some b => rw [hb] at ih; exact ih
    | true =>
      rw [hp] at ih
      rw [if_neg (by decide)]
      cases hb : bestF (onP N s dd 0) (wth N s dd) j with
      | none =>
        rw [hb] at ih
        simp only [en_none, kn1, if_true]
        exact ih
      | some b =>
        rw [hb] at ih
        dsimp only at ih
        obtain ⟨hb1, hb2⟩ := bestF_some hb
        have lj := lkof j hp
        have lb := lkof b hb2
        have wj := wbd j hj2 lj
        have wb := wbd b (by omega) lb
        simp (disch := omega) only [en_some, k0lt, if_false, F_worth h hs hd hj2 lj, F_worth h hs hd (show b < nN N by omega) lb, mKI_some, kLe]
        by_cases c : wth N s dd b ≤ wth N s dd j
        · rw [if_pos c]
          rw [if_neg (by simp; exact c)] at ih
          exact ih
        · rw [if_neg c]
          rw [if_pos (by simp; omega)] at ih
          exact ih
theorem F_alt {s dd : Nat} (h : MF d N wt wh) (hs : s < nN N) (hd : dd < nN N) : WP mLayM 122 0 [some (.ref 0), some (.int (nI s)), some (.int (nI dd)), none, none, none] [] d Q ↔ Q (some (en (altF N s dd))) d := by
  have f2 := fun Q => F_onesOf (Q := Q) (w := 0) h hs hd (by omega)
  rw [show (nI 0 : Int32) = 0 from rfl] at f2
  simp only [w_X7_alternateOf_0, w_X7_alternateOf_1, w_X7_alternateOf_2, w_X7_alternateOf_3, w_X7_alternateOf_4, w_X7_alternateOf_7, w_X7_alternateOf_8, w_X7_alternateOf_9, w_X7_alternateOf_11, w_X7_alternateOf_12, w_X7_alternateOf_16, w_X7_alternateOf_17, w_X7_alternateOf_20, w_X7_alternateOf_23, w_X7_alternateOf_24, w_X7_alternateOf_26, w_X7_alternateOf_27, w_X7_alternateOf_28, w_X7_alternateOf_29, w_X7_alternateOf_30, w_X7_alternateOf_33, w_X7_alternateOf_35, w_X7_alternateOf_38, w_X7_alternateOf_39, w_X7_alternateOf_40, w_X7_alternateOf_41, w_X7_alternateOf_43, w_X7_alternateOf_46, w_X7_alternateOf_47, w_X7_alternateOf_48, w_X7_alternateOf_49, w_X7_alternateOf_51, w_X7_alternateOf_54, w_X7_alternateOf_57, w_X7_alternateOf_59, w_X7_alternateOf_62, w_X7_alternateOf_64, w_X7_alternateOf_66, w_X7_alternateOf_69, w_X7_alternateOf_72, w_X7_alternateOf_74, f2, mKI_some]
  exact F_alt_loop h hs hd (nN N) 0 (by omega)
/-- two arguments that are NODES -/
def two (N : Nt) (a b : Int32) : Option (Nat × Nat) := match ix (nN N) a, ix (nN N) b with
  | some x, some y => some (x, y)
  | _, _ => none
theorem two_some {a b : Int32} {x y : Nat} (hN : Nok N) (h : two N a b = some (x, y)) : a = nI x ∧ b = nI y ∧ x < nN N ∧ y < nN N := by
  have h12 := hN.2.1
  unfold two at h
  split at h
  · rename_i x' y' h1 h2
    cases h
    obtain ⟨a1, a2⟩ := ix_some (by omega) h1
    obtain ⟨b1, b2⟩ := ix_some (by omega) h2
    exact ⟨a1, b1, a2, b2⟩
  · cases h
noncomputable def wnb (N : Nt) (a b : Int32) : Bool := match two N a b with
  | some (x, y) => (nx N none y x).isSome
  | none => false
theorem F_isWithNext {a b : Int32} (h : MF d N wt wh) : WP mLayM 123 0 [some (.ref 0), some (.int a), some (.int b)] [] d Q ↔ Q (some (bi (wnb N a b))) d := by
  have hN := h.1.1
  have h12 := hN.2.1
  simp only [w_X7_isWithNext_0, w_X7_isWithNext_1, w_X7_isWithNext_2, w_X7_isWithNext_5, w_X7_isWithNext_8, w_X7_isWithNext_9, w_X7_isWithNext_10, w_X7_isWithNext_13, w_X7_isWithNext_16, w_X7_isWithNext_17, w_X7_isWithNext_18, w_X7_isWithNext_19, w_X7_isWithNext_20, w_X7_isWithNext_21, w_X7_isWithNext_24, w_X7_isWithNext_27, w_X7_isWithNext_28, w_X7_isWithNext_31, w_X7_isWithNext_32, M_isNode h.1, mKI_some, bi_0, true_or, or_true, true_and]
  unfold wnb two
  cases h1 : ix (nN N) a with
  | none => simp [bi]
  | some x =>
    cases h2 : ix (nN N) b with
    | none => simp [bi]
    | some y =>
      obtain ⟨rfl, hx⟩ := ix_some (by omega) h1
      obtain ⟨rfl, hy⟩ := ix_some (by omega) h2
      simp only [F_next h hx hy, mKI_some, Option.isSome_some, Bool.true_eq_false, if_false]
      cases hn : nx N none y x with
      | none => simp [en, kn1, bi]
      | some e =>
        have := (nx_some hn).1
        rw [en_some, if_neg (nI_pos (by omega))]
        exact Iff.rfl
end MO5
