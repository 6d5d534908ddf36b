/-! the class: what a plan chooses -/
section PL3
variable {c : mS} {N : Nt} {wt wh : Nat} {Q : Option Int32 → mS → Prop} {s dd e l : Nat} {a b : Int32}
theorem c_hasM {p : Nat → Bool} {n k : Nat} (hn : n ≤ 32) (hk : k < n) : WP mLayH 87 0 [some (.int (mkS p n)), some (.int (nI k))] [] c Q ↔ Q (some (bi (p k))) c := by
  rw [c_has (by omega), bt_mk hn (by omega), decide_eq_true hk, Bool.true_and]
theorem PL_up {j : Nat} {v : Int32} (h : PL c N s dd e l) (hj : 11 ≤ j) : PL (mUp c 3 j v) N s dd e l := by
  obtain ⟨h1, h2⟩ := h
  refine ⟨JI_up h1 (by omega), ?_⟩
  rw [mUp_j (by omega), mUp_j (by omega), mUp_j (by omega), mUp_j (by omega), mUp_j (by omega), mUp_j (by omega)]
  exact h2
theorem CS_up3 {j : Nat} {v : Int32} (h : CS c N wt wh) : CS (mUp c 3 j v) N wt wh := CS_scr h (scr_but but1_up (by omega))
/-- onesThatAre -/
noncomputable def onO (N : Nt) (s dd : Nat) (a : Int32) : Int32 := match ix 4 a with
  | some w => mkS (onP N s dd w) (nN N)
  | none => 0
theorem C_ones (hP : PL c N s dd e l) : WP mLayH 48 0 [some (.ref 3), some (.int a)] [] c Q ↔ Q (some (onO N s dd a)) c := by
  simp only [w_X5_onesThatAre_0, w_X5_onesThatAre_1, w_X5_onesThatAre_32, w_X5_onesThatAre_33, w_X5_onesThatAre_36, w_X5_onesThatAre_37, w_X5_onesThatAre_38, w_X5_onesThatAre_41, w_X5_onesThatAre_42, w_X5_onesThatAre_43, w_X5_onesThatAre_46, w_X5_onesThatAre_47, w_X5_onesThatAre_48, w_X5_onesThatAre_51, w_X5_onesThatAre_52, w_X5_onesThatAre_53, hP.2.2.2.1, hP.2.2.2.2.1, hP.2.2.2.2.2.1, hP.2.2.2.2.2.2]
  unfold onO
  by_cases h0 : a = 0
  · subst h0; rw [if_pos rfl, show ix 4 0 = some 0 from rfl]
  by_cases h1 : a = 1
  · subst h1; rw [if_neg h0, if_pos rfl, show ix 4 1 = some 1 from rfl]
  by_cases h2 : a = 2
  · subst h2; rw [if_neg h0, if_neg h1, if_pos rfl, show ix 4 2 = some 2 from rfl]
  by_cases h3 : a = 3
  · subst h3; rw [if_neg h0, if_neg h1, if_neg h2, if_pos rfl, show ix 4 3 = some 3 from rfl]
  rw [if_neg h0, if_neg h1, if_neg h2, if_neg h3]
  cases hi : ix 4 a with
  | none => exact Iff.rfl
  | some w =>
    obtain ⟨rfl, hw⟩ := ix_some (by decide) hi
    rcases (show w = 0 ∨ w = 1 ∨ w = 2 ∨ w = 3 by omega) with rfl | rfl | rfl | rfl
    · exact absurd rfl h0
    · exact absurd rfl h1
    · exact absurd rfl h2
    · exact absurd rfl h3
noncomputable def rnk (N : Nt) (s dd u : Nat) : Nat := ctO N (lk N s u) + fr N u dd + (if onP N s dd 2 u then 0 else 20000) + (if onP N s dd 3 u then 0 else 10000)
theorem on_lk (hx : HX N s dd e l) {w u : Nat} (h : onP N s dd w u = true) : ∃ l2, lk N s u = some l2 ∧ u ≠ e := by
  rw [onP_ot hx, Bool.and_eq_true] at h
  have h1 := h.1
  unfold otP at h1
  rw [Bool.and_eq_true, decide_eq_true_iff] at h1
  obtain ⟨l2, hl2⟩ := Option.isSome_iff_exists.mp h1.2
  exact ⟨l2, hl2, h1.1⟩
theorem rnk_lt (hN : Nok N) (hx : HX N s dd e l) {k b : Nat} (hk : k < nN N) (hb : b < nN N) (h1 : onP N s dd 0 k = true) (h2 : onP N s dd 0 b = true) : (rnk N s dd k < rnk N s dd b) ↔ (wth N s dd k < wth N s dd b) := by
  obtain ⟨l1, e1, -⟩ := on_lk hx h1
  obtain ⟨l2, e2, -⟩ := on_lk hx h2
  have c1 := (hN.2.2.2.1 l1 (lk_some e1).1).2.2.2.2.1
  have c2 := (hN.2.2.2.1 l2 (lk_some e2).1).2.2.2.2.1
  have f1 := fr_lk hN e1
  have f2 := fr_lk hN e2
  have f3 := (HX_far hN hx).2.1
  have t1 := fr_tri hN hk hx.1 hx.2.1
  have t2 := fr_tri hN hb hx.1 hx.2.1
  unfold rnk wth
  rw [e1, e2]
  show (nC N l1 + _ + _ + _ < nC N l2 + _ + _ + _) ↔ _
  show _ ↔ (_ + _ + nC N l1 + _ < _ + _ + nC N l2 + _)
  cases onP N s dd 2 k <;> cases onP N s dd 3 k <;> cases onP N s dd 2 b <;> cases onP N s dd 3 b <;> simp only [if_true, Bool.false_eq_true, if_false] <;> omega
theorem best89 {o : Option Nat} {lw j x : Nat} (h : CS c N wt wh) (hP : PL c N s dd e l) (hj : j < nN N) (ho : ∀ b, o = some b → b < 12) (hlw : lw < 2 ^ 30) (hx : x < 2 ^ 30) : WP mLayH 49 89 [some (.ref 3), some (.ref 1), some (.int (en o)), some (.int (nI lw)), some (.int (nI j)), some (.int (nI x))] [] c Q ↔
    (if onP N s dd 0 j = true ∧ (o = none ∨ x < lw) then WP mLayH 49 7 [some (.ref 3), some (.ref 1), some (.int (nI j)), some (.int (nI x)), some (.int (nI (j + 1))), some (.int (nI x))] [] c Q else WP mLayH 49 7 [some (.ref 3), some (.ref 1), some (.int (en o)), some (.int (nI lw)), some (.int (nI (j + 1))), some (.int (nI x))] [] c Q) := by
  have h12 := h.1.1.2.1
  simp (disch := omega) only [w_X5_bestOther_89, w_X5_bestOther_90, w_X5_bestOther_93, w_X5_bestOther_95, w_X5_bestOther_98, w_X5_bestOther_101, w_X5_bestOther_102, w_X5_bestOther_103, w_X5_bestOther_106, w_X5_bestOther_108, w_X5_bestOther_109, w_X5_bestOther_112, w_X5_bestOther_114, w_X5_bestOther_115, w_X5_bestOther_117, w_X5_bestOther_118, w_X5_bestOther_121, hP.2.2.2.1, mKI_some, c_hasM (show nN N ≤ 32 by omega) hj, kLe, nI_1]
  cases onP N s dd 0 j with
  | false => rw [if_pos bf0, if_neg (fun q => by cases q.1)]
  | true =>
    rw [if_neg bt1]
    cases o with
    | none => rw [en_none, if_pos rfl, if_pos ⟨rfl, Or.inl rfl⟩]
    | some b =>
      have := ho b rfl
      rw [en_some, if_neg (fun q => (kNe (by omega)).mp q)]
      by_cases e : lw ≤ x
      · rw [if_pos e, if_neg (fun q => by rcases q.2 with z | z; cases z; omega)]
      · rw [if_neg e, if_pos ⟨rfl, Or.inr (by omega)⟩]
theorem best65 {o : Int32} {lw j x : Nat} (h : CS c N wt wh) (hP : PL c N s dd e l) (hj : j < nN N) : WP mLayH 49 65 [some (.ref 3), some (.ref 1), some (.int o), some (.int (nI lw)), some (.int (nI j)), some (.int (nI x))] [] c Q ↔
    WP mLayH 49 89 [some (.ref 3), some (.ref 1), some (.int o), some (.int (nI lw)), some (.int (nI j)), some (.int (nI (x + (if onP N s dd 3 j then 0 else 10000))))] [] c Q := by
  have h12 := h.1.1.2.1
  simp (disch := omega) only [w_X5_bestOther_65, w_X5_bestOther_67, w_X5_bestOther_68, w_X5_bestOther_71, w_X5_bestOther_73, w_X5_bestOther_76, w_X5_bestOther_79, w_X5_bestOther_80, w_X5_bestOther_83, w_X5_bestOther_86, w_X5_bestOther_87, hP.2.2.2.2.2.2, mKI_some, c_hasM (show nN N ≤ 32 by omega) hj]
  cases onP N s dd 3 j with
  | false => rw [if_pos bf0, if_neg (by decide), show (10000 : Int32) = nI 10000 from rfl, nI_add]
  | true => rw [if_neg bt1, if_pos rfl, show (0 : Int32) = nI 0 from rfl, nI_add]
theorem best41 {o : Int32} {lw j x : Nat} (h : CS c N wt wh) (hP : PL c N s dd e l) (hj : j < nN N) : WP mLayH 49 41 [some (.ref 3), some (.ref 1), some (.int o), some (.int (nI lw)), some (.int (nI j)), some (.int (nI x))] [] c Q ↔
    WP mLayH 49 65 [some (.ref 3), some (.ref 1), some (.int o), some (.int (nI lw)), some (.int (nI j)), some (.int (nI (x + (if onP N s dd 2 j then 0 else 20000))))] [] c Q := by
  have h12 := h.1.1.2.1
  simp (disch := omega) only [w_X5_bestOther_41, w_X5_bestOther_43, w_X5_bestOther_44, w_X5_bestOther_47, w_X5_bestOther_49, w_X5_bestOther_52, w_X5_bestOther_55, w_X5_bestOther_56, w_X5_bestOther_59, w_X5_bestOther_62, w_X5_bestOther_63, hP.2.2.2.2.2.1, mKI_some, c_hasM (show nN N ≤ 32 by omega) hj]
  cases onP N s dd 2 j with
  | false => rw [if_pos bf0, if_neg (by decide), show (20000 : Int32) = nI 20000 from rfl, nI_add]
  | true => rw [if_neg bt1, if_pos rfl, show (0 : Int32) = nI 0 from rfl, nI_add]
theorem best_loop (h : CS c N wt wh) (hx : HX N s dd e l) (hP : PL c N s dd e l) : ∀ (k j lw : Nat) (l5 : Option Value), j + k = nN N → lw < 2 ^ 30 → (∀ b, bestF (onP N s dd 0) (wth N s dd) j = some b → lw = rnk N s dd b) →
    (WP mLayH 49 7 [some (.ref 3), some (.ref 1), some (.int (en (bestF (onP N s dd 0) (wth N s dd) j))), some (.int (nI lw)), some (.int (nI j)), l5] [] c Q ↔ Q (some (en (altF N s dd))) c) := by
  have hN := h.1.1
  have h12 := hN.2.1
  have hi : INF = 1000000 := rfl
  obtain ⟨hs, hd, he, hnx, hlk, hl⟩ := hx
  have hx : HX N s dd e l := ⟨hs, hd, he, hnx, hlk, hl⟩
  intro k
  induction k with
  | zero =>
    intro j lw l5 hj _ _
    rw [w_X5_bestOther_7]
    simp only [w_X5_bestOther_0, w_X5_bestOther_1, w_X5_bestOther_2, w_X5_bestOther_3, w_X5_bestOther_4, w_X5_bestOther_5, w_X5_bestOther_9, w_X5_bestOther_10, w_X5_bestOther_13, w_X5_bestOther_16, w_X5_bestOther_17, w_X5_bestOther_18, w_X5_bestOther_21, w_X5_bestOther_23, w_X5_bestOther_26, w_X5_bestOther_27, w_X5_bestOther_30, w_X5_bestOther_32, w_X5_bestOther_33, w_X5_bestOther_34, w_X5_bestOther_37, w_X5_bestOther_38, w_X5_bestOther_39, w_X5_bestOther_41, w_X5_bestOther_43, w_X5_bestOther_44, w_X5_bestOther_47, w_X5_bestOther_49, w_X5_bestOther_52, w_X5_bestOther_55, w_X5_bestOther_56, w_X5_bestOther_59, w_X5_bestOther_62, w_X5_bestOther_63, w_X5_bestOther_65, w_X5_bestOther_67, w_X5_bestOther_68, w_X5_bestOther_71, w_X5_bestOther_73, w_X5_bestOther_76, w_X5_bestOther_79, w_X5_bestOther_80, w_X5_bestOther_83, w_X5_bestOther_86, w_X5_bestOther_87, w_X5_bestOther_89, w_X5_bestOther_90, w_X5_bestOther_93, w_X5_bestOther_95, w_X5_bestOther_98, w_X5_bestOther_101, w_X5_bestOther_102, w_X5_bestOther_103, w_X5_bestOther_106, w_X5_bestOther_108, w_X5_bestOther_109, w_X5_bestOther_112, w_X5_bestOther_114, w_X5_bestOther_115, w_X5_bestOther_117, w_X5_bestOther_118, w_X5_bestOther_121, w_X5_bestOther_124, w_X5_bestOther_125, h.1.2.1]
    rw [if_pos ((kLe (by omega) (by omega)).mpr (by omega)), show j = nN N by omega]
    exact Iff.rfl
  | succ k ih =>
    intro j lw l5 hj hlw hb
    have hjn : j < nN N := by omega
    have f1 := fr_inf hN hjn hd
    have hct : ctO N (lk N s j) ≤ 1000000 := by
      cases hl2 : lk N s j with
      | none => exact Nat.le_refl _
      | some l2 =>
        have := (hN.2.2.2.1 l2 (lk_some hl2).1).2.2.2.2.1
        show nC N l2 ≤ 1000000
        omega
    rw [w_X5_bestOther_7]
    simp (disch := omega) only [w_X5_bestOther_9, w_X5_bestOther_10, w_X5_bestOther_13, w_X5_bestOther_16, w_X5_bestOther_17, w_X5_bestOther_18, w_X5_bestOther_21, w_X5_bestOther_23, w_X5_bestOther_26, w_X5_bestOther_27, w_X5_bestOther_30, w_X5_bestOther_32, w_X5_bestOther_33, w_X5_bestOther_34, w_X5_bestOther_37, w_X5_bestOther_38, w_X5_bestOther_39, h.1.2.1, hP.1.1, hP.1.2.1, C_costAt h.1, lkI_nI hN hs hjn, mKI_some, kIn, kCl, CS_far h hjn hd, show j < 12 by omega, show dd < 12 by omega, show j < 36 by omega, true_and, nI_add]
    rw [if_neg (fun q => by rw [kLe (by omega) (by omega)] at q; omega), best41 h hP hjn, best65 h hP hjn]
    have hw2 : (if onP N s dd 2 j = true then 0 else 20000) ≤ 20000 := by split <;> omega
    have hw3 : (if onP N s dd 3 j = true then 0 else 10000) ≤ 10000 := by split <;> omega
    have hrk : ctO N (lk N s j) + fr N j dd + (if onP N s dd 2 j = true then 0 else 20000) + (if onP N s dd 3 j = true then 0 else 10000) = rnk N s dd j := rfl
    rw [best89 h hP hjn (fun b hb => by have := (bestF_some hb).1; omega) hlw (by omega), hrk]
    have hst : bestF (onP N s dd 0) (wth N s dd) (j + 1) = (match bestF (onP N s dd 0) (wth N s dd) j with
      | none => if onP N s dd 0 j then some j else none
      | some b => if onP N s dd 0 j && decide (wth N s dd j < wth N s dd b) then some j else some b) := rfl
    have yes : bestF (onP N s dd 0) (wth N s dd) (j + 1) = some j → (WP mLayH 49 7 [some (.ref 3), some (.ref 1), some (.int (nI j)), some (.int (nI (rnk N s dd j))), some (.int (nI (j + 1))), some (.int (nI (rnk N s dd j)))] [] c Q ↔ Q (some (en (altF N s dd))) c) := by
      intro hq
      have := ih (j + 1) (rnk N s dd j) (some (.int (nI (rnk N s dd j)))) (by omega) (by omega) (fun b hb => by rw [hq] at hb; cases hb; rfl)
      rw [hq] at this
      exact this
    have no : bestF (onP N s dd 0) (wth N s dd) (j + 1) = bestF (onP N s dd 0) (wth N s dd) j → (WP mLayH 49 7 [some (.ref 3), some (.ref 1), some (.int (en (bestF (onP N s dd 0) (wth N s dd) j))), some (.int (nI lw)), some (.int (nI (j + 1))), some (.int (nI (rnk N s dd j)))] [] c Q ↔ Q (some (en (altF N s dd))) c) := by
      intro hq
      have := ih (j + 1) lw (some (.int (nI (rnk N s dd j)))) (by omega) hlw (fun b hb' => hb b (by rw [← hq]; exact hb'))
      rw [hq] at this
      exact this
    cases hbb : bestF (onP N s dd 0) (wth N s dd) j with
    | none =>
      rw [hbb] at hst no
      cases hp : onP N s dd 0 j with
      | false => rw [if_neg (fun q => by cases q.1)]; rw [hp] at hst; exact no hst
      | true => rw [if_pos ⟨rfl, Or.inl rfl⟩]; rw [hp] at hst; exact yes hst
    | some b =>
      rw [hbb] at hst no
      dsimp only at hst
      have hlb := hb b hbb
      obtain ⟨hbn, hbp⟩ := bestF_some hbb
      cases hp : onP N s dd 0 j with
      | false => rw [if_neg (fun q => by cases q.1)]; rw [hp] at hst; exact no hst
      | true =>
        have hr := rnk_lt hN hx hjn (show b < nN N by omega) hp hbp
        rw [hp, Bool.true_and] at hst
        by_cases z : wth N s dd j < wth N s dd b
        · rw [if_pos ⟨rfl, Or.inr (by rw [hlb]; exact hr.mpr z)⟩]
          rw [if_pos (decide_eq_true z)] at hst
          exact yes hst
        · rw [if_neg (fun q => by rcases q.2 with y | y; cases y; rw [hlb] at y; exact z (hr.mp y))]
          rw [if_neg (by rw [decide_eq_true_iff]; exact z)] at hst
          exact no hst
theorem C_best (h : CS c N wt wh) (hx : HX N s dd e l) (hP : PL c N s dd e l) : WP mLayH 49 0 [some (.ref 3), some (.ref 1), none, none, none, none] [] c Q ↔ Q (some (en (altF N s dd))) c := by
  simp only [w_X5_bestOther_0, w_X5_bestOther_1, w_X5_bestOther_2, w_X5_bestOther_3, w_X5_bestOther_4, w_X5_bestOther_5, w_X5_bestOther_9, w_X5_bestOther_10, w_X5_bestOther_13, w_X5_bestOther_16, w_X5_bestOther_17, w_X5_bestOther_18, w_X5_bestOther_21, w_X5_bestOther_23, w_X5_bestOther_26, w_X5_bestOther_27, w_X5_bestOther_30, w_X5_bestOther_32, w_X5_bestOther_33, w_X5_bestOther_34, w_X5_bestOther_37, w_X5_bestOther_38, w_X5_bestOther_39, w_X5_bestOther_41, w_X5_bestOther_43, w_X5_bestOther_44, w_X5_bestOther_47, w_X5_bestOther_49, w_X5_bestOther_52, w_X5_bestOther_55, w_X5_bestOther_56, w_X5_bestOther_59, w_X5_bestOther_62, w_X5_bestOther_63, w_X5_bestOther_65, w_X5_bestOther_67, w_X5_bestOther_68, w_X5_bestOther_71, w_X5_bestOther_73, w_X5_bestOther_76, w_X5_bestOther_79, w_X5_bestOther_80, w_X5_bestOther_83, w_X5_bestOther_86, w_X5_bestOther_87, w_X5_bestOther_89, w_X5_bestOther_90, w_X5_bestOther_93, w_X5_bestOther_95, w_X5_bestOther_98, w_X5_bestOther_101, w_X5_bestOther_102, w_X5_bestOther_103, w_X5_bestOther_106, w_X5_bestOther_108, w_X5_bestOther_109, w_X5_bestOther_112, w_X5_bestOther_114, w_X5_bestOther_115, w_X5_bestOther_117, w_X5_bestOther_118, w_X5_bestOther_121, w_X5_bestOther_124, w_X5_bestOther_125]
  exact best_loop h hx hP (nN N) 0 0 none (by omega) (by decide) (fun b hb => by cases hb)
end PL3
