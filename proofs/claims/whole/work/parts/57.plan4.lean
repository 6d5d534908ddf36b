/-! the class: REACH, COMING, MEETING -/
section PL4
variable {c : mS} {N : Nt} {wt wh : Nat} {Q : Option Int32 → mS → Prop} {s dd e l : Nat} {a b : Int32}
theorem rb_self (hN : Nok N) (hx : HX N s dd e l) {x : Nat} (hxn : x < nN N) : rbE N s e (nC N l) s x = (mtP N s x && decide (fr N s x < nC N l + fr N e x)) := by
  have hi : INF = 1000000 := rfl
  obtain ⟨f1, f2, f3, f4, f5, f6⟩ := HX_far hN hx
  have t1 := fr_tri hN hx.2.2.1 hx.1 hxn
  have i1 := fr_inf hN hx.1 hxn
  unfold rbE mtP
  rw [fr_0 hN hx.1, smn_eq (a := 0) (by omega), Nat.zero_add, ← Bool.decide_and]
  apply decide_eq_decide.mpr
  by_cases h : fr N s x < INF
  · have := fr_sm hN hx.1 hxn h
    rw [smn_eq (by omega)]
    constructor
    · rintro ⟨q1, q2, -⟩; exact ⟨⟨q1, h⟩, q2⟩
    · rintro ⟨⟨q1, -⟩, q2⟩; exact ⟨q1, q2, Or.inl rfl⟩
  · constructor
    · rintro ⟨-, q2, -⟩
      have := smn_le (a := nC N l) (b := fr N e x)
      omega
    · rintro ⟨⟨-, q⟩, -⟩; exact absurd q h
theorem rb_by (hN : Nok N) (hx : HX N s dd e l) {u x l2 : Nat} (hun : u < nN N) (hxn : x < nN N) (hl2 : lk N s u = some l2) : rbE N s e (nC N l) u x = (mtP N s x && (decide (fr N u x < fr N u s + nC N l + fr N e x) && decide (fr N u x < fr N u e + nC N l + fr N s x))) := by
  have hi : INF = 1000000 := rfl
  obtain ⟨f1, f2, f3, f4, f5, f6⟩ := HX_far hN hx
  have g1 := fr_lk hN hl2
  obtain ⟨-, -, hne, g2, g3⟩ := jn_lt hN (lk_some hl2).1 (lk_some hl2).2
  have t1 := fr_tri hN hx.2.2.1 hx.1 hxn
  have t2 := fr_tri hN hun hx.1 hx.2.2.1
  have t3 := fr_tri hN hx.1 hun hxn
  have t4 := fr_tri hN hun hx.1 hxn
  have i1 := fr_inf hN hx.1 hxn
  have i2 := fr_inf hN hun hxn
  unfold rbE mtP
  rw [smn_eq (a := fr N u s) (by omega), smn_eq (a := fr N u e) (b := nC N l) (by omega), ← Bool.decide_and, ← Bool.decide_and]
  apply decide_eq_decide.mpr
  by_cases h : fr N s x < INF
  · have := fr_sm hN hx.1 hxn h
    rw [smn_eq (by omega), smn_eq (by omega)]
    constructor
    · rintro ⟨q1, q2, q3⟩; exact ⟨⟨q1, h⟩, q2, q3.elim (fun z => absurd z.symm hne) id⟩
    · rintro ⟨⟨q1, -⟩, q2, q3⟩; exact ⟨q1, q2, Or.inr q3⟩
  · constructor
    · rintro ⟨-, q2, -⟩
      have := smn_le (a := fr N u s + nC N l) (b := fr N e x)
      by_cases z : fr N u x < INF
      · have := fr_sm hN hun hxn z; omega
      · omega
    · rintro ⟨⟨-, q⟩, -⟩; exact absurd q h
theorem cm_mt (hN : Nok N) (hx : HX N s dd e l) {x : Nat} (hxn : x < nN N) : cmE N s dd e (nC N l) x = (mtP N s x && decide (fr N dd x < fr N s x + (nC N l + fr N dd e))) := by
  have hi : INF = 1000000 := rfl
  obtain ⟨f1, f2, f3, f4, f5, f6⟩ := HX_far hN hx
  have t1 := fr_tri hN hx.1 hx.2.1 hxn
  have i1 := fr_inf hN hx.1 hxn
  have i2 := fr_inf hN hx.2.1 hxn
  unfold cmE mtP
  rw [fr_comm hN hxn hx.1, fr_comm hN hxn hx.2.1, fr_comm hN hx.2.1 hx.2.2.1, ← Bool.decide_and]
  apply decide_eq_decide.mpr
  by_cases h : fr N s x < INF
  · have := fr_sm hN hx.1 hxn h
    rw [smn_eq (a := fr N s x) (by omega), smn_eq (by omega)]
    constructor
    · rintro ⟨q1, q2⟩; exact ⟨⟨q1, h⟩, by omega⟩
    · rintro ⟨⟨q1, -⟩, q2⟩; exact ⟨q1, by omega⟩
  · constructor
    · rintro ⟨-, q2⟩
      have := smn_le (a := smn (fr N s x) (nC N l)) (b := fr N e dd)
      by_cases z : fr N dd x < INF
      · have := fr_sm hN hx.2.1 hxn z; omega
      · omega
    · rintro ⟨⟨-, q⟩, -⟩; exact absurd q h
theorem rself_loop (h : CS c N wt wh) (hx : HX N s dd e l) (hP : PL c N s dd e l) : ∀ (k j : Nat), j + k = nN N →
    (WP mLayH 51 26 [some (.ref 3), some (.ref 1), some (.ref (20 + s)), some (.ref (20 + e)), some (.int (mkS (rbE N s e (nC N l) s) j)), some (.int (nI j))] [] c Q ↔ Q (some (mkS (rbE N s e (nC N l) s) (nN N))) c) := by
  have hN := h.1.1
  have h12 := hN.2.1
  have hi : INF = 1000000 := rfl
  obtain ⟨hs, hd, he, hnx, hlk, hl⟩ := hx
  have hx : HX N s dd e l := ⟨hs, hd, he, hnx, hlk, hl⟩
  have f := HX_far hN hx
  intro k
  induction k with
  | zero =>
    intro j hj
    rw [w_X5_reachedOfItself_26]
    simp only [w_X5_reachedOfItself_0, w_X5_reachedOfItself_1, w_X5_reachedOfItself_4, w_X5_reachedOfItself_5, w_X5_reachedOfItself_8, w_X5_reachedOfItself_9, w_X5_reachedOfItself_10, w_X5_reachedOfItself_11, w_X5_reachedOfItself_14, w_X5_reachedOfItself_15, w_X5_reachedOfItself_18, w_X5_reachedOfItself_19, w_X5_reachedOfItself_20, w_X5_reachedOfItself_21, w_X5_reachedOfItself_23, w_X5_reachedOfItself_24, w_X5_reachedOfItself_28, w_X5_reachedOfItself_29, w_X5_reachedOfItself_32, w_X5_reachedOfItself_35, w_X5_reachedOfItself_36, w_X5_reachedOfItself_39, w_X5_reachedOfItself_41, w_X5_reachedOfItself_44, w_X5_reachedOfItself_47, w_X5_reachedOfItself_48, w_X5_reachedOfItself_50, w_X5_reachedOfItself_51, w_X5_reachedOfItself_52, w_X5_reachedOfItself_55, w_X5_reachedOfItself_56, w_X5_reachedOfItself_58, w_X5_reachedOfItself_59, w_X5_reachedOfItself_60, w_X5_reachedOfItself_63, w_X5_reachedOfItself_65, w_X5_reachedOfItself_66, w_X5_reachedOfItself_68, w_X5_reachedOfItself_69, w_X5_reachedOfItself_70, w_X5_reachedOfItself_72, w_X5_reachedOfItself_75, w_X5_reachedOfItself_78, w_X5_reachedOfItself_80, h.1.2.1]
    rw [if_pos ((kLe (by omega) (by omega)).mpr (by omega)), show j = nN N by omega]
  | succ k ih =>
    intro j hj
    have hjn : j < nN N := by omega
    have i1 := fr_inf hN hs hjn
    have i2 := fr_inf hN he hjn
    rw [w_X5_reachedOfItself_26]
    simp (disch := omega) only [w_X5_reachedOfItself_28, w_X5_reachedOfItself_29, w_X5_reachedOfItself_32, w_X5_reachedOfItself_35, w_X5_reachedOfItself_36, w_X5_reachedOfItself_39, w_X5_reachedOfItself_41, w_X5_reachedOfItself_44, w_X5_reachedOfItself_47, w_X5_reachedOfItself_48, w_X5_reachedOfItself_50, w_X5_reachedOfItself_51, w_X5_reachedOfItself_52, w_X5_reachedOfItself_55, w_X5_reachedOfItself_56, w_X5_reachedOfItself_58, w_X5_reachedOfItself_59, w_X5_reachedOfItself_60, w_X5_reachedOfItself_63, w_X5_reachedOfItself_65, w_X5_reachedOfItself_66, w_X5_reachedOfItself_68, w_X5_reachedOfItself_69, w_X5_reachedOfItself_70, w_X5_reachedOfItself_72, w_X5_reachedOfItself_75, h.1.2.1, hP.1.2.2.2.2, hP.2.1, mKI_some, c_hasM (show nN N ≤ 32 by omega) hjn, kIn, kCl, CS_far h hs hjn, CS_far h he hjn, nI_add, kLe, show j < 12 by omega, show s < 36 by omega, show e < 36 by omega, true_and, nI_1]
    rw [if_neg (fun q => by omega), ← ih (j + 1) (by omega), mkS_o, rb_self hN hx hjn]
    cases mtP N s j with
    | false => rw [if_pos bf0, Bool.false_and, oneN_f]
    | true =>
      rw [if_neg bt1, Bool.true_and]
      by_cases z : nC N l + fr N e j ≤ fr N s j
      · rw [if_pos z, decide_eq_false (by omega), oneN_f]
      · rw [if_neg z, decide_eq_true (by omega)]; exact Iff.rfl
theorem C_rself (h : CS c N wt wh) (hx : HX N s dd e l) (hP : PL c N s dd e l) : WP mLayH 51 0 [some (.ref 3), some (.ref 1), none, none, none, none] [] c Q ↔ Q (some (mkS (rbE N s e (nC N l) s) (nN N))) c := by
  have h12 := h.1.1.2.1
  have hs := hx.1
  have he := hx.2.2.1
  simp (disch := omega) only [w_X5_reachedOfItself_0, w_X5_reachedOfItself_1, w_X5_reachedOfItself_4, w_X5_reachedOfItself_5, w_X5_reachedOfItself_8, w_X5_reachedOfItself_9, w_X5_reachedOfItself_10, w_X5_reachedOfItself_11, w_X5_reachedOfItself_14, w_X5_reachedOfItself_15, w_X5_reachedOfItself_18, w_X5_reachedOfItself_19, w_X5_reachedOfItself_20, w_X5_reachedOfItself_21, w_X5_reachedOfItself_23, w_X5_reachedOfItself_24, w_X5_reachedOfItself_28, w_X5_reachedOfItself_29, w_X5_reachedOfItself_32, w_X5_reachedOfItself_35, w_X5_reachedOfItself_36, w_X5_reachedOfItself_39, w_X5_reachedOfItself_41, w_X5_reachedOfItself_44, w_X5_reachedOfItself_47, w_X5_reachedOfItself_48, w_X5_reachedOfItself_50, w_X5_reachedOfItself_51, w_X5_reachedOfItself_52, w_X5_reachedOfItself_55, w_X5_reachedOfItself_56, w_X5_reachedOfItself_58, w_X5_reachedOfItself_59, w_X5_reachedOfItself_60, w_X5_reachedOfItself_63, w_X5_reachedOfItself_65, w_X5_reachedOfItself_66, w_X5_reachedOfItself_68, w_X5_reachedOfItself_69, w_X5_reachedOfItself_70, w_X5_reachedOfItself_72, w_X5_reachedOfItself_75, w_X5_reachedOfItself_78, w_X5_reachedOfItself_80, hP.1.1, hP.1.2.2.1, kIn, kCl, show s < 12 by omega, show e < 12 by omega, true_and]
  exact rself_loop h hx hP (nN N) 0 (by omega)
theorem rby_loop {u l2 : Nat} (h : CS c N wt wh) (hx : HX N s dd e l) (hP : PL c N s dd e l) (hu : u < nN N) (hl2 : lk N s u = some l2) : ∀ (k j : Nat), j + k = nN N →
    (WP mLayH 52 63 [some (.ref 3), some (.ref 1), some (.int (nI u)), some (.ref (20 + s)), some (.ref (20 + e)), some (.ref (20 + u)), some (.int (nI (fr N u s + nC N l))), some (.int (nI (fr N u e + nC N l))), some (.int (mkS (rbE N s e (nC N l) u) j)), some (.int (nI j))] [] c Q ↔ Q (some (mkS (rbE N s e (nC N l) u) (nN N))) c) := by
  have hN := h.1.1
  have h12 := hN.2.1
  have hi : INF = 1000000 := rfl
  obtain ⟨hs, hd, he, hnx, hlk, hl⟩ := hx
  have hx : HX N s dd e l := ⟨hs, hd, he, hnx, hlk, hl⟩
  have f := HX_far hN hx
  have g1 := fr_inf hN hu hs
  have g2 := fr_inf hN hu he
  intro k
  induction k with
  | zero =>
    intro j hj
    rw [w_X5_reachedBy_63]
    simp only [w_X5_reachedBy_0, w_X5_reachedBy_1, w_X5_reachedBy_4, w_X5_reachedBy_5, w_X5_reachedBy_8, w_X5_reachedBy_9, w_X5_reachedBy_10, w_X5_reachedBy_11, w_X5_reachedBy_14, w_X5_reachedBy_15, w_X5_reachedBy_18, w_X5_reachedBy_19, w_X5_reachedBy_21, w_X5_reachedBy_22, w_X5_reachedBy_25, w_X5_reachedBy_26, w_X5_reachedBy_27, w_X5_reachedBy_29, w_X5_reachedBy_31, w_X5_reachedBy_32, w_X5_reachedBy_35, w_X5_reachedBy_36, w_X5_reachedBy_37, w_X5_reachedBy_40, w_X5_reachedBy_41, w_X5_reachedBy_43, w_X5_reachedBy_45, w_X5_reachedBy_46, w_X5_reachedBy_49, w_X5_reachedBy_50, w_X5_reachedBy_51, w_X5_reachedBy_54, w_X5_reachedBy_55, w_X5_reachedBy_57, w_X5_reachedBy_58, w_X5_reachedBy_60, w_X5_reachedBy_61, w_X5_reachedBy_65, w_X5_reachedBy_66, w_X5_reachedBy_69, w_X5_reachedBy_72, w_X5_reachedBy_73, w_X5_reachedBy_76, w_X5_reachedBy_78, w_X5_reachedBy_81, w_X5_reachedBy_84, w_X5_reachedBy_86, w_X5_reachedBy_88, w_X5_reachedBy_89, w_X5_reachedBy_91, w_X5_reachedBy_93, w_X5_reachedBy_95, w_X5_reachedBy_96, w_X5_reachedBy_97, w_X5_reachedBy_100, w_X5_reachedBy_102, w_X5_reachedBy_104, w_X5_reachedBy_105, w_X5_reachedBy_107, w_X5_reachedBy_108, w_X5_reachedBy_110, w_X5_reachedBy_111, w_X5_reachedBy_112, w_X5_reachedBy_115, w_X5_reachedBy_117, w_X5_reachedBy_118, w_X5_reachedBy_120, w_X5_reachedBy_121, w_X5_reachedBy_122, w_X5_reachedBy_124, w_X5_reachedBy_127, w_X5_reachedBy_130, w_X5_reachedBy_132, h.1.2.1]
    rw [if_pos ((kLe (by omega) (by omega)).mpr (by omega)), show j = nN N by omega]
  | succ k ih =>
    intro j hj
    have hjn : j < nN N := by omega
    have i1 := fr_inf hN hs hjn
    have i2 := fr_inf hN he hjn
    have i3 := fr_inf hN hu hjn
    rw [w_X5_reachedBy_63]
    simp (disch := omega) only [w_X5_reachedBy_65, w_X5_reachedBy_66, w_X5_reachedBy_69, w_X5_reachedBy_72, w_X5_reachedBy_73, w_X5_reachedBy_76, w_X5_reachedBy_78, w_X5_reachedBy_81, w_X5_reachedBy_84, w_X5_reachedBy_86, w_X5_reachedBy_88, w_X5_reachedBy_89, w_X5_reachedBy_91, w_X5_reachedBy_93, w_X5_reachedBy_95, w_X5_reachedBy_96, w_X5_reachedBy_97, w_X5_reachedBy_100, w_X5_reachedBy_102, w_X5_reachedBy_104, w_X5_reachedBy_105, w_X5_reachedBy_107, w_X5_reachedBy_108, w_X5_reachedBy_110, w_X5_reachedBy_111, w_X5_reachedBy_112, w_X5_reachedBy_115, w_X5_reachedBy_117, w_X5_reachedBy_118, w_X5_reachedBy_120, w_X5_reachedBy_121, w_X5_reachedBy_122, w_X5_reachedBy_124, w_X5_reachedBy_127, h.1.2.1, hP.2.1, mKI_some, c_hasM (show nN N ≤ 32 by omega) hjn, kIn, kCl, CS_far h hs hjn, CS_far h he hjn, CS_far h hu hjn, nI_add, kLe, show j < 12 by omega, show s < 36 by omega, show e < 36 by omega, show u < 36 by omega, true_and, nI_1]
    rw [if_neg (fun q => by omega), ← ih (j + 1) (by omega), mkS_o, rb_by hN hx hu hjn hl2]
    cases mtP N s j with
    | false => rw [if_pos bf0, Bool.false_and, oneN_f]
    | true =>
      rw [if_neg bt1, Bool.true_and]
      by_cases z : fr N u s + nC N l + fr N e j ≤ fr N u j
      · rw [if_pos z, decide_eq_false (by omega), Bool.false_and, oneN_f]
      · rw [if_neg z, decide_eq_true (by omega), Bool.true_and]
        by_cases y : fr N u e + nC N l + fr N s j ≤ fr N u j
        · rw [if_pos y, decide_eq_false (by omega), oneN_f]
        · rw [if_neg y, decide_eq_true (by omega)]; exact Iff.rfl
theorem C_rby {u l2 : Nat} (h : CS c N wt wh) (hx : HX N s dd e l) (hP : PL c N s dd e l) (hu : u < nN N) (hl2 : lk N s u = some l2) : WP mLayH 52 0 [some (.ref 3), some (.ref 1), some (.int (nI u)), none, none, none, none, none, none, none] [] c Q ↔ Q (some (mkS (rbE N s e (nC N l) u) (nN N))) c := by
  have h12 := h.1.1.2.1
  have hs := hx.1
  have he := hx.2.2.1
  simp (disch := omega) only [w_X5_reachedBy_0, w_X5_reachedBy_1, w_X5_reachedBy_4, w_X5_reachedBy_5, w_X5_reachedBy_8, w_X5_reachedBy_9, w_X5_reachedBy_10, w_X5_reachedBy_11, w_X5_reachedBy_14, w_X5_reachedBy_15, w_X5_reachedBy_18, w_X5_reachedBy_19, w_X5_reachedBy_21, w_X5_reachedBy_22, w_X5_reachedBy_25, w_X5_reachedBy_26, w_X5_reachedBy_27, w_X5_reachedBy_29, w_X5_reachedBy_31, w_X5_reachedBy_32, w_X5_reachedBy_35, w_X5_reachedBy_36, w_X5_reachedBy_37, w_X5_reachedBy_40, w_X5_reachedBy_41, w_X5_reachedBy_43, w_X5_reachedBy_45, w_X5_reachedBy_46, w_X5_reachedBy_49, w_X5_reachedBy_50, w_X5_reachedBy_51, w_X5_reachedBy_54, w_X5_reachedBy_55, w_X5_reachedBy_57, w_X5_reachedBy_58, w_X5_reachedBy_60, w_X5_reachedBy_61, hP.1.1, hP.1.2.2.1, hP.1.2.2.2.2, kIn, kCl, CS_far h hu hs, CS_far h hu he, nI_add, show s < 12 by omega, show e < 12 by omega, show u < 12 by omega, show u < 36 by omega, true_and]
  exact rby_loop h hx hP hu hl2 (nN N) 0 (by omega)
theorem ot_lk {u : Nat} (h : otP N s e u = true) : ∃ l2, lk N s u = some l2 := by
  unfold otP at h
  rw [Bool.and_eq_true] at h
  exact Option.isSome_iff_exists.mp h.2
theorem nb_ot {x u k : Nat} : nbP N s e k x u = (otP N s e u && rbE N s e k u x) := rfl
theorem reach_loop (h : CS c N wt wh) (hx : HX N s dd e l) (hP : PL c N s dd e l) : ∀ (k j : Nat), j + k = nN N →
    (WP mLayH 53 8 [some (.ref 3), some (.ref 1), some (.int (mkS (fun x => rbE N s e (nC N l) s x || anyB (nbP N s e (nC N l) x) j) (nN N))), some (.int (nI j))] [] c Q ↔ Q (some (mkS (rcE N s e (nC N l)) (nN N))) c) := by
  have hN := h.1.1
  have h12 := hN.2.1
  intro k
  induction k with
  | zero =>
    intro j hj
    rw [w_X5_reach_8]
    simp only [w_X5_reach_0, w_X5_reach_1, w_X5_reach_2, w_X5_reach_5, w_X5_reach_6, w_X5_reach_7, w_X5_reach_9, w_X5_reach_10, w_X5_reach_13, w_X5_reach_16, w_X5_reach_17, w_X5_reach_20, w_X5_reach_21, w_X5_reach_24, w_X5_reach_27, w_X5_reach_28, w_X5_reach_29, w_X5_reach_30, w_X5_reach_31, w_X5_reach_34, w_X5_reach_35, w_X5_reach_36, w_X5_reach_39, w_X5_reach_42, w_X5_reach_43, h.1.2.1]
    rw [if_pos ((kLe (by omega) (by omega)).mpr (by omega)), show j = nN N by omega]
    exact Iff.rfl
  | succ k ih =>
    intro j hj
    have hjn : j < nN N := by omega
    rw [w_X5_reach_8]
    simp (disch := omega) only [w_X5_reach_9, w_X5_reach_10, w_X5_reach_13, w_X5_reach_16, w_X5_reach_17, w_X5_reach_20, w_X5_reach_21, w_X5_reach_24, h.1.2.1, hP.2.2.1, mKI_some, c_hasM (show nN N ≤ 32 by omega) hjn, kLe]
    rw [if_neg (fun q => by omega), ← ih (j + 1) (by omega)]
    cases ho : otP N s e j with
    | false =>
      rw [if_pos bf0]
      simp only [w_X5_reach_36, w_X5_reach_39, nI_1]
      rw [mk_congr (q := fun x => rbE N s e (nC N l) s x || anyB (nbP N s e (nC N l) x) (j + 1)) (fun x _ => by
        show _ = (_ || (_ || nbP N s e (nC N l) x j))
        rw [nb_ot, ho, Bool.false_and, Bool.or_false])]
    | true =>
      obtain ⟨l2, hl2⟩ := ot_lk ho
      rw [if_neg bt1]
      simp only [w_X5_reach_27, w_X5_reach_28, w_X5_reach_29, w_X5_reach_30, w_X5_reach_31, w_X5_reach_34, w_X5_reach_35, w_X5_reach_36, w_X5_reach_39, C_rby h hx hP hjn hl2, mKI_some, nI_1]
      rw [mk_or (by omega), mk_congr (q := fun x => rbE N s e (nC N l) s x || anyB (nbP N s e (nC N l) x) (j + 1)) (fun x _ => by
        show _ = (_ || (_ || nbP N s e (nC N l) x j))
        rw [nb_ot, ho, Bool.true_and, Bool.or_assoc])]
theorem C_reach (h : CS c N wt wh) (hx : HX N s dd e l) (hP : PL c N s dd e l) : WP mLayH 53 0 [some (.ref 3), some (.ref 1), none, none] [] c Q ↔ Q (some (mkS (rcE N s e (nC N l)) (nN N))) c := by
  simp only [w_X5_reach_0, w_X5_reach_1, w_X5_reach_2, w_X5_reach_5, w_X5_reach_6, w_X5_reach_7, C_rself h hx hP, mKI_some]
  rw [mk_congr (q := fun x => rbE N s e (nC N l) s x || anyB (nbP N s e (nC N l) x) 0) (fun x _ => (Bool.or_false _).symm)]
  exact reach_loop h hx hP (nN N) 0 (by omega)
theorem coming_loop (h : CS c N wt wh) (hx : HX N s dd e l) (hP : PL c N s dd e l) : ∀ (k j : Nat), j + k = nN N →
    (WP mLayH 54 39 [some (.ref 3), some (.ref 1), some (.ref (20 + s)), some (.ref (20 + dd)), some (.int (nI (nC N l + fr N dd e))), some (.int (mkS (cmE N s dd e (nC N l)) j)), some (.int (nI j))] [] c Q ↔ Q (some (mkS (cmE N s dd e (nC N l)) (nN N))) c) := by
  have hN := h.1.1
  have h12 := hN.2.1
  have hi : INF = 1000000 := rfl
  obtain ⟨hs, hd, he, hnx, hlk, hl⟩ := hx
  have hx : HX N s dd e l := ⟨hs, hd, he, hnx, hlk, hl⟩
  have f := HX_far hN hx
  have g2 := fr_inf hN hd he
  intro k
  induction k with
  | zero =>
    intro j hj
    rw [w_X5_coming_39]
    simp only [w_X5_coming_0, w_X5_coming_1, w_X5_coming_4, w_X5_coming_5, w_X5_coming_8, w_X5_coming_9, w_X5_coming_10, w_X5_coming_11, w_X5_coming_14, w_X5_coming_15, w_X5_coming_18, w_X5_coming_19, w_X5_coming_20, w_X5_coming_21, w_X5_coming_24, w_X5_coming_25, w_X5_coming_26, w_X5_coming_29, w_X5_coming_30, w_X5_coming_31, w_X5_coming_33, w_X5_coming_34, w_X5_coming_36, w_X5_coming_37, w_X5_coming_41, w_X5_coming_42, w_X5_coming_45, w_X5_coming_48, w_X5_coming_49, w_X5_coming_52, w_X5_coming_54, w_X5_coming_57, w_X5_coming_60, w_X5_coming_61, w_X5_coming_63, w_X5_coming_64, w_X5_coming_65, w_X5_coming_67, w_X5_coming_68, w_X5_coming_70, w_X5_coming_71, w_X5_coming_74, w_X5_coming_76, w_X5_coming_77, w_X5_coming_79, w_X5_coming_80, w_X5_coming_81, w_X5_coming_83, w_X5_coming_86, w_X5_coming_89, w_X5_coming_91, h.1.2.1]
    rw [if_pos ((kLe (by omega) (by omega)).mpr (by omega)), show j = nN N by omega]
  | succ k ih =>
    intro j hj
    have hjn : j < nN N := by omega
    have i1 := fr_inf hN hs hjn
    have i2 := fr_inf hN hd hjn
    rw [w_X5_coming_39]
    simp (disch := omega) only [w_X5_coming_41, w_X5_coming_42, w_X5_coming_45, w_X5_coming_48, w_X5_coming_49, w_X5_coming_52, w_X5_coming_54, w_X5_coming_57, w_X5_coming_60, w_X5_coming_61, w_X5_coming_63, w_X5_coming_64, w_X5_coming_65, w_X5_coming_67, w_X5_coming_68, w_X5_coming_70, w_X5_coming_71, w_X5_coming_74, w_X5_coming_76, w_X5_coming_77, w_X5_coming_79, w_X5_coming_80, w_X5_coming_81, w_X5_coming_83, w_X5_coming_86, h.1.2.1, hP.2.1, mKI_some, c_hasM (show nN N ≤ 32 by omega) hjn, kIn, kCl, CS_far h hs hjn, CS_far h hd hjn, nI_add, kLe, show j < 12 by omega, show s < 36 by omega, show dd < 36 by omega, true_and, nI_1]
    rw [if_neg (fun q => by omega), ← ih (j + 1) (by omega), mkS_o, cm_mt hN hx hjn]
    cases mtP N s j with
    | false => rw [if_pos bf0, Bool.false_and, oneN_f]
    | true =>
      rw [if_neg bt1, Bool.true_and]
      by_cases z : fr N s j + (nC N l + fr N dd e) ≤ fr N dd j
      · rw [if_pos z, decide_eq_false (by omega), oneN_f]
      · rw [if_neg z, decide_eq_true (by omega)]; exact Iff.rfl
theorem C_coming (h : CS c N wt wh) (hx : HX N s dd e l) (hP : PL c N s dd e l) : WP mLayH 54 0 [some (.ref 3), some (.ref 1), none, none, none, none, none] [] c Q ↔ Q (some (mkS (cmE N s dd e (nC N l)) (nN N))) c := by
  have h12 := h.1.1.2.1
  have hs := hx.1
  have he := hx.2.2.1
  have hd := hx.2.1
  simp (disch := omega) only [w_X5_coming_0, w_X5_coming_1, w_X5_coming_4, w_X5_coming_5, w_X5_coming_8, w_X5_coming_9, w_X5_coming_10, w_X5_coming_11, w_X5_coming_14, w_X5_coming_15, w_X5_coming_18, w_X5_coming_19, w_X5_coming_20, w_X5_coming_21, w_X5_coming_24, w_X5_coming_25, w_X5_coming_26, w_X5_coming_29, w_X5_coming_30, w_X5_coming_31, w_X5_coming_33, w_X5_coming_34, w_X5_coming_36, w_X5_coming_37, hP.1.1, hP.1.2.1, hP.1.2.2.1, hP.1.2.2.2.2, CS_far h hd he, nI_add, kIn, kCl, show s < 12 by omega, show e < 12 by omega, show dd < 12 by omega, show dd < 36 by omega, true_and]
  exact coming_loop h hx hP (nN N) 0 (by omega)
theorem near_loop {p : Nat → Bool} (h : CS c N wt wh) (hs : s < nN N) : ∀ (k j : Nat), j + k = nN N →
    (WP mLayH 55 16 [some (.ref 3), some (.ref 1), some (.int (mkS p (nN N))), some (.ref (20 + s)), some (.int (en (bestF p (fun x => fr N s x) j))), some (.int (nI j))] [] c Q ↔ Q (some (en (bestF p (fun x => fr N s x) (nN N)))) c) := by
  have hN := h.1.1
  have h12 := hN.2.1
  have hi : INF = 1000000 := rfl
  intro k
  induction k with
  | zero =>
    intro j hj
    rw [w_X5_nearestOf_16]
    simp only [w_X5_nearestOf_0, w_X5_nearestOf_1, w_X5_nearestOf_4, w_X5_nearestOf_5, w_X5_nearestOf_8, w_X5_nearestOf_9, w_X5_nearestOf_10, w_X5_nearestOf_11, w_X5_nearestOf_13, w_X5_nearestOf_14, w_X5_nearestOf_18, w_X5_nearestOf_19, w_X5_nearestOf_22, w_X5_nearestOf_25, w_X5_nearestOf_26, w_X5_nearestOf_28, w_X5_nearestOf_31, w_X5_nearestOf_34, w_X5_nearestOf_36, w_X5_nearestOf_37, w_X5_nearestOf_40, w_X5_nearestOf_41, w_X5_nearestOf_43, w_X5_nearestOf_44, w_X5_nearestOf_45, w_X5_nearestOf_47, w_X5_nearestOf_48, w_X5_nearestOf_51, w_X5_nearestOf_53, w_X5_nearestOf_55, w_X5_nearestOf_58, w_X5_nearestOf_61, w_X5_nearestOf_63, h.1.2.1]
    rw [if_pos ((kLe (by omega) (by omega)).mpr (by omega)), show j = nN N by omega]
  | succ k ih =>
    intro j hj
    have hjn : j < nN N := by omega
    have i1 := fr_inf hN hs hjn
    rw [w_X5_nearestOf_16]
    simp (disch := omega) only [w_X5_nearestOf_18, w_X5_nearestOf_19, w_X5_nearestOf_22, w_X5_nearestOf_25, w_X5_nearestOf_26, w_X5_nearestOf_28, w_X5_nearestOf_31, w_X5_nearestOf_34, w_X5_nearestOf_36, w_X5_nearestOf_37, w_X5_nearestOf_40, w_X5_nearestOf_41, w_X5_nearestOf_43, w_X5_nearestOf_44, w_X5_nearestOf_45, w_X5_nearestOf_47, w_X5_nearestOf_48, w_X5_nearestOf_51, w_X5_nearestOf_53, w_X5_nearestOf_55, w_X5_nearestOf_58, h.1.2.1, mKI_some, c_hasM (show nN N ≤ 32 by omega) hjn, kIn, kCl, CS_far h hs hjn, kLe, show j < 12 by omega, show s < 36 by omega, true_and, nI_1]
    rw [if_neg (fun q => by omega), ← ih (j + 1) (by omega)]
    have hst : bestF p (fun x => fr N s x) (j + 1) = (match bestF p (fun x => fr N s x) j with
      | none => if p j then some j else none
      | some b => if p j && decide (fr N s j < fr N s b) then some j else some b) := rfl
    cases hbb : bestF p (fun x => fr N s x) j with
    | none =>
      rw [hbb] at hst
      rw [hst]
      cases p j with
      | false => rw [if_pos bf0]; exact Iff.rfl
      | true => rw [if_neg bt1, en_none, if_pos rfl]; exact Iff.rfl
    | some b =>
      rw [hbb] at hst
      rw [hst]
      have hbn := (bestF_some hbb).1
      have hbb' : b < nN N := by omega
      have i2 := fr_inf hN hs hbb'
      dsimp only
      cases p j with
      | false => rw [if_pos bf0]; exact Iff.rfl
      | true =>
        rw [if_neg bt1, en_some, if_neg (fun q => (kNe (by omega)).mp q), Bool.true_and]
        simp (disch := omega) only [kIn, kCl, CS_far h hs hbb', kLe, show b < 12 by omega, true_and]
        by_cases z : fr N s b ≤ fr N s j
        · rw [if_pos z, if_neg (by rw [decide_eq_true_iff]; omega)]; exact Iff.rfl
        · rw [if_neg z, if_pos (by rw [decide_eq_true_iff]; omega)]; exact Iff.rfl
theorem C_near {p : Nat → Bool} (h : CS c N wt wh) (hs : s < nN N) (hP : PL c N s dd e l) : WP mLayH 55 0 [some (.ref 3), some (.ref 1), some (.int (mkS p (nN N))), none, none, none] [] c Q ↔ Q (some (en (bestF p (fun x => fr N s x) (nN N)))) c := by
  have h12 := h.1.1.2.1
  simp (disch := omega) only [w_X5_nearestOf_0, w_X5_nearestOf_1, w_X5_nearestOf_4, w_X5_nearestOf_5, w_X5_nearestOf_8, w_X5_nearestOf_9, w_X5_nearestOf_10, w_X5_nearestOf_11, w_X5_nearestOf_13, w_X5_nearestOf_14, hP.1.1, kIn, kCl, show s < 12 by omega, true_and]
  exact near_loop h hs (nN N) 0 (by omega)
theorem C_isBest {w : Nat} (h : CS c N wt wh) (hx : HX N s dd e l) (hP : PL c N s dd e l) (hw : w < 4) : WP mLayH 50 0 [some (.ref 3), some (.ref 1), some (.int (nI w)), none] [] c Q ↔ Q (some (bi (match altF N s dd with
    | none => false
    | some u => onP N s dd w u))) c := by
  have h12 := h.1.1.2.1
  have eo : onO N s dd (nI w) = mkS (onP N s dd w) (nN N) := by unfold onO; rw [ix_nI (by decide) hw]
  simp only [w_X5_isBestOther_0, w_X5_isBestOther_1, w_X5_isBestOther_2, w_X5_isBestOther_5, w_X5_isBestOther_6, w_X5_isBestOther_7, w_X5_isBestOther_8, w_X5_isBestOther_11, w_X5_isBestOther_12, w_X5_isBestOther_13, w_X5_isBestOther_16, w_X5_isBestOther_17, w_X5_isBestOther_20, w_X5_isBestOther_23, w_X5_isBestOther_24, w_X5_isBestOther_27, w_X5_isBestOther_28, C_best h hx hP, C_ones hP, eo, mKI_some, true_or, or_true, true_and]
  cases ha : altF N s dd with
  | none => rw [en_none, if_pos rfl]; exact Iff.rfl
  | some u =>
    have hu := (bestF_some ha).1
    rw [en_some, if_neg (fun q => (kNe (by omega)).mp q), c_hasM (by omega) hu, mKI_some]
    dsimp only
    cases onP N s dd w u
    · rw [if_pos bf0]; exact Iff.rfl
    · rw [if_neg bt1]; exact Iff.rfl
end PL4
