/-! the class: BRIDGE, REPAIR -/
section PL5
variable {c : mS} {N : Nt} {wt wh : Nat} {Q : Option Int32 → mS → Prop} {s dd e l : Nat} {a b : Int32}
/-- the bridge so far -/
def BS (c : mS) (st : Option Nat × Nat) : Prop := c 3 12 = en (st.1.map (fun k => k / 12)) ∧ c 3 13 = en (st.1.map (fun k => k % 12)) ∧ st.2 ≤ INF
theorem brQ_no {st : Option Nat × Nat} {p k : Nat} (h : rcE N s e k p = false) : ∀ q, brQ N s dd e k st p q = st
  | 0 => rfl
  | q + 1 => by
    unfold brQ
    rw [brQ_no h q]
    unfold brS
    rw [if_neg]
    unfold brC
    cases lk N p q with
    | none => exact Bool.false_ne_true
    | some l => dsimp only; rw [h, Bool.and_false, Bool.false_and, Bool.false_and]; exact Bool.false_ne_true
theorem bridge_q {p : Nat} {st0 : Option Nat × Nat} (hx : HX N s dd e l) (hp : p < nN N) : ∀ (k q : Nat) (c : mS) (l7 : Option Value), q + k = nN N → CS c N wt wh → PL c N s dd e l → BS c (brQ N s dd e (nC N l) st0 p q) →
    (∀ (c' : mS) (l6 l7 : Option Value), but1 3 c c' → CS c' N wt wh → PL c' N s dd e l → c' 3 11 = c 3 11 → BS c' (brQ N s dd e (nC N l) st0 p (nN N)) → WP mLayH 56 17 [some (.ref 3), some (.ref 1), some (.int (mkS (rcE N s e (nC N l)) (nN N))), some (.int (mkS (cmE N s dd e (nC N l)) (nN N))), some (.int (nI (brQ N s dd e (nC N l) st0 p (nN N)).2)), some (.int (nI (p + 1))), l6, l7] [] c' Q) →
    WP mLayH 56 29 [some (.ref 3), some (.ref 1), some (.int (mkS (rcE N s e (nC N l)) (nN N))), some (.int (mkS (cmE N s dd e (nC N l)) (nN N))), some (.int (nI (brQ N s dd e (nC N l) st0 p q).2)), some (.int (nI p)), some (.int (nI q)), l7] [] c Q := by
  obtain ⟨hs, hd, he, hnx, hlk, hl⟩ := hx
  have hx : HX N s dd e l := ⟨hs, hd, he, hnx, hlk, hl⟩
  have hi : INF = 1000000 := rfl
  intro k
  induction k with
  | zero =>
    intro q c l7 hq h hP hB kk
    have h12 := h.1.1.2.1
    rw [w_X5_findBridge_29]
    simp only [w_X5_findBridge_31, w_X5_findBridge_32, w_X5_findBridge_35, w_X5_findBridge_123, w_X5_findBridge_126, h.1.2.1, nI_1]
    rw [if_pos ((kLe (by omega) (by omega)).mpr (by omega))]
    rw [show q = nN N by omega] at hB ⊢
    exact kk c _ _ but1_rf h hP rfl hB
  | succ k ih =>
    intro q c l7 hq h hP hB kk
    have hN := h.1.1
    have h12 := hN.2.1
    have h24 := hN.2.2.1
    have hqn : q < nN N := by omega
    have i1 := fr_inf hN hs hp
    rw [w_X5_findBridge_29]
    simp (disch := omega) only [w_X5_findBridge_31, w_X5_findBridge_32, w_X5_findBridge_35, w_X5_findBridge_38, w_X5_findBridge_39, w_X5_findBridge_41, w_X5_findBridge_44, w_X5_findBridge_123, w_X5_findBridge_126, h.1.2.1, mKI_some, c_hasM (show nN N ≤ 32 by omega) hp, kLe, nI_1]
    rw [if_neg (fun z => by omega)]
    cases hr : rcE N s e (nC N l) p with
    | false =>
      rw [if_pos bf0]
      have e1 := brQ_no (dd := dd) (st := st0) hr q
      have e2 := brQ_no (dd := dd) (st := st0) hr (nN N)
      rw [e1] at hB
      rw [e2] at kk
      rw [e1]
      exact kk c _ _ but1_rf h hP rfl hB
    | true =>
      rw [if_neg bt1]
      have hst : brQ N s dd e (nC N l) st0 p (q + 1) = brS N s dd e (nC N l) (brQ N s dd e (nC N l) st0 p q) p q := rfl
      have ih' := ih (q + 1)
      rw [hst] at ih'
      generalize hgs : brQ N s dd e (nC N l) st0 p q = st at hB ih' ⊢
      have hb3 := hB.2.2
      have hct : ctO N (lk N p q) ≤ 1000000 := by
        cases hl2 : lk N p q with
        | none => exact Nat.le_refl _
        | some l2 =>
          have := (hN.2.2.2.1 l2 (lk_some hl2).1).2.2.2.2.1
          show nC N l2 ≤ 1000000
          omega
      simp (disch := omega) only [w_X5_findBridge_47, w_X5_findBridge_48, w_X5_findBridge_51, w_X5_findBridge_52, w_X5_findBridge_55, w_X5_findBridge_56, w_X5_findBridge_58, w_X5_findBridge_59, w_X5_findBridge_60, w_X5_findBridge_62, w_X5_findBridge_64, w_X5_findBridge_67, w_X5_findBridge_68, w_X5_findBridge_70, w_X5_findBridge_71, w_X5_findBridge_73, w_X5_findBridge_76, w_X5_findBridge_79, w_X5_findBridge_80, w_X5_findBridge_82, w_X5_findBridge_84, w_X5_findBridge_87, w_X5_findBridge_88, w_X5_findBridge_91, w_X5_findBridge_94, w_X5_findBridge_96, w_X5_findBridge_98, w_X5_findBridge_101, w_X5_findBridge_103, w_X5_findBridge_105, w_X5_findBridge_106, w_X5_findBridge_108, w_X5_findBridge_111, w_X5_findBridge_112, w_X5_findBridge_114, w_X5_findBridge_117, w_X5_findBridge_120, hP.1.1, hP.1.2.2.2.1, C_costAt h.1, lkI_nI hN hp hqn, C_link h.1 hp hqn, mKI_some, c_hasM (show nN N ≤ 32 by omega) hqn, kIn, kCl, CS_far h hs hp, nI_add, kLe, show s < 12 by omega, show p < 12 by omega, show s < 36 by omega, true_and, nI_1]
      have no : brC N s dd e (nC N l) p q st.2 = false → ∀ l7, WP mLayH 56 29 [some (.ref 3), some (.ref 1), some (.int (mkS (rcE N s e (nC N l)) (nN N))), some (.int (mkS (cmE N s dd e (nC N l)) (nN N))), some (.int (nI st.2)), some (.int (nI p)), some (.int (nI (q + 1))), l7] [] c Q := by
        intro hc l7
        have e1 : brS N s dd e (nC N l) st p q = st := by unfold brS; rw [if_neg (by rw [hc]; exact Bool.false_ne_true)]
        rw [e1] at ih'
        exact ih' c l7 (by omega) h hP hB kk
      cases hcm : cmE N s dd e (nC N l) q with
      | false =>
        rw [if_pos bf0]
        refine no ?_ _
        unfold brC
        cases lk N p q with
        | none => rfl
        | some l2 => dsimp only; rw [hcm, Bool.and_false, Bool.false_and]
      | true =>
        rw [if_neg bt1]
        cases hl2 : lk N p q with
        | none =>
          have hc : brC N s dd e (nC N l) p q st.2 = false := by unfold brC; rw [hl2]
          rw [en_none, if_neg (fun z => (kNe' (by omega)).mp z)]
          show if st.2 ≤ fr N s p + INF then _ else _
          rw [if_pos (by omega)]
          exact no hc _
        | some l2 =>
          have hlm := (lk_some hl2).1
          have hc9 := (hN.2.2.2.1 l2 hlm).2.2.2.2.1
          have hc : brC N s dd e (nC N l) p q st.2 = (decide (some l2 ≠ some l) && decide (fr N s p + nC N l2 < st.2)) := by
            unfold brC; rw [hl2]; dsimp only; rw [hlk, hr, hcm, Bool.and_true, Bool.and_true]
          rw [en_some]
          simp (disch := omega) only [kEq]
          show if l2 = l then _ else if st.2 ≤ fr N s p + nC N l2 then _ else _
          by_cases z : l2 = l
          · rw [if_pos z]
            exact no (by rw [hc, decide_eq_false (fun y => y (congrArg some z)), Bool.false_and]) _
          · rw [if_neg z]
            by_cases y : st.2 ≤ fr N s p + nC N l2
            · rw [if_pos y]
              exact no (by rw [hc, decide_eq_false (p := fr N s p + nC N l2 < st.2) (by omega), Bool.and_false]) _
            · rw [if_neg y]
              have e1 : brS N s dd e (nC N l) st p q = (some (12 * p + q), fr N s p + nC N l2) := by
                unfold brS
                rw [if_pos (by rw [hc, decide_eq_true (p := some l2 ≠ some l) (fun z' => z (Option.some.inj z')), decide_eq_true (p := fr N s p + nC N l2 < st.2) (by omega)]; rfl), hl2]
                rfl
              rw [e1] at ih'
              refine ih' _ _ (by omega) (CS_up3 (CS_up3 h)) (PL_up (PL_up hP (by decide)) (by decide)) ⟨?_, ?_, ?_⟩ (fun c2 l6 l7 b1 b2 b3 b4 b5 => kk c2 l6 l7 (but1_tr (but1_tr but1_up but1_up) b1) b2 b3 (by rw [b4, mUp_j (by decide), mUp_j (by decide)]) b5)
              · rw [mUp_j (by decide), mUp_s]
                show nI p = nI ((12 * p + q) / 12)
                rw [show (12 * p + q) / 12 = p by omega]
              · rw [mUp_s]
                show nI q = nI ((12 * p + q) % 12)
                rw [show (12 * p + q) % 12 = q by omega]
              · show fr N s p + nC N l2 ≤ INF
                omega
theorem bridge_p (hx : HX N s dd e l) : ∀ (k p : Nat) (c : mS) (l6 l7 : Option Value), p + k = nN N → CS c N wt wh → PL c N s dd e l → BS c (brP N s dd e (nC N l) p) →
    (∀ (c' : mS), but1 3 c c' → CS c' N wt wh → PL c' N s dd e l → c' 3 11 = c 3 11 → BS c' (brP N s dd e (nC N l) (nN N)) → Q (some (bi (brE N s dd e (nC N l)).isSome)) c') →
    WP mLayH 56 17 [some (.ref 3), some (.ref 1), some (.int (mkS (rcE N s e (nC N l)) (nN N))), some (.int (mkS (cmE N s dd e (nC N l)) (nN N))), some (.int (nI (brP N s dd e (nC N l) p).2)), some (.int (nI p)), l6, l7] [] c Q := by
  intro k
  induction k with
  | zero =>
    intro p c l6 l7 hp h hP hB kk
    have h12 := h.1.1.2.1
    rw [w_X5_findBridge_17]
    rw [show p = nN N by omega] at hB ⊢
    simp only [w_X5_findBridge_19, w_X5_findBridge_20, w_X5_findBridge_23, w_X5_findBridge_129, w_X5_findBridge_130, w_X5_findBridge_133, w_X5_findBridge_134, w_X5_findBridge_137, w_X5_findBridge_138, w_X5_findBridge_141, w_X5_findBridge_142, h.1.2.1, hB.1, true_or, or_true, true_and]
    rw [if_pos ((kLe (by omega) (by omega)).mpr (by omega))]
    have k1 := kk c but1_rf h hP rfl hB
    unfold brE at k1
    cases hb : (brP N s dd e (nC N l) (nN N)).1 with
    | none =>
      rw [hb] at k1
      show if (-1 : Int32) = -1 then _ else _
      rw [if_pos rfl]; exact k1
    | some w =>
      rw [hb] at k1
      have hw := (brP_ok (N := N) (s := s) (dd := dd) (e := e) (c := nC N l) h12 (nN N) (Nat.le_refl _)).2 w hb
      show if nI (w / 12) = -1 then _ else _
      rw [if_neg (fun q => (kNe (by omega)).mp q)]; exact k1
  | succ k ih =>
    intro p c l6 l7 hp h hP hB kk
    have h12 := h.1.1.2.1
    rw [w_X5_findBridge_17]
    simp only [w_X5_findBridge_19, w_X5_findBridge_20, w_X5_findBridge_23, w_X5_findBridge_26, w_X5_findBridge_27, h.1.2.1]
    rw [if_neg (fun q => by rw [kLe (by omega) (by omega)] at q; omega)]
    refine bridge_q (st0 := brP N s dd e (nC N l) p) hx (show p < nN N by omega) (nN N) 0 c _ (by omega) h hP hB (fun c1 l6 l7 b1 b2 b3 b4 b5 => ?_)
    exact ih (p + 1) c1 l6 l7 (by omega) b2 b3 b5 (fun c2 d1 d2 d3 d4 d5 => kk c2 (but1_tr b1 d1) d2 d3 (by rw [d4, b4]) d5)
theorem C_bridge (h : CS c N wt wh) (hx : HX N s dd e l) (hP : PL c N s dd e l) (kk : ∀ (c' : mS), but1 3 c c' → CS c' N wt wh → PL c' N s dd e l → c' 3 11 = c 3 11 → BS c' (brP N s dd e (nC N l) (nN N)) → Q (some (bi (brE N s dd e (nC N l)).isSome)) c') :
    WP mLayH 56 0 [some (.ref 3), some (.ref 1), some (.int (mkS (rcE N s e (nC N l)) (nN N))), some (.int (mkS (cmE N s dd e (nC N l)) (nN N))), none, none, none, none] [] c Q := by
  simp only [w_X5_findBridge_0, w_X5_findBridge_2, w_X5_findBridge_4, w_X5_findBridge_5, w_X5_findBridge_6, w_X5_findBridge_9, w_X5_findBridge_10, w_X5_findBridge_11, w_X5_findBridge_14, w_X5_findBridge_15]
  refine bridge_p hx (nN N) 0 _ none none (by omega) (CS_up3 (CS_up3 h)) (PL_up (PL_up hP (by decide)) (by decide)) ⟨?_, ?_, Nat.le_refl _⟩ (fun c2 d1 d2 d3 d4 d5 => kk c2 (but1_tr (but1_tr but1_up but1_up) d1) d2 d3 (by rw [d4, mUp_j (by decide), mUp_j (by decide)]) d5)
  · rw [mUp_j (by decide), mUp_s]; rfl
  · rw [mUp_s]; rfl
/-- the NODE that a REPAIR brings the PACKET to first -/
noncomputable def tgE (N : Nt) (s dd e k : Nat) : Option Nat := if (altF N s dd).isSome then altF N s dd else if (meE N s dd e k).isSome then meE N s dd e k else (brE N s dd e k).map (fun w => w / 12)
theorem C_choose (h : CS c N wt wh) (hx : HX N s dd e l) (hP : PL c N s dd e l) (kk : ∀ (c' : mS), but1 3 c c' → CS c' N wt wh → PL c' N s dd e l → c' 3 11 = en (tgE N s dd e (nC N l)) → (altF N s dd = none → meE N s dd e (nC N l) = none → BS c' (brP N s dd e (nC N l) (nN N))) → Q (some (nI (rpE N s dd e (nC N l)))) c') :
    WP mLayH 57 0 [some (.ref 3), some (.ref 1), none, none, none] [] c Q := by
  have hN := h.1.1
  have h12 := hN.2.1
  simp only [w_X5_choose_0, w_X5_choose_1, w_X5_choose_2, w_X5_choose_3, w_X5_choose_6, w_X5_choose_9, w_X5_choose_10, w_X5_choose_13, w_X5_choose_14, w_X5_choose_17, w_X5_choose_18, w_X5_choose_19, w_X5_choose_20, w_X5_choose_21, w_X5_choose_24, w_X5_choose_25, w_X5_choose_26, w_X5_choose_27, w_X5_choose_30, w_X5_choose_31, w_X5_choose_32, w_X5_choose_33, w_X5_choose_34, w_X5_choose_35, w_X5_choose_36, w_X5_choose_37, w_X5_choose_40, w_X5_choose_43, w_X5_choose_44, w_X5_choose_47, w_X5_choose_48, w_X5_choose_51, w_X5_choose_52, w_X5_choose_53, w_X5_choose_54, w_X5_choose_55, w_X5_choose_56, w_X5_choose_57, w_X5_choose_60, w_X5_choose_62, w_X5_choose_63, w_X5_choose_64, w_X5_choose_67, w_X5_choose_70, w_X5_choose_72, w_X5_choose_75, w_X5_choose_76, w_X5_choose_79, w_X5_choose_80, C_best h hx hP, mKI_some, mUp_s]
  unfold rpE tgE at kk
  cases ha : altF N s dd with
  | some u =>
    have hu := (bestF_some ha).1
    rw [ha] at kk
    rw [en_some, if_neg (fun q => (kNe (by omega)).mp q)]
    exact kk _ but1_up (CS_up3 h) (PL_up hP (by decide)) mUp_s (fun q => by cases q)
  | none =>
    rw [ha] at kk
    rw [en_none, if_pos rfl]
    have h1 : CS (mUp c 3 11 (-1)) N wt wh := CS_up3 h
    have hP1 : PL (mUp c 3 11 (-1)) N s dd e l := PL_up hP (by decide)
    rw [C_reach h1 hx hP1, mKI_some, C_coming h1 hx hP1, mKI_some, mk_and (by omega), C_near h1 hx.1 hP1, mKI_some]
    have hme : bestF (fun k => rcE N s e (nC N l) k && cmE N s dd e (nC N l) k) (fun x => fr N s x) (nN N) = meE N s dd e (nC N l) := rfl
    rw [hme]
    cases hm : meE N s dd e (nC N l) with
    | some u =>
      have hu := (bestF_some hm).1
      rw [hm] at kk
      rw [en_some, if_neg (fun q => (kNe (by omega)).mp q)]
      exact kk _ (but1_tr but1_up but1_up) (CS_up3 h1) (PL_up hP1 (by decide)) mUp_s (fun _ q => by cases q)
    | none =>
      rw [hm] at kk
      rw [en_none, if_pos rfl]
      refine C_bridge (CS_up3 h1) hx (PL_up hP1 (by decide)) (fun c2 b1 b2 b3 b4 b5 => ?_)
      rw [mKI_some]
      have e12 : c2 3 12 = en ((brE N s dd e (nC N l)).map (fun w => w / 12)) := b5.1
      have k2 := kk (mUp c2 3 11 (c2 3 12)) (but1_tr (but1_tr (but1_tr but1_up but1_up) b1) but1_up) (CS_up3 b2) (PL_up b3 (by decide)) (by rw [mUp_s]; exact e12) (fun _ _ => ⟨by rw [mUp_j (by decide)]; exact b5.1, by rw [mUp_j (by decide)]; exact b5.2.1, b5.2.2⟩)
      cases hb : brE N s dd e (nC N l) with
      | none => rw [hb] at k2; rw [if_pos (show bi (none : Option Nat).isSome = 0 from rfl)]; exact k2
      | some w => rw [hb] at k2; rw [if_neg bs1]; exact k2
theorem first_loop {x : Nat} (h : CS c N wt wh) (hx : HX N s dd e l) (hP : PL c N s dd e l) (hxn : x < nN N) : ∀ (k j : Nat), j + k = nN N →
    (WP mLayH 58 24 [some (.ref 3), some (.ref 1), some (.int (nI x)), some (.int (nI j))] [] c Q ↔ Q (some (en (fstG (nbP N s e (nC N l) x) j (nN N)))) c) := by
  have hN := h.1.1
  have h12 := hN.2.1
  intro k
  induction k with
  | zero =>
    intro j hj
    rw [w_X5_firstTowards_24]
    simp only [w_X5_firstTowards_25, w_X5_firstTowards_26, w_X5_firstTowards_29, w_X5_firstTowards_64, w_X5_firstTowards_65, h.1.2.1]
    rw [if_pos ((kLe (by omega) (by omega)).mpr (by omega)), show j = nN N by omega, fstG_n]
    exact Iff.rfl
  | succ k ih =>
    intro j hj
    have hjn : j < nN N := by omega
    rw [w_X5_firstTowards_24]
    simp (disch := omega) only [w_X5_firstTowards_25, w_X5_firstTowards_26, w_X5_firstTowards_29, w_X5_firstTowards_32, w_X5_firstTowards_33, w_X5_firstTowards_36, w_X5_firstTowards_37, w_X5_firstTowards_40, w_X5_firstTowards_58, w_X5_firstTowards_61, h.1.2.1, hP.2.2.1, mKI_some, c_hasM (show nN N ≤ 32 by omega) hjn, kLe, nI_1, ih (j + 1) (show j + 1 + k = nN N by omega)]
    rw [if_neg (fun q => by omega), fstG_step hjn, nb_ot]
    cases ho : otP N s e j with
    | false => rw [if_pos bf0, Bool.false_and, if_neg (by decide)]
    | true =>
      obtain ⟨l2, hl2⟩ := ot_lk ho
      rw [if_neg bt1, Bool.true_and]
      simp (disch := omega) only [w_X5_firstTowards_43, w_X5_firstTowards_44, w_X5_firstTowards_45, w_X5_firstTowards_46, w_X5_firstTowards_49, w_X5_firstTowards_50, w_X5_firstTowards_53, w_X5_firstTowards_56, w_X5_firstTowards_57, w_X5_firstTowards_58, w_X5_firstTowards_61, C_rby h hx hP hjn hl2, mKI_some, c_hasM (show nN N ≤ 32 by omega) hxn, nI_1, ih (j + 1) (show j + 1 + k = nN N by omega)]
      cases rbE N s e (nC N l) j x with
      | false => rw [if_pos bf0, if_neg (by decide)]
      | true => rw [if_neg bt1, if_pos rfl]; exact Iff.rfl
theorem C_first {x : Nat} (h : CS c N wt wh) (hx : HX N s dd e l) (hP : PL c N s dd e l) (hxn : x < nN N) : WP mLayH 58 0 [some (.ref 3), some (.ref 1), some (.int (nI x)), none] [] c Q ↔ Q (some (en (if rbE N s e (nC N l) s x then nx N none x s else fstI (nbP N s e (nC N l) x) (nN N)))) c := by
  have h12 := h.1.1.2.1
  simp (disch := omega) only [w_X5_firstTowards_0, w_X5_firstTowards_1, w_X5_firstTowards_2, w_X5_firstTowards_5, w_X5_firstTowards_6, w_X5_firstTowards_9, w_X5_firstTowards_12, w_X5_firstTowards_13, w_X5_firstTowards_14, w_X5_firstTowards_17, w_X5_firstTowards_18, w_X5_firstTowards_21, w_X5_firstTowards_22, w_X5_firstTowards_23, C_rself h hx hP, mKI_some, c_hasM (show nN N ≤ 32 by omega) hxn, hP.1.1, C_hopN h hx.1 hxn]
  cases rbE N s e (nC N l) s x with
  | false =>
    rw [if_pos bf0, if_neg (by decide), ← fstG_0]
    exact first_loop h hx hP hxn (nN N) 0 (by omega)
  | true => rw [if_neg bt1, if_pos rfl]
end PL5
