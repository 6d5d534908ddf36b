/-! the class: covered, but for SAFE -/
theorem sumN_add {f g : Nat → Nat} : ∀ {n : Nat}, sumN (fun k => f k + g k) n = sumN f n + sumN g n
  | 0 => rfl
  | n + 1 => by unfold sumN; rw [sumN_add]; omega
theorem sumN_0 : ∀ {n : Nat}, sumN (fun _ => 0) n = 0
  | 0 => rfl
  | n + 1 => by unfold sumN; rw [sumN_0]
theorem sumN_cnt {p : Nat → Bool} : ∀ {n : Nat}, sumN (fun k => if p k then 1 else 0) n = cnt p n
  | 0 => rfl
  | n + 1 => by unfold sumN cnt; rw [sumN_cnt]
theorem sum_ex {p : Nat → Nat → Bool} {n : Nat} : ∀ {m : Nat}, sumN (fun s => cnt (fun d => p s d) n) m = sumN (fun d => cnt (fun s => p s d) m) n
  | 0 => by rw [show sumN (fun s => cnt (fun d => p s d) n) 0 = 0 from rfl, show sumN (fun d => cnt (fun s => p s d) 0) n = sumN (fun _ => 0) n from rfl, sumN_0]
  | m + 1 => by
    rw [show sumN (fun s => cnt (fun d => p s d) n) (m + 1) = sumN (fun s => cnt (fun d => p s d) n) m + cnt (fun d => p m d) n from rfl, sum_ex (m := m),
      show sumN (fun d => cnt (fun s => p s d) (m + 1)) n = sumN (fun d => cnt (fun s => p s d) m + (if p m d then 1 else 0)) n from rfl, sumN_add, sumN_cnt]
section CV1
variable {c : mS} {N : Nt} {wt wh : Nat} {Q : Option Int32 → mS → Prop} {a b a1 : Int32} {s dd e l : Nat}
theorem cv_HX {w : Nat} (hx : HX N s dd e l) : cvP N w s dd = (if w = 0 then true else if w ≤ 3 then decide (rpE N s dd e (nC N l) = w) else if w = 4 then decide (rpE N s dd e (nC N l) = 0) else if w = 5 then (match altF N s dd with | none => false | some a => onP N s dd 2 a) else if w = 6 then (match altF N s dd with | none => false | some a => onP N s dd 3 a) else sfP N s dd) := by
  unfold cvP
  rw [hx.2.2.2.1]
  dsimp only
  rw [hx.2.2.2.2.1]
  dsimp only
  cases altF N s dd <;> rfl
theorem rpE_3 {k : Nat} : rpE N s dd e k ≤ 3 := by unfold rpE; (repeat' split) <;> omega
theorem C_kind {w : Nat} (h : CS c N wt wh) (hx : HX N s dd e l) (hP : PL c N s dd e l) (hw : w ≤ 6) (kk : ∀ c' : mS, but1 3 c c' → Q (some (bi (cvP N w s dd))) c') : WP mLayH 91 0 [some (.ref 0), some (.int (nI w))] [] c Q := by
  have hr := rpE_3 (N := N) (s := s) (dd := dd) (e := e) (k := nC N l)
  rw [cv_HX hx] at kk
  simp only [w_X6_isOfKind_0, w_X6_isOfKind_1, w_X6_isOfKind_44, w_X6_isOfKind_45, w_X6_isOfKind_46, w_X6_isOfKind_47, w_X6_isOfKind_50, w_X6_isOfKind_51, w_X6_isOfKind_54, w_X6_isOfKind_57, w_X6_isOfKind_58, w_X6_isOfKind_61, w_X6_isOfKind_62, w_X6_isOfKind_65, w_X6_isOfKind_66, w_X6_isOfKind_67, w_X6_isOfKind_68, w_X6_isOfKind_71, w_X6_isOfKind_72, w_X6_isOfKind_75, w_X6_isOfKind_78, w_X6_isOfKind_81, w_X6_isOfKind_82, w_X6_isOfKind_85, w_X6_isOfKind_86, w_X6_isOfKind_87, w_X6_isOfKind_88, w_X6_isOfKind_91, w_X6_isOfKind_92, w_X6_isOfKind_95, w_X6_isOfKind_96, w_X6_isOfKind_99, w_X6_isOfKind_100, w_X6_isOfKind_101, w_X6_isOfKind_104, w_X6_isOfKind_105, w_X6_isOfKind_108, w_X6_isOfKind_109, w_X6_isOfKind_112, w_X6_isOfKind_113, w_X6_isOfKind_114, true_or, or_true, true_and, bi_01]
  rcases (show w = 0 ∨ w = 1 ∨ w = 2 ∨ w = 3 ∨ w = 4 ∨ w = 5 ∨ w = 6 by omega) with rfl | rfl | rfl | rfl | rfl | rfl | rfl
  · rw [if_pos (show nI 0 = 0 from rfl)]; exact kk c but1_rf
  · rw [if_neg (show ¬ nI 1 = 0 by decide), if_pos (show nI 1 = 1 from rfl)]
    refine C_choose h hx hP (fun c1 b1 _ _ _ _ => ?_)
    have k := kk c1 b1
    rw [mKI_some]
    simp (disch := omega) only [kEq]
    rw [if_neg (by decide), if_pos (by decide)] at k
    by_cases z : rpE N s dd e (nC N l) = 1
    · rw [decide_eq_true z] at k; rw [if_neg (fun q => q z)]; exact k
    · rw [decide_eq_false z] at k; rw [if_pos z]; exact k
  · rw [if_neg (show ¬ nI 2 = 0 by decide), if_neg (show ¬ nI 2 = 1 by decide), if_pos (show nI 2 = 2 from rfl)]
    refine C_choose h hx hP (fun c1 b1 _ _ _ _ => ?_)
    have k := kk c1 b1
    rw [mKI_some]
    simp (disch := omega) only [kEq]
    rw [if_neg (by decide), if_pos (by decide)] at k
    by_cases z : rpE N s dd e (nC N l) = 2
    · rw [decide_eq_true z] at k; rw [if_neg (fun q => q z)]; exact k
    · rw [decide_eq_false z] at k; rw [if_pos z]; exact k
  · rw [if_neg (show ¬ nI 3 = 0 by decide), if_neg (show ¬ nI 3 = 1 by decide), if_neg (show ¬ nI 3 = 2 by decide), if_pos (show nI 3 = 3 from rfl)]
    refine C_choose h hx hP (fun c1 b1 _ _ _ _ => ?_)
    have k := kk c1 b1
    rw [mKI_some]
    simp (disch := omega) only [kEq]
    rw [if_neg (by decide), if_pos (by decide)] at k
    by_cases z : rpE N s dd e (nC N l) = 3
    · rw [decide_eq_true z] at k; rw [if_neg (fun q => q z)]; exact k
    · rw [decide_eq_false z] at k; rw [if_pos z]; exact k
  · rw [if_neg (show ¬ nI 4 = 0 by decide), if_neg (show ¬ nI 4 = 1 by decide), if_neg (show ¬ nI 4 = 2 by decide), if_neg (show ¬ nI 4 = 3 by decide), if_pos (show nI 4 = 4 from rfl)]
    refine C_choose h hx hP (fun c1 b1 _ _ _ _ => ?_)
    have k := kk c1 b1
    rw [mKI_some]
    simp (disch := omega) only [kq0]
    rw [if_neg (by decide), if_neg (by decide), if_pos (by decide)] at k
    by_cases z : rpE N s dd e (nC N l) = 0
    · rw [decide_eq_true z] at k; rw [if_neg (fun q => q z)]; exact k
    · rw [decide_eq_false z] at k; rw [if_pos z]; exact k
  · rw [if_neg (show ¬ nI 5 = 0 by decide), if_neg (show ¬ nI 5 = 1 by decide), if_neg (show ¬ nI 5 = 2 by decide), if_neg (show ¬ nI 5 = 3 by decide), if_neg (show ¬ nI 5 = 4 by decide), if_pos (show nI 5 = 5 from rfl)]
    rw [show (2 : Int32) = nI 2 from rfl, C_isBest h hx hP (by decide), mKI_some]
    refine ⟨bi_01 _, ?_⟩
    have k := kk c but1_rf
    rw [if_neg (by decide), if_neg (by decide), if_neg (by decide), if_pos (by decide)] at k
    cases ha : altF N s dd with
    | none => rw [ha] at k; exact k
    | some u => rw [ha] at k; exact k
  · rw [if_neg (show ¬ nI 6 = 0 by decide), if_neg (show ¬ nI 6 = 1 by decide), if_neg (show ¬ nI 6 = 2 by decide), if_neg (show ¬ nI 6 = 3 by decide), if_neg (show ¬ nI 6 = 4 by decide), if_neg (show ¬ nI 6 = 5 by decide), if_pos (show nI 6 = 6 from rfl)]
    rw [show (3 : Int32) = nI 3 from rfl, C_isBest h hx hP (by decide), mKI_some]
    refine ⟨bi_01 _, ?_⟩
    have k := kk c but1_rf
    rw [if_neg (by decide), if_neg (by decide), if_neg (by decide), if_neg (by decide), if_pos (by decide)] at k
    cases ha : altF N s dd with
    | none => rw [ha] at k; exact k
    | some u => rw [ha] at k; exact k
theorem cv_no {w : Nat} (hN : Nok N) (hs : s < nN N) (hd : dd < nN N) (h : wnx N (nI s) (nI dd) = none) : cvP N w s dd = false := by
  unfold wnx at h
  rw [two_nI hN hs hd] at h
  dsimp only at h
  unfold cvP
  cases hn : nx N none dd s with
  | none => rfl
  | some e => rw [hn] at h; cases h
theorem kind_loop {w : Nat} (hw : w ≤ 6) (hd : dd < nN N) : ∀ (k j : Nat) (c : mS), j + k = nN N → CS c N wt wh →
    (∀ c' : mS, CS c' N wt wh → Q (some (nI (cnt (fun s => cvP N w s dd) (nN N)))) c') →
    WP mLayH 90 5 [some (.ref 0), some (.int (nI dd)), some (.int (nI w)), some (.int (nI (cnt (fun s => cvP N w s dd) j))), some (.int (nI j))] [] c Q := by
  intro k
  induction k with
  | zero =>
    intro j c hj h kk
    have h12 := h.1.1.2.1
    rw [w_X6_sendersOfKind_5]
    simp only [w_X6_sendersOfKind_7, w_X6_sendersOfKind_8, w_X6_sendersOfKind_11, w_X6_sendersOfKind_14, w_X6_sendersOfKind_51, w_X6_sendersOfKind_52, h.1.2.1]
    rw [if_pos ((kLe (by omega) (by omega)).mpr (by omega)), show j = nN N by omega]
    exact kk c h
  | succ k ih =>
    intro j c hj h kk
    have hN := h.1.1
    have h12 := hN.2.1
    have hjn : j < nN N := by omega
    rw [w_X6_sendersOfKind_5]
    simp only [w_X6_sendersOfKind_7, w_X6_sendersOfKind_8, w_X6_sendersOfKind_11, w_X6_sendersOfKind_14, w_X6_sendersOfKind_17, w_X6_sendersOfKind_18, w_X6_sendersOfKind_21, w_X6_sendersOfKind_22, w_X6_sendersOfKind_25, w_X6_sendersOfKind_27, w_X6_sendersOfKind_28, w_X6_sendersOfKind_31, w_X6_sendersOfKind_34, w_X6_sendersOfKind_35, w_X6_sendersOfKind_36, w_X6_sendersOfKind_39, w_X6_sendersOfKind_42, w_X6_sendersOfKind_45, w_X6_sendersOfKind_48, h.1.2.1, nI_1]
    rw [if_neg (fun q => by rw [kLe (by omega) (by omega)] at q; omega)]
    have hst : cnt (fun s => cvP N w s dd) (j + 1) = cnt (fun s => cvP N w s dd) j + (if cvP N w j dd then 1 else 0) := rfl
    have ih' := ih (j + 1)
    rw [hst] at ih'
    refine C_aim h (fun hw0 => ?_) (fun s' dd' e l c2 hw0 e1 e2 hH b2 hP => ?_)
    · rw [cv_no hN hjn hd hw0, if_neg Bool.false_ne_true, Nat.add_zero] at ih'
      rw [mKI_some, if_pos rfl]
      exact ih' c (by omega) h kk
    · have e1' := (kEq (by omega) (by have := hH.1; omega)).mp e1
      have e2' := (kEq (by omega) (by have := hH.2.1; omega)).mp e2
      subst e1' e2'
      rw [mKI_some, if_neg (by decide)]
      refine C_kind (CS_b3 h b2) hH hP hw (fun c3 b3 => ?_)
      have h3 := CS_b3 (CS_b3 h b2) b3
      rw [mKI_some]
      cases hc : cvP N w j dd with
      | false =>
        rw [hc, if_neg Bool.false_ne_true, Nat.add_zero] at ih'
        rw [if_pos bf0]; exact ih' c3 (by omega) h3 kk
      | true =>
        rw [hc, if_pos rfl] at ih'
        rw [if_neg bt1]; exact ih' c3 (by omega) h3 kk
theorem C_ofKind {w : Nat} (hw : w ≤ 6) (hd : dd < nN N) (h : CS c N wt wh) (kk : ∀ c' : mS, CS c' N wt wh → Q (some (nI (cnt (fun s => cvP N w s dd) (nN N)))) c') : WP mLayH 90 0 [some (.ref 0), some (.int (nI dd)), some (.int (nI w)), none, none] [] c Q := by
  simp only [w_X6_sendersOfKind_0, w_X6_sendersOfKind_1, w_X6_sendersOfKind_2, w_X6_sendersOfKind_3]
  exact kind_loop hw hd (nN N) 0 c (by omega) h kk
end CV1
/-! whom a PACKET's end depends on -/
section PE1
variable {N : Nt} {dn : Nat → Bool} {g : Nat}
def PE (P P' : Pk) : Prop := kAt P = kAt P' ∧ kEn P = kEn P' ∧ kWh P = kWh P'
theorem PE_lost {P P' : Pk} (h : PE P P') : PE (kLost P) (kLost P') := ⟨h.1, rfl, h.2.2⟩
theorem PE_go {P P' : Pk} (h : PE P P') {u : Nat} : PE (pgo N dn g P u) (pgo N dn g P' u) := by
  unfold pgo
  rw [h.1]
  cases lk N (kAt P') u with
  | none => exact PE_lost h
  | some l =>
    dsimp only
    split
    · exact PE_lost h
    · exact ⟨rfl, rfl, h.2.2⟩
theorem PE_wk {x : Nat} : ∀ (k : Nat) {P P' : Pk}, PE P P' → PE (pwk N dn g x k P) (pwk N dn g x k P')
  | 0, _, _, h => h
  | k + 1, P, P', h => by
    unfold pwk
    rw [h.1, h.2.1]
    split
    · cases nx N none x (kAt P') with
      | none => exact PE_lost h
      | some u => exact PE_wk k (PE_go h)
    · exact h
theorem PE_tn {s e k x : Nat} {P P' : Pk} (h : PE P P') : PE (ptn N dn g s e k x P) (ptn N dn g s e k x P') := by
  unfold ptn
  refine PE_wk 12 ?_
  split
  · exact h
  · cases fstI (nbP N s e k x) (nN N) with
    | none => exact PE_lost h
    | some u => exact PE_go h
theorem PE_rp {e k : Nat} {P P' : Pk} (h : PE P P') : PE (prp N dn g e k P) (prp N dn g e k P') := by
  unfold prp
  dsimp only
  rw [h.1]
  have h2 : PE (kAt P', kEn P, kSt P, some (kAt P'), kSp P, kTr P) (kAt P', kEn P', kSt P', some (kAt P'), kSp P', kTr P') := ⟨rfl, h.2.1, rfl⟩
  cases altF N (kAt P') g with
  | some a => exact PE_go h2
  | none =>
    dsimp only
    cases meE N (kAt P') g e k with
    | some x => exact PE_tn h2
    | none =>
      dsimp only
      cases brE N (kAt P') g e k with
      | none => exact PE_lost h2
      | some w =>
        dsimp only
        have h3 := PE_tn (N := N) (dn := dn) (g := g) (s := kAt P') (e := e) (k := k) (x := w / 12) h2
        rw [h3.2.1]
        split
        · exact PE_go h3
        · exact h3
theorem PE_sF : ∀ (k : Nat) {P P' : Pk}, PE P P' → PE (psF N dn g k P) (psF N dn g k P')
  | 0, _, _, h => h
  | k + 1, P, P', h => by
    unfold psF
    rw [h.1, h.2.1]
    split
    · cases nx N none g (kAt P') with
      | none => exact PE_lost h
      | some u =>
        dsimp only
        split
        · rw [h.2.2]
          split
          · exact PE_sF k (PE_rp h)
          · exact PE_lost h
        · exact PE_sF k (PE_go h)
    · exact h
theorem psF_fu (hN : Nok N) (hg : g < nN N) : ∀ (k k' : Nat) (P : Pk), pIV N g P → pMs N g P < k → pMs N g P < k' → psF N dn g k P = psF N dn g k' P := by
  intro k
  induction k with
  | zero => intro k' P _ h; omega
  | succ k ih =>
    intro k' P hI h1 h2
    cases k' with
    | zero => omega
    | succ k' =>
      unfold psF
      by_cases e : kEn P = none
      · rw [if_pos e, if_pos e]
        cases hn : nx N none g (kAt P) with
        | none => rfl
        | some u =>
          obtain ⟨l, hH⟩ := HX_of hI.1 hg hn
          dsimp only
          rw [hH.2.2.2.2.1]
          split
          · split
            · rename_i w
              obtain ⟨i1, i2⟩ := pIV_rp (dn := dn) hN hI hH w
              exact ih k' _ i1 (by show pMs N g (prp N dn g u (nC N l) P) < k; omega) (by show pMs N g (prp N dn g u (nC N l) P) < k'; omega)
            · rfl
          · obtain ⟨i1, i2⟩ := pIV_go (dn := dn) hN hI hn
            by_cases z : kEn (pgo N dn g P u) = none
            · have := i2 z
              exact ih k' _ i1 (by omega) (by omega)
            · rw [psF_end z, psF_end z]
      · rw [if_neg e, if_neg e]
end PE1
