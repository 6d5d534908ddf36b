/-! the reference: bridge, repair, the lowest by which one is reached -/
section MO7
variable {d : mS} {N : Nt} {wt wh : Nat} {Q : Option Int32 → mS → Prop} {s dd e l : Nat}
theorem F_bridge_q (h : MF d N wt wh) (hx : HX N s dd e l) {p : Nat} (hp : p < nN N) {st : Option Nat × Nat} (hst : st.2 ≤ INF ∧ ∀ k, st.1 = some k → k < 12 * p ∧ k / 12 < nN N ∧ k % 12 < nN N)
    (kk : ∀ l9 l10 l11 : Option Value, WP mLayM 131 40 [some (.ref 0), some (.int (nI s)), some (.int (nI dd)), some (.int (mkS (rcE N s e (nC N l)) (nN N))), some (.int (mkS (cmE N s dd e (nC N l)) (nN N))), some (.int (nI l)), some (.int (en (brQ N s dd e (nC N l) st p (nN N)).1)), some (.int (nI (brQ N s dd e (nC N l) st p (nN N)).2)), some (.int (nI (p + 1))), l9, l10, l11] [] d Q) :
    ∀ (k j : Nat) (l10 l11 : Option Value), j + k = nN N → WP mLayM 131 52 [some (.ref 0), some (.int (nI s)), some (.int (nI dd)), some (.int (mkS (rcE N s e (nC N l)) (nN N))), some (.int (mkS (cmE N s dd e (nC N l)) (nN N))), some (.int (nI l)), some (.int (en (brQ N s dd e (nC N l) st p j).1)), some (.int (nI (brQ N s dd e (nC N l) st p j).2)), some (.int (nI p)), some (.int (nI j)), l10, l11] [] d Q := by
  have hN := h.1.1
  have h12 := hN.2.1
  have h24 := hN.2.2.1
  have hi : INF = 1000000 := rfl
  have hs := hx.1
  have hlk := hx.2.2.2.2.1
  have hl := hx.2.2.2.2.2
  intro k
  induction k with
  | zero =>
    intro j l10 l11 hj
    rw [w_X7_bridge_52]
    simp only [w_X7_bridge_0, w_X7_bridge_1, w_X7_bridge_2, w_X7_bridge_3, w_X7_bridge_6, w_X7_bridge_7, w_X7_bridge_8, w_X7_bridge_9, w_X7_bridge_10, w_X7_bridge_13, w_X7_bridge_15, w_X7_bridge_16, w_X7_bridge_17, w_X7_bridge_18, w_X7_bridge_19, w_X7_bridge_20, w_X7_bridge_21, w_X7_bridge_22, w_X7_bridge_25, w_X7_bridge_28, w_X7_bridge_30, w_X7_bridge_31, w_X7_bridge_33, w_X7_bridge_35, w_X7_bridge_37, w_X7_bridge_38, w_X7_bridge_42, w_X7_bridge_43, w_X7_bridge_46, w_X7_bridge_49, w_X7_bridge_50, w_X7_bridge_54, w_X7_bridge_55, w_X7_bridge_58, w_X7_bridge_61, w_X7_bridge_62, w_X7_bridge_64, w_X7_bridge_66, w_X7_bridge_69, w_X7_bridge_71, w_X7_bridge_73, w_X7_bridge_76, w_X7_bridge_78, w_X7_bridge_80, w_X7_bridge_83, w_X7_bridge_84, w_X7_bridge_86, w_X7_bridge_87, w_X7_bridge_88, w_X7_bridge_89, w_X7_bridge_90, w_X7_bridge_93, w_X7_bridge_95, w_X7_bridge_97, w_X7_bridge_98, w_X7_bridge_99, w_X7_bridge_100, w_X7_bridge_101, w_X7_bridge_104, w_X7_bridge_105, w_X7_bridge_106, w_X7_bridge_108, w_X7_bridge_111, w_X7_bridge_112, w_X7_bridge_115, w_X7_bridge_117, w_X7_bridge_118, w_X7_bridge_119, w_X7_bridge_121, w_X7_bridge_124, w_X7_bridge_125, w_X7_bridge_128, w_X7_bridge_129, w_X7_bridge_131, w_X7_bridge_133, w_X7_bridge_136, w_X7_bridge_137, w_X7_bridge_138, w_X7_bridge_140, w_X7_bridge_143, w_X7_bridge_144, w_X7_bridge_147, w_X7_bridge_149, w_X7_bridge_150, w_X7_bridge_151, w_X7_bridge_154, w_X7_bridge_156, w_X7_bridge_158, w_X7_bridge_160, w_X7_bridge_163, w_X7_bridge_165, w_X7_bridge_167, w_X7_bridge_168, w_X7_bridge_170, w_X7_bridge_171, w_X7_bridge_174, w_X7_bridge_176, w_X7_bridge_178, w_X7_bridge_181, w_X7_bridge_184, w_X7_bridge_187, w_X7_bridge_190, w_X7_bridge_192, h.1.2.1]
    rw [if_pos ((kLe (by omega) (by omega)).mpr (by omega)), show j = nN N by omega, nI_1]
    exact kk _ _ _
  | succ k ih =>
    intro j l10 l11 hj
    have hj2 : j < nN N := by omega
    have ih := fun l10 l11 => ih (j + 1) l10 l11 (by omega)
    obtain ⟨ok1, -⟩ := brQ_ok (s := s) (dd := dd) (e := e) (c := nC N l) hst h12 hp j (by omega)
    have hu : brQ N s dd e (nC N l) st p (j + 1) = (if brC N s dd e (nC N l) p j (brQ N s dd e (nC N l) st p j).2 then (some (12 * p + j), fr N s p + nC N ((lk N p j).getD 0)) else brQ N s dd e (nC N l) st p j) := rfl
    rw [hu] at ih
    generalize brQ N s dd e (nC N l) st p j = st0 at ih ok1 ⊢
    rw [w_X7_bridge_52]
    simp only [w_X7_bridge_0, w_X7_bridge_1, w_X7_bridge_2, w_X7_bridge_3, w_X7_bridge_6, w_X7_bridge_7, w_X7_bridge_8, w_X7_bridge_9, w_X7_bridge_10, w_X7_bridge_13, w_X7_bridge_15, w_X7_bridge_16, w_X7_bridge_17, w_X7_bridge_18, w_X7_bridge_19, w_X7_bridge_20, w_X7_bridge_21, w_X7_bridge_22, w_X7_bridge_25, w_X7_bridge_28, w_X7_bridge_30, w_X7_bridge_31, w_X7_bridge_33, w_X7_bridge_35, w_X7_bridge_37, w_X7_bridge_38, w_X7_bridge_42, w_X7_bridge_43, w_X7_bridge_46, w_X7_bridge_49, w_X7_bridge_50, w_X7_bridge_54, w_X7_bridge_55, w_X7_bridge_58, w_X7_bridge_61, w_X7_bridge_62, w_X7_bridge_64, w_X7_bridge_66, w_X7_bridge_69, w_X7_bridge_71, w_X7_bridge_73, w_X7_bridge_76, w_X7_bridge_78, w_X7_bridge_80, w_X7_bridge_83, w_X7_bridge_84, w_X7_bridge_86, w_X7_bridge_87, w_X7_bridge_88, w_X7_bridge_89, w_X7_bridge_90, w_X7_bridge_93, w_X7_bridge_95, w_X7_bridge_97, w_X7_bridge_98, w_X7_bridge_99, w_X7_bridge_100, w_X7_bridge_101, w_X7_bridge_104, w_X7_bridge_105, w_X7_bridge_106, w_X7_bridge_108, w_X7_bridge_111, w_X7_bridge_112, w_X7_bridge_115, w_X7_bridge_117, w_X7_bridge_118, w_X7_bridge_119, w_X7_bridge_121, w_X7_bridge_124, w_X7_bridge_125, w_X7_bridge_128, w_X7_bridge_129, w_X7_bridge_131, w_X7_bridge_133, w_X7_bridge_136, w_X7_bridge_137, w_X7_bridge_138, w_X7_bridge_140, w_X7_bridge_143, w_X7_bridge_144, w_X7_bridge_147, w_X7_bridge_149, w_X7_bridge_150, w_X7_bridge_151, w_X7_bridge_154, w_X7_bridge_156, w_X7_bridge_158, w_X7_bridge_160, w_X7_bridge_163, w_X7_bridge_165, w_X7_bridge_167, w_X7_bridge_168, w_X7_bridge_170, w_X7_bridge_171, w_X7_bridge_174, w_X7_bridge_176, w_X7_bridge_178, w_X7_bridge_181, w_X7_bridge_184, w_X7_bridge_187, w_X7_bridge_190, w_X7_bridge_192, h.1.2.1]
    rw [if_neg (fun q => by rw [kLe (by omega) (by omega)] at q; omega)]
    have i1 := fr_inf hN hs hp
    cases hpj : lk N p j with
    | none =>
      have hc : brC N s dd e (nC N l) p j st0.2 = false := by unfold brC; rw [hpj]
      simp only [hc, Bool.false_eq_true, if_false] at ih
      rw [F_link h hp hj2, mKI_some, hpj, en_none]
      simp only [kn1, if_true, nI_1]
      exact ih _ _
    | some q =>
      have hq := (lk_some hpj).1
      have e3 := (h.1.2.2.2.1 q hq).2.2.1
      have g5 := (hN.2.2.2.1 q hq).2.2.2.2.1
      have hc : brC N s dd e (nC N l) p j st0.2 = (decide (some q ≠ lk N s e) && rcE N s e (nC N l) p && cmE N s dd e (nC N l) j && decide (fr N s p + nC N q < st0.2)) := by unfold brC; rw [hpj]
      rw [hc, hpj, hlk] at ih
      simp (disch := omega) only [F_link h hp hj2, mKI_some, hpj, en_some, k0lt, if_false, if_true, k10, kEq, mk_ask (show nN N ≤ 32 by omega) hp, mk_ask (show nN N ≤ 32 by omega) hj2, bi_1, F_far h hs hp, kIn, kCl, e3, nI_add, kLe, nI_1, k12, pk_mul, show q < 24 by omega, true_and]
      by_cases c1 : q = l
      · rw [if_pos c1]
        rw [if_neg (by simp [c1])] at ih
        exact ih _ _
      · rw [if_neg c1]
        cases c2 : rcE N s e (nC N l) p with
        | false =>
          rw [if_pos (by decide)]
          rw [if_neg (by simp [c2])] at ih
          exact ih _ _
        | true =>
          rw [if_neg (by decide)]
          cases c3 : cmE N s dd e (nC N l) j with
          | false =>
            rw [if_pos (by decide)]
            rw [if_neg (by simp [c3])] at ih
            exact ih _ _
          | true =>
            rw [if_neg (by decide)]
            by_cases c4 : st0.2 ≤ fr N s p + nC N q
            · rw [if_pos c4]
              rw [if_neg (by simp; intros; omega)] at ih
              exact ih _ _
            · rw [if_neg c4]
              rw [if_pos (by simp [c1, c2, c3]; omega)] at ih
              exact ih _ _
theorem F_bridge_p (h : MF d N wt wh) (hx : HX N s dd e l) (kk : Q (some (en (brE N s dd e (nC N l)))) d) :
    ∀ (k j : Nat) (l9 l10 l11 : Option Value), j + k = nN N → WP mLayM 131 40 [some (.ref 0), some (.int (nI s)), some (.int (nI dd)), some (.int (mkS (rcE N s e (nC N l)) (nN N))), some (.int (mkS (cmE N s dd e (nC N l)) (nN N))), some (.int (nI l)), some (.int (en (brP N s dd e (nC N l) j).1)), some (.int (nI (brP N s dd e (nC N l) j).2)), some (.int (nI j)), l9, l10, l11] [] d Q := by
  have hN := h.1.1
  have h12 := hN.2.1
  intro k
  induction k with
  | zero =>
    intro j l9 l10 l11 hj
    rw [w_X7_bridge_40]
    simp only [w_X7_bridge_0, w_X7_bridge_1, w_X7_bridge_2, w_X7_bridge_3, w_X7_bridge_6, w_X7_bridge_7, w_X7_bridge_8, w_X7_bridge_9, w_X7_bridge_10, w_X7_bridge_13, w_X7_bridge_15, w_X7_bridge_16, w_X7_bridge_17, w_X7_bridge_18, w_X7_bridge_19, w_X7_bridge_20, w_X7_bridge_21, w_X7_bridge_22, w_X7_bridge_25, w_X7_bridge_28, w_X7_bridge_30, w_X7_bridge_31, w_X7_bridge_33, w_X7_bridge_35, w_X7_bridge_37, w_X7_bridge_38, w_X7_bridge_42, w_X7_bridge_43, w_X7_bridge_46, w_X7_bridge_49, w_X7_bridge_50, w_X7_bridge_54, w_X7_bridge_55, w_X7_bridge_58, w_X7_bridge_61, w_X7_bridge_62, w_X7_bridge_64, w_X7_bridge_66, w_X7_bridge_69, w_X7_bridge_71, w_X7_bridge_73, w_X7_bridge_76, w_X7_bridge_78, w_X7_bridge_80, w_X7_bridge_83, w_X7_bridge_84, w_X7_bridge_86, w_X7_bridge_87, w_X7_bridge_88, w_X7_bridge_89, w_X7_bridge_90, w_X7_bridge_93, w_X7_bridge_95, w_X7_bridge_97, w_X7_bridge_98, w_X7_bridge_99, w_X7_bridge_100, w_X7_bridge_101, w_X7_bridge_104, w_X7_bridge_105, w_X7_bridge_106, w_X7_bridge_108, w_X7_bridge_111, w_X7_bridge_112, w_X7_bridge_115, w_X7_bridge_117, w_X7_bridge_118, w_X7_bridge_119, w_X7_bridge_121, w_X7_bridge_124, w_X7_bridge_125, w_X7_bridge_128, w_X7_bridge_129, w_X7_bridge_131, w_X7_bridge_133, w_X7_bridge_136, w_X7_bridge_137, w_X7_bridge_138, w_X7_bridge_140, w_X7_bridge_143, w_X7_bridge_144, w_X7_bridge_147, w_X7_bridge_149, w_X7_bridge_150, w_X7_bridge_151, w_X7_bridge_154, w_X7_bridge_156, w_X7_bridge_158, w_X7_bridge_160, w_X7_bridge_163, w_X7_bridge_165, w_X7_bridge_167, w_X7_bridge_168, w_X7_bridge_170, w_X7_bridge_171, w_X7_bridge_174, w_X7_bridge_176, w_X7_bridge_178, w_X7_bridge_181, w_X7_bridge_184, w_X7_bridge_187, w_X7_bridge_190, w_X7_bridge_192, h.1.2.1]
    rw [if_pos ((kLe (by omega) (by omega)).mpr (by omega)), show j = nN N by omega]
    exact kk
  | succ k ih =>
    intro j l9 l10 l11 hj
    rw [w_X7_bridge_40]
    simp only [w_X7_bridge_0, w_X7_bridge_1, w_X7_bridge_2, w_X7_bridge_3, w_X7_bridge_6, w_X7_bridge_7, w_X7_bridge_8, w_X7_bridge_9, w_X7_bridge_10, w_X7_bridge_13, w_X7_bridge_15, w_X7_bridge_16, w_X7_bridge_17, w_X7_bridge_18, w_X7_bridge_19, w_X7_bridge_20, w_X7_bridge_21, w_X7_bridge_22, w_X7_bridge_25, w_X7_bridge_28, w_X7_bridge_30, w_X7_bridge_31, w_X7_bridge_33, w_X7_bridge_35, w_X7_bridge_37, w_X7_bridge_38, w_X7_bridge_42, w_X7_bridge_43, w_X7_bridge_46, w_X7_bridge_49, w_X7_bridge_50, w_X7_bridge_54, w_X7_bridge_55, w_X7_bridge_58, w_X7_bridge_61, w_X7_bridge_62, w_X7_bridge_64, w_X7_bridge_66, w_X7_bridge_69, w_X7_bridge_71, w_X7_bridge_73, w_X7_bridge_76, w_X7_bridge_78, w_X7_bridge_80, w_X7_bridge_83, w_X7_bridge_84, w_X7_bridge_86, w_X7_bridge_87, w_X7_bridge_88, w_X7_bridge_89, w_X7_bridge_90, w_X7_bridge_93, w_X7_bridge_95, w_X7_bridge_97, w_X7_bridge_98, w_X7_bridge_99, w_X7_bridge_100, w_X7_bridge_101, w_X7_bridge_104, w_X7_bridge_105, w_X7_bridge_106, w_X7_bridge_108, w_X7_bridge_111, w_X7_bridge_112, w_X7_bridge_115, w_X7_bridge_117, w_X7_bridge_118, w_X7_bridge_119, w_X7_bridge_121, w_X7_bridge_124, w_X7_bridge_125, w_X7_bridge_128, w_X7_bridge_129, w_X7_bridge_131, w_X7_bridge_133, w_X7_bridge_136, w_X7_bridge_137, w_X7_bridge_138, w_X7_bridge_140, w_X7_bridge_143, w_X7_bridge_144, w_X7_bridge_147, w_X7_bridge_149, w_X7_bridge_150, w_X7_bridge_151, w_X7_bridge_154, w_X7_bridge_156, w_X7_bridge_158, w_X7_bridge_160, w_X7_bridge_163, w_X7_bridge_165, w_X7_bridge_167, w_X7_bridge_168, w_X7_bridge_170, w_X7_bridge_171, w_X7_bridge_174, w_X7_bridge_176, w_X7_bridge_178, w_X7_bridge_181, w_X7_bridge_184, w_X7_bridge_187, w_X7_bridge_190, w_X7_bridge_192, h.1.2.1]
    rw [if_neg (fun q => by rw [kLe (by omega) (by omega)] at q; omega)]
    exact F_bridge_q h hx (show j < nN N by omega) (brP_ok h12 j (by omega)) (fun l9 l10 l11 => ih (j + 1) l9 l10 l11 (by omega)) (nN N) 0 _ _ (by omega)
theorem F_bridge (h : MF d N wt wh) (hx : HX N s dd e l) : WP mLayM 131 0 [some (.ref 0), some (.int (nI s)), some (.int (nI dd)), none, none, none, none, none, none, none, none, none] [] d Q ↔ Q (some (en (brE N s dd e (nC N l)))) d := by
  refine WP_det ?_
  simp only [w_X7_bridge_0, w_X7_bridge_1, w_X7_bridge_2, w_X7_bridge_3, w_X7_bridge_6, w_X7_bridge_7, w_X7_bridge_8, w_X7_bridge_9, w_X7_bridge_10, w_X7_bridge_13, w_X7_bridge_15, w_X7_bridge_16, w_X7_bridge_17, w_X7_bridge_18, w_X7_bridge_19, w_X7_bridge_20, w_X7_bridge_21, w_X7_bridge_22, w_X7_bridge_25, w_X7_bridge_28, w_X7_bridge_30, w_X7_bridge_31, w_X7_bridge_33, w_X7_bridge_35, w_X7_bridge_37, w_X7_bridge_38, w_X7_bridge_42, w_X7_bridge_43, w_X7_bridge_46, w_X7_bridge_49, w_X7_bridge_50, w_X7_bridge_54, w_X7_bridge_55, w_X7_bridge_58, w_X7_bridge_61, w_X7_bridge_62, w_X7_bridge_64, w_X7_bridge_66, w_X7_bridge_69, w_X7_bridge_71, w_X7_bridge_73, w_X7_bridge_76, w_X7_bridge_78, w_X7_bridge_80, w_X7_bridge_83, w_X7_bridge_84, w_X7_bridge_86, w_X7_bridge_87, w_X7_bridge_88, w_X7_bridge_89, w_X7_bridge_90, w_X7_bridge_93, w_X7_bridge_95, w_X7_bridge_97, w_X7_bridge_98, w_X7_bridge_99, w_X7_bridge_100, w_X7_bridge_101, w_X7_bridge_104, w_X7_bridge_105, w_X7_bridge_106, w_X7_bridge_108, w_X7_bridge_111, w_X7_bridge_112, w_X7_bridge_115, w_X7_bridge_117, w_X7_bridge_118, w_X7_bridge_119, w_X7_bridge_121, w_X7_bridge_124, w_X7_bridge_125, w_X7_bridge_128, w_X7_bridge_129, w_X7_bridge_131, w_X7_bridge_133, w_X7_bridge_136, w_X7_bridge_137, w_X7_bridge_138, w_X7_bridge_140, w_X7_bridge_143, w_X7_bridge_144, w_X7_bridge_147, w_X7_bridge_149, w_X7_bridge_150, w_X7_bridge_151, w_X7_bridge_154, w_X7_bridge_156, w_X7_bridge_158, w_X7_bridge_160, w_X7_bridge_163, w_X7_bridge_165, w_X7_bridge_167, w_X7_bridge_168, w_X7_bridge_170, w_X7_bridge_171, w_X7_bridge_174, w_X7_bridge_176, w_X7_bridge_178, w_X7_bridge_181, w_X7_bridge_184, w_X7_bridge_187, w_X7_bridge_190, w_X7_bridge_192, F_reach h hx, F_coming h hx, F_next h hx.1 hx.2.1, hx.2.2.2.1, en_some, F_link h hx.1 hx.2.2.1, hx.2.2.2.2.1, mKI_some]
  exact F_bridge_p h hx ⟨rfl, rfl⟩ (nN N) 0 none none none (by omega)
theorem F_repairOf (h : MF d N wt wh) (hx : HX N s dd e l) : WP mLayM 133 0 [some (.ref 0), some (.int (nI s)), some (.int (nI dd))] [] d Q ↔ Q (some (nI (rpE N s dd e (nC N l)))) d := by
  have h12 := h.1.1.2.1
  simp only [w_X7_repairOf_0, w_X7_repairOf_1, w_X7_repairOf_2, w_X7_repairOf_3, w_X7_repairOf_6, w_X7_repairOf_9, w_X7_repairOf_10, w_X7_repairOf_13, w_X7_repairOf_14, w_X7_repairOf_15, w_X7_repairOf_16, w_X7_repairOf_19, w_X7_repairOf_22, w_X7_repairOf_23, w_X7_repairOf_26, w_X7_repairOf_27, w_X7_repairOf_28, w_X7_repairOf_29, w_X7_repairOf_32, w_X7_repairOf_35, w_X7_repairOf_36, w_X7_repairOf_39, w_X7_repairOf_40, F_alt h hx.1 hx.2.1, F_meeting h hx, F_bridge h hx, mKI_some]
  unfold rpE
  cases ha : altF N s dd with
  | some a =>
    have := (bestF_some ha).1
    rw [en_some, if_neg (nI_pos (by omega))]
    exact Iff.rfl
  | none =>
    simp only [en_none, kn1, if_true, Option.isSome_none, Bool.false_eq_true, if_false]
    cases hm : meE N s dd e (nC N l) with
    | some a =>
      have := (bestF_some hm).1
      rw [en_some, if_neg (nI_pos (by omega))]
      exact Iff.rfl
    | none =>
      simp only [en_none, kn1, if_true, Option.isSome_none, Bool.false_eq_true, if_false]
      cases hb : brE N s dd e (nC N l) with
      | some a =>
        have := (brP_ok (s := s) (dd := dd) (e := e) (c := nC N l) h12 (nN N) (Nat.le_refl _)).2 a hb
        rw [en_some, if_neg (nI_pos (by omega))]
        exact Iff.rfl
      | none =>
        simp only [en_none, kn1, if_true, Option.isSome_none, Bool.false_eq_true, if_false]
        exact Iff.rfl
theorem F_lowest_loop (h : MF d N wt wh) (hx : HX N s dd e l) {x : Nat} (hx2 : x < nN N) : ∀ (j : Nat), j ≤ nN N → (WP mLayM 136 21 [some (.ref 0), some (.int (nI s)), some (.int (nI dd)), some (.int (nI x)), some (.int (nI e)), some (.int (en (fstG (nbP N s e (nC N l) x) j (nN N)))), some (.int (pm j))] [] d Q ↔ Q (some (en (fstI (nbP N s e (nC N l) x) (nN N)))) d) := by
  have hN := h.1.1
  have h12 := hN.2.1
  have h24 := hN.2.2.1
  intro j
  induction j with
  | zero =>
    intro hj
    rw [w_X7_lowestBy_21]
    simp only [w_X7_lowestBy_0, w_X7_lowestBy_1, w_X7_lowestBy_2, w_X7_lowestBy_3, w_X7_lowestBy_4, w_X7_lowestBy_5, w_X7_lowestBy_8, w_X7_lowestBy_10, w_X7_lowestBy_11, w_X7_lowestBy_13, w_X7_lowestBy_14, w_X7_lowestBy_17, w_X7_lowestBy_18, w_X7_lowestBy_19, w_X7_lowestBy_23, w_X7_lowestBy_26, w_X7_lowestBy_28, w_X7_lowestBy_30, w_X7_lowestBy_33, w_X7_lowestBy_34, w_X7_lowestBy_35, w_X7_lowestBy_37, w_X7_lowestBy_40, w_X7_lowestBy_43, w_X7_lowestBy_44, w_X7_lowestBy_45, w_X7_lowestBy_46, w_X7_lowestBy_48, w_X7_lowestBy_51, w_X7_lowestBy_52, w_X7_lowestBy_53, w_X7_lowestBy_54, w_X7_lowestBy_55, w_X7_lowestBy_56, w_X7_lowestBy_59, w_X7_lowestBy_61, w_X7_lowestBy_64, w_X7_lowestBy_66, w_X7_lowestBy_68, w_X7_lowestBy_71, w_X7_lowestBy_74, w_X7_lowestBy_76, pm, kn1, if_true]
    rw [fstG_0]
  | succ j ih =>
    intro hj
    have hj2 : j < nN N := by omega
    have ihs := ih (by omega)
    have hst := fstG_step (p := nbP N s e (nC N l) x) hj2
    rw [hst] at ihs
    have he := hx.2.2.1
    rw [w_X7_lowestBy_21]
    simp only [w_X7_lowestBy_0, w_X7_lowestBy_1, w_X7_lowestBy_2, w_X7_lowestBy_3, w_X7_lowestBy_4, w_X7_lowestBy_5, w_X7_lowestBy_8, w_X7_lowestBy_10, w_X7_lowestBy_11, w_X7_lowestBy_13, w_X7_lowestBy_14, w_X7_lowestBy_17, w_X7_lowestBy_18, w_X7_lowestBy_19, w_X7_lowestBy_23, w_X7_lowestBy_26, w_X7_lowestBy_28, w_X7_lowestBy_30, w_X7_lowestBy_33, w_X7_lowestBy_34, w_X7_lowestBy_35, w_X7_lowestBy_37, w_X7_lowestBy_40, w_X7_lowestBy_43, w_X7_lowestBy_44, w_X7_lowestBy_45, w_X7_lowestBy_46, w_X7_lowestBy_48, w_X7_lowestBy_51, w_X7_lowestBy_52, w_X7_lowestBy_53, w_X7_lowestBy_54, w_X7_lowestBy_55, w_X7_lowestBy_56, w_X7_lowestBy_59, w_X7_lowestBy_61, w_X7_lowestBy_64, w_X7_lowestBy_66, w_X7_lowestBy_68, w_X7_lowestBy_71, w_X7_lowestBy_74, w_X7_lowestBy_76, pm]
    simp (disch := omega) only [k0lt, if_false, kEq, F_link h hx.1 hj2, mKI_some, F_reachedBy h hx hj2, mk_ask (show nN N ≤ 32 by omega) hx2, bi_1, pm_dn]
    have hpj : nbP N s e (nC N l) x j = (decide (j ≠ e) && (lk N s j).isSome && rbE N s e (nC N l) j x) := rfl
    rw [hpj] at ihs
    by_cases c1 : j = e
    · rw [if_pos c1]
      rw [if_neg (by simp [c1])] at ihs
      exact ihs
    · rw [if_neg c1]
      cases hlj : lk N s j with
      | none =>
        simp only [en_none, kn1, if_true]
        rw [if_neg (by simp [hlj])] at ihs
        exact ihs
      | some q =>
        have := (lk_some hlj).1
        rw [en_some, if_neg (nI_pos (by omega))]
        cases c2 : rbE N s e (nC N l) j x with
        | false =>
          rw [if_pos (by decide)]
          rw [if_neg (by simp [c2])] at ihs
          exact ihs
        | true =>
          rw [if_neg (by decide)]
          rw [if_pos (by simp [c1, c2, hlj])] at ihs
          exact ihs
theorem F_lowest (h : MF d N wt wh) (hx : HX N s dd e l) {x : Nat} (hx2 : x < nN N) : WP mLayM 136 0 [some (.ref 0), some (.int (nI s)), some (.int (nI dd)), some (.int (nI x)), none, none, none] [] d Q ↔ Q (some (en (fstI (nbP N s e (nC N l) x) (nN N)))) d := by
  have h2 := h.1.1.1
  simp only [w_X7_lowestBy_0, w_X7_lowestBy_1, w_X7_lowestBy_2, w_X7_lowestBy_3, w_X7_lowestBy_4, w_X7_lowestBy_5, w_X7_lowestBy_8, w_X7_lowestBy_10, w_X7_lowestBy_11, w_X7_lowestBy_13, w_X7_lowestBy_14, w_X7_lowestBy_17, w_X7_lowestBy_18, w_X7_lowestBy_19, w_X7_lowestBy_23, w_X7_lowestBy_26, w_X7_lowestBy_28, w_X7_lowestBy_30, w_X7_lowestBy_33, w_X7_lowestBy_34, w_X7_lowestBy_35, w_X7_lowestBy_37, w_X7_lowestBy_40, w_X7_lowestBy_43, w_X7_lowestBy_44, w_X7_lowestBy_45, w_X7_lowestBy_46, w_X7_lowestBy_48, w_X7_lowestBy_51, w_X7_lowestBy_52, w_X7_lowestBy_53, w_X7_lowestBy_54, w_X7_lowestBy_55, w_X7_lowestBy_56, w_X7_lowestBy_59, w_X7_lowestBy_61, w_X7_lowestBy_64, w_X7_lowestBy_66, w_X7_lowestBy_68, w_X7_lowestBy_71, w_X7_lowestBy_74, w_X7_lowestBy_76, F_next h hx.1 hx.2.1, mKI_some, hx.2.2.2.1, en_some, h.1.2.1]
  have e1 : nI (nN N) - 1 = pm (nN N) := by
    cases h : nN N with
    | zero => omega
    | succ k => exact nI_pred k
  rw [e1]
  have h3 := F_lowest_loop (Q := Q) h hx hx2 (nN N) (Nat.le_refl _)
  rw [fstG_n] at h3
  exact h3
end MO7
