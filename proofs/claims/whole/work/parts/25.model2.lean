/-! the reference: NEXT, ways, what is down -/
def pm (j : Nat) : Int32 := match j with
  | 0 => -1
  | j + 1 => nI j
theorem pm_dn (j : Nat) : nI j + (-1) = pm j := by
  cases j with
  | zero => decide
  | succ j => exact pk_m1 j
theorem k10 : ((1 : Int32) = 0) ↔ False := by decide
theorem k01 : ((0 : Int32) = 1) ↔ False := by decide
theorem en_lt {o : Option Nat} (h : ∀ q, o = some q → q < 2 ^ 31) : (en o < 0) ↔ o = none := by
  cases o with
  | none => simp [en, kn1]
  | some q => rw [en_some, k0lt (h q rfl)]; simp
theorem en_ge {o : Option Nat} (h : ∀ q, o = some q → q < 2 ^ 31) : (0 ≤ en o) ↔ ¬ o = none := by
  cases o with
  | none => simp [en, kn2]
  | some q => rw [en_some, k0le (h q rfl)]; simp
theorem en_eq {o p : Option Nat} (h : ∀ q, o = some q → q < 2 ^ 31) (h2 : ∀ q, p = some q → q < 2 ^ 31) : (en o = en p) ↔ o = p := by
  cases o with
  | none =>
    cases p with
    | none => simp
    | some q => rw [en_some, en_none, kNe' (h2 q rfl)]; simp
  | some q =>
    cases p with
    | none => rw [en_some, en_none, kNe (h q rfl)]; simp
    | some r => rw [en_some, en_some, kEq (h q rfl) (h2 r rfl)]; simp
section MO3
variable {d : mS} {N : Nt} {wt wh : Nat} {Q : Option Int32 → mS → Prop}
theorem M_nextOf_loop {b x e : Nat} {but : Option Nat} (hb : b ≤ 144) (hbl : ∀ q, but = some q → q < 24) (hx : x < nN N) (he : e < nN N) (hM : MI d N wt wh) (hF : FarR d b N (gd N but)) : ∀ (j : Nat) (l7 l8 : Option Value), j ≤ nN N → (WP mLayM 109 11 [some (.ref 0), some (.int (nI b)), some (.int (nI x)), some (.int (nI e)), some (.int (en but)), some (.int (en (fstG (nxc N but e x) j (nN N)))), some (.int (pm j)), l7, l8] [] d Q ↔ Q (some (en (nx N but e x))) d) := by
  have hN := hM.1
  have h12 := hN.2.1
  have h24 := hN.2.2.1
  intro j
  induction j with
  | zero =>
    intro l7 l8 hj
    rw [w_X7_nextOf_11]
    simp only [w_X7_nextOf_0, w_X7_nextOf_1, w_X7_nextOf_3, w_X7_nextOf_4, w_X7_nextOf_7, w_X7_nextOf_8, w_X7_nextOf_9, w_X7_nextOf_13, w_X7_nextOf_16, w_X7_nextOf_17, w_X7_nextOf_18, w_X7_nextOf_20, w_X7_nextOf_23, w_X7_nextOf_25, w_X7_nextOf_27, w_X7_nextOf_30, w_X7_nextOf_32, w_X7_nextOf_34, w_X7_nextOf_37, w_X7_nextOf_38, w_X7_nextOf_39, w_X7_nextOf_42, w_X7_nextOf_43, w_X7_nextOf_46, w_X7_nextOf_47, w_X7_nextOf_48, w_X7_nextOf_49, w_X7_nextOf_52, w_X7_nextOf_53, w_X7_nextOf_55, w_X7_nextOf_58, w_X7_nextOf_59, w_X7_nextOf_62, w_X7_nextOf_64, w_X7_nextOf_65, w_X7_nextOf_66, w_X7_nextOf_69, w_X7_nextOf_70, w_X7_nextOf_72, w_X7_nextOf_73, w_X7_nextOf_76, w_X7_nextOf_77, w_X7_nextOf_78, w_X7_nextOf_79, w_X7_nextOf_82, w_X7_nextOf_83, w_X7_nextOf_84, w_X7_nextOf_85, w_X7_nextOf_88, w_X7_nextOf_89, w_X7_nextOf_92, w_X7_nextOf_93, w_X7_nextOf_96, w_X7_nextOf_97, w_X7_nextOf_99, w_X7_nextOf_101, w_X7_nextOf_104, w_X7_nextOf_106, w_X7_nextOf_109, w_X7_nextOf_111, w_X7_nextOf_113, w_X7_nextOf_116, w_X7_nextOf_119, w_X7_nextOf_121, pm, kn1, if_true]
    rw [fstG_0]
    exact Iff.rfl
  | succ j ih =>
    intro l7 l8 hj
    have ihs := fun l7 l8 => ih l7 l8 (by omega)
    rw [w_X7_nextOf_11]
    simp only [w_X7_nextOf_0, w_X7_nextOf_1, w_X7_nextOf_3, w_X7_nextOf_4, w_X7_nextOf_7, w_X7_nextOf_8, w_X7_nextOf_9, w_X7_nextOf_13, w_X7_nextOf_16, w_X7_nextOf_17, w_X7_nextOf_18, w_X7_nextOf_20, w_X7_nextOf_23, w_X7_nextOf_25, w_X7_nextOf_27, w_X7_nextOf_30, w_X7_nextOf_32, w_X7_nextOf_34, w_X7_nextOf_37, w_X7_nextOf_38, w_X7_nextOf_39, w_X7_nextOf_42, w_X7_nextOf_43, w_X7_nextOf_46, w_X7_nextOf_47, w_X7_nextOf_48, w_X7_nextOf_49, w_X7_nextOf_52, w_X7_nextOf_53, w_X7_nextOf_55, w_X7_nextOf_58, w_X7_nextOf_59, w_X7_nextOf_62, w_X7_nextOf_64, w_X7_nextOf_65, w_X7_nextOf_66, w_X7_nextOf_69, w_X7_nextOf_70, w_X7_nextOf_72, w_X7_nextOf_73, w_X7_nextOf_76, w_X7_nextOf_77, w_X7_nextOf_78, w_X7_nextOf_79, w_X7_nextOf_82, w_X7_nextOf_83, w_X7_nextOf_84, w_X7_nextOf_85, w_X7_nextOf_88, w_X7_nextOf_89, w_X7_nextOf_92, w_X7_nextOf_93, w_X7_nextOf_96, w_X7_nextOf_97, w_X7_nextOf_99, w_X7_nextOf_101, w_X7_nextOf_104, w_X7_nextOf_106, w_X7_nextOf_109, w_X7_nextOf_111, w_X7_nextOf_113, w_X7_nextOf_116, w_X7_nextOf_119, w_X7_nextOf_121, pm]
    simp (disch := omega) only [k0lt, if_false, if_true, k10, M_linkOf (show x < 2 ^ 31 by omega) (show j < 2 ^ 31 by omega) hM, mKI_some, M_at, pm_dn]
    have hst := fstG_step (p := nxc N but e x) (show j < nN N by omega)
    rw [hst] at ihs
    have hpj : nxc N but e x j = (match lk N x j with
      | none => false
      | some l => decide (some l ≠ but ∧ x ≠ e ∧ gd N but e x < INF ∧ nC N l + gd N but e j = gd N but e x)) := rfl
    cases hlk : lk N x j with
    | none =>
      rw [hlk] at hpj
      rw [hpj] at ihs
      simp only [en_none, kn1, if_true]
      exact ihs _ _
    | some l =>
      rw [hlk] at hpj
      dsimp only at hpj
      obtain ⟨hl, hj2⟩ := lk_some hlk
      obtain ⟨e1, e2, e3, e4⟩ := hM.2.2.2.1 l hl
      obtain ⟨g1, g2, g3, g4, g5, g6⟩ := hN.2.2.2.1 l hl
      have f1 := hF x e hx he
      have f2 := hF j e (by omega) he
      have i1 := gd_inf (but := but) hN he hx
      have i2 := gd_inf (but := but) hN he (show j < nN N by omega)
      have hinf : INF = 1000000 := rfl
      rw [en_some]
      have hbe : (nI l = en but) ↔ some l = but := en_eq (o := some l) (fun q h => by cases h; omega) (fun q h => by have := hbl q h; omega)
      have b1 : b + 12 * x + e < 288 := by omega
      have b2 : b + 12 * j + e < 288 := by omega
      simp (disch := omega) only [hbe, kEq, k0lt, if_false, kIn, kCl, f1, f2, e3, kinf, kLe, nI_add]
      simp only [b1, b2, show l < 24 by omega, true_and]
      by_cases c1 : some l = but
      · rw [if_pos c1]
        rw [hpj, if_neg (by simp [c1])] at ihs
        exact ihs _ _
      rw [if_neg c1]
      by_cases c2 : x = e
      · rw [if_pos c2]
        rw [hpj, if_neg (by simp [c2])] at ihs
        exact ihs _ _
      rw [if_neg c2]
      by_cases c3 : INF ≤ gd N but e x
      · rw [if_pos c3]
        rw [hpj, if_neg (by simp; intros; omega)] at ihs
        exact ihs _ _
      rw [if_neg c3]
      by_cases c4 : nC N l + gd N but e j = gd N but e x
      · rw [if_neg (fun q => q c4)]
        rw [hpj, if_pos (by simp only [decide_eq_true_eq]; exact ⟨c1, c2, by omega, c4⟩)] at ihs
        exact ihs _ _
      · rw [if_pos c4]
        rw [hpj, if_neg (by simp only [decide_eq_true_eq]; exact fun q => c4 q.2.2.2)] at ihs
        exact ihs _ _
theorem M_nextOf {b x e : Nat} {but : Option Nat} (hb : b ≤ 144) (hbl : ∀ q, but = some q → q < 24) (hx : x < nN N) (he : e < nN N) (hM : MI d N wt wh) (hF : FarR d b N (gd N but)) : WP mLayM 109 0 [some (.ref 0), some (.int (nI b)), some (.int (nI x)), some (.int (nI e)), some (.int (en but)), none, none, none, none] [] d Q ↔ Q (some (en (nx N but e x))) d := by
  have h2 := hM.1.1
  simp only [w_X7_nextOf_0, w_X7_nextOf_1, w_X7_nextOf_3, w_X7_nextOf_4, w_X7_nextOf_7, w_X7_nextOf_8, w_X7_nextOf_9, w_X7_nextOf_13, w_X7_nextOf_16, w_X7_nextOf_17, w_X7_nextOf_18, w_X7_nextOf_20, w_X7_nextOf_23, w_X7_nextOf_25, w_X7_nextOf_27, w_X7_nextOf_30, w_X7_nextOf_32, w_X7_nextOf_34, w_X7_nextOf_37, w_X7_nextOf_38, w_X7_nextOf_39, w_X7_nextOf_42, w_X7_nextOf_43, w_X7_nextOf_46, w_X7_nextOf_47, w_X7_nextOf_48, w_X7_nextOf_49, w_X7_nextOf_52, w_X7_nextOf_53, w_X7_nextOf_55, w_X7_nextOf_58, w_X7_nextOf_59, w_X7_nextOf_62, w_X7_nextOf_64, w_X7_nextOf_65, w_X7_nextOf_66, w_X7_nextOf_69, w_X7_nextOf_70, w_X7_nextOf_72, w_X7_nextOf_73, w_X7_nextOf_76, w_X7_nextOf_77, w_X7_nextOf_78, w_X7_nextOf_79, w_X7_nextOf_82, w_X7_nextOf_83, w_X7_nextOf_84, w_X7_nextOf_85, w_X7_nextOf_88, w_X7_nextOf_89, w_X7_nextOf_92, w_X7_nextOf_93, w_X7_nextOf_96, w_X7_nextOf_97, w_X7_nextOf_99, w_X7_nextOf_101, w_X7_nextOf_104, w_X7_nextOf_106, w_X7_nextOf_109, w_X7_nextOf_111, w_X7_nextOf_113, w_X7_nextOf_116, w_X7_nextOf_119, w_X7_nextOf_121, hM.2.1]
  have e1 : nI (nN N) - 1 = pm (nN N) := by
    cases h : nN N with
    | zero => omega
    | succ k => exact nI_pred k
  rw [e1]
  have h := M_nextOf_loop (Q := Q) hb hbl hx he hM hF (nN N) none none (Nat.le_refl _)
  rw [fstG_n] at h
  exact h
theorem M_next0 {x e : Nat} (hx : x < nN N) (he : e < nN N) (hM : MI d N wt wh) (hF : FarR d 0 N (gd N none)) : WP mLayM 109 0 [some (.ref 0), some (.int 0), some (.int (nI x)), some (.int (nI e)), some (.int (-1)), none, none, none, none] [] d Q ↔ Q (some (en (nx N none e x))) d := M_nextOf (b := 0) (but := none) (by omega) (fun q h => by cases h) hx he hM hF
theorem M_farOf {x e : Nat} {F : Nat → Nat → Nat} (hx : x < nN N) (he : e < nN N) (hM : MI d N wt wh) (hF : FarR d 0 N F) : WP mLayM 106 0 [some (.ref 0), some (.int (nI x)), some (.int (nI e))] [] d Q ↔ Q (some (nI (F e x))) d := by
  have h12 := hM.1.2.1
  have f1 := hF x e hx he
  simp only [w_X7_farOf_0, w_X7_farOf_1, w_X7_farOf_4, w_X7_farOf_5, w_X7_farOf_6, w_X7_farOf_7, w_X7_farOf_10, w_X7_farOf_11, k0, M_at, mKI_some]
  simp (disch := omega) only [kIn, kCl, f1]
  simp only [show 0 + 12 * x + e < 288 by omega, true_and]
def Sdn (N : Nt) (wt wh l : Nat) : Bool := if wt = 1 then decide (l = wh) else if wt = 2 then decide (nA N l = wh ∨ nB N l = wh) else if wt = 3 then (nG N l).testBit wh else false
end MO3
