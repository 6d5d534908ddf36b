/-! the class: the plan of a NODE -/
def scr (c c' : mS) : Prop := ∀ k, ¬ (3 ≤ k ∧ k ≤ 4) → ¬ (14 ≤ k ∧ k ≤ 19) → c' k = c k
theorem scr_rf {c : mS} : scr c c := fun _ _ _ => rfl
theorem scr_tr {a b c : mS} (h : scr a b) (h2 : scr b c) : scr a c := fun k h3 h4 => by rw [h2 k h3 h4, h k h3 h4]
theorem scr_but {p : Nat} {c c' : mS} (h : but1 p c c') (hp : (3 ≤ p ∧ p ≤ 4) ∨ (14 ≤ p ∧ p ≤ 19)) : scr c c' := fun k h1 h2 => h k (by omega)
theorem mUp_id {c : mS} {k j : Nat} : mUp c k j (c k j) = c := by
  funext a i
  by_cases e : a = k
  · subst e
    by_cases e2 : i = j
    · subst e2; exact mUp_s
    · exact mUp_j e2
  · exact mUp_k e
theorem smn_eq {a b : Nat} (h : a + b < INF) : smn a b = a + b := if_pos h
section PL1
variable {c : mS} {N : Nt} {wt wh : Nat} {Q : Option Int32 → mS → Prop} {s dd e l : Nat}
theorem CS_scr {c' : mS} (h : CS c N wt wh) (hs : scr c c') : CS c' N wt wh := by
  obtain ⟨⟨g1, g2, g3, g4, g5, g6, g7⟩, h2, h3⟩ := h
  refine ⟨⟨g1, ?_, ?_, ?_, fun x y hx hy => ?_, ?_, ?_⟩, ?_, fun x y hx hy => ?_⟩
  · rw [hs 1 (by omega) (by omega)]; exact g2
  · rw [hs 1 (by omega) (by omega)]; exact g3
  · rw [hs 7 (by omega) (by omega), hs 8 (by omega) (by omega), hs 9 (by omega) (by omega), hs 10 (by omega) (by omega)]; exact g4
  · rw [hs (44 + x) (by omega) (by omega)]; exact g5 x y hx hy
  · rw [hs 2 (by omega) (by omega)]; exact g6
  · rw [hs 2 (by omega) (by omega)]; exact g7
  · rw [hs 1 (by omega) (by omega)]; exact h2
  · rw [hs (20 + x) (by omega) (by omega), hs (32 + x) (by omega) (by omega)]; exact h3 x y hx hy
/-- whose plan it is -/
def JI (c : mS) (s dd e l k : Nat) : Prop := c 3 0 = nI s ∧ c 3 1 = nI dd ∧ c 3 2 = nI e ∧ c 3 3 = nI l ∧ c 3 4 = nI k
theorem JI_up {k j : Nat} {v : Int32} (h : JI c s dd e l k) (hj : 5 ≤ j) : JI (mUp c 3 j v) s dd e l k := by
  unfold JI
  rw [mUp_j (by omega), mUp_j (by omega), mUp_j (by omega), mUp_j (by omega), mUp_j (by omega)]
  exact h
def oneN (b : Bool) (n : Nat) : Int32 := if b then 1 <<< (nI n &&& 31) else 0
theorem mkS_o {p : Nat → Bool} {n : Nat} : mkS p (n + 1) = mkS p n ||| oneN (p n) n := rfl
theorem oneN_f {n : Nat} (x : Int32) : x ||| oneN false n = x := or0 x
/-- what a judged NODE adds to a set of the plan -/
def jU (c : mS) (j : Nat) (b : Bool) (n : Nat) : mS := mUp c 3 j (c 3 j ||| oneN b n)
theorem jU_f {j n : Nat} : jU c j false n = c := by unfold jU; rw [oneN_f, mUp_id]
theorem jU_s {j n : Nat} {b : Bool} : jU c j b n 3 j = c 3 j ||| oneN b n := mUp_s
theorem jU_j {j n i : Nat} {b : Bool} (h : i ≠ j) : jU c j b n 3 i = c 3 i := mUp_j h
theorem jU_b {j n : Nat} {b : Bool} : but1 3 c (jU c j b n) := but1_up
theorem jU_J {j n k : Nat} {b : Bool} (h : JI c s dd e l k) (hj : 5 ≤ j) : JI (jU c j b n) s dd e l k := JI_up h hj
theorem jU_S {j n : Nat} {b : Bool} (h : CS c N wt wh) : CS (jU c j b n) N wt wh := CS_scr h (scr_but jU_b (by omega))
theorem fr_lk (hN : Nok N) {x y l : Nat} (h : lk N x y = some l) : fr N x y ≤ nC N l ∧ fr N y x ≤ nC N l := by
  obtain ⟨hl, hj⟩ := lk_some h
  obtain ⟨hx, hy, -⟩ := jn_lt hN hl hj
  have h1 : fr N x y ≤ nC N l := by
    have := gd_cl (but := none) hN hy hl (fun q => by cases q) hj
    rw [gd_0 hN hy] at this
    unfold fr; omega
  exact ⟨h1, by rw [fr_comm hN hy hx]; exact h1⟩
theorem fr_tri (hN : Nok N) {x y z : Nat} (hx : x < nN N) (hy : y < nN N) (hz : z < nN N) : fr N x z ≤ fr N x y + fr N y z := gd_tri (but := none) hN hy hz _ x hx rfl
theorem fr_sm (hN : Nok N) {x y : Nat} (hx : x < nN N) (hy : y < nN N) (h : fr N x y < INF) : fr N x y ≤ 1089 := gd_small hN hy hx h
theorem fr_0 (hN : Nok N) {x : Nat} (hx : x < nN N) : fr N x x = 0 := gd_0 hN hx
theorem HX_far (hN : Nok N) (hx : HX N s dd e l) : nC N l + fr N e dd = fr N s dd ∧ fr N s dd ≤ 1089 ∧ nC N l ≤ 99 ∧ 1 ≤ nC N l ∧ fr N s e ≤ 99 ∧ fr N e s ≤ 99 := by
  obtain ⟨hs, hd, he, hnx, hlk, hl⟩ := hx
  obtain ⟨-, l2, h2, -, -, h4, h5⟩ := nx_some hnx
  rw [hlk] at h2; cases h2
  have h6 := fr_lk hN hlk
  have h7 := hN.2.2.2.1 l hl
  exact ⟨h5, fr_sm hN hs hd h4, h7.2.2.2.2.1, h7.2.2.2.1, by omega, by omega⟩
theorem judge4 {n l2 : Nat} {g4 g5 : Nat} {one : Int32} (h : CS c N wt wh) (hJ : JI c s dd e l (nC N l)) (hx : HX N s dd e l) (hl2 : lk N s n = some l2) (ho : one = 1 <<< (nI n &&& 31)) : WP mLayH 47 146 [some (.ref 3), some (.ref 1), some (.int (nI n)), some (.int (nI l2)), some (.ref (20 + g4)), some (.ref (20 + g5)), some (.int one)] [] c Q ↔ Q none (jU c 10 (soP N s dd e n 3) n) := by
  have hN := h.1.1
  have h24 := hN.2.2.1
  have hl := hx.2.2.2.2.2
  have hlm := (lk_some hl2).1
  simp only [w_X5_judge_0, w_X5_judge_1, w_X5_judge_4, w_X5_judge_5, w_X5_judge_8, w_X5_judge_9, w_X5_judge_11, w_X5_judge_12, w_X5_judge_15, w_X5_judge_16, w_X5_judge_17, w_X5_judge_19, w_X5_judge_20, w_X5_judge_21, w_X5_judge_22, w_X5_judge_24, w_X5_judge_25, w_X5_judge_26, w_X5_judge_29, w_X5_judge_31, w_X5_judge_32, w_X5_judge_35, w_X5_judge_37, w_X5_judge_38, w_X5_judge_41, w_X5_judge_42, w_X5_judge_44, w_X5_judge_45, w_X5_judge_48, w_X5_judge_49, w_X5_judge_51, w_X5_judge_52, w_X5_judge_55, w_X5_judge_56, w_X5_judge_57, w_X5_judge_60, w_X5_judge_61, w_X5_judge_62, w_X5_judge_65, w_X5_judge_67, w_X5_judge_68, w_X5_judge_71, w_X5_judge_73, w_X5_judge_74, w_X5_judge_77, w_X5_judge_78, w_X5_judge_80, w_X5_judge_81, w_X5_judge_84, w_X5_judge_85, w_X5_judge_88, w_X5_judge_89, w_X5_judge_90, w_X5_judge_93, w_X5_judge_95, w_X5_judge_96, w_X5_judge_99, w_X5_judge_100, w_X5_judge_103, w_X5_judge_104, w_X5_judge_107, w_X5_judge_110, w_X5_judge_112, w_X5_judge_113, w_X5_judge_116, w_X5_judge_117, w_X5_judge_119, w_X5_judge_120, w_X5_judge_123, w_X5_judge_124, w_X5_judge_126, w_X5_judge_127, w_X5_judge_130, w_X5_judge_131, w_X5_judge_132, w_X5_judge_135, w_X5_judge_136, w_X5_judge_137, w_X5_judge_140, w_X5_judge_142, w_X5_judge_143, w_X5_judge_146, w_X5_judge_147, w_X5_judge_150, w_X5_judge_151, w_X5_judge_152, w_X5_judge_153, w_X5_judge_156, w_X5_judge_157, w_X5_judge_160, w_X5_judge_161, w_X5_judge_162, w_X5_judge_165, w_X5_judge_166, w_X5_judge_167, w_X5_judge_170, w_X5_judge_172, w_X5_judge_173, w_X5_judge_176, hJ.2.2.2.1]
  simp (disch := omega) only [kIn, kCl, (h.1.2.2.2.1 l hl).2.2.2, (h.1.2.2.2.1 l2 hlm).2.2.2, show l < 24 by omega, show l2 < 24 by omega, true_and]
  have e : soP N s dd e n 3 = decide (nI (nG N l2) &&& nI (nG N l) = 0) := by
    unfold soP rsf
    rw [if_neg (by decide), if_neg (by decide), if_neg (by decide), hl2, hx.2.2.2.2.1]
  rw [e]
  by_cases q : nI (nG N l2) &&& nI (nG N l) = 0
  · rw [if_neg (fun z => z q), decide_eq_true q, ho]; exact Iff.rfl
  · rw [if_pos q, decide_eq_false q, jU_f]
theorem judge3 {n l2 : Nat} {one : Int32} (h : CS c N wt wh) (hJ : JI c s dd e l (nC N l)) (hx : HX N s dd e l) (hl2 : lk N s n = some l2) (hn : n < nN N) (ho : one = 1 <<< (nI n &&& 31)) : WP mLayH 47 99 [some (.ref 3), some (.ref 1), some (.int (nI n)), some (.int (nI l2)), some (.ref (20 + dd)), some (.ref (20 + n)), some (.int one)] [] c Q ↔ Q none (jU (jU c 9 (soP N s dd e n 2) n) 10 (soP N s dd e n 3) n) := by
  have hN := h.1.1
  have h12 := hN.2.1
  have hi : INF = 1000000 := rfl
  obtain ⟨hs, hd, he, hnx, hlk, hl⟩ := hx
  have hx : HX N s dd e l := ⟨hs, hd, he, hnx, hlk, hl⟩
  obtain ⟨f1, f2, f3, f4, f5, f6⟩ := HX_far hN hx
  have f7 := fr_lk hN hl2
  have f8 := (hN.2.2.2.1 l2 (lk_some hl2).1).2.2.2.2.1
  have f9 := fr_tri hN hn hs he
  have f10 := fr_inf hN hn hd
  simp only [w_X5_judge_99, w_X5_judge_100, w_X5_judge_103, w_X5_judge_104, w_X5_judge_107, w_X5_judge_110, w_X5_judge_112, w_X5_judge_113, w_X5_judge_116, w_X5_judge_117, w_X5_judge_119, w_X5_judge_120, w_X5_judge_123, w_X5_judge_124, w_X5_judge_126, w_X5_judge_127, w_X5_judge_130, w_X5_judge_131, w_X5_judge_132, w_X5_judge_135, w_X5_judge_136, w_X5_judge_137, w_X5_judge_140, w_X5_judge_142, w_X5_judge_143, hJ.2.2.1, hJ.2.1]
  simp (disch := omega) only [kIn, kCl, kEq, CS_far h hn hd, CS_far h hn he, CS_far h hd he, fr_comm hN hd he, nI_add, kLe, show dd < 12 by omega, show e < 12 by omega, show dd < 36 by omega, show n < 36 by omega, true_and]
  have es : soP N s dd e n 2 = decide (e ≠ dd ∧ fr N n dd < fr N n e + fr N e dd) := by
    unfold soP
    rw [if_neg (by decide), if_neg (by decide), if_pos rfl, smn_eq (by omega)]
  have go : ∀ b : Bool, (WP mLayH 47 146 [some (.ref 3), some (.ref 1), some (.int (nI n)), some (.int (nI l2)), some (.ref (20 + dd)), some (.ref (20 + n)), some (.int one)] [] (jU c 9 b n) Q ↔ Q none (jU (jU c 9 b n) 10 (soP N s dd e n 3) n)) := fun b => judge4 (jU_S h) (jU_J hJ (by decide)) hx hl2 ho
  have g0 := go false
  rw [jU_f] at g0
  have g1 := go true
  rw [es]
  by_cases q : e = dd
  · rw [if_pos q, g0, decide_eq_false (fun z => z.1 q), jU_f]
  · rw [if_neg q]
    by_cases q2 : fr N n e + fr N e dd ≤ fr N n dd
    · rw [if_pos q2, g0, decide_eq_false (fun z => by omega), jU_f]
    · rw [if_neg q2, decide_eq_true ⟨q, by omega⟩, ← g1, ho]; exact Iff.rfl
theorem judge2 {n l2 : Nat} {one : Int32} (h : CS c N wt wh) (hJ : JI c s dd e l (nC N l)) (hx : HX N s dd e l) (hl2 : lk N s n = some l2) (hn : n < nN N) (ho : one = 1 <<< (nI n &&& 31)) : WP mLayH 47 71 [some (.ref 3), some (.ref 1), some (.int (nI n)), some (.int (nI l2)), some (.ref (20 + dd)), some (.ref (20 + n)), some (.int one)] [] c Q ↔ Q none (jU (jU (jU c 8 (soP N s dd e n 1) n) 9 (soP N s dd e n 2) n) 10 (soP N s dd e n 3) n) := by
  have hN := h.1.1
  have h12 := hN.2.1
  have hi : INF = 1000000 := rfl
  obtain ⟨hs, hd, he, hnx, hlk, hl⟩ := hx
  have hx : HX N s dd e l := ⟨hs, hd, he, hnx, hlk, hl⟩
  have f10 := fr_inf hN hn hd
  have f11 := fr_inf hN hs hd
  simp only [w_X5_judge_71, w_X5_judge_73, w_X5_judge_74, w_X5_judge_77, w_X5_judge_78, w_X5_judge_80, w_X5_judge_81, w_X5_judge_84, w_X5_judge_85, w_X5_judge_88, w_X5_judge_89, w_X5_judge_90, w_X5_judge_93, w_X5_judge_95, w_X5_judge_96, hJ.1, hJ.2.1]
  simp (disch := omega) only [kIn, kCl, CS_far h hn hd, CS_far h hd hs, fr_comm hN hd hs, kLe, show dd < 12 by omega, show s < 12 by omega, show dd < 36 by omega, show n < 36 by omega, true_and]
  have es : soP N s dd e n 1 = decide (fr N n dd < fr N s dd) := by
    unfold soP
    rw [if_neg (by decide), if_pos rfl]
  have go : ∀ b : Bool, (WP mLayH 47 99 [some (.ref 3), some (.ref 1), some (.int (nI n)), some (.int (nI l2)), some (.ref (20 + dd)), some (.ref (20 + n)), some (.int one)] [] (jU c 8 b n) Q ↔ Q none (jU (jU (jU c 8 b n) 9 (soP N s dd e n 2) n) 10 (soP N s dd e n 3) n)) := fun b => judge3 (jU_S h) (jU_J hJ (by decide)) hx hl2 hn ho
  have g0 := go false
  rw [jU_f] at g0
  have g1 := go true
  rw [es]
  by_cases q2 : fr N s dd ≤ fr N n dd
  · rw [if_pos q2, g0, decide_eq_false (by omega), jU_f]
  · rw [if_neg q2, decide_eq_true (by omega), ← g1, ho]; exact Iff.rfl
theorem judge1 {n l2 : Nat} {one : Int32} (h : CS c N wt wh) (hJ : JI c s dd e l (nC N l)) (hx : HX N s dd e l) (hl2 : lk N s n = some l2) (hn : n < nN N) (ho : one = 1 <<< (nI n &&& 31)) : WP mLayH 47 35 [some (.ref 3), some (.ref 1), some (.int (nI n)), some (.int (nI l2)), some (.ref (20 + dd)), some (.ref (20 + n)), some (.int one)] [] c Q ↔ Q none (jU (jU (jU (jU c 7 (soP N s dd e n 0) n) 8 (soP N s dd e n 1) n) 9 (soP N s dd e n 2) n) 10 (soP N s dd e n 3) n) := by
  have hN := h.1.1
  have h12 := hN.2.1
  have hi : INF = 1000000 := rfl
  obtain ⟨hs, hd, he, hnx, hlk, hl⟩ := hx
  have hx : HX N s dd e l := ⟨hs, hd, he, hnx, hlk, hl⟩
  obtain ⟨f1, f2, f3, f4, f5, f6⟩ := HX_far hN hx
  have f7 := fr_lk hN hl2
  have f8 := (hN.2.2.2.1 l2 (lk_some hl2).1).2.2.2.2.1
  have f10 := fr_inf hN hn hd
  simp only [w_X5_judge_35, w_X5_judge_37, w_X5_judge_38, w_X5_judge_41, w_X5_judge_42, w_X5_judge_44, w_X5_judge_45, w_X5_judge_48, w_X5_judge_49, w_X5_judge_51, w_X5_judge_52, w_X5_judge_55, w_X5_judge_56, w_X5_judge_57, w_X5_judge_60, w_X5_judge_61, w_X5_judge_62, w_X5_judge_65, w_X5_judge_67, w_X5_judge_68, hJ.1, hJ.2.1]
  simp (disch := omega) only [kIn, kCl, CS_far h hn hd, CS_far h hn hs, CS_far h hd hs, fr_comm hN hd hs, nI_add, kLe, show dd < 12 by omega, show s < 12 by omega, show dd < 36 by omega, show n < 36 by omega, true_and]
  have es : soP N s dd e n 0 = decide (fr N n dd < fr N n s + fr N s dd) := by
    unfold soP
    rw [if_pos rfl, smn_eq (by omega)]
  have go : ∀ b : Bool, (WP mLayH 47 71 [some (.ref 3), some (.ref 1), some (.int (nI n)), some (.int (nI l2)), some (.ref (20 + dd)), some (.ref (20 + n)), some (.int one)] [] (jU c 7 b n) Q ↔ Q none (jU (jU (jU (jU c 7 b n) 8 (soP N s dd e n 1) n) 9 (soP N s dd e n 2) n) 10 (soP N s dd e n 3) n)) := fun b => judge2 (jU_S h) (jU_J hJ (by decide)) hx hl2 hn ho
  have g0 := go false
  rw [jU_f] at g0
  have g1 := go true
  rw [es]
  by_cases q2 : fr N n s + fr N s dd ≤ fr N n dd
  · rw [if_pos q2, g0, decide_eq_false (by omega), jU_f]
  · rw [if_neg q2, decide_eq_true (by omega), ← g1, ho]; exact Iff.rfl
theorem C_judge {n l2 : Nat} (h : CS c N wt wh) (hJ : JI c s dd e l (nC N l)) (hx : HX N s dd e l) (hl2 : lk N s n = some l2) (hn : n < nN N) : WP mLayH 47 0 [some (.ref 3), some (.ref 1), some (.int (nI n)), some (.int (nI l2)), none, none, none] [] c Q ↔ Q none (jU (jU (jU (jU (jU c 6 true n) 7 (soP N s dd e n 0) n) 8 (soP N s dd e n 1) n) 9 (soP N s dd e n 2) n) 10 (soP N s dd e n 3) n) := by
  have h12 := h.1.1.2.1
  have hd := hx.2.1
  simp only [w_X5_judge_0, w_X5_judge_1, w_X5_judge_4, w_X5_judge_5, w_X5_judge_8, w_X5_judge_9, w_X5_judge_11, w_X5_judge_12, w_X5_judge_15, w_X5_judge_16, w_X5_judge_17, w_X5_judge_19, w_X5_judge_20, w_X5_judge_21, w_X5_judge_22, w_X5_judge_24, w_X5_judge_25, w_X5_judge_26, w_X5_judge_29, w_X5_judge_31, w_X5_judge_32, hJ.2.1]
  simp (disch := omega) only [kIn, kCl, show dd < 12 by omega, show n < 12 by omega, true_and]
  exact judge1 (c := jU c 6 true n) (jU_S h) (jU_J hJ (by decide)) hx hl2 hn rfl
end PL1
