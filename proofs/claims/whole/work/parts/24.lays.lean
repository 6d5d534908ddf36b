/-! the reference lays its distances -/
theorem mUp_s {σ : mS} {k j : Nat} {v : Int32} : mUp σ k j v k j = v := if_pos ⟨rfl, rfl⟩
theorem mUp_j {σ : mS} {k j i : Nat} {v : Int32} (h : i ≠ j) : mUp σ k j v k i = σ k i := if_neg (fun q => h q.2)
theorem mUp_k {σ : mS} {k j i a : Nat} {v : Int32} (h : a ≠ k) : mUp σ k j v a i = σ a i := if_neg (fun q => h q.1)
theorem mUp_kf {σ : mS} {k j a : Nat} {v : Int32} (h : a ≠ k) : mUp σ k j v a = σ a := funext (fun _ => mUp_k h)
theorem k12 : (12 : Int32) = nI 12 := rfl
theorem kinf : (1000000 : Int32) = nI INF := rfl
theorem k0 : (0 : Int32) = nI 0 := rfl
theorem k1 : (1 : Int32) = nI 1 := rfl
theorem M_at {lay : mLay} {b x y : Nat} {σ : mS} {Q : Option Int32 → mS → Prop} : WP lay 105 0 [some (.int (nI b)), some (.int (nI x)), some (.int (nI y))] [] σ Q ↔ Q (some (nI (b + 12 * x + y))) σ := by
  simp only [w_X7_at_0, w_X7_at_1, w_X7_at_3, w_X7_at_4, w_X7_at_5, w_X7_at_6, w_X7_at_7, w_X7_at_8, k12, pk_mul, nI_add]
def sameF (b : Nat) (d d' : mS) : Prop := (∀ k, k ≠ 5 → d' k = d k) ∧ ∀ j, (j < b ∨ b + 144 ≤ j) → d' 5 j = d 5 j
theorem sameF_rf {b : Nat} {d : mS} : sameF b d d := ⟨fun _ _ => rfl, fun _ _ => rfl⟩
theorem sameF_tr {b : Nat} {d e f : mS} (h1 : sameF b d e) (h2 : sameF b e f) : sameF b d f := ⟨fun k hk => by rw [h2.1 k hk, h1.1 k hk], fun j hj => by rw [h2.2 j hj, h1.2 j hj]⟩
theorem sameF_up {b i : Nat} {d : mS} {v : Int32} (h : b ≤ i) (h2 : i < b + 144) : sameF b d (mUp d 5 i v) := ⟨fun k hk => mUp_kf hk, fun j hj => mUp_j (by omega)⟩
theorem MI_same {d d' : mS} {N : Nt} {wt wh : Nat} (hM : MI d N wt wh) (h : ∀ k, k ≠ 5 → d' k = d k) : MI d' N wt wh := by
  unfold MI at hM ⊢
  rw [h 0 (by decide), h 1 (by decide), h 2 (by decide), h 3 (by decide), h 4 (by decide)]
  exact hM
def FarR (d : mS) (b : Nat) (N : Nt) (F : Nat → Nat → Nat) : Prop := ∀ x y, x < nN N → y < nN N → d 5 (b + 12 * x + y) = nI (F y x)
def Fup (F : Nat → Nat → Nat) (y x v : Nat) : Nat → Nat → Nat := fun a => if a = y then fup (F y) x v else F a
theorem FarR_up {d : mS} {b : Nat} {N : Nt} {F : Nat → Nat → Nat} {x y v : Nat} (hN : Nok N) (hx : x < nN N) (hy : y < nN N) (h : FarR d b N F) : FarR (mUp d 5 (b + 12 * x + y) (nI v)) b N (Fup F y x v) := by
  intro x' y' hx' hy'
  have h12 := hN.2.1
  by_cases e : x' = x ∧ y' = y
  · obtain ⟨rfl, rfl⟩ := e
    rw [mUp_s]; simp [Fup, fup]
  · rw [mUp_j (by omega), h x' y' hx' hy']
    unfold Fup fup
    by_cases e1 : y' = y
    · subst e1
      rw [if_pos rfl, if_neg (fun q => e ⟨q, rfl⟩)]
    · rw [if_neg e1]
def SF (N : Nt) (F : Nat → Nat → Nat) : Nat := sumN (fun y => sumN (F y) (nN N)) (nN N)
theorem SF_up {N : Nt} {F : Nat → Nat → Nat} {x y v : Nat} (hx : x < nN N) (hy : y < nN N) (hv : v < F y x) : SF N (Fup F y x v) < SF N F := by
  unfold SF
  have h : ∀ n, sumN (fun a => sumN (Fup F y x v a) (nN N)) n = sumN (fup (fun a => sumN (F a) (nN N)) y (sumN (fup (F y) x v) (nN N))) n := by
    intro n
    refine sumN_congr (fun a _ => ?_)
    unfold Fup
    by_cases e : a = y
    · subst e; rw [if_pos rfl, fup_s]
    · rw [if_neg e, fup_n e]
  rw [h]
  exact sumN_fup (f := fun a => sumN (F a) (nN N)) (sumN_fup hv hx) hy
def FInv (N : Nt) (but : Option Nat) (F : Nat → Nat → Nat) : Prop := ∀ y, y < nN N → dInv N but y (F y)
theorem FInv_up {N : Nt} {but : Option Nat} {F : Nat → Nat → Nat} {l v u y : Nat} (hN : Nok N) (hF : FInv N but F) (hy : y < nN N) (hl : l < nM N) (hb : some l ≠ but) (hj : jn N l v u = true) (hlt : F y u + nC N l < F y v) : FInv N but (Fup F y v (F y u + nC N l)) := by
  intro a ha
  unfold Fup
  by_cases e : a = y
  · subst e; rw [if_pos rfl]; exact d_relax hN ha (hF a ha) hl hb hj hlt
  · rw [if_neg e]; exact hF a ha
section MO2
variable {N : Nt} {wt wh b : Nat} {bt : Int32} {Q : Option Int32 → mS → Prop}
def FI0 (d : mS) (b : Nat) (N : Nt) (x y : Nat) : Prop := ∀ x' y', x' < nN N → y' < nN N → (x' < x ∨ (x' = x ∧ y' < y)) → d 5 (b + 12 * x' + y') = nI (if x' = y' then 0 else INF)
theorem lays_iy (hb : b ≤ 144) : ∀ (k y x : Nat) (d : mS), MI d N wt wh → x < nN N → y + k = nN N → FI0 d b N x y →
    (∀ (d' : mS) (l4 : Option Value), MI d' N wt wh → sameF b d d' → FI0 d' b N (x + 1) 0 → WP mLayM 107 2 [some (.ref 0), some (.int (nI b)), some (.int bt), some (.int (nI (x + 1))), l4, none, none, none] [] d' Q) →
    WP mLayM 107 13 [some (.ref 0), some (.int (nI b)), some (.int bt), some (.int (nI x)), some (.int (nI y)), none, none, none] [] d Q := by
  intro k
  induction k with
  | zero =>
    intro y x d hM hx hy hF kk
    have hN := hM.1
    have h12 := hN.2.1
    rw [w_X7_laysFar_13]
    simp only [w_X7_laysFar_0, w_X7_laysFar_1, w_X7_laysFar_3, w_X7_laysFar_4, w_X7_laysFar_7, w_X7_laysFar_10, w_X7_laysFar_11, w_X7_laysFar_15, w_X7_laysFar_16, w_X7_laysFar_19, w_X7_laysFar_22, w_X7_laysFar_23, w_X7_laysFar_26, w_X7_laysFar_27, w_X7_laysFar_28, w_X7_laysFar_30, w_X7_laysFar_33, w_X7_laysFar_34, w_X7_laysFar_36, w_X7_laysFar_39, w_X7_laysFar_40, w_X7_laysFar_43, w_X7_laysFar_45, w_X7_laysFar_46, w_X7_laysFar_49, w_X7_laysFar_52, w_X7_laysFar_55, w_X7_laysFar_58, w_X7_laysFar_59, w_X7_laysFar_61, w_X7_laysFar_64, w_X7_laysFar_65, w_X7_laysFar_66, w_X7_laysFar_67, w_X7_laysFar_71, w_X7_laysFar_72, w_X7_laysFar_75, w_X7_laysFar_78, w_X7_laysFar_79, w_X7_laysFar_83, w_X7_laysFar_84, w_X7_laysFar_87, w_X7_laysFar_90, w_X7_laysFar_92, w_X7_laysFar_93, w_X7_laysFar_96, w_X7_laysFar_97, w_X7_laysFar_98, w_X7_laysFar_101, w_X7_laysFar_103, w_X7_laysFar_104, w_X7_laysFar_106, w_X7_laysFar_109, w_X7_laysFar_111, w_X7_laysFar_112, w_X7_laysFar_113, w_X7_laysFar_116, w_X7_laysFar_118, w_X7_laysFar_119, w_X7_laysFar_121, w_X7_laysFar_124, w_X7_laysFar_126, w_X7_laysFar_127, w_X7_laysFar_130, w_X7_laysFar_132, w_X7_laysFar_133, w_X7_laysFar_134, w_X7_laysFar_137, w_X7_laysFar_139, w_X7_laysFar_140, w_X7_laysFar_141, w_X7_laysFar_142, w_X7_laysFar_145, w_X7_laysFar_147, w_X7_laysFar_148, w_X7_laysFar_151, w_X7_laysFar_152, w_X7_laysFar_155, w_X7_laysFar_157, w_X7_laysFar_158, w_X7_laysFar_161, w_X7_laysFar_163, w_X7_laysFar_164, w_X7_laysFar_165, w_X7_laysFar_168, w_X7_laysFar_170, w_X7_laysFar_171, w_X7_laysFar_172, w_X7_laysFar_173, w_X7_laysFar_174, w_X7_laysFar_175, w_X7_laysFar_176, w_X7_laysFar_179, w_X7_laysFar_181, w_X7_laysFar_182, w_X7_laysFar_183, w_X7_laysFar_186, w_X7_laysFar_188, w_X7_laysFar_189, w_X7_laysFar_190, w_X7_laysFar_191, w_X7_laysFar_194, w_X7_laysFar_196, w_X7_laysFar_197, w_X7_laysFar_200, w_X7_laysFar_201, w_X7_laysFar_204, w_X7_laysFar_206, w_X7_laysFar_207, w_X7_laysFar_210, w_X7_laysFar_212, w_X7_laysFar_213, w_X7_laysFar_214, w_X7_laysFar_217, w_X7_laysFar_219, w_X7_laysFar_220, w_X7_laysFar_221, w_X7_laysFar_222, w_X7_laysFar_223, w_X7_laysFar_224, w_X7_laysFar_227, w_X7_laysFar_230, w_X7_laysFar_233, w_X7_laysFar_236, w_X7_laysFar_239, hM.2.1]
    rw [if_pos ((kLe (by omega) (by omega)).mpr (by omega)), nI_1]
    exact kk d _ hM sameF_rf (fun x' y' h1 h2 h3 => hF x' y' h1 h2 (by omega))
  | succ k ih =>
    intro y x d hM hx hy hF kk
    have hN := hM.1
    have h12 := hN.2.1
    rw [w_X7_laysFar_13]
    simp only [w_X7_laysFar_0, w_X7_laysFar_1, w_X7_laysFar_3, w_X7_laysFar_4, w_X7_laysFar_7, w_X7_laysFar_10, w_X7_laysFar_11, w_X7_laysFar_15, w_X7_laysFar_16, w_X7_laysFar_19, w_X7_laysFar_22, w_X7_laysFar_23, w_X7_laysFar_26, w_X7_laysFar_27, w_X7_laysFar_28, w_X7_laysFar_30, w_X7_laysFar_33, w_X7_laysFar_34, w_X7_laysFar_36, w_X7_laysFar_39, w_X7_laysFar_40, w_X7_laysFar_43, w_X7_laysFar_45, w_X7_laysFar_46, w_X7_laysFar_49, w_X7_laysFar_52, w_X7_laysFar_55, w_X7_laysFar_58, w_X7_laysFar_59, w_X7_laysFar_61, w_X7_laysFar_64, w_X7_laysFar_65, w_X7_laysFar_66, w_X7_laysFar_67, w_X7_laysFar_71, w_X7_laysFar_72, w_X7_laysFar_75, w_X7_laysFar_78, w_X7_laysFar_79, w_X7_laysFar_83, w_X7_laysFar_84, w_X7_laysFar_87, w_X7_laysFar_90, w_X7_laysFar_92, w_X7_laysFar_93, w_X7_laysFar_96, w_X7_laysFar_97, w_X7_laysFar_98, w_X7_laysFar_101, w_X7_laysFar_103, w_X7_laysFar_104, w_X7_laysFar_106, w_X7_laysFar_109, w_X7_laysFar_111, w_X7_laysFar_112, w_X7_laysFar_113, w_X7_laysFar_116, w_X7_laysFar_118, w_X7_laysFar_119, w_X7_laysFar_121, w_X7_laysFar_124, w_X7_laysFar_126, w_X7_laysFar_127, w_X7_laysFar_130, w_X7_laysFar_132, w_X7_laysFar_133, w_X7_laysFar_134, w_X7_laysFar_137, w_X7_laysFar_139, w_X7_laysFar_140, w_X7_laysFar_141, w_X7_laysFar_142, w_X7_laysFar_145, w_X7_laysFar_147, w_X7_laysFar_148, w_X7_laysFar_151, w_X7_laysFar_152, w_X7_laysFar_155, w_X7_laysFar_157, w_X7_laysFar_158, w_X7_laysFar_161, w_X7_laysFar_163, w_X7_laysFar_164, w_X7_laysFar_165, w_X7_laysFar_168, w_X7_laysFar_170, w_X7_laysFar_171, w_X7_laysFar_172, w_X7_laysFar_173, w_X7_laysFar_174, w_X7_laysFar_175, w_X7_laysFar_176, w_X7_laysFar_179, w_X7_laysFar_181, w_X7_laysFar_182, w_X7_laysFar_183, w_X7_laysFar_186, w_X7_laysFar_188, w_X7_laysFar_189, w_X7_laysFar_190, w_X7_laysFar_191, w_X7_laysFar_194, w_X7_laysFar_196, w_X7_laysFar_197, w_X7_laysFar_200, w_X7_laysFar_201, w_X7_laysFar_204, w_X7_laysFar_206, w_X7_laysFar_207, w_X7_laysFar_210, w_X7_laysFar_212, w_X7_laysFar_213, w_X7_laysFar_214, w_X7_laysFar_217, w_X7_laysFar_219, w_X7_laysFar_220, w_X7_laysFar_221, w_X7_laysFar_222, w_X7_laysFar_223, w_X7_laysFar_224, w_X7_laysFar_227, w_X7_laysFar_230, w_X7_laysFar_233, w_X7_laysFar_236, w_X7_laysFar_239, hM.2.1]
    rw [if_neg (fun q => by rw [kLe (by omega) (by omega)] at q; omega)]
    simp only [M_at, mKI_some]
    simp (disch := omega) only [kEq, kIn, kCl, nI_1, kinf, k0]
    have key : ∀ v, v = (if x = y then 0 else INF) → WP mLayM 107 13 [some (.ref 0), some (.int (nI b)), some (.int bt), some (.int (nI x)), some (.int (nI (y + 1))), none, none, none] [] (mUp d 5 (b + 12 * x + y) (nI v)) Q := by
      intro v hv
      have hs : sameF b d (mUp d 5 (b + 12 * x + y) (nI v)) := sameF_up (by omega) (by omega)
      refine ih (y + 1) x _ (MI_same hM hs.1) hx (by omega) (fun x' y' h1 h2 h3 => ?_) (fun d' l4 h1 h2 h3 => kk d' l4 h1 (sameF_tr hs h2) h3)
      by_cases e : x' = x ∧ y' = y
      · obtain ⟨rfl, rfl⟩ := e
        rw [mUp_s, hv]
      · rw [mUp_j (by omega)]
        exact hF x' y' h1 h2 (by omega)
    split
    · rename_i hxy
      exact ⟨by omega, key INF (by rw [if_neg hxy])⟩
    · rename_i hxy
      exact ⟨by omega, key 0 (by rw [if_pos (by omega)])⟩
theorem lays_ix (hb : b ≤ 144) : ∀ (k x : Nat) (d : mS) (l4 : Option Value), MI d N wt wh → x + k = nN N → FI0 d b N x 0 →
    (∀ (d' : mS) (l4 : Option Value), MI d' N wt wh → sameF b d d' → FarR d' b N (fun y x => if x = y then 0 else INF) → WP mLayM 107 60 [some (.ref 0), some (.int (nI b)), some (.int bt), some (.int 1), l4, none, none, none] [] d' Q) →
    WP mLayM 107 2 [some (.ref 0), some (.int (nI b)), some (.int bt), some (.int (nI x)), l4, none, none, none] [] d Q := by
  intro k
  induction k with
  | zero =>
    intro x d l4 hM hx hF kk
    have h12 := hM.1.2.1
    rw [w_X7_laysFar_2]
    simp only [w_X7_laysFar_0, w_X7_laysFar_1, w_X7_laysFar_3, w_X7_laysFar_4, w_X7_laysFar_7, w_X7_laysFar_10, w_X7_laysFar_11, w_X7_laysFar_15, w_X7_laysFar_16, w_X7_laysFar_19, w_X7_laysFar_22, w_X7_laysFar_23, w_X7_laysFar_26, w_X7_laysFar_27, w_X7_laysFar_28, w_X7_laysFar_30, w_X7_laysFar_33, w_X7_laysFar_34, w_X7_laysFar_36, w_X7_laysFar_39, w_X7_laysFar_40, w_X7_laysFar_43, w_X7_laysFar_45, w_X7_laysFar_46, w_X7_laysFar_49, w_X7_laysFar_52, w_X7_laysFar_55, w_X7_laysFar_58, w_X7_laysFar_59, w_X7_laysFar_61, w_X7_laysFar_64, w_X7_laysFar_65, w_X7_laysFar_66, w_X7_laysFar_67, w_X7_laysFar_71, w_X7_laysFar_72, w_X7_laysFar_75, w_X7_laysFar_78, w_X7_laysFar_79, w_X7_laysFar_83, w_X7_laysFar_84, w_X7_laysFar_87, w_X7_laysFar_90, w_X7_laysFar_92, w_X7_laysFar_93, w_X7_laysFar_96, w_X7_laysFar_97, w_X7_laysFar_98, w_X7_laysFar_101, w_X7_laysFar_103, w_X7_laysFar_104, w_X7_laysFar_106, w_X7_laysFar_109, w_X7_laysFar_111, w_X7_laysFar_112, w_X7_laysFar_113, w_X7_laysFar_116, w_X7_laysFar_118, w_X7_laysFar_119, w_X7_laysFar_121, w_X7_laysFar_124, w_X7_laysFar_126, w_X7_laysFar_127, w_X7_laysFar_130, w_X7_laysFar_132, w_X7_laysFar_133, w_X7_laysFar_134, w_X7_laysFar_137, w_X7_laysFar_139, w_X7_laysFar_140, w_X7_laysFar_141, w_X7_laysFar_142, w_X7_laysFar_145, w_X7_laysFar_147, w_X7_laysFar_148, w_X7_laysFar_151, w_X7_laysFar_152, w_X7_laysFar_155, w_X7_laysFar_157, w_X7_laysFar_158, w_X7_laysFar_161, w_X7_laysFar_163, w_X7_laysFar_164, w_X7_laysFar_165, w_X7_laysFar_168, w_X7_laysFar_170, w_X7_laysFar_171, w_X7_laysFar_172, w_X7_laysFar_173, w_X7_laysFar_174, w_X7_laysFar_175, w_X7_laysFar_176, w_X7_laysFar_179, w_X7_laysFar_181, w_X7_laysFar_182, w_X7_laysFar_183, w_X7_laysFar_186, w_X7_laysFar_188, w_X7_laysFar_189, w_X7_laysFar_190, w_X7_laysFar_191, w_X7_laysFar_194, w_X7_laysFar_196, w_X7_laysFar_197, w_X7_laysFar_200, w_X7_laysFar_201, w_X7_laysFar_204, w_X7_laysFar_206, w_X7_laysFar_207, w_X7_laysFar_210, w_X7_laysFar_212, w_X7_laysFar_213, w_X7_laysFar_214, w_X7_laysFar_217, w_X7_laysFar_219, w_X7_laysFar_220, w_X7_laysFar_221, w_X7_laysFar_222, w_X7_laysFar_223, w_X7_laysFar_224, w_X7_laysFar_227, w_X7_laysFar_230, w_X7_laysFar_233, w_X7_laysFar_236, w_X7_laysFar_239, hM.2.1]
    rw [if_pos ((kLe (by omega) (by omega)).mpr (by omega))]
    exact kk d _ hM sameF_rf (fun x' y' h1 h2 => hF x' y' h1 h2 (by omega))
  | succ k ih =>
    intro x d l4 hM hx hF kk
    have h12 := hM.1.2.1
    rw [w_X7_laysFar_2]
    simp only [w_X7_laysFar_0, w_X7_laysFar_1, w_X7_laysFar_3, w_X7_laysFar_4, w_X7_laysFar_7, w_X7_laysFar_10, w_X7_laysFar_11, w_X7_laysFar_15, w_X7_laysFar_16, w_X7_laysFar_19, w_X7_laysFar_22, w_X7_laysFar_23, w_X7_laysFar_26, w_X7_laysFar_27, w_X7_laysFar_28, w_X7_laysFar_30, w_X7_laysFar_33, w_X7_laysFar_34, w_X7_laysFar_36, w_X7_laysFar_39, w_X7_laysFar_40, w_X7_laysFar_43, w_X7_laysFar_45, w_X7_laysFar_46, w_X7_laysFar_49, w_X7_laysFar_52, w_X7_laysFar_55, w_X7_laysFar_58, w_X7_laysFar_59, w_X7_laysFar_61, w_X7_laysFar_64, w_X7_laysFar_65, w_X7_laysFar_66, w_X7_laysFar_67, w_X7_laysFar_71, w_X7_laysFar_72, w_X7_laysFar_75, w_X7_laysFar_78, w_X7_laysFar_79, w_X7_laysFar_83, w_X7_laysFar_84, w_X7_laysFar_87, w_X7_laysFar_90, w_X7_laysFar_92, w_X7_laysFar_93, w_X7_laysFar_96, w_X7_laysFar_97, w_X7_laysFar_98, w_X7_laysFar_101, w_X7_laysFar_103, w_X7_laysFar_104, w_X7_laysFar_106, w_X7_laysFar_109, w_X7_laysFar_111, w_X7_laysFar_112, w_X7_laysFar_113, w_X7_laysFar_116, w_X7_laysFar_118, w_X7_laysFar_119, w_X7_laysFar_121, w_X7_laysFar_124, w_X7_laysFar_126, w_X7_laysFar_127, w_X7_laysFar_130, w_X7_laysFar_132, w_X7_laysFar_133, w_X7_laysFar_134, w_X7_laysFar_137, w_X7_laysFar_139, w_X7_laysFar_140, w_X7_laysFar_141, w_X7_laysFar_142, w_X7_laysFar_145, w_X7_laysFar_147, w_X7_laysFar_148, w_X7_laysFar_151, w_X7_laysFar_152, w_X7_laysFar_155, w_X7_laysFar_157, w_X7_laysFar_158, w_X7_laysFar_161, w_X7_laysFar_163, w_X7_laysFar_164, w_X7_laysFar_165, w_X7_laysFar_168, w_X7_laysFar_170, w_X7_laysFar_171, w_X7_laysFar_172, w_X7_laysFar_173, w_X7_laysFar_174, w_X7_laysFar_175, w_X7_laysFar_176, w_X7_laysFar_179, w_X7_laysFar_181, w_X7_laysFar_182, w_X7_laysFar_183, w_X7_laysFar_186, w_X7_laysFar_188, w_X7_laysFar_189, w_X7_laysFar_190, w_X7_laysFar_191, w_X7_laysFar_194, w_X7_laysFar_196, w_X7_laysFar_197, w_X7_laysFar_200, w_X7_laysFar_201, w_X7_laysFar_204, w_X7_laysFar_206, w_X7_laysFar_207, w_X7_laysFar_210, w_X7_laysFar_212, w_X7_laysFar_213, w_X7_laysFar_214, w_X7_laysFar_217, w_X7_laysFar_219, w_X7_laysFar_220, w_X7_laysFar_221, w_X7_laysFar_222, w_X7_laysFar_223, w_X7_laysFar_224, w_X7_laysFar_227, w_X7_laysFar_230, w_X7_laysFar_233, w_X7_laysFar_236, w_X7_laysFar_239, hM.2.1]
    rw [if_neg (fun q => by rw [kLe (by omega) (by omega)] at q; omega)]
    refine lays_iy hb (nN N) 0 x d hM (by omega) (by omega) hF (fun d' l4 h1 h2 h3 => ?_)
    exact ih (x + 1) d' l4 h1 (by omega) h3 (fun d2 l5 g1 g2 g3 => kk d2 l5 g1 (sameF_tr h2 g2) g3)
/-- in a pass: nothing was less, and all that was looked at is closed; or something was -/
def FJ (N : Nt) (but : Option Nat) (F0 F : Nat → Nat → Nat) (l z : Nat) (less : Int32) : Prop :=
  (less = 0 ∧ F = F0 ∧ ∀ l' y, l' < nM N → some l' ≠ but → y < nN N → (l' < l ∨ (l' = l ∧ y < z)) → F y (nA N l') ≤ F y (nB N l') + nC N l' ∧ F y (nB N l') ≤ F y (nA N l') + nC N l') ∨ (less = 1 ∧ SF N F < SF N F0)
set_option maxHeartbeats 2000000 in
theorem lays_z {but : Option Nat} (hb : b ≤ 144) (hbt : bt = en but) (hbl : ∀ q, but = some q → q < 24) {l : Nat} {F0 : Nat → Nat → Nat} (hl : l < nM N) : ∀ (k z : Nat) (d : mS) (less : Int32) (F : Nat → Nat → Nat) (l6 l7 : Option Value), MI d N wt wh → z + k = nN N → FarR d b N F → FInv N but F → FJ N but F0 F l z less →
    (∀ (d' : mS) (less : Int32) (F : Nat → Nat → Nat) (l5 l6 l7 : Option Value), MI d' N wt wh → sameF b d d' → FarR d' b N F → FInv N but F → FJ N but F0 F (l + 1) 0 less → WP mLayM 107 69 [some (.ref 0), some (.int (nI b)), some (.int bt), some (.int less), some (.int (nI (l + 1))), l5, l6, l7] [] d' Q) →
    WP mLayM 107 81 [some (.ref 0), some (.int (nI b)), some (.int bt), some (.int less), some (.int (nI l)), some (.int (nI z)), l6, l7] [] d Q := by
  intro k
  induction k with
  | zero =>
    intro z d less F l6 l7 hM hz hR hI hJ kk
    have h12 := hM.1.2.1
    rw [w_X7_laysFar_81]
    simp only [w_X7_laysFar_0, w_X7_laysFar_1, w_X7_laysFar_3, w_X7_laysFar_4, w_X7_laysFar_7, w_X7_laysFar_10, w_X7_laysFar_11, w_X7_laysFar_15, w_X7_laysFar_16, w_X7_laysFar_19, w_X7_laysFar_22, w_X7_laysFar_23, w_X7_laysFar_26, w_X7_laysFar_27, w_X7_laysFar_28, w_X7_laysFar_30, w_X7_laysFar_33, w_X7_laysFar_34, w_X7_laysFar_36, w_X7_laysFar_39, w_X7_laysFar_40, w_X7_laysFar_43, w_X7_laysFar_45, w_X7_laysFar_46, w_X7_laysFar_49, w_X7_laysFar_52, w_X7_laysFar_55, w_X7_laysFar_58, w_X7_laysFar_59, w_X7_laysFar_61, w_X7_laysFar_64, w_X7_laysFar_65, w_X7_laysFar_66, w_X7_laysFar_67, w_X7_laysFar_71, w_X7_laysFar_72, w_X7_laysFar_75, w_X7_laysFar_78, w_X7_laysFar_79, w_X7_laysFar_83, w_X7_laysFar_84, w_X7_laysFar_87, w_X7_laysFar_90, w_X7_laysFar_92, w_X7_laysFar_93, w_X7_laysFar_96, w_X7_laysFar_97, w_X7_laysFar_98, w_X7_laysFar_101, w_X7_laysFar_103, w_X7_laysFar_104, w_X7_laysFar_106, w_X7_laysFar_109, w_X7_laysFar_111, w_X7_laysFar_112, w_X7_laysFar_113, w_X7_laysFar_116, w_X7_laysFar_118, w_X7_laysFar_119, w_X7_laysFar_121, w_X7_laysFar_124, w_X7_laysFar_126, w_X7_laysFar_127, w_X7_laysFar_130, w_X7_laysFar_132, w_X7_laysFar_133, w_X7_laysFar_134, w_X7_laysFar_137, w_X7_laysFar_139, w_X7_laysFar_140, w_X7_laysFar_141, w_X7_laysFar_142, w_X7_laysFar_145, w_X7_laysFar_147, w_X7_laysFar_148, w_X7_laysFar_151, w_X7_laysFar_152, w_X7_laysFar_155, w_X7_laysFar_157, w_X7_laysFar_158, w_X7_laysFar_161, w_X7_laysFar_163, w_X7_laysFar_164, w_X7_laysFar_165, w_X7_laysFar_168, w_X7_laysFar_170, w_X7_laysFar_171, w_X7_laysFar_172, w_X7_laysFar_173, w_X7_laysFar_174, w_X7_laysFar_175, w_X7_laysFar_176, w_X7_laysFar_179, w_X7_laysFar_181, w_X7_laysFar_182, w_X7_laysFar_183, w_X7_laysFar_186, w_X7_laysFar_188, w_X7_laysFar_189, w_X7_laysFar_190, w_X7_laysFar_191, w_X7_laysFar_194, w_X7_laysFar_196, w_X7_laysFar_197, w_X7_laysFar_200, w_X7_laysFar_201, w_X7_laysFar_204, w_X7_laysFar_206, w_X7_laysFar_207, w_X7_laysFar_210, w_X7_laysFar_212, w_X7_laysFar_213, w_X7_laysFar_214, w_X7_laysFar_217, w_X7_laysFar_219, w_X7_laysFar_220, w_X7_laysFar_221, w_X7_laysFar_222, w_X7_laysFar_223, w_X7_laysFar_224, w_X7_laysFar_227, w_X7_laysFar_230, w_X7_laysFar_233, w_X7_laysFar_236, w_X7_laysFar_239, hM.2.1]
    rw [if_pos ((kLe (by omega) (by omega)).mpr (by omega)), nI_1]
    refine kk d less F _ _ _ hM sameF_rf hR hI ?_
    rcases hJ with ⟨h1, h2, h3⟩ | h
    · exact Or.inl ⟨h1, h2, fun l' y g1 g2 g3 g4 => h3 l' y g1 g2 g3 (by omega)⟩
    · exact Or.inr h
  | succ k ih =>
    intro z d less F l6 l7 hM hz hR hI hJ kk
    have hN := hM.1
    have h12 := hN.2.1
    have h24 := hN.2.2.1
    rw [w_X7_laysFar_81]
    simp only [w_X7_laysFar_0, w_X7_laysFar_1, w_X7_laysFar_3, w_X7_laysFar_4, w_X7_laysFar_7, w_X7_laysFar_10, w_X7_laysFar_11, w_X7_laysFar_15, w_X7_laysFar_16, w_X7_laysFar_19, w_X7_laysFar_22, w_X7_laysFar_23, w_X7_laysFar_26, w_X7_laysFar_27, w_X7_laysFar_28, w_X7_laysFar_30, w_X7_laysFar_33, w_X7_laysFar_34, w_X7_laysFar_36, w_X7_laysFar_39, w_X7_laysFar_40, w_X7_laysFar_43, w_X7_laysFar_45, w_X7_laysFar_46, w_X7_laysFar_49, w_X7_laysFar_52, w_X7_laysFar_55, w_X7_laysFar_58, w_X7_laysFar_59, w_X7_laysFar_61, w_X7_laysFar_64, w_X7_laysFar_65, w_X7_laysFar_66, w_X7_laysFar_67, w_X7_laysFar_71, w_X7_laysFar_72, w_X7_laysFar_75, w_X7_laysFar_78, w_X7_laysFar_79, w_X7_laysFar_83, w_X7_laysFar_84, w_X7_laysFar_87, w_X7_laysFar_90, w_X7_laysFar_92, w_X7_laysFar_93, w_X7_laysFar_96, w_X7_laysFar_97, w_X7_laysFar_98, w_X7_laysFar_101, w_X7_laysFar_103, w_X7_laysFar_104, w_X7_laysFar_106, w_X7_laysFar_109, w_X7_laysFar_111, w_X7_laysFar_112, w_X7_laysFar_113, w_X7_laysFar_116, w_X7_laysFar_118, w_X7_laysFar_119, w_X7_laysFar_121, w_X7_laysFar_124, w_X7_laysFar_126, w_X7_laysFar_127, w_X7_laysFar_130, w_X7_laysFar_132, w_X7_laysFar_133, w_X7_laysFar_134, w_X7_laysFar_137, w_X7_laysFar_139, w_X7_laysFar_140, w_X7_laysFar_141, w_X7_laysFar_142, w_X7_laysFar_145, w_X7_laysFar_147, w_X7_laysFar_148, w_X7_laysFar_151, w_X7_laysFar_152, w_X7_laysFar_155, w_X7_laysFar_157, w_X7_laysFar_158, w_X7_laysFar_161, w_X7_laysFar_163, w_X7_laysFar_164, w_X7_laysFar_165, w_X7_laysFar_168, w_X7_laysFar_170, w_X7_laysFar_171, w_X7_laysFar_172, w_X7_laysFar_173, w_X7_laysFar_174, w_X7_laysFar_175, w_X7_laysFar_176, w_X7_laysFar_179, w_X7_laysFar_181, w_X7_laysFar_182, w_X7_laysFar_183, w_X7_laysFar_186, w_X7_laysFar_188, w_X7_laysFar_189, w_X7_laysFar_190, w_X7_laysFar_191, w_X7_laysFar_194, w_X7_laysFar_196, w_X7_laysFar_197, w_X7_laysFar_200, w_X7_laysFar_201, w_X7_laysFar_204, w_X7_laysFar_206, w_X7_laysFar_207, w_X7_laysFar_210, w_X7_laysFar_212, w_X7_laysFar_213, w_X7_laysFar_214, w_X7_laysFar_217, w_X7_laysFar_219, w_X7_laysFar_220, w_X7_laysFar_221, w_X7_laysFar_222, w_X7_laysFar_223, w_X7_laysFar_224, w_X7_laysFar_227, w_X7_laysFar_230, w_X7_laysFar_233, w_X7_laysFar_236, w_X7_laysFar_239, hM.2.1]
    rw [if_neg (fun q => by rw [kLe (by omega) (by omega)] at q; omega)]
    have hbe : (nI l = bt) ↔ some l = but := by
      rw [hbt]
      cases hbb : but with
      | none => simp [en, kNe (show l < 2 ^ 31 by omega)]
      | some q =>
        have := hbl q hbb
        rw [en_some, kEq (by omega) (by omega)]; simp
    by_cases hbut : some l = but
    · rw [if_pos (hbe.mpr hbut), nI_1]
      refine kk d less F _ _ _ hM sameF_rf hR hI ?_
      rcases hJ with ⟨h1, h2, h3⟩ | h
      · exact Or.inl ⟨h1, h2, fun l' y g1 g2 g3 g4 => h3 l' y g1 g2 g3 (by
          rcases Nat.lt_or_ge l' l with q | q
          · exact Or.inl q
          · exact absurd hbut (by rw [show l = l' by omega]; exact g2))⟩
      · exact Or.inr h
    · rw [if_neg (fun q => hbut (hbe.mp q))]
      obtain ⟨e1, e2, e3, e4⟩ := hM.2.2.2.1 l hl
      obtain ⟨g1, g2, g3, g4, g5, g6⟩ := hN.2.2.2.1 l hl
      have eA := hR (nA N l) z g1 (by omega)
      have eB := hR (nB N l) z g2 (by omega)
      have fA := (hI z (by omega)).2.1 _ g1
      have fB := (hI z (by omega)).2.1 _ g2
      have hinf : INF = 1000000 := rfl
      have hne : b + 12 * nA N l + z ≠ b + 12 * nB N l + z := by omega
      have jA : jn N l (nA N l) (nB N l) = true := jn_iff.mpr (Or.inl ⟨rfl, rfl⟩)
      have jB : jn N l (nB N l) (nA N l) = true := jn_iff.mpr (Or.inr ⟨rfl, rfl⟩)
      simp (disch := omega) only [kIn, kCl, e1, e2, M_at, mKI_some]
      have hz5 : (3 : Nat) ≠ 5 := by decide
      simp (disch := omega) only [mUp_s, mUp_j, mUp_k, e3, eA, eB, kCl, kIn, nI_add, kLe, nI_1]
      have b1 : b + 12 * nA N l + z < 288 := by omega
      have b2 : b + 12 * nB N l + z < 288 := by omega
      have b3 : l < 24 := by omega
      simp only [b1, b2, b3, true_and]
      have step : ∀ (d1 : mS) (less1 : Int32) (F1 : Nat → Nat → Nat), sameF b d d1 → FarR d1 b N F1 → FInv N but F1 → FJ N but F0 F1 l (z + 1) less1 → WP mLayM 107 81 [some (.ref 0), some (.int (nI b)), some (.int bt), some (.int less1), some (.int (nI l)), some (.int (nI (z + 1))), some (.int (nI (b + 12 * nA N l + z))), some (.int (nI (b + 12 * nB N l + z)))] [] d1 Q :=
        fun d1 less1 F1 a1 a2 a3 a4 => ih (z + 1) d1 less1 F1 _ _ (MI_same hM a1.1) (by omega) a2 a3 a4 (fun d2 l2 F2 l5 l6 l7 c1 c2 c3 c4 c5 => kk d2 l2 F2 l5 l6 l7 c1 (sameF_tr a1 c2) c3 c4 c5)
      have less_of : ∀ F1, SF N F1 < SF N F → FJ N but F0 F1 l (z + 1) 1 := fun F1 h => Or.inr ⟨rfl, by
        rcases hJ with ⟨-, q, -⟩ | ⟨-, q⟩
        · rw [← q]; exact h
        · omega⟩
      split
      · rename_i c1
        split
        · rename_i c2
          refine step d less F sameF_rf hR hI ?_
          rcases hJ with ⟨q1, q2, q3⟩ | q
          · refine Or.inl ⟨q1, q2, fun l' y k1 k2 k3 k4 => ?_⟩
            by_cases e : l' = l ∧ y = z
            · obtain ⟨rfl, rfl⟩ := e
              exact ⟨c1, c2⟩
            · exact q3 l' y k1 k2 k3 (by omega)
          · exact Or.inr q
        · rename_i c2
          exact step _ 1 _ (sameF_up (by omega) (by omega)) (FarR_up hN g2 (by omega) hR) (FInv_up hN hI (by omega) hl hbut jB (by omega)) (less_of _ (SF_up g2 (by omega) (by omega)))
      · rename_i c1
        have hI1 := FInv_up hN hI (show z < nN N by omega) hl hbut jA (show F z (nB N l) + nC N l < F z (nA N l) by omega)
        have hR1 := FarR_up (v := F z (nB N l) + nC N l) hN g1 (show z < nN N by omega) hR
        have hS1 := SF_up (F := F) (v := F z (nB N l) + nC N l) g1 (show z < nN N by omega) (by omega)
        rw [if_pos (by omega)]
        exact step _ 1 _ (sameF_up (by omega) (by omega)) hR1 hI1 (less_of _ hS1)
theorem lays_l {but : Option Nat} (hb : b ≤ 144) (hbt : bt = en but) (hbl : ∀ q, but = some q → q < 24) {F0 : Nat → Nat → Nat} : ∀ (k l : Nat) (d : mS) (less : Int32) (F : Nat → Nat → Nat) (l5 l6 l7 : Option Value), MI d N wt wh → l + k = nM N → FarR d b N F → FInv N but F → FJ N but F0 F l 0 less →
    (∀ (d' : mS) (less : Int32) (F : Nat → Nat → Nat) (l4 l5 l6 l7 : Option Value), MI d' N wt wh → sameF b d d' → FarR d' b N F → FInv N but F → FJ N but F0 F (nM N) 0 less → WP mLayM 107 60 [some (.ref 0), some (.int (nI b)), some (.int bt), some (.int less), l4, l5, l6, l7] [] d' Q) →
    WP mLayM 107 69 [some (.ref 0), some (.int (nI b)), some (.int bt), some (.int less), some (.int (nI l)), l5, l6, l7] [] d Q := by
  intro k
  induction k with
  | zero =>
    intro l d less F l5 l6 l7 hM hl hR hI hJ kk
    have h24 := hM.1.2.2.1
    rw [w_X7_laysFar_69]
    simp only [w_X7_laysFar_0, w_X7_laysFar_1, w_X7_laysFar_3, w_X7_laysFar_4, w_X7_laysFar_7, w_X7_laysFar_10, w_X7_laysFar_11, w_X7_laysFar_15, w_X7_laysFar_16, w_X7_laysFar_19, w_X7_laysFar_22, w_X7_laysFar_23, w_X7_laysFar_26, w_X7_laysFar_27, w_X7_laysFar_28, w_X7_laysFar_30, w_X7_laysFar_33, w_X7_laysFar_34, w_X7_laysFar_36, w_X7_laysFar_39, w_X7_laysFar_40, w_X7_laysFar_43, w_X7_laysFar_45, w_X7_laysFar_46, w_X7_laysFar_49, w_X7_laysFar_52, w_X7_laysFar_55, w_X7_laysFar_58, w_X7_laysFar_59, w_X7_laysFar_61, w_X7_laysFar_64, w_X7_laysFar_65, w_X7_laysFar_66, w_X7_laysFar_67, w_X7_laysFar_71, w_X7_laysFar_72, w_X7_laysFar_75, w_X7_laysFar_78, w_X7_laysFar_79, w_X7_laysFar_83, w_X7_laysFar_84, w_X7_laysFar_87, w_X7_laysFar_90, w_X7_laysFar_92, w_X7_laysFar_93, w_X7_laysFar_96, w_X7_laysFar_97, w_X7_laysFar_98, w_X7_laysFar_101, w_X7_laysFar_103, w_X7_laysFar_104, w_X7_laysFar_106, w_X7_laysFar_109, w_X7_laysFar_111, w_X7_laysFar_112, w_X7_laysFar_113, w_X7_laysFar_116, w_X7_laysFar_118, w_X7_laysFar_119, w_X7_laysFar_121, w_X7_laysFar_124, w_X7_laysFar_126, w_X7_laysFar_127, w_X7_laysFar_130, w_X7_laysFar_132, w_X7_laysFar_133, w_X7_laysFar_134, w_X7_laysFar_137, w_X7_laysFar_139, w_X7_laysFar_140, w_X7_laysFar_141, w_X7_laysFar_142, w_X7_laysFar_145, w_X7_laysFar_147, w_X7_laysFar_148, w_X7_laysFar_151, w_X7_laysFar_152, w_X7_laysFar_155, w_X7_laysFar_157, w_X7_laysFar_158, w_X7_laysFar_161, w_X7_laysFar_163, w_X7_laysFar_164, w_X7_laysFar_165, w_X7_laysFar_168, w_X7_laysFar_170, w_X7_laysFar_171, w_X7_laysFar_172, w_X7_laysFar_173, w_X7_laysFar_174, w_X7_laysFar_175, w_X7_laysFar_176, w_X7_laysFar_179, w_X7_laysFar_181, w_X7_laysFar_182, w_X7_laysFar_183, w_X7_laysFar_186, w_X7_laysFar_188, w_X7_laysFar_189, w_X7_laysFar_190, w_X7_laysFar_191, w_X7_laysFar_194, w_X7_laysFar_196, w_X7_laysFar_197, w_X7_laysFar_200, w_X7_laysFar_201, w_X7_laysFar_204, w_X7_laysFar_206, w_X7_laysFar_207, w_X7_laysFar_210, w_X7_laysFar_212, w_X7_laysFar_213, w_X7_laysFar_214, w_X7_laysFar_217, w_X7_laysFar_219, w_X7_laysFar_220, w_X7_laysFar_221, w_X7_laysFar_222, w_X7_laysFar_223, w_X7_laysFar_224, w_X7_laysFar_227, w_X7_laysFar_230, w_X7_laysFar_233, w_X7_laysFar_236, w_X7_laysFar_239, hM.2.2.1]
    rw [if_pos ((kLe (by omega) (by omega)).mpr (by omega))]
    rw [show l = nM N by omega] at hJ ⊢
    exact kk d less F _ _ _ _ hM sameF_rf hR hI hJ
  | succ k ih =>
    intro l d less F l5 l6 l7 hM hl hR hI hJ kk
    have h24 := hM.1.2.2.1
    rw [w_X7_laysFar_69]
    simp only [w_X7_laysFar_0, w_X7_laysFar_1, w_X7_laysFar_3, w_X7_laysFar_4, w_X7_laysFar_7, w_X7_laysFar_10, w_X7_laysFar_11, w_X7_laysFar_15, w_X7_laysFar_16, w_X7_laysFar_19, w_X7_laysFar_22, w_X7_laysFar_23, w_X7_laysFar_26, w_X7_laysFar_27, w_X7_laysFar_28, w_X7_laysFar_30, w_X7_laysFar_33, w_X7_laysFar_34, w_X7_laysFar_36, w_X7_laysFar_39, w_X7_laysFar_40, w_X7_laysFar_43, w_X7_laysFar_45, w_X7_laysFar_46, w_X7_laysFar_49, w_X7_laysFar_52, w_X7_laysFar_55, w_X7_laysFar_58, w_X7_laysFar_59, w_X7_laysFar_61, w_X7_laysFar_64, w_X7_laysFar_65, w_X7_laysFar_66, w_X7_laysFar_67, w_X7_laysFar_71, w_X7_laysFar_72, w_X7_laysFar_75, w_X7_laysFar_78, w_X7_laysFar_79, w_X7_laysFar_83, w_X7_laysFar_84, w_X7_laysFar_87, w_X7_laysFar_90, w_X7_laysFar_92, w_X7_laysFar_93, w_X7_laysFar_96, w_X7_laysFar_97, w_X7_laysFar_98, w_X7_laysFar_101, w_X7_laysFar_103, w_X7_laysFar_104, w_X7_laysFar_106, w_X7_laysFar_109, w_X7_laysFar_111, w_X7_laysFar_112, w_X7_laysFar_113, w_X7_laysFar_116, w_X7_laysFar_118, w_X7_laysFar_119, w_X7_laysFar_121, w_X7_laysFar_124, w_X7_laysFar_126, w_X7_laysFar_127, w_X7_laysFar_130, w_X7_laysFar_132, w_X7_laysFar_133, w_X7_laysFar_134, w_X7_laysFar_137, w_X7_laysFar_139, w_X7_laysFar_140, w_X7_laysFar_141, w_X7_laysFar_142, w_X7_laysFar_145, w_X7_laysFar_147, w_X7_laysFar_148, w_X7_laysFar_151, w_X7_laysFar_152, w_X7_laysFar_155, w_X7_laysFar_157, w_X7_laysFar_158, w_X7_laysFar_161, w_X7_laysFar_163, w_X7_laysFar_164, w_X7_laysFar_165, w_X7_laysFar_168, w_X7_laysFar_170, w_X7_laysFar_171, w_X7_laysFar_172, w_X7_laysFar_173, w_X7_laysFar_174, w_X7_laysFar_175, w_X7_laysFar_176, w_X7_laysFar_179, w_X7_laysFar_181, w_X7_laysFar_182, w_X7_laysFar_183, w_X7_laysFar_186, w_X7_laysFar_188, w_X7_laysFar_189, w_X7_laysFar_190, w_X7_laysFar_191, w_X7_laysFar_194, w_X7_laysFar_196, w_X7_laysFar_197, w_X7_laysFar_200, w_X7_laysFar_201, w_X7_laysFar_204, w_X7_laysFar_206, w_X7_laysFar_207, w_X7_laysFar_210, w_X7_laysFar_212, w_X7_laysFar_213, w_X7_laysFar_214, w_X7_laysFar_217, w_X7_laysFar_219, w_X7_laysFar_220, w_X7_laysFar_221, w_X7_laysFar_222, w_X7_laysFar_223, w_X7_laysFar_224, w_X7_laysFar_227, w_X7_laysFar_230, w_X7_laysFar_233, w_X7_laysFar_236, w_X7_laysFar_239, hM.2.2.1]
    rw [if_neg (fun q => by rw [kLe (by omega) (by omega)] at q; omega)]
    refine lays_z hb hbt hbl (F0 := F0) (show l < nM N by omega) (nN N) 0 d less F _ _ hM (by omega) hR hI hJ ?_
    intro d1 less1 F1 l5 l6 l7 h1 h2 h3 h4 h5
    exact ih (l + 1) d1 less1 F1 _ _ _ h1 (by omega) h3 h4 h5 (fun d2 l2 F2 l4 l5 l6 l7 g1 g2 g3 g4 g5 => kk d2 l2 F2 l4 l5 l6 l7 g1 (sameF_tr h2 g2) g3 g4 g5)
theorem lays_w {but : Option Nat} (hb : b ≤ 144) (hbt : bt = en but) (hbl : ∀ q, but = some q → q < 24) : ∀ (k : Nat) (d : mS) (less : Int32) (F : Nat → Nat → Nat) (l4 l5 l6 l7 : Option Value), SF N F = k → MI d N wt wh → FarR d b N F → FInv N but F → (less = 1 ∨ (less = 0 ∧ ∀ y, y < nN N → dCl N but (F y))) →
    (∀ (d' : mS) (F : Nat → Nat → Nat), MI d' N wt wh → sameF b d d' → FarR d' b N F → (∀ y, y < nN N → isD N but y (F y)) → Q none d') →
    WP mLayM 107 60 [some (.ref 0), some (.int (nI b)), some (.int bt), some (.int less), l4, l5, l6, l7] [] d Q := by
  intro k
  induction k using Nat.strongRecOn with
  | ind k ih =>
    intro d less F l4 l5 l6 l7 hk hM hR hI hc kk
    rw [w_X7_laysFar_60]
    simp only [w_X7_laysFar_0, w_X7_laysFar_1, w_X7_laysFar_3, w_X7_laysFar_4, w_X7_laysFar_7, w_X7_laysFar_10, w_X7_laysFar_11, w_X7_laysFar_15, w_X7_laysFar_16, w_X7_laysFar_19, w_X7_laysFar_22, w_X7_laysFar_23, w_X7_laysFar_26, w_X7_laysFar_27, w_X7_laysFar_28, w_X7_laysFar_30, w_X7_laysFar_33, w_X7_laysFar_34, w_X7_laysFar_36, w_X7_laysFar_39, w_X7_laysFar_40, w_X7_laysFar_43, w_X7_laysFar_45, w_X7_laysFar_46, w_X7_laysFar_49, w_X7_laysFar_52, w_X7_laysFar_55, w_X7_laysFar_58, w_X7_laysFar_59, w_X7_laysFar_61, w_X7_laysFar_64, w_X7_laysFar_65, w_X7_laysFar_66, w_X7_laysFar_67, w_X7_laysFar_71, w_X7_laysFar_72, w_X7_laysFar_75, w_X7_laysFar_78, w_X7_laysFar_79, w_X7_laysFar_83, w_X7_laysFar_84, w_X7_laysFar_87, w_X7_laysFar_90, w_X7_laysFar_92, w_X7_laysFar_93, w_X7_laysFar_96, w_X7_laysFar_97, w_X7_laysFar_98, w_X7_laysFar_101, w_X7_laysFar_103, w_X7_laysFar_104, w_X7_laysFar_106, w_X7_laysFar_109, w_X7_laysFar_111, w_X7_laysFar_112, w_X7_laysFar_113, w_X7_laysFar_116, w_X7_laysFar_118, w_X7_laysFar_119, w_X7_laysFar_121, w_X7_laysFar_124, w_X7_laysFar_126, w_X7_laysFar_127, w_X7_laysFar_130, w_X7_laysFar_132, w_X7_laysFar_133, w_X7_laysFar_134, w_X7_laysFar_137, w_X7_laysFar_139, w_X7_laysFar_140, w_X7_laysFar_141, w_X7_laysFar_142, w_X7_laysFar_145, w_X7_laysFar_147, w_X7_laysFar_148, w_X7_laysFar_151, w_X7_laysFar_152, w_X7_laysFar_155, w_X7_laysFar_157, w_X7_laysFar_158, w_X7_laysFar_161, w_X7_laysFar_163, w_X7_laysFar_164, w_X7_laysFar_165, w_X7_laysFar_168, w_X7_laysFar_170, w_X7_laysFar_171, w_X7_laysFar_172, w_X7_laysFar_173, w_X7_laysFar_174, w_X7_laysFar_175, w_X7_laysFar_176, w_X7_laysFar_179, w_X7_laysFar_181, w_X7_laysFar_182, w_X7_laysFar_183, w_X7_laysFar_186, w_X7_laysFar_188, w_X7_laysFar_189, w_X7_laysFar_190, w_X7_laysFar_191, w_X7_laysFar_194, w_X7_laysFar_196, w_X7_laysFar_197, w_X7_laysFar_200, w_X7_laysFar_201, w_X7_laysFar_204, w_X7_laysFar_206, w_X7_laysFar_207, w_X7_laysFar_210, w_X7_laysFar_212, w_X7_laysFar_213, w_X7_laysFar_214, w_X7_laysFar_217, w_X7_laysFar_219, w_X7_laysFar_220, w_X7_laysFar_221, w_X7_laysFar_222, w_X7_laysFar_223, w_X7_laysFar_224, w_X7_laysFar_227, w_X7_laysFar_230, w_X7_laysFar_233, w_X7_laysFar_236, w_X7_laysFar_239]
    rcases hc with rfl | ⟨rfl, hc⟩
    · rw [if_neg (by decide)]
      refine lays_l hb hbt hbl (F0 := F) (nM N) 0 d 0 F _ _ _ hM (by omega) hR hI (Or.inl ⟨rfl, rfl, fun l' y _ _ _ h => by omega⟩) ?_
      intro d1 less1 F1 l4 l5 l6 l7 h1 h2 h3 h4 h5
      rcases h5 with ⟨q1, q2, q3⟩ | ⟨q1, q2⟩
      · subst q1
        rw [w_X7_laysFar_60]
        simp only [w_X7_laysFar_0, w_X7_laysFar_1, w_X7_laysFar_3, w_X7_laysFar_4, w_X7_laysFar_7, w_X7_laysFar_10, w_X7_laysFar_11, w_X7_laysFar_15, w_X7_laysFar_16, w_X7_laysFar_19, w_X7_laysFar_22, w_X7_laysFar_23, w_X7_laysFar_26, w_X7_laysFar_27, w_X7_laysFar_28, w_X7_laysFar_30, w_X7_laysFar_33, w_X7_laysFar_34, w_X7_laysFar_36, w_X7_laysFar_39, w_X7_laysFar_40, w_X7_laysFar_43, w_X7_laysFar_45, w_X7_laysFar_46, w_X7_laysFar_49, w_X7_laysFar_52, w_X7_laysFar_55, w_X7_laysFar_58, w_X7_laysFar_59, w_X7_laysFar_61, w_X7_laysFar_64, w_X7_laysFar_65, w_X7_laysFar_66, w_X7_laysFar_67, w_X7_laysFar_71, w_X7_laysFar_72, w_X7_laysFar_75, w_X7_laysFar_78, w_X7_laysFar_79, w_X7_laysFar_83, w_X7_laysFar_84, w_X7_laysFar_87, w_X7_laysFar_90, w_X7_laysFar_92, w_X7_laysFar_93, w_X7_laysFar_96, w_X7_laysFar_97, w_X7_laysFar_98, w_X7_laysFar_101, w_X7_laysFar_103, w_X7_laysFar_104, w_X7_laysFar_106, w_X7_laysFar_109, w_X7_laysFar_111, w_X7_laysFar_112, w_X7_laysFar_113, w_X7_laysFar_116, w_X7_laysFar_118, w_X7_laysFar_119, w_X7_laysFar_121, w_X7_laysFar_124, w_X7_laysFar_126, w_X7_laysFar_127, w_X7_laysFar_130, w_X7_laysFar_132, w_X7_laysFar_133, w_X7_laysFar_134, w_X7_laysFar_137, w_X7_laysFar_139, w_X7_laysFar_140, w_X7_laysFar_141, w_X7_laysFar_142, w_X7_laysFar_145, w_X7_laysFar_147, w_X7_laysFar_148, w_X7_laysFar_151, w_X7_laysFar_152, w_X7_laysFar_155, w_X7_laysFar_157, w_X7_laysFar_158, w_X7_laysFar_161, w_X7_laysFar_163, w_X7_laysFar_164, w_X7_laysFar_165, w_X7_laysFar_168, w_X7_laysFar_170, w_X7_laysFar_171, w_X7_laysFar_172, w_X7_laysFar_173, w_X7_laysFar_174, w_X7_laysFar_175, w_X7_laysFar_176, w_X7_laysFar_179, w_X7_laysFar_181, w_X7_laysFar_182, w_X7_laysFar_183, w_X7_laysFar_186, w_X7_laysFar_188, w_X7_laysFar_189, w_X7_laysFar_190, w_X7_laysFar_191, w_X7_laysFar_194, w_X7_laysFar_196, w_X7_laysFar_197, w_X7_laysFar_200, w_X7_laysFar_201, w_X7_laysFar_204, w_X7_laysFar_206, w_X7_laysFar_207, w_X7_laysFar_210, w_X7_laysFar_212, w_X7_laysFar_213, w_X7_laysFar_214, w_X7_laysFar_217, w_X7_laysFar_219, w_X7_laysFar_220, w_X7_laysFar_221, w_X7_laysFar_222, w_X7_laysFar_223, w_X7_laysFar_224, w_X7_laysFar_227, w_X7_laysFar_230, w_X7_laysFar_233, w_X7_laysFar_236, w_X7_laysFar_239]
        rw [if_pos trivial]
        exact kk d1 F1 h1 h2 h3 (fun y hy => ⟨h4 y hy, fun l hl hb => q3 l y hl hb hy (Or.inl hl)⟩)
      · exact ih (SF N F1) (by omega) d1 less1 F1 _ _ _ _ rfl h1 h3 h4 (Or.inl q1) (fun d2 F2 g1 g2 g3 g4 => kk d2 F2 g1 (sameF_tr h2 g2) g3 g4)
    · rw [if_pos rfl]
      exact kk d F hM sameF_rf hR (fun y hy => ⟨hI y hy, hc y hy⟩)
/-- laysFar: the distances without a LINK, in one half of the row -/
theorem M_laysFar {but : Option Nat} (hb : b ≤ 144) (hbl : ∀ q, but = some q → q < 24) {d : mS} (hM : MI d N wt wh) (kk : ∀ d' : mS, MI d' N wt wh → sameF b d d' → FarR d' b N (gd N but) → Q none d') : WP mLayM 107 0 [some (.ref 0), some (.int (nI b)), some (.int (en but)), none, none, none, none, none] [] d Q := by
  simp only [w_X7_laysFar_0, w_X7_laysFar_1, w_X7_laysFar_3, w_X7_laysFar_4, w_X7_laysFar_7, w_X7_laysFar_10, w_X7_laysFar_11, w_X7_laysFar_15, w_X7_laysFar_16, w_X7_laysFar_19, w_X7_laysFar_22, w_X7_laysFar_23, w_X7_laysFar_26, w_X7_laysFar_27, w_X7_laysFar_28, w_X7_laysFar_30, w_X7_laysFar_33, w_X7_laysFar_34, w_X7_laysFar_36, w_X7_laysFar_39, w_X7_laysFar_40, w_X7_laysFar_43, w_X7_laysFar_45, w_X7_laysFar_46, w_X7_laysFar_49, w_X7_laysFar_52, w_X7_laysFar_55, w_X7_laysFar_58, w_X7_laysFar_59, w_X7_laysFar_61, w_X7_laysFar_64, w_X7_laysFar_65, w_X7_laysFar_66, w_X7_laysFar_67, w_X7_laysFar_71, w_X7_laysFar_72, w_X7_laysFar_75, w_X7_laysFar_78, w_X7_laysFar_79, w_X7_laysFar_83, w_X7_laysFar_84, w_X7_laysFar_87, w_X7_laysFar_90, w_X7_laysFar_92, w_X7_laysFar_93, w_X7_laysFar_96, w_X7_laysFar_97, w_X7_laysFar_98, w_X7_laysFar_101, w_X7_laysFar_103, w_X7_laysFar_104, w_X7_laysFar_106, w_X7_laysFar_109, w_X7_laysFar_111, w_X7_laysFar_112, w_X7_laysFar_113, w_X7_laysFar_116, w_X7_laysFar_118, w_X7_laysFar_119, w_X7_laysFar_121, w_X7_laysFar_124, w_X7_laysFar_126, w_X7_laysFar_127, w_X7_laysFar_130, w_X7_laysFar_132, w_X7_laysFar_133, w_X7_laysFar_134, w_X7_laysFar_137, w_X7_laysFar_139, w_X7_laysFar_140, w_X7_laysFar_141, w_X7_laysFar_142, w_X7_laysFar_145, w_X7_laysFar_147, w_X7_laysFar_148, w_X7_laysFar_151, w_X7_laysFar_152, w_X7_laysFar_155, w_X7_laysFar_157, w_X7_laysFar_158, w_X7_laysFar_161, w_X7_laysFar_163, w_X7_laysFar_164, w_X7_laysFar_165, w_X7_laysFar_168, w_X7_laysFar_170, w_X7_laysFar_171, w_X7_laysFar_172, w_X7_laysFar_173, w_X7_laysFar_174, w_X7_laysFar_175, w_X7_laysFar_176, w_X7_laysFar_179, w_X7_laysFar_181, w_X7_laysFar_182, w_X7_laysFar_183, w_X7_laysFar_186, w_X7_laysFar_188, w_X7_laysFar_189, w_X7_laysFar_190, w_X7_laysFar_191, w_X7_laysFar_194, w_X7_laysFar_196, w_X7_laysFar_197, w_X7_laysFar_200, w_X7_laysFar_201, w_X7_laysFar_204, w_X7_laysFar_206, w_X7_laysFar_207, w_X7_laysFar_210, w_X7_laysFar_212, w_X7_laysFar_213, w_X7_laysFar_214, w_X7_laysFar_217, w_X7_laysFar_219, w_X7_laysFar_220, w_X7_laysFar_221, w_X7_laysFar_222, w_X7_laysFar_223, w_X7_laysFar_224, w_X7_laysFar_227, w_X7_laysFar_230, w_X7_laysFar_233, w_X7_laysFar_236, w_X7_laysFar_239]
  refine lays_ix hb (nN N) 0 d none hM (by omega) (fun x' y' _ _ h => by omega) ?_
  intro d1 l4 h1 h2 h3
  refine lays_w hb rfl hbl _ d1 1 _ l4 none none none rfl h1 h3 (fun y _ => d_start) (Or.inl rfl) ?_
  intro d2 F g1 g2 g3 g4
  refine kk d2 g1 (sameF_tr h2 g2) (fun x y hx hy => ?_)
  rw [g3 x y hx hy, gd_eq g1.1 hy (g4 y hy) hx]
theorem M_lays {d : mS} (hM : MI d N wt wh) (kk : ∀ d' : mS, MI d' N wt wh → sameF 0 d d' → FarR d' 0 N (gd N none) → Q none d') : WP mLayM 108 0 [some (.ref 0)] [] d Q := by
  simp only [w_X7_lays_0, w_X7_lays_1, w_X7_lays_2, w_X7_lays_3, w_X7_lays_6]
  exact M_laysFar (b := 0) (but := none) (by omega) (fun q h => by cases h) hM (fun d' h1 h2 h3 => kk d' h1 h2 h3)
theorem M_laysBoth {k : Nat} (hk : k < nM N) {d : mS} (hM : MI d N wt wh) (kk : ∀ d' : mS, MI d' N wt wh → (∀ k, k ≠ 5 → d' k = d k) → FarR d' 0 N (gd N none) → FarR d' 144 N (gd N (some k)) → Q none d') : WP mLayM 143 0 [some (.ref 0), some (.int (nI k))] [] d Q := by
  have h24 := hM.1.2.2.1
  have h12 := hM.1.2.1
  simp only [w_X7_laysBoth_0, w_X7_laysBoth_1, w_X7_laysBoth_4, w_X7_laysBoth_5, w_X7_laysBoth_8, w_X7_laysBoth_9, w_X7_laysBoth_12]
  refine M_lays hM (fun d1 h1 h2 h3 => ?_)
  refine M_laysFar (b := 144) (but := some k) (by omega) (fun q h => by cases h; omega) h1 (fun d2 g1 g2 g3 => ?_)
  refine kk d2 g1 (fun k hk => by rw [g2.1 k hk, h2.1 k hk]) (fun x y hx hy => ?_) g3
  rw [g2.2 _ (by omega)]
  exact h3 x y hx hy
end MO2
