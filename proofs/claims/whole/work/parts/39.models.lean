/-! the reference's public methods, fourth part -/
/-- the k-th NODE of a WAY -/
noncomputable def wyK (N : Nt) (dd : Nat) : Nat → Nat → Option Nat
  | 0, v => some v
  | k + 1, v => match nx N none dd v with
    | none => none
    | some u => wyK N dd k u
/-- way(a, d, i): the NODE, or none: it throws -/
noncomputable def wayQ (N : Nt) (a b c : Int32) : Option Nat := match two N a b with
  | some (x, y) => if fr N x y < INF then (match ix (nN N) c with
    | some i => wyK N y i x
    | none => none) else none
  | none => none
theorem wyK_none {N : Nt} (hN : Nok N) {dd : Nat} : ∀ (k v : Nat), v < nN N → rk N none dd v < k → wyK N dd k v = none := by
  intro k
  induction k with
  | zero => intro v _ h; omega
  | succ k ih =>
    intro v hv h
    unfold wyK
    cases hx : nx N none dd v with
    | none => rfl
    | some u =>
      have := nx_rk hN hx
      exact ih u (nx_some hx).1 (by omega)
theorem wyK_lt {N : Nt} {dd : Nat} : ∀ (k v u : Nat), v < nN N → wyK N dd k v = some u → u < nN N := by
  intro k
  induction k with
  | zero => intro v u hv h; cases h; exact hv
  | succ k ih =>
    intro v u hv h
    unfold wyK at h
    cases hx : nx N none dd v with
    | none => rw [hx] at h; cases h
    | some z => rw [hx] at h; exact ih z u (nx_some hx).1 h
theorem maxO_congr {p q : Nat → Option Nat} : ∀ {n : Nat}, (∀ k, k < n → p k = q k) → maxO p n = maxO q n
  | 0, _ => rfl
  | n + 1, h => by unfold maxO; rw [h n (by omega), maxO_congr (fun k hk => h k (by omega))]
theorem maxO_none {p : Nat → Option Nat} : ∀ {n : Nat}, (∀ k, k < n → p k = none) → maxO p n = none
  | 0, _ => rfl
  | n + 1, h => by unfold maxO; rw [h n (by omega)]; exact maxO_none (fun k hk => h k (by omega))
theorem maxO_one {g : Nat → Option Nat} {x0 : Nat} : ∀ {n : Nat}, x0 < n → maxO (fun x => if x = x0 then g x else none) n = g x0
  | 0, h => absurd h (Nat.not_lt_zero _)
  | n + 1, h => by
    unfold maxO
    by_cases e : n = x0
    · subst e
      rw [if_pos rfl, maxO_none (fun k hk => if_neg (by omega))]
      cases g n <;> rfl
    · rw [if_neg e]
      exact maxO_one (by omega)
section MOS
variable {d : mS} {N : Nt} {wt wh : Nat} {Q : Option Int32 → mS → Prop} {a b c : Int32}
theorem P_down (hM : MI d N wt wh) (k1 : dwn N a b = none → ∀ d' : mS, MI d' N wt wh → Q (some 0) d') (k2 : ∀ w h, dwn N a b = some (w, h) → ∀ d' : mS, MI d' N w h → Q (some 1) d') : WP mLayM 103 0 [some (.ref 0), some (.int a), some (.int b), none] [] d Q := by
  have h12 := hM.1.2.1
  have h24 := hM.1.2.2.1
  have h0 := MI_0 (v := 0) hM
  have upd : ∀ (w h : Nat) (x y : Int32), x = nI w → y = nI h → MI (mUp (mUp (mUp d 0 0 0) 0 7 x) 0 8 y) N w h := by
    rintro w h x y rfl rfl
    unfold MI at h0 ⊢
    simp (disch := decide) only [mUp_s, mUp_j, mUp_kf] at h0 ⊢
    exact ⟨h0.1, h0.2.1, h0.2.2.1, h0.2.2.2.1, trivial, trivial⟩
  simp only [w_X7_down_0, w_X7_down_1, w_X7_down_2, w_X7_down_5, w_X7_down_6, w_X7_down_9, w_X7_down_10, w_X7_down_11, w_X7_down_14, w_X7_down_15, w_X7_down_16, w_X7_down_19, w_X7_down_22, w_X7_down_23, w_X7_down_24, w_X7_down_27, w_X7_down_28, w_X7_down_29, w_X7_down_32, w_X7_down_35, w_X7_down_36, w_X7_down_37, w_X7_down_40, w_X7_down_41, w_X7_down_42, w_X7_down_44, w_X7_down_47, w_X7_down_50, w_X7_down_51, w_X7_down_54, w_X7_down_55, w_X7_down_56, w_X7_down_57, w_X7_down_60, w_X7_down_61, w_X7_down_62, w_X7_down_65, w_X7_down_66, w_X7_down_67, w_X7_down_70, w_X7_down_71, w_X7_down_74, w_X7_down_75, w_X7_down_78, w_X7_down_79, M_isLink h0, M_isNode h0, t_within, mKI_some, true_or, or_true, true_and, k10, if_false, if_true]
  unfold dwn at k1 k2
  by_cases a0 : a = 0
  · rw [if_pos a0] at k2
    rw [if_pos a0, if_neg (fun q => q a0)]
    exact k2 0 0 rfl _ (upd 0 0 a 0 (by rw [a0]; rfl) rfl)
  rw [if_neg a0] at k1 k2
  simp only [a0, not_false_eq_true, if_true, if_false]
  by_cases a1 : a = 1
  · subst a1
    simp only [show ¬ (¬ (1 : Int32) = 1) from fun q => q rfl, if_false, if_true] at k1 k2 ⊢
    cases hb : ix (nM N) b with
    | none => rw [hb] at k1; simp [bi, k01]; exact k1 rfl _ h0
    | some k =>
      obtain ⟨rfl, hk⟩ := ix_some (by omega) hb
      rw [hb] at k2
      simp [bi, k10]
      exact k2 1 k rfl _ (upd 1 k _ _ rfl rfl)
  rw [if_neg a1] at k1 k2
  simp only [a1, not_false_eq_true, if_true, if_false]
  by_cases a2 : a = 2
  · subst a2
    simp only [show ¬ (¬ (2 : Int32) = 2) from fun q => q rfl, if_false, if_true] at k1 k2 ⊢
    cases hb : ix (nN N) b with
    | none => rw [hb] at k1; simp [bi]; exact k1 rfl _ h0
    | some k =>
      obtain ⟨rfl, hk⟩ := ix_some (by omega) hb
      rw [hb] at k2
      simp [bi]
      exact k2 2 k rfl _ (upd 2 k _ _ rfl rfl)
  rw [if_neg a2] at k1 k2
  simp only [a2, not_false_eq_true, if_true, if_false]
  by_cases a3 : a = 3
  · subst a3
    have hw := win (c := b) (lo := 0) (hi := 7) (n := 7) rfl rfl (by omega)
    simp only [show ¬ (¬ (3 : Int32) = 3) from fun q => q rfl, if_false, if_true, hw] at k1 k2 ⊢
    cases hb : ix 8 b with
    | none => rw [hb] at k1; simp [bi]; exact k1 rfl _ h0
    | some k =>
      obtain ⟨rfl, hk⟩ := ix_some (by omega) hb
      rw [hb] at k2
      simp [bi]
      exact k2 3 k rfl _ (upd 3 k _ _ rfl rfl)
  rw [if_neg a3] at k1
  simp only [a3, not_false_eq_true, if_true, if_false]
  exact k1 rfl _ h0
theorem F_btw_d {l a0 s0 : Nat} (h : MF d N wt wh) (hl : l < nM N) (ha : a0 < nN N) (kk : ∀ l4, WP mLayM 112 8 [some (.ref 0), some (.int (nI l)), some (.int (nI (s0 + cnt (fun dd => onW N l dd a0) (nN N)))), some (.int (nI (a0 + 1))), l4] [] d Q) : ∀ (k j : Nat), j + k = nN N → WP mLayM 112 19 [some (.ref 0), some (.int (nI l)), some (.int (nI (s0 + cnt (fun dd => onW N l dd a0) j))), some (.int (nI a0)), some (.int (nI j))] [] d Q := by
  have h12 := h.1.1.2.1
  intro k
  induction k with
  | zero =>
    intro j hj
    rw [w_X7_betweenOf_19]
    simp only [w_X7_betweenOf_0, w_X7_betweenOf_1, w_X7_betweenOf_4, w_X7_betweenOf_5, w_X7_betweenOf_6, w_X7_betweenOf_7, w_X7_betweenOf_9, w_X7_betweenOf_10, w_X7_betweenOf_13, w_X7_betweenOf_16, w_X7_betweenOf_17, w_X7_betweenOf_21, w_X7_betweenOf_22, w_X7_betweenOf_25, w_X7_betweenOf_28, w_X7_betweenOf_29, w_X7_betweenOf_30, w_X7_betweenOf_31, w_X7_betweenOf_33, w_X7_betweenOf_34, w_X7_betweenOf_37, w_X7_betweenOf_40, w_X7_betweenOf_41, w_X7_betweenOf_44, w_X7_betweenOf_45, w_X7_betweenOf_46, w_X7_betweenOf_47, w_X7_betweenOf_50, w_X7_betweenOf_53, w_X7_betweenOf_56, w_X7_betweenOf_59, w_X7_betweenOf_60, h.1.2.1]
    rw [if_pos ((kLe (by omega) (by omega)).mpr (by omega)), show j = nN N by omega, nI_1]
    exact kk _
  | succ k ih =>
    intro j hj
    have ih := ih (j + 1) (by omega)
    rw [w_X7_betweenOf_19]
    simp only [w_X7_betweenOf_0, w_X7_betweenOf_1, w_X7_betweenOf_4, w_X7_betweenOf_5, w_X7_betweenOf_6, w_X7_betweenOf_7, w_X7_betweenOf_9, w_X7_betweenOf_10, w_X7_betweenOf_13, w_X7_betweenOf_16, w_X7_betweenOf_17, w_X7_betweenOf_21, w_X7_betweenOf_22, w_X7_betweenOf_25, w_X7_betweenOf_28, w_X7_betweenOf_29, w_X7_betweenOf_30, w_X7_betweenOf_31, w_X7_betweenOf_33, w_X7_betweenOf_34, w_X7_betweenOf_37, w_X7_betweenOf_40, w_X7_betweenOf_41, w_X7_betweenOf_44, w_X7_betweenOf_45, w_X7_betweenOf_46, w_X7_betweenOf_47, w_X7_betweenOf_50, w_X7_betweenOf_53, w_X7_betweenOf_56, w_X7_betweenOf_59, w_X7_betweenOf_60, h.1.2.1]
    rw [if_neg (fun q => by rw [kLe (by omega) (by omega)] at q; omega)]
    rw [M_isOn hl (show j < nN N by omega) ha h.1 h.2, mKI_some]
    simp only [bi_0, nI_1]
    have hc : cnt (fun dd => onW N l dd a0) (j + 1) = cnt (fun dd => onW N l dd a0) j + (if onW N l j a0 then 1 else 0) := rfl
    rw [hc] at ih
    cases ho : onW N l j a0 with
    | false => rw [ho] at ih; rw [if_pos rfl, k0, nI_add]; exact ih
    | true => rw [ho] at ih; rw [if_neg (by decide)]; exact ih
theorem F_btw_a {l : Nat} (h : MF d N wt wh) (hl : l < nM N) (kk : Q (some (nI (btw N l))) d) : ∀ (k j : Nat) (l4 : Option Value), j + k = nN N → WP mLayM 112 8 [some (.ref 0), some (.int (nI l)), some (.int (nI (sumN (fun a => cnt (fun dd => onW N l dd a) (nN N)) j))), some (.int (nI j)), l4] [] d Q := by
  have h12 := h.1.1.2.1
  intro k
  induction k with
  | zero =>
    intro j l4 hj
    rw [w_X7_betweenOf_8]
    simp only [w_X7_betweenOf_0, w_X7_betweenOf_1, w_X7_betweenOf_4, w_X7_betweenOf_5, w_X7_betweenOf_6, w_X7_betweenOf_7, w_X7_betweenOf_9, w_X7_betweenOf_10, w_X7_betweenOf_13, w_X7_betweenOf_16, w_X7_betweenOf_17, w_X7_betweenOf_21, w_X7_betweenOf_22, w_X7_betweenOf_25, w_X7_betweenOf_28, w_X7_betweenOf_29, w_X7_betweenOf_30, w_X7_betweenOf_31, w_X7_betweenOf_33, w_X7_betweenOf_34, w_X7_betweenOf_37, w_X7_betweenOf_40, w_X7_betweenOf_41, w_X7_betweenOf_44, w_X7_betweenOf_45, w_X7_betweenOf_46, w_X7_betweenOf_47, w_X7_betweenOf_50, w_X7_betweenOf_53, w_X7_betweenOf_56, w_X7_betweenOf_59, w_X7_betweenOf_60, h.1.2.1]
    rw [if_pos ((kLe (by omega) (by omega)).mpr (by omega)), show j = nN N by omega]
    exact kk
  | succ k ih =>
    intro j l4 hj
    rw [w_X7_betweenOf_8]
    simp only [w_X7_betweenOf_0, w_X7_betweenOf_1, w_X7_betweenOf_4, w_X7_betweenOf_5, w_X7_betweenOf_6, w_X7_betweenOf_7, w_X7_betweenOf_9, w_X7_betweenOf_10, w_X7_betweenOf_13, w_X7_betweenOf_16, w_X7_betweenOf_17, w_X7_betweenOf_21, w_X7_betweenOf_22, w_X7_betweenOf_25, w_X7_betweenOf_28, w_X7_betweenOf_29, w_X7_betweenOf_30, w_X7_betweenOf_31, w_X7_betweenOf_33, w_X7_betweenOf_34, w_X7_betweenOf_37, w_X7_betweenOf_40, w_X7_betweenOf_41, w_X7_betweenOf_44, w_X7_betweenOf_45, w_X7_betweenOf_46, w_X7_betweenOf_47, w_X7_betweenOf_50, w_X7_betweenOf_53, w_X7_betweenOf_56, w_X7_betweenOf_59, w_X7_betweenOf_60, h.1.2.1]
    rw [if_neg (fun q => by rw [kLe (by omega) (by omega)] at q; omega)]
    exact F_btw_d h hl (show j < nN N by omega) (fun l4 => ih (j + 1) l4 (by omega)) (nN N) 0 (by omega)
theorem F_btw {l : Nat} (hM : MI d N wt wh) (hl : l < nM N) (kk : ∀ d' : mS, MI d' N wt wh → Q (some (nI (btw N l))) d') : WP mLayM 112 0 [some (.ref 0), some (.int (nI l)), none, none, none] [] d Q := by
  simp only [w_X7_betweenOf_0, w_X7_betweenOf_1, w_X7_betweenOf_4, w_X7_betweenOf_5, w_X7_betweenOf_6, w_X7_betweenOf_7, w_X7_betweenOf_9, w_X7_betweenOf_10, w_X7_betweenOf_13, w_X7_betweenOf_16, w_X7_betweenOf_17, w_X7_betweenOf_21, w_X7_betweenOf_22, w_X7_betweenOf_25, w_X7_betweenOf_28, w_X7_betweenOf_29, w_X7_betweenOf_30, w_X7_betweenOf_31, w_X7_betweenOf_33, w_X7_betweenOf_34, w_X7_betweenOf_37, w_X7_betweenOf_40, w_X7_betweenOf_41, w_X7_betweenOf_44, w_X7_betweenOf_45, w_X7_betweenOf_46, w_X7_betweenOf_47, w_X7_betweenOf_50, w_X7_betweenOf_53, w_X7_betweenOf_56, w_X7_betweenOf_59, w_X7_betweenOf_60]
  refine M_lays hM (fun d1 h1 h2 h3 => ?_)
  rw [mKV_none]
  exact F_btw_a ⟨h1, h3⟩ hl (kk _ h1) (nN N) 0 _ (by omega)
theorem P_of (hM : MI d N wt wh) (hD : Dok N wt wh) (kk : ∀ d' : mS, MI d' N wt wh → Q (some (qOf N wt wh a b)) d') : WP mLayM 111 0 [some (.ref 0), some (.int a), some (.int b)] [] d Q := by
  have h24 := hM.1.2.2.1
  have h0 := MI_0 (v := 0) hM
  simp only [w_X7_of_0, w_X7_of_1, w_X7_of_2, w_X7_of_5, w_X7_of_6, w_X7_of_7, w_X7_of_10, w_X7_of_13, w_X7_of_14, w_X7_of_15, w_X7_of_16, w_X7_of_56, w_X7_of_57, w_X7_of_60, w_X7_of_61, w_X7_of_62, w_X7_of_63, w_X7_of_64, w_X7_of_67, w_X7_of_68, w_X7_of_69, w_X7_of_70, w_X7_of_71, w_X7_of_74, w_X7_of_75, w_X7_of_76, w_X7_of_77, w_X7_of_78, w_X7_of_81, w_X7_of_82, w_X7_of_83, w_X7_of_84, w_X7_of_85, w_X7_of_86, w_X7_of_87, w_X7_of_90, w_X7_of_91, w_X7_of_94, w_X7_of_97, w_X7_of_100, w_X7_of_101, w_X7_of_104, w_X7_of_105, w_X7_of_106, w_X7_of_107, w_X7_of_108, w_X7_of_111, w_X7_of_112, w_X7_of_113]
  rw [M_isLink h0, mKI_some]
  unfold qOf at kk
  cases h1 : ix (nM N) a with
  | none => rw [h1] at kk; rw [show (none : Option Nat).isSome = false from rfl, bi_f, if_neg (by decide)]; exact kk _ h0
  | some l =>
    obtain ⟨rfl, hl⟩ := ix_some (by omega) h1
    rw [h1] at kk
    dsimp only at kk
    obtain ⟨e1, e2, e3, e4⟩ := hM.2.2.2.1 l hl
    rw [show (some l).isSome = true from rfl, bi_t, if_pos (by decide)]
    simp (disch := decide) only [mUp_k, mUp_j, kIn (show l < 2 ^ 31 by omega), kCl (show l < 2 ^ 31 by omega), e1, e2, e3, e4, hM.2.2.2.2.1, hM.2.2.2.2.2]
    simp only [show l < 24 by omega, true_and]
    by_cases b0 : b = 0
    · rw [if_pos b0] at kk ⊢; exact kk _ h0
    rw [if_neg b0] at kk ⊢
    by_cases b1 : b = 1
    · rw [if_pos b1] at kk ⊢; exact kk _ h0
    rw [if_neg b1] at kk ⊢
    by_cases b2 : b = 2
    · rw [if_pos b2] at kk ⊢; exact kk _ h0
    rw [if_neg b2] at kk ⊢
    by_cases b3 : b = 3
    · rw [if_pos b3] at kk ⊢; exact kk _ h0
    rw [if_neg b3] at kk ⊢
    by_cases b4 : b = 4
    · rw [if_pos b4] at kk ⊢
      rw [M_isDown hl hD.1 hD.2.1 h0, mKI_some]
      have kk := kk _ h0
      cases hs : sdn N wt wh l with
      | true => rw [hs] at kk; rw [bi_t, if_neg (by decide)]; exact kk
      | false => rw [hs] at kk; rw [bi_f, if_pos rfl]; exact kk
    rw [if_neg b4] at kk ⊢
    by_cases b5 : b = 5
    · rw [if_pos b5] at kk ⊢
      exact F_btw h0 hl (fun d1 h1 => kk _ h1)
    rw [if_neg b5] at kk ⊢
    exact kk _ h0
end MOS
