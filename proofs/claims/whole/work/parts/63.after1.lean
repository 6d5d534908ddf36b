/-! the class: behind a LINK -/
section AF1
variable {c : mS} {N : Nt} {wt wh : Nat} {Q : Option Int32 → mS → Prop} {a b a1 : Int32} {l dd v : Nat}
theorem CI_scr {c' : mS} (h : CI c N wt wh) (hs : scr c c') : CI c' N wt wh := by
  rcases h with ⟨h1, h2 | ⟨h2, h3⟩⟩
  · obtain ⟨g1, g2, g3, g4, g5, g6, g7⟩ := h1
    refine ⟨⟨g1, ?_, ?_, ?_, fun x y hx hy => ?_, ?_, ?_⟩, Or.inl ?_⟩
    · rw [hs 1 (by omega) (by omega)]; exact g2
    · rw [hs 1 (by omega) (by omega)]; exact g3
    · rw [hs 7 (by omega) (by omega), hs 8 (by omega) (by omega), hs 9 (by omega) (by omega), hs 10 (by omega) (by omega)]; exact g4
    · rw [hs (44 + x) (by omega) (by omega)]; exact g5 x y hx hy
    · rw [hs 2 (by omega) (by omega)]; exact g6
    · rw [hs 2 (by omega) (by omega)]; exact g7
    · rw [hs 1 (by omega) (by omega)]; exact h2
  · exact CS_I (CS_scr ⟨h1, h2, h3⟩ hs)
theorem lay15 : mLayH[15]? = some (.inr (.inl 12)) := rfl
theorem C_farWithout {x y : Nat} (h : CB c N wt wh) (hl : l < nM N) (hx : x < nN N) (hy : y < nN N) (kk : ∀ c' : mS, but1 15 c c' → Q (some (nI (gd N (some l) y x))) c') : WP mLayH 0 0 [some (.ref 5), some (.ref 1), some (.int (nI l)), some (.int (nI x)), some (.int (nI y))] [] c Q := by
  have h12 := h.1.2.1
  have h24 := h.1.2.2.1
  simp only [w_X0_farWithout_0, w_X0_farWithout_1, w_X0_farWithout_2, w_X0_farWithout_5, w_X0_farWithout_7, w_X0_farWithout_8, w_X0_farWithout_11, w_X0_farWithout_12, w_X0_farWithout_15, w_X0_farWithout_16, w_X0_farWithout_17]
  refine C_measure (but := some l) lay15 (by decide) (by decide) h hy (fun q hq => by cases hq; omega) (fun c1 b1 b2 => ?_)
  rw [mKV_none, kIn (by omega), kCl (by omega), b2 x hx]
  exact ⟨by omega, kk c1 b1⟩
theorem D_behind (h : CI c N wt wh) (kk : ∀ c' : mS, CI c' N wt wh → Q (some (qBehind N a b a1)) c') : WP mLayH 75 0 [some (.ref 0), some (.int a), some (.int b), some (.int a1)] [] c Q := by
  have hN := h.1.1
  simp only [w_X6_behind_0, w_X6_behind_1, w_X6_behind_4, w_X6_behind_5, w_X6_behind_8, w_X6_behind_11, w_X6_behind_12, w_X6_behind_15, w_X6_behind_16, w_X6_behind_19, w_X6_behind_22, w_X6_behind_23, w_X6_behind_26, w_X6_behind_27, w_X6_behind_30, w_X6_behind_33, w_X6_behind_34, w_X6_behind_35, w_X6_behind_36, w_X6_behind_39, w_X6_behind_40, w_X6_behind_43, w_X6_behind_44, w_X6_behind_45, w_X6_behind_46, w_X6_behind_49, w_X6_behind_52, C_isLink h.1, C_isNode h.1, mKI_some]
  rw [lab_ite]
  unfold qBehind at kk
  cases hl : lab N a b a1 with
  | none => rw [hl] at kk; exact kk c h
  | some p =>
    obtain ⟨l, x, y⟩ := p
    rw [hl] at kk
    obtain ⟨rfl, rfl, rfl, hlm, hx, hy⟩ := lab_some hN hl
    rw [if_pos (show (some (l, x, y)).isSome = true from rfl)]
    refine C_farWithout h.1 hlm hx hy (fun c1 b1 => ?_)
    rw [mKI_some, c_orNone (gd_inf hN hy hx), mKI_some]
    exact kk c1 (CI_scr h (scr_but b1 (by omega)))
theorem D_nextBehind (h : CI c N wt wh) (kk : ∀ c' : mS, CI c' N wt wh → Q (some (qNextBehind N a b a1)) c') : WP mLayH 76 0 [some (.ref 0), some (.int a), some (.int b), some (.int a1)] [] c Q := by
  have hN := h.1.1
  have h24 := hN.2.2.1
  simp only [w_X6_nextBehind_0, w_X6_nextBehind_1, w_X6_nextBehind_4, w_X6_nextBehind_5, w_X6_nextBehind_8, w_X6_nextBehind_11, w_X6_nextBehind_12, w_X6_nextBehind_15, w_X6_nextBehind_16, w_X6_nextBehind_19, w_X6_nextBehind_22, w_X6_nextBehind_23, w_X6_nextBehind_26, w_X6_nextBehind_27, w_X6_nextBehind_30, w_X6_nextBehind_33, w_X6_nextBehind_34, w_X6_nextBehind_35, w_X6_nextBehind_36, w_X6_nextBehind_39, w_X6_nextBehind_40, w_X6_nextBehind_43, w_X6_nextBehind_44, w_X6_nextBehind_45, w_X6_nextBehind_46, w_X6_nextBehind_49, C_isLink h.1, C_isNode h.1, mKI_some]
  rw [lab_ite]
  unfold qNextBehind at kk
  cases hl : lab N a b a1 with
  | none => rw [hl] at kk; exact kk c h
  | some p =>
    obtain ⟨l, x, y⟩ := p
    rw [hl] at kk
    obtain ⟨rfl, rfl, rfl, hlm, hx, hy⟩ := lab_some hN hl
    rw [if_pos (show (some (l, x, y)).isSome = true from rfl)]
    have hbl : ∀ q, some l = some q → q < 24 := fun q hq => by cases hq; omega
    simp only [w_X0_hopWithout_0, w_X0_hopWithout_1, w_X0_hopWithout_2, w_X0_hopWithout_5, w_X0_hopWithout_7, w_X0_hopWithout_8, w_X0_hopWithout_11, w_X0_hopWithout_12, w_X0_hopWithout_13, w_X0_hopWithout_16, w_X0_hopWithout_17, w_X0_hopWithout_18, w_X0_hopWithout_21]
    refine C_measure (but := some l) lay15 (by decide) (by decide) h.1 hy hbl (fun c1 b1 b2 => ?_)
    have hh := C_hopBy (Q := mKI fun v t => mKI (fun v t => Q (some v) t) (some v) t) lay15 (CB_but h.1 b1 (by decide) (by decide)) hy hbl b2 hx
    rw [mKV_none]
    refine hh.mpr ?_
    exact kk c1 (CI_scr h (scr_but b1 (by omega)))
theorem isHit_loop (h : CS c N wt wh) (hl : l < nM N) (hd : dd < nN N) {v0 : Int32} : ∀ (k st at' : Nat) (l7 : Option Value), st + k = nN N → at' < nN N →
    (WP mLayH 3 7 [some (.ref 5), some (.ref 1), some (.int (nI l)), some (.int (nI dd)), some (.int v0), some (.int (nI at')), some (.int (nI st)), l7] [] c Q ↔ Q (some (bi (onF N l dd k at'))) c) := by
  have hN := h.1.1
  have h12 := hN.2.1
  have h24 := hN.2.2.1
  intro k
  induction k with
  | zero =>
    intro st at' l7 hst hat
    rw [w_X0_isHit_7]
    simp only [w_X0_isHit_9, w_X0_isHit_10, w_X0_isHit_13, w_X0_isHit_57, w_X0_isHit_58, h.1.2.1, true_or, or_true, true_and]
    rw [if_pos ((kLe (by omega) (by omega)).mpr (by omega))]
    exact Iff.rfl
  | succ k ih =>
    intro st at' l7 hst hat
    rw [w_X0_isHit_7]
    simp only [w_X0_isHit_9, w_X0_isHit_10, w_X0_isHit_13, w_X0_isHit_16, w_X0_isHit_17, w_X0_isHit_19, w_X0_isHit_20, w_X0_isHit_23, w_X0_isHit_25, w_X0_isHit_27, w_X0_isHit_28, w_X0_isHit_31, w_X0_isHit_32, w_X0_isHit_33, w_X0_isHit_34, w_X0_isHit_36, w_X0_isHit_38, w_X0_isHit_41, w_X0_isHit_42, w_X0_isHit_45, w_X0_isHit_46, w_X0_isHit_47, w_X0_isHit_49, w_X0_isHit_51, w_X0_isHit_54, w_X0_isHit_57, w_X0_isHit_58, h.1.2.1, C_hopN h hat hd, mKI_some, true_or, or_true, true_and, nI_1]
    rw [if_neg (fun q => by rw [kLe (by omega) (by omega)] at q; omega)]
    unfold onF
    cases hn : nx N none dd at' with
    | none => rw [en_none, if_neg (fun q => q rfl)]; exact Iff.rfl
    | some u =>
      have hu := (nx_some hn).1
      obtain ⟨l', hl', hlm⟩ := nx_lk hN hn
      rw [en_some, if_pos (fun q => (kNe (by omega)).mp q), C_link h.1 hat hu, mKI_some, hl', en_some]
      dsimp only
      by_cases e : l' = l
      · rw [if_neg (fun q => q (by rw [e])), decide_eq_true (by rw [hl', e]), Bool.true_or]; exact Iff.rfl
      · rw [if_pos (fun q => e ((kEq (by omega) (by omega)).mp q)), decide_eq_false (fun q => e (by rw [hl'] at q; exact Option.some.inj q)), Bool.false_or]
        exact ih (st + 1) u _ (by omega) hu
theorem C_isHit (h : CS c N wt wh) (hl : l < nM N) (hd : dd < nN N) (hv : v < nN N) : WP mLayH 3 0 [some (.ref 5), some (.ref 1), some (.int (nI l)), some (.int (nI dd)), some (.int (nI v)), none, none, none] [] c Q ↔ Q (some (bi (onW N l dd v))) c := by
  have hN := h.1.1
  have h12 := hN.2.1
  have hr := rk_n (N := N) (but := none) (d := dd) hv
  simp only [w_X0_isHit_0, w_X0_isHit_2, w_X0_isHit_4, w_X0_isHit_5]
  unfold onW
  rw [onF_st hN 12 (nN N) v hv (by omega) hr]
  exact isHit_loop h hl hd (nN N) 0 v none (by omega) hv
theorem hitN_loop (h : CS c N wt wh) (hl : l < nM N) (hd : dd < nN N) : ∀ (k j : Nat), j + k = nN N →
    (WP mLayH 2 6 [some (.ref 5), some (.ref 1), some (.int (nI l)), some (.int (nI dd)), some (.int (mkS (onW N l dd) j)), some (.int (nI j))] [] c Q ↔ Q (some (mkS (onW N l dd) (nN N))) c) := by
  have h12 := h.1.1.2.1
  intro k
  induction k with
  | zero =>
    intro j hj
    rw [w_X0_hitNodes_6]
    simp only [w_X0_hitNodes_8, w_X0_hitNodes_9, w_X0_hitNodes_12, w_X0_hitNodes_15, w_X0_hitNodes_16, w_X0_hitNodes_17, w_X0_hitNodes_18, w_X0_hitNodes_19, w_X0_hitNodes_21, w_X0_hitNodes_24, w_X0_hitNodes_27, w_X0_hitNodes_29, w_X0_hitNodes_30, w_X0_hitNodes_32, w_X0_hitNodes_33, w_X0_hitNodes_34, w_X0_hitNodes_36, w_X0_hitNodes_39, w_X0_hitNodes_42, w_X0_hitNodes_44, h.1.2.1]
    rw [if_pos ((kLe (by omega) (by omega)).mpr (by omega)), show j = nN N by omega]
  | succ k ih =>
    intro j hj
    have hjn : j < nN N := by omega
    rw [w_X0_hitNodes_6]
    simp only [w_X0_hitNodes_8, w_X0_hitNodes_9, w_X0_hitNodes_12, w_X0_hitNodes_15, w_X0_hitNodes_16, w_X0_hitNodes_17, w_X0_hitNodes_18, w_X0_hitNodes_19, w_X0_hitNodes_21, w_X0_hitNodes_24, w_X0_hitNodes_27, w_X0_hitNodes_29, w_X0_hitNodes_30, w_X0_hitNodes_32, w_X0_hitNodes_33, w_X0_hitNodes_34, w_X0_hitNodes_36, w_X0_hitNodes_39, w_X0_hitNodes_42, w_X0_hitNodes_44, h.1.2.1, C_isHit h hl hd hjn, mKI_some, nI_1]
    rw [if_neg (fun q => by rw [kLe (by omega) (by omega)] at q; omega), ← ih (j + 1) (by omega), mkS_o]
    cases onW N l dd j with
    | false => rw [if_pos bf0, oneN_f]
    | true => rw [if_neg bt1]; exact Iff.rfl
theorem C_hitN (h : CS c N wt wh) (hl : l < nM N) (hd : dd < nN N) : WP mLayH 2 0 [some (.ref 5), some (.ref 1), some (.int (nI l)), some (.int (nI dd)), none, none] [] c Q ↔ Q (some (mkS (onW N l dd) (nN N))) c := by
  simp only [w_X0_hitNodes_0, w_X0_hitNodes_1, w_X0_hitNodes_3, w_X0_hitNodes_4]
  exact hitN_loop h hl hd (nN N) 0 (by omega)
theorem D_hit (h : CI c N wt wh) (kk : ∀ c' : mS, CI c' N wt wh → Q (some (qHit N a b)) c') : WP mLayH 77 0 [some (.ref 0), some (.int a), some (.int b)] [] c Q := by
  have hN := h.1.1
  have h12 := hN.2.1
  have h24 := hN.2.2.1
  simp only [w_X6_hit_0, w_X6_hit_1, w_X6_hit_4, w_X6_hit_5, w_X6_hit_8, w_X6_hit_11, w_X6_hit_12, w_X6_hit_15, w_X6_hit_16, w_X6_hit_19, w_X6_hit_22, w_X6_hit_23, w_X6_hit_24, w_X6_hit_25, w_X6_hit_28, w_X6_hit_31, w_X6_hit_32, w_X6_hit_35, w_X6_hit_36, w_X6_hit_39, w_X6_hit_40, w_X6_hit_41, w_X6_hit_44, C_isLink h.1, C_isNode h.1, mKI_some]
  unfold qHit at kk
  cases hl : ix (nM N) a with
  | none => rw [hl] at kk; exact kk c h
  | some l =>
    rw [hl] at kk
    rw [if_neg bs1]
    cases hy : ix (nN N) b with
    | none => rw [hy] at kk; rw [if_neg (fun q => q rfl)]; exact kk c h
    | some y =>
      rw [hy] at kk
      obtain ⟨rfl, hlm⟩ := ix_some (by omega) hl
      obtain ⟨rfl, hyn⟩ := ix_some (by omega) hy
      rw [if_pos bs1]
      refine C_settle h (fun c1 h1 => ?_)
      rw [mKV_none, C_hitN h1 hlm hyn, mKI_some]
      exact kk c1 (CS_I h1)
theorem steps_loop (h : CS c N wt wh) (hd : dd < nN N) (hv : v < nN N) {u0 : Int32} : ∀ (k st : Nat) (o : Option Nat), st + k = nN N → (∀ u, o = some u → u < nN N) →
    (WP mLayH 6 6 [some (.ref 5), some (.ref 1), some (.int u0), some (.int (nI dd)), some (.int (nI v)), some (.int (en o)), some (.int (nI st))] [] c Q ↔ Q (some (en ((o.bind (stU N dd v k)).map (· + st)))) c) := by
  have hN := h.1.1
  have h12 := hN.2.1
  intro k
  induction k with
  | zero =>
    intro st o hst ho
    rw [w_X0_stepsUpTo_6]
    simp only [w_X0_stepsUpTo_8, w_X0_stepsUpTo_9, w_X0_stepsUpTo_12, w_X0_stepsUpTo_15, w_X0_stepsUpTo_17, w_X0_stepsUpTo_18, w_X0_stepsUpTo_21, w_X0_stepsUpTo_23, w_X0_stepsUpTo_25, w_X0_stepsUpTo_28, w_X0_stepsUpTo_30, w_X0_stepsUpTo_31, w_X0_stepsUpTo_32, w_X0_stepsUpTo_34, w_X0_stepsUpTo_35, w_X0_stepsUpTo_38, w_X0_stepsUpTo_40, w_X0_stepsUpTo_43, w_X0_stepsUpTo_46, w_X0_stepsUpTo_47, h.1.2.1]
    rw [if_pos ((kLe (by omega) (by omega)).mpr (by omega))]
    cases o <;> exact Iff.rfl
  | succ k ih =>
    intro st o hst ho
    rw [w_X0_stepsUpTo_6]
    simp only [w_X0_stepsUpTo_8, w_X0_stepsUpTo_9, w_X0_stepsUpTo_12, w_X0_stepsUpTo_15, w_X0_stepsUpTo_17, w_X0_stepsUpTo_18, w_X0_stepsUpTo_21, w_X0_stepsUpTo_23, w_X0_stepsUpTo_25, w_X0_stepsUpTo_28, w_X0_stepsUpTo_30, w_X0_stepsUpTo_31, w_X0_stepsUpTo_32, w_X0_stepsUpTo_34, w_X0_stepsUpTo_35, w_X0_stepsUpTo_38, w_X0_stepsUpTo_40, w_X0_stepsUpTo_43, w_X0_stepsUpTo_46, w_X0_stepsUpTo_47, h.1.2.1, nI_1]
    rw [if_neg (fun q => by rw [kLe (by omega) (by omega)] at q; omega)]
    cases o with
    | none => rw [en_none, if_pos rfl]; exact Iff.rfl
    | some u =>
      have hu := ho u rfl
      rw [en_some, if_neg (fun q => (kNe (by omega)).mp q)]
      show _ ↔ Q (some (en ((stU N dd v (k + 1) u).map (· + st)))) c
      unfold stU
      by_cases e : u = v
      · rw [if_neg (fun q => q (by rw [e])), if_pos e]
        show _ ↔ Q (some (nI (0 + st))) c
        rw [Nat.zero_add]
      · rw [if_pos (fun q => e ((kEq (by omega) (by omega)).mp q)), if_neg e, C_hopN h hu hd, mKI_some, ih (st + 1) (nx N none dd u) (by omega) (fun z hz => (nx_some hz).1)]
        cases hn : nx N none dd u with
        | none => exact Iff.rfl
        | some z =>
          dsimp only
          rw [Option.map_map]
          show Q (some (en ((stU N dd v k z).map (· + (st + 1))))) c ↔ _
          have : (fun x : Nat => x + (st + 1)) = ((fun x => x + st) ∘ fun x => x + 1) := by funext x; show x + (st + 1) = x + 1 + st; omega
          rw [this]
theorem C_steps {u : Nat} (h : CS c N wt wh) (hd : dd < nN N) (hv : v < nN N) (hu : u < nN N) : WP mLayH 6 0 [some (.ref 5), some (.ref 1), some (.int (nI u)), some (.int (nI dd)), some (.int (nI v)), none, none] [] c Q ↔ Q (some (en (stp N dd v u))) c := by
  have hN := h.1.1
  have h12 := hN.2.1
  have hr := rk_n (N := N) (but := none) (d := dd) hu
  simp only [w_X0_stepsUpTo_0, w_X0_stepsUpTo_1, w_X0_stepsUpTo_3, w_X0_stepsUpTo_4]
  have := steps_loop (Q := Q) (u0 := nI u) h hd hv (nN N) 0 (some u) (by omega) (fun z hz => by cases hz; exact hu)
  unfold stp
  rw [stU_st hN 12 (nN N) u hu (by omega) hr]
  have e : (fun x : Nat => x + 0) = id := by funext x; rfl
  rw [e, Option.map_id] at this
  exact this
end AF1
