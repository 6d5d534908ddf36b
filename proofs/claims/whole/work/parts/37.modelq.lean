/-! the reference's public methods, second part -/
/-- WAIT by a LINK: for one d, or (-1) the greatest for all -/
noncomputable def qHolds (N : Nt) (k a b : Int32) : Int32 := match ix (nM N) k with
  | some l => (match ix (nN N) b with
    | some v => if a = -1 then en (maxO (fun x => wtF N l x v) (nN N)) else (match ix (nN N) a with
      | some x => en (wtF N l x v)
      | none => -1)
    | none => -1)
  | none => -1
section MOQ
variable {d : mS} {N : Nt} {wt wh : Nat} {Q : Option Int32 → mS → Prop} {a b c : Int32}
theorem P_tunnel (hM : MI d N wt wh) (kk : ∀ d' : mS, MI d' N wt wh → Q (some (qTunnel N a b c)) d') : WP mLayM 132 0 [some (.ref 0), some (.int a), some (.int b), some (.int c), none] [] d Q := by
  have h12 := hM.1.2.1
  simp only [w_X7_tunnel_0, w_X7_tunnel_1, w_X7_tunnel_2, w_X7_tunnel_5, w_X7_tunnel_6, w_X7_tunnel_9, w_X7_tunnel_10, w_X7_tunnel_11, w_X7_tunnel_12, w_X7_tunnel_15, w_X7_tunnel_18, w_X7_tunnel_19, w_X7_tunnel_20, w_X7_tunnel_21, w_X7_tunnel_24, w_X7_tunnel_27, w_X7_tunnel_28, w_X7_tunnel_29, w_X7_tunnel_30, w_X7_tunnel_33, w_X7_tunnel_34, w_X7_tunnel_35, w_X7_tunnel_36, w_X7_tunnel_39, w_X7_tunnel_40, w_X7_tunnel_41, w_X7_tunnel_42, w_X7_tunnel_43, w_X7_tunnel_46, w_X7_tunnel_48, w_X7_tunnel_50, w_X7_tunnel_53, w_X7_tunnel_54, w_X7_tunnel_57, w_X7_tunnel_58, w_X7_tunnel_59, w_X7_tunnel_62, w_X7_tunnel_64, w_X7_tunnel_66, w_X7_tunnel_67, w_X7_tunnel_70, w_X7_tunnel_72, w_X7_tunnel_74, w_X7_tunnel_75]
  refine M_lays (MI_0 hM) (fun d1 h1 h2 h3 => ?_)
  rw [mKV_none]
  have h : MF d1 N wt wh := ⟨h1, h3⟩
  have kk := kk _ h1
  unfold qTunnel at kk
  rw [t_within, mKI_some, win (lo := 0) (hi := 2) (n := 2) rfl rfl (by omega)]
  cases hc : ix 3 c with
  | none =>
    rw [show (none : Option Nat).isSome = false from rfl, bi_f, if_pos rfl]
    rw [hc] at kk
    cases hw : wnx N a b with
    | none => rw [hw] at kk; exact kk
    | some q => rw [hw] at kk; exact kk
  | some w =>
    obtain ⟨rfl, hw4⟩ := ix_some (by omega) hc
    rw [hc] at kk
    rw [show (some w).isSome = true from rfl, bi_t, if_neg (by decide), F_isWithNext h, mKI_some]
    cases hw : wnx N a b with
    | none => rw [wnx_none hw, bi_f, if_neg (by decide)]; rw [hw] at kk; exact kk
    | some q =>
      obtain ⟨s, dd, e, l⟩ := q
      obtain ⟨hx, rfl, rfl, hb⟩ := wnx_some hM.1 hw
      rw [hw] at kk
      dsimp only at kk
      rw [hb, bi_t, if_pos (by decide)]
      have n12 : ¬ (12 : Int32) = 0 := by decide
      by_cases w0 : w = 0
      · rw [if_neg (fun q => q ((kq0 (by omega)).mpr w0)), F_meeting h hx, mKI_some]
        rw [if_pos w0] at kk
        exact kk
      · rw [if_pos (fun q => w0 ((kq0 (by omega)).mp q)), F_bridge h hx, mKI_some]
        rw [if_neg w0] at kk
        cases hbr : brE N s dd e (nC N l) with
        | none => rw [en_none, if_neg (by decide)]; rw [hbr] at kk; exact kk
        | some k =>
          rw [hbr] at kk
          have hk := (brP_ok (s := s) (dd := dd) (e := e) (c := nC N l) h12 (nN N) (Nat.le_refl _)).2 k hbr
          rw [en_some, if_pos (nI_pos' (by omega))]
          have ed : nI k / 12 = nI (k / 12) := pk_div (d := 12) (by omega) (by omega) (by omega)
          have er : nI k - nI k / 12 * 12 = nI (k % 12) := pk_rem (a := k) (d := 12) (by omega) (by omega) (by omega)
          by_cases w1 : w = 1
          · rw [if_neg (fun q => q ((kq1 (by omega)).mpr w1))]
            refine ⟨n12, ?_⟩
            rw [ed]
            simp only [Option.map_some, if_pos w1] at kk
            exact kk
          · rw [if_pos (fun q => w1 ((kq1 (by omega)).mp q))]
            refine ⟨n12, ?_⟩
            rw [er]
            simp only [Option.map_some, if_neg w1] at kk
            exact kk
theorem F_canSend (h : MI d N wt wh) (hD : Dok N wt wh) : WP mLayM 140 0 [some (.ref 0), some (.int a), some (.int b)] [] d Q ↔ Q (some (bi (csd N wt wh a b).isSome)) d := by
  have h12 := h.1.2.1
  obtain ⟨-, -, -, -, e7, e8⟩ := id h
  simp only [w_X7_canSend_0, w_X7_canSend_1, w_X7_canSend_2, w_X7_canSend_3, w_X7_canSend_6, w_X7_canSend_9, w_X7_canSend_10, w_X7_canSend_13, w_X7_canSend_14, w_X7_canSend_17, w_X7_canSend_18, w_X7_canSend_21, w_X7_canSend_22, w_X7_canSend_25, w_X7_canSend_26, w_X7_canSend_29, w_X7_canSend_30, w_X7_canSend_33, w_X7_canSend_34, w_X7_canSend_37, w_X7_canSend_38, M_isPair h, mKI_some, true_or, or_true, true_and, e7, e8]
  unfold csd two
  cases h1 : ix (nN N) a with
  | none => simp [bi]
  | some x =>
    cases h2 : ix (nN N) b with
    | none => simp [bi]
    | some y =>
      obtain ⟨rfl, hx⟩ := ix_some (by omega) h1
      obtain ⟨rfl, hy⟩ := ix_some (by omega) h2
      have d1 := hD.1
      have d2 := hD.2.1
      simp (disch := omega) only [kq2, kEq, Option.isSome_some, Bool.true_and, bi_0]
      by_cases c1 : x = y
      · simp [c1, bi]
      · by_cases c2 : wt = 2
        · by_cases c3 : wh = x
          · simp [c1, c2, c3, bi]
          · by_cases c4 : wh = y
            · simp [c1, c2, c4, bi]
            · simp [c1, c2, c3, c4, bi]
        · simp [c1, c2, bi]
theorem csd_some {x y : Nat} (hN : Nok N) (h : csd N wt wh a b = some (x, y)) : a = nI x ∧ b = nI y ∧ x < nN N ∧ y < nN N ∧ x ≠ y := by
  unfold csd at h
  cases ht : two N a b with
  | none => rw [ht] at h; cases h
  | some q =>
    obtain ⟨x', y'⟩ := q
    rw [ht] at h
    dsimp only at h
    split at h
    · cases h
    · rename_i hc
      cases h
      obtain ⟨a1, a2, a3, a4⟩ := two_some hN ht
      exact ⟨a1, a2, a3, a4, fun q => hc (Or.inl q)⟩
theorem P_send (hM : MI d N wt wh) (hD : Dok N wt wh) (kk : ∀ d' : mS, MI d' N wt wh → Q (some (qSend N wt wh a b c)) d') : WP mLayM 141 0 [some (.ref 0), some (.int a), some (.int b), some (.int c), none] [] d Q := by
  simp only [w_X7_send_0, w_X7_send_1, w_X7_send_2, w_X7_send_5, w_X7_send_6, w_X7_send_9, w_X7_send_10, w_X7_send_11, w_X7_send_12, w_X7_send_15, w_X7_send_18, w_X7_send_19, w_X7_send_20, w_X7_send_21, w_X7_send_24, w_X7_send_27, w_X7_send_28, w_X7_send_29, w_X7_send_30, w_X7_send_31, w_X7_send_32, w_X7_send_33, w_X7_send_36, w_X7_send_37, w_X7_send_40, w_X7_send_43, w_X7_send_45, w_X7_send_46, w_X7_send_49, w_X7_send_51, w_X7_send_54, w_X7_send_55, w_X7_send_56, w_X7_send_59, w_X7_send_60, w_X7_send_63, w_X7_send_66, w_X7_send_67, w_X7_send_68, w_X7_send_71, w_X7_send_72, w_X7_send_75, w_X7_send_78, w_X7_send_79, w_X7_send_82]
  refine M_lays (MI_0 hM) (fun d1 h1 h2 h3 => ?_)
  rw [mKV_none]
  have h : MF d1 N wt wh := ⟨h1, h3⟩
  unfold qSend at kk
  rw [t_within, mKI_some, win (lo := 0) (hi := 3) (n := 3) rfl rfl (by omega)]
  cases hc : ix 4 c with
  | none =>
    rw [show (none : Option Nat).isSome = false from rfl, bi_f, if_pos rfl]
    have kk := kk _ h1
    rw [hc] at kk
    cases hw : csd N wt wh a b with
    | none => rw [hw] at kk; exact kk
    | some q => rw [hw] at kk; exact kk
  | some w =>
    obtain ⟨rfl, hw4⟩ := ix_some (by omega) hc
    rw [hc] at kk
    rw [show (some w).isSome = true from rfl, bi_t, if_neg (by decide), F_canSend h1 hD, mKI_some]
    cases hw : csd N wt wh a b with
    | none => rw [show (none : Option (Nat × Nat)).isSome = false from rfl, bi_f, if_neg (by decide)]; rw [hw] at kk; exact kk _ h1
    | some q =>
      obtain ⟨x, y⟩ := q
      obtain ⟨rfl, rfl, hx, hy, hne⟩ := csd_some hM.1 hw
      rw [hw] at kk
      dsimp only at kk
      rw [show (some (x, y)).isSome = true from rfl, bi_t, if_pos (by decide)]
      rw [h1.2.2.2.2.1, h1.2.2.2.2.2]
      refine F_sends h hx hy hD.1 hD.2.1 (fun d2 s2 hp2 => ?_)
      have kk := kk d2 (MF_X h s2).1
      rw [mKI_some]
      simp (disch := omega) only [kq0, kq1, kq2]
      by_cases w0 : w = 0
      · rw [if_neg (fun q => q w0)]; rw [if_pos w0] at kk; exact kk
      rw [if_pos w0]; rw [if_neg w0] at kk
      by_cases w1 : w = 1
      · rw [if_neg (fun q => q w1), hp2.2.2.2.1]; rw [if_pos w1] at kk; exact kk
      rw [if_pos w1]; rw [if_neg w1] at kk
      by_cases w2 : w = 2
      · rw [if_neg (fun q => q w2), hp2.2.2.2.2.1]; rw [if_pos w2] at kk; exact kk
      · rw [if_pos w2, hp2.2.2.2.2.2.1]; rw [if_neg w2] at kk; exact kk
theorem psF_st (hN : Nok N) {dn : Nat → Bool} {g : Nat} (hg : g < nN N) : ∀ (k : Nat) (P : Pk), pIV N g P → pMs N g P < k → kSt (psF N dn g k P) ≤ 36 := by
  intro k
  induction k with
  | zero => intro P _ h; omega
  | succ k ih =>
    intro P hv hm
    have h36 := hv.2.2.1
    unfold psF
    split
    · cases hn : nx N none g (kAt P) with
      | none => show kSt P ≤ 36; omega
      | some u =>
        dsimp only
        split
        · split
          · rename_i hwh
            obtain ⟨l, hx⟩ := HX_of hv.1 hg hn
            rw [hx.2.2.2.2.1, Option.getD_some]
            obtain ⟨i1, i2⟩ := pIV_rp (dn := dn) hN hv hx hwh
            exact ih _ i1 (by omega)
          · show kSt P ≤ 36; omega
        · obtain ⟨i1, i2⟩ := pIV_go (dn := dn) hN hv hn
          by_cases hen : kEn (pgo N dn g P u) = none
          · exact ih _ i1 (by have := i2 hen; omega)
          · rw [psF_end hen]; have := i1.2.2.1; omega
    · omega
theorem psd_st (hN : Nok N) {dn : Nat → Bool} {x g : Nat} (hx : x < nN N) (hg : g < nN N) : kSt (psd N dn x g) ≤ 36 := by
  obtain ⟨i1, i2⟩ := pk0_IV (g := g) hN hx
  exact psF_st hN hg 40 _ i1 i2
theorem P_trace (hM : MI d N wt wh) (hD : Dok N wt wh) (kk : ∀ d' : mS, MI d' N wt wh → Q (some (qTrace N wt wh a b c)) d') : WP mLayM 142 0 [some (.ref 0), some (.int a), some (.int b), some (.int c), none] [] d Q := by
  simp only [w_X7_trace_0, w_X7_trace_1, w_X7_trace_2, w_X7_trace_5, w_X7_trace_6, w_X7_trace_9, w_X7_trace_10, w_X7_trace_13, w_X7_trace_14, w_X7_trace_15, w_X7_trace_16, w_X7_trace_19, w_X7_trace_22, w_X7_trace_23, w_X7_trace_24, w_X7_trace_25, w_X7_trace_26, w_X7_trace_27, w_X7_trace_28, w_X7_trace_31, w_X7_trace_32, w_X7_trace_35, w_X7_trace_38, w_X7_trace_40, w_X7_trace_41, w_X7_trace_42, w_X7_trace_45, w_X7_trace_48, w_X7_trace_49, w_X7_trace_52, w_X7_trace_53, w_X7_trace_54, w_X7_trace_57, w_X7_trace_58]
  refine M_lays (MI_0 hM) (fun d1 h1 h2 h3 => ?_)
  rw [mKV_none]
  have h : MF d1 N wt wh := ⟨h1, h3⟩
  unfold qTrace at kk
  by_cases hc : c < 0
  · rw [if_pos hc]
    have kk := kk _ h1
    cases hw : csd N wt wh a b with
    | none => rw [hw] at kk; exact kk
    | some q =>
      rw [hw] at kk
      dsimp only at kk
      rw [ix_neg hc] at kk
      exact kk
  · rw [if_neg hc, F_canSend h1 hD, mKI_some]
    cases hw : csd N wt wh a b with
    | none => rw [show (none : Option (Nat × Nat)).isSome = false from rfl, bi_f, if_neg (by decide)]; rw [hw] at kk; exact kk _ h1
    | some q =>
      obtain ⟨x, y⟩ := q
      obtain ⟨rfl, rfl, hx, hy, hne⟩ := csd_some hM.1 hw
      rw [hw] at kk
      dsimp only at kk
      rw [show (some (x, y)).isSome = true from rfl, bi_t, if_pos (by decide)]
      rw [h1.2.2.2.2.1, h1.2.2.2.2.2]
      refine F_sends h hx hy hD.1 hD.2.1 (fun d2 s2 hp2 => ?_)
      have kk := kk d2 (MF_X h s2).1
      have h36 := psd_st (dn := sdn N wt wh) hM.1 hx hy
      rw [mKI_some, hp2.2.2.2.1]
      rcases pk_ix c (show kSt (psd N (sdn N wt wh) x y) + 1 < 2 ^ 31 by omega) with q | q | ⟨j, hj, rfl⟩
      · exact absurd q hc
      · rw [ix_big q] at kk
        rw [if_pos (by
          have : nI (kSt (psd N (sdn N wt wh) x y)) < nI (kSt (psd N (sdn N wt wh) x y) + 1) := nI_lt (by omega) (by omega)
          exact Int32.lt_of_lt_of_le this q)]
        exact kk
      · rw [ix_nI (by omega) hj] at kk
        rw [if_neg (fun q => by rw [kLt (by omega) (by omega)] at q; omega)]
        refine ⟨(kIn (by omega)).mpr (by omega), ?_⟩
        rw [kCl (by omega), hp2.2.2.2.2.2.2.1 j (by omega)]
        exact kk
theorem lab_some {k : Int32} {l x y : Nat} (hN : Nok N) (h : lab N k a b = some (l, x, y)) : k = nI l ∧ a = nI x ∧ b = nI y ∧ l < nM N ∧ x < nN N ∧ y < nN N := by
  have h24 := hN.2.2.1
  unfold lab at h
  cases hk : ix (nM N) k with
  | none => rw [hk] at h; cases h
  | some l' =>
    rw [hk] at h
    dsimp only at h
    cases ht : two N a b with
    | none => rw [ht] at h; cases h
    | some q =>
      rw [ht] at h
      cases h
      obtain ⟨a1, a2, a3, a4⟩ := two_some hN ht
      obtain ⟨b1, b2⟩ := ix_some (by omega) hk
      exact ⟨b1, a1, a2, b2, a3, a4⟩
theorem lab_ite {k : Int32} {A B : Prop} : (if bi (ix (nM N) k).isSome = 0 then A else if bi (ix (nN N) a).isSome = 0 then A else if ¬ bi (ix (nN N) b).isSome = 0 then B else A) ↔ (if (lab N k a b).isSome then B else A) := by
  unfold lab two
  cases ix (nM N) k <;> cases ix (nN N) a <;> cases ix (nN N) b <;> simp [bi]
theorem P_behind {k : Int32} (hM : MI d N wt wh) (kk : ∀ d' : mS, MI d' N wt wh → Q (some (qBehind N k a b)) d') : WP mLayM 144 0 [some (.ref 0), some (.int k), some (.int a), some (.int b)] [] d Q := by
  have h12 := hM.1.2.1
  have h0 := MI_0 (v := 0) hM
  simp only [w_X7_behind_0, w_X7_behind_1, w_X7_behind_2, w_X7_behind_5, w_X7_behind_6, w_X7_behind_7, w_X7_behind_10, w_X7_behind_13, w_X7_behind_14, w_X7_behind_15, w_X7_behind_18, w_X7_behind_21, w_X7_behind_22, w_X7_behind_23, w_X7_behind_26, w_X7_behind_29, w_X7_behind_30, w_X7_behind_31, w_X7_behind_32, w_X7_behind_33, w_X7_behind_36, w_X7_behind_37, w_X7_behind_40, w_X7_behind_43, w_X7_behind_44, w_X7_behind_45, w_X7_behind_48, w_X7_behind_49, w_X7_behind_52, M_isLink h0, M_isNode h0, mKI_some]
  rw [lab_ite]
  unfold qBehind at kk
  cases hl : lab N k a b with
  | none => rw [hl] at kk; exact kk _ h0
  | some q =>
    obtain ⟨l, x, y⟩ := q
    obtain ⟨rfl, rfl, rfl, hlm, hx, hy⟩ := lab_some hM.1 hl
    rw [hl] at kk
    dsimp only at kk
    rw [if_pos (show (some (l, x, y)).isSome = true from rfl)]
    refine M_laysBoth hlm h0 (fun d1 h1 h2 h3 h4 => ?_)
    rw [mKV_none]
    rw [show (144 : Int32) = nI 144 from rfl, M_at, mKI_some]
    refine ⟨(kIn (by omega)).mpr (by omega), ?_⟩
    rw [kCl (by omega), h4 x y hx hy, M_orNone (gd_inf hM.1 hy hx), mKI_some]
    exact kk _ h1
theorem P_nextBehind {k : Int32} (hM : MI d N wt wh) (kk : ∀ d' : mS, MI d' N wt wh → Q (some (qNextBehind N k a b)) d') : WP mLayM 145 0 [some (.ref 0), some (.int k), some (.int a), some (.int b)] [] d Q := by
  have h24 := hM.1.2.2.1
  have h0 := MI_0 (v := 0) hM
  simp only [w_X7_nextBehind_0, w_X7_nextBehind_1, w_X7_nextBehind_2, w_X7_nextBehind_5, w_X7_nextBehind_6, w_X7_nextBehind_7, w_X7_nextBehind_10, w_X7_nextBehind_13, w_X7_nextBehind_14, w_X7_nextBehind_15, w_X7_nextBehind_18, w_X7_nextBehind_21, w_X7_nextBehind_22, w_X7_nextBehind_23, w_X7_nextBehind_26, w_X7_nextBehind_29, w_X7_nextBehind_30, w_X7_nextBehind_31, w_X7_nextBehind_32, w_X7_nextBehind_33, w_X7_nextBehind_36, w_X7_nextBehind_37, w_X7_nextBehind_40, w_X7_nextBehind_41, w_X7_nextBehind_42, w_X7_nextBehind_43, w_X7_nextBehind_46, M_isLink h0, M_isNode h0, mKI_some]
  rw [lab_ite]
  unfold qNextBehind at kk
  cases hl : lab N k a b with
  | none => rw [hl] at kk; exact kk _ h0
  | some q =>
    obtain ⟨l, x, y⟩ := q
    obtain ⟨rfl, rfl, rfl, hlm, hx, hy⟩ := lab_some hM.1 hl
    rw [hl] at kk
    dsimp only at kk
    rw [if_pos (show (some (l, x, y)).isSome = true from rfl)]
    refine M_laysBoth hlm h0 (fun d1 h1 h2 h3 h4 => ?_)
    rw [mKV_none]
    rw [show (144 : Int32) = nI 144 from rfl]
    have := fun Q => M_nextOf (Q := Q) (b := 144) (but := some l) (by omega) (fun q h => by cases h; omega) hx hy h1 h4
    rw [en_some] at this
    rw [this, mKI_some]
    exact kk _ h1
theorem P_hit {k : Int32} (hM : MI d N wt wh) (kk : ∀ d' : mS, MI d' N wt wh → Q (some (qHit N k a)) d') : WP mLayM 147 0 [some (.ref 0), some (.int k), some (.int a)] [] d Q := by
  have h12 := hM.1.2.1
  have h24 := hM.1.2.2.1
  simp only [w_X7_hit_0, w_X7_hit_1, w_X7_hit_2, w_X7_hit_5, w_X7_hit_6, w_X7_hit_9, w_X7_hit_10, w_X7_hit_11, w_X7_hit_14, w_X7_hit_17, w_X7_hit_18, w_X7_hit_19, w_X7_hit_22, w_X7_hit_25, w_X7_hit_26, w_X7_hit_27, w_X7_hit_28, w_X7_hit_31, w_X7_hit_34, w_X7_hit_35]
  refine M_lays (MI_0 hM) (fun d1 h1 h2 h3 => ?_)
  rw [mKV_none]
  have h : MF d1 N wt wh := ⟨h1, h3⟩
  have kk := kk _ h1
  unfold qHit at kk
  rw [M_isLink h1, mKI_some]
  cases e1 : ix (nM N) k with
  | none => rw [e1] at kk; rw [show (none : Option Nat).isSome = false from rfl, bi_f, if_pos rfl]; exact kk
  | some l =>
    obtain ⟨rfl, hl⟩ := ix_some (by omega) e1
    rw [e1] at kk
    rw [show (some l).isSome = true from rfl, bi_t, if_neg (by decide), M_isNode h1, mKI_some]
    cases e2 : ix (nN N) a with
    | none => rw [e2] at kk; rw [show (none : Option Nat).isSome = false from rfl, bi_f, if_pos rfl]; exact kk
    | some y =>
      obtain ⟨rfl, hy⟩ := ix_some (by omega) e2
      rw [e2] at kk
      rw [show (some y).isSome = true from rfl, bi_t, if_neg (by decide), F_hitBy h hl hy, mKI_some]
      exact kk
end MOQ
