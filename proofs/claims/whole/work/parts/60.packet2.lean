/-! the class: REPAIR of a PACKET, travel -/
section PK2
variable {c : mS} {N : Nt} {wt wh : Nat} {Q : Option Int32 → mS → Prop} {dn : Nat → Bool} {g : Nat} {P : Pk}
theorem upTo_loop {x : Nat} (hx : x < nN N) (hg : g < nN N) : ∀ (k t : Nat) (c : mS) (P : Pk), t + k = 40 → CS c N wt wh → PK c N dn g P → kAt P < nN N → (kEn P = none → kSt P + rk N none x (kAt P) ≤ 38) → (∀ c' : mS, scp c c' → PK c' N dn g (pwk N dn g x k P) → Q none c') →
    WP mLayH 44 19 [some (.ref 4), some (.ref 1), some (.ref 3), some (.int (nI x)), some (.int (nI t))] [] c Q := by
  intro k
  induction k with
  | zero =>
    intro t c P ht h hp hat hs kk
    rw [w_X4_goUpTo_19]
    simp only [w_X4_goUpTo_21, w_X4_goUpTo_23, w_X4_goUpTo_26, w_X4_goUpTo_27, w_X4_goUpTo_30, w_X4_goUpTo_31, w_X4_goUpTo_34, w_X4_goUpTo_35, w_X4_goUpTo_38, w_X4_goUpTo_39, w_X4_goUpTo_42, w_X4_goUpTo_43, w_X4_goUpTo_44, w_X4_goUpTo_45, w_X4_goUpTo_46, w_X4_goUpTo_49, w_X4_goUpTo_50, w_X4_goUpTo_53, w_X4_goUpTo_56, w_X4_goUpTo_59, w_X4_goUpTo_62]
    rw [show (40 : Int32) = nI 40 from rfl, if_pos ((kLe (by omega) (by omega)).mpr (by omega))]
    exact kk c scp_rf hp
  | succ k ih =>
    intro t c P ht h hp hat hs kk
    have hN := h.1.1
    have h12 := hN.2.1
    rw [w_X4_goUpTo_19]
    simp only [w_X4_goUpTo_21, w_X4_goUpTo_23, w_X4_goUpTo_26, w_X4_goUpTo_27, w_X4_goUpTo_30, w_X4_goUpTo_31, w_X4_goUpTo_34, w_X4_goUpTo_35, w_X4_goUpTo_38, w_X4_goUpTo_39, w_X4_goUpTo_42, w_X4_goUpTo_43, w_X4_goUpTo_44, w_X4_goUpTo_45, w_X4_goUpTo_46, w_X4_goUpTo_49, w_X4_goUpTo_50, w_X4_goUpTo_53, w_X4_goUpTo_56, w_X4_goUpTo_59, w_X4_goUpTo_62, hp.1, hp.2.2.2.2.1]
    rw [show (40 : Int32) = nI 40 from rfl, if_neg (fun q => by rw [kLe (by omega) (by omega)] at q; omega), nI_1]
    unfold pwk at kk
    by_cases e1 : kEn P = none
    · rw [if_neg (fun q => q ((en_m1 (fun k hk => by have := hp.2.2.2.2.2.2.2.2 k hk; omega)).mpr e1))]
      by_cases e2 : kAt P = x
      · rw [if_pos (by rw [e2])]
        rw [if_neg (fun q => q.2 e2)] at kk
        exact kk c scp_rf hp
      · rw [if_neg (fun q => e2 ((kEq (by omega) (by omega)).mp q)), C_hopN h hat hx, mKI_some]
        rw [if_pos ⟨e1, e2⟩] at kk
        have hst := hs e1
        refine C_go h hp e1 hat hg (fun u hu => (nx_some hu).1) (by omega) (fun c1 b1 b2 => ?_)
        rw [mKV_none]
        have h1 : CS c1 N wt wh := CS_scr h (scp_scr b1)
        cases hn : nx N none x (kAt P) with
        | none =>
          rw [hn] at b2 kk
          refine ih (t + 1) c1 (kLost P) (by omega) h1 b2 hat (fun q => by cases q) (fun c2 d1 d2 => kk c2 (scp_tr b1 d1) ?_)
          rw [pwk_end (P := kLost P) (fun q => by cases q)] at d2
          exact d2
        | some u =>
          rw [hn] at b2 kk
          have hr := nx_rk hN hn
          refine ih (t + 1) c1 (pgo N dn g P u) (by omega) h1 b2 (pgo_at hat (nx_some hn).1) (fun q => ?_) (fun c2 d1 d2 => kk c2 (scp_tr b1 d1) d2)
          obtain ⟨a1, a2, -⟩ := pgo_un q
          rw [a1, a2]; omega
    · rw [if_pos (fun q => e1 ((en_m1 (fun k hk => by have := hp.2.2.2.2.2.2.2.2 k hk; omega)).mp q))]
      rw [if_neg (fun q => e1 q.1)] at kk
      exact kk c scp_rf hp
theorem C_upTo {s e l x : Nat} (h : CS c N wt wh) (hp : PK c N dn g P) (hH : HX N s g e l) (hP : PL c N s g e l) (ht : c 3 11 = nI x) (hx : x < nN N) (hrc : rcE N s e (nC N l) x = true) (hat : kAt P = s) (hs : kSt P ≤ 12) (hen : kEn P = none)
    (kk : ∀ c' : mS, scp c c' → PK c' N dn g (ptn N dn g s e (nC N l) x P) → Q none c') : WP mLayH 44 0 [some (.ref 4), some (.ref 1), some (.ref 3), none, none] [] c Q := by
  have hN := h.1.1
  have h12 := hN.2.1
  have hg := hH.2.1
  obtain ⟨r1, r2, r3⟩ := rc_tun hN hH.1 hx hrc
  have hats : kAt P < nN N := by rw [hat]; exact hH.1
  simp only [w_X4_goUpTo_0, w_X4_goUpTo_1, w_X4_goUpTo_4, w_X4_goUpTo_5, w_X4_goUpTo_6, w_X4_goUpTo_7, w_X4_goUpTo_8, w_X4_goUpTo_9, w_X4_goUpTo_10, w_X4_goUpTo_13, w_X4_goUpTo_16, w_X4_goUpTo_17, ht]
  rw [C_first h hH hP hx, mKI_some]
  have hrn : ∀ v, v < nN N → rk N none x v < 12 := fun v hv => by have := rk_n (N := N) (but := none) (d := x) hv; omega
  unfold ptn at kk
  by_cases hr : rbE N s e (nC N l) s x = true
  · rw [if_pos hr] at kk ⊢
    refine C_go h hp hen hats hg (fun u hu => (nx_some hu).1) (by omega) (fun c1 b1 b2 => ?_)
    rw [mKV_none]
    have h1 : CS c1 N wt wh := CS_scr h (scp_scr b1)
    have e12 : pwk N dn g x 12 P = (match nx N none x s with
      | none => kLost P
      | some u => pwk N dn g x 11 (pgo N dn g P u)) := by
      show (if kEn P = none ∧ kAt P ≠ x then _ else _) = _
      rw [if_pos ⟨hen, by rw [hat]; exact fun q => r1 q.symm⟩, hat]
      cases nx N none x s <;> rfl
    rw [e12] at kk
    cases hn : nx N none x s with
    | none =>
      rw [hn] at b2 kk
      refine upTo_loop hx hg 40 0 c1 (kLost P) (by omega) h1 b2 hats (fun q => by cases q) (fun c2 d1 d2 => kk c2 (scp_tr b1 d1) ?_)
      rw [pwk_end (P := kLost P) (fun q => by cases q)] at d2
      exact d2
    | some u =>
      rw [hn] at b2 kk
      have hu := (nx_some hn).1
      have hru := hrn s hH.1
      have hrr := nx_rk hN hn
      refine upTo_loop hx hg 40 0 c1 (pgo N dn g P u) (by omega) h1 b2 (pgo_at hats hu) (fun q => ?_) (fun c2 d1 d2 => kk c2 (scp_tr b1 d1) ?_)
      · obtain ⟨a1, a2, -⟩ := pgo_un q
        rw [a1, a2]; omega
      · dsimp only
        by_cases q : kEn (pgo N dn g P u) = none
        · obtain ⟨a1, a2, -⟩ := pgo_un q
          rw [pwk_st hN 11 40 _ (by rw [a1]; exact hu) (by rw [a1]; omega) (by rw [a1]; omega)]
          exact d2
        · rw [pwk_end q]; rw [pwk_end q] at d2; exact d2
  · rw [if_neg hr] at kk ⊢
    obtain ⟨u, l2, hf, hu, -, -⟩ := r3 hr
    rw [hf] at kk ⊢
    refine C_go h hp hen hats hg (fun v hv => by cases hv; exact hu) (by omega) (fun c1 b1 b2 => ?_)
    rw [mKV_none]
    have h1 : CS c1 N wt wh := CS_scr h (scp_scr b1)
    have hru := hrn u hu
    refine upTo_loop hx hg 40 0 c1 (pgo N dn g P u) (by omega) h1 b2 (pgo_at hats hu) (fun q => ?_) (fun c2 d1 d2 => kk c2 (scp_tr b1 d1) ?_)
    · obtain ⟨a1, a2, -⟩ := pgo_un q
      rw [a1, a2]; omega
    · dsimp only
      by_cases q : kEn (pgo N dn g P u) = none
      · obtain ⟨a1, a2, -⟩ := pgo_un q
        rw [pwk_st hN 12 40 _ (by rw [a1]; exact hu) (by rw [a1]; omega) (by rw [a1]; omega)]
        exact d2
      · rw [pwk_end q]; rw [pwk_end q] at d2; exact d2
theorem wnx_of {s e l : Nat} (hN : Nok N) (hH : HX N s g e l) : wnx N (nI s) (nI g) = some (s, g, e, l) := by
  unfold wnx
  rw [two_nI hN hH.1 hH.2.1]
  dsimp only
  rw [hH.2.2.2.1]
  dsimp only
  rw [hH.2.2.2.2.1]
  rfl
theorem PK_scp3 {c' : mS} (hp : PK c N dn g P) (hb : but1 3 c c') : PK c' N dn g P := by
  unfold PK
  rw [hb 4 (by decide), hb 14 (by decide)]
  exact hp
theorem C_turn {e l : Nat} (h : CS c N wt wh) (hp : PK c N dn g P) (hH : HX N (kAt P) g e l) (hs : kSt P ≤ 11) (hen : kEn P = none)
    (kk : ∀ c' : mS, scr c c' → PK c' N dn g (prp N dn g e (nC N l) P) → Q none c') : WP mLayH 43 0 [some (.ref 4), some (.ref 1), some (.ref 3), none] [] c Q := by
  have hN := h.1.1
  have h12 := hN.2.1
  have hat := hH.1
  have hg := hH.2.1
  obtain ⟨p1, p2, p3, p4, p5, p6, p7, p8, p9⟩ := hp
  simp (disch := decide) only [w_X4_turnAside_0, w_X4_turnAside_1, w_X4_turnAside_2, w_X4_turnAside_5, w_X4_turnAside_8, w_X4_turnAside_9, w_X4_turnAside_10, w_X4_turnAside_11, w_X4_turnAside_14, w_X4_turnAside_15, w_X4_turnAside_18, w_X4_turnAside_21, w_X4_turnAside_24, w_X4_turnAside_25, w_X4_turnAside_26, w_X4_turnAside_29, w_X4_turnAside_32, w_X4_turnAside_33, w_X4_turnAside_34, w_X4_turnAside_35, p5, mUp_j, p6]
  have h1 : CS (mUp c 4 3 (nI (kAt P))) N wt wh := CS_scr h (scr_but but1_up (by omega))
  have q1 : PK (mUp c 4 3 (nI (kAt P))) N dn g (kAt P, kEn P, kSt P, some (kAt P), kSp P, kTr P) := by
    refine ⟨?_, ?_, ?_, ?_, ?_, ?_, ?_, fun i hi => ?_, p9⟩
    · rw [mUp_j (by decide)]; exact p1
    · rw [mUp_j (by decide)]; exact p2
    · rw [mUp_j (by decide)]; exact p3
    · rw [mUp_s]; rfl
    · rw [mUp_j (by decide)]; exact p5
    · rw [mUp_j (by decide)]; exact p6
    · rw [mUp_j (by decide)]; exact p7
    · rw [mUp_k (by decide)]; exact p8 i hi
  have s1 : scr c (mUp c 4 3 (nI (kAt P))) := scr_but but1_up (by omega)
  refine C_aim h1 (fun q => by rw [wnx_of hN hH] at q; cases q) ?_
  intro s' dd' e' l' c2 hw _ _ _ b2 hP2
  rw [wnx_of hN hH] at hw
  cases hw
  rw [mKI_some, if_neg (by decide)]
  have h2 : CS c2 N wt wh := CS_scr h1 (scr_but b2 (by omega))
  refine C_choose h2 hH hP2 (fun c3 b3 h3 hP3 ht hB => ?_)
  rw [mKI_some]
  have q3 := PK_scp3 (PK_scp3 q1 b2) b3
  have s3 : scr c c3 := scr_tr s1 (scr_tr (scr_but b2 (by omega)) (scr_but b3 (by omega)))
  unfold prp at kk
  dsimp only at kk
  cases ha : altF N (kAt P) g with
  | some u =>
    rw [ha] at kk
    have hr : rpE N (kAt P) g e (nC N l) = 1 := by unfold rpE; rw [ha]; rfl
    replace ht : c3 3 11 = en (some u) := by rw [ht]; unfold tgE; rw [ha]; rfl
    rw [hr, if_pos (show nI 1 = 1 from rfl)]
    simp only [w_X4_turnAside_60, w_X4_turnAside_61, w_X4_turnAside_62, w_X4_turnAside_63, w_X4_turnAside_66, w_X4_turnAside_69, w_X4_turnAside_112, ht]
    exact C_go h3 q3 hen hat hg (fun v hv => by cases hv; exact (alt_lk ha).1) (show kSt P ≤ 38 by omega) (fun c4 b4 q4 => by rw [mKV_none]; exact kk c4 (scr_tr s3 (scp_scr b4)) q4)
  | none =>
    rw [ha] at kk
    cases hm : meE N (kAt P) g e (nC N l) with
    | some x =>
      rw [hm] at kk
      have hr : rpE N (kAt P) g e (nC N l) = 2 := by unfold rpE; rw [ha, hm]; rfl
      replace ht : c3 3 11 = nI x := by rw [ht]; unfold tgE; rw [ha, hm]; rfl
      rw [hr, if_neg (show ¬ nI 2 = 1 by decide), if_pos (show nI 2 = 2 from rfl)]
      simp only [w_X4_turnAside_72, w_X4_turnAside_73, w_X4_turnAside_74, w_X4_turnAside_75, w_X4_turnAside_78, w_X4_turnAside_112]
      obtain ⟨hx, hpx⟩ := bestF_some hm
      rw [Bool.and_eq_true] at hpx
      exact C_upTo h3 q3 hH hP3 ht hx hpx.1 rfl (show kSt P ≤ 12 by omega) hen (fun c4 b4 q4 => by rw [mKV_none]; exact kk c4 (scr_tr s3 (scp_scr b4)) q4)
    | none =>
      rw [hm] at kk
      have hb := hB ha hm
      cases hbr : brE N (kAt P) g e (nC N l) with
      | none =>
        rw [hbr] at kk
        have hr : rpE N (kAt P) g e (nC N l) = 0 := by unfold rpE; rw [ha, hm, hbr]; rfl
        rw [hr, if_neg (show ¬ nI 0 = 1 by decide), if_neg (show ¬ nI 0 = 2 by decide), if_neg (show ¬ nI 0 = 3 by decide)]
        simp only [w_X4_turnAside_107, w_X4_turnAside_108, w_X4_turnAside_109, w_X4_turnAside_112]
        exact kk _ (scr_tr s3 (scr_but but1_up (by omega))) (PK_up0 (v := 1) q3 (by decide))
      | some w =>
        rw [hbr] at kk
        have hr : rpE N (kAt P) g e (nC N l) = 3 := by unfold rpE; rw [ha, hm, hbr]; rfl
        replace ht : c3 3 11 = nI (w / 12) := by rw [ht]; unfold tgE; rw [ha, hm, hbr]; rfl
        have hbr' : (brP N (kAt P) g e (nC N l) (nN N)).1 = some w := hbr
        obtain ⟨-, hw⟩ := brP_ok (N := N) (s := kAt P) (dd := g) (e := e) (c := nC N l) h12 (nN N) (Nat.le_refl _)
        obtain ⟨-, w1, w2⟩ := hw w hbr'
        obtain ⟨-, hrc⟩ := brP_lk (N := N) (nN N) (Nat.le_refl _) w hbr' h12
        have hb2 := hb.2.1
        rw [hbr'] at hb2
        rw [hr, if_neg (show ¬ nI 3 = 1 by decide), if_neg (show ¬ nI 3 = 2 by decide), if_pos (show nI 3 = 3 from rfl)]
        simp only [w_X4_turnAside_81, w_X4_turnAside_82, w_X4_turnAside_83, w_X4_turnAside_84, w_X4_turnAside_87, w_X4_turnAside_88, w_X4_turnAside_91, w_X4_turnAside_92, w_X4_turnAside_95, w_X4_turnAside_96, w_X4_turnAside_97, w_X4_turnAside_98, w_X4_turnAside_101, w_X4_turnAside_104, w_X4_turnAside_112]
        refine C_upTo h3 q3 hH hP3 ht w1 hrc rfl (show kSt P ≤ 12 by omega) hen (fun c4 b4 q4 => ?_)
        rw [mKV_none, q4.1]
        have h4 : CS c4 N wt wh := CS_scr h3 (scp_scr b4)
        have e13 : c4 3 13 = nI (w % 12) := by rw [b4 3 (by decide) (by decide)]; exact hb2
        obtain ⟨o1, o2, o3, o4⟩ := ptn_ok (dn := dn) (g := g) hN hat w1 hrc (P := (kAt P, kEn P, kSt P, some (kAt P), kSp P, kTr P)) rfl
        have o3' : kSt (ptn N dn g (kAt P) e (nC N l) (w / 12) (kAt P, kEn P, kSt P, some (kAt P), kSp P, kTr P)) ≤ kSt P + 12 := o3
        dsimp only at kk
        by_cases z : kEn (ptn N dn g (kAt P) e (nC N l) (w / 12) (kAt P, kEn P, kSt P, some (kAt P), kSp P, kTr P)) = none
        · rw [if_pos z] at kk
          rw [if_neg (fun q => q ((en_m1 (fun k hk => by have := q4.2.2.2.2.2.2.2.2 k hk; omega)).mpr z)), e13]
          exact C_go h4 q4 z o1 hg (o := some (w % 12)) (fun v hv => by cases hv; exact w2) (by omega) (fun c5 b5 q5 => by rw [mKV_none]; exact kk c5 (scr_tr s3 (scr_tr (scp_scr b4) (scp_scr b5))) q5)
        · rw [if_neg z] at kk
          rw [if_pos (fun q => z ((en_m1 (fun k hk => by have := q4.2.2.2.2.2.2.2.2 k hk; omega)).mp q))]
          exact kk c4 (scr_tr s3 (scp_scr b4)) q4
end PK2
