/-! the reference: tunnels, repairs, sends -/
section PK2
variable {N : Nt} {dn : Nat → Bool} {g : Nat}
theorem pwk_ok (hN : Nok N) {x : Nat} (hx : x < nN N) : ∀ (k : Nat) (P : Pk), kAt P < nN N → fr N (kAt P) x < INF → rk N none x (kAt P) < k → kAt (pwk N dn g x k P) < nN N ∧ kWh (pwk N dn g x k P) = kWh P ∧ kSt (pwk N dn g x k P) ≤ kSt P + rk N none x (kAt P) ∧ (kEn (pwk N dn g x k P) = none → kAt (pwk N dn g x k P) = x) := by
  intro k
  induction k with
  | zero => intro P _ _ h; omega
  | succ k ih =>
    intro P hat hc hr
    unfold pwk
    split
    · rename_i hh
      cases hn : nx N none x (kAt P) with
      | none =>
        rcases (nx_none hN hx hat).mp hn with q | q
        · exact absurd q hh.2
        · have : fr N (kAt P) x = INF := q
          omega
      | some u =>
        dsimp only
        have hu := (nx_some hn).1
        have hrk := nx_rk hN hn
        have hgd := nx_gd hN hn
        have hst := pgo_st (N := N) (dn := dn) (g := g) (P := P) (u := u)
        by_cases hen : kEn (pgo N dn g P u) = none
        · obtain ⟨a1, a2, a3⟩ := pgo_un hen
          have := ih (pgo N dn g P u) (by rw [a1]; exact hu) (by rw [a1]; show gd N none x u < INF; have : gd N none x (kAt P) < INF := hc; omega) (by rw [a1]; omega)
          rw [pgo_wh, a1, a2] at this
          refine ⟨this.1, this.2.1, by omega, this.2.2.2⟩
        · rw [pwk_end hen]
          exact ⟨pgo_at hat hu, pgo_wh, by omega, fun q => absurd q hen⟩
    · rename_i hh
      refine ⟨hat, rfl, by omega, fun q => ?_⟩
      apply Classical.byContradiction
      intro hne
      exact hh ⟨q, hne⟩
/-- x is in REACH of s: what the tunnel needs -/
theorem rc_tun (hN : Nok N) {s e c x : Nat} (hs : s < nN N) (hx : x < nN N) (h : rcE N s e c x = true) : x ≠ s ∧ (rbE N s e c s x = true → fr N s x < INF) ∧ (¬ rbE N s e c s x = true → ∃ u l, fstI (nbP N s e c x) (nN N) = some u ∧ u < nN N ∧ lk N s u = some l ∧ fr N u x < INF) := by
  have key : ∀ u, rbE N s e c u x = true → x ≠ s ∧ fr N u x < INF := by
    intro u hu
    simp only [rbE, decide_eq_true_eq] at hu
    exact ⟨hu.1, Nat.lt_of_lt_of_le hu.2.1 smn_le⟩
  unfold rcE at h
  rw [Bool.or_eq_true] at h
  refine ⟨?_, fun q => (key s q).2, fun q => ?_⟩
  · rcases h with h | h
    · exact (key s h).1
    · obtain ⟨u, hu, hp⟩ := anyB_iff.mp h
      simp only [nbP, Bool.and_eq_true] at hp
      exact (key u hp.2).1
  · rcases h with h | h
    · exact absurd h q
    · obtain ⟨u0, hu0, hp0⟩ := anyB_iff.mp h
      cases hf : fstI (nbP N s e c x) (nN N) with
      | none => rw [fstI_none.mp hf u0 hu0] at hp0; cases hp0
      | some u =>
        obtain ⟨h1, h2, -⟩ := fstI_some hf
        simp only [nbP, Bool.and_eq_true] at h2
        obtain ⟨l, hl⟩ := Option.isSome_iff_exists.mp h2.1.2
        exact ⟨u, l, rfl, h1, hl, (key u h2.2).2⟩
theorem ptn_ok (hN : Nok N) {s e c x : Nat} (hs : s < nN N) (hx : x < nN N) (h : rcE N s e c x = true) {P : Pk} (hat : kAt P = s) : kAt (ptn N dn g s e c x P) < nN N ∧ kWh (ptn N dn g s e c x P) = kWh P ∧ kSt (ptn N dn g s e c x P) ≤ kSt P + 12 ∧ (kEn (ptn N dn g s e c x P) = none → kAt (ptn N dn g s e c x P) = x) := by
  obtain ⟨-, h2, h3⟩ := rc_tun hN hs hx h
  have h12 := hN.2.1
  unfold ptn
  by_cases hb : rbE N s e c s x = true
  · rw [if_pos hb]
    have hr := rk_n (N := N) (but := none) (d := x) hs
    have := pwk_ok (dn := dn) (g := g) hN hx 12 P (by rw [hat]; exact hs) (by rw [hat]; exact h2 hb) (by rw [hat]; omega)
    rw [hat] at this
    refine ⟨this.1, this.2.1, by omega, this.2.2.2⟩
  · rw [if_neg hb]
    obtain ⟨u, l, hf, hu, hl, hc⟩ := h3 hb
    rw [hf]
    dsimp only
    have hr := rk_n (N := N) (but := none) (d := x) hu
    have hst := pgo_st (N := N) (dn := dn) (g := g) (P := P) (u := u)
    by_cases hen : kEn (pgo N dn g P u) = none
    · obtain ⟨a1, a2, a3⟩ := pgo_un hen
      have := pwk_ok (dn := dn) (g := g) hN hx 12 (pgo N dn g P u) (by rw [a1]; exact hu) (by rw [a1]; exact hc) (by rw [a1]; omega)
      rw [pgo_wh, a1, a2] at this
      exact ⟨this.1, this.2.1, by omega, this.2.2.2⟩
    · rw [pwk_end hen]
      exact ⟨pgo_at (by rw [hat]; exact hs) hu, pgo_wh, by omega, fun q => absurd q hen⟩
end PK2
section MO9
variable {d : mS} {N : Nt} {wt wh g w wx : Nat} {Q : Option Int32 → mS → Prop} {P : Pk} {s e l : Nat}
theorem F_tunnels {x : Nat} (h : MF d N wt wh) (hp : PR d P g) (hx : HX N s g e l) (hx2 : x < nN N) (hrc : rcE N s e (nC N l) x = true) (hat : kAt P = s) (hs : kSt P ≤ 12) (hen0 : kEn P = none) (hw : w ≤ 3) (hh : wx < 32)
    (kk : ∀ d' : mS, sameX d d' → PR d' (ptn N (sdn N w wx) g s e (nC N l) x P) g → Q none d') : WP mLayM 137 0 [some (.ref 0), some (.int (nI s)), some (.int (nI x)), some (.int (nI w)), some (.int (nI wx))] [] d Q := by
  have hN := h.1.1
  have h12 := hN.2.1
  have hss := hx.1
  have hg := hx.2.1
  obtain ⟨-, t2, t3⟩ := rc_tun hN hss hx2 hrc
  obtain ⟨p1, p2, p3, p4, p5, p6, p7, p8⟩ := id hp
  simp only [w_X7_tunnels_0, w_X7_tunnels_1, w_X7_tunnels_2, w_X7_tunnels_3, w_X7_tunnels_6, w_X7_tunnels_7, w_X7_tunnels_10, w_X7_tunnels_11, w_X7_tunnels_12, w_X7_tunnels_13, w_X7_tunnels_14, w_X7_tunnels_17, w_X7_tunnels_18, w_X7_tunnels_19, w_X7_tunnels_20, w_X7_tunnels_21, w_X7_tunnels_24, w_X7_tunnels_25, w_X7_tunnels_28, w_X7_tunnels_29, w_X7_tunnels_31, w_X7_tunnels_35, w_X7_tunnels_38, w_X7_tunnels_41, w_X7_tunnels_42, w_X7_tunnels_45, w_X7_tunnels_46, w_X7_tunnels_49, w_X7_tunnels_50, w_X7_tunnels_51, w_X7_tunnels_52, w_X7_tunnels_53, w_X7_tunnels_56, w_X7_tunnels_57, w_X7_tunnels_58, w_X7_tunnels_61, w_X7_tunnels_62, w_X7_tunnels_64, w_X7_tunnels_67, w_X7_tunnels_70, p2]
  rw [F_reachedBy h hx hss, mKI_some, mk_ask (by omega) hx2]
  unfold ptn at kk
  by_cases hb : rbE N s e (nC N l) s x = true
  · rw [hb, bi_t, if_pos (by decide)]
    rw [if_pos hb] at kk
    have hr := rk_n (N := N) (but := none) (d := x) hss
    exact F_tun_loop hx2 hg hw hh 12 d P h hp (by rw [hat]; exact hss) (by rw [hat]; exact t2 hb) (by rw [hat]; omega) (by rw [hat]; omega) kk
  · rw [Bool.not_eq_true] at hb
    rw [hb, bi_f, if_neg (by decide)]
    rw [if_neg (by rw [hb]; decide)] at kk
    obtain ⟨u, q, hf, hu, hl, hc⟩ := t3 (by rw [hb]; decide)
    rw [hf] at kk
    dsimp only at kk
    rw [p2, F_lowest h hx hx2, mKI_some, hf, en_some]
    refine F_moves h hp (by rw [hat]; exact hl) (by rw [hat]; exact hss) hu hg (by omega) hw hh (fun d1 s1 hp1 => ?_)
    have hr := rk_n (N := N) (but := none) (d := x) hu
    have hst := pgo_st (N := N) (dn := sdn N w wx) (g := g) (P := P) (u := u)
    rw [mKV_none]
    by_cases hen : kEn (pgo N (sdn N w wx) g P u) = none
    · obtain ⟨a1, a2, a3⟩ := pgo_un hen
      exact F_tun_loop hx2 hg hw hh 12 d1 _ (MF_X h s1) hp1 (by rw [a1]; exact hu) (by rw [a1]; exact hc) (by rw [a1]; omega) (by rw [a1, a2]; omega) (fun d2 s2 hp2 => kk d2 (sameX_tr s1 s2) hp2)
    · rw [pwk_end hen] at kk
      obtain ⟨q1, q2, q3, q4, q5, q6, q7, q8⟩ := id hp1
      rw [w_X7_tunnels_34]
      simp only [w_X7_tunnels_0, w_X7_tunnels_1, w_X7_tunnels_2, w_X7_tunnels_3, w_X7_tunnels_6, w_X7_tunnels_7, w_X7_tunnels_10, w_X7_tunnels_11, w_X7_tunnels_12, w_X7_tunnels_13, w_X7_tunnels_14, w_X7_tunnels_17, w_X7_tunnels_18, w_X7_tunnels_19, w_X7_tunnels_20, w_X7_tunnels_21, w_X7_tunnels_24, w_X7_tunnels_25, w_X7_tunnels_28, w_X7_tunnels_29, w_X7_tunnels_31, w_X7_tunnels_35, w_X7_tunnels_38, w_X7_tunnels_41, w_X7_tunnels_42, w_X7_tunnels_45, w_X7_tunnels_46, w_X7_tunnels_49, w_X7_tunnels_50, w_X7_tunnels_51, w_X7_tunnels_52, w_X7_tunnels_53, w_X7_tunnels_56, w_X7_tunnels_57, w_X7_tunnels_58, w_X7_tunnels_61, w_X7_tunnels_62, w_X7_tunnels_64, w_X7_tunnels_67, w_X7_tunnels_70, q3]
      cases he2 : kEn (pgo N (sdn N w wx) g P u) with
      | none => exact absurd he2 hen
      | some q =>
        rw [en_some, if_pos (nI_pos' (by have := q8 q he2; omega))]
        exact kk d1 s1 hp1
theorem alt_lk {s dd a : Nat} (h : altF N s dd = some a) : a < nN N ∧ ∃ l, lk N s a = some l := by
  obtain ⟨h1, h2⟩ := bestF_some h
  refine ⟨h1, ?_⟩
  unfold onP at h2
  split at h2
  · cases h2
  · simp only [Bool.and_eq_true] at h2
    exact Option.isSome_iff_exists.mp h2.1.2
theorem brP_lk {s dd e c : Nat} : ∀ p, p ≤ nN N → ∀ k, (brP N s dd e c p).1 = some k → nN N ≤ 12 → (∃ l, lk N (k / 12) (k % 12) = some l) ∧ rcE N s e c (k / 12) = true := by
  have hq : ∀ st p, (∀ k, st.1 = some k → (∃ l, lk N (k / 12) (k % 12) = some l) ∧ rcE N s e c (k / 12) = true) → nN N ≤ 12 → ∀ q, q ≤ nN N → ∀ k, (brQ N s dd e c st p q).1 = some k → (∃ l, lk N (k / 12) (k % 12) = some l) ∧ rcE N s e c (k / 12) = true := by
    intro st p hst hn q
    induction q with
    | zero => intro _ k hk; exact hst k hk
    | succ q ih =>
      intro hq k hk
      unfold brQ brS at hk
      split at hk
      · rename_i hc
        cases hk
        unfold brC at hc
        split at hc
        · cases hc
        · rename_i l hl
          simp only [Bool.and_eq_true] at hc
          rw [show (12 * p + q) / 12 = p by omega, show (12 * p + q) % 12 = q by omega]
          exact ⟨⟨l, hl⟩, hc.1.1.2⟩
      · exact ih (by omega) k hk
  intro p
  induction p with
  | zero => intro _ k hk; cases hk
  | succ p ih => intro hp k hk hn; exact hq _ p (fun k hk => ih (by omega) k hk hn) hn (nN N) (Nat.le_refl _) k hk
theorem F_repairs (h : MF d N wt wh) (hp : PR d P g) (hx : HX N (kAt P) g e l) (hs : kSt P ≤ 11) (hen0 : kEn P = none) (hw : w ≤ 3) (hh : wx < 32)
    (kk : ∀ d' : mS, sameX d d' → PR d' (prp N (sdn N w wx) g e (nC N l) P) g → Q none d') : WP mLayM 138 0 [some (.ref 0), some (.int (nI (kAt P))), some (.int (nI w)), some (.int (nI wx)), none, none] [] d Q := by
  have hN := h.1.1
  have h12 := hN.2.1
  have hss := hx.1
  have hg := hx.2.1
  obtain ⟨p1, p2, p3, p4, p5, p6, p7, p8⟩ := id hp
  generalize hse : kAt P = s at hx hss p1 kk ⊢
  have hs1 : sameX d (mUp d 0 14 (nI s)) := sameX_0 (by decide)
  have h1 := MF_X h hs1
  have hp1 : PR (mUp d 0 14 (nI s)) ((s, kEn P, kSt P, some s, kSp P, kTr P) : Pk) g := by
    refine ⟨?_, ?_, ?_, ?_, ?_, ?_, ?_, p8⟩
    · rw [mUp_j (by decide)]; exact p1
    · rw [mUp_j (by decide)]; exact p2
    · rw [mUp_j (by decide)]; exact p3
    · rw [mUp_j (by decide)]; exact p4
    · rw [mUp_s]; rfl
    · rw [mUp_j (by decide)]; exact p6
    · intro i hi; rw [mUp_k (by decide)]; exact p7 i hi
  unfold prp at kk
  dsimp only at kk
  rw [hse] at kk
  have kk2 : ∀ d' : mS, sameX (mUp d 0 14 (nI s)) d' → PR d' _ g → Q none d' := fun d' a b => kk d' (sameX_tr hs1 a) b
  clear kk
  have e11 : (mUp d 0 14 (nI s)) 0 11 = nI g := hp1.2.1
  simp only [w_X7_repairs_0, w_X7_repairs_1, w_X7_repairs_2, w_X7_repairs_5, w_X7_repairs_6, w_X7_repairs_7, w_X7_repairs_8, w_X7_repairs_11, w_X7_repairs_14, w_X7_repairs_16, w_X7_repairs_18, w_X7_repairs_21, w_X7_repairs_22, w_X7_repairs_23, w_X7_repairs_26, w_X7_repairs_29, w_X7_repairs_31, w_X7_repairs_32, w_X7_repairs_35, w_X7_repairs_36, w_X7_repairs_37, w_X7_repairs_38, w_X7_repairs_39, w_X7_repairs_42, w_X7_repairs_45, w_X7_repairs_46, w_X7_repairs_47, w_X7_repairs_50, w_X7_repairs_53, w_X7_repairs_55, w_X7_repairs_56, w_X7_repairs_59, w_X7_repairs_60, w_X7_repairs_61, w_X7_repairs_62, w_X7_repairs_63, w_X7_repairs_64, w_X7_repairs_67, w_X7_repairs_70, w_X7_repairs_71, w_X7_repairs_72, w_X7_repairs_75, w_X7_repairs_78, w_X7_repairs_79, w_X7_repairs_80, w_X7_repairs_81, w_X7_repairs_84, w_X7_repairs_87, w_X7_repairs_89, w_X7_repairs_90, w_X7_repairs_91, w_X7_repairs_93, w_X7_repairs_95, w_X7_repairs_96, w_X7_repairs_97, w_X7_repairs_98, w_X7_repairs_101, w_X7_repairs_102, w_X7_repairs_105, w_X7_repairs_108, w_X7_repairs_109, w_X7_repairs_111, w_X7_repairs_113, w_X7_repairs_114, w_X7_repairs_115, w_X7_repairs_116, w_X7_repairs_119]
  generalize mUp d 0 14 (nI s) = d1 at h1 hp1 kk2 e11 ⊢
  generalize hP1 : ((s, kEn P, kSt P, some s, kSp P, kTr P) : Pk) = P1 at hp1 kk2
  have a1 : kAt P1 = s := by rw [← hP1]; rfl
  have a2 : kSt P1 = kSt P := by rw [← hP1]; rfl
  have a3 : kEn P1 = none := by rw [← hP1]; exact hen0
  rw [e11, F_repairOf h1 hx, mKI_some]
  have n12 : ¬ (12 : Int32) = 0 := by decide
  unfold rpE
  cases ha : altF N s g with
  | some a =>
    rw [ha] at kk2
    dsimp only at kk2
    obtain ⟨hau, q, hal⟩ := alt_lk ha
    rw [if_pos (show (some a).isSome = true from rfl), if_pos (by decide), if_neg (by decide)]
    rw [e11, F_alt h1 hss hg, mKI_some, ha, en_some]
    exact F_moves h1 hp1 (by rw [a1]; exact hal) (by rw [a1]; exact hss) hau hg (by omega) hw hh kk2
  | none =>
    rw [ha] at kk2
    dsimp only at kk2
    rw [if_neg (show ¬ (none : Option Nat).isSome = true by decide)]
    cases hm : meE N s g e (nC N l) with
    | some x =>
      rw [hm] at kk2
      dsimp only at kk2
      obtain ⟨hx1, hx2⟩ := bestF_some hm
      simp only [Bool.and_eq_true] at hx2
      rw [if_pos (show (some x).isSome = true from rfl), if_pos (by decide), if_pos (by decide), if_neg (by decide)]
      rw [e11, F_meeting h1 hx, mKI_some, hm, en_some]
      exact F_tunnels h1 hp1 hx hx1 hx2.1 a1 (by omega) a3 hw hh kk2
    | none =>
      rw [hm] at kk2
      dsimp only at kk2
      rw [if_neg (show ¬ (none : Option Nat).isSome = true by decide)]
      cases hb : brE N s g e (nC N l) with
      | some k =>
        rw [hb] at kk2
        dsimp only at kk2
        obtain ⟨k1, k2, k3⟩ := (brP_ok (s := s) (dd := g) (e := e) (c := nC N l) h12 (nN N) (Nat.le_refl _)).2 k hb
        obtain ⟨⟨q, hq⟩, hrc⟩ := brP_lk (s := s) (dd := g) (e := e) (c := nC N l) (nN N) (Nat.le_refl _) k hb h12
        rw [if_pos (show (some k).isSome = true from rfl), if_pos (by decide), if_pos (by decide), if_pos (by decide)]
        rw [e11, F_bridge h1 hx, mKI_some, hb, en_some]
        refine ⟨n12, ?_⟩
        have ed : nI k / 12 = nI (k / 12) := pk_div (d := 12) (by omega) (by omega) (by omega)
        have er : nI k - nI (k / 12) * 12 = nI (k % 12) := by
          have := pk_rem (a := k) (d := 12) (by omega) (by omega) (by omega)
          rw [← ed]; exact this
        rw [ed, er]
        refine F_tunnels h1 hp1 hx k2 hrc a1 (by omega) a3 hw hh (fun d2 s2 hp2 => ?_)
        rw [mKV_none]
        obtain ⟨o1, o2, o3, o4⟩ := ptn_ok (dn := sdn N w wx) (g := g) hN hss k2 hrc (P := P1) a1
        cases he2 : kEn (ptn N (sdn N w wx) g s e (nC N l) (k / 12) P1) with
        | some z =>
          rw [he2] at kk2
          rw [if_neg (by simp)] at kk2
          rw [hp2.2.2.1, he2, en_some, if_pos (nI_pos' (by have := hp2.2.2.2.2.2.2.2 z he2; omega))]
          exact kk2 d2 s2 hp2
        | none =>
          rw [if_pos he2] at kk2
          rw [hp2.2.2.1, he2, en_none, if_neg (by decide)]
          refine ⟨n12, ?_⟩
          have o4 := o4 he2
          refine F_moves (MF_X h1 s2) hp2 (by rw [o4]; exact hq) o1 k3 hg (by omega) hw hh (fun d3 s3 hp3 => ?_)
          exact kk2 d3 (sameX_tr s2 s3) hp3
      | none =>
        rw [hb] at kk2
        dsimp only at kk2
        rw [if_neg (show ¬ (none : Option Nat).isSome = true by decide), if_neg (by decide)]
        obtain ⟨q1, q2, q3, q4, q5, q6, q7, q8⟩ := id hp1
        refine kk2 _ (sameX_0 (by decide)) ⟨?_, ?_, ?_, ?_, ?_, ?_, ?_, ?_⟩
        · rw [mUp_j (by decide)]; exact q1
        · rw [mUp_j (by decide)]; exact q2
        · rw [mUp_s]; rfl
        · rw [mUp_j (by decide)]; exact q4
        · rw [mUp_j (by decide)]; exact q5
        · rw [mUp_j (by decide)]; exact q6
        · intro i hi; rw [mUp_k (by decide)]; exact q7 i hi
        · intro q hq; cases hq; decide
end MO9
