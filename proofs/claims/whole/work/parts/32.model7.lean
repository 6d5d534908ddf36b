/-! the reference: packets -/
def PR (d : mS) (P : Pk) (g : Nat) : Prop := d 0 10 = nI (kAt P) ∧ d 0 11 = nI g ∧ d 0 12 = en (kEn P) ∧ d 0 13 = nI (kSt P) ∧ d 0 14 = en (kWh P) ∧ d 0 15 = nI (kSp P) ∧ (∀ i, i ≤ kSt P → d 6 i = nI (kTr P i)) ∧ ∀ q, kEn P = some q → q ≤ 2
theorem pwk_end {N : Nt} {dn : Nat → Bool} {g x k : Nat} {P : Pk} (h : ¬ kEn P = none) : pwk N dn g x k P = P := by
  cases k with
  | zero => rfl
  | succ k => unfold pwk; rw [if_neg (fun q => h q.1)]
theorem psF_end {N : Nt} {dn : Nat → Bool} {g k : Nat} {P : Pk} (h : ¬ kEn P = none) : psF N dn g k P = P := by
  cases k with
  | zero => rfl
  | succ k => unfold psF; rw [if_neg h]
def sameX (d d' : mS) : Prop := (∀ k, k ≠ 0 → k ≠ 6 → d' k = d k) ∧ ∀ j, j < 10 → d' 0 j = d 0 j
theorem sameX_rf {d : mS} : sameX d d := ⟨fun _ _ _ => rfl, fun _ _ => rfl⟩
theorem sameX_tr {a b c : mS} (h : sameX a b) (h2 : sameX b c) : sameX a c := ⟨fun k h1 h3 => by rw [h2.1 k h1 h3, h.1 k h1 h3], fun j hj => by rw [h2.2 j hj, h.2 j hj]⟩
theorem MF_X {d d' : mS} {N : Nt} {wt wh : Nat} (h : MF d N wt wh) (hx : sameX d d') : MF d' N wt wh := by
  obtain ⟨⟨h1, h2, h3, h4, h5, h6⟩, h7⟩ := h
  obtain ⟨x1, x2⟩ := hx
  refine ⟨⟨h1, by rw [x2 1 (by decide)]; exact h2, by rw [x2 2 (by decide)]; exact h3, ?_, by rw [x2 7 (by decide)]; exact h5, by rw [x2 8 (by decide)]; exact h6⟩, ?_⟩
  · rw [x1 1 (by decide) (by decide), x1 2 (by decide) (by decide), x1 3 (by decide) (by decide), x1 4 (by decide) (by decide)]; exact h4
  · unfold FarR
    rw [x1 5 (by decide) (by decide)]; exact h7
theorem sameX_0 {d : mS} {j : Nat} {v : Int32} (h : 10 ≤ j) : sameX d (mUp d 0 j v) := ⟨fun k h1 _ => mUp_kf h1, fun i hi => mUp_j (by omega)⟩
theorem sameX_6 {d : mS} {j : Nat} {v : Int32} : sameX d (mUp d 6 j v) := ⟨fun k _ h2 => mUp_kf h2, fun i hi => mUp_k (by decide)⟩
section MO8
variable {d : mS} {N : Nt} {wt wh g w wx : Nat} {Q : Option Int32 → mS → Prop} {P : Pk}
theorem F_moves {u l : Nat} (h : MF d N wt wh) (hp : PR d P g) (hl : lk N (kAt P) u = some l) (hat : kAt P < nN N) (hu : u < nN N) (hg : g < nN N) (hs : kSt P ≤ 38) (hw : w ≤ 3) (hh : wx < 32)
    (kk : ∀ d' : mS, sameX d d' → PR d' (pgo N (sdn N w wx) g P u) g → Q none d') : WP mLayM 135 0 [some (.ref 0), some (.int (nI u)), some (.int (nI w)), some (.int (nI wx)), none] [] d Q := by
  have hN := h.1.1
  have h12 := hN.2.1
  have h24 := hN.2.2.1
  obtain ⟨p1, p2, p3, p4, p5, p6, p7, p8⟩ := hp
  have hlm := (lk_some hl).1
  have e3 := (h.1.2.2.2.1 l hlm).2.2.1
  simp only [w_X7_moves_0, w_X7_moves_1, w_X7_moves_2, w_X7_moves_5, w_X7_moves_6, w_X7_moves_9, w_X7_moves_11, w_X7_moves_12, w_X7_moves_15, w_X7_moves_17, w_X7_moves_20, w_X7_moves_21, w_X7_moves_22, w_X7_moves_25, w_X7_moves_28, w_X7_moves_29, w_X7_moves_31, w_X7_moves_32, w_X7_moves_33, w_X7_moves_36, w_X7_moves_39, w_X7_moves_40, w_X7_moves_41, w_X7_moves_44, w_X7_moves_47, w_X7_moves_48, w_X7_moves_49, w_X7_moves_52, w_X7_moves_53, w_X7_moves_54, w_X7_moves_57, w_X7_moves_58, w_X7_moves_59, w_X7_moves_62, w_X7_moves_63, w_X7_moves_66, w_X7_moves_67, w_X7_moves_70, w_X7_moves_71, w_X7_moves_72, w_X7_moves_73, w_X7_moves_74, w_X7_moves_77, w_X7_moves_78, w_X7_moves_81, w_X7_moves_83, w_X7_moves_84, w_X7_moves_85, w_X7_moves_88, w_X7_moves_89, w_X7_moves_90, w_X7_moves_93, w_X7_moves_94, w_X7_moves_97, w_X7_moves_100, w_X7_moves_101, w_X7_moves_104, w_X7_moves_105, w_X7_moves_108, p1]
  rw [F_link h hat hu, mKI_some, hl, en_some]
  simp (disch := omega) only [p4, show (40 : Int32) = nI 40 from rfl, kEq]
  rw [if_pos (by omega)]
  rw [M_isDown hlm hw hh h.1, mKI_some]
  have hpg : pgo N (sdn N w wx) g P u = (if sdn N w wx l then kLost P else (u, if u = g then some 0 else none, kSt P + 1, kWh P, kSp P + nC N l, fup (kTr P) (kSt P + 1) u)) := by unfold pgo; rw [hl]
  rw [hpg] at kk
  cases hd : sdn N w wx l with
  | true =>
    rw [hd, if_pos rfl] at kk
    rw [bi_t, if_neg (by decide)]
    refine kk _ (sameX_0 (by decide)) ⟨?_, ?_, ?_, ?_, ?_, ?_, ?_, ?_⟩
    · rw [mUp_j (by decide)]; exact p1
    · rw [mUp_j (by decide)]; exact p2
    · rw [mUp_s]; rfl
    · rw [mUp_j (by decide)]; exact p4
    · rw [mUp_j (by decide)]; exact p5
    · rw [mUp_j (by decide)]; exact p6
    · intro i hi; rw [mUp_k (by decide)]; exact p7 i hi
    · intro q hq; cases hq; decide
  | false =>
    rw [hd, if_neg (by decide)] at kk
    rw [bi_f, if_pos rfl]
    simp (disch := decide) only [mUp_s, mUp_j, mUp_k, p4, p6, p2, nI_1, kIn (show kSt P + 1 < 2 ^ 31 by omega), kCl (show kSt P + 1 < 2 ^ 31 by omega), kIn (show l < 2 ^ 31 by omega), kCl (show l < 2 ^ 31 by omega), e3, nI_add, kEq (show u < 2 ^ 31 by omega) (show g < 2 ^ 31 by omega)]
    have b1 : kSt P + 1 < 41 := by omega
    have b2 : l < 24 := by omega
    simp only [b1, b2, true_and]
    have fin : ∀ v, v = en (if u = g then some 0 else none) → Q none (mUp (mUp (mUp (mUp (mUp d 0 10 (nI u)) 0 13 (nI (kSt P + 1))) 6 (kSt P + 1) (nI u)) 0 15 (nI (kSp P + nC N l))) 0 12 v) := by
      intro v hv
      refine kk _ (sameX_tr (sameX_tr (sameX_tr (sameX_tr (sameX_0 (by decide)) (sameX_0 (by decide))) sameX_6) (sameX_0 (by decide))) (sameX_0 (by decide))) ⟨?_, ?_, ?_, ?_, ?_, ?_, ?_, ?_⟩
      · simp (disch := decide) only [mUp_s, mUp_j, mUp_k]; rfl
      · simp (disch := decide) only [mUp_s, mUp_j, mUp_k]; exact p2
      · simp (disch := decide) only [mUp_s]; exact hv
      · simp (disch := decide) only [mUp_s, mUp_j, mUp_k]; rfl
      · simp (disch := decide) only [mUp_s, mUp_j, mUp_k]; exact p5
      · simp (disch := decide) only [mUp_s, mUp_j, mUp_k]; rfl
      · intro i hi
        simp (disch := decide) only [mUp_k]
        show mUp _ 6 (kSt P + 1) (nI u) 6 i = nI (fup (kTr P) (kSt P + 1) u i)
        by_cases e : i = kSt P + 1
        · subst e; rw [mUp_s, fup_s]
        · rw [mUp_j e, fup_n e]
          simp (disch := decide) only [mUp_k]
          have hi2 : i ≤ kSt P + 1 := hi
          exact p7 i (by omega)
      · intro q hq
        have h2 : (if u = g then some 0 else none) = some q := hq
        split at h2
        · cases h2; decide
        · cases h2
    by_cases c : u = g
    · rw [if_neg (fun q => q c)]
      exact fin 0 (by rw [if_pos c]; rfl)
    · rw [if_pos c]
      exact fin (-1) (by rw [if_neg c]; rfl)
/-- on to x by NEXT -/
theorem F_tun_loop {s : Int32} {x : Nat} (hx : x < nN N) (hg : g < nN N) (hw : w ≤ 3) (hh : wx < 32) : ∀ (k : Nat) (d : mS) (P : Pk), MF d N wt wh → PR d P g → kAt P < nN N → fr N (kAt P) x < INF → rk N none x (kAt P) < k → kSt P + rk N none x (kAt P) ≤ 38 →
    (∀ d' : mS, sameX d d' → PR d' (pwk N (sdn N w wx) g x k P) g → Q none d') → WP mLayM 137 34 [some (.ref 0), some (.int s), some (.int (nI x)), some (.int (nI w)), some (.int (nI wx))] [] d Q := by
  intro k
  induction k with
  | zero => intro d P _ _ _ _ h; omega
  | succ k ih =>
    intro d P h hp hat hc hr hs kk
    have hN := h.1.1
    have h12 := hN.2.1
    obtain ⟨p1, p2, p3, p4, p5, p6, p7, p8⟩ := id hp
    rw [w_X7_tunnels_34]
    simp only [w_X7_tunnels_0, w_X7_tunnels_1, w_X7_tunnels_2, w_X7_tunnels_3, w_X7_tunnels_6, w_X7_tunnels_7, w_X7_tunnels_10, w_X7_tunnels_11, w_X7_tunnels_12, w_X7_tunnels_13, w_X7_tunnels_14, w_X7_tunnels_17, w_X7_tunnels_18, w_X7_tunnels_19, w_X7_tunnels_20, w_X7_tunnels_21, w_X7_tunnels_24, w_X7_tunnels_25, w_X7_tunnels_28, w_X7_tunnels_29, w_X7_tunnels_31, w_X7_tunnels_35, w_X7_tunnels_38, w_X7_tunnels_41, w_X7_tunnels_42, w_X7_tunnels_45, w_X7_tunnels_46, w_X7_tunnels_49, w_X7_tunnels_50, w_X7_tunnels_51, w_X7_tunnels_52, w_X7_tunnels_53, w_X7_tunnels_56, w_X7_tunnels_57, w_X7_tunnels_58, w_X7_tunnels_61, w_X7_tunnels_62, w_X7_tunnels_64, w_X7_tunnels_67, w_X7_tunnels_70, p1, p3]
    unfold pwk at kk
    cases he : kEn P with
    | some q =>
      rw [if_neg (by rw [he]; simp)] at kk
      rw [en_some, if_pos (nI_pos' (by have := p8 q he; omega))]
      exact kk d sameX_rf hp
    | none =>
      rw [en_none, if_neg (by decide)]
      by_cases hax : kAt P = x
      · rw [if_neg (by rw [he]; simp [hax])] at kk
        rw [hax, if_pos rfl]
        exact kk d sameX_rf hp
      · rw [if_pos ⟨he, hax⟩] at kk
        rw [if_neg (fun q => by rw [kEq (by omega) (by omega)] at q; exact hax q)]
        rw [F_next h hat hx, mKI_some]
        cases hn : nx N none x (kAt P) with
        | none =>
          rcases (nx_none hN hx hat).mp hn with q | q
          · exact absurd q hax
          · have : fr N (kAt P) x = INF := q
            omega
        | some u =>
          rw [hn] at kk
          dsimp only at kk
          have hu := (nx_some hn).1
          obtain ⟨l, hl, -⟩ := nx_lk hN hn
          have hrk := nx_rk hN hn
          have hgd := nx_gd hN hn
          rw [en_some]
          refine F_moves h hp hl hat hu hg (by omega) hw hh (fun d1 s1 hp1 => ?_)
          have hst := pgo_st (N := N) (dn := sdn N w wx) (g := g) (P := P) (u := u)
          by_cases hen : kEn (pgo N (sdn N w wx) g P u) = none
          · obtain ⟨a1, a2, a3⟩ := pgo_un hen
            refine ih d1 _ (MF_X h s1) hp1 (by rw [a1]; exact hu) (by rw [a1]; show gd N none x u < INF; have : gd N none x (kAt P) < INF := hc; omega) (by rw [a1]; omega) (by rw [a1, a2]; omega) (fun d2 s2 hp2 => kk d2 (sameX_tr s1 s2) hp2)
          · rw [pwk_end hen] at kk
            obtain ⟨q1, q2, q3, q4, q5, q6, q7, q8⟩ := id hp1
            rw [mKV_none, w_X7_tunnels_34]
            simp only [w_X7_tunnels_0, w_X7_tunnels_1, w_X7_tunnels_2, w_X7_tunnels_3, w_X7_tunnels_6, w_X7_tunnels_7, w_X7_tunnels_10, w_X7_tunnels_11, w_X7_tunnels_12, w_X7_tunnels_13, w_X7_tunnels_14, w_X7_tunnels_17, w_X7_tunnels_18, w_X7_tunnels_19, w_X7_tunnels_20, w_X7_tunnels_21, w_X7_tunnels_24, w_X7_tunnels_25, w_X7_tunnels_28, w_X7_tunnels_29, w_X7_tunnels_31, w_X7_tunnels_35, w_X7_tunnels_38, w_X7_tunnels_41, w_X7_tunnels_42, w_X7_tunnels_45, w_X7_tunnels_46, w_X7_tunnels_49, w_X7_tunnels_50, w_X7_tunnels_51, w_X7_tunnels_52, w_X7_tunnels_53, w_X7_tunnels_56, w_X7_tunnels_57, w_X7_tunnels_58, w_X7_tunnels_61, w_X7_tunnels_62, w_X7_tunnels_64, w_X7_tunnels_67, w_X7_tunnels_70, q3]
            cases he2 : kEn (pgo N (sdn N w wx) g P u) with
            | none => exact absurd he2 hen
            | some q =>
              rw [en_some, if_pos (nI_pos' (by have := q8 q he2; omega))]
              exact kk d1 s1 hp1
end MO8
