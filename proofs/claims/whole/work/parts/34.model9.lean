/-! the reference: sends -/
section PK3
variable {N : Nt} {dn : Nat → Bool} {g : Nat}
theorem prp_ok (hN : Nok N) {P : Pk} {e l : Nat} (hx : HX N (kAt P) g e l) : kAt (prp N dn g e (nC N l) P) < nN N ∧ kWh (prp N dn g e (nC N l) P) = some (kAt P) ∧ kSt (prp N dn g e (nC N l) P) ≤ kSt P + 13 := by
  have hss := hx.1
  have h12 := hN.2.1
  unfold prp
  dsimp only
  cases ha : altF N (kAt P) g with
  | some a =>
    dsimp only
    refine ⟨pgo_at hss (alt_lk ha).1, by rw [pgo_wh]; rfl, ?_⟩
    have := pgo_st (N := N) (dn := dn) (g := g) (P := ((kAt P, kEn P, kSt P, some (kAt P), kSp P, kTr P) : Pk)) (u := a)
    have h2 : kSt ((kAt P, kEn P, kSt P, some (kAt P), kSp P, kTr P) : Pk) = kSt P := rfl
    omega
  | none =>
    dsimp only
    cases hm : meE N (kAt P) g e (nC N l) with
    | some x =>
      dsimp only
      obtain ⟨hx1, hx2⟩ := bestF_some hm
      simp only [Bool.and_eq_true] at hx2
      obtain ⟨o1, o2, o3, -⟩ := ptn_ok (dn := dn) (g := g) hN hss hx1 hx2.1 (P := ((kAt P, kEn P, kSt P, some (kAt P), kSp P, kTr P) : Pk)) rfl
      refine ⟨o1, by rw [o2]; rfl, ?_⟩
      have h2 : kSt ((kAt P, kEn P, kSt P, some (kAt P), kSp P, kTr P) : Pk) = kSt P := rfl
      omega
    | none =>
      dsimp only
      cases hb : brE N (kAt P) g e (nC N l) with
      | some k =>
        dsimp only
        obtain ⟨k1, k2, k3⟩ := (brP_ok (s := kAt P) (dd := g) (e := e) (c := nC N l) h12 (nN N) (Nat.le_refl _)).2 k hb
        obtain ⟨-, hrc⟩ := brP_lk (s := kAt P) (dd := g) (e := e) (c := nC N l) (nN N) (Nat.le_refl _) k hb h12
        obtain ⟨o1, o2, o3, -⟩ := ptn_ok (dn := dn) (g := g) hN hss k2 hrc (P := ((kAt P, kEn P, kSt P, some (kAt P), kSp P, kTr P) : Pk)) rfl
        have h2 : kSt ((kAt P, kEn P, kSt P, some (kAt P), kSp P, kTr P) : Pk) = kSt P := rfl
        split
        · have h3 := pgo_st (N := N) (dn := dn) (g := g) (P := ptn N dn g (kAt P) e (nC N l) (k / 12) ((kAt P, kEn P, kSt P, some (kAt P), kSp P, kTr P) : Pk)) (u := k % 12)
          exact ⟨pgo_at o1 k3, by rw [pgo_wh, o2]; rfl, by omega⟩
        · exact ⟨o1, by rw [o2]; rfl, by omega⟩
      | none => exact ⟨hss, rfl, by simp [kLost, kSt]⟩
/-- how far a PACKET's course may still be -/
def pIV (N : Nt) (g : Nat) (P : Pk) : Prop := kAt P < nN N ∧ (kWh P = none → kSt P + rk N none g (kAt P) ≤ 11) ∧ kSt P + rk N none g (kAt P) ≤ 36 ∧ ∀ z, kWh P = some z → z < nN N
noncomputable def pMs (N : Nt) (g : Nat) (P : Pk) : Nat := (if kWh P = none then 13 else 0) + rk N none g (kAt P)
theorem pIV_go (hN : Nok N) {P : Pk} {u : Nat} (h : pIV N g P) (hn : nx N none g (kAt P) = some u) : pIV N g (pgo N dn g P u) ∧ (kEn (pgo N dn g P u) = none → pMs N g (pgo N dn g P u) < pMs N g P) := by
  have hu := (nx_some hn).1
  have hrk := nx_rk hN hn
  have hw := pgo_wh (N := N) (dn := dn) (g := g) (P := P) (u := u)
  obtain ⟨h1, h2, h3, h4⟩ := h
  have key : (kAt (pgo N dn g P u) = u ∧ kSt (pgo N dn g P u) = kSt P + 1) ∨ (kAt (pgo N dn g P u) = kAt P ∧ kSt (pgo N dn g P u) = kSt P ∧ ¬ kEn (pgo N dn g P u) = none) := by
    unfold pgo; split
    · exact Or.inr ⟨rfl, rfl, by simp [kLost, kEn]⟩
    · split
      · exact Or.inr ⟨rfl, rfl, by simp [kLost, kEn]⟩
      · exact Or.inl ⟨rfl, rfl⟩
  rcases key with ⟨a1, a2⟩ | ⟨a1, a2, a3⟩
  · refine ⟨⟨by rw [a1]; exact hu, fun q => ?_, by rw [a1, a2]; omega, by rw [hw]; exact h4⟩, fun _ => ?_⟩
    · rw [hw] at q
      have := h2 q
      rw [a1, a2]; omega
    · unfold pMs
      rw [hw, a1]; omega
  · refine ⟨⟨by rw [a1]; exact h1, fun q => ?_, by rw [a1, a2]; exact h3, by rw [hw]; exact h4⟩, fun q => absurd q a3⟩
    rw [hw] at q
    rw [a1, a2]; exact h2 q
theorem pIV_rp (hN : Nok N) {P : Pk} {e l : Nat} (h : pIV N g P) (hx : HX N (kAt P) g e l) (hwh : kWh P = none) : pIV N g (prp N dn g e (nC N l) P) ∧ pMs N g (prp N dn g e (nC N l) P) < pMs N g P := by
  obtain ⟨o1, o2, o3⟩ := prp_ok (dn := dn) hN hx
  obtain ⟨h1, h2, h3, h5⟩ := h
  have h4 := h2 hwh
  have o2n : ¬ kWh (prp N dn g e (nC N l) P) = none := by rw [o2]; simp
  have h12 := hN.2.1
  have hr := rk_n (N := N) (but := none) (d := g) o1
  refine ⟨⟨o1, fun q => absurd q o2n, by omega, fun z hz => by rw [o2] at hz; cases hz; exact h1⟩, ?_⟩
  unfold pMs
  rw [if_neg o2n, if_pos hwh]
  omega
theorem pk0_IV (hN : Nok N) {a : Nat} (ha : a < nN N) : pIV N g (pk0 a) ∧ pMs N g (pk0 a) < 40 := by
  have h12 := hN.2.1
  have hr := rk_n (N := N) (but := none) (d := g) ha
  have e1 : kAt (pk0 a) = a := rfl
  have e2 : kSt (pk0 a) = 0 := rfl
  refine ⟨⟨ha, fun _ => by rw [e1, e2]; omega, by rw [e1, e2]; omega, fun z hz => by cases hz⟩, ?_⟩
  unfold pMs
  rw [if_pos (show kWh (pk0 a) = none from rfl), e1]
  omega
/-- a PACKET comes to its end -/
theorem psF_en (hN : Nok N) (hg : g < nN N) : ∀ (k : Nat) (P : Pk), pIV N g P → pMs N g P < k → ¬ kEn (psF N dn g k P) = none := by
  intro k
  induction k with
  | zero => intro P _ h; omega
  | succ k ih =>
    intro P hv hm
    unfold psF
    split
    · cases hn : nx N none g (kAt P) with
      | none => simp [kLost, kEn]
      | some u =>
        dsimp only
        split
        · split
          · rename_i hwh
            obtain ⟨l, hx⟩ := HX_of hv.1 hg hn
            rw [hx.2.2.2.2.1, Option.getD_some]
            obtain ⟨i1, i2⟩ := pIV_rp (dn := dn) hN hv hx hwh
            exact ih _ i1 (by omega)
          · simp [kLost, kEn]
        · obtain ⟨i1, i2⟩ := pIV_go (dn := dn) hN hv hn
          by_cases hen : kEn (pgo N dn g P u) = none
          · exact ih _ i1 (by have := i2 hen; omega)
          · rw [psF_end hen]; exact hen
    · assumption
end PK3
section MOA
variable {N : Nt} {wt wh g w wx : Nat} {Q : Option Int32 → mS → Prop}
theorem F_sends_loop {a : Int32} (hg : g < nN N) (hw : w ≤ 3) (hh : wx < 32) : ∀ (k : Nat) (d : mS) (P : Pk) (l5 : Option Value), MF d N wt wh → PR d P g → pIV N g P → pMs N g P < k →
    (∀ d' : mS, sameX d d' → PR d' (psF N (sdn N w wx) g k P) g → Q (some (en (kEn (psF N (sdn N w wx) g k P)))) d') → WP mLayM 139 37 [some (.ref 0), some (.int a), some (.int (nI g)), some (.int (nI w)), some (.int (nI wx)), l5] [] d Q := by
  intro k
  induction k with
  | zero => intro d P l5 _ _ _ h; omega
  | succ k ih =>
    intro d P l5 h hp hv hm kk
    have hN := h.1.1
    have h12 := hN.2.1
    have h24 := hN.2.2.1
    obtain ⟨p1, p2, p3, p4, p5, p6, p7, p8⟩ := id hp
    rw [w_X7_sends_37]
    simp only [w_X7_sends_0, w_X7_sends_1, w_X7_sends_2, w_X7_sends_5, w_X7_sends_6, w_X7_sends_7, w_X7_sends_10, w_X7_sends_11, w_X7_sends_12, w_X7_sends_15, w_X7_sends_16, w_X7_sends_17, w_X7_sends_20, w_X7_sends_21, w_X7_sends_22, w_X7_sends_25, w_X7_sends_26, w_X7_sends_27, w_X7_sends_30, w_X7_sends_31, w_X7_sends_34, w_X7_sends_35, w_X7_sends_36, w_X7_sends_38, w_X7_sends_41, w_X7_sends_44, w_X7_sends_45, w_X7_sends_46, w_X7_sends_47, w_X7_sends_50, w_X7_sends_51, w_X7_sends_52, w_X7_sends_55, w_X7_sends_57, w_X7_sends_58, w_X7_sends_61, w_X7_sends_63, w_X7_sends_66, w_X7_sends_67, w_X7_sends_68, w_X7_sends_71, w_X7_sends_74, w_X7_sends_76, w_X7_sends_79, w_X7_sends_80, w_X7_sends_81, w_X7_sends_84, w_X7_sends_87, w_X7_sends_88, w_X7_sends_89, w_X7_sends_90, w_X7_sends_93, w_X7_sends_95, w_X7_sends_98, w_X7_sends_99, w_X7_sends_101, w_X7_sends_104, w_X7_sends_107, w_X7_sends_108, w_X7_sends_110, w_X7_sends_111, w_X7_sends_113, w_X7_sends_116, w_X7_sends_119, w_X7_sends_120, w_X7_sends_123, w_X7_sends_126, w_X7_sends_127, w_X7_sends_128, w_X7_sends_131, w_X7_sends_134, w_X7_sends_135, w_X7_sends_136, w_X7_sends_139, w_X7_sends_140, w_X7_sends_142, w_X7_sends_145, w_X7_sends_148, w_X7_sends_149, w_X7_sends_152, p1, p3]
    have lost : ∀ d1, d1 = mUp d 0 12 1 → sameX d d1 ∧ PR d1 (kLost P) g := by
      rintro d1 rfl
      refine ⟨sameX_0 (by decide), ?_, ?_, ?_, ?_, ?_, ?_, ?_, ?_⟩
      · rw [mUp_j (by decide)]; exact p1
      · rw [mUp_j (by decide)]; exact p2
      · rw [mUp_s]; rfl
      · rw [mUp_j (by decide)]; exact p4
      · rw [mUp_j (by decide)]; exact p5
      · rw [mUp_j (by decide)]; exact p6
      · intro i hi; rw [mUp_k (by decide)]; exact p7 i hi
      · intro q hq; cases hq; decide
    have ended : ∀ (d1 : mS) (P1 : Pk) (l5 : Option Value), PR d1 P1 g → ¬ kEn P1 = none → Q (some (en (kEn P1))) d1 → WP mLayM 139 37 [some (.ref 0), some (.int a), some (.int (nI g)), some (.int (nI w)), some (.int (nI wx)), l5] [] d1 Q := by
      intro d1 P1 l5 hp1 hen hq
      rw [w_X7_sends_37]
      simp only [w_X7_sends_0, w_X7_sends_1, w_X7_sends_2, w_X7_sends_5, w_X7_sends_6, w_X7_sends_7, w_X7_sends_10, w_X7_sends_11, w_X7_sends_12, w_X7_sends_15, w_X7_sends_16, w_X7_sends_17, w_X7_sends_20, w_X7_sends_21, w_X7_sends_22, w_X7_sends_25, w_X7_sends_26, w_X7_sends_27, w_X7_sends_30, w_X7_sends_31, w_X7_sends_34, w_X7_sends_35, w_X7_sends_36, w_X7_sends_38, w_X7_sends_41, w_X7_sends_44, w_X7_sends_45, w_X7_sends_46, w_X7_sends_47, w_X7_sends_50, w_X7_sends_51, w_X7_sends_52, w_X7_sends_55, w_X7_sends_57, w_X7_sends_58, w_X7_sends_61, w_X7_sends_63, w_X7_sends_66, w_X7_sends_67, w_X7_sends_68, w_X7_sends_71, w_X7_sends_74, w_X7_sends_76, w_X7_sends_79, w_X7_sends_80, w_X7_sends_81, w_X7_sends_84, w_X7_sends_87, w_X7_sends_88, w_X7_sends_89, w_X7_sends_90, w_X7_sends_93, w_X7_sends_95, w_X7_sends_98, w_X7_sends_99, w_X7_sends_101, w_X7_sends_104, w_X7_sends_107, w_X7_sends_108, w_X7_sends_110, w_X7_sends_111, w_X7_sends_113, w_X7_sends_116, w_X7_sends_119, w_X7_sends_120, w_X7_sends_123, w_X7_sends_126, w_X7_sends_127, w_X7_sends_128, w_X7_sends_131, w_X7_sends_134, w_X7_sends_135, w_X7_sends_136, w_X7_sends_139, w_X7_sends_140, w_X7_sends_142, w_X7_sends_145, w_X7_sends_148, w_X7_sends_149, w_X7_sends_152, hp1.2.2.1]
      cases he2 : kEn P1 with
      | none => exact absurd he2 hen
      | some z =>
        rw [en_some, if_pos (nI_pos' (by have := hp1.2.2.2.2.2.2.2 z he2; omega))]
        rw [he2, en_some] at hq
        exact hq
    unfold psF at kk
    cases he : kEn P with
    | some q =>
      rw [if_neg (by rw [he]; simp), he, en_some] at kk
      rw [en_some, if_pos (nI_pos' (by have := p8 q he; omega))]
      exact kk d sameX_rf hp
    | none =>
      rw [if_pos he] at kk
      rw [en_none, if_neg (by decide)]
      rw [F_next h hv.1 hg, mKI_some]
      rw [p4, if_pos (fun q => by rw [show (40 : Int32) = nI 40 from rfl, kEq (by have := hv.2.2.1; omega) (by omega)] at q; have := hv.2.2.1; omega)]
      cases hn : nx N none g (kAt P) with
      | none =>
        rw [hn] at kk
        dsimp only at kk
        rw [en_none, if_neg (by decide)]
        obtain ⟨l1, l2⟩ := lost _ rfl
        exact ended _ (kLost P) _ l2 (by simp [kLost, kEn]) (kk _ l1 l2)
      | some u =>
        rw [hn] at kk
        dsimp only at kk
        have hu := (nx_some hn).1
        obtain ⟨l, hx⟩ := HX_of hv.1 hg hn
        have hlk := hx.2.2.2.2.1
        have hl := hx.2.2.2.2.2
        rw [hlk, Option.getD_some] at kk
        rw [en_some, if_pos (nI_pos' (by omega)), p1, F_link h hv.1 hu, mKI_some, hlk, en_some, M_isDown hl hw hh h.1, mKI_some]
        cases hd : sdn N w wx l with
        | false =>
          rw [hd, if_neg (by decide)] at kk
          rw [bi_f, if_neg (by decide)]
          refine F_moves h hp hlk hv.1 hu hg (by have := hv.2.2.1; omega) hw hh (fun d1 s1 hp1 => ?_)
          rw [mKV_none]
          obtain ⟨i1, i2⟩ := pIV_go (dn := sdn N w wx) hN hv hn
          by_cases hen : kEn (pgo N (sdn N w wx) g P u) = none
          · exact ih d1 _ _ (MF_X h s1) hp1 i1 (by have := i2 hen; omega) (fun d2 s2 hp2 => kk d2 (sameX_tr s1 s2) hp2)
          · rw [psF_end hen] at kk
            exact ended d1 _ _ hp1 hen (kk d1 s1 hp1)
        | true =>
          rw [hd, if_pos rfl] at kk
          rw [bi_t, if_pos (by decide), p5]
          cases hwh : kWh P with
          | some z =>
            rw [if_neg (by rw [hwh]; simp)] at kk
            rw [en_some, if_neg (nI_pos (by have := hv.2.2.2 z hwh; omega))]
            obtain ⟨l1, l2⟩ := lost _ rfl
            exact ended _ (kLost P) _ l2 (by simp [kLost, kEn]) (kk _ l1 l2)
          | none =>
            rw [if_pos hwh] at kk
            rw [en_none, if_pos (by decide), p1]
            have := hv.2.1 hwh
            refine F_repairs h hp hx (by omega) he hw hh (fun d1 s1 hp1 => ?_)
            rw [mKV_none]
            obtain ⟨i1, i2⟩ := pIV_rp (dn := sdn N w wx) hN hv hx hwh
            exact ih d1 _ _ (MF_X h s1) hp1 i1 (by omega) (fun d2 s2 hp2 => kk d2 (sameX_tr s1 s2) hp2)
theorem F_sends {d : mS} {a : Nat} (h : MF d N wt wh) (ha : a < nN N) (hg : g < nN N) (hw : w ≤ 3) (hh : wx < 32)
    (kk : ∀ d' : mS, sameX d d' → PR d' (psd N (sdn N w wx) a g) g → Q (some (en (kEn (psd N (sdn N w wx) a g)))) d') : WP mLayM 139 0 [some (.ref 0), some (.int (nI a)), some (.int (nI g)), some (.int (nI w)), some (.int (nI wx)), none] [] d Q := by
  have hN := h.1.1
  obtain ⟨i1, i2⟩ := pk0_IV (g := g) hN ha
  simp (disch := decide) only [w_X7_sends_0, w_X7_sends_1, w_X7_sends_2, w_X7_sends_5, w_X7_sends_6, w_X7_sends_7, w_X7_sends_10, w_X7_sends_11, w_X7_sends_12, w_X7_sends_15, w_X7_sends_16, w_X7_sends_17, w_X7_sends_20, w_X7_sends_21, w_X7_sends_22, w_X7_sends_25, w_X7_sends_26, w_X7_sends_27, w_X7_sends_30, w_X7_sends_31, w_X7_sends_34, w_X7_sends_35, w_X7_sends_36, w_X7_sends_38, w_X7_sends_41, w_X7_sends_44, w_X7_sends_45, w_X7_sends_46, w_X7_sends_47, w_X7_sends_50, w_X7_sends_51, w_X7_sends_52, w_X7_sends_55, w_X7_sends_57, w_X7_sends_58, w_X7_sends_61, w_X7_sends_63, w_X7_sends_66, w_X7_sends_67, w_X7_sends_68, w_X7_sends_71, w_X7_sends_74, w_X7_sends_76, w_X7_sends_79, w_X7_sends_80, w_X7_sends_81, w_X7_sends_84, w_X7_sends_87, w_X7_sends_88, w_X7_sends_89, w_X7_sends_90, w_X7_sends_93, w_X7_sends_95, w_X7_sends_98, w_X7_sends_99, w_X7_sends_101, w_X7_sends_104, w_X7_sends_107, w_X7_sends_108, w_X7_sends_110, w_X7_sends_111, w_X7_sends_113, w_X7_sends_116, w_X7_sends_119, w_X7_sends_120, w_X7_sends_123, w_X7_sends_126, w_X7_sends_127, w_X7_sends_128, w_X7_sends_131, w_X7_sends_134, w_X7_sends_135, w_X7_sends_136, w_X7_sends_139, w_X7_sends_140, w_X7_sends_142, w_X7_sends_145, w_X7_sends_148, w_X7_sends_149, w_X7_sends_152, kIn, kCl, show mIn 0 41 from ⟨by decide, by decide⟩, true_and, show (0 : Int32).toNatClampNeg = 0 from rfl]
  have hs1 : sameX d (mUp (mUp (mUp (mUp (mUp (mUp (mUp d 0 10 (nI a)) 0 11 (nI g)) 0 12 (-1)) 0 13 0) 0 14 (-1)) 0 15 0) 6 0 (nI a)) :=
    sameX_tr (sameX_tr (sameX_tr (sameX_tr (sameX_tr (sameX_tr (sameX_0 (by decide)) (sameX_0 (by decide))) (sameX_0 (by decide))) (sameX_0 (by decide))) (sameX_0 (by decide))) (sameX_0 (by decide))) sameX_6
  refine F_sends_loop hg hw hh 40 _ (pk0 a) none (MF_X h hs1) ⟨?_, ?_, ?_, ?_, ?_, ?_, ?_, ?_⟩ i1 i2 (fun d' s' hp' => kk d' (sameX_tr hs1 s') hp')
  · simp (disch := decide) only [mUp_s, mUp_j, mUp_k]; rfl
  · simp (disch := decide) only [mUp_s, mUp_j, mUp_k]
  · simp (disch := decide) only [mUp_s, mUp_j, mUp_k]; rfl
  · simp (disch := decide) only [mUp_s, mUp_j, mUp_k]; rfl
  · simp (disch := decide) only [mUp_s, mUp_j, mUp_k]; rfl
  · simp (disch := decide) only [mUp_s, mUp_j, mUp_k]; rfl
  · intro i hi
    have hi2 : i ≤ 0 := hi
    rw [show i = 0 by omega, mUp_s]
    rfl
  · intro q hq; cases hq
end MOA
