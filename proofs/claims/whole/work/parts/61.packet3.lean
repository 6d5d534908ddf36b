/-! the class: travel; the public methods of plans and packets -/
section PK3
variable {c : mS} {N : Nt} {wt wh : Nat} {Q : Option Int32 → mS → Prop} {dn : Nat → Bool} {g : Nat} {P : Pk}
theorem travel_loop {bl a0 d0 : Int32} (hg : g < nN N) : ∀ (k t : Nat) (c : mS) (P : Pk) (l7 : Option Value), t + k = 40 → CS c N wt wh → PK c N dn g P → pIV N g P → (∀ c' : mS, scr c c' → PK c' N dn g (psF N dn g k P) → Q none c') →
    WP mLayH 38 12 [some (.ref 4), some (.ref 1), some (.ref 3), some (.int bl), some (.int a0), some (.int d0), some (.int (nI t)), l7] [] c Q := by
  intro k
  induction k with
  | zero =>
    intro t c P l7 ht h hp hI kk
    rw [w_X4_travel_12]
    simp only [w_X4_travel_14, w_X4_travel_16, w_X4_travel_87]
    rw [show (40 : Int32) = nI 40 from rfl, if_pos ((kLe (by omega) (by omega)).mpr (by omega))]
    exact kk c scr_rf hp
  | succ k ih =>
    intro t c P l7 ht h hp hI kk
    have hN := h.1.1
    have h12 := hN.2.1
    have h24 := hN.2.2.1
    obtain ⟨i1, i2, i3, i4⟩ := hI
    have hI : pIV N g P := ⟨i1, i2, i3, i4⟩
    rw [w_X4_travel_12]
    simp only [w_X4_travel_14, w_X4_travel_16, w_X4_travel_19, w_X4_travel_20, w_X4_travel_23, w_X4_travel_24, w_X4_travel_87, hp.1]
    rw [show (40 : Int32) = nI 40 from rfl, if_neg (fun q => by rw [kLe (by omega) (by omega)] at q; omega)]
    unfold psF at kk
    have nxt : ∀ (c1 : mS) (P1 : Pk) (l7 : Option Value), scr c c1 → PK c1 N dn g P1 → pIV N g P1 → (∀ c' : mS, scr c c' → PK c' N dn g (psF N dn g k P1) → Q none c') → WP mLayH 38 12 [some (.ref 4), some (.ref 1), some (.ref 3), some (.int bl), some (.int a0), some (.int d0), some (.int (nI (t + 1))), l7] [] c1 Q :=
      fun c1 P1 l7 a1 a2 a3 a4 => ih (t + 1) c1 P1 l7 (by omega) (CS_scr h a1) a2 a3 (fun c2 b1 b2 => a4 c2 (scr_tr a1 b1) b2)
    have lost : ∀ (c1 : mS) (l7 : Option Value), scr c c1 → PK c1 N dn g (kLost P) → (∀ c' : mS, scr c c' → PK c' N dn g (kLost P) → Q none c') → WP mLayH 38 12 [some (.ref 4), some (.ref 1), some (.ref 3), some (.int bl), some (.int a0), some (.int d0), some (.int (nI (t + 1))), l7] [] c1 Q :=
      fun c1 l7 a1 a2 a3 => nxt c1 (kLost P) l7 a1 a2 hI (by rw [psF_end (P := kLost P) (fun q => by cases q)]; exact a3)
    have wh' : (en (kWh P) = -1) ↔ kWh P = none := en_m1 (fun k hk => by have := i4 k hk; omega)
    by_cases e1 : kEn P = none
    · rw [if_pos e1] at kk
      rw [if_neg (fun q => q ((en_m1 (fun k hk => by have := hp.2.2.2.2.2.2.2.2 k hk; omega)).mpr e1))]
      simp only [w_X4_travel_27, w_X4_travel_28, w_X4_travel_29, w_X4_travel_32, w_X4_travel_33, w_X4_travel_36, w_X4_travel_39, w_X4_travel_41, w_X4_travel_43, w_X4_travel_44, w_X4_travel_47, w_X4_travel_48, w_X4_travel_51, w_X4_travel_52, w_X4_travel_55, w_X4_travel_56, w_X4_travel_57, w_X4_travel_59, w_X4_travel_62, w_X4_travel_65, w_X4_travel_66, w_X4_travel_67, w_X4_travel_68, w_X4_travel_71, w_X4_travel_74, w_X4_travel_75, w_X4_travel_76, w_X4_travel_78, w_X4_travel_81, w_X4_travel_84, hp.2.2.2.2.1, hp.2.2.2.2.2.1, hp.2.2.2.1, C_hopN h i1 hg, mKI_some, nI_1]
      cases hn : nx N none g (kAt P) with
      | none =>
        rw [hn] at kk
        rw [en_none, if_pos rfl]
        refine C_go (o := none) h hp e1 i1 hg (fun u hu => by cases hu) (by omega) (fun c1 b1 b2 => ?_)
        rw [mKV_none]
        exact lost c1 _ (scp_scr b1) b2 kk
      | some u =>
        rw [hn] at kk
        dsimp only at kk
        have hu := (nx_some hn).1
        obtain ⟨l, hH⟩ := HX_of i1 hg hn
        have hl := hH.2.2.2.2.1
        rw [hl] at kk
        have go : (∀ c' : mS, scr c c' → PK c' N dn g (psF N dn g k (pgo N dn g P u)) → Q none c') → WP mLayH 42 0 [some (.ref 4), some (.ref 1), some (.int (nI u))] [] c (mKV fun t_1 => WP mLayH 38 12 [some (.ref 4), some (.ref 1), some (.ref 3), some (.int bl), some (.int a0), some (.int d0), some (.int (nI (t + 1))), some (.int (nI u))] [] t_1 Q) := fun a4 =>
          C_go (o := some u) h hp e1 i1 hg (fun v hv => by cases hv; exact hu) (by omega) (fun c1 b1 b2 => by
            rw [mKV_none]
            exact nxt c1 _ _ (scp_scr b1) b2 (pIV_go hN hI hn).1 a4)
        have bk := C_blocked (Q := mKI fun v t_1 => if v = 0 then WP mLayH 42 0 [some (.ref 4), some (.ref 1), some (.int (nI u))] [] t_1 (mKV fun t_2 => WP mLayH 38 12 [some (.ref 4), some (.ref 1), some (.ref 3), some (.int bl), some (.int a0), some (.int d0), some (.int (nI (t + 1))), some (.int (nI u))] [] t_2 Q) else WP mLayH 43 0 [some (.ref 4), some (.ref 1), some (.ref 3), none] [] t_1 (mKV fun t_2 => WP mLayH 38 12 [some (.ref 4), some (.ref 1), some (.ref 3), some (.int bl), some (.int a0), some (.int d0), some (.int (nI (t + 1))), some (.int (nI u))] [] t_2 Q)) (o := some u) h hp i1 (fun v hv => by cases hv; exact hu)
        have hbk : blk N dn (kAt P) (some u) = dn l := by unfold blk; dsimp only; rw [hl]
        rw [hbk] at bk
        rw [en_some, if_neg (fun q => (kNe (by omega)).mp q)]
        by_cases w : kWh P = none
        · rw [if_neg (fun q => q (wh'.mpr w))]
          refine bk.mpr ?_
          rw [mKI_some]
          cases hdn : dn l with
          | false =>
            rw [if_pos bf0]
            rw [if_neg (show ¬ dn ((some l).getD 0) = true by show ¬ dn l = true; rw [hdn]; exact Bool.false_ne_true)] at kk
            exact go kk
          | true =>
            rw [if_neg bt1]
            rw [if_pos (show dn ((some l).getD 0) = true from hdn), if_pos w] at kk
            refine C_turn h hp hH (by have := i2 w; omega) e1 (fun c1 b1 b2 => ?_)
            rw [mKV_none]
            exact nxt c1 _ _ b1 b2 (pIV_rp hN hI hH w).1 kk
        · rw [if_pos (fun q => w (wh'.mp q))]
          cases hdn : dn l with
          | false =>
            rw [if_neg (show ¬ dn ((some l).getD 0) = true by show ¬ dn l = true; rw [hdn]; exact Bool.false_ne_true)] at kk
            exact go kk
          | true =>
            rw [if_pos (show dn ((some l).getD 0) = true from hdn), if_neg w] at kk
            have e2 : pgo N dn g P u = kLost P := by unfold pgo; rw [hl]; dsimp only; rw [if_pos hdn]
            refine go ?_
            rw [e2, psF_end (P := kLost P) (fun q => by cases q)]
            exact kk
    · rw [if_neg e1] at kk
      rw [if_pos (fun q => e1 ((en_m1 (fun k hk => by have := hp.2.2.2.2.2.2.2.2 k hk; omega)).mp q))]
      exact kk c scr_rf hp
theorem C_travel {a : Nat} {bl : Int32} (h : CS c N wt wh) (ha : a < nN N) (hg : g < nN N) (hb : bl = mkS dn (nM N)) (kk : ∀ c' : mS, scr c c' → PK c' N dn g (psd N dn a g) → Q none c') :
    WP mLayH 38 0 [some (.ref 4), some (.ref 1), some (.ref 3), some (.int bl), some (.int (nI a)), some (.int (nI g)), none, none] [] c Q := by
  have hN := h.1.1
  simp only [w_X4_travel_0, w_X4_travel_1, w_X4_travel_2, w_X4_travel_4, w_X4_travel_6, w_X4_travel_9, w_X4_travel_10, w_X4_begin_0, w_X4_begin_1, w_X4_begin_2, w_X4_begin_5, w_X4_begin_6, w_X4_begin_7, w_X4_begin_10, w_X4_begin_11, w_X4_begin_12, w_X4_begin_15, w_X4_begin_16, w_X4_begin_17, w_X4_begin_20, w_X4_begin_21, w_X4_begin_22, w_X4_begin_25, w_X4_begin_26, w_X4_begin_27, w_X4_begin_30, w_X4_begin_31, w_X4_begin_32, w_X4_begin_35, w_X4_begin_36, w_X4_begin_39, w_X4_begin_40, w_X4_begin_41, w_X4_begin_42, mKV_none]
  rw [show (0 : Int32) = nI 0 from rfl, kIn (by decide), kCl (by decide)]
  refine ⟨by decide, ?_⟩
  have sc : scr c (mUp (mUp (mUp (mUp (mUp (mUp (mUp (mUp c 4 0 (-1)) 4 1 (nI 0)) 4 2 (nI 0)) 4 3 (-1)) 4 4 (nI a)) 4 5 (nI g)) 4 6 bl) 14 0 (nI a)) := fun k h1 h2 => by
    rw [mUp_kf (show k ≠ 14 by omega)]
    simp only [mUp_kf (show k ≠ 4 by omega)]
  refine travel_loop hg 40 0 _ (pk0 a) none (by omega) (CS_scr h sc) ⟨?_, ?_, ?_, ?_, ?_, ?_, ?_, fun i hi => ?_, fun q hq => by cases hq⟩ (pk0_IV hN ha).1 (fun c2 b1 b2 => kk c2 (scr_tr sc b1) b2)
  · simp (disch := decide) only [mUp_k, mUp_j, mUp_s]; rfl
  · simp (disch := decide) only [mUp_k, mUp_j, mUp_s]; rfl
  · simp (disch := decide) only [mUp_k, mUp_j, mUp_s]; rfl
  · simp (disch := decide) only [mUp_k, mUp_j, mUp_s]; rfl
  · simp (disch := decide) only [mUp_k, mUp_j, mUp_s]; rfl
  · simp (disch := decide) only [mUp_k, mUp_j, mUp_s]
  · simp (disch := decide) only [mUp_k, mUp_j, mUp_s]; exact hb
  · have hi : i ≤ 0 := hi
    rw [show i = 0 by omega, mUp_s]; rfl
end PK3
