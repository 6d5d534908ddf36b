/-! the law from its entry, and the claim -/
theorem xPr_at {args : Array Value} {s : State} (hts : ∀ w ∈ lw_tbl, w.before args s = true) : xPr s :=
  ⟨va_Nw.of rfl (hts _ (List.mem_of_getElem? (i := 718) (by decide +kernel))), va_Nw.of rfl (hts _ (List.mem_of_getElem? (i := 720) (by decide +kernel))), va_Nw.of rfl (hts _ (List.mem_of_getElem? (i := 722) (by decide +kernel))), va_Nw.of rfl (hts _ (List.mem_of_getElem? (i := 717) (by decide +kernel)))⟩
theorem xZ_at {b : Nat} {s : State} (hts : ∀ w ∈ lw_tbl, w.before #[Value.ref b] s = true) (hgv : (Jvm.Cond.and given_1 narrow_1).before #[Value.ref b] s = true) : xZ (fun q => s.heap.size ≤ q) s s.heap :=
  ⟨vx_Zqof (args := #[Value.ref b]) (hts (.laysStatic Bundle.tN "UNASSIGNED_STACK" Bundle.steD) (List.mem_of_getElem? (i := 742) (by decide +kernel))) (hts (.initialized Bundle.tN) (List.mem_of_getElem? (i := 66) (by decide +kernel))) (flat_of_before _ hgv (.isRef (.static Bundle.tN "UNASSIGNED_STACK" Bundle.steD)) (by decide +kernel)) (fun _ h1 h2 => absurd h1 (Nat.not_lt.mpr h2)),
   vx_Zqof (args := #[Value.ref b]) (hts (.laysStatic Bundle.tN "SUPPRESSED_SENTINEL" Bundle.listD) (List.mem_of_getElem? (i := 744) (by decide +kernel))) (hts (.initialized Bundle.tN) (List.mem_of_getElem? (i := 66) (by decide +kernel))) (flat_of_before _ hgv (.isRef (.static Bundle.tN "SUPPRESSED_SENTINEL" Bundle.listD)) (by decide +kernel)) (fun _ h1 h2 => absurd h1 (Nat.not_lt.mpr h2))⟩
theorem known_at {args : Array Value} {s : State} (hts : ∀ w ∈ mTB, w.before args s = true) : ∃ D : va_G, va_K D mCl [] s := by
  obtain ⟨c0, i0, h0⟩ := u_known (C := RX0) (T := TX0) (N := 2) (n := 2) hts mcl_X0.1 (hts (.instantiable RX0 2) (mTB_mem 249 (by decide +kernel) rfl))
  obtain ⟨c1, i1, h1⟩ := u_known (C := RX1) (T := TX1) (N := 3) (n := 3) hts mcl_X1.1 (hts (.instantiable RX1 3) (mTB_mem 262 (by decide +kernel) rfl))
  obtain ⟨c2, i2, h2⟩ := u_known (C := RX2) (T := TX2) (N := 10) (n := 10) hts mcl_X2.1 (hts (.instantiable RX2 10) (mTB_mem 80 (by decide +kernel) rfl))
  obtain ⟨c3, i3, h3⟩ := u_known (C := RX3) (T := TX3) (N := 2) (n := 2) hts mcl_X3.1 (hts (.instantiable RX3 2) (mTB_mem 146 (by decide +kernel) rfl))
  obtain ⟨c4, i4, h4⟩ := u_known (C := RX4) (T := TX4) (N := 8) (n := 8) hts mcl_X4.1 (hts (.instantiable RX4 8) (mTB_mem 214 (by decide +kernel) rfl))
  obtain ⟨c5, i5, h5⟩ := u_known (C := RX5) (T := TX5) (N := 14) (n := 14) hts mcl_X5.1 (hts (.instantiable RX5 14) (mTB_mem 161 (by decide +kernel) rfl))
  obtain ⟨c6, i6, h6⟩ := u_known (C := RX6) (T := TX6) (N := 6) (n := 6) hts mcl_X6.1 (hts (.instantiable RX6 6) (mTB_mem 72 (by decide +kernel) rfl))
  obtain ⟨c7, i7, h7⟩ := u_known (C := RX7) (T := TX7) (N := 17) (n := 17) hts mcl_X7.1 (hts (.instantiable RX7 17) (mTB_mem 777 (by decide +kernel) rfl))
  refine ⟨(fun k => [c0, c1, c2, c3, c4, c5, c6, c7].getD k c0, fun k => [i0, i1, i2, i3, i4, i5, i6, i7].getD k i0), fun k q hq => ?_, fun k q h => by simp at h⟩
  match k, hq with
  | 0, hq => cases hq; exact h0
  | 1, hq => cases hq; exact h1
  | 2, hq => cases hq; exact h2
  | 3, hq => cases hq; exact h3
  | 4, hq => cases hq; exact h4
  | 5, hq => cases hq; exact h5
  | 6, hq => cases hq; exact h6
  | 7, hq => cases hq; exact h7
  | k + 8, hq => simp [mCl] at hq
-- ===== YOUR PART BEGINS =====
set_option maxHeartbeats 1000000 in
set_option maxRecDepth 100000 in
theorem whole_start {p : Program} {e : Env} {s : State} {m : MethodId} {below : List Frame} {meth : Method} {c : Code} (l : Launch) (hflags : l.flags = flags0) {b L : Nat} {xs : Nat → Int32} (hL : L ≤ 2048) (C0 : lw_At p s m meth c b L xs) : W p l e room_1 s m #[Value.ref b] below meth c s.heap [] 0 0 (lw_Z below #[Value.ref b] s) (entryFrame m ([Value.ref b] : List Value).toArray 7) := by
  obtain ⟨hx, hb, hr, hml, hown, hts, hXX, hbl, hlocks, hgv⟩ := id C0
  have hts' : ∀ w ∈ mTB, w.before #[Value.ref b] s = true := fun w hw => hts w (mTB_tbl hw)
  have hlt := no_trace l hflags
  have hNst : mNest s := fun q hq => va_Nw.of rfl (hts _ (mNestL_ok q hq))
  have hNs2 : mNes2 s := fun q hq => va_Nw.of rfl (hts _ (mNestI_ok q hq))
  have hAOA : va_AOA .int s := hts (.arrayOver (.array .int)) (List.mem_of_getElem? (i := 86) (by decide +kernel))
  have hX := xPr_at hts
  have hZ := xZ_at hts hgv
  obtain ⟨D, hK⟩ := known_at hts'
  obtain ⟨A, hAd⟩ : ∃ A : Nat → Prop, A = (fun q : Nat => s.heap.size ≤ q) := ⟨_, rfl⟩
  have hA : ∀ q : Nat, s.heap.size ≤ q → A q := fun q h => by rw [hAd]; exact h
  have hS : va_S A s.heap s.heap [] := va_S.rf
  have hP : va_P D mCl [] s.heap := fun k q h => by simp at h
  have hD : va_D A [] := ⟨fun i j p q h => by simp at h, fun k q h => by simp at h⟩
  have hl := lv_entry ([.ref b]) (n := 7) (Nat.le_of_ble_eq_true rfl)
  rw [lg_entry_eq]
  generalize (lg_sl ([.ref b]) ++ List.replicate (7 - (lg_sl ([.ref b])).length) Slot.unset).toArray = ls at hl ⊢
  have hl : lv_has ls 7 [(0, .ref b)] := hl
  refine va_new (ci := 6) (fs := [.null, .null, .null, .null, .null, .null]) (C := RX6) (T := TX6) (N := 6) hx hb hts' mcl_X6.1 tyX6 tyX6_ok hown (hts' (.classLink RL 8 RX6) (mTB_mem 71 (by decide +kernel) rfl)) (hts' (.instantiable RX6 6) (mTB_mem 72 (by decide +kernel) rfl)) (hts' (.initialized RX6) (mTB_mem 56 (by decide +kernel) rfl)) hK hP hD hS hA rfl (fun j hj => by rcases (show j = 0 ∨ j = 1 ∨ j = 2 ∨ j = 3 ∨ j = 4 ∨ j = 5 by omega) with rfl | rfl | rfl | rfl | rfl | rfl <;> rfl) (Nat.le_of_ble_eq_true rfl) (Nat.le_of_ble_eq_true rfl) dL_law_0 (fun q0 H hP hD hS => ?_)
  have hP : va_P D mCl [(q0, .inr (6, [.null, .null, .null, .null, .null, .null]))] H := hP
  have hD : va_D A [(q0, .inr (6, [.null, .null, .null, .null, .null, .null]))] := hD
  refine W.widen (k := 1) (n := 6) (Nat.le_of_ble_eq_true rfl) (Nat.le_of_ble_eq_true rfl) ?_
  refine lv_dup hx hb dL_law_3 rfl ?_
  have hPc : va_P D mCl [(q0, .inr (6, [.null, .null, .null, .null, .null, .null]))] H := fun k9 q9 h9 => by
    cases k9 with
    | zero => cases h9; exact hP 0 _ rfl
    | succ k9 => simp at h9
  have hDc : va_D (fun _ => True) [(q0, .inr (6, [.null, .null, .null, .null, .null, .null]))] := ⟨fun i j p9 q9 h1 h2 _ => by have := (List.getElem?_eq_some_iff.mp h1).1; have := (List.getElem?_eq_some_iff.mp h2).1; simp at *; omega, fun _ _ _ => trivial⟩
  have hKc := hK.sub (tys' := []) [] rfl
  have hFc : ∀ q9, va_A [(q0, .inr (6, [.null, .null, .null, .null, .null, .null]))] H.size q9 → A q9 := va_free hD hS hA [0] rfl
  refine va_callv (va_runI (As := []) (rest := [.ref q0]) ⟨hx, hb, hml, hown, hts'⟩ (c_X6_init l D q0 H.size) (cwI 0 hts' (mWs_good (mTB_mem 75 (by decide +kernel) rfl)) rfl rfl rfl (hts' (.initialized RX6) (mTB_mem 56 (by decide +kernel) rfl)) (hts' (.methodLink RL 15 yX6_init) (mTB_mem 73 (by decide +kernel) rfl)) (hts' (.instanceMethod yX6_init) (mTB_mem 74 (by decide +kernel) rfl)) rfl (by decide +kernel) ⟨Nat.le_of_ble_eq_true rfl, Nat.le_of_ble_eq_true rfl⟩) ⟨fun a U g mk q => by obtain ⟨q0, q1, qP, qK, qD, qA, qN, qM⟩ := q; exact ⟨q0, q1, qP, va_K.moved (u := U) (U := U.calling g mk a) (Vm.Alike.refl U.vm) qK, qD, va_AOA.moved (u := U) (U := U.calling g mk a) (Vm.Alike.refl U.vm) qA, mNest_same (u := U) rfl qN, mNes2_same (u := U) rfl qM⟩, fun U hU hW => ⟨rfl, by rw [hU], by rw [hU]; exact hPc, va_K.moved hW.alike hKc, hDc, hAOA.moved hW.alike, mNest_warm hW hNst, mNes2_warm hW hNs2⟩⟩ rfl rfl hl.1 rfl (lv_room (Nat.le_of_ble_eq_true rfl)) dL_law_4 ⟨Nat.le_of_ble_eq_true rfl, Nat.le_of_ble_eq_true rfl⟩) hS (fun q _ h => hFc q h) hFc (fun u t H1 locs ht hvm hw hB hz1 hk1 hS => ?_)
  obtain ⟨aH, kH, γ⟩ := u
  obtain ⟨hP1, hK1, hD1⟩ := hB
  obtain ⟨hw0, hCI⟩ := hw
  dsimp only at hw0 hCI hP1 hK1 hD1
  subst hw0
  rw [ht] at hP1
  have kkH := va_K.moved hvm.symm hK1
  obtain ⟨hP, hD⟩ := va_joinI (w1 := mW aH kH mLayH γ) hP hD 0 rfl hk1 hFc hP1 hD1
  rw [List.eraseIdx_cons_zero, List.nil_append] at hP hD
  refine W.widen (k := 56) (n := 722) (Nat.le_of_ble_eq_true rfl) (Nat.le_of_ble_eq_true rfl) ?_
  refine lv_astore_n (lv' := [(1, .ref (aH 0)), (0, .ref b)]) hx hb dL_law_7 rfl hl (by decide) rfl (fun ls hl => ?_)
  refine va_new (ci := 7) (fs := [.int 0, .int 0, .int 0, .null, .null, .null, .null, .int 0, .int 0, .null, .int 0, .int 0, .int 0, .int 0, .int 0, .int 0, .null]) (C := RX7) (T := TX7) (N := 17) hx hb hts' mcl_X7.1 tyX7 tyX7_ok hown (hts' (.classLink RL 16 RX7) (mTB_mem 776 (by decide +kernel) rfl)) (hts' (.instantiable RX7 17) (mTB_mem 777 (by decide +kernel) rfl)) (hts' (.initialized RX7) (mTB_mem 64 (by decide +kernel) rfl)) hK hP hD hS hA rfl (fun j hj => by rcases (show j = 0 ∨ j = 1 ∨ j = 2 ∨ j = 3 ∨ j = 4 ∨ j = 5 ∨ j = 6 ∨ j = 7 ∨ j = 8 ∨ j = 9 ∨ j = 10 ∨ j = 11 ∨ j = 12 ∨ j = 13 ∨ j = 14 ∨ j = 15 ∨ j = 16 by omega) with rfl | rfl | rfl | rfl | rfl | rfl | rfl | rfl | rfl | rfl | rfl | rfl | rfl | rfl | rfl | rfl | rfl <;> rfl) (Nat.le_of_ble_eq_true rfl) (Nat.le_of_ble_eq_true rfl) dL_law_8 (fun m0 H hP hD hS => ?_)
  have hP : va_P D mCl ((m0, .inr (7, [.int 0, .int 0, .int 0, .null, .null, .null, .null, .int 0, .int 0, .null, .int 0, .int 0, .int 0, .int 0, .int 0, .int 0, .null])) :: mW aH kH mLayH γ) H := va_P_perm hP (List.perm_append_singleton ((m0, .inr (7, [.int 0, .int 0, .int 0, .null, .null, .null, .null, .int 0, .int 0, .null, .int 0, .int 0, .int 0, .int 0, .int 0, .int 0, .null])) : Nat × va_E) _).symm
  have hD : va_D A ((m0, .inr (7, [.int 0, .int 0, .int 0, .null, .null, .null, .null, .int 0, .int 0, .null, .int 0, .int 0, .int 0, .int 0, .int 0, .int 0, .null])) :: mW aH kH mLayH γ) := va_D_perm hD (List.perm_append_singleton ((m0, .inr (7, [.int 0, .int 0, .int 0, .null, .null, .null, .null, .int 0, .int 0, .null, .int 0, .int 0, .int 0, .int 0, .int 0, .int 0, .null])) : Nat × va_E) _).symm
  refine W.widen (k := 57) (n := 739) (Nat.le_of_ble_eq_true rfl) (Nat.le_of_ble_eq_true rfl) ?_
  refine lv_dup hx hb dL_law_11 rfl ?_
  have hPc : va_P D mCl [(m0, .inr (7, [.int 0, .int 0, .int 0, .null, .null, .null, .null, .int 0, .int 0, .null, .int 0, .int 0, .int 0, .int 0, .int 0, .int 0, .null]))] H := fun k9 q9 h9 => by
    cases k9 with
    | zero => cases h9; exact hP 0 _ rfl
    | succ k9 => simp at h9
  have hDc : va_D (fun _ => True) [(m0, .inr (7, [.int 0, .int 0, .int 0, .null, .null, .null, .null, .int 0, .int 0, .null, .int 0, .int 0, .int 0, .int 0, .int 0, .int 0, .null]))] := ⟨fun i j p9 q9 h1 h2 _ => by have := (List.getElem?_eq_some_iff.mp h1).1; have := (List.getElem?_eq_some_iff.mp h2).1; simp at *; omega, fun _ _ _ => trivial⟩
  have hKc := hK.sub (tys' := []) [] rfl
  have hFc : ∀ q9, va_A [(m0, .inr (7, [.int 0, .int 0, .int 0, .null, .null, .null, .null, .int 0, .int 0, .null, .int 0, .int 0, .int 0, .int 0, .int 0, .int 0, .null]))] H.size q9 → A q9 := va_free hD hS hA [0] rfl
  refine va_callv (va_runI (As := []) (rest := [.ref m0]) ⟨hx, hb, hml, hown, hts'⟩ (c_X7_init l D m0 H.size) (cwI 0 hts' (mWs_good (mTB_mem 780 (by decide +kernel) rfl)) rfl rfl rfl (hts' (.initialized RX7) (mTB_mem 64 (by decide +kernel) rfl)) (hts' (.methodLink RL 18 yX7_init) (mTB_mem 778 (by decide +kernel) rfl)) (hts' (.instanceMethod yX7_init) (mTB_mem 779 (by decide +kernel) rfl)) rfl (by decide +kernel) ⟨Nat.le_of_ble_eq_true rfl, Nat.le_of_ble_eq_true rfl⟩) ⟨fun a U g mk q => by obtain ⟨q0, q1, qP, qK, qD⟩ := q; exact ⟨q0, q1, qP, va_K.moved (u := U) (U := U.calling g mk a) (Vm.Alike.refl U.vm) qK, qD⟩, fun U hU hW => ⟨rfl, by rw [hU], by rw [hU]; exact hPc, va_K.moved hW.alike hKc, hDc⟩⟩ rfl rfl hl.1 rfl (lv_room (Nat.le_of_ble_eq_true rfl)) dL_law_12 ⟨Nat.le_of_ble_eq_true rfl, Nat.le_of_ble_eq_true rfl⟩) hS (fun q _ h => hFc q h) hFc (fun u t H2 locs ht hvm hw hB hz1 hk1 hS => ?_)
  obtain ⟨uq, uk⟩ := u
  obtain ⟨hP1, hK1, hD1⟩ := hB
  dsimp only at hP1 hK1 hD1
  rw [ht] at hP1
  have kkM := modelK (va_K.moved hvm.symm hK1)
  rw [← modelW (m0 := m0) (uq := uq) (uk := uk)] at hP1 hD1
  obtain ⟨hP, hD⟩ := va_joinI (w1 := mW (aMf m0 uq) (kMf uk) mLayM dM0) hP hD 0 rfl hk1 hFc hP1 hD1
  rw [List.eraseIdx_cons_zero] at hP hD
  refine W.widen (k := 63) (n := 1164) (Nat.le_of_ble_eq_true rfl) (Nat.le_of_ble_eq_true rfl) ?_
  refine lv_astore_n (lv' := [(2, .ref m0), (1, .ref (aH 0)), (0, .ref b)]) hx hb dL_law_15 rfl hl (by decide) rfl (fun ls hl => ?_)
  refine lv_iconst (v := 1) hx hb dL_law_16 (by decide) ?_
  refine va_newa (atype := .long) (N' := 1) (a0 := (1, .inr (.inl (fun _ => 0)))) hx hb (hts' (.arrayClass .long) (mTB_mem 1093 (by decide +kernel) rfl)) rfl hK hP hD hS hA (fun _ => rfl) (by decide) rfl (Nat.le_of_ble_eq_true rfl) (Nat.le_of_ble_eq_true rfl) (Nat.le_of_ble_eq_true rfl) dL_law_17 (fun la kl H hKl hP hD hS => ?_)
  refine W.widen (k := 64) (n := 1165) (Nat.le_of_ble_eq_true rfl) (Nat.le_of_ble_eq_true rfl) ?_
  refine lv_astore_n (lv' := [(3, .ref la), (2, .ref m0), (1, .ref (aH 0)), (0, .ref b)]) hx hb dL_law_19 rfl hl (by decide) rfl (fun ls hl => ?_)
  refine lv_iconst (v := nI 0) hx hb dL_law_20 (by decide) ?_
  refine lv_istore (lv' := [(4, .int (nI 0)), (3, .ref la), (2, .ref m0), (1, .ref (aH 0)), (0, .ref b)]) hx hb dL_law_21 hl (by decide) rfl (fun ls hl => ?_)
  subst hAd
  obtain ⟨hD1, hD2, hD3⟩ := va_D_app hD
  obtain ⟨hDH, hDM, hDx⟩ := va_D_app hD1
  have hlm : ∀ q ∈ [((la, .inl (kl, 1, .inr (.inl (fun _ => 0)))) : Nat × va_E)], q.1 = la := fun q hq => by rw [List.mem_singleton.mp hq]
  have C : LC p s m meth c b L xs D aH (aMf m0 uq) kH (kMf uk) la kl := ⟨C0, hL, kkH, kkM, hKl, hNst, hX, hZ, mInj_D hDH, mInj_D hDM, mA_D hDH, mA_D hDM, hD2.2 0 _ rfl, fun k j hk hj => hDx _ (mW_mem hk) _ (mW_mem hj), fun k hk => hD3 _ (List.mem_append_left _ (mW_mem hk)) _ List.mem_cons_self, fun k hk => hD3 _ (List.mem_append_right _ (mW_mem hk)) _ List.mem_cons_self⟩
  have J : LJ s D aH (aMf m0 uq) kH (kMf uk) la kl γ dM0 (fun _ => 0) H _ := ⟨va_P_left (va_P_left hP), va_P_right (va_P_left hP), va_P_right hP, hS⟩
  exact law_loop hlt C L 0 (Nat.zero_le _) (by omega) γ dM0 (fun _ => 0) H _ N0 0 0 ls hCI MI_00 Dok0 J (lv_sub hl [4, 3, 2, 1, 0] rfl)
-- ===== YOUR PART ENDS =====
