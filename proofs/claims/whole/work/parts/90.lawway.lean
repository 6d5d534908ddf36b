/-! the law's block of way -/
section LB9
variable {p : Program} {l : Launch} {e : Env} {s : State} {m : MethodId} {below : List Frame} {meth : Method} {cd : Code} {b L : Nat} {xs : Nat → Int32} {D : va_G} {aH aM : Nat → Nat} {kH kM : Nat → ClassId} {la : Nat} {kl : ClassId} {γ δ : mS} {f : Nat → Int64} {H : Heap} {locs : List Loc} {cells slots : Nat} {Q : State → Prop} {ls : Array Slot} {i : Nat} {N : Nt} {wt wh : Nat}
theorem no_trace (l : Launch) (h : l.flags = flags0) : l.stackTraces = false := by
  unfold Launch.stackTraces
  rw [h]
  decide +kernel
theorem mWx_good : GoodIn mTB (va_wsS RL 58 yL_way mWx) := by
  intro w hw
  have hm : w ∈ mTB := by
    rcases List.mem_append.mp hw with h | h
    · rcases List.mem_cons.mp h with rfl | h
      · exact (mTB_mem 703 (by decide +kernel) rfl)
      · rcases List.mem_cons.mp h with rfl | h
        · exact (mTB_mem 704 (by decide +kernel) rfl)
        · rcases List.mem_cons.mp h with rfl | h
          · exact (mTB_mem 55 (by decide +kernel) rfl)
          · exact absurd h List.not_mem_nil
    · rcases List.mem_cons.mp h with rfl | h
      · exact (mTB_mem 705 (by decide +kernel) rfl)
      · exact h
  exact ⟨hm, good_of_word (mTB_good hm)⟩
theorem lcmp_rf (x : Int64) : lg_cmp x x = 0 := by simp [lg_cmp]
theorem wy_en {N : Nt} {a b c : Int32} (h : wayQ N a b c ≠ none) : en (wayQ N a b c) = wyA (wayQ N a b c) := by
  cases e : wayQ N a b c with
  | none => exact absurd e h
  | some u => rfl
set_option maxHeartbeats 1000000 in
theorem lb_way (hlt : l.stackTraces = false) (C : LC p s m meth cd b L xs D aH aM kH kM la kl) (J : LJ s D aH aM kH kM la kl γ δ f H locs) (hl5 : lv_has ls 7 (lv5 b (aH 0) (aM 0) la i)) (hi : i + 4 ≤ L) (hCI : CI γ N wt wh) (hMI : MI δ N wt wh) (hc : cells + 1 ≤ room_1.cells ∧ slots + 6 ≤ room_1.slots)
    (kk : ∀ (γ' δ' : mS) (f' : Nat → Int64) (H' : Heap) (locs' : List Loc) (ls' : Array Slot), CI γ' N wt wh → MI δ' N wt wh → LJ s D aH aM kH kM la kl γ' δ' f' H' locs' → lv_has ls' 7 (lv5 b (aH 0) (aM 0) la i) → W p l e room_1 s m #[Value.ref b] below meth cd H' locs' (cells + 1) (slots + 6) Q (F0 m 1262 ls' [])) :
    W p l e room_1 s m #[Value.ref b] below meth cd H locs cells slots Q (F0 m 493 ls []) := by
  obtain ⟨C0, hL, kkH, kkM, kkl, hNst, hX, hZ, hIH, hIM, hgH, hgM, hgl, hap, hapl, hapm⟩ := id C
  obtain ⟨hx, hb, hr, hml, hown, hts, hXX, hbl, hlocks, hgv⟩ := id C0
  have hts' : ∀ w ∈ mTB, w.before #[Value.ref b] s = true := fun w hw => hts w (mTB_tbl hw)
  refine lv_aload_n hx hb dL_law_493 rfl (lv_at hl5 1 rfl) ?_
  refine lw_arg C J.2.2.2 hl5 (j := 1) (v := 1) (by omega) (by decide) (by decide) dL_law_494 dL_law_495 dL_law_497 dL_law_498 dL_law_499 ?_
  refine lw_arg C J.2.2.2 hl5 (j := 2) (v := 2) (by omega) (by decide) (by decide) dL_law_500 dL_law_501 dL_law_503 dL_law_504 dL_law_505 ?_
  refine lw_arg C J.2.2.2 hl5 (j := 3) (v := 3) (by omega) (by decide) (by decide) dL_law_506 dL_law_507 dL_law_509 dL_law_510 dL_law_511 ?_
  refine lv_aload_n hx hb dL_law_512 rfl (lv_at hl5 3 rfl) ?_
  generalize ea : xs (i + 1) = a1
  generalize eb : xs (i + 2) = a2
  generalize ec : xs (i + 3) = a3
  have hSub : ∀ q, mA1 aH la H.size q → s.heap.size ≤ q := by
    rintro q (rfl | ⟨k, hk, rfl⟩ | h)
    · exact hgl
    · exact hgH k hk
    · exact Nat.le_trans J.2.2.2.1 h
  have hPw : va_P D mCl ((la, .inl (kl, 1, .inr (.inl f))) :: mW aH kH mLayH γ) H := va_P_cons.mpr ⟨(va_P_cons.mp J.2.2.1).1, J.1⟩
  have hKw := kkl.app kkH
  rw [List.singleton_append] at hKw
  have hZw : xZ (mA1 aH la H.size) s H := xZ_narrow (xZ_kept hZ (fun a h1 h2 => J.2.2.2.2.1 a h1 h2)) hSub
  refine vx_calli (vx_runSX (As := [.ref (aH 0), .int a1, .int a2, .int a3, .ref la]) (rest := []) ⟨hx, hb, hml, hown, hts'⟩ (c_L_way l hlt D aH kH hIH hCI a1 a2 a3 H.size la kl f hapl) (vx_cwSW 5 hts' mWx_good rfl rfl rfl (by decide +kernel) ⟨Nat.le_of_ble_eq_true rfl, Nat.le_of_ble_eq_true rfl⟩)
    ⟨fun a U g mk q => by obtain ⟨q0, q1, qP, qK, qN, qX, qZ⟩ := q; exact ⟨q0, q1, qP, va_K.moved (u := U) (U := U.calling g mk a) (Vm.Alike.refl U.vm) qK, mNest_same (u := U) rfl qN, xPr_same (u := U) rfl qX, xZ_moved (u := U) (U := U.calling g mk a) (Vm.Alike.refl U.vm) qZ⟩, fun U hU hW => ⟨rfl, by rw [hU], by rw [hU]; exact hPw, va_K.moved hW.alike hKw, mNest_warm hW hNst, xPr_warm hW hX, by rw [hU]; exact xZ_moved hW.alike hZw⟩⟩ rfl rfl hl5.1 rfl (lv_room (Nat.le_of_ble_eq_true rfl)) dL_law_513 hc) J.2.2.2 (fun q _ h => hSub q h) hSub (fun q _ h => hSub q h) (fun E ce q9 u t H1 locs1 ht hvm hp hB hz hk hS hcell hcv hcl => hp.elim) (fun w u t H1 locs1 ht hvm hp hB hz hk hS => ?_)
  obtain ⟨γ1, f1⟩ := u
  obtain ⟨hCI1, hres⟩ := hp
  have hB : va_P D mCl ((la, .inl (kl, 1, .inr (.inl f1))) :: mW aH kH mLayH γ1) t.heap := hB
  rw [ht] at hB
  dsimp only at hCI1 hres
  have J : LJ s D aH aM kH kM la kl γ1 δ f1 H1 locs1 := by
    refine ⟨(va_P_cons.mp hB).2, mW_kept J.2.1 (fun k hk9 hlt9 => hk _ hlt9 ?_), va_P_cons.mpr ⟨(va_P_cons.mp hB).1, fun k q hk => by simp at hk⟩, hS⟩
    rintro (h | ⟨k9, h9, e9⟩ | h)
    · exact hapm k hk9 h
    · exact hap k9 k h9 hk9 e9.symm
    · omega
  have hl : lv_has ls 7 [(0, .ref b), (1, .ref (aH 0)), (2, .ref (aM 0)), (3, .ref la), (4, .int (nI i))] := hl5
  show W p l e room_1 s m #[Value.ref b] below meth cd H1 locs1 (cells + 1) (slots + 6) Q (F0 m 516 ls [.int w])
  refine lv_istore (lv' := [(5, .int w), (0, .ref b), (1, .ref (aH 0)), (2, .ref (aM 0)), (3, .ref la), (4, .int (nI i))]) hx hb dL_law_516 hl (by decide) rfl (fun ls hl => ?_)
  have hl5 : lv_has ls 7 (lv5 b (aH 0) (aM 0) la i) := lv_sub hl [1, 2, 3, 4, 5] rfl
  refine lv_aload_n hx hb dL_law_518 rfl (lv_at hl 3 rfl) ?_
  refine lw_arg C J.2.2.2 hl5 (j := 1) (v := 1) (by omega) (by decide) (by decide) dL_law_519 dL_law_520 dL_law_522 dL_law_523 dL_law_524 ?_
  refine lw_arg C J.2.2.2 hl5 (j := 2) (v := 2) (by omega) (by decide) (by decide) dL_law_525 dL_law_526 dL_law_528 dL_law_529 dL_law_530 ?_
  refine lw_arg C J.2.2.2 hl5 (j := 3) (v := 3) (by omega) (by decide) (by decide) dL_law_531 dL_law_532 dL_law_534 dL_law_535 dL_law_536 ?_
  rw [ea, eb, ec]
  refine mCallV (D := D) (ad := aM) (ca := kM) (lay := mLayM) (b := 0) (as1 := [.int a1, .int a2, .int a3]) (rest := []) (Qm := fun r d' => r = some (wyA (wayQ N a1 a2 a3)) ∧ MI d' N wt wh ∧ d' 0 0 = bi (wayQ N a1 a2 a3).isNone) ⟨hx, hb, hml, hown, hts'⟩ mt_X7_way (mTB_mem 928 (by decide +kernel) rfl) hIM kkM hNst J.2.1 rfl (P_way hMI (fun d' h1 h2 => ⟨rfl, h1, h2⟩)) rfl (by decide) ⟨Nat.le_of_ble_eq_true rfl, Nat.le_of_ble_eq_true rfl⟩ hl.1 rfl (Nat.le_of_ble_eq_true rfl) dL_law_537 hc J.2.2.2 hgM (fun _ h => h) (fun q τ H1 locs1 hq hAf => ?_)
  obtain ⟨rfl, hMI1, hth⟩ := hq
  have J := LJ_M C J hAf
  show W p l e room_1 s m #[Value.ref b] below meth cd H1 locs1 (cells + 1) (slots + 6) Q (F0 m 540 ls [.int (wyA (wayQ N a1 a2 a3))])
  refine lv_istore (lv' := [(6, .int (wyA (wayQ N a1 a2 a3))), (5, .int w), (0, .ref b), (1, .ref (aH 0)), (2, .ref (aM 0)), (3, .ref la), (4, .int (nI i))]) hx hb dL_law_540 hl (by decide) rfl (fun ls hl => ?_)
  have hl5 : lv_has ls 7 (lv5 b (aH 0) (aM 0) la i) := lv_sub hl [2, 3, 4, 5, 6] rfl
  refine lv_aload_n hx hb dL_law_542 rfl (lv_at hl 4 rfl) ?_
  refine mCallV (D := D) (ad := aM) (ca := kM) (lay := mLayM) (b := 0) (as1 := []) (rest := []) (Qm := fun r d2 => r = some (τ 0 0) ∧ d2 = τ) ⟨hx, hb, hml, hown, hts'⟩ mt_X7_thrown (mTB_mem 834 (by decide +kernel) rfl) hIM kkM hNst J.2.1 rfl (P_thrown.mpr ⟨rfl, rfl⟩) rfl (by decide) ⟨Nat.le_of_ble_eq_true rfl, Nat.le_of_ble_eq_true rfl⟩ hl.1 rfl (Nat.le_of_ble_eq_true rfl) dL_law_543 hc J.2.2.2 hgM (fun _ h => h) (fun q τ2 H3 locs3 hq hAf3 => ?_)
  obtain ⟨rfl, rfl⟩ := hq
  have J := LJ_M C J hAf3
  show W p l e room_1 s m #[Value.ref b] below meth cd H3 locs3 (cells + 1) (slots + 6) Q (F0 m 546 ls [.int (τ2 0 0)])
  have hend := kk _ _ _ _ _ _ hCI1 hMI1 J hl5
  refine lv_iload hx hb dL_law_546 (lv_at hl 1 rfl) ?_
  have heq : τ2 0 0 = w := by
    rw [hth]
    rcases hres with ⟨h1, h2⟩ | ⟨h1, h2, h3⟩
    · rw [h1, h2]; rfl
    · rw [h2]
      cases e9 : wayQ N a1 a2 a3 with
      | none => exact absurd e9 h1
      | some u => rfl
  refine lv_icmp_eq (tgt := 553) hx hb dL_law_548 (by decide) (fun _ => ?_) (fun hne => absurd heq hne)
  refine lv_iload hx hb dL_law_553 (lv_at hl 1 rfl) ?_
  refine lv_if_ne (tgt := 570) hx hb dL_law_555 (by decide) (fun _ => ?_) (fun hw0 => ?_)
  · refine lv_goto (tgt := 1262) hx hb dL_law_570 (by decide) ?_
    exact hend
  · have h3 : f1 0 = (wyA (wayQ N a1 a2 a3)).toInt64 := by
      rcases hres with ⟨h1, h2⟩ | ⟨h1, h2, h3⟩
      · rw [h2] at hw0; exact absurd hw0 (by decide)
      · rw [h3, wy_en h1]
    refine lv_aload_n hx hb dL_law_558 rfl (lv_at hl 5 rfl) ?_
    refine lv_iconst (v := 0) hx hb dL_law_559 (by decide) ?_
    refine va_lald hx hb kkl J.2.2.1 0 0 rfl rfl (by unfold vp_in; decide) dL_law_560 ?_
    refine lv_iload hx hb dL_law_561 (lv_at hl 0 rfl) ?_
    refine lv_i2l (v := (wyA (wayQ N a1 a2 a3)).toInt64) hx hb dL_law_563 rfl ?_
    refine W.lcmp hx hb dL_law_564 ?_
    refine lv_if_eq (tgt := 570) hx hb dL_law_565 (by decide) (fun _ => ?_) (fun hne => absurd ?_ hne)
    · refine lv_goto (tgt := 1262) hx hb dL_law_570 (by decide) ?_
      exact hend
    · show lg_cmp (f1 0) _ = 0
      rw [h3]; exact lcmp_rf _
end LB9
