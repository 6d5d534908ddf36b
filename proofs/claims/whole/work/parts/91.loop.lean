/-! the law's loop -/
section LL1
theorem and31 (x : Int32) : ∃ k : Nat, k < 32 ∧ x &&& 31 = nI k := by
  refine ⟨x.toBitVec.toNat % 32, Nat.mod_lt _ (by decide), ?_⟩
  apply Int32.toBitVec_inj.mp
  apply BitVec.eq_of_toNat_eq
  have h1 : (x &&& 31).toBitVec.toNat = x.toBitVec.toNat % 32 := by
    rw [Int32.toBitVec_and, BitVec.toNat_and]
    exact Nat.and_two_pow_sub_one_eq_mod x.toBitVec.toNat 5
  rw [h1]
  have h2 : (nI (x.toBitVec.toNat % 32)).toBitVec.toNat = x.toBitVec.toNat % 32 := by
    show (BitVec.ofNat 32 _).toNat = _
    rw [BitVec.toNat_ofNat]
    exact Nat.mod_eq_of_lt (by have := Nat.mod_lt x.toBitVec.toNat (show 32 > 0 by decide); omega)
  rw [h2]
theorem loop_cmp {L i : Nat} (hL : L ≤ 2048) (hi : i ≤ 2048) : (nI L - 4 < nI i) ↔ L < i + 4 := by
  by_cases h : L < 4
  · refine ⟨fun _ => by omega, fun _ => ?_⟩
    have h0 : nI L - 4 < 0 := by
      rcases (show L = 0 ∨ L = 1 ∨ L = 2 ∨ L = 3 by omega) with rfl | rfl | rfl | rfl <;> decide
    exact Int32.lt_of_lt_of_le h0 (nI_pos' (by omega))
  · obtain ⟨k, rfl⟩ : ∃ k, L = k + 4 := ⟨L - 4, by omega⟩
    have e : nI (k + 4) - 4 = nI k := by
      rw [← nI_add k 4]
      exact Int32.add_sub_cancel _ _
    rw [e, nI_ltI (by omega) (by omega)]
    omega
variable {p : Program} {l : Launch} {e : Env} {s : State} {m : MethodId} {below : List Frame} {meth : Method} {cd : Code} {b L : Nat} {xs : Nat → Int32} {D : va_G} {aH aM : Nat → Nat} {kH kM : Nat → ClassId} {la : Nat} {kl : ClassId}
set_option maxHeartbeats 4000000 in
theorem law_loop (hlt : l.stackTraces = false) (C : LC p s m meth cd b L xs D aH aM kH kM la kl) : ∀ (n i : Nat), i ≤ L → L ≤ i + 4 * n → ∀ (γ δ : mS) (f : Nat → Int64) (H : Heap) (locs : List Loc) (N : Nt) (wt wh : Nat) (ls : Array Slot), CI γ N wt wh → MI δ N wt wh → Dok N wt wh → LJ s D aH aM kH kM la kl γ δ f H locs → lv_has ls 7 (lv5 b (aH 0) (aM 0) la i) →
    W p l e room_1 s m #[Value.ref b] below meth cd H locs (64 + i) (1165 + 6 * i) (lw_Z below #[Value.ref b] s) (F0 m 23 ls []) := by
  intro n
  induction n with
  | zero =>
    intro i hiL hn γ δ f H locs N wt wh ls hCI hMI hDk J hl
    obtain ⟨C0, hL, -⟩ := id C
    obtain ⟨hx, hb, hr, hml, hown, hts, hXX, hbl, hlocks, hgv⟩ := id C0
    refine lv_iload hx hb dL_law_23 (lv_at hl 4 rfl) ?_
    refine lv_aload_n hx hb dL_law_25 rfl (lv_at hl 0 rfl) ?_
    refine va_slen (A := fun q => s.heap.size ≤ q) hx hb hXX hbl (Nat.not_le.mpr hbl) J.2.2.2 dL_law_26 ?_
    refine lv_iconst (v := 4) hx hb dL_law_27 (by decide) ?_
    refine lv_isub hx hb dL_law_28 ?_
    refine lv_icmp_gt (tgt := 1268) hx hb dL_law_29 (by decide) (fun _ => ?_) (fun hne => absurd ((loop_cmp hL (by omega)).mpr (by omega)) hne)
    refine va_forget J.2.2.2.2.2 ?_
    refine W.widen (k := 613224) (n := 7256432) (by omega) (by omega) ?_
    refine lv_iconst (v := 1) hx hb dL_law_1268 (by decide) ?_
    exact lw_ret hx hb hr hlocks dL_law_1269
  | succ n ih =>
    intro i hiL hn γ δ f H locs N wt wh ls hCI hMI hDk J hl
    obtain ⟨C0, hL, -⟩ := id C
    obtain ⟨hx, hb, hr, hml, hown, hts, hXX, hbl, hlocks, hgv⟩ := id C0
    refine lv_iload hx hb dL_law_23 (lv_at hl 4 rfl) ?_
    refine lv_aload_n hx hb dL_law_25 rfl (lv_at hl 0 rfl) ?_
    refine va_slen (A := fun q => s.heap.size ≤ q) hx hb hXX hbl (Nat.not_le.mpr hbl) J.2.2.2 dL_law_26 ?_
    refine lv_iconst (v := 4) hx hb dL_law_27 (by decide) ?_
    refine lv_isub hx hb dL_law_28 ?_
    refine lv_icmp_gt (tgt := 1268) hx hb dL_law_29 (by decide) (fun _ => ?_) (fun hne => ?_)
    · refine va_forget J.2.2.2.2.2 ?_
      refine W.widen (k := 613224) (n := 7256432) (by omega) (by omega) ?_
      refine lv_iconst (v := 1) hx hb dL_law_1268 (by decide) ?_
      exact lw_ret hx hb hr hlocks dL_law_1269
    have hi : i + 4 ≤ L := Nat.not_lt.mp (fun q => hne ((loop_cmp hL (by omega)).mpr q))
    have hnext : ∀ (N' : Nt) (wt' wh' : Nat) (γ' δ' : mS) (f' : Nat → Int64) (H' : Heap) (locs' : List Loc) (ls' : Array Slot), CI γ' N' wt' wh' → MI δ' N' wt' wh' → Dok N' wt' wh' → LJ s D aH aM kH kM la kl γ' δ' f' H' locs' → lv_has ls' 7 (lv5 b (aH 0) (aM 0) la i) → W p l e room_1 s m #[Value.ref b] below meth cd H' locs' (64 + i + 1) (1165 + 6 * i + 6) (lw_Z below #[Value.ref b] s) (F0 m 1262 ls' []) := by
      intro N' wt' wh' γ' δ' f' H' locs' ls' h1 h2 h3 h4 h5
      have h6 : lv_has ls' 7 [(0, .ref b), (1, .ref (aH 0)), (2, .ref (aM 0)), (3, .ref la), (4, .int (nI i))] := h5
      refine lv_iinc (v := nI (i + 4)) (lv' := [(4, .int (nI (i + 4))), (0, .ref b), (1, .ref (aH 0)), (2, .ref (aM 0)), (3, .ref la)]) hx hb dL_law_1262 h6 (k := 4) rfl (nI_add i 4) (by decide) rfl (fun ls2 h7 => ?_)
      refine lv_goto (tgt := 23) hx hb dL_law_1265 (by decide) ?_
      refine W.widen (k := 64 + (i + 4)) (n := 1165 + 6 * (i + 4)) (by omega) (by omega) ?_
      exact ih (i + 4) hi (by omega) γ' δ' f' H' locs' N' wt' wh' ls2 h1 h2 h3 h4 (lv_sub h7 [1, 2, 3, 4, 0] rfl)
    have hc : 64 + i ≤ room_1.cells ∧ 1165 + 6 * i ≤ room_1.slots := ⟨by show 64 + i ≤ 613224; omega, by show 1165 + 6 * i ≤ 7256432; omega⟩
    have hc9 : 64 + i + 1 ≤ room_1.cells ∧ 1165 + 6 * i + 6 ≤ room_1.slots := ⟨by show 64 + i + 1 ≤ 613224; omega, by show 1165 + 6 * i + 6 ≤ 7256432; omega⟩
    have hk : ∀ (N' : Nt) (wt' wh' : Nat) (γ' δ' : mS) (H' : Heap) (locs' : List Loc), CI γ' N' wt' wh' → MI δ' N' wt' wh' → Dok N' wt' wh' → LJ s D aH aM kH kM la kl γ' δ' f H' locs' → W p l e room_1 s m #[Value.ref b] below meth cd H' locs' (64 + i) (1165 + 6 * i) (lw_Z below #[Value.ref b] s) (F0 m 1262 ls []) :=
      fun N' wt' wh' γ' δ' H' locs' h1 h2 h3 h4 => W.widen (k := 64 + i + 1) (n := 1165 + 6 * i + 6) (by omega) (by omega) (hnext N' wt' wh' γ' δ' f H' locs' ls h1 h2 h3 h4 hl)
    refine lv_aload_n hx hb dL_law_32 rfl (lv_at hl 0 rfl) ?_
    refine lv_iload hx hb dL_law_33 (lv_at hl 4 rfl) ?_
    refine va_sld (A := fun q => s.heap.size ≤ q) hx hb hXX hbl (Nat.not_le.mpr hbl) J.2.2.2 (nI_in (by omega) (by omega)) dL_law_35 ?_
    refine lv_bipush (v := 31) hx hb dL_law_36 (by decide) ?_
    refine lv_iand hx hb dL_law_38 ?_
    obtain ⟨k, hk32, ek⟩ := and31 (xs (nI i).toNatClampNeg)
    rw [ek]
    rcases (show k = 0 ∨ k = 1 ∨ k = 2 ∨ k = 3 ∨ k = 4 ∨ k = 5 ∨ k = 6 ∨ k = 7 ∨ k = 8 ∨ k = 9 ∨ k = 10 ∨ k = 11 ∨ k = 12 ∨ k = 13 ∨ k = 14 ∨ k = 15 ∨ k = 16 ∨ k = 17 ∨ k = 18 ∨ k = 19 ∨ k = 20 ∨ k = 21 ∨ k = 22 ∨ k = 23 ∨ k = 24 ∨ k = 25 ∨ k = 26 ∨ 27 ≤ k by omega) with rfl | rfl | rfl | rfl | rfl | rfl | rfl | rfl | rfl | rfl | rfl | rfl | rfl | rfl | rfl | rfl | rfl | rfl | rfl | rfl | rfl | rfl | rfl | rfl | rfl | rfl | rfl | h27
    · refine lv_tableIn (tgt := 160) (off := 121) hx hb dL_law_39 (by decide) (by decide) rfl (by decide) ?_
      exact lb_nodes C J hl hi (pr_nodes hCI hMI hDk) hc hk
    · refine lv_tableIn (tgt := 185) (off := 146) hx hb dL_law_39 (by decide) (by decide) rfl (by decide) ?_
      exact lb_link C J hl hi (pr_link hCI hMI hDk) hc hk
    · refine lv_tableIn (tgt := 234) (off := 195) hx hb dL_law_39 (by decide) (by decide) rfl (by decide) ?_
      exact lb_cost C J hl hi (pr_cost hCI hMI hDk) hc hk
    · refine lv_tableIn (tgt := 271) (off := 232) hx hb dL_law_39 (by decide) (by decide) rfl (by decide) ?_
      exact lb_groups C J hl hi (pr_groups hCI hMI hDk) hc hk
    · refine lv_tableIn (tgt := 308) (off := 269) hx hb dL_law_39 (by decide) (by decide) rfl (by decide) ?_
      exact lb_down C J hl hi (pr_down hCI hMI hDk) hc hk
    · refine lv_tableIn (tgt := 345) (off := 306) hx hb dL_law_39 (by decide) (by decide) rfl (by decide) ?_
      exact lb_of C J hl hi (pr_of hCI hMI hDk) hc hk
    · refine lv_tableIn (tgt := 382) (off := 343) hx hb dL_law_39 (by decide) (by decide) rfl (by decide) ?_
      exact lb_between C J hl hi (pr_between hCI hMI hDk) hc hk
    · refine lv_tableIn (tgt := 419) (off := 380) hx hb dL_law_39 (by decide) (by decide) rfl (by decide) ?_
      exact lb_far C J hl hi (pr_far hCI hMI hDk) hc hk
    · refine lv_tableIn (tgt := 456) (off := 417) hx hb dL_law_39 (by decide) (by decide) rfl (by decide) ?_
      exact lb_next C J hl hi (pr_next hCI hMI hDk) hc hk
    · refine lv_tableIn (tgt := 493) (off := 454) hx hb dL_law_39 (by decide) (by decide) rfl (by decide) ?_
      exact lb_way hlt C J hl hi hCI hMI hc9 (fun γ' δ' f' H' locs' ls' h1 h2 h4 h5 => hnext N wt wh γ' δ' f' H' locs' ls' h1 h2 hDk h4 h5)
    · refine lv_tableIn (tgt := 573) (off := 534) hx hb dL_law_39 (by decide) (by decide) rfl (by decide) ?_
      exact lb_ones C J hl hi (pr_ones hCI hMI hDk) hc hk
    · refine lv_tableIn (tgt := 622) (off := 583) hx hb dL_law_39 (by decide) (by decide) rfl (by decide) ?_
      exact lb_alternate C J hl hi (pr_alternate hCI hMI hDk) hc hk
    · refine lv_tableIn (tgt := 659) (off := 620) hx hb dL_law_39 (by decide) (by decide) rfl (by decide) ?_
      exact lb_space C J hl hi (pr_space hCI hMI hDk) hc hk
    · refine lv_tableIn (tgt := 708) (off := 669) hx hb dL_law_39 (by decide) (by decide) rfl (by decide) ?_
      exact lb_tunnel C J hl hi (pr_tunnel hCI hMI hDk) hc hk
    · refine lv_tableIn (tgt := 757) (off := 718) hx hb dL_law_39 (by decide) (by decide) rfl (by decide) ?_
      exact lb_repair C J hl hi (pr_repair hCI hMI hDk) hc hk
    · refine lv_tableIn (tgt := 794) (off := 755) hx hb dL_law_39 (by decide) (by decide) rfl (by decide) ?_
      exact lb_send C J hl hi (pr_send hCI hMI hDk) hc hk
    · refine lv_tableIn (tgt := 843) (off := 804) hx hb dL_law_39 (by decide) (by decide) rfl (by decide) ?_
      exact lb_trace C J hl hi (pr_trace hCI hMI hDk) hc hk
    · refine lv_tableIn (tgt := 892) (off := 853) hx hb dL_law_39 (by decide) (by decide) rfl (by decide) ?_
      exact lb_behind C J hl hi (pr_behind hCI hMI hDk) hc hk
    · refine lv_tableIn (tgt := 941) (off := 902) hx hb dL_law_39 (by decide) (by decide) rfl (by decide) ?_
      exact lb_nextBehind C J hl hi (pr_nextBehind hCI hMI hDk) hc hk
    · refine lv_tableIn (tgt := 990) (off := 951) hx hb dL_law_39 (by decide) (by decide) rfl (by decide) ?_
      exact lb_hit C J hl hi (pr_hit hCI hMI hDk) hc hk
    · refine lv_tableIn (tgt := 1027) (off := 988) hx hb dL_law_39 (by decide) (by decide) rfl (by decide) ?_
      exact lb_holds C J hl hi (pr_holds hCI hMI hDk) hc hk
    · refine lv_tableIn (tgt := 1076) (off := 1037) hx hb dL_law_39 (by decide) (by decide) rfl (by decide) ?_
      exact lb_round C J hl hi (pr_round hCI hMI hDk) hc hk
    · refine lv_tableIn (tgt := 1125) (off := 1086) hx hb dL_law_39 (by decide) (by decide) rfl (by decide) ?_
      exact lb_covered C J hl hi (pr_covered hCI hMI hDk) hc hk
    · refine lv_tableIn (tgt := 1150) (off := 1111) hx hb dL_law_39 (by decide) (by decide) rfl (by decide) ?_
      exact lb_cut C J hl hi (pr_cut hCI hMI hDk) hc hk
    · refine lv_tableIn (tgt := 1187) (off := 1148) hx hb dL_law_39 (by decide) (by decide) rfl (by decide) ?_
      exact lb_spare C J hl hi (pr_spare hCI hMI hDk) hc hk
    · refine lv_tableIn (tgt := 1224) (off := 1185) hx hb dL_law_39 (by decide) (by decide) rfl (by decide) ?_
      exact lb_centre C J hl hi (pr_centre hCI hMI hDk) hc hk
    · refine lv_tableIn (tgt := 1237) (off := 1198) hx hb dL_law_39 (by decide) (by decide) rfl (by decide) ?_
      exact lb_count C J hl hi (pr_count hCI hMI hDk) hc hk
    · refine lv_tableOut (tgt := 1262) hx hb dL_law_39 (Or.inr (by rw [nI_toInt (by omega)]; omega)) (by decide) ?_
      exact hk N wt wh γ δ H locs hCI hMI hDk J
end LL1
