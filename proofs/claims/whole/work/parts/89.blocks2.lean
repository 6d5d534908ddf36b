/-! the law's blocks (printed by wip/whole/gen_law1.py) -/
section LB
variable {p : Program} {l : Launch} {e : Env} {s : State} {m : MethodId} {below : List Frame} {meth : Method} {cd : Code} {b L : Nat} {xs : Nat → Int32} {D : va_G} {aH aM : Nat → Nat} {kH kM : Nat → ClassId} {la : Nat} {kl : ClassId} {γ δ : mS} {f : Nat → Int64} {H : Heap} {locs : List Loc} {cells slots : Nat} {Q : State → Prop} {ls : Array Slot} {i : Nat}
theorem lb_ones (C : LC p s m meth cd b L xs D aH aM kH kM la kl) (J : LJ s D aH aM kH kM la kl γ δ f H locs) (hl : lv_has ls 7 (lv5 b (aH 0) (aM 0) la i)) (hi : i + 4 ≤ L) (hp : PairOK 68 4 124 4 [.int (xs (i + 1)), .int (xs (i + 2)), .int (xs (i + 3))] γ δ) (hc : cells ≤ room_1.cells ∧ slots ≤ room_1.slots)
    (kk : ∀ (N' : Nt) (wt' wh' : Nat) (γ' δ' : mS) (H' : Heap) (locs' : List Loc), CI γ' N' wt' wh' → MI δ' N' wt' wh' → Dok N' wt' wh' → LJ s D aH aM kH kM la kl γ' δ' f H' locs' → W p l e room_1 s m #[Value.ref b] below meth cd H' locs' cells slots Q (F0 m 1262 ls [])) :
    W p l e room_1 s m #[Value.ref b] below meth cd H locs cells slots Q (F0 m 573 ls []) := by
  obtain ⟨r, N', wt', wh', w1, w2, hd⟩ := hp
  obtain ⟨C0, hL, kkH, kkM, kkl, hNst, hX, hZ, hIH, hIM, hgH, hgM, hgl, hap, hapl, hapm⟩ := id C
  obtain ⟨hx, hb, hr, hml, hown, hts, hXX, hbl, hlocks, hgv⟩ := id C0
  have hts' : ∀ w ∈ mTB, w.before #[Value.ref b] s = true := fun w hw => hts w (mTB_tbl hw)
  refine lv_aload_n hx hb dL_law_573 rfl (lv_at hl 1 rfl) ?_
  refine lw_arg C J.2.2.2 hl (j := 1) (v := 1) (by omega) (by decide) (by decide) dL_law_574 dL_law_575 dL_law_577 dL_law_578 dL_law_579 ?_
  refine lw_arg C J.2.2.2 hl (j := 2) (v := 2) (by omega) (by decide) (by decide) dL_law_580 dL_law_581 dL_law_583 dL_law_584 dL_law_585 ?_
  refine lw_arg C J.2.2.2 hl (j := 3) (v := 3) (by omega) (by decide) (by decide) dL_law_586 dL_law_587 dL_law_589 dL_law_590 dL_law_591 ?_
  refine mCallV (D := D) (ad := aH) (ca := kH) (lay := mLayH) (b := 0) (as1 := [.int (xs (i + 1)), .int (xs (i + 2)), .int (xs (i + 3))]) (rest := []) ⟨hx, hb, hml, hown, hts'⟩ mt_X6_ones (mTB_mem 421 (by decide +kernel) rfl) hIH kkH hNst J.1 rfl w1 rfl (by decide) ⟨Nat.le_of_ble_eq_true rfl, Nat.le_of_ble_eq_true rfl⟩ hl.1 rfl (Nat.le_of_ble_eq_true rfl) dL_law_592 hc J.2.2.2 hgH (fun _ h => h) (fun q τ H1 locs1 hq hAf => ?_)
  obtain ⟨rfl, hCI⟩ := hq
  have J := LJ_H C J hAf
  show W p l e room_1 s m #[Value.ref b] below meth cd H1 locs1 cells slots Q (F0 m 595 ls (.int r :: []))
  refine lv_aload_n hx hb dL_law_595 rfl (lv_at hl 2 rfl) ?_
  refine lw_arg C J.2.2.2 hl (j := 1) (v := 1) (by omega) (by decide) (by decide) dL_law_596 dL_law_597 dL_law_599 dL_law_600 dL_law_601 ?_
  refine lw_arg C J.2.2.2 hl (j := 2) (v := 2) (by omega) (by decide) (by decide) dL_law_602 dL_law_603 dL_law_605 dL_law_606 dL_law_607 ?_
  refine lw_arg C J.2.2.2 hl (j := 3) (v := 3) (by omega) (by decide) (by decide) dL_law_608 dL_law_609 dL_law_611 dL_law_612 dL_law_613 ?_
  refine mCallV (D := D) (ad := aM) (ca := kM) (lay := mLayM) (b := 0) (as1 := [.int (xs (i + 1)), .int (xs (i + 2)), .int (xs (i + 3))]) (rest := [.int r]) ⟨hx, hb, hml, hown, hts'⟩ mt_X7_ones (mTB_mem 932 (by decide +kernel) rfl) hIM kkM hNst J.2.1 rfl w2 rfl (by decide) ⟨Nat.le_of_ble_eq_true rfl, Nat.le_of_ble_eq_true rfl⟩ hl.1 rfl (Nat.le_of_ble_eq_true rfl) dL_law_614 hc J.2.2.2 hgM (fun _ h => h) (fun q τ H1 locs1 hq hAf => ?_)
  obtain ⟨rfl, hMI⟩ := hq
  have J := LJ_M C J hAf
  show W p l e room_1 s m #[Value.ref b] below meth cd H1 locs1 cells slots Q (F0 m 617 ls (.int r :: [.int r]))
  refine lv_icmp_eq (tgt := 1262) hx hb dL_law_617 (by decide) (fun _ => ?_) (fun hne => absurd rfl hne)
  exact kk N' wt' wh' _ _ _ _ hCI hMI hd J
theorem lb_alternate (C : LC p s m meth cd b L xs D aH aM kH kM la kl) (J : LJ s D aH aM kH kM la kl γ δ f H locs) (hl : lv_has ls 7 (lv5 b (aH 0) (aM 0) la i)) (hi : i + 4 ≤ L) (hp : PairOK 69 3 125 3 [.int (xs (i + 1)), .int (xs (i + 2))] γ δ) (hc : cells ≤ room_1.cells ∧ slots ≤ room_1.slots)
    (kk : ∀ (N' : Nt) (wt' wh' : Nat) (γ' δ' : mS) (H' : Heap) (locs' : List Loc), CI γ' N' wt' wh' → MI δ' N' wt' wh' → Dok N' wt' wh' → LJ s D aH aM kH kM la kl γ' δ' f H' locs' → W p l e room_1 s m #[Value.ref b] below meth cd H' locs' cells slots Q (F0 m 1262 ls [])) :
    W p l e room_1 s m #[Value.ref b] below meth cd H locs cells slots Q (F0 m 622 ls []) := by
  obtain ⟨r, N', wt', wh', w1, w2, hd⟩ := hp
  obtain ⟨C0, hL, kkH, kkM, kkl, hNst, hX, hZ, hIH, hIM, hgH, hgM, hgl, hap, hapl, hapm⟩ := id C
  obtain ⟨hx, hb, hr, hml, hown, hts, hXX, hbl, hlocks, hgv⟩ := id C0
  have hts' : ∀ w ∈ mTB, w.before #[Value.ref b] s = true := fun w hw => hts w (mTB_tbl hw)
  refine lv_aload_n hx hb dL_law_622 rfl (lv_at hl 1 rfl) ?_
  refine lw_arg C J.2.2.2 hl (j := 1) (v := 1) (by omega) (by decide) (by decide) dL_law_623 dL_law_624 dL_law_626 dL_law_627 dL_law_628 ?_
  refine lw_arg C J.2.2.2 hl (j := 2) (v := 2) (by omega) (by decide) (by decide) dL_law_629 dL_law_630 dL_law_632 dL_law_633 dL_law_634 ?_
  refine mCallV (D := D) (ad := aH) (ca := kH) (lay := mLayH) (b := 0) (as1 := [.int (xs (i + 1)), .int (xs (i + 2))]) (rest := []) ⟨hx, hb, hml, hown, hts'⟩ mt_X6_alternate (mTB_mem 444 (by decide +kernel) rfl) hIH kkH hNst J.1 rfl w1 rfl (by decide) ⟨Nat.le_of_ble_eq_true rfl, Nat.le_of_ble_eq_true rfl⟩ hl.1 rfl (Nat.le_of_ble_eq_true rfl) dL_law_635 hc J.2.2.2 hgH (fun _ h => h) (fun q τ H1 locs1 hq hAf => ?_)
  obtain ⟨rfl, hCI⟩ := hq
  have J := LJ_H C J hAf
  show W p l e room_1 s m #[Value.ref b] below meth cd H1 locs1 cells slots Q (F0 m 638 ls (.int r :: []))
  refine lv_aload_n hx hb dL_law_638 rfl (lv_at hl 2 rfl) ?_
  refine lw_arg C J.2.2.2 hl (j := 1) (v := 1) (by omega) (by decide) (by decide) dL_law_639 dL_law_640 dL_law_642 dL_law_643 dL_law_644 ?_
  refine lw_arg C J.2.2.2 hl (j := 2) (v := 2) (by omega) (by decide) (by decide) dL_law_645 dL_law_646 dL_law_648 dL_law_649 dL_law_650 ?_
  refine mCallV (D := D) (ad := aM) (ca := kM) (lay := mLayM) (b := 0) (as1 := [.int (xs (i + 1)), .int (xs (i + 2))]) (rest := [.int r]) ⟨hx, hb, hml, hown, hts'⟩ mt_X7_alternate (mTB_mem 951 (by decide +kernel) rfl) hIM kkM hNst J.2.1 rfl w2 rfl (by decide) ⟨Nat.le_of_ble_eq_true rfl, Nat.le_of_ble_eq_true rfl⟩ hl.1 rfl (Nat.le_of_ble_eq_true rfl) dL_law_651 hc J.2.2.2 hgM (fun _ h => h) (fun q τ H1 locs1 hq hAf => ?_)
  obtain ⟨rfl, hMI⟩ := hq
  have J := LJ_M C J hAf
  show W p l e room_1 s m #[Value.ref b] below meth cd H1 locs1 cells slots Q (F0 m 654 ls (.int r :: [.int r]))
  refine lv_icmp_eq (tgt := 1262) hx hb dL_law_654 (by decide) (fun _ => ?_) (fun hne => absurd rfl hne)
  exact kk N' wt' wh' _ _ _ _ hCI hMI hd J
theorem lb_space (C : LC p s m meth cd b L xs D aH aM kH kM la kl) (J : LJ s D aH aM kH kM la kl γ δ f H locs) (hl : lv_has ls 7 (lv5 b (aH 0) (aM 0) la i)) (hi : i + 4 ≤ L) (hp : PairOK 70 4 129 4 [.int (xs (i + 1)), .int (xs (i + 2)), .int (xs (i + 3))] γ δ) (hc : cells ≤ room_1.cells ∧ slots ≤ room_1.slots)
    (kk : ∀ (N' : Nt) (wt' wh' : Nat) (γ' δ' : mS) (H' : Heap) (locs' : List Loc), CI γ' N' wt' wh' → MI δ' N' wt' wh' → Dok N' wt' wh' → LJ s D aH aM kH kM la kl γ' δ' f H' locs' → W p l e room_1 s m #[Value.ref b] below meth cd H' locs' cells slots Q (F0 m 1262 ls [])) :
    W p l e room_1 s m #[Value.ref b] below meth cd H locs cells slots Q (F0 m 659 ls []) := by
  obtain ⟨r, N', wt', wh', w1, w2, hd⟩ := hp
  obtain ⟨C0, hL, kkH, kkM, kkl, hNst, hX, hZ, hIH, hIM, hgH, hgM, hgl, hap, hapl, hapm⟩ := id C
  obtain ⟨hx, hb, hr, hml, hown, hts, hXX, hbl, hlocks, hgv⟩ := id C0
  have hts' : ∀ w ∈ mTB, w.before #[Value.ref b] s = true := fun w hw => hts w (mTB_tbl hw)
  refine lv_aload_n hx hb dL_law_659 rfl (lv_at hl 1 rfl) ?_
  refine lw_arg C J.2.2.2 hl (j := 1) (v := 1) (by omega) (by decide) (by decide) dL_law_660 dL_law_661 dL_law_663 dL_law_664 dL_law_665 ?_
  refine lw_arg C J.2.2.2 hl (j := 2) (v := 2) (by omega) (by decide) (by decide) dL_law_666 dL_law_667 dL_law_669 dL_law_670 dL_law_671 ?_
  refine lw_arg C J.2.2.2 hl (j := 3) (v := 3) (by omega) (by decide) (by decide) dL_law_672 dL_law_673 dL_law_675 dL_law_676 dL_law_677 ?_
  refine mCallV (D := D) (ad := aH) (ca := kH) (lay := mLayH) (b := 0) (as1 := [.int (xs (i + 1)), .int (xs (i + 2)), .int (xs (i + 3))]) (rest := []) ⟨hx, hb, hml, hown, hts'⟩ mt_X6_space (mTB_mem 458 (by decide +kernel) rfl) hIH kkH hNst J.1 rfl w1 rfl (by decide) ⟨Nat.le_of_ble_eq_true rfl, Nat.le_of_ble_eq_true rfl⟩ hl.1 rfl (Nat.le_of_ble_eq_true rfl) dL_law_678 hc J.2.2.2 hgH (fun _ h => h) (fun q τ H1 locs1 hq hAf => ?_)
  obtain ⟨rfl, hCI⟩ := hq
  have J := LJ_H C J hAf
  show W p l e room_1 s m #[Value.ref b] below meth cd H1 locs1 cells slots Q (F0 m 681 ls (.int r :: []))
  refine lv_aload_n hx hb dL_law_681 rfl (lv_at hl 2 rfl) ?_
  refine lw_arg C J.2.2.2 hl (j := 1) (v := 1) (by omega) (by decide) (by decide) dL_law_682 dL_law_683 dL_law_685 dL_law_686 dL_law_687 ?_
  refine lw_arg C J.2.2.2 hl (j := 2) (v := 2) (by omega) (by decide) (by decide) dL_law_688 dL_law_689 dL_law_691 dL_law_692 dL_law_693 ?_
  refine lw_arg C J.2.2.2 hl (j := 3) (v := 3) (by omega) (by decide) (by decide) dL_law_694 dL_law_695 dL_law_697 dL_law_698 dL_law_699 ?_
  refine mCallV (D := D) (ad := aM) (ca := kM) (lay := mLayM) (b := 0) (as1 := [.int (xs (i + 1)), .int (xs (i + 2)), .int (xs (i + 3))]) (rest := [.int r]) ⟨hx, hb, hml, hown, hts'⟩ mt_X7_space (mTB_mem 965 (by decide +kernel) rfl) hIM kkM hNst J.2.1 rfl w2 rfl (by decide) ⟨Nat.le_of_ble_eq_true rfl, Nat.le_of_ble_eq_true rfl⟩ hl.1 rfl (Nat.le_of_ble_eq_true rfl) dL_law_700 hc J.2.2.2 hgM (fun _ h => h) (fun q τ H1 locs1 hq hAf => ?_)
  obtain ⟨rfl, hMI⟩ := hq
  have J := LJ_M C J hAf
  show W p l e room_1 s m #[Value.ref b] below meth cd H1 locs1 cells slots Q (F0 m 703 ls (.int r :: [.int r]))
  refine lv_icmp_eq (tgt := 1262) hx hb dL_law_703 (by decide) (fun _ => ?_) (fun hne => absurd rfl hne)
  exact kk N' wt' wh' _ _ _ _ hCI hMI hd J
theorem lb_tunnel (C : LC p s m meth cd b L xs D aH aM kH kM la kl) (J : LJ s D aH aM kH kM la kl γ δ f H locs) (hl : lv_has ls 7 (lv5 b (aH 0) (aM 0) la i)) (hi : i + 4 ≤ L) (hp : PairOK 71 6 132 5 [.int (xs (i + 1)), .int (xs (i + 2)), .int (xs (i + 3))] γ δ) (hc : cells ≤ room_1.cells ∧ slots ≤ room_1.slots)
    (kk : ∀ (N' : Nt) (wt' wh' : Nat) (γ' δ' : mS) (H' : Heap) (locs' : List Loc), CI γ' N' wt' wh' → MI δ' N' wt' wh' → Dok N' wt' wh' → LJ s D aH aM kH kM la kl γ' δ' f H' locs' → W p l e room_1 s m #[Value.ref b] below meth cd H' locs' cells slots Q (F0 m 1262 ls [])) :
    W p l e room_1 s m #[Value.ref b] below meth cd H locs cells slots Q (F0 m 708 ls []) := by
  obtain ⟨r, N', wt', wh', w1, w2, hd⟩ := hp
  obtain ⟨C0, hL, kkH, kkM, kkl, hNst, hX, hZ, hIH, hIM, hgH, hgM, hgl, hap, hapl, hapm⟩ := id C
  obtain ⟨hx, hb, hr, hml, hown, hts, hXX, hbl, hlocks, hgv⟩ := id C0
  have hts' : ∀ w ∈ mTB, w.before #[Value.ref b] s = true := fun w hw => hts w (mTB_tbl hw)
  refine lv_aload_n hx hb dL_law_708 rfl (lv_at hl 1 rfl) ?_
  refine lw_arg C J.2.2.2 hl (j := 1) (v := 1) (by omega) (by decide) (by decide) dL_law_709 dL_law_710 dL_law_712 dL_law_713 dL_law_714 ?_
  refine lw_arg C J.2.2.2 hl (j := 2) (v := 2) (by omega) (by decide) (by decide) dL_law_715 dL_law_716 dL_law_718 dL_law_719 dL_law_720 ?_
  refine lw_arg C J.2.2.2 hl (j := 3) (v := 3) (by omega) (by decide) (by decide) dL_law_721 dL_law_722 dL_law_724 dL_law_725 dL_law_726 ?_
  refine mCallV (D := D) (ad := aH) (ca := kH) (lay := mLayH) (b := 0) (as1 := [.int (xs (i + 1)), .int (xs (i + 2)), .int (xs (i + 3))]) (rest := []) ⟨hx, hb, hml, hown, hts'⟩ mt_X6_tunnel (mTB_mem 479 (by decide +kernel) rfl) hIH kkH hNst J.1 rfl w1 rfl (by decide) ⟨Nat.le_of_ble_eq_true rfl, Nat.le_of_ble_eq_true rfl⟩ hl.1 rfl (Nat.le_of_ble_eq_true rfl) dL_law_727 hc J.2.2.2 hgH (fun _ h => h) (fun q τ H1 locs1 hq hAf => ?_)
  obtain ⟨rfl, hCI⟩ := hq
  have J := LJ_H C J hAf
  show W p l e room_1 s m #[Value.ref b] below meth cd H1 locs1 cells slots Q (F0 m 730 ls (.int r :: []))
  refine lv_aload_n hx hb dL_law_730 rfl (lv_at hl 2 rfl) ?_
  refine lw_arg C J.2.2.2 hl (j := 1) (v := 1) (by omega) (by decide) (by decide) dL_law_731 dL_law_732 dL_law_734 dL_law_735 dL_law_736 ?_
  refine lw_arg C J.2.2.2 hl (j := 2) (v := 2) (by omega) (by decide) (by decide) dL_law_737 dL_law_738 dL_law_740 dL_law_741 dL_law_742 ?_
  refine lw_arg C J.2.2.2 hl (j := 3) (v := 3) (by omega) (by decide) (by decide) dL_law_743 dL_law_744 dL_law_746 dL_law_747 dL_law_748 ?_
  refine mCallV (D := D) (ad := aM) (ca := kM) (lay := mLayM) (b := 0) (as1 := [.int (xs (i + 1)), .int (xs (i + 2)), .int (xs (i + 3))]) (rest := [.int r]) ⟨hx, hb, hml, hown, hts'⟩ mt_X7_tunnel (mTB_mem 981 (by decide +kernel) rfl) hIM kkM hNst J.2.1 rfl w2 rfl (by decide) ⟨Nat.le_of_ble_eq_true rfl, Nat.le_of_ble_eq_true rfl⟩ hl.1 rfl (Nat.le_of_ble_eq_true rfl) dL_law_749 hc J.2.2.2 hgM (fun _ h => h) (fun q τ H1 locs1 hq hAf => ?_)
  obtain ⟨rfl, hMI⟩ := hq
  have J := LJ_M C J hAf
  show W p l e room_1 s m #[Value.ref b] below meth cd H1 locs1 cells slots Q (F0 m 752 ls (.int r :: [.int r]))
  refine lv_icmp_eq (tgt := 1262) hx hb dL_law_752 (by decide) (fun _ => ?_) (fun hne => absurd rfl hne)
  exact kk N' wt' wh' _ _ _ _ hCI hMI hd J
theorem lb_repair (C : LC p s m meth cd b L xs D aH aM kH kM la kl) (J : LJ s D aH aM kH kM la kl γ δ f H locs) (hl : lv_has ls 7 (lv5 b (aH 0) (aM 0) la i)) (hi : i + 4 ≤ L) (hp : PairOK 72 3 134 3 [.int (xs (i + 1)), .int (xs (i + 2))] γ δ) (hc : cells ≤ room_1.cells ∧ slots ≤ room_1.slots)
    (kk : ∀ (N' : Nt) (wt' wh' : Nat) (γ' δ' : mS) (H' : Heap) (locs' : List Loc), CI γ' N' wt' wh' → MI δ' N' wt' wh' → Dok N' wt' wh' → LJ s D aH aM kH kM la kl γ' δ' f H' locs' → W p l e room_1 s m #[Value.ref b] below meth cd H' locs' cells slots Q (F0 m 1262 ls [])) :
    W p l e room_1 s m #[Value.ref b] below meth cd H locs cells slots Q (F0 m 757 ls []) := by
  obtain ⟨r, N', wt', wh', w1, w2, hd⟩ := hp
  obtain ⟨C0, hL, kkH, kkM, kkl, hNst, hX, hZ, hIH, hIM, hgH, hgM, hgl, hap, hapl, hapm⟩ := id C
  obtain ⟨hx, hb, hr, hml, hown, hts, hXX, hbl, hlocks, hgv⟩ := id C0
  have hts' : ∀ w ∈ mTB, w.before #[Value.ref b] s = true := fun w hw => hts w (mTB_tbl hw)
  refine lv_aload_n hx hb dL_law_757 rfl (lv_at hl 1 rfl) ?_
  refine lw_arg C J.2.2.2 hl (j := 1) (v := 1) (by omega) (by decide) (by decide) dL_law_758 dL_law_759 dL_law_761 dL_law_762 dL_law_763 ?_
  refine lw_arg C J.2.2.2 hl (j := 2) (v := 2) (by omega) (by decide) (by decide) dL_law_764 dL_law_765 dL_law_767 dL_law_768 dL_law_769 ?_
  refine mCallV (D := D) (ad := aH) (ca := kH) (lay := mLayH) (b := 0) (as1 := [.int (xs (i + 1)), .int (xs (i + 2))]) (rest := []) ⟨hx, hb, hml, hown, hts'⟩ mt_X6_repair (mTB_mem 491 (by decide +kernel) rfl) hIH kkH hNst J.1 rfl w1 rfl (by decide) ⟨Nat.le_of_ble_eq_true rfl, Nat.le_of_ble_eq_true rfl⟩ hl.1 rfl (Nat.le_of_ble_eq_true rfl) dL_law_770 hc J.2.2.2 hgH (fun _ h => h) (fun q τ H1 locs1 hq hAf => ?_)
  obtain ⟨rfl, hCI⟩ := hq
  have J := LJ_H C J hAf
  show W p l e room_1 s m #[Value.ref b] below meth cd H1 locs1 cells slots Q (F0 m 773 ls (.int r :: []))
  refine lv_aload_n hx hb dL_law_773 rfl (lv_at hl 2 rfl) ?_
  refine lw_arg C J.2.2.2 hl (j := 1) (v := 1) (by omega) (by decide) (by decide) dL_law_774 dL_law_775 dL_law_777 dL_law_778 dL_law_779 ?_
  refine lw_arg C J.2.2.2 hl (j := 2) (v := 2) (by omega) (by decide) (by decide) dL_law_780 dL_law_781 dL_law_783 dL_law_784 dL_law_785 ?_
  refine mCallV (D := D) (ad := aM) (ca := kM) (lay := mLayM) (b := 0) (as1 := [.int (xs (i + 1)), .int (xs (i + 2))]) (rest := [.int r]) ⟨hx, hb, hml, hown, hts'⟩ mt_X7_repair (mTB_mem 993 (by decide +kernel) rfl) hIM kkM hNst J.2.1 rfl w2 rfl (by decide) ⟨Nat.le_of_ble_eq_true rfl, Nat.le_of_ble_eq_true rfl⟩ hl.1 rfl (Nat.le_of_ble_eq_true rfl) dL_law_786 hc J.2.2.2 hgM (fun _ h => h) (fun q τ H1 locs1 hq hAf => ?_)
  obtain ⟨rfl, hMI⟩ := hq
  have J := LJ_M C J hAf
  show W p l e room_1 s m #[Value.ref b] below meth cd H1 locs1 cells slots Q (F0 m 789 ls (.int r :: [.int r]))
  refine lv_icmp_eq (tgt := 1262) hx hb dL_law_789 (by decide) (fun _ => ?_) (fun hne => absurd rfl hne)
  exact kk N' wt' wh' _ _ _ _ hCI hMI hd J
theorem lb_send (C : LC p s m meth cd b L xs D aH aM kH kM la kl) (J : LJ s D aH aM kH kM la kl γ δ f H locs) (hl : lv_has ls 7 (lv5 b (aH 0) (aM 0) la i)) (hi : i + 4 ≤ L) (hp : PairOK 73 4 141 5 [.int (xs (i + 1)), .int (xs (i + 2)), .int (xs (i + 3))] γ δ) (hc : cells ≤ room_1.cells ∧ slots ≤ room_1.slots)
    (kk : ∀ (N' : Nt) (wt' wh' : Nat) (γ' δ' : mS) (H' : Heap) (locs' : List Loc), CI γ' N' wt' wh' → MI δ' N' wt' wh' → Dok N' wt' wh' → LJ s D aH aM kH kM la kl γ' δ' f H' locs' → W p l e room_1 s m #[Value.ref b] below meth cd H' locs' cells slots Q (F0 m 1262 ls [])) :
    W p l e room_1 s m #[Value.ref b] below meth cd H locs cells slots Q (F0 m 794 ls []) := by
  obtain ⟨r, N', wt', wh', w1, w2, hd⟩ := hp
  obtain ⟨C0, hL, kkH, kkM, kkl, hNst, hX, hZ, hIH, hIM, hgH, hgM, hgl, hap, hapl, hapm⟩ := id C
  obtain ⟨hx, hb, hr, hml, hown, hts, hXX, hbl, hlocks, hgv⟩ := id C0
  have hts' : ∀ w ∈ mTB, w.before #[Value.ref b] s = true := fun w hw => hts w (mTB_tbl hw)
  refine lv_aload_n hx hb dL_law_794 rfl (lv_at hl 1 rfl) ?_
  refine lw_arg C J.2.2.2 hl (j := 1) (v := 1) (by omega) (by decide) (by decide) dL_law_795 dL_law_796 dL_law_798 dL_law_799 dL_law_800 ?_
  refine lw_arg C J.2.2.2 hl (j := 2) (v := 2) (by omega) (by decide) (by decide) dL_law_801 dL_law_802 dL_law_804 dL_law_805 dL_law_806 ?_
  refine lw_arg C J.2.2.2 hl (j := 3) (v := 3) (by omega) (by decide) (by decide) dL_law_807 dL_law_808 dL_law_810 dL_law_811 dL_law_812 ?_
  refine mCallV (D := D) (ad := aH) (ca := kH) (lay := mLayH) (b := 0) (as1 := [.int (xs (i + 1)), .int (xs (i + 2)), .int (xs (i + 3))]) (rest := []) ⟨hx, hb, hml, hown, hts'⟩ mt_X6_send (mTB_mem 504 (by decide +kernel) rfl) hIH kkH hNst J.1 rfl w1 rfl (by decide) ⟨Nat.le_of_ble_eq_true rfl, Nat.le_of_ble_eq_true rfl⟩ hl.1 rfl (Nat.le_of_ble_eq_true rfl) dL_law_813 hc J.2.2.2 hgH (fun _ h => h) (fun q τ H1 locs1 hq hAf => ?_)
  obtain ⟨rfl, hCI⟩ := hq
  have J := LJ_H C J hAf
  show W p l e room_1 s m #[Value.ref b] below meth cd H1 locs1 cells slots Q (F0 m 816 ls (.int r :: []))
  refine lv_aload_n hx hb dL_law_816 rfl (lv_at hl 2 rfl) ?_
  refine lw_arg C J.2.2.2 hl (j := 1) (v := 1) (by omega) (by decide) (by decide) dL_law_817 dL_law_818 dL_law_820 dL_law_821 dL_law_822 ?_
  refine lw_arg C J.2.2.2 hl (j := 2) (v := 2) (by omega) (by decide) (by decide) dL_law_823 dL_law_824 dL_law_826 dL_law_827 dL_law_828 ?_
  refine lw_arg C J.2.2.2 hl (j := 3) (v := 3) (by omega) (by decide) (by decide) dL_law_829 dL_law_830 dL_law_832 dL_law_833 dL_law_834 ?_
  refine mCallV (D := D) (ad := aM) (ca := kM) (lay := mLayM) (b := 0) (as1 := [.int (xs (i + 1)), .int (xs (i + 2)), .int (xs (i + 3))]) (rest := [.int r]) ⟨hx, hb, hml, hown, hts'⟩ mt_X7_send (mTB_mem 1001 (by decide +kernel) rfl) hIM kkM hNst J.2.1 rfl w2 rfl (by decide) ⟨Nat.le_of_ble_eq_true rfl, Nat.le_of_ble_eq_true rfl⟩ hl.1 rfl (Nat.le_of_ble_eq_true rfl) dL_law_835 hc J.2.2.2 hgM (fun _ h => h) (fun q τ H1 locs1 hq hAf => ?_)
  obtain ⟨rfl, hMI⟩ := hq
  have J := LJ_M C J hAf
  show W p l e room_1 s m #[Value.ref b] below meth cd H1 locs1 cells slots Q (F0 m 838 ls (.int r :: [.int r]))
  refine lv_icmp_eq (tgt := 1262) hx hb dL_law_838 (by decide) (fun _ => ?_) (fun hne => absurd rfl hne)
  exact kk N' wt' wh' _ _ _ _ hCI hMI hd J
theorem lb_trace (C : LC p s m meth cd b L xs D aH aM kH kM la kl) (J : LJ s D aH aM kH kM la kl γ δ f H locs) (hl : lv_has ls 7 (lv5 b (aH 0) (aM 0) la i)) (hi : i + 4 ≤ L) (hp : PairOK 74 4 142 5 [.int (xs (i + 1)), .int (xs (i + 2)), .int (xs (i + 3))] γ δ) (hc : cells ≤ room_1.cells ∧ slots ≤ room_1.slots)
    (kk : ∀ (N' : Nt) (wt' wh' : Nat) (γ' δ' : mS) (H' : Heap) (locs' : List Loc), CI γ' N' wt' wh' → MI δ' N' wt' wh' → Dok N' wt' wh' → LJ s D aH aM kH kM la kl γ' δ' f H' locs' → W p l e room_1 s m #[Value.ref b] below meth cd H' locs' cells slots Q (F0 m 1262 ls [])) :
    W p l e room_1 s m #[Value.ref b] below meth cd H locs cells slots Q (F0 m 843 ls []) := by
  obtain ⟨r, N', wt', wh', w1, w2, hd⟩ := hp
  obtain ⟨C0, hL, kkH, kkM, kkl, hNst, hX, hZ, hIH, hIM, hgH, hgM, hgl, hap, hapl, hapm⟩ := id C
  obtain ⟨hx, hb, hr, hml, hown, hts, hXX, hbl, hlocks, hgv⟩ := id C0
  have hts' : ∀ w ∈ mTB, w.before #[Value.ref b] s = true := fun w hw => hts w (mTB_tbl hw)
  refine lv_aload_n hx hb dL_law_843 rfl (lv_at hl 1 rfl) ?_
  refine lw_arg C J.2.2.2 hl (j := 1) (v := 1) (by omega) (by decide) (by decide) dL_law_844 dL_law_845 dL_law_847 dL_law_848 dL_law_849 ?_
  refine lw_arg C J.2.2.2 hl (j := 2) (v := 2) (by omega) (by decide) (by decide) dL_law_850 dL_law_851 dL_law_853 dL_law_854 dL_law_855 ?_
  refine lw_arg C J.2.2.2 hl (j := 3) (v := 3) (by omega) (by decide) (by decide) dL_law_856 dL_law_857 dL_law_859 dL_law_860 dL_law_861 ?_
  refine mCallV (D := D) (ad := aH) (ca := kH) (lay := mLayH) (b := 0) (as1 := [.int (xs (i + 1)), .int (xs (i + 2)), .int (xs (i + 3))]) (rest := []) ⟨hx, hb, hml, hown, hts'⟩ mt_X6_trace (mTB_mem 555 (by decide +kernel) rfl) hIH kkH hNst J.1 rfl w1 rfl (by decide) ⟨Nat.le_of_ble_eq_true rfl, Nat.le_of_ble_eq_true rfl⟩ hl.1 rfl (Nat.le_of_ble_eq_true rfl) dL_law_862 hc J.2.2.2 hgH (fun _ h => h) (fun q τ H1 locs1 hq hAf => ?_)
  obtain ⟨rfl, hCI⟩ := hq
  have J := LJ_H C J hAf
  show W p l e room_1 s m #[Value.ref b] below meth cd H1 locs1 cells slots Q (F0 m 865 ls (.int r :: []))
  refine lv_aload_n hx hb dL_law_865 rfl (lv_at hl 2 rfl) ?_
  refine lw_arg C J.2.2.2 hl (j := 1) (v := 1) (by omega) (by decide) (by decide) dL_law_866 dL_law_867 dL_law_869 dL_law_870 dL_law_871 ?_
  refine lw_arg C J.2.2.2 hl (j := 2) (v := 2) (by omega) (by decide) (by decide) dL_law_872 dL_law_873 dL_law_875 dL_law_876 dL_law_877 ?_
  refine lw_arg C J.2.2.2 hl (j := 3) (v := 3) (by omega) (by decide) (by decide) dL_law_878 dL_law_879 dL_law_881 dL_law_882 dL_law_883 ?_
  refine mCallV (D := D) (ad := aM) (ca := kM) (lay := mLayM) (b := 0) (as1 := [.int (xs (i + 1)), .int (xs (i + 2)), .int (xs (i + 3))]) (rest := [.int r]) ⟨hx, hb, hml, hown, hts'⟩ mt_X7_trace (mTB_mem 1029 (by decide +kernel) rfl) hIM kkM hNst J.2.1 rfl w2 rfl (by decide) ⟨Nat.le_of_ble_eq_true rfl, Nat.le_of_ble_eq_true rfl⟩ hl.1 rfl (Nat.le_of_ble_eq_true rfl) dL_law_884 hc J.2.2.2 hgM (fun _ h => h) (fun q τ H1 locs1 hq hAf => ?_)
  obtain ⟨rfl, hMI⟩ := hq
  have J := LJ_M C J hAf
  show W p l e room_1 s m #[Value.ref b] below meth cd H1 locs1 cells slots Q (F0 m 887 ls (.int r :: [.int r]))
  refine lv_icmp_eq (tgt := 1262) hx hb dL_law_887 (by decide) (fun _ => ?_) (fun hne => absurd rfl hne)
  exact kk N' wt' wh' _ _ _ _ hCI hMI hd J
theorem lb_behind (C : LC p s m meth cd b L xs D aH aM kH kM la kl) (J : LJ s D aH aM kH kM la kl γ δ f H locs) (hl : lv_has ls 7 (lv5 b (aH 0) (aM 0) la i)) (hi : i + 4 ≤ L) (hp : PairOK 75 4 144 4 [.int (xs (i + 1)), .int (xs (i + 2)), .int (xs (i + 3))] γ δ) (hc : cells ≤ room_1.cells ∧ slots ≤ room_1.slots)
    (kk : ∀ (N' : Nt) (wt' wh' : Nat) (γ' δ' : mS) (H' : Heap) (locs' : List Loc), CI γ' N' wt' wh' → MI δ' N' wt' wh' → Dok N' wt' wh' → LJ s D aH aM kH kM la kl γ' δ' f H' locs' → W p l e room_1 s m #[Value.ref b] below meth cd H' locs' cells slots Q (F0 m 1262 ls [])) :
    W p l e room_1 s m #[Value.ref b] below meth cd H locs cells slots Q (F0 m 892 ls []) := by
  obtain ⟨r, N', wt', wh', w1, w2, hd⟩ := hp
  obtain ⟨C0, hL, kkH, kkM, kkl, hNst, hX, hZ, hIH, hIM, hgH, hgM, hgl, hap, hapl, hapm⟩ := id C
  obtain ⟨hx, hb, hr, hml, hown, hts, hXX, hbl, hlocks, hgv⟩ := id C0
  have hts' : ∀ w ∈ mTB, w.before #[Value.ref b] s = true := fun w hw => hts w (mTB_tbl hw)
  refine lv_aload_n hx hb dL_law_892 rfl (lv_at hl 1 rfl) ?_
  refine lw_arg C J.2.2.2 hl (j := 1) (v := 1) (by omega) (by decide) (by decide) dL_law_893 dL_law_894 dL_law_896 dL_law_897 dL_law_898 ?_
  refine lw_arg C J.2.2.2 hl (j := 2) (v := 2) (by omega) (by decide) (by decide) dL_law_899 dL_law_900 dL_law_902 dL_law_903 dL_law_904 ?_
  refine lw_arg C J.2.2.2 hl (j := 3) (v := 3) (by omega) (by decide) (by decide) dL_law_905 dL_law_906 dL_law_908 dL_law_909 dL_law_910 ?_
  refine mCallV (D := D) (ad := aH) (ca := kH) (lay := mLayH) (b := 0) (as1 := [.int (xs (i + 1)), .int (xs (i + 2)), .int (xs (i + 3))]) (rest := []) ⟨hx, hb, hml, hown, hts'⟩ mt_X6_behind (mTB_mem 563 (by decide +kernel) rfl) hIH kkH hNst J.1 rfl w1 rfl (by decide) ⟨Nat.le_of_ble_eq_true rfl, Nat.le_of_ble_eq_true rfl⟩ hl.1 rfl (Nat.le_of_ble_eq_true rfl) dL_law_911 hc J.2.2.2 hgH (fun _ h => h) (fun q τ H1 locs1 hq hAf => ?_)
  obtain ⟨rfl, hCI⟩ := hq
  have J := LJ_H C J hAf
  show W p l e room_1 s m #[Value.ref b] below meth cd H1 locs1 cells slots Q (F0 m 914 ls (.int r :: []))
  refine lv_aload_n hx hb dL_law_914 rfl (lv_at hl 2 rfl) ?_
  refine lw_arg C J.2.2.2 hl (j := 1) (v := 1) (by omega) (by decide) (by decide) dL_law_915 dL_law_916 dL_law_918 dL_law_919 dL_law_920 ?_
  refine lw_arg C J.2.2.2 hl (j := 2) (v := 2) (by omega) (by decide) (by decide) dL_law_921 dL_law_922 dL_law_924 dL_law_925 dL_law_926 ?_
  refine lw_arg C J.2.2.2 hl (j := 3) (v := 3) (by omega) (by decide) (by decide) dL_law_927 dL_law_928 dL_law_930 dL_law_931 dL_law_932 ?_
  refine mCallV (D := D) (ad := aM) (ca := kM) (lay := mLayM) (b := 0) (as1 := [.int (xs (i + 1)), .int (xs (i + 2)), .int (xs (i + 3))]) (rest := [.int r]) ⟨hx, hb, hml, hown, hts'⟩ mt_X7_behind (mTB_mem 1033 (by decide +kernel) rfl) hIM kkM hNst J.2.1 rfl w2 rfl (by decide) ⟨Nat.le_of_ble_eq_true rfl, Nat.le_of_ble_eq_true rfl⟩ hl.1 rfl (Nat.le_of_ble_eq_true rfl) dL_law_933 hc J.2.2.2 hgM (fun _ h => h) (fun q τ H1 locs1 hq hAf => ?_)
  obtain ⟨rfl, hMI⟩ := hq
  have J := LJ_M C J hAf
  show W p l e room_1 s m #[Value.ref b] below meth cd H1 locs1 cells slots Q (F0 m 936 ls (.int r :: [.int r]))
  refine lv_icmp_eq (tgt := 1262) hx hb dL_law_936 (by decide) (fun _ => ?_) (fun hne => absurd rfl hne)
  exact kk N' wt' wh' _ _ _ _ hCI hMI hd J
theorem lb_nextBehind (C : LC p s m meth cd b L xs D aH aM kH kM la kl) (J : LJ s D aH aM kH kM la kl γ δ f H locs) (hl : lv_has ls 7 (lv5 b (aH 0) (aM 0) la i)) (hi : i + 4 ≤ L) (hp : PairOK 76 4 145 4 [.int (xs (i + 1)), .int (xs (i + 2)), .int (xs (i + 3))] γ δ) (hc : cells ≤ room_1.cells ∧ slots ≤ room_1.slots)
    (kk : ∀ (N' : Nt) (wt' wh' : Nat) (γ' δ' : mS) (H' : Heap) (locs' : List Loc), CI γ' N' wt' wh' → MI δ' N' wt' wh' → Dok N' wt' wh' → LJ s D aH aM kH kM la kl γ' δ' f H' locs' → W p l e room_1 s m #[Value.ref b] below meth cd H' locs' cells slots Q (F0 m 1262 ls [])) :
    W p l e room_1 s m #[Value.ref b] below meth cd H locs cells slots Q (F0 m 941 ls []) := by
  obtain ⟨r, N', wt', wh', w1, w2, hd⟩ := hp
  obtain ⟨C0, hL, kkH, kkM, kkl, hNst, hX, hZ, hIH, hIM, hgH, hgM, hgl, hap, hapl, hapm⟩ := id C
  obtain ⟨hx, hb, hr, hml, hown, hts, hXX, hbl, hlocks, hgv⟩ := id C0
  have hts' : ∀ w ∈ mTB, w.before #[Value.ref b] s = true := fun w hw => hts w (mTB_tbl hw)
  refine lv_aload_n hx hb dL_law_941 rfl (lv_at hl 1 rfl) ?_
  refine lw_arg C J.2.2.2 hl (j := 1) (v := 1) (by omega) (by decide) (by decide) dL_law_942 dL_law_943 dL_law_945 dL_law_946 dL_law_947 ?_
  refine lw_arg C J.2.2.2 hl (j := 2) (v := 2) (by omega) (by decide) (by decide) dL_law_948 dL_law_949 dL_law_951 dL_law_952 dL_law_953 ?_
  refine lw_arg C J.2.2.2 hl (j := 3) (v := 3) (by omega) (by decide) (by decide) dL_law_954 dL_law_955 dL_law_957 dL_law_958 dL_law_959 ?_
  refine mCallV (D := D) (ad := aH) (ca := kH) (lay := mLayH) (b := 0) (as1 := [.int (xs (i + 1)), .int (xs (i + 2)), .int (xs (i + 3))]) (rest := []) ⟨hx, hb, hml, hown, hts'⟩ mt_X6_nextBehind (mTB_mem 572 (by decide +kernel) rfl) hIH kkH hNst J.1 rfl w1 rfl (by decide) ⟨Nat.le_of_ble_eq_true rfl, Nat.le_of_ble_eq_true rfl⟩ hl.1 rfl (Nat.le_of_ble_eq_true rfl) dL_law_960 hc J.2.2.2 hgH (fun _ h => h) (fun q τ H1 locs1 hq hAf => ?_)
  obtain ⟨rfl, hCI⟩ := hq
  have J := LJ_H C J hAf
  show W p l e room_1 s m #[Value.ref b] below meth cd H1 locs1 cells slots Q (F0 m 963 ls (.int r :: []))
  refine lv_aload_n hx hb dL_law_963 rfl (lv_at hl 2 rfl) ?_
  refine lw_arg C J.2.2.2 hl (j := 1) (v := 1) (by omega) (by decide) (by decide) dL_law_964 dL_law_965 dL_law_967 dL_law_968 dL_law_969 ?_
  refine lw_arg C J.2.2.2 hl (j := 2) (v := 2) (by omega) (by decide) (by decide) dL_law_970 dL_law_971 dL_law_973 dL_law_974 dL_law_975 ?_
  refine lw_arg C J.2.2.2 hl (j := 3) (v := 3) (by omega) (by decide) (by decide) dL_law_976 dL_law_977 dL_law_979 dL_law_980 dL_law_981 ?_
  refine mCallV (D := D) (ad := aM) (ca := kM) (lay := mLayM) (b := 0) (as1 := [.int (xs (i + 1)), .int (xs (i + 2)), .int (xs (i + 3))]) (rest := [.int r]) ⟨hx, hb, hml, hown, hts'⟩ mt_X7_nextBehind (mTB_mem 1041 (by decide +kernel) rfl) hIM kkM hNst J.2.1 rfl w2 rfl (by decide) ⟨Nat.le_of_ble_eq_true rfl, Nat.le_of_ble_eq_true rfl⟩ hl.1 rfl (Nat.le_of_ble_eq_true rfl) dL_law_982 hc J.2.2.2 hgM (fun _ h => h) (fun q τ H1 locs1 hq hAf => ?_)
  obtain ⟨rfl, hMI⟩ := hq
  have J := LJ_M C J hAf
  show W p l e room_1 s m #[Value.ref b] below meth cd H1 locs1 cells slots Q (F0 m 985 ls (.int r :: [.int r]))
  refine lv_icmp_eq (tgt := 1262) hx hb dL_law_985 (by decide) (fun _ => ?_) (fun hne => absurd rfl hne)
  exact kk N' wt' wh' _ _ _ _ hCI hMI hd J
end LB
