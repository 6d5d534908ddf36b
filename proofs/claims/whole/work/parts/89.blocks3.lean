/-! the law's blocks (printed by wip/whole/gen_law1.py) -/
section LB
variable {p : Program} {l : Launch} {e : Env} {s : State} {m : MethodId} {below : List Frame} {meth : Method} {cd : Code} {b L : Nat} {xs : Nat → Int32} {D : va_G} {aH aM : Nat → Nat} {kH kM : Nat → ClassId} {la : Nat} {kl : ClassId} {γ δ : mS} {f : Nat → Int64} {H : Heap} {locs : List Loc} {cells slots : Nat} {Q : State → Prop} {ls : Array Slot} {i : Nat}
theorem lb_hit (C : LC p s m meth cd b L xs D aH aM kH kM la kl) (J : LJ s D aH aM kH kM la kl γ δ f H locs) (hl : lv_has ls 7 (lv5 b (aH 0) (aM 0) la i)) (hi : i + 4 ≤ L) (hp : PairOK 77 3 147 3 [.int (xs (i + 1)), .int (xs (i + 2))] γ δ) (hc : cells ≤ room_1.cells ∧ slots ≤ room_1.slots)
    (kk : ∀ (N' : Nt) (wt' wh' : Nat) (γ' δ' : mS) (H' : Heap) (locs' : List Loc), CI γ' N' wt' wh' → MI δ' N' wt' wh' → Dok N' wt' wh' → LJ s D aH aM kH kM la kl γ' δ' f H' locs' → W p l e room_1 s m #[Value.ref b] below meth cd H' locs' cells slots Q (F0 m 1262 ls [])) :
    W p l e room_1 s m #[Value.ref b] below meth cd H locs cells slots Q (F0 m 990 ls []) := by
  obtain ⟨r, N', wt', wh', w1, w2, hd⟩ := hp
  obtain ⟨C0, hL, kkH, kkM, kkl, hNst, hX, hZ, hIH, hIM, hgH, hgM, hgl, hap, hapl, hapm⟩ := id C
  obtain ⟨hx, hb, hr, hml, hown, hts, hXX, hbl, hlocks, hgv⟩ := id C0
  have hts' : ∀ w ∈ mTB, w.before #[Value.ref b] s = true := fun w hw => hts w (mTB_tbl hw)
  refine lv_aload_n hx hb dL_law_990 rfl (lv_at hl 1 rfl) ?_
  refine lw_arg C J.2.2.2 hl (j := 1) (v := 1) (by omega) (by decide) (by decide) dL_law_991 dL_law_992 dL_law_994 dL_law_995 dL_law_996 ?_
  refine lw_arg C J.2.2.2 hl (j := 2) (v := 2) (by omega) (by decide) (by decide) dL_law_997 dL_law_998 dL_law_1000 dL_law_1001 dL_law_1002 ?_
  refine mCallV (D := D) (ad := aH) (ca := kH) (lay := mLayH) (b := 0) (as1 := [.int (xs (i + 1)), .int (xs (i + 2))]) (rest := []) ⟨hx, hb, hml, hown, hts'⟩ mt_X6_hit (mTB_mem 581 (by decide +kernel) rfl) hIH kkH hNst J.1 rfl w1 rfl (by decide) ⟨Nat.le_of_ble_eq_true rfl, Nat.le_of_ble_eq_true rfl⟩ hl.1 rfl (Nat.le_of_ble_eq_true rfl) dL_law_1003 hc J.2.2.2 hgH (fun _ h => h) (fun q τ H1 locs1 hq hAf => ?_)
  obtain ⟨rfl, hCI⟩ := hq
  have J := LJ_H C J hAf
  show W p l e room_1 s m #[Value.ref b] below meth cd H1 locs1 cells slots Q (F0 m 1006 ls (.int r :: []))
  refine lv_aload_n hx hb dL_law_1006 rfl (lv_at hl 2 rfl) ?_
  refine lw_arg C J.2.2.2 hl (j := 1) (v := 1) (by omega) (by decide) (by decide) dL_law_1007 dL_law_1008 dL_law_1010 dL_law_1011 dL_law_1012 ?_
  refine lw_arg C J.2.2.2 hl (j := 2) (v := 2) (by omega) (by decide) (by decide) dL_law_1013 dL_law_1014 dL_law_1016 dL_law_1017 dL_law_1018 ?_
  refine mCallV (D := D) (ad := aM) (ca := kM) (lay := mLayM) (b := 0) (as1 := [.int (xs (i + 1)), .int (xs (i + 2))]) (rest := [.int r]) ⟨hx, hb, hml, hown, hts'⟩ mt_X7_hit (mTB_mem 1045 (by decide +kernel) rfl) hIM kkM hNst J.2.1 rfl w2 rfl (by decide) ⟨Nat.le_of_ble_eq_true rfl, Nat.le_of_ble_eq_true rfl⟩ hl.1 rfl (Nat.le_of_ble_eq_true rfl) dL_law_1019 hc J.2.2.2 hgM (fun _ h => h) (fun q τ H1 locs1 hq hAf => ?_)
  obtain ⟨rfl, hMI⟩ := hq
  have J := LJ_M C J hAf
  show W p l e room_1 s m #[Value.ref b] below meth cd H1 locs1 cells slots Q (F0 m 1022 ls (.int r :: [.int r]))
  refine lv_icmp_eq (tgt := 1262) hx hb dL_law_1022 (by decide) (fun _ => ?_) (fun hne => absurd rfl hne)
  exact kk N' wt' wh' _ _ _ _ hCI hMI hd J
theorem lb_holds (C : LC p s m meth cd b L xs D aH aM kH kM la kl) (J : LJ s D aH aM kH kM la kl γ δ f H locs) (hl : lv_has ls 7 (lv5 b (aH 0) (aM 0) la i)) (hi : i + 4 ≤ L) (hp : PairOK 78 4 149 7 [.int (xs (i + 1)), .int (xs (i + 2)), .int (xs (i + 3))] γ δ) (hc : cells ≤ room_1.cells ∧ slots ≤ room_1.slots)
    (kk : ∀ (N' : Nt) (wt' wh' : Nat) (γ' δ' : mS) (H' : Heap) (locs' : List Loc), CI γ' N' wt' wh' → MI δ' N' wt' wh' → Dok N' wt' wh' → LJ s D aH aM kH kM la kl γ' δ' f H' locs' → W p l e room_1 s m #[Value.ref b] below meth cd H' locs' cells slots Q (F0 m 1262 ls [])) :
    W p l e room_1 s m #[Value.ref b] below meth cd H locs cells slots Q (F0 m 1027 ls []) := by
  obtain ⟨r, N', wt', wh', w1, w2, hd⟩ := hp
  obtain ⟨C0, hL, kkH, kkM, kkl, hNst, hX, hZ, hIH, hIM, hgH, hgM, hgl, hap, hapl, hapm⟩ := id C
  obtain ⟨hx, hb, hr, hml, hown, hts, hXX, hbl, hlocks, hgv⟩ := id C0
  have hts' : ∀ w ∈ mTB, w.before #[Value.ref b] s = true := fun w hw => hts w (mTB_tbl hw)
  refine lv_aload_n hx hb dL_law_1027 rfl (lv_at hl 1 rfl) ?_
  refine lw_arg C J.2.2.2 hl (j := 1) (v := 1) (by omega) (by decide) (by decide) dL_law_1028 dL_law_1029 dL_law_1031 dL_law_1032 dL_law_1033 ?_
  refine lw_arg C J.2.2.2 hl (j := 2) (v := 2) (by omega) (by decide) (by decide) dL_law_1034 dL_law_1035 dL_law_1037 dL_law_1038 dL_law_1039 ?_
  refine lw_arg C J.2.2.2 hl (j := 3) (v := 3) (by omega) (by decide) (by decide) dL_law_1040 dL_law_1041 dL_law_1043 dL_law_1044 dL_law_1045 ?_
  refine mCallV (D := D) (ad := aH) (ca := kH) (lay := mLayH) (b := 0) (as1 := [.int (xs (i + 1)), .int (xs (i + 2)), .int (xs (i + 3))]) (rest := []) ⟨hx, hb, hml, hown, hts'⟩ mt_X6_holds (mTB_mem 586 (by decide +kernel) rfl) hIH kkH hNst J.1 rfl w1 rfl (by decide) ⟨Nat.le_of_ble_eq_true rfl, Nat.le_of_ble_eq_true rfl⟩ hl.1 rfl (Nat.le_of_ble_eq_true rfl) dL_law_1046 hc J.2.2.2 hgH (fun _ h => h) (fun q τ H1 locs1 hq hAf => ?_)
  obtain ⟨rfl, hCI⟩ := hq
  have J := LJ_H C J hAf
  show W p l e room_1 s m #[Value.ref b] below meth cd H1 locs1 cells slots Q (F0 m 1049 ls (.int r :: []))
  refine lv_aload_n hx hb dL_law_1049 rfl (lv_at hl 2 rfl) ?_
  refine lw_arg C J.2.2.2 hl (j := 1) (v := 1) (by omega) (by decide) (by decide) dL_law_1050 dL_law_1051 dL_law_1053 dL_law_1054 dL_law_1055 ?_
  refine lw_arg C J.2.2.2 hl (j := 2) (v := 2) (by omega) (by decide) (by decide) dL_law_1056 dL_law_1057 dL_law_1059 dL_law_1060 dL_law_1061 ?_
  refine lw_arg C J.2.2.2 hl (j := 3) (v := 3) (by omega) (by decide) (by decide) dL_law_1062 dL_law_1063 dL_law_1065 dL_law_1066 dL_law_1067 ?_
  refine mCallV (D := D) (ad := aM) (ca := kM) (lay := mLayM) (b := 0) (as1 := [.int (xs (i + 1)), .int (xs (i + 2)), .int (xs (i + 3))]) (rest := [.int r]) ⟨hx, hb, hml, hown, hts'⟩ mt_X7_holds (mTB_mem 1053 (by decide +kernel) rfl) hIM kkM hNst J.2.1 rfl w2 rfl (by decide) ⟨Nat.le_of_ble_eq_true rfl, Nat.le_of_ble_eq_true rfl⟩ hl.1 rfl (Nat.le_of_ble_eq_true rfl) dL_law_1068 hc J.2.2.2 hgM (fun _ h => h) (fun q τ H1 locs1 hq hAf => ?_)
  obtain ⟨rfl, hMI⟩ := hq
  have J := LJ_M C J hAf
  show W p l e room_1 s m #[Value.ref b] below meth cd H1 locs1 cells slots Q (F0 m 1071 ls (.int r :: [.int r]))
  refine lv_icmp_eq (tgt := 1262) hx hb dL_law_1071 (by decide) (fun _ => ?_) (fun hne => absurd rfl hne)
  exact kk N' wt' wh' _ _ _ _ hCI hMI hd J
theorem lb_round (C : LC p s m meth cd b L xs D aH aM kH kM la kl) (J : LJ s D aH aM kH kM la kl γ δ f H locs) (hl : lv_has ls 7 (lv5 b (aH 0) (aM 0) la i)) (hi : i + 4 ≤ L) (hp : PairOK 79 4 150 8 [.int (xs (i + 1)), .int (xs (i + 2)), .int (xs (i + 3))] γ δ) (hc : cells ≤ room_1.cells ∧ slots ≤ room_1.slots)
    (kk : ∀ (N' : Nt) (wt' wh' : Nat) (γ' δ' : mS) (H' : Heap) (locs' : List Loc), CI γ' N' wt' wh' → MI δ' N' wt' wh' → Dok N' wt' wh' → LJ s D aH aM kH kM la kl γ' δ' f H' locs' → W p l e room_1 s m #[Value.ref b] below meth cd H' locs' cells slots Q (F0 m 1262 ls [])) :
    W p l e room_1 s m #[Value.ref b] below meth cd H locs cells slots Q (F0 m 1076 ls []) := by
  obtain ⟨r, N', wt', wh', w1, w2, hd⟩ := hp
  obtain ⟨C0, hL, kkH, kkM, kkl, hNst, hX, hZ, hIH, hIM, hgH, hgM, hgl, hap, hapl, hapm⟩ := id C
  obtain ⟨hx, hb, hr, hml, hown, hts, hXX, hbl, hlocks, hgv⟩ := id C0
  have hts' : ∀ w ∈ mTB, w.before #[Value.ref b] s = true := fun w hw => hts w (mTB_tbl hw)
  refine lv_aload_n hx hb dL_law_1076 rfl (lv_at hl 1 rfl) ?_
  refine lw_arg C J.2.2.2 hl (j := 1) (v := 1) (by omega) (by decide) (by decide) dL_law_1077 dL_law_1078 dL_law_1080 dL_law_1081 dL_law_1082 ?_
  refine lw_arg C J.2.2.2 hl (j := 2) (v := 2) (by omega) (by decide) (by decide) dL_law_1083 dL_law_1084 dL_law_1086 dL_law_1087 dL_law_1088 ?_
  refine lw_arg C J.2.2.2 hl (j := 3) (v := 3) (by omega) (by decide) (by decide) dL_law_1089 dL_law_1090 dL_law_1092 dL_law_1093 dL_law_1094 ?_
  refine mCallV (D := D) (ad := aH) (ca := kH) (lay := mLayH) (b := 0) (as1 := [.int (xs (i + 1)), .int (xs (i + 2)), .int (xs (i + 3))]) (rest := []) ⟨hx, hb, hml, hown, hts'⟩ mt_X6_round (mTB_mem 606 (by decide +kernel) rfl) hIH kkH hNst J.1 rfl w1 rfl (by decide) ⟨Nat.le_of_ble_eq_true rfl, Nat.le_of_ble_eq_true rfl⟩ hl.1 rfl (Nat.le_of_ble_eq_true rfl) dL_law_1095 hc J.2.2.2 hgH (fun _ h => h) (fun q τ H1 locs1 hq hAf => ?_)
  obtain ⟨rfl, hCI⟩ := hq
  have J := LJ_H C J hAf
  show W p l e room_1 s m #[Value.ref b] below meth cd H1 locs1 cells slots Q (F0 m 1098 ls (.int r :: []))
  refine lv_aload_n hx hb dL_law_1098 rfl (lv_at hl 2 rfl) ?_
  refine lw_arg C J.2.2.2 hl (j := 1) (v := 1) (by omega) (by decide) (by decide) dL_law_1099 dL_law_1100 dL_law_1102 dL_law_1103 dL_law_1104 ?_
  refine lw_arg C J.2.2.2 hl (j := 2) (v := 2) (by omega) (by decide) (by decide) dL_law_1105 dL_law_1106 dL_law_1108 dL_law_1109 dL_law_1110 ?_
  refine lw_arg C J.2.2.2 hl (j := 3) (v := 3) (by omega) (by decide) (by decide) dL_law_1111 dL_law_1112 dL_law_1114 dL_law_1115 dL_law_1116 ?_
  refine mCallV (D := D) (ad := aM) (ca := kM) (lay := mLayM) (b := 0) (as1 := [.int (xs (i + 1)), .int (xs (i + 2)), .int (xs (i + 3))]) (rest := [.int r]) ⟨hx, hb, hml, hown, hts'⟩ mt_X7_round (mTB_mem 1061 (by decide +kernel) rfl) hIM kkM hNst J.2.1 rfl w2 rfl (by decide) ⟨Nat.le_of_ble_eq_true rfl, Nat.le_of_ble_eq_true rfl⟩ hl.1 rfl (Nat.le_of_ble_eq_true rfl) dL_law_1117 hc J.2.2.2 hgM (fun _ h => h) (fun q τ H1 locs1 hq hAf => ?_)
  obtain ⟨rfl, hMI⟩ := hq
  have J := LJ_M C J hAf
  show W p l e room_1 s m #[Value.ref b] below meth cd H1 locs1 cells slots Q (F0 m 1120 ls (.int r :: [.int r]))
  refine lv_icmp_eq (tgt := 1262) hx hb dL_law_1120 (by decide) (fun _ => ?_) (fun hne => absurd rfl hne)
  exact kk N' wt' wh' _ _ _ _ hCI hMI hd J
theorem lb_covered (C : LC p s m meth cd b L xs D aH aM kH kM la kl) (J : LJ s D aH aM kH kM la kl γ δ f H locs) (hl : lv_has ls 7 (lv5 b (aH 0) (aM 0) la i)) (hi : i + 4 ≤ L) (hp : PairOK 80 4 153 5 [.int (xs (i + 1))] γ δ) (hc : cells ≤ room_1.cells ∧ slots ≤ room_1.slots)
    (kk : ∀ (N' : Nt) (wt' wh' : Nat) (γ' δ' : mS) (H' : Heap) (locs' : List Loc), CI γ' N' wt' wh' → MI δ' N' wt' wh' → Dok N' wt' wh' → LJ s D aH aM kH kM la kl γ' δ' f H' locs' → W p l e room_1 s m #[Value.ref b] below meth cd H' locs' cells slots Q (F0 m 1262 ls [])) :
    W p l e room_1 s m #[Value.ref b] below meth cd H locs cells slots Q (F0 m 1125 ls []) := by
  obtain ⟨r, N', wt', wh', w1, w2, hd⟩ := hp
  obtain ⟨C0, hL, kkH, kkM, kkl, hNst, hX, hZ, hIH, hIM, hgH, hgM, hgl, hap, hapl, hapm⟩ := id C
  obtain ⟨hx, hb, hr, hml, hown, hts, hXX, hbl, hlocks, hgv⟩ := id C0
  have hts' : ∀ w ∈ mTB, w.before #[Value.ref b] s = true := fun w hw => hts w (mTB_tbl hw)
  refine lv_aload_n hx hb dL_law_1125 rfl (lv_at hl 1 rfl) ?_
  refine lw_arg C J.2.2.2 hl (j := 1) (v := 1) (by omega) (by decide) (by decide) dL_law_1126 dL_law_1127 dL_law_1129 dL_law_1130 dL_law_1131 ?_
  refine mCallV (D := D) (ad := aH) (ca := kH) (lay := mLayH) (b := 0) (as1 := [.int (xs (i + 1))]) (rest := []) ⟨hx, hb, hml, hown, hts'⟩ mt_X6_covered (mTB_mem 619 (by decide +kernel) rfl) hIH kkH hNst J.1 rfl w1 rfl (by decide) ⟨Nat.le_of_ble_eq_true rfl, Nat.le_of_ble_eq_true rfl⟩ hl.1 rfl (Nat.le_of_ble_eq_true rfl) dL_law_1132 hc J.2.2.2 hgH (fun _ h => h) (fun q τ H1 locs1 hq hAf => ?_)
  obtain ⟨rfl, hCI⟩ := hq
  have J := LJ_H C J hAf
  show W p l e room_1 s m #[Value.ref b] below meth cd H1 locs1 cells slots Q (F0 m 1135 ls (.int r :: []))
  refine lv_aload_n hx hb dL_law_1135 rfl (lv_at hl 2 rfl) ?_
  refine lw_arg C J.2.2.2 hl (j := 1) (v := 1) (by omega) (by decide) (by decide) dL_law_1136 dL_law_1137 dL_law_1139 dL_law_1140 dL_law_1141 ?_
  refine mCallV (D := D) (ad := aM) (ca := kM) (lay := mLayM) (b := 0) (as1 := [.int (xs (i + 1))]) (rest := [.int r]) ⟨hx, hb, hml, hown, hts'⟩ mt_X7_covered (mTB_mem 1065 (by decide +kernel) rfl) hIM kkM hNst J.2.1 rfl w2 rfl (by decide) ⟨Nat.le_of_ble_eq_true rfl, Nat.le_of_ble_eq_true rfl⟩ hl.1 rfl (Nat.le_of_ble_eq_true rfl) dL_law_1142 hc J.2.2.2 hgM (fun _ h => h) (fun q τ H1 locs1 hq hAf => ?_)
  obtain ⟨rfl, hMI⟩ := hq
  have J := LJ_M C J hAf
  show W p l e room_1 s m #[Value.ref b] below meth cd H1 locs1 cells slots Q (F0 m 1145 ls (.int r :: [.int r]))
  refine lv_icmp_eq (tgt := 1262) hx hb dL_law_1145 (by decide) (fun _ => ?_) (fun hne => absurd rfl hne)
  exact kk N' wt' wh' _ _ _ _ hCI hMI hd J
theorem lb_cut (C : LC p s m meth cd b L xs D aH aM kH kM la kl) (J : LJ s D aH aM kH kM la kl γ δ f H locs) (hl : lv_has ls 7 (lv5 b (aH 0) (aM 0) la i)) (hi : i + 4 ≤ L) (hp : PairOK 81 3 154 7 [.int (xs (i + 1)), .int (xs (i + 2))] γ δ) (hc : cells ≤ room_1.cells ∧ slots ≤ room_1.slots)
    (kk : ∀ (N' : Nt) (wt' wh' : Nat) (γ' δ' : mS) (H' : Heap) (locs' : List Loc), CI γ' N' wt' wh' → MI δ' N' wt' wh' → Dok N' wt' wh' → LJ s D aH aM kH kM la kl γ' δ' f H' locs' → W p l e room_1 s m #[Value.ref b] below meth cd H' locs' cells slots Q (F0 m 1262 ls [])) :
    W p l e room_1 s m #[Value.ref b] below meth cd H locs cells slots Q (F0 m 1150 ls []) := by
  obtain ⟨r, N', wt', wh', w1, w2, hd⟩ := hp
  obtain ⟨C0, hL, kkH, kkM, kkl, hNst, hX, hZ, hIH, hIM, hgH, hgM, hgl, hap, hapl, hapm⟩ := id C
  obtain ⟨hx, hb, hr, hml, hown, hts, hXX, hbl, hlocks, hgv⟩ := id C0
  have hts' : ∀ w ∈ mTB, w.before #[Value.ref b] s = true := fun w hw => hts w (mTB_tbl hw)
  refine lv_aload_n hx hb dL_law_1150 rfl (lv_at hl 1 rfl) ?_
  refine lw_arg C J.2.2.2 hl (j := 1) (v := 1) (by omega) (by decide) (by decide) dL_law_1151 dL_law_1152 dL_law_1154 dL_law_1155 dL_law_1156 ?_
  refine lw_arg C J.2.2.2 hl (j := 2) (v := 2) (by omega) (by decide) (by decide) dL_law_1157 dL_law_1158 dL_law_1160 dL_law_1161 dL_law_1162 ?_
  refine mCallV (D := D) (ad := aH) (ca := kH) (lay := mLayH) (b := 0) (as1 := [.int (xs (i + 1)), .int (xs (i + 2))]) (rest := []) ⟨hx, hb, hml, hown, hts'⟩ mt_X6_cut (mTB_mem 646 (by decide +kernel) rfl) hIH kkH hNst J.1 rfl w1 rfl (by decide) ⟨Nat.le_of_ble_eq_true rfl, Nat.le_of_ble_eq_true rfl⟩ hl.1 rfl (Nat.le_of_ble_eq_true rfl) dL_law_1163 hc J.2.2.2 hgH (fun _ h => h) (fun q τ H1 locs1 hq hAf => ?_)
  obtain ⟨rfl, hCI⟩ := hq
  have J := LJ_H C J hAf
  show W p l e room_1 s m #[Value.ref b] below meth cd H1 locs1 cells slots Q (F0 m 1166 ls (.int r :: []))
  refine lv_aload_n hx hb dL_law_1166 rfl (lv_at hl 2 rfl) ?_
  refine lw_arg C J.2.2.2 hl (j := 1) (v := 1) (by omega) (by decide) (by decide) dL_law_1167 dL_law_1168 dL_law_1170 dL_law_1171 dL_law_1172 ?_
  refine lw_arg C J.2.2.2 hl (j := 2) (v := 2) (by omega) (by decide) (by decide) dL_law_1173 dL_law_1174 dL_law_1176 dL_law_1177 dL_law_1178 ?_
  refine mCallV (D := D) (ad := aM) (ca := kM) (lay := mLayM) (b := 0) (as1 := [.int (xs (i + 1)), .int (xs (i + 2))]) (rest := [.int r]) ⟨hx, hb, hml, hown, hts'⟩ mt_X7_cut (mTB_mem 1077 (by decide +kernel) rfl) hIM kkM hNst J.2.1 rfl w2 rfl (by decide) ⟨Nat.le_of_ble_eq_true rfl, Nat.le_of_ble_eq_true rfl⟩ hl.1 rfl (Nat.le_of_ble_eq_true rfl) dL_law_1179 hc J.2.2.2 hgM (fun _ h => h) (fun q τ H1 locs1 hq hAf => ?_)
  obtain ⟨rfl, hMI⟩ := hq
  have J := LJ_M C J hAf
  show W p l e room_1 s m #[Value.ref b] below meth cd H1 locs1 cells slots Q (F0 m 1182 ls (.int r :: [.int r]))
  refine lv_icmp_eq (tgt := 1262) hx hb dL_law_1182 (by decide) (fun _ => ?_) (fun hne => absurd rfl hne)
  exact kk N' wt' wh' _ _ _ _ hCI hMI hd J
theorem lb_spare (C : LC p s m meth cd b L xs D aH aM kH kM la kl) (J : LJ s D aH aM kH kM la kl γ δ f H locs) (hl : lv_has ls 7 (lv5 b (aH 0) (aM 0) la i)) (hi : i + 4 ≤ L) (hp : PairOK 82 3 155 5 [.int (xs (i + 1)), .int (xs (i + 2))] γ δ) (hc : cells ≤ room_1.cells ∧ slots ≤ room_1.slots)
    (kk : ∀ (N' : Nt) (wt' wh' : Nat) (γ' δ' : mS) (H' : Heap) (locs' : List Loc), CI γ' N' wt' wh' → MI δ' N' wt' wh' → Dok N' wt' wh' → LJ s D aH aM kH kM la kl γ' δ' f H' locs' → W p l e room_1 s m #[Value.ref b] below meth cd H' locs' cells slots Q (F0 m 1262 ls [])) :
    W p l e room_1 s m #[Value.ref b] below meth cd H locs cells slots Q (F0 m 1187 ls []) := by
  obtain ⟨r, N', wt', wh', w1, w2, hd⟩ := hp
  obtain ⟨C0, hL, kkH, kkM, kkl, hNst, hX, hZ, hIH, hIM, hgH, hgM, hgl, hap, hapl, hapm⟩ := id C
  obtain ⟨hx, hb, hr, hml, hown, hts, hXX, hbl, hlocks, hgv⟩ := id C0
  have hts' : ∀ w ∈ mTB, w.before #[Value.ref b] s = true := fun w hw => hts w (mTB_tbl hw)
  refine lv_aload_n hx hb dL_law_1187 rfl (lv_at hl 1 rfl) ?_
  refine lw_arg C J.2.2.2 hl (j := 1) (v := 1) (by omega) (by decide) (by decide) dL_law_1188 dL_law_1189 dL_law_1191 dL_law_1192 dL_law_1193 ?_
  refine lw_arg C J.2.2.2 hl (j := 2) (v := 2) (by omega) (by decide) (by decide) dL_law_1194 dL_law_1195 dL_law_1197 dL_law_1198 dL_law_1199 ?_
  refine mCallV (D := D) (ad := aH) (ca := kH) (lay := mLayH) (b := 0) (as1 := [.int (xs (i + 1)), .int (xs (i + 2))]) (rest := []) ⟨hx, hb, hml, hown, hts'⟩ mt_X6_spare (mTB_mem 675 (by decide +kernel) rfl) hIH kkH hNst J.1 rfl w1 rfl (by decide) ⟨Nat.le_of_ble_eq_true rfl, Nat.le_of_ble_eq_true rfl⟩ hl.1 rfl (Nat.le_of_ble_eq_true rfl) dL_law_1200 hc J.2.2.2 hgH (fun _ h => h) (fun q τ H1 locs1 hq hAf => ?_)
  obtain ⟨rfl, hCI⟩ := hq
  have J := LJ_H C J hAf
  show W p l e room_1 s m #[Value.ref b] below meth cd H1 locs1 cells slots Q (F0 m 1203 ls (.int r :: []))
  refine lv_aload_n hx hb dL_law_1203 rfl (lv_at hl 2 rfl) ?_
  refine lw_arg C J.2.2.2 hl (j := 1) (v := 1) (by omega) (by decide) (by decide) dL_law_1204 dL_law_1205 dL_law_1207 dL_law_1208 dL_law_1209 ?_
  refine lw_arg C J.2.2.2 hl (j := 2) (v := 2) (by omega) (by decide) (by decide) dL_law_1210 dL_law_1211 dL_law_1213 dL_law_1214 dL_law_1215 ?_
  refine mCallV (D := D) (ad := aM) (ca := kM) (lay := mLayM) (b := 0) (as1 := [.int (xs (i + 1)), .int (xs (i + 2))]) (rest := [.int r]) ⟨hx, hb, hml, hown, hts'⟩ mt_X7_spare (mTB_mem 1081 (by decide +kernel) rfl) hIM kkM hNst J.2.1 rfl w2 rfl (by decide) ⟨Nat.le_of_ble_eq_true rfl, Nat.le_of_ble_eq_true rfl⟩ hl.1 rfl (Nat.le_of_ble_eq_true rfl) dL_law_1216 hc J.2.2.2 hgM (fun _ h => h) (fun q τ H1 locs1 hq hAf => ?_)
  obtain ⟨rfl, hMI⟩ := hq
  have J := LJ_M C J hAf
  show W p l e room_1 s m #[Value.ref b] below meth cd H1 locs1 cells slots Q (F0 m 1219 ls (.int r :: [.int r]))
  refine lv_icmp_eq (tgt := 1262) hx hb dL_law_1219 (by decide) (fun _ => ?_) (fun hne => absurd rfl hne)
  exact kk N' wt' wh' _ _ _ _ hCI hMI hd J
theorem lb_centre (C : LC p s m meth cd b L xs D aH aM kH kM la kl) (J : LJ s D aH aM kH kM la kl γ δ f H locs) (hl : lv_has ls 7 (lv5 b (aH 0) (aM 0) la i)) (hi : i + 4 ≤ L) (hp : PairOK 83 5 156 6 [] γ δ) (hc : cells ≤ room_1.cells ∧ slots ≤ room_1.slots)
    (kk : ∀ (N' : Nt) (wt' wh' : Nat) (γ' δ' : mS) (H' : Heap) (locs' : List Loc), CI γ' N' wt' wh' → MI δ' N' wt' wh' → Dok N' wt' wh' → LJ s D aH aM kH kM la kl γ' δ' f H' locs' → W p l e room_1 s m #[Value.ref b] below meth cd H' locs' cells slots Q (F0 m 1262 ls [])) :
    W p l e room_1 s m #[Value.ref b] below meth cd H locs cells slots Q (F0 m 1224 ls []) := by
  obtain ⟨r, N', wt', wh', w1, w2, hd⟩ := hp
  obtain ⟨C0, hL, kkH, kkM, kkl, hNst, hX, hZ, hIH, hIM, hgH, hgM, hgl, hap, hapl, hapm⟩ := id C
  obtain ⟨hx, hb, hr, hml, hown, hts, hXX, hbl, hlocks, hgv⟩ := id C0
  have hts' : ∀ w ∈ mTB, w.before #[Value.ref b] s = true := fun w hw => hts w (mTB_tbl hw)
  refine lv_aload_n hx hb dL_law_1224 rfl (lv_at hl 1 rfl) ?_
  refine mCallV (D := D) (ad := aH) (ca := kH) (lay := mLayH) (b := 0) (as1 := []) (rest := []) ⟨hx, hb, hml, hown, hts'⟩ mt_X6_centre (mTB_mem 685 (by decide +kernel) rfl) hIH kkH hNst J.1 rfl w1 rfl (by decide) ⟨Nat.le_of_ble_eq_true rfl, Nat.le_of_ble_eq_true rfl⟩ hl.1 rfl (Nat.le_of_ble_eq_true rfl) dL_law_1225 hc J.2.2.2 hgH (fun _ h => h) (fun q τ H1 locs1 hq hAf => ?_)
  obtain ⟨rfl, hCI⟩ := hq
  have J := LJ_H C J hAf
  show W p l e room_1 s m #[Value.ref b] below meth cd H1 locs1 cells slots Q (F0 m 1228 ls (.int r :: []))
  refine lv_aload_n hx hb dL_law_1228 rfl (lv_at hl 2 rfl) ?_
  refine mCallV (D := D) (ad := aM) (ca := kM) (lay := mLayM) (b := 0) (as1 := []) (rest := [.int r]) ⟨hx, hb, hml, hown, hts'⟩ mt_X7_centre (mTB_mem 1085 (by decide +kernel) rfl) hIM kkM hNst J.2.1 rfl w2 rfl (by decide) ⟨Nat.le_of_ble_eq_true rfl, Nat.le_of_ble_eq_true rfl⟩ hl.1 rfl (Nat.le_of_ble_eq_true rfl) dL_law_1229 hc J.2.2.2 hgM (fun _ h => h) (fun q τ H1 locs1 hq hAf => ?_)
  obtain ⟨rfl, hMI⟩ := hq
  have J := LJ_M C J hAf
  show W p l e room_1 s m #[Value.ref b] below meth cd H1 locs1 cells slots Q (F0 m 1232 ls (.int r :: [.int r]))
  refine lv_icmp_eq (tgt := 1262) hx hb dL_law_1232 (by decide) (fun _ => ?_) (fun hne => absurd rfl hne)
  exact kk N' wt' wh' _ _ _ _ hCI hMI hd J
theorem lb_count (C : LC p s m meth cd b L xs D aH aM kH kM la kl) (J : LJ s D aH aM kH kM la kl γ δ f H locs) (hl : lv_has ls 7 (lv5 b (aH 0) (aM 0) la i)) (hi : i + 4 ≤ L) (hp : PairOK 84 2 157 4 [.int (xs (i + 1))] γ δ) (hc : cells ≤ room_1.cells ∧ slots ≤ room_1.slots)
    (kk : ∀ (N' : Nt) (wt' wh' : Nat) (γ' δ' : mS) (H' : Heap) (locs' : List Loc), CI γ' N' wt' wh' → MI δ' N' wt' wh' → Dok N' wt' wh' → LJ s D aH aM kH kM la kl γ' δ' f H' locs' → W p l e room_1 s m #[Value.ref b] below meth cd H' locs' cells slots Q (F0 m 1262 ls [])) :
    W p l e room_1 s m #[Value.ref b] below meth cd H locs cells slots Q (F0 m 1237 ls []) := by
  obtain ⟨r, N', wt', wh', w1, w2, hd⟩ := hp
  obtain ⟨C0, hL, kkH, kkM, kkl, hNst, hX, hZ, hIH, hIM, hgH, hgM, hgl, hap, hapl, hapm⟩ := id C
  obtain ⟨hx, hb, hr, hml, hown, hts, hXX, hbl, hlocks, hgv⟩ := id C0
  have hts' : ∀ w ∈ mTB, w.before #[Value.ref b] s = true := fun w hw => hts w (mTB_tbl hw)
  refine lv_aload_n hx hb dL_law_1237 rfl (lv_at hl 1 rfl) ?_
  refine lw_arg C J.2.2.2 hl (j := 1) (v := 1) (by omega) (by decide) (by decide) dL_law_1238 dL_law_1239 dL_law_1241 dL_law_1242 dL_law_1243 ?_
  refine mCallV (D := D) (ad := aH) (ca := kH) (lay := mLayH) (b := 0) (as1 := [.int (xs (i + 1))]) (rest := []) ⟨hx, hb, hml, hown, hts'⟩ mt_X6_count (mTB_mem 694 (by decide +kernel) rfl) hIH kkH hNst J.1 rfl w1 rfl (by decide) ⟨Nat.le_of_ble_eq_true rfl, Nat.le_of_ble_eq_true rfl⟩ hl.1 rfl (Nat.le_of_ble_eq_true rfl) dL_law_1244 hc J.2.2.2 hgH (fun _ h => h) (fun q τ H1 locs1 hq hAf => ?_)
  obtain ⟨rfl, hCI⟩ := hq
  have J := LJ_H C J hAf
  show W p l e room_1 s m #[Value.ref b] below meth cd H1 locs1 cells slots Q (F0 m 1247 ls (.int r :: []))
  refine lv_aload_n hx hb dL_law_1247 rfl (lv_at hl 2 rfl) ?_
  refine lw_arg C J.2.2.2 hl (j := 1) (v := 1) (by omega) (by decide) (by decide) dL_law_1248 dL_law_1249 dL_law_1251 dL_law_1252 dL_law_1253 ?_
  refine mCallV (D := D) (ad := aM) (ca := kM) (lay := mLayM) (b := 0) (as1 := [.int (xs (i + 1))]) (rest := [.int r]) ⟨hx, hb, hml, hown, hts'⟩ mt_X7_count (mTB_mem 1089 (by decide +kernel) rfl) hIM kkM hNst J.2.1 rfl w2 rfl (by decide) ⟨Nat.le_of_ble_eq_true rfl, Nat.le_of_ble_eq_true rfl⟩ hl.1 rfl (Nat.le_of_ble_eq_true rfl) dL_law_1254 hc J.2.2.2 hgM (fun _ h => h) (fun q τ H1 locs1 hq hAf => ?_)
  obtain ⟨rfl, hMI⟩ := hq
  have J := LJ_M C J hAf
  show W p l e room_1 s m #[Value.ref b] below meth cd H1 locs1 cells slots Q (F0 m 1257 ls (.int r :: [.int r]))
  refine lv_icmp_eq (tgt := 1262) hx hb dL_law_1257 (by decide) (fun _ => ?_) (fun hne => absurd rfl hne)
  exact kk N' wt' wh' _ _ _ _ hCI hMI hd J
end LB
