/-! the law's blocks (printed by wip/whole/gen_law1.py) -/
section LB
variable {p : Program} {l : Launch} {e : Env} {s : State} {m : MethodId} {below : List Frame} {meth : Method} {cd : Code} {b L : Nat} {xs : Nat → Int32} {D : va_G} {aH aM : Nat → Nat} {kH kM : Nat → ClassId} {la : Nat} {kl : ClassId} {γ δ : mS} {f : Nat → Int64} {H : Heap} {locs : List Loc} {cells slots : Nat} {Q : State → Prop} {ls : Array Slot} {i : Nat}
theorem lb_nodes (C : LC p s m meth cd b L xs D aH aM kH kM la kl) (J : LJ s D aH aM kH kM la kl γ δ f H locs) (hl : lv_has ls 7 (lv5 b (aH 0) (aM 0) la i)) (hi : i + 4 ≤ L) (hp : PairOK 59 3 99 3 [.int (xs (i + 1))] γ δ) (hc : cells ≤ room_1.cells ∧ slots ≤ room_1.slots)
    (kk : ∀ (N' : Nt) (wt' wh' : Nat) (γ' δ' : mS) (H' : Heap) (locs' : List Loc), CI γ' N' wt' wh' → MI δ' N' wt' wh' → Dok N' wt' wh' → LJ s D aH aM kH kM la kl γ' δ' f H' locs' → W p l e room_1 s m #[Value.ref b] below meth cd H' locs' cells slots Q (F0 m 1262 ls [])) :
    W p l e room_1 s m #[Value.ref b] below meth cd H locs cells slots Q (F0 m 160 ls []) := by
  obtain ⟨r, N', wt', wh', w1, w2, hd⟩ := hp
  obtain ⟨C0, hL, kkH, kkM, kkl, hNst, hX, hZ, hIH, hIM, hgH, hgM, hgl, hap, hapl, hapm⟩ := id C
  obtain ⟨hx, hb, hr, hml, hown, hts, hXX, hbl, hlocks, hgv⟩ := id C0
  have hts' : ∀ w ∈ mTB, w.before #[Value.ref b] s = true := fun w hw => hts w (mTB_tbl hw)
  refine lv_aload_n hx hb dL_law_160 rfl (lv_at hl 1 rfl) ?_
  refine lw_arg C J.2.2.2 hl (j := 1) (v := 1) (by omega) (by decide) (by decide) dL_law_161 dL_law_162 dL_law_164 dL_law_165 dL_law_166 ?_
  refine mCallV (D := D) (ad := aH) (ca := kH) (lay := mLayH) (b := 0) (as1 := [.int (xs (i + 1))]) (rest := []) ⟨hx, hb, hml, hown, hts'⟩ mt_X6_nodes (mTB_mem 296 (by decide +kernel) rfl) hIH kkH hNst J.1 rfl w1 rfl (by decide) ⟨Nat.le_of_ble_eq_true rfl, Nat.le_of_ble_eq_true rfl⟩ hl.1 rfl (Nat.le_of_ble_eq_true rfl) dL_law_167 hc J.2.2.2 hgH (fun _ h => h) (fun q τ H1 locs1 hq hAf => ?_)
  obtain ⟨rfl, hCI⟩ := hq
  have J := LJ_H C J hAf
  show W p l e room_1 s m #[Value.ref b] below meth cd H1 locs1 cells slots Q (F0 m 170 ls (.int r :: []))
  refine lv_aload_n hx hb dL_law_170 rfl (lv_at hl 2 rfl) ?_
  refine lw_arg C J.2.2.2 hl (j := 1) (v := 1) (by omega) (by decide) (by decide) dL_law_171 dL_law_172 dL_law_174 dL_law_175 dL_law_176 ?_
  refine mCallV (D := D) (ad := aM) (ca := kM) (lay := mLayM) (b := 0) (as1 := [.int (xs (i + 1))]) (rest := [.int r]) ⟨hx, hb, hml, hown, hts'⟩ mt_X7_nodes (mTB_mem 838 (by decide +kernel) rfl) hIM kkM hNst J.2.1 rfl w2 rfl (by decide) ⟨Nat.le_of_ble_eq_true rfl, Nat.le_of_ble_eq_true rfl⟩ hl.1 rfl (Nat.le_of_ble_eq_true rfl) dL_law_177 hc J.2.2.2 hgM (fun _ h => h) (fun q τ H1 locs1 hq hAf => ?_)
  obtain ⟨rfl, hMI⟩ := hq
  have J := LJ_M C J hAf
  show W p l e room_1 s m #[Value.ref b] below meth cd H1 locs1 cells slots Q (F0 m 180 ls (.int r :: [.int r]))
  refine lv_icmp_eq (tgt := 1262) hx hb dL_law_180 (by decide) (fun _ => ?_) (fun hne => absurd rfl hne)
  exact kk N' wt' wh' _ _ _ _ hCI hMI hd J
theorem lb_link (C : LC p s m meth cd b L xs D aH aM kH kM la kl) (J : LJ s D aH aM kH kM la kl γ δ f H locs) (hl : lv_has ls 7 (lv5 b (aH 0) (aM 0) la i)) (hi : i + 4 ≤ L) (hp : PairOK 60 4 100 4 [.int (xs (i + 1)), .int (xs (i + 2)), .int (xs (i + 3))] γ δ) (hc : cells ≤ room_1.cells ∧ slots ≤ room_1.slots)
    (kk : ∀ (N' : Nt) (wt' wh' : Nat) (γ' δ' : mS) (H' : Heap) (locs' : List Loc), CI γ' N' wt' wh' → MI δ' N' wt' wh' → Dok N' wt' wh' → LJ s D aH aM kH kM la kl γ' δ' f H' locs' → W p l e room_1 s m #[Value.ref b] below meth cd H' locs' cells slots Q (F0 m 1262 ls [])) :
    W p l e room_1 s m #[Value.ref b] below meth cd H locs cells slots Q (F0 m 185 ls []) := by
  obtain ⟨r, N', wt', wh', w1, w2, hd⟩ := hp
  obtain ⟨C0, hL, kkH, kkM, kkl, hNst, hX, hZ, hIH, hIM, hgH, hgM, hgl, hap, hapl, hapm⟩ := id C
  obtain ⟨hx, hb, hr, hml, hown, hts, hXX, hbl, hlocks, hgv⟩ := id C0
  have hts' : ∀ w ∈ mTB, w.before #[Value.ref b] s = true := fun w hw => hts w (mTB_tbl hw)
  refine lv_aload_n hx hb dL_law_185 rfl (lv_at hl 1 rfl) ?_
  refine lw_arg C J.2.2.2 hl (j := 1) (v := 1) (by omega) (by decide) (by decide) dL_law_186 dL_law_187 dL_law_189 dL_law_190 dL_law_191 ?_
  refine lw_arg C J.2.2.2 hl (j := 2) (v := 2) (by omega) (by decide) (by decide) dL_law_192 dL_law_193 dL_law_195 dL_law_196 dL_law_197 ?_
  refine lw_arg C J.2.2.2 hl (j := 3) (v := 3) (by omega) (by decide) (by decide) dL_law_198 dL_law_199 dL_law_201 dL_law_202 dL_law_203 ?_
  refine mCallV (D := D) (ad := aH) (ca := kH) (lay := mLayH) (b := 0) (as1 := [.int (xs (i + 1)), .int (xs (i + 2)), .int (xs (i + 3))]) (rest := []) ⟨hx, hb, hml, hown, hts'⟩ mt_X6_link (mTB_mem 305 (by decide +kernel) rfl) hIH kkH hNst J.1 rfl w1 rfl (by decide) ⟨Nat.le_of_ble_eq_true rfl, Nat.le_of_ble_eq_true rfl⟩ hl.1 rfl (Nat.le_of_ble_eq_true rfl) dL_law_204 hc J.2.2.2 hgH (fun _ h => h) (fun q τ H1 locs1 hq hAf => ?_)
  obtain ⟨rfl, hCI⟩ := hq
  have J := LJ_H C J hAf
  show W p l e room_1 s m #[Value.ref b] below meth cd H1 locs1 cells slots Q (F0 m 207 ls (.int r :: []))
  refine lv_aload_n hx hb dL_law_207 rfl (lv_at hl 2 rfl) ?_
  refine lw_arg C J.2.2.2 hl (j := 1) (v := 1) (by omega) (by decide) (by decide) dL_law_208 dL_law_209 dL_law_211 dL_law_212 dL_law_213 ?_
  refine lw_arg C J.2.2.2 hl (j := 2) (v := 2) (by omega) (by decide) (by decide) dL_law_214 dL_law_215 dL_law_217 dL_law_218 dL_law_219 ?_
  refine lw_arg C J.2.2.2 hl (j := 3) (v := 3) (by omega) (by decide) (by decide) dL_law_220 dL_law_221 dL_law_223 dL_law_224 dL_law_225 ?_
  refine mCallV (D := D) (ad := aM) (ca := kM) (lay := mLayM) (b := 0) (as1 := [.int (xs (i + 1)), .int (xs (i + 2)), .int (xs (i + 3))]) (rest := [.int r]) ⟨hx, hb, hml, hown, hts'⟩ mt_X7_link (mTB_mem 845 (by decide +kernel) rfl) hIM kkM hNst J.2.1 rfl w2 rfl (by decide) ⟨Nat.le_of_ble_eq_true rfl, Nat.le_of_ble_eq_true rfl⟩ hl.1 rfl (Nat.le_of_ble_eq_true rfl) dL_law_226 hc J.2.2.2 hgM (fun _ h => h) (fun q τ H1 locs1 hq hAf => ?_)
  obtain ⟨rfl, hMI⟩ := hq
  have J := LJ_M C J hAf
  show W p l e room_1 s m #[Value.ref b] below meth cd H1 locs1 cells slots Q (F0 m 229 ls (.int r :: [.int r]))
  refine lv_icmp_eq (tgt := 1262) hx hb dL_law_229 (by decide) (fun _ => ?_) (fun hne => absurd rfl hne)
  exact kk N' wt' wh' _ _ _ _ hCI hMI hd J
theorem lb_cost (C : LC p s m meth cd b L xs D aH aM kH kM la kl) (J : LJ s D aH aM kH kM la kl γ δ f H locs) (hl : lv_has ls 7 (lv5 b (aH 0) (aM 0) la i)) (hi : i + 4 ≤ L) (hp : PairOK 61 4 101 4 [.int (xs (i + 1)), .int (xs (i + 2))] γ δ) (hc : cells ≤ room_1.cells ∧ slots ≤ room_1.slots)
    (kk : ∀ (N' : Nt) (wt' wh' : Nat) (γ' δ' : mS) (H' : Heap) (locs' : List Loc), CI γ' N' wt' wh' → MI δ' N' wt' wh' → Dok N' wt' wh' → LJ s D aH aM kH kM la kl γ' δ' f H' locs' → W p l e room_1 s m #[Value.ref b] below meth cd H' locs' cells slots Q (F0 m 1262 ls [])) :
    W p l e room_1 s m #[Value.ref b] below meth cd H locs cells slots Q (F0 m 234 ls []) := by
  obtain ⟨r, N', wt', wh', w1, w2, hd⟩ := hp
  obtain ⟨C0, hL, kkH, kkM, kkl, hNst, hX, hZ, hIH, hIM, hgH, hgM, hgl, hap, hapl, hapm⟩ := id C
  obtain ⟨hx, hb, hr, hml, hown, hts, hXX, hbl, hlocks, hgv⟩ := id C0
  have hts' : ∀ w ∈ mTB, w.before #[Value.ref b] s = true := fun w hw => hts w (mTB_tbl hw)
  refine lv_aload_n hx hb dL_law_234 rfl (lv_at hl 1 rfl) ?_
  refine lw_arg C J.2.2.2 hl (j := 1) (v := 1) (by omega) (by decide) (by decide) dL_law_235 dL_law_236 dL_law_238 dL_law_239 dL_law_240 ?_
  refine lw_arg C J.2.2.2 hl (j := 2) (v := 2) (by omega) (by decide) (by decide) dL_law_241 dL_law_242 dL_law_244 dL_law_245 dL_law_246 ?_
  refine mCallV (D := D) (ad := aH) (ca := kH) (lay := mLayH) (b := 0) (as1 := [.int (xs (i + 1)), .int (xs (i + 2))]) (rest := []) ⟨hx, hb, hml, hown, hts'⟩ mt_X6_cost (mTB_mem 328 (by decide +kernel) rfl) hIH kkH hNst J.1 rfl w1 rfl (by decide) ⟨Nat.le_of_ble_eq_true rfl, Nat.le_of_ble_eq_true rfl⟩ hl.1 rfl (Nat.le_of_ble_eq_true rfl) dL_law_247 hc J.2.2.2 hgH (fun _ h => h) (fun q τ H1 locs1 hq hAf => ?_)
  obtain ⟨rfl, hCI⟩ := hq
  have J := LJ_H C J hAf
  show W p l e room_1 s m #[Value.ref b] below meth cd H1 locs1 cells slots Q (F0 m 250 ls (.int r :: []))
  refine lv_aload_n hx hb dL_law_250 rfl (lv_at hl 2 rfl) ?_
  refine lw_arg C J.2.2.2 hl (j := 1) (v := 1) (by omega) (by decide) (by decide) dL_law_251 dL_law_252 dL_law_254 dL_law_255 dL_law_256 ?_
  refine lw_arg C J.2.2.2 hl (j := 2) (v := 2) (by omega) (by decide) (by decide) dL_law_257 dL_law_258 dL_law_260 dL_law_261 dL_law_262 ?_
  refine mCallV (D := D) (ad := aM) (ca := kM) (lay := mLayM) (b := 0) (as1 := [.int (xs (i + 1)), .int (xs (i + 2))]) (rest := [.int r]) ⟨hx, hb, hml, hown, hts'⟩ mt_X7_cost (mTB_mem 861 (by decide +kernel) rfl) hIM kkM hNst J.2.1 rfl w2 rfl (by decide) ⟨Nat.le_of_ble_eq_true rfl, Nat.le_of_ble_eq_true rfl⟩ hl.1 rfl (Nat.le_of_ble_eq_true rfl) dL_law_263 hc J.2.2.2 hgM (fun _ h => h) (fun q τ H1 locs1 hq hAf => ?_)
  obtain ⟨rfl, hMI⟩ := hq
  have J := LJ_M C J hAf
  show W p l e room_1 s m #[Value.ref b] below meth cd H1 locs1 cells slots Q (F0 m 266 ls (.int r :: [.int r]))
  refine lv_icmp_eq (tgt := 1262) hx hb dL_law_266 (by decide) (fun _ => ?_) (fun hne => absurd rfl hne)
  exact kk N' wt' wh' _ _ _ _ hCI hMI hd J
theorem lb_groups (C : LC p s m meth cd b L xs D aH aM kH kM la kl) (J : LJ s D aH aM kH kM la kl γ δ f H locs) (hl : lv_has ls 7 (lv5 b (aH 0) (aM 0) la i)) (hi : i + 4 ≤ L) (hp : PairOK 62 4 102 4 [.int (xs (i + 1)), .int (xs (i + 2))] γ δ) (hc : cells ≤ room_1.cells ∧ slots ≤ room_1.slots)
    (kk : ∀ (N' : Nt) (wt' wh' : Nat) (γ' δ' : mS) (H' : Heap) (locs' : List Loc), CI γ' N' wt' wh' → MI δ' N' wt' wh' → Dok N' wt' wh' → LJ s D aH aM kH kM la kl γ' δ' f H' locs' → W p l e room_1 s m #[Value.ref b] below meth cd H' locs' cells slots Q (F0 m 1262 ls [])) :
    W p l e room_1 s m #[Value.ref b] below meth cd H locs cells slots Q (F0 m 271 ls []) := by
  obtain ⟨r, N', wt', wh', w1, w2, hd⟩ := hp
  obtain ⟨C0, hL, kkH, kkM, kkl, hNst, hX, hZ, hIH, hIM, hgH, hgM, hgl, hap, hapl, hapm⟩ := id C
  obtain ⟨hx, hb, hr, hml, hown, hts, hXX, hbl, hlocks, hgv⟩ := id C0
  have hts' : ∀ w ∈ mTB, w.before #[Value.ref b] s = true := fun w hw => hts w (mTB_tbl hw)
  refine lv_aload_n hx hb dL_law_271 rfl (lv_at hl 1 rfl) ?_
  refine lw_arg C J.2.2.2 hl (j := 1) (v := 1) (by omega) (by decide) (by decide) dL_law_272 dL_law_273 dL_law_275 dL_law_276 dL_law_277 ?_
  refine lw_arg C J.2.2.2 hl (j := 2) (v := 2) (by omega) (by decide) (by decide) dL_law_278 dL_law_279 dL_law_281 dL_law_282 dL_law_283 ?_
  refine mCallV (D := D) (ad := aH) (ca := kH) (lay := mLayH) (b := 0) (as1 := [.int (xs (i + 1)), .int (xs (i + 2))]) (rest := []) ⟨hx, hb, hml, hown, hts'⟩ mt_X6_groups (mTB_mem 340 (by decide +kernel) rfl) hIH kkH hNst J.1 rfl w1 rfl (by decide) ⟨Nat.le_of_ble_eq_true rfl, Nat.le_of_ble_eq_true rfl⟩ hl.1 rfl (Nat.le_of_ble_eq_true rfl) dL_law_284 hc J.2.2.2 hgH (fun _ h => h) (fun q τ H1 locs1 hq hAf => ?_)
  obtain ⟨rfl, hCI⟩ := hq
  have J := LJ_H C J hAf
  show W p l e room_1 s m #[Value.ref b] below meth cd H1 locs1 cells slots Q (F0 m 287 ls (.int r :: []))
  refine lv_aload_n hx hb dL_law_287 rfl (lv_at hl 2 rfl) ?_
  refine lw_arg C J.2.2.2 hl (j := 1) (v := 1) (by omega) (by decide) (by decide) dL_law_288 dL_law_289 dL_law_291 dL_law_292 dL_law_293 ?_
  refine lw_arg C J.2.2.2 hl (j := 2) (v := 2) (by omega) (by decide) (by decide) dL_law_294 dL_law_295 dL_law_297 dL_law_298 dL_law_299 ?_
  refine mCallV (D := D) (ad := aM) (ca := kM) (lay := mLayM) (b := 0) (as1 := [.int (xs (i + 1)), .int (xs (i + 2))]) (rest := [.int r]) ⟨hx, hb, hml, hown, hts'⟩ mt_X7_groups (mTB_mem 869 (by decide +kernel) rfl) hIM kkM hNst J.2.1 rfl w2 rfl (by decide) ⟨Nat.le_of_ble_eq_true rfl, Nat.le_of_ble_eq_true rfl⟩ hl.1 rfl (Nat.le_of_ble_eq_true rfl) dL_law_300 hc J.2.2.2 hgM (fun _ h => h) (fun q τ H1 locs1 hq hAf => ?_)
  obtain ⟨rfl, hMI⟩ := hq
  have J := LJ_M C J hAf
  show W p l e room_1 s m #[Value.ref b] below meth cd H1 locs1 cells slots Q (F0 m 303 ls (.int r :: [.int r]))
  refine lv_icmp_eq (tgt := 1262) hx hb dL_law_303 (by decide) (fun _ => ?_) (fun hne => absurd rfl hne)
  exact kk N' wt' wh' _ _ _ _ hCI hMI hd J
theorem lb_down (C : LC p s m meth cd b L xs D aH aM kH kM la kl) (J : LJ s D aH aM kH kM la kl γ δ f H locs) (hl : lv_has ls 7 (lv5 b (aH 0) (aM 0) la i)) (hi : i + 4 ≤ L) (hp : PairOK 63 3 103 4 [.int (xs (i + 1)), .int (xs (i + 2))] γ δ) (hc : cells ≤ room_1.cells ∧ slots ≤ room_1.slots)
    (kk : ∀ (N' : Nt) (wt' wh' : Nat) (γ' δ' : mS) (H' : Heap) (locs' : List Loc), CI γ' N' wt' wh' → MI δ' N' wt' wh' → Dok N' wt' wh' → LJ s D aH aM kH kM la kl γ' δ' f H' locs' → W p l e room_1 s m #[Value.ref b] below meth cd H' locs' cells slots Q (F0 m 1262 ls [])) :
    W p l e room_1 s m #[Value.ref b] below meth cd H locs cells slots Q (F0 m 308 ls []) := by
  obtain ⟨r, N', wt', wh', w1, w2, hd⟩ := hp
  obtain ⟨C0, hL, kkH, kkM, kkl, hNst, hX, hZ, hIH, hIM, hgH, hgM, hgl, hap, hapl, hapm⟩ := id C
  obtain ⟨hx, hb, hr, hml, hown, hts, hXX, hbl, hlocks, hgv⟩ := id C0
  have hts' : ∀ w ∈ mTB, w.before #[Value.ref b] s = true := fun w hw => hts w (mTB_tbl hw)
  refine lv_aload_n hx hb dL_law_308 rfl (lv_at hl 1 rfl) ?_
  refine lw_arg C J.2.2.2 hl (j := 1) (v := 1) (by omega) (by decide) (by decide) dL_law_309 dL_law_310 dL_law_312 dL_law_313 dL_law_314 ?_
  refine lw_arg C J.2.2.2 hl (j := 2) (v := 2) (by omega) (by decide) (by decide) dL_law_315 dL_law_316 dL_law_318 dL_law_319 dL_law_320 ?_
  refine mCallV (D := D) (ad := aH) (ca := kH) (lay := mLayH) (b := 0) (as1 := [.int (xs (i + 1)), .int (xs (i + 2))]) (rest := []) ⟨hx, hb, hml, hown, hts'⟩ mt_X6_down (mTB_mem 344 (by decide +kernel) rfl) hIH kkH hNst J.1 rfl w1 rfl (by decide) ⟨Nat.le_of_ble_eq_true rfl, Nat.le_of_ble_eq_true rfl⟩ hl.1 rfl (Nat.le_of_ble_eq_true rfl) dL_law_321 hc J.2.2.2 hgH (fun _ h => h) (fun q τ H1 locs1 hq hAf => ?_)
  obtain ⟨rfl, hCI⟩ := hq
  have J := LJ_H C J hAf
  show W p l e room_1 s m #[Value.ref b] below meth cd H1 locs1 cells slots Q (F0 m 324 ls (.int r :: []))
  refine lv_aload_n hx hb dL_law_324 rfl (lv_at hl 2 rfl) ?_
  refine lw_arg C J.2.2.2 hl (j := 1) (v := 1) (by omega) (by decide) (by decide) dL_law_325 dL_law_326 dL_law_328 dL_law_329 dL_law_330 ?_
  refine lw_arg C J.2.2.2 hl (j := 2) (v := 2) (by omega) (by decide) (by decide) dL_law_331 dL_law_332 dL_law_334 dL_law_335 dL_law_336 ?_
  refine mCallV (D := D) (ad := aM) (ca := kM) (lay := mLayM) (b := 0) (as1 := [.int (xs (i + 1)), .int (xs (i + 2))]) (rest := [.int r]) ⟨hx, hb, hml, hown, hts'⟩ mt_X7_down (mTB_mem 873 (by decide +kernel) rfl) hIM kkM hNst J.2.1 rfl w2 rfl (by decide) ⟨Nat.le_of_ble_eq_true rfl, Nat.le_of_ble_eq_true rfl⟩ hl.1 rfl (Nat.le_of_ble_eq_true rfl) dL_law_337 hc J.2.2.2 hgM (fun _ h => h) (fun q τ H1 locs1 hq hAf => ?_)
  obtain ⟨rfl, hMI⟩ := hq
  have J := LJ_M C J hAf
  show W p l e room_1 s m #[Value.ref b] below meth cd H1 locs1 cells slots Q (F0 m 340 ls (.int r :: [.int r]))
  refine lv_icmp_eq (tgt := 1262) hx hb dL_law_340 (by decide) (fun _ => ?_) (fun hne => absurd rfl hne)
  exact kk N' wt' wh' _ _ _ _ hCI hMI hd J
theorem lb_of (C : LC p s m meth cd b L xs D aH aM kH kM la kl) (J : LJ s D aH aM kH kM la kl γ δ f H locs) (hl : lv_has ls 7 (lv5 b (aH 0) (aM 0) la i)) (hi : i + 4 ≤ L) (hp : PairOK 64 3 111 3 [.int (xs (i + 1)), .int (xs (i + 2))] γ δ) (hc : cells ≤ room_1.cells ∧ slots ≤ room_1.slots)
    (kk : ∀ (N' : Nt) (wt' wh' : Nat) (γ' δ' : mS) (H' : Heap) (locs' : List Loc), CI γ' N' wt' wh' → MI δ' N' wt' wh' → Dok N' wt' wh' → LJ s D aH aM kH kM la kl γ' δ' f H' locs' → W p l e room_1 s m #[Value.ref b] below meth cd H' locs' cells slots Q (F0 m 1262 ls [])) :
    W p l e room_1 s m #[Value.ref b] below meth cd H locs cells slots Q (F0 m 345 ls []) := by
  obtain ⟨r, N', wt', wh', w1, w2, hd⟩ := hp
  obtain ⟨C0, hL, kkH, kkM, kkl, hNst, hX, hZ, hIH, hIM, hgH, hgM, hgl, hap, hapl, hapm⟩ := id C
  obtain ⟨hx, hb, hr, hml, hown, hts, hXX, hbl, hlocks, hgv⟩ := id C0
  have hts' : ∀ w ∈ mTB, w.before #[Value.ref b] s = true := fun w hw => hts w (mTB_tbl hw)
  refine lv_aload_n hx hb dL_law_345 rfl (lv_at hl 1 rfl) ?_
  refine lw_arg C J.2.2.2 hl (j := 1) (v := 1) (by omega) (by decide) (by decide) dL_law_346 dL_law_347 dL_law_349 dL_law_350 dL_law_351 ?_
  refine lw_arg C J.2.2.2 hl (j := 2) (v := 2) (by omega) (by decide) (by decide) dL_law_352 dL_law_353 dL_law_355 dL_law_356 dL_law_357 ?_
  refine mCallV (D := D) (ad := aH) (ca := kH) (lay := mLayH) (b := 0) (as1 := [.int (xs (i + 1)), .int (xs (i + 2))]) (rest := []) ⟨hx, hb, hml, hown, hts'⟩ mt_X6_of (mTB_mem 353 (by decide +kernel) rfl) hIH kkH hNst J.1 rfl w1 rfl (by decide) ⟨Nat.le_of_ble_eq_true rfl, Nat.le_of_ble_eq_true rfl⟩ hl.1 rfl (Nat.le_of_ble_eq_true rfl) dL_law_358 hc J.2.2.2 hgH (fun _ h => h) (fun q τ H1 locs1 hq hAf => ?_)
  obtain ⟨rfl, hCI⟩ := hq
  have J := LJ_H C J hAf
  show W p l e room_1 s m #[Value.ref b] below meth cd H1 locs1 cells slots Q (F0 m 361 ls (.int r :: []))
  refine lv_aload_n hx hb dL_law_361 rfl (lv_at hl 2 rfl) ?_
  refine lw_arg C J.2.2.2 hl (j := 1) (v := 1) (by omega) (by decide) (by decide) dL_law_362 dL_law_363 dL_law_365 dL_law_366 dL_law_367 ?_
  refine lw_arg C J.2.2.2 hl (j := 2) (v := 2) (by omega) (by decide) (by decide) dL_law_368 dL_law_369 dL_law_371 dL_law_372 dL_law_373 ?_
  refine mCallV (D := D) (ad := aM) (ca := kM) (lay := mLayM) (b := 0) (as1 := [.int (xs (i + 1)), .int (xs (i + 2))]) (rest := [.int r]) ⟨hx, hb, hml, hown, hts'⟩ mt_X7_of (mTB_mem 877 (by decide +kernel) rfl) hIM kkM hNst J.2.1 rfl w2 rfl (by decide) ⟨Nat.le_of_ble_eq_true rfl, Nat.le_of_ble_eq_true rfl⟩ hl.1 rfl (Nat.le_of_ble_eq_true rfl) dL_law_374 hc J.2.2.2 hgM (fun _ h => h) (fun q τ H1 locs1 hq hAf => ?_)
  obtain ⟨rfl, hMI⟩ := hq
  have J := LJ_M C J hAf
  show W p l e room_1 s m #[Value.ref b] below meth cd H1 locs1 cells slots Q (F0 m 377 ls (.int r :: [.int r]))
  refine lv_icmp_eq (tgt := 1262) hx hb dL_law_377 (by decide) (fun _ => ?_) (fun hne => absurd rfl hne)
  exact kk N' wt' wh' _ _ _ _ hCI hMI hd J
theorem lb_between (C : LC p s m meth cd b L xs D aH aM kH kM la kl) (J : LJ s D aH aM kH kM la kl γ δ f H locs) (hl : lv_has ls 7 (lv5 b (aH 0) (aM 0) la i)) (hi : i + 4 ≤ L) (hp : PairOK 65 3 113 3 [.int (xs (i + 1)), .int (xs (i + 2))] γ δ) (hc : cells ≤ room_1.cells ∧ slots ≤ room_1.slots)
    (kk : ∀ (N' : Nt) (wt' wh' : Nat) (γ' δ' : mS) (H' : Heap) (locs' : List Loc), CI γ' N' wt' wh' → MI δ' N' wt' wh' → Dok N' wt' wh' → LJ s D aH aM kH kM la kl γ' δ' f H' locs' → W p l e room_1 s m #[Value.ref b] below meth cd H' locs' cells slots Q (F0 m 1262 ls [])) :
    W p l e room_1 s m #[Value.ref b] below meth cd H locs cells slots Q (F0 m 382 ls []) := by
  obtain ⟨r, N', wt', wh', w1, w2, hd⟩ := hp
  obtain ⟨C0, hL, kkH, kkM, kkl, hNst, hX, hZ, hIH, hIM, hgH, hgM, hgl, hap, hapl, hapm⟩ := id C
  obtain ⟨hx, hb, hr, hml, hown, hts, hXX, hbl, hlocks, hgv⟩ := id C0
  have hts' : ∀ w ∈ mTB, w.before #[Value.ref b] s = true := fun w hw => hts w (mTB_tbl hw)
  refine lv_aload_n hx hb dL_law_382 rfl (lv_at hl 1 rfl) ?_
  refine lw_arg C J.2.2.2 hl (j := 1) (v := 1) (by omega) (by decide) (by decide) dL_law_383 dL_law_384 dL_law_386 dL_law_387 dL_law_388 ?_
  refine lw_arg C J.2.2.2 hl (j := 2) (v := 2) (by omega) (by decide) (by decide) dL_law_389 dL_law_390 dL_law_392 dL_law_393 dL_law_394 ?_
  refine mCallV (D := D) (ad := aH) (ca := kH) (lay := mLayH) (b := 0) (as1 := [.int (xs (i + 1)), .int (xs (i + 2))]) (rest := []) ⟨hx, hb, hml, hown, hts'⟩ mt_X6_between (mTB_mem 404 (by decide +kernel) rfl) hIH kkH hNst J.1 rfl w1 rfl (by decide) ⟨Nat.le_of_ble_eq_true rfl, Nat.le_of_ble_eq_true rfl⟩ hl.1 rfl (Nat.le_of_ble_eq_true rfl) dL_law_395 hc J.2.2.2 hgH (fun _ h => h) (fun q τ H1 locs1 hq hAf => ?_)
  obtain ⟨rfl, hCI⟩ := hq
  have J := LJ_H C J hAf
  show W p l e room_1 s m #[Value.ref b] below meth cd H1 locs1 cells slots Q (F0 m 398 ls (.int r :: []))
  refine lv_aload_n hx hb dL_law_398 rfl (lv_at hl 2 rfl) ?_
  refine lw_arg C J.2.2.2 hl (j := 1) (v := 1) (by omega) (by decide) (by decide) dL_law_399 dL_law_400 dL_law_402 dL_law_403 dL_law_404 ?_
  refine lw_arg C J.2.2.2 hl (j := 2) (v := 2) (by omega) (by decide) (by decide) dL_law_405 dL_law_406 dL_law_408 dL_law_409 dL_law_410 ?_
  refine mCallV (D := D) (ad := aM) (ca := kM) (lay := mLayM) (b := 0) (as1 := [.int (xs (i + 1)), .int (xs (i + 2))]) (rest := [.int r]) ⟨hx, hb, hml, hown, hts'⟩ mt_X7_between (mTB_mem 909 (by decide +kernel) rfl) hIM kkM hNst J.2.1 rfl w2 rfl (by decide) ⟨Nat.le_of_ble_eq_true rfl, Nat.le_of_ble_eq_true rfl⟩ hl.1 rfl (Nat.le_of_ble_eq_true rfl) dL_law_411 hc J.2.2.2 hgM (fun _ h => h) (fun q τ H1 locs1 hq hAf => ?_)
  obtain ⟨rfl, hMI⟩ := hq
  have J := LJ_M C J hAf
  show W p l e room_1 s m #[Value.ref b] below meth cd H1 locs1 cells slots Q (F0 m 414 ls (.int r :: [.int r]))
  refine lv_icmp_eq (tgt := 1262) hx hb dL_law_414 (by decide) (fun _ => ?_) (fun hne => absurd rfl hne)
  exact kk N' wt' wh' _ _ _ _ hCI hMI hd J
theorem lb_far (C : LC p s m meth cd b L xs D aH aM kH kM la kl) (J : LJ s D aH aM kH kM la kl γ δ f H locs) (hl : lv_has ls 7 (lv5 b (aH 0) (aM 0) la i)) (hi : i + 4 ≤ L) (hp : PairOK 66 3 115 3 [.int (xs (i + 1)), .int (xs (i + 2))] γ δ) (hc : cells ≤ room_1.cells ∧ slots ≤ room_1.slots)
    (kk : ∀ (N' : Nt) (wt' wh' : Nat) (γ' δ' : mS) (H' : Heap) (locs' : List Loc), CI γ' N' wt' wh' → MI δ' N' wt' wh' → Dok N' wt' wh' → LJ s D aH aM kH kM la kl γ' δ' f H' locs' → W p l e room_1 s m #[Value.ref b] below meth cd H' locs' cells slots Q (F0 m 1262 ls [])) :
    W p l e room_1 s m #[Value.ref b] below meth cd H locs cells slots Q (F0 m 419 ls []) := by
  obtain ⟨r, N', wt', wh', w1, w2, hd⟩ := hp
  obtain ⟨C0, hL, kkH, kkM, kkl, hNst, hX, hZ, hIH, hIM, hgH, hgM, hgl, hap, hapl, hapm⟩ := id C
  obtain ⟨hx, hb, hr, hml, hown, hts, hXX, hbl, hlocks, hgv⟩ := id C0
  have hts' : ∀ w ∈ mTB, w.before #[Value.ref b] s = true := fun w hw => hts w (mTB_tbl hw)
  refine lv_aload_n hx hb dL_law_419 rfl (lv_at hl 1 rfl) ?_
  refine lw_arg C J.2.2.2 hl (j := 1) (v := 1) (by omega) (by decide) (by decide) dL_law_420 dL_law_421 dL_law_423 dL_law_424 dL_law_425 ?_
  refine lw_arg C J.2.2.2 hl (j := 2) (v := 2) (by omega) (by decide) (by decide) dL_law_426 dL_law_427 dL_law_429 dL_law_430 dL_law_431 ?_
  refine mCallV (D := D) (ad := aH) (ca := kH) (lay := mLayH) (b := 0) (as1 := [.int (xs (i + 1)), .int (xs (i + 2))]) (rest := []) ⟨hx, hb, hml, hown, hts'⟩ mt_X6_far (mTB_mem 408 (by decide +kernel) rfl) hIH kkH hNst J.1 rfl w1 rfl (by decide) ⟨Nat.le_of_ble_eq_true rfl, Nat.le_of_ble_eq_true rfl⟩ hl.1 rfl (Nat.le_of_ble_eq_true rfl) dL_law_432 hc J.2.2.2 hgH (fun _ h => h) (fun q τ H1 locs1 hq hAf => ?_)
  obtain ⟨rfl, hCI⟩ := hq
  have J := LJ_H C J hAf
  show W p l e room_1 s m #[Value.ref b] below meth cd H1 locs1 cells slots Q (F0 m 435 ls (.int r :: []))
  refine lv_aload_n hx hb dL_law_435 rfl (lv_at hl 2 rfl) ?_
  refine lw_arg C J.2.2.2 hl (j := 1) (v := 1) (by omega) (by decide) (by decide) dL_law_436 dL_law_437 dL_law_439 dL_law_440 dL_law_441 ?_
  refine lw_arg C J.2.2.2 hl (j := 2) (v := 2) (by omega) (by decide) (by decide) dL_law_442 dL_law_443 dL_law_445 dL_law_446 dL_law_447 ?_
  refine mCallV (D := D) (ad := aM) (ca := kM) (lay := mLayM) (b := 0) (as1 := [.int (xs (i + 1)), .int (xs (i + 2))]) (rest := [.int r]) ⟨hx, hb, hml, hown, hts'⟩ mt_X7_far (mTB_mem 913 (by decide +kernel) rfl) hIM kkM hNst J.2.1 rfl w2 rfl (by decide) ⟨Nat.le_of_ble_eq_true rfl, Nat.le_of_ble_eq_true rfl⟩ hl.1 rfl (Nat.le_of_ble_eq_true rfl) dL_law_448 hc J.2.2.2 hgM (fun _ h => h) (fun q τ H1 locs1 hq hAf => ?_)
  obtain ⟨rfl, hMI⟩ := hq
  have J := LJ_M C J hAf
  show W p l e room_1 s m #[Value.ref b] below meth cd H1 locs1 cells slots Q (F0 m 451 ls (.int r :: [.int r]))
  refine lv_icmp_eq (tgt := 1262) hx hb dL_law_451 (by decide) (fun _ => ?_) (fun hne => absurd rfl hne)
  exact kk N' wt' wh' _ _ _ _ hCI hMI hd J
theorem lb_next (C : LC p s m meth cd b L xs D aH aM kH kM la kl) (J : LJ s D aH aM kH kM la kl γ δ f H locs) (hl : lv_has ls 7 (lv5 b (aH 0) (aM 0) la i)) (hi : i + 4 ≤ L) (hp : PairOK 67 3 116 3 [.int (xs (i + 1)), .int (xs (i + 2))] γ δ) (hc : cells ≤ room_1.cells ∧ slots ≤ room_1.slots)
    (kk : ∀ (N' : Nt) (wt' wh' : Nat) (γ' δ' : mS) (H' : Heap) (locs' : List Loc), CI γ' N' wt' wh' → MI δ' N' wt' wh' → Dok N' wt' wh' → LJ s D aH aM kH kM la kl γ' δ' f H' locs' → W p l e room_1 s m #[Value.ref b] below meth cd H' locs' cells slots Q (F0 m 1262 ls [])) :
    W p l e room_1 s m #[Value.ref b] below meth cd H locs cells slots Q (F0 m 456 ls []) := by
  obtain ⟨r, N', wt', wh', w1, w2, hd⟩ := hp
  obtain ⟨C0, hL, kkH, kkM, kkl, hNst, hX, hZ, hIH, hIM, hgH, hgM, hgl, hap, hapl, hapm⟩ := id C
  obtain ⟨hx, hb, hr, hml, hown, hts, hXX, hbl, hlocks, hgv⟩ := id C0
  have hts' : ∀ w ∈ mTB, w.before #[Value.ref b] s = true := fun w hw => hts w (mTB_tbl hw)
  refine lv_aload_n hx hb dL_law_456 rfl (lv_at hl 1 rfl) ?_
  refine lw_arg C J.2.2.2 hl (j := 1) (v := 1) (by omega) (by decide) (by decide) dL_law_457 dL_law_458 dL_law_460 dL_law_461 dL_law_462 ?_
  refine lw_arg C J.2.2.2 hl (j := 2) (v := 2) (by omega) (by decide) (by decide) dL_law_463 dL_law_464 dL_law_466 dL_law_467 dL_law_468 ?_
  refine mCallV (D := D) (ad := aH) (ca := kH) (lay := mLayH) (b := 0) (as1 := [.int (xs (i + 1)), .int (xs (i + 2))]) (rest := []) ⟨hx, hb, hml, hown, hts'⟩ mt_X6_next (mTB_mem 416 (by decide +kernel) rfl) hIH kkH hNst J.1 rfl w1 rfl (by decide) ⟨Nat.le_of_ble_eq_true rfl, Nat.le_of_ble_eq_true rfl⟩ hl.1 rfl (Nat.le_of_ble_eq_true rfl) dL_law_469 hc J.2.2.2 hgH (fun _ h => h) (fun q τ H1 locs1 hq hAf => ?_)
  obtain ⟨rfl, hCI⟩ := hq
  have J := LJ_H C J hAf
  show W p l e room_1 s m #[Value.ref b] below meth cd H1 locs1 cells slots Q (F0 m 472 ls (.int r :: []))
  refine lv_aload_n hx hb dL_law_472 rfl (lv_at hl 2 rfl) ?_
  refine lw_arg C J.2.2.2 hl (j := 1) (v := 1) (by omega) (by decide) (by decide) dL_law_473 dL_law_474 dL_law_476 dL_law_477 dL_law_478 ?_
  refine lw_arg C J.2.2.2 hl (j := 2) (v := 2) (by omega) (by decide) (by decide) dL_law_479 dL_law_480 dL_law_482 dL_law_483 dL_law_484 ?_
  refine mCallV (D := D) (ad := aM) (ca := kM) (lay := mLayM) (b := 0) (as1 := [.int (xs (i + 1)), .int (xs (i + 2))]) (rest := [.int r]) ⟨hx, hb, hml, hown, hts'⟩ mt_X7_next (mTB_mem 924 (by decide +kernel) rfl) hIM kkM hNst J.2.1 rfl w2 rfl (by decide) ⟨Nat.le_of_ble_eq_true rfl, Nat.le_of_ble_eq_true rfl⟩ hl.1 rfl (Nat.le_of_ble_eq_true rfl) dL_law_485 hc J.2.2.2 hgM (fun _ h => h) (fun q τ H1 locs1 hq hAf => ?_)
  obtain ⟨rfl, hMI⟩ := hq
  have J := LJ_M C J hAf
  show W p l e room_1 s m #[Value.ref b] below meth cd H1 locs1 cells slots Q (F0 m 488 ls (.int r :: [.int r]))
  refine lv_icmp_eq (tgt := 1262) hx hb dL_law_488 (by decide) (fun _ => ?_) (fun hne => absurd rfl hne)
  exact kk N' wt' wh' _ _ _ _ hCI hMI hd J
end LB
