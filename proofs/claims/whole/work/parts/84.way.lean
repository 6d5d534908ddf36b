/-! the class's way: it answers or throws -/
section WY1
def NSE : String := "java/util/NoSuchElementException"
def nseN : List String := ["java/lang/RuntimeException", "java/lang/Exception"]
def xNB : List Cond := [.declares (Bundle.init0 "java/lang/RuntimeException"), .declares (Bundle.init0 "java/lang/Exception"), .declares (Bundle.init0 Bundle.tN), .castable NSE NSE]
theorem xGood : GoodIn lw_tbl ((vx_at0 RX6 131 NSE nseN).filter goodWord) := goodIn_r _ [66, 737, 746, 748, 751, 753, 738, 739, 77, 78, 740, 745, 749, 765, 727, 766, 729, 767, 731, 741, 743, 733, 755, 756, 757, 758, 758, 759, 760, 761, 761, 762, 763, 738, 754, 716, 724, 725, 726, 728, 730, 732, 736, 735, 734] (by decide +kernel) (by decide +kernel)
theorem xAt : ∀ w ∈ (vx_at0 RX6 131 NSE nseN).filter goodWord, w ∈ mTB := fun w hw => List.mem_filter.mpr ⟨(xGood w hw).1, (List.mem_filter.mp hw).2⟩
theorem xBad : (vx_at0 RX6 131 NSE nseN).filter (fun w => !goodWord w) = xNB := by decide +kernel
theorem xOt : ∀ w ∈ Cond.classLink RX6 129 NSE :: Cond.initialized NSE :: vx_at0 RX6 131 NSE nseN, vx_ot w = true := List.all_eq_true.mp (by decide +kernel)
def xPr (U : State) : Prop := va_Nw (.declares (Bundle.init0 "java/lang/RuntimeException")) U ∧ va_Nw (.declares (Bundle.init0 "java/lang/Exception")) U ∧ va_Nw (.declares (Bundle.init0 Bundle.tN)) U ∧ va_Nw (.castable NSE NSE) U
theorem xPr_same {u U : State} (h : u.vm = U.vm) (hN : xPr u) : xPr U := ⟨va_Nw.same rfl h hN.1, va_Nw.same rfl h hN.2.1, va_Nw.same rfl h hN.2.2.1, va_Nw.same rfl h hN.2.2.2⟩
theorem xPr_warm {s U : State} (h : s.WarmedH U.vm) (hN : xPr s) : xPr U := ⟨va_Nw.warmD h hN.1, va_Nw.warmD h hN.2.1, va_Nw.warmD h hN.2.2.1, va_Nw.warmC h hN.2.2.2⟩
theorem xHat {args : Array Value} {s : State} (hts : ∀ w ∈ mTB, w.before args s = true) (h : xPr s) : ∀ w ∈ vx_at0 RX6 131 NSE nseN, w.before args s = true :=
  vx_hat (B := xNB) (fun w hw => hts w (xAt w hw)) (fun w hw => by rw [xBad] at hw; exact hw) (vx_c (va_Nw.use rfl h.1) (vx_c (va_Nw.use rfl h.2.1) (vx_c (va_Nw.use rfl h.2.2.1) (vx_c (va_Nw.use rfl h.2.2.2) vx_n))))
def xZ (A : Nat → Prop) (U : State) (H : Heap) : Prop := vx_Zq Bundle.tN "UNASSIGNED_STACK" Bundle.steD A U H ∧ vx_Zq Bundle.tN "SUPPRESSED_SENTINEL" Bundle.listD A U H
theorem xZ_moved {A : Nat → Prop} {u U : State} {H : Heap} (hvm : u.vm.Alike U.vm) (h : xZ A u H) : xZ A U H := ⟨h.1.moved hvm, h.2.moved hvm⟩
theorem xZ_kept {A : Nat → Prop} {U : State} {H H1 : Heap} (h : xZ A U H) (hq : ∀ a : Nat, a < H.size → ¬ A a → H1[a]? = H[a]?) : xZ A U H1 := ⟨h.1.kept hq, h.2.kept hq⟩
theorem xZ_narrow {A B : Nat → Prop} {U : State} {H : Heap} (h : xZ A U H) (hAB : ∀ q, B q → A q) : xZ B U H := ⟨h.1.narrow hAB, h.2.narrow hAB⟩
theorem wayQ_lt {N : Nt} (hN : Nok N) {a b c : Int32} {u : Nat} (h : wayQ N a b c = some u) : u < nN N := by
  unfold wayQ at h
  split at h
  · rename_i x y e
    split at h
    · split at h
      · exact wyK_lt _ _ _ (two_some hN e).2.2.1 h
      · cases h
    · cases h
  · cases h
theorem mW_h0 {ad : Nat → Nat} {ca : Nat → ClassId} (τ : mS) : (mW ad ca mLayH τ)[0]? = some (ad 0, .inr (6, [.ref (ad 1), .ref (ad 2), .ref (ad 3), .ref (ad 4), .ref (ad 5), .ref (ad 6)])) := by
  rw [mW_get (show mLayH[0]? = some (.inl (6, [some 1, some 2, some 3, some 4, some 5, some 6])) from rfl), mE_o]
  rfl
set_option maxHeartbeats 4000000 in
set_option maxRecDepth 100000 in
theorem c_X6_way (l : Launch) (hlt : l.stackTraces = false) (D : va_G) (ad : Nat → Nat) (ca : Nat → ClassId) (hI : mInj ad mLayH) {σ : mS} {N : Nt} {wt wh : Nat} (h : CI σ N wt wh) (a b i : Int32) (sz : Nat) :
    vx_Met l yX6_way (mWs yX6_way cX6_way 5 (some .int)) ({ frames := 6, cells := 1, slots := 6, locals := 81 }) (va_Pc [.ref (ad 0), .int a, .int b, .int i] (fun U => U.heap.size = sz ∧ va_P D mCl (mW ad ca mLayH σ) U.heap ∧ va_K D mCl (mT ca mLayH) U ∧ mNest U ∧ xPr U ∧ xZ (mA0 ad mLayH sz) U U.heap))
      (va_Qi (fun (w : Int32) (u : mS) => wayQ N a b i ≠ none ∧ w = en (wayQ N a b i) ∧ CI u N wt wh) (fun u t => va_P D mCl (mW ad ca mLayH u) t.heap) (mA0 ad mLayH sz))
      (vx_X (fun u : mS => wayQ N a b i = none ∧ CI u N wt wh) (fun E u t => E = NSE ∧ va_P D mCl (mW ad ca mLayH u) t.heap) (mA0 ad mLayH sz)) 1 6 (mA0 ad mLayH sz) := by
  refine vx_ofW (cc := cX6_way) (maxL := 5) (ret := some .int) (by decide +kernel) rfl ?_
  intro p e s m args below meth c s₁ B hml htab hv
  obtain ⟨rfl, hsz, hP, hK, hN, hX, hZ⟩ := hv
  have hx := B.exec
  have hb := B.bytes
  have hr := B.returns
  have hts : ∀ w ∈ mTB, w.before (#[Value.ref (ad 0), .int a, .int b, .int i]) s = true := fun w hw => atoms_spec (ws := mWs yX6_way cX6_way 5 (some .int)) B.pre w (List.mem_cons_of_mem _ hw)
  have hown : s.vm.findClass RX6 = some m.cls := findClass_of_methodNamed B.named
  have hlocks := B.notSynchronized
  subst hsz
  have hA : ∀ q : Nat, s.heap.size ≤ q → mA0 ad mLayH s.heap.size q := fun q h => Or.inr h
  have hDA : ∀ k, k < mLayH.length → mA0 ad mLayH s.heap.size (ad k) := fun k hk => Or.inl ⟨k, hk, rfl⟩
  have hS : va_S (mA0 ad mLayH s.heap.size) s.heap s.heap [] := va_S.rf
  generalize mA0 ad mLayH s.heap.size = A at hA hDA hS hZ ⊢
  have hl := lv_entry ([.ref (ad 0), .int a, .int b, .int i]) (n := 5) (Nat.le_of_ble_eq_true rfl)
  rw [lg_entry_eq]
  generalize (lg_sl ([.ref (ad 0), .int a, .int b, .int i]) ++ List.replicate (5 - (lg_sl ([.ref (ad 0), .int a, .int b, .int i])).length) Slot.unset).toArray = ls at hl ⊢
  have hl : lv_has ls 5 [(0, .ref (ad 0)), (1, .int a), (2, .int b), (3, .int i)] := hl
  have hF := hts (.fieldLink RX6 10 "RerouteHouse" "net" "LRerouteHouse$Network;") (mTB_mem 277 (by decide +kernel) rfl)
  refine lv_aload_n hx hb dX6_way_0 rfl (lv_at hl 0 rfl) ?_
  refine va_get (D := D) (ci := 6) (v := .ref (ad 1)) (C := RX6) (T := TX6) (N := 6) hx hb hts mcl_X6.1 hown hK hP 0 (mW_h0 _) rfl 0 (by decide) hF (fun _ h9 => h9) rfl dX6_way_1 ?_
  refine mCallV (D := D) (ad := ad) (ca := ca) (lay := mLayH) (b := 1) (as1 := []) (rest := []) (Qm := fun r τ => r = none ∧ CS τ N wt wh) ⟨hx, hb, hml, hown, hts⟩ mt_X2_settle (mTB_mem 364 (by decide +kernel) rfl) hI hK hN hP rfl (C_settle h (fun c' h' => ⟨rfl, h'⟩)) rfl (by decide) ⟨Nat.le_of_ble_eq_true rfl, Nat.le_of_ble_eq_true rfl⟩ hl.1 rfl (by decide) dX6_way_4 ⟨Nat.zero_le _, Nat.zero_le _⟩ hS hDA hA (fun r τ H locs hq hAf => ?_)
  obtain ⟨rfl, hq⟩ := hq
  obtain ⟨hP, -, -, hS⟩ := hAf
  show W p l e _ s m _ below meth c H locs 0 0 _ (F0 m 7 ls [])
  refine lv_aload_n hx hb dX6_way_7 rfl (lv_at hl 0 rfl) ?_
  refine va_get (D := D) (ci := 6) (v := .ref (ad 1)) (C := RX6) (T := TX6) (N := 6) hx hb hts mcl_X6.1 hown hK hP 0 (mW_h0 _) rfl 0 (by decide) hF (fun _ h9 => h9) rfl dX6_way_8 ?_
  refine lv_iload_n hx hb dX6_way_11 rfl (lv_at hl 1 rfl) ?_
  refine lv_iload_n hx hb dX6_way_12 rfl (lv_at hl 2 rfl) ?_
  refine lv_iload_n hx hb dX6_way_13 rfl (lv_at hl 3 rfl) ?_
  refine mCallV (D := D) (ad := ad) (ca := ca) (lay := mLayH) (b := 1) (as1 := [.int a, .int b, .int i]) (rest := []) (Qm := fun r τ2 => r = some (en (wayQ N a b i)) ∧ τ2 = τ) ⟨hx, hb, hml, hown, hts⟩ mt_X2_nodeOfWay (mTB_mem 711 (by decide +kernel) rfl) hI hK hN hP rfl ((C_nodeOfWay hq).mpr ⟨rfl, rfl⟩) rfl (by decide) ⟨Nat.le_of_ble_eq_true rfl, Nat.le_of_ble_eq_true rfl⟩ hl.1 rfl (by decide) dX6_way_14 ⟨Nat.zero_le _, Nat.zero_le _⟩ hS hDA hA (fun r τ2 H locs hq2 hAf => ?_)
  obtain ⟨rfl, rfl⟩ := hq2
  obtain ⟨hP, -, -, hS⟩ := hAf
  show W p l e _ s m _ below meth c H locs 0 0 _ (F0 m 17 ls [.int (en (wayQ N a b i))])
  have hem : en (wayQ N a b i) = -1 ↔ wayQ N a b i = none := en_m1 (fun k hk => by have := wayQ_lt h.1.1 hk; have := h.1.1.2.1; omega)
  refine lv_topi (fun w ew => ?_)
  rw [← ew] at hem
  refine lv_istore (lv' := [(4, .int w), (0, .ref (ad 0)), (1, .int a), (2, .int b), (3, .int i)]) hx hb dX6_way_17 hl (by decide) rfl (fun ls hl => ?_)
  refine lv_iload hx hb dX6_way_19 (lv_at hl 0 rfl) ?_
  refine lv_iconst (v := -1) hx hb dX6_way_21 (by decide) ?_
  refine lv_icmp_ne (tgt := 33) hx hb dX6_way_22 (by decide) (fun hne => ?_) (fun heq => ?_)
  · refine lv_iload hx hb dX6_way_33 (lv_at hl 0 rfl) ?_
    refine W.widen (k := 1) (n := 6) (Nat.zero_le _) (Nat.zero_le _) ?_
    exact vx_ret (W.iret (v := w) hx hb hr (fun t ht hW => ⟨⟨w, τ2, rfl, ⟨fun q => hne (hem.mpr q), ew, CS_I hq⟩, by show va_P D mCl (mW ad ca mLayH τ2) t.heap; rw [ht]; exact hP⟩, hS.F ht⟩) hS.2.2 dX6_way_35)
  · refine vx_throw0 (own := RX6) (cls := NSE) (names := nseN) (ik := 129) (ic := 131) (A := A) hx hb hlt hown (by decide +kernel) (by decide +kernel) (hts (.classLink RX6 129 NSE) (mTB_mem 715 (by decide +kernel) rfl)) (hts (.initialized NSE) (mTB_mem 69 (by decide +kernel) rfl)) (xHat hts hX) xOt hZ.1 hZ.2 hS (by rw [hml]; exact hl.1) dX6_way_25 dX6_way_28 dX6_way_29 dX6_way_32 (fun x hx9 => absurd hx9 (fun q => htab x q)) (Nat.le_of_ble_eq_true rfl) (Nat.le_of_ble_eq_true rfl) (Nat.le_of_ble_eq_true rfl) (Nat.le_of_ble_eq_true rfl) hlocks (fun t ht1 ht2 ht3 => ⟨τ2, ⟨hem.mp heq, CS_I hq⟩, ⟨rfl, hP.kept (fun k q9 hk => ht3 q9.1 ((hP k q9 hk).lt))⟩, Nat.le_trans hS.1 ht2, fun q9 h1 h2 => (ht3 q9 (Nat.lt_of_lt_of_le h1 hS.1)).trans (hS.2.1 q9 h1 h2)⟩) hS.2.2 (Nat.le_of_ble_eq_true rfl) (Nat.le_of_ble_eq_true rfl)
end WY1
