/-! the law's way: what the class's way answers, or that it throws -/
section LW1
def mWx : List Cond := Cond.codeWith yL_way cL_way 6 (some .int) [(0, 12, 15, 13)] :: mTB
def mA1 (ad : Nat → Nat) (la sz : Nat) : Nat → Prop := fun q => q = la ∨ mA0 ad mLayH sz q
theorem va_D_consW {A : Nat → Prop} {ad : Nat → Nat} {ca : Nat → ClassId} {lay : mLay} {σ : mS} {la : Nat} {x : va_E} (hI : mInj ad lay) (hDA : ∀ k, k < lay.length → A (ad k)) (hla : ∀ k, k < lay.length → ad k ≠ la) (hA : A la) : va_D A ((la, x) :: mW ad ca lay σ) := by
  have hD := mW_D (ca := ca) (σ := σ) hI hDA
  refine ⟨fun i j p q hp hq e => ?_, fun k q hk => ?_⟩
  · cases i with
    | zero =>
      cases hp
      cases j with
      | zero => rfl
      | succ j => obtain ⟨a1, a2⟩ := mW_at (show (mW ad ca lay σ)[j]? = some q by simpa using hq); exact absurd (a2.symm.trans e.symm) (hla j a1)
    | succ i =>
      cases j with
      | zero => cases hq; obtain ⟨a1, a2⟩ := mW_at (show (mW ad ca lay σ)[i]? = some p by simpa using hp); exact absurd (a2.symm.trans e) (hla i a1)
      | succ j => rw [hD.1 i j p q (by simpa using hp) (by simpa using hq) e]
  · cases k with
    | zero => cases hk; exact hA
    | succ k => exact hD.2 k q (by simpa using hk)
set_option maxHeartbeats 4000000 in
set_option maxRecDepth 100000 in
theorem c_L_way (l : Launch) (hlt : l.stackTraces = false) (D : va_G) (ad : Nat → Nat) (ca : Nat → ClassId) (hI : mInj ad mLayH) {σ : mS} {N : Nt} {wt wh : Nat} (h : CI σ N wt wh) (a b i : Int32) (sz la : Nat) (kl : ClassId) (f : Nat → Int64) (hla : ∀ k, k < mLayH.length → ad k ≠ la) :
    vx_Met l yL_way mWx ({ frames := 7, cells := 1, slots := 6, locals := 105 }) (va_Pc [.ref (ad 0), .int a, .int b, .int i, .ref la] (fun U => U.heap.size = sz ∧ va_P D mCl ((la, .inl (kl, 1, .inr (.inl f))) :: mW ad ca mLayH σ) U.heap ∧ va_K D mCl ((kl, .long) :: mT ca mLayH) U ∧ mNest U ∧ xPr U ∧ xZ (mA1 ad la sz) U U.heap))
      (va_Qi (fun (w : Int32) (u : mS × (Nat → Int64)) => CI u.1 N wt wh ∧ ((wayQ N a b i = none ∧ w = 1) ∨ (wayQ N a b i ≠ none ∧ w = 0 ∧ u.2 0 = (en (wayQ N a b i)).toInt64))) (fun u t => va_P D mCl ((la, .inl (kl, 1, .inr (.inl u.2))) :: mW ad ca mLayH u.1) t.heap) (mA1 ad la sz))
      (vx_X (fun _ : Unit => False) (fun _ _ _ => True) (mA1 ad la sz)) 1 6 (mA1 ad la sz) := by
  refine vx_ofWH (cc := cL_way) (maxL := 6) (ret := some .int) (hh := [(0, 12, 15, 13)]) (by decide +kernel) rfl ?_
  intro p e s m args below meth c s₁ B hml hv
  obtain ⟨rfl, hsz, hP, hK, hN, hX, hZ⟩ := hv
  have hx := B.exec
  have hb := B.bytes
  have hr := B.returns
  have hts0 := atoms_spec (ws := mWx) B.pre
  have hts : ∀ w ∈ mTB, w.before (#[Value.ref (ad 0), .int a, .int b, .int i, .ref la]) s = true := fun w hw => hts0 w (List.mem_cons_of_mem _ hw)
  have htb : c.exceptionTable.toList = tableOf [(0, 12, 15, 13)] := vx_table (x := yL_way) B (hts0 _ List.mem_cons_self)
  have hown : s.vm.findClass RL = some m.cls := findClass_of_methodNamed B.named
  have hlocks := B.notSynchronized
  subst hsz
  have hA : ∀ q : Nat, s.heap.size ≤ q → mA1 ad la s.heap.size q := fun q h => Or.inr (Or.inr h)
  have hDA : ∀ k, k < mLayH.length → (mA1 ad la s.heap.size) (ad k) := fun k hk => Or.inr (Or.inl ⟨k, hk, rfl⟩)
  have hSub : ∀ q, mA0 ad mLayH s.heap.size q → mA1 ad la s.heap.size q := fun q h => Or.inr h
  have hAl : (mA1 ad la s.heap.size) la := Or.inl rfl
  have hS : va_S (mA1 ad la s.heap.size) s.heap s.heap [] := va_S.rf
  generalize mA1 ad la s.heap.size = A at hA hDA hSub hAl hS hZ ⊢
  obtain ⟨pl, hPm⟩ := va_P_cons.mp hP
  have hKm : va_K D mCl (mT ca mLayH) s := ⟨hK.1, fun k q hk => hK.2 (k + 1) q (by rw [List.getElem?_cons_succ]; exact hk)⟩
  have hlal : la < s.heap.size := (hP 0 _ rfl).lt
  have hnla : ¬ mA0 ad mLayH s.heap.size la := by
    rintro (⟨k, hk, e9⟩ | h9)
    · exact hla k hk e9.symm
    · omega
  have hl := lv_entry ([.ref (ad 0), .int a, .int b, .int i, .ref la]) (n := 6) (Nat.le_of_ble_eq_true rfl)
  rw [lg_entry_eq]
  generalize (lg_sl ([.ref (ad 0), .int a, .int b, .int i, .ref la]) ++ List.replicate (6 - (lg_sl ([.ref (ad 0), .int a, .int b, .int i, .ref la])).length) Slot.unset).toArray = ls at hl ⊢
  have hl : lv_has ls 6 [(0, .ref (ad 0)), (1, .int a), (2, .int b), (3, .int i), (4, .ref la)] := hl
  refine lv_aload hx hb dL_way_0 (lv_at hl 4 rfl) ?_
  refine lv_iconst (v := 0) hx hb dL_way_2 (by decide) ?_
  refine lv_aload_n hx hb dL_way_3 rfl (lv_at hl 0 rfl) ?_
  refine lv_iload_n hx hb dL_way_4 rfl (lv_at hl 1 rfl) ?_
  refine lv_iload_n hx hb dL_way_5 rfl (lv_at hl 2 rfl) ?_
  refine lv_iload_n hx hb dL_way_6 rfl (lv_at hl 3 rfl) ?_
  refine vx_calli (vx_runV (C := RX6) (As := [.int a, .int b, .int i]) (rest := [.int 0, .ref la]) ⟨hx, hb, hml, hown, hts⟩ (c_X6_way l hlt D ad ca hI h a b i s.heap.size) ⟨callB_of 3 hts (mWs_good (mTB_mem 710 (by decide +kernel) rfl)) rfl rfl rfl (hts (.initialized RX6) (mTB_mem 56 (by decide +kernel) rfl)) (hts (.methodLink RL 7 yX6_way) (mTB_mem 707 (by decide +kernel) rfl)) (by decide +kernel) ⟨Nat.le_of_ble_eq_true rfl, Nat.le_of_ble_eq_true rfl⟩, hts (.instanceMethod yX6_way) (mTB_mem 708 (by decide +kernel) rfl), hts (.selects RX6 yX6_way yX6_way) (mTB_mem 709 (by decide +kernel) rfl)⟩
    ⟨fun a U g mk q => by obtain ⟨q0, q1, qP, qK, qN, qX, qZ⟩ := q; exact ⟨q0, q1, qP, va_K.moved (u := U) (U := U.calling g mk a) (Vm.Alike.refl U.vm) qK, mNest_same (u := U) rfl qN, xPr_same (u := U) rfl qX, xZ_moved (u := U) (U := U.calling g mk a) (Vm.Alike.refl U.vm) qZ⟩, va_recv hKm hPm (ci := 6) (q0 := 0) rfl (mW_h0 _), fun U hU hW => ⟨rfl, by rw [hU], by rw [hU]; exact hPm, va_K.moved hW.alike hKm, mNest_warm hW hN, xPr_warm hW hX, by rw [hU]; exact xZ_moved hW.alike (xZ_narrow hZ hSub)⟩⟩ rfl rfl hl.1 rfl (lv_room (Nat.le_of_ble_eq_true rfl)) dL_way_7 ⟨Nat.le_of_ble_eq_true rfl, Nat.le_of_ble_eq_true rfl⟩) hS (fun q _ h => hSub q h) hSub (fun q _ h => hSub q h) (fun E ce q9 u t H locs ht hvm hp hB hz hk hS hcell hcv hcl => ?_) (fun r u t H locs ht hvm hp hB hz hk hS => ?_)
  · obtain ⟨rfl, hB⟩ := hB
    obtain ⟨hp1, hp2⟩ := hp
    rw [ht] at hB
    have hP2 : va_P D mCl ((la, .inl (kl, 1, .inr (.inl f))) :: mW ad ca mLayH u) H := va_P_cons.mpr ⟨pl.kept (hk la hlal hnla), hB⟩
    refine vx_catch (own := RL) (name := NSE) (E := NSE) hown [] ⟨0, 12, 15, 13⟩ [] htb (fun z hz => nomatch hz) (by decide) (by decide) (hts (.classLink RL 13 NSE) (mTB_mem 706 (by decide +kernel) rfl)) (va_Nw.use rfl hX.2.2.2) hcell hcv hcl ?_
    show W p l e _ s m _ below meth c H locs _ _ _ (F0 m 15 ls [.ref q9])
    refine lv_astore (lv' := [(5, .ref q9), (0, .ref (ad 0)), (1, .int a), (2, .int b), (3, .int i), (4, .ref la)]) hx hb dL_way_15 hl (by decide) rfl (fun ls hl => ?_)
    refine lv_iconst (v := 1) hx hb dL_way_17 (by decide) ?_
    refine W.widen (k := 1) (n := 6) (Nat.le_of_ble_eq_true rfl) (Nat.le_of_ble_eq_true rfl) ?_
    exact vx_ret (W.iret (v := 1) hx hb hr (fun t ht hW => ⟨⟨1, (u, f), rfl, ⟨hp2, Or.inl ⟨hp1, rfl⟩⟩, by show va_P D mCl _ t.heap; rw [ht]; exact hP2⟩, hS.F ht⟩) hS.2.2 dL_way_18)
  · obtain ⟨hp1, hp2, hp3⟩ := hp
    subst hp2
    have hB : va_P D mCl (mW ad ca mLayH u) t.heap := hB
    rw [ht] at hB
    have hP2 : va_P D mCl ((la, .inl (kl, 1, .inr (.inl f))) :: mW ad ca mLayH u) H := va_P_cons.mpr ⟨pl.kept (hk la hlal hnla), hB⟩
    have hD2 : va_D A ((la, .inl (kl, 1, .inr (.inl f))) :: mW ad ca mLayH u) := va_D_consW hI hDA hla hAl
    refine lv_i2l (v := (en (wayQ N a b i)).toInt64) hx hb dL_way_10 rfl ?_
    refine va_last hx hb hK hP2 hD2 hS 0 0 rfl rfl (by unfold vp_in; decide) dL_way_11 (fun H1 locs1 hP3 hD3 hS3 => ?_)
    refine lv_goto (tgt := 19) hx hb dL_way_12 (by decide) ?_
    refine lv_iconst (v := 0) hx hb dL_way_19 (by decide) ?_
    refine W.widen (k := 1) (n := 6) (Nat.le_of_ble_eq_true rfl) (Nat.le_of_ble_eq_true rfl) ?_
    exact vx_ret (W.iret (v := 0) hx hb hr (fun t ht hW => ⟨⟨0, (u, vp_updL f 0 (en (wayQ N a b i)).toInt64), rfl, ⟨hp3, Or.inr ⟨hp1, rfl, rfl⟩⟩, by show va_P D mCl _ t.heap; rw [ht]; exact hP3⟩, hS3.F ht⟩) hS3.2.2 dL_way_20)
end LW1
