/-! runs of the mini-machine are runs of the machine: all methods of the table at once, by the run's fuel -/
section MMT
variable {l : Launch} {D : va_G} {ad : Nat → Nat} {ca : Nat → ClassId} {lay : mLay}
def mSim (l : Launch) (D : va_G) (ad : Nat → Nat) (ca : Nat → ClassId) (lay : mLay) (n : Nat) : Prop :=
  ∀ (y : Nat) (nm : MethodName) (bs : ByteArray) (ml : Nat) (rt : Option FieldType) (ow : Nat) (stc : Bool) (np fr lo : Nat), mTab[y]? = some (nm, bs, ml, rt, ow, stc, np, fr, lo) →
  ∀ (pc : Nat) (L : mLoc) (st : List Value) (σ : mS) (r : Option Int32) (τ : mS), mrun lay n y pc L st σ = some (r, τ) → L.length = ml →
  ∀ (p : Program) (e : Env) (s : State) (m : MethodId) (args : Array Value) (below : List Frame) (meth : Method) (c : Code) (A : Nat → Prop), mCx D ad ca lay nm bs ml rt p s m args meth c A →
  ∀ (H : Heap) (locs : List Loc) (ls : Array Slot), va_P D mCl (mW ad ca lay σ) H → va_S A s.heap H locs → lv_has ls ml (mLv ad 0 L) →
  W p l e (mRm fr lo) s m args below meth c H locs 0 0 (MQ below (mQ D ad ca lay r τ A) args s 0 0 A) (F0 m pc ls (st.map (mv ad)))
theorem mWs_good {nm : MethodName} {bs : ByteArray} {ml : Nat} {rt : Option FieldType} (h : Cond.code nm bs ml rt ∈ mTB) : GoodIn mTB (mWs nm bs ml rt) := by
  intro w hw
  have hm : w ∈ mTB := by
    rcases List.mem_cons.mp hw with rfl | hw
    · exact h
    · exact hw
  exact ⟨hm, good_of_word (mTB_good hm)⟩
theorem mPc_blind {as : List Value} {σ : mS} {sz : Nat} : FrameBlind (mPc D ad ca lay as σ sz) := fun a U g mk q => by
  obtain ⟨q0, q1, qP, qK, qN⟩ := q
  exact ⟨q0, q1, qP, va_K.moved (u := U) (U := U.calling g mk a) (Vm.Alike.refl U.vm) qK, mNest_same (u := U) rfl qN⟩
/-- a method's contract out of its run -/
theorem mMet {n : Nat} (hSim : mSim l D ad ca lay n) (hI : mInj ad lay) {z : Nat} {nm : MethodName} {bs : ByteArray} {ml : Nat} {rt : Option FieldType} {ow : Nat} {stc : Bool} {np fr lo : Nat} (hz : mTab[z]? = some (nm, bs, ml, rt, ow, stc, np, fr, lo)) {as : List Value} {σ τ : mS} {r : Option Int32} (hrun : mrun lay n z 0 (mEnt as ml) [] σ = some (r, τ)) (hlen : as.length ≤ ml) (sz : Nat) :
    Met l nm (mWs nm bs ml rt) (mRm fr lo) (mPc D ad ca lay as σ sz) (mQ D ad ca lay r τ (mA0 ad lay sz)) 0 0 (mA0 ad lay sz) := by
  obtain ⟨hpn, -⟩ := mTab_ok _ (List.mem_of_getElem? hz)
  refine Met.ofW (cc := bs) (maxL := ml) (ret := rt) hpn rfl ?_
  intro p e s m args below meth c s₁ B hml hv
  obtain ⟨rfl, hsz, hP, hK, hN⟩ := hv
  have hts := atoms_spec (ws := mWs nm bs ml rt) B.pre
  have hown : s.vm.findClass nm.cls = some m.cls := findClass_of_methodNamed B.named
  have hl := lv_entry (as.map (mv ad)) (n := ml) (by rw [mlg_sl]; exact hlen)
  rw [lg_entry_eq]
  generalize (lg_sl (as.map (mv ad)) ++ List.replicate (ml - (lg_sl (as.map (mv ad))).length) Slot.unset).toArray = ls at hl ⊢
  rw [← mLv_entry ad (ml - as.length) as 0] at hl
  subst hsz
  refine hSim z nm bs ml rt ow stc np fr lo hz 0 (mEnt as ml) [] σ r τ hrun (by simp [mEnt]; omega) p e s m _ below meth c (mA0 ad lay s.heap.size) ⟨B.exec, B.bytes, B.returns, hml, fun w hw => hts w (List.mem_cons_of_mem _ hw), hown, B.notSynchronized, hK, hN, hI, fun k hk => Or.inl ⟨k, hk, rfl⟩, fun q hq => Or.inr hq⟩ s.heap [] ls hP va_S.rf hl
theorem mcall_some {ow fr lo k : Nat} {stc : Bool} {st : List Value} {a : mAct} (h : mcall lay ow fr lo stc k st = some a) :
    ∃ (z : Nat) (nst : Bool) (nm : MethodName) (bs : ByteArray) (ml : Nat) (rt : Option FieldType) (owz np frz loz : Nat) (as rest : List Value), mL.lookup (ow, k) = some (z, nst) ∧ mTab[z]? = some (nm, bs, ml, rt, owz, stc, np, frz, loz) ∧ a = .inr (.inr (z, as, rest)) ∧ frz + 1 ≤ fr ∧ 8 + (ml + 11) + loz ≤ lo ∧ as.length ≤ ml ∧ rest.length ≤ 8 ∧
      (stc = true → as.length = np ∧ st = as.reverse ++ rest) ∧ (stc = false → ∃ (b : Nat) (as1 : List Value) (fs : List (Option Nat)), as = .ref b :: as1 ∧ as1.length = np ∧ st = as1.reverse ++ .ref b :: rest ∧ lay[b]? = some (.inl (owz, fs))) := by
  unfold mcall at h
  split at h
  · cases h
  · rename_i z nst hl
    split at h
    · cases h
    · rename_i nm bs ml rt owz stcz np frz loz ht
      have h0 := mgd_some h
      clear h
      obtain ⟨⟨rfl, h1, h2, h3, h4, h5⟩, h⟩ := h0
      cases stcz with
      | true =>
        simp only [if_true] at h h3 h4 h5
        cases h
        refine ⟨z, nst, nm, bs, ml, rt, owz, np, frz, loz, (st.take np).reverse, st.drop np, hl, ht, rfl, h1, h2, by simp; omega, h5, fun _ => ⟨by simp; omega, by simp⟩, fun q => by cases q⟩
      | false =>
        simp only [Bool.false_eq_true, if_false] at h h3 h4 h5
        split at h
        · rename_i b r hr
          split at h
          · rename_i ci fs hy
            have h0 := mgd_some h
            clear h
            obtain ⟨rfl, h⟩ := h0
            cases h
            have hst : st = st.take np ++ .ref b :: r := by rw [← hr]; exact (List.take_append_drop np st).symm
            have hln : (st.drop np).length = r.length + 1 := by rw [hr]; rfl
            rw [List.length_drop] at hln h5
            refine ⟨z, nst, nm, bs, ml, rt, _, np, frz, loz, .ref b :: (st.take np).reverse, r, hl, ht, rfl, h1, h2, by simp; omega, by omega, (fun q => absurd q (by decide)), fun _ => ⟨b, (st.take np).reverse, fs, rfl, by simp; omega, by rw [List.reverse_reverse]; exact hst, hy⟩⟩
          · cases h
        · cases h
theorem mA0_sub {A : Nat → Prop} {s : State} {H : Heap} {locs : List Loc} (hDA : ∀ k, k < lay.length → A (ad k)) (hA : ∀ q, s.heap.size ≤ q → A q) (hS : va_S A s.heap H locs) : ∀ q, mA0 ad lay H.size q → A q := by
  rintro q (⟨k, hk, rfl⟩ | h)
  · exact hDA k hk
  · exact hA q (Nat.le_trans hS.1 h)
theorem mstep_inr {ow fr lo len pc : Nat} {rt : Option FieldType} {i : Instr} {L : mLoc} {st : List Value} {σ : mS} {q : Option Int32 ⊕ (Nat × List Value × List Value)} (hs : mstep lay ow rt fr lo i len pc L st σ = some (.inr q)) : (i = .ireturn) ∨ i = .return_ ∨ (∃ k, i = .invokevirtual k) ∨ ∃ k, i = .invokestatic k := by
  cases i <;> first
    | exact Or.inl rfl
    | exact Or.inr (Or.inl rfl)
    | exact Or.inr (Or.inr (Or.inl ⟨_, rfl⟩))
    | exact Or.inr (Or.inr (Or.inr ⟨_, rfl⟩))
    | (exfalso; simp only [mstep, m1, m2, mr1, mir, miir, mNx] at hs; (repeat' (split at hs)) <;> (first | (cases hs; done) | contradiction))
theorem mstep_ret {ow fr lo len pc : Nat} {rt : Option FieldType} {i : Instr} {L : mLoc} {st : List Value} {σ : mS} {r : Option Int32} (hs : mstep lay ow rt fr lo i len pc L st σ = some (.inr (.inl r))) : (i = .ireturn ∧ len = 1 ∧ ∃ x, st = [.int x] ∧ r = some x ∧ (rt = some .int ∨ (rt = some .boolean ∧ (x = 0 ∨ x = 1)))) ∨ (i = .return_ ∧ len = 1 ∧ st = [] ∧ rt = none ∧ r = none) := by
  rcases mstep_inr hs with rfl | rfl | ⟨k, rfl⟩ | ⟨k, rfl⟩ <;> simp only [mstep] at hs
  · obtain ⟨h1, h2⟩ := mgd_some hs
    split at h2
    · rename_i x
      obtain ⟨h3, h4⟩ := mgd_some h2
      cases h4
      exact Or.inl ⟨rfl, h1, x, rfl, rfl, h3⟩
    · cases h2
  · obtain ⟨⟨h1, h3, h4⟩, h2⟩ := mgd_some hs
    cases h2
    exact Or.inr ⟨rfl, h1, h3, h4, rfl⟩
  · obtain ⟨h1, h2⟩ := mgd_some hs
    obtain ⟨z, nst, nm, bs, ml, rt, owz, np, frz, loz, as, rest, -, -, h3, -⟩ := mcall_some h2
    cases h3
  · obtain ⟨h1, h2⟩ := mgd_some hs
    split at h2
    · obtain ⟨x, y, r, -, h3⟩ := m2_some h2
      obtain ⟨-, h4⟩ := mgd_some h3
      cases h4
    · obtain ⟨z, nst, nm, bs, ml, rt, owz, np, frz, loz, as, rest, -, -, h3, -⟩ := mcall_some h2
      cases h3
theorem mstep_call {ow fr lo len pc : Nat} {rt : Option FieldType} {i : Instr} {L : mLoc} {st : List Value} {σ : mS} {q : Nat × List Value × List Value} (hs : mstep lay ow rt fr lo i len pc L st σ = some (.inr (.inr q))) : ∃ k, (i = .invokevirtual k ∧ len = 3 ∧ mcall lay ow fr lo false k st = some (.inr (.inr q))) ∨ (i = .invokestatic k ∧ len = 3 ∧ mcall lay ow fr lo true k st = some (.inr (.inr q))) := by
  rcases mstep_inr hs with rfl | rfl | ⟨k, rfl⟩ | ⟨k, rfl⟩ <;> simp only [mstep] at hs
  · obtain ⟨h1, h2⟩ := mgd_some hs
    split at h2
    · obtain ⟨h3, h4⟩ := mgd_some h2
      cases h4
    · cases h2
  · obtain ⟨h1, h2⟩ := mgd_some hs
    cases h2
  · obtain ⟨h1, h2⟩ := mgd_some hs
    exact ⟨k, Or.inl ⟨rfl, h1, h2⟩⟩
  · obtain ⟨h1, h2⟩ := mgd_some hs
    split at h2
    · obtain ⟨x, y, r, -, h3⟩ := m2_some h2
      obtain ⟨-, h4⟩ := mgd_some h3
      cases h4
    · exact ⟨k, Or.inr ⟨rfl, h1, h2⟩⟩
set_option maxHeartbeats 4000000 in
theorem msim_all (hI : mInj ad lay) : ∀ n, mSim l D ad ca lay n := by
  intro n
  induction n with
  | zero => intro y nm bs ml rt ow stc np fr lo ht pc L st σ r τ h; simp [mrun] at h
  | succ n ih =>
    intro y nm bs ml rt ow stc np fr lo ht pc L st σ r τ h hL p e s m args below meth c A C H locs ls hP hS hl
    obtain ⟨hpn, -, -, -, -, how, -, -, hrt⟩ := mTab_ok _ (List.mem_of_getElem? ht)
    unfold mrun at h
    rw [ht] at h
    dsimp only at h hpn how hrt
    cases hd : decode bs pc with
    | error z => rw [hd] at h; cases h
    | ok il =>
      obtain ⟨i, len⟩ := il
      rw [hd] at h
      dsimp only at h
      cases hs : mstep lay ow rt fr lo i len pc L st σ with
      | none => rw [hs] at h; cases h
      | some a =>
        rw [hs] at h
        rcases a with ⟨pc1, L1, st1, σ1⟩ | r1 | ⟨z, as, rest⟩
        · exact msim_next C how rfl rfl hd hs hP hS hl hL (fun H1 locs1 ls1 hP1 hS1 hl1 hL1 => ih y nm bs ml rt ow stc np fr lo ht pc1 L1 st1 σ1 r τ h hL1 p e s m args below meth c A C H1 locs1 ls1 hP1 hS1 hl1)
        · have h2 : r1 = r ∧ σ = τ := by cases h; exact ⟨rfl, rfl⟩
          obtain ⟨rfl, rfl⟩ := h2
          obtain ⟨hx, hb, hr, hml, hts, hown, hlocks, hK, hN, hI', hDA, hA⟩ := C
          have hend : ∀ t : State, t.heap = H → s.WarmedH t.vm → mBx D ad ca lay σ t := fun t h1 h2 => ⟨by rw [h1]; exact hP, va_K.moved h2.alike hK, mNest_warm h2 hN⟩
          rcases mstep_ret hs with ⟨rfl, rfl, x, rfl, rfl, hrr⟩ | ⟨rfl, rfl, rfl, rfl, rfl⟩
          · rcases hrr with rfl | ⟨rfl, hz⟩
            · exact W.iret (v := x) hx hb hr (fun t h1 h2 => ⟨⟨x, σ, rfl, ⟨rfl, rfl⟩, hend t h1 h2⟩, hS.F h1⟩) hS.2.2 hd hlocks
            · exact W.zret (v := x) (ty := .boolean) hx hb hr (by rcases hz with rfl | rfl <;> decide +kernel) (fun t h1 h2 => ⟨⟨x, σ, rfl, ⟨rfl, rfl⟩, hend t h1 h2⟩, hS.F h1⟩) hS.2.2 hd hlocks
          · exact W.vret hx hb hr (fun t h1 h2 => ⟨⟨σ, rfl, rfl, hend t h1 h2⟩, hS.F h1⟩) hS.2.2 hd hlocks
        · dsimp only at h
          cases hc : mrun lay n z 0 (mEnt as (mlOf z)) [] σ with
          | none => rw [hc] at h; cases h
          | some u =>
            obtain ⟨r1, σ1⟩ := u
            rw [hc] at h
            dsimp only at h
            have hrest := fun H1 locs1 hP1 hS1 => ih y nm bs ml rt ow stc np fr lo ht (pc + 3) L (mPush r1 rest) σ1 r τ h hL p e s m args below meth c A C H1 locs1 ls hP1 hS1 hl
            obtain ⟨hx, hb, hr, hml, hts, hown, hlocks, hK, hN, hI', hDA, hA⟩ := id C
            have hfree := mA0_sub hDA hA hS
            obtain ⟨k, hcall⟩ := mstep_call hs
            have key : ∀ (stc2 : Bool) (nst : Bool) (nmz : MethodName) (bsz : ByteArray) (mlz : Nat) (rtz : Option FieldType) (owz npz frz loz : Nat), mTab[z]? = some (nmz, bsz, mlz, rtz, owz, stc2, npz, frz, loz) → as.length ≤ mlz →
                (va_Run p l e (mRm fr lo) s m args below meth c H locs 0 0 0 0 (F0 m pc ls (st.map (mv ad))) (rest.map (mv ad)) (mQ D ad ca lay r1 σ1 (mA0 ad lay H.size) (as.map (mv ad)).toArray) (mA0 ad lay H.size)) →
                W p l e (mRm fr lo) s m args below meth c H locs 0 0 (MQ below (mQ D ad ca lay r τ A) args s 0 0 A) (F0 m pc ls (st.map (mv ad))) := by
              intro stc2 nst nmz bsz mlz rtz owz npz frz loz htz hlen hrunz
              cases r1 with
              | none => exact va_callv (a := (as.map (mv ad)).toArray) hrunz hS (fun q _ hq => hfree q hq) hfree (fun u t H1 locs1 ht1 hvm hw hB hz1 hk1 hS1 => by
                  subst hw
                  have hP1 := hB.1
                  rw [ht1] at hP1
                  exact hrest H1 locs1 hP1 hS1)
              | some v => exact va_calli (a := (as.map (mv ad)).toArray) hrunz hS (fun q _ hq => hfree q hq) hfree (fun w u t H1 locs1 ht1 hvm hw hB hz1 hk1 hS1 => by
                  obtain ⟨rfl, rfl⟩ := hw
                  have hP1 := hB.1
                  rw [ht1] at hP1
                  exact hrest H1 locs1 hP1 hS1)
            rcases hcall with ⟨rfl, rfl, hcl⟩ | ⟨rfl, rfl, hcl⟩
            · obtain ⟨z', nst, nmz, bsz, mlz, rtz, owz, npz, frz, loz, as', rest', hlk, htz, heq, hfr, hlo, hla, hrl, -, hvv⟩ := mcall_some hcl
              cases heq
              obtain ⟨b, as1, fs, rfl, hn1, hst, hy⟩ := hvv rfl
              obtain ⟨R0, ez, g1, g2, g3, g4⟩ := mL_ok _ (mlook hlk)
              cases Option.some.inj (g1.symm.trans how)
              cases Option.some.inj (g2.symm.trans htz)
              obtain ⟨-, t2, t3, t4, t5, t6, -, t8, -⟩ := mTab_ok _ (List.mem_of_getElem? htz)
              obtain ⟨t8a, t8b, Tz, Nz, t8c⟩ := t8 rfl
              have hmz : mlOf z = mlz := by simp [mlOf, htz]
              rw [hmz] at hc
              have hM := mMet ih hI htz hc hla H.size
              refine key false nst nmz bsz mlz rtz owz npz frz loz htz hla ?_
              have hpre : PreV s H nmz.cls (ad b) (mPc D ad ca lay (.ref b :: as1) σ H.size) (as1.map (mv ad)) := ⟨mPc_blind, va_recv hK hP t8c (mW_get hy), fun U hU hW => ⟨rfl, by rw [hU], by rw [hU]; exact hP, va_K.moved hW.alike hK, mNest_warm hW hN⟩⟩
              have hstk : (F0 m pc ls (st.map (mv ad))).stack = (as1.map (mv ad)).reverse ++ .ref (ad b) :: rest.map (mv ad) := by
                show st.map (mv ad) = _
                rw [hst, List.map_append, List.map_reverse]
                rfl
              cases nst with
              | false => exact va_runV (C := nmz.cls) ⟨hx, hb, hml, hown, hts⟩ hM ⟨callB_of npz hts (mWs_good t2) rfl rfl rfl (hts _ t3) (hts _ (g3 rfl)) ⟨t4.1, t4.2, t5⟩ ⟨hfr, hlo⟩, hts _ t8a, hts _ t8b⟩ hpre rfl (by rw [List.length_map]; exact hn1) hl.1 hstk (lv_room (by rw [mv_sum]; exact hrl)) hd ⟨Nat.le_refl _, Nat.le_refl _⟩
              | true =>
                obtain ⟨hst2, hmem⟩ := g4 rfl
                exact va_runVN (C := nmz.cls) ⟨hx, hb, hml, hown, hts⟩ hM ⟨va_cnB npz hts (mWs_good t2) rfl rfl rfl (hN _ hmem) (hts _ t3) ⟨t4.1, t4.2, t5⟩ ⟨hfr, hlo⟩, hts _ t8a, hts _ t8b⟩ hpre rfl (by rw [List.length_map]; exact hn1) hl.1 hstk (lv_room (by rw [mv_sum]; exact hrl)) hd ⟨Nat.le_refl _, Nat.le_refl _⟩
            · obtain ⟨z', nst, nmz, bsz, mlz, rtz, owz, npz, frz, loz, as', rest', hlk, htz, heq, hfr, hlo, hla, hrl, hvv, -⟩ := mcall_some hcl
              cases heq
              obtain ⟨hn1, hst⟩ := hvv rfl
              obtain ⟨R0, ez, g1, g2, g3, g4⟩ := mL_ok _ (mlook hlk)
              cases Option.some.inj (g1.symm.trans how)
              cases Option.some.inj (g2.symm.trans htz)
              obtain ⟨-, t2, t3, t4, t5, t6, t7, -, -⟩ := mTab_ok _ (List.mem_of_getElem? htz)
              have t7 := t7 rfl
              have hmz : mlOf z = mlz := by simp [mlOf, htz]
              rw [hmz] at hc
              have hM := mMet ih hI htz hc hla H.size
              refine key true nst nmz bsz mlz rtz owz npz frz loz htz hla ?_
              have hpre : PreS s H (mPc D ad ca lay as σ H.size) (as.map (mv ad)) := ⟨mPc_blind, fun U hU hW => ⟨rfl, by rw [hU], by rw [hU]; exact hP, va_K.moved hW.alike hK, mNest_warm hW hN⟩⟩
              have hstk : (F0 m pc ls (st.map (mv ad))).stack = (as.map (mv ad)).reverse ++ rest.map (mv ad) := by
                show st.map (mv ad) = _
                rw [hst, List.map_append, List.map_reverse]
              cases nst with
              | false => exact va_runS ⟨hx, hb, hml, hown, hts⟩ hM ⟨callB_of npz hts (mWs_good t2) rfl rfl rfl (hts _ t3) (hts _ (g3 rfl)) ⟨t4.1, t4.2, t5⟩ ⟨hfr, hlo⟩, hts _ t7⟩ hpre rfl (by rw [List.length_map]; exact hn1) hl.1 hstk (lv_room (by rw [mv_sum]; exact hrl)) hd ⟨Nat.le_refl _, Nat.le_refl _⟩
              | true =>
                obtain ⟨hst2, hmem⟩ := g4 rfl
                exact va_runSN ⟨hx, hb, hml, hown, hts⟩ hM ⟨va_cnB npz hts (mWs_good t2) rfl rfl rfl (hN _ hmem) (hts _ t3) ⟨t4.1, t4.2, t5⟩ ⟨hfr, hlo⟩, hts _ t7, trivial⟩ hpre rfl (by rw [List.length_map]; exact hn1) hl.1 hstk (lv_room (by rw [mv_sum]; exact hrl)) hd ⟨Nat.le_refl _, Nat.le_refl _⟩
/-- the contract of a method out of what its run on the mini-machine comes to -/
theorem mMet_of (hI : mInj ad lay) {z : Nat} {nm : MethodName} {bs : ByteArray} {ml : Nat} {rt : Option FieldType} {ow : Nat} {stc : Bool} {np fr lo : Nat} (hz : mTab[z]? = some (nm, bs, ml, rt, ow, stc, np, fr, lo)) {as : List Value} {σ τ : mS} {r : Option Int32} (hrun : WP lay z 0 (mEnt as ml) [] σ (fun a b => a = r ∧ b = τ)) (hlen : as.length ≤ ml) (sz : Nat) :
    Met l nm (mWs nm bs ml rt) (mRm fr lo) (mPc D ad ca lay as σ sz) (mQ D ad ca lay r τ (mA0 ad lay sz)) 0 0 (mA0 ad lay sz) := by
  obtain ⟨n, r1, t1, h, rfl, rfl⟩ := hrun
  exact mMet (msim_all hI n) hI hz h hlen sz
end MMT
