/-! calls of the mini-machine's methods from any frame; clear of a network that stands alone -/
section CA1
theorem va_AOA.moved {t : FieldType} {u U : State} (hal : u.vm.Alike U.vm) (h : va_AOA t u) : va_AOA t U := by
  unfold va_AOA at h ⊢
  simp only [Cond.before, Cond.holds, Cond.value] at h ⊢
  rw [hal.findClass]
  cases hf : u.vm.findClass (FieldType.array t).toString with
  | none => rw [hf] at h; simp at h
  | some comp =>
    rw [hf] at h
    simp only [Option.bind_some] at h ⊢
    rw [hal.findIdx_congr _ (fun _ _ _ _ => rfl)]
    generalize hF : (u.vm.classes.findIdx? fun (x : Class) => match x.kind with | .array component _ => component == comp | _ => false) = fi at h ⊢
    cases fi with
    | none => simp at h
    | some c =>
      simp only [Option.bind_some] at h ⊢
      rw [hal.findClass, hal.class_map _ (fun _ _ _ _ => rfl)]
      exact h
theorem WP_ex {lay : mLay} {y pc : Nat} {L : mLoc} {st : List Value} {σ : mS} {Q : Option Int32 → mS → Prop} (h : WP lay y pc L st σ Q) : ∃ (r : Option Int32) (τ : mS), WP lay y pc L st σ (fun a b => a = r ∧ b = τ) ∧ Q r τ := by
  obtain ⟨n, r, t, h1, h2⟩ := h
  exact ⟨r, t, ⟨n, r, t, h1, rfl, rfl⟩, h2⟩
theorem mInj_D {ad : Nat → Nat} {ca : Nat → ClassId} {lay : mLay} {σ : mS} {A : Nat → Prop} (h : va_D A (mW ad ca lay σ)) : mInj ad lay := by
  intro i j hi hj e
  exact h.1 i j _ _ (mW_get (List.getElem?_eq_getElem hi)) (mW_get (List.getElem?_eq_getElem hj)) e
theorem mA_D {ad : Nat → Nat} {ca : Nat → ClassId} {lay : mLay} {σ : mS} {A : Nat → Prop} (h : va_D A (mW ad ca lay σ)) : ∀ k, k < lay.length → A (ad k) := fun k hk => h.2 k _ (mW_get (List.getElem?_eq_getElem hk))
theorem va_P_cons {D : va_G} {cl : List vw_C} {x : Nat × va_E} {ws : va_W} {H : Heap} : va_P D cl (x :: ws) H ↔ va_at D cl x H ∧ va_P D cl ws H := by
  constructor
  · intro h
    exact ⟨h 0 x rfl, fun k q hk => h (k + 1) q (by simpa using hk)⟩
  · rintro ⟨h1, h2⟩ k q hk
    cases k with
    | zero => cases hk; exact h1
    | succ k => exact h2 k q (by simpa using hk)
theorem va_P_mem {D : va_G} {cl : List vw_C} {ws : va_W} {H : Heap} : va_P D cl ws H ↔ ∀ q ∈ ws, va_at D cl q H := by
  constructor
  · intro h q hq
    obtain ⟨k, hk⟩ := List.getElem?_of_mem hq
    exact h k q hk
  · intro h k q hk
    exact h q (List.mem_of_getElem? hk)
theorem va_D_fst {A : Nat → Prop} {ws ws' : va_W} (h : va_D A ws) (e : ws'.map Prod.fst = ws.map Prod.fst) : va_D A ws' := by
  have key : ∀ (k : Nat) (q : Nat × va_E), ws'[k]? = some q → ∃ q', ws[k]? = some q' ∧ q'.1 = q.1 := by
    intro k q hk
    have h1 : (ws'.map Prod.fst)[k]? = some q.1 := by rw [List.getElem?_map, hk]; rfl
    rw [e, List.getElem?_map] at h1
    cases hw : ws[k]? with
    | none => rw [hw] at h1; cases h1
    | some q' => rw [hw] at h1; exact ⟨q', rfl, Option.some.inj h1⟩
  refine ⟨fun i j p q hp hq e => ?_, fun k q hk => ?_⟩
  · obtain ⟨p', a1, a2⟩ := key i p hp
    obtain ⟨q', b1, b2⟩ := key j q hq
    exact h.1 i j p' q' a1 b1 (by rw [a2, b2]; exact e)
  · obtain ⟨q', a1, a2⟩ := key k q hk
    rw [← a2]; exact h.2 k q' a1
variable {p : Program} {l : Launch} {e : Env} {R : Room} {s : State} {m : MethodId} {args : Array Value} {below : List Frame} {meth : Method} {c : Code} {H H0 : Heap} {locs : List Loc} {cells slots : Nat} {Q : State → Prop} {A0 : Nat → Prop}
def mRs (r : Option Int32) (rest : List Value) : List Value := match r with
  | none => rest
  | some v => .int v :: rest
/-- what a call of a method of the table leaves -/
def mAft (D : va_G) (ad : Nat → Nat) (ca : Nat → ClassId) (lay : mLay) (A0 : Nat → Prop) (H0 H : Heap) (τ : mS) (H1 : Heap) (locs1 : List Loc) : Prop :=
  va_P D mCl (mW ad ca lay τ) H1 ∧ (∀ q : Nat, q < H.size → (∀ k, k < lay.length → q ≠ ad k) → H1[q]? = H[q]?) ∧ H.size ≤ H1.size ∧ va_S A0 H0 H1 locs1
theorem mCallV {D : va_G} {ad : Nat → Nat} {ca : Nat → ClassId} {lay : mLay} {cc : ByteArray} {nL index pc z : Nat} {own : String} {ls : Array Slot} {st0 rest : List Value} {nm : MethodName} {bs : ByteArray} {ml : Nat} {rt : Option FieldType} {ow np fr lo b : Nat} {fs : List (Option Nat)} {as1 : List Value} {σ : mS} {Qm : Option Int32 → mS → Prop}
    (S : CallFix p m c cc nL s args mTB own) (hz : mTab[z]? = some (nm, bs, ml, rt, ow, false, np, fr, lo)) (hlk : Cond.methodLink own index nm ∈ mTB) (hI : mInj ad lay) (hK : va_K D mCl (mT ca lay) s) (hN : mNest s) (hP : va_P D mCl (mW ad ca lay σ) H) (hy : lay[b]? = some (.inl (ow, fs)))
    (hrun : WP lay z 0 (mEnt (.ref b :: as1) ml) [] σ Qm) (hn : as1.length = np) (hml : np + 1 ≤ ml) (hR : fr + 1 ≤ R.frames ∧ 8 + (ml + 11) + lo ≤ R.locals) (hsz : ls.size = nL) (hst : st0 = (as1.map (mv ad)).reverse ++ .ref (ad b) :: rest) (hrs : (rest.map fun v => v.category).sum ≤ 8) (hdg : decode cc pc = .ok (.invokevirtual index, 3))
    (hc : cells ≤ R.cells ∧ slots ≤ R.slots) (hS : va_S A0 H0 H locs) (hDA : ∀ k, k < lay.length → A0 (ad k)) (hA : ∀ q, H0.size ≤ q → A0 q)
    (kk : ∀ (r : Option Int32) (τ : mS) (H1 : Heap) (locs1 : List Loc), Qm r τ → mAft D ad ca lay A0 H0 H τ H1 locs1 → W p l e R s m args below meth c H1 locs1 cells slots Q (F0 m (pc + 3) ls (mRs r rest))) :
    W p l e R s m args below meth c H locs cells slots Q (F0 m pc ls st0) := by
  obtain ⟨r, τ, hr, hq⟩ := WP_ex hrun
  have hM := mMet_of (l := l) (D := D) (ca := ca) hI hz hr (by rw [List.length_cons, hn]; exact hml) H.size
  obtain ⟨-, t2, t3, t4, t5, t6, -, t8, -⟩ := mTab_ok _ (List.mem_of_getElem? hz)
  obtain ⟨t8a, t8b, Tz, Nz, t8c⟩ := t8 rfl
  have hts := S.2.2.2.2
  have hpre : PreV s H nm.cls (ad b) (mPc D ad ca lay (.ref b :: as1) σ H.size) (as1.map (mv ad)) := ⟨mPc_blind, va_recv hK hP t8c (mW_get hy), fun U hU hW => ⟨rfl, by rw [hU], by rw [hU]; exact hP, va_K.moved hW.alike hK, mNest_warm hW hN⟩⟩
  have hfree : ∀ q, mA0 ad lay H.size q → A0 q := by
    rintro q (⟨k, hk, rfl⟩ | h)
    · exact hDA k hk
    · exact hA q (Nat.le_trans hS.1 h)
  have hrunz := va_runV (p := p) (e := e) (below := below) (meth := meth) (locs := locs) (cells := cells) (slots := slots) (R := R) (g := F0 m pc ls st0) (rest := rest) (C := nm.cls) S hM ⟨callB_of np hts (mWs_good t2) rfl rfl rfl (hts _ t3) (hts _ hlk) ⟨t4.1, t4.2, t5⟩ hR, hts _ t8a, hts _ t8b⟩ hpre rfl (by rw [List.length_map]; exact hn) hsz hst (lv_room hrs) hdg hc
  cases r with
  | none => exact va_callv (a := ((.ref b :: as1).map (mv ad)).toArray) hrunz hS (fun q _ hq => hfree q hq) hfree (fun u t H1 locs1 ht1 hvm hw hB hz1 hk1 hS1 => by
      subst hw
      have hP1 := hB.1
      rw [ht1] at hP1
      exact kk none _ H1 locs1 hq ⟨hP1, fun q h1 h2 => hk1 q h1 (by
        rintro (⟨k, hk, rfl⟩ | h)
        · exact h2 k hk rfl
        · omega), hz1, hS1⟩)
  | some v => exact va_calli (a := ((.ref b :: as1).map (mv ad)).toArray) hrunz hS (fun q _ hq => hfree q hq) hfree (fun w u t H1 locs1 ht1 hvm hw hB hz1 hk1 hS1 => by
      obtain ⟨rfl, rfl⟩ := hw
      have hP1 := hB.1
      rw [ht1] at hP1
      exact kk (some _) _ H1 locs1 hq ⟨hP1, fun q h1 h2 => hk1 q h1 (by
        rintro (⟨k, hk, rfl⟩ | h)
        · exact h2 k hk rfl
        · omega), hz1, hS1⟩)
end CA1
section CA2
variable {Q : Option Int32 → mS → Prop} {c : mS}
theorem clearN_loop {n : Int32} : ∀ (k v : Nat) (c : mS), v + k = 12 → (∀ x y, x < v → y < 12 → c (32 + x) y = -1) →
    (∀ c' : mS, (∀ x y, x < 12 → y < 12 → c' (32 + x) y = -1) → (∀ j, j ≠ 9 → c' 0 j = c 0 j) → c' 0 9 = 1 → Q none c') →
    WP mLayN 17 12 [some (.ref 0), some (.int n), some (.int (nI v))] [] c Q := by
  intro k
  induction k with
  | zero =>
    intro v c hv hF kk
    rw [w_X2_clearN_12]
    simp only [w_X2_clearN_0, w_X2_clearN_1, w_X2_clearN_2, w_X2_clearN_5, w_X2_clearN_6, w_X2_clearN_7, w_X2_clearN_10, w_X2_clearN_11, w_X2_clearN_13, w_X2_clearN_15, w_X2_clearN_18, w_X2_clearN_19, w_X2_clearN_22, w_X2_clearN_23, w_X2_clearN_24, w_X2_clearN_25, w_X2_clearN_28, w_X2_clearN_31, w_X2_clearN_34, w_X2_clearN_35, w_X2_clearN_36, w_X2_clearN_39]
    rw [show (12 : Int32) = nI 12 from rfl, if_pos ((kLe (by omega) (by omega)).mpr (by omega))]
    refine ⟨Or.inr trivial, kk _ (fun x y hx hy => ?_) (fun j hj => mUp_j hj) mUp_s⟩
    rw [mUp_k (by omega)]; exact hF x y (by omega) hy
  | succ k ih =>
    intro v c hv hF kk
    rw [w_X2_clearN_12]
    simp only [w_X2_clearN_0, w_X2_clearN_1, w_X2_clearN_2, w_X2_clearN_5, w_X2_clearN_6, w_X2_clearN_7, w_X2_clearN_10, w_X2_clearN_11, w_X2_clearN_13, w_X2_clearN_15, w_X2_clearN_18, w_X2_clearN_19, w_X2_clearN_22, w_X2_clearN_23, w_X2_clearN_24, w_X2_clearN_25, w_X2_clearN_28, w_X2_clearN_31, w_X2_clearN_34, w_X2_clearN_35, w_X2_clearN_36, w_X2_clearN_39]
    rw [show (12 : Int32) = nI 12 from rfl, if_neg (fun q => by rw [kLe (by omega) (by omega)] at q; omega), nI_1]
    rw [kIn (by omega), kCl (by omega)]
    refine ⟨by omega, C_fill0 (n := 12) (by rw [show 32 + v = 8 + (24 + v) by omega, mLayN_row8, if_pos (by omega)]) (by decide) (fun c1 b1 b2 => ?_)⟩
    rw [mKV_none]
    refine ih (v + 1) c1 (by omega) (fun x y hx hy => ?_) (fun c2 d1 d3 d4 => kk c2 d1 (fun j hj => ?_) d4)
    · by_cases e : x = v
      · subst e; exact b2 y hy
      · rw [b1 (32 + x) (by omega)]; exact hF x y (by omega) hy
    · rw [d3 j hj, b1 0 (by omega)]
theorem C_clearN {n : Nat} (kk : ∀ c' : mS, (∀ x y, x < 12 → y < 12 → c' (32 + x) y = -1) → c' 0 0 = nI n → c' 0 1 = 0 → c' 0 9 = 1 → Q none c') : WP mLayN 17 0 [some (.ref 0), some (.int (nI n)), none] [] c Q := by
  simp only [w_X2_clearN_0, w_X2_clearN_1, w_X2_clearN_2, w_X2_clearN_5, w_X2_clearN_6, w_X2_clearN_7, w_X2_clearN_10, w_X2_clearN_11, w_X2_clearN_13, w_X2_clearN_15, w_X2_clearN_18, w_X2_clearN_19, w_X2_clearN_22, w_X2_clearN_23, w_X2_clearN_24, w_X2_clearN_25, w_X2_clearN_28, w_X2_clearN_31, w_X2_clearN_34, w_X2_clearN_35, w_X2_clearN_36, w_X2_clearN_39]
  refine clearN_loop 12 0 _ (by omega) (fun x y hx _ => by omega) (fun c1 b1 b3 b4 => kk c1 b1 ?_ ?_ b4)
  · rw [b3 0 (by decide), mUp_j (by decide), mUp_s]
  · rw [b3 1 (by decide), mUp_s]
end CA2
