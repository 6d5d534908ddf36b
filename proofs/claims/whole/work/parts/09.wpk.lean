/-! the mini-machine's steps as equivalences, an instruction kind a row -/
section MWK
variable {lay : mLay} {y pc : Nat} {L : mLoc} {st : List Value} {σ : mS} {Q : Option Int32 → mS → Prop} {nm : MethodName} {bs : ByteArray} {ml : Nat} {rt : Option FieldType} {ow : Nat} {stc : Bool} {np fr lo : Nat}
def mKI (K : Int32 → mS → Prop) : Option Int32 → mS → Prop := fun r t => match r with
  | some v => K v t
  | none => False
def mKV (K : mS → Prop) : Option Int32 → mS → Prop := fun r t => match r with
  | some _ => False
  | none => K t
theorem mKI_some {K : Int32 → mS → Prop} {v : Int32} {t : mS} : mKI K (some v) t ↔ K v t := Iff.rfl
theorem mKV_none {K : mS → Prop} {t : mS} : mKV K none t ↔ K t := Iff.rfl
theorem mrun_rt : ∀ (n y pc : Nat) (L : mLoc) (st : List Value) (σ : mS) (r : Option Int32) (t : mS) (nm : MethodName) (bs : ByteArray) (ml : Nat) (rt : Option FieldType) (ow : Nat) (stc : Bool) (np fr lo : Nat), mTab[y]? = some (nm, bs, ml, rt, ow, stc, np, fr, lo) → mrun lay n y pc L st σ = some (r, t) → (rt = none ↔ r = none) := by
  intro n
  induction n with
  | zero => intro y pc L st σ r t nm bs ml rt ow stc np fr lo ht h; simp [mrun] at h
  | succ n ih =>
    intro y pc L st σ r t nm bs ml rt ow stc np fr lo ht h
    unfold mrun at h
    rw [ht] at h
    dsimp only at h
    cases hd : decode bs pc with
    | error z => rw [hd] at h; cases h
    | ok il =>
      obtain ⟨i, len⟩ := il
      rw [hd] at h
      dsimp only at h
      cases hs : mstep lay ow rt fr lo i len pc L st σ with
      | none => rw [hs] at h; cases h
      | some a =>
        rw [hs] at h
        rcases a with ⟨pc1, L1, st1, σ1⟩ | r1 | ⟨z, as, rest⟩
        · exact ih _ _ _ _ _ _ _ _ _ _ _ _ _ _ _ _ ht h
        · have h2 : r1 = r := by cases h; rfl
          subst h2
          rcases mstep_ret hs with ⟨-, -, x, -, rfl, hrr⟩ | ⟨-, -, -, rfl, rfl⟩
          · rcases hrr with rfl | ⟨rfl, -⟩ <;> simp
          · simp
        · dsimp only at h
          cases hc : mrun lay n z 0 (mEnt as (mlOf z)) [] σ with
          | none => rw [hc] at h; cases h
          | some u =>
            rw [hc] at h
            exact ih _ _ _ _ _ _ _ _ _ _ _ _ _ _ _ _ ht h
theorem WP_icmp {c : Jvm.ClassFile.Cond} {off : Int} {t : Nat} {x z : Int32} {P : Prop} {dP : Decidable P} (ht : mTab[y]? = some (nm, bs, ml, rt, ow, stc, np, fr, lo)) (hd : decode bs pc = .ok (.if_icmp c off, 3)) (hj : mJ pc off = some t) (hP : ∀ t f, mBr c x z t f = @ite Nat P dP t f) : WP lay y pc L (.int z :: .int x :: st) σ Q ↔ @ite Prop P dP (WP lay y t L st σ Q) (WP lay y (pc + 3) L st σ Q) :=
  WP_if ht hd (by simp only [mstep, hj, m2, if_true, mNx, hP])
theorem WP_ifc {c : Jvm.ClassFile.Cond} {off : Int} {t : Nat} {x : Int32} {P : Prop} {dP : Decidable P} (ht : mTab[y]? = some (nm, bs, ml, rt, ow, stc, np, fr, lo)) (hd : decode bs pc = .ok (.ifCond c off, 3)) (hj : mJ pc off = some t) (hP : ∀ t f, mBr c x 0 t f = @ite Nat P dP t f) : WP lay y pc L (.int x :: st) σ Q ↔ @ite Prop P dP (WP lay y t L st σ Q) (WP lay y (pc + 3) L st σ Q) :=
  WP_if ht hd (by simp only [mstep, hj, m1, if_true, mNx, hP])
theorem WP_goto {off : Int} {t : Nat} (ht : mTab[y]? = some (nm, bs, ml, rt, ow, stc, np, fr, lo)) (hd : decode bs pc = .ok (.goto off, 3)) (hj : mJ pc off = some t) : WP lay y pc L st σ Q ↔ WP lay y t L st σ Q :=
  WP_step ht hd (by simp only [mstep, hj, if_true, mNx])
theorem WP_ldc {k : Nat} {v : Int32} (ht : mTab[y]? = some (nm, bs, ml, rt, ow, stc, np, fr, lo)) (hd : decode bs pc = .ok (.ldc k, 2)) (hk : mC.lookup (ow, k) = some v) : WP lay y pc L st σ Q ↔ WP lay y (pc + 2) L (.int v :: st) σ Q :=
  WP_step ht hd (by simp only [mstep, hk, if_true, mNx])
theorem WP_ldcw {k : Nat} {v : Int32} (ht : mTab[y]? = some (nm, bs, ml, rt, ow, stc, np, fr, lo)) (hd : decode bs pc = .ok (.ldc_w k, 3)) (hk : mC.lookup (ow, k) = some v) : WP lay y pc L st σ Q ↔ WP lay y (pc + 3) L (.int v :: st) σ Q :=
  WP_step ht hd (by simp only [mstep, hk, if_true, mNx])
theorem WP_getI {k a ci j kd : Nat} {fs : List (Option Nat)} (ht : mTab[y]? = some (nm, bs, ml, rt, ow, stc, np, fr, lo)) (hd : decode bs pc = .ok (.getfield k, 3)) (hf : mF.lookup (ow, k) = some (ci, j, kd)) (hy : lay[a]? = some (.inl (ci, fs))) (hj : fs[j]? = some none) : WP lay y pc L (.ref a :: st) σ Q ↔ WP lay y (pc + 3) L (.int (σ a j) :: st) σ Q :=
  WP_step ht hd (by simp only [mstep, mr1, hf, hy, hj, if_true, mNx])
theorem WP_getR {k a ci j kd q : Nat} {fs : List (Option Nat)} (ht : mTab[y]? = some (nm, bs, ml, rt, ow, stc, np, fr, lo)) (hd : decode bs pc = .ok (.getfield k, 3)) (hf : mF.lookup (ow, k) = some (ci, j, kd)) (hy : lay[a]? = some (.inl (ci, fs))) (hj : fs[j]? = some (some q)) : WP lay y pc L (.ref a :: st) σ Q ↔ WP lay y (pc + 3) L (.ref q :: st) σ Q :=
  WP_step ht hd (by simp only [mstep, mr1, hf, hy, hj, if_true, mNx])
theorem WP_putI {k a ci j : Nat} {x : Int32} {fs : List (Option Nat)} (ht : mTab[y]? = some (nm, bs, ml, rt, ow, stc, np, fr, lo)) (hd : decode bs pc = .ok (.putfield k, 3)) (hf : mF.lookup (ow, k) = some (ci, j, 1)) (hy : lay[a]? = some (.inl (ci, fs))) (hj : fs[j]? = some none) : WP lay y pc L (.int x :: .ref a :: st) σ Q ↔ WP lay y (pc + 3) L st (mUp σ a j x) Q :=
  WP_step ht hd (by simp only [mstep, mir, hf, hy, hj, if_true, true_or, mNx])
theorem WP_putZ {k a ci j : Nat} {x : Int32} {fs : List (Option Nat)} (ht : mTab[y]? = some (nm, bs, ml, rt, ow, stc, np, fr, lo)) (hd : decode bs pc = .ok (.putfield k, 3)) (hf : mF.lookup (ow, k) = some (ci, j, 2)) (hy : lay[a]? = some (.inl (ci, fs))) (hj : fs[j]? = some none) : WP lay y pc L (.int x :: .ref a :: st) σ Q ↔ (x = 0 ∨ x = 1) ∧ WP lay y (pc + 3) L st (mUp σ a j x) Q := by
  have h2 : (x = 0 ∨ x = 1) ↔ ((2 : Nat) = 1 ∨ (2 : Nat) = 2 ∧ (x = 0 ∨ x = 1)) := by simp
  rw [h2]
  exact WP_and (P := (2 : Nat) = 1 ∨ (2 : Nat) = 2 ∧ (x = 0 ∨ x = 1)) (dP := inferInstance) ht hd (by simp only [mstep, mir, hf, hy, hj, if_true, mNx])
theorem WP_iald {a n : Nat} {i : Int32} (ht : mTab[y]? = some (nm, bs, ml, rt, ow, stc, np, fr, lo)) (hd : decode bs pc = .ok (.iaload, 1)) (hy : lay[a]? = some (.inr (.inl n))) : WP lay y pc L (.int i :: .ref a :: st) σ Q ↔ mIn i n ∧ WP lay y (pc + 1) L (.int (σ a i.toNatClampNeg) :: st) σ Q :=
  WP_and (P := ¬ i < 0 ∧ i.toNatClampNeg < n) (dP := inferInstance) ht hd (by simp only [mstep, mir, hy, if_true, mNx])
theorem WP_iast {a n : Nat} {i x : Int32} (ht : mTab[y]? = some (nm, bs, ml, rt, ow, stc, np, fr, lo)) (hd : decode bs pc = .ok (.iastore, 1)) (hy : lay[a]? = some (.inr (.inl n))) : WP lay y pc L (.int x :: .int i :: .ref a :: st) σ Q ↔ mIn i n ∧ WP lay y (pc + 1) L st (mUp σ a i.toNatClampNeg x) Q :=
  WP_and (P := ¬ i < 0 ∧ i.toNatClampNeg < n) (dP := inferInstance) ht hd (by simp only [mstep, miir, hy, if_true, mNx])
theorem WP_rald {b g c n : Nat} {i : Int32} (ht : mTab[y]? = some (nm, bs, ml, rt, ow, stc, np, fr, lo)) (hd : decode bs pc = .ok (.iaload, 1)) (hy : ∀ g, lay[b + g]? = if g < c then some (.inr (.inl n)) else none) : WP lay y pc L (.int i :: .ref (b + g) :: st) σ Q ↔ (g < c ∧ mIn i n) ∧ WP lay y (pc + 1) L (.int (σ (b + g) i.toNatClampNeg) :: st) σ Q := by
  by_cases h : g < c
  · have h2 := hy g
    rw [if_pos h] at h2
    rw [WP_iald ht hd h2]
    exact ⟨fun q => ⟨⟨h, q.1⟩, q.2⟩, fun q => ⟨q.1.2, q.2⟩⟩
  · have h2 := hy g
    rw [if_neg h] at h2
    exact ⟨fun q => absurd q (WP_none ht hd (by simp only [mstep, mir, h2, if_true])), fun q => absurd q.1.1 h⟩
theorem WP_rast {b g c n : Nat} {i x : Int32} (ht : mTab[y]? = some (nm, bs, ml, rt, ow, stc, np, fr, lo)) (hd : decode bs pc = .ok (.iastore, 1)) (hy : ∀ g, lay[b + g]? = if g < c then some (.inr (.inl n)) else none) : WP lay y pc L (.int x :: .int i :: .ref (b + g) :: st) σ Q ↔ (g < c ∧ mIn i n) ∧ WP lay y (pc + 1) L st (mUp σ (b + g) i.toNatClampNeg x) Q := by
  by_cases h : g < c
  · have h2 := hy g
    rw [if_pos h] at h2
    rw [WP_iast ht hd h2]
    exact ⟨fun q => ⟨⟨h, q.1⟩, q.2⟩, fun q => ⟨q.1.2, q.2⟩⟩
  · have h2 := hy g
    rw [if_neg h] at h2
    exact ⟨fun q => absurd q (WP_none ht hd (by simp only [mstep, miir, h2, if_true])), fun q => absurd q.1.1 h⟩
theorem WP_aald {a b n : Nat} {i : Int32} (ht : mTab[y]? = some (nm, bs, ml, rt, ow, stc, np, fr, lo)) (hd : decode bs pc = .ok (.aaload, 1)) (hy : lay[a]? = some (.inr (.inr (b, n)))) : WP lay y pc L (.int i :: .ref a :: st) σ Q ↔ mIn i n ∧ WP lay y (pc + 1) L (.ref (b + i.toNatClampNeg) :: st) σ Q :=
  WP_and (P := ¬ i < 0 ∧ i.toNatClampNeg < n) (dP := inferInstance) ht hd (by simp only [mstep, mir, hy, if_true, mNx])
theorem WP_alen {a n : Nat} (ht : mTab[y]? = some (nm, bs, ml, rt, ow, stc, np, fr, lo)) (hd : decode bs pc = .ok (.arraylength, 1)) (hy : lay[a]? = some (.inr (.inl n))) : WP lay y pc L (.ref a :: st) σ Q ↔ WP lay y (pc + 1) L (.int (Int32.ofNat n) :: st) σ Q :=
  WP_step ht hd (by simp only [mstep, mr1, hy, if_true, mNx])
theorem WP_max {k : Nat} {x z : Int32} (ht : mTab[y]? = some (nm, bs, ml, rt, ow, stc, np, fr, lo)) (hd : decode bs pc = .ok (.invokestatic k, 3)) (hx : mX.contains (ow, k) = true) (hc : 1 ≤ fr ∧ st.length + 13 ≤ lo) : WP lay y pc L (.int z :: .int x :: st) σ Q ↔ WP lay y (pc + 3) L (.int (if x < z then z else x) :: st) σ Q :=
  WP_step ht hd (by simp only [mstep, m2, hx, hc, if_true, and_self, mNx])
theorem WP_idiv {x z : Int32} (ht : mTab[y]? = some (nm, bs, ml, rt, ow, stc, np, fr, lo)) (hd : decode bs pc = .ok (.idiv, 1)) : WP lay y pc L (.int z :: .int x :: st) σ Q ↔ ¬ z = 0 ∧ WP lay y (pc + 1) L (.int (x / z) :: st) σ Q :=
  WP_and (P := ¬ z = 0) (dP := inferInstance) ht hd (by simp only [mstep, m2, if_true, mNx])
theorem WP_irem {x z : Int32} (ht : mTab[y]? = some (nm, bs, ml, rt, ow, stc, np, fr, lo)) (hd : decode bs pc = .ok (.irem, 1)) : WP lay y pc L (.int z :: .int x :: st) σ Q ↔ ¬ z = 0 ∧ WP lay y (pc + 1) L (.int (x - x / z * z) :: st) σ Q :=
  WP_and (P := ¬ z = 0) (dP := inferInstance) ht hd (by simp only [mstep, m2, if_true, mNx])
theorem WP_retI {x : Int32} (ht : mTab[y]? = some (nm, bs, ml, some .int, ow, stc, np, fr, lo)) (hd : decode bs pc = .ok (.ireturn, 1)) : WP lay y pc L [.int x] σ Q ↔ Q (some x) σ :=
  WP_ret ht hd (by simp only [mstep, if_true, true_or])
theorem WP_retB {x : Int32} (ht : mTab[y]? = some (nm, bs, ml, some .boolean, ow, stc, np, fr, lo)) (hd : decode bs pc = .ok (.ireturn, 1)) : WP lay y pc L [.int x] σ Q ↔ (x = 0 ∨ x = 1) ∧ Q (some x) σ :=
  WP_retz (P := some FieldType.boolean = some FieldType.int ∨ some FieldType.boolean = some FieldType.boolean ∧ (x = 0 ∨ x = 1)) (dP := inferInstance) ht hd (by simp only [mstep, if_true]) (by simp)
theorem WP_retV (ht : mTab[y]? = some (nm, bs, ml, none, ow, stc, np, fr, lo)) (hd : decode bs pc = .ok (.return_, 1)) : WP lay y pc L [] σ Q ↔ Q none σ :=
  WP_ret ht hd (by simp only [mstep, if_true, and_self])
theorem mcall_V {k z a owz npz frz loz mlz : Nat} {nst : Bool} {nmz : MethodName} {bsz : ByteArray} {rtz : Option FieldType} {as rest : List Value} {fs : List (Option Nat)} (hl : mL.lookup (ow, k) = some (z, nst)) (hz : mTab[z]? = some (nmz, bsz, mlz, rtz, owz, false, npz, frz, loz)) (hy : lay[a]? = some (.inl (owz, fs))) (hn : as.length = npz) (hc : (decide (frz + 1 ≤ fr) && decide (8 + (mlz + 11) + loz ≤ lo) && decide (npz + 1 ≤ mlz) && decide (rest.length ≤ 8)) = true) :
    mcall lay ow fr lo false k (as.reverse ++ .ref a :: rest) = some (.inr (.inr (z, .ref a :: as, rest))) := by
  simp only [Bool.and_eq_true, decide_eq_true_eq] at hc
  obtain ⟨⟨⟨h1, h2⟩, h3⟩, h4⟩ := hc
  subst hn
  have e1 : (as.reverse ++ Value.ref a :: rest).drop as.length = .ref a :: rest := by
    rw [show as.length = as.reverse.length by simp, List.drop_left]
  have e2 : (as.reverse ++ Value.ref a :: rest).take as.length = as.reverse := by
    rw [show as.length = as.reverse.length by simp, List.take_left]
  have e3 : (as.reverse ++ Value.ref a :: rest).drop (as.length + 1) = rest := by
    rw [← List.drop_drop, e1]; rfl
  unfold mcall
  rw [hl]
  dsimp only
  rw [hz]
  dsimp only
  simp only [Bool.false_eq_true, if_false]
  rw [if_pos ⟨trivial, h1, h2, h3, by simp, by rw [e3]; exact h4⟩]
  rw [e1, e2, List.reverse_reverse]
  simp only [hy, if_true]
theorem mcall_S {k z owz npz frz loz mlz : Nat} {nst : Bool} {nmz : MethodName} {bsz : ByteArray} {rtz : Option FieldType} {as rest : List Value} (hl : mL.lookup (ow, k) = some (z, nst)) (hz : mTab[z]? = some (nmz, bsz, mlz, rtz, owz, true, npz, frz, loz)) (hn : as.length = npz) (hc : (decide (frz + 1 ≤ fr) && decide (8 + (mlz + 11) + loz ≤ lo) && decide (npz ≤ mlz) && decide (rest.length ≤ 8)) = true) :
    mcall lay ow fr lo true k (as.reverse ++ rest) = some (.inr (.inr (z, as, rest))) := by
  simp only [Bool.and_eq_true, decide_eq_true_eq] at hc
  obtain ⟨⟨⟨h1, h2⟩, h3⟩, h4⟩ := hc
  subst hn
  have e1 : (as.reverse ++ rest).drop as.length = rest := by
    rw [show as.length = as.reverse.length by simp, List.drop_left]
  have e2 : (as.reverse ++ rest).take as.length = as.reverse := by
    rw [show as.length = as.reverse.length by simp, List.take_left]
  unfold mcall
  rw [hl]
  dsimp only
  rw [hz]
  dsimp only
  simp only [if_true]
  rw [if_pos ⟨trivial, h1, h2, h3, by simp, by rw [e1]; exact h4⟩]
  rw [e1, e2, List.reverse_reverse]
theorem WP_ki {z : Nat} {E : mLoc} {rest : List Value} {nmz : MethodName} {bsz : ByteArray} {mlz : Nat} {rtz : Option FieldType} {owz : Nat} {stcz : Bool} {npz frz loz pc1 : Nat} (hz : mTab[z]? = some (nmz, bsz, mlz, rtz, owz, stcz, npz, frz, loz)) (hr : ¬ rtz = none) : WP lay z 0 E [] σ (fun r t => WP lay y pc1 L (mPush r rest) t Q) ↔ WP lay z 0 E [] σ (mKI (fun v t => WP lay y pc1 L (.int v :: rest) t Q)) := by
  constructor
  · rintro ⟨n, r, t, h, hq⟩
    cases r with
    | none => exact absurd ((mrun_rt _ _ _ _ _ _ _ _ _ _ _ _ _ _ _ _ _ hz h).mpr rfl) hr
    | some v => exact ⟨n, some v, t, h, hq⟩
  · rintro ⟨n, r, t, h, hq⟩
    cases r with
    | none => exact absurd hq (fun q => q)
    | some v => exact ⟨n, some v, t, h, hq⟩
theorem WP_kv {z : Nat} {E : mLoc} {rest : List Value} {nmz : MethodName} {bsz : ByteArray} {mlz : Nat} {owz : Nat} {stcz : Bool} {npz frz loz pc1 : Nat} (hz : mTab[z]? = some (nmz, bsz, mlz, none, owz, stcz, npz, frz, loz)) : WP lay z 0 E [] σ (fun r t => WP lay y pc1 L (mPush r rest) t Q) ↔ WP lay z 0 E [] σ (mKV (fun t => WP lay y pc1 L rest t Q)) := by
  constructor
  · rintro ⟨n, r, t, h, hq⟩
    cases r with
    | some v => exact absurd ((mrun_rt _ _ _ _ _ _ _ _ _ _ _ _ _ _ _ _ _ hz h).mp rfl) (by simp)
    | none => exact ⟨n, none, t, h, hq⟩
  · rintro ⟨n, r, t, h, hq⟩
    cases r with
    | some v => exact absurd hq (fun q => q)
    | none => exact ⟨n, none, t, h, hq⟩
theorem WP_callVI {k z a owz npz frz loz mlz : Nat} {nst : Bool} {nmz : MethodName} {bsz : ByteArray} {rtz : Option FieldType} {as rest : List Value} {fs : List (Option Nat)} {E : mLoc} (ht : mTab[y]? = some (nm, bs, ml, rt, ow, stc, np, fr, lo)) (hd : decode bs pc = .ok (.invokevirtual k, 3)) (hl : mL.lookup (ow, k) = some (z, nst)) (hz : mTab[z]? = some (nmz, bsz, mlz, rtz, owz, false, npz, frz, loz)) (hr : ¬ rtz = none) (hy : lay[a]? = some (.inl (owz, fs))) (hn : as.length = npz) (hc : (decide (frz + 1 ≤ fr) && decide (8 + (mlz + 11) + loz ≤ lo) && decide (npz + 1 ≤ mlz) && decide (rest.length ≤ 8)) = true) (hE : mEnt (.ref a :: as) mlz = E) :
    WP lay y pc L (as.reverse ++ .ref a :: rest) σ Q ↔ WP lay z 0 E [] σ (mKI (fun v t => WP lay y (pc + 3) L (.int v :: rest) t Q)) := by
  rw [WP_call ht hd (by simp only [mstep, if_true]; exact mcall_V hl hz hy hn hc), ← hE, ← WP_ki hz hr]
  simp only [mlOf, hz]
theorem WP_callVV {k z a owz npz frz loz mlz : Nat} {nst : Bool} {nmz : MethodName} {bsz : ByteArray} {as rest : List Value} {fs : List (Option Nat)} {E : mLoc} (ht : mTab[y]? = some (nm, bs, ml, rt, ow, stc, np, fr, lo)) (hd : decode bs pc = .ok (.invokevirtual k, 3)) (hl : mL.lookup (ow, k) = some (z, nst)) (hz : mTab[z]? = some (nmz, bsz, mlz, none, owz, false, npz, frz, loz)) (hy : lay[a]? = some (.inl (owz, fs))) (hn : as.length = npz) (hc : (decide (frz + 1 ≤ fr) && decide (8 + (mlz + 11) + loz ≤ lo) && decide (npz + 1 ≤ mlz) && decide (rest.length ≤ 8)) = true) (hE : mEnt (.ref a :: as) mlz = E) :
    WP lay y pc L (as.reverse ++ .ref a :: rest) σ Q ↔ WP lay z 0 E [] σ (mKV (fun t => WP lay y (pc + 3) L rest t Q)) := by
  rw [WP_call ht hd (by simp only [mstep, if_true]; exact mcall_V hl hz hy hn hc), ← hE, ← WP_kv hz]
  simp only [mlOf, hz]
theorem WP_callSI {k z owz npz frz loz mlz : Nat} {nst : Bool} {nmz : MethodName} {bsz : ByteArray} {rtz : Option FieldType} {as rest : List Value} {E : mLoc} (ht : mTab[y]? = some (nm, bs, ml, rt, ow, stc, np, fr, lo)) (hd : decode bs pc = .ok (.invokestatic k, 3)) (hx : mX.contains (ow, k) = false) (hl : mL.lookup (ow, k) = some (z, nst)) (hz : mTab[z]? = some (nmz, bsz, mlz, rtz, owz, true, npz, frz, loz)) (hr : ¬ rtz = none) (hn : as.length = npz) (hc : (decide (frz + 1 ≤ fr) && decide (8 + (mlz + 11) + loz ≤ lo) && decide (npz ≤ mlz) && decide (rest.length ≤ 8)) = true) (hE : mEnt as mlz = E) :
    WP lay y pc L (as.reverse ++ rest) σ Q ↔ WP lay z 0 E [] σ (mKI (fun v t => WP lay y (pc + 3) L (.int v :: rest) t Q)) := by
  rw [WP_call ht hd (by simp only [mstep, if_true, hx, Bool.false_eq_true, if_false]; exact mcall_S hl hz hn hc), ← hE, ← WP_ki hz hr]
  simp only [mlOf, hz]
theorem WP_callSV {k z owz npz frz loz mlz : Nat} {nst : Bool} {nmz : MethodName} {bsz : ByteArray} {as rest : List Value} {E : mLoc} (ht : mTab[y]? = some (nm, bs, ml, rt, ow, stc, np, fr, lo)) (hd : decode bs pc = .ok (.invokestatic k, 3)) (hx : mX.contains (ow, k) = false) (hl : mL.lookup (ow, k) = some (z, nst)) (hz : mTab[z]? = some (nmz, bsz, mlz, none, owz, true, npz, frz, loz)) (hn : as.length = npz) (hc : (decide (frz + 1 ≤ fr) && decide (8 + (mlz + 11) + loz ≤ lo) && decide (npz ≤ mlz) && decide (rest.length ≤ 8)) = true) (hE : mEnt as mlz = E) :
    WP lay y pc L (as.reverse ++ rest) σ Q ↔ WP lay z 0 E [] σ (mKV (fun t => WP lay y (pc + 3) L rest t Q)) := by
  rw [WP_call ht hd (by simp only [mstep, if_true, hx, Bool.false_eq_true, if_false]; exact mcall_S hl hz hn hc), ← hE, ← WP_kv hz]
  simp only [mlOf, hz]
end MWK
