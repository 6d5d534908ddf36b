/-! THE MINI-MACHINE'S RUNS ARE THE MACHINE'S: a contract for every method of the table, out of a run -/
def mv (ad : Nat → Nat) (v : Value) : Value := match v with
  | .int x => .int x
  | .ref k => .ref (ad k)
  | _ => .int 0
theorem mv_cat (ad : Nat → Nat) (v : Value) : (mv ad v).category = 1 := by cases v <;> rfl
theorem mv_sum (ad : Nat → Nat) (st : List Value) : ((st.map (mv ad)).map fun v => v.category).sum = st.length := by
  induction st with
  | nil => rfl
  | cons v t ih => simp only [List.map_cons, List.sum_cons, mv_cat, ih, List.length_cons]; omega
def mLv (ad : Nat → Nat) : Nat → mLoc → List (Nat × Value)
  | _, [] => []
  | i, none :: L => mLv ad (i + 1) L
  | i, some v :: L => (i, mv ad v) :: mLv ad (i + 1) L
theorem mLv_mem {ad : Nat → Nat} {q : Nat × Value} : ∀ {L : mLoc} {i : Nat}, q ∈ mLv ad i L ↔ ∃ j v, L[j]? = some (some v) ∧ q = (i + j, mv ad v)
  | [], i => by simp [mLv]
  | none :: L, i => by
    unfold mLv
    rw [mLv_mem]
    constructor
    · rintro ⟨j, v, h, rfl⟩
      exact ⟨j + 1, v, by simpa using h, by rw [Nat.add_assoc, Nat.add_comm 1 j]⟩
    · rintro ⟨j, v, h, rfl⟩
      cases j with
      | zero => simp at h
      | succ j => exact ⟨j, v, by simpa using h, by rw [Nat.add_assoc, Nat.add_comm 1 j]⟩
  | some w :: L, i => by
    unfold mLv
    rw [List.mem_cons, mLv_mem]
    constructor
    · rintro (rfl | ⟨j, v, h, rfl⟩)
      · exact ⟨0, w, by simp, rfl⟩
      · exact ⟨j + 1, v, by simpa using h, by rw [Nat.add_assoc, Nat.add_comm 1 j]⟩
    · rintro ⟨j, v, h, rfl⟩
      cases j with
      | zero => simp at h; subst h; exact Or.inl rfl
      | succ j => exact Or.inr ⟨j, v, by simpa using h, by rw [Nat.add_assoc, Nat.add_comm 1 j]⟩
theorem mLv_at {ad : Nat → Nat} {ls : Array Slot} {nL : Nat} {L : mLoc} (h : lv_has ls nL (mLv ad 0 L)) {k : Nat} {v : Value} (hk : mld L k = some v) : ls[k]? = some (.val (mv ad v)) := by
  have h2 : L[k]? = some (some v) := by
    unfold mld at hk
    split at hk
    · rename_i w hw; cases hk; exact hw
    · cases hk
  exact h.2.2 (k, mv ad v) (mLv_mem.mpr ⟨k, v, h2, by rw [Nat.zero_add]⟩)
theorem mLv_store {ad : Nat → Nat} {ls : Array Slot} {nL : Nat} {L : mLoc} {i : Nat} {v : Value} (h : lv_has ls nL ((i, mv ad v) :: (mLv ad 0 L).filter (fun q => !(q.1 == i) && !(q.1 + 1 == i && q.2.category == 2)))) : lv_has ls nL (mLv ad 0 (L.set i (some v))) := by
  refine ⟨h.1, h.2.1, fun q hq => h.2.2 q ?_⟩
  obtain ⟨j, w, hj, rfl⟩ := mLv_mem.mp hq
  rw [Nat.zero_add]
  rw [List.getElem?_set] at hj
  by_cases e : i = j
  · subst e
    rw [if_pos rfl] at hj
    split at hj
    · cases hj; exact List.mem_cons_self
    · cases hj
  · rw [if_neg e] at hj
    refine List.mem_cons_of_mem _ (List.mem_filter.mpr ⟨mLv_mem.mpr ⟨j, w, hj, by rw [Nat.zero_add]⟩, ?_⟩)
    have : ¬ j = i := fun q => e q.symm
    simp [this, mv_cat]
theorem mLv_entry (ad : Nat → Nat) (ml : Nat) : ∀ (as : List Value) (i : Nat), mLv ad i (as.map some ++ List.replicate ml none) = lv_args i (as.map (mv ad))
  | [], i => by
    induction ml generalizing i with
    | zero => rfl
    | succ n ih => exact ih (i + 1)
  | v :: as, i => by
    show (i, mv ad v) :: mLv ad (i + 1) (as.map some ++ List.replicate ml none) = (i, mv ad v) :: lv_args (if (mv ad v).category = 2 then i + 2 else i + 1) (as.map (mv ad))
    rw [if_neg (by rw [mv_cat]; decide), mLv_entry ad ml as (i + 1)]
theorem mlg_sl (ad : Nat → Nat) (as : List Value) : (lg_sl (as.map (mv ad))).length = as.length := by
  induction as with
  | nil => rfl
  | cons v t ih =>
    have : lg_sl ((v :: t).map (mv ad)) = .val (mv ad v) :: lg_sl (t.map (mv ad)) := by
      simp only [List.map_cons, lg_sl, List.flatMap_cons]
      rw [if_neg (by rw [mv_cat]; decide)]
      rfl
    rw [this, List.length_cons, ih, List.length_cons]
def mE (ad : Nat → Nat) (ca : Nat → ClassId) (f : Nat → Int32) (k : Nat) (c : mKd) : va_E := match c with
  | .inl (ci, fs) => .inr (ci, fs.mapIdx (fun j g => match g with | some q => Value.ref (ad q) | none => Value.int (f j)))
  | .inr (.inl n) => .inl (ca k, n, .inl f)
  | .inr (.inr (b, n)) => .inl (ca k, n, .inr (.inr (.inr (.inr (fun i => some (ad (b + i)))))))
def mW (ad : Nat → Nat) (ca : Nat → ClassId) (lay : mLay) (σ : mS) : va_W := lay.mapIdx (fun k c => (ad k, mE ad ca (σ k) k c))
theorem mW_get {ad : Nat → Nat} {ca : Nat → ClassId} {lay : mLay} {σ : mS} {k : Nat} {c : mKd} (h : lay[k]? = some c) : (mW ad ca lay σ)[k]? = some (ad k, mE ad ca (σ k) k c) := by
  simp [mW, h]
theorem mW_set {ad : Nat → Nat} {ca : Nat → ClassId} {lay : mLay} {σ τ : mS} {k : Nat} {c : mKd} (h : lay[k]? = some c) (ho : ∀ j, j ≠ k → τ j = σ j) : (mW ad ca lay σ).set k (ad k, mE ad ca (τ k) k c) = mW ad ca lay τ := by
  apply List.ext_getElem?
  intro j
  rw [List.getElem?_set]
  have hk : k < lay.length := (List.getElem?_eq_some_iff.mp h).1
  by_cases e : k = j
  · subst e
    rw [if_pos rfl, mW_get h, if_pos (by simp [mW]; exact hk)]
  · rw [if_neg e]
    simp only [mW, List.getElem?_mapIdx]
    rw [ho j (fun q => e q.symm)]
theorem mW_at {ad : Nat → Nat} {ca : Nat → ClassId} {lay : mLay} {σ : mS} {k : Nat} {q : Nat × va_E} (h : (mW ad ca lay σ)[k]? = some q) : k < lay.length ∧ q.1 = ad k := by
  simp only [mW, List.getElem?_mapIdx] at h
  cases hc : lay[k]? with
  | none => rw [hc] at h; cases h
  | some c => rw [hc] at h; cases h; exact ⟨(List.getElem?_eq_some_iff.mp hc).1, rfl⟩
def mInj (ad : Nat → Nat) (lay : mLay) : Prop := ∀ i j, i < lay.length → j < lay.length → ad i = ad j → i = j
theorem mW_D {ad : Nat → Nat} {ca : Nat → ClassId} {lay : mLay} {σ : mS} {A : Nat → Prop} (hi : mInj ad lay) (hA : ∀ k, k < lay.length → A (ad k)) : va_D A (mW ad ca lay σ) := by
  refine ⟨fun i j p q hp hq e => ?_, fun k q hq => ?_⟩
  · obtain ⟨a1, a2⟩ := mW_at hp
    obtain ⟨b1, b2⟩ := mW_at hq
    exact hi i j a1 b1 (by rw [← a2, ← b2]; exact e)
  · obtain ⟨a1, a2⟩ := mW_at hq
    rw [a2]; exact hA k a1
def mTy (ca : Nat → ClassId) (k : Nat) (c : mKd) : Option (ClassId × FieldType) := match c with
  | .inl _ => none
  | .inr (.inl _) => some (ca k, .int)
  | .inr (.inr _) => some (ca k, .array .int)
def mT (ca : Nat → ClassId) (lay : mLay) : List (ClassId × FieldType) := (lay.mapIdx (fun k c => mTy ca k c)).filterMap id
theorem mT_get {ca : Nat → ClassId} {lay : mLay} {k : Nat} {c : mKd} {q : ClassId × FieldType} (h : lay[k]? = some c) (hq : mTy ca k c = some q) : ∃ t0 : Nat, (mT ca lay)[t0]? = some q := by
  apply List.getElem?_of_mem
  refine List.mem_filterMap.mpr ⟨some q, List.mem_of_getElem? (i := k) ?_, rfl⟩
  rw [List.getElem?_mapIdx, h, Option.map_some, hq]
def mA0 (ad : Nat → Nat) (lay : mLay) (sz : Nat) : Nat → Prop := fun q => (∃ k, k < lay.length ∧ q = ad k) ∨ sz ≤ q
def mRm (fr lo : Nat) : Room := { frames := fr, cells := 0, slots := 0, locals := lo }
def mWs (nm : MethodName) (bs : ByteArray) (ml : Nat) (rt : Option FieldType) : List Cond := .code nm bs ml rt :: mTB
def mBx (D : va_G) (ad : Nat → Nat) (ca : Nat → ClassId) (lay : mLay) (u : mS) (t : State) : Prop := va_P D mCl (mW ad ca lay u) t.heap ∧ va_K D mCl (mT ca lay) t ∧ mNest t
def mQ (D : va_G) (ad : Nat → Nat) (ca : Nat → ClassId) (lay : mLay) (r : Option Int32) (τ : mS) (A : Nat → Prop) : Array Value → State → Outcome → State → Prop := match r with
  | none => va_Qv (fun u : mS => u = τ) (mBx D ad ca lay) A
  | some v => va_Qi (fun (w : Int32) (u : mS) => w = v ∧ u = τ) (mBx D ad ca lay) A
def mPc (D : va_G) (ad : Nat → Nat) (ca : Nat → ClassId) (lay : mLay) (as : List Value) (σ : mS) (sz : Nat) : Array Value → State → Prop := va_Pc (as.map (mv ad)) (fun U => U.heap.size = sz ∧ va_P D mCl (mW ad ca lay σ) U.heap ∧ va_K D mCl (mT ca lay) U ∧ mNest U)
theorem mNest_same {u U : State} (h : u.vm = U.vm) (hN : mNest u) : mNest U := fun q hq => va_Nw.same rfl h (hN q hq)
theorem mNest_warm {s U : State} (h : s.WarmedH U.vm) (hN : mNest s) : mNest U := fun q hq => va_Nw.warmM h (hN q hq)
/-- what stays the same while a method of the table runs -/
def mCx (D : va_G) (ad : Nat → Nat) (ca : Nat → ClassId) (lay : mLay) (nm : MethodName) (bs : ByteArray) (ml : Nat) (rt : Option FieldType) (p : Program) (s : State) (m : MethodId) (args : Array Value) (meth : Method) (c : Code) (A : Nat → Prop) : Prop :=
  p.tables.exec = Jvm.exec ∧ c.code = bs ∧ meth.sig.returnType = rt ∧ c.maxLocals = ml ∧ (∀ w ∈ mTB, w.before args s = true) ∧ s.vm.findClass nm.cls = some m.cls ∧ meth.locks = false ∧ va_K D mCl (mT ca lay) s ∧ mNest s ∧ mInj ad lay ∧ (∀ k, k < lay.length → A (ad k)) ∧ (∀ q, s.heap.size ≤ q → A q)
theorem mNx_some {pc pc1 : Nat} {L L1 : mLoc} {st st1 : List Value} {σ σ1 : mS} (h : mNx pc L st σ = some (.inl (pc1, L1, st1, σ1))) : pc = pc1 ∧ L = L1 ∧ st = st1 ∧ σ = σ1 := by
  unfold mNx at h
  cases h
  exact ⟨rfl, rfl, rfl, rfl⟩
theorem mgd_some {P : Prop} {dP : Decidable P} {x : Option mAct} {a : mAct} (h : @ite (Option mAct) P dP x none = some a) : P ∧ x = some a := by
  by_cases hp : P
  · rw [if_pos hp] at h; exact ⟨hp, h⟩
  · rw [if_neg hp] at h; cases h
theorem m1_some {st : List Value} {f : Int32 → List Value → Option mAct} {a : mAct} (h : m1 st f = some a) : ∃ x r, st = .int x :: r ∧ f x r = some a := by
  unfold m1 at h
  split at h
  · exact ⟨_, _, rfl, h⟩
  · cases h
theorem m2_some {st : List Value} {f : Int32 → Int32 → List Value → Option mAct} {a : mAct} (h : m2 st f = some a) : ∃ x y r, st = .int y :: .int x :: r ∧ f x y r = some a := by
  unfold m2 at h
  split at h
  · exact ⟨_, _, _, rfl, h⟩
  · cases h
theorem mr1_some {st : List Value} {f : Nat → List Value → Option mAct} {a : mAct} (h : mr1 st f = some a) : ∃ x r, st = .ref x :: r ∧ f x r = some a := by
  unfold mr1 at h
  split at h
  · exact ⟨_, _, rfl, h⟩
  · cases h
theorem mir_some {st : List Value} {f : Int32 → Nat → List Value → Option mAct} {a : mAct} (h : mir st f = some a) : ∃ x b r, st = .int x :: .ref b :: r ∧ f x b r = some a := by
  unfold mir at h
  split at h
  · exact ⟨_, _, _, rfl, h⟩
  · cases h
theorem miir_some {st : List Value} {f : Int32 → Int32 → Nat → List Value → Option mAct} {a : mAct} (h : miir st f = some a) : ∃ x i b r, st = .int x :: .int i :: .ref b :: r ∧ f x i b r = some a := by
  unfold miir at h
  split at h
  · exact ⟨_, _, _, _, rfl, h⟩
  · cases h
theorem mlook {α : Type} {l : List ((Nat × Nat) × α)} {k : Nat × Nat} {v : α} (h : l.lookup k = some v) : (k, v) ∈ l := by
  induction l with
  | nil => cases h
  | cons q t ih =>
    obtain ⟨a, b⟩ := q
    rw [List.lookup_cons] at h
    split at h
    · rename_i e
      have : k = a := by simpa using e
      subst this
      cases h
      exact List.mem_cons_self
    · exact List.mem_cons_of_mem _ (ih h)
