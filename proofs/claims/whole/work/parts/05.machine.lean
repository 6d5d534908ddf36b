/-! THE MINI-MACHINE: the part of the machine that the landed class and the reference use, as a function; refs are places of a fixed layout, all numbers lie in σ (place, slot). Its runs are the machine's runs (part 06). -/
abbrev mS : Type := Nat → Nat → Int32
def mUp (σ : mS) (k j : Nat) (v : Int32) : mS := fun a b => if a = k ∧ b = j then v else σ a b
/-- a place: an object (class, fields: a ref to a place, or a number), an int[n], or an array of refs to n places from b on -/
abbrev mKd : Type := (Nat × List (Option Nat)) ⊕ (Nat ⊕ (Nat × Nat))
abbrev mLay : Type := List mKd
abbrev mLoc : Type := List (Option Value)
abbrev mAct : Type := (Nat × mLoc × List Value × mS) ⊕ (Option Int32 ⊕ (Nat × List Value × List Value))
def mIn (i : Int32) (n : Nat) : Prop := ¬ i < 0 ∧ i.toNatClampNeg < n
def mBr (c : Jvm.ClassFile.Cond) (x y : Int32) (t f : Nat) : Nat := match c with
  | .eq => if x = y then t else f
  | .ne => if ¬ x = y then t else f
  | .lt => if x < y then t else f
  | .ge => if y ≤ x then t else f
  | .gt => if y < x then t else f
  | .le => if x ≤ y then t else f
def mJ (pc : Nat) (off : Int) : Option Nat := if 0 ≤ (pc : Int) + off then some ((pc : Int) + off).toNat else none
theorem mJ_ok {pc t : Nat} {off : Int} (h : mJ pc off = some t) : (pc : Int) + off = (t : Int) := by
  unfold mJ at h
  split at h
  · cases h; omega
  · cases h
def mld (L : mLoc) (k : Nat) : Option Value := match L[k]? with
  | some (some v) => some v
  | _ => none
def mNx (pc : Nat) (L : mLoc) (st : List Value) (σ : mS) : Option mAct := some (.inl (pc, L, st, σ))
def m1 (st : List Value) (f : Int32 → List Value → Option mAct) : Option mAct := match st with
  | .int x :: r => f x r
  | _ => none
def m2 (st : List Value) (f : Int32 → Int32 → List Value → Option mAct) : Option mAct := match st with
  | .int y :: .int x :: r => f x y r
  | _ => none
def mr1 (st : List Value) (f : Nat → List Value → Option mAct) : Option mAct := match st with
  | .ref a :: r => f a r
  | _ => none
def mir (st : List Value) (f : Int32 → Nat → List Value → Option mAct) : Option mAct := match st with
  | .int x :: .ref a :: r => f x a r
  | _ => none
def miir (st : List Value) (f : Int32 → Int32 → Nat → List Value → Option mAct) : Option mAct := match st with
  | .int x :: .int i :: .ref a :: r => f x i a r
  | _ => none
def mcall (lay : mLay) (ow fr lo : Nat) (stc : Bool) (k : Nat) (st : List Value) : Option mAct :=
  match mL.lookup (ow, k) with
  | none => none
  | some (z, _) =>
    match mTab[z]? with
    | none => none
    | some (_, _, ml, _, owz, stcz, np, frz, loz) =>
      if stcz = stc ∧ frz + 1 ≤ fr ∧ 8 + (ml + 11) + loz ≤ lo ∧ (if stc then np else np + 1) ≤ ml ∧ (if stc then np else np + 1) ≤ st.length ∧ (st.drop (if stc then np else np + 1)).length ≤ 8 then
        (match stc with
         | true => some (.inr (.inr (z, (st.take np).reverse, st.drop np)))
         | false => match st.drop np with
           | .ref a :: r => (match lay[a]? with
             | some (.inl (ci, _)) => if ci = owz then some (.inr (.inr (z, .ref a :: (st.take np).reverse, r))) else none
             | _ => none)
           | _ => none)
      else none
def mstep (lay : mLay) (ow : Nat) (rt : Option FieldType) (fr lo : Nat) (i : Instr) (len pc : Nat) (L : mLoc) (st : List Value) (σ : mS) : Option mAct :=
  match i with
  | .iconst n => if len = 1 then mNx (pc + 1) L (.int (Int32.ofInt n) :: st) σ else none
  | .bipush n => if len = 2 then mNx (pc + 2) L (.int (Int8.ofInt n).toInt32 :: st) σ else none
  | .sipush n => if len = 3 then mNx (pc + 3) L (.int (Int16.ofInt n).toInt32 :: st) σ else none
  | .ldc k => if len = 2 then (match mC.lookup (ow, k) with | some v => mNx (pc + 2) L (.int v :: st) σ | none => none) else none
  | .ldc_w k => if len = 3 then (match mC.lookup (ow, k) with | some v => mNx (pc + 3) L (.int v :: st) σ | none => none) else none
  | .iload k => if len = 2 then (match mld L k with | some (.int x) => mNx (pc + 2) L (.int x :: st) σ | _ => none) else none
  | .iload_n k => if len = 1 then (match mld L k with | some (.int x) => mNx (pc + 1) L (.int x :: st) σ | _ => none) else none
  | .aload k => if len = 2 then (match mld L k with | some (.ref x) => mNx (pc + 2) L (.ref x :: st) σ | _ => none) else none
  | .aload_n k => if len = 1 then (match mld L k with | some (.ref x) => mNx (pc + 1) L (.ref x :: st) σ | _ => none) else none
  | .istore k => if len = 2 ∧ k < L.length then m1 st (fun x r => mNx (pc + 2) (L.set k (some (.int x))) r σ) else none
  | .istore_n k => if len = 1 ∧ (k : Nat) < L.length then m1 st (fun x r => mNx (pc + 1) (L.set k (some (.int x))) r σ) else none
  | .astore k => if len = 2 ∧ k < L.length then mr1 st (fun x r => mNx (pc + 2) (L.set k (some (.ref x))) r σ) else none
  | .astore_n k => if len = 1 ∧ (k : Nat) < L.length then mr1 st (fun x r => mNx (pc + 1) (L.set k (some (.ref x))) r σ) else none
  | .iinc k n => if len = 3 ∧ k < L.length then (match mld L k with | some (.int x) => mNx (pc + 3) (L.set k (some (.int (x + Int32.ofInt n)))) st σ | _ => none) else none
  | .iadd => if len = 1 then m2 st (fun x y r => mNx (pc + 1) L (.int (x + y) :: r) σ) else none
  | .isub => if len = 1 then m2 st (fun x y r => mNx (pc + 1) L (.int (x - y) :: r) σ) else none
  | .imul => if len = 1 then m2 st (fun x y r => mNx (pc + 1) L (.int (x * y) :: r) σ) else none
  | .iand => if len = 1 then m2 st (fun x y r => mNx (pc + 1) L (.int (x &&& y) :: r) σ) else none
  | .ior => if len = 1 then m2 st (fun x y r => mNx (pc + 1) L (.int (x ||| y) :: r) σ) else none
  | .ishl => if len = 1 then m2 st (fun x y r => mNx (pc + 1) L (.int (x <<< (y &&& 31)) :: r) σ) else none
  | .ishr => if len = 1 then m2 st (fun x y r => mNx (pc + 1) L (.int (x >>> (y &&& 31)) :: r) σ) else none
  | .iushr => if len = 1 then m2 st (fun x y r => mNx (pc + 1) L (.int (x.toUInt32 >>> (y.toUInt32 &&& Int32.toUInt32 31)).toInt32 :: r) σ) else none
  | .idiv => if len = 1 then m2 st (fun x y r => if ¬ y = 0 then mNx (pc + 1) L (.int (x / y) :: r) σ else none) else none
  | .irem => if len = 1 then m2 st (fun x y r => if ¬ y = 0 then mNx (pc + 1) L (.int (x - x / y * y) :: r) σ else none) else none
  | .dup => if len = 1 then (match st with | v :: r => mNx (pc + 1) L (v :: v :: r) σ | _ => none) else none
  | .dup2 => if len = 1 then (match st with | v :: w :: r => mNx (pc + 1) L (v :: w :: v :: w :: r) σ | _ => none) else none
  | .ifCond c off => if len = 3 then (match mJ pc off with | some t => m1 st (fun x r => mNx (mBr c x 0 t (pc + 3)) L r σ) | none => none) else none
  | .if_icmp c off => if len = 3 then (match mJ pc off with | some t => m2 st (fun x y r => mNx (mBr c x y t (pc + 3)) L r σ) | none => none) else none
  | .goto off => if len = 3 then (match mJ pc off with | some t => mNx t L st σ | none => none) else none
  | .tableswitch d a b offs => m1 st (fun x r => if x.toInt < a ∨ b < x.toInt then (match mJ pc d with | some t => mNx t L r σ | none => none) else
      (match offs[(x.toInt - a).toNat]? with
       | some off => (match mJ pc off with | some t => mNx t L r σ | none => none)
       | none => none))
  | .getfield k => if len = 3 then mr1 st (fun a r => match mF.lookup (ow, k) with
      | some (ci, j, _) => (match lay[a]? with
        | some (.inl (cj, fs)) => if cj = ci then (match fs[j]? with
          | some (some q) => mNx (pc + 3) L (.ref q :: r) σ
          | some none => mNx (pc + 3) L (.int (σ a j) :: r) σ
          | none => none) else none
        | _ => none)
      | none => none) else none
  | .putfield k => if len = 3 then mir st (fun x a r => match mF.lookup (ow, k) with
      | some (ci, j, kd) => (match lay[a]? with
        | some (.inl (cj, fs)) => if cj = ci then (match fs[j]? with
          | some none => if kd = 1 ∨ (kd = 2 ∧ (x = 0 ∨ x = 1)) then mNx (pc + 3) L r (mUp σ a j x) else none
          | _ => none) else none
        | _ => none)
      | none => none) else none
  | .iaload => if len = 1 then mir st (fun x a r => match lay[a]? with
      | some (.inr (.inl n)) => if ¬ x < 0 ∧ x.toNatClampNeg < n then mNx (pc + 1) L (.int (σ a x.toNatClampNeg) :: r) σ else none
      | _ => none) else none
  | .iastore => if len = 1 then miir st (fun v x a r => match lay[a]? with
      | some (.inr (.inl n)) => if ¬ x < 0 ∧ x.toNatClampNeg < n then mNx (pc + 1) L r (mUp σ a x.toNatClampNeg v) else none
      | _ => none) else none
  | .aaload => if len = 1 then mir st (fun x a r => match lay[a]? with
      | some (.inr (.inr (b, n))) => if ¬ x < 0 ∧ x.toNatClampNeg < n then mNx (pc + 1) L (.ref (b + x.toNatClampNeg) :: r) σ else none
      | _ => none) else none
  | .arraylength => if len = 1 then mr1 st (fun a r => match lay[a]? with
      | some (.inr (.inl n)) => mNx (pc + 1) L (.int (Int32.ofNat n) :: r) σ
      | _ => none) else none
  | .ireturn => if len = 1 then (match st with
      | [.int x] => if rt = some .int ∨ (rt = some .boolean ∧ (x = 0 ∨ x = 1)) then some (.inr (.inl (some x))) else none
      | _ => none) else none
  | .return_ => if len = 1 ∧ st = [] ∧ rt = none then some (.inr (.inl none)) else none
  | .invokevirtual k => if len = 3 then mcall lay ow fr lo false k st else none
  | .invokestatic k => if len = 3 then
      (if mX.contains (ow, k) = true then m2 st (fun x y r => if 1 ≤ fr ∧ r.length + 13 ≤ lo then mNx (pc + 3) L (.int (if x < y then y else x) :: r) σ else none) else mcall lay ow fr lo true k st) else none
  | _ => none
def mEnt (as : List Value) (ml : Nat) : mLoc := as.map some ++ List.replicate (ml - as.length) none
def mlOf (z : Nat) : Nat := match mTab[z]? with
  | some (_, _, ml, _) => ml
  | none => 0
def mPush (r : Option Int32) (st : List Value) : List Value := match r with
  | none => st
  | some v => .int v :: st
def mrun (lay : mLay) : Nat → Nat → Nat → mLoc → List Value → mS → Option (Option Int32 × mS)
  | 0, _, _, _, _, _ => none
  | n + 1, y, pc, L, st, σ =>
    match mTab[y]? with
    | none => none
    | some (_, bs, _, rt, ow, _, _, fr, lo) =>
      match decode bs pc with
      | .error _ => none
      | .ok (i, len) =>
        match mstep lay ow rt fr lo i len pc L st σ with
        | none => none
        | some (.inl (pc1, L1, st1, σ1)) => mrun lay n y pc1 L1 st1 σ1
        | some (.inr (.inl r)) => some (r, σ)
        | some (.inr (.inr (z, as, rest))) =>
          match mrun lay n z 0 (mEnt as (mlOf z)) [] σ with
          | none => none
          | some (r, σ1) => mrun lay n y (pc + 3) L (mPush r rest) σ1
theorem mrun_mono (lay : mLay) : ∀ (n y pc : Nat) (L : mLoc) (st : List Value) (σ : mS) (q : Option Int32 × mS), mrun lay n y pc L st σ = some q → mrun lay (n + 1) y pc L st σ = some q := by
  intro n
  induction n with
  | zero => intro y pc L st σ q h; simp [mrun] at h
  | succ n ih =>
    intro y pc L st σ q h
    unfold mrun at h ⊢
    cases ht : mTab[y]? with
    | none => rw [ht] at h; cases h
    | some e =>
      obtain ⟨nm, bs, ml, rt, ow, stc, np, fr, lo⟩ := e
      rw [ht] at h
      dsimp only at h ⊢
      cases hd : decode bs pc with
      | error z => rw [hd] at h; cases h
      | ok il =>
        obtain ⟨i, len⟩ := il
        rw [hd] at h
        dsimp only at h ⊢
        cases hs : mstep lay ow rt fr lo i len pc L st σ with
        | none => rw [hs] at h; cases h
        | some a =>
          rw [hs] at h
          match a, h with
          | .inl (pc1, L1, st1, σ1), h => exact ih _ _ _ _ _ _ h
          | .inr (.inl r), h => exact h
          | .inr (.inr (z, as, rest)), h =>
            dsimp only at h ⊢
            cases hc : mrun lay n z 0 (mEnt as (mlOf z)) [] σ with
            | none => rw [hc] at h; cases h
            | some u =>
              rw [hc] at h
              rw [ih _ _ _ _ _ _ hc]
              exact ih _ _ _ _ _ _ h
theorem mrun_le (lay : mLay) {n k : Nat} (hk : n ≤ k) {y pc : Nat} {L : mLoc} {st : List Value} {σ : mS} {q : Option Int32 × mS} (h : mrun lay n y pc L st σ = some q) : mrun lay k y pc L st σ = some q := by
  induction hk with
  | refl => exact h
  | step _ ih => exact mrun_mono lay _ _ _ _ _ _ _ ih
theorem mrun_det (lay : mLay) {n k y pc : Nat} {L : mLoc} {st : List Value} {σ : mS} {q u : Option Int32 × mS} (h : mrun lay n y pc L st σ = some q) (h2 : mrun lay k y pc L st σ = some u) : q = u := by
  have a := mrun_le lay (Nat.le_max_left n k) h
  have b := mrun_le lay (Nat.le_max_right n k) h2
  rw [a] at b
  exact Option.some.inj b
/-- from here the run comes to an end, with Q of its answer and its last state -/
def WP (lay : mLay) (y pc : Nat) (L : mLoc) (st : List Value) (σ : mS) (Q : Option Int32 → mS → Prop) : Prop := ∃ (n : Nat) (r : Option Int32) (t : mS), mrun lay n y pc L st σ = some (r, t) ∧ Q r t
section MWP
variable {lay : mLay} {y pc : Nat} {L : mLoc} {st : List Value} {σ : mS} {Q : Option Int32 → mS → Prop} {nm : MethodName} {bs : ByteArray} {ml : Nat} {rt : Option FieldType} {ow : Nat} {stc : Bool} {np fr lo : Nat} {i : Instr} {len : Nat}
theorem WP_mono {P : Option Int32 → mS → Prop} (h : WP lay y pc L st σ P) (k : ∀ r t, P r t → Q r t) : WP lay y pc L st σ Q := by
  obtain ⟨n, r, t, h1, h2⟩ := h
  exact ⟨n, r, t, h1, k r t h2⟩
theorem WP_det {r : Option Int32} {t : mS} (h : WP lay y pc L st σ (fun a b => a = r ∧ b = t)) : WP lay y pc L st σ Q ↔ Q r t := by
  obtain ⟨n, r1, t1, h1, rfl, rfl⟩ := h
  refine ⟨fun ⟨n2, r2, t2, h2, h3⟩ => ?_, fun h => ⟨n, _, _, h1, h⟩⟩
  cases mrun_det lay h1 h2
  exact h3
theorem WP_step {pc1 : Nat} {L1 : mLoc} {st1 : List Value} {σ1 : mS} (ht : mTab[y]? = some (nm, bs, ml, rt, ow, stc, np, fr, lo)) (hd : decode bs pc = .ok (i, len)) (hs : mstep lay ow rt fr lo i len pc L st σ = some (.inl (pc1, L1, st1, σ1))) : WP lay y pc L st σ Q ↔ WP lay y pc1 L1 st1 σ1 Q := by
  have key : ∀ n, mrun lay (n + 1) y pc L st σ = mrun lay n y pc1 L1 st1 σ1 := fun n => by
    conv => lhs; unfold mrun
    simp only [ht, hd, hs]
  refine ⟨fun ⟨n, r, t, h, hq⟩ => ?_, fun ⟨n, r, t, h, hq⟩ => ⟨n + 1, r, t, by rw [key]; exact h, hq⟩⟩
  cases n with
  | zero => simp [mrun] at h
  | succ n => rw [key] at h; exact ⟨n, r, t, h, hq⟩
theorem WP_ret {r : Option Int32} (ht : mTab[y]? = some (nm, bs, ml, rt, ow, stc, np, fr, lo)) (hd : decode bs pc = .ok (i, len)) (hs : mstep lay ow rt fr lo i len pc L st σ = some (.inr (.inl r))) : WP lay y pc L st σ Q ↔ Q r σ := by
  have key : ∀ n, mrun lay (n + 1) y pc L st σ = some (r, σ) := fun n => by
    conv => lhs; unfold mrun
    simp only [ht, hd, hs]
  refine ⟨fun ⟨n, r, t, h, hq⟩ => ?_, fun h => ⟨1, r, σ, key 0, h⟩⟩
  cases n with
  | zero => simp [mrun] at h
  | succ n => rw [key] at h; cases h; exact hq
theorem WP_none (ht : mTab[y]? = some (nm, bs, ml, rt, ow, stc, np, fr, lo)) (hd : decode bs pc = .ok (i, len)) (hs : mstep lay ow rt fr lo i len pc L st σ = none) : ¬ WP lay y pc L st σ Q := by
  have key : ∀ n, mrun lay (n + 1) y pc L st σ = none := fun n => by
    conv => lhs; unfold mrun
    simp only [ht, hd, hs]
  rintro ⟨n, r, t, h, hq⟩
  cases n with
  | zero => simp [mrun] at h
  | succ n => rw [key] at h; cases h
theorem WP_call {z : Nat} {as rest : List Value} (ht : mTab[y]? = some (nm, bs, ml, rt, ow, stc, np, fr, lo)) (hd : decode bs pc = .ok (i, len)) (hs : mstep lay ow rt fr lo i len pc L st σ = some (.inr (.inr (z, as, rest)))) : WP lay y pc L st σ Q ↔ WP lay z 0 (mEnt as (mlOf z)) [] σ (fun r t => WP lay y (pc + 3) L (mPush r rest) t Q) := by
  have key : ∀ n, mrun lay (n + 1) y pc L st σ = (match mrun lay n z 0 (mEnt as (mlOf z)) [] σ with
      | none => none
      | some (r, σ1) => mrun lay n y (pc + 3) L (mPush r rest) σ1) := fun n => by
    conv => lhs; unfold mrun
    simp only [ht, hd, hs]
  refine ⟨fun ⟨n, r, t, h, hq⟩ => ?_, fun ⟨n, r, t, h, n2, r2, t2, h2, hq⟩ => ?_⟩
  · cases n with
    | zero => simp [mrun] at h
    | succ n =>
      rw [key] at h
      cases hc : mrun lay n z 0 (mEnt as (mlOf z)) [] σ with
      | none => rw [hc] at h; cases h
      | some u =>
        rw [hc] at h
        exact ⟨n, u.1, u.2, hc, n, r, t, h, hq⟩
  · refine ⟨max n n2 + 1, r2, t2, ?_, hq⟩
    rw [key, mrun_le lay (Nat.le_max_left n n2) h]
    exact mrun_le lay (Nat.le_max_right n n2) h2
theorem WP_if {P : Prop} {dP : Decidable P} {t f : Nat} {L1 : mLoc} {st1 : List Value} {σ1 : mS} (ht : mTab[y]? = some (nm, bs, ml, rt, ow, stc, np, fr, lo)) (hd : decode bs pc = .ok (i, len)) (hs : mstep lay ow rt fr lo i len pc L st σ = some (.inl (@ite Nat P dP t f, L1, st1, σ1))) : WP lay y pc L st σ Q ↔ @ite Prop P dP (WP lay y t L1 st1 σ1 Q) (WP lay y f L1 st1 σ1 Q) := by
  by_cases h : P
  · rw [if_pos h] at hs ⊢
    exact WP_step ht hd hs
  · rw [if_neg h] at hs ⊢
    exact WP_step ht hd hs
theorem WP_and {P : Prop} {dP : Decidable P} {pc1 : Nat} {L1 : mLoc} {st1 : List Value} {σ1 : mS} (ht : mTab[y]? = some (nm, bs, ml, rt, ow, stc, np, fr, lo)) (hd : decode bs pc = .ok (i, len)) (hs : mstep lay ow rt fr lo i len pc L st σ = @ite (Option mAct) P dP (some (.inl (pc1, L1, st1, σ1))) none) : WP lay y pc L st σ Q ↔ P ∧ WP lay y pc1 L1 st1 σ1 Q := by
  by_cases h : P
  · rw [if_pos h] at hs
    rw [WP_step ht hd hs]
    exact ⟨fun a => ⟨h, a⟩, fun a => a.2⟩
  · rw [if_neg h] at hs
    exact ⟨fun a => absurd a (WP_none ht hd hs), fun a => absurd a.1 h⟩
theorem WP_retz {x : Int32} {P : Prop} {dP : Decidable P} (ht : mTab[y]? = some (nm, bs, ml, rt, ow, stc, np, fr, lo)) (hd : decode bs pc = .ok (i, len)) (hs : mstep lay ow rt fr lo i len pc L st σ = @ite (Option mAct) P dP (some (.inr (.inl (some x)))) none) (hP : (x = 0 ∨ x = 1) ↔ P) : WP lay y pc L st σ Q ↔ (x = 0 ∨ x = 1) ∧ Q (some x) σ := by
  by_cases h : P
  · rw [if_pos h] at hs
    rw [WP_ret ht hd hs]
    exact ⟨fun a => ⟨hP.mpr h, a⟩, fun a => a.2⟩
  · rw [if_neg h] at hs
    exact ⟨fun a => absurd a (WP_none ht hd hs), fun a => absurd (hP.mp a.1) h⟩
end MWP
