/-! one step of the mini-machine that is no call and no return -/
section MST
variable {D : va_G} {ad : Nat → Nat} {ca : Nat → ClassId} {lay : mLay} {nm : MethodName} {bs : ByteArray} {ml : Nat} {rt : Option FieldType} {ow fr lo : Nat}
variable {p : Program} {l : Launch} {e : Env} {R : Room} {s : State} {m : MethodId} {args : Array Value} {below : List Frame} {meth : Method} {c : Code} {A : Nat → Prop} {H : Heap} {locs : List Loc} {Q : State → Prop}
variable {ls : Array Slot} {L L1 : mLoc} {st st1 : List Value} {σ σ1 : mS} {pc pc1 len : Nat}
theorem msim_ald (hexec : p.tables.exec = Jvm.exec) (hb : c.code = bs) {cl : List vw_C} {tys : List (ClassId × FieldType)} {ws : va_W} (hK : va_K D cl tys s) (hP : va_P D cl ws H) (q0 t0 : Nat) {a : Nat} {cA : ClassId} {n : Nat} {f : Nat → Option Nat} {rest : List Value} (ha : ws[q0]? = some (a, .inl (cA, n, .inr (.inr (.inr (.inr f)))))) (ht : tys[t0]? = some (cA, .array .int)) {i : Int32} (hin : vp_in i n) (hdg : decode bs pc = .ok (.aaload, 1))
    (kk : W p l e R s m args below meth c H locs 0 0 Q (F0 m (pc + 1) ls (va_rf (f i.toNatClampNeg) :: rest))) : W p l e R s m args below meth c H locs 0 0 Q (F0 m pc ls (.int i :: .ref a :: rest)) := by
  have hlt : i.toNatClampNeg < n := Nat.not_le.mp fun q => hin (Or.inr q)
  exact W.aald (v := va_rf (f i.toNatClampNeg)) (ty := .array .int) hexec hb (hP q0 _ ha) ((hK.2 t0 _ ht).1 n (fun j => va_rf (f j))) rfl (fun q => by cases q) (by show ¬ (i < 0 ∨ (arrV _ _ _).slots.size ≤ _); rw [arrV_size]; exact hin) (by show (arrV _ _ _).slots[_]? = _; rw [arrV_read _ _ hlt]) rfl rfl hdg kk
theorem m_in {i : Int32} {n : Nat} (h : ¬ i < 0 ∧ i.toNatClampNeg < n) : vp_in i n := fun q => q.elim h.1 (fun z => absurd h.2 (Nat.not_lt.mpr z))
theorem msim_br (hx : p.tables.exec = Jvm.exec) (hb : c.code = bs) {cnd : Jvm.ClassFile.Cond} {off : Int} {t : Nat} (hd : decode bs pc = .ok (.if_icmp cnd off, 3)) (ht : (pc : Int) + off = (t : Int)) {x y : Int32} {r : List Value}
    (kk : W p l e R s m args below meth c H locs 0 0 Q (F0 m (mBr cnd x y t (pc + 3)) ls r)) : W p l e R s m args below meth c H locs 0 0 Q (F0 m pc ls (.int y :: .int x :: r)) := by
  cases cnd <;> simp only [mBr] at kk
  · exact lv_icmp_eq hx hb hd ht (fun h => by rw [if_pos h] at kk; exact kk) (fun h => by rw [if_neg h] at kk; exact kk)
  · exact lv_icmp_ne hx hb hd ht (fun h => by rw [if_pos h] at kk; exact kk) (fun h => by rw [if_neg (fun z => z h)] at kk; exact kk)
  · exact lv_icmp_lt hx hb hd ht (fun h => by rw [if_pos h] at kk; exact kk) (fun h => by rw [if_neg h] at kk; exact kk)
  · exact lv_icmp_ge hx hb hd ht (fun h => by rw [if_pos h] at kk; exact kk) (fun h => by rw [if_neg h] at kk; exact kk)
  · exact lv_icmp_gt hx hb hd ht (fun h => by rw [if_pos h] at kk; exact kk) (fun h => by rw [if_neg h] at kk; exact kk)
  · exact lv_icmp_le hx hb hd ht (fun h => by rw [if_pos h] at kk; exact kk) (fun h => by rw [if_neg h] at kk; exact kk)
theorem msim_br0 (hx : p.tables.exec = Jvm.exec) (hb : c.code = bs) {cnd : Jvm.ClassFile.Cond} {off : Int} {t : Nat} (hd : decode bs pc = .ok (.ifCond cnd off, 3)) (ht : (pc : Int) + off = (t : Int)) {x : Int32} {r : List Value}
    (kk : W p l e R s m args below meth c H locs 0 0 Q (F0 m (mBr cnd x 0 t (pc + 3)) ls r)) : W p l e R s m args below meth c H locs 0 0 Q (F0 m pc ls (.int x :: r)) := by
  cases cnd <;> simp only [mBr] at kk
  · exact lv_if_eq hx hb hd ht (fun h => by rw [if_pos h] at kk; exact kk) (fun h => by rw [if_neg h] at kk; exact kk)
  · exact lv_if_ne hx hb hd ht (fun h => by rw [if_pos h] at kk; exact kk) (fun h => by rw [if_neg (fun z => z h)] at kk; exact kk)
  · exact lv_if_lt hx hb hd ht (fun h => by rw [if_pos h] at kk; exact kk) (fun h => by rw [if_neg h] at kk; exact kk)
  · exact lv_if_ge hx hb hd ht (fun h => by rw [if_pos h] at kk; exact kk) (fun h => by rw [if_neg h] at kk; exact kk)
  · exact lv_if_gt hx hb hd ht (fun h => by rw [if_pos h] at kk; exact kk) (fun h => by rw [if_neg h] at kk; exact kk)
  · exact lv_if_le hx hb hd ht (fun h => by rw [if_pos h] at kk; exact kk) (fun h => by rw [if_neg h] at kk; exact kk)
set_option maxHeartbeats 4000000 in
theorem msim_next {i : Instr} (C : mCx D ad ca lay nm bs ml rt p s m args meth c A) (how : mNm[ow]? = some nm.cls) (hR1 : R.frames = fr) (hR2 : R.locals = lo) (hd : decode bs pc = .ok (i, len)) (hs : mstep lay ow rt fr lo i len pc L st σ = some (.inl (pc1, L1, st1, σ1)))
    (hP : va_P D mCl (mW ad ca lay σ) H) (hS : va_S A s.heap H locs) (hl : lv_has ls ml (mLv ad 0 L)) (hL : L.length = ml)
    (kk : ∀ (H1 : Heap) (locs1 : List Loc) (ls1 : Array Slot), va_P D mCl (mW ad ca lay σ1) H1 → va_S A s.heap H1 locs1 → lv_has ls1 ml (mLv ad 0 L1) → L1.length = ml → W p l e R s m args below meth c H1 locs1 0 0 Q (F0 m pc1 ls1 (st1.map (mv ad)))) :
    W p l e R s m args below meth c H locs 0 0 Q (F0 m pc ls (st.map (mv ad))) := by
  obtain ⟨hx, hb, hr, hml, hts, hown, hlocks, hK, hN, hI, hDA, hA⟩ := C
  have hD : va_D A (mW ad ca lay σ) := mW_D hI hDA
  cases i <;> simp only [mstep] at hs <;> try (cases hs; done)
  case iconst n =>
    have hs0 := mgd_some hs
    clear hs
    obtain ⟨rfl, hs⟩ := hs0
    have hs0 := mNx_some hs
    clear hs
    obtain ⟨rfl, rfl, rfl, rfl⟩ := hs0
    exact lv_iconst hx hb hd rfl (kk _ _ _ hP hS hl hL)
  case bipush n =>
    have hs0 := mgd_some hs
    clear hs
    obtain ⟨rfl, hs⟩ := hs0
    have hs0 := mNx_some hs
    clear hs
    obtain ⟨rfl, rfl, rfl, rfl⟩ := hs0
    exact lv_bipush hx hb hd rfl (kk _ _ _ hP hS hl hL)
  case sipush n =>
    have hs0 := mgd_some hs
    clear hs
    obtain ⟨rfl, hs⟩ := hs0
    have hs0 := mNx_some hs
    clear hs
    obtain ⟨rfl, rfl, rfl, rfl⟩ := hs0
    exact lv_sipush hx hb hd rfl (kk _ _ _ hP hS hl hL)
  case ldc k =>
    have hs0 := mgd_some hs
    clear hs
    obtain ⟨rfl, hs⟩ := hs0
    split at hs
    · rename_i v hv
      have hs0 := mNx_some hs
      clear hs
      obtain ⟨rfl, rfl, rfl, rfl⟩ := hs0
      obtain ⟨R0, h1, h2⟩ := mC_ok _ (mlook hv)
      cases Option.some.inj (h1.symm.trans how)
      exact lv_ldc hx hb hown (hts _ h2) hd (kk _ _ _ hP hS hl hL)
    · cases hs
  case ldc_w k =>
    have hs0 := mgd_some hs
    clear hs
    obtain ⟨rfl, hs⟩ := hs0
    split at hs
    · rename_i v hv
      have hs0 := mNx_some hs
      clear hs
      obtain ⟨rfl, rfl, rfl, rfl⟩ := hs0
      obtain ⟨R0, h1, h2⟩ := mC_ok _ (mlook hv)
      cases Option.some.inj (h1.symm.trans how)
      exact lv_ldcw hx hb hown (hts _ h2) hd (kk _ _ _ hP hS hl hL)
    · cases hs
  case iload k =>
    have hs0 := mgd_some hs
    clear hs
    obtain ⟨rfl, hs⟩ := hs0
    split at hs
    · rename_i v hv
      have hs0 := mNx_some hs
      clear hs
      obtain ⟨rfl, rfl, rfl, rfl⟩ := hs0
      exact lv_iload hx hb hd (mLv_at hl hv) (kk _ _ _ hP hS hl hL)
    · cases hs
  case iload_n k =>
    have hs0 := mgd_some hs
    clear hs
    obtain ⟨rfl, hs⟩ := hs0
    split at hs
    · rename_i v hv
      have hs0 := mNx_some hs
      clear hs
      obtain ⟨rfl, rfl, rfl, rfl⟩ := hs0
      exact lv_iload_n hx hb hd rfl (mLv_at hl hv) (kk _ _ _ hP hS hl hL)
    · cases hs
  case aload k =>
    have hs0 := mgd_some hs
    clear hs
    obtain ⟨rfl, hs⟩ := hs0
    split at hs
    · rename_i v hv
      have hs0 := mNx_some hs
      clear hs
      obtain ⟨rfl, rfl, rfl, rfl⟩ := hs0
      exact lv_aload hx hb hd (mLv_at hl hv) (kk _ _ _ hP hS hl hL)
    · cases hs
  case aload_n k =>
    have hs0 := mgd_some hs
    clear hs
    obtain ⟨rfl, hs⟩ := hs0
    split at hs
    · rename_i v hv
      have hs0 := mNx_some hs
      clear hs
      obtain ⟨rfl, rfl, rfl, rfl⟩ := hs0
      exact lv_aload_n hx hb hd rfl (mLv_at hl hv) (kk _ _ _ hP hS hl hL)
    · cases hs
  case istore k =>
    have hs0 := mgd_some hs
    clear hs
    obtain ⟨⟨rfl, hk⟩, hs⟩ := hs0
    have hs0 := m1_some hs
    clear hs
    obtain ⟨x, r, rfl, hs⟩ := hs0
    have hs0 := mNx_some hs
    clear hs
    obtain ⟨rfl, rfl, rfl, rfl⟩ := hs0
    exact lv_istore hx hb hd hl (by rw [← hL]; exact hk) rfl (fun ls1 h1 => kk _ _ _ hP hS (mLv_store (v := .int x) h1) (by rw [List.length_set]; exact hL))
  case istore_n k =>
    have hs0 := mgd_some hs
    clear hs
    obtain ⟨⟨rfl, hk⟩, hs⟩ := hs0
    have hs0 := m1_some hs
    clear hs
    obtain ⟨x, r, rfl, hs⟩ := hs0
    have hs0 := mNx_some hs
    clear hs
    obtain ⟨rfl, rfl, rfl, rfl⟩ := hs0
    exact lv_istore_n hx hb hd rfl hl (by rw [← hL]; exact hk) rfl (fun ls1 h1 => kk _ _ _ hP hS (mLv_store (v := .int x) h1) (by rw [List.length_set]; exact hL))
  case astore k =>
    have hs0 := mgd_some hs
    clear hs
    obtain ⟨⟨rfl, hk⟩, hs⟩ := hs0
    have hs0 := mr1_some hs
    clear hs
    obtain ⟨x, r, rfl, hs⟩ := hs0
    have hs0 := mNx_some hs
    clear hs
    obtain ⟨rfl, rfl, rfl, rfl⟩ := hs0
    exact lv_astore hx hb hd hl (by rw [← hL]; exact hk) rfl (fun ls1 h1 => kk _ _ _ hP hS (mLv_store (v := .ref x) h1) (by rw [List.length_set]; exact hL))
  case astore_n k =>
    have hs0 := mgd_some hs
    clear hs
    obtain ⟨⟨rfl, hk⟩, hs⟩ := hs0
    have hs0 := mr1_some hs
    clear hs
    obtain ⟨x, r, rfl, hs⟩ := hs0
    have hs0 := mNx_some hs
    clear hs
    obtain ⟨rfl, rfl, rfl, rfl⟩ := hs0
    exact lv_astore_n hx hb hd rfl hl (by rw [← hL]; exact hk) rfl (fun ls1 h1 => kk _ _ _ hP hS (mLv_store (v := .ref x) h1) (by rw [List.length_set]; exact hL))
  case iinc k n =>
    have hs0 := mgd_some hs
    clear hs
    obtain ⟨⟨rfl, hk⟩, hs⟩ := hs0
    split at hs
    · rename_i x hv
      have hs0 := mNx_some hs
      clear hs
      obtain ⟨rfl, rfl, rfl, rfl⟩ := hs0
      have h2 : L[k]? = some (some (.int x)) := by
        unfold mld at hv
        split at hv
        · rename_i w hw; cases hv; exact hw
        · cases hv
      obtain ⟨k0, hk0⟩ := List.getElem?_of_mem (mLv_mem.mpr ⟨k, _, h2, rfl⟩ : (0 + k, mv ad (.int x)) ∈ mLv ad 0 L)
      rw [Nat.zero_add] at hk0
      exact lv_iinc hx hb hd hl hk0 rfl (by rw [← hL]; exact hk) rfl (fun ls1 h1 => kk _ _ _ hP hS (mLv_store (v := .int (x + Int32.ofInt n)) h1) (by rw [List.length_set]; exact hL))
    · cases hs
  case iadd =>
    have hs0 := mgd_some hs
    clear hs
    obtain ⟨rfl, hs⟩ := hs0
    have hs0 := m2_some hs
    clear hs
    obtain ⟨x, y, r, rfl, hs⟩ := hs0
    have hs0 := mNx_some hs
    clear hs
    obtain ⟨rfl, rfl, rfl, rfl⟩ := hs0
    exact lv_iadd hx hb hd (kk _ _ _ hP hS hl hL)
  case isub =>
    have hs0 := mgd_some hs
    clear hs
    obtain ⟨rfl, hs⟩ := hs0
    have hs0 := m2_some hs
    clear hs
    obtain ⟨x, y, r, rfl, hs⟩ := hs0
    have hs0 := mNx_some hs
    clear hs
    obtain ⟨rfl, rfl, rfl, rfl⟩ := hs0
    exact lv_isub hx hb hd (kk _ _ _ hP hS hl hL)
  case imul =>
    have hs0 := mgd_some hs
    clear hs
    obtain ⟨rfl, hs⟩ := hs0
    have hs0 := m2_some hs
    clear hs
    obtain ⟨x, y, r, rfl, hs⟩ := hs0
    have hs0 := mNx_some hs
    clear hs
    obtain ⟨rfl, rfl, rfl, rfl⟩ := hs0
    exact lv_imul hx hb hd (kk _ _ _ hP hS hl hL)
  case iand =>
    have hs0 := mgd_some hs
    clear hs
    obtain ⟨rfl, hs⟩ := hs0
    have hs0 := m2_some hs
    clear hs
    obtain ⟨x, y, r, rfl, hs⟩ := hs0
    have hs0 := mNx_some hs
    clear hs
    obtain ⟨rfl, rfl, rfl, rfl⟩ := hs0
    exact lv_iand hx hb hd (kk _ _ _ hP hS hl hL)
  case ior =>
    have hs0 := mgd_some hs
    clear hs
    obtain ⟨rfl, hs⟩ := hs0
    have hs0 := m2_some hs
    clear hs
    obtain ⟨x, y, r, rfl, hs⟩ := hs0
    have hs0 := mNx_some hs
    clear hs
    obtain ⟨rfl, rfl, rfl, rfl⟩ := hs0
    exact lv_ior hx hb hd (kk _ _ _ hP hS hl hL)
  case ishl =>
    have hs0 := mgd_some hs
    clear hs
    obtain ⟨rfl, hs⟩ := hs0
    have hs0 := m2_some hs
    clear hs
    obtain ⟨x, y, r, rfl, hs⟩ := hs0
    have hs0 := mNx_some hs
    clear hs
    obtain ⟨rfl, rfl, rfl, rfl⟩ := hs0
    exact lv_ishl hx hb hd (kk _ _ _ hP hS hl hL)
  case ishr =>
    have hs0 := mgd_some hs
    clear hs
    obtain ⟨rfl, hs⟩ := hs0
    have hs0 := m2_some hs
    clear hs
    obtain ⟨x, y, r, rfl, hs⟩ := hs0
    have hs0 := mNx_some hs
    clear hs
    obtain ⟨rfl, rfl, rfl, rfl⟩ := hs0
    exact lv_ishr hx hb hd (kk _ _ _ hP hS hl hL)
  case iushr =>
    have hs0 := mgd_some hs
    clear hs
    obtain ⟨rfl, hs⟩ := hs0
    have hs0 := m2_some hs
    clear hs
    obtain ⟨x, y, r, rfl, hs⟩ := hs0
    have hs0 := mNx_some hs
    clear hs
    obtain ⟨rfl, rfl, rfl, rfl⟩ := hs0
    exact lv_iushr hx hb hd rfl (kk _ _ _ hP hS hl hL)
  case idiv =>
    have hs0 := mgd_some hs
    clear hs
    obtain ⟨rfl, hs⟩ := hs0
    have hs0 := m2_some hs
    clear hs
    obtain ⟨x, y, r, rfl, hs⟩ := hs0
    have hs0 := mgd_some hs
    clear hs
    obtain ⟨hy, hs⟩ := hs0
    have hs0 := mNx_some hs
    clear hs
    obtain ⟨rfl, rfl, rfl, rfl⟩ := hs0
    exact lv_idiv hx hb hd hy (kk _ _ _ hP hS hl hL)
  case irem =>
    have hs0 := mgd_some hs
    clear hs
    obtain ⟨rfl, hs⟩ := hs0
    have hs0 := m2_some hs
    clear hs
    obtain ⟨x, y, r, rfl, hs⟩ := hs0
    have hs0 := mgd_some hs
    clear hs
    obtain ⟨hy, hs⟩ := hs0
    have hs0 := mNx_some hs
    clear hs
    obtain ⟨rfl, rfl, rfl, rfl⟩ := hs0
    exact lv_irem hx hb hd hy (kk _ _ _ hP hS hl hL)
  case dup =>
    have hs0 := mgd_some hs
    clear hs
    obtain ⟨rfl, hs⟩ := hs0
    split at hs
    · have hs0 := mNx_some hs
      clear hs
      obtain ⟨rfl, rfl, rfl, rfl⟩ := hs0
      exact lv_dup hx hb hd (mv_cat _ _) (kk _ _ _ hP hS hl hL)
    · cases hs
  case dup2 =>
    have hs0 := mgd_some hs
    clear hs
    obtain ⟨rfl, hs⟩ := hs0
    split at hs
    · have hs0 := mNx_some hs
      clear hs
      obtain ⟨rfl, rfl, rfl, rfl⟩ := hs0
      exact lv_dup2_11 hx hb hd (mv_cat _ _) (mv_cat _ _) (kk _ _ _ hP hS hl hL)
    · cases hs
  case ifCond cnd off =>
    have hs0 := mgd_some hs
    clear hs
    obtain ⟨rfl, hs⟩ := hs0
    split at hs
    · rename_i t ht
      have hs0 := m1_some hs
      clear hs
      obtain ⟨x, r, rfl, hs⟩ := hs0
      have hs0 := mNx_some hs
      clear hs
      obtain ⟨rfl, rfl, rfl, rfl⟩ := hs0
      exact msim_br0 hx hb hd (mJ_ok ht) (kk _ _ _ hP hS hl hL)
    · cases hs
  case if_icmp cnd off =>
    have hs0 := mgd_some hs
    clear hs
    obtain ⟨rfl, hs⟩ := hs0
    split at hs
    · rename_i t ht
      have hs0 := m2_some hs
      clear hs
      obtain ⟨x, y, r, rfl, hs⟩ := hs0
      have hs0 := mNx_some hs
      clear hs
      obtain ⟨rfl, rfl, rfl, rfl⟩ := hs0
      exact msim_br hx hb hd (mJ_ok ht) (kk _ _ _ hP hS hl hL)
    · cases hs
  case goto off =>
    have hs0 := mgd_some hs
    clear hs
    obtain ⟨rfl, hs⟩ := hs0
    split at hs
    · rename_i t ht
      have hs0 := mNx_some hs
      clear hs
      obtain ⟨rfl, rfl, rfl, rfl⟩ := hs0
      exact lv_goto hx hb hd (mJ_ok ht) (kk _ _ _ hP hS hl hL)
    · cases hs
  case tableswitch d a b offs =>
    have hs0 := m1_some hs
    clear hs
    obtain ⟨x, r, rfl, hs⟩ := hs0
    by_cases hout : x.toInt < a ∨ b < x.toInt
    · rw [if_pos hout] at hs
      split at hs
      · rename_i t ht
        have hs0 := mNx_some hs
        clear hs
        obtain ⟨rfl, rfl, rfl, rfl⟩ := hs0
        exact lv_tableOut hx hb hd hout (mJ_ok ht) (kk _ _ _ hP hS hl hL)
      · cases hs
    · rw [if_neg hout] at hs
      split at hs
      · rename_i off ho
        split at hs
        · rename_i t ht
          have hs0 := mNx_some hs
          clear hs
          obtain ⟨rfl, rfl, rfl, rfl⟩ := hs0
          exact lv_tableIn hx hb hd (fun q => hout (Or.inl q)) (fun q => hout (Or.inr q)) ho (mJ_ok ht) (kk _ _ _ hP hS hl hL)
        · cases hs
      · cases hs
  case getfield k =>
    have hs0 := mgd_some hs
    clear hs
    obtain ⟨rfl, hs⟩ := hs0
    have hs0 := mr1_some hs
    clear hs
    obtain ⟨a, r, rfl, hs⟩ := hs0
    split at hs
    · rename_i ci j kd hf
      split at hs
      · rename_i cj fs hy
        have hs0 := mgd_some hs
        clear hs
        obtain ⟨rfl, hs⟩ := hs0
        obtain ⟨R0, C0, T0, N0, g1, g2, g3, g4, -, -⟩ := mF_ok _ (mlook hf)
        cases Option.some.inj (g1.symm.trans how)
        have hcl := (mCl_ok _ (List.mem_of_getElem? g2)).1
        have he := mW_get (ad := ad) (ca := ca) (σ := σ) hy
        have hv : (fs.mapIdx (fun j g => match g with | some q => Value.ref (ad q) | none => Value.int (σ a j)))[j]? = (fs[j]?).map (fun g => match g with | some q => Value.ref (ad q) | none => Value.int (σ a j)) := by rw [List.getElem?_mapIdx]
        split at hs
        · rename_i q hq
          have hs0 := mNx_some hs
          clear hs
          obtain ⟨rfl, rfl, rfl, rfl⟩ := hs0
          rw [hq] at hv
          exact va_get hx hb hts hcl hown hK hP a he g2 j g3 (hts _ g4) (fun _ h9 => h9) hv hd (kk _ _ _ hP hS hl hL)
        · rename_i hq
          have hs0 := mNx_some hs
          clear hs
          obtain ⟨rfl, rfl, rfl, rfl⟩ := hs0
          rw [hq] at hv
          exact va_get hx hb hts hcl hown hK hP a he g2 j g3 (hts _ g4) (fun _ h9 => h9) hv hd (kk _ _ _ hP hS hl hL)
        · cases hs
      · cases hs
    · cases hs
  case putfield k =>
    have hs0 := mgd_some hs
    clear hs
    obtain ⟨rfl, hs⟩ := hs0
    have hs0 := mir_some hs
    clear hs
    obtain ⟨x, a, r, rfl, hs⟩ := hs0
    split at hs
    · rename_i ci j kd hf
      split at hs
      · rename_i cj fs hy
        have hs0 := mgd_some hs
        clear hs
        obtain ⟨rfl, hs⟩ := hs0
        obtain ⟨R0, C0, T0, N0, g1, g2, g3, g4, g5, g6⟩ := mF_ok _ (mlook hf)
        cases Option.some.inj (g1.symm.trans how)
        obtain ⟨hcl, ty0, hty0, hnm0⟩ := mCl_ok _ (List.mem_of_getElem? g2)
        have he := mW_get (ad := ad) (ca := ca) (σ := σ) hy
        split at hs
        · rename_i hq
          have hs0 := mgd_some hs
          clear hs
          obtain ⟨hkd, hs⟩ := hs0
          have hs0 := mNx_some hs
          clear hs
          obtain ⟨rfl, rfl, rfl, rfl⟩ := hs0
          have hset : (mW ad ca lay σ).set a (ad a, .inr (cj, (fs.mapIdx (fun j g => match g with | some q => Value.ref (ad q) | none => Value.int (σ a j))).set j (.int x))) = mW ad ca lay (mUp σ a j x) := by
            rw [← mW_set (ad := ad) (ca := ca) (σ := σ) (τ := mUp σ a j x) hy (fun b hb => by funext z; simp [mUp, hb])]
            congr 2
            show _ = Sum.inr (cj, fs.mapIdx (fun j' g => match g with | some q => Value.ref (ad q) | none => Value.int (mUp σ a j x a j')))
            congr 2
            apply List.ext_getElem?
            intro z
            rw [List.getElem?_set]
            by_cases ez : j = z
            · subst ez
              have hlt : j < fs.length := (List.getElem?_eq_some_iff.mp hq).1
              rw [if_pos rfl, if_pos (by rw [List.length_mapIdx]; exact hlt), List.getElem?_mapIdx, hq]
              simp [mUp]
            · rw [if_neg ez, List.getElem?_mapIdx, List.getElem?_mapIdx]
              have : ¬ z = j := fun q => ez q.symm
              simp [mUp, this]
          have hlen : j < (fs.mapIdx (fun j g => match g with | some q => Value.ref (ad q) | none => Value.int (σ a j))).length := by
            rw [List.length_mapIdx]; exact (List.getElem?_eq_some_iff.mp hq).1
          rcases hkd with rfl | ⟨rfl, hx01⟩
          · obtain ⟨k1, k2⟩ := g5 rfl
            exact va_put (v := .int x) (ty := .int) hx hb hts hcl ty0 hty0 hnm0 hown hK hP hD hS a he g2 j g3 (hts _ g4) (fun _ h9 => h9) k1 k2 rfl rfl hlen hd (fun H1 locs1 hP1 _ hS1 => kk _ _ _ (by rw [← hset]; exact hP1) hS1 hl hL)
          · obtain ⟨k1, k2⟩ := g6 rfl
            exact va_put (v := .int x) (ty := .boolean) hx hb hts hcl ty0 hty0 hnm0 hown hK hP hD hS a he g2 j g3 (hts _ g4) (fun _ h9 => h9) k1 k2 (by rcases hx01 with rfl | rfl <;> decide +kernel) (by rcases hx01 with rfl | rfl <;> decide +kernel) hlen hd (fun H1 locs1 hP1 _ hS1 => kk _ _ _ (by rw [← hset]; exact hP1) hS1 hl hL)
        · cases hs
      · cases hs
    · cases hs
  case iaload =>
    have hs0 := mgd_some hs
    clear hs
    obtain ⟨rfl, hs⟩ := hs0
    have hs0 := mir_some hs
    clear hs
    obtain ⟨x, a, r, rfl, hs⟩ := hs0
    split at hs
    · rename_i n hy
      have hs0 := mgd_some hs
      clear hs
      obtain ⟨hin, hs⟩ := hs0
      have hs0 := mNx_some hs
      clear hs
      obtain ⟨rfl, rfl, rfl, rfl⟩ := hs0
      obtain ⟨t0, ht0⟩ := mT_get (ca := ca) hy rfl
      exact va_iald hx hb hK hP a t0 (mW_get hy) ht0 (m_in hin) hd (kk _ _ _ hP hS hl hL)
    · cases hs
  case iastore =>
    have hs0 := mgd_some hs
    clear hs
    obtain ⟨rfl, hs⟩ := hs0
    have hs0 := miir_some hs
    clear hs
    obtain ⟨v, x, a, r, rfl, hs⟩ := hs0
    split at hs
    · rename_i n hy
      have hs0 := mgd_some hs
      clear hs
      obtain ⟨hin, hs⟩ := hs0
      have hs0 := mNx_some hs
      clear hs
      obtain ⟨rfl, rfl, rfl, rfl⟩ := hs0
      obtain ⟨t0, ht0⟩ := mT_get (ca := ca) hy rfl
      have hset : (mW ad ca lay σ).set a (ad a, .inl (ca a, n, .inl (upd (σ a) x.toNatClampNeg v))) = mW ad ca lay (mUp σ a x.toNatClampNeg v) := by
        rw [← mW_set (ad := ad) (ca := ca) (σ := σ) (τ := mUp σ a x.toNatClampNeg v) hy (fun b hb => by funext z; simp [mUp, hb])]
        congr 2
        show _ = Sum.inl (ca a, n, Sum.inl (mUp σ a x.toNatClampNeg v a))
        refine congrArg (fun f => (Sum.inl (ca a, n, Sum.inl f) : va_E)) ?_
        funext z
        simp [mUp, upd]
      exact va_iast hx hb hK hP hD hS a t0 (mW_get hy) ht0 (m_in hin) hd (fun H1 locs1 hP1 _ hS1 => kk _ _ _ (by rw [← hset]; exact hP1) hS1 hl hL)
    · cases hs
  case aaload =>
    have hs0 := mgd_some hs
    clear hs
    obtain ⟨rfl, hs⟩ := hs0
    have hs0 := mir_some hs
    clear hs
    obtain ⟨x, a, r, rfl, hs⟩ := hs0
    split at hs
    · rename_i b n hy
      have hs0 := mgd_some hs
      clear hs
      obtain ⟨hin, hs⟩ := hs0
      have hs0 := mNx_some hs
      clear hs
      obtain ⟨rfl, rfl, rfl, rfl⟩ := hs0
      obtain ⟨t0, ht0⟩ := mT_get (ca := ca) hy rfl
      exact msim_ald hx hb hK hP a t0 (mW_get hy) ht0 (m_in hin) hd (kk _ _ _ hP hS hl hL)
    · cases hs
  case arraylength =>
    have hs0 := mgd_some hs
    clear hs
    obtain ⟨rfl, hs⟩ := hs0
    have hs0 := mr1_some hs
    clear hs
    obtain ⟨a, r, rfl, hs⟩ := hs0
    split at hs
    · rename_i n hy
      have hs0 := mNx_some hs
      clear hs
      obtain ⟨rfl, rfl, rfl, rfl⟩ := hs0
      obtain ⟨t0, ht0⟩ := mT_get (ca := ca) hy rfl
      exact va_alen hx hb hK hP a t0 (mW_get hy) ht0 rfl hd (kk _ _ _ hP hS hl hL)
    · cases hs
  case ireturn =>
    have hs0 := mgd_some hs
    clear hs
    obtain ⟨rfl, hs⟩ := hs0
    split at hs
    · have hs0 := mgd_some hs
      clear hs
      obtain ⟨-, hs⟩ := hs0
      cases hs
    · cases hs
  case return_ =>
    have hs0 := mgd_some hs
    clear hs
    obtain ⟨-, hs⟩ := hs0
    cases hs
  case invokevirtual k =>
    have hs0 := mgd_some hs
    clear hs
    obtain ⟨rfl, hs⟩ := hs0
    unfold mcall at hs
    split at hs
    · cases hs
    · split at hs
      · cases hs
      · have hs0 := mgd_some hs
        clear hs
        obtain ⟨-, hs⟩ := hs0
        dsimp only at hs
        split at hs
        · split at hs
          · have hs0 := mgd_some hs
            clear hs
            obtain ⟨-, hs⟩ := hs0
            cases hs
          · cases hs
        · cases hs
  case invokestatic k =>
    have hs0 := mgd_some hs
    clear hs
    obtain ⟨rfl, hs⟩ := hs0
    by_cases hmx : mX.contains (ow, k) = true
    · rw [if_pos hmx] at hs
      have hs0 := m2_some hs
      clear hs
      obtain ⟨x, y, r, rfl, hs⟩ := hs0
      have hs0 := mgd_some hs
      clear hs
      obtain ⟨⟨hf1, hl1⟩, hs⟩ := hs0
      have hs0 := mNx_some hs
      clear hs
      obtain ⟨rfl, rfl, rfl, rfl⟩ := hs0
      obtain ⟨R0, h1, h2⟩ := mX_ok _ (List.contains_iff_mem.mp hmx)
      cases Option.some.inj (h1.symm.trans how)
      exact va_mmax hx hb (by rw [hml]; exact hl.1.symm) hown (hts _ h2) (hts _ mmax_stat) (hts _ mmax_ini) (hts _ mmax_code) (by rw [hR1]; exact hf1) (by rw [mv_sum, hR2]; exact hl1) (Nat.zero_le _) (Nat.zero_le _) hd (kk _ _ _ hP hS hl hL)
    · rw [if_neg hmx] at hs
      unfold mcall at hs
      split at hs
      · cases hs
      · split at hs
        · cases hs
        · have hs0 := mgd_some hs
          clear hs
          obtain ⟨-, hs⟩ := hs0
          cases hs
end MST
