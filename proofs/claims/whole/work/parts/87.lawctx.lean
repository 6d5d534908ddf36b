/-! the law's context: the house, the reference, the long beside them -/
section LX1
def LC (p : Program) (s : State) (m : MethodId) (meth : Method) (cd : Code) (b L : Nat) (xs : Nat → Int32) (D : va_G) (aH aM : Nat → Nat) (kH kM : Nat → ClassId) (la : Nat) (kl : ClassId) : Prop :=
  lw_At p s m meth cd b L xs ∧ L ≤ 2048 ∧ va_K D mCl (mT kH mLayH) s ∧ va_K D mCl (mT kM mLayM) s ∧ va_K D mCl [(kl, .long)] s ∧ mNest s ∧ xPr s ∧ xZ (fun q => s.heap.size ≤ q) s s.heap ∧ mInj aH mLayH ∧ mInj aM mLayM ∧ (∀ k, k < mLayH.length → s.heap.size ≤ aH k) ∧ (∀ k, k < mLayM.length → s.heap.size ≤ aM k) ∧ s.heap.size ≤ la ∧ (∀ k j, k < mLayH.length → j < mLayM.length → aH k ≠ aM j) ∧ (∀ k, k < mLayH.length → aH k ≠ la) ∧ (∀ k, k < mLayM.length → aM k ≠ la)
def LJ (s : State) (D : va_G) (aH aM : Nat → Nat) (kH kM : Nat → ClassId) (la : Nat) (kl : ClassId) (γ δ : mS) (f : Nat → Int64) (H : Heap) (locs : List Loc) : Prop :=
  va_P D mCl (mW aH kH mLayH γ) H ∧ va_P D mCl (mW aM kM mLayM δ) H ∧ va_P D mCl [(la, .inl (kl, 1, .inr (.inl f)))] H ∧ va_S (fun q => s.heap.size ≤ q) s.heap H locs
def PairOK (zH mlH zM mlM : Nat) (as : List Value) (γ δ : mS) : Prop := ∃ (r : Int32) (N' : Nt) (wt' wh' : Nat), WP mLayH zH 0 (mEnt (.ref 0 :: as) mlH) [] γ (fun q c' => q = some r ∧ CI c' N' wt' wh') ∧ WP mLayM zM 0 (mEnt (.ref 0 :: as) mlM) [] δ (fun q d' => q = some r ∧ MI d' N' wt' wh') ∧ Dok N' wt' wh'
variable {p : Program} {l : Launch} {e : Env} {s : State} {m : MethodId} {below : List Frame} {meth : Method} {cd : Code} {b L : Nat} {xs : Nat → Int32} {D : va_G} {aH aM : Nat → Nat} {kH kM : Nat → ClassId} {la : Nat} {kl : ClassId} {γ δ : mS} {f : Nat → Int64} {H : Heap} {locs : List Loc} {cells slots : Nat} {Q : State → Prop} {ls : Array Slot} {i : Nat}
theorem mW_kept {ad : Nat → Nat} {ca : Nat → ClassId} {lay : mLay} {σ : mS} {H H1 : Heap} (h : va_P D mCl (mW ad ca lay σ) H) (hk : ∀ k, k < lay.length → ad k < H.size → H1[ad k]? = H[ad k]?) : va_P D mCl (mW ad ca lay σ) H1 := h.kept (fun k q hq => by
  obtain ⟨a1, a2⟩ := mW_at hq
  have hlt := (h k q hq).lt
  rw [a2] at hlt ⊢
  exact hk k a1 hlt)
theorem LJ_H (C : LC p s m meth cd b L xs D aH aM kH kM la kl) (J : LJ s D aH aM kH kM la kl γ δ f H locs) {γ' : mS} {H1 : Heap} {locs1 : List Loc} (hA : mAft D aH kH mLayH (fun q => s.heap.size ≤ q) s.heap H γ' H1 locs1) : LJ s D aH aM kH kM la kl γ' δ f H1 locs1 := by
  obtain ⟨-, -, -, -, -, -, -, -, -, -, -, -, -, hap, hapl, -⟩ := C
  obtain ⟨j1, j2, j3, -⟩ := J
  obtain ⟨h1, h2, h3, h4⟩ := hA
  refine ⟨h1, mW_kept j2 (fun k hk hlt => h2 _ hlt (fun k9 h9 e9 => hap k9 k h9 hk e9.symm)), va_P_cons.mpr ⟨?_, fun k q hk => by simp at hk⟩, h4⟩
  exact (va_P_cons.mp j3).1.kept (h2 la (j3 0 _ rfl).lt (fun k9 h9 e9 => hapl k9 h9 e9.symm))
theorem LJ_M (C : LC p s m meth cd b L xs D aH aM kH kM la kl) (J : LJ s D aH aM kH kM la kl γ δ f H locs) {δ' : mS} {H1 : Heap} {locs1 : List Loc} (hA : mAft D aM kM mLayM (fun q => s.heap.size ≤ q) s.heap H δ' H1 locs1) : LJ s D aH aM kH kM la kl γ δ' f H1 locs1 := by
  obtain ⟨-, -, -, -, -, -, -, -, -, -, -, -, -, hap, -, hapm⟩ := C
  obtain ⟨j1, j2, j3, -⟩ := J
  obtain ⟨h1, h2, h3, h4⟩ := hA
  refine ⟨mW_kept j1 (fun k hk hlt => h2 _ hlt (fun k9 h9 e9 => hap k k9 hk h9 e9)), h1, va_P_cons.mpr ⟨?_, fun k q hk => by simp at hk⟩, h4⟩
  exact (va_P_cons.mp j3).1.kept (h2 la (j3 0 _ rfl).lt (fun k9 h9 e9 => hapm k9 h9 e9.symm))
def lv5 (b h0 m0 la i : Nat) : List (Nat × Value) := [(0, .ref b), (1, .ref h0), (2, .ref m0), (3, .ref la), (4, .int (nI i))]
/-- script[i + j] -/
theorem lw_arg (C : LC p s m meth cd b L xs D aH aM kH kM la kl) (hS : va_S (fun q => s.heap.size ≤ q) s.heap H locs) (hl : lv_has ls 7 (lv5 b (aH 0) (aM 0) la i)) {j pc : Nat} {jz : Int} {v : Int32} {rest : List Value} (hij : i + j < L) (hv : Int32.ofInt jz = v) (hnv : v = nI j)
    (d0 : decode code pc = .ok (.aload_n 0, 1)) (d1 : decode code (pc + 1) = .ok (.iload 4, 2)) (d2 : decode code (pc + 3) = .ok (.iconst jz, 1)) (d3 : decode code (pc + 4) = .ok (.iadd, 1)) (d4 : decode code (pc + 5) = .ok (.iaload, 1))
    (kk : W p l e room_1 s m #[Value.ref b] below meth cd H locs cells slots Q (F0 m (pc + 6) ls (.int (xs (i + j)) :: rest))) : W p l e room_1 s m #[Value.ref b] below meth cd H locs cells slots Q (F0 m pc ls rest) := by
  obtain ⟨C0, hL, -⟩ := C
  obtain ⟨hx, hb, hr, hml, hown, hts, hXX, hbl, hlocks, hgv⟩ := C0
  refine lv_aload_n hx hb d0 rfl (lv_at hl 0 rfl) ?_
  refine lv_iload hx hb d1 (lv_at hl 4 rfl) ?_
  refine lv_iconst (v := v) hx hb d2 hv ?_
  refine lv_iadd hx hb d3 ?_
  rw [hnv, nI_add]
  have hcl : (nI (i + j)).toNatClampNeg = i + j := nI_clamp (by omega)
  refine va_sld (A := fun q => s.heap.size ≤ q) hx hb hXX hbl (Nat.not_le.mpr hbl) hS (nI_in hij (by omega)) d4 ?_
  rw [hcl]
  exact kk
end LX1
section LX2
variable {N : Nt} {wt wh : Nat} {a b c : Int32}
theorem Dok_mono {N' : Nt} (h : Dok N wt wh) (h1 : nM N ≤ nM N') (h2 : nN N' = nN N) : Dok N' wt wh := by
  obtain ⟨a1, a2, a3, a4, a5, a6⟩ := h
  exact ⟨a1, a2, fun e => Nat.lt_of_lt_of_le (a3 e) h1, fun e => by rw [h2]; exact a4 e, a5, a6⟩
theorem Dok_z : Dok N 0 0 := ⟨by decide, by decide, fun h => absurd h (by decide), fun h => absurd h (by decide), fun h => absurd h (by decide), fun _ => rfl⟩
theorem Dok_nodes (h : Dok N wt wh) : Dok (sNodes N a) (if okC 2 12 a then 0 else wt) (if okC 2 12 a then 0 else wh) := by
  unfold sNodes
  cases okC 2 12 a with
  | true => exact Dok_z
  | false => exact h
theorem Dok_link (h : Dok N wt wh) : Dok (sLink N a b c) wt wh := by
  unfold sLink
  cases lkOk N a b c with
  | none => exact h
  | some q => exact Dok_mono h (Nat.le_succ _) rfl
theorem Dok_cost (h : Dok N wt wh) : Dok (sCost N a b) wt wh := by
  unfold sCost
  cases ix (nM N) a with
  | none => exact h
  | some q =>
    cases okC 1 99 b with
    | true => exact Dok_mono h (Nat.le_refl _) rfl
    | false => exact h
theorem Dok_groups (h : Dok N wt wh) : Dok (sGroups N a b) wt wh := by
  unfold sGroups
  cases ix (nM N) a with
  | none => exact h
  | some q =>
    cases okC 0 255 b with
    | true => exact Dok_mono h (Nat.le_refl _) rfl
    | false => exact h
theorem Dok_down (hN : Nok N) {w z : Nat} (h : dwn N a b = some (w, z)) : Dok N w z := by
  have h12 := hN.2.1
  have h24 := hN.2.2.1
  unfold dwn at h
  have key : ∀ (n t : Nat) (x : Option Nat), x = ix n b → n < 2 ^ 31 → x.map (fun k => (t, k)) = some (w, z) → w = t ∧ z < n := by
    intro n t x hx hn hm
    cases x with
    | none => cases hm
    | some k => cases hm; exact ⟨rfl, (ix_some hn hx.symm).2⟩
  by_cases e0 : a = 0
  · rw [if_pos e0] at h; cases h; exact Dok_z
  · rw [if_neg e0] at h
    by_cases e1 : a = 1
    · rw [if_pos e1] at h
      obtain ⟨rfl, hz⟩ := key _ _ _ rfl (by omega) h
      exact ⟨by decide, by omega, fun _ => hz, fun h => absurd h (by decide), fun h => absurd h (by decide), fun h => absurd h (by decide)⟩
    · rw [if_neg e1] at h
      by_cases e2 : a = 2
      · rw [if_pos e2] at h
        obtain ⟨rfl, hz⟩ := key _ _ _ rfl (by omega) h
        exact ⟨by decide, by omega, fun h => absurd h (by decide), fun _ => hz, fun h => absurd h (by decide), fun h => absurd h (by decide)⟩
      · rw [if_neg e2] at h
        by_cases e3 : a = 3
        · rw [if_pos e3] at h
          obtain ⟨rfl, hz⟩ := key _ _ _ rfl (by decide) h
          exact ⟨by decide, by omega, fun h => absurd h (by decide), fun h => absurd h (by decide), fun _ => hz, fun h => absurd h (by decide)⟩
        · rw [if_neg e3] at h; cases h
end LX2
