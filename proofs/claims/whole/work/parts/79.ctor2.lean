section CT2
/-! Network's constructor (printed by wip/whole/gen_ctor2.py) -/
def netOk (τ : mS) : Prop := (∀ x y, x < 12 → y < 12 → τ (32 + x) y = -1) ∧ τ 0 0 = nI 2 ∧ τ 0 1 = 0 ∧ τ 0 9 = 1
def adN (h0 q0 q1 q2 q3 g0 g1 g2 : Nat) (r0 r1 r2 : Nat → Nat) (k : Nat) : Nat := if k < 8 then [h0, q0, q1, q2, q3, g0, g1, g2].getD k 0 else if k < 20 then r0 (k - 8) else if k < 32 then r1 (k - 20) else r2 (k - 32)
def caN (k0 k1 k2 k3 k4 k5 k6 : ClassId) (k : Nat) : ClassId := if k < 8 then [k0, k0, k1, k2, k3, k4, k5, k6].getD k k0 else k0
def e12 (k0 : ClassId) : va_E := .inl (k0, 12, .inl (fun _ => 0))
def Rw (r : Nat → Nat) : List Nat := (List.range 12).map r
theorem arrV_cg {cA : ClassId} {n : Nat} {f g : Nat → Value} (h : ∀ j, j < n → f j = g j) : arrV cA n f = arrV cA n g := by
  unfold arrV
  congr 1
  apply Array.ext
  · simp
  · intro i h1 h2
    simp at h1 ⊢
    exact h i h1
theorem va_pl_e {L : List Nat} {f : Nat → va_E} {x : va_E} (h : ∀ a ∈ L, f a = x) : va_pl L f = va_pl L (fun _ => x) := by
  unfold va_pl
  apply List.map_congr_left
  intro a ha
  rw [h a ha]
theorem vr_e {f : Nat → va_E} {l L : List Nat} {x : va_E} (h : ∀ a ∈ L, f a = x) : ∀ a ∈ L ++ l, vr_up f l x a = x := by
  intro a ha
  by_cases hl : a ∈ l
  · exact vr_up_in hl
  · rw [vr_up_ne hl]
    rcases List.mem_append.mp ha with h1 | h1
    · exact h a h1
    · exact absurd h1 hl
theorem grid_at {D : va_G} {cl : List vw_C} {q : Nat} {cA : ClassId} {r ad : Nat → Nat} {b : Nat} {H : Heap} (h : va_at D cl (q, .inl (cA, 12, .inr (.inr (.inr (.inr (fun i => if i < 12 then some (r i) else none)))))) H) (e : ∀ i, i < 12 → r i = ad (b + i)) : va_at D cl (q, .inl (cA, 12, .inr (.inr (.inr (.inr (fun i => some (ad (b + i)))))))) H := by
  have h1 : H[q]? = some (arrV cA 12 (fun j => va_rf (if j < 12 then some (r j) else none))) := h
  show H[q]? = some (arrV cA 12 (fun j => va_rf (some (ad (b + j)))))
  rw [h1]
  congr 1
  apply arrV_cg
  intro j hj
  rw [if_pos hj, e j hj]
section NW
variable {h0 q0 q1 q2 q3 g0 g1 g2 : Nat} {r0 r1 r2 : Nat → Nat} {k0 k1 k2 k3 k4 k5 k6 : ClassId} {D : va_G} {A : Nat → Prop} {H : Heap} {s : State} {σ : mS}
theorem Rw_ex (r : Nat → Nat) : Rw r = [r 0, r 1, r 2, r 3, r 4, r 5, r 6, r 7, r 8, r 9, r 10, r 11] := rfl
theorem adN_8 {i : Nat} (h : i < 12) : adN h0 q0 q1 q2 q3 g0 g1 g2 r0 r1 r2 (8 + i) = r0 i := by unfold adN; rw [if_neg (by omega), if_pos (by omega), Nat.add_sub_cancel_left]
theorem adN_20 {i : Nat} (h : i < 12) : adN h0 q0 q1 q2 q3 g0 g1 g2 r0 r1 r2 (20 + i) = r1 i := by unfold adN; rw [if_neg (by omega), if_neg (by omega), if_pos (by omega), Nat.add_sub_cancel_left]
theorem adN_32 {i : Nat} (h : i < 12) : adN h0 q0 q1 q2 q3 g0 g1 g2 r0 r1 r2 (32 + i) = r2 i := by unfold adN; rw [if_neg (by omega), if_neg (by omega), if_neg (by omega), Nat.add_sub_cancel_left]
theorem caN_8 {i : Nat} : caN k0 k1 k2 k3 k4 k5 k6 (8 + i) = k0 := by unfold caN; rw [if_neg (by omega)]
theorem mW_app {ad : Nat → Nat} {ca : Nat → ClassId} {a b : mLay} {σ : mS} : mW ad ca (a ++ b) σ = mW ad ca a σ ++ b.mapIdx (fun k c => (ad (k + a.length), mE ad ca (σ (k + a.length)) (k + a.length) c)) := by unfold mW; rw [List.mapIdx_append]
theorem Rw_get (r : Nat → Nat) (i : Nat) (h : i < 12) : (Rw r)[i]? = some (r i) := by
  unfold Rw
  rw [List.getElem?_map, List.getElem?_range h]
  rfl
theorem Rw_len (r : Nat → Nat) : (Rw r).length = 12 := by simp [Rw]
theorem netL (i : Nat) : ((([] ++ Rw r0) ++ Rw r1) ++ Rw r2)[i]? = if i < 36 then some ((adN h0 q0 q1 q2 q3 g0 g1 g2 r0 r1 r2) (8 + i)) else none := by
  rw [List.nil_append]
  by_cases h1 : i < 12
  · rw [if_pos (by omega), adN_8 h1, List.getElem?_append_left (by simp [Rw_len]; omega), List.getElem?_append_left (by rw [Rw_len]; omega), Rw_get _ _ h1]
  · by_cases h2 : i < 24
    · obtain ⟨j, rfl⟩ : ∃ j, i = 12 + j := ⟨i - 12, by omega⟩
      rw [if_pos (by omega), show 8 + (12 + j) = 20 + j by omega, adN_20 (by omega), List.getElem?_append_left (by simp [Rw_len]; omega), List.getElem?_append_right (by rw [Rw_len]; omega), Rw_len, Nat.add_sub_cancel_left, Rw_get _ _ (by omega)]
    · by_cases h3 : i < 36
      · obtain ⟨j, rfl⟩ : ∃ j, i = 24 + j := ⟨i - 24, by omega⟩
        rw [if_pos (by omega), show 8 + (24 + j) = 32 + j by omega, adN_32 (by omega), List.getElem?_append_right (by simp [Rw_len]), show 24 + j - (Rw r0 ++ Rw r1).length = j by simp [Rw_len], Rw_get _ _ (by omega)]
      · rw [if_neg h3]
        exact List.getElem?_eq_none (by simp [Rw_len]; omega)
theorem netRows : (List.replicate 36 (.inr (.inl 12) : mKd)).mapIdx (fun k c => ((adN h0 q0 q1 q2 q3 g0 g1 g2 r0 r1 r2) (k + 8), mE (adN h0 q0 q1 q2 q3 g0 g1 g2 r0 r1 r2) (caN k0 k1 k2 k3 k4 k5 k6) ((fun _ _ => 0 : mS) (k + 8)) (k + 8) c)) = va_pl ((([] ++ Rw r0) ++ Rw r1) ++ Rw r2) (fun _ => e12 k0) := by
  apply List.ext_getElem?
  intro i
  unfold va_pl
  rw [List.getElem?_mapIdx, List.getElem?_replicate, List.getElem?_map, netL (h0 := h0) (q0 := q0) (q1 := q1) (q2 := q2) (q3 := q3) (g0 := g0) (g1 := g1) (g2 := g2)]
  by_cases h : i < 36
  · rw [if_pos h, if_pos h, Nat.add_comm i 8]
    show some ((adN h0 q0 q1 q2 q3 g0 g1 g2 r0 r1 r2) (8 + i), (Sum.inl ((caN k0 k1 k2 k3 k4 k5 k6) (8 + i), 12, .inl (fun _ => 0)) : va_E)) = some ((adN h0 q0 q1 q2 q3 g0 g1 g2 r0 r1 r2) (8 + i), e12 k0)
    rw [caN_8]
    rfl
  · rw [if_neg h, if_neg h]
    rfl
theorem netHd {σ : mS} : mW (adN h0 q0 q1 q2 q3 g0 g1 g2 r0 r1 r2) (caN k0 k1 k2 k3 k4 k5 k6) (mLayN.take 8) (fun _ _ => 0) = [(h0, .inr (2, [.int 0, .int 0, .ref q0, .ref q1, .ref q2, .ref q3, .ref g0, .ref g1, .ref g2, .int 0])), (q0, .inl (k0, 24, .inl (fun _ => 0))), (q1, .inl (k1, 24, .inl (fun _ => 0))), (q2, .inl (k2, 24, .inl (fun _ => 0))), (q3, .inl (k3, 24, .inl (fun _ => 0))), (g0, .inl (k4, 12, .inr (.inr (.inr (.inr (fun i => some ((adN h0 q0 q1 q2 q3 g0 g1 g2 r0 r1 r2) (8 + i)))))))), (g1, .inl (k5, 12, .inr (.inr (.inr (.inr (fun i => some ((adN h0 q0 q1 q2 q3 g0 g1 g2 r0 r1 r2) (20 + i)))))))), (g2, .inl (k6, 12, .inr (.inr (.inr (.inr (fun i => some ((adN h0 q0 q1 q2 q3 g0 g1 g2 r0 r1 r2) (32 + i))))))))] := rfl
theorem netW : mW (adN h0 q0 q1 q2 q3 g0 g1 g2 r0 r1 r2) (caN k0 k1 k2 k3 k4 k5 k6) mLayN (fun _ _ => 0) = [(h0, .inr (2, [.int 0, .int 0, .ref q0, .ref q1, .ref q2, .ref q3, .ref g0, .ref g1, .ref g2, .int 0])), (q0, .inl (k0, 24, .inl (fun _ => 0))), (q1, .inl (k1, 24, .inl (fun _ => 0))), (q2, .inl (k2, 24, .inl (fun _ => 0))), (q3, .inl (k3, 24, .inl (fun _ => 0))), (g0, .inl (k4, 12, .inr (.inr (.inr (.inr (fun i => some ((adN h0 q0 q1 q2 q3 g0 g1 g2 r0 r1 r2) (8 + i)))))))), (g1, .inl (k5, 12, .inr (.inr (.inr (.inr (fun i => some ((adN h0 q0 q1 q2 q3 g0 g1 g2 r0 r1 r2) (20 + i)))))))), (g2, .inl (k6, 12, .inr (.inr (.inr (.inr (fun i => some ((adN h0 q0 q1 q2 q3 g0 g1 g2 r0 r1 r2) (32 + i))))))))] ++ va_pl ((([] ++ Rw r0) ++ Rw r1) ++ Rw r2) (fun _ => e12 k0) := by
  rw [← netRows (k1 := k1) (k2 := k2) (k3 := k3) (k4 := k4) (k5 := k5) (k6 := k6) (h0 := h0) (q0 := q0) (q1 := q1) (q2 := q2) (q3 := q3) (g0 := g0) (g1 := g1) (g2 := g2), ← netHd (σ := fun _ _ => 0)]
  exact mW_app (a := mLayN.take 8) (b := List.replicate 36 (.inr (.inl 12)))
theorem netP (hP : va_P D mCl ([(h0, .inr (2, [.int 0, .int 0, .ref q0, .ref q1, .ref q2, .ref q3, .ref g0, .ref g1, .ref g2, .int 0])), (q0, .inl (k0, 24, .inl (fun _ => 0))), (q1, .inl (k1, 24, .inl (fun _ => 0))), (q2, .inl (k2, 24, .inl (fun _ => 0))), (q3, .inl (k3, 24, .inl (fun _ => 0))), (g0, .inl (k4, 12, .inr (.inr (.inr (.inr (fun i => if i < 12 then some (r0 i) else none)))))), (g1, .inl (k5, 12, .inr (.inr (.inr (.inr (fun i => if i < 12 then some (r1 i) else none)))))), (g2, .inl (k6, 12, .inr (.inr (.inr (.inr (fun i => if i < 12 then some (r2 i) else none))))))] ++ va_pl ((([] ++ Rw r0) ++ Rw r1) ++ Rw r2) (fun _ => e12 k0)) H) : va_P D mCl (mW (adN h0 q0 q1 q2 q3 g0 g1 g2 r0 r1 r2) (caN k0 k1 k2 k3 k4 k5 k6) mLayN (fun _ _ => 0)) H := by
  rw [netW]
  obtain ⟨p0, hP⟩ := va_P_cons.mp hP
  obtain ⟨p1, hP⟩ := va_P_cons.mp hP
  obtain ⟨p2, hP⟩ := va_P_cons.mp hP
  obtain ⟨p3, hP⟩ := va_P_cons.mp hP
  obtain ⟨p4, hP⟩ := va_P_cons.mp hP
  obtain ⟨p5, hP⟩ := va_P_cons.mp hP
  obtain ⟨p6, hP⟩ := va_P_cons.mp hP
  obtain ⟨p7, hP⟩ := va_P_cons.mp hP
  exact va_P_cons.mpr ⟨p0, va_P_cons.mpr ⟨p1, va_P_cons.mpr ⟨p2, va_P_cons.mpr ⟨p3, va_P_cons.mpr ⟨p4, va_P_cons.mpr ⟨grid_at p5 (fun i hi => (adN_8 hi).symm), va_P_cons.mpr ⟨grid_at p6 (fun i hi => (adN_20 hi).symm), va_P_cons.mpr ⟨grid_at p7 (fun i hi => (adN_32 hi).symm), hP⟩⟩⟩⟩⟩⟩⟩⟩
theorem netD (hD : va_D A ([(h0, .inr (2, [.int 0, .int 0, .ref q0, .ref q1, .ref q2, .ref q3, .ref g0, .ref g1, .ref g2, .int 0])), (q0, .inl (k0, 24, .inl (fun _ => 0))), (q1, .inl (k1, 24, .inl (fun _ => 0))), (q2, .inl (k2, 24, .inl (fun _ => 0))), (q3, .inl (k3, 24, .inl (fun _ => 0))), (g0, .inl (k4, 12, .inr (.inr (.inr (.inr (fun i => if i < 12 then some (r0 i) else none)))))), (g1, .inl (k5, 12, .inr (.inr (.inr (.inr (fun i => if i < 12 then some (r1 i) else none)))))), (g2, .inl (k6, 12, .inr (.inr (.inr (.inr (fun i => if i < 12 then some (r2 i) else none))))))] ++ va_pl ((([] ++ Rw r0) ++ Rw r1) ++ Rw r2) (fun _ => e12 k0))) : va_D A (mW (adN h0 q0 q1 q2 q3 g0 g1 g2 r0 r1 r2) (caN k0 k1 k2 k3 k4 k5 k6) mLayN (fun _ _ => 0)) := by
  rw [netW]
  refine va_D_fst hD ?_
  simp only [List.map_append, List.map_cons, List.map_nil]
theorem mW_fst {ad : Nat → Nat} {ca : Nat → ClassId} {lay : mLay} {σ τ : mS} : (mW ad ca lay σ).map Prod.fst = (mW ad ca lay τ).map Prod.fst := by
  apply List.ext_getElem?
  intro i
  simp only [mW, List.getElem?_map, List.getElem?_mapIdx]
  cases lay[i]? <;> rfl
theorem netK (hK : va_K D mCl [(k0, .int), (k1, .int), (k2, .int), (k3, .int), (k4, .array .int), (k5, .array .int), (k6, .array .int)] s) : va_K D mCl (mT (caN k0 k1 k2 k3 k4 k5 k6) mLayN) s := by
  refine ⟨hK.1, fun k q hk => ?_⟩
  have key : ∀ q ∈ mT (caN k0 k1 k2 k3 k4 k5 k6) mLayN, q ∈ [(k0, FieldType.int), (k1, .int), (k2, .int), (k3, .int), (k4, .array .int), (k5, .array .int), (k6, .array .int)] := by
    intro q hq
    obtain ⟨x, hx, hx2⟩ := List.mem_filterMap.mp hq
    have hx2 : x = some q := hx2
    subst hx2
    obtain ⟨i, hi⟩ := List.getElem?_of_mem hx
    rw [List.getElem?_mapIdx] at hi
    by_cases h8 : i < 8
    · rcases (show i = 0 ∨ i = 1 ∨ i = 2 ∨ i = 3 ∨ i = 4 ∨ i = 5 ∨ i = 6 ∨ i = 7 by omega) with rfl | rfl | rfl | rfl | rfl | rfl | rfl | rfl <;> (cases hi <;> simp [caN])
    · obtain ⟨g, rfl⟩ : ∃ g, i = 8 + g := ⟨i - 8, by omega⟩
      rw [mLayN_row8] at hi
      split at hi
      · cases hi
        rw [caN_8]; exact List.mem_cons_self
      · cases hi
  obtain ⟨j, hj⟩ := List.getElem?_of_mem (key q (List.mem_of_getElem? hk))
  exact hK.2 j q hj
end NW
end CT2
