/-! the reference's world of the beginning; pieces of a world -/
section MW1
def aMf (m0 : Nat) (uq : Nat → Nat) (j : Nat) : Nat := if j = 0 then m0 else uq (j - 1)
def kMf (uk : Nat → ClassId) (j : Nat) : ClassId := uk (j - 1)
def dM0 : mS := fun k => if k = 0 then (fun j => if j = 1 then 2 else 0) else (fun _ => 0)
variable {m0 : Nat} {uq : Nat → Nat} {uk : Nat → ClassId} {D : va_G} {s : State}
theorem aMf_0 : aMf m0 uq 0 = m0 := rfl
theorem aMf_1 : aMf m0 uq 1 = uq 0 := rfl
theorem aMf_2 : aMf m0 uq 2 = uq 1 := rfl
theorem aMf_3 : aMf m0 uq 3 = uq 2 := rfl
theorem aMf_4 : aMf m0 uq 4 = uq 3 := rfl
theorem aMf_5 : aMf m0 uq 5 = uq 4 := rfl
theorem aMf_6 : aMf m0 uq 6 = uq 5 := rfl
theorem kMf_1 : kMf uk 1 = uk 0 := rfl
theorem kMf_2 : kMf uk 2 = uk 1 := rfl
theorem kMf_3 : kMf uk 3 = uk 2 := rfl
theorem kMf_4 : kMf uk 4 = uk 3 := rfl
theorem kMf_5 : kMf uk 5 = uk 4 := rfl
theorem kMf_6 : kMf uk 6 = uk 5 := rfl
theorem dM0_0 : dM0 0 0 = 0 := rfl
theorem dM0_1 : dM0 0 1 = 2 := rfl
theorem dM0_2 : dM0 0 2 = 0 := rfl
theorem dM0_7 : dM0 0 7 = 0 := rfl
theorem dM0_8 : dM0 0 8 = 0 := rfl
theorem dM0_10 : dM0 0 10 = 0 := rfl
theorem dM0_11 : dM0 0 11 = 0 := rfl
theorem dM0_12 : dM0 0 12 = 0 := rfl
theorem dM0_13 : dM0 0 13 = 0 := rfl
theorem dM0_14 : dM0 0 14 = 0 := rfl
theorem dM0_15 : dM0 0 15 = 0 := rfl
theorem dM0_k1 : dM0 1 = fun _ => 0 := rfl
theorem dM0_k2 : dM0 2 = fun _ => 0 := rfl
theorem dM0_k3 : dM0 3 = fun _ => 0 := rfl
theorem dM0_k4 : dM0 4 = fun _ => 0 := rfl
theorem dM0_k5 : dM0 5 = fun _ => 0 := rfl
theorem dM0_k6 : dM0 6 = fun _ => 0 := rfl
theorem modelW : mW (aMf m0 uq) (kMf uk) mLayM dM0 = [(m0, .inr (7, [.int 0, .int 2, .int 0, .ref (uq 0), .ref (uq 1), .ref (uq 2), .ref (uq 3), .int 0, .int 0, .ref (uq 4), .int 0, .int 0, .int 0, .int 0, .int 0, .int 0, .ref (uq 5)])), (uq 0, .inl (uk 0, 24, .inl (fun _ => 0))), (uq 1, .inl (uk 1, 24, .inl (fun _ => 0))), (uq 2, .inl (uk 2, 24, .inl (fun _ => 0))), (uq 3, .inl (uk 3, 24, .inl (fun _ => 0))), (uq 4, .inl (uk 4, 288, .inl (fun _ => 0))), (uq 5, .inl (uk 5, 41, .inl (fun _ => 0)))] := by
  rw [mW_g]
  simp only [mLayM, mWg, mE_o, mE_i, mFs, Nat.reduceAdd, aMf_0, aMf_1, aMf_2, aMf_3, aMf_4, aMf_5, aMf_6, kMf_1, kMf_2, kMf_3, kMf_4, kMf_5, kMf_6, dM0_0, dM0_1, dM0_2, dM0_7, dM0_8, dM0_10, dM0_11, dM0_12, dM0_13, dM0_14, dM0_15, dM0_k1, dM0_k2, dM0_k3, dM0_k4, dM0_k5, dM0_k6]
theorem modelK (h : va_K D mCl [(uk 0, FieldType.int), (uk 1, .int), (uk 2, .int), (uk 3, .int), (uk 4, .int), (uk 5, .int)] s) : va_K D mCl (mT (kMf uk) mLayM) s := by
  have e : mT (kMf uk) mLayM = [(uk 0, FieldType.int), (uk 1, .int), (uk 2, .int), (uk 3, .int), (uk 4, .int), (uk 5, .int)] := rfl
  rw [e]; exact h
theorem MI_00 : MI dM0 N0 0 0 := ⟨N0_ok, rfl, rfl, fun l h => absurd h (Nat.not_lt_zero l), rfl, rfl⟩
theorem va_P_left {cl : List vw_C} {a b : va_W} {H : Heap} (h : va_P D cl (a ++ b) H) : va_P D cl a H := va_P_mem.mpr (fun q hq => va_P_mem.mp h q (List.mem_append_left _ hq))
theorem va_P_right {cl : List vw_C} {a b : va_W} {H : Heap} (h : va_P D cl (a ++ b) H) : va_P D cl b H := va_P_mem.mpr (fun q hq => va_P_mem.mp h q (List.mem_append_right _ hq))
theorem va_D_app {A : Nat → Prop} {a b : va_W} (h : va_D A (a ++ b)) : va_D A a ∧ va_D A b ∧ ∀ x ∈ a, ∀ y ∈ b, x.1 ≠ y.1 := by
  obtain ⟨h1, h2⟩ := va_D_iff.mp h
  rw [List.map_append, List.nodup_append] at h1
  exact ⟨va_D_iff.mpr ⟨h1.1, fun q hq => h2 q (List.mem_append_left _ hq)⟩, va_D_iff.mpr ⟨h1.2.1, fun q hq => h2 q (List.mem_append_right _ hq)⟩, fun x hx y hy => h1.2.2 _ (List.mem_map_of_mem hx) _ (List.mem_map_of_mem hy)⟩
theorem mW_mem {ad : Nat → Nat} {ca : Nat → ClassId} {lay : mLay} {σ : mS} {k : Nat} (h : k < lay.length) : (ad k, mE ad ca (σ k) k (lay[k])) ∈ mW ad ca lay σ := List.mem_of_getElem? (mW_get (List.getElem?_eq_getElem h))
end MW1
