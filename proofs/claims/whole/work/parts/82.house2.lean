/-! the house's constructor (printed by wip/whole/gen_ctor4.py) -/
section CH2
def mNestI : List (String × Nat × MethodName × String) := [(RX6, 18, yX3_init, RX6), (RX6, 25, yX5_init, RX6), (RX6, 32, yX4_init, RX6), (RX6, 39, yX0_init, RX6), (RX6, 46, yX1_init, RX6)]
theorem mni_18 : Cond.methodLinkNest RX6 18 yX3_init RX6 ∈ lw_tbl := List.mem_of_getElem? (i := 147) (by decide +kernel)
theorem mni_25 : Cond.methodLinkNest RX6 25 yX5_init RX6 ∈ lw_tbl := List.mem_of_getElem? (i := 162) (by decide +kernel)
theorem mni_32 : Cond.methodLinkNest RX6 32 yX4_init RX6 ∈ lw_tbl := List.mem_of_getElem? (i := 215) (by decide +kernel)
theorem mni_39 : Cond.methodLinkNest RX6 39 yX0_init RX6 ∈ lw_tbl := List.mem_of_getElem? (i := 250) (by decide +kernel)
theorem mni_46 : Cond.methodLinkNest RX6 46 yX1_init RX6 ∈ lw_tbl := List.mem_of_getElem? (i := 263) (by decide +kernel)
theorem mNestI_ok : ∀ q ∈ mNestI, Cond.methodLinkNest q.1 q.2.1 q.2.2.1 q.2.2.2 ∈ lw_tbl := List.forall_mem_cons.mpr ⟨mni_18, List.forall_mem_cons.mpr ⟨mni_25, List.forall_mem_cons.mpr ⟨mni_32, List.forall_mem_cons.mpr ⟨mni_39, List.forall_mem_cons.mpr ⟨mni_46, fun _ h => absurd h List.not_mem_nil⟩⟩⟩⟩⟩
def mNes2 (U : State) : Prop := ∀ q ∈ mNestI, va_Nw (.methodLinkNest q.1 q.2.1 q.2.2.1 q.2.2.2) U
theorem mNes2_same {u U : State} (h : u.vm = U.vm) (hN : mNes2 u) : mNes2 U := fun q hq => va_Nw.same rfl h (hN q hq)
theorem mNes2_warm {s U : State} (h : s.WarmedH U.vm) (hN : mNes2 s) : mNes2 U := fun q hq => va_Nw.warmM h (hN q hq)
/-- the network of the beginning: two nodes, no link -/
def N0 : Nt := (2, 0, fun _ => 0, fun _ => 0, fun _ => 0, fun _ => 0)
theorem N0_ok : Nok N0 := ⟨Nat.le_refl 2, (by decide : 2 ≤ 12), (by decide : 0 ≤ 24), fun l h => absurd h (Nat.not_lt_zero l), fun l k h => absurd h (Nat.not_lt_zero l)⟩
theorem Dok0 : Dok N0 0 0 := ⟨by decide, by decide, fun h => absurd h (by decide), fun h => absurd h (by decide), fun h => absurd h (by decide), fun _ => rfl⟩
theorem CI_0 {τ : mS} (h : netOk τ) : CI (cH τ) N0 0 0 := by
  obtain ⟨h1, h2, h3, h4⟩ := h
  refine ⟨⟨N0_ok, h2, h3, fun l h => absurd h (Nat.not_lt_zero l), fun x y hx hy => ?_, rfl, rfl⟩, Or.inl h4⟩
  have hx : x < 2 := hx
  have hy : y < 2 := hy
  rw [show cH τ (44 + x) = τ (32 + x) by rw [show 44 + x = 20 + (24 + x) by omega, cH_20, show 8 + (24 + x) = 32 + x by omega], h1 x y (by omega) (by omega)]
  rfl
set_option maxHeartbeats 4000000 in
set_option maxRecDepth 100000 in
theorem c_X6_init (l : Launch) (D : va_G) (h0 sz : Nat) : Met l yX6_init (mWs yX6_init cX6_init 1 none) ({ frames := 3, cells := 55, slots := 716, locals := 65 }) (va_Pc [.ref h0] (fun U => U.heap.size = sz ∧ va_P D mCl [(h0, .inr (6, [.null, .null, .null, .null, .null, .null]))] U.heap ∧ va_K D mCl [] U ∧ va_D (fun _ => True) [(h0, .inr (6, [.null, .null, .null, .null, .null, .null]))] ∧ va_AOA .int U ∧ mNest U ∧ mNes2 U)) (va_Qv (fun u : (Nat → Nat) × (Nat → ClassId) × mS => u.1 0 = h0 ∧ CI u.2.2 N0 0 0) (fun u t => va_P D mCl (mW u.1 u.2.1 mLayH u.2.2) t.heap ∧ va_K D mCl (mT u.2.1 mLayH) t ∧ va_D (va_A [(h0, .inr (6, [.null, .null, .null, .null, .null, .null]))] sz) (mW u.1 u.2.1 mLayH u.2.2)) (va_A [(h0, .inr (6, [.null, .null, .null, .null, .null, .null]))] sz)) 55 716 (va_A [(h0, .inr (6, [.null, .null, .null, .null, .null, .null]))] sz) := by
  refine Met.ofW (cc := cX6_init) (maxL := 1) (ret := none) (by decide +kernel) rfl ?_
  intro p e s m args below meth c s₁ B hml hv
  obtain ⟨rfl, hsz, hP, hK, hD0, hAOA, hNst, hNs2⟩ := hv
  have hx := B.exec
  have hb := B.bytes
  have hr := B.returns
  have hts : ∀ w ∈ mTB, w.before (#[Value.ref h0]) s = true := fun w hw => atoms_spec (ws := mWs yX6_init cX6_init 1 none) B.pre w (List.mem_cons_of_mem _ hw)
  have hown : s.vm.findClass RX6 = some m.cls := findClass_of_methodNamed B.named
  have hlocks := B.notSynchronized
  have hin : meth.name = "<init>" := (name_of_methodNamed B.named B.method).1
  subst hsz
  have hD := hD0.self (sz := s.heap.size)
  generalize hAe : va_A [(h0, .inr (6, [.null, .null, .null, .null, .null, .null]))] s.heap.size = A at hD ⊢
  have hA : ∀ q : Nat, s.heap.size ≤ q → A q := fun q h => by rw [← hAe]; exact Or.inr h
  have hS : va_S A s.heap s.heap [] := va_S.rf
  have hl := lv_entry ([.ref h0]) (n := 1) (Nat.le_of_ble_eq_true rfl)
  rw [lg_entry_eq]
  generalize (lg_sl ([.ref h0]) ++ List.replicate (1 - (lg_sl ([.ref h0])).length) Slot.unset).toArray = ls at hl ⊢
  have hl : lv_has ls 1 [(0, .ref h0)] := hl
  refine lv_aload_n hx hb dX6_init_0 rfl (lv_at hl 0 rfl) ?_
  refine W.objInit hx hb hown (hts (.methodLink RX6 1 objectInit) (mTB_mem 76 (by decide +kernel) rfl)) (hts (.instanceMethod objectInit) (mTB_mem 77 (by decide +kernel) rfl)) (hts _ (mTB_mem 78 (by decide +kernel) rfl)) rfl (by rw [hml]; exact hl.1) rfl dX6_init_1 (Nat.le_of_ble_eq_true rfl) (Nat.le_of_ble_eq_true rfl) ?_
  refine W.eq (g2 := F0 m 4 ls []) rfl ?_
  refine lv_aload_n hx hb dX6_init_4 rfl (lv_at hl 0 rfl) ?_
  refine va_new (ci := 2) (fs := [.int 0, .int 0, .null, .null, .null, .null, .null, .null, .null, .int 0]) (C := RX2) (T := TX2) (N := 10) hx hb hts mcl_X2.1 tyX2 tyX2_ok hown (hts (.classLink RX6 7 RX2) (mTB_mem 79 (by decide +kernel) rfl)) (hts (.instantiable RX2 10) (mTB_mem 80 (by decide +kernel) rfl)) (hts (.initialized RX2) (mTB_mem 57 (by decide +kernel) rfl)) hK hP hD hS hA rfl (fun j hj => by rcases (show j = 0 ∨ j = 1 ∨ j = 2 ∨ j = 3 ∨ j = 4 ∨ j = 5 ∨ j = 6 ∨ j = 7 ∨ j = 8 ∨ j = 9 by omega) with rfl | rfl | rfl | rfl | rfl | rfl | rfl | rfl | rfl | rfl <;> rfl) (Nat.le_of_ble_eq_true rfl) (Nat.le_of_ble_eq_true rfl) dX6_init_5 (fun n0 H hP hD hS => ?_)
  have hP : va_P D mCl [(h0, .inr (6, [.null, .null, .null, .null, .null, .null])), (n0, .inr (2, [.int 0, .int 0, .null, .null, .null, .null, .null, .null, .null, .int 0]))] H := hP
  have hD : va_D A [(h0, .inr (6, [.null, .null, .null, .null, .null, .null])), (n0, .inr (2, [.int 0, .int 0, .null, .null, .null, .null, .null, .null, .null, .int 0]))] := hD
  refine W.widen (k := 1) (n := 10) (Nat.le_of_ble_eq_true rfl) (Nat.le_of_ble_eq_true rfl) ?_
  refine lv_dup hx hb dX6_init_8 rfl ?_
  have hPc : va_P D mCl [(n0, .inr (2, [.int 0, .int 0, .null, .null, .null, .null, .null, .null, .null, .int 0]))] H := fun k9 q9 h9 => by
    cases k9 with
    | zero => cases h9; exact hP 1 _ rfl
    | succ k9 => simp at h9
  have hDc : va_D (fun _ => True) [(n0, .inr (2, [.int 0, .int 0, .null, .null, .null, .null, .null, .null, .null, .int 0]))] := ⟨fun i j p9 q9 h1 h2 _ => by have := (List.getElem?_eq_some_iff.mp h1).1; have := (List.getElem?_eq_some_iff.mp h2).1; simp at *; omega, fun _ _ _ => trivial⟩
  have hKc := hK.sub (tys' := []) [] rfl
  have hFc : ∀ q9, va_A [(n0, .inr (2, [.int 0, .int 0, .null, .null, .null, .null, .null, .null, .null, .int 0]))] H.size q9 → A q9 := va_free hD hS hA [1] rfl
  refine va_callv (va_runI (As := []) (rest := [.ref n0, .ref h0]) ⟨hx, hb, hml, hown, hts⟩ (c_X2_init l D n0 H.size) (cwI 0 hts (mWs_good (mTB_mem 83 (by decide +kernel) rfl)) rfl rfl rfl (hts (.initialized RX2) (mTB_mem 57 (by decide +kernel) rfl)) (hts (.methodLink RX6 9 yX2_init) (mTB_mem 81 (by decide +kernel) rfl)) (hts (.instanceMethod yX2_init) (mTB_mem 82 (by decide +kernel) rfl)) rfl (by decide +kernel) ⟨Nat.le_of_ble_eq_true rfl, Nat.le_of_ble_eq_true rfl⟩) ⟨fun a U g mk q => by obtain ⟨q0, q1, qP, qK, qD, qA, qN⟩ := q; exact ⟨q0, q1, qP, va_K.moved (u := U) (U := U.calling g mk a) (Vm.Alike.refl U.vm) qK, qD, va_AOA.moved (u := U) (U := U.calling g mk a) (Vm.Alike.refl U.vm) qA, mNest_same (u := U) rfl qN⟩, fun U hU hW => ⟨rfl, by rw [hU], by rw [hU]; exact hPc, va_K.moved hW.alike hKc, hDc, hAOA.moved hW.alike, mNest_warm hW hNst⟩⟩ rfl rfl hl.1 rfl (lv_room (Nat.le_of_ble_eq_true rfl)) dX6_init_9 ⟨Nat.le_of_ble_eq_true rfl, Nat.le_of_ble_eq_true rfl⟩) hS (fun q _ h => hFc q h) hFc (fun u t H1 locs ht hvm hw hB hz1 hk1 hS => ?_)
  obtain ⟨n, kn, τ⟩ := u
  obtain ⟨hP1, hK1, hD1⟩ := hB
  obtain ⟨hw0, hτ⟩ := hw
  dsimp only at hw0 hτ hP1 hK1 hD1
  subst hw0
  rw [ht] at hP1
  have hK1 := va_K.moved hvm.symm hK1
  obtain ⟨hP, hD⟩ := va_joinI (w1 := (mW n kn mLayN τ)) hP hD 1 rfl hk1 hFc hP1 hD1
  generalize H1 = H at hP hS ⊢
  have hP : va_P D mCl ([(h0, .inr (6, [.null, .null, .null, .null, .null, .null]))] ++ (mW n kn mLayN τ)) H := hP
  have hD : va_D A ([(h0, .inr (6, [.null, .null, .null, .null, .null, .null]))] ++ (mW n kn mLayN τ)) := hD
  have hK : va_K D mCl (mT kn mLayN) s := hK1
  refine W.widen (k := 44) (n := 574) (Nat.le_of_ble_eq_true rfl) (Nat.le_of_ble_eq_true rfl) ?_
  refine va_putF (D := D) (ci := 6) (v := .ref (n 0)) (ty := .object "RerouteHouse$Network") (C := RX6) (T := TX6) (N := 6) hx hb hts mcl_X6.1 tyX6 tyX6_ok nmX6 hown hK hP hD hS 0 rfl rfl 0 (by decide) (hts (.fieldLink RX6 10 "RerouteHouse" "net" "LRerouteHouse$Network;") (mTB_mem 277 (by decide +kernel) rfl)) (fun _ h9 => h9) rfl hin rfl (by decide +kernel) rfl rfl (Nat.le_of_ble_eq_true rfl) dX6_init_12 (fun H locs hP hD hS => ?_)
  have hP : va_P D mCl ([(h0, .inr (6, [.ref (n 0), .null, .null, .null, .null, .null]))] ++ (mW n kn mLayN τ)) H := hP
  have hD : va_D A ([(h0, .inr (6, [.ref (n 0), .null, .null, .null, .null, .null]))] ++ (mW n kn mLayN τ)) := hD
  refine lv_aload_n hx hb dX6_init_15 rfl (lv_at hl 0 rfl) ?_
  refine va_new (ci := 3) (fs := [.int 0, .int 0]) (C := RX3) (T := TX3) (N := 2) hx hb hts mcl_X3.1 tyX3 tyX3_ok hown (hts (.classLink RX6 16 RX3) (mTB_mem 145 (by decide +kernel) rfl)) (hts (.instantiable RX3 2) (mTB_mem 146 (by decide +kernel) rfl)) (hts (.initialized RX3) (mTB_mem 59 (by decide +kernel) rfl)) hK hP hD hS hA rfl (fun j hj => by rcases (show j = 0 ∨ j = 1 by omega) with rfl | rfl <;> rfl) (Nat.le_of_ble_eq_true rfl) (Nat.le_of_ble_eq_true rfl) dX6_init_16 (fun o H hP hD hS => ?_)
  have hP : va_P D mCl ([(h0, .inr (6, [.ref (n 0), .null, .null, .null, .null, .null]))] ++ [(o, .inr (3, [.int 0, .int 0]))] ++ (mW n kn mLayN τ)) H := va_P_perm hP sw_perm
  have hD : va_D A ([(h0, .inr (6, [.ref (n 0), .null, .null, .null, .null, .null]))] ++ [(o, .inr (3, [.int 0, .int 0]))] ++ (mW n kn mLayN τ)) := va_D_perm hD sw_perm
  have hP : va_P D mCl ([(h0, .inr (6, [.ref (n 0), .null, .null, .null, .null, .null])), (o, .inr (3, [.int 0, .int 0]))] ++ (mW n kn mLayN τ)) H := hP
  have hD : va_D A ([(h0, .inr (6, [.ref (n 0), .null, .null, .null, .null, .null])), (o, .inr (3, [.int 0, .int 0]))] ++ (mW n kn mLayN τ)) := hD
  refine W.widen (k := 45) (n := 576) (Nat.le_of_ble_eq_true rfl) (Nat.le_of_ble_eq_true rfl) ?_
  refine lv_dup hx hb dX6_init_19 rfl ?_
  have hPc : va_P D mCl [(o, .inr (3, [.int 0, .int 0]))] H := fun k9 q9 h9 => by
    cases k9 with
    | zero => cases h9; exact hP 1 _ rfl
    | succ k9 => simp at h9
  have hDc : va_D (fun _ => True) [(o, .inr (3, [.int 0, .int 0]))] := ⟨fun i j p9 q9 h1 h2 _ => by have := (List.getElem?_eq_some_iff.mp h1).1; have := (List.getElem?_eq_some_iff.mp h2).1; simp at *; omega, fun _ _ _ => trivial⟩
  have hKc := hK.sub (tys' := []) [] rfl
  have hFc : ∀ q9, va_A [(o, .inr (3, [.int 0, .int 0]))] H.size q9 → A q9 := va_free hD hS hA [1] rfl
  refine va_callv (va_runIN (As := []) (rest := [.ref o, .ref h0]) ⟨hx, hb, hml, hown, hts⟩ (c_X3_init l D o H.size) ⟨va_cnB 0 hts (mWs_good (mTB_mem 149 (by decide +kernel) rfl)) rfl rfl rfl (hNs2 _ (List.mem_of_getElem? (i := 0) rfl)) (hts (.initialized RX3) (mTB_mem 59 (by decide +kernel) rfl)) (by decide +kernel) ⟨Nat.le_of_ble_eq_true rfl, Nat.le_of_ble_eq_true rfl⟩, rfl, (hts (.instanceMethod yX3_init) (mTB_mem 148 (by decide +kernel) rfl))⟩ ⟨fun a U g mk q => by obtain ⟨q0, q1, qP, qK, qD⟩ := q; exact ⟨q0, q1, qP, va_K.moved (u := U) (U := U.calling g mk a) (Vm.Alike.refl U.vm) qK, qD⟩, fun U hU hW => ⟨rfl, by rw [hU], by rw [hU]; exact hPc, va_K.moved hW.alike hKc, hDc⟩⟩ rfl rfl hl.1 rfl (lv_room (Nat.le_of_ble_eq_true rfl)) dX6_init_20 ⟨Nat.le_of_ble_eq_true rfl, Nat.le_of_ble_eq_true rfl⟩) hS (fun q _ h => hFc q h) hFc (fun u t H1 locs ht hvm hw hB hz1 hk1 hS => ?_)
  obtain ⟨uq, uk⟩ := u
  obtain ⟨hP1, hK1, hD1⟩ := hB
  try dsimp only at hP1 hK1 hD1
  rw [ht] at hP1
  have hK1 := va_K.moved hvm.symm hK1
  obtain ⟨hP, hD⟩ := va_joinI (w1 := [(o, .inr (3, [.int 0, .int 0]))]) hP hD 1 rfl hk1 hFc hP1 hD1
  generalize H1 = H at hP hS ⊢
  have hP : va_P D mCl (([(h0, .inr (6, [.ref (n 0), .null, .null, .null, .null, .null]))] ++ (mW n kn mLayN τ)) ++ [(o, .inr (3, [.int 0, .int 0]))]) H := hP
  have hD : va_D A (([(h0, .inr (6, [.ref (n 0), .null, .null, .null, .null, .null]))] ++ (mW n kn mLayN τ)) ++ [(o, .inr (3, [.int 0, .int 0]))]) := hD
  have hP : va_P D mCl (([(h0, .inr (6, [.ref (n 0), .null, .null, .null, .null, .null]))] ++ [(o, .inr (3, [.int 0, .int 0]))]) ++ (mW n kn mLayN τ)) H := va_P_perm hP sw_perm
  have hD : va_D A (([(h0, .inr (6, [.ref (n 0), .null, .null, .null, .null, .null]))] ++ [(o, .inr (3, [.int 0, .int 0]))]) ++ (mW n kn mLayN τ)) := va_D_perm hD sw_perm
  have hP : va_P D mCl ([(h0, .inr (6, [.ref (n 0), .null, .null, .null, .null, .null])), (o, .inr (3, [.int 0, .int 0]))] ++ (mW n kn mLayN τ)) H := hP
  have hD : va_D A ([(h0, .inr (6, [.ref (n 0), .null, .null, .null, .null, .null])), (o, .inr (3, [.int 0, .int 0]))] ++ (mW n kn mLayN τ)) := hD
  refine W.widen (k := 45) (n := 576) (Nat.le_of_ble_eq_true rfl) (Nat.le_of_ble_eq_true rfl) ?_
  refine va_putF (D := D) (ci := 6) (v := .ref o) (ty := .object "RerouteHouse$Outage") (C := RX6) (T := TX6) (N := 6) hx hb hts mcl_X6.1 tyX6 tyX6_ok nmX6 hown hK hP hD hS 0 rfl rfl 1 (by decide) (hts (.fieldLink RX6 19 "RerouteHouse" "outage" "LRerouteHouse$Outage;") (mTB_mem 278 (by decide +kernel) rfl)) (fun _ h9 => h9) rfl hin rfl (by decide +kernel) rfl rfl (Nat.le_of_ble_eq_true rfl) dX6_init_23 (fun H locs hP hD hS => ?_)
  have hP : va_P D mCl ([(h0, .inr (6, [.ref (n 0), .ref o, .null, .null, .null, .null])), (o, .inr (3, [.int 0, .int 0]))] ++ (mW n kn mLayN τ)) H := hP
  have hD : va_D A ([(h0, .inr (6, [.ref (n 0), .ref o, .null, .null, .null, .null])), (o, .inr (3, [.int 0, .int 0]))] ++ (mW n kn mLayN τ)) := hD
  refine lv_aload_n hx hb dX6_init_26 rfl (lv_at hl 0 rfl) ?_
  refine va_new (ci := 5) (fs := [.int 0, .int 0, .int 0, .int 0, .int 0, .int 0, .int 0, .int 0, .int 0, .int 0, .int 0, .int 0, .int 0, .int 0]) (C := RX5) (T := TX5) (N := 14) hx hb hts mcl_X5.1 tyX5 tyX5_ok hown (hts (.classLink RX6 23 RX5) (mTB_mem 160 (by decide +kernel) rfl)) (hts (.instantiable RX5 14) (mTB_mem 161 (by decide +kernel) rfl)) (hts (.initialized RX5) (mTB_mem 60 (by decide +kernel) rfl)) hK hP hD hS hA rfl (fun j hj => by rcases (show j = 0 ∨ j = 1 ∨ j = 2 ∨ j = 3 ∨ j = 4 ∨ j = 5 ∨ j = 6 ∨ j = 7 ∨ j = 8 ∨ j = 9 ∨ j = 10 ∨ j = 11 ∨ j = 12 ∨ j = 13 by omega) with rfl | rfl | rfl | rfl | rfl | rfl | rfl | rfl | rfl | rfl | rfl | rfl | rfl | rfl <;> rfl) (Nat.le_of_ble_eq_true rfl) (Nat.le_of_ble_eq_true rfl) dX6_init_27 (fun pl H hP hD hS => ?_)
  have hP : va_P D mCl ([(h0, .inr (6, [.ref (n 0), .ref o, .null, .null, .null, .null])), (o, .inr (3, [.int 0, .int 0]))] ++ [(pl, .inr (5, [.int 0, .int 0, .int 0, .int 0, .int 0, .int 0, .int 0, .int 0, .int 0, .int 0, .int 0, .int 0, .int 0, .int 0]))] ++ (mW n kn mLayN τ)) H := va_P_perm hP sw_perm
  have hD : va_D A ([(h0, .inr (6, [.ref (n 0), .ref o, .null, .null, .null, .null])), (o, .inr (3, [.int 0, .int 0]))] ++ [(pl, .inr (5, [.int 0, .int 0, .int 0, .int 0, .int 0, .int 0, .int 0, .int 0, .int 0, .int 0, .int 0, .int 0, .int 0, .int 0]))] ++ (mW n kn mLayN τ)) := va_D_perm hD sw_perm
  have hP : va_P D mCl ([(h0, .inr (6, [.ref (n 0), .ref o, .null, .null, .null, .null])), (o, .inr (3, [.int 0, .int 0])), (pl, .inr (5, [.int 0, .int 0, .int 0, .int 0, .int 0, .int 0, .int 0, .int 0, .int 0, .int 0, .int 0, .int 0, .int 0, .int 0]))] ++ (mW n kn mLayN τ)) H := hP
  have hD : va_D A ([(h0, .inr (6, [.ref (n 0), .ref o, .null, .null, .null, .null])), (o, .inr (3, [.int 0, .int 0])), (pl, .inr (5, [.int 0, .int 0, .int 0, .int 0, .int 0, .int 0, .int 0, .int 0, .int 0, .int 0, .int 0, .int 0, .int 0, .int 0]))] ++ (mW n kn mLayN τ)) := hD
  refine W.widen (k := 46) (n := 590) (Nat.le_of_ble_eq_true rfl) (Nat.le_of_ble_eq_true rfl) ?_
  refine lv_dup hx hb dX6_init_30 rfl ?_
  have hPc : va_P D mCl [(pl, .inr (5, [.int 0, .int 0, .int 0, .int 0, .int 0, .int 0, .int 0, .int 0, .int 0, .int 0, .int 0, .int 0, .int 0, .int 0]))] H := fun k9 q9 h9 => by
    cases k9 with
    | zero => cases h9; exact hP 2 _ rfl
    | succ k9 => simp at h9
  have hDc : va_D (fun _ => True) [(pl, .inr (5, [.int 0, .int 0, .int 0, .int 0, .int 0, .int 0, .int 0, .int 0, .int 0, .int 0, .int 0, .int 0, .int 0, .int 0]))] := ⟨fun i j p9 q9 h1 h2 _ => by have := (List.getElem?_eq_some_iff.mp h1).1; have := (List.getElem?_eq_some_iff.mp h2).1; simp at *; omega, fun _ _ _ => trivial⟩
  have hKc := hK.sub (tys' := []) [] rfl
  have hFc : ∀ q9, va_A [(pl, .inr (5, [.int 0, .int 0, .int 0, .int 0, .int 0, .int 0, .int 0, .int 0, .int 0, .int 0, .int 0, .int 0, .int 0, .int 0]))] H.size q9 → A q9 := va_free hD hS hA [2] rfl
  refine va_callv (va_runIN (As := []) (rest := [.ref pl, .ref h0]) ⟨hx, hb, hml, hown, hts⟩ (c_X5_init l D pl H.size) ⟨va_cnB 0 hts (mWs_good (mTB_mem 164 (by decide +kernel) rfl)) rfl rfl rfl (hNs2 _ (List.mem_of_getElem? (i := 1) rfl)) (hts (.initialized RX5) (mTB_mem 60 (by decide +kernel) rfl)) (by decide +kernel) ⟨Nat.le_of_ble_eq_true rfl, Nat.le_of_ble_eq_true rfl⟩, rfl, (hts (.instanceMethod yX5_init) (mTB_mem 163 (by decide +kernel) rfl))⟩ ⟨fun a U g mk q => by obtain ⟨q0, q1, qP, qK, qD⟩ := q; exact ⟨q0, q1, qP, va_K.moved (u := U) (U := U.calling g mk a) (Vm.Alike.refl U.vm) qK, qD⟩, fun U hU hW => ⟨rfl, by rw [hU], by rw [hU]; exact hPc, va_K.moved hW.alike hKc, hDc⟩⟩ rfl rfl hl.1 rfl (lv_room (Nat.le_of_ble_eq_true rfl)) dX6_init_31 ⟨Nat.le_of_ble_eq_true rfl, Nat.le_of_ble_eq_true rfl⟩) hS (fun q _ h => hFc q h) hFc (fun u t H1 locs ht hvm hw hB hz1 hk1 hS => ?_)
  obtain ⟨uq, uk⟩ := u
  obtain ⟨hP1, hK1, hD1⟩ := hB
  try dsimp only at hP1 hK1 hD1
  rw [ht] at hP1
  have hK1 := va_K.moved hvm.symm hK1
  obtain ⟨hP, hD⟩ := va_joinI (w1 := [(pl, .inr (5, [.int 0, .int 0, .int 0, .int 0, .int 0, .int 0, .int 0, .int 0, .int 0, .int 0, .int 0, .int 0, .int 0, .int 0]))]) hP hD 2 rfl hk1 hFc hP1 hD1
  generalize H1 = H at hP hS ⊢
  have hP : va_P D mCl (([(h0, .inr (6, [.ref (n 0), .ref o, .null, .null, .null, .null])), (o, .inr (3, [.int 0, .int 0]))] ++ (mW n kn mLayN τ)) ++ [(pl, .inr (5, [.int 0, .int 0, .int 0, .int 0, .int 0, .int 0, .int 0, .int 0, .int 0, .int 0, .int 0, .int 0, .int 0, .int 0]))]) H := hP
  have hD : va_D A (([(h0, .inr (6, [.ref (n 0), .ref o, .null, .null, .null, .null])), (o, .inr (3, [.int 0, .int 0]))] ++ (mW n kn mLayN τ)) ++ [(pl, .inr (5, [.int 0, .int 0, .int 0, .int 0, .int 0, .int 0, .int 0, .int 0, .int 0, .int 0, .int 0, .int 0, .int 0, .int 0]))]) := hD
  have hP : va_P D mCl (([(h0, .inr (6, [.ref (n 0), .ref o, .null, .null, .null, .null])), (o, .inr (3, [.int 0, .int 0]))] ++ [(pl, .inr (5, [.int 0, .int 0, .int 0, .int 0, .int 0, .int 0, .int 0, .int 0, .int 0, .int 0, .int 0, .int 0, .int 0, .int 0]))]) ++ (mW n kn mLayN τ)) H := va_P_perm hP sw_perm
  have hD : va_D A (([(h0, .inr (6, [.ref (n 0), .ref o, .null, .null, .null, .null])), (o, .inr (3, [.int 0, .int 0]))] ++ [(pl, .inr (5, [.int 0, .int 0, .int 0, .int 0, .int 0, .int 0, .int 0, .int 0, .int 0, .int 0, .int 0, .int 0, .int 0, .int 0]))]) ++ (mW n kn mLayN τ)) := va_D_perm hD sw_perm
  have hP : va_P D mCl ([(h0, .inr (6, [.ref (n 0), .ref o, .null, .null, .null, .null])), (o, .inr (3, [.int 0, .int 0])), (pl, .inr (5, [.int 0, .int 0, .int 0, .int 0, .int 0, .int 0, .int 0, .int 0, .int 0, .int 0, .int 0, .int 0, .int 0, .int 0]))] ++ (mW n kn mLayN τ)) H := hP
  have hD : va_D A ([(h0, .inr (6, [.ref (n 0), .ref o, .null, .null, .null, .null])), (o, .inr (3, [.int 0, .int 0])), (pl, .inr (5, [.int 0, .int 0, .int 0, .int 0, .int 0, .int 0, .int 0, .int 0, .int 0, .int 0, .int 0, .int 0, .int 0, .int 0]))] ++ (mW n kn mLayN τ)) := hD
  refine W.widen (k := 46) (n := 590) (Nat.le_of_ble_eq_true rfl) (Nat.le_of_ble_eq_true rfl) ?_
  refine va_putF (D := D) (ci := 6) (v := .ref pl) (ty := .object "RerouteHouse$Plan") (C := RX6) (T := TX6) (N := 6) hx hb hts mcl_X6.1 tyX6 tyX6_ok nmX6 hown hK hP hD hS 0 rfl rfl 2 (by decide) (hts (.fieldLink RX6 26 "RerouteHouse" "plan" "LRerouteHouse$Plan;") (mTB_mem 279 (by decide +kernel) rfl)) (fun _ h9 => h9) rfl hin rfl (by decide +kernel) rfl rfl (Nat.le_of_ble_eq_true rfl) dX6_init_34 (fun H locs hP hD hS => ?_)
  have hP : va_P D mCl ([(h0, .inr (6, [.ref (n 0), .ref o, .ref pl, .null, .null, .null])), (o, .inr (3, [.int 0, .int 0])), (pl, .inr (5, [.int 0, .int 0, .int 0, .int 0, .int 0, .int 0, .int 0, .int 0, .int 0, .int 0, .int 0, .int 0, .int 0, .int 0]))] ++ (mW n kn mLayN τ)) H := hP
  have hD : va_D A ([(h0, .inr (6, [.ref (n 0), .ref o, .ref pl, .null, .null, .null])), (o, .inr (3, [.int 0, .int 0])), (pl, .inr (5, [.int 0, .int 0, .int 0, .int 0, .int 0, .int 0, .int 0, .int 0, .int 0, .int 0, .int 0, .int 0, .int 0, .int 0]))] ++ (mW n kn mLayN τ)) := hD
  refine lv_aload_n hx hb dX6_init_37 rfl (lv_at hl 0 rfl) ?_
  refine va_new (ci := 4) (fs := [.int 0, .int 0, .int 0, .int 0, .int 0, .int 0, .int 0, .null]) (C := RX4) (T := TX4) (N := 8) hx hb hts mcl_X4.1 tyX4 tyX4_ok hown (hts (.classLink RX6 30 RX4) (mTB_mem 213 (by decide +kernel) rfl)) (hts (.instantiable RX4 8) (mTB_mem 214 (by decide +kernel) rfl)) (hts (.initialized RX4) (mTB_mem 61 (by decide +kernel) rfl)) hK hP hD hS hA rfl (fun j hj => by rcases (show j = 0 ∨ j = 1 ∨ j = 2 ∨ j = 3 ∨ j = 4 ∨ j = 5 ∨ j = 6 ∨ j = 7 by omega) with rfl | rfl | rfl | rfl | rfl | rfl | rfl | rfl <;> rfl) (Nat.le_of_ble_eq_true rfl) (Nat.le_of_ble_eq_true rfl) dX6_init_38 (fun pk H hP hD hS => ?_)
  have hP : va_P D mCl ([(h0, .inr (6, [.ref (n 0), .ref o, .ref pl, .null, .null, .null])), (o, .inr (3, [.int 0, .int 0])), (pl, .inr (5, [.int 0, .int 0, .int 0, .int 0, .int 0, .int 0, .int 0, .int 0, .int 0, .int 0, .int 0, .int 0, .int 0, .int 0]))] ++ [(pk, .inr (4, [.int 0, .int 0, .int 0, .int 0, .int 0, .int 0, .int 0, .null]))] ++ (mW n kn mLayN τ)) H := va_P_perm hP sw_perm
  have hD : va_D A ([(h0, .inr (6, [.ref (n 0), .ref o, .ref pl, .null, .null, .null])), (o, .inr (3, [.int 0, .int 0])), (pl, .inr (5, [.int 0, .int 0, .int 0, .int 0, .int 0, .int 0, .int 0, .int 0, .int 0, .int 0, .int 0, .int 0, .int 0, .int 0]))] ++ [(pk, .inr (4, [.int 0, .int 0, .int 0, .int 0, .int 0, .int 0, .int 0, .null]))] ++ (mW n kn mLayN τ)) := va_D_perm hD sw_perm
  have hP : va_P D mCl ([(h0, .inr (6, [.ref (n 0), .ref o, .ref pl, .null, .null, .null])), (o, .inr (3, [.int 0, .int 0])), (pl, .inr (5, [.int 0, .int 0, .int 0, .int 0, .int 0, .int 0, .int 0, .int 0, .int 0, .int 0, .int 0, .int 0, .int 0, .int 0])), (pk, .inr (4, [.int 0, .int 0, .int 0, .int 0, .int 0, .int 0, .int 0, .null]))] ++ (mW n kn mLayN τ)) H := hP
  have hD : va_D A ([(h0, .inr (6, [.ref (n 0), .ref o, .ref pl, .null, .null, .null])), (o, .inr (3, [.int 0, .int 0])), (pl, .inr (5, [.int 0, .int 0, .int 0, .int 0, .int 0, .int 0, .int 0, .int 0, .int 0, .int 0, .int 0, .int 0, .int 0, .int 0])), (pk, .inr (4, [.int 0, .int 0, .int 0, .int 0, .int 0, .int 0, .int 0, .null]))] ++ (mW n kn mLayN τ)) := hD
  refine W.widen (k := 47) (n := 598) (Nat.le_of_ble_eq_true rfl) (Nat.le_of_ble_eq_true rfl) ?_
  refine lv_dup hx hb dX6_init_41 rfl ?_
  have hPc : va_P D mCl [(pk, .inr (4, [.int 0, .int 0, .int 0, .int 0, .int 0, .int 0, .int 0, .null]))] H := fun k9 q9 h9 => by
    cases k9 with
    | zero => cases h9; exact hP 3 _ rfl
    | succ k9 => simp at h9
  have hDc : va_D (fun _ => True) [(pk, .inr (4, [.int 0, .int 0, .int 0, .int 0, .int 0, .int 0, .int 0, .null]))] := ⟨fun i j p9 q9 h1 h2 _ => by have := (List.getElem?_eq_some_iff.mp h1).1; have := (List.getElem?_eq_some_iff.mp h2).1; simp at *; omega, fun _ _ _ => trivial⟩
  have hKc := hK.sub (tys' := []) [] rfl
  have hFc : ∀ q9, va_A [(pk, .inr (4, [.int 0, .int 0, .int 0, .int 0, .int 0, .int 0, .int 0, .null]))] H.size q9 → A q9 := va_free hD hS hA [3] rfl
  refine va_callv (va_runIN (As := []) (rest := [.ref pk, .ref h0]) ⟨hx, hb, hml, hown, hts⟩ (c_X4_init l D pk H.size) ⟨va_cnB 0 hts (mWs_good (mTB_mem 217 (by decide +kernel) rfl)) rfl rfl rfl (hNs2 _ (List.mem_of_getElem? (i := 2) rfl)) (hts (.initialized RX4) (mTB_mem 61 (by decide +kernel) rfl)) (by decide +kernel) ⟨Nat.le_of_ble_eq_true rfl, Nat.le_of_ble_eq_true rfl⟩, rfl, (hts (.instanceMethod yX4_init) (mTB_mem 216 (by decide +kernel) rfl))⟩ ⟨fun a U g mk q => by obtain ⟨q0, q1, qP, qK, qD⟩ := q; exact ⟨q0, q1, qP, va_K.moved (u := U) (U := U.calling g mk a) (Vm.Alike.refl U.vm) qK, qD⟩, fun U hU hW => ⟨rfl, by rw [hU], by rw [hU]; exact hPc, va_K.moved hW.alike hKc, hDc⟩⟩ rfl rfl hl.1 rfl (lv_room (Nat.le_of_ble_eq_true rfl)) dX6_init_42 ⟨Nat.le_of_ble_eq_true rfl, Nat.le_of_ble_eq_true rfl⟩) hS (fun q _ h => hFc q h) hFc (fun u t H1 locs ht hvm hw hB hz1 hk1 hS => ?_)
  obtain ⟨uq, uk⟩ := u
  obtain ⟨hP1, hK1, hD1⟩ := hB
  try dsimp only at hP1 hK1 hD1
  rw [ht] at hP1
  have hK1 := va_K.moved hvm.symm hK1
  generalize uq 0 = st at hP1 hD1
  generalize uk 0 = ks at hP1 hD1 hK1
  obtain ⟨hP, hD⟩ := va_joinI (w1 := [(pk, .inr (4, [.int 0, .int 0, .int 0, .int 0, .int 0, .int 0, .int 0, .ref st])), (st, .inl (ks, 41, .inl (fun _ => 0)))]) hP hD 3 rfl hk1 hFc hP1 hD1
  generalize H1 = H at hP hS ⊢
  have hP : va_P D mCl (([(h0, .inr (6, [.ref (n 0), .ref o, .ref pl, .null, .null, .null])), (o, .inr (3, [.int 0, .int 0])), (pl, .inr (5, [.int 0, .int 0, .int 0, .int 0, .int 0, .int 0, .int 0, .int 0, .int 0, .int 0, .int 0, .int 0, .int 0, .int 0]))] ++ (mW n kn mLayN τ)) ++ [(pk, .inr (4, [.int 0, .int 0, .int 0, .int 0, .int 0, .int 0, .int 0, .ref st])), (st, .inl (ks, 41, .inl (fun _ => 0)))]) H := hP
  have hD : va_D A (([(h0, .inr (6, [.ref (n 0), .ref o, .ref pl, .null, .null, .null])), (o, .inr (3, [.int 0, .int 0])), (pl, .inr (5, [.int 0, .int 0, .int 0, .int 0, .int 0, .int 0, .int 0, .int 0, .int 0, .int 0, .int 0, .int 0, .int 0, .int 0]))] ++ (mW n kn mLayN τ)) ++ [(pk, .inr (4, [.int 0, .int 0, .int 0, .int 0, .int 0, .int 0, .int 0, .ref st])), (st, .inl (ks, 41, .inl (fun _ => 0)))]) := hD
  have hP : va_P D mCl (([(h0, .inr (6, [.ref (n 0), .ref o, .ref pl, .null, .null, .null])), (o, .inr (3, [.int 0, .int 0])), (pl, .inr (5, [.int 0, .int 0, .int 0, .int 0, .int 0, .int 0, .int 0, .int 0, .int 0, .int 0, .int 0, .int 0, .int 0, .int 0]))] ++ [(pk, .inr (4, [.int 0, .int 0, .int 0, .int 0, .int 0, .int 0, .int 0, .ref st])), (st, .inl (ks, 41, .inl (fun _ => 0)))]) ++ (mW n kn mLayN τ)) H := va_P_perm hP sw_perm
  have hD : va_D A (([(h0, .inr (6, [.ref (n 0), .ref o, .ref pl, .null, .null, .null])), (o, .inr (3, [.int 0, .int 0])), (pl, .inr (5, [.int 0, .int 0, .int 0, .int 0, .int 0, .int 0, .int 0, .int 0, .int 0, .int 0, .int 0, .int 0, .int 0, .int 0]))] ++ [(pk, .inr (4, [.int 0, .int 0, .int 0, .int 0, .int 0, .int 0, .int 0, .ref st])), (st, .inl (ks, 41, .inl (fun _ => 0)))]) ++ (mW n kn mLayN τ)) := va_D_perm hD sw_perm
  have hP : va_P D mCl ([(h0, .inr (6, [.ref (n 0), .ref o, .ref pl, .null, .null, .null])), (o, .inr (3, [.int 0, .int 0])), (pl, .inr (5, [.int 0, .int 0, .int 0, .int 0, .int 0, .int 0, .int 0, .int 0, .int 0, .int 0, .int 0, .int 0, .int 0, .int 0])), (pk, .inr (4, [.int 0, .int 0, .int 0, .int 0, .int 0, .int 0, .int 0, .ref st])), (st, .inl (ks, 41, .inl (fun _ => 0)))] ++ (mW n kn mLayN τ)) H := hP
  have hD : va_D A ([(h0, .inr (6, [.ref (n 0), .ref o, .ref pl, .null, .null, .null])), (o, .inr (3, [.int 0, .int 0])), (pl, .inr (5, [.int 0, .int 0, .int 0, .int 0, .int 0, .int 0, .int 0, .int 0, .int 0, .int 0, .int 0, .int 0, .int 0, .int 0])), (pk, .inr (4, [.int 0, .int 0, .int 0, .int 0, .int 0, .int 0, .int 0, .ref st])), (st, .inl (ks, 41, .inl (fun _ => 0)))] ++ (mW n kn mLayN τ)) := hD
  have hK := hK.app hK1
  refine W.widen (k := 48) (n := 639) (Nat.le_of_ble_eq_true rfl) (Nat.le_of_ble_eq_true rfl) ?_
  refine va_putF (D := D) (ci := 6) (v := .ref pk) (ty := .object "RerouteHouse$Packet") (C := RX6) (T := TX6) (N := 6) hx hb hts mcl_X6.1 tyX6 tyX6_ok nmX6 hown hK hP hD hS 0 rfl rfl 3 (by decide) (hts (.fieldLink RX6 33 "RerouteHouse" "packet" "LRerouteHouse$Packet;") (mTB_mem 280 (by decide +kernel) rfl)) (fun _ h9 => h9) rfl hin rfl (by decide +kernel) rfl rfl (Nat.le_of_ble_eq_true rfl) dX6_init_45 (fun H locs hP hD hS => ?_)
  have hP : va_P D mCl ([(h0, .inr (6, [.ref (n 0), .ref o, .ref pl, .ref pk, .null, .null])), (o, .inr (3, [.int 0, .int 0])), (pl, .inr (5, [.int 0, .int 0, .int 0, .int 0, .int 0, .int 0, .int 0, .int 0, .int 0, .int 0, .int 0, .int 0, .int 0, .int 0])), (pk, .inr (4, [.int 0, .int 0, .int 0, .int 0, .int 0, .int 0, .int 0, .ref st])), (st, .inl (ks, 41, .inl (fun _ => 0)))] ++ (mW n kn mLayN τ)) H := hP
  have hD : va_D A ([(h0, .inr (6, [.ref (n 0), .ref o, .ref pl, .ref pk, .null, .null])), (o, .inr (3, [.int 0, .int 0])), (pl, .inr (5, [.int 0, .int 0, .int 0, .int 0, .int 0, .int 0, .int 0, .int 0, .int 0, .int 0, .int 0, .int 0, .int 0, .int 0])), (pk, .inr (4, [.int 0, .int 0, .int 0, .int 0, .int 0, .int 0, .int 0, .ref st])), (st, .inl (ks, 41, .inl (fun _ => 0)))] ++ (mW n kn mLayN τ)) := hD
  refine lv_aload_n hx hb dX6_init_48 rfl (lv_at hl 0 rfl) ?_
  refine va_new (ci := 0) (fs := [.null, .null]) (C := RX0) (T := TX0) (N := 2) hx hb hts mcl_X0.1 tyX0 tyX0_ok hown (hts (.classLink RX6 37 RX0) (mTB_mem 248 (by decide +kernel) rfl)) (hts (.instantiable RX0 2) (mTB_mem 249 (by decide +kernel) rfl)) (hts (.initialized RX0) (mTB_mem 62 (by decide +kernel) rfl)) hK hP hD hS hA rfl (fun j hj => by rcases (show j = 0 ∨ j = 1 by omega) with rfl | rfl <;> rfl) (Nat.le_of_ble_eq_true rfl) (Nat.le_of_ble_eq_true rfl) dX6_init_49 (fun af H hP hD hS => ?_)
  have hP : va_P D mCl ([(h0, .inr (6, [.ref (n 0), .ref o, .ref pl, .ref pk, .null, .null])), (o, .inr (3, [.int 0, .int 0])), (pl, .inr (5, [.int 0, .int 0, .int 0, .int 0, .int 0, .int 0, .int 0, .int 0, .int 0, .int 0, .int 0, .int 0, .int 0, .int 0])), (pk, .inr (4, [.int 0, .int 0, .int 0, .int 0, .int 0, .int 0, .int 0, .ref st])), (st, .inl (ks, 41, .inl (fun _ => 0)))] ++ [(af, .inr (0, [.null, .null]))] ++ (mW n kn mLayN τ)) H := va_P_perm hP sw_perm
  have hD : va_D A ([(h0, .inr (6, [.ref (n 0), .ref o, .ref pl, .ref pk, .null, .null])), (o, .inr (3, [.int 0, .int 0])), (pl, .inr (5, [.int 0, .int 0, .int 0, .int 0, .int 0, .int 0, .int 0, .int 0, .int 0, .int 0, .int 0, .int 0, .int 0, .int 0])), (pk, .inr (4, [.int 0, .int 0, .int 0, .int 0, .int 0, .int 0, .int 0, .ref st])), (st, .inl (ks, 41, .inl (fun _ => 0)))] ++ [(af, .inr (0, [.null, .null]))] ++ (mW n kn mLayN τ)) := va_D_perm hD sw_perm
  have hP : va_P D mCl ([(h0, .inr (6, [.ref (n 0), .ref o, .ref pl, .ref pk, .null, .null])), (o, .inr (3, [.int 0, .int 0])), (pl, .inr (5, [.int 0, .int 0, .int 0, .int 0, .int 0, .int 0, .int 0, .int 0, .int 0, .int 0, .int 0, .int 0, .int 0, .int 0])), (pk, .inr (4, [.int 0, .int 0, .int 0, .int 0, .int 0, .int 0, .int 0, .ref st])), (st, .inl (ks, 41, .inl (fun _ => 0))), (af, .inr (0, [.null, .null]))] ++ (mW n kn mLayN τ)) H := hP
  have hD : va_D A ([(h0, .inr (6, [.ref (n 0), .ref o, .ref pl, .ref pk, .null, .null])), (o, .inr (3, [.int 0, .int 0])), (pl, .inr (5, [.int 0, .int 0, .int 0, .int 0, .int 0, .int 0, .int 0, .int 0, .int 0, .int 0, .int 0, .int 0, .int 0, .int 0])), (pk, .inr (4, [.int 0, .int 0, .int 0, .int 0, .int 0, .int 0, .int 0, .ref st])), (st, .inl (ks, 41, .inl (fun _ => 0))), (af, .inr (0, [.null, .null]))] ++ (mW n kn mLayN τ)) := hD
  refine W.widen (k := 49) (n := 641) (Nat.le_of_ble_eq_true rfl) (Nat.le_of_ble_eq_true rfl) ?_
  refine lv_dup hx hb dX6_init_52 rfl ?_
  have hPc : va_P D mCl [(af, .inr (0, [.null, .null]))] H := fun k9 q9 h9 => by
    cases k9 with
    | zero => cases h9; exact hP 5 _ rfl
    | succ k9 => simp at h9
  have hDc : va_D (fun _ => True) [(af, .inr (0, [.null, .null]))] := ⟨fun i j p9 q9 h1 h2 _ => by have := (List.getElem?_eq_some_iff.mp h1).1; have := (List.getElem?_eq_some_iff.mp h2).1; simp at *; omega, fun _ _ _ => trivial⟩
  have hKc := hK.sub (tys' := []) [] rfl
  have hFc : ∀ q9, va_A [(af, .inr (0, [.null, .null]))] H.size q9 → A q9 := va_free hD hS hA [5] rfl
  refine va_callv (va_runIN (As := []) (rest := [.ref af, .ref h0]) ⟨hx, hb, hml, hown, hts⟩ (c_X0_init l D af H.size) ⟨va_cnB 0 hts (mWs_good (mTB_mem 252 (by decide +kernel) rfl)) rfl rfl rfl (hNs2 _ (List.mem_of_getElem? (i := 3) rfl)) (hts (.initialized RX0) (mTB_mem 62 (by decide +kernel) rfl)) (by decide +kernel) ⟨Nat.le_of_ble_eq_true rfl, Nat.le_of_ble_eq_true rfl⟩, rfl, (hts (.instanceMethod yX0_init) (mTB_mem 251 (by decide +kernel) rfl))⟩ ⟨fun a U g mk q => by obtain ⟨q0, q1, qP, qK, qD⟩ := q; exact ⟨q0, q1, qP, va_K.moved (u := U) (U := U.calling g mk a) (Vm.Alike.refl U.vm) qK, qD⟩, fun U hU hW => ⟨rfl, by rw [hU], by rw [hU]; exact hPc, va_K.moved hW.alike hKc, hDc⟩⟩ rfl rfl hl.1 rfl (lv_room (Nat.le_of_ble_eq_true rfl)) dX6_init_53 ⟨Nat.le_of_ble_eq_true rfl, Nat.le_of_ble_eq_true rfl⟩) hS (fun q _ h => hFc q h) hFc (fun u t H1 locs ht hvm hw hB hz1 hk1 hS => ?_)
  obtain ⟨uq, uk⟩ := u
  obtain ⟨hP1, hK1, hD1⟩ := hB
  try dsimp only at hP1 hK1 hD1
  rw [ht] at hP1
  have hK1 := va_K.moved hvm.symm hK1
  generalize uq 0 = row at hP1 hD1
  generalize uk 0 = ka0 at hP1 hD1 hK1
  generalize uq 1 = hop at hP1 hD1
  generalize uk 1 = ka1 at hP1 hD1 hK1
  obtain ⟨hP, hD⟩ := va_joinI (w1 := [(af, .inr (0, [.ref row, .ref hop])), (row, .inl (ka0, 12, .inl (fun _ => 0))), (hop, .inl (ka1, 12, .inl (fun _ => 0)))]) hP hD 5 rfl hk1 hFc hP1 hD1
  generalize H1 = H at hP hS ⊢
  have hP : va_P D mCl (([(h0, .inr (6, [.ref (n 0), .ref o, .ref pl, .ref pk, .null, .null])), (o, .inr (3, [.int 0, .int 0])), (pl, .inr (5, [.int 0, .int 0, .int 0, .int 0, .int 0, .int 0, .int 0, .int 0, .int 0, .int 0, .int 0, .int 0, .int 0, .int 0])), (pk, .inr (4, [.int 0, .int 0, .int 0, .int 0, .int 0, .int 0, .int 0, .ref st])), (st, .inl (ks, 41, .inl (fun _ => 0)))] ++ (mW n kn mLayN τ)) ++ [(af, .inr (0, [.ref row, .ref hop])), (row, .inl (ka0, 12, .inl (fun _ => 0))), (hop, .inl (ka1, 12, .inl (fun _ => 0)))]) H := hP
  have hD : va_D A (([(h0, .inr (6, [.ref (n 0), .ref o, .ref pl, .ref pk, .null, .null])), (o, .inr (3, [.int 0, .int 0])), (pl, .inr (5, [.int 0, .int 0, .int 0, .int 0, .int 0, .int 0, .int 0, .int 0, .int 0, .int 0, .int 0, .int 0, .int 0, .int 0])), (pk, .inr (4, [.int 0, .int 0, .int 0, .int 0, .int 0, .int 0, .int 0, .ref st])), (st, .inl (ks, 41, .inl (fun _ => 0)))] ++ (mW n kn mLayN τ)) ++ [(af, .inr (0, [.ref row, .ref hop])), (row, .inl (ka0, 12, .inl (fun _ => 0))), (hop, .inl (ka1, 12, .inl (fun _ => 0)))]) := hD
  have hP : va_P D mCl (([(h0, .inr (6, [.ref (n 0), .ref o, .ref pl, .ref pk, .null, .null])), (o, .inr (3, [.int 0, .int 0])), (pl, .inr (5, [.int 0, .int 0, .int 0, .int 0, .int 0, .int 0, .int 0, .int 0, .int 0, .int 0, .int 0, .int 0, .int 0, .int 0])), (pk, .inr (4, [.int 0, .int 0, .int 0, .int 0, .int 0, .int 0, .int 0, .ref st])), (st, .inl (ks, 41, .inl (fun _ => 0)))] ++ [(af, .inr (0, [.ref row, .ref hop])), (row, .inl (ka0, 12, .inl (fun _ => 0))), (hop, .inl (ka1, 12, .inl (fun _ => 0)))]) ++ (mW n kn mLayN τ)) H := va_P_perm hP sw_perm
  have hD : va_D A (([(h0, .inr (6, [.ref (n 0), .ref o, .ref pl, .ref pk, .null, .null])), (o, .inr (3, [.int 0, .int 0])), (pl, .inr (5, [.int 0, .int 0, .int 0, .int 0, .int 0, .int 0, .int 0, .int 0, .int 0, .int 0, .int 0, .int 0, .int 0, .int 0])), (pk, .inr (4, [.int 0, .int 0, .int 0, .int 0, .int 0, .int 0, .int 0, .ref st])), (st, .inl (ks, 41, .inl (fun _ => 0)))] ++ [(af, .inr (0, [.ref row, .ref hop])), (row, .inl (ka0, 12, .inl (fun _ => 0))), (hop, .inl (ka1, 12, .inl (fun _ => 0)))]) ++ (mW n kn mLayN τ)) := va_D_perm hD sw_perm
  have hP : va_P D mCl ([(h0, .inr (6, [.ref (n 0), .ref o, .ref pl, .ref pk, .null, .null])), (o, .inr (3, [.int 0, .int 0])), (pl, .inr (5, [.int 0, .int 0, .int 0, .int 0, .int 0, .int 0, .int 0, .int 0, .int 0, .int 0, .int 0, .int 0, .int 0, .int 0])), (pk, .inr (4, [.int 0, .int 0, .int 0, .int 0, .int 0, .int 0, .int 0, .ref st])), (st, .inl (ks, 41, .inl (fun _ => 0))), (af, .inr (0, [.ref row, .ref hop])), (row, .inl (ka0, 12, .inl (fun _ => 0))), (hop, .inl (ka1, 12, .inl (fun _ => 0)))] ++ (mW n kn mLayN τ)) H := hP
  have hD : va_D A ([(h0, .inr (6, [.ref (n 0), .ref o, .ref pl, .ref pk, .null, .null])), (o, .inr (3, [.int 0, .int 0])), (pl, .inr (5, [.int 0, .int 0, .int 0, .int 0, .int 0, .int 0, .int 0, .int 0, .int 0, .int 0, .int 0, .int 0, .int 0, .int 0])), (pk, .inr (4, [.int 0, .int 0, .int 0, .int 0, .int 0, .int 0, .int 0, .ref st])), (st, .inl (ks, 41, .inl (fun _ => 0))), (af, .inr (0, [.ref row, .ref hop])), (row, .inl (ka0, 12, .inl (fun _ => 0))), (hop, .inl (ka1, 12, .inl (fun _ => 0)))] ++ (mW n kn mLayN τ)) := hD
  have hK := hK.app hK1
  refine W.widen (k := 51) (n := 665) (Nat.le_of_ble_eq_true rfl) (Nat.le_of_ble_eq_true rfl) ?_
  refine va_putF (D := D) (ci := 6) (v := .ref af) (ty := .object "RerouteHouse$Aftermath") (C := RX6) (T := TX6) (N := 6) hx hb hts mcl_X6.1 tyX6 tyX6_ok nmX6 hown hK hP hD hS 0 rfl rfl 4 (by decide) (hts (.fieldLink RX6 40 "RerouteHouse" "aftermath" "LRerouteHouse$Aftermath;") (mTB_mem 281 (by decide +kernel) rfl)) (fun _ h9 => h9) rfl hin rfl (by decide +kernel) rfl rfl (Nat.le_of_ble_eq_true rfl) dX6_init_56 (fun H locs hP hD hS => ?_)
  have hP : va_P D mCl ([(h0, .inr (6, [.ref (n 0), .ref o, .ref pl, .ref pk, .ref af, .null])), (o, .inr (3, [.int 0, .int 0])), (pl, .inr (5, [.int 0, .int 0, .int 0, .int 0, .int 0, .int 0, .int 0, .int 0, .int 0, .int 0, .int 0, .int 0, .int 0, .int 0])), (pk, .inr (4, [.int 0, .int 0, .int 0, .int 0, .int 0, .int 0, .int 0, .ref st])), (st, .inl (ks, 41, .inl (fun _ => 0))), (af, .inr (0, [.ref row, .ref hop])), (row, .inl (ka0, 12, .inl (fun _ => 0))), (hop, .inl (ka1, 12, .inl (fun _ => 0)))] ++ (mW n kn mLayN τ)) H := hP
  have hD : va_D A ([(h0, .inr (6, [.ref (n 0), .ref o, .ref pl, .ref pk, .ref af, .null])), (o, .inr (3, [.int 0, .int 0])), (pl, .inr (5, [.int 0, .int 0, .int 0, .int 0, .int 0, .int 0, .int 0, .int 0, .int 0, .int 0, .int 0, .int 0, .int 0, .int 0])), (pk, .inr (4, [.int 0, .int 0, .int 0, .int 0, .int 0, .int 0, .int 0, .ref st])), (st, .inl (ks, 41, .inl (fun _ => 0))), (af, .inr (0, [.ref row, .ref hop])), (row, .inl (ka0, 12, .inl (fun _ => 0))), (hop, .inl (ka1, 12, .inl (fun _ => 0)))] ++ (mW n kn mLayN τ)) := hD
  refine lv_aload_n hx hb dX6_init_59 rfl (lv_at hl 0 rfl) ?_
  refine va_new (ci := 1) (fs := [.null, .null, .null]) (C := RX1) (T := TX1) (N := 3) hx hb hts mcl_X1.1 tyX1 tyX1_ok hown (hts (.classLink RX6 44 RX1) (mTB_mem 261 (by decide +kernel) rfl)) (hts (.instantiable RX1 3) (mTB_mem 262 (by decide +kernel) rfl)) (hts (.initialized RX1) (mTB_mem 63 (by decide +kernel) rfl)) hK hP hD hS hA rfl (fun j hj => by rcases (show j = 0 ∨ j = 1 ∨ j = 2 by omega) with rfl | rfl | rfl <;> rfl) (Nat.le_of_ble_eq_true rfl) (Nat.le_of_ble_eq_true rfl) dX6_init_60 (fun fl H hP hD hS => ?_)
  have hP : va_P D mCl ([(h0, .inr (6, [.ref (n 0), .ref o, .ref pl, .ref pk, .ref af, .null])), (o, .inr (3, [.int 0, .int 0])), (pl, .inr (5, [.int 0, .int 0, .int 0, .int 0, .int 0, .int 0, .int 0, .int 0, .int 0, .int 0, .int 0, .int 0, .int 0, .int 0])), (pk, .inr (4, [.int 0, .int 0, .int 0, .int 0, .int 0, .int 0, .int 0, .ref st])), (st, .inl (ks, 41, .inl (fun _ => 0))), (af, .inr (0, [.ref row, .ref hop])), (row, .inl (ka0, 12, .inl (fun _ => 0))), (hop, .inl (ka1, 12, .inl (fun _ => 0)))] ++ [(fl, .inr (1, [.null, .null, .null]))] ++ (mW n kn mLayN τ)) H := va_P_perm hP sw_perm
  have hD : va_D A ([(h0, .inr (6, [.ref (n 0), .ref o, .ref pl, .ref pk, .ref af, .null])), (o, .inr (3, [.int 0, .int 0])), (pl, .inr (5, [.int 0, .int 0, .int 0, .int 0, .int 0, .int 0, .int 0, .int 0, .int 0, .int 0, .int 0, .int 0, .int 0, .int 0])), (pk, .inr (4, [.int 0, .int 0, .int 0, .int 0, .int 0, .int 0, .int 0, .ref st])), (st, .inl (ks, 41, .inl (fun _ => 0))), (af, .inr (0, [.ref row, .ref hop])), (row, .inl (ka0, 12, .inl (fun _ => 0))), (hop, .inl (ka1, 12, .inl (fun _ => 0)))] ++ [(fl, .inr (1, [.null, .null, .null]))] ++ (mW n kn mLayN τ)) := va_D_perm hD sw_perm
  have hP : va_P D mCl ([(h0, .inr (6, [.ref (n 0), .ref o, .ref pl, .ref pk, .ref af, .null])), (o, .inr (3, [.int 0, .int 0])), (pl, .inr (5, [.int 0, .int 0, .int 0, .int 0, .int 0, .int 0, .int 0, .int 0, .int 0, .int 0, .int 0, .int 0, .int 0, .int 0])), (pk, .inr (4, [.int 0, .int 0, .int 0, .int 0, .int 0, .int 0, .int 0, .ref st])), (st, .inl (ks, 41, .inl (fun _ => 0))), (af, .inr (0, [.ref row, .ref hop])), (row, .inl (ka0, 12, .inl (fun _ => 0))), (hop, .inl (ka1, 12, .inl (fun _ => 0))), (fl, .inr (1, [.null, .null, .null]))] ++ (mW n kn mLayN τ)) H := hP
  have hD : va_D A ([(h0, .inr (6, [.ref (n 0), .ref o, .ref pl, .ref pk, .ref af, .null])), (o, .inr (3, [.int 0, .int 0])), (pl, .inr (5, [.int 0, .int 0, .int 0, .int 0, .int 0, .int 0, .int 0, .int 0, .int 0, .int 0, .int 0, .int 0, .int 0, .int 0])), (pk, .inr (4, [.int 0, .int 0, .int 0, .int 0, .int 0, .int 0, .int 0, .ref st])), (st, .inl (ks, 41, .inl (fun _ => 0))), (af, .inr (0, [.ref row, .ref hop])), (row, .inl (ka0, 12, .inl (fun _ => 0))), (hop, .inl (ka1, 12, .inl (fun _ => 0))), (fl, .inr (1, [.null, .null, .null]))] ++ (mW n kn mLayN τ)) := hD
  refine W.widen (k := 52) (n := 668) (Nat.le_of_ble_eq_true rfl) (Nat.le_of_ble_eq_true rfl) ?_
  refine lv_dup hx hb dX6_init_63 rfl ?_
  have hPc : va_P D mCl [(fl, .inr (1, [.null, .null, .null]))] H := fun k9 q9 h9 => by
    cases k9 with
    | zero => cases h9; exact hP 8 _ rfl
    | succ k9 => simp at h9
  have hDc : va_D (fun _ => True) [(fl, .inr (1, [.null, .null, .null]))] := ⟨fun i j p9 q9 h1 h2 _ => by have := (List.getElem?_eq_some_iff.mp h1).1; have := (List.getElem?_eq_some_iff.mp h2).1; simp at *; omega, fun _ _ _ => trivial⟩
  have hKc := hK.sub (tys' := []) [] rfl
  have hFc : ∀ q9, va_A [(fl, .inr (1, [.null, .null, .null]))] H.size q9 → A q9 := va_free hD hS hA [8] rfl
  refine va_callv (va_runIN (As := []) (rest := [.ref fl, .ref h0]) ⟨hx, hb, hml, hown, hts⟩ (c_X1_init l D fl H.size) ⟨va_cnB 0 hts (mWs_good (mTB_mem 265 (by decide +kernel) rfl)) rfl rfl rfl (hNs2 _ (List.mem_of_getElem? (i := 4) rfl)) (hts (.initialized RX1) (mTB_mem 63 (by decide +kernel) rfl)) (by decide +kernel) ⟨Nat.le_of_ble_eq_true rfl, Nat.le_of_ble_eq_true rfl⟩, rfl, (hts (.instanceMethod yX1_init) (mTB_mem 264 (by decide +kernel) rfl))⟩ ⟨fun a U g mk q => by obtain ⟨q0, q1, qP, qK, qD⟩ := q; exact ⟨q0, q1, qP, va_K.moved (u := U) (U := U.calling g mk a) (Vm.Alike.refl U.vm) qK, qD⟩, fun U hU hW => ⟨rfl, by rw [hU], by rw [hU]; exact hPc, va_K.moved hW.alike hKc, hDc⟩⟩ rfl rfl hl.1 rfl (lv_room (Nat.le_of_ble_eq_true rfl)) dX6_init_64 ⟨Nat.le_of_ble_eq_true rfl, Nat.le_of_ble_eq_true rfl⟩) hS (fun q _ h => hFc q h) hFc (fun u t H1 locs ht hvm hw hB hz1 hk1 hS => ?_)
  obtain ⟨uq, uk⟩ := u
  obtain ⟨hP1, hK1, hD1⟩ := hB
  try dsimp only at hP1 hK1 hD1
  rw [ht] at hP1
  have hK1 := va_K.moved hvm.symm hK1
  generalize uq 0 = us at hP1 hD1
  generalize uk 0 = kf0 at hP1 hD1 hK1
  generalize uq 1 = cf at hP1 hD1
  generalize uk 1 = kf1 at hP1 hD1 hK1
  generalize uq 2 = qu at hP1 hD1
  generalize uk 2 = kf2 at hP1 hD1 hK1
  obtain ⟨hP, hD⟩ := va_joinI (w1 := [(fl, .inr (1, [.ref us, .ref cf, .ref qu])), (us, .inl (kf0, 24, .inl (fun _ => 0))), (cf, .inl (kf1, 12, .inl (fun _ => 0))), (qu, .inl (kf2, 12, .inl (fun _ => 0)))]) hP hD 8 rfl hk1 hFc hP1 hD1
  generalize H1 = H at hP hS ⊢
  have hP : va_P D mCl (([(h0, .inr (6, [.ref (n 0), .ref o, .ref pl, .ref pk, .ref af, .null])), (o, .inr (3, [.int 0, .int 0])), (pl, .inr (5, [.int 0, .int 0, .int 0, .int 0, .int 0, .int 0, .int 0, .int 0, .int 0, .int 0, .int 0, .int 0, .int 0, .int 0])), (pk, .inr (4, [.int 0, .int 0, .int 0, .int 0, .int 0, .int 0, .int 0, .ref st])), (st, .inl (ks, 41, .inl (fun _ => 0))), (af, .inr (0, [.ref row, .ref hop])), (row, .inl (ka0, 12, .inl (fun _ => 0))), (hop, .inl (ka1, 12, .inl (fun _ => 0)))] ++ (mW n kn mLayN τ)) ++ [(fl, .inr (1, [.ref us, .ref cf, .ref qu])), (us, .inl (kf0, 24, .inl (fun _ => 0))), (cf, .inl (kf1, 12, .inl (fun _ => 0))), (qu, .inl (kf2, 12, .inl (fun _ => 0)))]) H := hP
  have hD : va_D A (([(h0, .inr (6, [.ref (n 0), .ref o, .ref pl, .ref pk, .ref af, .null])), (o, .inr (3, [.int 0, .int 0])), (pl, .inr (5, [.int 0, .int 0, .int 0, .int 0, .int 0, .int 0, .int 0, .int 0, .int 0, .int 0, .int 0, .int 0, .int 0, .int 0])), (pk, .inr (4, [.int 0, .int 0, .int 0, .int 0, .int 0, .int 0, .int 0, .ref st])), (st, .inl (ks, 41, .inl (fun _ => 0))), (af, .inr (0, [.ref row, .ref hop])), (row, .inl (ka0, 12, .inl (fun _ => 0))), (hop, .inl (ka1, 12, .inl (fun _ => 0)))] ++ (mW n kn mLayN τ)) ++ [(fl, .inr (1, [.ref us, .ref cf, .ref qu])), (us, .inl (kf0, 24, .inl (fun _ => 0))), (cf, .inl (kf1, 12, .inl (fun _ => 0))), (qu, .inl (kf2, 12, .inl (fun _ => 0)))]) := hD
  have hP : va_P D mCl (([(h0, .inr (6, [.ref (n 0), .ref o, .ref pl, .ref pk, .ref af, .null])), (o, .inr (3, [.int 0, .int 0])), (pl, .inr (5, [.int 0, .int 0, .int 0, .int 0, .int 0, .int 0, .int 0, .int 0, .int 0, .int 0, .int 0, .int 0, .int 0, .int 0])), (pk, .inr (4, [.int 0, .int 0, .int 0, .int 0, .int 0, .int 0, .int 0, .ref st])), (st, .inl (ks, 41, .inl (fun _ => 0))), (af, .inr (0, [.ref row, .ref hop])), (row, .inl (ka0, 12, .inl (fun _ => 0))), (hop, .inl (ka1, 12, .inl (fun _ => 0)))] ++ [(fl, .inr (1, [.ref us, .ref cf, .ref qu])), (us, .inl (kf0, 24, .inl (fun _ => 0))), (cf, .inl (kf1, 12, .inl (fun _ => 0))), (qu, .inl (kf2, 12, .inl (fun _ => 0)))]) ++ (mW n kn mLayN τ)) H := va_P_perm hP sw_perm
  have hD : va_D A (([(h0, .inr (6, [.ref (n 0), .ref o, .ref pl, .ref pk, .ref af, .null])), (o, .inr (3, [.int 0, .int 0])), (pl, .inr (5, [.int 0, .int 0, .int 0, .int 0, .int 0, .int 0, .int 0, .int 0, .int 0, .int 0, .int 0, .int 0, .int 0, .int 0])), (pk, .inr (4, [.int 0, .int 0, .int 0, .int 0, .int 0, .int 0, .int 0, .ref st])), (st, .inl (ks, 41, .inl (fun _ => 0))), (af, .inr (0, [.ref row, .ref hop])), (row, .inl (ka0, 12, .inl (fun _ => 0))), (hop, .inl (ka1, 12, .inl (fun _ => 0)))] ++ [(fl, .inr (1, [.ref us, .ref cf, .ref qu])), (us, .inl (kf0, 24, .inl (fun _ => 0))), (cf, .inl (kf1, 12, .inl (fun _ => 0))), (qu, .inl (kf2, 12, .inl (fun _ => 0)))]) ++ (mW n kn mLayN τ)) := va_D_perm hD sw_perm
  have hP : va_P D mCl ([(h0, .inr (6, [.ref (n 0), .ref o, .ref pl, .ref pk, .ref af, .null])), (o, .inr (3, [.int 0, .int 0])), (pl, .inr (5, [.int 0, .int 0, .int 0, .int 0, .int 0, .int 0, .int 0, .int 0, .int 0, .int 0, .int 0, .int 0, .int 0, .int 0])), (pk, .inr (4, [.int 0, .int 0, .int 0, .int 0, .int 0, .int 0, .int 0, .ref st])), (st, .inl (ks, 41, .inl (fun _ => 0))), (af, .inr (0, [.ref row, .ref hop])), (row, .inl (ka0, 12, .inl (fun _ => 0))), (hop, .inl (ka1, 12, .inl (fun _ => 0))), (fl, .inr (1, [.ref us, .ref cf, .ref qu])), (us, .inl (kf0, 24, .inl (fun _ => 0))), (cf, .inl (kf1, 12, .inl (fun _ => 0))), (qu, .inl (kf2, 12, .inl (fun _ => 0)))] ++ (mW n kn mLayN τ)) H := hP
  have hD : va_D A ([(h0, .inr (6, [.ref (n 0), .ref o, .ref pl, .ref pk, .ref af, .null])), (o, .inr (3, [.int 0, .int 0])), (pl, .inr (5, [.int 0, .int 0, .int 0, .int 0, .int 0, .int 0, .int 0, .int 0, .int 0, .int 0, .int 0, .int 0, .int 0, .int 0])), (pk, .inr (4, [.int 0, .int 0, .int 0, .int 0, .int 0, .int 0, .int 0, .ref st])), (st, .inl (ks, 41, .inl (fun _ => 0))), (af, .inr (0, [.ref row, .ref hop])), (row, .inl (ka0, 12, .inl (fun _ => 0))), (hop, .inl (ka1, 12, .inl (fun _ => 0))), (fl, .inr (1, [.ref us, .ref cf, .ref qu])), (us, .inl (kf0, 24, .inl (fun _ => 0))), (cf, .inl (kf1, 12, .inl (fun _ => 0))), (qu, .inl (kf2, 12, .inl (fun _ => 0)))] ++ (mW n kn mLayN τ)) := hD
  have hK := hK.app hK1
  refine W.widen (k := 55) (n := 716) (Nat.le_of_ble_eq_true rfl) (Nat.le_of_ble_eq_true rfl) ?_
  refine va_putF (D := D) (ci := 6) (v := .ref fl) (ty := .object "RerouteHouse$Flow") (C := RX6) (T := TX6) (N := 6) hx hb hts mcl_X6.1 tyX6 tyX6_ok nmX6 hown hK hP hD hS 0 rfl rfl 5 (by decide) (hts (.fieldLink RX6 47 "RerouteHouse" "flow" "LRerouteHouse$Flow;") (mTB_mem 282 (by decide +kernel) rfl)) (fun _ h9 => h9) rfl hin rfl (by decide +kernel) rfl rfl (Nat.le_of_ble_eq_true rfl) dX6_init_67 (fun H locs hP hD hS => ?_)
  have hP : va_P D mCl ([(h0, .inr (6, [.ref (n 0), .ref o, .ref pl, .ref pk, .ref af, .ref fl])), (o, .inr (3, [.int 0, .int 0])), (pl, .inr (5, [.int 0, .int 0, .int 0, .int 0, .int 0, .int 0, .int 0, .int 0, .int 0, .int 0, .int 0, .int 0, .int 0, .int 0])), (pk, .inr (4, [.int 0, .int 0, .int 0, .int 0, .int 0, .int 0, .int 0, .ref st])), (st, .inl (ks, 41, .inl (fun _ => 0))), (af, .inr (0, [.ref row, .ref hop])), (row, .inl (ka0, 12, .inl (fun _ => 0))), (hop, .inl (ka1, 12, .inl (fun _ => 0))), (fl, .inr (1, [.ref us, .ref cf, .ref qu])), (us, .inl (kf0, 24, .inl (fun _ => 0))), (cf, .inl (kf1, 12, .inl (fun _ => 0))), (qu, .inl (kf2, 12, .inl (fun _ => 0)))] ++ (mW n kn mLayN τ)) H := hP
  have hD : va_D A ([(h0, .inr (6, [.ref (n 0), .ref o, .ref pl, .ref pk, .ref af, .ref fl])), (o, .inr (3, [.int 0, .int 0])), (pl, .inr (5, [.int 0, .int 0, .int 0, .int 0, .int 0, .int 0, .int 0, .int 0, .int 0, .int 0, .int 0, .int 0, .int 0, .int 0])), (pk, .inr (4, [.int 0, .int 0, .int 0, .int 0, .int 0, .int 0, .int 0, .ref st])), (st, .inl (ks, 41, .inl (fun _ => 0))), (af, .inr (0, [.ref row, .ref hop])), (row, .inl (ka0, 12, .inl (fun _ => 0))), (hop, .inl (ka1, 12, .inl (fun _ => 0))), (fl, .inr (1, [.ref us, .ref cf, .ref qu])), (us, .inl (kf0, 24, .inl (fun _ => 0))), (cf, .inl (kf1, 12, .inl (fun _ => 0))), (qu, .inl (kf2, 12, .inl (fun _ => 0)))] ++ (mW n kn mLayN τ)) := hD
  exact W.vret hx hb hr (fun t ht hW => ⟨⟨(adH h0 o pl pk st af row hop fl us cf qu n, caH kn ks ka0 ka1 kf0 kf1 kf2, cH τ), rfl, ⟨rfl, CI_0 hτ⟩, by rw [ht]; exact houseP hP, va_K.moved hW.alike (houseK hK), houseD hD⟩, hS.F ht⟩) hS.2.2 dX6_init_70
end CH2
