/-! the house out of its pieces (printed by wip/whole/gen_ctor3.py) -/
section CH1
theorem va_D_iff {A : Nat → Prop} {ws : va_W} : va_D A ws ↔ (ws.map Prod.fst).Nodup ∧ ∀ q ∈ ws, A q.1 := by
  constructor
  · intro h
    refine ⟨?_, fun q hq => ?_⟩
    · refine List.pairwise_iff_getElem.mpr (fun i j hi hj hij e => ?_)
      rw [List.getElem_map, List.getElem_map] at e
      rw [List.length_map] at hi hj
      have := h.1 i j _ _ (List.getElem?_eq_getElem hi) (List.getElem?_eq_getElem hj) e
      omega
    · obtain ⟨k, hk⟩ := List.getElem?_of_mem hq
      exact h.2 k q hk
  · rintro ⟨h1, h2⟩
    refine ⟨fun i j p q hp hq e => ?_, fun k q hk => h2 q (List.mem_of_getElem? hk)⟩
    have hi : (ws.map Prod.fst)[i]? = some p.1 := by rw [List.getElem?_map, hp]; rfl
    have hj : (ws.map Prod.fst)[j]? = some q.1 := by rw [List.getElem?_map, hq]; rfl
    exact (List.getElem?_inj (List.getElem?_eq_some_iff.mp hi).1 h1).mp (by rw [hi, hj, e])
theorem va_P_perm {D : va_G} {cl : List vw_C} {a b : va_W} {H : Heap} (h : va_P D cl a H) (e : b.Perm a) : va_P D cl b H := va_P_mem.mpr (fun q hq => va_P_mem.mp h q (e.mem_iff.mp hq))
theorem va_D_perm {A : Nat → Prop} {a b : va_W} (h : va_D A a) (e : b.Perm a) : va_D A b := by
  obtain ⟨h1, h2⟩ := va_D_iff.mp h
  exact va_D_iff.mpr ⟨(e.map Prod.fst).nodup_iff.mpr h1, fun q hq => h2 q (e.mem_iff.mp hq)⟩
theorem sw_perm {a b c : va_W} : ((a ++ c) ++ b).Perm ((a ++ b) ++ c) := by
  rw [List.append_assoc, List.append_assoc]
  exact List.Perm.append_left a List.perm_append_comm
theorem va_joinI {A0 : Nat → Prop} {D : va_G} {cl : List vw_C} {ws w1 : va_W} {H H1 : Heap} (hP : va_P D cl ws H) (hD : va_D A0 ws) (i : Nat) {x : Nat × va_E} (hi : ws[i]? = some x) (hk : ∀ q : Nat, q < H.size → ¬ va_A [x] H.size q → H1[q]? = H[q]?) (hF : ∀ q, va_A [x] H.size q → A0 q) (hP1 : va_P D cl w1 H1) (hD1 : va_D (va_A [x] H.size) w1) : va_P D cl (ws.eraseIdx i ++ w1) H1 ∧ va_D A0 (ws.eraseIdx i ++ w1) := by
  have key : ∀ (k : Nat) (q : Nat × va_E), (ws.eraseIdx i)[k]? = some q → ws[if k < i then k else k + 1]? = some q := by
    intro k q hq
    rw [List.getElem?_eraseIdx] at hq
    split at hq <;> rename_i h
    · rw [if_pos h]; exact hq
    · rw [if_neg h]; exact hq
  have out : ∀ (k : Nat) (q : Nat × va_E), (ws.eraseIdx i)[k]? = some q → q.1 < H.size ∧ ¬ va_A [x] H.size q.1 := by
    intro k q hq
    have h1 := key k q hq
    have hlt : q.1 < H.size := (hP _ q h1).lt
    refine ⟨hlt, ?_⟩
    rintro (⟨k9, e9, h9⟩ | h)
    · have h0 : k9 = 0 := by
        have := (List.getElem?_eq_some_iff.mp h9).1
        simp at this
        exact this
      subst h0
      have h9 : x = (q.1, e9) := Option.some.inj h9
      have := hD.1 _ _ _ _ h1 hi (by rw [h9])
      split at this <;> omega
    · omega
  have hP0 : va_P D cl (ws.eraseIdx i) H1 := fun k q hq => (hP _ q (key k q hq)).kept (hk q.1 (out k q hq).1 (out k q hq).2)
  refine ⟨hP0.app hP1, ?_, ?_⟩
  · intro k j p q hp hq e
    by_cases h1 : k < (ws.eraseIdx i).length <;> by_cases h2 : j < (ws.eraseIdx i).length
    · rw [List.getElem?_append_left h1] at hp
      rw [List.getElem?_append_left h2] at hq
      have := hD.1 _ _ _ _ (key k p hp) (key j q hq) e
      split at this <;> split at this <;> omega
    · rw [List.getElem?_append_left h1] at hp
      rw [List.getElem?_append_right (by omega)] at hq
      exact absurd (hD1.2 _ q hq) (by rw [← e]; exact (out k p hp).2)
    · rw [List.getElem?_append_right (by omega)] at hp
      rw [List.getElem?_append_left h2] at hq
      exact absurd (hD1.2 _ p hp) (by rw [e]; exact (out j q hq).2)
    · rw [List.getElem?_append_right (by omega)] at hp hq
      have := hD1.1 _ _ _ _ hp hq e
      omega
  · intro k q hq
    by_cases h1 : k < (ws.eraseIdx i).length
    · rw [List.getElem?_append_left h1] at hq
      exact hD.2 _ q (key k q hq)
    · rw [List.getElem?_append_right (by omega)] at hq
      exact hF _ (hD1.2 _ q hq)
def adH (h0 o pl pk st af row hop fl us cf qu : Nat) (n : Nat → Nat) (k : Nat) : Nat := if k < 20 then [h0, n 0, o, pl, pk, af, fl, n 1, n 2, n 3, n 4, n 5, n 6, n 7, st, row, hop, us, cf, qu].getD k 0 else n (k - 12)
def caH (kn : Nat → ClassId) (ks ka0 ka1 kf0 kf1 kf2 : ClassId) (k : Nat) : ClassId := if k < 20 then [kn 0, kn 0, kn 0, kn 0, kn 0, kn 0, kn 0, kn 1, kn 2, kn 3, kn 4, kn 5, kn 6, kn 7, ks, ka0, ka1, kf0, kf1, kf2].getD k ks else kn (k - 12)
def cH (τ : mS) : mS := fun k => if k = 1 then τ 0 else if k < 7 then (fun _ => 0) else if k < 14 then τ (k - 6) else if k < 20 then (fun _ => 0) else τ (k - 12)
variable {h0 o pl pk st af row hop fl us cf qu : Nat} {n : Nat → Nat} {kn : Nat → ClassId} {ks ka0 ka1 kf0 kf1 kf2 : ClassId} {τ : mS} {D : va_G} {A : Nat → Prop} {H : Heap} {s : State}
theorem adH_20 {i : Nat} : (adH h0 o pl pk st af row hop fl us cf qu n) (20 + i) = n (8 + i) := by unfold adH; rw [if_neg (by omega), show 20 + i - 12 = 8 + i by omega]
theorem caH_20 {i : Nat} : (caH kn ks ka0 ka1 kf0 kf1 kf2) (20 + i) = kn (8 + i) := by unfold caH; rw [if_neg (by omega), show 20 + i - 12 = 8 + i by omega]
theorem cH_20 {i : Nat} : (cH τ) (20 + i) = τ (8 + i) := by unfold cH; rw [if_neg (by omega), if_neg (by omega), if_neg (by omega), if_neg (by omega), show 20 + i - 12 = 8 + i by omega]
def nT (n : Nat → Nat) (kn : Nat → ClassId) (τ : mS) : va_W := (List.replicate 36 (.inr (.inl 12) : mKd)).mapIdx (fun k c => (n (k + 8), mE n kn (τ (k + 8)) (k + 8) c))
theorem netSplit : mW n kn mLayN τ = [(n 0, .inr (2, [.int (τ 0 0), .int (τ 0 1), .ref (n 1), .ref (n 2), .ref (n 3), .ref (n 4), .ref (n 5), .ref (n 6), .ref (n 7), .int (τ 0 9)])), (n 1, .inl (kn 1, 24, .inl (τ 1))), (n 2, .inl (kn 2, 24, .inl (τ 2))), (n 3, .inl (kn 3, 24, .inl (τ 3))), (n 4, .inl (kn 4, 24, .inl (τ 4))), (n 5, .inl (kn 5, 12, .inr (.inr (.inr (.inr (fun i => some (n (8 + i)))))))), (n 6, .inl (kn 6, 12, .inr (.inr (.inr (.inr (fun i => some (n (20 + i)))))))), (n 7, .inl (kn 7, 12, .inr (.inr (.inr (.inr (fun i => some (n (32 + i))))))))] ++ nT n kn τ := mW_app (a := mLayN.take 8) (b := List.replicate 36 (.inr (.inl 12)))
theorem adH_0 : (adH h0 o pl pk st af row hop fl us cf qu n) 0 = h0 := rfl
theorem adH_1 : (adH h0 o pl pk st af row hop fl us cf qu n) 1 = n 0 := rfl
theorem adH_2 : (adH h0 o pl pk st af row hop fl us cf qu n) 2 = o := rfl
theorem adH_3 : (adH h0 o pl pk st af row hop fl us cf qu n) 3 = pl := rfl
theorem adH_4 : (adH h0 o pl pk st af row hop fl us cf qu n) 4 = pk := rfl
theorem adH_5 : (adH h0 o pl pk st af row hop fl us cf qu n) 5 = af := rfl
theorem adH_6 : (adH h0 o pl pk st af row hop fl us cf qu n) 6 = fl := rfl
theorem adH_7 : (adH h0 o pl pk st af row hop fl us cf qu n) 7 = n 1 := rfl
theorem adH_8 : (adH h0 o pl pk st af row hop fl us cf qu n) 8 = n 2 := rfl
theorem adH_9 : (adH h0 o pl pk st af row hop fl us cf qu n) 9 = n 3 := rfl
theorem adH_10 : (adH h0 o pl pk st af row hop fl us cf qu n) 10 = n 4 := rfl
theorem adH_11 : (adH h0 o pl pk st af row hop fl us cf qu n) 11 = n 5 := rfl
theorem adH_12 : (adH h0 o pl pk st af row hop fl us cf qu n) 12 = n 6 := rfl
theorem adH_13 : (adH h0 o pl pk st af row hop fl us cf qu n) 13 = n 7 := rfl
theorem adH_14 : (adH h0 o pl pk st af row hop fl us cf qu n) 14 = st := rfl
theorem adH_15 : (adH h0 o pl pk st af row hop fl us cf qu n) 15 = row := rfl
theorem adH_16 : (adH h0 o pl pk st af row hop fl us cf qu n) 16 = hop := rfl
theorem adH_17 : (adH h0 o pl pk st af row hop fl us cf qu n) 17 = us := rfl
theorem adH_18 : (adH h0 o pl pk st af row hop fl us cf qu n) 18 = cf := rfl
theorem adH_19 : (adH h0 o pl pk st af row hop fl us cf qu n) 19 = qu := rfl
theorem caH_0 : (caH kn ks ka0 ka1 kf0 kf1 kf2) 0 = kn 0 := rfl
theorem caH_1 : (caH kn ks ka0 ka1 kf0 kf1 kf2) 1 = kn 0 := rfl
theorem caH_2 : (caH kn ks ka0 ka1 kf0 kf1 kf2) 2 = kn 0 := rfl
theorem caH_3 : (caH kn ks ka0 ka1 kf0 kf1 kf2) 3 = kn 0 := rfl
theorem caH_4 : (caH kn ks ka0 ka1 kf0 kf1 kf2) 4 = kn 0 := rfl
theorem caH_5 : (caH kn ks ka0 ka1 kf0 kf1 kf2) 5 = kn 0 := rfl
theorem caH_6 : (caH kn ks ka0 ka1 kf0 kf1 kf2) 6 = kn 0 := rfl
theorem caH_7 : (caH kn ks ka0 ka1 kf0 kf1 kf2) 7 = kn 1 := rfl
theorem caH_8 : (caH kn ks ka0 ka1 kf0 kf1 kf2) 8 = kn 2 := rfl
theorem caH_9 : (caH kn ks ka0 ka1 kf0 kf1 kf2) 9 = kn 3 := rfl
theorem caH_10 : (caH kn ks ka0 ka1 kf0 kf1 kf2) 10 = kn 4 := rfl
theorem caH_11 : (caH kn ks ka0 ka1 kf0 kf1 kf2) 11 = kn 5 := rfl
theorem caH_12 : (caH kn ks ka0 ka1 kf0 kf1 kf2) 12 = kn 6 := rfl
theorem caH_13 : (caH kn ks ka0 ka1 kf0 kf1 kf2) 13 = kn 7 := rfl
theorem caH_14 : (caH kn ks ka0 ka1 kf0 kf1 kf2) 14 = ks := rfl
theorem caH_15 : (caH kn ks ka0 ka1 kf0 kf1 kf2) 15 = ka0 := rfl
theorem caH_16 : (caH kn ks ka0 ka1 kf0 kf1 kf2) 16 = ka1 := rfl
theorem caH_17 : (caH kn ks ka0 ka1 kf0 kf1 kf2) 17 = kf0 := rfl
theorem caH_18 : (caH kn ks ka0 ka1 kf0 kf1 kf2) 18 = kf1 := rfl
theorem caH_19 : (caH kn ks ka0 ka1 kf0 kf1 kf2) 19 = kf2 := rfl
theorem cH_0 : (cH τ) 0 = fun _ => 0 := rfl
theorem cH_1 : (cH τ) 1 = τ 0 := rfl
theorem cH_2 : (cH τ) 2 = fun _ => 0 := rfl
theorem cH_3 : (cH τ) 3 = fun _ => 0 := rfl
theorem cH_4 : (cH τ) 4 = fun _ => 0 := rfl
theorem cH_5 : (cH τ) 5 = fun _ => 0 := rfl
theorem cH_6 : (cH τ) 6 = fun _ => 0 := rfl
theorem cH_7 : (cH τ) 7 = τ 1 := rfl
theorem cH_8 : (cH τ) 8 = τ 2 := rfl
theorem cH_9 : (cH τ) 9 = τ 3 := rfl
theorem cH_10 : (cH τ) 10 = τ 4 := rfl
theorem cH_11 : (cH τ) 11 = τ 5 := rfl
theorem cH_12 : (cH τ) 12 = τ 6 := rfl
theorem cH_13 : (cH τ) 13 = τ 7 := rfl
theorem cH_14 : (cH τ) 14 = fun _ => 0 := rfl
theorem cH_15 : (cH τ) 15 = fun _ => 0 := rfl
theorem cH_16 : (cH τ) 16 = fun _ => 0 := rfl
theorem cH_17 : (cH τ) 17 = fun _ => 0 := rfl
theorem cH_18 : (cH τ) 18 = fun _ => 0 := rfl
theorem cH_19 : (cH τ) 19 = fun _ => 0 := rfl
def mFs (ad : Nat → Nat) (f : Nat → Int32) : Nat → List (Option Nat) → List Value
  | _, [] => []
  | j, none :: t => .int (f j) :: mFs ad f (j + 1) t
  | j, some q :: t => .ref (ad q) :: mFs ad f (j + 1) t
theorem mFs_eq {ad : Nat → Nat} {f : Nat → Int32} : ∀ (fs : List (Option Nat)) (j : Nat), fs.mapIdx (fun i g => match g with | some q => Value.ref (ad q) | none => Value.int (f (i + j))) = mFs ad f j fs
  | [], _ => rfl
  | g :: t, j => by
    rw [List.mapIdx_cons]
    have e := mFs_eq (ad := ad) (f := f) t (j + 1)
    have e2 : (fun (i : Nat) (g : Option Nat) => match g with | some q => Value.ref (ad q) | none => Value.int (f (i + 1 + j))) = (fun (i : Nat) (g : Option Nat) => match g with | some q => Value.ref (ad q) | none => Value.int (f (i + (j + 1)))) := by
      funext i g
      rw [show i + 1 + j = i + (j + 1) by omega]
    rw [e2, e]
    cases g with
    | none => rw [Nat.zero_add]; rfl
    | some q => rfl
theorem mE_o {ad : Nat → Nat} {ca : Nat → ClassId} {f : Nat → Int32} {k ci : Nat} {fs : List (Option Nat)} : mE ad ca f k (.inl (ci, fs)) = .inr (ci, mFs ad f 0 fs) := by
  have e := mFs_eq (ad := ad) (f := f) fs 0
  simp only [Nat.add_zero] at e
  rw [← e]
  rfl
theorem mE_i {ad : Nat → Nat} {ca : Nat → ClassId} {f : Nat → Int32} {k n : Nat} : mE ad ca f k (.inr (.inl n)) = .inl (ca k, n, .inl f) := rfl
theorem mE_r {ad : Nat → Nat} {ca : Nat → ClassId} {f : Nat → Int32} {k n b : Nat} : mE ad ca f k (.inr (.inr (b, n))) = .inl (ca k, n, .inr (.inr (.inr (.inr (fun i => some (ad (b + i))))))) := rfl
def mWg (ad : Nat → Nat) (ca : Nat → ClassId) (σ : mS) : Nat → mLay → va_W
  | _, [] => []
  | k, c :: t => (ad k, mE ad ca (σ k) k c) :: mWg ad ca σ (k + 1) t
theorem mWg_eq {ad : Nat → Nat} {ca : Nat → ClassId} {σ : mS} : ∀ (lay : mLay) (j : Nat), lay.mapIdx (fun i c => (ad (i + j), mE ad ca (σ (i + j)) (i + j) c)) = mWg ad ca σ j lay
  | [], _ => rfl
  | c :: t, j => by
    rw [List.mapIdx_cons]
    have e := mWg_eq (ad := ad) (ca := ca) (σ := σ) t (j + 1)
    have e2 : (fun (i : Nat) (c : mKd) => (ad (i + 1 + j), mE ad ca (σ (i + 1 + j)) (i + 1 + j) c)) = (fun (i : Nat) (c : mKd) => (ad (i + (j + 1)), mE ad ca (σ (i + (j + 1))) (i + (j + 1)) c)) := by
      funext i c
      rw [show i + 1 + j = i + (j + 1) by omega]
    rw [e2, e, Nat.zero_add]
    rfl
theorem mW_g {ad : Nat → Nat} {ca : Nat → ClassId} {σ : mS} {lay : mLay} : mW ad ca lay σ = mWg ad ca σ 0 lay := mWg_eq lay 0
def mH20 : mLay := [.inl (6, [some 1, some 2, some 3, some 4, some 5, some 6]), .inl (2, [none, none, some 7, some 8, some 9, some 10, some 11, some 12, some 13, none]), .inl (3, [none, none]), .inl (5, [none, none, none, none, none, none, none, none, none, none, none, none, none, none]), .inl (4, [none, none, none, none, none, none, none, some 14]), .inl (0, [some 15, some 16]), .inl (1, [some 17, some 18, some 19]), .inr (.inl 24), .inr (.inl 24), .inr (.inl 24), .inr (.inl 24), .inr (.inr (20, 12)), .inr (.inr (32, 12)), .inr (.inr (44, 12)), .inr (.inl 41), .inr (.inl 12), .inr (.inl 12), .inr (.inl 24), .inr (.inl 12), .inr (.inl 12)]
theorem mH20_eq : mLayH = mH20 ++ List.replicate 36 (.inr (.inl 12)) := rfl
theorem houseHd0 {ad : Nat → Nat} {ca : Nat → ClassId} {σ : mS} : mW ad ca mH20 σ = [(ad 0, .inr (6, [.ref (ad 1), .ref (ad 2), .ref (ad 3), .ref (ad 4), .ref (ad 5), .ref (ad 6)])), (ad 1, .inr (2, [.int (σ 1 0), .int (σ 1 1), .ref (ad 7), .ref (ad 8), .ref (ad 9), .ref (ad 10), .ref (ad 11), .ref (ad 12), .ref (ad 13), .int (σ 1 9)])), (ad 2, .inr (3, [.int (σ 2 0), .int (σ 2 1)])), (ad 3, .inr (5, [.int (σ 3 0), .int (σ 3 1), .int (σ 3 2), .int (σ 3 3), .int (σ 3 4), .int (σ 3 5), .int (σ 3 6), .int (σ 3 7), .int (σ 3 8), .int (σ 3 9), .int (σ 3 10), .int (σ 3 11), .int (σ 3 12), .int (σ 3 13)])), (ad 4, .inr (4, [.int (σ 4 0), .int (σ 4 1), .int (σ 4 2), .int (σ 4 3), .int (σ 4 4), .int (σ 4 5), .int (σ 4 6), .ref (ad 14)])), (ad 5, .inr (0, [.ref (ad 15), .ref (ad 16)])), (ad 6, .inr (1, [.ref (ad 17), .ref (ad 18), .ref (ad 19)])), (ad 7, .inl (ca 7, 24, .inl (σ 7))), (ad 8, .inl (ca 8, 24, .inl (σ 8))), (ad 9, .inl (ca 9, 24, .inl (σ 9))), (ad 10, .inl (ca 10, 24, .inl (σ 10))), (ad 11, .inl (ca 11, 12, .inr (.inr (.inr (.inr (fun i => some (ad (20 + i)))))))), (ad 12, .inl (ca 12, 12, .inr (.inr (.inr (.inr (fun i => some (ad (32 + i)))))))), (ad 13, .inl (ca 13, 12, .inr (.inr (.inr (.inr (fun i => some (ad (44 + i)))))))), (ad 14, .inl (ca 14, 41, .inl (σ 14))), (ad 15, .inl (ca 15, 12, .inl (σ 15))), (ad 16, .inl (ca 16, 12, .inl (σ 16))), (ad 17, .inl (ca 17, 24, .inl (σ 17))), (ad 18, .inl (ca 18, 12, .inl (σ 18))), (ad 19, .inl (ca 19, 12, .inl (σ 19)))] := by
  rw [mW_g]
  simp only [mH20, mWg, mE_o, mE_i, mE_r, mFs, Nat.reduceAdd]
theorem houseHd : mW (adH h0 o pl pk st af row hop fl us cf qu n) (caH kn ks ka0 ka1 kf0 kf1 kf2) mH20 (cH τ) = [(h0, .inr (6, [.ref (n 0), .ref o, .ref pl, .ref pk, .ref af, .ref fl])), (n 0, .inr (2, [.int (τ 0 0), .int (τ 0 1), .ref (n 1), .ref (n 2), .ref (n 3), .ref (n 4), .ref (n 5), .ref (n 6), .ref (n 7), .int (τ 0 9)])), (o, .inr (3, [.int 0, .int 0])), (pl, .inr (5, [.int 0, .int 0, .int 0, .int 0, .int 0, .int 0, .int 0, .int 0, .int 0, .int 0, .int 0, .int 0, .int 0, .int 0])), (pk, .inr (4, [.int 0, .int 0, .int 0, .int 0, .int 0, .int 0, .int 0, .ref st])), (af, .inr (0, [.ref row, .ref hop])), (fl, .inr (1, [.ref us, .ref cf, .ref qu])), (n 1, .inl (kn 1, 24, .inl (τ 1))), (n 2, .inl (kn 2, 24, .inl (τ 2))), (n 3, .inl (kn 3, 24, .inl (τ 3))), (n 4, .inl (kn 4, 24, .inl (τ 4))), (n 5, .inl (kn 5, 12, .inr (.inr (.inr (.inr (fun i => some ((adH h0 o pl pk st af row hop fl us cf qu n) (20 + i)))))))), (n 6, .inl (kn 6, 12, .inr (.inr (.inr (.inr (fun i => some ((adH h0 o pl pk st af row hop fl us cf qu n) (32 + i)))))))), (n 7, .inl (kn 7, 12, .inr (.inr (.inr (.inr (fun i => some ((adH h0 o pl pk st af row hop fl us cf qu n) (44 + i)))))))), (st, .inl (ks, 41, .inl (fun _ => 0))), (row, .inl (ka0, 12, .inl (fun _ => 0))), (hop, .inl (ka1, 12, .inl (fun _ => 0))), (us, .inl (kf0, 24, .inl (fun _ => 0))), (cf, .inl (kf1, 12, .inl (fun _ => 0))), (qu, .inl (kf2, 12, .inl (fun _ => 0)))] := by
  rw [houseHd0]
  simp only [adH_0, adH_1, adH_2, adH_3, adH_4, adH_5, adH_6, adH_7, adH_8, adH_9, adH_10, adH_11, adH_12, adH_13, adH_14, adH_15, adH_16, adH_17, adH_18, adH_19, caH_7, caH_8, caH_9, caH_10, caH_11, caH_12, caH_13, caH_14, caH_15, caH_16, caH_17, caH_18, caH_19, cH_0, cH_1, cH_2, cH_3, cH_4, cH_5, cH_6, cH_7, cH_8, cH_9, cH_10, cH_11, cH_12, cH_13, cH_14, cH_15, cH_16, cH_17, cH_18, cH_19]
theorem houseT : (List.replicate 36 (.inr (.inl 12) : mKd)).mapIdx (fun k c => ((adH h0 o pl pk st af row hop fl us cf qu n) (k + 20), mE (adH h0 o pl pk st af row hop fl us cf qu n) (caH kn ks ka0 ka1 kf0 kf1 kf2) ((cH τ) (k + 20)) (k + 20) c)) = nT n kn τ := by
  unfold nT
  apply List.ext_getElem?
  intro i
  rw [List.getElem?_mapIdx, List.getElem?_mapIdx, List.getElem?_replicate]
  by_cases h : i < 36
  · rw [if_pos h, Nat.add_comm i 20, Nat.add_comm i 8]
    show some ((adH h0 o pl pk st af row hop fl us cf qu n) (20 + i), (Sum.inl ((caH kn ks ka0 ka1 kf0 kf1 kf2) (20 + i), 12, .inl ((cH τ) (20 + i))) : va_E)) = some (n (8 + i), Sum.inl (kn (8 + i), 12, .inl (τ (8 + i))))
    rw [adH_20, caH_20, cH_20]
  · rw [if_neg h]
    rfl
theorem houseW : mW (adH h0 o pl pk st af row hop fl us cf qu n) (caH kn ks ka0 ka1 kf0 kf1 kf2) mLayH (cH τ) = [(h0, .inr (6, [.ref (n 0), .ref o, .ref pl, .ref pk, .ref af, .ref fl])), (n 0, .inr (2, [.int (τ 0 0), .int (τ 0 1), .ref (n 1), .ref (n 2), .ref (n 3), .ref (n 4), .ref (n 5), .ref (n 6), .ref (n 7), .int (τ 0 9)])), (o, .inr (3, [.int 0, .int 0])), (pl, .inr (5, [.int 0, .int 0, .int 0, .int 0, .int 0, .int 0, .int 0, .int 0, .int 0, .int 0, .int 0, .int 0, .int 0, .int 0])), (pk, .inr (4, [.int 0, .int 0, .int 0, .int 0, .int 0, .int 0, .int 0, .ref st])), (af, .inr (0, [.ref row, .ref hop])), (fl, .inr (1, [.ref us, .ref cf, .ref qu])), (n 1, .inl (kn 1, 24, .inl (τ 1))), (n 2, .inl (kn 2, 24, .inl (τ 2))), (n 3, .inl (kn 3, 24, .inl (τ 3))), (n 4, .inl (kn 4, 24, .inl (τ 4))), (n 5, .inl (kn 5, 12, .inr (.inr (.inr (.inr (fun i => some (n (8 + i)))))))), (n 6, .inl (kn 6, 12, .inr (.inr (.inr (.inr (fun i => some (n (20 + i)))))))), (n 7, .inl (kn 7, 12, .inr (.inr (.inr (.inr (fun i => some (n (32 + i)))))))), (st, .inl (ks, 41, .inl (fun _ => 0))), (row, .inl (ka0, 12, .inl (fun _ => 0))), (hop, .inl (ka1, 12, .inl (fun _ => 0))), (us, .inl (kf0, 24, .inl (fun _ => 0))), (cf, .inl (kf1, 12, .inl (fun _ => 0))), (qu, .inl (kf2, 12, .inl (fun _ => 0)))] ++ nT n kn τ := by
  rw [← houseT (h0 := h0) (o := o) (pl := pl) (pk := pk) (st := st) (af := af) (row := row) (hop := hop) (fl := fl) (us := us) (cf := cf) (qu := qu) (ks := ks) (ka0 := ka0) (ka1 := ka1) (kf0 := kf0) (kf1 := kf1) (kf2 := kf2)]
  rw [← (show (fun i => some ((adH h0 o pl pk st af row hop fl us cf qu n) (20 + i))) = (fun i => some (n (8 + i))) from funext (fun i => by rw [adH_20])), ← (show (fun i => some ((adH h0 o pl pk st af row hop fl us cf qu n) (32 + i))) = (fun i => some (n (20 + i))) from funext (fun i => by rw [show 32 + i = 20 + (12 + i) by omega, adH_20, show 8 + (12 + i) = 20 + i by omega])), ← (show (fun i => some ((adH h0 o pl pk st af row hop fl us cf qu n) (44 + i))) = (fun i => some (n (32 + i))) from funext (fun i => by rw [show 44 + i = 20 + (24 + i) by omega, adH_20, show 8 + (24 + i) = 32 + i by omega])), ← houseHd]
  rw [mH20_eq]
  exact mW_app (a := mH20) (b := List.replicate 36 (.inr (.inl 12)))
theorem houseP (hP : va_P D mCl ([(h0, .inr (6, [.ref (n 0), .ref o, .ref pl, .ref pk, .ref af, .ref fl])), (o, .inr (3, [.int 0, .int 0])), (pl, .inr (5, [.int 0, .int 0, .int 0, .int 0, .int 0, .int 0, .int 0, .int 0, .int 0, .int 0, .int 0, .int 0, .int 0, .int 0])), (pk, .inr (4, [.int 0, .int 0, .int 0, .int 0, .int 0, .int 0, .int 0, .ref st])), (st, .inl (ks, 41, .inl (fun _ => 0))), (af, .inr (0, [.ref row, .ref hop])), (row, .inl (ka0, 12, .inl (fun _ => 0))), (hop, .inl (ka1, 12, .inl (fun _ => 0))), (fl, .inr (1, [.ref us, .ref cf, .ref qu])), (us, .inl (kf0, 24, .inl (fun _ => 0))), (cf, .inl (kf1, 12, .inl (fun _ => 0))), (qu, .inl (kf2, 12, .inl (fun _ => 0)))] ++ mW n kn mLayN τ) H) : va_P D mCl (mW (adH h0 o pl pk st af row hop fl us cf qu n) (caH kn ks ka0 ka1 kf0 kf1 kf2) mLayH (cH τ)) H := by
  rw [netSplit] at hP
  rw [houseW]
  obtain ⟨e0, hP⟩ := va_P_cons.mp hP
  obtain ⟨e1, hP⟩ := va_P_cons.mp hP
  obtain ⟨e2, hP⟩ := va_P_cons.mp hP
  obtain ⟨e3, hP⟩ := va_P_cons.mp hP
  obtain ⟨e4, hP⟩ := va_P_cons.mp hP
  obtain ⟨e5, hP⟩ := va_P_cons.mp hP
  obtain ⟨e6, hP⟩ := va_P_cons.mp hP
  obtain ⟨e7, hP⟩ := va_P_cons.mp hP
  obtain ⟨e8, hP⟩ := va_P_cons.mp hP
  obtain ⟨e9, hP⟩ := va_P_cons.mp hP
  obtain ⟨e10, hP⟩ := va_P_cons.mp hP
  obtain ⟨e11, hP⟩ := va_P_cons.mp hP
  obtain ⟨n0, hP⟩ := va_P_cons.mp hP
  obtain ⟨n1, hP⟩ := va_P_cons.mp hP
  obtain ⟨n2, hP⟩ := va_P_cons.mp hP
  obtain ⟨n3, hP⟩ := va_P_cons.mp hP
  obtain ⟨n4, hP⟩ := va_P_cons.mp hP
  obtain ⟨n5, hP⟩ := va_P_cons.mp hP
  obtain ⟨n6, hP⟩ := va_P_cons.mp hP
  obtain ⟨n7, hP⟩ := va_P_cons.mp hP
  exact va_P_cons.mpr ⟨e0, va_P_cons.mpr ⟨n0, va_P_cons.mpr ⟨e1, va_P_cons.mpr ⟨e2, va_P_cons.mpr ⟨e3, va_P_cons.mpr ⟨e5, va_P_cons.mpr ⟨e8, va_P_cons.mpr ⟨n1, va_P_cons.mpr ⟨n2, va_P_cons.mpr ⟨n3, va_P_cons.mpr ⟨n4, va_P_cons.mpr ⟨n5, va_P_cons.mpr ⟨n6, va_P_cons.mpr ⟨n7, va_P_cons.mpr ⟨e4, va_P_cons.mpr ⟨e6, va_P_cons.mpr ⟨e7, va_P_cons.mpr ⟨e9, va_P_cons.mpr ⟨e10, va_P_cons.mpr ⟨e11, hP⟩⟩⟩⟩⟩⟩⟩⟩⟩⟩⟩⟩⟩⟩⟩⟩⟩⟩⟩⟩
def hpos (k : Nat) : Nat := if k < 20 then [0, 12, 1, 2, 3, 5, 8, 13, 14, 15, 16, 17, 18, 19, 4, 6, 7, 9, 10, 11].getD k 0 else k
theorem hpos_inj : ∀ i j, hpos i = hpos j → i = j := by
  have h1 : ∀ i, i < 20 → ∀ j, j < 20 → hpos i = hpos j → i = j := by decide
  have h2 : ∀ i, i < 20 → hpos i < 20 := by decide
  have h3 : ∀ i, 20 ≤ i → hpos i = i := fun i h => by unfold hpos; rw [if_neg (by omega)]
  intro i j e
  by_cases hi : i < 20 <;> by_cases hj : j < 20
  · exact h1 i hi j hj e
  · rw [h3 j (by omega)] at e; have := h2 i hi; omega
  · rw [h3 i (by omega)] at e; have := h2 j hj; omega
  · rw [h3 i (by omega), h3 j (by omega)] at e; exact e
theorem nT_get {i : Nat} (h : i < 36) : ∃ x, (nT n kn τ)[i]? = some (n (8 + i), x) := by
  unfold nT
  rw [List.getElem?_mapIdx, List.getElem?_replicate, if_pos h, Nat.add_comm i 8]
  exact ⟨_, rfl⟩
theorem app_at {a b : va_W} (h : a.length = 20) (g : Nat) : (a ++ b)[20 + g]? = b[g]? := by
  rw [List.getElem?_append_right (by omega), h, Nat.add_sub_cancel_left]
theorem hpos_at : ∀ k, k < 56 → ∃ x, ([(h0, .inr (6, [.ref (n 0), .ref o, .ref pl, .ref pk, .ref af, .ref fl])), (o, .inr (3, [.int 0, .int 0])), (pl, .inr (5, [.int 0, .int 0, .int 0, .int 0, .int 0, .int 0, .int 0, .int 0, .int 0, .int 0, .int 0, .int 0, .int 0, .int 0])), (pk, .inr (4, [.int 0, .int 0, .int 0, .int 0, .int 0, .int 0, .int 0, .ref st])), (st, .inl (ks, 41, .inl (fun _ => 0))), (af, .inr (0, [.ref row, .ref hop])), (row, .inl (ka0, 12, .inl (fun _ => 0))), (hop, .inl (ka1, 12, .inl (fun _ => 0))), (fl, .inr (1, [.ref us, .ref cf, .ref qu])), (us, .inl (kf0, 24, .inl (fun _ => 0))), (cf, .inl (kf1, 12, .inl (fun _ => 0))), (qu, .inl (kf2, 12, .inl (fun _ => 0)))] ++ mW n kn mLayN τ)[hpos k]? = some ((adH h0 o pl pk st af row hop fl us cf qu n) k, x) := by
  rw [netSplit]
  intro k hk
  by_cases h : k < 20
  · rcases (show k = 0 ∨ k = 1 ∨ k = 2 ∨ k = 3 ∨ k = 4 ∨ k = 5 ∨ k = 6 ∨ k = 7 ∨ k = 8 ∨ k = 9 ∨ k = 10 ∨ k = 11 ∨ k = 12 ∨ k = 13 ∨ k = 14 ∨ k = 15 ∨ k = 16 ∨ k = 17 ∨ k = 18 ∨ k = 19 by omega) with rfl | rfl | rfl | rfl | rfl | rfl | rfl | rfl | rfl | rfl | rfl | rfl | rfl | rfl | rfl | rfl | rfl | rfl | rfl | rfl <;> exact ⟨_, rfl⟩
  · obtain ⟨g, rfl⟩ : ∃ g, k = 20 + g := ⟨k - 20, by omega⟩
    rw [adH_20, show hpos (20 + g) = 20 + g by unfold hpos; rw [if_neg (by omega)]]
    obtain ⟨x, hx⟩ := nT_get (n := n) (kn := kn) (τ := τ) (i := g) (by omega)
    refine ⟨x, ?_⟩
    rw [← List.append_assoc]
    exact (app_at rfl g).trans hx
theorem houseD (hD : va_D A ([(h0, .inr (6, [.ref (n 0), .ref o, .ref pl, .ref pk, .ref af, .ref fl])), (o, .inr (3, [.int 0, .int 0])), (pl, .inr (5, [.int 0, .int 0, .int 0, .int 0, .int 0, .int 0, .int 0, .int 0, .int 0, .int 0, .int 0, .int 0, .int 0, .int 0])), (pk, .inr (4, [.int 0, .int 0, .int 0, .int 0, .int 0, .int 0, .int 0, .ref st])), (st, .inl (ks, 41, .inl (fun _ => 0))), (af, .inr (0, [.ref row, .ref hop])), (row, .inl (ka0, 12, .inl (fun _ => 0))), (hop, .inl (ka1, 12, .inl (fun _ => 0))), (fl, .inr (1, [.ref us, .ref cf, .ref qu])), (us, .inl (kf0, 24, .inl (fun _ => 0))), (cf, .inl (kf1, 12, .inl (fun _ => 0))), (qu, .inl (kf2, 12, .inl (fun _ => 0)))] ++ mW n kn mLayN τ)) : va_D A (mW (adH h0 o pl pk st af row hop fl us cf qu n) (caH kn ks ka0 ka1 kf0 kf1 kf2) mLayH (cH τ)) := by
  refine mW_D (fun i j hi hj e => ?_) (fun k hk => ?_)
  · obtain ⟨x, hx⟩ := hpos_at (h0 := h0) (o := o) (pl := pl) (pk := pk) (st := st) (af := af) (row := row) (hop := hop) (fl := fl) (us := us) (cf := cf) (qu := qu) (n := n) (kn := kn) (ks := ks) (ka0 := ka0) (ka1 := ka1) (kf0 := kf0) (kf1 := kf1) (kf2 := kf2) (τ := τ) i hi
    obtain ⟨y, hy⟩ := hpos_at (h0 := h0) (o := o) (pl := pl) (pk := pk) (st := st) (af := af) (row := row) (hop := hop) (fl := fl) (us := us) (cf := cf) (qu := qu) (n := n) (kn := kn) (ks := ks) (ka0 := ka0) (ka1 := ka1) (kf0 := kf0) (kf1 := kf1) (kf2 := kf2) (τ := τ) j hj
    exact hpos_inj i j (hD.1 _ _ _ _ hx hy e)
  · obtain ⟨x, hx⟩ := hpos_at (h0 := h0) (o := o) (pl := pl) (pk := pk) (st := st) (af := af) (row := row) (hop := hop) (fl := fl) (us := us) (cf := cf) (qu := qu) (n := n) (kn := kn) (ks := ks) (ka0 := ka0) (ka1 := ka1) (kf0 := kf0) (kf1 := kf1) (kf2 := kf2) (τ := τ) k hk
    exact hD.2 _ _ hx
theorem houseK (hK : va_K D mCl (((mT kn mLayN ++ [(ks, FieldType.int)]) ++ [(ka0, FieldType.int), (ka1, FieldType.int)]) ++ [(kf0, FieldType.int), (kf1, FieldType.int), (kf2, FieldType.int)]) s) : va_K D mCl (mT (caH kn ks ka0 ka1 kf0 kf1 kf2) mLayH) s := by
  refine ⟨hK.1, fun k q hk => ?_⟩
  have key : ∀ q ∈ mT (caH kn ks ka0 ka1 kf0 kf1 kf2) mLayH, q ∈ ((mT kn mLayN ++ [(ks, FieldType.int)]) ++ [(ka0, FieldType.int), (ka1, FieldType.int)]) ++ [(kf0, FieldType.int), (kf1, FieldType.int), (kf2, FieldType.int)] := by
    intro q hq
    obtain ⟨x, hx, hx2⟩ := List.mem_filterMap.mp hq
    have hx2 : x = some q := hx2
    subst hx2
    obtain ⟨i, hi⟩ := List.getElem?_of_mem hx
    rw [List.getElem?_mapIdx] at hi
    have net : ∀ (j : Nat) (cc : mKd) (qq : ClassId × FieldType), mLayN[j]? = some cc → mTy kn j cc = some qq → qq ∈ ((mT kn mLayN ++ [(ks, FieldType.int)]) ++ [(ka0, FieldType.int), (ka1, FieldType.int)]) ++ [(kf0, FieldType.int), (kf1, FieldType.int), (kf2, FieldType.int)] := fun j cc qq h1 h2 => by
      obtain ⟨t0, ht⟩ := mT_get h1 h2
      exact List.mem_append_left _ (List.mem_append_left _ (List.mem_append_left _ (List.mem_of_getElem? ht)))
    by_cases h8 : i < 20
    · rcases (show i = 0 ∨ i = 1 ∨ i = 2 ∨ i = 3 ∨ i = 4 ∨ i = 5 ∨ i = 6 ∨ i = 7 ∨ i = 8 ∨ i = 9 ∨ i = 10 ∨ i = 11 ∨ i = 12 ∨ i = 13 ∨ i = 14 ∨ i = 15 ∨ i = 16 ∨ i = 17 ∨ i = 18 ∨ i = 19 by omega) with rfl | rfl | rfl | rfl | rfl | rfl | rfl | rfl | rfl | rfl | rfl | rfl | rfl | rfl | rfl | rfl | rfl | rfl | rfl | rfl
      · cases hi
      · cases hi
      · cases hi
      · cases hi
      · cases hi
      · cases hi
      · cases hi
      · cases hi; exact net 1 _ _ rfl rfl
      · cases hi; exact net 2 _ _ rfl rfl
      · cases hi; exact net 3 _ _ rfl rfl
      · cases hi; exact net 4 _ _ rfl rfl
      · cases hi; exact net 5 _ _ rfl rfl
      · cases hi; exact net 6 _ _ rfl rfl
      · cases hi; exact net 7 _ _ rfl rfl
      · cases hi; simp [caH]
      · cases hi; simp [caH]
      · cases hi; simp [caH]
      · cases hi; simp [caH]
      · cases hi; simp [caH]
      · cases hi; simp [caH]
    · obtain ⟨g, rfl⟩ : ∃ g, i = 20 + g := ⟨i - 20, by omega⟩
      rw [show mLayH[20 + g]? = mLayN[8 + g]? from by rw [mLayN_row8, mLayH_row20]] at hi
      rw [mLayN_row8] at hi
      split at hi
      · rename_i h9
        cases hi
        rw [caH_20]
        exact net (8 + g) (.inr (.inl 12)) _ (by rw [mLayN_row8, if_pos h9]) rfl
      · cases hi
  obtain ⟨j, hj⟩ := List.getElem?_of_mem (key q (List.mem_of_getElem? hk))
  exact hK.2 j q hj
end CH1
