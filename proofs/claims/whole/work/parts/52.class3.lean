/-! the class: hop, ways, what is down; first public methods -/
theorem bf0 : bi false = 0 := rfl
theorem bt1 : ¬ bi true = 0 := by decide
theorem bs1 {x : Nat} : ¬ bi (some x).isSome = 0 := bt1
theorem two_nI {N : Nt} {x y : Nat} (hN : Nok N) (hx : x < nN N) (hy : y < nN N) : two N (nI x) (nI y) = some (x, y) := by
  have h12 := hN.2.1
  unfold two
  rw [ix_nI (by omega) hx, ix_nI (by omega) hy]
theorem two_cs {N : Nt} (hN : Nok N) (a b : Int32) : (two N a b = none ∧ ((ix (nN N) a).isSome = false ∨ (ix (nN N) b).isSome = false)) ∨ ∃ x y, a = nI x ∧ b = nI y ∧ x < nN N ∧ y < nN N := by
  have h12 := hN.2.1
  unfold two
  cases h1 : ix (nN N) a with
  | none => exact Or.inl ⟨rfl, Or.inl rfl⟩
  | some x =>
    cases h2 : ix (nN N) b with
    | none => exact Or.inl ⟨rfl, Or.inr rfl⟩
    | some y =>
      obtain ⟨rfl, hx⟩ := ix_some (by omega) h1
      obtain ⟨rfl, hy⟩ := ix_some (by omega) h2
      exact Or.inr ⟨x, y, rfl, rfl, hx, hy⟩
theorem qNext_nI {N : Nt} {x y : Nat} (hN : Nok N) (hx : x < nN N) (hy : y < nN N) : qNext N (nI x) (nI y) = en (nx N none y x) := by
  unfold qNext
  rw [two_nI hN hx hy]
section CL4
variable {c : mS} {N : Nt} {wt wh : Nat} {Q : Option Int32 → mS → Prop} {a b a1 : Int32}
theorem CS_I (h : CS c N wt wh) : CI c N wt wh := ⟨h.1, Or.inr ⟨h.2.1, h.2.2⟩⟩
theorem CS_far (h : CS c N wt wh) {x y : Nat} (hx : x < nN N) (hy : y < nN N) : c (20 + x) y = nI (fr N x y) := by
  rw [(h.2.2 x y hx hy).1]
  unfold fr
  rw [gd_sym h.1.1 hx hy]
theorem CS_hop (h : CS c N wt wh) {x y : Nat} (hx : x < nN N) (hy : y < nN N) : c (32 + x) y = en (nx N none y x) := (h.2.2 x y hx hy).2
theorem fr_le (hN : Nok N) {x y : Nat} (hx : x < nN N) (hy : y < nN N) : fr N x y ≤ 1000000 := gd_inf hN hy hx
theorem c_has {k : Nat} (hk : k < 32) : WP mLayH 87 0 [some (.int a), some (.int (nI k))] [] c Q ↔ Q (some (bi (bt a k))) c := by
  simp only [w_X6_has_0, w_X6_has_1, w_X6_has_2, w_X6_has_3, w_X6_has_4, w_X6_has_5, w_X6_has_6, w_X6_has_9, w_X6_has_10, w_X6_has_13, w_X6_has_14, true_or, or_true, true_and]
  rw [bt_ask _ hk]
  cases bt a k <;> simp [bi]
theorem c_orNone {k : Nat} (hk : k ≤ INF) : WP mLayH 86 0 [some (.int (nI k))] [] c Q ↔ Q (some (en (fin k))) c := by
  have hi : INF = 1000000 := rfl
  simp only [w_X6_orNone_0, w_X6_orNone_1, w_X6_orNone_3, w_X6_orNone_6, w_X6_orNone_7, w_X6_orNone_10, w_X6_orNone_11]
  rw [show (1000000 : Int32) = nI INF from rfl]
  unfold fin
  by_cases h : k < INF
  · rw [if_pos ((kLt (by omega) (by omega)).mpr h), if_pos h]; exact Iff.rfl
  · rw [if_neg (fun q => h ((kLt (by omega) (by omega)).mp q)), if_neg h]; exact Iff.rfl
theorem c_isCost : WP mLayH 85 0 [some (.int a)] [] c Q ↔ Q (some (bi (okC 1 99 a))) c := by
  simp only [w_X6_isCost_0, w_X6_isCost_1, w_X6_isCost_2, w_X6_isCost_5, w_X6_isCost_6, w_X6_isCost_8, w_X6_isCost_11, w_X6_isCost_12, w_X6_isCost_15, w_X6_isCost_16, true_or, or_true, true_and]
  unfold okC
  by_cases h1 : a < 1
  · rw [if_pos h1, decide_eq_false (fun q => absurd q.1 (Int32.not_le.mpr h1))]; exact Iff.rfl
  · rw [if_neg h1]
    by_cases h2 : 99 < a
    · rw [if_pos h2, decide_eq_false (fun q => absurd q.2 (Int32.not_le.mpr h2))]; exact Iff.rfl
    · rw [if_neg h2, decide_eq_true ⟨Int32.not_lt.mp h1, Int32.not_lt.mp h2⟩]; exact Iff.rfl
theorem C_hop (h : CS c N wt wh) : WP mLayH 27 0 [some (.ref 1), some (.int a), some (.int b)] [] c Q ↔ Q (some (qNext N a b)) c := by
  have hN := h.1.1
  have h12 := hN.2.1
  simp only [w_X2_hop_0, w_X2_hop_1, w_X2_hop_2, w_X2_hop_5, w_X2_hop_8, w_X2_hop_9, w_X2_hop_10, w_X2_hop_13, w_X2_hop_16, w_X2_hop_17, w_X2_hop_20, w_X2_hop_21, w_X2_hop_22, w_X2_hop_23, w_X2_hop_24, w_X2_hop_27, w_X2_hop_28, C_isNode h.1, mKI_some]
  rcases two_cs hN a b with ⟨h1, h2⟩ | ⟨x, y, rfl, rfl, hx, hy⟩
  · unfold qNext
    rw [h1]
    rcases h2 with h2 | h2
    · rw [h2, if_pos bf0]
    · rw [h2]
      cases (ix (nN N) a).isSome <;> simp [bi]
  · rw [qNext_nI hN hx hy, ix_nI (by omega) hx, ix_nI (by omega) hy]
    simp (disch := omega) only [kIn, kCl, CS_hop h hx hy, show x < 12 by omega, show y < 12 by omega, show x < 24 by omega, true_and]
    rw [if_neg bs1, if_neg bs1]
theorem C_hopN (h : CS c N wt wh) {x y : Nat} (hx : x < nN N) (hy : y < nN N) : WP mLayH 27 0 [some (.ref 1), some (.int (nI x)), some (.int (nI y))] [] c Q ↔ Q (some (en (nx N none y x))) c := by
  rw [C_hop h, qNext_nI h.1.1 hx hy]
theorem nodeOfWay_loop (h : CS c N wt wh) {y i : Nat} (hy : y < nN N) (hi : i < nN N) : ∀ (k j : Nat) (o : Option Nat), j + k = i → (∀ x, o = some x → x < nN N) →
    (WP mLayH 28 49 [some (.ref 1), some (.int a), some (.int (nI y)), some (.int (nI i)), some (.int (en o)), some (.int (nI j))] [] c Q ↔ Q (some (en (o.bind (wyK N y k)))) c) := by
  have hN := h.1.1
  have h12 := hN.2.1
  intro k
  induction k with
  | zero =>
    intro j o hj ho
    rw [w_X2_nodeOfWay_49]
    simp only [w_X2_nodeOfWay_0, w_X2_nodeOfWay_1, w_X2_nodeOfWay_4, w_X2_nodeOfWay_5, w_X2_nodeOfWay_6, w_X2_nodeOfWay_9, w_X2_nodeOfWay_12, w_X2_nodeOfWay_13, w_X2_nodeOfWay_14, w_X2_nodeOfWay_17, w_X2_nodeOfWay_20, w_X2_nodeOfWay_21, w_X2_nodeOfWay_22, w_X2_nodeOfWay_25, w_X2_nodeOfWay_28, w_X2_nodeOfWay_29, w_X2_nodeOfWay_32, w_X2_nodeOfWay_33, w_X2_nodeOfWay_34, w_X2_nodeOfWay_35, w_X2_nodeOfWay_36, w_X2_nodeOfWay_38, w_X2_nodeOfWay_41, w_X2_nodeOfWay_42, w_X2_nodeOfWay_43, w_X2_nodeOfWay_44, w_X2_nodeOfWay_46, w_X2_nodeOfWay_47, w_X2_nodeOfWay_51, w_X2_nodeOfWay_52, w_X2_nodeOfWay_55, w_X2_nodeOfWay_57, w_X2_nodeOfWay_58, w_X2_nodeOfWay_61, w_X2_nodeOfWay_62, w_X2_nodeOfWay_64, w_X2_nodeOfWay_65, w_X2_nodeOfWay_68, w_X2_nodeOfWay_70, w_X2_nodeOfWay_73, w_X2_nodeOfWay_76, w_X2_nodeOfWay_78]
    rw [if_pos ((kLe (by omega) (by omega)).mpr (by omega))]
    cases o <;> exact Iff.rfl
  | succ k ih =>
    intro j o hj ho
    rw [w_X2_nodeOfWay_49]
    simp only [w_X2_nodeOfWay_0, w_X2_nodeOfWay_1, w_X2_nodeOfWay_4, w_X2_nodeOfWay_5, w_X2_nodeOfWay_6, w_X2_nodeOfWay_9, w_X2_nodeOfWay_12, w_X2_nodeOfWay_13, w_X2_nodeOfWay_14, w_X2_nodeOfWay_17, w_X2_nodeOfWay_20, w_X2_nodeOfWay_21, w_X2_nodeOfWay_22, w_X2_nodeOfWay_25, w_X2_nodeOfWay_28, w_X2_nodeOfWay_29, w_X2_nodeOfWay_32, w_X2_nodeOfWay_33, w_X2_nodeOfWay_34, w_X2_nodeOfWay_35, w_X2_nodeOfWay_36, w_X2_nodeOfWay_38, w_X2_nodeOfWay_41, w_X2_nodeOfWay_42, w_X2_nodeOfWay_43, w_X2_nodeOfWay_44, w_X2_nodeOfWay_46, w_X2_nodeOfWay_47, w_X2_nodeOfWay_51, w_X2_nodeOfWay_52, w_X2_nodeOfWay_55, w_X2_nodeOfWay_57, w_X2_nodeOfWay_58, w_X2_nodeOfWay_61, w_X2_nodeOfWay_62, w_X2_nodeOfWay_64, w_X2_nodeOfWay_65, w_X2_nodeOfWay_68, w_X2_nodeOfWay_70, w_X2_nodeOfWay_73, w_X2_nodeOfWay_76, w_X2_nodeOfWay_78]
    rw [if_neg (fun q => by rw [kLe (by omega) (by omega)] at q; omega), nI_1]
    cases o with
    | none => rw [en_none, if_pos rfl]; exact Iff.rfl
    | some x =>
      have hx := ho x rfl
      rw [en_some, if_neg (fun q => (kNe (by omega)).mp q), C_hopN h hx hy, mKI_some, ih (j + 1) (nx N none y x) (by omega) (fun u hu => (nx_some hu).1)]
      show _ ↔ Q (some (en (wyK N y (k + 1) x))) c
      unfold wyK
      cases nx N none y x <;> exact Iff.rfl
theorem C_nodeOfWay (h : CS c N wt wh) : WP mLayH 28 0 [some (.ref 1), some (.int a), some (.int b), some (.int a1), none, none] [] c Q ↔ Q (some (en (wayQ N a b a1))) c := by
  have hN := h.1.1
  have h12 := hN.2.1
  have hinf : INF = 1000000 := rfl
  simp only [w_X2_nodeOfWay_0, w_X2_nodeOfWay_1, w_X2_nodeOfWay_4, w_X2_nodeOfWay_5, w_X2_nodeOfWay_6, w_X2_nodeOfWay_9, w_X2_nodeOfWay_12, w_X2_nodeOfWay_13, w_X2_nodeOfWay_14, w_X2_nodeOfWay_17, w_X2_nodeOfWay_20, w_X2_nodeOfWay_21, w_X2_nodeOfWay_22, w_X2_nodeOfWay_25, w_X2_nodeOfWay_28, w_X2_nodeOfWay_29, w_X2_nodeOfWay_32, w_X2_nodeOfWay_33, w_X2_nodeOfWay_34, w_X2_nodeOfWay_35, w_X2_nodeOfWay_36, w_X2_nodeOfWay_38, w_X2_nodeOfWay_41, w_X2_nodeOfWay_42, w_X2_nodeOfWay_43, w_X2_nodeOfWay_44, w_X2_nodeOfWay_46, w_X2_nodeOfWay_47, w_X2_nodeOfWay_51, w_X2_nodeOfWay_52, w_X2_nodeOfWay_55, w_X2_nodeOfWay_57, w_X2_nodeOfWay_58, w_X2_nodeOfWay_61, w_X2_nodeOfWay_62, w_X2_nodeOfWay_64, w_X2_nodeOfWay_65, w_X2_nodeOfWay_68, w_X2_nodeOfWay_70, w_X2_nodeOfWay_73, w_X2_nodeOfWay_76, w_X2_nodeOfWay_78, h.1.2.1]
  rw [t_node]
  cases hi : ix (nN N) a1 with
  | none =>
    have : wayQ N a b a1 = none := by
      unfold wayQ
      rw [hi]
      cases two N a b with
      | none => rfl
      | some p => dsimp only; split <;> rfl
    rw [this, if_neg (by decide)]
    exact Iff.rfl
  | some i =>
    obtain ⟨rfl, hii⟩ := ix_some (by omega) hi
    rw [if_pos (show (some i).isSome = true from rfl)]
    simp only [C_isNode h.1, mKI_some]
    unfold wayQ
    rw [hi]
    rcases two_cs hN a b with ⟨h1, h2⟩ | ⟨x, y, rfl, rfl, hx, hy⟩
    · rw [h1]
      rcases h2 with h2 | h2
      · rw [h2, if_pos (show bi false = 0 from rfl)]; exact Iff.rfl
      · rw [h2]
        cases (ix (nN N) a).isSome <;> simp [bi, en]
    · have hf := fr_le hN hx hy
      rw [two_nI hN hx hy, ix_nI (by omega) hx, ix_nI (by omega) hy]
      simp (disch := omega) only [kIn, kCl, CS_far h hx hy, show x < 12 by omega, show y < 12 by omega, show x < 36 by omega, true_and]
      rw [if_neg bs1, if_neg bs1, show (1000000 : Int32) = nI INF from rfl]
      by_cases hl : fr N x y < INF
      · rw [if_pos ((kLt (by omega) (by omega)).mpr hl), if_pos hl]
        exact nodeOfWay_loop h hy hii i 0 (some x) (by omega) (fun u hu => by cases hu; exact hx)
      · rw [if_neg (fun q => hl ((kLt (by omega) (by omega)).mp q)), if_neg hl]; exact Iff.rfl
theorem farthest_loop (h : CS c N wt wh) {v : Nat} (hv : v < nN N) : ∀ (k x : Nat), x + k = nN N →
    (WP mLayH 26 4 [some (.ref 1), some (.int (nI v)), some (.int (nI (maxN (fun y => fr N v y) x))), some (.int (nI x))] [] c Q ↔ Q (some (nI (maxN (fun y => fr N v y) (nN N)))) c) := by
  have hN := h.1.1
  have h12 := hN.2.1
  intro k
  induction k with
  | zero =>
    intro x hx
    rw [w_X2_farthestFrom_4]
    simp only [w_X2_farthestFrom_0, w_X2_farthestFrom_1, w_X2_farthestFrom_2, w_X2_farthestFrom_3, w_X2_farthestFrom_5, w_X2_farthestFrom_6, w_X2_farthestFrom_9, w_X2_farthestFrom_12, w_X2_farthestFrom_13, w_X2_farthestFrom_14, w_X2_farthestFrom_17, w_X2_farthestFrom_18, w_X2_farthestFrom_19, w_X2_farthestFrom_20, w_X2_farthestFrom_21, w_X2_farthestFrom_24, w_X2_farthestFrom_25, w_X2_farthestFrom_28, w_X2_farthestFrom_31, w_X2_farthestFrom_32, h.1.2.1]
    rw [if_pos ((kLe (by omega) (by omega)).mpr (by omega)), show x = nN N by omega]
  | succ k ih =>
    intro x hx
    have hxx : x < nN N := by omega
    have hm : maxN (fun y => fr N v y) x ≤ 1000000 := maxN_le (fun z hz => fr_le hN hv (by omega))
    have hf := fr_le hN hv hxx
    rw [w_X2_farthestFrom_4]
    simp only [w_X2_farthestFrom_0, w_X2_farthestFrom_1, w_X2_farthestFrom_2, w_X2_farthestFrom_3, w_X2_farthestFrom_5, w_X2_farthestFrom_6, w_X2_farthestFrom_9, w_X2_farthestFrom_12, w_X2_farthestFrom_13, w_X2_farthestFrom_14, w_X2_farthestFrom_17, w_X2_farthestFrom_18, w_X2_farthestFrom_19, w_X2_farthestFrom_20, w_X2_farthestFrom_21, w_X2_farthestFrom_24, w_X2_farthestFrom_25, w_X2_farthestFrom_28, w_X2_farthestFrom_31, w_X2_farthestFrom_32, h.1.2.1]
    rw [if_neg (fun q => by rw [kLe (by omega) (by omega)] at q; omega), nI_1]
    simp (disch := omega) only [kIn, kCl, CS_far h hv hxx, show x < 12 by omega, show v < 12 by omega, show v < 36 by omega, true_and]
    rw [← ih (x + 1) (by omega), show maxN (fun y => fr N v y) (x + 1) = (if maxN (fun y => fr N v y) x < fr N v x then fr N v x else maxN (fun y => fr N v y) x) from rfl]
    by_cases e : maxN (fun y => fr N v y) x < fr N v x
    · rw [if_pos ((kLt (by omega) (by omega)).mpr e), if_pos e]
    · rw [if_neg (fun q => e ((kLt (by omega) (by omega)).mp q)), if_neg e]
theorem C_farthest (h : CS c N wt wh) {v : Nat} (hv : v < nN N) : WP mLayH 26 0 [some (.ref 1), some (.int (nI v)), none, none] [] c Q ↔ Q (some (nI (maxN (fun y => fr N v y) (nN N)))) c := by
  simp only [w_X2_farthestFrom_0, w_X2_farthestFrom_1, w_X2_farthestFrom_2, w_X2_farthestFrom_3, w_X2_farthestFrom_5, w_X2_farthestFrom_6, w_X2_farthestFrom_9, w_X2_farthestFrom_12, w_X2_farthestFrom_13, w_X2_farthestFrom_14, w_X2_farthestFrom_17, w_X2_farthestFrom_18, w_X2_farthestFrom_19, w_X2_farthestFrom_20, w_X2_farthestFrom_21, w_X2_farthestFrom_24, w_X2_farthestFrom_25, w_X2_farthestFrom_28, w_X2_farthestFrom_31, w_X2_farthestFrom_32]
  exact farthest_loop h hv (nN N) 0 (by omega)
theorem sumC_le (hN : Nok N) : ∀ l, l ≤ nM N → sumN (nC N) l ≤ 99 * l
  | 0, _ => Nat.le_refl _
  | l + 1, hl => by
    have := sumC_le hN l (by omega)
    have h2 := (hN.2.2.2.1 l (by omega)).2.2.2.2.1
    unfold sumN
    omega
theorem costs_loop (h : CB c N wt wh) : ∀ (k l : Nat), l + k = nM N →
    (WP mLayH 25 4 [some (.ref 1), some (.int (nI (sumN (nC N) l))), some (.int (nI l))] [] c Q ↔ Q (some (nI (sumN (nC N) (nM N)))) c) := by
  have hN := h.1
  have h24 := hN.2.2.1
  intro k
  induction k with
  | zero =>
    intro l hl
    rw [w_X2_costsTogether_4]
    simp only [w_X2_costsTogether_0, w_X2_costsTogether_1, w_X2_costsTogether_2, w_X2_costsTogether_3, w_X2_costsTogether_5, w_X2_costsTogether_6, w_X2_costsTogether_9, w_X2_costsTogether_12, w_X2_costsTogether_13, w_X2_costsTogether_14, w_X2_costsTogether_17, w_X2_costsTogether_18, w_X2_costsTogether_19, w_X2_costsTogether_20, w_X2_costsTogether_21, w_X2_costsTogether_24, w_X2_costsTogether_27, w_X2_costsTogether_28, h.2.2.1]
    rw [if_pos ((kLe (by omega) (by omega)).mpr (by omega)), show l = nM N by omega]
  | succ k ih =>
    intro l hl
    have hs := sumC_le hN l (by omega)
    have hc := (hN.2.2.2.1 l (by omega)).2.2.2.2.1
    rw [w_X2_costsTogether_4]
    simp only [w_X2_costsTogether_0, w_X2_costsTogether_1, w_X2_costsTogether_2, w_X2_costsTogether_3, w_X2_costsTogether_5, w_X2_costsTogether_6, w_X2_costsTogether_9, w_X2_costsTogether_12, w_X2_costsTogether_13, w_X2_costsTogether_14, w_X2_costsTogether_17, w_X2_costsTogether_18, w_X2_costsTogether_19, w_X2_costsTogether_20, w_X2_costsTogether_21, w_X2_costsTogether_24, w_X2_costsTogether_27, w_X2_costsTogether_28, h.2.2.1]
    rw [if_neg (fun q => by rw [kLe (by omega) (by omega)] at q; omega), nI_1]
    simp (disch := omega) only [kIn, kCl, (h.2.2.2.1 l (by omega)).2.2.1, show l < 24 by omega, true_and, nI_add]
    exact ih (l + 1) (by omega)
theorem C_costs (h : CB c N wt wh) : WP mLayH 25 0 [some (.ref 1), none, none] [] c Q ↔ Q (some (nI (sumN (nC N) (nM N)))) c := by
  simp only [w_X2_costsTogether_0, w_X2_costsTogether_1, w_X2_costsTogether_2, w_X2_costsTogether_3, w_X2_costsTogether_5, w_X2_costsTogether_6, w_X2_costsTogether_9, w_X2_costsTogether_12, w_X2_costsTogether_13, w_X2_costsTogether_14, w_X2_costsTogether_17, w_X2_costsTogether_18, w_X2_costsTogether_19, w_X2_costsTogether_20, w_X2_costsTogether_21, w_X2_costsTogether_24, w_X2_costsTogether_27, w_X2_costsTogether_28]
  exact costs_loop h (nM N) 0 (by omega)
theorem C_takes (h : CB c N wt wh) (hD : Dok N wt wh) {l : Nat} (hl : l < nM N) : WP mLayH 36 0 [some (.ref 2), some (.ref 1), some (.int (nI l))] [] c Q ↔ Q (some (bi (sdn N wt wh l))) c := by
  have hN := h.1
  have h24 := hN.2.2.1
  have h12 := hN.2.1
  obtain ⟨d1, d2, d3, d4, d5, d6⟩ := hD
  obtain ⟨e1, e2, e3, e4⟩ := h.2.2.2.1 l hl
  obtain ⟨g1, g2, g3, g4, g5, g6⟩ := hN.2.2.2.1 l hl
  simp only [w_X3_takes_0, w_X3_takes_1, w_X3_takes_4, w_X3_takes_32, w_X3_takes_33, w_X3_takes_34, w_X3_takes_37, w_X3_takes_40, w_X3_takes_41, w_X3_takes_44, w_X3_takes_45, w_X3_takes_46, w_X3_takes_47, w_X3_takes_50, w_X3_takes_51, w_X3_takes_52, w_X3_takes_53, w_X3_takes_56, w_X3_takes_59, w_X3_takes_60, w_X3_takes_63, w_X3_takes_64, w_X3_takes_65, w_X3_takes_66, w_X3_takes_69, w_X3_takes_72, w_X3_takes_73, w_X3_takes_76, w_X3_takes_77, w_X3_takes_78, w_X3_takes_79, w_X3_takes_82, w_X3_takes_83, w_X3_takes_84, w_X3_takes_85, w_X3_takes_88, w_X3_takes_91, w_X3_takes_92, w_X3_takes_93, true_or, or_true, true_and, h.2.2.2.2.2.1, h.2.2.2.2.2.2]
  simp (disch := omega) only [kq1, kq2, kq3, kIn, kCl, e1, e2, e4, kEq, c_has (show wh < 32 by omega), mKI_some, bi_01, show l < 24 by omega, true_and]
  unfold sdn
  by_cases w1 : wt = 1
  · rw [if_pos w1, if_pos w1]
    by_cases e : l = wh <;> simp [e, bi]
  rw [if_neg w1, if_neg w1]
  by_cases w2 : wt = 2
  · rw [if_pos w2, if_pos w2]
    by_cases e : nA N l = wh <;> by_cases e2 : nB N l = wh <;> simp [e, e2, bi]
  rw [if_neg w2, if_neg w2]
  by_cases w3 : wt = 3
  · rw [if_pos w3, if_pos w3]
  rw [if_neg w3, if_neg w3]
  exact Iff.rfl
theorem broken_loop (h : CB c N wt wh) (hD : Dok N wt wh) : ∀ (k l : Nat), l + k = nM N →
    (WP mLayH 37 4 [some (.ref 2), some (.ref 1), some (.int (mkS (sdn N wt wh) l)), some (.int (nI l))] [] c Q ↔ Q (some (mkS (sdn N wt wh) (nM N))) c) := by
  have hN := h.1
  have h24 := hN.2.2.1
  intro k
  induction k with
  | zero =>
    intro l hl
    rw [w_X3_brokenLinks_4]
    simp only [w_X3_brokenLinks_0, w_X3_brokenLinks_1, w_X3_brokenLinks_2, w_X3_brokenLinks_3, w_X3_brokenLinks_5, w_X3_brokenLinks_6, w_X3_brokenLinks_9, w_X3_brokenLinks_12, w_X3_brokenLinks_13, w_X3_brokenLinks_14, w_X3_brokenLinks_15, w_X3_brokenLinks_18, w_X3_brokenLinks_21, w_X3_brokenLinks_22, w_X3_brokenLinks_23, w_X3_brokenLinks_24, w_X3_brokenLinks_25, w_X3_brokenLinks_26, w_X3_brokenLinks_27, w_X3_brokenLinks_30, w_X3_brokenLinks_33, w_X3_brokenLinks_34, h.2.2.1]
    rw [if_pos ((kLe (by omega) (by omega)).mpr (by omega)), show l = nM N by omega]
  | succ k ih =>
    intro l hl
    rw [w_X3_brokenLinks_4]
    simp only [w_X3_brokenLinks_0, w_X3_brokenLinks_1, w_X3_brokenLinks_2, w_X3_brokenLinks_3, w_X3_brokenLinks_5, w_X3_brokenLinks_6, w_X3_brokenLinks_9, w_X3_brokenLinks_12, w_X3_brokenLinks_13, w_X3_brokenLinks_14, w_X3_brokenLinks_15, w_X3_brokenLinks_18, w_X3_brokenLinks_21, w_X3_brokenLinks_22, w_X3_brokenLinks_23, w_X3_brokenLinks_24, w_X3_brokenLinks_25, w_X3_brokenLinks_26, w_X3_brokenLinks_27, w_X3_brokenLinks_30, w_X3_brokenLinks_33, w_X3_brokenLinks_34, h.2.2.1]
    rw [if_neg (fun q => by rw [kLe (by omega) (by omega)] at q; omega), nI_1, C_takes h hD (show l < nM N by omega), mKI_some, ← ih (l + 1) (by omega), mkS_s]
    cases sdn N wt wh l
    · rw [if_pos (show bi false = 0 from rfl), if_neg (by decide), or0]
    · rw [if_neg (by decide), if_pos rfl]
theorem C_broken (h : CB c N wt wh) (hD : Dok N wt wh) : WP mLayH 37 0 [some (.ref 2), some (.ref 1), none, none] [] c Q ↔ Q (some (mkS (sdn N wt wh) (nM N))) c := by
  simp only [w_X3_brokenLinks_0, w_X3_brokenLinks_1, w_X3_brokenLinks_2, w_X3_brokenLinks_3, w_X3_brokenLinks_5, w_X3_brokenLinks_6, w_X3_brokenLinks_9, w_X3_brokenLinks_12, w_X3_brokenLinks_13, w_X3_brokenLinks_14, w_X3_brokenLinks_15, w_X3_brokenLinks_18, w_X3_brokenLinks_21, w_X3_brokenLinks_22, w_X3_brokenLinks_23, w_X3_brokenLinks_24, w_X3_brokenLinks_25, w_X3_brokenLinks_26, w_X3_brokenLinks_27, w_X3_brokenLinks_30, w_X3_brokenLinks_33, w_X3_brokenLinks_34]
  exact broken_loop h hD (nM N) 0 (by omega)
theorem C_isAtNode (h : CB c N wt wh) (hD : Dok N wt wh) {x : Nat} (hx : x < nN N) : WP mLayH 35 0 [some (.ref 2), some (.int (nI x))] [] c Q ↔ Q (some (bi (decide (wt = 2 ∧ wh = x)))) c := by
  have h12 := h.1.2.1
  obtain ⟨d1, d2, -⟩ := hD
  simp only [w_X3_isAtNode_0, w_X3_isAtNode_1, w_X3_isAtNode_4, w_X3_isAtNode_5, w_X3_isAtNode_8, w_X3_isAtNode_9, w_X3_isAtNode_12, w_X3_isAtNode_13, w_X3_isAtNode_16, w_X3_isAtNode_17, w_X3_isAtNode_20, w_X3_isAtNode_21, true_or, or_true, true_and, h.2.2.2.2.2.1, h.2.2.2.2.2.2]
  simp (disch := omega) only [kq2, kEq]
  by_cases e : wt = 2 <;> by_cases e2 : wh = x <;> simp [e, e2, bi]
theorem C_set {a b : Int32} : WP mLayH 34 0 [some (.ref 2), some (.int a), some (.int b)] [] c Q ↔ Q none (mUp (mUp c 2 0 a) 2 1 b) := by
  simp only [w_X3_set_0, w_X3_set_1, w_X3_set_2, w_X3_set_5, w_X3_set_6, w_X3_set_7, w_X3_set_10]
end CL4
