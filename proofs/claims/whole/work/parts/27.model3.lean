/-! the reference: ways, what is down, neighbours -/
/-- whether a LINK is on the WAY from v to d -/
noncomputable def onF (N : Nt) (l d : Nat) : Nat → Nat → Bool
  | 0, _ => false
  | k + 1, v => match nx N none d v with
    | none => false
    | some u => decide (lk N v u = some l) || onF N l d k u
noncomputable def onW (N : Nt) (l d v : Nat) : Bool := onF N l d 12 v
theorem onF_st {N : Nt} (hN : Nok N) {l d : Nat} : ∀ (k k' v : Nat), v < nN N → rk N none d v < k → rk N none d v < k' → onF N l d k v = onF N l d k' v := by
  intro k
  induction k with
  | zero => intro k' v _ h; omega
  | succ k ih =>
    intro k' v hv h1 h2
    cases k' with
    | zero => omega
    | succ k' =>
      unfold onF
      cases hx : nx N none d v with
      | none => rfl
      | some u =>
        have hr := nx_rk hN hx
        dsimp only
        rw [ih k' u (nx_some hx).1 (by omega) (by omega)]
theorem onW_eq {N : Nt} (hN : Nok N) {l d v : Nat} (hv : v < nN N) : onW N l d v = (match nx N none d v with
    | none => false
    | some u => decide (lk N v u = some l) || onW N l d u) := by
  have h12 := hN.2.1
  have hr := rk_n (N := N) (but := none) (d := d) hv
  unfold onW
  rw [onF_st hN 12 13 v hv (by omega) (by omega)]
  rfl
def rsf (N : Nt) (o p : Option Nat) : Bool := match o, p with
  | some l, some k => decide (nI (nG N l) &&& nI (nG N k) = 0)
  | _, _ => false
def sdn (N : Nt) (wt wh l : Nat) : Bool := if wt = 1 then decide (l = wh) else if wt = 2 then decide (nA N l = wh ∨ nB N l = wh) else if wt = 3 then bt (nI (nG N l)) wh else false
/-- FAR of two NODES -/
noncomputable def fr (N : Nt) (x y : Nat) : Nat := gd N none y x
def smn (a b : Nat) : Nat := if a + b < INF then a + b else INF
theorem smn_le {a b : Nat} : smn a b ≤ INF := by unfold smn; split <;> omega
section MO4
variable {d : mS} {N : Nt} {wt wh : Nat} {Q : Option Int32 → mS → Prop}
theorem M_isOn_loop {l e : Nat} {a : Int32} (hl : l < nM N) (he : e < nN N) (hM : MI d N wt wh) (hF : FarR d 0 N (gd N none)) : ∀ (k v : Nat) (acc : Bool), v < nN N → rk N none e v = k → (WP mLayM 110 17 [some (.ref 0), some (.int a), some (.int (nI e)), some (.int (nI l)), some (.int (bi acc)), some (.int (nI v)), some (.int (en (nx N none e v)))] [] d Q ↔ Q (some (bi (acc || onW N l e v))) d) := by
  have hN := hM.1
  have h12 := hN.2.1
  have h24 := hN.2.2.1
  intro k
  induction k using Nat.strongRecOn with
  | ind k ih =>
    intro v acc hv hk
    rw [w_X7_isOn_17]
    simp only [w_X7_isOn_0, w_X7_isOn_1, w_X7_isOn_3, w_X7_isOn_4, w_X7_isOn_6, w_X7_isOn_7, w_X7_isOn_8, w_X7_isOn_10, w_X7_isOn_11, w_X7_isOn_12, w_X7_isOn_15, w_X7_isOn_19, w_X7_isOn_22, w_X7_isOn_24, w_X7_isOn_27, w_X7_isOn_28, w_X7_isOn_30, w_X7_isOn_32, w_X7_isOn_35, w_X7_isOn_36, w_X7_isOn_39, w_X7_isOn_40, w_X7_isOn_43, w_X7_isOn_44, w_X7_isOn_46, w_X7_isOn_48, w_X7_isOn_50, w_X7_isOn_51, w_X7_isOn_52, w_X7_isOn_54, w_X7_isOn_55, w_X7_isOn_56, w_X7_isOn_59, w_X7_isOn_61, w_X7_isOn_64, w_X7_isOn_66]
    rw [onW_eq hN hv]
    cases hx : nx N none e v with
    | none =>
      simp only [en_none, kn1, if_true, bi_01, true_and, Bool.or_false]
    | some u =>
      have hu := (nx_some hx).1
      have ihu := fun acc => ih (rk N none e u) (by rw [← hk]; exact nx_rk hN hx) u acc hu rfl
      have hle : (en (lk N v u) = nI l) ↔ lk N v u = some l := en_eq (p := some l) (fun q h => by have := (lk_some h).1; omega) (fun q h => by cases h; omega)
      simp (disch := omega) only [en_some, k0lt, if_false, M_linkOf (show v < 2 ^ 31 by omega) (show u < 2 ^ 31 by omega) hM, mKI_some, M_next0 hu he hM hF, hle, bi_0]
      cases acc with
      | true =>
        rw [if_pos (by decide)]
        have := ihu true
        simp only [Bool.true_or] at this ⊢
        exact this
      | false =>
        rw [if_neg (by decide)]
        by_cases c : lk N v u = some l
        · rw [if_neg (fun q => q c)]
          have := ihu true
          simp only [c, decide_true, Bool.true_or, Bool.false_or] at this ⊢
          exact this
        · rw [if_pos c]
          have := ihu false
          simp only [c, decide_false, Bool.false_or] at this ⊢
          exact this
theorem M_isOn {l e v : Nat} (hl : l < nM N) (he : e < nN N) (hv : v < nN N) (hM : MI d N wt wh) (hF : FarR d 0 N (gd N none)) : WP mLayM 110 0 [some (.ref 0), some (.int (nI v)), some (.int (nI e)), some (.int (nI l)), none, none, none] [] d Q ↔ Q (some (bi (onW N l e v))) d := by
  simp only [w_X7_isOn_0, w_X7_isOn_1, w_X7_isOn_3, w_X7_isOn_4, w_X7_isOn_6, w_X7_isOn_7, w_X7_isOn_8, w_X7_isOn_10, w_X7_isOn_11, w_X7_isOn_12, w_X7_isOn_15, w_X7_isOn_19, w_X7_isOn_22, w_X7_isOn_24, w_X7_isOn_27, w_X7_isOn_28, w_X7_isOn_30, w_X7_isOn_32, w_X7_isOn_35, w_X7_isOn_36, w_X7_isOn_39, w_X7_isOn_40, w_X7_isOn_43, w_X7_isOn_44, w_X7_isOn_46, w_X7_isOn_48, w_X7_isOn_50, w_X7_isOn_51, w_X7_isOn_52, w_X7_isOn_54, w_X7_isOn_55, w_X7_isOn_56, w_X7_isOn_59, w_X7_isOn_61, w_X7_isOn_64, w_X7_isOn_66, M_next0 hv he hM hF, mKI_some]
  exact M_isOn_loop hl he hM hF _ v false hv rfl
theorem M_isDown {l w h : Nat} (hl : l < nM N) (hw : w ≤ 3) (hh : h < 32) (hM : MI d N wt wh) : WP mLayM 104 0 [some (.ref 0), some (.int (nI l)), some (.int (nI w)), some (.int (nI h))] [] d Q ↔ Q (some (bi (sdn N w h l))) d := by
  have hN := hM.1
  have h12 := hN.2.1
  have h24 := hN.2.2.1
  obtain ⟨e1, e2, e3, e4⟩ := hM.2.2.2.1 l hl
  obtain ⟨g1, g2, g3, g4, g5, g6⟩ := hN.2.2.2.1 l hl
  simp only [w_X7_isDown_0, w_X7_isDown_1, w_X7_isDown_28, w_X7_isDown_29, w_X7_isDown_30, w_X7_isDown_33, w_X7_isDown_34, w_X7_isDown_37, w_X7_isDown_38, w_X7_isDown_39, w_X7_isDown_40, w_X7_isDown_43, w_X7_isDown_44, w_X7_isDown_45, w_X7_isDown_46, w_X7_isDown_49, w_X7_isDown_50, w_X7_isDown_53, w_X7_isDown_54, w_X7_isDown_55, w_X7_isDown_56, w_X7_isDown_59, w_X7_isDown_60, w_X7_isDown_63, w_X7_isDown_64, w_X7_isDown_65, w_X7_isDown_66, w_X7_isDown_69, w_X7_isDown_70, w_X7_isDown_71, w_X7_isDown_72, w_X7_isDown_73, w_X7_isDown_74, w_X7_isDown_75, w_X7_isDown_76, w_X7_isDown_79, w_X7_isDown_80, w_X7_isDown_83, w_X7_isDown_84, w_X7_isDown_85, w_X7_isDown_86, true_or, or_true, true_and]
  simp (disch := omega) only [kIn, kCl, e1, e2, e4, kEq, kq1, kq2, kq3]
  simp only [show l < 24 by omega, true_and]
  unfold sdn
  by_cases w1 : w = 1
  · subst w1
    simp only [if_true]
    by_cases c : l = h <;> simp [c, bi]
  · simp only [w1, if_false]
    by_cases w2 : w = 2
    · subst w2
      simp only [if_true]
      by_cases c : nA N l = h <;> by_cases c2 : nB N l = h <;> simp [c, c2, bi]
    · simp only [w2, if_false]
      by_cases w3 : w = 3
      · subst w3
        simp only [if_true]
        rw [bt_ask _ hh]
        cases bt (nI (nG N l)) h <;> simp [bi]
      · simp only [w3, if_false]
        simp [bi]
theorem M_sum {lay : mLay} {a b : Nat} (ha : a ≤ INF) (hb : b ≤ INF) : WP lay 118 0 [some (.int (nI a)), some (.int (nI b))] [] d Q ↔ Q (some (nI (smn a b))) d := by
  have hi : INF = 1000000 := rfl
  simp only [w_X7_sum_0, w_X7_sum_1, w_X7_sum_2, w_X7_sum_3, w_X7_sum_5, w_X7_sum_8, w_X7_sum_9, w_X7_sum_10, w_X7_sum_11, w_X7_sum_14, w_X7_sum_16, nI_add, kinf]
  simp (disch := omega) only [kLe]
  unfold smn
  by_cases c : INF ≤ a + b
  · rw [if_pos c, if_neg (by omega)]
  · rw [if_neg c, if_pos (by omega)]
theorem M_orNone {lay : mLay} {a : Nat} (ha : a ≤ INF) : WP lay 114 0 [some (.int (nI a))] [] d Q ↔ Q (some (en (if a < INF then some a else none))) d := by
  have hi : INF = 1000000 := rfl
  simp only [w_X7_orNone_0, w_X7_orNone_1, w_X7_orNone_3, w_X7_orNone_6, w_X7_orNone_7, w_X7_orNone_10, w_X7_orNone_11, kinf]
  simp (disch := omega) only [kLe]
  by_cases c : INF ≤ a
  · rw [if_pos c, if_neg (by omega), en_none]
  · rw [if_neg c, if_pos (by omega), en_some]
end MO4
