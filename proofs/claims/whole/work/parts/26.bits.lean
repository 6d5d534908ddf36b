/-! bits (the first rows are pasted from the kit's BITS) and sets as bits -/
def bt (x : Int32) (i : Nat) : Bool := x.toBitVec.getLsbD i
theorem b_ext {x y : Int32} (h : ∀ i, i < 32 → bt x i = bt y i) : x = y := Int32.toBitVec_inj.mp (BitVec.eq_of_getLsbD_eq (fun i hi => h i hi))
theorem b_or (x y : Int32) (i : Nat) : bt (x ||| y) i = (bt x i || bt y i) := by unfold bt; rw [Int32.toBitVec_or, BitVec.getLsbD_or]
theorem b_and (x y : Int32) (i : Nat) : bt (x &&& y) i = (bt x i && bt y i) := by unfold bt; rw [Int32.toBitVec_and, BitVec.getLsbD_and]
theorem b_big {x : Int32} {i : Nat} (h : 32 ≤ i) : bt x i = false := BitVec.getLsbD_of_ge _ _ h
theorem b_0 (i : Nat) : bt 0 i = false := BitVec.getLsbD_zero
theorem s_l : ∀ n, n < 32 → ((nI n &&& 31).toBitVec.smod 32).toNat = n := by decide +kernel
theorem b_shl (n : Nat) (hn : n < 32) (x : Int32) {i : Nat} (hi : i < 32) : bt (x <<< (nI n &&& 31)) i = (decide (n ≤ i) && bt x (i - n)) := by
  unfold bt
  rw [Int32.toBitVec_shiftLeft]
  show (x.toBitVec <<< ((nI n &&& 31).toBitVec.smod 32).toNat).getLsbD i = _
  rw [s_l n hn, BitVec.getLsbD_shiftLeft]
  rcases Nat.lt_or_ge i n with h | h
  · simp [h, Nat.not_le.mpr h]
  · simp [hi, h, Nat.not_lt.mpr h]
theorem b_sshr (n : Nat) (hn : n < 32) (x : Int32) {i : Nat} (hi : i < 32) : bt (x >>> (nI n &&& 31)) i = if n + i < 32 then bt x (n + i) else bt x 31 := by
  unfold bt
  rw [Int32.toBitVec_shiftRight]
  show (x.toBitVec.sshiftRight ((nI n &&& 31).toBitVec.smod 32).toNat).getLsbD i = _
  rw [s_l n hn, BitVec.getLsbD_sshiftRight, BitVec.msb_eq_getLsbD_last]
  simp [hi]
theorem bt_1 (i : Nat) : bt 1 i = decide (i = 0) := by
  rcases Nat.lt_or_ge i 32 with h | h
  · exact (by decide +kernel : ∀ i, i < 32 → bt 1 i = decide (i = 0)) i h
  · rw [b_big h, decide_eq_false (by omega)]
/-- a bit, as the code asks for it -/
theorem bt_ask (w : Int32) {k : Nat} (hk : k < 32) : (w >>> (nI k &&& 31)) &&& 1 = bi (bt w k) := by
  apply b_ext
  intro i hi
  rw [b_and, b_sshr k hk w hi, bt_1]
  by_cases e : i = 0
  · subst e
    rw [if_pos (by omega)]
    cases h : bt w k <;> simp [h, bi] <;> decide
  · have : bt (bi (bt w k)) i = false := by
      cases bt w k
      · exact b_0 i
      · show bt 1 i = false
        rw [bt_1]; simp [e]
    rw [this]; simp [e]
/-- the set of those below n that are so -/
def mkS (p : Nat → Bool) : Nat → Int32
  | 0 => 0
  | n + 1 => mkS p n ||| (if p n then 1 <<< (nI n &&& 31) else 0)
theorem bt_shl1 {k i : Nat} (hk : k < 32) (hi : i < 32) : bt (1 <<< (nI k &&& 31)) i = decide (i = k) := by
  rw [b_shl k hk 1 hi, bt_1]
  by_cases e : i = k
  · subst e; simp
  · by_cases h : k ≤ i
    · have : ¬ i - k = 0 := by omega
      simp [this, e]
    · simp [h, e]
theorem bt_mk {p : Nat → Bool} : ∀ {n : Nat}, n ≤ 32 → ∀ {i : Nat}, i < 32 → bt (mkS p n) i = (decide (i < n) && p i)
  | 0, _, i, _ => by rw [show mkS p 0 = 0 from rfl, b_0]; simp
  | n + 1, hn, i, hi => by
    unfold mkS
    rw [b_or, bt_mk (by omega) hi]
    have h2 : bt (if p n then 1 <<< (nI n &&& 31) else 0) i = (p n && decide (i = n)) := by
      cases h : p n with
      | true => rw [if_pos rfl, bt_shl1 (by omega) hi]; simp
      | false => rw [if_neg (by decide), b_0]; simp
    rw [h2]
    by_cases e : i = n
    · subst e; simp
    · rw [show decide (i < n + 1) = decide (i < n) by apply decide_eq_decide.mpr; omega]
      simp [e]
theorem mk_congr {p q : Nat → Bool} : ∀ {n : Nat}, (∀ k, k < n → p k = q k) → mkS p n = mkS q n
  | 0, _ => rfl
  | n + 1, h => by unfold mkS; rw [mk_congr (fun k hk => h k (by omega)), h n (by omega)]
theorem mk_or {p q : Nat → Bool} {n : Nat} (hn : n ≤ 32) : mkS p n ||| mkS q n = mkS (fun k => p k || q k) n := by
  apply b_ext
  intro i hi
  rw [b_or, bt_mk hn hi, bt_mk hn hi, bt_mk hn hi]
  cases decide (i < n) <;> simp
theorem mk_and {p q : Nat → Bool} {n : Nat} (hn : n ≤ 32) : mkS p n &&& mkS q n = mkS (fun k => p k && q k) n := by
  apply b_ext
  intro i hi
  rw [b_and, bt_mk hn hi, bt_mk hn hi, bt_mk hn hi]
  cases decide (i < n) <;> simp
theorem or0 (x : Int32) : x ||| 0 = x := by
  apply b_ext
  intro i hi
  rw [b_or, b_0]; simp
theorem mk_ask {p : Nat → Bool} {n k : Nat} (hn : n ≤ 32) (hk : k < n) : (mkS p n >>> (nI k &&& 31)) &&& 1 = bi (p k) := by
  rw [bt_ask _ (by omega), bt_mk hn (by omega), decide_eq_true hk, Bool.true_and]
theorem mk_none {p : Nat → Bool} : ∀ {n : Nat}, (∀ k, k < n → p k = false) → mkS p n = 0
  | 0, _ => rfl
  | n + 1, h => by unfold mkS; rw [mk_none (fun k hk => h k (by omega)), h n (by omega), if_neg (by decide), or0]
theorem mkS_s {p : Nat → Bool} {n : Nat} : mkS p (n + 1) = mkS p n ||| (if p n then 1 <<< (nI n &&& 31) else 0) := rfl
