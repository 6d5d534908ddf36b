/-! Integer.bitCount -/
def us (k x : Int32) : Int32 := (x.toUInt32 >>> (Int32.toUInt32 k &&& Int32.toUInt32 31)).toInt32
def bc1 (x : Int32) : Int32 := x - (us 1 x &&& 1431655765)
def bc2 (x : Int32) : Int32 := (x &&& 858993459) + (us 2 x &&& 858993459)
def bc3 (x : Int32) : Int32 := x + us 4 x &&& 252645135
def bc4 (x : Int32) : Int32 := x + us 8 x
def bc5 (x : Int32) : Int32 := x + us 16 x &&& 63
theorem bc_raw {c : mS} {Q : Option Int32 → mS → Prop} {x : Int32} {lay : mLay} : WP lay 158 0 [some (.int x)] [] c Q ↔ Q (some (bc5 (bc4 (bc3 (bc2 (bc1 x)))))) c := by
  simp only [w_J6_bitCount_0f7a4_0, w_J6_bitCount_0f7a4_1, w_J6_bitCount_0f7a4_2, w_J6_bitCount_0f7a4_3, w_J6_bitCount_0f7a4_4, w_J6_bitCount_0f7a4_7, w_J6_bitCount_0f7a4_8, w_J6_bitCount_0f7a4_9, w_J6_bitCount_0f7a4_10, w_J6_bitCount_0f7a4_11, w_J6_bitCount_0f7a4_14, w_J6_bitCount_0f7a4_15, w_J6_bitCount_0f7a4_16, w_J6_bitCount_0f7a4_17, w_J6_bitCount_0f7a4_18, w_J6_bitCount_0f7a4_21, w_J6_bitCount_0f7a4_22, w_J6_bitCount_0f7a4_23, w_J6_bitCount_0f7a4_24, w_J6_bitCount_0f7a4_25, w_J6_bitCount_0f7a4_26, w_J6_bitCount_0f7a4_27, w_J6_bitCount_0f7a4_28, w_J6_bitCount_0f7a4_29, w_J6_bitCount_0f7a4_32, w_J6_bitCount_0f7a4_33, w_J6_bitCount_0f7a4_34, w_J6_bitCount_0f7a4_35, w_J6_bitCount_0f7a4_36, w_J6_bitCount_0f7a4_38, w_J6_bitCount_0f7a4_39, w_J6_bitCount_0f7a4_40, w_J6_bitCount_0f7a4_41, w_J6_bitCount_0f7a4_42, w_J6_bitCount_0f7a4_43, w_J6_bitCount_0f7a4_45, w_J6_bitCount_0f7a4_46, w_J6_bitCount_0f7a4_47, w_J6_bitCount_0f7a4_48, w_J6_bitCount_0f7a4_49, w_J6_bitCount_0f7a4_51, w_J6_bitCount_0f7a4_52]
  exact Iff.rfl
theorem nI_bv {a : Nat} : (nI a).toBitVec = BitVec.ofNat 32 a := rfl
theorem us_nI {a : Nat} (k : Nat) (hk : k < 32) (ha : a < 2 ^ 31) : us (nI k) (nI a) = nI (a / 2 ^ k) := by
  apply Int32.toBitVec_inj.mp
  apply BitVec.eq_of_toNat_eq
  unfold us
  have hs : ∀ k, k < 32 → ((Int32.toUInt32 (nI k) &&& Int32.toUInt32 31).toBitVec % 32).toNat = k := by decide +kernel
  show ((nI a).toBitVec >>> ((Int32.toUInt32 (nI k) &&& Int32.toUInt32 31).toBitVec % 32)).toNat = (BitVec.ofNat 32 (a / 2 ^ k)).toNat
  rw [BitVec.ushiftRight_eq', hs k hk, nI_bv, BitVec.toNat_ushiftRight, BitVec.toNat_ofNat, BitVec.toNat_ofNat, Nat.shiftRight_eq_div_pow, Nat.mod_eq_of_lt (show a < 2 ^ 32 by omega), Nat.mod_eq_of_lt]
  exact Nat.lt_of_le_of_lt (Nat.div_le_self _ _) (by omega)
theorem and_nI {a b : Nat} (ha : a < 2 ^ 31) (hb : b < 2 ^ 31) : nI a &&& nI b = nI (a &&& b) := by
  apply Int32.toBitVec_inj.mp
  apply BitVec.eq_of_toNat_eq
  rw [Int32.toBitVec_and, BitVec.toNat_and, nI_bv, nI_bv, nI_bv, BitVec.toNat_ofNat, BitVec.toNat_ofNat, BitVec.toNat_ofNat, Nat.mod_eq_of_lt (show a < 2 ^ 32 by omega), Nat.mod_eq_of_lt (show b < 2 ^ 32 by omega), Nat.mod_eq_of_lt]
  exact Nat.lt_of_le_of_lt Nat.and_le_left (by omega)
/-- and, byte by byte -/
theorem and_by {a b m m' : Nat} (ha : a < 256) (hm : m < 256) : (a + 256 * b) &&& (m + 256 * m') = (a &&& m) + 256 * (b &&& m') := by
  have h1 : ((a + 256 * b) &&& (m + 256 * m')) % 2 ^ 8 = a &&& m := by
    rw [Nat.and_mod_two_pow, show (a + 256 * b) % 2 ^ 8 = a by omega, show (m + 256 * m') % 2 ^ 8 = m by omega]
  have h2 : ((a + 256 * b) &&& (m + 256 * m')) / 2 ^ 8 = b &&& m' := by
    rw [Nat.and_div_two_pow, show (a + 256 * b) / 2 ^ 8 = b by omega, show (m + 256 * m') / 2 ^ 8 = m' by omega]
  omega
theorem and_by3 {a b d m : Nat} (ha : a < 256) (hb : b < 256) (hd : d < 256) (hm : m < 256) : (a + 256 * (b + 256 * d)) &&& (m + 256 * (m + 256 * (m + 256 * m))) = (a &&& m) + 256 * ((b &&& m) + 256 * (d &&& m)) := by
  rw [and_by ha hm, and_by hb hm]
  have : d &&& (m + 256 * m) = d &&& m := by
    have := and_by (b := 0) (m' := m) hd hm
    rw [Nat.mul_zero, Nat.add_zero, Nat.zero_and, Nat.mul_zero, Nat.add_zero] at this
    exact this
  rw [this]
def g1 (b : Nat) : Nat := b - ((b / 2) &&& 85)
def g2 (b : Nat) : Nat := (b &&& 51) + ((b / 4) &&& 51)
def pc8 (b : Nat) : Nat := cnt (fun i => b.testBit i) 8
theorem g1_r : ∀ r, r < 2 → ∀ b, b < 256 → ((b / 2 + 128 * r) &&& 85) = ((b / 2) &&& 85) ∧ ((b / 2) &&& 85) ≤ b ∧ g1 b < 256 := by decide +kernel
theorem g2_r : ∀ r, r < 4 → ∀ b, b < 256 → ((b / 4 + 64 * r) &&& 51) = ((b / 4) &&& 51) ∧ g2 b < 256 := by decide +kernel
theorem g_pc : ∀ b, b < 256 → g2 (g1 b) % 16 + g2 (g1 b) / 16 = pc8 b ∧ g2 (g1 b) % 16 ≤ 4 ∧ g2 (g1 b) / 16 ≤ 4 := by decide +kernel
theorem bc1_b {a b d : Nat} (ha : a < 256) (hb : b < 256) (hd : d < 256) : bc1 (nI (a + 256 * (b + 256 * d))) = nI (g1 a + 256 * (g1 b + 256 * g1 d)) := by
  unfold bc1
  rw [show (1 : Int32) = nI 1 from rfl, show (1431655765 : Int32) = nI (85 + 256 * (85 + 256 * (85 + 256 * 85))) from rfl, us_nI 1 (by decide) (by omega), and_nI (by omega) (by decide)]
  rw [show (a + 256 * (b + 256 * d)) / 2 ^ 1 = (a / 2 + 128 * (b % 2)) + 256 * ((b / 2 + 128 * (d % 2)) + 256 * (d / 2)) by omega, and_by3 (by omega) (by omega) (by omega) (by decide)]
  obtain ⟨a1, a2, a3⟩ := g1_r (b % 2) (by omega) a ha
  obtain ⟨b1, b2, b3⟩ := g1_r (d % 2) (by omega) b hb
  obtain ⟨-, d2, d3⟩ := g1_r 0 (by omega) d hd
  rw [a1, b1, pk_sub (by omega)]
  congr 1
  unfold g1
  omega
theorem bc2_b {a b d : Nat} (ha : a < 256) (hb : b < 256) (hd : d < 256) : bc2 (nI (a + 256 * (b + 256 * d))) = nI (g2 a + 256 * (g2 b + 256 * g2 d)) := by
  unfold bc2
  rw [show (2 : Int32) = nI 2 from rfl, show (858993459 : Int32) = nI (51 + 256 * (51 + 256 * (51 + 256 * 51))) from rfl, us_nI 2 (by decide) (by omega), and_nI (by omega) (by decide), and_nI (by omega) (by decide)]
  rw [show (a + 256 * (b + 256 * d)) / 2 ^ 2 = (a / 4 + 64 * (b % 4)) + 256 * ((b / 4 + 64 * (d % 4)) + 256 * (d / 4)) by omega, and_by3 ha hb hd (by decide), and_by3 (by omega) (by omega) (by omega) (by decide)]
  obtain ⟨a1, a2⟩ := g2_r (b % 4) (by omega) a ha
  obtain ⟨b1, b2⟩ := g2_r (d % 4) (by omega) b hb
  rw [a1, b1, nI_add]
  congr 1
  unfold g2
  omega
theorem and15 {a : Nat} : a &&& 15 = a % 16 := Nat.and_two_pow_sub_one_eq_mod a 4
theorem bc3_b {a b d : Nat} (a1 : a % 16 ≤ 4) (a2 : a / 16 ≤ 4) (b1 : b % 16 ≤ 4) (b2 : b / 16 ≤ 4) (d1 : d % 16 ≤ 4) (d2 : d / 16 ≤ 4) : bc3 (nI (a + 256 * (b + 256 * d))) = nI ((a % 16 + a / 16) + 256 * ((b % 16 + b / 16) + 256 * (d % 16 + d / 16))) := by
  unfold bc3
  rw [show (4 : Int32) = nI 4 from rfl, show (252645135 : Int32) = nI (15 + 256 * (15 + 256 * (15 + 256 * 15))) from rfl, us_nI 4 (by decide) (by omega), nI_add, and_nI (by omega) (by decide)]
  rw [show a + 256 * (b + 256 * d) + (a + 256 * (b + 256 * d)) / 2 ^ 4 = (a % 16 + a / 16 + 16 * (a / 16 + b % 16)) + 256 * ((b % 16 + b / 16 + 16 * (b / 16 + d % 16)) + 256 * (d % 16 + d / 16 + 16 * (d / 16))) by omega, and_by3 (by omega) (by omega) (by omega) (by decide), and15, and15, and15]
  rw [show (a % 16 + a / 16 + 16 * (a / 16 + b % 16)) % 16 = a % 16 + a / 16 by omega, show (b % 16 + b / 16 + 16 * (b / 16 + d % 16)) % 16 = b % 16 + b / 16 by omega, show (d % 16 + d / 16 + 16 * (d / 16)) % 16 = d % 16 + d / 16 by omega]
theorem bc45 {a b d : Nat} (ha : a ≤ 8) (hb : b ≤ 8) (hd : d ≤ 8) : bc5 (bc4 (nI (a + 256 * (b + 256 * d)))) = nI (a + b + d) := by
  unfold bc5 bc4
  rw [show (8 : Int32) = nI 8 from rfl, show (16 : Int32) = nI 16 from rfl, show (63 : Int32) = nI 63 from rfl, us_nI 8 (by decide) (by omega), nI_add, show a + 256 * (b + 256 * d) + (a + 256 * (b + 256 * d)) / 2 ^ 8 = (a + b) + 256 * (b + d) + 65536 * d by omega, us_nI 16 (by decide) (by omega), nI_add, and_nI (by omega) (by decide), show (63 : Nat) = 2 ^ 6 - 1 from rfl, Nat.and_two_pow_sub_one_eq_mod]
  rw [show ((a + b) + 256 * (b + d) + 65536 * d) / 2 ^ 16 = d by omega, show ((a + b) + 256 * (b + d) + 65536 * d + d) % 2 ^ 6 = a + b + d by omega]
theorem bc_bytes {a b d : Nat} (ha : a < 256) (hb : b < 256) (hd : d < 256) : bc5 (bc4 (bc3 (bc2 (bc1 (nI (a + 256 * (b + 256 * d))))))) = nI (pc8 a + pc8 b + pc8 d) := by
  obtain ⟨a1, a2, a3⟩ := g_pc a ha
  obtain ⟨b1, b2, b3⟩ := g_pc b hb
  obtain ⟨d1, d2, d3⟩ := g_pc d hd
  rw [bc1_b ha hb hd, bc2_b (g1_r 0 (by omega) a ha).2.2 (g1_r 0 (by omega) b hb).2.2 (g1_r 0 (by omega) d hd).2.2, bc3_b a2 a3 b2 b3 d2 d3, bc45 (by omega) (by omega) (by omega), a1, b1, d1]
/-- a set as a number -/
def vl (p : Nat → Bool) : Nat → Nat
  | 0 => 0
  | n + 1 => 2 ^ n * (if p n then 1 else 0) + vl p n
theorem vl_lt {p : Nat → Bool} : ∀ n, vl p n < 2 ^ n
  | 0 => Nat.one_pos
  | n + 1 => by
    unfold vl
    have := vl_lt (p := p) n
    rw [Nat.pow_succ]
    split <;> omega
theorem vl_bit {p : Nat → Bool} : ∀ {n i : Nat}, (vl p n).testBit i = (decide (i < n) && p i)
  | 0, i => by rw [show vl p 0 = 0 from rfl, Nat.zero_testBit]; rfl
  | n + 1, i => by
    unfold vl
    have hl := vl_lt (p := p) n
    cases hp : p n with
    | false =>
      rw [if_neg Bool.false_ne_true, Nat.mul_zero, Nat.zero_add, vl_bit]
      by_cases e : i = n
      · subst e; rw [hp, Bool.and_false, Bool.and_false]
      · rw [show decide (i < n + 1) = decide (i < n) by apply decide_eq_decide.mpr; omega]
    | true =>
      rw [if_pos rfl, Nat.mul_one]
      rcases Nat.lt_trichotomy i n with q | q | q
      · rw [Nat.testBit_two_pow_add_gt q, vl_bit, decide_eq_true q, decide_eq_true (show i < n + 1 by omega)]
      · subst q; rw [Nat.testBit_two_pow_add_eq, vl_bit, decide_eq_false (Nat.lt_irrefl _), decide_eq_true (Nat.lt_succ_self i), hp]; rfl
      · have h2 : 2 ^ n + vl p n < 2 ^ i := by
          have : 2 ^ (n + 1) ≤ 2 ^ i := Nat.pow_le_pow_right (by decide) q
          rw [Nat.pow_succ] at this
          omega
        rw [Nat.testBit_lt_two_pow h2, decide_eq_false (show ¬ i < n + 1 by omega)]; rfl
theorem mk_vl {p : Nat → Bool} {n : Nat} (hn : n ≤ 31) : mkS p n = nI (vl p n) := by
  apply b_ext
  intro i hi
  rw [bt_mk (by omega) hi]
  unfold bt
  rw [nI_bv, BitVec.getLsbD_ofNat, decide_eq_true hi, Bool.true_and, vl_bit]
theorem cnt_s {p : Nat → Bool} {n : Nat} : cnt p (n + 1) = cnt p n + (if p n then 1 else 0) := rfl
theorem cnt_add {p : Nat → Bool} {m : Nat} : ∀ {n : Nat}, cnt p (m + n) = cnt p m + cnt (fun i => p (m + i)) n
  | 0 => rfl
  | n + 1 => by
    rw [show m + (n + 1) = (m + n) + 1 from rfl, cnt_s, cnt_s, cnt_add, Nat.add_assoc]
theorem cnt_cong {p q : Nat → Bool} : ∀ {n : Nat}, (∀ k, k < n → p k = q k) → cnt p n = cnt q n
  | 0, _ => rfl
  | n + 1, h => by unfold cnt; rw [cnt_cong (fun k hk => h k (by omega)), h n (by omega)]
theorem bc_mk {p : Nat → Bool} {n : Nat} (hn : n ≤ 24) : bc5 (bc4 (bc3 (bc2 (bc1 (mkS p n))))) = nI (cnt p n) := by
  have hl := vl_lt (p := p) n
  have hl24 : vl p n < 2 ^ 24 := Nat.lt_of_lt_of_le hl (Nat.pow_le_pow_right (by decide) hn)
  rw [mk_vl (by omega), show vl p n = (vl p n % 256) + 256 * ((vl p n / 256 % 256) + 256 * (vl p n / 65536)) by omega, bc_bytes (by omega) (by omega) (by omega)]
  congr 1
  have e0 : ∀ i, i < 8 → (vl p n % 256).testBit i = (decide (i < n) && p i) := fun i hi => by
    rw [show 256 = 2 ^ 8 from rfl, Nat.testBit_mod_two_pow, decide_eq_true hi, Bool.true_and, vl_bit]
  have e1 : ∀ i, i < 8 → (vl p n / 256 % 256).testBit i = (decide (8 + i < n) && p (8 + i)) := fun i hi => by
    rw [show 256 = 2 ^ 8 from rfl, Nat.testBit_mod_two_pow, decide_eq_true hi, Bool.true_and, Nat.testBit_div_two_pow, vl_bit, Nat.add_comm i 8]
  have e2 : ∀ i, i < 8 → (vl p n / 65536).testBit i = (decide (16 + i < n) && p (16 + i)) := fun i hi => by
    rw [show 65536 = 2 ^ 16 from rfl, Nat.testBit_div_two_pow, vl_bit, Nat.add_comm i 16]
  unfold pc8
  rw [cnt_cong e0, cnt_cong e1, cnt_cong e2]
  have hq : ∀ q : Nat → Bool, cnt q 24 = cnt q 8 + cnt (fun i => q (8 + i)) 8 + cnt (fun i => q (16 + i)) 8 := fun q => by
    rw [show 24 = 16 + 8 from rfl, cnt_add, show 16 = 8 + 8 from rfl, cnt_add]
  rw [← hq (fun i => decide (i < n) && p i)]
  have hz : ∀ k, n ≤ k → cnt (fun i => decide (i < n) && p i) k = cnt p n := by
    intro k hk
    induction k with
    | zero => rw [show n = 0 by omega]; rfl
    | succ k ih =>
      by_cases e : n = k + 1
      · rw [e]; exact cnt_cong (fun i hi => by rw [decide_eq_true hi, Bool.true_and])
      · rw [cnt_s, ih (by omega), decide_eq_false (show ¬ k < n by omega), Bool.false_and, if_neg Bool.false_ne_true, Nat.add_zero]
  exact hz 24 hn
theorem C_bits {c : mS} {Q : Option Int32 → mS → Prop} {p : Nat → Bool} {n : Nat} {lay : mLay} (hn : n ≤ 24) : WP lay 158 0 [some (.int (mkS p n))] [] c Q ↔ Q (some (nI (cnt p n))) c := by
  rw [bc_raw, bc_mk hn]
