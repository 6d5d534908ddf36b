/-! distances: what both sides compute, by what makes it unique -/
def INF : Nat := 1000000
def dInv (N : Nt) (but : Option Nat) (d : Nat) (f : Nat → Nat) : Prop := f d = 0 ∧ (∀ v, v < nN N → f v ≤ INF) ∧ ∀ v, v < nN N → v ≠ d → f v < INF → ∃ l u, l < nM N ∧ some l ≠ but ∧ jn N l v u = true ∧ f u + nC N l ≤ f v
def dCl (N : Nt) (but : Option Nat) (f : Nat → Nat) : Prop := ∀ l, l < nM N → some l ≠ but → f (nA N l) ≤ f (nB N l) + nC N l ∧ f (nB N l) ≤ f (nA N l) + nC N l
def isD (N : Nt) (but : Option Nat) (d : Nat) (f : Nat → Nat) : Prop := dInv N but d f ∧ dCl N but f
section DST
variable {N : Nt} {but : Option Nat} {d : Nat} {f g : Nat → Nat}
theorem dCl_jn (h : dCl N but f) {l v u : Nat} (hl : l < nM N) (hb : some l ≠ but) (hj : jn N l v u = true) : f v ≤ f u + nC N l := by
  rcases jn_iff.mp hj with ⟨rfl, rfl⟩ | ⟨rfl, rfl⟩
  · exact (h l hl hb).1
  · exact (h l hl hb).2
theorem jn_lt (hN : Nok N) {l v u : Nat} (hl : l < nM N) (hj : jn N l v u = true) : v < nN N ∧ u < nN N ∧ v ≠ u ∧ 1 ≤ nC N l ∧ nC N l ≤ 99 := by
  obtain ⟨h1, h2, h3, h4, h5, -⟩ := hN.2.2.2.1 l hl
  rcases jn_iff.mp hj with ⟨rfl, rfl⟩ | ⟨rfl, rfl⟩
  · exact ⟨h1, h2, h3, h4, h5⟩
  · exact ⟨h2, h1, Ne.symm h3, h4, h5⟩
theorem d_le (hN : Nok N) (hf : dInv N but d f) (hg0 : g d = 0) (hg1 : ∀ v, v < nN N → g v ≤ INF) (hg : dCl N but g) : ∀ (k v : Nat), v < nN N → f v = k → g v ≤ f v := by
  intro k
  induction k using Nat.strongRecOn with
  | ind k ih =>
    intro v hv hk
    by_cases hd : v = d
    · subst hd; rw [hg0]; exact Nat.zero_le _
    · by_cases hi : f v < INF
      · obtain ⟨l, u, hl, hb, hj, hle⟩ := hf.2.2 v hv hd hi
        obtain ⟨-, hu, -, hc, -⟩ := jn_lt hN hl hj
        have h1 := ih (f u) (by omega) u hu rfl
        have h2 := dCl_jn hg hl hb hj
        omega
      · have := hg1 v hv
        omega
theorem isD_uniq (hN : Nok N) (hf : isD N but d f) (hg : isD N but d g) {v : Nat} (hv : v < nN N) : f v = g v :=
  Nat.le_antisymm (d_le hN hg.1 hf.1.1 hf.1.2.1 hf.2 _ v hv rfl) (d_le hN hf.1 hg.1.1 hg.1.2.1 hg.2 _ v hv rfl)
def fup (f : Nat → Nat) (k x : Nat) : Nat → Nat := fun j => if j = k then x else f j
theorem fup_s {f : Nat → Nat} {k x : Nat} : fup f k x k = x := if_pos rfl
theorem fup_n {f : Nat → Nat} {k x j : Nat} (h : j ≠ k) : fup f k x j = f j := if_neg h
theorem d_relax (hN : Nok N) (hd : d < nN N) (hf : dInv N but d f) {l v u : Nat} (hl : l < nM N) (hb : some l ≠ but) (hj : jn N l v u = true) (hlt : f u + nC N l < f v) : dInv N but d (fup f v (f u + nC N l)) := by
  obtain ⟨hv, hu, hne, hc, -⟩ := jn_lt hN hl hj
  have hvd : d ≠ v := fun q => by subst q; rw [hf.1] at hlt; omega
  refine ⟨by rw [fup_n hvd]; exact hf.1, fun w hw => ?_, fun w hw hwd hwi => ?_⟩
  · by_cases e : w = v
    · subst e; rw [fup_s]; have := hf.2.1 w hw; omega
    · rw [fup_n e]; exact hf.2.1 w hw
  · by_cases e : w = v
    · subst e
      exact ⟨l, u, hl, hb, hj, by rw [fup_s, fup_n (Ne.symm hne)]; exact Nat.le_refl _⟩
    · rw [fup_n e] at hwi ⊢
      obtain ⟨l2, u2, g1, g2, g3, g4⟩ := hf.2.2 w hw hwd hwi
      refine ⟨l2, u2, g1, g2, g3, ?_⟩
      by_cases e2 : u2 = v
      · subst e2; rw [fup_s]; omega
      · rw [fup_n e2]; exact g4
def sumN (f : Nat → Nat) : Nat → Nat
  | 0 => 0
  | n + 1 => sumN f n + f n
theorem sumN_congr {f g : Nat → Nat} : ∀ {n : Nat}, (∀ v, v < n → f v = g v) → sumN f n = sumN g n
  | 0, _ => rfl
  | n + 1, h => by unfold sumN; rw [sumN_congr (fun v hv => h v (Nat.lt_succ_of_lt hv)), h n (Nat.lt_succ_self n)]
theorem sumN_fup {f : Nat → Nat} {k x : Nat} (hx : x < f k) : ∀ {n : Nat}, k < n → sumN (fup f k x) n < sumN f n
  | 0, h => absurd h (Nat.not_lt_zero k)
  | n + 1, h => by
    unfold sumN
    by_cases e : k = n
    · subst e
      rw [fup_s, sumN_congr (f := fup f k x) (g := f) (fun v hv => fup_n (by omega))]
      omega
    · have := sumN_fup hx (n := n) (by omega)
      rw [fup_n (fun q => e q.symm)]
      omega
theorem isD_of (hN : Nok N) (hd : d < nN N) : ∀ (k : Nat) (f : Nat → Nat), sumN f (nN N) = k → dInv N but d f → ∃ g, isD N but d g := by
  intro k
  induction k using Nat.strongRecOn with
  | ind k ih =>
    intro f hk hf
    by_cases hc : dCl N but f
    · exact ⟨f, hf, hc⟩
    · have : ∃ l v u, l < nM N ∧ some l ≠ but ∧ jn N l v u = true ∧ f u + nC N l < f v := by
        apply Classical.byContradiction
        intro hno
        apply hc
        intro l hl hb
        constructor
        · apply Nat.le_of_not_lt
          intro q
          exact hno ⟨l, nA N l, nB N l, hl, hb, jn_iff.mpr (Or.inl ⟨rfl, rfl⟩), q⟩
        · apply Nat.le_of_not_lt
          intro q
          exact hno ⟨l, nB N l, nA N l, hl, hb, jn_iff.mpr (Or.inr ⟨rfl, rfl⟩), q⟩
      obtain ⟨l, v, u, hl, hb, hj, hlt⟩ := this
      exact ih _ (by rw [← hk]; exact sumN_fup hlt (jn_lt hN hl hj).1) _ rfl (d_relax hN hd hf hl hb hj hlt)
theorem d_start : dInv N but d (fun v => if v = d then 0 else INF) := by
  refine ⟨if_pos rfl, fun v _ => by by_cases e : v = d <;> simp [e], fun v _ hv hi => ?_⟩
  dsimp only at hi
  rw [if_neg hv] at hi
  exact absurd hi (Nat.lt_irrefl _)
/-- FAR of v and d, without a LINK -/
noncomputable def gd (N : Nt) (but : Option Nat) (d : Nat) : Nat → Nat := Classical.epsilon (isD N but d)
theorem gd_is (hN : Nok N) (hd : d < nN N) : isD N but d (gd N but d) := Classical.epsilon_spec (isD_of hN hd _ _ rfl d_start)
theorem gd_eq (hN : Nok N) (hd : d < nN N) (hf : isD N but d f) {v : Nat} (hv : v < nN N) : f v = gd N but d v := isD_uniq hN hf (gd_is hN hd) hv
theorem gd_0 (hN : Nok N) (hd : d < nN N) : gd N but d d = 0 := (gd_is hN hd).1.1
theorem gd_inf (hN : Nok N) (hd : d < nN N) {v : Nat} (hv : v < nN N) : gd N but d v ≤ INF := (gd_is hN hd).1.2.1 v hv
theorem gd_cl (hN : Nok N) (hd : d < nN N) {l v u : Nat} (hl : l < nM N) (hb : some l ≠ but) (hj : jn N l v u = true) : gd N but d v ≤ gd N but d u + nC N l := dCl_jn (gd_is hN hd).2 hl hb hj
theorem gd_ti (hN : Nok N) (hd : d < nN N) {v : Nat} (hv : v < nN N) (hvd : v ≠ d) (hi : gd N but d v < INF) : ∃ l u, l < nM N ∧ some l ≠ but ∧ jn N l v u = true ∧ gd N but d v = gd N but d u + nC N l := by
  obtain ⟨l, u, h1, h2, h3, h4⟩ := (gd_is hN hd).1.2.2 v hv hvd hi
  exact ⟨l, u, h1, h2, h3, Nat.le_antisymm (gd_cl hN hd h1 h2 h3) h4⟩
/-- a way by x is no shorter -/
theorem gd_tri (hN : Nok N) {x y : Nat} (hx : x < nN N) (hy : y < nN N) : ∀ (k v : Nat), v < nN N → gd N but x v = k → gd N but y v ≤ gd N but x v + gd N but y x := by
  intro k
  induction k using Nat.strongRecOn with
  | ind k ih =>
    intro v hv hk
    by_cases e : v = x
    · subst e; rw [gd_0 hN hx]; omega
    · by_cases hi : gd N but x v < INF
      · obtain ⟨l, u, hl, hb, hj, he⟩ := gd_ti hN hx hv e hi
        obtain ⟨-, hu, -, hc, -⟩ := jn_lt hN hl hj
        have h1 := ih (gd N but x u) (by omega) u hu rfl
        have h2 := gd_cl (but := but) hN hy hl hb hj
        omega
      · have := gd_inf (but := but) hN hy hv
        omega
theorem gd_sym_le (hN : Nok N) {x : Nat} (hx : x < nN N) : ∀ (k v : Nat), v < nN N → gd N but x v = k → gd N but v x ≤ gd N but x v := by
  intro k
  induction k using Nat.strongRecOn with
  | ind k ih =>
    intro v hv hk
    by_cases e : v = x
    · subst e; exact Nat.le_refl _
    · by_cases hi : gd N but x v < INF
      · obtain ⟨l, u, hl, hb, hj, he⟩ := gd_ti hN hx hv e hi
        obtain ⟨-, hu, -, hc, -⟩ := jn_lt hN hl hj
        have h1 := ih (gd N but x u) (by omega) u hu rfl
        have h2 := gd_tri (but := but) hN hu hv _ x hx rfl
        have h3 := gd_cl (but := but) (v := u) (u := v) hN hv hl hb (by rw [jn_comm]; exact hj)
        rw [gd_0 hN hv] at h3
        omega
      · have := gd_inf (but := but) hN hv hx
        omega
theorem gd_sym (hN : Nok N) {x v : Nat} (hx : x < nN N) (hv : v < nN N) : gd N but x v = gd N but v x :=
  Nat.le_antisymm (gd_sym_le hN hv _ x hx rfl) (gd_sym_le hN hx _ v hv rfl)
/-- how many below n are so -/
def cnt (p : Nat → Bool) : Nat → Nat
  | 0 => 0
  | n + 1 => cnt p n + (if p n then 1 else 0)
theorem cnt_le {p : Nat → Bool} : ∀ {n : Nat}, cnt p n ≤ n
  | 0 => Nat.le_refl _
  | n + 1 => by unfold cnt; have := cnt_le (p := p) (n := n); split <;> omega
theorem cnt_mono {p q : Nat → Bool} : ∀ {n : Nat}, (∀ v, v < n → p v = true → q v = true) → cnt p n ≤ cnt q n
  | 0, _ => Nat.le_refl _
  | n + 1, h => by
    unfold cnt
    have h1 := cnt_mono (n := n) (fun v hv => h v (Nat.lt_succ_of_lt hv))
    have h2 := h n (Nat.lt_succ_self n)
    cases hp : p n with
    | false => simp; omega
    | true => rw [h2 hp]; simp; omega
theorem cnt_lt {p q : Nat → Bool} {k : Nat} (hp : p k = false) (hq : q k = true) : ∀ {n : Nat}, k < n → (∀ v, v < n → p v = true → q v = true) → cnt p n < cnt q n
  | 0, h, _ => absurd h (Nat.not_lt_zero k)
  | n + 1, h, hm => by
    unfold cnt
    by_cases e : k = n
    · subst e
      rw [hp, hq]
      have := cnt_mono (p := p) (q := q) (n := k) (fun v hv => hm v (Nat.lt_succ_of_lt hv))
      simp; omega
    · have h1 := cnt_lt hp hq (n := n) (by omega) (fun v hv => hm v (Nat.lt_succ_of_lt hv))
      have h2 := hm n (Nat.lt_succ_self n)
      cases hp2 : p n with
      | false => simp; omega
      | true => rw [h2 hp2]; simp; omega
theorem cnt_all {p : Nat → Bool} : ∀ {n : Nat}, cnt p n = n → ∀ v, v < n → p v = true
  | 0, _, v, hv => absurd hv (Nat.not_lt_zero v)
  | n + 1, h, v, hv => by
    unfold cnt at h
    have h1 := cnt_le (p := p) (n := n)
    cases hp : p n with
    | false => rw [hp] at h; simp at h; omega
    | true =>
      rw [hp] at h
      by_cases e : v = n
      · subst e; exact hp
      · exact cnt_all (n := n) (by simpa using h) v (by omega)
/-- how many NODES are nearer: it falls on the WAY -/
noncomputable def rk (N : Nt) (but : Option Nat) (d v : Nat) : Nat := cnt (fun u => decide (gd N but d u < gd N but d v)) (nN N)
theorem rk_lt {u v : Nat} (hu : u < nN N) (h : gd N but d u < gd N but d v) : rk N but d u < rk N but d v :=
  cnt_lt (k := u) (by simp) (by simpa using h) hu (fun w _ hw => by simp at hw ⊢; omega)
theorem rk_n {v : Nat} (hv : v < nN N) : rk N but d v < nN N := by
  have h : cnt (fun u => decide (gd N but d u < gd N but d v)) (nN N) < cnt (fun _ => true) (nN N) := cnt_lt (k := v) (by simp) rfl hv (fun _ _ _ => rfl)
  exact Nat.lt_of_lt_of_le h cnt_le
theorem gd_rk (hN : Nok N) (hd : d < nN N) : ∀ (k v : Nat), v < nN N → gd N but d v = k → gd N but d v < INF → gd N but d v ≤ 99 * rk N but d v := by
  intro k
  induction k using Nat.strongRecOn with
  | ind k ih =>
    intro v hv hk hi
    by_cases e : v = d
    · subst e; rw [gd_0 hN hd]; exact Nat.zero_le _
    · obtain ⟨l, u, hl, hb, hj, he⟩ := gd_ti hN hd hv e hi
      obtain ⟨-, hu, -, hc, hc9⟩ := jn_lt hN hl hj
      have h1 := ih (gd N but d u) (by omega) u hu rfl (by omega)
      have h2 := rk_lt (N := N) (but := but) (d := d) hu (show gd N but d u < gd N but d v by omega)
      omega
/-- a FAR that is one is small -/
theorem gd_small (hN : Nok N) (hd : d < nN N) {v : Nat} (hv : v < nN N) (hi : gd N but d v < INF) : gd N but d v ≤ 1089 := by
  have h1 := gd_rk hN hd _ v hv rfl hi
  have h2 := rk_n (N := N) (but := but) (d := d) hv
  have h3 := hN.2.1
  omega
end DST
