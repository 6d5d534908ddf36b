/-! CUT: flows and sets -/
def sumI (f : Nat → Int) : Nat → Int
  | 0 => 0
  | n + 1 => sumI f n + f n
theorem sumI_congr {f g : Nat → Int} : ∀ {n : Nat}, (∀ k, k < n → f k = g k) → sumI f n = sumI g n
  | 0, _ => rfl
  | n + 1, h => by unfold sumI; rw [sumI_congr (fun k hk => h k (by omega)), h n (by omega)]
theorem sumI_up {f g : Nat → Int} {k : Nat} {x : Int} (hk : g k = f k + x) (hn : ∀ j, j ≠ k → g j = f j) : ∀ {n : Nat}, k < n → sumI g n = sumI f n + x
  | 0, h => absurd h (Nat.not_lt_zero k)
  | n + 1, h => by
    unfold sumI
    by_cases e : k = n
    · subst e
      rw [sumI_congr (g := f) (fun j hj => hn j (by omega)), hk]; omega
    · rw [sumI_up hk hn (n := n) (by omega), hn n (by omega)]; omega
theorem sumI_le {f : Nat → Int} {p : Nat → Bool} : ∀ {n : Nat}, (∀ k, k < n → f k ≤ if p k then 1 else 0) → sumI f n ≤ (cnt p n : Int)
  | 0, _ => by show (0 : Int) ≤ ((0 : Nat) : Int); omega
  | n + 1, h => by
    have h1 := sumI_le (n := n) (fun k hk => h k (by omega))
    have h2 := h n (by omega)
    unfold sumI cnt
    cases hp : p n <;> rw [hp] at h2 <;> simp only [if_true, Bool.false_eq_true, if_false] at h2 ⊢ <;> omega
theorem sumI_eq {f : Nat → Int} {p : Nat → Bool} : ∀ {n : Nat}, (∀ k, k < n → f k = if p k then 1 else 0) → sumI f n = (cnt p n : Int)
  | 0, _ => rfl
  | n + 1, h => by
    have h1 := sumI_eq (n := n) (fun k hk => h k (by omega))
    have h2 := h n (by omega)
    unfold sumI cnt
    cases hp : p n <;> rw [hp] at h2 <;> simp only [if_true, Bool.false_eq_true, if_false] at h2 ⊢ <;> omega
def iS (S : Nat → Bool) (v : Nat) : Int := if S v then 1 else 0
/-- the way a LINK is used from v -/
def dr (N : Nt) (l v : Nat) : Int := if nA N l = v then 1 else -1
/-- what a LINK carries out of S -/
def flS (N : Nt) (u : Nat → Int) (S : Nat → Bool) (l : Nat) : Int := if u l = 1 then iS S (nA N l) - iS S (nB N l) else if u l = -1 then iS S (nB N l) - iS S (nA N l) else 0
def u3 (x : Int) : Prop := x = -1 ∨ x = 0 ∨ x = 1
/-- a flow of k ways from a to b, and the rest of one from t -/
def FV (N : Nt) (u : Nat → Int) (k a b t : Nat) : Prop := (∀ l, l < nM N → u3 (u l)) ∧ ∀ S, sumI (flS N u S) (nM N) = if iS S a - iS S b = 0 then iS S t - iS S b else if iS S a - iS S b = 1 then k + (iS S t - iS S b) else -k + (iS S t - iS S b)
def uup (u : Nat → Int) (l : Nat) (x : Int) : Nat → Int := fun j => if j = l then x else u j
theorem uup_s {u : Nat → Int} {l : Nat} {x : Int} : uup u l x l = x := if_pos rfl
theorem uup_n {u : Nat → Int} {l j : Nat} {x : Int} (h : j ≠ l) : uup u l x j = u j := if_neg h
section FL1
variable {N : Nt} {u : Nat → Int} {k a b t v l : Nat}
theorem iS_01 {S : Nat → Bool} {v : Nat} : iS S v = 0 ∨ iS S v = 1 := by unfold iS; cases S v <;> simp
theorem dr_jn (hN : Nok N) {v w : Nat} (hl : l < nM N) (hj : jn N l v w = true) : (dr N l v = 1 ∧ nA N l = v ∧ nB N l = w) ∨ (dr N l v = -1 ∧ nA N l = w ∧ nB N l = v) := by
  obtain ⟨-, -, hne, -⟩ := jn_lt hN hl hj
  unfold dr
  rcases jn_iff.mp hj with ⟨h1, h2⟩ | ⟨h1, h2⟩
  · exact Or.inl ⟨if_pos h1, h1, h2⟩
  · exact Or.inr ⟨if_neg (fun q => hne (by rw [← q, h1])), h1, h2⟩
/-- a step of a way: from v over a LINK to where the rest begins -/
theorem FV_step (hN : Nok N) (hl : l < nM N) (hj : jn N l v t = true) (hf : u l ≠ dr N l v) (h : FV N u k a b t) : FV N (uup u l (u l + dr N l v)) k a b v := by
  have h3 := h.1 l hl
  have hd := dr_jn hN hl hj
  have hu3 : u3 (u l + dr N l v) := by unfold u3 at h3 ⊢; omega
  refine ⟨fun j hj => ?_, fun S => ?_⟩
  · by_cases e : j = l
    · subst e; rw [uup_s]; exact hu3
    · rw [uup_n e]; exact h.1 j hj
  · have hS := h.2 S
    have e1 : sumI (flS N (uup u l (u l + dr N l v)) S) (nM N) = sumI (flS N u S) (nM N) + (iS S v - iS S t) := by
      refine sumI_up (k := l) ?_ (fun j hj => ?_) hl
      · unfold flS
        rw [uup_s]
        unfold u3 at h3
        rcases hd with ⟨d1, d2, d3⟩ | ⟨d1, d2, d3⟩
        · rw [d1, d2, d3]; rw [d1] at hf
          rcases h3 with z | z | z
          · rw [z]; simp; omega
          · rw [z]; simp
          · exact absurd z hf
        · rw [d1, d2, d3]; rw [d1] at hf
          rcases h3 with z | z | z
          · exact absurd z hf
          · rw [z]; simp
          · rw [z]; simp; omega
      · unfold flS; rw [uup_n hj]
    rw [e1, hS]
    split
    · omega
    · split <;> omega
theorem FV_0 : FV N (fun _ => 0) 0 a b b := by
  refine ⟨fun _ _ => Or.inr (Or.inl rfl), fun S => ?_⟩
  have : sumI (flS N (fun _ => 0) S) (nM N) = sumI (fun _ => 0) (nM N) := sumI_congr (fun k _ => by unfold flS; simp)
  rw [this]
  have hz : ∀ n, sumI (fun _ => (0 : Int)) n = 0 := by
    intro n
    induction n with
    | zero => rfl
    | succ n ih => unfold sumI; rw [ih]; rfl
  rw [hz]
  split
  · omega
  · split <;> omega
/-- a whole way more -/
theorem FV_way (h : FV N u k a b a) : FV N u (k + 1) a b b := by
  refine ⟨h.1, fun S => ?_⟩
  rw [h.2 S]
  have h1 := iS_01 (S := S) (v := a)
  have h2 := iS_01 (S := S) (v := b)
  split
  · omega
  · split <;> omega
theorem fl_le (h3 : u3 (u l)) {S : Nat → Bool} : flS N u S l ≤ if (S (nA N l) != S (nB N l)) then 1 else 0 := by
  unfold flS iS
  unfold u3 at h3
  rcases h3 with z | z | z <;> rw [z] <;> cases S (nA N l) <;> cases S (nB N l) <;> simp
/-- no set is left by fewer LINKS than there are ways -/
theorem FV_le (h : FV N u k a b b) {S : Nat → Bool} (ha : S a = true) (hb : S b = false) : k ≤ cnt (fun l => S (nA N l) != S (nB N l)) (nM N) := by
  have h1 := sumI_le (f := flS N u S) (p := fun l => S (nA N l) != S (nB N l)) (n := nM N) (fun l hl => fl_le (h.1 l hl))
  rw [h.2 S] at h1
  have e1 : iS S a = 1 := if_pos ha
  have e2 : iS S b = 0 := if_neg (by rw [hb]; exact Bool.false_ne_true)
  rw [e1, e2] at h1
  simp at h1
  omega
/-- a set that nothing free leaves is left by as many LINKS as there are ways -/
theorem FV_eq (h : FV N u k a b b) {S : Nat → Bool} (ha : S a = true) (hb : S b = false) (hs : ∀ l, l < nM N → (S (nA N l) = true → S (nB N l) = false → u l = 1) ∧ (S (nB N l) = true → S (nA N l) = false → u l = -1)) : k = cnt (fun l => S (nA N l) != S (nB N l)) (nM N) := by
  have h1 := sumI_eq (f := flS N u S) (p := fun l => S (nA N l) != S (nB N l)) (n := nM N) (fun l hl => by
    obtain ⟨s1, s2⟩ := hs l hl
    have h3 := h.1 l hl
    unfold u3 at h3
    unfold flS iS
    cases hA : S (nA N l) <;> cases hB : S (nB N l)
    · simp
    · rw [s2 hB hA]; simp
    · rw [s1 hA hB]; simp
    · simp)
  rw [h.2 S] at h1
  have e1 : iS S a = 1 := if_pos ha
  have e2 : iS S b = 0 := if_neg (by rw [hb]; exact Bool.false_ne_true)
  rw [e1, e2] at h1
  simp at h1
  omega
end FL1
