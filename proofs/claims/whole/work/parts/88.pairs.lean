/-! each call of the law: class and reference answer the same (printed by wip/whole/gen_law1.py) -/
section PR1
variable {γ δ : mS} {N : Nt} {wt wh : Nat} {a b c : Int32}
theorem pr_nodes (h : CI γ N wt wh) (h2 : MI δ N wt wh) (h3 : Dok N wt wh) : PairOK 59 3 99 3 [.int a] γ δ := by
  obtain ⟨-, -, -, hN⟩ := WP_ex (P_nodes h2 (Q := fun _ _ => Nok (sNodes N a)) (fun d' h' => h'.1))
  exact ⟨qNodes N a, (sNodes N a), _, _, D_nodes h hN (fun c' h' => ⟨rfl, h'⟩), P_nodes h2 (fun d' h' => ⟨rfl, h'⟩), Dok_nodes h3⟩
theorem pr_link (h : CI γ N wt wh) (h2 : MI δ N wt wh) (h3 : Dok N wt wh) : PairOK 60 4 100 4 [.int a, .int b, .int c] γ δ := by
  obtain ⟨-, -, -, hN⟩ := WP_ex (P_link h2 (Q := fun _ _ => Nok (sLink N a b c)) (fun d' h' => h'.1))
  exact ⟨qLink N a b c, (sLink N a b c), _, _, D_link h hN (fun c' h' => ⟨rfl, h'⟩), P_link h2 (fun d' h' => ⟨rfl, h'⟩), Dok_link h3⟩
theorem pr_cost (h : CI γ N wt wh) (h2 : MI δ N wt wh) (h3 : Dok N wt wh) : PairOK 61 4 101 4 [.int a, .int b] γ δ := by
  obtain ⟨-, -, -, hN⟩ := WP_ex (P_cost h2 (Q := fun _ _ => Nok (sCost N a b)) (fun d' h' => h'.1))
  exact ⟨qCost N a b, (sCost N a b), _, _, D_cost h hN (fun c' h' => ⟨rfl, h'⟩), P_cost h2 (fun d' h' => ⟨rfl, h'⟩), Dok_cost h3⟩
theorem pr_groups (h : CI γ N wt wh) (h2 : MI δ N wt wh) (h3 : Dok N wt wh) : PairOK 62 4 102 4 [.int a, .int b] γ δ := by
  obtain ⟨-, -, -, hN⟩ := WP_ex (P_groups h2 (Q := fun _ _ => Nok (sGroups N a b)) (fun d' h' => h'.1))
  exact ⟨qGroups N a b, (sGroups N a b), _, _, D_groups h hN (fun c' h' => ⟨rfl, h'⟩), P_groups h2 (fun d' h' => ⟨rfl, h'⟩), Dok_groups h3⟩
theorem pr_down (h : CI γ N wt wh) (h2 : MI δ N wt wh) (h3 : Dok N wt wh) : PairOK 63 3 103 4 [.int a, .int b] γ δ := by
  cases e : dwn N a b with
  | none => exact ⟨0, N, wt, wh, D_down h (fun _ c' h' => ⟨rfl, h'⟩) (fun w z e2 => by rw [e] at e2; cases e2), P_down h2 (fun _ d' h' => ⟨rfl, h'⟩) (fun w z e2 => by rw [e] at e2; cases e2), h3⟩
  | some q =>
    obtain ⟨w, z⟩ := q
    exact ⟨1, N, w, z, D_down h (fun e2 => by rw [e] at e2; cases e2) (fun w2 z2 e2 c' h' => by rw [e] at e2; cases e2; exact ⟨rfl, h'⟩), P_down h2 (fun e2 => by rw [e] at e2; cases e2) (fun w2 z2 e2 d' h' => by rw [e] at e2; cases e2; exact ⟨rfl, h'⟩), Dok_down h.1.1 e⟩
theorem pr_of (h : CI γ N wt wh) (h2 : MI δ N wt wh) (h3 : Dok N wt wh) : PairOK 64 3 111 3 [.int a, .int b] γ δ := ⟨qOf N wt wh a b, N, wt, wh, D_of h h3 (fun c' h' => ⟨rfl, h'⟩), P_of h2 h3 (fun d' h' => ⟨rfl, h'⟩), h3⟩
theorem pr_between (h : CI γ N wt wh) (h2 : MI δ N wt wh) (h3 : Dok N wt wh) : PairOK 65 3 113 3 [.int a, .int b] γ δ := ⟨qBetween N a b, N, wt, wh, D_between h (fun c' h' => ⟨rfl, h'⟩), P_between h2 (fun d' h' => ⟨rfl, h'⟩), h3⟩
theorem pr_far (h : CI γ N wt wh) (h2 : MI δ N wt wh) (h3 : Dok N wt wh) : PairOK 66 3 115 3 [.int a, .int b] γ δ := ⟨qFar N a b, N, wt, wh, D_far h (fun c' h' => ⟨rfl, h'⟩), P_far h2 (fun d' h' => ⟨rfl, h'⟩), h3⟩
theorem pr_next (h : CI γ N wt wh) (h2 : MI δ N wt wh) (h3 : Dok N wt wh) : PairOK 67 3 116 3 [.int a, .int b] γ δ := ⟨qNext N a b, N, wt, wh, D_next h (fun c' h' => ⟨rfl, h'⟩), P_next h2 (fun d' h' => ⟨rfl, h'⟩), h3⟩
theorem pr_ones (h : CI γ N wt wh) (h2 : MI δ N wt wh) (h3 : Dok N wt wh) : PairOK 68 4 124 4 [.int a, .int b, .int c] γ δ := ⟨qOnes N a b c, N, wt, wh, D_ones h (fun c' h' => ⟨rfl, h'⟩), P_ones h2 (fun d' h' => ⟨rfl, h'⟩), h3⟩
theorem pr_alternate (h : CI γ N wt wh) (h2 : MI δ N wt wh) (h3 : Dok N wt wh) : PairOK 69 3 125 3 [.int a, .int b] γ δ := ⟨qAlt N a b, N, wt, wh, D_alternate h (fun c' h' => ⟨rfl, h'⟩), P_alternate h2 (fun d' h' => ⟨rfl, h'⟩), h3⟩
theorem pr_space (h : CI γ N wt wh) (h2 : MI δ N wt wh) (h3 : Dok N wt wh) : PairOK 70 4 129 4 [.int a, .int b, .int c] γ δ := ⟨qSpace N a b c, N, wt, wh, D_space h (fun c' h' => ⟨rfl, h'⟩), P_space h2 (fun d' h' => ⟨rfl, h'⟩), h3⟩
theorem pr_tunnel (h : CI γ N wt wh) (h2 : MI δ N wt wh) (h3 : Dok N wt wh) : PairOK 71 6 132 5 [.int a, .int b, .int c] γ δ := ⟨qTunnel N a b c, N, wt, wh, D_tunnel h (fun c' h' => ⟨rfl, h'⟩), P_tunnel h2 (fun d' h' => ⟨rfl, h'⟩), h3⟩
theorem pr_repair (h : CI γ N wt wh) (h2 : MI δ N wt wh) (h3 : Dok N wt wh) : PairOK 72 3 134 3 [.int a, .int b] γ δ := ⟨qRepair N a b, N, wt, wh, D_repair h (fun c' h' => ⟨rfl, h'⟩), P_repair h2 (fun d' h' => ⟨rfl, h'⟩), h3⟩
theorem pr_send (h : CI γ N wt wh) (h2 : MI δ N wt wh) (h3 : Dok N wt wh) : PairOK 73 4 141 5 [.int a, .int b, .int c] γ δ := ⟨qSend N wt wh a b c, N, wt, wh, D_send h h3 (fun c' h' => ⟨rfl, h'⟩), P_send h2 h3 (fun d' h' => ⟨rfl, h'⟩), h3⟩
theorem pr_trace (h : CI γ N wt wh) (h2 : MI δ N wt wh) (h3 : Dok N wt wh) : PairOK 74 4 142 5 [.int a, .int b, .int c] γ δ := ⟨qTrace N wt wh a b c, N, wt, wh, D_trace h h3 (fun c' h' => ⟨rfl, h'⟩), P_trace h2 h3 (fun d' h' => ⟨rfl, h'⟩), h3⟩
theorem pr_behind (h : CI γ N wt wh) (h2 : MI δ N wt wh) (h3 : Dok N wt wh) : PairOK 75 4 144 4 [.int a, .int b, .int c] γ δ := ⟨qBehind N a b c, N, wt, wh, D_behind h (fun c' h' => ⟨rfl, h'⟩), P_behind h2 (fun d' h' => ⟨rfl, h'⟩), h3⟩
theorem pr_nextBehind (h : CI γ N wt wh) (h2 : MI δ N wt wh) (h3 : Dok N wt wh) : PairOK 76 4 145 4 [.int a, .int b, .int c] γ δ := ⟨qNextBehind N a b c, N, wt, wh, D_nextBehind h (fun c' h' => ⟨rfl, h'⟩), P_nextBehind h2 (fun d' h' => ⟨rfl, h'⟩), h3⟩
theorem pr_hit (h : CI γ N wt wh) (h2 : MI δ N wt wh) (h3 : Dok N wt wh) : PairOK 77 3 147 3 [.int a, .int b] γ δ := ⟨qHit N a b, N, wt, wh, D_hit h (fun c' h' => ⟨rfl, h'⟩), P_hit h2 (fun d' h' => ⟨rfl, h'⟩), h3⟩
theorem pr_holds (h : CI γ N wt wh) (h2 : MI δ N wt wh) (h3 : Dok N wt wh) : PairOK 78 4 149 7 [.int a, .int b, .int c] γ δ := ⟨qHolds N a b c, N, wt, wh, D_holds h (fun c' h' => ⟨rfl, h'⟩), P_holds h2 (fun d' h' => ⟨rfl, h'⟩), h3⟩
theorem pr_round (h : CI γ N wt wh) (h2 : MI δ N wt wh) (h3 : Dok N wt wh) : PairOK 79 4 150 8 [.int a, .int b, .int c] γ δ := ⟨qRound N a b c, N, wt, wh, D_round h (fun c' h' => ⟨rfl, h'⟩), P_round h2 (fun d' h' => ⟨rfl, h'⟩), h3⟩
theorem pr_covered (h : CI γ N wt wh) (h2 : MI δ N wt wh) (h3 : Dok N wt wh) : PairOK 80 4 153 5 [.int a] γ δ := ⟨qCovered N a, N, wt, wh, D_covered h (fun c' h' => ⟨rfl, h'⟩), P_covered h2 (fun d' h' => ⟨rfl, h'⟩), h3⟩
theorem pr_cut (h : CI γ N wt wh) (h2 : MI δ N wt wh) (h3 : Dok N wt wh) : PairOK 81 3 154 7 [.int a, .int b] γ δ := ⟨qCut N a b, N, wt, wh, D_cut h (fun c' h' => ⟨rfl, h'⟩), P_cut h2 (fun d' h' => ⟨rfl, h'⟩), h3⟩
theorem pr_spare (h : CI γ N wt wh) (h2 : MI δ N wt wh) (h3 : Dok N wt wh) : PairOK 82 3 155 5 [.int a, .int b] γ δ := ⟨qSpare N a b, N, wt, wh, D_spare h (fun c' h' => ⟨rfl, h'⟩), P_spare h2 (fun d' h' => ⟨rfl, h'⟩), h3⟩
theorem pr_centre (h : CI γ N wt wh) (h2 : MI δ N wt wh) (h3 : Dok N wt wh) : PairOK 83 5 156 6 [] γ δ := ⟨qCentre N , N, wt, wh, D_centre h (fun c' h' => ⟨rfl, h'⟩), P_centre h2 (fun d' h' => ⟨rfl, h'⟩), h3⟩
theorem pr_count (h : CI γ N wt wh) (h2 : MI δ N wt wh) (h3 : Dok N wt wh) : PairOK 84 2 157 4 [.int a] γ δ := ⟨qCount N wt wh a, N, wt, wh, D_count h h3 (fun c' h' => ⟨rfl, h'⟩), P_count h2 h3 (fun d' h' => ⟨rfl, h'⟩), h3⟩
end PR1
