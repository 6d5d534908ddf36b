/-! the class: public methods of plans and packets -/
section CL6
variable {c : mS} {N : Nt} {wt wh : Nat} {Q : Option Int32 → mS → Prop} {a b a1 : Int32}
theorem CS_b3 {c' : mS} (h : CS c N wt wh) (hb : but1 3 c c') : CS c' N wt wh := CS_scr h (scr_but hb (by omega))
theorem D_ones (h : CI c N wt wh) (kk : ∀ c' : mS, CI c' N wt wh → Q (some (qOnes N a b a1)) c') : WP mLayH 68 0 [some (.ref 0), some (.int a), some (.int b), some (.int a1)] [] c Q := by
  simp only [w_X6_ones_0, w_X6_ones_1, w_X6_ones_4, w_X6_ones_7, w_X6_ones_8, w_X6_ones_11, w_X6_ones_12, w_X6_ones_15, w_X6_ones_16, w_X6_ones_17, w_X6_ones_20, w_X6_ones_23, w_X6_ones_24, w_X6_ones_27, w_X6_ones_28, w_X6_ones_31, w_X6_ones_34, w_X6_ones_35]
  refine C_settle h (fun c1 h1 => ?_)
  rw [mKV_none]
  unfold qOnes at kk
  refine C_aim h1 (fun hw => ?_) (fun s dd e l c2 hw _ _ hH b2 hP => ?_)
  · rw [hw] at kk
    rw [mKI_some, if_pos rfl]; exact kk c1 (CS_I h1)
  · rw [hw] at kk
    rw [mKI_some, if_neg (by decide), C_ones hP, mKI_some]
    have k := kk c2 (CS_I (CS_b3 h1 b2))
    unfold onO
    dsimp only at k
    cases hi : ix 4 a1 with
    | none => rw [hi] at k; exact k
    | some w => rw [hi] at k; exact k
theorem D_alternate (h : CI c N wt wh) (kk : ∀ c' : mS, CI c' N wt wh → Q (some (qAlt N a b)) c') : WP mLayH 69 0 [some (.ref 0), some (.int a), some (.int b)] [] c Q := by
  simp only [w_X6_alternate_0, w_X6_alternate_1, w_X6_alternate_4, w_X6_alternate_7, w_X6_alternate_8, w_X6_alternate_11, w_X6_alternate_12, w_X6_alternate_15, w_X6_alternate_16, w_X6_alternate_17, w_X6_alternate_20, w_X6_alternate_23, w_X6_alternate_24, w_X6_alternate_27, w_X6_alternate_28, w_X6_alternate_31, w_X6_alternate_34, w_X6_alternate_37, w_X6_alternate_38]
  refine C_settle h (fun c1 h1 => ?_)
  rw [mKV_none]
  unfold qAlt at kk
  refine C_aim h1 (fun hw => ?_) (fun s dd e l c2 hw _ _ hH b2 hP => ?_)
  · rw [hw] at kk
    rw [mKI_some, if_pos rfl]; exact kk c1 (CS_I h1)
  · rw [hw] at kk
    rw [mKI_some, if_neg (by decide), C_best (CS_b3 h1 b2) hH hP, mKI_some]
    exact kk c2 (CS_I (CS_b3 h1 b2))
theorem D_repair (h : CI c N wt wh) (kk : ∀ c' : mS, CI c' N wt wh → Q (some (qRepair N a b)) c') : WP mLayH 72 0 [some (.ref 0), some (.int a), some (.int b)] [] c Q := by
  simp only [w_X6_repair_0, w_X6_repair_1, w_X6_repair_4, w_X6_repair_7, w_X6_repair_8, w_X6_repair_11, w_X6_repair_12, w_X6_repair_15, w_X6_repair_16, w_X6_repair_17, w_X6_repair_20, w_X6_repair_23, w_X6_repair_24, w_X6_repair_27, w_X6_repair_28, w_X6_repair_31, w_X6_repair_34, w_X6_repair_37, w_X6_repair_38]
  refine C_settle h (fun c1 h1 => ?_)
  rw [mKV_none]
  unfold qRepair at kk
  refine C_aim h1 (fun hw => ?_) (fun s dd e l c2 hw _ _ hH b2 hP => ?_)
  · rw [hw] at kk
    rw [mKI_some, if_pos rfl]; exact kk c1 (CS_I h1)
  · rw [hw] at kk
    rw [mKI_some, if_neg (by decide)]
    refine C_choose (CS_b3 h1 b2) hH hP (fun c3 _ h3 _ _ _ => ?_)
    rw [mKI_some]
    exact kk c3 (CS_I h3)
theorem D_space (h : CI c N wt wh) (kk : ∀ c' : mS, CI c' N wt wh → Q (some (qSpace N a b a1)) c') : WP mLayH 70 0 [some (.ref 0), some (.int a), some (.int b), some (.int a1)] [] c Q := by
  simp only [w_X6_space_0, w_X6_space_1, w_X6_space_4, w_X6_space_7, w_X6_space_8, w_X6_space_11, w_X6_space_12, w_X6_space_15, w_X6_space_16, w_X6_space_17, w_X6_space_20, w_X6_space_23, w_X6_space_24, w_X6_space_25, w_X6_space_26, w_X6_space_52, w_X6_space_53, w_X6_space_56, w_X6_space_57, w_X6_space_60, w_X6_space_63, w_X6_space_64, w_X6_space_65, w_X6_space_68, w_X6_space_69, w_X6_space_72, w_X6_space_75, w_X6_space_76, w_X6_space_77, w_X6_space_80, w_X6_space_81, w_X6_space_84, w_X6_space_87, w_X6_space_88, w_X6_space_89]
  refine C_settle h (fun c1 h1 => ?_)
  rw [mKV_none]
  unfold qSpace at kk
  refine C_aim h1 (fun hw => ?_) (fun s dd e l c2 hw _ _ hH b2 hP => ?_)
  · rw [hw] at kk
    rw [mKI_some, if_neg (fun q => q rfl)]; exact kk c1 (CS_I h1)
  · rw [hw] at kk
    have h2 := CS_b3 h1 b2
    rw [mKI_some, if_pos (by decide)]
    simp only [C_rself h2 hH hP, C_reach h2 hH hP, C_coming h2 hH hP, mKI_some]
    have k := kk c2 (CS_I h2)
    dsimp only at k
    by_cases h0 : a1 = 0
    · subst h0; rw [if_pos rfl]; exact k
    rw [if_neg h0]
    by_cases h1 : a1 = 1
    · subst h1; rw [if_pos rfl]; exact k
    rw [if_neg h1]
    by_cases h2 : a1 = 2
    · subst h2; rw [if_pos rfl]; exact k
    rw [if_neg h2]
    cases hi : ix 3 a1 with
    | none => rw [hi] at k; exact k
    | some w =>
      obtain ⟨rfl, hw⟩ := ix_some (by decide) hi
      rcases (show w = 0 ∨ w = 1 ∨ w = 2 by omega) with rfl | rfl | rfl
      · exact absurd rfl h0
      · exact absurd rfl h1
      · exact absurd rfl h2
theorem D_tunnel (h : CI c N wt wh) (kk : ∀ c' : mS, CI c' N wt wh → Q (some (qTunnel N a b a1)) c') : WP mLayH 71 0 [some (.ref 0), some (.int a), some (.int b), some (.int a1), none, none] [] c Q := by
  have h12 := h.1.1.2.1
  simp only [w_X6_tunnel_0, w_X6_tunnel_1, w_X6_tunnel_4, w_X6_tunnel_7, w_X6_tunnel_8, w_X6_tunnel_11, w_X6_tunnel_12, w_X6_tunnel_15, w_X6_tunnel_16, w_X6_tunnel_17, w_X6_tunnel_20, w_X6_tunnel_23, w_X6_tunnel_24, w_X6_tunnel_25, w_X6_tunnel_26, w_X6_tunnel_29, w_X6_tunnel_30, w_X6_tunnel_33, w_X6_tunnel_36, w_X6_tunnel_38, w_X6_tunnel_39, w_X6_tunnel_42, w_X6_tunnel_43, w_X6_tunnel_46, w_X6_tunnel_49, w_X6_tunnel_51, w_X6_tunnel_52, w_X6_tunnel_80, w_X6_tunnel_81, w_X6_tunnel_84, w_X6_tunnel_85, w_X6_tunnel_88, w_X6_tunnel_90, w_X6_tunnel_92, w_X6_tunnel_93, w_X6_tunnel_96, w_X6_tunnel_97, w_X6_tunnel_98, w_X6_tunnel_101, w_X6_tunnel_102, w_X6_tunnel_105, w_X6_tunnel_107, w_X6_tunnel_109, w_X6_tunnel_112, w_X6_tunnel_115, w_X6_tunnel_116, w_X6_tunnel_119, w_X6_tunnel_122, w_X6_tunnel_125, w_X6_tunnel_126, w_X6_tunnel_127, w_X6_tunnel_128, w_X6_tunnel_131, w_X6_tunnel_132, w_X6_tunnel_135, w_X6_tunnel_137, w_X6_tunnel_139, w_X6_tunnel_142, w_X6_tunnel_145, w_X6_tunnel_146, w_X6_tunnel_149, w_X6_tunnel_152, w_X6_tunnel_155, w_X6_tunnel_156, w_X6_tunnel_157, w_X6_tunnel_158]
  refine C_settle h (fun c1 h1 => ?_)
  rw [mKV_none]
  unfold qTunnel at kk
  refine C_aim h1 (fun hw => ?_) (fun s dd e l c2 hw _ _ hH b2 hP => ?_)
  · rw [hw] at kk
    rw [mKI_some, if_neg (fun q => q rfl)]; exact kk c1 (CS_I h1)
  · rw [hw] at kk
    have h2 := CS_b3 h1 b2
    rw [mKI_some, if_pos (by decide), C_reach h2 hH hP, mKI_some, C_coming h2 hH hP, mKI_some]
    dsimp only at kk
    by_cases e0 : a1 = 0
    · subst e0
      rw [if_pos rfl, mk_and (by omega), C_near h2 hH.1 hP, mKI_some]
      exact kk c2 (CS_I h2)
    rw [if_neg e0]
    by_cases e1 : a1 = 1
    · subst e1
      rw [if_pos rfl]
      refine C_bridge h2 hH hP (fun c3 b3 h3 hP3 _ hB => ?_)
      have k := kk c3 (CS_I h3)
      rw [mKI_some, hB.1]
      have eb : (brP N s dd e (nC N l) (nN N)).1 = brE N s dd e (nC N l) := rfl
      rw [eb]
      rw [show ix 3 1 = some 1 from rfl] at k
      cases hb : brE N s dd e (nC N l) with
      | none => rw [hb] at k; exact k
      | some w => rw [hb] at k; rw [if_neg bs1]; exact k
    rw [if_neg e1]
    by_cases e2 : a1 = 2
    · subst e2
      rw [if_pos rfl]
      refine C_bridge h2 hH hP (fun c3 b3 h3 hP3 _ hB => ?_)
      have k := kk c3 (CS_I h3)
      rw [mKI_some, hB.2.1]
      have eb : (brP N s dd e (nC N l) (nN N)).1 = brE N s dd e (nC N l) := rfl
      rw [eb]
      rw [show ix 3 2 = some 2 from rfl] at k
      cases hb : brE N s dd e (nC N l) with
      | none => rw [hb] at k; exact k
      | some w => rw [hb] at k; rw [if_neg bs1]; exact k
    rw [if_neg e2]
    have k := kk c2 (CS_I h2)
    cases hi : ix 3 a1 with
    | none => rw [hi] at k; exact k
    | some w =>
      obtain ⟨rfl, hw⟩ := ix_some (by decide) hi
      rcases (show w = 0 ∨ w = 1 ∨ w = 2 by omega) with rfl | rfl | rfl
      · exact absurd rfl e0
      · exact absurd rfl e1
      · exact absurd rfl e2
theorem C_canSend (h : CB c N wt wh) (hD : Dok N wt wh) : WP mLayH 89 0 [some (.ref 0), some (.int a), some (.int b)] [] c Q ↔ Q (some (bi (csd N wt wh a b).isSome)) c := by
  have hN := h.1
  have h12 := hN.2.1
  simp only [w_X6_canSend_0, w_X6_canSend_1, w_X6_canSend_4, w_X6_canSend_5, w_X6_canSend_6, w_X6_canSend_9, w_X6_canSend_12, w_X6_canSend_13, w_X6_canSend_16, w_X6_canSend_17, w_X6_canSend_20, w_X6_canSend_23, w_X6_canSend_24, w_X6_canSend_27, w_X6_canSend_28, w_X6_canSend_31, w_X6_canSend_34, w_X6_canSend_35, w_X6_canSend_38, w_X6_canSend_39, C_areTwo h, mKI_some, true_or, or_true, true_and]
  rw [two_pair hN]
  unfold csd
  rcases two_cs hN a b with ⟨h1, -⟩ | ⟨x, y, rfl, rfl, hx, hy⟩
  · rw [h1]; exact Iff.rfl
  · rw [two_nI hN hx hy]
    dsimp only
    simp only [C_isAtNode h hD hx, C_isAtNode h hD hy, mKI_some, bd0]
    by_cases e : x = y
    · rw [if_pos (fun q => q e), if_pos (Or.inl e)]; exact Iff.rfl
    · rw [if_neg (fun q => q e)]
      by_cases e1 : wt = 2 ∧ wh = x
      · rw [if_pos (fun q => q e1), if_pos (Or.inr ⟨e1.1, Or.inl e1.2⟩)]; exact Iff.rfl
      · rw [if_neg (fun q => q e1)]
        by_cases e2 : wt = 2 ∧ wh = y
        · rw [if_pos (fun q => q e2), if_pos (Or.inr ⟨e2.1, Or.inr e2.2⟩)]; exact Iff.rfl
        · rw [if_neg (fun q => q e2), if_neg (fun q => by omega)]; exact Iff.rfl
theorem D_send (h : CI c N wt wh) (hD : Dok N wt wh) (kk : ∀ c' : mS, CI c' N wt wh → Q (some (qSend N wt wh a b a1)) c') : WP mLayH 73 0 [some (.ref 0), some (.int a), some (.int b), some (.int a1)] [] c Q := by
  have hN := h.1.1
  simp only [w_X6_send_0, w_X6_send_1, w_X6_send_2, w_X6_send_3, w_X6_send_6, w_X6_send_9, w_X6_send_10, w_X6_send_11, w_X6_send_12, w_X6_send_15, w_X6_send_18, w_X6_send_19, w_X6_send_22, w_X6_send_23, w_X6_send_26, w_X6_send_27, w_X6_send_30, w_X6_send_31, w_X6_send_34, w_X6_send_35, w_X6_send_38, w_X6_send_41, w_X6_send_42, w_X6_send_43, w_X6_send_46, w_X6_send_47, w_X6_send_76, w_X6_send_77, w_X6_send_80, w_X6_send_83, w_X6_send_84, w_X6_send_85, w_X6_send_88, w_X6_send_91, w_X6_send_92, w_X6_send_93, w_X6_send_96, w_X6_send_99, w_X6_send_100, w_X6_send_101, w_X6_send_104, w_X6_send_107, w_X6_send_108, w_X6_send_109, C_canSend h.1 hD, mKI_some]
  unfold qSend at kk
  cases hc : csd N wt wh a b with
  | none => rw [hc] at kk; exact kk c h
  | some p =>
    obtain ⟨x, y⟩ := p
    rw [hc] at kk
    obtain ⟨rfl, rfl, hx, hy, -⟩ := csd_some hN hc
    rw [if_pos (show ¬ bi (some (x, y)).isSome = 0 from bt1)]
    refine C_settle h (fun c1 h1 => ?_)
    rw [mKV_none, C_broken h1.1 hD, mKI_some]
    refine C_travel h1 hx hy rfl (fun c2 b2 hp => ?_)
    rw [mKV_none, hp.1, hp.2.1, hp.2.2.1, hp.2.2.2.1]
    have k := kk c2 (CS_I (CS_scr h1 b2))
    dsimp only at k
    by_cases e0 : a1 = 0
    · subst e0; rw [if_pos rfl]; exact k
    rw [if_neg e0]
    by_cases e1 : a1 = 1
    · subst e1; rw [if_pos rfl]; exact k
    rw [if_neg e1]
    by_cases e2 : a1 = 2
    · subst e2; rw [if_pos rfl]; exact k
    rw [if_neg e2]
    by_cases e3 : a1 = 3
    · subst e3; rw [if_pos rfl]; exact k
    rw [if_neg e3]
    cases hi : ix 4 a1 with
    | none => rw [hi] at k; exact k
    | some w =>
      obtain ⟨rfl, hw⟩ := ix_some (by decide) hi
      rcases (show w = 0 ∨ w = 1 ∨ w = 2 ∨ w = 3 by omega) with rfl | rfl | rfl | rfl
      · exact absurd rfl e0
      · exact absurd rfl e1
      · exact absurd rfl e2
      · exact absurd rfl e3
theorem D_trace (h : CI c N wt wh) (hD : Dok N wt wh) (kk : ∀ c' : mS, CI c' N wt wh → Q (some (qTrace N wt wh a b a1)) c') : WP mLayH 74 0 [some (.ref 0), some (.int a), some (.int b), some (.int a1)] [] c Q := by
  have hN := h.1.1
  simp only [w_X6_trace_0, w_X6_trace_1, w_X6_trace_2, w_X6_trace_3, w_X6_trace_6, w_X6_trace_9, w_X6_trace_10, w_X6_trace_11, w_X6_trace_12, w_X6_trace_15, w_X6_trace_18, w_X6_trace_19, w_X6_trace_22, w_X6_trace_23, w_X6_trace_26, w_X6_trace_27, w_X6_trace_30, w_X6_trace_31, w_X6_trace_34, w_X6_trace_35, w_X6_trace_38, w_X6_trace_41, w_X6_trace_42, w_X6_trace_43, w_X6_trace_46, w_X6_trace_47, w_X6_trace_50, w_X6_trace_51, w_X6_trace_54, C_canSend h.1 hD, mKI_some]
  unfold qTrace at kk
  cases hc : csd N wt wh a b with
  | none => rw [hc] at kk; exact kk c h
  | some p =>
    obtain ⟨x, y⟩ := p
    rw [hc] at kk
    obtain ⟨rfl, rfl, hx, hy, -⟩ := csd_some hN hc
    rw [if_pos (show ¬ bi (some (x, y)).isSome = 0 from bt1)]
    refine C_settle h (fun c1 h1 => ?_)
    rw [mKV_none, C_broken h1.1 hD, mKI_some]
    refine C_travel h1 hx hy rfl (fun c2 b2 hp => ?_)
    have h36 := psd_st (dn := sdn N wt wh) hN hx hy
    have k := kk c2 (CS_I (CS_scr h1 b2))
    dsimp only at k
    simp only [mKV_none, w_X4_stop_0, w_X4_stop_1, w_X4_stop_4, w_X4_stop_5, w_X4_stop_6, w_X4_stop_9, w_X4_stop_12, w_X4_stop_13, w_X4_stop_16, w_X4_stop_17, w_X4_stop_18, w_X4_stop_21, w_X4_stop_22, hp.2.1, mKI_some]
    rcases pk_ix a1 (show kSt (psd N (sdn N wt wh) x y) + 1 < 2 ^ 31 by omega) with q | q | ⟨j, hj, rfl⟩
    · rw [ix_neg q] at k
      rw [if_pos q]; exact k
    · rw [ix_big q] at k
      rw [if_pos (show nI (kSt (psd N (sdn N wt wh) x y)) < a1 by
        have : nI (kSt (psd N (sdn N wt wh) x y)) < nI (kSt (psd N (sdn N wt wh) x y) + 1) := nI_lt (by omega) (by omega)
        exact Int32.lt_of_lt_of_le this q)]
      split <;> exact k
    · rw [ix_nI (by omega) hj] at k
      rw [if_neg (nI_pos (by omega)), if_neg (fun q => by rw [kLt (by omega) (by omega)] at q; omega)]
      refine ⟨(kIn (by omega)).mpr (by omega), ?_⟩
      rw [kCl (by omega), hp.2.2.2.2.2.2.2.1 j (by omega)]
      exact k
end CL6
