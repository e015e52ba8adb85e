/-! ===== the reference settles ===== -/
/-- within a round that began with J, before relation r -/
def ms_rd (d n r : Nat) (I J L : rs_M) : Prop := rm_tr d J L ∧ (∀ j, n ≤ j → rm_sm d J L j) ∧ rm_fr d I L ∧ bx_ok n (ml L d) (mh L d) ∧ bx_le n (ml I d) (mh I d) (ml L d) (mh L d) ∧ bx_kp n (mt_G I) (mt_S I) (mt_Q I) (ml I d) (mh I d) (ml L d) (mh L d) ∧ (L 88 20 = 0 → ∀ s, s < r → mt_G I s → bx_sup (mt_S I s) (mt_Q I s) (ml L d) (mh L d))
theorem ms_step {d n r : Nat} {I J L M : rs_M} (net : mt_net I n) (h : ms_rd d n r I J L) (hG : mt_G I r) (hn : rm_nar d (mt_S I r) (mt_Q I r) L M 1) : ms_rd d n (r + 1) I J M := by
  obtain ⟨h1, h2, h3, h4, h5, h6, h7⟩ := h
  obtain ⟨t, hn⟩ := hn
  obtain ⟨_, v, snd, out, sup⟩ := hn.resolve_left (fun g => by omega)
  obtain ⟨mm, a1, a2, a3, a4, a5, a6⟩ := nt_mask net.1 (net.2.2.1 r hG.1)
  have a5 : ∀ j, mt_S I r j → j < n := a5
  have hs := rm_sm_tt h1 t
  have ok : bx_ok n (ml M d) (mh M d) := fun j hj => by
    have p1 := h4 j hj
    have p2 := t.2.1 j
    by_cases g : mt_S I r j
    · have := v j g
      omega
    · have := out j g
      unfold rm_sm at this
      omega
  refine ⟨rm_tr_tr h1 t, fun j hj => (hs j).mpr ⟨h2 j hj, out j (fun g => by have := a5 j g; omega)⟩, rm_fr_tr h3 t.1, ok, bx_le_tr h5 (fun j _ => t.2.1 j), kp_step h6 hG a5 snd (fun j hj => out j hj), fun e s hs' hGs => ?_⟩
  obtain ⟨e1, e2⟩ := t.2.2.mp e
  by_cases g : s = r
  · subst g; exact sup e2
  · exact bx_sup_eq (fun j _ => e2 j) (h7 e1 s (by omega) hGs)
theorem ms_skip {d n r : Nat} {I J L : rs_M} (h : ms_rd d n r I J L) (hG : ¬ mt_G I r) : ms_rd d n (r + 1) I J L := by
  obtain ⟨h1, h2, h3, h4, h5, h6, h7⟩ := h
  refine ⟨h1, h2, h3, h4, h5, h6, fun e s hs hGs => h7 e s ?_ hGs⟩
  have : s ≠ r := fun g => hG (by rw [← g]; exact hGs)
  omega
set_option maxRecDepth 100000 in
set_option maxHeartbeats 2000000 in
theorem cm_settle {u e d n : Nat} {I : rs_M} {K : rs_K} (he : 5 ≤ e) (hd : d ≤ 11) (net : mt_net I n) (hbx : bx_ok n (ml I d) (mh I d)) (h1 : ∀ J, rm_fr d I J → bx_fix n (mt_G I) (mt_S I) (mt_Q I) (ml I d) (mh I d) (ml J d) (mh J d) → bx_ok n (ml J d) (mh J d) → K (some (.inl 1)) J) (h0 : ∀ J, rm_fr d I J → bx_brk n (mt_G I) (mt_S I) (mt_Q I) (ml I d) (mh I d) → K (some (.inl 0)) J) : rs_run u e 94 0 (rs_en0 [.inr (.inr 88), .inl (d : Int)] 3) [] I K := by
  show rs_run u e 94 0 [some (.inr (.inr 88)), some (.inl (d : Int)), none] [] I K
  have g88 : rs_sh 88 = (1, 8) := by decide +kernel
  have g95 : rs_sh 95 = (3, 12) := by decide +kernel
  have f88_9 : rs_rf 88 9 = 95 := by decide +kernel
  have n2 := net.2.1
  have he0 : 0 < e := by omega
  have he4 : 4 ≤ e - 1 := by omega
  -- a write of changed
  have wb : ∀ (J : rs_M) (b : Int), ml (rs_up J 88 20 b) d = ml J d ∧ mh (rs_up J 88 20 b) d = mh J d ∧ rm_fr d J (rs_up J 88 20 b) := fun J b => by
    refine ⟨funext fun k => ?_, funext fun k => ?_, fun a j _ _ _ h4 => ?_, fun i _ => ?_⟩
    · unfold ml; simp [rs_up_at]
    · unfold mh; simp [rs_up_at]
    · rw [rs_up_at, if_neg (fun g => by have := h4 g.1; omega)]
    · simp [rs_up_at]
  have inner : ∀ (J : rs_M) (fin : ∀ L, ms_rd d n (I 88 4).toNat I J L → rs_run u e 94 5 [some (.inr (.inr 88)), some (.inl (d : Int)), some (.inl ((I 88 4).toNat : Int))] [] L K), ∀ (k r : Nat) (L : rs_M), r + k = (I 88 4).toNat → ms_rd d n r I J L → rs_run u e 94 19 [some (.inr (.inr 88)), some (.inl (d : Int)), some (.inl (r : Int))] [] L K := by
    intro J fin k
    induction k with
    | zero =>
      intro r L er hL
      have er' : r = (I 88 4).toNat := by omega
      subst er'
      have f := fin L hL
      have l4 : L 88 4 = I 88 4 := (mt_same hL.2.2.1).2.2.2.2.2.2.2.2
      have le : I 88 4 ≤ ((I 88 4).toNat : Int) := by omega
      rw [rs_x_94_19]
      simp only [rs_x_94_0, rs_x_94_1, rs_x_94_2, rs_x_94_6, rs_x_94_9, rs_x_94_12, rs_x_94_13, rs_x_94_14, rs_x_94_17, rs_x_94_18, rs_x_94_20, rs_x_94_21, rs_x_94_24, rs_x_94_27, rs_x_94_28, rs_x_94_31, rs_x_94_32, rs_x_94_33, rs_x_94_36, rs_x_94_37, rs_x_94_38, rs_x_94_39, rs_x_94_42, rs_x_94_45, rs_x_94_46, rs_x_94_47, rs_x_94_50, rs_x_94_53, rs_x_94_56, rs_x_94_57, rs_cn_n, rs_cn_i, rs_cn_r, rs_cn_t, rs_up_at, Nat.reduceAdd, Nat.reduceEqDiff, Nat.reduceSub, Int.reduceToNat, Int.reduceNeg, Int.reduceLE, Int.reduceLT, Int.reduceAdd, Int.reduceSub, Int.reduceMul, Int.add_sub_cancel, List.length_cons, List.length_nil, Nat.reduceLeDiff, Nat.reduceLT, Int.cast_ofNat_Int, true_and, and_true, and_self, false_and, and_false, ↓reduceIte, Nat.zero_le, or_true, true_or, false_or, or_false, Nat.sub_zero, Int.toNat_natCast, Nat.le_refl, implies_true, forall_const, Int.reduceEq, Nat.reduceMul, ne_eq, not_true_eq_false, not_false_eq_true, false_implies, true_implies, Nat.left_eq_add, Nat.add_eq_left, g88, l4, le]
      exact f
    | succ k ih =>
      intro r L er hL
      have fr := hL.2.2.1
      obtain ⟨_, _, _, _, s5, _, _, _, l4⟩ := mt_same fr
      have l95 := s5 r
      obtain ⟨eG, eS, eQ, enet⟩ := mt_eq fr
      have nle : (I 88 4 ≤ (r : Int)) = False := eq_false (by omega)
      have rb : 0 ≤ (r : Int) ∧ (r : Int) < 12 := by omega
      have rn : rs_R ((r : Int) + 1) := by unfold rs_R; omega
      rw [rs_x_94_19]
      by_cases g : I 95 r = 0
      · have i1 := ih (r + 1) L (by omega) (ms_skip hL (fun q => q.2 g))
        simp only [rs_x_94_0, rs_x_94_1, rs_x_94_2, rs_x_94_6, rs_x_94_9, rs_x_94_12, rs_x_94_13, rs_x_94_14, rs_x_94_17, rs_x_94_18, rs_x_94_20, rs_x_94_21, rs_x_94_24, rs_x_94_27, rs_x_94_28, rs_x_94_31, rs_x_94_32, rs_x_94_33, rs_x_94_36, rs_x_94_37, rs_x_94_38, rs_x_94_39, rs_x_94_42, rs_x_94_45, rs_x_94_46, rs_x_94_47, rs_x_94_50, rs_x_94_53, rs_x_94_56, rs_x_94_57, rs_cn_n, rs_cn_i, rs_cn_r, rs_cn_t, rs_up_at, Nat.reduceAdd, Nat.reduceEqDiff, Nat.reduceSub, Int.reduceToNat, Int.reduceNeg, Int.reduceLE, Int.reduceLT, Int.reduceAdd, Int.reduceSub, Int.reduceMul, Int.add_sub_cancel, List.length_cons, List.length_nil, Nat.reduceLeDiff, Nat.reduceLT, Int.cast_ofNat_Int, true_and, and_true, and_self, false_and, and_false, ↓reduceIte, Nat.zero_le, or_true, true_or, false_or, or_false, Nat.sub_zero, Int.toNat_natCast, Nat.le_refl, implies_true, forall_const, Int.reduceEq, Nat.reduceMul, ne_eq, not_true_eq_false, not_false_eq_true, false_implies, true_implies, Nat.left_eq_add, Nat.add_eq_left, g88, g95, f88_9, l4, nle, rb, l95, g]
        exact ⟨rn, i1⟩
      · have hG : mt_G I r := ⟨by omega, g⟩
        simp only [rs_x_94_0, rs_x_94_1, rs_x_94_2, rs_x_94_6, rs_x_94_9, rs_x_94_12, rs_x_94_13, rs_x_94_14, rs_x_94_17, rs_x_94_18, rs_x_94_20, rs_x_94_21, rs_x_94_24, rs_x_94_27, rs_x_94_28, rs_x_94_31, rs_x_94_32, rs_x_94_33, rs_x_94_36, rs_x_94_37, rs_x_94_38, rs_x_94_39, rs_x_94_42, rs_x_94_45, rs_x_94_46, rs_x_94_47, rs_x_94_50, rs_x_94_53, rs_x_94_56, rs_x_94_57, rs_cn_n, rs_cn_i, rs_cn_r, rs_cn_t, rs_up_at, Nat.reduceAdd, Nat.reduceEqDiff, Nat.reduceSub, Int.reduceToNat, Int.reduceNeg, Int.reduceLE, Int.reduceLT, Int.reduceAdd, Int.reduceSub, Int.reduceMul, Int.add_sub_cancel, List.length_cons, List.length_nil, Nat.reduceLeDiff, Nat.reduceLT, Int.cast_ofNat_Int, true_and, and_true, and_self, false_and, and_false, ↓reduceIte, Nat.zero_le, or_true, true_or, false_or, or_false, Nat.sub_zero, Int.toNat_natCast, Nat.le_refl, implies_true, forall_const, Int.reduceEq, Nat.reduceMul, ne_eq, not_true_eq_false, not_false_eq_true, false_implies, true_implies, Nat.left_eq_add, Nat.add_eq_left, g88, g95, f88_9, l4, nle, rb, l95, g]
        refine ⟨he0, cm_narrowBy he4 hd (enet n net) (by rw [l4]; omega) hL.2.2.2.1 fun M y hM => ?_⟩
        rw [eS, eQ] at hM
        by_cases gy : y = 0
        · subst gy
          obtain ⟨t, hM⟩ := hM
          have no := (hM.resolve_right (fun q => by omega)).2
          obtain ⟨mm, a1, a2, a3, a4, a5, a6⟩ := nt_mask net.1 (net.2.2.1 r hG.1)
          have f := h0 M (rm_fr_tr fr t.1) (kp_brk hL.2.2.2.2.2.1 hG a5 a6 no)
          simp only [rs_x_94_0, rs_x_94_1, rs_x_94_2, rs_x_94_6, rs_x_94_9, rs_x_94_12, rs_x_94_13, rs_x_94_14, rs_x_94_17, rs_x_94_18, rs_x_94_20, rs_x_94_21, rs_x_94_24, rs_x_94_27, rs_x_94_28, rs_x_94_31, rs_x_94_32, rs_x_94_33, rs_x_94_36, rs_x_94_37, rs_x_94_38, rs_x_94_39, rs_x_94_42, rs_x_94_45, rs_x_94_46, rs_x_94_47, rs_x_94_50, rs_x_94_53, rs_x_94_56, rs_x_94_57, rs_cn_n, rs_cn_i, rs_cn_r, rs_cn_t, rs_up_at, Nat.reduceAdd, Nat.reduceEqDiff, Nat.reduceSub, Int.reduceToNat, Int.reduceNeg, Int.reduceLE, Int.reduceLT, Int.reduceAdd, Int.reduceSub, Int.reduceMul, Int.add_sub_cancel, List.length_cons, List.length_nil, Nat.reduceLeDiff, Nat.reduceLT, Int.cast_ofNat_Int, true_and, and_true, and_self, false_and, and_false, ↓reduceIte, Nat.zero_le, or_true, true_or, false_or, or_false, Nat.sub_zero, Int.toNat_natCast, Nat.le_refl, implies_true, forall_const, Int.reduceEq, Nat.reduceMul, ne_eq, not_true_eq_false, not_false_eq_true, false_implies, true_implies, Nat.left_eq_add, Nat.add_eq_left, g88]
          exact f
        · have ey : y = 1 := by
            rcases hM.2 with q | q
            · exact absurd q.1 gy
            · exact q.1
          subst ey
          have i1 := ih (r + 1) M (by omega) (ms_step net hL hG hM)
          simp only [rs_x_94_0, rs_x_94_1, rs_x_94_2, rs_x_94_6, rs_x_94_9, rs_x_94_12, rs_x_94_13, rs_x_94_14, rs_x_94_17, rs_x_94_18, rs_x_94_20, rs_x_94_21, rs_x_94_24, rs_x_94_27, rs_x_94_28, rs_x_94_31, rs_x_94_32, rs_x_94_33, rs_x_94_36, rs_x_94_37, rs_x_94_38, rs_x_94_39, rs_x_94_42, rs_x_94_45, rs_x_94_46, rs_x_94_47, rs_x_94_50, rs_x_94_53, rs_x_94_56, rs_x_94_57, rs_cn_n, rs_cn_i, rs_cn_r, rs_cn_t, rs_up_at, Nat.reduceAdd, Nat.reduceEqDiff, Nat.reduceSub, Int.reduceToNat, Int.reduceNeg, Int.reduceLE, Int.reduceLT, Int.reduceAdd, Int.reduceSub, Int.reduceMul, Int.add_sub_cancel, List.length_cons, List.length_nil, Nat.reduceLeDiff, Nat.reduceLT, Int.cast_ofNat_Int, true_and, and_true, and_self, false_and, and_false, ↓reduceIte, Nat.zero_le, or_true, true_or, false_or, or_false, Nat.sub_zero, Int.toNat_natCast, Nat.le_refl, implies_true, forall_const, Int.reduceEq, Nat.reduceMul, ne_eq, not_true_eq_false, not_false_eq_true, false_implies, true_implies, Nat.left_eq_add, Nat.add_eq_left, g88]
          exact ⟨rn, i1⟩
  have outer : ∀ (N : Nat) (J : rs_M) (l2 : Option rs_V), rm_fr d I J → bx_ok n (ml J d) (mh J d) → bx_le n (ml I d) (mh I d) (ml J d) (mh J d) → bx_kp n (mt_G I) (mt_S I) (mt_Q I) (ml I d) (mh I d) (ml J d) (mh J d) → (J 88 20 = 0 → ∀ s, mt_G I s → bx_sup (mt_S I s) (mt_Q I s) (ml J d) (mh J d)) → (J 88 20 ≠ 0 → mz (ml J d) (mh J d) n < N) → rs_run u e 94 5 [some (.inr (.inr 88)), some (.inl (d : Int)), l2] [] J K := by
    intro N
    induction N with
    | zero =>
      intro J l2 fr ok le kp sup hm
      have z : J 88 20 = 0 := Classical.byContradiction fun q => by
        have := hm q
        omega
      have f := h1 J fr (kp_fix kp le ok (sup z)) ok
      rw [rs_x_94_5]
      simp only [rs_x_94_0, rs_x_94_1, rs_x_94_2, rs_x_94_6, rs_x_94_9, rs_x_94_12, rs_x_94_13, rs_x_94_14, rs_x_94_17, rs_x_94_18, rs_x_94_20, rs_x_94_21, rs_x_94_24, rs_x_94_27, rs_x_94_28, rs_x_94_31, rs_x_94_32, rs_x_94_33, rs_x_94_36, rs_x_94_37, rs_x_94_38, rs_x_94_39, rs_x_94_42, rs_x_94_45, rs_x_94_46, rs_x_94_47, rs_x_94_50, rs_x_94_53, rs_x_94_56, rs_x_94_57, rs_cn_n, rs_cn_i, rs_cn_r, rs_cn_t, rs_up_at, Nat.reduceAdd, Nat.reduceEqDiff, Nat.reduceSub, Int.reduceToNat, Int.reduceNeg, Int.reduceLE, Int.reduceLT, Int.reduceAdd, Int.reduceSub, Int.reduceMul, Int.add_sub_cancel, List.length_cons, List.length_nil, Nat.reduceLeDiff, Nat.reduceLT, Int.cast_ofNat_Int, true_and, and_true, and_self, false_and, and_false, ↓reduceIte, Nat.zero_le, or_true, true_or, false_or, or_false, Nat.sub_zero, Int.toNat_natCast, Nat.le_refl, implies_true, forall_const, Int.reduceEq, Nat.reduceMul, ne_eq, not_true_eq_false, not_false_eq_true, false_implies, true_implies, Nat.left_eq_add, Nat.add_eq_left, g88, z]
      exact f
    | succ N ih =>
      intro J l2 fr ok le kp sup hm
      rw [rs_x_94_5]
      by_cases z : J 88 20 = 0
      · have f := h1 J fr (kp_fix kp le ok (sup z)) ok
        simp only [rs_x_94_0, rs_x_94_1, rs_x_94_2, rs_x_94_6, rs_x_94_9, rs_x_94_12, rs_x_94_13, rs_x_94_14, rs_x_94_17, rs_x_94_18, rs_x_94_20, rs_x_94_21, rs_x_94_24, rs_x_94_27, rs_x_94_28, rs_x_94_31, rs_x_94_32, rs_x_94_33, rs_x_94_36, rs_x_94_37, rs_x_94_38, rs_x_94_39, rs_x_94_42, rs_x_94_45, rs_x_94_46, rs_x_94_47, rs_x_94_50, rs_x_94_53, rs_x_94_56, rs_x_94_57, rs_cn_n, rs_cn_i, rs_cn_r, rs_cn_t, rs_up_at, Nat.reduceAdd, Nat.reduceEqDiff, Nat.reduceSub, Int.reduceToNat, Int.reduceNeg, Int.reduceLE, Int.reduceLT, Int.reduceAdd, Int.reduceSub, Int.reduceMul, Int.add_sub_cancel, List.length_cons, List.length_nil, Nat.reduceLeDiff, Nat.reduceLT, Int.cast_ofNat_Int, true_and, and_true, and_self, false_and, and_false, ↓reduceIte, Nat.zero_le, or_true, true_or, false_or, or_false, Nat.sub_zero, Int.toNat_natCast, Nat.le_refl, implies_true, forall_const, Int.reduceEq, Nat.reduceMul, ne_eq, not_true_eq_false, not_false_eq_true, false_implies, true_implies, Nat.left_eq_add, Nat.add_eq_left, g88, z]
        exact f
      · have hm' := hm z
        obtain ⟨w1, w2, w3⟩ := wb J 0
        have w4 : rs_up J 88 20 0 88 20 = 0 := by simp [rs_up_at]
        simp only [rs_x_94_0, rs_x_94_1, rs_x_94_2, rs_x_94_6, rs_x_94_9, rs_x_94_12, rs_x_94_13, rs_x_94_14, rs_x_94_17, rs_x_94_18, rs_x_94_20, rs_x_94_21, rs_x_94_24, rs_x_94_27, rs_x_94_28, rs_x_94_31, rs_x_94_32, rs_x_94_33, rs_x_94_36, rs_x_94_37, rs_x_94_38, rs_x_94_39, rs_x_94_42, rs_x_94_45, rs_x_94_46, rs_x_94_47, rs_x_94_50, rs_x_94_53, rs_x_94_56, rs_x_94_57, rs_cn_n, rs_cn_i, rs_cn_r, rs_cn_t, rs_up_at, Nat.reduceAdd, Nat.reduceEqDiff, Nat.reduceSub, Int.reduceToNat, Int.reduceNeg, Int.reduceLE, Int.reduceLT, Int.reduceAdd, Int.reduceSub, Int.reduceMul, Int.add_sub_cancel, List.length_cons, List.length_nil, Nat.reduceLeDiff, Nat.reduceLT, Int.cast_ofNat_Int, true_and, and_true, and_self, false_and, and_false, ↓reduceIte, Nat.zero_le, or_true, true_or, false_or, or_false, Nat.sub_zero, Int.toNat_natCast, Nat.le_refl, implies_true, forall_const, Int.reduceEq, Nat.reduceMul, ne_eq, not_true_eq_false, not_false_eq_true, false_implies, true_implies, Nat.left_eq_add, Nat.add_eq_left, g88, z]
        generalize rs_up J 88 20 0 = J1 at w1 w2 w3 w4 ⊢
        refine inner J1 (fun L hL => ?_) (I 88 4).toNat 0 J1 (by omega) ⟨rm_tr_rf, fun j _ => ⟨rfl, rfl⟩, rm_fr_tr fr w3, by rw [w1, w2]; exact ok, by rw [w1, w2]; exact le, by rw [w1, w2]; exact kp, fun _ s hs => by omega⟩
        obtain ⟨g1, g2, g3, g4, g5, g6, g7⟩ := hL
        refine ih L _ g3 g4 g5 g6 (fun q s hs => g7 q s hs.1 hs) (fun q => ?_)
        have ch : ∃ j, ¬ rm_sm d J1 L j := Classical.byContradiction fun c => q (g1.2.2.mpr ⟨w4, fun j => Classical.byContradiction fun c' => c ⟨j, c'⟩⟩)
        obtain ⟨j, hj⟩ := ch
        have jn : j < n := Classical.byContradiction fun c => hj (g2 j (by omega))
        have := mz_lt (lo := ml J1 d) (hi := mh J1 d) (lo' := ml L d) (hi' := mh L d) n (fun j _ => g1.2.1 j) ⟨j, jn, (g4 j jn).2.1, hj⟩
        rw [w1, w2] at this
        omega
  obtain ⟨w1, w2, w3⟩ := wb I 1
  have w4 : rs_up I 88 20 1 88 20 = 1 := by simp [rs_up_at]
  have top := mz_top n hbx
  have nn := net.1
  have f := outer 2001 (rs_up I 88 20 1) none w3 (by rw [w1, w2]; exact hbx) (by rw [w1, w2]; exact bx_le_rf) (by rw [w1, w2]; exact kp_rf) (fun q => by omega) (fun _ => by rw [w1, w2]; omega)
  simp only [rs_x_94_0, rs_x_94_1, rs_x_94_2, rs_x_94_6, rs_x_94_9, rs_x_94_12, rs_x_94_13, rs_x_94_14, rs_x_94_17, rs_x_94_18, rs_x_94_19, rs_x_94_20, rs_x_94_21, rs_x_94_24, rs_x_94_27, rs_x_94_28, rs_x_94_31, rs_x_94_32, rs_x_94_33, rs_x_94_36, rs_x_94_37, rs_x_94_38, rs_x_94_39, rs_x_94_42, rs_x_94_45, rs_x_94_46, rs_x_94_47, rs_x_94_50, rs_x_94_53, rs_x_94_56, rs_x_94_57, rs_cn_n, rs_cn_i, rs_cn_r, rs_cn_t, rs_up_at, Nat.reduceAdd, Nat.reduceEqDiff, Nat.reduceSub, Int.reduceToNat, Int.reduceNeg, Int.reduceLE, Int.reduceLT, Int.reduceAdd, Int.reduceSub, Int.reduceMul, Int.add_sub_cancel, List.length_cons, List.length_nil, Nat.reduceLeDiff, Nat.reduceLT, Int.cast_ofNat_Int, true_and, and_true, and_self, false_and, and_false, ↓reduceIte, Nat.zero_le, or_true, true_or, false_or, or_false, Nat.sub_zero, Int.toNat_natCast, Nat.le_refl, implies_true, forall_const, Int.reduceEq, Nat.reduceMul, ne_eq, not_true_eq_false, not_false_eq_true, false_implies, true_implies, Nat.left_eq_add, Nat.add_eq_left, g88]
  exact f
