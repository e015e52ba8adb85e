/-! ===== the reference searches: its parts ===== -/
theorem mt_eq2 {n : Nat} {I J : rs_M} (h : ∀ a j, 91 ≤ a → a ≤ 98 → J a j = I a j) (h4 : J 88 4 = I 88 4) (net : mt_net I n) : mt_net J n ∧ mt_G J = mt_G I ∧ mt_S J = mt_S I ∧ mt_Q J = mt_Q I := by
  have g : ∀ a, 91 ≤ a → a ≤ 98 → J a = I a := fun a h1 h2 => funext fun j => h a j h1 h2
  have eT : mt_T J = mt_T I := by
    funext t u v
    unfold mt_T
    rw [g 96 (by omega) (by omega), g 97 (by omega) (by omega), g 98 (by omega) (by omega)]
  refine ⟨?_, funext fun r => ?_, funext fun r => ?_, funext fun r => ?_⟩
  · unfold mt_net
    rw [g 91 (by omega) (by omega), g 92 (by omega) (by omega), g 93 (by omega) (by omega), g 94 (by omega) (by omega), g 96 (by omega) (by omega), h4]
    exact net
  · unfold mt_G; rw [g 95 (by omega) (by omega), h4]
  · unfold mt_S; rw [g 91 (by omega) (by omega), g 92 (by omega) (by omega), g 93 (by omega) (by omega), g 94 (by omega) (by omega)]
  · unfold mt_Q; rw [g 91 (by omega) (by omega), g 92 (by omega) (by omega), g 93 (by omega) (by omega), g 94 (by omega) (by omega), eT]
set_option maxRecDepth 100000 in
set_option maxHeartbeats 2000000 in
theorem cm_firstO {u e d n L : Nat} {ld : Int} {I : rs_M} {K : rs_K} (hd : d ≤ 10) (hn : n ≤ 10) (e1 : I 88 1 = (n : Int)) (hl : (ld = -1 ∧ L = 0) ∨ (ld = (L : Int) ∧ L < n)) (h1 : ∀ c : Nat, so_o n L (ml I d) (mh I d) = some c → K (some (.inl (c : Int))) I) (h0 : so_o n L (ml I d) (mh I d) = none → K (some (.inl (-1))) I) : rs_run u e 101 0 (rs_en0 [.inr (.inr 88), .inl (d : Int), .inl ld] 4) [] I K := by
  show rs_run u e 101 0 [some (.inr (.inr 88)), some (.inl (d : Int)), some (.inl ld), none] [] I K
  have g88 : rs_sh 88 = (1, 8) := by decide +kernel
  have g102 : rs_sh 102 = (2, 120) := by decide +kernel
  have g103 : rs_sh 103 = (2, 120) := by decide +kernel
  have f88_18 : rs_rf 88 18 = 102 := by decide +kernel
  have f88_19 : rs_rf 88 19 = 103 := by decide +kernel
  have loop : (L < n ∧ ml I d L < mh I d L → so_f (ml I d) (mh I d) 0 n = some L) → ∀ (m k : Nat), k + m = n → (∀ j, j < k → ¬ ml I d j < mh I d j) → rs_run u e 101 33 [some (.inr (.inr 88)), some (.inl (d : Int)), some (.inl ld), some (.inl (k : Int))] [] I K := by
    intro hLo m
    have eo : so_o n L (ml I d) (mh I d) = so_f (ml I d) (mh I d) 0 n := by
      unfold so_o
      split
      · rename_i g; exact (hLo g).symm
      · rfl
    rw [eo] at h1 h0
    induction m with
    | zero =>
      intro k ek cs
      have : k = n := by omega
      subst this
      have z := h0 (so_f_none (fun j _ hj => cs j (by omega)))
      have le : (k : Int) ≤ (k : Int) := by omega
      rw [rs_x_101_33]
      simp only [rs_x_101_0, rs_x_101_1, rs_x_101_4, rs_x_101_5, rs_x_101_8, rs_x_101_10, rs_x_101_11, rs_x_101_12, rs_x_101_13, rs_x_101_14, rs_x_101_15, rs_x_101_16, rs_x_101_19, rs_x_101_21, rs_x_101_22, rs_x_101_23, rs_x_101_24, rs_x_101_25, rs_x_101_26, rs_x_101_29, rs_x_101_30, rs_x_101_31, rs_x_101_32, rs_x_101_34, rs_x_101_35, rs_x_101_38, rs_x_101_41, rs_x_101_42, rs_x_101_45, rs_x_101_47, rs_x_101_48, rs_x_101_49, rs_x_101_50, rs_x_101_51, rs_x_101_52, rs_x_101_53, rs_x_101_56, rs_x_101_58, rs_x_101_59, rs_x_101_60, rs_x_101_61, rs_x_101_62, rs_x_101_63, rs_x_101_66, rs_x_101_67, rs_x_101_68, rs_x_101_71, rs_x_101_74, rs_x_101_75, rs_cn_n, rs_cn_i, rs_cn_r, rs_cn_t, rs_up_at, Nat.reduceAdd, Nat.reduceEqDiff, Nat.reduceSub, Int.reduceToNat, Int.reduceNeg, Int.reduceLE, Int.reduceLT, Int.reduceAdd, Int.reduceSub, Int.reduceMul, Int.add_sub_cancel, List.length_cons, List.length_nil, Nat.reduceLeDiff, Nat.reduceLT, Int.cast_ofNat_Int, true_and, and_true, and_self, false_and, and_false, ↓reduceIte, Nat.zero_le, or_true, true_or, false_or, or_false, Nat.sub_zero, Int.toNat_natCast, Nat.le_refl, implies_true, forall_const, Int.reduceEq, Nat.reduceMul, ne_eq, not_true_eq_false, not_false_eq_true, false_implies, true_implies, Nat.left_eq_add, Nat.add_eq_left, g88, e1, le]
      exact z
    | succ m ih =>
      intro k ek cs
      have nle : ((n : Int) ≤ (k : Int)) = False := eq_false (by omega)
      have kb : 0 ≤ (k : Int) ∧ (k : Int) < 10 := by omega
      obtain ⟨ik, x1, x2, x3, _⟩ := rm_ix (d := d) (c := (k : Int)) (by omega) kb
      rw [Int.toNat_natCast] at ik
      have x5 : 10 * (d : Int) + (k : Int) < 120 := by omega
      have lk : I 102 (10 * d + k) = ml I d k := (ml_at (by omega)).symm
      have hk : I 103 (10 * d + k) = mh I d k := (mh_at (by omega)).symm
      have rn : rs_R ((k : Int) + 1) := by unfold rs_R; omega
      rw [rs_x_101_33]
      by_cases g : ml I d k < mh I d k
      · have g' : ¬ mh I d k ≤ ml I d k := by omega
        have z := h1 k (so_f_some g (by omega) (by omega) (fun j _ hj => cs j hj))
        simp only [rs_x_101_0, rs_x_101_1, rs_x_101_4, rs_x_101_5, rs_x_101_8, rs_x_101_10, rs_x_101_11, rs_x_101_12, rs_x_101_13, rs_x_101_14, rs_x_101_15, rs_x_101_16, rs_x_101_19, rs_x_101_21, rs_x_101_22, rs_x_101_23, rs_x_101_24, rs_x_101_25, rs_x_101_26, rs_x_101_29, rs_x_101_30, rs_x_101_31, rs_x_101_32, rs_x_101_34, rs_x_101_35, rs_x_101_38, rs_x_101_41, rs_x_101_42, rs_x_101_45, rs_x_101_47, rs_x_101_48, rs_x_101_49, rs_x_101_50, rs_x_101_51, rs_x_101_52, rs_x_101_53, rs_x_101_56, rs_x_101_58, rs_x_101_59, rs_x_101_60, rs_x_101_61, rs_x_101_62, rs_x_101_63, rs_x_101_66, rs_x_101_67, rs_x_101_68, rs_x_101_71, rs_x_101_74, rs_x_101_75, rs_cn_n, rs_cn_i, rs_cn_r, rs_cn_t, rs_up_at, Nat.reduceAdd, Nat.reduceEqDiff, Nat.reduceSub, Int.reduceToNat, Int.reduceNeg, Int.reduceLE, Int.reduceLT, Int.reduceAdd, Int.reduceSub, Int.reduceMul, Int.add_sub_cancel, List.length_cons, List.length_nil, Nat.reduceLeDiff, Nat.reduceLT, Int.cast_ofNat_Int, true_and, and_true, and_self, false_and, and_false, ↓reduceIte, Nat.zero_le, or_true, true_or, false_or, or_false, Nat.sub_zero, Int.toNat_natCast, Nat.le_refl, implies_true, forall_const, Int.reduceEq, Nat.reduceMul, ne_eq, not_true_eq_false, not_false_eq_true, false_implies, true_implies, Nat.left_eq_add, Nat.add_eq_left, g88, g102, g103, f88_18, f88_19, e1, nle, ik, x1, x2, x3, x5, lk, hk, g']
        exact z
      · have g' : mh I d k ≤ ml I d k := by omega
        have z := ih (k + 1) (by omega) (fun j hj => by
          by_cases ej : j = k
          · rw [ej]; exact g
          · exact cs j (by omega))
        simp only [rs_x_101_0, rs_x_101_1, rs_x_101_4, rs_x_101_5, rs_x_101_8, rs_x_101_10, rs_x_101_11, rs_x_101_12, rs_x_101_13, rs_x_101_14, rs_x_101_15, rs_x_101_16, rs_x_101_19, rs_x_101_21, rs_x_101_22, rs_x_101_23, rs_x_101_24, rs_x_101_25, rs_x_101_26, rs_x_101_29, rs_x_101_30, rs_x_101_31, rs_x_101_32, rs_x_101_34, rs_x_101_35, rs_x_101_38, rs_x_101_41, rs_x_101_42, rs_x_101_45, rs_x_101_47, rs_x_101_48, rs_x_101_49, rs_x_101_50, rs_x_101_51, rs_x_101_52, rs_x_101_53, rs_x_101_56, rs_x_101_58, rs_x_101_59, rs_x_101_60, rs_x_101_61, rs_x_101_62, rs_x_101_63, rs_x_101_66, rs_x_101_67, rs_x_101_68, rs_x_101_71, rs_x_101_74, rs_x_101_75, rs_cn_n, rs_cn_i, rs_cn_r, rs_cn_t, rs_up_at, Nat.reduceAdd, Nat.reduceEqDiff, Nat.reduceSub, Int.reduceToNat, Int.reduceNeg, Int.reduceLE, Int.reduceLT, Int.reduceAdd, Int.reduceSub, Int.reduceMul, Int.add_sub_cancel, List.length_cons, List.length_nil, Nat.reduceLeDiff, Nat.reduceLT, Int.cast_ofNat_Int, true_and, and_true, and_self, false_and, and_false, ↓reduceIte, Nat.zero_le, or_true, true_or, false_or, or_false, Nat.sub_zero, Int.toNat_natCast, Nat.le_refl, implies_true, forall_const, Int.reduceEq, Nat.reduceMul, ne_eq, not_true_eq_false, not_false_eq_true, false_implies, true_implies, Nat.left_eq_add, Nat.add_eq_left, g88, g102, g103, f88_18, f88_19, e1, nle, ik, x1, x2, x3, x5, lk, hk, g']
        exact ⟨rn, z⟩
  rcases hl with ⟨a, b⟩ | ⟨a, b⟩
  · subst a b
    have z := loop (fun g => so_f_some g.2 (by omega) (by omega) (fun j _ hj => by omega)) n 0 (by omega) (fun j hj => by omega)
    simp only [rs_x_101_0, rs_x_101_1, rs_x_101_4, rs_x_101_5, rs_x_101_8, rs_x_101_10, rs_x_101_11, rs_x_101_12, rs_x_101_13, rs_x_101_14, rs_x_101_15, rs_x_101_16, rs_x_101_19, rs_x_101_21, rs_x_101_22, rs_x_101_23, rs_x_101_24, rs_x_101_25, rs_x_101_26, rs_x_101_29, rs_x_101_30, rs_x_101_31, rs_x_101_32, rs_x_101_34, rs_x_101_35, rs_x_101_38, rs_x_101_41, rs_x_101_42, rs_x_101_45, rs_x_101_47, rs_x_101_48, rs_x_101_49, rs_x_101_50, rs_x_101_51, rs_x_101_52, rs_x_101_53, rs_x_101_56, rs_x_101_58, rs_x_101_59, rs_x_101_60, rs_x_101_61, rs_x_101_62, rs_x_101_63, rs_x_101_66, rs_x_101_67, rs_x_101_68, rs_x_101_71, rs_x_101_74, rs_x_101_75, rs_cn_n, rs_cn_i, rs_cn_r, rs_cn_t, rs_up_at, Nat.reduceAdd, Nat.reduceEqDiff, Nat.reduceSub, Int.reduceToNat, Int.reduceNeg, Int.reduceLE, Int.reduceLT, Int.reduceAdd, Int.reduceSub, Int.reduceMul, Int.add_sub_cancel, List.length_cons, List.length_nil, Nat.reduceLeDiff, Nat.reduceLT, Int.cast_ofNat_Int, true_and, and_true, and_self, false_and, and_false, ↓reduceIte, Nat.zero_le, or_true, true_or, false_or, or_false, Nat.sub_zero, Int.toNat_natCast, Nat.le_refl, implies_true, forall_const, Int.reduceEq, Nat.reduceMul, ne_eq, not_true_eq_false, not_false_eq_true, false_implies, true_implies, Nat.left_eq_add, Nat.add_eq_left, g88]
    exact z
  · subst a
    have nn : ((L : Int) < 0) = False := eq_false (by omega)
    have kb : 0 ≤ (L : Int) ∧ (L : Int) < 10 := by omega
    obtain ⟨ik, x1, x2, x3, _⟩ := rm_ix (d := d) (c := (L : Int)) (by omega) kb
    rw [Int.toNat_natCast] at ik
    have x5 : 10 * (d : Int) + (L : Int) < 120 := by omega
    have lk : I 102 (10 * d + L) = ml I d L := (ml_at (by omega)).symm
    have hk : I 103 (10 * d + L) = mh I d L := (mh_at (by omega)).symm
    by_cases g : ml I d L < mh I d L
    · have g' : ¬ mh I d L ≤ ml I d L := by omega
      have z := h1 L (by unfold so_o; rw [if_pos ⟨b, g⟩])
      simp only [rs_x_101_0, rs_x_101_1, rs_x_101_4, rs_x_101_5, rs_x_101_8, rs_x_101_10, rs_x_101_11, rs_x_101_12, rs_x_101_13, rs_x_101_14, rs_x_101_15, rs_x_101_16, rs_x_101_19, rs_x_101_21, rs_x_101_22, rs_x_101_23, rs_x_101_24, rs_x_101_25, rs_x_101_26, rs_x_101_29, rs_x_101_30, rs_x_101_31, rs_x_101_32, rs_x_101_34, rs_x_101_35, rs_x_101_38, rs_x_101_41, rs_x_101_42, rs_x_101_45, rs_x_101_47, rs_x_101_48, rs_x_101_49, rs_x_101_50, rs_x_101_51, rs_x_101_52, rs_x_101_53, rs_x_101_56, rs_x_101_58, rs_x_101_59, rs_x_101_60, rs_x_101_61, rs_x_101_62, rs_x_101_63, rs_x_101_66, rs_x_101_67, rs_x_101_68, rs_x_101_71, rs_x_101_74, rs_x_101_75, rs_cn_n, rs_cn_i, rs_cn_r, rs_cn_t, rs_up_at, Nat.reduceAdd, Nat.reduceEqDiff, Nat.reduceSub, Int.reduceToNat, Int.reduceNeg, Int.reduceLE, Int.reduceLT, Int.reduceAdd, Int.reduceSub, Int.reduceMul, Int.add_sub_cancel, List.length_cons, List.length_nil, Nat.reduceLeDiff, Nat.reduceLT, Int.cast_ofNat_Int, true_and, and_true, and_self, false_and, and_false, ↓reduceIte, Nat.zero_le, or_true, true_or, false_or, or_false, Nat.sub_zero, Int.toNat_natCast, Nat.le_refl, implies_true, forall_const, Int.reduceEq, Nat.reduceMul, ne_eq, not_true_eq_false, not_false_eq_true, false_implies, true_implies, Nat.left_eq_add, Nat.add_eq_left, g88, g102, g103, f88_18, f88_19, nn, ik, x1, x2, x3, x5, lk, hk, g']
      exact z
    · have g' : mh I d L ≤ ml I d L := by omega
      have z := loop (fun q => absurd q.2 g) n 0 (by omega) (fun j hj => by omega)
      simp only [rs_x_101_0, rs_x_101_1, rs_x_101_4, rs_x_101_5, rs_x_101_8, rs_x_101_10, rs_x_101_11, rs_x_101_12, rs_x_101_13, rs_x_101_14, rs_x_101_15, rs_x_101_16, rs_x_101_19, rs_x_101_21, rs_x_101_22, rs_x_101_23, rs_x_101_24, rs_x_101_25, rs_x_101_26, rs_x_101_29, rs_x_101_30, rs_x_101_31, rs_x_101_32, rs_x_101_34, rs_x_101_35, rs_x_101_38, rs_x_101_41, rs_x_101_42, rs_x_101_45, rs_x_101_47, rs_x_101_48, rs_x_101_49, rs_x_101_50, rs_x_101_51, rs_x_101_52, rs_x_101_53, rs_x_101_56, rs_x_101_58, rs_x_101_59, rs_x_101_60, rs_x_101_61, rs_x_101_62, rs_x_101_63, rs_x_101_66, rs_x_101_67, rs_x_101_68, rs_x_101_71, rs_x_101_74, rs_x_101_75, rs_cn_n, rs_cn_i, rs_cn_r, rs_cn_t, rs_up_at, Nat.reduceAdd, Nat.reduceEqDiff, Nat.reduceSub, Int.reduceToNat, Int.reduceNeg, Int.reduceLE, Int.reduceLT, Int.reduceAdd, Int.reduceSub, Int.reduceMul, Int.add_sub_cancel, List.length_cons, List.length_nil, Nat.reduceLeDiff, Nat.reduceLT, Int.cast_ofNat_Int, true_and, and_true, and_self, false_and, and_false, ↓reduceIte, Nat.zero_le, or_true, true_or, false_or, or_false, Nat.sub_zero, Int.toNat_natCast, Nat.le_refl, implies_true, forall_const, Int.reduceEq, Nat.reduceMul, ne_eq, not_true_eq_false, not_false_eq_true, false_implies, true_implies, Nat.left_eq_add, Nat.add_eq_left, g88, g102, g103, f88_18, f88_19, nn, ik, x1, x2, x3, x5, lk, hk, g']
      exact z
set_option maxRecDepth 100000 in
set_option maxHeartbeats 2000000 in
theorem cm_keepSetting {u e d n : Nat} {I : rs_M} {K : rs_K} (hd : d ≤ 10) (hn : n ≤ 10) (e1 : I 88 1 = (n : Int)) (h : ∀ J, (∀ a j, a ≠ 107 → (a = 88 → j ≠ 32) → J a j = I a j) → J 88 32 = (n : Int) → (∀ j, j < n → J 107 j = ml I d j) → K none J) : rs_run u e 102 0 (rs_en0 [.inr (.inr 88), .inl (d : Int)] 3) [] I K := by
  show rs_run u e 102 0 [some (.inr (.inr 88)), some (.inl (d : Int)), none] [] I K
  have g88 : rs_sh 88 = (1, 8) := by decide +kernel
  have g102 : rs_sh 102 = (2, 120) := by decide +kernel
  have g107 : rs_sh 107 = (2, 10) := by decide +kernel
  have f88_18 : rs_rf 88 18 = 102 := by decide +kernel
  have f88_33 : rs_rf 88 33 = 107 := by decide +kernel
  have loop : ∀ (m k : Nat) (J : rs_M), k + m = n → (∀ a j, a ≠ 107 → J a j = I a j) → (∀ j, j < k → J 107 j = ml I d j) → rs_run u e 102 2 [some (.inr (.inr 88)), some (.inl (d : Int)), some (.inl (k : Int))] [] J K := by
    intro m
    induction m with
    | zero =>
      intro k J ek fr bx
      have : k = n := by omega
      subst this
      have j1 : J 88 1 = (k : Int) := by rw [fr 88 1 (by omega), e1]
      have z := h (rs_up J 88 32 (k : Int)) (fun a j p1 p2 => by rw [rs_up_at, if_neg (fun q => p2 q.1 q.2), fr a j p1]) (by simp [rs_up_at]) (fun j hj => by rw [rs_up_at, if_neg (by omega), bx j hj])
      have le : (k : Int) ≤ (k : Int) := by omega
      rw [rs_x_102_2]
      simp only [rs_x_102_0, rs_x_102_1, rs_x_102_3, rs_x_102_4, rs_x_102_7, rs_x_102_10, rs_x_102_11, rs_x_102_14, rs_x_102_15, rs_x_102_16, rs_x_102_19, rs_x_102_21, rs_x_102_22, rs_x_102_23, rs_x_102_24, rs_x_102_25, rs_x_102_26, rs_x_102_27, rs_x_102_30, rs_x_102_33, rs_x_102_34, rs_x_102_35, rs_x_102_38, rs_x_102_41, rs_cn_n, rs_cn_i, rs_cn_r, rs_cn_t, rs_up_at, Nat.reduceAdd, Nat.reduceEqDiff, Nat.reduceSub, Int.reduceToNat, Int.reduceNeg, Int.reduceLE, Int.reduceLT, Int.reduceAdd, Int.reduceSub, Int.reduceMul, Int.add_sub_cancel, List.length_cons, List.length_nil, Nat.reduceLeDiff, Nat.reduceLT, Int.cast_ofNat_Int, true_and, and_true, and_self, false_and, and_false, ↓reduceIte, Nat.zero_le, or_true, true_or, false_or, or_false, Nat.sub_zero, Int.toNat_natCast, Nat.le_refl, implies_true, forall_const, Int.reduceEq, Nat.reduceMul, ne_eq, not_true_eq_false, not_false_eq_true, false_implies, true_implies, Nat.left_eq_add, Nat.add_eq_left, g88, j1, le]
      exact z
    | succ m ih =>
      intro k J ek fr bx
      have j1 : J 88 1 = (n : Int) := by rw [fr 88 1 (by omega), e1]
      have nle : ((n : Int) ≤ (k : Int)) = False := eq_false (by omega)
      have kb : 0 ≤ (k : Int) ∧ (k : Int) < 10 := by omega
      obtain ⟨ik, x1, x2, x3, _⟩ := rm_ix (d := d) (c := (k : Int)) (by omega) kb
      rw [Int.toNat_natCast] at ik
      have x5 : 10 * (d : Int) + (k : Int) < 120 := by omega
      have lk : J 102 (10 * d + k) = ml I d k := by rw [fr 102 _ (by omega)]; exact (ml_at (by omega)).symm
      have rn : rs_R ((k : Int) + 1) := by unfold rs_R; omega
      have z := ih (k + 1) (rs_up J 107 k (ml I d k)) (by omega) (fun a j p1 => by rw [rs_up_at, if_neg (fun q => p1 q.1), fr a j p1]) (fun j hj => by
        rw [rs_up_at]
        by_cases ej : j = k
        · rw [if_pos ⟨rfl, ej⟩, ej]
        · rw [if_neg (fun q => ej q.2)]; exact bx j (by omega))
      rw [rs_x_102_2]
      simp only [rs_x_102_0, rs_x_102_1, rs_x_102_3, rs_x_102_4, rs_x_102_7, rs_x_102_10, rs_x_102_11, rs_x_102_14, rs_x_102_15, rs_x_102_16, rs_x_102_19, rs_x_102_21, rs_x_102_22, rs_x_102_23, rs_x_102_24, rs_x_102_25, rs_x_102_26, rs_x_102_27, rs_x_102_30, rs_x_102_33, rs_x_102_34, rs_x_102_35, rs_x_102_38, rs_x_102_41, rs_cn_n, rs_cn_i, rs_cn_r, rs_cn_t, rs_up_at, Nat.reduceAdd, Nat.reduceEqDiff, Nat.reduceSub, Int.reduceToNat, Int.reduceNeg, Int.reduceLE, Int.reduceLT, Int.reduceAdd, Int.reduceSub, Int.reduceMul, Int.add_sub_cancel, List.length_cons, List.length_nil, Nat.reduceLeDiff, Nat.reduceLT, Int.cast_ofNat_Int, true_and, and_true, and_self, false_and, and_false, ↓reduceIte, Nat.zero_le, or_true, true_or, false_or, or_false, Nat.sub_zero, Int.toNat_natCast, Nat.le_refl, implies_true, forall_const, Int.reduceEq, Nat.reduceMul, ne_eq, not_true_eq_false, not_false_eq_true, false_implies, true_implies, Nat.left_eq_add, Nat.add_eq_left, g88, g102, g107, f88_18, f88_33, j1, nle, ik, x1, x2, x3, x5, lk, kb]
      exact ⟨rn, z⟩
  have z := loop n 0 I (by omega) (fun _ _ _ => rfl) (fun j hj => by omega)
  simp only [rs_x_102_0, rs_x_102_1, rs_x_102_3, rs_x_102_4, rs_x_102_7, rs_x_102_10, rs_x_102_11, rs_x_102_14, rs_x_102_15, rs_x_102_16, rs_x_102_19, rs_x_102_21, rs_x_102_22, rs_x_102_23, rs_x_102_24, rs_x_102_25, rs_x_102_26, rs_x_102_27, rs_x_102_30, rs_x_102_33, rs_x_102_34, rs_x_102_35, rs_x_102_38, rs_x_102_41, rs_cn_n, rs_cn_i, rs_cn_r, rs_cn_t, rs_up_at, Nat.reduceAdd, Nat.reduceEqDiff, Nat.reduceSub, Int.reduceToNat, Int.reduceNeg, Int.reduceLE, Int.reduceLT, Int.reduceAdd, Int.reduceSub, Int.reduceMul, Int.add_sub_cancel, List.length_cons, List.length_nil, Nat.reduceLeDiff, Nat.reduceLT, Int.cast_ofNat_Int, true_and, and_true, and_self, false_and, and_false, ↓reduceIte, Nat.zero_le, or_true, true_or, false_or, or_false, Nat.sub_zero, Int.toNat_natCast, Nat.le_refl, implies_true, forall_const, Int.reduceEq, Nat.reduceMul, ne_eq, not_true_eq_false, not_false_eq_true, false_implies, true_implies, Nat.left_eq_add, Nat.add_eq_left]
  exact z
theorem ml_up2 {J : rs_M} {D c : Nat} {p q : Int} (hc : c < 10) (j : Nat) : ml (rs_up (rs_up J 102 (10 * D + c) p) 103 (10 * D + c) q) D j = (if j = c then p else ml J D j) ∧ mh (rs_up (rs_up J 102 (10 * D + c) p) 103 (10 * D + c) q) D j = (if j = c then q else mh J D j) := by
  unfold ml mh
  by_cases h : j < 10
  · simp only [if_pos h, rs_up_at, Nat.reduceEqDiff, false_and, ↓reduceIte, true_and, Nat.add_left_cancel_iff, and_self]
  · have : ¬ j = c := by omega
    simp only [if_neg h, if_neg this, and_self]
set_option maxRecDepth 100000 in
set_option maxHeartbeats 2000000 in
theorem cm_follow {u e d n c : Nat} {v : Int} {I : rs_M} {K : rs_K} (he : 6 ≤ e) (hd : d < 10) (e1 : I 88 1 = (n : Int)) (net : mt_net I n) (hc : c < n) (ec : I 108 d = (c : Int)) (hbx : bx_ok n (ml I d) (mh I d)) (hv : ml I d c ≤ v ∧ v ≤ mh I d c) (h1 : ∀ J, rm_fr (d + 1) I J → sF n (bx_all n (mt_G I) (mt_S I) (mt_Q I)) (so_up (nb n (ml I d)) c v) (so_up (nb n (mh I d)) c v) = some (nb n (ml J (d + 1)), nb n (mh J (d + 1))) → bx_ok n (ml J (d + 1)) (mh J (d + 1)) → bx_le n (so_up (ml I d) c v) (so_up (mh I d) c v) (ml J (d + 1)) (mh J (d + 1)) → K (some (.inl 1)) J) (h0 : ∀ J, rm_fr (d + 1) I J → sF n (bx_all n (mt_G I) (mt_S I) (mt_Q I)) (so_up (nb n (ml I d)) c v) (so_up (nb n (mh I d)) c v) = none → K (some (.inl 0)) J) : rs_run u e 103 0 (rs_en0 [.inr (.inr 88), .inl (d : Int), .inl v] 4) [] I K := by
  show rs_run u e 103 0 [some (.inr (.inr 88)), some (.inl (d : Int)), some (.inl v), none] [] I K
  have g88 : rs_sh 88 = (1, 8) := by decide +kernel
  have g102 : rs_sh 102 = (2, 120) := by decide +kernel
  have g103 : rs_sh 103 = (2, 120) := by decide +kernel
  have g108 : rs_sh 108 = (2, 11) := by decide +kernel
  have f88_18 : rs_rf 88 18 = 102 := by decide +kernel
  have f88_19 : rs_rf 88 19 = 103 := by decide +kernel
  have f88_34 : rs_rf 88 34 = 108 := by decide +kernel
  have hn := net.1
  have he0 : 0 < e := by omega
  have he5 : 5 ≤ e - 1 := by omega
  have x0 : rs_R (10 * (d : Int)) := by unfold rs_R; omega
  have x10 : rs_R (10 * (d : Int) + 10) := by unfold rs_R; omega
  have fin : ∀ J : rs_M, rm_fr (d + 1) I J → (∀ j, j < n → ml J (d + 1) j = so_up (ml I d) c v j ∧ mh J (d + 1) j = so_up (mh I d) c v j) → rs_run u e 103 106 [some (.inr (.inr 88)), some (.inl (d : Int)), some (.inl v), some (.inl (n : Int))] [] J K := fun J fr bx => by
    obtain ⟨eG, eS, eQ, enet⟩ := mt_eq fr
    have rd : rs_R ((d : Int) + 1) := by unfold rs_R; omega
    have e0 : ∀ j, j < n → ml J (d + 1) j = so_up (nb n (ml I d)) c v j ∧ mh J (d + 1) j = so_up (nb n (mh I d)) c v j := fun j hj => by
      rw [(bx j hj).1, (bx j hj).2]
      unfold so_up
      rw [nb_at hj, nb_at hj]
      exact ⟨rfl, rfl⟩
    have bok : bx_ok n (ml J (d + 1)) (mh J (d + 1)) := fun j hj => by
      rw [(bx j hj).1, (bx j hj).2]
      unfold so_up
      have p1 := hbx j hj
      have p2 := hbx c hc
      split <;> omega
    rw [rs_x_103_106]
    simp only [rs_x_103_0, rs_x_103_1, rs_x_103_2, rs_x_103_3, rs_x_103_4, rs_x_103_7, rs_x_103_10, rs_x_103_11, rs_x_103_14, rs_x_103_16, rs_x_103_17, rs_x_103_18, rs_x_103_20, rs_x_103_21, rs_x_103_22, rs_x_103_23, rs_x_103_24, rs_x_103_27, rs_x_103_29, rs_x_103_30, rs_x_103_31, rs_x_103_32, rs_x_103_33, rs_x_103_34, rs_x_103_35, rs_x_103_36, rs_x_103_39, rs_x_103_41, rs_x_103_42, rs_x_103_43, rs_x_103_45, rs_x_103_46, rs_x_103_47, rs_x_103_48, rs_x_103_49, rs_x_103_52, rs_x_103_54, rs_x_103_55, rs_x_103_56, rs_x_103_57, rs_x_103_58, rs_x_103_59, rs_x_103_60, rs_x_103_63, rs_x_103_66, rs_x_103_67, rs_x_103_70, rs_x_103_72, rs_x_103_73, rs_x_103_74, rs_x_103_76, rs_x_103_77, rs_x_103_78, rs_x_103_81, rs_x_103_82, rs_x_103_83, rs_x_103_84, rs_x_103_85, rs_x_103_86, rs_x_103_87, rs_x_103_90, rs_x_103_92, rs_x_103_93, rs_x_103_94, rs_x_103_96, rs_x_103_97, rs_x_103_98, rs_x_103_101, rs_x_103_102, rs_x_103_103, rs_x_103_104, rs_x_103_105, rs_x_103_107, rs_x_103_108, rs_x_103_109, rs_x_103_110, rs_x_103_113, rs_cn_n, rs_cn_i, rs_cn_r, rs_cn_t, rs_up_at, Nat.reduceAdd, Nat.reduceEqDiff, Nat.reduceSub, Int.reduceToNat, Int.reduceNeg, Int.reduceLE, Int.reduceLT, Int.reduceAdd, Int.reduceSub, Int.reduceMul, Int.add_sub_cancel, List.length_cons, List.length_nil, Nat.reduceLeDiff, Nat.reduceLT, Int.cast_ofNat_Int, true_and, and_true, and_self, false_and, and_false, ↓reduceIte, Nat.zero_le, or_true, true_or, false_or, or_false, Nat.sub_zero, Int.toNat_natCast, Nat.le_refl, implies_true, forall_const, Int.reduceEq, Nat.reduceMul, ne_eq, not_true_eq_false, not_false_eq_true, false_implies, true_implies, Nat.left_eq_add, Nat.add_eq_left, g88, rd]
    refine ⟨he0, ?_⟩
    rw [show (d : Int) + 1 = ((d + 1 : Nat) : Int) by omega]
    refine cm_settle he5 (by omega) (enet n net) bok (fun L fL fx lok => ?_) (fun L fL br => ?_)
    · rw [eG, eS, eQ] at fx
      have z := h1 L (rm_fr_tr fr fL) (sF_fix e0 fx) lok (bx_le_eq (fun j hj => ⟨(bx j hj).1.symm, (bx j hj).2.symm⟩) (fun _ _ => ⟨rfl, rfl⟩) fx.1)
      simp only [rs_x_103_0, rs_x_103_1, rs_x_103_2, rs_x_103_3, rs_x_103_4, rs_x_103_7, rs_x_103_10, rs_x_103_11, rs_x_103_14, rs_x_103_16, rs_x_103_17, rs_x_103_18, rs_x_103_20, rs_x_103_21, rs_x_103_22, rs_x_103_23, rs_x_103_24, rs_x_103_27, rs_x_103_29, rs_x_103_30, rs_x_103_31, rs_x_103_32, rs_x_103_33, rs_x_103_34, rs_x_103_35, rs_x_103_36, rs_x_103_39, rs_x_103_41, rs_x_103_42, rs_x_103_43, rs_x_103_45, rs_x_103_46, rs_x_103_47, rs_x_103_48, rs_x_103_49, rs_x_103_52, rs_x_103_54, rs_x_103_55, rs_x_103_56, rs_x_103_57, rs_x_103_58, rs_x_103_59, rs_x_103_60, rs_x_103_63, rs_x_103_66, rs_x_103_67, rs_x_103_70, rs_x_103_72, rs_x_103_73, rs_x_103_74, rs_x_103_76, rs_x_103_77, rs_x_103_78, rs_x_103_81, rs_x_103_82, rs_x_103_83, rs_x_103_84, rs_x_103_85, rs_x_103_86, rs_x_103_87, rs_x_103_90, rs_x_103_92, rs_x_103_93, rs_x_103_94, rs_x_103_96, rs_x_103_97, rs_x_103_98, rs_x_103_101, rs_x_103_102, rs_x_103_103, rs_x_103_104, rs_x_103_105, rs_x_103_107, rs_x_103_108, rs_x_103_109, rs_x_103_110, rs_x_103_113, rs_cn_n, rs_cn_i, rs_cn_r, rs_cn_t, rs_up_at, Nat.reduceAdd, Nat.reduceEqDiff, Nat.reduceSub, Int.reduceToNat, Int.reduceNeg, Int.reduceLE, Int.reduceLT, Int.reduceAdd, Int.reduceSub, Int.reduceMul, Int.add_sub_cancel, List.length_cons, List.length_nil, Nat.reduceLeDiff, Nat.reduceLT, Int.cast_ofNat_Int, true_and, and_true, and_self, false_and, and_false, ↓reduceIte, Nat.zero_le, or_true, true_or, false_or, or_false, Nat.sub_zero, Int.toNat_natCast, Nat.le_refl, implies_true, forall_const, Int.reduceEq, Nat.reduceMul, ne_eq, not_true_eq_false, not_false_eq_true, false_implies, true_implies, Nat.left_eq_add, Nat.add_eq_left, g88]
      exact z
    · rw [eG, eS, eQ] at br
      have z := h0 L (rm_fr_tr fr fL) (sF_brk e0 br)
      simp only [rs_x_103_0, rs_x_103_1, rs_x_103_2, rs_x_103_3, rs_x_103_4, rs_x_103_7, rs_x_103_10, rs_x_103_11, rs_x_103_14, rs_x_103_16, rs_x_103_17, rs_x_103_18, rs_x_103_20, rs_x_103_21, rs_x_103_22, rs_x_103_23, rs_x_103_24, rs_x_103_27, rs_x_103_29, rs_x_103_30, rs_x_103_31, rs_x_103_32, rs_x_103_33, rs_x_103_34, rs_x_103_35, rs_x_103_36, rs_x_103_39, rs_x_103_41, rs_x_103_42, rs_x_103_43, rs_x_103_45, rs_x_103_46, rs_x_103_47, rs_x_103_48, rs_x_103_49, rs_x_103_52, rs_x_103_54, rs_x_103_55, rs_x_103_56, rs_x_103_57, rs_x_103_58, rs_x_103_59, rs_x_103_60, rs_x_103_63, rs_x_103_66, rs_x_103_67, rs_x_103_70, rs_x_103_72, rs_x_103_73, rs_x_103_74, rs_x_103_76, rs_x_103_77, rs_x_103_78, rs_x_103_81, rs_x_103_82, rs_x_103_83, rs_x_103_84, rs_x_103_85, rs_x_103_86, rs_x_103_87, rs_x_103_90, rs_x_103_92, rs_x_103_93, rs_x_103_94, rs_x_103_96, rs_x_103_97, rs_x_103_98, rs_x_103_101, rs_x_103_102, rs_x_103_103, rs_x_103_104, rs_x_103_105, rs_x_103_107, rs_x_103_108, rs_x_103_109, rs_x_103_110, rs_x_103_113, rs_cn_n, rs_cn_i, rs_cn_r, rs_cn_t, rs_up_at, Nat.reduceAdd, Nat.reduceEqDiff, Nat.reduceSub, Int.reduceToNat, Int.reduceNeg, Int.reduceLE, Int.reduceLT, Int.reduceAdd, Int.reduceSub, Int.reduceMul, Int.add_sub_cancel, List.length_cons, List.length_nil, Nat.reduceLeDiff, Nat.reduceLT, Int.cast_ofNat_Int, true_and, and_true, and_self, false_and, and_false, ↓reduceIte, Nat.zero_le, or_true, true_or, false_or, or_false, Nat.sub_zero, Int.toNat_natCast, Nat.le_refl, implies_true, forall_const, Int.reduceEq, Nat.reduceMul, ne_eq, not_true_eq_false, not_false_eq_true, false_implies, true_implies, Nat.left_eq_add, Nat.add_eq_left, g88]
      exact z
  have loop : ∀ (m k : Nat) (J : rs_M), k + m = n → rm_fr (d + 1) I J → (∀ j, j < k → ml J (d + 1) j = ml I d j ∧ mh J (d + 1) j = mh I d j) → rs_run u e 103 2 [some (.inr (.inr 88)), some (.inl (d : Int)), some (.inl v), some (.inl (k : Int))] [] J K := by
    intro m
    induction m with
    | zero =>
      intro k J ek fr bx
      have : k = n := by omega
      subst this
      have j1 : J 88 1 = (k : Int) := by rw [fr.1 88 1 (by omega) (by omega) (by omega) (by omega), e1]
      have j108 : J 108 d = (c : Int) := by rw [fr.1 108 d (by omega) (by omega) (by omega) (by omega), ec]
      have d1 : 0 ≤ (d : Int) := by omega
      have d2 : (d : Int) < 11 := by omega
      have ic : (10 * (d : Int) + 10 + (c : Int)).toNat = 10 * (d + 1) + c := by omega
      have y1 : rs_R (10 * (d : Int) + 10 + (c : Int)) := by unfold rs_R; omega
      have y2 : 0 ≤ 10 * (d : Int) + 10 + (c : Int) := by omega
      have y3 : 10 * (d : Int) + 10 + (c : Int) < 120 := by omega
      have z := fin (rs_up (rs_up J 102 (10 * (d + 1) + c) v) 103 (10 * (d + 1) + c) v) (rm_fr_tr fr ⟨fun a j p1 p2 _ _ => by
        rw [rs_up_at, if_neg (fun q => p2 q.1), rs_up_at, if_neg (fun q => p1 q.1)], fun i hi => by
        simp only [rs_up_at, Nat.reduceEqDiff, false_and, ↓reduceIte, true_and]
        rw [if_neg (by omega), if_neg (by omega)]
        exact ⟨rfl, rfl⟩⟩) (fun j hj => by
        obtain ⟨u1, u2⟩ := ml_up2 (J := J) (D := d + 1) (c := c) (p := v) (q := v) (by omega) j
        rw [u1, u2]
        unfold so_up
        rw [(bx j hj).1, (bx j hj).2]
        exact ⟨rfl, rfl⟩)
      have le : (k : Int) ≤ (k : Int) := by omega
      rw [rs_x_103_2]
      simp only [rs_x_103_0, rs_x_103_1, rs_x_103_3, rs_x_103_4, rs_x_103_7, rs_x_103_10, rs_x_103_11, rs_x_103_14, rs_x_103_16, rs_x_103_17, rs_x_103_18, rs_x_103_20, rs_x_103_21, rs_x_103_22, rs_x_103_23, rs_x_103_24, rs_x_103_27, rs_x_103_29, rs_x_103_30, rs_x_103_31, rs_x_103_32, rs_x_103_33, rs_x_103_34, rs_x_103_35, rs_x_103_36, rs_x_103_39, rs_x_103_41, rs_x_103_42, rs_x_103_43, rs_x_103_45, rs_x_103_46, rs_x_103_47, rs_x_103_48, rs_x_103_49, rs_x_103_52, rs_x_103_54, rs_x_103_55, rs_x_103_56, rs_x_103_57, rs_x_103_58, rs_x_103_59, rs_x_103_60, rs_x_103_63, rs_x_103_66, rs_x_103_67, rs_x_103_70, rs_x_103_72, rs_x_103_73, rs_x_103_74, rs_x_103_76, rs_x_103_77, rs_x_103_78, rs_x_103_81, rs_x_103_82, rs_x_103_83, rs_x_103_84, rs_x_103_85, rs_x_103_86, rs_x_103_87, rs_x_103_90, rs_x_103_92, rs_x_103_93, rs_x_103_94, rs_x_103_96, rs_x_103_97, rs_x_103_98, rs_x_103_101, rs_x_103_102, rs_x_103_103, rs_x_103_104, rs_x_103_105, rs_x_103_107, rs_x_103_108, rs_x_103_109, rs_x_103_110, rs_x_103_113, rs_cn_n, rs_cn_i, rs_cn_r, rs_cn_t, rs_up_at, Nat.reduceAdd, Nat.reduceEqDiff, Nat.reduceSub, Int.reduceToNat, Int.reduceNeg, Int.reduceLE, Int.reduceLT, Int.reduceAdd, Int.reduceSub, Int.reduceMul, Int.add_sub_cancel, List.length_cons, List.length_nil, Nat.reduceLeDiff, Nat.reduceLT, Int.cast_ofNat_Int, true_and, and_true, and_self, false_and, and_false, ↓reduceIte, Nat.zero_le, or_true, true_or, false_or, or_false, Nat.sub_zero, Int.toNat_natCast, Nat.le_refl, implies_true, forall_const, Int.reduceEq, Nat.reduceMul, ne_eq, not_true_eq_false, not_false_eq_true, false_implies, true_implies, Nat.left_eq_add, Nat.add_eq_left, g88, g102, g103, g108, f88_18, f88_19, f88_34, j1, le, x0, x10, d1, d2, j108, ic, y1, y2, y3]
      exact z
    | succ m ih =>
      intro k J ek fr bx
      have j1 : J 88 1 = (n : Int) := by rw [fr.1 88 1 (by omega) (by omega) (by omega) (by omega), e1]
      have nle : ((n : Int) ≤ (k : Int)) = False := eq_false (by omega)
      have kb : 0 ≤ (k : Int) ∧ (k : Int) < 10 := by omega
      obtain ⟨ik, _, x2, x3, _⟩ := rm_ix (d := d) (c := (k : Int)) (by omega) kb
      rw [Int.toNat_natCast] at ik
      have x5 : 10 * (d : Int) + (k : Int) < 120 := by omega
      have lk : J 102 (10 * d + k) = ml I d k := by rw [(fr.2 _ (by omega)).1]; exact (ml_at (by omega)).symm
      have hk : J 103 (10 * d + k) = mh I d k := by rw [(fr.2 _ (by omega)).2]; exact (mh_at (by omega)).symm
      have ic : (10 * (d : Int) + 10 + (k : Int)).toNat = 10 * (d + 1) + k := by omega
      have y1 : rs_R (10 * (d : Int) + 10 + (k : Int)) := by unfold rs_R; omega
      have y2 : 0 ≤ 10 * (d : Int) + 10 + (k : Int) := by omega
      have y3 : 10 * (d : Int) + 10 + (k : Int) < 120 := by omega
      have rn : rs_R ((k : Int) + 1) := by unfold rs_R; omega
      have z := ih (k + 1) (rs_up (rs_up J 102 (10 * (d + 1) + k) (ml I d k)) 103 (10 * (d + 1) + k) (mh I d k)) (by omega) (rm_fr_tr fr ⟨fun a j p1 p2 _ _ => by
        rw [rs_up_at, if_neg (fun q => p2 q.1), rs_up_at, if_neg (fun q => p1 q.1)], fun i hi => by
        simp only [rs_up_at, Nat.reduceEqDiff, false_and, ↓reduceIte, true_and]
        rw [if_neg (by omega), if_neg (by omega)]
        exact ⟨rfl, rfl⟩⟩) (fun j hj => by
        obtain ⟨u1, u2⟩ := ml_up2 (J := J) (D := d + 1) (c := k) (p := ml I d k) (q := mh I d k) (by omega) j
        rw [u1, u2]
        by_cases ej : j = k
        · rw [if_pos ej, if_pos ej, ej]; exact ⟨rfl, rfl⟩
        · rw [if_neg ej, if_neg ej]
          exact bx j (by omega))
      rw [rs_x_103_2]
      simp only [rs_x_103_0, rs_x_103_1, rs_x_103_3, rs_x_103_4, rs_x_103_7, rs_x_103_10, rs_x_103_11, rs_x_103_14, rs_x_103_16, rs_x_103_17, rs_x_103_18, rs_x_103_20, rs_x_103_21, rs_x_103_22, rs_x_103_23, rs_x_103_24, rs_x_103_27, rs_x_103_29, rs_x_103_30, rs_x_103_31, rs_x_103_32, rs_x_103_33, rs_x_103_34, rs_x_103_35, rs_x_103_36, rs_x_103_39, rs_x_103_41, rs_x_103_42, rs_x_103_43, rs_x_103_45, rs_x_103_46, rs_x_103_47, rs_x_103_48, rs_x_103_49, rs_x_103_52, rs_x_103_54, rs_x_103_55, rs_x_103_56, rs_x_103_57, rs_x_103_58, rs_x_103_59, rs_x_103_60, rs_x_103_63, rs_x_103_66, rs_x_103_67, rs_x_103_70, rs_x_103_72, rs_x_103_73, rs_x_103_74, rs_x_103_76, rs_x_103_77, rs_x_103_78, rs_x_103_81, rs_x_103_82, rs_x_103_83, rs_x_103_84, rs_x_103_85, rs_x_103_86, rs_x_103_87, rs_x_103_90, rs_x_103_92, rs_x_103_93, rs_x_103_94, rs_x_103_96, rs_x_103_97, rs_x_103_98, rs_x_103_101, rs_x_103_102, rs_x_103_103, rs_x_103_104, rs_x_103_105, rs_x_103_107, rs_x_103_108, rs_x_103_109, rs_x_103_110, rs_x_103_113, rs_cn_n, rs_cn_i, rs_cn_r, rs_cn_t, rs_up_at, Nat.reduceAdd, Nat.reduceEqDiff, Nat.reduceSub, Int.reduceToNat, Int.reduceNeg, Int.reduceLE, Int.reduceLT, Int.reduceAdd, Int.reduceSub, Int.reduceMul, Int.add_sub_cancel, List.length_cons, List.length_nil, Nat.reduceLeDiff, Nat.reduceLT, Int.cast_ofNat_Int, true_and, and_true, and_self, false_and, and_false, ↓reduceIte, Nat.zero_le, or_true, true_or, false_or, or_false, Nat.sub_zero, Int.toNat_natCast, Nat.le_refl, implies_true, forall_const, Int.reduceEq, Nat.reduceMul, ne_eq, not_true_eq_false, not_false_eq_true, false_implies, true_implies, Nat.left_eq_add, Nat.add_eq_left, g88, g102, g103, f88_18, f88_19, j1, nle, ik, x0, x10, x2, x3, x5, lk, hk, ic, y1, y2, y3]
      exact ⟨rn, z⟩
  have z := loop n 0 I (by omega) rm_fr_rf (fun j hj => by omega)
  simp only [rs_x_103_0, rs_x_103_1, rs_x_103_3, rs_x_103_4, rs_x_103_7, rs_x_103_10, rs_x_103_11, rs_x_103_14, rs_x_103_16, rs_x_103_17, rs_x_103_18, rs_x_103_20, rs_x_103_21, rs_x_103_22, rs_x_103_23, rs_x_103_24, rs_x_103_27, rs_x_103_29, rs_x_103_30, rs_x_103_31, rs_x_103_32, rs_x_103_33, rs_x_103_34, rs_x_103_35, rs_x_103_36, rs_x_103_39, rs_x_103_41, rs_x_103_42, rs_x_103_43, rs_x_103_45, rs_x_103_46, rs_x_103_47, rs_x_103_48, rs_x_103_49, rs_x_103_52, rs_x_103_54, rs_x_103_55, rs_x_103_56, rs_x_103_57, rs_x_103_58, rs_x_103_59, rs_x_103_60, rs_x_103_63, rs_x_103_66, rs_x_103_67, rs_x_103_70, rs_x_103_72, rs_x_103_73, rs_x_103_74, rs_x_103_76, rs_x_103_77, rs_x_103_78, rs_x_103_81, rs_x_103_82, rs_x_103_83, rs_x_103_84, rs_x_103_85, rs_x_103_86, rs_x_103_87, rs_x_103_90, rs_x_103_92, rs_x_103_93, rs_x_103_94, rs_x_103_96, rs_x_103_97, rs_x_103_98, rs_x_103_101, rs_x_103_102, rs_x_103_103, rs_x_103_104, rs_x_103_105, rs_x_103_106, rs_x_103_107, rs_x_103_108, rs_x_103_109, rs_x_103_110, rs_x_103_113, rs_cn_n, rs_cn_i, rs_cn_r, rs_cn_t, rs_up_at, Nat.reduceAdd, Nat.reduceEqDiff, Nat.reduceSub, Int.reduceToNat, Int.reduceNeg, Int.reduceLE, Int.reduceLT, Int.reduceAdd, Int.reduceSub, Int.reduceMul, Int.add_sub_cancel, List.length_cons, List.length_nil, Nat.reduceLeDiff, Nat.reduceLT, Int.cast_ofNat_Int, true_and, and_true, and_self, false_and, and_false, ↓reduceIte, Nat.zero_le, or_true, true_or, false_or, or_false, Nat.sub_zero, Int.toNat_natCast, Nat.le_refl, implies_true, forall_const, Int.reduceEq, Nat.reduceMul, ne_eq, not_true_eq_false, not_false_eq_true, false_implies, true_implies, Nat.left_eq_add, Nat.add_eq_left]
  exact z
