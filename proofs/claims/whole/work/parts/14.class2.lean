set_option maxRecDepth 100000 in
set_option maxHeartbeats 2000000 in
theorem ct_relate {u d : Nat} {k a b c : Int} {I : rs_M} {K : rs_K} (hu : 1 ≤ u) (hd : 7 ≤ d) (ha : rs_R a) (hn : 0 ≤ I 1 6 ∧ I 1 6 ≤ 10) (hc : 0 ≤ I 6 2 ∧ I 6 2 ≤ 12) (h1 : ¬ rg_okrel (I 1 6) k a b c → K (some (.inr (.inl 1))) I) (h2 : rg_okrel (I 1 6) k a b c → I 6 2 = 12 → K (some (.inr (.inl 2))) I) (h3 : rg_okrel (I 1 6) k a b c → I 6 2 < 12 → K (some (.inl (I 6 2))) (rs_up (rg_become I (12 + (I 6 2).toNat) k a b c) 6 2 (I 6 2 + 1))) : rs_run u d 35 0 (rs_en0 [.inr (.inr 1), .inl k, .inl a, .inl b, .inl c] 5) [] I K := by
  show rs_run u d 35 0 [some (.inr (.inr 1)), some (.inl k), some (.inl a), some (.inl b), some (.inl c)] [] I K
  have g1 : rs_sh 1 = (1, 7) := by decide +kernel
  have g6 : rs_sh 6 = (1, 1) := by decide +kernel
  have g7 : rs_sh 7 = (6, 12) := by decide +kernel
  have f1_2 : rs_rf 1 2 = 6 := by decide +kernel
  have f6_0 : rs_rf 6 0 = 7 := by decide +kernel
  have e1 : ∀ {J : rs_M} {q : Nat}, q ≠ 6 → rg_become J q k a b c 6 2 = J 6 2 := fun {J q} hq => by
    have : ¬ 6 = q := fun h => hq h.symm
    simp [rg_become, rs_up_at, this]
  simp only [rs_x_35_0, rs_x_35_1, rs_x_35_2, rs_x_35_3, rs_x_35_4, rs_x_35_6, rs_x_35_9, rs_x_35_12, rs_x_35_22, rs_x_35_23, rs_x_35_26, rs_x_35_29, rs_x_35_31, rs_x_35_34, rs_x_35_44, rs_x_35_45, rs_x_35_48, rs_x_35_51, rs_x_35_52, rs_x_35_55, rs_x_35_58, rs_x_35_59, rs_x_35_60, rs_x_35_61, rs_x_35_62, rs_x_35_64, rs_x_35_67, rs_x_35_68, rs_x_35_71, rs_x_35_72, rs_x_35_75, rs_x_35_76, rs_x_35_77, rs_x_35_80, rs_x_35_81, rs_x_35_84, rs_x_35_87, rs_x_35_88, rs_x_35_89, rs_cn_n, rs_cn_i, rs_cn_r, rs_cn_t, rs_up_at, Nat.reduceAdd, Nat.reduceEqDiff, Nat.reduceSub, Int.reduceToNat, Int.reduceNeg, Int.reduceLE, Int.reduceLT, Int.reduceAdd, Int.reduceSub, Int.reduceMul, Int.add_sub_cancel, List.length_cons, List.length_nil, Nat.reduceLeDiff, Nat.reduceLT, Int.cast_ofNat_Int, true_and, and_true, and_self, false_and, and_false, ↓reduceIte, Nat.zero_le, or_true, true_or, false_or, or_false, Nat.sub_zero, Int.toNat_natCast, Nat.le_refl, implies_true, forall_const, Int.reduceEq, Nat.reduceMul, ne_eq, not_true_eq_false, not_false_eq_true, false_implies, true_implies, Nat.left_eq_add, Nat.add_eq_left, g1, g6, f1_2]
  refine ⟨by omega, ct_isRelation (by omega) ha hn (fun ok => ?_) (fun ok => ?_)⟩
  · have h1 := h1; have h2 := h2 ok; have h3 := h3 ok
    simp only [rs_x_35_0, rs_x_35_1, rs_x_35_2, rs_x_35_3, rs_x_35_4, rs_x_35_6, rs_x_35_9, rs_x_35_12, rs_x_35_22, rs_x_35_23, rs_x_35_26, rs_x_35_29, rs_x_35_31, rs_x_35_34, rs_x_35_44, rs_x_35_45, rs_x_35_48, rs_x_35_51, rs_x_35_52, rs_x_35_55, rs_x_35_58, rs_x_35_59, rs_x_35_60, rs_x_35_61, rs_x_35_62, rs_x_35_64, rs_x_35_67, rs_x_35_68, rs_x_35_71, rs_x_35_72, rs_x_35_75, rs_x_35_76, rs_x_35_77, rs_x_35_80, rs_x_35_81, rs_x_35_84, rs_x_35_87, rs_x_35_88, rs_x_35_89, rs_cn_n, rs_cn_i, rs_cn_r, rs_cn_t, rs_up_at, Nat.reduceAdd, Nat.reduceEqDiff, Nat.reduceSub, Int.reduceToNat, Int.reduceNeg, Int.reduceLE, Int.reduceLT, Int.reduceAdd, Int.reduceSub, Int.reduceMul, Int.add_sub_cancel, List.length_cons, List.length_nil, Nat.reduceLeDiff, Nat.reduceLT, Int.cast_ofNat_Int, true_and, and_true, and_self, false_and, and_false, ↓reduceIte, Nat.zero_le, or_true, true_or, false_or, or_false, Nat.sub_zero, Int.toNat_natCast, Nat.le_refl, implies_true, forall_const, Int.reduceEq, Nat.reduceMul, ne_eq, not_true_eq_false, not_false_eq_true, false_implies, true_implies, Nat.left_eq_add, Nat.add_eq_left, g1, g6, g7, f1_2, f6_0]
    refine ⟨fun h => ?_, fun h => ⟨by omega, by omega, h2 (by omega)⟩⟩
    obtain ⟨r1, r2⟩ := gm_rel (I 6 2).toNat (by omega)
    have e2 := e1 (J := I) (q := 12 + (I 6 2).toNat) (by omega)
    simp only [rs_x_35_0, rs_x_35_1, rs_x_35_2, rs_x_35_3, rs_x_35_4, rs_x_35_6, rs_x_35_9, rs_x_35_12, rs_x_35_22, rs_x_35_23, rs_x_35_26, rs_x_35_29, rs_x_35_31, rs_x_35_34, rs_x_35_44, rs_x_35_45, rs_x_35_48, rs_x_35_51, rs_x_35_52, rs_x_35_55, rs_x_35_58, rs_x_35_59, rs_x_35_60, rs_x_35_61, rs_x_35_62, rs_x_35_64, rs_x_35_67, rs_x_35_68, rs_x_35_71, rs_x_35_72, rs_x_35_75, rs_x_35_76, rs_x_35_77, rs_x_35_80, rs_x_35_81, rs_x_35_84, rs_x_35_87, rs_x_35_88, rs_x_35_89, rs_cn_n, rs_cn_i, rs_cn_r, rs_cn_t, rs_up_at, Nat.reduceAdd, Nat.reduceEqDiff, Nat.reduceSub, Int.reduceToNat, Int.reduceNeg, Int.reduceLE, Int.reduceLT, Int.reduceAdd, Int.reduceSub, Int.reduceMul, Int.add_sub_cancel, List.length_cons, List.length_nil, Nat.reduceLeDiff, Nat.reduceLT, Int.cast_ofNat_Int, true_and, and_true, and_self, false_and, and_false, ↓reduceIte, Nat.zero_le, or_true, true_or, false_or, or_false, Nat.sub_zero, Int.toNat_natCast, Nat.le_refl, implies_true, forall_const, Int.reduceEq, Nat.reduceMul, ne_eq, not_true_eq_false, not_false_eq_true, false_implies, true_implies, Nat.left_eq_add, Nat.add_eq_left, g1, g6, g7, f1_2, f6_0, r1, r2]
    refine ⟨by omega, by omega, ct_become r2 ?_⟩
    simp only [rs_x_35_0, rs_x_35_1, rs_x_35_2, rs_x_35_3, rs_x_35_4, rs_x_35_6, rs_x_35_9, rs_x_35_12, rs_x_35_22, rs_x_35_23, rs_x_35_26, rs_x_35_29, rs_x_35_31, rs_x_35_34, rs_x_35_44, rs_x_35_45, rs_x_35_48, rs_x_35_51, rs_x_35_52, rs_x_35_55, rs_x_35_58, rs_x_35_59, rs_x_35_60, rs_x_35_61, rs_x_35_62, rs_x_35_64, rs_x_35_67, rs_x_35_68, rs_x_35_71, rs_x_35_72, rs_x_35_75, rs_x_35_76, rs_x_35_77, rs_x_35_80, rs_x_35_81, rs_x_35_84, rs_x_35_87, rs_x_35_88, rs_x_35_89, rs_cn_n, rs_cn_i, rs_cn_r, rs_cn_t, rs_up_at, Nat.reduceAdd, Nat.reduceEqDiff, Nat.reduceSub, Int.reduceToNat, Int.reduceNeg, Int.reduceLE, Int.reduceLT, Int.reduceAdd, Int.reduceSub, Int.reduceMul, Int.add_sub_cancel, List.length_cons, List.length_nil, Nat.reduceLeDiff, Nat.reduceLT, Int.cast_ofNat_Int, true_and, and_true, and_self, false_and, and_false, ↓reduceIte, Nat.zero_le, or_true, true_or, false_or, or_false, Nat.sub_zero, Int.toNat_natCast, Nat.le_refl, implies_true, forall_const, Int.reduceEq, Nat.reduceMul, ne_eq, not_true_eq_false, not_false_eq_true, false_implies, true_implies, Nat.left_eq_add, Nat.add_eq_left, g1, g6, g7, f1_2, f6_0, r1, r2, e2]
    repeat' (first
    | refine And.intro ?_ ?_
    | (guard_target =~ (_ → _); intro)
    | omega
    | (unfold rs_R; omega)
    | exact h3 (by omega)
    | decide)
  · simp only [rs_x_35_0, rs_x_35_1, rs_x_35_2, rs_x_35_3, rs_x_35_4, rs_x_35_6, rs_x_35_9, rs_x_35_12, rs_x_35_22, rs_x_35_23, rs_x_35_26, rs_x_35_29, rs_x_35_31, rs_x_35_34, rs_x_35_44, rs_x_35_45, rs_x_35_48, rs_x_35_51, rs_x_35_52, rs_x_35_55, rs_x_35_58, rs_x_35_59, rs_x_35_60, rs_x_35_61, rs_x_35_62, rs_x_35_64, rs_x_35_67, rs_x_35_68, rs_x_35_71, rs_x_35_72, rs_x_35_75, rs_x_35_76, rs_x_35_77, rs_x_35_80, rs_x_35_81, rs_x_35_84, rs_x_35_87, rs_x_35_88, rs_x_35_89, rs_cn_n, rs_cn_i, rs_cn_r, rs_cn_t, rs_up_at, Nat.reduceAdd, Nat.reduceEqDiff, Nat.reduceSub, Int.reduceToNat, Int.reduceNeg, Int.reduceLE, Int.reduceLT, Int.reduceAdd, Int.reduceSub, Int.reduceMul, Int.add_sub_cancel, List.length_cons, List.length_nil, Nat.reduceLeDiff, Nat.reduceLT, Int.cast_ofNat_Int, true_and, and_true, and_self, false_and, and_false, ↓reduceIte, Nat.zero_le, or_true, true_or, false_or, or_false, Nat.sub_zero, Int.toNat_natCast, Nat.le_refl, implies_true, forall_const, Int.reduceEq, Nat.reduceMul, ne_eq, not_true_eq_false, not_false_eq_true, false_implies, true_implies, Nat.left_eq_add, Nat.add_eq_left, g1, g6, f1_2]
    exact ⟨by omega, by omega, h1 ok⟩
set_option maxRecDepth 100000 in
set_option maxHeartbeats 2000000 in
theorem ct_hold {u d : Nat} {r g : Int} {I : rs_M} {K : rs_K} (hd : 1 ≤ d) (hc : 0 ≤ I 6 2 ∧ I 6 2 ≤ 12) (hg : g = 0 ∨ g = 1) (h0 : ¬ ((0 ≤ r ∧ r < I 6 2) ∧ I (12 + r.toNat) 5 ≠ g) → K (some (.inl 0)) I) (h1 : (0 ≤ r ∧ r < I 6 2) → I (12 + r.toNat) 5 ≠ g → K (some (.inl 1)) (rs_up I (12 + r.toNat) 5 g)) : rs_run u d 36 0 (rs_en0 [.inr (.inr 1), .inl r, .inl g] 3) [] I K := by
  show rs_run u d 36 0 [some (.inr (.inr 1)), some (.inl r), some (.inl g)] [] I K
  have g1 : rs_sh 1 = (1, 7) := by decide +kernel
  have g6 : rs_sh 6 = (1, 1) := by decide +kernel
  have g7 : rs_sh 7 = (6, 12) := by decide +kernel
  have f1_2 : rs_rf 1 2 = 6 := by decide +kernel
  have f6_0 : rs_rf 6 0 = 7 := by decide +kernel
  simp only [rs_x_36_0, rs_x_36_1, rs_x_36_4, rs_x_36_5, rs_x_36_8, rs_x_36_11, rs_x_36_12, rs_x_36_15, rs_x_36_18, rs_x_36_19, rs_x_36_20, rs_x_36_23, rs_x_36_24, rs_x_36_27, rs_x_36_28, rs_x_36_29, rs_x_36_30, rs_x_36_33, rs_x_36_36, rs_x_36_37, rs_x_36_38, rs_x_36_39, rs_x_36_42, rs_x_36_43, rs_cn_n, rs_cn_i, rs_cn_r, rs_cn_t, rs_up_at, Nat.reduceAdd, Nat.reduceEqDiff, Nat.reduceSub, Int.reduceToNat, Int.reduceNeg, Int.reduceLE, Int.reduceLT, Int.reduceAdd, Int.reduceSub, Int.reduceMul, Int.add_sub_cancel, List.length_cons, List.length_nil, Nat.reduceLeDiff, Nat.reduceLT, Int.cast_ofNat_Int, true_and, and_true, and_self, false_and, and_false, ↓reduceIte, Nat.zero_le, or_true, true_or, false_or, or_false, Nat.sub_zero, Int.toNat_natCast, Nat.le_refl, implies_true, forall_const, Int.reduceEq, Nat.reduceMul, ne_eq, not_true_eq_false, not_false_eq_true, false_implies, true_implies, Nat.left_eq_add, Nat.add_eq_left, g1, g6, f1_2]
  refine ⟨by omega, cb_has (fun i j => ?_) (fun i => ?_)⟩
  · obtain ⟨r1, r2⟩ := gm_rel r.toNat (by omega)
    simp only [rs_x_36_0, rs_x_36_1, rs_x_36_4, rs_x_36_5, rs_x_36_8, rs_x_36_11, rs_x_36_12, rs_x_36_15, rs_x_36_18, rs_x_36_19, rs_x_36_20, rs_x_36_23, rs_x_36_24, rs_x_36_27, rs_x_36_28, rs_x_36_29, rs_x_36_30, rs_x_36_33, rs_x_36_36, rs_x_36_37, rs_x_36_38, rs_x_36_39, rs_x_36_42, rs_x_36_43, rs_cn_n, rs_cn_i, rs_cn_r, rs_cn_t, rs_up_at, Nat.reduceAdd, Nat.reduceEqDiff, Nat.reduceSub, Int.reduceToNat, Int.reduceNeg, Int.reduceLE, Int.reduceLT, Int.reduceAdd, Int.reduceSub, Int.reduceMul, Int.add_sub_cancel, List.length_cons, List.length_nil, Nat.reduceLeDiff, Nat.reduceLT, Int.cast_ofNat_Int, true_and, and_true, and_self, false_and, and_false, ↓reduceIte, Nat.zero_le, or_true, true_or, false_or, or_false, Nat.sub_zero, Int.toNat_natCast, Nat.le_refl, implies_true, forall_const, Int.reduceEq, Nat.reduceMul, ne_eq, not_true_eq_false, not_false_eq_true, false_implies, true_implies, Nat.left_eq_add, Nat.add_eq_left, g1, g6, g7, f1_2, f6_0, r1, r2]
    repeat' (first
    | refine And.intro ?_ ?_
    | (guard_target =~ (_ → _); intro)
    | omega
    | (unfold rs_R; omega)
    | exact h0 (by omega)
    | exact h1 (by omega) (by omega)
    | decide)
  · simp only [rs_x_36_0, rs_x_36_1, rs_x_36_4, rs_x_36_5, rs_x_36_8, rs_x_36_11, rs_x_36_12, rs_x_36_15, rs_x_36_18, rs_x_36_19, rs_x_36_20, rs_x_36_23, rs_x_36_24, rs_x_36_27, rs_x_36_28, rs_x_36_29, rs_x_36_30, rs_x_36_33, rs_x_36_36, rs_x_36_37, rs_x_36_38, rs_x_36_39, rs_x_36_42, rs_x_36_43, rs_cn_n, rs_cn_i, rs_cn_r, rs_cn_t, rs_up_at, Nat.reduceAdd, Nat.reduceEqDiff, Nat.reduceSub, Int.reduceToNat, Int.reduceNeg, Int.reduceLE, Int.reduceLT, Int.reduceAdd, Int.reduceSub, Int.reduceMul, Int.add_sub_cancel, List.length_cons, List.length_nil, Nat.reduceLeDiff, Nat.reduceLT, Int.cast_ofNat_Int, true_and, and_true, and_self, false_and, and_false, ↓reduceIte, Nat.zero_le, or_true, true_or, false_or, or_false, Nat.sub_zero, Int.toNat_natCast, Nat.le_refl, implies_true, forall_const, Int.reduceEq, Nat.reduceMul, ne_eq, not_true_eq_false, not_false_eq_true, false_implies, true_implies, Nat.left_eq_add, Nat.add_eq_left, g1, g6, g7, f1_2, f6_0]
    exact h0 (by omega)
set_option maxRecDepth 100000 in
set_option maxHeartbeats 2000000 in
theorem ct_row {u d : Nat} {t x y : Int} {I : rs_M} {K : rs_K} (hd : 1 ≤ d) (hr : ∀ k, k < 3 → 0 ≤ I (24 + 3 * k) 2 ∧ I (24 + 3 * k) 2 ≤ 10) (h0 : ¬ ((0 ≤ t ∧ t < 3) ∧ (-100 ≤ x ∧ x ≤ 100) ∧ (-100 ≤ y ∧ y ≤ 100) ∧ I (24 + 3 * t.toNat) 2 < 10) → K (some (.inl 0)) I) (h1 : (0 ≤ t ∧ t < 3) → (-100 ≤ x ∧ x ≤ 100) → (-100 ≤ y ∧ y ≤ 100) → I (24 + 3 * t.toNat) 2 < 10 → K (some (.inl (I (24 + 3 * t.toNat) 2 + 1))) (rs_up (rs_up (rs_up I (24 + 3 * t.toNat + 1) (I (24 + 3 * t.toNat) 2).toNat x) (24 + 3 * t.toNat + 2) (I (24 + 3 * t.toNat) 2).toNat y) (24 + 3 * t.toNat) 2 (I (24 + 3 * t.toNat) 2 + 1))) : rs_run u d 37 0 (rs_en0 [.inr (.inr 1), .inl t, .inl x, .inl y] 5) [] I K := by
  show rs_run u d 37 0 [some (.inr (.inr 1)), some (.inl t), some (.inl x), some (.inl y), none] [] I K
  have g1 : rs_sh 1 = (1, 7) := by decide +kernel
  have g6 : rs_sh 6 = (1, 1) := by decide +kernel
  have g8 : rs_sh 8 = (7, 3) := by decide +kernel
  have f1_2 : rs_rf 1 2 = 6 := by decide +kernel
  have f6_1 : rs_rf 6 1 = 8 := by decide +kernel
  simp only [rs_x_37_0, rs_x_37_1, rs_x_37_4, rs_x_37_7, rs_x_37_8, rs_x_37_9, rs_x_37_12, rs_x_37_15, rs_x_37_16, rs_x_37_17, rs_x_37_20, rs_x_37_23, rs_x_37_24, rs_x_37_27, rs_x_37_30, rs_x_37_31, rs_x_37_32, rs_x_37_35, rs_x_37_37, rs_x_37_40, rs_x_37_41, rs_x_37_42, rs_x_37_43, rs_x_37_46, rs_x_37_49, rs_x_37_50, rs_x_37_51, rs_x_37_53, rs_x_37_55, rs_x_37_58, rs_x_37_60, rs_x_37_63, rs_x_37_64, rs_x_37_65, rs_x_37_67, rs_x_37_70, rs_x_37_72, rs_x_37_75, rs_x_37_76, rs_x_37_77, rs_x_37_79, rs_x_37_80, rs_x_37_83, rs_x_37_84, rs_x_37_85, rs_x_37_88, rs_x_37_90, rs_x_37_93, rs_cn_n, rs_cn_i, rs_cn_r, rs_cn_t, rs_up_at, Nat.reduceAdd, Nat.reduceEqDiff, Nat.reduceSub, Int.reduceToNat, Int.reduceNeg, Int.reduceLE, Int.reduceLT, Int.reduceAdd, Int.reduceSub, Int.reduceMul, Int.add_sub_cancel, List.length_cons, List.length_nil, Nat.reduceLeDiff, Nat.reduceLT, Int.cast_ofNat_Int, true_and, and_true, and_self, false_and, and_false, ↓reduceIte, Nat.zero_le, or_true, true_or, false_or, or_false, Nat.sub_zero, Int.toNat_natCast, Nat.le_refl, implies_true, forall_const, Int.reduceEq, Nat.reduceMul, ne_eq, not_true_eq_false, not_false_eq_true, false_implies, true_implies, Nat.left_eq_add, Nat.add_eq_left, g1, g6, f1_2]
  refine ⟨by omega, cb_isTable (fun i j => ?_) (fun i => ?_)⟩
  · have hr1 := hr t.toNat (by omega)
    obtain ⟨r1, r2, r3, r4, r5, r6⟩ := gm_tab t.toNat (by omega)
    simp only [rs_x_37_0, rs_x_37_1, rs_x_37_4, rs_x_37_7, rs_x_37_8, rs_x_37_9, rs_x_37_12, rs_x_37_15, rs_x_37_16, rs_x_37_17, rs_x_37_20, rs_x_37_23, rs_x_37_24, rs_x_37_27, rs_x_37_30, rs_x_37_31, rs_x_37_32, rs_x_37_35, rs_x_37_37, rs_x_37_40, rs_x_37_41, rs_x_37_42, rs_x_37_43, rs_x_37_46, rs_x_37_49, rs_x_37_50, rs_x_37_51, rs_x_37_53, rs_x_37_55, rs_x_37_58, rs_x_37_60, rs_x_37_63, rs_x_37_64, rs_x_37_65, rs_x_37_67, rs_x_37_70, rs_x_37_72, rs_x_37_75, rs_x_37_76, rs_x_37_77, rs_x_37_79, rs_x_37_80, rs_x_37_83, rs_x_37_84, rs_x_37_85, rs_x_37_88, rs_x_37_90, rs_x_37_93, rs_cn_n, rs_cn_i, rs_cn_r, rs_cn_t, rs_up_at, Nat.reduceAdd, Nat.reduceEqDiff, Nat.reduceSub, Int.reduceToNat, Int.reduceNeg, Int.reduceLE, Int.reduceLT, Int.reduceAdd, Int.reduceSub, Int.reduceMul, Int.add_sub_cancel, List.length_cons, List.length_nil, Nat.reduceLeDiff, Nat.reduceLT, Int.cast_ofNat_Int, true_and, and_true, and_self, false_and, and_false, ↓reduceIte, Nat.zero_le, or_true, true_or, false_or, or_false, Nat.sub_zero, Int.toNat_natCast, Nat.le_refl, implies_true, forall_const, Int.reduceEq, Nat.reduceMul, ne_eq, not_true_eq_false, not_false_eq_true, false_implies, true_implies, Nat.left_eq_add, Nat.add_eq_left, g1, g6, f1_2]
    refine ⟨by omega, cb_isRange (fun i1 i2 i3 => ?_) (fun i1 => ?_)⟩
    · simp only [rs_x_37_0, rs_x_37_1, rs_x_37_4, rs_x_37_7, rs_x_37_8, rs_x_37_9, rs_x_37_12, rs_x_37_15, rs_x_37_16, rs_x_37_17, rs_x_37_20, rs_x_37_23, rs_x_37_24, rs_x_37_27, rs_x_37_30, rs_x_37_31, rs_x_37_32, rs_x_37_35, rs_x_37_37, rs_x_37_40, rs_x_37_41, rs_x_37_42, rs_x_37_43, rs_x_37_46, rs_x_37_49, rs_x_37_50, rs_x_37_51, rs_x_37_53, rs_x_37_55, rs_x_37_58, rs_x_37_60, rs_x_37_63, rs_x_37_64, rs_x_37_65, rs_x_37_67, rs_x_37_70, rs_x_37_72, rs_x_37_75, rs_x_37_76, rs_x_37_77, rs_x_37_79, rs_x_37_80, rs_x_37_83, rs_x_37_84, rs_x_37_85, rs_x_37_88, rs_x_37_90, rs_x_37_93, rs_cn_n, rs_cn_i, rs_cn_r, rs_cn_t, rs_up_at, Nat.reduceAdd, Nat.reduceEqDiff, Nat.reduceSub, Int.reduceToNat, Int.reduceNeg, Int.reduceLE, Int.reduceLT, Int.reduceAdd, Int.reduceSub, Int.reduceMul, Int.add_sub_cancel, List.length_cons, List.length_nil, Nat.reduceLeDiff, Nat.reduceLT, Int.cast_ofNat_Int, true_and, and_true, and_self, false_and, and_false, ↓reduceIte, Nat.zero_le, or_true, true_or, false_or, or_false, Nat.sub_zero, Int.toNat_natCast, Nat.le_refl, implies_true, forall_const, Int.reduceEq, Nat.reduceMul, ne_eq, not_true_eq_false, not_false_eq_true, false_implies, true_implies, Nat.left_eq_add, Nat.add_eq_left, g1, g6, f1_2]
      refine ⟨by omega, cb_isRange (fun i4 i5 i6 => ?_) (fun i4 => ?_)⟩
      · simp only [rs_x_37_0, rs_x_37_1, rs_x_37_4, rs_x_37_7, rs_x_37_8, rs_x_37_9, rs_x_37_12, rs_x_37_15, rs_x_37_16, rs_x_37_17, rs_x_37_20, rs_x_37_23, rs_x_37_24, rs_x_37_27, rs_x_37_30, rs_x_37_31, rs_x_37_32, rs_x_37_35, rs_x_37_37, rs_x_37_40, rs_x_37_41, rs_x_37_42, rs_x_37_43, rs_x_37_46, rs_x_37_49, rs_x_37_50, rs_x_37_51, rs_x_37_53, rs_x_37_55, rs_x_37_58, rs_x_37_60, rs_x_37_63, rs_x_37_64, rs_x_37_65, rs_x_37_67, rs_x_37_70, rs_x_37_72, rs_x_37_75, rs_x_37_76, rs_x_37_77, rs_x_37_79, rs_x_37_80, rs_x_37_83, rs_x_37_84, rs_x_37_85, rs_x_37_88, rs_x_37_90, rs_x_37_93, rs_cn_n, rs_cn_i, rs_cn_r, rs_cn_t, rs_up_at, Nat.reduceAdd, Nat.reduceEqDiff, Nat.reduceSub, Int.reduceToNat, Int.reduceNeg, Int.reduceLE, Int.reduceLT, Int.reduceAdd, Int.reduceSub, Int.reduceMul, Int.add_sub_cancel, List.length_cons, List.length_nil, Nat.reduceLeDiff, Nat.reduceLT, Int.cast_ofNat_Int, true_and, and_true, and_self, false_and, and_false, ↓reduceIte, Nat.zero_le, or_true, true_or, false_or, or_false, Nat.sub_zero, Int.toNat_natCast, Nat.le_refl, implies_true, forall_const, Int.reduceEq, Nat.reduceMul, ne_eq, not_true_eq_false, not_false_eq_true, false_implies, true_implies, Nat.left_eq_add, Nat.add_eq_left, g1, g6, g8, f1_2, f6_1, r1, r2, r3, r4, r5, r6]
        repeat' (first
    | refine And.intro ?_ ?_
    | (guard_target =~ (_ → _); intro)
    | omega
    | (unfold rs_R; omega)
    | exact h0 (by omega)
    | exact h1 (by omega) (by omega) (by omega) (by omega)
    | decide)
      · simp only [rs_x_37_0, rs_x_37_1, rs_x_37_4, rs_x_37_7, rs_x_37_8, rs_x_37_9, rs_x_37_12, rs_x_37_15, rs_x_37_16, rs_x_37_17, rs_x_37_20, rs_x_37_23, rs_x_37_24, rs_x_37_27, rs_x_37_30, rs_x_37_31, rs_x_37_32, rs_x_37_35, rs_x_37_37, rs_x_37_40, rs_x_37_41, rs_x_37_42, rs_x_37_43, rs_x_37_46, rs_x_37_49, rs_x_37_50, rs_x_37_51, rs_x_37_53, rs_x_37_55, rs_x_37_58, rs_x_37_60, rs_x_37_63, rs_x_37_64, rs_x_37_65, rs_x_37_67, rs_x_37_70, rs_x_37_72, rs_x_37_75, rs_x_37_76, rs_x_37_77, rs_x_37_79, rs_x_37_80, rs_x_37_83, rs_x_37_84, rs_x_37_85, rs_x_37_88, rs_x_37_90, rs_x_37_93, rs_cn_n, rs_cn_i, rs_cn_r, rs_cn_t, rs_up_at, Nat.reduceAdd, Nat.reduceEqDiff, Nat.reduceSub, Int.reduceToNat, Int.reduceNeg, Int.reduceLE, Int.reduceLT, Int.reduceAdd, Int.reduceSub, Int.reduceMul, Int.add_sub_cancel, List.length_cons, List.length_nil, Nat.reduceLeDiff, Nat.reduceLT, Int.cast_ofNat_Int, true_and, and_true, and_self, false_and, and_false, ↓reduceIte, Nat.zero_le, or_true, true_or, false_or, or_false, Nat.sub_zero, Int.toNat_natCast, Nat.le_refl, implies_true, forall_const, Int.reduceEq, Nat.reduceMul, ne_eq, not_true_eq_false, not_false_eq_true, false_implies, true_implies, Nat.left_eq_add, Nat.add_eq_left, g1, g6, g8, f1_2, f6_1]
        exact h0 (by omega)
    · simp only [rs_x_37_0, rs_x_37_1, rs_x_37_4, rs_x_37_7, rs_x_37_8, rs_x_37_9, rs_x_37_12, rs_x_37_15, rs_x_37_16, rs_x_37_17, rs_x_37_20, rs_x_37_23, rs_x_37_24, rs_x_37_27, rs_x_37_30, rs_x_37_31, rs_x_37_32, rs_x_37_35, rs_x_37_37, rs_x_37_40, rs_x_37_41, rs_x_37_42, rs_x_37_43, rs_x_37_46, rs_x_37_49, rs_x_37_50, rs_x_37_51, rs_x_37_53, rs_x_37_55, rs_x_37_58, rs_x_37_60, rs_x_37_63, rs_x_37_64, rs_x_37_65, rs_x_37_67, rs_x_37_70, rs_x_37_72, rs_x_37_75, rs_x_37_76, rs_x_37_77, rs_x_37_79, rs_x_37_80, rs_x_37_83, rs_x_37_84, rs_x_37_85, rs_x_37_88, rs_x_37_90, rs_x_37_93, rs_cn_n, rs_cn_i, rs_cn_r, rs_cn_t, rs_up_at, Nat.reduceAdd, Nat.reduceEqDiff, Nat.reduceSub, Int.reduceToNat, Int.reduceNeg, Int.reduceLE, Int.reduceLT, Int.reduceAdd, Int.reduceSub, Int.reduceMul, Int.add_sub_cancel, List.length_cons, List.length_nil, Nat.reduceLeDiff, Nat.reduceLT, Int.cast_ofNat_Int, true_and, and_true, and_self, false_and, and_false, ↓reduceIte, Nat.zero_le, or_true, true_or, false_or, or_false, Nat.sub_zero, Int.toNat_natCast, Nat.le_refl, implies_true, forall_const, Int.reduceEq, Nat.reduceMul, ne_eq, not_true_eq_false, not_false_eq_true, false_implies, true_implies, Nat.left_eq_add, Nat.add_eq_left, g1, g6, g8, f1_2, f6_1]
      exact h0 (by omega)
  · simp only [rs_x_37_0, rs_x_37_1, rs_x_37_4, rs_x_37_7, rs_x_37_8, rs_x_37_9, rs_x_37_12, rs_x_37_15, rs_x_37_16, rs_x_37_17, rs_x_37_20, rs_x_37_23, rs_x_37_24, rs_x_37_27, rs_x_37_30, rs_x_37_31, rs_x_37_32, rs_x_37_35, rs_x_37_37, rs_x_37_40, rs_x_37_41, rs_x_37_42, rs_x_37_43, rs_x_37_46, rs_x_37_49, rs_x_37_50, rs_x_37_51, rs_x_37_53, rs_x_37_55, rs_x_37_58, rs_x_37_60, rs_x_37_63, rs_x_37_64, rs_x_37_65, rs_x_37_67, rs_x_37_70, rs_x_37_72, rs_x_37_75, rs_x_37_76, rs_x_37_77, rs_x_37_79, rs_x_37_80, rs_x_37_83, rs_x_37_84, rs_x_37_85, rs_x_37_88, rs_x_37_90, rs_x_37_93, rs_cn_n, rs_cn_i, rs_cn_r, rs_cn_t, rs_up_at, Nat.reduceAdd, Nat.reduceEqDiff, Nat.reduceSub, Int.reduceToNat, Int.reduceNeg, Int.reduceLE, Int.reduceLT, Int.reduceAdd, Int.reduceSub, Int.reduceMul, Int.add_sub_cancel, List.length_cons, List.length_nil, Nat.reduceLeDiff, Nat.reduceLT, Int.cast_ofNat_Int, true_and, and_true, and_self, false_and, and_false, ↓reduceIte, Nat.zero_le, or_true, true_or, false_or, or_false, Nat.sub_zero, Int.toNat_natCast, Nat.le_refl, implies_true, forall_const, Int.reduceEq, Nat.reduceMul, ne_eq, not_true_eq_false, not_false_eq_true, false_implies, true_implies, Nat.left_eq_add, Nat.add_eq_left, g1, g6, g8, f1_2, f6_1]
    exact h0 (by omega)
set_option maxRecDepth 100000 in
set_option maxHeartbeats 2000000 in
theorem ct_set {u d : Nat} {c a b : Int} {I : rs_M} {K : rs_K} (hu : 1 ≤ u) (hd : 7 ≤ d) (hc : 0 ≤ I 1 7 ∧ I 1 7 ≤ 12) (h1 : ¬ ((0 ≤ c ∧ c < I 1 6) ∧ (-100 ≤ a ∧ a ≤ b ∧ b ≤ 100)) → K (some (.inr (.inl 1))) I) (h2 : (0 ≤ c ∧ c < I 1 6) → (-100 ≤ a ∧ a ≤ b ∧ b ≤ 100) → I 1 7 = 12 → K (some (.inr (.inl 2))) I) (h3 : (0 ≤ c ∧ c < I 1 6) → (-100 ≤ a ∧ a ≤ b ∧ b ≤ 100) → I 1 7 < 12 → K (some (.inl (I 1 7))) (rs_up (rs_up (rs_up (rs_up (rs_up I (76 + (I 1 7).toNat) 0 c) (76 + (I 1 7).toNat) 1 a) (76 + (I 1 7).toNat) 2 b) (76 + (I 1 7).toNat) 3 1) 1 7 (I 1 7 + 1))) : rs_run u d 38 0 (rs_en0 [.inr (.inr 1), .inl c, .inl a, .inl b] 5) [] I K := by
  show rs_run u d 38 0 [some (.inr (.inr 1)), some (.inl c), some (.inl a), some (.inl b), none] [] I K
  have g1 : rs_sh 1 = (1, 7) := by decide +kernel
  have g5 : rs_sh 5 = (5, 12) := by decide +kernel
  have f1_1 : rs_rf 1 1 = 5 := by decide +kernel
  simp only [rs_x_38_0, rs_x_38_1, rs_x_38_2, rs_x_38_5, rs_x_38_8, rs_x_38_9, rs_x_38_10, rs_x_38_13, rs_x_38_16, rs_x_38_26, rs_x_38_27, rs_x_38_30, rs_x_38_32, rs_x_38_35, rs_x_38_45, rs_x_38_46, rs_x_38_49, rs_x_38_50, rs_x_38_53, rs_x_38_54, rs_x_38_56, rs_x_38_58, rs_x_38_59, rs_x_38_62, rs_x_38_64, rs_x_38_65, rs_x_38_68, rs_x_38_70, rs_x_38_71, rs_x_38_74, rs_x_38_76, rs_x_38_77, rs_x_38_80, rs_x_38_81, rs_x_38_82, rs_x_38_85, rs_x_38_86, rs_x_38_87, rs_x_38_90, rs_x_38_91, rs_x_38_94, rs_x_38_95, rs_x_38_96, rs_cn_n, rs_cn_i, rs_cn_r, rs_cn_t, rs_up_at, Nat.reduceAdd, Nat.reduceEqDiff, Nat.reduceSub, Int.reduceToNat, Int.reduceNeg, Int.reduceLE, Int.reduceLT, Int.reduceAdd, Int.reduceSub, Int.reduceMul, Int.add_sub_cancel, List.length_cons, List.length_nil, Nat.reduceLeDiff, Nat.reduceLT, Int.cast_ofNat_Int, true_and, and_true, and_self, false_and, and_false, ↓reduceIte, Nat.zero_le, or_true, true_or, false_or, or_false, Nat.sub_zero, Int.toNat_natCast, Nat.le_refl, implies_true, forall_const, Int.reduceEq, Nat.reduceMul, ne_eq, not_true_eq_false, not_false_eq_true, false_implies, true_implies, Nat.left_eq_add, Nat.add_eq_left, g1, g5, f1_1]
  refine ⟨by omega, cb_isCell (fun i j => ?_) (fun i => ?_)⟩
  · simp only [rs_x_38_0, rs_x_38_1, rs_x_38_2, rs_x_38_5, rs_x_38_8, rs_x_38_9, rs_x_38_10, rs_x_38_13, rs_x_38_16, rs_x_38_26, rs_x_38_27, rs_x_38_30, rs_x_38_32, rs_x_38_35, rs_x_38_45, rs_x_38_46, rs_x_38_49, rs_x_38_50, rs_x_38_53, rs_x_38_54, rs_x_38_56, rs_x_38_58, rs_x_38_59, rs_x_38_62, rs_x_38_64, rs_x_38_65, rs_x_38_68, rs_x_38_70, rs_x_38_71, rs_x_38_74, rs_x_38_76, rs_x_38_77, rs_x_38_80, rs_x_38_81, rs_x_38_82, rs_x_38_85, rs_x_38_86, rs_x_38_87, rs_x_38_90, rs_x_38_91, rs_x_38_94, rs_x_38_95, rs_x_38_96, rs_cn_n, rs_cn_i, rs_cn_r, rs_cn_t, rs_up_at, Nat.reduceAdd, Nat.reduceEqDiff, Nat.reduceSub, Int.reduceToNat, Int.reduceNeg, Int.reduceLE, Int.reduceLT, Int.reduceAdd, Int.reduceSub, Int.reduceMul, Int.add_sub_cancel, List.length_cons, List.length_nil, Nat.reduceLeDiff, Nat.reduceLT, Int.cast_ofNat_Int, true_and, and_true, and_self, false_and, and_false, ↓reduceIte, Nat.zero_le, or_true, true_or, false_or, or_false, Nat.sub_zero, Int.toNat_natCast, Nat.le_refl, implies_true, forall_const, Int.reduceEq, Nat.reduceMul, ne_eq, not_true_eq_false, not_false_eq_true, false_implies, true_implies, Nat.left_eq_add, Nat.add_eq_left, g1, g5, f1_1]
    refine ⟨by omega, cb_isRange (fun i1 i2 i3 => ?_) (fun i1 => ?_)⟩
    · simp only [rs_x_38_0, rs_x_38_1, rs_x_38_2, rs_x_38_5, rs_x_38_8, rs_x_38_9, rs_x_38_10, rs_x_38_13, rs_x_38_16, rs_x_38_26, rs_x_38_27, rs_x_38_30, rs_x_38_32, rs_x_38_35, rs_x_38_45, rs_x_38_46, rs_x_38_49, rs_x_38_50, rs_x_38_53, rs_x_38_54, rs_x_38_56, rs_x_38_58, rs_x_38_59, rs_x_38_62, rs_x_38_64, rs_x_38_65, rs_x_38_68, rs_x_38_70, rs_x_38_71, rs_x_38_74, rs_x_38_76, rs_x_38_77, rs_x_38_80, rs_x_38_81, rs_x_38_82, rs_x_38_85, rs_x_38_86, rs_x_38_87, rs_x_38_90, rs_x_38_91, rs_x_38_94, rs_x_38_95, rs_x_38_96, rs_cn_n, rs_cn_i, rs_cn_r, rs_cn_t, rs_up_at, Nat.reduceAdd, Nat.reduceEqDiff, Nat.reduceSub, Int.reduceToNat, Int.reduceNeg, Int.reduceLE, Int.reduceLT, Int.reduceAdd, Int.reduceSub, Int.reduceMul, Int.add_sub_cancel, List.length_cons, List.length_nil, Nat.reduceLeDiff, Nat.reduceLT, Int.cast_ofNat_Int, true_and, and_true, and_self, false_and, and_false, ↓reduceIte, Nat.zero_le, or_true, true_or, false_or, or_false, Nat.sub_zero, Int.toNat_natCast, Nat.le_refl, implies_true, forall_const, Int.reduceEq, Nat.reduceMul, ne_eq, not_true_eq_false, not_false_eq_true, false_implies, true_implies, Nat.left_eq_add, Nat.add_eq_left, g1, g5, f1_1]
      refine ⟨fun h => ?_, fun h => ⟨by omega, by omega, h2 (by omega) (by omega) (by omega)⟩⟩
      obtain ⟨r1, r2⟩ := gm_ent (I 1 7).toNat (by omega)
      have e1 : ¬ (1 = 76 + (I 1 7).toNat) := by omega
      simp only [rs_x_38_0, rs_x_38_1, rs_x_38_2, rs_x_38_5, rs_x_38_8, rs_x_38_9, rs_x_38_10, rs_x_38_13, rs_x_38_16, rs_x_38_26, rs_x_38_27, rs_x_38_30, rs_x_38_32, rs_x_38_35, rs_x_38_45, rs_x_38_46, rs_x_38_49, rs_x_38_50, rs_x_38_53, rs_x_38_54, rs_x_38_56, rs_x_38_58, rs_x_38_59, rs_x_38_62, rs_x_38_64, rs_x_38_65, rs_x_38_68, rs_x_38_70, rs_x_38_71, rs_x_38_74, rs_x_38_76, rs_x_38_77, rs_x_38_80, rs_x_38_81, rs_x_38_82, rs_x_38_85, rs_x_38_86, rs_x_38_87, rs_x_38_90, rs_x_38_91, rs_x_38_94, rs_x_38_95, rs_x_38_96, rs_cn_n, rs_cn_i, rs_cn_r, rs_cn_t, rs_up_at, Nat.reduceAdd, Nat.reduceEqDiff, Nat.reduceSub, Int.reduceToNat, Int.reduceNeg, Int.reduceLE, Int.reduceLT, Int.reduceAdd, Int.reduceSub, Int.reduceMul, Int.add_sub_cancel, List.length_cons, List.length_nil, Nat.reduceLeDiff, Nat.reduceLT, Int.cast_ofNat_Int, true_and, and_true, and_self, false_and, and_false, ↓reduceIte, Nat.zero_le, or_true, true_or, false_or, or_false, Nat.sub_zero, Int.toNat_natCast, Nat.le_refl, implies_true, forall_const, Int.reduceEq, Nat.reduceMul, ne_eq, not_true_eq_false, not_false_eq_true, false_implies, true_implies, Nat.left_eq_add, Nat.add_eq_left, g1, g5, f1_1, r1, r2, e1]
      repeat' (first
    | refine And.intro ?_ ?_
    | (guard_target =~ (_ → _); intro)
    | omega
    | (unfold rs_R; omega)
    | exact h3 (by omega) (by omega) (by omega)
    | decide)
    · simp only [rs_x_38_0, rs_x_38_1, rs_x_38_2, rs_x_38_5, rs_x_38_8, rs_x_38_9, rs_x_38_10, rs_x_38_13, rs_x_38_16, rs_x_38_26, rs_x_38_27, rs_x_38_30, rs_x_38_32, rs_x_38_35, rs_x_38_45, rs_x_38_46, rs_x_38_49, rs_x_38_50, rs_x_38_53, rs_x_38_54, rs_x_38_56, rs_x_38_58, rs_x_38_59, rs_x_38_62, rs_x_38_64, rs_x_38_65, rs_x_38_68, rs_x_38_70, rs_x_38_71, rs_x_38_74, rs_x_38_76, rs_x_38_77, rs_x_38_80, rs_x_38_81, rs_x_38_82, rs_x_38_85, rs_x_38_86, rs_x_38_87, rs_x_38_90, rs_x_38_91, rs_x_38_94, rs_x_38_95, rs_x_38_96, rs_cn_n, rs_cn_i, rs_cn_r, rs_cn_t, rs_up_at, Nat.reduceAdd, Nat.reduceEqDiff, Nat.reduceSub, Int.reduceToNat, Int.reduceNeg, Int.reduceLE, Int.reduceLT, Int.reduceAdd, Int.reduceSub, Int.reduceMul, Int.add_sub_cancel, List.length_cons, List.length_nil, Nat.reduceLeDiff, Nat.reduceLT, Int.cast_ofNat_Int, true_and, and_true, and_self, false_and, and_false, ↓reduceIte, Nat.zero_le, or_true, true_or, false_or, or_false, Nat.sub_zero, Int.toNat_natCast, Nat.le_refl, implies_true, forall_const, Int.reduceEq, Nat.reduceMul, ne_eq, not_true_eq_false, not_false_eq_true, false_implies, true_implies, Nat.left_eq_add, Nat.add_eq_left, g1, g5, f1_1]
      exact ⟨by omega, by omega, h1 (by omega)⟩
  · simp only [rs_x_38_0, rs_x_38_1, rs_x_38_2, rs_x_38_5, rs_x_38_8, rs_x_38_9, rs_x_38_10, rs_x_38_13, rs_x_38_16, rs_x_38_26, rs_x_38_27, rs_x_38_30, rs_x_38_32, rs_x_38_35, rs_x_38_45, rs_x_38_46, rs_x_38_49, rs_x_38_50, rs_x_38_53, rs_x_38_54, rs_x_38_56, rs_x_38_58, rs_x_38_59, rs_x_38_62, rs_x_38_64, rs_x_38_65, rs_x_38_68, rs_x_38_70, rs_x_38_71, rs_x_38_74, rs_x_38_76, rs_x_38_77, rs_x_38_80, rs_x_38_81, rs_x_38_82, rs_x_38_85, rs_x_38_86, rs_x_38_87, rs_x_38_90, rs_x_38_91, rs_x_38_94, rs_x_38_95, rs_x_38_96, rs_cn_n, rs_cn_i, rs_cn_r, rs_cn_t, rs_up_at, Nat.reduceAdd, Nat.reduceEqDiff, Nat.reduceSub, Int.reduceToNat, Int.reduceNeg, Int.reduceLE, Int.reduceLT, Int.reduceAdd, Int.reduceSub, Int.reduceMul, Int.add_sub_cancel, List.length_cons, List.length_nil, Nat.reduceLeDiff, Nat.reduceLT, Int.cast_ofNat_Int, true_and, and_true, and_self, false_and, and_false, ↓reduceIte, Nat.zero_le, or_true, true_or, false_or, or_false, Nat.sub_zero, Int.toNat_natCast, Nat.le_refl, implies_true, forall_const, Int.reduceEq, Nat.reduceMul, ne_eq, not_true_eq_false, not_false_eq_true, false_implies, true_implies, Nat.left_eq_add, Nat.add_eq_left, g1, g5, f1_1]
    exact ⟨by omega, by omega, h1 (by omega)⟩
set_option maxRecDepth 100000 in
set_option maxHeartbeats 2000000 in
theorem ct_force {u d : Nat} {e g : Int} {I : rs_M} {K : rs_K} (hc : 0 ≤ I 1 7 ∧ I 1 7 ≤ 12) (hg : g = 0 ∨ g = 1) (h0 : ¬ ((0 ≤ e ∧ e < I 1 7) ∧ I (76 + e.toNat) 3 ≠ g) → K (some (.inl 0)) I) (h1 : (0 ≤ e ∧ e < I 1 7) → I (76 + e.toNat) 3 ≠ g → K (some (.inl 1)) (rs_up I (76 + e.toNat) 3 g)) : rs_run u d 39 0 (rs_en0 [.inr (.inr 1), .inl e, .inl g] 3) [] I K := by
  show rs_run u d 39 0 [some (.inr (.inr 1)), some (.inl e), some (.inl g)] [] I K
  have g1 : rs_sh 1 = (1, 7) := by decide +kernel
  have g5 : rs_sh 5 = (5, 12) := by decide +kernel
  have f1_1 : rs_rf 1 1 = 5 := by decide +kernel
  by_cases he : 0 ≤ e ∧ e < I 1 7
  · obtain ⟨r1, r2⟩ := gm_ent e.toNat (by omega)
    simp only [rs_x_39_0, rs_x_39_1, rs_x_39_4, rs_x_39_5, rs_x_39_6, rs_x_39_9, rs_x_39_12, rs_x_39_13, rs_x_39_16, rs_x_39_17, rs_x_39_18, rs_x_39_21, rs_x_39_22, rs_x_39_25, rs_x_39_26, rs_x_39_27, rs_x_39_28, rs_x_39_31, rs_x_39_32, rs_x_39_33, rs_x_39_34, rs_x_39_37, rs_x_39_38, rs_cn_n, rs_cn_i, rs_cn_r, rs_cn_t, rs_up_at, Nat.reduceAdd, Nat.reduceEqDiff, Nat.reduceSub, Int.reduceToNat, Int.reduceNeg, Int.reduceLE, Int.reduceLT, Int.reduceAdd, Int.reduceSub, Int.reduceMul, Int.add_sub_cancel, List.length_cons, List.length_nil, Nat.reduceLeDiff, Nat.reduceLT, Int.cast_ofNat_Int, true_and, and_true, and_self, false_and, and_false, ↓reduceIte, Nat.zero_le, or_true, true_or, false_or, or_false, Nat.sub_zero, Int.toNat_natCast, Nat.le_refl, implies_true, forall_const, Int.reduceEq, Nat.reduceMul, ne_eq, not_true_eq_false, not_false_eq_true, false_implies, true_implies, Nat.left_eq_add, Nat.add_eq_left, g1, g5, f1_1, r1, r2]
    repeat' (first
    | refine And.intro ?_ ?_
    | (guard_target =~ (_ → _); intro)
    | omega
    | (unfold rs_R; omega)
    | exact h0 (by omega)
    | exact h1 (by omega) (by omega)
    | decide)
  · have h0 := h0 (by omega)
    simp only [rs_x_39_0, rs_x_39_1, rs_x_39_4, rs_x_39_5, rs_x_39_6, rs_x_39_9, rs_x_39_12, rs_x_39_13, rs_x_39_16, rs_x_39_17, rs_x_39_18, rs_x_39_21, rs_x_39_22, rs_x_39_25, rs_x_39_26, rs_x_39_27, rs_x_39_28, rs_x_39_31, rs_x_39_32, rs_x_39_33, rs_x_39_34, rs_x_39_37, rs_x_39_38, rs_cn_n, rs_cn_i, rs_cn_r, rs_cn_t, rs_up_at, Nat.reduceAdd, Nat.reduceEqDiff, Nat.reduceSub, Int.reduceToNat, Int.reduceNeg, Int.reduceLE, Int.reduceLT, Int.reduceAdd, Int.reduceSub, Int.reduceMul, Int.add_sub_cancel, List.length_cons, List.length_nil, Nat.reduceLeDiff, Nat.reduceLT, Int.cast_ofNat_Int, true_and, and_true, and_self, false_and, and_false, ↓reduceIte, Nat.zero_le, or_true, true_or, false_or, or_false, Nat.sub_zero, Int.toNat_natCast, Nat.le_refl, implies_true, forall_const, Int.reduceEq, Nat.reduceMul, ne_eq, not_true_eq_false, not_false_eq_true, false_implies, true_implies, Nat.left_eq_add, Nat.add_eq_left, g1, g5, f1_1]
    refine ⟨fun _ => h0, fun h => ⟨fun _ => h0, fun h2 => ?_⟩⟩
    omega
set_option maxRecDepth 100000 in
set_option maxHeartbeats 2000000 in
theorem ct_low {u d : Nat} {c : Int} {I : rs_M} {K : rs_K} (hc : I 1 8 ≤ 10) (h0 : ¬ (0 ≤ c ∧ c < I 1 8) → K (some (.inl (-1000))) I) (h1 : (0 ≤ c ∧ c < I 1 8) → K (some (.inl (I 71 c.toNat))) I) : rs_run u d 41 0 (rs_en0 [.inr (.inr 1), .inl c] 2) [] I K := by
  show rs_run u d 41 0 [some (.inr (.inr 1)), some (.inl c)] [] I K
  have g1 : rs_sh 1 = (1, 7) := by decide +kernel
  have g70 : rs_sh 70 = (1, 2) := by decide +kernel
  have g71 : rs_sh 71 = (2, 10) := by decide +kernel
  have f1_4 : rs_rf 1 4 = 70 := by decide +kernel
  have f70_0 : rs_rf 70 0 = 71 := by decide +kernel
  simp only [rs_x_41_0, rs_x_41_1, rs_x_41_4, rs_x_41_5, rs_x_41_6, rs_x_41_9, rs_x_41_12, rs_x_41_13, rs_x_41_16, rs_x_41_19, rs_x_41_20, rs_x_41_21, rs_x_41_24, rs_x_41_27, rs_cn_n, rs_cn_i, rs_cn_r, rs_cn_t, rs_up_at, Nat.reduceAdd, Nat.reduceEqDiff, Nat.reduceSub, Int.reduceToNat, Int.reduceNeg, Int.reduceLE, Int.reduceLT, Int.reduceAdd, Int.reduceSub, Int.reduceMul, Int.add_sub_cancel, List.length_cons, List.length_nil, Nat.reduceLeDiff, Nat.reduceLT, Int.cast_ofNat_Int, true_and, and_true, and_self, false_and, and_false, ↓reduceIte, Nat.zero_le, or_true, true_or, false_or, or_false, Nat.sub_zero, Int.toNat_natCast, Nat.le_refl, implies_true, forall_const, Int.reduceEq, Nat.reduceMul, ne_eq, not_true_eq_false, not_false_eq_true, false_implies, true_implies, Nat.left_eq_add, Nat.add_eq_left, g1, g70, g71, f1_4, f70_0]
  repeat' (first
    | refine And.intro ?_ ?_
    | (guard_target =~ (_ → _); intro)
    | omega
    | (unfold rs_R; omega)
    | exact h0 (by omega)
    | exact h1 (by omega)
    | decide)
set_option maxRecDepth 100000 in
set_option maxHeartbeats 2000000 in
theorem ct_high {u d : Nat} {c : Int} {I : rs_M} {K : rs_K} (hc : I 1 8 ≤ 10) (h0 : ¬ (0 ≤ c ∧ c < I 1 8) → K (some (.inl (-1000))) I) (h1 : (0 ≤ c ∧ c < I 1 8) → K (some (.inl (I 72 c.toNat))) I) : rs_run u d 42 0 (rs_en0 [.inr (.inr 1), .inl c] 2) [] I K := by
  show rs_run u d 42 0 [some (.inr (.inr 1)), some (.inl c)] [] I K
  have g1 : rs_sh 1 = (1, 7) := by decide +kernel
  have g70 : rs_sh 70 = (1, 2) := by decide +kernel
  have g72 : rs_sh 72 = (2, 10) := by decide +kernel
  have f1_4 : rs_rf 1 4 = 70 := by decide +kernel
  have f70_1 : rs_rf 70 1 = 72 := by decide +kernel
  simp only [rs_x_42_0, rs_x_42_1, rs_x_42_4, rs_x_42_5, rs_x_42_6, rs_x_42_9, rs_x_42_12, rs_x_42_13, rs_x_42_16, rs_x_42_19, rs_x_42_20, rs_x_42_21, rs_x_42_24, rs_x_42_27, rs_cn_n, rs_cn_i, rs_cn_r, rs_cn_t, rs_up_at, Nat.reduceAdd, Nat.reduceEqDiff, Nat.reduceSub, Int.reduceToNat, Int.reduceNeg, Int.reduceLE, Int.reduceLT, Int.reduceAdd, Int.reduceSub, Int.reduceMul, Int.add_sub_cancel, List.length_cons, List.length_nil, Nat.reduceLeDiff, Nat.reduceLT, Int.cast_ofNat_Int, true_and, and_true, and_self, false_and, and_false, ↓reduceIte, Nat.zero_le, or_true, true_or, false_or, or_false, Nat.sub_zero, Int.toNat_natCast, Nat.le_refl, implies_true, forall_const, Int.reduceEq, Nat.reduceMul, ne_eq, not_true_eq_false, not_false_eq_true, false_implies, true_implies, Nat.left_eq_add, Nat.add_eq_left, g1, g70, g72, f1_4, f70_1]
  repeat' (first
    | refine And.intro ?_ ?_
    | (guard_target =~ (_ → _); intro)
    | omega
    | (unfold rs_R; omega)
    | exact h0 (by omega)
    | exact h1 (by omega)
    | decide)
set_option maxRecDepth 100000 in
set_option maxHeartbeats 2000000 in
theorem ct_steps {u d : Nat} {I : rs_M} {K : rs_K} (h : K (some (.inl (I 33 3))) I) : rs_run u d 48 0 (rs_en0 [.inr (.inr 1)] 1) [] I K := by
  show rs_run u d 48 0 [some (.inr (.inr 1))] [] I K
  have g1 : rs_sh 1 = (1, 7) := by decide +kernel
  have g33 : rs_sh 33 = (1, 4) := by decide +kernel
  have f1_3 : rs_rf 1 3 = 33 := by decide +kernel
  simp only [rs_x_48_0, rs_x_48_1, rs_x_48_4, rs_x_48_7, rs_cn_n, rs_cn_i, rs_cn_r, rs_cn_t, rs_up_at, Nat.reduceAdd, Nat.reduceEqDiff, Nat.reduceSub, Int.reduceToNat, Int.reduceNeg, Int.reduceLE, Int.reduceLT, Int.reduceAdd, Int.reduceSub, Int.reduceMul, Int.add_sub_cancel, List.length_cons, List.length_nil, Nat.reduceLeDiff, Nat.reduceLT, Int.cast_ofNat_Int, true_and, and_true, and_self, false_and, and_false, ↓reduceIte, Nat.zero_le, or_true, true_or, false_or, or_false, Nat.sub_zero, Int.toNat_natCast, Nat.le_refl, implies_true, forall_const, Int.reduceEq, Nat.reduceMul, ne_eq, not_true_eq_false, not_false_eq_true, false_implies, true_implies, Nat.left_eq_add, Nat.add_eq_left, g1, g33, f1_3]
  exact h
set_option maxRecDepth 100000 in
set_option maxHeartbeats 2000000 in
theorem ct_value {u d : Nat} {c : Int} {I : rs_M} {K : rs_K} (hc : I 33 2 ≤ 10) (h0 : ¬ (0 ≤ c ∧ c < I 33 2) → K (some (.inl (-1000))) I) (h1 : (0 ≤ c ∧ c < I 33 2) → K (some (.inl (I 35 c.toNat))) I) : rs_run u d 49 0 (rs_en0 [.inr (.inr 1), .inl c] 2) [] I K := by
  show rs_run u d 49 0 [some (.inr (.inr 1)), some (.inl c)] [] I K
  have g1 : rs_sh 1 = (1, 7) := by decide +kernel
  have g33 : rs_sh 33 = (1, 4) := by decide +kernel
  have g35 : rs_sh 35 = (2, 10) := by decide +kernel
  have f1_3 : rs_rf 1 3 = 33 := by decide +kernel
  have f33_1 : rs_rf 33 1 = 35 := by decide +kernel
  simp only [rs_x_49_0, rs_x_49_1, rs_x_49_4, rs_x_49_5, rs_x_49_6, rs_x_49_9, rs_x_49_12, rs_x_49_15, rs_x_49_16, rs_x_49_19, rs_x_49_22, rs_x_49_23, rs_x_49_24, rs_x_49_27, rs_x_49_30, rs_cn_n, rs_cn_i, rs_cn_r, rs_cn_t, rs_up_at, Nat.reduceAdd, Nat.reduceEqDiff, Nat.reduceSub, Int.reduceToNat, Int.reduceNeg, Int.reduceLE, Int.reduceLT, Int.reduceAdd, Int.reduceSub, Int.reduceMul, Int.add_sub_cancel, List.length_cons, List.length_nil, Nat.reduceLeDiff, Nat.reduceLT, Int.cast_ofNat_Int, true_and, and_true, and_self, false_and, and_false, ↓reduceIte, Nat.zero_le, or_true, true_or, false_or, or_false, Nat.sub_zero, Int.toNat_natCast, Nat.le_refl, implies_true, forall_const, Int.reduceEq, Nat.reduceMul, ne_eq, not_true_eq_false, not_false_eq_true, false_implies, true_implies, Nat.left_eq_add, Nat.add_eq_left, g1, g33, g35, f1_3, f33_1]
  repeat' (first
    | refine And.intro ?_ ?_
    | (guard_target =~ (_ → _); intro)
    | omega
    | (unfold rs_R; omega)
    | exact h0 (by omega)
    | exact h1 (by omega)
    | decide)
