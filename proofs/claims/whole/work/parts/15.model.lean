/-! ===== contracts of the reference's small methods ===== -/
set_option maxRecDepth 100000 in
set_option maxHeartbeats 2000000 in
theorem cm_thrown {u d : Nat} {I : rs_M} {K : rs_K} (h : K (some (.inl (I 88 0))) I) : rs_run u d 60 0 (rs_en0 [.inr (.inr 88)] 1) [] I K := by
  show rs_run u d 60 0 [some (.inr (.inr 88))] [] I K
  have g88 : rs_sh 88 = (1, 8) := by decide +kernel
  simp only [rs_x_60_0, rs_x_60_1, rs_x_60_4, rs_cn_n, rs_cn_i, rs_cn_r, rs_cn_t, rs_up_at, Nat.reduceAdd, Nat.reduceEqDiff, Nat.reduceSub, Int.reduceToNat, Int.reduceNeg, Int.reduceLE, Int.reduceLT, Int.reduceAdd, Int.reduceSub, Int.reduceMul, Int.add_sub_cancel, List.length_cons, List.length_nil, Nat.reduceLeDiff, Nat.reduceLT, Int.cast_ofNat_Int, true_and, and_true, and_self, false_and, and_false, ↓reduceIte, Nat.zero_le, or_true, true_or, false_or, or_false, Nat.sub_zero, Int.toNat_natCast, Nat.le_refl, implies_true, forall_const, Int.reduceEq, Nat.reduceMul, ne_eq, not_true_eq_false, not_false_eq_true, false_implies, true_implies, Nat.left_eq_add, Nat.add_eq_left, g88]
  exact h
set_option maxRecDepth 100000 in
set_option maxHeartbeats 2000000 in
theorem cm_refuse {u d : Nat} {c : Int} {I : rs_M} {K : rs_K} (h : K (some (.inl 0)) (rs_up I 88 0 c)) : rs_run u d 61 0 (rs_en0 [.inr (.inr 88), .inl c] 2) [] I K := by
  show rs_run u d 61 0 [some (.inr (.inr 88)), some (.inl c)] [] I K
  have g88 : rs_sh 88 = (1, 8) := by decide +kernel
  simp only [rs_x_61_0, rs_x_61_1, rs_x_61_2, rs_x_61_5, rs_x_61_6, rs_cn_n, rs_cn_i, rs_cn_r, rs_cn_t, rs_up_at, Nat.reduceAdd, Nat.reduceEqDiff, Nat.reduceSub, Int.reduceToNat, Int.reduceNeg, Int.reduceLE, Int.reduceLT, Int.reduceAdd, Int.reduceSub, Int.reduceMul, Int.add_sub_cancel, List.length_cons, List.length_nil, Nat.reduceLeDiff, Nat.reduceLT, Int.cast_ofNat_Int, true_and, and_true, and_self, false_and, and_false, ↓reduceIte, Nat.zero_le, or_true, true_or, false_or, or_false, Nat.sub_zero, Int.toNat_natCast, Nat.le_refl, implies_true, forall_const, Int.reduceEq, Nat.reduceMul, ne_eq, not_true_eq_false, not_false_eq_true, false_implies, true_implies, Nat.left_eq_add, Nat.add_eq_left, g88]
  exact h
set_option maxRecDepth 100000 in
set_option maxHeartbeats 2000000 in
theorem cm_within {u d : Nat} {v a b : Int} {I : rs_M} {K : rs_K} (h1 : a ≤ v → v ≤ b → K (some (.inl 1)) I) (h0 : ¬ (a ≤ v ∧ v ≤ b) → K (some (.inl 0)) I) : rs_run u d 62 0 (rs_en0 [.inl v, .inl a, .inl b] 3) [] I K := by
  show rs_run u d 62 0 [some (.inl v), some (.inl a), some (.inl b)] [] I K
  simp only [rs_x_62_0, rs_x_62_1, rs_x_62_2, rs_x_62_5, rs_x_62_6, rs_x_62_7, rs_x_62_10, rs_x_62_11, rs_x_62_14, rs_x_62_15, rs_cn_n, rs_cn_i, rs_cn_r, rs_cn_t, rs_up_at, Nat.reduceAdd, Nat.reduceEqDiff, Nat.reduceSub, Int.reduceToNat, Int.reduceNeg, Int.reduceLE, Int.reduceLT, Int.reduceAdd, Int.reduceSub, Int.reduceMul, Int.add_sub_cancel, List.length_cons, List.length_nil, Nat.reduceLeDiff, Nat.reduceLT, Int.cast_ofNat_Int, true_and, and_true, and_self, false_and, and_false, ↓reduceIte, Nat.zero_le, or_true, true_or, false_or, or_false, Nat.sub_zero, Int.toNat_natCast, Nat.le_refl, implies_true, forall_const, Int.reduceEq, Nat.reduceMul, ne_eq, not_true_eq_false, not_false_eq_true, false_implies, true_implies, Nat.left_eq_add, Nat.add_eq_left]
  repeat' (first
    | refine And.intro ?_ ?_
    | (guard_target =~ (_ → _); intro)
    | omega
    | (unfold rs_R; omega)
    | exact h1 (by omega) (by omega)
    | exact h0 (by omega)
    | decide)
set_option maxRecDepth 100000 in
set_option maxHeartbeats 2000000 in
theorem cm_lesser {u d : Nat} {a b : Int} {I : rs_M} {K : rs_K} (h : K (some (.inl (min a b))) I) : rs_run u d 63 0 (rs_en0 [.inl a, .inl b] 2) [] I K := by
  show rs_run u d 63 0 [some (.inl a), some (.inl b)] [] I K
  simp only [rs_x_63_0, rs_x_63_1, rs_x_63_2, rs_x_63_5, rs_x_63_6, rs_x_63_9, rs_x_63_10, rs_cn_n, rs_cn_i, rs_cn_r, rs_cn_t, rs_up_at, Nat.reduceAdd, Nat.reduceEqDiff, Nat.reduceSub, Int.reduceToNat, Int.reduceNeg, Int.reduceLE, Int.reduceLT, Int.reduceAdd, Int.reduceSub, Int.reduceMul, Int.add_sub_cancel, List.length_cons, List.length_nil, Nat.reduceLeDiff, Nat.reduceLT, Int.cast_ofNat_Int, true_and, and_true, and_self, false_and, and_false, ↓reduceIte, Nat.zero_le, or_true, true_or, false_or, or_false, Nat.sub_zero, Int.toNat_natCast, Nat.le_refl, implies_true, forall_const, Int.reduceEq, Nat.reduceMul, ne_eq, not_true_eq_false, not_false_eq_true, false_implies, true_implies, Nat.left_eq_add, Nat.add_eq_left]
  refine ⟨fun g => ?_, fun g => ?_⟩
  · rw [Int.min_eq_right (by omega)] at h; exact h
  · rw [Int.min_eq_left (by omega)] at h; exact h
set_option maxRecDepth 100000 in
set_option maxHeartbeats 2000000 in
theorem cm_greater {u d : Nat} {a b : Int} {I : rs_M} {K : rs_K} (h : K (some (.inl (max a b))) I) : rs_run u d 64 0 (rs_en0 [.inl a, .inl b] 2) [] I K := by
  show rs_run u d 64 0 [some (.inl a), some (.inl b)] [] I K
  simp only [rs_x_64_0, rs_x_64_1, rs_x_64_2, rs_x_64_5, rs_x_64_6, rs_x_64_9, rs_x_64_10, rs_cn_n, rs_cn_i, rs_cn_r, rs_cn_t, rs_up_at, Nat.reduceAdd, Nat.reduceEqDiff, Nat.reduceSub, Int.reduceToNat, Int.reduceNeg, Int.reduceLE, Int.reduceLT, Int.reduceAdd, Int.reduceSub, Int.reduceMul, Int.add_sub_cancel, List.length_cons, List.length_nil, Nat.reduceLeDiff, Nat.reduceLT, Int.cast_ofNat_Int, true_and, and_true, and_self, false_and, and_false, ↓reduceIte, Nat.zero_le, or_true, true_or, false_or, or_false, Nat.sub_zero, Int.toNat_natCast, Nat.le_refl, implies_true, forall_const, Int.reduceEq, Nat.reduceMul, ne_eq, not_true_eq_false, not_false_eq_true, false_implies, true_implies, Nat.left_eq_add, Nat.add_eq_left]
  refine ⟨fun g => ?_, fun g => ?_⟩
  · rw [Int.max_eq_right (by omega)] at h; exact h
  · rw [Int.max_eq_left (by omega)] at h; exact h
set_option maxRecDepth 100000 in
set_option maxHeartbeats 2000000 in
theorem cm_isRange {u d : Nat} {a b : Int} {I : rs_M} {K : rs_K} (h1 : -100 ≤ a → a ≤ b → b ≤ 100 → K (some (.inl 1)) I) (h0 : ¬ (-100 ≤ a ∧ a ≤ b ∧ b ≤ 100) → K (some (.inl 0)) I) : rs_run u d 65 0 (rs_en0 [.inl a, .inl b] 2) [] I K := by
  show rs_run u d 65 0 [some (.inl a), some (.inl b)] [] I K
  simp only [rs_x_65_0, rs_x_65_1, rs_x_65_3, rs_x_65_6, rs_x_65_7, rs_x_65_9, rs_x_65_12, rs_x_65_13, rs_x_65_14, rs_x_65_17, rs_x_65_18, rs_x_65_21, rs_x_65_22, rs_cn_n, rs_cn_i, rs_cn_r, rs_cn_t, rs_up_at, Nat.reduceAdd, Nat.reduceEqDiff, Nat.reduceSub, Int.reduceToNat, Int.reduceNeg, Int.reduceLE, Int.reduceLT, Int.reduceAdd, Int.reduceSub, Int.reduceMul, Int.add_sub_cancel, List.length_cons, List.length_nil, Nat.reduceLeDiff, Nat.reduceLT, Int.cast_ofNat_Int, true_and, and_true, and_self, false_and, and_false, ↓reduceIte, Nat.zero_le, or_true, true_or, false_or, or_false, Nat.sub_zero, Int.toNat_natCast, Nat.le_refl, implies_true, forall_const, Int.reduceEq, Nat.reduceMul, ne_eq, not_true_eq_false, not_false_eq_true, false_implies, true_implies, Nat.left_eq_add, Nat.add_eq_left]
  repeat' (first
    | refine And.intro ?_ ?_
    | (guard_target =~ (_ → _); intro)
    | omega
    | (unfold rs_R; omega)
    | exact h1 (by omega) (by omega) (by omega)
    | exact h0 (by omega)
    | decide)
set_option maxRecDepth 100000 in
set_option maxHeartbeats 2000000 in
theorem cm_cell {u d : Nat} {a b : Int} {I : rs_M} {K : rs_K} (hd : 1 ≤ d) (hn : 0 ≤ I 88 1 ∧ I 88 1 ≤ 10) (h1 : ¬ (-100 ≤ a ∧ a ≤ b ∧ b ≤ 100) → K (some (.inl 0)) (rs_up (rs_up I 88 0 0) 88 0 1)) (h2 : (-100 ≤ a ∧ a ≤ b ∧ b ≤ 100) → I 88 1 = 10 → K (some (.inl 0)) (rs_up (rs_up I 88 0 0) 88 0 2)) (h3 : (-100 ≤ a ∧ a ≤ b ∧ b ≤ 100) → I 88 1 < 10 → K (some (.inl (I 88 1))) (rs_up (rs_up (rs_up (rs_up I 88 0 0) 89 (I 88 1).toNat a) 90 (I 88 1).toNat b) 88 1 (I 88 1 + 1))) : rs_run u d 66 0 (rs_en0 [.inr (.inr 88), .inl a, .inl b] 3) [] I K := by
  show rs_run u d 66 0 [some (.inr (.inr 88)), some (.inl a), some (.inl b)] [] I K
  have g88 : rs_sh 88 = (1, 8) := by decide +kernel
  have g89 : rs_sh 89 = (2, 10) := by decide +kernel
  have g90 : rs_sh 90 = (2, 10) := by decide +kernel
  have f88_2 : rs_rf 88 2 = 89 := by decide +kernel
  have f88_3 : rs_rf 88 3 = 90 := by decide +kernel
  simp only [rs_x_66_0, rs_x_66_1, rs_x_66_2, rs_x_66_5, rs_x_66_6, rs_x_66_7, rs_x_66_10, rs_x_66_13, rs_x_66_14, rs_x_66_15, rs_x_66_18, rs_x_66_19, rs_x_66_20, rs_x_66_23, rs_x_66_25, rs_x_66_28, rs_x_66_29, rs_x_66_30, rs_x_66_33, rs_x_66_34, rs_x_66_35, rs_x_66_38, rs_x_66_39, rs_x_66_42, rs_x_66_43, rs_x_66_44, rs_x_66_45, rs_x_66_48, rs_x_66_49, rs_x_66_52, rs_x_66_53, rs_x_66_54, rs_x_66_55, rs_x_66_56, rs_x_66_59, rs_x_66_60, rs_x_66_61, rs_x_66_64, rs_x_66_65, rs_x_66_68, rs_x_66_69, rs_x_66_70, rs_cn_n, rs_cn_i, rs_cn_r, rs_cn_t, rs_up_at, Nat.reduceAdd, Nat.reduceEqDiff, Nat.reduceSub, Int.reduceToNat, Int.reduceNeg, Int.reduceLE, Int.reduceLT, Int.reduceAdd, Int.reduceSub, Int.reduceMul, Int.add_sub_cancel, List.length_cons, List.length_nil, Nat.reduceLeDiff, Nat.reduceLT, Int.cast_ofNat_Int, true_and, and_true, and_self, false_and, and_false, ↓reduceIte, Nat.zero_le, or_true, true_or, false_or, or_false, Nat.sub_zero, Int.toNat_natCast, Nat.le_refl, implies_true, forall_const, Int.reduceEq, Nat.reduceMul, ne_eq, not_true_eq_false, not_false_eq_true, false_implies, true_implies, Nat.left_eq_add, Nat.add_eq_left, g88, g89, g90, f88_2, f88_3]
  repeat' (first
    | refine And.intro ?_ ?_
    | (guard_target =~ (_ → _); intro)
    | omega
    | (unfold rs_R; omega)
    | exact h1 (by omega)
    | exact h2 (by omega) (by omega)
    | exact h3 (by omega) (by omega)
    | decide
    | (refine cm_isRange ?_ ?_ <;> try simp only [rs_x_66_0, rs_x_66_1, rs_x_66_2, rs_x_66_5, rs_x_66_6, rs_x_66_7, rs_x_66_10, rs_x_66_13, rs_x_66_14, rs_x_66_15, rs_x_66_18, rs_x_66_19, rs_x_66_20, rs_x_66_23, rs_x_66_25, rs_x_66_28, rs_x_66_29, rs_x_66_30, rs_x_66_33, rs_x_66_34, rs_x_66_35, rs_x_66_38, rs_x_66_39, rs_x_66_42, rs_x_66_43, rs_x_66_44, rs_x_66_45, rs_x_66_48, rs_x_66_49, rs_x_66_52, rs_x_66_53, rs_x_66_54, rs_x_66_55, rs_x_66_56, rs_x_66_59, rs_x_66_60, rs_x_66_61, rs_x_66_64, rs_x_66_65, rs_x_66_68, rs_x_66_69, rs_x_66_70, rs_cn_n, rs_cn_i, rs_cn_r, rs_cn_t, rs_up_at, Nat.reduceAdd, Nat.reduceEqDiff, Nat.reduceSub, Int.reduceToNat, Int.reduceNeg, Int.reduceLE, Int.reduceLT, Int.reduceAdd, Int.reduceSub, Int.reduceMul, Int.add_sub_cancel, List.length_cons, List.length_nil, Nat.reduceLeDiff, Nat.reduceLT, Int.cast_ofNat_Int, true_and, and_true, and_self, false_and, and_false, ↓reduceIte, Nat.zero_le, or_true, true_or, false_or, or_false, Nat.sub_zero, Int.toNat_natCast, Nat.le_refl, implies_true, forall_const, Int.reduceEq, Nat.reduceMul, ne_eq, not_true_eq_false, not_false_eq_true, false_implies, true_implies, Nat.left_eq_add, Nat.add_eq_left, g88, g89, g90, f88_2, f88_3])
    | (refine cm_refuse ?_; simp only [rs_x_66_0, rs_x_66_1, rs_x_66_2, rs_x_66_5, rs_x_66_6, rs_x_66_7, rs_x_66_10, rs_x_66_13, rs_x_66_14, rs_x_66_15, rs_x_66_18, rs_x_66_19, rs_x_66_20, rs_x_66_23, rs_x_66_25, rs_x_66_28, rs_x_66_29, rs_x_66_30, rs_x_66_33, rs_x_66_34, rs_x_66_35, rs_x_66_38, rs_x_66_39, rs_x_66_42, rs_x_66_43, rs_x_66_44, rs_x_66_45, rs_x_66_48, rs_x_66_49, rs_x_66_52, rs_x_66_53, rs_x_66_54, rs_x_66_55, rs_x_66_56, rs_x_66_59, rs_x_66_60, rs_x_66_61, rs_x_66_64, rs_x_66_65, rs_x_66_68, rs_x_66_69, rs_x_66_70, rs_cn_n, rs_cn_i, rs_cn_r, rs_cn_t, rs_up_at, Nat.reduceAdd, Nat.reduceEqDiff, Nat.reduceSub, Int.reduceToNat, Int.reduceNeg, Int.reduceLE, Int.reduceLT, Int.reduceAdd, Int.reduceSub, Int.reduceMul, Int.add_sub_cancel, List.length_cons, List.length_nil, Nat.reduceLeDiff, Nat.reduceLT, Int.cast_ofNat_Int, true_and, and_true, and_self, false_and, and_false, ↓reduceIte, Nat.zero_le, or_true, true_or, false_or, or_false, Nat.sub_zero, Int.toNat_natCast, Nat.le_refl, implies_true, forall_const, Int.reduceEq, Nat.reduceMul, ne_eq, not_true_eq_false, not_false_eq_true, false_implies, true_implies, Nat.left_eq_add, Nat.add_eq_left, g88, g89, g90, f88_2, f88_3]))
set_option maxRecDepth 100000 in
set_option maxHeartbeats 2000000 in
theorem cm_isCell {u d : Nat} {c : Int} {I : rs_M} {K : rs_K} (hd : 1 ≤ d) (hn : 0 ≤ I 88 1 ∧ I 88 1 ≤ 10) (h1 : 0 ≤ c → c < I 88 1 → K (some (.inl 1)) I) (h0 : ¬ (0 ≤ c ∧ c < I 88 1) → K (some (.inl 0)) I) : rs_run u d 67 0 (rs_en0 [.inr (.inr 88), .inl c] 2) [] I K := by
  show rs_run u d 67 0 [some (.inr (.inr 88)), some (.inl c)] [] I K
  have g88 : rs_sh 88 = (1, 8) := by decide +kernel
  simp only [rs_x_67_0, rs_x_67_1, rs_x_67_2, rs_x_67_3, rs_x_67_6, rs_x_67_7, rs_x_67_8, rs_x_67_11, rs_cn_n, rs_cn_i, rs_cn_r, rs_cn_t, rs_up_at, Nat.reduceAdd, Nat.reduceEqDiff, Nat.reduceSub, Int.reduceToNat, Int.reduceNeg, Int.reduceLE, Int.reduceLT, Int.reduceAdd, Int.reduceSub, Int.reduceMul, Int.add_sub_cancel, List.length_cons, List.length_nil, Nat.reduceLeDiff, Nat.reduceLT, Int.cast_ofNat_Int, true_and, and_true, and_self, false_and, and_false, ↓reduceIte, Nat.zero_le, or_true, true_or, false_or, or_false, Nat.sub_zero, Int.toNat_natCast, Nat.le_refl, implies_true, forall_const, Int.reduceEq, Nat.reduceMul, ne_eq, not_true_eq_false, not_false_eq_true, false_implies, true_implies, Nat.left_eq_add, Nat.add_eq_left, g88]
  repeat' (first
    | refine And.intro ?_ ?_
    | (guard_target =~ (_ → _); intro)
    | omega
    | (unfold rs_R; omega)
    | exact h1 (by omega) (by omega)
    | exact h0 (by omega)
    | decide
    | (refine cm_within ?_ ?_ <;> try simp only [rs_x_67_0, rs_x_67_1, rs_x_67_2, rs_x_67_3, rs_x_67_6, rs_x_67_7, rs_x_67_8, rs_x_67_11, rs_cn_n, rs_cn_i, rs_cn_r, rs_cn_t, rs_up_at, Nat.reduceAdd, Nat.reduceEqDiff, Nat.reduceSub, Int.reduceToNat, Int.reduceNeg, Int.reduceLE, Int.reduceLT, Int.reduceAdd, Int.reduceSub, Int.reduceMul, Int.add_sub_cancel, List.length_cons, List.length_nil, Nat.reduceLeDiff, Nat.reduceLT, Int.cast_ofNat_Int, true_and, and_true, and_self, false_and, and_false, ↓reduceIte, Nat.zero_le, or_true, true_or, false_or, or_false, Nat.sub_zero, Int.toNat_natCast, Nat.le_refl, implies_true, forall_const, Int.reduceEq, Nat.reduceMul, ne_eq, not_true_eq_false, not_false_eq_true, false_implies, true_implies, Nat.left_eq_add, Nat.add_eq_left, g88]))
def rg_cb (v : Nat) : Nat → Nat
  | 0 => 0
  | k + 1 => rg_cb v k + (if v.testBit k then 1 else 0)
theorem rg_cb_le (v : Nat) : ∀ k, rg_cb v k ≤ k
  | 0 => Nat.le_refl _
  | k + 1 => by
    have := rg_cb_le v k
    unfold rg_cb
    split <;> omega
set_option maxRecDepth 100000 in
theorem rg_cb_pc : ∀ v, v < 1024 → ((rg_cb v 31 : Nat) : Int) = rs_pc 10 v := by decide +kernel
set_option maxRecDepth 100000 in
set_option maxHeartbeats 2000000 in
theorem cm_bits {u d v : Nat} {I : rs_M} {K : rs_K} (hv : v < 1024) (h : K (some (.inl (rs_pc 10 v))) I) : rs_run u d 68 0 (rs_en0 [.inl (v : Int)] 3) [] I K := by
  show rs_run u d 68 0 [some (.inl (v : Int)), none, none] [] I K
  have loop : ∀ (m k : Nat), k + m = 31 → rs_run u d 68 4 [some (.inl (v : Int)), some (.inl (rg_cb v k : Int)), some (.inl (k : Int))] [] I K := by
    intro m
    induction m with
    | zero =>
      intro k hk
      obtain rfl : k = 31 := by omega
      rw [rs_x_68_4]
      simp only [rs_x_68_0, rs_x_68_1, rs_x_68_2, rs_x_68_3, rs_x_68_5, rs_x_68_7, rs_x_68_10, rs_x_68_11, rs_x_68_12, rs_x_68_13, rs_x_68_14, rs_x_68_15, rs_x_68_16, rs_x_68_17, rs_x_68_18, rs_x_68_21, rs_x_68_24, rs_x_68_25, rs_cn_n, rs_cn_i, rs_cn_r, rs_cn_t, rs_up_at, Nat.reduceAdd, Nat.reduceEqDiff, Nat.reduceSub, Int.reduceToNat, Int.reduceNeg, Int.reduceLE, Int.reduceLT, Int.reduceAdd, Int.reduceSub, Int.reduceMul, Int.add_sub_cancel, List.length_cons, List.length_nil, Nat.reduceLeDiff, Nat.reduceLT, Int.cast_ofNat_Int, true_and, and_true, and_self, false_and, and_false, ↓reduceIte, Nat.zero_le, or_true, true_or, false_or, or_false, Nat.sub_zero, Int.toNat_natCast, Nat.le_refl, implies_true, forall_const, Int.reduceEq, Nat.reduceMul, ne_eq, not_true_eq_false, not_false_eq_true, false_implies, true_implies, Nat.left_eq_add, Nat.add_eq_left]
      rw [rg_cb_pc v hv]
      exact h
    | succ m ih =>
      intro k hk
      have hb := bt_has v k (by omega) (by omega)
      have hl := rg_cb_le v k
      rw [rs_x_68_4]
      simp only [rs_x_68_0, rs_x_68_1, rs_x_68_2, rs_x_68_3, rs_x_68_5, rs_x_68_7, rs_x_68_10, rs_x_68_11, rs_x_68_12, rs_x_68_13, rs_x_68_14, rs_x_68_15, rs_x_68_16, rs_x_68_17, rs_x_68_18, rs_x_68_21, rs_x_68_24, rs_x_68_25, rs_cn_n, rs_cn_i, rs_cn_r, rs_cn_t, rs_up_at, Nat.reduceAdd, Nat.reduceEqDiff, Nat.reduceSub, Int.reduceToNat, Int.reduceNeg, Int.reduceLE, Int.reduceLT, Int.reduceAdd, Int.reduceSub, Int.reduceMul, Int.add_sub_cancel, List.length_cons, List.length_nil, Nat.reduceLeDiff, Nat.reduceLT, Int.cast_ofNat_Int, true_and, and_true, and_self, false_and, and_false, ↓reduceIte, Nat.zero_le, or_true, true_or, false_or, or_false, Nat.sub_zero, Int.toNat_natCast, Nat.le_refl, implies_true, forall_const, Int.reduceEq, Nat.reduceMul, ne_eq, not_true_eq_false, not_false_eq_true, false_implies, true_implies, Nat.left_eq_add, Nat.add_eq_left, hb]
      refine ⟨fun g => by omega, fun g => ⟨?_, ?_, ?_⟩⟩
      · split <;> (unfold rs_R; omega)
      · unfold rs_R; omega
      · have := ih (k + 1) (by omega)
        unfold rg_cb at this
        rw [Int.natCast_add, Int.natCast_add] at this
        have e : (((if v.testBit k = true then 1 else 0 : Nat)) : Int) = if v.testBit k = true then 1 else 0 := by split <;> rfl
        rw [e] at this
        exact this
  simp only [rs_x_68_0, rs_x_68_1, rs_x_68_2, rs_x_68_3, rs_x_68_5, rs_x_68_7, rs_x_68_10, rs_x_68_11, rs_x_68_12, rs_x_68_13, rs_x_68_14, rs_x_68_15, rs_x_68_16, rs_x_68_17, rs_x_68_18, rs_x_68_21, rs_x_68_24, rs_x_68_25, rs_cn_n, rs_cn_i, rs_cn_r, rs_cn_t, rs_up_at, Nat.reduceAdd, Nat.reduceEqDiff, Nat.reduceSub, Int.reduceToNat, Int.reduceNeg, Int.reduceLE, Int.reduceLT, Int.reduceAdd, Int.reduceSub, Int.reduceMul, Int.add_sub_cancel, List.length_cons, List.length_nil, Nat.reduceLeDiff, Nat.reduceLT, Int.cast_ofNat_Int, true_and, and_true, and_self, false_and, and_false, ↓reduceIte, Nat.zero_le, or_true, true_or, false_or, or_false, Nat.sub_zero, Int.toNat_natCast, Nat.le_refl, implies_true, forall_const, Int.reduceEq, Nat.reduceMul, ne_eq, not_true_eq_false, not_false_eq_true, false_implies, true_implies, Nat.left_eq_add, Nat.add_eq_left]
  exact loop 31 0 rfl
theorem bt_shr0' {a : Int} {n : Int} (hn : 0 ≤ n ∧ n ≤ 10) (ha : 0 ≤ a) (h : a < 2 ^ n.toNat) : rs_shr a n = 0 := by
  obtain ⟨m, rfl⟩ := Int.eq_ofNat_of_zero_le hn.1
  have hm : m ≤ 10 := by omega
  rw [Int.toNat_natCast] at h
  have hp : (2 : Int) ^ m ≤ 1024 := by
    have : (2 : Nat) ^ m ≤ 2 ^ 10 := Nat.pow_le_pow_right (by omega) hm
    have h2 : ((2 ^ m : Nat) : Int) ≤ ((2 ^ 10 : Nat) : Int) := Int.ofNat_le.mpr this
    rw [Int.natCast_pow, Int.natCast_pow] at h2
    exact h2
  rw [bt_shr (by unfold rs_R; omega) m (by omega)]
  exact Int.ediv_eq_zero_of_lt ha h
theorem bt_shlI {n : Int} (hn : 0 ≤ n ∧ n ≤ 12) : rs_shl 1 n = 2 ^ n.toNat ∧ (1 : Int) ≤ 2 ^ n.toNat ∧ (2 : Int) ^ n.toNat ≤ 4096 := by
  obtain ⟨m, rfl⟩ := Int.eq_ofNat_of_zero_le hn.1
  have hm : m ≤ 12 := by omega
  rw [Int.toNat_natCast, bt_shl1 m (by omega), Int.natCast_pow]
  refine ⟨rfl, ?_, ?_⟩
  · have : (1 : Nat) ≤ 2 ^ m := Nat.one_le_two_pow
    have h2 : ((1 : Nat) : Int) ≤ ((2 ^ m : Nat) : Int) := Int.ofNat_le.mpr this
    rw [Int.natCast_pow] at h2
    exact h2
  · have : (2 : Nat) ^ m ≤ 2 ^ 12 := Nat.pow_le_pow_right (by omega) hm
    have h2 : ((2 ^ m : Nat) : Int) ≤ ((2 ^ 12 : Nat) : Int) := Int.ofNat_le.mpr this
    rw [Int.natCast_pow, Int.natCast_pow] at h2
    exact h2
theorem rs_pc0 : rs_pc 10 0 = 0 := by decide
theorem cm_bitsI {u d : Nat} {v : Int} {I : rs_M} {K : rs_K} (hv : 0 ≤ v ∧ v < 1024) (h : K (some (.inl (rs_pc 10 v.toNat))) I) : rs_run u d 68 0 (rs_en0 [.inl v] 3) [] I K := by
  obtain ⟨m, rfl⟩ := Int.eq_ofNat_of_zero_le hv.1
  rw [Int.toNat_natCast] at h
  exact cm_bits (by omega) h
set_option maxRecDepth 100000 in
set_option maxHeartbeats 2000000 in
theorem cm_isRelation {u d : Nat} {k a b c : Int} {I : rs_M} {K : rs_K} (hd : 2 ≤ d) (ha : rs_R a) (hn : 0 ≤ I 88 1 ∧ I 88 1 ≤ 10) (h1 : rg_okrel (I 88 1) k a b c → K (some (.inl 1)) I) (h0 : ¬ rg_okrel (I 88 1) k a b c → K (some (.inl 0)) I) : rs_run u d 69 0 (rs_en0 [.inr (.inr 88), .inl k, .inl a, .inl b, .inl c] 6) [] I K := by
  show rs_run u d 69 0 [some (.inr (.inr 88)), some (.inl k), some (.inl a), some (.inl b), some (.inl c), none] [] I K
  have g88 : rs_sh 88 = (1, 8) := by decide +kernel
  obtain ⟨s1, s2, s3⟩ := bt_shlI (n := I 88 1) (by omega)
  have s4 : (2 : Int) ^ (I 88 1).toNat ≤ 1024 := by
    have : (2 : Nat) ^ (I 88 1).toNat ≤ 2 ^ 10 := Nat.pow_le_pow_right (by omega) (by omega)
    have h2 : ((2 ^ (I 88 1).toNat : Nat) : Int) ≤ ((2 ^ 10 : Nat) : Int) := Int.ofNat_le.mpr this
    rw [Int.natCast_pow, Int.natCast_pow] at h2
    exact h2
  unfold rg_okrel at h1 h0
  have A3 : (0 ≤ k ∧ k ≤ 6 ∧ k ≠ 5) → (0 ≤ a ∧ a < I 88 1) → (0 ≤ b ∧ b < I 88 1) → (0 ≤ c ∧ c < I 88 1) → K (some (.inl 1)) I := fun e f g i => h1 (Or.inr (Or.inr (Or.inr ⟨e, f, g, i⟩)))
  have B3 : (0 ≤ k ∧ k ≤ 6 ∧ k ≠ 5) → ¬ ((0 ≤ a ∧ a < I 88 1) ∧ (0 ≤ b ∧ b < I 88 1) ∧ (0 ≤ c ∧ c < I 88 1)) → K (some (.inl 0)) I := fun e f => h0 (by
    rintro (h | h | h | h)
    · omega
    · omega
    · omega
    · exact f h.2)
  have A5 : k = 5 → (0 ≤ a ∧ a < I 88 1) → (0 ≤ b ∧ b < I 88 1) → (-200 ≤ c ∧ c ≤ 200) → K (some (.inl 1)) I := fun e f g i => h1 (Or.inr (Or.inl ⟨e, f, g, i⟩))
  have B5 : k = 5 → ¬ ((0 ≤ a ∧ a < I 88 1) ∧ (0 ≤ b ∧ b < I 88 1) ∧ (-200 ≤ c ∧ c ≤ 200)) → K (some (.inl 0)) I := fun e f => h0 (by
    rintro (h | h | h | h)
    · omega
    · exact f h.2
    · omega
    · omega)
  have A8 : k = 8 → (0 ≤ a ∧ a < I 88 1) → (0 ≤ b ∧ b < I 88 1) → (0 ≤ c ∧ c < 3) → K (some (.inl 1)) I := fun e f g i => h1 (Or.inr (Or.inr (Or.inl ⟨e, f, g, i⟩)))
  have B8 : k = 8 → ¬ ((0 ≤ a ∧ a < I 88 1) ∧ (0 ≤ b ∧ b < I 88 1) ∧ (0 ≤ c ∧ c < 3)) → K (some (.inl 0)) I := fun e f => h0 (by
    rintro (h | h | h | h)
    · omega
    · omega
    · exact f h.2
    · omega)
  have A7 : k = 7 → 0 ≤ a → a < 2 ^ (I 88 1).toNat → 2 ≤ rs_pc 10 a.toNat → K (some (.inl 1)) I := fun e f g i => h1 (Or.inl ⟨e, bt_shr0' hn f g, i⟩)
  have B7 : k = 7 → (¬ (1 ≤ a ∧ a < 2 ^ (I 88 1).toNat) ∨ rs_pc 10 a.toNat < 2) → K (some (.inl 0)) I := fun e f => h0 (by
    rintro (h | h | h | h)
    · have h9 := bt_shr0 ha hn h.2.1
      rcases f with f | f
      · have : a = 0 := by omega
        rw [this] at h
        have h10 := h.2.2
        rw [show (0 : Int).toNat = 0 from rfl, rs_pc0] at h10
        omega
      · omega
    · omega
    · omega
    · omega)
  have B0 : k < 0 ∨ 8 < k → K (some (.inl 0)) I := fun e => h0 (by
    rintro (h | h | h | h) <;> omega)
  clear h1 h0
  have last : ∀ l : Int, (l = 1 → (0 ≤ a ∧ a < I 88 1) → (0 ≤ b ∧ b < I 88 1) → K (some (.inl 1)) I) → (¬ (l = 1 ∧ (0 ≤ a ∧ a < I 88 1) ∧ (0 ≤ b ∧ b < I 88 1)) → K (some (.inl 0)) I) → (l = 0 ∨ l = 1) → rs_run u d 69 89 [some (.inr (.inr 88)), some (.inl k), some (.inl a), some (.inl b), some (.inl c), none] [.inl l] I K := by
    intro l l1 l0 hl
    simp only [rs_x_69_0, rs_x_69_1, rs_x_69_2, rs_x_69_4, rs_x_69_7, rs_x_69_10, rs_x_69_11, rs_x_69_12, rs_x_69_13, rs_x_69_15, rs_x_69_18, rs_x_69_19, rs_x_69_20, rs_x_69_21, rs_x_69_22, rs_x_69_25, rs_x_69_26, rs_x_69_27, rs_x_69_28, rs_x_69_31, rs_x_69_34, rs_x_69_35, rs_x_69_38, rs_x_69_39, rs_x_69_42, rs_x_69_43, rs_x_69_46, rs_x_69_47, rs_x_69_48, rs_x_69_49, rs_x_69_50, rs_x_69_53, rs_x_69_55, rs_x_69_58, rs_x_69_61, rs_x_69_64, rs_x_69_67, rs_x_69_68, rs_x_69_70, rs_x_69_73, rs_x_69_75, rs_x_69_76, rs_x_69_77, rs_x_69_80, rs_x_69_83, rs_x_69_84, rs_x_69_86, rs_x_69_89, rs_x_69_91, rs_x_69_93, rs_x_69_96, rs_x_69_97, rs_x_69_98, rs_x_69_101, rs_x_69_104, rs_x_69_105, rs_x_69_106, rs_x_69_109, rs_x_69_112, rs_x_69_113, rs_x_69_116, rs_x_69_117, rs_cn_n, rs_cn_i, rs_cn_r, rs_cn_t, rs_up_at, Nat.reduceAdd, Nat.reduceEqDiff, Nat.reduceSub, Int.reduceToNat, Int.reduceNeg, Int.reduceLE, Int.reduceLT, Int.reduceAdd, Int.reduceSub, Int.reduceMul, Int.add_sub_cancel, List.length_cons, List.length_nil, Nat.reduceLeDiff, Nat.reduceLT, Int.cast_ofNat_Int, true_and, and_true, and_self, false_and, and_false, ↓reduceIte, Nat.zero_le, or_true, true_or, false_or, or_false, Nat.sub_zero, Int.toNat_natCast, Nat.le_refl, implies_true, forall_const, Int.reduceEq, Nat.reduceMul, ne_eq, not_true_eq_false, not_false_eq_true, false_implies, true_implies, Nat.left_eq_add, Nat.add_eq_left, g88]
    repeat' (first
    | refine And.intro ?_ ?_
    | (guard_target =~ (_ → _); intro)
    | omega
    | (unfold rs_R; omega)
    | exact l1 (by omega) (by omega) (by omega)
    | exact l0 (by omega)
    | decide
    | (refine cm_isCell ?_ ?_ ?_ ?_ <;> try simp only [rs_x_69_0, rs_x_69_1, rs_x_69_2, rs_x_69_4, rs_x_69_7, rs_x_69_10, rs_x_69_11, rs_x_69_12, rs_x_69_13, rs_x_69_15, rs_x_69_18, rs_x_69_19, rs_x_69_20, rs_x_69_21, rs_x_69_22, rs_x_69_25, rs_x_69_26, rs_x_69_27, rs_x_69_28, rs_x_69_31, rs_x_69_34, rs_x_69_35, rs_x_69_38, rs_x_69_39, rs_x_69_42, rs_x_69_43, rs_x_69_46, rs_x_69_47, rs_x_69_48, rs_x_69_49, rs_x_69_50, rs_x_69_53, rs_x_69_55, rs_x_69_58, rs_x_69_61, rs_x_69_64, rs_x_69_67, rs_x_69_68, rs_x_69_70, rs_x_69_73, rs_x_69_75, rs_x_69_76, rs_x_69_77, rs_x_69_80, rs_x_69_83, rs_x_69_84, rs_x_69_86, rs_x_69_89, rs_x_69_91, rs_x_69_93, rs_x_69_96, rs_x_69_97, rs_x_69_98, rs_x_69_101, rs_x_69_104, rs_x_69_105, rs_x_69_106, rs_x_69_109, rs_x_69_112, rs_x_69_113, rs_x_69_116, rs_x_69_117, rs_cn_n, rs_cn_i, rs_cn_r, rs_cn_t, rs_up_at, Nat.reduceAdd, Nat.reduceEqDiff, Nat.reduceSub, Int.reduceToNat, Int.reduceNeg, Int.reduceLE, Int.reduceLT, Int.reduceAdd, Int.reduceSub, Int.reduceMul, Int.add_sub_cancel, List.length_cons, List.length_nil, Nat.reduceLeDiff, Nat.reduceLT, Int.cast_ofNat_Int, true_and, and_true, and_self, false_and, and_false, ↓reduceIte, Nat.zero_le, or_true, true_or, false_or, or_false, Nat.sub_zero, Int.toNat_natCast, Nat.le_refl, implies_true, forall_const, Int.reduceEq, Nat.reduceMul, ne_eq, not_true_eq_false, not_false_eq_true, false_implies, true_implies, Nat.left_eq_add, Nat.add_eq_left, g88]))
  simp only [rs_x_69_0, rs_x_69_1, rs_x_69_2, rs_x_69_4, rs_x_69_7, rs_x_69_10, rs_x_69_11, rs_x_69_12, rs_x_69_13, rs_x_69_15, rs_x_69_18, rs_x_69_19, rs_x_69_20, rs_x_69_21, rs_x_69_22, rs_x_69_25, rs_x_69_26, rs_x_69_27, rs_x_69_28, rs_x_69_31, rs_x_69_34, rs_x_69_35, rs_x_69_38, rs_x_69_39, rs_x_69_42, rs_x_69_43, rs_x_69_46, rs_x_69_47, rs_x_69_48, rs_x_69_49, rs_x_69_50, rs_x_69_53, rs_x_69_55, rs_x_69_58, rs_x_69_61, rs_x_69_64, rs_x_69_67, rs_x_69_68, rs_x_69_70, rs_x_69_73, rs_x_69_75, rs_x_69_76, rs_x_69_77, rs_x_69_80, rs_x_69_83, rs_x_69_84, rs_x_69_86, rs_x_69_91, rs_x_69_93, rs_x_69_96, rs_x_69_97, rs_x_69_98, rs_x_69_101, rs_x_69_104, rs_x_69_105, rs_x_69_106, rs_x_69_109, rs_x_69_112, rs_x_69_113, rs_x_69_116, rs_x_69_117, rs_cn_n, rs_cn_i, rs_cn_r, rs_cn_t, rs_up_at, Nat.reduceAdd, Nat.reduceEqDiff, Nat.reduceSub, Int.reduceToNat, Int.reduceNeg, Int.reduceLE, Int.reduceLT, Int.reduceAdd, Int.reduceSub, Int.reduceMul, Int.add_sub_cancel, List.length_cons, List.length_nil, Nat.reduceLeDiff, Nat.reduceLT, Int.cast_ofNat_Int, true_and, and_true, and_self, false_and, and_false, ↓reduceIte, Nat.zero_le, or_true, true_or, false_or, or_false, Nat.sub_zero, Int.toNat_natCast, Nat.le_refl, implies_true, forall_const, Int.reduceEq, Nat.reduceMul, ne_eq, not_true_eq_false, not_false_eq_true, false_implies, true_implies, Nat.left_eq_add, Nat.add_eq_left, g88, s1]
  repeat' (first
    | refine And.intro ?_ ?_
    | (guard_target =~ (_ → _); intro)
    | omega
    | (unfold rs_R; omega)
    | exact A7 (by omega) (by omega) (by omega) (by omega)
    | exact B7 (by omega) (Or.inl (by omega))
    | exact B7 (by omega) (Or.inr (by omega))
    | exact B0 (by omega)
    | exact last _ (fun _ x y => A5 (by omega) x y (by omega)) (fun x => B5 (by omega) (fun y => x ⟨by omega, y.1, y.2.1⟩)) (by omega)
    | exact last _ (fun q x y => absurd q (by decide)) (fun x => B5 (by omega) (by omega)) (by omega)
    | exact last _ (fun _ x y => A8 (by omega) x y (by omega)) (fun x => B8 (by omega) (fun y => x ⟨by omega, y.1, y.2.1⟩)) (by omega)
    | exact last _ (fun q x y => absurd q (by decide)) (fun x => B8 (by omega) (by omega)) (by omega)
    | exact last _ (fun _ x y => A3 (by omega) x y (by omega)) (fun x => B3 (by omega) (fun y => x ⟨by omega, y.1, y.2.1⟩)) (by omega)
    | exact last _ (fun q x y => absurd q (by decide)) (fun x => B3 (by omega) (by omega)) (by omega)
    | decide
    | (refine cm_within ?_ ?_ <;> try simp only [rs_x_69_0, rs_x_69_1, rs_x_69_2, rs_x_69_4, rs_x_69_7, rs_x_69_10, rs_x_69_11, rs_x_69_12, rs_x_69_13, rs_x_69_15, rs_x_69_18, rs_x_69_19, rs_x_69_20, rs_x_69_21, rs_x_69_22, rs_x_69_25, rs_x_69_26, rs_x_69_27, rs_x_69_28, rs_x_69_31, rs_x_69_34, rs_x_69_35, rs_x_69_38, rs_x_69_39, rs_x_69_42, rs_x_69_43, rs_x_69_46, rs_x_69_47, rs_x_69_48, rs_x_69_49, rs_x_69_50, rs_x_69_53, rs_x_69_55, rs_x_69_58, rs_x_69_61, rs_x_69_64, rs_x_69_67, rs_x_69_68, rs_x_69_70, rs_x_69_73, rs_x_69_75, rs_x_69_76, rs_x_69_77, rs_x_69_80, rs_x_69_83, rs_x_69_84, rs_x_69_86, rs_x_69_91, rs_x_69_93, rs_x_69_96, rs_x_69_97, rs_x_69_98, rs_x_69_101, rs_x_69_104, rs_x_69_105, rs_x_69_106, rs_x_69_109, rs_x_69_112, rs_x_69_113, rs_x_69_116, rs_x_69_117, rs_cn_n, rs_cn_i, rs_cn_r, rs_cn_t, rs_up_at, Nat.reduceAdd, Nat.reduceEqDiff, Nat.reduceSub, Int.reduceToNat, Int.reduceNeg, Int.reduceLE, Int.reduceLT, Int.reduceAdd, Int.reduceSub, Int.reduceMul, Int.add_sub_cancel, List.length_cons, List.length_nil, Nat.reduceLeDiff, Nat.reduceLT, Int.cast_ofNat_Int, true_and, and_true, and_self, false_and, and_false, ↓reduceIte, Nat.zero_le, or_true, true_or, false_or, or_false, Nat.sub_zero, Int.toNat_natCast, Nat.le_refl, implies_true, forall_const, Int.reduceEq, Nat.reduceMul, ne_eq, not_true_eq_false, not_false_eq_true, false_implies, true_implies, Nat.left_eq_add, Nat.add_eq_left, g88, s1])
    | (refine cm_isCell ?_ ?_ ?_ ?_ <;> try simp only [rs_x_69_0, rs_x_69_1, rs_x_69_2, rs_x_69_4, rs_x_69_7, rs_x_69_10, rs_x_69_11, rs_x_69_12, rs_x_69_13, rs_x_69_15, rs_x_69_18, rs_x_69_19, rs_x_69_20, rs_x_69_21, rs_x_69_22, rs_x_69_25, rs_x_69_26, rs_x_69_27, rs_x_69_28, rs_x_69_31, rs_x_69_34, rs_x_69_35, rs_x_69_38, rs_x_69_39, rs_x_69_42, rs_x_69_43, rs_x_69_46, rs_x_69_47, rs_x_69_48, rs_x_69_49, rs_x_69_50, rs_x_69_53, rs_x_69_55, rs_x_69_58, rs_x_69_61, rs_x_69_64, rs_x_69_67, rs_x_69_68, rs_x_69_70, rs_x_69_73, rs_x_69_75, rs_x_69_76, rs_x_69_77, rs_x_69_80, rs_x_69_83, rs_x_69_84, rs_x_69_86, rs_x_69_91, rs_x_69_93, rs_x_69_96, rs_x_69_97, rs_x_69_98, rs_x_69_101, rs_x_69_104, rs_x_69_105, rs_x_69_106, rs_x_69_109, rs_x_69_112, rs_x_69_113, rs_x_69_116, rs_x_69_117, rs_cn_n, rs_cn_i, rs_cn_r, rs_cn_t, rs_up_at, Nat.reduceAdd, Nat.reduceEqDiff, Nat.reduceSub, Int.reduceToNat, Int.reduceNeg, Int.reduceLE, Int.reduceLT, Int.reduceAdd, Int.reduceSub, Int.reduceMul, Int.add_sub_cancel, List.length_cons, List.length_nil, Nat.reduceLeDiff, Nat.reduceLT, Int.cast_ofNat_Int, true_and, and_true, and_self, false_and, and_false, ↓reduceIte, Nat.zero_le, or_true, true_or, false_or, or_false, Nat.sub_zero, Int.toNat_natCast, Nat.le_refl, implies_true, forall_const, Int.reduceEq, Nat.reduceMul, ne_eq, not_true_eq_false, not_false_eq_true, false_implies, true_implies, Nat.left_eq_add, Nat.add_eq_left, g88, s1])
    | (refine cm_bitsI ?_ ?_ <;> try simp only [rs_x_69_0, rs_x_69_1, rs_x_69_2, rs_x_69_4, rs_x_69_7, rs_x_69_10, rs_x_69_11, rs_x_69_12, rs_x_69_13, rs_x_69_15, rs_x_69_18, rs_x_69_19, rs_x_69_20, rs_x_69_21, rs_x_69_22, rs_x_69_25, rs_x_69_26, rs_x_69_27, rs_x_69_28, rs_x_69_31, rs_x_69_34, rs_x_69_35, rs_x_69_38, rs_x_69_39, rs_x_69_42, rs_x_69_43, rs_x_69_46, rs_x_69_47, rs_x_69_48, rs_x_69_49, rs_x_69_50, rs_x_69_53, rs_x_69_55, rs_x_69_58, rs_x_69_61, rs_x_69_64, rs_x_69_67, rs_x_69_68, rs_x_69_70, rs_x_69_73, rs_x_69_75, rs_x_69_76, rs_x_69_77, rs_x_69_80, rs_x_69_83, rs_x_69_84, rs_x_69_86, rs_x_69_91, rs_x_69_93, rs_x_69_96, rs_x_69_97, rs_x_69_98, rs_x_69_101, rs_x_69_104, rs_x_69_105, rs_x_69_106, rs_x_69_109, rs_x_69_112, rs_x_69_113, rs_x_69_116, rs_x_69_117, rs_cn_n, rs_cn_i, rs_cn_r, rs_cn_t, rs_up_at, Nat.reduceAdd, Nat.reduceEqDiff, Nat.reduceSub, Int.reduceToNat, Int.reduceNeg, Int.reduceLE, Int.reduceLT, Int.reduceAdd, Int.reduceSub, Int.reduceMul, Int.add_sub_cancel, List.length_cons, List.length_nil, Nat.reduceLeDiff, Nat.reduceLT, Int.cast_ofNat_Int, true_and, and_true, and_self, false_and, and_false, ↓reduceIte, Nat.zero_le, or_true, true_or, false_or, or_false, Nat.sub_zero, Int.toNat_natCast, Nat.le_refl, implies_true, forall_const, Int.reduceEq, Nat.reduceMul, ne_eq, not_true_eq_false, not_false_eq_true, false_implies, true_implies, Nat.left_eq_add, Nat.add_eq_left, g88, s1]))
