set_option maxRecDepth 100000 in
set_option maxHeartbeats 2000000 in
theorem ct_clear {u d q : Nat} {I : rs_M} {K : rs_K} (hq : rs_sh q = (1, 5)) (hk : K none (rs_up (rs_up I q 0 101) q 1 (-101))) : rs_run u d 31 0 (rs_en0 [.inr (.inr q)] 1) [] I K := by
  show rs_run u d 31 0 [some (.inr (.inr q))] [] I K
  simp only [rs_x_31_0, rs_x_31_1, rs_x_31_3, rs_x_31_6, rs_x_31_7, rs_x_31_9, rs_x_31_12, rs_cn_n, rs_cn_i, rs_cn_r, rs_cn_t, rs_up_at, Nat.reduceAdd, Nat.reduceEqDiff, Nat.reduceSub, Int.reduceToNat, Int.reduceNeg, Int.reduceLE, Int.reduceLT, Int.reduceAdd, Int.reduceSub, Int.reduceMul, Int.add_sub_cancel, List.length_cons, List.length_nil, Nat.reduceLeDiff, Nat.reduceLT, Int.cast_ofNat_Int, true_and, and_true, and_self, false_and, and_false, ↓reduceIte, Nat.zero_le, or_true, true_or, false_or, or_false, Nat.sub_zero, Int.toNat_natCast, Nat.le_refl, implies_true, forall_const, Int.reduceEq, Nat.reduceMul, ne_eq, not_true_eq_false, not_false_eq_true, false_implies, true_implies, Nat.left_eq_add, Nat.add_eq_left, hq]
  exact hk
set_option maxRecDepth 100000 in
set_option maxHeartbeats 2000000 in
theorem ct_take {u d q : Nat} {v : Int} {I : rs_M} {K : rs_K} (hd : 1 ≤ d) (hq : rs_sh q = (1, 5)) (hk : K none (rs_up (rs_up I q 0 (min (I q 0) v)) q 1 (max (I q 1) v))) : rs_run u d 32 0 (rs_en0 [.inr (.inr q), .inl v] 2) [] I K := by
  show rs_run u d 32 0 [some (.inr (.inr q)), some (.inl v)] [] I K
  simp only [rs_x_32_0, rs_x_32_1, rs_x_32_2, rs_x_32_5, rs_x_32_6, rs_x_32_9, rs_x_32_12, rs_x_32_13, rs_x_32_14, rs_x_32_17, rs_x_32_18, rs_x_32_21, rs_x_32_24, rs_cn_n, rs_cn_i, rs_cn_r, rs_cn_t, rs_up_at, Nat.reduceAdd, Nat.reduceEqDiff, Nat.reduceSub, Int.reduceToNat, Int.reduceNeg, Int.reduceLE, Int.reduceLT, Int.reduceAdd, Int.reduceSub, Int.reduceMul, Int.add_sub_cancel, List.length_cons, List.length_nil, Nat.reduceLeDiff, Nat.reduceLT, Int.cast_ofNat_Int, true_and, and_true, and_self, false_and, and_false, ↓reduceIte, Nat.zero_le, or_true, true_or, false_or, or_false, Nat.sub_zero, Int.toNat_natCast, Nat.le_refl, implies_true, forall_const, Int.reduceEq, Nat.reduceMul, ne_eq, not_true_eq_false, not_false_eq_true, false_implies, true_implies, Nat.left_eq_add, Nat.add_eq_left, hq]
  have e1 : ∀ x, rs_up I q 0 x q 1 = I q 1 := fun x => by simp [rs_up_at]
  exact ⟨hd, hd, hk⟩
set_option maxRecDepth 100000 in
set_option maxHeartbeats 2000000 in
theorem ct_isEmpty {u d q : Nat} {I : rs_M} {K : rs_K} (hq : rs_sh q = (1, 5)) (hk : K (some (.inl (if I q 0 ≤ I q 1 then 0 else 1))) I) : rs_run u d 33 0 (rs_en0 [.inr (.inr q)] 1) [] I K := by
  show rs_run u d 33 0 [some (.inr (.inr q))] [] I K
  simp only [rs_x_33_0, rs_x_33_1, rs_x_33_4, rs_x_33_5, rs_x_33_8, rs_x_33_11, rs_x_33_12, rs_x_33_15, rs_x_33_16, rs_cn_n, rs_cn_i, rs_cn_r, rs_cn_t, rs_up_at, Nat.reduceAdd, Nat.reduceEqDiff, Nat.reduceSub, Int.reduceToNat, Int.reduceNeg, Int.reduceLE, Int.reduceLT, Int.reduceAdd, Int.reduceSub, Int.reduceMul, Int.add_sub_cancel, List.length_cons, List.length_nil, Nat.reduceLeDiff, Nat.reduceLT, Int.cast_ofNat_Int, true_and, and_true, and_self, false_and, and_false, ↓reduceIte, Nat.zero_le, or_true, true_or, false_or, or_false, Nat.sub_zero, Int.toNat_natCast, Nat.le_refl, implies_true, forall_const, Int.reduceEq, Nat.reduceMul, ne_eq, not_true_eq_false, not_false_eq_true, false_implies, true_implies, Nat.left_eq_add, Nat.add_eq_left, hq]
  refine ⟨fun h => ?_, fun h => ?_⟩
  · rwa [if_pos h] at hk
  · rwa [if_neg h] at hk
set_option maxRecDepth 100000 in
set_option maxHeartbeats 2000000 in
theorem ct_has {u d : Nat} {r : Int} {I : rs_M} {K : rs_K} (hk : K (some (.inl (if 0 ≤ r ∧ r < I 6 2 then 1 else 0))) I) : rs_run u d 0 0 (rs_en0 [.inr (.inr 6), .inl r] 2) [] I K := by
  show rs_run u d 0 0 [some (.inr (.inr 6)), some (.inl r)] [] I K
  have h6 : rs_sh 6 = (1, 1) := by decide +kernel
  simp only [rs_x_0_0, rs_x_0_1, rs_x_0_4, rs_x_0_5, rs_x_0_6, rs_x_0_9, rs_x_0_12, rs_x_0_13, rs_x_0_16, rs_x_0_17, rs_cn_n, rs_cn_i, rs_cn_r, rs_cn_t, rs_up_at, Nat.reduceAdd, Nat.reduceEqDiff, Nat.reduceSub, Int.reduceToNat, Int.reduceNeg, Int.reduceLE, Int.reduceLT, Int.reduceAdd, Int.reduceSub, Int.reduceMul, Int.add_sub_cancel, List.length_cons, List.length_nil, Nat.reduceLeDiff, Nat.reduceLT, Int.cast_ofNat_Int, true_and, and_true, and_self, false_and, and_false, ↓reduceIte, Nat.zero_le, or_true, true_or, false_or, or_false, Nat.sub_zero, Int.toNat_natCast, Nat.le_refl, implies_true, forall_const, Int.reduceEq, Nat.reduceMul, ne_eq, not_true_eq_false, not_false_eq_true, false_implies, true_implies, Nat.left_eq_add, Nat.add_eq_left, h6]
  refine ⟨fun h => ?_, fun h => ⟨fun h2 => ?_, fun h2 => ?_⟩⟩
  · rwa [if_neg (by omega)] at hk
  · rwa [if_neg (by omega)] at hk
  · rwa [if_pos (by omega)] at hk
set_option maxRecDepth 100000 in
set_option maxHeartbeats 2000000 in
theorem ct_rises {u d : Nat} {k : Int} {I : rs_M} {K : rs_K} (hk : K (some (.inl (if k = 0 ∨ k = 3 ∨ k = 4 then 1 else 0))) I) : rs_run u d 7 0 (rs_en0 [.inl k] 1) [] I K := by
  show rs_run u d 7 0 [some (.inl k)] [] I K
  simp only [rs_x_7_0, rs_x_7_1, rs_x_7_4, rs_x_7_5, rs_x_7_6, rs_x_7_9, rs_x_7_10, rs_x_7_11, rs_x_7_14, rs_x_7_15, rs_x_7_18, rs_x_7_19, rs_cn_n, rs_cn_i, rs_cn_r, rs_cn_t, rs_up_at, Nat.reduceAdd, Nat.reduceEqDiff, Nat.reduceSub, Int.reduceToNat, Int.reduceNeg, Int.reduceLE, Int.reduceLT, Int.reduceAdd, Int.reduceSub, Int.reduceMul, Int.add_sub_cancel, List.length_cons, List.length_nil, Nat.reduceLeDiff, Nat.reduceLT, Int.cast_ofNat_Int, true_and, and_true, and_self, false_and, and_false, ↓reduceIte, Nat.zero_le, or_true, true_or, false_or, or_false, Nat.sub_zero, Int.toNat_natCast, Nat.le_refl, implies_true, forall_const, Int.reduceEq, Nat.reduceMul, ne_eq, not_true_eq_false, not_false_eq_true, false_implies, true_implies, Nat.left_eq_add, Nat.add_eq_left]
  refine ⟨fun h => ?_, fun h => ⟨fun h2 => ?_, fun h2 => ⟨fun h3 => ?_, fun h3 => ?_⟩⟩⟩
  · rwa [if_pos (by omega)] at hk
  · rwa [if_pos (by omega)] at hk
  · rwa [if_neg (by omega)] at hk
  · rwa [if_pos (by omega)] at hk
set_option maxRecDepth 100000 in
set_option maxHeartbeats 2000000 in
theorem ct_isCell {u d : Nat} {c : Int} {I : rs_M} {K : rs_K} (hk : K (some (.inl (if 0 ≤ c ∧ c < I 1 6 then 1 else 0))) I) : rs_run u d 51 0 (rs_en0 [.inr (.inr 1), .inl c] 2) [] I K := by
  show rs_run u d 51 0 [some (.inr (.inr 1)), some (.inl c)] [] I K
  have h6 : rs_sh 1 = (1, 7) := by decide +kernel
  simp only [rs_x_51_0, rs_x_51_1, rs_x_51_4, rs_x_51_5, rs_x_51_6, rs_x_51_9, rs_x_51_12, rs_x_51_13, rs_x_51_16, rs_x_51_17, rs_cn_n, rs_cn_i, rs_cn_r, rs_cn_t, rs_up_at, Nat.reduceAdd, Nat.reduceEqDiff, Nat.reduceSub, Int.reduceToNat, Int.reduceNeg, Int.reduceLE, Int.reduceLT, Int.reduceAdd, Int.reduceSub, Int.reduceMul, Int.add_sub_cancel, List.length_cons, List.length_nil, Nat.reduceLeDiff, Nat.reduceLT, Int.cast_ofNat_Int, true_and, and_true, and_self, false_and, and_false, ↓reduceIte, Nat.zero_le, or_true, true_or, false_or, or_false, Nat.sub_zero, Int.toNat_natCast, Nat.le_refl, implies_true, forall_const, Int.reduceEq, Nat.reduceMul, ne_eq, not_true_eq_false, not_false_eq_true, false_implies, true_implies, Nat.left_eq_add, Nat.add_eq_left, h6]
  refine ⟨fun h => ?_, fun h => ⟨fun h2 => ?_, fun h2 => ?_⟩⟩
  · rwa [if_neg (by omega)] at hk
  · rwa [if_neg (by omega)] at hk
  · rwa [if_pos (by omega)] at hk
set_option maxRecDepth 100000 in
set_option maxHeartbeats 2000000 in
theorem ct_isTable {u d : Nat} {c : Int} {I : rs_M} {K : rs_K} (hk : K (some (.inl (if 0 ≤ c ∧ c < 3 then 1 else 0))) I) : rs_run u d 52 0 (rs_en0 [.inl c] 1) [] I K := by
  show rs_run u d 52 0 [some (.inl c)] [] I K
  simp only [rs_x_52_0, rs_x_52_1, rs_x_52_4, rs_x_52_5, rs_x_52_6, rs_x_52_9, rs_x_52_10, rs_x_52_13, rs_x_52_14, rs_cn_n, rs_cn_i, rs_cn_r, rs_cn_t, rs_up_at, Nat.reduceAdd, Nat.reduceEqDiff, Nat.reduceSub, Int.reduceToNat, Int.reduceNeg, Int.reduceLE, Int.reduceLT, Int.reduceAdd, Int.reduceSub, Int.reduceMul, Int.add_sub_cancel, List.length_cons, List.length_nil, Nat.reduceLeDiff, Nat.reduceLT, Int.cast_ofNat_Int, true_and, and_true, and_self, false_and, and_false, ↓reduceIte, Nat.zero_le, or_true, true_or, false_or, or_false, Nat.sub_zero, Int.toNat_natCast, Nat.le_refl, implies_true, forall_const, Int.reduceEq, Nat.reduceMul, ne_eq, not_true_eq_false, not_false_eq_true, false_implies, true_implies, Nat.left_eq_add, Nat.add_eq_left]
  refine ⟨fun h => ?_, fun h => ⟨fun h2 => ?_, fun h2 => ?_⟩⟩
  · rwa [if_neg (by omega)] at hk
  · rwa [if_neg (by omega)] at hk
  · rwa [if_pos (by omega)] at hk
set_option maxRecDepth 100000 in
set_option maxHeartbeats 2000000 in
theorem ct_isLimit {u d : Nat} {c : Int} {I : rs_M} {K : rs_K} (hk : K (some (.inl (if 0 ≤ c ∧ c ≤ 300 then 1 else 0))) I) : rs_run u d 54 0 (rs_en0 [.inl c] 1) [] I K := by
  show rs_run u d 54 0 [some (.inl c)] [] I K
  simp only [rs_x_54_0, rs_x_54_1, rs_x_54_4, rs_x_54_5, rs_x_54_8, rs_x_54_11, rs_x_54_12, rs_x_54_15, rs_x_54_16, rs_cn_n, rs_cn_i, rs_cn_r, rs_cn_t, rs_up_at, Nat.reduceAdd, Nat.reduceEqDiff, Nat.reduceSub, Int.reduceToNat, Int.reduceNeg, Int.reduceLE, Int.reduceLT, Int.reduceAdd, Int.reduceSub, Int.reduceMul, Int.add_sub_cancel, List.length_cons, List.length_nil, Nat.reduceLeDiff, Nat.reduceLT, Int.cast_ofNat_Int, true_and, and_true, and_self, false_and, and_false, ↓reduceIte, Nat.zero_le, or_true, true_or, false_or, or_false, Nat.sub_zero, Int.toNat_natCast, Nat.le_refl, implies_true, forall_const, Int.reduceEq, Nat.reduceMul, ne_eq, not_true_eq_false, not_false_eq_true, false_implies, true_implies, Nat.left_eq_add, Nat.add_eq_left]
  refine ⟨fun h => ?_, fun h => ⟨fun h2 => ?_, fun h2 => ?_⟩⟩
  · rwa [if_neg (by omega)] at hk
  · rwa [if_neg (by omega)] at hk
  · rwa [if_pos (by omega)] at hk
set_option maxRecDepth 100000 in
set_option maxHeartbeats 2000000 in
theorem ct_isRange {u d : Nat} {a b : Int} {I : rs_M} {K : rs_K} (hk : K (some (.inl (if -100 ≤ a ∧ a ≤ b ∧ b ≤ 100 then 1 else 0))) I) : rs_run u d 53 0 (rs_en0 [.inl a, .inl b] 2) [] I K := by
  show rs_run u d 53 0 [some (.inl a), some (.inl b)] [] I K
  simp only [rs_x_53_0, rs_x_53_2, rs_x_53_3, rs_x_53_6, rs_x_53_7, rs_x_53_8, rs_x_53_11, rs_x_53_12, rs_x_53_14, rs_x_53_17, rs_x_53_18, rs_x_53_21, rs_x_53_22, rs_cn_n, rs_cn_i, rs_cn_r, rs_cn_t, rs_up_at, Nat.reduceAdd, Nat.reduceEqDiff, Nat.reduceSub, Int.reduceToNat, Int.reduceNeg, Int.reduceLE, Int.reduceLT, Int.reduceAdd, Int.reduceSub, Int.reduceMul, Int.add_sub_cancel, List.length_cons, List.length_nil, Nat.reduceLeDiff, Nat.reduceLT, Int.cast_ofNat_Int, true_and, and_true, and_self, false_and, and_false, ↓reduceIte, Nat.zero_le, or_true, true_or, false_or, or_false, Nat.sub_zero, Int.toNat_natCast, Nat.le_refl, implies_true, forall_const, Int.reduceEq, Nat.reduceMul, ne_eq, not_true_eq_false, not_false_eq_true, false_implies, true_implies, Nat.left_eq_add, Nat.add_eq_left]
  refine ⟨fun h => ?_, fun h => ⟨fun h2 => ?_, fun h2 => ⟨fun h3 => ?_, fun h3 => ?_⟩⟩⟩
  · rwa [if_neg (by omega)] at hk
  · rwa [if_neg (by omega)] at hk
  · rwa [if_neg (by omega)] at hk
  · rwa [if_pos (by omega)] at hk
set_option maxRecDepth 100000 in
set_option maxHeartbeats 2000000 in
theorem ct_clearSpans {u d : Nat} {I : rs_M} {K : rs_K} (hd : 1 ≤ d) (hk : K none (rs_up (rs_up (rs_up (rs_up (rs_up (rs_up I 9 0 101) 9 1 (-101)) 10 0 101) 10 1 (-101)) 11 0 101) 11 1 (-101))) : rs_run u d 16 0 (rs_en0 [.inr (.inr 6)] 1) [] I K := by
  show rs_run u d 16 0 [some (.inr (.inr 6))] [] I K
  have h6 : rs_sh 6 = (1, 1) := by decide +kernel
  have h9 : rs_sh 9 = (1, 5) := by decide +kernel
  have h10 : rs_sh 10 = (1, 5) := by decide +kernel
  have h11 : rs_sh 11 = (1, 5) := by decide +kernel
  have f3 : rs_rf 6 3 = 9 := by decide +kernel
  have f4 : rs_rf 6 4 = 10 := by decide +kernel
  have f5 : rs_rf 6 5 = 11 := by decide +kernel
  simp only [rs_x_16_0, rs_x_16_1, rs_x_16_4, rs_x_16_7, rs_x_16_8, rs_x_16_11, rs_x_16_14, rs_x_16_15, rs_x_16_18, rs_x_16_21, rs_cn_n, rs_cn_i, rs_cn_r, rs_cn_t, rs_up_at, Nat.reduceAdd, Nat.reduceEqDiff, Nat.reduceSub, Int.reduceToNat, Int.reduceNeg, Int.reduceLE, Int.reduceLT, Int.reduceAdd, Int.reduceSub, Int.reduceMul, Int.add_sub_cancel, List.length_cons, List.length_nil, Nat.reduceLeDiff, Nat.reduceLT, Int.cast_ofNat_Int, true_and, and_true, and_self, false_and, and_false, ↓reduceIte, Nat.zero_le, or_true, true_or, false_or, or_false, Nat.sub_zero, Int.toNat_natCast, Nat.le_refl, implies_true, forall_const, Int.reduceEq, Nat.reduceMul, ne_eq, not_true_eq_false, not_false_eq_true, false_implies, true_implies, Nat.left_eq_add, Nat.add_eq_left, h6, h9, h10, h11, f3, f4, f5]
  refine ⟨hd, ct_clear h9 ?_⟩
  simp only [rs_x_16_0, rs_x_16_1, rs_x_16_4, rs_x_16_7, rs_x_16_8, rs_x_16_11, rs_x_16_14, rs_x_16_15, rs_x_16_18, rs_x_16_21, rs_cn_n, rs_cn_i, rs_cn_r, rs_cn_t, rs_up_at, Nat.reduceAdd, Nat.reduceEqDiff, Nat.reduceSub, Int.reduceToNat, Int.reduceNeg, Int.reduceLE, Int.reduceLT, Int.reduceAdd, Int.reduceSub, Int.reduceMul, Int.add_sub_cancel, List.length_cons, List.length_nil, Nat.reduceLeDiff, Nat.reduceLT, Int.cast_ofNat_Int, true_and, and_true, and_self, false_and, and_false, ↓reduceIte, Nat.zero_le, or_true, true_or, false_or, or_false, Nat.sub_zero, Int.toNat_natCast, Nat.le_refl, implies_true, forall_const, Int.reduceEq, Nat.reduceMul, ne_eq, not_true_eq_false, not_false_eq_true, false_implies, true_implies, Nat.left_eq_add, Nat.add_eq_left, h6, h9, h10, h11, f3, f4, f5]
  refine ⟨hd, ct_clear h10 ?_⟩
  simp only [rs_x_16_0, rs_x_16_1, rs_x_16_4, rs_x_16_7, rs_x_16_8, rs_x_16_11, rs_x_16_14, rs_x_16_15, rs_x_16_18, rs_x_16_21, rs_cn_n, rs_cn_i, rs_cn_r, rs_cn_t, rs_up_at, Nat.reduceAdd, Nat.reduceEqDiff, Nat.reduceSub, Int.reduceToNat, Int.reduceNeg, Int.reduceLE, Int.reduceLT, Int.reduceAdd, Int.reduceSub, Int.reduceMul, Int.add_sub_cancel, List.length_cons, List.length_nil, Nat.reduceLeDiff, Nat.reduceLT, Int.cast_ofNat_Int, true_and, and_true, and_self, false_and, and_false, ↓reduceIte, Nat.zero_le, or_true, true_or, false_or, or_false, Nat.sub_zero, Int.toNat_natCast, Nat.le_refl, implies_true, forall_const, Int.reduceEq, Nat.reduceMul, ne_eq, not_true_eq_false, not_false_eq_true, false_implies, true_implies, Nat.left_eq_add, Nat.add_eq_left, h6, h9, h10, h11, f3, f4, f5]
  refine ⟨hd, ct_clear h11 ?_⟩
  simp only [rs_x_16_0, rs_x_16_1, rs_x_16_4, rs_x_16_7, rs_x_16_8, rs_x_16_11, rs_x_16_14, rs_x_16_15, rs_x_16_18, rs_x_16_21, rs_cn_n, rs_cn_i, rs_cn_r, rs_cn_t, rs_up_at, Nat.reduceAdd, Nat.reduceEqDiff, Nat.reduceSub, Int.reduceToNat, Int.reduceNeg, Int.reduceLE, Int.reduceLT, Int.reduceAdd, Int.reduceSub, Int.reduceMul, Int.add_sub_cancel, List.length_cons, List.length_nil, Nat.reduceLeDiff, Nat.reduceLT, Int.cast_ofNat_Int, true_and, and_true, and_self, false_and, and_false, ↓reduceIte, Nat.zero_le, or_true, true_or, false_or, or_false, Nat.sub_zero, Int.toNat_natCast, Nat.le_refl, implies_true, forall_const, Int.reduceEq, Nat.reduceMul, ne_eq, not_true_eq_false, not_false_eq_true, false_implies, true_implies, Nat.left_eq_add, Nat.add_eq_left, h6, h9, h10, h11, f3, f4, f5]
  exact hk
theorem rs_xor_neg {x y : Int} (hx : rs_R x) (hy : rs_R y) : rs_xor x y < 0 ↔ ¬ (x < 0 ↔ y < 0) := by
  have hm : ∀ a : Int32, a.toInt < 0 ↔ a.toBitVec.msb = true := fun a => by
    rw [BitVec.msb_eq_toInt, decide_eq_true_eq]
    exact Iff.rfl
  unfold rs_xor
  rw [hm, Int32.toBitVec_xor, BitVec.msb_xor]
  have h1 := hm (Int32.ofInt x)
  have h2 := hm (Int32.ofInt y)
  rw [rs_ti hx] at h1
  rw [rs_ti hy] at h2
  rw [h1, h2]
  cases (Int32.ofInt x).toBitVec.msb <;> cases (Int32.ofInt y).toBitVec.msb <;> simp
def rs_fl (x y : Int) : Int := if (x < 0 ↔ y < 0) ∨ x.tdiv y * y = x then x.tdiv y else x.tdiv y - 1
theorem rs_tm (x y : Int) : x.tmod y + y * x.tdiv y = x := by
  first | exact Int.tmod_add_mul_tdiv x y | exact Int.tmod_add_tdiv x y
theorem rs_tb {x y : Int} (hy : 0 < y) : (0 ≤ x → 0 ≤ x.tmod y ∧ x.tmod y < y) ∧ (x < 0 → -y < x.tmod y ∧ x.tmod y ≤ 0) := by
  refine ⟨fun h => ⟨Int.tmod_nonneg y h, Int.tmod_lt_of_pos x hy⟩, fun h => ?_⟩
  have h1 := Int.tmod_nonneg y (show 0 ≤ -x by omega)
  have h2 := Int.tmod_lt_of_pos (-x) hy
  rw [Int.neg_tmod] at h1 h2
  omega
theorem rs_tn {x y : Int} (hy : y < 0) : (0 ≤ x → 0 ≤ x.tmod y ∧ x.tmod y < -y) ∧ (x < 0 → y < x.tmod y ∧ x.tmod y ≤ 0) := by
  have h := rs_tb (x := x) (y := -y) (by omega)
  rw [Int.tmod_neg] at h
  refine ⟨h.1, fun g => ?_⟩
  have := h.2 g
  omega
theorem rs_fl_pos {x y : Int} (hy : 0 < y) : rs_fl x y * y ≤ x ∧ x < rs_fl x y * y + y := by
  have h1 := rs_tm x y
  have h2 := rs_tb (x := x) hy
  rw [Int.mul_comm y] at h1
  unfold rs_fl
  split
  · rename_i g
    by_cases h : 0 ≤ x
    · have := h2.1 h; omega
    · have := h2.2 (by omega); omega
  · rename_i g
    have e : (x.tdiv y - 1) * y = x.tdiv y * y - y := by rw [Int.sub_mul, Int.one_mul]
    rw [e]
    by_cases h : 0 ≤ x
    · have := h2.1 h; omega
    · have := h2.2 (by omega); omega
theorem rs_fl_neg {x y : Int} (hy : y < 0) : x ≤ rs_fl x y * y ∧ rs_fl x y * y + y < x := by
  have h1 := rs_tm x y
  have h2 := rs_tn (x := x) hy
  rw [Int.mul_comm y] at h1
  unfold rs_fl
  split
  · rename_i g
    by_cases h : 0 ≤ x
    · have := h2.1 h; omega
    · have := h2.2 (by omega); omega
  · rename_i g
    have e : (x.tdiv y - 1) * y = x.tdiv y * y - y := by rw [Int.sub_mul, Int.one_mul]
    rw [e]
    by_cases h : 0 ≤ x
    · have := h2.1 h; omega
    · have := h2.2 (by omega); omega
theorem rs_td {x y : Int} (hx : -1000000 ≤ x ∧ x ≤ 1000000) (h0 : y ≠ 0) : -1000000 ≤ x.tdiv y ∧ x.tdiv y ≤ 1000000 ∧ -2000000 ≤ x.tdiv y * y ∧ x.tdiv y * y ≤ 2000000 := by
  have h3 : (x.tdiv y).natAbs ≤ x.natAbs := by rw [Int.natAbs_tdiv]; exact Nat.div_le_self _ _
  have h1 := rs_tm x y
  rw [Int.mul_comm y] at h1
  have h4 : (x.tmod y).natAbs ≤ x.natAbs := by rw [Int.natAbs_tmod]; exact Nat.mod_le _ _
  omega
set_option maxRecDepth 100000 in
set_option maxHeartbeats 2000000 in
theorem ct_floorDiv {u d : Nat} {x y : Int} {I : rs_M} {K : rs_K} (hx : -1000000 ≤ x ∧ x ≤ 1000000) (hy : -1000000 ≤ y ∧ y ≤ 1000000) (h0 : y ≠ 0) (hk : K (some (.inl (rs_fl x y))) I) : rs_run u d 115 0 (rs_en0 [.inl x, .inl y] 3) [] I K := by
  show rs_run u d 115 0 [some (.inl x), some (.inl y), none] [] I K
  simp only [rs_x_115_0, rs_x_115_1, rs_x_115_2, rs_x_115_3, rs_x_115_4, rs_x_115_5, rs_x_115_6, rs_x_115_7, rs_x_115_10, rs_x_115_11, rs_x_115_12, rs_x_115_13, rs_x_115_14, rs_x_115_17, rs_x_115_18, rs_x_115_19, rs_x_115_20, rs_x_115_21, rs_x_115_22, rs_cn_n, rs_cn_i, rs_cn_r, rs_cn_t, rs_up_at, Nat.reduceAdd, Nat.reduceEqDiff, Nat.reduceSub, Int.reduceToNat, Int.reduceNeg, Int.reduceLE, Int.reduceLT, Int.reduceAdd, Int.reduceSub, Int.reduceMul, Int.add_sub_cancel, List.length_cons, List.length_nil, Nat.reduceLeDiff, Nat.reduceLT, Int.cast_ofNat_Int, true_and, and_true, and_self, false_and, and_false, ↓reduceIte, Nat.zero_le, or_true, true_or, false_or, or_false, Nat.sub_zero, Int.toNat_natCast, Nat.le_refl, implies_true, forall_const, Int.reduceEq, Nat.reduceMul, ne_eq, not_true_eq_false, not_false_eq_true, false_implies, true_implies, Nat.left_eq_add, Nat.add_eq_left]
  have h1 := rs_td hx h0
  have h2 := rs_xor_neg (x := x) (y := y) (by unfold rs_R; omega) (by unfold rs_R; omega)
  unfold rs_fl at hk
  refine ⟨h0, by unfold rs_R; omega, fun h => ?_, fun h => ⟨by unfold rs_R; omega, fun h3 => ?_, fun h3 => ⟨by unfold rs_R; omega, ?_⟩⟩⟩
  · rwa [if_pos (Or.inl (by omega))] at hk
  · rwa [if_pos (Or.inr h3)] at hk
  · rwa [if_neg (by omega)] at hk
def rs_pc : Nat → Nat → Int
  | 0, _ => 0
  | n + 1, m => (m % 2 : Nat) + rs_pc n (m / 2)
def rs_b1 (n : Int) : Int := n - rs_and (rs_ush n 1) 1431655765
def rs_b2 (n : Int) : Int := rs_and (rs_b1 n) 858993459 + rs_and (rs_ush (rs_b1 n) 2) 858993459
def rs_b3 (n : Int) : Int := rs_b2 n + rs_ush (rs_b2 n) 4
def rs_b4 (n : Int) : Int := rs_and (rs_b3 n) 252645135 + rs_ush (rs_and (rs_b3 n) 252645135) 8
def rs_b5 (n : Int) : Int := rs_b4 n + rs_ush (rs_b4 n) 16
def rs_rb (z : Int) : Bool := decide (-2147483648 ≤ z) && decide (z ≤ 2147483647)
def rs_bc (n : Int) : Bool := rs_rb (rs_b1 n) && (rs_rb (rs_b2 n) && (rs_rb (rs_b3 n) && (rs_rb (rs_b4 n) && (rs_rb (rs_b5 n) && decide (rs_and (rs_b5 n) 63 = rs_pc 10 n.toNat)))))
set_option maxRecDepth 100000 in
theorem rs_bc_all : ∀ n : Nat, n < 1024 → rs_bc (n : Int) = true := by decide +kernel
theorem rs_rb_R {z : Int} (h : rs_rb z = true) : rs_R z := by
  unfold rs_rb at h
  simp only [Bool.and_eq_true, decide_eq_true_eq] at h
  exact h
set_option maxRecDepth 100000 in
set_option maxHeartbeats 2000000 in
theorem ct_bitCount {u d n : Nat} {I : rs_M} {K : rs_K} (hn : n < 1024) (hk : K (some (.inl (rs_pc 10 n))) I) : rs_run u d 114 0 (rs_en0 [.inl (n : Int)] 1) [] I K := by
  show rs_run u d 114 0 [some (.inl (n : Int))] [] I K
  simp only [rs_x_114_0, rs_x_114_1, rs_x_114_2, rs_x_114_3, rs_x_114_4, rs_x_114_7, rs_x_114_8, rs_x_114_9, rs_x_114_10, rs_x_114_11, rs_x_114_14, rs_x_114_15, rs_x_114_16, rs_x_114_17, rs_x_114_18, rs_x_114_21, rs_x_114_22, rs_x_114_23, rs_x_114_24, rs_x_114_25, rs_x_114_26, rs_x_114_27, rs_x_114_28, rs_x_114_29, rs_x_114_32, rs_x_114_33, rs_x_114_34, rs_x_114_35, rs_x_114_36, rs_x_114_38, rs_x_114_39, rs_x_114_40, rs_x_114_41, rs_x_114_42, rs_x_114_43, rs_x_114_45, rs_x_114_46, rs_x_114_47, rs_x_114_48, rs_x_114_49, rs_x_114_51, rs_x_114_52, rs_cn_n, rs_cn_i, rs_cn_r, rs_cn_t, rs_up_at, Nat.reduceAdd, Nat.reduceEqDiff, Nat.reduceSub, Int.reduceToNat, Int.reduceNeg, Int.reduceLE, Int.reduceLT, Int.reduceAdd, Int.reduceSub, Int.reduceMul, Int.add_sub_cancel, List.length_cons, List.length_nil, Nat.reduceLeDiff, Nat.reduceLT, Int.cast_ofNat_Int, true_and, and_true, and_self, false_and, and_false, ↓reduceIte, Nat.zero_le, or_true, true_or, false_or, or_false, Nat.sub_zero, Int.toNat_natCast, Nat.le_refl, implies_true, forall_const, Int.reduceEq, Nat.reduceMul, ne_eq, not_true_eq_false, not_false_eq_true, false_implies, true_implies, Nat.left_eq_add, Nat.add_eq_left]
  have h := rs_bc_all n hn
  unfold rs_bc at h
  simp only [Bool.and_eq_true, decide_eq_true_eq] at h
  obtain ⟨h1, h2, h3, h4, h5, h6⟩ := h
  refine ⟨rs_rb_R h1, rs_rb_R h2, rs_rb_R h3, rs_rb_R h4, rs_rb_R h5, ?_⟩
  rw [Int.toNat_natCast] at h6
  rw [← h6] at hk
  exact hk
