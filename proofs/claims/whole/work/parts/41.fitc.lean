/-! ===== the class's fits ===== -/
theorem rs_mulb {x y : Int} (hx : -400 ≤ x ∧ x ≤ 400) (hy : -400 ≤ y ∧ y ≤ 400) : -1000000 ≤ x * y ∧ x * y ≤ 1000000 := by
  have h1 : (x * y).natAbs = x.natAbs * y.natAbs := Int.natAbs_mul x y
  have h2 : x.natAbs * y.natAbs ≤ 400 * 400 := Nat.mul_le_mul (by omega) (by omega)
  omega
theorem rs_flb {x y : Int} (hx : -1000000 ≤ x ∧ x ≤ 1000000) (h0 : y ≠ 0) : -2000000 ≤ rs_fl x y ∧ rs_fl x y ≤ 2000000 := by
  have := rs_td (x := x) (y := y) hx h0
  unfold rs_fl
  split <;> omega
set_option maxRecDepth 100000 in
set_option maxHeartbeats 2000000 in
theorem ct_lf {u d : Nat} {k v l m : Int} {I : rs_M} {K : rs_K} (hd : 1 ≤ d) (hk : (0 ≤ k ∧ k ≤ 4) ∨ k = 9) (hv : -300 ≤ v ∧ v ≤ 300) (hl : -300 ≤ l ∧ l ≤ 300) (hm : -300 ≤ m ∧ m ≤ 300) (h : K (some (.inl (rg_lf k v l m))) I) : rs_run u d 18 0 (rs_en0 [.inl k, .inl v, .inl l, .inl m] 4) [] I K := by
  show rs_run u d 18 0 [some (.inl k), some (.inl v), some (.inl l), some (.inl m)] [] I K
  have hk' : k = 0 ∨ k = 1 ∨ k = 2 ∨ k = 3 ∨ k = 4 ∨ k = 9 := by omega
  rcases hk' with e | e | e | e | e | e <;> subst e <;> simp only [rg_lf, Int.reduceEq, ↓reduceIte] at h
  · simp only [rs_x_18_0, rs_x_18_1, rs_x_18_56, rs_x_18_57, rs_x_18_58, rs_x_18_59, rs_x_18_60, rs_x_18_61, rs_x_18_64, rs_x_18_65, rs_x_18_68, rs_x_18_69, rs_x_18_70, rs_x_18_73, rs_x_18_75, rs_x_18_78, rs_x_18_80, rs_x_18_81, rs_x_18_82, rs_x_18_85, rs_x_18_86, rs_x_18_87, rs_x_18_90, rs_x_18_91, rs_x_18_92, rs_x_18_93, rs_x_18_96, rs_x_18_97, rs_x_18_98, rs_x_18_99, rs_x_18_102, rs_x_18_104, rs_x_18_105, rs_x_18_106, rs_x_18_109, rs_x_18_110, rs_x_18_111, rs_x_18_112, rs_x_18_115, rs_x_18_116, rs_x_18_117, rs_x_18_118, rs_x_18_119, rs_x_18_120, rs_x_18_121, rs_x_18_122, rs_x_18_123, rs_x_18_124, rs_x_18_127, rs_x_18_129, rs_x_18_130, rs_x_18_131, rs_x_18_132, rs_x_18_135, rs_x_18_137, rs_x_18_140, rs_x_18_141, rs_x_18_142, rs_x_18_145, rs_x_18_146, rs_x_18_149, rs_x_18_150, rs_x_18_151, rs_x_18_152, rs_x_18_153, rs_x_18_156, rs_x_18_158, rs_x_18_161, rs_x_18_162, rs_x_18_163, rs_x_18_164, rs_x_18_165, rs_x_18_168, rs_x_18_169, rs_x_18_172, rs_x_18_174, rs_cn_n, rs_cn_i, rs_cn_r, rs_cn_t, rs_up_at, Nat.reduceAdd, Nat.reduceEqDiff, Nat.reduceSub, Int.reduceToNat, Int.reduceNeg, Int.reduceLE, Int.reduceLT, Int.reduceAdd, Int.reduceSub, Int.reduceMul, Int.add_sub_cancel, List.length_cons, List.length_nil, Nat.reduceLeDiff, Nat.reduceLT, Int.cast_ofNat_Int, true_and, and_true, and_self, false_and, and_false, ↓reduceIte, Nat.zero_le, or_true, true_or, false_or, or_false, Nat.sub_zero, Int.toNat_natCast, Nat.le_refl, implies_true, forall_const, Int.reduceEq, Nat.reduceMul, ne_eq, not_true_eq_false, not_false_eq_true, false_implies, true_implies, Nat.left_eq_add, Nat.add_eq_left]
    repeat' (first
    | refine And.intro ?_ ?_
    | (guard_target =~ (_ → _); intro)
    | omega
    | (unfold rs_R; omega)
    | exact h
    | decide)
  · have fb := fun (x : Int) (hx : -300 ≤ x ∧ x ≤ 300) (h0 : v ≠ 0) => rs_flb (x := x) (y := v) (by omega) h0
    have f1 := fb (-l) (by omega)
    have f2 := fb (-m) (by omega)
    by_cases h0 : v = 0
    · rw [if_pos h0] at h
      simp only [rs_x_18_0, rs_x_18_1, rs_x_18_56, rs_x_18_57, rs_x_18_58, rs_x_18_59, rs_x_18_60, rs_x_18_61, rs_x_18_64, rs_x_18_65, rs_x_18_68, rs_x_18_69, rs_x_18_70, rs_x_18_73, rs_x_18_75, rs_x_18_78, rs_x_18_80, rs_x_18_81, rs_x_18_82, rs_x_18_85, rs_x_18_86, rs_x_18_87, rs_x_18_90, rs_x_18_91, rs_x_18_92, rs_x_18_93, rs_x_18_96, rs_x_18_97, rs_x_18_98, rs_x_18_99, rs_x_18_102, rs_x_18_104, rs_x_18_105, rs_x_18_106, rs_x_18_109, rs_x_18_110, rs_x_18_111, rs_x_18_112, rs_x_18_115, rs_x_18_116, rs_x_18_117, rs_x_18_118, rs_x_18_119, rs_x_18_120, rs_x_18_121, rs_x_18_122, rs_x_18_123, rs_x_18_124, rs_x_18_127, rs_x_18_129, rs_x_18_130, rs_x_18_131, rs_x_18_132, rs_x_18_135, rs_x_18_137, rs_x_18_140, rs_x_18_141, rs_x_18_142, rs_x_18_145, rs_x_18_146, rs_x_18_149, rs_x_18_150, rs_x_18_151, rs_x_18_152, rs_x_18_153, rs_x_18_156, rs_x_18_158, rs_x_18_161, rs_x_18_162, rs_x_18_163, rs_x_18_164, rs_x_18_165, rs_x_18_168, rs_x_18_169, rs_x_18_172, rs_x_18_174, rs_cn_n, rs_cn_i, rs_cn_r, rs_cn_t, rs_up_at, Nat.reduceAdd, Nat.reduceEqDiff, Nat.reduceSub, Int.reduceToNat, Int.reduceNeg, Int.reduceLE, Int.reduceLT, Int.reduceAdd, Int.reduceSub, Int.reduceMul, Int.add_sub_cancel, List.length_cons, List.length_nil, Nat.reduceLeDiff, Nat.reduceLT, Int.cast_ofNat_Int, true_and, and_true, and_self, false_and, and_false, ↓reduceIte, Nat.zero_le, or_true, true_or, false_or, or_false, Nat.sub_zero, Int.toNat_natCast, Nat.le_refl, implies_true, forall_const, Int.reduceEq, Nat.reduceMul, ne_eq, not_true_eq_false, not_false_eq_true, false_implies, true_implies, Nat.left_eq_add, Nat.add_eq_left]
      by_cases h2 : l ≤ 0 ∧ 0 ≤ m
      · rw [if_pos h2] at h
        repeat' (first
    | refine And.intro ?_ ?_
    | (guard_target =~ (_ → _); intro)
    | omega
    | (unfold rs_R; omega)
    | exact h
    | decide)
      · rw [if_neg h2] at h
        repeat' (first
    | refine And.intro ?_ ?_
    | (guard_target =~ (_ → _); intro)
    | omega
    | (unfold rs_R; omega)
    | exact h
    | decide)
    · rw [if_neg h0] at h
      have f1 := f1 h0
      have f2 := f2 h0
      by_cases hp : 0 < v
      · rw [if_pos hp] at h
        simp only [rs_x_18_0, rs_x_18_1, rs_x_18_56, rs_x_18_57, rs_x_18_58, rs_x_18_59, rs_x_18_60, rs_x_18_61, rs_x_18_64, rs_x_18_65, rs_x_18_68, rs_x_18_69, rs_x_18_70, rs_x_18_73, rs_x_18_75, rs_x_18_78, rs_x_18_80, rs_x_18_81, rs_x_18_82, rs_x_18_85, rs_x_18_86, rs_x_18_87, rs_x_18_90, rs_x_18_91, rs_x_18_92, rs_x_18_93, rs_x_18_96, rs_x_18_97, rs_x_18_98, rs_x_18_99, rs_x_18_102, rs_x_18_104, rs_x_18_105, rs_x_18_106, rs_x_18_109, rs_x_18_110, rs_x_18_111, rs_x_18_112, rs_x_18_115, rs_x_18_116, rs_x_18_117, rs_x_18_118, rs_x_18_119, rs_x_18_120, rs_x_18_121, rs_x_18_122, rs_x_18_123, rs_x_18_124, rs_x_18_127, rs_x_18_129, rs_x_18_130, rs_x_18_131, rs_x_18_132, rs_x_18_135, rs_x_18_137, rs_x_18_140, rs_x_18_141, rs_x_18_142, rs_x_18_145, rs_x_18_146, rs_x_18_149, rs_x_18_150, rs_x_18_151, rs_x_18_152, rs_x_18_153, rs_x_18_156, rs_x_18_158, rs_x_18_161, rs_x_18_162, rs_x_18_163, rs_x_18_164, rs_x_18_165, rs_x_18_168, rs_x_18_169, rs_x_18_172, rs_x_18_174, rs_cn_n, rs_cn_i, rs_cn_r, rs_cn_t, rs_up_at, Nat.reduceAdd, Nat.reduceEqDiff, Nat.reduceSub, Int.reduceToNat, Int.reduceNeg, Int.reduceLE, Int.reduceLT, Int.reduceAdd, Int.reduceSub, Int.reduceMul, Int.add_sub_cancel, List.length_cons, List.length_nil, Nat.reduceLeDiff, Nat.reduceLT, Int.cast_ofNat_Int, true_and, and_true, and_self, false_and, and_false, ↓reduceIte, Nat.zero_le, or_true, true_or, false_or, or_false, Nat.sub_zero, Int.toNat_natCast, Nat.le_refl, implies_true, forall_const, Int.reduceEq, Nat.reduceMul, ne_eq, not_true_eq_false, not_false_eq_true, false_implies, true_implies, Nat.left_eq_add, Nat.add_eq_left]
        repeat' (first
    | refine And.intro ?_ ?_
    | (guard_target =~ (_ → _); intro)
    | omega
    | (unfold rs_R; omega)
    | exact h
    | decide
    | (refine ct_floorDiv (by omega) (by omega) h0 ?_; simp only [rs_x_18_0, rs_x_18_1, rs_x_18_56, rs_x_18_57, rs_x_18_58, rs_x_18_59, rs_x_18_60, rs_x_18_61, rs_x_18_64, rs_x_18_65, rs_x_18_68, rs_x_18_69, rs_x_18_70, rs_x_18_73, rs_x_18_75, rs_x_18_78, rs_x_18_80, rs_x_18_81, rs_x_18_82, rs_x_18_85, rs_x_18_86, rs_x_18_87, rs_x_18_90, rs_x_18_91, rs_x_18_92, rs_x_18_93, rs_x_18_96, rs_x_18_97, rs_x_18_98, rs_x_18_99, rs_x_18_102, rs_x_18_104, rs_x_18_105, rs_x_18_106, rs_x_18_109, rs_x_18_110, rs_x_18_111, rs_x_18_112, rs_x_18_115, rs_x_18_116, rs_x_18_117, rs_x_18_118, rs_x_18_119, rs_x_18_120, rs_x_18_121, rs_x_18_122, rs_x_18_123, rs_x_18_124, rs_x_18_127, rs_x_18_129, rs_x_18_130, rs_x_18_131, rs_x_18_132, rs_x_18_135, rs_x_18_137, rs_x_18_140, rs_x_18_141, rs_x_18_142, rs_x_18_145, rs_x_18_146, rs_x_18_149, rs_x_18_150, rs_x_18_151, rs_x_18_152, rs_x_18_153, rs_x_18_156, rs_x_18_158, rs_x_18_161, rs_x_18_162, rs_x_18_163, rs_x_18_164, rs_x_18_165, rs_x_18_168, rs_x_18_169, rs_x_18_172, rs_x_18_174, rs_cn_n, rs_cn_i, rs_cn_r, rs_cn_t, rs_up_at, Nat.reduceAdd, Nat.reduceEqDiff, Nat.reduceSub, Int.reduceToNat, Int.reduceNeg, Int.reduceLE, Int.reduceLT, Int.reduceAdd, Int.reduceSub, Int.reduceMul, Int.add_sub_cancel, List.length_cons, List.length_nil, Nat.reduceLeDiff, Nat.reduceLT, Int.cast_ofNat_Int, true_and, and_true, and_self, false_and, and_false, ↓reduceIte, Nat.zero_le, or_true, true_or, false_or, or_false, Nat.sub_zero, Int.toNat_natCast, Nat.le_refl, implies_true, forall_const, Int.reduceEq, Nat.reduceMul, ne_eq, not_true_eq_false, not_false_eq_true, false_implies, true_implies, Nat.left_eq_add, Nat.add_eq_left]))
      · rw [if_neg hp] at h
        simp only [rs_x_18_0, rs_x_18_1, rs_x_18_56, rs_x_18_57, rs_x_18_58, rs_x_18_59, rs_x_18_60, rs_x_18_61, rs_x_18_64, rs_x_18_65, rs_x_18_68, rs_x_18_69, rs_x_18_70, rs_x_18_73, rs_x_18_75, rs_x_18_78, rs_x_18_80, rs_x_18_81, rs_x_18_82, rs_x_18_85, rs_x_18_86, rs_x_18_87, rs_x_18_90, rs_x_18_91, rs_x_18_92, rs_x_18_93, rs_x_18_96, rs_x_18_97, rs_x_18_98, rs_x_18_99, rs_x_18_102, rs_x_18_104, rs_x_18_105, rs_x_18_106, rs_x_18_109, rs_x_18_110, rs_x_18_111, rs_x_18_112, rs_x_18_115, rs_x_18_116, rs_x_18_117, rs_x_18_118, rs_x_18_119, rs_x_18_120, rs_x_18_121, rs_x_18_122, rs_x_18_123, rs_x_18_124, rs_x_18_127, rs_x_18_129, rs_x_18_130, rs_x_18_131, rs_x_18_132, rs_x_18_135, rs_x_18_137, rs_x_18_140, rs_x_18_141, rs_x_18_142, rs_x_18_145, rs_x_18_146, rs_x_18_149, rs_x_18_150, rs_x_18_151, rs_x_18_152, rs_x_18_153, rs_x_18_156, rs_x_18_158, rs_x_18_161, rs_x_18_162, rs_x_18_163, rs_x_18_164, rs_x_18_165, rs_x_18_168, rs_x_18_169, rs_x_18_172, rs_x_18_174, rs_cn_n, rs_cn_i, rs_cn_r, rs_cn_t, rs_up_at, Nat.reduceAdd, Nat.reduceEqDiff, Nat.reduceSub, Int.reduceToNat, Int.reduceNeg, Int.reduceLE, Int.reduceLT, Int.reduceAdd, Int.reduceSub, Int.reduceMul, Int.add_sub_cancel, List.length_cons, List.length_nil, Nat.reduceLeDiff, Nat.reduceLT, Int.cast_ofNat_Int, true_and, and_true, and_self, false_and, and_false, ↓reduceIte, Nat.zero_le, or_true, true_or, false_or, or_false, Nat.sub_zero, Int.toNat_natCast, Nat.le_refl, implies_true, forall_const, Int.reduceEq, Nat.reduceMul, ne_eq, not_true_eq_false, not_false_eq_true, false_implies, true_implies, Nat.left_eq_add, Nat.add_eq_left]
        repeat' (first
    | refine And.intro ?_ ?_
    | (guard_target =~ (_ → _); intro)
    | omega
    | (unfold rs_R; omega)
    | exact h
    | decide
    | (refine ct_floorDiv (by omega) (by omega) h0 ?_; simp only [rs_x_18_0, rs_x_18_1, rs_x_18_56, rs_x_18_57, rs_x_18_58, rs_x_18_59, rs_x_18_60, rs_x_18_61, rs_x_18_64, rs_x_18_65, rs_x_18_68, rs_x_18_69, rs_x_18_70, rs_x_18_73, rs_x_18_75, rs_x_18_78, rs_x_18_80, rs_x_18_81, rs_x_18_82, rs_x_18_85, rs_x_18_86, rs_x_18_87, rs_x_18_90, rs_x_18_91, rs_x_18_92, rs_x_18_93, rs_x_18_96, rs_x_18_97, rs_x_18_98, rs_x_18_99, rs_x_18_102, rs_x_18_104, rs_x_18_105, rs_x_18_106, rs_x_18_109, rs_x_18_110, rs_x_18_111, rs_x_18_112, rs_x_18_115, rs_x_18_116, rs_x_18_117, rs_x_18_118, rs_x_18_119, rs_x_18_120, rs_x_18_121, rs_x_18_122, rs_x_18_123, rs_x_18_124, rs_x_18_127, rs_x_18_129, rs_x_18_130, rs_x_18_131, rs_x_18_132, rs_x_18_135, rs_x_18_137, rs_x_18_140, rs_x_18_141, rs_x_18_142, rs_x_18_145, rs_x_18_146, rs_x_18_149, rs_x_18_150, rs_x_18_151, rs_x_18_152, rs_x_18_153, rs_x_18_156, rs_x_18_158, rs_x_18_161, rs_x_18_162, rs_x_18_163, rs_x_18_164, rs_x_18_165, rs_x_18_168, rs_x_18_169, rs_x_18_172, rs_x_18_174, rs_cn_n, rs_cn_i, rs_cn_r, rs_cn_t, rs_up_at, Nat.reduceAdd, Nat.reduceEqDiff, Nat.reduceSub, Int.reduceToNat, Int.reduceNeg, Int.reduceLE, Int.reduceLT, Int.reduceAdd, Int.reduceSub, Int.reduceMul, Int.add_sub_cancel, List.length_cons, List.length_nil, Nat.reduceLeDiff, Nat.reduceLT, Int.cast_ofNat_Int, true_and, and_true, and_self, false_and, and_false, ↓reduceIte, Nat.zero_le, or_true, true_or, false_or, or_false, Nat.sub_zero, Int.toNat_natCast, Nat.le_refl, implies_true, forall_const, Int.reduceEq, Nat.reduceMul, ne_eq, not_true_eq_false, not_false_eq_true, false_implies, true_implies, Nat.left_eq_add, Nat.add_eq_left]))
  · have b1 := rs_mulb (x := l) (y := v) (by omega) (by omega)
    have b2 := rs_mulb (x := m + 1) (y := v) (by omega) (by omega)
    by_cases h0 : v = 0
    · rw [if_pos h0] at h
      simp only [rs_x_18_0, rs_x_18_1, rs_x_18_56, rs_x_18_57, rs_x_18_58, rs_x_18_59, rs_x_18_60, rs_x_18_61, rs_x_18_64, rs_x_18_65, rs_x_18_68, rs_x_18_69, rs_x_18_70, rs_x_18_73, rs_x_18_75, rs_x_18_78, rs_x_18_80, rs_x_18_81, rs_x_18_82, rs_x_18_85, rs_x_18_86, rs_x_18_87, rs_x_18_90, rs_x_18_91, rs_x_18_92, rs_x_18_93, rs_x_18_96, rs_x_18_97, rs_x_18_98, rs_x_18_99, rs_x_18_102, rs_x_18_104, rs_x_18_105, rs_x_18_106, rs_x_18_109, rs_x_18_110, rs_x_18_111, rs_x_18_112, rs_x_18_115, rs_x_18_116, rs_x_18_117, rs_x_18_118, rs_x_18_119, rs_x_18_120, rs_x_18_121, rs_x_18_122, rs_x_18_123, rs_x_18_124, rs_x_18_127, rs_x_18_129, rs_x_18_130, rs_x_18_131, rs_x_18_132, rs_x_18_135, rs_x_18_137, rs_x_18_140, rs_x_18_141, rs_x_18_142, rs_x_18_145, rs_x_18_146, rs_x_18_149, rs_x_18_150, rs_x_18_151, rs_x_18_152, rs_x_18_153, rs_x_18_156, rs_x_18_158, rs_x_18_161, rs_x_18_162, rs_x_18_163, rs_x_18_164, rs_x_18_165, rs_x_18_168, rs_x_18_169, rs_x_18_172, rs_x_18_174, rs_cn_n, rs_cn_i, rs_cn_r, rs_cn_t, rs_up_at, Nat.reduceAdd, Nat.reduceEqDiff, Nat.reduceSub, Int.reduceToNat, Int.reduceNeg, Int.reduceLE, Int.reduceLT, Int.reduceAdd, Int.reduceSub, Int.reduceMul, Int.add_sub_cancel, List.length_cons, List.length_nil, Nat.reduceLeDiff, Nat.reduceLT, Int.cast_ofNat_Int, true_and, and_true, and_self, false_and, and_false, ↓reduceIte, Nat.zero_le, or_true, true_or, false_or, or_false, Nat.sub_zero, Int.toNat_natCast, Nat.le_refl, implies_true, forall_const, Int.reduceEq, Nat.reduceMul, ne_eq, not_true_eq_false, not_false_eq_true, false_implies, true_implies, Nat.left_eq_add, Nat.add_eq_left]
      repeat' (first
    | refine And.intro ?_ ?_
    | (guard_target =~ (_ → _); intro)
    | omega
    | (unfold rs_R; omega)
    | exact h
    | decide)
    · rw [if_neg h0] at h
      by_cases hp : 0 < v
      · rw [if_pos hp] at h
        simp only [rs_x_18_0, rs_x_18_1, rs_x_18_56, rs_x_18_57, rs_x_18_58, rs_x_18_59, rs_x_18_60, rs_x_18_61, rs_x_18_64, rs_x_18_65, rs_x_18_68, rs_x_18_69, rs_x_18_70, rs_x_18_73, rs_x_18_75, rs_x_18_78, rs_x_18_80, rs_x_18_81, rs_x_18_82, rs_x_18_85, rs_x_18_86, rs_x_18_87, rs_x_18_90, rs_x_18_91, rs_x_18_92, rs_x_18_93, rs_x_18_96, rs_x_18_97, rs_x_18_98, rs_x_18_99, rs_x_18_102, rs_x_18_104, rs_x_18_105, rs_x_18_106, rs_x_18_109, rs_x_18_110, rs_x_18_111, rs_x_18_112, rs_x_18_115, rs_x_18_116, rs_x_18_117, rs_x_18_118, rs_x_18_119, rs_x_18_120, rs_x_18_121, rs_x_18_122, rs_x_18_123, rs_x_18_124, rs_x_18_127, rs_x_18_129, rs_x_18_130, rs_x_18_131, rs_x_18_132, rs_x_18_135, rs_x_18_137, rs_x_18_140, rs_x_18_141, rs_x_18_142, rs_x_18_145, rs_x_18_146, rs_x_18_149, rs_x_18_150, rs_x_18_151, rs_x_18_152, rs_x_18_153, rs_x_18_156, rs_x_18_158, rs_x_18_161, rs_x_18_162, rs_x_18_163, rs_x_18_164, rs_x_18_165, rs_x_18_168, rs_x_18_169, rs_x_18_172, rs_x_18_174, rs_cn_n, rs_cn_i, rs_cn_r, rs_cn_t, rs_up_at, Nat.reduceAdd, Nat.reduceEqDiff, Nat.reduceSub, Int.reduceToNat, Int.reduceNeg, Int.reduceLE, Int.reduceLT, Int.reduceAdd, Int.reduceSub, Int.reduceMul, Int.add_sub_cancel, List.length_cons, List.length_nil, Nat.reduceLeDiff, Nat.reduceLT, Int.cast_ofNat_Int, true_and, and_true, and_self, false_and, and_false, ↓reduceIte, Nat.zero_le, or_true, true_or, false_or, or_false, Nat.sub_zero, Int.toNat_natCast, Nat.le_refl, implies_true, forall_const, Int.reduceEq, Nat.reduceMul, ne_eq, not_true_eq_false, not_false_eq_true, false_implies, true_implies, Nat.left_eq_add, Nat.add_eq_left]
        repeat' (first
    | refine And.intro ?_ ?_
    | (guard_target =~ (_ → _); intro)
    | omega
    | (unfold rs_R; omega)
    | exact h
    | decide)
      · rw [if_neg hp] at h
        simp only [rs_x_18_0, rs_x_18_1, rs_x_18_56, rs_x_18_57, rs_x_18_58, rs_x_18_59, rs_x_18_60, rs_x_18_61, rs_x_18_64, rs_x_18_65, rs_x_18_68, rs_x_18_69, rs_x_18_70, rs_x_18_73, rs_x_18_75, rs_x_18_78, rs_x_18_80, rs_x_18_81, rs_x_18_82, rs_x_18_85, rs_x_18_86, rs_x_18_87, rs_x_18_90, rs_x_18_91, rs_x_18_92, rs_x_18_93, rs_x_18_96, rs_x_18_97, rs_x_18_98, rs_x_18_99, rs_x_18_102, rs_x_18_104, rs_x_18_105, rs_x_18_106, rs_x_18_109, rs_x_18_110, rs_x_18_111, rs_x_18_112, rs_x_18_115, rs_x_18_116, rs_x_18_117, rs_x_18_118, rs_x_18_119, rs_x_18_120, rs_x_18_121, rs_x_18_122, rs_x_18_123, rs_x_18_124, rs_x_18_127, rs_x_18_129, rs_x_18_130, rs_x_18_131, rs_x_18_132, rs_x_18_135, rs_x_18_137, rs_x_18_140, rs_x_18_141, rs_x_18_142, rs_x_18_145, rs_x_18_146, rs_x_18_149, rs_x_18_150, rs_x_18_151, rs_x_18_152, rs_x_18_153, rs_x_18_156, rs_x_18_158, rs_x_18_161, rs_x_18_162, rs_x_18_163, rs_x_18_164, rs_x_18_165, rs_x_18_168, rs_x_18_169, rs_x_18_172, rs_x_18_174, rs_cn_n, rs_cn_i, rs_cn_r, rs_cn_t, rs_up_at, Nat.reduceAdd, Nat.reduceEqDiff, Nat.reduceSub, Int.reduceToNat, Int.reduceNeg, Int.reduceLE, Int.reduceLT, Int.reduceAdd, Int.reduceSub, Int.reduceMul, Int.add_sub_cancel, List.length_cons, List.length_nil, Nat.reduceLeDiff, Nat.reduceLT, Int.cast_ofNat_Int, true_and, and_true, and_self, false_and, and_false, ↓reduceIte, Nat.zero_le, or_true, true_or, false_or, or_false, Nat.sub_zero, Int.toNat_natCast, Nat.le_refl, implies_true, forall_const, Int.reduceEq, Nat.reduceMul, ne_eq, not_true_eq_false, not_false_eq_true, false_implies, true_implies, Nat.left_eq_add, Nat.add_eq_left]
        repeat' (first
    | refine And.intro ?_ ?_
    | (guard_target =~ (_ → _); intro)
    | omega
    | (unfold rs_R; omega)
    | exact h
    | decide)
  · by_cases h0 : v < l
    · rw [if_pos h0] at h
      simp only [rs_x_18_0, rs_x_18_1, rs_x_18_56, rs_x_18_57, rs_x_18_58, rs_x_18_59, rs_x_18_60, rs_x_18_61, rs_x_18_64, rs_x_18_65, rs_x_18_68, rs_x_18_69, rs_x_18_70, rs_x_18_73, rs_x_18_75, rs_x_18_78, rs_x_18_80, rs_x_18_81, rs_x_18_82, rs_x_18_85, rs_x_18_86, rs_x_18_87, rs_x_18_90, rs_x_18_91, rs_x_18_92, rs_x_18_93, rs_x_18_96, rs_x_18_97, rs_x_18_98, rs_x_18_99, rs_x_18_102, rs_x_18_104, rs_x_18_105, rs_x_18_106, rs_x_18_109, rs_x_18_110, rs_x_18_111, rs_x_18_112, rs_x_18_115, rs_x_18_116, rs_x_18_117, rs_x_18_118, rs_x_18_119, rs_x_18_120, rs_x_18_121, rs_x_18_122, rs_x_18_123, rs_x_18_124, rs_x_18_127, rs_x_18_129, rs_x_18_130, rs_x_18_131, rs_x_18_132, rs_x_18_135, rs_x_18_137, rs_x_18_140, rs_x_18_141, rs_x_18_142, rs_x_18_145, rs_x_18_146, rs_x_18_149, rs_x_18_150, rs_x_18_151, rs_x_18_152, rs_x_18_153, rs_x_18_156, rs_x_18_158, rs_x_18_161, rs_x_18_162, rs_x_18_163, rs_x_18_164, rs_x_18_165, rs_x_18_168, rs_x_18_169, rs_x_18_172, rs_x_18_174, rs_cn_n, rs_cn_i, rs_cn_r, rs_cn_t, rs_up_at, Nat.reduceAdd, Nat.reduceEqDiff, Nat.reduceSub, Int.reduceToNat, Int.reduceNeg, Int.reduceLE, Int.reduceLT, Int.reduceAdd, Int.reduceSub, Int.reduceMul, Int.add_sub_cancel, List.length_cons, List.length_nil, Nat.reduceLeDiff, Nat.reduceLT, Int.cast_ofNat_Int, true_and, and_true, and_self, false_and, and_false, ↓reduceIte, Nat.zero_le, or_true, true_or, false_or, or_false, Nat.sub_zero, Int.toNat_natCast, Nat.le_refl, implies_true, forall_const, Int.reduceEq, Nat.reduceMul, ne_eq, not_true_eq_false, not_false_eq_true, false_implies, true_implies, Nat.left_eq_add, Nat.add_eq_left]
      repeat' (first
    | refine And.intro ?_ ?_
    | (guard_target =~ (_ → _); intro)
    | omega
    | (unfold rs_R; omega)
    | exact h
    | decide)
    · rw [if_neg h0] at h
      simp only [rs_x_18_0, rs_x_18_1, rs_x_18_56, rs_x_18_57, rs_x_18_58, rs_x_18_59, rs_x_18_60, rs_x_18_61, rs_x_18_64, rs_x_18_65, rs_x_18_68, rs_x_18_69, rs_x_18_70, rs_x_18_73, rs_x_18_75, rs_x_18_78, rs_x_18_80, rs_x_18_81, rs_x_18_82, rs_x_18_85, rs_x_18_86, rs_x_18_87, rs_x_18_90, rs_x_18_91, rs_x_18_92, rs_x_18_93, rs_x_18_96, rs_x_18_97, rs_x_18_98, rs_x_18_99, rs_x_18_102, rs_x_18_104, rs_x_18_105, rs_x_18_106, rs_x_18_109, rs_x_18_110, rs_x_18_111, rs_x_18_112, rs_x_18_115, rs_x_18_116, rs_x_18_117, rs_x_18_118, rs_x_18_119, rs_x_18_120, rs_x_18_121, rs_x_18_122, rs_x_18_123, rs_x_18_124, rs_x_18_127, rs_x_18_129, rs_x_18_130, rs_x_18_131, rs_x_18_132, rs_x_18_135, rs_x_18_137, rs_x_18_140, rs_x_18_141, rs_x_18_142, rs_x_18_145, rs_x_18_146, rs_x_18_149, rs_x_18_150, rs_x_18_151, rs_x_18_152, rs_x_18_153, rs_x_18_156, rs_x_18_158, rs_x_18_161, rs_x_18_162, rs_x_18_163, rs_x_18_164, rs_x_18_165, rs_x_18_168, rs_x_18_169, rs_x_18_172, rs_x_18_174, rs_cn_n, rs_cn_i, rs_cn_r, rs_cn_t, rs_up_at, Nat.reduceAdd, Nat.reduceEqDiff, Nat.reduceSub, Int.reduceToNat, Int.reduceNeg, Int.reduceLE, Int.reduceLT, Int.reduceAdd, Int.reduceSub, Int.reduceMul, Int.add_sub_cancel, List.length_cons, List.length_nil, Nat.reduceLeDiff, Nat.reduceLT, Int.cast_ofNat_Int, true_and, and_true, and_self, false_and, and_false, ↓reduceIte, Nat.zero_le, or_true, true_or, false_or, or_false, Nat.sub_zero, Int.toNat_natCast, Nat.le_refl, implies_true, forall_const, Int.reduceEq, Nat.reduceMul, ne_eq, not_true_eq_false, not_false_eq_true, false_implies, true_implies, Nat.left_eq_add, Nat.add_eq_left]
      repeat' (first
    | refine And.intro ?_ ?_
    | (guard_target =~ (_ → _); intro)
    | omega
    | (unfold rs_R; omega)
    | exact h
    | decide)
  · by_cases h0 : v < l
    · rw [if_pos h0] at h
      simp only [rs_x_18_0, rs_x_18_1, rs_x_18_56, rs_x_18_57, rs_x_18_58, rs_x_18_59, rs_x_18_60, rs_x_18_61, rs_x_18_64, rs_x_18_65, rs_x_18_68, rs_x_18_69, rs_x_18_70, rs_x_18_73, rs_x_18_75, rs_x_18_78, rs_x_18_80, rs_x_18_81, rs_x_18_82, rs_x_18_85, rs_x_18_86, rs_x_18_87, rs_x_18_90, rs_x_18_91, rs_x_18_92, rs_x_18_93, rs_x_18_96, rs_x_18_97, rs_x_18_98, rs_x_18_99, rs_x_18_102, rs_x_18_104, rs_x_18_105, rs_x_18_106, rs_x_18_109, rs_x_18_110, rs_x_18_111, rs_x_18_112, rs_x_18_115, rs_x_18_116, rs_x_18_117, rs_x_18_118, rs_x_18_119, rs_x_18_120, rs_x_18_121, rs_x_18_122, rs_x_18_123, rs_x_18_124, rs_x_18_127, rs_x_18_129, rs_x_18_130, rs_x_18_131, rs_x_18_132, rs_x_18_135, rs_x_18_137, rs_x_18_140, rs_x_18_141, rs_x_18_142, rs_x_18_145, rs_x_18_146, rs_x_18_149, rs_x_18_150, rs_x_18_151, rs_x_18_152, rs_x_18_153, rs_x_18_156, rs_x_18_158, rs_x_18_161, rs_x_18_162, rs_x_18_163, rs_x_18_164, rs_x_18_165, rs_x_18_168, rs_x_18_169, rs_x_18_172, rs_x_18_174, rs_cn_n, rs_cn_i, rs_cn_r, rs_cn_t, rs_up_at, Nat.reduceAdd, Nat.reduceEqDiff, Nat.reduceSub, Int.reduceToNat, Int.reduceNeg, Int.reduceLE, Int.reduceLT, Int.reduceAdd, Int.reduceSub, Int.reduceMul, Int.add_sub_cancel, List.length_cons, List.length_nil, Nat.reduceLeDiff, Nat.reduceLT, Int.cast_ofNat_Int, true_and, and_true, and_self, false_and, and_false, ↓reduceIte, Nat.zero_le, or_true, true_or, false_or, or_false, Nat.sub_zero, Int.toNat_natCast, Nat.le_refl, implies_true, forall_const, Int.reduceEq, Nat.reduceMul, ne_eq, not_true_eq_false, not_false_eq_true, false_implies, true_implies, Nat.left_eq_add, Nat.add_eq_left]
      repeat' (first
    | refine And.intro ?_ ?_
    | (guard_target =~ (_ → _); intro)
    | omega
    | (unfold rs_R; omega)
    | exact h
    | decide)
    · rw [if_neg h0] at h
      simp only [rs_x_18_0, rs_x_18_1, rs_x_18_56, rs_x_18_57, rs_x_18_58, rs_x_18_59, rs_x_18_60, rs_x_18_61, rs_x_18_64, rs_x_18_65, rs_x_18_68, rs_x_18_69, rs_x_18_70, rs_x_18_73, rs_x_18_75, rs_x_18_78, rs_x_18_80, rs_x_18_81, rs_x_18_82, rs_x_18_85, rs_x_18_86, rs_x_18_87, rs_x_18_90, rs_x_18_91, rs_x_18_92, rs_x_18_93, rs_x_18_96, rs_x_18_97, rs_x_18_98, rs_x_18_99, rs_x_18_102, rs_x_18_104, rs_x_18_105, rs_x_18_106, rs_x_18_109, rs_x_18_110, rs_x_18_111, rs_x_18_112, rs_x_18_115, rs_x_18_116, rs_x_18_117, rs_x_18_118, rs_x_18_119, rs_x_18_120, rs_x_18_121, rs_x_18_122, rs_x_18_123, rs_x_18_124, rs_x_18_127, rs_x_18_129, rs_x_18_130, rs_x_18_131, rs_x_18_132, rs_x_18_135, rs_x_18_137, rs_x_18_140, rs_x_18_141, rs_x_18_142, rs_x_18_145, rs_x_18_146, rs_x_18_149, rs_x_18_150, rs_x_18_151, rs_x_18_152, rs_x_18_153, rs_x_18_156, rs_x_18_158, rs_x_18_161, rs_x_18_162, rs_x_18_163, rs_x_18_164, rs_x_18_165, rs_x_18_168, rs_x_18_169, rs_x_18_172, rs_x_18_174, rs_cn_n, rs_cn_i, rs_cn_r, rs_cn_t, rs_up_at, Nat.reduceAdd, Nat.reduceEqDiff, Nat.reduceSub, Int.reduceToNat, Int.reduceNeg, Int.reduceLE, Int.reduceLT, Int.reduceAdd, Int.reduceSub, Int.reduceMul, Int.add_sub_cancel, List.length_cons, List.length_nil, Nat.reduceLeDiff, Nat.reduceLT, Int.cast_ofNat_Int, true_and, and_true, and_self, false_and, and_false, ↓reduceIte, Nat.zero_le, or_true, true_or, false_or, or_false, Nat.sub_zero, Int.toNat_natCast, Nat.le_refl, implies_true, forall_const, Int.reduceEq, Nat.reduceMul, ne_eq, not_true_eq_false, not_false_eq_true, false_implies, true_implies, Nat.left_eq_add, Nat.add_eq_left]
      repeat' (first
    | refine And.intro ?_ ?_
    | (guard_target =~ (_ → _); intro)
    | omega
    | (unfold rs_R; omega)
    | exact h
    | decide)
  · by_cases h0 : v = 0
    · rw [if_pos h0] at h
      simp only [rs_x_18_0, rs_x_18_1, rs_x_18_56, rs_x_18_57, rs_x_18_58, rs_x_18_59, rs_x_18_60, rs_x_18_61, rs_x_18_64, rs_x_18_65, rs_x_18_68, rs_x_18_69, rs_x_18_70, rs_x_18_73, rs_x_18_75, rs_x_18_78, rs_x_18_80, rs_x_18_81, rs_x_18_82, rs_x_18_85, rs_x_18_86, rs_x_18_87, rs_x_18_90, rs_x_18_91, rs_x_18_92, rs_x_18_93, rs_x_18_96, rs_x_18_97, rs_x_18_98, rs_x_18_99, rs_x_18_102, rs_x_18_104, rs_x_18_105, rs_x_18_106, rs_x_18_109, rs_x_18_110, rs_x_18_111, rs_x_18_112, rs_x_18_115, rs_x_18_116, rs_x_18_117, rs_x_18_118, rs_x_18_119, rs_x_18_120, rs_x_18_121, rs_x_18_122, rs_x_18_123, rs_x_18_124, rs_x_18_127, rs_x_18_129, rs_x_18_130, rs_x_18_131, rs_x_18_132, rs_x_18_135, rs_x_18_137, rs_x_18_140, rs_x_18_141, rs_x_18_142, rs_x_18_145, rs_x_18_146, rs_x_18_149, rs_x_18_150, rs_x_18_151, rs_x_18_152, rs_x_18_153, rs_x_18_156, rs_x_18_158, rs_x_18_161, rs_x_18_162, rs_x_18_163, rs_x_18_164, rs_x_18_165, rs_x_18_168, rs_x_18_169, rs_x_18_172, rs_x_18_174, rs_cn_n, rs_cn_i, rs_cn_r, rs_cn_t, rs_up_at, Nat.reduceAdd, Nat.reduceEqDiff, Nat.reduceSub, Int.reduceToNat, Int.reduceNeg, Int.reduceLE, Int.reduceLT, Int.reduceAdd, Int.reduceSub, Int.reduceMul, Int.add_sub_cancel, List.length_cons, List.length_nil, Nat.reduceLeDiff, Nat.reduceLT, Int.cast_ofNat_Int, true_and, and_true, and_self, false_and, and_false, ↓reduceIte, Nat.zero_le, or_true, true_or, false_or, or_false, Nat.sub_zero, Int.toNat_natCast, Nat.le_refl, implies_true, forall_const, Int.reduceEq, Nat.reduceMul, ne_eq, not_true_eq_false, not_false_eq_true, false_implies, true_implies, Nat.left_eq_add, Nat.add_eq_left]
      repeat' (first
    | refine And.intro ?_ ?_
    | (guard_target =~ (_ → _); intro)
    | omega
    | (unfold rs_R; omega)
    | exact h
    | decide)
    · rw [if_neg h0] at h
      by_cases h1 : v = 1
      · rw [if_pos h1] at h
        simp only [rs_x_18_0, rs_x_18_1, rs_x_18_56, rs_x_18_57, rs_x_18_58, rs_x_18_59, rs_x_18_60, rs_x_18_61, rs_x_18_64, rs_x_18_65, rs_x_18_68, rs_x_18_69, rs_x_18_70, rs_x_18_73, rs_x_18_75, rs_x_18_78, rs_x_18_80, rs_x_18_81, rs_x_18_82, rs_x_18_85, rs_x_18_86, rs_x_18_87, rs_x_18_90, rs_x_18_91, rs_x_18_92, rs_x_18_93, rs_x_18_96, rs_x_18_97, rs_x_18_98, rs_x_18_99, rs_x_18_102, rs_x_18_104, rs_x_18_105, rs_x_18_106, rs_x_18_109, rs_x_18_110, rs_x_18_111, rs_x_18_112, rs_x_18_115, rs_x_18_116, rs_x_18_117, rs_x_18_118, rs_x_18_119, rs_x_18_120, rs_x_18_121, rs_x_18_122, rs_x_18_123, rs_x_18_124, rs_x_18_127, rs_x_18_129, rs_x_18_130, rs_x_18_131, rs_x_18_132, rs_x_18_135, rs_x_18_137, rs_x_18_140, rs_x_18_141, rs_x_18_142, rs_x_18_145, rs_x_18_146, rs_x_18_149, rs_x_18_150, rs_x_18_151, rs_x_18_152, rs_x_18_153, rs_x_18_156, rs_x_18_158, rs_x_18_161, rs_x_18_162, rs_x_18_163, rs_x_18_164, rs_x_18_165, rs_x_18_168, rs_x_18_169, rs_x_18_172, rs_x_18_174, rs_cn_n, rs_cn_i, rs_cn_r, rs_cn_t, rs_up_at, Nat.reduceAdd, Nat.reduceEqDiff, Nat.reduceSub, Int.reduceToNat, Int.reduceNeg, Int.reduceLE, Int.reduceLT, Int.reduceAdd, Int.reduceSub, Int.reduceMul, Int.add_sub_cancel, List.length_cons, List.length_nil, Nat.reduceLeDiff, Nat.reduceLT, Int.cast_ofNat_Int, true_and, and_true, and_self, false_and, and_false, ↓reduceIte, Nat.zero_le, or_true, true_or, false_or, or_false, Nat.sub_zero, Int.toNat_natCast, Nat.le_refl, implies_true, forall_const, Int.reduceEq, Nat.reduceMul, ne_eq, not_true_eq_false, not_false_eq_true, false_implies, true_implies, Nat.left_eq_add, Nat.add_eq_left]
        repeat' (first
    | refine And.intro ?_ ?_
    | (guard_target =~ (_ → _); intro)
    | omega
    | (unfold rs_R; omega)
    | exact h
    | decide)
      · rw [if_neg h1] at h
        by_cases h2 : 1 < v
        · rw [if_pos h2] at h
          simp only [rs_x_18_0, rs_x_18_1, rs_x_18_56, rs_x_18_57, rs_x_18_58, rs_x_18_59, rs_x_18_60, rs_x_18_61, rs_x_18_64, rs_x_18_65, rs_x_18_68, rs_x_18_69, rs_x_18_70, rs_x_18_73, rs_x_18_75, rs_x_18_78, rs_x_18_80, rs_x_18_81, rs_x_18_82, rs_x_18_85, rs_x_18_86, rs_x_18_87, rs_x_18_90, rs_x_18_91, rs_x_18_92, rs_x_18_93, rs_x_18_96, rs_x_18_97, rs_x_18_98, rs_x_18_99, rs_x_18_102, rs_x_18_104, rs_x_18_105, rs_x_18_106, rs_x_18_109, rs_x_18_110, rs_x_18_111, rs_x_18_112, rs_x_18_115, rs_x_18_116, rs_x_18_117, rs_x_18_118, rs_x_18_119, rs_x_18_120, rs_x_18_121, rs_x_18_122, rs_x_18_123, rs_x_18_124, rs_x_18_127, rs_x_18_129, rs_x_18_130, rs_x_18_131, rs_x_18_132, rs_x_18_135, rs_x_18_137, rs_x_18_140, rs_x_18_141, rs_x_18_142, rs_x_18_145, rs_x_18_146, rs_x_18_149, rs_x_18_150, rs_x_18_151, rs_x_18_152, rs_x_18_153, rs_x_18_156, rs_x_18_158, rs_x_18_161, rs_x_18_162, rs_x_18_163, rs_x_18_164, rs_x_18_165, rs_x_18_168, rs_x_18_169, rs_x_18_172, rs_x_18_174, rs_cn_n, rs_cn_i, rs_cn_r, rs_cn_t, rs_up_at, Nat.reduceAdd, Nat.reduceEqDiff, Nat.reduceSub, Int.reduceToNat, Int.reduceNeg, Int.reduceLE, Int.reduceLT, Int.reduceAdd, Int.reduceSub, Int.reduceMul, Int.add_sub_cancel, List.length_cons, List.length_nil, Nat.reduceLeDiff, Nat.reduceLT, Int.cast_ofNat_Int, true_and, and_true, and_self, false_and, and_false, ↓reduceIte, Nat.zero_le, or_true, true_or, false_or, or_false, Nat.sub_zero, Int.toNat_natCast, Nat.le_refl, implies_true, forall_const, Int.reduceEq, Nat.reduceMul, ne_eq, not_true_eq_false, not_false_eq_true, false_implies, true_implies, Nat.left_eq_add, Nat.add_eq_left]
          repeat' (first
    | refine And.intro ?_ ?_
    | (guard_target =~ (_ → _); intro)
    | omega
    | (unfold rs_R; omega)
    | exact h
    | decide)
        · rw [if_neg h2] at h
          simp only [rs_x_18_0, rs_x_18_1, rs_x_18_56, rs_x_18_57, rs_x_18_58, rs_x_18_59, rs_x_18_60, rs_x_18_61, rs_x_18_64, rs_x_18_65, rs_x_18_68, rs_x_18_69, rs_x_18_70, rs_x_18_73, rs_x_18_75, rs_x_18_78, rs_x_18_80, rs_x_18_81, rs_x_18_82, rs_x_18_85, rs_x_18_86, rs_x_18_87, rs_x_18_90, rs_x_18_91, rs_x_18_92, rs_x_18_93, rs_x_18_96, rs_x_18_97, rs_x_18_98, rs_x_18_99, rs_x_18_102, rs_x_18_104, rs_x_18_105, rs_x_18_106, rs_x_18_109, rs_x_18_110, rs_x_18_111, rs_x_18_112, rs_x_18_115, rs_x_18_116, rs_x_18_117, rs_x_18_118, rs_x_18_119, rs_x_18_120, rs_x_18_121, rs_x_18_122, rs_x_18_123, rs_x_18_124, rs_x_18_127, rs_x_18_129, rs_x_18_130, rs_x_18_131, rs_x_18_132, rs_x_18_135, rs_x_18_137, rs_x_18_140, rs_x_18_141, rs_x_18_142, rs_x_18_145, rs_x_18_146, rs_x_18_149, rs_x_18_150, rs_x_18_151, rs_x_18_152, rs_x_18_153, rs_x_18_156, rs_x_18_158, rs_x_18_161, rs_x_18_162, rs_x_18_163, rs_x_18_164, rs_x_18_165, rs_x_18_168, rs_x_18_169, rs_x_18_172, rs_x_18_174, rs_cn_n, rs_cn_i, rs_cn_r, rs_cn_t, rs_up_at, Nat.reduceAdd, Nat.reduceEqDiff, Nat.reduceSub, Int.reduceToNat, Int.reduceNeg, Int.reduceLE, Int.reduceLT, Int.reduceAdd, Int.reduceSub, Int.reduceMul, Int.add_sub_cancel, List.length_cons, List.length_nil, Nat.reduceLeDiff, Nat.reduceLT, Int.cast_ofNat_Int, true_and, and_true, and_self, false_and, and_false, ↓reduceIte, Nat.zero_le, or_true, true_or, false_or, or_false, Nat.sub_zero, Int.toNat_natCast, Nat.le_refl, implies_true, forall_const, Int.reduceEq, Nat.reduceMul, ne_eq, not_true_eq_false, not_false_eq_true, false_implies, true_implies, Nat.left_eq_add, Nat.add_eq_left]
          repeat' (first
    | refine And.intro ?_ ?_
    | (guard_target =~ (_ → _); intro)
    | omega
    | (unfold rs_R; omega)
    | exact h
    | decide)
set_option maxRecDepth 100000 in
set_option maxHeartbeats 2000000 in
theorem ct_mf {u d : Nat} {k v l m : Int} {I : rs_M} {K : rs_K} (hd : 1 ≤ d) (hk : (0 ≤ k ∧ k ≤ 4) ∨ k = 9) (hv : -300 ≤ v ∧ v ≤ 300) (hl : -300 ≤ l ∧ l ≤ 300) (hm : -300 ≤ m ∧ m ≤ 300) (h : K (some (.inl (rg_mf k v l m))) I) : rs_run u d 19 0 (rs_en0 [.inl k, .inl v, .inl l, .inl m] 4) [] I K := by
  show rs_run u d 19 0 [some (.inl k), some (.inl v), some (.inl l), some (.inl m)] [] I K
  have hk' : k = 0 ∨ k = 1 ∨ k = 2 ∨ k = 3 ∨ k = 4 ∨ k = 9 := by omega
  rcases hk' with e | e | e | e | e | e <;> subst e <;> simp only [rg_mf, Int.reduceEq, ↓reduceIte] at h
  · simp only [rs_x_19_0, rs_x_19_1, rs_x_19_56, rs_x_19_57, rs_x_19_58, rs_x_19_59, rs_x_19_60, rs_x_19_61, rs_x_19_64, rs_x_19_66, rs_x_19_67, rs_x_19_68, rs_x_19_71, rs_x_19_72, rs_x_19_75, rs_x_19_76, rs_x_19_77, rs_x_19_80, rs_x_19_81, rs_x_19_82, rs_x_19_85, rs_x_19_86, rs_x_19_87, rs_x_19_88, rs_x_19_89, rs_x_19_90, rs_x_19_91, rs_x_19_92, rs_x_19_95, rs_x_19_96, rs_x_19_97, rs_x_19_98, rs_x_19_99, rs_x_19_100, rs_x_19_101, rs_x_19_104, rs_x_19_106, rs_x_19_109, rs_x_19_110, rs_x_19_111, rs_x_19_112, rs_x_19_113, rs_x_19_116, rs_x_19_118, rs_x_19_121, rs_x_19_122, rs_x_19_123, rs_x_19_124, rs_x_19_125, rs_x_19_128, rs_x_19_130, rs_x_19_133, rs_x_19_134, rs_cn_n, rs_cn_i, rs_cn_r, rs_cn_t, rs_up_at, Nat.reduceAdd, Nat.reduceEqDiff, Nat.reduceSub, Int.reduceToNat, Int.reduceNeg, Int.reduceLE, Int.reduceLT, Int.reduceAdd, Int.reduceSub, Int.reduceMul, Int.add_sub_cancel, List.length_cons, List.length_nil, Nat.reduceLeDiff, Nat.reduceLT, Int.cast_ofNat_Int, true_and, and_true, and_self, false_and, and_false, ↓reduceIte, Nat.zero_le, or_true, true_or, false_or, or_false, Nat.sub_zero, Int.toNat_natCast, Nat.le_refl, implies_true, forall_const, Int.reduceEq, Nat.reduceMul, ne_eq, not_true_eq_false, not_false_eq_true, false_implies, true_implies, Nat.left_eq_add, Nat.add_eq_left]
    repeat' (first
    | refine And.intro ?_ ?_
    | (guard_target =~ (_ → _); intro)
    | omega
    | (unfold rs_R; omega)
    | exact h
    | decide)
  · by_cases h0 : v = 0
    · rw [if_pos h0] at h
      simp only [rs_x_19_0, rs_x_19_1, rs_x_19_56, rs_x_19_57, rs_x_19_58, rs_x_19_59, rs_x_19_60, rs_x_19_61, rs_x_19_64, rs_x_19_66, rs_x_19_67, rs_x_19_68, rs_x_19_71, rs_x_19_72, rs_x_19_75, rs_x_19_76, rs_x_19_77, rs_x_19_80, rs_x_19_81, rs_x_19_82, rs_x_19_85, rs_x_19_86, rs_x_19_87, rs_x_19_88, rs_x_19_89, rs_x_19_90, rs_x_19_91, rs_x_19_92, rs_x_19_95, rs_x_19_96, rs_x_19_97, rs_x_19_98, rs_x_19_99, rs_x_19_100, rs_x_19_101, rs_x_19_104, rs_x_19_106, rs_x_19_109, rs_x_19_110, rs_x_19_111, rs_x_19_112, rs_x_19_113, rs_x_19_116, rs_x_19_118, rs_x_19_121, rs_x_19_122, rs_x_19_123, rs_x_19_124, rs_x_19_125, rs_x_19_128, rs_x_19_130, rs_x_19_133, rs_x_19_134, rs_cn_n, rs_cn_i, rs_cn_r, rs_cn_t, rs_up_at, Nat.reduceAdd, Nat.reduceEqDiff, Nat.reduceSub, Int.reduceToNat, Int.reduceNeg, Int.reduceLE, Int.reduceLT, Int.reduceAdd, Int.reduceSub, Int.reduceMul, Int.add_sub_cancel, List.length_cons, List.length_nil, Nat.reduceLeDiff, Nat.reduceLT, Int.cast_ofNat_Int, true_and, and_true, and_self, false_and, and_false, ↓reduceIte, Nat.zero_le, or_true, true_or, false_or, or_false, Nat.sub_zero, Int.toNat_natCast, Nat.le_refl, implies_true, forall_const, Int.reduceEq, Nat.reduceMul, ne_eq, not_true_eq_false, not_false_eq_true, false_implies, true_implies, Nat.left_eq_add, Nat.add_eq_left]
      repeat' (first
    | refine And.intro ?_ ?_
    | (guard_target =~ (_ → _); intro)
    | omega
    | (unfold rs_R; omega)
    | exact h
    | decide)
    · rw [if_neg h0] at h
      by_cases hp : 0 < v
      · rw [if_pos hp] at h
        simp only [rs_x_19_0, rs_x_19_1, rs_x_19_56, rs_x_19_57, rs_x_19_58, rs_x_19_59, rs_x_19_60, rs_x_19_61, rs_x_19_64, rs_x_19_66, rs_x_19_67, rs_x_19_68, rs_x_19_71, rs_x_19_72, rs_x_19_75, rs_x_19_76, rs_x_19_77, rs_x_19_80, rs_x_19_81, rs_x_19_82, rs_x_19_85, rs_x_19_86, rs_x_19_87, rs_x_19_88, rs_x_19_89, rs_x_19_90, rs_x_19_91, rs_x_19_92, rs_x_19_95, rs_x_19_96, rs_x_19_97, rs_x_19_98, rs_x_19_99, rs_x_19_100, rs_x_19_101, rs_x_19_104, rs_x_19_106, rs_x_19_109, rs_x_19_110, rs_x_19_111, rs_x_19_112, rs_x_19_113, rs_x_19_116, rs_x_19_118, rs_x_19_121, rs_x_19_122, rs_x_19_123, rs_x_19_124, rs_x_19_125, rs_x_19_128, rs_x_19_130, rs_x_19_133, rs_x_19_134, rs_cn_n, rs_cn_i, rs_cn_r, rs_cn_t, rs_up_at, Nat.reduceAdd, Nat.reduceEqDiff, Nat.reduceSub, Int.reduceToNat, Int.reduceNeg, Int.reduceLE, Int.reduceLT, Int.reduceAdd, Int.reduceSub, Int.reduceMul, Int.add_sub_cancel, List.length_cons, List.length_nil, Nat.reduceLeDiff, Nat.reduceLT, Int.cast_ofNat_Int, true_and, and_true, and_self, false_and, and_false, ↓reduceIte, Nat.zero_le, or_true, true_or, false_or, or_false, Nat.sub_zero, Int.toNat_natCast, Nat.le_refl, implies_true, forall_const, Int.reduceEq, Nat.reduceMul, ne_eq, not_true_eq_false, not_false_eq_true, false_implies, true_implies, Nat.left_eq_add, Nat.add_eq_left]
        repeat' (first
    | refine And.intro ?_ ?_
    | (guard_target =~ (_ → _); intro)
    | omega
    | (unfold rs_R; omega)
    | exact h
    | decide
    | (refine ct_floorDiv (by omega) (by omega) h0 ?_; simp only [rs_x_19_0, rs_x_19_1, rs_x_19_56, rs_x_19_57, rs_x_19_58, rs_x_19_59, rs_x_19_60, rs_x_19_61, rs_x_19_64, rs_x_19_66, rs_x_19_67, rs_x_19_68, rs_x_19_71, rs_x_19_72, rs_x_19_75, rs_x_19_76, rs_x_19_77, rs_x_19_80, rs_x_19_81, rs_x_19_82, rs_x_19_85, rs_x_19_86, rs_x_19_87, rs_x_19_88, rs_x_19_89, rs_x_19_90, rs_x_19_91, rs_x_19_92, rs_x_19_95, rs_x_19_96, rs_x_19_97, rs_x_19_98, rs_x_19_99, rs_x_19_100, rs_x_19_101, rs_x_19_104, rs_x_19_106, rs_x_19_109, rs_x_19_110, rs_x_19_111, rs_x_19_112, rs_x_19_113, rs_x_19_116, rs_x_19_118, rs_x_19_121, rs_x_19_122, rs_x_19_123, rs_x_19_124, rs_x_19_125, rs_x_19_128, rs_x_19_130, rs_x_19_133, rs_x_19_134, rs_cn_n, rs_cn_i, rs_cn_r, rs_cn_t, rs_up_at, Nat.reduceAdd, Nat.reduceEqDiff, Nat.reduceSub, Int.reduceToNat, Int.reduceNeg, Int.reduceLE, Int.reduceLT, Int.reduceAdd, Int.reduceSub, Int.reduceMul, Int.add_sub_cancel, List.length_cons, List.length_nil, Nat.reduceLeDiff, Nat.reduceLT, Int.cast_ofNat_Int, true_and, and_true, and_self, false_and, and_false, ↓reduceIte, Nat.zero_le, or_true, true_or, false_or, or_false, Nat.sub_zero, Int.toNat_natCast, Nat.le_refl, implies_true, forall_const, Int.reduceEq, Nat.reduceMul, ne_eq, not_true_eq_false, not_false_eq_true, false_implies, true_implies, Nat.left_eq_add, Nat.add_eq_left]))
      · rw [if_neg hp] at h
        simp only [rs_x_19_0, rs_x_19_1, rs_x_19_56, rs_x_19_57, rs_x_19_58, rs_x_19_59, rs_x_19_60, rs_x_19_61, rs_x_19_64, rs_x_19_66, rs_x_19_67, rs_x_19_68, rs_x_19_71, rs_x_19_72, rs_x_19_75, rs_x_19_76, rs_x_19_77, rs_x_19_80, rs_x_19_81, rs_x_19_82, rs_x_19_85, rs_x_19_86, rs_x_19_87, rs_x_19_88, rs_x_19_89, rs_x_19_90, rs_x_19_91, rs_x_19_92, rs_x_19_95, rs_x_19_96, rs_x_19_97, rs_x_19_98, rs_x_19_99, rs_x_19_100, rs_x_19_101, rs_x_19_104, rs_x_19_106, rs_x_19_109, rs_x_19_110, rs_x_19_111, rs_x_19_112, rs_x_19_113, rs_x_19_116, rs_x_19_118, rs_x_19_121, rs_x_19_122, rs_x_19_123, rs_x_19_124, rs_x_19_125, rs_x_19_128, rs_x_19_130, rs_x_19_133, rs_x_19_134, rs_cn_n, rs_cn_i, rs_cn_r, rs_cn_t, rs_up_at, Nat.reduceAdd, Nat.reduceEqDiff, Nat.reduceSub, Int.reduceToNat, Int.reduceNeg, Int.reduceLE, Int.reduceLT, Int.reduceAdd, Int.reduceSub, Int.reduceMul, Int.add_sub_cancel, List.length_cons, List.length_nil, Nat.reduceLeDiff, Nat.reduceLT, Int.cast_ofNat_Int, true_and, and_true, and_self, false_and, and_false, ↓reduceIte, Nat.zero_le, or_true, true_or, false_or, or_false, Nat.sub_zero, Int.toNat_natCast, Nat.le_refl, implies_true, forall_const, Int.reduceEq, Nat.reduceMul, ne_eq, not_true_eq_false, not_false_eq_true, false_implies, true_implies, Nat.left_eq_add, Nat.add_eq_left]
        repeat' (first
    | refine And.intro ?_ ?_
    | (guard_target =~ (_ → _); intro)
    | omega
    | (unfold rs_R; omega)
    | exact h
    | decide
    | (refine ct_floorDiv (by omega) (by omega) h0 ?_; simp only [rs_x_19_0, rs_x_19_1, rs_x_19_56, rs_x_19_57, rs_x_19_58, rs_x_19_59, rs_x_19_60, rs_x_19_61, rs_x_19_64, rs_x_19_66, rs_x_19_67, rs_x_19_68, rs_x_19_71, rs_x_19_72, rs_x_19_75, rs_x_19_76, rs_x_19_77, rs_x_19_80, rs_x_19_81, rs_x_19_82, rs_x_19_85, rs_x_19_86, rs_x_19_87, rs_x_19_88, rs_x_19_89, rs_x_19_90, rs_x_19_91, rs_x_19_92, rs_x_19_95, rs_x_19_96, rs_x_19_97, rs_x_19_98, rs_x_19_99, rs_x_19_100, rs_x_19_101, rs_x_19_104, rs_x_19_106, rs_x_19_109, rs_x_19_110, rs_x_19_111, rs_x_19_112, rs_x_19_113, rs_x_19_116, rs_x_19_118, rs_x_19_121, rs_x_19_122, rs_x_19_123, rs_x_19_124, rs_x_19_125, rs_x_19_128, rs_x_19_130, rs_x_19_133, rs_x_19_134, rs_cn_n, rs_cn_i, rs_cn_r, rs_cn_t, rs_up_at, Nat.reduceAdd, Nat.reduceEqDiff, Nat.reduceSub, Int.reduceToNat, Int.reduceNeg, Int.reduceLE, Int.reduceLT, Int.reduceAdd, Int.reduceSub, Int.reduceMul, Int.add_sub_cancel, List.length_cons, List.length_nil, Nat.reduceLeDiff, Nat.reduceLT, Int.cast_ofNat_Int, true_and, and_true, and_self, false_and, and_false, ↓reduceIte, Nat.zero_le, or_true, true_or, false_or, or_false, Nat.sub_zero, Int.toNat_natCast, Nat.le_refl, implies_true, forall_const, Int.reduceEq, Nat.reduceMul, ne_eq, not_true_eq_false, not_false_eq_true, false_implies, true_implies, Nat.left_eq_add, Nat.add_eq_left]))
  · have b1 := rs_mulb (x := l) (y := v) (by omega) (by omega)
    have b2 := rs_mulb (x := m) (y := v) (by omega) (by omega)
    by_cases hp : 0 < v
    · rw [if_pos hp] at h
      simp only [rs_x_19_0, rs_x_19_1, rs_x_19_56, rs_x_19_57, rs_x_19_58, rs_x_19_59, rs_x_19_60, rs_x_19_61, rs_x_19_64, rs_x_19_66, rs_x_19_67, rs_x_19_68, rs_x_19_71, rs_x_19_72, rs_x_19_75, rs_x_19_76, rs_x_19_77, rs_x_19_80, rs_x_19_81, rs_x_19_82, rs_x_19_85, rs_x_19_86, rs_x_19_87, rs_x_19_88, rs_x_19_89, rs_x_19_90, rs_x_19_91, rs_x_19_92, rs_x_19_95, rs_x_19_96, rs_x_19_97, rs_x_19_98, rs_x_19_99, rs_x_19_100, rs_x_19_101, rs_x_19_104, rs_x_19_106, rs_x_19_109, rs_x_19_110, rs_x_19_111, rs_x_19_112, rs_x_19_113, rs_x_19_116, rs_x_19_118, rs_x_19_121, rs_x_19_122, rs_x_19_123, rs_x_19_124, rs_x_19_125, rs_x_19_128, rs_x_19_130, rs_x_19_133, rs_x_19_134, rs_cn_n, rs_cn_i, rs_cn_r, rs_cn_t, rs_up_at, Nat.reduceAdd, Nat.reduceEqDiff, Nat.reduceSub, Int.reduceToNat, Int.reduceNeg, Int.reduceLE, Int.reduceLT, Int.reduceAdd, Int.reduceSub, Int.reduceMul, Int.add_sub_cancel, List.length_cons, List.length_nil, Nat.reduceLeDiff, Nat.reduceLT, Int.cast_ofNat_Int, true_and, and_true, and_self, false_and, and_false, ↓reduceIte, Nat.zero_le, or_true, true_or, false_or, or_false, Nat.sub_zero, Int.toNat_natCast, Nat.le_refl, implies_true, forall_const, Int.reduceEq, Nat.reduceMul, ne_eq, not_true_eq_false, not_false_eq_true, false_implies, true_implies, Nat.left_eq_add, Nat.add_eq_left]
      repeat' (first
    | refine And.intro ?_ ?_
    | (guard_target =~ (_ → _); intro)
    | omega
    | (unfold rs_R; omega)
    | exact h
    | decide)
    · rw [if_neg hp] at h
      simp only [rs_x_19_0, rs_x_19_1, rs_x_19_56, rs_x_19_57, rs_x_19_58, rs_x_19_59, rs_x_19_60, rs_x_19_61, rs_x_19_64, rs_x_19_66, rs_x_19_67, rs_x_19_68, rs_x_19_71, rs_x_19_72, rs_x_19_75, rs_x_19_76, rs_x_19_77, rs_x_19_80, rs_x_19_81, rs_x_19_82, rs_x_19_85, rs_x_19_86, rs_x_19_87, rs_x_19_88, rs_x_19_89, rs_x_19_90, rs_x_19_91, rs_x_19_92, rs_x_19_95, rs_x_19_96, rs_x_19_97, rs_x_19_98, rs_x_19_99, rs_x_19_100, rs_x_19_101, rs_x_19_104, rs_x_19_106, rs_x_19_109, rs_x_19_110, rs_x_19_111, rs_x_19_112, rs_x_19_113, rs_x_19_116, rs_x_19_118, rs_x_19_121, rs_x_19_122, rs_x_19_123, rs_x_19_124, rs_x_19_125, rs_x_19_128, rs_x_19_130, rs_x_19_133, rs_x_19_134, rs_cn_n, rs_cn_i, rs_cn_r, rs_cn_t, rs_up_at, Nat.reduceAdd, Nat.reduceEqDiff, Nat.reduceSub, Int.reduceToNat, Int.reduceNeg, Int.reduceLE, Int.reduceLT, Int.reduceAdd, Int.reduceSub, Int.reduceMul, Int.add_sub_cancel, List.length_cons, List.length_nil, Nat.reduceLeDiff, Nat.reduceLT, Int.cast_ofNat_Int, true_and, and_true, and_self, false_and, and_false, ↓reduceIte, Nat.zero_le, or_true, true_or, false_or, or_false, Nat.sub_zero, Int.toNat_natCast, Nat.le_refl, implies_true, forall_const, Int.reduceEq, Nat.reduceMul, ne_eq, not_true_eq_false, not_false_eq_true, false_implies, true_implies, Nat.left_eq_add, Nat.add_eq_left]
      repeat' (first
    | refine And.intro ?_ ?_
    | (guard_target =~ (_ → _); intro)
    | omega
    | (unfold rs_R; omega)
    | exact h
    | decide)
  · by_cases h0 : v ≤ m
    · rw [if_pos h0] at h
      simp only [rs_x_19_0, rs_x_19_1, rs_x_19_56, rs_x_19_57, rs_x_19_58, rs_x_19_59, rs_x_19_60, rs_x_19_61, rs_x_19_64, rs_x_19_66, rs_x_19_67, rs_x_19_68, rs_x_19_71, rs_x_19_72, rs_x_19_75, rs_x_19_76, rs_x_19_77, rs_x_19_80, rs_x_19_81, rs_x_19_82, rs_x_19_85, rs_x_19_86, rs_x_19_87, rs_x_19_88, rs_x_19_89, rs_x_19_90, rs_x_19_91, rs_x_19_92, rs_x_19_95, rs_x_19_96, rs_x_19_97, rs_x_19_98, rs_x_19_99, rs_x_19_100, rs_x_19_101, rs_x_19_104, rs_x_19_106, rs_x_19_109, rs_x_19_110, rs_x_19_111, rs_x_19_112, rs_x_19_113, rs_x_19_116, rs_x_19_118, rs_x_19_121, rs_x_19_122, rs_x_19_123, rs_x_19_124, rs_x_19_125, rs_x_19_128, rs_x_19_130, rs_x_19_133, rs_x_19_134, rs_cn_n, rs_cn_i, rs_cn_r, rs_cn_t, rs_up_at, Nat.reduceAdd, Nat.reduceEqDiff, Nat.reduceSub, Int.reduceToNat, Int.reduceNeg, Int.reduceLE, Int.reduceLT, Int.reduceAdd, Int.reduceSub, Int.reduceMul, Int.add_sub_cancel, List.length_cons, List.length_nil, Nat.reduceLeDiff, Nat.reduceLT, Int.cast_ofNat_Int, true_and, and_true, and_self, false_and, and_false, ↓reduceIte, Nat.zero_le, or_true, true_or, false_or, or_false, Nat.sub_zero, Int.toNat_natCast, Nat.le_refl, implies_true, forall_const, Int.reduceEq, Nat.reduceMul, ne_eq, not_true_eq_false, not_false_eq_true, false_implies, true_implies, Nat.left_eq_add, Nat.add_eq_left]
      repeat' (first
    | refine And.intro ?_ ?_
    | (guard_target =~ (_ → _); intro)
    | omega
    | (unfold rs_R; omega)
    | exact h
    | decide)
    · rw [if_neg h0] at h
      simp only [rs_x_19_0, rs_x_19_1, rs_x_19_56, rs_x_19_57, rs_x_19_58, rs_x_19_59, rs_x_19_60, rs_x_19_61, rs_x_19_64, rs_x_19_66, rs_x_19_67, rs_x_19_68, rs_x_19_71, rs_x_19_72, rs_x_19_75, rs_x_19_76, rs_x_19_77, rs_x_19_80, rs_x_19_81, rs_x_19_82, rs_x_19_85, rs_x_19_86, rs_x_19_87, rs_x_19_88, rs_x_19_89, rs_x_19_90, rs_x_19_91, rs_x_19_92, rs_x_19_95, rs_x_19_96, rs_x_19_97, rs_x_19_98, rs_x_19_99, rs_x_19_100, rs_x_19_101, rs_x_19_104, rs_x_19_106, rs_x_19_109, rs_x_19_110, rs_x_19_111, rs_x_19_112, rs_x_19_113, rs_x_19_116, rs_x_19_118, rs_x_19_121, rs_x_19_122, rs_x_19_123, rs_x_19_124, rs_x_19_125, rs_x_19_128, rs_x_19_130, rs_x_19_133, rs_x_19_134, rs_cn_n, rs_cn_i, rs_cn_r, rs_cn_t, rs_up_at, Nat.reduceAdd, Nat.reduceEqDiff, Nat.reduceSub, Int.reduceToNat, Int.reduceNeg, Int.reduceLE, Int.reduceLT, Int.reduceAdd, Int.reduceSub, Int.reduceMul, Int.add_sub_cancel, List.length_cons, List.length_nil, Nat.reduceLeDiff, Nat.reduceLT, Int.cast_ofNat_Int, true_and, and_true, and_self, false_and, and_false, ↓reduceIte, Nat.zero_le, or_true, true_or, false_or, or_false, Nat.sub_zero, Int.toNat_natCast, Nat.le_refl, implies_true, forall_const, Int.reduceEq, Nat.reduceMul, ne_eq, not_true_eq_false, not_false_eq_true, false_implies, true_implies, Nat.left_eq_add, Nat.add_eq_left]
      repeat' (first
    | refine And.intro ?_ ?_
    | (guard_target =~ (_ → _); intro)
    | omega
    | (unfold rs_R; omega)
    | exact h
    | decide)
  · by_cases h0 : m < v
    · rw [if_pos h0] at h
      simp only [rs_x_19_0, rs_x_19_1, rs_x_19_56, rs_x_19_57, rs_x_19_58, rs_x_19_59, rs_x_19_60, rs_x_19_61, rs_x_19_64, rs_x_19_66, rs_x_19_67, rs_x_19_68, rs_x_19_71, rs_x_19_72, rs_x_19_75, rs_x_19_76, rs_x_19_77, rs_x_19_80, rs_x_19_81, rs_x_19_82, rs_x_19_85, rs_x_19_86, rs_x_19_87, rs_x_19_88, rs_x_19_89, rs_x_19_90, rs_x_19_91, rs_x_19_92, rs_x_19_95, rs_x_19_96, rs_x_19_97, rs_x_19_98, rs_x_19_99, rs_x_19_100, rs_x_19_101, rs_x_19_104, rs_x_19_106, rs_x_19_109, rs_x_19_110, rs_x_19_111, rs_x_19_112, rs_x_19_113, rs_x_19_116, rs_x_19_118, rs_x_19_121, rs_x_19_122, rs_x_19_123, rs_x_19_124, rs_x_19_125, rs_x_19_128, rs_x_19_130, rs_x_19_133, rs_x_19_134, rs_cn_n, rs_cn_i, rs_cn_r, rs_cn_t, rs_up_at, Nat.reduceAdd, Nat.reduceEqDiff, Nat.reduceSub, Int.reduceToNat, Int.reduceNeg, Int.reduceLE, Int.reduceLT, Int.reduceAdd, Int.reduceSub, Int.reduceMul, Int.add_sub_cancel, List.length_cons, List.length_nil, Nat.reduceLeDiff, Nat.reduceLT, Int.cast_ofNat_Int, true_and, and_true, and_self, false_and, and_false, ↓reduceIte, Nat.zero_le, or_true, true_or, false_or, or_false, Nat.sub_zero, Int.toNat_natCast, Nat.le_refl, implies_true, forall_const, Int.reduceEq, Nat.reduceMul, ne_eq, not_true_eq_false, not_false_eq_true, false_implies, true_implies, Nat.left_eq_add, Nat.add_eq_left]
      repeat' (first
    | refine And.intro ?_ ?_
    | (guard_target =~ (_ → _); intro)
    | omega
    | (unfold rs_R; omega)
    | exact h
    | decide)
    · rw [if_neg h0] at h
      simp only [rs_x_19_0, rs_x_19_1, rs_x_19_56, rs_x_19_57, rs_x_19_58, rs_x_19_59, rs_x_19_60, rs_x_19_61, rs_x_19_64, rs_x_19_66, rs_x_19_67, rs_x_19_68, rs_x_19_71, rs_x_19_72, rs_x_19_75, rs_x_19_76, rs_x_19_77, rs_x_19_80, rs_x_19_81, rs_x_19_82, rs_x_19_85, rs_x_19_86, rs_x_19_87, rs_x_19_88, rs_x_19_89, rs_x_19_90, rs_x_19_91, rs_x_19_92, rs_x_19_95, rs_x_19_96, rs_x_19_97, rs_x_19_98, rs_x_19_99, rs_x_19_100, rs_x_19_101, rs_x_19_104, rs_x_19_106, rs_x_19_109, rs_x_19_110, rs_x_19_111, rs_x_19_112, rs_x_19_113, rs_x_19_116, rs_x_19_118, rs_x_19_121, rs_x_19_122, rs_x_19_123, rs_x_19_124, rs_x_19_125, rs_x_19_128, rs_x_19_130, rs_x_19_133, rs_x_19_134, rs_cn_n, rs_cn_i, rs_cn_r, rs_cn_t, rs_up_at, Nat.reduceAdd, Nat.reduceEqDiff, Nat.reduceSub, Int.reduceToNat, Int.reduceNeg, Int.reduceLE, Int.reduceLT, Int.reduceAdd, Int.reduceSub, Int.reduceMul, Int.add_sub_cancel, List.length_cons, List.length_nil, Nat.reduceLeDiff, Nat.reduceLT, Int.cast_ofNat_Int, true_and, and_true, and_self, false_and, and_false, ↓reduceIte, Nat.zero_le, or_true, true_or, false_or, or_false, Nat.sub_zero, Int.toNat_natCast, Nat.le_refl, implies_true, forall_const, Int.reduceEq, Nat.reduceMul, ne_eq, not_true_eq_false, not_false_eq_true, false_implies, true_implies, Nat.left_eq_add, Nat.add_eq_left]
      repeat' (first
    | refine And.intro ?_ ?_
    | (guard_target =~ (_ → _); intro)
    | omega
    | (unfold rs_R; omega)
    | exact h
    | decide)
  · by_cases h0 : v = 1
    · rw [if_pos h0] at h
      simp only [rs_x_19_0, rs_x_19_1, rs_x_19_56, rs_x_19_57, rs_x_19_58, rs_x_19_59, rs_x_19_60, rs_x_19_61, rs_x_19_64, rs_x_19_66, rs_x_19_67, rs_x_19_68, rs_x_19_71, rs_x_19_72, rs_x_19_75, rs_x_19_76, rs_x_19_77, rs_x_19_80, rs_x_19_81, rs_x_19_82, rs_x_19_85, rs_x_19_86, rs_x_19_87, rs_x_19_88, rs_x_19_89, rs_x_19_90, rs_x_19_91, rs_x_19_92, rs_x_19_95, rs_x_19_96, rs_x_19_97, rs_x_19_98, rs_x_19_99, rs_x_19_100, rs_x_19_101, rs_x_19_104, rs_x_19_106, rs_x_19_109, rs_x_19_110, rs_x_19_111, rs_x_19_112, rs_x_19_113, rs_x_19_116, rs_x_19_118, rs_x_19_121, rs_x_19_122, rs_x_19_123, rs_x_19_124, rs_x_19_125, rs_x_19_128, rs_x_19_130, rs_x_19_133, rs_x_19_134, rs_cn_n, rs_cn_i, rs_cn_r, rs_cn_t, rs_up_at, Nat.reduceAdd, Nat.reduceEqDiff, Nat.reduceSub, Int.reduceToNat, Int.reduceNeg, Int.reduceLE, Int.reduceLT, Int.reduceAdd, Int.reduceSub, Int.reduceMul, Int.add_sub_cancel, List.length_cons, List.length_nil, Nat.reduceLeDiff, Nat.reduceLT, Int.cast_ofNat_Int, true_and, and_true, and_self, false_and, and_false, ↓reduceIte, Nat.zero_le, or_true, true_or, false_or, or_false, Nat.sub_zero, Int.toNat_natCast, Nat.le_refl, implies_true, forall_const, Int.reduceEq, Nat.reduceMul, ne_eq, not_true_eq_false, not_false_eq_true, false_implies, true_implies, Nat.left_eq_add, Nat.add_eq_left]
      repeat' (first
    | refine And.intro ?_ ?_
    | (guard_target =~ (_ → _); intro)
    | omega
    | (unfold rs_R; omega)
    | exact h
    | decide)
    · rw [if_neg h0] at h
      simp only [rs_x_19_0, rs_x_19_1, rs_x_19_56, rs_x_19_57, rs_x_19_58, rs_x_19_59, rs_x_19_60, rs_x_19_61, rs_x_19_64, rs_x_19_66, rs_x_19_67, rs_x_19_68, rs_x_19_71, rs_x_19_72, rs_x_19_75, rs_x_19_76, rs_x_19_77, rs_x_19_80, rs_x_19_81, rs_x_19_82, rs_x_19_85, rs_x_19_86, rs_x_19_87, rs_x_19_88, rs_x_19_89, rs_x_19_90, rs_x_19_91, rs_x_19_92, rs_x_19_95, rs_x_19_96, rs_x_19_97, rs_x_19_98, rs_x_19_99, rs_x_19_100, rs_x_19_101, rs_x_19_104, rs_x_19_106, rs_x_19_109, rs_x_19_110, rs_x_19_111, rs_x_19_112, rs_x_19_113, rs_x_19_116, rs_x_19_118, rs_x_19_121, rs_x_19_122, rs_x_19_123, rs_x_19_124, rs_x_19_125, rs_x_19_128, rs_x_19_130, rs_x_19_133, rs_x_19_134, rs_cn_n, rs_cn_i, rs_cn_r, rs_cn_t, rs_up_at, Nat.reduceAdd, Nat.reduceEqDiff, Nat.reduceSub, Int.reduceToNat, Int.reduceNeg, Int.reduceLE, Int.reduceLT, Int.reduceAdd, Int.reduceSub, Int.reduceMul, Int.add_sub_cancel, List.length_cons, List.length_nil, Nat.reduceLeDiff, Nat.reduceLT, Int.cast_ofNat_Int, true_and, and_true, and_self, false_and, and_false, ↓reduceIte, Nat.zero_le, or_true, true_or, false_or, or_false, Nat.sub_zero, Int.toNat_natCast, Nat.le_refl, implies_true, forall_const, Int.reduceEq, Nat.reduceMul, ne_eq, not_true_eq_false, not_false_eq_true, false_implies, true_implies, Nat.left_eq_add, Nat.add_eq_left]
      repeat' (first
    | refine And.intro ?_ ?_
    | (guard_target =~ (_ → _); intro)
    | omega
    | (unfold rs_R; omega)
    | exact h
    | decide)
set_option maxRecDepth 100000 in
set_option maxHeartbeats 2000000 in
theorem ct_res {u d : Nat} {k v w : Int} {I : rs_M} {K : rs_K} (hd : 1 ≤ d) (hk : 0 ≤ k ∧ k ≤ 4) (hv : -400 ≤ v ∧ v ≤ 400) (hw : -400 ≤ w ∧ w ≤ 400) (h : K (some (.inl (rg_res k v w))) I) : rs_run u d 20 0 (rs_en0 [.inl k, .inl v, .inl w] 3) [] I K := by
  show rs_run u d 20 0 [some (.inl k), some (.inl v), some (.inl w)] [] I K
  have hk' : k = 0 ∨ k = 1 ∨ k = 2 ∨ k = 3 ∨ k = 4 := by omega
  rcases hk' with e | e | e | e | e <;> subst e <;> simp only [rg_res, Int.reduceEq, ↓reduceIte] at h
  · simp only [rs_x_20_0, rs_x_20_1, rs_x_20_32, rs_x_20_33, rs_x_20_34, rs_x_20_35, rs_x_20_36, rs_x_20_37, rs_x_20_38, rs_x_20_39, rs_x_20_40, rs_x_20_41, rs_x_20_44, rs_x_20_47, rs_x_20_50, rs_x_20_51, rs_x_20_52, rs_x_20_55, rs_x_20_56, rs_x_20_57, rs_x_20_58, rs_x_20_61, rs_x_20_62, rs_x_20_63, rs_x_20_64, rs_x_20_67, rs_cn_n, rs_cn_i, rs_cn_r, rs_cn_t, rs_up_at, Nat.reduceAdd, Nat.reduceEqDiff, Nat.reduceSub, Int.reduceToNat, Int.reduceNeg, Int.reduceLE, Int.reduceLT, Int.reduceAdd, Int.reduceSub, Int.reduceMul, Int.add_sub_cancel, List.length_cons, List.length_nil, Nat.reduceLeDiff, Nat.reduceLT, Int.cast_ofNat_Int, true_and, and_true, and_self, false_and, and_false, ↓reduceIte, Nat.zero_le, or_true, true_or, false_or, or_false, Nat.sub_zero, Int.toNat_natCast, Nat.le_refl, implies_true, forall_const, Int.reduceEq, Nat.reduceMul, ne_eq, not_true_eq_false, not_false_eq_true, false_implies, true_implies, Nat.left_eq_add, Nat.add_eq_left]
    repeat' (first
    | refine And.intro ?_ ?_
    | (guard_target =~ (_ → _); intro)
    | omega
    | (unfold rs_R; omega)
    | exact h
    | decide)
  · have b1 := rs_mulb (x := v) (y := w) (by omega) (by omega)
    simp only [rs_x_20_0, rs_x_20_1, rs_x_20_32, rs_x_20_33, rs_x_20_34, rs_x_20_35, rs_x_20_36, rs_x_20_37, rs_x_20_38, rs_x_20_39, rs_x_20_40, rs_x_20_41, rs_x_20_44, rs_x_20_47, rs_x_20_50, rs_x_20_51, rs_x_20_52, rs_x_20_55, rs_x_20_56, rs_x_20_57, rs_x_20_58, rs_x_20_61, rs_x_20_62, rs_x_20_63, rs_x_20_64, rs_x_20_67, rs_cn_n, rs_cn_i, rs_cn_r, rs_cn_t, rs_up_at, Nat.reduceAdd, Nat.reduceEqDiff, Nat.reduceSub, Int.reduceToNat, Int.reduceNeg, Int.reduceLE, Int.reduceLT, Int.reduceAdd, Int.reduceSub, Int.reduceMul, Int.add_sub_cancel, List.length_cons, List.length_nil, Nat.reduceLeDiff, Nat.reduceLT, Int.cast_ofNat_Int, true_and, and_true, and_self, false_and, and_false, ↓reduceIte, Nat.zero_le, or_true, true_or, false_or, or_false, Nat.sub_zero, Int.toNat_natCast, Nat.le_refl, implies_true, forall_const, Int.reduceEq, Nat.reduceMul, ne_eq, not_true_eq_false, not_false_eq_true, false_implies, true_implies, Nat.left_eq_add, Nat.add_eq_left]
    repeat' (first
    | refine And.intro ?_ ?_
    | (guard_target =~ (_ → _); intro)
    | omega
    | (unfold rs_R; omega)
    | exact h
    | decide)
  · by_cases h0 : v = 0
    · rw [if_pos h0] at h
      simp only [rs_x_20_0, rs_x_20_1, rs_x_20_32, rs_x_20_33, rs_x_20_34, rs_x_20_35, rs_x_20_36, rs_x_20_37, rs_x_20_38, rs_x_20_39, rs_x_20_40, rs_x_20_41, rs_x_20_44, rs_x_20_47, rs_x_20_50, rs_x_20_51, rs_x_20_52, rs_x_20_55, rs_x_20_56, rs_x_20_57, rs_x_20_58, rs_x_20_61, rs_x_20_62, rs_x_20_63, rs_x_20_64, rs_x_20_67, rs_cn_n, rs_cn_i, rs_cn_r, rs_cn_t, rs_up_at, Nat.reduceAdd, Nat.reduceEqDiff, Nat.reduceSub, Int.reduceToNat, Int.reduceNeg, Int.reduceLE, Int.reduceLT, Int.reduceAdd, Int.reduceSub, Int.reduceMul, Int.add_sub_cancel, List.length_cons, List.length_nil, Nat.reduceLeDiff, Nat.reduceLT, Int.cast_ofNat_Int, true_and, and_true, and_self, false_and, and_false, ↓reduceIte, Nat.zero_le, or_true, true_or, false_or, or_false, Nat.sub_zero, Int.toNat_natCast, Nat.le_refl, implies_true, forall_const, Int.reduceEq, Nat.reduceMul, ne_eq, not_true_eq_false, not_false_eq_true, false_implies, true_implies, Nat.left_eq_add, Nat.add_eq_left]
      repeat' (first
    | refine And.intro ?_ ?_
    | (guard_target =~ (_ → _); intro)
    | omega
    | (unfold rs_R; omega)
    | exact h
    | decide)
    · rw [if_neg h0] at h
      simp only [rs_x_20_0, rs_x_20_1, rs_x_20_32, rs_x_20_33, rs_x_20_34, rs_x_20_35, rs_x_20_36, rs_x_20_37, rs_x_20_38, rs_x_20_39, rs_x_20_40, rs_x_20_41, rs_x_20_44, rs_x_20_47, rs_x_20_50, rs_x_20_51, rs_x_20_52, rs_x_20_55, rs_x_20_56, rs_x_20_57, rs_x_20_58, rs_x_20_61, rs_x_20_62, rs_x_20_63, rs_x_20_64, rs_x_20_67, rs_cn_n, rs_cn_i, rs_cn_r, rs_cn_t, rs_up_at, Nat.reduceAdd, Nat.reduceEqDiff, Nat.reduceSub, Int.reduceToNat, Int.reduceNeg, Int.reduceLE, Int.reduceLT, Int.reduceAdd, Int.reduceSub, Int.reduceMul, Int.add_sub_cancel, List.length_cons, List.length_nil, Nat.reduceLeDiff, Nat.reduceLT, Int.cast_ofNat_Int, true_and, and_true, and_self, false_and, and_false, ↓reduceIte, Nat.zero_le, or_true, true_or, false_or, or_false, Nat.sub_zero, Int.toNat_natCast, Nat.le_refl, implies_true, forall_const, Int.reduceEq, Nat.reduceMul, ne_eq, not_true_eq_false, not_false_eq_true, false_implies, true_implies, Nat.left_eq_add, Nat.add_eq_left]
      repeat' (first
    | refine And.intro ?_ ?_
    | (guard_target =~ (_ → _); intro)
    | omega
    | (unfold rs_R; omega)
    | exact h
    | decide
    | (refine ct_floorDiv (by omega) (by omega) h0 ?_; simp only [rs_x_20_0, rs_x_20_1, rs_x_20_32, rs_x_20_33, rs_x_20_34, rs_x_20_35, rs_x_20_36, rs_x_20_37, rs_x_20_38, rs_x_20_39, rs_x_20_40, rs_x_20_41, rs_x_20_44, rs_x_20_47, rs_x_20_50, rs_x_20_51, rs_x_20_52, rs_x_20_55, rs_x_20_56, rs_x_20_57, rs_x_20_58, rs_x_20_61, rs_x_20_62, rs_x_20_63, rs_x_20_64, rs_x_20_67, rs_cn_n, rs_cn_i, rs_cn_r, rs_cn_t, rs_up_at, Nat.reduceAdd, Nat.reduceEqDiff, Nat.reduceSub, Int.reduceToNat, Int.reduceNeg, Int.reduceLE, Int.reduceLT, Int.reduceAdd, Int.reduceSub, Int.reduceMul, Int.add_sub_cancel, List.length_cons, List.length_nil, Nat.reduceLeDiff, Nat.reduceLT, Int.cast_ofNat_Int, true_and, and_true, and_self, false_and, and_false, ↓reduceIte, Nat.zero_le, or_true, true_or, false_or, or_false, Nat.sub_zero, Int.toNat_natCast, Nat.le_refl, implies_true, forall_const, Int.reduceEq, Nat.reduceMul, ne_eq, not_true_eq_false, not_false_eq_true, false_implies, true_implies, Nat.left_eq_add, Nat.add_eq_left]))
  · simp only [rs_x_20_0, rs_x_20_1, rs_x_20_32, rs_x_20_33, rs_x_20_34, rs_x_20_35, rs_x_20_36, rs_x_20_37, rs_x_20_38, rs_x_20_39, rs_x_20_40, rs_x_20_41, rs_x_20_44, rs_x_20_47, rs_x_20_50, rs_x_20_51, rs_x_20_52, rs_x_20_55, rs_x_20_56, rs_x_20_57, rs_x_20_58, rs_x_20_61, rs_x_20_62, rs_x_20_63, rs_x_20_64, rs_x_20_67, rs_cn_n, rs_cn_i, rs_cn_r, rs_cn_t, rs_up_at, Nat.reduceAdd, Nat.reduceEqDiff, Nat.reduceSub, Int.reduceToNat, Int.reduceNeg, Int.reduceLE, Int.reduceLT, Int.reduceAdd, Int.reduceSub, Int.reduceMul, Int.add_sub_cancel, List.length_cons, List.length_nil, Nat.reduceLeDiff, Nat.reduceLT, Int.cast_ofNat_Int, true_and, and_true, and_self, false_and, and_false, ↓reduceIte, Nat.zero_le, or_true, true_or, false_or, or_false, Nat.sub_zero, Int.toNat_natCast, Nat.le_refl, implies_true, forall_const, Int.reduceEq, Nat.reduceMul, ne_eq, not_true_eq_false, not_false_eq_true, false_implies, true_implies, Nat.left_eq_add, Nat.add_eq_left]
    repeat' (first
    | refine And.intro ?_ ?_
    | (guard_target =~ (_ → _); intro)
    | omega
    | (unfold rs_R; omega)
    | exact h
    | decide)
  · simp only [rs_x_20_0, rs_x_20_1, rs_x_20_32, rs_x_20_33, rs_x_20_34, rs_x_20_35, rs_x_20_36, rs_x_20_37, rs_x_20_38, rs_x_20_39, rs_x_20_40, rs_x_20_41, rs_x_20_44, rs_x_20_47, rs_x_20_50, rs_x_20_51, rs_x_20_52, rs_x_20_55, rs_x_20_56, rs_x_20_57, rs_x_20_58, rs_x_20_61, rs_x_20_62, rs_x_20_63, rs_x_20_64, rs_x_20_67, rs_cn_n, rs_cn_i, rs_cn_r, rs_cn_t, rs_up_at, Nat.reduceAdd, Nat.reduceEqDiff, Nat.reduceSub, Int.reduceToNat, Int.reduceNeg, Int.reduceLE, Int.reduceLT, Int.reduceAdd, Int.reduceSub, Int.reduceMul, Int.add_sub_cancel, List.length_cons, List.length_nil, Nat.reduceLeDiff, Nat.reduceLT, Int.cast_ofNat_Int, true_and, and_true, and_self, false_and, and_false, ↓reduceIte, Nat.zero_le, or_true, true_or, false_or, or_false, Nat.sub_zero, Int.toNat_natCast, Nat.le_refl, implies_true, forall_const, Int.reduceEq, Nat.reduceMul, ne_eq, not_true_eq_false, not_false_eq_true, false_implies, true_implies, Nat.left_eq_add, Nat.add_eq_left]
    repeat' (first
    | refine And.intro ?_ ?_
    | (guard_target =~ (_ → _); intro)
    | omega
    | (unfold rs_R; omega)
    | exact h
    | decide)
