/-! ===== contracts of the class's small methods ===== -/
theorem gm_rel : ∀ k, k < 12 → rs_rf 7 k = 12 + k ∧ rs_sh (12 + k) = (1, 3) := by decide +kernel
theorem gm_tab : ∀ t, t < 3 → rs_rf 8 t = 24 + 3 * t ∧ rs_sh (24 + 3 * t) = (1, 6) ∧ rs_rf (24 + 3 * t) 0 = 24 + 3 * t + 1 ∧ rs_rf (24 + 3 * t) 1 = 24 + 3 * t + 2 ∧ rs_sh (24 + 3 * t + 1) = (2, 10) ∧ rs_sh (24 + 3 * t + 2) = (2, 10) := by decide +kernel
theorem gm_lev : ∀ k, k < 11 → rs_rf 34 k = 37 + 3 * k ∧ rs_isR (37 + 3 * k) := by
  unfold rs_isR
  decide +kernel
theorem gm_ent : ∀ e, e < 12 → rs_rf 5 e = 76 + e ∧ rs_sh (76 + e) = (1, 0) := by decide +kernel
set_option maxRecDepth 100000 in
set_option maxHeartbeats 2000000 in
theorem ct_cell {u d : Nat} {a b : Int} {I : rs_M} {K : rs_K} (hu : 1 ≤ u) (hd : 7 ≤ d) (hn : 0 ≤ I 1 6 ∧ I 1 6 ≤ 10) (h1 : ¬ (-100 ≤ a ∧ a ≤ b ∧ b ≤ 100) → K (some (.inr (.inl 1))) I) (h2 : (-100 ≤ a ∧ a ≤ b ∧ b ≤ 100) → I 1 6 = 10 → K (some (.inr (.inl 2))) I) (h3 : (-100 ≤ a ∧ a ≤ b ∧ b ≤ 100) → I 1 6 < 10 → K (some (.inl (I 1 6))) (rs_up (rs_up (rs_up I 3 (I 1 6).toNat a) 4 (I 1 6).toNat b) 1 6 (I 1 6 + 1))) : rs_run u d 34 0 (rs_en0 [.inr (.inr 1), .inl a, .inl b] 3) [] I K := by
  show rs_run u d 34 0 [some (.inr (.inr 1)), some (.inl a), some (.inl b)] [] I K
  have g1 : rs_sh 1 = (1, 7) := by decide +kernel
  have g2 : rs_sh 2 = (1, 2) := by decide +kernel
  have g3 : rs_sh 3 = (2, 10) := by decide +kernel
  have g4 : rs_sh 4 = (2, 10) := by decide +kernel
  have f1_0 : rs_rf 1 0 = 2 := by decide +kernel
  have f2_0 : rs_rf 2 0 = 3 := by decide +kernel
  have f2_1 : rs_rf 2 1 = 4 := by decide +kernel
  simp only [rs_x_34_0, rs_x_34_1, rs_x_34_2, rs_x_34_5, rs_x_34_8, rs_x_34_18, rs_x_34_19, rs_x_34_22, rs_x_34_24, rs_x_34_27, rs_x_34_37, rs_x_34_38, rs_x_34_41, rs_x_34_44, rs_x_34_45, rs_x_34_48, rs_x_34_49, rs_x_34_50, rs_x_34_51, rs_x_34_54, rs_x_34_57, rs_x_34_58, rs_x_34_61, rs_x_34_62, rs_x_34_63, rs_x_34_64, rs_x_34_65, rs_x_34_68, rs_x_34_69, rs_x_34_70, rs_x_34_73, rs_x_34_74, rs_x_34_77, rs_x_34_78, rs_x_34_79, rs_cn_n, rs_cn_i, rs_cn_r, rs_cn_t, rs_up_at, Nat.reduceAdd, Nat.reduceEqDiff, Nat.reduceSub, Int.reduceToNat, Int.reduceNeg, Int.reduceLE, Int.reduceLT, Int.reduceAdd, Int.reduceSub, Int.reduceMul, Int.add_sub_cancel, List.length_cons, List.length_nil, Nat.reduceLeDiff, Nat.reduceLT, Int.cast_ofNat_Int, true_and, and_true, and_self, false_and, and_false, ↓reduceIte, Nat.zero_le, or_true, true_or, false_or, or_false, Nat.sub_zero, Int.toNat_natCast, Nat.le_refl, implies_true, forall_const, Int.reduceEq, Nat.reduceMul, ne_eq, not_true_eq_false, not_false_eq_true, false_implies, true_implies, Nat.left_eq_add, Nat.add_eq_left, g1, g2, g3, g4, f1_0, f2_0, f2_1]
  refine ⟨by omega, ct_isRange ?_⟩
  simp only [rs_x_34_0, rs_x_34_1, rs_x_34_2, rs_x_34_5, rs_x_34_8, rs_x_34_18, rs_x_34_19, rs_x_34_22, rs_x_34_24, rs_x_34_27, rs_x_34_37, rs_x_34_38, rs_x_34_41, rs_x_34_44, rs_x_34_45, rs_x_34_48, rs_x_34_49, rs_x_34_50, rs_x_34_51, rs_x_34_54, rs_x_34_57, rs_x_34_58, rs_x_34_61, rs_x_34_62, rs_x_34_63, rs_x_34_64, rs_x_34_65, rs_x_34_68, rs_x_34_69, rs_x_34_70, rs_x_34_73, rs_x_34_74, rs_x_34_77, rs_x_34_78, rs_x_34_79, rs_cn_n, rs_cn_i, rs_cn_r, rs_cn_t, rs_up_at, Nat.reduceAdd, Nat.reduceEqDiff, Nat.reduceSub, Int.reduceToNat, Int.reduceNeg, Int.reduceLE, Int.reduceLT, Int.reduceAdd, Int.reduceSub, Int.reduceMul, Int.add_sub_cancel, List.length_cons, List.length_nil, Nat.reduceLeDiff, Nat.reduceLT, Int.cast_ofNat_Int, true_and, and_true, and_self, false_and, and_false, ↓reduceIte, Nat.zero_le, or_true, true_or, false_or, or_false, Nat.sub_zero, Int.toNat_natCast, Nat.le_refl, implies_true, forall_const, Int.reduceEq, Nat.reduceMul, ne_eq, not_true_eq_false, not_false_eq_true, false_implies, true_implies, Nat.left_eq_add, Nat.add_eq_left, g1, g2, g3, g4, f1_0, f2_0, f2_1]
  repeat' (first | refine And.intro ?_ ?_ | (guard_target =~ (_ → _); intro))
  all_goals first
    | omega
    | (unfold rs_R; omega)
    | exact h1 (by omega)
    | exact h2 (by omega) (by omega)
    | exact h3 (by omega) (by omega)
def rg_mask (k a b c : Int) : Int := if k = 7 then a else if k = 5 ∨ k = 8 then rs_or (rs_shl 1 a) (rs_shl 1 b) else rs_or (rs_or (rs_shl 1 a) (rs_shl 1 b)) (rs_shl 1 c)
def rg_become (I : rs_M) (q : Nat) (k a b c : Int) : rs_M := rs_up (rs_up (rs_up (rs_up (rs_up (rs_up I q 0 k) q 1 a) q 2 b) q 3 c) q 5 1) q 4 (rg_mask k a b c)
set_option maxRecDepth 100000 in
set_option maxHeartbeats 2000000 in
theorem ct_become {u d q : Nat} {k a b c : Int} {I : rs_M} {K : rs_K} (hq : rs_sh q = (1, 3)) (hk : K none (rg_become I q k a b c)) : rs_run u d 27 0 (rs_en0 [.inr (.inr q), .inl k, .inl a, .inl b, .inl c] 5) [] I K := by
  show rs_run u d 27 0 [some (.inr (.inr q)), some (.inl k), some (.inl a), some (.inl b), some (.inl c)] [] I K
  simp only [rs_x_27_0, rs_x_27_1, rs_x_27_2, rs_x_27_5, rs_x_27_6, rs_x_27_7, rs_x_27_10, rs_x_27_11, rs_x_27_12, rs_x_27_15, rs_x_27_16, rs_x_27_18, rs_x_27_21, rs_x_27_22, rs_x_27_23, rs_x_27_26, rs_x_27_27, rs_x_27_30, rs_x_27_32, rs_x_27_35, rs_x_27_36, rs_x_27_37, rs_x_27_40, rs_x_27_43, rs_x_27_46, rs_x_27_47, rs_x_27_50, rs_x_27_51, rs_x_27_54, rs_x_27_55, rs_x_27_58, rs_x_27_60, rs_x_27_63, rs_x_27_64, rs_x_27_65, rs_x_27_66, rs_x_27_69, rs_x_27_70, rs_x_27_71, rs_x_27_72, rs_x_27_75, rs_x_27_76, rs_x_27_77, rs_x_27_80, rs_x_27_83, rs_x_27_84, rs_x_27_85, rs_x_27_86, rs_x_27_89, rs_x_27_90, rs_x_27_91, rs_x_27_92, rs_x_27_95, rs_x_27_96, rs_x_27_97, rs_x_27_98, rs_x_27_99, rs_x_27_102, rs_x_27_103, rs_x_27_104, rs_x_27_107, rs_cn_n, rs_cn_i, rs_cn_r, rs_cn_t, rs_up_at, Nat.reduceAdd, Nat.reduceEqDiff, Nat.reduceSub, Int.reduceToNat, Int.reduceNeg, Int.reduceLE, Int.reduceLT, Int.reduceAdd, Int.reduceSub, Int.reduceMul, Int.add_sub_cancel, List.length_cons, List.length_nil, Nat.reduceLeDiff, Nat.reduceLT, Int.cast_ofNat_Int, true_and, and_true, and_self, false_and, and_false, ↓reduceIte, Nat.zero_le, or_true, true_or, false_or, or_false, Nat.sub_zero, Int.toNat_natCast, Nat.le_refl, implies_true, forall_const, Int.reduceEq, Nat.reduceMul, ne_eq, not_true_eq_false, not_false_eq_true, false_implies, true_implies, Nat.left_eq_add, Nat.add_eq_left, hq]
  unfold rg_become rg_mask at hk
  repeat' (first | refine And.intro ?_ ?_ | (guard_target =~ (_ → _); intro))
  all_goals ((repeat' (split at hk)) <;> first | assumption | (exfalso; omega) | omega)
/-- what makes a relation, n cells there -/
def rg_okrel (n k a b c : Int) : Prop := (k = 7 ∧ rs_shr a n = 0 ∧ 2 ≤ rs_pc 10 a.toNat) ∨ (k = 5 ∧ (0 ≤ a ∧ a < n) ∧ (0 ≤ b ∧ b < n) ∧ (-200 ≤ c ∧ c ≤ 200)) ∨ (k = 8 ∧ (0 ≤ a ∧ a < n) ∧ (0 ≤ b ∧ b < n) ∧ (0 ≤ c ∧ c < 3)) ∨ ((0 ≤ k ∧ k ≤ 6 ∧ k ≠ 5) ∧ (0 ≤ a ∧ a < n) ∧ (0 ≤ b ∧ b < n) ∧ (0 ≤ c ∧ c < n))
theorem bt_shr0 {a : Int} (ha : rs_R a) {n : Int} (hn : 0 ≤ n ∧ n ≤ 10) (h : rs_shr a n = 0) : 0 ≤ a ∧ a < 2 ^ n.toNat ∧ a < 1024 := by
  obtain ⟨m, rfl⟩ := Int.eq_ofNat_of_zero_le hn.1
  rw [bt_shr ha m (by omega)] at h
  have hm : m ≤ 10 := by omega
  rw [Int.toNat_natCast]
  have hp : (2 : Int) ^ m ≤ 1024 := by
    have : (2 : Nat) ^ m ≤ 2 ^ 10 := Nat.pow_le_pow_right (by omega) hm
    have h2 : ((2 ^ m : Nat) : Int) ≤ ((2 ^ 10 : Nat) : Int) := Int.ofNat_le.mpr this
    rw [Int.natCast_pow, Int.natCast_pow] at h2
    exact h2
  have hq : (0 : Int) < 2 ^ m := Int.pow_pos (by omega)
  have h3 := Int.mul_ediv_add_emod a (2 ^ m)
  have h4 := Int.emod_nonneg a (b := 2 ^ m) (by omega)
  have h5 := Int.emod_lt_of_pos a hq
  rw [h] at h3
  omega
theorem ct_bitC {u d : Nat} {a : Int} {I : rs_M} {K : rs_K} (ha : 0 ≤ a ∧ a < 1024) (hk : K (some (.inl (rs_pc 10 a.toNat))) I) : rs_run u d 114 0 (rs_en0 [.inl a] 1) [] I K := by
  obtain ⟨n, rfl⟩ := Int.eq_ofNat_of_zero_le ha.1
  exact ct_bitCount (by omega) hk
theorem cb_isCell {u d : Nat} {c : Int} {I : rs_M} {K : rs_K} (h1 : 0 ≤ c → c < I 1 6 → K (some (.inl 1)) I) (h0 : ¬ (0 ≤ c ∧ c < I 1 6) → K (some (.inl 0)) I) : rs_run u d 51 0 (rs_en0 [.inr (.inr 1), .inl c] 2) [] I K := ct_isCell (by
  split
  · rename_i h; exact h1 h.1 h.2
  · exact h0 (by assumption))
theorem cb_isTable {u d : Nat} {c : Int} {I : rs_M} {K : rs_K} (h1 : 0 ≤ c → c < 3 → K (some (.inl 1)) I) (h0 : ¬ (0 ≤ c ∧ c < 3) → K (some (.inl 0)) I) : rs_run u d 52 0 (rs_en0 [.inl c] 1) [] I K := ct_isTable (by
  split
  · rename_i h; exact h1 h.1 h.2
  · exact h0 (by assumption))
theorem cb_isLimit {u d : Nat} {c : Int} {I : rs_M} {K : rs_K} (h1 : 0 ≤ c → c ≤ 300 → K (some (.inl 1)) I) (h0 : ¬ (0 ≤ c ∧ c ≤ 300) → K (some (.inl 0)) I) : rs_run u d 54 0 (rs_en0 [.inl c] 1) [] I K := ct_isLimit (by
  split
  · rename_i h; exact h1 h.1 h.2
  · exact h0 (by assumption))
theorem cb_isRange {u d : Nat} {a b : Int} {I : rs_M} {K : rs_K} (h1 : -100 ≤ a → a ≤ b → b ≤ 100 → K (some (.inl 1)) I) (h0 : ¬ (-100 ≤ a ∧ a ≤ b ∧ b ≤ 100) → K (some (.inl 0)) I) : rs_run u d 53 0 (rs_en0 [.inl a, .inl b] 2) [] I K := ct_isRange (by
  split
  · rename_i h; exact h1 h.1 h.2.1 h.2.2
  · exact h0 (by assumption))
theorem cb_has {u d : Nat} {r : Int} {I : rs_M} {K : rs_K} (h1 : 0 ≤ r → r < I 6 2 → K (some (.inl 1)) I) (h0 : ¬ (0 ≤ r ∧ r < I 6 2) → K (some (.inl 0)) I) : rs_run u d 0 0 (rs_en0 [.inr (.inr 6), .inl r] 2) [] I K := ct_has (by
  split
  · rename_i h; exact h1 h.1 h.2
  · exact h0 (by assumption))
set_option maxRecDepth 100000 in
set_option maxHeartbeats 2000000 in
theorem ct_isRelation {u d : Nat} {k a b c : Int} {I : rs_M} {K : rs_K} (hd : 1 ≤ d) (ha : rs_R a) (hn : 0 ≤ I 1 6 ∧ I 1 6 ≤ 10) (h1 : rg_okrel (I 1 6) k a b c → K (some (.inl 1)) I) (h0 : ¬ rg_okrel (I 1 6) k a b c → K (some (.inl 0)) I) : rs_run u d 55 0 (rs_en0 [.inr (.inr 1), .inl k, .inl a, .inl b, .inl c] 5) [] I K := by
  show rs_run u d 55 0 [some (.inr (.inr 1)), some (.inl k), some (.inl a), some (.inl b), some (.inl c)] [] I K
  have g1 : rs_sh 1 = (1, 7) := by decide +kernel
  unfold rg_okrel at h1 h0
  have A3 : (0 ≤ k ∧ k ≤ 6 ∧ k ≠ 5) → (0 ≤ a ∧ a < I 1 6) → (0 ≤ b ∧ b < I 1 6) → (0 ≤ c ∧ c < I 1 6) → K (some (.inl 1)) I := fun e f g i => h1 (Or.inr (Or.inr (Or.inr ⟨e, f, g, i⟩)))
  have B3 : (0 ≤ k ∧ k ≤ 6 ∧ k ≠ 5) → ¬ ((0 ≤ a ∧ a < I 1 6) ∧ (0 ≤ b ∧ b < I 1 6) ∧ (0 ≤ c ∧ c < I 1 6)) → K (some (.inl 0)) I := fun e f => h0 (by
    rintro (h | h | h | h)
    · omega
    · omega
    · omega
    · exact f h.2)
  have A5 : k = 5 → (0 ≤ a ∧ a < I 1 6) → (0 ≤ b ∧ b < I 1 6) → (-200 ≤ c ∧ c ≤ 200) → K (some (.inl 1)) I := fun e f g i => h1 (Or.inr (Or.inl ⟨e, f, g, i⟩))
  have B5 : k = 5 → ¬ ((0 ≤ a ∧ a < I 1 6) ∧ (0 ≤ b ∧ b < I 1 6) ∧ (-200 ≤ c ∧ c ≤ 200)) → K (some (.inl 0)) I := fun e f => h0 (by
    rintro (h | h | h | h)
    · omega
    · exact f h.2
    · omega
    · omega)
  have A8 : k = 8 → (0 ≤ a ∧ a < I 1 6) → (0 ≤ b ∧ b < I 1 6) → (0 ≤ c ∧ c < 3) → K (some (.inl 1)) I := fun e f g i => h1 (Or.inr (Or.inr (Or.inl ⟨e, f, g, i⟩)))
  have B8 : k = 8 → ¬ ((0 ≤ a ∧ a < I 1 6) ∧ (0 ≤ b ∧ b < I 1 6) ∧ (0 ≤ c ∧ c < 3)) → K (some (.inl 0)) I := fun e f => h0 (by
    rintro (h | h | h | h)
    · omega
    · omega
    · exact f h.2
    · omega)
  have A7 : k = 7 → rs_shr a (I 1 6) = 0 → 2 ≤ rs_pc 10 a.toNat → K (some (.inl 1)) I := fun e f g => h1 (Or.inl ⟨e, f, g⟩)
  have B7 : k = 7 → (¬ rs_shr a (I 1 6) = 0 ∨ rs_pc 10 a.toNat < 2) → K (some (.inl 0)) I := fun e f => h0 (by
    rintro (h | h | h | h)
    · rcases f with f | f
      · exact f h.2.1
      · omega
    · omega
    · omega
    · omega)
  have B0 : k < 0 ∨ 8 < k → K (some (.inl 0)) I := fun e => h0 (by
    rintro (h | h | h | h) <;> omega)
  clear h1 h0
  have three : (0 ≤ k ∧ k ≤ 6 ∧ k ≠ 5) → rs_run u d 55 52 [some (.inr (.inr 1)), some (.inl k), some (.inl a), some (.inl b), some (.inl c)] [] I K := by
    intro hk
    simp only [rs_x_55_0, rs_x_55_1, rs_x_55_52, rs_x_55_53, rs_x_55_54, rs_x_55_57, rs_x_55_60, rs_x_55_61, rs_x_55_62, rs_x_55_65, rs_x_55_68, rs_x_55_69, rs_x_55_71, rs_x_55_74, rs_x_55_77, rs_x_55_78, rs_x_55_81, rs_x_55_82, rs_x_55_83, rs_x_55_84, rs_x_55_85, rs_x_55_88, rs_x_55_91, rs_x_55_92, rs_x_55_93, rs_x_55_96, rs_x_55_99, rs_x_55_102, rs_x_55_104, rs_x_55_107, rs_x_55_109, rs_x_55_112, rs_x_55_115, rs_x_55_116, rs_x_55_119, rs_x_55_120, rs_x_55_121, rs_x_55_122, rs_x_55_123, rs_x_55_126, rs_x_55_127, rs_x_55_130, rs_x_55_131, rs_x_55_134, rs_x_55_135, rs_x_55_138, rs_x_55_139, rs_x_55_142, rs_x_55_143, rs_x_55_144, rs_x_55_145, rs_x_55_146, rs_x_55_149, rs_x_55_152, rs_x_55_153, rs_x_55_154, rs_x_55_157, rs_x_55_160, rs_x_55_162, rs_x_55_165, rs_x_55_168, rs_x_55_169, rs_x_55_172, rs_x_55_173, rs_x_55_174, rs_x_55_175, rs_cn_n, rs_cn_i, rs_cn_r, rs_cn_t, rs_up_at, Nat.reduceAdd, Nat.reduceEqDiff, Nat.reduceSub, Int.reduceToNat, Int.reduceNeg, Int.reduceLE, Int.reduceLT, Int.reduceAdd, Int.reduceSub, Int.reduceMul, Int.add_sub_cancel, List.length_cons, List.length_nil, Nat.reduceLeDiff, Nat.reduceLT, Int.cast_ofNat_Int, true_and, and_true, and_self, false_and, and_false, ↓reduceIte, Nat.zero_le, or_true, true_or, false_or, or_false, Nat.sub_zero, Int.toNat_natCast, Nat.le_refl, implies_true, forall_const, Int.reduceEq, Nat.reduceMul, ne_eq, not_true_eq_false, not_false_eq_true, false_implies, true_implies, Nat.left_eq_add, Nat.add_eq_left, g1]
    repeat' (first
    | refine And.intro ?_ ?_
    | (guard_target =~ (_ → _); intro)
    | omega
    | (unfold rs_R; omega)
    | exact A3 hk (by omega) (by omega) (by omega)
    | exact B3 hk (by omega)
    | decide
    | (refine cb_isCell ?_ ?_ <;> try simp only [rs_x_55_0, rs_x_55_1, rs_x_55_52, rs_x_55_53, rs_x_55_54, rs_x_55_57, rs_x_55_60, rs_x_55_61, rs_x_55_62, rs_x_55_65, rs_x_55_68, rs_x_55_69, rs_x_55_71, rs_x_55_74, rs_x_55_77, rs_x_55_78, rs_x_55_81, rs_x_55_82, rs_x_55_83, rs_x_55_84, rs_x_55_85, rs_x_55_88, rs_x_55_91, rs_x_55_92, rs_x_55_93, rs_x_55_96, rs_x_55_99, rs_x_55_102, rs_x_55_104, rs_x_55_107, rs_x_55_109, rs_x_55_112, rs_x_55_115, rs_x_55_116, rs_x_55_119, rs_x_55_120, rs_x_55_121, rs_x_55_122, rs_x_55_123, rs_x_55_126, rs_x_55_127, rs_x_55_130, rs_x_55_131, rs_x_55_134, rs_x_55_135, rs_x_55_138, rs_x_55_139, rs_x_55_142, rs_x_55_143, rs_x_55_144, rs_x_55_145, rs_x_55_146, rs_x_55_149, rs_x_55_152, rs_x_55_153, rs_x_55_154, rs_x_55_157, rs_x_55_160, rs_x_55_162, rs_x_55_165, rs_x_55_168, rs_x_55_169, rs_x_55_172, rs_x_55_173, rs_x_55_174, rs_x_55_175, rs_cn_n, rs_cn_i, rs_cn_r, rs_cn_t, rs_up_at, Nat.reduceAdd, Nat.reduceEqDiff, Nat.reduceSub, Int.reduceToNat, Int.reduceNeg, Int.reduceLE, Int.reduceLT, Int.reduceAdd, Int.reduceSub, Int.reduceMul, Int.add_sub_cancel, List.length_cons, List.length_nil, Nat.reduceLeDiff, Nat.reduceLT, Int.cast_ofNat_Int, true_and, and_true, and_self, false_and, and_false, ↓reduceIte, Nat.zero_le, or_true, true_or, false_or, or_false, Nat.sub_zero, Int.toNat_natCast, Nat.le_refl, implies_true, forall_const, Int.reduceEq, Nat.reduceMul, ne_eq, not_true_eq_false, not_false_eq_true, false_implies, true_implies, Nat.left_eq_add, Nat.add_eq_left, g1]))
  simp only [rs_x_55_0, rs_x_55_1, rs_x_55_53, rs_x_55_54, rs_x_55_57, rs_x_55_60, rs_x_55_61, rs_x_55_62, rs_x_55_65, rs_x_55_68, rs_x_55_69, rs_x_55_71, rs_x_55_74, rs_x_55_77, rs_x_55_78, rs_x_55_81, rs_x_55_82, rs_x_55_83, rs_x_55_84, rs_x_55_85, rs_x_55_88, rs_x_55_91, rs_x_55_92, rs_x_55_93, rs_x_55_96, rs_x_55_99, rs_x_55_102, rs_x_55_104, rs_x_55_107, rs_x_55_109, rs_x_55_112, rs_x_55_115, rs_x_55_116, rs_x_55_119, rs_x_55_120, rs_x_55_121, rs_x_55_122, rs_x_55_123, rs_x_55_126, rs_x_55_127, rs_x_55_130, rs_x_55_131, rs_x_55_134, rs_x_55_135, rs_x_55_138, rs_x_55_139, rs_x_55_142, rs_x_55_143, rs_x_55_144, rs_x_55_145, rs_x_55_146, rs_x_55_149, rs_x_55_152, rs_x_55_153, rs_x_55_154, rs_x_55_157, rs_x_55_160, rs_x_55_162, rs_x_55_165, rs_x_55_168, rs_x_55_169, rs_x_55_172, rs_x_55_173, rs_x_55_174, rs_x_55_175, rs_cn_n, rs_cn_i, rs_cn_r, rs_cn_t, rs_up_at, Nat.reduceAdd, Nat.reduceEqDiff, Nat.reduceSub, Int.reduceToNat, Int.reduceNeg, Int.reduceLE, Int.reduceLT, Int.reduceAdd, Int.reduceSub, Int.reduceMul, Int.add_sub_cancel, List.length_cons, List.length_nil, Nat.reduceLeDiff, Nat.reduceLT, Int.cast_ofNat_Int, true_and, and_true, and_self, false_and, and_false, ↓reduceIte, Nat.zero_le, or_true, true_or, false_or, or_false, Nat.sub_zero, Int.toNat_natCast, Nat.le_refl, implies_true, forall_const, Int.reduceEq, Nat.reduceMul, ne_eq, not_true_eq_false, not_false_eq_true, false_implies, true_implies, Nat.left_eq_add, Nat.add_eq_left, g1]
  repeat' (first
    | refine And.intro ?_ ?_
    | (guard_target =~ (_ → _); intro)
    | omega
    | (unfold rs_R; omega)
    | exact three (by omega)
    | exact A5 (by assumption) (by omega) (by omega) (by omega)
    | exact B5 (by assumption) (by omega)
    | exact A8 (by assumption) (by omega) (by omega) (by omega)
    | exact B8 (by assumption) (by omega)
    | exact A7 (by assumption) (by assumption) (by omega)
    | exact B7 (by assumption) (Or.inl (by assumption))
    | exact B7 (by assumption) (Or.inr (by assumption))
    | exact B7 (by assumption) (Or.inr (by omega))
    | exact B0 (by assumption)
    | exact (bt_shr0 ha hn (by assumption)).1
    | exact (bt_shr0 ha hn (by assumption)).2.2
    | decide
    | (refine cb_isCell ?_ ?_ <;> try simp only [rs_x_55_0, rs_x_55_1, rs_x_55_53, rs_x_55_54, rs_x_55_57, rs_x_55_60, rs_x_55_61, rs_x_55_62, rs_x_55_65, rs_x_55_68, rs_x_55_69, rs_x_55_71, rs_x_55_74, rs_x_55_77, rs_x_55_78, rs_x_55_81, rs_x_55_82, rs_x_55_83, rs_x_55_84, rs_x_55_85, rs_x_55_88, rs_x_55_91, rs_x_55_92, rs_x_55_93, rs_x_55_96, rs_x_55_99, rs_x_55_102, rs_x_55_104, rs_x_55_107, rs_x_55_109, rs_x_55_112, rs_x_55_115, rs_x_55_116, rs_x_55_119, rs_x_55_120, rs_x_55_121, rs_x_55_122, rs_x_55_123, rs_x_55_126, rs_x_55_127, rs_x_55_130, rs_x_55_131, rs_x_55_134, rs_x_55_135, rs_x_55_138, rs_x_55_139, rs_x_55_142, rs_x_55_143, rs_x_55_144, rs_x_55_145, rs_x_55_146, rs_x_55_149, rs_x_55_152, rs_x_55_153, rs_x_55_154, rs_x_55_157, rs_x_55_160, rs_x_55_162, rs_x_55_165, rs_x_55_168, rs_x_55_169, rs_x_55_172, rs_x_55_173, rs_x_55_174, rs_x_55_175, rs_cn_n, rs_cn_i, rs_cn_r, rs_cn_t, rs_up_at, Nat.reduceAdd, Nat.reduceEqDiff, Nat.reduceSub, Int.reduceToNat, Int.reduceNeg, Int.reduceLE, Int.reduceLT, Int.reduceAdd, Int.reduceSub, Int.reduceMul, Int.add_sub_cancel, List.length_cons, List.length_nil, Nat.reduceLeDiff, Nat.reduceLT, Int.cast_ofNat_Int, true_and, and_true, and_self, false_and, and_false, ↓reduceIte, Nat.zero_le, or_true, true_or, false_or, or_false, Nat.sub_zero, Int.toNat_natCast, Nat.le_refl, implies_true, forall_const, Int.reduceEq, Nat.reduceMul, ne_eq, not_true_eq_false, not_false_eq_true, false_implies, true_implies, Nat.left_eq_add, Nat.add_eq_left, g1])
    | (refine cb_isTable ?_ ?_ <;> try simp only [rs_x_55_0, rs_x_55_1, rs_x_55_53, rs_x_55_54, rs_x_55_57, rs_x_55_60, rs_x_55_61, rs_x_55_62, rs_x_55_65, rs_x_55_68, rs_x_55_69, rs_x_55_71, rs_x_55_74, rs_x_55_77, rs_x_55_78, rs_x_55_81, rs_x_55_82, rs_x_55_83, rs_x_55_84, rs_x_55_85, rs_x_55_88, rs_x_55_91, rs_x_55_92, rs_x_55_93, rs_x_55_96, rs_x_55_99, rs_x_55_102, rs_x_55_104, rs_x_55_107, rs_x_55_109, rs_x_55_112, rs_x_55_115, rs_x_55_116, rs_x_55_119, rs_x_55_120, rs_x_55_121, rs_x_55_122, rs_x_55_123, rs_x_55_126, rs_x_55_127, rs_x_55_130, rs_x_55_131, rs_x_55_134, rs_x_55_135, rs_x_55_138, rs_x_55_139, rs_x_55_142, rs_x_55_143, rs_x_55_144, rs_x_55_145, rs_x_55_146, rs_x_55_149, rs_x_55_152, rs_x_55_153, rs_x_55_154, rs_x_55_157, rs_x_55_160, rs_x_55_162, rs_x_55_165, rs_x_55_168, rs_x_55_169, rs_x_55_172, rs_x_55_173, rs_x_55_174, rs_x_55_175, rs_cn_n, rs_cn_i, rs_cn_r, rs_cn_t, rs_up_at, Nat.reduceAdd, Nat.reduceEqDiff, Nat.reduceSub, Int.reduceToNat, Int.reduceNeg, Int.reduceLE, Int.reduceLT, Int.reduceAdd, Int.reduceSub, Int.reduceMul, Int.add_sub_cancel, List.length_cons, List.length_nil, Nat.reduceLeDiff, Nat.reduceLT, Int.cast_ofNat_Int, true_and, and_true, and_self, false_and, and_false, ↓reduceIte, Nat.zero_le, or_true, true_or, false_or, or_false, Nat.sub_zero, Int.toNat_natCast, Nat.le_refl, implies_true, forall_const, Int.reduceEq, Nat.reduceMul, ne_eq, not_true_eq_false, not_false_eq_true, false_implies, true_implies, Nat.left_eq_add, Nat.add_eq_left, g1])
    | (refine ct_bitC ?_ ?_ <;> try simp only [rs_x_55_0, rs_x_55_1, rs_x_55_53, rs_x_55_54, rs_x_55_57, rs_x_55_60, rs_x_55_61, rs_x_55_62, rs_x_55_65, rs_x_55_68, rs_x_55_69, rs_x_55_71, rs_x_55_74, rs_x_55_77, rs_x_55_78, rs_x_55_81, rs_x_55_82, rs_x_55_83, rs_x_55_84, rs_x_55_85, rs_x_55_88, rs_x_55_91, rs_x_55_92, rs_x_55_93, rs_x_55_96, rs_x_55_99, rs_x_55_102, rs_x_55_104, rs_x_55_107, rs_x_55_109, rs_x_55_112, rs_x_55_115, rs_x_55_116, rs_x_55_119, rs_x_55_120, rs_x_55_121, rs_x_55_122, rs_x_55_123, rs_x_55_126, rs_x_55_127, rs_x_55_130, rs_x_55_131, rs_x_55_134, rs_x_55_135, rs_x_55_138, rs_x_55_139, rs_x_55_142, rs_x_55_143, rs_x_55_144, rs_x_55_145, rs_x_55_146, rs_x_55_149, rs_x_55_152, rs_x_55_153, rs_x_55_154, rs_x_55_157, rs_x_55_160, rs_x_55_162, rs_x_55_165, rs_x_55_168, rs_x_55_169, rs_x_55_172, rs_x_55_173, rs_x_55_174, rs_x_55_175, rs_cn_n, rs_cn_i, rs_cn_r, rs_cn_t, rs_up_at, Nat.reduceAdd, Nat.reduceEqDiff, Nat.reduceSub, Int.reduceToNat, Int.reduceNeg, Int.reduceLE, Int.reduceLT, Int.reduceAdd, Int.reduceSub, Int.reduceMul, Int.add_sub_cancel, List.length_cons, List.length_nil, Nat.reduceLeDiff, Nat.reduceLT, Int.cast_ofNat_Int, true_and, and_true, and_self, false_and, and_false, ↓reduceIte, Nat.zero_le, or_true, true_or, false_or, or_false, Nat.sub_zero, Int.toNat_natCast, Nat.le_refl, implies_true, forall_const, Int.reduceEq, Nat.reduceMul, ne_eq, not_true_eq_false, not_false_eq_true, false_implies, true_implies, Nat.left_eq_add, Nat.add_eq_left, g1]))
