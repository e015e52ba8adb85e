/-! ===== the reference: cutting a range at a level ===== -/
def ml (I : rs_M) (d k : Nat) : Int := if k < 10 then I 102 (10 * d + k) else 0
def mh (I : rs_M) (d k : Nat) : Int := if k < 10 then I 103 (10 * d + k) else 0
theorem ml_at {I : rs_M} {d k : Nat} (h : k < 10) : ml I d k = I 102 (10 * d + k) := if_pos h
theorem mh_at {I : rs_M} {d k : Nat} (h : k < 10) : mh I d k = I 103 (10 * d + k) := if_pos h
def rm_cut (I : rs_M) (d : Nat) (c f t : Int) : rs_M := rs_up (rs_up (rs_up I 88 20 (if I 88 20 = 0 ∧ f ≤ I 102 (10 * d + c.toNat) ∧ I 103 (10 * d + c.toNat) ≤ t then 0 else 1)) 102 (10 * d + c.toNat) (max (I 102 (10 * d + c.toNat)) f)) 103 (10 * d + c.toNat) (min (I 103 (10 * d + c.toNat)) t)
theorem rm_ix {d : Nat} {c : Int} (hd : d ≤ 11) (hc : 0 ≤ c ∧ c < 10) : (10 * (d : Int) + c).toNat = 10 * d + c.toNat ∧ rs_R (10 * (d : Int)) ∧ rs_R (10 * (d : Int) + c) ∧ 0 ≤ 10 * (d : Int) + c ∧ 10 * (d : Int) + c < 10 * (d : Int) + 10 := by
  refine ⟨by omega, by unfold rs_R; omega, by unfold rs_R; omega, by omega, by omega⟩
set_option maxRecDepth 100000 in
set_option maxHeartbeats 2000000 in
theorem cm_cut {u e d : Nat} {c f t : Int} {I : rs_M} {K : rs_K} (he : 1 ≤ e) (hd : d ≤ 11) (hc : 0 ≤ c ∧ c < 10) (h1 : max (ml I d c.toNat) f ≤ min (mh I d c.toNat) t → K (some (.inl 1)) (rm_cut I d c f t)) (h0 : ¬ max (ml I d c.toNat) f ≤ min (mh I d c.toNat) t → K (some (.inl 0)) (rm_cut I d c f t)) : rs_run u e 76 0 (rs_en0 [.inr (.inr 88), .inl (d : Int), .inl c, .inl f, .inl t] 6) [] I K := by
  show rs_run u e 76 0 [some (.inr (.inr 88)), some (.inl (d : Int)), some (.inl c), some (.inl f), some (.inl t), none] [] I K
  have g88 : rs_sh 88 = (1, 8) := by decide +kernel
  have g102 : rs_sh 102 = (2, 120) := by decide +kernel
  have g103 : rs_sh 103 = (2, 120) := by decide +kernel
  have f88_18 : rs_rf 88 18 = 102 := by decide +kernel
  have f88_19 : rs_rf 88 19 = 103 := by decide +kernel
  obtain ⟨ix, x1, x2, x3, x4⟩ := rm_ix hd hc
  have x5 : 10 * (d : Int) + c < 120 := by omega
  have he0 : 0 < e := by omega
  rw [ml_at (by omega), mh_at (by omega)] at h1 h0
  unfold rm_cut at h1 h0
  -- changed is written
  have wr : ∀ b : Int, b = (if I 88 20 = 0 ∧ f ≤ I 102 (10 * d + c.toNat) ∧ I 103 (10 * d + c.toNat) ≤ t then 0 else 1) → rs_run u e 76 44 [some (.inr (.inr 88)), some (.inl (d : Int)), some (.inl c), some (.inl f), some (.inl t), some (.inl (10 * (d : Int) + c))] [.inl b, .inr (.inr 88)] I K := by
    intro b eb
    rw [← eb] at h1 h0
    have b01 : b = 0 ∨ b = 1 := by rw [eb]; split <;> omega
    rw [rs_x_76_44]
    simp only [rs_x_76_0, rs_x_76_2, rs_x_76_3, rs_x_76_4, rs_x_76_5, rs_x_76_6, rs_x_76_8, rs_x_76_9, rs_x_76_10, rs_x_76_13, rs_x_76_16, rs_x_76_17, rs_x_76_18, rs_x_76_21, rs_x_76_23, rs_x_76_24, rs_x_76_27, rs_x_76_29, rs_x_76_30, rs_x_76_33, rs_x_76_35, rs_x_76_36, rs_x_76_39, rs_x_76_40, rs_x_76_43, rs_x_76_47, rs_x_76_48, rs_x_76_51, rs_x_76_53, rs_x_76_54, rs_x_76_57, rs_x_76_59, rs_x_76_60, rs_x_76_61, rs_x_76_64, rs_x_76_65, rs_x_76_66, rs_x_76_69, rs_x_76_71, rs_x_76_72, rs_x_76_75, rs_x_76_77, rs_x_76_78, rs_x_76_80, rs_x_76_83, rs_x_76_84, rs_x_76_85, rs_x_76_88, rs_x_76_90, rs_x_76_91, rs_x_76_92, rs_x_76_95, rs_x_76_97, rs_x_76_98, rs_x_76_101, rs_x_76_102, rs_x_76_105, rs_x_76_106, rs_cn_n, rs_cn_i, rs_cn_r, rs_cn_t, rs_up_at, Nat.reduceAdd, Nat.reduceEqDiff, Nat.reduceSub, Int.reduceToNat, Int.reduceNeg, Int.reduceLE, Int.reduceLT, Int.reduceAdd, Int.reduceSub, Int.reduceMul, Int.add_sub_cancel, List.length_cons, List.length_nil, Nat.reduceLeDiff, Nat.reduceLT, Int.cast_ofNat_Int, true_and, and_true, and_self, false_and, and_false, ↓reduceIte, Nat.zero_le, or_true, true_or, false_or, or_false, Nat.sub_zero, Int.toNat_natCast, Nat.le_refl, implies_true, forall_const, Int.reduceEq, Nat.reduceMul, ne_eq, not_true_eq_false, not_false_eq_true, false_implies, true_implies, Nat.left_eq_add, Nat.add_eq_left, g88, g102, g103, f88_18, f88_19, ix, x1, x2, x3, x5, b01]
    refine ⟨he0, cm_greater ?_⟩
    simp only [rs_x_76_0, rs_x_76_2, rs_x_76_3, rs_x_76_4, rs_x_76_5, rs_x_76_6, rs_x_76_8, rs_x_76_9, rs_x_76_10, rs_x_76_13, rs_x_76_16, rs_x_76_17, rs_x_76_18, rs_x_76_21, rs_x_76_23, rs_x_76_24, rs_x_76_27, rs_x_76_29, rs_x_76_30, rs_x_76_33, rs_x_76_35, rs_x_76_36, rs_x_76_39, rs_x_76_40, rs_x_76_43, rs_x_76_47, rs_x_76_48, rs_x_76_51, rs_x_76_53, rs_x_76_54, rs_x_76_57, rs_x_76_59, rs_x_76_60, rs_x_76_61, rs_x_76_64, rs_x_76_65, rs_x_76_66, rs_x_76_69, rs_x_76_71, rs_x_76_72, rs_x_76_75, rs_x_76_77, rs_x_76_78, rs_x_76_80, rs_x_76_83, rs_x_76_84, rs_x_76_85, rs_x_76_88, rs_x_76_90, rs_x_76_91, rs_x_76_92, rs_x_76_95, rs_x_76_97, rs_x_76_98, rs_x_76_101, rs_x_76_102, rs_x_76_105, rs_x_76_106, rs_cn_n, rs_cn_i, rs_cn_r, rs_cn_t, rs_up_at, Nat.reduceAdd, Nat.reduceEqDiff, Nat.reduceSub, Int.reduceToNat, Int.reduceNeg, Int.reduceLE, Int.reduceLT, Int.reduceAdd, Int.reduceSub, Int.reduceMul, Int.add_sub_cancel, List.length_cons, List.length_nil, Nat.reduceLeDiff, Nat.reduceLT, Int.cast_ofNat_Int, true_and, and_true, and_self, false_and, and_false, ↓reduceIte, Nat.zero_le, or_true, true_or, false_or, or_false, Nat.sub_zero, Int.toNat_natCast, Nat.le_refl, implies_true, forall_const, Int.reduceEq, Nat.reduceMul, ne_eq, not_true_eq_false, not_false_eq_true, false_implies, true_implies, Nat.left_eq_add, Nat.add_eq_left, g88, g102, g103, f88_18, f88_19, ix, x1, x2, x3, x5, b01]
    refine ⟨he0, cm_lesser ?_⟩
    simp only [rs_x_76_0, rs_x_76_2, rs_x_76_3, rs_x_76_4, rs_x_76_5, rs_x_76_6, rs_x_76_8, rs_x_76_9, rs_x_76_10, rs_x_76_13, rs_x_76_16, rs_x_76_17, rs_x_76_18, rs_x_76_21, rs_x_76_23, rs_x_76_24, rs_x_76_27, rs_x_76_29, rs_x_76_30, rs_x_76_33, rs_x_76_35, rs_x_76_36, rs_x_76_39, rs_x_76_40, rs_x_76_43, rs_x_76_47, rs_x_76_48, rs_x_76_51, rs_x_76_53, rs_x_76_54, rs_x_76_57, rs_x_76_59, rs_x_76_60, rs_x_76_61, rs_x_76_64, rs_x_76_65, rs_x_76_66, rs_x_76_69, rs_x_76_71, rs_x_76_72, rs_x_76_75, rs_x_76_77, rs_x_76_78, rs_x_76_80, rs_x_76_83, rs_x_76_84, rs_x_76_85, rs_x_76_88, rs_x_76_90, rs_x_76_91, rs_x_76_92, rs_x_76_95, rs_x_76_97, rs_x_76_98, rs_x_76_101, rs_x_76_102, rs_x_76_105, rs_x_76_106, rs_cn_n, rs_cn_i, rs_cn_r, rs_cn_t, rs_up_at, Nat.reduceAdd, Nat.reduceEqDiff, Nat.reduceSub, Int.reduceToNat, Int.reduceNeg, Int.reduceLE, Int.reduceLT, Int.reduceAdd, Int.reduceSub, Int.reduceMul, Int.add_sub_cancel, List.length_cons, List.length_nil, Nat.reduceLeDiff, Nat.reduceLT, Int.cast_ofNat_Int, true_and, and_true, and_self, false_and, and_false, ↓reduceIte, Nat.zero_le, or_true, true_or, false_or, or_false, Nat.sub_zero, Int.toNat_natCast, Nat.le_refl, implies_true, forall_const, Int.reduceEq, Nat.reduceMul, ne_eq, not_true_eq_false, not_false_eq_true, false_implies, true_implies, Nat.left_eq_add, Nat.add_eq_left, g88, g102, g103, f88_18, f88_19, ix, x1, x2, x3, x5, b01]
    exact ⟨fun g => h0 (by omega), fun g => h1 (by omega)⟩
  by_cases g1 : I 88 20 = 0
  · by_cases g2 : f ≤ I 102 (10 * d + c.toNat)
    · have g2' : ¬ I 102 (10 * d + c.toNat) < f := by omega
      by_cases g3 : I 103 (10 * d + c.toNat) ≤ t
      · have w := wr 0 (by rw [if_pos ⟨g1, g2, g3⟩])
        simp only [rs_x_76_0, rs_x_76_2, rs_x_76_3, rs_x_76_4, rs_x_76_5, rs_x_76_6, rs_x_76_8, rs_x_76_9, rs_x_76_10, rs_x_76_13, rs_x_76_16, rs_x_76_17, rs_x_76_18, rs_x_76_21, rs_x_76_23, rs_x_76_24, rs_x_76_27, rs_x_76_29, rs_x_76_30, rs_x_76_33, rs_x_76_35, rs_x_76_36, rs_x_76_39, rs_x_76_40, rs_x_76_43, rs_x_76_47, rs_x_76_48, rs_x_76_51, rs_x_76_53, rs_x_76_54, rs_x_76_57, rs_x_76_59, rs_x_76_60, rs_x_76_61, rs_x_76_64, rs_x_76_65, rs_x_76_66, rs_x_76_69, rs_x_76_71, rs_x_76_72, rs_x_76_75, rs_x_76_77, rs_x_76_78, rs_x_76_80, rs_x_76_83, rs_x_76_84, rs_x_76_85, rs_x_76_88, rs_x_76_90, rs_x_76_91, rs_x_76_92, rs_x_76_95, rs_x_76_97, rs_x_76_98, rs_x_76_101, rs_x_76_102, rs_x_76_105, rs_x_76_106, rs_cn_n, rs_cn_i, rs_cn_r, rs_cn_t, rs_up_at, Nat.reduceAdd, Nat.reduceEqDiff, Nat.reduceSub, Int.reduceToNat, Int.reduceNeg, Int.reduceLE, Int.reduceLT, Int.reduceAdd, Int.reduceSub, Int.reduceMul, Int.add_sub_cancel, List.length_cons, List.length_nil, Nat.reduceLeDiff, Nat.reduceLT, Int.cast_ofNat_Int, true_and, and_true, and_self, false_and, and_false, ↓reduceIte, Nat.zero_le, or_true, true_or, false_or, or_false, Nat.sub_zero, Int.toNat_natCast, Nat.le_refl, implies_true, forall_const, Int.reduceEq, Nat.reduceMul, ne_eq, not_true_eq_false, not_false_eq_true, false_implies, true_implies, Nat.left_eq_add, Nat.add_eq_left, g88, g102, g103, f88_18, f88_19, ix, x1, x2, x3, x5, g1, g2', g3]
        exact w
      · have w := wr 1 (by rw [if_neg (fun g => g3 g.2.2)])
        simp only [rs_x_76_0, rs_x_76_2, rs_x_76_3, rs_x_76_4, rs_x_76_5, rs_x_76_6, rs_x_76_8, rs_x_76_9, rs_x_76_10, rs_x_76_13, rs_x_76_16, rs_x_76_17, rs_x_76_18, rs_x_76_21, rs_x_76_23, rs_x_76_24, rs_x_76_27, rs_x_76_29, rs_x_76_30, rs_x_76_33, rs_x_76_35, rs_x_76_36, rs_x_76_39, rs_x_76_40, rs_x_76_43, rs_x_76_47, rs_x_76_48, rs_x_76_51, rs_x_76_53, rs_x_76_54, rs_x_76_57, rs_x_76_59, rs_x_76_60, rs_x_76_61, rs_x_76_64, rs_x_76_65, rs_x_76_66, rs_x_76_69, rs_x_76_71, rs_x_76_72, rs_x_76_75, rs_x_76_77, rs_x_76_78, rs_x_76_80, rs_x_76_83, rs_x_76_84, rs_x_76_85, rs_x_76_88, rs_x_76_90, rs_x_76_91, rs_x_76_92, rs_x_76_95, rs_x_76_97, rs_x_76_98, rs_x_76_101, rs_x_76_102, rs_x_76_105, rs_x_76_106, rs_cn_n, rs_cn_i, rs_cn_r, rs_cn_t, rs_up_at, Nat.reduceAdd, Nat.reduceEqDiff, Nat.reduceSub, Int.reduceToNat, Int.reduceNeg, Int.reduceLE, Int.reduceLT, Int.reduceAdd, Int.reduceSub, Int.reduceMul, Int.add_sub_cancel, List.length_cons, List.length_nil, Nat.reduceLeDiff, Nat.reduceLT, Int.cast_ofNat_Int, true_and, and_true, and_self, false_and, and_false, ↓reduceIte, Nat.zero_le, or_true, true_or, false_or, or_false, Nat.sub_zero, Int.toNat_natCast, Nat.le_refl, implies_true, forall_const, Int.reduceEq, Nat.reduceMul, ne_eq, not_true_eq_false, not_false_eq_true, false_implies, true_implies, Nat.left_eq_add, Nat.add_eq_left, g88, g102, g103, f88_18, f88_19, ix, x1, x2, x3, x5, g1, g2', g3]
        exact w
    · have g2' : I 102 (10 * d + c.toNat) < f := by omega
      have w := wr 1 (by rw [if_neg (fun g => g2 g.2.1)])
      simp only [rs_x_76_0, rs_x_76_2, rs_x_76_3, rs_x_76_4, rs_x_76_5, rs_x_76_6, rs_x_76_8, rs_x_76_9, rs_x_76_10, rs_x_76_13, rs_x_76_16, rs_x_76_17, rs_x_76_18, rs_x_76_21, rs_x_76_23, rs_x_76_24, rs_x_76_27, rs_x_76_29, rs_x_76_30, rs_x_76_33, rs_x_76_35, rs_x_76_36, rs_x_76_39, rs_x_76_40, rs_x_76_43, rs_x_76_47, rs_x_76_48, rs_x_76_51, rs_x_76_53, rs_x_76_54, rs_x_76_57, rs_x_76_59, rs_x_76_60, rs_x_76_61, rs_x_76_64, rs_x_76_65, rs_x_76_66, rs_x_76_69, rs_x_76_71, rs_x_76_72, rs_x_76_75, rs_x_76_77, rs_x_76_78, rs_x_76_80, rs_x_76_83, rs_x_76_84, rs_x_76_85, rs_x_76_88, rs_x_76_90, rs_x_76_91, rs_x_76_92, rs_x_76_95, rs_x_76_97, rs_x_76_98, rs_x_76_101, rs_x_76_102, rs_x_76_105, rs_x_76_106, rs_cn_n, rs_cn_i, rs_cn_r, rs_cn_t, rs_up_at, Nat.reduceAdd, Nat.reduceEqDiff, Nat.reduceSub, Int.reduceToNat, Int.reduceNeg, Int.reduceLE, Int.reduceLT, Int.reduceAdd, Int.reduceSub, Int.reduceMul, Int.add_sub_cancel, List.length_cons, List.length_nil, Nat.reduceLeDiff, Nat.reduceLT, Int.cast_ofNat_Int, true_and, and_true, and_self, false_and, and_false, ↓reduceIte, Nat.zero_le, or_true, true_or, false_or, or_false, Nat.sub_zero, Int.toNat_natCast, Nat.le_refl, implies_true, forall_const, Int.reduceEq, Nat.reduceMul, ne_eq, not_true_eq_false, not_false_eq_true, false_implies, true_implies, Nat.left_eq_add, Nat.add_eq_left, g88, g102, g103, f88_18, f88_19, ix, x1, x2, x3, x5, g1, g2']
      exact w
  · have w := wr 1 (by rw [if_neg (fun g => g1 g.1)])
    simp only [rs_x_76_0, rs_x_76_2, rs_x_76_3, rs_x_76_4, rs_x_76_5, rs_x_76_6, rs_x_76_8, rs_x_76_9, rs_x_76_10, rs_x_76_13, rs_x_76_16, rs_x_76_17, rs_x_76_18, rs_x_76_21, rs_x_76_23, rs_x_76_24, rs_x_76_27, rs_x_76_29, rs_x_76_30, rs_x_76_33, rs_x_76_35, rs_x_76_36, rs_x_76_39, rs_x_76_40, rs_x_76_43, rs_x_76_47, rs_x_76_48, rs_x_76_51, rs_x_76_53, rs_x_76_54, rs_x_76_57, rs_x_76_59, rs_x_76_60, rs_x_76_61, rs_x_76_64, rs_x_76_65, rs_x_76_66, rs_x_76_69, rs_x_76_71, rs_x_76_72, rs_x_76_75, rs_x_76_77, rs_x_76_78, rs_x_76_80, rs_x_76_83, rs_x_76_84, rs_x_76_85, rs_x_76_88, rs_x_76_90, rs_x_76_91, rs_x_76_92, rs_x_76_95, rs_x_76_97, rs_x_76_98, rs_x_76_101, rs_x_76_102, rs_x_76_105, rs_x_76_106, rs_cn_n, rs_cn_i, rs_cn_r, rs_cn_t, rs_up_at, Nat.reduceAdd, Nat.reduceEqDiff, Nat.reduceSub, Int.reduceToNat, Int.reduceNeg, Int.reduceLE, Int.reduceLT, Int.reduceAdd, Int.reduceSub, Int.reduceMul, Int.add_sub_cancel, List.length_cons, List.length_nil, Nat.reduceLeDiff, Nat.reduceLT, Int.cast_ofNat_Int, true_and, and_true, and_self, false_and, and_false, ↓reduceIte, Nat.zero_le, or_true, true_or, false_or, or_false, Nat.sub_zero, Int.toNat_natCast, Nat.le_refl, implies_true, forall_const, Int.reduceEq, Nat.reduceMul, ne_eq, not_true_eq_false, not_false_eq_true, false_implies, true_implies, Nat.left_eq_add, Nat.add_eq_left, g88, g102, g103, f88_18, f88_19, ix, x1, x2, x3, x5, g1]
    exact w
theorem rm_cut_lo {I : rs_M} {d : Nat} {c f t : Int} (hc : 0 ≤ c ∧ c < 10) (j : Nat) : ml (rm_cut I d c f t) d j = if j = c.toNat then max (ml I d j) f else ml I d j := by
  unfold ml rm_cut
  by_cases h : j < 10
  · simp only [if_pos h, rs_up_at, Nat.reduceEqDiff, false_and, ↓reduceIte, true_and, Nat.add_left_cancel_iff]
    split
    · rename_i g; rw [g]
    · rfl
  · rw [if_neg h, if_neg h]
    split
    · omega
    · rfl
theorem rm_cut_hi {I : rs_M} {d : Nat} {c f t : Int} (hc : 0 ≤ c ∧ c < 10) (j : Nat) : mh (rm_cut I d c f t) d j = if j = c.toNat then min (mh I d j) t else mh I d j := by
  unfold mh rm_cut
  by_cases h : j < 10
  · simp only [if_pos h, rs_up_at, Nat.reduceEqDiff, false_and, ↓reduceIte, true_and, Nat.add_left_cancel_iff]
    split
    · rename_i g; rw [g]
    · rfl
  · rw [if_neg h, if_neg h]
    split
    · omega
    · rfl
def rm_sm (d : Nat) (I J : rs_M) (j : Nat) : Prop := ml J d j = ml I d j ∧ mh J d j = mh I d j
/-- what stands outside the level d and the working fields -/
def rm_fr (d : Nat) (I J : rs_M) : Prop := (∀ a j, a ≠ 102 → a ≠ 103 → a ≠ 104 → (a = 88 → j < 20 ∨ 26 < j) → J a j = I a j) ∧ ∀ i, (i < 10 * d ∨ 10 * d + 10 ≤ i) → J 102 i = I 102 i ∧ J 103 i = I 103 i
theorem rm_fr_rf {d : Nat} {I : rs_M} : rm_fr d I I := ⟨fun _ _ _ _ _ _ => rfl, fun _ _ => ⟨rfl, rfl⟩⟩
theorem rm_fr_tr {d : Nat} {I J L : rs_M} (h : rm_fr d I J) (g : rm_fr d J L) : rm_fr d I L := ⟨fun a j h1 h2 h3 h4 => (g.1 a j h1 h2 h3 h4).trans (h.1 a j h1 h2 h3 h4), fun i hi => ⟨(g.2 i hi).1.trans (h.2 i hi).1, (g.2 i hi).2.trans (h.2 i hi).2⟩⟩
def rm_tr (d : Nat) (I J : rs_M) : Prop := rm_fr d I J ∧ (∀ j, ml I d j ≤ ml J d j ∧ mh J d j ≤ mh I d j) ∧ (J 88 20 = 0 ↔ I 88 20 = 0 ∧ ∀ j, rm_sm d I J j)
theorem rm_tr_rf {d : Nat} {I : rs_M} : rm_tr d I I := ⟨rm_fr_rf, fun _ => ⟨Int.le_refl _, Int.le_refl _⟩, ⟨fun h => ⟨h, fun _ => ⟨rfl, rfl⟩⟩, fun h => h.1⟩⟩
theorem rm_sm_tt {d : Nat} {I J L : rs_M} (h : rm_tr d I J) (g : rm_tr d J L) (j : Nat) : rm_sm d I L j ↔ rm_sm d I J j ∧ rm_sm d J L j := by
  unfold rm_sm
  have := h.2.1 j
  have := g.2.1 j
  omega
theorem rm_tr_tr {d : Nat} {I J L : rs_M} (h : rm_tr d I J) (g : rm_tr d J L) : rm_tr d I L := by
  have hs := rm_sm_tt h g
  refine ⟨rm_fr_tr h.1 g.1, fun j => ?_, ?_⟩
  · have := h.2.1 j
    have := g.2.1 j
    omega
  · rw [g.2.2, h.2.2, and_assoc]
    refine and_congr_right fun _ => ?_
    exact ⟨fun ⟨a, b⟩ j => (hs j).mpr ⟨a j, b j⟩, fun a => ⟨fun j => ((hs j).mp (a j)).1, fun j => ((hs j).mp (a j)).2⟩⟩
theorem rm_tr_cut {I : rs_M} {d : Nat} {c f t : Int} (hc : 0 ≤ c ∧ c < 10) : rm_tr d I (rm_cut I d c f t) := by
  refine ⟨⟨fun a j h1 h2 h3 h4 => ?_, fun i hi => ?_⟩, fun j => ?_, ?_⟩
  · unfold rm_cut
    simp only [rs_up_at]
    rw [if_neg (fun g => h2 g.1), if_neg (fun g => h1 g.1), if_neg (fun g => by have := h4 g.1; omega)]
  · unfold rm_cut
    simp only [rs_up_at, Nat.reduceEqDiff, false_and, ↓reduceIte, true_and]
    rw [if_neg (by omega), if_neg (by omega)]
    exact ⟨rfl, rfl⟩
  · rw [rm_cut_lo hc, rm_cut_hi hc]
    split <;> omega
  · have e : rm_cut I d c f t 88 20 = if I 88 20 = 0 ∧ f ≤ I 102 (10 * d + c.toNat) ∧ I 103 (10 * d + c.toNat) ≤ t then 0 else 1 := by
      unfold rm_cut
      simp only [rs_up_at, Nat.reduceEqDiff, false_and, ↓reduceIte, true_and, and_self]
    rw [e]
    have l1 := ml_at (I := I) (d := d) (k := c.toNat) (by omega)
    have l2 := mh_at (I := I) (d := d) (k := c.toNat) (by omega)
    constructor
    · intro h
      split at h
      · rename_i g
        refine ⟨g.1, fun j => ?_⟩
        unfold rm_sm
        rw [rm_cut_lo hc, rm_cut_hi hc]
        by_cases ej : j = c.toNat
        · rw [if_pos ej, if_pos ej, ej]; omega
        · rw [if_neg ej, if_neg ej]; exact ⟨rfl, rfl⟩
      · omega
    · rintro ⟨h1, h2⟩
      have := h2 c.toNat
      unfold rm_sm at this
      rw [rm_cut_lo hc, rm_cut_hi hc, if_pos rfl, if_pos rfl] at this
      rw [if_pos ⟨h1, by omega⟩]
/-- cuts that keep the solutions -/
def rm_c (d : Nat) (S : Nat → Prop) (Q : (Nat → Int) → Prop) (I J : rs_M) : Prop := rm_tr d I J ∧ bx_snd S Q (ml I d) (mh I d) (ml J d) (mh J d) ∧ ∀ j, ¬ S j → rm_sm d I J j
theorem rm_c_rf {d : Nat} {S : Nat → Prop} {Q : (Nat → Int) → Prop} {I : rs_M} : rm_c d S Q I I := ⟨rm_tr_rf, fun _ h _ => h, fun _ _ => ⟨rfl, rfl⟩⟩
theorem rm_c_cut {d : Nat} {S : Nat → Prop} {Q : (Nat → Int) → Prop} {I J : rs_M} {c f t : Int} (hc : 0 ≤ c ∧ c < 10) (h : rm_c d S Q I J) (hS : S c.toNat) (hs : ∀ x, bx_in S (ml I d) (mh I d) x → bx_in S (ml J d) (mh J d) x → Q x → f ≤ x c.toNat ∧ x c.toNat ≤ t) : rm_c d S Q I (rm_cut J d c f t) := by
  obtain ⟨h1, h2, h3⟩ := h
  refine ⟨rm_tr_tr h1 (rm_tr_cut hc), fun x hx hQ j hj => ?_, fun j hj => ?_⟩
  · have a := h2 x hx hQ
    have b := hs x hx a hQ
    have := a j hj
    rw [rm_cut_lo hc, rm_cut_hi hc]
    split
    · rename_i g
      subst g
      omega
    · exact this
  · have := h3 j hj
    have ne : ¬ j = c.toNat := fun g => hj (by rw [g]; exact hS)
    unfold rm_sm at this ⊢
    rw [rm_cut_lo hc, rm_cut_hi hc, if_neg ne, if_neg ne]
    exact this
theorem rm_c_no {d : Nat} {S : Nat → Prop} {Q : (Nat → Int) → Prop} {I J : rs_M} {c f t : Int} (h : rm_c d S Q I J) (hS : S c.toNat) (hs : ∀ x, bx_in S (ml I d) (mh I d) x → bx_in S (ml J d) (mh J d) x → Q x → f ≤ x c.toNat ∧ x c.toNat ≤ t) (hn : ¬ max (ml J d c.toNat) f ≤ min (mh J d c.toNat) t) : bx_no S Q (ml I d) (mh I d) := fun x hx hQ => by
  have a := h.2.1 x hx hQ
  have b := hs x hx a hQ
  have := a _ hS
  omega
/-- what a narrowing of the reference has done -/
def rm_nar (d : Nat) (S : Nat → Prop) (Q : (Nat → Int) → Prop) (I J : rs_M) (y : Int) : Prop := rm_tr d I J ∧ ((y = 0 ∧ bx_no S Q (ml I d) (mh I d)) ∨ (y = 1 ∧ (∀ j, S j → ml J d j ≤ mh J d j) ∧ bx_snd S Q (ml I d) (mh I d) (ml J d) (mh J d) ∧ (∀ j, ¬ S j → rm_sm d I J j) ∧ ((∀ j, rm_sm d I J j) → bx_sup S Q (ml J d) (mh J d))))
theorem rm_nar_eq {d : Nat} {S S' : Nat → Prop} {Q Q' : (Nat → Int) → Prop} {I J : rs_M} {y : Int} (h : rm_nar d S Q I J y) (e1 : S = S') (e2 : Q = Q') : rm_nar d S' Q' I J y := by rw [← e1, ← e2]; exact h
theorem rm_nar_no {d : Nat} {S : Nat → Prop} {Q : (Nat → Int) → Prop} {I J : rs_M} (h : rm_tr d I J) (hn : bx_no S Q (ml I d) (mh I d)) : rm_nar d S Q I J 0 := ⟨h, Or.inl ⟨rfl, hn⟩⟩
theorem rm_nar_c {d : Nat} {S : Nat → Prop} {Q : (Nat → Int) → Prop} {I J : rs_M} (h : rm_c d S Q I J) (hv : ∀ j, S j → ml J d j ≤ mh J d j) (hp : (∀ j, rm_sm d I J j) → bx_sup S Q (ml I d) (mh I d)) : rm_nar d S Q I J 1 := ⟨h.1, Or.inr ⟨rfl, hv, h.2.1, h.2.2, fun g => bx_sup_eq (fun j _ => g j) (hp g)⟩⟩
