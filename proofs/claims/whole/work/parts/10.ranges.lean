theorem rs_up_at (I : rs_M) (o k : Nat) (v : Int) (a j : Nat) : rs_up I o k v a j = if a = o ∧ j = k then v else I a j := rfl
theorem rs_cp_at (I : rs_M) (s d sp dp n a j : Nat) : rs_cp I s d sp dp n a j = if a = d ∧ dp ≤ j ∧ j < dp + n then I s (sp + (j - dp)) else I a j := rfl
/-- q is a Ranges object: its arrays follow it -/
def rs_isR (q : Nat) : Prop := rs_sh q = (1, 2) ∧ rs_rf q 0 = q + 1 ∧ rs_rf q 1 = q + 2 ∧ rs_sh (q + 1) = (2, 10) ∧ rs_sh (q + 2) = (2, 10)
set_option maxRecDepth 100000 in
set_option maxHeartbeats 2000000 in
theorem ct_width {u d q : Nat} {c : Int} {I : rs_M} {K : rs_K} (hq : rs_isR q) (hc : 0 ≤ c ∧ c < 10) (hR : rs_R (I (q + 2) c.toNat - I (q + 1) c.toNat)) (hk : K (some (.inl (I (q + 2) c.toNat - I (q + 1) c.toNat))) I) : rs_run u d 22 0 (rs_en0 [.inr (.inr q), .inl c] 2) [] I K := by
  obtain ⟨h1, h2, h3, h4, h5⟩ := hq
  show rs_run u d 22 0 [some (.inr (.inr q)), some (.inl c)] [] I K
  simp only [rs_x_22_0, rs_x_22_1, rs_x_22_4, rs_x_22_5, rs_x_22_6, rs_x_22_7, rs_x_22_10, rs_x_22_11, rs_x_22_12, rs_x_22_13, rs_cn_n, rs_cn_i, rs_cn_r, rs_cn_t, rs_up_at, Nat.reduceAdd, Nat.reduceEqDiff, Nat.reduceSub, Int.reduceToNat, Int.reduceNeg, Int.reduceLE, Int.reduceLT, Int.reduceAdd, Int.reduceSub, Int.reduceMul, Int.add_sub_cancel, List.length_cons, List.length_nil, Nat.reduceLeDiff, Nat.reduceLT, Int.cast_ofNat_Int, true_and, and_true, and_self, false_and, and_false, ↓reduceIte, Nat.zero_le, or_true, true_or, false_or, or_false, Nat.sub_zero, Int.toNat_natCast, Nat.le_refl, implies_true, forall_const, Int.reduceEq, Nat.reduceMul, ne_eq, not_true_eq_false, not_false_eq_true, false_implies, true_implies, Nat.left_eq_add, Nat.add_eq_left, h1, h2, h3, h4, h5]
  exact ⟨hc, hc, hR, hk⟩
def rg_raise (I : rs_M) (q : Nat) (c v : Int) : rs_M := if v ≤ I (q + 1) c.toNat then I else rs_up (rs_up (rs_up I (q + 1) c.toNat v) q 2 (rs_or (I q 2) (rs_shl 1 c))) q 3 (if I q 3 = 0 ∧ v ≤ I (q + 2) c.toNat then 0 else 1)
def rg_lower (I : rs_M) (q : Nat) (c v : Int) : rs_M := if I (q + 2) c.toNat ≤ v then I else rs_up (rs_up (rs_up I (q + 2) c.toNat v) q 2 (rs_or (I q 2) (rs_shl 1 c))) q 3 (if I q 3 = 0 ∧ I (q + 1) c.toNat ≤ v then 0 else 1)
set_option maxRecDepth 100000 in
set_option maxHeartbeats 2000000 in
theorem ct_raise {u d q : Nat} {c v : Int} {I : rs_M} {K : rs_K} (hq : rs_isR q) (hc : 0 ≤ c ∧ c < 10) (hk : K none (rg_raise I q c v)) : rs_run u d 24 0 (rs_en0 [.inr (.inr q), .inl c, .inl v] 3) [] I K := by
  obtain ⟨h1, h2, h3, h4, h5⟩ := hq
  show rs_run u d 24 0 [some (.inr (.inr q)), some (.inl c), some (.inl v)] [] I K
  simp only [rs_x_24_0, rs_x_24_1, rs_x_24_2, rs_x_24_5, rs_x_24_6, rs_x_24_7, rs_x_24_10, rs_x_24_11, rs_x_24_14, rs_x_24_15, rs_x_24_16, rs_x_24_17, rs_x_24_18, rs_x_24_19, rs_x_24_22, rs_x_24_23, rs_x_24_24, rs_x_24_25, rs_x_24_26, rs_x_24_29, rs_x_24_30, rs_x_24_31, rs_x_24_34, rs_x_24_37, rs_x_24_38, rs_x_24_39, rs_x_24_42, rs_x_24_43, rs_x_24_44, rs_x_24_47, rs_x_24_48, rs_x_24_51, rs_x_24_52, rs_x_24_55, rs_cn_n, rs_cn_i, rs_cn_r, rs_cn_t, rs_up_at, Nat.reduceAdd, Nat.reduceEqDiff, Nat.reduceSub, Int.reduceToNat, Int.reduceNeg, Int.reduceLE, Int.reduceLT, Int.reduceAdd, Int.reduceSub, Int.reduceMul, Int.add_sub_cancel, List.length_cons, List.length_nil, Nat.reduceLeDiff, Nat.reduceLT, Int.cast_ofNat_Int, true_and, and_true, and_self, false_and, and_false, ↓reduceIte, Nat.zero_le, or_true, true_or, false_or, or_false, Nat.sub_zero, Int.toNat_natCast, Nat.le_refl, implies_true, forall_const, Int.reduceEq, Nat.reduceMul, ne_eq, not_true_eq_false, not_false_eq_true, false_implies, true_implies, Nat.left_eq_add, Nat.add_eq_left, h1, h2, h3, h4, h5]
  unfold rg_raise at hk
  have e1 : ∀ x, rs_up I (q + 1) c.toNat v q x = I q x := fun x => by simp [rs_up_at]
  have e2 : ∀ x, rs_up (rs_up I (q + 1) c.toNat v) q 2 x q 3 = I q 3 := fun x => by simp [rs_up_at]
  have e3 : ∀ x, rs_up (rs_up I (q + 1) c.toNat v) q 2 x (q + 2) c.toNat = I (q + 2) c.toNat := fun x => by simp [rs_up_at]
  refine ⟨hc, fun h => ?_, fun h => ?_⟩
  · rwa [if_pos h] at hk
  · rw [if_neg h] at hk
    refine ⟨hc, fun h6 => ?_, fun h6 => ⟨hc, fun h7 => ?_, fun h7 => ?_⟩⟩
    · rwa [if_neg (fun q => h6 q.1)] at hk
    · rwa [if_pos ⟨h6, h7⟩] at hk
    · rwa [if_neg (fun q => h7 q.2)] at hk
set_option maxRecDepth 100000 in
set_option maxHeartbeats 2000000 in
theorem ct_lower {u d q : Nat} {c v : Int} {I : rs_M} {K : rs_K} (hq : rs_isR q) (hc : 0 ≤ c ∧ c < 10) (hk : K none (rg_lower I q c v)) : rs_run u d 25 0 (rs_en0 [.inr (.inr q), .inl c, .inl v] 3) [] I K := by
  obtain ⟨h1, h2, h3, h4, h5⟩ := hq
  show rs_run u d 25 0 [some (.inr (.inr q)), some (.inl c), some (.inl v)] [] I K
  simp only [rs_x_25_0, rs_x_25_1, rs_x_25_2, rs_x_25_5, rs_x_25_6, rs_x_25_7, rs_x_25_10, rs_x_25_11, rs_x_25_14, rs_x_25_15, rs_x_25_16, rs_x_25_17, rs_x_25_18, rs_x_25_19, rs_x_25_22, rs_x_25_23, rs_x_25_24, rs_x_25_25, rs_x_25_26, rs_x_25_29, rs_x_25_30, rs_x_25_31, rs_x_25_34, rs_x_25_37, rs_x_25_38, rs_x_25_39, rs_x_25_42, rs_x_25_43, rs_x_25_44, rs_x_25_47, rs_x_25_48, rs_x_25_51, rs_x_25_52, rs_x_25_55, rs_cn_n, rs_cn_i, rs_cn_r, rs_cn_t, rs_up_at, Nat.reduceAdd, Nat.reduceEqDiff, Nat.reduceSub, Int.reduceToNat, Int.reduceNeg, Int.reduceLE, Int.reduceLT, Int.reduceAdd, Int.reduceSub, Int.reduceMul, Int.add_sub_cancel, List.length_cons, List.length_nil, Nat.reduceLeDiff, Nat.reduceLT, Int.cast_ofNat_Int, true_and, and_true, and_self, false_and, and_false, ↓reduceIte, Nat.zero_le, or_true, true_or, false_or, or_false, Nat.sub_zero, Int.toNat_natCast, Nat.le_refl, implies_true, forall_const, Int.reduceEq, Nat.reduceMul, ne_eq, not_true_eq_false, not_false_eq_true, false_implies, true_implies, Nat.left_eq_add, Nat.add_eq_left, h1, h2, h3, h4, h5]
  unfold rg_lower at hk
  have e1 : ∀ x, rs_up I (q + 2) c.toNat v q x = I q x := fun x => by simp [rs_up_at]
  have e2 : ∀ x, rs_up (rs_up I (q + 2) c.toNat v) q 2 x q 3 = I q 3 := fun x => by simp [rs_up_at]
  have e3 : ∀ x, rs_up (rs_up I (q + 2) c.toNat v) q 2 x (q + 1) c.toNat = I (q + 1) c.toNat := fun x => by simp [rs_up_at]
  refine ⟨hc, fun h => ?_, fun h => ?_⟩
  · rwa [if_pos h] at hk
  · rw [if_neg h] at hk
    refine ⟨hc, fun h6 => ?_, fun h6 => ⟨hc, fun h7 => ?_, fun h7 => ?_⟩⟩
    · rwa [if_neg (fun q => h6 q.1)] at hk
    · rwa [if_pos ⟨h6, h7⟩] at hk
    · rwa [if_neg (fun q => h7 q.2)] at hk
set_option maxRecDepth 100000 in
set_option maxHeartbeats 2000000 in
theorem ct_keep {u d q : Nat} {c v w : Int} {I : rs_M} {K : rs_K} (hd : 1 ≤ d) (hq : rs_isR q) (hc : 0 ≤ c ∧ c < 10) (hk : K none (rg_lower (rg_raise I q c v) q c w)) : rs_run u d 26 0 (rs_en0 [.inr (.inr q), .inl c, .inl v, .inl w] 4) [] I K := by
  have hq' := hq
  obtain ⟨h1, h2, h3, h4, h5⟩ := hq
  show rs_run u d 26 0 [some (.inr (.inr q)), some (.inl c), some (.inl v), some (.inl w)] [] I K
  simp only [rs_x_26_0, rs_x_26_1, rs_x_26_2, rs_x_26_3, rs_x_26_6, rs_x_26_7, rs_x_26_8, rs_x_26_9, rs_x_26_12, rs_cn_n, rs_cn_i, rs_cn_r, rs_cn_t, rs_up_at, Nat.reduceAdd, Nat.reduceEqDiff, Nat.reduceSub, Int.reduceToNat, Int.reduceNeg, Int.reduceLE, Int.reduceLT, Int.reduceAdd, Int.reduceSub, Int.reduceMul, Int.add_sub_cancel, List.length_cons, List.length_nil, Nat.reduceLeDiff, Nat.reduceLT, Int.cast_ofNat_Int, true_and, and_true, and_self, false_and, and_false, ↓reduceIte, Nat.zero_le, or_true, true_or, false_or, or_false, Nat.sub_zero, Int.toNat_natCast, Nat.le_refl, implies_true, forall_const, Int.reduceEq, Nat.reduceMul, ne_eq, not_true_eq_false, not_false_eq_true, false_implies, true_implies, Nat.left_eq_add, Nat.add_eq_left, h1, h2, h3, h4, h5]
  refine ⟨hd, ct_raise hq' hc ?_⟩
  simp only [rs_x_26_0, rs_x_26_1, rs_x_26_2, rs_x_26_3, rs_x_26_6, rs_x_26_7, rs_x_26_8, rs_x_26_9, rs_x_26_12, rs_cn_n, rs_cn_i, rs_cn_r, rs_cn_t, rs_up_at, Nat.reduceAdd, Nat.reduceEqDiff, Nat.reduceSub, Int.reduceToNat, Int.reduceNeg, Int.reduceLE, Int.reduceLT, Int.reduceAdd, Int.reduceSub, Int.reduceMul, Int.add_sub_cancel, List.length_cons, List.length_nil, Nat.reduceLeDiff, Nat.reduceLT, Int.cast_ofNat_Int, true_and, and_true, and_self, false_and, and_false, ↓reduceIte, Nat.zero_le, or_true, true_or, false_or, or_false, Nat.sub_zero, Int.toNat_natCast, Nat.le_refl, implies_true, forall_const, Int.reduceEq, Nat.reduceMul, ne_eq, not_true_eq_false, not_false_eq_true, false_implies, true_implies, Nat.left_eq_add, Nat.add_eq_left, h1, h2, h3, h4, h5]
  refine ⟨hd, ct_lower hq' hc ?_⟩
  simp only [rs_x_26_0, rs_x_26_1, rs_x_26_2, rs_x_26_3, rs_x_26_6, rs_x_26_7, rs_x_26_8, rs_x_26_9, rs_x_26_12, rs_cn_n, rs_cn_i, rs_cn_r, rs_cn_t, rs_up_at, Nat.reduceAdd, Nat.reduceEqDiff, Nat.reduceSub, Int.reduceToNat, Int.reduceNeg, Int.reduceLE, Int.reduceLT, Int.reduceAdd, Int.reduceSub, Int.reduceMul, Int.add_sub_cancel, List.length_cons, List.length_nil, Nat.reduceLeDiff, Nat.reduceLT, Int.cast_ofNat_Int, true_and, and_true, and_self, false_and, and_false, ↓reduceIte, Nat.zero_le, or_true, true_or, false_or, or_false, Nat.sub_zero, Int.toNat_natCast, Nat.le_refl, implies_true, forall_const, Int.reduceEq, Nat.reduceMul, ne_eq, not_true_eq_false, not_false_eq_true, false_implies, true_implies, Nat.left_eq_add, Nat.add_eq_left, h1, h2, h3, h4, h5]
  exact hk
set_option maxRecDepth 100000 in
set_option maxHeartbeats 2000000 in
theorem ct_bound {u d q : Nat} {c up : Int} {I : rs_M} {K : rs_K} (hq : rs_isR q) (hc : 0 ≤ c ∧ c < 10) (hk : K (some (.inl (if I q 3 = 0 then (if up = 0 then I (q + 1) c.toNat else I (q + 2) c.toNat) else -1000))) I) : rs_run u d 23 0 (rs_en0 [.inr (.inr q), .inl c, .inl up] 3) [] I K := by
  obtain ⟨h1, h2, h3, h4, h5⟩ := hq
  show rs_run u d 23 0 [some (.inr (.inr q)), some (.inl c), some (.inl up)] [] I K
  simp only [rs_x_23_0, rs_x_23_1, rs_x_23_4, rs_x_23_7, rs_x_23_10, rs_x_23_11, rs_x_23_12, rs_x_23_15, rs_x_23_16, rs_x_23_19, rs_x_23_20, rs_x_23_21, rs_x_23_24, rs_x_23_25, rs_x_23_28, rs_x_23_29, rs_x_23_30, rs_cn_n, rs_cn_i, rs_cn_r, rs_cn_t, rs_up_at, Nat.reduceAdd, Nat.reduceEqDiff, Nat.reduceSub, Int.reduceToNat, Int.reduceNeg, Int.reduceLE, Int.reduceLT, Int.reduceAdd, Int.reduceSub, Int.reduceMul, Int.add_sub_cancel, List.length_cons, List.length_nil, Nat.reduceLeDiff, Nat.reduceLT, Int.cast_ofNat_Int, true_and, and_true, and_self, false_and, and_false, ↓reduceIte, Nat.zero_le, or_true, true_or, false_or, or_false, Nat.sub_zero, Int.toNat_natCast, Nat.le_refl, implies_true, forall_const, Int.reduceEq, Nat.reduceMul, ne_eq, not_true_eq_false, not_false_eq_true, false_implies, true_implies, Nat.left_eq_add, Nat.add_eq_left, h1, h2, h3, h4, h5]
  refine ⟨fun h => ?_, fun h => ?_⟩
  · rw [if_pos h] at hk
    refine ⟨fun h6 => ⟨hc, ?_⟩, fun h6 => ⟨hc, ?_⟩⟩
    · rwa [if_pos h6] at hk
    · rwa [if_neg h6] at hk
  · rwa [if_neg h] at hk
set_option maxRecDepth 100000 in
set_option maxHeartbeats 2000000 in
theorem ct_copyFrom {u d q o : Nat} {I : rs_M} {K : rs_K} (hd : 1 ≤ d) (hq : rs_isR q) (ho : rs_isR o) (hk : K none (rs_up (rs_up (rs_cp (rs_cp I (o + 1) (q + 1) 0 0 10) (o + 2) (q + 2) 0 0 10) q 2 0) q 3 0)) : rs_run u d 21 0 (rs_en0 [.inr (.inr q), .inr (.inr o)] 2) [] I K := by
  obtain ⟨h1, h2, h3, h4, h5⟩ := hq
  obtain ⟨g1, g2, g3, g4, g5⟩ := ho
  show rs_run u d 21 0 [some (.inr (.inr q)), some (.inr (.inr o))] [] I K
  simp only [rs_x_21_0, rs_x_21_1, rs_x_21_4, rs_x_21_5, rs_x_21_6, rs_x_21_9, rs_x_21_10, rs_x_21_12, rs_x_21_15, rs_x_21_16, rs_x_21_19, rs_x_21_20, rs_x_21_21, rs_x_21_24, rs_x_21_25, rs_x_21_27, rs_x_21_30, rs_x_21_31, rs_x_21_32, rs_x_21_35, rs_x_21_36, rs_x_21_37, rs_x_21_40, rs_cn_n, rs_cn_i, rs_cn_r, rs_cn_t, rs_up_at, Nat.reduceAdd, Nat.reduceEqDiff, Nat.reduceSub, Int.reduceToNat, Int.reduceNeg, Int.reduceLE, Int.reduceLT, Int.reduceAdd, Int.reduceSub, Int.reduceMul, Int.add_sub_cancel, List.length_cons, List.length_nil, Nat.reduceLeDiff, Nat.reduceLT, Int.cast_ofNat_Int, true_and, and_true, and_self, false_and, and_false, ↓reduceIte, Nat.zero_le, or_true, true_or, false_or, or_false, Nat.sub_zero, Int.toNat_natCast, Nat.le_refl, implies_true, forall_const, Int.reduceEq, Nat.reduceMul, ne_eq, not_true_eq_false, not_false_eq_true, false_implies, true_implies, Nat.left_eq_add, Nat.add_eq_left, h1, h2, h3, h4, h5, g1, g2, g3, g4, g5]
  exact ⟨hd, hd, hk⟩
