/-! ===== contracts with plain loops ===== -/
/-- the entries in force, as bits, of the first k -/
def rg_ef (I : rs_M) : Nat → Nat
  | 0 => 0
  | k + 1 => if I (76 + k) 3 = 0 then rg_ef I k else rg_ef I k ||| 2 ^ k
theorem rg_ef_lt (I : rs_M) : ∀ k, rg_ef I k < 2 ^ k
  | 0 => by show 0 < 1; decide
  | k + 1 => by
    have h := rg_ef_lt I k
    have hp : 2 ^ (k + 1) = 2 ^ k * 2 := Nat.pow_succ 2 k
    unfold rg_ef
    split
    · omega
    · exact Nat.or_lt_two_pow (n := k + 1) (by omega) (by omega)
theorem bt_pow {k : Nat} (h : k ≤ 12) : 2 ^ k ≤ 4096 := by
  have : (2 : Nat) ^ k ≤ 2 ^ 12 := Nat.pow_le_pow_right (by omega) h
  omega
theorem bt_or2 {m k : Nat} (hm : m < 4096) (hk : k ≤ 12) : rs_or (m : Int) (rs_shl 1 (k : Int)) = ((m ||| 2 ^ k : Nat) : Int) := by
  rw [bt_shl1 k (by omega)]
  have := bt_pow hk
  exact bt_or m (2 ^ k) (by omega) (by omega)
set_option maxRecDepth 100000 in
set_option maxHeartbeats 2000000 in
theorem ct_entriesInForce {u d : Nat} {I : rs_M} {K : rs_K} (hc : 0 ≤ I 1 7 ∧ I 1 7 ≤ 12) (hk : K (some (.inl (rg_ef I (I 1 7).toNat : Int))) I) : rs_run u d 56 0 (rs_en0 [.inr (.inr 1)] 3) [] I K := by
  show rs_run u d 56 0 [some (.inr (.inr 1)), none, none] [] I K
  have g1 : rs_sh 1 = (1, 7) := by decide +kernel
  have g5 : rs_sh 5 = (5, 12) := by decide +kernel
  have f1_1 : rs_rf 1 1 = 5 := by decide +kernel
  have loop : ∀ (m e : Nat), e + m = (I 1 7).toNat → rs_run u d 56 4 [some (.inr (.inr 1)), some (.inl (rg_ef I e : Int)), some (.inl (e : Int))] [] I K := by
    intro m
    induction m with
    | zero =>
      intro e he
      rw [rs_x_56_4]
      simp only [rs_x_56_0, rs_x_56_1, rs_x_56_2, rs_x_56_3, rs_x_56_5, rs_x_56_6, rs_x_56_9, rs_x_56_12, rs_x_56_13, rs_x_56_16, rs_x_56_17, rs_x_56_18, rs_x_56_21, rs_x_56_24, rs_x_56_25, rs_x_56_26, rs_x_56_27, rs_x_56_28, rs_x_56_29, rs_x_56_30, rs_x_56_33, rs_x_56_36, rs_x_56_37, rs_cn_n, rs_cn_i, rs_cn_r, rs_cn_t, rs_up_at, Nat.reduceAdd, Nat.reduceEqDiff, Nat.reduceSub, Int.reduceToNat, Int.reduceNeg, Int.reduceLE, Int.reduceLT, Int.reduceAdd, Int.reduceSub, Int.reduceMul, Int.add_sub_cancel, List.length_cons, List.length_nil, Nat.reduceLeDiff, Nat.reduceLT, Int.cast_ofNat_Int, true_and, and_true, and_self, false_and, and_false, ↓reduceIte, Nat.zero_le, or_true, true_or, false_or, or_false, Nat.sub_zero, Int.toNat_natCast, Nat.le_refl, implies_true, forall_const, Int.reduceEq, Nat.reduceMul, ne_eq, not_true_eq_false, not_false_eq_true, false_implies, true_implies, Nat.left_eq_add, Nat.add_eq_left, g1, g5, f1_1]
      refine ⟨fun _ => ?_, fun h => by omega⟩
      have : e = (I 1 7).toNat := by omega
      rw [this]
      exact hk
    | succ m ih =>
      intro e he
      obtain ⟨r1, r2⟩ := gm_ent e (by omega)
      have hl := rg_ef_lt I e
      have hp := bt_pow (k := e) (by omega)
      have ho := bt_or2 (m := rg_ef I e) (k := e) (by omega) (by omega)
      have i1 := ih (e + 1) (by omega)
      rw [rs_x_56_4]
      simp only [rs_x_56_0, rs_x_56_1, rs_x_56_2, rs_x_56_3, rs_x_56_5, rs_x_56_6, rs_x_56_9, rs_x_56_12, rs_x_56_13, rs_x_56_16, rs_x_56_17, rs_x_56_18, rs_x_56_21, rs_x_56_24, rs_x_56_25, rs_x_56_26, rs_x_56_27, rs_x_56_28, rs_x_56_29, rs_x_56_30, rs_x_56_33, rs_x_56_36, rs_x_56_37, rs_cn_n, rs_cn_i, rs_cn_r, rs_cn_t, rs_up_at, Nat.reduceAdd, Nat.reduceEqDiff, Nat.reduceSub, Int.reduceToNat, Int.reduceNeg, Int.reduceLE, Int.reduceLT, Int.reduceAdd, Int.reduceSub, Int.reduceMul, Int.add_sub_cancel, List.length_cons, List.length_nil, Nat.reduceLeDiff, Nat.reduceLT, Int.cast_ofNat_Int, true_and, and_true, and_self, false_and, and_false, ↓reduceIte, Nat.zero_le, or_true, true_or, false_or, or_false, Nat.sub_zero, Int.toNat_natCast, Nat.le_refl, implies_true, forall_const, Int.reduceEq, Nat.reduceMul, ne_eq, not_true_eq_false, not_false_eq_true, false_implies, true_implies, Nat.left_eq_add, Nat.add_eq_left, g1, g5, f1_1, r1, r2, ho]
      refine ⟨fun h => by omega, fun h => ⟨by omega, fun h0 => ⟨by unfold rs_R; omega, ?_⟩, fun h0 => ⟨by unfold rs_R; omega, ?_⟩⟩⟩
      · unfold rg_ef at i1
        rw [if_pos h0] at i1
        exact i1
      · unfold rg_ef at i1
        rw [if_neg h0] at i1
        exact i1
  simp only [rs_x_56_0, rs_x_56_1, rs_x_56_2, rs_x_56_3, rs_x_56_5, rs_x_56_6, rs_x_56_9, rs_x_56_12, rs_x_56_13, rs_x_56_16, rs_x_56_17, rs_x_56_18, rs_x_56_21, rs_x_56_24, rs_x_56_25, rs_x_56_26, rs_x_56_27, rs_x_56_28, rs_x_56_29, rs_x_56_30, rs_x_56_33, rs_x_56_36, rs_x_56_37, rs_cn_n, rs_cn_i, rs_cn_r, rs_cn_t, rs_up_at, Nat.reduceAdd, Nat.reduceEqDiff, Nat.reduceSub, Int.reduceToNat, Int.reduceNeg, Int.reduceLE, Int.reduceLT, Int.reduceAdd, Int.reduceSub, Int.reduceMul, Int.add_sub_cancel, List.length_cons, List.length_nil, Nat.reduceLeDiff, Nat.reduceLT, Int.cast_ofNat_Int, true_and, and_true, and_self, false_and, and_false, ↓reduceIte, Nat.zero_le, or_true, true_or, false_or, or_false, Nat.sub_zero, Int.toNat_natCast, Nat.le_refl, implies_true, forall_const, Int.reduceEq, Nat.reduceMul, ne_eq, not_true_eq_false, not_false_eq_true, false_implies, true_implies, Nat.left_eq_add, Nat.add_eq_left]
  exact loop (I 1 7).toNat 0 (by omega)
def rg_copy (I : rs_M) (q o : Nat) : rs_M := rs_up (rs_up (rs_cp (rs_cp I (o + 1) (q + 1) 0 0 10) (o + 2) (q + 2) 0 0 10) q 2 0) q 3 0
def rg_keep (I : rs_M) (q : Nat) (c v w : Int) : rs_M := rg_lower (rg_raise I q c v) q c w
theorem rg_raise_o {I : rs_M} {q : Nat} {c v : Int} {a j : Nat} (h1 : a ≠ q) (h2 : a ≠ q + 1) : rg_raise I q c v a j = I a j := by
  unfold rg_raise
  split
  · rfl
  · simp [rs_up_at, h1, h2]
theorem rg_lower_o {I : rs_M} {q : Nat} {c v : Int} {a j : Nat} (h1 : a ≠ q) (h2 : a ≠ q + 2) : rg_lower I q c v a j = I a j := by
  unfold rg_lower
  split
  · rfl
  · simp [rs_up_at, h1, h2]
theorem rg_keep_o {I : rs_M} {q : Nat} {c v w : Int} {a j : Nat} (h1 : a ≠ q) (h2 : a ≠ q + 1) (h3 : a ≠ q + 2) : rg_keep I q c v w a j = I a j := by
  unfold rg_keep
  rw [rg_lower_o h1 h3, rg_raise_o h1 h2]
theorem rg_copy_o {I : rs_M} {q o a j : Nat} (h1 : a ≠ q) (h2 : a ≠ q + 1) (h3 : a ≠ q + 2) : rg_copy I q o a j = I a j := by
  unfold rg_copy
  simp [rs_up_at, rs_cp_at, h1, h2, h3]
/-- the ranges q: the first ones, and of the first k entries those in m -/
def rg_lay (I : rs_M) (q m : Nat) : Nat → rs_M
  | 0 => rg_copy I q 2
  | k + 1 => if m.testBit k = true then rg_keep (rg_lay I q m k) q (I (76 + k) 0) (I (76 + k) 1) (I (76 + k) 2) else rg_lay I q m k
theorem rg_lay_o {I : rs_M} {q m a j : Nat} (h1 : a ≠ q) (h2 : a ≠ q + 1) (h3 : a ≠ q + 2) : ∀ k, rg_lay I q m k a j = I a j
  | 0 => rg_copy_o h1 h2 h3
  | k + 1 => by
    unfold rg_lay
    split
    · rw [rg_keep_o h1 h2 h3, rg_lay_o h1 h2 h3 k]
    · exact rg_lay_o h1 h2 h3 k
theorem gm_2 : rs_isR 2 := by unfold rs_isR; decide +kernel
theorem gm_70 : rs_isR 70 := by unfold rs_isR; decide +kernel
theorem gm_73 : rs_isR 73 := by unfold rs_isR; decide +kernel
theorem ck_keep {u d q : Nat} {c v w : Int} {I : rs_M} {K : rs_K} (hd : 1 ≤ d) (hq : rs_isR q) (hc : 0 ≤ c ∧ c < 10) (hk : K none (rg_keep I q c v w)) : rs_run u d 26 0 (rs_en0 [.inr (.inr q), .inl c, .inl v, .inl w] 4) [] I K := ct_keep hd hq hc hk
theorem ck_copy {u d q o : Nat} {I : rs_M} {K : rs_K} (hd : 1 ≤ d) (hq : rs_isR q) (ho : rs_isR o) (hk : K none (rg_copy I q o)) : rs_run u d 21 0 (rs_en0 [.inr (.inr q), .inr (.inr o)] 2) [] I K := ct_copyFrom hd hq ho hk
set_option maxRecDepth 100000 in
set_option maxHeartbeats 2000000 in
theorem ct_layOut {u d q m : Nat} {I : rs_M} {K : rs_K} (hd : 2 ≤ d) (hq : rs_isR q) (hq1 : 1 < q) (hq2 : q + 2 < 76) (hm : m < 4096) (hn : 0 ≤ I 1 6 ∧ I 1 6 ≤ 10) (hc : 0 ≤ I 1 7 ∧ I 1 7 ≤ 12) (he : ∀ e, e < (I 1 7).toNat → 0 ≤ I (76 + e) 0 ∧ I (76 + e) 0 < 10) (hk : K none (rs_up (rg_lay I q m (I 1 7).toNat) q 2 (2 ^ (I 1 6).toNat - 1))) : rs_run u d 57 0 (rs_en0 [.inr (.inr 1), .inl (m : Int), .inr (.inr q)] 4) [] I K := by
  show rs_run u d 57 0 [some (.inr (.inr 1)), some (.inl (m : Int)), some (.inr (.inr q)), none] [] I K
  have g1 : rs_sh 1 = (1, 7) := by decide +kernel
  have g5 : rs_sh 5 = (5, 12) := by decide +kernel
  have f1_0 : rs_rf 1 0 = 2 := by decide +kernel
  have f1_1 : rs_rf 1 1 = 5 := by decide +kernel
  have gq := hq.1
  obtain ⟨s1, s2, s3⟩ := bt_shlI (n := I 1 6) (by omega)
  have o1 : ∀ k j, rg_lay I q m k 1 j = I 1 j := fun k j => rg_lay_o (by omega) (by omega) (by omega) k
  have o2 : ∀ k e j, rg_lay I q m k (76 + e) j = I (76 + e) j := fun k e j => rg_lay_o (by omega) (by omega) (by omega) k
  have loop : ∀ (n e : Nat), e + n = (I 1 7).toNat → rs_run u d 57 10 [some (.inr (.inr 1)), some (.inl (m : Int)), some (.inr (.inr q)), some (.inl (e : Int))] [] (rg_lay I q m e) K := by
    intro n
    induction n with
    | zero =>
      intro e hn
      rw [rs_x_57_10]
      simp only [rs_x_57_0, rs_x_57_1, rs_x_57_2, rs_x_57_5, rs_x_57_8, rs_x_57_9, rs_x_57_11, rs_x_57_12, rs_x_57_15, rs_x_57_18, rs_x_57_19, rs_x_57_20, rs_x_57_21, rs_x_57_22, rs_x_57_23, rs_x_57_24, rs_x_57_27, rs_x_57_28, rs_x_57_29, rs_x_57_32, rs_x_57_33, rs_x_57_34, rs_x_57_37, rs_x_57_38, rs_x_57_41, rs_x_57_42, rs_x_57_43, rs_x_57_46, rs_x_57_47, rs_x_57_50, rs_x_57_51, rs_x_57_52, rs_x_57_55, rs_x_57_58, rs_x_57_61, rs_x_57_64, rs_x_57_65, rs_x_57_66, rs_x_57_67, rs_x_57_70, rs_x_57_71, rs_x_57_72, rs_x_57_73, rs_x_57_76, rs_cn_n, rs_cn_i, rs_cn_r, rs_cn_t, rs_up_at, Nat.reduceAdd, Nat.reduceEqDiff, Nat.reduceSub, Int.reduceToNat, Int.reduceNeg, Int.reduceLE, Int.reduceLT, Int.reduceAdd, Int.reduceSub, Int.reduceMul, Int.add_sub_cancel, List.length_cons, List.length_nil, Nat.reduceLeDiff, Nat.reduceLT, Int.cast_ofNat_Int, true_and, and_true, and_self, false_and, and_false, ↓reduceIte, Nat.zero_le, or_true, true_or, false_or, or_false, Nat.sub_zero, Int.toNat_natCast, Nat.le_refl, implies_true, forall_const, Int.reduceEq, Nat.reduceMul, ne_eq, not_true_eq_false, not_false_eq_true, false_implies, true_implies, Nat.left_eq_add, Nat.add_eq_left, g1, g5, f1_1, o1, s1, gq]
      refine ⟨fun _ => ⟨by unfold rs_R; omega, ?_⟩, fun h => by omega⟩
      have : e = (I 1 7).toNat := by omega
      rw [this]
      exact hk
    | succ n ih =>
      intro e hn
      obtain ⟨r1, r2⟩ := gm_ent e (by omega)
      have i1 := ih (e + 1) (by omega)
      have hb := bt_has m e (by omega) (by omega)
      have hce := he e (by omega)
      rw [rs_x_57_10]
      unfold rg_lay at i1
      simp only [rs_x_57_0, rs_x_57_1, rs_x_57_2, rs_x_57_5, rs_x_57_8, rs_x_57_9, rs_x_57_11, rs_x_57_12, rs_x_57_15, rs_x_57_18, rs_x_57_19, rs_x_57_20, rs_x_57_21, rs_x_57_22, rs_x_57_23, rs_x_57_24, rs_x_57_27, rs_x_57_28, rs_x_57_29, rs_x_57_32, rs_x_57_33, rs_x_57_34, rs_x_57_37, rs_x_57_38, rs_x_57_41, rs_x_57_42, rs_x_57_43, rs_x_57_46, rs_x_57_47, rs_x_57_50, rs_x_57_51, rs_x_57_52, rs_x_57_55, rs_x_57_58, rs_x_57_61, rs_x_57_64, rs_x_57_65, rs_x_57_66, rs_x_57_67, rs_x_57_70, rs_x_57_71, rs_x_57_72, rs_x_57_73, rs_x_57_76, rs_cn_n, rs_cn_i, rs_cn_r, rs_cn_t, rs_up_at, Nat.reduceAdd, Nat.reduceEqDiff, Nat.reduceSub, Int.reduceToNat, Int.reduceNeg, Int.reduceLE, Int.reduceLT, Int.reduceAdd, Int.reduceSub, Int.reduceMul, Int.add_sub_cancel, List.length_cons, List.length_nil, Nat.reduceLeDiff, Nat.reduceLT, Int.cast_ofNat_Int, true_and, and_true, and_self, false_and, and_false, ↓reduceIte, Nat.zero_le, or_true, true_or, false_or, or_false, Nat.sub_zero, Int.toNat_natCast, Nat.le_refl, implies_true, forall_const, Int.reduceEq, Nat.reduceMul, ne_eq, not_true_eq_false, not_false_eq_true, false_implies, true_implies, Nat.left_eq_add, Nat.add_eq_left, g1, g5, f1_1, o1, o2, r1, r2, hb, gq]
      refine ⟨fun h => by omega, fun h => ?_⟩
      cases ht : m.testBit e with
      | true =>
        rw [ht] at i1
        simp only [↓reduceIte] at i1
        simp only [↓reduceIte, not_true_eq_false, false_implies, true_implies, true_and, and_true]
        repeat' (first
    | refine And.intro ?_ ?_
    | (guard_target =~ (_ → _); intro)
    | omega
    | (unfold rs_R; omega)
    | exact i1
    | decide
    | (refine ck_keep (by omega) hq hce ?_; simp only [rs_x_57_0, rs_x_57_1, rs_x_57_2, rs_x_57_5, rs_x_57_8, rs_x_57_9, rs_x_57_11, rs_x_57_12, rs_x_57_15, rs_x_57_18, rs_x_57_19, rs_x_57_20, rs_x_57_21, rs_x_57_22, rs_x_57_23, rs_x_57_24, rs_x_57_27, rs_x_57_28, rs_x_57_29, rs_x_57_32, rs_x_57_33, rs_x_57_34, rs_x_57_37, rs_x_57_38, rs_x_57_41, rs_x_57_42, rs_x_57_43, rs_x_57_46, rs_x_57_47, rs_x_57_50, rs_x_57_51, rs_x_57_52, rs_x_57_55, rs_x_57_58, rs_x_57_61, rs_x_57_64, rs_x_57_65, rs_x_57_66, rs_x_57_67, rs_x_57_70, rs_x_57_71, rs_x_57_72, rs_x_57_73, rs_x_57_76, rs_cn_n, rs_cn_i, rs_cn_r, rs_cn_t, rs_up_at, Nat.reduceAdd, Nat.reduceEqDiff, Nat.reduceSub, Int.reduceToNat, Int.reduceNeg, Int.reduceLE, Int.reduceLT, Int.reduceAdd, Int.reduceSub, Int.reduceMul, Int.add_sub_cancel, List.length_cons, List.length_nil, Nat.reduceLeDiff, Nat.reduceLT, Int.cast_ofNat_Int, true_and, and_true, and_self, false_and, and_false, ↓reduceIte, Nat.zero_le, or_true, true_or, false_or, or_false, Nat.sub_zero, Int.toNat_natCast, Nat.le_refl, implies_true, forall_const, Int.reduceEq, Nat.reduceMul, ne_eq, not_true_eq_false, not_false_eq_true, false_implies, true_implies, Nat.left_eq_add, Nat.add_eq_left, g1, g5, f1_1, o1, o2, r1, r2, hb, gq]))
      | false =>
        rw [ht] at i1
        simp only [Bool.false_eq_true, ↓reduceIte] at i1
        simp only [Bool.false_eq_true, ↓reduceIte, Int.reduceEq, not_false_eq_true, false_implies, true_implies, and_true]
        exact ⟨by unfold rs_R; omega, i1⟩
  simp only [rs_x_57_0, rs_x_57_1, rs_x_57_2, rs_x_57_5, rs_x_57_8, rs_x_57_9, rs_x_57_11, rs_x_57_12, rs_x_57_15, rs_x_57_18, rs_x_57_19, rs_x_57_20, rs_x_57_21, rs_x_57_22, rs_x_57_23, rs_x_57_24, rs_x_57_27, rs_x_57_28, rs_x_57_29, rs_x_57_32, rs_x_57_33, rs_x_57_34, rs_x_57_37, rs_x_57_38, rs_x_57_41, rs_x_57_42, rs_x_57_43, rs_x_57_46, rs_x_57_47, rs_x_57_50, rs_x_57_51, rs_x_57_52, rs_x_57_55, rs_x_57_58, rs_x_57_61, rs_x_57_64, rs_x_57_65, rs_x_57_66, rs_x_57_67, rs_x_57_70, rs_x_57_71, rs_x_57_72, rs_x_57_73, rs_x_57_76, rs_cn_n, rs_cn_i, rs_cn_r, rs_cn_t, rs_up_at, Nat.reduceAdd, Nat.reduceEqDiff, Nat.reduceSub, Int.reduceToNat, Int.reduceNeg, Int.reduceLE, Int.reduceLT, Int.reduceAdd, Int.reduceSub, Int.reduceMul, Int.add_sub_cancel, List.length_cons, List.length_nil, Nat.reduceLeDiff, Nat.reduceLT, Int.cast_ofNat_Int, true_and, and_true, and_self, false_and, and_false, ↓reduceIte, Nat.zero_le, or_true, true_or, false_or, or_false, Nat.sub_zero, Int.toNat_natCast, Nat.le_refl, implies_true, forall_const, Int.reduceEq, Nat.reduceMul, ne_eq, not_true_eq_false, not_false_eq_true, false_implies, true_implies, Nat.left_eq_add, Nat.add_eq_left, g1, f1_0, gq]
  refine ⟨by omega, ck_copy (by omega) hq gm_2 ?_⟩
  simp only [rs_x_57_0, rs_x_57_1, rs_x_57_2, rs_x_57_5, rs_x_57_8, rs_x_57_9, rs_x_57_11, rs_x_57_12, rs_x_57_15, rs_x_57_18, rs_x_57_19, rs_x_57_20, rs_x_57_21, rs_x_57_22, rs_x_57_23, rs_x_57_24, rs_x_57_27, rs_x_57_28, rs_x_57_29, rs_x_57_32, rs_x_57_33, rs_x_57_34, rs_x_57_37, rs_x_57_38, rs_x_57_41, rs_x_57_42, rs_x_57_43, rs_x_57_46, rs_x_57_47, rs_x_57_50, rs_x_57_51, rs_x_57_52, rs_x_57_55, rs_x_57_58, rs_x_57_61, rs_x_57_64, rs_x_57_65, rs_x_57_66, rs_x_57_67, rs_x_57_70, rs_x_57_71, rs_x_57_72, rs_x_57_73, rs_x_57_76, rs_cn_n, rs_cn_i, rs_cn_r, rs_cn_t, rs_up_at, Nat.reduceAdd, Nat.reduceEqDiff, Nat.reduceSub, Int.reduceToNat, Int.reduceNeg, Int.reduceLE, Int.reduceLT, Int.reduceAdd, Int.reduceSub, Int.reduceMul, Int.add_sub_cancel, List.length_cons, List.length_nil, Nat.reduceLeDiff, Nat.reduceLT, Int.cast_ofNat_Int, true_and, and_true, and_self, false_and, and_false, ↓reduceIte, Nat.zero_le, or_true, true_or, false_or, or_false, Nat.sub_zero, Int.toNat_natCast, Nat.le_refl, implies_true, forall_const, Int.reduceEq, Nat.reduceMul, ne_eq, not_true_eq_false, not_false_eq_true, false_implies, true_implies, Nat.left_eq_add, Nat.add_eq_left, g1, f1_0, gq]
  exact loop (I 1 7).toNat 0 (by omega)
