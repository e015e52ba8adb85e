/-! ===== the reference narrows by different ===== -/
/-- the value v of cell k has a support -/
def rd_ok (J : rs_M) (d m k : Nat) (v : Int) : Prop := st_ok (fun j => bx_M m j ∧ j ≠ k) (ml J d) (mh J d) v (-100)
theorem rd_ok_se {I J : rs_M} {d m k : Nat} {v : Int} (h : rm_se I J) : rd_ok J d m k v ↔ rd_ok I d m k v := by
  unfold rd_ok
  rw [(rm_se_l (d := d) h).1, (rm_se_l (d := d) h).2]
set_option maxRecDepth 100000 in
set_option maxHeartbeats 2000000 in
theorem rd_vw {u e d m k : Nat} {I : rs_M} {K : rs_K} (he : 2 ≤ e) (hd : d ≤ 11) (hm : m < 1024) (hk : bx_M m k) (hbx : ∀ j, bx_M m j → -100 ≤ ml I d j ∧ ml I d j ≤ mh I d j ∧ mh I d j ≤ 100) (h : ∀ J v w, rm_se I J → ml I d k ≤ v → w ≤ mh I d k → (∀ x, ml I d k ≤ x → x ≤ mh I d k → rd_ok I d m k x → v ≤ x ∧ x ≤ w) → (v ≤ mh I d k → rd_ok I d m k v ∧ rd_ok I d m k w) → rs_run u e 92 97 [some (.inr (.inr 88)), some (.inl (d : Int)), some (.inl (m : Int)), some (.inl (k : Int)), some (.inl (10 * (d : Int) + (k : Int))), some (.inl v), some (.inl w)] [] J K) (l5 l6 : Option rs_V) : rs_run u e 92 24 [some (.inr (.inr 88)), some (.inl (d : Int)), some (.inl (m : Int)), some (.inl (k : Int)), some (.inl (10 * (d : Int) + (k : Int))), l5, l6] [] I K := by
  have g88 : rs_sh 88 = (1, 8) := by decide +kernel
  have g102 : rs_sh 102 = (2, 120) := by decide +kernel
  have g103 : rs_sh 103 = (2, 120) := by decide +kernel
  have f88_18 : rs_rf 88 18 = 102 := by decide +kernel
  have f88_19 : rs_rf 88 19 = 103 := by decide +kernel
  have he0 : 0 < e := by omega
  have he1 : 1 ≤ e - 1 := by omega
  have k10 := hk.1
  have bk := hbx k hk
  obtain ⟨ik, x1, x2, x3, _⟩ := rm_ix (d := d) (c := (k : Int)) hd (by omega)
  rw [Int.toNat_natCast] at ik
  have x5 : 10 * (d : Int) + (k : Int) < 120 := by omega
  -- downwards
  have wl : ∀ (n : Nat) (w v : Int) (J : rs_M), w + 1 = v + n ∨ (n = 0 ∧ w < v) → w ≤ mh I d k → ml I d k ≤ v → rm_se I J → (∀ x, ml I d k ≤ x → x ≤ mh I d k → rd_ok I d m k x → v ≤ x ∧ x ≤ w) → (v ≤ mh I d k → rd_ok I d m k v) → rs_run u e 92 72 [some (.inr (.inr 88)), some (.inl (d : Int)), some (.inl (m : Int)), some (.inl (k : Int)), some (.inl (10 * (d : Int) + (k : Int))), some (.inl v), some (.inl w)] [] J K := by
    intro n
    induction n with
    | zero =>
      intro w v J en hw hv wJ hx hv2
      have lt : w < v := by omega
      have f := h J v w wJ hv hw hx (fun q => by
        have := hx v hv q (hv2 q)
        omega)
      rw [rs_x_92_72]
      simp only [rs_x_92_0, rs_x_92_1, rs_x_92_2, rs_x_92_3, rs_x_92_5, rs_x_92_8, rs_x_92_10, rs_x_92_11, rs_x_92_12, rs_x_92_13, rs_x_92_14, rs_x_92_16, rs_x_92_17, rs_x_92_18, rs_x_92_21, rs_x_92_24, rs_x_92_25, rs_x_92_28, rs_x_92_30, rs_x_92_31, rs_x_92_33, rs_x_92_35, rs_x_92_36, rs_x_92_39, rs_x_92_41, rs_x_92_42, rs_x_92_45, rs_x_92_46, rs_x_92_47, rs_x_92_48, rs_x_92_49, rs_x_92_51, rs_x_92_54, rs_x_92_57, rs_x_92_60, rs_x_92_63, rs_x_92_64, rs_x_92_67, rs_x_92_69, rs_x_92_70, rs_x_92_74, rs_x_92_76, rs_x_92_79, rs_x_92_80, rs_x_92_81, rs_x_92_82, rs_x_92_83, rs_x_92_85, rs_x_92_88, rs_x_92_91, rs_x_92_94, rs_x_92_98, rs_x_92_99, rs_x_92_100, rs_x_92_102, rs_x_92_104, rs_x_92_107, rs_x_92_110, rs_x_92_111, rs_x_92_112, rs_x_92_115, rs_x_92_118, rs_x_92_119, rs_cn_n, rs_cn_i, rs_cn_r, rs_cn_t, rs_up_at, Nat.reduceAdd, Nat.reduceEqDiff, Nat.reduceSub, Int.reduceToNat, Int.reduceNeg, Int.reduceLE, Int.reduceLT, Int.reduceAdd, Int.reduceSub, Int.reduceMul, Int.add_sub_cancel, List.length_cons, List.length_nil, Nat.reduceLeDiff, Nat.reduceLT, Int.cast_ofNat_Int, true_and, and_true, and_self, false_and, and_false, ↓reduceIte, Nat.zero_le, or_true, true_or, false_or, or_false, Nat.sub_zero, Int.toNat_natCast, Nat.le_refl, implies_true, forall_const, Int.reduceEq, Nat.reduceMul, ne_eq, not_true_eq_false, not_false_eq_true, false_implies, true_implies, Nat.left_eq_add, Nat.add_eq_left, lt]
      exact f
    | succ n ih =>
      intro w v J en hw hv wJ hx hv2
      have nlt : ¬ w < v := by omega
      obtain ⟨e1, e2⟩ := rm_se_l (d := d) wJ
      have rn : rs_R (w + -1) := by unfold rs_R; omega
      rw [rs_x_92_72]
      simp only [rs_x_92_0, rs_x_92_1, rs_x_92_2, rs_x_92_3, rs_x_92_5, rs_x_92_8, rs_x_92_10, rs_x_92_11, rs_x_92_12, rs_x_92_13, rs_x_92_14, rs_x_92_16, rs_x_92_17, rs_x_92_18, rs_x_92_21, rs_x_92_24, rs_x_92_25, rs_x_92_28, rs_x_92_30, rs_x_92_31, rs_x_92_33, rs_x_92_35, rs_x_92_36, rs_x_92_39, rs_x_92_41, rs_x_92_42, rs_x_92_45, rs_x_92_46, rs_x_92_47, rs_x_92_48, rs_x_92_49, rs_x_92_51, rs_x_92_54, rs_x_92_57, rs_x_92_60, rs_x_92_63, rs_x_92_64, rs_x_92_67, rs_x_92_69, rs_x_92_70, rs_x_92_74, rs_x_92_76, rs_x_92_79, rs_x_92_80, rs_x_92_81, rs_x_92_82, rs_x_92_83, rs_x_92_85, rs_x_92_88, rs_x_92_91, rs_x_92_94, rs_x_92_98, rs_x_92_99, rs_x_92_100, rs_x_92_102, rs_x_92_104, rs_x_92_107, rs_x_92_110, rs_x_92_111, rs_x_92_112, rs_x_92_115, rs_x_92_118, rs_x_92_119, rs_cn_n, rs_cn_i, rs_cn_r, rs_cn_t, rs_up_at, Nat.reduceAdd, Nat.reduceEqDiff, Nat.reduceSub, Int.reduceToNat, Int.reduceNeg, Int.reduceLE, Int.reduceLT, Int.reduceAdd, Int.reduceSub, Int.reduceMul, Int.add_sub_cancel, List.length_cons, List.length_nil, Nat.reduceLeDiff, Nat.reduceLT, Int.cast_ofNat_Int, true_and, and_true, and_self, false_and, and_false, ↓reduceIte, Nat.zero_le, or_true, true_or, false_or, or_false, Nat.sub_zero, Int.toNat_natCast, Nat.le_refl, implies_true, forall_const, Int.reduceEq, Nat.reduceMul, ne_eq, not_true_eq_false, not_false_eq_true, false_implies, true_implies, Nat.left_eq_add, Nat.add_eq_left, g88, nlt]
      refine ⟨he0, cm_seats he1 hd hm k10 (fun j hj => by rw [e1, e2]; have := hbx j hj; omega) (fun L wL ok => ?_) (fun L wL ok => ?_)⟩
      · have ok' : rd_ok I d m k w := (rd_ok_se wJ).mp ok
        have f := h L v w (rm_se_tr wJ wL) hv hw hx (fun q => ⟨hv2 q, ok'⟩)
        simp only [rs_x_92_0, rs_x_92_1, rs_x_92_2, rs_x_92_3, rs_x_92_5, rs_x_92_8, rs_x_92_10, rs_x_92_11, rs_x_92_12, rs_x_92_13, rs_x_92_14, rs_x_92_16, rs_x_92_17, rs_x_92_18, rs_x_92_21, rs_x_92_24, rs_x_92_25, rs_x_92_28, rs_x_92_30, rs_x_92_31, rs_x_92_33, rs_x_92_35, rs_x_92_36, rs_x_92_39, rs_x_92_41, rs_x_92_42, rs_x_92_45, rs_x_92_46, rs_x_92_47, rs_x_92_48, rs_x_92_49, rs_x_92_51, rs_x_92_54, rs_x_92_57, rs_x_92_60, rs_x_92_63, rs_x_92_64, rs_x_92_67, rs_x_92_69, rs_x_92_70, rs_x_92_74, rs_x_92_76, rs_x_92_79, rs_x_92_80, rs_x_92_81, rs_x_92_82, rs_x_92_83, rs_x_92_85, rs_x_92_88, rs_x_92_91, rs_x_92_94, rs_x_92_98, rs_x_92_99, rs_x_92_100, rs_x_92_102, rs_x_92_104, rs_x_92_107, rs_x_92_110, rs_x_92_111, rs_x_92_112, rs_x_92_115, rs_x_92_118, rs_x_92_119, rs_cn_n, rs_cn_i, rs_cn_r, rs_cn_t, rs_up_at, Nat.reduceAdd, Nat.reduceEqDiff, Nat.reduceSub, Int.reduceToNat, Int.reduceNeg, Int.reduceLE, Int.reduceLT, Int.reduceAdd, Int.reduceSub, Int.reduceMul, Int.add_sub_cancel, List.length_cons, List.length_nil, Nat.reduceLeDiff, Nat.reduceLT, Int.cast_ofNat_Int, true_and, and_true, and_self, false_and, and_false, ↓reduceIte, Nat.zero_le, or_true, true_or, false_or, or_false, Nat.sub_zero, Int.toNat_natCast, Nat.le_refl, implies_true, forall_const, Int.reduceEq, Nat.reduceMul, ne_eq, not_true_eq_false, not_false_eq_true, false_implies, true_implies, Nat.left_eq_add, Nat.add_eq_left, g88]
        exact f
      · have ok' : ¬ rd_ok I d m k w := fun q => ok ((rd_ok_se wJ).mpr q)
        have i1 := ih (w + -1) v L (by omega) (by omega) hv (rm_se_tr wJ wL) (fun x p1 p2 p3 => by
          have := hx x p1 p2 p3
          have : x ≠ w := fun q => ok' (by rw [← q]; exact p3)
          omega) hv2
        simp only [rs_x_92_0, rs_x_92_1, rs_x_92_2, rs_x_92_3, rs_x_92_5, rs_x_92_8, rs_x_92_10, rs_x_92_11, rs_x_92_12, rs_x_92_13, rs_x_92_14, rs_x_92_16, rs_x_92_17, rs_x_92_18, rs_x_92_21, rs_x_92_24, rs_x_92_25, rs_x_92_28, rs_x_92_30, rs_x_92_31, rs_x_92_33, rs_x_92_35, rs_x_92_36, rs_x_92_39, rs_x_92_41, rs_x_92_42, rs_x_92_45, rs_x_92_46, rs_x_92_47, rs_x_92_48, rs_x_92_49, rs_x_92_51, rs_x_92_54, rs_x_92_57, rs_x_92_60, rs_x_92_63, rs_x_92_64, rs_x_92_67, rs_x_92_69, rs_x_92_70, rs_x_92_74, rs_x_92_76, rs_x_92_79, rs_x_92_80, rs_x_92_81, rs_x_92_82, rs_x_92_83, rs_x_92_85, rs_x_92_88, rs_x_92_91, rs_x_92_94, rs_x_92_98, rs_x_92_99, rs_x_92_100, rs_x_92_102, rs_x_92_104, rs_x_92_107, rs_x_92_110, rs_x_92_111, rs_x_92_112, rs_x_92_115, rs_x_92_118, rs_x_92_119, rs_cn_n, rs_cn_i, rs_cn_r, rs_cn_t, rs_up_at, Nat.reduceAdd, Nat.reduceEqDiff, Nat.reduceSub, Int.reduceToNat, Int.reduceNeg, Int.reduceLE, Int.reduceLT, Int.reduceAdd, Int.reduceSub, Int.reduceMul, Int.add_sub_cancel, List.length_cons, List.length_nil, Nat.reduceLeDiff, Nat.reduceLT, Int.cast_ofNat_Int, true_and, and_true, and_self, false_and, and_false, ↓reduceIte, Nat.zero_le, or_true, true_or, false_or, or_false, Nat.sub_zero, Int.toNat_natCast, Nat.le_refl, implies_true, forall_const, Int.reduceEq, Nat.reduceMul, ne_eq, not_true_eq_false, not_false_eq_true, false_implies, true_implies, Nat.left_eq_add, Nat.add_eq_left, g88]
        exact ⟨rn, i1⟩
  -- upwards
  have vl : ∀ (n : Nat) (v : Int) (J : rs_M) (l6 : Option rs_V), v + n = mh I d k + 1 → ml I d k ≤ v → rm_se I J → (∀ x, ml I d k ≤ x → x ≤ mh I d k → rd_ok I d m k x → v ≤ x) → rs_run u e 92 33 [some (.inr (.inr 88)), some (.inl (d : Int)), some (.inl (m : Int)), some (.inl (k : Int)), some (.inl (10 * (d : Int) + (k : Int))), some (.inl v), l6] [] J K := by
    intro n
    induction n with
    | zero =>
      intro v J l6 en hv wJ hx
      obtain ⟨e1, e2⟩ := rm_se_l (d := d) wJ
      have kk : J 103 (10 * d + k) = mh I d k := by rw [← e2]; exact (mh_at k10).symm
      have gt : mh I d k < v := by omega
      have f := wl 0 (mh I d k) v J (by omega) (by omega) hv wJ (fun x p1 p2 p3 => ⟨hx x p1 p2 p3, p2⟩) (fun q => by omega)
      rw [rs_x_92_33]
      simp only [rs_x_92_0, rs_x_92_1, rs_x_92_2, rs_x_92_3, rs_x_92_5, rs_x_92_8, rs_x_92_10, rs_x_92_11, rs_x_92_12, rs_x_92_13, rs_x_92_14, rs_x_92_16, rs_x_92_17, rs_x_92_18, rs_x_92_21, rs_x_92_24, rs_x_92_25, rs_x_92_28, rs_x_92_30, rs_x_92_31, rs_x_92_35, rs_x_92_36, rs_x_92_39, rs_x_92_41, rs_x_92_42, rs_x_92_45, rs_x_92_46, rs_x_92_47, rs_x_92_48, rs_x_92_49, rs_x_92_51, rs_x_92_54, rs_x_92_57, rs_x_92_60, rs_x_92_63, rs_x_92_64, rs_x_92_67, rs_x_92_69, rs_x_92_70, rs_x_92_74, rs_x_92_76, rs_x_92_79, rs_x_92_80, rs_x_92_81, rs_x_92_82, rs_x_92_83, rs_x_92_85, rs_x_92_88, rs_x_92_91, rs_x_92_94, rs_x_92_97, rs_x_92_98, rs_x_92_99, rs_x_92_100, rs_x_92_102, rs_x_92_104, rs_x_92_107, rs_x_92_110, rs_x_92_111, rs_x_92_112, rs_x_92_115, rs_x_92_118, rs_x_92_119, rs_cn_n, rs_cn_i, rs_cn_r, rs_cn_t, rs_up_at, Nat.reduceAdd, Nat.reduceEqDiff, Nat.reduceSub, Int.reduceToNat, Int.reduceNeg, Int.reduceLE, Int.reduceLT, Int.reduceAdd, Int.reduceSub, Int.reduceMul, Int.add_sub_cancel, List.length_cons, List.length_nil, Nat.reduceLeDiff, Nat.reduceLT, Int.cast_ofNat_Int, true_and, and_true, and_self, false_and, and_false, ↓reduceIte, Nat.zero_le, or_true, true_or, false_or, or_false, Nat.sub_zero, Int.toNat_natCast, Nat.le_refl, implies_true, forall_const, Int.reduceEq, Nat.reduceMul, ne_eq, not_true_eq_false, not_false_eq_true, false_implies, true_implies, Nat.left_eq_add, Nat.add_eq_left, g88, g103, f88_19, ik, x1, x2, x3, x5, kk, gt]
      exact f
    | succ n ih =>
      intro v J l6 en hv wJ hx
      obtain ⟨e1, e2⟩ := rm_se_l (d := d) wJ
      have kk : J 103 (10 * d + k) = mh I d k := by rw [← e2]; exact (mh_at k10).symm
      have ngt : ¬ mh I d k < v := by omega
      have rn : rs_R (v + 1) := by unfold rs_R; omega
      rw [rs_x_92_33]
      simp only [rs_x_92_0, rs_x_92_1, rs_x_92_2, rs_x_92_3, rs_x_92_5, rs_x_92_8, rs_x_92_10, rs_x_92_11, rs_x_92_12, rs_x_92_13, rs_x_92_14, rs_x_92_16, rs_x_92_17, rs_x_92_18, rs_x_92_21, rs_x_92_24, rs_x_92_25, rs_x_92_28, rs_x_92_30, rs_x_92_31, rs_x_92_35, rs_x_92_36, rs_x_92_39, rs_x_92_41, rs_x_92_42, rs_x_92_45, rs_x_92_46, rs_x_92_47, rs_x_92_48, rs_x_92_49, rs_x_92_51, rs_x_92_54, rs_x_92_57, rs_x_92_60, rs_x_92_63, rs_x_92_64, rs_x_92_67, rs_x_92_69, rs_x_92_70, rs_x_92_74, rs_x_92_76, rs_x_92_79, rs_x_92_80, rs_x_92_81, rs_x_92_82, rs_x_92_83, rs_x_92_85, rs_x_92_88, rs_x_92_91, rs_x_92_94, rs_x_92_97, rs_x_92_98, rs_x_92_99, rs_x_92_100, rs_x_92_102, rs_x_92_104, rs_x_92_107, rs_x_92_110, rs_x_92_111, rs_x_92_112, rs_x_92_115, rs_x_92_118, rs_x_92_119, rs_cn_n, rs_cn_i, rs_cn_r, rs_cn_t, rs_up_at, Nat.reduceAdd, Nat.reduceEqDiff, Nat.reduceSub, Int.reduceToNat, Int.reduceNeg, Int.reduceLE, Int.reduceLT, Int.reduceAdd, Int.reduceSub, Int.reduceMul, Int.add_sub_cancel, List.length_cons, List.length_nil, Nat.reduceLeDiff, Nat.reduceLT, Int.cast_ofNat_Int, true_and, and_true, and_self, false_and, and_false, ↓reduceIte, Nat.zero_le, or_true, true_or, false_or, or_false, Nat.sub_zero, Int.toNat_natCast, Nat.le_refl, implies_true, forall_const, Int.reduceEq, Nat.reduceMul, ne_eq, not_true_eq_false, not_false_eq_true, false_implies, true_implies, Nat.left_eq_add, Nat.add_eq_left, g88, g103, f88_19, ik, x1, x2, x3, x5, kk, ngt]
      refine ⟨he0, cm_seats he1 hd hm k10 (fun j hj => by rw [e1, e2]; have := hbx j hj; omega) (fun L wL ok => ?_) (fun L wL ok => ?_)⟩
      · have ok' : rd_ok I d m k v := (rd_ok_se wJ).mp ok
        have wIL := rm_se_tr wJ wL
        have kk' : L 103 (10 * d + k) = mh I d k := by rw [← (rm_se_l (d := d) wIL).2]; exact (mh_at k10).symm
        have f := wl (mh I d k + 1 - v).toNat (mh I d k) v L (by omega) (by omega) hv wIL (fun x p1 p2 p3 => ⟨hx x p1 p2 p3, p2⟩) (fun q => ok')
        simp only [rs_x_92_0, rs_x_92_1, rs_x_92_2, rs_x_92_3, rs_x_92_5, rs_x_92_8, rs_x_92_10, rs_x_92_11, rs_x_92_12, rs_x_92_13, rs_x_92_14, rs_x_92_16, rs_x_92_17, rs_x_92_18, rs_x_92_21, rs_x_92_24, rs_x_92_25, rs_x_92_28, rs_x_92_30, rs_x_92_31, rs_x_92_35, rs_x_92_36, rs_x_92_39, rs_x_92_41, rs_x_92_42, rs_x_92_45, rs_x_92_46, rs_x_92_47, rs_x_92_48, rs_x_92_49, rs_x_92_51, rs_x_92_54, rs_x_92_57, rs_x_92_60, rs_x_92_63, rs_x_92_64, rs_x_92_67, rs_x_92_69, rs_x_92_70, rs_x_92_74, rs_x_92_76, rs_x_92_79, rs_x_92_80, rs_x_92_81, rs_x_92_82, rs_x_92_83, rs_x_92_85, rs_x_92_88, rs_x_92_91, rs_x_92_94, rs_x_92_97, rs_x_92_98, rs_x_92_99, rs_x_92_100, rs_x_92_102, rs_x_92_104, rs_x_92_107, rs_x_92_110, rs_x_92_111, rs_x_92_112, rs_x_92_115, rs_x_92_118, rs_x_92_119, rs_cn_n, rs_cn_i, rs_cn_r, rs_cn_t, rs_up_at, Nat.reduceAdd, Nat.reduceEqDiff, Nat.reduceSub, Int.reduceToNat, Int.reduceNeg, Int.reduceLE, Int.reduceLT, Int.reduceAdd, Int.reduceSub, Int.reduceMul, Int.add_sub_cancel, List.length_cons, List.length_nil, Nat.reduceLeDiff, Nat.reduceLT, Int.cast_ofNat_Int, true_and, and_true, and_self, false_and, and_false, ↓reduceIte, Nat.zero_le, or_true, true_or, false_or, or_false, Nat.sub_zero, Int.toNat_natCast, Nat.le_refl, implies_true, forall_const, Int.reduceEq, Nat.reduceMul, ne_eq, not_true_eq_false, not_false_eq_true, false_implies, true_implies, Nat.left_eq_add, Nat.add_eq_left, g88, g103, f88_19, ik, x1, x2, x3, x5, kk']
        exact f
      · have ok' : ¬ rd_ok I d m k v := fun q => ok ((rd_ok_se wJ).mpr q)
        have i1 := ih (v + 1) L l6 (by omega) (by omega) (rm_se_tr wJ wL) (fun x p1 p2 p3 => by
          have := hx x p1 p2 p3
          have : x ≠ v := fun q => ok' (by rw [← q]; exact p3)
          omega)
        simp only [rs_x_92_0, rs_x_92_1, rs_x_92_2, rs_x_92_3, rs_x_92_5, rs_x_92_8, rs_x_92_10, rs_x_92_11, rs_x_92_12, rs_x_92_13, rs_x_92_14, rs_x_92_16, rs_x_92_17, rs_x_92_18, rs_x_92_21, rs_x_92_24, rs_x_92_25, rs_x_92_28, rs_x_92_30, rs_x_92_31, rs_x_92_35, rs_x_92_36, rs_x_92_39, rs_x_92_41, rs_x_92_42, rs_x_92_45, rs_x_92_46, rs_x_92_47, rs_x_92_48, rs_x_92_49, rs_x_92_51, rs_x_92_54, rs_x_92_57, rs_x_92_60, rs_x_92_63, rs_x_92_64, rs_x_92_67, rs_x_92_69, rs_x_92_70, rs_x_92_74, rs_x_92_76, rs_x_92_79, rs_x_92_80, rs_x_92_81, rs_x_92_82, rs_x_92_83, rs_x_92_85, rs_x_92_88, rs_x_92_91, rs_x_92_94, rs_x_92_97, rs_x_92_98, rs_x_92_99, rs_x_92_100, rs_x_92_102, rs_x_92_104, rs_x_92_107, rs_x_92_110, rs_x_92_111, rs_x_92_112, rs_x_92_115, rs_x_92_118, rs_x_92_119, rs_cn_n, rs_cn_i, rs_cn_r, rs_cn_t, rs_up_at, Nat.reduceAdd, Nat.reduceEqDiff, Nat.reduceSub, Int.reduceToNat, Int.reduceNeg, Int.reduceLE, Int.reduceLT, Int.reduceAdd, Int.reduceSub, Int.reduceMul, Int.add_sub_cancel, List.length_cons, List.length_nil, Nat.reduceLeDiff, Nat.reduceLT, Int.cast_ofNat_Int, true_and, and_true, and_self, false_and, and_false, ↓reduceIte, Nat.zero_le, or_true, true_or, false_or, or_false, Nat.sub_zero, Int.toNat_natCast, Nat.le_refl, implies_true, forall_const, Int.reduceEq, Nat.reduceMul, ne_eq, not_true_eq_false, not_false_eq_true, false_implies, true_implies, Nat.left_eq_add, Nat.add_eq_left, g88]
        exact ⟨rn, i1⟩
  have lk : I 102 (10 * d + k) = ml I d k := (ml_at k10).symm
  have f := vl (mh I d k + 1 - ml I d k).toNat (ml I d k) I l6 (by omega) (by omega) (fun _ _ _ => rfl) (fun x p1 _ _ => p1)
  rw [rs_x_92_24]
  simp only [rs_x_92_0, rs_x_92_1, rs_x_92_2, rs_x_92_3, rs_x_92_5, rs_x_92_8, rs_x_92_10, rs_x_92_11, rs_x_92_12, rs_x_92_13, rs_x_92_14, rs_x_92_16, rs_x_92_17, rs_x_92_18, rs_x_92_21, rs_x_92_25, rs_x_92_28, rs_x_92_30, rs_x_92_31, rs_x_92_35, rs_x_92_36, rs_x_92_39, rs_x_92_41, rs_x_92_42, rs_x_92_45, rs_x_92_46, rs_x_92_47, rs_x_92_48, rs_x_92_49, rs_x_92_51, rs_x_92_54, rs_x_92_57, rs_x_92_60, rs_x_92_63, rs_x_92_64, rs_x_92_67, rs_x_92_69, rs_x_92_70, rs_x_92_72, rs_x_92_74, rs_x_92_76, rs_x_92_79, rs_x_92_80, rs_x_92_81, rs_x_92_82, rs_x_92_83, rs_x_92_85, rs_x_92_88, rs_x_92_91, rs_x_92_94, rs_x_92_97, rs_x_92_98, rs_x_92_99, rs_x_92_100, rs_x_92_102, rs_x_92_104, rs_x_92_107, rs_x_92_110, rs_x_92_111, rs_x_92_112, rs_x_92_115, rs_x_92_118, rs_x_92_119, rs_cn_n, rs_cn_i, rs_cn_r, rs_cn_t, rs_up_at, Nat.reduceAdd, Nat.reduceEqDiff, Nat.reduceSub, Int.reduceToNat, Int.reduceNeg, Int.reduceLE, Int.reduceLT, Int.reduceAdd, Int.reduceSub, Int.reduceMul, Int.add_sub_cancel, List.length_cons, List.length_nil, Nat.reduceLeDiff, Nat.reduceLT, Int.cast_ofNat_Int, true_and, and_true, and_self, false_and, and_false, ↓reduceIte, Nat.zero_le, or_true, true_or, false_or, or_false, Nat.sub_zero, Int.toNat_natCast, Nat.le_refl, implies_true, forall_const, Int.reduceEq, Nat.reduceMul, ne_eq, not_true_eq_false, not_false_eq_true, false_implies, true_implies, Nat.left_eq_add, Nat.add_eq_left, g88, g102, f88_18, ik, x1, x2, x3, x5, lk]
  exact f
/-- before member k -/
def rd_st (d m k : Nat) (I J : rs_M) : Prop := rm_c d (bx_M m) (bx_df m) I J ∧ (∀ j, bx_M m j → ml J d j ≤ mh J d j) ∧ ((∀ j, rm_sm d I J j) → ∀ i, i < k → bx_M m i → (∃ x, bx_in (bx_M m) (ml I d) (mh I d) x ∧ bx_df m x ∧ x i = ml I d i) ∧ ∃ x, bx_in (bx_M m) (ml I d) (mh I d) x ∧ bx_df m x ∧ x i = mh I d i)
set_option maxRecDepth 100000 in
set_option maxHeartbeats 2000000 in
theorem cm_different {u e d m : Nat} {I : rs_M} {K : rs_K} (he : 3 ≤ e) (hd : d ≤ 11) (hm : m < 1024) (hbx : ∀ j, bx_M m j → -100 ≤ ml I d j ∧ ml I d j ≤ mh I d j ∧ mh I d j ≤ 100) (hK : ∀ J y, rm_nar d (bx_M m) (bx_df m) I J y → K (some (.inl y)) J) : rs_run u e 92 0 (rs_en0 [.inr (.inr 88), .inl (d : Int), .inl (m : Int)] 7) [] I K := by
  show rs_run u e 92 0 [some (.inr (.inr 88)), some (.inl (d : Int)), some (.inl (m : Int)), none, none, none, none] [] I K
  have g88 : rs_sh 88 = (1, 8) := by decide +kernel
  have g102 : rs_sh 102 = (2, 120) := by decide +kernel
  have g103 : rs_sh 103 = (2, 120) := by decide +kernel
  have f88_18 : rs_rf 88 18 = 102 := by decide +kernel
  have f88_19 : rs_rf 88 19 = 103 := by decide +kernel
  have he0 : 0 < e := by omega
  have he1 : 1 ≤ e - 1 := by omega
  have loop : ∀ (n k : Nat) (J : rs_M) (l4 l5 l6 : Option rs_V), k + n = 10 → rd_st d m k I J → rs_run u e 92 2 [some (.inr (.inr 88)), some (.inl (d : Int)), some (.inl (m : Int)), some (.inl (k : Int)), l4, l5, l6] [] J K := by
    intro n
    induction n with
    | zero =>
      intro k J l4 l5 l6 ek hJ
      have : k = 10 := by omega
      subst this
      have f := hK J 1 (rm_nar_c hJ.1 hJ.2.1 (fun sm j hj => hJ.2.2 sm j hj.1 hj))
      rw [rs_x_92_2]
      simp only [rs_x_92_0, rs_x_92_1, rs_x_92_3, rs_x_92_5, rs_x_92_8, rs_x_92_10, rs_x_92_11, rs_x_92_12, rs_x_92_13, rs_x_92_14, rs_x_92_16, rs_x_92_17, rs_x_92_18, rs_x_92_21, rs_x_92_25, rs_x_92_28, rs_x_92_30, rs_x_92_31, rs_x_92_33, rs_x_92_35, rs_x_92_36, rs_x_92_39, rs_x_92_41, rs_x_92_42, rs_x_92_45, rs_x_92_46, rs_x_92_47, rs_x_92_48, rs_x_92_49, rs_x_92_51, rs_x_92_54, rs_x_92_57, rs_x_92_60, rs_x_92_63, rs_x_92_64, rs_x_92_67, rs_x_92_69, rs_x_92_70, rs_x_92_72, rs_x_92_74, rs_x_92_76, rs_x_92_79, rs_x_92_80, rs_x_92_81, rs_x_92_82, rs_x_92_83, rs_x_92_85, rs_x_92_88, rs_x_92_91, rs_x_92_94, rs_x_92_97, rs_x_92_98, rs_x_92_99, rs_x_92_100, rs_x_92_102, rs_x_92_104, rs_x_92_107, rs_x_92_110, rs_x_92_111, rs_x_92_112, rs_x_92_115, rs_x_92_118, rs_x_92_119, rs_cn_n, rs_cn_i, rs_cn_r, rs_cn_t, rs_up_at, Nat.reduceAdd, Nat.reduceEqDiff, Nat.reduceSub, Int.reduceToNat, Int.reduceNeg, Int.reduceLE, Int.reduceLT, Int.reduceAdd, Int.reduceSub, Int.reduceMul, Int.add_sub_cancel, List.length_cons, List.length_nil, Nat.reduceLeDiff, Nat.reduceLT, Int.cast_ofNat_Int, true_and, and_true, and_self, false_and, and_false, ↓reduceIte, Nat.zero_le, or_true, true_or, false_or, or_false, Nat.sub_zero, Int.toNat_natCast, Nat.le_refl, implies_true, forall_const, Int.reduceEq, Nat.reduceMul, ne_eq, not_true_eq_false, not_false_eq_true, false_implies, true_implies, Nat.left_eq_add, Nat.add_eq_left]
      exact f
    | succ n ih =>
      intro k J l4 l5 l6 ek hJ
      obtain ⟨c, val, sup⟩ := hJ
      have nn : ((10 : Int) ≤ (k : Int)) = False := eq_false (by omega)
      have kb : 0 ≤ (k : Int) ∧ (k : Int) < 10 := by omega
      have rn : rs_R ((k : Int) + 1) := by unfold rs_R; omega
      obtain ⟨ik, x1, x2, x3, _⟩ := rm_ix (d := d) (c := (k : Int)) hd kb
      rw [Int.toNat_natCast] at ik
      rw [rs_x_92_2]
      simp only [rs_x_92_0, rs_x_92_1, rs_x_92_3, rs_x_92_5, rs_x_92_8, rs_x_92_10, rs_x_92_11, rs_x_92_12, rs_x_92_13, rs_x_92_14, rs_x_92_16, rs_x_92_17, rs_x_92_18, rs_x_92_21, rs_x_92_25, rs_x_92_28, rs_x_92_30, rs_x_92_31, rs_x_92_33, rs_x_92_35, rs_x_92_36, rs_x_92_39, rs_x_92_41, rs_x_92_42, rs_x_92_45, rs_x_92_46, rs_x_92_47, rs_x_92_48, rs_x_92_49, rs_x_92_51, rs_x_92_54, rs_x_92_57, rs_x_92_60, rs_x_92_63, rs_x_92_64, rs_x_92_67, rs_x_92_69, rs_x_92_70, rs_x_92_72, rs_x_92_74, rs_x_92_76, rs_x_92_79, rs_x_92_80, rs_x_92_81, rs_x_92_82, rs_x_92_83, rs_x_92_85, rs_x_92_88, rs_x_92_91, rs_x_92_94, rs_x_92_97, rs_x_92_98, rs_x_92_99, rs_x_92_100, rs_x_92_102, rs_x_92_104, rs_x_92_107, rs_x_92_110, rs_x_92_111, rs_x_92_112, rs_x_92_115, rs_x_92_118, rs_x_92_119, rs_cn_n, rs_cn_i, rs_cn_r, rs_cn_t, rs_up_at, Nat.reduceAdd, Nat.reduceEqDiff, Nat.reduceSub, Int.reduceToNat, Int.reduceNeg, Int.reduceLE, Int.reduceLT, Int.reduceAdd, Int.reduceSub, Int.reduceMul, Int.add_sub_cancel, List.length_cons, List.length_nil, Nat.reduceLeDiff, Nat.reduceLT, Int.cast_ofNat_Int, true_and, and_true, and_self, false_and, and_false, ↓reduceIte, Nat.zero_le, or_true, true_or, false_or, or_false, Nat.sub_zero, Int.toNat_natCast, Nat.le_refl, implies_true, forall_const, Int.reduceEq, Nat.reduceMul, ne_eq, not_true_eq_false, not_false_eq_true, false_implies, true_implies, Nat.left_eq_add, Nat.add_eq_left, nn, x1, x2]
      refine ⟨he0, cm_has (by omega) (by omega) (fun t => ?_) (fun t => ?_)⟩
      · have hk : bx_M m k := ⟨by omega, t⟩
        have hbJ : ∀ j, bx_M m j → -100 ≤ ml J d j ∧ ml J d j ≤ mh J d j ∧ mh J d j ≤ 100 := fun j hj => by
          have p1 := hbx j hj
          have p2 := c.1.2.1 j
          have p3 := val j hj
          omega
        have cut := rd_vw (u := u) (K := K) (by omega : 2 ≤ e) hd hm hk hbJ (fun L v w wL hv hw hx hok => ?_) l5 l6
        · simp only [rs_x_92_0, rs_x_92_1, rs_x_92_3, rs_x_92_5, rs_x_92_8, rs_x_92_10, rs_x_92_11, rs_x_92_12, rs_x_92_13, rs_x_92_14, rs_x_92_16, rs_x_92_17, rs_x_92_18, rs_x_92_21, rs_x_92_25, rs_x_92_28, rs_x_92_30, rs_x_92_31, rs_x_92_33, rs_x_92_35, rs_x_92_36, rs_x_92_39, rs_x_92_41, rs_x_92_42, rs_x_92_45, rs_x_92_46, rs_x_92_47, rs_x_92_48, rs_x_92_49, rs_x_92_51, rs_x_92_54, rs_x_92_57, rs_x_92_60, rs_x_92_63, rs_x_92_64, rs_x_92_67, rs_x_92_69, rs_x_92_70, rs_x_92_72, rs_x_92_74, rs_x_92_76, rs_x_92_79, rs_x_92_80, rs_x_92_81, rs_x_92_82, rs_x_92_83, rs_x_92_85, rs_x_92_88, rs_x_92_91, rs_x_92_94, rs_x_92_97, rs_x_92_98, rs_x_92_99, rs_x_92_100, rs_x_92_102, rs_x_92_104, rs_x_92_107, rs_x_92_110, rs_x_92_111, rs_x_92_112, rs_x_92_115, rs_x_92_118, rs_x_92_119, rs_cn_n, rs_cn_i, rs_cn_r, rs_cn_t, rs_up_at, Nat.reduceAdd, Nat.reduceEqDiff, Nat.reduceSub, Int.reduceToNat, Int.reduceNeg, Int.reduceLE, Int.reduceLT, Int.reduceAdd, Int.reduceSub, Int.reduceMul, Int.add_sub_cancel, List.length_cons, List.length_nil, Nat.reduceLeDiff, Nat.reduceLT, Int.cast_ofNat_Int, true_and, and_true, and_self, false_and, and_false, ↓reduceIte, Nat.zero_le, or_true, true_or, false_or, or_false, Nat.sub_zero, Int.toNat_natCast, Nat.le_refl, implies_true, forall_const, Int.reduceEq, Nat.reduceMul, ne_eq, not_true_eq_false, not_false_eq_true, false_implies, true_implies, Nat.left_eq_add, Nat.add_eq_left]
          exact cut
        · obtain ⟨e1, e2⟩ := rm_se_l (d := d) wL
          have cL : rm_c d (bx_M m) (bx_df m) I L := ⟨rm_tr_tr c.1 (rm_se_t wL), by rw [e1, e2]; exact c.2.1, fun j hj => by
            have := c.2.2 j hj
            unfold rm_sm at this ⊢
            rw [e1, e2]
            exact this⟩
          have snd : ∀ x, bx_in (bx_M m) (ml I d) (mh I d) x → bx_in (bx_M m) (ml L d) (mh L d) x → bx_df m x → v ≤ x ((k : Int).toNat) ∧ x ((k : Int).toNat) ≤ w := fun x _ hin hdf => by
            rw [Int.toNat_natCast]
            rw [e1, e2] at hin
            have p := hin k hk
            exact hx _ p.1 p.2 ((st_sup hk p (fun j hj => (hbJ j hj).1)).mpr ⟨x, hin, hdf, rfl⟩)
          have hk' : bx_M m ((k : Int).toNat) := by rw [Int.toNat_natCast]; exact hk
          have c2 := rm_c_cut kb cL hk' snd
          have l2 := rm_cut_lo (I := L) (d := d) (f := v) (t := w) kb
          have h2 := rm_cut_hi (I := L) (d := d) (f := v) (t := w) kb
          rw [Int.toNat_natCast, e1] at l2
          rw [Int.toNat_natCast, e2] at h2
          rw [rs_x_92_97]
          simp only [rs_x_92_0, rs_x_92_1, rs_x_92_3, rs_x_92_5, rs_x_92_8, rs_x_92_10, rs_x_92_11, rs_x_92_12, rs_x_92_13, rs_x_92_14, rs_x_92_16, rs_x_92_17, rs_x_92_18, rs_x_92_21, rs_x_92_24, rs_x_92_25, rs_x_92_28, rs_x_92_30, rs_x_92_31, rs_x_92_33, rs_x_92_35, rs_x_92_36, rs_x_92_39, rs_x_92_41, rs_x_92_42, rs_x_92_45, rs_x_92_46, rs_x_92_47, rs_x_92_48, rs_x_92_49, rs_x_92_51, rs_x_92_54, rs_x_92_57, rs_x_92_60, rs_x_92_63, rs_x_92_64, rs_x_92_67, rs_x_92_69, rs_x_92_70, rs_x_92_72, rs_x_92_74, rs_x_92_76, rs_x_92_79, rs_x_92_80, rs_x_92_81, rs_x_92_82, rs_x_92_83, rs_x_92_85, rs_x_92_88, rs_x_92_91, rs_x_92_94, rs_x_92_98, rs_x_92_99, rs_x_92_100, rs_x_92_102, rs_x_92_104, rs_x_92_107, rs_x_92_110, rs_x_92_111, rs_x_92_112, rs_x_92_115, rs_x_92_118, rs_x_92_119, rs_cn_n, rs_cn_i, rs_cn_r, rs_cn_t, rs_up_at, Nat.reduceAdd, Nat.reduceEqDiff, Nat.reduceSub, Int.reduceToNat, Int.reduceNeg, Int.reduceLE, Int.reduceLT, Int.reduceAdd, Int.reduceSub, Int.reduceMul, Int.add_sub_cancel, List.length_cons, List.length_nil, Nat.reduceLeDiff, Nat.reduceLT, Int.cast_ofNat_Int, true_and, and_true, and_self, false_and, and_false, ↓reduceIte, Nat.zero_le, or_true, true_or, false_or, or_false, Nat.sub_zero, Int.toNat_natCast, Nat.le_refl, implies_true, forall_const, Int.reduceEq, Nat.reduceMul, ne_eq, not_true_eq_false, not_false_eq_true, false_implies, true_implies, Nat.left_eq_add, Nat.add_eq_left, g88]
          refine ⟨he0, cm_cut he1 hd kb (fun v1 => ?_) (fun v1 => ?_)⟩
          · rw [Int.toNat_natCast, e1, e2] at v1
            have i1 := ih (k + 1) (rm_cut L d (k : Int) v w) (some (.inl (10 * (d : Int) + (k : Int)))) (some (.inl v)) (some (.inl w)) (by omega) ⟨c2, fun j hj => by
              rw [l2, h2]
              by_cases ej : j = k
              · subst ej; rw [if_pos rfl, if_pos rfl]; exact v1
              · rw [if_neg ej, if_neg ej]; exact val j hj, fun sm i hi hM => by
              have smJ : ∀ j, rm_sm d I J j := fun j => by
                have p1 := sm j
                have p2 := c.1.2.1 j
                unfold rm_sm at p1 ⊢
                rw [l2, h2] at p1
                by_cases ej : j = k
                · rw [if_pos ej, if_pos ej] at p1; omega
                · rw [if_neg ej, if_neg ej] at p1; exact p1
              by_cases ei : i = k
              · subst ei
                have p1 := sm i
                have p2 := smJ i
                unfold rm_sm at p1 p2
                rw [l2, h2, if_pos rfl, if_pos rfl] at p1
                have bI := hbx i hM
                have q := hok (by omega)
                have ev : v = ml I d i := by omega
                have ew : w = mh I d i := by omega
                have bxe : ml J d = ml I d ∧ mh J d = mh I d := ⟨funext fun j => (smJ j).1, funext fun j => (smJ j).2⟩
                unfold rd_ok at q
                rw [bxe.1, bxe.2, ev, ew] at q
                exact ⟨(st_sup hM (by omega) (fun j hj => (hbx j hj).1)).mp q.1, (st_sup hM (by omega) (fun j hj => (hbx j hj).1)).mp q.2⟩
              · exact sup smJ i (by omega) hM⟩
            simp only [rs_x_92_0, rs_x_92_1, rs_x_92_3, rs_x_92_5, rs_x_92_8, rs_x_92_10, rs_x_92_11, rs_x_92_12, rs_x_92_13, rs_x_92_14, rs_x_92_16, rs_x_92_17, rs_x_92_18, rs_x_92_21, rs_x_92_24, rs_x_92_25, rs_x_92_28, rs_x_92_30, rs_x_92_31, rs_x_92_33, rs_x_92_35, rs_x_92_36, rs_x_92_39, rs_x_92_41, rs_x_92_42, rs_x_92_45, rs_x_92_46, rs_x_92_47, rs_x_92_48, rs_x_92_49, rs_x_92_51, rs_x_92_54, rs_x_92_57, rs_x_92_60, rs_x_92_63, rs_x_92_64, rs_x_92_67, rs_x_92_69, rs_x_92_70, rs_x_92_72, rs_x_92_74, rs_x_92_76, rs_x_92_79, rs_x_92_80, rs_x_92_81, rs_x_92_82, rs_x_92_83, rs_x_92_85, rs_x_92_88, rs_x_92_91, rs_x_92_94, rs_x_92_98, rs_x_92_99, rs_x_92_100, rs_x_92_102, rs_x_92_104, rs_x_92_107, rs_x_92_110, rs_x_92_111, rs_x_92_112, rs_x_92_115, rs_x_92_118, rs_x_92_119, rs_cn_n, rs_cn_i, rs_cn_r, rs_cn_t, rs_up_at, Nat.reduceAdd, Nat.reduceEqDiff, Nat.reduceSub, Int.reduceToNat, Int.reduceNeg, Int.reduceLE, Int.reduceLT, Int.reduceAdd, Int.reduceSub, Int.reduceMul, Int.add_sub_cancel, List.length_cons, List.length_nil, Nat.reduceLeDiff, Nat.reduceLT, Int.cast_ofNat_Int, true_and, and_true, and_self, false_and, and_false, ↓reduceIte, Nat.zero_le, or_true, true_or, false_or, or_false, Nat.sub_zero, Int.toNat_natCast, Nat.le_refl, implies_true, forall_const, Int.reduceEq, Nat.reduceMul, ne_eq, not_true_eq_false, not_false_eq_true, false_implies, true_implies, Nat.left_eq_add, Nat.add_eq_left, g88]
            exact ⟨rn, i1⟩
          · have f := hK (rm_cut L d (k : Int) v w) 0 (rm_nar_no c2.1 (rm_c_no cL hk' snd v1))
            simp only [rs_x_92_0, rs_x_92_1, rs_x_92_3, rs_x_92_5, rs_x_92_8, rs_x_92_10, rs_x_92_11, rs_x_92_12, rs_x_92_13, rs_x_92_14, rs_x_92_16, rs_x_92_17, rs_x_92_18, rs_x_92_21, rs_x_92_24, rs_x_92_25, rs_x_92_28, rs_x_92_30, rs_x_92_31, rs_x_92_33, rs_x_92_35, rs_x_92_36, rs_x_92_39, rs_x_92_41, rs_x_92_42, rs_x_92_45, rs_x_92_46, rs_x_92_47, rs_x_92_48, rs_x_92_49, rs_x_92_51, rs_x_92_54, rs_x_92_57, rs_x_92_60, rs_x_92_63, rs_x_92_64, rs_x_92_67, rs_x_92_69, rs_x_92_70, rs_x_92_72, rs_x_92_74, rs_x_92_76, rs_x_92_79, rs_x_92_80, rs_x_92_81, rs_x_92_82, rs_x_92_83, rs_x_92_85, rs_x_92_88, rs_x_92_91, rs_x_92_94, rs_x_92_98, rs_x_92_99, rs_x_92_100, rs_x_92_102, rs_x_92_104, rs_x_92_107, rs_x_92_110, rs_x_92_111, rs_x_92_112, rs_x_92_115, rs_x_92_118, rs_x_92_119, rs_cn_n, rs_cn_i, rs_cn_r, rs_cn_t, rs_up_at, Nat.reduceAdd, Nat.reduceEqDiff, Nat.reduceSub, Int.reduceToNat, Int.reduceNeg, Int.reduceLE, Int.reduceLT, Int.reduceAdd, Int.reduceSub, Int.reduceMul, Int.add_sub_cancel, List.length_cons, List.length_nil, Nat.reduceLeDiff, Nat.reduceLT, Int.cast_ofNat_Int, true_and, and_true, and_self, false_and, and_false, ↓reduceIte, Nat.zero_le, or_true, true_or, false_or, or_false, Nat.sub_zero, Int.toNat_natCast, Nat.le_refl, implies_true, forall_const, Int.reduceEq, Nat.reduceMul, ne_eq, not_true_eq_false, not_false_eq_true, false_implies, true_implies, Nat.left_eq_add, Nat.add_eq_left, g88]
            exact f
      · have i1 := ih (k + 1) J (some (.inl (10 * (d : Int) + (k : Int)))) l5 l6 (by omega) ⟨c, val, fun sm i hi hM => sup sm i (by
          have : i ≠ k := fun q => by rw [← q] at t; rw [hM.2] at t; cases t
          omega) hM⟩
        simp only [rs_x_92_0, rs_x_92_1, rs_x_92_3, rs_x_92_5, rs_x_92_8, rs_x_92_10, rs_x_92_11, rs_x_92_12, rs_x_92_13, rs_x_92_14, rs_x_92_16, rs_x_92_17, rs_x_92_18, rs_x_92_21, rs_x_92_25, rs_x_92_28, rs_x_92_30, rs_x_92_31, rs_x_92_33, rs_x_92_35, rs_x_92_36, rs_x_92_39, rs_x_92_41, rs_x_92_42, rs_x_92_45, rs_x_92_46, rs_x_92_47, rs_x_92_48, rs_x_92_49, rs_x_92_51, rs_x_92_54, rs_x_92_57, rs_x_92_60, rs_x_92_63, rs_x_92_64, rs_x_92_67, rs_x_92_69, rs_x_92_70, rs_x_92_72, rs_x_92_74, rs_x_92_76, rs_x_92_79, rs_x_92_80, rs_x_92_81, rs_x_92_82, rs_x_92_83, rs_x_92_85, rs_x_92_88, rs_x_92_91, rs_x_92_94, rs_x_92_97, rs_x_92_98, rs_x_92_99, rs_x_92_100, rs_x_92_102, rs_x_92_104, rs_x_92_107, rs_x_92_110, rs_x_92_111, rs_x_92_112, rs_x_92_115, rs_x_92_118, rs_x_92_119, rs_cn_n, rs_cn_i, rs_cn_r, rs_cn_t, rs_up_at, Nat.reduceAdd, Nat.reduceEqDiff, Nat.reduceSub, Int.reduceToNat, Int.reduceNeg, Int.reduceLE, Int.reduceLT, Int.reduceAdd, Int.reduceSub, Int.reduceMul, Int.add_sub_cancel, List.length_cons, List.length_nil, Nat.reduceLeDiff, Nat.reduceLT, Int.cast_ofNat_Int, true_and, and_true, and_self, false_and, and_false, ↓reduceIte, Nat.zero_le, or_true, true_or, false_or, or_false, Nat.sub_zero, Int.toNat_natCast, Nat.le_refl, implies_true, forall_const, Int.reduceEq, Nat.reduceMul, ne_eq, not_true_eq_false, not_false_eq_true, false_implies, true_implies, Nat.left_eq_add, Nat.add_eq_left]
        exact ⟨rn, i1⟩
  have f := loop 10 0 I none none none (by omega) ⟨rm_c_rf, fun j hj => (hbx j hj).2.1, fun _ i hi => by omega⟩
  simp only [rs_x_92_0, rs_x_92_1, rs_x_92_3, rs_x_92_5, rs_x_92_8, rs_x_92_10, rs_x_92_11, rs_x_92_12, rs_x_92_13, rs_x_92_14, rs_x_92_16, rs_x_92_17, rs_x_92_18, rs_x_92_21, rs_x_92_24, rs_x_92_25, rs_x_92_28, rs_x_92_30, rs_x_92_31, rs_x_92_33, rs_x_92_35, rs_x_92_36, rs_x_92_39, rs_x_92_41, rs_x_92_42, rs_x_92_45, rs_x_92_46, rs_x_92_47, rs_x_92_48, rs_x_92_49, rs_x_92_51, rs_x_92_54, rs_x_92_57, rs_x_92_60, rs_x_92_63, rs_x_92_64, rs_x_92_67, rs_x_92_69, rs_x_92_70, rs_x_92_72, rs_x_92_74, rs_x_92_76, rs_x_92_79, rs_x_92_80, rs_x_92_81, rs_x_92_82, rs_x_92_83, rs_x_92_85, rs_x_92_88, rs_x_92_91, rs_x_92_94, rs_x_92_97, rs_x_92_98, rs_x_92_99, rs_x_92_100, rs_x_92_102, rs_x_92_104, rs_x_92_107, rs_x_92_110, rs_x_92_111, rs_x_92_112, rs_x_92_115, rs_x_92_118, rs_x_92_119, rs_cn_n, rs_cn_i, rs_cn_r, rs_cn_t, rs_up_at, Nat.reduceAdd, Nat.reduceEqDiff, Nat.reduceSub, Int.reduceToNat, Int.reduceNeg, Int.reduceLE, Int.reduceLT, Int.reduceAdd, Int.reduceSub, Int.reduceMul, Int.add_sub_cancel, List.length_cons, List.length_nil, Nat.reduceLeDiff, Nat.reduceLT, Int.cast_ofNat_Int, true_and, and_true, and_self, false_and, and_false, ↓reduceIte, Nat.zero_le, or_true, true_or, false_or, or_false, Nat.sub_zero, Int.toNat_natCast, Nat.le_refl, implies_true, forall_const, Int.reduceEq, Nat.reduceMul, ne_eq, not_true_eq_false, not_false_eq_true, false_implies, true_implies, Nat.left_eq_add, Nat.add_eq_left]
  exact f
