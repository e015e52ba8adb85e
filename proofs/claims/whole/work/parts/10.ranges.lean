/-- q is a Ranges object: its arrays follow it -/
def rs_isR (q : Nat) : Prop := rs_sh q = (1, 2) ∧ rs_rf q 0 = q + 1 ∧ rs_rf q 1 = q + 2 ∧ rs_sh (q + 1) = (2, 10) ∧ rs_sh (q + 2) = (2, 10)
set_option maxRecDepth 100000 in
set_option maxHeartbeats 1000000 in
theorem ct_width {u d q : Nat} {c : Int} {I : rs_M} {K : rs_K} (hq : rs_isR q) (hc : 0 ≤ c ∧ c < 10) (hR : rs_R (I (q + 2) c.toNat - I (q + 1) c.toNat)) (hk : K (some (.inl (I (q + 2) c.toNat - I (q + 1) c.toNat))) I) : rs_run u d 22 0 (rs_en0 [.inr (.inr q), .inl c] 2) [] I K := by
  obtain ⟨h1, h2, h3, h4, h5⟩ := hq
  show rs_run u d 22 0 [some (.inr (.inr q)), some (.inl c)] [] I K
  refine rs_of_vc 22 [] 20 ?_
  simp only [rs_vc, rs_stp, rs_ins, rs_p1_c, rs_p2_c, rs_pr_c, rs_pl_c, rs_gi, rs_gr, rs_nth_0, rs_nth_s, rs_st_0, rs_st_s, rs_tk, rs_rec_c, rs_cnd, rs_sw, rs_inb, rs_mx, rs_na, rs_stc, rs_ci, rs_oc, rs_un, rs_rt, Nat.reduceBEq, Bool.and_true, Bool.true_and, Bool.not_false, Bool.not_true, Bool.and_false, Bool.false_and, Bool.or_false, Bool.false_or, Bool.or_true, Bool.true_or, ↓reduceIte, Bool.false_eq_true, Nat.reduceAdd, Int.cast_ofNat_Int, false_and, and_false, Int.reduceAdd, Int.reduceToNat, Int.reduceLE, Int.reduceLT, Int.reduceNeg, true_and, and_true, and_self, Nat.zero_le, Nat.sub_zero, List.length_cons, List.length_nil, Nat.reduceLeDiff, Nat.reduceEqDiff, Nat.reduceLT, Nat.reduceSub, reduceCtorEq, or_true, true_or, false_or, or_false, Option.some.injEq, List.cons_append, List.nil_append, Option.toList_some, Option.toList_none, rs_fv0, rs_fv1, rs_fv2, rs_fv3, Classical.not_not, Nat.reduceMod, Int.natCast_add, ne_eq, not_false_eq_true, Nat.zero_add, rs_d_22_0, rs_d_22_1, rs_f_22_15, rs_d_22_4, rs_d_22_5, rs_d_22_6, rs_d_22_7, rs_f_22_9, rs_d_22_10, rs_d_22_11, rs_d_22_12, rs_d_22_13, h1, h2, h3, h4, h5]
  trace_state
  sorry
set_option maxRecDepth 100000 in
set_option maxHeartbeats 1000000 in
theorem ct_raise {u d q : Nat} {c v : Int} {I : rs_M} {K : rs_K} (hq : rs_isR q) (hc : 0 ≤ c ∧ c < 10) : rs_run u d 24 0 (rs_en0 [.inr (.inr q), .inl c, .inl v] 3) [] I K := by
  obtain ⟨h1, h2, h3, h4, h5⟩ := hq
  show rs_run u d 24 0 [some (.inr (.inr q)), some (.inl c), some (.inl v)] [] I K
  refine rs_of_vc 24 [] 50 ?_
  simp only [rs_vc, rs_stp, rs_ins, rs_p1_c, rs_p2_c, rs_pr_c, rs_pl_c, rs_gi, rs_gr, rs_nth_0, rs_nth_s, rs_st_0, rs_st_s, rs_tk, rs_rec_c, rs_cnd, rs_sw, rs_inb, rs_mx, rs_na, rs_stc, rs_ci, rs_oc, rs_un, rs_rt, Nat.reduceBEq, Bool.and_true, Bool.true_and, Bool.not_false, Bool.not_true, Bool.and_false, Bool.false_and, Bool.or_false, Bool.false_or, Bool.or_true, Bool.true_or, ↓reduceIte, Bool.false_eq_true, Nat.reduceAdd, Int.cast_ofNat_Int, false_and, and_false, Int.reduceAdd, Int.reduceToNat, Int.reduceLE, Int.reduceLT, Int.reduceNeg, true_and, and_true, and_self, Nat.zero_le, Nat.sub_zero, List.length_cons, List.length_nil, Nat.reduceLeDiff, Nat.reduceEqDiff, Nat.reduceLT, Nat.reduceSub, reduceCtorEq, or_true, true_or, false_or, or_false, Option.some.injEq, List.cons_append, List.nil_append, Option.toList_some, Option.toList_none, rs_fv0, rs_fv1, rs_fv2, rs_fv3, Classical.not_not, Nat.reduceMod, Int.natCast_add, ne_eq, not_false_eq_true, Nat.zero_add, rs_d_24_0, rs_d_24_1, rs_d_24_2, rs_f_24_9, rs_d_24_5, rs_d_24_6, rs_d_24_7, rs_d_24_10, rs_d_24_11, rs_d_24_14, rs_d_24_15, rs_d_24_16, rs_d_24_17, rs_d_24_18, rs_d_24_19, rs_f_24_24, rs_d_24_22, rs_d_24_23, rs_d_24_24, rs_d_24_25, rs_d_24_26, rs_d_24_29, rs_d_24_30, rs_d_24_31, rs_f_24_28, rs_d_24_34, rs_d_24_37, rs_d_24_38, rs_d_24_39, rs_f_24_15, rs_d_24_42, rs_d_24_43, rs_d_24_44, rs_d_24_47, rs_d_24_48, rs_d_24_51, rs_d_24_52, rs_d_24_55, h1, h2, h3, h4, h5]
  trace_state
  sorry
