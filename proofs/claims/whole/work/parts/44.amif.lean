/-! ===== the class narrows by at most and by if ===== -/
def rg_am (I : rs_M) (q : Nat) (a b n : Int) : rs_M := if a = b then rs_up I q 3 (if I q 3 = 0 ∧ n ≤ 0 then 0 else 1) else rg_raise (rg_lower I q a (I (q + 2) b.toNat - n)) q b (I (q + 1) a.toNat + n)
set_option maxRecDepth 100000 in
set_option maxHeartbeats 2000000 in
theorem ct_atMost {u d q : Nat} {a b n : Int} {I : rs_M} {K : rs_K} (hd : 1 ≤ d) (hq : rs_isR q) (ha : 0 ≤ a ∧ a < 10) (hb : 0 ≤ b ∧ b < 10) (hn : -200 ≤ n ∧ n ≤ 200) (ba : -100 ≤ I (q + 1) a.toNat ∧ I (q + 1) a.toNat ≤ 100) (bb : -100 ≤ I (q + 2) b.toNat ∧ I (q + 2) b.toNat ≤ 100) (h : K none (rg_am I q a b n)) : rs_run u d 9 0 (rs_en0 [.inl a, .inl b, .inl n, .inr (.inr q)] 4) [] I K := by
  show rs_run u d 9 0 [some (.inl a), some (.inl b), some (.inl n), some (.inr (.inr q))] [] I K
  obtain ⟨q1, q2, q3, q4, q5⟩ := id hq
  unfold rg_am at h
  have hd0 : 0 < d := by omega
  have r1 : rs_R (I (q + 2) b.toNat - n) := by unfold rs_R; omega
  have r2 : rs_R (I (q + 1) a.toNat + n) := by unfold rs_R; omega
  by_cases e : a = b
  · rw [if_pos e] at h
    simp only [rs_x_9_0, rs_x_9_1, rs_x_9_2, rs_x_9_5, rs_x_9_6, rs_x_9_7, rs_x_9_10, rs_x_9_13, rs_x_9_14, rs_x_9_17, rs_x_9_18, rs_x_9_21, rs_x_9_22, rs_x_9_25, rs_x_9_28, rs_x_9_29, rs_x_9_30, rs_x_9_31, rs_x_9_34, rs_x_9_35, rs_x_9_36, rs_x_9_37, rs_x_9_38, rs_x_9_41, rs_x_9_42, rs_x_9_43, rs_x_9_44, rs_x_9_47, rs_x_9_48, rs_x_9_49, rs_x_9_50, rs_x_9_51, rs_x_9_54, rs_cn_n, rs_cn_i, rs_cn_r, rs_cn_t, rs_up_at, Nat.reduceAdd, Nat.reduceEqDiff, Nat.reduceSub, Int.reduceToNat, Int.reduceNeg, Int.reduceLE, Int.reduceLT, Int.reduceAdd, Int.reduceSub, Int.reduceMul, Int.add_sub_cancel, List.length_cons, List.length_nil, Nat.reduceLeDiff, Nat.reduceLT, Int.cast_ofNat_Int, true_and, and_true, and_self, false_and, and_false, ↓reduceIte, Nat.zero_le, or_true, true_or, false_or, or_false, Nat.sub_zero, Int.toNat_natCast, Nat.le_refl, implies_true, forall_const, Int.reduceEq, Nat.reduceMul, ne_eq, not_true_eq_false, not_false_eq_true, false_implies, true_implies, Nat.left_eq_add, Nat.add_eq_left, q1, q2, q3, q4, q5]
    refine ⟨fun g => absurd e g, fun _ => ⟨fun g1 => ?_, fun g1 => ⟨fun g2 => ?_, fun g2 => ?_⟩⟩⟩
    · rw [if_neg (fun g => g1 g.1)] at h; exact h
    · rw [if_pos ⟨g1, g2⟩] at h; exact h
    · rw [if_neg (fun g => g2 g.2)] at h; exact h
  · rw [if_neg e] at h
    simp only [rs_x_9_0, rs_x_9_1, rs_x_9_2, rs_x_9_5, rs_x_9_6, rs_x_9_7, rs_x_9_10, rs_x_9_13, rs_x_9_14, rs_x_9_17, rs_x_9_18, rs_x_9_21, rs_x_9_22, rs_x_9_25, rs_x_9_28, rs_x_9_29, rs_x_9_30, rs_x_9_31, rs_x_9_34, rs_x_9_35, rs_x_9_36, rs_x_9_37, rs_x_9_38, rs_x_9_41, rs_x_9_42, rs_x_9_43, rs_x_9_44, rs_x_9_47, rs_x_9_48, rs_x_9_49, rs_x_9_50, rs_x_9_51, rs_x_9_54, rs_cn_n, rs_cn_i, rs_cn_r, rs_cn_t, rs_up_at, Nat.reduceAdd, Nat.reduceEqDiff, Nat.reduceSub, Int.reduceToNat, Int.reduceNeg, Int.reduceLE, Int.reduceLT, Int.reduceAdd, Int.reduceSub, Int.reduceMul, Int.add_sub_cancel, List.length_cons, List.length_nil, Nat.reduceLeDiff, Nat.reduceLT, Int.cast_ofNat_Int, true_and, and_true, and_self, false_and, and_false, ↓reduceIte, Nat.zero_le, or_true, true_or, false_or, or_false, Nat.sub_zero, Int.toNat_natCast, Nat.le_refl, implies_true, forall_const, Int.reduceEq, Nat.reduceMul, ne_eq, not_true_eq_false, not_false_eq_true, false_implies, true_implies, Nat.left_eq_add, Nat.add_eq_left, q1, q2, q3, q4, q5]
    refine ⟨fun _ => ⟨hb, r1, hd0, ct_lower hq ha ?_⟩, fun g => absurd g e⟩
    simp only [rs_x_9_0, rs_x_9_1, rs_x_9_2, rs_x_9_5, rs_x_9_6, rs_x_9_7, rs_x_9_10, rs_x_9_13, rs_x_9_14, rs_x_9_17, rs_x_9_18, rs_x_9_21, rs_x_9_22, rs_x_9_25, rs_x_9_28, rs_x_9_29, rs_x_9_30, rs_x_9_31, rs_x_9_34, rs_x_9_35, rs_x_9_36, rs_x_9_37, rs_x_9_38, rs_x_9_41, rs_x_9_42, rs_x_9_43, rs_x_9_44, rs_x_9_47, rs_x_9_48, rs_x_9_49, rs_x_9_50, rs_x_9_51, rs_x_9_54, rs_cn_n, rs_cn_i, rs_cn_r, rs_cn_t, rs_up_at, Nat.reduceAdd, Nat.reduceEqDiff, Nat.reduceSub, Int.reduceToNat, Int.reduceNeg, Int.reduceLE, Int.reduceLT, Int.reduceAdd, Int.reduceSub, Int.reduceMul, Int.add_sub_cancel, List.length_cons, List.length_nil, Nat.reduceLeDiff, Nat.reduceLT, Int.cast_ofNat_Int, true_and, and_true, and_self, false_and, and_false, ↓reduceIte, Nat.zero_le, or_true, true_or, false_or, or_false, Nat.sub_zero, Int.toNat_natCast, Nat.le_refl, implies_true, forall_const, Int.reduceEq, Nat.reduceMul, ne_eq, not_true_eq_false, not_false_eq_true, false_implies, true_implies, Nat.left_eq_add, Nat.add_eq_left, q1, q2, q3, q4, q5, rg_lower_lo]
    refine ⟨ha, r2, hd0, ct_raise hq hb ?_⟩
    simp only [rs_x_9_0, rs_x_9_1, rs_x_9_2, rs_x_9_5, rs_x_9_6, rs_x_9_7, rs_x_9_10, rs_x_9_13, rs_x_9_14, rs_x_9_17, rs_x_9_18, rs_x_9_21, rs_x_9_22, rs_x_9_25, rs_x_9_28, rs_x_9_29, rs_x_9_30, rs_x_9_31, rs_x_9_34, rs_x_9_35, rs_x_9_36, rs_x_9_37, rs_x_9_38, rs_x_9_41, rs_x_9_42, rs_x_9_43, rs_x_9_44, rs_x_9_47, rs_x_9_48, rs_x_9_49, rs_x_9_50, rs_x_9_51, rs_x_9_54, rs_cn_n, rs_cn_i, rs_cn_r, rs_cn_t, rs_up_at, Nat.reduceAdd, Nat.reduceEqDiff, Nat.reduceSub, Int.reduceToNat, Int.reduceNeg, Int.reduceLE, Int.reduceLT, Int.reduceAdd, Int.reduceSub, Int.reduceMul, Int.add_sub_cancel, List.length_cons, List.length_nil, Nat.reduceLeDiff, Nat.reduceLT, Int.cast_ofNat_Int, true_and, and_true, and_self, false_and, and_false, ↓reduceIte, Nat.zero_le, or_true, true_or, false_or, or_false, Nat.sub_zero, Int.toNat_natCast, Nat.le_refl, implies_true, forall_const, Int.reduceEq, Nat.reduceMul, ne_eq, not_true_eq_false, not_false_eq_true, false_implies, true_implies, Nat.left_eq_add, Nat.add_eq_left, q1, q2, q3, q4, q5]
    exact h
theorem rg_am_tr {I : rs_M} {q : Nat} {a b n : Int} (ha : 0 ≤ a ∧ a < 10) (hb : 0 ≤ b ∧ b < 10) (hab : a ≠ b) : rg_tr q I (rg_am I q a b n) := by
  unfold rg_am
  rw [if_neg hab]
  exact rg_tr_tr (rg_tr_lower ha) (rg_tr_raise hb)
theorem rg_am_lo {I : rs_M} {q : Nat} {a b n : Int} (hab : a ≠ b) (j : Nat) : rg_am I q a b n (q + 1) j = if j = b.toNat then max (I (q + 1) j) (I (q + 1) a.toNat + n) else I (q + 1) j := by
  unfold rg_am
  rw [if_neg hab, rg_raise_lo, rg_lower_lo]
theorem rg_am_hi {I : rs_M} {q : Nat} {a b n : Int} (hab : a ≠ b) (j : Nat) : rg_am I q a b n (q + 2) j = if j = a.toNat then min (I (q + 2) j) (I (q + 2) b.toNat - n) else I (q + 2) j := by
  unfold rg_am
  rw [if_neg hab, rg_raise_hi, rg_lower_hi]
/-- a write of broken alone -/
theorem rg_b_o {I : rs_M} {q : Nat} {v : Int} : ∀ a j, a ≠ q → a ≠ q + 1 → a ≠ q + 2 → (a < 9 ∨ 11 < a) → rs_up I q 3 v a j = I a j := fun a j h _ _ _ => by
  rw [rs_up_at, if_neg (fun g => h g.1)]
theorem rg_tr_b {I : rs_M} {q : Nat} (h3 : I q 3 = 0) : rg_tr q I (rs_up I q 3 0) := by
  have e : rs_up I q 3 0 = I := by
    funext a j
    rw [rs_up_at]
    split
    · rename_i g; rw [g.1, g.2, h3]
    · rfl
  rw [e]; exact rg_tr_rf
theorem rg_am_nar {I : rs_M} {q : Nat} {a b n : Int} (h2 : I q 2 = 0) (h3 : I q 3 = 0) (ha : 0 ≤ a ∧ a < 10) (hb : 0 ≤ b ∧ b < 10) (ba : I (q + 1) a.toNat ≤ I (q + 2) a.toNat) (bb : I (q + 1) b.toNat ≤ I (q + 2) b.toNat) : rg_nar q (bx_3 a.toNat b.toNat b.toNat) (fun x => (fun u v _ => u + n ≤ v) (x a.toNat) (x b.toNat) (x b.toNat)) I (rg_am I q a b n) := by
  by_cases e : a = b
  · subst e
    obtain ⟨s1, s2⟩ := am_one (lo := I (q + 1)) (hi := I (q + 2)) (a := a.toNat) (n := n) ba
    by_cases hn : n ≤ 0
    · have e : rg_am I q a a n = rs_up I q 3 0 := by unfold rg_am; rw [if_pos rfl, if_pos ⟨h3, hn⟩]
      have e1 : rs_up I q 3 0 (q + 1) = I (q + 1) := by funext j; simp [rs_up_at]
      have e2 : rs_up I q 3 0 (q + 2) = I (q + 2) := by funext j; simp [rs_up_at]
      rw [e]
      refine rg_nar_of h2 h3 (rg_tr_b h3) (fun j _ => ?_) (fun j hj => ?_) ?_ ?_
      · unfold rg_sm; rw [e1, e2]; exact ⟨rfl, rfl⟩
      · rcases hj with g | g | g <;> rw [g] <;> exact ba
      · rw [e1, e2]; exact fun x hx _ => hx
      · rw [e1, e2]; exact fun _ _ => s1 hn
    · have e : rg_am I q a a n = rs_up I q 3 1 := by unfold rg_am; rw [if_pos rfl, if_neg (fun g => hn g.2)]
      rw [e]
      exact rg_nar_no rg_b_o (by simp [rs_up_at, h2]) (by simp [rs_up_at]) (s2 (by omega))
  · have nab : ¬ a.toNat = b.toNat := by omega
    have nba : ¬ b.toNat = a.toNat := by omega
    refine rg_nar_of h2 h3 (rg_am_tr ha hb e) (fun j hj => ?_) (fun j hj => ?_) (am_snd ?_ ?_) (fun _ hv => ?_)
    · unfold rg_sm
      rw [rg_am_lo e, rg_am_hi e, if_neg (fun g => hj (Or.inr (Or.inl g))), if_neg (fun g => hj (Or.inl g))]
      exact ⟨rfl, rfl⟩
    · rcases hj with g | g | g <;> rw [g] <;> assumption
    · rw [rg_am_lo e, rg_am_hi e, if_neg nab, if_pos rfl]; omega
    · rw [rg_am_lo e, rg_am_hi e, if_pos rfl, if_neg nba]; omega
    · have va := hv _ (Or.inl rfl)
      have vb := hv _ (Or.inr (Or.inl rfl))
      refine am_sup nab va vb ?_ ?_
      · rw [rg_am_hi e, if_pos rfl, rg_am_hi e, if_neg nba]; omega
      · rw [rg_am_lo e, if_neg nab, rg_am_lo e, if_pos rfl]; omega
/-- if -/
def rg_top (I : rs_M) (q : Nat) (a b c : Int) : Int := max (if b = c then I (q + 2) a.toNat else if a = b then I (q + 2) c.toNat else if I (q + 2) c.toNat < I (q + 1) b.toNat then 0 else I (q + 2) a.toNat) 0
def rg_if (I : rs_M) (q : Nat) (a b c : Int) : rs_M := if 1 ≤ I (q + 1) a.toNat then rg_am I q b c 0 else rg_lower I q a (rg_top I q a b c)
set_option maxRecDepth 100000 in
set_option maxHeartbeats 2000000 in
theorem ct_if {u d p q : Nat} {a b c : Int} {I : rs_M} {K : rs_K} (hd : 2 ≤ d) (hq : rs_isR q) (hp : rs_sh p = (1, 3)) (hpq : p < q) (ea : I p 1 = a) (eb : I p 2 = b) (ec : I p 3 = c) (ha : 0 ≤ a ∧ a < 10) (hb : 0 ≤ b ∧ b < 10) (hc : 0 ≤ c ∧ c < 10) (bb : -100 ≤ I (q + 1) b.toNat ∧ I (q + 1) b.toNat ≤ 100) (bc : -100 ≤ I (q + 2) c.toNat ∧ I (q + 2) c.toNat ≤ 100) (h : K none (rg_if I q a b c)) : rs_run u d 10 0 (rs_en0 [.inr (.inr p), .inr (.inr q)] 3) [] I K := by
  show rs_run u d 10 0 [some (.inr (.inr p)), some (.inr (.inr q)), none] [] I K
  obtain ⟨q1, q2, q3, q4, q5⟩ := id hq
  have hd0 : 0 < d := by omega
  have hd1 : 1 ≤ d - 1 := by omega
  unfold rg_if at h
  by_cases g1 : 1 ≤ I (q + 1) a.toNat
  · rw [if_pos g1] at h
    simp only [rs_x_10_0, rs_x_10_1, rs_x_10_4, rs_x_10_5, rs_x_10_8, rs_x_10_9, rs_x_10_10, rs_x_10_13, rs_x_10_14, rs_x_10_17, rs_x_10_18, rs_x_10_21, rs_x_10_22, rs_x_10_23, rs_x_10_26, rs_x_10_27, rs_x_10_28, rs_x_10_31, rs_x_10_32, rs_x_10_35, rs_x_10_36, rs_x_10_37, rs_x_10_38, rs_x_10_41, rs_x_10_42, rs_x_10_45, rs_x_10_48, rs_x_10_49, rs_x_10_52, rs_x_10_53, rs_x_10_56, rs_x_10_59, rs_x_10_60, rs_x_10_63, rs_x_10_64, rs_x_10_67, rs_x_10_68, rs_x_10_69, rs_x_10_72, rs_x_10_73, rs_x_10_76, rs_x_10_77, rs_x_10_80, rs_x_10_81, rs_x_10_82, rs_x_10_85, rs_x_10_86, rs_x_10_89, rs_x_10_90, rs_x_10_93, rs_x_10_94, rs_x_10_95, rs_x_10_96, rs_x_10_97, rs_x_10_100, rs_x_10_101, rs_x_10_102, rs_x_10_105, rs_x_10_108, rs_cn_n, rs_cn_i, rs_cn_r, rs_cn_t, rs_up_at, Nat.reduceAdd, Nat.reduceEqDiff, Nat.reduceSub, Int.reduceToNat, Int.reduceNeg, Int.reduceLE, Int.reduceLT, Int.reduceAdd, Int.reduceSub, Int.reduceMul, Int.add_sub_cancel, List.length_cons, List.length_nil, Nat.reduceLeDiff, Nat.reduceLT, Int.cast_ofNat_Int, true_and, and_true, and_self, false_and, and_false, ↓reduceIte, Nat.zero_le, or_true, true_or, false_or, or_false, Nat.sub_zero, Int.toNat_natCast, Nat.le_refl, implies_true, forall_const, Int.reduceEq, Nat.reduceMul, ne_eq, not_true_eq_false, not_false_eq_true, false_implies, true_implies, Nat.left_eq_add, Nat.add_eq_left, q1, q2, q3, q4, q5, hp, ea, eb, ec]
    refine ⟨ha, fun g => by omega, fun _ => ⟨hd0, ct_atMost hd1 hq hb hc (by omega) bb bc ?_⟩⟩
    simp only [rs_x_10_0, rs_x_10_1, rs_x_10_4, rs_x_10_5, rs_x_10_8, rs_x_10_9, rs_x_10_10, rs_x_10_13, rs_x_10_14, rs_x_10_17, rs_x_10_18, rs_x_10_21, rs_x_10_22, rs_x_10_23, rs_x_10_26, rs_x_10_27, rs_x_10_28, rs_x_10_31, rs_x_10_32, rs_x_10_35, rs_x_10_36, rs_x_10_37, rs_x_10_38, rs_x_10_41, rs_x_10_42, rs_x_10_45, rs_x_10_48, rs_x_10_49, rs_x_10_52, rs_x_10_53, rs_x_10_56, rs_x_10_59, rs_x_10_60, rs_x_10_63, rs_x_10_64, rs_x_10_67, rs_x_10_68, rs_x_10_69, rs_x_10_72, rs_x_10_73, rs_x_10_76, rs_x_10_77, rs_x_10_80, rs_x_10_81, rs_x_10_82, rs_x_10_85, rs_x_10_86, rs_x_10_89, rs_x_10_90, rs_x_10_93, rs_x_10_94, rs_x_10_95, rs_x_10_96, rs_x_10_97, rs_x_10_100, rs_x_10_101, rs_x_10_102, rs_x_10_105, rs_x_10_108, rs_cn_n, rs_cn_i, rs_cn_r, rs_cn_t, rs_up_at, Nat.reduceAdd, Nat.reduceEqDiff, Nat.reduceSub, Int.reduceToNat, Int.reduceNeg, Int.reduceLE, Int.reduceLT, Int.reduceAdd, Int.reduceSub, Int.reduceMul, Int.add_sub_cancel, List.length_cons, List.length_nil, Nat.reduceLeDiff, Nat.reduceLT, Int.cast_ofNat_Int, true_and, and_true, and_self, false_and, and_false, ↓reduceIte, Nat.zero_le, or_true, true_or, false_or, or_false, Nat.sub_zero, Int.toNat_natCast, Nat.le_refl, implies_true, forall_const, Int.reduceEq, Nat.reduceMul, ne_eq, not_true_eq_false, not_false_eq_true, false_implies, true_implies, Nat.left_eq_add, Nat.add_eq_left, q1, q2, q3, q4, q5, hp, ea, eb, ec]
    exact h
  · rw [if_neg g1] at h
    unfold rg_top at h
    by_cases g2 : b = c
    · rw [if_pos g2] at h
      simp only [rs_x_10_0, rs_x_10_1, rs_x_10_4, rs_x_10_5, rs_x_10_8, rs_x_10_9, rs_x_10_10, rs_x_10_13, rs_x_10_14, rs_x_10_17, rs_x_10_18, rs_x_10_21, rs_x_10_22, rs_x_10_23, rs_x_10_26, rs_x_10_27, rs_x_10_28, rs_x_10_31, rs_x_10_32, rs_x_10_35, rs_x_10_36, rs_x_10_37, rs_x_10_38, rs_x_10_41, rs_x_10_42, rs_x_10_45, rs_x_10_48, rs_x_10_49, rs_x_10_52, rs_x_10_53, rs_x_10_56, rs_x_10_59, rs_x_10_60, rs_x_10_63, rs_x_10_64, rs_x_10_67, rs_x_10_68, rs_x_10_69, rs_x_10_72, rs_x_10_73, rs_x_10_76, rs_x_10_77, rs_x_10_80, rs_x_10_81, rs_x_10_82, rs_x_10_85, rs_x_10_86, rs_x_10_89, rs_x_10_90, rs_x_10_93, rs_x_10_94, rs_x_10_95, rs_x_10_96, rs_x_10_97, rs_x_10_100, rs_x_10_101, rs_x_10_102, rs_x_10_105, rs_x_10_108, rs_cn_n, rs_cn_i, rs_cn_r, rs_cn_t, rs_up_at, Nat.reduceAdd, Nat.reduceEqDiff, Nat.reduceSub, Int.reduceToNat, Int.reduceNeg, Int.reduceLE, Int.reduceLT, Int.reduceAdd, Int.reduceSub, Int.reduceMul, Int.add_sub_cancel, List.length_cons, List.length_nil, Nat.reduceLeDiff, Nat.reduceLT, Int.cast_ofNat_Int, true_and, and_true, and_self, false_and, and_false, ↓reduceIte, Nat.zero_le, or_true, true_or, false_or, or_false, Nat.sub_zero, Int.toNat_natCast, Nat.le_refl, implies_true, forall_const, Int.reduceEq, Nat.reduceMul, ne_eq, not_true_eq_false, not_false_eq_true, false_implies, true_implies, Nat.left_eq_add, Nat.add_eq_left, q1, q2, q3, q4, q5, hp, ea, eb, ec]
      refine ⟨ha, fun _ => ⟨ha, fun _ => ?_, fun g => absurd g2 g⟩, fun g => by omega⟩
      repeat' (first
    | refine And.intro ?_ ?_
    | (guard_target =~ (_ → _); intro)
    | omega
    | (unfold rs_R; omega)
    | exact h
    | decide
    | (refine ct_lower hq ha ?_; simp only [rs_x_10_0, rs_x_10_1, rs_x_10_4, rs_x_10_5, rs_x_10_8, rs_x_10_9, rs_x_10_10, rs_x_10_13, rs_x_10_14, rs_x_10_17, rs_x_10_18, rs_x_10_21, rs_x_10_22, rs_x_10_23, rs_x_10_26, rs_x_10_27, rs_x_10_28, rs_x_10_31, rs_x_10_32, rs_x_10_35, rs_x_10_36, rs_x_10_37, rs_x_10_38, rs_x_10_41, rs_x_10_42, rs_x_10_45, rs_x_10_48, rs_x_10_49, rs_x_10_52, rs_x_10_53, rs_x_10_56, rs_x_10_59, rs_x_10_60, rs_x_10_63, rs_x_10_64, rs_x_10_67, rs_x_10_68, rs_x_10_69, rs_x_10_72, rs_x_10_73, rs_x_10_76, rs_x_10_77, rs_x_10_80, rs_x_10_81, rs_x_10_82, rs_x_10_85, rs_x_10_86, rs_x_10_89, rs_x_10_90, rs_x_10_93, rs_x_10_94, rs_x_10_95, rs_x_10_96, rs_x_10_97, rs_x_10_100, rs_x_10_101, rs_x_10_102, rs_x_10_105, rs_x_10_108, rs_cn_n, rs_cn_i, rs_cn_r, rs_cn_t, rs_up_at, Nat.reduceAdd, Nat.reduceEqDiff, Nat.reduceSub, Int.reduceToNat, Int.reduceNeg, Int.reduceLE, Int.reduceLT, Int.reduceAdd, Int.reduceSub, Int.reduceMul, Int.add_sub_cancel, List.length_cons, List.length_nil, Nat.reduceLeDiff, Nat.reduceLT, Int.cast_ofNat_Int, true_and, and_true, and_self, false_and, and_false, ↓reduceIte, Nat.zero_le, or_true, true_or, false_or, or_false, Nat.sub_zero, Int.toNat_natCast, Nat.le_refl, implies_true, forall_const, Int.reduceEq, Nat.reduceMul, ne_eq, not_true_eq_false, not_false_eq_true, false_implies, true_implies, Nat.left_eq_add, Nat.add_eq_left, q1, q2, q3, q4, q5, hp, ea, eb, ec]))
    · rw [if_neg g2] at h
      by_cases g3 : a = b
      · rw [if_pos g3] at h
        simp only [rs_x_10_0, rs_x_10_1, rs_x_10_4, rs_x_10_5, rs_x_10_8, rs_x_10_9, rs_x_10_10, rs_x_10_13, rs_x_10_14, rs_x_10_17, rs_x_10_18, rs_x_10_21, rs_x_10_22, rs_x_10_23, rs_x_10_26, rs_x_10_27, rs_x_10_28, rs_x_10_31, rs_x_10_32, rs_x_10_35, rs_x_10_36, rs_x_10_37, rs_x_10_38, rs_x_10_41, rs_x_10_42, rs_x_10_45, rs_x_10_48, rs_x_10_49, rs_x_10_52, rs_x_10_53, rs_x_10_56, rs_x_10_59, rs_x_10_60, rs_x_10_63, rs_x_10_64, rs_x_10_67, rs_x_10_68, rs_x_10_69, rs_x_10_72, rs_x_10_73, rs_x_10_76, rs_x_10_77, rs_x_10_80, rs_x_10_81, rs_x_10_82, rs_x_10_85, rs_x_10_86, rs_x_10_89, rs_x_10_90, rs_x_10_93, rs_x_10_94, rs_x_10_95, rs_x_10_96, rs_x_10_97, rs_x_10_100, rs_x_10_101, rs_x_10_102, rs_x_10_105, rs_x_10_108, rs_cn_n, rs_cn_i, rs_cn_r, rs_cn_t, rs_up_at, Nat.reduceAdd, Nat.reduceEqDiff, Nat.reduceSub, Int.reduceToNat, Int.reduceNeg, Int.reduceLE, Int.reduceLT, Int.reduceAdd, Int.reduceSub, Int.reduceMul, Int.add_sub_cancel, List.length_cons, List.length_nil, Nat.reduceLeDiff, Nat.reduceLT, Int.cast_ofNat_Int, true_and, and_true, and_self, false_and, and_false, ↓reduceIte, Nat.zero_le, or_true, true_or, false_or, or_false, Nat.sub_zero, Int.toNat_natCast, Nat.le_refl, implies_true, forall_const, Int.reduceEq, Nat.reduceMul, ne_eq, not_true_eq_false, not_false_eq_true, false_implies, true_implies, Nat.left_eq_add, Nat.add_eq_left, q1, q2, q3, q4, q5, hp, ea, eb, ec]
        refine ⟨ha, fun _ => ⟨ha, fun g => absurd g g2, fun _ => ⟨fun g => absurd g3 g, fun _ => ⟨hc, ?_⟩⟩⟩, fun g => by omega⟩
        repeat' (first
    | refine And.intro ?_ ?_
    | (guard_target =~ (_ → _); intro)
    | omega
    | (unfold rs_R; omega)
    | exact h
    | decide
    | (refine ct_lower hq ha ?_; simp only [rs_x_10_0, rs_x_10_1, rs_x_10_4, rs_x_10_5, rs_x_10_8, rs_x_10_9, rs_x_10_10, rs_x_10_13, rs_x_10_14, rs_x_10_17, rs_x_10_18, rs_x_10_21, rs_x_10_22, rs_x_10_23, rs_x_10_26, rs_x_10_27, rs_x_10_28, rs_x_10_31, rs_x_10_32, rs_x_10_35, rs_x_10_36, rs_x_10_37, rs_x_10_38, rs_x_10_41, rs_x_10_42, rs_x_10_45, rs_x_10_48, rs_x_10_49, rs_x_10_52, rs_x_10_53, rs_x_10_56, rs_x_10_59, rs_x_10_60, rs_x_10_63, rs_x_10_64, rs_x_10_67, rs_x_10_68, rs_x_10_69, rs_x_10_72, rs_x_10_73, rs_x_10_76, rs_x_10_77, rs_x_10_80, rs_x_10_81, rs_x_10_82, rs_x_10_85, rs_x_10_86, rs_x_10_89, rs_x_10_90, rs_x_10_93, rs_x_10_94, rs_x_10_95, rs_x_10_96, rs_x_10_97, rs_x_10_100, rs_x_10_101, rs_x_10_102, rs_x_10_105, rs_x_10_108, rs_cn_n, rs_cn_i, rs_cn_r, rs_cn_t, rs_up_at, Nat.reduceAdd, Nat.reduceEqDiff, Nat.reduceSub, Int.reduceToNat, Int.reduceNeg, Int.reduceLE, Int.reduceLT, Int.reduceAdd, Int.reduceSub, Int.reduceMul, Int.add_sub_cancel, List.length_cons, List.length_nil, Nat.reduceLeDiff, Nat.reduceLT, Int.cast_ofNat_Int, true_and, and_true, and_self, false_and, and_false, ↓reduceIte, Nat.zero_le, or_true, true_or, false_or, or_false, Nat.sub_zero, Int.toNat_natCast, Nat.le_refl, implies_true, forall_const, Int.reduceEq, Nat.reduceMul, ne_eq, not_true_eq_false, not_false_eq_true, false_implies, true_implies, Nat.left_eq_add, Nat.add_eq_left, q1, q2, q3, q4, q5, hp, ea, eb, ec]))
      · rw [if_neg g3] at h
        by_cases g4 : I (q + 2) c.toNat < I (q + 1) b.toNat
        · rw [if_pos g4] at h
          simp only [rs_x_10_0, rs_x_10_1, rs_x_10_4, rs_x_10_5, rs_x_10_8, rs_x_10_9, rs_x_10_10, rs_x_10_13, rs_x_10_14, rs_x_10_17, rs_x_10_18, rs_x_10_21, rs_x_10_22, rs_x_10_23, rs_x_10_26, rs_x_10_27, rs_x_10_28, rs_x_10_31, rs_x_10_32, rs_x_10_35, rs_x_10_36, rs_x_10_37, rs_x_10_38, rs_x_10_41, rs_x_10_42, rs_x_10_45, rs_x_10_48, rs_x_10_49, rs_x_10_52, rs_x_10_53, rs_x_10_56, rs_x_10_59, rs_x_10_60, rs_x_10_63, rs_x_10_64, rs_x_10_67, rs_x_10_68, rs_x_10_69, rs_x_10_72, rs_x_10_73, rs_x_10_76, rs_x_10_77, rs_x_10_80, rs_x_10_81, rs_x_10_82, rs_x_10_85, rs_x_10_86, rs_x_10_89, rs_x_10_90, rs_x_10_93, rs_x_10_94, rs_x_10_95, rs_x_10_96, rs_x_10_97, rs_x_10_100, rs_x_10_101, rs_x_10_102, rs_x_10_105, rs_x_10_108, rs_cn_n, rs_cn_i, rs_cn_r, rs_cn_t, rs_up_at, Nat.reduceAdd, Nat.reduceEqDiff, Nat.reduceSub, Int.reduceToNat, Int.reduceNeg, Int.reduceLE, Int.reduceLT, Int.reduceAdd, Int.reduceSub, Int.reduceMul, Int.add_sub_cancel, List.length_cons, List.length_nil, Nat.reduceLeDiff, Nat.reduceLT, Int.cast_ofNat_Int, true_and, and_true, and_self, false_and, and_false, ↓reduceIte, Nat.zero_le, or_true, true_or, false_or, or_false, Nat.sub_zero, Int.toNat_natCast, Nat.le_refl, implies_true, forall_const, Int.reduceEq, Nat.reduceMul, ne_eq, not_true_eq_false, not_false_eq_true, false_implies, true_implies, Nat.left_eq_add, Nat.add_eq_left, q1, q2, q3, q4, q5, hp, ea, eb, ec]
          repeat' (first
    | refine And.intro ?_ ?_
    | (guard_target =~ (_ → _); intro)
    | omega
    | (unfold rs_R; omega)
    | exact h
    | exact hb
    | exact hc
    | exact ha
    | decide
    | (refine ct_lower hq ha ?_; simp only [rs_x_10_0, rs_x_10_1, rs_x_10_4, rs_x_10_5, rs_x_10_8, rs_x_10_9, rs_x_10_10, rs_x_10_13, rs_x_10_14, rs_x_10_17, rs_x_10_18, rs_x_10_21, rs_x_10_22, rs_x_10_23, rs_x_10_26, rs_x_10_27, rs_x_10_28, rs_x_10_31, rs_x_10_32, rs_x_10_35, rs_x_10_36, rs_x_10_37, rs_x_10_38, rs_x_10_41, rs_x_10_42, rs_x_10_45, rs_x_10_48, rs_x_10_49, rs_x_10_52, rs_x_10_53, rs_x_10_56, rs_x_10_59, rs_x_10_60, rs_x_10_63, rs_x_10_64, rs_x_10_67, rs_x_10_68, rs_x_10_69, rs_x_10_72, rs_x_10_73, rs_x_10_76, rs_x_10_77, rs_x_10_80, rs_x_10_81, rs_x_10_82, rs_x_10_85, rs_x_10_86, rs_x_10_89, rs_x_10_90, rs_x_10_93, rs_x_10_94, rs_x_10_95, rs_x_10_96, rs_x_10_97, rs_x_10_100, rs_x_10_101, rs_x_10_102, rs_x_10_105, rs_x_10_108, rs_cn_n, rs_cn_i, rs_cn_r, rs_cn_t, rs_up_at, Nat.reduceAdd, Nat.reduceEqDiff, Nat.reduceSub, Int.reduceToNat, Int.reduceNeg, Int.reduceLE, Int.reduceLT, Int.reduceAdd, Int.reduceSub, Int.reduceMul, Int.add_sub_cancel, List.length_cons, List.length_nil, Nat.reduceLeDiff, Nat.reduceLT, Int.cast_ofNat_Int, true_and, and_true, and_self, false_and, and_false, ↓reduceIte, Nat.zero_le, or_true, true_or, false_or, or_false, Nat.sub_zero, Int.toNat_natCast, Nat.le_refl, implies_true, forall_const, Int.reduceEq, Nat.reduceMul, ne_eq, not_true_eq_false, not_false_eq_true, false_implies, true_implies, Nat.left_eq_add, Nat.add_eq_left, q1, q2, q3, q4, q5, hp, ea, eb, ec]))
        · rw [if_neg g4] at h
          simp only [rs_x_10_0, rs_x_10_1, rs_x_10_4, rs_x_10_5, rs_x_10_8, rs_x_10_9, rs_x_10_10, rs_x_10_13, rs_x_10_14, rs_x_10_17, rs_x_10_18, rs_x_10_21, rs_x_10_22, rs_x_10_23, rs_x_10_26, rs_x_10_27, rs_x_10_28, rs_x_10_31, rs_x_10_32, rs_x_10_35, rs_x_10_36, rs_x_10_37, rs_x_10_38, rs_x_10_41, rs_x_10_42, rs_x_10_45, rs_x_10_48, rs_x_10_49, rs_x_10_52, rs_x_10_53, rs_x_10_56, rs_x_10_59, rs_x_10_60, rs_x_10_63, rs_x_10_64, rs_x_10_67, rs_x_10_68, rs_x_10_69, rs_x_10_72, rs_x_10_73, rs_x_10_76, rs_x_10_77, rs_x_10_80, rs_x_10_81, rs_x_10_82, rs_x_10_85, rs_x_10_86, rs_x_10_89, rs_x_10_90, rs_x_10_93, rs_x_10_94, rs_x_10_95, rs_x_10_96, rs_x_10_97, rs_x_10_100, rs_x_10_101, rs_x_10_102, rs_x_10_105, rs_x_10_108, rs_cn_n, rs_cn_i, rs_cn_r, rs_cn_t, rs_up_at, Nat.reduceAdd, Nat.reduceEqDiff, Nat.reduceSub, Int.reduceToNat, Int.reduceNeg, Int.reduceLE, Int.reduceLT, Int.reduceAdd, Int.reduceSub, Int.reduceMul, Int.add_sub_cancel, List.length_cons, List.length_nil, Nat.reduceLeDiff, Nat.reduceLT, Int.cast_ofNat_Int, true_and, and_true, and_self, false_and, and_false, ↓reduceIte, Nat.zero_le, or_true, true_or, false_or, or_false, Nat.sub_zero, Int.toNat_natCast, Nat.le_refl, implies_true, forall_const, Int.reduceEq, Nat.reduceMul, ne_eq, not_true_eq_false, not_false_eq_true, false_implies, true_implies, Nat.left_eq_add, Nat.add_eq_left, q1, q2, q3, q4, q5, hp, ea, eb, ec]
          repeat' (first
    | refine And.intro ?_ ?_
    | (guard_target =~ (_ → _); intro)
    | omega
    | (unfold rs_R; omega)
    | exact h
    | exact hb
    | exact hc
    | exact ha
    | decide
    | (refine ct_lower hq ha ?_; simp only [rs_x_10_0, rs_x_10_1, rs_x_10_4, rs_x_10_5, rs_x_10_8, rs_x_10_9, rs_x_10_10, rs_x_10_13, rs_x_10_14, rs_x_10_17, rs_x_10_18, rs_x_10_21, rs_x_10_22, rs_x_10_23, rs_x_10_26, rs_x_10_27, rs_x_10_28, rs_x_10_31, rs_x_10_32, rs_x_10_35, rs_x_10_36, rs_x_10_37, rs_x_10_38, rs_x_10_41, rs_x_10_42, rs_x_10_45, rs_x_10_48, rs_x_10_49, rs_x_10_52, rs_x_10_53, rs_x_10_56, rs_x_10_59, rs_x_10_60, rs_x_10_63, rs_x_10_64, rs_x_10_67, rs_x_10_68, rs_x_10_69, rs_x_10_72, rs_x_10_73, rs_x_10_76, rs_x_10_77, rs_x_10_80, rs_x_10_81, rs_x_10_82, rs_x_10_85, rs_x_10_86, rs_x_10_89, rs_x_10_90, rs_x_10_93, rs_x_10_94, rs_x_10_95, rs_x_10_96, rs_x_10_97, rs_x_10_100, rs_x_10_101, rs_x_10_102, rs_x_10_105, rs_x_10_108, rs_cn_n, rs_cn_i, rs_cn_r, rs_cn_t, rs_up_at, Nat.reduceAdd, Nat.reduceEqDiff, Nat.reduceSub, Int.reduceToNat, Int.reduceNeg, Int.reduceLE, Int.reduceLT, Int.reduceAdd, Int.reduceSub, Int.reduceMul, Int.add_sub_cancel, List.length_cons, List.length_nil, Nat.reduceLeDiff, Nat.reduceLT, Int.cast_ofNat_Int, true_and, and_true, and_self, false_and, and_false, ↓reduceIte, Nat.zero_le, or_true, true_or, false_or, or_false, Nat.sub_zero, Int.toNat_natCast, Nat.le_refl, implies_true, forall_const, Int.reduceEq, Nat.reduceMul, ne_eq, not_true_eq_false, not_false_eq_true, false_implies, true_implies, Nat.left_eq_add, Nat.add_eq_left, q1, q2, q3, q4, q5, hp, ea, eb, ec]))
theorem rg_if_nar {I : rs_M} {q : Nat} {a b c : Int} (h2 : I q 2 = 0) (h3 : I q 3 = 0) (ha : 0 ≤ a ∧ a < 10) (hb : 0 ≤ b ∧ b < 10) (hc : 0 ≤ c ∧ c < 10) (ba : I (q + 1) a.toNat ≤ I (q + 2) a.toNat) (bb : I (q + 1) b.toNat ≤ I (q + 2) b.toNat) (bc : I (q + 1) c.toNat ≤ I (q + 2) c.toNat) : rg_nar q (bx_3 a.toNat b.toNat c.toNat) (fun x => bx_f 6 (x a.toNat) (x b.toNat) (x c.toNat)) I (rg_if I q a b c) := by
  have hok : ∀ j, bx_3 a.toNat b.toNat c.toNat j → I (q + 1) j ≤ I (q + 2) j := fun j hj => by
    rcases hj with g | g | g <;> rw [g] <;> assumption
  unfold rg_if
  by_cases g1 : 1 ≤ I (q + 1) a.toNat
  · rw [if_pos g1]
    by_cases e : b = c
    · subst e
      have e : rg_am I q b b 0 = rs_up I q 3 0 := by unfold rg_am; rw [if_pos rfl, if_pos ⟨h3, by omega⟩]
      have e1 : rs_up I q 3 0 (q + 1) = I (q + 1) := by funext j; simp [rs_up_at]
      have e2 : rs_up I q 3 0 (q + 2) = I (q + 2) := by funext j; simp [rs_up_at]
      rw [e]
      refine rg_nar_of h2 h3 (rg_tr_b h3) (fun j _ => ?_) hok ?_ ?_
      · unfold rg_sm; rw [e1, e2]; exact ⟨rfl, rfl⟩
      · rw [e1, e2]; exact fun x hx _ => hx
      · rw [e1, e2]; exact fun _ _ => if_hi_sup ba bb bc (Or.inl rfl)
    · have nbc : ¬ b.toNat = c.toNat := by omega
      have ncb : ¬ c.toNat = b.toNat := by omega
      refine rg_nar_of h2 h3 (rg_am_tr hb hc e) (fun j hj => ?_) hok (bx_snd3 fun x y z hx => ?_) (fun _ hv => ?_)
      · unfold rg_sm
        rw [rg_am_lo e, rg_am_hi e, if_neg (fun g => hj (Or.inr (Or.inr g))), if_neg (fun g => hj (Or.inr (Or.inl g)))]
        exact ⟨rfl, rfl⟩
      · obtain ⟨x1, x2, x3, x4, x5, x6, x7⟩ := hx
        have x8 := (bx_f6.mp x7).resolve_left (by omega)
        rw [rg_am_lo e, rg_am_lo e, rg_am_lo e, rg_am_hi e, rg_am_hi e, rg_am_hi e, if_neg nbc, if_pos rfl, if_pos rfl, if_neg ncb]
        refine ⟨?_, by omega, by omega⟩
        constructor
        · split
          · rename_i g
            have := x5 g
            omega
          · omega
        · split
          · rename_i g
            have := x4 g
            omega
          · omega
      · refine if_hi_sup (hv _ (Or.inl rfl)) (hv _ (Or.inr (Or.inl rfl))) (hv _ (Or.inr (Or.inr rfl))) (Or.inr ?_)
        rw [rg_am_lo e, rg_am_lo e, rg_am_hi e, rg_am_hi e, if_neg nbc, if_pos rfl, if_pos rfl, if_neg ncb]
        omega
  · rw [if_neg g1]
    have eb : a = b ↔ a.toNat = b.toNat := by omega
    have ec : a = c ↔ a.toNat = c.toNat := by omega
    have ebc : b = c ↔ b.toNat = c.toNat := by omega
    have lo : rg_lower I q a (rg_top I q a b c) (q + 1) = I (q + 1) := funext fun j => rg_lower_lo j
    refine rg_nar_of h2 h3 (rg_tr_lower ha) (fun j hj => ?_) hok (bx_snd3 fun x y z hx => ?_) (fun _ hv => ?_)
    · unfold rg_sm
      rw [rg_lower_lo, rg_lower_hi, if_neg (fun g => hj (Or.inl g))]
      exact ⟨rfl, rfl⟩
    · obtain ⟨x1, x2, x3, x4, x5, x6, x7⟩ := hx
      have x8 := bx_f6.mp x7
      have xt : x ≤ rg_top I q a b c := by
        unfold rg_top
        by_cases g2 : b = c
        · rw [if_pos g2]; omega
        · rw [if_neg g2]
          by_cases g3 : a = b
          · rw [if_pos g3]
            have := x4 (eb.mp g3)
            omega
          · rw [if_neg g3]
            split <;> omega
      rw [lo, rg_lower_hi, rg_lower_hi, rg_lower_hi, if_pos rfl]
      refine ⟨by omega, ⟨x2.1, ?_⟩, x3.1, ?_⟩
      · split
        · rename_i g
          have := x4 g.symm
          omega
        · exact x2.2
      · split
        · rename_i g
          have := x5 g.symm
          omega
        · exact x3.2
    · have va := hv _ (Or.inl rfl)
      have vb := hv _ (Or.inr (Or.inl rfl))
      have vc := hv _ (Or.inr (Or.inr rfl))
      have ha' : rg_lower I q a (rg_top I q a b c) (q + 2) a.toNat = min (I (q + 2) a.toNat) (rg_top I q a b c) := by rw [rg_lower_hi, if_pos rfl]
      have hl : rg_lower I q a (rg_top I q a b c) (q + 1) a.toNat < 1 := by rw [lo]; omega
      refine if_lo_sup va vb vc hl ?_
      by_cases g2 : b = c
      · exact Or.inr (Or.inl (ebc.mp g2))
      · by_cases g3 : a = b
        · have et : rg_top I q a b c = max (I (q + 2) c.toNat) 0 := by unfold rg_top; rw [if_neg g2, if_pos g3]
          have nca : ¬ c.toNat = a.toNat := by omega
          have hcc : rg_lower I q a (rg_top I q a b c) (q + 2) c.toNat = I (q + 2) c.toNat := by rw [rg_lower_hi, if_neg nca]
          by_cases g5 : I (q + 2) c.toNat < 1
          · exact Or.inl (by omega)
          · exact Or.inr (Or.inr (Or.inl ⟨eb.mp g3, by omega⟩))
        · by_cases g4 : I (q + 2) c.toNat < I (q + 1) b.toNat
          · have et : rg_top I q a b c = 0 := by unfold rg_top; rw [if_neg g2, if_neg g3, if_pos g4]; rfl
            exact Or.inl (by omega)
          · have et : rg_top I q a b c = max (I (q + 2) a.toNat) 0 := by unfold rg_top; rw [if_neg g2, if_neg g3, if_neg g4]
            have hcc : I (q + 2) c.toNat ≤ rg_lower I q a (rg_top I q a b c) (q + 2) c.toNat := by
              rw [rg_lower_hi]
              split
              · rename_i g; rw [g] at g4 ⊢; omega
              · omega
            exact Or.inr (Or.inr (Or.inr ⟨fun g => g3 (eb.mpr g), by rw [lo]; omega⟩))
