/-! ===== masks made by a loop; members within a range; relations that touch ===== -/
def bt_ms (P : Nat → Bool) : Nat → Nat
  | 0 => 0
  | k + 1 => if P k = true then bt_ms P k ||| 2 ^ k else bt_ms P k
theorem bt_ms_lt (P : Nat → Bool) : ∀ k, bt_ms P k < 2 ^ k
  | 0 => by show 0 < 1; decide
  | k + 1 => by
    have h := bt_ms_lt P k
    have hp : 2 ^ (k + 1) = 2 ^ k * 2 := Nat.pow_succ 2 k
    unfold bt_ms
    split
    · exact Nat.or_lt_two_pow (n := k + 1) (by omega) (by omega)
    · omega
theorem bt_ms_bit (P : Nat → Bool) (j : Nat) : ∀ k, (bt_ms P k).testBit j = true ↔ j < k ∧ P j = true
  | 0 => by simp [bt_ms]
  | k + 1 => by
    have h := bt_ms_bit P j k
    unfold bt_ms
    by_cases g : P k = true
    · rw [if_pos g, bt_orb, h]
      constructor
      · rintro (⟨a, b⟩ | e)
        · exact ⟨by omega, b⟩
        · subst e; exact ⟨by omega, g⟩
      · rintro ⟨a, b⟩
        by_cases e : j = k
        · exact Or.inr e
        · exact Or.inl ⟨by omega, b⟩
    · rw [if_neg g, h]
      constructor
      · rintro ⟨a, b⟩; exact ⟨by omega, b⟩
      · rintro ⟨a, b⟩
        refine ⟨?_, b⟩
        have : j ≠ k := fun e => g (by rw [← e]; exact b)
        omega
set_option maxRecDepth 100000 in
set_option maxHeartbeats 2000000 in
theorem ct_within {u d q m : Nat} {s e : Int} {I : rs_M} {K : rs_K} (hq : rs_isR q) (hm : m < 1024) (h : ∀ n : Nat, n < 1024 → (∀ j, j < 10 → (n.testBit j = true ↔ m.testBit j = true ∧ s ≤ I (q + 1) j ∧ I (q + 2) j ≤ e)) → K (some (.inl (n : Int))) I) : rs_run u d 14 0 (rs_en0 [.inl (m : Int), .inl s, .inl e, .inr (.inr q)] 6) [] I K := by
  show rs_run u d 14 0 [some (.inl (m : Int)), some (.inl s), some (.inl e), some (.inr (.inr q)), none, none] [] I K
  obtain ⟨q1, q2, q3, q4, q5⟩ := id hq
  obtain ⟨P, hP'⟩ : ∃ P : Nat → Bool, ∀ j, P j = true ↔ (m.testBit j = true ∧ s ≤ I (q + 1) j ∧ I (q + 2) j ≤ e) := ⟨fun j => m.testBit j && (decide (s ≤ I (q + 1) j) && decide (I (q + 2) j ≤ e)), fun j => by simp⟩
  have loop : ∀ (k n : Nat), n + k = 10 → rs_run u d 14 6 [some (.inl (m : Int)), some (.inl s), some (.inl e), some (.inr (.inr q)), some (.inl (bt_ms P n : Int)), some (.inl (n : Int))] [] I K := by
    intro k
    induction k with
    | zero =>
      intro n en
      have : n = 10 := by omega
      subst this
      have l := bt_ms_lt P 10
      have f := h (bt_ms P 10) l (fun j hj => by
        rw [bt_ms_bit, hP']
        exact ⟨fun g => g.2, fun g => ⟨hj, g⟩⟩)
      rw [rs_x_14_6]
      simp only [rs_x_14_0, rs_x_14_1, rs_x_14_3, rs_x_14_4, rs_x_14_8, rs_x_14_10, rs_x_14_13, rs_x_14_14, rs_x_14_16, rs_x_14_17, rs_x_14_18, rs_x_14_19, rs_x_14_20, rs_x_14_23, rs_x_14_24, rs_x_14_25, rs_x_14_28, rs_x_14_30, rs_x_14_31, rs_x_14_34, rs_x_14_35, rs_x_14_38, rs_x_14_40, rs_x_14_41, rs_x_14_42, rs_x_14_45, rs_x_14_47, rs_x_14_48, rs_x_14_50, rs_x_14_51, rs_x_14_52, rs_x_14_54, rs_x_14_57, rs_x_14_60, rs_x_14_62, rs_cn_n, rs_cn_i, rs_cn_r, rs_cn_t, rs_up_at, Nat.reduceAdd, Nat.reduceEqDiff, Nat.reduceSub, Int.reduceToNat, Int.reduceNeg, Int.reduceLE, Int.reduceLT, Int.reduceAdd, Int.reduceSub, Int.reduceMul, Int.add_sub_cancel, List.length_cons, List.length_nil, Nat.reduceLeDiff, Nat.reduceLT, Int.cast_ofNat_Int, true_and, and_true, and_self, false_and, and_false, ↓reduceIte, Nat.zero_le, or_true, true_or, false_or, or_false, Nat.sub_zero, Int.toNat_natCast, Nat.le_refl, implies_true, forall_const, Int.reduceEq, Nat.reduceMul, ne_eq, not_true_eq_false, not_false_eq_true, false_implies, true_implies, Nat.left_eq_add, Nat.add_eq_left]
      exact f
    | succ k ih =>
      intro n en
      have i1 := ih (n + 1) (by omega)
      have hl := bt_ms_lt P n
      have hp := bt_pow (k := n) (by omega)
      have ho := bt_or2 (m := bt_ms P n) (k := n) (by omega) (by omega)
      have hb := bt_has m n (by omega) (by omega)
      have nn : ((10 : Int) ≤ (n : Int)) = False := eq_false (by omega)
      have nb : 0 ≤ (n : Int) ∧ (n : Int) < 10 := by omega
      have rn : rs_R ((n : Int) + 1) := by unfold rs_R; omega
      rw [rs_x_14_6]
      unfold bt_ms at i1
      by_cases c : P n = true
      · rw [if_pos c] at i1
        obtain ⟨c1, c2, c3⟩ := (hP' n).mp c
        have c2' : (I (q + 1) n < s) = False := eq_false (by omega)
        have c3' : (e < I (q + 2) n) = False := eq_false (by omega)
        simp only [rs_x_14_0, rs_x_14_1, rs_x_14_3, rs_x_14_4, rs_x_14_8, rs_x_14_10, rs_x_14_13, rs_x_14_14, rs_x_14_16, rs_x_14_17, rs_x_14_18, rs_x_14_19, rs_x_14_20, rs_x_14_23, rs_x_14_24, rs_x_14_25, rs_x_14_28, rs_x_14_30, rs_x_14_31, rs_x_14_34, rs_x_14_35, rs_x_14_38, rs_x_14_40, rs_x_14_41, rs_x_14_42, rs_x_14_45, rs_x_14_47, rs_x_14_48, rs_x_14_50, rs_x_14_51, rs_x_14_52, rs_x_14_54, rs_x_14_57, rs_x_14_60, rs_x_14_62, rs_cn_n, rs_cn_i, rs_cn_r, rs_cn_t, rs_up_at, Nat.reduceAdd, Nat.reduceEqDiff, Nat.reduceSub, Int.reduceToNat, Int.reduceNeg, Int.reduceLE, Int.reduceLT, Int.reduceAdd, Int.reduceSub, Int.reduceMul, Int.add_sub_cancel, List.length_cons, List.length_nil, Nat.reduceLeDiff, Nat.reduceLT, Int.cast_ofNat_Int, true_and, and_true, and_self, false_and, and_false, ↓reduceIte, Nat.zero_le, or_true, true_or, false_or, or_false, Nat.sub_zero, Int.toNat_natCast, Nat.le_refl, implies_true, forall_const, Int.reduceEq, Nat.reduceMul, ne_eq, not_true_eq_false, not_false_eq_true, false_implies, true_implies, Nat.left_eq_add, Nat.add_eq_left, q1, q2, q3, q4, q5, hb, c1, nn, nb, c2', c3', ho]
        exact ⟨rn, i1⟩
      · rw [if_neg c] at i1
        simp only [rs_x_14_0, rs_x_14_1, rs_x_14_3, rs_x_14_4, rs_x_14_8, rs_x_14_10, rs_x_14_13, rs_x_14_14, rs_x_14_16, rs_x_14_17, rs_x_14_18, rs_x_14_19, rs_x_14_20, rs_x_14_23, rs_x_14_24, rs_x_14_25, rs_x_14_28, rs_x_14_30, rs_x_14_31, rs_x_14_34, rs_x_14_35, rs_x_14_38, rs_x_14_40, rs_x_14_41, rs_x_14_42, rs_x_14_45, rs_x_14_47, rs_x_14_48, rs_x_14_50, rs_x_14_51, rs_x_14_52, rs_x_14_54, rs_x_14_57, rs_x_14_60, rs_x_14_62, rs_cn_n, rs_cn_i, rs_cn_r, rs_cn_t, rs_up_at, Nat.reduceAdd, Nat.reduceEqDiff, Nat.reduceSub, Int.reduceToNat, Int.reduceNeg, Int.reduceLE, Int.reduceLT, Int.reduceAdd, Int.reduceSub, Int.reduceMul, Int.add_sub_cancel, List.length_cons, List.length_nil, Nat.reduceLeDiff, Nat.reduceLT, Int.cast_ofNat_Int, true_and, and_true, and_self, false_and, and_false, ↓reduceIte, Nat.zero_le, or_true, true_or, false_or, or_false, Nat.sub_zero, Int.toNat_natCast, Nat.le_refl, implies_true, forall_const, Int.reduceEq, Nat.reduceMul, ne_eq, not_true_eq_false, not_false_eq_true, false_implies, true_implies, Nat.left_eq_add, Nat.add_eq_left, q1, q2, q3, q4, q5, hb, nn, nb, ho]
        have c' : ¬ (m.testBit n = true ∧ s ≤ I (q + 1) n ∧ I (q + 2) n ≤ e) := fun g => c ((hP' n).mpr g)
        cases ht : m.testBit n with
        | false =>
          simp only [Bool.false_eq_true, ↓reduceIte, Int.reduceEq, not_false_eq_true, false_implies, true_implies, and_true]
          exact ⟨rn, i1⟩
        | true =>
          simp only [↓reduceIte, not_true_eq_false, false_implies, true_implies, true_and]
          refine ⟨fun g => ⟨rn, i1⟩, fun g => ⟨fun g' => ⟨rn, i1⟩, fun g' => absurd ⟨ht, by omega, by omega⟩ c'⟩⟩
  simp only [rs_x_14_0, rs_x_14_1, rs_x_14_3, rs_x_14_4, rs_x_14_8, rs_x_14_10, rs_x_14_13, rs_x_14_14, rs_x_14_16, rs_x_14_17, rs_x_14_18, rs_x_14_19, rs_x_14_20, rs_x_14_23, rs_x_14_24, rs_x_14_25, rs_x_14_28, rs_x_14_30, rs_x_14_31, rs_x_14_34, rs_x_14_35, rs_x_14_38, rs_x_14_40, rs_x_14_41, rs_x_14_42, rs_x_14_45, rs_x_14_47, rs_x_14_48, rs_x_14_50, rs_x_14_51, rs_x_14_52, rs_x_14_54, rs_x_14_57, rs_x_14_60, rs_x_14_62, rs_cn_n, rs_cn_i, rs_cn_r, rs_cn_t, rs_up_at, Nat.reduceAdd, Nat.reduceEqDiff, Nat.reduceSub, Int.reduceToNat, Int.reduceNeg, Int.reduceLE, Int.reduceLT, Int.reduceAdd, Int.reduceSub, Int.reduceMul, Int.add_sub_cancel, List.length_cons, List.length_nil, Nat.reduceLeDiff, Nat.reduceLT, Int.cast_ofNat_Int, true_and, and_true, and_self, false_and, and_false, ↓reduceIte, Nat.zero_le, or_true, true_or, false_or, or_false, Nat.sub_zero, Int.toNat_natCast, Nat.le_refl, implies_true, forall_const, Int.reduceEq, Nat.reduceMul, ne_eq, not_true_eq_false, not_false_eq_true, false_implies, true_implies, Nat.left_eq_add, Nat.add_eq_left]
  exact loop 10 0 (by omega)
