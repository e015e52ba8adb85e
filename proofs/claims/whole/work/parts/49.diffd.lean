/-! ===== the class narrows by different: its rounds ===== -/
theorem bt_and2 {m : Nat} (i j : Nat) (hm : m < 1024) (hi : i < 10) (hj : j < 10) : rs_and (rs_and (rs_shr (m : Int) (i : Int)) (rs_shr (m : Int) (j : Int))) 1 = if m.testBit i = true ∧ m.testBit j = true then 1 else 0 := by
  rw [bt_shrN m i (by omega) (by omega), bt_shrN m j (by omega) (by omega)]
  have l1 : m >>> i < 2147483648 := by
    have : m >>> i ≤ m := by rw [Nat.shiftRight_eq_div_pow]; exact Nat.div_le_self _ _
    omega
  rw [bt_and _ _ l1]
  have l2 : (m >>> i) &&& (m >>> j) < 2147483648 := Nat.lt_of_le_of_lt Nat.and_le_left l1
  have := bt_has ((m >>> i) &&& (m >>> j)) 0 l2 (by omega)
  rw [bt_shrN _ 0 l2 (by omega)] at this
  rw [Nat.shiftRight_zero] at this
  rw [this, Nat.testBit_and, Nat.testBit_shiftRight, Nat.testBit_shiftRight]
  simp
theorem rd_box {q : Nat} {I J : rs_M} (h : ∀ j, rg_sm q I J j) : J (q + 1) = I (q + 1) ∧ J (q + 2) = I (q + 2) := ⟨funext fun j => (h j).1, funext fun j => (h j).2⟩
/-- within a round, before the pair i, j -/
def rd_rd (q m i j : Nat) (I J : rs_M) (g : Int) : Prop := rd_tr q m I J ∧ rd_bd q m J ∧ ((g = 0 ∧ (∀ k, rg_sm q I J k) ∧ (J q 3 = 0 → ∀ a b, (a < i ∨ (a = i ∧ b < j)) → bx_M m a → bx_M m b → rd_fx q m I (I (q + 1) a) (I (q + 2) b))) ∨ (g = 1 ∧ ∃ k, ¬ rg_sm q I J k))
theorem rd_rd_no {q m i j : Nat} {I J : rs_M} {g : Int} (h : rd_rd q m i j I J g) (hn : ¬ (m.testBit i = true ∧ m.testBit j = true)) : rd_rd q m i (j + 1) I J g := by
  obtain ⟨h1, h2, h3⟩ := h
  refine ⟨h1, h2, ?_⟩
  rcases h3 with ⟨a, b, c⟩ | h3
  · refine Or.inl ⟨a, b, fun e x y hxy hx hy => ?_⟩
    by_cases exy : x = i ∧ y = j
    · exact absurd ⟨by rw [← exy.1]; exact hx.2, by rw [← exy.2]; exact hy.2⟩ hn
    · exact c e x y (by omega) hx hy
  · exact Or.inr h3
theorem rd_or01 : rs_or 0 0 = 0 ∧ rs_or 0 1 = 1 ∧ rs_or 1 0 = 1 ∧ rs_or 1 1 = 1 := by decide
theorem rd_sm_tt {q m : Nat} {I J L : rs_M} (h : rd_tr q m I J) (g : rd_tr q m J L) (k : Nat) : ¬ rg_sm q I L k ↔ (¬ rg_sm q I J k ∨ ¬ rg_sm q J L k) := by
  unfold rg_sm
  have := h.2.1 k
  have := g.2.1 k
  omega
theorem rd_rd_yes {q m i j : Nat} {I J L : rs_M} {g y : Int} (hi : i < 10) (hj : j < 10) (h : rd_rd q m i j I J g) (hm : m.testBit i = true ∧ m.testBit j = true) (hp : rd_post q m (J (q + 1) i) (J (q + 2) j) J L y) : rd_rd q m i (j + 1) I L (rs_or g y) := by
  obtain ⟨h1, h2, h3⟩ := h
  obtain ⟨p1, p2, p3, p4, p5⟩ := hp
  have ht := rd_tt h1 p2
  refine ⟨ht, p3, ?_⟩
  rcases h3 with ⟨a, b, c⟩ | ⟨a, b⟩
  · subst a
    rcases p1 with e | e
    · subst e
      obtain ⟨s1, s2⟩ := p4 rfl
      obtain ⟨x1, x2⟩ := rd_box b
      refine Or.inl ⟨rd_or01.1, fun k => Classical.byContradiction fun n => ?_, fun e x y hxy hx hy => ?_⟩
      · rcases (rd_sm_tt h1 p2 k).mp n with n | n
        · exact n (b k)
        · exact n (s1 k)
      · have e0 : J q 3 = 0 := by
          rcases h2.2 with g | g
          · exact g
          · have := p2.2.2.2.2.1 g
            omega
        by_cases exy : x = i ∧ y = j
        · have := s2 e
          unfold rd_fx at this ⊢
          rw [x1, x2] at this
          rw [exy.1, exy.2]
          exact this
        · exact c e0 x y (by omega) hx hy
    · subst e
      obtain ⟨k, n⟩ := p5 rfl
      exact Or.inr ⟨rd_or01.2.1, k, (rd_sm_tt h1 p2 k).mpr (Or.inr n)⟩
  · subst a
    obtain ⟨k, n⟩ := b
    refine Or.inr ⟨?_, k, (rd_sm_tt h1 p2 k).mpr (Or.inl n)⟩
    rcases p1 with e | e
    · subst e; exact rd_or01.2.2.1
    · subst e; exact rd_or01.2.2.2
set_option maxRecDepth 100000 in
set_option maxHeartbeats 2000000 in
theorem rd_jl {u d q m i : Nat} {l3 : Option rs_V} {I : rs_M} {K : rs_K} (hd : 3 ≤ d) (hq : rs_isR q) (hm : m < 1024) (hi : i < 10) (hK : ∀ J g, rd_rd q m i 10 I J g → rs_run u d 12 86 [some (.inl (m : Int)), some (.inr (.inr q)), some (.inl g), l3, some (.inl (i : Int)), some (.inl 10)] [] J K) : ∀ (k j : Nat) (J : rs_M) (g : Int), j + k = 10 → rd_rd q m i j I J g → rs_run u d 12 36 [some (.inl (m : Int)), some (.inr (.inr q)), some (.inl g), l3, some (.inl (i : Int)), some (.inl (j : Int))] [] J K := by
  obtain ⟨q1, q2, q3, q4, q5⟩ := id hq
  have hd0 : 0 < d := by omega
  have hd1 : 2 ≤ d - 1 := by omega
  intro k
  induction k with
  | zero =>
    intro j J g e hJ
    have : j = 10 := by omega
    subst this
    have f := hK J g hJ
    rw [rs_x_12_36]
    simp only [rs_x_12_0, rs_x_12_1, rs_x_12_2, rs_x_12_3, rs_x_12_4, rs_x_12_5, rs_x_12_7, rs_x_12_10, rs_x_12_11, rs_x_12_14, rs_x_12_15, rs_x_12_18, rs_x_12_21, rs_x_12_22, rs_x_12_23, rs_x_12_24, rs_x_12_26, rs_x_12_28, rs_x_12_30, rs_x_12_33, rs_x_12_34, rs_x_12_38, rs_x_12_40, rs_x_12_43, rs_x_12_44, rs_x_12_46, rs_x_12_47, rs_x_12_48, rs_x_12_50, rs_x_12_51, rs_x_12_52, rs_x_12_53, rs_x_12_54, rs_x_12_55, rs_x_12_58, rs_x_12_59, rs_x_12_60, rs_x_12_61, rs_x_12_64, rs_x_12_66, rs_x_12_67, rs_x_12_68, rs_x_12_71, rs_x_12_73, rs_x_12_74, rs_x_12_75, rs_x_12_78, rs_x_12_79, rs_x_12_80, rs_x_12_83, rs_x_12_89, rs_x_12_92, rs_x_12_95, rs_x_12_98, rs_cn_n, rs_cn_i, rs_cn_r, rs_cn_t, rs_up_at, Nat.reduceAdd, Nat.reduceEqDiff, Nat.reduceSub, Int.reduceToNat, Int.reduceNeg, Int.reduceLE, Int.reduceLT, Int.reduceAdd, Int.reduceSub, Int.reduceMul, Int.add_sub_cancel, List.length_cons, List.length_nil, Nat.reduceLeDiff, Nat.reduceLT, Int.cast_ofNat_Int, true_and, and_true, and_self, false_and, and_false, ↓reduceIte, Nat.zero_le, or_true, true_or, false_or, or_false, Nat.sub_zero, Int.toNat_natCast, Nat.le_refl, implies_true, forall_const, Int.reduceEq, Nat.reduceMul, ne_eq, not_true_eq_false, not_false_eq_true, false_implies, true_implies, Nat.left_eq_add, Nat.add_eq_left]
    exact f
  | succ k ih =>
    intro j J g e hJ
    have nn : ((10 : Int) ≤ (j : Int)) = False := eq_false (by omega)
    have nb : 0 ≤ (j : Int) ∧ (j : Int) < 10 := by omega
    have ib : 0 ≤ (i : Int) ∧ (i : Int) < 10 := by omega
    have rn : rs_R ((j : Int) + 1) := by unfold rs_R; omega
    have hb := bt_and2 i j hm hi (by omega)
    rw [rs_x_12_36]
    by_cases c : m.testBit i = true ∧ m.testBit j = true
    · have bi := hJ.2.1.1 i ⟨hi, c.1⟩
      have bj := hJ.2.1.1 j ⟨by omega, c.2⟩
      rw [if_pos c] at hb
      simp only [rs_x_12_0, rs_x_12_1, rs_x_12_2, rs_x_12_3, rs_x_12_4, rs_x_12_5, rs_x_12_7, rs_x_12_10, rs_x_12_11, rs_x_12_14, rs_x_12_15, rs_x_12_18, rs_x_12_21, rs_x_12_22, rs_x_12_23, rs_x_12_24, rs_x_12_26, rs_x_12_28, rs_x_12_30, rs_x_12_33, rs_x_12_34, rs_x_12_38, rs_x_12_40, rs_x_12_43, rs_x_12_44, rs_x_12_46, rs_x_12_47, rs_x_12_48, rs_x_12_50, rs_x_12_51, rs_x_12_52, rs_x_12_53, rs_x_12_54, rs_x_12_55, rs_x_12_58, rs_x_12_59, rs_x_12_60, rs_x_12_61, rs_x_12_64, rs_x_12_66, rs_x_12_67, rs_x_12_68, rs_x_12_71, rs_x_12_73, rs_x_12_74, rs_x_12_75, rs_x_12_78, rs_x_12_79, rs_x_12_80, rs_x_12_83, rs_x_12_89, rs_x_12_92, rs_x_12_95, rs_x_12_98, rs_cn_n, rs_cn_i, rs_cn_r, rs_cn_t, rs_up_at, Nat.reduceAdd, Nat.reduceEqDiff, Nat.reduceSub, Int.reduceToNat, Int.reduceNeg, Int.reduceLE, Int.reduceLT, Int.reduceAdd, Int.reduceSub, Int.reduceMul, Int.add_sub_cancel, List.length_cons, List.length_nil, Nat.reduceLeDiff, Nat.reduceLT, Int.cast_ofNat_Int, true_and, and_true, and_self, false_and, and_false, ↓reduceIte, Nat.zero_le, or_true, true_or, false_or, or_false, Nat.sub_zero, Int.toNat_natCast, Nat.le_refl, implies_true, forall_const, Int.reduceEq, Nat.reduceMul, ne_eq, not_true_eq_false, not_false_eq_true, false_implies, true_implies, Nat.left_eq_add, Nat.add_eq_left, q1, q2, q3, q4, q5, hb, nn, nb, ib]
      refine ⟨hd0, ct_filled hd1 hq hm hJ.2.1 bi.1 bj.2 fun L y hp => ?_⟩
      have i1 := ih (j + 1) L _ (by omega) (rd_rd_yes hi (by omega) hJ c hp)
      simp only [rs_x_12_0, rs_x_12_1, rs_x_12_2, rs_x_12_3, rs_x_12_4, rs_x_12_5, rs_x_12_7, rs_x_12_10, rs_x_12_11, rs_x_12_14, rs_x_12_15, rs_x_12_18, rs_x_12_21, rs_x_12_22, rs_x_12_23, rs_x_12_24, rs_x_12_26, rs_x_12_28, rs_x_12_30, rs_x_12_33, rs_x_12_34, rs_x_12_38, rs_x_12_40, rs_x_12_43, rs_x_12_44, rs_x_12_46, rs_x_12_47, rs_x_12_48, rs_x_12_50, rs_x_12_51, rs_x_12_52, rs_x_12_53, rs_x_12_54, rs_x_12_55, rs_x_12_58, rs_x_12_59, rs_x_12_60, rs_x_12_61, rs_x_12_64, rs_x_12_66, rs_x_12_67, rs_x_12_68, rs_x_12_71, rs_x_12_73, rs_x_12_74, rs_x_12_75, rs_x_12_78, rs_x_12_79, rs_x_12_80, rs_x_12_83, rs_x_12_89, rs_x_12_92, rs_x_12_95, rs_x_12_98, rs_cn_n, rs_cn_i, rs_cn_r, rs_cn_t, rs_up_at, Nat.reduceAdd, Nat.reduceEqDiff, Nat.reduceSub, Int.reduceToNat, Int.reduceNeg, Int.reduceLE, Int.reduceLT, Int.reduceAdd, Int.reduceSub, Int.reduceMul, Int.add_sub_cancel, List.length_cons, List.length_nil, Nat.reduceLeDiff, Nat.reduceLT, Int.cast_ofNat_Int, true_and, and_true, and_self, false_and, and_false, ↓reduceIte, Nat.zero_le, or_true, true_or, false_or, or_false, Nat.sub_zero, Int.toNat_natCast, Nat.le_refl, implies_true, forall_const, Int.reduceEq, Nat.reduceMul, ne_eq, not_true_eq_false, not_false_eq_true, false_implies, true_implies, Nat.left_eq_add, Nat.add_eq_left, q1, q2, q3, q4, q5]
      exact ⟨rn, i1⟩
    · have i1 := ih (j + 1) J _ (by omega) (rd_rd_no hJ c)
      rw [if_neg c] at hb
      simp only [rs_x_12_0, rs_x_12_1, rs_x_12_2, rs_x_12_3, rs_x_12_4, rs_x_12_5, rs_x_12_7, rs_x_12_10, rs_x_12_11, rs_x_12_14, rs_x_12_15, rs_x_12_18, rs_x_12_21, rs_x_12_22, rs_x_12_23, rs_x_12_24, rs_x_12_26, rs_x_12_28, rs_x_12_30, rs_x_12_33, rs_x_12_34, rs_x_12_38, rs_x_12_40, rs_x_12_43, rs_x_12_44, rs_x_12_46, rs_x_12_47, rs_x_12_48, rs_x_12_50, rs_x_12_51, rs_x_12_52, rs_x_12_53, rs_x_12_54, rs_x_12_55, rs_x_12_58, rs_x_12_59, rs_x_12_60, rs_x_12_61, rs_x_12_64, rs_x_12_66, rs_x_12_67, rs_x_12_68, rs_x_12_71, rs_x_12_73, rs_x_12_74, rs_x_12_75, rs_x_12_78, rs_x_12_79, rs_x_12_80, rs_x_12_83, rs_x_12_89, rs_x_12_92, rs_x_12_95, rs_x_12_98, rs_cn_n, rs_cn_i, rs_cn_r, rs_cn_t, rs_up_at, Nat.reduceAdd, Nat.reduceEqDiff, Nat.reduceSub, Int.reduceToNat, Int.reduceNeg, Int.reduceLE, Int.reduceLT, Int.reduceAdd, Int.reduceSub, Int.reduceMul, Int.add_sub_cancel, List.length_cons, List.length_nil, Nat.reduceLeDiff, Nat.reduceLT, Int.cast_ofNat_Int, true_and, and_true, and_self, false_and, and_false, ↓reduceIte, Nat.zero_le, or_true, true_or, false_or, or_false, Nat.sub_zero, Int.toNat_natCast, Nat.le_refl, implies_true, forall_const, Int.reduceEq, Nat.reduceMul, ne_eq, not_true_eq_false, not_false_eq_true, false_implies, true_implies, Nat.left_eq_add, Nat.add_eq_left, q1, q2, q3, q4, q5, hb, nn, nb, ib]
      exact ⟨rn, i1⟩
theorem rd_rd_next {q m i : Nat} {I J : rs_M} {g : Int} (h : rd_rd q m i 10 I J g) : rd_rd q m (i + 1) 0 I J g := by
  obtain ⟨h1, h2, h3⟩ := h
  refine ⟨h1, h2, ?_⟩
  rcases h3 with ⟨a, b, c⟩ | h3
  · exact Or.inl ⟨a, b, fun e x y hxy hx hy => c e x y (by have := hy.1; omega) hx hy⟩
  · exact Or.inr h3
set_option maxRecDepth 100000 in
set_option maxHeartbeats 2000000 in
theorem rd_il {u d q m : Nat} {l3 : Option rs_V} {I : rs_M} {K : rs_K} (hd : 3 ≤ d) (hq : rs_isR q) (hm : m < 1024) (hK : ∀ J g l5, rd_rd q m 10 0 I J g → rs_run u d 12 92 [some (.inl (m : Int)), some (.inr (.inr q)), some (.inl g), l3, some (.inl 10), l5] [] J K) : ∀ (k i : Nat) (J : rs_M) (g : Int) (l5 : Option rs_V), i + k = 10 → rd_rd q m i 0 I J g → rs_run u d 12 26 [some (.inl (m : Int)), some (.inr (.inr q)), some (.inl g), l3, some (.inl (i : Int)), l5] [] J K := by
  intro k
  induction k with
  | zero =>
    intro i J g l5 e hJ
    have : i = 10 := by omega
    subst this
    have f := hK J g l5 hJ
    rw [rs_x_12_26]
    simp only [rs_x_12_0, rs_x_12_1, rs_x_12_2, rs_x_12_3, rs_x_12_4, rs_x_12_5, rs_x_12_7, rs_x_12_10, rs_x_12_11, rs_x_12_14, rs_x_12_15, rs_x_12_18, rs_x_12_21, rs_x_12_22, rs_x_12_23, rs_x_12_24, rs_x_12_28, rs_x_12_30, rs_x_12_33, rs_x_12_34, rs_x_12_38, rs_x_12_40, rs_x_12_43, rs_x_12_44, rs_x_12_46, rs_x_12_47, rs_x_12_48, rs_x_12_50, rs_x_12_51, rs_x_12_52, rs_x_12_53, rs_x_12_54, rs_x_12_55, rs_x_12_58, rs_x_12_59, rs_x_12_60, rs_x_12_61, rs_x_12_64, rs_x_12_66, rs_x_12_67, rs_x_12_68, rs_x_12_71, rs_x_12_73, rs_x_12_74, rs_x_12_75, rs_x_12_78, rs_x_12_79, rs_x_12_80, rs_x_12_83, rs_x_12_86, rs_x_12_89, rs_x_12_95, rs_x_12_98, rs_cn_n, rs_cn_i, rs_cn_r, rs_cn_t, rs_up_at, Nat.reduceAdd, Nat.reduceEqDiff, Nat.reduceSub, Int.reduceToNat, Int.reduceNeg, Int.reduceLE, Int.reduceLT, Int.reduceAdd, Int.reduceSub, Int.reduceMul, Int.add_sub_cancel, List.length_cons, List.length_nil, Nat.reduceLeDiff, Nat.reduceLT, Int.cast_ofNat_Int, true_and, and_true, and_self, false_and, and_false, ↓reduceIte, Nat.zero_le, or_true, true_or, false_or, or_false, Nat.sub_zero, Int.toNat_natCast, Nat.le_refl, implies_true, forall_const, Int.reduceEq, Nat.reduceMul, ne_eq, not_true_eq_false, not_false_eq_true, false_implies, true_implies, Nat.left_eq_add, Nat.add_eq_left]
    exact f
  | succ k ih =>
    intro i J g l5 e hJ
    have nn : ((10 : Int) ≤ (i : Int)) = False := eq_false (by omega)
    have rn : rs_R ((i : Int) + 1) := by unfold rs_R; omega
    rw [rs_x_12_26]
    simp only [rs_x_12_0, rs_x_12_1, rs_x_12_2, rs_x_12_3, rs_x_12_4, rs_x_12_5, rs_x_12_7, rs_x_12_10, rs_x_12_11, rs_x_12_14, rs_x_12_15, rs_x_12_18, rs_x_12_21, rs_x_12_22, rs_x_12_23, rs_x_12_24, rs_x_12_28, rs_x_12_30, rs_x_12_33, rs_x_12_34, rs_x_12_38, rs_x_12_40, rs_x_12_43, rs_x_12_44, rs_x_12_46, rs_x_12_47, rs_x_12_48, rs_x_12_50, rs_x_12_51, rs_x_12_52, rs_x_12_53, rs_x_12_54, rs_x_12_55, rs_x_12_58, rs_x_12_59, rs_x_12_60, rs_x_12_61, rs_x_12_64, rs_x_12_66, rs_x_12_67, rs_x_12_68, rs_x_12_71, rs_x_12_73, rs_x_12_74, rs_x_12_75, rs_x_12_78, rs_x_12_79, rs_x_12_80, rs_x_12_83, rs_x_12_86, rs_x_12_89, rs_x_12_92, rs_x_12_95, rs_x_12_98, rs_cn_n, rs_cn_i, rs_cn_r, rs_cn_t, rs_up_at, Nat.reduceAdd, Nat.reduceEqDiff, Nat.reduceSub, Int.reduceToNat, Int.reduceNeg, Int.reduceLE, Int.reduceLT, Int.reduceAdd, Int.reduceSub, Int.reduceMul, Int.add_sub_cancel, List.length_cons, List.length_nil, Nat.reduceLeDiff, Nat.reduceLT, Int.cast_ofNat_Int, true_and, and_true, and_self, false_and, and_false, ↓reduceIte, Nat.zero_le, or_true, true_or, false_or, or_false, Nat.sub_zero, Int.toNat_natCast, Nat.le_refl, implies_true, forall_const, Int.reduceEq, Nat.reduceMul, ne_eq, not_true_eq_false, not_false_eq_true, false_implies, true_implies, Nat.left_eq_add, Nat.add_eq_left, nn]
    refine rd_jl hd hq hm (by omega) (fun J g hJ => ?_) 10 0 J g (by omega) hJ
    have i1 := ih (i + 1) J g (some (.inl 10)) (by omega) (rd_rd_next hJ)
    rw [rs_x_12_86]
    simp only [rs_x_12_0, rs_x_12_1, rs_x_12_2, rs_x_12_3, rs_x_12_4, rs_x_12_5, rs_x_12_7, rs_x_12_10, rs_x_12_11, rs_x_12_14, rs_x_12_15, rs_x_12_18, rs_x_12_21, rs_x_12_22, rs_x_12_23, rs_x_12_24, rs_x_12_28, rs_x_12_30, rs_x_12_33, rs_x_12_34, rs_x_12_38, rs_x_12_40, rs_x_12_43, rs_x_12_44, rs_x_12_46, rs_x_12_47, rs_x_12_48, rs_x_12_50, rs_x_12_51, rs_x_12_52, rs_x_12_53, rs_x_12_54, rs_x_12_55, rs_x_12_58, rs_x_12_59, rs_x_12_60, rs_x_12_61, rs_x_12_64, rs_x_12_66, rs_x_12_67, rs_x_12_68, rs_x_12_71, rs_x_12_73, rs_x_12_74, rs_x_12_75, rs_x_12_78, rs_x_12_79, rs_x_12_80, rs_x_12_83, rs_x_12_89, rs_x_12_92, rs_x_12_95, rs_x_12_98, rs_cn_n, rs_cn_i, rs_cn_r, rs_cn_t, rs_up_at, Nat.reduceAdd, Nat.reduceEqDiff, Nat.reduceSub, Int.reduceToNat, Int.reduceNeg, Int.reduceLE, Int.reduceLT, Int.reduceAdd, Int.reduceSub, Int.reduceMul, Int.add_sub_cancel, List.length_cons, List.length_nil, Nat.reduceLeDiff, Nat.reduceLT, Int.cast_ofNat_Int, true_and, and_true, and_self, false_and, and_false, ↓reduceIte, Nat.zero_le, or_true, true_or, false_or, or_false, Nat.sub_zero, Int.toNat_natCast, Nat.le_refl, implies_true, forall_const, Int.reduceEq, Nat.reduceMul, ne_eq, not_true_eq_false, not_false_eq_true, false_implies, true_implies, Nat.left_eq_add, Nat.add_eq_left]
    exact ⟨rn, i1⟩
theorem rd_fix {q m : Nat} {I J : rs_M} (h : rd_rd q m 10 0 I J 0) (h0 : J q 3 = 0) : hl_fix m (J (q + 1)) (J (q + 2)) := by
  obtain ⟨h1, h2, h3⟩ := h
  rcases h3 with ⟨a, b, c⟩ | h3
  · obtain ⟨x1, x2⟩ := rd_box b
    rw [x1, x2]
    exact fun i j hi hj => c h0 i j (Or.inl hi.1) hi hj
  · omega
set_option maxRecDepth 100000 in
set_option maxHeartbeats 2000000 in
theorem ct_different {u d q m : Nat} {I : rs_M} {K : rs_K} (hd : 3 ≤ d) (hq : rs_isR q) (hm : m < 1024) (h2 : I q 2 = 0) (h3 : I q 3 = 0) (hok : bx_ok 10 (I (q + 1)) (I (q + 2))) (hK : ∀ J, rg_nar q (bx_M m) (bx_df m) I J → K none J) : rs_run u d 12 0 (rs_en0 [.inl (m : Int), .inr (.inr q)] 6) [] I K := by
  show rs_run u d 12 0 [some (.inl (m : Int)), some (.inr (.inr q)), none, none, none, none] [] I K
  obtain ⟨q1, q2, q3, q4, q5⟩ := id hq
  -- the end
  have fin : ∀ (J : rs_M) (g : Int), rd_tr q m I J → (J q 3 = 0 → hl_fix m (J (q + 1)) (J (q + 2))) → K none J := by
    intro J g t hf
    apply hK
    obtain ⟨t1, t2, t3, t4, t5, t6, t7⟩ := t
    obtain ⟨m', m1, m2, m3⟩ := t4 0 (by omega) h2
    refine ⟨t1, ⟨m', m1, m2⟩, ?_⟩
    rcases t6 h3 with ⟨a, b⟩ | a
    · refine Or.inr ⟨a, t2, b, t3, ⟨m', m1, m2, fun j => ?_⟩, t7, hl_sup (fun j hj => ?_) (hf a)⟩
      · rw [m3 j]
        exact ⟨fun g => g.resolve_left (by simp), Or.inr⟩
      · by_cases g : rg_sm q I J j
        · have := hok j hj.1
          unfold rg_sm at g
          omega
        · exact b j g
    · exact Or.inl a
  have loop : ∀ (N r : Nat) (J : rs_M) (g : Int) (l4 l5 : Option rs_V), r + N ≤ 1000000 → rd_tr q m I J → rd_bd q m J → (g = 0 ∨ g = 1) → (g = 0 → J q 3 = 0 → hl_fix m (J (q + 1)) (J (q + 2))) → (g = 1 → J q 3 = 0 → mz (J (q + 1)) (J (q + 2)) 10 < N) → rs_run u d 12 4 [some (.inl (m : Int)), some (.inr (.inr q)), some (.inl g), some (.inl (r : Int)), l4, l5] [] J K := by
    intro N
    induction N with
    | zero =>
      intro r J g l4 l5 er t bd g01 gf gz
      have f := fun hf => fin J g t hf
      rw [rs_x_12_4]
      simp only [rs_x_12_0, rs_x_12_1, rs_x_12_2, rs_x_12_3, rs_x_12_5, rs_x_12_7, rs_x_12_10, rs_x_12_11, rs_x_12_14, rs_x_12_15, rs_x_12_18, rs_x_12_21, rs_x_12_22, rs_x_12_23, rs_x_12_24, rs_x_12_28, rs_x_12_30, rs_x_12_33, rs_x_12_34, rs_x_12_36, rs_x_12_38, rs_x_12_40, rs_x_12_43, rs_x_12_44, rs_x_12_46, rs_x_12_47, rs_x_12_48, rs_x_12_50, rs_x_12_51, rs_x_12_52, rs_x_12_53, rs_x_12_54, rs_x_12_55, rs_x_12_58, rs_x_12_59, rs_x_12_60, rs_x_12_61, rs_x_12_64, rs_x_12_66, rs_x_12_67, rs_x_12_68, rs_x_12_71, rs_x_12_73, rs_x_12_74, rs_x_12_75, rs_x_12_78, rs_x_12_79, rs_x_12_80, rs_x_12_83, rs_x_12_86, rs_x_12_89, rs_x_12_92, rs_x_12_95, rs_x_12_98, rs_cn_n, rs_cn_i, rs_cn_r, rs_cn_t, rs_up_at, Nat.reduceAdd, Nat.reduceEqDiff, Nat.reduceSub, Int.reduceToNat, Int.reduceNeg, Int.reduceLE, Int.reduceLT, Int.reduceAdd, Int.reduceSub, Int.reduceMul, Int.add_sub_cancel, List.length_cons, List.length_nil, Nat.reduceLeDiff, Nat.reduceLT, Int.cast_ofNat_Int, true_and, and_true, and_self, false_and, and_false, ↓reduceIte, Nat.zero_le, or_true, true_or, false_or, or_false, Nat.sub_zero, Int.toNat_natCast, Nat.le_refl, implies_true, forall_const, Int.reduceEq, Nat.reduceMul, ne_eq, not_true_eq_false, not_false_eq_true, false_implies, true_implies, Nat.left_eq_add, Nat.add_eq_left, q1, q2, q3, q4, q5]
      by_cases e0 : J q 3 = 0
      · have g0 : g = 0 := by
          rcases g01 with a | a
          · exact a
          · have := gz a e0
            omega
        have f' := f (gf g0)
        repeat' (first
    | refine And.intro ?_ ?_
    | (guard_target =~ (_ → _); intro)
    | omega
    | (unfold rs_R; omega)
    | exact f'
    | decide)
      · have f' := f (fun e => absurd e e0)
        repeat' (first
    | refine And.intro ?_ ?_
    | (guard_target =~ (_ → _); intro)
    | omega
    | (unfold rs_R; omega)
    | exact f'
    | decide)
    | succ N ih =>
      intro r J g l4 l5 er t bd g01 gf gz
      have nr : ((1000000 : Int) ≤ (r : Int)) = False := eq_false (by omega)
      have rn : rs_R ((r : Int) + 1) := by unfold rs_R; omega
      rw [rs_x_12_4]
      by_cases e0 : J q 3 = 0
      · by_cases g0 : g = 0
        · have f' := fin J g t (gf g0)
          simp only [rs_x_12_0, rs_x_12_1, rs_x_12_2, rs_x_12_3, rs_x_12_5, rs_x_12_7, rs_x_12_10, rs_x_12_11, rs_x_12_14, rs_x_12_15, rs_x_12_18, rs_x_12_21, rs_x_12_22, rs_x_12_23, rs_x_12_24, rs_x_12_28, rs_x_12_30, rs_x_12_33, rs_x_12_34, rs_x_12_36, rs_x_12_38, rs_x_12_40, rs_x_12_43, rs_x_12_44, rs_x_12_46, rs_x_12_47, rs_x_12_48, rs_x_12_50, rs_x_12_51, rs_x_12_52, rs_x_12_53, rs_x_12_54, rs_x_12_55, rs_x_12_58, rs_x_12_59, rs_x_12_60, rs_x_12_61, rs_x_12_64, rs_x_12_66, rs_x_12_67, rs_x_12_68, rs_x_12_71, rs_x_12_73, rs_x_12_74, rs_x_12_75, rs_x_12_78, rs_x_12_79, rs_x_12_80, rs_x_12_83, rs_x_12_86, rs_x_12_89, rs_x_12_92, rs_x_12_95, rs_x_12_98, rs_cn_n, rs_cn_i, rs_cn_r, rs_cn_t, rs_up_at, Nat.reduceAdd, Nat.reduceEqDiff, Nat.reduceSub, Int.reduceToNat, Int.reduceNeg, Int.reduceLE, Int.reduceLT, Int.reduceAdd, Int.reduceSub, Int.reduceMul, Int.add_sub_cancel, List.length_cons, List.length_nil, Nat.reduceLeDiff, Nat.reduceLT, Int.cast_ofNat_Int, true_and, and_true, and_self, false_and, and_false, ↓reduceIte, Nat.zero_le, or_true, true_or, false_or, or_false, Nat.sub_zero, Int.toNat_natCast, Nat.le_refl, implies_true, forall_const, Int.reduceEq, Nat.reduceMul, ne_eq, not_true_eq_false, not_false_eq_true, false_implies, true_implies, Nat.left_eq_add, Nat.add_eq_left, q1, q2, q3, q4, q5, nr, e0, g0]
          exact f'
        · have g1 : g = 1 := by omega
          have gz' := gz g1 e0
          simp only [rs_x_12_0, rs_x_12_1, rs_x_12_2, rs_x_12_3, rs_x_12_5, rs_x_12_7, rs_x_12_10, rs_x_12_11, rs_x_12_14, rs_x_12_15, rs_x_12_18, rs_x_12_21, rs_x_12_22, rs_x_12_23, rs_x_12_24, rs_x_12_28, rs_x_12_30, rs_x_12_33, rs_x_12_34, rs_x_12_36, rs_x_12_38, rs_x_12_40, rs_x_12_43, rs_x_12_44, rs_x_12_46, rs_x_12_47, rs_x_12_48, rs_x_12_50, rs_x_12_51, rs_x_12_52, rs_x_12_53, rs_x_12_54, rs_x_12_55, rs_x_12_58, rs_x_12_59, rs_x_12_60, rs_x_12_61, rs_x_12_64, rs_x_12_66, rs_x_12_67, rs_x_12_68, rs_x_12_71, rs_x_12_73, rs_x_12_74, rs_x_12_75, rs_x_12_78, rs_x_12_79, rs_x_12_80, rs_x_12_83, rs_x_12_86, rs_x_12_89, rs_x_12_92, rs_x_12_95, rs_x_12_98, rs_cn_n, rs_cn_i, rs_cn_r, rs_cn_t, rs_up_at, Nat.reduceAdd, Nat.reduceEqDiff, Nat.reduceSub, Int.reduceToNat, Int.reduceNeg, Int.reduceLE, Int.reduceLT, Int.reduceAdd, Int.reduceSub, Int.reduceMul, Int.add_sub_cancel, List.length_cons, List.length_nil, Nat.reduceLeDiff, Nat.reduceLT, Int.cast_ofNat_Int, true_and, and_true, and_self, false_and, and_false, ↓reduceIte, Nat.zero_le, or_true, true_or, false_or, or_false, Nat.sub_zero, Int.toNat_natCast, Nat.le_refl, implies_true, forall_const, Int.reduceEq, Nat.reduceMul, ne_eq, not_true_eq_false, not_false_eq_true, false_implies, true_implies, Nat.left_eq_add, Nat.add_eq_left, q1, q2, q3, q4, q5, nr, e0, g0]
          refine rd_il hd hq hm (fun L g' l5 hL => ?_) 10 0 J 0 _ (by omega) ⟨rd_rf, bd, Or.inl ⟨rfl, fun k => ⟨rfl, rfl⟩, fun _ a b hab => by omega⟩⟩
          have i1 := ih (r + 1) L g' (some (.inl 10)) l5 (by omega) (rd_tt t hL.1) hL.2.1 (by
            rcases hL.2.2 with a | a
            · exact Or.inl a.1
            · exact Or.inr a.1) (fun ge => by
            subst ge
            exact rd_fix hL) (fun ge le => by
            rcases hL.2.2 with a | ⟨_, k, a⟩
            · omega
            · have b := hL.1.2.2.2.2.2.1 e0
              rcases b with ⟨_, b⟩ | ⟨b, _⟩
              · have hk : bx_M m k := Classical.byContradiction fun n => a (hL.1.2.2.1 k n)
                have := mz_lt (lo := J (q + 1)) (hi := J (q + 2)) (lo' := L (q + 1)) (hi' := L (q + 2)) 10 (fun j _ => hL.1.2.1 j) ⟨k, hk.1, b k a, a⟩
                omega
              · omega)
          rw [rs_x_12_92]
          simp only [rs_x_12_0, rs_x_12_1, rs_x_12_2, rs_x_12_3, rs_x_12_5, rs_x_12_7, rs_x_12_10, rs_x_12_11, rs_x_12_14, rs_x_12_15, rs_x_12_18, rs_x_12_21, rs_x_12_22, rs_x_12_23, rs_x_12_24, rs_x_12_28, rs_x_12_30, rs_x_12_33, rs_x_12_34, rs_x_12_36, rs_x_12_38, rs_x_12_40, rs_x_12_43, rs_x_12_44, rs_x_12_46, rs_x_12_47, rs_x_12_48, rs_x_12_50, rs_x_12_51, rs_x_12_52, rs_x_12_53, rs_x_12_54, rs_x_12_55, rs_x_12_58, rs_x_12_59, rs_x_12_60, rs_x_12_61, rs_x_12_64, rs_x_12_66, rs_x_12_67, rs_x_12_68, rs_x_12_71, rs_x_12_73, rs_x_12_74, rs_x_12_75, rs_x_12_78, rs_x_12_79, rs_x_12_80, rs_x_12_83, rs_x_12_86, rs_x_12_89, rs_x_12_95, rs_x_12_98, rs_cn_n, rs_cn_i, rs_cn_r, rs_cn_t, rs_up_at, Nat.reduceAdd, Nat.reduceEqDiff, Nat.reduceSub, Int.reduceToNat, Int.reduceNeg, Int.reduceLE, Int.reduceLT, Int.reduceAdd, Int.reduceSub, Int.reduceMul, Int.add_sub_cancel, List.length_cons, List.length_nil, Nat.reduceLeDiff, Nat.reduceLT, Int.cast_ofNat_Int, true_and, and_true, and_self, false_and, and_false, ↓reduceIte, Nat.zero_le, or_true, true_or, false_or, or_false, Nat.sub_zero, Int.toNat_natCast, Nat.le_refl, implies_true, forall_const, Int.reduceEq, Nat.reduceMul, ne_eq, not_true_eq_false, not_false_eq_true, false_implies, true_implies, Nat.left_eq_add, Nat.add_eq_left]
          exact ⟨rn, i1⟩
      · have f' := fin J g t (fun e => absurd e e0)
        simp only [rs_x_12_0, rs_x_12_1, rs_x_12_2, rs_x_12_3, rs_x_12_5, rs_x_12_7, rs_x_12_10, rs_x_12_11, rs_x_12_14, rs_x_12_15, rs_x_12_18, rs_x_12_21, rs_x_12_22, rs_x_12_23, rs_x_12_24, rs_x_12_28, rs_x_12_30, rs_x_12_33, rs_x_12_34, rs_x_12_36, rs_x_12_38, rs_x_12_40, rs_x_12_43, rs_x_12_44, rs_x_12_46, rs_x_12_47, rs_x_12_48, rs_x_12_50, rs_x_12_51, rs_x_12_52, rs_x_12_53, rs_x_12_54, rs_x_12_55, rs_x_12_58, rs_x_12_59, rs_x_12_60, rs_x_12_61, rs_x_12_64, rs_x_12_66, rs_x_12_67, rs_x_12_68, rs_x_12_71, rs_x_12_73, rs_x_12_74, rs_x_12_75, rs_x_12_78, rs_x_12_79, rs_x_12_80, rs_x_12_83, rs_x_12_86, rs_x_12_89, rs_x_12_92, rs_x_12_95, rs_x_12_98, rs_cn_n, rs_cn_i, rs_cn_r, rs_cn_t, rs_up_at, Nat.reduceAdd, Nat.reduceEqDiff, Nat.reduceSub, Int.reduceToNat, Int.reduceNeg, Int.reduceLE, Int.reduceLT, Int.reduceAdd, Int.reduceSub, Int.reduceMul, Int.add_sub_cancel, List.length_cons, List.length_nil, Nat.reduceLeDiff, Nat.reduceLT, Int.cast_ofNat_Int, true_and, and_true, and_self, false_and, and_false, ↓reduceIte, Nat.zero_le, or_true, true_or, false_or, or_false, Nat.sub_zero, Int.toNat_natCast, Nat.le_refl, implies_true, forall_const, Int.reduceEq, Nat.reduceMul, ne_eq, not_true_eq_false, not_false_eq_true, false_implies, true_implies, Nat.left_eq_add, Nat.add_eq_left, q1, q2, q3, q4, q5, nr, e0]
        repeat' (first
    | refine And.intro ?_ ?_
    | (guard_target =~ (_ → _); intro)
    | omega
    | (unfold rs_R; omega)
    | exact f'
    | decide)
  have top := mz_top 10 hok
  have i0 := loop 2001 0 I 1 none none (by omega) rd_rf ⟨fun j hj => by
    have := hok j hj.1
    omega, Or.inl h3⟩ (Or.inr rfl) (fun g => by omega) (fun _ _ => by omega)
  simp only [rs_x_12_0, rs_x_12_1, rs_x_12_2, rs_x_12_3, rs_x_12_5, rs_x_12_7, rs_x_12_10, rs_x_12_11, rs_x_12_14, rs_x_12_15, rs_x_12_18, rs_x_12_21, rs_x_12_22, rs_x_12_23, rs_x_12_24, rs_x_12_26, rs_x_12_28, rs_x_12_30, rs_x_12_33, rs_x_12_34, rs_x_12_36, rs_x_12_38, rs_x_12_40, rs_x_12_43, rs_x_12_44, rs_x_12_46, rs_x_12_47, rs_x_12_48, rs_x_12_50, rs_x_12_51, rs_x_12_52, rs_x_12_53, rs_x_12_54, rs_x_12_55, rs_x_12_58, rs_x_12_59, rs_x_12_60, rs_x_12_61, rs_x_12_64, rs_x_12_66, rs_x_12_67, rs_x_12_68, rs_x_12_71, rs_x_12_73, rs_x_12_74, rs_x_12_75, rs_x_12_78, rs_x_12_79, rs_x_12_80, rs_x_12_83, rs_x_12_86, rs_x_12_89, rs_x_12_92, rs_x_12_95, rs_x_12_98, rs_cn_n, rs_cn_i, rs_cn_r, rs_cn_t, rs_up_at, Nat.reduceAdd, Nat.reduceEqDiff, Nat.reduceSub, Int.reduceToNat, Int.reduceNeg, Int.reduceLE, Int.reduceLT, Int.reduceAdd, Int.reduceSub, Int.reduceMul, Int.add_sub_cancel, List.length_cons, List.length_nil, Nat.reduceLeDiff, Nat.reduceLT, Int.cast_ofNat_Int, true_and, and_true, and_self, false_and, and_false, ↓reduceIte, Nat.zero_le, or_true, true_or, false_or, or_false, Nat.sub_zero, Int.toNat_natCast, Nat.le_refl, implies_true, forall_const, Int.reduceEq, Nat.reduceMul, ne_eq, not_true_eq_false, not_false_eq_true, false_implies, true_implies, Nat.left_eq_add, Nat.add_eq_left]
  exact i0
