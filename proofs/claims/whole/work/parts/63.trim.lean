/-! ===== the class: narrowing, trimming, conflict, because ===== -/
theorem cl_fr {q n : Nat} {I J : rs_M} (hq : 32 < q) (hq2 : q + 2 < 76) (h : nt_fr q I J) (ok : cl_ok I n) : cl_ok J n ∧ (∀ m, cl_lo J m = cl_lo I m ∧ cl_hi J m = cl_hi I m) := by
  obtain ⟨net, e6, e7, en, fi⟩ := ok
  have j1 : J 1 = I 1 := funext fun j => h _ _ (by omega) (by omega) (by omega) (by omega)
  have j3 : J 3 = I 3 := funext fun j => h _ _ (by omega) (by omega) (by omega) (by omega)
  have j4 : J 4 = I 4 := funext fun j => h _ _ (by omega) (by omega) (by omega) (by omega)
  have je : ∀ e, J (76 + e) = I (76 + e) := fun e => funext fun j => h _ _ (by omega) (by omega) (by omega) (by omega)
  refine ⟨⟨nt_fr_G hq h net, by rw [j1]; exact e6, by rw [j1]; exact e7, fun e he => ?_, fun j hj => by rw [j3, j4]; exact fi j hj⟩, fun m => ?_⟩
  · rw [j1] at he
    rw [je]
    exact en e he
  · unfold cl_lo cl_hi
    have a0 : (fun e => J (76 + e) 0) = fun e => I (76 + e) 0 := funext fun e => by rw [je]
    have a1 : (fun e => J (76 + e) 1) = fun e => I (76 + e) 1 := funext fun e => by rw [je]
    have a2 : (fun e => J (76 + e) 2) = fun e => I (76 + e) 2 := funext fun e => by rw [je]
    rw [a0, a1, a2, j1, j3, j4]
    exact ⟨rfl, rfl⟩
theorem cl_nar_tr {q q' n m : Nat} {I J L : rs_M} (hq : 32 < q) (hq2 : q + 2 < 76) (hq' : q' = q) (h : nt_fr q I J) (ok : cl_ok I n) (g : cl_nar q' n m J L) : cl_nar q' n m I L := by
  subst hq'
  obtain ⟨_, e⟩ := cl_fr hq hq2 h ok
  obtain ⟨g1, g2⟩ := nt_eq hq h ok.1
  have cg := fun l h => bx_all_cg (n := n) g1 g2 l h
  obtain ⟨f, r⟩ := g
  rw [(e m).1, (e m).2, bx_brk_cg cg, bx_fix_cg cg] at r
  exact ⟨nt_fr_tr h f, r⟩
/-- entries are trimmed by the test T -/
noncomputable def tr_f (T : Nat → Prop) : Nat → Nat → Nat
  | 0, k => k
  | e + 1, k => tr_f T e (@ite Nat (k.testBit e = true ∧ T (k ^^^ 2 ^ e)) (Classical.propDecidable _) (k ^^^ 2 ^ e) k)
theorem tr_no {T : Nat → Prop} {e k : Nat} (h : k.testBit e = false) : tr_f T (e + 1) k = tr_f T e k := by
  unfold tr_f
  rw [if_neg (fun g => by rw [h] at g; exact absurd g.1 (by simp))]
  cases e <;> rfl
theorem tr_yes {T : Nat → Prop} {e k : Nat} (h : k.testBit e = true) (ht : T (k ^^^ 2 ^ e)) : tr_f T (e + 1) k = tr_f T e (k ^^^ 2 ^ e) := by
  rw [tr_f, if_pos ⟨h, ht⟩]
theorem tr_keep {T : Nat → Prop} {e k : Nat} (ht : ¬ T (k ^^^ 2 ^ e)) : tr_f T (e + 1) k = tr_f T e k := by
  rw [tr_f, if_neg (fun g => ht g.2)]
theorem bt_x {k e : Nat} (h : k.testBit e = true) : k ^^^ (k &&& 2 ^ e) = k ^^^ 2 ^ e := by
  apply Nat.eq_of_testBit_eq
  intro i
  rw [Nat.testBit_xor, Nat.testBit_xor, Nat.testBit_and, Nat.testBit_two_pow]
  by_cases g : e = i
  · subst g; simp [h]
  · simp [g]
theorem bt_x0 {k e : Nat} (h : k.testBit e = false) : k ^^^ (k &&& 2 ^ e) = k := by
  apply Nat.eq_of_testBit_eq
  intro i
  rw [Nat.testBit_xor, Nat.testBit_and, Nat.testBit_two_pow]
  by_cases g : e = i
  · subst g; simp [h]
  · simp [g]
theorem bt_xne {k e : Nat} (h : k.testBit e = true) : k ^^^ 2 ^ e ≠ k := fun g => by
  have : (k ^^^ 2 ^ e).testBit e = k.testBit e := by rw [g]
  rw [Nat.testBit_xor, Nat.testBit_two_pow, h] at this
  simp at this
theorem bt_xlt {k e : Nat} (hk : k < 4096) (he : e < 12) : k ^^^ 2 ^ e < 4096 := Nat.xor_lt_two_pow (n := 12) hk (Nat.pow_lt_pow_right (by omega) (by omega))
set_option maxRecDepth 100000 in
set_option maxHeartbeats 2000000 in
theorem ct_trim {u d n : Nat} {c up due : Int} {all : Nat} {T : Nat → Prop} {I : rs_M} {K : rs_K} (hd : 6 ≤ d) (hc : 0 ≤ c ∧ c < 10) (ha : all < 4096) (ok : cl_ok I n) (hT : ∀ m J, m < 4096 → cl_nar 73 n m I J → ((if J 73 3 = 0 then (if up = 0 then J 74 c.toNat else J 75 c.toNat) else -1000) = due ↔ T m)) (hK : ∀ J, nt_fr 73 I J → K (some (.inl ((tr_f T (I 1 7).toNat all : Nat) : Int))) J) : rs_run u d 58 0 (rs_en0 [.inr (.inr 1), .inl (all : Int), .inl c, .inl up, .inl due] 8) [] I K := by
  show rs_run u d 58 0 [some (.inr (.inr 1)), some (.inl (all : Int)), some (.inl c), some (.inl up), some (.inl due), none, none, none] [] I K
  have g1 : rs_sh 1 = (1, 7) := by decide +kernel
  have g6 : rs_sh 6 = (1, 1) := by decide +kernel
  have g73 : rs_sh 73 = (1, 2) := by decide +kernel
  have f1_2 : rs_rf 1 2 = 6 := by decide +kernel
  have f1_5 : rs_rf 1 5 = 73 := by decide +kernel
  have hd0 : 0 < d := by omega
  have hd2 : 2 ≤ d - 1 := by omega
  have hd5 : 5 ≤ d - 1 := by omega
  have e7 := ok.2.2.1
  have loop : ∀ (e k : Nat) (J : rs_M) (l7 : Option rs_V), e ≤ 12 → k < 4096 → nt_fr 73 I J → tr_f T e k = tr_f T (I 1 7).toNat all → rs_run u d 58 11 [some (.inr (.inr 1)), some (.inl (all : Int)), some (.inl c), some (.inl up), some (.inl due), some (.inl (k : Int)), some (.inl ((e : Int) - 1)), l7] [] J K := by
    intro e
    induction e with
    | zero =>
      intro k J l7 _ hk f he
      have f1 := hK J f
      rw [← he] at f1
      rw [rs_x_58_11]
      simp only [rs_x_58_0, rs_x_58_1, rs_x_58_3, rs_x_58_4, rs_x_58_7, rs_x_58_8, rs_x_58_9, rs_x_58_13, rs_x_58_16, rs_x_58_18, rs_x_58_19, rs_x_58_21, rs_x_58_22, rs_x_58_23, rs_x_58_24, rs_x_58_25, rs_x_58_27, rs_x_58_29, rs_x_58_31, rs_x_58_34, rs_x_58_35, rs_x_58_37, rs_x_58_38, rs_x_58_41, rs_x_58_44, rs_x_58_45, rs_x_58_48, rs_x_58_49, rs_x_58_52, rs_x_58_55, rs_x_58_56, rs_x_58_59, rs_x_58_60, rs_x_58_61, rs_x_58_64, rs_x_58_66, rs_x_58_69, rs_x_58_71, rs_x_58_74, rs_x_58_76, rs_x_58_78, rs_x_58_81, rs_x_58_84, rs_x_58_86, rs_cn_n, rs_cn_i, rs_cn_r, rs_cn_t, rs_up_at, Nat.reduceAdd, Nat.reduceEqDiff, Nat.reduceSub, Int.reduceToNat, Int.reduceNeg, Int.reduceLE, Int.reduceLT, Int.reduceAdd, Int.reduceSub, Int.reduceMul, Int.add_sub_cancel, List.length_cons, List.length_nil, Nat.reduceLeDiff, Nat.reduceLT, Int.cast_ofNat_Int, true_and, and_true, and_self, false_and, and_false, ↓reduceIte, Nat.zero_le, or_true, true_or, false_or, or_false, Nat.sub_zero, Int.toNat_natCast, Nat.le_refl, implies_true, forall_const, Int.reduceEq, Nat.reduceMul, ne_eq, not_true_eq_false, not_false_eq_true, false_implies, true_implies, Nat.left_eq_add, Nat.add_eq_left]
      exact f1
    | succ e ih =>
      intro k J l7 e12 hk f he
      have e1 : ((e + 1 : Nat) : Int) - 1 = (e : Int) := by omega
      rw [e1]
      have nn : ((e : Int) < 0) = False := eq_false (by omega)
      have ec := bt_clr (x := k) (r := e) hk (by omega)
      have rn : rs_R ((e : Int) + -1) := by unfold rs_R; omega
      have en : (e : Int) + -1 = (e : Int) - 1 := by omega
      rw [rs_x_58_11]
      cases hb : k.testBit e with
      | false =>
        rw [bt_x0 hb] at ec
        have i1 := ih k J (some (.inl (k : Int))) (by omega) hk f (by rw [← he, tr_no hb])
        rw [← en] at i1
        simp only [rs_x_58_0, rs_x_58_1, rs_x_58_3, rs_x_58_4, rs_x_58_7, rs_x_58_8, rs_x_58_9, rs_x_58_13, rs_x_58_16, rs_x_58_18, rs_x_58_19, rs_x_58_21, rs_x_58_22, rs_x_58_23, rs_x_58_24, rs_x_58_25, rs_x_58_27, rs_x_58_29, rs_x_58_31, rs_x_58_34, rs_x_58_35, rs_x_58_37, rs_x_58_38, rs_x_58_41, rs_x_58_44, rs_x_58_45, rs_x_58_48, rs_x_58_49, rs_x_58_52, rs_x_58_55, rs_x_58_56, rs_x_58_59, rs_x_58_60, rs_x_58_61, rs_x_58_64, rs_x_58_66, rs_x_58_69, rs_x_58_71, rs_x_58_74, rs_x_58_76, rs_x_58_78, rs_x_58_81, rs_x_58_84, rs_x_58_86, rs_cn_n, rs_cn_i, rs_cn_r, rs_cn_t, rs_up_at, Nat.reduceAdd, Nat.reduceEqDiff, Nat.reduceSub, Int.reduceToNat, Int.reduceNeg, Int.reduceLE, Int.reduceLT, Int.reduceAdd, Int.reduceSub, Int.reduceMul, Int.add_sub_cancel, List.length_cons, List.length_nil, Nat.reduceLeDiff, Nat.reduceLT, Int.cast_ofNat_Int, true_and, and_true, and_self, false_and, and_false, ↓reduceIte, Nat.zero_le, or_true, true_or, false_or, or_false, Nat.sub_zero, Int.toNat_natCast, Nat.le_refl, implies_true, forall_const, Int.reduceEq, Nat.reduceMul, ne_eq, not_true_eq_false, not_false_eq_true, false_implies, true_implies, Nat.left_eq_add, Nat.add_eq_left, nn, ec]
        exact ⟨rn, i1⟩
      | true =>
        rw [bt_x hb] at ec
        have kl := bt_xlt (e := e) hk (by omega)
        have ne : (((k ^^^ 2 ^ e : Nat) : Int) = (k : Int)) = False := eq_false (fun g => bt_xne hb (by omega))
        obtain ⟨okJ, _⟩ := cl_fr (by omega) (by omega) f ok
        simp only [rs_x_58_0, rs_x_58_1, rs_x_58_3, rs_x_58_4, rs_x_58_7, rs_x_58_8, rs_x_58_9, rs_x_58_13, rs_x_58_16, rs_x_58_18, rs_x_58_19, rs_x_58_21, rs_x_58_22, rs_x_58_23, rs_x_58_24, rs_x_58_25, rs_x_58_27, rs_x_58_29, rs_x_58_31, rs_x_58_34, rs_x_58_35, rs_x_58_37, rs_x_58_38, rs_x_58_41, rs_x_58_44, rs_x_58_45, rs_x_58_48, rs_x_58_49, rs_x_58_52, rs_x_58_55, rs_x_58_56, rs_x_58_59, rs_x_58_60, rs_x_58_61, rs_x_58_64, rs_x_58_66, rs_x_58_69, rs_x_58_71, rs_x_58_74, rs_x_58_76, rs_x_58_78, rs_x_58_81, rs_x_58_84, rs_x_58_86, rs_cn_n, rs_cn_i, rs_cn_r, rs_cn_t, rs_up_at, Nat.reduceAdd, Nat.reduceEqDiff, Nat.reduceSub, Int.reduceToNat, Int.reduceNeg, Int.reduceLE, Int.reduceLT, Int.reduceAdd, Int.reduceSub, Int.reduceMul, Int.add_sub_cancel, List.length_cons, List.length_nil, Nat.reduceLeDiff, Nat.reduceLT, Int.cast_ofNat_Int, true_and, and_true, and_self, false_and, and_false, ↓reduceIte, Nat.zero_le, or_true, true_or, false_or, or_false, Nat.sub_zero, Int.toNat_natCast, Nat.le_refl, implies_true, forall_const, Int.reduceEq, Nat.reduceMul, ne_eq, not_true_eq_false, not_false_eq_true, false_implies, true_implies, Nat.left_eq_add, Nat.add_eq_left, g1, f1_5, nn, ec, ne]
        refine ⟨hd0, ck_layOut hd2 gm_73 (by omega) (by omega) kl okJ fun J1 h1 => ?_⟩
        simp only [rs_x_58_0, rs_x_58_1, rs_x_58_3, rs_x_58_4, rs_x_58_7, rs_x_58_8, rs_x_58_9, rs_x_58_13, rs_x_58_16, rs_x_58_18, rs_x_58_19, rs_x_58_21, rs_x_58_22, rs_x_58_23, rs_x_58_24, rs_x_58_25, rs_x_58_27, rs_x_58_29, rs_x_58_31, rs_x_58_34, rs_x_58_35, rs_x_58_37, rs_x_58_38, rs_x_58_41, rs_x_58_44, rs_x_58_45, rs_x_58_48, rs_x_58_49, rs_x_58_52, rs_x_58_55, rs_x_58_56, rs_x_58_59, rs_x_58_60, rs_x_58_61, rs_x_58_64, rs_x_58_66, rs_x_58_69, rs_x_58_71, rs_x_58_74, rs_x_58_76, rs_x_58_78, rs_x_58_81, rs_x_58_84, rs_x_58_86, rs_cn_n, rs_cn_i, rs_cn_r, rs_cn_t, rs_up_at, Nat.reduceAdd, Nat.reduceEqDiff, Nat.reduceSub, Int.reduceToNat, Int.reduceNeg, Int.reduceLE, Int.reduceLT, Int.reduceAdd, Int.reduceSub, Int.reduceMul, Int.add_sub_cancel, List.length_cons, List.length_nil, Nat.reduceLeDiff, Nat.reduceLT, Int.cast_ofNat_Int, true_and, and_true, and_self, false_and, and_false, ↓reduceIte, Nat.zero_le, or_true, true_or, false_or, or_false, Nat.sub_zero, Int.toNat_natCast, Nat.le_refl, implies_true, forall_const, Int.reduceEq, Nat.reduceMul, ne_eq, not_true_eq_false, not_false_eq_true, false_implies, true_implies, Nat.left_eq_add, Nat.add_eq_left, g1, g6, f1_2, f1_5]
        refine ⟨hd0, ck_settle hd5 gm_73 (by omega) okJ h1 fun J2 h2 => ?_⟩
        have h3 := cl_nar_tr (by omega) (by omega) rfl f ok h2
        have t := hT _ J2 kl h3
        simp only [rs_x_58_0, rs_x_58_1, rs_x_58_3, rs_x_58_4, rs_x_58_7, rs_x_58_8, rs_x_58_9, rs_x_58_13, rs_x_58_16, rs_x_58_18, rs_x_58_19, rs_x_58_21, rs_x_58_22, rs_x_58_23, rs_x_58_24, rs_x_58_25, rs_x_58_27, rs_x_58_29, rs_x_58_31, rs_x_58_34, rs_x_58_35, rs_x_58_37, rs_x_58_38, rs_x_58_41, rs_x_58_44, rs_x_58_45, rs_x_58_48, rs_x_58_49, rs_x_58_52, rs_x_58_55, rs_x_58_56, rs_x_58_59, rs_x_58_60, rs_x_58_61, rs_x_58_64, rs_x_58_66, rs_x_58_69, rs_x_58_71, rs_x_58_74, rs_x_58_76, rs_x_58_78, rs_x_58_81, rs_x_58_84, rs_x_58_86, rs_cn_n, rs_cn_i, rs_cn_r, rs_cn_t, rs_up_at, Nat.reduceAdd, Nat.reduceEqDiff, Nat.reduceSub, Int.reduceToNat, Int.reduceNeg, Int.reduceLE, Int.reduceLT, Int.reduceAdd, Int.reduceSub, Int.reduceMul, Int.add_sub_cancel, List.length_cons, List.length_nil, Nat.reduceLeDiff, Nat.reduceLT, Int.cast_ofNat_Int, true_and, and_true, and_self, false_and, and_false, ↓reduceIte, Nat.zero_le, or_true, true_or, false_or, or_false, Nat.sub_zero, Int.toNat_natCast, Nat.le_refl, implies_true, forall_const, Int.reduceEq, Nat.reduceMul, ne_eq, not_true_eq_false, not_false_eq_true, false_implies, true_implies, Nat.left_eq_add, Nat.add_eq_left, g1, g73, f1_2, f1_5]
        refine ⟨hd0, ct_bound gm_73 hc ?_⟩
        by_cases tt : T (k ^^^ 2 ^ e)
        · have t' := t.mpr tt
          have i1 := ih (k ^^^ 2 ^ e) J2 (some (.inl ((k ^^^ 2 ^ e : Nat) : Int))) (by omega) kl h3.1 (by rw [← he, tr_yes hb tt])
          rw [← en] at i1
          simp only [rs_x_58_0, rs_x_58_1, rs_x_58_3, rs_x_58_4, rs_x_58_7, rs_x_58_8, rs_x_58_9, rs_x_58_13, rs_x_58_16, rs_x_58_18, rs_x_58_19, rs_x_58_21, rs_x_58_22, rs_x_58_23, rs_x_58_24, rs_x_58_25, rs_x_58_27, rs_x_58_29, rs_x_58_31, rs_x_58_34, rs_x_58_35, rs_x_58_37, rs_x_58_38, rs_x_58_41, rs_x_58_44, rs_x_58_45, rs_x_58_48, rs_x_58_49, rs_x_58_52, rs_x_58_55, rs_x_58_56, rs_x_58_59, rs_x_58_60, rs_x_58_61, rs_x_58_64, rs_x_58_66, rs_x_58_69, rs_x_58_71, rs_x_58_74, rs_x_58_76, rs_x_58_78, rs_x_58_81, rs_x_58_84, rs_x_58_86, rs_cn_n, rs_cn_i, rs_cn_r, rs_cn_t, rs_up_at, Nat.reduceAdd, Nat.reduceEqDiff, Nat.reduceSub, Int.reduceToNat, Int.reduceNeg, Int.reduceLE, Int.reduceLT, Int.reduceAdd, Int.reduceSub, Int.reduceMul, Int.add_sub_cancel, List.length_cons, List.length_nil, Nat.reduceLeDiff, Nat.reduceLT, Int.cast_ofNat_Int, true_and, and_true, and_self, false_and, and_false, ↓reduceIte, Nat.zero_le, or_true, true_or, false_or, or_false, Nat.sub_zero, Int.toNat_natCast, Nat.le_refl, implies_true, forall_const, Int.reduceEq, Nat.reduceMul, ne_eq, not_true_eq_false, not_false_eq_true, false_implies, true_implies, Nat.left_eq_add, Nat.add_eq_left, t']
          exact ⟨rn, i1⟩
        · have t' : ¬ (if J2 73 3 = 0 then (if up = 0 then J2 74 c.toNat else J2 75 c.toNat) else -1000) = due := fun g => tt (t.mp g)
          have i1 := ih k J2 (some (.inl ((k ^^^ 2 ^ e : Nat) : Int))) (by omega) hk h3.1 (by rw [← he, tr_keep tt])
          rw [← en] at i1
          simp only [rs_x_58_0, rs_x_58_1, rs_x_58_3, rs_x_58_4, rs_x_58_7, rs_x_58_8, rs_x_58_9, rs_x_58_13, rs_x_58_16, rs_x_58_18, rs_x_58_19, rs_x_58_21, rs_x_58_22, rs_x_58_23, rs_x_58_24, rs_x_58_25, rs_x_58_27, rs_x_58_29, rs_x_58_31, rs_x_58_34, rs_x_58_35, rs_x_58_37, rs_x_58_38, rs_x_58_41, rs_x_58_44, rs_x_58_45, rs_x_58_48, rs_x_58_49, rs_x_58_52, rs_x_58_55, rs_x_58_56, rs_x_58_59, rs_x_58_60, rs_x_58_61, rs_x_58_64, rs_x_58_66, rs_x_58_69, rs_x_58_71, rs_x_58_74, rs_x_58_76, rs_x_58_78, rs_x_58_81, rs_x_58_84, rs_x_58_86, rs_cn_n, rs_cn_i, rs_cn_r, rs_cn_t, rs_up_at, Nat.reduceAdd, Nat.reduceEqDiff, Nat.reduceSub, Int.reduceToNat, Int.reduceNeg, Int.reduceLE, Int.reduceLT, Int.reduceAdd, Int.reduceSub, Int.reduceMul, Int.add_sub_cancel, List.length_cons, List.length_nil, Nat.reduceLeDiff, Nat.reduceLT, Int.cast_ofNat_Int, true_and, and_true, and_self, false_and, and_false, ↓reduceIte, Nat.zero_le, or_true, true_or, false_or, or_false, Nat.sub_zero, Int.toNat_natCast, Nat.le_refl, implies_true, forall_const, Int.reduceEq, Nat.reduceMul, ne_eq, not_true_eq_false, not_false_eq_true, false_implies, true_implies, Nat.left_eq_add, Nat.add_eq_left, t']
          exact ⟨rn, i1⟩
  have r1 : rs_R (I 1 7 - 1) := by unfold rs_R; omega
  have f := loop (I 1 7).toNat all I none (by omega) ha (fun _ _ _ _ _ _ => rfl) rfl
  rw [show (((I 1 7).toNat : Nat) : Int) = I 1 7 by omega] at f
  simp only [rs_x_58_0, rs_x_58_1, rs_x_58_3, rs_x_58_4, rs_x_58_7, rs_x_58_8, rs_x_58_9, rs_x_58_13, rs_x_58_16, rs_x_58_18, rs_x_58_19, rs_x_58_21, rs_x_58_22, rs_x_58_23, rs_x_58_24, rs_x_58_25, rs_x_58_27, rs_x_58_29, rs_x_58_31, rs_x_58_34, rs_x_58_35, rs_x_58_37, rs_x_58_38, rs_x_58_41, rs_x_58_44, rs_x_58_45, rs_x_58_48, rs_x_58_49, rs_x_58_52, rs_x_58_55, rs_x_58_56, rs_x_58_59, rs_x_58_60, rs_x_58_61, rs_x_58_64, rs_x_58_66, rs_x_58_69, rs_x_58_71, rs_x_58_74, rs_x_58_76, rs_x_58_78, rs_x_58_81, rs_x_58_84, rs_x_58_86, rs_cn_n, rs_cn_i, rs_cn_r, rs_cn_t, rs_up_at, Nat.reduceAdd, Nat.reduceEqDiff, Nat.reduceSub, Int.reduceToNat, Int.reduceNeg, Int.reduceLE, Int.reduceLT, Int.reduceAdd, Int.reduceSub, Int.reduceMul, Int.add_sub_cancel, List.length_cons, List.length_nil, Nat.reduceLeDiff, Nat.reduceLT, Int.cast_ofNat_Int, true_and, and_true, and_self, false_and, and_false, ↓reduceIte, Nat.zero_le, or_true, true_or, false_or, or_false, Nat.sub_zero, Int.toNat_natCast, Nat.le_refl, implies_true, forall_const, Int.reduceEq, Nat.reduceMul, ne_eq, not_true_eq_false, not_false_eq_true, false_implies, true_implies, Nat.left_eq_add, Nat.add_eq_left, g1, r1]
  exact f
/-- the bits of the entries in force -/
theorem rg_ef_b {I : rs_M} (h : 0 ≤ I 1 7 ∧ I 1 7 ≤ 12) : rg_ef I (I 1 7).toNat < 4096 := by
  have a := rg_ef_lt I (I 1 7).toNat
  have b := bt_pow (k := (I 1 7).toNat) (by omega)
  omega
set_option maxRecDepth 100000 in
set_option maxHeartbeats 2000000 in
theorem ct_narrow {u d n : Nat} {I : rs_M} {K : rs_K} (hd : 6 ≤ d) (ok : cl_ok I n) (h1 : ∀ J, cl_nar 70 n (rg_ef I (I 1 7).toNat) I J → J 70 3 = 0 → K (some (.inl 1)) (rs_up J 1 8 n)) (h0 : ∀ J, cl_nar 70 n (rg_ef I (I 1 7).toNat) I J → J 70 3 = 1 → K (some (.inl 0)) (rs_up J 1 8 0)) : rs_run u d 40 0 (rs_en0 [.inr (.inr 1)] 1) [] I K := by
  show rs_run u d 40 0 [some (.inr (.inr 1))] [] I K
  have g1 : rs_sh 1 = (1, 7) := by decide +kernel
  have g6 : rs_sh 6 = (1, 1) := by decide +kernel
  have g70 : rs_sh 70 = (1, 2) := by decide +kernel
  have f1_2 : rs_rf 1 2 = 6 := by decide +kernel
  have f1_4 : rs_rf 1 4 = 70 := by decide +kernel
  have hd0 : 0 < d := by omega
  have hd2 : 2 ≤ d - 1 := by omega
  have hd5 : 5 ≤ d - 1 := by omega
  have e7 := ok.2.2.1
  simp only [rs_x_40_0, rs_x_40_1, rs_x_40_2, rs_x_40_5, rs_x_40_6, rs_x_40_9, rs_x_40_12, rs_x_40_13, rs_x_40_16, rs_x_40_17, rs_x_40_20, rs_x_40_23, rs_x_40_24, rs_x_40_25, rs_x_40_28, rs_x_40_31, rs_x_40_34, rs_x_40_35, rs_x_40_38, rs_x_40_39, rs_x_40_42, rs_x_40_45, rs_x_40_46, rs_x_40_49, rs_x_40_52, rs_x_40_55, rs_x_40_56, rs_x_40_59, rs_x_40_60, rs_cn_n, rs_cn_i, rs_cn_r, rs_cn_t, rs_up_at, Nat.reduceAdd, Nat.reduceEqDiff, Nat.reduceSub, Int.reduceToNat, Int.reduceNeg, Int.reduceLE, Int.reduceLT, Int.reduceAdd, Int.reduceSub, Int.reduceMul, Int.add_sub_cancel, List.length_cons, List.length_nil, Nat.reduceLeDiff, Nat.reduceLT, Int.cast_ofNat_Int, true_and, and_true, and_self, false_and, and_false, ↓reduceIte, Nat.zero_le, or_true, true_or, false_or, or_false, Nat.sub_zero, Int.toNat_natCast, Nat.le_refl, implies_true, forall_const, Int.reduceEq, Nat.reduceMul, ne_eq, not_true_eq_false, not_false_eq_true, false_implies, true_implies, Nat.left_eq_add, Nat.add_eq_left, g1]
  refine ⟨hd0, ct_entriesInForce e7 ?_⟩
  simp only [rs_x_40_0, rs_x_40_1, rs_x_40_2, rs_x_40_5, rs_x_40_6, rs_x_40_9, rs_x_40_12, rs_x_40_13, rs_x_40_16, rs_x_40_17, rs_x_40_20, rs_x_40_23, rs_x_40_24, rs_x_40_25, rs_x_40_28, rs_x_40_31, rs_x_40_34, rs_x_40_35, rs_x_40_38, rs_x_40_39, rs_x_40_42, rs_x_40_45, rs_x_40_46, rs_x_40_49, rs_x_40_52, rs_x_40_55, rs_x_40_56, rs_x_40_59, rs_x_40_60, rs_cn_n, rs_cn_i, rs_cn_r, rs_cn_t, rs_up_at, Nat.reduceAdd, Nat.reduceEqDiff, Nat.reduceSub, Int.reduceToNat, Int.reduceNeg, Int.reduceLE, Int.reduceLT, Int.reduceAdd, Int.reduceSub, Int.reduceMul, Int.add_sub_cancel, List.length_cons, List.length_nil, Nat.reduceLeDiff, Nat.reduceLT, Int.cast_ofNat_Int, true_and, and_true, and_self, false_and, and_false, ↓reduceIte, Nat.zero_le, or_true, true_or, false_or, or_false, Nat.sub_zero, Int.toNat_natCast, Nat.le_refl, implies_true, forall_const, Int.reduceEq, Nat.reduceMul, ne_eq, not_true_eq_false, not_false_eq_true, false_implies, true_implies, Nat.left_eq_add, Nat.add_eq_left, g1, f1_4]
  refine ⟨hd0, ck_layOut hd2 gm_70 (by omega) (by omega) (rg_ef_b e7) ok fun J1 p1 => ?_⟩
  simp only [rs_x_40_0, rs_x_40_1, rs_x_40_2, rs_x_40_5, rs_x_40_6, rs_x_40_9, rs_x_40_12, rs_x_40_13, rs_x_40_16, rs_x_40_17, rs_x_40_20, rs_x_40_23, rs_x_40_24, rs_x_40_25, rs_x_40_28, rs_x_40_31, rs_x_40_34, rs_x_40_35, rs_x_40_38, rs_x_40_39, rs_x_40_42, rs_x_40_45, rs_x_40_46, rs_x_40_49, rs_x_40_52, rs_x_40_55, rs_x_40_56, rs_x_40_59, rs_x_40_60, rs_cn_n, rs_cn_i, rs_cn_r, rs_cn_t, rs_up_at, Nat.reduceAdd, Nat.reduceEqDiff, Nat.reduceSub, Int.reduceToNat, Int.reduceNeg, Int.reduceLE, Int.reduceLT, Int.reduceAdd, Int.reduceSub, Int.reduceMul, Int.add_sub_cancel, List.length_cons, List.length_nil, Nat.reduceLeDiff, Nat.reduceLT, Int.cast_ofNat_Int, true_and, and_true, and_self, false_and, and_false, ↓reduceIte, Nat.zero_le, or_true, true_or, false_or, or_false, Nat.sub_zero, Int.toNat_natCast, Nat.le_refl, implies_true, forall_const, Int.reduceEq, Nat.reduceMul, ne_eq, not_true_eq_false, not_false_eq_true, false_implies, true_implies, Nat.left_eq_add, Nat.add_eq_left, g1, f1_2, f1_4, g6]
  refine ⟨hd0, ck_settle hd5 gm_70 (by omega) ok p1 fun J2 p2 => ?_⟩
  have j6 : J2 1 6 = (n : Int) := by rw [p2.1 1 6 (by omega) (by omega) (by omega) (by omega)]; exact ok.2.1
  by_cases b : J2 70 3 = 0
  · have f := h1 J2 p2 b
    simp only [rs_x_40_0, rs_x_40_1, rs_x_40_2, rs_x_40_5, rs_x_40_6, rs_x_40_9, rs_x_40_12, rs_x_40_13, rs_x_40_16, rs_x_40_17, rs_x_40_20, rs_x_40_23, rs_x_40_24, rs_x_40_25, rs_x_40_28, rs_x_40_31, rs_x_40_34, rs_x_40_35, rs_x_40_38, rs_x_40_39, rs_x_40_42, rs_x_40_45, rs_x_40_46, rs_x_40_49, rs_x_40_52, rs_x_40_55, rs_x_40_56, rs_x_40_59, rs_x_40_60, rs_cn_n, rs_cn_i, rs_cn_r, rs_cn_t, rs_up_at, Nat.reduceAdd, Nat.reduceEqDiff, Nat.reduceSub, Int.reduceToNat, Int.reduceNeg, Int.reduceLE, Int.reduceLT, Int.reduceAdd, Int.reduceSub, Int.reduceMul, Int.add_sub_cancel, List.length_cons, List.length_nil, Nat.reduceLeDiff, Nat.reduceLT, Int.cast_ofNat_Int, true_and, and_true, and_self, false_and, and_false, ↓reduceIte, Nat.zero_le, or_true, true_or, false_or, or_false, Nat.sub_zero, Int.toNat_natCast, Nat.le_refl, implies_true, forall_const, Int.reduceEq, Nat.reduceMul, ne_eq, not_true_eq_false, not_false_eq_true, false_implies, true_implies, Nat.left_eq_add, Nat.add_eq_left, g1, f1_2, f1_4, g70, b, j6]
    exact f
  · have b1 : J2 70 3 = 1 := by
      rcases p2.2 with g | g
      · exact g.1
      · exact absurd g.1 b
    have f := h0 J2 p2 b1
    simp only [rs_x_40_0, rs_x_40_1, rs_x_40_2, rs_x_40_5, rs_x_40_6, rs_x_40_9, rs_x_40_12, rs_x_40_13, rs_x_40_16, rs_x_40_17, rs_x_40_20, rs_x_40_23, rs_x_40_24, rs_x_40_25, rs_x_40_28, rs_x_40_31, rs_x_40_34, rs_x_40_35, rs_x_40_38, rs_x_40_39, rs_x_40_42, rs_x_40_45, rs_x_40_46, rs_x_40_49, rs_x_40_52, rs_x_40_55, rs_x_40_56, rs_x_40_59, rs_x_40_60, rs_cn_n, rs_cn_i, rs_cn_r, rs_cn_t, rs_up_at, Nat.reduceAdd, Nat.reduceEqDiff, Nat.reduceSub, Int.reduceToNat, Int.reduceNeg, Int.reduceLE, Int.reduceLT, Int.reduceAdd, Int.reduceSub, Int.reduceMul, Int.add_sub_cancel, List.length_cons, List.length_nil, Nat.reduceLeDiff, Nat.reduceLT, Int.cast_ofNat_Int, true_and, and_true, and_self, false_and, and_false, ↓reduceIte, Nat.zero_le, or_true, true_or, false_or, or_false, Nat.sub_zero, Int.toNat_natCast, Nat.le_refl, implies_true, forall_const, Int.reduceEq, Nat.reduceMul, ne_eq, not_true_eq_false, not_false_eq_true, false_implies, true_implies, Nat.left_eq_add, Nat.add_eq_left, g1, f1_2, f1_4, g70, b1, j6]
    exact f
/-- the tests -/
def cf_T (I : rs_M) (n m : Nat) : Prop := bx_brk n (nt_G I) (nt_S I) (nt_Q I) (cl_lo I m) (cl_hi I m)
def bc_T (I : rs_M) (n c : Nat) (up due : Int) (m : Nat) : Prop := ∃ a b, bx_fix n (nt_G I) (nt_S I) (nt_Q I) (cl_lo I m) (cl_hi I m) a b ∧ (if up = 0 then a c else b c) = due
set_option maxRecDepth 100000 in
set_option maxHeartbeats 2000000 in
theorem ct_conflict {u d n : Nat} {I : rs_M} {K : rs_K} (hd : 7 ≤ d) (ok : cl_ok I n) (h1 : ∀ J, nt_fr 73 I J → cf_T I n (rg_ef I (I 1 7).toNat) → K (some (.inl ((tr_f (cf_T I n) (I 1 7).toNat (rg_ef I (I 1 7).toNat) : Nat) : Int))) J) (h0 : ∀ J, nt_fr 73 I J → ¬ cf_T I n (rg_ef I (I 1 7).toNat) → K (some (.inl (-1000))) J) : rs_run u d 43 0 (rs_en0 [.inr (.inr 1)] 2) [] I K := by
  show rs_run u d 43 0 [some (.inr (.inr 1)), none] [] I K
  have g1 : rs_sh 1 = (1, 7) := by decide +kernel
  have g6 : rs_sh 6 = (1, 1) := by decide +kernel
  have g73 : rs_sh 73 = (1, 2) := by decide +kernel
  have f1_2 : rs_rf 1 2 = 6 := by decide +kernel
  have f1_5 : rs_rf 1 5 = 73 := by decide +kernel
  have hd0 : 0 < d := by omega
  have hd2 : 2 ≤ d - 1 := by omega
  have hd5 : 5 ≤ d - 1 := by omega
  have hd6 : 6 ≤ d - 1 := by omega
  have e7 := ok.2.2.1
  simp only [rs_x_43_0, rs_x_43_1, rs_x_43_4, rs_x_43_5, rs_x_43_6, rs_x_43_7, rs_x_43_8, rs_x_43_11, rs_x_43_14, rs_x_43_15, rs_x_43_18, rs_x_43_19, rs_x_43_22, rs_x_43_25, rs_x_43_26, rs_x_43_29, rs_x_43_32, rs_x_43_35, rs_x_43_36, rs_x_43_37, rs_x_43_38, rs_x_43_39, rs_x_43_42, rs_x_43_45, rs_x_43_48, rs_x_43_51, rs_cn_n, rs_cn_i, rs_cn_r, rs_cn_t, rs_up_at, Nat.reduceAdd, Nat.reduceEqDiff, Nat.reduceSub, Int.reduceToNat, Int.reduceNeg, Int.reduceLE, Int.reduceLT, Int.reduceAdd, Int.reduceSub, Int.reduceMul, Int.add_sub_cancel, List.length_cons, List.length_nil, Nat.reduceLeDiff, Nat.reduceLT, Int.cast_ofNat_Int, true_and, and_true, and_self, false_and, and_false, ↓reduceIte, Nat.zero_le, or_true, true_or, false_or, or_false, Nat.sub_zero, Int.toNat_natCast, Nat.le_refl, implies_true, forall_const, Int.reduceEq, Nat.reduceMul, ne_eq, not_true_eq_false, not_false_eq_true, false_implies, true_implies, Nat.left_eq_add, Nat.add_eq_left, g1]
  refine ⟨hd0, ct_entriesInForce e7 ?_⟩
  simp only [rs_x_43_0, rs_x_43_1, rs_x_43_4, rs_x_43_5, rs_x_43_6, rs_x_43_7, rs_x_43_8, rs_x_43_11, rs_x_43_14, rs_x_43_15, rs_x_43_18, rs_x_43_19, rs_x_43_22, rs_x_43_25, rs_x_43_26, rs_x_43_29, rs_x_43_32, rs_x_43_35, rs_x_43_36, rs_x_43_37, rs_x_43_38, rs_x_43_39, rs_x_43_42, rs_x_43_45, rs_x_43_48, rs_x_43_51, rs_cn_n, rs_cn_i, rs_cn_r, rs_cn_t, rs_up_at, Nat.reduceAdd, Nat.reduceEqDiff, Nat.reduceSub, Int.reduceToNat, Int.reduceNeg, Int.reduceLE, Int.reduceLT, Int.reduceAdd, Int.reduceSub, Int.reduceMul, Int.add_sub_cancel, List.length_cons, List.length_nil, Nat.reduceLeDiff, Nat.reduceLT, Int.cast_ofNat_Int, true_and, and_true, and_self, false_and, and_false, ↓reduceIte, Nat.zero_le, or_true, true_or, false_or, or_false, Nat.sub_zero, Int.toNat_natCast, Nat.le_refl, implies_true, forall_const, Int.reduceEq, Nat.reduceMul, ne_eq, not_true_eq_false, not_false_eq_true, false_implies, true_implies, Nat.left_eq_add, Nat.add_eq_left, g1, f1_5]
  refine ⟨hd0, ck_layOut hd2 gm_73 (by omega) (by omega) (rg_ef_b e7) ok fun J1 p1 => ?_⟩
  simp only [rs_x_43_0, rs_x_43_1, rs_x_43_4, rs_x_43_5, rs_x_43_6, rs_x_43_7, rs_x_43_8, rs_x_43_11, rs_x_43_14, rs_x_43_15, rs_x_43_18, rs_x_43_19, rs_x_43_22, rs_x_43_25, rs_x_43_26, rs_x_43_29, rs_x_43_32, rs_x_43_35, rs_x_43_36, rs_x_43_37, rs_x_43_38, rs_x_43_39, rs_x_43_42, rs_x_43_45, rs_x_43_48, rs_x_43_51, rs_cn_n, rs_cn_i, rs_cn_r, rs_cn_t, rs_up_at, Nat.reduceAdd, Nat.reduceEqDiff, Nat.reduceSub, Int.reduceToNat, Int.reduceNeg, Int.reduceLE, Int.reduceLT, Int.reduceAdd, Int.reduceSub, Int.reduceMul, Int.add_sub_cancel, List.length_cons, List.length_nil, Nat.reduceLeDiff, Nat.reduceLT, Int.cast_ofNat_Int, true_and, and_true, and_self, false_and, and_false, ↓reduceIte, Nat.zero_le, or_true, true_or, false_or, or_false, Nat.sub_zero, Int.toNat_natCast, Nat.le_refl, implies_true, forall_const, Int.reduceEq, Nat.reduceMul, ne_eq, not_true_eq_false, not_false_eq_true, false_implies, true_implies, Nat.left_eq_add, Nat.add_eq_left, g1, f1_2, f1_5, g6]
  refine ⟨hd0, ck_settle hd5 gm_73 (by omega) ok p1 fun J2 p2 => ?_⟩
  obtain ⟨okJ, ecl⟩ := cl_fr (by omega) (by omega) p2.1 ok
  by_cases b : J2 73 3 = 0
  · have nb : ¬ cf_T I n (rg_ef I (I 1 7).toNat) := fun g => by
      rcases p2.2 with q | q
      · omega
      · exact bx_fix_brk q.2.1 g
    have f := h0 J2 p2.1 nb
    simp only [rs_x_43_0, rs_x_43_1, rs_x_43_4, rs_x_43_5, rs_x_43_6, rs_x_43_7, rs_x_43_8, rs_x_43_11, rs_x_43_14, rs_x_43_15, rs_x_43_18, rs_x_43_19, rs_x_43_22, rs_x_43_25, rs_x_43_26, rs_x_43_29, rs_x_43_32, rs_x_43_35, rs_x_43_36, rs_x_43_37, rs_x_43_38, rs_x_43_39, rs_x_43_42, rs_x_43_45, rs_x_43_48, rs_x_43_51, rs_cn_n, rs_cn_i, rs_cn_r, rs_cn_t, rs_up_at, Nat.reduceAdd, Nat.reduceEqDiff, Nat.reduceSub, Int.reduceToNat, Int.reduceNeg, Int.reduceLE, Int.reduceLT, Int.reduceAdd, Int.reduceSub, Int.reduceMul, Int.add_sub_cancel, List.length_cons, List.length_nil, Nat.reduceLeDiff, Nat.reduceLT, Int.cast_ofNat_Int, true_and, and_true, and_self, false_and, and_false, ↓reduceIte, Nat.zero_le, or_true, true_or, false_or, or_false, Nat.sub_zero, Int.toNat_natCast, Nat.le_refl, implies_true, forall_const, Int.reduceEq, Nat.reduceMul, ne_eq, not_true_eq_false, not_false_eq_true, false_implies, true_implies, Nat.left_eq_add, Nat.add_eq_left, g1, f1_2, f1_5, g73, b]
    exact f
  · have bt : cf_T I n (rg_ef I (I 1 7).toNat) := by
      rcases p2.2 with q | q
      · exact q.2
      · exact absurd q.1 b
    have b1 : J2 73 3 = 1 := by
      rcases p2.2 with q | q
      · exact q.1
      · exact absurd q.1 b
    have j17 : J2 1 7 = I 1 7 := p2.1 1 7 (by omega) (by omega) (by omega) (by omega)
    simp only [rs_x_43_0, rs_x_43_1, rs_x_43_4, rs_x_43_5, rs_x_43_6, rs_x_43_7, rs_x_43_8, rs_x_43_11, rs_x_43_14, rs_x_43_15, rs_x_43_18, rs_x_43_19, rs_x_43_22, rs_x_43_25, rs_x_43_26, rs_x_43_29, rs_x_43_32, rs_x_43_35, rs_x_43_36, rs_x_43_37, rs_x_43_38, rs_x_43_39, rs_x_43_42, rs_x_43_45, rs_x_43_48, rs_x_43_51, rs_cn_n, rs_cn_i, rs_cn_r, rs_cn_t, rs_up_at, Nat.reduceAdd, Nat.reduceEqDiff, Nat.reduceSub, Int.reduceToNat, Int.reduceNeg, Int.reduceLE, Int.reduceLT, Int.reduceAdd, Int.reduceSub, Int.reduceMul, Int.add_sub_cancel, List.length_cons, List.length_nil, Nat.reduceLeDiff, Nat.reduceLT, Int.cast_ofNat_Int, true_and, and_true, and_self, false_and, and_false, ↓reduceIte, Nat.zero_le, or_true, true_or, false_or, or_false, Nat.sub_zero, Int.toNat_natCast, Nat.le_refl, implies_true, forall_const, Int.reduceEq, Nat.reduceMul, ne_eq, not_true_eq_false, not_false_eq_true, false_implies, true_implies, Nat.left_eq_add, Nat.add_eq_left, g1, f1_2, f1_5, g73, b1]
    refine ⟨hd0, ct_trim (T := cf_T I n) hd6 (by omega) (rg_ef_b e7) okJ (fun m L hm hL => ?_) fun L fL => ?_⟩
    · have hL' := cl_nar_tr (by omega) (by omega) rfl p2.1 ok hL
      rcases hL'.2 with ⟨q1, q2⟩ | ⟨q1, q2, q3⟩
      · rw [if_neg (by omega)]
        exact ⟨fun _ => q2, fun _ => rfl⟩
      · rw [if_pos q1, if_pos rfl]
        have := q3 0 (by omega)
        refine ⟨fun g => ?_, fun g => absurd g (fun g => bx_fix_brk q2 g)⟩
        have g' : L 74 0 = -1000 := g
        have t' : -100 ≤ L 74 0 := this.1
        omega
    · have f := h1 L (nt_fr_tr p2.1 fL) bt
      rw [j17]
      simp only [rs_x_43_0, rs_x_43_1, rs_x_43_4, rs_x_43_5, rs_x_43_6, rs_x_43_7, rs_x_43_8, rs_x_43_11, rs_x_43_14, rs_x_43_15, rs_x_43_18, rs_x_43_19, rs_x_43_22, rs_x_43_25, rs_x_43_26, rs_x_43_29, rs_x_43_32, rs_x_43_35, rs_x_43_36, rs_x_43_37, rs_x_43_38, rs_x_43_39, rs_x_43_42, rs_x_43_45, rs_x_43_48, rs_x_43_51, rs_cn_n, rs_cn_i, rs_cn_r, rs_cn_t, rs_up_at, Nat.reduceAdd, Nat.reduceEqDiff, Nat.reduceSub, Int.reduceToNat, Int.reduceNeg, Int.reduceLE, Int.reduceLT, Int.reduceAdd, Int.reduceSub, Int.reduceMul, Int.add_sub_cancel, List.length_cons, List.length_nil, Nat.reduceLeDiff, Nat.reduceLT, Int.cast_ofNat_Int, true_and, and_true, and_self, false_and, and_false, ↓reduceIte, Nat.zero_le, or_true, true_or, false_or, or_false, Nat.sub_zero, Int.toNat_natCast, Nat.le_refl, implies_true, forall_const, Int.reduceEq, Nat.reduceMul, ne_eq, not_true_eq_false, not_false_eq_true, false_implies, true_implies, Nat.left_eq_add, Nat.add_eq_left]
      exact f
set_option maxRecDepth 100000 in
set_option maxHeartbeats 2000000 in
theorem ct_because {u d n : Nat} {c up : Int} {I : rs_M} {K : rs_K} (hu : 1 ≤ u) (hd : 7 ≤ d) (ok : cl_ok I n) (ht : ¬ (0 ≤ c ∧ c < n) → K (some (.inr (.inl 1))) I) (h1 : 0 ≤ c ∧ c < n → ∀ J a b, nt_fr 73 I J → bx_fix n (nt_G I) (nt_S I) (nt_Q I) (cl_lo I (rg_ef I (I 1 7).toNat)) (cl_hi I (rg_ef I (I 1 7).toNat)) a b → K (some (.inl ((tr_f (bc_T I n c.toNat up (if up = 0 then a c.toNat else b c.toNat)) (I 1 7).toNat (rg_ef I (I 1 7).toNat) : Nat) : Int))) J) (h0 : 0 ≤ c ∧ c < n → ∀ J, nt_fr 73 I J → bx_brk n (nt_G I) (nt_S I) (nt_Q I) (cl_lo I (rg_ef I (I 1 7).toNat)) (cl_hi I (rg_ef I (I 1 7).toNat)) → K (some (.inl (-1000))) J) : rs_run u d 44 0 (rs_en0 [.inr (.inr 1), .inl c, .inl up] 4) [] I K := by
  show rs_run u d 44 0 [some (.inr (.inr 1)), some (.inl c), some (.inl up), none] [] I K
  have g1 : rs_sh 1 = (1, 7) := by decide +kernel
  have g6 : rs_sh 6 = (1, 1) := by decide +kernel
  have g73 : rs_sh 73 = (1, 2) := by decide +kernel
  have f1_2 : rs_rf 1 2 = 6 := by decide +kernel
  have f1_5 : rs_rf 1 5 = 73 := by decide +kernel
  have hd0 : 0 < d := by omega
  have hd2 : 2 ≤ d - 1 := by omega
  have hd5 : 5 ≤ d - 1 := by omega
  have hd6 : 6 ≤ d - 1 := by omega
  have e7 := ok.2.2.1
  have e6 := ok.2.1
  have hn := ok.1.1
  simp only [rs_x_44_0, rs_x_44_1, rs_x_44_2, rs_x_44_5, rs_x_44_8, rs_x_44_18, rs_x_44_19, rs_x_44_22, rs_x_44_23, rs_x_44_24, rs_x_44_25, rs_x_44_26, rs_x_44_29, rs_x_44_32, rs_x_44_33, rs_x_44_36, rs_x_44_37, rs_x_44_40, rs_x_44_43, rs_x_44_44, rs_x_44_47, rs_x_44_50, rs_x_44_53, rs_x_44_56, rs_x_44_59, rs_x_44_60, rs_x_44_61, rs_x_44_62, rs_x_44_63, rs_x_44_64, rs_x_44_67, rs_x_44_68, rs_x_44_69, rs_x_44_72, rs_x_44_75, rs_cn_n, rs_cn_i, rs_cn_r, rs_cn_t, rs_up_at, Nat.reduceAdd, Nat.reduceEqDiff, Nat.reduceSub, Int.reduceToNat, Int.reduceNeg, Int.reduceLE, Int.reduceLT, Int.reduceAdd, Int.reduceSub, Int.reduceMul, Int.add_sub_cancel, List.length_cons, List.length_nil, Nat.reduceLeDiff, Nat.reduceLT, Int.cast_ofNat_Int, true_and, and_true, and_self, false_and, and_false, ↓reduceIte, Nat.zero_le, or_true, true_or, false_or, or_false, Nat.sub_zero, Int.toNat_natCast, Nat.le_refl, implies_true, forall_const, Int.reduceEq, Nat.reduceMul, ne_eq, not_true_eq_false, not_false_eq_true, false_implies, true_implies, Nat.left_eq_add, Nat.add_eq_left, g1]
  refine ⟨hd0, cb_isCell (fun c1 c2 => ?_) (fun c1 => ?_)⟩
  · rw [e6] at c2
    have hc : 0 ≤ c ∧ c < n := ⟨c1, c2⟩
    simp only [rs_x_44_0, rs_x_44_1, rs_x_44_2, rs_x_44_5, rs_x_44_8, rs_x_44_18, rs_x_44_19, rs_x_44_22, rs_x_44_23, rs_x_44_24, rs_x_44_25, rs_x_44_26, rs_x_44_29, rs_x_44_32, rs_x_44_33, rs_x_44_36, rs_x_44_37, rs_x_44_40, rs_x_44_43, rs_x_44_44, rs_x_44_47, rs_x_44_50, rs_x_44_53, rs_x_44_56, rs_x_44_59, rs_x_44_60, rs_x_44_61, rs_x_44_62, rs_x_44_63, rs_x_44_64, rs_x_44_67, rs_x_44_68, rs_x_44_69, rs_x_44_72, rs_x_44_75, rs_cn_n, rs_cn_i, rs_cn_r, rs_cn_t, rs_up_at, Nat.reduceAdd, Nat.reduceEqDiff, Nat.reduceSub, Int.reduceToNat, Int.reduceNeg, Int.reduceLE, Int.reduceLT, Int.reduceAdd, Int.reduceSub, Int.reduceMul, Int.add_sub_cancel, List.length_cons, List.length_nil, Nat.reduceLeDiff, Nat.reduceLT, Int.cast_ofNat_Int, true_and, and_true, and_self, false_and, and_false, ↓reduceIte, Nat.zero_le, or_true, true_or, false_or, or_false, Nat.sub_zero, Int.toNat_natCast, Nat.le_refl, implies_true, forall_const, Int.reduceEq, Nat.reduceMul, ne_eq, not_true_eq_false, not_false_eq_true, false_implies, true_implies, Nat.left_eq_add, Nat.add_eq_left, g1]
    refine ⟨hd0, ct_entriesInForce e7 ?_⟩
    simp only [rs_x_44_0, rs_x_44_1, rs_x_44_2, rs_x_44_5, rs_x_44_8, rs_x_44_18, rs_x_44_19, rs_x_44_22, rs_x_44_23, rs_x_44_24, rs_x_44_25, rs_x_44_26, rs_x_44_29, rs_x_44_32, rs_x_44_33, rs_x_44_36, rs_x_44_37, rs_x_44_40, rs_x_44_43, rs_x_44_44, rs_x_44_47, rs_x_44_50, rs_x_44_53, rs_x_44_56, rs_x_44_59, rs_x_44_60, rs_x_44_61, rs_x_44_62, rs_x_44_63, rs_x_44_64, rs_x_44_67, rs_x_44_68, rs_x_44_69, rs_x_44_72, rs_x_44_75, rs_cn_n, rs_cn_i, rs_cn_r, rs_cn_t, rs_up_at, Nat.reduceAdd, Nat.reduceEqDiff, Nat.reduceSub, Int.reduceToNat, Int.reduceNeg, Int.reduceLE, Int.reduceLT, Int.reduceAdd, Int.reduceSub, Int.reduceMul, Int.add_sub_cancel, List.length_cons, List.length_nil, Nat.reduceLeDiff, Nat.reduceLT, Int.cast_ofNat_Int, true_and, and_true, and_self, false_and, and_false, ↓reduceIte, Nat.zero_le, or_true, true_or, false_or, or_false, Nat.sub_zero, Int.toNat_natCast, Nat.le_refl, implies_true, forall_const, Int.reduceEq, Nat.reduceMul, ne_eq, not_true_eq_false, not_false_eq_true, false_implies, true_implies, Nat.left_eq_add, Nat.add_eq_left, g1, f1_5]
    refine ⟨hd0, ck_layOut hd2 gm_73 (by omega) (by omega) (rg_ef_b e7) ok fun J1 p1 => ?_⟩
    simp only [rs_x_44_0, rs_x_44_1, rs_x_44_2, rs_x_44_5, rs_x_44_8, rs_x_44_18, rs_x_44_19, rs_x_44_22, rs_x_44_23, rs_x_44_24, rs_x_44_25, rs_x_44_26, rs_x_44_29, rs_x_44_32, rs_x_44_33, rs_x_44_36, rs_x_44_37, rs_x_44_40, rs_x_44_43, rs_x_44_44, rs_x_44_47, rs_x_44_50, rs_x_44_53, rs_x_44_56, rs_x_44_59, rs_x_44_60, rs_x_44_61, rs_x_44_62, rs_x_44_63, rs_x_44_64, rs_x_44_67, rs_x_44_68, rs_x_44_69, rs_x_44_72, rs_x_44_75, rs_cn_n, rs_cn_i, rs_cn_r, rs_cn_t, rs_up_at, Nat.reduceAdd, Nat.reduceEqDiff, Nat.reduceSub, Int.reduceToNat, Int.reduceNeg, Int.reduceLE, Int.reduceLT, Int.reduceAdd, Int.reduceSub, Int.reduceMul, Int.add_sub_cancel, List.length_cons, List.length_nil, Nat.reduceLeDiff, Nat.reduceLT, Int.cast_ofNat_Int, true_and, and_true, and_self, false_and, and_false, ↓reduceIte, Nat.zero_le, or_true, true_or, false_or, or_false, Nat.sub_zero, Int.toNat_natCast, Nat.le_refl, implies_true, forall_const, Int.reduceEq, Nat.reduceMul, ne_eq, not_true_eq_false, not_false_eq_true, false_implies, true_implies, Nat.left_eq_add, Nat.add_eq_left, g1, f1_2, f1_5, g6]
    refine ⟨hd0, ck_settle hd5 gm_73 (by omega) ok p1 fun J2 p2 => ?_⟩
    obtain ⟨okJ, ecl⟩ := cl_fr (by omega) (by omega) p2.1 ok
    by_cases b : J2 73 3 = 0
    · obtain ⟨_, fx, bok⟩ := p2.2.resolve_left (fun g => by omega)
      have j17 : J2 1 7 = I 1 7 := p2.1 1 7 (by omega) (by omega) (by omega) (by omega)
      simp only [rs_x_44_0, rs_x_44_1, rs_x_44_2, rs_x_44_5, rs_x_44_8, rs_x_44_18, rs_x_44_19, rs_x_44_22, rs_x_44_23, rs_x_44_24, rs_x_44_25, rs_x_44_26, rs_x_44_29, rs_x_44_32, rs_x_44_33, rs_x_44_36, rs_x_44_37, rs_x_44_40, rs_x_44_43, rs_x_44_44, rs_x_44_47, rs_x_44_50, rs_x_44_53, rs_x_44_56, rs_x_44_59, rs_x_44_60, rs_x_44_61, rs_x_44_62, rs_x_44_63, rs_x_44_64, rs_x_44_67, rs_x_44_68, rs_x_44_69, rs_x_44_72, rs_x_44_75, rs_cn_n, rs_cn_i, rs_cn_r, rs_cn_t, rs_up_at, Nat.reduceAdd, Nat.reduceEqDiff, Nat.reduceSub, Int.reduceToNat, Int.reduceNeg, Int.reduceLE, Int.reduceLT, Int.reduceAdd, Int.reduceSub, Int.reduceMul, Int.add_sub_cancel, List.length_cons, List.length_nil, Nat.reduceLeDiff, Nat.reduceLT, Int.cast_ofNat_Int, true_and, and_true, and_self, false_and, and_false, ↓reduceIte, Nat.zero_le, or_true, true_or, false_or, or_false, Nat.sub_zero, Int.toNat_natCast, Nat.le_refl, implies_true, forall_const, Int.reduceEq, Nat.reduceMul, ne_eq, not_true_eq_false, not_false_eq_true, false_implies, true_implies, Nat.left_eq_add, Nat.add_eq_left, g1, f1_2, f1_5, g73, b]
      refine ⟨hd0, ct_bound gm_73 (by omega) ?_⟩
      rw [if_pos b]
      generalize edu : (if up = 0 then J2 (73 + 1) c.toNat else J2 (73 + 2) c.toNat) = due
      have bdu : -100 ≤ due ∧ due ≤ 100 := by
        have := bok c.toNat (by omega)
        rw [← edu]
        split <;> omega
      simp only [rs_x_44_0, rs_x_44_1, rs_x_44_2, rs_x_44_5, rs_x_44_8, rs_x_44_18, rs_x_44_19, rs_x_44_22, rs_x_44_23, rs_x_44_24, rs_x_44_25, rs_x_44_26, rs_x_44_29, rs_x_44_32, rs_x_44_33, rs_x_44_36, rs_x_44_37, rs_x_44_40, rs_x_44_43, rs_x_44_44, rs_x_44_47, rs_x_44_50, rs_x_44_53, rs_x_44_56, rs_x_44_59, rs_x_44_60, rs_x_44_61, rs_x_44_62, rs_x_44_63, rs_x_44_64, rs_x_44_67, rs_x_44_68, rs_x_44_69, rs_x_44_72, rs_x_44_75, rs_cn_n, rs_cn_i, rs_cn_r, rs_cn_t, rs_up_at, Nat.reduceAdd, Nat.reduceEqDiff, Nat.reduceSub, Int.reduceToNat, Int.reduceNeg, Int.reduceLE, Int.reduceLT, Int.reduceAdd, Int.reduceSub, Int.reduceMul, Int.add_sub_cancel, List.length_cons, List.length_nil, Nat.reduceLeDiff, Nat.reduceLT, Int.cast_ofNat_Int, true_and, and_true, and_self, false_and, and_false, ↓reduceIte, Nat.zero_le, or_true, true_or, false_or, or_false, Nat.sub_zero, Int.toNat_natCast, Nat.le_refl, implies_true, forall_const, Int.reduceEq, Nat.reduceMul, ne_eq, not_true_eq_false, not_false_eq_true, false_implies, true_implies, Nat.left_eq_add, Nat.add_eq_left, g1, f1_2, f1_5, g73]
      refine ⟨hd0, ct_trim (T := bc_T I n c.toNat up due) hd6 (by omega) (rg_ef_b e7) okJ (fun m L hm hL => ?_) fun L fL => ?_⟩
      · have hL' := cl_nar_tr (by omega) (by omega) rfl p2.1 ok hL
        rcases hL'.2 with ⟨q1, q2⟩ | ⟨q1, q2, q3⟩
        · rw [if_neg (by omega)]
          exact ⟨fun g => by omega, fun ⟨a, b, g, _⟩ => absurd q2 (fun q => bx_fix_brk g q)⟩
        · rw [if_pos q1]
          refine ⟨fun g => ⟨L 74, L 75, q2, g⟩, fun ⟨a, b, g, e⟩ => ?_⟩
          have un := bx_fix_uni g q2 c.toNat (by omega)
          show (if up = 0 then L (73 + 1) c.toNat else L (73 + 2) c.toNat) = due
          rw [← un.1, ← un.2]
          exact e
      · have f := h1 hc L (J2 (73 + 1)) (J2 (73 + 2)) (nt_fr_tr p2.1 fL) fx
        rw [edu] at f
        rw [j17]
        simp only [rs_x_44_0, rs_x_44_1, rs_x_44_2, rs_x_44_5, rs_x_44_8, rs_x_44_18, rs_x_44_19, rs_x_44_22, rs_x_44_23, rs_x_44_24, rs_x_44_25, rs_x_44_26, rs_x_44_29, rs_x_44_32, rs_x_44_33, rs_x_44_36, rs_x_44_37, rs_x_44_40, rs_x_44_43, rs_x_44_44, rs_x_44_47, rs_x_44_50, rs_x_44_53, rs_x_44_56, rs_x_44_59, rs_x_44_60, rs_x_44_61, rs_x_44_62, rs_x_44_63, rs_x_44_64, rs_x_44_67, rs_x_44_68, rs_x_44_69, rs_x_44_72, rs_x_44_75, rs_cn_n, rs_cn_i, rs_cn_r, rs_cn_t, rs_up_at, Nat.reduceAdd, Nat.reduceEqDiff, Nat.reduceSub, Int.reduceToNat, Int.reduceNeg, Int.reduceLE, Int.reduceLT, Int.reduceAdd, Int.reduceSub, Int.reduceMul, Int.add_sub_cancel, List.length_cons, List.length_nil, Nat.reduceLeDiff, Nat.reduceLT, Int.cast_ofNat_Int, true_and, and_true, and_self, false_and, and_false, ↓reduceIte, Nat.zero_le, or_true, true_or, false_or, or_false, Nat.sub_zero, Int.toNat_natCast, Nat.le_refl, implies_true, forall_const, Int.reduceEq, Nat.reduceMul, ne_eq, not_true_eq_false, not_false_eq_true, false_implies, true_implies, Nat.left_eq_add, Nat.add_eq_left]
        exact f
    · obtain ⟨b1, bk⟩ := p2.2.resolve_right (fun g => b g.1)
      have f := h0 hc J2 p2.1 bk
      simp only [rs_x_44_0, rs_x_44_1, rs_x_44_2, rs_x_44_5, rs_x_44_8, rs_x_44_18, rs_x_44_19, rs_x_44_22, rs_x_44_23, rs_x_44_24, rs_x_44_25, rs_x_44_26, rs_x_44_29, rs_x_44_32, rs_x_44_33, rs_x_44_36, rs_x_44_37, rs_x_44_40, rs_x_44_43, rs_x_44_44, rs_x_44_47, rs_x_44_50, rs_x_44_53, rs_x_44_56, rs_x_44_59, rs_x_44_60, rs_x_44_61, rs_x_44_62, rs_x_44_63, rs_x_44_64, rs_x_44_67, rs_x_44_68, rs_x_44_69, rs_x_44_72, rs_x_44_75, rs_cn_n, rs_cn_i, rs_cn_r, rs_cn_t, rs_up_at, Nat.reduceAdd, Nat.reduceEqDiff, Nat.reduceSub, Int.reduceToNat, Int.reduceNeg, Int.reduceLE, Int.reduceLT, Int.reduceAdd, Int.reduceSub, Int.reduceMul, Int.add_sub_cancel, List.length_cons, List.length_nil, Nat.reduceLeDiff, Nat.reduceLT, Int.cast_ofNat_Int, true_and, and_true, and_self, false_and, and_false, ↓reduceIte, Nat.zero_le, or_true, true_or, false_or, or_false, Nat.sub_zero, Int.toNat_natCast, Nat.le_refl, implies_true, forall_const, Int.reduceEq, Nat.reduceMul, ne_eq, not_true_eq_false, not_false_eq_true, false_implies, true_implies, Nat.left_eq_add, Nat.add_eq_left, g1, f1_2, f1_5, g73, b1]
      exact f
  · rw [e6] at c1
    have f := ht c1
    simp only [rs_x_44_0, rs_x_44_1, rs_x_44_2, rs_x_44_5, rs_x_44_8, rs_x_44_18, rs_x_44_19, rs_x_44_22, rs_x_44_23, rs_x_44_24, rs_x_44_25, rs_x_44_26, rs_x_44_29, rs_x_44_32, rs_x_44_33, rs_x_44_36, rs_x_44_37, rs_x_44_40, rs_x_44_43, rs_x_44_44, rs_x_44_47, rs_x_44_50, rs_x_44_53, rs_x_44_56, rs_x_44_59, rs_x_44_60, rs_x_44_61, rs_x_44_62, rs_x_44_63, rs_x_44_64, rs_x_44_67, rs_x_44_68, rs_x_44_69, rs_x_44_72, rs_x_44_75, rs_cn_n, rs_cn_i, rs_cn_r, rs_cn_t, rs_up_at, Nat.reduceAdd, Nat.reduceEqDiff, Nat.reduceSub, Int.reduceToNat, Int.reduceNeg, Int.reduceLE, Int.reduceLT, Int.reduceAdd, Int.reduceSub, Int.reduceMul, Int.add_sub_cancel, List.length_cons, List.length_nil, Nat.reduceLeDiff, Nat.reduceLT, Int.cast_ofNat_Int, true_and, and_true, and_self, false_and, and_false, ↓reduceIte, Nat.zero_le, or_true, true_or, false_or, or_false, Nat.sub_zero, Int.toNat_natCast, Nat.le_refl, implies_true, forall_const, Int.reduceEq, Nat.reduceMul, ne_eq, not_true_eq_false, not_false_eq_true, false_implies, true_implies, Nat.left_eq_add, Nat.add_eq_left, g1]
    repeat' (first
    | refine And.intro ?_ ?_
    | (guard_target =~ (_ → _); intro)
    | omega
    | (unfold rs_R; omega)
    | exact f
    | decide)
