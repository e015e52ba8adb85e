/-! ===== the reference narrows with entries ===== -/
def mo_lo (I : rs_M) (m : Nat) : Nat → Int := ly_lo (I 89) (I 99) (I 100) m (I 88 13).toNat
def mo_hi (I : rs_M) (m : Nat) : Nat → Int := ly_hi (I 90) (I 99) (I 101) m (I 88 13).toNat
def mo_ok (I : rs_M) (n : Nat) : Prop := mt_net I n ∧ I 88 1 = (n : Int) ∧ (0 ≤ I 88 13 ∧ I 88 13 ≤ 12) ∧ (∀ e, e < (I 88 13).toNat → (0 ≤ I 99 e ∧ I 99 e < n) ∧ -100 ≤ I 100 e ∧ I 100 e ≤ I 101 e ∧ I 101 e ≤ 100) ∧ ∀ j, j < n → -100 ≤ I 89 j ∧ I 89 j ≤ I 90 j ∧ I 90 j ≤ 100
theorem mo_fr {d n : Nat} {I J : rs_M} (h : rm_fr d I J) (ok : mo_ok I n) : mo_ok J n ∧ (∀ m, mo_lo J m = mo_lo I m ∧ mo_hi J m = mo_hi I m) := by
  obtain ⟨net, e1, e13, en, fi⟩ := ok
  have g : ∀ a, a ≠ 102 → a ≠ 103 → a ≠ 104 → a ≠ 88 → J a = I a := fun a h1 h2 h3 h4 => funext fun j => h.1 a j h1 h2 h3 (fun q => absurd q h4)
  have j1 : J 88 1 = I 88 1 := h.1 _ _ (by omega) (by omega) (by omega) (by omega)
  have j13 : J 88 13 = I 88 13 := h.1 _ _ (by omega) (by omega) (by omega) (by omega)
  have q89 := g 89 (by omega) (by omega) (by omega) (by omega)
  have q90 := g 90 (by omega) (by omega) (by omega) (by omega)
  have q99 := g 99 (by omega) (by omega) (by omega) (by omega)
  have q100 := g 100 (by omega) (by omega) (by omega) (by omega)
  have q101 := g 101 (by omega) (by omega) (by omega) (by omega)
  refine ⟨⟨(mt_eq h).2.2.2 n net, by rw [j1]; exact e1, by rw [j13]; exact e13, fun e he => ?_, fun j hj => by rw [q89, q90]; exact fi j hj⟩, fun m => ?_⟩
  · rw [j13] at he
    rw [q99, q100, q101]
    exact en e he
  · unfold mo_lo mo_hi
    rw [q89, q90, q99, q100, q101, j13]
    exact ⟨rfl, rfl⟩
set_option maxRecDepth 100000 in
set_option maxHeartbeats 2000000 in
theorem cm_narrowWith {u e n m : Nat} {I : rs_M} {K : rs_K} (he : 6 ≤ e) (hm : m < 4096) (ok : mo_ok I n) (h1 : ∀ J, rm_fr 0 I J → bx_fix n (mt_G I) (mt_S I) (mt_Q I) (mo_lo I m) (mo_hi I m) (ml J 0) (mh J 0) → bx_ok n (ml J 0) (mh J 0) → K (some (.inl 1)) J) (h0 : ∀ J, rm_fr 0 I J → bx_brk n (mt_G I) (mt_S I) (mt_Q I) (mo_lo I m) (mo_hi I m) → K (some (.inl 0)) J) : rs_run u e 95 0 (rs_en0 [.inr (.inr 88), .inl (m : Int)] 5) [] I K := by
  show rs_run u e 95 0 [some (.inr (.inr 88)), some (.inl (m : Int)), none, none, none] [] I K
  have g88 : rs_sh 88 = (1, 8) := by decide +kernel
  have g89 : rs_sh 89 = (2, 10) := by decide +kernel
  have g90 : rs_sh 90 = (2, 10) := by decide +kernel
  have g99 : rs_sh 99 = (2, 12) := by decide +kernel
  have g100 : rs_sh 100 = (2, 12) := by decide +kernel
  have g101 : rs_sh 101 = (2, 12) := by decide +kernel
  have g102 : rs_sh 102 = (2, 120) := by decide +kernel
  have g103 : rs_sh 103 = (2, 120) := by decide +kernel
  have f88_2 : rs_rf 88 2 = 89 := by decide +kernel
  have f88_3 : rs_rf 88 3 = 90 := by decide +kernel
  have f88_14 : rs_rf 88 14 = 99 := by decide +kernel
  have f88_15 : rs_rf 88 15 = 100 := by decide +kernel
  have f88_16 : rs_rf 88 16 = 101 := by decide +kernel
  have f88_18 : rs_rf 88 18 = 102 := by decide +kernel
  have f88_19 : rs_rf 88 19 = 103 := by decide +kernel
  obtain ⟨net, e1, e13, en, fi⟩ := ok
  have hn := net.1
  have he0 : 0 < e := by omega
  have he1 : 1 ≤ e - 1 := by omega
  have he5 : 5 ≤ e - 1 := by omega
  -- the entries
  have loop2 : ∀ (k x : Nat) (J : rs_M) (fine : Int) (l4 : Option rs_V), x + k = (I 88 13).toNat → rm_fr 0 I J → (∀ j, j < n → ml J 0 j = ly_lo (I 89) (I 99) (I 100) m x j ∧ mh J 0 j = ly_hi (I 90) (I 99) (I 101) m x j) → ((fine = 1 ∧ ∀ j, j < n → ml J 0 j ≤ mh J 0 j) ∨ (fine = 0 ∧ ∃ j, j < n ∧ mh J 0 j < ml J 0 j)) → rs_run u e 95 44 [some (.inr (.inr 88)), some (.inl (m : Int)), some (.inl fine), some (.inl (x : Int)), l4] [] J K := by
    intro k
    induction k with
    | zero =>
      intro x J fine l4 ex fr bx fin
      have ex' : x = (I 88 13).toNat := by omega
      subst ex'
      have j13 : J 88 13 = I 88 13 := fr.1 _ _ (by omega) (by omega) (by omega) (by omega)
      have le : I 88 13 ≤ ((I 88 13).toNat : Int) := by omega
      obtain ⟨eG, eS, eQ, enet⟩ := mt_eq fr
      rw [rs_x_95_44]
      rcases fin with ⟨f1, val⟩ | ⟨f0, j, hj, lt⟩
      · subst f1
        have bok : bx_ok n (ml J 0) (mh J 0) := fun j hj => by
          obtain ⟨b1, b2⟩ := bx j hj
          have b3 := ly_bd (F := I 89) (G := I 90) (ec := I 99) (el := I 100) (eh := I 101) (m := m) (j := j) (by have := fi j hj; omega) (I 88 13).toNat (fun e he => by have := en e he; omega)
          have := val j hj
          omega
        have Sn : ∀ r, mt_G I r → ∀ j, mt_S I r j → j < n := fun r hr => by
          obtain ⟨mm, _, _, _, _, a5, _⟩ := nt_mask net.1 (net.2.2.1 r hr.1)
          exact a5
        simp only [rs_x_95_0, rs_x_95_1, rs_x_95_2, rs_x_95_3, rs_x_95_4, rs_x_95_5, rs_x_95_6, rs_x_95_9, rs_x_95_12, rs_x_95_13, rs_x_95_16, rs_x_95_17, rs_x_95_18, rs_x_95_21, rs_x_95_22, rs_x_95_23, rs_x_95_24, rs_x_95_25, rs_x_95_28, rs_x_95_29, rs_x_95_30, rs_x_95_33, rs_x_95_34, rs_x_95_35, rs_x_95_36, rs_x_95_39, rs_x_95_42, rs_x_95_43, rs_x_95_45, rs_x_95_46, rs_x_95_49, rs_x_95_52, rs_x_95_53, rs_x_95_54, rs_x_95_57, rs_x_95_60, rs_x_95_61, rs_x_95_62, rs_x_95_63, rs_x_95_66, rs_x_95_67, rs_x_95_68, rs_x_95_69, rs_x_95_72, rs_x_95_73, rs_x_95_74, rs_x_95_75, rs_x_95_78, rs_x_95_79, rs_x_95_80, rs_x_95_83, rs_x_95_85, rs_x_95_86, rs_x_95_89, rs_x_95_91, rs_x_95_94, rs_x_95_95, rs_x_95_98, rs_x_95_99, rs_x_95_100, rs_x_95_103, rs_x_95_106, rs_x_95_107, rs_x_95_110, rs_x_95_111, rs_x_95_112, rs_x_95_115, rs_x_95_118, rs_x_95_119, rs_x_95_122, rs_x_95_123, rs_cn_n, rs_cn_i, rs_cn_r, rs_cn_t, rs_up_at, Nat.reduceAdd, Nat.reduceEqDiff, Nat.reduceSub, Int.reduceToNat, Int.reduceNeg, Int.reduceLE, Int.reduceLT, Int.reduceAdd, Int.reduceSub, Int.reduceMul, Int.add_sub_cancel, List.length_cons, List.length_nil, Nat.reduceLeDiff, Nat.reduceLT, Int.cast_ofNat_Int, true_and, and_true, and_self, false_and, and_false, ↓reduceIte, Nat.zero_le, or_true, true_or, false_or, or_false, Nat.sub_zero, Int.toNat_natCast, Nat.le_refl, implies_true, forall_const, Int.reduceEq, Nat.reduceMul, ne_eq, not_true_eq_false, not_false_eq_true, false_implies, true_implies, Nat.left_eq_add, Nat.add_eq_left, g88, j13, le]
        refine ⟨he0, cm_settle (d := 0) he5 (by omega) (enet n net) bok (fun L fL fx lok => ?_) (fun L fL br => ?_)⟩
        · rw [eG, eS, eQ] at fx
          have f := h1 L (rm_fr_tr fr fL) (bx_fix_eq Sn (fun j hj => ⟨(bx j hj).1.symm, (bx j hj).2.symm⟩) (fun _ _ => ⟨rfl, rfl⟩) fx) lok
          simp only [rs_x_95_0, rs_x_95_1, rs_x_95_2, rs_x_95_3, rs_x_95_4, rs_x_95_5, rs_x_95_6, rs_x_95_9, rs_x_95_12, rs_x_95_13, rs_x_95_16, rs_x_95_17, rs_x_95_18, rs_x_95_21, rs_x_95_22, rs_x_95_23, rs_x_95_24, rs_x_95_25, rs_x_95_28, rs_x_95_29, rs_x_95_30, rs_x_95_33, rs_x_95_34, rs_x_95_35, rs_x_95_36, rs_x_95_39, rs_x_95_42, rs_x_95_43, rs_x_95_45, rs_x_95_46, rs_x_95_49, rs_x_95_52, rs_x_95_53, rs_x_95_54, rs_x_95_57, rs_x_95_60, rs_x_95_61, rs_x_95_62, rs_x_95_63, rs_x_95_66, rs_x_95_67, rs_x_95_68, rs_x_95_69, rs_x_95_72, rs_x_95_73, rs_x_95_74, rs_x_95_75, rs_x_95_78, rs_x_95_79, rs_x_95_80, rs_x_95_83, rs_x_95_85, rs_x_95_86, rs_x_95_89, rs_x_95_91, rs_x_95_94, rs_x_95_95, rs_x_95_98, rs_x_95_99, rs_x_95_100, rs_x_95_103, rs_x_95_106, rs_x_95_107, rs_x_95_110, rs_x_95_111, rs_x_95_112, rs_x_95_115, rs_x_95_118, rs_x_95_119, rs_x_95_122, rs_x_95_123, rs_cn_n, rs_cn_i, rs_cn_r, rs_cn_t, rs_up_at, Nat.reduceAdd, Nat.reduceEqDiff, Nat.reduceSub, Int.reduceToNat, Int.reduceNeg, Int.reduceLE, Int.reduceLT, Int.reduceAdd, Int.reduceSub, Int.reduceMul, Int.add_sub_cancel, List.length_cons, List.length_nil, Nat.reduceLeDiff, Nat.reduceLT, Int.cast_ofNat_Int, true_and, and_true, and_self, false_and, and_false, ↓reduceIte, Nat.zero_le, or_true, true_or, false_or, or_false, Nat.sub_zero, Int.toNat_natCast, Nat.le_refl, implies_true, forall_const, Int.reduceEq, Nat.reduceMul, ne_eq, not_true_eq_false, not_false_eq_true, false_implies, true_implies, Nat.left_eq_add, Nat.add_eq_left, g88]
          exact f
        · rw [eG, eS, eQ] at br
          have f := h0 L (rm_fr_tr fr fL) (bx_brk_eq (fun j hj => ⟨(bx j hj).1.symm, (bx j hj).2.symm⟩) br)
          simp only [rs_x_95_0, rs_x_95_1, rs_x_95_2, rs_x_95_3, rs_x_95_4, rs_x_95_5, rs_x_95_6, rs_x_95_9, rs_x_95_12, rs_x_95_13, rs_x_95_16, rs_x_95_17, rs_x_95_18, rs_x_95_21, rs_x_95_22, rs_x_95_23, rs_x_95_24, rs_x_95_25, rs_x_95_28, rs_x_95_29, rs_x_95_30, rs_x_95_33, rs_x_95_34, rs_x_95_35, rs_x_95_36, rs_x_95_39, rs_x_95_42, rs_x_95_43, rs_x_95_45, rs_x_95_46, rs_x_95_49, rs_x_95_52, rs_x_95_53, rs_x_95_54, rs_x_95_57, rs_x_95_60, rs_x_95_61, rs_x_95_62, rs_x_95_63, rs_x_95_66, rs_x_95_67, rs_x_95_68, rs_x_95_69, rs_x_95_72, rs_x_95_73, rs_x_95_74, rs_x_95_75, rs_x_95_78, rs_x_95_79, rs_x_95_80, rs_x_95_83, rs_x_95_85, rs_x_95_86, rs_x_95_89, rs_x_95_91, rs_x_95_94, rs_x_95_95, rs_x_95_98, rs_x_95_99, rs_x_95_100, rs_x_95_103, rs_x_95_106, rs_x_95_107, rs_x_95_110, rs_x_95_111, rs_x_95_112, rs_x_95_115, rs_x_95_118, rs_x_95_119, rs_x_95_122, rs_x_95_123, rs_cn_n, rs_cn_i, rs_cn_r, rs_cn_t, rs_up_at, Nat.reduceAdd, Nat.reduceEqDiff, Nat.reduceSub, Int.reduceToNat, Int.reduceNeg, Int.reduceLE, Int.reduceLT, Int.reduceAdd, Int.reduceSub, Int.reduceMul, Int.add_sub_cancel, List.length_cons, List.length_nil, Nat.reduceLeDiff, Nat.reduceLT, Int.cast_ofNat_Int, true_and, and_true, and_self, false_and, and_false, ↓reduceIte, Nat.zero_le, or_true, true_or, false_or, or_false, Nat.sub_zero, Int.toNat_natCast, Nat.le_refl, implies_true, forall_const, Int.reduceEq, Nat.reduceMul, ne_eq, not_true_eq_false, not_false_eq_true, false_implies, true_implies, Nat.left_eq_add, Nat.add_eq_left, g88]
          exact f
      · subst f0
        have f := h0 J fr (bx_brk_eq (fun j hj => ⟨(bx j hj).1.symm, (bx j hj).2.symm⟩) (brk_empty hj lt))
        simp only [rs_x_95_0, rs_x_95_1, rs_x_95_2, rs_x_95_3, rs_x_95_4, rs_x_95_5, rs_x_95_6, rs_x_95_9, rs_x_95_12, rs_x_95_13, rs_x_95_16, rs_x_95_17, rs_x_95_18, rs_x_95_21, rs_x_95_22, rs_x_95_23, rs_x_95_24, rs_x_95_25, rs_x_95_28, rs_x_95_29, rs_x_95_30, rs_x_95_33, rs_x_95_34, rs_x_95_35, rs_x_95_36, rs_x_95_39, rs_x_95_42, rs_x_95_43, rs_x_95_45, rs_x_95_46, rs_x_95_49, rs_x_95_52, rs_x_95_53, rs_x_95_54, rs_x_95_57, rs_x_95_60, rs_x_95_61, rs_x_95_62, rs_x_95_63, rs_x_95_66, rs_x_95_67, rs_x_95_68, rs_x_95_69, rs_x_95_72, rs_x_95_73, rs_x_95_74, rs_x_95_75, rs_x_95_78, rs_x_95_79, rs_x_95_80, rs_x_95_83, rs_x_95_85, rs_x_95_86, rs_x_95_89, rs_x_95_91, rs_x_95_94, rs_x_95_95, rs_x_95_98, rs_x_95_99, rs_x_95_100, rs_x_95_103, rs_x_95_106, rs_x_95_107, rs_x_95_110, rs_x_95_111, rs_x_95_112, rs_x_95_115, rs_x_95_118, rs_x_95_119, rs_x_95_122, rs_x_95_123, rs_cn_n, rs_cn_i, rs_cn_r, rs_cn_t, rs_up_at, Nat.reduceAdd, Nat.reduceEqDiff, Nat.reduceSub, Int.reduceToNat, Int.reduceNeg, Int.reduceLE, Int.reduceLT, Int.reduceAdd, Int.reduceSub, Int.reduceMul, Int.add_sub_cancel, List.length_cons, List.length_nil, Nat.reduceLeDiff, Nat.reduceLT, Int.cast_ofNat_Int, true_and, and_true, and_self, false_and, and_false, ↓reduceIte, Nat.zero_le, or_true, true_or, false_or, or_false, Nat.sub_zero, Int.toNat_natCast, Nat.le_refl, implies_true, forall_const, Int.reduceEq, Nat.reduceMul, ne_eq, not_true_eq_false, not_false_eq_true, false_implies, true_implies, Nat.left_eq_add, Nat.add_eq_left, g88, j13, le]
        exact f
    | succ k ih =>
      intro x J fine l4 ex fr bx fin
      have g : ∀ a j, a ≠ 102 → a ≠ 103 → a ≠ 104 → a ≠ 88 → J a j = I a j := fun a j h1 h2 h3 h4 => fr.1 a j h1 h2 h3 (fun q => absurd q h4)
      have j13 : J 88 13 = I 88 13 := fr.1 _ _ (by omega) (by omega) (by omega) (by omega)
      have j99 : J 99 x = I 99 x := g _ _ (by omega) (by omega) (by omega) (by omega)
      have j100 : J 100 x = I 100 x := g _ _ (by omega) (by omega) (by omega) (by omega)
      have j101 : J 101 x = I 101 x := g _ _ (by omega) (by omega) (by omega) (by omega)
      have nle : (I 88 13 ≤ (x : Int)) = False := eq_false (by omega)
      have xb : 0 ≤ (x : Int) ∧ (x : Int) < 12 := by omega
      have rn : rs_R ((x : Int) + 1) := by unfold rs_R; omega
      have ex' := en x (by omega)
      have hc : 0 ≤ I 99 x ∧ I 99 x < 10 := by omega
      rw [rs_x_95_44]
      simp only [rs_x_95_0, rs_x_95_1, rs_x_95_2, rs_x_95_3, rs_x_95_4, rs_x_95_5, rs_x_95_6, rs_x_95_9, rs_x_95_12, rs_x_95_13, rs_x_95_16, rs_x_95_17, rs_x_95_18, rs_x_95_21, rs_x_95_22, rs_x_95_23, rs_x_95_24, rs_x_95_25, rs_x_95_28, rs_x_95_29, rs_x_95_30, rs_x_95_33, rs_x_95_34, rs_x_95_35, rs_x_95_36, rs_x_95_39, rs_x_95_42, rs_x_95_43, rs_x_95_45, rs_x_95_46, rs_x_95_49, rs_x_95_52, rs_x_95_53, rs_x_95_54, rs_x_95_57, rs_x_95_60, rs_x_95_61, rs_x_95_62, rs_x_95_63, rs_x_95_66, rs_x_95_67, rs_x_95_68, rs_x_95_69, rs_x_95_72, rs_x_95_73, rs_x_95_74, rs_x_95_75, rs_x_95_78, rs_x_95_79, rs_x_95_80, rs_x_95_83, rs_x_95_85, rs_x_95_86, rs_x_95_89, rs_x_95_91, rs_x_95_94, rs_x_95_95, rs_x_95_98, rs_x_95_99, rs_x_95_100, rs_x_95_103, rs_x_95_106, rs_x_95_107, rs_x_95_110, rs_x_95_111, rs_x_95_112, rs_x_95_115, rs_x_95_118, rs_x_95_119, rs_x_95_122, rs_x_95_123, rs_cn_n, rs_cn_i, rs_cn_r, rs_cn_t, rs_up_at, Nat.reduceAdd, Nat.reduceEqDiff, Nat.reduceSub, Int.reduceToNat, Int.reduceNeg, Int.reduceLE, Int.reduceLT, Int.reduceAdd, Int.reduceSub, Int.reduceMul, Int.add_sub_cancel, List.length_cons, List.length_nil, Nat.reduceLeDiff, Nat.reduceLT, Int.cast_ofNat_Int, true_and, and_true, and_self, false_and, and_false, ↓reduceIte, Nat.zero_le, or_true, true_or, false_or, or_false, Nat.sub_zero, Int.toNat_natCast, Nat.le_refl, implies_true, forall_const, Int.reduceEq, Nat.reduceMul, ne_eq, not_true_eq_false, not_false_eq_true, false_implies, true_implies, Nat.left_eq_add, Nat.add_eq_left, g88, j13, nle]
      refine ⟨he0, cm_has (by omega) (by omega) (fun t => ?_) (fun t => ?_)⟩
      · have l2 := rm_cut_lo (I := J) (d := 0) (f := I 100 x) (t := I 101 x) hc
        have h2 := rm_cut_hi (I := J) (d := 0) (f := I 100 x) (t := I 101 x) hc
        have fr2 := rm_fr_tr fr (rm_tr_cut (I := J) (d := 0) (f := I 100 x) (t := I 101 x) hc).1
        have mono := (rm_tr_cut (I := J) (d := 0) (f := I 100 x) (t := I 101 x) hc).2.1
        have bx2 : ∀ j, j < n → ml (rm_cut J 0 (I 99 x) (I 100 x) (I 101 x)) 0 j = ly_lo (I 89) (I 99) (I 100) m (x + 1) j ∧ mh (rm_cut J 0 (I 99 x) (I 100 x) (I 101 x)) 0 j = ly_hi (I 90) (I 99) (I 101) m (x + 1) j := fun j hj => by
          rw [l2, h2, (bx j hj).1, (bx j hj).2]
          unfold ly_lo ly_hi
          simp only [t, true_and]
          cases x <;> exact ⟨rfl, rfl⟩
        have fin2 : ∀ y : Int, ((y = 1 ∧ max (ml J 0 (I 99 x).toNat) (I 100 x) ≤ min (mh J 0 (I 99 x).toNat) (I 101 x)) ∨ (y = 0 ∧ ¬ max (ml J 0 (I 99 x).toNat) (I 100 x) ≤ min (mh J 0 (I 99 x).toNat) (I 101 x))) → ∀ z : Int, z = (if fine = 0 then 0 else y) → rs_run u e 95 44 [some (.inr (.inr 88)), some (.inl (m : Int)), some (.inl z), some (.inl ((x + 1 : Nat) : Int)), some (.inl y)] [] (rm_cut J 0 (I 99 x) (I 100 x) (I 101 x)) K := fun y hy z hz => by
          refine ih (x + 1) _ z _ (by omega) fr2 bx2 ?_
          rcases fin with ⟨f1, val⟩ | ⟨f0, j, hj, lt⟩
          · rw [if_neg (by omega)] at hz
            rcases hy with ⟨y1, v⟩ | ⟨y0, v⟩
            · refine Or.inl ⟨by omega, fun j hj => ?_⟩
              rw [l2, h2]
              split
              · rename_i q; rw [q]; exact v
              · exact val j hj
            · refine Or.inr ⟨by omega, (I 99 x).toNat, by omega, ?_⟩
              rw [l2, h2, if_pos rfl, if_pos rfl]
              omega
          · rw [if_pos f0] at hz
            refine Or.inr ⟨hz, j, hj, ?_⟩
            have := mono j
            omega
        simp only [rs_x_95_0, rs_x_95_1, rs_x_95_2, rs_x_95_3, rs_x_95_4, rs_x_95_5, rs_x_95_6, rs_x_95_9, rs_x_95_12, rs_x_95_13, rs_x_95_16, rs_x_95_17, rs_x_95_18, rs_x_95_21, rs_x_95_22, rs_x_95_23, rs_x_95_24, rs_x_95_25, rs_x_95_28, rs_x_95_29, rs_x_95_30, rs_x_95_33, rs_x_95_34, rs_x_95_35, rs_x_95_36, rs_x_95_39, rs_x_95_42, rs_x_95_43, rs_x_95_45, rs_x_95_46, rs_x_95_49, rs_x_95_52, rs_x_95_53, rs_x_95_54, rs_x_95_57, rs_x_95_60, rs_x_95_61, rs_x_95_62, rs_x_95_63, rs_x_95_66, rs_x_95_67, rs_x_95_68, rs_x_95_69, rs_x_95_72, rs_x_95_73, rs_x_95_74, rs_x_95_75, rs_x_95_78, rs_x_95_79, rs_x_95_80, rs_x_95_83, rs_x_95_85, rs_x_95_86, rs_x_95_89, rs_x_95_91, rs_x_95_94, rs_x_95_95, rs_x_95_98, rs_x_95_99, rs_x_95_100, rs_x_95_103, rs_x_95_106, rs_x_95_107, rs_x_95_110, rs_x_95_111, rs_x_95_112, rs_x_95_115, rs_x_95_118, rs_x_95_119, rs_x_95_122, rs_x_95_123, rs_cn_n, rs_cn_i, rs_cn_r, rs_cn_t, rs_up_at, Nat.reduceAdd, Nat.reduceEqDiff, Nat.reduceSub, Int.reduceToNat, Int.reduceNeg, Int.reduceLE, Int.reduceLT, Int.reduceAdd, Int.reduceSub, Int.reduceMul, Int.add_sub_cancel, List.length_cons, List.length_nil, Nat.reduceLeDiff, Nat.reduceLT, Int.cast_ofNat_Int, true_and, and_true, and_self, false_and, and_false, ↓reduceIte, Nat.zero_le, or_true, true_or, false_or, or_false, Nat.sub_zero, Int.toNat_natCast, Nat.le_refl, implies_true, forall_const, Int.reduceEq, Nat.reduceMul, ne_eq, not_true_eq_false, not_false_eq_true, false_implies, true_implies, Nat.left_eq_add, Nat.add_eq_left, g88, g99, g100, g101, f88_14, f88_15, f88_16, xb, j99, j100, j101]
        refine ⟨he0, ?_⟩
        refine cm_cut (d := 0) he1 (by omega) hc (fun v => ?_) (fun v => ?_)
        · by_cases f0 : fine = 0
          · have f := fin2 1 (Or.inl ⟨rfl, v⟩) 0 (by rw [if_pos f0])
            simp only [rs_x_95_0, rs_x_95_1, rs_x_95_2, rs_x_95_3, rs_x_95_4, rs_x_95_5, rs_x_95_6, rs_x_95_9, rs_x_95_12, rs_x_95_13, rs_x_95_16, rs_x_95_17, rs_x_95_18, rs_x_95_21, rs_x_95_22, rs_x_95_23, rs_x_95_24, rs_x_95_25, rs_x_95_28, rs_x_95_29, rs_x_95_30, rs_x_95_33, rs_x_95_34, rs_x_95_35, rs_x_95_36, rs_x_95_39, rs_x_95_42, rs_x_95_43, rs_x_95_45, rs_x_95_46, rs_x_95_49, rs_x_95_52, rs_x_95_53, rs_x_95_54, rs_x_95_57, rs_x_95_60, rs_x_95_61, rs_x_95_62, rs_x_95_63, rs_x_95_66, rs_x_95_67, rs_x_95_68, rs_x_95_69, rs_x_95_72, rs_x_95_73, rs_x_95_74, rs_x_95_75, rs_x_95_78, rs_x_95_79, rs_x_95_80, rs_x_95_83, rs_x_95_85, rs_x_95_86, rs_x_95_89, rs_x_95_91, rs_x_95_94, rs_x_95_95, rs_x_95_98, rs_x_95_99, rs_x_95_100, rs_x_95_103, rs_x_95_106, rs_x_95_107, rs_x_95_110, rs_x_95_111, rs_x_95_112, rs_x_95_115, rs_x_95_118, rs_x_95_119, rs_x_95_122, rs_x_95_123, rs_cn_n, rs_cn_i, rs_cn_r, rs_cn_t, rs_up_at, Nat.reduceAdd, Nat.reduceEqDiff, Nat.reduceSub, Int.reduceToNat, Int.reduceNeg, Int.reduceLE, Int.reduceLT, Int.reduceAdd, Int.reduceSub, Int.reduceMul, Int.add_sub_cancel, List.length_cons, List.length_nil, Nat.reduceLeDiff, Nat.reduceLT, Int.cast_ofNat_Int, true_and, and_true, and_self, false_and, and_false, ↓reduceIte, Nat.zero_le, or_true, true_or, false_or, or_false, Nat.sub_zero, Int.toNat_natCast, Nat.le_refl, implies_true, forall_const, Int.reduceEq, Nat.reduceMul, ne_eq, not_true_eq_false, not_false_eq_true, false_implies, true_implies, Nat.left_eq_add, Nat.add_eq_left, g88, f0]
            exact ⟨rn, f⟩
          · have f := fin2 1 (Or.inl ⟨rfl, v⟩) 1 (by rw [if_neg f0])
            simp only [rs_x_95_0, rs_x_95_1, rs_x_95_2, rs_x_95_3, rs_x_95_4, rs_x_95_5, rs_x_95_6, rs_x_95_9, rs_x_95_12, rs_x_95_13, rs_x_95_16, rs_x_95_17, rs_x_95_18, rs_x_95_21, rs_x_95_22, rs_x_95_23, rs_x_95_24, rs_x_95_25, rs_x_95_28, rs_x_95_29, rs_x_95_30, rs_x_95_33, rs_x_95_34, rs_x_95_35, rs_x_95_36, rs_x_95_39, rs_x_95_42, rs_x_95_43, rs_x_95_45, rs_x_95_46, rs_x_95_49, rs_x_95_52, rs_x_95_53, rs_x_95_54, rs_x_95_57, rs_x_95_60, rs_x_95_61, rs_x_95_62, rs_x_95_63, rs_x_95_66, rs_x_95_67, rs_x_95_68, rs_x_95_69, rs_x_95_72, rs_x_95_73, rs_x_95_74, rs_x_95_75, rs_x_95_78, rs_x_95_79, rs_x_95_80, rs_x_95_83, rs_x_95_85, rs_x_95_86, rs_x_95_89, rs_x_95_91, rs_x_95_94, rs_x_95_95, rs_x_95_98, rs_x_95_99, rs_x_95_100, rs_x_95_103, rs_x_95_106, rs_x_95_107, rs_x_95_110, rs_x_95_111, rs_x_95_112, rs_x_95_115, rs_x_95_118, rs_x_95_119, rs_x_95_122, rs_x_95_123, rs_cn_n, rs_cn_i, rs_cn_r, rs_cn_t, rs_up_at, Nat.reduceAdd, Nat.reduceEqDiff, Nat.reduceSub, Int.reduceToNat, Int.reduceNeg, Int.reduceLE, Int.reduceLT, Int.reduceAdd, Int.reduceSub, Int.reduceMul, Int.add_sub_cancel, List.length_cons, List.length_nil, Nat.reduceLeDiff, Nat.reduceLT, Int.cast_ofNat_Int, true_and, and_true, and_self, false_and, and_false, ↓reduceIte, Nat.zero_le, or_true, true_or, false_or, or_false, Nat.sub_zero, Int.toNat_natCast, Nat.le_refl, implies_true, forall_const, Int.reduceEq, Nat.reduceMul, ne_eq, not_true_eq_false, not_false_eq_true, false_implies, true_implies, Nat.left_eq_add, Nat.add_eq_left, g88, f0]
            exact ⟨rn, f⟩
        · by_cases f0 : fine = 0
          · have f := fin2 0 (Or.inr ⟨rfl, v⟩) 0 (by rw [if_pos f0])
            simp only [rs_x_95_0, rs_x_95_1, rs_x_95_2, rs_x_95_3, rs_x_95_4, rs_x_95_5, rs_x_95_6, rs_x_95_9, rs_x_95_12, rs_x_95_13, rs_x_95_16, rs_x_95_17, rs_x_95_18, rs_x_95_21, rs_x_95_22, rs_x_95_23, rs_x_95_24, rs_x_95_25, rs_x_95_28, rs_x_95_29, rs_x_95_30, rs_x_95_33, rs_x_95_34, rs_x_95_35, rs_x_95_36, rs_x_95_39, rs_x_95_42, rs_x_95_43, rs_x_95_45, rs_x_95_46, rs_x_95_49, rs_x_95_52, rs_x_95_53, rs_x_95_54, rs_x_95_57, rs_x_95_60, rs_x_95_61, rs_x_95_62, rs_x_95_63, rs_x_95_66, rs_x_95_67, rs_x_95_68, rs_x_95_69, rs_x_95_72, rs_x_95_73, rs_x_95_74, rs_x_95_75, rs_x_95_78, rs_x_95_79, rs_x_95_80, rs_x_95_83, rs_x_95_85, rs_x_95_86, rs_x_95_89, rs_x_95_91, rs_x_95_94, rs_x_95_95, rs_x_95_98, rs_x_95_99, rs_x_95_100, rs_x_95_103, rs_x_95_106, rs_x_95_107, rs_x_95_110, rs_x_95_111, rs_x_95_112, rs_x_95_115, rs_x_95_118, rs_x_95_119, rs_x_95_122, rs_x_95_123, rs_cn_n, rs_cn_i, rs_cn_r, rs_cn_t, rs_up_at, Nat.reduceAdd, Nat.reduceEqDiff, Nat.reduceSub, Int.reduceToNat, Int.reduceNeg, Int.reduceLE, Int.reduceLT, Int.reduceAdd, Int.reduceSub, Int.reduceMul, Int.add_sub_cancel, List.length_cons, List.length_nil, Nat.reduceLeDiff, Nat.reduceLT, Int.cast_ofNat_Int, true_and, and_true, and_self, false_and, and_false, ↓reduceIte, Nat.zero_le, or_true, true_or, false_or, or_false, Nat.sub_zero, Int.toNat_natCast, Nat.le_refl, implies_true, forall_const, Int.reduceEq, Nat.reduceMul, ne_eq, not_true_eq_false, not_false_eq_true, false_implies, true_implies, Nat.left_eq_add, Nat.add_eq_left, g88, f0]
            exact ⟨rn, f⟩
          · have f := fin2 0 (Or.inr ⟨rfl, v⟩) 0 (by rw [if_neg f0])
            simp only [rs_x_95_0, rs_x_95_1, rs_x_95_2, rs_x_95_3, rs_x_95_4, rs_x_95_5, rs_x_95_6, rs_x_95_9, rs_x_95_12, rs_x_95_13, rs_x_95_16, rs_x_95_17, rs_x_95_18, rs_x_95_21, rs_x_95_22, rs_x_95_23, rs_x_95_24, rs_x_95_25, rs_x_95_28, rs_x_95_29, rs_x_95_30, rs_x_95_33, rs_x_95_34, rs_x_95_35, rs_x_95_36, rs_x_95_39, rs_x_95_42, rs_x_95_43, rs_x_95_45, rs_x_95_46, rs_x_95_49, rs_x_95_52, rs_x_95_53, rs_x_95_54, rs_x_95_57, rs_x_95_60, rs_x_95_61, rs_x_95_62, rs_x_95_63, rs_x_95_66, rs_x_95_67, rs_x_95_68, rs_x_95_69, rs_x_95_72, rs_x_95_73, rs_x_95_74, rs_x_95_75, rs_x_95_78, rs_x_95_79, rs_x_95_80, rs_x_95_83, rs_x_95_85, rs_x_95_86, rs_x_95_89, rs_x_95_91, rs_x_95_94, rs_x_95_95, rs_x_95_98, rs_x_95_99, rs_x_95_100, rs_x_95_103, rs_x_95_106, rs_x_95_107, rs_x_95_110, rs_x_95_111, rs_x_95_112, rs_x_95_115, rs_x_95_118, rs_x_95_119, rs_x_95_122, rs_x_95_123, rs_cn_n, rs_cn_i, rs_cn_r, rs_cn_t, rs_up_at, Nat.reduceAdd, Nat.reduceEqDiff, Nat.reduceSub, Int.reduceToNat, Int.reduceNeg, Int.reduceLE, Int.reduceLT, Int.reduceAdd, Int.reduceSub, Int.reduceMul, Int.add_sub_cancel, List.length_cons, List.length_nil, Nat.reduceLeDiff, Nat.reduceLT, Int.cast_ofNat_Int, true_and, and_true, and_self, false_and, and_false, ↓reduceIte, Nat.zero_le, or_true, true_or, false_or, or_false, Nat.sub_zero, Int.toNat_natCast, Nat.le_refl, implies_true, forall_const, Int.reduceEq, Nat.reduceMul, ne_eq, not_true_eq_false, not_false_eq_true, false_implies, true_implies, Nat.left_eq_add, Nat.add_eq_left, g88, f0]
            exact ⟨rn, f⟩
      · have f := ih (x + 1) J fine l4 (by omega) fr (fun j hj => by
          rw [(bx j hj).1, (bx j hj).2]
          unfold ly_lo ly_hi
          simp only [t, Bool.false_eq_true, false_and, ↓reduceIte]
          cases x <;> exact ⟨rfl, rfl⟩) fin
        simp only [rs_x_95_0, rs_x_95_1, rs_x_95_2, rs_x_95_3, rs_x_95_4, rs_x_95_5, rs_x_95_6, rs_x_95_9, rs_x_95_12, rs_x_95_13, rs_x_95_16, rs_x_95_17, rs_x_95_18, rs_x_95_21, rs_x_95_22, rs_x_95_23, rs_x_95_24, rs_x_95_25, rs_x_95_28, rs_x_95_29, rs_x_95_30, rs_x_95_33, rs_x_95_34, rs_x_95_35, rs_x_95_36, rs_x_95_39, rs_x_95_42, rs_x_95_43, rs_x_95_45, rs_x_95_46, rs_x_95_49, rs_x_95_52, rs_x_95_53, rs_x_95_54, rs_x_95_57, rs_x_95_60, rs_x_95_61, rs_x_95_62, rs_x_95_63, rs_x_95_66, rs_x_95_67, rs_x_95_68, rs_x_95_69, rs_x_95_72, rs_x_95_73, rs_x_95_74, rs_x_95_75, rs_x_95_78, rs_x_95_79, rs_x_95_80, rs_x_95_83, rs_x_95_85, rs_x_95_86, rs_x_95_89, rs_x_95_91, rs_x_95_94, rs_x_95_95, rs_x_95_98, rs_x_95_99, rs_x_95_100, rs_x_95_103, rs_x_95_106, rs_x_95_107, rs_x_95_110, rs_x_95_111, rs_x_95_112, rs_x_95_115, rs_x_95_118, rs_x_95_119, rs_x_95_122, rs_x_95_123, rs_cn_n, rs_cn_i, rs_cn_r, rs_cn_t, rs_up_at, Nat.reduceAdd, Nat.reduceEqDiff, Nat.reduceSub, Int.reduceToNat, Int.reduceNeg, Int.reduceLE, Int.reduceLT, Int.reduceAdd, Int.reduceSub, Int.reduceMul, Int.add_sub_cancel, List.length_cons, List.length_nil, Nat.reduceLeDiff, Nat.reduceLT, Int.cast_ofNat_Int, true_and, and_true, and_self, false_and, and_false, ↓reduceIte, Nat.zero_le, or_true, true_or, false_or, or_false, Nat.sub_zero, Int.toNat_natCast, Nat.le_refl, implies_true, forall_const, Int.reduceEq, Nat.reduceMul, ne_eq, not_true_eq_false, not_false_eq_true, false_implies, true_implies, Nat.left_eq_add, Nat.add_eq_left, g88]
        exact ⟨rn, f⟩
  -- the first ranges
  have loop1 : ∀ (k x : Nat) (J : rs_M), x + k = n → rm_fr 0 I J → (∀ j, j < x → ml J 0 j = I 89 j ∧ mh J 0 j = I 90 j) → rs_run u e 95 4 [some (.inr (.inr 88)), some (.inl (m : Int)), some (.inl 1), some (.inl (x : Int)), none] [] J K := by
    intro k
    induction k with
    | zero =>
      intro x J ex fr bx
      have exn : x = n := by omega
      subst exn
      have j1 : J 88 1 = (x : Int) := by rw [fr.1 88 1 (by omega) (by omega) (by omega) (by omega), e1]
      have f := loop2 (I 88 13).toNat 0 J 1 none (by omega) fr bx (Or.inl ⟨rfl, fun j hj => by rw [(bx j hj).1, (bx j hj).2]; exact (fi j hj).2.1⟩)
      have le : (x : Int) ≤ (x : Int) := by omega
      rw [rs_x_95_4]
      simp only [rs_x_95_0, rs_x_95_1, rs_x_95_2, rs_x_95_3, rs_x_95_5, rs_x_95_6, rs_x_95_9, rs_x_95_12, rs_x_95_13, rs_x_95_16, rs_x_95_17, rs_x_95_18, rs_x_95_21, rs_x_95_22, rs_x_95_23, rs_x_95_24, rs_x_95_25, rs_x_95_28, rs_x_95_29, rs_x_95_30, rs_x_95_33, rs_x_95_34, rs_x_95_35, rs_x_95_36, rs_x_95_39, rs_x_95_42, rs_x_95_43, rs_x_95_45, rs_x_95_46, rs_x_95_49, rs_x_95_52, rs_x_95_53, rs_x_95_54, rs_x_95_57, rs_x_95_60, rs_x_95_61, rs_x_95_62, rs_x_95_63, rs_x_95_66, rs_x_95_67, rs_x_95_68, rs_x_95_69, rs_x_95_72, rs_x_95_73, rs_x_95_74, rs_x_95_75, rs_x_95_78, rs_x_95_79, rs_x_95_80, rs_x_95_83, rs_x_95_85, rs_x_95_86, rs_x_95_89, rs_x_95_91, rs_x_95_94, rs_x_95_95, rs_x_95_98, rs_x_95_99, rs_x_95_100, rs_x_95_103, rs_x_95_106, rs_x_95_107, rs_x_95_110, rs_x_95_111, rs_x_95_112, rs_x_95_115, rs_x_95_118, rs_x_95_119, rs_x_95_122, rs_x_95_123, rs_cn_n, rs_cn_i, rs_cn_r, rs_cn_t, rs_up_at, Nat.reduceAdd, Nat.reduceEqDiff, Nat.reduceSub, Int.reduceToNat, Int.reduceNeg, Int.reduceLE, Int.reduceLT, Int.reduceAdd, Int.reduceSub, Int.reduceMul, Int.add_sub_cancel, List.length_cons, List.length_nil, Nat.reduceLeDiff, Nat.reduceLT, Int.cast_ofNat_Int, true_and, and_true, and_self, false_and, and_false, ↓reduceIte, Nat.zero_le, or_true, true_or, false_or, or_false, Nat.sub_zero, Int.toNat_natCast, Nat.le_refl, implies_true, forall_const, Int.reduceEq, Nat.reduceMul, ne_eq, not_true_eq_false, not_false_eq_true, false_implies, true_implies, Nat.left_eq_add, Nat.add_eq_left, g88, j1, le]
      exact f
    | succ k ih =>
      intro x J ex fr bx
      have j1 : J 88 1 = (n : Int) := by rw [fr.1 88 1 (by omega) (by omega) (by omega) (by omega), e1]
      have j89 : J 89 x = I 89 x := fr.1 _ _ (by omega) (by omega) (by omega) (by omega)
      have nle : ((n : Int) ≤ (x : Int)) = False := eq_false (by omega)
      have x1 : 0 ≤ (x : Int) := by omega
      have x2 : (x : Int) < 10 := by omega
      have x3 : (x : Int) < 120 := by omega
      have rn : rs_R ((x : Int) + 1) := by unfold rs_R; omega
      have j90 : J 90 x = I 90 x := fr.1 _ _ (by omega) (by omega) (by omega) (by omega)
      have fr2 : rm_fr 0 I (rs_up (rs_up J 102 x (I 89 x)) 103 x (I 90 x)) := by
        refine rm_fr_tr fr ⟨fun a j h1 h2 _ _ => ?_, fun i hi => ?_⟩
        · rw [rs_up_at, if_neg (fun q => h2 q.1), rs_up_at, if_neg (fun q => h1 q.1)]
        · simp only [rs_up_at, Nat.reduceEqDiff, false_and, ↓reduceIte, true_and]
          rw [if_neg (by omega), if_neg (by omega)]
          exact ⟨rfl, rfl⟩
      have f := ih (x + 1) (rs_up (rs_up J 102 x (I 89 x)) 103 x (I 90 x)) (by omega) fr2 (fun j hj => by
        rw [ml_at (by omega), mh_at (by omega)]
        simp only [rs_up_at, Nat.reduceEqDiff, false_and, ↓reduceIte, true_and, Nat.mul_zero, Nat.zero_add]
        by_cases ej : j = x
        · rw [if_pos ej, if_pos ej, ej]; exact ⟨rfl, rfl⟩
        · rw [if_neg ej, if_neg ej]
          have := bx j (by omega)
          rw [ml_at (by omega), mh_at (by omega), Nat.mul_zero, Nat.zero_add] at this
          exact this)
      rw [rs_x_95_4]
      simp only [rs_x_95_0, rs_x_95_1, rs_x_95_2, rs_x_95_3, rs_x_95_5, rs_x_95_6, rs_x_95_9, rs_x_95_12, rs_x_95_13, rs_x_95_16, rs_x_95_17, rs_x_95_18, rs_x_95_21, rs_x_95_22, rs_x_95_23, rs_x_95_24, rs_x_95_25, rs_x_95_28, rs_x_95_29, rs_x_95_30, rs_x_95_33, rs_x_95_34, rs_x_95_35, rs_x_95_36, rs_x_95_39, rs_x_95_42, rs_x_95_43, rs_x_95_45, rs_x_95_46, rs_x_95_49, rs_x_95_52, rs_x_95_53, rs_x_95_54, rs_x_95_57, rs_x_95_60, rs_x_95_61, rs_x_95_62, rs_x_95_63, rs_x_95_66, rs_x_95_67, rs_x_95_68, rs_x_95_69, rs_x_95_72, rs_x_95_73, rs_x_95_74, rs_x_95_75, rs_x_95_78, rs_x_95_79, rs_x_95_80, rs_x_95_83, rs_x_95_85, rs_x_95_86, rs_x_95_89, rs_x_95_91, rs_x_95_94, rs_x_95_95, rs_x_95_98, rs_x_95_99, rs_x_95_100, rs_x_95_103, rs_x_95_106, rs_x_95_107, rs_x_95_110, rs_x_95_111, rs_x_95_112, rs_x_95_115, rs_x_95_118, rs_x_95_119, rs_x_95_122, rs_x_95_123, rs_cn_n, rs_cn_i, rs_cn_r, rs_cn_t, rs_up_at, Nat.reduceAdd, Nat.reduceEqDiff, Nat.reduceSub, Int.reduceToNat, Int.reduceNeg, Int.reduceLE, Int.reduceLT, Int.reduceAdd, Int.reduceSub, Int.reduceMul, Int.add_sub_cancel, List.length_cons, List.length_nil, Nat.reduceLeDiff, Nat.reduceLT, Int.cast_ofNat_Int, true_and, and_true, and_self, false_and, and_false, ↓reduceIte, Nat.zero_le, or_true, true_or, false_or, or_false, Nat.sub_zero, Int.toNat_natCast, Nat.le_refl, implies_true, forall_const, Int.reduceEq, Nat.reduceMul, ne_eq, not_true_eq_false, not_false_eq_true, false_implies, true_implies, Nat.left_eq_add, Nat.add_eq_left, g88, g89, g90, g102, g103, f88_2, f88_3, f88_18, f88_19, j1, nle, x1, x2, x3, j89, j90]
      exact ⟨rn, f⟩
  have f := loop1 n 0 I (by omega) rm_fr_rf (fun j hj => by omega)
  simp only [rs_x_95_0, rs_x_95_1, rs_x_95_2, rs_x_95_3, rs_x_95_5, rs_x_95_6, rs_x_95_9, rs_x_95_12, rs_x_95_13, rs_x_95_16, rs_x_95_17, rs_x_95_18, rs_x_95_21, rs_x_95_22, rs_x_95_23, rs_x_95_24, rs_x_95_25, rs_x_95_28, rs_x_95_29, rs_x_95_30, rs_x_95_33, rs_x_95_34, rs_x_95_35, rs_x_95_36, rs_x_95_39, rs_x_95_42, rs_x_95_43, rs_x_95_44, rs_x_95_45, rs_x_95_46, rs_x_95_49, rs_x_95_52, rs_x_95_53, rs_x_95_54, rs_x_95_57, rs_x_95_60, rs_x_95_61, rs_x_95_62, rs_x_95_63, rs_x_95_66, rs_x_95_67, rs_x_95_68, rs_x_95_69, rs_x_95_72, rs_x_95_73, rs_x_95_74, rs_x_95_75, rs_x_95_78, rs_x_95_79, rs_x_95_80, rs_x_95_83, rs_x_95_85, rs_x_95_86, rs_x_95_89, rs_x_95_91, rs_x_95_94, rs_x_95_95, rs_x_95_98, rs_x_95_99, rs_x_95_100, rs_x_95_103, rs_x_95_106, rs_x_95_107, rs_x_95_110, rs_x_95_111, rs_x_95_112, rs_x_95_115, rs_x_95_118, rs_x_95_119, rs_x_95_122, rs_x_95_123, rs_cn_n, rs_cn_i, rs_cn_r, rs_cn_t, rs_up_at, Nat.reduceAdd, Nat.reduceEqDiff, Nat.reduceSub, Int.reduceToNat, Int.reduceNeg, Int.reduceLE, Int.reduceLT, Int.reduceAdd, Int.reduceSub, Int.reduceMul, Int.add_sub_cancel, List.length_cons, List.length_nil, Nat.reduceLeDiff, Nat.reduceLT, Int.cast_ofNat_Int, true_and, and_true, and_self, false_and, and_false, ↓reduceIte, Nat.zero_le, or_true, true_or, false_or, or_false, Nat.sub_zero, Int.toNat_natCast, Nat.le_refl, implies_true, forall_const, Int.reduceEq, Nat.reduceMul, ne_eq, not_true_eq_false, not_false_eq_true, false_implies, true_implies, Nat.left_eq_add, Nat.add_eq_left]
  exact f
set_option maxRecDepth 100000 in
set_option maxHeartbeats 2000000 in
theorem cm_narrow {u e n f : Nat} {I : rs_M} {K : rs_K} (he : 7 ≤ e) (hf : f < 4096) (ef : I 88 17 = (f : Int)) (ok : mo_ok I n) (h1 : ∀ J, (∀ a j, a ≠ 102 → a ≠ 103 → a ≠ 104 → a ≠ 105 → a ≠ 106 → (a = 88 → j ≠ 0 ∧ (j < 20 ∨ 26 < j) ∧ j ≠ 28) → J a j = I a j) → J 88 0 = 0 → J 88 28 = (n : Int) → bx_fix n (mt_G I) (mt_S I) (mt_Q I) (mo_lo I f) (mo_hi I f) (J 105) (J 106) → K (some (.inl 1)) J) (h0 : ∀ J, (∀ a j, a ≠ 102 → a ≠ 103 → a ≠ 104 → a ≠ 105 → a ≠ 106 → (a = 88 → j ≠ 0 ∧ (j < 20 ∨ 26 < j) ∧ j ≠ 28) → J a j = I a j) → J 88 0 = 0 → J 88 28 = 0 → bx_brk n (mt_G I) (mt_S I) (mt_Q I) (mo_lo I f) (mo_hi I f) → K (some (.inl 0)) J) : rs_run u e 96 0 (rs_en0 [.inr (.inr 88)] 3) [] I K := by
  show rs_run u e 96 0 [some (.inr (.inr 88)), none, none] [] I K
  have g88 : rs_sh 88 = (1, 8) := by decide +kernel
  have g102 : rs_sh 102 = (2, 120) := by decide +kernel
  have g103 : rs_sh 103 = (2, 120) := by decide +kernel
  have g105 : rs_sh 105 = (2, 10) := by decide +kernel
  have g106 : rs_sh 106 = (2, 10) := by decide +kernel
  have f88_18 : rs_rf 88 18 = 102 := by decide +kernel
  have f88_19 : rs_rf 88 19 = 103 := by decide +kernel
  have f88_29 : rs_rf 88 29 = 105 := by decide +kernel
  have f88_30 : rs_rf 88 30 = 106 := by decide +kernel
  have he0 : 0 < e := by omega
  have he6 : 6 ≤ e - 1 := by omega
  -- thrown is cleared
  have t0 : ∀ a j, (a = 88 → j ≠ 0) → rs_up I 88 0 0 a j = I a j := fun a j h => by
    rw [rs_up_at, if_neg (fun g => h g.1 g.2)]
  have t17 : rs_up I 88 0 0 88 17 = (f : Int) := by rw [t0 _ _ (by omega), ef]
  have t00 : rs_up I 88 0 0 88 0 = 0 := by simp [rs_up_at]
  have hfr : ∀ d, ¬ d = 100 → True := fun _ _ => trivial
  have okT : mo_ok (rs_up I 88 0 0) n ∧ (∀ m, mo_lo (rs_up I 88 0 0) m = mo_lo I m ∧ mo_hi (rs_up I 88 0 0) m = mo_hi I m) ∧ mt_G (rs_up I 88 0 0) = mt_G I ∧ mt_S (rs_up I 88 0 0) = mt_S I ∧ mt_Q (rs_up I 88 0 0) = mt_Q I := by
    have g : ∀ a, a ≠ 88 → rs_up I 88 0 0 a = I a := fun a h => funext fun j => t0 a j (fun q => absurd q h)
    have g1 : rs_up I 88 0 0 88 1 = I 88 1 := t0 _ _ (by omega)
    have g4 : rs_up I 88 0 0 88 4 = I 88 4 := t0 _ _ (by omega)
    have g13 : rs_up I 88 0 0 88 13 = I 88 13 := t0 _ _ (by omega)
    unfold mo_ok mo_lo mo_hi mt_net
    refine ⟨?_, fun m => ?_, ?_, ?_, ?_⟩
    · rw [g 89 (by omega), g 90 (by omega), g 91 (by omega), g 92 (by omega), g 93 (by omega), g 94 (by omega), g 96 (by omega), g 99 (by omega), g 100 (by omega), g 101 (by omega), g1, g4, g13]
      exact ok
    · rw [g 89 (by omega), g 90 (by omega), g 99 (by omega), g 100 (by omega), g 101 (by omega), g13]
      exact ⟨rfl, rfl⟩
    · funext r; unfold mt_G; rw [g4, g 95 (by omega)]
    · funext r; unfold mt_S; rw [g 91 (by omega), g 92 (by omega), g 93 (by omega), g 94 (by omega)]
    · funext r
      unfold mt_Q
      have eT : mt_T (rs_up I 88 0 0) = mt_T I := by
        funext t u v
        unfold mt_T
        rw [g 96 (by omega), g 97 (by omega), g 98 (by omega)]
      rw [g 91 (by omega), g 92 (by omega), g 93 (by omega), g 94 (by omega), eT]
  obtain ⟨okT, emo, eG, eS, eQ⟩ := okT
  have hn := okT.1.1
  simp only [rs_x_96_0, rs_x_96_1, rs_x_96_2, rs_x_96_5, rs_x_96_6, rs_x_96_7, rs_x_96_10, rs_x_96_13, rs_x_96_14, rs_x_96_15, rs_x_96_16, rs_x_96_19, rs_x_96_20, rs_x_96_23, rs_x_96_26, rs_x_96_27, rs_x_96_30, rs_x_96_31, rs_x_96_32, rs_x_96_33, rs_x_96_34, rs_x_96_37, rs_x_96_40, rs_x_96_41, rs_x_96_44, rs_x_96_45, rs_x_96_46, rs_x_96_49, rs_x_96_50, rs_x_96_51, rs_x_96_52, rs_x_96_53, rs_x_96_56, rs_x_96_57, rs_x_96_58, rs_x_96_61, rs_x_96_62, rs_x_96_63, rs_x_96_64, rs_x_96_67, rs_x_96_70, rs_x_96_71, rs_cn_n, rs_cn_i, rs_cn_r, rs_cn_t, rs_up_at, Nat.reduceAdd, Nat.reduceEqDiff, Nat.reduceSub, Int.reduceToNat, Int.reduceNeg, Int.reduceLE, Int.reduceLT, Int.reduceAdd, Int.reduceSub, Int.reduceMul, Int.add_sub_cancel, List.length_cons, List.length_nil, Nat.reduceLeDiff, Nat.reduceLT, Int.cast_ofNat_Int, true_and, and_true, and_self, false_and, and_false, ↓reduceIte, Nat.zero_le, or_true, true_or, false_or, or_false, Nat.sub_zero, Int.toNat_natCast, Nat.le_refl, implies_true, forall_const, Int.reduceEq, Nat.reduceMul, ne_eq, not_true_eq_false, not_false_eq_true, false_implies, true_implies, Nat.left_eq_add, Nat.add_eq_left, g88, ef]
  generalize rs_up I 88 0 0 = T at t0 t17 t00 okT emo eG eS eQ ⊢
  refine ⟨he0, cm_narrowWith he6 hf okT (fun J fr fx bok => ?_) (fun J fr br => ?_)⟩
  · have j1 : J 88 1 = (n : Int) := by rw [fr.1 88 1 (by omega) (by omega) (by omega) (by omega)]; exact okT.2.1
    rw [eG, eS, eQ, (emo f).1, (emo f).2] at fx
    have loop : ∀ (k x : Nat) (L : rs_M), x + k = n → (∀ a j, a ≠ 105 → a ≠ 106 → (a = 88 → j ≠ 28) → L a j = J a j) → L 88 28 = (n : Int) → (∀ j, j < x → L 105 j = ml J 0 j ∧ L 106 j = mh J 0 j) → rs_run u e 96 32 [some (.inr (.inr 88)), some (.inl 1), some (.inl (x : Int))] [] L K := by
      intro k
      induction k with
      | zero =>
        intro x L ex fL l28 bx
        have exn : x = n := by omega
        subst exn
        have q := h1 L (fun a j p1 p2 p3 p4 p5 p6 => by
          rw [fL a j p4 p5 (fun q => (p6 q).2.2), fr.1 a j p1 p2 p3 (fun q => (p6 q).2.1), t0 a j (fun q => (p6 q).1)]) (by rw [fL 88 0 (by omega) (by omega) (by omega), fr.1 88 0 (by omega) (by omega) (by omega) (by omega), t00]) l28 (bx_fix_eq (fun r hr => by
          obtain ⟨mm, _, _, _, _, a5, _⟩ := nt_mask ok.1.1 (ok.1.2.2.1 r hr.1)
          exact a5) (fun _ _ => ⟨rfl, rfl⟩) bx fx)
        have le : (x : Int) ≤ (x : Int) := by omega
        rw [rs_x_96_32]
        simp only [rs_x_96_0, rs_x_96_1, rs_x_96_2, rs_x_96_5, rs_x_96_6, rs_x_96_7, rs_x_96_10, rs_x_96_13, rs_x_96_14, rs_x_96_15, rs_x_96_16, rs_x_96_19, rs_x_96_20, rs_x_96_23, rs_x_96_26, rs_x_96_27, rs_x_96_30, rs_x_96_31, rs_x_96_33, rs_x_96_34, rs_x_96_37, rs_x_96_40, rs_x_96_41, rs_x_96_44, rs_x_96_45, rs_x_96_46, rs_x_96_49, rs_x_96_50, rs_x_96_51, rs_x_96_52, rs_x_96_53, rs_x_96_56, rs_x_96_57, rs_x_96_58, rs_x_96_61, rs_x_96_62, rs_x_96_63, rs_x_96_64, rs_x_96_67, rs_x_96_70, rs_x_96_71, rs_cn_n, rs_cn_i, rs_cn_r, rs_cn_t, rs_up_at, Nat.reduceAdd, Nat.reduceEqDiff, Nat.reduceSub, Int.reduceToNat, Int.reduceNeg, Int.reduceLE, Int.reduceLT, Int.reduceAdd, Int.reduceSub, Int.reduceMul, Int.add_sub_cancel, List.length_cons, List.length_nil, Nat.reduceLeDiff, Nat.reduceLT, Int.cast_ofNat_Int, true_and, and_true, and_self, false_and, and_false, ↓reduceIte, Nat.zero_le, or_true, true_or, false_or, or_false, Nat.sub_zero, Int.toNat_natCast, Nat.le_refl, implies_true, forall_const, Int.reduceEq, Nat.reduceMul, ne_eq, not_true_eq_false, not_false_eq_true, false_implies, true_implies, Nat.left_eq_add, Nat.add_eq_left, g88, l28, le]
        exact q
      | succ k ih =>
        intro x L ex fL l28 bx
        have nle : ((n : Int) ≤ (x : Int)) = False := eq_false (by omega)
        have x1 : 0 ≤ (x : Int) := by omega
        have x2 : (x : Int) < 10 := by omega
        have x3 : (x : Int) < 120 := by omega
        have rn : rs_R ((x : Int) + 1) := by unfold rs_R; omega
        have l102 : L 102 x = ml J 0 x := by rw [fL 102 x (by omega) (by omega) (by omega), ml_at (by omega), Nat.mul_zero, Nat.zero_add]
        have l103 : L 103 x = mh J 0 x := by rw [fL 103 x (by omega) (by omega) (by omega), mh_at (by omega), Nat.mul_zero, Nat.zero_add]
        have q := ih (x + 1) (rs_up (rs_up L 105 x (ml J 0 x)) 106 x (mh J 0 x)) (by omega) (fun a j p1 p2 p3 => by
          rw [rs_up_at, if_neg (fun q => p2 q.1), rs_up_at, if_neg (fun q => p1 q.1), fL a j p1 p2 p3]) (by simp [rs_up_at, l28]) (fun j hj => by
          simp only [rs_up_at, Nat.reduceEqDiff, false_and, ↓reduceIte, true_and]
          by_cases ej : j = x
          · rw [if_pos ej, if_pos ej, ej]; exact ⟨rfl, rfl⟩
          · rw [if_neg ej, if_neg ej]; exact bx j (by omega))
        rw [rs_x_96_32]
        simp only [rs_x_96_0, rs_x_96_1, rs_x_96_2, rs_x_96_5, rs_x_96_6, rs_x_96_7, rs_x_96_10, rs_x_96_13, rs_x_96_14, rs_x_96_15, rs_x_96_16, rs_x_96_19, rs_x_96_20, rs_x_96_23, rs_x_96_26, rs_x_96_27, rs_x_96_30, rs_x_96_31, rs_x_96_33, rs_x_96_34, rs_x_96_37, rs_x_96_40, rs_x_96_41, rs_x_96_44, rs_x_96_45, rs_x_96_46, rs_x_96_49, rs_x_96_50, rs_x_96_51, rs_x_96_52, rs_x_96_53, rs_x_96_56, rs_x_96_57, rs_x_96_58, rs_x_96_61, rs_x_96_62, rs_x_96_63, rs_x_96_64, rs_x_96_67, rs_x_96_70, rs_x_96_71, rs_cn_n, rs_cn_i, rs_cn_r, rs_cn_t, rs_up_at, Nat.reduceAdd, Nat.reduceEqDiff, Nat.reduceSub, Int.reduceToNat, Int.reduceNeg, Int.reduceLE, Int.reduceLT, Int.reduceAdd, Int.reduceSub, Int.reduceMul, Int.add_sub_cancel, List.length_cons, List.length_nil, Nat.reduceLeDiff, Nat.reduceLT, Int.cast_ofNat_Int, true_and, and_true, and_self, false_and, and_false, ↓reduceIte, Nat.zero_le, or_true, true_or, false_or, or_false, Nat.sub_zero, Int.toNat_natCast, Nat.le_refl, implies_true, forall_const, Int.reduceEq, Nat.reduceMul, ne_eq, not_true_eq_false, not_false_eq_true, false_implies, true_implies, Nat.left_eq_add, Nat.add_eq_left, g88, g102, g103, g105, g106, f88_18, f88_19, f88_29, f88_30, l28, nle, x1, x2, x3, l102, l103]
        exact ⟨rn, q⟩
    have q := loop n 0 (rs_up J 88 28 n) (by omega) (fun a j p1 p2 p3 => by rw [rs_up_at, if_neg (fun q => p3 q.1 q.2)]) (by simp [rs_up_at]) (fun j hj => by omega)
    simp only [rs_x_96_0, rs_x_96_1, rs_x_96_2, rs_x_96_5, rs_x_96_6, rs_x_96_7, rs_x_96_10, rs_x_96_13, rs_x_96_14, rs_x_96_15, rs_x_96_16, rs_x_96_19, rs_x_96_20, rs_x_96_23, rs_x_96_26, rs_x_96_27, rs_x_96_30, rs_x_96_31, rs_x_96_33, rs_x_96_34, rs_x_96_37, rs_x_96_40, rs_x_96_41, rs_x_96_44, rs_x_96_45, rs_x_96_46, rs_x_96_49, rs_x_96_50, rs_x_96_51, rs_x_96_52, rs_x_96_53, rs_x_96_56, rs_x_96_57, rs_x_96_58, rs_x_96_61, rs_x_96_62, rs_x_96_63, rs_x_96_64, rs_x_96_67, rs_x_96_70, rs_x_96_71, rs_cn_n, rs_cn_i, rs_cn_r, rs_cn_t, rs_up_at, Nat.reduceAdd, Nat.reduceEqDiff, Nat.reduceSub, Int.reduceToNat, Int.reduceNeg, Int.reduceLE, Int.reduceLT, Int.reduceAdd, Int.reduceSub, Int.reduceMul, Int.add_sub_cancel, List.length_cons, List.length_nil, Nat.reduceLeDiff, Nat.reduceLT, Int.cast_ofNat_Int, true_and, and_true, and_self, false_and, and_false, ↓reduceIte, Nat.zero_le, or_true, true_or, false_or, or_false, Nat.sub_zero, Int.toNat_natCast, Nat.le_refl, implies_true, forall_const, Int.reduceEq, Nat.reduceMul, ne_eq, not_true_eq_false, not_false_eq_true, false_implies, true_implies, Nat.left_eq_add, Nat.add_eq_left, g88, j1]
    exact q
  · rw [eG, eS, eQ, (emo f).1, (emo f).2] at br
    have q := h0 (rs_up J 88 28 0) (fun a j p1 p2 p3 p4 p5 p6 => by
      rw [rs_up_at, if_neg (fun q => (p6 q.1).2.2 q.2), fr.1 a j p1 p2 p3 (fun q => (p6 q).2.1), t0 a j (fun q => (p6 q).1)]) (by
      rw [rs_up_at, if_neg (by omega), fr.1 88 0 (by omega) (by omega) (by omega) (by omega), t00]) (by simp [rs_up_at]) br
    simp only [rs_x_96_0, rs_x_96_1, rs_x_96_2, rs_x_96_5, rs_x_96_6, rs_x_96_7, rs_x_96_10, rs_x_96_13, rs_x_96_14, rs_x_96_15, rs_x_96_16, rs_x_96_19, rs_x_96_20, rs_x_96_23, rs_x_96_26, rs_x_96_27, rs_x_96_30, rs_x_96_31, rs_x_96_33, rs_x_96_34, rs_x_96_37, rs_x_96_40, rs_x_96_41, rs_x_96_44, rs_x_96_45, rs_x_96_46, rs_x_96_49, rs_x_96_50, rs_x_96_51, rs_x_96_52, rs_x_96_53, rs_x_96_56, rs_x_96_57, rs_x_96_58, rs_x_96_61, rs_x_96_62, rs_x_96_63, rs_x_96_64, rs_x_96_67, rs_x_96_70, rs_x_96_71, rs_cn_n, rs_cn_i, rs_cn_r, rs_cn_t, rs_up_at, Nat.reduceAdd, Nat.reduceEqDiff, Nat.reduceSub, Int.reduceToNat, Int.reduceNeg, Int.reduceLE, Int.reduceLT, Int.reduceAdd, Int.reduceSub, Int.reduceMul, Int.add_sub_cancel, List.length_cons, List.length_nil, Nat.reduceLeDiff, Nat.reduceLT, Int.cast_ofNat_Int, true_and, and_true, and_self, false_and, and_false, ↓reduceIte, Nat.zero_le, or_true, true_or, false_or, or_false, Nat.sub_zero, Int.toNat_natCast, Nat.le_refl, implies_true, forall_const, Int.reduceEq, Nat.reduceMul, ne_eq, not_true_eq_false, not_false_eq_true, false_implies, true_implies, Nat.left_eq_add, Nat.add_eq_left, g88]
    rw [rs_x_96_32]
    simp only [rs_x_96_0, rs_x_96_1, rs_x_96_2, rs_x_96_5, rs_x_96_6, rs_x_96_7, rs_x_96_10, rs_x_96_13, rs_x_96_14, rs_x_96_15, rs_x_96_16, rs_x_96_19, rs_x_96_20, rs_x_96_23, rs_x_96_26, rs_x_96_27, rs_x_96_30, rs_x_96_31, rs_x_96_33, rs_x_96_34, rs_x_96_37, rs_x_96_40, rs_x_96_41, rs_x_96_44, rs_x_96_45, rs_x_96_46, rs_x_96_49, rs_x_96_50, rs_x_96_51, rs_x_96_52, rs_x_96_53, rs_x_96_56, rs_x_96_57, rs_x_96_58, rs_x_96_61, rs_x_96_62, rs_x_96_63, rs_x_96_64, rs_x_96_67, rs_x_96_70, rs_x_96_71, rs_cn_n, rs_cn_i, rs_cn_r, rs_cn_t, rs_up_at, Nat.reduceAdd, Nat.reduceEqDiff, Nat.reduceSub, Int.reduceToNat, Int.reduceNeg, Int.reduceLE, Int.reduceLT, Int.reduceAdd, Int.reduceSub, Int.reduceMul, Int.add_sub_cancel, List.length_cons, List.length_nil, Nat.reduceLeDiff, Nat.reduceLT, Int.cast_ofNat_Int, true_and, and_true, and_self, false_and, and_false, ↓reduceIte, Nat.zero_le, or_true, true_or, false_or, or_false, Nat.sub_zero, Int.toNat_natCast, Nat.le_refl, implies_true, forall_const, Int.reduceEq, Nat.reduceMul, ne_eq, not_true_eq_false, not_false_eq_true, false_implies, true_implies, Nat.left_eq_add, Nat.add_eq_left, g88]
    exact q
