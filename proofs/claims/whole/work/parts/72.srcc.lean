/-! ===== the class's searches as they are called ===== -/
theorem cl_fr2 {n : Nat} {I J : rs_M} (h : ∀ a j, (a < 33 ∨ 75 < a) → (a < 9 ∨ 11 < a) → J a j = I a j) (ok : cl_ok I n) : cl_ok J n ∧ (∀ m, cl_lo J m = cl_lo I m ∧ cl_hi J m = cl_hi I m) ∧ (∀ k, rg_ef J k = rg_ef I k) ∧ J 1 = I 1 := by
  obtain ⟨net, e6, e7, en, fi⟩ := ok
  have j1 : J 1 = I 1 := funext fun j => h _ _ (by omega) (by omega)
  have j3 : J 3 = I 3 := funext fun j => h _ _ (by omega) (by omega)
  have j4 : J 4 = I 4 := funext fun j => h _ _ (by omega) (by omega)
  have je : ∀ e, J (76 + e) = I (76 + e) := fun e => funext fun j => h _ _ (by omega) (by omega)
  refine ⟨⟨(nt_lo_eq (fun a j h1 h2 => h a j (by omega) h2) net).1, by rw [j1]; exact e6, by rw [j1]; exact e7, fun e he => ?_, fun j hj => by rw [j3, j4]; exact fi j hj⟩, fun m => ?_, fun k => ?_, j1⟩
  · rw [j1] at he
    rw [je]
    exact en e he
  · unfold cl_lo cl_hi
    have a0 : (fun e => J (76 + e) 0) = fun e => I (76 + e) 0 := funext fun e => by rw [je]
    have a1 : (fun e => J (76 + e) 1) = fun e => I (76 + e) 1 := funext fun e => by rw [je]
    have a2 : (fun e => J (76 + e) 2) = fun e => I (76 + e) 2 := funext fun e => by rw [je]
    rw [a0, a1, a2, j1, j3, j4]
    exact ⟨rfl, rfl⟩
  · induction k with
    | zero => rfl
    | succ k ih => unfold rg_ef; rw [ih, je]
/-- a search is begun: the first level stands -/
def sb_post (n L : Nat) (dn lim : Int) (I J : rs_M) : Prop := (∀ a j, (a < 9 ∨ 11 < a) → a ≠ 36 → a ≠ 37 → a ≠ 38 → a ≠ 39 → (a = 33 → j < 3 ∨ j = 4) → J a j = I a j) ∧ sr_ok J n L dn lim ∧ J 33 3 = 0 ∧ ((J 37 3 = 1 ∧ sF n (bx_all n (nt_G I) (nt_S I) (nt_Q I)) (nb n (cl_lo I (rg_ef I (I 1 7).toNat))) (nb n (cl_hi I (rg_ef I (I 1 7).toNat))) = none) ∨ (J 37 3 = 0 ∧ sF n (bx_all n (nt_G I) (nt_S I) (nt_Q I)) (nb n (cl_lo I (rg_ef I (I 1 7).toNat))) (nb n (cl_hi I (rg_ef I (I 1 7).toNat))) = some (nb n (J 38), nb n (J 39)) ∧ bx_ok 10 (J 38) (J 39) ∧ ∀ r, nt_G I r → bx_sup (nt_S I r) (nt_Q I r) (J 38) (J 39)))
set_option maxRecDepth 100000 in
set_option maxHeartbeats 2000000 in
theorem ct_beginSearch {u d n L : Nat} {dn lim : Int} {I : rs_M} {K : rs_K} (hd : 6 ≤ d) (ok : cl_ok I n) (hL : L < 10) (hLn : n = 0 ∨ L < n) (hdn : dn = 0 ∨ dn = 1) (hlim : 0 ≤ lim ∧ lim ≤ 300) (hK : ∀ J, sb_post n L dn lim I J → K none J) : rs_run u d 59 0 (rs_en0 [.inr (.inr 1), .inl (L : Int), .inl dn, .inl lim] 4) [] I K := by
  show rs_run u d 59 0 [some (.inr (.inr 1)), some (.inl (L : Int)), some (.inl dn), some (.inl lim)] [] I K
  have g1 : rs_sh 1 = (1, 7) := by decide +kernel
  have g6 : rs_sh 6 = (1, 1) := by decide +kernel
  have g33 : rs_sh 33 = (1, 4) := by decide +kernel
  have g34 : rs_sh 34 = (8, 11) := by decide +kernel
  have f1_2 : rs_rf 1 2 = 6 := by decide +kernel
  have f1_3 : rs_rf 1 3 = 33 := by decide +kernel
  have f33_0 : rs_rf 33 0 = 34 := by decide +kernel
  obtain ⟨l1, l2⟩ := gm_lev 0 (by omega)
  have l1' : rs_rf 34 0 = 37 := l1
  have l2' : rs_isR 37 := l2
  have hd0 : 0 < d := by omega
  have hd2 : 2 ≤ d - 1 := by omega
  have hd5 : 5 ≤ d - 1 := by omega
  have e6 := ok.2.1
  have hn := ok.1.1
  simp only [rs_x_59_0, rs_x_59_1, rs_x_59_4, rs_x_59_5, rs_x_59_8, rs_x_59_9, rs_x_59_10, rs_x_59_11, rs_x_59_14, rs_x_59_15, rs_x_59_16, rs_x_59_19, rs_x_59_20, rs_x_59_23, rs_x_59_26, rs_x_59_27, rs_x_59_28, rs_x_59_31, rs_x_59_32, rs_x_59_35, rs_x_59_36, rs_x_59_39, rs_x_59_42, rs_x_59_43, rs_x_59_44, rs_x_59_47, rs_cn_n, rs_cn_i, rs_cn_r, rs_cn_t, rs_up_at, Nat.reduceAdd, Nat.reduceEqDiff, Nat.reduceSub, Int.reduceToNat, Int.reduceNeg, Int.reduceLE, Int.reduceLT, Int.reduceAdd, Int.reduceSub, Int.reduceMul, Int.add_sub_cancel, List.length_cons, List.length_nil, Nat.reduceLeDiff, Nat.reduceLT, Int.cast_ofNat_Int, true_and, and_true, and_self, false_and, and_false, ↓reduceIte, Nat.zero_le, or_true, true_or, false_or, or_false, Nat.sub_zero, Int.toNat_natCast, Nat.le_refl, implies_true, forall_const, Int.reduceEq, Nat.reduceMul, ne_eq, not_true_eq_false, not_false_eq_true, false_implies, true_implies, Nat.left_eq_add, Nat.add_eq_left, g1, f1_3, e6, g33]
  refine ⟨hd0, ct_begin hn hL hLn hdn fun J f0 b3 b5 b6 b7 bo => ?_⟩
  obtain ⟨okJ, ecl, eef, ej1⟩ := cl_fr2 (I := I) (J := J) (fun a j h1 h2 => f0 a j (by omega) (by omega)) ok
  have e7 := okJ.2.2.1
  simp only [rs_x_59_0, rs_x_59_1, rs_x_59_4, rs_x_59_5, rs_x_59_8, rs_x_59_9, rs_x_59_10, rs_x_59_11, rs_x_59_14, rs_x_59_15, rs_x_59_16, rs_x_59_19, rs_x_59_20, rs_x_59_23, rs_x_59_26, rs_x_59_27, rs_x_59_28, rs_x_59_31, rs_x_59_32, rs_x_59_35, rs_x_59_36, rs_x_59_39, rs_x_59_42, rs_x_59_43, rs_x_59_44, rs_x_59_47, rs_cn_n, rs_cn_i, rs_cn_r, rs_cn_t, rs_up_at, Nat.reduceAdd, Nat.reduceEqDiff, Nat.reduceSub, Int.reduceToNat, Int.reduceNeg, Int.reduceLE, Int.reduceLT, Int.reduceAdd, Int.reduceSub, Int.reduceMul, Int.add_sub_cancel, List.length_cons, List.length_nil, Nat.reduceLeDiff, Nat.reduceLT, Int.cast_ofNat_Int, true_and, and_true, and_self, false_and, and_false, ↓reduceIte, Nat.zero_le, or_true, true_or, false_or, or_false, Nat.sub_zero, Int.toNat_natCast, Nat.le_refl, implies_true, forall_const, Int.reduceEq, Nat.reduceMul, ne_eq, not_true_eq_false, not_false_eq_true, false_implies, true_implies, Nat.left_eq_add, Nat.add_eq_left, g1]
  refine ⟨hd0, ct_entriesInForce e7 ?_⟩
  simp only [rs_x_59_0, rs_x_59_1, rs_x_59_4, rs_x_59_5, rs_x_59_8, rs_x_59_9, rs_x_59_10, rs_x_59_11, rs_x_59_14, rs_x_59_15, rs_x_59_16, rs_x_59_19, rs_x_59_20, rs_x_59_23, rs_x_59_26, rs_x_59_27, rs_x_59_28, rs_x_59_31, rs_x_59_32, rs_x_59_35, rs_x_59_36, rs_x_59_39, rs_x_59_42, rs_x_59_43, rs_x_59_44, rs_x_59_47, rs_cn_n, rs_cn_i, rs_cn_r, rs_cn_t, rs_up_at, Nat.reduceAdd, Nat.reduceEqDiff, Nat.reduceSub, Int.reduceToNat, Int.reduceNeg, Int.reduceLE, Int.reduceLT, Int.reduceAdd, Int.reduceSub, Int.reduceMul, Int.add_sub_cancel, List.length_cons, List.length_nil, Nat.reduceLeDiff, Nat.reduceLT, Int.cast_ofNat_Int, true_and, and_true, and_self, false_and, and_false, ↓reduceIte, Nat.zero_le, or_true, true_or, false_or, or_false, Nat.sub_zero, Int.toNat_natCast, Nat.le_refl, implies_true, forall_const, Int.reduceEq, Nat.reduceMul, ne_eq, not_true_eq_false, not_false_eq_true, false_implies, true_implies, Nat.left_eq_add, Nat.add_eq_left, g1, f1_3, g33, f33_0, g34, l1']
  refine ⟨hd0, ck_layOut hd2 l2' (by omega) (by omega) (rg_ef_b e7) okJ fun J1 p1 => ?_⟩
  simp only [rs_x_59_0, rs_x_59_1, rs_x_59_4, rs_x_59_5, rs_x_59_8, rs_x_59_9, rs_x_59_10, rs_x_59_11, rs_x_59_14, rs_x_59_15, rs_x_59_16, rs_x_59_19, rs_x_59_20, rs_x_59_23, rs_x_59_26, rs_x_59_27, rs_x_59_28, rs_x_59_31, rs_x_59_32, rs_x_59_35, rs_x_59_36, rs_x_59_39, rs_x_59_42, rs_x_59_43, rs_x_59_44, rs_x_59_47, rs_cn_n, rs_cn_i, rs_cn_r, rs_cn_t, rs_up_at, Nat.reduceAdd, Nat.reduceEqDiff, Nat.reduceSub, Int.reduceToNat, Int.reduceNeg, Int.reduceLE, Int.reduceLT, Int.reduceAdd, Int.reduceSub, Int.reduceMul, Int.add_sub_cancel, List.length_cons, List.length_nil, Nat.reduceLeDiff, Nat.reduceLT, Int.cast_ofNat_Int, true_and, and_true, and_self, false_and, and_false, ↓reduceIte, Nat.zero_le, or_true, true_or, false_or, or_false, Nat.sub_zero, Int.toNat_natCast, Nat.le_refl, implies_true, forall_const, Int.reduceEq, Nat.reduceMul, ne_eq, not_true_eq_false, not_false_eq_true, false_implies, true_implies, Nat.left_eq_add, Nat.add_eq_left, g1, f1_2, f1_3, g33, f33_0, g34, l1', g6]
  refine ⟨hd0, ck_settle hd5 l2' (by omega) okJ p1 fun J2 p2 => ?_⟩
  have f2 : ∀ a j, (a < 9 ∨ 11 < a) → a ≠ 37 → a ≠ 38 → a ≠ 39 → J2 a j = J a j := fun a j h1 h2 h3 h4 => p2.1 a j h2 h3 h4 h1
  have z := hK J2 ⟨fun a j h1 h2 h3 h4 h5 h6 => by rw [f2 a j h1 h3 h4 h5, f0 a j h2 h6], ⟨by rw [f2 33 5 (by omega) (by omega) (by omega) (by omega), b5], by rw [f2 33 6 (by omega) (by omega) (by omega) (by omega), b6], by rw [f2 33 7 (by omega) (by omega) (by omega) (by omega), b7], fun k hk => by rw [f2 36 k (by omega) (by omega) (by omega) (by omega), bo k hk], hdn, hlim, hL, hLn⟩, by rw [f2 33 3 (by omega) (by omega) (by omega) (by omega), b3], by
    obtain ⟨_, gJ, sJ⟩ := nt_lo_eq (I := I) (J := J) (fun a j h1 h2 => f0 a j (by omega) (by omega)) ok.1
    have aJ := nt_A (I := I) (J := J) (fun a j h1 h2 => f0 a j (by omega) (by omega)) ok.1
    have h := p2.2
    rw [eef, ej1, (ecl _).1, (ecl _).2] at h
    rcases h with ⟨h1, h2⟩ | ⟨h1, h2, h3⟩
    · have h2' : ∀ l g, bx_all n (nt_G J) (nt_S J) (nt_Q J) l g → ¬ bx_le n (cl_lo I (rg_ef I (I 1 7).toNat)) (cl_hi I (rg_ef I (I 1 7).toNat)) l g := h2
      rw [aJ] at h2'
      exact Or.inl ⟨h1, sF_brk (fun j hj => ⟨(nb_at hj).symm, (nb_at hj).symm⟩) h2'⟩
    · have h2' : sfix n (bx_all n (nt_G J) (nt_S J) (nt_Q J)) (cl_lo I (rg_ef I (I 1 7).toNat)) (cl_hi I (rg_ef I (I 1 7).toNat)) (J2 38) (J2 39) := h2
      rw [aJ] at h2'
      exact Or.inr ⟨h1, sF_fix (fun j hj => ⟨(nb_at hj).symm, (nb_at hj).symm⟩) h2', h3, fun r hr => h2'.2.1.2 r hr⟩⟩
  simp only [rs_x_59_0, rs_x_59_1, rs_x_59_4, rs_x_59_5, rs_x_59_8, rs_x_59_9, rs_x_59_10, rs_x_59_11, rs_x_59_14, rs_x_59_15, rs_x_59_16, rs_x_59_19, rs_x_59_20, rs_x_59_23, rs_x_59_26, rs_x_59_27, rs_x_59_28, rs_x_59_31, rs_x_59_32, rs_x_59_35, rs_x_59_36, rs_x_59_39, rs_x_59_42, rs_x_59_43, rs_x_59_44, rs_x_59_47, rs_cn_n, rs_cn_i, rs_cn_r, rs_cn_t, rs_up_at, Nat.reduceAdd, Nat.reduceEqDiff, Nat.reduceSub, Int.reduceToNat, Int.reduceNeg, Int.reduceLE, Int.reduceLT, Int.reduceAdd, Int.reduceSub, Int.reduceMul, Int.add_sub_cancel, List.length_cons, List.length_nil, Nat.reduceLeDiff, Nat.reduceLT, Int.cast_ofNat_Int, true_and, and_true, and_self, false_and, and_false, ↓reduceIte, Nat.zero_le, or_true, true_or, false_or, or_false, Nat.sub_zero, Int.toNat_natCast, Nat.le_refl, implies_true, forall_const, Int.reduceEq, Nat.reduceMul, ne_eq, not_true_eq_false, not_false_eq_true, false_implies, true_implies, Nat.left_eq_add, Nat.add_eq_left]
  exact z
def cs_post (n : Nat) (I J : rs_M) (r : so_R) : Prop := (∀ a j, (a < 9 ∨ 11 < a) → a ≠ 35 → a ≠ 36 → (a < 37 ∨ 69 < a) → (a = 33 → j < 2 ∨ j = 4) → J a j = I a j) ∧ J 33 3 = r.2.1 ∧ (r.1 = 1 → J 33 2 = (n : Int) ∧ ∀ j, j < n → J 35 j = r.2.2 j ∧ -100 ≤ J 35 j ∧ J 35 j ≤ 100) ∧ (r.1 ≠ 1 → J 33 2 = I 33 2 ∧ ∀ j, J 35 j = I 35 j)
/-- exploring from the first level -/
theorem ck_explore {u d n L : Nat} {dn lim : Int} {I J : rs_M} {K : rs_K} (hd : 18 ≤ d) (ok : cl_ok I n) (hJ : sb_post n L dn lim I J) (hlim : 0 ≤ lim) (hK : ∀ N, cs_post n I N (so_top n (bx_all n (nt_G I) (nt_S I) (nt_Q I)) L dn lim (cl_lo I (rg_ef I (I 1 7).toNat)) (cl_hi I (rg_ef I (I 1 7).toNat))) → K (some (.inl (so_top n (bx_all n (nt_G I) (nt_S I) (nt_Q I)) L dn lim (cl_lo I (rg_ef I (I 1 7).toNat)) (cl_hi I (rg_ef I (I 1 7).toNat))).1)) N) : rs_run u d 29 0 (rs_en0 [.inr (.inr 33), .inr (.inr 6), .inl 0] 10) [] J K := by
  obtain ⟨f0, sr, j3, hj⟩ := hJ
  have hlo : ∀ a j, a < 33 → (a < 9 ∨ 11 < a) → J a j = I a j := fun a j h1 h2 => f0 a j h2 (by omega) (by omega) (by omega) (by omega) (by omega)
  obtain ⟨netJ, gJ, sJ⟩ := nt_lo_eq hlo ok.1
  have aJ := nt_A hlo ok.1
  rcases hj with ⟨b1, e⟩ | ⟨b0, e, bok, bsup⟩
  · have et : so_top n (bx_all n (nt_G I) (nt_S I) (nt_Q I)) L dn lim (cl_lo I (rg_ef I (I 1 7).toNat)) (cl_hi I (rg_ef I (I 1 7).toNat)) = (0, 0, fun _ => 0) := by unfold so_top; rw [e]
    rw [et] at hK
    refine ct_explore0 (x := 0) (by omega) b1 (hK J ⟨fun a j h1 h2 h3 h4 h5 => f0 a j h1 h3 (by omega) (by omega) (by omega) (fun q => by have := h5 q; omega), j3, fun q => absurd q (by show ¬ (0 : Int) = 1; decide), fun _ => ⟨f0 33 2 (by omega) (by omega) (by omega) (by omega) (by omega) (by omega), fun j => f0 35 j (by omega) (by omega) (by omega) (by omega) (by omega) (by omega)⟩⟩)
  · have et : so_top n (bx_all n (nt_G I) (nt_S I) (nt_Q I)) L dn lim (cl_lo I (rg_ef I (I 1 7).toNat)) (cl_hi I (rg_ef I (I 1 7).toNat)) = so_s n (bx_all n (nt_G I) (nt_S I) (nt_Q I)) L dn lim 10 (nb n (J 38)) (nb n (J 39)) 0 := by unfold so_top; rw [e]
    rw [et] at hK
    refine ct_explore 10 0 (by omega) (by omega) netJ sr (by rw [j3]; omega) b0 bok (fun r hr => by
      rw [gJ] at hr
      rw [(sJ r hr).1, (sJ r hr).2]
      exact bsup r hr) (fun N hN _ => ?_)
    rw [aJ, j3] at hN ⊢
    obtain ⟨n1, n2, n3, n4⟩ := hN
    refine hK N ⟨fun a j h1 h2 h3 h4 h5 => ?_, n2, n3, fun q => ⟨?_, fun j => ?_⟩⟩
    · rw [n1 a j h1 h2 (fun q => by have := h5 q; omega) (by omega)]
      exact f0 a j h1 h3 (by omega) (by omega) (by omega) (fun q => by have := h5 q; omega)
    · rw [(n4 q).1]
      exact f0 33 2 (by omega) (by omega) (by omega) (by omega) (by omega) (by omega)
    · rw [(n4 q).2 j]
      exact f0 35 j (by omega) (by omega) (by omega) (by omega) (by omega) (by omega)
set_option maxRecDepth 100000 in
set_option maxHeartbeats 2000000 in
theorem ct_solve {u d n : Nat} {lim : Int} {I : rs_M} {K : rs_K} (hu : 1 ≤ u) (hd : 20 ≤ d) (ok : cl_ok I n) (ht : ¬ (0 ≤ lim ∧ lim ≤ 300) → K (some (.inr (.inl 1))) I) (hK : (0 ≤ lim ∧ lim ≤ 300) → ∀ N, cs_post n I N (so_top n (bx_all n (nt_G I) (nt_S I) (nt_Q I)) 0 0 lim (cl_lo I (rg_ef I (I 1 7).toNat)) (cl_hi I (rg_ef I (I 1 7).toNat))) → K (some (.inl (so_top n (bx_all n (nt_G I) (nt_S I) (nt_Q I)) 0 0 lim (cl_lo I (rg_ef I (I 1 7).toNat)) (cl_hi I (rg_ef I (I 1 7).toNat))).1)) N) : rs_run u d 45 0 (rs_en0 [.inr (.inr 1), .inl lim] 2) [] I K := by
  show rs_run u d 45 0 [some (.inr (.inr 1)), some (.inl lim)] [] I K
  have g1 : rs_sh 1 = (1, 7) := by decide +kernel
  have g33 : rs_sh 33 = (1, 4) := by decide +kernel
  have f1_2 : rs_rf 1 2 = 6 := by decide +kernel
  have f1_3 : rs_rf 1 3 = 33 := by decide +kernel
  have hd0 : 0 < d := by omega
  simp only [rs_x_45_0, rs_x_45_1, rs_x_45_4, rs_x_45_7, rs_x_45_17, rs_x_45_18, rs_x_45_19, rs_x_45_20, rs_x_45_21, rs_x_45_24, rs_x_45_25, rs_x_45_28, rs_x_45_29, rs_x_45_32, rs_x_45_33, rs_x_45_36, rs_cn_n, rs_cn_i, rs_cn_r, rs_cn_t, rs_up_at, Nat.reduceAdd, Nat.reduceEqDiff, Nat.reduceSub, Int.reduceToNat, Int.reduceNeg, Int.reduceLE, Int.reduceLT, Int.reduceAdd, Int.reduceSub, Int.reduceMul, Int.add_sub_cancel, List.length_cons, List.length_nil, Nat.reduceLeDiff, Nat.reduceLT, Int.cast_ofNat_Int, true_and, and_true, and_self, false_and, and_false, ↓reduceIte, Nat.zero_le, or_true, true_or, false_or, or_false, Nat.sub_zero, Int.toNat_natCast, Nat.le_refl, implies_true, forall_const, Int.reduceEq, Nat.reduceMul, ne_eq, not_true_eq_false, not_false_eq_true, false_implies, true_implies, Nat.left_eq_add, Nat.add_eq_left, g1]
  refine ⟨hd0, cb_isLimit (fun a b => ?_) (fun a => ?_)⟩
  · simp only [rs_x_45_0, rs_x_45_1, rs_x_45_4, rs_x_45_7, rs_x_45_17, rs_x_45_18, rs_x_45_19, rs_x_45_20, rs_x_45_21, rs_x_45_24, rs_x_45_25, rs_x_45_28, rs_x_45_29, rs_x_45_32, rs_x_45_33, rs_x_45_36, rs_cn_n, rs_cn_i, rs_cn_r, rs_cn_t, rs_up_at, Nat.reduceAdd, Nat.reduceEqDiff, Nat.reduceSub, Int.reduceToNat, Int.reduceNeg, Int.reduceLE, Int.reduceLT, Int.reduceAdd, Int.reduceSub, Int.reduceMul, Int.add_sub_cancel, List.length_cons, List.length_nil, Nat.reduceLeDiff, Nat.reduceLT, Int.cast_ofNat_Int, true_and, and_true, and_self, false_and, and_false, ↓reduceIte, Nat.zero_le, or_true, true_or, false_or, or_false, Nat.sub_zero, Int.toNat_natCast, Nat.le_refl, implies_true, forall_const, Int.reduceEq, Nat.reduceMul, ne_eq, not_true_eq_false, not_false_eq_true, false_implies, true_implies, Nat.left_eq_add, Nat.add_eq_left, g1]
    refine ⟨hd0, ct_beginSearch (L := 0) (by omega) ok (by omega) (by omega) (Or.inl rfl) ⟨a, b⟩ fun J hJ => ?_⟩
    simp only [rs_x_45_0, rs_x_45_1, rs_x_45_4, rs_x_45_7, rs_x_45_17, rs_x_45_18, rs_x_45_19, rs_x_45_20, rs_x_45_21, rs_x_45_24, rs_x_45_25, rs_x_45_28, rs_x_45_29, rs_x_45_32, rs_x_45_33, rs_x_45_36, rs_cn_n, rs_cn_i, rs_cn_r, rs_cn_t, rs_up_at, Nat.reduceAdd, Nat.reduceEqDiff, Nat.reduceSub, Int.reduceToNat, Int.reduceNeg, Int.reduceLE, Int.reduceLT, Int.reduceAdd, Int.reduceSub, Int.reduceMul, Int.add_sub_cancel, List.length_cons, List.length_nil, Nat.reduceLeDiff, Nat.reduceLT, Int.cast_ofNat_Int, true_and, and_true, and_self, false_and, and_false, ↓reduceIte, Nat.zero_le, or_true, true_or, false_or, or_false, Nat.sub_zero, Int.toNat_natCast, Nat.le_refl, implies_true, forall_const, Int.reduceEq, Nat.reduceMul, ne_eq, not_true_eq_false, not_false_eq_true, false_implies, true_implies, Nat.left_eq_add, Nat.add_eq_left, g1, f1_2, f1_3, g33]
    refine ⟨hd0, ck_explore (by omega) ok hJ a fun N hN => ?_⟩
    have z := hK ⟨a, b⟩ N hN
    simp only [rs_x_45_0, rs_x_45_1, rs_x_45_4, rs_x_45_7, rs_x_45_17, rs_x_45_18, rs_x_45_19, rs_x_45_20, rs_x_45_21, rs_x_45_24, rs_x_45_25, rs_x_45_28, rs_x_45_29, rs_x_45_32, rs_x_45_33, rs_x_45_36, rs_cn_n, rs_cn_i, rs_cn_r, rs_cn_t, rs_up_at, Nat.reduceAdd, Nat.reduceEqDiff, Nat.reduceSub, Int.reduceToNat, Int.reduceNeg, Int.reduceLE, Int.reduceLT, Int.reduceAdd, Int.reduceSub, Int.reduceMul, Int.add_sub_cancel, List.length_cons, List.length_nil, Nat.reduceLeDiff, Nat.reduceLT, Int.cast_ofNat_Int, true_and, and_true, and_self, false_and, and_false, ↓reduceIte, Nat.zero_le, or_true, true_or, false_or, or_false, Nat.sub_zero, Int.toNat_natCast, Nat.le_refl, implies_true, forall_const, Int.reduceEq, Nat.reduceMul, ne_eq, not_true_eq_false, not_false_eq_true, false_implies, true_implies, Nat.left_eq_add, Nat.add_eq_left]
    exact z
  · have z := ht a
    simp only [rs_x_45_0, rs_x_45_1, rs_x_45_4, rs_x_45_7, rs_x_45_17, rs_x_45_18, rs_x_45_19, rs_x_45_20, rs_x_45_21, rs_x_45_24, rs_x_45_25, rs_x_45_28, rs_x_45_29, rs_x_45_32, rs_x_45_33, rs_x_45_36, rs_cn_n, rs_cn_i, rs_cn_r, rs_cn_t, rs_up_at, Nat.reduceAdd, Nat.reduceEqDiff, Nat.reduceSub, Int.reduceToNat, Int.reduceNeg, Int.reduceLE, Int.reduceLT, Int.reduceAdd, Int.reduceSub, Int.reduceMul, Int.add_sub_cancel, List.length_cons, List.length_nil, Nat.reduceLeDiff, Nat.reduceLT, Int.cast_ofNat_Int, true_and, and_true, and_self, false_and, and_false, ↓reduceIte, Nat.zero_le, or_true, true_or, false_or, or_false, Nat.sub_zero, Int.toNat_natCast, Nat.le_refl, implies_true, forall_const, Int.reduceEq, Nat.reduceMul, ne_eq, not_true_eq_false, not_false_eq_true, false_implies, true_implies, Nat.left_eq_add, Nat.add_eq_left, g1]
    repeat' (first
    | refine And.intro ?_ ?_
    | (guard_target =~ (_ → _); intro)
    | omega
    | (unfold rs_R; omega)
    | exact z
    | decide)
set_option maxRecDepth 100000 in
set_option maxHeartbeats 2000000 in
theorem ct_least {u d n : Nat} {c lim : Int} {I : rs_M} {K : rs_K} (hu : 1 ≤ u) (hd : 20 ≤ d) (ok : cl_ok I n) (ht : ¬ ((0 ≤ c ∧ c < n) ∧ (0 ≤ lim ∧ lim ≤ 300)) → K (some (.inr (.inl 1))) I) (hK : (0 ≤ c ∧ c < n) → (0 ≤ lim ∧ lim ≤ 300) → ∀ N, cs_post n I N (so_top n (bx_all n (nt_G I) (nt_S I) (nt_Q I)) c.toNat 0 lim (cl_lo I (rg_ef I (I 1 7).toNat)) (cl_hi I (rg_ef I (I 1 7).toNat))) → K (some (.inl (if (so_top n (bx_all n (nt_G I) (nt_S I) (nt_Q I)) c.toNat 0 lim (cl_lo I (rg_ef I (I 1 7).toNat)) (cl_hi I (rg_ef I (I 1 7).toNat))).1 = 1 then (so_top n (bx_all n (nt_G I) (nt_S I) (nt_Q I)) c.toNat 0 lim (cl_lo I (rg_ef I (I 1 7).toNat)) (cl_hi I (rg_ef I (I 1 7).toNat))).2.2 c.toNat else -1000))) N) : rs_run u d 46 0 (rs_en0 [.inr (.inr 1), .inl c, .inl lim] 3) [] I K := by
  show rs_run u d 46 0 [some (.inr (.inr 1)), some (.inl c), some (.inl lim)] [] I K
  have g1 : rs_sh 1 = (1, 7) := by decide +kernel
  have g33 : rs_sh 33 = (1, 4) := by decide +kernel
  have g35 : rs_sh 35 = (2, 10) := by decide +kernel
  have f1_2 : rs_rf 1 2 = 6 := by decide +kernel
  have f1_3 : rs_rf 1 3 = 33 := by decide +kernel
  have f33_1 : rs_rf 33 1 = 35 := by decide +kernel
  have hd0 : 0 < d := by omega
  have e6 := ok.2.1
  have hn := ok.1.1
  simp only [rs_x_46_0, rs_x_46_1, rs_x_46_2, rs_x_46_5, rs_x_46_8, rs_x_46_9, rs_x_46_12, rs_x_46_15, rs_x_46_25, rs_x_46_26, rs_x_46_27, rs_x_46_28, rs_x_46_29, rs_x_46_32, rs_x_46_33, rs_x_46_36, rs_x_46_37, rs_x_46_40, rs_x_46_41, rs_x_46_44, rs_x_46_45, rs_x_46_48, rs_x_46_49, rs_x_46_52, rs_x_46_55, rs_x_46_56, rs_x_46_57, rs_x_46_60, rs_x_46_63, rs_cn_n, rs_cn_i, rs_cn_r, rs_cn_t, rs_up_at, Nat.reduceAdd, Nat.reduceEqDiff, Nat.reduceSub, Int.reduceToNat, Int.reduceNeg, Int.reduceLE, Int.reduceLT, Int.reduceAdd, Int.reduceSub, Int.reduceMul, Int.add_sub_cancel, List.length_cons, List.length_nil, Nat.reduceLeDiff, Nat.reduceLT, Int.cast_ofNat_Int, true_and, and_true, and_self, false_and, and_false, ↓reduceIte, Nat.zero_le, or_true, true_or, false_or, or_false, Nat.sub_zero, Int.toNat_natCast, Nat.le_refl, implies_true, forall_const, Int.reduceEq, Nat.reduceMul, ne_eq, not_true_eq_false, not_false_eq_true, false_implies, true_implies, Nat.left_eq_add, Nat.add_eq_left, g1]
  refine ⟨hd0, cb_isCell (fun c1 c2 => ?_) (fun c1 => ?_)⟩
  · rw [e6] at c2
    have ec : c = (c.toNat : Int) := by omega
    have c10 : c < 10 := by omega
    simp only [rs_x_46_0, rs_x_46_1, rs_x_46_2, rs_x_46_5, rs_x_46_8, rs_x_46_9, rs_x_46_12, rs_x_46_15, rs_x_46_25, rs_x_46_26, rs_x_46_27, rs_x_46_28, rs_x_46_29, rs_x_46_32, rs_x_46_33, rs_x_46_36, rs_x_46_37, rs_x_46_40, rs_x_46_41, rs_x_46_44, rs_x_46_45, rs_x_46_48, rs_x_46_49, rs_x_46_52, rs_x_46_55, rs_x_46_56, rs_x_46_57, rs_x_46_60, rs_x_46_63, rs_cn_n, rs_cn_i, rs_cn_r, rs_cn_t, rs_up_at, Nat.reduceAdd, Nat.reduceEqDiff, Nat.reduceSub, Int.reduceToNat, Int.reduceNeg, Int.reduceLE, Int.reduceLT, Int.reduceAdd, Int.reduceSub, Int.reduceMul, Int.add_sub_cancel, List.length_cons, List.length_nil, Nat.reduceLeDiff, Nat.reduceLT, Int.cast_ofNat_Int, true_and, and_true, and_self, false_and, and_false, ↓reduceIte, Nat.zero_le, or_true, true_or, false_or, or_false, Nat.sub_zero, Int.toNat_natCast, Nat.le_refl, implies_true, forall_const, Int.reduceEq, Nat.reduceMul, ne_eq, not_true_eq_false, not_false_eq_true, false_implies, true_implies, Nat.left_eq_add, Nat.add_eq_left, g1]
    refine ⟨hd0, cb_isLimit (fun a b => ?_) (fun a => ?_)⟩
    · have hK := hK ⟨c1, c2⟩ ⟨a, b⟩
      simp only [rs_x_46_0, rs_x_46_1, rs_x_46_2, rs_x_46_5, rs_x_46_8, rs_x_46_9, rs_x_46_12, rs_x_46_15, rs_x_46_25, rs_x_46_26, rs_x_46_27, rs_x_46_28, rs_x_46_29, rs_x_46_32, rs_x_46_33, rs_x_46_36, rs_x_46_37, rs_x_46_40, rs_x_46_41, rs_x_46_44, rs_x_46_45, rs_x_46_48, rs_x_46_49, rs_x_46_52, rs_x_46_55, rs_x_46_56, rs_x_46_57, rs_x_46_60, rs_x_46_63, rs_cn_n, rs_cn_i, rs_cn_r, rs_cn_t, rs_up_at, Nat.reduceAdd, Nat.reduceEqDiff, Nat.reduceSub, Int.reduceToNat, Int.reduceNeg, Int.reduceLE, Int.reduceLT, Int.reduceAdd, Int.reduceSub, Int.reduceMul, Int.add_sub_cancel, List.length_cons, List.length_nil, Nat.reduceLeDiff, Nat.reduceLT, Int.cast_ofNat_Int, true_and, and_true, and_self, false_and, and_false, ↓reduceIte, Nat.zero_le, or_true, true_or, false_or, or_false, Nat.sub_zero, Int.toNat_natCast, Nat.le_refl, implies_true, forall_const, Int.reduceEq, Nat.reduceMul, ne_eq, not_true_eq_false, not_false_eq_true, false_implies, true_implies, Nat.left_eq_add, Nat.add_eq_left, g1]
      refine ⟨hd0, ?_⟩
      have bs := fun (K' : rs_K) (h : ∀ J, sb_post n c.toNat 0 lim I J → K' none J) => ct_beginSearch (u := 0) (d := d - 1) (L := c.toNat) (dn := 0) (lim := lim) (I := I) (K := K') (by omega) ok (by omega) (by omega) (Or.inl rfl) ⟨a, b⟩ h
      rw [← ec] at bs
      refine bs _ fun J hJ => ?_
      simp only [rs_x_46_0, rs_x_46_1, rs_x_46_2, rs_x_46_5, rs_x_46_8, rs_x_46_9, rs_x_46_12, rs_x_46_15, rs_x_46_25, rs_x_46_26, rs_x_46_27, rs_x_46_28, rs_x_46_29, rs_x_46_32, rs_x_46_33, rs_x_46_36, rs_x_46_37, rs_x_46_40, rs_x_46_41, rs_x_46_44, rs_x_46_45, rs_x_46_48, rs_x_46_49, rs_x_46_52, rs_x_46_55, rs_x_46_56, rs_x_46_57, rs_x_46_60, rs_x_46_63, rs_cn_n, rs_cn_i, rs_cn_r, rs_cn_t, rs_up_at, Nat.reduceAdd, Nat.reduceEqDiff, Nat.reduceSub, Int.reduceToNat, Int.reduceNeg, Int.reduceLE, Int.reduceLT, Int.reduceAdd, Int.reduceSub, Int.reduceMul, Int.add_sub_cancel, List.length_cons, List.length_nil, Nat.reduceLeDiff, Nat.reduceLT, Int.cast_ofNat_Int, true_and, and_true, and_self, false_and, and_false, ↓reduceIte, Nat.zero_le, or_true, true_or, false_or, or_false, Nat.sub_zero, Int.toNat_natCast, Nat.le_refl, implies_true, forall_const, Int.reduceEq, Nat.reduceMul, ne_eq, not_true_eq_false, not_false_eq_true, false_implies, true_implies, Nat.left_eq_add, Nat.add_eq_left, g1, f1_2, f1_3, g33]
      refine ⟨hd0, ck_explore (by omega) ok hJ a fun N hN => ?_⟩
      have z := hK N hN
      generalize so_top n (bx_all n (nt_G I) (nt_S I) (nt_Q I)) c.toNat 0 lim (cl_lo I (rg_ef I (I 1 7).toNat)) (cl_hi I (rg_ef I (I 1 7).toNat)) = R at hN z ⊢
      by_cases g : R.1 = 1
      · rw [if_pos g] at z
        have js := ((hN.2.2.1 g).2 c.toNat (by omega)).1
        simp only [rs_x_46_0, rs_x_46_1, rs_x_46_2, rs_x_46_5, rs_x_46_8, rs_x_46_9, rs_x_46_12, rs_x_46_15, rs_x_46_25, rs_x_46_26, rs_x_46_27, rs_x_46_28, rs_x_46_29, rs_x_46_32, rs_x_46_33, rs_x_46_36, rs_x_46_37, rs_x_46_40, rs_x_46_41, rs_x_46_44, rs_x_46_45, rs_x_46_48, rs_x_46_49, rs_x_46_52, rs_x_46_55, rs_x_46_56, rs_x_46_57, rs_x_46_60, rs_x_46_63, rs_cn_n, rs_cn_i, rs_cn_r, rs_cn_t, rs_up_at, Nat.reduceAdd, Nat.reduceEqDiff, Nat.reduceSub, Int.reduceToNat, Int.reduceNeg, Int.reduceLE, Int.reduceLT, Int.reduceAdd, Int.reduceSub, Int.reduceMul, Int.add_sub_cancel, List.length_cons, List.length_nil, Nat.reduceLeDiff, Nat.reduceLT, Int.cast_ofNat_Int, true_and, and_true, and_self, false_and, and_false, ↓reduceIte, Nat.zero_le, or_true, true_or, false_or, or_false, Nat.sub_zero, Int.toNat_natCast, Nat.le_refl, implies_true, forall_const, Int.reduceEq, Nat.reduceMul, ne_eq, not_true_eq_false, not_false_eq_true, false_implies, true_implies, Nat.left_eq_add, Nat.add_eq_left, g1, f1_3, g33, f33_1, g35, g, c1, c10, js]
        exact z
      · rw [if_neg g] at z
        simp only [rs_x_46_0, rs_x_46_1, rs_x_46_2, rs_x_46_5, rs_x_46_8, rs_x_46_9, rs_x_46_12, rs_x_46_15, rs_x_46_25, rs_x_46_26, rs_x_46_27, rs_x_46_28, rs_x_46_29, rs_x_46_32, rs_x_46_33, rs_x_46_36, rs_x_46_37, rs_x_46_40, rs_x_46_41, rs_x_46_44, rs_x_46_45, rs_x_46_48, rs_x_46_49, rs_x_46_52, rs_x_46_55, rs_x_46_56, rs_x_46_57, rs_x_46_60, rs_x_46_63, rs_cn_n, rs_cn_i, rs_cn_r, rs_cn_t, rs_up_at, Nat.reduceAdd, Nat.reduceEqDiff, Nat.reduceSub, Int.reduceToNat, Int.reduceNeg, Int.reduceLE, Int.reduceLT, Int.reduceAdd, Int.reduceSub, Int.reduceMul, Int.add_sub_cancel, List.length_cons, List.length_nil, Nat.reduceLeDiff, Nat.reduceLT, Int.cast_ofNat_Int, true_and, and_true, and_self, false_and, and_false, ↓reduceIte, Nat.zero_le, or_true, true_or, false_or, or_false, Nat.sub_zero, Int.toNat_natCast, Nat.le_refl, implies_true, forall_const, Int.reduceEq, Nat.reduceMul, ne_eq, not_true_eq_false, not_false_eq_true, false_implies, true_implies, Nat.left_eq_add, Nat.add_eq_left, g1, g]
        exact z
    · have z := ht (fun q => a q.2)
      simp only [rs_x_46_0, rs_x_46_1, rs_x_46_2, rs_x_46_5, rs_x_46_8, rs_x_46_9, rs_x_46_12, rs_x_46_15, rs_x_46_25, rs_x_46_26, rs_x_46_27, rs_x_46_28, rs_x_46_29, rs_x_46_32, rs_x_46_33, rs_x_46_36, rs_x_46_37, rs_x_46_40, rs_x_46_41, rs_x_46_44, rs_x_46_45, rs_x_46_48, rs_x_46_49, rs_x_46_52, rs_x_46_55, rs_x_46_56, rs_x_46_57, rs_x_46_60, rs_x_46_63, rs_cn_n, rs_cn_i, rs_cn_r, rs_cn_t, rs_up_at, Nat.reduceAdd, Nat.reduceEqDiff, Nat.reduceSub, Int.reduceToNat, Int.reduceNeg, Int.reduceLE, Int.reduceLT, Int.reduceAdd, Int.reduceSub, Int.reduceMul, Int.add_sub_cancel, List.length_cons, List.length_nil, Nat.reduceLeDiff, Nat.reduceLT, Int.cast_ofNat_Int, true_and, and_true, and_self, false_and, and_false, ↓reduceIte, Nat.zero_le, or_true, true_or, false_or, or_false, Nat.sub_zero, Int.toNat_natCast, Nat.le_refl, implies_true, forall_const, Int.reduceEq, Nat.reduceMul, ne_eq, not_true_eq_false, not_false_eq_true, false_implies, true_implies, Nat.left_eq_add, Nat.add_eq_left, g1]
      repeat' (first
    | refine And.intro ?_ ?_
    | (guard_target =~ (_ → _); intro)
    | omega
    | (unfold rs_R; omega)
    | exact z
    | decide)
  · rw [e6] at c1
    have z := ht (fun q => c1 q.1)
    simp only [rs_x_46_0, rs_x_46_1, rs_x_46_2, rs_x_46_5, rs_x_46_8, rs_x_46_9, rs_x_46_12, rs_x_46_15, rs_x_46_25, rs_x_46_26, rs_x_46_27, rs_x_46_28, rs_x_46_29, rs_x_46_32, rs_x_46_33, rs_x_46_36, rs_x_46_37, rs_x_46_40, rs_x_46_41, rs_x_46_44, rs_x_46_45, rs_x_46_48, rs_x_46_49, rs_x_46_52, rs_x_46_55, rs_x_46_56, rs_x_46_57, rs_x_46_60, rs_x_46_63, rs_cn_n, rs_cn_i, rs_cn_r, rs_cn_t, rs_up_at, Nat.reduceAdd, Nat.reduceEqDiff, Nat.reduceSub, Int.reduceToNat, Int.reduceNeg, Int.reduceLE, Int.reduceLT, Int.reduceAdd, Int.reduceSub, Int.reduceMul, Int.add_sub_cancel, List.length_cons, List.length_nil, Nat.reduceLeDiff, Nat.reduceLT, Int.cast_ofNat_Int, true_and, and_true, and_self, false_and, and_false, ↓reduceIte, Nat.zero_le, or_true, true_or, false_or, or_false, Nat.sub_zero, Int.toNat_natCast, Nat.le_refl, implies_true, forall_const, Int.reduceEq, Nat.reduceMul, ne_eq, not_true_eq_false, not_false_eq_true, false_implies, true_implies, Nat.left_eq_add, Nat.add_eq_left, g1]
    repeat' (first
    | refine And.intro ?_ ?_
    | (guard_target =~ (_ → _); intro)
    | omega
    | (unfold rs_R; omega)
    | exact z
    | decide)
set_option maxRecDepth 100000 in
set_option maxHeartbeats 2000000 in
theorem ct_greatest {u d n : Nat} {c lim : Int} {I : rs_M} {K : rs_K} (hu : 1 ≤ u) (hd : 20 ≤ d) (ok : cl_ok I n) (ht : ¬ ((0 ≤ c ∧ c < n) ∧ (0 ≤ lim ∧ lim ≤ 300)) → K (some (.inr (.inl 1))) I) (hK : (0 ≤ c ∧ c < n) → (0 ≤ lim ∧ lim ≤ 300) → ∀ N, cs_post n I N (so_top n (bx_all n (nt_G I) (nt_S I) (nt_Q I)) c.toNat 1 lim (cl_lo I (rg_ef I (I 1 7).toNat)) (cl_hi I (rg_ef I (I 1 7).toNat))) → K (some (.inl (if (so_top n (bx_all n (nt_G I) (nt_S I) (nt_Q I)) c.toNat 1 lim (cl_lo I (rg_ef I (I 1 7).toNat)) (cl_hi I (rg_ef I (I 1 7).toNat))).1 = 1 then (so_top n (bx_all n (nt_G I) (nt_S I) (nt_Q I)) c.toNat 1 lim (cl_lo I (rg_ef I (I 1 7).toNat)) (cl_hi I (rg_ef I (I 1 7).toNat))).2.2 c.toNat else -1000))) N) : rs_run u d 47 0 (rs_en0 [.inr (.inr 1), .inl c, .inl lim] 3) [] I K := by
  show rs_run u d 47 0 [some (.inr (.inr 1)), some (.inl c), some (.inl lim)] [] I K
  have g1 : rs_sh 1 = (1, 7) := by decide +kernel
  have g33 : rs_sh 33 = (1, 4) := by decide +kernel
  have g35 : rs_sh 35 = (2, 10) := by decide +kernel
  have f1_2 : rs_rf 1 2 = 6 := by decide +kernel
  have f1_3 : rs_rf 1 3 = 33 := by decide +kernel
  have f33_1 : rs_rf 33 1 = 35 := by decide +kernel
  have hd0 : 0 < d := by omega
  have e6 := ok.2.1
  have hn := ok.1.1
  simp only [rs_x_47_0, rs_x_47_1, rs_x_47_2, rs_x_47_5, rs_x_47_8, rs_x_47_9, rs_x_47_12, rs_x_47_15, rs_x_47_25, rs_x_47_26, rs_x_47_27, rs_x_47_28, rs_x_47_29, rs_x_47_32, rs_x_47_33, rs_x_47_36, rs_x_47_37, rs_x_47_40, rs_x_47_41, rs_x_47_44, rs_x_47_45, rs_x_47_48, rs_x_47_49, rs_x_47_52, rs_x_47_55, rs_x_47_56, rs_x_47_57, rs_x_47_60, rs_x_47_63, rs_cn_n, rs_cn_i, rs_cn_r, rs_cn_t, rs_up_at, Nat.reduceAdd, Nat.reduceEqDiff, Nat.reduceSub, Int.reduceToNat, Int.reduceNeg, Int.reduceLE, Int.reduceLT, Int.reduceAdd, Int.reduceSub, Int.reduceMul, Int.add_sub_cancel, List.length_cons, List.length_nil, Nat.reduceLeDiff, Nat.reduceLT, Int.cast_ofNat_Int, true_and, and_true, and_self, false_and, and_false, ↓reduceIte, Nat.zero_le, or_true, true_or, false_or, or_false, Nat.sub_zero, Int.toNat_natCast, Nat.le_refl, implies_true, forall_const, Int.reduceEq, Nat.reduceMul, ne_eq, not_true_eq_false, not_false_eq_true, false_implies, true_implies, Nat.left_eq_add, Nat.add_eq_left, g1]
  refine ⟨hd0, cb_isCell (fun c1 c2 => ?_) (fun c1 => ?_)⟩
  · rw [e6] at c2
    have ec : c = (c.toNat : Int) := by omega
    have c10 : c < 10 := by omega
    simp only [rs_x_47_0, rs_x_47_1, rs_x_47_2, rs_x_47_5, rs_x_47_8, rs_x_47_9, rs_x_47_12, rs_x_47_15, rs_x_47_25, rs_x_47_26, rs_x_47_27, rs_x_47_28, rs_x_47_29, rs_x_47_32, rs_x_47_33, rs_x_47_36, rs_x_47_37, rs_x_47_40, rs_x_47_41, rs_x_47_44, rs_x_47_45, rs_x_47_48, rs_x_47_49, rs_x_47_52, rs_x_47_55, rs_x_47_56, rs_x_47_57, rs_x_47_60, rs_x_47_63, rs_cn_n, rs_cn_i, rs_cn_r, rs_cn_t, rs_up_at, Nat.reduceAdd, Nat.reduceEqDiff, Nat.reduceSub, Int.reduceToNat, Int.reduceNeg, Int.reduceLE, Int.reduceLT, Int.reduceAdd, Int.reduceSub, Int.reduceMul, Int.add_sub_cancel, List.length_cons, List.length_nil, Nat.reduceLeDiff, Nat.reduceLT, Int.cast_ofNat_Int, true_and, and_true, and_self, false_and, and_false, ↓reduceIte, Nat.zero_le, or_true, true_or, false_or, or_false, Nat.sub_zero, Int.toNat_natCast, Nat.le_refl, implies_true, forall_const, Int.reduceEq, Nat.reduceMul, ne_eq, not_true_eq_false, not_false_eq_true, false_implies, true_implies, Nat.left_eq_add, Nat.add_eq_left, g1]
    refine ⟨hd0, cb_isLimit (fun a b => ?_) (fun a => ?_)⟩
    · have hK := hK ⟨c1, c2⟩ ⟨a, b⟩
      simp only [rs_x_47_0, rs_x_47_1, rs_x_47_2, rs_x_47_5, rs_x_47_8, rs_x_47_9, rs_x_47_12, rs_x_47_15, rs_x_47_25, rs_x_47_26, rs_x_47_27, rs_x_47_28, rs_x_47_29, rs_x_47_32, rs_x_47_33, rs_x_47_36, rs_x_47_37, rs_x_47_40, rs_x_47_41, rs_x_47_44, rs_x_47_45, rs_x_47_48, rs_x_47_49, rs_x_47_52, rs_x_47_55, rs_x_47_56, rs_x_47_57, rs_x_47_60, rs_x_47_63, rs_cn_n, rs_cn_i, rs_cn_r, rs_cn_t, rs_up_at, Nat.reduceAdd, Nat.reduceEqDiff, Nat.reduceSub, Int.reduceToNat, Int.reduceNeg, Int.reduceLE, Int.reduceLT, Int.reduceAdd, Int.reduceSub, Int.reduceMul, Int.add_sub_cancel, List.length_cons, List.length_nil, Nat.reduceLeDiff, Nat.reduceLT, Int.cast_ofNat_Int, true_and, and_true, and_self, false_and, and_false, ↓reduceIte, Nat.zero_le, or_true, true_or, false_or, or_false, Nat.sub_zero, Int.toNat_natCast, Nat.le_refl, implies_true, forall_const, Int.reduceEq, Nat.reduceMul, ne_eq, not_true_eq_false, not_false_eq_true, false_implies, true_implies, Nat.left_eq_add, Nat.add_eq_left, g1]
      refine ⟨hd0, ?_⟩
      have bs := fun (K' : rs_K) (h : ∀ J, sb_post n c.toNat 1 lim I J → K' none J) => ct_beginSearch (u := 0) (d := d - 1) (L := c.toNat) (dn := 1) (lim := lim) (I := I) (K := K') (by omega) ok (by omega) (by omega) (Or.inr rfl) ⟨a, b⟩ h
      rw [← ec] at bs
      refine bs _ fun J hJ => ?_
      simp only [rs_x_47_0, rs_x_47_1, rs_x_47_2, rs_x_47_5, rs_x_47_8, rs_x_47_9, rs_x_47_12, rs_x_47_15, rs_x_47_25, rs_x_47_26, rs_x_47_27, rs_x_47_28, rs_x_47_29, rs_x_47_32, rs_x_47_33, rs_x_47_36, rs_x_47_37, rs_x_47_40, rs_x_47_41, rs_x_47_44, rs_x_47_45, rs_x_47_48, rs_x_47_49, rs_x_47_52, rs_x_47_55, rs_x_47_56, rs_x_47_57, rs_x_47_60, rs_x_47_63, rs_cn_n, rs_cn_i, rs_cn_r, rs_cn_t, rs_up_at, Nat.reduceAdd, Nat.reduceEqDiff, Nat.reduceSub, Int.reduceToNat, Int.reduceNeg, Int.reduceLE, Int.reduceLT, Int.reduceAdd, Int.reduceSub, Int.reduceMul, Int.add_sub_cancel, List.length_cons, List.length_nil, Nat.reduceLeDiff, Nat.reduceLT, Int.cast_ofNat_Int, true_and, and_true, and_self, false_and, and_false, ↓reduceIte, Nat.zero_le, or_true, true_or, false_or, or_false, Nat.sub_zero, Int.toNat_natCast, Nat.le_refl, implies_true, forall_const, Int.reduceEq, Nat.reduceMul, ne_eq, not_true_eq_false, not_false_eq_true, false_implies, true_implies, Nat.left_eq_add, Nat.add_eq_left, g1, f1_2, f1_3, g33]
      refine ⟨hd0, ck_explore (by omega) ok hJ a fun N hN => ?_⟩
      have z := hK N hN
      generalize so_top n (bx_all n (nt_G I) (nt_S I) (nt_Q I)) c.toNat 1 lim (cl_lo I (rg_ef I (I 1 7).toNat)) (cl_hi I (rg_ef I (I 1 7).toNat)) = R at hN z ⊢
      by_cases g : R.1 = 1
      · rw [if_pos g] at z
        have js := ((hN.2.2.1 g).2 c.toNat (by omega)).1
        simp only [rs_x_47_0, rs_x_47_1, rs_x_47_2, rs_x_47_5, rs_x_47_8, rs_x_47_9, rs_x_47_12, rs_x_47_15, rs_x_47_25, rs_x_47_26, rs_x_47_27, rs_x_47_28, rs_x_47_29, rs_x_47_32, rs_x_47_33, rs_x_47_36, rs_x_47_37, rs_x_47_40, rs_x_47_41, rs_x_47_44, rs_x_47_45, rs_x_47_48, rs_x_47_49, rs_x_47_52, rs_x_47_55, rs_x_47_56, rs_x_47_57, rs_x_47_60, rs_x_47_63, rs_cn_n, rs_cn_i, rs_cn_r, rs_cn_t, rs_up_at, Nat.reduceAdd, Nat.reduceEqDiff, Nat.reduceSub, Int.reduceToNat, Int.reduceNeg, Int.reduceLE, Int.reduceLT, Int.reduceAdd, Int.reduceSub, Int.reduceMul, Int.add_sub_cancel, List.length_cons, List.length_nil, Nat.reduceLeDiff, Nat.reduceLT, Int.cast_ofNat_Int, true_and, and_true, and_self, false_and, and_false, ↓reduceIte, Nat.zero_le, or_true, true_or, false_or, or_false, Nat.sub_zero, Int.toNat_natCast, Nat.le_refl, implies_true, forall_const, Int.reduceEq, Nat.reduceMul, ne_eq, not_true_eq_false, not_false_eq_true, false_implies, true_implies, Nat.left_eq_add, Nat.add_eq_left, g1, f1_3, g33, f33_1, g35, g, c1, c10, js]
        exact z
      · rw [if_neg g] at z
        simp only [rs_x_47_0, rs_x_47_1, rs_x_47_2, rs_x_47_5, rs_x_47_8, rs_x_47_9, rs_x_47_12, rs_x_47_15, rs_x_47_25, rs_x_47_26, rs_x_47_27, rs_x_47_28, rs_x_47_29, rs_x_47_32, rs_x_47_33, rs_x_47_36, rs_x_47_37, rs_x_47_40, rs_x_47_41, rs_x_47_44, rs_x_47_45, rs_x_47_48, rs_x_47_49, rs_x_47_52, rs_x_47_55, rs_x_47_56, rs_x_47_57, rs_x_47_60, rs_x_47_63, rs_cn_n, rs_cn_i, rs_cn_r, rs_cn_t, rs_up_at, Nat.reduceAdd, Nat.reduceEqDiff, Nat.reduceSub, Int.reduceToNat, Int.reduceNeg, Int.reduceLE, Int.reduceLT, Int.reduceAdd, Int.reduceSub, Int.reduceMul, Int.add_sub_cancel, List.length_cons, List.length_nil, Nat.reduceLeDiff, Nat.reduceLT, Int.cast_ofNat_Int, true_and, and_true, and_self, false_and, and_false, ↓reduceIte, Nat.zero_le, or_true, true_or, false_or, or_false, Nat.sub_zero, Int.toNat_natCast, Nat.le_refl, implies_true, forall_const, Int.reduceEq, Nat.reduceMul, ne_eq, not_true_eq_false, not_false_eq_true, false_implies, true_implies, Nat.left_eq_add, Nat.add_eq_left, g1, g]
        exact z
    · have z := ht (fun q => a q.2)
      simp only [rs_x_47_0, rs_x_47_1, rs_x_47_2, rs_x_47_5, rs_x_47_8, rs_x_47_9, rs_x_47_12, rs_x_47_15, rs_x_47_25, rs_x_47_26, rs_x_47_27, rs_x_47_28, rs_x_47_29, rs_x_47_32, rs_x_47_33, rs_x_47_36, rs_x_47_37, rs_x_47_40, rs_x_47_41, rs_x_47_44, rs_x_47_45, rs_x_47_48, rs_x_47_49, rs_x_47_52, rs_x_47_55, rs_x_47_56, rs_x_47_57, rs_x_47_60, rs_x_47_63, rs_cn_n, rs_cn_i, rs_cn_r, rs_cn_t, rs_up_at, Nat.reduceAdd, Nat.reduceEqDiff, Nat.reduceSub, Int.reduceToNat, Int.reduceNeg, Int.reduceLE, Int.reduceLT, Int.reduceAdd, Int.reduceSub, Int.reduceMul, Int.add_sub_cancel, List.length_cons, List.length_nil, Nat.reduceLeDiff, Nat.reduceLT, Int.cast_ofNat_Int, true_and, and_true, and_self, false_and, and_false, ↓reduceIte, Nat.zero_le, or_true, true_or, false_or, or_false, Nat.sub_zero, Int.toNat_natCast, Nat.le_refl, implies_true, forall_const, Int.reduceEq, Nat.reduceMul, ne_eq, not_true_eq_false, not_false_eq_true, false_implies, true_implies, Nat.left_eq_add, Nat.add_eq_left, g1]
      repeat' (first
    | refine And.intro ?_ ?_
    | (guard_target =~ (_ → _); intro)
    | omega
    | (unfold rs_R; omega)
    | exact z
    | decide)
  · rw [e6] at c1
    have z := ht (fun q => c1 q.1)
    simp only [rs_x_47_0, rs_x_47_1, rs_x_47_2, rs_x_47_5, rs_x_47_8, rs_x_47_9, rs_x_47_12, rs_x_47_15, rs_x_47_25, rs_x_47_26, rs_x_47_27, rs_x_47_28, rs_x_47_29, rs_x_47_32, rs_x_47_33, rs_x_47_36, rs_x_47_37, rs_x_47_40, rs_x_47_41, rs_x_47_44, rs_x_47_45, rs_x_47_48, rs_x_47_49, rs_x_47_52, rs_x_47_55, rs_x_47_56, rs_x_47_57, rs_x_47_60, rs_x_47_63, rs_cn_n, rs_cn_i, rs_cn_r, rs_cn_t, rs_up_at, Nat.reduceAdd, Nat.reduceEqDiff, Nat.reduceSub, Int.reduceToNat, Int.reduceNeg, Int.reduceLE, Int.reduceLT, Int.reduceAdd, Int.reduceSub, Int.reduceMul, Int.add_sub_cancel, List.length_cons, List.length_nil, Nat.reduceLeDiff, Nat.reduceLT, Int.cast_ofNat_Int, true_and, and_true, and_self, false_and, and_false, ↓reduceIte, Nat.zero_le, or_true, true_or, false_or, or_false, Nat.sub_zero, Int.toNat_natCast, Nat.le_refl, implies_true, forall_const, Int.reduceEq, Nat.reduceMul, ne_eq, not_true_eq_false, not_false_eq_true, false_implies, true_implies, Nat.left_eq_add, Nat.add_eq_left, g1]
    repeat' (first
    | refine And.intro ?_ ?_
    | (guard_target =~ (_ → _); intro)
    | omega
    | (unfold rs_R; omega)
    | exact z
    | decide)
