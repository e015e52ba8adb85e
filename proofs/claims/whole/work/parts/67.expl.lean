/-! ===== the class explores ===== -/
/-- the search's order is laid -/
def sr_ok (I : rs_M) (n L : Nat) (dn lim : Int) : Prop := I 33 5 = (n : Int) ∧ I 33 6 = dn ∧ I 33 7 = lim ∧ (∀ k, k < n ∨ k = 0 → I 36 k = od_at L k) ∧ (dn = 0 ∨ dn = 1) ∧ (0 ≤ lim ∧ lim ≤ 300) ∧ L < 10 ∧ (n = 0 ∨ L < n)
set_option maxRecDepth 100000 in
set_option maxHeartbeats 2000000 in
theorem ct_firstO {u d q n L : Nat} {dn lim : Int} {I : rs_M} {K : rs_K} (hd : 1 ≤ d) (hq : rs_isR q) (hn : n ≤ 10) (so : sr_ok I n L dn lim) (hbx : bx_ok 10 (I (q + 1)) (I (q + 2))) (h1 : ∀ c : Nat, so_o n L (I (q + 1)) (I (q + 2)) = some c → K (some (.inl (c : Int))) I) (h0 : so_o n L (I (q + 1)) (I (q + 2)) = none → K (some (.inl (-1000))) I) : rs_run u d 30 0 (rs_en0 [.inr (.inr 33), .inr (.inr q)] 3) [] I K := by
  show rs_run u d 30 0 [some (.inr (.inr 33)), some (.inr (.inr q)), none] [] I K
  have g33 : rs_sh 33 = (1, 4) := by decide +kernel
  have g36 : rs_sh 36 = (2, 10) := by decide +kernel
  have f33_4 : rs_rf 33 4 = 36 := by decide +kernel
  obtain ⟨s5, s6, s7, od, _, _, hL, hLn⟩ := so
  obtain ⟨q1, q2, q3, q4, q5⟩ := id hq
  have hd0 : 0 < d := by omega
  have odb : ∀ k, k < n → ∃ c : Nat, od_at L k = (c : Int) ∧ c < n ∧ (k = 0 → c = L) ∧ (k ≠ 0 → k ≤ L → c = k - 1) ∧ (k ≠ 0 → ¬ k ≤ L → c = k) := fun k hk => by
    unfold od_at
    by_cases g0 : k = 0
    · exact ⟨L, by rw [if_pos g0], by omega, fun _ => rfl, fun q => absurd g0 q, fun q => absurd g0 q⟩
    · by_cases g1 : k ≤ L
      · exact ⟨k - 1, by rw [if_neg g0, if_pos g1]; omega, by omega, fun q => absurd q g0, fun _ _ => rfl, fun _ q => absurd g1 q⟩
      · exact ⟨k, by rw [if_neg g0, if_neg g1], by omega, fun q => absurd q g0, fun _ q => absurd q g1, fun _ _ => rfl⟩
  have loop : ∀ (m k : Nat), k + m = n → (0 < k → ¬ I (q + 1) L < I (q + 2) L) → (∀ j, (if k ≤ L then j + 1 < k else j < k) → ¬ I (q + 1) j < I (q + 2) j) → rs_run u d 30 2 [some (.inr (.inr 33)), some (.inr (.inr q)), some (.inl (k : Int))] [] I K := by
    intro m
    induction m with
    | zero =>
      intro k ek c0 cs
      have : k = n := by omega
      subst this
      have z := h0 (by
        unfold so_o
        rw [if_neg (fun g => c0 (by omega) g.2)]
        exact so_f_none (fun j _ hj => cs j (by split <;> omega)))
      have le : (k : Int) ≤ (k : Int) := by omega
      rw [rs_x_30_2]
      simp only [rs_x_30_0, rs_x_30_1, rs_x_30_3, rs_x_30_4, rs_x_30_7, rs_x_30_10, rs_x_30_11, rs_x_30_12, rs_x_30_15, rs_x_30_16, rs_x_30_17, rs_x_30_20, rs_x_30_23, rs_x_30_24, rs_x_30_27, rs_x_30_28, rs_x_30_29, rs_x_30_30, rs_x_30_33, rs_x_30_36, rs_x_30_39, rs_cn_n, rs_cn_i, rs_cn_r, rs_cn_t, rs_up_at, Nat.reduceAdd, Nat.reduceEqDiff, Nat.reduceSub, Int.reduceToNat, Int.reduceNeg, Int.reduceLE, Int.reduceLT, Int.reduceAdd, Int.reduceSub, Int.reduceMul, Int.add_sub_cancel, List.length_cons, List.length_nil, Nat.reduceLeDiff, Nat.reduceLT, Int.cast_ofNat_Int, true_and, and_true, and_self, false_and, and_false, ↓reduceIte, Nat.zero_le, or_true, true_or, false_or, or_false, Nat.sub_zero, Int.toNat_natCast, Nat.le_refl, implies_true, forall_const, Int.reduceEq, Nat.reduceMul, ne_eq, not_true_eq_false, not_false_eq_true, false_implies, true_implies, Nat.left_eq_add, Nat.add_eq_left, g33, s5, le]
      exact z
    | succ m ih =>
      intro k ek c0 cs
      obtain ⟨c, ec, cn, e0, e1, e2⟩ := odb k (by omega)
      have oc : I 36 k = (c : Int) := by rw [od k (Or.inl (by omega)), ec]
      have nle : ((n : Int) ≤ (k : Int)) = False := eq_false (by omega)
      have k1 : 0 ≤ (k : Int) := by omega
      have k2 : (k : Int) < 10 := by omega
      have rn : rs_R ((k : Int) + 1) := by unfold rs_R; omega
      have bc := hbx c (by omega)
      have rw' : rs_R (I (q + 2) c - I (q + 1) c) := by unfold rs_R; omega
      rw [rs_x_30_2]
      simp only [rs_x_30_0, rs_x_30_1, rs_x_30_3, rs_x_30_4, rs_x_30_7, rs_x_30_10, rs_x_30_11, rs_x_30_12, rs_x_30_15, rs_x_30_16, rs_x_30_17, rs_x_30_20, rs_x_30_23, rs_x_30_24, rs_x_30_27, rs_x_30_28, rs_x_30_29, rs_x_30_30, rs_x_30_33, rs_x_30_36, rs_x_30_39, rs_cn_n, rs_cn_i, rs_cn_r, rs_cn_t, rs_up_at, Nat.reduceAdd, Nat.reduceEqDiff, Nat.reduceSub, Int.reduceToNat, Int.reduceNeg, Int.reduceLE, Int.reduceLT, Int.reduceAdd, Int.reduceSub, Int.reduceMul, Int.add_sub_cancel, List.length_cons, List.length_nil, Nat.reduceLeDiff, Nat.reduceLT, Int.cast_ofNat_Int, true_and, and_true, and_self, false_and, and_false, ↓reduceIte, Nat.zero_le, or_true, true_or, false_or, or_false, Nat.sub_zero, Int.toNat_natCast, Nat.le_refl, implies_true, forall_const, Int.reduceEq, Nat.reduceMul, ne_eq, not_true_eq_false, not_false_eq_true, false_implies, true_implies, Nat.left_eq_add, Nat.add_eq_left, g33, g36, f33_4, s5, nle, k1, k2, oc, q1]
      refine ⟨hd0, ct_width (c := (c : Int)) hq (by omega) (by rw [Int.toNat_natCast]; exact rw') ?_⟩
      rw [Int.toNat_natCast]
      by_cases g : I (q + 1) c < I (q + 2) c
      · have gt : ¬ I (q + 2) c - I (q + 1) c ≤ 0 := by omega
        have z := h1 c (by
          unfold so_o
          by_cases k0 : k = 0
          · have := e0 k0
            subst this
            rw [if_pos ⟨cn, g⟩]
          · rw [if_neg (fun q => c0 (by omega) q.2)]
            refine so_f_some g (by omega) (by omega) (fun j _ hj => ?_)
            by_cases kl : k ≤ L
            · exact cs j (by rw [if_pos kl]; have := e1 k0 kl; omega)
            · exact cs j (by rw [if_neg kl]; have := e2 k0 kl; omega))
        simp only [rs_x_30_0, rs_x_30_1, rs_x_30_3, rs_x_30_4, rs_x_30_7, rs_x_30_10, rs_x_30_11, rs_x_30_12, rs_x_30_15, rs_x_30_16, rs_x_30_17, rs_x_30_20, rs_x_30_23, rs_x_30_24, rs_x_30_27, rs_x_30_28, rs_x_30_29, rs_x_30_30, rs_x_30_33, rs_x_30_36, rs_x_30_39, rs_cn_n, rs_cn_i, rs_cn_r, rs_cn_t, rs_up_at, Nat.reduceAdd, Nat.reduceEqDiff, Nat.reduceSub, Int.reduceToNat, Int.reduceNeg, Int.reduceLE, Int.reduceLT, Int.reduceAdd, Int.reduceSub, Int.reduceMul, Int.add_sub_cancel, List.length_cons, List.length_nil, Nat.reduceLeDiff, Nat.reduceLT, Int.cast_ofNat_Int, true_and, and_true, and_self, false_and, and_false, ↓reduceIte, Nat.zero_le, or_true, true_or, false_or, or_false, Nat.sub_zero, Int.toNat_natCast, Nat.le_refl, implies_true, forall_const, Int.reduceEq, Nat.reduceMul, ne_eq, not_true_eq_false, not_false_eq_true, false_implies, true_implies, Nat.left_eq_add, Nat.add_eq_left, g33, g36, f33_4, k1, k2, oc, gt]
        exact z
      · have le : I (q + 2) c - I (q + 1) c ≤ 0 := by omega
        have z := ih (k + 1) (by omega) (fun _ => by
          by_cases k0 : k = 0
          · have := e0 k0
            subst this
            exact g
          · exact c0 (by omega)) (fun j hj => by
          by_cases k0 : k = 0
          · have ce := e0 k0
            by_cases kl : k + 1 ≤ L
            · rw [if_pos kl] at hj
              omega
            · rw [if_neg kl] at hj
              have : j = c := by omega
              rw [this]; exact g
          · by_cases kl : k + 1 ≤ L
            · rw [if_pos kl] at hj
              have ce := e1 k0 (by omega)
              by_cases ej : j = c
              · rw [ej]; exact g
              · exact cs j (by rw [if_pos (by omega)]; omega)
            · rw [if_neg kl] at hj
              by_cases kl2 : k ≤ L
              · have ce := e1 k0 kl2
                by_cases ej : j = c
                · rw [ej]; exact g
                · by_cases ejL : j = L
                  · rw [ejL]; exact c0 (by omega)
                  · exact cs j (by rw [if_pos kl2]; omega)
              · have ce := e2 k0 kl2
                by_cases ej : j = c
                · rw [ej]; exact g
                · exact cs j (by rw [if_neg kl2]; omega))
        simp only [rs_x_30_0, rs_x_30_1, rs_x_30_3, rs_x_30_4, rs_x_30_7, rs_x_30_10, rs_x_30_11, rs_x_30_12, rs_x_30_15, rs_x_30_16, rs_x_30_17, rs_x_30_20, rs_x_30_23, rs_x_30_24, rs_x_30_27, rs_x_30_28, rs_x_30_29, rs_x_30_30, rs_x_30_33, rs_x_30_36, rs_x_30_39, rs_cn_n, rs_cn_i, rs_cn_r, rs_cn_t, rs_up_at, Nat.reduceAdd, Nat.reduceEqDiff, Nat.reduceSub, Int.reduceToNat, Int.reduceNeg, Int.reduceLE, Int.reduceLT, Int.reduceAdd, Int.reduceSub, Int.reduceMul, Int.add_sub_cancel, List.length_cons, List.length_nil, Nat.reduceLeDiff, Nat.reduceLT, Int.cast_ofNat_Int, true_and, and_true, and_self, false_and, and_false, ↓reduceIte, Nat.zero_le, or_true, true_or, false_or, or_false, Nat.sub_zero, Int.toNat_natCast, Nat.le_refl, implies_true, forall_const, Int.reduceEq, Nat.reduceMul, ne_eq, not_true_eq_false, not_false_eq_true, false_implies, true_implies, Nat.left_eq_add, Nat.add_eq_left, g33, g36, f33_4, k1, k2, oc, le]
        exact ⟨rn, z⟩
  have z := loop n 0 (by omega) (fun q => by omega) (fun j hj => by split at hj <;> omega)
  simp only [rs_x_30_0, rs_x_30_1, rs_x_30_3, rs_x_30_4, rs_x_30_7, rs_x_30_10, rs_x_30_11, rs_x_30_12, rs_x_30_15, rs_x_30_16, rs_x_30_17, rs_x_30_20, rs_x_30_23, rs_x_30_24, rs_x_30_27, rs_x_30_28, rs_x_30_29, rs_x_30_30, rs_x_30_33, rs_x_30_36, rs_x_30_39, rs_cn_n, rs_cn_i, rs_cn_r, rs_cn_t, rs_up_at, Nat.reduceAdd, Nat.reduceEqDiff, Nat.reduceSub, Int.reduceToNat, Int.reduceNeg, Int.reduceLE, Int.reduceLT, Int.reduceAdd, Int.reduceSub, Int.reduceMul, Int.add_sub_cancel, List.length_cons, List.length_nil, Nat.reduceLeDiff, Nat.reduceLT, Int.cast_ofNat_Int, true_and, and_true, and_self, false_and, and_false, ↓reduceIte, Nat.zero_le, or_true, true_or, false_or, or_false, Nat.sub_zero, Int.toNat_natCast, Nat.le_refl, implies_true, forall_const, Int.reduceEq, Nat.reduceMul, ne_eq, not_true_eq_false, not_false_eq_true, false_implies, true_implies, Nat.left_eq_add, Nat.add_eq_left]
  exact z
