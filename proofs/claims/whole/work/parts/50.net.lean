/-! ===== the class's network: relations' cells, which are due, narrowing by one ===== -/
theorem bt_clr {x r : Nat} (hx : x < 4096) (hr : r < 12) : rs_and (x : Int) (rs_xor (rs_shl 1 (r : Int)) (-1)) = ((x ^^^ (x &&& 2 ^ r) : Nat) : Int) := by
  rw [bt_shl1 r (by omega)]
  have h1 : (Int32.ofInt (rs_xor ((2 ^ r : Nat) : Int) (-1))).toBitVec = ~~~ (BitVec.ofNat 32 (2 ^ r)) := by
    unfold rs_xor
    rw [Int32.ofInt_toInt, Int32.toBitVec_xor, bt_bv]
    have : (Int32.ofInt (-1)).toBitVec = BitVec.allOnes 32 := by decide
    rw [this, BitVec.xor_allOnes]
  have h2 : (Int32.ofInt (x : Int) &&& Int32.ofInt (rs_xor ((2 ^ r : Nat) : Int) (-1))).toBitVec = BitVec.ofNat 32 (x ^^^ (x &&& 2 ^ r)) := by
    rw [Int32.toBitVec_and, bt_bv, h1]
    apply BitVec.eq_of_getLsbD_eq
    intro i hi
    simp only [BitVec.getLsbD_and, BitVec.getLsbD_not, BitVec.getLsbD_ofNat, Nat.testBit_xor, Nat.testBit_and, hi, decide_true, Bool.true_and]
    cases x.testBit i <;> cases (2 ^ r).testBit i <;> rfl
  have h3 : x ^^^ (x &&& 2 ^ r) < 4096 := Nat.xor_lt_two_pow (n := 12) hx (Nat.lt_of_le_of_lt Nat.and_le_left hx)
  exact bt_int h2 (by omega)
theorem bt_clrb {x r : Nat} (j : Nat) : (x ^^^ (x &&& 2 ^ r)).testBit j = true ↔ x.testBit j = true ∧ j ≠ r := by
  rw [Nat.testBit_xor, Nat.testBit_and, Nat.testBit_two_pow]
  by_cases e : r = j
  · subst e; simp
  · have e' : j ≠ r := fun g => e g.symm
    simp [e, e']
theorem bt_and0 {a b : Nat} (ha : a < 4096) (hb : b < 4096) : rs_and (a : Int) (b : Int) = 0 ↔ ∀ j, ¬ (a.testBit j = true ∧ b.testBit j = true) := by
  rw [bt_and a b (by omega)]
  constructor
  · intro h j hj
    have e : a &&& b = 0 := by omega
    have := Nat.testBit_and a b j
    rw [e, hj.1, hj.2] at this
    simp at this
  · intro h
    have e : a &&& b = 0 := by
      apply Nat.eq_of_testBit_eq
      intro i
      rw [Nat.testBit_and, Nat.zero_testBit]
      have := h i
      cases ea : a.testBit i <;> cases eb : b.testBit i <;> simp_all
    omega
/-- a relation that could be made: its kind, its numbers, its cells as bits -/
def nt_ok (n : Nat) (k a b c mk : Int) : Prop := mk = rg_mask k a b c ∧ ((k = 7 ∧ (0 ≤ a ∧ a < 2 ^ n) ∧ 2 ≤ rs_pc 10 a.toNat) ∨ (k = 5 ∧ (0 ≤ a ∧ a < n) ∧ (0 ≤ b ∧ b < n) ∧ (-200 ≤ c ∧ c ≤ 200)) ∨ (k = 8 ∧ (0 ≤ a ∧ a < n) ∧ (0 ≤ b ∧ b < n) ∧ (0 ≤ c ∧ c < 3)) ∨ ((0 ≤ k ∧ k ≤ 6 ∧ k ≠ 5) ∧ (0 ≤ a ∧ a < n) ∧ (0 ≤ b ∧ b < n) ∧ (0 ≤ c ∧ c < n)))
theorem nt_of {n : Nat} {k a b c : Int} (hn : n ≤ 10) (ha : rs_R a) (h : rg_okrel n k a b c) : nt_ok n k a b c (rg_mask k a b c) := by
  refine ⟨rfl, ?_⟩
  rcases h with ⟨h1, h2, h3⟩ | h | h | h
  · have := bt_shr0 ha (n := n) (by omega) h2
    rw [Int.toNat_natCast] at this
    exact Or.inl ⟨h1, ⟨this.1, this.2.1⟩, h3⟩
  · exact Or.inr (Or.inl h)
  · exact Or.inr (Or.inr (Or.inl h))
  · exact Or.inr (Or.inr (Or.inr h))
theorem bt_p2 {n : Nat} (hn : n ≤ 10) : (2 : Int) ^ n ≤ 1024 := by
  have : (2 : Nat) ^ n ≤ 2 ^ 10 := Nat.pow_le_pow_right (by omega) hn
  have e : ((2 ^ n : Nat) : Int) = (2 : Int) ^ n := by norm_cast
  omega
theorem bt_shlN {a : Int} (h : 0 ≤ a ∧ a < 10) : rs_shl 1 a = ((2 ^ a.toNat : Nat) : Int) ∧ 2 ^ a.toNat < 1024 := by
  have e : a = ((a.toNat : Nat) : Int) := by omega
  have := bt_shl1 a.toNat (by omega)
  rw [← e] at this
  have hp : (2 : Nat) ^ a.toNat < 2 ^ 10 := Nat.pow_lt_pow_right (by omega) (by omega)
  exact ⟨this, by omega⟩
/-- the bits are the relation's cells -/
theorem nt_mask {n : Nat} {k a b c mk : Int} (hn : n ≤ 10) (h : nt_ok n k a b c mk) : ∃ m : Nat, m < 1024 ∧ mk = (m : Int) ∧ (k = 7 → a = (m : Int)) ∧ (∀ j, m.testBit j = true ↔ bx_S k a b c j) ∧ (∀ j, bx_S k a b c j → j < n) ∧ ∃ j, bx_S k a b c j := by
  obtain ⟨h0, h⟩ := h
  have hp := bt_p2 hn
  have m2 : ∀ {a b : Int}, (0 ≤ a ∧ a < n) → (0 ≤ b ∧ b < n) → ∃ m : Nat, m < 1024 ∧ rs_or (rs_shl 1 a) (rs_shl 1 b) = (m : Int) ∧ ∀ j, m.testBit j = true ↔ j = a.toNat ∨ j = b.toNat := fun {a b} ha hb => by
    obtain ⟨a1, a2⟩ := bt_shlN (a := a) (by omega)
    obtain ⟨b1, b2⟩ := bt_shlN (a := b) (by omega)
    refine ⟨2 ^ a.toNat ||| 2 ^ b.toNat, Nat.or_lt_two_pow (n := 10) a2 b2, ?_, fun j => ?_⟩
    · rw [a1, b1]
      exact bt_or _ _ (by omega) (by omega)
    · rw [bt_orb, Nat.testBit_two_pow]
      simp only [decide_eq_true_eq]
      exact ⟨fun g => g.elim (fun g => Or.inl g.symm) Or.inr, fun g => g.elim (fun g => Or.inl g.symm) Or.inr⟩
  rcases h with ⟨h1, h2, h3⟩ | ⟨h1, h2, h3, h4⟩ | ⟨h1, h2, h3, h4⟩ | ⟨h1, h2, h3, h4⟩
  · subst h1
    have e : rg_mask 7 a b c = a := by simp [rg_mask]
    rw [e] at h0
    have lt : a.toNat < 2 ^ n := by
      have e2 : ((2 ^ n : Nat) : Int) = (2 : Int) ^ n := by norm_cast
      omega
    have lo : ∀ j, a.toNat.testBit j = true → j < n := fun j g => by
      refine Classical.byContradiction fun q => ?_
      have : a.toNat < 2 ^ j := Nat.lt_of_lt_of_le lt (Nat.pow_le_pow_right (by omega) (by omega))
      rw [Nat.testBit_lt_two_pow this] at g
      cases g
    refine ⟨a.toNat, by omega, by omega, fun _ => by omega, fun j => ?_, fun j hj => ?_, ?_⟩
    · rw [bx_S7]
      exact ⟨fun g => ⟨by have := lo j g; omega, g⟩, fun g => g.2⟩
    · rw [bx_S7] at hj
      exact lo j hj.2
    · rw [bx_S7]
      refine Classical.byContradiction fun q => ?_
      have hz : a.toNat = 0 := by
        apply Nat.eq_of_testBit_eq
        intro i
        rw [Nat.zero_testBit]
        cases ht : a.toNat.testBit i with
        | false => rfl
        | true => exact absurd ⟨i, by have := lo i ht; omega, ht⟩ q
      rw [hz, rs_pc0] at h3
      omega
  · subst h1
    have e : rg_mask 5 a b c = rs_or (rs_shl 1 a) (rs_shl 1 b) := by simp [rg_mask]
    obtain ⟨m, p1, p2, p3⟩ := m2 h2 h3
    rw [bx_S5]
    refine ⟨m, p1, by rw [h0, e, p2], fun g => absurd g (by decide), fun j => ?_, fun j hj => ?_, ⟨a.toNat, Or.inl rfl⟩⟩
    · rw [p3 j]
      exact ⟨fun g => g.elim Or.inl (fun g => Or.inr (Or.inl g)), fun g => g.elim Or.inl (fun g => g.elim Or.inr Or.inr)⟩
    · rcases hj with g | g | g <;> omega
  · subst h1
    have e : rg_mask 8 a b c = rs_or (rs_shl 1 a) (rs_shl 1 b) := by simp [rg_mask]
    obtain ⟨m, p1, p2, p3⟩ := m2 h2 h3
    rw [bx_S8]
    refine ⟨m, p1, by rw [h0, e, p2], fun g => absurd g (by decide), fun j => ?_, fun j hj => ?_, ⟨a.toNat, Or.inl rfl⟩⟩
    · rw [p3 j]
      exact ⟨fun g => g.elim Or.inl (fun g => Or.inr (Or.inl g)), fun g => g.elim Or.inl (fun g => g.elim Or.inr Or.inr)⟩
    · rcases hj with g | g | g <;> omega
  · have e : rg_mask k a b c = rs_or (rs_or (rs_shl 1 a) (rs_shl 1 b)) (rs_shl 1 c) := by
      unfold rg_mask
      rw [if_neg (by omega), if_neg (by omega)]
    obtain ⟨m, p1, p2, p3⟩ := m2 h2 h3
    obtain ⟨c1, c2⟩ := bt_shlN (a := c) (by omega)
    rw [bx_S3 h1]
    refine ⟨m ||| 2 ^ c.toNat, Nat.or_lt_two_pow (n := 10) p1 c2, ?_, fun g => by omega, fun j => ?_, fun j hj => ?_, ⟨a.toNat, Or.inl rfl⟩⟩
    · rw [h0, e, p2, c1]
      exact bt_or _ _ (by omega) (by omega)
    · rw [bt_orb, p3 j, or_assoc]
      exact Iff.rfl
    · rcases hj with g | g | g <;> omega
set_option maxRecDepth 100000 in
set_option maxHeartbeats 2000000 in
theorem ct_touching {u d x : Nat} {I : rs_M} {K : rs_K} (hc : 0 ≤ I 6 2 ∧ I 6 2 ≤ 12) (hx : x < 1024) (hmk : ∀ r, r < (I 6 2).toNat → 0 ≤ I (12 + r) 4 ∧ I (12 + r) 4 < 1024) (h : ∀ n : Nat, n < 4096 → (∀ r, n.testBit r = true ↔ r < (I 6 2).toNat ∧ I (12 + r) 5 ≠ 0 ∧ ∃ j, (I (12 + r) 4).toNat.testBit j = true ∧ x.testBit j = true) → K (some (.inl (n : Int))) I) : rs_run u d 4 0 (rs_en0 [.inr (.inr 6), .inl (x : Int)] 4) [] I K := by
  show rs_run u d 4 0 [some (.inr (.inr 6)), some (.inl (x : Int)), none, none] [] I K
  have g6 : rs_sh 6 = (1, 1) := by decide +kernel
  have g7 : rs_sh 7 = (6, 12) := by decide +kernel
  have f6_0 : rs_rf 6 0 = 7 := by decide +kernel
  obtain ⟨P, hP⟩ : ∃ P : Nat → Bool, ∀ r, P r = true ↔ (I (12 + r) 5 ≠ 0 ∧ rs_and (I (12 + r) 4) (x : Int) ≠ 0) := ⟨fun r => decide (I (12 + r) 5 ≠ 0 ∧ rs_and (I (12 + r) 4) (x : Int) ≠ 0), fun r => by simp⟩
  have loop : ∀ (k n : Nat), n + k = (I 6 2).toNat → rs_run u d 4 4 [some (.inr (.inr 6)), some (.inl (x : Int)), some (.inl (bt_ms P n : Int)), some (.inl (n : Int))] [] I K := by
    intro k
    induction k with
    | zero =>
      intro n en
      have e : n = (I 6 2).toNat := by omega
      have l := bt_ms_lt P n
      have l2 := bt_pow (k := n) (by omega)
      have f := h (bt_ms P n) (by omega) (fun r => by
        rw [bt_ms_bit, hP, e]
        refine and_congr_right fun g => and_congr_right fun _ => ?_
        have b := hmk r g
        have e4 : I (12 + r) 4 = ((I (12 + r) 4).toNat : Int) := by omega
        have z := bt_and0 (a := (I (12 + r) 4).toNat) (b := x) (by omega) (by omega)
        rw [← e4] at z
        constructor
        · intro g'
          exact Classical.byContradiction fun q => g' (z.mpr (fun j hj => q ⟨j, hj⟩))
        · rintro ⟨j, hj⟩ g'
          exact z.mp g' j hj)
      have en' : I 6 2 ≤ (n : Int) := by omega
      rw [rs_x_4_4]
      simp only [rs_x_4_0, rs_x_4_1, rs_x_4_2, rs_x_4_3, rs_x_4_5, rs_x_4_6, rs_x_4_9, rs_x_4_12, rs_x_4_13, rs_x_4_16, rs_x_4_17, rs_x_4_18, rs_x_4_21, rs_x_4_24, rs_x_4_25, rs_x_4_28, rs_x_4_29, rs_x_4_30, rs_x_4_33, rs_x_4_34, rs_x_4_35, rs_x_4_38, rs_x_4_39, rs_x_4_40, rs_x_4_41, rs_x_4_42, rs_x_4_43, rs_x_4_44, rs_x_4_47, rs_x_4_50, rs_x_4_51, rs_cn_n, rs_cn_i, rs_cn_r, rs_cn_t, rs_up_at, Nat.reduceAdd, Nat.reduceEqDiff, Nat.reduceSub, Int.reduceToNat, Int.reduceNeg, Int.reduceLE, Int.reduceLT, Int.reduceAdd, Int.reduceSub, Int.reduceMul, Int.add_sub_cancel, List.length_cons, List.length_nil, Nat.reduceLeDiff, Nat.reduceLT, Int.cast_ofNat_Int, true_and, and_true, and_self, false_and, and_false, ↓reduceIte, Nat.zero_le, or_true, true_or, false_or, or_false, Nat.sub_zero, Int.toNat_natCast, Nat.le_refl, implies_true, forall_const, Int.reduceEq, Nat.reduceMul, ne_eq, not_true_eq_false, not_false_eq_true, false_implies, true_implies, Nat.left_eq_add, Nat.add_eq_left, g6, en']
      exact f
    | succ k ih =>
      intro n en
      have i1 := ih (n + 1) (by omega)
      obtain ⟨r1, r2⟩ := gm_rel n (by omega)
      have hl := bt_ms_lt P n
      have hp := bt_pow (k := n) (by omega)
      have ho := bt_or2 (m := bt_ms P n) (k := n) (by omega) (by omega)
      have nn : (I 6 2 ≤ (n : Int)) = False := eq_false (by omega)
      have nb : 0 ≤ (n : Int) ∧ (n : Int) < 12 := by omega
      have rn : rs_R ((n : Int) + 1) := by unfold rs_R; omega
      rw [rs_x_4_4]
      unfold bt_ms at i1
      by_cases c1 : I (12 + n) 5 = 0
      · rw [if_neg (fun g => ((hP n).mp g).1 c1)] at i1
        simp only [rs_x_4_0, rs_x_4_1, rs_x_4_2, rs_x_4_3, rs_x_4_5, rs_x_4_6, rs_x_4_9, rs_x_4_12, rs_x_4_13, rs_x_4_16, rs_x_4_17, rs_x_4_18, rs_x_4_21, rs_x_4_24, rs_x_4_25, rs_x_4_28, rs_x_4_29, rs_x_4_30, rs_x_4_33, rs_x_4_34, rs_x_4_35, rs_x_4_38, rs_x_4_39, rs_x_4_40, rs_x_4_41, rs_x_4_42, rs_x_4_43, rs_x_4_44, rs_x_4_47, rs_x_4_50, rs_x_4_51, rs_cn_n, rs_cn_i, rs_cn_r, rs_cn_t, rs_up_at, Nat.reduceAdd, Nat.reduceEqDiff, Nat.reduceSub, Int.reduceToNat, Int.reduceNeg, Int.reduceLE, Int.reduceLT, Int.reduceAdd, Int.reduceSub, Int.reduceMul, Int.add_sub_cancel, List.length_cons, List.length_nil, Nat.reduceLeDiff, Nat.reduceLT, Int.cast_ofNat_Int, true_and, and_true, and_self, false_and, and_false, ↓reduceIte, Nat.zero_le, or_true, true_or, false_or, or_false, Nat.sub_zero, Int.toNat_natCast, Nat.le_refl, implies_true, forall_const, Int.reduceEq, Nat.reduceMul, ne_eq, not_true_eq_false, not_false_eq_true, false_implies, true_implies, Nat.left_eq_add, Nat.add_eq_left, g6, g7, f6_0, r1, r2, nn, nb, c1]
        exact ⟨rn, i1⟩
      · by_cases c2 : rs_and (I (12 + n) 4) (x : Int) = 0
        · rw [if_neg (fun g => ((hP n).mp g).2 c2)] at i1
          simp only [rs_x_4_0, rs_x_4_1, rs_x_4_2, rs_x_4_3, rs_x_4_5, rs_x_4_6, rs_x_4_9, rs_x_4_12, rs_x_4_13, rs_x_4_16, rs_x_4_17, rs_x_4_18, rs_x_4_21, rs_x_4_24, rs_x_4_25, rs_x_4_28, rs_x_4_29, rs_x_4_30, rs_x_4_33, rs_x_4_34, rs_x_4_35, rs_x_4_38, rs_x_4_39, rs_x_4_40, rs_x_4_41, rs_x_4_42, rs_x_4_43, rs_x_4_44, rs_x_4_47, rs_x_4_50, rs_x_4_51, rs_cn_n, rs_cn_i, rs_cn_r, rs_cn_t, rs_up_at, Nat.reduceAdd, Nat.reduceEqDiff, Nat.reduceSub, Int.reduceToNat, Int.reduceNeg, Int.reduceLE, Int.reduceLT, Int.reduceAdd, Int.reduceSub, Int.reduceMul, Int.add_sub_cancel, List.length_cons, List.length_nil, Nat.reduceLeDiff, Nat.reduceLT, Int.cast_ofNat_Int, true_and, and_true, and_self, false_and, and_false, ↓reduceIte, Nat.zero_le, or_true, true_or, false_or, or_false, Nat.sub_zero, Int.toNat_natCast, Nat.le_refl, implies_true, forall_const, Int.reduceEq, Nat.reduceMul, ne_eq, not_true_eq_false, not_false_eq_true, false_implies, true_implies, Nat.left_eq_add, Nat.add_eq_left, g6, g7, f6_0, r1, r2, nn, nb, c1, c2]
          exact ⟨rn, i1⟩
        · rw [if_pos ((hP n).mpr ⟨c1, c2⟩)] at i1
          simp only [rs_x_4_0, rs_x_4_1, rs_x_4_2, rs_x_4_3, rs_x_4_5, rs_x_4_6, rs_x_4_9, rs_x_4_12, rs_x_4_13, rs_x_4_16, rs_x_4_17, rs_x_4_18, rs_x_4_21, rs_x_4_24, rs_x_4_25, rs_x_4_28, rs_x_4_29, rs_x_4_30, rs_x_4_33, rs_x_4_34, rs_x_4_35, rs_x_4_38, rs_x_4_39, rs_x_4_40, rs_x_4_41, rs_x_4_42, rs_x_4_43, rs_x_4_44, rs_x_4_47, rs_x_4_50, rs_x_4_51, rs_cn_n, rs_cn_i, rs_cn_r, rs_cn_t, rs_up_at, Nat.reduceAdd, Nat.reduceEqDiff, Nat.reduceSub, Int.reduceToNat, Int.reduceNeg, Int.reduceLE, Int.reduceLT, Int.reduceAdd, Int.reduceSub, Int.reduceMul, Int.add_sub_cancel, List.length_cons, List.length_nil, Nat.reduceLeDiff, Nat.reduceLT, Int.cast_ofNat_Int, true_and, and_true, and_self, false_and, and_false, ↓reduceIte, Nat.zero_le, or_true, true_or, false_or, or_false, Nat.sub_zero, Int.toNat_natCast, Nat.le_refl, implies_true, forall_const, Int.reduceEq, Nat.reduceMul, ne_eq, not_true_eq_false, not_false_eq_true, false_implies, true_implies, Nat.left_eq_add, Nat.add_eq_left, g6, g7, f6_0, r1, r2, nn, nb, c1, c2, ho]
          exact ⟨rn, i1⟩
  simp only [rs_x_4_0, rs_x_4_1, rs_x_4_2, rs_x_4_3, rs_x_4_5, rs_x_4_6, rs_x_4_9, rs_x_4_12, rs_x_4_13, rs_x_4_16, rs_x_4_17, rs_x_4_18, rs_x_4_21, rs_x_4_24, rs_x_4_25, rs_x_4_28, rs_x_4_29, rs_x_4_30, rs_x_4_33, rs_x_4_34, rs_x_4_35, rs_x_4_38, rs_x_4_39, rs_x_4_40, rs_x_4_41, rs_x_4_42, rs_x_4_43, rs_x_4_44, rs_x_4_47, rs_x_4_50, rs_x_4_51, rs_cn_n, rs_cn_i, rs_cn_r, rs_cn_t, rs_up_at, Nat.reduceAdd, Nat.reduceEqDiff, Nat.reduceSub, Int.reduceToNat, Int.reduceNeg, Int.reduceLE, Int.reduceLT, Int.reduceAdd, Int.reduceSub, Int.reduceMul, Int.add_sub_cancel, List.length_cons, List.length_nil, Nat.reduceLeDiff, Nat.reduceLT, Int.cast_ofNat_Int, true_and, and_true, and_self, false_and, and_false, ↓reduceIte, Nat.zero_le, or_true, true_or, false_or, or_false, Nat.sub_zero, Int.toNat_natCast, Nat.le_refl, implies_true, forall_const, Int.reduceEq, Nat.reduceMul, ne_eq, not_true_eq_false, not_false_eq_true, false_implies, true_implies, Nat.left_eq_add, Nat.add_eq_left]
  exact loop (I 6 2).toNat 0 (by omega)
