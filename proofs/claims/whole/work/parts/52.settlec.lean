/-! ===== the class settles ===== -/
def nt_net (I : rs_M) (n : Nat) : Prop := n ≤ 10 ∧ (0 ≤ I 6 2 ∧ I 6 2 ≤ 12) ∧ (∀ r, r < (I 6 2).toNat → nt_ok n (I (12 + r) 0) (I (12 + r) 1) (I (12 + r) 2) (I (12 + r) 3) (I (12 + r) 4)) ∧ (∀ t, t < 3 → 0 ≤ I (24 + 3 * t) 2 ∧ I (24 + 3 * t) 2 ≤ 10)
def nt_G (I : rs_M) (r : Nat) : Prop := r < (I 6 2).toNat ∧ I (12 + r) 5 ≠ 0
def nt_S (I : rs_M) (r : Nat) : Nat → Prop := bx_S (I (12 + r) 0) (I (12 + r) 1) (I (12 + r) 2) (I (12 + r) 3)
def nt_Q (I : rs_M) (r : Nat) : (Nat → Int) → Prop := bx_Q (nt_T I) (I (12 + r) 0) (I (12 + r) 1) (I (12 + r) 2) (I (12 + r) 3)
/-- nothing but the ranges q and the spans has changed -/
def nt_fr (q : Nat) (I J : rs_M) : Prop := ∀ a j, a ≠ q → a ≠ q + 1 → a ≠ q + 2 → (a < 9 ∨ 11 < a) → J a j = I a j
theorem nt_fr_tr {q : Nat} {I J L : rs_M} (h : nt_fr q I J) (g : nt_fr q J L) : nt_fr q I L := fun a j h1 h2 h3 h4 => (g a j h1 h2 h3 h4).trans (h a j h1 h2 h3 h4)
theorem nt_same {q : Nat} {I J : rs_M} (hq : 32 < q) (h : nt_fr q I J) : J 6 = I 6 ∧ (∀ r, r < 12 → J (12 + r) = I (12 + r)) ∧ (∀ t, t < 3 → J (24 + 3 * t) = I (24 + 3 * t) ∧ J (24 + 3 * t + 1) = I (24 + 3 * t + 1) ∧ J (24 + 3 * t + 2) = I (24 + 3 * t + 2)) := ⟨funext fun j => h _ _ (by omega) (by omega) (by omega) (by omega), fun r hr => funext fun j => h _ _ (by omega) (by omega) (by omega) (by omega), fun t ht => ⟨funext fun j => h _ _ (by omega) (by omega) (by omega) (by omega), funext fun j => h _ _ (by omega) (by omega) (by omega) (by omega), funext fun j => h _ _ (by omega) (by omega) (by omega) (by omega)⟩⟩
theorem nt_Qe {q r n : Nat} {I J : rs_M} (hq : 32 < q) (h : nt_fr q I J) (hr : r < 12) (hok : nt_ok n (I (12 + r) 0) (I (12 + r) 1) (I (12 + r) 2) (I (12 + r) 3) (I (12 + r) 4)) : bx_Q (nt_T J) (J (12 + r) 0) (J (12 + r) 1) (J (12 + r) 2) (J (12 + r) 3) = nt_Q I r := by
  obtain ⟨h1, h2, h3⟩ := nt_same hq h
  unfold nt_Q
  rw [h2 r hr]
  by_cases k8 : I (12 + r) 0 = 8
  · have hc : 0 ≤ I (12 + r) 3 ∧ I (12 + r) 3 < 3 := by
      rcases hok.2 with g | g | g | g
      · omega
      · omega
      · exact g.2.2.2
      · omega
    rw [k8, bx_Q8, bx_Q8]
    obtain ⟨t1, t2, t3⟩ := h3 (I (12 + r) 3).toNat (by omega)
    unfold nt_T
    rw [t1, t2, t3]
  · funext x
    unfold bx_Q
    rw [if_neg k8, if_neg k8]
theorem nt_fr_G {q : Nat} {I J : rs_M} (hq : 32 < q) (h : nt_fr q I J) {n : Nat} (net : nt_net I n) : nt_net J n := by
  obtain ⟨h1, h2, h3⟩ := nt_same hq h
  obtain ⟨n1, n2, n3, n4⟩ := net
  refine ⟨n1, by rw [h1]; exact n2, fun r hr => ?_, fun t ht => ?_⟩
  · rw [h1] at hr
    rw [h2 r (by omega)]
    exact n3 r hr
  · rw [(h3 t ht).1]
    exact n4 t ht
/-- what settling has done -/
def st_post (q n : Nat) (I J : rs_M) : Prop := nt_fr q I J ∧ ((J q 3 = 1 ∧ bx_brk n (nt_G I) (nt_S I) (nt_Q I) (I (q + 1)) (I (q + 2))) ∨ (J q 3 = 0 ∧ bx_fix n (nt_G I) (nt_S I) (nt_Q I) (I (q + 1)) (I (q + 2)) (J (q + 1)) (J (q + 2)) ∧ bx_ok 10 (J (q + 1)) (J (q + 2))))
/-- while settling, with D due -/
def st_inv (q n : Nat) (I J : rs_M) (D : Nat) : Prop := nt_fr q I J ∧ (∀ r, D.testBit r = true → nt_G I r) ∧ D < 4096 ∧ ((J q 3 = 1 ∧ bx_brk n (nt_G I) (nt_S I) (nt_Q I) (I (q + 1)) (I (q + 2))) ∨ (J q 3 = 0 ∧ cs_inv n (nt_G I) (nt_S I) (nt_Q I) (I (q + 1)) (I (q + 2)) (J (q + 1)) (J (q + 2)) (fun r => D.testBit r = true) ∧ bx_ok 10 (J (q + 1)) (J (q + 2))))
theorem st_end {q n D : Nat} {I J : rs_M} (h : st_inv q n I J D) (h0 : D = 0 ∨ J q 3 = 1) : st_post q n I J := by
  obtain ⟨h1, h2, h3, h4⟩ := h
  refine ⟨h1, ?_⟩
  rcases h4 with g | ⟨a, b, c⟩
  · exact Or.inl g
  · rcases h0 with g | g
    · subst g
      exact Or.inr ⟨a, cs_end b (fun r _ g => by simp at g), c⟩
    · omega
/-- within a round that began with J0, before relation r -/
def st_rd (q n r : Nat) (I J0 J : rs_M) (D : Nat) : Prop := st_inv q n I J D ∧ (J q 3 = 0 → bx_le 10 (J0 (q + 1)) (J0 (q + 2)) (J (q + 1)) (J (q + 2)) ∧ (mz (J (q + 1)) (J (q + 2)) 10 < mz (J0 (q + 1)) (J0 (q + 2)) 10 ∨ ∀ s, s < r → D.testBit s = false))
set_option maxRecDepth 100000 in
set_option maxHeartbeats 2000000 in
theorem st_il {u d q n : Nat} {l3 : Option rs_V} {I J0 : rs_M} {K : rs_K} (hd : 5 ≤ d) (hq : rs_isR q) (hq0 : 32 < q) (net : nt_net I n) (hK : ∀ J D l4 l5, st_rd q n (I 6 2).toNat I J0 J D ∨ (st_inv q n I J D ∧ J q 3 = 1) → rs_run u d 5 99 [some (.inr (.inr 6)), some (.inr (.inr q)), some (.inl (D : Int)), l3, l4, l5] [] J K) : ∀ (k r : Nat) (J : rs_M) (D : Nat) (l5 : Option rs_V), r + k = (I 6 2).toNat → st_rd q n r I J0 J D → rs_run u d 5 31 [some (.inr (.inr 6)), some (.inr (.inr q)), some (.inl (D : Int)), l3, some (.inl (r : Int)), l5] [] J K := by
  obtain ⟨q1, q2, q3, q4, q5⟩ := id hq
  have g6 : rs_sh 6 = (1, 1) := by decide +kernel
  have g7 : rs_sh 7 = (6, 12) := by decide +kernel
  have f6_0 : rs_rf 6 0 = 7 := by decide +kernel
  have hd0 : 0 < d := by omega
  have hd4 : 4 ≤ d - 1 := by omega
  have n2 := net.2.1
  intro k
  induction k with
  | zero =>
    intro r J D l5 e hJ
    have er : r = (I 6 2).toNat := by omega
    subst er
    have f := hK J D (some (.inl ((I 6 2).toNat : Int))) l5 (Or.inl hJ)
    have j6 := (nt_same hq0 hJ.1.1).1
    have le : I 6 2 ≤ ((I 6 2).toNat : Int) := by omega
    rw [rs_x_5_31]
    simp only [rs_x_5_0, rs_x_5_1, rs_x_5_2, rs_x_5_5, rs_x_5_8, rs_x_5_9, rs_x_5_10, rs_x_5_11, rs_x_5_12, rs_x_5_14, rs_x_5_17, rs_x_5_18, rs_x_5_21, rs_x_5_22, rs_x_5_25, rs_x_5_28, rs_x_5_29, rs_x_5_33, rs_x_5_34, rs_x_5_37, rs_x_5_40, rs_x_5_41, rs_x_5_44, rs_x_5_47, rs_x_5_48, rs_x_5_50, rs_x_5_51, rs_x_5_53, rs_x_5_54, rs_x_5_56, rs_x_5_57, rs_x_5_60, rs_x_5_61, rs_x_5_62, rs_x_5_65, rs_x_5_66, rs_x_5_67, rs_x_5_70, rs_x_5_72, rs_x_5_73, rs_x_5_74, rs_x_5_77, rs_x_5_78, rs_x_5_79, rs_x_5_80, rs_x_5_83, rs_x_5_86, rs_x_5_87, rs_x_5_89, rs_x_5_90, rs_x_5_91, rs_x_5_92, rs_x_5_93, rs_x_5_96, rs_x_5_102, rs_x_5_105, rs_cn_n, rs_cn_i, rs_cn_r, rs_cn_t, rs_up_at, Nat.reduceAdd, Nat.reduceEqDiff, Nat.reduceSub, Int.reduceToNat, Int.reduceNeg, Int.reduceLE, Int.reduceLT, Int.reduceAdd, Int.reduceSub, Int.reduceMul, Int.add_sub_cancel, List.length_cons, List.length_nil, Nat.reduceLeDiff, Nat.reduceLT, Int.cast_ofNat_Int, true_and, and_true, and_self, false_and, and_false, ↓reduceIte, Nat.zero_le, or_true, true_or, false_or, or_false, Nat.sub_zero, Int.toNat_natCast, Nat.le_refl, implies_true, forall_const, Int.reduceEq, Nat.reduceMul, ne_eq, not_true_eq_false, not_false_eq_true, false_implies, true_implies, Nat.left_eq_add, Nat.add_eq_left, g6, j6, le]
    exact f
  | succ k ih =>
    intro r J D l5 e hJ
    have fr := hJ.1.1
    obtain ⟨j6, jr, jt⟩ := nt_same hq0 fr
    have hr : r < 12 := by omega
    obtain ⟨r1, r2⟩ := gm_rel r hr
    have nle : (I 6 2 ≤ (r : Int)) = False := eq_false (by omega)
    have rb : 0 ≤ (r : Int) ∧ (r : Int) < 12 := by omega
    have rn : rs_R ((r : Int) + 1) := by unfold rs_R; omega
    have e1 := bt_shl1 r (by omega)
    have p2 := bt_pow (k := r) (by omega)
    have hDr := hJ.1.2.2.1
    rw [rs_x_5_31]
    by_cases b0 : J q 3 = 0
    · have e2 : (rs_and (D : Int) ((2 ^ r : Nat) : Int) = 0) ↔ D.testBit r = false := by
        by_cases lt : 2 ^ r < 4096
        · rw [bt_and0 (by omega) lt]
          constructor
          · intro g
            cases hb : D.testBit r with
            | false => rfl
            | true => exact absurd ⟨hb, by rw [Nat.testBit_two_pow]; simp⟩ (g r)
          · intro g j hj
            rw [Nat.testBit_two_pow] at hj
            simp only [decide_eq_true_eq] at hj
            rw [← hj.2, g] at hj
            exact absurd hj.1 (by simp)
        · exfalso
          have : (2 : Nat) ^ r < 2 ^ 12 := Nat.pow_lt_pow_right (by omega) hr
          omega
      cases hb : D.testBit r with
      | false =>
        have e3 := e2.mpr hb
        have i1 := ih (r + 1) J D (some (.inl ((2 ^ r : Nat) : Int))) (by omega) ⟨hJ.1, fun g => ⟨(hJ.2 g).1, by
          rcases (hJ.2 g).2 with a | a
          · exact Or.inl a
          · refine Or.inr fun s hs => ?_
            by_cases es : s = r
            · rw [es]; exact hb
            · exact a s (by omega)⟩⟩
        simp only [rs_x_5_0, rs_x_5_1, rs_x_5_2, rs_x_5_5, rs_x_5_8, rs_x_5_9, rs_x_5_10, rs_x_5_11, rs_x_5_12, rs_x_5_14, rs_x_5_17, rs_x_5_18, rs_x_5_21, rs_x_5_22, rs_x_5_25, rs_x_5_28, rs_x_5_29, rs_x_5_33, rs_x_5_34, rs_x_5_37, rs_x_5_40, rs_x_5_41, rs_x_5_44, rs_x_5_47, rs_x_5_48, rs_x_5_50, rs_x_5_51, rs_x_5_53, rs_x_5_54, rs_x_5_56, rs_x_5_57, rs_x_5_60, rs_x_5_61, rs_x_5_62, rs_x_5_65, rs_x_5_66, rs_x_5_67, rs_x_5_70, rs_x_5_72, rs_x_5_73, rs_x_5_74, rs_x_5_77, rs_x_5_78, rs_x_5_79, rs_x_5_80, rs_x_5_83, rs_x_5_86, rs_x_5_87, rs_x_5_89, rs_x_5_90, rs_x_5_91, rs_x_5_92, rs_x_5_93, rs_x_5_96, rs_x_5_102, rs_x_5_105, rs_cn_n, rs_cn_i, rs_cn_r, rs_cn_t, rs_up_at, Nat.reduceAdd, Nat.reduceEqDiff, Nat.reduceSub, Int.reduceToNat, Int.reduceNeg, Int.reduceLE, Int.reduceLT, Int.reduceAdd, Int.reduceSub, Int.reduceMul, Int.add_sub_cancel, List.length_cons, List.length_nil, Nat.reduceLeDiff, Nat.reduceLT, Int.cast_ofNat_Int, true_and, and_true, and_self, false_and, and_false, ↓reduceIte, Nat.zero_le, or_true, true_or, false_or, or_false, Nat.sub_zero, Int.toNat_natCast, Nat.le_refl, implies_true, forall_const, Int.reduceEq, Nat.reduceMul, ne_eq, not_true_eq_false, not_false_eq_true, false_implies, true_implies, Nat.left_eq_add, Nat.add_eq_left, q1, q2, q3, q4, q5, g6, j6, nle, b0, e1, e3]
        exact ⟨rn, i1⟩
      | true =>
        have e3 : ¬ rs_and (D : Int) ((2 ^ r : Nat) : Int) = 0 := fun g => by
          have := e2.mp g
          rw [hb] at this
          cases this
        obtain ⟨⟨_, hG, hD, hcs⟩, hrd⟩ := hJ
        obtain ⟨_, cs, ok⟩ := hcs.resolve_left (fun g => by omega)
        obtain ⟨le0, mz0⟩ := hrd b0
        have hGr := hG r hb
        have okr := net.2.2.1 r hGr.1
        simp only [rs_x_5_0, rs_x_5_1, rs_x_5_2, rs_x_5_5, rs_x_5_8, rs_x_5_9, rs_x_5_10, rs_x_5_11, rs_x_5_12, rs_x_5_14, rs_x_5_17, rs_x_5_18, rs_x_5_21, rs_x_5_22, rs_x_5_25, rs_x_5_28, rs_x_5_29, rs_x_5_33, rs_x_5_34, rs_x_5_37, rs_x_5_40, rs_x_5_41, rs_x_5_44, rs_x_5_47, rs_x_5_48, rs_x_5_50, rs_x_5_51, rs_x_5_53, rs_x_5_54, rs_x_5_56, rs_x_5_57, rs_x_5_60, rs_x_5_61, rs_x_5_62, rs_x_5_65, rs_x_5_66, rs_x_5_67, rs_x_5_70, rs_x_5_72, rs_x_5_73, rs_x_5_74, rs_x_5_77, rs_x_5_78, rs_x_5_79, rs_x_5_80, rs_x_5_83, rs_x_5_86, rs_x_5_87, rs_x_5_89, rs_x_5_90, rs_x_5_91, rs_x_5_92, rs_x_5_93, rs_x_5_96, rs_x_5_102, rs_x_5_105, rs_cn_n, rs_cn_i, rs_cn_r, rs_cn_t, rs_up_at, Nat.reduceAdd, Nat.reduceEqDiff, Nat.reduceSub, Int.reduceToNat, Int.reduceNeg, Int.reduceLE, Int.reduceLT, Int.reduceAdd, Int.reduceSub, Int.reduceMul, Int.add_sub_cancel, List.length_cons, List.length_nil, Nat.reduceLeDiff, Nat.reduceLT, Int.cast_ofNat_Int, true_and, and_true, and_self, false_and, and_false, ↓reduceIte, Nat.zero_le, or_true, true_or, false_or, or_false, Nat.sub_zero, Int.toNat_natCast, Nat.le_refl, implies_true, forall_const, Int.reduceEq, Nat.reduceMul, ne_eq, not_true_eq_false, not_false_eq_true, false_implies, true_implies, Nat.left_eq_add, Nat.add_eq_left, q1, q2, q3, q4, q5, g6, g7, f6_0, j6, nle, b0, e1, e3, rb, r1]
        refine ⟨hd0, ?_⟩
        -- changed is cleared
        have f1 : nt_fr q J (rs_up J q 2 0) := fun a j h _ _ _ => by rw [rs_up_at, if_neg (fun g => h g.1)]
        have m1 : rs_up J q 2 0 (q + 1) = J (q + 1) := by funext j; simp [rs_up_at]
        have m2 : rs_up J q 2 0 (q + 2) = J (q + 2) := by funext j; simp [rs_up_at]
        have m3 : rs_up J q 2 0 q 3 = 0 := by simp [rs_up_at, b0]
        have m4 : rs_up J q 2 0 q 2 = 0 := by simp [rs_up_at]
        have fI := nt_fr_tr fr f1
        obtain ⟨k6, kr, kt⟩ := nt_same hq0 fI
        generalize rs_up J q 2 0 = J1 at f1 m1 m2 m3 m4 fI k6 kr kt ⊢
        refine ct_narrowBy (n := n) hd4 hq hq0 hr net.1 m4 m3 rfl rfl rfl rfl (by rw [kr r hr]; exact okr) (by rw [m1, m2]; exact ok) (fun t ht => by rw [(kt t ht).1]; exact net.2.2.2 t ht) fun J2 hJ2 => ?_
        rw [nt_Qe hq0 fI hr okr, kr r hr] at hJ2
        obtain ⟨f2, ⟨mc, mc1, mc2⟩, hres⟩ := hJ2
        rw [m1, m2] at hres
        have fI2 := nt_fr_tr fI f2
        obtain ⟨s6, sr, st⟩ := nt_same hq0 fI2
        simp only [rs_x_5_0, rs_x_5_1, rs_x_5_2, rs_x_5_5, rs_x_5_8, rs_x_5_9, rs_x_5_10, rs_x_5_11, rs_x_5_12, rs_x_5_14, rs_x_5_17, rs_x_5_18, rs_x_5_21, rs_x_5_22, rs_x_5_25, rs_x_5_28, rs_x_5_29, rs_x_5_33, rs_x_5_34, rs_x_5_37, rs_x_5_40, rs_x_5_41, rs_x_5_44, rs_x_5_47, rs_x_5_48, rs_x_5_50, rs_x_5_51, rs_x_5_53, rs_x_5_54, rs_x_5_56, rs_x_5_57, rs_x_5_60, rs_x_5_61, rs_x_5_62, rs_x_5_65, rs_x_5_66, rs_x_5_67, rs_x_5_70, rs_x_5_72, rs_x_5_73, rs_x_5_74, rs_x_5_77, rs_x_5_78, rs_x_5_79, rs_x_5_80, rs_x_5_83, rs_x_5_86, rs_x_5_87, rs_x_5_89, rs_x_5_90, rs_x_5_91, rs_x_5_92, rs_x_5_93, rs_x_5_96, rs_x_5_102, rs_x_5_105, rs_cn_n, rs_cn_i, rs_cn_r, rs_cn_t, rs_up_at, Nat.reduceAdd, Nat.reduceEqDiff, Nat.reduceSub, Int.reduceToNat, Int.reduceNeg, Int.reduceLE, Int.reduceLT, Int.reduceAdd, Int.reduceSub, Int.reduceMul, Int.add_sub_cancel, List.length_cons, List.length_nil, Nat.reduceLeDiff, Nat.reduceLT, Int.cast_ofNat_Int, true_and, and_true, and_self, false_and, and_false, ↓reduceIte, Nat.zero_le, or_true, true_or, false_or, or_false, Nat.sub_zero, Int.toNat_natCast, Nat.le_refl, implies_true, forall_const, Int.reduceEq, Nat.reduceMul, ne_eq, not_true_eq_false, not_false_eq_true, false_implies, true_implies, Nat.left_eq_add, Nat.add_eq_left, q1, q2, q3, q4, q5, g6, g7, f6_0, mc2]
        refine ⟨hd0, ct_touching (by rw [s6]; exact n2) mc1 (fun s hs => ?_) fun T hT hTb => ?_⟩
        · rw [s6] at hs
          rw [sr s (by omega)]
          obtain ⟨mm, a1, a2, _⟩ := nt_mask net.1 (net.2.2.1 s hs)
          omega
        have eo := bt_or D T (by omega) (by omega)
        have lo : D ||| T < 4096 := Nat.or_lt_two_pow (n := 12) hD hT
        have ec := bt_clr (x := D ||| T) (r := r) lo hr
        rw [e1] at ec
        have l2 : (D ||| T) ^^^ ((D ||| T) &&& 2 ^ r) < 4096 := Nat.xor_lt_two_pow (n := 12) lo (Nat.lt_of_le_of_lt Nat.and_le_left lo)
        have bits : ∀ s, ((D ||| T) ^^^ ((D ||| T) &&& 2 ^ r)).testBit s = true ↔ (D.testBit s = true ∨ T.testBit s = true) ∧ s ≠ r := fun s => by
          rw [bt_clrb, Nat.testBit_or, Bool.or_eq_true]
        generalize ((D ||| T) ^^^ ((D ||| T) &&& 2 ^ r)) = D' at ec l2 bits
        have hTG : ∀ s, T.testBit s = true ↔ nt_G I s ∧ ∃ j, nt_S I s j ∧ mc.testBit j = true := fun s => by
          rw [hTb s, s6]
          unfold nt_G nt_S
          rw [and_assoc]
          refine and_congr_right fun g => ?_
          rw [sr s (by omega)]
          obtain ⟨mm, a1, a2, _, a4, _⟩ := nt_mask net.1 (net.2.2.1 s g)
          rw [a2, Int.toNat_natCast]
          refine and_congr_right fun _ => ?_
          exact ⟨fun ⟨j, g1, g2⟩ => ⟨j, (a4 j).mp g1, g2⟩, fun ⟨j, g1, g2⟩ => ⟨j, (a4 j).mpr g1, g2⟩⟩
        have hG' : ∀ s, D'.testBit s = true → nt_G I s := fun s hs => by
          rcases ((bits s).mp hs).1 with g | g
          · exact hG s g
          · exact ((hTG s).mp g).1
        obtain ⟨mm, a1, a2, _, a4, a5, a6⟩ := nt_mask net.1 okr
        have ok1 : bx_ok n (J (q + 1)) (J (q + 2)) := cs.1
        have nx : st_rd q n (r + 1) I J0 J2 D' := by
          rcases hres with ⟨c1, c2⟩ | ⟨c1, c2, c3, c4, ⟨mc', x1, x2, x3⟩, c5, c6⟩
          · exact ⟨⟨fI2, hG', l2, Or.inl ⟨c1, kp_brk cs.2.2.1 hGr a5 a6 c2⟩⟩, fun g => by omega⟩
          · have emc : mc' = mc := by omega
            subst emc
            unfold rg_sm at c3 c4 x3
            rw [m1, m2] at c3 c4 x3
            have ok2 : bx_ok 10 (J2 (q + 1)) (J2 (q + 2)) := fun j hj => by
              have o := ok j hj
              have w := c2 j
              by_cases g : J2 (q + 1) j = J (q + 1) j ∧ J2 (q + 2) j = J (q + 2) j
              · omega
              · have := c3 j g
                omega
            refine ⟨⟨fI2, hG', l2, Or.inr ⟨c1, cs_step cs hGr a5 (fun j hj => ok2 j (by have := net.1; omega)) (fun j _ => c2 j) c5 c6 (fun j hj => c4 j hj) (fun s hs ne du => (bits s).mpr ⟨?_, ne⟩), ok2⟩⟩, fun _ => ⟨bx_le_tr le0 (fun j _ => c2 j), ?_⟩⟩
            · rcases du with g | ⟨j, g1, g2⟩
              · exact Or.inl g
              · exact Or.inr ((hTG s).mpr ⟨hs, j, g1, (x3 j).mpr g2⟩)
            · by_cases ch : ∃ j, ¬ (J2 (q + 1) j = J (q + 1) j ∧ J2 (q + 2) j = J (q + 2) j)
              · obtain ⟨j, hj⟩ := ch
                have hj10 : j < 10 := by
                  have : nt_S I r j := Classical.byContradiction fun n => hj (c4 j n)
                  have := a5 j this
                  have := net.1
                  omega
                have := mz_lt (lo := J (q + 1)) (hi := J (q + 2)) (lo' := J2 (q + 1)) (hi' := J2 (q + 2)) 10 (fun j _ => c2 j) ⟨j, hj10, c3 j hj, hj⟩
                have := mz_le 10 le0
                exact Or.inl (by omega)
              · rcases mz0 with g | g
                · have := mz_le (lo := J (q + 1)) (hi := J (q + 2)) (lo' := J2 (q + 1)) (hi' := J2 (q + 2)) 10 (fun j _ => c2 j)
                  exact Or.inl (by omega)
                · refine Or.inr fun s hs => ?_
                  cases hsb : D'.testBit s with
                  | false => rfl
                  | true =>
                    obtain ⟨w1, w2⟩ := (bits s).mp hsb
                    rcases w1 with w | w
                    · rw [g s (by omega)] at w; cases w
                    · obtain ⟨_, j, _, w4⟩ := (hTG s).mp w
                      exact absurd ⟨j, (x3 j).mp w4⟩ ch
        have i1 := ih (r + 1) J2 D' (some (.inl ((2 ^ r : Nat) : Int))) (by omega) nx
        simp only [rs_x_5_0, rs_x_5_1, rs_x_5_2, rs_x_5_5, rs_x_5_8, rs_x_5_9, rs_x_5_10, rs_x_5_11, rs_x_5_12, rs_x_5_14, rs_x_5_17, rs_x_5_18, rs_x_5_21, rs_x_5_22, rs_x_5_25, rs_x_5_28, rs_x_5_29, rs_x_5_33, rs_x_5_34, rs_x_5_37, rs_x_5_40, rs_x_5_41, rs_x_5_44, rs_x_5_47, rs_x_5_48, rs_x_5_50, rs_x_5_51, rs_x_5_53, rs_x_5_54, rs_x_5_56, rs_x_5_57, rs_x_5_60, rs_x_5_61, rs_x_5_62, rs_x_5_65, rs_x_5_66, rs_x_5_67, rs_x_5_70, rs_x_5_72, rs_x_5_73, rs_x_5_74, rs_x_5_77, rs_x_5_78, rs_x_5_79, rs_x_5_80, rs_x_5_83, rs_x_5_86, rs_x_5_87, rs_x_5_89, rs_x_5_90, rs_x_5_91, rs_x_5_92, rs_x_5_93, rs_x_5_96, rs_x_5_102, rs_x_5_105, rs_cn_n, rs_cn_i, rs_cn_r, rs_cn_t, rs_up_at, Nat.reduceAdd, Nat.reduceEqDiff, Nat.reduceSub, Int.reduceToNat, Int.reduceNeg, Int.reduceLE, Int.reduceLT, Int.reduceAdd, Int.reduceSub, Int.reduceMul, Int.add_sub_cancel, List.length_cons, List.length_nil, Nat.reduceLeDiff, Nat.reduceLT, Int.cast_ofNat_Int, true_and, and_true, and_self, false_and, and_false, ↓reduceIte, Nat.zero_le, or_true, true_or, false_or, or_false, Nat.sub_zero, Int.toNat_natCast, Nat.le_refl, implies_true, forall_const, Int.reduceEq, Nat.reduceMul, ne_eq, not_true_eq_false, not_false_eq_true, false_implies, true_implies, Nat.left_eq_add, Nat.add_eq_left, q1, q2, q3, q4, q5, g6, g7, f6_0, eo, ec]
        exact ⟨rn, i1⟩
    · have b1 : J q 3 = 1 := by
        rcases hJ.1.2.2.2 with g | g
        · exact g.1
        · exact absurd g.1 b0
      have f := hK J D (some (.inl (r : Int))) l5 (Or.inr ⟨hJ.1, b1⟩)
      simp only [rs_x_5_0, rs_x_5_1, rs_x_5_2, rs_x_5_5, rs_x_5_8, rs_x_5_9, rs_x_5_10, rs_x_5_11, rs_x_5_12, rs_x_5_14, rs_x_5_17, rs_x_5_18, rs_x_5_21, rs_x_5_22, rs_x_5_25, rs_x_5_28, rs_x_5_29, rs_x_5_33, rs_x_5_34, rs_x_5_37, rs_x_5_40, rs_x_5_41, rs_x_5_44, rs_x_5_47, rs_x_5_48, rs_x_5_50, rs_x_5_51, rs_x_5_53, rs_x_5_54, rs_x_5_56, rs_x_5_57, rs_x_5_60, rs_x_5_61, rs_x_5_62, rs_x_5_65, rs_x_5_66, rs_x_5_67, rs_x_5_70, rs_x_5_72, rs_x_5_73, rs_x_5_74, rs_x_5_77, rs_x_5_78, rs_x_5_79, rs_x_5_80, rs_x_5_83, rs_x_5_86, rs_x_5_87, rs_x_5_89, rs_x_5_90, rs_x_5_91, rs_x_5_92, rs_x_5_93, rs_x_5_96, rs_x_5_102, rs_x_5_105, rs_cn_n, rs_cn_i, rs_cn_r, rs_cn_t, rs_up_at, Nat.reduceAdd, Nat.reduceEqDiff, Nat.reduceSub, Int.reduceToNat, Int.reduceNeg, Int.reduceLE, Int.reduceLT, Int.reduceAdd, Int.reduceSub, Int.reduceMul, Int.add_sub_cancel, List.length_cons, List.length_nil, Nat.reduceLeDiff, Nat.reduceLT, Int.cast_ofNat_Int, true_and, and_true, and_self, false_and, and_false, ↓reduceIte, Nat.zero_le, or_true, true_or, false_or, or_false, Nat.sub_zero, Int.toNat_natCast, Nat.le_refl, implies_true, forall_const, Int.reduceEq, Nat.reduceMul, ne_eq, not_true_eq_false, not_false_eq_true, false_implies, true_implies, Nat.left_eq_add, Nat.add_eq_left, q1, q2, q3, q4, q5, g6, j6, nle, b0, b1]
      exact f
set_option maxRecDepth 100000 in
set_option maxHeartbeats 2000000 in
theorem ct_settle {u d q n x : Nat} {I : rs_M} {K : rs_K} (hd : 5 ≤ d) (hq : rs_isR q) (hq0 : 32 < q) (net : nt_net I n) (hx : x < 1024) (ex : I q 2 = (x : Int)) (h3 : I q 3 = 0) (hok : bx_ok 10 (I (q + 1)) (I (q + 2))) (hsup : ∀ r, nt_G I r → (∀ j, nt_S I r j → ¬ x.testBit j = true) → bx_sup (nt_S I r) (nt_Q I r) (I (q + 1)) (I (q + 2))) (hK : ∀ J, st_post q n I J → K none J) : rs_run u d 5 0 (rs_en0 [.inr (.inr 6), .inr (.inr q)] 6) [] I K := by
  show rs_run u d 5 0 [some (.inr (.inr 6)), some (.inr (.inr q)), none, none, none, none] [] I K
  obtain ⟨q1, q2, q3, q4, q5⟩ := id hq
  have g6 : rs_sh 6 = (1, 1) := by decide +kernel
  have g7 : rs_sh 7 = (6, 12) := by decide +kernel
  have f6_0 : rs_rf 6 0 = 7 := by decide +kernel
  have hd0 : 0 < d := by omega
  have n2 := net.2.1
  have loop : ∀ (N r : Nat) (J : rs_M) (D : Nat) (l4 l5 : Option rs_V), r + N ≤ 1000000 → st_inv q n I J D → (J q 3 = 0 → D ≠ 0 → mz (J (q + 1)) (J (q + 2)) 10 < N) → rs_run u d 5 11 [some (.inr (.inr 6)), some (.inr (.inr q)), some (.inl (D : Int)), some (.inl (r : Int)), l4, l5] [] J K := by
    intro N
    induction N with
    | zero =>
      intro r J D l4 l5 er hJ hm
      have f : D = 0 ∨ J q 3 = 1 → K none J := fun h => hK J (st_end hJ h)
      have b01 : J q 3 = 0 ∨ J q 3 = 1 := by
        rcases hJ.2.2.2 with g | g
        · exact Or.inr g.1
        · exact Or.inl g.1
      by_cases dz : D = 0
      · have f' := f (Or.inl dz)
        subst dz
        rw [rs_x_5_11]
        simp only [rs_x_5_0, rs_x_5_1, rs_x_5_2, rs_x_5_5, rs_x_5_8, rs_x_5_9, rs_x_5_10, rs_x_5_12, rs_x_5_14, rs_x_5_17, rs_x_5_18, rs_x_5_21, rs_x_5_22, rs_x_5_25, rs_x_5_28, rs_x_5_29, rs_x_5_33, rs_x_5_34, rs_x_5_37, rs_x_5_40, rs_x_5_41, rs_x_5_44, rs_x_5_47, rs_x_5_48, rs_x_5_50, rs_x_5_51, rs_x_5_53, rs_x_5_54, rs_x_5_56, rs_x_5_57, rs_x_5_60, rs_x_5_61, rs_x_5_62, rs_x_5_65, rs_x_5_66, rs_x_5_67, rs_x_5_70, rs_x_5_72, rs_x_5_73, rs_x_5_74, rs_x_5_77, rs_x_5_78, rs_x_5_79, rs_x_5_80, rs_x_5_83, rs_x_5_86, rs_x_5_87, rs_x_5_89, rs_x_5_90, rs_x_5_91, rs_x_5_92, rs_x_5_93, rs_x_5_96, rs_x_5_99, rs_x_5_102, rs_x_5_105, rs_cn_n, rs_cn_i, rs_cn_r, rs_cn_t, rs_up_at, Nat.reduceAdd, Nat.reduceEqDiff, Nat.reduceSub, Int.reduceToNat, Int.reduceNeg, Int.reduceLE, Int.reduceLT, Int.reduceAdd, Int.reduceSub, Int.reduceMul, Int.add_sub_cancel, List.length_cons, List.length_nil, Nat.reduceLeDiff, Nat.reduceLT, Int.cast_ofNat_Int, true_and, and_true, and_self, false_and, and_false, ↓reduceIte, Nat.zero_le, or_true, true_or, false_or, or_false, Nat.sub_zero, Int.toNat_natCast, Nat.le_refl, implies_true, forall_const, Int.reduceEq, Nat.reduceMul, ne_eq, not_true_eq_false, not_false_eq_true, false_implies, true_implies, Nat.left_eq_add, Nat.add_eq_left, q1, q2, q3, q4, q5]
        exact ⟨fun _ => f', fun _ => f'⟩
      · have b1 : J q 3 = 1 := by
          rcases b01 with g | g
          · have := hm g dz
            omega
          · exact g
        have f' := f (Or.inr b1)
        rw [rs_x_5_11]
        simp only [rs_x_5_0, rs_x_5_1, rs_x_5_2, rs_x_5_5, rs_x_5_8, rs_x_5_9, rs_x_5_10, rs_x_5_12, rs_x_5_14, rs_x_5_17, rs_x_5_18, rs_x_5_21, rs_x_5_22, rs_x_5_25, rs_x_5_28, rs_x_5_29, rs_x_5_33, rs_x_5_34, rs_x_5_37, rs_x_5_40, rs_x_5_41, rs_x_5_44, rs_x_5_47, rs_x_5_48, rs_x_5_50, rs_x_5_51, rs_x_5_53, rs_x_5_54, rs_x_5_56, rs_x_5_57, rs_x_5_60, rs_x_5_61, rs_x_5_62, rs_x_5_65, rs_x_5_66, rs_x_5_67, rs_x_5_70, rs_x_5_72, rs_x_5_73, rs_x_5_74, rs_x_5_77, rs_x_5_78, rs_x_5_79, rs_x_5_80, rs_x_5_83, rs_x_5_86, rs_x_5_87, rs_x_5_89, rs_x_5_90, rs_x_5_91, rs_x_5_92, rs_x_5_93, rs_x_5_96, rs_x_5_99, rs_x_5_102, rs_x_5_105, rs_cn_n, rs_cn_i, rs_cn_r, rs_cn_t, rs_up_at, Nat.reduceAdd, Nat.reduceEqDiff, Nat.reduceSub, Int.reduceToNat, Int.reduceNeg, Int.reduceLE, Int.reduceLT, Int.reduceAdd, Int.reduceSub, Int.reduceMul, Int.add_sub_cancel, List.length_cons, List.length_nil, Nat.reduceLeDiff, Nat.reduceLT, Int.cast_ofNat_Int, true_and, and_true, and_self, false_and, and_false, ↓reduceIte, Nat.zero_le, or_true, true_or, false_or, or_false, Nat.sub_zero, Int.toNat_natCast, Nat.le_refl, implies_true, forall_const, Int.reduceEq, Nat.reduceMul, ne_eq, not_true_eq_false, not_false_eq_true, false_implies, true_implies, Nat.left_eq_add, Nat.add_eq_left, q1, q2, q3, q4, q5, b1]
        repeat' (first
    | refine And.intro ?_ ?_
    | (guard_target =~ (_ → _); intro)
    | omega
    | (unfold rs_R; omega)
    | exact f'
    | decide)
    | succ N ih =>
      intro r J D l4 l5 er hJ hm
      have f : D = 0 ∨ J q 3 = 1 → K none J := fun h => hK J (st_end hJ h)
      have nr : ((1000000 : Int) ≤ (r : Int)) = False := eq_false (by omega)
      have rn : rs_R ((r : Int) + 1) := by unfold rs_R; omega
      rw [rs_x_5_11]
      by_cases dz : D = 0
      · have f' := f (Or.inl dz)
        subst dz
        simp only [rs_x_5_0, rs_x_5_1, rs_x_5_2, rs_x_5_5, rs_x_5_8, rs_x_5_9, rs_x_5_10, rs_x_5_12, rs_x_5_14, rs_x_5_17, rs_x_5_18, rs_x_5_21, rs_x_5_22, rs_x_5_25, rs_x_5_28, rs_x_5_29, rs_x_5_33, rs_x_5_34, rs_x_5_37, rs_x_5_40, rs_x_5_41, rs_x_5_44, rs_x_5_47, rs_x_5_48, rs_x_5_50, rs_x_5_51, rs_x_5_53, rs_x_5_54, rs_x_5_56, rs_x_5_57, rs_x_5_60, rs_x_5_61, rs_x_5_62, rs_x_5_65, rs_x_5_66, rs_x_5_67, rs_x_5_70, rs_x_5_72, rs_x_5_73, rs_x_5_74, rs_x_5_77, rs_x_5_78, rs_x_5_79, rs_x_5_80, rs_x_5_83, rs_x_5_86, rs_x_5_87, rs_x_5_89, rs_x_5_90, rs_x_5_91, rs_x_5_92, rs_x_5_93, rs_x_5_96, rs_x_5_99, rs_x_5_102, rs_x_5_105, rs_cn_n, rs_cn_i, rs_cn_r, rs_cn_t, rs_up_at, Nat.reduceAdd, Nat.reduceEqDiff, Nat.reduceSub, Int.reduceToNat, Int.reduceNeg, Int.reduceLE, Int.reduceLT, Int.reduceAdd, Int.reduceSub, Int.reduceMul, Int.add_sub_cancel, List.length_cons, List.length_nil, Nat.reduceLeDiff, Nat.reduceLT, Int.cast_ofNat_Int, true_and, and_true, and_self, false_and, and_false, ↓reduceIte, Nat.zero_le, or_true, true_or, false_or, or_false, Nat.sub_zero, Int.toNat_natCast, Nat.le_refl, implies_true, forall_const, Int.reduceEq, Nat.reduceMul, ne_eq, not_true_eq_false, not_false_eq_true, false_implies, true_implies, Nat.left_eq_add, Nat.add_eq_left, q1, q2, q3, q4, q5, nr]
        exact f'
      · have dz' : ((D : Int) = 0) = False := eq_false (by omega)
        by_cases b0 : J q 3 = 0
        · have hm' := hm b0 dz
          simp only [rs_x_5_0, rs_x_5_1, rs_x_5_2, rs_x_5_5, rs_x_5_8, rs_x_5_9, rs_x_5_10, rs_x_5_12, rs_x_5_14, rs_x_5_17, rs_x_5_18, rs_x_5_21, rs_x_5_22, rs_x_5_25, rs_x_5_28, rs_x_5_29, rs_x_5_33, rs_x_5_34, rs_x_5_37, rs_x_5_40, rs_x_5_41, rs_x_5_44, rs_x_5_47, rs_x_5_48, rs_x_5_50, rs_x_5_51, rs_x_5_53, rs_x_5_54, rs_x_5_56, rs_x_5_57, rs_x_5_60, rs_x_5_61, rs_x_5_62, rs_x_5_65, rs_x_5_66, rs_x_5_67, rs_x_5_70, rs_x_5_72, rs_x_5_73, rs_x_5_74, rs_x_5_77, rs_x_5_78, rs_x_5_79, rs_x_5_80, rs_x_5_83, rs_x_5_86, rs_x_5_87, rs_x_5_89, rs_x_5_90, rs_x_5_91, rs_x_5_92, rs_x_5_93, rs_x_5_96, rs_x_5_99, rs_x_5_102, rs_x_5_105, rs_cn_n, rs_cn_i, rs_cn_r, rs_cn_t, rs_up_at, Nat.reduceAdd, Nat.reduceEqDiff, Nat.reduceSub, Int.reduceToNat, Int.reduceNeg, Int.reduceLE, Int.reduceLT, Int.reduceAdd, Int.reduceSub, Int.reduceMul, Int.add_sub_cancel, List.length_cons, List.length_nil, Nat.reduceLeDiff, Nat.reduceLT, Int.cast_ofNat_Int, true_and, and_true, and_self, false_and, and_false, ↓reduceIte, Nat.zero_le, or_true, true_or, false_or, or_false, Nat.sub_zero, Int.toNat_natCast, Nat.le_refl, implies_true, forall_const, Int.reduceEq, Nat.reduceMul, ne_eq, not_true_eq_false, not_false_eq_true, false_implies, true_implies, Nat.left_eq_add, Nat.add_eq_left, q1, q2, q3, q4, q5, nr, dz', b0]
          refine st_il hd hq hq0 net (J0 := J) (fun L E l4 l5 hL => ?_) (I 6 2).toNat 0 J D _ (by omega) ⟨hJ, fun _ => ⟨bx_le_rf, Or.inr fun s hs => by omega⟩⟩
          have hL1 : st_inv q n I L E := by
            rcases hL with g | g
            · exact g.1
            · exact g.1
          have i1 := ih (r + 1) L E l4 l5 (by omega) hL1 (fun g ne => by
            rcases hL with a | a
            · rcases (a.2 g).2 with b | b
              · omega
              · exfalso
                apply ne
                apply Nat.eq_of_testBit_eq
                intro s
                rw [Nat.zero_testBit]
                cases hb : E.testBit s with
                | false => rfl
                | true =>
                  have := b s (hL1.2.1 s hb).1
                  rw [hb] at this
                  cases this
            · omega)
          rw [rs_x_5_99]
          simp only [rs_x_5_0, rs_x_5_1, rs_x_5_2, rs_x_5_5, rs_x_5_8, rs_x_5_9, rs_x_5_10, rs_x_5_12, rs_x_5_14, rs_x_5_17, rs_x_5_18, rs_x_5_21, rs_x_5_22, rs_x_5_25, rs_x_5_28, rs_x_5_29, rs_x_5_31, rs_x_5_33, rs_x_5_34, rs_x_5_37, rs_x_5_40, rs_x_5_41, rs_x_5_44, rs_x_5_47, rs_x_5_48, rs_x_5_50, rs_x_5_51, rs_x_5_53, rs_x_5_54, rs_x_5_56, rs_x_5_57, rs_x_5_60, rs_x_5_61, rs_x_5_62, rs_x_5_65, rs_x_5_66, rs_x_5_67, rs_x_5_70, rs_x_5_72, rs_x_5_73, rs_x_5_74, rs_x_5_77, rs_x_5_78, rs_x_5_79, rs_x_5_80, rs_x_5_83, rs_x_5_86, rs_x_5_87, rs_x_5_89, rs_x_5_90, rs_x_5_91, rs_x_5_92, rs_x_5_93, rs_x_5_96, rs_x_5_102, rs_x_5_105, rs_cn_n, rs_cn_i, rs_cn_r, rs_cn_t, rs_up_at, Nat.reduceAdd, Nat.reduceEqDiff, Nat.reduceSub, Int.reduceToNat, Int.reduceNeg, Int.reduceLE, Int.reduceLT, Int.reduceAdd, Int.reduceSub, Int.reduceMul, Int.add_sub_cancel, List.length_cons, List.length_nil, Nat.reduceLeDiff, Nat.reduceLT, Int.cast_ofNat_Int, true_and, and_true, and_self, false_and, and_false, ↓reduceIte, Nat.zero_le, or_true, true_or, false_or, or_false, Nat.sub_zero, Int.toNat_natCast, Nat.le_refl, implies_true, forall_const, Int.reduceEq, Nat.reduceMul, ne_eq, not_true_eq_false, not_false_eq_true, false_implies, true_implies, Nat.left_eq_add, Nat.add_eq_left]
          exact ⟨rn, i1⟩
        · have b1 : J q 3 = 1 := by
            rcases hJ.2.2.2 with g | g
            · exact g.1
            · exact absurd g.1 b0
          have f' := f (Or.inr b1)
          simp only [rs_x_5_0, rs_x_5_1, rs_x_5_2, rs_x_5_5, rs_x_5_8, rs_x_5_9, rs_x_5_10, rs_x_5_12, rs_x_5_14, rs_x_5_17, rs_x_5_18, rs_x_5_21, rs_x_5_22, rs_x_5_25, rs_x_5_28, rs_x_5_29, rs_x_5_33, rs_x_5_34, rs_x_5_37, rs_x_5_40, rs_x_5_41, rs_x_5_44, rs_x_5_47, rs_x_5_48, rs_x_5_50, rs_x_5_51, rs_x_5_53, rs_x_5_54, rs_x_5_56, rs_x_5_57, rs_x_5_60, rs_x_5_61, rs_x_5_62, rs_x_5_65, rs_x_5_66, rs_x_5_67, rs_x_5_70, rs_x_5_72, rs_x_5_73, rs_x_5_74, rs_x_5_77, rs_x_5_78, rs_x_5_79, rs_x_5_80, rs_x_5_83, rs_x_5_86, rs_x_5_87, rs_x_5_89, rs_x_5_90, rs_x_5_91, rs_x_5_92, rs_x_5_93, rs_x_5_96, rs_x_5_99, rs_x_5_102, rs_x_5_105, rs_cn_n, rs_cn_i, rs_cn_r, rs_cn_t, rs_up_at, Nat.reduceAdd, Nat.reduceEqDiff, Nat.reduceSub, Int.reduceToNat, Int.reduceNeg, Int.reduceLE, Int.reduceLT, Int.reduceAdd, Int.reduceSub, Int.reduceMul, Int.add_sub_cancel, List.length_cons, List.length_nil, Nat.reduceLeDiff, Nat.reduceLT, Int.cast_ofNat_Int, true_and, and_true, and_self, false_and, and_false, ↓reduceIte, Nat.zero_le, or_true, true_or, false_or, or_false, Nat.sub_zero, Int.toNat_natCast, Nat.le_refl, implies_true, forall_const, Int.reduceEq, Nat.reduceMul, ne_eq, not_true_eq_false, not_false_eq_true, false_implies, true_implies, Nat.left_eq_add, Nat.add_eq_left, q1, q2, q3, q4, q5, nr, dz', b1]
          exact f'
  simp only [rs_x_5_0, rs_x_5_1, rs_x_5_2, rs_x_5_5, rs_x_5_8, rs_x_5_9, rs_x_5_10, rs_x_5_12, rs_x_5_14, rs_x_5_17, rs_x_5_18, rs_x_5_21, rs_x_5_22, rs_x_5_25, rs_x_5_28, rs_x_5_29, rs_x_5_31, rs_x_5_33, rs_x_5_34, rs_x_5_37, rs_x_5_40, rs_x_5_41, rs_x_5_44, rs_x_5_47, rs_x_5_48, rs_x_5_50, rs_x_5_51, rs_x_5_53, rs_x_5_54, rs_x_5_56, rs_x_5_57, rs_x_5_60, rs_x_5_61, rs_x_5_62, rs_x_5_65, rs_x_5_66, rs_x_5_67, rs_x_5_70, rs_x_5_72, rs_x_5_73, rs_x_5_74, rs_x_5_77, rs_x_5_78, rs_x_5_79, rs_x_5_80, rs_x_5_83, rs_x_5_86, rs_x_5_87, rs_x_5_89, rs_x_5_90, rs_x_5_91, rs_x_5_92, rs_x_5_93, rs_x_5_96, rs_x_5_99, rs_x_5_102, rs_x_5_105, rs_cn_n, rs_cn_i, rs_cn_r, rs_cn_t, rs_up_at, Nat.reduceAdd, Nat.reduceEqDiff, Nat.reduceSub, Int.reduceToNat, Int.reduceNeg, Int.reduceLE, Int.reduceLT, Int.reduceAdd, Int.reduceSub, Int.reduceMul, Int.add_sub_cancel, List.length_cons, List.length_nil, Nat.reduceLeDiff, Nat.reduceLT, Int.cast_ofNat_Int, true_and, and_true, and_self, false_and, and_false, ↓reduceIte, Nat.zero_le, or_true, true_or, false_or, or_false, Nat.sub_zero, Int.toNat_natCast, Nat.le_refl, implies_true, forall_const, Int.reduceEq, Nat.reduceMul, ne_eq, not_true_eq_false, not_false_eq_true, false_implies, true_implies, Nat.left_eq_add, Nat.add_eq_left, q1, q2, q3, q4, q5, g6, ex]
  refine ⟨hd0, ct_touching n2 hx (fun s hs => ?_) fun T hT hTb => ?_⟩
  · obtain ⟨mm, a1, a2, _⟩ := nt_mask net.1 (net.2.2.1 s hs)
    omega
  have hTG : ∀ s, T.testBit s = true ↔ nt_G I s ∧ ∃ j, nt_S I s j ∧ x.testBit j = true := fun s => by
    rw [hTb s]
    unfold nt_G nt_S
    rw [and_assoc]
    refine and_congr_right fun g => ?_
    obtain ⟨mm, a1, a2, _, a4, _⟩ := nt_mask net.1 (net.2.2.1 s g)
    rw [a2, Int.toNat_natCast]
    refine and_congr_right fun _ => ?_
    exact ⟨fun ⟨j, g1, g2⟩ => ⟨j, (a4 j).mp g1, g2⟩, fun ⟨j, g1, g2⟩ => ⟨j, (a4 j).mpr g1, g2⟩⟩
  have top := mz_top 10 hok
  have i0 := loop 2001 0 I T none none (by omega) ⟨fun _ _ _ _ _ _ => rfl, fun r hr => ((hTG r).mp hr).1, hT, Or.inr ⟨h3, ⟨fun j hj => hok j (by have := net.1; omega), bx_le_rf, kp_rf, fun r hr hn => hsup r hr (fun j hj hx => hn ((hTG r).mpr ⟨hr, j, hj, hx⟩))⟩, hok⟩⟩ (fun _ _ => by omega)
  simp only [rs_x_5_0, rs_x_5_1, rs_x_5_2, rs_x_5_5, rs_x_5_8, rs_x_5_9, rs_x_5_10, rs_x_5_12, rs_x_5_14, rs_x_5_17, rs_x_5_18, rs_x_5_21, rs_x_5_22, rs_x_5_25, rs_x_5_28, rs_x_5_29, rs_x_5_31, rs_x_5_33, rs_x_5_34, rs_x_5_37, rs_x_5_40, rs_x_5_41, rs_x_5_44, rs_x_5_47, rs_x_5_48, rs_x_5_50, rs_x_5_51, rs_x_5_53, rs_x_5_54, rs_x_5_56, rs_x_5_57, rs_x_5_60, rs_x_5_61, rs_x_5_62, rs_x_5_65, rs_x_5_66, rs_x_5_67, rs_x_5_70, rs_x_5_72, rs_x_5_73, rs_x_5_74, rs_x_5_77, rs_x_5_78, rs_x_5_79, rs_x_5_80, rs_x_5_83, rs_x_5_86, rs_x_5_87, rs_x_5_89, rs_x_5_90, rs_x_5_91, rs_x_5_92, rs_x_5_93, rs_x_5_96, rs_x_5_99, rs_x_5_102, rs_x_5_105, rs_cn_n, rs_cn_i, rs_cn_r, rs_cn_t, rs_up_at, Nat.reduceAdd, Nat.reduceEqDiff, Nat.reduceSub, Int.reduceToNat, Int.reduceNeg, Int.reduceLE, Int.reduceLT, Int.reduceAdd, Int.reduceSub, Int.reduceMul, Int.add_sub_cancel, List.length_cons, List.length_nil, Nat.reduceLeDiff, Nat.reduceLT, Int.cast_ofNat_Int, true_and, and_true, and_self, false_and, and_false, ↓reduceIte, Nat.zero_le, or_true, true_or, false_or, or_false, Nat.sub_zero, Int.toNat_natCast, Nat.le_refl, implies_true, forall_const, Int.reduceEq, Nat.reduceMul, ne_eq, not_true_eq_false, not_false_eq_true, false_implies, true_implies, Nat.left_eq_add, Nat.add_eq_left]
  exact i0
set_option maxRecDepth 100000 in
set_option maxHeartbeats 2000000 in
theorem ct_settle1 {u d q n x : Nat} {I : rs_M} {K : rs_K} (hd : 5 ≤ d) (hq : rs_isR q) (net : nt_net I n) (hx : x < 1024) (ex : I q 2 = (x : Int)) (h3 : I q 3 = 1) (hK : K none I) : rs_run u d 5 0 (rs_en0 [.inr (.inr 6), .inr (.inr q)] 6) [] I K := by
  show rs_run u d 5 0 [some (.inr (.inr 6)), some (.inr (.inr q)), none, none, none, none] [] I K
  obtain ⟨q1, q2, q3, q4, q5⟩ := id hq
  have g6 : rs_sh 6 = (1, 1) := by decide +kernel
  have g7 : rs_sh 7 = (6, 12) := by decide +kernel
  have f6_0 : rs_rf 6 0 = 7 := by decide +kernel
  have hd0 : 0 < d := by omega
  simp only [rs_x_5_0, rs_x_5_1, rs_x_5_2, rs_x_5_5, rs_x_5_8, rs_x_5_9, rs_x_5_10, rs_x_5_12, rs_x_5_14, rs_x_5_17, rs_x_5_18, rs_x_5_21, rs_x_5_22, rs_x_5_25, rs_x_5_28, rs_x_5_29, rs_x_5_31, rs_x_5_33, rs_x_5_34, rs_x_5_37, rs_x_5_40, rs_x_5_41, rs_x_5_44, rs_x_5_47, rs_x_5_48, rs_x_5_50, rs_x_5_51, rs_x_5_53, rs_x_5_54, rs_x_5_56, rs_x_5_57, rs_x_5_60, rs_x_5_61, rs_x_5_62, rs_x_5_65, rs_x_5_66, rs_x_5_67, rs_x_5_70, rs_x_5_72, rs_x_5_73, rs_x_5_74, rs_x_5_77, rs_x_5_78, rs_x_5_79, rs_x_5_80, rs_x_5_83, rs_x_5_86, rs_x_5_87, rs_x_5_89, rs_x_5_90, rs_x_5_91, rs_x_5_92, rs_x_5_93, rs_x_5_96, rs_x_5_99, rs_x_5_102, rs_x_5_105, rs_cn_n, rs_cn_i, rs_cn_r, rs_cn_t, rs_up_at, Nat.reduceAdd, Nat.reduceEqDiff, Nat.reduceSub, Int.reduceToNat, Int.reduceNeg, Int.reduceLE, Int.reduceLT, Int.reduceAdd, Int.reduceSub, Int.reduceMul, Int.add_sub_cancel, List.length_cons, List.length_nil, Nat.reduceLeDiff, Nat.reduceLT, Int.cast_ofNat_Int, true_and, and_true, and_self, false_and, and_false, ↓reduceIte, Nat.zero_le, or_true, true_or, false_or, or_false, Nat.sub_zero, Int.toNat_natCast, Nat.le_refl, implies_true, forall_const, Int.reduceEq, Nat.reduceMul, ne_eq, not_true_eq_false, not_false_eq_true, false_implies, true_implies, Nat.left_eq_add, Nat.add_eq_left, q1, q2, q3, q4, q5, g6, ex]
  refine ⟨hd0, ct_touching net.2.1 hx (fun s hs => ?_) fun T hT hTb => ?_⟩
  · obtain ⟨mm, a1, a2, _⟩ := nt_mask net.1 (net.2.2.1 s hs)
    omega
  simp only [rs_x_5_0, rs_x_5_1, rs_x_5_2, rs_x_5_5, rs_x_5_8, rs_x_5_9, rs_x_5_10, rs_x_5_12, rs_x_5_14, rs_x_5_17, rs_x_5_18, rs_x_5_21, rs_x_5_22, rs_x_5_25, rs_x_5_28, rs_x_5_29, rs_x_5_31, rs_x_5_33, rs_x_5_34, rs_x_5_37, rs_x_5_40, rs_x_5_41, rs_x_5_44, rs_x_5_47, rs_x_5_48, rs_x_5_50, rs_x_5_51, rs_x_5_53, rs_x_5_54, rs_x_5_56, rs_x_5_57, rs_x_5_60, rs_x_5_61, rs_x_5_62, rs_x_5_65, rs_x_5_66, rs_x_5_67, rs_x_5_70, rs_x_5_72, rs_x_5_73, rs_x_5_74, rs_x_5_77, rs_x_5_78, rs_x_5_79, rs_x_5_80, rs_x_5_83, rs_x_5_86, rs_x_5_87, rs_x_5_89, rs_x_5_90, rs_x_5_91, rs_x_5_92, rs_x_5_93, rs_x_5_96, rs_x_5_99, rs_x_5_102, rs_x_5_105, rs_cn_n, rs_cn_i, rs_cn_r, rs_cn_t, rs_up_at, Nat.reduceAdd, Nat.reduceEqDiff, Nat.reduceSub, Int.reduceToNat, Int.reduceNeg, Int.reduceLE, Int.reduceLT, Int.reduceAdd, Int.reduceSub, Int.reduceMul, Int.add_sub_cancel, List.length_cons, List.length_nil, Nat.reduceLeDiff, Nat.reduceLT, Int.cast_ofNat_Int, true_and, and_true, and_self, false_and, and_false, ↓reduceIte, Nat.zero_le, or_true, true_or, false_or, or_false, Nat.sub_zero, Int.toNat_natCast, Nat.le_refl, implies_true, forall_const, Int.reduceEq, Nat.reduceMul, ne_eq, not_true_eq_false, not_false_eq_true, false_implies, true_implies, Nat.left_eq_add, Nat.add_eq_left]
  rw [rs_x_5_11]
  simp only [rs_x_5_0, rs_x_5_1, rs_x_5_2, rs_x_5_5, rs_x_5_8, rs_x_5_9, rs_x_5_10, rs_x_5_12, rs_x_5_14, rs_x_5_17, rs_x_5_18, rs_x_5_21, rs_x_5_22, rs_x_5_25, rs_x_5_28, rs_x_5_29, rs_x_5_33, rs_x_5_34, rs_x_5_37, rs_x_5_40, rs_x_5_41, rs_x_5_44, rs_x_5_47, rs_x_5_48, rs_x_5_50, rs_x_5_51, rs_x_5_53, rs_x_5_54, rs_x_5_56, rs_x_5_57, rs_x_5_60, rs_x_5_61, rs_x_5_62, rs_x_5_65, rs_x_5_66, rs_x_5_67, rs_x_5_70, rs_x_5_72, rs_x_5_73, rs_x_5_74, rs_x_5_77, rs_x_5_78, rs_x_5_79, rs_x_5_80, rs_x_5_83, rs_x_5_86, rs_x_5_87, rs_x_5_89, rs_x_5_90, rs_x_5_91, rs_x_5_92, rs_x_5_93, rs_x_5_96, rs_x_5_99, rs_x_5_102, rs_x_5_105, rs_cn_n, rs_cn_i, rs_cn_r, rs_cn_t, rs_up_at, Nat.reduceAdd, Nat.reduceEqDiff, Nat.reduceSub, Int.reduceToNat, Int.reduceNeg, Int.reduceLE, Int.reduceLT, Int.reduceAdd, Int.reduceSub, Int.reduceMul, Int.add_sub_cancel, List.length_cons, List.length_nil, Nat.reduceLeDiff, Nat.reduceLT, Int.cast_ofNat_Int, true_and, and_true, and_self, false_and, and_false, ↓reduceIte, Nat.zero_le, or_true, true_or, false_or, or_false, Nat.sub_zero, Int.toNat_natCast, Nat.le_refl, implies_true, forall_const, Int.reduceEq, Nat.reduceMul, ne_eq, not_true_eq_false, not_false_eq_true, false_implies, true_implies, Nat.left_eq_add, Nat.add_eq_left, q1, q2, q3, q4, q5, h3]
  exact ⟨fun _ => hK, fun _ => hK⟩
