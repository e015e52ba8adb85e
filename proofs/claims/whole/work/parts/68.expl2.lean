/-! ===== the class explores: the search itself ===== -/
theorem nt_lo_eq {n : Nat} {I J : rs_M} (h : ∀ a j, a < 33 → (a < 9 ∨ 11 < a) → J a j = I a j) (net : nt_net I n) : nt_net J n ∧ nt_G J = nt_G I ∧ ∀ r, nt_G I r → nt_S J r = nt_S I r ∧ nt_Q J r = nt_Q I r := by
  have h1 : J 6 = I 6 := funext fun j => h _ _ (by omega) (by omega)
  have h2 : ∀ r, r < 12 → J (12 + r) = I (12 + r) := fun r hr => funext fun j => h _ _ (by omega) (by omega)
  have h3 : ∀ t, t < 3 → J (24 + 3 * t) = I (24 + 3 * t) ∧ J (24 + 3 * t + 1) = I (24 + 3 * t + 1) ∧ J (24 + 3 * t + 2) = I (24 + 3 * t + 2) := fun t ht => ⟨funext fun j => h _ _ (by omega) (by omega), funext fun j => h _ _ (by omega) (by omega), funext fun j => h _ _ (by omega) (by omega)⟩
  obtain ⟨n1, n2, n3, n4⟩ := net
  refine ⟨⟨n1, by rw [h1]; exact n2, fun r hr => ?_, fun t ht => ?_⟩, funext fun r => ?_, fun r hr => ⟨?_, ?_⟩⟩
  · rw [h1] at hr
    rw [h2 r (by omega)]
    exact n3 r hr
  · rw [(h3 t ht).1]
    exact n4 t ht
  · unfold nt_G
    rw [h1]
    refine propext (and_congr_right fun g => ?_)
    rw [h2 r (by omega)]
  · unfold nt_S
    have := hr.1
    rw [h2 r (by omega)]
  · have r12 : r < 12 := by have := hr.1; omega
    have hok := n3 r hr.1
    unfold nt_Q
    rw [h2 r r12]
    by_cases k8 : I (12 + r) 0 = 8
    · have hc : 0 ≤ I (12 + r) 3 ∧ I (12 + r) 3 < 3 := by
        rcases hok.2 with g | g | g | g
        · omega
        · omega
        · exact g.2.2.2
        · omega
      rw [k8, bx_Q8, bx_Q8]
      obtain ⟨t1, t2, t3⟩ := h3 (I (12 + r) 3).toNat (by omega)
      unfold nt_T
      rw [t1, t2, t3]
    · funext x
      unfold bx_Q
      rw [if_neg k8, if_neg k8]
theorem nt_A {n : Nat} {I J : rs_M} (h : ∀ a j, a < 33 → (a < 9 ∨ 11 < a) → J a j = I a j) (net : nt_net I n) : bx_all n (nt_G J) (nt_S J) (nt_Q J) = bx_all n (nt_G I) (nt_S I) (nt_Q I) := by
  obtain ⟨_, g1, g2⟩ := nt_lo_eq h net
  funext l g
  exact propext (bx_all_cg g1 g2 l g)
def xp_fr (x : Nat) (I J : rs_M) : Prop := ∀ a j, (a < 9 ∨ 11 < a) → a ≠ 35 → (a = 33 → j ≠ 2 ∧ j ≠ 3) → (a < 40 + 3 * x ∨ 69 < a) → J a j = I a j
def xp_post (n x : Nat) (I J : rs_M) (r : so_R) : Prop := xp_fr x I J ∧ J 33 3 = r.2.1 ∧ (r.1 = 1 → J 33 2 = (n : Int) ∧ ∀ j, j < n → J 35 j = r.2.2 j ∧ -100 ≤ J 35 j ∧ J 35 j ≤ 100) ∧ (r.1 ≠ 1 → J 33 2 = I 33 2 ∧ ∀ j, J 35 j = I 35 j)
theorem so_o_nb {n L : Nat} {lo hi : Nat → Int} : so_o n L (nb n lo) (nb n hi) = so_o n L lo hi := by
  have f : ∀ m k, k + m ≤ n → so_f (nb n lo) (nb n hi) k m = so_f lo hi k m := by
    intro m
    induction m with
    | zero => intro k _; rfl
    | succ m ih =>
      intro k hk
      unfold so_f
      rw [nb_at (by omega), nb_at (by omega), ih (k + 1) (by omega)]
  unfold so_o
  rw [f n 0 (by omega)]
  by_cases g : L < n
  · rw [nb_at g, nb_at g]
  · rw [if_neg (fun q => g q.1), if_neg (fun q => g q.1)]
set_option maxRecDepth 100000 in
set_option maxHeartbeats 2000000 in
theorem ct_explore0 {u d x : Nat} {I : rs_M} {K : rs_K} (hx : x ≤ 10) (hb : I (37 + 3 * x) 3 = 1) (h : K (some (.inl 0)) I) : rs_run u d 29 0 (rs_en0 [.inr (.inr 33), .inr (.inr 6), .inl (x : Int)] 10) [] I K := by
  show rs_run u d 29 0 [some (.inr (.inr 33)), some (.inr (.inr 6)), some (.inl (x : Int)), none, none, none, none, none, none, none] [] I K
  have g33 : rs_sh 33 = (1, 4) := by decide +kernel
  have g34 : rs_sh 34 = (8, 11) := by decide +kernel
  have f33_0 : rs_rf 33 0 = 34 := by decide +kernel
  obtain ⟨l1, l2⟩ := gm_lev x (by omega)
  have l3 := l2.1
  have x1 : 0 ≤ (x : Int) := by omega
  have x2 : (x : Int) < 11 := by omega
  simp only [rs_x_29_0, rs_x_29_1, rs_x_29_4, rs_x_29_5, rs_x_29_6, rs_x_29_7, rs_x_29_8, rs_x_29_11, rs_x_29_14, rs_x_29_15, rs_x_29_16, rs_x_29_17, rs_x_29_18, rs_x_29_21, rs_x_29_23, rs_x_29_25, rs_x_29_28, rs_x_29_31, rs_x_29_32, rs_x_29_35, rs_x_29_36, rs_x_29_37, rs_x_29_40, rs_x_29_41, rs_x_29_43, rs_x_29_46, rs_x_29_47, rs_x_29_48, rs_x_29_51, rs_x_29_54, rs_x_29_55, rs_x_29_56, rs_x_29_57, rs_x_29_59, rs_x_29_62, rs_x_29_63, rs_x_29_64, rs_x_29_65, rs_x_29_68, rs_x_29_71, rs_x_29_73, rs_x_29_74, rs_x_29_77, rs_x_29_78, rs_x_29_79, rs_x_29_82, rs_x_29_83, rs_x_29_86, rs_x_29_87, rs_x_29_89, rs_x_29_90, rs_x_29_92, rs_x_29_95, rs_x_29_97, rs_x_29_98, rs_x_29_102, rs_x_29_104, rs_x_29_107, rs_x_29_108, rs_x_29_111, rs_x_29_112, rs_x_29_115, rs_x_29_118, rs_x_29_121, rs_x_29_122, rs_x_29_123, rs_x_29_124, rs_x_29_127, rs_x_29_128, rs_x_29_129, rs_x_29_132, rs_x_29_134, rs_x_29_137, rs_x_29_138, rs_x_29_141, rs_x_29_143, rs_x_29_144, rs_x_29_146, rs_x_29_147, rs_x_29_150, rs_x_29_151, rs_x_29_154, rs_x_29_156, rs_x_29_157, rs_x_29_159, rs_x_29_160, rs_x_29_162, rs_x_29_163, rs_x_29_166, rs_x_29_167, rs_x_29_168, rs_x_29_169, rs_x_29_170, rs_x_29_171, rs_x_29_174, rs_x_29_175, rs_x_29_178, rs_x_29_179, rs_x_29_180, rs_x_29_181, rs_x_29_182, rs_x_29_184, rs_x_29_186, rs_x_29_188, rs_x_29_191, rs_x_29_192, rs_x_29_193, rs_x_29_196, rs_x_29_197, rs_x_29_198, rs_x_29_199, rs_x_29_200, rs_x_29_203, rs_x_29_204, rs_x_29_205, rs_x_29_206, rs_x_29_207, rs_x_29_208, rs_x_29_211, rs_x_29_213, rs_x_29_215, rs_x_29_218, rs_x_29_220, rs_x_29_221, rs_x_29_224, rs_x_29_227, rs_x_29_228, rs_cn_n, rs_cn_i, rs_cn_r, rs_cn_t, rs_up_at, Nat.reduceAdd, Nat.reduceEqDiff, Nat.reduceSub, Int.reduceToNat, Int.reduceNeg, Int.reduceLE, Int.reduceLT, Int.reduceAdd, Int.reduceSub, Int.reduceMul, Int.add_sub_cancel, List.length_cons, List.length_nil, Nat.reduceLeDiff, Nat.reduceLT, Int.cast_ofNat_Int, true_and, and_true, and_self, false_and, and_false, ↓reduceIte, Nat.zero_le, or_true, true_or, false_or, or_false, Nat.sub_zero, Int.toNat_natCast, Nat.le_refl, implies_true, forall_const, Int.reduceEq, Nat.reduceMul, ne_eq, not_true_eq_false, not_false_eq_true, false_implies, true_implies, Nat.left_eq_add, Nat.add_eq_left, g33, g34, f33_0, l1, l3, x1, x2, hb]
  exact h
/-- a step of the search: the next level's ranges, settled -/
theorem xp_step {u d x n c : Nat} {v : Int} {I J : rs_M} {K : rs_K} (hd : 6 ≤ d) (hx : x < 10) (net : nt_net I n) (hlo : ∀ a j, a < 33 → (a < 9 ∨ 11 < a) → J a j = I a j) (hh : J (37 + 3 * x + 1) = I (37 + 3 * x + 1) ∧ J (37 + 3 * x + 2) = I (37 + 3 * x + 2)) (hok : bx_ok 10 (I (37 + 3 * x + 1)) (I (37 + 3 * x + 2))) (hsup : ∀ r, nt_G I r → bx_sup (nt_S I r) (nt_Q I r) (I (37 + 3 * x + 1)) (I (37 + 3 * x + 2))) (hc : c < n) (hv : I (37 + 3 * x + 1) c ≤ v ∧ v ≤ I (37 + 3 * x + 2) c) (hK : ∀ L, (∀ a j, (a < 9 ∨ 11 < a) → a ≠ 40 + 3 * x → a ≠ 40 + 3 * x + 1 → a ≠ 40 + 3 * x + 2 → L a j = J a j) → ((L (40 + 3 * x) 3 = 1 ∧ sF n (bx_all n (nt_G I) (nt_S I) (nt_Q I)) (so_up (nb n (I (37 + 3 * x + 1))) c v) (so_up (nb n (I (37 + 3 * x + 2))) c v) = none) ∨ (L (40 + 3 * x) 3 = 0 ∧ sF n (bx_all n (nt_G I) (nt_S I) (nt_Q I)) (so_up (nb n (I (37 + 3 * x + 1))) c v) (so_up (nb n (I (37 + 3 * x + 2))) c v) = some (nb n (L (40 + 3 * x + 1)), nb n (L (40 + 3 * x + 2))) ∧ bx_ok 10 (L (40 + 3 * x + 1)) (L (40 + 3 * x + 2)) ∧ ∀ r, nt_G I r → bx_sup (nt_S I r) (nt_Q I r) (L (40 + 3 * x + 1)) (L (40 + 3 * x + 2)))) → K none L) : rs_run u d 5 0 (rs_en0 [.inr (.inr 6), .inr (.inr (40 + 3 * x))] 6) [] (rg_keep (rg_copy J (40 + 3 * x) (37 + 3 * x)) (40 + 3 * x) (c : Int) v v) K := by
  have hn := net.1
  obtain ⟨_, lq⟩ := gm_lev (x + 1) (by omega)
  have eq : 37 + 3 * (x + 1) = 40 + 3 * x := by omega
  rw [eq] at lq
  have cp := fun j hj => rg_copy_lo (I := J) (q := 40 + 3 * x) (o := 37 + 3 * x) (by omega) j hj
  have tr : rg_tr (40 + 3 * x) (rg_copy J (40 + 3 * x) (37 + 3 * x)) (rg_keep (rg_copy J (40 + 3 * x) (37 + 3 * x)) (40 + 3 * x) (c : Int) v v) := rg_tr_keep (by omega)
  have kl := fun j => rg_keep_lo (I := rg_copy J (40 + 3 * x) (37 + 3 * x)) (q := 40 + 3 * x) (c := (c : Int)) (v := v) (w := v) j
  have kh := fun j => rg_keep_hi (I := rg_copy J (40 + 3 * x) (37 + 3 * x)) (q := 40 + 3 * x) (c := (c : Int)) (v := v) (w := v) j
  rw [Int.toNat_natCast] at kl kh
  have ko : ∀ a j, a ≠ 40 + 3 * x → a ≠ 40 + 3 * x + 1 → a ≠ 40 + 3 * x + 2 → rg_keep (rg_copy J (40 + 3 * x) (37 + 3 * x)) (40 + 3 * x) (c : Int) v v a j = J a j := fun a j h1 h2 h3 => by
    rw [rg_keep_o h1 h2 h3, rg_copy_o h1 h2 h3]
  -- the new box
  have bl : ∀ j, j < 10 → rg_keep (rg_copy J (40 + 3 * x) (37 + 3 * x)) (40 + 3 * x) (c : Int) v v (40 + 3 * x + 1) j = if j = c then v else I (37 + 3 * x + 1) j := fun j hj => by
    rw [kl, (cp j hj).1, hh.1]
    split
    · rename_i g; rw [g]; omega
    · rfl
  have bh : ∀ j, j < 10 → rg_keep (rg_copy J (40 + 3 * x) (37 + 3 * x)) (40 + 3 * x) (c : Int) v v (40 + 3 * x + 2) j = if j = c then v else I (37 + 3 * x + 2) j := fun j hj => by
    rw [kh, (cp j hj).2.1, hh.2]
    split
    · rename_i g; rw [g]; omega
    · rfl
  have smc : ∀ j, j ≠ c → rg_sm (40 + 3 * x) (rg_copy J (40 + 3 * x) (37 + 3 * x)) (rg_keep (rg_copy J (40 + 3 * x) (37 + 3 * x)) (40 + 3 * x) (c : Int) v v) j := fun j hj => by
    unfold rg_sm
    rw [kl, kh, if_neg hj, if_neg hj]
    exact ⟨rfl, rfl⟩
  obtain ⟨mk, mk1, mk2, mk3⟩ := tr.2.2.2.1 0 (by omega) (cp 0 (by omega)).2.2.1
  have b0 : rg_keep (rg_copy J (40 + 3 * x) (37 + 3 * x)) (40 + 3 * x) (c : Int) v v (40 + 3 * x) 3 = 0 := by
    rcases tr.2.2.2.2.2 (cp 0 (by omega)).2.2.2 with g | ⟨_, j, g1, g2⟩
    · exact g.1
    · have ej : j = c := Classical.byContradiction fun q => g1 (smc j q)
      rw [ej, bl c (by omega), bh c (by omega), if_pos rfl, if_pos rfl] at g2
      omega
  generalize rg_keep (rg_copy J (40 + 3 * x) (37 + 3 * x)) (40 + 3 * x) (c : Int) v v = M at bl bh ko mk2 mk3 b0 smc ⊢
  have hloM : ∀ a j, a < 33 → (a < 9 ∨ 11 < a) → M a j = I a j := fun a j h1 h2 => by rw [ko a j (by omega) (by omega) (by omega), hlo a j h1 h2]
  obtain ⟨netM, gM, sM⟩ := nt_lo_eq hloM net
  have aM := nt_A hloM net
  have e0 : ∀ j, j < n → M (40 + 3 * x + 1) j = so_up (nb n (I (37 + 3 * x + 1))) c v j ∧ M (40 + 3 * x + 2) j = so_up (nb n (I (37 + 3 * x + 2))) c v j := fun j hj => by
    unfold so_up
    rw [bl j (by omega), bh j (by omega), nb_at hj, nb_at hj]
    exact ⟨rfl, rfl⟩
  refine ct_settle (n := n) (by omega) lq (by omega) netM mk1 mk2 b0 (fun j hj => ?_) (fun r hr hno => ?_) (fun L hL => hK L ?_ ?_)
  · rw [bl j hj, bh j hj]
    have := hok j hj
    have := hok c (by omega)
    split <;> omega
  · rw [gM] at hr
    rw [(sM r hr).1, (sM r hr).2]
    rw [(sM r hr).1] at hno
    have Sn := nt_Sn net r hr
    refine bx_sup_eq (fun j hj => ?_) (hsup r hr)
    have jn := Sn j hj
    have ne : j ≠ c ∨ rg_sm (40 + 3 * x) (rg_copy J (40 + 3 * x) (37 + 3 * x)) M j := by
      by_cases q : rg_sm (40 + 3 * x) (rg_copy J (40 + 3 * x) (37 + 3 * x)) M j
      · exact Or.inr q
      · exact absurd ((mk3 j).mpr (Or.inr q)) (hno j hj)
    rcases ne with q | q
    · rw [bl j (by omega), bh j (by omega), if_neg q, if_neg q]
      exact ⟨rfl, rfl⟩
    · unfold rg_sm at q
      rw [(cp j (by omega)).1, (cp j (by omega)).2.1, hh.1, hh.2] at q
      exact q
  · intro a j h1 h2 h3 h4
    rw [hL.1 a j h2 h3 h4 h1, ko a j h2 h3 h4]
  · obtain ⟨_, hL⟩ := hL
    rw [show bx_brk n (nt_G M) (nt_S M) (nt_Q M) = fun a b => ∀ l h, bx_all n (nt_G M) (nt_S M) (nt_Q M) l h → ¬ bx_le n a b l h from rfl] at hL
    rcases hL with ⟨p1, p2⟩ | ⟨p1, p2, p3⟩
    · rw [aM] at p2
      exact Or.inl ⟨p1, sF_brk e0 p2⟩
    · have p2' : sfix n (bx_all n (nt_G M) (nt_S M) (nt_Q M)) (M (40 + 3 * x + 1)) (M (40 + 3 * x + 2)) (L (40 + 3 * x + 1)) (L (40 + 3 * x + 2)) := p2
      rw [aM] at p2'
      refine Or.inr ⟨p1, sF_fix e0 p2', p3, fun r hr => ?_⟩
      exact p2'.2.1.2 r hr
theorem xp_tr {x : Nat} {I J L : rs_M} (h : xp_fr x I J) (g : xp_fr x J L) : xp_fr x I L := fun a j h1 h2 h3 h4 => (g a j h1 h2 h3 h4).trans (h a j h1 h2 h3 h4)
set_option maxRecDepth 100000 in
set_option maxHeartbeats 2000000 in
theorem ct_explore {n L : Nat} {dn lim : Int} : ∀ (f x : Nat) {u d : Nat} {I : rs_M} {K : rs_K}, x + f = 10 → f + 8 ≤ d → nt_net I n → sr_ok I n L dn lim → (0 ≤ I 33 3 ∧ I 33 3 ≤ lim) → I (37 + 3 * x) 3 = 0 → bx_ok 10 (I (37 + 3 * x + 1)) (I (37 + 3 * x + 2)) → (∀ r, nt_G I r → bx_sup (nt_S I r) (nt_Q I r) (I (37 + 3 * x + 1)) (I (37 + 3 * x + 2))) → (∀ J, xp_post n x I J (so_s n (bx_all n (nt_G I) (nt_S I) (nt_Q I)) L dn lim f (nb n (I (37 + 3 * x + 1))) (nb n (I (37 + 3 * x + 2))) (I 33 3)) → (0 ≤ J 33 3 ∧ J 33 3 ≤ lim) → K (some (.inl (so_s n (bx_all n (nt_G I) (nt_S I) (nt_Q I)) L dn lim f (nb n (I (37 + 3 * x + 1))) (nb n (I (37 + 3 * x + 2))) (I 33 3)).1)) J) → rs_run u d 29 0 (rs_en0 [.inr (.inr 33), .inr (.inr 6), .inl (x : Int)] 10) [] I K := by
  intro f
  induction f with
  | zero =>
    intro x u d I K hx hd net so hs hb hok hsup hK
    show rs_run u d 29 0 [some (.inr (.inr 33)), some (.inr (.inr 6)), some (.inl (x : Int)), none, none, none, none, none, none, none] [] I K
    have g33 : rs_sh 33 = (1, 4) := by decide +kernel
    have g34 : rs_sh 34 = (8, 11) := by decide +kernel
    have g35 : rs_sh 35 = (2, 10) := by decide +kernel
    have f0 : rs_rf 33 0 = 34 := by decide +kernel
    have f1 : rs_rf 33 1 = 35 := by decide +kernel
    obtain ⟨l1, l2⟩ := gm_lev x (by omega)
    obtain ⟨q1, q2, q3, q4, q5⟩ := id l2
    have x1 : 0 ≤ (x : Int) := by omega
    have x2 : (x : Int) < 11 := by omega
    have x3 : ((x : Int) < 10) = False := eq_false (by omega)
    have s5 := so.1
    have hd0 : 0 < d := by omega
    simp only [rs_x_29_0, rs_x_29_1, rs_x_29_4, rs_x_29_5, rs_x_29_6, rs_x_29_7, rs_x_29_8, rs_x_29_11, rs_x_29_14, rs_x_29_15, rs_x_29_16, rs_x_29_17, rs_x_29_18, rs_x_29_21, rs_x_29_23, rs_x_29_25, rs_x_29_28, rs_x_29_31, rs_x_29_32, rs_x_29_35, rs_x_29_36, rs_x_29_37, rs_x_29_40, rs_x_29_41, rs_x_29_43, rs_x_29_46, rs_x_29_47, rs_x_29_48, rs_x_29_51, rs_x_29_54, rs_x_29_55, rs_x_29_56, rs_x_29_57, rs_x_29_59, rs_x_29_62, rs_x_29_63, rs_x_29_64, rs_x_29_65, rs_x_29_68, rs_x_29_71, rs_x_29_73, rs_x_29_74, rs_x_29_77, rs_x_29_78, rs_x_29_79, rs_x_29_82, rs_x_29_83, rs_x_29_86, rs_x_29_87, rs_x_29_89, rs_x_29_90, rs_x_29_92, rs_x_29_95, rs_x_29_97, rs_x_29_98, rs_x_29_102, rs_x_29_104, rs_x_29_107, rs_x_29_108, rs_x_29_111, rs_x_29_112, rs_x_29_115, rs_x_29_118, rs_x_29_121, rs_x_29_122, rs_x_29_123, rs_x_29_124, rs_x_29_127, rs_x_29_128, rs_x_29_129, rs_x_29_132, rs_x_29_134, rs_x_29_137, rs_x_29_138, rs_x_29_141, rs_x_29_143, rs_x_29_144, rs_x_29_146, rs_x_29_147, rs_x_29_150, rs_x_29_151, rs_x_29_154, rs_x_29_156, rs_x_29_157, rs_x_29_159, rs_x_29_160, rs_x_29_162, rs_x_29_163, rs_x_29_166, rs_x_29_167, rs_x_29_168, rs_x_29_169, rs_x_29_170, rs_x_29_171, rs_x_29_174, rs_x_29_175, rs_x_29_178, rs_x_29_179, rs_x_29_180, rs_x_29_181, rs_x_29_182, rs_x_29_184, rs_x_29_186, rs_x_29_188, rs_x_29_191, rs_x_29_192, rs_x_29_193, rs_x_29_196, rs_x_29_197, rs_x_29_198, rs_x_29_199, rs_x_29_200, rs_x_29_203, rs_x_29_204, rs_x_29_205, rs_x_29_206, rs_x_29_207, rs_x_29_208, rs_x_29_211, rs_x_29_213, rs_x_29_215, rs_x_29_218, rs_x_29_220, rs_x_29_221, rs_x_29_224, rs_x_29_227, rs_x_29_228, rs_cn_n, rs_cn_i, rs_cn_r, rs_cn_t, rs_up_at, Nat.reduceAdd, Nat.reduceEqDiff, Nat.reduceSub, Int.reduceToNat, Int.reduceNeg, Int.reduceLE, Int.reduceLT, Int.reduceAdd, Int.reduceSub, Int.reduceMul, Int.add_sub_cancel, List.length_cons, List.length_nil, Nat.reduceLeDiff, Nat.reduceLT, Int.cast_ofNat_Int, true_and, and_true, and_self, false_and, and_false, ↓reduceIte, Nat.zero_le, or_true, true_or, false_or, or_false, Nat.sub_zero, Int.toNat_natCast, Nat.le_refl, implies_true, forall_const, Int.reduceEq, Nat.reduceMul, ne_eq, not_true_eq_false, not_false_eq_true, false_implies, true_implies, Nat.left_eq_add, Nat.add_eq_left, g33, g34, f0, l1, q1, x1, x2, hb]
    refine ⟨hd0, ct_firstO (by omega) l2 net.1 so hok (fun c hc => ?_) (fun hc => ?_)⟩
    · have cn := (so_o_of hc).2
      have cne : ((c : Int) = -1000) = False := eq_false (by omega)
      rw [← so_o_nb] at hc
      rw [so_s_0 hc] at hK
      have z := hK I ⟨fun _ _ _ _ _ _ => rfl, rfl, fun q => absurd q (by show ¬ (0 : Int) = 1; decide), fun _ => ⟨rfl, fun _ => rfl⟩⟩ hs
      simp only [rs_x_29_0, rs_x_29_1, rs_x_29_4, rs_x_29_5, rs_x_29_6, rs_x_29_7, rs_x_29_8, rs_x_29_11, rs_x_29_14, rs_x_29_15, rs_x_29_16, rs_x_29_17, rs_x_29_18, rs_x_29_21, rs_x_29_23, rs_x_29_25, rs_x_29_28, rs_x_29_31, rs_x_29_32, rs_x_29_35, rs_x_29_36, rs_x_29_37, rs_x_29_40, rs_x_29_41, rs_x_29_43, rs_x_29_46, rs_x_29_47, rs_x_29_48, rs_x_29_51, rs_x_29_54, rs_x_29_55, rs_x_29_56, rs_x_29_57, rs_x_29_59, rs_x_29_62, rs_x_29_63, rs_x_29_64, rs_x_29_65, rs_x_29_68, rs_x_29_71, rs_x_29_73, rs_x_29_74, rs_x_29_77, rs_x_29_78, rs_x_29_79, rs_x_29_82, rs_x_29_83, rs_x_29_86, rs_x_29_87, rs_x_29_89, rs_x_29_90, rs_x_29_92, rs_x_29_95, rs_x_29_97, rs_x_29_98, rs_x_29_102, rs_x_29_104, rs_x_29_107, rs_x_29_108, rs_x_29_111, rs_x_29_112, rs_x_29_115, rs_x_29_118, rs_x_29_121, rs_x_29_122, rs_x_29_123, rs_x_29_124, rs_x_29_127, rs_x_29_128, rs_x_29_129, rs_x_29_132, rs_x_29_134, rs_x_29_137, rs_x_29_138, rs_x_29_141, rs_x_29_143, rs_x_29_144, rs_x_29_146, rs_x_29_147, rs_x_29_150, rs_x_29_151, rs_x_29_154, rs_x_29_156, rs_x_29_157, rs_x_29_159, rs_x_29_160, rs_x_29_162, rs_x_29_163, rs_x_29_166, rs_x_29_167, rs_x_29_168, rs_x_29_169, rs_x_29_170, rs_x_29_171, rs_x_29_174, rs_x_29_175, rs_x_29_178, rs_x_29_179, rs_x_29_180, rs_x_29_181, rs_x_29_182, rs_x_29_184, rs_x_29_186, rs_x_29_188, rs_x_29_191, rs_x_29_192, rs_x_29_193, rs_x_29_196, rs_x_29_197, rs_x_29_198, rs_x_29_199, rs_x_29_200, rs_x_29_203, rs_x_29_204, rs_x_29_205, rs_x_29_206, rs_x_29_207, rs_x_29_208, rs_x_29_211, rs_x_29_213, rs_x_29_215, rs_x_29_218, rs_x_29_220, rs_x_29_221, rs_x_29_224, rs_x_29_227, rs_x_29_228, rs_cn_n, rs_cn_i, rs_cn_r, rs_cn_t, rs_up_at, Nat.reduceAdd, Nat.reduceEqDiff, Nat.reduceSub, Int.reduceToNat, Int.reduceNeg, Int.reduceLE, Int.reduceLT, Int.reduceAdd, Int.reduceSub, Int.reduceMul, Int.add_sub_cancel, List.length_cons, List.length_nil, Nat.reduceLeDiff, Nat.reduceLT, Int.cast_ofNat_Int, true_and, and_true, and_self, false_and, and_false, ↓reduceIte, Nat.zero_le, or_true, true_or, false_or, or_false, Nat.sub_zero, Int.toNat_natCast, Nat.le_refl, implies_true, forall_const, Int.reduceEq, Nat.reduceMul, ne_eq, not_true_eq_false, not_false_eq_true, false_implies, true_implies, Nat.left_eq_add, Nat.add_eq_left, g33, cne, x3]
      exact z
    · rw [← so_o_nb] at hc
      rw [so_s_none hc] at hK
      have z := hK (rs_up (rs_cp I (37 + 3 * x + 1) 35 0 0 10) 33 2 (n : Int)) ⟨fun a j h1 h2 h3 h4 => by
        rw [rs_up_at, if_neg (fun g => (h3 g.1).1 g.2), rs_cp_at, if_neg (fun g => h2 g.1)], by
        rw [rs_up_at, if_neg (by omega), rs_cp_at, if_neg (by omega)], fun _ => ⟨by simp [rs_up_at], fun j hj => by
        have hn' := net.1
        have bj := hok j (by omega)
        rw [rs_up_at, if_neg (by omega), rs_cp_at, if_pos (by omega)]
        rw [show 0 + (j - 0) = j by omega]
        exact ⟨(nb_at hj).symm, by omega, by omega⟩⟩, fun q => absurd rfl q⟩ (by
        rw [rs_up_at, if_neg (by omega), rs_cp_at, if_neg (by omega)]
        exact hs)
      have s5' : rs_cp I (37 + 3 * x + 1) 35 0 0 10 33 5 = (n : Int) := by rw [rs_cp_at, if_neg (by omega), s5]
      simp only [rs_x_29_0, rs_x_29_1, rs_x_29_4, rs_x_29_5, rs_x_29_6, rs_x_29_7, rs_x_29_8, rs_x_29_11, rs_x_29_14, rs_x_29_15, rs_x_29_16, rs_x_29_17, rs_x_29_18, rs_x_29_21, rs_x_29_23, rs_x_29_25, rs_x_29_28, rs_x_29_31, rs_x_29_32, rs_x_29_35, rs_x_29_36, rs_x_29_37, rs_x_29_40, rs_x_29_41, rs_x_29_43, rs_x_29_46, rs_x_29_47, rs_x_29_48, rs_x_29_51, rs_x_29_54, rs_x_29_55, rs_x_29_56, rs_x_29_57, rs_x_29_59, rs_x_29_62, rs_x_29_63, rs_x_29_64, rs_x_29_65, rs_x_29_68, rs_x_29_71, rs_x_29_73, rs_x_29_74, rs_x_29_77, rs_x_29_78, rs_x_29_79, rs_x_29_82, rs_x_29_83, rs_x_29_86, rs_x_29_87, rs_x_29_89, rs_x_29_90, rs_x_29_92, rs_x_29_95, rs_x_29_97, rs_x_29_98, rs_x_29_102, rs_x_29_104, rs_x_29_107, rs_x_29_108, rs_x_29_111, rs_x_29_112, rs_x_29_115, rs_x_29_118, rs_x_29_121, rs_x_29_122, rs_x_29_123, rs_x_29_124, rs_x_29_127, rs_x_29_128, rs_x_29_129, rs_x_29_132, rs_x_29_134, rs_x_29_137, rs_x_29_138, rs_x_29_141, rs_x_29_143, rs_x_29_144, rs_x_29_146, rs_x_29_147, rs_x_29_150, rs_x_29_151, rs_x_29_154, rs_x_29_156, rs_x_29_157, rs_x_29_159, rs_x_29_160, rs_x_29_162, rs_x_29_163, rs_x_29_166, rs_x_29_167, rs_x_29_168, rs_x_29_169, rs_x_29_170, rs_x_29_171, rs_x_29_174, rs_x_29_175, rs_x_29_178, rs_x_29_179, rs_x_29_180, rs_x_29_181, rs_x_29_182, rs_x_29_184, rs_x_29_186, rs_x_29_188, rs_x_29_191, rs_x_29_192, rs_x_29_193, rs_x_29_196, rs_x_29_197, rs_x_29_198, rs_x_29_199, rs_x_29_200, rs_x_29_203, rs_x_29_204, rs_x_29_205, rs_x_29_206, rs_x_29_207, rs_x_29_208, rs_x_29_211, rs_x_29_213, rs_x_29_215, rs_x_29_218, rs_x_29_220, rs_x_29_221, rs_x_29_224, rs_x_29_227, rs_x_29_228, rs_cn_n, rs_cn_i, rs_cn_r, rs_cn_t, rs_up_at, Nat.reduceAdd, Nat.reduceEqDiff, Nat.reduceSub, Int.reduceToNat, Int.reduceNeg, Int.reduceLE, Int.reduceLT, Int.reduceAdd, Int.reduceSub, Int.reduceMul, Int.add_sub_cancel, List.length_cons, List.length_nil, Nat.reduceLeDiff, Nat.reduceLT, Int.cast_ofNat_Int, true_and, and_true, and_self, false_and, and_false, ↓reduceIte, Nat.zero_le, or_true, true_or, false_or, or_false, Nat.sub_zero, Int.toNat_natCast, Nat.le_refl, implies_true, forall_const, Int.reduceEq, Nat.reduceMul, ne_eq, not_true_eq_false, not_false_eq_true, false_implies, true_implies, Nat.left_eq_add, Nat.add_eq_left, g33, g35, f1, q1, q2, q4, s5']
      exact ⟨hd0, z⟩
  | succ f ih =>
    intro x u d I K hx hd net so hs hb hok hsup hK
    show rs_run u d 29 0 [some (.inr (.inr 33)), some (.inr (.inr 6)), some (.inl (x : Int)), none, none, none, none, none, none, none] [] I K
    have g6 : rs_sh 6 = (1, 1) := by decide +kernel
    have g33 : rs_sh 33 = (1, 4) := by decide +kernel
    have g34 : rs_sh 34 = (8, 11) := by decide +kernel
    have g35 : rs_sh 35 = (2, 10) := by decide +kernel
    have g36 : rs_sh 36 = (2, 10) := by decide +kernel
    have f0 : rs_rf 33 0 = 34 := by decide +kernel
    have f1 : rs_rf 33 1 = 35 := by decide +kernel
    have f4 : rs_rf 33 4 = 36 := by decide +kernel
    obtain ⟨l1, l2⟩ := gm_lev x (by omega)
    obtain ⟨m1, m2⟩ := gm_lev (x + 1) (by omega)
    have em : 37 + 3 * (x + 1) = 40 + 3 * x := by omega
    rw [em] at m1 m2
    obtain ⟨q1, q2, q3, q4, q5⟩ := id l2
    have w1 := m2.1
    have x1 : 0 ≤ (x : Int) := by omega
    have x2 : (x : Int) < 11 := by omega
    have x3 : (x : Int) < 10 := by omega
    have x4 : 0 ≤ (x : Int) + 1 := by omega
    have x5 : (x : Int) + 1 < 11 := by omega
    have rx : rs_R ((x : Int) + 1) := by unfold rs_R; omega
    have tx : ((x : Int) + 1).toNat = x + 1 := by omega
    obtain ⟨s5, s6, s7, sod, sdn, slim, sL, sLn⟩ := so
    have so : sr_ok I n L dn lim := ⟨s5, s6, s7, sod, sdn, slim, sL, sLn⟩
    have so0 : I 36 0 = (L : Int) := by rw [sod 0 (Or.inr rfl)]; unfold od_at; rw [if_pos rfl]
    have hd0 : 0 < d := by omega
    have hd1 : 1 ≤ d - 1 := by omega
    have hn := net.1
    simp only [rs_x_29_0, rs_x_29_1, rs_x_29_4, rs_x_29_5, rs_x_29_6, rs_x_29_7, rs_x_29_8, rs_x_29_11, rs_x_29_14, rs_x_29_15, rs_x_29_16, rs_x_29_17, rs_x_29_18, rs_x_29_21, rs_x_29_23, rs_x_29_25, rs_x_29_28, rs_x_29_31, rs_x_29_32, rs_x_29_35, rs_x_29_36, rs_x_29_37, rs_x_29_40, rs_x_29_41, rs_x_29_43, rs_x_29_46, rs_x_29_47, rs_x_29_48, rs_x_29_51, rs_x_29_54, rs_x_29_55, rs_x_29_56, rs_x_29_57, rs_x_29_59, rs_x_29_62, rs_x_29_63, rs_x_29_64, rs_x_29_65, rs_x_29_68, rs_x_29_71, rs_x_29_73, rs_x_29_74, rs_x_29_77, rs_x_29_78, rs_x_29_79, rs_x_29_82, rs_x_29_83, rs_x_29_86, rs_x_29_87, rs_x_29_89, rs_x_29_90, rs_x_29_92, rs_x_29_95, rs_x_29_97, rs_x_29_98, rs_x_29_102, rs_x_29_104, rs_x_29_107, rs_x_29_108, rs_x_29_111, rs_x_29_112, rs_x_29_115, rs_x_29_118, rs_x_29_121, rs_x_29_122, rs_x_29_123, rs_x_29_124, rs_x_29_127, rs_x_29_128, rs_x_29_129, rs_x_29_132, rs_x_29_134, rs_x_29_137, rs_x_29_138, rs_x_29_141, rs_x_29_143, rs_x_29_144, rs_x_29_146, rs_x_29_147, rs_x_29_150, rs_x_29_151, rs_x_29_154, rs_x_29_156, rs_x_29_157, rs_x_29_159, rs_x_29_160, rs_x_29_162, rs_x_29_163, rs_x_29_166, rs_x_29_167, rs_x_29_168, rs_x_29_169, rs_x_29_170, rs_x_29_171, rs_x_29_174, rs_x_29_175, rs_x_29_178, rs_x_29_179, rs_x_29_180, rs_x_29_181, rs_x_29_182, rs_x_29_184, rs_x_29_186, rs_x_29_188, rs_x_29_191, rs_x_29_192, rs_x_29_193, rs_x_29_196, rs_x_29_197, rs_x_29_198, rs_x_29_199, rs_x_29_200, rs_x_29_203, rs_x_29_204, rs_x_29_205, rs_x_29_206, rs_x_29_207, rs_x_29_208, rs_x_29_211, rs_x_29_213, rs_x_29_215, rs_x_29_218, rs_x_29_220, rs_x_29_221, rs_x_29_224, rs_x_29_227, rs_x_29_228, rs_cn_n, rs_cn_i, rs_cn_r, rs_cn_t, rs_up_at, Nat.reduceAdd, Nat.reduceEqDiff, Nat.reduceSub, Int.reduceToNat, Int.reduceNeg, Int.reduceLE, Int.reduceLT, Int.reduceAdd, Int.reduceSub, Int.reduceMul, Int.add_sub_cancel, List.length_cons, List.length_nil, Nat.reduceLeDiff, Nat.reduceLT, Int.cast_ofNat_Int, true_and, and_true, and_self, false_and, and_false, ↓reduceIte, Nat.zero_le, or_true, true_or, false_or, or_false, Nat.sub_zero, Int.toNat_natCast, Nat.le_refl, implies_true, forall_const, Int.reduceEq, Nat.reduceMul, ne_eq, not_true_eq_false, not_false_eq_true, false_implies, true_implies, Nat.left_eq_add, Nat.add_eq_left, g33, g34, f0, l1, q1, x1, x2, hb]
    refine ⟨hd0, ct_firstO (by omega) l2 net.1 so hok (fun c hc => ?_) (fun hc => ?_)⟩
    · obtain ⟨hlt, cn⟩ := so_o_of hc
      have cne : ((c : Int) = -1000) = False := eq_false (by omega)
      rw [← so_o_nb] at hc
      rw [so_s_s hc] at hK
      have bc := hok c (by omega)
      have c1 : 0 ≤ (c : Int) := by omega
      have c2 : (c : Int) < 10 := by omega
      have rw' : rs_R (I (37 + 3 * x + 2) c - I (37 + 3 * x + 1) c) := by unfold rs_R; omega
      rw [nb_at cn, nb_at cn] at hK
      generalize eA : bx_all n (nt_G I) (nt_S I) (nt_Q I) = A at hK ih
      generalize eR : so_l (so_s n A L dn lim f) (sF n A) lim (so_w L dn c (nb n (I (37 + 3 * x + 1))) (nb n (I (37 + 3 * x + 2)))) c (nb n (I (37 + 3 * x + 1))) (nb n (I (37 + 3 * x + 2))) (I (37 + 3 * x + 2) c - I (37 + 3 * x + 1) c + 1).toNat 0 (I 33 3) = R at hK
      have loop : ∀ (fh : Int), (fh = if dn ≠ 0 ∧ c = L then 1 else 0) → ∀ (m k : Nat) (J : rs_M) (l8 l9 : Option rs_V), (k : Int) + m = I (37 + 3 * x + 2) c - I (37 + 3 * x + 1) c + 1 → xp_fr x I J → J 33 2 = I 33 2 → (∀ j, J 35 j = I 35 j) → (0 ≤ J 33 3 ∧ J 33 3 ≤ lim) → so_l (so_s n A L dn lim f) (sF n A) lim (so_w L dn c (nb n (I (37 + 3 * x + 1))) (nb n (I (37 + 3 * x + 2)))) c (nb n (I (37 + 3 * x + 1))) (nb n (I (37 + 3 * x + 2))) m k (J 33 3) = R → rs_run u d 29 100 [some (.inr (.inr 33)), some (.inr (.inr 6)), some (.inl (x : Int)), some (.inr (.inr (37 + 3 * x))), some (.inl (c : Int)), some (.inl fh), some (.inl (I (37 + 3 * x + 2) c - I (37 + 3 * x + 1) c)), some (.inl (k : Int)), l8, l9] [] J K := by
        intro fh efh m
        induction m with
        | zero =>
          intro k J l8 l9 ek fr j2 j5 js eR'
          have gt : I (37 + 3 * x + 2) c - I (37 + 3 * x + 1) c < (k : Int) := by omega
          rw [so_l] at eR'
          have z := hK J (by rw [← eR']; exact ⟨fr, rfl, fun q => absurd q (by show ¬ (0 : Int) = 1; decide), fun _ => ⟨j2, j5⟩⟩) js
          rw [← eR'] at z
          rw [rs_x_29_100]
          simp only [rs_x_29_0, rs_x_29_1, rs_x_29_4, rs_x_29_5, rs_x_29_6, rs_x_29_7, rs_x_29_8, rs_x_29_11, rs_x_29_14, rs_x_29_15, rs_x_29_16, rs_x_29_17, rs_x_29_18, rs_x_29_21, rs_x_29_23, rs_x_29_25, rs_x_29_28, rs_x_29_31, rs_x_29_32, rs_x_29_35, rs_x_29_36, rs_x_29_37, rs_x_29_40, rs_x_29_41, rs_x_29_43, rs_x_29_46, rs_x_29_47, rs_x_29_48, rs_x_29_51, rs_x_29_54, rs_x_29_55, rs_x_29_56, rs_x_29_57, rs_x_29_59, rs_x_29_62, rs_x_29_63, rs_x_29_64, rs_x_29_65, rs_x_29_68, rs_x_29_71, rs_x_29_73, rs_x_29_74, rs_x_29_77, rs_x_29_78, rs_x_29_79, rs_x_29_82, rs_x_29_83, rs_x_29_86, rs_x_29_87, rs_x_29_89, rs_x_29_90, rs_x_29_92, rs_x_29_95, rs_x_29_97, rs_x_29_98, rs_x_29_102, rs_x_29_104, rs_x_29_107, rs_x_29_108, rs_x_29_111, rs_x_29_112, rs_x_29_115, rs_x_29_118, rs_x_29_121, rs_x_29_122, rs_x_29_123, rs_x_29_124, rs_x_29_127, rs_x_29_128, rs_x_29_129, rs_x_29_132, rs_x_29_134, rs_x_29_137, rs_x_29_138, rs_x_29_141, rs_x_29_143, rs_x_29_144, rs_x_29_146, rs_x_29_147, rs_x_29_150, rs_x_29_151, rs_x_29_154, rs_x_29_156, rs_x_29_157, rs_x_29_159, rs_x_29_160, rs_x_29_162, rs_x_29_163, rs_x_29_166, rs_x_29_167, rs_x_29_168, rs_x_29_169, rs_x_29_170, rs_x_29_171, rs_x_29_174, rs_x_29_175, rs_x_29_178, rs_x_29_179, rs_x_29_180, rs_x_29_181, rs_x_29_182, rs_x_29_184, rs_x_29_186, rs_x_29_188, rs_x_29_191, rs_x_29_192, rs_x_29_193, rs_x_29_196, rs_x_29_197, rs_x_29_198, rs_x_29_199, rs_x_29_200, rs_x_29_203, rs_x_29_204, rs_x_29_205, rs_x_29_206, rs_x_29_207, rs_x_29_208, rs_x_29_211, rs_x_29_213, rs_x_29_215, rs_x_29_218, rs_x_29_220, rs_x_29_221, rs_x_29_224, rs_x_29_227, rs_x_29_228, rs_cn_n, rs_cn_i, rs_cn_r, rs_cn_t, rs_up_at, Nat.reduceAdd, Nat.reduceEqDiff, Nat.reduceSub, Int.reduceToNat, Int.reduceNeg, Int.reduceLE, Int.reduceLT, Int.reduceAdd, Int.reduceSub, Int.reduceMul, Int.add_sub_cancel, List.length_cons, List.length_nil, Nat.reduceLeDiff, Nat.reduceLT, Int.cast_ofNat_Int, true_and, and_true, and_self, false_and, and_false, ↓reduceIte, Nat.zero_le, or_true, true_or, false_or, or_false, Nat.sub_zero, Int.toNat_natCast, Nat.le_refl, implies_true, forall_const, Int.reduceEq, Nat.reduceMul, ne_eq, not_true_eq_false, not_false_eq_true, false_implies, true_implies, Nat.left_eq_add, Nat.add_eq_left, g33, gt]
          exact z
        | succ m ihm =>
          intro k J l8 l9 ek fr j2 j5 js eR'
          have ngt : ¬ I (37 + 3 * x + 2) c - I (37 + 3 * x + 1) c < (k : Int) := by omega
          have j7 : J 33 7 = lim := by rw [fr 33 7 (by omega) (by omega) (by omega) (by omega), s7]
          have rk : rs_R ((k : Int) + 1) := by unfold rs_R; omega
          by_cases hl : lim ≤ J 33 3
          · have nl : ¬ J 33 3 < lim := by omega
            rw [so_l_lim hl] at eR'
            have z := hK J (by rw [← eR']; exact ⟨fr, rfl, fun q => absurd q (by show ¬ (-1000 : Int) = 1; decide), fun _ => ⟨j2, j5⟩⟩) js
            rw [← eR'] at z
            rw [rs_x_29_100]
            simp only [rs_x_29_0, rs_x_29_1, rs_x_29_4, rs_x_29_5, rs_x_29_6, rs_x_29_7, rs_x_29_8, rs_x_29_11, rs_x_29_14, rs_x_29_15, rs_x_29_16, rs_x_29_17, rs_x_29_18, rs_x_29_21, rs_x_29_23, rs_x_29_25, rs_x_29_28, rs_x_29_31, rs_x_29_32, rs_x_29_35, rs_x_29_36, rs_x_29_37, rs_x_29_40, rs_x_29_41, rs_x_29_43, rs_x_29_46, rs_x_29_47, rs_x_29_48, rs_x_29_51, rs_x_29_54, rs_x_29_55, rs_x_29_56, rs_x_29_57, rs_x_29_59, rs_x_29_62, rs_x_29_63, rs_x_29_64, rs_x_29_65, rs_x_29_68, rs_x_29_71, rs_x_29_73, rs_x_29_74, rs_x_29_77, rs_x_29_78, rs_x_29_79, rs_x_29_82, rs_x_29_83, rs_x_29_86, rs_x_29_87, rs_x_29_89, rs_x_29_90, rs_x_29_92, rs_x_29_95, rs_x_29_97, rs_x_29_98, rs_x_29_102, rs_x_29_104, rs_x_29_107, rs_x_29_108, rs_x_29_111, rs_x_29_112, rs_x_29_115, rs_x_29_118, rs_x_29_121, rs_x_29_122, rs_x_29_123, rs_x_29_124, rs_x_29_127, rs_x_29_128, rs_x_29_129, rs_x_29_132, rs_x_29_134, rs_x_29_137, rs_x_29_138, rs_x_29_141, rs_x_29_143, rs_x_29_144, rs_x_29_146, rs_x_29_147, rs_x_29_150, rs_x_29_151, rs_x_29_154, rs_x_29_156, rs_x_29_157, rs_x_29_159, rs_x_29_160, rs_x_29_162, rs_x_29_163, rs_x_29_166, rs_x_29_167, rs_x_29_168, rs_x_29_169, rs_x_29_170, rs_x_29_171, rs_x_29_174, rs_x_29_175, rs_x_29_178, rs_x_29_179, rs_x_29_180, rs_x_29_181, rs_x_29_182, rs_x_29_184, rs_x_29_186, rs_x_29_188, rs_x_29_191, rs_x_29_192, rs_x_29_193, rs_x_29_196, rs_x_29_197, rs_x_29_198, rs_x_29_199, rs_x_29_200, rs_x_29_203, rs_x_29_204, rs_x_29_205, rs_x_29_206, rs_x_29_207, rs_x_29_208, rs_x_29_211, rs_x_29_213, rs_x_29_215, rs_x_29_218, rs_x_29_220, rs_x_29_221, rs_x_29_224, rs_x_29_227, rs_x_29_228, rs_cn_n, rs_cn_i, rs_cn_r, rs_cn_t, rs_up_at, Nat.reduceAdd, Nat.reduceEqDiff, Nat.reduceSub, Int.reduceToNat, Int.reduceNeg, Int.reduceLE, Int.reduceLT, Int.reduceAdd, Int.reduceSub, Int.reduceMul, Int.add_sub_cancel, List.length_cons, List.length_nil, Nat.reduceLeDiff, Nat.reduceLT, Int.cast_ofNat_Int, true_and, and_true, and_self, false_and, and_false, ↓reduceIte, Nat.zero_le, or_true, true_or, false_or, or_false, Nat.sub_zero, Int.toNat_natCast, Nat.le_refl, implies_true, forall_const, Int.reduceEq, Nat.reduceMul, ne_eq, not_true_eq_false, not_false_eq_true, false_implies, true_implies, Nat.left_eq_add, Nat.add_eq_left, g33, ngt, j7, nl]
            exact z
          · have ll : J 33 3 < lim := by omega
            have r3 : rs_R (J 33 3 + 1) := by unfold rs_R; omega
            obtain ⟨v, ev⟩ : ∃ v, so_w L dn c (nb n (I (37 + 3 * x + 1))) (nb n (I (37 + 3 * x + 2))) k = v := ⟨_, rfl⟩
            have ev' : v = if fh = 0 then I (37 + 3 * x + 1) c + k else I (37 + 3 * x + 2) c - k := by
              rw [← ev]
              unfold so_w
              rw [nb_at cn, nb_at cn, efh]
              by_cases g : dn ≠ 0 ∧ c = L
              · rw [if_pos g, if_pos g, if_neg (by omega)]
              · rw [if_neg g, if_neg g, if_pos rfl]
            have hv : I (37 + 3 * x + 1) c ≤ v ∧ v ≤ I (37 + 3 * x + 2) c := by rw [ev']; split <;> omega
            obtain ⟨J1, eJ1⟩ : ∃ J1, rs_up J 33 3 (J 33 3 + 1) = J1 := ⟨_, rfl⟩
            have fr1 : xp_fr x I J1 := fun a j h1 h2 h3 h4 => by rw [← eJ1, rs_up_at, if_neg (fun g => (h3 g.1).2 g.2), fr a j h1 h2 h3 h4]
            have j13 : J1 33 3 = J 33 3 + 1 := by rw [← eJ1]; simp [rs_up_at]
            have j12 : J1 33 2 = I 33 2 := by rw [← eJ1, rs_up_at, if_neg (by omega), j2]
            have j15 : ∀ j, J1 35 j = I 35 j := fun j => by rw [← eJ1, rs_up_at, if_neg (by omega), j5]
            have hh : J1 (37 + 3 * x + 1) = I (37 + 3 * x + 1) ∧ J1 (37 + 3 * x + 2) = I (37 + 3 * x + 2) := ⟨funext fun j => fr1 _ _ (by omega) (by omega) (by omega) (by omega), funext fun j => fr1 _ _ (by omega) (by omega) (by omega) (by omega)⟩
            have hh1 := fun j => congrFun hh.1 j
            have hh2 := fun j => congrFun hh.2 j
            have hlo : ∀ a j, a < 33 → (a < 9 ∨ 11 < a) → J1 a j = I a j := fun a j h1 h2 => fr1 a j h2 (by omega) (by omega) (by omega)
            have rv1 : rs_R (I (37 + 3 * x + 2) c - k) := by unfold rs_R; omega
            have rv2 : rs_R (I (37 + 3 * x + 1) c + k) := by unfold rs_R; omega
            have fk : ∀ a j, a = 33 ∨ a = 34 → rg_copy J1 (40 + 3 * x) (37 + 3 * x) a j = J1 a j := fun a j h => rg_copy_o (by omega) (by omega) (by omega)
            -- what is left after v is told
            have rest : rs_run u d 29 162 [some (.inr (.inr 33)), some (.inr (.inr 6)), some (.inl (x : Int)), some (.inr (.inr (37 + 3 * x))), some (.inl (c : Int)), some (.inl fh), some (.inl (I (37 + 3 * x + 2) c - I (37 + 3 * x + 1) c)), some (.inl (k : Int)), some (.inl v), l9] [] J1 K := by
              rw [rs_x_29_162]
              simp only [rs_x_29_0, rs_x_29_1, rs_x_29_4, rs_x_29_5, rs_x_29_6, rs_x_29_7, rs_x_29_8, rs_x_29_11, rs_x_29_14, rs_x_29_15, rs_x_29_16, rs_x_29_17, rs_x_29_18, rs_x_29_21, rs_x_29_23, rs_x_29_25, rs_x_29_28, rs_x_29_31, rs_x_29_32, rs_x_29_35, rs_x_29_36, rs_x_29_37, rs_x_29_40, rs_x_29_41, rs_x_29_43, rs_x_29_46, rs_x_29_47, rs_x_29_48, rs_x_29_51, rs_x_29_54, rs_x_29_55, rs_x_29_56, rs_x_29_57, rs_x_29_59, rs_x_29_62, rs_x_29_63, rs_x_29_64, rs_x_29_65, rs_x_29_68, rs_x_29_71, rs_x_29_73, rs_x_29_74, rs_x_29_77, rs_x_29_78, rs_x_29_79, rs_x_29_82, rs_x_29_83, rs_x_29_86, rs_x_29_87, rs_x_29_89, rs_x_29_90, rs_x_29_92, rs_x_29_95, rs_x_29_97, rs_x_29_98, rs_x_29_102, rs_x_29_104, rs_x_29_107, rs_x_29_108, rs_x_29_111, rs_x_29_112, rs_x_29_115, rs_x_29_118, rs_x_29_121, rs_x_29_122, rs_x_29_123, rs_x_29_124, rs_x_29_127, rs_x_29_128, rs_x_29_129, rs_x_29_132, rs_x_29_134, rs_x_29_137, rs_x_29_138, rs_x_29_141, rs_x_29_143, rs_x_29_144, rs_x_29_146, rs_x_29_147, rs_x_29_150, rs_x_29_151, rs_x_29_154, rs_x_29_156, rs_x_29_157, rs_x_29_159, rs_x_29_160, rs_x_29_163, rs_x_29_166, rs_x_29_167, rs_x_29_168, rs_x_29_169, rs_x_29_170, rs_x_29_171, rs_x_29_174, rs_x_29_175, rs_x_29_178, rs_x_29_179, rs_x_29_180, rs_x_29_181, rs_x_29_182, rs_x_29_184, rs_x_29_186, rs_x_29_188, rs_x_29_191, rs_x_29_192, rs_x_29_193, rs_x_29_196, rs_x_29_197, rs_x_29_198, rs_x_29_199, rs_x_29_200, rs_x_29_203, rs_x_29_204, rs_x_29_205, rs_x_29_206, rs_x_29_207, rs_x_29_208, rs_x_29_211, rs_x_29_213, rs_x_29_215, rs_x_29_218, rs_x_29_220, rs_x_29_221, rs_x_29_224, rs_x_29_227, rs_x_29_228, rs_cn_n, rs_cn_i, rs_cn_r, rs_cn_t, rs_up_at, Nat.reduceAdd, Nat.reduceEqDiff, Nat.reduceSub, Int.reduceToNat, Int.reduceNeg, Int.reduceLE, Int.reduceLT, Int.reduceAdd, Int.reduceSub, Int.reduceMul, Int.add_sub_cancel, List.length_cons, List.length_nil, Nat.reduceLeDiff, Nat.reduceLT, Int.cast_ofNat_Int, true_and, and_true, and_self, false_and, and_false, ↓reduceIte, Nat.zero_le, or_true, true_or, false_or, or_false, Nat.sub_zero, Int.toNat_natCast, Nat.le_refl, implies_true, forall_const, Int.reduceEq, Nat.reduceMul, ne_eq, not_true_eq_false, not_false_eq_true, false_implies, true_implies, Nat.left_eq_add, Nat.add_eq_left, g33, g34, f0, rx, x4, x5, tx, m1, w1]
              refine ⟨hd0, ck_copy (by omega) m2 l2 ?_⟩
              simp only [rs_x_29_0, rs_x_29_1, rs_x_29_4, rs_x_29_5, rs_x_29_6, rs_x_29_7, rs_x_29_8, rs_x_29_11, rs_x_29_14, rs_x_29_15, rs_x_29_16, rs_x_29_17, rs_x_29_18, rs_x_29_21, rs_x_29_23, rs_x_29_25, rs_x_29_28, rs_x_29_31, rs_x_29_32, rs_x_29_35, rs_x_29_36, rs_x_29_37, rs_x_29_40, rs_x_29_41, rs_x_29_43, rs_x_29_46, rs_x_29_47, rs_x_29_48, rs_x_29_51, rs_x_29_54, rs_x_29_55, rs_x_29_56, rs_x_29_57, rs_x_29_59, rs_x_29_62, rs_x_29_63, rs_x_29_64, rs_x_29_65, rs_x_29_68, rs_x_29_71, rs_x_29_73, rs_x_29_74, rs_x_29_77, rs_x_29_78, rs_x_29_79, rs_x_29_82, rs_x_29_83, rs_x_29_86, rs_x_29_87, rs_x_29_89, rs_x_29_90, rs_x_29_92, rs_x_29_95, rs_x_29_97, rs_x_29_98, rs_x_29_102, rs_x_29_104, rs_x_29_107, rs_x_29_108, rs_x_29_111, rs_x_29_112, rs_x_29_115, rs_x_29_118, rs_x_29_121, rs_x_29_122, rs_x_29_123, rs_x_29_124, rs_x_29_127, rs_x_29_128, rs_x_29_129, rs_x_29_132, rs_x_29_134, rs_x_29_137, rs_x_29_138, rs_x_29_141, rs_x_29_143, rs_x_29_144, rs_x_29_146, rs_x_29_147, rs_x_29_150, rs_x_29_151, rs_x_29_154, rs_x_29_156, rs_x_29_157, rs_x_29_159, rs_x_29_160, rs_x_29_163, rs_x_29_166, rs_x_29_167, rs_x_29_168, rs_x_29_169, rs_x_29_170, rs_x_29_171, rs_x_29_174, rs_x_29_175, rs_x_29_178, rs_x_29_179, rs_x_29_180, rs_x_29_181, rs_x_29_182, rs_x_29_184, rs_x_29_186, rs_x_29_188, rs_x_29_191, rs_x_29_192, rs_x_29_193, rs_x_29_196, rs_x_29_197, rs_x_29_198, rs_x_29_199, rs_x_29_200, rs_x_29_203, rs_x_29_204, rs_x_29_205, rs_x_29_206, rs_x_29_207, rs_x_29_208, rs_x_29_211, rs_x_29_213, rs_x_29_215, rs_x_29_218, rs_x_29_220, rs_x_29_221, rs_x_29_224, rs_x_29_227, rs_x_29_228, rs_cn_n, rs_cn_i, rs_cn_r, rs_cn_t, rs_up_at, Nat.reduceAdd, Nat.reduceEqDiff, Nat.reduceSub, Int.reduceToNat, Int.reduceNeg, Int.reduceLE, Int.reduceLT, Int.reduceAdd, Int.reduceSub, Int.reduceMul, Int.add_sub_cancel, List.length_cons, List.length_nil, Nat.reduceLeDiff, Nat.reduceLT, Int.cast_ofNat_Int, true_and, and_true, and_self, false_and, and_false, ↓reduceIte, Nat.zero_le, or_true, true_or, false_or, or_false, Nat.sub_zero, Int.toNat_natCast, Nat.le_refl, implies_true, forall_const, Int.reduceEq, Nat.reduceMul, ne_eq, not_true_eq_false, not_false_eq_true, false_implies, true_implies, Nat.left_eq_add, Nat.add_eq_left, g33, g34, f0, rx, x4, x5, tx, m1, w1]
              refine ⟨hd0, ck_keep (by omega) m2 (by omega) ?_⟩
              simp only [rs_x_29_0, rs_x_29_1, rs_x_29_4, rs_x_29_5, rs_x_29_6, rs_x_29_7, rs_x_29_8, rs_x_29_11, rs_x_29_14, rs_x_29_15, rs_x_29_16, rs_x_29_17, rs_x_29_18, rs_x_29_21, rs_x_29_23, rs_x_29_25, rs_x_29_28, rs_x_29_31, rs_x_29_32, rs_x_29_35, rs_x_29_36, rs_x_29_37, rs_x_29_40, rs_x_29_41, rs_x_29_43, rs_x_29_46, rs_x_29_47, rs_x_29_48, rs_x_29_51, rs_x_29_54, rs_x_29_55, rs_x_29_56, rs_x_29_57, rs_x_29_59, rs_x_29_62, rs_x_29_63, rs_x_29_64, rs_x_29_65, rs_x_29_68, rs_x_29_71, rs_x_29_73, rs_x_29_74, rs_x_29_77, rs_x_29_78, rs_x_29_79, rs_x_29_82, rs_x_29_83, rs_x_29_86, rs_x_29_87, rs_x_29_89, rs_x_29_90, rs_x_29_92, rs_x_29_95, rs_x_29_97, rs_x_29_98, rs_x_29_102, rs_x_29_104, rs_x_29_107, rs_x_29_108, rs_x_29_111, rs_x_29_112, rs_x_29_115, rs_x_29_118, rs_x_29_121, rs_x_29_122, rs_x_29_123, rs_x_29_124, rs_x_29_127, rs_x_29_128, rs_x_29_129, rs_x_29_132, rs_x_29_134, rs_x_29_137, rs_x_29_138, rs_x_29_141, rs_x_29_143, rs_x_29_144, rs_x_29_146, rs_x_29_147, rs_x_29_150, rs_x_29_151, rs_x_29_154, rs_x_29_156, rs_x_29_157, rs_x_29_159, rs_x_29_160, rs_x_29_163, rs_x_29_166, rs_x_29_167, rs_x_29_168, rs_x_29_169, rs_x_29_170, rs_x_29_171, rs_x_29_174, rs_x_29_175, rs_x_29_178, rs_x_29_179, rs_x_29_180, rs_x_29_181, rs_x_29_182, rs_x_29_184, rs_x_29_186, rs_x_29_188, rs_x_29_191, rs_x_29_192, rs_x_29_193, rs_x_29_196, rs_x_29_197, rs_x_29_198, rs_x_29_199, rs_x_29_200, rs_x_29_203, rs_x_29_204, rs_x_29_205, rs_x_29_206, rs_x_29_207, rs_x_29_208, rs_x_29_211, rs_x_29_213, rs_x_29_215, rs_x_29_218, rs_x_29_220, rs_x_29_221, rs_x_29_224, rs_x_29_227, rs_x_29_228, rs_cn_n, rs_cn_i, rs_cn_r, rs_cn_t, rs_up_at, Nat.reduceAdd, Nat.reduceEqDiff, Nat.reduceSub, Int.reduceToNat, Int.reduceNeg, Int.reduceLE, Int.reduceLT, Int.reduceAdd, Int.reduceSub, Int.reduceMul, Int.add_sub_cancel, List.length_cons, List.length_nil, Nat.reduceLeDiff, Nat.reduceLT, Int.cast_ofNat_Int, true_and, and_true, and_self, false_and, and_false, ↓reduceIte, Nat.zero_le, or_true, true_or, false_or, or_false, Nat.sub_zero, Int.toNat_natCast, Nat.le_refl, implies_true, forall_const, Int.reduceEq, Nat.reduceMul, ne_eq, not_true_eq_false, not_false_eq_true, false_implies, true_implies, Nat.left_eq_add, Nat.add_eq_left, g33, g34, f0, rx, x4, x5, tx, m1, w1, g6]
              refine ⟨hd0, xp_step (by omega) (by omega) net hlo hh hok hsup cn hv fun M fM hM => ?_⟩
              have fM' : xp_fr x J1 M := fun a j h1 h2 h3 h4 => fM a j h1 (by omega) (by omega) (by omega)
              have frM := xp_tr fr1 fM'
              have m33 : ∀ j, M 33 j = J1 33 j := fun j => fM 33 j (by omega) (by omega) (by omega) (by omega)
              have m35 : ∀ j, M 35 j = J1 35 j := fun j => fM 35 j (by omega) (by omega) (by omega) (by omega)
              have hloM : ∀ a j, a < 33 → (a < 9 ∨ 11 < a) → M a j = I a j := fun a j h1 h2 => frM a j h2 (by omega) (by omega) (by omega)
              obtain ⟨netM, gM, sM⟩ := nt_lo_eq hloM net
              have aM := nt_A hloM net
              have soM : sr_ok M n L dn lim := ⟨by rw [frM 33 5 (by omega) (by omega) (by omega) (by omega), s5], by rw [frM 33 6 (by omega) (by omega) (by omega) (by omega), s6], by rw [frM 33 7 (by omega) (by omega) (by omega) (by omega), s7], fun k hk => by rw [frM 36 k (by omega) (by omega) (by omega) (by omega), sod k hk], sdn, slim, sL, sLn⟩
              rw [eA, ev.symm] at hM
              simp only [rs_x_29_0, rs_x_29_1, rs_x_29_4, rs_x_29_5, rs_x_29_6, rs_x_29_7, rs_x_29_8, rs_x_29_11, rs_x_29_14, rs_x_29_15, rs_x_29_16, rs_x_29_17, rs_x_29_18, rs_x_29_21, rs_x_29_23, rs_x_29_25, rs_x_29_28, rs_x_29_31, rs_x_29_32, rs_x_29_35, rs_x_29_36, rs_x_29_37, rs_x_29_40, rs_x_29_41, rs_x_29_43, rs_x_29_46, rs_x_29_47, rs_x_29_48, rs_x_29_51, rs_x_29_54, rs_x_29_55, rs_x_29_56, rs_x_29_57, rs_x_29_59, rs_x_29_62, rs_x_29_63, rs_x_29_64, rs_x_29_65, rs_x_29_68, rs_x_29_71, rs_x_29_73, rs_x_29_74, rs_x_29_77, rs_x_29_78, rs_x_29_79, rs_x_29_82, rs_x_29_83, rs_x_29_86, rs_x_29_87, rs_x_29_89, rs_x_29_90, rs_x_29_92, rs_x_29_95, rs_x_29_97, rs_x_29_98, rs_x_29_102, rs_x_29_104, rs_x_29_107, rs_x_29_108, rs_x_29_111, rs_x_29_112, rs_x_29_115, rs_x_29_118, rs_x_29_121, rs_x_29_122, rs_x_29_123, rs_x_29_124, rs_x_29_127, rs_x_29_128, rs_x_29_129, rs_x_29_132, rs_x_29_134, rs_x_29_137, rs_x_29_138, rs_x_29_141, rs_x_29_143, rs_x_29_144, rs_x_29_146, rs_x_29_147, rs_x_29_150, rs_x_29_151, rs_x_29_154, rs_x_29_156, rs_x_29_157, rs_x_29_159, rs_x_29_160, rs_x_29_163, rs_x_29_166, rs_x_29_167, rs_x_29_168, rs_x_29_169, rs_x_29_170, rs_x_29_171, rs_x_29_174, rs_x_29_175, rs_x_29_178, rs_x_29_179, rs_x_29_180, rs_x_29_181, rs_x_29_182, rs_x_29_184, rs_x_29_186, rs_x_29_188, rs_x_29_191, rs_x_29_192, rs_x_29_193, rs_x_29_196, rs_x_29_197, rs_x_29_198, rs_x_29_199, rs_x_29_200, rs_x_29_203, rs_x_29_204, rs_x_29_205, rs_x_29_206, rs_x_29_207, rs_x_29_208, rs_x_29_211, rs_x_29_213, rs_x_29_215, rs_x_29_218, rs_x_29_220, rs_x_29_221, rs_x_29_224, rs_x_29_227, rs_x_29_228, rs_cn_n, rs_cn_i, rs_cn_r, rs_cn_t, rs_up_at, Nat.reduceAdd, Nat.reduceEqDiff, Nat.reduceSub, Int.reduceToNat, Int.reduceNeg, Int.reduceLE, Int.reduceLT, Int.reduceAdd, Int.reduceSub, Int.reduceMul, Int.add_sub_cancel, List.length_cons, List.length_nil, Nat.reduceLeDiff, Nat.reduceLT, Int.cast_ofNat_Int, true_and, and_true, and_self, false_and, and_false, ↓reduceIte, Nat.zero_le, or_true, true_or, false_or, or_false, Nat.sub_zero, Int.toNat_natCast, Nat.le_refl, implies_true, forall_const, Int.reduceEq, Nat.reduceMul, ne_eq, not_true_eq_false, not_false_eq_true, false_implies, true_implies, Nat.left_eq_add, Nat.add_eq_left, g33, rx]
              refine ⟨hd0, ?_⟩
              have ecast : (x : Int) + 1 = ((x + 1 : Nat) : Int) := by omega
              rw [ecast]
              rcases hM with ⟨b1, sfn⟩ | ⟨b0, sfs, bok, bsup⟩
              · refine ct_explore0 (by omega) (by rw [em]; exact b1) ?_
                rw [so_l_no hl sfn] at eR'
                have i1 := ihm (k + 1) M (some (.inl v)) (some (.inl 0)) (by omega) frM (by rw [m33, j12]) (fun j => by rw [m35, j15]) (by rw [m33, j13]; omega) (by rw [m33, j13]; exact eR')
                simp only [rs_x_29_0, rs_x_29_1, rs_x_29_4, rs_x_29_5, rs_x_29_6, rs_x_29_7, rs_x_29_8, rs_x_29_11, rs_x_29_14, rs_x_29_15, rs_x_29_16, rs_x_29_17, rs_x_29_18, rs_x_29_21, rs_x_29_23, rs_x_29_25, rs_x_29_28, rs_x_29_31, rs_x_29_32, rs_x_29_35, rs_x_29_36, rs_x_29_37, rs_x_29_40, rs_x_29_41, rs_x_29_43, rs_x_29_46, rs_x_29_47, rs_x_29_48, rs_x_29_51, rs_x_29_54, rs_x_29_55, rs_x_29_56, rs_x_29_57, rs_x_29_59, rs_x_29_62, rs_x_29_63, rs_x_29_64, rs_x_29_65, rs_x_29_68, rs_x_29_71, rs_x_29_73, rs_x_29_74, rs_x_29_77, rs_x_29_78, rs_x_29_79, rs_x_29_82, rs_x_29_83, rs_x_29_86, rs_x_29_87, rs_x_29_89, rs_x_29_90, rs_x_29_92, rs_x_29_95, rs_x_29_97, rs_x_29_98, rs_x_29_102, rs_x_29_104, rs_x_29_107, rs_x_29_108, rs_x_29_111, rs_x_29_112, rs_x_29_115, rs_x_29_118, rs_x_29_121, rs_x_29_122, rs_x_29_123, rs_x_29_124, rs_x_29_127, rs_x_29_128, rs_x_29_129, rs_x_29_132, rs_x_29_134, rs_x_29_137, rs_x_29_138, rs_x_29_141, rs_x_29_143, rs_x_29_144, rs_x_29_146, rs_x_29_147, rs_x_29_150, rs_x_29_151, rs_x_29_154, rs_x_29_156, rs_x_29_157, rs_x_29_159, rs_x_29_160, rs_x_29_163, rs_x_29_166, rs_x_29_167, rs_x_29_168, rs_x_29_169, rs_x_29_170, rs_x_29_171, rs_x_29_174, rs_x_29_175, rs_x_29_178, rs_x_29_179, rs_x_29_180, rs_x_29_181, rs_x_29_182, rs_x_29_184, rs_x_29_186, rs_x_29_188, rs_x_29_191, rs_x_29_192, rs_x_29_193, rs_x_29_196, rs_x_29_197, rs_x_29_198, rs_x_29_199, rs_x_29_200, rs_x_29_203, rs_x_29_204, rs_x_29_205, rs_x_29_206, rs_x_29_207, rs_x_29_208, rs_x_29_211, rs_x_29_213, rs_x_29_215, rs_x_29_218, rs_x_29_220, rs_x_29_221, rs_x_29_224, rs_x_29_227, rs_x_29_228, rs_cn_n, rs_cn_i, rs_cn_r, rs_cn_t, rs_up_at, Nat.reduceAdd, Nat.reduceEqDiff, Nat.reduceSub, Int.reduceToNat, Int.reduceNeg, Int.reduceLE, Int.reduceLT, Int.reduceAdd, Int.reduceSub, Int.reduceMul, Int.add_sub_cancel, List.length_cons, List.length_nil, Nat.reduceLeDiff, Nat.reduceLT, Int.cast_ofNat_Int, true_and, and_true, and_self, false_and, and_false, ↓reduceIte, Nat.zero_le, or_true, true_or, false_or, or_false, Nat.sub_zero, Int.toNat_natCast, Nat.le_refl, implies_true, forall_const, Int.reduceEq, Nat.reduceMul, ne_eq, not_true_eq_false, not_false_eq_true, false_implies, true_implies, Nat.left_eq_add, Nat.add_eq_left, g33]
                exact ⟨rk, i1⟩
              · refine ih (x + 1) (by omega) (by omega) netM soM (by rw [m33, j13]; omega) (by rw [em]; exact b0) (by rw [em]; exact bok) (fun r hr => ?_) (fun N hN hNs => ?_)
                · rw [gM] at hr
                  rw [em, (sM r hr).1, (sM r hr).2]
                  exact bsup r hr
                · rw [aM, eA, em, m33, j13] at hN
                  rw [aM, eA, em, m33, j13]
                  obtain ⟨y1, y2⟩ := so_l_yes (rec := so_s n A L dn lim f) (F := sF n A) (lim := lim) (w := so_w L dn c (nb n (I (37 + 3 * x + 1))) (nb n (I (37 + 3 * x + 2)))) (c := c) (m := m) (k := k) (lo := nb n (I (37 + 3 * x + 1))) (hi := nb n (I (37 + 3 * x + 2))) hl sfs
                  dsimp only at y1 y2
                  generalize eQ : so_s n A L dn lim f (nb n (M (40 + 3 * x + 1))) (nb n (M (40 + 3 * x + 2))) (J 33 3 + 1) = Q at hN y1 y2 ⊢
                  obtain ⟨n1, n2, n3, n4⟩ := hN
                  have frN : xp_fr x I N := xp_tr frM (fun a j h1 h2 h3 h4 => n1 a j h1 h2 h3 (by omega))
                  by_cases z0 : Q.1 = 0
                  · rw [y1 z0] at eR'
                    obtain ⟨n5, n6⟩ := n4 (by omega)
                    have i1 := ihm (k + 1) N (some (.inl v)) (some (.inl 0)) (by omega) frN (by rw [n5, m33, j12]) (fun j => by rw [n6, m35, j15]) hNs (by rw [n2]; exact eR')
                    simp only [rs_x_29_0, rs_x_29_1, rs_x_29_4, rs_x_29_5, rs_x_29_6, rs_x_29_7, rs_x_29_8, rs_x_29_11, rs_x_29_14, rs_x_29_15, rs_x_29_16, rs_x_29_17, rs_x_29_18, rs_x_29_21, rs_x_29_23, rs_x_29_25, rs_x_29_28, rs_x_29_31, rs_x_29_32, rs_x_29_35, rs_x_29_36, rs_x_29_37, rs_x_29_40, rs_x_29_41, rs_x_29_43, rs_x_29_46, rs_x_29_47, rs_x_29_48, rs_x_29_51, rs_x_29_54, rs_x_29_55, rs_x_29_56, rs_x_29_57, rs_x_29_59, rs_x_29_62, rs_x_29_63, rs_x_29_64, rs_x_29_65, rs_x_29_68, rs_x_29_71, rs_x_29_73, rs_x_29_74, rs_x_29_77, rs_x_29_78, rs_x_29_79, rs_x_29_82, rs_x_29_83, rs_x_29_86, rs_x_29_87, rs_x_29_89, rs_x_29_90, rs_x_29_92, rs_x_29_95, rs_x_29_97, rs_x_29_98, rs_x_29_102, rs_x_29_104, rs_x_29_107, rs_x_29_108, rs_x_29_111, rs_x_29_112, rs_x_29_115, rs_x_29_118, rs_x_29_121, rs_x_29_122, rs_x_29_123, rs_x_29_124, rs_x_29_127, rs_x_29_128, rs_x_29_129, rs_x_29_132, rs_x_29_134, rs_x_29_137, rs_x_29_138, rs_x_29_141, rs_x_29_143, rs_x_29_144, rs_x_29_146, rs_x_29_147, rs_x_29_150, rs_x_29_151, rs_x_29_154, rs_x_29_156, rs_x_29_157, rs_x_29_159, rs_x_29_160, rs_x_29_163, rs_x_29_166, rs_x_29_167, rs_x_29_168, rs_x_29_169, rs_x_29_170, rs_x_29_171, rs_x_29_174, rs_x_29_175, rs_x_29_178, rs_x_29_179, rs_x_29_180, rs_x_29_181, rs_x_29_182, rs_x_29_184, rs_x_29_186, rs_x_29_188, rs_x_29_191, rs_x_29_192, rs_x_29_193, rs_x_29_196, rs_x_29_197, rs_x_29_198, rs_x_29_199, rs_x_29_200, rs_x_29_203, rs_x_29_204, rs_x_29_205, rs_x_29_206, rs_x_29_207, rs_x_29_208, rs_x_29_211, rs_x_29_213, rs_x_29_215, rs_x_29_218, rs_x_29_220, rs_x_29_221, rs_x_29_224, rs_x_29_227, rs_x_29_228, rs_cn_n, rs_cn_i, rs_cn_r, rs_cn_t, rs_up_at, Nat.reduceAdd, Nat.reduceEqDiff, Nat.reduceSub, Int.reduceToNat, Int.reduceNeg, Int.reduceLE, Int.reduceLT, Int.reduceAdd, Int.reduceSub, Int.reduceMul, Int.add_sub_cancel, List.length_cons, List.length_nil, Nat.reduceLeDiff, Nat.reduceLT, Int.cast_ofNat_Int, true_and, and_true, and_self, false_and, and_false, ↓reduceIte, Nat.zero_le, or_true, true_or, false_or, or_false, Nat.sub_zero, Int.toNat_natCast, Nat.le_refl, implies_true, forall_const, Int.reduceEq, Nat.reduceMul, ne_eq, not_true_eq_false, not_false_eq_true, false_implies, true_implies, Nat.left_eq_add, Nat.add_eq_left, g33, z0]
                    exact ⟨rk, i1⟩
                  · rw [y2 z0] at eR'
                    have z := hK N (by
                      rw [← eR']
                      exact ⟨frN, n2, n3, fun q => ⟨by rw [(n4 q).1, m33, j12], fun j => by rw [(n4 q).2, m35, j15]⟩⟩) hNs
                    rw [← eR'] at z
                    simp only [rs_x_29_0, rs_x_29_1, rs_x_29_4, rs_x_29_5, rs_x_29_6, rs_x_29_7, rs_x_29_8, rs_x_29_11, rs_x_29_14, rs_x_29_15, rs_x_29_16, rs_x_29_17, rs_x_29_18, rs_x_29_21, rs_x_29_23, rs_x_29_25, rs_x_29_28, rs_x_29_31, rs_x_29_32, rs_x_29_35, rs_x_29_36, rs_x_29_37, rs_x_29_40, rs_x_29_41, rs_x_29_43, rs_x_29_46, rs_x_29_47, rs_x_29_48, rs_x_29_51, rs_x_29_54, rs_x_29_55, rs_x_29_56, rs_x_29_57, rs_x_29_59, rs_x_29_62, rs_x_29_63, rs_x_29_64, rs_x_29_65, rs_x_29_68, rs_x_29_71, rs_x_29_73, rs_x_29_74, rs_x_29_77, rs_x_29_78, rs_x_29_79, rs_x_29_82, rs_x_29_83, rs_x_29_86, rs_x_29_87, rs_x_29_89, rs_x_29_90, rs_x_29_92, rs_x_29_95, rs_x_29_97, rs_x_29_98, rs_x_29_102, rs_x_29_104, rs_x_29_107, rs_x_29_108, rs_x_29_111, rs_x_29_112, rs_x_29_115, rs_x_29_118, rs_x_29_121, rs_x_29_122, rs_x_29_123, rs_x_29_124, rs_x_29_127, rs_x_29_128, rs_x_29_129, rs_x_29_132, rs_x_29_134, rs_x_29_137, rs_x_29_138, rs_x_29_141, rs_x_29_143, rs_x_29_144, rs_x_29_146, rs_x_29_147, rs_x_29_150, rs_x_29_151, rs_x_29_154, rs_x_29_156, rs_x_29_157, rs_x_29_159, rs_x_29_160, rs_x_29_163, rs_x_29_166, rs_x_29_167, rs_x_29_168, rs_x_29_169, rs_x_29_170, rs_x_29_171, rs_x_29_174, rs_x_29_175, rs_x_29_178, rs_x_29_179, rs_x_29_180, rs_x_29_181, rs_x_29_182, rs_x_29_184, rs_x_29_186, rs_x_29_188, rs_x_29_191, rs_x_29_192, rs_x_29_193, rs_x_29_196, rs_x_29_197, rs_x_29_198, rs_x_29_199, rs_x_29_200, rs_x_29_203, rs_x_29_204, rs_x_29_205, rs_x_29_206, rs_x_29_207, rs_x_29_208, rs_x_29_211, rs_x_29_213, rs_x_29_215, rs_x_29_218, rs_x_29_220, rs_x_29_221, rs_x_29_224, rs_x_29_227, rs_x_29_228, rs_cn_n, rs_cn_i, rs_cn_r, rs_cn_t, rs_up_at, Nat.reduceAdd, Nat.reduceEqDiff, Nat.reduceSub, Int.reduceToNat, Int.reduceNeg, Int.reduceLE, Int.reduceLT, Int.reduceAdd, Int.reduceSub, Int.reduceMul, Int.add_sub_cancel, List.length_cons, List.length_nil, Nat.reduceLeDiff, Nat.reduceLT, Int.cast_ofNat_Int, true_and, and_true, and_self, false_and, and_false, ↓reduceIte, Nat.zero_le, or_true, true_or, false_or, or_false, Nat.sub_zero, Int.toNat_natCast, Nat.le_refl, implies_true, forall_const, Int.reduceEq, Nat.reduceMul, ne_eq, not_true_eq_false, not_false_eq_true, false_implies, true_implies, Nat.left_eq_add, Nat.add_eq_left, g33, z0]
                    exact z
            rw [rs_x_29_100]
            by_cases g0 : fh = 0
            · have g0' : (fh = 0) = True := eq_true g0
              rw [if_pos g0] at ev'
              rw [ev'] at rest
              simp only [rs_x_29_0, rs_x_29_1, rs_x_29_4, rs_x_29_5, rs_x_29_6, rs_x_29_7, rs_x_29_8, rs_x_29_11, rs_x_29_14, rs_x_29_15, rs_x_29_16, rs_x_29_17, rs_x_29_18, rs_x_29_21, rs_x_29_23, rs_x_29_25, rs_x_29_28, rs_x_29_31, rs_x_29_32, rs_x_29_35, rs_x_29_36, rs_x_29_37, rs_x_29_40, rs_x_29_41, rs_x_29_43, rs_x_29_46, rs_x_29_47, rs_x_29_48, rs_x_29_51, rs_x_29_54, rs_x_29_55, rs_x_29_56, rs_x_29_57, rs_x_29_59, rs_x_29_62, rs_x_29_63, rs_x_29_64, rs_x_29_65, rs_x_29_68, rs_x_29_71, rs_x_29_73, rs_x_29_74, rs_x_29_77, rs_x_29_78, rs_x_29_79, rs_x_29_82, rs_x_29_83, rs_x_29_86, rs_x_29_87, rs_x_29_89, rs_x_29_90, rs_x_29_92, rs_x_29_95, rs_x_29_97, rs_x_29_98, rs_x_29_102, rs_x_29_104, rs_x_29_107, rs_x_29_108, rs_x_29_111, rs_x_29_112, rs_x_29_115, rs_x_29_118, rs_x_29_121, rs_x_29_122, rs_x_29_123, rs_x_29_124, rs_x_29_127, rs_x_29_128, rs_x_29_129, rs_x_29_132, rs_x_29_134, rs_x_29_137, rs_x_29_138, rs_x_29_141, rs_x_29_143, rs_x_29_144, rs_x_29_146, rs_x_29_147, rs_x_29_150, rs_x_29_151, rs_x_29_154, rs_x_29_156, rs_x_29_157, rs_x_29_159, rs_x_29_160, rs_x_29_163, rs_x_29_166, rs_x_29_167, rs_x_29_168, rs_x_29_169, rs_x_29_170, rs_x_29_171, rs_x_29_174, rs_x_29_175, rs_x_29_178, rs_x_29_179, rs_x_29_180, rs_x_29_181, rs_x_29_182, rs_x_29_184, rs_x_29_186, rs_x_29_188, rs_x_29_191, rs_x_29_192, rs_x_29_193, rs_x_29_196, rs_x_29_197, rs_x_29_198, rs_x_29_199, rs_x_29_200, rs_x_29_203, rs_x_29_204, rs_x_29_205, rs_x_29_206, rs_x_29_207, rs_x_29_208, rs_x_29_211, rs_x_29_213, rs_x_29_215, rs_x_29_218, rs_x_29_220, rs_x_29_221, rs_x_29_224, rs_x_29_227, rs_x_29_228, rs_cn_n, rs_cn_i, rs_cn_r, rs_cn_t, rs_up_at, Nat.reduceAdd, Nat.reduceEqDiff, Nat.reduceSub, Int.reduceToNat, Int.reduceNeg, Int.reduceLE, Int.reduceLT, Int.reduceAdd, Int.reduceSub, Int.reduceMul, Int.add_sub_cancel, List.length_cons, List.length_nil, Nat.reduceLeDiff, Nat.reduceLT, Int.cast_ofNat_Int, true_and, and_true, and_self, false_and, and_false, ↓reduceIte, Nat.zero_le, or_true, true_or, false_or, or_false, Nat.sub_zero, Int.toNat_natCast, Nat.le_refl, implies_true, forall_const, Int.reduceEq, Nat.reduceMul, ne_eq, not_true_eq_false, not_false_eq_true, false_implies, true_implies, Nat.left_eq_add, Nat.add_eq_left, g33, ngt, j7, ll, r3, eJ1, g0', q1, q2, q3, q4, q5, c1, c2, hh1, hh2, rv2]
              exact rest
            · rw [if_neg g0] at ev'
              rw [ev'] at rest
              simp only [rs_x_29_0, rs_x_29_1, rs_x_29_4, rs_x_29_5, rs_x_29_6, rs_x_29_7, rs_x_29_8, rs_x_29_11, rs_x_29_14, rs_x_29_15, rs_x_29_16, rs_x_29_17, rs_x_29_18, rs_x_29_21, rs_x_29_23, rs_x_29_25, rs_x_29_28, rs_x_29_31, rs_x_29_32, rs_x_29_35, rs_x_29_36, rs_x_29_37, rs_x_29_40, rs_x_29_41, rs_x_29_43, rs_x_29_46, rs_x_29_47, rs_x_29_48, rs_x_29_51, rs_x_29_54, rs_x_29_55, rs_x_29_56, rs_x_29_57, rs_x_29_59, rs_x_29_62, rs_x_29_63, rs_x_29_64, rs_x_29_65, rs_x_29_68, rs_x_29_71, rs_x_29_73, rs_x_29_74, rs_x_29_77, rs_x_29_78, rs_x_29_79, rs_x_29_82, rs_x_29_83, rs_x_29_86, rs_x_29_87, rs_x_29_89, rs_x_29_90, rs_x_29_92, rs_x_29_95, rs_x_29_97, rs_x_29_98, rs_x_29_102, rs_x_29_104, rs_x_29_107, rs_x_29_108, rs_x_29_111, rs_x_29_112, rs_x_29_115, rs_x_29_118, rs_x_29_121, rs_x_29_122, rs_x_29_123, rs_x_29_124, rs_x_29_127, rs_x_29_128, rs_x_29_129, rs_x_29_132, rs_x_29_134, rs_x_29_137, rs_x_29_138, rs_x_29_141, rs_x_29_143, rs_x_29_144, rs_x_29_146, rs_x_29_147, rs_x_29_150, rs_x_29_151, rs_x_29_154, rs_x_29_156, rs_x_29_157, rs_x_29_159, rs_x_29_160, rs_x_29_163, rs_x_29_166, rs_x_29_167, rs_x_29_168, rs_x_29_169, rs_x_29_170, rs_x_29_171, rs_x_29_174, rs_x_29_175, rs_x_29_178, rs_x_29_179, rs_x_29_180, rs_x_29_181, rs_x_29_182, rs_x_29_184, rs_x_29_186, rs_x_29_188, rs_x_29_191, rs_x_29_192, rs_x_29_193, rs_x_29_196, rs_x_29_197, rs_x_29_198, rs_x_29_199, rs_x_29_200, rs_x_29_203, rs_x_29_204, rs_x_29_205, rs_x_29_206, rs_x_29_207, rs_x_29_208, rs_x_29_211, rs_x_29_213, rs_x_29_215, rs_x_29_218, rs_x_29_220, rs_x_29_221, rs_x_29_224, rs_x_29_227, rs_x_29_228, rs_cn_n, rs_cn_i, rs_cn_r, rs_cn_t, rs_up_at, Nat.reduceAdd, Nat.reduceEqDiff, Nat.reduceSub, Int.reduceToNat, Int.reduceNeg, Int.reduceLE, Int.reduceLT, Int.reduceAdd, Int.reduceSub, Int.reduceMul, Int.add_sub_cancel, List.length_cons, List.length_nil, Nat.reduceLeDiff, Nat.reduceLT, Int.cast_ofNat_Int, true_and, and_true, and_self, false_and, and_false, ↓reduceIte, Nat.zero_le, or_true, true_or, false_or, or_false, Nat.sub_zero, Int.toNat_natCast, Nat.le_refl, implies_true, forall_const, Int.reduceEq, Nat.reduceMul, ne_eq, not_true_eq_false, not_false_eq_true, false_implies, true_implies, Nat.left_eq_add, Nat.add_eq_left, g33, ngt, j7, ll, r3, eJ1, g0, q1, q2, q3, q4, q5, c1, c2, hh1, hh2, rv1]
              exact rest
      have lp := fun fh e => loop fh e (I (37 + 3 * x + 2) c - I (37 + 3 * x + 1) c + 1).toNat 0 I none none (by omega) (fun _ _ _ _ _ _ => rfl) rfl (fun _ => rfl) hs eR
      have wd : ∀ fh : Int, (fh = if dn ≠ 0 ∧ c = L then 1 else 0) → rs_run u d 29 89 [some (.inr (.inr 33)), some (.inr (.inr 6)), some (.inl (x : Int)), some (.inr (.inr (37 + 3 * x))), some (.inl (c : Int)), some (.inl fh), none, none, none, none] [] I K := fun fh e => by
        have z := lp fh e
        rw [rs_x_29_89]
        simp only [rs_x_29_0, rs_x_29_1, rs_x_29_4, rs_x_29_5, rs_x_29_6, rs_x_29_7, rs_x_29_8, rs_x_29_11, rs_x_29_14, rs_x_29_15, rs_x_29_16, rs_x_29_17, rs_x_29_18, rs_x_29_21, rs_x_29_23, rs_x_29_25, rs_x_29_28, rs_x_29_31, rs_x_29_32, rs_x_29_35, rs_x_29_36, rs_x_29_37, rs_x_29_40, rs_x_29_41, rs_x_29_43, rs_x_29_46, rs_x_29_47, rs_x_29_48, rs_x_29_51, rs_x_29_54, rs_x_29_55, rs_x_29_56, rs_x_29_57, rs_x_29_59, rs_x_29_62, rs_x_29_63, rs_x_29_64, rs_x_29_65, rs_x_29_68, rs_x_29_71, rs_x_29_73, rs_x_29_74, rs_x_29_77, rs_x_29_78, rs_x_29_79, rs_x_29_82, rs_x_29_83, rs_x_29_86, rs_x_29_87, rs_x_29_90, rs_x_29_92, rs_x_29_95, rs_x_29_97, rs_x_29_98, rs_x_29_102, rs_x_29_104, rs_x_29_107, rs_x_29_108, rs_x_29_111, rs_x_29_112, rs_x_29_115, rs_x_29_118, rs_x_29_121, rs_x_29_122, rs_x_29_123, rs_x_29_124, rs_x_29_127, rs_x_29_128, rs_x_29_129, rs_x_29_132, rs_x_29_134, rs_x_29_137, rs_x_29_138, rs_x_29_141, rs_x_29_143, rs_x_29_144, rs_x_29_146, rs_x_29_147, rs_x_29_150, rs_x_29_151, rs_x_29_154, rs_x_29_156, rs_x_29_157, rs_x_29_159, rs_x_29_160, rs_x_29_162, rs_x_29_163, rs_x_29_166, rs_x_29_167, rs_x_29_168, rs_x_29_169, rs_x_29_170, rs_x_29_171, rs_x_29_174, rs_x_29_175, rs_x_29_178, rs_x_29_179, rs_x_29_180, rs_x_29_181, rs_x_29_182, rs_x_29_184, rs_x_29_186, rs_x_29_188, rs_x_29_191, rs_x_29_192, rs_x_29_193, rs_x_29_196, rs_x_29_197, rs_x_29_198, rs_x_29_199, rs_x_29_200, rs_x_29_203, rs_x_29_204, rs_x_29_205, rs_x_29_206, rs_x_29_207, rs_x_29_208, rs_x_29_211, rs_x_29_213, rs_x_29_215, rs_x_29_218, rs_x_29_220, rs_x_29_221, rs_x_29_224, rs_x_29_227, rs_x_29_228, rs_cn_n, rs_cn_i, rs_cn_r, rs_cn_t, rs_up_at, Nat.reduceAdd, Nat.reduceEqDiff, Nat.reduceSub, Int.reduceToNat, Int.reduceNeg, Int.reduceLE, Int.reduceLT, Int.reduceAdd, Int.reduceSub, Int.reduceMul, Int.add_sub_cancel, List.length_cons, List.length_nil, Nat.reduceLeDiff, Nat.reduceLT, Int.cast_ofNat_Int, true_and, and_true, and_self, false_and, and_false, ↓reduceIte, Nat.zero_le, or_true, true_or, false_or, or_false, Nat.sub_zero, Int.toNat_natCast, Nat.le_refl, implies_true, forall_const, Int.reduceEq, Nat.reduceMul, ne_eq, not_true_eq_false, not_false_eq_true, false_implies, true_implies, Nat.left_eq_add, Nat.add_eq_left, g33, q1]
        refine ⟨hd0, ct_width (c := (c : Int)) l2 (by omega) (by rw [Int.toNat_natCast]; exact rw') ?_⟩
        rw [Int.toNat_natCast]
        simp only [rs_x_29_0, rs_x_29_1, rs_x_29_4, rs_x_29_5, rs_x_29_6, rs_x_29_7, rs_x_29_8, rs_x_29_11, rs_x_29_14, rs_x_29_15, rs_x_29_16, rs_x_29_17, rs_x_29_18, rs_x_29_21, rs_x_29_23, rs_x_29_25, rs_x_29_28, rs_x_29_31, rs_x_29_32, rs_x_29_35, rs_x_29_36, rs_x_29_37, rs_x_29_40, rs_x_29_41, rs_x_29_43, rs_x_29_46, rs_x_29_47, rs_x_29_48, rs_x_29_51, rs_x_29_54, rs_x_29_55, rs_x_29_56, rs_x_29_57, rs_x_29_59, rs_x_29_62, rs_x_29_63, rs_x_29_64, rs_x_29_65, rs_x_29_68, rs_x_29_71, rs_x_29_73, rs_x_29_74, rs_x_29_77, rs_x_29_78, rs_x_29_79, rs_x_29_82, rs_x_29_83, rs_x_29_86, rs_x_29_87, rs_x_29_90, rs_x_29_92, rs_x_29_95, rs_x_29_97, rs_x_29_98, rs_x_29_102, rs_x_29_104, rs_x_29_107, rs_x_29_108, rs_x_29_111, rs_x_29_112, rs_x_29_115, rs_x_29_118, rs_x_29_121, rs_x_29_122, rs_x_29_123, rs_x_29_124, rs_x_29_127, rs_x_29_128, rs_x_29_129, rs_x_29_132, rs_x_29_134, rs_x_29_137, rs_x_29_138, rs_x_29_141, rs_x_29_143, rs_x_29_144, rs_x_29_146, rs_x_29_147, rs_x_29_150, rs_x_29_151, rs_x_29_154, rs_x_29_156, rs_x_29_157, rs_x_29_159, rs_x_29_160, rs_x_29_162, rs_x_29_163, rs_x_29_166, rs_x_29_167, rs_x_29_168, rs_x_29_169, rs_x_29_170, rs_x_29_171, rs_x_29_174, rs_x_29_175, rs_x_29_178, rs_x_29_179, rs_x_29_180, rs_x_29_181, rs_x_29_182, rs_x_29_184, rs_x_29_186, rs_x_29_188, rs_x_29_191, rs_x_29_192, rs_x_29_193, rs_x_29_196, rs_x_29_197, rs_x_29_198, rs_x_29_199, rs_x_29_200, rs_x_29_203, rs_x_29_204, rs_x_29_205, rs_x_29_206, rs_x_29_207, rs_x_29_208, rs_x_29_211, rs_x_29_213, rs_x_29_215, rs_x_29_218, rs_x_29_220, rs_x_29_221, rs_x_29_224, rs_x_29_227, rs_x_29_228, rs_cn_n, rs_cn_i, rs_cn_r, rs_cn_t, rs_up_at, Nat.reduceAdd, Nat.reduceEqDiff, Nat.reduceSub, Int.reduceToNat, Int.reduceNeg, Int.reduceLE, Int.reduceLT, Int.reduceAdd, Int.reduceSub, Int.reduceMul, Int.add_sub_cancel, List.length_cons, List.length_nil, Nat.reduceLeDiff, Nat.reduceLT, Int.cast_ofNat_Int, true_and, and_true, and_self, false_and, and_false, ↓reduceIte, Nat.zero_le, or_true, true_or, false_or, or_false, Nat.sub_zero, Int.toNat_natCast, Nat.le_refl, implies_true, forall_const, Int.reduceEq, Nat.reduceMul, ne_eq, not_true_eq_false, not_false_eq_true, false_implies, true_implies, Nat.left_eq_add, Nat.add_eq_left, g33, q1]
        exact z
      rcases sdn with d0 | d1
      · have z := wd 0 (by rw [if_neg (fun g => g.1 d0)])
        rw [d0] at s6
        simp only [rs_x_29_0, rs_x_29_1, rs_x_29_4, rs_x_29_5, rs_x_29_6, rs_x_29_7, rs_x_29_8, rs_x_29_11, rs_x_29_14, rs_x_29_15, rs_x_29_16, rs_x_29_17, rs_x_29_18, rs_x_29_21, rs_x_29_23, rs_x_29_25, rs_x_29_28, rs_x_29_31, rs_x_29_32, rs_x_29_35, rs_x_29_36, rs_x_29_37, rs_x_29_40, rs_x_29_41, rs_x_29_43, rs_x_29_46, rs_x_29_47, rs_x_29_48, rs_x_29_51, rs_x_29_54, rs_x_29_55, rs_x_29_56, rs_x_29_57, rs_x_29_59, rs_x_29_62, rs_x_29_63, rs_x_29_64, rs_x_29_65, rs_x_29_68, rs_x_29_71, rs_x_29_73, rs_x_29_74, rs_x_29_77, rs_x_29_78, rs_x_29_79, rs_x_29_82, rs_x_29_83, rs_x_29_86, rs_x_29_87, rs_x_29_90, rs_x_29_92, rs_x_29_95, rs_x_29_97, rs_x_29_98, rs_x_29_100, rs_x_29_102, rs_x_29_104, rs_x_29_107, rs_x_29_108, rs_x_29_111, rs_x_29_112, rs_x_29_115, rs_x_29_118, rs_x_29_121, rs_x_29_122, rs_x_29_123, rs_x_29_124, rs_x_29_127, rs_x_29_128, rs_x_29_129, rs_x_29_132, rs_x_29_134, rs_x_29_137, rs_x_29_138, rs_x_29_141, rs_x_29_143, rs_x_29_144, rs_x_29_146, rs_x_29_147, rs_x_29_150, rs_x_29_151, rs_x_29_154, rs_x_29_156, rs_x_29_157, rs_x_29_159, rs_x_29_160, rs_x_29_162, rs_x_29_163, rs_x_29_166, rs_x_29_167, rs_x_29_168, rs_x_29_169, rs_x_29_170, rs_x_29_171, rs_x_29_174, rs_x_29_175, rs_x_29_178, rs_x_29_179, rs_x_29_180, rs_x_29_181, rs_x_29_182, rs_x_29_184, rs_x_29_186, rs_x_29_188, rs_x_29_191, rs_x_29_192, rs_x_29_193, rs_x_29_196, rs_x_29_197, rs_x_29_198, rs_x_29_199, rs_x_29_200, rs_x_29_203, rs_x_29_204, rs_x_29_205, rs_x_29_206, rs_x_29_207, rs_x_29_208, rs_x_29_211, rs_x_29_213, rs_x_29_215, rs_x_29_218, rs_x_29_220, rs_x_29_221, rs_x_29_224, rs_x_29_227, rs_x_29_228, rs_cn_n, rs_cn_i, rs_cn_r, rs_cn_t, rs_up_at, Nat.reduceAdd, Nat.reduceEqDiff, Nat.reduceSub, Int.reduceToNat, Int.reduceNeg, Int.reduceLE, Int.reduceLT, Int.reduceAdd, Int.reduceSub, Int.reduceMul, Int.add_sub_cancel, List.length_cons, List.length_nil, Nat.reduceLeDiff, Nat.reduceLT, Int.cast_ofNat_Int, true_and, and_true, and_self, false_and, and_false, ↓reduceIte, Nat.zero_le, or_true, true_or, false_or, or_false, Nat.sub_zero, Int.toNat_natCast, Nat.le_refl, implies_true, forall_const, Int.reduceEq, Nat.reduceMul, ne_eq, not_true_eq_false, not_false_eq_true, false_implies, true_implies, Nat.left_eq_add, Nat.add_eq_left, g33, cne, x3, s6]
        exact z
      · rw [d1] at s6
        by_cases cL : c = L
        · have cL' : ((c : Int) = (L : Int)) = True := eq_true (by omega)
          have z := wd 1 (by rw [if_pos ⟨by omega, cL⟩])
          simp only [rs_x_29_0, rs_x_29_1, rs_x_29_4, rs_x_29_5, rs_x_29_6, rs_x_29_7, rs_x_29_8, rs_x_29_11, rs_x_29_14, rs_x_29_15, rs_x_29_16, rs_x_29_17, rs_x_29_18, rs_x_29_21, rs_x_29_23, rs_x_29_25, rs_x_29_28, rs_x_29_31, rs_x_29_32, rs_x_29_35, rs_x_29_36, rs_x_29_37, rs_x_29_40, rs_x_29_41, rs_x_29_43, rs_x_29_46, rs_x_29_47, rs_x_29_48, rs_x_29_51, rs_x_29_54, rs_x_29_55, rs_x_29_56, rs_x_29_57, rs_x_29_59, rs_x_29_62, rs_x_29_63, rs_x_29_64, rs_x_29_65, rs_x_29_68, rs_x_29_71, rs_x_29_73, rs_x_29_74, rs_x_29_77, rs_x_29_78, rs_x_29_79, rs_x_29_82, rs_x_29_83, rs_x_29_86, rs_x_29_87, rs_x_29_90, rs_x_29_92, rs_x_29_95, rs_x_29_97, rs_x_29_98, rs_x_29_100, rs_x_29_102, rs_x_29_104, rs_x_29_107, rs_x_29_108, rs_x_29_111, rs_x_29_112, rs_x_29_115, rs_x_29_118, rs_x_29_121, rs_x_29_122, rs_x_29_123, rs_x_29_124, rs_x_29_127, rs_x_29_128, rs_x_29_129, rs_x_29_132, rs_x_29_134, rs_x_29_137, rs_x_29_138, rs_x_29_141, rs_x_29_143, rs_x_29_144, rs_x_29_146, rs_x_29_147, rs_x_29_150, rs_x_29_151, rs_x_29_154, rs_x_29_156, rs_x_29_157, rs_x_29_159, rs_x_29_160, rs_x_29_162, rs_x_29_163, rs_x_29_166, rs_x_29_167, rs_x_29_168, rs_x_29_169, rs_x_29_170, rs_x_29_171, rs_x_29_174, rs_x_29_175, rs_x_29_178, rs_x_29_179, rs_x_29_180, rs_x_29_181, rs_x_29_182, rs_x_29_184, rs_x_29_186, rs_x_29_188, rs_x_29_191, rs_x_29_192, rs_x_29_193, rs_x_29_196, rs_x_29_197, rs_x_29_198, rs_x_29_199, rs_x_29_200, rs_x_29_203, rs_x_29_204, rs_x_29_205, rs_x_29_206, rs_x_29_207, rs_x_29_208, rs_x_29_211, rs_x_29_213, rs_x_29_215, rs_x_29_218, rs_x_29_220, rs_x_29_221, rs_x_29_224, rs_x_29_227, rs_x_29_228, rs_cn_n, rs_cn_i, rs_cn_r, rs_cn_t, rs_up_at, Nat.reduceAdd, Nat.reduceEqDiff, Nat.reduceSub, Int.reduceToNat, Int.reduceNeg, Int.reduceLE, Int.reduceLT, Int.reduceAdd, Int.reduceSub, Int.reduceMul, Int.add_sub_cancel, List.length_cons, List.length_nil, Nat.reduceLeDiff, Nat.reduceLT, Int.cast_ofNat_Int, true_and, and_true, and_self, false_and, and_false, ↓reduceIte, Nat.zero_le, or_true, true_or, false_or, or_false, Nat.sub_zero, Int.toNat_natCast, Nat.le_refl, implies_true, forall_const, Int.reduceEq, Nat.reduceMul, ne_eq, not_true_eq_false, not_false_eq_true, false_implies, true_implies, Nat.left_eq_add, Nat.add_eq_left, g33, g36, f4, cne, x3, s6, so0, cL']
          exact z
        · have cL' : ((c : Int) = (L : Int)) = False := eq_false (by omega)
          have z := wd 0 (by rw [if_neg (fun g => cL g.2)])
          simp only [rs_x_29_0, rs_x_29_1, rs_x_29_4, rs_x_29_5, rs_x_29_6, rs_x_29_7, rs_x_29_8, rs_x_29_11, rs_x_29_14, rs_x_29_15, rs_x_29_16, rs_x_29_17, rs_x_29_18, rs_x_29_21, rs_x_29_23, rs_x_29_25, rs_x_29_28, rs_x_29_31, rs_x_29_32, rs_x_29_35, rs_x_29_36, rs_x_29_37, rs_x_29_40, rs_x_29_41, rs_x_29_43, rs_x_29_46, rs_x_29_47, rs_x_29_48, rs_x_29_51, rs_x_29_54, rs_x_29_55, rs_x_29_56, rs_x_29_57, rs_x_29_59, rs_x_29_62, rs_x_29_63, rs_x_29_64, rs_x_29_65, rs_x_29_68, rs_x_29_71, rs_x_29_73, rs_x_29_74, rs_x_29_77, rs_x_29_78, rs_x_29_79, rs_x_29_82, rs_x_29_83, rs_x_29_86, rs_x_29_87, rs_x_29_90, rs_x_29_92, rs_x_29_95, rs_x_29_97, rs_x_29_98, rs_x_29_100, rs_x_29_102, rs_x_29_104, rs_x_29_107, rs_x_29_108, rs_x_29_111, rs_x_29_112, rs_x_29_115, rs_x_29_118, rs_x_29_121, rs_x_29_122, rs_x_29_123, rs_x_29_124, rs_x_29_127, rs_x_29_128, rs_x_29_129, rs_x_29_132, rs_x_29_134, rs_x_29_137, rs_x_29_138, rs_x_29_141, rs_x_29_143, rs_x_29_144, rs_x_29_146, rs_x_29_147, rs_x_29_150, rs_x_29_151, rs_x_29_154, rs_x_29_156, rs_x_29_157, rs_x_29_159, rs_x_29_160, rs_x_29_162, rs_x_29_163, rs_x_29_166, rs_x_29_167, rs_x_29_168, rs_x_29_169, rs_x_29_170, rs_x_29_171, rs_x_29_174, rs_x_29_175, rs_x_29_178, rs_x_29_179, rs_x_29_180, rs_x_29_181, rs_x_29_182, rs_x_29_184, rs_x_29_186, rs_x_29_188, rs_x_29_191, rs_x_29_192, rs_x_29_193, rs_x_29_196, rs_x_29_197, rs_x_29_198, rs_x_29_199, rs_x_29_200, rs_x_29_203, rs_x_29_204, rs_x_29_205, rs_x_29_206, rs_x_29_207, rs_x_29_208, rs_x_29_211, rs_x_29_213, rs_x_29_215, rs_x_29_218, rs_x_29_220, rs_x_29_221, rs_x_29_224, rs_x_29_227, rs_x_29_228, rs_cn_n, rs_cn_i, rs_cn_r, rs_cn_t, rs_up_at, Nat.reduceAdd, Nat.reduceEqDiff, Nat.reduceSub, Int.reduceToNat, Int.reduceNeg, Int.reduceLE, Int.reduceLT, Int.reduceAdd, Int.reduceSub, Int.reduceMul, Int.add_sub_cancel, List.length_cons, List.length_nil, Nat.reduceLeDiff, Nat.reduceLT, Int.cast_ofNat_Int, true_and, and_true, and_self, false_and, and_false, ↓reduceIte, Nat.zero_le, or_true, true_or, false_or, or_false, Nat.sub_zero, Int.toNat_natCast, Nat.le_refl, implies_true, forall_const, Int.reduceEq, Nat.reduceMul, ne_eq, not_true_eq_false, not_false_eq_true, false_implies, true_implies, Nat.left_eq_add, Nat.add_eq_left, g33, g36, f4, cne, x3, s6, so0, cL']
          exact z
    · rw [← so_o_nb] at hc
      rw [so_s_none hc] at hK
      have z := hK (rs_up (rs_cp I (37 + 3 * x + 1) 35 0 0 10) 33 2 (n : Int)) ⟨fun a j h1 h2 h3 h4 => by
        rw [rs_up_at, if_neg (fun g => (h3 g.1).1 g.2), rs_cp_at, if_neg (fun g => h2 g.1)], by
        rw [rs_up_at, if_neg (by omega), rs_cp_at, if_neg (by omega)], fun _ => ⟨by simp [rs_up_at], fun j hj => by
        have hn' := net.1
        have bj := hok j (by omega)
        rw [rs_up_at, if_neg (by omega), rs_cp_at, if_pos (by omega)]
        rw [show 0 + (j - 0) = j by omega]
        exact ⟨(nb_at hj).symm, by omega, by omega⟩⟩, fun q => absurd rfl q⟩ (by
        rw [rs_up_at, if_neg (by omega), rs_cp_at, if_neg (by omega)]
        exact hs)
      have s5' : rs_cp I (37 + 3 * x + 1) 35 0 0 10 33 5 = (n : Int) := by rw [rs_cp_at, if_neg (by omega), s5]
      simp only [rs_x_29_0, rs_x_29_1, rs_x_29_4, rs_x_29_5, rs_x_29_6, rs_x_29_7, rs_x_29_8, rs_x_29_11, rs_x_29_14, rs_x_29_15, rs_x_29_16, rs_x_29_17, rs_x_29_18, rs_x_29_21, rs_x_29_23, rs_x_29_25, rs_x_29_28, rs_x_29_31, rs_x_29_32, rs_x_29_35, rs_x_29_36, rs_x_29_37, rs_x_29_40, rs_x_29_41, rs_x_29_43, rs_x_29_46, rs_x_29_47, rs_x_29_48, rs_x_29_51, rs_x_29_54, rs_x_29_55, rs_x_29_56, rs_x_29_57, rs_x_29_59, rs_x_29_62, rs_x_29_63, rs_x_29_64, rs_x_29_65, rs_x_29_68, rs_x_29_71, rs_x_29_73, rs_x_29_74, rs_x_29_77, rs_x_29_78, rs_x_29_79, rs_x_29_82, rs_x_29_83, rs_x_29_86, rs_x_29_87, rs_x_29_89, rs_x_29_90, rs_x_29_92, rs_x_29_95, rs_x_29_97, rs_x_29_98, rs_x_29_102, rs_x_29_104, rs_x_29_107, rs_x_29_108, rs_x_29_111, rs_x_29_112, rs_x_29_115, rs_x_29_118, rs_x_29_121, rs_x_29_122, rs_x_29_123, rs_x_29_124, rs_x_29_127, rs_x_29_128, rs_x_29_129, rs_x_29_132, rs_x_29_134, rs_x_29_137, rs_x_29_138, rs_x_29_141, rs_x_29_143, rs_x_29_144, rs_x_29_146, rs_x_29_147, rs_x_29_150, rs_x_29_151, rs_x_29_154, rs_x_29_156, rs_x_29_157, rs_x_29_159, rs_x_29_160, rs_x_29_162, rs_x_29_163, rs_x_29_166, rs_x_29_167, rs_x_29_168, rs_x_29_169, rs_x_29_170, rs_x_29_171, rs_x_29_174, rs_x_29_175, rs_x_29_178, rs_x_29_179, rs_x_29_180, rs_x_29_181, rs_x_29_182, rs_x_29_184, rs_x_29_186, rs_x_29_188, rs_x_29_191, rs_x_29_192, rs_x_29_193, rs_x_29_196, rs_x_29_197, rs_x_29_198, rs_x_29_199, rs_x_29_200, rs_x_29_203, rs_x_29_204, rs_x_29_205, rs_x_29_206, rs_x_29_207, rs_x_29_208, rs_x_29_211, rs_x_29_213, rs_x_29_215, rs_x_29_218, rs_x_29_220, rs_x_29_221, rs_x_29_224, rs_x_29_227, rs_x_29_228, rs_cn_n, rs_cn_i, rs_cn_r, rs_cn_t, rs_up_at, Nat.reduceAdd, Nat.reduceEqDiff, Nat.reduceSub, Int.reduceToNat, Int.reduceNeg, Int.reduceLE, Int.reduceLT, Int.reduceAdd, Int.reduceSub, Int.reduceMul, Int.add_sub_cancel, List.length_cons, List.length_nil, Nat.reduceLeDiff, Nat.reduceLT, Int.cast_ofNat_Int, true_and, and_true, and_self, false_and, and_false, ↓reduceIte, Nat.zero_le, or_true, true_or, false_or, or_false, Nat.sub_zero, Int.toNat_natCast, Nat.le_refl, implies_true, forall_const, Int.reduceEq, Nat.reduceMul, ne_eq, not_true_eq_false, not_false_eq_true, false_implies, true_implies, Nat.left_eq_add, Nat.add_eq_left, g33, g35, f1, q1, q2, q4, s5']
      exact ⟨hd0, z⟩
