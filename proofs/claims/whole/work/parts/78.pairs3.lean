/-! ===== the searches ===== -/
def so_k (r : so_R) : Prop := r.1 = 0 ∨ r.1 = 1 ∨ r.1 = -1000
theorem so_l_k {rec : (Nat → Int) → (Nat → Int) → Int → so_R} (hr : ∀ a b s, so_k (rec a b s)) {F : (Nat → Int) → (Nat → Int) → Option ((Nat → Int) × (Nat → Int))} {lim : Int} {w : Nat → Int} {c : Nat} {lo hi : Nat → Int} : ∀ m k s, so_k (so_l rec F lim w c lo hi m k s)
  | 0, k, s => by rw [so_l]; exact Or.inl rfl
  | m + 1, k, s => by
    by_cases h : lim ≤ s
    · rw [so_l_lim h]; exact Or.inr (Or.inr rfl)
    · cases e : F (so_up lo c (w k)) (so_up hi c (w k)) with
      | none => rw [so_l_no h e]; exact so_l_k hr m (k + 1) (s + 1)
      | some p =>
        obtain ⟨y1, y2⟩ := so_l_yes (rec := rec) (F := F) (lim := lim) (w := w) (c := c) (m := m) (k := k) (lo := lo) (hi := hi) h e
        by_cases z : (rec p.1 p.2 (s + 1)).1 = 0
        · rw [y1 z]; exact so_l_k hr m (k + 1) _
        · rw [y2 z]; exact hr _ _ _
theorem so_s_k {n L : Nat} {A : (Nat → Int) → (Nat → Int) → Prop} {dn lim : Int} : ∀ f lo hi s, so_k (so_s n A L dn lim f lo hi s)
  | 0, lo, hi, s => by
    cases e : so_o n L lo hi with
    | none => rw [so_s_none e]; exact Or.inr (Or.inl rfl)
    | some c => rw [so_s_0 e]; exact Or.inl rfl
  | f + 1, lo, hi, s => by
    cases e : so_o n L lo hi with
    | none => rw [so_s_none e]; exact Or.inr (Or.inl rfl)
    | some c => rw [so_s_s e]; exact so_l_k (fun a b s => so_s_k f a b s) _ _ _
theorem so_top_k {n L : Nat} {A : (Nat → Int) → (Nat → Int) → Prop} {dn lim : Int} {lo hi : Nat → Int} : so_k (so_top n A L dn lim lo hi) := by
  unfold so_top
  cases sF n A (nb n lo) (nb n hi) with
  | none => exact Or.inl rfl
  | some p => exact so_s_k _ _ _ _
theorem so_top_cg {n L : Nat} {A : (Nat → Int) → (Nat → Int) → Prop} {dn lim : Int} {lo hi lo' hi' : Nat → Int} (h : ∀ j, j < n → lo j = lo' j ∧ hi j = hi' j) : so_top n A L dn lim lo hi = so_top n A L dn lim lo' hi' := by
  unfold so_top
  rw [nb_eq (fun j hj => (h j hj).1), nb_eq (fun j hj => (h j hj).2)]
theorem ci_top {I : rs_M} {n L : Nat} {dn lim : Int} (h : c_cfg I n) (m : Nat) : so_top n (bx_all n (mt_G I) (mt_S I) (mt_Q I)) L dn lim (mo_lo I m) (mo_hi I m) = so_top n (bx_all n (nt_G I) (nt_S I) (nt_Q I)) L dn lim (cl_lo I m) (cl_hi I m) := by
  rw [ci_A h]
  exact so_top_cg (fun j hj => ci_ly h m j hj)
theorem ci_fin2 {L n : Nat} {xs : Nat → Int32} {I N J2 : rs_M} {z : Int} {r : so_R} (h : ci L xs I) (hc : c_cfg I n) (hN : cs_post n I N r) (hJ : sg_post n (rs_up (rs_up N 110 0 z) 88 0 0) J2 r) : J2 110 0 = z ∧ J2 88 0 = 0 ∧ ci L xs J2 := by
  obtain ⟨h0, _, hl, hs, hp⟩ := h
  obtain ⟨n1, n2, n3, n4⟩ := hN
  obtain ⟨j1, j2, j3, j4⟩ := hJ
  have hn := hc.1.1
  have k : ∀ a j, a ≠ 102 → a ≠ 103 → a ≠ 104 → a ≠ 107 → a ≠ 108 → a ≠ 109 → (a = 88 → 0 < j ∧ (j < 20 ∨ (26 < j ∧ j ≠ 31 ∧ j ≠ 32))) → a ≠ 110 → J2 a j = N a j := fun a j p1 p2 p3 p4 p5 p6 p7 p8 => by
    rw [j1 a j p1 p2 p3 p4 p5 p6 (fun q => (p7 q).2), rs_up_at, if_neg (fun q => by have := p7 q.1; omega), rs_up_at, if_neg (fun q => p8 q.1)]
  have kI : ∀ a j, a ≠ 102 → a ≠ 103 → a ≠ 104 → a ≠ 107 → a ≠ 108 → a ≠ 109 → (a = 88 → 0 < j ∧ (j < 20 ∨ (26 < j ∧ j ≠ 31 ∧ j ≠ 32))) → a ≠ 110 → (a < 9 ∨ 11 < a) → a ≠ 35 → a ≠ 36 → (a < 37 ∨ 69 < a) → (a = 33 → j < 2 ∨ j = 4) → J2 a j = I a j := fun a j p1 p2 p3 p4 p5 p6 p7 p8 p9 p10 p11 p12 p13 => by
    rw [k a j p1 p2 p3 p4 p5 p6 p7 p8, n1 a j p9 p10 p11 p12 p13]
  have q332 : J2 33 2 = N 33 2 := k _ _ (by omega) (by omega) (by omega) (by omega) (by omega) (by omega) (by omega) (by omega)
  have q333 : J2 33 3 = N 33 3 := k _ _ (by omega) (by omega) (by omega) (by omega) (by omega) (by omega) (by omega) (by omega)
  have q35 : ∀ j, J2 35 j = N 35 j := fun j => k _ _ (by omega) (by omega) (by omega) (by omega) (by omega) (by omega) (by omega) (by omega)
  refine ⟨by rw [j1 110 0 (by omega) (by omega) (by omega) (by omega) (by omega) (by omega) (by omega), rs_up_at, if_neg (by omega), rs_up_at, if_pos ⟨rfl, rfl⟩], by rw [j1 88 0 (by omega) (by omega) (by omega) (by omega) (by omega) (by omega) (by omega), rs_up_at, if_pos ⟨rfl, rfl⟩], fun j => ?_, ⟨n, c_cfg_fr (fun a j q => kI a j (by have := q.2.2.1; omega) (by have := q.2.2.1; omega) (by have := q.2.2.1; omega) (by have := q.2.2.1; omega) (by have := q.2.2.1; omega) (by have := q.2.2.1; omega) (fun g => by have := q.2.2.2.2 g; omega) (by have := q.2.2.1; omega) q.1 (by have := q.2.1; omega) (by have := q.2.1; omega) (by have := q.2.1; omega) (by have := q.2.1; omega)) hc⟩, c_lat_fr (kI _ _ (by omega) (by omega) (by omega) (by omega) (by omega) (by omega) (by omega) (by omega) (by omega) (by omega) (by omega) (by omega) (by omega)) (kI _ _ (by omega) (by omega) (by omega) (by omega) (by omega) (by omega) (by omega) (by omega) (by omega) (by omega) (by omega) (by omega) (by omega)) (fun j => kI _ _ (by omega) (by omega) (by omega) (by omega) (by omega) (by omega) (by omega) (by omega) (by omega) (by omega) (by omega) (by omega) (by omega)) (fun j => kI _ _ (by omega) (by omega) (by omega) (by omega) (by omega) (by omega) (by omega) (by omega) (by omega) (by omega) (by omega) (by omega) (by omega)) (fun j => kI _ _ (by omega) (by omega) (by omega) (by omega) (by omega) (by omega) (by omega) (by omega) (by omega) (by omega) (by omega) (by omega) (by omega)) (fun j => kI _ _ (by omega) (by omega) (by omega) (by omega) (by omega) (by omega) (by omega) (by omega) (by omega) (by omega) (by omega) (by omega) (by omega)) hl, ?_, ?_⟩
  · rw [kI 0 j (by omega) (by omega) (by omega) (by omega) (by omega) (by omega) (by omega) (by omega) (by omega) (by omega) (by omega) (by omega) (by omega)]
    exact h0 j
  · by_cases g : r.1 = 1
    · obtain ⟨a1, a2⟩ := n3 g
      obtain ⟨b1, b2⟩ := j3 g
      refine ⟨n, hn, by rw [q332, a1], b1, fun j hj => ?_⟩
      rw [b2 j hj, q35]
      exact ⟨(a2 j hj).1.symm, (a2 j hj).2⟩
    · obtain ⟨a1, a2⟩ := n4 g
      obtain ⟨b1, b2⟩ := j4 g
      refine c_set_fr (by rw [q332, a1]) ?_ (fun j => by rw [q35, a2]) (fun j => ?_) hs
      · rw [b1, rs_up_at, if_neg (by omega), rs_up_at, if_neg (by omega), n1 88 32 (by omega) (by omega) (by omega) (by omega) (by omega)]
      · rw [b2, rs_up_at, if_neg (by omega), rs_up_at, if_neg (by omega), n1 107 j (by omega) (by omega) (by omega) (by omega) (by omega)]
  · show J2 88 31 = J2 33 3
    rw [j2, q333, n2]
theorem cs_mk {n : Nat} {I N : rs_M} {r : so_R} (hN : cs_post n I N r) (z : Int) : ∀ a j, 88 ≤ a → a < 110 → rs_up N 110 0 z a j = I a j := fun a j h1 h2 => by
  rw [rs_up_at, if_neg (by omega), hN.1 a j (by omega) (by omega) (by omega) (by omega) (by omega)]
theorem pr_solve {L : Nat} {xs : Nat → Int32} {I : rs_M} {d : Nat} {lim : Int} (hd : 100 ≤ d) (h : ci L xs I) : rs_pairO 45 105 [.inr (.inr 1), .inl lim] [.inr (.inr 88), .inl lim] (ci L xs) I d := by
  obtain ⟨h0, ⟨n, hc⟩, hl, hs, hp⟩ := id h
  have okc := ci_cl hc
  obtain ⟨hf, e17I⟩ := ci_f hc
  refine mk_O (by omega) (by omega) (ct_solve (n := n) (by omega) (by omega) okc (fun g => ⟨fun _ => rfl, Or.inr ⟨rfl, ?_⟩⟩) (fun g N hN => ⟨fun j => hN.1 0 j (by omega) (by omega) (by omega) (by omega) (by omega), Or.inl ⟨_, rfl, ?_, ?_⟩⟩))
  · refine cm_solve (by omega) hf e17I (ci_mo hc) (fun _ => ⟨⟨_, rfl⟩, ?_, ci_up (Or.inl ⟨rfl, rfl⟩) (ci_up (Or.inl ⟨rfl, rfl⟩) h)⟩) (fun q => absurd q g)
    rw [rs_up_at, if_pos ⟨rfl, rfl⟩]
  · have := so_top_k (n := n) (L := 0) (A := bx_all n (nt_G I) (nt_S I) (nt_Q I)) (dn := 0) (lim := lim) (lo := cl_lo I (rg_ef I (I 1 7).toNat)) (hi := cl_hi I (rg_ef I (I 1 7).toNat))
    unfold so_k at this
    unfold rs_R
    omega
  · obtain ⟨ok1, emo, eG, eS, eQ, e17⟩ := mo_keep (cs_mk hN (so_top n (bx_all n (nt_G I) (nt_S I) (nt_Q I)) 0 0 lim (cl_lo I (rg_ef I (I 1 7).toNat)) (cl_hi I (rg_ef I (I 1 7).toNat))).1) hc
    refine cm_solve (by omega) hf e17 ok1 (fun q => absurd g q) (fun _ J2 hJ => ?_)
    rw [eG, eS, eQ, (emo _).1, (emo _).2, ci_top hc] at hJ ⊢
    exact ⟨rfl, ci_fin2 h hc hN hJ⟩
theorem pr_far {L : Nat} {xs : Nat → Int32} {I N : rs_M} {d n : Nat} {c dn lim : Int} (hd : 100 ≤ d) (hdn : dn = 0 ∨ dn = 1) (h : ci L xs I) (hc : c_cfg I n) (g1 : 0 ≤ c ∧ c < n) (g2 : 0 ≤ lim ∧ lim ≤ 300) (hN : cs_post n I N (so_top n (bx_all n (nt_G I) (nt_S I) (nt_Q I)) c.toNat dn lim (cl_lo I (rg_ef I (I 1 7).toNat)) (cl_hi I (rg_ef I (I 1 7).toNat)))) : rs_R (if (so_top n (bx_all n (nt_G I) (nt_S I) (nt_Q I)) c.toNat dn lim (cl_lo I (rg_ef I (I 1 7).toNat)) (cl_hi I (rg_ef I (I 1 7).toNat))).1 = 1 then (so_top n (bx_all n (nt_G I) (nt_S I) (nt_Q I)) c.toNat dn lim (cl_lo I (rg_ef I (I 1 7).toNat)) (cl_hi I (rg_ef I (I 1 7).toNat))).2.2 c.toNat else -1000) ∧ ∀ u, rs_run u (d - 1) 106 0 (rs_en0 [.inr (.inr 88), .inl c, .inl dn, .inl lim] 4) [] (rs_up N 110 0 (if (so_top n (bx_all n (nt_G I) (nt_S I) (nt_Q I)) c.toNat dn lim (cl_lo I (rg_ef I (I 1 7).toNat)) (cl_hi I (rg_ef I (I 1 7).toNat))).1 = 1 then (so_top n (bx_all n (nt_G I) (nt_S I) (nt_Q I)) c.toNat dn lim (cl_lo I (rg_ef I (I 1 7).toNat)) (cl_hi I (rg_ef I (I 1 7).toNat))).2.2 c.toNat else -1000)) (fun v J2 => v = some (.inl (if (so_top n (bx_all n (nt_G I) (nt_S I) (nt_Q I)) c.toNat dn lim (cl_lo I (rg_ef I (I 1 7).toNat)) (cl_hi I (rg_ef I (I 1 7).toNat))).1 = 1 then (so_top n (bx_all n (nt_G I) (nt_S I) (nt_Q I)) c.toNat dn lim (cl_lo I (rg_ef I (I 1 7).toNat)) (cl_hi I (rg_ef I (I 1 7).toNat))).2.2 c.toNat else -1000)) ∧ J2 110 0 = (if (so_top n (bx_all n (nt_G I) (nt_S I) (nt_Q I)) c.toNat dn lim (cl_lo I (rg_ef I (I 1 7).toNat)) (cl_hi I (rg_ef I (I 1 7).toNat))).1 = 1 then (so_top n (bx_all n (nt_G I) (nt_S I) (nt_Q I)) c.toNat dn lim (cl_lo I (rg_ef I (I 1 7).toNat)) (cl_hi I (rg_ef I (I 1 7).toNat))).2.2 c.toNat else -1000) ∧ J2 88 0 = 0 ∧ ci L xs J2) := by
  obtain ⟨hf, e17I⟩ := ci_f hc
  obtain ⟨R, eR⟩ : ∃ R, so_top n (bx_all n (nt_G I) (nt_S I) (nt_Q I)) c.toNat dn lim (cl_lo I (rg_ef I (I 1 7).toNat)) (cl_hi I (rg_ef I (I 1 7).toNat)) = R := ⟨_, rfl⟩
  rw [eR] at hN ⊢
  refine ⟨?_, fun u => ?_⟩
  · split
    · rename_i q
      have := (hN.2.2.1 q).2 c.toNat (by omega)
      unfold rs_R
      omega
    · unfold rs_R; omega
  · obtain ⟨z, ez⟩ : ∃ z : Int, (if R.1 = 1 then R.2.2 c.toNat else -1000) = z := ⟨_, rfl⟩
    rw [ez]
    obtain ⟨ok1, emo, eG, eS, eQ, e17⟩ := mo_keep (cs_mk hN z) hc
    refine cm_farthest (by omega) hf e17 ok1 hdn (fun q => absurd ⟨g1, g2⟩ q) (fun _ _ J2 hJ => ?_)
    rw [eG, eS, eQ, (emo _).1, (emo _).2, ci_top hc, eR] at hJ ⊢
    exact ⟨by rw [ez], ci_fin2 h hc hN hJ⟩
set_option maxRecDepth 100000 in
set_option maxHeartbeats 2000000 in
theorem cm_leastR {u e : Nat} {c lim : Int} {I : rs_M} {K : rs_K} (he : 1 ≤ e) (h : ∀ u' K', (∀ z J, K (some (.inl z)) J → K' (some (.inl z)) J) → rs_run u' (e - 1) 106 0 (rs_en0 [.inr (.inr 88), .inl c, .inl 0, .inl lim] 4) [] I K') : rs_run u e 107 0 (rs_en0 [.inr (.inr 88), .inl c, .inl lim] 3) [] I K := by
  show rs_run u e 107 0 [some (.inr (.inr 88)), some (.inl c), some (.inl lim)] [] I K
  have g88 : rs_sh 88 = (1, 8) := by decide +kernel
  have he0 : 0 < e := by omega
  simp only [rs_x_107_0, rs_x_107_1, rs_x_107_2, rs_x_107_3, rs_x_107_4, rs_x_107_7, rs_cn_n, rs_cn_i, rs_cn_r, rs_cn_t, rs_up_at, Nat.reduceAdd, Nat.reduceEqDiff, Nat.reduceSub, Int.reduceToNat, Int.reduceNeg, Int.reduceLE, Int.reduceLT, Int.reduceAdd, Int.reduceSub, Int.reduceMul, Int.add_sub_cancel, List.length_cons, List.length_nil, Nat.reduceLeDiff, Nat.reduceLT, Int.cast_ofNat_Int, true_and, and_true, and_self, false_and, and_false, ↓reduceIte, Nat.zero_le, or_true, true_or, false_or, or_false, Nat.sub_zero, Int.toNat_natCast, Nat.le_refl, implies_true, forall_const, Int.reduceEq, Nat.reduceMul, ne_eq, not_true_eq_false, not_false_eq_true, false_implies, true_implies, Nat.left_eq_add, Nat.add_eq_left, g88]
  refine ⟨he0, h _ _ (fun z J k => ?_)⟩
  simp only [rs_x_107_0, rs_x_107_1, rs_x_107_2, rs_x_107_3, rs_x_107_4, rs_x_107_7, rs_cn_n, rs_cn_i, rs_cn_r, rs_cn_t, rs_up_at, Nat.reduceAdd, Nat.reduceEqDiff, Nat.reduceSub, Int.reduceToNat, Int.reduceNeg, Int.reduceLE, Int.reduceLT, Int.reduceAdd, Int.reduceSub, Int.reduceMul, Int.add_sub_cancel, List.length_cons, List.length_nil, Nat.reduceLeDiff, Nat.reduceLT, Int.cast_ofNat_Int, true_and, and_true, and_self, false_and, and_false, ↓reduceIte, Nat.zero_le, or_true, true_or, false_or, or_false, Nat.sub_zero, Int.toNat_natCast, Nat.le_refl, implies_true, forall_const, Int.reduceEq, Nat.reduceMul, ne_eq, not_true_eq_false, not_false_eq_true, false_implies, true_implies, Nat.left_eq_add, Nat.add_eq_left]
  exact k
set_option maxRecDepth 100000 in
set_option maxHeartbeats 2000000 in
theorem cm_greatestR {u e : Nat} {c lim : Int} {I : rs_M} {K : rs_K} (he : 1 ≤ e) (h : ∀ u' K', (∀ z J, K (some (.inl z)) J → K' (some (.inl z)) J) → rs_run u' (e - 1) 106 0 (rs_en0 [.inr (.inr 88), .inl c, .inl 1, .inl lim] 4) [] I K') : rs_run u e 108 0 (rs_en0 [.inr (.inr 88), .inl c, .inl lim] 3) [] I K := by
  show rs_run u e 108 0 [some (.inr (.inr 88)), some (.inl c), some (.inl lim)] [] I K
  have g88 : rs_sh 88 = (1, 8) := by decide +kernel
  have he0 : 0 < e := by omega
  simp only [rs_x_108_0, rs_x_108_1, rs_x_108_2, rs_x_108_3, rs_x_108_4, rs_x_108_7, rs_cn_n, rs_cn_i, rs_cn_r, rs_cn_t, rs_up_at, Nat.reduceAdd, Nat.reduceEqDiff, Nat.reduceSub, Int.reduceToNat, Int.reduceNeg, Int.reduceLE, Int.reduceLT, Int.reduceAdd, Int.reduceSub, Int.reduceMul, Int.add_sub_cancel, List.length_cons, List.length_nil, Nat.reduceLeDiff, Nat.reduceLT, Int.cast_ofNat_Int, true_and, and_true, and_self, false_and, and_false, ↓reduceIte, Nat.zero_le, or_true, true_or, false_or, or_false, Nat.sub_zero, Int.toNat_natCast, Nat.le_refl, implies_true, forall_const, Int.reduceEq, Nat.reduceMul, ne_eq, not_true_eq_false, not_false_eq_true, false_implies, true_implies, Nat.left_eq_add, Nat.add_eq_left, g88]
  refine ⟨he0, h _ _ (fun z J k => ?_)⟩
  simp only [rs_x_108_0, rs_x_108_1, rs_x_108_2, rs_x_108_3, rs_x_108_4, rs_x_108_7, rs_cn_n, rs_cn_i, rs_cn_r, rs_cn_t, rs_up_at, Nat.reduceAdd, Nat.reduceEqDiff, Nat.reduceSub, Int.reduceToNat, Int.reduceNeg, Int.reduceLE, Int.reduceLT, Int.reduceAdd, Int.reduceSub, Int.reduceMul, Int.add_sub_cancel, List.length_cons, List.length_nil, Nat.reduceLeDiff, Nat.reduceLT, Int.cast_ofNat_Int, true_and, and_true, and_self, false_and, and_false, ↓reduceIte, Nat.zero_le, or_true, true_or, false_or, or_false, Nat.sub_zero, Int.toNat_natCast, Nat.le_refl, implies_true, forall_const, Int.reduceEq, Nat.reduceMul, ne_eq, not_true_eq_false, not_false_eq_true, false_implies, true_implies, Nat.left_eq_add, Nat.add_eq_left]
  exact k
theorem rs_run_k {u d mu pc : Nat} {ls : rs_L} {st : List rs_V} {I : rs_M} {K K' : rs_K} (hmu : mu < 116) (h : rs_run u d mu pc ls st I K) (hk : ∀ v J, K v J → K' v J) : rs_run u d mu pc ls st I K' := by
  obtain ⟨v, J, a, b⟩ := rs_out hmu h
  exact b K' (hk v J a)
theorem pr_least {L : Nat} {xs : Nat → Int32} {I : rs_M} {d : Nat} {c lim : Int} (hd : 100 ≤ d) (h : ci L xs I) : rs_pairO 46 107 [.inr (.inr 1), .inl c, .inl lim] [.inr (.inr 88), .inl c, .inl lim] (ci L xs) I d := by
  obtain ⟨h0, ⟨n, hc⟩, hl, hs, hp⟩ := id h
  have okc := ci_cl hc
  obtain ⟨hf, e17I⟩ := ci_f hc
  refine mk_O (by omega) (by omega) (ct_least (n := n) (by omega) (by omega) okc (fun g => ⟨fun _ => rfl, Or.inr ⟨rfl, ?_⟩⟩) (fun g1 g2 N hN => ⟨fun j => hN.1 0 j (by omega) (by omega) (by omega) (by omega) (by omega), Or.inl ⟨_, rfl, (pr_far hd (Or.inl rfl) h hc g1 g2 hN).1, ?_⟩⟩))
  · refine cm_leastR (by omega) fun u' K' hK => cm_farthest (by omega) hf e17I (ci_mo hc) (Or.inl rfl) (fun _ => hK _ _ ⟨⟨_, rfl⟩, ?_, ci_up (Or.inl ⟨rfl, rfl⟩) (ci_up (Or.inl ⟨rfl, rfl⟩) h)⟩) (fun q1 q2 => absurd ⟨q1, q2⟩ g)
    rw [rs_up_at, if_pos ⟨rfl, rfl⟩]
  · exact cm_leastR (by omega) fun u' K' hK => rs_run_k (by omega) ((pr_far hd (Or.inl rfl) h hc g1 g2 hN).2 u') (fun v J q => by rw [q.1]; exact hK _ _ ⟨rfl, q.2⟩)
theorem pr_greatest {L : Nat} {xs : Nat → Int32} {I : rs_M} {d : Nat} {c lim : Int} (hd : 100 ≤ d) (h : ci L xs I) : rs_pairO 47 108 [.inr (.inr 1), .inl c, .inl lim] [.inr (.inr 88), .inl c, .inl lim] (ci L xs) I d := by
  obtain ⟨h0, ⟨n, hc⟩, hl, hs, hp⟩ := id h
  have okc := ci_cl hc
  obtain ⟨hf, e17I⟩ := ci_f hc
  refine mk_O (by omega) (by omega) (ct_greatest (n := n) (by omega) (by omega) okc (fun g => ⟨fun _ => rfl, Or.inr ⟨rfl, ?_⟩⟩) (fun g1 g2 N hN => ⟨fun j => hN.1 0 j (by omega) (by omega) (by omega) (by omega) (by omega), Or.inl ⟨_, rfl, (pr_far hd (Or.inr rfl) h hc g1 g2 hN).1, ?_⟩⟩))
  · refine cm_greatestR (by omega) fun u' K' hK => cm_farthest (by omega) hf e17I (ci_mo hc) (Or.inr rfl) (fun _ => hK _ _ ⟨⟨_, rfl⟩, ?_, ci_up (Or.inl ⟨rfl, rfl⟩) (ci_up (Or.inl ⟨rfl, rfl⟩) h)⟩) (fun q1 q2 => absurd ⟨q1, q2⟩ g)
    rw [rs_up_at, if_pos ⟨rfl, rfl⟩]
  · exact cm_greatestR (by omega) fun u' K' hK => rs_run_k (by omega) ((pr_far hd (Or.inr rfl) h hc g1 g2 hN).2 u') (fun v J q => by rw [q.1]; exact hK _ _ ⟨rfl, q.2⟩)
