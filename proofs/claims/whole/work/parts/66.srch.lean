/-! ===== searching, purely ===== -/
def nb (n : Nat) (lo : Nat → Int) : Nat → Int := fun j => if j < n then lo j else 0
theorem nb_at {n j : Nat} {lo : Nat → Int} (h : j < n) : nb n lo j = lo j := if_pos h
theorem nb_eq {n : Nat} {lo lo' : Nat → Int} (h : ∀ j, j < n → lo j = lo' j) : nb n lo = nb n lo' := by
  funext j
  unfold nb
  split
  · rename_i g; exact h j g
  · rfl
def sfix (n : Nat) (A : (Nat → Int) → (Nat → Int) → Prop) (lo hi a b : Nat → Int) : Prop := bx_le n lo hi a b ∧ A a b ∧ ∀ l h, A l h → bx_le n lo hi l h → bx_le n a b l h
noncomputable def sF (n : Nat) (A : (Nat → Int) → (Nat → Int) → Prop) (lo hi : Nat → Int) : Option ((Nat → Int) × (Nat → Int)) := @dite (Option ((Nat → Int) × (Nat → Int))) (∃ p : (Nat → Int) × (Nat → Int), sfix n A lo hi p.1 p.2) (Classical.propDecidable _) (fun h => some (nb n (Classical.choose h).1, nb n (Classical.choose h).2)) (fun _ => none)
theorem sF_fix {n : Nat} {A : (Nat → Int) → (Nat → Int) → Prop} {lo hi lo0 hi0 a b : Nat → Int} (e : ∀ j, j < n → lo0 j = lo j ∧ hi0 j = hi j) (h : sfix n A lo0 hi0 a b) : sF n A lo hi = some (nb n a, nb n b) := by
  obtain ⟨h1, h2, h3⟩ := h
  have hs : sfix n A lo hi a b := ⟨bx_le_eq (fun j hj => ⟨(e j hj).1.symm, (e j hj).2.symm⟩) (fun _ _ => ⟨rfl, rfl⟩) h1, h2, fun l g hl hg => h3 l g hl (bx_le_eq (fun j hj => e j hj) (fun _ _ => ⟨rfl, rfl⟩) hg)⟩
  have hex : ∃ p : (Nat → Int) × (Nat → Int), sfix n A lo hi p.1 p.2 := ⟨(a, b), hs⟩
  unfold sF
  rw [dif_pos hex]
  have hc := Classical.choose_spec hex
  have u : ∀ j, j < n → (Classical.choose hex).1 j = a j ∧ (Classical.choose hex).2 j = b j := fun j hj => by
    have p := hc.2.2 a b hs.2.1 hs.1 j hj
    have q := hs.2.2 _ _ hc.2.1 hc.1 j hj
    omega
  rw [nb_eq (fun j hj => (u j hj).1), nb_eq (fun j hj => (u j hj).2)]
theorem sF_brk {n : Nat} {A : (Nat → Int) → (Nat → Int) → Prop} {lo hi lo0 hi0 : Nat → Int} (e : ∀ j, j < n → lo0 j = lo j ∧ hi0 j = hi j) (h : ∀ l g, A l g → ¬ bx_le n lo0 hi0 l g) : sF n A lo hi = none := by
  unfold sF
  rw [dif_neg]
  rintro ⟨p, h1, h2, _⟩
  exact h _ _ h2 (bx_le_eq e (fun _ _ => ⟨rfl, rfl⟩) h1)
def so_f (lo hi : Nat → Int) : Nat → Nat → Option Nat
  | _, 0 => none
  | k, m + 1 => if lo k < hi k then some k else so_f lo hi (k + 1) m
theorem so_f_some {lo hi : Nat → Int} {c : Nat} (hc : lo c < hi c) : ∀ {m k : Nat}, k ≤ c → c < k + m → (∀ j, k ≤ j → j < c → ¬ lo j < hi j) → so_f lo hi k m = some c
  | 0, k, h1, h2, _ => by omega
  | m + 1, k, h1, h2, h3 => by
    unfold so_f
    by_cases e : k = c
    · subst e; rw [if_pos hc]
    · rw [if_neg (h3 k (by omega) (by omega))]
      exact so_f_some hc (by omega) (by omega) (fun j a b => h3 j (by omega) b)
theorem so_f_none {lo hi : Nat → Int} : ∀ {m k : Nat}, (∀ j, k ≤ j → j < k + m → ¬ lo j < hi j) → so_f lo hi k m = none
  | 0, _, _ => rfl
  | m + 1, k, h => by
    unfold so_f
    rw [if_neg (h k (by omega) (by omega))]
    exact so_f_none (fun j a b => h j (by omega) (by omega))
def so_o (n L : Nat) (lo hi : Nat → Int) : Option Nat := if L < n ∧ lo L < hi L then some L else so_f lo hi 0 n
theorem so_f_of {lo hi : Nat → Int} {c : Nat} : ∀ {m k : Nat}, so_f lo hi k m = some c → lo c < hi c ∧ k ≤ c ∧ c < k + m
  | 0, _, h => by cases h
  | m + 1, k, h => by
    unfold so_f at h
    split at h
    · have e : k = c := by simpa using h
      subst e
      rename_i g
      exact ⟨g, by omega, by omega⟩
    · obtain ⟨a, b, d⟩ := so_f_of h
      exact ⟨a, by omega, by omega⟩
theorem so_o_of {n L c : Nat} {lo hi : Nat → Int} (h : so_o n L lo hi = some c) : lo c < hi c ∧ c < n := by
  unfold so_o at h
  split at h
  · have e : L = c := by simpa using h
    subst e
    rename_i g
    exact ⟨g.2, g.1⟩
  · obtain ⟨a, b, d⟩ := so_f_of h
    exact ⟨a, by omega⟩
def so_up (lo : Nat → Int) (c : Nat) (v : Int) : Nat → Int := fun j => if j = c then v else lo j
abbrev so_R : Type := Int × Int × (Nat → Int)
noncomputable def so_l (rec : (Nat → Int) → (Nat → Int) → Int → so_R) (F : (Nat → Int) → (Nat → Int) → Option ((Nat → Int) × (Nat → Int))) (lim : Int) (w : Nat → Int) (c : Nat) (lo hi : Nat → Int) : Nat → Nat → Int → so_R
  | 0, _, s => (0, s, lo)
  | m + 1, k, s => if lim ≤ s then (-1000, s, lo) else match F (so_up lo c (w k)) (so_up hi c (w k)) with
    | none => so_l rec F lim w c lo hi m (k + 1) (s + 1)
    | some p => if (rec p.1 p.2 (s + 1)).1 = 0 then so_l rec F lim w c lo hi m (k + 1) (rec p.1 p.2 (s + 1)).2.1 else rec p.1 p.2 (s + 1)
/-- the k-th value of cell c -/
def so_w (L : Nat) (dn : Int) (c : Nat) (lo hi : Nat → Int) (k : Nat) : Int := if dn ≠ 0 ∧ c = L then hi c - k else lo c + k
noncomputable def so_s (n : Nat) (A : (Nat → Int) → (Nat → Int) → Prop) (L : Nat) (dn lim : Int) : Nat → (Nat → Int) → (Nat → Int) → Int → so_R
  | 0, lo, hi, s => match so_o n L lo hi with
    | none => (1, s, lo)
    | some _ => (0, s, lo)
  | f + 1, lo, hi, s => match so_o n L lo hi with
    | none => (1, s, lo)
    | some c => so_l (so_s n A L dn lim f) (sF n A) lim (so_w L dn c lo hi) c lo hi (hi c - lo c + 1).toNat 0 s
theorem so_s_none {n f L : Nat} {A : (Nat → Int) → (Nat → Int) → Prop} {dn lim s : Int} {lo hi : Nat → Int} (h : so_o n L lo hi = none) : so_s n A L dn lim f lo hi s = (1, s, lo) := by
  cases f <;> (unfold so_s; rw [h])
theorem so_s_0 {n L c : Nat} {A : (Nat → Int) → (Nat → Int) → Prop} {dn lim s : Int} {lo hi : Nat → Int} (h : so_o n L lo hi = some c) : so_s n A L dn lim 0 lo hi s = (0, s, lo) := by
  unfold so_s; rw [h]
theorem so_s_s {n f L c : Nat} {A : (Nat → Int) → (Nat → Int) → Prop} {dn lim s : Int} {lo hi : Nat → Int} (h : so_o n L lo hi = some c) : so_s n A L dn lim (f + 1) lo hi s = so_l (so_s n A L dn lim f) (sF n A) lim (so_w L dn c lo hi) c lo hi (hi c - lo c + 1).toNat 0 s := by
  rw [so_s, h]
theorem so_l_lim {rec : (Nat → Int) → (Nat → Int) → Int → so_R} {F : (Nat → Int) → (Nat → Int) → Option ((Nat → Int) × (Nat → Int))} {lim s : Int} {w : Nat → Int} {c m k : Nat} {lo hi : Nat → Int} (h : lim ≤ s) : so_l rec F lim w c lo hi (m + 1) k s = (-1000, s, lo) := by
  rw [so_l, if_pos h]
theorem so_l_no {rec : (Nat → Int) → (Nat → Int) → Int → so_R} {F : (Nat → Int) → (Nat → Int) → Option ((Nat → Int) × (Nat → Int))} {lim s : Int} {w : Nat → Int} {c m k : Nat} {lo hi : Nat → Int} (h : ¬ lim ≤ s) (e : F (so_up lo c (w k)) (so_up hi c (w k)) = none) : so_l rec F lim w c lo hi (m + 1) k s = so_l rec F lim w c lo hi m (k + 1) (s + 1) := by
  rw [so_l, if_neg h, e]
theorem so_l_yes {rec : (Nat → Int) → (Nat → Int) → Int → so_R} {F : (Nat → Int) → (Nat → Int) → Option ((Nat → Int) × (Nat → Int))} {lim s : Int} {w : Nat → Int} {c m k : Nat} {lo hi : Nat → Int} {p : (Nat → Int) × (Nat → Int)} (h : ¬ lim ≤ s) (e : F (so_up lo c (w k)) (so_up hi c (w k)) = some p) : ((rec p.1 p.2 (s + 1)).1 = 0 → so_l rec F lim w c lo hi (m + 1) k s = so_l rec F lim w c lo hi m (k + 1) (rec p.1 p.2 (s + 1)).2.1) ∧ ((rec p.1 p.2 (s + 1)).1 ≠ 0 → so_l rec F lim w c lo hi (m + 1) k s = rec p.1 p.2 (s + 1)) := by
  refine ⟨fun g => ?_, fun g => ?_⟩
  · rw [so_l, if_neg h, e]
    dsimp only
    rw [if_pos g]
  · rw [so_l, if_neg h, e]
    dsimp only
    rw [if_neg g]
/-! the class begins a search -/
def od_at (L k : Nat) : Int := if k = 0 then (L : Int) else if k ≤ L then (k : Int) - 1 else (k : Int)
set_option maxRecDepth 100000 in
set_option maxHeartbeats 2000000 in
theorem ct_begin {u d n L : Nat} {dn lim : Int} {I : rs_M} {K : rs_K} (hn : n ≤ 10) (hL : L < 10) (hLn : n = 0 ∨ L < n) (hdn : dn = 0 ∨ dn = 1) (h : ∀ J, (∀ a j, a ≠ 36 → (a = 33 → j < 3 ∨ j = 4) → J a j = I a j) → J 33 3 = 0 → J 33 5 = (n : Int) → J 33 6 = dn → J 33 7 = lim → (∀ k, k < n ∨ k = 0 → J 36 k = od_at L k) → K none J) : rs_run u d 28 0 (rs_en0 [.inr (.inr 33), .inl (n : Int), .inl (L : Int), .inl dn, .inl lim] 7) [] I K := by
  show rs_run u d 28 0 [some (.inr (.inr 33)), some (.inl (n : Int)), some (.inl (L : Int)), some (.inl dn), some (.inl lim), none, none] [] I K
  have g33 : rs_sh 33 = (1, 4) := by decide +kernel
  have g36 : rs_sh 36 = (2, 10) := by decide +kernel
  have f33_4 : rs_rf 33 4 = 36 := by decide +kernel
  have loop : ∀ (m k : Nat) (J : rs_M), k + m = n → (∀ a j, a ≠ 36 → (a = 33 → j < 3 ∨ j = 4) → J a j = I a j) → J 33 3 = 0 → J 33 5 = (n : Int) → J 33 6 = dn → J 33 7 = lim → (∀ i, i < (if k ≤ L then k + 1 else k) → J 36 i = od_at L i) → rs_run u d 28 34 [some (.inr (.inr 33)), some (.inl (n : Int)), some (.inl (L : Int)), some (.inl dn), some (.inl lim), some (.inl ((if k ≤ L then k + 1 else k : Nat) : Int)), some (.inl (k : Int))] [] J K := by
    intro m
    induction m with
    | zero =>
      intro k J ek f1 f3 f5 f6 f7 od
      have : k = n := by omega
      subst this
      have q := h J f1 f3 f5 f6 f7 (fun i hi => od i (by split <;> omega))
      have le : (k : Int) ≤ (k : Int) := by omega
      rw [rs_x_28_34]
      simp only [rs_x_28_0, rs_x_28_1, rs_x_28_2, rs_x_28_5, rs_x_28_6, rs_x_28_7, rs_x_28_10, rs_x_28_11, rs_x_28_13, rs_x_28_16, rs_x_28_17, rs_x_28_18, rs_x_28_21, rs_x_28_22, rs_x_28_25, rs_x_28_26, rs_x_28_27, rs_x_28_28, rs_x_28_29, rs_x_28_31, rs_x_28_32, rs_x_28_36, rs_x_28_37, rs_x_28_40, rs_x_28_43, rs_x_28_45, rs_x_28_46, rs_x_28_49, rs_x_28_50, rs_x_28_53, rs_x_28_55, rs_x_28_57, rs_x_28_58, rs_x_28_61, rs_x_28_64, rs_x_28_67, rs_cn_n, rs_cn_i, rs_cn_r, rs_cn_t, rs_up_at, Nat.reduceAdd, Nat.reduceEqDiff, Nat.reduceSub, Int.reduceToNat, Int.reduceNeg, Int.reduceLE, Int.reduceLT, Int.reduceAdd, Int.reduceSub, Int.reduceMul, Int.add_sub_cancel, List.length_cons, List.length_nil, Nat.reduceLeDiff, Nat.reduceLT, Int.cast_ofNat_Int, true_and, and_true, and_self, false_and, and_false, ↓reduceIte, Nat.zero_le, or_true, true_or, false_or, or_false, Nat.sub_zero, Int.toNat_natCast, Nat.le_refl, implies_true, forall_const, Int.reduceEq, Nat.reduceMul, ne_eq, not_true_eq_false, not_false_eq_true, false_implies, true_implies, Nat.left_eq_add, Nat.add_eq_left, g33, f5, le]
      exact q
    | succ m ih =>
      intro k J ek f1 f3 f5 f6 f7 od
      have nle : ((n : Int) ≤ (k : Int)) = False := eq_false (by omega)
      have rn : rs_R ((k : Int) + 1) := by unfold rs_R; omega
      rw [rs_x_28_34]
      by_cases e : k = L
      · have e' : ((k : Int) = (L : Int)) = True := eq_true (by omega)
        have q := ih (k + 1) J (by omega) f1 f3 f5 f6 f7 (fun i hi => od i (by
          rw [if_neg (by omega)] at hi
          rw [if_pos (by omega)]
          exact hi))
        rw [if_neg (by omega)] at q
        rw [if_pos (by omega)]
        simp only [rs_x_28_0, rs_x_28_1, rs_x_28_2, rs_x_28_5, rs_x_28_6, rs_x_28_7, rs_x_28_10, rs_x_28_11, rs_x_28_13, rs_x_28_16, rs_x_28_17, rs_x_28_18, rs_x_28_21, rs_x_28_22, rs_x_28_25, rs_x_28_26, rs_x_28_27, rs_x_28_28, rs_x_28_29, rs_x_28_31, rs_x_28_32, rs_x_28_36, rs_x_28_37, rs_x_28_40, rs_x_28_43, rs_x_28_45, rs_x_28_46, rs_x_28_49, rs_x_28_50, rs_x_28_53, rs_x_28_55, rs_x_28_57, rs_x_28_58, rs_x_28_61, rs_x_28_64, rs_x_28_67, rs_cn_n, rs_cn_i, rs_cn_r, rs_cn_t, rs_up_at, Nat.reduceAdd, Nat.reduceEqDiff, Nat.reduceSub, Int.reduceToNat, Int.reduceNeg, Int.reduceLE, Int.reduceLT, Int.reduceAdd, Int.reduceSub, Int.reduceMul, Int.add_sub_cancel, List.length_cons, List.length_nil, Nat.reduceLeDiff, Nat.reduceLT, Int.cast_ofNat_Int, true_and, and_true, and_self, false_and, and_false, ↓reduceIte, Nat.zero_le, or_true, true_or, false_or, or_false, Nat.sub_zero, Int.toNat_natCast, Nat.le_refl, implies_true, forall_const, Int.reduceEq, Nat.reduceMul, ne_eq, not_true_eq_false, not_false_eq_true, false_implies, true_implies, Nat.left_eq_add, Nat.add_eq_left, g33, f5, nle, e']
        exact ⟨rn, q⟩
      · have e' : ((k : Int) = (L : Int)) = False := eq_false (by omega)
        obtain ⟨p, ep⟩ : ∃ p : Nat, (if k ≤ L then k + 1 else k) = p := ⟨_, rfl⟩
        have ep2 : (if k + 1 ≤ L then k + 1 + 1 else k + 1) = p + 1 := by
          rw [← ep]
          by_cases g : k ≤ L
          · rw [if_pos g, if_pos (by omega)]
          · rw [if_neg g, if_neg (by omega)]
        have pb : p < 10 := by rw [← ep]; split <;> omega
        have p1 : 0 ≤ (p : Int) := by omega
        have p2 : (p : Int) < 10 := by omega
        have rp : rs_R ((p : Int) + 1) := by unfold rs_R; omega
        have q := ih (k + 1) (rs_up J 36 p (k : Int)) (by omega) (fun a j h1 h2 => by rw [rs_up_at, if_neg (fun g => h1 g.1), f1 a j h1 h2]) (by simp [rs_up_at, f3]) (by simp [rs_up_at, f5]) (by simp [rs_up_at, f6]) (by simp [rs_up_at, f7]) (fun i hi => by
          rw [ep2] at hi
          rw [rs_up_at]
          by_cases ei : i = p
          · rw [if_pos ⟨rfl, ei⟩, ei]
            unfold od_at
            by_cases g : k ≤ L
            · rw [if_pos g] at ep
              rw [if_neg (by omega), if_pos (by omega)]
              omega
            · rw [if_neg g] at ep
              rw [if_neg (by omega), if_neg (by omega)]
              omega
          · rw [if_neg (fun g => ei g.2)]
            exact od i (by rw [ep]; omega))
        rw [ep2] at q
        rw [ep]
        simp only [rs_x_28_0, rs_x_28_1, rs_x_28_2, rs_x_28_5, rs_x_28_6, rs_x_28_7, rs_x_28_10, rs_x_28_11, rs_x_28_13, rs_x_28_16, rs_x_28_17, rs_x_28_18, rs_x_28_21, rs_x_28_22, rs_x_28_25, rs_x_28_26, rs_x_28_27, rs_x_28_28, rs_x_28_29, rs_x_28_31, rs_x_28_32, rs_x_28_36, rs_x_28_37, rs_x_28_40, rs_x_28_43, rs_x_28_45, rs_x_28_46, rs_x_28_49, rs_x_28_50, rs_x_28_53, rs_x_28_55, rs_x_28_57, rs_x_28_58, rs_x_28_61, rs_x_28_64, rs_x_28_67, rs_cn_n, rs_cn_i, rs_cn_r, rs_cn_t, rs_up_at, Nat.reduceAdd, Nat.reduceEqDiff, Nat.reduceSub, Int.reduceToNat, Int.reduceNeg, Int.reduceLE, Int.reduceLT, Int.reduceAdd, Int.reduceSub, Int.reduceMul, Int.add_sub_cancel, List.length_cons, List.length_nil, Nat.reduceLeDiff, Nat.reduceLT, Int.cast_ofNat_Int, true_and, and_true, and_self, false_and, and_false, ↓reduceIte, Nat.zero_le, or_true, true_or, false_or, or_false, Nat.sub_zero, Int.toNat_natCast, Nat.le_refl, implies_true, forall_const, Int.reduceEq, Nat.reduceMul, ne_eq, not_true_eq_false, not_false_eq_true, false_implies, true_implies, Nat.left_eq_add, Nat.add_eq_left, g33, g36, f33_4, f5, nle, e', p1, p2, rp]
        exact ⟨rn, q⟩
  have q := loop n 0 (rs_up (rs_up (rs_up (rs_up (rs_up I 33 5 n) 33 6 dn) 33 7 lim) 33 3 0) 36 0 L) (by omega) (fun a j h1 h2 => by
    simp only [rs_up_at]
    rw [if_neg (fun g => h1 g.1), if_neg (fun g => by have := h2 g.1; omega), if_neg (fun g => by have := h2 g.1; omega), if_neg (fun g => by have := h2 g.1; omega), if_neg (fun g => by have := h2 g.1; omega)]) (by simp [rs_up_at]) (by simp [rs_up_at]) (by simp [rs_up_at]) (by simp [rs_up_at]) (fun i hi => by
    have hi0 : i = 0 := by
      rw [if_pos (by omega)] at hi
      omega
    subst hi0
    simp [rs_up_at, od_at])
  rw [if_pos (by omega)] at q
  have dn' : dn = 0 ∨ dn = 1 := hdn
  simp only [rs_x_28_0, rs_x_28_1, rs_x_28_2, rs_x_28_5, rs_x_28_6, rs_x_28_7, rs_x_28_10, rs_x_28_11, rs_x_28_13, rs_x_28_16, rs_x_28_17, rs_x_28_18, rs_x_28_21, rs_x_28_22, rs_x_28_25, rs_x_28_26, rs_x_28_27, rs_x_28_28, rs_x_28_29, rs_x_28_31, rs_x_28_32, rs_x_28_36, rs_x_28_37, rs_x_28_40, rs_x_28_43, rs_x_28_45, rs_x_28_46, rs_x_28_49, rs_x_28_50, rs_x_28_53, rs_x_28_55, rs_x_28_57, rs_x_28_58, rs_x_28_61, rs_x_28_64, rs_x_28_67, rs_cn_n, rs_cn_i, rs_cn_r, rs_cn_t, rs_up_at, Nat.reduceAdd, Nat.reduceEqDiff, Nat.reduceSub, Int.reduceToNat, Int.reduceNeg, Int.reduceLE, Int.reduceLT, Int.reduceAdd, Int.reduceSub, Int.reduceMul, Int.add_sub_cancel, List.length_cons, List.length_nil, Nat.reduceLeDiff, Nat.reduceLT, Int.cast_ofNat_Int, true_and, and_true, and_self, false_and, and_false, ↓reduceIte, Nat.zero_le, or_true, true_or, false_or, or_false, Nat.sub_zero, Int.toNat_natCast, Nat.le_refl, implies_true, forall_const, Int.reduceEq, Nat.reduceMul, ne_eq, not_true_eq_false, not_false_eq_true, false_implies, true_implies, Nat.left_eq_add, Nat.add_eq_left, g33, g36, f33_4, dn']
  exact q
