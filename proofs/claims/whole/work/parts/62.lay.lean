/-! ===== the box of the first ranges and the chosen entries ===== -/
def ly_lo (F ec el : Nat → Int) (m : Nat) : Nat → Nat → Int
  | 0, j => F j
  | k + 1, j => if m.testBit k = true ∧ j = (ec k).toNat then max (ly_lo F ec el m k j) (el k) else ly_lo F ec el m k j
def ly_hi (F ec eh : Nat → Int) (m : Nat) : Nat → Nat → Int
  | 0, j => F j
  | k + 1, j => if m.testBit k = true ∧ j = (ec k).toNat then min (ly_hi F ec eh m k j) (eh k) else ly_hi F ec eh m k j
theorem ly_cg {F ec el F' ec' el' : Nat → Int} {m j : Nat} (hF : F j = F' j) : ∀ k, (∀ e, e < k → ec e = ec' e ∧ el e = el' e) → ly_lo F ec el m k j = ly_lo F' ec' el' m k j ∧ ly_hi F ec el m k j = ly_hi F' ec' el' m k j
  | 0, _ => ⟨hF, hF⟩
  | k + 1, h => by
    obtain ⟨h1, h2⟩ := ly_cg (m := m) (j := j) hF k (fun e he => h e (by omega))
    obtain ⟨h3, h4⟩ := h k (by omega)
    unfold ly_lo ly_hi
    rw [h1, h2, h3, h4]
    exact ⟨rfl, rfl⟩
theorem ly_bd {F G ec el eh : Nat → Int} {m j : Nat} (hF : -100 ≤ F j ∧ F j ≤ 100 ∧ -100 ≤ G j ∧ G j ≤ 100) : ∀ k, (∀ e, e < k → -100 ≤ el e ∧ el e ≤ 100 ∧ -100 ≤ eh e ∧ eh e ≤ 100) → (-100 ≤ ly_lo F ec el m k j ∧ ly_lo F ec el m k j ≤ 100) ∧ -100 ≤ ly_hi G ec eh m k j ∧ ly_hi G ec eh m k j ≤ 100
  | 0, _ => ⟨⟨hF.1, hF.2.1⟩, hF.2.2⟩
  | k + 1, h => by
    obtain ⟨h1, h2⟩ := ly_bd (ec := ec) (m := m) (j := j) hF k (fun e he => h e (by omega))
    have h3 := h k (by omega)
    unfold ly_lo ly_hi
    split <;> omega
/-- the class's own -/
def cl_lo (I : rs_M) (m : Nat) : Nat → Int := ly_lo (I 3) (fun e => I (76 + e) 0) (fun e => I (76 + e) 1) m (I 1 7).toNat
def cl_hi (I : rs_M) (m : Nat) : Nat → Int := ly_hi (I 4) (fun e => I (76 + e) 0) (fun e => I (76 + e) 2) m (I 1 7).toNat
theorem rg_copy_lo {I : rs_M} {q o : Nat} (h : o + 2 < q) (j : Nat) (hj : j < 10) : rg_copy I q o (q + 1) j = I (o + 1) j ∧ rg_copy I q o (q + 2) j = I (o + 2) j ∧ rg_copy I q o q 2 = 0 ∧ rg_copy I q o q 3 = 0 := by
  unfold rg_copy
  have e1 : ¬ o + 2 = q + 1 := by omega
  have e2 : ¬ o + 1 = q + 1 := by omega
  simp [rs_up_at, rs_cp_at, hj, e1, e2]
/-- what the state of the class must be for narrowing -/
def cl_ok (I : rs_M) (n : Nat) : Prop := nt_net I n ∧ I 1 6 = (n : Int) ∧ (0 ≤ I 1 7 ∧ I 1 7 ≤ 12) ∧ (∀ e, e < (I 1 7).toNat → (0 ≤ I (76 + e) 0 ∧ I (76 + e) 0 < n) ∧ -100 ≤ I (76 + e) 1 ∧ I (76 + e) 1 ≤ I (76 + e) 2 ∧ I (76 + e) 2 ≤ 100) ∧ ∀ j, j < 10 → -100 ≤ I 3 j ∧ I 3 j ≤ I 4 j ∧ I 4 j ≤ 100
theorem rg_lay_at {I : rs_M} {q m : Nat} (hq : 4 < q) (j : Nat) (hj : j < 10) : ∀ k, rg_lay I q m k (q + 1) j = ly_lo (I 3) (fun e => I (76 + e) 0) (fun e => I (76 + e) 1) m k j ∧ rg_lay I q m k (q + 2) j = ly_hi (I 4) (fun e => I (76 + e) 0) (fun e => I (76 + e) 2) m k j
  | 0 => by
    obtain ⟨a, b, _⟩ := rg_copy_lo (I := I) (q := q) (o := 2) (by omega) j hj
    exact ⟨a, b⟩
  | k + 1 => by
    obtain ⟨h1, h2⟩ := rg_lay_at (m := m) hq j hj k
    unfold rg_lay ly_lo ly_hi
    by_cases g : m.testBit k = true
    · rw [if_pos g, rg_keep_lo, rg_keep_hi, h1, h2]
      simp only [g, true_and]
      try exact ⟨trivial, trivial⟩
    · rw [if_neg g, h1, h2]
      rw [if_neg (fun q => g q.1), if_neg (fun q => g q.1)]
      exact ⟨rfl, rfl⟩
theorem rg_lay_tr {I : rs_M} {q m n : Nat} (hn : n ≤ 10) : ∀ k, (∀ e, e < k → 0 ≤ I (76 + e) 0 ∧ I (76 + e) 0 < n) → rg_tr q (rg_copy I q 2) (rg_lay I q m k) ∧ ∀ j, n ≤ j → rg_sm q (rg_copy I q 2) (rg_lay I q m k) j
  | 0, _ => ⟨rg_tr_rf, fun _ _ => ⟨rfl, rfl⟩⟩
  | k + 1, h => by
    obtain ⟨h1, h2⟩ := rg_lay_tr (q := q) (m := m) hn k (fun e he => h e (by omega))
    have h3 := h k (by omega)
    unfold rg_lay
    split
    · refine ⟨rg_tr_tr h1 (rg_tr_keep (by omega)), fun j hj => ?_⟩
      have := h2 j hj
      unfold rg_sm at this ⊢
      rw [rg_keep_lo, rg_keep_hi, if_neg (by omega), if_neg (by omega)]
      exact this
    · exact ⟨h1, h2⟩
/-- the ranges q are laid out -/
def cl_post (q n m : Nat) (I J : rs_M) : Prop := nt_fr q I J ∧ J q 2 = ((2 ^ n - 1 : Nat) : Int) ∧ (∀ j, j < 10 → J (q + 1) j = cl_lo I m j ∧ J (q + 2) j = cl_hi I m j) ∧ ((J q 3 = 0 ∧ bx_ok 10 (J (q + 1)) (J (q + 2))) ∨ (J q 3 = 1 ∧ ∃ j, j < n ∧ cl_hi I m j < cl_lo I m j))
theorem ck_layOut {u d q m n : Nat} {I : rs_M} {K : rs_K} (hd : 2 ≤ d) (hq : rs_isR q) (hq1 : 32 < q) (hq2 : q + 2 < 76) (hm : m < 4096) (ok : cl_ok I n) (hK : ∀ J, cl_post q n m I J → K none J) : rs_run u d 57 0 (rs_en0 [.inr (.inr 1), .inl (m : Int), .inr (.inr q)] 4) [] I K := by
  obtain ⟨net, e6, e7, en, fi⟩ := ok
  have hn := net.1
  refine ct_layOut hd hq (by omega) hq2 hm (by omega) e7 (fun e he => by have := en e he; omega) (hK _ ?_)
  obtain ⟨tr, out⟩ := rg_lay_tr (I := I) (q := q) (m := m) hn (I 1 7).toNat (fun e he => (en e he).1)
  have at' := fun j hj => rg_lay_at (I := I) (q := q) (m := m) (by omega) j hj (I 1 7).toNat
  have c0 := rg_copy_lo (I := I) (q := q) (o := 2) (by omega) 0 (by omega)
  have p2 : (2 : Int) ^ (I 1 6).toNat - 1 = ((2 ^ n - 1 : Nat) : Int) := by
    rw [e6, Int.toNat_natCast]
    have : 1 ≤ 2 ^ n := Nat.one_le_two_pow
    have e : ((2 ^ n : Nat) : Int) = (2 : Int) ^ n := by norm_cast
    omega
  have bd := fun j (hj : j < 10) => ly_bd (F := I 3) (G := I 4) (ec := fun e => I (76 + e) 0) (el := fun e => I (76 + e) 1) (eh := fun e => I (76 + e) 2) (m := m) (j := j) (by have := fi j hj; omega) (I 1 7).toNat (fun e he => by have := en e he; omega)
  have x1 : ∀ v j, rs_up (rg_lay I q m (I 1 7).toNat) q 2 v (q + 1) j = rg_lay I q m (I 1 7).toNat (q + 1) j := fun v j => by simp [rs_up_at]
  have x2 : ∀ v j, rs_up (rg_lay I q m (I 1 7).toNat) q 2 v (q + 2) j = rg_lay I q m (I 1 7).toNat (q + 2) j := fun v j => by simp [rs_up_at]
  have x3 : ∀ v, rs_up (rg_lay I q m (I 1 7).toNat) q 2 v q 3 = rg_lay I q m (I 1 7).toNat q 3 := fun v => by simp [rs_up_at]
  refine ⟨fun a j h1 h2 h3 _ => ?_, ?_, fun j hj => ?_, ?_⟩
  · rw [rs_up_at, if_neg (fun g => h1 g.1)]
    exact rg_lay_o h1 h2 h3 _
  · rw [rs_up_at, if_pos ⟨rfl, rfl⟩, p2]
  · rw [x1, x2]
    exact at' j hj
  · rw [x3]
    have hc : ∀ j, j < 10 → rg_copy I q 2 (q + 1) j ≤ rg_copy I q 2 (q + 2) j := fun j hj => by
      obtain ⟨a, b, _⟩ := rg_copy_lo (I := I) (q := q) (o := 2) (by omega) j hj
      have := fi j hj
      rw [a, b]
      exact this.2.1
    rcases tr.2.2.2.2.2 c0.2.2.2 with ⟨a, b⟩ | ⟨a, j, b, c⟩
    · refine Or.inl ⟨a, fun j hj => ?_⟩
      rw [x1, x2]
      have p := bd j hj
      obtain ⟨r1, r2⟩ := at' j hj
      by_cases g : rg_sm q (rg_copy I q 2) (rg_lay I q m (I 1 7).toNat) j
      · have := hc j hj
        unfold rg_sm at g
        omega
      · have := b j g
        omega
    · have jn : j < n := Classical.byContradiction fun g => b (out j (by omega))
      obtain ⟨r1, r2⟩ := at' j (by omega)
      refine Or.inr ⟨a, j, jn, ?_⟩
      show ly_hi _ _ _ _ _ _ < ly_lo _ _ _ _ _ _
      omega
/-- laid out and settled -/
def cl_nar (q n m : Nat) (I J : rs_M) : Prop := nt_fr q I J ∧ ((J q 3 = 1 ∧ bx_brk n (nt_G I) (nt_S I) (nt_Q I) (cl_lo I m) (cl_hi I m)) ∨ (J q 3 = 0 ∧ bx_fix n (nt_G I) (nt_S I) (nt_Q I) (cl_lo I m) (cl_hi I m) (J (q + 1)) (J (q + 2)) ∧ bx_ok 10 (J (q + 1)) (J (q + 2))))
theorem nt_eq {q n : Nat} {I J : rs_M} (hq : 32 < q) (h : nt_fr q I J) (net : nt_net I n) : nt_G J = nt_G I ∧ (∀ r, nt_G I r → nt_S J r = nt_S I r ∧ nt_Q J r = nt_Q I r) := by
  obtain ⟨h1, h2, h3⟩ := nt_same hq h
  have n2 := net.2.1
  refine ⟨funext fun r => ?_, fun r hr => ⟨?_, ?_⟩⟩
  · unfold nt_G
    rw [h1]
    refine propext (and_congr_right fun g => ?_)
    rw [h2 r (by omega)]
  · unfold nt_S
    have := hr.1
    rw [h2 r (by omega)]
  · have := hr.1
    exact nt_Qe hq h (by omega) (net.2.2.1 r hr.1)
theorem bx_all_cg {n : Nat} {G G' : Nat → Prop} {S S' : Nat → Nat → Prop} {Q Q' : Nat → (Nat → Int) → Prop} (e1 : G' = G) (e2 : ∀ r, G r → S' r = S r ∧ Q' r = Q r) (l h : Nat → Int) : bx_all n G' S' Q' l h ↔ bx_all n G S Q l h := by
  subst e1
  unfold bx_all
  refine and_congr_right fun _ => ⟨fun g r hr => ?_, fun g r hr => ?_⟩
  · have := g r hr
    rw [(e2 r hr).1, (e2 r hr).2] at this
    exact this
  · rw [(e2 r hr).1, (e2 r hr).2]
    exact g r hr
theorem bx_fix_cg {n : Nat} {G G' : Nat → Prop} {S S' : Nat → Nat → Prop} {Q Q' : Nat → (Nat → Int) → Prop} (e : ∀ l h, bx_all n G' S' Q' l h ↔ bx_all n G S Q l h) {a b c d : Nat → Int} : bx_fix n G' S' Q' a b c d ↔ bx_fix n G S Q a b c d := by
  unfold bx_fix
  rw [e]
  exact and_congr_right fun _ => and_congr_right fun _ => ⟨fun g l h hl => g l h ((e l h).mpr hl), fun g l h hl => g l h ((e l h).mp hl)⟩
theorem bx_brk_cg {n : Nat} {G G' : Nat → Prop} {S S' : Nat → Nat → Prop} {Q Q' : Nat → (Nat → Int) → Prop} (e : ∀ l h, bx_all n G' S' Q' l h ↔ bx_all n G S Q l h) {a b : Nat → Int} : bx_brk n G' S' Q' a b ↔ bx_brk n G S Q a b := ⟨fun g l h hl => g l h ((e l h).mpr hl), fun g l h hl => g l h ((e l h).mp hl)⟩
theorem nt_Sn {I : rs_M} {n : Nat} (net : nt_net I n) : ∀ r, nt_G I r → ∀ j, nt_S I r j → j < n := fun r hr => by
  obtain ⟨mm, _, _, _, _, a5, _⟩ := nt_mask net.1 (net.2.2.1 r hr.1)
  exact a5
theorem bt_full {n j : Nat} : (2 ^ n - 1).testBit j = true ↔ j < n := by
  rw [Nat.testBit_two_pow_sub_one]
  simp
/-- settling what was laid out -/
theorem ck_settle {u d q m n : Nat} {I J : rs_M} {K : rs_K} (hd : 5 ≤ d) (hq : rs_isR q) (hq1 : 32 < q) (ok : cl_ok I n) (hJ : cl_post q n m I J) (hK : ∀ L, cl_nar q n m I L → K none L) : rs_run u d 5 0 (rs_en0 [.inr (.inr 6), .inr (.inr q)] 6) [] J K := by
  obtain ⟨f, e2, e3, e4⟩ := hJ
  obtain ⟨net, e6, e7, en, fi⟩ := ok
  have netJ := nt_fr_G hq1 f net
  have hn := net.1
  have lt : 2 ^ n - 1 < 1024 := by
    have : (2 : Nat) ^ n ≤ 2 ^ 10 := Nat.pow_le_pow_right (by omega) hn
    omega
  obtain ⟨g1, g2⟩ := nt_eq hq1 f net
  have cg := fun l h => bx_all_cg (n := n) g1 g2 l h
  have ebx : ∀ j, j < n → J (q + 1) j = cl_lo I m j ∧ J (q + 2) j = cl_hi I m j := fun j hj => e3 j (by omega)
  have Sn := nt_Sn net
  rcases e4 with ⟨b0, bok⟩ | ⟨b1, j, hj, hlt⟩
  · refine ct_settle hd hq hq1 netJ lt e2 b0 bok (fun r hr hno => ?_) (fun L hL => hK L ?_)
    · obtain ⟨mm, _, _, _, _, a5, ⟨j, hj⟩⟩ := nt_mask netJ.1 (netJ.2.2.1 r hr.1)
      exact absurd (bt_full.mpr (a5 j hj)) (hno j hj)
    · obtain ⟨fL, hL⟩ := hL
      refine ⟨nt_fr_tr f fL, ?_⟩
      rcases hL with ⟨a, b⟩ | ⟨a, b, c⟩
      · exact Or.inl ⟨a, bx_brk_eq (fun j hj => ⟨(ebx j hj).1.symm, (ebx j hj).2.symm⟩) ((bx_brk_cg cg).mp b)⟩
      · exact Or.inr ⟨a, bx_fix_eq Sn (fun j hj => ⟨(ebx j hj).1.symm, (ebx j hj).2.symm⟩) (fun _ _ => ⟨rfl, rfl⟩) ((bx_fix_cg cg).mp b), c⟩
  · exact ct_settle1 hd hq netJ lt e2 b1 (hK J ⟨f, Or.inl ⟨b1, brk_empty hj hlt⟩⟩)
