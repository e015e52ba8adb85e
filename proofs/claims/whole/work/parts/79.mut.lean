/-! ===== the calls that change the configuration ===== -/
theorem c_first_fr {I J : rs_M} {n : Nat} (f : ∀ x j, x = 3 ∨ x = 4 ∨ x = 89 ∨ x = 90 → J x j = I x j) (h : c_first I n) : c_first J n := by
  obtain ⟨a, b⟩ := h
  refine ⟨fun j hj => ?_, fun j hj => ?_⟩
  · rw [f 3 j (by omega), f 4 j (by omega)]; exact a j hj
  · rw [f 3 j (by omega), f 4 j (by omega), f 89 j (by omega), f 90 j (by omega)]; exact b j hj
theorem c_rel_fr {I J : rs_M} {n : Nat} (f : ∀ x j, (x = 6 ∨ (12 ≤ x ∧ x < 24) ∨ (91 ≤ x ∧ x ≤ 95)) → J x j = I x j) (h4 : J 88 4 = I 88 4) (h : c_rel I n) : c_rel J n := by
  obtain ⟨a, b, c⟩ := h
  have k6 := f 6 2 (by omega)
  refine ⟨by rw [k6]; exact a, by rw [h4, k6]; exact b, fun r hr => ?_⟩
  rw [k6] at hr
  have z : ∀ j, J (12 + r) j = I (12 + r) j := fun j => f _ _ (by omega)
  rw [z, z, z, z, z, z, f 91 r (by omega), f 92 r (by omega), f 93 r (by omega), f 94 r (by omega), f 95 r (by omega)]
  exact c r hr
theorem c_tab_fr {I J : rs_M} (f : ∀ x j, (24 ≤ x ∧ x < 33) ∨ (96 ≤ x ∧ x ≤ 98) → J x j = I x j) (h : c_tab I) : c_tab J := fun t ht => by
  obtain ⟨a, b, c⟩ := h t ht
  have z : J (24 + 3 * t) 2 = I (24 + 3 * t) 2 := f _ _ (by omega)
  refine ⟨by rw [z]; exact a, by rw [z, f 96 t (by omega)]; exact b, fun r hr => ?_⟩
  rw [z] at hr
  rw [f 97 _ (by omega), f 98 _ (by omega), f (24 + 3 * t + 1) r (by omega), f (24 + 3 * t + 2) r (by omega)]
  exact c r hr
theorem c_ent_fr {I J : rs_M} {n : Nat} (f : ∀ x j, (76 ≤ x ∧ x < 88) ∨ (99 ≤ x ∧ x ≤ 101) → J x j = I x j) (h7 : J 1 7 = I 1 7) (h13 : J 88 13 = I 88 13) (h : c_ent I n) : c_ent J n := by
  obtain ⟨a, b, c⟩ := h
  refine ⟨by rw [h7]; exact a, by rw [h7, h13]; exact b, fun e he => ?_⟩
  rw [h7] at he
  have z : ∀ j, J (76 + e) j = I (76 + e) j := fun j => f _ _ (by omega)
  rw [z, z, z, z, f 99 e (by omega), f 100 e (by omega), f 101 e (by omega)]
  exact c e he
theorem c_frc_fr {I J : rs_M} (e7 : 0 ≤ I 1 7 ∧ I 1 7 ≤ 12) (f : ∀ e, e < 12 → J (76 + e) 3 = I (76 + e) 3) (h7 : J 1 7 = I 1 7) (h17 : J 88 17 = I 88 17) (h : c_frc I) : c_frc J := by
  show J 88 17 = _
  rw [h7, h17, rg_ef_cg _ (fun e he => f e (by omega))]
  exact h
/-- what the rest of the coupling reads -/
theorem ci_rest {L : Nat} {xs : Nat → Int32} {I J : rs_M} {n : Nat} (f : ∀ x j, (x = 0 ∨ (33 ≤ x ∧ x < 76) ∨ (102 ≤ x ∧ x < 110) ∨ (x = 1 ∧ j = 8) ∨ (x = 88 ∧ (j = 28 ∨ j = 31 ∨ j = 32))) → J x j = I x j) (h : ci L xs I) (hc : c_cfg J n) : ci L xs J := by
  obtain ⟨h0, _, hl, hs, hp⟩ := h
  exact ⟨fun j => by rw [f 0 j (by omega)]; exact h0 j, ⟨n, hc⟩, c_lat_fr (f _ _ (by omega)) (f _ _ (by omega)) (fun j => f _ _ (by omega)) (fun j => f _ _ (by omega)) (fun j => f _ _ (by omega)) (fun j => f _ _ (by omega)) hl, c_set_fr (f _ _ (by omega)) (f _ _ (by omega)) (fun j => f _ _ (by omega)) (fun j => f _ _ (by omega)) hs, c_stp_fr (f _ _ (by omega)) (f _ _ (by omega)) hp⟩
theorem nt_ok_s {n : Nat} {k a b c mk : Int} (h : nt_ok n k a b c mk) : nt_ok (n + 1) k a b c mk := by
  obtain ⟨h0, h⟩ := h
  refine ⟨h0, ?_⟩
  rcases h with ⟨h1, h2, h3⟩ | ⟨h1, h2, h3, h4⟩ | ⟨h1, h2, h3, h4⟩ | ⟨h1, h2, h3, h4⟩
  · refine Or.inl ⟨h1, ⟨h2.1, ?_⟩, h3⟩
    have e : (2 : Int) ^ (n + 1) = 2 ^ n * 2 := Int.pow_succ 2 n
    omega
  · exact Or.inr (Or.inl ⟨h1, by omega, by omega, h4⟩)
  · exact Or.inr (Or.inr (Or.inl ⟨h1, by omega, by omega, h4⟩))
  · exact Or.inr (Or.inr (Or.inr ⟨h1, by omega, by omega, by omega⟩))
theorem ci_thr {L : Nat} {xs : Nat → Int32} {I : rs_M} (t : Int) (h : ci L xs I) : (rs_up (rs_up I 88 0 0) 88 0 t) 88 0 = t ∧ ci L xs (rs_up (rs_up I 88 0 0) 88 0 t) := ⟨by rw [rs_up_at, if_pos ⟨rfl, rfl⟩], ci_up (Or.inl ⟨rfl, rfl⟩) (ci_up (Or.inl ⟨rfl, rfl⟩) h)⟩
theorem pr_cell {L : Nat} {xs : Nat → Int32} {I : rs_M} {d : Nat} {a b : Int} (hd : 100 ≤ d) (h : ci L xs I) : rs_pairT 34 66 [.inr (.inr 1), .inl a, .inl b] [.inr (.inr 88), .inl a, .inl b] (ci L xs) I d := by
  obtain ⟨h0, ⟨n, hc⟩, hl, hs, hp⟩ := id h
  obtain ⟨⟨n1, n2, n3⟩, ⟨f1, f2⟩, ⟨r1, r2, r3⟩, ht, ⟨e1, e2, e3⟩, hfr⟩ := id hc
  refine mk_T (by omega) (by omega) (ct_cell (by omega) (by omega) (by omega) (fun g => ⟨fun _ => rfl, Or.inr ⟨1, Or.inl rfl, rfl, ?_⟩⟩) (fun g g' => ⟨fun _ => rfl, Or.inr ⟨2, Or.inr rfl, rfl, ?_⟩⟩) (fun g g' => ⟨fun j => ?_, Or.inl ⟨_, rfl, by unfold rs_R; omega, ?_⟩⟩))
  · exact cm_cell (by omega) (by omega) (fun _ => ⟨⟨_, rfl⟩, ci_thr 1 h⟩) (fun q => absurd q g) (fun q => absurd q g)
  · exact cm_cell (by omega) (by omega) (fun q => absurd g q) (fun _ _ => ⟨⟨_, rfl⟩, ci_thr 2 h⟩) (fun _ q => by omega)
  · simp [rs_up_at]
  · rw [n2, Int.toNat_natCast]
    rw [n2] at g'
    have c1 : (rs_up (rs_up (rs_up (rs_up I 3 n a) 4 n b) 1 6 ((n : Int) + 1)) 110 0 (n : Int)) 88 1 = (n : Int) := by simp [rs_up_at, n3]
    refine cm_cell (by omega) (by rw [c1]; omega) (fun q => absurd g q) (fun _ q => by rw [c1] at q; omega) (fun _ _ => ?_)
    rw [c1, Int.toNat_natCast]
    generalize eJ : rs_up (rs_up (rs_up (rs_up (rs_up (rs_up (rs_up (rs_up I 3 n a) 4 n b) 1 6 ((n : Int) + 1)) 110 0 (n : Int)) 88 0 0) 89 n a) 90 n b) 88 1 ((n : Int) + 1) = J2
    have o : ∀ x j, (x = 3 → j ≠ n) → (x = 4 → j ≠ n) → (x = 1 → j ≠ 6) → x ≠ 110 → (x = 88 → j ≠ 0 ∧ j ≠ 1) → (x = 89 → j ≠ n) → (x = 90 → j ≠ n) → J2 x j = I x j := fun x j p1 p2 p3 p4 p5 p6 p7 => by
      rw [← eJ]
      simp only [rs_up_at]
      rw [if_neg (fun q => (p5 q.1).2 q.2), if_neg (fun q => p7 q.1 q.2), if_neg (fun q => p6 q.1 q.2), if_neg (fun q => (p5 q.1).1 q.2), if_neg (fun q => p4 q.1), if_neg (fun q => p3 q.1 q.2), if_neg (fun q => p2 q.1 q.2), if_neg (fun q => p1 q.1 q.2)]
    have v3 : J2 3 n = a := by rw [← eJ]; simp [rs_up_at]
    have v4 : J2 4 n = b := by rw [← eJ]; simp [rs_up_at]
    have v89 : J2 89 n = a := by rw [← eJ]; simp [rs_up_at]
    have v90 : J2 90 n = b := by rw [← eJ]; simp [rs_up_at]
    have v16 : J2 1 6 = ((n + 1 : Nat) : Int) := by rw [← eJ]; simp [rs_up_at]
    have v881 : J2 88 1 = ((n + 1 : Nat) : Int) := by rw [← eJ]; simp [rs_up_at]
    have v880 : J2 88 0 = 0 := by rw [← eJ]; simp [rs_up_at]
    have v110 : J2 110 0 = (n : Int) := by rw [← eJ]; simp [rs_up_at]
    refine ⟨rfl, v110, v880, ci_rest (n := n + 1) (fun x j q => o x j (by omega) (by omega) (by omega) (by omega) (by omega) (by omega) (by omega)) h ⟨⟨by omega, v16, v881⟩, ⟨fun j hj => ?_, fun j hj => ?_⟩, ?_, c_tab_fr (fun x j q => o x j (by omega) (by omega) (by omega) (by omega) (by omega) (by omega) (by omega)) ht, ?_, c_frc_fr e1 (fun e he => o _ _ (by omega) (by omega) (by omega) (by omega) (by omega) (by omega) (by omega)) (o _ _ (by omega) (by omega) (by omega) (by omega) (by omega) (by omega) (by omega)) (o _ _ (by omega) (by omega) (by omega) (by omega) (by omega) (by omega) (by omega)) hfr⟩⟩
    · by_cases e : j = n
      · subst e; rw [v3, v4]; exact g
      · rw [o 3 j (by omega) (by omega) (by omega) (by omega) (by omega) (by omega) (by omega), o 4 j (by omega) (by omega) (by omega) (by omega) (by omega) (by omega) (by omega)]
        exact f1 j hj
    · by_cases e : j = n
      · subst e; rw [v3, v4, v89, v90]; exact ⟨rfl, rfl⟩
      · rw [o 3 j (by omega) (by omega) (by omega) (by omega) (by omega) (by omega) (by omega), o 4 j (by omega) (by omega) (by omega) (by omega) (by omega) (by omega) (by omega), o 89 j (by omega) (by omega) (by omega) (by omega) (by omega) (by omega) (by omega), o 90 j (by omega) (by omega) (by omega) (by omega) (by omega) (by omega) (by omega)]
        exact f2 j (by omega)
    · have cr : c_rel J2 n := c_rel_fr (fun x j q => o x j (by omega) (by omega) (by omega) (by omega) (by omega) (by omega) (by omega)) (o _ _ (by omega) (by omega) (by omega) (by omega) (by omega) (by omega) (by omega)) ⟨r1, r2, r3⟩
      exact ⟨cr.1, cr.2.1, fun r hr => ⟨nt_ok_s (cr.2.2 r hr).1, (cr.2.2 r hr).2⟩⟩
    · have ce : c_ent J2 n := c_ent_fr (fun x j q => o x j (by omega) (by omega) (by omega) (by omega) (by omega) (by omega) (by omega)) (o _ _ (by omega) (by omega) (by omega) (by omega) (by omega) (by omega) (by omega)) (o _ _ (by omega) (by omega) (by omega) (by omega) (by omega) (by omega) (by omega)) ⟨e1, e2, e3⟩
      exact ⟨ce.1, ce.2.1, fun e he => ⟨⟨by have := (ce.2.2 e he).1.1; omega, (ce.2.2 e he).1.2⟩, (ce.2.2 e he).2⟩⟩
theorem pr_hold {L : Nat} {xs : Nat → Int32} {I : rs_M} {d : Nat} {r g : Int} (hd : 100 ≤ d) (hg : g = 0 ∨ g = 1) (h : ci L xs I) : rs_pairP 36 71 [.inr (.inr 1), .inl r, .inl g] [.inr (.inr 88), .inl r, .inl g] (ci L xs) I d := by
  obtain ⟨h0, ⟨n, hc⟩, hl, hs, hp⟩ := id h
  obtain ⟨hn, hfi, ⟨r1, r2, r3⟩, ht, he, hfr⟩ := id hc
  have hu := ci_up (a := 88) (k := 0) (v := 0) (Or.inl ⟨rfl, rfl⟩) h
  refine mk_P (by omega) (by omega) (ct_hold (by omega) r1 hg (fun q => ⟨fun _ => rfl, _, rfl, ?_⟩) (fun q q' => ⟨fun j => by rw [rs_up_at, if_neg (by omega)], _, rfl, ?_⟩))
  · refine cm_hold (by omega) (by rw [r2]; exact r1) hg (fun _ => ⟨rfl, hu⟩) (fun p p' => ?_)
    rw [r2] at p
    rw [(r3 r.toNat (by omega)).2.2.2.2.2] at p'
    exact absurd ⟨p, p'⟩ q
  · have k4 : rs_up I (12 + r.toNat) 5 g 88 4 = I 6 2 := by rw [rs_up_at, if_neg (by omega), r2]
    have k95 : rs_up I (12 + r.toNat) 5 g 95 r.toNat = I (12 + r.toNat) 5 := by rw [rs_up_at, if_neg (by omega), (r3 r.toNat (by omega)).2.2.2.2.2]
    refine cm_hold (by omega) (by rw [k4]; exact r1) hg (fun p => ?_) (fun p p' => ⟨rfl, ?_⟩)
    · rw [k4, k95] at p
      exact absurd ⟨q, q'⟩ p
    · generalize eJ : rs_up (rs_up (rs_up I (12 + r.toNat) 5 g) 88 0 0) 95 r.toNat g = J2
      have o : ∀ x j, (x = 12 + r.toNat → j ≠ 5) → (x = 88 → j ≠ 0) → (x = 95 → j ≠ r.toNat) → J2 x j = I x j := fun x j p1 p2 p3 => by
        rw [← eJ]
        simp only [rs_up_at]
        rw [if_neg (fun q => p3 q.1 q.2), if_neg (fun q => p2 q.1 q.2), if_neg (fun q => p1 q.1 q.2)]
      have v5 : J2 (12 + r.toNat) 5 = g := by
        rw [← eJ, rs_up_at, if_neg (by omega), rs_up_at, if_neg (by omega), rs_up_at, if_pos ⟨rfl, rfl⟩]
      have v95 : J2 95 r.toNat = g := by rw [← eJ]; simp [rs_up_at]
      have k6 : J2 6 2 = I 6 2 := o _ _ (by omega) (by omega) (by omega)
      refine ci_rest (n := n) (fun x j q => o x j (by omega) (by omega) (by omega)) h ⟨⟨hn.1, by rw [o _ _ (by omega) (by omega) (by omega)]; exact hn.2.1, by rw [o _ _ (by omega) (by omega) (by omega)]; exact hn.2.2⟩, c_first_fr (fun x j q => o x j (by omega) (by omega) (by omega)) hfi, ⟨by rw [k6]; exact r1, by rw [k6, o _ _ (by omega) (by omega) (by omega)]; exact r2, fun s hs' => ?_⟩, c_tab_fr (fun x j q => o x j (by omega) (by omega) (by omega)) ht, c_ent_fr (fun x j q => o x j (by omega) (by omega) (by omega)) (o _ _ (by omega) (by omega) (by omega)) (o _ _ (by omega) (by omega) (by omega)) he, c_frc_fr he.1 (fun e he => o _ _ (by omega) (by omega) (by omega)) (o _ _ (by omega) (by omega) (by omega)) (o _ _ (by omega) (by omega) (by omega)) hfr⟩
      rw [k6] at hs'
      have c := r3 s hs'
      rw [o (12 + s) 0 (by omega) (by omega) (by omega), o (12 + s) 1 (by omega) (by omega) (by omega), o (12 + s) 2 (by omega) (by omega) (by omega), o (12 + s) 3 (by omega) (by omega) (by omega), o (12 + s) 4 (by omega) (by omega) (by omega), o 91 s (by omega) (by omega) (by omega), o 92 s (by omega) (by omega) (by omega), o 93 s (by omega) (by omega) (by omega), o 94 s (by omega) (by omega) (by omega)]
      refine ⟨c.1, c.2.1, c.2.2.1, c.2.2.2.1, c.2.2.2.2.1, ?_⟩
      by_cases es : s = r.toNat
      · rw [es, v5, v95]
      · rw [o 95 s (by omega) (by omega) (by omega), o (12 + s) 5 (by omega) (by omega) (by omega)]
        exact c.2.2.2.2.2
theorem pr_relate {L : Nat} {xs : Nat → Int32} {I : rs_M} {d : Nat} {k a b c : Int} (hd : 100 ≤ d) (ha : rs_R a) (h : ci L xs I) : rs_pairT 35 70 [.inr (.inr 1), .inl k, .inl a, .inl b, .inl c] [.inr (.inr 88), .inl k, .inl a, .inl b, .inl c] (ci L xs) I d := by
  obtain ⟨h0, ⟨n, hc⟩, hl, hs, hp⟩ := id h
  obtain ⟨⟨n1, n2, n3⟩, hfi, ⟨r1, r2, r3⟩, ht, he, hfr⟩ := id hc
  have hcn : 0 ≤ I 1 6 ∧ I 1 6 ≤ 10 := by omega
  have hmn : 0 ≤ I 88 1 ∧ I 88 1 ≤ 10 := by omega
  have e16 : I 88 1 = I 1 6 := by omega
  refine mk_T (by omega) (by omega) (ct_relate (by omega) (by omega) ha hcn r1 (fun g => ⟨fun _ => rfl, Or.inr ⟨1, Or.inl rfl, rfl, ?_⟩⟩) (fun g g' => ⟨fun _ => rfl, Or.inr ⟨2, Or.inr rfl, rfl, ?_⟩⟩) (fun g g' => ⟨fun j => ?_, Or.inl ⟨_, rfl, by unfold rs_R; omega, ?_⟩⟩))
  · exact cm_relate (by omega) ha hmn (by rw [r2]; exact r1) (fun _ => ⟨⟨_, rfl⟩, ci_thr 1 h⟩) (fun q => absurd (by rw [← e16]; exact q) g) (fun q => absurd (by rw [← e16]; exact q) g)
  · exact cm_relate (by omega) ha hmn (by rw [r2]; exact r1) (fun q => absurd (by rw [e16]; exact g) q) (fun _ _ => ⟨⟨_, rfl⟩, ci_thr 2 h⟩) (fun _ q => by rw [r2] at q; omega)
  · unfold rg_become
    simp only [rs_up_at]
    rw [if_neg (by omega), if_neg (by omega), if_neg (by omega), if_neg (by omega), if_neg (by omega), if_neg (by omega), if_neg (by omega)]
  · obtain ⟨cnt, ecnt⟩ : ∃ cnt : Nat, I 6 2 = (cnt : Int) := ⟨(I 6 2).toNat, by omega⟩
    rw [ecnt, Int.toNat_natCast]
    rw [ecnt] at g' r1 r2 r3
    rw [Int.toNat_natCast] at r3
    obtain ⟨M, eM⟩ : ∃ M, rs_up (rs_up (rg_become I (12 + cnt) k a b c) 6 2 ((cnt : Int) + 1)) 110 0 (cnt : Int) = M := ⟨_, rfl⟩
    rw [eM]
    have oM : ∀ x j, x ≠ 12 + cnt → (x = 6 → j ≠ 2) → x ≠ 110 → M x j = I x j := fun x j p1 p2 p3 => by
      rw [← eM]
      unfold rg_become
      simp only [rs_up_at]
      rw [if_neg (fun q => p3 q.1), if_neg (fun q => p2 q.1 q.2), if_neg (fun q => p1 q.1), if_neg (fun q => p1 q.1), if_neg (fun q => p1 q.1), if_neg (fun q => p1 q.1), if_neg (fun q => p1 q.1), if_neg (fun q => p1 q.1)]
    have m1 : M 88 1 = (n : Int) := by rw [oM _ _ (by omega) (by omega) (by omega), n3]
    have m4 : M 88 4 = (cnt : Int) := by rw [oM _ _ (by omega) (by omega) (by omega), r2]
    have mq : ∀ j v, (rg_become I (12 + cnt) k a b c) (12 + cnt) j = v → M (12 + cnt) j = v := fun j v e => by
      rw [← eM, rs_up_at, if_neg (by omega), rs_up_at, if_neg (by omega)]
      exact e
    have q0 := mq 0 k (by simp [rg_become, rs_up_at])
    have q1 := mq 1 a (by simp [rg_become, rs_up_at])
    have q2 := mq 2 b (by simp [rg_become, rs_up_at])
    have q3 := mq 3 c (by simp [rg_become, rs_up_at])
    have q4 := mq 4 (rg_mask k a b c) (by simp [rg_become, rs_up_at])
    have q5 := mq 5 1 (by simp [rg_become, rs_up_at])
    have m62 : M 6 2 = (cnt : Int) + 1 := by rw [← eM, rs_up_at, if_neg (by omega), rs_up_at, if_pos ⟨rfl, rfl⟩]
    have m110 : M 110 0 = (cnt : Int) := by rw [← eM, rs_up_at, if_pos ⟨rfl, rfl⟩]
    rw [n2] at g
    refine cm_relate (by omega) ha (by rw [m1]; omega) (by rw [m4]; omega) (fun q => absurd (by rw [m1]; exact g) q) (fun _ q => by rw [m4] at q; omega) (fun _ _ => ?_)
    rw [m4, Int.toNat_natCast]
    generalize eJ : rs_up (rs_up (rs_up (rs_up (rs_up (rs_up (rs_up M 88 0 0) 91 cnt k) 92 cnt a) 93 cnt b) 94 cnt c) 95 cnt 1) 88 4 ((cnt : Int) + 1) = J2
    have o : ∀ x j, (x = 88 → j ≠ 0 ∧ j ≠ 4) → (91 ≤ x → x ≤ 95 → j ≠ cnt) → J2 x j = M x j := fun x j p1 p2 => by
      rw [← eJ]
      simp only [rs_up_at]
      rw [if_neg (fun q => (p1 q.1).2 q.2), if_neg (fun q => p2 (by omega) (by omega) q.2), if_neg (fun q => p2 (by omega) (by omega) q.2), if_neg (fun q => p2 (by omega) (by omega) q.2), if_neg (fun q => p2 (by omega) (by omega) q.2), if_neg (fun q => p2 (by omega) (by omega) q.2), if_neg (fun q => (p1 q.1).1 q.2)]
    have v91 : J2 91 cnt = k := by rw [← eJ]; simp [rs_up_at]
    have v92 : J2 92 cnt = a := by rw [← eJ]; simp [rs_up_at]
    have v93 : J2 93 cnt = b := by rw [← eJ]; simp [rs_up_at]
    have v94 : J2 94 cnt = c := by rw [← eJ]; simp [rs_up_at]
    have v95 : J2 95 cnt = 1 := by rw [← eJ]; simp [rs_up_at]
    have v884 : J2 88 4 = (cnt : Int) + 1 := by rw [← eJ]; simp [rs_up_at]
    have v880 : J2 88 0 = 0 := by rw [← eJ]; simp [rs_up_at]
    have v62 : J2 6 2 = (cnt : Int) + 1 := by rw [o _ _ (by omega) (by omega), m62]
    have oI : ∀ x j, (x = 88 → j ≠ 0 ∧ j ≠ 4) → (91 ≤ x → x ≤ 95 → j ≠ cnt) → x ≠ 12 + cnt → (x = 6 → j ≠ 2) → x ≠ 110 → J2 x j = I x j := fun x j p1 p2 p3 p4 p5 => by rw [o x j p1 p2, oM x j p3 p4 p5]
    refine ⟨rfl, by rw [o _ _ (by omega) (by omega), m110], v880, ci_rest (n := n) (fun x j q => oI x j (by omega) (by omega) (by omega) (by omega) (by omega)) h ⟨⟨n1, by rw [oI _ _ (by omega) (by omega) (by omega) (by omega) (by omega)]; exact n2, by rw [oI _ _ (by omega) (by omega) (by omega) (by omega) (by omega)]; exact n3⟩, c_first_fr (fun x j q => oI x j (by omega) (by omega) (by omega) (by omega) (by omega)) hfi, ⟨by rw [v62]; omega, by rw [v884, v62], fun s hs' => ?_⟩, c_tab_fr (fun x j q => oI x j (by omega) (by omega) (by omega) (by omega) (by omega)) ht, c_ent_fr (fun x j q => oI x j (by omega) (by omega) (by omega) (by omega) (by omega)) (oI _ _ (by omega) (by omega) (by omega) (by omega) (by omega)) (oI _ _ (by omega) (by omega) (by omega) (by omega) (by omega)) he, c_frc_fr he.1 (fun e he => oI _ _ (by omega) (by omega) (by omega) (by omega) (by omega)) (oI _ _ (by omega) (by omega) (by omega) (by omega) (by omega)) (oI _ _ (by omega) (by omega) (by omega) (by omega) (by omega)) hfr⟩⟩
    rw [v62] at hs'
    by_cases es : s = cnt
    · subst es
      have z : ∀ j, J2 (12 + s) j = M (12 + s) j := fun j => o _ _ (by omega) (by omega)
      rw [z, z, z, z, z, z, q0, q1, q2, q3, q4, q5, v91, v92, v93, v94, v95]
      exact ⟨nt_of n1 ha g, rfl, rfl, rfl, rfl, rfl⟩
    · have z : ∀ j, J2 (12 + s) j = I (12 + s) j := fun j => oI _ _ (by omega) (by omega) (by omega) (by omega) (by omega)
      rw [z, z, z, z, z, z, oI 91 s (by omega) (by omega) (by omega) (by omega) (by omega), oI 92 s (by omega) (by omega) (by omega) (by omega) (by omega), oI 93 s (by omega) (by omega) (by omega) (by omega) (by omega), oI 94 s (by omega) (by omega) (by omega) (by omega) (by omega), oI 95 s (by omega) (by omega) (by omega) (by omega) (by omega)]
      exact r3 s (by omega)
theorem pr_row {L : Nat} {xs : Nat → Int32} {I : rs_M} {d : Nat} {t x y : Int} (hd : 100 ≤ d) (h : ci L xs I) : rs_pairP 37 72 [.inr (.inr 1), .inl t, .inl x, .inl y] [.inr (.inr 88), .inl t, .inl x, .inl y] (ci L xs) I d := by
  obtain ⟨h0, ⟨n, hc⟩, hl, hs, hp⟩ := id h
  obtain ⟨⟨n1, n2, n3⟩, hfi, hrel, ht, he, hfr⟩ := id hc
  have hu := ci_up (a := 88) (k := 0) (v := 0) (Or.inl ⟨rfl, rfl⟩) h
  have hm : ∀ k, k < 3 → 0 ≤ I 96 k ∧ I 96 k ≤ 10 := fun k hk => by rw [(ht k hk).2.1]; exact (ht k hk).1
  refine mk_P (by omega) (by omega) (ct_row (by omega) (fun k hk => (ht k hk).1) (fun q => ⟨fun _ => rfl, _, rfl, ?_⟩) (fun q1 q2 q3 q4 => ⟨fun j => ?_, _, rfl, ?_⟩))
  · refine cm_row (by omega) hm (fun _ => ⟨rfl, hu⟩) (fun p1 p2 p3 p4 => ?_)
    rw [(ht t.toNat (by omega)).2.1] at p4
    exact absurd ⟨p1, p2, p3, p4⟩ q
  · simp only [rs_up_at]
    rw [if_neg (by omega), if_neg (by omega), if_neg (by omega)]
  · obtain ⟨tt, ett⟩ : ∃ tt : Nat, t = (tt : Int) := ⟨t.toNat, by omega⟩
    subst ett
    rw [Int.toNat_natCast] at q4 ⊢
    have t3 : tt < 3 := by omega
    obtain ⟨b1, b2, b3⟩ := ht tt t3
    obtain ⟨w, ew⟩ : ∃ w : Nat, I (24 + 3 * tt) 2 = (w : Int) := ⟨(I (24 + 3 * tt) 2).toNat, by omega⟩
    rw [ew] at q4 b1 b2 b3 ⊢
    rw [Int.toNat_natCast] at b3 ⊢
    obtain ⟨M, eM⟩ : ∃ M, rs_up (rs_up (rs_up I (24 + 3 * tt + 1) w x) (24 + 3 * tt + 2) w y) (24 + 3 * tt) 2 ((w : Int) + 1) = M := ⟨_, rfl⟩
    rw [eM]
    have oM : ∀ a j, (a = 24 + 3 * tt + 1 → j ≠ w) → (a = 24 + 3 * tt + 2 → j ≠ w) → (a = 24 + 3 * tt → j ≠ 2) → M a j = I a j := fun a j p1 p2 p3 => by
      rw [← eM]
      simp only [rs_up_at]
      rw [if_neg (fun q => p3 q.1 q.2), if_neg (fun q => p2 q.1 q.2), if_neg (fun q => p1 q.1 q.2)]
    have mx : M (24 + 3 * tt + 1) w = x := by rw [← eM, rs_up_at, if_neg (by omega), rs_up_at, if_neg (by omega), rs_up_at, if_pos ⟨rfl, rfl⟩]
    have my : M (24 + 3 * tt + 2) w = y := by rw [← eM, rs_up_at, if_neg (by omega), rs_up_at, if_pos ⟨rfl, rfl⟩]
    have mw : M (24 + 3 * tt) 2 = (w : Int) + 1 := by rw [← eM, rs_up_at, if_pos ⟨rfl, rfl⟩]
    have m96 : ∀ k, M 96 k = I 96 k := fun k => oM _ _ (by omega) (by omega) (by omega)
    have mm : M 96 tt = (w : Int) := by rw [m96, b2]
    refine cm_row (by omega) (fun k hk => by rw [m96]; exact hm k hk) (fun p => absurd ⟨q1, q2, q3, by rw [Int.toNat_natCast, mm]; omega⟩ p) (fun _ _ _ _ => ?_)
    rw [Int.toNat_natCast, mm, show (10 * (tt : Int) + (w : Int)).toNat = 10 * tt + w by omega]
    generalize eJ : rs_up (rs_up (rs_up (rs_up M 88 0 0) 97 (10 * tt + w) x) 98 (10 * tt + w) y) 96 tt ((w : Int) + 1) = J2
    have o : ∀ a j, (a = 88 → j ≠ 0) → (a = 97 → j ≠ 10 * tt + w) → (a = 98 → j ≠ 10 * tt + w) → (a = 96 → j ≠ tt) → J2 a j = M a j := fun a j p1 p2 p3 p4 => by
      rw [← eJ]
      simp only [rs_up_at]
      rw [if_neg (fun q => p4 q.1 q.2), if_neg (fun q => p3 q.1 q.2), if_neg (fun q => p2 q.1 q.2), if_neg (fun q => p1 q.1 q.2)]
    have v97 : J2 97 (10 * tt + w) = x := by rw [← eJ]; simp [rs_up_at]
    have v98 : J2 98 (10 * tt + w) = y := by rw [← eJ]; simp [rs_up_at]
    have v96 : J2 96 tt = (w : Int) + 1 := by rw [← eJ]; simp [rs_up_at]
    have oI : ∀ a j, (a < 24 ∨ 32 < a) → (a = 88 → j ≠ 0) → (a < 96 ∨ 98 < a) → J2 a j = I a j := fun a j p1 p2 p3 => by rw [o a j p2 (by omega) (by omega) (by omega), oM a j (by omega) (by omega) (by omega)]
    refine ⟨rfl, ci_rest (n := n) (fun x j q => oI x j (by omega) (by omega) (by omega)) h ⟨⟨n1, by rw [oI _ _ (by omega) (by omega) (by omega)]; exact n2, by rw [oI _ _ (by omega) (by omega) (by omega)]; exact n3⟩, c_first_fr (fun x j q => oI x j (by omega) (by omega) (by omega)) hfi, c_rel_fr (fun x j q => oI x j (by omega) (by omega) (by omega)) (oI _ _ (by omega) (by omega) (by omega)) hrel, fun k hk => ?_, c_ent_fr (fun x j q => oI x j (by omega) (by omega) (by omega)) (oI _ _ (by omega) (by omega) (by omega)) (oI _ _ (by omega) (by omega) (by omega)) he, c_frc_fr he.1 (fun e he => oI _ _ (by omega) (by omega) (by omega)) (oI _ _ (by omega) (by omega) (by omega)) (oI _ _ (by omega) (by omega) (by omega)) hfr⟩⟩
    by_cases ek : k = tt
    · subst ek
      have w1 : J2 (24 + 3 * k) 2 = (w : Int) + 1 := by rw [o _ _ (by omega) (by omega) (by omega) (by omega), mw]
      refine ⟨by rw [w1]; omega, by rw [w1, v96], fun r hr => ?_⟩
      rw [w1] at hr
      rw [o (24 + 3 * k + 1) r (by omega) (by omega) (by omega) (by omega), o (24 + 3 * k + 2) r (by omega) (by omega) (by omega) (by omega)]
      by_cases er : r = w
      · subst er
        rw [v97, v98, mx, my]
        exact ⟨rfl, rfl⟩
      · rw [o 97 _ (by omega) (by omega) (by omega) (by omega), o 98 _ (by omega) (by omega) (by omega) (by omega), oM 97 _ (by omega) (by omega) (by omega), oM 98 _ (by omega) (by omega) (by omega), oM (24 + 3 * k + 1) r (by omega) (by omega) (by omega), oM (24 + 3 * k + 2) r (by omega) (by omega) (by omega)]
        exact b3 r (by omega)
    · obtain ⟨c1, c2, c3⟩ := ht k hk
      have z : ∀ a j, a = 24 + 3 * k ∨ a = 24 + 3 * k + 1 ∨ a = 24 + 3 * k + 2 → J2 a j = I a j := fun a j q => by rw [o a j (by omega) (by omega) (by omega) (by omega), oM a j (by omega) (by omega) (by omega)]
      have w1 := z (24 + 3 * k) 2 (by omega)
      refine ⟨by rw [w1]; exact c1, by rw [w1, o 96 k (by omega) (by omega) (by omega) (by omega), m96]; exact c2, fun r hr => ?_⟩
      rw [w1] at hr
      rw [z (24 + 3 * k + 1) r (by omega), z (24 + 3 * k + 2) r (by omega), o 97 _ (by omega) (by omega) (by omega) (by omega), o 98 _ (by omega) (by omega) (by omega) (by omega), oM 97 _ (by omega) (by omega) (by omega), oM 98 _ (by omega) (by omega) (by omega)]
      exact c3 r hr
theorem rg_ef_bit (I : rs_M) (j : Nat) : ∀ k, (rg_ef I k).testBit j = true ↔ j < k ∧ I (76 + j) 3 ≠ 0
  | 0 => by simp [rg_ef]
  | k + 1 => by
    have h := rg_ef_bit I j k
    unfold rg_ef
    by_cases g : I (76 + k) 3 = 0
    · rw [if_pos g, h]
      constructor
      · rintro ⟨a, b⟩; exact ⟨by omega, b⟩
      · rintro ⟨a, b⟩
        refine ⟨?_, b⟩
        have : j ≠ k := fun e => b (by rw [e]; exact g)
        omega
    · rw [if_neg g, bt_orb, h]
      constructor
      · rintro (⟨a, b⟩ | e)
        · exact ⟨by omega, b⟩
        · subst e; exact ⟨by omega, g⟩
      · rintro ⟨a, b⟩
        by_cases e : j = k
        · exact Or.inr e
        · exact Or.inl ⟨by omega, b⟩
theorem pr_set {L : Nat} {xs : Nat → Int32} {I : rs_M} {d : Nat} {c a b : Int} (hd : 100 ≤ d) (h : ci L xs I) : rs_pairT 38 73 [.inr (.inr 1), .inl c, .inl a, .inl b] [.inr (.inr 88), .inl c, .inl a, .inl b] (ci L xs) I d := by
  obtain ⟨h0, ⟨n, hc⟩, hl, hs, hp⟩ := id h
  obtain ⟨⟨n1, n2, n3⟩, hfi, hrel, ht, ⟨e1, e2, e3⟩, hfr⟩ := id hc
  have hcn : 0 ≤ I 1 6 ∧ I 1 6 ≤ 10 := by omega
  have hmn : 0 ≤ I 88 1 ∧ I 88 1 ≤ 10 := by omega
  refine mk_T (by omega) (by omega) (ct_set (by omega) (by omega) e1 (fun g => ⟨fun _ => rfl, Or.inr ⟨1, Or.inl rfl, rfl, ?_⟩⟩) (fun g1 g2 g' => ⟨fun _ => rfl, Or.inr ⟨2, Or.inr rfl, rfl, ?_⟩⟩) (fun g1 g2 g' => ⟨fun j => ?_, Or.inl ⟨_, rfl, by unfold rs_R; omega, ?_⟩⟩))
  · exact cm_set (by omega) hmn (by rw [e2]; exact e1) (fun _ => ⟨⟨_, rfl⟩, ci_thr 1 h⟩) (fun q1 q2 => absurd ⟨by omega, q2⟩ g) (fun q1 q2 => absurd ⟨by omega, q2⟩ g)
  · exact cm_set (by omega) hmn (by rw [e2]; exact e1) (fun q => absurd ⟨by omega, g2⟩ q) (fun _ _ _ => ⟨⟨_, rfl⟩, ci_thr 2 h⟩) (fun _ _ q => by omega)
  · simp only [rs_up_at]
    rw [if_neg (by omega), if_neg (by omega), if_neg (by omega), if_neg (by omega), if_neg (by omega)]
  · obtain ⟨cnt, ecnt⟩ : ∃ cnt : Nat, I 1 7 = (cnt : Int) := ⟨(I 1 7).toNat, by omega⟩
    have hfr' : I 88 17 = ((rg_ef I (I 1 7).toNat : Nat) : Int) := hfr
    rw [ecnt, Int.toNat_natCast] at hfr' ⊢
    rw [ecnt] at g' e1 e2 e3
    rw [Int.toNat_natCast] at e3
    obtain ⟨M, eM⟩ : ∃ M, rs_up (rs_up (rs_up (rs_up (rs_up (rs_up I (76 + cnt) 0 c) (76 + cnt) 1 a) (76 + cnt) 2 b) (76 + cnt) 3 1) 1 7 ((cnt : Int) + 1)) 110 0 (cnt : Int) = M := ⟨_, rfl⟩
    rw [eM]
    have oM : ∀ x j, x ≠ 76 + cnt → (x = 1 → j ≠ 7) → x ≠ 110 → M x j = I x j := fun x j p1 p2 p3 => by
      rw [← eM]
      simp only [rs_up_at]
      rw [if_neg (fun q => p3 q.1), if_neg (fun q => p2 q.1 q.2), if_neg (fun q => p1 q.1), if_neg (fun q => p1 q.1), if_neg (fun q => p1 q.1), if_neg (fun q => p1 q.1)]
    have mq : ∀ j v, (rs_up (rs_up (rs_up (rs_up I (76 + cnt) 0 c) (76 + cnt) 1 a) (76 + cnt) 2 b) (76 + cnt) 3 1) (76 + cnt) j = v → M (76 + cnt) j = v := fun j v e => by
      rw [← eM, rs_up_at, if_neg (by omega), rs_up_at, if_neg (by omega)]
      exact e
    have q0 := mq 0 c (by simp [rs_up_at])
    have q1 := mq 1 a (by simp [rs_up_at])
    have q2 := mq 2 b (by simp [rs_up_at])
    have q3 := mq 3 1 (by simp [rs_up_at])
    have m1 : M 88 1 = (n : Int) := by rw [oM _ _ (by omega) (by omega) (by omega), n3]
    have m13 : M 88 13 = (cnt : Int) := by rw [oM _ _ (by omega) (by omega) (by omega), e2]
    have m17 : M 88 17 = ((rg_ef I cnt : Nat) : Int) := by rw [oM _ _ (by omega) (by omega) (by omega), hfr']
    have m7 : M 1 7 = (cnt : Int) + 1 := by rw [← eM, rs_up_at, if_neg (by omega), rs_up_at, if_pos ⟨rfl, rfl⟩]
    have m110 : M 110 0 = (cnt : Int) := by rw [← eM, rs_up_at, if_pos ⟨rfl, rfl⟩]
    have lt := rg_ef_lt I cnt
    have pw := bt_pow (k := cnt) (by omega)
    have eo := bt_or2 (m := rg_ef I cnt) (k := cnt) (by omega) (by omega)
    refine cm_set (by omega) (by rw [m1]; omega) (by rw [m13]; omega) (fun q => absurd ⟨by rw [m1]; omega, g2⟩ q) (fun _ _ q => by rw [m13] at q; omega) (fun _ _ _ => ?_)
    rw [m13, m17, Int.toNat_natCast, eo]
    generalize eJ : rs_up (rs_up (rs_up (rs_up (rs_up (rs_up M 88 0 0) 99 cnt c) 100 cnt a) 101 cnt b) 88 17 ((rg_ef I cnt ||| 2 ^ cnt : Nat) : Int)) 88 13 ((cnt : Int) + 1) = J2
    have o : ∀ x j, (x = 88 → j ≠ 0 ∧ j ≠ 13 ∧ j ≠ 17) → (99 ≤ x → x ≤ 101 → j ≠ cnt) → J2 x j = M x j := fun x j p1 p2 => by
      rw [← eJ]
      simp only [rs_up_at]
      rw [if_neg (fun q => (p1 q.1).2.1 q.2), if_neg (fun q => (p1 q.1).2.2 q.2), if_neg (fun q => p2 (by omega) (by omega) q.2), if_neg (fun q => p2 (by omega) (by omega) q.2), if_neg (fun q => p2 (by omega) (by omega) q.2), if_neg (fun q => (p1 q.1).1 q.2)]
    have v99 : J2 99 cnt = c := by rw [← eJ]; simp [rs_up_at]
    have v100 : J2 100 cnt = a := by rw [← eJ]; simp [rs_up_at]
    have v101 : J2 101 cnt = b := by rw [← eJ]; simp [rs_up_at]
    have v13 : J2 88 13 = (cnt : Int) + 1 := by rw [← eJ]; simp [rs_up_at]
    have v17 : J2 88 17 = ((rg_ef I cnt ||| 2 ^ cnt : Nat) : Int) := by rw [← eJ, rs_up_at, if_neg (by omega), rs_up_at, if_pos ⟨rfl, rfl⟩]
    have v880 : J2 88 0 = 0 := by rw [← eJ]; simp [rs_up_at]
    have v7 : J2 1 7 = (cnt : Int) + 1 := by rw [o _ _ (by omega) (by omega), m7]
    have oI : ∀ x j, (x = 88 → j ≠ 0 ∧ j ≠ 13 ∧ j ≠ 17) → (99 ≤ x → x ≤ 101 → j ≠ cnt) → x ≠ 76 + cnt → (x = 1 → j ≠ 7) → x ≠ 110 → J2 x j = I x j := fun x j p1 p2 p3 p4 p5 => by rw [o x j p1 p2, oM x j p3 p4 p5]
    have tn : ((cnt : Int) + 1).toNat = cnt + 1 := by omega
    refine ⟨rfl, by rw [o _ _ (by omega) (by omega), m110], v880, ci_rest (n := n) (fun x j q => oI x j (by omega) (by omega) (by omega) (by omega) (by omega)) h ⟨⟨n1, by rw [oI _ _ (by omega) (by omega) (by omega) (by omega) (by omega)]; exact n2, by rw [oI _ _ (by omega) (by omega) (by omega) (by omega) (by omega)]; exact n3⟩, c_first_fr (fun x j q => oI x j (by omega) (by omega) (by omega) (by omega) (by omega)) hfi, c_rel_fr (fun x j q => oI x j (by omega) (by omega) (by omega) (by omega) (by omega)) (oI _ _ (by omega) (by omega) (by omega) (by omega) (by omega)) hrel, c_tab_fr (fun x j q => oI x j (by omega) (by omega) (by omega) (by omega) (by omega)) ht, ⟨by rw [v7]; omega, by rw [v7, v13], fun e he => ?_⟩, ?_⟩⟩
    · rw [v7, tn] at he
      by_cases ee : e = cnt
      · subst ee
        have z : ∀ j, J2 (76 + e) j = M (76 + e) j := fun j => o _ _ (by omega) (by omega)
        rw [z, z, z, z, q0, q1, q2, q3, v99, v100, v101]
        exact ⟨⟨by omega, g2⟩, rfl, rfl, rfl, Or.inr rfl⟩
      · have z : ∀ j, J2 (76 + e) j = I (76 + e) j := fun j => oI _ _ (by omega) (by omega) (by omega) (by omega) (by omega)
        rw [z, z, z, z, oI 99 e (by omega) (by omega) (by omega) (by omega) (by omega), oI 100 e (by omega) (by omega) (by omega) (by omega) (by omega), oI 101 e (by omega) (by omega) (by omega) (by omega) (by omega)]
        exact e3 e (by omega)
    · show J2 88 17 = _
      rw [v17, v7, tn]
      have z3 : J2 (76 + cnt) 3 = 1 := by rw [o _ _ (by omega) (by omega), q3]
      unfold rg_ef
      rw [if_neg (by omega)]
      rw [rg_ef_cg cnt (fun e he => oI (76 + e) 3 (by omega) (by omega) (by omega) (by omega) (by omega))]
      cases cnt <;> rfl
theorem pr_force {L : Nat} {xs : Nat → Int32} {I : rs_M} {d : Nat} {e g : Int} (hd : 100 ≤ d) (hg : g = 0 ∨ g = 1) (h : ci L xs I) : rs_pairP 39 75 [.inr (.inr 1), .inl e, .inl g] [.inr (.inr 88), .inl e, .inl g] (ci L xs) I d := by
  obtain ⟨h0, ⟨n, hc⟩, hl, hs, hp⟩ := id h
  obtain ⟨⟨n1, n2, n3⟩, hfi, hrel, ht, ⟨e1, e2, e3⟩, hfr⟩ := id hc
  obtain ⟨hf, hfr'⟩ := ci_f hc
  have hu := ci_up (a := 88) (k := 0) (v := 0) (Or.inl ⟨rfl, rfl⟩) h
  have bit : 0 ≤ e → e < I 1 7 → ((if (rg_ef I (I 1 7).toNat).testBit e.toNat = true then (1 : Int) else 0) ≠ g ↔ I (76 + e.toNat) 3 ≠ g) := fun q1 q2 => by
    have b := rg_ef_bit I e.toNat (I 1 7).toNat
    have v := (e3 e.toNat (by omega)).2.2.2.2
    by_cases z : I (76 + e.toNat) 3 = 0
    · rw [if_neg (fun q => (b.mp q).2 z), z]
    · rw [if_pos (b.mpr ⟨by omega, z⟩), show I (76 + e.toNat) 3 = 1 by omega]
  refine mk_P (by omega) (by omega) (ct_force e1 hg (fun q => ⟨fun _ => rfl, _, rfl, ?_⟩) (fun q q' => ⟨fun j => by rw [rs_up_at, if_neg (by omega)], _, rfl, ?_⟩))
  · refine cm_force (by omega) (by rw [e2]; exact e1) (by rw [hfr']; omega) hg (fun _ => ⟨rfl, hu⟩) (fun p p' => ?_)
    rw [e2] at p
    rw [hfr', Int.toNat_natCast] at p'
    exact absurd ⟨p, (bit p.1 p.2).mp p'⟩ q
  · have k13 : rs_up I (76 + e.toNat) 3 g 88 13 = I 1 7 := by rw [rs_up_at, if_neg (by omega), e2]
    have k17 : rs_up I (76 + e.toNat) 3 g 88 17 = ((rg_ef I (I 1 7).toNat : Nat) : Int) := by rw [rs_up_at, if_neg (by omega), hfr']
    refine cm_force (by omega) (by rw [k13]; exact e1) (by rw [k17]; omega) hg (fun p => ?_) (fun p p' => ⟨rfl, ?_⟩)
    · rw [k13, k17, Int.toNat_natCast] at p
      exact absurd ⟨q, (bit q.1 q.2).mpr q'⟩ p
    · obtain ⟨en, een⟩ : ∃ en : Nat, e = (en : Int) := ⟨e.toNat, by omega⟩
      subst een
      rw [Int.toNat_natCast] at q' k17 ⊢
      have pw := bt_pow (k := en) (by omega)
      have sl := bt_shl1 en (by omega)
      have ex := bt_xor (rg_ef I (I 1 7).toNat) (2 ^ en) (by omega) (by omega)
      rw [k17, sl, ex]
      generalize eJ : rs_up (rs_up (rs_up I (76 + en) 3 g) 88 0 0) 88 17 ((rg_ef I (I 1 7).toNat ^^^ 2 ^ en : Nat) : Int) = J2
      have o : ∀ x j, (x = 76 + en → j ≠ 3) → (x = 88 → j ≠ 0 ∧ j ≠ 17) → J2 x j = I x j := fun x j p1 p2 => by
        rw [← eJ]
        simp only [rs_up_at]
        rw [if_neg (fun q => (p2 q.1).2 q.2), if_neg (fun q => (p2 q.1).1 q.2), if_neg (fun q => p1 q.1 q.2)]
      have v3 : J2 (76 + en) 3 = g := by rw [← eJ, rs_up_at, if_neg (by omega), rs_up_at, if_neg (by omega), rs_up_at, if_pos ⟨rfl, rfl⟩]
      have v17 : J2 88 17 = ((rg_ef I (I 1 7).toNat ^^^ 2 ^ en : Nat) : Int) := by rw [← eJ, rs_up_at, if_pos ⟨rfl, rfl⟩]
      have v7 : J2 1 7 = I 1 7 := o _ _ (by omega) (by omega)
      refine ci_rest (n := n) (fun x j q => o x j (by omega) (by omega)) h ⟨⟨n1, by rw [o _ _ (by omega) (by omega)]; exact n2, by rw [o _ _ (by omega) (by omega)]; exact n3⟩, c_first_fr (fun x j q => o x j (by omega) (by omega)) hfi, c_rel_fr (fun x j q => o x j (by omega) (by omega)) (o _ _ (by omega) (by omega)) hrel, c_tab_fr (fun x j q => o x j (by omega) (by omega)) ht, ⟨by rw [v7]; exact e1, by rw [v7, o _ _ (by omega) (by omega)]; exact e2, fun s hs' => ?_⟩, ?_⟩
      · rw [v7] at hs'
        have c := e3 s hs'
        rw [o (76 + s) 0 (by omega) (by omega), o (76 + s) 1 (by omega) (by omega), o (76 + s) 2 (by omega) (by omega), o 99 s (by omega) (by omega), o 100 s (by omega) (by omega), o 101 s (by omega) (by omega)]
        refine ⟨c.1, c.2.1, c.2.2.1, c.2.2.2.1, ?_⟩
        by_cases es : s = en
        · rw [es, v3]; exact hg
        · rw [o (76 + s) 3 (by omega) (by omega)]; exact c.2.2.2.2
      · show J2 88 17 = _
        rw [v17, v7]
        congr 1
        apply Nat.eq_of_testBit_eq
        intro j
        have bj := rg_ef_bit J2 j (I 1 7).toNat
        have bi := rg_ef_bit I j (I 1 7).toNat
        rw [Nat.testBit_xor, Nat.testBit_two_pow]
        by_cases ej : en = j
        · subst ej
          have v := (e3 en (by omega)).2.2.2.2
          rw [v3] at bj
          by_cases z : I (76 + en) 3 = 0
          · have g1 : g = 1 := by omega
            have b1 : (rg_ef J2 (I 1 7).toNat).testBit en = true := bj.mpr ⟨by omega, by omega⟩
            have b2 : (rg_ef I (I 1 7).toNat).testBit en = false := by
              cases hb : (rg_ef I (I 1 7).toNat).testBit en with
              | false => rfl
              | true => exact absurd z (bi.mp hb).2
            rw [b1, b2]
            simp
          · have g0 : g = 0 := by omega
            have b2 : (rg_ef I (I 1 7).toNat).testBit en = true := bi.mpr ⟨by omega, z⟩
            have b1 : (rg_ef J2 (I 1 7).toNat).testBit en = false := by
              cases hb : (rg_ef J2 (I 1 7).toNat).testBit en with
              | false => rfl
              | true => exact absurd g0 (bj.mp hb).2
            rw [b1, b2]
            simp
        · have oj : J2 (76 + j) 3 = I (76 + j) 3 := o _ _ (by omega) (by omega)
          rw [oj] at bj
          have : (rg_ef J2 (I 1 7).toNat).testBit j = (rg_ef I (I 1 7).toNat).testBit j := by
            cases h1 : (rg_ef J2 (I 1 7).toNat).testBit j <;> cases h2 : (rg_ef I (I 1 7).toNat).testBit j
            · rfl
            · rw [bi] at h2; rw [bj.mpr h2] at h1; cases h1
            · rw [bj] at h1; rw [bi.mpr h1] at h2; cases h2
            · rfl
          rw [this]
          simp [ej]
