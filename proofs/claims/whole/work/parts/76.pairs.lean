/-! ===== pairs of calls that leave the configuration ===== -/
theorem pr_low {L : Nat} {xs : Nat → Int32} {I : rs_M} {d : Nat} {a : Int} (hd : 100 ≤ d) (h : ci L xs I) : rs_pairP 41 97 [.inr (.inr 1), .inl a] [.inr (.inr 88), .inl a] (ci L xs) I d := by
  have hu := ci_up (a := 88) (k := 0) (v := 0) (Or.inl ⟨rfl, rfl⟩) h
  obtain ⟨l1, l2, l3⟩ := h.2.2.1
  refine mk_P (by omega) (by omega) (ct_low (by omega) (fun g => ⟨fun _ => rfl, _, rfl, ?_⟩) (fun g => ⟨fun _ => rfl, _, rfl, ?_⟩))
  · exact cm_low (by omega) (by omega) (fun q => ⟨rfl, hu⟩) (fun q => absurd (by omega) g)
  · refine cm_low (by omega) (by omega) (fun q => absurd (by omega) q) (fun q => ⟨?_, hu⟩)
    rw [(l3 a.toNat (by omega)).1]
theorem pr_high {L : Nat} {xs : Nat → Int32} {I : rs_M} {d : Nat} {a : Int} (hd : 100 ≤ d) (h : ci L xs I) : rs_pairP 42 98 [.inr (.inr 1), .inl a] [.inr (.inr 88), .inl a] (ci L xs) I d := by
  have hu := ci_up (a := 88) (k := 0) (v := 0) (Or.inl ⟨rfl, rfl⟩) h
  obtain ⟨l1, l2, l3⟩ := h.2.2.1
  refine mk_P (by omega) (by omega) (ct_high (by omega) (fun g => ⟨fun _ => rfl, _, rfl, ?_⟩) (fun g => ⟨fun _ => rfl, _, rfl, ?_⟩))
  · exact cm_high (by omega) (by omega) (fun q => ⟨rfl, hu⟩) (fun q => absurd (by omega) g)
  · refine cm_high (by omega) (by omega) (fun q => absurd (by omega) q) (fun q => ⟨?_, hu⟩)
    rw [(l3 a.toNat (by omega)).2]
theorem pr_steps {L : Nat} {xs : Nat → Int32} {I : rs_M} {d : Nat} (h : ci L xs I) : rs_pairP 48 109 [.inr (.inr 1)] [.inr (.inr 88)] (ci L xs) I d := by
  have hu := ci_up (a := 88) (k := 0) (v := 0) (Or.inl ⟨rfl, rfl⟩) h
  have hp : I 88 31 = I 33 3 := h.2.2.2.2
  refine mk_P (by omega) (by omega) (ct_steps ⟨fun _ => rfl, _, rfl, ?_⟩)
  exact cm_steps ⟨by rw [hp], hu⟩
theorem pr_value {L : Nat} {xs : Nat → Int32} {I : rs_M} {d : Nat} {a : Int} (hd : 100 ≤ d) (h : ci L xs I) : rs_pairP 49 110 [.inr (.inr 1), .inl a] [.inr (.inr 88), .inl a] (ci L xs) I d := by
  have hu := ci_up (a := 88) (k := 0) (v := 0) (Or.inl ⟨rfl, rfl⟩) h
  obtain ⟨sc, s1, s2, s3, s4⟩ := h.2.2.2.1
  refine mk_P (by omega) (by omega) (ct_value (by omega) (fun g => ⟨fun _ => rfl, _, rfl, ?_⟩) (fun g => ⟨fun _ => rfl, _, rfl, ?_⟩))
  · exact cm_value (by omega) (by omega) (fun q => ⟨rfl, hu⟩) (fun q => absurd (by omega) g)
  · refine cm_value (by omega) (by omega) (fun q => absurd (by omega) q) (fun q => ⟨?_, hu⟩)
    rw [(s4 a.toNat (by omega)).1]
theorem pr_satisfied {L : Nat} {xs : Nat → Int32} {I : rs_M} {d : Nat} {a : Int} (hd : 100 ≤ d) (h : ci L xs I) : rs_pairP 50 113 [.inr (.inr 1), .inl a] [.inr (.inr 88), .inl a] (ci L xs) I d := by
  have hu := ci_up (a := 88) (k := 0) (v := 0) (Or.inl ⟨rfl, rfl⟩) h
  obtain ⟨_, ⟨n, hc⟩, _, ⟨sc, s1, s2, s3, s4⟩, _⟩ := id h
  have okc := ci_cl hc
  have okm := ci_mo hc
  have r2 := hc.2.2.1.2.1
  have r3 := hc.2.2.1.2.2
  have e : sm_ans I sc a ↔ st_ans I sc a := by
    unfold sm_ans st_ans
    rw [r2]
    refine and_congr_right fun g => ?_
    obtain ⟨p1, p2, p3, p4, p5, _⟩ := r3 a.toNat (by omega)
    have eS : mt_S I a.toNat = nt_S I a.toNat := by unfold mt_S nt_S; rw [p2, p3, p4, p5]
    rw [eS]
    refine and_congr_right fun al => ?_
    obtain ⟨mm, _, _, m3, m4, _, _⟩ := nt_mask okc.1.1 p1
    have loc : ∀ j, nt_S I a.toNat j → I 107 j = I 35 j := fun j hj => (s4 j (al j hj)).1
    unfold mt_Q nt_Q
    rw [p2, p3, p4, p5]
    unfold nt_S at loc
    rcases p1.2 with q | q | q | q
    · obtain ⟨k, _⟩ := q
      rw [k] at loc ⊢
      rw [bx_Q7, bx_Q7]
      rw [bx_S7] at loc
      constructor
      · intro df i j hi hj mi mj e
        exact df i j hi hj mi mj (by rw [loc i ⟨hi, mi⟩, loc j ⟨hj, mj⟩]; exact e)
      · intro df i j hi hj mi mj e
        exact df i j hi hj mi mj (by rw [← loc i ⟨hi, mi⟩, ← loc j ⟨hj, mj⟩]; exact e)
    · obtain ⟨k, _⟩ := q
      rw [k] at loc ⊢
      rw [bx_Q5, bx_Q5]
      rw [bx_S5] at loc
      show I 107 _ + _ ≤ I 107 _ ↔ I 35 _ + _ ≤ I 35 _
      rw [loc _ (Or.inl rfl), loc _ (Or.inr (Or.inl rfl))]
    · obtain ⟨k, _, _, kc⟩ := q
      rw [k] at loc ⊢
      rw [bx_Q8, bx_Q8]
      rw [bx_S8] at loc
      show mt_T I _ (I 107 _) (I 107 _) ↔ nt_T I _ (I 35 _) (I 35 _)
      rw [loc _ (Or.inl rfl), loc _ (Or.inr (Or.inl rfl))]
      have := ci_T hc.2.2.2.1 (t := (I (12 + a.toNat) 3).toNat) (by omega) (I 35 (I (12 + a.toNat) 1).toNat) (I 35 (I (12 + a.toNat) 2).toNat)
      rw [show (((I (12 + a.toNat) 3).toNat : Nat) : Int) = I (12 + a.toNat) 3 by omega] at this
      exact this
    · obtain ⟨k, _⟩ := q
      rw [bx_Q3 k, bx_Q3 k]
      rw [bx_S3 k] at loc
      show bx_f _ (I 107 _) (I 107 _) (I 107 _) ↔ bx_f _ (I 35 _) (I 35 _) (I 35 _)
      rw [loc _ (Or.inl rfl), loc _ (Or.inr (Or.inl rfl)), loc _ (Or.inr (Or.inr rfl))]
  have hv35 : ∀ j, j < sc → -100 ≤ I 35 j ∧ I 35 j ≤ 100 := fun j hj => (s4 j hj).2
  have hv107 : ∀ j, j < sc → -100 ≤ I 107 j ∧ I 107 j ≤ 100 := fun j hj => by rw [(s4 j hj).1]; exact (s4 j hj).2
  refine mk_P (by omega) (by omega) (ct_satisfied (by omega) okc.1 s2 s1 hv35 (fun g => ⟨fun _ => rfl, _, rfl, ?_⟩) (fun g => ⟨fun _ => rfl, _, rfl, ?_⟩))
  · exact cm_satisfied (by omega) okm.1 s3 s1 hv107 (fun q => ⟨rfl, hu⟩) (fun q => absurd (e.mpr g) q)
  · exact cm_satisfied (by omega) okm.1 s3 s1 hv107 (fun q => absurd (e.mp q) g) (fun q => ⟨rfl, hu⟩)
/-- what a call of the class that leaves the configuration keeps for the reference -/
theorem mo_keep {I J : rs_M} {n : Nat} (f : ∀ a j, 88 ≤ a → a < 110 → J a j = I a j) (h : c_cfg I n) : mo_ok J n ∧ (∀ m, mo_lo J m = mo_lo I m ∧ mo_hi J m = mo_hi I m) ∧ mt_G J = mt_G I ∧ mt_S J = mt_S I ∧ mt_Q J = mt_Q I ∧ J 88 17 = ((rg_ef I (I 1 7).toNat : Nat) : Int) := by
  have g : ∀ a, 88 < a → a < 102 → J a = I a := fun a h1 h2 => funext fun j => f a j (by omega) (by omega)
  have okm := ci_mo h
  obtain ⟨net, e1, e13, en, fi⟩ := okm
  have j1 : J 88 1 = I 88 1 := f _ _ (by omega) (by omega)
  have j4 : J 88 4 = I 88 4 := f _ _ (by omega) (by omega)
  have j13 : J 88 13 = I 88 13 := f _ _ (by omega) (by omega)
  obtain ⟨netJ, eG, eS, eQ⟩ := mt_eq2 (I := I) (J := J) (fun a j p1 p2 => f a j (by omega) (by omega)) j4 net
  refine ⟨⟨netJ, by rw [j1]; exact e1, by rw [j13]; exact e13, fun e he => ?_, fun j hj => by rw [g 89 (by omega) (by omega), g 90 (by omega) (by omega)]; exact fi j hj⟩, fun m => ?_, eG, eS, eQ, by rw [f 88 17 (by omega) (by omega)]; exact (ci_f h).2⟩
  · rw [j13] at he
    rw [g 99 (by omega) (by omega), g 100 (by omega) (by omega), g 101 (by omega) (by omega)]
    exact en e he
  · unfold mo_lo mo_hi
    rw [g 89 (by omega) (by omega), g 90 (by omega) (by omega), g 99 (by omega) (by omega), g 100 (by omega) (by omega), g 101 (by omega) (by omega), j13]
    exact ⟨rfl, rfl⟩
theorem pr_narrow {L : Nat} {xs : Nat → Int32} {I : rs_M} {d : Nat} (hd : 100 ≤ d) (h : ci L xs I) : rs_pairP 40 96 [.inr (.inr 1)] [.inr (.inr 88)] (ci L xs) I d := by
  obtain ⟨h0, ⟨n, hc⟩, hl, hs, hp⟩ := id h
  have okc := ci_cl hc
  obtain ⟨hf, _⟩ := ci_f hc
  have hn := hc.1.1
  -- the end state
  have fin : ∀ (J J2 : rs_M) (v : Int), nt_fr 70 I J → (∀ a j, a ≠ 102 → a ≠ 103 → a ≠ 104 → a ≠ 105 → a ≠ 106 → (a = 88 → j ≠ 0 ∧ (j < 20 ∨ 26 < j) ∧ j ≠ 28) → J2 a j = rs_up J 1 8 v a j) → c_lat J2 → ci L xs J2 := fun J J2 v fJ f2 lat => by
    have k : ∀ a j, a ≠ 70 → a ≠ 71 → a ≠ 72 → (a < 9 ∨ 11 < a) → a ≠ 102 → a ≠ 103 → a ≠ 104 → a ≠ 105 → a ≠ 106 → (a = 88 → j ≠ 0 ∧ (j < 20 ∨ 26 < j) ∧ j ≠ 28) → (a = 1 → j ≠ 8) → J2 a j = I a j := fun a j p1 p2 p3 p4 p5 p6 p7 p8 p9 p10 p11 => by
      rw [f2 a j p5 p6 p7 p8 p9 p10, rs_up_at, if_neg (fun q => p11 q.1 q.2), fJ a j p1 p2 p3 p4]
    refine ⟨fun j => by rw [k 0 j (by omega) (by omega) (by omega) (by omega) (by omega) (by omega) (by omega) (by omega) (by omega) (by omega) (by omega)]; exact h0 j, ⟨n, c_cfg_fr (fun a j q => k a j (by have := q.2.1; omega) (by have := q.2.1; omega) (by have := q.2.1; omega) q.1 (by have := q.2.2.1; omega) (by have := q.2.2.1; omega) (by have := q.2.2.1; omega) (by have := q.2.2.1; omega) (by have := q.2.2.1; omega) (fun g => by have := q.2.2.2.2 g; omega) q.2.2.2.1) hc⟩, lat, c_set_fr (k _ _ (by omega) (by omega) (by omega) (by omega) (by omega) (by omega) (by omega) (by omega) (by omega) (by omega) (by omega)) (k _ _ (by omega) (by omega) (by omega) (by omega) (by omega) (by omega) (by omega) (by omega) (by omega) (by omega) (by omega)) (fun j => k _ _ (by omega) (by omega) (by omega) (by omega) (by omega) (by omega) (by omega) (by omega) (by omega) (by omega) (by omega)) (fun j => k _ _ (by omega) (by omega) (by omega) (by omega) (by omega) (by omega) (by omega) (by omega) (by omega) (by omega) (by omega)) hs, c_stp_fr (k _ _ (by omega) (by omega) (by omega) (by omega) (by omega) (by omega) (by omega) (by omega) (by omega) (by omega) (by omega)) (k _ _ (by omega) (by omega) (by omega) (by omega) (by omega) (by omega) (by omega) (by omega) (by omega) (by omega) (by omega)) hp⟩
  have s0 : ∀ (J : rs_M) (v : Int), nt_fr 70 I J → ∀ j, rs_up J 1 8 v 0 j = I 0 j := fun J v fJ j => by rw [rs_up_at, if_neg (by omega), fJ 0 j (by omega) (by omega) (by omega) (by omega)]
  have mk : ∀ (J : rs_M) (v : Int), nt_fr 70 I J → ∀ a j, 88 ≤ a → a < 110 → rs_up J 1 8 v a j = I a j := fun J v fJ a j h1 h2 => by rw [rs_up_at, if_neg (by omega), fJ a j (by omega) (by omega) (by omega) (by omega)]
  refine mk_P (by omega) (by omega) (ct_narrow (n := n) (by omega) okc (fun J hJ hb => ⟨s0 J _ hJ.1, _, rfl, ?_⟩) (fun J hJ hb => ⟨s0 J _ hJ.1, _, rfl, ?_⟩))
  · obtain ⟨_, fx, bok⟩ := hJ.2.resolve_left (fun g => by omega)
    obtain ⟨ok1, emo, eG, eS, eQ, e17⟩ := mo_keep (mk J (n : Int) hJ.1) hc
    refine cm_narrow (by omega) hf e17 ok1 (fun J2 f2 t2 l2 fx2 => ⟨rfl, fin J J2 _ hJ.1 f2 ?_⟩) (fun J2 f2 t2 l2 br => ?_)
    · rw [eG, eS, eQ, (emo _).1, (emo _).2] at fx2
      have un := bx_fix_uni ((ci_fx hc).mp fx2) fx
      have a18 : J2 1 8 = (n : Int) := by rw [f2 1 8 (by omega) (by omega) (by omega) (by omega) (by omega) (by omega), rs_up_at, if_pos ⟨rfl, rfl⟩]
      refine ⟨by rw [a18]; omega, by rw [a18, l2], fun k hk => ?_⟩
      rw [a18, Int.toNat_natCast] at hk
      have u := un k hk
      rw [f2 71 k (by omega) (by omega) (by omega) (by omega) (by omega) (by omega), f2 72 k (by omega) (by omega) (by omega) (by omega) (by omega) (by omega), rs_up_at, if_neg (by omega), rs_up_at, if_neg (by omega)]
      exact u
    · rw [eG, eS, eQ, (emo _).1, (emo _).2] at br
      exact absurd ((ci_br hc).mp br) (fun q => bx_fix_brk fx q)
  · obtain ⟨_, bk⟩ := hJ.2.resolve_right (fun g => by omega)
    obtain ⟨ok1, emo, eG, eS, eQ, e17⟩ := mo_keep (mk J 0 hJ.1) hc
    refine cm_narrow (by omega) hf e17 ok1 (fun J2 f2 t2 l2 fx2 => ?_) (fun J2 f2 t2 l2 br => ⟨rfl, fin J J2 _ hJ.1 f2 ?_⟩)
    · rw [eG, eS, eQ, (emo _).1, (emo _).2] at fx2
      exact absurd bk (fun q => bx_fix_brk ((ci_fx hc).mp fx2) q)
    · have a18 : J2 1 8 = 0 := by rw [f2 1 8 (by omega) (by omega) (by omega) (by omega) (by omega) (by omega), rs_up_at, if_pos ⟨rfl, rfl⟩]
      refine ⟨by rw [a18]; omega, by rw [a18, l2], fun k hk => ?_⟩
      rw [a18] at hk
      omega
