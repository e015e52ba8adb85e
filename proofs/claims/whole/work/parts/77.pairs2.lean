/-! ===== conflict and because ===== -/
theorem ci_fin1 {L : Nat} {xs : Nat → Int32} {I J : rs_M} (f : ∀ a j, (a < 9 ∨ 11 < a) → a ≠ 73 → a ≠ 74 → a ≠ 75 → a ≠ 102 → a ≠ 103 → a ≠ 104 → a ≠ 110 → (a = 88 → j ≠ 0 ∧ (j < 20 ∨ 26 < j)) → J a j = I a j) (h : ci L xs I) : ci L xs J := by
  obtain ⟨h0, ⟨n, hc⟩, hl, hs, hp⟩ := h
  have k : ∀ a j, (a < 9 ∨ 11 < a) → a ≠ 73 → a ≠ 74 → a ≠ 75 → a ≠ 102 → a ≠ 103 → a ≠ 104 → a ≠ 110 → a ≠ 88 → J a j = I a j := fun a j h1 h2 h3 h4 h5 h6 h7 h8 h9 => f a j h1 h2 h3 h4 h5 h6 h7 h8 (fun q => absurd q h9)
  have k8 : ∀ j, j ≠ 0 → (j < 20 ∨ 26 < j) → J 88 j = I 88 j := fun j h1 h2 => f 88 j (by omega) (by omega) (by omega) (by omega) (by omega) (by omega) (by omega) (by omega) (fun _ => ⟨h1, h2⟩)
  refine ⟨fun j => by rw [k 0 j (by omega) (by omega) (by omega) (by omega) (by omega) (by omega) (by omega) (by omega) (by omega)]; exact h0 j, ⟨n, c_cfg_fr (fun a j q => f a j q.1 (by have := q.2.1; omega) (by have := q.2.1; omega) (by have := q.2.1; omega) (by have := q.2.2.1; omega) (by have := q.2.2.1; omega) (by have := q.2.2.1; omega) (by have := q.2.2.1; omega) (fun g => by have := q.2.2.2.2 g; omega)) hc⟩, c_lat_fr (k _ _ (by omega) (by omega) (by omega) (by omega) (by omega) (by omega) (by omega) (by omega) (by omega)) (k8 _ (by omega) (by omega)) (fun j => k _ _ (by omega) (by omega) (by omega) (by omega) (by omega) (by omega) (by omega) (by omega) (by omega)) (fun j => k _ _ (by omega) (by omega) (by omega) (by omega) (by omega) (by omega) (by omega) (by omega) (by omega)) (fun j => k _ _ (by omega) (by omega) (by omega) (by omega) (by omega) (by omega) (by omega) (by omega) (by omega)) (fun j => k _ _ (by omega) (by omega) (by omega) (by omega) (by omega) (by omega) (by omega) (by omega) (by omega)) hl, c_set_fr (k _ _ (by omega) (by omega) (by omega) (by omega) (by omega) (by omega) (by omega) (by omega) (by omega)) (k8 _ (by omega) (by omega)) (fun j => k _ _ (by omega) (by omega) (by omega) (by omega) (by omega) (by omega) (by omega) (by omega) (by omega)) (fun j => k _ _ (by omega) (by omega) (by omega) (by omega) (by omega) (by omega) (by omega) (by omega) (by omega)) hs, c_stp_fr (k _ _ (by omega) (by omega) (by omega) (by omega) (by omega) (by omega) (by omega) (by omega) (by omega)) (k8 _ (by omega) (by omega)) hp⟩
theorem tr_12 {T : Nat → Prop} {f c : Nat} (hf : f < 2 ^ c) : ∀ k, tr_f T (c + k) f = tr_f T c f
  | 0 => rfl
  | k + 1 => by
    have : f < 2 ^ (c + k) := Nat.lt_of_lt_of_le hf (Nat.pow_le_pow_right (by omega) (by omega))
    rw [← Nat.add_assoc, tr_no (Nat.testBit_lt_two_pow this), tr_12 hf k]
theorem tr_12' {T : Nat → Prop} {f c : Nat} (hf : f < 2 ^ c) (hc : c ≤ 12) : tr_f T 12 f = tr_f T c f := by
  have := tr_12 (T := T) hf (12 - c)
  rw [show c + (12 - c) = 12 by omega] at this
  exact this
theorem tr_lt {T : Nat → Prop} : ∀ e k, e ≤ 12 → k < 4096 → tr_f T e k < 4096
  | 0, k, _, h => h
  | e + 1, k, he, h => by
    rw [tr_f]
    refine tr_lt e _ (by omega) ?_
    split
    · exact bt_xlt h (by omega)
    · exact h
theorem pr_conflict {L : Nat} {xs : Nat → Int32} {I : rs_M} {d : Nat} (hd : 100 ≤ d) (h : ci L xs I) : rs_pairP 43 99 [.inr (.inr 1)] [.inr (.inr 88)] (ci L xs) I d := by
  obtain ⟨h0, ⟨n, hc⟩, hl, hs, hp⟩ := id h
  have okc := ci_cl hc
  obtain ⟨hf, _⟩ := ci_f hc
  have e7 := hc.2.2.2.2.1.1
  have lt := rg_ef_lt I (I 1 7).toNat
  have mk : ∀ (J : rs_M), nt_fr 73 I J → ∀ a j, 88 ≤ a → a < 110 → J a j = I a j := fun J fJ a j h1 h2 => fJ a j (by omega) (by omega) (by omega) (by omega)
  have fin : ∀ J J2, nt_fr 73 I J → rm_fr 0 (rs_up J 88 0 0) J2 → ci L xs J2 := fun J J2 fJ f2 => ci_fin1 (fun a j p1 p2 p3 p4 p5 p6 p7 _ p9 => by
    rw [f2.1 a j p5 p6 p7 (fun q => (p9 q).2), rs_up_at, if_neg (fun q => (p9 q.1).1 q.2), fJ a j p2 p3 p4 p1]) h
  have eT : ∀ J, nt_fr 73 I J → mf_T J n = cf_T I n := fun J fJ => by
    obtain ⟨ok1, emo, eG, eS, eQ, e17⟩ := mo_keep (mk J fJ) hc
    funext m
    unfold mf_T cf_T
    rw [eG, eS, eQ, (emo m).1, (emo m).2]
    exact propext (ci_br hc)
  refine mk_P (by omega) (by omega) (ct_conflict (n := n) (by omega) okc (fun J fJ hT => ⟨fun j => fJ 0 j (by omega) (by omega) (by omega) (by omega), _, rfl, ?_⟩) (fun J fJ hT => ⟨fun j => fJ 0 j (by omega) (by omega) (by omega) (by omega), _, rfl, ?_⟩))
  · obtain ⟨ok1, emo, eG, eS, eQ, e17⟩ := mo_keep (mk J fJ) hc
    refine cm_conflict (by omega) hf e17 ok1 (fun J2 f2 _ => ⟨?_, fin J J2 fJ f2⟩) (fun J2 f2 nT => absurd (by rw [eT J fJ]; exact hT) nT)
    rw [eT J fJ, tr_12' lt (by omega)]
  · obtain ⟨ok1, emo, eG, eS, eQ, e17⟩ := mo_keep (mk J fJ) hc
    refine cm_conflict (by omega) hf e17 ok1 (fun J2 f2 q => absurd (by rw [← eT J fJ]; exact q) hT) (fun J2 f2 _ => ⟨rfl, fin J J2 fJ f2⟩)
theorem pr_because {L : Nat} {xs : Nat → Int32} {I : rs_M} {d : Nat} {c up : Int} (hd : 100 ≤ d) (h : ci L xs I) : rs_pairO 44 100 [.inr (.inr 1), .inl c, .inl up] [.inr (.inr 88), .inl c, .inl up] (ci L xs) I d := by
  obtain ⟨h0, ⟨n, hc⟩, hl, hs, hp⟩ := id h
  have okc := ci_cl hc
  obtain ⟨hf, e17I⟩ := ci_f hc
  have e7 := hc.2.2.2.2.1.1
  have lt := rg_ef_lt I (I 1 7).toNat
  have mk : ∀ (J : rs_M) (z : Int), nt_fr 73 I J → ∀ a j, 88 ≤ a → a < 110 → rs_up J 110 0 z a j = I a j := fun J z fJ a j h1 h2 => by rw [rs_up_at, if_neg (by omega), fJ a j (by omega) (by omega) (by omega) (by omega)]
  have fin : ∀ J J2 z, nt_fr 73 I J → rm_fr 0 (rs_up (rs_up J 110 0 z) 88 0 0) J2 → J2 110 0 = z ∧ J2 88 0 = 0 ∧ ci L xs J2 := fun J J2 z fJ f2 => ⟨by rw [f2.1 110 0 (by omega) (by omega) (by omega) (by omega), rs_up_at, if_neg (by omega), rs_up_at, if_pos ⟨rfl, rfl⟩], by rw [f2.1 88 0 (by omega) (by omega) (by omega) (by omega), rs_up_at, if_pos ⟨rfl, rfl⟩], ci_fin1 (fun a j p1 p2 p3 p4 p5 p6 p7 p8 p9 => by
    rw [f2.1 a j p5 p6 p7 (fun q => (p9 q).2), rs_up_at, if_neg (fun q => (p9 q.1).1 q.2), rs_up_at, if_neg (fun q => p8 q.1), fJ a j p2 p3 p4 p1]) h⟩
  refine mk_O (by omega) (by omega) (ct_because (n := n) (by omega) (by omega) okc (fun g => ⟨fun _ => rfl, Or.inr ⟨rfl, ?_⟩⟩) (fun g J a b fJ fx => ⟨fun j => fJ 0 j (by omega) (by omega) (by omega) (by omega), Or.inl ⟨_, rfl, ?_, ?_⟩⟩) (fun g J fJ bk => ⟨fun j => fJ 0 j (by omega) (by omega) (by omega) (by omega), Or.inl ⟨_, rfl, by unfold rs_R; omega, ?_⟩⟩))
  · refine cm_because (by omega) hf e17I (ci_mo hc) (fun _ => ⟨⟨_, rfl⟩, ?_, ci_up (Or.inl ⟨rfl, rfl⟩) (ci_up (Or.inl ⟨rfl, rfl⟩) h)⟩) (fun q => absurd q g) (fun q => absurd q g)
    rw [rs_up_at, if_pos ⟨rfl, rfl⟩]
  · have := tr_lt (T := bc_T I n c.toNat up (if up = 0 then a c.toNat else b c.toNat)) (I 1 7).toNat (rg_ef I (I 1 7).toNat) (by omega) hf
    unfold rs_R
    omega
  · obtain ⟨z, ez⟩ : ∃ z : Int, ((tr_f (bc_T I n c.toNat up (if up = 0 then a c.toNat else b c.toNat)) (I 1 7).toNat (rg_ef I (I 1 7).toNat) : Nat) : Int) = z := ⟨_, rfl⟩
    rw [ez]
    obtain ⟨ok1, emo, eG, eS, eQ, e17⟩ := mo_keep (mk J z fJ) hc
    refine cm_because (by omega) hf e17 ok1 (fun q => absurd g q) (fun _ J2 a' b' f2 fx2 => ⟨?_, fin J J2 _ fJ f2⟩) (fun _ J2 f2 br => ?_)
    · rw [eG, eS, eQ, (emo _).1, (emo _).2] at fx2
      have un := bx_fix_uni ((ci_fx hc).mp fx2) fx c.toNat (by omega)
      rw [un.1, un.2]
      have eT : mb_T (rs_up J 110 0 z) n c.toNat up (if up = 0 then a c.toNat else b c.toNat) = bc_T I n c.toNat up (if up = 0 then a c.toNat else b c.toNat) := by
        funext m
        unfold mb_T bc_T
        rw [eG, eS, eQ, (emo m).1, (emo m).2]
        exact propext ⟨fun ⟨p, q, r, e⟩ => ⟨p, q, (ci_fx hc).mp r, e⟩, fun ⟨p, q, r, e⟩ => ⟨p, q, (ci_fx hc).mpr r, e⟩⟩
      rw [eT, tr_12' lt (by omega), ez]
    · rw [eG, eS, eQ, (emo _).1, (emo _).2] at br
      exact absurd ((ci_br hc).mp br) (fun q => bx_fix_brk fx q)
  · obtain ⟨ok1, emo, eG, eS, eQ, e17⟩ := mo_keep (mk J (-1000) fJ) hc
    refine cm_because (by omega) hf e17 ok1 (fun q => absurd g q) (fun _ J2 a b f2 fx => ?_) (fun _ J2 f2 br => ⟨rfl, fin J J2 _ fJ f2⟩)
    rw [eG, eS, eQ, (emo _).1, (emo _).2] at fx
    exact absurd bk (fun q => bx_fix_brk ((ci_fx hc).mp fx) q)
