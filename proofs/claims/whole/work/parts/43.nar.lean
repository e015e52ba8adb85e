/-! ===== what a narrowing of the class has done ===== -/
def rg_nar (q : Nat) (S : Nat → Prop) (Q : (Nat → Int) → Prop) (I J : rs_M) : Prop := (∀ a j, a ≠ q → a ≠ q + 1 → a ≠ q + 2 → (a < 9 ∨ 11 < a) → J a j = I a j) ∧ (∃ m' : Nat, m' < 1024 ∧ J q 2 = (m' : Int)) ∧ ((J q 3 = 1 ∧ bx_no S Q (I (q + 1)) (I (q + 2))) ∨ (J q 3 = 0 ∧ (∀ j, I (q + 1) j ≤ J (q + 1) j ∧ J (q + 2) j ≤ I (q + 2) j) ∧ (∀ j, ¬ rg_sm q I J j → J (q + 1) j ≤ J (q + 2) j) ∧ (∀ j, ¬ S j → rg_sm q I J j) ∧ (∃ m' : Nat, m' < 1024 ∧ J q 2 = (m' : Int) ∧ ∀ j, m'.testBit j = true ↔ ¬ rg_sm q I J j) ∧ bx_snd S Q (I (q + 1)) (I (q + 2)) (J (q + 1)) (J (q + 2)) ∧ bx_sup S Q (J (q + 1)) (J (q + 2))))
theorem rg_nar_of {q : Nat} {S : Nat → Prop} {Q : (Nat → Int) → Prop} {I J : rs_M} (h2 : I q 2 = 0) (h3 : I q 3 = 0) (ht : rg_tr q I J) (ho : ∀ j, ¬ S j → rg_sm q I J j) (hok : ∀ j, S j → I (q + 1) j ≤ I (q + 2) j) (hs : bx_snd S Q (I (q + 1)) (I (q + 2)) (J (q + 1)) (J (q + 2))) (hp : J q 3 = 0 → (∀ j, S j → J (q + 1) j ≤ J (q + 2) j) → bx_sup S Q (J (q + 1)) (J (q + 2))) : rg_nar q S Q I J := by
  obtain ⟨t1, t2, t3, t4, t5, t6⟩ := ht
  obtain ⟨m', m1, m2, m3⟩ := t4 0 (by omega) h2
  refine ⟨t1, ⟨m', m1, m2⟩, ?_⟩
  rcases t6 h3 with ⟨a, b⟩ | ⟨a, j, b, c⟩
  · skip
    refine Or.inr ⟨a, t2, b, ho, ⟨m', m1, m2, fun j => ?_⟩, hs, hp a (fun j hj => ?_)⟩
    · rw [m3 j]
      exact ⟨fun g => g.resolve_left (by simp), Or.inr⟩
    · by_cases g : rg_sm q I J j
      · have := hok j hj
        unfold rg_sm at g
        omega
      · exact b j g
  · refine Or.inl ⟨a, fun x hx hQ => ?_⟩
    have hj : S j := Classical.byContradiction fun n => b (ho j n)
    have := hs x hx hQ j hj
    omega
/-- explicitly broken -/
theorem rg_nar_no {q : Nat} {S : Nat → Prop} {Q : (Nat → Int) → Prop} {I J : rs_M} (ht : ∀ a j, a ≠ q → a ≠ q + 1 → a ≠ q + 2 → (a < 9 ∨ 11 < a) → J a j = I a j) (h2 : J q 2 = 0) (hb : J q 3 = 1) (hn : bx_no S Q (I (q + 1)) (I (q + 2))) : rg_nar q S Q I J := ⟨ht, ⟨0, by omega, h2⟩, Or.inl ⟨hb, hn⟩⟩
theorem rg_nar_eq {q : Nat} {S S' : Nat → Prop} {Q Q' : (Nat → Int) → Prop} {I J : rs_M} (h : rg_nar q S Q I J) (e1 : S = S') (e2 : Q = Q') : rg_nar q S' Q' I J := by rw [← e1, ← e2]; exact h
theorem rg_r3_tr {I : rs_M} {q : Nat} {k a b c : Int} (ha : 0 ≤ a ∧ a < 10) (hb : 0 ≤ b ∧ b < 10) (hc : 0 ≤ c ∧ c < 10) : rg_tr q I (rg_r3 I q k a b c) := rg_tr_tr (rg_tr_tr (rg_tr_keep ha) (rg_tr_keep hb)) (rg_tr_keep hc)
theorem rg_r3_nar {I : rs_M} {q : Nat} {k a b c : Int} (h2 : I q 2 = 0) (h3 : I q 3 = 0) (hk : k = 0 ∨ k = 3 ∨ k = 4) (ha : 0 ≤ a ∧ a < 10) (hb : 0 ≤ b ∧ b < 10) (hc : 0 ≤ c ∧ c < 10) (hab : a ≠ b) (hac : a ≠ c) (hbc : b ≠ c) (ba : -100 ≤ I (q + 1) a.toNat ∧ I (q + 1) a.toNat ≤ I (q + 2) a.toNat ∧ I (q + 2) a.toNat ≤ 100) (bb : -100 ≤ I (q + 1) b.toNat ∧ I (q + 1) b.toNat ≤ I (q + 2) b.toNat ∧ I (q + 2) b.toNat ≤ 100) (bc : -100 ≤ I (q + 1) c.toNat ∧ I (q + 1) c.toNat ≤ I (q + 2) c.toNat ∧ I (q + 2) c.toNat ≤ 100) : rg_nar q (bx_3 a.toNat b.toNat c.toNat) (fun x => bx_f k (x a.toNat) (x b.toNat) (x c.toNat)) I (rg_r3 I q k a b c) := by
  have nab : ¬ a.toNat = b.toNat := by omega
  have nac : ¬ a.toNat = c.toNat := by omega
  have nbc : ¬ b.toNat = c.toNat := by omega
  have nba : ¬ b.toNat = a.toNat := by omega
  have nca : ¬ c.toNat = a.toNat := by omega
  have ncb : ¬ c.toNat = b.toNat := by omega
  have a1 : rg_r1 I q k a b c (q + 1) a.toNat = max (I (q + 1) a.toNat) (rg_lf k (I (q + 2) b.toNat) (I (q + 1) c.toNat) (I (q + 2) c.toNat)) := by unfold rg_r1; rw [rg_keep_lo, if_pos rfl]
  have a2 : rg_r1 I q k a b c (q + 2) a.toNat = min (I (q + 2) a.toNat) (rg_mf k (I (q + 1) b.toNat) (I (q + 1) c.toNat) (I (q + 2) c.toNat)) := by unfold rg_r1; rw [rg_keep_hi, if_pos rfl]
  have a3 : rg_r2 I q k a b c (q + 1) a.toNat = rg_r1 I q k a b c (q + 1) a.toNat := by unfold rg_r2; rw [rg_keep_lo, if_neg nab]
  have a4 : rg_r2 I q k a b c (q + 2) a.toNat = rg_r1 I q k a b c (q + 2) a.toNat := by unfold rg_r2; rw [rg_keep_hi, if_neg nab]
  have a5 : rg_r3 I q k a b c (q + 1) a.toNat = rg_r1 I q k a b c (q + 1) a.toNat := by unfold rg_r3; rw [rg_keep_lo, if_neg nac, a3]
  have a6 : rg_r3 I q k a b c (q + 2) a.toNat = rg_r1 I q k a b c (q + 2) a.toNat := by unfold rg_r3; rw [rg_keep_hi, if_neg nac, a4]
  have b1 : rg_r2 I q k a b c (q + 1) b.toNat = max (I (q + 1) b.toNat) (rg_lf k (rg_r1 I q k a b c (q + 2) a.toNat) (I (q + 1) c.toNat) (I (q + 2) c.toNat)) := by
    unfold rg_r2; rw [rg_keep_lo, if_pos rfl]
    rw [show rg_r1 I q k a b c (q + 1) b.toNat = I (q + 1) b.toNat by unfold rg_r1; rw [rg_keep_lo, if_neg nba]]
  have b2 : rg_r2 I q k a b c (q + 2) b.toNat = min (I (q + 2) b.toNat) (rg_mf k (rg_r1 I q k a b c (q + 1) a.toNat) (I (q + 1) c.toNat) (I (q + 2) c.toNat)) := by
    unfold rg_r2; rw [rg_keep_hi, if_pos rfl]
    rw [show rg_r1 I q k a b c (q + 2) b.toNat = I (q + 2) b.toNat by unfold rg_r1; rw [rg_keep_hi, if_neg nba]]
  have b3 : rg_r3 I q k a b c (q + 1) b.toNat = rg_r2 I q k a b c (q + 1) b.toNat := by unfold rg_r3; rw [rg_keep_lo, if_neg nbc]
  have b4 : rg_r3 I q k a b c (q + 2) b.toNat = rg_r2 I q k a b c (q + 2) b.toNat := by unfold rg_r3; rw [rg_keep_hi, if_neg nbc]
  have c1 : rg_r3 I q k a b c (q + 1) c.toNat = max (I (q + 1) c.toNat) (rg_res k (rg_r1 I q k a b c (q + 1) a.toNat) (rg_r2 I q k a b c (q + 1) b.toNat)) := by
    unfold rg_r3; rw [rg_keep_lo, if_pos rfl, a3]
    rw [show rg_r2 I q k a b c (q + 1) c.toNat = I (q + 1) c.toNat by unfold rg_r2; rw [rg_keep_lo, if_neg ncb]; unfold rg_r1; rw [rg_keep_lo, if_neg nca]]
  have c2 : rg_r3 I q k a b c (q + 2) c.toNat = min (I (q + 2) c.toNat) (rg_res k (rg_r1 I q k a b c (q + 2) a.toNat) (rg_r2 I q k a b c (q + 2) b.toNat)) := by
    unfold rg_r3; rw [rg_keep_hi, if_pos rfl, a4]
    rw [show rg_r2 I q k a b c (q + 2) c.toNat = I (q + 2) c.toNat by unfold rg_r2; rw [rg_keep_hi, if_neg ncb]; unfold rg_r1; rw [rg_keep_hi, if_neg nca]]
  refine rg_nar_of h2 h3 (rg_r3_tr ha hb hc) (fun j hj => ?_) (fun j hj => ?_) (bx_snd3 fun x y z hx => ?_) (fun _ hv => ?_)
  · have e1 : ¬ j = a.toNat := fun e => hj (Or.inl e)
    have e2 : ¬ j = b.toNat := fun e => hj (Or.inr (Or.inl e))
    have e3 : ¬ j = c.toNat := fun e => hj (Or.inr (Or.inr e))
    unfold rg_sm rg_r3
    rw [rg_keep_lo, rg_keep_hi, if_neg e3, if_neg e3]
    unfold rg_r2
    rw [rg_keep_lo, rg_keep_hi, if_neg e2, if_neg e2]
    unfold rg_r1
    rw [rg_keep_lo, rg_keep_hi, if_neg e1, if_neg e1]
    exact ⟨rfl, rfl⟩
  · rcases hj with e | e | e
    · rw [e]; exact ba.2.1
    · rw [e]; exact bb.2.1
    · rw [e]; exact bc.2.1
  · rw [a5, a6, b3, b4]
    exact ri_snd hk ⟨ba.1, ba.2.2⟩ ⟨bb.1, bb.2.2⟩ ⟨bc.1, bc.2.2⟩ a1 a2 b1 b2 c1 c2 hx.1 hx.2.1 hx.2.2.1 hx.2.2.2.2.2.2
  · have va := hv _ (Or.inl rfl)
    have vb := hv _ (Or.inr (Or.inl rfl))
    have vc := hv _ (Or.inr (Or.inr rfl))
    rw [a5, a6] at va
    rw [b3, b4] at vb
    obtain ⟨r1, r2, r3⟩ := ri_sup hk ba bb bc a1 a2 b1 b2 c1 c2 va vb vc
    refine bx_sup3d nab nac nbc (by rw [a5, a6]; exact va) (by rw [b3, b4]; exact vb) vc ?_ ?_ ?_
    · rw [a5, a6, b3, b4]; exact r1
    · rw [a5, a6, b3, b4]; exact r2
    · rw [a5, a6, b3, b4]; exact r3
