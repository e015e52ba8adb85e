/-! ===== what raising and lowering bounds does to the ranges q ===== -/
theorem rg_raise_lo {I : rs_M} {q : Nat} {c v : Int} (j : Nat) : rg_raise I q c v (q + 1) j = if j = c.toNat then max (I (q + 1) j) v else I (q + 1) j := by
  unfold rg_raise
  by_cases h : v ≤ I (q + 1) c.toNat
  · rw [if_pos h]
    split
    · rename_i e; subst e; omega
    · rfl
  · rw [if_neg h]
    simp only [rs_up_at, Nat.add_eq_left, Nat.reduceEqDiff, false_and, and_false, ↓reduceIte, true_and]
    split
    · rename_i e; subst e; omega
    · rfl
theorem rg_raise_hi {I : rs_M} {q : Nat} {c v : Int} (j : Nat) : rg_raise I q c v (q + 2) j = I (q + 2) j := by
  unfold rg_raise
  split
  · rfl
  · simp [rs_up_at]
theorem rg_lower_hi {I : rs_M} {q : Nat} {c v : Int} (j : Nat) : rg_lower I q c v (q + 2) j = if j = c.toNat then min (I (q + 2) j) v else I (q + 2) j := by
  unfold rg_lower
  by_cases h : I (q + 2) c.toNat ≤ v
  · rw [if_pos h]
    split
    · rename_i e; subst e; omega
    · rfl
  · rw [if_neg h]
    simp only [rs_up_at, Nat.add_eq_left, Nat.reduceEqDiff, false_and, and_false, ↓reduceIte, true_and]
    split
    · rename_i e; subst e; omega
    · rfl
theorem rg_lower_lo {I : rs_M} {q : Nat} {c v : Int} (j : Nat) : rg_lower I q c v (q + 1) j = I (q + 1) j := by
  unfold rg_lower
  split
  · rfl
  · simp [rs_up_at]
theorem rg_keep_lo {I : rs_M} {q : Nat} {c v w : Int} (j : Nat) : rg_keep I q c v w (q + 1) j = if j = c.toNat then max (I (q + 1) j) v else I (q + 1) j := by
  unfold rg_keep
  rw [rg_lower_lo, rg_raise_lo]
theorem rg_keep_hi {I : rs_M} {q : Nat} {c v w : Int} (j : Nat) : rg_keep I q c v w (q + 2) j = if j = c.toNat then min (I (q + 2) j) w else I (q + 2) j := by
  unfold rg_keep
  rw [rg_lower_hi, rg_raise_hi]
/-- the cell's range is as it was -/
def rg_sm (q : Nat) (I J : rs_M) (j : Nat) : Prop := J (q + 1) j = I (q + 1) j ∧ J (q + 2) j = I (q + 2) j
/-- a step of the ranges q: bounds move inwards; which cells changed stands in the bits; broken is told just where a changed range is empty -/
def rg_tr (q : Nat) (I J : rs_M) : Prop := (∀ a j, a ≠ q → a ≠ q + 1 → a ≠ q + 2 → (a < 9 ∨ 11 < a) → J a j = I a j) ∧ (∀ j, I (q + 1) j ≤ J (q + 1) j ∧ J (q + 2) j ≤ I (q + 2) j) ∧ (∀ j, 10 ≤ j → rg_sm q I J j) ∧ (∀ m : Nat, m < 1024 → I q 2 = (m : Int) → ∃ m' : Nat, m' < 1024 ∧ J q 2 = (m' : Int) ∧ ∀ j, m'.testBit j = true ↔ (m.testBit j = true ∨ ¬ rg_sm q I J j)) ∧ (I q 3 = 1 → J q 3 = 1) ∧ (I q 3 = 0 → (J q 3 = 0 ∧ ∀ j, ¬ rg_sm q I J j → J (q + 1) j ≤ J (q + 2) j) ∨ (J q 3 = 1 ∧ ∃ j, ¬ rg_sm q I J j ∧ J (q + 2) j < J (q + 1) j))
theorem rg_tr_rf {q : Nat} {I : rs_M} : rg_tr q I I := ⟨fun _ _ _ _ _ _ => rfl, fun _ => ⟨Int.le_refl _, Int.le_refl _⟩, fun _ _ => ⟨rfl, rfl⟩, fun m hm h => ⟨m, hm, h, fun j => ⟨Or.inl, fun g => g.resolve_right (fun n => n ⟨rfl, rfl⟩)⟩⟩, fun h => h, fun h => Or.inl ⟨h, fun j n => absurd ⟨rfl, rfl⟩ n⟩⟩
theorem rg_tr_tr {q : Nat} {I J L : rs_M} (h : rg_tr q I J) (g : rg_tr q J L) : rg_tr q I L := by
  obtain ⟨h1, h2, h3, h4, h5, h6⟩ := h
  obtain ⟨g1, g2, g3, g4, g5, g6⟩ := g
  have hs : ∀ j, ¬ rg_sm q I L j ↔ (¬ rg_sm q I J j ∨ ¬ rg_sm q J L j) := fun j => by
    unfold rg_sm
    have := h2 j
    have := g2 j
    omega
  refine ⟨fun a j p1 p2 p3 p4 => (g1 a j p1 p2 p3 p4).trans (h1 a j p1 p2 p3 p4), fun j => ?_, fun j hj => ?_, fun m hm e => ?_, fun e => g5 (h5 e), fun e => ?_⟩
  · have := h2 j
    have := g2 j
    omega
  · exact ⟨(g3 j hj).1.trans (h3 j hj).1, (g3 j hj).2.trans (h3 j hj).2⟩
  · obtain ⟨m1, p1, p2, p3⟩ := h4 m hm e
    obtain ⟨m2, q1, q2, q3⟩ := g4 m1 p1 p2
    refine ⟨m2, q1, q2, fun j => ?_⟩
    rw [q3 j, p3 j, hs j, or_assoc]
  · rcases h6 e with ⟨a, b⟩ | ⟨a, j, b, c⟩
    · rcases g6 a with ⟨a', b'⟩ | ⟨a', j, b', c'⟩
      · refine Or.inl ⟨a', fun j n => ?_⟩
        by_cases n' : rg_sm q J L j
        · have := b j (((hs j).mp n).resolve_right (fun k => k n'))
          unfold rg_sm at n'
          omega
        · exact b' j n'
      · exact Or.inr ⟨a', j, (hs j).mpr (Or.inr b'), c'⟩
    · refine Or.inr ⟨g5 a, j, (hs j).mpr (Or.inl b), ?_⟩
      have := g2 j
      omega
theorem bt_or10 {m : Nat} {c : Int} (hm : m < 1024) (hc : 0 ≤ c ∧ c < 10) : rs_or (m : Int) (rs_shl 1 c) = ((m ||| 2 ^ c.toNat : Nat) : Int) ∧ m ||| 2 ^ c.toNat < 1024 := by
  have e : c = ((c.toNat : Nat) : Int) := by omega
  have hp : (2 : Nat) ^ c.toNat < 1024 := by
    have : (2 : Nat) ^ c.toNat < 2 ^ 10 := Nat.pow_lt_pow_right (by omega) (by omega)
    exact this
  refine ⟨?_, Nat.or_lt_two_pow (n := 10) hm hp⟩
  rw [e, bt_shl1 c.toNat (by omega)]
  rw [show ((c.toNat : Nat) : Int).toNat = c.toNat by omega]
  exact bt_or m _ (by omega) (by omega)
theorem bt_orb {m k : Nat} (j : Nat) : (m ||| 2 ^ k).testBit j = true ↔ m.testBit j = true ∨ j = k := by
  rw [Nat.testBit_or, Bool.or_eq_true, Nat.testBit_two_pow]
  simp only [decide_eq_true_eq]
  constructor
  · rintro (h | h)
    · exact Or.inl h
    · exact Or.inr h.symm
  · rintro (h | h)
    · exact Or.inl h
    · exact Or.inr h.symm
theorem rg_tr_raise {I : rs_M} {q : Nat} {c v : Int} (hc : 0 ≤ c ∧ c < 10) : rg_tr q I (rg_raise I q c v) := by
  by_cases h : v ≤ I (q + 1) c.toNat
  · have e : rg_raise I q c v = I := by unfold rg_raise; rw [if_pos h]
    rw [e]; exact rg_tr_rf
  have hs : ∀ j, ¬ rg_sm q I (rg_raise I q c v) j ↔ j = c.toNat := fun j => by
    unfold rg_sm
    rw [rg_raise_lo, rg_raise_hi]
    by_cases e : j = c.toNat
    · rw [if_pos e, e]; omega
    · rw [if_neg e]; simp [e]
  have e2 : rg_raise I q c v q 2 = rs_or (I q 2) (rs_shl 1 c) := by unfold rg_raise; rw [if_neg h]; simp [rs_up_at]
  have e3 : rg_raise I q c v q 3 = if I q 3 = 0 ∧ v ≤ I (q + 2) c.toNat then 0 else 1 := by unfold rg_raise; rw [if_neg h]; simp [rs_up_at]
  refine ⟨fun a j p1 p2 _ _ => rg_raise_o p1 p2, fun j => ?_, fun j hj => ?_, fun m hm e => ?_, fun e => ?_, fun e => ?_⟩
  · rw [rg_raise_lo, rg_raise_hi]
    split <;> omega
  · exact Classical.byContradiction fun n => by
      have := (hs j).mp n
      omega
  · obtain ⟨b1, b2⟩ := bt_or10 hm hc
    refine ⟨m ||| 2 ^ c.toNat, b2, by rw [e2, e, b1], fun j => ?_⟩
    rw [bt_orb, hs j]
  · rw [e3, if_neg (by omega)]
  · rw [e3]
    by_cases g : v ≤ I (q + 2) c.toNat
    · rw [if_pos ⟨e, g⟩]
      refine Or.inl ⟨rfl, fun j n => ?_⟩
      have := (hs j).mp n
      rw [rg_raise_lo, rg_raise_hi, if_pos this, this]
      omega
    · rw [if_neg (fun k => g k.2)]
      refine Or.inr ⟨rfl, c.toNat, (hs _).mpr rfl, ?_⟩
      rw [rg_raise_lo, rg_raise_hi, if_pos rfl]
      omega
theorem rg_tr_lower {I : rs_M} {q : Nat} {c v : Int} (hc : 0 ≤ c ∧ c < 10) : rg_tr q I (rg_lower I q c v) := by
  by_cases h : I (q + 2) c.toNat ≤ v
  · have e : rg_lower I q c v = I := by unfold rg_lower; rw [if_pos h]
    rw [e]; exact rg_tr_rf
  have hs : ∀ j, ¬ rg_sm q I (rg_lower I q c v) j ↔ j = c.toNat := fun j => by
    unfold rg_sm
    rw [rg_lower_lo, rg_lower_hi]
    by_cases e : j = c.toNat
    · rw [if_pos e, e]; omega
    · rw [if_neg e]; simp [e]
  have e2 : rg_lower I q c v q 2 = rs_or (I q 2) (rs_shl 1 c) := by unfold rg_lower; rw [if_neg h]; simp [rs_up_at]
  have e3 : rg_lower I q c v q 3 = if I q 3 = 0 ∧ I (q + 1) c.toNat ≤ v then 0 else 1 := by unfold rg_lower; rw [if_neg h]; simp [rs_up_at]
  refine ⟨fun a j p1 _ p3 _ => rg_lower_o p1 p3, fun j => ?_, fun j hj => ?_, fun m hm e => ?_, fun e => ?_, fun e => ?_⟩
  · rw [rg_lower_lo, rg_lower_hi]
    split <;> omega
  · exact Classical.byContradiction fun n => by
      have := (hs j).mp n
      omega
  · obtain ⟨b1, b2⟩ := bt_or10 hm hc
    refine ⟨m ||| 2 ^ c.toNat, b2, by rw [e2, e, b1], fun j => ?_⟩
    rw [bt_orb, hs j]
  · rw [e3, if_neg (by omega)]
  · rw [e3]
    by_cases g : I (q + 1) c.toNat ≤ v
    · rw [if_pos ⟨e, g⟩]
      refine Or.inl ⟨rfl, fun j n => ?_⟩
      have := (hs j).mp n
      rw [rg_lower_lo, rg_lower_hi, if_pos this, this]
      omega
    · rw [if_neg (fun k => g k.2)]
      refine Or.inr ⟨rfl, c.toNat, (hs _).mpr rfl, ?_⟩
      rw [rg_lower_lo, rg_lower_hi, if_pos rfl]
      omega
theorem rg_tr_keep {I : rs_M} {q : Nat} {c v w : Int} (hc : 0 ≤ c ∧ c < 10) : rg_tr q I (rg_keep I q c v w) := rg_tr_tr (rg_tr_raise hc) (rg_tr_lower hc)
/-- what is written to the spans -/
theorem rg_tr_sp {I : rs_M} {q o k : Nat} {v : Int} (hq : 11 < q) (ho : 9 ≤ o ∧ o ≤ 11) : rg_tr q I (rs_up I o k v) := by
  have e : ∀ a j, (a < 9 ∨ 11 < a) → rs_up I o k v a j = I a j := fun a j h => by
    rw [rs_up_at, if_neg (by omega)]
  have s : ∀ j, rg_sm q I (rs_up I o k v) j := fun j => ⟨e _ _ (by omega), e _ _ (by omega)⟩
  refine ⟨fun a j _ _ _ h => e a j h, fun j => ?_, fun j _ => s j, fun m hm h => ⟨m, hm, by rw [e _ _ (by omega), h], fun j => ⟨Or.inl, fun g => g.resolve_right (fun n => n (s j))⟩⟩, fun h => by rw [e _ _ (by omega), h], fun h => Or.inl ⟨by rw [e _ _ (by omega), h], fun j n => absurd (s j) n⟩⟩
  rw [e _ _ (by omega), e _ _ (by omega)]
  omega
