/-! ===== three different cells ===== -/
theorem bx_sup3d {lo hi : Nat → Int} {a b c : Nat} {P : Int → Int → Int → Prop} (hab : a ≠ b) (hac : a ≠ c) (hbc : b ≠ c) (oa : lo a ≤ hi a) (ob : lo b ≤ hi b) (oc : lo c ≤ hi c) (A : ∀ x, x = lo a ∨ x = hi a → ∃ y z, (lo b ≤ y ∧ y ≤ hi b) ∧ (lo c ≤ z ∧ z ≤ hi c) ∧ P x y z) (B : ∀ y, y = lo b ∨ y = hi b → ∃ x z, (lo a ≤ x ∧ x ≤ hi a) ∧ (lo c ≤ z ∧ z ≤ hi c) ∧ P x y z) (C : ∀ z, z = lo c ∨ z = hi c → ∃ x y, (lo a ≤ x ∧ x ≤ hi a) ∧ (lo b ≤ y ∧ y ≤ hi b) ∧ P x y z) : bx_sup (bx_3 a b c) (fun x => P (x a) (x b) (x c)) lo hi := by
  have t : ∀ {u v w}, (lo a ≤ u ∧ u ≤ hi a) → (lo b ≤ v ∧ v ≤ hi b) → (lo c ≤ w ∧ w ≤ hi c) → P u v w → bx_t lo hi a b c P u v w := fun h1 h2 h3 h4 => ⟨h1, h2, h3, fun q => absurd q hab, fun q => absurd q hac, fun q => absurd q hbc, h4⟩
  refine bx_sup3 ?_ ?_ ?_ ?_ ?_ ?_
  · obtain ⟨y, z, h1, h2, h3⟩ := A _ (Or.inl rfl); exact ⟨y, z, t (by omega) h1 h2 h3⟩
  · obtain ⟨y, z, h1, h2, h3⟩ := A _ (Or.inr rfl); exact ⟨y, z, t (by omega) h1 h2 h3⟩
  · obtain ⟨y, z, h1, h2, h3⟩ := B _ (Or.inl rfl); exact ⟨y, z, t h1 (by omega) h2 h3⟩
  · obtain ⟨y, z, h1, h2, h3⟩ := B _ (Or.inr rfl); exact ⟨y, z, t h1 (by omega) h2 h3⟩
  · obtain ⟨y, z, h1, h2, h3⟩ := C _ (Or.inl rfl); exact ⟨y, z, t h1 h2 (by omega) h3⟩
  · obtain ⟨y, z, h1, h2, h3⟩ := C _ (Or.inr rfl); exact ⟨y, z, t h1 h2 (by omega) h3⟩
theorem bx_f0 {x y z : Int} : bx_f 0 x y z ↔ x + y = z := by simp only [bx_f, ↓reduceIte]
/-- the sum, where nothing changes -/
theorem rf_sum {lo hi : Nat → Int} {a b c : Nat} (hab : a ≠ b) (hac : a ≠ c) (hbc : b ≠ c) (oa : lo a ≤ hi a) (ob : lo b ≤ hi b) (oc : lo c ≤ hi c) (h1 : lo c - hi b ≤ lo a) (h2 : hi a ≤ hi c - lo b) (h3 : lo c - hi a ≤ lo b) (h4 : hi b ≤ hi c - lo a) (h5 : lo a + lo b ≤ lo c) (h6 : hi c ≤ hi a + hi b) : bx_sup (bx_3 a b c) (fun x => bx_f 0 (x a) (x b) (x c)) lo hi := bx_sup3d hab hac hbc oa ob oc
  (fun x hx => ⟨max (lo b) (lo c - x), x + max (lo b) (lo c - x), by omega, by omega, bx_f0.mpr (by omega)⟩)
  (fun y hy => ⟨max (lo a) (lo c - y), y + max (lo a) (lo c - y), by omega, by omega, bx_f0.mpr (by omega)⟩)
  (fun z hz => ⟨max (lo a) (z - hi b), z - max (lo a) (z - hi b), by omega, by omega, bx_f0.mpr (by omega)⟩)
/-- the lesser (k = 3) and the greater (k = 4): what a side can be, and what the third can be -/
def ex_can (k x lb hb lc hc : Int) : Prop := if k = 3 then ((lc ≤ x ∧ x ≤ hc) ∧ x ≤ hb) ∨ max lb lc ≤ min (min hb hc) (x - 1) else ((lc ≤ x ∧ x ≤ hc) ∧ lb ≤ x) ∨ max (max lb lc) (x + 1) ≤ min hb hc
theorem ex_can_iff {k x lb hb lc hc : Int} (hk : k = 3 ∨ k = 4) (ob : lb ≤ hb) : ex_can k x lb hb lc hc ↔ ∃ y z, (lb ≤ y ∧ y ≤ hb) ∧ (lc ≤ z ∧ z ≤ hc) ∧ bx_f k x y z := by
  rcases hk with e | e <;> subst e <;> simp only [ex_can, bx_f, Int.reduceEq, ↓reduceIte]
  · constructor
    · intro h
      by_cases g : (lc ≤ x ∧ x ≤ hc) ∧ x ≤ hb
      · exact ⟨max lb x, x, by omega, by omega, by omega⟩
      · exact ⟨max lb lc, max lb lc, by omega, by omega, by omega⟩
    · rintro ⟨y, z, h1, h2, h3⟩
      omega
  · constructor
    · intro h
      by_cases g : (lc ≤ x ∧ x ≤ hc) ∧ lb ≤ x
      · exact ⟨lb, x, by omega, by omega, by omega⟩
      · exact ⟨max (max lb lc) (x + 1), max (max lb lc) (x + 1), by omega, by omega, by omega⟩
    · rintro ⟨y, z, h1, h2, h3⟩
      omega
def ex_fr (k u v : Int) : Int := if k = 3 then min u v else max u v
def ex_c (k z la ha lb hb : Int) : Prop := ex_fr k la lb ≤ z ∧ z ≤ ex_fr k ha hb ∧ ((la ≤ z ∧ z ≤ ha) ∨ (lb ≤ z ∧ z ≤ hb))
theorem ex_c_iff {k z la ha lb hb : Int} (hk : k = 3 ∨ k = 4) (oa : la ≤ ha) (ob : lb ≤ hb) : ex_c k z la ha lb hb ↔ ∃ x y, (la ≤ x ∧ x ≤ ha) ∧ (lb ≤ y ∧ y ≤ hb) ∧ bx_f k x y z := by
  rcases hk with e | e <;> subst e <;> simp only [ex_c, ex_fr, bx_f, Int.reduceEq, ↓reduceIte]
  · constructor
    · intro h
      by_cases g : la ≤ z ∧ z ≤ ha
      · exact ⟨z, max lb z, by omega, by omega, by omega⟩
      · exact ⟨max la z, z, by omega, by omega, by omega⟩
    · rintro ⟨x, y, h1, h2, h3⟩
      omega
  · constructor
    · intro h
      by_cases g : la ≤ z ∧ z ≤ ha
      · exact ⟨z, lb, by omega, by omega, by omega⟩
      · exact ⟨la, z, by omega, by omega, by omega⟩
    · rintro ⟨x, y, h1, h2, h3⟩
      omega
theorem rf_ext {k : Int} {lo hi : Nat → Int} {a b c : Nat} (hk : k = 3 ∨ k = 4) (hab : a ≠ b) (hac : a ≠ c) (hbc : b ≠ c) (oa : lo a ≤ hi a) (ob : lo b ≤ hi b) (oc : lo c ≤ hi c) (h1 : ∀ x, x = lo a ∨ x = hi a → ex_can k x (lo b) (hi b) (lo c) (hi c)) (h2 : ∀ x, x = lo b ∨ x = hi b → ex_can k x (lo a) (hi a) (lo c) (hi c)) (h3 : ∀ z, z = lo c ∨ z = hi c → ex_c k z (lo a) (hi a) (lo b) (hi b)) : bx_sup (bx_3 a b c) (fun x => bx_f k (x a) (x b) (x c)) lo hi := by
  have hk' : k = 0 ∨ k = 3 ∨ k = 4 := by omega
  refine bx_sup3d hab hac hbc oa ob oc (fun x hx => (ex_can_iff hk ob).mp (h1 x hx)) (fun y hy => ?_) (fun z hz => (ex_c_iff hk oa ob).mp (h3 z hz))
  obtain ⟨x, z, p, q, r⟩ := (ex_can_iff hk oa).mp (h2 y hy)
  exact ⟨x, z, p, q, bx_f_comm hk' r⟩
/-! a relation's cells, and what satisfies it -/
def bx_S (k a b c : Int) (j : Nat) : Prop := if k = 7 then bx_M a.toNat j else bx_3 a.toNat b.toNat (if k = 5 ∨ k = 8 then b.toNat else c.toNat) j
def bx_Q (T : Int → Int → Int → Prop) (k a b c : Int) (x : Nat → Int) : Prop := if k = 7 then bx_df a.toNat x else if k = 5 then x a.toNat + c ≤ x b.toNat else if k = 8 then T c (x a.toNat) (x b.toNat) else bx_f k (x a.toNat) (x b.toNat) (x c.toNat)
theorem bx_S7 {a b c : Int} : bx_S 7 a b c = bx_M a.toNat := by funext j; simp only [bx_S, ↓reduceIte]
theorem bx_S5 {a b c : Int} : bx_S 5 a b c = bx_3 a.toNat b.toNat b.toNat := by funext j; simp only [bx_S, Int.reduceEq, ↓reduceIte, true_or]
theorem bx_S8 {a b c : Int} : bx_S 8 a b c = bx_3 a.toNat b.toNat b.toNat := by funext j; simp only [bx_S, Int.reduceEq, ↓reduceIte, or_true]
theorem bx_S3 {k a b c : Int} (hk : 0 ≤ k ∧ k ≤ 6 ∧ k ≠ 5) : bx_S k a b c = bx_3 a.toNat b.toNat c.toNat := by
  funext j
  simp only [bx_S]
  rw [if_neg (by omega), if_neg (by omega)]
theorem bx_Q7 {T : Int → Int → Int → Prop} {a b c : Int} : bx_Q T 7 a b c = bx_df a.toNat := by funext j; simp only [bx_Q, ↓reduceIte]
theorem bx_Q5 {T : Int → Int → Int → Prop} {a b c : Int} : bx_Q T 5 a b c = fun x => (fun u v _ => u + c ≤ v) (x a.toNat) (x b.toNat) (x b.toNat) := by funext j; simp only [bx_Q, Int.reduceEq, ↓reduceIte]
theorem bx_Q8 {T : Int → Int → Int → Prop} {a b c : Int} : bx_Q T 8 a b c = fun x => (fun u v _ => T c u v) (x a.toNat) (x b.toNat) (x b.toNat) := by funext j; simp only [bx_Q, Int.reduceEq, ↓reduceIte]
theorem bx_Q3 {T : Int → Int → Int → Prop} {k a b c : Int} (hk : 0 ≤ k ∧ k ≤ 6 ∧ k ≠ 5) : bx_Q T k a b c = fun x => bx_f k (x a.toNat) (x b.toNat) (x c.toNat) := by
  funext j
  simp only [bx_Q]
  rw [if_neg (by omega), if_neg (by omega), if_neg (by omega)]
