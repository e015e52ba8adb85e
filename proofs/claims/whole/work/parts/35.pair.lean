/-! ===== narrowing by all pairs of values, and by rows ===== -/
theorem bx_met_add {F L1 M1 L2 M2 L3 M3 x y f t : Int} {D E : Int → Int → Prop} {lo hi : Nat → Int} {a b c : Nat} {P : Int → Int → Int → Prop} (h : bx_met F L1 M1 L2 M2 L3 M3 D lo hi a b c P) (hF : 100 < F) (hx : -100 ≤ x ∧ x ≤ 100) (hy : -100 ≤ y ∧ y ≤ 100) (hz : -100 ≤ f ∧ f ≤ t ∧ t ≤ 100) (hs : ∀ z, (f ≤ z ∧ z ≤ t) ↔ bx_t lo hi a b c P x y z) (e : ∀ u v, E u v ↔ D u v ∨ (u = x ∧ v = y)) : bx_met F (min L1 x) (max M1 x) (min L2 y) (max M2 y) (min L3 f) (max M3 t) E lo hi a b c P := by
  obtain ⟨h1, h2, h3⟩ := h
  have s0 := (hs f).mp ⟨Int.le_refl _, hz.2.1⟩
  have s1 := (hs t).mp ⟨hz.2.1, Int.le_refl _⟩
  have ey : E x y := (e x y).mpr (Or.inr ⟨rfl, rfl⟩)
  refine ⟨rg_sp1 (by omega) h1 (fun u => ⟨?_, ?_⟩), rg_sp1 (by omega) h2 (fun v => ⟨?_, ?_⟩), ?_⟩
  · rintro ⟨v, w, p, q⟩
    rcases (e u v).mp p with g | g
    · exact Or.inl ⟨v, w, g, q⟩
    · exact Or.inr g.1
  · rintro (⟨v, w, p, q⟩ | g)
    · exact ⟨v, w, (e u v).mpr (Or.inl p), q⟩
    · subst g; exact ⟨y, f, ey, s0⟩
  · rintro ⟨u, w, p, q⟩
    rcases (e u v).mp p with g | g
    · exact Or.inl ⟨u, w, g, q⟩
    · exact Or.inr g.2
  · rintro (⟨u, w, p, q⟩ | g)
    · exact ⟨u, w, (e u v).mpr (Or.inl p), q⟩
    · subst g; exact ⟨x, f, ey, s0⟩
  · have e1 : min L3 f = min (min L3 f) t := by omega
    have e2 : max M3 t = max (max M3 f) t := by omega
    rw [e1, e2]
    refine rg_sp2 (by omega) (by omega) h3 ?_ ⟨x, y, ey, s0⟩ ⟨x, y, ey, s1⟩ ?_
    · rintro z ⟨u, v, p, q⟩; exact ⟨u, v, (e u v).mpr (Or.inl p), q⟩
    · rintro z ⟨u, v, p, q⟩
      rcases (e u v).mp p with g | g
      · exact Or.inl ⟨u, v, g, q⟩
      · obtain ⟨g1, g2⟩ := g
        subst g1 g2
        have := (hs z).mpr q
        exact Or.inr (by omega)
theorem bx_met_skip {F L1 M1 L2 M2 L3 M3 x y : Int} {D E : Int → Int → Prop} {lo hi : Nat → Int} {a b c : Nat} {P : Int → Int → Int → Prop} (h : bx_met F L1 M1 L2 M2 L3 M3 D lo hi a b c P) (hs : ∀ z, ¬ bx_t lo hi a b c P x y z) (e : ∀ u v, E u v ↔ D u v ∨ (u = x ∧ v = y)) : bx_met F L1 M1 L2 M2 L3 M3 E lo hi a b c P := bx_met_eq h (fun u v w q => by
  rw [e u v]
  exact ⟨Or.inl, fun g => g.resolve_right (fun g => hs w (by rw [← g.1, ← g.2]; exact q))⟩)
def rm_3 (k x y : Int) : Int := if k = 0 then x + y else if k = 1 then x * y else if k = 2 then (if y = 0 then 40000 else rs_fl x y) else if k = 3 then min x y else if k = 4 then max x y else if x < 1 then -400 else y
def bp_f (k : Int) (lo : Nat → Int) (a b c : Nat) (x y : Int) : Int := max (rm_3 k x y) (if c = a then x else if c = b then y else lo c)
def bp_t (k : Int) (hi : Nat → Int) (a b c : Nat) (x y : Int) : Int := min (if k = 6 then 400 else rm_3 k x y) (if c = a then x else if c = b then y else hi c)
theorem bp_val {k : Int} (hk : 0 ≤ k ∧ k ≤ 6 ∧ k ≠ 5) {x y z : Int} (hx : -100 ≤ x ∧ x ≤ 100) (hy : -100 ≤ y ∧ y ≤ 100) (hz : -100 ≤ z ∧ z ≤ 100) : (rm_3 k x y ≤ z ∧ z ≤ (if k = 6 then 400 else rm_3 k x y)) ↔ bx_f k x y z := by
  have hk' : k = 0 ∨ k = 1 ∨ k = 2 ∨ k = 3 ∨ k = 4 ∨ k = 6 := by omega
  rcases hk' with e | e | e | e | e | e <;> subst e <;> simp only [rm_3, bx_f, Int.reduceEq, ↓reduceIte]
  · omega
  · omega
  · by_cases h : y = 0
    · simp only [h, ↓reduceIte]; omega
    · simp only [if_neg h]; omega
  · omega
  · omega
  · split <;> omega
theorem bp_fits {k : Int} {lo hi : Nat → Int} {a b c : Nat} {x y : Int} (hk : 0 ≤ k ∧ k ≤ 6 ∧ k ≠ 5) (hc : -100 ≤ lo c ∧ hi c ≤ 100) (hx : -100 ≤ x ∧ x ≤ 100) (hy : -100 ≤ y ∧ y ≤ 100) (hA : lo a ≤ x ∧ x ≤ hi a) (hB : lo b ≤ y ∧ y ≤ hi b) (hab : a = b → x = y) (z : Int) : (bp_f k lo a b c x y ≤ z ∧ z ≤ bp_t k hi a b c x y) ↔ bx_t lo hi a b c (bx_f k) x y z := by
  unfold bp_f bp_t bx_t
  by_cases h1 : c = a
  · subst h1
    simp only [↓reduceIte]
    have f := bp_val (k := k) (x := x) (y := y) (z := x) hk hx hy hx
    constructor
    · intro h
      have e : z = x := by omega
      subst e
      exact ⟨hA, hB, hA, hab, fun _ => rfl, fun q => (hab q.symm).symm, f.mp (by omega)⟩
    · rintro ⟨a1, a2, a3, a4, a5, a6, a7⟩
      have e : x = z := a5 trivial
      subst e
      have := f.mpr a7
      omega
  · simp only [if_neg h1]
    by_cases h2 : c = b
    · subst h2
      simp only [↓reduceIte]
      have f := bp_val (k := k) (x := x) (y := y) (z := y) hk hx hy hy
      constructor
      · intro h
        have e : z = y := by omega
        subst e
        exact ⟨hA, hB, hB, hab, fun q => absurd q.symm h1, fun _ => rfl, f.mp (by omega)⟩
      · rintro ⟨a1, a2, a3, a4, a5, a6, a7⟩
        have e : y = z := a6 trivial
        subst e
        have := f.mpr a7
        omega
    · simp only [if_neg h2]
      by_cases hz : -100 ≤ z ∧ z ≤ 100
      · have f := bp_val (k := k) (x := x) (y := y) (z := z) hk hx hy hz
        constructor
        · intro h
          exact ⟨hA, hB, by omega, hab, fun q => absurd q.symm h1, fun q => absurd q.symm h2, f.mp (by omega)⟩
        · rintro ⟨a1, a2, a3, a4, a5, a6, a7⟩
          have := f.mpr a7
          omega
      · constructor
        · intro h; omega
        · rintro ⟨a1, a2, a3⟩; omega
/-- rows -/
def tb_D (X Y : Nat → Int) (n : Nat) (u v : Int) : Prop := ∃ r, r < n ∧ X r = u ∧ Y r = v
theorem tb_s {X Y : Nat → Int} {n : Nat} (u v : Int) : tb_D X Y (n + 1) u v ↔ tb_D X Y n u v ∨ (u = X n ∧ v = Y n) := by
  constructor
  · rintro ⟨r, h1, h2, h3⟩
    by_cases e : r = n
    · subst e; exact Or.inr ⟨h2.symm, h3.symm⟩
    · exact Or.inl ⟨r, by omega, h2, h3⟩
  · rintro (⟨r, h1, h2, h3⟩ | ⟨h1, h2⟩)
    · exact ⟨r, by omega, h2, h3⟩
    · exact ⟨n, by omega, h1.symm, h2.symm⟩
theorem tb_yes {F L1 M1 L2 M2 : Int} {X Y : Nat → Int} {n m : Nat} {lo hi : Nat → Int} {a b : Nat} (hF : 100 < F) (hm : n < m) (hok : (-100 ≤ lo a ∧ hi a ≤ 100) ∧ (-100 ≤ lo b ∧ hi b ≤ 100)) (h : bx_met F L1 M1 L2 M2 L2 M2 (tb_D X Y n) lo hi a b b (fun u v _ => tb_D X Y m u v)) (h1 : lo a ≤ X n ∧ X n ≤ hi a) (h2 : lo b ≤ Y n ∧ Y n ≤ hi b) (h3 : a = b → X n = Y n) : bx_met F (min L1 (X n)) (max M1 (X n)) (min L2 (Y n)) (max M2 (Y n)) (min L2 (Y n)) (max M2 (Y n)) (tb_D X Y (n + 1)) lo hi a b b (fun u v _ => tb_D X Y m u v) := bx_met_add h hF (by omega) (by omega) (by omega) (fun z => ⟨fun g => by
  have e : z = Y n := by omega
  subst e
  exact ⟨h1, h2, h2, h3, h3, fun _ => rfl, n, hm, rfl, rfl⟩, fun g => by
  have := g.2.2.2.2.2.1 rfl
  omega⟩) tb_s
theorem tb_no {F L1 M1 L2 M2 : Int} {X Y : Nat → Int} {n m : Nat} {lo hi : Nat → Int} {a b : Nat} (h : bx_met F L1 M1 L2 M2 L2 M2 (tb_D X Y n) lo hi a b b (fun u v _ => tb_D X Y m u v)) (h1 : ¬ ((lo a ≤ X n ∧ X n ≤ hi a) ∧ (lo b ≤ Y n ∧ Y n ≤ hi b) ∧ (a = b → X n = Y n))) : bx_met F L1 M1 L2 M2 L2 M2 (tb_D X Y (n + 1)) lo hi a b b (fun u v _ => tb_D X Y m u v) := bx_met_skip h (x := X n) (y := Y n) (fun z g => h1 ⟨g.1, g.2.1, g.2.2.2.1⟩) tb_s
/-! at most, and if -/
theorem am_snd {lo hi lo' hi' : Nat → Int} {a b : Nat} {n : Int} (ea : lo' a ≤ lo a ∧ (hi a ≤ hi' a ∨ hi b - n ≤ hi' a)) (eb : (lo' b ≤ lo b ∨ lo' b ≤ lo a + n) ∧ hi b ≤ hi' b) : bx_snd (bx_3 a b b) (fun x => (fun u v _ => u + n ≤ v) (x a) (x b) (x b)) lo hi lo' hi' := bx_snd3 (P := fun u v _ => u + n ≤ v) (fun u v w h => by
  obtain ⟨h1, h2, h3, h4, h5, h6, h7⟩ := h
  have := h6 rfl
  omega)
theorem am_sup {lo hi : Nat → Int} {a b : Nat} {n : Int} (hab : a ≠ b) (oa : lo a ≤ hi a) (ob : lo b ≤ hi b) (ha : hi a + n ≤ hi b) (hb : lo a + n ≤ lo b) : bx_sup (bx_3 a b b) (fun x => (fun u v _ => u + n ≤ v) (x a) (x b) (x b)) lo hi := by
  have h1 : bx_t lo hi a b b (fun u v _ => u + n ≤ v) (lo a) (hi b) (hi b) := ⟨by omega, by omega, by omega, fun q => absurd q hab, fun q => absurd q hab, fun _ => rfl, by show lo a + n ≤ hi b; omega⟩
  have h2 : bx_t lo hi a b b (fun u v _ => u + n ≤ v) (hi a) (hi b) (hi b) := ⟨by omega, by omega, by omega, fun q => absurd q hab, fun q => absurd q hab, fun _ => rfl, by show hi a + n ≤ hi b; omega⟩
  have h3 : bx_t lo hi a b b (fun u v _ => u + n ≤ v) (lo a) (lo b) (lo b) := ⟨by omega, by omega, by omega, fun q => absurd q hab, fun q => absurd q hab, fun _ => rfl, by show lo a + n ≤ lo b; omega⟩
  exact bx_sup3 (P := fun u v _ => u + n ≤ v) ⟨_, _, h1⟩ ⟨_, _, h2⟩ ⟨_, _, h3⟩ ⟨_, _, h2⟩ ⟨_, _, h3⟩ ⟨_, _, h2⟩
theorem am_one {lo hi : Nat → Int} {a : Nat} {n : Int} (oa : lo a ≤ hi a) : (n ≤ 0 → bx_sup (bx_3 a a a) (fun x => (fun u v _ => u + n ≤ v) (x a) (x a) (x a)) lo hi) ∧ (0 < n → bx_no (bx_3 a a a) (fun x => (fun u v _ => u + n ≤ v) (x a) (x a) (x a)) lo hi) := by
  refine ⟨fun hn => ?_, fun hn => bx_no3 (P := fun u v _ => u + n ≤ v) fun u v w h => ?_⟩
  · have h1 : bx_t lo hi a a a (fun u v _ => u + n ≤ v) (lo a) (lo a) (lo a) := ⟨by omega, by omega, by omega, fun _ => rfl, fun _ => rfl, fun _ => rfl, by show lo a + n ≤ lo a; omega⟩
    have h2 : bx_t lo hi a a a (fun u v _ => u + n ≤ v) (hi a) (hi a) (hi a) := ⟨by omega, by omega, by omega, fun _ => rfl, fun _ => rfl, fun _ => rfl, by show hi a + n ≤ hi a; omega⟩
    exact bx_sup3 (P := fun u v _ => u + n ≤ v) ⟨_, _, h1⟩ ⟨_, _, h2⟩ ⟨_, _, h1⟩ ⟨_, _, h2⟩ ⟨_, _, h1⟩ ⟨_, _, h2⟩
  · have := h.2.2.2.1 rfl
    have h7 : u + n ≤ v := h.2.2.2.2.2.2
    omega
theorem bx_f6 {x y z : Int} : bx_f 6 x y z ↔ x < 1 ∨ y ≤ z := by simp only [bx_f, Int.reduceEq, ↓reduceIte]
/-- if: where a can be below 1 -/
theorem if_lo_sup {lo hi : Nat → Int} {a b c : Nat} (oa : lo a ≤ hi a) (ob : lo b ≤ hi b) (oc : lo c ≤ hi c) (hl : lo a < 1) (ht : hi a < 1 ∨ b = c ∨ (a = b ∧ hi a ≤ hi c) ∨ (a ≠ b ∧ lo b ≤ hi c)) : bx_sup (bx_3 a b c) (fun x => bx_f 6 (x a) (x b) (x c)) lo hi := by
  have h1 : ∀ v w, (lo b ≤ v ∧ v ≤ hi b) → (lo c ≤ w ∧ w ≤ hi c) → (a = b → lo a = v) → (a = c → lo a = w) → (b = c → v = w) → bx_t lo hi a b c (bx_f 6) (lo a) v w := fun v w h1 h2 h3 h4 h5 => ⟨by omega, h1, h2, h3, h4, h5, bx_f6.mpr (Or.inl hl)⟩
  have cs : ∀ v w, (lo b ≤ v ∧ v ≤ hi b) → (lo c ≤ w ∧ w ≤ hi c) → (a = b → hi a = v) → (a = c → hi a = w) → (b = c → v = w) → (hi a < 1 ∨ v ≤ w) → bx_t lo hi a b c (bx_f 6) (hi a) v w := fun v w h1 h2 h3 h4 h5 h6 => ⟨by omega, h1, h2, h3, h4, h5, bx_f6.mpr h6⟩
  by_cases ab : a = b
  · subst ab
    by_cases ac : a = c
    · subst ac
      have p1 := h1 (lo a) (lo a) (by omega) (by omega) (fun _ => rfl) (fun _ => rfl) (fun _ => rfl)
      have p2 := cs (hi a) (hi a) (by omega) (by omega) (fun _ => rfl) (fun _ => rfl) (fun _ => rfl) (by omega)
      exact bx_sup3 ⟨_, _, p1⟩ ⟨_, _, p2⟩ ⟨_, _, p1⟩ ⟨_, _, p2⟩ ⟨_, _, p1⟩ ⟨_, _, p2⟩
    · have p1 := h1 (lo a) (lo c) (by omega) (by omega) (fun _ => rfl) (fun q => absurd q ac) (fun q => absurd q ac)
      have p3 := h1 (lo a) (hi c) (by omega) (by omega) (fun _ => rfl) (fun q => absurd q ac) (fun q => absurd q ac)
      have p2 := cs (hi a) (hi c) (by omega) (by omega) (fun _ => rfl) (fun q => absurd q ac) (fun q => absurd q ac) (by omega)
      exact bx_sup3 ⟨_, _, p1⟩ ⟨_, _, p2⟩ ⟨_, _, p1⟩ ⟨_, _, p2⟩ ⟨_, _, p1⟩ ⟨_, _, p3⟩
  · by_cases ac : a = c
    · subst ac
      have p1 := h1 (lo b) (lo a) (by omega) (by omega) (fun q => absurd q ab) (fun _ => rfl) (fun q => absurd q.symm ab)
      have p3 := h1 (hi b) (lo a) (by omega) (by omega) (fun q => absurd q ab) (fun _ => rfl) (fun q => absurd q.symm ab)
      have p2 := cs (lo b) (hi a) (by omega) (by omega) (fun q => absurd q ab) (fun _ => rfl) (fun q => absurd q.symm ab) (by omega)
      exact bx_sup3 ⟨_, _, p1⟩ ⟨_, _, p2⟩ ⟨_, _, p1⟩ ⟨_, _, p3⟩ ⟨_, _, p1⟩ ⟨_, _, p2⟩
    · by_cases bc : b = c
      · subst bc
        have p1 := h1 (lo b) (lo b) (by omega) (by omega) (fun q => absurd q ab) (fun q => absurd q ac) (fun _ => rfl)
        have p3 := h1 (hi b) (hi b) (by omega) (by omega) (fun q => absurd q ab) (fun q => absurd q ac) (fun _ => rfl)
        have p2 := cs (lo b) (lo b) (by omega) (by omega) (fun q => absurd q ab) (fun q => absurd q ac) (fun _ => rfl) (by omega)
        exact bx_sup3 ⟨_, _, p1⟩ ⟨_, _, p2⟩ ⟨_, _, p1⟩ ⟨_, _, p3⟩ ⟨_, _, p1⟩ ⟨_, _, p3⟩
      · have p1 := h1 (lo b) (lo c) (by omega) (by omega) (fun q => absurd q ab) (fun q => absurd q ac) (fun q => absurd q bc)
        have p3 := h1 (hi b) (hi c) (by omega) (by omega) (fun q => absurd q ab) (fun q => absurd q ac) (fun q => absurd q bc)
        have p2 := cs (lo b) (hi c) (by omega) (by omega) (fun q => absurd q ab) (fun q => absurd q ac) (fun q => absurd q bc) (by omega)
        exact bx_sup3 ⟨_, _, p1⟩ ⟨_, _, p2⟩ ⟨_, _, p1⟩ ⟨_, _, p3⟩ ⟨_, _, p1⟩ ⟨_, _, p3⟩
/-- if: where a is 1 or more -/
theorem if_hi_sup {lo hi : Nat → Int} {a b c : Nat} (oa : lo a ≤ hi a) (ob : lo b ≤ hi b) (oc : lo c ≤ hi c) (h : b = c ∨ (hi b ≤ hi c ∧ lo b ≤ lo c)) : bx_sup (bx_3 a b c) (fun x => bx_f 6 (x a) (x b) (x c)) lo hi := by
  have p : ∀ u v w, (lo a ≤ u ∧ u ≤ hi a) → (lo b ≤ v ∧ v ≤ hi b) → (lo c ≤ w ∧ w ≤ hi c) → (a = b → u = v) → (a = c → u = w) → (b = c → v = w) → v ≤ w → bx_t lo hi a b c (bx_f 6) u v w := fun u v w h1 h2 h3 h4 h5 h6 h7 => ⟨h1, h2, h3, h4, h5, h6, bx_f6.mpr (Or.inr h7)⟩
  have p1 := p (lo a) (lo b) (lo c) (by omega) (by omega) (by omega) (fun q => by rw [q]) (fun q => by rw [q]) (fun q => by rw [q]) (by rcases h with e | e; rw [e]; omega; omega)
  have p2 := p (hi a) (hi b) (hi c) (by omega) (by omega) (by omega) (fun q => by rw [q]) (fun q => by rw [q]) (fun q => by rw [q]) (by rcases h with e | e; rw [e]; omega; omega)
  exact bx_sup3 ⟨_, _, p1⟩ ⟨_, _, p2⟩ ⟨_, _, p1⟩ ⟨_, _, p2⟩ ⟨_, _, p1⟩ ⟨_, _, p2⟩
