/-! ===== the hull of a relation of three cells, from the least and the greatest values of its solutions ===== -/
theorem bx_hull {lo hi lo' hi' : Nat → Int} {a b c : Nat} {P : Int → Int → Int → Prop} {F L1 M1 L2 M2 L3 M3 : Int} (s1 : rg_sp F L1 M1 (fun u => ∃ v w, bx_t lo hi a b c P u v w)) (s2 : rg_sp F L2 M2 (fun v => ∃ u w, bx_t lo hi a b c P u v w)) (s3 : rg_sp F L3 M3 (fun w => ∃ u v, bx_t lo hi a b c P u v w)) (hne : ∃ u v w, bx_t lo hi a b c P u v w) (ea : lo' a = L1 ∧ hi' a = M1) (eb : lo' b = L2 ∧ hi' b = M2) (ec : lo' c = L3 ∧ hi' c = M3) : bx_snd (bx_3 a b c) (fun x => P (x a) (x b) (x c)) lo hi lo' hi' ∧ bx_sup (bx_3 a b c) (fun x => P (x a) (x b) (x c)) lo' hi' := by
  obtain ⟨u0, v0, w0, h0⟩ := hne
  obtain ⟨p1, q1⟩ := s1
  obtain ⟨p2, q2⟩ := s2
  obtain ⟨p3, q3⟩ := s3
  have snd : ∀ u v w, bx_t lo hi a b c P u v w → (lo' a ≤ u ∧ u ≤ hi' a) ∧ (lo' b ≤ v ∧ v ≤ hi' b) ∧ (lo' c ≤ w ∧ w ≤ hi' c) := fun u v w h => by
    rw [ea.1, ea.2, eb.1, eb.2, ec.1, ec.2]
    exact ⟨p1 u ⟨v, w, h⟩, p2 v ⟨u, w, h⟩, p3 w ⟨u, v, h⟩⟩
  have up : ∀ {u v w}, bx_t lo hi a b c P u v w → bx_t lo' hi' a b c P u v w := fun {u v w} h => by
    obtain ⟨g1, g2, g3⟩ := snd u v w h
    exact ⟨g1, g2, g3, h.2.2.2⟩
  have r1 := q1.resolve_left (fun q => q.2.2 u0 ⟨v0, w0, h0⟩)
  have r2 := q2.resolve_left (fun q => q.2.2 v0 ⟨u0, w0, h0⟩)
  have r3 := q3.resolve_left (fun q => q.2.2 w0 ⟨u0, v0, h0⟩)
  refine ⟨bx_snd3 snd, bx_sup3 ?_ ?_ ?_ ?_ ?_ ?_⟩
  · rw [ea.1]; obtain ⟨v, w, h⟩ := r1.1; exact ⟨v, w, up h⟩
  · rw [ea.2]; obtain ⟨v, w, h⟩ := r1.2; exact ⟨v, w, up h⟩
  · rw [eb.1]; obtain ⟨v, w, h⟩ := r2.1; exact ⟨v, w, up h⟩
  · rw [eb.2]; obtain ⟨v, w, h⟩ := r2.2; exact ⟨v, w, up h⟩
  · rw [ec.1]; obtain ⟨v, w, h⟩ := r3.1; exact ⟨v, w, up h⟩
  · rw [ec.2]; obtain ⟨v, w, h⟩ := r3.2; exact ⟨v, w, up h⟩
/-- the least and the greatest values of those solutions that have been met -/
def bx_met (F L1 M1 L2 M2 L3 M3 : Int) (D : Int → Int → Prop) (lo hi : Nat → Int) (a b c : Nat) (P : Int → Int → Int → Prop) : Prop := rg_sp F L1 M1 (fun u => ∃ v w, D u v ∧ bx_t lo hi a b c P u v w) ∧ rg_sp F L2 M2 (fun v => ∃ u w, D u v ∧ bx_t lo hi a b c P u v w) ∧ rg_sp F L3 M3 (fun w => ∃ u v, D u v ∧ bx_t lo hi a b c P u v w)
theorem bx_met0 {F : Int} {D : Int → Int → Prop} {lo hi : Nat → Int} {a b c : Nat} {P : Int → Int → Int → Prop} (h : ∀ u v w, D u v → ¬ bx_t lo hi a b c P u v w) : bx_met F F (-F) F (-F) F (-F) D lo hi a b c P := ⟨rg_sp0 fun _ ⟨v, w, p, q⟩ => h _ v w p q, rg_sp0 fun _ ⟨v, w, p, q⟩ => h v _ w p q, rg_sp0 fun _ ⟨v, w, p, q⟩ => h v w _ p q⟩
theorem bx_met_eq {F L1 M1 L2 M2 L3 M3 : Int} {D E : Int → Int → Prop} {lo hi : Nat → Int} {a b c : Nat} {P : Int → Int → Int → Prop} (h : bx_met F L1 M1 L2 M2 L3 M3 D lo hi a b c P) (e : ∀ u v w, bx_t lo hi a b c P u v w → (D u v ↔ E u v)) : bx_met F L1 M1 L2 M2 L3 M3 E lo hi a b c P := by
  obtain ⟨h1, h2, h3⟩ := h
  refine ⟨rg_sp_eq h1 fun x => ?_, rg_sp_eq h2 fun x => ?_, rg_sp_eq h3 fun x => ?_⟩
  · exact ⟨fun ⟨v, w, p, q⟩ => ⟨v, w, (e x v w q).mp p, q⟩, fun ⟨v, w, p, q⟩ => ⟨v, w, (e x v w q).mpr p, q⟩⟩
  · exact ⟨fun ⟨v, w, p, q⟩ => ⟨v, w, (e v x w q).mp p, q⟩, fun ⟨v, w, p, q⟩ => ⟨v, w, (e v x w q).mpr p, q⟩⟩
  · exact ⟨fun ⟨v, w, p, q⟩ => ⟨v, w, (e v w x q).mp p, q⟩, fun ⟨v, w, p, q⟩ => ⟨v, w, (e v w x q).mpr p, q⟩⟩
/-- all have been met -/
theorem bx_met_hull {F L1 M1 L2 M2 L3 M3 : Int} {D : Int → Int → Prop} {lo hi lo' hi' : Nat → Int} {a b c : Nat} {P : Int → Int → Int → Prop} (h : bx_met F L1 M1 L2 M2 L3 M3 D lo hi a b c P) (hD : ∀ u v w, bx_t lo hi a b c P u v w → D u v) (hF : 100 < F) (hok : hi a ≤ 100 ∧ -100 ≤ lo a) : (M1 < L1 ∧ L1 = F ∧ M1 = -F ∧ bx_no (bx_3 a b c) (fun x => P (x a) (x b) (x c)) lo hi) ∨ ((lo a ≤ L1 ∧ L1 ≤ M1 ∧ M1 ≤ hi a) ∧ (lo b ≤ L2 ∧ L2 ≤ M2 ∧ M2 ≤ hi b) ∧ (lo c ≤ L3 ∧ L3 ≤ M3 ∧ M3 ≤ hi c) ∧ (a = b → L1 = L2 ∧ M1 = M2) ∧ (a = c → L1 = L3 ∧ M1 = M3) ∧ (b = c → L2 = L3 ∧ M2 = M3) ∧ (lo' a = L1 ∧ hi' a = M1 → lo' b = L2 ∧ hi' b = M2 → lo' c = L3 ∧ hi' c = M3 → bx_snd (bx_3 a b c) (fun x => P (x a) (x b) (x c)) lo hi lo' hi' ∧ bx_sup (bx_3 a b c) (fun x => P (x a) (x b) (x c)) lo' hi')) := by
  obtain ⟨h1, h2, h3⟩ := h
  have g1 := rg_sp_eq (Y := fun u => ∃ v w, bx_t lo hi a b c P u v w) h1 (fun x => ⟨fun ⟨v, w, _, q⟩ => ⟨v, w, q⟩, fun ⟨v, w, q⟩ => ⟨v, w, hD _ _ _ q, q⟩⟩)
  have g2 := rg_sp_eq (Y := fun v => ∃ u w, bx_t lo hi a b c P u v w) h2 (fun x => ⟨fun ⟨v, w, _, q⟩ => ⟨v, w, q⟩, fun ⟨v, w, q⟩ => ⟨v, w, hD _ _ _ q, q⟩⟩)
  have g3 := rg_sp_eq (Y := fun w => ∃ u v, bx_t lo hi a b c P u v w) h3 (fun x => ⟨fun ⟨v, w, _, q⟩ => ⟨v, w, q⟩, fun ⟨v, w, q⟩ => ⟨v, w, hD _ _ _ q, q⟩⟩)
  rcases g1.2 with ⟨e1, e2, e3⟩ | ⟨a1, a2⟩
  · exact Or.inl ⟨by omega, e1, e2, bx_no3 fun u v w q => e3 u ⟨v, w, q⟩⟩
  · obtain ⟨u0, w0, t0⟩ := a1
    have b12 := g2.2.resolve_left (fun q => q.2.2 _ ⟨_, _, t0⟩)
    have c12 := g3.2.resolve_left (fun q => q.2.2 _ ⟨_, _, t0⟩)
    obtain ⟨b1, b2⟩ := b12
    obtain ⟨c1, c2⟩ := c12
    refine Or.inr ⟨?_, ?_, ?_, ?_, ?_, ?_, fun ea eb ec => bx_hull g1 g2 g3 ⟨_, _, _, t0⟩ ea eb ec⟩
    · obtain ⟨_, _, t2⟩ := a2
      have := g1.1 _ ⟨_, _, t2⟩
      have := t0.1
      have := t2.1
      omega
    · obtain ⟨_, _, t1⟩ := b1
      obtain ⟨_, _, t2⟩ := b2
      have := g2.1 _ ⟨_, _, t2⟩
      have := t1.2.1
      have := t2.2.1
      omega
    · obtain ⟨_, _, t1⟩ := c1
      obtain ⟨_, _, t2⟩ := c2
      have := g3.1 _ ⟨_, _, t2⟩
      have := t1.2.2.1
      have := t2.2.2.1
      omega
    · intro e
      obtain ⟨_, _, t2⟩ := a2
      obtain ⟨_, _, s1⟩ := b1
      obtain ⟨_, _, s2⟩ := b2
      have := t0.2.2.2.1 e
      have := t2.2.2.2.1 e
      have := s1.2.2.2.1 e
      have := s2.2.2.2.1 e
      have := g1.1 _ ⟨_, _, s1⟩
      have := g1.1 _ ⟨_, _, s2⟩
      have := g2.1 _ ⟨_, _, t0⟩
      have := g2.1 _ ⟨_, _, t2⟩
      omega
    · intro e
      obtain ⟨_, _, t2⟩ := a2
      obtain ⟨_, _, s1⟩ := c1
      obtain ⟨_, _, s2⟩ := c2
      have := t0.2.2.2.2.1 e
      have := t2.2.2.2.2.1 e
      have := s1.2.2.2.2.1 e
      have := s2.2.2.2.2.1 e
      have := g1.1 _ ⟨_, _, s1⟩
      have := g1.1 _ ⟨_, _, s2⟩
      have := g3.1 _ ⟨_, _, t0⟩
      have := g3.1 _ ⟨_, _, t2⟩
      omega
    · intro e
      obtain ⟨_, _, t1⟩ := b1
      obtain ⟨_, _, t2⟩ := b2
      obtain ⟨_, _, s1⟩ := c1
      obtain ⟨_, _, s2⟩ := c2
      have := t1.2.2.2.2.2.1 e
      have := t2.2.2.2.2.2.1 e
      have := s1.2.2.2.2.2.1 e
      have := s2.2.2.2.2.2.1 e
      have := g2.1 _ ⟨_, _, s1⟩
      have := g2.1 _ ⟨_, _, s2⟩
      have := g3.1 _ ⟨_, _, t1⟩
      have := g3.1 _ ⟨_, _, t2⟩
      omega
/-! ===== narrowing by a formula: through the values of the outer cell ===== -/
def fm_P (k v w z : Int) : Prop := (k = 2 → v ≠ 0) ∧ rg_res k v w = z
def fm_k (k : Int) (o i c : Nat) : Int := if c = i ∧ i ≠ o then 9 else k
def fm_f (k : Int) (lo hi : Nat → Int) (o i c : Nat) (v : Int) : Int := max (if i = o then v else lo i) (rg_lf (fm_k k o i c) v (if c = o then v else lo c) (if c = o then v else hi c))
def fm_t (k : Int) (lo hi : Nat → Int) (o i c : Nat) (v : Int) : Int := min (if i = o then v else hi i) (rg_mf (fm_k k o i c) v (if c = o then v else lo c) (if c = o then v else hi c))
theorem fm_lf_own {v l m : Int} (h : v = 0) : 100 < rg_lf 9 v l m := by
  simp only [rg_lf, Int.reduceEq, ↓reduceIte, h]; omega
theorem fm_fits {k : Int} {lo hi : Nat → Int} {o i c : Nat} {v w : Int} (hk : 0 ≤ k ∧ k ≤ 4) (ho : -100 ≤ lo o ∧ hi o ≤ 100) (hi' : -100 ≤ lo i ∧ hi i ≤ 100) (hc : -100 ≤ lo c ∧ lo c ≤ hi c ∧ hi c ≤ 100) (hown : c = i → i ≠ o → k = 2) (hv : lo o ≤ v ∧ v ≤ hi o) : (fm_f k lo hi o i c v ≤ w ∧ w ≤ fm_t k lo hi o i c v) ↔ bx_t lo hi o i c (fm_P k) v w (rg_res k v w) := by
  unfold fm_f fm_t bx_t fm_P
  by_cases h1 : i = o
  · subst h1
    have e1 : fm_k k i i c = k := if_neg (fun q => q.2 rfl)
    rw [e1]
    simp only [↓reduceIte]
    by_cases h2 : c = i
    · subst h2
      simp only [↓reduceIte]
      have f := rg_fit (k := k) (v := v) (w := v) (l := v) (m := v) hk (by omega) (by omega) (by omega)
      constructor
      · intro h
        have e : w = v := by omega
        subst e
        have := f.mp (by omega)
        exact ⟨by omega, by omega, by omega, by omega, fun _ => by omega, fun _ => by omega, this.1, trivial⟩
      · rintro ⟨a1, a2, a3, a4, a5, a6, a7, a8⟩
        have e : v = w := a4 trivial
        subst e
        have e2 : v = rg_res k v v := a5 trivial
        have := f.mpr ⟨a7, by omega⟩
        omega
    · simp only [if_neg h2]
      have f := rg_fit (k := k) (v := v) (w := v) (l := lo c) (m := hi c) hk (by omega) (by omega) (by omega)
      constructor
      · intro h
        have e : w = v := by omega
        subst e
        have := f.mp (by omega)
        exact ⟨by omega, by omega, by omega, by omega, fun q => absurd q.symm h2, fun q => absurd q.symm h2, this.1, trivial⟩
      · rintro ⟨a1, a2, a3, a4, a5, a6, a7, a8⟩
        have e : v = w := a4 trivial
        subst e
        have := f.mpr ⟨a7, by omega⟩
        omega
  · by_cases h2 : c = o
    · subst h2
      have e1 : fm_k k c i c = k := if_neg (fun q => h1 q.1.symm)
      rw [e1]
      simp only [↓reduceIte, if_neg h1]
      by_cases hw : -100 ≤ w ∧ w ≤ 100
      · have f := rg_fit (k := k) (v := v) (w := w) (l := v) (m := v) hk (by omega) hw (by omega)
        constructor
        · intro h
          have := f.mp (by omega)
          exact ⟨by omega, by omega, by omega, fun q => absurd q.symm h1, fun _ => by omega, fun q => absurd q h1, this.1, trivial⟩
        · rintro ⟨a1, a2, a3, a4, a5, a6, a7, a8⟩
          have e2 : v = rg_res k v w := a5 trivial
          have := f.mpr ⟨a7, by omega⟩
          omega
      · constructor
        · intro h; omega
        · rintro ⟨a1, a2, a3⟩; omega
    · simp only [if_neg h1, if_neg h2]
      by_cases hw : -100 ≤ w ∧ w ≤ 100
      · by_cases h3 : c = i
        · subst h3
          have e0 : k = 2 := hown rfl h1
          have e1 : fm_k k o c c = 9 := if_pos ⟨rfl, h1⟩
          rw [e1, (rg_own v (lo c) (hi c)).1, (rg_own v (lo c) (hi c)).2]
          subst e0
          simp only [rg_res, Int.reduceEq, ↓reduceIte, true_implies]
          by_cases hv0 : v = 0
          · have := fm_lf_own (v := v) (l := 0) (m := 0) hv0
            constructor
            · intro h; omega
            · rintro ⟨a1, a2, a3, a4, a5, a6, a7, a8⟩; omega
          · simp only [if_neg hv0]
            have f := fl_own (v := v) (w := w) hv0 hw
            constructor
            · intro h
              have := f.mp (by omega)
              exact ⟨by omega, by omega, by omega, fun q => absurd q.symm h1, fun q => absurd q.symm h2, by omega, hv0, trivial⟩
            · rintro ⟨a1, a2, a3, a4, a5, a6, a7, a8⟩
              have e2 : w = rs_fl w v := a6
              have := f.mpr (by omega)
              omega
        · have e1 : fm_k k o i c = k := if_neg (fun q => h3 q.1)
          rw [e1]
          have f := rg_fit (k := k) (v := v) (w := w) (l := lo c) (m := hi c) hk (by omega) hw (by omega)
          constructor
          · intro h
            have := f.mp (by omega)
            exact ⟨by omega, by omega, by omega, fun q => absurd q.symm h1, fun q => absurd q.symm h2, fun q => absurd q.symm h3, this.1, trivial⟩
          · rintro ⟨a1, a2, a3, a4, a5, a6, a7, a8⟩
            have := f.mpr ⟨a7, by omega⟩
            omega
      · constructor
        · intro h; omega
        · rintro ⟨a1, a2, a3⟩; omega
theorem fm_no {k : Int} {lo hi : Nat → Int} {o i c : Nat} {v : Int} {L1 M1 L2 M2 L3 M3 : Int} (hk : 0 ≤ k ∧ k ≤ 4) (ho : -100 ≤ lo o ∧ hi o ≤ 100) (hi' : -100 ≤ lo i ∧ hi i ≤ 100) (hc : -100 ≤ lo c ∧ lo c ≤ hi c ∧ hi c ≤ 100) (hown : c = i → i ≠ o → k = 2) (hv : lo o ≤ v ∧ v ≤ hi o) (h : bx_met 101 L1 M1 L2 M2 L3 M3 (fun x _ => x < v) lo hi o i c (fm_P k)) (hg : fm_t k lo hi o i c v < fm_f k lo hi o i c v) : bx_met 101 L1 M1 L2 M2 L3 M3 (fun x _ => x < v + 1) lo hi o i c (fm_P k) := bx_met_eq h (fun x w z hz => by
  have : x ≠ v := fun e => by
    subst e
    have e2 : rg_res k x w = z := hz.2.2.2.2.2.2.2
    have := (fm_fits (w := w) hk ho hi' hc hown hv).mpr (by rw [e2]; exact hz)
    omega
  omega)
theorem fm_yes {k : Int} {lo hi : Nat → Int} {o i c : Nat} {v : Int} {L1 M1 L2 M2 L3 M3 : Int} (hk : 0 ≤ k ∧ k ≤ 4) (ho : -100 ≤ lo o ∧ hi o ≤ 100) (hi' : -100 ≤ lo i ∧ hi i ≤ 100) (hc : -100 ≤ lo c ∧ lo c ≤ hi c ∧ hi c ≤ 100) (hown : c = i → i ≠ o → k = 2) (hv : lo o ≤ v ∧ v ≤ hi o) (h : bx_met 101 L1 M1 L2 M2 L3 M3 (fun x _ => x < v) lo hi o i c (fm_P k)) (hg : fm_f k lo hi o i c v ≤ fm_t k lo hi o i c v) : bx_met 101 (min L1 v) (max M1 v) (min (min L2 (fm_f k lo hi o i c v)) (fm_t k lo hi o i c v)) (max (max M2 (fm_f k lo hi o i c v)) (fm_t k lo hi o i c v)) (min (min L3 (rg_res k v (fm_f k lo hi o i c v))) (rg_res k v (fm_t k lo hi o i c v))) (max (max M3 (rg_res k v (fm_f k lo hi o i c v))) (rg_res k v (fm_t k lo hi o i c v))) (fun x _ => x < v + 1) lo hi o i c (fm_P k) := by
  have F := fun w => fm_fits (w := w) hk ho hi' hc hown hv
  have R : ∀ {x w z}, bx_t lo hi o i c (fm_P k) x w z → rg_res k x w = z := fun hz => hz.2.2.2.2.2.2.2
  obtain ⟨h1, h2, h3⟩ := h
  have f1 := (F (fm_f k lo hi o i c v)).mp ⟨Int.le_refl _, hg⟩
  have f2 := (F (fm_t k lo hi o i c v)).mp ⟨hg, Int.le_refl _⟩
  have b1 := f1.2.1
  have b2 := f2.2.1
  have b3 := f1.2.2.1
  have b4 := f2.2.2.1
  refine ⟨rg_sp1 (by omega) h1 (fun x => ⟨?_, ?_⟩), rg_sp2 (by omega) (by omega) h2 ?_ ?_ ?_ ?_, rg_sp2 (by omega) (by omega) h3 ?_ ?_ ?_ ?_⟩
  · rintro ⟨w, z, a, b⟩
    by_cases e : x = v
    · exact Or.inr e
    · exact Or.inl ⟨w, z, by omega, b⟩
  · rintro (⟨w, z, a, b⟩ | e)
    · exact ⟨w, z, by omega, b⟩
    · subst e; exact ⟨_, _, by omega, f1⟩
  · rintro x ⟨u, z, a, b⟩; exact ⟨u, z, by omega, b⟩
  · exact ⟨v, _, by omega, f1⟩
  · exact ⟨v, _, by omega, f2⟩
  · rintro x ⟨u, z, a, b⟩
    by_cases e : u = v
    · subst e
      have e2 := R b
      have := (F x).mpr (by rw [e2]; exact b)
      exact Or.inr (by omega)
    · exact Or.inl ⟨u, z, by omega, b⟩
  · rintro x ⟨u, w, a, b⟩; exact ⟨u, w, by omega, b⟩
  · exact ⟨v, _, by omega, f1⟩
  · exact ⟨v, _, by omega, f2⟩
  · rintro x ⟨u, w, a, b⟩
    by_cases e : u = v
    · subst e
      have e2 := R b
      have := (F w).mpr (by rw [e2]; exact b)
      have := rg_btw (k := k) (v := u) hk this.1 this.2
      exact Or.inr (by omega)
    · exact Or.inl ⟨u, w, by omega, b⟩
