/-! ===== boxes, relations, and what narrowing keeps ===== -/
def bx_in (S : Nat → Prop) (lo hi x : Nat → Int) : Prop := ∀ j, S j → lo j ≤ x j ∧ x j ≤ hi j
/-- each end of each cell of the relation has a support -/
def bx_sup (S : Nat → Prop) (Q : (Nat → Int) → Prop) (lo hi : Nat → Int) : Prop := ∀ j, S j → (∃ x, bx_in S lo hi x ∧ Q x ∧ x j = lo j) ∧ (∃ x, bx_in S lo hi x ∧ Q x ∧ x j = hi j)
def bx_snd (S : Nat → Prop) (Q : (Nat → Int) → Prop) (lo hi lo' hi' : Nat → Int) : Prop := ∀ x, bx_in S lo hi x → Q x → bx_in S lo' hi' x
def bx_no (S : Nat → Prop) (Q : (Nat → Int) → Prop) (lo hi : Nat → Int) : Prop := ∀ x, bx_in S lo hi x → ¬ Q x
/-- the second box lies in the first one, as far as the first n cells go -/
def bx_le (n : Nat) (lo hi lo' hi' : Nat → Int) : Prop := ∀ j, j < n → lo j ≤ lo' j ∧ hi' j ≤ hi j
def bx_ok (n : Nat) (lo hi : Nat → Int) : Prop := ∀ j, j < n → -100 ≤ lo j ∧ lo j ≤ hi j ∧ hi j ≤ 100
def bx_all (n : Nat) (G : Nat → Prop) (S : Nat → Nat → Prop) (Q : Nat → (Nat → Int) → Prop) (lo hi : Nat → Int) : Prop := (∀ j, j < n → lo j ≤ hi j) ∧ ∀ r, G r → bx_sup (S r) (Q r) lo hi
/-- the greatest supported box in a box -/
def bx_fix (n : Nat) (G : Nat → Prop) (S : Nat → Nat → Prop) (Q : Nat → (Nat → Int) → Prop) (lo hi lo' hi' : Nat → Int) : Prop := bx_le n lo hi lo' hi' ∧ bx_all n G S Q lo' hi' ∧ ∀ l h, bx_all n G S Q l h → bx_le n lo hi l h → bx_le n lo' hi' l h
def bx_brk (n : Nat) (G : Nat → Prop) (S : Nat → Nat → Prop) (Q : Nat → (Nat → Int) → Prop) (lo hi : Nat → Int) : Prop := ∀ l h, bx_all n G S Q l h → ¬ bx_le n lo hi l h
theorem bx_le_tr {n : Nat} {a b c d e f : Nat → Int} (h : bx_le n a b c d) (g : bx_le n c d e f) : bx_le n a b e f := fun j hj => by
  have := h j hj
  have := g j hj
  omega
theorem bx_le_rf {n : Nat} {a b : Nat → Int} : bx_le n a b a b := fun j _ => by omega
theorem bx_in_le {n : Nat} {S : Nat → Prop} (hS : ∀ j, S j → j < n) {lo hi l h x : Nat → Int} (hl : bx_le n lo hi l h) (hx : bx_in S l h x) : bx_in S lo hi x := fun j hj => by
  have := hl j (hS j hj)
  have := hx j hj
  omega
/-- a sound narrowing keeps every supported box -/
theorem bx_keep {n : Nat} {S : Nat → Prop} {Q : (Nat → Int) → Prop} (hS : ∀ j, S j → j < n) {lo hi lo' hi' l h : Nat → Int} (hs : bx_snd S Q lo hi lo' hi') (ho : ∀ j, ¬ S j → lo' j = lo j ∧ hi' j = hi j) (hl : bx_le n lo hi l h) (hp : bx_sup S Q l h) : bx_le n lo' hi' l h := fun j hj => by
  by_cases hj' : S j
  · obtain ⟨⟨x, x1, x2, x3⟩, ⟨y, y1, y2, y3⟩⟩ := hp j hj'
    have := hs x (bx_in_le hS hl x1) x2 j hj'
    have := hs y (bx_in_le hS hl y1) y2 j hj'
    omega
  · obtain ⟨e1, e2⟩ := ho j hj'
    have := hl j hj
    omega
theorem bx_none {n : Nat} {S : Nat → Prop} {Q : (Nat → Int) → Prop} (hS : ∀ j, S j → j < n) (he : ∃ j, S j) {lo hi l h : Nat → Int} (hs : bx_no S Q lo hi) (hl : bx_le n lo hi l h) : ¬ bx_sup S Q l h := fun hp => by
  obtain ⟨j, hj⟩ := he
  obtain ⟨⟨x, x1, x2, x3⟩, _⟩ := hp j hj
  exact hs x (bx_in_le hS hl x1) x2
theorem bx_in_eq {S : Nat → Prop} {lo hi lo' hi' x : Nat → Int} (e : ∀ j, S j → lo' j = lo j ∧ hi' j = hi j) (h : bx_in S lo hi x) : bx_in S lo' hi' x := fun j hj => by
  have := e j hj
  have := h j hj
  omega
/-- a support stays where no cell of the relation changes -/
theorem bx_sup_eq {S : Nat → Prop} {Q : (Nat → Int) → Prop} {lo hi lo' hi' : Nat → Int} (e : ∀ j, S j → lo' j = lo j ∧ hi' j = hi j) (h : bx_sup S Q lo hi) : bx_sup S Q lo' hi' := fun j hj => by
  obtain ⟨⟨x, x1, x2, x3⟩, ⟨y, y1, y2, y3⟩⟩ := h j hj
  have := e j hj
  exact ⟨⟨x, bx_in_eq e x1, x2, by omega⟩, ⟨y, bx_in_eq e y1, y2, by omega⟩⟩
theorem bx_fix_uni {n : Nat} {G : Nat → Prop} {S : Nat → Nat → Prop} {Q : Nat → (Nat → Int) → Prop} {lo hi a b c d : Nat → Int} (h1 : bx_fix n G S Q lo hi a b) (h2 : bx_fix n G S Q lo hi c d) : ∀ j, j < n → a j = c j ∧ b j = d j := fun j hj => by
  have := h1.2.2 c d h2.2.1 h2.1 j hj
  have := h2.2.2 a b h1.2.1 h1.1 j hj
  omega
theorem bx_fix_brk {n : Nat} {G : Nat → Prop} {S : Nat → Nat → Prop} {Q : Nat → (Nat → Int) → Prop} {lo hi a b : Nat → Int} (h1 : bx_fix n G S Q lo hi a b) (h2 : bx_brk n G S Q lo hi) : False := h2 a b h1.2.1 h1.1
theorem bx_all_eq {n : Nat} {G : Nat → Prop} {S : Nat → Nat → Prop} {Q : Nat → (Nat → Int) → Prop} (hS : ∀ r, G r → ∀ j, S r j → j < n) {lo hi lo' hi' : Nat → Int} (e : ∀ j, j < n → lo' j = lo j ∧ hi' j = hi j) (h : bx_all n G S Q lo hi) : bx_all n G S Q lo' hi' := ⟨fun j hj => by
  have := e j hj
  have := h.1 j hj
  omega, fun r hr => bx_sup_eq (fun j hj => e j (hS r hr j hj)) (h.2 r hr)⟩
theorem bx_le_eq {n : Nat} {lo hi lo' hi' l h l' h' : Nat → Int} (e : ∀ j, j < n → lo' j = lo j ∧ hi' j = hi j) (e' : ∀ j, j < n → l' j = l j ∧ h' j = h j) (g : bx_le n lo hi l h) : bx_le n lo' hi' l' h' := fun j hj => by
  have := e j hj
  have := e' j hj
  have := g j hj
  omega
theorem bx_fix_eq {n : Nat} {G : Nat → Prop} {S : Nat → Nat → Prop} {Q : Nat → (Nat → Int) → Prop} (hS : ∀ r, G r → ∀ j, S r j → j < n) {lo hi lo' hi' a b a' b' : Nat → Int} (e : ∀ j, j < n → lo' j = lo j ∧ hi' j = hi j) (e' : ∀ j, j < n → a' j = a j ∧ b' j = b j) (h : bx_fix n G S Q lo hi a b) : bx_fix n G S Q lo' hi' a' b' := ⟨bx_le_eq e e' h.1, bx_all_eq hS e' h.2.1, fun l g hl hg => bx_le_eq e' (fun _ _ => ⟨rfl, rfl⟩) (h.2.2 l g hl (bx_le_eq (fun j hj => ⟨(e j hj).1.symm, (e j hj).2.symm⟩) (fun _ _ => ⟨rfl, rfl⟩) hg))⟩
theorem bx_brk_eq {n : Nat} {G : Nat → Prop} {S : Nat → Nat → Prop} {Q : Nat → (Nat → Int) → Prop} {lo hi lo' hi' : Nat → Int} (e : ∀ j, j < n → lo' j = lo j ∧ hi' j = hi j) (h : bx_brk n G S Q lo hi) : bx_brk n G S Q lo' hi' := fun l g hl hg => h l g hl (bx_le_eq (fun j hj => ⟨(e j hj).1.symm, (e j hj).2.symm⟩) (fun _ _ => ⟨rfl, rfl⟩) hg)
/-! three cells -/
def bx_3 (a b c : Nat) (j : Nat) : Prop := j = a ∨ j = b ∨ j = c
/-- values for three cells, which agree where two are one -/
def bx_t (lo hi : Nat → Int) (a b c : Nat) (P : Int → Int → Int → Prop) (u v w : Int) : Prop := (lo a ≤ u ∧ u ≤ hi a) ∧ (lo b ≤ v ∧ v ≤ hi b) ∧ (lo c ≤ w ∧ w ≤ hi c) ∧ (a = b → u = v) ∧ (a = c → u = w) ∧ (b = c → v = w) ∧ P u v w
theorem bx_t_x {lo hi : Nat → Int} {a b c : Nat} {P : Int → Int → Int → Prop} {u v w : Int} (h : bx_t lo hi a b c P u v w) : ∃ x, bx_in (bx_3 a b c) lo hi x ∧ P (x a) (x b) (x c) ∧ x a = u ∧ x b = v ∧ x c = w := by
  obtain ⟨h1, h2, h3, h4, h5, h6, h7⟩ := h
  have ea : (fun i => if i = a then u else if i = b then v else w) a = u := if_pos rfl
  have eb : (fun i => if i = a then u else if i = b then v else w) b = v := by
    dsimp only
    by_cases e : b = a
    · rw [if_pos e]; exact h4 e.symm
    · rw [if_neg e, if_pos rfl]
  have ec : (fun i => if i = a then u else if i = b then v else w) c = w := by
    dsimp only
    by_cases e : c = a
    · rw [if_pos e]; exact h5 e.symm
    · rw [if_neg e]
      by_cases e' : c = b
      · rw [if_pos e']; exact h6 e'.symm
      · rw [if_neg e']
  refine ⟨fun i => if i = a then u else if i = b then v else w, fun j hj => ?_, ?_, ea, eb, ec⟩
  · rcases hj with e | e | e
    · subst e; rw [ea]; exact h1
    · subst e; rw [eb]; exact h2
    · subst e; rw [ec]; exact h3
  · rw [ea, eb, ec]; exact h7
theorem bx_t_of {lo hi x : Nat → Int} {a b c : Nat} {P : Int → Int → Int → Prop} (h : bx_in (bx_3 a b c) lo hi x) (hP : P (x a) (x b) (x c)) : bx_t lo hi a b c P (x a) (x b) (x c) := ⟨h a (Or.inl rfl), h b (Or.inr (Or.inl rfl)), h c (Or.inr (Or.inr rfl)), fun e => by rw [e], fun e => by rw [e], fun e => by rw [e], hP⟩
theorem bx_sup3 {lo hi : Nat → Int} {a b c : Nat} {P : Int → Int → Int → Prop} (a1 : ∃ v w, bx_t lo hi a b c P (lo a) v w) (a2 : ∃ v w, bx_t lo hi a b c P (hi a) v w) (b1 : ∃ u w, bx_t lo hi a b c P u (lo b) w) (b2 : ∃ u w, bx_t lo hi a b c P u (hi b) w) (c1 : ∃ u v, bx_t lo hi a b c P u v (lo c)) (c2 : ∃ u v, bx_t lo hi a b c P u v (hi c)) : bx_sup (bx_3 a b c) (fun x => P (x a) (x b) (x c)) lo hi := by
  have f : ∀ {u v w}, bx_t lo hi a b c P u v w → ∃ x, bx_in (bx_3 a b c) lo hi x ∧ P (x a) (x b) (x c) ∧ x a = u ∧ x b = v ∧ x c = w := fun h => bx_t_x h
  obtain ⟨_, _, a1⟩ := a1
  obtain ⟨_, _, a2⟩ := a2
  obtain ⟨_, _, b1⟩ := b1
  obtain ⟨_, _, b2⟩ := b2
  obtain ⟨_, _, c1⟩ := c1
  obtain ⟨_, _, c2⟩ := c2
  obtain ⟨x1, p1, q1, r1, s1, t1⟩ := f a1
  obtain ⟨x2, p2, q2, r2, s2, t2⟩ := f a2
  obtain ⟨x3, p3, q3, r3, s3, t3⟩ := f b1
  obtain ⟨x4, p4, q4, r4, s4, t4⟩ := f b2
  obtain ⟨x5, p5, q5, r5, s5, t5⟩ := f c1
  obtain ⟨x6, p6, q6, r6, s6, t6⟩ := f c2
  intro j hj
  rcases hj with e | e | e
  · subst e; exact ⟨⟨x1, p1, q1, r1⟩, ⟨x2, p2, q2, r2⟩⟩
  · subst e; exact ⟨⟨x3, p3, q3, s3⟩, ⟨x4, p4, q4, s4⟩⟩
  · subst e; exact ⟨⟨x5, p5, q5, t5⟩, ⟨x6, p6, q6, t6⟩⟩
theorem bx_snd3 {lo hi lo' hi' : Nat → Int} {a b c : Nat} {P : Int → Int → Int → Prop} (h : ∀ u v w, bx_t lo hi a b c P u v w → (lo' a ≤ u ∧ u ≤ hi' a) ∧ (lo' b ≤ v ∧ v ≤ hi' b) ∧ (lo' c ≤ w ∧ w ≤ hi' c)) : bx_snd (bx_3 a b c) (fun x => P (x a) (x b) (x c)) lo hi lo' hi' := fun x hx hP => by
  obtain ⟨g1, g2, g3⟩ := h _ _ _ (bx_t_of hx hP)
  intro j hj
  rcases hj with e | e | e
  · subst e; exact g1
  · subst e; exact g2
  · subst e; exact g3
theorem bx_no3 {lo hi : Nat → Int} {a b c : Nat} {P : Int → Int → Int → Prop} (h : ∀ u v w, ¬ bx_t lo hi a b c P u v w) : bx_no (bx_3 a b c) (fun x => P (x a) (x b) (x c)) lo hi := fun _ hx hP => h _ _ _ (bx_t_of hx hP)
