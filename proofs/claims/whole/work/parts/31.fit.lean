/-! ===== the least and the greatest value that fits ===== -/
theorem fl_pos {x y k : Int} (hy : 0 < y) : k ≤ rs_fl x y ↔ k * y ≤ x := by
  obtain ⟨h1, h2⟩ := rs_fl_pos (x := x) hy
  constructor
  · intro h
    have := Int.mul_le_mul_of_nonneg_right h (Int.le_of_lt hy)
    omega
  · intro h
    have h3 : k * y < (rs_fl x y + 1) * y := by rw [Int.add_mul, Int.one_mul]; omega
    have := Int.lt_of_mul_lt_mul_right h3 (Int.le_of_lt hy)
    omega
theorem fl_neg {x y k : Int} (hy : y < 0) : k ≤ rs_fl x y ↔ x ≤ k * y := by
  obtain ⟨h1, h2⟩ := rs_fl_neg (x := x) hy
  constructor
  · intro h
    have := Int.mul_le_mul_of_nonpos_right h (Int.le_of_lt hy)
    omega
  · intro h
    have h3 : (rs_fl x y + 1) * y < k * y := by rw [Int.add_mul, Int.one_mul]; omega
    by_cases g : k ≤ rs_fl x y
    · exact g
    · have := Int.mul_le_mul_of_nonpos_right (show rs_fl x y + 1 ≤ k by omega) (Int.le_of_lt hy)
      omega
def rg_lf (k v l m : Int) : Int := if k = 0 then l - v else if k = 1 then (if v = 0 then (if l ≤ 0 ∧ 0 ≤ m then -101 else 101) else -(rs_fl (if 0 < v then -l else -m) v)) else if k = 2 then (if v = 0 then 101 else if 0 < v then l * v else (m + 1) * v + 1) else if k = 9 then (if v = 0 then 101 else if v = 1 then -101 else if 1 < v then -1 else 0) else if k = 3 then (if v < l then 101 else l) else (if v < l then l else -101)
def rg_mf (k v l m : Int) : Int := if k = 0 then m - v else if k = 1 then (if v = 0 then 101 else rs_fl (if 0 < v then m else l) v) else if k = 2 then (if 0 < v then m * v + v - 1 else l * v) else if k = 9 then (if v = 1 then 101 else 0) else if k = 3 then (if v ≤ m then 101 else m) else (if m < v then -101 else m)
def rg_res (k v w : Int) : Int := if k = 0 then v + w else if k = 1 then v * w else if k = 2 then (if v = 0 then -1000 else rs_fl w v) else if k = 3 then min v w else max v w
theorem fl_own {v w : Int} (h0 : v ≠ 0) (hw : -100 ≤ w ∧ w ≤ 100) : (rg_lf 9 v 0 0 ≤ w ∧ w ≤ rg_mf 9 v 0 0) ↔ rs_fl w v = w := by
  simp only [rg_lf, rg_mf, Int.reduceEq, ↓reduceIte, if_neg h0]
  by_cases h1 : v = 1
  · subst h1
    obtain ⟨h2, h3⟩ := rs_fl_pos (x := w) (y := 1) (by omega)
    rw [if_pos rfl, if_pos rfl]
    omega
  · rw [if_neg h1, if_neg h1]
    by_cases h2 : 1 < v
    · rw [if_pos h2]
      constructor
      · intro h
        have h3 := (fl_pos (x := w) (y := v) (k := w) (by omega))
        have h4 := (fl_pos (x := w) (y := v) (k := w + 1) (by omega))
        have e : w = 0 ∨ w = -1 := by omega
        rcases e with e | e
        · subst e; simp at h3 h4; omega
        · subst e; simp at h3 h4; omega
      · intro h
        have h3 := (fl_pos (x := w) (y := v) (k := w) (by omega))
        have h4 := (fl_pos (x := w) (y := v) (k := w + 1) (by omega))
        have h5 : w * v ≤ w := by omega
        have h6 : ¬ (w + 1) * v ≤ w := by omega
        have e1 : w * v = w * (v - 1) + w := by rw [Int.mul_sub, Int.mul_one]; omega
        have e2 : (w + 1) * v = (w + 1) * (v - 1) + w + 1 := by rw [Int.mul_sub, Int.mul_one]; omega
        by_cases g1 : 1 ≤ w
        · have := Int.mul_le_mul_of_nonneg_right g1 (show 0 ≤ v - 1 by omega)
          omega
        · by_cases g2 : w + 1 ≤ -1
          · have := Int.mul_le_mul_of_nonneg_right g2 (show 0 ≤ v - 1 by omega)
            omega
          · omega
    · rw [if_neg h2]
      have h3 := (fl_neg (x := w) (y := v) (k := w) (by omega))
      have h4 := (fl_neg (x := w) (y := v) (k := w + 1) (by omega))
      constructor
      · intro h
        have e : w = 0 := by omega
        subst e; simp at h3 h4; omega
      · intro h
        have h5 : w ≤ w * v := by omega
        have h6 : ¬ w ≤ (w + 1) * v := by omega
        have e1 : w * v = w - w * (1 - v) := by rw [Int.mul_sub, Int.mul_one]; omega
        have e2 : (w + 1) * v = w + 1 - (w + 1) * (1 - v) := by rw [Int.mul_sub, Int.mul_one]; omega
        by_cases g1 : 1 ≤ w
        · have := Int.mul_le_mul_of_nonneg_right g1 (show 0 ≤ 1 - v by omega)
          omega
        · by_cases g2 : w + 1 ≤ 0
          · have := Int.mul_le_mul_of_nonneg_right g2 (show 0 ≤ 1 - v by omega)
            omega
          · omega
theorem rg_own (v l m : Int) : rg_lf 9 v l m = rg_lf 9 v 0 0 ∧ rg_mf 9 v l m = rg_mf 9 v 0 0 := by
  simp only [rg_lf, rg_mf, Int.reduceEq, ↓reduceIte, and_self]
/-- what fits lies between the two -/
theorem rg_fit {k v w l m : Int} (hk : 0 ≤ k ∧ k ≤ 4) (hv : -100 ≤ v ∧ v ≤ 100) (hw : -100 ≤ w ∧ w ≤ 100) (hl : -100 ≤ l ∧ l ≤ m ∧ m ≤ 100) : (rg_lf k v l m ≤ w ∧ w ≤ rg_mf k v l m) ↔ (k = 2 → v ≠ 0) ∧ l ≤ rg_res k v w ∧ rg_res k v w ≤ m := by
  have hk' : k = 0 ∨ k = 1 ∨ k = 2 ∨ k = 3 ∨ k = 4 := by omega
  rcases hk' with e | e | e | e | e <;> subst e <;> simp only [rg_lf, rg_mf, rg_res, Int.reduceEq, ↓reduceIte, false_implies, true_and, true_implies]
  · omega
  · by_cases h0 : v = 0
    · subst h0
      simp only [↓reduceIte, Int.zero_mul]
      split <;> omega
    · simp only [if_neg h0]
      by_cases hp : 0 < v
      · simp only [if_pos hp]
        have h1 := fl_pos (x := -l) (y := v) (k := -w) hp
        have h2 := fl_pos (x := m) (y := v) (k := w) hp
        have e1 : -w * v = -(v * w) := by rw [Int.neg_mul, Int.mul_comm]
        have e2 : w * v = v * w := Int.mul_comm _ _
        omega
      · simp only [if_neg hp]
        have h1 := fl_neg (x := -m) (y := v) (k := -w) (by omega)
        have h2 := fl_neg (x := l) (y := v) (k := w) (by omega)
        have e1 : -w * v = -(v * w) := by rw [Int.neg_mul, Int.mul_comm]
        have e2 : w * v = v * w := Int.mul_comm _ _
        omega
  · by_cases h0 : v = 0
    · simp only [h0, ↓reduceIte]
      omega
    · simp only [if_neg h0]
      by_cases hp : 0 < v
      · simp only [if_pos hp]
        have h1 := fl_pos (x := w) (y := v) (k := l) hp
        have h2 := fl_pos (x := w) (y := v) (k := m + 1) hp
        have e1 : (m + 1) * v = m * v + v := by rw [Int.add_mul, Int.one_mul]
        omega
      · simp only [if_neg hp]
        have h1 := fl_neg (x := w) (y := v) (k := l) (by omega)
        have h2 := fl_neg (x := w) (y := v) (k := m + 1) (by omega)
        omega
  · split <;> split <;> omega
  · split <;> split <;> omega
/-- at the ends of a range of inner values the result has its least and its greatest value -/
theorem rg_btw {k v w x y : Int} (hk : 0 ≤ k ∧ k ≤ 4) (h1 : x ≤ w) (h2 : w ≤ y) : min (rg_res k v x) (rg_res k v y) ≤ rg_res k v w ∧ rg_res k v w ≤ max (rg_res k v x) (rg_res k v y) := by
  have hk' : k = 0 ∨ k = 1 ∨ k = 2 ∨ k = 3 ∨ k = 4 := by omega
  rcases hk' with e | e | e | e | e <;> subst e <;> simp only [rg_res, Int.reduceEq, ↓reduceIte]
  · omega
  · by_cases hp : 0 ≤ v
    · have := Int.mul_le_mul_of_nonneg_left h1 hp
      have := Int.mul_le_mul_of_nonneg_left h2 hp
      omega
    · have := Int.mul_le_mul_of_nonpos_left (show v ≤ 0 by omega) h1
      have := Int.mul_le_mul_of_nonpos_left (show v ≤ 0 by omega) h2
      omega
  · by_cases h0 : v = 0
    · simp only [h0, ↓reduceIte]
      omega
    · simp only [if_neg h0]
      by_cases hp : 0 < v
      · have a1 := (fl_pos (x := w) (y := v) (k := rs_fl x v) hp).mpr (by have := (rs_fl_pos (x := x) hp).1; omega)
        have a2 := (fl_pos (x := y) (y := v) (k := rs_fl w v) hp).mpr (by have := (rs_fl_pos (x := w) hp).1; omega)
        omega
      · have hn : v < 0 := by omega
        have a1 := (fl_neg (x := x) (y := v) (k := rs_fl w v) hn).mpr (by have := (rs_fl_neg (x := w) hn).1; omega)
        have a2 := (fl_neg (x := w) (y := v) (k := rs_fl y v) hn).mpr (by have := (rs_fl_neg (x := y) hn).1; omega)
        omega
  · omega
  · omega
/-- L and M are the least and the greatest of X, or F and -F where it is empty -/
def rg_sp (F L M : Int) (X : Int → Prop) : Prop := (∀ x, X x → L ≤ x ∧ x ≤ M) ∧ ((L = F ∧ M = -F ∧ ∀ x, ¬ X x) ∨ (X L ∧ X M))
theorem rg_sp0 {F : Int} {X : Int → Prop} (h : ∀ x, ¬ X x) : rg_sp F F (-F) X := ⟨fun x hx => absurd hx (h x), Or.inl ⟨rfl, rfl, h⟩⟩
theorem rg_sp_eq {F L M : Int} {X Y : Int → Prop} (h : rg_sp F L M X) (e : ∀ x, X x ↔ Y x) : rg_sp F L M Y := ⟨fun x hx => h.1 x ((e x).mpr hx), by
  rcases h.2 with ⟨a, b, c⟩ | ⟨a, b⟩
  · exact Or.inl ⟨a, b, fun x hx => c x ((e x).mpr hx)⟩
  · exact Or.inr ⟨(e _).mp a, (e _).mp b⟩⟩
theorem rg_sp1 {F L M v : Int} {X Y : Int → Prop} (hF : -F < v ∧ v < F) (h : rg_sp F L M X) (e : ∀ x, Y x ↔ X x ∨ x = v) : rg_sp F (min L v) (max M v) Y := by
  obtain ⟨h1, h2⟩ := h
  refine ⟨fun x hx => ?_, Or.inr ?_⟩
  · rcases (e x).mp hx with g | g
    · have := h1 x g; omega
    · omega
  · rcases h2 with ⟨a, b, c⟩ | ⟨a, b⟩
    · have e1 : min L v = v := by omega
      have e2 : max M v = v := by omega
      rw [e1, e2]
      exact ⟨(e v).mpr (Or.inr rfl), (e v).mpr (Or.inr rfl)⟩
    · have := h1 _ a
      constructor
      · by_cases g : L ≤ v
        · rw [show min L v = L by omega]; exact (e L).mpr (Or.inl a)
        · rw [show min L v = v by omega]; exact (e v).mpr (Or.inr rfl)
      · by_cases g : v ≤ M
        · rw [show max M v = M by omega]; exact (e M).mpr (Or.inl b)
        · rw [show max M v = v by omega]; exact (e v).mpr (Or.inr rfl)
theorem rg_sp2 {F L M v w : Int} {X Y : Int → Prop} (hv : -F < v ∧ v < F) (hw : -F < w ∧ w < F) (h : rg_sp F L M X) (e1 : ∀ x, X x → Y x) (e2 : Y v) (e3 : Y w) (e4 : ∀ x, Y x → X x ∨ (min v w ≤ x ∧ x ≤ max v w)) : rg_sp F (min (min L v) w) (max (max M v) w) Y := by
  have a := rg_sp1 (Y := fun x => X x ∨ x = v) hv h (fun x => Iff.rfl)
  have b := rg_sp1 (Y := fun x => (X x ∨ x = v) ∨ x = w) hw a (fun x => Iff.rfl)
  obtain ⟨b1, b2⟩ := b
  have c : ∀ x, (X x ∨ x = v) ∨ x = w → Y x := fun x hx => by
    rcases hx with (g | g) | g
    · exact e1 x g
    · rw [g]; exact e2
    · rw [g]; exact e3
  refine ⟨fun x hx => ?_, ?_⟩
  · have bv := b1 v (Or.inl (Or.inr rfl))
    have bw := b1 w (Or.inr rfl)
    rcases e4 x hx with g | g
    · exact b1 x (Or.inl (Or.inl g))
    · omega
  · rcases b2 with ⟨p, q, r⟩ | ⟨p, q⟩
    · exact absurd (Or.inr rfl) (r w)
    · exact Or.inr ⟨c _ p, c _ q⟩
/-! ===== narrowing where c rises with a and with b ===== -/
def bx_f (k x y z : Int) : Prop := if k = 0 then x + y = z else if k = 1 then x * y = z else if k = 2 then y ≠ 0 ∧ rs_fl x y = z else if k = 3 then min x y = z else if k = 4 then max x y = z else x < 1 ∨ y ≤ z
theorem ri_snd {k la ha lb hb lc hc a1 a2 b1 b2 c1 c2 u v w : Int} (hk : k = 0 ∨ k = 3 ∨ k = 4) (A : -100 ≤ la ∧ ha ≤ 100) (B : -100 ≤ lb ∧ hb ≤ 100) (C : -100 ≤ lc ∧ hc ≤ 100) (ea1 : a1 = max la (rg_lf k hb lc hc)) (ea2 : a2 = min ha (rg_mf k lb lc hc)) (eb1 : b1 = max lb (rg_lf k a2 lc hc)) (eb2 : b2 = min hb (rg_mf k a1 lc hc)) (ec1 : c1 = max lc (rg_res k a1 b1)) (ec2 : c2 = min hc (rg_res k a2 b2)) (hu : la ≤ u ∧ u ≤ ha) (hv : lb ≤ v ∧ v ≤ hb) (hw : lc ≤ w ∧ w ≤ hc) (hP : bx_f k u v w) : (a1 ≤ u ∧ u ≤ a2) ∧ (b1 ≤ v ∧ v ≤ b2) ∧ (c1 ≤ w ∧ w ≤ c2) := by
  have ha1 : a1 ≤ u := by rcases hk with e | e | e <;> subst e <;> simp only [bx_f, rg_lf, rg_mf, rg_res, Int.reduceEq, ↓reduceIte] at * <;> omega
  have ha2 : u ≤ a2 := by rcases hk with e | e | e <;> subst e <;> simp only [bx_f, rg_lf, rg_mf, rg_res, Int.reduceEq, ↓reduceIte] at * <;> omega
  clear ea1 ea2
  have hb1 : b1 ≤ v := by rcases hk with e | e | e <;> subst e <;> simp only [bx_f, rg_lf, rg_mf, rg_res, Int.reduceEq, ↓reduceIte] at * <;> omega
  have hb2 : v ≤ b2 := by rcases hk with e | e | e <;> subst e <;> simp only [bx_f, rg_lf, rg_mf, rg_res, Int.reduceEq, ↓reduceIte] at * <;> omega
  clear eb1 eb2
  refine ⟨⟨ha1, ha2⟩, ⟨hb1, hb2⟩, ?_⟩
  rcases hk with e | e | e <;> subst e <;> simp only [bx_f, rg_lf, rg_mf, rg_res, Int.reduceEq, ↓reduceIte] at * <;> omega
/-- a value of a that fits has partners -/
theorem ri_a {k lb hb lc hc x : Int} (hk : k = 0 ∨ k = 3 ∨ k = 4) (X : -100 ≤ x ∧ x ≤ 100) (B : -100 ≤ lb ∧ lb ≤ hb ∧ hb ≤ 100) (C : -100 ≤ lc ∧ lc ≤ hc ∧ hc ≤ 100) (h1 : rg_lf k hb lc hc ≤ x) (h2 : x ≤ rg_mf k lb lc hc) : ∃ y z, (lb ≤ y ∧ y ≤ hb) ∧ (lc ≤ z ∧ z ≤ hc) ∧ bx_f k x y z := by
  rcases hk with e | e | e <;> subst e <;> simp only [bx_f, rg_lf, rg_mf, rg_res, Int.reduceEq, ↓reduceIte] at *
  · exact ⟨max lb (lc - x), x + max lb (lc - x), by omega⟩
  · by_cases h : max lb lc ≤ min (min hb hc) x
    · exact ⟨max lb lc, max lb lc, by omega⟩
    · exact ⟨lb, x, by omega⟩
  · by_cases h : max (max lb lc) x ≤ min hb hc
    · exact ⟨max (max lb lc) x, max (max lb lc) x, by omega⟩
    · exact ⟨lb, x, by omega⟩
theorem bx_f_comm {k x y z : Int} (hk : k = 0 ∨ k = 3 ∨ k = 4) (h : bx_f k x y z) : bx_f k y x z := by
  rcases hk with e | e | e <;> subst e <;> simp only [bx_f, Int.reduceEq, ↓reduceIte] at * <;> omega
/-- what fits b's narrowed range fits the whole one -/
theorem ri_c {k la ha lb hb z : Int} (hk : k = 0 ∨ k = 3 ∨ k = 4) (A : la ≤ ha) (B : lb ≤ hb) (h1 : rg_res k la lb ≤ z) (h2 : z ≤ rg_res k ha hb) : ∃ x y, (la ≤ x ∧ x ≤ ha) ∧ (lb ≤ y ∧ y ≤ hb) ∧ bx_f k x y z := by
  rcases hk with e | e | e <;> subst e <;> simp only [bx_f, rg_lf, rg_mf, rg_res, Int.reduceEq, ↓reduceIte] at *
  · exact ⟨max la (z - hb), z - max la (z - hb), by omega⟩
  · by_cases h : la ≤ z
    · exact ⟨z, max lb z, by omega⟩
    · exact ⟨la, z, by omega⟩
  · by_cases h : z ≤ ha ∧ la ≤ z
    · exact ⟨z, lb, by omega⟩
    · exact ⟨la, z, by omega⟩
theorem ri_sup {k la ha lb hb lc hc a1 a2 b1 b2 c1 c2 : Int} (hk : k = 0 ∨ k = 3 ∨ k = 4) (A : -100 ≤ la ∧ la ≤ ha ∧ ha ≤ 100) (B : -100 ≤ lb ∧ lb ≤ hb ∧ hb ≤ 100) (C : -100 ≤ lc ∧ lc ≤ hc ∧ hc ≤ 100) (ea1 : a1 = max la (rg_lf k hb lc hc)) (ea2 : a2 = min ha (rg_mf k lb lc hc)) (eb1 : b1 = max lb (rg_lf k a2 lc hc)) (eb2 : b2 = min hb (rg_mf k a1 lc hc)) (ec1 : c1 = max lc (rg_res k a1 b1)) (ec2 : c2 = min hc (rg_res k a2 b2)) (ha : a1 ≤ a2) (hb' : b1 ≤ b2) (hc' : c1 ≤ c2) : (∀ x, x = a1 ∨ x = a2 → ∃ y z, (b1 ≤ y ∧ y ≤ b2) ∧ (c1 ≤ z ∧ z ≤ c2) ∧ bx_f k x y z) ∧ (∀ y, y = b1 ∨ y = b2 → ∃ x z, (a1 ≤ x ∧ x ≤ a2) ∧ (c1 ≤ z ∧ z ≤ c2) ∧ bx_f k x y z) ∧ (∀ z, z = c1 ∨ z = c2 → ∃ x y, (a1 ≤ x ∧ x ≤ a2) ∧ (b1 ≤ y ∧ y ≤ b2) ∧ bx_f k x y z) := by
  have S : ∀ {u v w}, _ → _ → _ → _ → _ := fun {u v w} hu hv hw hP => ri_snd (u := u) (v := v) (w := w) hk ⟨A.1, A.2.2⟩ ⟨B.1, B.2.2⟩ ⟨C.1, C.2.2⟩ ea1 ea2 eb1 eb2 ec1 ec2 hu hv hw hP
  refine ⟨fun x hx => ?_, fun y hy => ?_, fun z hz => ?_⟩
  · obtain ⟨y, z, h1, h2, h3⟩ := ri_a (x := x) hk (by omega) B C (by omega) (by omega)
    have := S (by omega) h1 h2 h3
    exact ⟨y, z, by omega, by omega, h3⟩
  · obtain ⟨x, z, h1, h2, h3⟩ := ri_a (x := y) (lb := a1) (hb := a2) hk (by omega) (by omega) C (by omega) (by omega)
    have h4 := bx_f_comm hk h3
    have := S (by omega) (by omega) h2 h4
    exact ⟨x, z, by omega, by omega, h4⟩
  · obtain ⟨x, y, h1, h2, h3⟩ := ri_c (z := z) hk ha hb' (by omega) (by omega)
    exact ⟨x, y, h1, h2, h3⟩
