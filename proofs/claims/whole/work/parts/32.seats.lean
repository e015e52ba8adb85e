/-! ===== seats: whether the cells that are not seated can have different values, from t on and without v ===== -/
def st_ok (U : Nat → Prop) (lo hi : Nat → Int) (v t : Int) : Prop := ∃ f : Nat → Int, (∀ j, U j → t ≤ f j ∧ lo j ≤ f j ∧ f j ≤ hi j ∧ f j ≠ v) ∧ ∀ i j, U i → U j → f i = f j → i = j
theorem st_eq {U V : Nat → Prop} {lo hi : Nat → Int} {v t : Int} (e : ∀ j, U j ↔ V j) : st_ok U lo hi v t ↔ st_ok V lo hi v t := by
  have : U = V := funext fun j => propext (e j)
  rw [this]
theorem st_empty {U : Nat → Prop} {lo hi : Nat → Int} {v t : Int} (h : ∀ j, ¬ U j) : st_ok U lo hi v t := ⟨fun _ => 0, fun j hj => absurd hj (h j), fun i _ hi => absurd hi (h i)⟩
theorem st_late {U : Nat → Prop} {lo hi : Nat → Int} {v t : Int} {j : Nat} (hj : U j) (h : hi j < t) : ¬ st_ok U lo hi v t := fun ⟨f, h1, _⟩ => by
  have := h1 j hj
  omega
theorem st_next {U : Nat → Prop} {lo hi : Nat → Int} {v t s : Int} (h : ∀ j, U j → s ≤ lo j) (hs : t ≤ s) : st_ok U lo hi v t ↔ st_ok U lo hi v s := by
  constructor
  · rintro ⟨f, h1, h2⟩
    exact ⟨f, fun j hj => by
      have := h1 j hj
      have := h j hj
      omega, h2⟩
  · rintro ⟨f, h1, h2⟩
    exact ⟨f, fun j hj => by
      have := h1 j hj
      omega, h2⟩
theorem st_skip {U : Nat → Prop} {lo hi : Nat → Int} {v : Int} : st_ok U lo hi v v ↔ st_ok U lo hi v (v + 1) := by
  constructor
  · rintro ⟨f, h1, h2⟩
    exact ⟨f, fun j hj => by
      have := h1 j hj
      omega, h2⟩
  · rintro ⟨f, h1, h2⟩
    exact ⟨f, fun j hj => by
      have := h1 j hj
      omega, h2⟩
theorem st_seat {U : Nat → Prop} {lo hi : Nat → Int} {v t : Int} {b : Nat} (hb : U b) (hl : lo b ≤ t) (hh : t ≤ hi b) (hv : t ≠ v) (hm : ∀ j, U j → lo j ≤ t → hi b ≤ hi j) : st_ok U lo hi v t ↔ st_ok (fun j => U j ∧ j ≠ b) lo hi v (t + 1) := by
  constructor
  · rintro ⟨f, h1, h2⟩
    refine ⟨fun j => if f j = t then f b else f j, fun j hj => ?_, fun i j hi hj e => ?_⟩
    · have a := h1 j hj.1
      have b' := h1 b hb
      have c : f j ≠ f b := fun q => hj.2 (h2 j b hj.1 hb q)
      dsimp only
      by_cases g : f j = t
      · rw [if_pos g]
        have := hm j hj.1 (by omega)
        omega
      · rw [if_neg g]
        omega
    · dsimp only at e
      have c : f i ≠ f b := fun q => hi.2 (h2 i b hi.1 hb q)
      have c' : f j ≠ f b := fun q => hj.2 (h2 j b hj.1 hb q)
      refine h2 i j hi.1 hj.1 ?_
      by_cases g : f i = t <;> by_cases g' : f j = t
      · omega
      · rw [if_pos g, if_neg g'] at e; omega
      · rw [if_neg g, if_pos g'] at e; omega
      · rw [if_neg g, if_neg g'] at e; omega
  · rintro ⟨f, h1, h2⟩
    refine ⟨fun j => if j = b then t else f j, fun j hj => ?_, fun i j hi hj e => ?_⟩
    · dsimp only
      by_cases g : j = b
      · rw [if_pos g, g]; omega
      · rw [if_neg g]
        have := h1 j ⟨hj, g⟩
        omega
    · dsimp only at e
      by_cases g : i = b <;> by_cases g' : j = b
      · rw [g, g']
      · rw [if_pos g, if_neg g'] at e
        have := h1 j ⟨hj, g'⟩
        omega
      · rw [if_neg g, if_pos g'] at e
        have := h1 i ⟨hi, g⟩
        omega
      · rw [if_neg g, if_neg g'] at e
        exact h2 i j ⟨hi, g⟩ ⟨hj, g'⟩ e
def bx_df (m : Nat) (x : Nat → Int) : Prop := ∀ i j, i < 10 → j < 10 → m.testBit i = true → m.testBit j = true → x i = x j → i = j
def bx_M (m : Nat) (j : Nat) : Prop := j < 10 ∧ m.testBit j = true
/-- cell k can have v in the box: just where the others have seats without it -/
theorem st_sup {m k : Nat} {lo hi : Nat → Int} {v : Int} (hk : bx_M m k) (hv : lo k ≤ v ∧ v ≤ hi k) (hlo : ∀ j, bx_M m j → -100 ≤ lo j) : st_ok (fun j => bx_M m j ∧ j ≠ k) lo hi v (-100) ↔ ∃ x, bx_in (bx_M m) lo hi x ∧ bx_df m x ∧ x k = v := by
  constructor
  · rintro ⟨f, h1, h2⟩
    refine ⟨fun j => if j = k then v else f j, fun j hj => ?_, fun i j hi hj mi mj e => ?_, if_pos rfl⟩
    · dsimp only
      by_cases g : j = k
      · rw [if_pos g, g]; exact hv
      · rw [if_neg g]
        have := h1 j ⟨hj, g⟩
        omega
    · dsimp only at e
      by_cases g : i = k <;> by_cases g' : j = k
      · rw [g, g']
      · rw [if_pos g, if_neg g'] at e
        have := h1 j ⟨⟨hj, mj⟩, g'⟩
        omega
      · rw [if_neg g, if_pos g'] at e
        have := h1 i ⟨⟨hi, mi⟩, g⟩
        omega
      · rw [if_neg g, if_neg g'] at e
        exact h2 i j ⟨⟨hi, mi⟩, g⟩ ⟨⟨hj, mj⟩, g'⟩ e
  · rintro ⟨x, h1, h2, h3⟩
    refine ⟨x, fun j hj => ?_, fun i j hi hj e => h2 i j hi.1.1 hj.1.1 hi.1.2 hj.1.2 e⟩
    have a := h1 j hj.1
    have b := hlo j hj.1
    refine ⟨by omega, a.1, a.2, fun q => hj.2 (h2 j k hj.1.1 hk.1 hj.1.2 hk.2 (by omega))⟩
