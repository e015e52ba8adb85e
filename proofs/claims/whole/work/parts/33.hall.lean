/-! ===== numbers that are all different within ranges: when there are such ===== -/
def hl_c (p : Nat → Bool) : List Nat → Nat
  | [] => 0
  | j :: l => (if p j = true then 1 else 0) + hl_c p l
theorem hl_m {p q : Nat → Bool} : ∀ {l : List Nat}, (∀ j ∈ l, p j = true → q j = true) → hl_c p l ≤ hl_c q l
  | [], _ => Nat.le_refl _
  | j :: l, h => by
    have h1 := hl_m (l := l) (fun i hi => h i (List.mem_cons_of_mem _ hi))
    have h2 := h j List.mem_cons_self
    simp only [hl_c]
    by_cases hp : p j = true
    · rw [if_pos hp, if_pos (h2 hp)]; omega
    · rw [if_neg hp]; split <;> omega
theorem hl_f {p q : Nat → Bool} {b : Nat} : ∀ {l : List Nat}, (∀ j ∈ l, j ≠ b → q j = true → p j = true) → hl_c q (l.filter (fun j => decide (j ≠ b))) ≤ hl_c p l
  | [], _ => Nat.le_refl _
  | j :: l, h => by
    have h1 := hl_f (l := l) (fun i hi => h i (List.mem_cons_of_mem _ hi))
    have h2 := h j List.mem_cons_self
    by_cases e : j = b
    · rw [List.filter_cons_of_neg (by simp [e])]
      simp only [hl_c]
      omega
    · rw [List.filter_cons_of_pos (by simp [e])]
      simp only [hl_c]
      by_cases hq : q j = true
      · rw [if_pos hq, if_pos (h2 e hq)]; omega
      · rw [if_neg hq]; split <;> omega
theorem hl_d {p q : Nat → Bool} {b : Nat} (pb : p b = true) : ∀ {l : List Nat}, b ∈ l → (∀ j ∈ l, j ≠ b → q j = true → p j = true) → hl_c q (l.filter (fun j => decide (j ≠ b))) + 1 ≤ hl_c p l
  | [], hb, _ => by cases hb
  | j :: l, hb, h => by
    have h2 := h j List.mem_cons_self
    by_cases e : j = b
    · rw [List.filter_cons_of_neg (by simp [e])]
      have h1 := hl_f (l := l) (p := p) (q := q) (b := b) (fun i hi => h i (List.mem_cons_of_mem _ hi))
      simp only [hl_c]
      rw [e, if_pos pb]
      omega
    · have hb' : b ∈ l := by
        rcases List.mem_cons.mp hb with g | g
        · exact absurd g.symm e
        · exact g
      have h1 := hl_d pb (l := l) hb' (fun i hi => h i (List.mem_cons_of_mem _ hi))
      rw [List.filter_cons_of_pos (by simp [e])]
      simp only [hl_c]
      by_cases hq : q j = true
      · rw [if_pos hq, if_pos (h2 e hq)]; omega
      · rw [if_neg hq]; split <;> omega
def hl_in (lo hi : Nat → Int) (s e : Int) (j : Nat) : Bool := decide (s ≤ lo j ∧ hi j ≤ e)
theorem hl_in_iff {lo hi : Nat → Int} {s e : Int} {j : Nat} : hl_in lo hi s e j = true ↔ s ≤ lo j ∧ hi j ≤ e := by simp [hl_in]
theorem hl_min (lo hi : Nat → Int) : ∀ (l : List Nat), l ≠ [] → ∃ b, b ∈ l ∧ ∀ j ∈ l, lo b < lo j ∨ (lo b = lo j ∧ hi b ≤ hi j)
  | [], h => absurd rfl h
  | [a], _ => ⟨a, List.mem_cons_self, fun j hj => by
    have e : j = a := by simpa using hj
    subst e
    omega⟩
  | a :: c :: l, _ => by
    obtain ⟨b, h1, h2⟩ := hl_min lo hi (c :: l) (by simp)
    by_cases g : lo b < lo a ∨ (lo b = lo a ∧ hi b ≤ hi a)
    · refine ⟨b, List.mem_cons_of_mem _ h1, fun j hj => ?_⟩
      rcases List.mem_cons.mp hj with e | e
      · subst e; exact g
      · exact h2 j e
    · refine ⟨a, List.mem_cons_self, fun j hj => ?_⟩
      rcases List.mem_cons.mp hj with e | e
      · subst e; omega
      · have := h2 j e
        omega
/-- if no range has more members within it than it has numbers, there are such numbers -/
theorem hl_ex : ∀ (n : Nat) (ms : List Nat), ms.length ≤ n → ∀ (lo hi : Nat → Int), (∀ s e : Int, (hl_c (hl_in lo hi s e) ms : Int) ≤ max 0 (e - s + 1)) →
    ∃ f : Nat → Int, (∀ j ∈ ms, lo j ≤ f j ∧ f j ≤ hi j) ∧ ∀ i ∈ ms, ∀ j ∈ ms, f i = f j → i = j
  | 0, [], _, _, _, _ => ⟨fun _ => 0, fun j hj => (by cases hj), fun i hi => (by cases hi)⟩
  | 0, _ :: _, h, _, _, _ => by simp at h
  | n + 1, ms, hn, lo, hi, H => by
    by_cases hms : ms = []
    · subst hms
      exact ⟨fun _ => 0, fun j hj => (by cases hj), fun i hi => (by cases hi)⟩
    obtain ⟨b, hb, hmin⟩ := hl_min lo hi ms hms
    have hlen : (ms.filter (fun j => decide (j ≠ b))).length ≤ n := by
      have : (ms.filter (fun j => decide (j ≠ b))).length < ms.length := by
        rw [List.length_filter_lt_length_iff_exists]
        exact ⟨b, hb, by simp⟩
      omega
    have hbb : lo b ≤ hi b := by
      have h1 := H (lo b) (hi b)
      have h2 : 1 ≤ hl_c (hl_in lo hi (lo b) (hi b)) ms := by
        have := hl_d (p := hl_in lo hi (lo b) (hi b)) (q := fun _ => false) (b := b) (hl_in_iff.mpr ⟨Int.le_refl _, Int.le_refl _⟩) hb (fun j _ _ h => by cases h)
        omega
      omega
    obtain ⟨f, f1, f2⟩ := hl_ex n (ms.filter (fun j => decide (j ≠ b))) hlen (fun j => max (lo j) (lo b + 1)) hi (fun s e => by
      by_cases hs : lo b + 1 < s
      · have h1 := H s e
        have h2 := hl_f (l := ms) (b := b) (p := hl_in lo hi s e) (q := hl_in (fun j => max (lo j) (lo b + 1)) hi s e) (fun j _ _ h => by
          rw [hl_in_iff] at h ⊢
          omega)
        omega
      · by_cases hbe : hi b ≤ e
        · have h1 := H (lo b) e
          have h2 := hl_d (l := ms) (b := b) (p := hl_in lo hi (lo b) e) (q := hl_in (fun j => max (lo j) (lo b + 1)) hi s e) (hl_in_iff.mpr ⟨Int.le_refl _, hbe⟩) hb (fun j hj _ h => by
            rw [hl_in_iff] at h ⊢
            have := hmin j hj
            omega)
          omega
        · have h1 := H (lo b + 1) e
          have h2 := hl_f (l := ms) (b := b) (p := hl_in lo hi (lo b + 1) e) (q := hl_in (fun j => max (lo j) (lo b + 1)) hi s e) (fun j hj _ h => by
            rw [hl_in_iff] at h ⊢
            have := hmin j hj
            omega)
          omega)
    have mem : ∀ j ∈ ms, j ≠ b → j ∈ ms.filter (fun j => decide (j ≠ b)) := fun j hj hne => List.mem_filter.mpr ⟨hj, by simp [hne]⟩
    refine ⟨fun j => if j = b then lo b else f j, fun j hj => ?_, fun i hi' j hj => ?_⟩
    · dsimp only
      by_cases e : j = b
      · rw [if_pos e, e]; omega
      · rw [if_neg e]
        have := f1 j (mem j hj e)
        omega
    · dsimp only
      by_cases e1 : i = b <;> by_cases e2 : j = b
      · intro _; rw [e1, e2]
      · rw [if_pos e1, if_neg e2]
        have := f1 j (mem j hj e2)
        intro q; omega
      · rw [if_neg e1, if_pos e2]
        have := f1 i (mem i hi' e1)
        intro q; omega
      · rw [if_neg e1, if_neg e2]
        exact f2 i (mem i hi' e1) j (mem j hj e2)
/-- the pigeons -/
theorem hl_pig (f : Nat → Int) : ∀ (n : Nat) (s : Int) (l : List Nat), l.Nodup → (∀ j ∈ l, s ≤ f j ∧ f j < s + n) → (∀ i ∈ l, ∀ j ∈ l, f i = f j → i = j) → l.length ≤ n
  | 0, s, l, _, h, _ => by
    cases l with
    | nil => simp
    | cons j l => have := h j List.mem_cons_self; omega
  | n + 1, s, l, hd, h, hi => by
    by_cases g : ∃ b, b ∈ l ∧ f b = s + n
    · obtain ⟨b, hb, eb⟩ := g
      have h1 := hl_pig f n s (l.erase b) (hd.erase b) (fun j hj => by
        have hj' := (List.Nodup.mem_erase_iff hd).mp hj
        have := h j hj'.2
        have hne : f j ≠ f b := fun q => hj'.1 (hi j hj'.2 b hb q)
        omega) (fun i hi' j hj => hi i (List.mem_of_mem_erase hi') j (List.mem_of_mem_erase hj))
      rw [List.length_erase_of_mem hb] at h1
      omega
    · have h1 := hl_pig f n s l hd (fun j hj => by
        have := h j hj
        have hne : f j ≠ s + n := fun q => g ⟨j, hj, q⟩
        omega) hi
      omega
theorem hl_len (p : Nat → Bool) : ∀ l : List Nat, hl_c p l = (l.filter p).length
  | [] => rfl
  | j :: l => by
    simp only [hl_c]
    by_cases h : p j = true
    · rw [if_pos h, List.filter_cons_of_pos h, List.length_cons, hl_len p l]; omega
    · rw [if_neg h, List.filter_cons_of_neg h, hl_len p l]; omega
theorem hl_cf (p q : Nat → Bool) : ∀ l : List Nat, hl_c p (l.filter q) = hl_c (fun j => q j && p j) l
  | [] => rfl
  | j :: l => by
    by_cases h : q j = true
    · rw [List.filter_cons_of_pos h]
      simp only [hl_c, h, Bool.true_and, hl_cf p q l]
    · rw [List.filter_cons_of_neg h]
      have h' : q j = false := by simpa using h
      simp only [hl_c, h', Bool.false_and, hl_cf p q l, Bool.false_eq_true, ↓reduceIte, Nat.zero_add]
theorem hl_k {p q : Nat → Bool} {k : Nat} : ∀ {l : List Nat}, l.Nodup → (∀ j ∈ l, j ≠ k → q j = true → p j = true) → hl_c q l ≤ hl_c p l + 1
  | [], _, _ => by simp [hl_c]
  | j :: l, hd, h => by
    have hd' := List.nodup_cons.mp hd
    simp only [hl_c]
    by_cases e : j = k
    · have h1 := hl_m (p := q) (q := p) (l := l) (fun i hi hq => h i (List.mem_cons_of_mem _ hi) (fun g => hd'.1 (by rw [e, ← g]; exact hi)) hq)
      split <;> split <;> omega
    · have h1 := hl_k (p := p) (q := q) (k := k) hd'.2 (fun i hi => h i (List.mem_cons_of_mem _ hi))
      have h2 := h j List.mem_cons_self e
      by_cases g : q j = true
      · rw [if_pos g, if_pos (h2 g)]; omega
      · rw [if_neg g]; split <;> omega
def hl_ms (m : Nat) : List Nat := (List.range 10).filter (fun j => m.testBit j)
theorem hl_mem {m j : Nat} : j ∈ hl_ms m ↔ bx_M m j := by simp [hl_ms, bx_M]
theorem hl_nd (m : Nat) : (hl_ms m).Nodup := List.Pairwise.filter _ List.nodup_range
/-- how many members lie within s .. e -/
def hl_n (m : Nat) (lo hi : Nat → Int) (s e : Int) : Int := (hl_c (hl_in lo hi s e) (hl_ms m) : Nat)
/-- a filled range can be made to begin and to end with members' bounds -/
theorem hl_shr {m : Nat} {lo hi : Nat → Int} (hok : ∀ j, bx_M m j → lo j ≤ hi j) {s e : Int} (hp : 0 < hl_n m lo hi s e) : ∃ i j, bx_M m i ∧ bx_M m j ∧ s ≤ lo i ∧ hi j ≤ e ∧ lo i ≤ hi j ∧ hl_n m lo hi s e ≤ hl_n m lo hi (lo i) (hi j) := by
  have hne : (hl_ms m).filter (hl_in lo hi s e) ≠ [] := by
    intro q
    unfold hl_n at hp
    rw [hl_len, q] at hp
    simp at hp
  obtain ⟨i, i1, i2⟩ := hl_min lo hi _ hne
  obtain ⟨j, j1, j2⟩ := hl_min (fun x => - hi x) lo _ hne
  have mi := List.mem_filter.mp i1
  have mj := List.mem_filter.mp j1
  have ai := hl_in_iff.mp mi.2
  have aj := hl_in_iff.mp mj.2
  have oi := i2 j j1
  have okj := hok j (hl_mem.mp mj.1)
  refine ⟨i, j, hl_mem.mp mi.1, hl_mem.mp mj.1, ai.1, aj.2, by omega, ?_⟩
  unfold hl_n
  have := hl_m (p := hl_in lo hi s e) (q := hl_in lo hi (lo i) (hi j)) (l := hl_ms m) (fun x hx hq => by
    have a := i2 x (List.mem_filter.mpr ⟨hx, hq⟩)
    have b := j2 x (List.mem_filter.mpr ⟨hx, hq⟩)
    try dsimp only at b
    rw [hl_in_iff]
    omega)
  omega
/-- no range is overfull, and no filled one holds a bound of another member -/
def hl_fix (m : Nat) (lo hi : Nat → Int) : Prop := ∀ i j, bx_M m i → bx_M m j → lo i ≤ hi j → hl_n m lo hi (lo i) (hi j) ≤ hi j - lo i + 1 ∧ (hl_n m lo hi (lo i) (hi j) = hi j - lo i + 1 → ∀ k, bx_M m k → ¬ (lo i ≤ lo k ∧ hi k ≤ hi j) → ¬ (lo i ≤ lo k ∧ lo k ≤ hi j) ∧ ¬ (lo i ≤ hi k ∧ hi k ≤ hi j))
theorem hl_gen {m : Nat} {lo hi : Nat → Int} (hok : ∀ j, bx_M m j → lo j ≤ hi j) (hf : hl_fix m lo hi) (s e : Int) : hl_n m lo hi s e ≤ max 0 (e - s + 1) ∧ ∀ k, bx_M m k → ¬ (s ≤ lo k ∧ hi k ≤ e) → ((s ≤ lo k ∧ lo k ≤ e) ∨ (s ≤ hi k ∧ hi k ≤ e)) → hl_n m lo hi s e + 1 ≤ e - s + 1 := by
  have h0 : 0 ≤ hl_n m lo hi s e := by unfold hl_n; omega
  by_cases hp : 0 < hl_n m lo hi s e
  · obtain ⟨i, j, mi, mj, h1, h2, h3, h4⟩ := hl_shr hok hp
    obtain ⟨f1, f2⟩ := hf i j mi mj h3
    refine ⟨by omega, fun k mk hk hb => ?_⟩
    by_cases g : hl_n m lo hi s e = e - s + 1
    · have e1 : lo i = s := by omega
      have e2 : hi j = e := by omega
      rw [e1, e2] at f1 f2
      have := f2 (by omega) k mk hk
      omega
    · omega
  · exact ⟨by omega, fun k _ _ hb => by omega⟩
theorem hl_sup1 {m k : Nat} {lo hi : Nat → Int} (hok : ∀ j, bx_M m j → lo j ≤ hi j) (hf : hl_fix m lo hi) (hk : bx_M m k) {v : Int} (hv : v = lo k ∨ v = hi k) : ∃ x, bx_in (bx_M m) lo hi x ∧ bx_df m x ∧ x k = v := by
  have hokk := hok k hk
  obtain ⟨f, f1, f2⟩ := hl_ex (hl_ms m).length (hl_ms m) (Nat.le_refl _) (fun j => if j = k then v else lo j) (fun j => if j = k then v else hi j) (fun s e => by
    obtain ⟨g1, g2⟩ := hl_gen hok hf s e
    unfold hl_n at g1 g2
    by_cases a : (s ≤ lo k ∧ hi k ≤ e) ∨ ¬ (s ≤ v ∧ v ≤ e)
    · have := hl_m (p := hl_in (fun j => if j = k then v else lo j) (fun j => if j = k then v else hi j) s e) (q := hl_in lo hi s e) (l := hl_ms m) (fun j _ hq => by
        rw [hl_in_iff] at hq ⊢
        try dsimp only at hq
        by_cases ej : j = k
        · rw [if_pos ej, if_pos ej] at hq
          rw [ej]
          rcases a with a | a
          · exact a
          · exact absurd hq a
        · rw [if_neg ej, if_neg ej] at hq
          exact hq)
      omega
    · have a1 : ¬ (s ≤ lo k ∧ hi k ≤ e) := fun q => a (Or.inl q)
      have a2 : s ≤ v ∧ v ≤ e := Classical.byContradiction fun q => a (Or.inr q)
      have := g2 k hk a1 (by rcases hv with g | g <;> omega)
      have := hl_k (p := hl_in lo hi s e) (q := hl_in (fun j => if j = k then v else lo j) (fun j => if j = k then v else hi j) s e) (k := k) (l := hl_ms m) (hl_nd m) (fun j _ ej hq => by
        rw [hl_in_iff] at hq ⊢
        try dsimp only at hq
        rw [if_neg ej, if_neg ej] at hq
        exact hq)
      omega)
  refine ⟨f, fun j hj => ?_, fun i j hi' hj mi mj e => f2 i (hl_mem.mpr ⟨hi', mi⟩) j (hl_mem.mpr ⟨hj, mj⟩) e, ?_⟩
  · have := f1 j (hl_mem.mpr hj)
    try dsimp only at this
    by_cases ej : j = k
    · rw [if_pos ej, if_pos ej] at this
      rw [ej] at this ⊢
      rcases hv with g | g <;> omega
    · rw [if_neg ej, if_neg ej] at this
      exact this
  · have := f1 k (hl_mem.mpr hk)
    try dsimp only at this
    rw [if_pos rfl, if_pos rfl] at this
    omega
theorem hl_sup {m : Nat} {lo hi : Nat → Int} (hok : ∀ j, bx_M m j → lo j ≤ hi j) (hf : hl_fix m lo hi) : bx_sup (bx_M m) (bx_df m) lo hi := fun k hk => ⟨hl_sup1 hok hf hk (Or.inl rfl), hl_sup1 hok hf hk (Or.inr rfl)⟩
/-- members within a range have no more values than it -/
theorem hl_sat {m : Nat} {lo hi x : Nat → Int} (hx : bx_in (bx_M m) lo hi x) (hd : bx_df m x) {s e : Int} (hse : s ≤ e + 1) : hl_n m lo hi s e ≤ e - s + 1 := by
  have h := hl_pig x (e - s + 1).toNat s ((hl_ms m).filter (hl_in lo hi s e)) (List.Pairwise.filter _ (hl_nd m)) (fun j hj => by
    have a := List.mem_filter.mp hj
    have b := hl_in_iff.mp a.2
    have c := hx j (hl_mem.mp a.1)
    omega) (fun i hi' j hj e' => by
    have a := hl_mem.mp (List.mem_filter.mp hi').1
    have b := hl_mem.mp (List.mem_filter.mp hj).1
    exact hd i j a.1 b.1 a.2 b.2 e')
  unfold hl_n
  rw [hl_len]
  omega
/-- and a filled one has none for another member -/
theorem hl_out {m k : Nat} {lo hi x : Nat → Int} (hx : bx_in (bx_M m) lo hi x) (hd : bx_df m x) {s e : Int} (hse : s ≤ e + 1) (hn : hl_n m lo hi s e = e - s + 1) (hk : bx_M m k) (hout : ¬ (s ≤ lo k ∧ hi k ≤ e)) : ¬ (s ≤ x k ∧ x k ≤ e) := fun hxk => by
  have h := hl_pig x (e - s + 1).toNat s (k :: (hl_ms m).filter (hl_in lo hi s e)) (List.nodup_cons.mpr ⟨fun q => hout (hl_in_iff.mp (List.mem_filter.mp q).2), List.Pairwise.filter _ (hl_nd m)⟩) (fun j hj => by
    rcases List.mem_cons.mp hj with g | g
    · rw [g]; omega
    · have a := List.mem_filter.mp g
      have b := hl_in_iff.mp a.2
      have c := hx j (hl_mem.mp a.1)
      omega) (fun i hi' j hj e' => by
    have mm : ∀ y, y ∈ k :: (hl_ms m).filter (hl_in lo hi s e) → bx_M m y := fun y hy => by
      rcases List.mem_cons.mp hy with g | g
      · rw [g]; exact hk
      · exact hl_mem.mp (List.mem_filter.mp g).1
    exact hd i j (mm i hi').1 (mm j hj).1 (mm i hi').2 (mm j hj).2 e')
  unfold hl_n at hn
  rw [hl_len] at hn
  rw [List.length_cons] at h
  omega
theorem hl_pc : ∀ n, n < 1024 → rs_pc 10 n = ((hl_c (fun j => n.testBit j) (List.range 10) : Nat) : Int) := by decide +kernel
/-- counted by the bits of those within -/
theorem hl_pcn {m n : Nat} {lo hi : Nat → Int} {s e : Int} (hn : n < 1024) (h : ∀ j, j < 10 → (n.testBit j = true ↔ m.testBit j = true ∧ s ≤ lo j ∧ hi j ≤ e)) : rs_pc 10 n = hl_n m lo hi s e := by
  rw [hl_pc n hn]
  unfold hl_n hl_ms
  rw [hl_cf]
  have e1 := hl_m (p := fun j => n.testBit j) (q := fun j => m.testBit j && hl_in lo hi s e j) (l := List.range 10) (fun j hj hq => by
    have a := (h j (List.mem_range.mp hj)).mp hq
    simp only [Bool.and_eq_true, hl_in_iff]
    exact a)
  have e2 := hl_m (q := fun j => n.testBit j) (p := fun j => m.testBit j && hl_in lo hi s e j) (l := List.range 10) (fun j hj hq => by
    simp only [Bool.and_eq_true, hl_in_iff] at hq
    exact (h j (List.mem_range.mp hj)).mpr hq)
  omega
theorem hl_pcm {m : Nat} {lo hi : Nat → Int} {s e : Int} (hm : m < 1024) : hl_n m lo hi s e ≤ rs_pc 10 m := by
  rw [hl_pc m hm]
  unfold hl_n hl_ms
  rw [hl_cf]
  have e2 := hl_m (q := fun j => m.testBit j) (p := fun j => m.testBit j && hl_in lo hi s e j) (l := List.range 10) (fun j hj hq => by
    simp only [Bool.and_eq_true] at hq
    exact hq.1)
  omega
