/-! ===== settling ===== -/
/-- every supported box of the first one lies in the second -/
def bx_kp (n : Nat) (G : Nat → Prop) (S : Nat → Nat → Prop) (Q : Nat → (Nat → Int) → Prop) (lo hi lo' hi' : Nat → Int) : Prop := ∀ l h, bx_all n G S Q l h → bx_le n lo hi l h → bx_le n lo' hi' l h
theorem kp_rf {n : Nat} {G : Nat → Prop} {S : Nat → Nat → Prop} {Q : Nat → (Nat → Int) → Prop} {lo hi : Nat → Int} : bx_kp n G S Q lo hi lo hi := fun _ _ _ h => h
theorem kp_step {n r : Nat} {G : Nat → Prop} {S : Nat → Nat → Prop} {Q : Nat → (Nat → Int) → Prop} {lo0 hi0 lo hi lo' hi' : Nat → Int} (h : bx_kp n G S Q lo0 hi0 lo hi) (hG : G r) (hS : ∀ j, S r j → j < n) (hs : bx_snd (S r) (Q r) lo hi lo' hi') (ho : ∀ j, ¬ S r j → lo' j = lo j ∧ hi' j = hi j) : bx_kp n G S Q lo0 hi0 lo' hi' := fun l g hl hg => bx_keep hS hs ho (h l g hl hg) (hl.2 r hG)
theorem kp_brk {n r : Nat} {G : Nat → Prop} {S : Nat → Nat → Prop} {Q : Nat → (Nat → Int) → Prop} {lo0 hi0 lo hi : Nat → Int} (h : bx_kp n G S Q lo0 hi0 lo hi) (hG : G r) (hS : ∀ j, S r j → j < n) (he : ∃ j, S r j) (hn : bx_no (S r) (Q r) lo hi) : bx_brk n G S Q lo0 hi0 := fun l g hl hg => bx_none hS he hn (h l g hl hg) (hl.2 r hG)
theorem kp_fix {n : Nat} {G : Nat → Prop} {S : Nat → Nat → Prop} {Q : Nat → (Nat → Int) → Prop} {lo0 hi0 lo hi : Nat → Int} (h : bx_kp n G S Q lo0 hi0 lo hi) (hl : bx_le n lo0 hi0 lo hi) (ho : bx_ok n lo hi) (hs : ∀ r, G r → bx_sup (S r) (Q r) lo hi) : bx_fix n G S Q lo0 hi0 lo hi := ⟨hl, ⟨fun j hj => (ho j hj).2.1, hs⟩, h⟩
theorem brk_empty {n j : Nat} {G : Nat → Prop} {S : Nat → Nat → Prop} {Q : Nat → (Nat → Int) → Prop} {lo hi : Nat → Int} (hj : j < n) (h : hi j < lo j) : bx_brk n G S Q lo hi := fun l g hl hg => by
  have := hl.1 j hj
  have := hg j hj
  omega
/-- how much there is to narrow -/
def mz (lo hi : Nat → Int) : Nat → Nat
  | 0 => 0
  | n + 1 => mz lo hi n + (hi n - lo n).toNat
theorem mz_le {lo hi lo' hi' : Nat → Int} : ∀ n, bx_le n lo hi lo' hi' → mz lo' hi' n ≤ mz lo hi n
  | 0, _ => Nat.le_refl _
  | n + 1, h => by
    have h1 := mz_le n (fun j hj => h j (by omega))
    have := h n (by omega)
    simp only [mz]
    omega
theorem mz_lt {lo hi lo' hi' : Nat → Int} : ∀ n, bx_le n lo hi lo' hi' → (∃ j, j < n ∧ lo' j ≤ hi' j ∧ ¬ (lo' j = lo j ∧ hi' j = hi j)) → mz lo' hi' n < mz lo hi n
  | 0, _, ⟨j, hj, _⟩ => by omega
  | n + 1, h, ⟨j, hj, h2, h3⟩ => by
    have a := h n (by omega)
    have b := mz_le n (fun j hj => h j (by omega) : bx_le n lo hi lo' hi')
    simp only [mz]
    by_cases e : j = n
    · subst e; omega
    · have := mz_lt n (fun j hj => h j (by omega)) ⟨j, by omega, h2, h3⟩
      omega
theorem mz_top {lo hi : Nat → Int} : ∀ n, bx_ok n lo hi → mz lo hi n ≤ 200 * n
  | 0, _ => by simp [mz]
  | n + 1, h => by
    have h1 := mz_top n (fun j hj => h j (by omega))
    have := h n (by omega)
    simp only [mz]
    omega
theorem mz_eq {lo hi lo' hi' : Nat → Int} (n : Nat) (h : ∀ j, j < n → lo' j = lo j ∧ hi' j = hi j) : mz lo' hi' n = mz lo hi n := by
  have h1 := mz_le n (fun j hj => by have := h j hj; omega : bx_le n lo hi lo' hi')
  have h2 := mz_le n (fun j hj => by have := h j hj; omega : bx_le n lo' hi' lo hi)
  omega
/-- the class: what stands when the relations in Du are due -/
def cs_inv (n : Nat) (G : Nat → Prop) (S : Nat → Nat → Prop) (Q : Nat → (Nat → Int) → Prop) (lo0 hi0 lo hi : Nat → Int) (Du : Nat → Prop) : Prop := bx_ok n lo hi ∧ bx_le n lo0 hi0 lo hi ∧ bx_kp n G S Q lo0 hi0 lo hi ∧ ∀ r, G r → ¬ Du r → bx_sup (S r) (Q r) lo hi
theorem cs_step {n r : Nat} {G : Nat → Prop} {S : Nat → Nat → Prop} {Q : Nat → (Nat → Int) → Prop} {lo0 hi0 lo hi lo' hi' : Nat → Int} {Du Du' : Nat → Prop} (h : cs_inv n G S Q lo0 hi0 lo hi Du) (hG : G r) (hS : ∀ j, S r j → j < n) (hok : bx_ok n lo' hi') (hle : bx_le n lo hi lo' hi') (hs : bx_snd (S r) (Q r) lo hi lo' hi') (hp : bx_sup (S r) (Q r) lo' hi') (ho : ∀ j, ¬ S r j → lo' j = lo j ∧ hi' j = hi j) (hd : ∀ s, G s → s ≠ r → (Du s ∨ ∃ j, S s j ∧ ¬ (lo' j = lo j ∧ hi' j = hi j)) → Du' s) : cs_inv n G S Q lo0 hi0 lo' hi' Du' := by
  obtain ⟨h1, h2, h3, h4⟩ := h
  refine ⟨hok, bx_le_tr h2 hle, kp_step h3 hG hS hs ho, fun s hs' hn => ?_⟩
  by_cases e : s = r
  · rw [e]; exact hp
  · have g : ¬ (Du s ∨ ∃ j, S s j ∧ ¬ (lo' j = lo j ∧ hi' j = hi j)) := fun q => hn (hd s hs' e q)
    refine bx_sup_eq (fun j hj => Classical.byContradiction fun q => g (Or.inr ⟨j, hj, q⟩)) (h4 s hs' (fun q => g (Or.inl q)))
theorem cs_end {n : Nat} {G : Nat → Prop} {S : Nat → Nat → Prop} {Q : Nat → (Nat → Int) → Prop} {lo0 hi0 lo hi : Nat → Int} {Du : Nat → Prop} (h : cs_inv n G S Q lo0 hi0 lo hi Du) (hd : ∀ r, G r → ¬ Du r) : bx_fix n G S Q lo0 hi0 lo hi := kp_fix h.2.2.1 h.2.1 h.1 (fun r hr => h.2.2.2 r hr (hd r hr))
