/-! ===== what the constructors' machine says of the machine ===== -/
def kcv (b : Nat) : kc_V → Value
  | .inl z => .int (Int32.ofInt z)
  | .inr o => .ref (b + o)
def kok : kc_V → Prop
  | .inl z => rs_R z
  | .inr _ => True
theorem kcv_cat (b : Nat) (v : kc_V) : (kcv b v).category = 1 := by rcases v with z | o <;> rfl
def ksz (x : Nat × Nat × List (Option Nat)) : Nat := if x.1 = 1 then (rs_cl x.2.1).2.2 else x.2.1
def ksl : kc_G → Nat
  | [] => 0
  | x :: g => ksz x + ksl g
theorem ksl_app : ∀ (g : kc_G) (x : Nat × Nat × List (Option Nat)), ksl (g ++ [x]) = ksl g + ksz x
  | [], x => by simp [ksl]
  | y :: g, x => by
    show ksz y + ksl (g ++ [x]) = ksz y + ksl g + ksz x
    rw [ksl_app g x]
    omega
theorem ksl_set : ∀ {g : kc_G} {o : Nat} {x y : Nat × Nat × List (Option Nat)}, g[o]? = some x → ksz y = ksz x → ksl (g.set o y) = ksl g
  | [], _, _, _, h, _ => by simp at h
  | z :: g, 0, x, y, h, e => by
    have : z = x := by simpa using h
    subst this
    show ksz y + ksl g = ksz z + ksl g
    rw [e]
  | z :: g, o + 1, x, y, h, e => by
    show ksz z + ksl (g.set o y) = ksz z + ksl g
    rw [ksl_set (g := g) (by simpa using h) e]
theorem kc_mono : ∀ (n c pc : Nat) (ls : List (Option kc_V)) (st : List kc_V) (g g' : kc_G), kc n c pc ls st g = some g' → g.length ≤ g'.length ∧ ksl g ≤ ksl g' := by
  intro n
  induction n with
  | zero => intro c pc ls st g g' h; cases h
  | succ n ih =>
    intro c pc ls st g g' h
    have h2 : (match decode (kc_cd c) pc with
      | .ok (ins, ln) => kc_ins (kc n) c pc ls st g ln ins
      | .error _ => none) = some g' := h
    cases hd : decode (kc_cd c) pc with
    | error _ => rw [hd] at h2; cases h2
    | ok q =>
      obtain ⟨ins, ln⟩ := q
      rw [hd] at h2
      dsimp only at h2
      unfold kc_ins at h2
      split at h2
      all_goals (repeat' (split at h2))
      all_goals first
        | (cases h2; done)
        | exact ih _ _ _ _ _ _ h2
        | (have h3 := ih _ _ _ _ _ _ h2
           rw [List.length_append, ksl_app] at h3
           exact ⟨by omega, by omega⟩)
        | (rename_i hg hc
           have h3 := ih _ _ _ _ _ _ h2
           rw [List.length_set, ksl_set hg (by simp [ksz, hc.1, hc.2.1])] at h3
           exact h3)
        | (rename_i hg _ _ _ _ _ hc
           have h3 := ih _ _ _ _ _ _ h2
           rw [List.length_set, ksl_set hg (by rfl)] at h3
           exact h3)
        | (rename_i hF
           have h3 := ih _ _ _ _ _ _ h2
           have h4 := ih _ _ _ _ _ _ hF
           exact ⟨by omega, by omega⟩)
        | (cases h2; exact ⟨Nat.le_refl _, Nat.le_refl _⟩)
        | skip
def kf (b ci : Nat) (fs : List (Option Nat)) : List Value := (List.range (rs_cl ci).2.2).map (fun k => if rs_ft ci k = 2 then va_rf ((fs.getD k none).map (fun r => b + r)) else .int 0)
def ke (ca : Nat → ClassId) (b : Nat) (x : Nat × Nat × List (Option Nat)) : va_E := match x with
  | (1, ci, fs) => .inr (ci, kf b ci fs)
  | (2, n, _) => .inl (ca 0, n, .inl (fun _ => 0))
  | (3, n, _) => .inl (ca 1, n, .inl (fun _ => 0))
  | (4, n, _) => .inl (ca 2, n, .inr (.inl (fun _ => 0)))
  | (t, n, fs) => .inl (ca (t - 2), n, .inr (.inr (.inr (.inr (fun j => (fs.getD j none).map (fun r => b + r))))))
def kw (ca : Nat → ClassId) (b : Nat) (g : kc_G) : va_W := g.mapIdx (fun i x => (b + i, ke ca b x))
theorem kw_at {ca : Nat → ClassId} {b o : Nat} {g : kc_G} {x : Nat × Nat × List (Option Nat)} (h : g[o]? = some x) : (kw ca b g)[o]? = some (b + o, ke ca b x) := by
  unfold kw
  rw [List.getElem?_mapIdx, h]
  rfl
theorem kw_set {ca : Nat → ClassId} {b o : Nat} {g : kc_G} {x : Nat × Nat × List (Option Nat)} : (kw ca b g).set o (b + o, ke ca b x) = kw ca b (g.set o x) := by
  apply List.ext_getElem?
  intro i
  unfold kw
  rw [List.getElem?_set, List.getElem?_mapIdx, List.getElem?_mapIdx, List.getElem?_set, List.length_mapIdx]
  by_cases hi : o = i
  · subst hi
    rw [if_pos rfl, if_pos rfl]
    by_cases h : o < g.length
    · rw [if_pos h, if_pos h]; rfl
    · rw [if_neg h, if_neg h]; rfl
  · rw [if_neg hi, if_neg hi]
theorem kw_push {ca : Nat → ClassId} {b : Nat} {g : kc_G} {x : Nat × Nat × List (Option Nat)} : kw ca b (g ++ [x]) = kw ca b g ++ [(b + g.length, ke ca b x)] := by
  unfold kw
  rw [List.mapIdx_append]
  simp
theorem kw_D (ca : Nat → ClassId) (b : Nat) (g : kc_G) : va_D (fun q => b ≤ q) (kw ca b g) := by
  have key : ∀ (k : Nat) (q : Nat × va_E), (kw ca b g)[k]? = some q → q.1 = b + k := by
    intro k q hq
    unfold kw at hq
    rw [List.getElem?_mapIdx] at hq
    obtain ⟨x, -, hx⟩ := Option.map_eq_some_iff.mp hq
    rw [← hx]
  refine ⟨fun i j x y hi hj hxy => ?_, fun k q hk => ?_⟩
  · have h1 := key i x hi
    have h2 := key j y hj
    omega
  · have h1 := key k q hk
    show b ≤ q.1
    omega
theorem kf_at {b ci k : Nat} {fs : List (Option Nat)} (hk : k < (rs_cl ci).2.2) : (kf b ci fs)[k]? = some (if rs_ft ci k = 2 then va_rf ((fs.getD k none).map (fun r => b + r)) else .int 0) := by
  unfold kf
  rw [List.getElem?_map, List.getElem?_range hk]
  rfl
theorem kf_len {b ci : Nat} {fs : List (Option Nat)} : (kf b ci fs).length = (rs_cl ci).2.2 := by
  unfold kf
  rw [List.length_map, List.length_range]
theorem kf_set {b ci k v : Nat} {fs : List (Option Nat)} (h2 : rs_ft ci k = 2) (hl : k < fs.length) : (kf b ci fs).set k (.ref (b + v)) = kf b ci (fs.set k (some v)) := by
  apply List.ext_getElem?
  intro i
  rw [List.getElem?_set, kf_len]
  by_cases hi : k = i
  · subst hi
    rw [if_pos rfl]
    by_cases h : k < (rs_cl ci).2.2
    · rw [if_pos h, kf_at h, if_pos h2, List.getD_eq_getElem?_getD, List.getElem?_set_self hl]
      rfl
    · rw [if_neg h, List.getElem?_eq_none (by rw [kf_len]; omega)]
  · rw [if_neg hi]
    by_cases h : i < (rs_cl ci).2.2
    · rw [kf_at h, kf_at h, List.getD_eq_getElem?_getD, List.getD_eq_getElem?_getD, List.getElem?_set_ne hi]
    · rw [List.getElem?_eq_none (by rw [kf_len]; omega), List.getElem?_eq_none (by rw [kf_len]; omega)]
def kr (D : va_G) (ca : Nat → ClassId) (b : Nat) (g : kc_G) (H : Heap) : Prop := va_P D rs_cls (kw ca b g) H ∧ H.size = b + g.length
def klok (c b : Nat) (ls : List (Option kc_V)) (lsM : Array Slot) : Prop := lsM.size = kc_mx c ∧ lv_wf lsM ∧ ∀ (i : Nat) (v : kc_V), rs_nth ls i = some (some v) → kok v ∧ i < kc_mx c ∧ lsM[i]? = some (.val (kcv b v))
def kprs (c b : Nat) (ls : List (Option kc_V)) : List (Nat × Value) := (List.range (kc_mx c)).filterMap (fun i => match rs_nth ls i with
  | some (some v) => some (i, kcv b v)
  | _ => none)
theorem klok_has {c b : Nat} {ls : List (Option kc_V)} {lsM : Array Slot} (h : klok c b ls lsM) : lv_has lsM (kc_mx c) (kprs c b ls) := by
  refine ⟨h.1, h.2.1, fun q hq => ?_⟩
  obtain ⟨i, -, hi⟩ := List.mem_filterMap.mp hq
  split at hi
  · rename_i v hv
    cases hi
    exact (h.2.2 i v hv).2.2
  · cases hi
theorem klok_st {c b : Nat} {ls : List (Option kc_V)} {lsM ls' : Array Slot} (h : klok c b ls lsM) {i : Nat} (hi : i < kc_mx c) {v : kc_V} (hv : kok v)
    (h' : lv_has ls' (kc_mx c) ((i, kcv b v) :: (kprs c b ls).filter (fun q => !(q.1 == i) && !(q.1 + 1 == i && q.2.category == 2)))) : klok c b (rs_st ls i (some v)) ls' := by
  refine ⟨h'.1, h'.2.1, fun j w hw => ?_⟩
  rcases rs_nth_st ls i j (some v) (some w) hw with ⟨h1, h2⟩ | ⟨h1, h2⟩
  · cases h2
    subst h1
    exact ⟨hv, hi, h'.2.2 (j, _) List.mem_cons_self⟩
  · obtain ⟨g1, g3, g4⟩ := h.2.2 j w h2
    refine ⟨g1, g3, h'.2.2 (j, kcv b w) (List.mem_cons_of_mem _ (List.mem_filter.mpr ⟨List.mem_filterMap.mpr ⟨j, List.mem_range.mpr g3, by rw [h2]⟩, ?_⟩))⟩
    simp [h1, kcv_cat]
