/-! ===== the abstract machine's values and memory as the machine's ===== -/
def rs_ad (bs b o : Nat) : Nat := if o = 0 then bs else b + (o - 1)
def rs_cv (bs b : Nat) : rs_V → Value
  | .inl z => .int (Int32.ofInt z)
  | .inr (.inl z) => .long (Int64.ofInt z)
  | .inr (.inr o) => .ref (rs_ad bs b o)
def rs_ok : rs_V → Prop
  | .inl z => rs_R z
  | .inr (.inl z) => rs_R z
  | .inr (.inr _) => True
theorem rs_ti {z : Int} (h : rs_R z) : (Int32.ofInt z).toInt = z := by
  unfold rs_R at h
  exact Int32.toInt_ofInt_of_le (by omega) (by omega)
theorem rs_tl {z : Int} (h : rs_R z) : (Int64.ofInt z).toInt = z := by
  unfold rs_R at h
  exact Int64.toInt_ofInt_of_le (by omega) (by omega)
theorem rs_Rt (x : Int32) : rs_R x.toInt := by
  have h1 := Int32.le_toInt x
  have h2 := Int32.toInt_lt x
  unfold rs_R
  omega
theorem rs_eq {a b : Int} (ha : rs_R a) (hb : rs_R b) : Int32.ofInt a = Int32.ofInt b ↔ a = b := by
  rw [← Int32.toInt_inj, rs_ti ha, rs_ti hb]
theorem rs_lt {a b : Int} (ha : rs_R a) (hb : rs_R b) : Int32.ofInt a < Int32.ofInt b ↔ a < b := by
  rw [Int32.lt_iff_toInt_lt, rs_ti ha, rs_ti hb]
theorem rs_le {a b : Int} (ha : rs_R a) (hb : rs_R b) : Int32.ofInt a ≤ Int32.ofInt b ↔ a ≤ b := by
  rw [Int32.le_iff_toInt_le, rs_ti ha, rs_ti hb]
theorem rs_R0 : rs_R 0 := by unfold rs_R; omega
theorem rs_o0 : Int32.ofInt 0 = 0 := rfl
theorem rs_nn {j : Int} (h : rs_R j) : (Int32.ofInt j).toNatClampNeg = j.toNat := by
  show (Int32.ofInt j).toInt.toNat = _
  rw [rs_ti h]
theorem rs_vin {j : Int} {n : Nat} (h : rs_R j) (h2 : 0 ≤ j ∧ j < n) : vp_in (Int32.ofInt j) n := vp_in_iff.mpr (by rw [rs_ti h]; exact h2)
theorem rs_oi (x : Int32) : Int32.ofInt x.toInt = x := Int32.ofInt_toInt x
theorem rs_i2l {z : Int} (h : rs_R z) : (Int32.ofInt z).toInt64 = Int64.ofInt z := by
  rw [← Int64.toInt_inj, Int32.toInt_toInt64, rs_ti h, rs_tl h]
theorem rs_div (x y : Int) : rs_R x → rs_R y → Int32.ofInt (x.tdiv y) = Int32.ofInt x / Int32.ofInt y := by
  intro hx hy
  rw [← Int32.toInt_inj, Int32.toInt_div, rs_ti hx, rs_ti hy, Int32.toInt_ofInt]
theorem rs_cmpE {x y : Int} (hx : rs_R x) (hy : rs_R y) : lg_cmp (Int64.ofInt x) (Int64.ofInt y) = Int32.ofInt (rs_cmp x y) := by
  unfold lg_cmp rs_cmp
  simp only [gt_iff_lt, Int64.lt_iff_toInt_lt, ← Int64.toInt_inj, rs_tl hx, rs_tl hy]
  by_cases h1 : y < x
  · rw [if_pos h1, if_neg (by omega), if_neg (by omega)]; rfl
  · by_cases h2 : x = y
    · rw [if_neg h1, if_pos h2, if_neg (by omega), if_pos h2]; rfl
    · rw [if_neg h1, if_neg h2, if_pos (by omega)]; rfl
/-- the fields of the object o, of class ci -/
def rs_fs (bs b ci o : Nat) (f : Nat → Int) : List Value := (List.range (rs_cl ci).2.2).map (fun k => if rs_ft ci k = 2 then .ref (rs_ad bs b (rs_rf o k)) else .int (Int32.ofInt (f k)))
def rs_en (ca : Nat → ClassId) (bs b o : Nat) (f : Nat → Int) : va_E := match rs_sh o with
  | (1, ci) => .inr (ci, rs_fs bs b ci o f)
  | (2, n) => .inl (ca 0, n, .inl (fun j => Int32.ofInt (f j)))
  | (3, n) => .inl (ca 1, n, .inl (fun j => Int32.ofInt (f j)))
  | (4, n) => .inl (ca 2, n, .inr (.inl (fun j => Int64.ofInt (f j))))
  | (t, n) => .inl (ca (t - 2), n, .inr (.inr (.inr (.inr (fun j => some (rs_ad bs b (rs_rf o j)))))))
def rs_ws (ca : Nat → ClassId) (bs b : Nat) (I : rs_M) : va_W := (List.range rs_N).map (fun i => (b + i, rs_en ca bs b (i + 1) (I (i + 1))))
theorem rs_ws_at (ca : Nat → ClassId) (bs b : Nat) (I : rs_M) {o : Nat} (h0 : 0 < o) (h1 : o ≤ rs_N) : (rs_ws ca bs b I)[o - 1]? = some (rs_ad bs b o, rs_en ca bs b o (I o)) := by
  unfold rs_ws rs_ad
  rw [List.getElem?_map, List.getElem?_range (by omega), if_neg (by omega)]
  have e : o - 1 + 1 = o := by omega
  simp only [Option.map_some, e]
theorem rs_ws_set (ca : Nat → ClassId) (bs b : Nat) (I J : rs_M) {o : Nat} (h0 : 0 < o) (hJ : ∀ a, a ≠ o → J a = I a) : (rs_ws ca bs b I).set (o - 1) (rs_ad bs b o, rs_en ca bs b o (J o)) = rs_ws ca bs b J := by
  apply List.ext_getElem?
  intro i
  have e : o - 1 + 1 = o := by omega
  unfold rs_ws rs_ad
  rw [List.getElem?_set, List.length_map, List.length_range, List.getElem?_map, List.getElem?_map, if_neg (show ¬ o = 0 by omega)]
  by_cases hi : o - 1 = i
  · subst hi
    rw [if_pos rfl]
    by_cases h : o - 1 < rs_N
    · rw [if_pos h, List.getElem?_range h]; simp only [Option.map_some, e]
    · rw [if_neg h, List.getElem?_eq_none (by simpa using h)]; rfl
  · rw [if_neg hi]
    by_cases h : i < rs_N
    · rw [List.getElem?_range h]; simp only [Option.map_some]; rw [hJ (i + 1) (by omega)]
    · rw [List.getElem?_eq_none (by simpa using h)]; rfl
theorem rs_ws_D (ca : Nat → ClassId) (bs b : Nat) (I : rs_M) : va_D (fun q => b ≤ q) (rs_ws ca bs b I) := by
  have key : ∀ (k : Nat) (q : Nat × va_E), (rs_ws ca bs b I)[k]? = some q → q.1 = b + k := by
    intro k q hq
    unfold rs_ws at hq
    rw [List.getElem?_map] at hq
    by_cases h : k < rs_N
    · rw [List.getElem?_range h] at hq
      cases hq
      rfl
    · rw [List.getElem?_eq_none (by simpa using h)] at hq
      cases hq
  refine ⟨fun i j x y hi hj hxy => ?_, fun k q hk => ?_⟩
  · have h1 := key i x hi
    have h2 := key j y hj
    omega
  · have h1 := key k q hk
    show b ≤ q.1
    omega
theorem rs_fs_at (bs b ci o : Nat) (f : Nat → Int) {k : Nat} (hk : k < (rs_cl ci).2.2) : (rs_fs bs b ci o f)[k]? = some (if rs_ft ci k = 2 then .ref (rs_ad bs b (rs_rf o k)) else .int (Int32.ofInt (f k))) := by
  unfold rs_fs
  rw [List.getElem?_map, List.getElem?_range hk]
  rfl
theorem rs_fs_len (bs b ci o : Nat) (f : Nat → Int) : (rs_fs bs b ci o f).length = (rs_cl ci).2.2 := by
  unfold rs_fs
  rw [List.length_map, List.length_range]
theorem rs_fs_set (bs b ci o : Nat) (f g : Nat → Int) {k : Nat} (h2 : ¬ rs_ft ci k = 2) (hg : ∀ j, j ≠ k → g j = f j) : (rs_fs bs b ci o f).set k (.int (Int32.ofInt (g k))) = rs_fs bs b ci o g := by
  apply List.ext_getElem?
  intro i
  rw [List.getElem?_set, rs_fs_len]
  by_cases hi : k = i
  · subst hi
    rw [if_pos rfl]
    by_cases h : k < (rs_cl ci).2.2
    · rw [if_pos h, rs_fs_at bs b ci o g h, if_neg h2]
    · rw [if_neg h, List.getElem?_eq_none (by rw [rs_fs_len]; omega)]
  · rw [if_neg hi]
    by_cases h : i < (rs_cl ci).2.2
    · rw [rs_fs_at bs b ci o f h, rs_fs_at bs b ci o g h, hg i (fun q => hi q.symm)]
    · rw [List.getElem?_eq_none (by rw [rs_fs_len]; omega), List.getElem?_eq_none (by rw [rs_fs_len]; omega)]
def rs_rel (D : va_G) (ca : Nat → ClassId) (bs b L : Nat) (xs : Nat → Int32) (I : rs_M) (H : Heap) : Prop :=
  va_P D rs_cls (rs_ws ca bs b I) H ∧ (∀ o k, rs_R (I o k)) ∧ I 0 0 = (L : Int) ∧ ∀ j : Nat, j < L → I 0 (j + 1) = (xs j).toInt
def rs_tys (ca : Nat → ClassId) : List (ClassId × FieldType) := [(ca 0, .int), (ca 1, .boolean), (ca 2, .long), (ca 3, .object rs_an3), (ca 4, .object rs_an4), (ca 5, .object rs_an5), (ca 6, .object rs_an6)]
/-- a static of a reference, in a cell below b -/
def rs_Zs (b : Nat) (C n d : String) (U : State) : Prop := ∃ (c i a : Nat) (k : Class) (f : Field) (cell : Cell) (w : Value), U.vm.findClass C = some c ∧ U.fieldFound? C n d = some (c, k, i, f) ∧ f.isStatic = true ∧ k.statics = some a ∧ U.heap[a]? = some cell ∧ cell.vm.isStatics = true ∧ cell.cls = c ∧ f.slot < cell.slots.size ∧ k.staticTypes[f.slot]? = some f.type ∧ a < b ∧ cell.slots[f.slot]? = some w ∧ (w = .null ∨ ∃ r, w = .ref r)
theorem rs_Zs_at {b : Nat} {C n d : String} {s U : State} (h : rs_Zs b C n d s) (ha : s.vm.Alike U.vm) (hq : ∀ q : Nat, q < s.heap.size → ¬ b ≤ q → U.heap[q]? = s.heap[q]?) : rs_Zs b C n d U := by
  obtain ⟨c, i, a, k, f, cell, w, h1, h2, h3, h4, h5, h6, h7, h8, h9, h10, h11, h12⟩ := h
  obtain ⟨k', hi', he⟩ := State.fieldFound?_setVm ha h2
  refine ⟨c, i, a, k', f, cell, w, by rw [ha.findClass]; exact h1, hi', h3, by rw [he]; exact h4, ?_, h6, h7, h8, by rw [he]; exact h9, h10, h11, h12⟩
  rw [hq a (Array.getElem?_eq_some_iff.mp h5).1 (by omega)]
  exact h5
theorem rs_Zs_lays {b : Nat} {C n d : String} {s : State} {args : Array Value} (h : rs_Zs b C n d s) : (Cond.laysStatic C n d).before args s = true := by
  obtain ⟨c, i, a, k, f, cell, w, h1, h2, h3, h4, h5, h6, h7, h8, h9, h10, h11, h12⟩ := h
  exact Cond.laysStatic_of h1 h2 h3 h4 h5 h6 h7 h8 h9
theorem rs_Zs_ref {b : Nat} {C n d : String} {s : State} {args : Array Value} (h : rs_Zs b C n d s) : (Cond.isRef (.static C n d)).before args s = true := by
  obtain ⟨c, i, a, k, f, cell, w, h1, h2, h3, h4, h5, h6, h7, h8, h9, h10, h11, h12⟩ := h
  have he : (Term.static C n d).eval args s none [] s = some w := by
    rw [← h11]
    simp [Term.eval, State.fieldNamed?, h2, h3, h4, h5, h6]
  simp only [Cond.before, Cond.holds, Cond.value, he]
  rcases h12 with rfl | ⟨r, rfl⟩ <;> rfl
def rs_decL : List MethodName := [Bundle.initS "java/lang/RuntimeException", Bundle.initS "java/lang/Exception", Bundle.initS "java/lang/Throwable"]
/-- what a state says beside the memory: the classes, the one link within the nest, the texts, the two statics of Throwable, the two classes that aren't one, the script -/
def rs_amb (D : va_G) (ca : Nat → ClassId) (bs b L : Nat) (xs : Nat → Int32) (U : State) : Prop :=
  va_K D rs_cls (rs_tys ca) U ∧ rs_nw U ∧ (∀ x ∈ rs_strL, ∃ a, vk_R "RangeSheet" x.1 x.2 a U) ∧ rs_Zs b "java/lang/Throwable" "UNASSIGNED_STACK" "[Ljava/lang/StackTraceElement;" U ∧ rs_Zs b "java/lang/Throwable" "SUPPRESSED_SENTINEL" "Ljava/util/List;" U ∧ va_Nc "java/lang/IllegalStateException" "java/lang/IllegalArgumentException" U ∧ va_X bs L xs U U.heap ∧ bs < b ∧ b + rs_N ≤ U.heap.size ∧ ∀ x ∈ rs_decL, va_Nw (.declares x) U
theorem rs_amb_at {D : va_G} {ca : Nat → ClassId} {bs b L : Nat} {xs : Nat → Int32} {s U : State} (h : rs_amb D ca bs b L xs s) (hW : s.WarmedH U.vm) (hz : s.heap.size ≤ U.heap.size) (hq : ∀ q : Nat, q < s.heap.size → ¬ b ≤ q → U.heap[q]? = s.heap[q]?) : rs_amb D ca bs b L xs U := by
  obtain ⟨h1, h2, h3, h4, h5, h6, h7, h8, h9, h0⟩ := h
  refine ⟨va_K.moved hW.alike h1, rs_nw_warm hW h2, fun x hx => ?_, rs_Zs_at h4 hW.alike hq, rs_Zs_at h5 hW.alike hq, va_Nc.moved hW.alike h6, va_X.moved hW.alike (h7.kept (hq bs (by omega) (by omega))), h8, by omega, fun x hx => va_Nw.warmD hW (h0 x hx)⟩
  obtain ⟨a, ha⟩ := h3 x hx
  exact ⟨a, vk_R.warm hW ha⟩
theorem rs_amb_same {D : va_G} {ca : Nat → ClassId} {bs b L : Nat} {xs : Nat → Int32} {s U : State} (h : rs_amb D ca bs b L xs s) (hv : U.vm = s.vm) (hh : U.heap = s.heap) : rs_amb D ca bs b L xs U := by
  obtain ⟨h1, h2, h3, h4, h5, h6, h7, h8, h9, h0⟩ := h
  have ha : s.vm.Alike U.vm := by rw [hv]; exact Vm.Alike.refl _
  refine ⟨va_K.moved ha h1, rs_nw_same hv.symm h2, fun x hx => ?_, ?_, ?_, va_Nc.moved ha h6, ?_, h8, by rw [hh]; exact h9, fun x hx => va_Nw.same rfl hv.symm (h0 x hx)⟩
  · obtain ⟨a, g⟩ := h3 x hx
    exact ⟨a, vk_R.same hv g⟩
  · exact rs_Zs_at h4 ha (fun q _ _ => by rw [hh])
  · exact rs_Zs_at h5 ha (fun q _ _ => by rw [hh])
  · rw [hh]; exact va_X.moved ha h7
def rs_cx (D : va_G) (ca : Nat → ClassId) (bs b L : Nat) (xs : Nat → Int32) (mu : Nat) (p : Program) (e : Env) (s : State) (m : MethodId) (args : Array Value) (meth : Method) (c : Code) : Prop :=
  p.tables.exec = Jvm.exec ∧ c.code = rs_cd mu ∧ meth.sig.returnType = rs_rt mu ∧ c.maxLocals = rs_mx mu ∧ s.vm.findClass (rs_ow mu) = some m.cls ∧ (∀ w ∈ rs_tbl, w.before args s = true) ∧ meth.locks = false ∧ rs_amb D ca bs b L xs s ∧ c.exceptionTable.toList.map (fun h => (h.startPc, h.endPc, h.handlerPc, h.catchType)) = rs_hs mu ∧ e.platform.stackTraces = false
def rs_lok (mu bs b : Nat) (ls : rs_L) (lsM : Array Slot) : Prop := lsM.size = rs_mx mu ∧ lv_wf lsM ∧ ∀ (i : Nat) (v : rs_V), rs_nth ls i = some (some v) → rs_ok v ∧ (rs_cv bs b v).category = 1 ∧ i < rs_mx mu ∧ lsM[i]? = some (.val (rs_cv bs b v))
def rs_prs (mu bs b : Nat) (ls : rs_L) : List (Nat × Value) := (List.range (rs_mx mu)).filterMap (fun i => match rs_nth ls i with
  | some (some v) => some (i, rs_cv bs b v)
  | _ => none)
theorem rs_lok_has {mu bs b : Nat} {ls : rs_L} {lsM : Array Slot} (h : rs_lok mu bs b ls lsM) : lv_has lsM (rs_mx mu) (rs_prs mu bs b ls) := by
  refine ⟨h.1, h.2.1, fun q hq => ?_⟩
  obtain ⟨i, -, hi⟩ := List.mem_filterMap.mp hq
  split at hi
  · rename_i v hv
    cases hi
    exact (h.2.2 i v hv).2.2.2
  · cases hi
theorem rs_nth_st {α : Type} : ∀ (l : List α) (i j : Nat) (v w : α), rs_nth (rs_st l i v) j = some w → (j = i ∧ w = v) ∨ (j ≠ i ∧ rs_nth l j = some w)
  | [], i, j, v, w, h => by cases j <;> cases h
  | a :: l, 0, 0, v, w, h => by cases h; exact Or.inl ⟨rfl, rfl⟩
  | a :: l, 0, j + 1, v, w, h => Or.inr ⟨by omega, h⟩
  | a :: l, i + 1, 0, v, w, h => Or.inr ⟨by omega, h⟩
  | a :: l, i + 1, j + 1, v, w, h => by
    rcases rs_nth_st l i j v w h with ⟨h1, h2⟩ | ⟨h1, h2⟩
    · exact Or.inl ⟨by omega, h2⟩
    · exact Or.inr ⟨by omega, h2⟩
theorem rs_lok_st {mu bs b : Nat} {ls : rs_L} {lsM ls' : Array Slot} (h : rs_lok mu bs b ls lsM) {i : Nat} (hi : i < rs_mx mu) {v : rs_V} (hv : rs_ok v) (hc : (rs_cv bs b v).category = 1)
    (h' : lv_has ls' (rs_mx mu) ((i, rs_cv bs b v) :: (rs_prs mu bs b ls).filter (fun q => !(q.1 == i) && !(q.1 + 1 == i && q.2.category == 2)))) : rs_lok mu bs b (rs_st ls i (some v)) ls' := by
  refine ⟨h'.1, h'.2.1, fun j w hw => ?_⟩
  rcases rs_nth_st ls i j (some v) (some w) hw with ⟨h1, h2⟩ | ⟨h1, h2⟩
  · cases h2
    subst h1
    exact ⟨hv, hc, hi, h'.2.2 (j, _) List.mem_cons_self⟩
  · obtain ⟨g1, g2, g3, g4⟩ := h.2.2 j w h2
    refine ⟨g1, g2, g3, h'.2.2 (j, rs_cv bs b w) (List.mem_cons_of_mem _ (List.mem_filter.mpr ⟨List.mem_filterMap.mpr ⟨j, List.mem_range.mpr g3, by rw [h2]⟩, ?_⟩))⟩
    simp [h1, g2]
/-- how a method ends: it returns a value, or it throws -/
def rs_end (bs b : Nat) (v : Option rs_V) (oc : Outcome) (s t : State) : Prop := match v with
  | some (.inr (.inl k)) => (k = 1 ∨ k = 2) ∧ ∃ (x : Nat) (ce : Cell), oc = .threw x ∧ b ≤ x ∧ t.heap[x]? = some ce ∧ ce.vm = .none ∧ s.vm.findClass (rs_xn k) = some ce.cls
  | some (.inl z) => rs_R z ∧ oc = .returned (some (.int (Int32.ofInt z)))
  | some (.inr (.inr o)) => oc = .returned (some (.ref (rs_ad bs b o)))
  | none => oc = .returned none
def rs_Q (D : va_G) (ca : Nat → ClassId) (bs b L : Nat) (xs : Nat → Int32) (K : rs_K) (st : State) (oc : Outcome) (t : State) : Prop :=
  ∃ (v : Option rs_V) (J : rs_M), K v J ∧ rs_end bs b v oc st t ∧ rs_rel D ca bs b L xs J t.heap ∧ va_F (fun q => b ≤ q) st t
def rs_MQ (D : va_G) (ca : Nat → ClassId) (bs b L : Nat) (xs : Nat → Int32) (K : rs_K) (below : List Frame) (s : State) (mc ms : Nat) : State → Prop := fun t =>
  ∃ o, t.status = .running ∧ Ended t below o ∧ rs_Q D ca bs b L xs K s o t ∧ ∃ L', (s.WarmedH t.vm ∧ s.sameButNew ({ t with vm := s.vm } : State) L' mc ms) ∧ ∀ q ∈ L', b ≤ q.base
/-- what a run says of the machine -/
def rs_snd (l : Launch) (D : va_G) (ca : Nat → ClassId) (bs b L : Nat) (xs : Nat → Int32) : rs_T := fun u d mu pc ls st I K =>
  ∀ (p : Program) (e : Env) (R : Room) (s : State) (m : MethodId) (args : Array Value) (below : List Frame) (meth : Method) (c : Code) (H : Heap) (locs : List Loc) (cells slots : Nat) (lsM : Array Slot),
    rs_cx D ca bs b L xs mu p e s m args meth c → d ≤ R.frames → 64 * d ≤ R.locals → cells + u ≤ R.cells → slots + rs_sl * u ≤ R.slots → rs_rel D ca bs b L xs I H → va_S (fun q => b ≤ q) s.heap H locs → (∀ v ∈ st, rs_ok v) → rs_lok mu bs b ls lsM →
    W p l e R s m args below meth c H locs cells slots (rs_MQ D ca bs b L xs K below s R.cells R.slots) (F0 m pc lsM (st.map (rs_cv bs b)))
theorem rs_snd_mono (l : Launch) (D : va_G) (ca : Nat → ClassId) (bs b L : Nat) (xs : Nat → Int32) : rs_mono (rs_snd l D ca bs b L xs) := by
  intro u d mu pc ls st I K K' hk h p e R s m args below meth c H locs cells slots lsM h1 h2 h3 h4 h5 h6 h7 h8 h9 T hT X
  obtain ⟨t, a, o, b1, b2, ⟨v, J, q1, q2⟩, b4⟩ := h p e R s m args below meth c H locs cells slots lsM h1 h2 h3 h4 h5 h6 h7 h8 h9 T hT X
  exact ⟨t, a, o, b1, b2, ⟨v, J, hk v J q1, q2⟩, b4⟩
theorem rs_Wm {p : Program} {l : Launch} {e : Env} {R : Room} {s : State} {m : MethodId} {args : Array Value} {below : List Frame} {meth : Method} {c : Code} {H : Heap} {locs : List Loc} {cells slots : Nat} {Q Q' : State → Prop} {g : JFrame} (hq : ∀ t, Q t → Q' t) (h : W p l e R s m args below meth c H locs cells slots Q g) : W p l e R s m args below meth c H locs cells slots Q' g := by
  intro T hT X
  obtain ⟨t, a, b⟩ := h T hT X
  exact ⟨t, a, hq t b⟩
