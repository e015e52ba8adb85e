def kamb (D : va_G) (ca : Nat → ClassId) (U : State) : Prop := va_K D rs_cls (rs_tys ca) U ∧ (∀ w ∈ kc_nest, va_Nw w U) ∧ ∀ C ∈ [rs_an3, rs_an4, rs_an5, rs_an6], va_AO C U
theorem kamb_at {D : va_G} {ca : Nat → ClassId} {s U : State} (h : kamb D ca s) (hW : s.WarmedH U.vm) : kamb D ca U := by
  refine ⟨va_K.moved hW.alike h.1, fun w hw => ?_, fun C hC => va_AO.moved hW.alike (h.2.2 C hC)⟩
  have h2 := h.2.1 w hw
  simp only [kc_nest, List.mem_cons, List.not_mem_nil, or_false] at hw
  rcases hw with rfl | rfl | rfl | rfl | rfl | rfl <;> exact va_Nw.warmM hW h2
def kc_wi (c : Nat) : Nat × Nat × Nat × Nat × Nat := kc_wiL.getD c (0, 0, 0, 0, 0)
def kc_chk (c : Nat) : Bool := rs_has (kc_wi c).2.1 (Cond.initialized (rs_on c)) && (rs_has (kc_wi c).2.2.1 (Cond.instanceMethod (kc_nm c)) && (rs_has (kc_wi c).2.2.2.1 (Cond.instantiable (rs_on c) (rs_cl c).2.2) && (decide (rs_on c ≠ "java/lang/invoke/MethodHandle") && (decide (rs_on c ≠ "java/lang/invoke/VarHandle") && (decide ((rs_cl c).1 = rs_on c) && (plainFor (kc_nm c) && (decide (1 ≤ kc_mx c) && decide (kc_mx c ≤ 45))))))))
set_option maxRecDepth 100000 in
theorem kc_chk_all : ∀ c, c < 9 → kc_chk c = true := by decide +kernel
theorem kc_ok {c : Nat} (h : c < 9) : Cond.initialized (rs_on c) ∈ rs_tbl ∧ Cond.instanceMethod (kc_nm c) ∈ rs_tbl ∧ Cond.instantiable (rs_on c) (rs_cl c).2.2 ∈ rs_tbl ∧ rs_on c ≠ "java/lang/invoke/MethodHandle" ∧ rs_on c ≠ "java/lang/invoke/VarHandle" ∧ (rs_cl c).1 = rs_on c ∧ plainFor (kc_nm c) = true ∧ 1 ≤ kc_mx c ∧ kc_mx c ≤ 45 := by
  have h1 := kc_chk_all c h
  unfold kc_chk at h1
  simp only [Bool.and_eq_true, decide_eq_true_eq] at h1
  obtain ⟨a1, a2, a3, a4, a5, a6, a7, a8, a9⟩ := h1
  exact ⟨rs_has_in a1, rs_has_in a2, rs_has_in a3, a4, a5, a6, a7, a8, a9⟩
set_option maxRecDepth 100000 in
theorem kc_clc : ∀ e ∈ kc_clL, rs_has e.2.2.2 (Cond.classLink (rs_on e.1) e.2.1 (rs_on e.2.2.1)) = true ∧ e.2.2.1 < 9 := by decide +kernel
theorem kc_cl_ok {c i ci : Nat} (h : kc_cl c i = some ci) : Cond.classLink (rs_on c) i (rs_on ci) ∈ rs_tbl ∧ ci < 9 := by
  unfold kc_cl at h
  obtain ⟨q, hq, he⟩ := Option.map_eq_some_iff.mp h
  obtain ⟨ci', w⟩ := q
  cases he
  have := kc_clc _ (rs_lk_mem hq)
  exact ⟨rs_has_in this.1, this.2⟩
def kc_tgc (e : Nat × Nat × Nat × Nat × Nat) : Bool := match e with
  | (c, i, nu, k, w) => if nu = 99 then rs_has w (Cond.methodLink (rs_on c) i Lib.objectInit) else (if k = 0 then rs_has w (Cond.methodLink (rs_on c) i (kc_nm nu)) else decide (Cond.methodLinkNest (rs_on c) i (kc_nm nu) "RangeSheet" ∈ kc_nest))
set_option maxRecDepth 100000 in
theorem kc_tgc_all : ∀ e ∈ kc_tgL, kc_tgc e = true := by decide +kernel
theorem kc_tg_ok {c i nu : Nat} (h : kc_tg c i = some nu) : (nu = 99 → Cond.methodLink (rs_on c) i Lib.objectInit ∈ rs_tbl) ∧ (nu ≠ 99 → Cond.methodLink (rs_on c) i (kc_nm nu) ∈ rs_tbl ∨ Cond.methodLinkNest (rs_on c) i (kc_nm nu) "RangeSheet" ∈ kc_nest) := by
  unfold kc_tg at h
  obtain ⟨q, hq, he⟩ := Option.map_eq_some_iff.mp h
  obtain ⟨nu', k, w⟩ := q
  cases he
  have h1 := kc_tgc_all _ (rs_lk_mem hq)
  unfold kc_tgc at h1
  dsimp only at h1
  refine ⟨fun e => ?_, fun e => ?_⟩
  · rw [if_pos e] at h1; exact rs_has_in h1
  · rw [if_neg e] at h1
    split at h1
    · exact Or.inl (rs_has_in h1)
    · rw [decide_eq_true_eq] at h1; exact Or.inr h1
theorem kc_objw : rs_has kc_obj.1 (Cond.instanceMethod Lib.objectInit) = true ∧ rs_has kc_obj.2 (Cond.code Lib.objectInit ⟨#[0xb1]⟩ 1 none) = true ∧ rs_has kc_arr.1 (Cond.arrayClass .int) = true ∧ rs_has kc_arr.2.1 (Cond.arrayClass .boolean) = true ∧ rs_has kc_arr.2.2 (Cond.arrayClass .long) = true := by decide +kernel
theorem kc_fd_ok {c i ci k t : Nat} (h : kc_fd c i = some (ci, k, t)) : k < (rs_cl ci).2.2 ∧ ci < 9 ∧ Cond.fieldLink (rs_on c) i ((rs_cl ci).2.1 k).1 ((rs_cl ci).2.1 k).2.1 ((rs_cl ci).2.1 k).2.2.1 ∈ rs_tbl ∧ t = rs_ft ci k := by
  unfold kc_fd at h
  obtain ⟨q, hq, he⟩ := Option.map_eq_some_iff.mp h
  obtain ⟨ci', k', t', w⟩ := q
  cases he
  have h1 := rs_fdc_all _ (rs_lk_mem hq)
  unfold rs_fdc at h1
  simp only [Bool.and_eq_true, decide_eq_true_eq] at h1
  obtain ⟨a1, a2, a3, a4, a5⟩ := h1
  exact ⟨a1, a3, rs_has_in a2, a4⟩
set_option maxRecDepth 100000 in
theorem kc_reff : ∀ ci, ci < 9 → ∀ k, k < (rs_cl ci).2.2 → rs_ft ci k = 2 → ((rs_cl ci).2.1 k).2.2.2 = true ∧ ((rs_cl ci).2.1 k).1 = rs_on ci ∧ ((∃ n, parseFieldDescriptor ((rs_cl ci).2.1 k).2.2.1 = some (.object n)) ∨ (∃ t, parseFieldDescriptor ((rs_cl ci).2.1 k).2.2.1 = some (.array t))) := by
  intro ci hc k hk h2
  have h : ∀ ci, ci < 9 → ∀ k, k < (rs_cl ci).2.2 → rs_ft ci k = 2 → ((rs_cl ci).2.1 k).2.2.2 = true ∧ ((rs_cl ci).2.1 k).1 = rs_on ci ∧ (match rs_ty ci k with
    | .object _ => true
    | .array _ => true
    | _ => false) = true := by decide +kernel
  obtain ⟨a, b, c⟩ := h ci hc k hk h2
  refine ⟨a, b, ?_⟩
  have e := (rs_ty_ok ci hc).1 k hk
  rw [e]
  cases ht : rs_ty ci k with
  | object n => exact Or.inl ⟨n, rfl⟩
  | array t => exact Or.inr ⟨t, rfl⟩
  | _ => rw [ht] at c; cases c
set_option maxRecDepth 100000 in
theorem kc_dflt : ∀ ci, ci < 9 → ∀ k, k < (rs_cl ci).2.2 → defaultValue (rs_ty ci k) = (if rs_ft ci k = 2 then Value.null else Value.int 0) := by decide +kernel
def kcx (D : va_G) (ca : Nat → ClassId) (c : Nat) (p : Program) (s : State) (m : MethodId) (args : Array Value) (meth : Method) (cd : Code) : Prop :=
  p.tables.exec = Jvm.exec ∧ cd.code = kc_cd c ∧ meth.sig.returnType = none ∧ cd.maxLocals = kc_mx c ∧ s.vm.findClass (rs_on c) = some m.cls ∧ (∀ w ∈ rs_tbl, w.before args s = true) ∧ meth.locks = false ∧ meth.name = "<init>" ∧ kamb D ca s
def kcQ (D : va_G) (ca : Nat → ClassId) (b : Nat) (g' : kc_G) (below : List Frame) (s : State) (Ct St : Nat) : State → Prop := fun t =>
  t.status = .running ∧ Ended t below (.returned none) ∧ kr D ca b g' t.heap ∧ va_F (fun q => b ≤ q) s t ∧ ∃ L', (s.WarmedH t.vm ∧ s.sameButNew ({ t with vm := s.vm } : State) L' Ct St) ∧ ∀ q ∈ L', b ≤ q.base
