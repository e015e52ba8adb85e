theorem rs_nth_rep {α : Type} : ∀ (n i : Nat) (v : α), rs_nth (List.replicate n (none : Option α)) i = some (some v) → False
  | 0, _, _, h => by cases h
  | _ + 1, 0, _, h => by cases h
  | n + 1, i + 1, v, h => rs_nth_rep n i v h
theorem rs_ent_mem (bs b n : Nat) : ∀ (as : List rs_V) (k i : Nat) (v : rs_V), (∀ w ∈ as, (rs_cv bs b w).category = 1) → rs_nth (as.map some ++ List.replicate n none) i = some (some v) → (k + i, rs_cv bs b v) ∈ lv_args k (as.map (rs_cv bs b)) ∧ v ∈ as ∧ i < as.length
  | [], _, i, v, _, h => (rs_nth_rep n i v h).elim
  | a :: as, k, 0, v, hc, h => by
    cases h
    exact ⟨List.mem_cons_self, List.mem_cons_self, by simp⟩
  | a :: as, k, i + 1, v, hc, h => by
    obtain ⟨h1, h2, h3⟩ := rs_ent_mem bs b n as (k + 1) i v (fun w hw => hc w (List.mem_cons_of_mem _ hw)) h
    have e : k + 1 + i = k + (i + 1) := by omega
    rw [e] at h1
    refine ⟨?_, List.mem_cons_of_mem _ h2, by simp; omega⟩
    show _ ∈ (k, rs_cv bs b a) :: lv_args (if (rs_cv bs b a).category = 2 then k + 2 else k + 1) (as.map (rs_cv bs b))
    rw [if_neg (by rw [hc a List.mem_cons_self]; decide)]
    exact List.mem_cons_of_mem _ h1
theorem rs_sl_len (bs b : Nat) : ∀ (as : List rs_V), (∀ w ∈ as, (rs_cv bs b w).category = 1) → (lg_sl (as.map (rs_cv bs b))).length = as.length
  | [], _ => rfl
  | a :: as, hc => by
    have h := rs_sl_len bs b as (fun w hw => hc w (List.mem_cons_of_mem _ hw))
    have ha := hc a List.mem_cons_self
    unfold lg_sl at h ⊢
    rw [List.map_cons, List.flatMap_cons, List.length_append, h, if_neg (by rw [ha]; decide)]
    simp
    omega
theorem rs_weaken {tb : Tables} {e : Env} {x : Frame} {below : List Frame} {a b : State} (h : Steps tb e (x :: below) a b) : Steps tb e below a b := by
  obtain ⟨n, hn, w⟩ := h
  exact ⟨n, hn, fun k hk => Within.weaken (mid := [x]) (w k hk)⟩
theorem rs_cats (bs b : Nat) : ∀ r : List rs_V, ((r.map (rs_cv bs b)).map fun v => v.category).sum ≤ 2 * r.length
  | [] => by simp
  | v :: r => by
    have h := rs_cats bs b r
    have h2 : (rs_cv bs b v).category ≤ 2 := by rcases lv_cat (rs_cv bs b v) with h | h <;> omega
    simp only [List.map_cons, List.sum_cons, List.length_cons]
    omega
theorem rs_revc {bs b : Nat} {v : rs_V} (h : rs_c1 v) : (rs_cv bs b v).category = 1 := by
  rcases v with z | z | o
  · rfl
  · exact absurd rfl (h z)
  · rfl
/-- what the words say of a method -/
theorem rs_code {nu : Nat} {a : Array Value} {s : State} {mk : MethodId} (hn : s.methodNamed? (rs_nm nu) = some mk) (h : (rs_cw nu).before a s = true) : ∃ meth c, s.vm.method? mk = some meth ∧ meth.code = some c ∧ c.code = rs_cd nu ∧ c.maxLocals = rs_mx nu ∧ meth.sig.returnType = rs_rt nu ∧ meth.locks = false ∧ c.exceptionTable.toList.map (fun h => (h.startPc, h.endPc, h.handlerPc, h.catchType)) = rs_hs nu ∧ parseMethodDescriptor (rs_nm nu).desc = some meth.sig := by
  unfold rs_cw at h
  split at h
  · obtain ⟨m, meth, c, h0, h1, h2, h3, h4, h5, h6, h7, h8⟩ := Cond.codeWith_spec h
    cases hn.symm.trans h0
    exact ⟨meth, c, h1, h2, h3, h4, h6, h7, h5, h8⟩
  · rename_i hlt
    obtain ⟨meth, c, h1, h2, h3, h4, h5, h6, h7, h8⟩ := Cond.code_spec hn h
    refine ⟨meth, c, h1, h2, h3, h4, h5, h6, ?_, h8⟩
    have e1 : rs_hs nu = [] := by
      unfold rs_hs
      split <;> first | rfl | omega
    rw [e1]
    have e2 : c.exceptionTable.toList = [] := by
      have := Array.isEmpty_iff.mp h7
      rw [this]
    rw [e2]
    rfl
/-- one row of a method's table of handlers, its class linked -/
theorem rs_fh {Q : Handler → Pre} {E : CtlPost} {e : Env} {d : Bool} {acts : List Action} {s : State} {f : JFrame} {a : Addr} {x : ExceptionTableEntry} {t : List ExceptionTableEntry} {c : ClassId} {cell : Cell} (hx : covers x f.pc = true) (h0 : x.catchType ≠ 0) (hl : s.vm.ClassLinks e.platform f.method.cls x.catchType c) (hcell : s.heap[a]? = some cell) (hobj : ∀ k, cell.vm ≠ .statics k)
    (hk : ∃ k, s.vm.classes[cell.cls]? = some k) (hc : ∃ k, s.vm.classes[c]? = some k) : Sem.wp (findHandler.go f a (x :: t)) Q E e d acts s ↔ (if s.vm.assignable cell.cls c = true then Q (.found x.handlerPc) d acts (s.setVm (s.vm.noted f.method.cls x.catchType (.cls c))) else Sem.wp (findHandler.go f a t) Q E e d acts (s.setVm (s.vm.noted f.method.cls x.catchType (.cls c)))) := by
  have hn : s.vm.Alike (s.vm.noted f.method.cls x.catchType (.cls c)) := (Vm.Alike.refl s.vm).noted _ _ _
  obtain ⟨r1, r2⟩ := (resolveClass_links e.toSetting hl).op (op := VmOp.resolveClass f.method.cls x.catchType) rfl
  obtain ⟨k, hk⟩ := hk
  obtain ⟨k', hk', -⟩ := hn.2.2 _ _ hk
  obtain ⟨q, hq⟩ := hc
  obtain ⟨q', hq', -⟩ := hn.2.2 _ _ hq
  have ha := hn.assignable cell.cls c
  simp only [covers] at hx
  cases g : s.vm.assignable cell.cls c <;> rw [g] at ha <;> simp [findHandler.go, hx, h0, r1, r2, hcell, hobj, hk', hq', ha, VmOp.dirties, VmOp.acts]
theorem rs_caught {tb : Tables} {e : Env} {s target : State} {g : JFrame} {c : Code} {below : List Frame} {a : Addr} (h : At s g.method c below) {pc : Nat} {vm' : Vm}
    (hf : ∀ (Q : Handler → Pre) (E : CtlPost) (d : Bool) (acts : List Action), Sem.wp (findHandler g a) Q E e d acts ((s.setTop g).pushFrame (.throwing a)) ↔ Q (.found pc) d acts (((s.setTop g).pushFrame (.throwing a)).setVm vm'))
    (hr : Steps tb e below ((s.setVm vm').setTop { g with pc := pc, stack := [.ref a] }) target) : Steps tb e below ((s.setTop g).pushFrame (.throwing a)) target := by
  have key : ∀ r, (stepThrowing e ((s.setTop g).pushFrame (.throwing a)) a (.java g :: r)).1 = (((s.setTop g).pushFrame (.throwing a)).setVm vm').setFrames (.java { g with pc := pc, stack := [.ref a] } :: r) := by
    intro r
    simp only [stepThrowing, searchFrame, vmDo]
    generalize hq : Sem.go _ e false [] ((s.setTop g).pushFrame (.throwing a)) = res
    obtain ⟨as, rfl, ha⟩ := Sem.eq_ok_of hq (a := Handler.found pc) (s' := ((s.setTop g).pushFrame (.throwing a)).setVm vm') (acts' := []) (by simp [hf _ _ _ _])
    rfl
  obtain ⟨h1, h2⟩ := h.throwing a
  refine Steps.head h1 h2 ?_
  rw [stepThread_throwing (frames_entered h.top _), key]
  obtain ⟨g₀, hg⟩ := Option.isSome_iff_exists.mp h.top
  obtain ⟨r, hr'⟩ := State.topJava?_eq_some.mp hg
  have e1 : (s.setVm vm').frames = .java g₀ :: r := hr'
  have e2 : ∀ (u : State) (F G : List Frame), ((u.setFrames F).setVm vm').setFrames G = (u.setVm vm').setFrames G := fun u F G => by
    rw [show (u.setFrames F).setVm vm' = (u.setVm vm').setFrames F from rfl, State.setFrames_setFrames]
  rw [State.setTop_of_frames _ e1] at hr
  rw [hr', List.tail_cons, State.pushFrame, e2, State.setTop_of_frames _ hr', e2]
  exact hr
theorem rs_hd_hs {mu a b h1 h2 : Nat} (h : rs_hd mu = some (a, b, h1, h2)) : (rs_hs mu = [(a, b, h1, 13), (a, b, h2, 15)] ∨ h2 = 0 ∧ rs_hs mu = [(a, b, h1, 13)]) ∧ rs_ow mu = "RangeSheetLaw" := by
  unfold rs_hd at h
  split at h <;> first | (cases h; done) | (cases h; exact ⟨Or.inl rfl, rfl⟩) | (cases h; exact ⟨Or.inr ⟨rfl, rfl⟩, rfl⟩)
theorem rs_lawlinks : rs_has 434 (Cond.classLink "RangeSheetLaw" 13 "java/lang/IllegalArgumentException") = true ∧ rs_has 435 (Cond.classLink "RangeSheetLaw" 15 "java/lang/IllegalStateException") = true ∧ rs_has 441 (Cond.instantiable "java/lang/IllegalArgumentException" 6) = true ∧ rs_has 508 (Cond.instantiable "java/lang/IllegalStateException" 6) = true := by decide +kernel
theorem rs_selfa {args : Array Value} {s : State} {C : String} {n c : Nat} (h : (Cond.instantiable C n).before args s = true) (hc : s.vm.findClass C = some c) : s.vm.assignable c c = true ∧ ∃ k, s.vm.classes[c]? = some k := by
  obtain ⟨cC, kC, hfc, hk, hkind, -⟩ := Cond.instantiable_spec h
  cases hfc.symm.trans hc
  exact ⟨va_assign (C := C) ⟨hfc, kC, hk, hkind⟩, kC, hk⟩
section RSK
variable {l : Launch} {D : va_G} {ca : Nat → ClassId} {bs b L : Nat} {xs : Nat → Int32} {mu : Nat} {p : Program} {e : Env} {R : Room} {s : State} {m : MethodId} {args : Array Value} {below : List Frame} {meth : Method} {c : Code} {locs : List Loc} {cells slots : Nat} {pc : Nat} {lsM : Array Slot} {T : State}
set_option maxHeartbeats 2000000 in
theorem rs_catch (X : Stand p l e R s m args below meth c T locs cells slots) (hc : rs_cx D ca bs b L xs mu p e s m args meth c) {x : Nat} {ce : Cell} {k : Int} {stM : List Value} {f : Nat → Prop} (hce : T.heap[x]? = some ce) (hcv : ce.vm = .none) (hcc : s.vm.findClass (rs_xn k) = some ce.cls) (hv : rs_hn mu pc k f) :
    ∃ (h : Nat) (vm' : Vm), s.WarmedH vm' ∧ f h ∧ ∀ target, Steps p.tables e below ((T.setVm vm').setTop { (F0 m pc lsM stM) with pc := h, stack := [.ref x] }) target → Steps p.tables e below ((T.setTop (F0 m pc lsM stM)).pushFrame (.throwing x)) target := by
  obtain ⟨hx, hb, hr, hml, hown, hts, hlocks, hamb, hex, htr⟩ := id hc
  obtain ⟨w1, w2, w3, w4⟩ := rs_lawlinks
  unfold rs_hn at hv
  split at hv
  case h_2 => exact hv.elim
  case h_1 a b' h1 h2 hhd =>
  obtain ⟨g1, g2, hv⟩ := hv
  obtain ⟨hl, how⟩ := rs_hd_hs hhd
  rw [how] at hown
  have hpl : e.platform.magicAccessors = ({} : Platform).magicAccessors := by rw [X.admits.platform]
  obtain ⟨cA, hcA, lA⟩ := Cond.classLink_spec hown (hts _ (rs_has_in w1)) e.platform hpl
  obtain ⟨cS, hcS, lS⟩ := Cond.classLink_spec hown (hts _ (rs_has_in w2)) e.platform hpl
  obtain ⟨aA, kA, hkA⟩ := rs_selfa (hts _ (rs_has_in w3)) hcA
  obtain ⟨aS, kS, hkS⟩ := rs_selfa (hts _ (rs_has_in w4)) hcS
  obtain ⟨dA, _, _, _, hdA, _, _, _, _, _, _, oA⟩ := lA.here
  obtain ⟨dS, _, _, _, hdS, _, _, _, _, _, _, oS⟩ := lS.here
  have W1 : s.WarmedH (T.vm.noted m.cls 13 (.cls cA)) := X.warmed.noted hdA oA (State.rightAt_cls lA)
  have W2 : s.WarmedH ((T.vm.noted m.cls 13 (.cls cA)).noted m.cls 15 (.cls cS)) := W1.noted hdS oS (State.rightAt_cls lS)
  have hmT : ((T.setTop (F0 m pc lsM stM)).pushFrame (.throwing x)).vm.method? m = some meth := by rw [Stand.throwing_vm]; exact X.method'
  have hvT : ((T.setTop (F0 m pc lsM stM)).pushFrame (.throwing x)).vm = T.vm := Stand.throwing_vm T _ x
  have hhT : ((T.setTop (F0 m pc lsM stM)).pushFrame (.throwing x)).heap[x]? = some ce := by rw [Stand.throwing_heap]; exact hce
  have hno : ∀ k, ce.vm ≠ .statics k := fun k q => by rw [hcv] at q; cases q
  have alT := X.warmed.alike
  have kk : ∀ {vm : Vm} {i : Nat} {k : Class}, s.vm.Alike vm → s.vm.classes[i]? = some k → ∃ k, vm.classes[i]? = some k := fun ha hk => by
    obtain ⟨k', h', -⟩ := ha.2.2 _ _ hk
    exact ⟨k', h'⟩
  obtain ⟨kc, hkc⟩ : ∃ kc, s.vm.classes[ce.cls]? = some kc := Vm.classAt_of_findClass hcc
  have one : ∀ (x1 : ExceptionTableEntry) (rest : List ExceptionTableEntry), c.exceptionTable.toList = x1 :: rest → x1.startPc = a → x1.endPc = b' → x1.handlerPc = h1 → x1.catchType = 13 → k = 1 → ∀ (Q : Handler → Pre) (E : CtlPost) (d : Bool) (acts : List Action), Sem.wp (findHandler (F0 m pc lsM stM) x) Q E e d acts ((T.setTop (F0 m pc lsM stM)).pushFrame (.throwing x)) ↔ Q (.found h1) d acts (((T.setTop (F0 m pc lsM stM)).pushFrame (.throwing x)).setVm (T.vm.noted m.cls 13 (.cls cA))) := by
    intro x1 rest hl1 y1 y2 y3 y4 hk1 Q E d acts
    have hcl : ce.cls = cA := by
      rw [hk1] at hcc
      exact Option.some.inj (hcc.symm.trans hcA)
    rw [W.findHandler_eq hmT X.code, hl1, rs_fh (c := cA) (cell := ce) (by simp [covers, y1, y2]; omega) (by rw [y4]; decide) (by rw [hvT, y4]; exact X.warmed.classLinks lA) hhT hno (by rw [hvT]; exact kk alT hkc) (by rw [hvT]; exact kk alT hkA), if_pos (by rw [hvT, alT.assignable, hcl]; exact aA), y3, y4, hvT]
  have two : ∀ (x1 x2 : ExceptionTableEntry) (rest : List ExceptionTableEntry), c.exceptionTable.toList = x1 :: x2 :: rest → x1.startPc = a → x1.endPc = b' → x1.catchType = 13 → x2.startPc = a → x2.endPc = b' → x2.handlerPc = h2 → x2.catchType = 15 → k = 2 → ∀ (Q : Handler → Pre) (E : CtlPost) (d : Bool) (acts : List Action), Sem.wp (findHandler (F0 m pc lsM stM) x) Q E e d acts ((T.setTop (F0 m pc lsM stM)).pushFrame (.throwing x)) ↔ Q (.found h2) d acts (((T.setTop (F0 m pc lsM stM)).pushFrame (.throwing x)).setVm ((T.vm.noted m.cls 13 (.cls cA)).noted m.cls 15 (.cls cS))) := by
    intro x1 x2 rest hl1 y1 y2 y4 z1 z2 z3 z4 hk2 Q E d acts
    have hcl : ce.cls = cS := by
      rw [hk2] at hcc
      exact Option.some.inj (hcc.symm.trans hcS)
    obtain ⟨q1, q2, r1, r2, r3⟩ := hamb.2.2.2.2.2.1
    have hna : s.vm.assignable ce.cls cA = false := by
      rw [hcl]
      cases r1.symm.trans hcS
      cases r2.symm.trans hcA
      exact r3
    have al1 := W1.alike
    rw [W.findHandler_eq hmT X.code, hl1, rs_fh (c := cA) (cell := ce) (by simp [covers, y1, y2]; omega) (by rw [y4]; decide) (by rw [hvT, y4]; exact X.warmed.classLinks lA) hhT hno (by rw [hvT]; exact kk alT hkc) (by rw [hvT]; exact kk alT hkA), if_neg (by rw [hvT, alT.assignable, hna]; decide), y4, hvT]
    rw [rs_fh (s := ((T.setTop (F0 m pc lsM stM)).pushFrame (.throwing x)).setVm (T.vm.noted m.cls 13 (.cls cA))) (f := F0 m pc lsM stM) (a := x) (x := x2) (t := rest) (c := cS) (cell := ce) (by simp [covers, z1, z2]; omega) (by rw [z4]; decide) (by rw [z4]; exact W1.classLinks lS) hhT hno (kk al1 hkc) (kk al1 hkS), if_pos (by rw [show (((T.setTop (F0 m pc lsM stM)).pushFrame (.throwing x)).setVm (T.vm.noted m.cls 13 (.cls cA))).vm = T.vm.noted m.cls 13 (.cls cA) from rfl, al1.assignable, hcl]; exact aS), z3, z4]
    rfl
  by_cases hk1 : k = 1
  · rw [if_pos hk1] at hv
    refine ⟨h1, _, W1, hv, fun target hst => rs_caught (g := F0 m pc lsM stM) X.here ?_ hst⟩
    rcases hl with hl | ⟨-, hl⟩
    · rw [hl] at hex
      obtain ⟨x1, l1, e1⟩ : ∃ x1 l1, c.exceptionTable.toList = x1 :: l1 := by
        cases hq : c.exceptionTable.toList with
        | nil => rw [hq] at hex; cases hex
        | cons x1 l1 => exact ⟨x1, l1, rfl⟩
      rw [e1] at hex
      simp only [List.map_cons, List.cons.injEq, Prod.mk.injEq] at hex
      exact one x1 l1 e1 hex.1.1 hex.1.2.1 hex.1.2.2.1 hex.1.2.2.2 hk1
    · rw [hl] at hex
      obtain ⟨x1, l1, e1⟩ : ∃ x1 l1, c.exceptionTable.toList = x1 :: l1 := by
        cases hq : c.exceptionTable.toList with
        | nil => rw [hq] at hex; cases hex
        | cons x1 l1 => exact ⟨x1, l1, rfl⟩
      rw [e1] at hex
      simp only [List.map_cons, List.cons.injEq, Prod.mk.injEq] at hex
      exact one x1 l1 e1 hex.1.1 hex.1.2.1 hex.1.2.2.1 hex.1.2.2.2 hk1
  · rw [if_neg hk1] at hv
    obtain ⟨hk2, h20, hv⟩ := hv
    refine ⟨h2, _, W2, hv, fun target hst => rs_caught (g := F0 m pc lsM stM) X.here ?_ hst⟩
    rcases hl with hl | ⟨hl, -⟩
    · rw [hl] at hex
      obtain ⟨x1, x2, l1, e1⟩ : ∃ x1 x2 l1, c.exceptionTable.toList = x1 :: x2 :: l1 := by
        cases hq : c.exceptionTable.toList with
        | nil => rw [hq] at hex; cases hex
        | cons x1 l1 =>
          cases l1 with
          | nil => rw [hq] at hex; simp at hex
          | cons x2 l1 => exact ⟨x1, x2, l1, rfl⟩
      rw [e1] at hex
      simp only [List.map_cons, List.cons.injEq, Prod.mk.injEq] at hex
      exact two x1 x2 l1 e1 hex.1.1 hex.1.2.1 hex.1.2.2.2 hex.2.1.1 hex.2.1.2.1 hex.2.1.2.2.1 hex.2.1.2.2.2 hk2
    · omega
end RSK
section RSC
variable {l : Launch} {D : va_G} {ca : Nat → ClassId} {bs b L : Nat} {xs : Nat → Int32} {mu : Nat} {p : Program} {e : Env} {R : Room} {s : State} {m : MethodId} {args : Array Value} {below : List Frame} {meth : Method} {c : Code} {H : Heap} {locs : List Loc} {cells slots : Nat} {I : rs_M} {u d pc i nu : Nat} {ls : rs_L} {as r : List rs_V} {K : rs_K} {lsM : Array Slot}
set_option maxHeartbeats 2000000 in
/-- into the callee, through its run, and out of it: where it returned, at the next instruction; where it threw, at the handler -/
theorem rs_enter {U : State} (X : Stand p l e R s m args below meth c U locs cells slots) (hU : U.heap = H) {mk : MethodId} (hn : s.methodNamed? (rs_nm nu) = some mk) (hlt : nu < 124 ∧ nu ≠ 116) (hc : rs_cx D ca bs b L xs mu p e s m args meth c) (hfr : d ≤ R.frames) (hlo : 64 * d ≤ R.locals) (hce : cells + u ≤ R.cells) (hsl : slots + rs_sl * u ≤ R.slots) (hrel : rs_rel D ca bs b L xs I H) (hS : va_S (fun q => b ≤ q) s.heap H locs) (hoa : ∀ v ∈ as, rs_ok v) (hor : ∀ v ∈ r, rs_ok v) (hlk : rs_lok mu bs b ls lsM)
    (a2 : ∀ v ∈ as, rs_c1 v) (a1 : as.length = rs_na nu) (h2 : r.length ≤ 4) (h3 : 0 < d) (h4 : rs_un nu ≤ u) {ig : Instr} (hdg : decode c.code pc = .ok (ig, 3))
    (h : rs_snd l D ca bs b L xs (rs_un nu) (d - 1) nu 0 (rs_en0 as (rs_mx nu)) [] I (rs_cn (rs_snd l D ca bs b L xs) (u - rs_un nu) d mu pc ls r K)) :
    ∃ t, Steps p.tables e below (doInvoke e (U.setTop (F0 m pc lsM (r.map (rs_cv bs b)))) [] mk (as.map (rs_cv bs b)).toArray).1 t ∧ rs_MQ D ca bs b L xs K below s R.cells R.slots t := by
  obtain ⟨hx, hb, hr, hml, hown, hts, hlocks, hamb, hex, htr⟩ := id hc
  obtain ⟨c1, c2, c3, c4, c5, c6, c7, c8⟩ := rs_cal (nu := nu) hlt.1 hlt.2
  have hg : ∀ v ∈ as, (rs_cv bs b v).category = 1 := fun v hv => rs_revc (a2 v hv)
  have hcat := rs_cats bs b r
  have hroom : rs_sl * rs_un nu ≤ rs_sl * u := Nat.mul_le_mul_left _ h4
  have hsum : rs_sl * rs_un nu + rs_sl * (u - rs_un nu) = rs_sl * u := by rw [← Nat.mul_add]; congr 1; omega
  obtain ⟨methk, ck, k1, k2, k3, k4, k5, k6, k7, -⟩ := rs_code hn (hts _ c2)
  have hal := X.warmed.alike
  have hmk : U.vm.method? mk = some methk := by rw [hal.method?]; exact k1
  have hpk : U.plainMethod mk := State.plainMethod.of_named (s := U) c1 (X.named hn) hmk
  obtain ⟨Xc, hent⟩ := X.into (g := F0 m pc lsM (r.map (rs_cv bs b))) rfl (hlk.1.trans hml.symm) hdg (as.map (rs_cv bs b)).toArray (R' := { frames := d - 1, cells := rs_un nu, slots := rs_sl * rs_un nu, locals := 64 * (d - 1) }) hmk k2 k6 hpk (by show d - 1 + 1 ≤ _; omega) (by show 2 * 0 + ((r.map (rs_cv bs b)).map fun v => v.category).sum + (ck.maxLocals + 11) + 64 * (d - 1) ≤ R.locals; rw [k4]; omega) (by show cells + rs_un nu ≤ _; omega) (by show slots + rs_sl * rs_un nu ≤ _; omega)
  have hl := lv_entry (as.map (rs_cv bs b)) (n := rs_mx nu) (by rw [rs_sl_len bs b as hg, a1]; exact c7)
  have hUs : s.heap.size ≤ U.heap.size := by rw [hU]; exact hS.1
  have hUq : ∀ q : Nat, q < s.heap.size → ¬ b ≤ q → U.heap[q]? = s.heap[q]? := fun q g1 g2 => by rw [hU]; exact hS.2.1 q g1 g2
  have hambU := rs_amb_at hamb X.warmed hUs hUq
  obtain ⟨t, hst, o, hrun, hend, ⟨v, J, hv, hE, hrelJ, hF⟩, L', ⟨hW', hsame⟩, hL'⟩ := h p e _ (U.calling (F0 m pc lsM (r.map (rs_cv bs b))) mk (as.map (rs_cv bs b)).toArray) mk _ _ methk ck H [] 0 0 _ ⟨hx, k3, k5, k4, by
      show U.vm.findClass (rs_ow nu) = _
      rw [hal.findClass]
      exact findClass_of_methodNamed hn, fun w hw => word_at (U := U.calling (F0 m pc lsM (r.map (rs_cv bs b))) mk (as.map (rs_cv bs b)).toArray) X.warmed (good_of_word (rs_tbl_good hw)) (hts w hw), k6, rs_amb_same (s := U) hambU rfl rfl, k7, htr⟩
      (Nat.le_refl _) (Nat.le_refl _) (by show 0 + rs_un nu ≤ rs_un nu; omega) (by show 0 + rs_sl * rs_un nu ≤ rs_sl * rs_un nu; omega) hrel (by
        show va_S _ U.heap H []
        rw [hU]
        exact va_S.rf) (fun v hv => by cases hv) ⟨hl.1, hl.2.1, fun i v hv => by
        obtain ⟨g1, g2, g3⟩ := rs_ent_mem bs b (rs_mx nu - as.length) as 0 i v hg hv
        have g4 := hl.2.2 _ g1
        rw [Nat.zero_add] at g4
        exact ⟨hoa v g2, hg v g2, by omega, g4⟩⟩ _ (by rw [← hU]; rfl) Xc
  have hst2 : Steps p.tables e below (doInvoke e (U.setTop (F0 m pc lsM (r.map (rs_cv bs b)))) [] mk (as.map (rs_cv bs b)).toArray).1 t := by
    have e9 : entryFrame mk (as.map (rs_cv bs b)).toArray ck.maxLocals = F0 mk 0 ((lg_sl (as.map (rs_cv bs b)) ++ List.replicate (rs_mx nu - (lg_sl (as.map (rs_cv bs b))).length) Slot.unset).toArray) [] := by rw [k4, lg_entry_eq]
    have h9 := rs_weaken hst
    rw [hent]
    generalize (U.setTop (F0 m pc lsM (r.map (rs_cv bs b)))).pushFrame (.java (entryFrame mk (as.map (rs_cv bs b)).toArray ck.maxLocals)) = V at h9 ⊢
    rw [e9]
    exact h9
  have hFz : H.size ≤ t.heap.size := by
    have := hF.1
    rw [show (U.calling (F0 m pc lsM (r.map (rs_cv bs b))) mk (as.map (rs_cv bs b)).toArray).heap = H from hU] at this
    exact this
  have hFq : ∀ q : Nat, q < H.size → ¬ b ≤ q → t.heap[q]? = H[q]? := by
    have := hF.2
    rw [show (U.calling (F0 m pc lsM (r.map (rs_cv bs b))) mk (as.map (rs_cv bs b)).toArray).heap = H from hU] at this
    exact this
  have hSt : va_S (fun q => b ≤ q) s.heap t.heap (locs ++ L') := ⟨Nat.le_trans hS.1 hFz, fun q g1 g2 => by rw [hFq q (Nat.lt_of_lt_of_le g1 hS.1) g2]; exact hS.2.1 q g1 g2, fun q hq => by
    rcases List.mem_append.mp hq with g | g
    · exact hS.2.2 q g
    · exact hL' q g⟩
  have back : ∀ (vv : Option Value) (st' : List rs_V), o = .returned vv → vv.toList ++ r.map (rs_cv bs b) = st'.map (rs_cv bs b) → (∀ w ∈ st', rs_ok w) → rs_snd l D ca bs b L xs (u - rs_un nu) d mu (pc + 3) ls st' J K → ∃ t, Steps p.tables e below (doInvoke e (U.setTop (F0 m pc lsM (r.map (rs_cv bs b)))) [] mk (as.map (rs_cv bs b)).toArray).1 t ∧ rs_MQ D ca bs b L xs K below s R.cells R.slots t := by
    intro vv st' ho hst' hok' hrun'
    subst ho
    obtain ⟨T', X', -, -, e1⟩ := X.outOf (g := F0 m pc lsM (r.map (rs_cv bs b))) rfl hdg hend hW' hsame
    have hh : T'.heap = t.heap := by rw [e1]; rfl
    obtain ⟨t2, a1, b1⟩ := hrun' p e R s m args below meth c t.heap (locs ++ L') (cells + rs_un nu) (slots + rs_sl * rs_un nu) lsM hc hfr hlo (by omega) (by omega) hrelJ hSt hok' hlk T' hh X'
    refine ⟨t2, hst2.trans ?_, b1⟩
    rw [e1]
    show Steps p.tables e below (T'.setTop { (F0 m pc lsM (r.map (rs_cv bs b))) with pc := pc + 3, stack := vv.toList ++ r.map (rs_cv bs b) }) t2
    rw [hst']
    exact a1
  rcases v with _ | z | k | q
  · exact back none r hE rfl hor hv
  · exact back (some (.int (Int32.ofInt z))) (.inl z :: r) hE.2 rfl (fun w hw => by
      rcases List.mem_cons.mp hw with g | g
      · rw [g]; exact hE.1
      · exact hor w g) hv
  · obtain ⟨hk, x, ce, ho, hbx, hce, hcv, hcc⟩ := hE
    subst ho
    obtain ⟨T', X', -, -, e1⟩ := X.outOfThrown (g := F0 m pc lsM (r.map (rs_cv bs b))) rfl hend hW' hsame
    have hh : T'.heap = t.heap := by
      rw [e1]
      exact (Stand.throwing_heap T' _ x).symm ▸ rfl
    have hcc' : s.vm.findClass (rs_xn k) = some ce.cls := by rw [← hal.findClass]; exact hcc
    obtain ⟨h', vm', hp, hX2, hstep⟩ := rs_catch (stM := r.map (rs_cv bs b)) (lsM := lsM) X' hc (by rw [hh]; exact hce) hcv hcc' hv
    obtain ⟨t2, a1, b1⟩ := hX2 (x - b + 1) p e R s m args below meth c t.heap (locs ++ L') (cells + rs_un nu) (slots + rs_sl * rs_un nu) lsM hc hfr hlo (by omega) (by omega) hrelJ hSt (fun w hw => by
      rw [List.mem_singleton.mp hw]; trivial) hlk (T'.setVm vm') hh (X'.noted hp)
    refine ⟨t2, hst2.trans ?_, b1⟩
    rw [e1]
    refine hstep t2 ?_
    have e4 : rs_ad bs b (x - b + 1) = x := by
      unfold rs_ad
      rw [if_neg (by omega)]
      omega
    have e5 : ([.inr (.inr (x - b + 1))] : List rs_V).map (rs_cv bs b) = [.ref x] := by
      show [Value.ref (rs_ad bs b (x - b + 1))] = [.ref x]
      rw [e4]
    rw [e5] at a1
    exact a1
  · exact back (some (.ref (rs_ad bs b q))) (.inr (.inr q) :: r) hE rfl (fun w hw => by
      rcases List.mem_cons.mp hw with g | g
      · rw [g]; trivial
      · exact hor w g) hv
end RSC
