section STW
variable {l : Launch} {D : va_G} {ca : Nat → ClassId} {b : Nat} {p : Program} {e : Env} {R : Room} {s : State} {m : MethodId} {args : Array Value} {below : List Frame} {meth : Method} {cd : Code} {H : Heap} {locs : List Loc} {cells slots : Nat} {Q : State → Prop} {g gm : kc_G} {own : String} {cc : ByteArray} {pc i : Nat} {lsM : Array Slot} {rest : List Value}
theorem st_new {ci : Nat} (hx : p.tables.exec = Jvm.exec) (hb : cd.code = cc) (hown : s.vm.findClass own = some m.cls) (hts : ∀ w ∈ rs_tbl, w.before args s = true) (hamb : kamb D ca s) (hci : ci < 9) (l1 : Cond.classLink own i (rs_on ci) ∈ rs_tbl) (hrel : kr D ca b g H) (hS : va_S (fun q => b ≤ q) s.heap H locs) (hd : decode cc pc = .ok (.new i, 3)) (hcell : cells + 1 ≤ R.cells) (hslot : slots + (rs_cl ci).2.2 ≤ R.slots)
    (kk : ∀ H1 : Heap, kr D ca b (g ++ [(1, ci, List.replicate (rs_cl ci).2.2 none)]) H1 → va_S (fun q => b ≤ q) s.heap H1 locs → W p l e R s m args below meth cd H1 locs (cells + 1) (slots + (rs_cl ci).2.2) Q (F0 m (pc + 3) lsM (.ref (b + g.length) :: rest))) : W p l e R s m args below meth cd H locs cells slots Q (F0 m pc lsM rest) := by
  obtain ⟨o1, o2, o3, o4, o5, o6, o7, o8, o9⟩ := kc_ok hci
  have hKn := hamb.1.1 ci _ (rs_cls_at hci)
  refine W.newcK hx hb hown (hts _ l1) (hts _ o3) (hts _ o1) rfl hd hcell hslot (by rw [← o6]; exact hKn.2.1) hrel.2 (fun H1 kC hkC e1 z1 q1 => ?_)
  have h1 : ∀ q : Nat, q < H.size → H1[q]? = H[q]? := fun q hq => q1 q (by rw [← hrel.2]; exact hq)
  have h2 : H1.size = H.size + 1 := by rw [z1, hrel.2]
  refine kk H1 (kr_push hrel h1 h2 ⟨_, rs_cls_at hci, (u_born (rs_ty ci) hts (rs_cw_in hci) hKn hkC e1 (rs_ty_ok ci hci).1).to (fun j hj => by
    rw [kc_dflt ci hci j hj]
    show _ = vp_V (kf b ci _) j
    unfold vp_V
    rw [List.getD_eq_getElem?_getD, kf_at hj]
    have e9 : ((List.replicate (rs_cl ci).2.2 (none : Option Nat)).getD j none) = none := by
      rw [List.getD_eq_getElem?_getD, List.getElem?_replicate]
      split <;> rfl
    rw [e9]
    split <;> rfl)⟩) (kS_push hS h1 h2)
set_option maxHeartbeats 2000000 in
theorem st_call {nu n o : Nat} (hx : p.tables.exec = Jvm.exec) (hb : cd.code = cc) (hml : lsM.size = cd.maxLocals) (hown : s.vm.findClass own = some m.cls) (hts : ∀ w ∈ rs_tbl, w.before args s = true) (hamb : kamb D ca s) (hnu : nu < 9) (hl : Cond.methodLink own i (kc_nm nu) ∈ rs_tbl) (hF : kc n nu 0 (some (.inr o) :: List.replicate (kc_mx nu - 1) none) [] g = some gm) (hrel : kr D ca b g H) (hS : va_S (fun q => b ≤ q) s.heap H locs) (hbs : b ≤ s.heap.size) (hcat : (rest.map fun v => v.category).sum ≤ 4) (hfr : kc_dep nu + 1 ≤ R.frames) (hlo : 64 * kc_dep nu + 64 ≤ R.locals) (hcell : cells + (gm.length - g.length) ≤ R.cells) (hslot : slots + (ksl gm - ksl g) ≤ R.slots) (hd : decode cc pc = .ok (.invokespecial i, 3))
    (kk : ∀ (H1 : Heap) (locs1 : List Loc), kr D ca b gm H1 → va_S (fun q => b ≤ q) s.heap H1 locs1 → W p l e R s m args below meth cd H1 locs1 (cells + (gm.length - g.length)) (slots + (ksl gm - ksl g)) Q (F0 m (pc + 3) lsM rest)) : W p l e R s m args below meth cd H locs cells slots Q (F0 m pc lsM (.ref (b + o) :: rest)) := by
  obtain ⟨k1, k2, k3, k4, k5, k6, k7, k8, k9⟩ := kc_ok hnu
  have hm1 := kc_mono _ _ _ _ _ _ _ hF
  have hcw := hts _ (kc_cwA hnu)
  have hbH : b ≤ H.size := Nat.le_trans hbs hS.1
  intro T hT X
  have hpl : e.platform.magicAccessors = ({} : Platform).magicAccessors := by rw [X.admits.platform]
  have hlen : ∀ sig, parseMethodDescriptor (kc_nm nu).desc = some sig → ([] : List Value).length = sig.parameters.length := fun sig hs => by
    have h0 : (parseMethodDescriptor "()V").map (fun d => d.parameters.length) = some 0 := by decide +kernel
    have hs' : parseMethodDescriptor "()V" = some sig := hs
    rw [hs'] at h0
    exact (Option.some.inj h0).symm
  obtain ⟨mk, methM, cM, kP, vm1, hnamed, a2, a3, -, a4, -, a5, -, hW1, hstep⟩ := Steps.initColdArgs (e := e) X.here hx X.warmed hpl hown (t := kc_nm nu) rfl ⟨k4, k5⟩ (hts _ hl) (hts _ k2) hcw (f := F0 m pc lsM (Value.ref (b + o) :: rest)) rfl (argsL := []) hlen rfl (by rw [hb]; exact hd)
  obtain ⟨methk, ck, c1, c2, c3, c4, c5, c6, -, -⟩ := Cond.code_spec hnamed hcw
  have X1 := X.noted hW1
  have hal := X1.warmed.alike
  have hmk : (T.setVm vm1).vm.method? mk = some methk := by rw [hal.method?]; exact c1
  have hpk : (T.setVm vm1).plainMethod mk := State.plainMethod.of_named (s := T.setVm vm1) k7 (X1.named hnamed) hmk
  obtain ⟨Xc, hent⟩ := X1.into (g := F0 m pc lsM rest) rfl hml (by rw [hb]; exact hd) (Value.ref (b + o) :: []).toArray (R' := { frames := kc_dep nu, cells := gm.length - g.length, slots := ksl gm - ksl g, locals := 64 * kc_dep nu }) hmk c2 c6 hpk hfr (by show 2 * 0 + (rest.map fun v => v.category).sum + (ck.maxLocals + 11) + 64 * kc_dep nu ≤ R.locals; rw [c4]; omega) hcell hslot
  have hl := lv_entry [Value.ref (b + o)] (n := kc_mx nu) (by show 1 ≤ _; exact k8)
  have hUH : (T.setVm vm1).heap = H := hT
  obtain ⟨t, hst, hrun, hend, hrelJ, hF1, L', ⟨hW', hsame⟩, hL'⟩ := kc_snd l D ca b n nu 0 _ _ _ _ hF hnu p e _ ((T.setVm vm1).calling (F0 m pc lsM rest) mk (Value.ref (b + o) :: []).toArray) mk _ _ methk ck H [] 0 0 (gm.length - g.length) (ksl gm - ksl g) _ ⟨hx, c3, c5, c4, by
      show (T.setVm vm1).vm.findClass (rs_on nu) = _
      rw [hal.findClass]
      exact findClass_of_methodNamed hnamed, fun w hw => word_at (U := (T.setVm vm1).calling (F0 m pc lsM rest) mk (Value.ref (b + o) :: []).toArray) X1.warmed (good_of_word (rs_tbl_good hw)) (hts w hw), c6, (name_of_methodNamed hnamed c1).1, kamb_at (U := (T.setVm vm1).calling (F0 m pc lsM rest) mk (Value.ref (b + o) :: []).toArray) hamb X1.warmed⟩ (Nat.le_refl _) (Nat.le_refl _) (by omega) (by omega) (Nat.le_refl _) (Nat.le_refl _) hrel (by
        show va_S _ (T.setVm vm1).heap H []
        rw [hUH]
        exact va_S.rf) (by show b ≤ (T.setVm vm1).heap.size; rw [hUH]; exact hbH) (fun v hv => by cases hv) ⟨hl.1, hl.2.1, fun i v hv => by
        cases i with
        | zero =>
          cases hv
          exact ⟨trivial, k8, hl.2.2 (0, _) List.mem_cons_self⟩
        | succ i =>
          exfalso
          have : rs_nth (List.replicate (kc_mx nu - 1) (none : Option kc_V)) i = some (some v) := hv
          exact kc_nth_rep _ _ _ this⟩ _ (by rw [← hUH]; rfl) Xc
  have hst2 : Steps p.tables e below (doInvoke e ((T.setVm vm1).setTop (F0 m pc lsM rest)) [] mk (Value.ref (b + o) :: []).toArray).1 t := by
    have e9 : entryFrame mk (Value.ref (b + o) :: []).toArray ck.maxLocals = F0 mk 0 ((lg_sl [Value.ref (b + o)] ++ List.replicate (kc_mx nu - (lg_sl [Value.ref (b + o)]).length) Slot.unset).toArray) [] := by rw [c4, lg_entry_eq]
    have h9 := rs_weaken hst
    rw [hent]
    generalize ((T.setVm vm1).setTop (F0 m pc lsM rest)).pushFrame (.java (entryFrame mk (Value.ref (b + o) :: []).toArray ck.maxLocals)) = V at h9 ⊢
    rw [e9]
    exact h9
  have hFz : H.size ≤ t.heap.size := by
    have := hF1.1
    rw [show ((T.setVm vm1).calling (F0 m pc lsM rest) mk (Value.ref (b + o) :: []).toArray).heap = H from hUH] at this
    exact this
  have hFq : ∀ q : Nat, q < H.size → ¬ b ≤ q → t.heap[q]? = H[q]? := by
    have := hF1.2
    rw [show ((T.setVm vm1).calling (F0 m pc lsM rest) mk (Value.ref (b + o) :: []).toArray).heap = H from hUH] at this
    exact this
  have hSt2 : va_S (fun q => b ≤ q) s.heap t.heap (locs ++ L') := ⟨Nat.le_trans hS.1 hFz, fun q g1 g2 => by rw [hFq q (Nat.lt_of_lt_of_le g1 hS.1) g2]; exact hS.2.1 q g1 g2, fun q hq => by
    rcases List.mem_append.mp hq with g | g
    · exact hS.2.2 q g
    · exact hL' q g⟩
  obtain ⟨T', X', -, -, e1⟩ := X1.outOf (g := F0 m pc lsM rest) rfl (by rw [hb]; exact hd) hend hW' hsame
  have hh : T'.heap = t.heap := by rw [e1]; rfl
  obtain ⟨t2, a1, b1⟩ := kk t.heap (locs ++ L') hrelJ hSt2 T' hh X'
  refine ⟨t2, hstep t2 (fun acts => ?_), b1⟩
  rw [doInvoke_state]
  refine hst2.trans ?_
  rw [e1]
  exact a1
end STW
theorem st_d0 : decode code 0 = .ok (.new 8, 3) := by decide +kernel
theorem st_d3 : decode code 3 = .ok (.dup, 1) := by decide +kernel
theorem st_d4 : decode code 4 = .ok (.invokespecial 39, 3) := by decide +kernel
theorem st_d7 : decode code 7 = .ok (.astore_n 1, 1) := by decide +kernel
theorem st_d8 : decode code 8 = .ok (.new 40, 3) := by decide +kernel
theorem st_d11 : decode code 11 = .ok (.dup, 1) := by decide +kernel
theorem st_d12 : decode code 12 = .ok (.invokespecial 42, 3) := by decide +kernel
theorem st_d15 : decode code 15 = .ok (.astore_n 2, 1) := by decide +kernel
theorem st_d16 : decode code 16 = .ok (.iconst 1, 1) := by decide +kernel
theorem st_d17 : decode code 17 = .ok (.newarray .long, 2) := by decide +kernel
theorem st_d19 : decode code 19 = .ok (.astore_n 3, 1) := by decide +kernel
set_option maxRecDepth 100000 in
theorem st_lk : rs_has 18 (Cond.classLink "RangeSheetLaw" 8 (rs_on 7)) = true ∧ rs_has 20 (Cond.methodLink "RangeSheetLaw" 39 (kc_nm 7)) = true ∧ rs_has 610 (Cond.classLink "RangeSheetLaw" 40 (rs_on 8)) = true ∧ rs_has 612 (Cond.methodLink "RangeSheetLaw" 42 (kc_nm 8)) = true := by decide +kernel
set_option maxRecDepth 100000 in
theorem st_num : (kc_fin.take 87).length = 87 ∧ (kc_fin.take 109).length = 109 ∧ kc_fin.take 109 ++ [(4, 1, [])] = kc_fin ∧ kc_fin.length = 110 ∧ ksl (kc_fin.take 87) ≤ 100000 ∧ ksl (kc_fin.take 109) ≤ 100000 ∧ ksl (kc_fin.take 87 ++ [(1, 8, List.replicate 36 none)]) ≤ 100000 ∧ (rs_cl 7).2.2 = 9 ∧ (rs_cl 8).2.2 = 36 := by decide +kernel
