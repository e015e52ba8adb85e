/-- the locals of the law at the head of its loop -/
def rs_sls : rs_L := [some (.inr (.inr 0)), some (.inr (.inr 1)), some (.inr (.inr 88)), some (.inr (.inr 110)), none, none, none]
set_option maxHeartbeats 4000000 in
/-- the law ends with true, if its loop does on the abstract machine -/
theorem rs_start {p : Program} {e : Env} {s : State} {m : MethodId} {below : List Frame} {meth : Method} {c : Code} (l : Launch) (hfl : l.flags = flags0) {b L : Nat} {xs : Nat → Int32} (hcw : (Jvm.Cond.code x code maxLocals ret).before #[Value.ref b] s = true) (hnm : s.methodNamed? x = some m) (hL : L ≤ 2560) (C0 : lw_At p s m meth c b L xs) (hrun : rs_run 512 1312 116 20 rs_sls [] (rs_ini L xs) (fun v _ => v = some (.inl 1))) : W p l e room_1 s m #[Value.ref b] below meth c s.heap [] 0 0 (lw_Z below #[Value.ref b] s) (entryFrame m ([Value.ref b] : List Value).toArray 7) := by
  obtain ⟨hx, hb, hr, hml, hown, hts, hX, hbl, hlocks, hgv⟩ := C0
  obtain ⟨D, ca, hK⟩ := st_K hts
  have hamb := st_kamb hts hK
  have htb : ∀ w ∈ rs_tbl, w.before #[Value.ref b] s = true := fun w hw => hts w (List.mem_filter.mp hw).1
  obtain ⟨n1, n2, n3, n4, n5, n6, n7, n8, n9⟩ := st_num
  obtain ⟨k1, k2, k3, k4⟩ := st_lk
  have hl0 := lv_entry [Value.ref b] (n := 7) (by show 1 ≤ 7; decide)
  rw [lg_entry_eq]
  generalize ((lg_sl [Value.ref b] ++ List.replicate (7 - (lg_sl [Value.ref b]).length) Slot.unset).toArray) = ls0 at hl0 ⊢
  have hrel0 : kr D ca s.heap.size [] s.heap := ⟨fun k q hk => by simp [kw] at hk, rfl⟩
  have hS0 : va_S (fun q => s.heap.size ≤ q) s.heap s.heap [] := va_S.rf
  refine st_new (ci := 7) (rest := []) hx hb hown htb hamb (by decide) (rs_has_in k1) hrel0 hS0 st_d0 (by decide) (by rw [n8]; decide) (fun H1 hr1 hS1 => ?_)
  refine lv_dup hx hb st_d3 rfl ?_
  refine st_call (nu := 7) (o := 0) (n := 2000) hx hb (hl0.1.trans hml.symm) hown htb hamb (by decide) (rs_has_in k2) kc_run7 hr1 hS1 (Nat.le_refl _) (by show 1 + 0 ≤ 4; decide) (by decide) (by decide) (by rw [n1]; decide) (by
    show 0 + (rs_cl 7).2.2 + (ksl (kc_fin.take 87) - _) ≤ 7177851
    omega) st_d4 (fun H2 locs2 hr2 hS2 => ?_)
  refine lv_astore_n (k := 1) (i := 1) hx hb st_d7 rfl hl0 (by decide) rfl (fun ls1 hl1 => ?_)
  refine st_new (ci := 8) (rest := []) hx hb hown htb hamb (by decide) (rs_has_in k3) hr2 hS2 st_d8 (by rw [n1]; decide) (by
    show 0 + (rs_cl 7).2.2 + (ksl (kc_fin.take 87) - _) + (rs_cl 8).2.2 ≤ 7177851
    omega) (fun H3 hr3 hS3 => ?_)
  refine lv_dup hx hb st_d11 rfl ?_
  rw [n9] at hr3
  refine st_call (nu := 8) (o := (kc_fin.take 87).length) (n := 2000) hx hb (hl1.1.trans hml.symm) hown htb hamb (by decide) (rs_has_in k4) (by rw [n1]; exact kc_run8) hr3 hS3 (Nat.le_refl _) (by show 1 + 0 ≤ 4; decide) (by decide) (by decide) (by rw [n1, n2, List.length_append, n1]; decide) (by
    show 0 + (rs_cl 7).2.2 + (ksl (kc_fin.take 87) - _) + (rs_cl 8).2.2 + (ksl (kc_fin.take 109) - _) ≤ 7177851
    omega) st_d12 (fun H4 locs4 hr4 hS4 => ?_)
  refine lv_astore_n (k := 2) (i := 2) hx hb st_d15 rfl hl1 (by decide) rfl (fun ls2 hl2 => ?_)
  refine lv_iconst hx hb st_d16 rfl ?_
  refine va_newaK (atype := .long) (N := 1) hx hb (htb _ (rs_has_in kc_objw.2.2.2.2)) rfl st_d17 rfl (by decide) (by decide) (by decide) (by
    rw [n1, n2, List.length_append, n1]; decide) (by
    show 0 + (rs_cl 7).2.2 + (ksl (kc_fin.take 87) - _) + (rs_cl 8).2.2 + (ksl (kc_fin.take 109) - _) + 1 ≤ 7177851
    omega) hr4.2 (fun H5 cA e5 z5 q5 _ f5 => ?_)
  have ecA : cA = ca 2 := Option.some.inj (f5.symm.trans (hK.2 2 _ rfl).2)
  subst ecA
  have g1 : ∀ q : Nat, q < H4.size → H5[q]? = H4[q]? := fun q hq => q5 q (by rw [← hr4.2]; exact hq)
  have g2 : H5.size = H4.size + 1 := by rw [z5, hr4.2]
  have hr5 := kr_push (x := (4, 1, [])) hr4 g1 g2 e5
  rw [n3] at hr5
  have hS5 := kS_push hS4 g1 g2
  refine lv_astore_n (k := 3) (i := 3) hx hb st_d19 rfl hl2 (by decide) rfl (fun ls3 hl3 => ?_)
  intro T hT X
  obtain ⟨CE, SE, hCE, hSE, X0⟩ : ∃ CE SE : Nat, CE ≤ 200 ∧ SE ≤ 400000 ∧ Stand p l e room_1 s m #[Value.ref b] below meth c T [] CE SE := by
    refine ⟨_, _, ?_, ?_, Stand.forget (locs := []) X (fun q hq => hS5.2.2 q hq)⟩
    · rw [n1, n2, List.length_append, n1]; decide
    · omega
  have X' := rs_rebase X0 (by show CE ≤ 639418; omega) (by show SE ≤ 7177851; omega)
  have hrelR : rs_rel D ca b s.heap.size L xs (rs_ini L xs) H5 := st_rel hL hr5
  have hq0 : ∀ q : Nat, q < s.heap.size → T.heap[q]? = s.heap[q]? := fun q hq => by rw [hT]; exact hS5.2.1 q hq (by show ¬ s.heap.size ≤ q; omega)
  have hambR : rs_amb D ca b s.heap.size L xs (T.setFrames s.frames) := st_amb (U := T.setFrames s.frames) hts hgv hK hX hbl X.warmed (by
    show s.heap.size + rs_N ≤ T.heap.size
    rw [hT, hr5.2, n4]
    exact Nat.le_refl _) hq0
  have al := X.warmed.alike
  have hpt : e.platform.stackTraces = false := by
    rw [X.admits.platform]
    show (!l.flags.contains noTraceFlag) = false
    rw [hfl]
    decide
  obtain ⟨meth', c', c1, c2, c3, c4, c5, c6, c7, -⟩ := Cond.code_spec hnm hcw
  have em : meth' = meth := Option.some.inj (c1.symm.trans X.method)
  subst em
  have ec : c' = c := Option.some.inj (c2.symm.trans X.code)
  subst ec
  have hcx : rs_cx D ca b s.heap.size L xs 116 p e (T.setFrames s.frames) m #[Value.ref b] meth' c' := ⟨hx, hb, hr, hml, by
    show T.vm.findClass _ = _
    rw [al.findClass]
    exact hown, fun w hw => word_at (U := T.setFrames s.frames) X.warmed (good_of_word (rs_tbl_good hw)) (htb w hw), hlocks, hambR, by
    have e2 : c'.exceptionTable.toList = [] := by
      have := Array.isEmpty_iff.mp c7
      rw [this]
    rw [e2]
    rfl, hpt⟩
  obtain ⟨t, st, o, q1, q2, ⟨v, J, hv, hE, hrelJ, hF⟩, L', ⟨hW', hsame⟩, hL'⟩ := rs_sound l D ca b s.heap.size L xs hrun p e _ (T.setFrames s.frames) m #[Value.ref b] below meth' c' H5 [] 0 0 ls3 hcx (by show 1312 ≤ 2048; decide) (by show 64 * 1312 ≤ 84000; decide) (by show 0 + 512 ≤ 639418 - CE; omega) (by show 0 + 6 * 512 ≤ 7177851 - SE; omega) hrelR (by
    show va_S _ T.heap H5 []
    rw [hT]
    exact va_S.rf) (fun v hv => by cases hv) ⟨hl3.1, hl3.2.1, fun i v hv => by
      rcases i with _ | _ | _ | _ | _ | _ | _ | i
      · cases hv
        exact ⟨trivial, rfl, by decide, lv_at hl3 3 rfl⟩
      · cases hv
        exact ⟨trivial, rfl, by decide, lv_at hl3 2 rfl⟩
      · cases hv
        have h := lv_at hl3 1 rfl
        rw [n1] at h
        exact ⟨trivial, rfl, by decide, h⟩
      · cases hv
        have h := lv_at hl3 0 rfl
        rw [n2] at h
        exact ⟨trivial, rfl, by decide, h⟩
      · cases hv
      · cases hv
      · cases hv
      · cases hv⟩ T hT X'
  subst hv
  obtain ⟨-, ho⟩ := hE
  refine ⟨t, st, o, q1, q2, ho, ⟨_, ho⟩, State.WarmedH.trans X.warmed (show T.WarmedH t.vm from hW'), ?_⟩
  have h9 : T.sameButNew ({ t with vm := T.vm } : State) L' (639418 - CE) (7177851 - SE) := hsame.of_setFrames
  have h10 := (X0.same.trans (h9.setVm s.vm)).mono (c' := 639418) (n' := 7177851) (by omega) (by omega)
  exact State.sameButNew.drop_fresh (L := []) h10 (fun q hq => hL' q hq)
/-- YOUR PART of the skeleton, by the run of the law's loop -/
def rs_law_runs : Prop := ∀ (L : Nat) (xs : Nat → Int32), L ≤ 2560 → rs_run 512 1312 116 20 rs_sls [] (rs_ini L xs) (fun v _ => v = some (.inl 1))
