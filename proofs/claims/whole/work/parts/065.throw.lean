def rs_isz (w : Cond) : Bool := decide (w = Cond.isRef (.static "java/lang/Throwable" "UNASSIGNED_STACK" "[Ljava/lang/StackTraceElement;")) || decide (w = Cond.isRef (.static "java/lang/Throwable" "SUPPRESSED_SENTINEL" "Ljava/util/List;")) || decide (w = Cond.laysStatic "java/lang/Throwable" "UNASSIGNED_STACK" "[Ljava/lang/StackTraceElement;") || decide (w = Cond.laysStatic "java/lang/Throwable" "SUPPRESSED_SENTINEL" "Ljava/util/List;")
def rs_isd (X : String) (w : Cond) : Bool := decide (w ∈ rs_decL.map Cond.declares) || decide (w = Cond.castable X X)
def rs_owc (t : Int) (j : Nat) : Bool := (Bundle.ownAtoms "RangeSheet" j (rs_xn t) rs_xnames).all (fun w => (tables_1.any (fun v => decide (v = w)) && goodWord w) || (rs_isz w || rs_isd (rs_xn t) w))
set_option maxRecDepth 100000 in
theorem rs_owc_all : rs_owc 1 51 = true ∧ rs_owc 2 62 = true := by decide +kernel
theorem rs_xfit : Bundle.fit (rs_xn 1) = true ∧ Bundle.fit (rs_xn 2) = true ∧ ∀ n ∈ rs_xnames, Bundle.fit n = true := by decide +kernel
theorem rs_xlinks : rs_has 440 (Cond.classLink "RangeSheet" 47 (rs_xn 1)) = true ∧ rs_has 507 (Cond.classLink "RangeSheet" 58 (rs_xn 2)) = true ∧ rs_has 441 (Cond.instantiable (rs_xn 1) 6) = true ∧ rs_has 508 (Cond.instantiable (rs_xn 2) 6) = true ∧ rs_has 13 (Cond.initialized (rs_xn 1)) = true ∧ rs_has 14 (Cond.initialized (rs_xn 2)) = true := by decide +kernel
theorem rs_thl : ∀ e ∈ rs_thL, (e.2.2.1 = 1 ∧ e.2.2.2.1 = 47 ∧ e.2.2.2.2.2 = 51) ∨ (e.2.2.1 = 2 ∧ e.2.2.2.1 = 58 ∧ e.2.2.2.2.2 = 62) := by decide +kernel
section RST
variable {l : Launch} {D : va_G} {ca : Nat → ClassId} {bs b L : Nat} {xs : Nat → Int32} {mu : Nat} {p : Program} {e : Env} {R : Room} {s : State} {m : MethodId} {args : Array Value} {below : List Frame} {meth : Method} {c : Code} {H : Heap} {locs : List Loc} {cells slots : Nat} {pc : Nat} {lsM : Array Slot} {T : State} {I : rs_M} {u d : Nat} {ls : rs_L} {K : rs_K}
set_option maxHeartbeats 1000000 in
/-- the walk as if the method had been called at the heap as it stands now -/
theorem rs_rebase (X : Stand p l e R s m args below meth c T locs cells slots) (h1 : cells ≤ R.cells) (h2 : slots ≤ R.slots) : Stand p l e { frames := R.frames, cells := R.cells - cells, slots := R.slots - slots, locals := R.locals } (T.setFrames s.frames) m args below meth c T [] 0 0 := by
  have hcur : T.cur < T.threads.size := State.cur_lt_of_frames (X.frames_eq.choose_spec)
  have hf : (T.setFrames s.frames).frames = s.frames := State.frames_setFrames _ hcur
  have hmT : T.vm.method? m = some meth := X.method'
  have al := X.warmed.alike
  obtain ⟨th, hth, -⟩ := State.frames_cons (hf.trans X.frames)
  have hroom : (T.setFrames s.frames).hasRoom e.platform { frames := R.frames, cells := R.cells - cells, slots := R.slots - slots, locals := R.locals } = true := by
    have r0 := X.room
    have e1 := State.localsInUse_invoking X.frames X.method X.code
    have e2 := State.localsInUse_invoking (s := T.setFrames s.frames) (hf.trans X.frames) hmT X.code
    have e3 := X.heapSize
    have e4 := X.used
    have e5 : (T.setFrames s.frames).slotsTrue = true := X.book
    have e6 := State.stackLimits_setFrames (pl := e.platform) T s.frames
    have e7 := State.stackBytes_setFrames T s.frames
    have e8 := X.limits
    have e9 := X.bytes
    have ee : (T.setFrames s.frames).localsInUse = s.localsInUse := e2.trans e1.symm
    simp only [State.hasRoom, Bool.and_eq_true, decide_eq_true_eq] at r0 ⊢
    rw [ee, hf, e6, e7, e8, e9]
    refine ⟨⟨⟨⟨r0.1.1.1.1, r0.1.1.1.2⟩, ?_⟩, ?_⟩, e5⟩
    · show T.heap.size + (R.cells - cells) ≤ _
      have := r0.1.1.2
      omega
    · show T.slotsUsed + (R.slots - slots) ≤ _
      have := r0.1.2
      omega
  have hears : (T.setFrames s.frames).hears m below = true := by
    have h := X.hears
    have hc : ∀ q, (T.setFrames s.frames).code? q = s.code? q := fun q => by
      rw [State.code?_eq, State.code?_eq]
      show (T.vm.method? q).bind _ = _
      rw [al.method?]
    unfold State.hears at h ⊢
    cases below with
    | nil => rw [show (T.setFrames s.frames).vm.method? m = s.vm.method? m from al.method? m]; exact h
    | cons f r =>
      cases f <;> first | exact h | (simp only [hc] at h ⊢; exact h) | (rw [show (T.setFrames s.frames).vm.method? m = s.vm.method? m from al.method? m]; exact h)
  have hs : (T.setFrames s.frames).setFrames T.frames = T := by
    rw [State.setFrames_setFrames]
    obtain ⟨g₀, hr⟩ := X.frames_eq
    obtain ⟨t2, ht2, -⟩ := State.frames_cons hr
    exact State.setFrames_self ht2
  refine ⟨X.admits, X.cas, X.clock, hf.trans X.frames, hroom, hears, hmT, X.code, X.here, X.tail, State.WarmedH.refl (T.setFrames s.frames), ?_, ?_, ?_⟩
  · rw [State.stackLimits_setFrames]
  · rw [State.stackBytes_setFrames]
  · have h := (State.sameButNew.refl (T.setFrames s.frames) hth).setFrames T.frames (State.cur_lt_of_frames (hf.trans X.frames))
    rw [hs] at h
    exact h
theorem rs_own_at {args : Array Value} {s' : State} {t : Int} {j : Nat} (h : rs_owc t j = true) (hw : ∀ w ∈ rs_tbl, w.before args s' = true) (hamb : rs_amb D ca bs b L xs s') (hX : (Cond.instantiable (rs_xn t) 6).before args s' = true) : ∀ w ∈ Bundle.ownAtoms "RangeSheet" j (rs_xn t) rs_xnames, w.before args s' = true := by
  intro w hm
  have h1 := List.all_eq_true.mp h w hm
  rw [Bool.or_eq_true, Bool.and_eq_true] at h1
  rcases h1 with ⟨h1, h2⟩ | h1
  · obtain ⟨v, hv, hvw⟩ := List.any_eq_true.mp h1
    rw [decide_eq_true_eq] at hvw
    subst hvw
    exact hw v (List.mem_filter.mpr ⟨List.mem_append_right _ hv, h2⟩)
  · rw [Bool.or_eq_true] at h1
    rcases h1 with h1 | h1
    · unfold rs_isz at h1
      simp only [Bool.or_eq_true, decide_eq_true_eq] at h1
      rcases h1 with ((rfl | rfl) | rfl) | rfl
      · exact rs_Zs_ref hamb.2.2.2.1
      · exact rs_Zs_ref hamb.2.2.2.2.1
      · exact rs_Zs_lays hamb.2.2.2.1
      · exact rs_Zs_lays hamb.2.2.2.2.1
    · unfold rs_isd at h1
      rw [Bool.or_eq_true, decide_eq_true_eq, decide_eq_true_eq] at h1
      rcases h1 with h1 | rfl
      · obtain ⟨x, hx, rfl⟩ := List.mem_map.mp h1
        exact va_Nw.use rfl (hamb.2.2.2.2.2.2.2.2.2 x hx)
      · obtain ⟨cC, kC, hfc, -⟩ := Cond.instantiable_spec hX
        have := (rs_selfa hX hfc).1
        simp [Cond.before, Cond.holds, Cond.value, hfc, this]
set_option maxHeartbeats 2000000 in
theorem rs_throw {t : Int} {i : Nat} (hth : rs_th mu pc = some t) (hd : decode (rs_cd mu) pc = .ok (.new i, 3)) (hc : rs_cx D ca bs b L xs mu p e s m args meth c) (hfr : d ≤ R.frames) (hlo : 64 * d ≤ R.locals) (hce : cells + u ≤ R.cells) (hsl : slots + rs_sl * u ≤ R.slots) (hrel : rs_rel D ca bs b L xs I H) (hS : va_S (fun q => b ≤ q) s.heap H locs) (hlk : rs_lok mu bs b ls lsM) (h6 : 6 ≤ d) (hu : 0 < u) (hK : K (some (.inr (.inl t))) I) :
    W p l e R s m args below meth c H locs cells slots (rs_MQ D ca bs b L xs K below s R.cells R.slots) (F0 m pc lsM []) := by
  obtain ⟨hx, hb, hr, hml, hown, hts, hlocks, hamb, hex, htr⟩ := id hc
  unfold rs_th at hth
  obtain ⟨q, hq, he⟩ := Option.map_eq_some_iff.mp hth
  obtain ⟨t', i', k, j⟩ := q
  cases he
  have h1 := rs_thc_all _ (rs_lk_mem hq)
  unfold rs_thc at h1
  simp only [Bool.and_eq_true, decide_eq_true_eq] at h1
  obtain ⟨d0, d3, d4, d6, d9, ht, how, hmu, x, hxm, hxk⟩ := h1
  rw [how] at hown
  have hsl6 : slots + 6 ≤ R.slots := by
    have : 6 * 1 ≤ 6 * u := Nat.mul_le_mul_left _ hu
    unfold rs_sl at hsl
    omega
  have hbH : b ≤ H.size := by
    have := hamb.2.2.2.2.2.2.2.2.1
    have := hS.1
    omega
  intro T hT X
  have al := X.warmed.alike
  have X' := rs_rebase X (by omega) (by omega)
  have hw' : ∀ w ∈ rs_tbl, w.before args (T.setFrames s.frames) = true := fun w hw => word_at (U := T.setFrames s.frames) X.warmed (good_of_word (rs_tbl_good hw)) (hts w hw)
  have hamb' : rs_amb D ca bs b L xs (T.setFrames s.frames) := rs_amb_at hamb X.warmed (by show s.heap.size ≤ T.heap.size; rw [hT]; exact hS.1) (fun q g1 g2 => by show T.heap[q]? = _; rw [hT]; exact hS.2.1 q g1 g2)
  have hown' : (T.setFrames s.frames).vm.findClass "RangeSheet" = some m.cls := by show T.vm.findClass _ = _; rw [al.findClass]; exact hown
  obtain ⟨x1, x2, x3, x4, x5, x6⟩ := rs_xlinks
  have hlk2 : Cond.classLink "RangeSheet" i' (rs_xn t') ∈ rs_tbl ∧ Cond.instantiable (rs_xn t') 6 ∈ rs_tbl ∧ Cond.initialized (rs_xn t') ∈ rs_tbl ∧ rs_owc t' j = true ∧ Bundle.fit (rs_xn t') = true := by
    rcases rs_thl _ (rs_lk_mem hq) with ⟨g1, g2, g3⟩ | ⟨g1, g2, g3⟩
    · dsimp only at g1 g2 g3
      subst g1; subst g2; subst g3
      exact ⟨rs_has_in x1, rs_has_in x3, rs_has_in x5, rs_owc_all.1, rs_xfit.1⟩
    · dsimp only at g1 g2 g3
      subst g1; subst g2; subst g3
      exact ⟨rs_has_in x2, rs_has_in x4, rs_has_in x6, rs_owc_all.2, rs_xfit.2.1⟩
  obtain ⟨w1, w2, w3, w4, w5⟩ := hlk2
  obtain ⟨aStr, hstr⟩ := hamb'.2.2.1 x hxm
  rw [hxk] at hstr
  have hnoh : c.exceptionTable.toList = [] := by
    have e1 : rs_hs mu = [] := by
      unfold rs_hs
      split <;> first | rfl | omega
    rw [e1] at hex
    exact List.map_eq_nil_iff.mp hex
  have run : W p l e { frames := R.frames, cells := R.cells - cells, slots := R.slots - slots, locals := R.locals } (T.setFrames s.frames) m args below meth c H [] 0 0 (fun U => U.status = .running ∧ Ended U below (.threw H.size) ∧ (T.setFrames s.frames).WarmedH U.vm ∧ (T.setFrames s.frames).sameButNew ({ U with vm := (T.setFrames s.frames).vm } : State) [] 1 6 ∧ ∃ ce, U.heap[H.size]? = some ce ∧ ce.vm = .none ∧ (T.setFrames s.frames).vm.findClass (rs_xn t') = some ce.cls) (F0 m pc lsM []) := by
    refine W.newc (C := rs_xn t') (n := 6) hx hb hown' (hw' _ w1) (hw' _ w2) (hw' _ w3) rfl d0 (by show 0 + 1 ≤ R.cells - cells; omega) (by show 0 + 6 ≤ R.slots - slots; omega) (fun cC kC f1 f2 f3 f4 => ?_)
    refine lv_dup hx hb d3 rfl ?_
    refine va_ldcS hx hb hown' hstr d4 ?_
    intro T2 hT2 X2
    obtain ⟨U, st, u1, u2, u3, u4, ce, u5, u6⟩ := X2.ctorThrowS hx htr hown' w5 rs_xfit.2.2 (rs_own_at w4 hw' hamb' (hw' _ w2)) (fun x hx => absurd hx List.not_mem_nil) f1 f2 (a := H.size) (by rw [hT2]; simp [freshCell]) (by show T.heap.size ≤ H.size; rw [hT]; exact Nat.le_refl _) (msg := .ref aStr) rfl (g := F0 m (pc + 6) lsM [.ref aStr, .ref H.size, .ref H.size]) rfl (hlk.1.trans hml.symm) rfl rfl (rest := []) rfl (by rw [hb]; exact d6) (by rw [hb]; exact d9) (fun x hx => by rw [hnoh] at hx; cases hx) (by show 2 + 3 < R.frames; omega) (by show 2 * 0 + (1 + 0) + (13 * (2 + 1) + 42) ≤ R.locals; omega) hlocks
    exact ⟨U, st, u1, u2, u3, u4, ce, u5, u6.vm, u6.cls⟩
  obtain ⟨U, st, u1, u2, u3, u4, ce, u5, u6, u7⟩ := run T hT X'
  have heq : ∀ q : Nat, q < H.size → U.heap[q]? = H[q]? := by
    intro q hq
    have e1 : (T.setFrames s.frames).heap[q]? = some (H[q]'hq) := by
      show T.heap[q]? = _
      rw [hT]
      exact Array.getElem?_eq_getElem hq
    obtain ⟨c', g1, g2, g3, g4⟩ := u4.2.2.2.2.2 q _ e1
    have e2 : c' = H[q]'hq := by
      rw [g2]
      have e3 : c'.slots = (H[q]'hq).slots := by
        apply Array.ext_getElem?
        intro i
        exact g4 i List.not_mem_nil
      rw [e3]
    rw [show U.heap[q]? = some c' from g1, e2, Array.getElem?_eq_getElem hq]
  have hsz : H.size ≤ U.heap.size := by
    have := u4.2.1
    rw [show (T.setFrames s.frames).heap.size = H.size from by show T.heap.size = _; rw [hT]] at this
    exact this
  refine ⟨U, st, .threw H.size, u1, u2, ⟨some (.inr (.inl t')), I, hK, ⟨ht, H.size, ce, rfl, hbH, u5, u6, ?_⟩, ⟨hrel.1.kept (fun k q hk => heq q.1 (hrel.1 k q hk).lt), hrel.2⟩, ⟨Nat.le_trans hS.1 hsz, fun q g1 g2 => ?_⟩⟩, locs ++ [], ⟨State.WarmedH.trans X.warmed (show T.WarmedH U.vm from u3), ?_⟩, fun q hq => ?_⟩
  · rw [← al.findClass]
    exact u7
  · rw [heq q (Nat.lt_of_lt_of_le g1 hS.1)]
    exact hS.2.1 q g1 g2
  · have h9 : T.sameButNew ({ U with vm := T.vm } : State) [] 1 6 := by
      obtain ⟨q1, q2, q3, q4, q5, q6⟩ := u4
      refine ⟨?_, q2, q3, q4, q5, q6⟩
      rw [State.setFrames_setFrames] at q1
      exact q1
    exact (X.same.trans (h9.setVm s.vm)).mono (by omega) (by omega)
  · rw [List.append_nil] at hq
    exact hS.2.2 q hq
end RST
