/-! ===== the law's start: the words at its entry, the constructors, the world that they leave ===== -/
def st_ws : List Cond := kc_nest ++ (rs_nest :: ([.arrayOver (.object rs_an3), .arrayOver (.object rs_an4), .arrayOver (.object rs_an5), .arrayOver (.object rs_an6)] ++ (rs_strL.map (fun x => Cond.stringRef "RangeSheet" x.1 x.2) ++ (rs_decL.map Cond.declares ++ [.laysStatic "java/lang/Throwable" "UNASSIGNED_STACK" "[Ljava/lang/StackTraceElement;", .laysStatic "java/lang/Throwable" "SUPPRESSED_SENTINEL" "Ljava/util/List;"]))))
set_option maxRecDepth 100000 in
theorem st_in : (st_ws.all (fun w => tables_1.any (fun v => decide (v = w)))) = true := by decide +kernel
theorem st_mem {w : Cond} (h : w ∈ st_ws) : w ∈ lw_tbl := by
  have h1 := List.all_eq_true.mp st_in w h
  obtain ⟨v, hv, hvw⟩ := List.any_eq_true.mp h1
  rw [decide_eq_true_eq] at hvw
  subst hvw
  exact List.mem_append_right _ hv
theorem st_m1 {w : Cond} (h : w ∈ kc_nest) : w ∈ lw_tbl := st_mem (List.mem_append_left _ h)
theorem st_m2 : rs_nest ∈ lw_tbl := st_mem (List.mem_append_right _ List.mem_cons_self)
theorem st_m3 {C : String} (h : C ∈ [rs_an3, rs_an4, rs_an5, rs_an6]) : Cond.arrayOver (.object C) ∈ lw_tbl := st_mem (List.mem_append_right _ (List.mem_cons_of_mem _ (List.mem_append_left _ (by
  simp only [List.mem_cons, List.not_mem_nil, or_false] at h
  rcases h with rfl | rfl | rfl | rfl <;> simp))))
theorem st_m4 {x : Nat × String} (h : x ∈ rs_strL) : Cond.stringRef "RangeSheet" x.1 x.2 ∈ lw_tbl := st_mem (List.mem_append_right _ (List.mem_cons_of_mem _ (List.mem_append_right _ (List.mem_append_left _ (List.mem_map.mpr ⟨x, h, rfl⟩)))))
theorem st_m5 {x : MethodName} (h : x ∈ rs_decL) : Cond.declares x ∈ lw_tbl := st_mem (List.mem_append_right _ (List.mem_cons_of_mem _ (List.mem_append_right _ (List.mem_append_right _ (List.mem_append_left _ (List.mem_map.mpr ⟨x, h, rfl⟩))))))
theorem st_m6 : Cond.laysStatic "java/lang/Throwable" "UNASSIGNED_STACK" "[Ljava/lang/StackTraceElement;" ∈ lw_tbl ∧ Cond.laysStatic "java/lang/Throwable" "SUPPRESSED_SENTINEL" "Ljava/util/List;" ∈ lw_tbl := ⟨st_mem (List.mem_append_right _ (List.mem_cons_of_mem _ (List.mem_append_right _ (List.mem_append_right _ (List.mem_append_right _ List.mem_cons_self))))), st_mem (List.mem_append_right _ (List.mem_cons_of_mem _ (List.mem_append_right _ (List.mem_append_right _ (List.mem_append_right _ (List.mem_cons_of_mem _ List.mem_cons_self))))))⟩
set_option maxRecDepth 100000 in
theorem st_nar : ([Cond.isRef (.static "java/lang/Throwable" "UNASSIGNED_STACK" "[Ljava/lang/StackTraceElement;"), .isRef (.static "java/lang/Throwable" "SUPPRESSED_SENTINEL" "Ljava/util/List;"), .not (.castable "java/lang/IllegalStateException" "java/lang/IllegalArgumentException")] ++ rs_strL.map (fun x => Cond.exactly (.string "RangeSheet" x.1) "java/lang/String")).all (fun w => (flatC (Jvm.Cond.and given_1 narrow_1)).any (fun v => decide (v = w))) = true := by decide +kernel
theorem st_nm {w : Cond} (h : w ∈ [Cond.isRef (.static "java/lang/Throwable" "UNASSIGNED_STACK" "[Ljava/lang/StackTraceElement;"), .isRef (.static "java/lang/Throwable" "SUPPRESSED_SENTINEL" "Ljava/util/List;"), .not (.castable "java/lang/IllegalStateException" "java/lang/IllegalArgumentException")] ++ rs_strL.map (fun x => Cond.exactly (.string "RangeSheet" x.1) "java/lang/String")) {args : Array Value} {s : State} (hgv : (Jvm.Cond.and given_1 narrow_1).before args s = true) : w.before args s = true := by
  have h1 := List.all_eq_true.mp st_nar w h
  obtain ⟨v, hv, hvw⟩ := List.any_eq_true.mp h1
  rw [decide_eq_true_eq] at hvw
  subst hvw
  exact flat_of_before _ hgv _ hv
theorem st_arO {args : Array Value} {s : State} {C : String} (h : (Cond.arrayOver (.object C)).before args s = true) : ∃ cA, ArrOfT s cA (.object C) ∧ va_RA s cA (.object C) := by
  obtain ⟨comp, c, k, h1, -, h2, h3, h4⟩ := Cond.arrayOver_spec h
  exact ⟨c, fun n z => ⟨fun k h => (by cases h), k, h2, comp, h3⟩, ⟨k, comp, h2, h3, h1, h4⟩⟩
theorem st_arP {args : Array Value} {s : State} {ty : FieldType} (h : (Cond.arrayClass ty).before args s = true) : ∃ cA, ArrOfT s cA ty ∧ s.vm.findClass ("[" ++ ty.toString) = some cA := by
  obtain ⟨c, k, comp, h1, h2, h3⟩ := Cond.arrayClass_spec h
  exact ⟨c, fun n z => ⟨fun k h => (by cases h), k, h2, comp, h3⟩, h1⟩
theorem st_K {args : Array Value} {s : State} (hts : ∀ w ∈ lw_tbl, w.before args s = true) : ∃ (D : va_G) (ca : Nat → ClassId), va_K D rs_cls (rs_tys ca) s := by
  have hr : ∀ w ∈ rs_tbl, w.before args s = true := fun w hw => hts w (List.mem_filter.mp hw).1
  have h1 : ∀ ci, ∃ q : ClassId × (Nat → Nat), ci < 9 → u_Kn s (rs_cl ci).1 (rs_cl ci).2.1 (rs_cl ci).2.2 q.1 q.2 := by
    intro ci
    by_cases h : ci < 9
    · obtain ⟨cC, iS, hk⟩ := u_known (N := (rs_cl ci).2.2) (n := (rs_cl ci).2.2) hr (rs_cw_in h) (by
        have := hr _ (kc_ok h).2.2.1
        rw [← (kc_ok h).2.2.2.2.2.1] at this
        exact this)
      exact ⟨(cC, iS), fun _ => hk⟩
    · exact ⟨(0, fun _ => 0), fun q => absurd q h⟩
  obtain ⟨w1, w2, w3, w4, w5⟩ := kc_objw
  obtain ⟨a0, p0⟩ := st_arP (hr _ (rs_has_in w3))
  obtain ⟨a1, p1⟩ := st_arP (hr _ (rs_has_in w4))
  obtain ⟨a2, p2⟩ := st_arP (hr _ (rs_has_in w5))
  obtain ⟨a3, p3⟩ := st_arO (hts _ (st_m3 (C := rs_an3) (by simp)))
  obtain ⟨a4, p4⟩ := st_arO (hts _ (st_m3 (C := rs_an4) (by simp)))
  obtain ⟨a5, p5⟩ := st_arO (hts _ (st_m3 (C := rs_an5) (by simp)))
  obtain ⟨a6, p6⟩ := st_arO (hts _ (st_m3 (C := rs_an6) (by simp)))
  refine ⟨(fun ci => (Classical.choose (h1 ci)).1, fun ci => (Classical.choose (h1 ci)).2), fun k => [a0, a1, a2, a3, a4, a5, a6].getD k 0, fun c q hq => ?_, fun k q hk => ?_⟩
  · have hc : c < 9 := (List.getElem?_eq_some_iff.mp hq).1
    rw [rs_cls_at hc] at hq
    cases hq
    exact Classical.choose_spec (h1 c) hc
  · rcases k with _ | _ | _ | _ | _ | _ | _ | k
    · cases hk; exact p0
    · cases hk; exact p1
    · cases hk; exact p2
    · cases hk; exact p3
    · cases hk; exact p4
    · cases hk; exact p5
    · cases hk; exact p6
    · exact absurd hk (by simp [rs_tys])
theorem st_Zs {args : Array Value} {s : State} {C n d : String} (h1 : (Cond.laysStatic C n d).before args s = true) (h2 : (Cond.isRef (.static C n d)).before args s = true) : rs_Zs s.heap.size C n d s := by
  obtain ⟨c, k, i, f, a, cell, g1, g2, g3, g4, g5, g6, g7, g8, g9⟩ := Cond.laysStatic_spec h1
  obtain ⟨v, hv, hr⟩ := Cond.isRef_spec h2
  have he : (Term.static C n d).eval args s none [] s = cell.slots[f.slot]? := by
    simp [Term.eval, State.fieldNamed?, g2, g3, g4, g5, g6]
  rw [he] at hv
  refine ⟨c, i, a, k, f, cell, v, g1, g2, g3, g4, g5, g6, g7, g8, g9, (Array.getElem?_eq_some_iff.mp g5).1, hv, ?_⟩
  cases v with
  | null => exact Or.inl rfl
  | ref r => exact Or.inr ⟨r, rfl⟩
  | _ => cases hr
theorem st_ontab : ∀ w ∈ kc_nest, w.onTables = true := by decide +kernel
theorem st_kamb {args : Array Value} {s : State} {D : va_G} {ca : Nat → ClassId} (hts : ∀ w ∈ lw_tbl, w.before args s = true) (hK : va_K D rs_cls (rs_tys ca) s) : kamb D ca s :=
  ⟨hK, fun w hw => va_Nw.of (st_ontab w hw) (hts w (st_m1 hw)), fun C hC => va_AO.of (hts _ (st_m3 hC))⟩
/-- the memory at the law's loop: the script, else zeros -/
def rs_ini (L : Nat) (xs : Nat → Int32) : rs_M := fun o k => if o = 0 then (if k = 0 then (L : Int) else if k ≤ L then (xs (k - 1)).toInt else 0) else 0
theorem st_amb {args : Array Value} {s U : State} {D : va_G} {ca : Nat → ClassId} {bs L : Nat} {xs : Nat → Int32} (hts : ∀ w ∈ lw_tbl, w.before args s = true) (hgv : (Jvm.Cond.and given_1 narrow_1).before args s = true) (hK : va_K D rs_cls (rs_tys ca) s) (hX : va_X bs L xs s s.heap) (hbs : bs < s.heap.size) (hW : s.WarmedH U.vm) (hz : s.heap.size + rs_N ≤ U.heap.size) (hq : ∀ q : Nat, q < s.heap.size → U.heap[q]? = s.heap[q]?) : rs_amb D ca bs s.heap.size L xs U := by
  refine ⟨va_K.moved hW.alike hK, rs_nw_warm hW (va_Nw.of rfl (hts _ st_m2)), fun x hx => ?_, ?_, ?_, ?_, va_X.moved hW.alike (hX.kept (hq bs hbs)), hbs, hz, fun x hx => va_Nw.warmD hW (va_Nw.of rfl (hts _ (st_m5 hx)))⟩
  · have h1 := st_nm (w := Cond.exactly (.string "RangeSheet" x.1) "java/lang/String") (List.mem_append_right _ (List.mem_map.mpr ⟨x, hx, rfl⟩)) hgv
    obtain ⟨a, _, _, _, h2, -⟩ := Cond.exactly_spec h1
    exact ⟨a, vk_R.warm hW (vk_R.of (hts _ (st_m4 hx)) h2)⟩
  · exact rs_Zs_at (st_Zs (hts _ st_m6.1) (st_nm (by simp) hgv)) hW.alike (fun q g1 _ => hq q g1)
  · exact rs_Zs_at (st_Zs (hts _ st_m6.2) (st_nm (by simp) hgv)) hW.alike (fun q g1 _ => hq q g1)
  · exact va_Nc.moved hW.alike (va_Nc.of (st_nm (by simp) hgv))
/-! ===== the constructors' world is the memory of zeros ===== -/
def st_chk (i : Nat) : Bool := match kc_fin[i]? with
  | some (t, n, fs) => decide (rs_sh (i + 1) = (t, n)) && (decide (1 ≤ t ∧ t ≤ 8) && (if t = 1 then decide (n < 9) && (List.range (rs_cl n).2.2).all (fun k => decide (rs_ft n k = 2 → (fs.getD k none = some (rs_rf (i + 1) k - 1) ∧ rs_rf (i + 1) k ≠ 0))) else if 5 ≤ t then (List.range n).all (fun k => decide (fs.getD k none = some (rs_rf (i + 1) k - 1) ∧ rs_rf (i + 1) k ≠ 0)) else true))
  | none => false
set_option maxRecDepth 100000 in
theorem st_chk_all : ∀ i, i < rs_N → st_chk i = true := by decide +kernel
theorem st_at {D : va_G} {ca : Nat → ClassId} {bs b i : Nat} {H : Heap} (hi : i < rs_N) (h : kr D ca b kc_fin H) : va_at D rs_cls (b + i, rs_en ca bs b (i + 1) (fun _ => 0)) H := by
  have hc := st_chk_all i hi
  unfold st_chk at hc
  split at hc
  · rename_i t n fs hx
    have hP := h.1 i _ (kw_at (ca := ca) (b := b) hx)
    simp only [Bool.and_eq_true, decide_eq_true_eq] at hc
    obtain ⟨h1, h2, h3⟩ := hc
    by_cases e1 : t = 1
    · subst e1
      rw [if_pos rfl, Bool.and_eq_true, decide_eq_true_eq, List.all_eq_true] at h3
      obtain ⟨h4, h5⟩ := h3
      have e2 : rs_en ca bs b (i + 1) (fun _ => 0) = .inr (n, rs_fs bs b n (i + 1) (fun _ => 0)) := by
        unfold rs_en
        rw [h1]
        rfl
      have e3 : rs_fs bs b n (i + 1) (fun _ => 0) = kf b n fs := by
        unfold rs_fs kf
        apply List.map_congr_left
        intro k hk
        by_cases h6 : rs_ft n k = 2
        · rw [if_pos h6, if_pos h6]
          have h7 := h5 k hk
          rw [decide_eq_true_eq] at h7
          obtain ⟨h8, h9⟩ := h7 h6
          rw [h8]
          unfold rs_ad
          rw [if_neg h9]
          rfl
        · rw [if_neg h6, if_neg h6]
          rfl
      rw [e2, e3]
      exact hP
    · rw [if_neg e1] at h3
      by_cases e5 : 5 ≤ t
      · rw [if_pos e5, List.all_eq_true] at h3
        rw [ke_r e5] at hP
        have hP2 : H[b + i]? = some (vp_cell (ca (t - 2)) (n, .inr (.inr (.inr (.inr (fun j => (fs.getD j none).map (fun r => b + r))))))) := hP
        have e2 : rs_en ca bs b (i + 1) (fun _ => 0) = .inl (ca (t - 2), n, .inr (.inr (.inr (.inr (fun j => some (rs_ad bs b (rs_rf (i + 1) j))))))) := by
          unfold rs_en
          rw [h1]
          obtain ⟨k, rfl⟩ : ∃ k, t = k + 5 := ⟨t - 5, by omega⟩
          rfl
        rw [e2]
        show H[b + i]? = some (vp_cell _ _)
        rw [hP2, vp_cell_q, vp_cell_q]
        congr 1
        unfold arrV
        congr 1
        apply Array.ext
        · simp
        · intro j g1 g2
          simp only [Array.size_ofFn] at g1
          have h7 := h3 j (List.mem_range.mpr g1)
          rw [decide_eq_true_eq] at h7
          simp only [Array.getElem_ofFn]
          rw [h7.1]
          unfold rs_ad
          rw [if_neg h7.2]
          rfl
      · rcases (show t = 2 ∨ t = 3 ∨ t = 4 by omega) with e | e | e
        · subst e
          have e2 : rs_en ca bs b (i + 1) (fun _ => 0) = .inl (ca 0, n, .inl (fun _ => Int32.ofInt 0)) := by
            unfold rs_en
            rw [h1]
            rfl
          rw [e2]
          exact hP
        · subst e
          have e2 : rs_en ca bs b (i + 1) (fun _ => 0) = .inl (ca 1, n, .inl (fun _ => Int32.ofInt 0)) := by
            unfold rs_en
            rw [h1]
            rfl
          rw [e2]
          exact hP
        · subst e
          have e2 : rs_en ca bs b (i + 1) (fun _ => 0) = .inl (ca 2, n, .inr (.inl (fun _ => Int64.ofInt 0))) := by
            unfold rs_en
            rw [h1]
            rfl
          rw [e2]
          exact hP
  · cases hc
theorem st_rel {D : va_G} {ca : Nat → ClassId} {bs b L : Nat} {xs : Nat → Int32} {H : Heap} (hL : L ≤ 2560) (h : kr D ca b kc_fin H) : rs_rel D ca bs b L xs (rs_ini L xs) H := by
  refine ⟨fun k q hk => ?_, fun o k => ?_, rfl, fun j hj => ?_⟩
  · unfold rs_ws at hk
    rw [List.getElem?_map] at hk
    by_cases h1 : k < rs_N
    · rw [List.getElem?_range h1] at hk
      cases hk
      exact st_at h1 h
    · rw [List.getElem?_eq_none (by simpa using h1)] at hk
      cases hk
  · unfold rs_ini
    by_cases h0 : o = 0
    · rw [if_pos h0]
      by_cases h1 : k = 0
      · rw [if_pos h1]
        unfold rs_R
        omega
      · rw [if_neg h1]
        by_cases h2 : k ≤ L
        · rw [if_pos h2]
          exact rs_Rt _
        · rw [if_neg h2]
          exact rs_R0
    · rw [if_neg h0]
      exact rs_R0
  · unfold rs_ini
    rw [if_pos rfl, if_neg (by omega), if_pos (by omega)]
    rfl
