theorem rs_cst_ok {mu i : Nat} {z : Int} (h : rs_cst mu i = some z) : Cond.constant (rs_ow mu) i (Int32.ofInt z) ∈ rs_tbl ∧ rs_R z := rs_cst_ok0 h
theorem rs_tys_5 {ca : Nat → ClassId} {o : Nat} (h : 5 ≤ (rs_sh o).1) : ∃ C, (rs_tys ca)[(rs_sh o).1 - 2]? = some (ca ((rs_sh o).1 - 2), .object C) := by
  have h1 : (rs_sh o).1 ≤ 8 := by
    have h2 : ∀ o, o < 111 → (rs_sh o).1 ≤ 8 := by decide +kernel
    exact h2 o (by have := (rs_gok (o := o) (by omega)).2; unfold rs_N at this; omega)
  obtain ⟨k, hk⟩ : ∃ k, (rs_sh o).1 = k := ⟨_, rfl⟩
  rw [hk] at h h1 ⊢
  rcases (show k = 5 ∨ k = 6 ∨ k = 7 ∨ k = 8 by omega) with e | e | e | e <;> subst e
  · exact ⟨_, rfl⟩
  · exact ⟨_, rfl⟩
  · exact ⟨_, rfl⟩
  · exact ⟨_, rfl⟩
theorem rs_en_1 {ca : Nat → ClassId} {bs b o ci : Nat} {f : Nat → Int} (h : rs_sh o = (1, ci)) : rs_en ca bs b o f = .inr (ci, rs_fs bs b ci o f) := by unfold rs_en; rw [h]; rfl
theorem rs_en_2 {ca : Nat → ClassId} {bs b o : Nat} {f : Nat → Int} (h : (rs_sh o).1 = 2) : rs_en ca bs b o f = .inl (ca 0, (rs_sh o).2, .inl (fun j => Int32.ofInt (f j))) := by
  have e : rs_sh o = (_, (rs_sh o).2) := Prod.ext h rfl
  unfold rs_en
  rw [e]
  rfl
theorem rs_en_3 {ca : Nat → ClassId} {bs b o : Nat} {f : Nat → Int} (h : (rs_sh o).1 = 3) : rs_en ca bs b o f = .inl (ca 1, (rs_sh o).2, .inl (fun j => Int32.ofInt (f j))) := by
  have e : rs_sh o = (_, (rs_sh o).2) := Prod.ext h rfl
  unfold rs_en
  rw [e]
  rfl
theorem rs_en_4 {ca : Nat → ClassId} {bs b o : Nat} {f : Nat → Int} (h : (rs_sh o).1 = 4) : rs_en ca bs b o f = .inl (ca 2, (rs_sh o).2, .inr (.inl (fun j => Int64.ofInt (f j)))) := by
  have e : rs_sh o = (_, (rs_sh o).2) := Prod.ext h rfl
  unfold rs_en
  rw [e]
  rfl
theorem rs_en_5 {ca : Nat → ClassId} {bs b o : Nat} {f : Nat → Int} (h : 5 ≤ (rs_sh o).1) : rs_en ca bs b o f = .inl (ca ((rs_sh o).1 - 2), (rs_sh o).2, .inr (.inr (.inr (.inr (fun j => some (rs_ad bs b (rs_rf o j))))))) := by
  obtain ⟨k, hk⟩ : ∃ k, (rs_sh o).1 = k + 5 := ⟨(rs_sh o).1 - 5, by omega⟩
  have e : rs_sh o = (k + 5, (rs_sh o).2) := Prod.ext hk rfl
  unfold rs_en
  rw [e]
  rfl
theorem rs_rel_at {D : va_G} {ca : Nat → ClassId} {bs b L : Nat} {xs : Nat → Int32} {I : rs_M} {o : Nat} (h : (rs_sh o).1 ≠ 0) : (rs_ws ca bs b I)[o - 1]? = some (rs_ad bs b o, rs_en ca bs b o (I o)) := rs_ws_at ca bs b I (rs_gok h).1 (rs_gok h).2
theorem rs_rel_up {D : va_G} {ca : Nat → ClassId} {bs b L : Nat} {xs : Nat → Int32} {I J : rs_M} {H H1 : Heap} {o : Nat} (h : rs_rel D ca bs b L xs I H) (ho : (rs_sh o).1 ≠ 0) (hJ : ∀ a, a ≠ o → J a = I a) (hR : ∀ k, rs_R (J o k)) (hP : va_P D rs_cls ((rs_ws ca bs b I).set (o - 1) (rs_ad bs b o, rs_en ca bs b o (J o))) H1) : rs_rel D ca bs b L xs J H1 := by
  have h0 : 0 < o := (rs_gok ho).1
  rw [rs_ws_set ca bs b I J h0 hJ] at hP
  refine ⟨hP, fun a k => ?_, ?_, fun j hj => ?_⟩
  · by_cases e : a = o
    · subst e; exact hR k
    · rw [hJ a e]; exact h.2.1 a k
  · rw [hJ 0 (by omega)]; exact h.2.2.1
  · rw [hJ 0 (by omega)]; exact h.2.2.2 j hj
theorem rs_up_ne (I : rs_M) (o k : Nat) (x : Int) : ∀ a, a ≠ o → rs_up I o k x a = I a := fun a h => by
  funext j
  simp [rs_up, h]
theorem rs_up_R {I : rs_M} {o k : Nat} {x : Int} (h : ∀ o k, rs_R (I o k)) (hx : rs_R x) : ∀ j, rs_R (rs_up I o k x o j) := fun j => by
  unfold rs_up
  split
  · exact hx
  · exact h o j
theorem rs_okc {v : rs_V} {st : List rs_V} (h : rs_ok v) (hs : ∀ w ∈ st, rs_ok w) : ∀ w ∈ v :: st, rs_ok w := fun w hw => by
  rcases List.mem_cons.mp hw with e | e
  · rw [e]; exact h
  · exact hs w e
theorem rs_okt {v : rs_V} {st : List rs_V} (h : ∀ w ∈ v :: st, rs_ok w) : rs_ok v ∧ ∀ w ∈ st, rs_ok w := ⟨h v List.mem_cons_self, fun w hw => h w (List.mem_cons_of_mem _ hw)⟩
theorem rs_cat1 {bs b : Nat} {v : rs_V} (h : rs_c1 v) : (rs_cv bs b v).category = 1 := by
  rcases v with z | z | o
  · rfl
  · exact absurd rfl (h z)
  · rfl
section RSB
variable {p : Program} {l : Launch} {e : Env} {R : Room} {s : State} {m : MethodId} {args : Array Value} {below : List Frame} {meth : Method} {c : Code} {H : Heap} {locs : List Loc} {cells slots : Nat} {Q : State → Prop}
variable {cc : ByteArray} {pc : Nat} {ls : Array Slot} {rest : List Value}
theorem rs_br1 (hx : p.tables.exec = Jvm.exec) (hb : c.code = cc) {q : _root_.Jvm.ClassFile.Cond} {z off : Int} {tgt : Nat} (hz : rs_R z) (hd : decode cc pc = .ok (.ifCond q off, 3)) (ht : (pc : Int) + off = (tgt : Int))
    (kt : rs_cnd q z 0 → W p l e R s m args below meth c H locs cells slots Q (F0 m tgt ls rest)) (kf : ¬ rs_cnd q z 0 → W p l e R s m args below meth c H locs cells slots Q (F0 m (pc + 3) ls rest)) : W p l e R s m args below meth c H locs cells slots Q (F0 m pc ls (.int (Int32.ofInt z) :: rest)) := by
  have e1 : Int32.ofInt z = 0 ↔ z = 0 := rs_eq hz rs_R0
  have e2 : Int32.ofInt z < 0 ↔ z < 0 := rs_lt hz rs_R0
  have e3 : (0 : Int32) ≤ Int32.ofInt z ↔ 0 ≤ z := rs_le rs_R0 hz
  have e4 : (0 : Int32) < Int32.ofInt z ↔ 0 < z := rs_lt rs_R0 hz
  have e5 : Int32.ofInt z ≤ 0 ↔ z ≤ 0 := rs_le hz rs_R0
  cases q with
  | eq => exact lv_if_eq hx hb hd ht (fun h => kt (e1.mp h)) (fun h => kf (fun h' => h (e1.mpr h')))
  | ne => exact lv_if_ne hx hb hd ht (fun h => kt (fun h' => h (e1.mpr h'))) (fun h => kf (fun h' => h' (e1.mp h)))
  | lt => exact lv_if_lt hx hb hd ht (fun h => kt (e2.mp h)) (fun h => kf (fun h' => h (e2.mpr h')))
  | ge => exact lv_if_ge hx hb hd ht (fun h => kt (e3.mp h)) (fun h => kf (fun h' => h (e3.mpr h')))
  | gt => exact lv_if_gt hx hb hd ht (fun h => kt (e4.mp h)) (fun h => kf (fun h' => h (e4.mpr h')))
  | le => exact lv_if_le hx hb hd ht (fun h => kt (e5.mp h)) (fun h => kf (fun h' => h (e5.mpr h')))
theorem rs_br2 (hx : p.tables.exec = Jvm.exec) (hb : c.code = cc) {q : _root_.Jvm.ClassFile.Cond} {z w off : Int} {tgt : Nat} (hz : rs_R z) (hw : rs_R w) (hd : decode cc pc = .ok (.if_icmp q off, 3)) (ht : (pc : Int) + off = (tgt : Int))
    (kt : rs_cnd q z w → W p l e R s m args below meth c H locs cells slots Q (F0 m tgt ls rest)) (kf : ¬ rs_cnd q z w → W p l e R s m args below meth c H locs cells slots Q (F0 m (pc + 3) ls rest)) : W p l e R s m args below meth c H locs cells slots Q (F0 m pc ls (.int (Int32.ofInt w) :: .int (Int32.ofInt z) :: rest)) := by
  have e1 := rs_eq hz hw
  have e2 := rs_lt hz hw
  have e3 := rs_le hw hz
  have e4 := rs_lt hw hz
  have e5 := rs_le hz hw
  cases q with
  | eq => exact lv_icmp_eq hx hb hd ht (fun h => kt (e1.mp h)) (fun h => kf (fun h' => h (e1.mpr h')))
  | ne => exact lv_icmp_ne hx hb hd ht (fun h => kt (fun h' => h (e1.mpr h'))) (fun h => kf (fun h' => h' (e1.mp h)))
  | lt => exact lv_icmp_lt hx hb hd ht (fun h => kt (e2.mp h)) (fun h => kf (fun h' => h (e2.mpr h')))
  | ge => exact lv_icmp_ge hx hb hd ht (fun h => kt (e3.mp h)) (fun h => kf (fun h' => h (e3.mpr h')))
  | gt => exact lv_icmp_gt hx hb hd ht (fun h => kt (e4.mp h)) (fun h => kf (fun h' => h (e4.mpr h')))
  | le => exact lv_icmp_le hx hb hd ht (fun h => kt (e5.mp h)) (fun h => kf (fun h' => h (e5.mpr h')))
end RSB
theorem rs_sw_at {f : Int → Prop} {x : Int} : ∀ {l : List Int} {k : Int} {i : Nat} {o : Int}, rs_sw f x k l → l[i]? = some o → x = k + i → f o
  | [], _, _, _, _, h, _ => by simp at h
  | a :: l, k, 0, o, hs, h, hx => by
    simp at h
    subst h
    exact hs.1 (by simpa using hx)
  | a :: l, k, i + 1, o, hs, h, hx => rs_sw_at (l := l) (k := k + 1) (i := i) hs.2 (by simpa using h) (by omega)
section RSD
variable {l : Launch} {D : va_G} {ca : Nat → ClassId} {bs b L : Nat} {xs : Nat → Int32} {mu : Nat} {p : Program} {e : Env} {R : Room} {s : State} {m : MethodId} {args : Array Value} {below : List Frame} {meth : Method} {c : Code} {H : Heap} {locs : List Loc} {cells slots : Nat} {I : rs_M} {u d pc i nu : Nat} {ls : rs_L} {as r : List rs_V} {K : rs_K} {lsM : Array Slot}
set_option maxHeartbeats 1000000 in
theorem rs_callV (ht : rs_tg mu i = some nu) (hd : decode (rs_cd mu) pc = .ok (.invokevirtual i, 3)) (hc : rs_cx D ca bs b L xs mu p e s m args meth c) (hfr : d ≤ R.frames) (hlo : 64 * d ≤ R.locals) (hce : cells + u ≤ R.cells) (hsl : slots + rs_sl * u ≤ R.slots) (hrel : rs_rel D ca bs b L xs I H) (hS : va_S (fun q => b ≤ q) s.heap H locs) (hok : ∀ v ∈ as ++ r, rs_ok v) (hlk : rs_lok mu bs b ls lsM)
    (hst : rs_stc nu = false) (a1 : as.length = rs_na nu) (a2 : ∀ v ∈ as, rs_c1 v) (h1 : rs_rec as.reverse (fun o => rs_sh o = (1, rs_ci nu))) (h2 : r.length ≤ 4) (h3 : 0 < d) (h4 : rs_un nu ≤ u)
    (h : rs_snd l D ca bs b L xs (rs_un nu) (d - 1) nu 0 (rs_en0 as.reverse (rs_mx nu)) [] I (rs_cn (rs_snd l D ca bs b L xs) (u - rs_un nu) d mu pc ls r K)) :
    W p l e R s m args below meth c H locs cells slots (rs_MQ D ca bs b L xs K below s R.cells R.slots) (F0 m pc lsM ((as ++ r).map (rs_cv bs b))) := by
  obtain ⟨o, as', e1, h1⟩ : ∃ o as', as.reverse = .inr (.inr o) :: as' ∧ rs_sh o = (1, rs_ci nu) := by
    unfold rs_rec at h1
    split at h1
    · exact ⟨_, _, by assumption, h1⟩
    · exact h1.elim
  have e2 : as = as'.reverse ++ [.inr (.inr o)] := by
    have := congrArg List.reverse e1
    simpa using this
  have hlt := rs_tg_lt ht
  obtain ⟨c1, c2, c3, c4, c5, c6, c7, c8⟩ := rs_cal (nu := nu) hlt.1 hlt.2
  obtain ⟨v1, v2, v3, hna⟩ := rs_calV (nu := nu) hlt.1 hlt.2 hst
  obtain ⟨hx, hb, hr, hml, hown, hts, hlocks, hamb, hex, htr⟩ := id hc
  obtain ⟨hK, hnw, -⟩ := id hamb
  have h0 : (rs_sh o).1 ≠ 0 := by rw [h1]; exact Nat.one_ne_zero
  have he := rs_ws_at ca bs b I (rs_gok h0).1 (rs_gok h0).2
  have hen : rs_en ca bs b o (I o) = .inr (rs_ci nu, rs_fs bs b (rs_ci nu) o (I o)) := by unfold rs_en; rw [h1]; rfl
  rw [hen] at he
  obtain ⟨cellB, hcB, hoB, hclB⟩ := va_recv hK hrel.1 v3.1 he
  rw [v3.2] at hclB
  have hlen : (as'.map (rs_cv bs b)).length = rs_na nu - 1 := by
    have := congrArg List.length e1
    simp only [List.length_reverse, List.length_cons] at this
    rw [List.length_map]
    omega
  have hstack : (as ++ r).map (rs_cv bs b) = (as'.map (rs_cv bs b)).reverse ++ .ref (rs_ad bs b o) :: r.map (rs_cv bs b) := by
    rw [e2]
    simp [rs_cv]
  have hargs : (as.reverse.map (rs_cv bs b)).toArray = (Value.ref (rs_ad bs b o) :: as'.map (rs_cv bs b)).toArray := by rw [e1]; rfl
  obtain ⟨mk, methM, hnamed, hmethM, hstM, habM⟩ := Cond.instanceMethod_spec (hts _ v1.1)
  obtain ⟨methM', cM, hmethM', -, -, -, -, -, -, hsigM⟩ := rs_code hnamed (hts _ c2)
  cases hmethM.symm.trans hmethM'
  obtain ⟨q2, r2, m2, q3, q4, q5, q6, kP, hkP, hkPi⟩ := Cond.selects_spec (hts _ v2)
  cases hclB.symm.trans q3
  cases (State.methodFound?_of_named hnamed ⟨c4, c5⟩).symm.trans q4
  cases hnamed.symm.trans q5
  intro T hT X
  have hselP : selectMethod e.platform s.vm cellB.cls mk = .method mk := by rw [Launch.admits_selectMethod X.admits]; exact q6
  have fin : ∀ vm₁, Stand p l e R s m args below meth c (T.setVm vm₁) locs cells slots → ∃ t, Steps p.tables e below (doInvoke e ((T.setVm vm₁).setTop (F0 m pc lsM (r.map (rs_cv bs b)))) [] mk (Value.ref (rs_ad bs b o) :: as'.map (rs_cv bs b)).toArray).1 t ∧ rs_MQ D ca bs b L xs K below s R.cells R.slots t := by
    intro vm₁ X₁
    have := rs_enter X₁ hT hnamed hlt hc hfr hlo hce hsl hrel hS (fun v hv => hok v (List.mem_append_left _ (List.mem_reverse.mp hv))) (fun v hv => hok v (List.mem_append_right _ hv)) hlk (fun v hv => a2 v (List.mem_reverse.mp hv)) (by rw [List.length_reverse]; exact a1) h2 h3 h4 (by rw [hb]; exact hd) h
    rw [hargs] at this
    exact this
  rcases rs_tg_link ht with hl | ⟨host, hl⟩
  · obtain ⟨vm₁, X₁, hstep₁⟩ := X.invokevirtual hx hown (hts _ hl) hnamed hmethM hstM hkP hkPi ⟨c4, c5⟩ (a := rs_ad bs b o) (cell := cellB) (by rw [hT]; exact hcB) (fun z h => by rw [h] at hoB; cases hoB) hselP hmethM habM hkP hkPi (g := F0 m pc lsM ((as ++ r).map (rs_cv bs b))) rfl (argsL := as'.map (rs_cv bs b)) (rest := r.map (rs_cv bs b)) (hlen.trans (v1.2 _ hsigM)) hstack (by rw [hb]; exact hd)
    obtain ⟨t, st, hq⟩ := fin vm₁ X₁
    exact ⟨t, hstep₁ _ fun acts => by rw [doInvoke_state]; exact st, hq⟩
  · obtain ⟨vm₁, X₁, hstep₁⟩ := X.invokevirtualNest hx hown (va_Nw.use rfl (hl s hnw)) hnamed hmethM hstM hkP hkPi ⟨c4, c5⟩ (a := rs_ad bs b o) (cell := cellB) (by rw [hT]; exact hcB) (fun z h => by rw [h] at hoB; cases hoB) hselP hmethM habM hkP hkPi (g := F0 m pc lsM ((as ++ r).map (rs_cv bs b))) rfl (argsL := as'.map (rs_cv bs b)) (rest := r.map (rs_cv bs b)) (hlen.trans (v1.2 _ hsigM)) hstack (by rw [hb]; exact hd)
    obtain ⟨t, st, hq⟩ := fin vm₁ X₁
    exact ⟨t, hstep₁ _ fun acts => by rw [doInvoke_state]; exact st, hq⟩
set_option maxHeartbeats 1000000 in
theorem rs_callS (ht : rs_tg mu i = some nu) (hd : decode (rs_cd mu) pc = .ok (.invokestatic i, 3)) (hc : rs_cx D ca bs b L xs mu p e s m args meth c) (hfr : d ≤ R.frames) (hlo : 64 * d ≤ R.locals) (hce : cells + u ≤ R.cells) (hsl : slots + rs_sl * u ≤ R.slots) (hrel : rs_rel D ca bs b L xs I H) (hS : va_S (fun q => b ≤ q) s.heap H locs) (hok : ∀ v ∈ as ++ r, rs_ok v) (hlk : rs_lok mu bs b ls lsM) (hst : rs_stc nu = true)
    (a1 : as.length = rs_na nu) (a2 : ∀ v ∈ as, rs_c1 v) (h2 : r.length ≤ 4) (h3 : 0 < d) (h4 : rs_un nu ≤ u)
    (h : rs_snd l D ca bs b L xs (rs_un nu) (d - 1) nu 0 (rs_en0 as.reverse (rs_mx nu)) [] I (rs_cn (rs_snd l D ca bs b L xs) (u - rs_un nu) d mu pc ls r K)) :
    W p l e R s m args below meth c H locs cells slots (rs_MQ D ca bs b L xs K below s R.cells R.slots) (F0 m pc lsM ((as ++ r).map (rs_cv bs b))) := by
  have hlt := rs_tg_lt ht
  obtain ⟨c1, c2, c3, c4, c5, c6, c7, c8⟩ := rs_cal (nu := nu) hlt.1 hlt.2
  obtain ⟨v1, v2⟩ := rs_calS (nu := nu) hlt.1 hlt.2 hst
  obtain ⟨hx, hb, hr, hml, hown, hts, hlocks, hamb, hex, htr⟩ := id hc
  obtain ⟨hK, hnw, -⟩ := id hamb
  have hlen : ((as.reverse).map (rs_cv bs b)).length = rs_na nu := by rw [List.length_map, List.length_reverse, a1]
  have hstack : (as ++ r).map (rs_cv bs b) = ((as.reverse).map (rs_cv bs b)).reverse ++ r.map (rs_cv bs b) := by simp
  obtain ⟨mk, hnamed⟩ : ∃ mk, s.methodNamed? (rs_nm nu) = some mk := by
    have h9 := hts _ c2
    unfold rs_cw at h9
    split at h9
    · obtain ⟨mm, -, -, g, -⟩ := Cond.codeWith_spec h9
      exact ⟨mm, g⟩
    · exact Cond.code_named h9
  obtain ⟨methM, cM, hmethM, -, -, -, -, -, -, hsigM⟩ := rs_code hnamed (hts _ c2)
  have hstatic : methM.isStatic = true := Cond.static_spec hnamed hmethM (hts _ v1)
  obtain ⟨kP, hkP, -⟩ := className_of_methodNamed hnamed
  have hinitP : kP.init = .initialized := Cond.initialized_spec (findClass_of_methodNamed hnamed) hkP (hts _ c3)
  intro T hT X
  have fin : ∀ vm₁, Stand p l e R s m args below meth c (T.setVm vm₁) locs cells slots → ∃ t, Steps p.tables e below (doInvoke e ((T.setVm vm₁).setTop (F0 m pc lsM (r.map (rs_cv bs b)))) [] mk ((as.reverse).map (rs_cv bs b)).toArray).1 t ∧ rs_MQ D ca bs b L xs K below s R.cells R.slots t := fun vm₁ X₁ =>
    rs_enter X₁ hT hnamed hlt hc hfr hlo hce hsl hrel hS (fun v hv => hok v (List.mem_append_left _ (List.mem_reverse.mp hv))) (fun v hv => hok v (List.mem_append_right _ hv)) hlk (fun v hv => a2 v (List.mem_reverse.mp hv)) (by rw [List.length_reverse]; exact a1) h2 h3 h4 (by rw [hb]; exact hd) h
  rcases rs_tg_link ht with hl | ⟨host, hl⟩
  · obtain ⟨vm₁, X₁, hstep₁⟩ := X.invokestatic hx hown (hts _ hl) hnamed hmethM hstatic hkP hinitP ⟨c4, c5⟩ (g := F0 m pc lsM ((as ++ r).map (rs_cv bs b))) rfl (argsL := (as.reverse).map (rs_cv bs b)) (rest := r.map (rs_cv bs b)) (hlen.trans (v2 _ hsigM)) hstack (by rw [hb]; exact hd)
    obtain ⟨t, st, hq⟩ := fin vm₁ X₁
    exact ⟨t, hstep₁ _ fun acts => by rw [doInvoke_state]; exact st, hq⟩
  · obtain ⟨vm₁, X₁, hstep₁⟩ := X.invokestaticNest hx hown (va_Nw.use rfl (hl s hnw)) hnamed hmethM hstatic hkP hinitP ⟨c4, c5⟩ (g := F0 m pc lsM ((as ++ r).map (rs_cv bs b))) rfl (argsL := (as.reverse).map (rs_cv bs b)) (rest := r.map (rs_cv bs b)) (hlen.trans (v2 _ hsigM)) hstack (by rw [hb]; exact hd)
    obtain ⟨t, st, hq⟩ := fin vm₁ X₁
    exact ⟨t, hstep₁ _ fun acts => by rw [doInvoke_state]; exact st, hq⟩
end RSD
set_option maxHeartbeats 4000000 in
set_option maxRecDepth 100000 in
theorem rs_closed (l : Launch) (D : va_G) (ca : Nat → ClassId) (bs b L : Nat) (xs : Nat → Int32) : ∀ u d mu pc ls st I K, rs_stp (rs_snd l D ca bs b L xs) u d mu pc ls st I K → rs_snd l D ca bs b L xs u d mu pc ls st I K := by
  intro u d mu pc ls st I K h
  unfold rs_stp at h
  cases hd : decode (rs_cd mu) pc with
  | error _ => rw [hd] at h; exact h.elim
  | ok q =>
  obtain ⟨ins, ln⟩ := q
  rw [hd] at h
  dsimp only at h
  intro p e R s m args below meth c H locs cells slots lsM hc hfr hlo hce hsl hrel hS hok hlk
  have hc0 := hc
  obtain ⟨hx, hb, hr, hml, hown, hts, hlocks, hamb, hex, htr⟩ := hc0
  obtain ⟨hK, hnw, -, -, -, -, hX, hbb, hbs, -⟩ := id hamb
  have go : ∀ {pc' : Nat} {st' : List rs_V}, rs_snd l D ca bs b L xs u d mu pc' ls st' I K → (∀ v ∈ st', rs_ok v) → W p l e R s m args below meth c H locs cells slots (rs_MQ D ca bs b L xs K below s R.cells R.slots) (F0 m pc' lsM (st'.map (rs_cv bs b))) := fun h ho => h p e R s m args below meth c H locs cells slots lsM hc hfr hlo hce hsl hrel hS ho hlk
  have goS : ∀ {pc' : Nat} {st' : List rs_V} {i : Nat} {v : rs_V} {ls' : Array Slot}, rs_snd l D ca bs b L xs u d mu pc' (rs_st ls i (some v)) st' I K → i < rs_mx mu → rs_ok v → rs_c1 v → (∀ v ∈ st', rs_ok v) → lv_has ls' (rs_mx mu) ((i, rs_cv bs b v) :: (rs_prs mu bs b ls).filter (fun q => !(q.1 == i) && !(q.1 + 1 == i && q.2.category == 2))) → W p l e R s m args below meth c H locs cells slots (rs_MQ D ca bs b L xs K below s R.cells R.slots) (F0 m pc' ls' (st'.map (rs_cv bs b))) := fun h hi hv h1 ho h' => h p e R s m args below meth c H locs cells slots _ hc hfr hlo hce hsl hrel hS ho (rs_lok_st hlk hi hv (rs_cat1 h1) h')
  have goM : ∀ {pc' : Nat} {st' : List rs_V} {J : rs_M} {H1 : Heap} {locs1 : List Loc}, rs_snd l D ca bs b L xs u d mu pc' ls st' J K → rs_rel D ca bs b L xs J H1 → va_S (fun q => b ≤ q) s.heap H1 locs1 → (∀ v ∈ st', rs_ok v) → W p l e R s m args below meth c H1 locs1 cells slots (rs_MQ D ca bs b L xs K below s R.cells R.slots) (F0 m pc' lsM (st'.map (rs_cv bs b))) := fun h h1 h2 ho => h p e R s m args below meth c _ _ cells slots lsM hc hfr hlo hce hsl h1 h2 ho hlk
  have hlv := rs_lok_has hlk
  have hP := hrel.1
  have hI := hrel.2.1
  have hDD := rs_ws_D ca bs b I
  have tg : ∀ {off : Int}, 0 ≤ (pc : Int) + off → (pc : Int) + off = ((((pc : Int) + off).toNat : Nat) : Int) := fun h => (Int.toNat_of_nonneg h).symm
  cases ins with
  | iconst z =>
    obtain ⟨rfl, hz, h⟩ := h
    exact lv_iconst hx hb hd rfl (go h (rs_okc (show rs_R z by unfold rs_R; omega) hok))
  | bipush z =>
    obtain ⟨rfl, hz, h⟩ := h
    refine lv_bipush (v := Int32.ofInt z) hx hb hd ?_ (go h (rs_okc (show rs_R z by unfold rs_R; omega) hok))
    rw [← Int32.toInt_inj, Int8.toInt_toInt32, rs_ti (show rs_R z by unfold rs_R; omega)]
    exact Int8.toInt_ofInt_of_le (by omega) (by omega)
  | sipush z =>
    obtain ⟨rfl, hz, h⟩ := h
    refine lv_sipush (v := Int32.ofInt z) hx hb hd ?_ (go h (rs_okc (show rs_R z by unfold rs_R; omega) hok))
    rw [← Int32.toInt_inj, Int16.toInt_toInt32, rs_ti (show rs_R z by unfold rs_R; omega)]
    exact Int16.toInt_ofInt_of_le (by omega) (by omega)
  | ldc i =>
    obtain ⟨rfl, h⟩ := h
    cases hcst : rs_cst mu i with
    | none => rw [hcst] at h; exact h.elim
    | some z =>
      rw [hcst] at h
      obtain ⟨h1, h2⟩ := rs_cst_ok hcst
      exact lv_ldc hx hb hown (hts _ h1) hd (go h (rs_okc h2 hok))
  | ldc_w i =>
    obtain ⟨rfl, h⟩ := h
    cases hcst : rs_cst mu i with
    | none => rw [hcst] at h; exact h.elim
    | some z =>
      rw [hcst] at h
      obtain ⟨h1, h2⟩ := rs_cst_ok hcst
      exact lv_ldcw hx hb hown (hts _ h1) hd (go h (rs_okc h2 hok))
  | iload_n i =>
    obtain ⟨rfl, h⟩ := h
    obtain ⟨z, h1, h⟩ := rs_gi_of h
    obtain ⟨g1, -, -, g4⟩ := hlk.2.2 _ _ h1
    exact lv_iload_n hx hb hd rfl g4 (go h (rs_okc g1 hok))
  | iload i =>
    obtain ⟨rfl, h⟩ := h
    obtain ⟨z, h1, h⟩ := rs_gi_of h
    obtain ⟨g1, -, -, g4⟩ := hlk.2.2 _ _ h1
    exact lv_iload hx hb hd g4 (go h (rs_okc g1 hok))
  | aload_n i =>
    obtain ⟨rfl, h⟩ := h
    obtain ⟨z, h1, h⟩ := rs_gr_of h
    obtain ⟨g1, -, -, g4⟩ := hlk.2.2 _ _ h1
    exact lv_aload_n hx hb hd rfl g4 (go h (rs_okc g1 hok))
  | aload i =>
    obtain ⟨rfl, h⟩ := h
    obtain ⟨z, h1, h⟩ := rs_gr_of h
    obtain ⟨g1, -, -, g4⟩ := hlk.2.2 _ _ h1
    exact lv_aload hx hb hd g4 (go h (rs_okc g1 hok))
  | istore_n i =>
    obtain ⟨rfl, hi, h⟩ := h
    obtain ⟨z, r, rfl, h⟩ := rs_p1_of h
    obtain ⟨o1, o2⟩ := rs_okt hok
    exact lv_istore_n hx hb hd rfl hlv hi rfl (fun ls' h' => goS h hi o1 (fun _ q => by cases q) o2 h')
  | istore i =>
    obtain ⟨rfl, hi, h⟩ := h
    obtain ⟨z, r, rfl, h⟩ := rs_p1_of h
    obtain ⟨o1, o2⟩ := rs_okt hok
    exact lv_istore hx hb hd hlv hi rfl (fun ls' h' => goS h hi o1 (fun _ q => by cases q) o2 h')
  | astore_n i =>
    obtain ⟨rfl, hi, h⟩ := h
    obtain ⟨z, r, rfl, h⟩ := rs_pr_of h
    obtain ⟨o1, o2⟩ := rs_okt hok
    exact lv_astore_n hx hb hd rfl hlv hi rfl (fun ls' h' => goS h hi o1 (fun _ q => by cases q) o2 h')
  | astore i =>
    obtain ⟨rfl, hi, h⟩ := h
    obtain ⟨z, r, rfl, h⟩ := rs_pr_of h
    obtain ⟨o1, o2⟩ := rs_okt hok
    exact lv_astore hx hb hd hlv hi rfl (fun ls' h' => goS h hi o1 (fun _ q => by cases q) o2 h')
  | iinc i n =>
    obtain ⟨rfl, hi, h⟩ := h
    obtain ⟨z, h1, h2, h⟩ := rs_gi_of h
    obtain ⟨g1, -, -, g4⟩ := hlk.2.2 _ _ h1
    have hm : (i, rs_cv bs b (.inl z)) ∈ rs_prs mu bs b ls := List.mem_filterMap.mpr ⟨i, List.mem_range.mpr hi, by rw [h1]⟩
    obtain ⟨k, hk⟩ := List.getElem?_of_mem hm
    exact lv_iinc (k := k) (x := Int32.ofInt z) hx hb hd hlv hk (Int32.ofInt_add z n).symm hi rfl (fun ls' h' => goS h hi h2 (fun _ q => by cases q) hok h')
  | iadd =>
    obtain ⟨rfl, h⟩ := h
    obtain ⟨x, y, r, rfl, h2, h⟩ := rs_p2_of h
    obtain ⟨o1, o2⟩ := rs_okt hok
    obtain ⟨o2, o3⟩ := rs_okt o2
    refine lv_iadd hx hb hd ?_
    rw [← Int32.ofInt_add]
    exact go h (rs_okc h2 o3)
  | isub =>
    obtain ⟨rfl, h⟩ := h
    obtain ⟨x, y, r, rfl, h2, h⟩ := rs_p2_of h
    obtain ⟨o1, o2⟩ := rs_okt hok
    obtain ⟨o2, o3⟩ := rs_okt o2
    refine lv_isub hx hb hd ?_
    rw [← Int32.ofInt_sub]
    exact go h (rs_okc h2 o3)
  | imul =>
    obtain ⟨rfl, h⟩ := h
    obtain ⟨x, y, r, rfl, h2, h⟩ := rs_p2_of h
    obtain ⟨o1, o2⟩ := rs_okt hok
    obtain ⟨o2, o3⟩ := rs_okt o2
    refine lv_imul hx hb hd ?_
    rw [← Int32.ofInt_mul]
    exact go h (rs_okc h2 o3)
  | idiv =>
    obtain ⟨rfl, h⟩ := h
    obtain ⟨x, y, r, rfl, h1, h2, h⟩ := rs_p2_of h
    obtain ⟨o1, o2⟩ := rs_okt hok
    obtain ⟨o2, o3⟩ := rs_okt o2
    refine lv_idiv hx hb hd (fun q => h1 ((rs_eq o1 rs_R0).mp q)) ?_
    rw [← rs_div x y o2 o1]
    exact go h (rs_okc h2 o3)
  | irem =>
    obtain ⟨rfl, h⟩ := h
    obtain ⟨x, y, r, rfl, h1, h2, h⟩ := rs_p2_of h
    obtain ⟨o1, o2⟩ := rs_okt hok
    obtain ⟨o2, o3⟩ := rs_okt o2
    refine lv_irem hx hb hd (fun q => h1 ((rs_eq o1 rs_R0).mp q)) ?_
    rw [← rs_div x y o2 o1, ← Int32.ofInt_mul, ← Int32.ofInt_sub]
    exact go h (rs_okc h2 o3)
  | ineg =>
    obtain ⟨rfl, h⟩ := h
    obtain ⟨x, r, rfl, h2, h⟩ := rs_p1_of h
    obtain ⟨o1, o2⟩ := rs_okt hok
    refine lv_ineg hx hb hd ?_
    rw [← Int32.ofInt_neg]
    exact go h (rs_okc h2 o2)
  | iand =>
    obtain ⟨rfl, h⟩ := h
    obtain ⟨x, y, r, rfl, h⟩ := rs_p2_of h
    refine lv_iand hx hb hd ?_
    rw [← rs_oi (Int32.ofInt x &&& Int32.ofInt y)]
    exact go h (rs_okc (rs_Rt _) (rs_okt (rs_okt hok).2).2)
  | ior =>
    obtain ⟨rfl, h⟩ := h
    obtain ⟨x, y, r, rfl, h⟩ := rs_p2_of h
    refine lv_ior hx hb hd ?_
    rw [← rs_oi (Int32.ofInt x ||| Int32.ofInt y)]
    exact go h (rs_okc (rs_Rt _) (rs_okt (rs_okt hok).2).2)
  | ixor =>
    obtain ⟨rfl, h⟩ := h
    obtain ⟨x, y, r, rfl, h⟩ := rs_p2_of h
    refine lv_ixor hx hb hd ?_
    rw [← rs_oi (Int32.ofInt x ^^^ Int32.ofInt y)]
    exact go h (rs_okc (rs_Rt _) (rs_okt (rs_okt hok).2).2)
  | ishl =>
    obtain ⟨rfl, h⟩ := h
    obtain ⟨x, y, r, rfl, h⟩ := rs_p2_of h
    refine lv_ishl hx hb hd ?_
    rw [← rs_oi (Int32.ofInt x <<< (Int32.ofInt y &&& 31))]
    exact go h (rs_okc (rs_Rt _) (rs_okt (rs_okt hok).2).2)
  | ishr =>
    obtain ⟨rfl, h⟩ := h
    obtain ⟨x, y, r, rfl, h⟩ := rs_p2_of h
    refine lv_ishr hx hb hd ?_
    rw [← rs_oi (Int32.ofInt x >>> (Int32.ofInt y &&& 31))]
    exact go h (rs_okc (rs_Rt _) (rs_okt (rs_okt hok).2).2)
  | iushr =>
    obtain ⟨rfl, h⟩ := h
    obtain ⟨x, y, r, rfl, h⟩ := rs_p2_of h
    exact lv_iushr hx hb hd (rs_oi _).symm (go h (rs_okc (rs_Rt _) (rs_okt (rs_okt hok).2).2))
  | i2l =>
    obtain ⟨rfl, h⟩ := h
    obtain ⟨x, r, rfl, h⟩ := rs_p1_of h
    obtain ⟨o1, o2⟩ := rs_okt hok
    exact lv_i2l hx hb hd (rs_i2l o1) (go h (rs_okc (v := .inr (.inl x)) o1 o2))
  | lcmp =>
    obtain ⟨rfl, h⟩ := h
    obtain ⟨y, r, rfl, h_1⟩ := rs_pl_of h
    obtain ⟨x, r, rfl, h_2⟩ := rs_pl_of h_1
    obtain ⟨o1, o2⟩ := rs_okt hok
    obtain ⟨o2, o3⟩ := rs_okt o2
    refine W.lcmp hx hb hd ?_
    rw [rs_cmpE o2 o1]
    exact go h_2 (rs_okc (show rs_R (rs_cmp x y) by unfold rs_cmp rs_R; split <;> (try split) <;> omega) o3)
  | dup =>
    obtain ⟨rfl, h⟩ := h
    split at h
    · obtain ⟨o1, o2⟩ := rs_okt hok
      exact lv_dup hx hb hd rfl (go h (rs_okc o1 (rs_okc o1 o2)))
    · obtain ⟨o1, o2⟩ := rs_okt hok
      exact lv_dup hx hb hd rfl (go h (rs_okc o1 (rs_okc o1 o2)))
    · exact h.elim
  | dup2 =>
    obtain ⟨rfl, h⟩ := h
    obtain ⟨x, r, rfl, h_1⟩ := rs_p1_of h
    obtain ⟨o, r, rfl, h_2⟩ := rs_pr_of h_1
    obtain ⟨o1, o2⟩ := rs_okt hok
    obtain ⟨o2, o3⟩ := rs_okt o2
    exact lv_dup2_11 hx hb hd rfl rfl (go h_2 (rs_okc o1 (rs_okc o2 (rs_okc o1 (rs_okc o2 o3)))))
  | pop =>
    obtain ⟨rfl, h⟩ := h
    obtain ⟨x, r, rfl, h⟩ := rs_p1_of h
    exact lv_pop hx hb hd rfl (go h (rs_okt hok).2)
  | ifCond q off =>
    obtain ⟨rfl, h0, h⟩ := h
    obtain ⟨x, r, rfl, h1, h2⟩ := rs_p1_of h
    obtain ⟨o1, o2⟩ := rs_okt hok
    exact rs_br1 hx hb o1 hd (tg h0) (fun g => go (h1 g) o2) (fun g => go (h2 g) o2)
  | if_icmp q off =>
    obtain ⟨rfl, h0, h⟩ := h
    obtain ⟨x, y, r, rfl, h1, h2⟩ := rs_p2_of h
    obtain ⟨o1, o2⟩ := rs_okt hok
    obtain ⟨o2, o3⟩ := rs_okt o2
    exact rs_br2 hx hb o2 o1 hd (tg h0) (fun g => go (h1 g) o3) (fun g => go (h2 g) o3)
  | goto off =>
    obtain ⟨rfl, h0, h⟩ := h
    exact lv_goto hx hb hd (tg h0) (go h hok)
  | tableswitch df lo hi offs =>
    obtain ⟨h0, h1, h2, h⟩ := h
    obtain ⟨x, r, rfl, h3, h4⟩ := rs_p1_of h
    obtain ⟨o1, o2⟩ := rs_okt hok
    by_cases g : x < lo ∨ hi < x
    · exact lv_tableOut hx hb hd (by rw [rs_ti o1]; exact g) (tg h0) (go (h3 g) o2)
    · have g1 : (x - lo).toNat < offs.size := by omega
      have g2 : offs[(x - lo).toNat]? = some (offs[(x - lo).toNat]'g1) := Array.getElem?_eq_getElem g1
      have g3 : offs.toList[(x - lo).toNat]? = some (offs[(x - lo).toNat]'g1) := by rw [Array.getElem?_toList]; exact g2
      have g4 := h1 _ (List.mem_of_getElem? g3)
      exact lv_tableIn hx hb hd (by rw [rs_ti o1]; omega) (by rw [rs_ti o1]; omega) (by rw [rs_ti o1]; exact g2) (tg g4) (go (rs_sw_at h4 g3 (by omega)) o2)
  | getfield i =>
    obtain ⟨rfl, h⟩ := h
    obtain ⟨o, r, rfl, h⟩ := rs_pr_of h
    obtain ⟨o1, o2⟩ := rs_okt hok
    cases hf : rs_fd mu i with
    | none => rw [hf] at h; exact h.elim
    | some q =>
      obtain ⟨ci, k, t⟩ := q
      rw [hf] at h
      obtain ⟨h1, h⟩ := h
      obtain ⟨f1, f2, f3, f4, f5⟩ := rs_fd_ok hf
      have he := rs_rel_at (D := D) (ca := ca) (bs := bs) (b := b) (L := L) (xs := xs) (I := I) (o := o) (by rw [h1]; exact Nat.one_ne_zero)
      rw [rs_en_1 h1] at he
      refine va_get (D := D) (ci := ci) (C := (rs_cl ci).1) (T := (rs_cl ci).2.1) (N := (rs_cl ci).2.2) (ref := ((rs_cl ci).2.1 k).1) hx hb hts f3 hown hK hP (o - 1) he f2 k f1 (hts _ f4) (fun x hx => hx) (rs_fs_at bs b ci o (I o) f1) hd ?_
      by_cases ht : t = 2
      · rw [if_pos ht] at h
        rw [if_pos (f5.1.mp ht)]
        exact go h (rs_okc (v := .inr (.inr (rs_rf o k))) trivial o2)
      · rw [if_neg ht] at h
        rw [if_neg (fun q => ht (f5.1.mpr q))]
        exact go h (rs_okc (v := .inl (I o k)) (hI o k) o2)
  | putfield i =>
    obtain ⟨rfl, h⟩ := h
    obtain ⟨x, r, rfl, h_1⟩ := rs_p1_of h
    obtain ⟨o, r, rfl, h_2⟩ := rs_pr_of h_1
    obtain ⟨o1, o2⟩ := rs_okt hok
    obtain ⟨-, o3⟩ := rs_okt o2
    cases hf : rs_fd mu i with
    | none => rw [hf] at h_2; exact h_2.elim
    | some q =>
      obtain ⟨ci, k, t⟩ := q
      rw [hf] at h_2
      obtain ⟨h1, h2, h⟩ := h_2
      obtain ⟨f1, f2, f3, f4, f5, f6, f7, f8⟩ := rs_fd_ok hf
      have h0 : (rs_sh o).1 ≠ 0 := by rw [h1]; exact Nat.one_ne_zero
      have he := rs_rel_at (D := D) (ca := ca) (bs := bs) (b := b) (L := L) (xs := xs) (I := I) (o := o) h0
      rw [rs_en_1 h1] at he
      have hty : ∃ ty, parseFieldDescriptor ((rs_cl ci).2.1 k).2.2.1 = some ty ∧ narrow ty (.int (Int32.ofInt x)) = .int (Int32.ofInt x) ∧ fits ty (.int (Int32.ofInt x)) = true ∧ ((rs_cl ci).2.1 k).2.2.2 = false ∧ ¬ rs_ft ci k = 2 := by
        rcases h2 with rfl | ⟨rfl, h2⟩
        · exact ⟨.int, (f6 rfl).1, rfl, rfl, (f6 rfl).2, fun q => absurd (f5.mpr q) (by decide)⟩
        · refine ⟨.boolean, (f7 rfl).1, ?_, ?_, (f7 rfl).2, fun q => absurd (f5.mpr q) (by decide)⟩
          · rcases h2 with rfl | rfl <;> decide
          · rcases h2 with rfl | rfl <;> decide
      obtain ⟨ty, t1, t2, t3, t4, t5⟩ := hty
      refine va_put (D := D) (ci := ci) (C := (rs_cl ci).1) (T := (rs_cl ci).2.1) (N := (rs_cl ci).2.2) (ref := ((rs_cl ci).2.1 k).1) (v := .int (Int32.ofInt x)) hx hb hts f3 (rs_ty ci) f8.1 f8.2 hown hK hP hDD hS (o - 1) he f2 k f1 (hts _ f4) (fun x hx => hx) t4 t1 t2 t3 (by rw [rs_fs_len]; exact f1) hd (fun H1 locs1 hP1 _ hS1 => ?_)
      refine goM h (rs_rel_up (o := o) hrel h0 (rs_up_ne I o k x) (rs_up_R hI o1) ?_) hS1 o3
      have e1 : Int32.ofInt x = Int32.ofInt (rs_up I o k x o k) := by simp [rs_up]
      rw [e1, rs_fs_set bs b ci o (I o) (rs_up I o k x o) t5 (fun j hj => by simp [rs_up, hj])] at hP1
      rw [rs_en_1 h1]
      exact hP1
  | iaload =>
    obtain ⟨rfl, h⟩ := h
    obtain ⟨j, r, rfl, h_1⟩ := rs_p1_of h
    obtain ⟨o, r, rfl, h_2⟩ := rs_pr_of h_1
    obtain ⟨o1, o2⟩ := rs_okt hok
    obtain ⟨-, o3⟩ := rs_okt o2
    split at h_2
    · rename_i h0
      obtain ⟨-, h0⟩ := h0
      subst h0
      obtain ⟨h1, h⟩ := h_2
      rw [hrel.2.2.1] at h1
      refine va_sld (b := bs) (L := L) (xs := xs) hx hb hX (by omega) (by omega) hS (rs_vin o1 h1) hd ?_
      rw [rs_nn o1]
      have e1 : xs j.toNat = Int32.ofInt (I 0 (j.toNat + 1)) := by rw [hrel.2.2.2 j.toNat (by omega), rs_oi]
      rw [e1]
      exact go h (rs_okc (v := .inl (I 0 (j.toNat + 1))) (hI _ _) o3)
    · obtain ⟨h1, h2, h⟩ := h_2
      have he := rs_rel_at (D := D) (ca := ca) (bs := bs) (b := b) (L := L) (xs := xs) (I := I) (o := o) (by rw [h1]; decide)
      rw [rs_en_2 h1] at he
      refine va_iald hx hb hK hP (o - 1) 0 he rfl (rs_vin o1 h2) hd ?_
      rw [rs_nn o1]
      exact go h (rs_okc (v := .inl (I o j.toNat)) (hI _ _) o3)
  | baload =>
    obtain ⟨rfl, h⟩ := h
    obtain ⟨j, r, rfl, h_1⟩ := rs_p1_of h
    obtain ⟨o, r, rfl, h1, h2, h_2⟩ := rs_pr_of h_1
    obtain ⟨o1, o2⟩ := rs_okt hok
    obtain ⟨-, o3⟩ := rs_okt o2
    have he := rs_rel_at (D := D) (ca := ca) (bs := bs) (b := b) (L := L) (xs := xs) (I := I) (o := o) (by rw [h1]; decide)
    rw [rs_en_3 h1] at he
    refine va_zald hx hb hK hP (o - 1) 1 he rfl (rs_vin o1 h2) hd ?_
    rw [rs_nn o1]
    exact go h_2 (rs_okc (v := .inl (I o j.toNat)) (hI _ _) o3)
  | laload =>
    obtain ⟨rfl, h⟩ := h
    obtain ⟨j, r, rfl, h_1⟩ := rs_p1_of h
    obtain ⟨o, r, rfl, h1, h2, h_2⟩ := rs_pr_of h_1
    obtain ⟨o1, o2⟩ := rs_okt hok
    obtain ⟨-, o3⟩ := rs_okt o2
    have he := rs_rel_at (D := D) (ca := ca) (bs := bs) (b := b) (L := L) (xs := xs) (I := I) (o := o) (by rw [h1]; decide)
    rw [rs_en_4 h1] at he
    refine va_lald hx hb hK hP (o - 1) 2 he rfl (rs_vin o1 h2) hd ?_
    rw [rs_nn o1]
    exact go h_2 (rs_okc (v := .inr (.inl (I o j.toNat))) (hI _ _) o3)
  | aaload =>
    obtain ⟨rfl, h⟩ := h
    obtain ⟨j, r, rfl, h_1⟩ := rs_p1_of h
    obtain ⟨o, r, rfl, h1, h2, h_2⟩ := rs_pr_of h_1
    obtain ⟨o1, o2⟩ := rs_okt hok
    obtain ⟨-, o3⟩ := rs_okt o2
    have he := rs_rel_at (D := D) (ca := ca) (bs := bs) (b := b) (L := L) (xs := xs) (I := I) (o := o) (by omega)
    rw [rs_en_5 h1] at he
    obtain ⟨C, hC⟩ := rs_tys_5 (ca := ca) h1
    refine va_aldq (C := C) hx hb hK hP (o - 1) ((rs_sh o).1 - 2) he hC (rs_vin o1 h2) hd ?_
    rw [rs_nn o1]
    exact go h_2 (rs_okc (v := .inr (.inr (rs_rf o j.toNat))) trivial o3)
  | iastore =>
    obtain ⟨rfl, h⟩ := h
    obtain ⟨j, x, r, rfl, h_1⟩ := rs_p2_of h
    obtain ⟨o, r, rfl, h1, h2, h_2⟩ := rs_pr_of h_1
    obtain ⟨o1, o2⟩ := rs_okt hok
    obtain ⟨o2, o3⟩ := rs_okt o2
    obtain ⟨-, o4⟩ := rs_okt o3
    have h0 : (rs_sh o).1 ≠ 0 := by rw [h1]; decide
    have he := rs_rel_at (D := D) (ca := ca) (bs := bs) (b := b) (L := L) (xs := xs) (I := I) (o := o) h0
    rw [rs_en_2 h1] at he
    refine va_iast hx hb hK hP hDD hS (o - 1) 0 he rfl (rs_vin o2 h2) hd (fun H1 locs1 hP1 _ hS1 => ?_)
    refine goM h_2 (rs_rel_up (o := o) hrel h0 (rs_up_ne I o j.toNat x) (rs_up_R hI o1) ?_) hS1 o4
    rw [rs_nn o2] at hP1
    rw [rs_en_2 h1]
    have e1 : upd (fun j => Int32.ofInt (I o j)) j.toNat (Int32.ofInt x) = fun k => Int32.ofInt (rs_up I o j.toNat x o k) := by
      funext k
      simp only [upd, rs_up]
      by_cases hk : k = j.toNat <;> simp [hk]
    rw [e1] at hP1
    exact hP1
  | bastore =>
    obtain ⟨rfl, h⟩ := h
    obtain ⟨j, x, r, rfl, h_1⟩ := rs_p2_of h
    obtain ⟨o, r, rfl, h1, h2, h3, h_2⟩ := rs_pr_of h_1
    obtain ⟨o1, o2⟩ := rs_okt hok
    obtain ⟨o2, o3⟩ := rs_okt o2
    obtain ⟨-, o4⟩ := rs_okt o3
    have h0 : (rs_sh o).1 ≠ 0 := by rw [h1]; decide
    have he := rs_rel_at (D := D) (ca := ca) (bs := bs) (b := b) (L := L) (xs := xs) (I := I) (o := o) h0
    rw [rs_en_3 h1] at he
    refine va_zast hx hb hK hP hDD hS (o - 1) 1 he rfl (rs_vin o2 h2) hd (fun H1 locs1 hP1 _ hS1 => ?_)
    refine goM h_2 (rs_rel_up (o := o) hrel h0 (rs_up_ne I o j.toNat x) (rs_up_R hI o1) ?_) hS1 o4
    rw [rs_nn o2] at hP1
    rw [rs_en_3 h1]
    have e0 : vp_nar .boolean (Int32.ofInt x) = Int32.ofInt x := by rcases h3 with rfl | rfl <;> decide
    have e1 : upd (fun j => Int32.ofInt (I o j)) j.toNat (Int32.ofInt x) = fun k => Int32.ofInt (rs_up I o j.toNat x o k) := by
      funext k
      simp only [upd, rs_up]
      by_cases hk : k = j.toNat <;> simp [hk]
    rw [e0, e1] at hP1
    exact hP1
  | lastore =>
    obtain ⟨rfl, h⟩ := h
    obtain ⟨x, r, rfl, h_1⟩ := rs_pl_of h
    obtain ⟨j, r, rfl, h_2⟩ := rs_p1_of h_1
    obtain ⟨o, r, rfl, h1, h2, h_3⟩ := rs_pr_of h_2
    obtain ⟨o1, o2⟩ := rs_okt hok
    obtain ⟨o2, o3⟩ := rs_okt o2
    obtain ⟨-, o4⟩ := rs_okt o3
    have h0 : (rs_sh o).1 ≠ 0 := by rw [h1]; decide
    have he := rs_rel_at (D := D) (ca := ca) (bs := bs) (b := b) (L := L) (xs := xs) (I := I) (o := o) h0
    rw [rs_en_4 h1] at he
    refine va_last hx hb hK hP hDD hS (o - 1) 2 he rfl (rs_vin o2 h2) hd (fun H1 locs1 hP1 _ hS1 => ?_)
    refine goM h_3 (rs_rel_up (o := o) hrel h0 (rs_up_ne I o j.toNat x) (rs_up_R hI o1) ?_) hS1 o4
    rw [rs_nn o2] at hP1
    rw [rs_en_4 h1]
    have e1 : vp_updL (fun j => Int64.ofInt (I o j)) j.toNat (Int64.ofInt x) = fun k => Int64.ofInt (rs_up I o j.toNat x o k) := by
      funext k
      simp only [vp_updL, rs_up]
      by_cases hk : k = j.toNat <;> simp [hk]
    rw [e1] at hP1
    exact hP1
  | arraylength =>
    obtain ⟨rfl, h⟩ := h
    obtain ⟨o, r, rfl, rfl, h_1⟩ := rs_pr_of h
    obtain ⟨-, o2⟩ := rs_okt hok
    refine va_slen (b := bs) (L := L) (xs := xs) hx hb hX (by omega) (by omega) hS hd ?_
    have e1 : Int32.ofNat L = Int32.ofInt (I 0 0) := by rw [hrel.2.2.1]; rfl
    rw [e1]
    exact go h_1 (rs_okc (v := .inl (I 0 0)) (hI _ _) o2)
  | invokevirtual i =>
    obtain ⟨rfl, h⟩ := h
    cases ht : rs_tg mu i with
    | none => rw [ht] at h; exact h.elim
    | some nu =>
      rw [ht] at h
      obtain ⟨hst, h⟩ := h
      obtain ⟨as, r, a1, rfl, a2, h1, h2, h3, h4, h⟩ := rs_tk_of h
      rw [List.append_nil] at h1 h
      exact rs_callV ht hd hc hfr hlo hce hsl hrel hS hok hlk hst a1 a2 h1 h2 h3 h4 h
  | invokestatic i =>
    obtain ⟨rfl, h⟩ := h
    cases ht : rs_tg mu i with
    | some nu =>
      rw [ht] at h
      obtain ⟨hst, h⟩ := h
      obtain ⟨as, r, a1, rfl, a2, h2, h3, h4, h⟩ := rs_tk_of h
      rw [List.append_nil] at h
      exact rs_callS ht hd hc hfr hlo hce hsl hrel hS hok hlk hst a1 a2 h2 h3 h4 h
    | none =>
      rw [ht] at h
      dsimp only at h
      split at h
      · rename_i hsp
        obtain ⟨h0, h⟩ := h
        obtain ⟨x, y, r, rfl, h1, h⟩ := rs_p2_of h
        obtain ⟨o1, o2⟩ := rs_okt hok
        obtain ⟨o2, o3⟩ := rs_okt o2
        obtain ⟨q1, q2, q3, q4⟩ := rs_sp0 hsp
        have hcat := rs_cats bs b r
        refine va_mmax hx hb (by rw [hml, hlk.1]) hown (hts _ q1) (hts _ q2) (hts _ q3) (hts _ q4) (by omega) (by omega) (by omega) (by omega) hd ?_
        have e1 : (if Int32.ofInt x < Int32.ofInt y then Int32.ofInt y else Int32.ofInt x) = Int32.ofInt (max x y) := by
          by_cases g : x < y
          · rw [if_pos ((rs_lt o2 o1).mpr g), show max x y = y by omega]
          · rw [if_neg (fun q => g ((rs_lt o2 o1).mp q)), show max x y = x by omega]
        rw [e1]
        exact go h (rs_okc (v := .inl (max x y)) (show rs_R (max x y) by
          have a1 : rs_R x := o2
          have a2 : rs_R y := o1
          unfold rs_R at a1 a2 ⊢; omega) o3)
      · rename_i hsp
        obtain ⟨h0, h⟩ := h
        obtain ⟨x, y, r, rfl, h1, h⟩ := rs_p2_of h
        obtain ⟨o1, o2⟩ := rs_okt hok
        obtain ⟨o2, o3⟩ := rs_okt o2
        obtain ⟨q1, q2, q3, q4⟩ := rs_sp1 hsp
        have hcat := rs_cats bs b r
        refine va_mmin hx hb (by rw [hml, hlk.1]) hown (hts _ q1) (hts _ q2) (hts _ q3) (hts _ q4) (by omega) (by omega) (by omega) (by omega) hd ?_
        have e1 : (if Int32.ofInt y < Int32.ofInt x then Int32.ofInt y else Int32.ofInt x) = Int32.ofInt (min x y) := by
          by_cases g : y < x
          · rw [if_pos ((rs_lt o1 o2).mpr g), show min x y = y by omega]
          · rw [if_neg (fun q => g ((rs_lt o1 o2).mp q)), show min x y = x by omega]
        rw [e1]
        exact go h (rs_okc (v := .inl (min x y)) (show rs_R (min x y) by
          have a1 : rs_R x := o2
          have a2 : rs_R y := o1
          unfold rs_R at a1 a2 ⊢; omega) o3)
      · rename_i hsp
        obtain ⟨h0, h⟩ := h
        obtain ⟨dp, n, r, rfl, h⟩ := rs_p2_of h
        obtain ⟨o2, r, rfl, h⟩ := rs_pr_of h
        obtain ⟨sp, r, rfl, h⟩ := rs_p1_of h
        obtain ⟨o1, r, rfl, h1, h2, h3, h4, h5, h6, h7, h8, h⟩ := rs_pr_of h
        obtain ⟨k1, k2⟩ := rs_okt hok
        obtain ⟨k2, k3⟩ := rs_okt k2
        obtain ⟨-, k4⟩ := rs_okt k3
        obtain ⟨k5, k6⟩ := rs_okt k4
        obtain ⟨-, k7⟩ := rs_okt k6
        obtain ⟨q1, q2, q3, q4⟩ := rs_sp2 hsp
        have hcat := rs_cats bs b r
        have z1 : (rs_sh o1).1 ≠ 0 := by rw [h2]; decide
        have z2 : (rs_sh o2).1 ≠ 0 := by rw [h3]; decide
        have he1 := rs_rel_at (D := D) (ca := ca) (bs := bs) (b := b) (L := L) (xs := xs) (I := I) (o := o1) z1
        have he2 := rs_rel_at (D := D) (ca := ca) (bs := bs) (b := b) (L := L) (xs := xs) (I := I) (o := o2) z2
        rw [rs_en_2 h2] at he1
        rw [rs_en_2 h3] at he2
        have nl : ∀ {z : Int}, rs_R z → 0 ≤ z → ¬ Int32.ofInt z < 0 := fun hz h0 q => by have := (rs_lt hz rs_R0).mp q; omega
        refine va_copyi (ty := .int) hx hb (by rw [hml, hlk.1]) hown (hts _ q1) (hts _ q2) (hts _ q3) (hts _ q4) hK hP hDD hS (o1 - 1) (o2 - 1) 0 0 he1 he2 rfl rfl rfl (nl k5 h4) (nl k2 h5) (nl k1 h6) (by rw [rs_nn k5, rs_nn k1]; omega) (by rw [rs_nn k2, rs_nn k1]; omega) (fun _ _ => rfl) (by omega) (by have := rs_acw; omega) hd (fun H1 locs1 hP1 _ hS1 => ?_)
        refine goM h (rs_rel_up (o := o2) hrel z2 (fun a ha => by funext j; simp [rs_cp, ha]) (fun k => by unfold rs_cp; split <;> exact hI _ _) ?_) hS1 k7
        rw [rs_nn k5, rs_nn k2, rs_nn k1] at hP1
        rw [rs_en_2 h3]
        have e1 : va_cpy (fun j => Int32.ofInt (I o1 j)) (fun j => Int32.ofInt (I o2 j)) sp.toNat dp.toNat n.toNat = fun k => Int32.ofInt (rs_cp I o1 o2 sp.toNat dp.toNat n.toNat o2 k) := by
          funext k
          unfold va_cpy rs_cp
          by_cases hk : dp.toNat ≤ k ∧ k < dp.toNat + n.toNat
          · rw [if_pos hk, if_pos ⟨rfl, hk⟩]
          · rw [if_neg hk, if_neg (fun q => hk q.2)]
        rw [e1] at hP1
        exact hP1
      · exact h.elim
  | new i =>
    obtain ⟨rfl, h⟩ := h
    cases ht : rs_th mu pc with
    | none => rw [ht] at h; exact h.elim
    | some t =>
      rw [ht] at h
      obtain ⟨rfl, h1, h2, h3⟩ := h
      exact rs_throw ht hd hc hfr hlo hce hsl hrel hS hlk h1 h2 h3
  | ireturn =>
    obtain ⟨rfl, h⟩ := h
    obtain ⟨x, r, rfl, rfl, h1, h⟩ := rs_p1_of h
    obtain ⟨o1, -⟩ := rs_okt hok
    refine W.widen (k := R.cells) (n := R.slots) (by omega) (by omega) ?_
    have hret : ∃ ty, meth.sig.returnType = some ty ∧ narrow ty (.int (Int32.ofInt x)) = .int (Int32.ofInt x) := by
      rcases h1 with h1 | ⟨h1, h2⟩
      · exact ⟨.int, hr.trans h1, rfl⟩
      · refine ⟨.boolean, hr.trans h1, ?_⟩
        rcases h2 with rfl | rfl <;> decide
    obtain ⟨ty, r1, r2⟩ := hret
    refine rs_Wm (Q := MQ below (fun _ st oc t => rs_Q D ca bs b L xs K st oc t) args s R.cells R.slots (fun q => b ≤ q)) ?_ (W.zret hx hb r1 r2 (fun t ht hW => ⟨some (.inl x), I, h, ⟨o1, rfl⟩, (by rw [ht]; exact hrel), hS.F ht⟩) hS.2.2 hd hlocks)
    rintro t ⟨o, q1, q2, q3, L', q4, q5⟩
    exact ⟨o, q1, q2, q3, L', q4.2, q5⟩
  | return_ =>
    obtain ⟨rfl, rfl, h1, h⟩ := h
    refine W.widen (k := R.cells) (n := R.slots) (by omega) (by omega) ?_
    refine rs_Wm (Q := MQ below (fun _ st oc t => rs_Q D ca bs b L xs K st oc t) args s R.cells R.slots (fun q => b ≤ q)) ?_ (W.vret hx hb (hr.trans h1) (fun t ht hW => ⟨none, I, h, rfl, (by rw [ht]; exact hrel), hS.F ht⟩) hS.2.2 hd hlocks)
    rintro t ⟨o, q1, q2, q3, L', q4, q5⟩
    exact ⟨o, q1, q2, q3, L', q4.2, q5⟩
  | _ => exact h.elim
theorem rs_sound (l : Launch) (D : va_G) (ca : Nat → ClassId) (bs b L : Nat) (xs : Nat → Int32) {u d mu pc : Nat} {ls : rs_L} {st : List rs_V} {I : rs_M} {K : rs_K} (h : rs_run u d mu pc ls st I K) : rs_snd l D ca bs b L xs u d mu pc ls st I K := h _ (rs_snd_mono l D ca bs b L xs) (rs_closed l D ca bs b L xs)
