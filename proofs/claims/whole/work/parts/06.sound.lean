theorem rs_nth_rep {α : Type} : ∀ (n i : Nat) (v : α), rs_nth (List.replicate n (none : Option α)) i = some (some v) → False
  | 0, _, _, h => by cases h
  | _ + 1, 0, _, h => by cases h
  | n + 1, i + 1, v, h => rs_nth_rep n i v h
theorem rs_ent_mem (bs b n : Nat) : ∀ (as : List rs_V) (k i : Nat) (v : rs_V), (∀ w ∈ as, (rs_cv bs b w).category = 1) → rs_nth (as.map some ++ List.replicate n none) i = some (some v) → (k + i, rs_cv bs b v) ∈ lv_args k (as.map (rs_cv bs b)) ∧ v ∈ as ∧ i < as.length
  | [], _, i, v, _, h => (rs_nth_rep n i v h).elim
  | a :: as, k, 0, v, hc, h => by
    cases h
    exact ⟨List.mem_cons_self, List.mem_cons_self, by simp⟩
  | a :: as, k, i + 1, v, hc, h => by
    obtain ⟨h1, h2, h3⟩ := rs_ent_mem bs b n as (k + 1) i v (fun w hw => hc w (List.mem_cons_of_mem _ hw)) h
    have e : k + 1 + i = k + (i + 1) := by omega
    rw [e] at h1
    refine ⟨?_, List.mem_cons_of_mem _ h2, by simp; omega⟩
    show _ ∈ (k, rs_cv bs b a) :: lv_args (if (rs_cv bs b a).category = 2 then k + 2 else k + 1) (as.map (rs_cv bs b))
    rw [if_neg (by rw [hc a List.mem_cons_self]; decide)]
    exact List.mem_cons_of_mem _ h1
theorem rs_sl_len (bs b : Nat) : ∀ (as : List rs_V), (∀ w ∈ as, (rs_cv bs b w).category = 1) → (lg_sl (as.map (rs_cv bs b))).length = as.length
  | [], _ => rfl
  | a :: as, hc => by
    have h := rs_sl_len bs b as (fun w hw => hc w (List.mem_cons_of_mem _ hw))
    have ha := hc a List.mem_cons_self
    unfold lg_sl at h ⊢
    rw [List.map_cons, List.flatMap_cons, List.length_append, h, if_neg (by rw [ha]; decide)]
    simp
    omega
theorem rs_ofW {l : Launch} {y : MethodName} {ws ws' : List Cond} {rm : Room} {Pc : Array Value → State → Prop} {Qc : Array Value → State → Outcome → State → Prop} {mc ms : Nat} {free : Addr → Prop} {cc : ByteArray} {maxL : Nat} {ret : Option FieldType}
    (hy : plainFor y = true) (hw : ws = Cond.code y cc maxL ret :: ws')
    (body : ∀ p e s m args below meth c s₁, BodyLoose p l y (headSpec ws rm) cc maxL ret e s m args below meth c s₁ → c.maxLocals = maxL → Pc args s →
      W p l e (headSpec ws rm).room s m args below meth c s.heap [] 0 0 (MQ below Qc args s mc ms free) (entryFrame m args maxL)) : Met l y ws rm Pc Qc mc ms free := by
  refine MetFree.of_bodyRF (code := cc) (maxLocals := maxL) (ret := ret) hy ?_ ?_
  · intro args s m h hn
    obtain ⟨meth, c, h1, h2, h3, h4, h5, h6, -, -⟩ := Cond.code_spec hn (atoms_spec (ws := ws) h _ (by rw [hw]; exact List.mem_cons_self))
    exact ⟨meth, c, h1, h2, h3, h4, h5, h6⟩
  · intro p e s m args below meth c s₁ B hml hP _ hst
    have hh0 : s₁.heap = s.heap := by rw [B.state]; rfl
    obtain ⟨t, a1, o, b1, b2, b3⟩ := body p e s m args below meth c s₁ B hml hP s₁ hh0 (Stand.of_body B)
    exact ⟨t, o, hst.trans a1, b1, b2, ⟨b3.1, b3.2⟩⟩
def rs_pre (D : va_G) (ca : Nat → ClassId) (bs b L : Nat) (xs : Nat → Int32) (I : rs_M) (U : State) : Prop := rs_rel D ca bs b L xs I U.heap ∧ va_K D rs_cls (rs_tys ca) U ∧ rs_nw U ∧ va_X bs L xs U U.heap ∧ bs < b ∧ b + rs_N ≤ U.heap.size
set_option maxHeartbeats 1000000 in
theorem rs_met (l : Launch) (D : va_G) (ca : Nat → ClassId) (bs b L : Nat) (xs : Nat → Int32) {un d nu : Nat} {as : List rs_V} {I : rs_M} {K : rs_K} (hpl : plainFor (rs_nm nu) = true) (has : ∀ v ∈ as, rs_ok v) (hcat : ∀ v ∈ as, (rs_cv bs b v).category = 1) (hlen : as.length ≤ rs_mx nu)
    (h : rs_snd l D ca bs b L xs un d nu 0 (rs_en0 as (rs_mx nu)) [] I K) :
    Met l (rs_nm nu) (rs_wd nu) { frames := d, cells := un, slots := rs_sl * un, locals := 64 * d } (va_Pc (as.map (rs_cv bs b)) (rs_pre D ca bs b L xs I)) (rs_Q D ca bs b L xs K) un (rs_sl * un) (fun q => b ≤ q) := by
  refine rs_ofW (cc := rs_cd nu) (maxL := rs_mx nu) (ret := rs_rt nu) hpl rfl ?_
  intro p e s m args below meth c s₁ B hml hv
  obtain ⟨rfl, hrel, hK, hnw, hX, hbb, hbs⟩ := hv
  have hts := atoms_spec (ws := rs_wd nu) B.pre
  have hown : s.vm.findClass (rs_nm nu).cls = some m.cls := findClass_of_methodNamed B.named
  have hl := lv_entry (as.map (rs_cv bs b)) (n := rs_mx nu) (by rw [rs_sl_len bs b as hcat]; exact hlen)
  rw [lg_entry_eq]
  refine h p e _ s m _ below meth c s.heap [] 0 0 _ ⟨B.exec, B.bytes, B.returns, hml, hown, fun w hw => hts w (List.mem_cons_of_mem _ hw), B.notSynchronized, hK, hnw, hX, hbb, hbs⟩ (Nat.le_refl _) (Nat.le_refl _) (by show 0 + un ≤ un; omega) (by show 0 + rs_sl * un ≤ rs_sl * un; omega) hrel va_S.rf (fun v hv => by cases hv) ⟨hl.1, hl.2.1, fun i v hv => ?_⟩
  obtain ⟨h1, h2, h3⟩ := rs_ent_mem bs b (rs_mx nu - as.length) as 0 i v hcat hv
  have h4 := hl.2.2 _ h1
  rw [Nat.zero_add] at h4
  exact ⟨has v h2, hcat v h2, by omega, h4⟩
theorem rs_pre_blind (D : va_G) (ca : Nat → ClassId) (bs b L : Nat) (xs : Nat → Int32) (I : rs_M) (av : List Value) : FrameBlind (va_Pc av (rs_pre D ca bs b L xs I)) := by
  intro a U g mk q
  obtain ⟨q0, q1, q2, q3, q4, q5⟩ := q
  exact ⟨q0, q1, va_K.moved (u := U) (U := U.calling g mk a) (Vm.Alike.refl U.vm) q2, rs_nw_same (U := U.calling g mk a) rfl q3, va_X.moved (u := U) (U := U.calling g mk a) (Vm.Alike.refl U.vm) q4, q5⟩
section RSA
variable {l : Launch} {D : va_G} {ca : Nat → ClassId} {bs b L : Nat} {xs : Nat → Int32} {mu : Nat} {p : Program} {e : Env} {R : Room} {s : State} {m : MethodId} {args : Array Value} {below : List Frame} {meth : Method} {c : Code} {H : Heap} {locs : List Loc} {cells slots : Nat} {I : rs_M}
theorem rs_pre_at (hc : rs_cx D ca bs b L xs mu p s m args meth c) (hrel : rs_rel D ca bs b L xs I H) (hS : va_S (fun q => b ≤ q) s.heap H locs) {U : State} (hU : U.heap = H) (hW : s.WarmedH U.vm) : rs_pre D ca bs b L xs I U := by
  obtain ⟨-, -, -, -, -, -, -, hK, hnw, hX, hbb, hbs⟩ := hc
  refine ⟨by rw [hU]; exact hrel, va_K.moved hW.alike hK, rs_nw_warm hW hnw, va_X.moved hW.alike (hX.kept ?_), hbb, ?_⟩
  · rw [hU]
    exact hS.2.1 bs (by omega) (by omega)
  · rw [hU]
    exact Nat.le_trans hbs hS.1
theorem rs_goon {un d u pc : Nat} {ls : rs_L} {K : rs_K} {lsM : Array Slot} {stM : List Value} {r : List rs_V} {a : Array Value} (hr : va_Run p l e R s m args below meth c H locs cells slots un (rs_sl * un) (F0 m pc lsM stM) (r.map (rs_cv bs b)) (rs_Q D ca bs b L xs (fun v J => rs_snd l D ca bs b L xs (u - un) d mu (pc + 3) ls (v.toList ++ r) J K) a) (fun q => b ≤ q))
    (hc : rs_cx D ca bs b L xs mu p s m args meth c) (hfr : d ≤ R.frames) (hlo : 64 * d ≤ R.locals) (hun : un ≤ u) (hce : cells + u ≤ R.cells) (hsl : slots + rs_sl * u ≤ R.slots) (hS : va_S (fun q => b ≤ q) s.heap H locs) (hok : ∀ v ∈ r, rs_ok v) (hlk : rs_lok mu bs b ls lsM) :
    W p l e R s m args below meth c H locs cells slots (MQ below (rs_Q D ca bs b L xs K) args s R.cells R.slots (fun q => b ≤ q)) (F0 m pc lsM stM) := by
  intro T hT X
  obtain ⟨v, st₀, t, T', L', h0, X', hL, e1, e2, ⟨v', J, q1, q2, q3, q4, q5, q6⟩, st⟩ := hr T hT X
  have hv : v = v'.map (rs_cv bs b) := by injection q1
  subst hv
  have hsum : rs_sl * un + rs_sl * (u - un) = rs_sl * u := by rw [← Nat.mul_add]; congr 1; omega
  rw [h0] at q5 q6
  obtain ⟨t2, a1, b1⟩ := q2 p e R s m args below meth c T'.heap (locs ++ L') (cells + un) (slots + rs_sl * un) lsM hc hfr hlo (by omega) (by omega) (by rw [e1]; exact q4)
    ⟨Nat.le_trans hS.1 (by rw [e1]; exact q5), fun q h1 h2 => by rw [e1, q6 q (Nat.lt_of_lt_of_le h1 hS.1) h2]; exact hS.2.1 q h1 h2, fun q hq => by
      rcases List.mem_append.mp hq with h | h
      · exact hS.2.2 q h
      · exact hL q h⟩
    (fun w hw => by
      rcases List.mem_append.mp hw with h | h
      · exact q3 w (by simpa using h)
      · exact hok w h) hlk T' rfl X'
  refine ⟨t2, st t2 ?_, b1⟩
  have e3 : (v'.map (rs_cv bs b)).toList ++ r.map (rs_cv bs b) = (v'.toList ++ r).map (rs_cv bs b) := by cases v' <;> simp
  show Steps p.tables e below (T'.setTop { (F0 m pc lsM stM) with pc := pc + 3, stack := (v'.map (rs_cv bs b)).toList ++ r.map (rs_cv bs b) }) t2
  rw [e3]
  exact a1
end RSA
theorem rs_cats (bs b : Nat) : ∀ r : List rs_V, ((r.map (rs_cv bs b)).map fun v => v.category).sum ≤ 2 * r.length
  | [] => by simp
  | v :: r => by
    have h := rs_cats bs b r
    have h2 : (rs_cv bs b v).category ≤ 2 := by rcases lv_cat (rs_cv bs b v) with h | h <;> omega
    simp only [List.map_cons, List.sum_cons, List.length_cons]
    omega
section RSC
variable {l : Launch} {D : va_G} {ca : Nat → ClassId} {bs b L : Nat} {xs : Nat → Int32} {mu : Nat} {p : Program} {e : Env} {R : Room} {s : State} {m : MethodId} {args : Array Value} {below : List Frame} {meth : Method} {c : Code} {H : Heap} {locs : List Loc} {cells slots : Nat} {I : rs_M} {u d pc i nu : Nat} {ls : rs_L} {as r : List rs_V} {K : rs_K} {lsM : Array Slot}
theorem rs_revc {bs b : Nat} {v : rs_V} (h : rs_c1 v) : (rs_cv bs b v).category = 1 := by
  rcases v with z | z | o
  · rfl
  · exact absurd rfl (h z)
  · rfl
set_option maxHeartbeats 1000000 in
theorem rs_callV (ht : rs_tg mu i = some nu) (hd : decode (rs_cd mu) pc = .ok (.invokevirtual i, 3)) (hc : rs_cx D ca bs b L xs mu p s m args meth c) (hfr : d ≤ R.frames) (hlo : 64 * d ≤ R.locals) (hce : cells + u ≤ R.cells) (hsl : slots + rs_sl * u ≤ R.slots) (hrel : rs_rel D ca bs b L xs I H) (hS : va_S (fun q => b ≤ q) s.heap H locs) (hok : ∀ v ∈ as ++ r, rs_ok v) (hlk : rs_lok mu bs b ls lsM)
    (hst : rs_stc nu = false) (a1 : as.length = rs_na nu) (a2 : ∀ v ∈ as, rs_c1 v) (h1 : rs_rec as.reverse (fun o => rs_sh o = (1, rs_ci nu))) (h2 : r.length ≤ 4) (h3 : 0 < d) (h4 : rs_un nu ≤ u)
    (h : rs_snd l D ca bs b L xs (rs_un nu) (d - 1) nu 0 (rs_en0 as.reverse (rs_mx nu)) [] I (fun v J => rs_snd l D ca bs b L xs (u - rs_un nu) d mu (pc + 3) ls (v.toList ++ r) J K)) :
    W p l e R s m args below meth c H locs cells slots (MQ below (rs_Q D ca bs b L xs K) args s R.cells R.slots (fun q => b ≤ q)) (F0 m pc lsM ((as ++ r).map (rs_cv bs b))) := by
  obtain ⟨o, as', e1, h1⟩ : ∃ o as', as.reverse = .inr (.inr o) :: as' ∧ rs_sh o = (1, rs_ci nu) := by
    unfold rs_rec at h1
    split at h1
    · exact ⟨_, _, by assumption, h1⟩
    · exact h1.elim
  have e2 : as = as'.reverse ++ [.inr (.inr o)] := by
    have := congrArg List.reverse e1
    simpa using this
  have ho : ∀ v ∈ as.reverse, rs_ok v := fun v hv => hok v (List.mem_append_left _ (List.mem_reverse.mp hv))
  have hg : ∀ v ∈ as.reverse, (rs_cv bs b v).category = 1 := fun v hv => rs_revc (a2 v (List.mem_reverse.mp hv))
  obtain ⟨c1, c2, c3, c4, c5, c6, c7, c8⟩ := rs_cal (nu := nu) (rs_tg_lt ht)
  obtain ⟨v1, v2, v3, hna⟩ := rs_calV (nu := nu) (rs_tg_lt ht) hst
  have M := rs_met l D ca bs b L xs (nu := nu) c1 ho hg (by rw [List.length_reverse, a1]; exact c7) h
  rw [e1] at M
  have hc0 := hc
  obtain ⟨hx, hb, hr, hml, hown, hts, hlocks, hK, hnw, hX, hbb, hbs⟩ := hc0
  have hcat := rs_cats bs b r
  have h0 : (rs_sh o).1 ≠ 0 := by rw [h1]; exact Nat.one_ne_zero
  have he := rs_ws_at ca bs b I (rs_gok h0).1 (rs_gok h0).2
  have hen : rs_en ca bs b o (I o) = .inr (rs_ci nu, rs_fs bs b (rs_ci nu) o (I o)) := by unfold rs_en; rw [h1]; rfl
  rw [hen] at he
  have hrecv := va_recv hK hrel.1 v3.1 he
  rw [v3.2] at hrecv
  have hlen : (as'.map (rs_cv bs b)).length = rs_na nu - 1 := by
    have := congrArg List.length e1
    simp only [List.length_reverse, List.length_cons] at this
    rw [List.length_map]
    omega
  have hstack : (as ++ r).map (rs_cv bs b) = (as'.map (rs_cv bs b)).reverse ++ .ref (rs_ad bs b o) :: r.map (rs_cv bs b) := by
    rw [e2]
    simp [rs_cv]
  have hws : ∀ w ∈ rs_wd nu, ∀ (a' : Array Value) (U : State), s.WarmedH U.vm → w.before a' U = true := pay_in hts (fun w hw => by
    rcases List.mem_cons.mp hw with e | e
    · subst e; exact ⟨c2, good_of_word (rs_tbl_good c2)⟩
    · exact ⟨e, good_of_word (rs_tbl_good e)⟩)
  have hroom : rs_sl * rs_un nu ≤ rs_sl * u := Nat.mul_le_mul_left _ h4
  have hpre : PreV s H (rs_nm nu).cls (rs_ad bs b o) (va_Pc ((.inr (.inr o) :: as').map (rs_cv bs b)) (rs_pre D ca bs b L xs I)) (as'.map (rs_cv bs b)) := ⟨rs_pre_blind D ca bs b L xs I _, hrecv, fun U hU hW => ⟨rfl, rs_pre_at hc hrel hS hU hW⟩⟩
  refine rs_goon (un := rs_un nu) (r := r) (ls := ls) (u := u) (d := d) (a := (Value.ref (rs_ad bs b o) :: as'.map (rs_cv bs b)).toArray) ?_ hc hfr hlo h4 hce hsl hS (fun v hv => hok v (List.mem_append_right _ hv)) hlk
  rcases rs_tg_link ht with hl | ⟨host, hl⟩
  · exact va_runV (C := (rs_nm nu).cls) (bytes := rs_cd nu) (maxL := rs_mx nu) (ret := rs_rt nu) (index := i) (n := rs_na nu - 1) ⟨hx, hb, hml, hown, hts⟩ M ⟨⟨rfl, rfl, by show d - 1 + 1 ≤ _; omega, by show 8 + (rs_mx nu + 11) + 64 * (d - 1) ≤ _; omega, hws, List.mem_cons_self, hts _ c2, hts _ c3, ⟨c4, c5⟩, v1.2, hts _ hl⟩, hts _ v1.1, hts _ v2⟩ hpre rfl hlen hlk.1 hstack (lv_room (by omega)) hd ⟨by omega, by omega⟩
  · exact va_runVN (C := (rs_nm nu).cls) (host := host) (bytes := rs_cd nu) (maxL := rs_mx nu) (ret := rs_rt nu) (index := i) (n := rs_na nu - 1) ⟨hx, hb, hml, hown, hts⟩ M ⟨⟨⟨rfl, rfl, by show d - 1 + 1 ≤ _; omega, by show 8 + (rs_mx nu + 11) + 64 * (d - 1) ≤ _; omega, hws, List.mem_cons_self⟩, hts _ c2, hts _ c3, ⟨c4, c5⟩, v1.2, va_Nw.use rfl (hl s hnw)⟩, hts _ v1.1, hts _ v2⟩ hpre rfl hlen hlk.1 hstack (lv_room (by omega)) hd ⟨by omega, by omega⟩
set_option maxHeartbeats 1000000 in
theorem rs_callS (ht : rs_tg mu i = some nu) (hd : decode (rs_cd mu) pc = .ok (.invokestatic i, 3)) (hc : rs_cx D ca bs b L xs mu p s m args meth c) (hfr : d ≤ R.frames) (hlo : 64 * d ≤ R.locals) (hce : cells + u ≤ R.cells) (hsl : slots + rs_sl * u ≤ R.slots) (hrel : rs_rel D ca bs b L xs I H) (hS : va_S (fun q => b ≤ q) s.heap H locs) (hok : ∀ v ∈ as ++ r, rs_ok v) (hlk : rs_lok mu bs b ls lsM) (hst : rs_stc nu = true)
    (a1 : as.length = rs_na nu) (a2 : ∀ v ∈ as, rs_c1 v) (h2 : r.length ≤ 4) (h3 : 0 < d) (h4 : rs_un nu ≤ u)
    (h : rs_snd l D ca bs b L xs (rs_un nu) (d - 1) nu 0 (rs_en0 as.reverse (rs_mx nu)) [] I (fun v J => rs_snd l D ca bs b L xs (u - rs_un nu) d mu (pc + 3) ls (v.toList ++ r) J K)) :
    W p l e R s m args below meth c H locs cells slots (MQ below (rs_Q D ca bs b L xs K) args s R.cells R.slots (fun q => b ≤ q)) (F0 m pc lsM ((as ++ r).map (rs_cv bs b))) := by
  have ho : ∀ v ∈ as.reverse, rs_ok v := fun v hv => hok v (List.mem_append_left _ (List.mem_reverse.mp hv))
  have hg : ∀ v ∈ as.reverse, (rs_cv bs b v).category = 1 := fun v hv => rs_revc (a2 v (List.mem_reverse.mp hv))
  obtain ⟨c1, c2, c3, c4, c5, c6, c7, c8⟩ := rs_cal (nu := nu) (rs_tg_lt ht)
  obtain ⟨v1, v2⟩ := rs_calS (nu := nu) (rs_tg_lt ht) hst
  have M := rs_met l D ca bs b L xs (nu := nu) c1 ho hg (by rw [List.length_reverse, a1]; exact c7) h
  have hc0 := hc
  obtain ⟨hx, hb, hr, hml, hown, hts, hlocks, hK, hnw, hX, hbb, hbs⟩ := hc0
  have hcat := rs_cats bs b r
  have hlen : ((as.reverse).map (rs_cv bs b)).length = rs_na nu := by rw [List.length_map, List.length_reverse, a1]
  have hstack : (as ++ r).map (rs_cv bs b) = ((as.reverse).map (rs_cv bs b)).reverse ++ r.map (rs_cv bs b) := by simp
  have hws : ∀ w ∈ rs_wd nu, ∀ (a' : Array Value) (U : State), s.WarmedH U.vm → w.before a' U = true := pay_in hts (fun w hw => by
    rcases List.mem_cons.mp hw with e | e
    · subst e; exact ⟨c2, good_of_word (rs_tbl_good c2)⟩
    · exact ⟨e, good_of_word (rs_tbl_good e)⟩)
  have hroom : rs_sl * rs_un nu ≤ rs_sl * u := Nat.mul_le_mul_left _ h4
  have hpre : PreS s H (va_Pc ((as.reverse).map (rs_cv bs b)) (rs_pre D ca bs b L xs I)) ((as.reverse).map (rs_cv bs b)) := ⟨rs_pre_blind D ca bs b L xs I _, fun U hU hW => ⟨rfl, rs_pre_at hc hrel hS hU hW⟩⟩
  refine rs_goon (un := rs_un nu) (r := r) (ls := ls) (u := u) (d := d) (a := ((as.reverse).map (rs_cv bs b)).toArray) ?_ hc hfr hlo h4 hce hsl hS (fun v hv => hok v (List.mem_append_right _ hv)) hlk
  rcases rs_tg_link ht with hl | ⟨host, hl⟩
  · exact va_runS (bytes := rs_cd nu) (maxL := rs_mx nu) (ret := rs_rt nu) (index := i) (n := rs_na nu) ⟨hx, hb, hml, hown, hts⟩ M ⟨⟨rfl, rfl, by show d - 1 + 1 ≤ _; omega, by show 8 + (rs_mx nu + 11) + 64 * (d - 1) ≤ _; omega, hws, List.mem_cons_self, hts _ c2, hts _ c3, ⟨c4, c5⟩, v2, hts _ hl⟩, hts _ v1⟩ hpre rfl hlen hlk.1 hstack (lv_room (by omega)) hd ⟨by omega, by omega⟩
  · exact va_runSN (host := host) (bytes := rs_cd nu) (maxL := rs_mx nu) (ret := rs_rt nu) (index := i) (n := rs_na nu) ⟨hx, hb, hml, hown, hts⟩ M ⟨⟨⟨rfl, rfl, by show d - 1 + 1 ≤ _; omega, by show 8 + (rs_mx nu + 11) + 64 * (d - 1) ≤ _; omega, hws, List.mem_cons_self⟩, hts _ c2, hts _ c3, ⟨c4, c5⟩, v2, va_Nw.use rfl (hl s hnw)⟩, hts _ v1, trivial⟩ hpre rfl hlen hlk.1 hstack (lv_room (by omega)) hd ⟨by omega, by omega⟩
end RSC
