section KCA
variable {l : Launch} {D : va_G} {ca : Nat → ClassId} {b : Nat} {p : Program} {e : Env} {R : Room} {s : State} {m : MethodId} {args : Array Value} {below : List Frame} {meth : Method} {cd : Code} {H H1 : Heap} {locs : List Loc} {cells slots : Nat} {g g' : kc_G}
theorem kr_push {x : Nat × Nat × List (Option Nat)} (h : kr D ca b g H) (h1 : ∀ q : Nat, q < H.size → H1[q]? = H[q]?) (hz : H1.size = H.size + 1) (hx : va_at D rs_cls (b + g.length, ke ca b x) H1) : kr D ca b (g ++ [x]) H1 := by
  refine ⟨?_, by rw [hz, h.2, List.length_append]; simp; omega⟩
  rw [kw_push]
  refine (h.1.kept (fun k q hk => h1 q.1 (h.1 k q hk).lt)).app (fun k q hk => ?_)
  have hz : k < 1 := (List.getElem?_eq_some_iff.mp hk).1
  rw [show k = 0 by omega] at hk
  cases hk
  exact hx
theorem kS_push (hS : va_S (fun q => b ≤ q) s.heap H locs) (h1 : ∀ q : Nat, q < H.size → H1[q]? = H[q]?) (hz : H1.size = H.size + 1) : va_S (fun q => b ≤ q) s.heap H1 locs :=
  ⟨Nat.le_trans hS.1 (by omega), fun q g1 g2 => (h1 q (Nat.lt_of_lt_of_le g1 hS.1)).trans (hS.2.1 q g1 g2), hS.2.2⟩
theorem kc_tysR {t : Nat} (h1 : 5 ≤ t) (h2 : t ≤ 8) : (rs_tys ca)[t - 2]? = some (ca (t - 2), .object (rs_on (kc_ec t))) := by
  rcases (show t = 5 ∨ t = 6 ∨ t = 7 ∨ t = 8 by omega) with e | e | e | e <;> subst e <;> rfl
theorem kc_at_ec {ci : Nat} (h : 5 ≤ kc_at ci) : kc_at ci ≤ 8 ∧ kc_ec (kc_at ci) = ci ∧ rs_on ci ∈ [rs_an3, rs_an4, rs_an5, rs_an6] := by
  unfold kc_at at h ⊢
  split at h <;> first | (exact ⟨by decide, rfl, by decide⟩) | omega
theorem ke_r {t n : Nat} {fs : List (Option Nat)} (h : 5 ≤ t) : ke ca b (t, n, fs) = .inl (ca (t - 2), n, .inr (.inr (.inr (.inr (fun j => (fs.getD j none).map (fun r => b + r)))))) := by
  obtain ⟨k, rfl⟩ : ∃ k, t = k + 5 := ⟨t - 5, by omega⟩
  rfl
theorem kc_put (hexec : p.tables.exec = Jvm.exec) {cc : ByteArray} (hb : cd.code = cc) {own C : String} {T : u_T} {N ci index : Nat} (hts : ∀ w ∈ rs_tbl, w.before args s = true) (hin : ∀ w ∈ u_ws C T N, w ∈ rs_tbl) (ty0 : Nat → FieldType) (hty : ∀ k, k < N → parseFieldDescriptor (T k).2.2.1 = some (ty0 k)) (hnm : ∀ a, a < N → ∀ b, b < N → a ≠ b → (T a).2.1 ≠ (T b).2.1) (hown : s.vm.findClass own = some m.cls) {tys : List (ClassId × FieldType)} {ws : va_W} {A : Nat → Prop} {H0 : Heap} {Q : State → Prop} {a pc : Nat} {ls : Array Slot} {rest : List Value} (hK : va_K D rs_cls tys s) (hP : va_P D rs_cls ws H) (hD : va_D A ws) (hS0 : va_S A H0 H locs) (q0 : Nat) {fs : List Value} (he : ws[q0]? = some (a, .inr (ci, fs))) (hc : rs_cls[ci]? = some (C, T, N)) (k : Nat) (hk : k < N) (hlink : (Cond.fieldLink own index (T k).1 (T k).2.1 (T k).2.2.1).before args s = true) (hfin : (T k).2.2.2 = true) (hin2 : meth.name = "<init>") (hdecl : (T k).1 = own) {ty : FieldType} {v : Value} (hd : parseFieldDescriptor (T k).2.2.1 = some ty) (hn : narrow ty v = v) (hfit : fits ty v = true) (hl : k < fs.length)
    (hdg : decode cc pc = .ok (.putfield index, 3)) (kk : ∀ (H1 : Heap) (locs1 : List Loc), va_P D rs_cls (ws.set q0 (a, .inr (ci, fs.set k v))) H1 → H1.size = H.size → va_S A H0 H1 locs1 → W p l e R s m args below meth cd H1 locs1 cells slots Q (F0 m (pc + 3) ls rest)) : W p l e R s m args below meth cd H locs cells slots Q (F0 m pc ls (v :: .ref a :: rest)) := by
  have hap := va_apart (own := own) hts hin ty0 hty hnm hK hc
  obtain ⟨r, h1, cell, q1, q2, q3, q4⟩ := hP q0 _ he
  have hr : r = (C, T, N) := Option.some.inj (h1.symm.trans hc)
  subst hr
  obtain ⟨hS, hfc, kC, hkC, hkind⟩ := hK.1 ci _ hc
  obtain ⟨cf, kf, fi, f, hi, hsl⟩ := hS k hk
  have hlay := hts _ (hin _ (u_in_lay hk))
  unfold u_lay at hlay
  rw [if_pos hfin] at hlay
  have hst := (u_facts hfc hkC (u_lays hts hin hk) hi).1
  have hcf : m.cls = cf := by
    obtain ⟨_, _, c', _, _, _, -, -, hf', -, -, -, hown2, -⟩ := Cond.laysFinal_spec hlay
    have e1 : c' = cf := by have := hi.symm.trans hf'; simp at this; exact this.1.symm
    rw [hdecl] at hown2
    rw [← e1]; exact Option.some.inj (hown.symm.trans hown2)
  have h6 := u_fits hfc hkC hkind (Or.inr hlay) hi hd hn hfit
  refine W.putFinK hexec hb hown hlink hi hst hcf hin2 (by rw [q2]; exact h6) q1 q3 (by rw [hsl]; exact k2_hasslot (q4 k hk)) rfl rfl hdg fun H' e1 e2 e3 => ?_
  rw [hsl] at e1 ⊢
  exact kk H' _ (hP.set hD he ⟨_, hc, t_OB.to (V := updV (vp_V fs) k v) ⟨_, e1, q2, q3, t_set q4 hap hk v⟩ (fun j _ => vp_updV_set hl v j)⟩ e3) e2 (hS0.put e2 e3 (hD.2 q0 _ he))
theorem kc_ast (hexec : p.tables.exec = Jvm.exec) {cc : ByteArray} (hb : cd.code = cc) {tys : List (ClassId × FieldType)} {ws : va_W} {A : Nat → Prop} {H0 : Heap} {Q : State → Prop} {a pc : Nat} {ls : Array Slot} {rest : List Value} (hK : va_K D rs_cls tys s) (hP : va_P D rs_cls ws H) (hD : va_D A ws) (hS : va_S A H0 H locs) (q0 t0 qk ci : Nat) {cA : ClassId} {r : vw_C} {n v : Nat} {vs : List Value} {f : Nat → Option Nat} (ha : ws[q0]? = some (a, .inl (cA, n, .inr (.inr (.inr (.inr f)))))) (ht : tys[t0]? = some (cA, .object r.1)) (hv : ws[qk]? = some (v, .inr (ci, vs))) (hc : rs_cls[ci]? = some r) {i : Int32} (hin : vp_in i n) (hdg : decode cc pc = .ok (.aastore, 1))
    (kk : ∀ (H1 : Heap) (locs1 : List Loc), va_P D rs_cls (ws.set q0 (a, .inl (cA, n, .inr (.inr (.inr (.inr (va_up f i.toNatClampNeg (some v)))))))) H1 → H1.size = H.size → va_S A H0 H1 locs1 → W p l e R s m args below meth cd H1 locs1 cells slots Q (F0 m (pc + 1) ls rest)) : W p l e R s m args below meth cd H locs cells slots Q (F0 m pc ls (.ref v :: .int i :: .ref a :: rest)) := by
  have hz : ∀ (H1 : Heap) (locs1 : List Loc), va_P D rs_cls (ws.set q0 (a, .inl (cA, n, .inr (.inr (.inr (.inr (va_up f i.toNatClampNeg (some v)))))))) H1 → va_S A H0 H1 locs1 → H1.size = H.size → W p l e R s m args below meth cd H1 locs1 cells slots Q (F0 m (pc + 1) ls rest) := fun H1 l1 a b c => kk H1 l1 a c b
  have hlt : i.toNatClampNeg < n := Nat.not_le.mp fun q => hin (Or.inr q)
  have h0 : ¬ i < 0 := fun q => hin (Or.inl q)
  obtain ⟨r', hr', cellV, g1, g2, g3, -⟩ := hP qk _ hv
  have hcls := (hK.1 ci r hc).2
  obtain ⟨kA, comp, k1, k2, k3, -⟩ := (hK.2 t0 _ ht).2
  have hcomp : comp = D.1 ci := Option.some.inj (k3.symm.trans hcls.1)
  subst hcomp
  obtain ⟨kC, hkC, -⟩ := hcls.2
  refine W.aast hexec hb (hP q0 _ ha) (fun q h => by cases h) (fun h => by cases h) k1 k2 rfl hkC ⟨h0, by show _ < (arrV _ _ _).slots.size; rw [arrV_size]; exact hlt⟩ g1 (fun q h => by rw [g3] at h; cases h) (by rw [g2]; exact hkC) (by rw [g2]; exact va_assign hcls) rfl rfl hdg fun H1 e z oq => ?_
  refine hz H1 _ (hP.set hD ha ?_ oq) (hS.put z oq (hD.2 q0 _ ha)) z
  show H1[a]? = some (vp_cell _ _)
  rw [e]
  rw [vp_cell_q, vp_cell_q, arrV_store]
  congr 2
  funext q
  by_cases hq : q = i.toNatClampNeg
  · subst hq
    simp [updV, va_up, va_rf]
  · simp [updV, va_up, hq]
theorem kc_nth_rep : ∀ (n i : Nat) (v : kc_V), rs_nth (List.replicate n (none : Option kc_V)) i = some (some v) → False
  | 0, i, v, h => by cases i <;> cases h
  | n + 1, 0, v, h => by cases h
  | n + 1, i + 1, v, h => kc_nth_rep n i v h
theorem kc_cats : ∀ (b : Nat) (r : List kc_V), ((r.map (kcv b)).map (fun v => v.category)).sum = r.length
  | _, [] => rfl
  | b, v :: r => by
    rw [List.map_cons, List.map_cons, List.sum_cons, kc_cats b r, kcv_cat, List.length_cons]
    omega
end KCA
set_option maxHeartbeats 8000000 in
set_option maxRecDepth 100000 in
theorem kc_snd (l : Launch) (D : va_G) (ca : Nat → ClassId) (b : Nat) : ∀ (n c pc : Nat) (ls : List (Option kc_V)) (st : List kc_V) (g g' : kc_G), kc n c pc ls st g = some g' → c < 9 → ∀ (p : Program) (e : Env) (R : Room) (s : State) (m : MethodId) (args : Array Value) (below : List Frame) (meth : Method) (cd : Code) (H : Heap) (locs : List Loc) (cells slots Ct St : Nat) (lsM : Array Slot),
    kcx D ca c p s m args meth cd → kc_dep c ≤ R.frames → 64 * kc_dep c ≤ R.locals → cells + g'.length = Ct + g.length → slots + ksl g' = St + ksl g → Ct ≤ R.cells → St ≤ R.slots → kr D ca b g H → va_S (fun q => b ≤ q) s.heap H locs → b ≤ s.heap.size → (∀ v ∈ st, kok v) → klok c b ls lsM →
    W p l e R s m args below meth cd H locs cells slots (kcQ D ca b g' below s Ct St) (F0 m pc lsM (st.map (kcv b))) := by
  intro n
  induction n with
  | zero => intro c pc ls st g g' h; cases h
  | succ n ih =>
    intro c pc ls st g g' h hc9 p e R s m args below meth cd H locs cells slots Ct St lsM hc hfr hlo hce hsl hCt hSt hrel hS hbs hok hlk
    obtain ⟨hx, hb, hr, hml, hown, hts, hlocks, hin, hamb⟩ := id hc
    obtain ⟨hK, hnest, hAO⟩ := id hamb
    have hP := hrel.1
    have hDD := kw_D ca b g
    have hlv := klok_has hlk
    have h2 : (match decode (kc_cd c) pc with
      | .ok (ins, ln) => kc_ins (kc n) c pc ls st g ln ins
      | .error _ => none) = some g' := h
    have hbH : b ≤ H.size := Nat.le_trans hbs hS.1
    cases hd : decode (kc_cd c) pc with
    | error _ => rw [hd] at h2; cases h2
    | ok q =>
    obtain ⟨ins, ln⟩ := q
    rw [hd] at h2
    dsimp only at h2
    have go : ∀ {pc' : Nat} {st' : List kc_V}, kc n c pc' ls st' g = some g' → (∀ v ∈ st', kok v) → W p l e R s m args below meth cd H locs cells slots (kcQ D ca b g' below s Ct St) (F0 m pc' lsM (st'.map (kcv b))) := fun h ho => ih _ _ _ _ _ _ h hc9 p e R s m args below meth cd H locs cells slots Ct St lsM hc hfr hlo hce hsl hCt hSt hrel hS hbs ho hlk
    have goS : ∀ {pc' : Nat} {st' : List kc_V} {i : Nat} {v : kc_V} {ls' : Array Slot}, kc n c pc' (rs_st ls i (some v)) st' g = some g' → i < kc_mx c → kok v → (∀ v ∈ st', kok v) → lv_has ls' (kc_mx c) ((i, kcv b v) :: (kprs c b ls).filter (fun q => !(q.1 == i) && !(q.1 + 1 == i && q.2.category == 2))) → W p l e R s m args below meth cd H locs cells slots (kcQ D ca b g' below s Ct St) (F0 m pc' ls' (st'.map (kcv b))) := fun h hi hv ho h' => ih _ _ _ _ _ _ h hc9 p e R s m args below meth cd H locs cells slots Ct St _ hc hfr hlo hce hsl hCt hSt hrel hS hbs ho (klok_st hlk hi hv h')
    have goM : ∀ {pc' : Nat} {st' : List kc_V} {gm : kc_G} {H1 : Heap} {locs1 : List Loc}, kc n c pc' ls st' gm = some g' → gm.length = g.length → ksl gm = ksl g → kr D ca b gm H1 → va_S (fun q => b ≤ q) s.heap H1 locs1 → (∀ v ∈ st', kok v) → W p l e R s m args below meth cd H1 locs1 cells slots (kcQ D ca b g' below s Ct St) (F0 m pc' lsM (st'.map (kcv b))) := fun h h1 h2 h3 h4 ho => ih _ _ _ _ _ _ h hc9 p e R s m args below meth cd _ _ cells slots Ct St lsM hc hfr hlo (by omega) (by omega) hCt hSt h3 h4 hbs ho hlk
    have goN : ∀ {pc' : Nat} {st' : List kc_V} {x : Nat × Nat × List (Option Nat)} {H1 : Heap}, kc n c pc' ls st' (g ++ [x]) = some g' → (∀ q : Nat, q < H.size → H1[q]? = H[q]?) → H1.size = H.size + 1 → va_at D rs_cls (b + g.length, ke ca b x) H1 → (∀ v ∈ st', kok v) → W p l e R s m args below meth cd H1 locs (cells + 1) (slots + ksz x) (kcQ D ca b g' below s Ct St) (F0 m pc' lsM (st'.map (kcv b))) := fun h h1 h2 h3 ho => ih _ _ _ _ _ _ h hc9 p e R s m args below meth cd _ _ (cells + 1) (slots + _) Ct St lsM hc hfr hlo (by rw [List.length_append]; simp; omega) (by rw [ksl_app]; omega) hCt hSt (kr_push hrel h1 h2 h3) (kS_push hS h1 h2) hbs ho hlk
    have okt : ∀ {v : kc_V} {st : List kc_V}, (∀ w ∈ v :: st, kok w) → kok v ∧ ∀ w ∈ st, kok w := fun h => ⟨h _ List.mem_cons_self, fun w hw => h w (List.mem_cons_of_mem _ hw)⟩
    have okc : ∀ {v : kc_V} {st : List kc_V}, kok v → (∀ w ∈ st, kok w) → ∀ w ∈ v :: st, kok w := fun h hs w hw => by
      rcases List.mem_cons.mp hw with e | e
      · rw [e]; exact h
      · exact hs w e
    have tg : ∀ {off : Int}, 0 ≤ (pc : Int) + off → (pc : Int) + off = ((((pc : Int) + off).toNat : Nat) : Int) := fun h => (Int.toNat_of_nonneg h).symm
    have RR : ∀ {z : Int}, -1000 ≤ z → z ≤ 1000 → rs_R z := fun h1 h2 => by unfold rs_R; omega
    cases ins with
    | aload_n i =>
      unfold kc_ins at h2
      dsimp only at h2
      split at h2
      · split at h2
        · rename_i h1 _ o ho
          subst h1
          exact lv_aload_n hx hb hd rfl (hlk.2.2 _ _ ho).2.2 (go h2 (okc trivial hok))
        · cases h2
      · cases h2
    | iload_n i =>
      unfold kc_ins at h2
      dsimp only at h2
      split at h2
      · split at h2
        · rename_i h1 _ o ho
          subst h1
          exact lv_iload_n hx hb hd rfl (hlk.2.2 _ _ ho).2.2 (go h2 (okc (hlk.2.2 _ _ ho).1 hok))
        · cases h2
      · cases h2
    | istore_n i =>
      unfold kc_ins at h2
      dsimp only at h2
      split at h2
      · split at h2
        · rename_i h1 _ z r
          obtain ⟨rfl, hi⟩ := h1
          exact lv_istore_n hx hb hd rfl hlv hi rfl (fun ls' h' => goS h2 hi (okt hok).1 (okt hok).2 h')
        · cases h2
      · cases h2
    | iconst z =>
      unfold kc_ins at h2
      dsimp only at h2
      split at h2
      · rename_i h1
        obtain ⟨rfl, hz⟩ := h1
        exact lv_iconst hx hb hd rfl (go h2 (okc (RR (by omega) (by omega)) hok))
      · cases h2
    | bipush z =>
      unfold kc_ins at h2
      dsimp only at h2
      split at h2
      · rename_i h1
        obtain ⟨rfl, hz⟩ := h1
        refine lv_bipush (v := Int32.ofInt z) hx hb hd ?_ (go h2 (okc (RR (by omega) (by omega)) hok))
        rw [← Int32.toInt_inj, Int8.toInt_toInt32, rs_ti (RR (by omega) (by omega))]
        exact Int8.toInt_ofInt_of_le (by omega) (by omega)
      · cases h2
    | dup =>
      unfold kc_ins at h2
      dsimp only at h2
      split at h2
      · split at h2
        · rename_i h1 _ o r
          subst h1
          exact lv_dup hx hb hd rfl (go h2 (okc trivial (okc trivial (okt hok).2)))
        · cases h2
      · cases h2
    | new i =>
      unfold kc_ins at h2
      dsimp only at h2
      split at h2
      · split at h2
        · split at h2
          · rename_i h1 _ ci hcl hci
            subst h1
            obtain ⟨l1, -⟩ := kc_cl_ok hcl
            obtain ⟨o1, o2, o3, o4, o5, o6, o7, o8, o9⟩ := kc_ok hci
            have hKn := hK.1 ci _ (rs_cls_at hci)
            have hm := kc_mono _ _ _ _ _ _ _ h2
            rw [List.length_append, ksl_app] at hm
            have hm1 : g.length + 1 ≤ g'.length := by have := hm.1; simp at this; omega
            have hm2 : ksl g + (rs_cl ci).2.2 ≤ ksl g' := hm.2
            refine W.newcK hx hb hown (hts _ l1) (hts _ o3) (hts _ o1) rfl hd (by omega) (by omega) (by rw [← o6]; exact hKn.2.1) hrel.2 (fun H1 kC hkC e1 z1 q1 => ?_)
            exact goN (x := (1, ci, List.replicate (rs_cl ci).2.2 none)) h2 (fun q hq => q1 q (by rw [← hrel.2]; exact hq)) (by rw [z1, hrel.2]) ⟨_, rs_cls_at hci, (u_born (rs_ty ci) hts (rs_cw_in hci) hKn hkC e1 (rs_ty_ok ci hci).1).to (fun j hj => by
              rw [kc_dflt ci hci j hj]
              show _ = vp_V (kf b ci _) j
              unfold vp_V
              rw [List.getD_eq_getElem?_getD, kf_at hj]
              have e9 : ((List.replicate (rs_cl ci).2.2 (none : Option Nat)).getD j none) = none := by
                rw [List.getD_eq_getElem?_getD, List.getElem?_replicate]
                split <;> rfl
              rw [e9]
              split <;> rfl)⟩ (okc trivial hok)
          · cases h2
        · cases h2
      · cases h2
    | newarray t =>
      unfold kc_ins at h2
      dsimp only at h2
      split at h2
      · split at h2
        · split at h2
          · rename_i h1 _ z r h3
            subst h1
            obtain ⟨o1, o2⟩ := okt hok
            obtain ⟨w1, w2, w3, w4, w5⟩ := kc_objw
            have hz : (Int32.ofInt z).toNatClampNeg = z.toNat := rs_nn o1
            have hz0 : ¬ Int32.ofInt z < 0 := fun q => by
              rw [← rs_o0, rs_lt o1 rs_R0] at q
              omega
            split at h2
            · have hm := kc_mono _ _ _ _ _ _ _ h2
              rw [List.length_append, ksl_app] at hm
              have hm1 : g.length + 1 ≤ g'.length := by have := hm.1; simp at this; omega
              have hm2 : ksl g + z.toNat ≤ ksl g' := hm.2
              refine va_newaK hx hb (hts _ (rs_has_in w3)) rfl hd rfl hz0 hz (by show z.toNat * 4 ≤ _; omega) (by omega) (by omega) hrel.2 (fun H1 cA e1 z1 q1 _ f1 => ?_)
              have e : cA = ca 0 := Option.some.inj (f1.symm.trans (hK.2 0 _ rfl).2)
              subst e
              exact goN (x := (2, z.toNat, [])) h2 (fun q hq => q1 q (by rw [← hrel.2]; exact hq)) (by rw [z1, hrel.2]) e1 (okc trivial o2)
            · have hm := kc_mono _ _ _ _ _ _ _ h2
              rw [List.length_append, ksl_app] at hm
              have hm1 : g.length + 1 ≤ g'.length := by have := hm.1; simp at this; omega
              have hm2 : ksl g + z.toNat ≤ ksl g' := hm.2
              refine va_newaK hx hb (hts _ (rs_has_in w4)) rfl hd rfl hz0 hz (by show z.toNat * 1 ≤ _; omega) (by omega) (by omega) hrel.2 (fun H1 cA e1 z1 q1 _ f1 => ?_)
              have e : cA = ca 1 := Option.some.inj (f1.symm.trans (hK.2 1 _ rfl).2)
              subst e
              exact goN (x := (3, z.toNat, [])) h2 (fun q hq => q1 q (by rw [← hrel.2]; exact hq)) (by rw [z1, hrel.2]) e1 (okc trivial o2)
            · cases h2
          · cases h2
        · cases h2
      · cases h2
    | anewarray i =>
      unfold kc_ins at h2
      dsimp only at h2
      split at h2
      · split at h2
        · split at h2
          · split at h2
            · rename_i h1 _ z r _ ci hcl h3
              subst h1
              obtain ⟨h30, h31, h32⟩ := h3
              obtain ⟨o1, o2⟩ := okt hok
              obtain ⟨l1, -⟩ := kc_cl_ok hcl
              obtain ⟨t1, t2, t3⟩ := kc_at_ec h32
              have hz : (Int32.ofInt z).toNatClampNeg = z.toNat := rs_nn o1
              have hz0 : ¬ Int32.ofInt z < 0 := fun q => by
                rw [← rs_o0, rs_lt o1 rs_R0] at q
                omega
              have hm := kc_mono _ _ _ _ _ _ _ h2
              rw [List.length_append, ksl_app] at hm
              have hks : ksz (kc_at ci, z.toNat, List.replicate z.toNat none) = z.toNat := by
                unfold ksz
                exact if_neg (by dsimp only; omega)
              have hm1 : g.length + 1 ≤ g'.length := by have := hm.1; simp at this; omega
              have hm2 : ksl g + z.toNat ≤ ksl g' := by have := hm.2; omega
              refine W.anew hx hb hown (hts _ l1) (va_AO.use (hAO _ t3)) rfl hd rfl hz0 (by rw [hz]; omega) (by omega) (by rw [hz]; omega) (fun cA kA comp f1 f2 f3 f4 => ?_)
              have hty := kc_tysR (ca := ca) h32 t1
              rw [t2] at hty
              obtain ⟨_, _, _, _, _, f5⟩ := (hK.2 _ _ hty).2
              have e : cA = ca (kc_at ci - 2) := Option.some.inj (f1.symm.trans f5)
              subst e
              have hg9 := goN (x := (kc_at ci, z.toNat, List.replicate z.toNat none)) (H1 := H.push { cls := ca (kc_at ci - 2), slots := Array.replicate (Int32.ofInt z).toNatClampNeg .null, vm := .none }) h2 (fun q hq => by rw [Array.getElem?_push, if_neg (Nat.ne_of_lt hq)]) (by simp) (by
                rw [ke_r h32]
                show (H.push _)[b + g.length]? = some (vp_cell _ _)
                rw [← hrel.2, Array.getElem?_push, if_pos rfl, vp_cell_q, hz]
                rw [arrV_new]
                congr 2
                funext q
                rw [List.getD_eq_getElem?_getD, List.getElem?_replicate]
                split <;> rfl) (okc trivial o2)
              rw [hks] at hg9
              rw [hz, hrel.2]
              rw [hz] at hg9
              exact hg9
            · cases h2
          · cases h2
        · cases h2
      · cases h2
    | putfield i =>
      unfold kc_ins at h2
      dsimp only at h2
      split at h2
      · split at h2
        · split at h2
          · split at h2
            · split at h2
              · rename_i h1 _ v o r _ ci k t hfd _ kd ci' fs hgo hcnd
                subst h1
                obtain ⟨e1, e2, e3, e4, hkl⟩ := hcnd
                subst e1
                subst e2
                subst e3
                subst e4
                obtain ⟨f1, f2, f3, f4⟩ := kc_fd_ok hfd
                obtain ⟨r1, r2, r3⟩ := kc_reff _ f2 _ f1 f4.symm
                have hw := kw_at (ca := ca) (b := b) hgo
                obtain ⟨y1, y2⟩ := rs_ty_ok _ f2
                have o3 := (okt (okt hok).2).2
                have fin : ∀ (H1 : Heap) (locs1 : List Loc), va_P D rs_cls ((kw ca b g).set o (b + o, .inr (ci', (kf b ci' fs).set k (.ref (b + v))))) H1 → H1.size = H.size → va_S (fun q => b ≤ q) s.heap H1 locs1 → W p l e R s m args below meth cd H1 locs1 cells slots (kcQ D ca b g' below s Ct St) (F0 m (pc + 3) lsM (r.map (kcv b))) := fun H1 locs1 hP1 hz1 hS1 => by
                  rw [kf_set f4.symm hkl] at hP1
                  have hP2 : va_P D rs_cls (kw ca b (g.set o (1, ci', fs.set k (some v)))) H1 := by
                    rw [← kw_set]
                    exact hP1
                  exact goM h2 (List.length_set ..) (ksl_set hgo rfl) ⟨hP2, by rw [hz1, hrel.2, List.length_set]⟩ hS1 o3
                rcases r3 with ⟨nn, hnn⟩ | ⟨tt, hnn⟩
                · exact kc_put hx hb hts (rs_cw_in f2) (rs_ty ci') y1 y2 hown hK hP hDD hS o hw (rs_cls_at f2) k f1 (hts _ f3) r1 hin r2 hnn rfl rfl (by rw [kf_len]; exact f1) hd fin
                · exact kc_put hx hb hts (rs_cw_in f2) (rs_ty ci') y1 y2 hown hK hP hDD hS o hw (rs_cls_at f2) k f1 (hts _ f3) r1 hin r2 hnn rfl rfl (by rw [kf_len]; exact f1) hd fin
              · cases h2
            · cases h2
          · cases h2
        · cases h2
      · cases h2
    | getfield i =>
      unfold kc_ins at h2
      dsimp only at h2
      split at h2
      · split at h2
        · split at h2
          · split at h2
            · split at h2
              · split at h2
                · rename_i h1 _ o r _ ci k t hfd _ kd ci' fs hgo hcnd _ v hv
                  subst h1
                  obtain ⟨e1, e2, e4⟩ := hcnd
                  subst e1
                  subst e2
                  subst e4
                  obtain ⟨f1, f2, f3, f4⟩ := kc_fd_ok hfd
                  have hw := kw_at (ca := ca) (b := b) hgo
                  exact va_get (v := .ref (b + v)) hx hb hts (rs_cw_in f2) hown hK hP o hw (rs_cls_at f2) k f1 (hts _ f3) (fun x hx => hx) (by
                    rw [kf_at f1, if_pos f4.symm, hv]
                    rfl) hd (go h2 (okc trivial (okt hok).2))
                · cases h2
              · cases h2
            · cases h2
          · cases h2
        · cases h2
      · cases h2
    | aastore =>
      unfold kc_ins at h2
      dsimp only at h2
      split at h2
      · split at h2
        · split at h2
          · split at h2
            · split at h2
              · rename_i h1 _ v j o r _ t n' fs hgo _ kd ci fs' hgv hcnd
                subst h1
                obtain ⟨e1, c1, c2, c3, c4, c5, c6, c7⟩ := hcnd
                subst e1
                obtain ⟨o1, o2⟩ := okt hok
                obtain ⟨o2, o3⟩ := okt o2
                obtain ⟨o3, o4⟩ := okt o3
                have hw := kw_at (ca := ca) (b := b) hgo
                have hw2 := kw_at (ca := ca) (b := b) hgv
                rw [ke_r c1] at hw
                have hty := kc_tysR (ca := ca) c1 c2
                rw [c3] at hty
                have hc9v : ci < 9 := by
                  rw [← c3]
                  unfold kc_ec
                  split <;> omega
                have hcn := (kc_ok hc9v).2.2.2.2.2.1
                refine kc_ast (r := rs_cl ci) hx hb hK hP hDD hS o (t - 2) v ci hw (by rw [hcn]; exact hty) hw2 (rs_cls_at hc9v) (rs_vin o2 ⟨c4, c5⟩) hd (fun H1 locs1 hP1 hz1 hS1 => ?_)
                rw [rs_nn o2] at hP1
                have hP2 : va_P D rs_cls (kw ca b (g.set o (t, n', fs.set j.toNat (some v)))) H1 := by
                  rw [← kw_set, ke_r c1]
                  refine cast ?_ hP1
                  congr 7
                  refine congrArg (fun x => Sum.inr (Sum.inr (Sum.inr x))) ?_
                  funext q
                  unfold va_up
                  dsimp only
                  rw [List.getD_eq_getElem?_getD, List.getD_eq_getElem?_getD, List.getElem?_set]
                  by_cases hq : q = j.toNat
                  · rw [if_pos hq, if_pos hq.symm, if_pos (by omega)]; rfl
                  · rw [if_neg hq, if_neg (fun z => hq z.symm)]
                exact goM h2 (List.length_set ..) (ksl_set hgo (by unfold ksz; rw [if_neg (by dsimp only; omega)])) ⟨hP2, by rw [hz1, hrel.2, List.length_set]⟩ hS1 o4
              · cases h2
            · cases h2
          · cases h2
        · cases h2
      · cases h2
    | iinc i z =>
      unfold kc_ins at h2
      dsimp only at h2
      split at h2
      · split at h2
        · split at h2
          · rename_i h1 _ x hx1 h3
            obtain ⟨rfl, hi⟩ := h1
            have hm : (i, kcv b (.inl x)) ∈ kprs c b ls := List.mem_filterMap.mpr ⟨i, List.mem_range.mpr hi, by rw [hx1]⟩
            obtain ⟨k, hk⟩ := List.getElem?_of_mem hm
            exact lv_iinc (k := k) (x := Int32.ofInt x) hx hb hd hlv hk (Int32.ofInt_add x z).symm hi rfl (fun ls' h' => goS h2 hi (RR h3.1 h3.2) hok h')
          · cases h2
        · cases h2
      · cases h2
    | if_icmp q off =>
      unfold kc_ins at h2
      dsimp only at h2
      split at h2
      · split at h2
        · rename_i h1 _ y x r
          obtain ⟨rfl, h0⟩ := h1
          obtain ⟨o1, o2⟩ := okt hok
          obtain ⟨o2, o3⟩ := okt o2
          refine rs_br2 hx hb o2 o1 hd (tg h0) (fun gg => ?_) (fun gg => ?_)
          · rw [if_pos (kc_cnd_iff.mpr gg)] at h2
            exact go h2 o3
          · rw [if_neg (fun z => gg (kc_cnd_iff.mp z))] at h2
            exact go h2 o3
        · cases h2
      · cases h2
    | goto off =>
      unfold kc_ins at h2
      dsimp only at h2
      split at h2
      · rename_i h1
        obtain ⟨rfl, h0⟩ := h1
        exact lv_goto hx hb hd (tg h0) (go h2 hok)
      · cases h2
    | invokespecial i =>
      unfold kc_ins at h2
      dsimp only at h2
      split at h2
      · split at h2
        · split at h2
          · rename_i h1 _ o r _ nu htg
            subst h1
            obtain ⟨o1, o2⟩ := okt hok
            have hdep : 1 ≤ kc_dep c := by
              rcases (show c = 0 ∨ c = 1 ∨ c = 2 ∨ c = 3 ∨ c = 4 ∨ c = 5 ∨ c = 6 ∨ c = 7 ∨ c = 8 by omega) with e | e | e | e | e | e | e | e | e <;> subst e <;> decide
            split at h2
            · split at h2
              · rename_i e99 hrl
                obtain ⟨w1, w2, -⟩ := kc_objw
                exact W.objInit hx hb hown (hts _ ((kc_tg_ok htg).1 e99)) (hts _ (rs_has_in w1)) (hts _ (rs_has_in w2)) rfl (hlk.1.trans hml.symm) rfl hd (by omega) (by show 2 * 0 + ((r.map (kcv b)).map fun v => v.category).sum + 12 ≤ _; rw [kc_cats]; omega) (go h2 o2)
              · cases h2
            · split at h2
              · split at h2
                · rename_i e99 hcnd _ gm hF
                  obtain ⟨hnu, hdp, hrl⟩ := hcnd
                  obtain ⟨k1, k2, k3, k4, k5, k6, k7, k8, k9⟩ := kc_ok hnu
                  have hm1 := kc_mono _ _ _ _ _ _ _ hF
                  have hm2 := kc_mono _ _ _ _ _ _ _ h2
                  have hcw := hts _ (kc_cwA hnu)
                  intro T hT X
                  have hpl : e.platform.magicAccessors = ({} : Platform).magicAccessors := by rw [X.admits.platform]
                  have hlen : ∀ sig, parseMethodDescriptor (kc_nm nu).desc = some sig → ([] : List Value).length = sig.parameters.length := fun sig hs => by
                    have h0 : (parseMethodDescriptor "()V").map (fun d => d.parameters.length) = some 0 := by decide +kernel
                    have hs' : parseMethodDescriptor "()V" = some sig := hs
                    rw [hs'] at h0
                    exact (Option.some.inj h0).symm
                  obtain ⟨mk, vm1, hnamed, hW1, hstep⟩ : ∃ (mk : MethodId) (vm1 : Vm), s.methodNamed? (kc_nm nu) = some mk ∧ s.WarmedH vm1 ∧ ∀ target, (∀ acts, Steps p.tables e below (doInvoke e ((T.setVm vm1).setTop (F0 m pc lsM (r.map (kcv b)))) acts mk (Value.ref (b + o) :: []).toArray).1 target) → Steps p.tables e below (T.setTop (F0 m pc lsM (Value.ref (b + o) :: r.map (kcv b)))) target := by
                    rcases (kc_tg_ok htg).2 e99 with hl | hl
                    · obtain ⟨mk, methM, cM, kP, vm1, a1, a2, a3, -, a4, -, a5, -, a6, a7⟩ := Steps.initColdArgs (e := e) X.here hx X.warmed hpl hown (t := kc_nm nu) rfl ⟨k4, k5⟩ (hts _ hl) (hts _ k2) hcw (f := F0 m pc lsM (Value.ref (b + o) :: r.map (kcv b))) rfl (argsL := []) hlen rfl (by rw [hb]; exact hd)
                      exact ⟨mk, vm1, a1, a6, a7⟩
                    · obtain ⟨mk, methM, cM, kP, vm1, a1, a2, a3, -, a4, -, a5, -, a6, a7⟩ := Steps.initColdArgsNest (e := e) X.here hx X.warmed hpl hown (t := kc_nm nu) rfl ⟨k4, k5⟩ (va_Nw.use rfl (hnest _ hl)) (hts _ k2) hcw (f := F0 m pc lsM (Value.ref (b + o) :: r.map (kcv b))) rfl (argsL := []) hlen rfl (by rw [hb]; exact hd)
                      exact ⟨mk, vm1, a1, a6, a7⟩
                  obtain ⟨methk, ck, c1, c2, c3, c4, c5, c6, -, -⟩ := Cond.code_spec hnamed hcw
                  have X1 := X.noted hW1
                  have hal := X1.warmed.alike
                  have hmk : (T.setVm vm1).vm.method? mk = some methk := by rw [hal.method?]; exact c1
                  have hpk : (T.setVm vm1).plainMethod mk := State.plainMethod.of_named (s := T.setVm vm1) k7 (X1.named hnamed) hmk
                  obtain ⟨Xc, hent⟩ := X1.into (g := F0 m pc lsM (r.map (kcv b))) rfl (hlk.1.trans hml.symm) (by rw [hb]; exact hd) (Value.ref (b + o) :: []).toArray (R' := { frames := kc_dep nu, cells := gm.length - g.length, slots := ksl gm - ksl g, locals := 64 * kc_dep nu }) hmk c2 c6 hpk (by show kc_dep nu + 1 ≤ _; omega) (by show 2 * 0 + ((r.map (kcv b)).map fun v => v.category).sum + (ck.maxLocals + 11) + 64 * kc_dep nu ≤ R.locals; rw [kc_cats, c4]; omega) (by show cells + (gm.length - g.length) ≤ _; omega) (by show slots + (ksl gm - ksl g) ≤ _; omega)
                  have hl := lv_entry [Value.ref (b + o)] (n := kc_mx nu) (by show 1 ≤ _; exact k8)
                  have hUH : (T.setVm vm1).heap = H := hT
                  obtain ⟨t, hst, hrun, hend, hrelJ, hF1, L', ⟨hW', hsame⟩, hL'⟩ := ih nu 0 _ _ _ _ hF hnu p e _ ((T.setVm vm1).calling (F0 m pc lsM (r.map (kcv b))) mk (Value.ref (b + o) :: []).toArray) mk _ _ methk ck H [] 0 0 (gm.length - g.length) (ksl gm - ksl g) _ ⟨hx, c3, c5, c4, by
                      show (T.setVm vm1).vm.findClass (rs_on nu) = _
                      rw [hal.findClass]
                      exact findClass_of_methodNamed hnamed, fun w hw => word_at (U := (T.setVm vm1).calling (F0 m pc lsM (r.map (kcv b))) mk (Value.ref (b + o) :: []).toArray) X1.warmed (good_of_word (rs_tbl_good hw)) (hts w hw), c6, (name_of_methodNamed hnamed c1).1, kamb_at (U := (T.setVm vm1).calling (F0 m pc lsM (r.map (kcv b))) mk (Value.ref (b + o) :: []).toArray) hamb X1.warmed⟩ (Nat.le_refl _) (Nat.le_refl _) (by omega) (by omega) (Nat.le_refl _) (Nat.le_refl _) hrel (by
                        show va_S _ (T.setVm vm1).heap H []
                        rw [hUH]
                        exact va_S.rf) (by show b ≤ (T.setVm vm1).heap.size; rw [hUH]; exact hbH) (fun v hv => by cases hv) ⟨hl.1, hl.2.1, fun i v hv => by
                        cases i with
                        | zero =>
                          cases hv
                          exact ⟨trivial, k8, hl.2.2 (0, _) List.mem_cons_self⟩
                        | succ i =>
                          exfalso
                          have : rs_nth (List.replicate (kc_mx nu - 1) (none : Option kc_V)) i = some (some v) := hv
                          exact kc_nth_rep _ _ _ this⟩ _ (by rw [← hUH]; rfl) Xc
                  have hst2 : Steps p.tables e below (doInvoke e ((T.setVm vm1).setTop (F0 m pc lsM (r.map (kcv b)))) [] mk (Value.ref (b + o) :: []).toArray).1 t := by
                    have e9 : entryFrame mk (Value.ref (b + o) :: []).toArray ck.maxLocals = F0 mk 0 ((lg_sl [Value.ref (b + o)] ++ List.replicate (kc_mx nu - (lg_sl [Value.ref (b + o)]).length) Slot.unset).toArray) [] := by rw [c4, lg_entry_eq]
                    have h9 := rs_weaken hst
                    rw [hent]
                    generalize ((T.setVm vm1).setTop (F0 m pc lsM (r.map (kcv b)))).pushFrame (.java (entryFrame mk (Value.ref (b + o) :: []).toArray ck.maxLocals)) = V at h9 ⊢
                    rw [e9]
                    exact h9
                  have hFz : H.size ≤ t.heap.size := by
                    have := hF1.1
                    rw [show ((T.setVm vm1).calling (F0 m pc lsM (r.map (kcv b))) mk (Value.ref (b + o) :: []).toArray).heap = H from hUH] at this
                    exact this
                  have hFq : ∀ q : Nat, q < H.size → ¬ b ≤ q → t.heap[q]? = H[q]? := by
                    have := hF1.2
                    rw [show ((T.setVm vm1).calling (F0 m pc lsM (r.map (kcv b))) mk (Value.ref (b + o) :: []).toArray).heap = H from hUH] at this
                    exact this
                  have hSt2 : va_S (fun q => b ≤ q) s.heap t.heap (locs ++ L') := ⟨Nat.le_trans hS.1 hFz, fun q g1 g2 => by rw [hFq q (Nat.lt_of_lt_of_le g1 hS.1) g2]; exact hS.2.1 q g1 g2, fun q hq => by
                    rcases List.mem_append.mp hq with g | g
                    · exact hS.2.2 q g
                    · exact hL' q g⟩
                  obtain ⟨T', X', -, -, e1⟩ := X1.outOf (g := F0 m pc lsM (r.map (kcv b))) rfl (by rw [hb]; exact hd) hend hW' hsame
                  have hh : T'.heap = t.heap := by rw [e1]; rfl
                  obtain ⟨t2, a1, b1⟩ := ih _ _ _ _ _ _ h2 hc9 p e R s m args below meth cd t.heap (locs ++ L') (cells + (gm.length - g.length)) (slots + (ksl gm - ksl g)) Ct St lsM hc hfr hlo (by omega) (by omega) hCt hSt hrelJ hSt2 hbs o2 hlk T' hh X'
                  refine ⟨t2, hstep t2 (fun acts => ?_), b1⟩
                  rw [doInvoke_state]
                  refine hst2.trans ?_
                  rw [e1]
                  exact a1
                · cases h2
              · cases h2
          · cases h2
        · cases h2
      · cases h2
    | return_ =>
      unfold kc_ins at h2
      dsimp only at h2
      split at h2
      · rename_i h1
        obtain ⟨rfl, rfl⟩ := h1
        cases h2
        have e1 : cells = Ct := by omega
        have e2 : slots = St := by omega
        subst e1; subst e2
        refine rs_Wm (Q := MQ below (fun _ st oc t => oc = .returned none ∧ kr D ca b g t.heap ∧ va_F (fun q => b ≤ q) st t) args s cells slots (fun q => b ≤ q)) ?_ (W.vret hx hb hr (fun t ht hW => ⟨rfl, by rw [ht]; exact hrel, hS.F ht⟩) hS.2.2 hd hlocks)
        rintro t ⟨o, q1, q2, ⟨rfl, q3, q4⟩, L', q5, q6⟩
        exact ⟨q1, q2, q3, q4, L', q5.2, q6⟩
      · cases h2
    | _ => cases h2
