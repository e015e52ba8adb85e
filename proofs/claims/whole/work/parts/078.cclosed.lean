section KCA
variable {l : Launch} {D : va_G} {ca : Nat → ClassId} {b : Nat} {p : Program} {e : Env} {R : Room} {s : State} {m : MethodId} {args : Array Value} {below : List Frame} {meth : Method} {cd : Code} {H H1 : Heap} {locs : List Loc} {cells slots : Nat} {g g' : kc_G}
theorem kr_push {x : Nat × Nat × List (Option Nat)} (h : kr D ca b g H) (h1 : ∀ q : Nat, q < H.size → H1[q]? = H[q]?) (hz : H1.size = H.size + 1) (hx : va_at D rs_cls (b + g.length, ke ca b x) H1) : kr D ca b (g ++ [x]) H1 := by
  refine ⟨?_, by rw [hz, h.2, List.length_append]; simp; omega⟩
  rw [kw_push]
  refine (h.1.kept (fun k q hk => h1 q.1 (h.1 k q hk).lt)).app (fun k q hk => ?_)
  have hz : k < 1 := (List.getElem?_eq_some_iff.mp hk).1
  rw [show k = 0 by omega] at hk
  cases hk
  exact hx
theorem kS_push (hS : va_S (fun q => b ≤ q) s.heap H locs) (h1 : ∀ q : Nat, q < H.size → H1[q]? = H[q]?) (hz : H1.size = H.size + 1) : va_S (fun q => b ≤ q) s.heap H1 locs :=
  ⟨Nat.le_trans hS.1 (by omega), fun q g1 g2 => (h1 q (Nat.lt_of_lt_of_le g1 hS.1)).trans (hS.2.1 q g1 g2), hS.2.2⟩
theorem kc_tysR {t : Nat} (h1 : 5 ≤ t) (h2 : t ≤ 8) : (rs_tys ca)[t - 2]? = some (ca (t - 2), .object (rs_on (kc_ec t))) := by
  rcases (show t = 5 ∨ t = 6 ∨ t = 7 ∨ t = 8 by omega) with e | e | e | e <;> subst e <;> rfl
theorem kc_at_ec {ci : Nat} (h : 5 ≤ kc_at ci) : kc_at ci ≤ 8 ∧ kc_ec (kc_at ci) = ci ∧ rs_on ci ∈ [rs_an3, rs_an4, rs_an5, rs_an6] := by
  unfold kc_at at h ⊢
  split at h <;> first | (exact ⟨by decide, rfl, by decide⟩) | omega
theorem ke_r {t n : Nat} {fs : List (Option Nat)} (h : 5 ≤ t) : ke ca b (t, n, fs) = .inl (ca (t - 2), n, .inr (.inr (.inr (.inr (fun j => (fs.getD j none).map (fun r => b + r)))))) := by
  obtain ⟨k, rfl⟩ : ∃ k, t = k + 5 := ⟨t - 5, by omega⟩
  rfl
end KCA
set_option maxHeartbeats 8000000 in
set_option maxRecDepth 100000 in
theorem kc_snd (l : Launch) (D : va_G) (ca : Nat → ClassId) (b : Nat) : ∀ (n c pc : Nat) (ls : List (Option kc_V)) (st : List kc_V) (g g' : kc_G), kc n c pc ls st g = some g' → c < 9 → ∀ (p : Program) (e : Env) (R : Room) (s : State) (m : MethodId) (args : Array Value) (below : List Frame) (meth : Method) (cd : Code) (H : Heap) (locs : List Loc) (cells slots Ct St : Nat) (lsM : Array Slot),
    kcx D ca c p s m args meth cd → kc_dep c ≤ R.frames → 64 * kc_dep c ≤ R.locals → cells + g'.length = Ct + g.length → slots + ksl g' = St + ksl g → Ct ≤ R.cells → St ≤ R.slots → kr D ca b g H → va_S (fun q => b ≤ q) s.heap H locs → b ≤ s.heap.size → (∀ v ∈ st, kok v) → klok c b ls lsM →
    W p l e R s m args below meth cd H locs cells slots (kcQ D ca b g' below s Ct St) (F0 m pc lsM (st.map (kcv b))) := by
  intro n
  induction n with
  | zero => intro c pc ls st g g' h; cases h
  | succ n ih =>
    intro c pc ls st g g' h hc9 p e R s m args below meth cd H locs cells slots Ct St lsM hc hfr hlo hce hsl hCt hSt hrel hS hbs hok hlk
    obtain ⟨hx, hb, hr, hml, hown, hts, hlocks, hin, hamb⟩ := id hc
    obtain ⟨hK, hnest, hAO⟩ := id hamb
    have hP := hrel.1
    have hDD := kw_D ca b g
    have hlv := klok_has hlk
    have h2 : (match decode (kc_cd c) pc with
      | .ok (ins, ln) => kc_ins (kc n) c pc ls st g ln ins
      | .error _ => none) = some g' := h
    have hbH : b ≤ H.size := Nat.le_trans hbs hS.1
    cases hd : decode (kc_cd c) pc with
    | error _ => rw [hd] at h2; cases h2
    | ok q =>
    obtain ⟨ins, ln⟩ := q
    rw [hd] at h2
    dsimp only at h2
    have go : ∀ {pc' : Nat} {st' : List kc_V}, kc n c pc' ls st' g = some g' → (∀ v ∈ st', kok v) → W p l e R s m args below meth cd H locs cells slots (kcQ D ca b g' below s Ct St) (F0 m pc' lsM (st'.map (kcv b))) := fun h ho => ih _ _ _ _ _ _ h hc9 p e R s m args below meth cd H locs cells slots Ct St lsM hc hfr hlo hce hsl hCt hSt hrel hS hbs ho hlk
    have goS : ∀ {pc' : Nat} {st' : List kc_V} {i : Nat} {v : kc_V} {ls' : Array Slot}, kc n c pc' (rs_st ls i (some v)) st' g = some g' → i < kc_mx c → kok v → (∀ v ∈ st', kok v) → lv_has ls' (kc_mx c) ((i, kcv b v) :: (kprs c b ls).filter (fun q => !(q.1 == i) && !(q.1 + 1 == i && q.2.category == 2))) → W p l e R s m args below meth cd H locs cells slots (kcQ D ca b g' below s Ct St) (F0 m pc' ls' (st'.map (kcv b))) := fun h hi hv ho h' => ih _ _ _ _ _ _ h hc9 p e R s m args below meth cd H locs cells slots Ct St _ hc hfr hlo hce hsl hCt hSt hrel hS hbs ho (klok_st hlk hi hv h')
    have goM : ∀ {pc' : Nat} {st' : List kc_V} {gm : kc_G} {H1 : Heap} {locs1 : List Loc}, kc n c pc' ls st' gm = some g' → gm.length = g.length → ksl gm = ksl g → kr D ca b gm H1 → va_S (fun q => b ≤ q) s.heap H1 locs1 → (∀ v ∈ st', kok v) → W p l e R s m args below meth cd H1 locs1 cells slots (kcQ D ca b g' below s Ct St) (F0 m pc' lsM (st'.map (kcv b))) := fun h h1 h2 h3 h4 ho => ih _ _ _ _ _ _ h hc9 p e R s m args below meth cd _ _ cells slots Ct St lsM hc hfr hlo (by omega) (by omega) hCt hSt h3 h4 hbs ho hlk
    have goN : ∀ {pc' : Nat} {st' : List kc_V} {x : Nat × Nat × List (Option Nat)} {H1 : Heap}, kc n c pc' ls st' (g ++ [x]) = some g' → (∀ q : Nat, q < H.size → H1[q]? = H[q]?) → H1.size = H.size + 1 → va_at D rs_cls (b + g.length, ke ca b x) H1 → (∀ v ∈ st', kok v) → W p l e R s m args below meth cd H1 locs (cells + 1) (slots + ksz x) (kcQ D ca b g' below s Ct St) (F0 m pc' lsM (st'.map (kcv b))) := fun h h1 h2 h3 ho => ih _ _ _ _ _ _ h hc9 p e R s m args below meth cd _ _ (cells + 1) (slots + _) Ct St lsM hc hfr hlo (by rw [List.length_append]; simp; omega) (by rw [ksl_app]; omega) hCt hSt (kr_push hrel h1 h2 h3) (kS_push hS h1 h2) hbs ho hlk
    have okt : ∀ {v : kc_V} {st : List kc_V}, (∀ w ∈ v :: st, kok w) → kok v ∧ ∀ w ∈ st, kok w := fun h => ⟨h _ List.mem_cons_self, fun w hw => h w (List.mem_cons_of_mem _ hw)⟩
    have okc : ∀ {v : kc_V} {st : List kc_V}, kok v → (∀ w ∈ st, kok w) → ∀ w ∈ v :: st, kok w := fun h hs w hw => by
      rcases List.mem_cons.mp hw with e | e
      · rw [e]; exact h
      · exact hs w e
    have tg : ∀ {off : Int}, 0 ≤ (pc : Int) + off → (pc : Int) + off = ((((pc : Int) + off).toNat : Nat) : Int) := fun h => (Int.toNat_of_nonneg h).symm
    have RR : ∀ {z : Int}, -1000 ≤ z → z ≤ 1000 → rs_R z := fun h1 h2 => by unfold rs_R; omega
    cases ins with
    | aload_n i =>
      unfold kc_ins at h2
      dsimp only at h2
      split at h2
      · split at h2
        · rename_i h1 _ o ho
          subst h1
          exact lv_aload_n hx hb hd rfl (hlk.2.2 _ _ ho).2.2 (go h2 (okc trivial hok))
        · cases h2
      · cases h2
    | iload_n i =>
      unfold kc_ins at h2
      dsimp only at h2
      split at h2
      · split at h2
        · rename_i h1 _ o ho
          subst h1
          exact lv_iload_n hx hb hd rfl (hlk.2.2 _ _ ho).2.2 (go h2 (okc (hlk.2.2 _ _ ho).1 hok))
        · cases h2
      · cases h2
    | istore_n i =>
      unfold kc_ins at h2
      dsimp only at h2
      split at h2
      · split at h2
        · rename_i h1 _ z r
          obtain ⟨rfl, hi⟩ := h1
          exact lv_istore_n hx hb hd rfl hlv hi rfl (fun ls' h' => goS h2 hi (okt hok).1 (okt hok).2 h')
        · cases h2
      · cases h2
    | iconst z =>
      unfold kc_ins at h2
      dsimp only at h2
      split at h2
      · rename_i h1
        obtain ⟨rfl, hz⟩ := h1
        exact lv_iconst hx hb hd rfl (go h2 (okc (RR (by omega) (by omega)) hok))
      · cases h2
    | bipush z =>
      unfold kc_ins at h2
      dsimp only at h2
      split at h2
      · rename_i h1
        obtain ⟨rfl, hz⟩ := h1
        refine lv_bipush (v := Int32.ofInt z) hx hb hd ?_ (go h2 (okc (RR (by omega) (by omega)) hok))
        rw [← Int32.toInt_inj, Int8.toInt_toInt32, rs_ti (RR (by omega) (by omega))]
        exact Int8.toInt_ofInt_of_le (by omega) (by omega)
      · cases h2
    | dup =>
      unfold kc_ins at h2
      dsimp only at h2
      split at h2
      · split at h2
        · rename_i h1 _ o r
          subst h1
          exact lv_dup hx hb hd rfl (go h2 (okc trivial (okc trivial (okt hok).2)))
        · cases h2
      · cases h2
    | new i =>
      unfold kc_ins at h2
      dsimp only at h2
      split at h2
      · split at h2
        · split at h2
          · rename_i h1 _ ci hcl hci
            subst h1
            obtain ⟨l1, -⟩ := kc_cl_ok hcl
            obtain ⟨o1, o2, o3, o4, o5, o6, o7, o8, o9⟩ := kc_ok hci
            have hKn := hK.1 ci _ (rs_cls_at hci)
            have hm := kc_mono _ _ _ _ _ _ _ h2
            rw [List.length_append, ksl_app] at hm
            have hm1 : g.length + 1 ≤ g'.length := by have := hm.1; simp at this; omega
            have hm2 : ksl g + (rs_cl ci).2.2 ≤ ksl g' := hm.2
            refine W.newcK hx hb hown (hts _ l1) (hts _ o3) (hts _ o1) rfl hd (by omega) (by omega) (by rw [← o6]; exact hKn.2.1) hrel.2 (fun H1 kC hkC e1 z1 q1 => ?_)
            exact goN (x := (1, ci, List.replicate (rs_cl ci).2.2 none)) h2 (fun q hq => q1 q (by rw [← hrel.2]; exact hq)) (by rw [z1, hrel.2]) ⟨_, rs_cls_at hci, (u_born (rs_ty ci) hts (rs_cw_in hci) hKn hkC e1 (rs_ty_ok ci hci).1).to (fun j hj => by
              rw [kc_dflt ci hci j hj]
              show _ = vp_V (kf b ci _) j
              unfold vp_V
              rw [List.getD_eq_getElem?_getD, kf_at hj]
              have e9 : ((List.replicate (rs_cl ci).2.2 (none : Option Nat)).getD j none) = none := by
                rw [List.getD_eq_getElem?_getD, List.getElem?_replicate]
                split <;> rfl
              rw [e9]
              split <;> rfl)⟩ (okc trivial hok)
          · cases h2
        · cases h2
      · cases h2
    | newarray t => sorry
    | anewarray i => sorry
    | putfield i => sorry
    | getfield i => sorry
    | aastore => sorry
    | iinc i z =>
      unfold kc_ins at h2
      dsimp only at h2
      split at h2
      · split at h2
        · split at h2
          · rename_i h1 _ x hx1 h3
            obtain ⟨rfl, hi⟩ := h1
            have hm : (i, kcv b (.inl x)) ∈ kprs c b ls := List.mem_filterMap.mpr ⟨i, List.mem_range.mpr hi, by rw [hx1]⟩
            obtain ⟨k, hk⟩ := List.getElem?_of_mem hm
            exact lv_iinc (k := k) (x := Int32.ofInt x) hx hb hd hlv hk (Int32.ofInt_add x z).symm hi rfl (fun ls' h' => goS h2 hi (RR h3.1 h3.2) hok h')
          · cases h2
        · cases h2
      · cases h2
    | if_icmp q off =>
      unfold kc_ins at h2
      dsimp only at h2
      split at h2
      · split at h2
        · rename_i h1 _ y x r
          obtain ⟨rfl, h0⟩ := h1
          obtain ⟨o1, o2⟩ := okt hok
          obtain ⟨o2, o3⟩ := okt o2
          refine rs_br2 hx hb o2 o1 hd (tg h0) (fun gg => ?_) (fun gg => ?_)
          · rw [if_pos (kc_cnd_iff.mpr gg)] at h2
            exact go h2 o3
          · rw [if_neg (fun z => gg (kc_cnd_iff.mp z))] at h2
            exact go h2 o3
        · cases h2
      · cases h2
    | goto off =>
      unfold kc_ins at h2
      dsimp only at h2
      split at h2
      · rename_i h1
        obtain ⟨rfl, h0⟩ := h1
        exact lv_goto hx hb hd (tg h0) (go h2 hok)
      · cases h2
    | invokespecial i => sorry
    | return_ =>
      unfold kc_ins at h2
      dsimp only at h2
      split at h2
      · rename_i h1
        obtain ⟨rfl, rfl⟩ := h1
        cases h2
        have e1 : cells = Ct := by omega
        have e2 : slots = St := by omega
        subst e1; subst e2
        refine rs_Wm (Q := MQ below (fun _ st oc t => oc = .returned none ∧ kr D ca b g t.heap ∧ va_F (fun q => b ≤ q) st t) args s cells slots (fun q => b ≤ q)) ?_ (W.vret hx hb hr (fun t ht hW => ⟨rfl, by rw [ht]; exact hrel, hS.F ht⟩) hS.2.2 hd hlocks)
        rintro t ⟨o, q1, q2, ⟨rfl, q3, q4⟩, L', q5, q6⟩
        exact ⟨q1, q2, q3, q4, L', q5.2, q6⟩
      · cases h2
    | _ => cases h2
