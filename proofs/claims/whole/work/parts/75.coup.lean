/-! ===== the class's state and the reference's, side by side ===== -/
def c_n (I : rs_M) (n : Nat) : Prop := n ≤ 10 ∧ I 1 6 = (n : Int) ∧ I 88 1 = (n : Int)
def c_first (I : rs_M) (n : Nat) : Prop := (∀ j, j < 10 → -100 ≤ I 3 j ∧ I 3 j ≤ I 4 j ∧ I 4 j ≤ 100) ∧ ∀ j, j < n → I 89 j = I 3 j ∧ I 90 j = I 4 j
def c_rel (I : rs_M) (n : Nat) : Prop := (0 ≤ I 6 2 ∧ I 6 2 ≤ 12) ∧ I 88 4 = I 6 2 ∧ ∀ r, r < (I 6 2).toNat → nt_ok n (I (12 + r) 0) (I (12 + r) 1) (I (12 + r) 2) (I (12 + r) 3) (I (12 + r) 4) ∧ I 91 r = I (12 + r) 0 ∧ I 92 r = I (12 + r) 1 ∧ I 93 r = I (12 + r) 2 ∧ I 94 r = I (12 + r) 3 ∧ I 95 r = I (12 + r) 5
def c_tab (I : rs_M) : Prop := ∀ t, t < 3 → (0 ≤ I (24 + 3 * t) 2 ∧ I (24 + 3 * t) 2 ≤ 10) ∧ I 96 t = I (24 + 3 * t) 2 ∧ ∀ r, r < (I (24 + 3 * t) 2).toNat → I 97 (10 * t + r) = I (24 + 3 * t + 1) r ∧ I 98 (10 * t + r) = I (24 + 3 * t + 2) r
def c_ent (I : rs_M) (n : Nat) : Prop := (0 ≤ I 1 7 ∧ I 1 7 ≤ 12) ∧ I 88 13 = I 1 7 ∧ ∀ e, e < (I 1 7).toNat → ((0 ≤ I (76 + e) 0 ∧ I (76 + e) 0 < n) ∧ -100 ≤ I (76 + e) 1 ∧ I (76 + e) 1 ≤ I (76 + e) 2 ∧ I (76 + e) 2 ≤ 100) ∧ I 99 e = I (76 + e) 0 ∧ I 100 e = I (76 + e) 1 ∧ I 101 e = I (76 + e) 2 ∧ (I (76 + e) 3 = 0 ∨ I (76 + e) 3 = 1)
def c_frc (I : rs_M) : Prop := I 88 17 = ((rg_ef I (I 1 7).toNat : Nat) : Int)
def c_lat (I : rs_M) : Prop := (0 ≤ I 1 8 ∧ I 1 8 ≤ 10) ∧ I 88 28 = I 1 8 ∧ ∀ k, k < (I 1 8).toNat → I 105 k = I 71 k ∧ I 106 k = I 72 k
def c_set (I : rs_M) : Prop := ∃ sc : Nat, sc ≤ 10 ∧ I 33 2 = (sc : Int) ∧ I 88 32 = (sc : Int) ∧ ∀ j, j < sc → I 107 j = I 35 j ∧ -100 ≤ I 35 j ∧ I 35 j ≤ 100
def c_stp (I : rs_M) : Prop := I 88 31 = I 33 3
def c_cfg (I : rs_M) (n : Nat) : Prop := c_n I n ∧ c_first I n ∧ c_rel I n ∧ c_tab I ∧ c_ent I n ∧ c_frc I
def ci (L : Nat) (xs : Nat → Int32) (I : rs_M) : Prop := (∀ j, I 0 j = rs_ini L xs 0 j) ∧ (∃ n, c_cfg I n) ∧ c_lat I ∧ c_set I ∧ c_stp I
theorem ci_cl {I : rs_M} {n : Nat} (h : c_cfg I n) : cl_ok I n := by
  obtain ⟨⟨n1, n2, n3⟩, ⟨f1, f2⟩, ⟨r1, r2, r3⟩, t, ⟨e1, e2, e3⟩, _⟩ := h
  exact ⟨⟨n1, r1, fun r hr => (r3 r hr).1, fun k hk => (t k hk).1⟩, n2, e1, fun e he => (e3 e he).1, f1⟩
theorem ci_mo {I : rs_M} {n : Nat} (h : c_cfg I n) : mo_ok I n := by
  obtain ⟨⟨n1, n2, n3⟩, ⟨f1, f2⟩, ⟨r1, r2, r3⟩, t, ⟨e1, e2, e3⟩, _⟩ := h
  refine ⟨⟨n1, by rw [r2]; exact r1, fun r hr => ?_, fun k hk => ?_⟩, n3, by rw [e2]; exact e1, fun e he => ?_, fun j hj => ?_⟩
  · rw [r2] at hr
    obtain ⟨a, b, c, d, e, _⟩ := r3 r hr
    rw [b, c, d, e]
    exact ⟨rfl, a.2⟩
  · rw [(t k hk).2.1]
    exact (t k hk).1
  · rw [e2] at he
    obtain ⟨a, b, c, d, _⟩ := e3 e he
    rw [b, c, d]
    exact a
  · rw [(f2 j hj).1, (f2 j hj).2]
    exact f1 j (by omega)
theorem ci_f {I : rs_M} {n : Nat} (h : c_cfg I n) : rg_ef I (I 1 7).toNat < 4096 ∧ I 88 17 = ((rg_ef I (I 1 7).toNat : Nat) : Int) := ⟨rg_ef_b h.2.2.2.2.1.1, h.2.2.2.2.2⟩
theorem tb_cg {X Y X' Y' : Nat → Int} {n : Nat} (h : ∀ r, r < n → X' r = X r ∧ Y' r = Y r) (u v : Int) : tb_D X' Y' n u v ↔ tb_D X Y n u v := by
  constructor
  · rintro ⟨r, a, b, c⟩
    exact ⟨r, a, by rw [← (h r a).1]; exact b, by rw [← (h r a).2]; exact c⟩
  · rintro ⟨r, a, b, c⟩
    exact ⟨r, a, by rw [(h r a).1]; exact b, by rw [(h r a).2]; exact c⟩
theorem ci_T {I : rs_M} {t : Nat} (h : c_tab I) (ht : t < 3) (u v : Int) : mt_T I (t : Int) u v ↔ nt_T I (t : Int) u v := by
  obtain ⟨a, b, c⟩ := h t ht
  unfold mt_T nt_T
  rw [Int.toNat_natCast, b]
  exact tb_cg (fun r hr => c r hr) u v
theorem ci_G {I : rs_M} {n : Nat} (h : c_rel I n) (ht : c_tab I) : mt_G I = nt_G I ∧ ∀ r, nt_G I r → mt_S I r = nt_S I r ∧ mt_Q I r = nt_Q I r := by
  obtain ⟨r1, r2, r3⟩ := h
  refine ⟨funext fun r => ?_, fun r hr => ?_⟩
  · unfold mt_G nt_G
    rw [r2]
    refine propext (and_congr_right fun g => ?_)
    rw [(r3 r g).2.2.2.2.2]
  · obtain ⟨a, b, c, d, e, _⟩ := r3 r hr.1
    unfold mt_S nt_S mt_Q nt_Q
    rw [b, c, d, e]
    refine ⟨rfl, ?_⟩
    by_cases k8 : I (12 + r) 0 = 8
    · have hc : 0 ≤ I (12 + r) 3 ∧ I (12 + r) 3 < 3 := by
        rcases a.2 with g | g | g | g
        · omega
        · omega
        · exact g.2.2.2
        · omega
      rw [k8, bx_Q8, bx_Q8]
      funext x
      have := ci_T ht (t := (I (12 + r) 3).toNat) (by omega) (x (I (12 + r) 1).toNat) (x (I (12 + r) 2).toNat)
      rw [show (((I (12 + r) 3).toNat : Nat) : Int) = I (12 + r) 3 by omega] at this
      exact propext this
    · funext x
      unfold bx_Q
      rw [if_neg k8, if_neg k8]
theorem ci_A {I : rs_M} {n : Nat} (h : c_cfg I n) : bx_all n (mt_G I) (mt_S I) (mt_Q I) = bx_all n (nt_G I) (nt_S I) (nt_Q I) := by
  obtain ⟨g1, g2⟩ := ci_G h.2.2.1 h.2.2.2.1
  funext l k
  exact propext (bx_all_cg g1 g2 l k)
theorem ci_ly {I : rs_M} {n : Nat} (h : c_cfg I n) (m j : Nat) (hj : j < n) : mo_lo I m j = cl_lo I m j ∧ mo_hi I m j = cl_hi I m j := by
  obtain ⟨_, ⟨f1, f2⟩, _, _, ⟨e1, e2, e3⟩, _⟩ := h
  unfold mo_lo mo_hi cl_lo cl_hi
  rw [e2]
  exact ⟨(ly_cg (f2 j hj).1 _ (fun e he => ⟨(e3 e he).2.1, (e3 e he).2.2.1⟩)).1, (ly_cg (f2 j hj).2 _ (fun e he => ⟨(e3 e he).2.1, (e3 e he).2.2.2.1⟩)).2⟩
theorem ci_fx {I : rs_M} {n : Nat} (h : c_cfg I n) {m : Nat} {a b : Nat → Int} : bx_fix n (mt_G I) (mt_S I) (mt_Q I) (mo_lo I m) (mo_hi I m) a b ↔ bx_fix n (nt_G I) (nt_S I) (nt_Q I) (cl_lo I m) (cl_hi I m) a b := by
  obtain ⟨g1, g2⟩ := ci_G h.2.2.1 h.2.2.2.1
  have Sn := nt_Sn (ci_cl h).1
  rw [bx_fix_cg (fun l k => bx_all_cg (n := n) g1 g2 l k)]
  exact ⟨fun g => bx_fix_eq Sn (fun j hj => ⟨(ci_ly h m j hj).1.symm, (ci_ly h m j hj).2.symm⟩) (fun _ _ => ⟨rfl, rfl⟩) g, fun g => bx_fix_eq Sn (fun j hj => ci_ly h m j hj) (fun _ _ => ⟨rfl, rfl⟩) g⟩
theorem ci_br {I : rs_M} {n : Nat} (h : c_cfg I n) {m : Nat} : bx_brk n (mt_G I) (mt_S I) (mt_Q I) (mo_lo I m) (mo_hi I m) ↔ bx_brk n (nt_G I) (nt_S I) (nt_Q I) (cl_lo I m) (cl_hi I m) := by
  obtain ⟨g1, g2⟩ := ci_G h.2.2.1 h.2.2.2.1
  rw [bx_brk_cg (fun l k => bx_all_cg (n := n) g1 g2 l k)]
  exact ⟨fun g => bx_brk_eq (fun j hj => ⟨(ci_ly h m j hj).1.symm, (ci_ly h m j hj).2.symm⟩) g, fun g => bx_brk_eq (fun j hj => ci_ly h m j hj) g⟩
/-- the configuration reads these alone -/
def c_at (a j : Nat) : Prop := (a < 9 ∨ 11 < a) ∧ (a < 33 ∨ 75 < a) ∧ a < 102 ∧ (a = 1 → j ≠ 8) ∧ (a = 88 → j = 1 ∨ j = 4 ∨ j = 13 ∨ j = 17)
theorem rg_ef_cg {I J : rs_M} : ∀ k, (∀ e, e < k → J (76 + e) 3 = I (76 + e) 3) → rg_ef J k = rg_ef I k
  | 0, _ => rfl
  | k + 1, h => by
    unfold rg_ef
    rw [rg_ef_cg k (fun e he => h e (by omega)), h k (by omega)]
theorem c_cfg_fr {I J : rs_M} {n : Nat} (f : ∀ a j, c_at a j → J a j = I a j) (h : c_cfg I n) : c_cfg J n := by
  obtain ⟨⟨n1, n2, n3⟩, ⟨f1, f2⟩, ⟨r1, r2, r3⟩, t, ⟨e1, e2, e3⟩, fr⟩ := h
  have g : ∀ a j, (a < 9 ∨ 11 < a) → (a < 33 ∨ 75 < a) → a < 102 → a ≠ 1 → a ≠ 88 → J a j = I a j := fun a j h1 h2 h3 h4 h5 => f a j ⟨h1, h2, h3, fun q => absurd q h4, fun q => absurd q h5⟩
  have k16 : J 1 6 = I 1 6 := f _ _ ⟨by omega, by omega, by omega, by omega, by omega⟩
  have k17 : J 1 7 = I 1 7 := f _ _ ⟨by omega, by omega, by omega, by omega, by omega⟩
  have k881 : J 88 1 = I 88 1 := f _ _ ⟨by omega, by omega, by omega, by omega, by omega⟩
  have k884 : J 88 4 = I 88 4 := f _ _ ⟨by omega, by omega, by omega, by omega, by omega⟩
  have k8813 : J 88 13 = I 88 13 := f _ _ ⟨by omega, by omega, by omega, by omega, by omega⟩
  have k8817 : J 88 17 = I 88 17 := f _ _ ⟨by omega, by omega, by omega, by omega, by omega⟩
  have k6 : J 6 2 = I 6 2 := g _ _ (by omega) (by omega) (by omega) (by omega) (by omega)
  refine ⟨⟨n1, by rw [k16]; exact n2, by rw [k881]; exact n3⟩, ⟨fun j hj => ?_, fun j hj => ?_⟩, ⟨by rw [k6]; exact r1, by rw [k884, k6]; exact r2, fun r hr => ?_⟩, fun k hk => ?_, ⟨by rw [k17]; exact e1, by rw [k8813, k17]; exact e2, fun e he => ?_⟩, ?_⟩
  · rw [g 3 j (by omega) (by omega) (by omega) (by omega) (by omega), g 4 j (by omega) (by omega) (by omega) (by omega) (by omega)]
    exact f1 j hj
  · rw [g 3 j (by omega) (by omega) (by omega) (by omega) (by omega), g 4 j (by omega) (by omega) (by omega) (by omega) (by omega), g 89 j (by omega) (by omega) (by omega) (by omega) (by omega), g 90 j (by omega) (by omega) (by omega) (by omega) (by omega)]
    exact f2 j hj
  · rw [k6] at hr
    have z : ∀ j, J (12 + r) j = I (12 + r) j := fun j => g _ _ (by omega) (by omega) (by omega) (by omega) (by omega)
    rw [z, z, z, z, z, z, g 91 r (by omega) (by omega) (by omega) (by omega) (by omega), g 92 r (by omega) (by omega) (by omega) (by omega) (by omega), g 93 r (by omega) (by omega) (by omega) (by omega) (by omega), g 94 r (by omega) (by omega) (by omega) (by omega) (by omega), g 95 r (by omega) (by omega) (by omega) (by omega) (by omega)]
    exact r3 r hr
  · have z : ∀ j, J (24 + 3 * k) j = I (24 + 3 * k) j := fun j => g _ _ (by omega) (by omega) (by omega) (by omega) (by omega)
    have z1 : ∀ j, J (24 + 3 * k + 1) j = I (24 + 3 * k + 1) j := fun j => g _ _ (by omega) (by omega) (by omega) (by omega) (by omega)
    have z2 : ∀ j, J (24 + 3 * k + 2) j = I (24 + 3 * k + 2) j := fun j => g _ _ (by omega) (by omega) (by omega) (by omega) (by omega)
    obtain ⟨a, b, c⟩ := t k hk
    refine ⟨by rw [z]; exact a, by rw [z, g 96 k (by omega) (by omega) (by omega) (by omega) (by omega)]; exact b, fun r hr => ?_⟩
    rw [z] at hr
    rw [z1, z2, g 97 _ (by omega) (by omega) (by omega) (by omega) (by omega), g 98 _ (by omega) (by omega) (by omega) (by omega) (by omega)]
    exact c r hr
  · rw [k17] at he
    have z : ∀ j, J (76 + e) j = I (76 + e) j := fun j => g _ _ (by omega) (by omega) (by omega) (by omega) (by omega)
    rw [z, z, z, z, g 99 e (by omega) (by omega) (by omega) (by omega) (by omega), g 100 e (by omega) (by omega) (by omega) (by omega) (by omega), g 101 e (by omega) (by omega) (by omega) (by omega) (by omega)]
    exact e3 e he
  · show J 88 17 = _
    rw [k8817, k17, rg_ef_cg _ (fun e he => g (76 + e) 3 (by omega) (by omega) (by omega) (by omega) (by omega))]
    exact fr
theorem c_lat_fr {I J : rs_M} (h8 : J 1 8 = I 1 8) (h28 : J 88 28 = I 88 28) (h1 : ∀ j, J 71 j = I 71 j) (h2 : ∀ j, J 72 j = I 72 j) (h3 : ∀ j, J 105 j = I 105 j) (h4 : ∀ j, J 106 j = I 106 j) (h : c_lat I) : c_lat J := by
  obtain ⟨a, b, c⟩ := h
  refine ⟨by rw [h8]; exact a, by rw [h8, h28]; exact b, fun k hk => ?_⟩
  rw [h8] at hk
  rw [h1, h2, h3, h4]
  exact c k hk
theorem c_set_fr {I J : rs_M} (h1 : J 33 2 = I 33 2) (h2 : J 88 32 = I 88 32) (h3 : ∀ j, J 35 j = I 35 j) (h4 : ∀ j, J 107 j = I 107 j) (h : c_set I) : c_set J := by
  obtain ⟨sc, a, b, c, d⟩ := h
  refine ⟨sc, a, by rw [h1]; exact b, by rw [h2]; exact c, fun j hj => ?_⟩
  rw [h3, h4]
  exact d j hj
theorem c_stp_fr {I J : rs_M} (h1 : J 33 3 = I 33 3) (h2 : J 88 31 = I 88 31) (h : c_stp I) : c_stp J := by
  show J 88 31 = J 33 3
  rw [h1, h2]
  exact h
/-- what a call that only writes thrown, or the box of answers, keeps -/
theorem ci_up {L : Nat} {xs : Nat → Int32} {I : rs_M} {a k : Nat} {v : Int} (ha : (a = 88 ∧ k = 0) ∨ a = 110) (h : ci L xs I) : ci L xs (rs_up I a k v) := by
  obtain ⟨h0, ⟨n, hc⟩, hl, hs, hp⟩ := h
  have o : ∀ b j, (b = 88 → j ≠ 0) → b ≠ 110 → rs_up I a k v b j = I b j := fun b j h1 h2 => by
    rw [rs_up_at, if_neg (fun g => by
      rcases ha with q | q
      · exact h1 (by omega) (by omega)
      · omega)]
  refine ⟨fun j => by rw [o 0 j (by omega) (by omega)]; exact h0 j, ⟨n, c_cfg_fr (fun b j hb => o b j (fun q => by have := hb.2.2.2.2 q; omega) (by have := hb.2.2.1; omega)) hc⟩, c_lat_fr (o _ _ (by omega) (by omega)) (o _ _ (by omega) (by omega)) (fun j => o _ _ (by omega) (by omega)) (fun j => o _ _ (by omega) (by omega)) (fun j => o _ _ (by omega) (by omega)) (fun j => o _ _ (by omega) (by omega)) hl, c_set_fr (o _ _ (by omega) (by omega)) (o _ _ (by omega) (by omega)) (fun j => o _ _ (by omega) (by omega)) (fun j => o _ _ (by omega) (by omega)) hs, c_stp_fr (o _ _ (by omega) (by omega)) (o _ _ (by omega) (by omega)) hp⟩
/-- pairs of calls from their runs -/
theorem mk_P {muC muM : Nat} {asC asM : List rs_V} {Inv : rs_M → Prop} {I : rs_M} {d : Nat} (hC : muC < 116) (hM : muM < 116) (h : rs_run 0 d muC 0 (rs_en0 asC (rs_mx muC)) [] I (fun v J1 => (∀ j, J1 0 j = I 0 j) ∧ ∃ z, v = some (.inl z) ∧ rs_run 0 d muM 0 (rs_en0 asM (rs_mx muM)) [] J1 (fun v' J2 => v' = some (.inl z) ∧ Inv J2))) : rs_pairP muC muM asC asM Inv I d := by
  obtain ⟨v, J1, ⟨hs, z, ev, hm⟩, ret⟩ := rs_out hC h
  obtain ⟨v', J2, ⟨ev', inv⟩, ret'⟩ := rs_out hM hm
  subst ev ev'
  exact ⟨z, J1, J2, ret, ret', hs, inv⟩
theorem mk_T {muC muM : Nat} {asC asM : List rs_V} {Inv : rs_M → Prop} {I : rs_M} {d : Nat} (hC : muC < 116) (hM : muM < 116) (h : rs_run 1 (d - 1) muC 0 (rs_en0 asC (rs_mx muC)) [] I (fun v J1 => (∀ j, J1 0 j = I 0 j) ∧ ((∃ z, v = some (.inl z) ∧ rs_R z ∧ rs_run 0 d muM 0 (rs_en0 asM (rs_mx muM)) [] (rs_up J1 110 0 z) (fun v' J2 => v' = some (.inl z) ∧ J2 110 0 = z ∧ J2 88 0 = 0 ∧ Inv J2)) ∨ (∃ t, (t = 1 ∨ t = 2) ∧ v = some (.inr (.inl t)) ∧ rs_run 0 d muM 0 (rs_en0 asM (rs_mx muM)) [] J1 (fun v' J2 => (∃ zm, v' = some (.inl zm)) ∧ J2 88 0 = t ∧ Inv J2))))) : rs_pairT muC muM asC asM Inv I d := by
  obtain ⟨v, J1, ⟨hs, hr⟩, ret⟩ := rs_out hC h
  rcases hr with ⟨z, ev, hz, hm⟩ | ⟨t, ht, ev, hm⟩
  · obtain ⟨v', J2, ⟨ev', e1, e2, inv⟩, ret'⟩ := rs_out hM hm
    subst ev ev'
    exact ⟨0, z, z, J1, J2, Or.inl ⟨rfl, hz, ret, ret', rfl, e1⟩, e2, hs, inv⟩
  · obtain ⟨v', J2, ⟨⟨zm, ev'⟩, e2, inv⟩, ret'⟩ := rs_out hM hm
    subst ev ev'
    exact ⟨t, 0, zm, J1, J2, Or.inr ⟨ht, ret, ret'⟩, e2, hs, inv⟩
theorem mk_O {muC muM : Nat} {asC asM : List rs_V} {Inv : rs_M → Prop} {I : rs_M} {d : Nat} (hC : muC < 116) (hM : muM < 116) (h : rs_run 1 (d - 1) muC 0 (rs_en0 asC (rs_mx muC)) [] I (fun v J1 => (∀ j, J1 0 j = I 0 j) ∧ ((∃ z, v = some (.inl z) ∧ rs_R z ∧ rs_run 0 d muM 0 (rs_en0 asM (rs_mx muM)) [] (rs_up J1 110 0 z) (fun v' J2 => v' = some (.inl z) ∧ J2 110 0 = z ∧ J2 88 0 = 0 ∧ Inv J2)) ∨ (v = some (.inr (.inl 1)) ∧ rs_run 0 d muM 0 (rs_en0 asM (rs_mx muM)) [] J1 (fun v' J2 => (∃ zm, v' = some (.inl zm)) ∧ J2 88 0 = 1 ∧ Inv J2))))) : rs_pairO muC muM asC asM Inv I d := by
  obtain ⟨v, J1, ⟨hs, hr⟩, ret⟩ := rs_out hC h
  rcases hr with ⟨z, ev, hz, hm⟩ | ⟨ev, hm⟩
  · obtain ⟨v', J2, ⟨ev', e1, e2, inv⟩, ret'⟩ := rs_out hM hm
    subst ev ev'
    exact ⟨0, z, z, J1, J2, Or.inl ⟨rfl, hz, ret, ret', rfl, e1⟩, e2, hs, inv⟩
  · obtain ⟨v', J2, ⟨⟨zm, ev'⟩, e2, inv⟩, ret'⟩ := rs_out hM hm
    subst ev ev'
    exact ⟨1, 0, zm, J1, J2, Or.inr ⟨rfl, ret, ret'⟩, e2, hs, inv⟩
