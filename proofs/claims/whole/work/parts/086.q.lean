section RSQ
variable {u d mu pc : Nat} {ls : rs_L} {st : List rs_V} {I : rs_M} {K : rs_K}
theorem rs_q_iconst {z : Int} (hd : decode (rs_cd mu) pc = .ok (.iconst z, 1)) (hz : -1 ≤ z ∧ z ≤ 5) : rs_run u d mu pc ls st I K = rs_run u d mu (pc + 1) ls (.inl z :: st) I K := (rs_q _ _ _ _ _ _ _ _ hd).trans (propext ⟨fun h => h.2.2, fun h => ⟨rfl, hz, h⟩⟩)
theorem rs_q_bipush {z : Int} (hd : decode (rs_cd mu) pc = .ok (.bipush z, 2)) (hz : -128 ≤ z ∧ z ≤ 127) : rs_run u d mu pc ls st I K = rs_run u d mu (pc + 2) ls (.inl z :: st) I K := (rs_q _ _ _ _ _ _ _ _ hd).trans (propext ⟨fun h => h.2.2, fun h => ⟨rfl, hz, h⟩⟩)
theorem rs_q_sipush {z : Int} (hd : decode (rs_cd mu) pc = .ok (.sipush z, 3)) (hz : -32768 ≤ z ∧ z ≤ 32767) : rs_run u d mu pc ls st I K = rs_run u d mu (pc + 3) ls (.inl z :: st) I K := (rs_q _ _ _ _ _ _ _ _ hd).trans (propext ⟨fun h => h.2.2, fun h => ⟨rfl, hz, h⟩⟩)
theorem rs_q_ldc {i : Nat} {z : Int} (hd : decode (rs_cd mu) pc = .ok (.ldc i, 2)) (hc : rs_cst mu i = some z) : rs_run u d mu pc ls st I K = rs_run u d mu (pc + 2) ls (.inl z :: st) I K := (rs_q _ _ _ _ _ _ _ _ hd).trans (propext ⟨fun h => by have h2 := h.2; rw [hc] at h2; exact h2, fun h => ⟨rfl, by rw [hc]; exact h⟩⟩)
theorem rs_q_ldc_w {i : Nat} {z : Int} (hd : decode (rs_cd mu) pc = .ok (.ldc_w i, 3)) (hc : rs_cst mu i = some z) : rs_run u d mu pc ls st I K = rs_run u d mu (pc + 3) ls (.inl z :: st) I K := (rs_q _ _ _ _ _ _ _ _ hd).trans (propext ⟨fun h => by have h2 := h.2; rw [hc] at h2; exact h2, fun h => ⟨rfl, by rw [hc]; exact h⟩⟩)
theorem rs_gi_e {i : Nat} {z : Int} {f : Int → Prop} (h : rs_nth ls i = some (some (.inl z))) : rs_gi ls i f = f z := by unfold rs_gi; rw [h]
theorem rs_gr_e {i : Nat} {o : Nat} {f : Nat → Prop} (h : rs_nth ls i = some (some (.inr (.inr o)))) : rs_gr ls i f = f o := by unfold rs_gr; rw [h]
theorem rs_q_iload_n {i : Fin 4} {z : Int} (hd : decode (rs_cd mu) pc = .ok (.iload_n i, 1)) (h : rs_nth ls i.val = some (some (.inl z))) : rs_run u d mu pc ls st I K = rs_run u d mu (pc + 1) ls (.inl z :: st) I K := (rs_q _ _ _ _ _ _ _ _ hd).trans (propext ⟨fun g => by have h2 := g.2; rw [rs_gi_e h] at h2; exact h2, fun g => ⟨rfl, by rw [rs_gi_e h]; exact g⟩⟩)
theorem rs_q_iload {i : Nat} {z : Int} (hd : decode (rs_cd mu) pc = .ok (.iload i, 2)) (h : rs_nth ls i = some (some (.inl z))) : rs_run u d mu pc ls st I K = rs_run u d mu (pc + 2) ls (.inl z :: st) I K := (rs_q _ _ _ _ _ _ _ _ hd).trans (propext ⟨fun g => by have h2 := g.2; rw [rs_gi_e h] at h2; exact h2, fun g => ⟨rfl, by rw [rs_gi_e h]; exact g⟩⟩)
theorem rs_q_aload_n {i : Fin 4} {o : Nat} (hd : decode (rs_cd mu) pc = .ok (.aload_n i, 1)) (h : rs_nth ls i.val = some (some (.inr (.inr o)))) : rs_run u d mu pc ls st I K = rs_run u d mu (pc + 1) ls (.inr (.inr o) :: st) I K := (rs_q _ _ _ _ _ _ _ _ hd).trans (propext ⟨fun g => by have h2 := g.2; rw [rs_gr_e h] at h2; exact h2, fun g => ⟨rfl, by rw [rs_gr_e h]; exact g⟩⟩)
theorem rs_q_aload {i : Nat} {o : Nat} (hd : decode (rs_cd mu) pc = .ok (.aload i, 2)) (h : rs_nth ls i = some (some (.inr (.inr o)))) : rs_run u d mu pc ls st I K = rs_run u d mu (pc + 2) ls (.inr (.inr o) :: st) I K := (rs_q _ _ _ _ _ _ _ _ hd).trans (propext ⟨fun g => by have h2 := g.2; rw [rs_gr_e h] at h2; exact h2, fun g => ⟨rfl, by rw [rs_gr_e h]; exact g⟩⟩)
theorem rs_q_istore_n {i : Fin 4} {z : Int} (hd : decode (rs_cd mu) pc = .ok (.istore_n i, 1)) (h : i.val < rs_mx mu) : rs_run u d mu pc ls (.inl z :: st) I K = rs_run u d mu (pc + 1) (rs_st ls i.val (some (.inl z))) st I K := (rs_q _ _ _ _ _ _ _ _ hd).trans (propext ⟨fun g => g.2.2, fun g => ⟨rfl, h, g⟩⟩)
theorem rs_q_istore {i : Nat} {z : Int} (hd : decode (rs_cd mu) pc = .ok (.istore i, 2)) (h : i < rs_mx mu) : rs_run u d mu pc ls (.inl z :: st) I K = rs_run u d mu (pc + 2) (rs_st ls i (some (.inl z))) st I K := (rs_q _ _ _ _ _ _ _ _ hd).trans (propext ⟨fun g => g.2.2, fun g => ⟨rfl, h, g⟩⟩)
theorem rs_q_astore_n {i : Fin 4} {o : Nat} (hd : decode (rs_cd mu) pc = .ok (.astore_n i, 1)) (h : i.val < rs_mx mu) : rs_run u d mu pc ls (.inr (.inr o) :: st) I K = rs_run u d mu (pc + 1) (rs_st ls i.val (some (.inr (.inr o)))) st I K := (rs_q _ _ _ _ _ _ _ _ hd).trans (propext ⟨fun g => g.2.2, fun g => ⟨rfl, h, g⟩⟩)
theorem rs_q_astore {i : Nat} {o : Nat} (hd : decode (rs_cd mu) pc = .ok (.astore i, 2)) (h : i < rs_mx mu) : rs_run u d mu pc ls (.inr (.inr o) :: st) I K = rs_run u d mu (pc + 2) (rs_st ls i (some (.inr (.inr o)))) st I K := (rs_q _ _ _ _ _ _ _ _ hd).trans (propext ⟨fun g => g.2.2, fun g => ⟨rfl, h, g⟩⟩)
theorem rs_q_iinc {i : Nat} {n z : Int} (hd : decode (rs_cd mu) pc = .ok (.iinc i n, 3)) (hi : i < rs_mx mu) (h : rs_nth ls i = some (some (.inl z))) : rs_run u d mu pc ls st I K = (rs_R (z + n) ∧ rs_run u d mu (pc + 3) (rs_st ls i (some (.inl (z + n)))) st I K) := (rs_q _ _ _ _ _ _ _ _ hd).trans (propext ⟨fun g => by have h2 := g.2.2; rw [rs_gi_e h] at h2; exact h2, fun g => ⟨rfl, hi, by rw [rs_gi_e h]; exact g⟩⟩)
theorem rs_q_iadd {x y : Int} (hd : decode (rs_cd mu) pc = .ok (.iadd, 1)) : rs_run u d mu pc ls (.inl y :: .inl x :: st) I K = (rs_R (x + y) ∧ rs_run u d mu (pc + 1) ls (.inl (x + y) :: st) I K) := (rs_q _ _ _ _ _ _ _ _ hd).trans (propext ⟨fun g => g.2, fun g => ⟨rfl, g⟩⟩)
theorem rs_q_isub {x y : Int} (hd : decode (rs_cd mu) pc = .ok (.isub, 1)) : rs_run u d mu pc ls (.inl y :: .inl x :: st) I K = (rs_R (x - y) ∧ rs_run u d mu (pc + 1) ls (.inl (x - y) :: st) I K) := (rs_q _ _ _ _ _ _ _ _ hd).trans (propext ⟨fun g => g.2, fun g => ⟨rfl, g⟩⟩)
theorem rs_q_imul {x y : Int} (hd : decode (rs_cd mu) pc = .ok (.imul, 1)) : rs_run u d mu pc ls (.inl y :: .inl x :: st) I K = (rs_R (x * y) ∧ rs_run u d mu (pc + 1) ls (.inl (x * y) :: st) I K) := (rs_q _ _ _ _ _ _ _ _ hd).trans (propext ⟨fun g => g.2, fun g => ⟨rfl, g⟩⟩)
theorem rs_q_idiv {x y : Int} (hd : decode (rs_cd mu) pc = .ok (.idiv, 1)) : rs_run u d mu pc ls (.inl y :: .inl x :: st) I K = (¬ y = 0 ∧ rs_R (x.tdiv y) ∧ rs_run u d mu (pc + 1) ls (.inl (x.tdiv y) :: st) I K) := (rs_q _ _ _ _ _ _ _ _ hd).trans (propext ⟨fun g => g.2, fun g => ⟨rfl, g⟩⟩)
theorem rs_q_irem {x y : Int} (hd : decode (rs_cd mu) pc = .ok (.irem, 1)) : rs_run u d mu pc ls (.inl y :: .inl x :: st) I K = (¬ y = 0 ∧ rs_R (x - x.tdiv y * y) ∧ rs_run u d mu (pc + 1) ls (.inl (x - x.tdiv y * y) :: st) I K) := (rs_q _ _ _ _ _ _ _ _ hd).trans (propext ⟨fun g => g.2, fun g => ⟨rfl, g⟩⟩)
theorem rs_q_ineg {x : Int} (hd : decode (rs_cd mu) pc = .ok (.ineg, 1)) : rs_run u d mu pc ls (.inl x :: st) I K = (rs_R (-x) ∧ rs_run u d mu (pc + 1) ls (.inl (-x) :: st) I K) := (rs_q _ _ _ _ _ _ _ _ hd).trans (propext ⟨fun g => g.2, fun g => ⟨rfl, g⟩⟩)
theorem rs_q_iand {x y : Int} (hd : decode (rs_cd mu) pc = .ok (.iand, 1)) : rs_run u d mu pc ls (.inl y :: .inl x :: st) I K = rs_run u d mu (pc + 1) ls (.inl (rs_and x y) :: st) I K := (rs_q _ _ _ _ _ _ _ _ hd).trans (propext ⟨fun g => g.2, fun g => ⟨rfl, g⟩⟩)
theorem rs_q_ior {x y : Int} (hd : decode (rs_cd mu) pc = .ok (.ior, 1)) : rs_run u d mu pc ls (.inl y :: .inl x :: st) I K = rs_run u d mu (pc + 1) ls (.inl (rs_or x y) :: st) I K := (rs_q _ _ _ _ _ _ _ _ hd).trans (propext ⟨fun g => g.2, fun g => ⟨rfl, g⟩⟩)
theorem rs_q_ixor {x y : Int} (hd : decode (rs_cd mu) pc = .ok (.ixor, 1)) : rs_run u d mu pc ls (.inl y :: .inl x :: st) I K = rs_run u d mu (pc + 1) ls (.inl (rs_xor x y) :: st) I K := (rs_q _ _ _ _ _ _ _ _ hd).trans (propext ⟨fun g => g.2, fun g => ⟨rfl, g⟩⟩)
theorem rs_q_ishl {x y : Int} (hd : decode (rs_cd mu) pc = .ok (.ishl, 1)) : rs_run u d mu pc ls (.inl y :: .inl x :: st) I K = rs_run u d mu (pc + 1) ls (.inl (rs_shl x y) :: st) I K := (rs_q _ _ _ _ _ _ _ _ hd).trans (propext ⟨fun g => g.2, fun g => ⟨rfl, g⟩⟩)
theorem rs_q_ishr {x y : Int} (hd : decode (rs_cd mu) pc = .ok (.ishr, 1)) : rs_run u d mu pc ls (.inl y :: .inl x :: st) I K = rs_run u d mu (pc + 1) ls (.inl (rs_shr x y) :: st) I K := (rs_q _ _ _ _ _ _ _ _ hd).trans (propext ⟨fun g => g.2, fun g => ⟨rfl, g⟩⟩)
theorem rs_q_iushr {x y : Int} (hd : decode (rs_cd mu) pc = .ok (.iushr, 1)) : rs_run u d mu pc ls (.inl y :: .inl x :: st) I K = rs_run u d mu (pc + 1) ls (.inl (rs_ush x y) :: st) I K := (rs_q _ _ _ _ _ _ _ _ hd).trans (propext ⟨fun g => g.2, fun g => ⟨rfl, g⟩⟩)
theorem rs_q_i2l {x : Int} (hd : decode (rs_cd mu) pc = .ok (.i2l, 1)) : rs_run u d mu pc ls (.inl x :: st) I K = rs_run u d mu (pc + 1) ls (.inr (.inl x) :: st) I K := (rs_q _ _ _ _ _ _ _ _ hd).trans (propext ⟨fun g => g.2, fun g => ⟨rfl, g⟩⟩)
theorem rs_q_lcmp {x y : Int} (hd : decode (rs_cd mu) pc = .ok (.lcmp, 1)) : rs_run u d mu pc ls (.inr (.inl y) :: .inr (.inl x) :: st) I K = rs_run u d mu (pc + 1) ls (.inl (rs_cmp x y) :: st) I K := (rs_q _ _ _ _ _ _ _ _ hd).trans (propext ⟨fun g => g.2, fun g => ⟨rfl, g⟩⟩)
theorem rs_q_dupi {x : Int} (hd : decode (rs_cd mu) pc = .ok (.dup, 1)) : rs_run u d mu pc ls (.inl x :: st) I K = rs_run u d mu (pc + 1) ls (.inl x :: .inl x :: st) I K := (rs_q _ _ _ _ _ _ _ _ hd).trans (propext ⟨fun g => g.2, fun g => ⟨rfl, g⟩⟩)
theorem rs_q_dupr {o : Nat} (hd : decode (rs_cd mu) pc = .ok (.dup, 1)) : rs_run u d mu pc ls (.inr (.inr o) :: st) I K = rs_run u d mu (pc + 1) ls (.inr (.inr o) :: .inr (.inr o) :: st) I K := (rs_q _ _ _ _ _ _ _ _ hd).trans (propext ⟨fun g => g.2, fun g => ⟨rfl, g⟩⟩)
theorem rs_q_dup2 {x : Int} {o : Nat} (hd : decode (rs_cd mu) pc = .ok (.dup2, 1)) : rs_run u d mu pc ls (.inl x :: .inr (.inr o) :: st) I K = rs_run u d mu (pc + 1) ls (.inl x :: .inr (.inr o) :: .inl x :: .inr (.inr o) :: st) I K := (rs_q _ _ _ _ _ _ _ _ hd).trans (propext ⟨fun g => g.2, fun g => ⟨rfl, g⟩⟩)
theorem rs_q_pop {x : Int} (hd : decode (rs_cd mu) pc = .ok (.pop, 1)) : rs_run u d mu pc ls (.inl x :: st) I K = rs_run u d mu (pc + 1) ls st I K := (rs_q _ _ _ _ _ _ _ _ hd).trans (propext ⟨fun g => g.2, fun g => ⟨rfl, g⟩⟩)
theorem rs_q_if {c : _root_.Jvm.ClassFile.Cond} {off x : Int} {t : Nat} (hd : decode (rs_cd mu) pc = .ok (.ifCond c off, 3)) (ht : (pc : Int) + off = (t : Int)) : rs_run u d mu pc ls (.inl x :: st) I K = ((rs_cnd c x 0 → rs_run u d mu t ls st I K) ∧ (¬ rs_cnd c x 0 → rs_run u d mu (pc + 3) ls st I K)) := by
  rw [rs_q _ _ _ _ _ _ _ _ hd]
  show (3 = 3 ∧ 0 ≤ (pc : Int) + off ∧ (rs_cnd c x 0 → rs_run u d mu ((pc : Int) + off).toNat ls st I K) ∧ (¬ rs_cnd c x 0 → rs_run u d mu (pc + 3) ls st I K)) = _
  rw [ht, Int.toNat_natCast]
  exact propext ⟨fun g => g.2.2, fun g => ⟨rfl, Int.natCast_nonneg t, g⟩⟩
theorem rs_q_ic {c : _root_.Jvm.ClassFile.Cond} {off x y : Int} {t : Nat} (hd : decode (rs_cd mu) pc = .ok (.if_icmp c off, 3)) (ht : (pc : Int) + off = (t : Int)) : rs_run u d mu pc ls (.inl y :: .inl x :: st) I K = ((rs_cnd c x y → rs_run u d mu t ls st I K) ∧ (¬ rs_cnd c x y → rs_run u d mu (pc + 3) ls st I K)) := by
  rw [rs_q _ _ _ _ _ _ _ _ hd]
  show (3 = 3 ∧ 0 ≤ (pc : Int) + off ∧ (rs_cnd c x y → rs_run u d mu ((pc : Int) + off).toNat ls st I K) ∧ (¬ rs_cnd c x y → rs_run u d mu (pc + 3) ls st I K)) = _
  rw [ht, Int.toNat_natCast]
  exact propext ⟨fun g => g.2.2, fun g => ⟨rfl, Int.natCast_nonneg t, g⟩⟩
theorem rs_q_goto {off : Int} {t : Nat} (hd : decode (rs_cd mu) pc = .ok (.goto off, 3)) (ht : (pc : Int) + off = (t : Int)) : rs_run u d mu pc ls st I K = rs_run u d mu t ls st I K := by
  rw [rs_q _ _ _ _ _ _ _ _ hd]
  show (3 = 3 ∧ 0 ≤ (pc : Int) + off ∧ rs_run u d mu ((pc : Int) + off).toNat ls st I K) = _
  rw [ht, Int.toNat_natCast]
  exact propext ⟨fun g => g.2.2, fun g => ⟨rfl, Int.natCast_nonneg t, g⟩⟩
theorem rs_q_getI {i o ci k t : Nat} (hd : decode (rs_cd mu) pc = .ok (.getfield i, 3)) (hf : rs_fd mu i = some (ci, k, t)) (ht : t ≠ 2) : rs_run u d mu pc ls (.inr (.inr o) :: st) I K = (rs_sh o = (1, ci) ∧ rs_run u d mu (pc + 3) ls (.inl (I o k) :: st) I K) := by
  rw [rs_q _ _ _ _ _ _ _ _ hd]
  show (3 = 3 ∧ (match rs_fd mu i with
    | some (ci, k, t) => rs_sh o = (1, ci) ∧ rs_run u d mu (pc + 3) ls ((if t = 2 then .inr (.inr (rs_rf o k)) else .inl (I o k)) :: st) I K
    | none => False)) = _
  rw [hf]
  dsimp only
  rw [if_neg ht]
  exact propext ⟨fun g => g.2, fun g => ⟨rfl, g⟩⟩
theorem rs_q_getR {i o ci k : Nat} (hd : decode (rs_cd mu) pc = .ok (.getfield i, 3)) (hf : rs_fd mu i = some (ci, k, 2)) : rs_run u d mu pc ls (.inr (.inr o) :: st) I K = (rs_sh o = (1, ci) ∧ rs_run u d mu (pc + 3) ls (.inr (.inr (rs_rf o k)) :: st) I K) := by
  rw [rs_q _ _ _ _ _ _ _ _ hd]
  show (3 = 3 ∧ (match rs_fd mu i with
    | some (ci, k, t) => rs_sh o = (1, ci) ∧ rs_run u d mu (pc + 3) ls ((if t = 2 then .inr (.inr (rs_rf o k)) else .inl (I o k)) :: st) I K
    | none => False)) = _
  rw [hf]
  exact propext ⟨fun g => g.2, fun g => ⟨rfl, g⟩⟩
theorem rs_q_putI {i o ci k : Nat} {x : Int} (hd : decode (rs_cd mu) pc = .ok (.putfield i, 3)) (hf : rs_fd mu i = some (ci, k, 0)) : rs_run u d mu pc ls (.inl x :: .inr (.inr o) :: st) I K = (rs_sh o = (1, ci) ∧ rs_run u d mu (pc + 3) ls st (rs_up I o k x) K) := by
  rw [rs_q _ _ _ _ _ _ _ _ hd]
  show (3 = 3 ∧ (match rs_fd mu i with
    | some (ci, k, t) => rs_sh o = (1, ci) ∧ (t = 0 ∨ t = 1 ∧ (x = 0 ∨ x = 1)) ∧ rs_run u d mu (pc + 3) ls st (rs_up I o k x) K
    | none => False)) = _
  rw [hf]
  exact propext ⟨fun g => ⟨g.2.1, g.2.2.2⟩, fun g => ⟨rfl, g.1, Or.inl rfl, g.2⟩⟩
theorem rs_q_putZ {i o ci k : Nat} {x : Int} (hd : decode (rs_cd mu) pc = .ok (.putfield i, 3)) (hf : rs_fd mu i = some (ci, k, 1)) : rs_run u d mu pc ls (.inl x :: .inr (.inr o) :: st) I K = (rs_sh o = (1, ci) ∧ (x = 0 ∨ x = 1) ∧ rs_run u d mu (pc + 3) ls st (rs_up I o k x) K) := by
  rw [rs_q _ _ _ _ _ _ _ _ hd]
  show (3 = 3 ∧ (match rs_fd mu i with
    | some (ci, k, t) => rs_sh o = (1, ci) ∧ (t = 0 ∨ t = 1 ∧ (x = 0 ∨ x = 1)) ∧ rs_run u d mu (pc + 3) ls st (rs_up I o k x) K
    | none => False)) = _
  rw [hf]
  exact propext ⟨fun g => ⟨g.2.1, by rcases g.2.2.1 with h | h; (exact absurd h (by decide)); exact h.2, g.2.2.2⟩, fun g => ⟨rfl, g.1, Or.inr ⟨rfl, g.2.1⟩, g.2.2⟩⟩
theorem rs_q_iaload {o : Nat} {j : Int} (hm : mu ≠ 116) (hd : decode (rs_cd mu) pc = .ok (.iaload, 1)) : rs_run u d mu pc ls (.inl j :: .inr (.inr o) :: st) I K = ((rs_sh o).1 = 2 ∧ (0 ≤ j ∧ j < (rs_sh o).2) ∧ rs_run u d mu (pc + 1) ls (.inl (I o j.toNat) :: st) I K) := by
  rw [rs_q _ _ _ _ _ _ _ _ hd]
  show (1 = 1 ∧ (if mu = 116 ∧ o = 0 then _ else _)) = _
  rw [if_neg (fun q => hm q.1)]
  exact propext ⟨fun g => g.2, fun g => ⟨rfl, g⟩⟩
theorem rs_q_ialoadL {j : Int} (hd : decode (rs_cd 116) pc = .ok (.iaload, 1)) : rs_run u d 116 pc ls (.inl j :: .inr (.inr 0) :: st) I K = ((0 ≤ j ∧ j < I 0 0) ∧ rs_run u d 116 (pc + 1) ls (.inl (I 0 (j.toNat + 1)) :: st) I K) := by
  rw [rs_q _ _ _ _ _ _ _ _ hd]
  unfold rs_ins
  dsimp only [rs_p1, rs_pr]
  rw [if_pos ⟨rfl, rfl⟩]
  exact propext ⟨fun g => g.2, fun g => ⟨rfl, g⟩⟩
theorem rs_q_baload {o : Nat} {j : Int} (hd : decode (rs_cd mu) pc = .ok (.baload, 1)) : rs_run u d mu pc ls (.inl j :: .inr (.inr o) :: st) I K = ((rs_sh o).1 = 3 ∧ (0 ≤ j ∧ j < (rs_sh o).2) ∧ rs_run u d mu (pc + 1) ls (.inl (I o j.toNat) :: st) I K) := (rs_q _ _ _ _ _ _ _ _ hd).trans (propext ⟨fun g => g.2, fun g => ⟨rfl, g⟩⟩)
theorem rs_q_laload {o : Nat} {j : Int} (hd : decode (rs_cd mu) pc = .ok (.laload, 1)) : rs_run u d mu pc ls (.inl j :: .inr (.inr o) :: st) I K = ((rs_sh o).1 = 4 ∧ (0 ≤ j ∧ j < (rs_sh o).2) ∧ rs_run u d mu (pc + 1) ls (.inr (.inl (I o j.toNat)) :: st) I K) := (rs_q _ _ _ _ _ _ _ _ hd).trans (propext ⟨fun g => g.2, fun g => ⟨rfl, g⟩⟩)
theorem rs_q_aaload {o : Nat} {j : Int} (hd : decode (rs_cd mu) pc = .ok (.aaload, 1)) : rs_run u d mu pc ls (.inl j :: .inr (.inr o) :: st) I K = (5 ≤ (rs_sh o).1 ∧ (0 ≤ j ∧ j < (rs_sh o).2) ∧ rs_run u d mu (pc + 1) ls (.inr (.inr (rs_rf o j.toNat)) :: st) I K) := (rs_q _ _ _ _ _ _ _ _ hd).trans (propext ⟨fun g => g.2, fun g => ⟨rfl, g⟩⟩)
theorem rs_q_iastore {o : Nat} {j x : Int} (hd : decode (rs_cd mu) pc = .ok (.iastore, 1)) : rs_run u d mu pc ls (.inl x :: .inl j :: .inr (.inr o) :: st) I K = ((rs_sh o).1 = 2 ∧ (0 ≤ j ∧ j < (rs_sh o).2) ∧ rs_run u d mu (pc + 1) ls st (rs_up I o j.toNat x) K) := (rs_q _ _ _ _ _ _ _ _ hd).trans (propext ⟨fun g => g.2, fun g => ⟨rfl, g⟩⟩)
theorem rs_q_bastore {o : Nat} {j x : Int} (hd : decode (rs_cd mu) pc = .ok (.bastore, 1)) : rs_run u d mu pc ls (.inl x :: .inl j :: .inr (.inr o) :: st) I K = ((rs_sh o).1 = 3 ∧ (0 ≤ j ∧ j < (rs_sh o).2) ∧ (x = 0 ∨ x = 1) ∧ rs_run u d mu (pc + 1) ls st (rs_up I o j.toNat x) K) := (rs_q _ _ _ _ _ _ _ _ hd).trans (propext ⟨fun g => g.2, fun g => ⟨rfl, g⟩⟩)
theorem rs_q_lastore {o : Nat} {j x : Int} (hd : decode (rs_cd mu) pc = .ok (.lastore, 1)) : rs_run u d mu pc ls (.inr (.inl x) :: .inl j :: .inr (.inr o) :: st) I K = ((rs_sh o).1 = 4 ∧ (0 ≤ j ∧ j < (rs_sh o).2) ∧ rs_run u d mu (pc + 1) ls st (rs_up I o j.toNat x) K) := (rs_q _ _ _ _ _ _ _ _ hd).trans (propext ⟨fun g => g.2, fun g => ⟨rfl, g⟩⟩)
theorem rs_q_len (hd : decode (rs_cd mu) pc = .ok (.arraylength, 1)) : rs_run u d mu pc ls (.inr (.inr 0) :: st) I K = rs_run u d mu (pc + 1) ls (.inl (I 0 0) :: st) I K := (rs_q _ _ _ _ _ _ _ _ hd).trans (propext ⟨fun g => g.2.2, fun g => ⟨rfl, rfl, g⟩⟩)
theorem rs_q_new {i : Nat} {t : Int} (hd : decode (rs_cd mu) pc = .ok (.new i, 3)) (ht : rs_th mu pc = some t) : rs_run u d mu pc ls [] I K = (6 ≤ d ∧ 0 < u ∧ K (some (.inr (.inl t))) I) := by
  rw [rs_q _ _ _ _ _ _ _ _ hd]
  show (3 = 3 ∧ (match rs_th mu pc with
    | some t => ([] : List rs_V) = [] ∧ 6 ≤ d ∧ 0 < u ∧ K (some (.inr (.inl t))) I
    | none => False)) = _
  rw [ht]
  exact propext ⟨fun g => g.2.2, fun g => ⟨rfl, rfl, g⟩⟩
theorem rs_q_iret {x : Int} (hd : decode (rs_cd mu) pc = .ok (.ireturn, 1)) (hr : rs_rt mu = some .int) : rs_run u d mu pc ls [.inl x] I K = K (some (.inl x)) I := (rs_q _ _ _ _ _ _ _ _ hd).trans (propext ⟨fun g => g.2.2.2, fun g => ⟨rfl, rfl, Or.inl hr, g⟩⟩)
theorem rs_q_zret {x : Int} (hd : decode (rs_cd mu) pc = .ok (.ireturn, 1)) (hr : rs_rt mu = some .boolean) : rs_run u d mu pc ls [.inl x] I K = ((x = 0 ∨ x = 1) ∧ K (some (.inl x)) I) := (rs_q _ _ _ _ _ _ _ _ hd).trans (propext ⟨fun g => ⟨by rcases g.2.2.1 with h | h; (rw [hr] at h; exact absurd h (by decide)); exact h.2, g.2.2.2⟩, fun g => ⟨rfl, rfl, Or.inr ⟨hr, g.1⟩, g.2⟩⟩)
theorem rs_q_vret (hd : decode (rs_cd mu) pc = .ok (.return_, 1)) (hr : rs_rt mu = none) : rs_run u d mu pc ls [] I K = K none I := (rs_q _ _ _ _ _ _ _ _ hd).trans (propext ⟨fun g => g.2.2.2, fun g => ⟨rfl, rfl, hr, g⟩⟩)
theorem rs_q_tsw {df lo hi x : Int} {offs : Array Int} {ln : Nat} (hd : decode (rs_cd mu) pc = .ok (.tableswitch df lo hi offs, ln)) (h0 : 0 ≤ (pc : Int) + df) (h1 : ∀ o ∈ offs.toList, 0 ≤ (pc : Int) + o) (h2 : hi + 1 = lo + offs.size) : rs_run u d mu pc ls (.inl x :: st) I K = (((x < lo ∨ hi < x) → rs_run u d mu ((pc : Int) + df).toNat ls st I K) ∧ rs_sw (fun o => rs_run u d mu ((pc : Int) + o).toNat ls st I K) x lo offs.toList) := (rs_q _ _ _ _ _ _ _ _ hd).trans (propext ⟨fun g => g.2.2.2, fun g => ⟨h0, h1, h2, g⟩⟩)
theorem rs_q_tsw9 {lo hi x : Int} (f : Int → Prop) (o : Int) (r : List Int) : rs_sw f x lo (o :: r) = ((x = lo → f o) ∧ rs_sw f x (lo + 1) r) := rfl
theorem rs_q_inv {i nu o : Nat} {as : List rs_V} {stk : List rs_V} (hd : decode (rs_cd mu) pc = .ok (.invokevirtual i, 3)) (ht : rs_tg mu i = some nu) (hs : rs_stc nu = false) (hk : ∀ f : List rs_V → List rs_V → Prop, rs_tk (rs_na nu) [] stk f = f (.inr (.inr o) :: as) st) : rs_run u d mu pc ls stk I K = (rs_sh o = (1, rs_ci nu) ∧ st.length ≤ 4 ∧ 0 < d ∧ rs_un nu ≤ u ∧ rs_run (rs_un nu) (d - 1) nu 0 (rs_en0 (.inr (.inr o) :: as) (rs_mx nu)) [] I (rs_cn rs_run (u - rs_un nu) d mu pc ls st K)) := by
  rw [rs_q _ _ _ _ _ _ _ _ hd]
  show (3 = 3 ∧ (match rs_tg mu i with
    | some nu => rs_stc nu = false ∧ rs_tk (rs_na nu) [] stk (fun as r => rs_rec as (fun o => rs_sh o = (1, rs_ci nu)) ∧ r.length ≤ 4 ∧ 0 < d ∧ rs_un nu ≤ u ∧ rs_run (rs_un nu) (d - 1) nu 0 (rs_en0 as (rs_mx nu)) [] I (rs_cn rs_run (u - rs_un nu) d mu pc ls r K))
    | none => False)) = _
  rw [ht]
  dsimp only
  rw [hk]
  exact propext ⟨fun g => g.2.2, fun g => ⟨rfl, hs, g⟩⟩
theorem rs_q_ins {i nu : Nat} {as : List rs_V} {stk : List rs_V} (hd : decode (rs_cd mu) pc = .ok (.invokestatic i, 3)) (ht : rs_tg mu i = some nu) (hs : rs_stc nu = true) (hk : ∀ f : List rs_V → List rs_V → Prop, rs_tk (rs_na nu) [] stk f = f as st) : rs_run u d mu pc ls stk I K = (st.length ≤ 4 ∧ 0 < d ∧ rs_un nu ≤ u ∧ rs_run (rs_un nu) (d - 1) nu 0 (rs_en0 as (rs_mx nu)) [] I (rs_cn rs_run (u - rs_un nu) d mu pc ls st K)) := by
  rw [rs_q _ _ _ _ _ _ _ _ hd]
  show (3 = 3 ∧ (match rs_tg mu i with
    | some nu => rs_stc nu = true ∧ rs_tk (rs_na nu) [] stk (fun as r => r.length ≤ 4 ∧ 0 < d ∧ rs_un nu ≤ u ∧ rs_run (rs_un nu) (d - 1) nu 0 (rs_en0 as (rs_mx nu)) [] I (rs_cn rs_run (u - rs_un nu) d mu pc ls r K))
    | none => match rs_sp mu i with
      | some 0 => 0 < d ∧ rs_p2 stk (fun x y r => r.length ≤ 4 ∧ rs_run u d mu (pc + 3) ls (.inl (max x y) :: r) I K)
      | some 1 => 0 < d ∧ rs_p2 stk (fun x y r => r.length ≤ 4 ∧ rs_run u d mu (pc + 3) ls (.inl (min x y) :: r) I K)
      | some 2 => 0 < d ∧ rs_p2 stk (fun dp n r => rs_pr r (fun o2 r => rs_p1 r (fun sp r => rs_pr r (fun o1 r => r.length ≤ 4 ∧ (rs_sh o1).1 = 2 ∧ (rs_sh o2).1 = 2 ∧ 0 ≤ sp ∧ 0 ≤ dp ∧ 0 ≤ n ∧ sp + n ≤ (rs_sh o1).2 ∧ dp + n ≤ (rs_sh o2).2 ∧ rs_run u d mu (pc + 3) ls r (rs_cp I o1 o2 sp.toNat dp.toNat n.toNat) K))))
      | _ => False)) = _
  rw [ht]
  dsimp only
  rw [hk]
  exact propext ⟨fun g => g.2.2, fun g => ⟨rfl, hs, g⟩⟩
theorem rs_q_max {i : Nat} {x y : Int} (hd : decode (rs_cd mu) pc = .ok (.invokestatic i, 3)) (ht : rs_tg mu i = none) (hp : rs_sp mu i = some 0) : rs_run u d mu pc ls (.inl y :: .inl x :: st) I K = (0 < d ∧ st.length ≤ 4 ∧ rs_run u d mu (pc + 3) ls (.inl (max x y) :: st) I K) := by
  rw [rs_q _ _ _ _ _ _ _ _ hd]
  unfold rs_ins
  dsimp only
  rw [ht]
  dsimp only
  rw [hp]
  exact propext ⟨fun g => g.2, fun g => ⟨rfl, g⟩⟩
theorem rs_q_min {i : Nat} {x y : Int} (hd : decode (rs_cd mu) pc = .ok (.invokestatic i, 3)) (ht : rs_tg mu i = none) (hp : rs_sp mu i = some 1) : rs_run u d mu pc ls (.inl y :: .inl x :: st) I K = (0 < d ∧ st.length ≤ 4 ∧ rs_run u d mu (pc + 3) ls (.inl (min x y) :: st) I K) := by
  rw [rs_q _ _ _ _ _ _ _ _ hd]
  unfold rs_ins
  dsimp only
  rw [ht]
  dsimp only
  rw [hp]
  exact propext ⟨fun g => g.2, fun g => ⟨rfl, g⟩⟩
theorem rs_q_cpy {i o1 o2 : Nat} {n dp sp : Int} (hd : decode (rs_cd mu) pc = .ok (.invokestatic i, 3)) (ht : rs_tg mu i = none) (hp : rs_sp mu i = some 2) : rs_run u d mu pc ls (.inl n :: .inl dp :: .inr (.inr o2) :: .inl sp :: .inr (.inr o1) :: st) I K = (0 < d ∧ st.length ≤ 4 ∧ (rs_sh o1).1 = 2 ∧ (rs_sh o2).1 = 2 ∧ 0 ≤ sp ∧ 0 ≤ dp ∧ 0 ≤ n ∧ sp + n ≤ (rs_sh o1).2 ∧ dp + n ≤ (rs_sh o2).2 ∧ rs_run u d mu (pc + 3) ls st (rs_cp I o1 o2 sp.toNat dp.toNat n.toNat) K) := by
  rw [rs_q _ _ _ _ _ _ _ _ hd]
  unfold rs_ins
  dsimp only
  rw [ht]
  dsimp only
  rw [hp]
  exact propext ⟨fun g => g.2, fun g => ⟨rfl, g⟩⟩
end RSQ
theorem rs_nn_e (p A B : Prop) : ((¬ p → A) ∧ (¬ ¬ p → B)) = ((¬ p → A) ∧ (p → B)) := propext ⟨fun g => ⟨g.1, fun h => g.2 (fun n => n h)⟩, fun g => ⟨g.1, fun h => g.2 (Classical.not_not.mp h)⟩⟩
theorem rs_z0v (A B C D : Prop) (u : Nat) : (A ∧ B ∧ C ∧ 0 ≤ u ∧ D) = (A ∧ B ∧ C ∧ D) := propext ⟨fun g => ⟨g.1, g.2.1, g.2.2.1, g.2.2.2.2⟩, fun g => ⟨g.1, g.2.1, g.2.2.1, Nat.zero_le u, g.2.2.2⟩⟩
theorem rs_z0s (B C D : Prop) (u : Nat) (_ : Unit) : (B ∧ C ∧ 0 ≤ u ∧ D) = (B ∧ C ∧ D) := propext ⟨fun g => ⟨g.1, g.2.1, g.2.2.2⟩, fun g => ⟨g.1, g.2.1, Nat.zero_le u, g.2.2⟩⟩
