theorem rs_p1_of {st : List rs_V} {f : Int → List rs_V → Prop} (h : rs_p1 st f) : ∃ x r, st = .inl x :: r ∧ f x r := by
  unfold rs_p1 at h
  split at h
  · exact ⟨_, _, rfl, h⟩
  · exact h.elim
theorem rs_p2_of {st : List rs_V} {f : Int → Int → List rs_V → Prop} (h : rs_p2 st f) : ∃ x y r, st = .inl y :: .inl x :: r ∧ f x y r := by
  unfold rs_p2 at h
  split at h
  · exact ⟨_, _, _, rfl, h⟩
  · exact h.elim
theorem rs_pr_of {st : List rs_V} {f : Nat → List rs_V → Prop} (h : rs_pr st f) : ∃ o r, st = .inr (.inr o) :: r ∧ f o r := by
  unfold rs_pr at h
  split at h
  · exact ⟨_, _, rfl, h⟩
  · exact h.elim
theorem rs_pl_of {st : List rs_V} {f : Int → List rs_V → Prop} (h : rs_pl st f) : ∃ x r, st = .inr (.inl x) :: r ∧ f x r := by
  unfold rs_pl at h
  split at h
  · exact ⟨_, _, rfl, h⟩
  · exact h.elim
theorem rs_gi_of {ls : rs_L} {i : Nat} {f : Int → Prop} (h : rs_gi ls i f) : ∃ z, rs_nth ls i = some (some (.inl z)) ∧ f z := by
  unfold rs_gi at h
  split at h
  · exact ⟨_, by assumption, h⟩
  · exact h.elim
theorem rs_gr_of {ls : rs_L} {i : Nat} {f : Nat → Prop} (h : rs_gr ls i f) : ∃ o, rs_nth ls i = some (some (.inr (.inr o))) ∧ f o := by
  unfold rs_gr at h
  split at h
  · exact ⟨_, by assumption, h⟩
  · exact h.elim
def rs_c1 (v : rs_V) : Prop := ∀ z, v ≠ .inr (.inl z)
theorem rs_tk_of : ∀ {n : Nat} {acc st : List rs_V} {f : List rs_V → List rs_V → Prop}, rs_tk n acc st f → ∃ as r, as.length = n ∧ st = as ++ r ∧ (∀ v ∈ as, rs_c1 v) ∧ f (as.reverse ++ acc) r
  | 0, acc, st, f, h => ⟨[], st, rfl, rfl, fun v hv => absurd hv List.not_mem_nil, h⟩
  | n + 1, acc, [], f, h => h.elim
  | n + 1, acc, .inl x :: st, f, h => by
    obtain ⟨as, r, h1, h2, h3, h4⟩ := rs_tk_of (n := n) (acc := .inl x :: acc) (st := st) h
    refine ⟨.inl x :: as, r, by simp [h1], by simp [h2], fun v hv => ?_, by simpa using h4⟩
    rcases List.mem_cons.mp hv with e | e
    · subst e; intro z q; cases q
    · exact h3 v e
  | n + 1, acc, .inr (.inr o) :: st, f, h => by
    obtain ⟨as, r, h1, h2, h3, h4⟩ := rs_tk_of (n := n) (acc := .inr (.inr o) :: acc) (st := st) h
    refine ⟨.inr (.inr o) :: as, r, by simp [h1], by simp [h2], fun v hv => ?_, by simpa using h4⟩
    rcases List.mem_cons.mp hv with e | e
    · subst e; intro z q; cases q
    · exact h3 v e
  | n + 1, acc, .inr (.inl o) :: st, f, h => h.elim
theorem rs_p1_m {st : List rs_V} {f g : Int → List rs_V → Prop} (m : ∀ x r, f x r → g x r) (h : rs_p1 st f) : rs_p1 st g := by
  obtain ⟨x, r, rfl, h⟩ := rs_p1_of h
  exact m _ _ h
theorem rs_p2_m {st : List rs_V} {f g : Int → Int → List rs_V → Prop} (m : ∀ x y r, f x y r → g x y r) (h : rs_p2 st f) : rs_p2 st g := by
  obtain ⟨x, y, r, rfl, h⟩ := rs_p2_of h
  exact m _ _ _ h
theorem rs_pr_m {st : List rs_V} {f g : Nat → List rs_V → Prop} (m : ∀ x r, f x r → g x r) (h : rs_pr st f) : rs_pr st g := by
  obtain ⟨x, r, rfl, h⟩ := rs_pr_of h
  exact m _ _ h
theorem rs_pl_m {st : List rs_V} {f g : Int → List rs_V → Prop} (m : ∀ x r, f x r → g x r) (h : rs_pl st f) : rs_pl st g := by
  obtain ⟨x, r, rfl, h⟩ := rs_pl_of h
  exact m _ _ h
theorem rs_gi_m {ls : rs_L} {i : Nat} {f g : Int → Prop} (m : ∀ x, f x → g x) (h : rs_gi ls i f) : rs_gi ls i g := by
  obtain ⟨z, h1, h2⟩ := rs_gi_of h
  unfold rs_gi
  rw [h1]
  exact m _ h2
theorem rs_gr_m {ls : rs_L} {i : Nat} {f g : Nat → Prop} (m : ∀ x, f x → g x) (h : rs_gr ls i f) : rs_gr ls i g := by
  obtain ⟨z, h1, h2⟩ := rs_gr_of h
  unfold rs_gr
  rw [h1]
  exact m _ h2
theorem rs_tk_m : ∀ {n : Nat} {acc st : List rs_V} {f g : List rs_V → List rs_V → Prop}, (∀ a r, f a r → g a r) → rs_tk n acc st f → rs_tk n acc st g
  | 0, _, _, _, _, m, h => m _ _ h
  | _ + 1, _, [], _, _, _, h => h.elim
  | n + 1, acc, .inl x :: st, _, _, m, h => rs_tk_m (n := n) (acc := .inl x :: acc) (st := st) m h
  | n + 1, acc, .inr (.inr x) :: st, _, _, m, h => rs_tk_m (n := n) (acc := .inr (.inr x) :: acc) (st := st) m h
  | _ + 1, _, .inr (.inl _) :: _, _, _, _, h => h.elim
theorem rs_sw_m {f g : Int → Prop} (m : ∀ o, f o → g o) {x : Int} : ∀ {k : Int} {l : List Int}, rs_sw f x k l → rs_sw g x k l
  | _, [], _ => trivial
  | k, _ :: r, h => ⟨fun e => m _ (h.1 e), rs_sw_m m (k := k + 1) (l := r) h.2⟩
theorem rs_hn_m {mu pc : Nat} {t : Int} {f g : Nat → Prop} (m : ∀ x, f x → g x) (h : rs_hn mu pc t f) : rs_hn mu pc t g := by
  unfold rs_hn at h ⊢
  split at h
  · refine ⟨h.1, h.2.1, ?_⟩
    have h2 := h.2.2
    split at h2
    · rw [if_pos (by assumption)]; exact m _ h2
    · rw [if_neg (by assumption)]; exact ⟨h2.1, h2.2.1, m _ h2.2.2⟩
  · exact h.elim
theorem rs_cn_m {P Q : rs_T} (m : ∀ u d mu pc ls st I K, P u d mu pc ls st I K → Q u d mu pc ls st I K) {u d mu pc : Nat} {ls : rs_L} {r : List rs_V} {K : rs_K} {v : Option rs_V} {J : rs_M} (h : rs_cn P u d mu pc ls r K v J) : rs_cn Q u d mu pc ls r K v J := by
  rcases v with _ | x | t | o
  · exact m _ _ _ _ _ _ _ _ h
  · exact m _ _ _ _ _ _ _ _ h
  · exact rs_hn_m (fun x h o => m _ _ _ _ _ _ _ _ (h o)) h
  · exact m _ _ _ _ _ _ _ _ h
set_option maxHeartbeats 4000000 in
theorem rs_ins_m {P Q : rs_T} (hQ : rs_mono Q) (m : ∀ u d mu pc ls st I K, P u d mu pc ls st I K → Q u d mu pc ls st I K) {u d mu pc : Nat} {ls : rs_L} {st : List rs_V} {I : rs_M} {K : rs_K} {ln : Nat} {ins : Instr} (h : rs_ins P u d mu pc ls st I K ln ins) : rs_ins Q u d mu pc ls st I K ln ins := by
  have mc : ∀ {u d mu pc : Nat} {ls : rs_L} {st : List rs_V} {I : rs_M} {u2 d2 mu2 pc2 : Nat} {ls2 : rs_L} {r : List rs_V} {K : rs_K}, P u d mu pc ls st I (rs_cn P u2 d2 mu2 pc2 ls2 r K) → Q u d mu pc ls st I (rs_cn Q u2 d2 mu2 pc2 ls2 r K) := fun h => hQ _ _ _ _ _ _ _ _ _ (fun v J h => rs_cn_m m h) (m _ _ _ _ _ _ _ _ h)
  cases ins with
  | iconst z => exact ⟨h.1, h.2.1, m _ _ _ _ _ _ _ _ h.2.2⟩
  | bipush z => exact ⟨h.1, h.2.1, m _ _ _ _ _ _ _ _ h.2.2⟩
  | sipush z => exact ⟨h.1, h.2.1, m _ _ _ _ _ _ _ _ h.2.2⟩
  | ldc i =>
    refine ⟨h.1, ?_⟩
    have h2 := h.2
    cases hc : rs_cst mu i with
    | none => rw [hc] at h2; exact h2.elim
    | some z => rw [hc] at h2; exact m _ _ _ _ _ _ _ _ h2
  | ldc_w i =>
    refine ⟨h.1, ?_⟩
    have h2 := h.2
    cases hc : rs_cst mu i with
    | none => rw [hc] at h2; exact h2.elim
    | some z => rw [hc] at h2; exact m _ _ _ _ _ _ _ _ h2
  | iload_n i => exact ⟨h.1, rs_gi_m (fun x h => m _ _ _ _ _ _ _ _ h) h.2⟩
  | iload i => exact ⟨h.1, rs_gi_m (fun x h => m _ _ _ _ _ _ _ _ h) h.2⟩
  | aload_n i => exact ⟨h.1, rs_gr_m (fun x h => m _ _ _ _ _ _ _ _ h) h.2⟩
  | aload i => exact ⟨h.1, rs_gr_m (fun x h => m _ _ _ _ _ _ _ _ h) h.2⟩
  | istore_n i => exact ⟨h.1, h.2.1, rs_p1_m (fun x r h => m _ _ _ _ _ _ _ _ h) h.2.2⟩
  | istore i => exact ⟨h.1, h.2.1, rs_p1_m (fun x r h => m _ _ _ _ _ _ _ _ h) h.2.2⟩
  | astore_n i => exact ⟨h.1, h.2.1, rs_pr_m (fun x r h => m _ _ _ _ _ _ _ _ h) h.2.2⟩
  | astore i => exact ⟨h.1, h.2.1, rs_pr_m (fun x r h => m _ _ _ _ _ _ _ _ h) h.2.2⟩
  | iinc i n => exact ⟨h.1, h.2.1, rs_gi_m (fun x h => ⟨h.1, m _ _ _ _ _ _ _ _ h.2⟩) h.2.2⟩
  | iadd => exact ⟨h.1, rs_p2_m (fun x y r h => ⟨h.1, m _ _ _ _ _ _ _ _ h.2⟩) h.2⟩
  | isub => exact ⟨h.1, rs_p2_m (fun x y r h => ⟨h.1, m _ _ _ _ _ _ _ _ h.2⟩) h.2⟩
  | imul => exact ⟨h.1, rs_p2_m (fun x y r h => ⟨h.1, m _ _ _ _ _ _ _ _ h.2⟩) h.2⟩
  | idiv => exact ⟨h.1, rs_p2_m (fun x y r h => ⟨h.1, h.2.1, m _ _ _ _ _ _ _ _ h.2.2⟩) h.2⟩
  | irem => exact ⟨h.1, rs_p2_m (fun x y r h => ⟨h.1, h.2.1, m _ _ _ _ _ _ _ _ h.2.2⟩) h.2⟩
  | ineg => exact ⟨h.1, rs_p1_m (fun x r h => ⟨h.1, m _ _ _ _ _ _ _ _ h.2⟩) h.2⟩
  | iand => exact ⟨h.1, rs_p2_m (fun x y r h => m _ _ _ _ _ _ _ _ h) h.2⟩
  | ior => exact ⟨h.1, rs_p2_m (fun x y r h => m _ _ _ _ _ _ _ _ h) h.2⟩
  | ixor => exact ⟨h.1, rs_p2_m (fun x y r h => m _ _ _ _ _ _ _ _ h) h.2⟩
  | ishl => exact ⟨h.1, rs_p2_m (fun x y r h => m _ _ _ _ _ _ _ _ h) h.2⟩
  | ishr => exact ⟨h.1, rs_p2_m (fun x y r h => m _ _ _ _ _ _ _ _ h) h.2⟩
  | iushr => exact ⟨h.1, rs_p2_m (fun x y r h => m _ _ _ _ _ _ _ _ h) h.2⟩
  | i2l => exact ⟨h.1, rs_p1_m (fun x r h => m _ _ _ _ _ _ _ _ h) h.2⟩
  | lcmp => exact ⟨h.1, rs_pl_m (fun x r h => rs_pl_m (fun y r h => m _ _ _ _ _ _ _ _ h) h) h.2⟩
  | dup =>
    refine ⟨h.1, ?_⟩
    have h2 := h.2
    split at h2
    · exact m _ _ _ _ _ _ _ _ h2
    · exact m _ _ _ _ _ _ _ _ h2
    · exact h2.elim
  | dup2 => exact ⟨h.1, rs_p1_m (fun x r h => rs_pr_m (fun y r h => m _ _ _ _ _ _ _ _ h) h) h.2⟩
  | pop => exact ⟨h.1, rs_p1_m (fun x r h => m _ _ _ _ _ _ _ _ h) h.2⟩
  | ifCond c off => exact ⟨h.1, h.2.1, rs_p1_m (fun x r h => ⟨fun e => m _ _ _ _ _ _ _ _ (h.1 e), fun e => m _ _ _ _ _ _ _ _ (h.2 e)⟩) h.2.2⟩
  | if_icmp c off => exact ⟨h.1, h.2.1, rs_p2_m (fun x y r h => ⟨fun e => m _ _ _ _ _ _ _ _ (h.1 e), fun e => m _ _ _ _ _ _ _ _ (h.2 e)⟩) h.2.2⟩
  | goto off => exact ⟨h.1, h.2.1, m _ _ _ _ _ _ _ _ h.2.2⟩
  | tableswitch df lo hi offs => exact ⟨h.1, h.2.1, h.2.2.1, rs_p1_m (fun x r h => ⟨fun e => m _ _ _ _ _ _ _ _ (h.1 e), rs_sw_m (fun o h => m _ _ _ _ _ _ _ _ h) h.2⟩) h.2.2.2⟩
  | getfield i =>
    refine ⟨h.1, rs_pr_m (fun o r h => ?_) h.2⟩
    cases hc : rs_fd mu i with
    | none => rw [hc] at h; exact h.elim
    | some q => rw [hc] at h; exact ⟨h.1, m _ _ _ _ _ _ _ _ h.2⟩
  | putfield i =>
    refine ⟨h.1, rs_p1_m (fun x r h => rs_pr_m (fun o r h => ?_) h) h.2⟩
    cases hc : rs_fd mu i with
    | none => rw [hc] at h; exact h.elim
    | some q => rw [hc] at h; exact ⟨h.1, h.2.1, m _ _ _ _ _ _ _ _ h.2.2⟩
  | iaload =>
    refine ⟨h.1, rs_p1_m (fun x r h => rs_pr_m (fun o r h => ?_) h) h.2⟩
    split at h
    · rw [if_pos (by assumption)]; exact ⟨h.1, m _ _ _ _ _ _ _ _ h.2⟩
    · rw [if_neg (by assumption)]; exact ⟨h.1, h.2.1, m _ _ _ _ _ _ _ _ h.2.2⟩
  | baload => exact ⟨h.1, rs_p1_m (fun x r h => rs_pr_m (fun o r h => ⟨h.1, h.2.1, m _ _ _ _ _ _ _ _ h.2.2⟩) h) h.2⟩
  | laload => exact ⟨h.1, rs_p1_m (fun x r h => rs_pr_m (fun o r h => ⟨h.1, h.2.1, m _ _ _ _ _ _ _ _ h.2.2⟩) h) h.2⟩
  | aaload => exact ⟨h.1, rs_p1_m (fun x r h => rs_pr_m (fun o r h => ⟨h.1, h.2.1, m _ _ _ _ _ _ _ _ h.2.2⟩) h) h.2⟩
  | iastore => exact ⟨h.1, rs_p2_m (fun x y r h => rs_pr_m (fun o r h => ⟨h.1, h.2.1, m _ _ _ _ _ _ _ _ h.2.2⟩) h) h.2⟩
  | bastore => exact ⟨h.1, rs_p2_m (fun x y r h => rs_pr_m (fun o r h => ⟨h.1, h.2.1, h.2.2.1, m _ _ _ _ _ _ _ _ h.2.2.2⟩) h) h.2⟩
  | lastore => exact ⟨h.1, rs_pl_m (fun x r h => rs_p1_m (fun y r h => rs_pr_m (fun o r h => ⟨h.1, h.2.1, m _ _ _ _ _ _ _ _ h.2.2⟩) h) h) h.2⟩
  | arraylength => exact ⟨h.1, rs_pr_m (fun o r h => ⟨h.1, m _ _ _ _ _ _ _ _ h.2⟩) h.2⟩
  | invokevirtual i =>
    refine ⟨h.1, ?_⟩
    have h2 := h.2
    cases hc : rs_tg mu i with
    | none => rw [hc] at h2; exact h2.elim
    | some nu =>
      rw [hc] at h2
      exact ⟨h2.1, rs_tk_m (fun a r h => ⟨h.1, h.2.1, h.2.2.1, h.2.2.2.1, mc h.2.2.2.2⟩) h2.2⟩
  | invokestatic i =>
    refine ⟨h.1, ?_⟩
    have h2 := h.2
    cases hc : rs_tg mu i with
    | some nu =>
      rw [hc] at h2
      exact ⟨h2.1, rs_tk_m (fun a r h => ⟨h.1, h.2.1, h.2.2.1, mc h.2.2.2⟩) h2.2⟩
    | none =>
      rw [hc] at h2
      dsimp only at h2 ⊢
      split at h2
      · exact ⟨h2.1, rs_p2_m (fun x y r h => ⟨h.1, m _ _ _ _ _ _ _ _ h.2⟩) h2.2⟩
      · exact ⟨h2.1, rs_p2_m (fun x y r h => ⟨h.1, m _ _ _ _ _ _ _ _ h.2⟩) h2.2⟩
      · exact ⟨h2.1, rs_p2_m (fun x y r h => rs_pr_m (fun o r h => rs_p1_m (fun z r h => rs_pr_m (fun o r h => ⟨h.1, h.2.1, h.2.2.1, h.2.2.2.1, h.2.2.2.2.1, h.2.2.2.2.2.1, h.2.2.2.2.2.2.1, h.2.2.2.2.2.2.2.1, m _ _ _ _ _ _ _ _ h.2.2.2.2.2.2.2.2⟩) h) h) h) h2.2⟩
      · exact h2.elim
  | new i => exact h
  | ireturn => exact h
  | return_ => exact h
  | _ => exact h.elim
theorem rs_run_mono : rs_mono rs_run := fun u d mu pc ls st I K K' hk h P hP hc => hP _ _ _ _ _ _ _ _ _ hk (h P hP hc)
theorem rs_run_of {u d mu pc : Nat} {ls : rs_L} {st : List rs_V} {I : rs_M} {K : rs_K} (h : rs_stp rs_run u d mu pc ls st I K) : rs_run u d mu pc ls st I K := by
  intro P hP hc
  apply hc
  unfold rs_stp at h ⊢
  split at h
  · exact rs_ins_m hP (fun _ _ _ _ _ _ _ _ h => h P hP hc) h
  · exact h.elim
def rs_inb (x : Nat) : List Nat → Bool
  | [] => false
  | y :: l => (x == y) || rs_inb x l
/-- n instructions of the method m0 at the most; it stops ahead of a place of ct, and at every call -/
def rs_vc (m0 : Nat) (ct : List Nat) : Nat → rs_T
  | 0 => rs_run
  | n + 1 => rs_stp (fun u d mu pc ls st I K => if (mu == m0 && !rs_inb pc ct) = true then rs_vc m0 ct n u d mu pc ls st I K else rs_run u d mu pc ls st I K)
theorem rs_of_vc (m0 : Nat) (ct : List Nat) : ∀ (n : Nat) {u d mu pc : Nat} {ls : rs_L} {st : List rs_V} {I : rs_M} {K : rs_K}, rs_vc m0 ct n u d mu pc ls st I K → rs_run u d mu pc ls st I K
  | 0, _, _, _, _, _, _, _, _, h => h
  | n + 1, u, d, mu, pc, ls, st, I, K, h => by
    apply rs_run_of
    unfold rs_vc rs_stp at h
    unfold rs_stp
    split at h
    · refine rs_ins_m rs_run_mono (fun u d mu pc ls st I K h => ?_) h
      split at h
      · exact rs_of_vc m0 ct n h
      · exact h
    · exact h.elim
theorem rs_p1_c (x : Int) (r : List rs_V) (f : Int → List rs_V → Prop) : rs_p1 (.inl x :: r) f = f x r := rfl
theorem rs_p2_c (x y : Int) (r : List rs_V) (f : Int → Int → List rs_V → Prop) : rs_p2 (.inl y :: .inl x :: r) f = f x y r := rfl
theorem rs_pr_c (o : Nat) (r : List rs_V) (f : Nat → List rs_V → Prop) : rs_pr (.inr (.inr o) :: r) f = f o r := rfl
theorem rs_pl_c (x : Int) (r : List rs_V) (f : Int → List rs_V → Prop) : rs_pl (.inr (.inl x) :: r) f = f x r := rfl
theorem rs_rec_c (o : Nat) (r : List rs_V) (f : Nat → Prop) : rs_rec (.inr (.inr o) :: r) f = f o := rfl
theorem rs_nth_0 {α : Type} (a : α) (l : List α) : rs_nth (a :: l) 0 = some a := rfl
theorem rs_nth_s {α : Type} (a : α) (l : List α) (n : Nat) : rs_nth (a :: l) (n + 1) = rs_nth l n := rfl
theorem rs_st_0 {α : Type} (a v : α) (l : List α) : rs_st (a :: l) 0 v = v :: l := rfl
theorem rs_st_s {α : Type} (a v : α) (l : List α) (n : Nat) : rs_st (a :: l) (n + 1) v = a :: rs_st l n v := rfl
theorem rs_fv0 : ((0 : Fin 4) : Nat) = 0 := rfl
theorem rs_fv1 : ((1 : Fin 4) : Nat) = 1 := rfl
theorem rs_fv2 : ((2 : Fin 4) : Nat) = 2 := rfl
theorem rs_fv3 : ((3 : Fin 4) : Nat) = 3 := rfl
theorem rs_cn_n (P : rs_T) (u d mu pc : Nat) (ls : rs_L) (r : List rs_V) (K : rs_K) (J : rs_M) : rs_cn P u d mu pc ls r K none J = P u d mu (pc + 3) ls r J K := rfl
theorem rs_cn_i (P : rs_T) (u d mu pc : Nat) (ls : rs_L) (r : List rs_V) (K : rs_K) (x : Int) (J : rs_M) : rs_cn P u d mu pc ls r K (some (.inl x)) J = P u d mu (pc + 3) ls (.inl x :: r) J K := rfl
theorem rs_cn_r (P : rs_T) (u d mu pc : Nat) (ls : rs_L) (r : List rs_V) (K : rs_K) (o : Nat) (J : rs_M) : rs_cn P u d mu pc ls r K (some (.inr (.inr o))) J = P u d mu (pc + 3) ls (.inr (.inr o) :: r) J K := rfl
theorem rs_cn_t (P : rs_T) (u d mu pc : Nat) (ls : rs_L) (r : List rs_V) (K : rs_K) (t : Int) (J : rs_M) : rs_cn P u d mu pc ls r K (some (.inr (.inl t))) J = rs_hn mu pc t (fun h => ∀ o, P u d mu h ls [.inr (.inr o)] J K) := rfl
def rs_pv (m0 : Nat) (ct : List Nat) (n : Nat) : rs_T := fun u d mu pc ls st I K => if (mu == m0 && !rs_inb pc ct) = true then rs_vc m0 ct n u d mu pc ls st I K else rs_run u d mu pc ls st I K
theorem rs_vc_s (m0 : Nat) (ct : List Nat) (n u d mu pc : Nat) (ls : rs_L) (st : List rs_V) (I : rs_M) (K : rs_K) : rs_vc m0 ct (n + 1) u d mu pc ls st I K = rs_stp (rs_pv m0 ct n) u d mu pc ls st I K := rfl
theorem rs_vc_0 (m0 : Nat) (ct : List Nat) (u d mu pc : Nat) (ls : rs_L) (st : List rs_V) (I : rs_M) (K : rs_K) : rs_vc m0 ct 0 u d mu pc ls st I K = rs_run u d mu pc ls st I K := rfl
theorem rs_pv_a (m0 : Nat) (ct : List Nat) (n u d mu pc : Nat) (ls : rs_L) (st : List rs_V) (I : rs_M) (K : rs_K) : rs_pv m0 ct n u d mu pc ls st I K = if (mu == m0 && !rs_inb pc ct) = true then rs_vc m0 ct n u d mu pc ls st I K else rs_run u d mu pc ls st I K := rfl
theorem rs_stp_a (P : rs_T) (u d mu pc : Nat) (ls : rs_L) (st : List rs_V) (I : rs_M) (K : rs_K) : rs_stp P u d mu pc ls st I K = match decode (rs_cd mu) pc with
  | .ok (ins, ln) => rs_ins P u d mu pc ls st I K ln ins
  | .error _ => False := rfl
