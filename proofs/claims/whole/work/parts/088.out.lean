/-! ===== a run has an outcome, where no call's throw is caught ===== -/
def rs_D (T : rs_K → Prop) (K : rs_K) : Prop := ∃ v J, K v J ∧ ∀ K' : rs_K, K' v J → T K'
theorem rs_D_m {T T' : rs_K → Prop} {K : rs_K} (h : rs_D T K) (m : ∀ K', T K' → T' K') : rs_D T' K := by
  obtain ⟨v, J, h1, h2⟩ := h
  exact ⟨v, J, h1, fun K' q => m K' (h2 K' q)⟩
def rs_P : rs_T := fun u d mu pc ls st I K => rs_run u d mu pc ls st I K ∧ (mu < 116 → rs_D (rs_run u d mu pc ls st I) K)
theorem rs_gi_i {ls : rs_L} {i : Nat} {f : Int → Prop} {z : Int} (e : rs_nth ls i = some (some (.inl z))) (h : f z) : rs_gi ls i f := by
  unfold rs_gi; rw [e]; exact h
theorem rs_gr_i {ls : rs_L} {i : Nat} {f : Nat → Prop} {o : Nat} (e : rs_nth ls i = some (some (.inr (.inr o)))) (h : f o) : rs_gr ls i f := by
  unfold rs_gr; rw [e]; exact h
theorem rs_sw_lt {f : Int → Prop} {x : Int} : ∀ {k : Int} {l : List Int}, x < k → rs_sw f x k l
  | _, [], _ => trivial
  | k, o :: l, h => ⟨fun e => by omega, rs_sw_lt (by omega)⟩
theorem rs_sw_D {f : Int → Prop} {x : Int} : ∀ {k : Int} {l : List Int}, rs_sw f x k l → k ≤ x → x < k + l.length → ∃ o, f o ∧ ∀ g : Int → Prop, g o → rs_sw g x k l
  | k, [], _, h1, h2 => by simp at h2; omega
  | k, o :: l, h, h1, h2 => by
    by_cases e : x = k
    · exact ⟨o, h.1 e, fun g q => ⟨fun _ => q, rs_sw_lt (by omega)⟩⟩
    · rw [List.length_cons] at h2
      obtain ⟨o', p1, p2⟩ := rs_sw_D (k := k + 1) (l := l) h.2 (by omega) (by omega)
      exact ⟨o', p1, fun g q => ⟨fun q' => absurd q' e, p2 g q⟩⟩
theorem rs_tk_D : ∀ {n : Nat} {acc st : List rs_V} {f : List rs_V → List rs_V → Prop}, rs_tk n acc st f → ∃ a r, f a r ∧ ∀ g : List rs_V → List rs_V → Prop, g a r → rs_tk n acc st g
  | 0, acc, st, f, h => ⟨acc, st, h, fun g q => q⟩
  | n + 1, acc, [], f, h => h.elim
  | n + 1, acc, .inl x :: st, f, h => by
    obtain ⟨a, r, h1, h2⟩ := rs_tk_D (n := n) (acc := .inl x :: acc) (st := st) h
    exact ⟨a, r, h1, h2⟩
  | n + 1, acc, .inr (.inr o) :: st, f, h => by
    obtain ⟨a, r, h1, h2⟩ := rs_tk_D (n := n) (acc := .inr (.inr o) :: acc) (st := st) h
    exact ⟨a, r, h1, h2⟩
  | n + 1, acc, .inr (.inl o) :: st, f, h => h.elim
theorem rs_hd_n {mu : Nat} (h : mu < 116) : rs_hd mu = none := by
  unfold rs_hd
  split
  all_goals first | omega | rfl
theorem rs_oc_n : ∀ mu, mu < 116 → rs_oc mu ≠ 9 := by decide +kernel
theorem rs_tgL_n : rs_tgL.all (fun q => decide (q.1 ≠ 9 → q.2.2.1 < 116)) = true := by decide +kernel
theorem rs_tg_n {mu i nu : Nat} (h : mu < 116) (e : rs_tg mu i = some nu) : nu < 116 := by
  unfold rs_tg at e
  cases hl : rs_lk rs_tgL (rs_oc mu) i with
  | none => rw [hl] at e; cases e
  | some q =>
    rw [hl] at e
    have m := rs_lk_mem hl
    have a := List.all_eq_true.mp rs_tgL_n _ m
    simp only [decide_eq_true_eq] at a
    have b := a (rs_oc_n mu h)
    have c : q.1 = nu := by simpa using e
    omega
theorem rs_cn_D {u d mu pc : Nat} {ls : rs_L} {r : List rs_V} {K : rs_K} {v : Option rs_V} {J : rs_M} (hmu : mu < 116) (h : rs_cn rs_P u d mu pc ls r K v J) : rs_D (fun K' => rs_cn rs_run u d mu pc ls r K' v J) K := by
  rcases v with _ | x | t | o
  · exact h.2 hmu
  · exact h.2 hmu
  · have h' : rs_hn mu pc t (fun h => ∀ o, rs_P u d mu h ls [.inr (.inr o)] J K) := h
    unfold rs_hn at h'
    rw [rs_hd_n hmu] at h'
    exact h'.elim
  · exact h.2 hmu
set_option maxHeartbeats 4000000 in
theorem rs_ins_D {u d mu pc : Nat} {ls : rs_L} {st : List rs_V} {I : rs_M} {K : rs_K} {ln : Nat} {ins : Instr} (hmu : mu < 116) (h : rs_ins rs_P u d mu pc ls st I K ln ins) : rs_D (fun K' => rs_ins rs_run u d mu pc ls st I K' ln ins) K := by
  have cl : ∀ {u2 d2 nu : Nat} {as r : List rs_V} {u3 : Nat}, nu < 116 → rs_P u2 d2 nu 0 (rs_en0 as (rs_mx nu)) [] I (rs_cn rs_P u3 d mu pc ls r K) → rs_D (fun K' => rs_run u2 d2 nu 0 (rs_en0 as (rs_mx nu)) [] I (rs_cn rs_run u3 d mu pc ls r K')) K := fun hnu h => by
    obtain ⟨v, J, h1, h2⟩ := h.2 hnu
    exact rs_D_m (rs_cn_D hmu h1) (fun K' q => h2 _ q)
  cases ins with
  | iconst z => exact rs_D_m (h.2.2.2 hmu) (fun K' q => ⟨h.1, h.2.1, q⟩)
  | bipush z => exact rs_D_m (h.2.2.2 hmu) (fun K' q => ⟨h.1, h.2.1, q⟩)
  | sipush z => exact rs_D_m (h.2.2.2 hmu) (fun K' q => ⟨h.1, h.2.1, q⟩)
  | ldc i =>
    have h2 := h.2
    cases hc : rs_cst mu i with
    | none => rw [hc] at h2; exact h2.elim
    | some z =>
      rw [hc] at h2
      exact rs_D_m (h2.2 hmu) (fun K' q => ⟨h.1, by rw [hc]; exact q⟩)
  | ldc_w i =>
    have h2 := h.2
    cases hc : rs_cst mu i with
    | none => rw [hc] at h2; exact h2.elim
    | some z =>
      rw [hc] at h2
      exact rs_D_m (h2.2 hmu) (fun K' q => ⟨h.1, by rw [hc]; exact q⟩)
  | iload_n i => obtain ⟨z, e, h2⟩ := rs_gi_of h.2; exact rs_D_m (h2.2 hmu) (fun K' q => ⟨h.1, rs_gi_i e q⟩)
  | iload i => obtain ⟨z, e, h2⟩ := rs_gi_of h.2; exact rs_D_m (h2.2 hmu) (fun K' q => ⟨h.1, rs_gi_i e q⟩)
  | aload_n i => obtain ⟨z, e, h2⟩ := rs_gr_of h.2; exact rs_D_m (h2.2 hmu) (fun K' q => ⟨h.1, rs_gr_i e q⟩)
  | aload i => obtain ⟨z, e, h2⟩ := rs_gr_of h.2; exact rs_D_m (h2.2 hmu) (fun K' q => ⟨h.1, rs_gr_i e q⟩)
  | istore_n i => obtain ⟨x, r, rfl, h2⟩ := rs_p1_of h.2.2; exact rs_D_m (h2.2 hmu) (fun K' q => ⟨h.1, h.2.1, q⟩)
  | istore i => obtain ⟨x, r, rfl, h2⟩ := rs_p1_of h.2.2; exact rs_D_m (h2.2 hmu) (fun K' q => ⟨h.1, h.2.1, q⟩)
  | astore_n i => obtain ⟨x, r, rfl, h2⟩ := rs_pr_of h.2.2; exact rs_D_m (h2.2 hmu) (fun K' q => ⟨h.1, h.2.1, q⟩)
  | astore i => obtain ⟨x, r, rfl, h2⟩ := rs_pr_of h.2.2; exact rs_D_m (h2.2 hmu) (fun K' q => ⟨h.1, h.2.1, q⟩)
  | iinc i n => obtain ⟨z, e, h2⟩ := rs_gi_of h.2.2; exact rs_D_m (h2.2.2 hmu) (fun K' q => ⟨h.1, h.2.1, rs_gi_i e ⟨h2.1, q⟩⟩)
  | iadd => obtain ⟨x, y, r, rfl, h2⟩ := rs_p2_of h.2; exact rs_D_m (h2.2.2 hmu) (fun K' q => ⟨h.1, h2.1, q⟩)
  | isub => obtain ⟨x, y, r, rfl, h2⟩ := rs_p2_of h.2; exact rs_D_m (h2.2.2 hmu) (fun K' q => ⟨h.1, h2.1, q⟩)
  | imul => obtain ⟨x, y, r, rfl, h2⟩ := rs_p2_of h.2; exact rs_D_m (h2.2.2 hmu) (fun K' q => ⟨h.1, h2.1, q⟩)
  | idiv => obtain ⟨x, y, r, rfl, h2⟩ := rs_p2_of h.2; exact rs_D_m (h2.2.2.2 hmu) (fun K' q => ⟨h.1, h2.1, h2.2.1, q⟩)
  | irem => obtain ⟨x, y, r, rfl, h2⟩ := rs_p2_of h.2; exact rs_D_m (h2.2.2.2 hmu) (fun K' q => ⟨h.1, h2.1, h2.2.1, q⟩)
  | ineg => obtain ⟨x, r, rfl, h2⟩ := rs_p1_of h.2; exact rs_D_m (h2.2.2 hmu) (fun K' q => ⟨h.1, h2.1, q⟩)
  | iand => obtain ⟨x, y, r, rfl, h2⟩ := rs_p2_of h.2; exact rs_D_m (h2.2 hmu) (fun K' q => ⟨h.1, q⟩)
  | ior => obtain ⟨x, y, r, rfl, h2⟩ := rs_p2_of h.2; exact rs_D_m (h2.2 hmu) (fun K' q => ⟨h.1, q⟩)
  | ixor => obtain ⟨x, y, r, rfl, h2⟩ := rs_p2_of h.2; exact rs_D_m (h2.2 hmu) (fun K' q => ⟨h.1, q⟩)
  | ishl => obtain ⟨x, y, r, rfl, h2⟩ := rs_p2_of h.2; exact rs_D_m (h2.2 hmu) (fun K' q => ⟨h.1, q⟩)
  | ishr => obtain ⟨x, y, r, rfl, h2⟩ := rs_p2_of h.2; exact rs_D_m (h2.2 hmu) (fun K' q => ⟨h.1, q⟩)
  | iushr => obtain ⟨x, y, r, rfl, h2⟩ := rs_p2_of h.2; exact rs_D_m (h2.2 hmu) (fun K' q => ⟨h.1, q⟩)
  | i2l => obtain ⟨x, r, rfl, h2⟩ := rs_p1_of h.2; exact rs_D_m (h2.2 hmu) (fun K' q => ⟨h.1, q⟩)
  | lcmp =>
    obtain ⟨x, r, rfl, h2⟩ := rs_pl_of h.2
    obtain ⟨y, r, rfl, h3⟩ := rs_pl_of h2
    exact rs_D_m (h3.2 hmu) (fun K' q => ⟨h.1, q⟩)
  | dup =>
    obtain ⟨h1, h2⟩ := h
    split at h2
    · exact rs_D_m (h2.2 hmu) (fun K' q => ⟨h1, q⟩)
    · exact rs_D_m (h2.2 hmu) (fun K' q => ⟨h1, q⟩)
    · exact h2.elim
  | dup2 =>
    obtain ⟨x, r, rfl, h2⟩ := rs_p1_of h.2
    obtain ⟨y, r, rfl, h3⟩ := rs_pr_of h2
    exact rs_D_m (h3.2 hmu) (fun K' q => ⟨h.1, q⟩)
  | pop => obtain ⟨x, r, rfl, h2⟩ := rs_p1_of h.2; exact rs_D_m (h2.2 hmu) (fun K' q => ⟨h.1, q⟩)
  | ifCond c off =>
    obtain ⟨x, r, rfl, h2⟩ := rs_p1_of h.2.2
    by_cases e : rs_cnd c x 0
    · exact rs_D_m ((h2.1 e).2 hmu) (fun K' q => ⟨h.1, h.2.1, fun _ => q, fun n => absurd e n⟩)
    · exact rs_D_m ((h2.2 e).2 hmu) (fun K' q => ⟨h.1, h.2.1, fun n => absurd n e, fun _ => q⟩)
  | if_icmp c off =>
    obtain ⟨x, y, r, rfl, h2⟩ := rs_p2_of h.2.2
    by_cases e : rs_cnd c x y
    · exact rs_D_m ((h2.1 e).2 hmu) (fun K' q => ⟨h.1, h.2.1, fun _ => q, fun n => absurd e n⟩)
    · exact rs_D_m ((h2.2 e).2 hmu) (fun K' q => ⟨h.1, h.2.1, fun n => absurd n e, fun _ => q⟩)
  | goto off => exact rs_D_m (h.2.2.2 hmu) (fun K' q => ⟨h.1, h.2.1, q⟩)
  | tableswitch df lo hi offs =>
    obtain ⟨x, r, rfl, h2⟩ := rs_p1_of h.2.2.2
    have sz := h.2.2.1
    by_cases e : x < lo ∨ hi < x
    · refine rs_D_m ((h2.1 e).2 hmu) (fun K' q => ⟨h.1, h.2.1, h.2.2.1, fun _ => q, ?_⟩)
      by_cases e1 : x < lo
      · exact rs_sw_lt e1
      · have : ∀ {k : Int} {l : List Int} {f : Int → Prop}, k + l.length ≤ x → rs_sw f x k l := by
          intro k l f
          induction l generalizing k with
          | nil => intro _; trivial
          | cons o l ih =>
            intro g
            rw [List.length_cons] at g
            exact ⟨fun q => by omega, ih (by omega)⟩
        apply this
        rw [Array.length_toList]
        omega
    · obtain ⟨o, p1, p2⟩ := rs_sw_D h2.2 (by omega) (by rw [Array.length_toList]; omega)
      exact rs_D_m (p1.2 hmu) (fun K' q => ⟨h.1, h.2.1, h.2.2.1, fun n => absurd n e, p2 _ q⟩)
  | getfield i =>
    obtain ⟨o, r, rfl, h2⟩ := rs_pr_of h.2
    cases hc : rs_fd mu i with
    | none => rw [hc] at h2; exact h2.elim
    | some p =>
      rw [hc] at h2
      exact rs_D_m (h2.2.2 hmu) (fun K' q => ⟨h.1, by show match rs_fd mu i with | some (ci, k, t) => _ | none => False; rw [hc]; exact ⟨h2.1, q⟩⟩)
  | putfield i =>
    obtain ⟨x, r, rfl, h2⟩ := rs_p1_of h.2
    obtain ⟨o, r, rfl, h3⟩ := rs_pr_of h2
    cases hc : rs_fd mu i with
    | none => rw [hc] at h3; exact h3.elim
    | some p =>
      rw [hc] at h3
      exact rs_D_m (h3.2.2.2 hmu) (fun K' q => ⟨h.1, by show match rs_fd mu i with | some (ci, k, t) => _ | none => False; rw [hc]; exact ⟨h3.1, h3.2.1, q⟩⟩)
  | iaload =>
    obtain ⟨j, r, rfl, h2⟩ := rs_p1_of h.2
    obtain ⟨o, r, rfl, h3⟩ := rs_pr_of h2
    have nm : ¬ (mu = 116 ∧ o = 0) := fun g => by omega
    rw [if_neg nm] at h3
    exact rs_D_m (h3.2.2.2 hmu) (fun K' q => ⟨h.1, by show (if mu = 116 ∧ o = 0 then _ else _); rw [if_neg nm]; exact ⟨h3.1, h3.2.1, q⟩⟩)
  | baload =>
    obtain ⟨j, r, rfl, h2⟩ := rs_p1_of h.2
    obtain ⟨o, r, rfl, h3⟩ := rs_pr_of h2
    exact rs_D_m (h3.2.2.2 hmu) (fun K' q => ⟨h.1, h3.1, h3.2.1, q⟩)
  | laload =>
    obtain ⟨j, r, rfl, h2⟩ := rs_p1_of h.2
    obtain ⟨o, r, rfl, h3⟩ := rs_pr_of h2
    exact rs_D_m (h3.2.2.2 hmu) (fun K' q => ⟨h.1, h3.1, h3.2.1, q⟩)
  | aaload =>
    obtain ⟨j, r, rfl, h2⟩ := rs_p1_of h.2
    obtain ⟨o, r, rfl, h3⟩ := rs_pr_of h2
    exact rs_D_m (h3.2.2.2 hmu) (fun K' q => ⟨h.1, h3.1, h3.2.1, q⟩)
  | iastore =>
    obtain ⟨x, y, r, rfl, h2⟩ := rs_p2_of h.2
    obtain ⟨o, r, rfl, h3⟩ := rs_pr_of h2
    exact rs_D_m (h3.2.2.2 hmu) (fun K' q => ⟨h.1, h3.1, h3.2.1, q⟩)
  | bastore =>
    obtain ⟨x, y, r, rfl, h2⟩ := rs_p2_of h.2
    obtain ⟨o, r, rfl, h3⟩ := rs_pr_of h2
    exact rs_D_m (h3.2.2.2.2 hmu) (fun K' q => ⟨h.1, h3.1, h3.2.1, h3.2.2.1, q⟩)
  | lastore =>
    obtain ⟨x, r, rfl, h2⟩ := rs_pl_of h.2
    obtain ⟨y, r, rfl, h3⟩ := rs_p1_of h2
    obtain ⟨o, r, rfl, h4⟩ := rs_pr_of h3
    exact rs_D_m (h4.2.2.2 hmu) (fun K' q => ⟨h.1, h4.1, h4.2.1, q⟩)
  | arraylength =>
    obtain ⟨o, r, rfl, h2⟩ := rs_pr_of h.2
    exact rs_D_m (h2.2.2 hmu) (fun K' q => ⟨h.1, h2.1, q⟩)
  | invokevirtual i =>
    have h2 := h.2
    cases hc : rs_tg mu i with
    | none => rw [hc] at h2; exact h2.elim
    | some nu =>
      rw [hc] at h2
      obtain ⟨a, r, p1, p2⟩ := rs_tk_D h2.2
      exact rs_D_m (cl (rs_tg_n hmu hc) p1.2.2.2.2) (fun K' q => ⟨h.1, by rw [hc]; exact ⟨h2.1, p2 _ ⟨p1.1, p1.2.1, p1.2.2.1, p1.2.2.2.1, q⟩⟩⟩)
  | invokestatic i =>
    have h2 := h.2
    cases hc : rs_tg mu i with
    | some nu =>
      rw [hc] at h2
      obtain ⟨a, r, p1, p2⟩ := rs_tk_D h2.2
      exact rs_D_m (cl (rs_tg_n hmu hc) p1.2.2.2) (fun K' q => ⟨h.1, by rw [hc]; exact ⟨h2.1, p2 _ ⟨p1.1, p1.2.1, p1.2.2.1, q⟩⟩⟩)
    | none =>
      rw [hc] at h2
      dsimp only at h2
      split at h2
      · rename_i hs
        obtain ⟨x, y, r, rfl, h3⟩ := rs_p2_of h2.2
        exact rs_D_m (h3.2.2 hmu) (fun K' q => ⟨h.1, by rw [hc]; dsimp only; rw [hs]; exact ⟨h2.1, h3.1, q⟩⟩)
      · rename_i hs
        obtain ⟨x, y, r, rfl, h3⟩ := rs_p2_of h2.2
        exact rs_D_m (h3.2.2 hmu) (fun K' q => ⟨h.1, by rw [hc]; dsimp only; rw [hs]; exact ⟨h2.1, h3.1, q⟩⟩)
      · rename_i hs
        obtain ⟨x, y, r, rfl, h3⟩ := rs_p2_of h2.2
        obtain ⟨o, r, rfl, h4⟩ := rs_pr_of h3
        obtain ⟨z, r, rfl, h5⟩ := rs_p1_of h4
        obtain ⟨o', r, rfl, h6⟩ := rs_pr_of h5
        exact rs_D_m (h6.2.2.2.2.2.2.2.2.2 hmu) (fun K' q => ⟨h.1, by rw [hc]; dsimp only; rw [hs]; exact ⟨h2.1, h6.1, h6.2.1, h6.2.2.1, h6.2.2.2.1, h6.2.2.2.2.1, h6.2.2.2.2.2.1, h6.2.2.2.2.2.2.1, h6.2.2.2.2.2.2.2.1, q⟩⟩)
      · exact h2.elim
  | new i =>
    have h2 := h.2
    cases hc : rs_th mu pc with
    | none => rw [hc] at h2; exact h2.elim
    | some t =>
      rw [hc] at h2
      exact ⟨_, _, h2.2.2.2, fun K' q => ⟨h.1, by rw [hc]; exact ⟨h2.1, h2.2.1, h2.2.2.1, q⟩⟩⟩
  | ireturn => obtain ⟨x, r, rfl, h2⟩ := rs_p1_of h.2; exact ⟨_, _, h2.2.2, fun K' q => ⟨h.1, h2.1, h2.2.1, q⟩⟩
  | return_ => exact ⟨_, _, h.2.2.2, fun K' q => ⟨h.1, h.2.1, h.2.2.1, q⟩⟩
  | _ => exact h.elim
/-- a run of the class's or the reference's code ends in one way -/
theorem rs_out {u d mu pc : Nat} {ls : rs_L} {st : List rs_V} {I : rs_M} {K : rs_K} (hmu : mu < 116) (h : rs_run u d mu pc ls st I K) : ∃ v J, K v J ∧ ∀ K' : rs_K, K' v J → rs_run u d mu pc ls st I K' := by
  have hP : rs_P u d mu pc ls st I K := h rs_P (fun u d mu pc ls st I K K' hk h => ⟨rs_run_mono _ _ _ _ _ _ _ _ _ hk h.1, fun g => by
    obtain ⟨v, J, a, b⟩ := h.2 g
    exact ⟨v, J, hk _ _ a, b⟩⟩) (fun u d mu pc ls st I K h => by
    unfold rs_stp at h
    split at h
    · rename_i ins ln hd
      refine ⟨?_, fun g => ?_⟩
      · rw [rs_q u d mu pc ls st I K hd]
        exact rs_ins_m rs_run_mono (fun _ _ _ _ _ _ _ _ h => h.1) h
      · exact rs_D_m (rs_ins_D g h) (fun K' q => by rw [rs_q u d mu pc ls st I K' hd]; exact q)
    · exact h.elim)
  exact hP.2 hmu
