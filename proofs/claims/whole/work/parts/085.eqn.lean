/-! ===== the run is its own step: an equation for each instruction ===== -/
theorem rs_cn_k {P : rs_T} (hP : rs_mono P) {K K' : rs_K} (hk : ∀ v J, K v J → K' v J) {u d mu pc : Nat} {ls : rs_L} {r : List rs_V} {v : Option rs_V} {J : rs_M} (h : rs_cn P u d mu pc ls r K v J) : rs_cn P u d mu pc ls r K' v J := by
  rcases v with _ | x | t | o
  · exact hP _ _ _ _ _ _ _ _ _ hk h
  · exact hP _ _ _ _ _ _ _ _ _ hk h
  · exact rs_hn_m (fun x h o => hP _ _ _ _ _ _ _ _ _ hk (h o)) h
  · exact hP _ _ _ _ _ _ _ _ _ hk h
set_option maxHeartbeats 4000000 in
theorem rs_ins_k {P : rs_T} (hP : rs_mono P) {K K' : rs_K} (hk : ∀ v J, K v J → K' v J) {u d mu pc : Nat} {ls : rs_L} {st : List rs_V} {I : rs_M} {ln : Nat} {ins : Instr} (h : rs_ins P u d mu pc ls st I K ln ins) : rs_ins P u d mu pc ls st I K' ln ins := by
  have hm : ∀ {u d mu pc : Nat} {ls : rs_L} {st : List rs_V} {I : rs_M}, P u d mu pc ls st I K → P u d mu pc ls st I K' := fun h => hP _ _ _ _ _ _ _ _ _ hk h
  have mc : ∀ {u d mu pc : Nat} {ls : rs_L} {st : List rs_V} {I : rs_M} {u2 d2 mu2 pc2 : Nat} {ls2 : rs_L} {r : List rs_V}, P u d mu pc ls st I (rs_cn P u2 d2 mu2 pc2 ls2 r K) → P u d mu pc ls st I (rs_cn P u2 d2 mu2 pc2 ls2 r K') := fun h => hP _ _ _ _ _ _ _ _ _ (fun v J h => rs_cn_k hP hk h) h
  cases ins with
  | iconst z => exact ⟨h.1, h.2.1, hm h.2.2⟩
  | bipush z => exact ⟨h.1, h.2.1, hm h.2.2⟩
  | sipush z => exact ⟨h.1, h.2.1, hm h.2.2⟩
  | ldc i =>
    refine ⟨h.1, ?_⟩
    have h2 := h.2
    cases hc : rs_cst mu i with
    | none => rw [hc] at h2; exact h2.elim
    | some z => rw [hc] at h2; exact hm h2
  | ldc_w i =>
    refine ⟨h.1, ?_⟩
    have h2 := h.2
    cases hc : rs_cst mu i with
    | none => rw [hc] at h2; exact h2.elim
    | some z => rw [hc] at h2; exact hm h2
  | iload_n i => exact ⟨h.1, rs_gi_m (fun x h => hm h) h.2⟩
  | iload i => exact ⟨h.1, rs_gi_m (fun x h => hm h) h.2⟩
  | aload_n i => exact ⟨h.1, rs_gr_m (fun x h => hm h) h.2⟩
  | aload i => exact ⟨h.1, rs_gr_m (fun x h => hm h) h.2⟩
  | istore_n i => exact ⟨h.1, h.2.1, rs_p1_m (fun x r h => hm h) h.2.2⟩
  | istore i => exact ⟨h.1, h.2.1, rs_p1_m (fun x r h => hm h) h.2.2⟩
  | astore_n i => exact ⟨h.1, h.2.1, rs_pr_m (fun x r h => hm h) h.2.2⟩
  | astore i => exact ⟨h.1, h.2.1, rs_pr_m (fun x r h => hm h) h.2.2⟩
  | iinc i n => exact ⟨h.1, h.2.1, rs_gi_m (fun x h => ⟨h.1, hm h.2⟩) h.2.2⟩
  | iadd => exact ⟨h.1, rs_p2_m (fun x y r h => ⟨h.1, hm h.2⟩) h.2⟩
  | isub => exact ⟨h.1, rs_p2_m (fun x y r h => ⟨h.1, hm h.2⟩) h.2⟩
  | imul => exact ⟨h.1, rs_p2_m (fun x y r h => ⟨h.1, hm h.2⟩) h.2⟩
  | idiv => exact ⟨h.1, rs_p2_m (fun x y r h => ⟨h.1, h.2.1, hm h.2.2⟩) h.2⟩
  | irem => exact ⟨h.1, rs_p2_m (fun x y r h => ⟨h.1, h.2.1, hm h.2.2⟩) h.2⟩
  | ineg => exact ⟨h.1, rs_p1_m (fun x r h => ⟨h.1, hm h.2⟩) h.2⟩
  | iand => exact ⟨h.1, rs_p2_m (fun x y r h => hm h) h.2⟩
  | ior => exact ⟨h.1, rs_p2_m (fun x y r h => hm h) h.2⟩
  | ixor => exact ⟨h.1, rs_p2_m (fun x y r h => hm h) h.2⟩
  | ishl => exact ⟨h.1, rs_p2_m (fun x y r h => hm h) h.2⟩
  | ishr => exact ⟨h.1, rs_p2_m (fun x y r h => hm h) h.2⟩
  | iushr => exact ⟨h.1, rs_p2_m (fun x y r h => hm h) h.2⟩
  | i2l => exact ⟨h.1, rs_p1_m (fun x r h => hm h) h.2⟩
  | lcmp => exact ⟨h.1, rs_pl_m (fun x r h => rs_pl_m (fun y r h => hm h) h) h.2⟩
  | dup =>
    refine ⟨h.1, ?_⟩
    have h2 := h.2
    split at h2
    · exact hm h2
    · exact hm h2
    · exact h2.elim
  | dup2 => exact ⟨h.1, rs_p1_m (fun x r h => rs_pr_m (fun y r h => hm h) h) h.2⟩
  | pop => exact ⟨h.1, rs_p1_m (fun x r h => hm h) h.2⟩
  | ifCond c off => exact ⟨h.1, h.2.1, rs_p1_m (fun x r h => ⟨fun e => hm (h.1 e), fun e => hm (h.2 e)⟩) h.2.2⟩
  | if_icmp c off => exact ⟨h.1, h.2.1, rs_p2_m (fun x y r h => ⟨fun e => hm (h.1 e), fun e => hm (h.2 e)⟩) h.2.2⟩
  | goto off => exact ⟨h.1, h.2.1, hm h.2.2⟩
  | tableswitch df lo hi offs => exact ⟨h.1, h.2.1, h.2.2.1, rs_p1_m (fun x r h => ⟨fun e => hm (h.1 e), rs_sw_m (fun o h => hm h) h.2⟩) h.2.2.2⟩
  | getfield i =>
    refine ⟨h.1, rs_pr_m (fun o r h => ?_) h.2⟩
    cases hc : rs_fd mu i with
    | none => rw [hc] at h; exact h.elim
    | some q => rw [hc] at h; exact ⟨h.1, hm h.2⟩
  | putfield i =>
    refine ⟨h.1, rs_p1_m (fun x r h => rs_pr_m (fun o r h => ?_) h) h.2⟩
    cases hc : rs_fd mu i with
    | none => rw [hc] at h; exact h.elim
    | some q => rw [hc] at h; exact ⟨h.1, h.2.1, hm h.2.2⟩
  | iaload =>
    refine ⟨h.1, rs_p1_m (fun x r h => rs_pr_m (fun o r h => ?_) h) h.2⟩
    split at h
    · rw [if_pos (by assumption)]; exact ⟨h.1, hm h.2⟩
    · rw [if_neg (by assumption)]; exact ⟨h.1, h.2.1, hm h.2.2⟩
  | baload => exact ⟨h.1, rs_p1_m (fun x r h => rs_pr_m (fun o r h => ⟨h.1, h.2.1, hm h.2.2⟩) h) h.2⟩
  | laload => exact ⟨h.1, rs_p1_m (fun x r h => rs_pr_m (fun o r h => ⟨h.1, h.2.1, hm h.2.2⟩) h) h.2⟩
  | aaload => exact ⟨h.1, rs_p1_m (fun x r h => rs_pr_m (fun o r h => ⟨h.1, h.2.1, hm h.2.2⟩) h) h.2⟩
  | iastore => exact ⟨h.1, rs_p2_m (fun x y r h => rs_pr_m (fun o r h => ⟨h.1, h.2.1, hm h.2.2⟩) h) h.2⟩
  | bastore => exact ⟨h.1, rs_p2_m (fun x y r h => rs_pr_m (fun o r h => ⟨h.1, h.2.1, h.2.2.1, hm h.2.2.2⟩) h) h.2⟩
  | lastore => exact ⟨h.1, rs_pl_m (fun x r h => rs_p1_m (fun y r h => rs_pr_m (fun o r h => ⟨h.1, h.2.1, hm h.2.2⟩) h) h) h.2⟩
  | arraylength => exact ⟨h.1, rs_pr_m (fun o r h => ⟨h.1, hm h.2⟩) h.2⟩
  | invokevirtual i =>
    refine ⟨h.1, ?_⟩
    have h2 := h.2
    cases hc : rs_tg mu i with
    | none => rw [hc] at h2; exact h2.elim
    | some nu =>
      rw [hc] at h2
      exact ⟨h2.1, rs_tk_m (fun a r h => ⟨h.1, h.2.1, h.2.2.1, h.2.2.2.1, mc h.2.2.2.2⟩) h2.2⟩
  | invokestatic i =>
    refine ⟨h.1, ?_⟩
    have h2 := h.2
    cases hc : rs_tg mu i with
    | some nu =>
      rw [hc] at h2
      exact ⟨h2.1, rs_tk_m (fun a r h => ⟨h.1, h.2.1, h.2.2.1, mc h.2.2.2⟩) h2.2⟩
    | none =>
      rw [hc] at h2
      dsimp only at h2 ⊢
      split at h2
      · exact ⟨h2.1, rs_p2_m (fun x y r h => ⟨h.1, hm h.2⟩) h2.2⟩
      · exact ⟨h2.1, rs_p2_m (fun x y r h => ⟨h.1, hm h.2⟩) h2.2⟩
      · exact ⟨h2.1, rs_p2_m (fun x y r h => rs_pr_m (fun o r h => rs_p1_m (fun z r h => rs_pr_m (fun o r h => ⟨h.1, h.2.1, h.2.2.1, h.2.2.2.1, h.2.2.2.2.1, h.2.2.2.2.2.1, h.2.2.2.2.2.2.1, h.2.2.2.2.2.2.2.1, hm h.2.2.2.2.2.2.2.2⟩) h) h) h) h2.2⟩
      · exact h2.elim
  | new i =>
    refine ⟨h.1, ?_⟩
    have h2 := h.2
    cases hc : rs_th mu pc with
    | none => rw [hc] at h2; exact h2.elim
    | some t => rw [hc] at h2; exact ⟨h2.1, h2.2.1, h2.2.2.1, hk _ _ h2.2.2.2⟩
  | ireturn => exact ⟨h.1, rs_p1_m (fun x r h => ⟨h.1, h.2.1, hk _ _ h.2.2⟩) h.2⟩
  | return_ => exact ⟨h.1, h.2.1, h.2.2.1, hk _ _ h.2.2.2⟩
  | _ => exact h.elim
theorem rs_run_eq (u d mu pc : Nat) (ls : rs_L) (st : List rs_V) (I : rs_M) (K : rs_K) : rs_run u d mu pc ls st I K = rs_stp rs_run u d mu pc ls st I K := by
  apply propext
  refine ⟨fun h => h (rs_stp rs_run) ?_ ?_, rs_run_of⟩
  · intro u d mu pc ls st I K K' hk h
    unfold rs_stp at h ⊢
    split at h
    · exact rs_ins_k rs_run_mono hk h
    · exact h.elim
  · intro u d mu pc ls st I K h
    unfold rs_stp at h ⊢
    split at h
    · exact rs_ins_m rs_run_mono (fun _ _ _ _ _ _ _ _ h => rs_run_of h) h
    · exact h.elim
theorem rs_q (u d mu pc : Nat) (ls : rs_L) (st : List rs_V) (I : rs_M) (K : rs_K) {ins : Instr} {ln : Nat} (hd : decode (rs_cd mu) pc = .ok (ins, ln)) : rs_run u d mu pc ls st I K = rs_ins rs_run u d mu pc ls st I K ln ins := by
  rw [rs_run_eq]
  unfold rs_stp
  rw [hd]
