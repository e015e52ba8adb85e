/-! ===== THE LAW: every answer of the class is the reference's ===== -/
theorem ci_ini {L : Nat} {xs : Nat → Int32} : ci L xs (rs_ini L xs) := by
  have z : ∀ a j, a ≠ 0 → rs_ini L xs a j = 0 := fun a j h => by
    unfold rs_ini
    rw [if_neg h]
  have k6 := z 6 2 (by omega)
  have k7 := z 1 7 (by omega)
  have k8 := z 1 8 (by omega)
  refine ⟨fun j => rfl, ⟨0, ⟨by omega, z _ _ (by omega), z _ _ (by omega)⟩, ⟨fun j hj => ?_, fun j hj => by omega⟩, ⟨by rw [k6]; omega, by rw [k6]; exact z _ _ (by omega), fun r hr => ?_⟩, fun t ht => ?_, ⟨by rw [k7]; omega, by rw [k7]; exact z _ _ (by omega), fun e he => ?_⟩, ?_⟩, ⟨by rw [k8]; omega, by rw [k8]; exact z _ _ (by omega), fun k hk => ?_⟩, ⟨0, by omega, z _ _ (by omega), z _ _ (by omega), fun j hj => by omega⟩, ?_⟩
  · rw [z 3 j (by omega), z 4 j (by omega)]; omega
  · rw [k6] at hr; simp at hr
  · have q := z (24 + 3 * t) 2 (by omega)
    refine ⟨by rw [q]; omega, by rw [q]; exact z _ _ (by omega), fun r hr => ?_⟩
    rw [q] at hr
    simp at hr
  · rw [k7] at he; simp at he
  · show rs_ini L xs 88 17 = _
    rw [k7, z 88 17 (by omega)]
    rfl
  · rw [k8] at hk; simp at hk
  · show rs_ini L xs 88 31 = rs_ini L xs 33 3
    rw [z _ _ (by omega), z _ _ (by omega)]
theorem rs_b01_b (z : Int) : rs_b01 z = 0 ∨ rs_b01 z = 1 := by
  unfold rs_b01
  split
  · exact Or.inl rfl
  · exact Or.inr rfl
theorem ci_ops {L : Nat} {xs : Nat → Int32} {I : rs_M} (h : ci L xs I) (a b c e : Int) (_ : rs_R a) (rb : rs_R b) (_ : rs_R c) (_ : rs_R e) : rs_ops (ci L xs) I 1311 a b c e := ⟨pr_cell (by omega) h, pr_relate (by omega) rb h, pr_hold (by omega) (rs_b01_b b) h, pr_row (by omega) h, pr_set (by omega) h, pr_force (by omega) (rs_b01_b b) h, pr_narrow (by omega) h, pr_low (by omega) h, pr_high (by omega) h, pr_conflict (by omega) h, pr_because (by omega) h, pr_solve (by omega) h, pr_least (by omega) h, pr_greatest (by omega) h, pr_steps h, pr_value (by omega) h, pr_satisfied (by omega) h⟩
theorem rs_law : rs_law_runs := fun _ _ hL => lw_law hL (fun _ h => h.1) ci_ini (fun _ h a b c e ra rb rc re => ci_ops h a b c e ra rb rc re)
