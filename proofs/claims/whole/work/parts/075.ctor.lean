/-! ===== tables of the constructors, printed by wip/whole/genc.py ===== -/
def kc_cd (c : Nat) : ByteArray := match c with
  | 0 => prog_2_method_1_code
  | 1 => prog_3_method_1_code
  | 2 => prog_4_method_1_code
  | 3 => prog_5_method_1_code
  | 4 => prog_6_method_1_code
  | 5 => prog_7_method_1_code
  | 6 => prog_8_method_1_code
  | 7 => prog_1_method_1_code
  | 8 => prog_10_method_1_code
  | _ => ⟨#[]⟩
def kc_mx (c : Nat) : Nat := match c with
  | 0 => 1
  | 1 => 2
  | 2 => 1
  | 3 => 1
  | 4 => 2
  | 5 => 1
  | 6 => 1
  | 7 => 2
  | 8 => 1
  | _ => 0
def kc_nm (c : Nat) : MethodName := ⟨rs_on c, "<init>", "()V"⟩
def kc_dep (c : Nat) : Nat := match c with
  | 0 => 1
  | 1 => 2
  | 2 => 1
  | 3 => 1
  | 4 => 2
  | 5 => 1
  | 6 => 1
  | 7 => 3
  | 8 => 1
  | _ => 0
def kc_clL : List (Nat × Nat × Nat × Nat) := [(7, 9, 2, 26), (7, 16, 0, 57), (7, 22, 1, 59), (1, 9, 3, 65), (1, 17, 6, 67), (1, 23, 5, 69), (7, 29, 4, 158), (4, 9, 2, 164)]
def kc_tgL : List (Nat × Nat × Nat × Nat × Nat) := [(7, 3, 99, 0, 23), (7, 11, 2, 1, 28), (2, 3, 99, 0, 31), (7, 24, 1, 0, 61), (1, 3, 99, 0, 64), (1, 25, 5, 1, 71), (5, 3, 99, 0, 74), (1, 36, 3, 1, 85), (3, 3, 99, 0, 88), (1, 37, 6, 1, 117), (6, 3, 99, 0, 120), (7, 31, 4, 0, 160), (4, 3, 99, 0, 163), (4, 24, 2, 1, 166), (7, 42, 0, 1, 197), (0, 1, 99, 0, 200), (8, 1, 99, 0, 615)]
def kc_nest : List Cond := [.methodLinkNest "RangeSheet" 11 (kc_nm 2) "RangeSheet", .methodLinkNest "RangeSheet$Net" 25 (kc_nm 5) "RangeSheet", .methodLinkNest "RangeSheet$Net" 36 (kc_nm 3) "RangeSheet", .methodLinkNest "RangeSheet$Net" 37 (kc_nm 6) "RangeSheet", .methodLinkNest "RangeSheet$Search" 24 (kc_nm 2) "RangeSheet", .methodLinkNest "RangeSheet" 42 (kc_nm 0) "RangeSheet"]
def kc_wiL : List (Nat × Nat × Nat × Nat × Nat) := [(199, 8, 198, 196, 4), (63, 3, 62, 60, 6), (30, 2, 29, 27, 4), (87, 5, 86, 84, 6), (162, 7, 161, 159, 8), (73, 4, 72, 70, 2), (119, 6, 118, 116, 3), (22, 1, 21, 19, 9), (614, 9, 613, 611, 36)]
def kc_obj : Nat × Nat := (24, 25)
def kc_arr : Nat × Nat × Nat := (56, 725, 933)
set_option maxRecDepth 100000 in
theorem kc_cw_0 : tables_1[199]? = some (Cond.code (kc_nm 0) (kc_cd 0) (kc_mx 0) none) := rfl
set_option maxRecDepth 100000 in
theorem kc_cw_1 : tables_1[63]? = some (Cond.code (kc_nm 1) (kc_cd 1) (kc_mx 1) none) := rfl
set_option maxRecDepth 100000 in
theorem kc_cw_2 : tables_1[30]? = some (Cond.code (kc_nm 2) (kc_cd 2) (kc_mx 2) none) := rfl
set_option maxRecDepth 100000 in
theorem kc_cw_3 : tables_1[87]? = some (Cond.code (kc_nm 3) (kc_cd 3) (kc_mx 3) none) := rfl
set_option maxRecDepth 100000 in
theorem kc_cw_4 : tables_1[162]? = some (Cond.code (kc_nm 4) (kc_cd 4) (kc_mx 4) none) := rfl
set_option maxRecDepth 100000 in
theorem kc_cw_5 : tables_1[73]? = some (Cond.code (kc_nm 5) (kc_cd 5) (kc_mx 5) none) := rfl
set_option maxRecDepth 100000 in
theorem kc_cw_6 : tables_1[119]? = some (Cond.code (kc_nm 6) (kc_cd 6) (kc_mx 6) none) := rfl
set_option maxRecDepth 100000 in
theorem kc_cw_7 : tables_1[22]? = some (Cond.code (kc_nm 7) (kc_cd 7) (kc_mx 7) none) := rfl
set_option maxRecDepth 100000 in
theorem kc_cw_8 : tables_1[614]? = some (Cond.code (kc_nm 8) (kc_cd 8) (kc_mx 8) none) := rfl
theorem kc_cwA : ∀ {c : Nat}, c < 9 → Cond.code (kc_nm c) (kc_cd c) (kc_mx c) none ∈ rs_tbl
  | 0, _ => rs_tbl_of kc_cw_0 rfl
  | 1, _ => rs_tbl_of kc_cw_1 rfl
  | 2, _ => rs_tbl_of kc_cw_2 rfl
  | 3, _ => rs_tbl_of kc_cw_3 rfl
  | 4, _ => rs_tbl_of kc_cw_4 rfl
  | 5, _ => rs_tbl_of kc_cw_5 rfl
  | 6, _ => rs_tbl_of kc_cw_6 rfl
  | 7, _ => rs_tbl_of kc_cw_7 rfl
  | 8, _ => rs_tbl_of kc_cw_8 rfl
  | n + 9, h => by omega
abbrev kc_V : Type := Int ⊕ Nat
abbrev kc_G : Type := List (Nat × Nat × List (Option Nat))
def kc_cl (c i : Nat) : Option Nat := (rs_lk kc_clL c i).map (fun q => q.1)
def kc_tg (c i : Nat) : Option Nat := (rs_lk kc_tgL c i).map (fun q => q.1)
def kc_fd (c i : Nat) : Option (Nat × Nat × Nat) := (rs_lk rs_fdL c i).map (fun q => (q.1, q.2.1, q.2.2.1))
def kc_at (ci : Nat) : Nat := match ci with
  | 0 => 5
  | 3 => 6
  | 6 => 7
  | 2 => 8
  | _ => 0
def kc_ec (t : Nat) : Nat := match t with
  | 5 => 0
  | 6 => 3
  | 7 => 6
  | _ => 2
def kc_cnd (q : _root_.Jvm.ClassFile.Cond) (x y : Int) : Bool := match q with
  | .eq => decide (x = y)
  | .ne => decide (¬ x = y)
  | .lt => decide (x < y)
  | .ge => decide (y ≤ x)
  | .gt => decide (y < x)
  | .le => decide (x ≤ y)
theorem kc_cnd_iff {q : _root_.Jvm.ClassFile.Cond} {x y : Int} : kc_cnd q x y = true ↔ rs_cnd q x y := by
  cases q <;> simp [kc_cnd, rs_cnd]
abbrev kc_F : Type := Nat → Nat → List (Option kc_V) → List kc_V → kc_G → Option kc_G
/-- one instruction of a constructor: cells are made, references written -/
def kc_ins (F : kc_F) (c pc : Nat) (ls : List (Option kc_V)) (st : List kc_V) (g : kc_G) (ln : Nat) (ins : Instr) : Option kc_G := match ins with
  | .aload_n i => if ln = 1 then (match rs_nth ls i.val with
    | some (some (.inr o)) => F c (pc + 1) ls (.inr o :: st) g
    | _ => none) else none
  | .iload_n i => if ln = 1 then (match rs_nth ls i.val with
    | some (some (.inl z)) => F c (pc + 1) ls (.inl z :: st) g
    | _ => none) else none
  | .istore_n i => if ln = 1 ∧ i.val < kc_mx c then (match st with
    | .inl z :: r => F c (pc + 1) (rs_st ls i.val (some (.inl z))) r g
    | _ => none) else none
  | .iconst z => if ln = 1 ∧ -1 ≤ z ∧ z ≤ 5 then F c (pc + 1) ls (.inl z :: st) g else none
  | .bipush z => if ln = 2 ∧ -128 ≤ z ∧ z ≤ 127 then F c (pc + 2) ls (.inl z :: st) g else none
  | .dup => if ln = 1 then (match st with
    | .inr o :: r => F c (pc + 1) ls (.inr o :: .inr o :: r) g
    | _ => none) else none
  | .new i => if ln = 3 then (match kc_cl c i with
    | some ci => if ci < 9 then F c (pc + 3) ls (.inr g.length :: st) (g ++ [(1, ci, List.replicate (rs_cl ci).2.2 none)]) else none
    | none => none) else none
  | .newarray t => if ln = 2 then (match st with
    | .inl z :: r => if 0 ≤ z ∧ z ≤ 127 then (match t with
      | .int => F c (pc + 2) ls (.inr g.length :: r) (g ++ [(2, z.toNat, [])])
      | .boolean => F c (pc + 2) ls (.inr g.length :: r) (g ++ [(3, z.toNat, [])])
      | _ => none) else none
    | _ => none) else none
  | .anewarray i => if ln = 3 then (match st with
    | .inl z :: r => (match kc_cl c i with
      | some ci => if 0 ≤ z ∧ z ≤ 127 ∧ 5 ≤ kc_at ci then F c (pc + 3) ls (.inr g.length :: r) (g ++ [(kc_at ci, z.toNat, List.replicate z.toNat none)]) else none
      | none => none)
    | _ => none) else none
  | .putfield i => if ln = 3 then (match st with
    | .inr v :: .inr o :: r => (match kc_fd c i with
      | some (ci, k, t) => (match g[o]? with
        | some (kd, ci', fs) => if kd = 1 ∧ ci' = ci ∧ ci = c ∧ t = 2 ∧ k < fs.length then F c (pc + 3) ls r (g.set o (1, ci, fs.set k (some v))) else none
        | none => none)
      | none => none)
    | _ => none) else none
  | .getfield i => if ln = 3 then (match st with
    | .inr o :: r => (match kc_fd c i with
      | some (ci, k, t) => (match g[o]? with
        | some (kd, ci', fs) => if kd = 1 ∧ ci' = ci ∧ t = 2 then (match fs.getD k none with
          | some v => F c (pc + 3) ls (.inr v :: r) g
          | none => none) else none
        | none => none)
      | none => none)
    | _ => none) else none
  | .aastore => if ln = 1 then (match st with
    | .inr v :: .inl j :: .inr o :: r => (match g[o]? with
      | some (t, n, fs) => (match g[v]? with
        | some (kd, ci, _) => if kd = 1 ∧ 5 ≤ t ∧ t ≤ 8 ∧ kc_ec t = ci ∧ 0 ≤ j ∧ j < n ∧ j ≤ 127 ∧ fs.length = n then F c (pc + 1) ls r (g.set o (t, n, fs.set j.toNat (some v))) else none
        | none => none)
      | none => none)
    | _ => none) else none
  | .iinc i z => if ln = 3 ∧ i < kc_mx c then (match rs_nth ls i with
    | some (some (.inl x)) => if -1000 ≤ x + z ∧ x + z ≤ 1000 then F c (pc + 3) (rs_st ls i (some (.inl (x + z)))) st g else none
    | _ => none) else none
  | .if_icmp q off => if ln = 3 ∧ 0 ≤ (pc : Int) + off then (match st with
    | .inl y :: .inl x :: r => if kc_cnd q x y = true then F c ((pc : Int) + off).toNat ls r g else F c (pc + 3) ls r g
    | _ => none) else none
  | .goto off => if ln = 3 ∧ 0 ≤ (pc : Int) + off then F c ((pc : Int) + off).toNat ls st g else none
  | .invokespecial i => if ln = 3 then (match st with
    | .inr o :: r => (match kc_tg c i with
      | some nu => if nu = 99 then (if r.length ≤ 4 then F c (pc + 3) ls r g else none) else if nu < 9 ∧ kc_dep nu < kc_dep c ∧ r.length ≤ 4 then (match F nu 0 (some (.inr o) :: List.replicate (kc_mx nu - 1) none) [] g with
        | some g' => F c (pc + 3) ls r g'
        | none => none) else none
      | none => none)
    | _ => none) else none
  | .return_ => if ln = 1 ∧ st = [] then some g else none
  | _ => none
def kc : Nat → kc_F
  | 0 => fun _ _ _ _ _ => none
  | n + 1 => fun c pc ls st g => match decode (kc_cd c) pc with
    | .ok (ins, ln) => kc_ins (kc n) c pc ls st g ln ins
    | .error _ => none
/-- the memory as the constructors leave it -/
def kc_fin : kc_G := (rs_geo.drop 1).map (fun x => (x.1, x.2.1, if x.1 = 1 then x.2.2.map (fun r => if r = 0 then none else some (r - 1)) else x.2.2.map (fun r => some (r - 1))))
set_option maxRecDepth 100000 in
theorem kc_run7 : kc 2000 7 0 (some (.inr 0) :: List.replicate 1 none) [] [(1, 7, List.replicate 9 none)] = some (kc_fin.take 87) := by decide +kernel
set_option maxRecDepth 100000 in
theorem kc_run8 : kc 2000 8 0 [some (.inr 87)] [] (kc_fin.take 87 ++ [(1, 8, List.replicate 36 none)]) = some (kc_fin.take 109) := by decide +kernel
