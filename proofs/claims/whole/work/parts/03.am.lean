/-! ===== an abstract machine over the bytecode: numbers are whole numbers, the memory is a function, a call is its callee's own run ===== -/
abbrev rs_V : Type := Int ⊕ (Int ⊕ Nat)
abbrev rs_L : Type := List (Option rs_V)
abbrev rs_M : Type := Nat → Nat → Int
abbrev rs_K : Type := Option rs_V → rs_M → Prop
abbrev rs_T : Type := Nat → Nat → Nat → Nat → rs_L → List rs_V → rs_M → rs_K → Prop
def rs_R (z : Int) : Prop := -2147483648 ≤ z ∧ z ≤ 2147483647
def rs_up (I : rs_M) (o k : Nat) (v : Int) : rs_M := fun a j => if a = o ∧ j = k then v else I a j
def rs_cp (I : rs_M) (s d sp dp n : Nat) : rs_M := fun a j => if a = d ∧ dp ≤ j ∧ j < dp + n then I s (sp + (j - dp)) else I a j
def rs_and (a b : Int) : Int := (Int32.ofInt a &&& Int32.ofInt b).toInt
def rs_or (a b : Int) : Int := (Int32.ofInt a ||| Int32.ofInt b).toInt
def rs_xor (a b : Int) : Int := (Int32.ofInt a ^^^ Int32.ofInt b).toInt
def rs_shl (a b : Int) : Int := (Int32.ofInt a <<< (Int32.ofInt b &&& 31)).toInt
def rs_shr (a b : Int) : Int := (Int32.ofInt a >>> (Int32.ofInt b &&& 31)).toInt
def rs_ush (a b : Int) : Int := ((Int32.ofInt a).toUInt32 >>> ((Int32.ofInt b).toUInt32 &&& Int32.toUInt32 31)).toInt32.toInt
def rs_cmp (a b : Int) : Int := if a < b then -1 else if a = b then 0 else 1
def rs_cnd (c : _root_.Jvm.ClassFile.Cond) (x y : Int) : Prop := match c with
  | .eq => x = y
  | .ne => ¬ x = y
  | .lt => x < y
  | .ge => y ≤ x
  | .gt => y < x
  | .le => x ≤ y
def rs_nth {α : Type} : List α → Nat → Option α
  | [], _ => none
  | a :: _, 0 => some a
  | _ :: l, n + 1 => rs_nth l n
def rs_p1 (st : List rs_V) (f : Int → List rs_V → Prop) : Prop := match st with
  | .inl x :: r => f x r
  | _ => False
def rs_p2 (st : List rs_V) (f : Int → Int → List rs_V → Prop) : Prop := match st with
  | .inl y :: .inl x :: r => f x y r
  | _ => False
def rs_pr (st : List rs_V) (f : Nat → List rs_V → Prop) : Prop := match st with
  | .inr (.inr o) :: r => f o r
  | _ => False
def rs_pl (st : List rs_V) (f : Int → List rs_V → Prop) : Prop := match st with
  | .inr (.inl x) :: r => f x r
  | _ => False
def rs_gi (ls : rs_L) (i : Nat) (f : Int → Prop) : Prop := match rs_nth ls i with
  | some (some (.inl z)) => f z
  | _ => False
def rs_gr (ls : rs_L) (i : Nat) (f : Nat → Prop) : Prop := match rs_nth ls i with
  | some (some (.inr (.inr o))) => f o
  | _ => False
def rs_st {α : Type} : List α → Nat → α → List α
  | [], _, _ => []
  | _ :: l, 0, v => v :: l
  | a :: l, n + 1, v => a :: rs_st l n v
def rs_sw (f : Int → Prop) (x : Int) : Int → List Int → Prop
  | _, [] => True
  | k, o :: r => (x = k → f o) ∧ rs_sw f x (k + 1) r
def rs_tk : Nat → List rs_V → List rs_V → (List rs_V → List rs_V → Prop) → Prop
  | 0, acc, st, f => f acc st
  | n + 1, acc, .inl x :: st, f => rs_tk n (.inl x :: acc) st f
  | n + 1, acc, .inr (.inr o) :: st, f => rs_tk n (.inr (.inr o) :: acc) st f
  | _ + 1, _, _, _ => False
def rs_rec (as : List rs_V) (f : Nat → Prop) : Prop := match as with
  | .inr (.inr o) :: _ => f o
  | _ => False
def rs_en0 (as : List rs_V) (n : Nat) : rs_L := as.map some ++ List.replicate (n - as.length) none
/-- the place at which the method mu catches what a call at pc throws -/
def rs_hn (mu pc : Nat) (t : Int) (f : Nat → Prop) : Prop := match rs_hd mu with
  | some (a, b, h1, h2) => a ≤ pc ∧ pc < b ∧ (if t = 1 then f h1 else t = 2 ∧ 0 < h2 ∧ f h2)
  | none => False
/-- what is left behind a call at pc: the next instruction, or, where the answer is a long, which here stands for what is thrown, the place that catches it -/
def rs_cn (P : rs_T) (u d mu pc : Nat) (ls : rs_L) (r : List rs_V) (K : rs_K) : rs_K := fun v J => match v with
  | some (.inr (.inl t)) => rs_hn mu pc t (fun h => ∀ o, P u d mu h ls [.inr (.inr o)] J K)
  | some (.inl x) => P u d mu (pc + 3) ls (.inl x :: r) J K
  | some (.inr (.inr o)) => P u d mu (pc + 3) ls (.inr (.inr o) :: r) J K
  | none => P u d mu (pc + 3) ls r J K
/-- one instruction -/
def rs_ins (P : rs_T) (u d mu pc : Nat) (ls : rs_L) (st : List rs_V) (I : rs_M) (K : rs_K) (ln : Nat) (ins : Instr) : Prop :=
  match ins with
  | .iconst z => ln = 1 ∧ (-1 ≤ z ∧ z ≤ 5) ∧ P u d mu (pc + 1) ls (.inl z :: st) I K
  | .bipush z => ln = 2 ∧ (-128 ≤ z ∧ z ≤ 127) ∧ P u d mu (pc + 2) ls (.inl z :: st) I K
  | .sipush z => ln = 3 ∧ (-32768 ≤ z ∧ z ≤ 32767) ∧ P u d mu (pc + 3) ls (.inl z :: st) I K
  | .ldc i => ln = 2 ∧ (match rs_cst mu i with
    | some z => P u d mu (pc + 2) ls (.inl z :: st) I K
    | none => False)
  | .ldc_w i => ln = 3 ∧ (match rs_cst mu i with
    | some z => P u d mu (pc + 3) ls (.inl z :: st) I K
    | none => False)
  | .iload_n i => ln = 1 ∧ rs_gi ls i.val (fun z => P u d mu (pc + 1) ls (.inl z :: st) I K)
  | .iload i => ln = 2 ∧ rs_gi ls i (fun z => P u d mu (pc + 2) ls (.inl z :: st) I K)
  | .aload_n i => ln = 1 ∧ rs_gr ls i.val (fun o => P u d mu (pc + 1) ls (.inr (.inr o) :: st) I K)
  | .aload i => ln = 2 ∧ rs_gr ls i (fun o => P u d mu (pc + 2) ls (.inr (.inr o) :: st) I K)
  | .istore_n i => ln = 1 ∧ i.val < rs_mx mu ∧ rs_p1 st (fun x r => P u d mu (pc + 1) (rs_st ls i.val (some (.inl x))) r I K)
  | .istore i => ln = 2 ∧ i < rs_mx mu ∧ rs_p1 st (fun x r => P u d mu (pc + 2) (rs_st ls i (some (.inl x))) r I K)
  | .astore_n i => ln = 1 ∧ i.val < rs_mx mu ∧ rs_pr st (fun o r => P u d mu (pc + 1) (rs_st ls i.val (some (.inr (.inr o)))) r I K)
  | .astore i => ln = 2 ∧ i < rs_mx mu ∧ rs_pr st (fun o r => P u d mu (pc + 2) (rs_st ls i (some (.inr (.inr o)))) r I K)
  | .iinc i n => ln = 3 ∧ i < rs_mx mu ∧ rs_gi ls i (fun z => rs_R (z + n) ∧ P u d mu (pc + 3) (rs_st ls i (some (.inl (z + n)))) st I K)
  | .iadd => ln = 1 ∧ rs_p2 st (fun x y r => rs_R (x + y) ∧ P u d mu (pc + 1) ls (.inl (x + y) :: r) I K)
  | .isub => ln = 1 ∧ rs_p2 st (fun x y r => rs_R (x - y) ∧ P u d mu (pc + 1) ls (.inl (x - y) :: r) I K)
  | .imul => ln = 1 ∧ rs_p2 st (fun x y r => rs_R (x * y) ∧ P u d mu (pc + 1) ls (.inl (x * y) :: r) I K)
  | .idiv => ln = 1 ∧ rs_p2 st (fun x y r => ¬ y = 0 ∧ rs_R (x.tdiv y) ∧ P u d mu (pc + 1) ls (.inl (x.tdiv y) :: r) I K)
  | .irem => ln = 1 ∧ rs_p2 st (fun x y r => ¬ y = 0 ∧ rs_R (x - x.tdiv y * y) ∧ P u d mu (pc + 1) ls (.inl (x - x.tdiv y * y) :: r) I K)
  | .ineg => ln = 1 ∧ rs_p1 st (fun x r => rs_R (-x) ∧ P u d mu (pc + 1) ls (.inl (-x) :: r) I K)
  | .iand => ln = 1 ∧ rs_p2 st (fun x y r => P u d mu (pc + 1) ls (.inl (rs_and x y) :: r) I K)
  | .ior => ln = 1 ∧ rs_p2 st (fun x y r => P u d mu (pc + 1) ls (.inl (rs_or x y) :: r) I K)
  | .ixor => ln = 1 ∧ rs_p2 st (fun x y r => P u d mu (pc + 1) ls (.inl (rs_xor x y) :: r) I K)
  | .ishl => ln = 1 ∧ rs_p2 st (fun x y r => P u d mu (pc + 1) ls (.inl (rs_shl x y) :: r) I K)
  | .ishr => ln = 1 ∧ rs_p2 st (fun x y r => P u d mu (pc + 1) ls (.inl (rs_shr x y) :: r) I K)
  | .iushr => ln = 1 ∧ rs_p2 st (fun x y r => P u d mu (pc + 1) ls (.inl (rs_ush x y) :: r) I K)
  | .i2l => ln = 1 ∧ rs_p1 st (fun x r => P u d mu (pc + 1) ls (.inr (.inl x) :: r) I K)
  | .lcmp => ln = 1 ∧ rs_pl st (fun y r => rs_pl r (fun x r => P u d mu (pc + 1) ls (.inl (rs_cmp x y) :: r) I K))
  | .dup => ln = 1 ∧ (match st with
    | .inl x :: r => P u d mu (pc + 1) ls (.inl x :: .inl x :: r) I K
    | .inr (.inr o) :: r => P u d mu (pc + 1) ls (.inr (.inr o) :: .inr (.inr o) :: r) I K
    | _ => False)
  | .dup2 => ln = 1 ∧ rs_p1 st (fun x r => rs_pr r (fun o r => P u d mu (pc + 1) ls (.inl x :: .inr (.inr o) :: .inl x :: .inr (.inr o) :: r) I K))
  | .pop => ln = 1 ∧ rs_p1 st (fun _ r => P u d mu (pc + 1) ls r I K)
  | .ifCond c off => ln = 3 ∧ 0 ≤ (pc : Int) + off ∧ rs_p1 st (fun x r => (rs_cnd c x 0 → P u d mu ((pc : Int) + off).toNat ls r I K) ∧ (¬ rs_cnd c x 0 → P u d mu (pc + 3) ls r I K))
  | .if_icmp c off => ln = 3 ∧ 0 ≤ (pc : Int) + off ∧ rs_p2 st (fun x y r => (rs_cnd c x y → P u d mu ((pc : Int) + off).toNat ls r I K) ∧ (¬ rs_cnd c x y → P u d mu (pc + 3) ls r I K))
  | .goto off => ln = 3 ∧ 0 ≤ (pc : Int) + off ∧ P u d mu ((pc : Int) + off).toNat ls st I K
  | .tableswitch df lo hi offs => 0 ≤ (pc : Int) + df ∧ (∀ o ∈ offs.toList, 0 ≤ (pc : Int) + o) ∧ hi + 1 = lo + offs.size ∧ rs_p1 st (fun x r => ((x < lo ∨ hi < x) → P u d mu ((pc : Int) + df).toNat ls r I K) ∧ rs_sw (fun o => P u d mu ((pc : Int) + o).toNat ls r I K) x lo offs.toList)
  | .getfield i => ln = 3 ∧ rs_pr st (fun o r => match rs_fd mu i with
    | some (ci, k, t) => rs_sh o = (1, ci) ∧ P u d mu (pc + 3) ls ((if t = 2 then .inr (.inr (rs_rf o k)) else .inl (I o k)) :: r) I K
    | none => False)
  | .putfield i => ln = 3 ∧ rs_p1 st (fun x r => rs_pr r (fun o r => match rs_fd mu i with
    | some (ci, k, t) => rs_sh o = (1, ci) ∧ (t = 0 ∨ t = 1 ∧ (x = 0 ∨ x = 1)) ∧ P u d mu (pc + 3) ls r (rs_up I o k x) K
    | none => False))
  | .iaload => ln = 1 ∧ rs_p1 st (fun j r => rs_pr r (fun o r => if mu = 116 ∧ o = 0 then (0 ≤ j ∧ j < I 0 0) ∧ P u d mu (pc + 1) ls (.inl (I 0 (j.toNat + 1)) :: r) I K else (rs_sh o).1 = 2 ∧ (0 ≤ j ∧ j < (rs_sh o).2) ∧ P u d mu (pc + 1) ls (.inl (I o j.toNat) :: r) I K))
  | .baload => ln = 1 ∧ rs_p1 st (fun j r => rs_pr r (fun o r => (rs_sh o).1 = 3 ∧ (0 ≤ j ∧ j < (rs_sh o).2) ∧ P u d mu (pc + 1) ls (.inl (I o j.toNat) :: r) I K))
  | .laload => ln = 1 ∧ rs_p1 st (fun j r => rs_pr r (fun o r => (rs_sh o).1 = 4 ∧ (0 ≤ j ∧ j < (rs_sh o).2) ∧ P u d mu (pc + 1) ls (.inr (.inl (I o j.toNat)) :: r) I K))
  | .aaload => ln = 1 ∧ rs_p1 st (fun j r => rs_pr r (fun o r => 5 ≤ (rs_sh o).1 ∧ (0 ≤ j ∧ j < (rs_sh o).2) ∧ P u d mu (pc + 1) ls (.inr (.inr (rs_rf o j.toNat)) :: r) I K))
  | .iastore => ln = 1 ∧ rs_p2 st (fun j x r => rs_pr r (fun o r => (rs_sh o).1 = 2 ∧ (0 ≤ j ∧ j < (rs_sh o).2) ∧ P u d mu (pc + 1) ls r (rs_up I o j.toNat x) K))
  | .bastore => ln = 1 ∧ rs_p2 st (fun j x r => rs_pr r (fun o r => (rs_sh o).1 = 3 ∧ (0 ≤ j ∧ j < (rs_sh o).2) ∧ (x = 0 ∨ x = 1) ∧ P u d mu (pc + 1) ls r (rs_up I o j.toNat x) K))
  | .lastore => ln = 1 ∧ rs_pl st (fun x r => rs_p1 r (fun j r => rs_pr r (fun o r => (rs_sh o).1 = 4 ∧ (0 ≤ j ∧ j < (rs_sh o).2) ∧ P u d mu (pc + 1) ls r (rs_up I o j.toNat x) K)))
  | .arraylength => ln = 1 ∧ rs_pr st (fun o r => o = 0 ∧ P u d mu (pc + 1) ls (.inl (I 0 0) :: r) I K)
  | .invokevirtual i => ln = 3 ∧ (match rs_tg mu i with
    | some nu => rs_stc nu = false ∧ rs_tk (rs_na nu) [] st (fun as r => rs_rec as (fun o => rs_sh o = (1, rs_ci nu)) ∧ r.length ≤ 4 ∧ 0 < d ∧ rs_un nu ≤ u ∧ P (rs_un nu) (d - 1) nu 0 (rs_en0 as (rs_mx nu)) [] I (rs_cn P (u - rs_un nu) d mu pc ls r K))
    | none => False)
  | .invokestatic i => ln = 3 ∧ (match rs_tg mu i with
    | some nu => rs_stc nu = true ∧ rs_tk (rs_na nu) [] st (fun as r => r.length ≤ 4 ∧ 0 < d ∧ rs_un nu ≤ u ∧ P (rs_un nu) (d - 1) nu 0 (rs_en0 as (rs_mx nu)) [] I (rs_cn P (u - rs_un nu) d mu pc ls r K))
    | none => match rs_sp mu i with
      | some 0 => 0 < d ∧ rs_p2 st (fun x y r => r.length ≤ 4 ∧ P u d mu (pc + 3) ls (.inl (max x y) :: r) I K)
      | some 1 => 0 < d ∧ rs_p2 st (fun x y r => r.length ≤ 4 ∧ P u d mu (pc + 3) ls (.inl (min x y) :: r) I K)
      | some 2 => 0 < d ∧ rs_p2 st (fun dp n r => rs_pr r (fun o2 r => rs_p1 r (fun sp r => rs_pr r (fun o1 r => r.length ≤ 4 ∧ (rs_sh o1).1 = 2 ∧ (rs_sh o2).1 = 2 ∧ 0 ≤ sp ∧ 0 ≤ dp ∧ 0 ≤ n ∧ sp + n ≤ (rs_sh o1).2 ∧ dp + n ≤ (rs_sh o2).2 ∧ P u d mu (pc + 3) ls r (rs_cp I o1 o2 sp.toNat dp.toNat n.toNat) K))))
      | _ => False)
  | .new _ => ln = 3 ∧ (match rs_th mu pc with
    | some t => st = [] ∧ 6 ≤ d ∧ 0 < u ∧ K (some (.inr (.inl t))) I
    | none => False)
  | .ireturn => ln = 1 ∧ rs_p1 st (fun x r => r = [] ∧ (rs_rt mu = some .int ∨ rs_rt mu = some .boolean ∧ (x = 0 ∨ x = 1)) ∧ K (some (.inl x)) I)
  | .return_ => ln = 1 ∧ st = [] ∧ rs_rt mu = none ∧ K none I
  | _ => False
def rs_stp (P : rs_T) : rs_T := fun u d mu pc ls st I K => match decode (rs_cd mu) pc with
  | .ok (ins, ln) => rs_ins P u d mu pc ls st I K ln ins
  | .error _ => False
/-- what holds of every post holds of a weaker one -/
def rs_mono (P : rs_T) : Prop := ∀ u d mu pc ls st I K K', (∀ v J, K v J → K' v J) → P u d mu pc ls st I K → P u d mu pc ls st I K'
/-- THE RUN: the least predicate that is closed under the instructions -/
def rs_run : rs_T := fun u d mu pc ls st I K => ∀ P : rs_T, rs_mono P → (∀ u d mu pc ls st I K, rs_stp P u d mu pc ls st I K → P u d mu pc ls st I K) → P u d mu pc ls st I K
