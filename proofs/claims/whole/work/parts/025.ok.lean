def rs_tbl : List Cond := lw_tbl.filter goodWord
theorem rs_tbl_good {w : Cond} (h : w ∈ rs_tbl) : goodWord w = true := (List.mem_filter.mp h).2
theorem rs_tbl_of {w : Cond} {i : Nat} (h : tables_1[i]? = some w) (hg : goodWord w = true) : w ∈ rs_tbl := List.mem_filter.mpr ⟨List.mem_append_right _ (List.mem_of_getElem? h), hg⟩
theorem rs_tbl_ofL {w : Cond} {i : Nat} (h : lw_tbl[i]? = some w) (hg : goodWord w = true) : w ∈ rs_tbl := List.mem_filter.mpr ⟨List.mem_of_getElem? h, hg⟩
def rs_cw (mu : Nat) : Cond := if 117 ≤ mu then Cond.codeWith (rs_nm mu) (rs_cd mu) (rs_mx mu) (rs_rt mu) (rs_hs mu) else Cond.code (rs_nm mu) (rs_cd mu) (rs_mx mu) (rs_rt mu)
def rs_has (i : Nat) (w : Cond) : Bool := decide (tables_1[i]? = some w) && goodWord w
theorem rs_has_in {i : Nat} {w : Cond} (h : rs_has i w = true) : w ∈ rs_tbl := by
  unfold rs_has at h
  rw [Bool.and_eq_true, decide_eq_true_eq] at h
  exact rs_tbl_of h.1 h.2
def rs_hasL (i : Nat) (w : Cond) : Bool := decide (lw_tbl[i]? = some w) && goodWord w
theorem rs_hasL_in {i : Nat} {w : Cond} (h : rs_hasL i w = true) : w ∈ rs_tbl := by
  unfold rs_hasL at h
  rw [Bool.and_eq_true, decide_eq_true_eq] at h
  exact rs_tbl_ofL h.1 h.2
def rs_wi (mu : Nat) : Nat × Nat × Nat × Nat := rs_wiL.getD mu (0, 0, 0, 0)
def rs_calc (mu : Nat) : Bool := (rs_has (rs_wi mu).2.1 (Cond.initialized (rs_nm mu).cls) && (decide ((rs_nm mu).cls ≠ "java/lang/invoke/MethodHandle") && (decide ((rs_nm mu).cls ≠ "java/lang/invoke/VarHandle") && (decide (rs_na mu ≤ rs_mx mu) && decide (rs_mx mu ≤ 45)))))
def rs_calcS (mu : Nat) : Bool := (rs_has (rs_wi mu).2.2.1 (Cond.static (rs_nm mu)) && decide ((parseMethodDescriptor (rs_nm mu).desc).map (fun d => d.parameters.length) = some (rs_na mu)))
def rs_calcV (mu : Nat) : Bool := (rs_has (rs_wi mu).2.2.1 (Cond.instanceMethod (rs_nm mu)) && (rs_hasL (rs_wi mu).2.2.2 (Cond.selects (rs_nm mu).cls (rs_nm mu) (rs_nm mu)) && (decide ((parseMethodDescriptor (rs_nm mu).desc).map (fun d => d.parameters.length) = some (rs_na mu - 1)) && (decide (1 ≤ rs_na mu) && (decide (rs_oc mu < 9) && decide ((rs_cl (rs_oc mu)).1 = (rs_nm mu).cls))))))
set_option maxRecDepth 100000 in
theorem rs_plain_all : ∀ mu, mu < 124 → plainFor (rs_nm mu) = true := by decide +kernel
set_option maxRecDepth 100000 in
theorem rs_calc_all : ∀ mu, mu < 124 → mu = 116 ∨ rs_calc mu = true := by decide +kernel
set_option maxRecDepth 100000 in
theorem rs_calcSV_all : ∀ mu, mu < 124 → mu = 116 ∨ (if rs_stc mu = true then rs_calcS mu else rs_calcV mu) = true := by decide +kernel
set_option maxRecDepth 100000 in
theorem rs_cw_0 : tables_1[249]? = some (Cond.code (rs_nm 0) (rs_cd 0) (rs_mx 0) (rs_rt 0)) := rfl
set_option maxRecDepth 100000 in
theorem rs_cw_1 : tables_1[424]? = some (Cond.code (rs_nm 1) (rs_cd 1) (rs_mx 1) (rs_rt 1)) := rfl
set_option maxRecDepth 100000 in
theorem rs_cw_2 : tables_1[427]? = some (Cond.code (rs_nm 2) (rs_cd 2) (rs_mx 2) (rs_rt 2)) := rfl
set_option maxRecDepth 100000 in
theorem rs_cw_3 : tables_1[430]? = some (Cond.code (rs_nm 3) (rs_cd 3) (rs_mx 3) (rs_rt 3)) := rfl
set_option maxRecDepth 100000 in
theorem rs_cw_4 : tables_1[302]? = some (Cond.code (rs_nm 4) (rs_cd 4) (rs_mx 4) (rs_rt 4)) := rfl
set_option maxRecDepth 100000 in
theorem rs_cw_5 : tables_1[298]? = some (Cond.code (rs_nm 5) (rs_cd 5) (rs_mx 5) (rs_rt 5)) := rfl
set_option maxRecDepth 100000 in
theorem rs_cw_6 : tables_1[307]? = some (Cond.code (rs_nm 6) (rs_cd 6) (rs_mx 6) (rs_rt 6)) := rfl
set_option maxRecDepth 100000 in
theorem rs_cw_7 : tables_1[357]? = some (Cond.code (rs_nm 7) (rs_cd 7) (rs_mx 7) (rs_rt 7)) := rfl
set_option maxRecDepth 100000 in
theorem rs_cw_8 : tables_1[360]? = some (Cond.code (rs_nm 8) (rs_cd 8) (rs_mx 8) (rs_rt 8)) := rfl
set_option maxRecDepth 100000 in
theorem rs_cw_9 : tables_1[310]? = some (Cond.code (rs_nm 9) (rs_cd 9) (rs_mx 9) (rs_rt 9)) := rfl
set_option maxRecDepth 100000 in
theorem rs_cw_10 : tables_1[315]? = some (Cond.code (rs_nm 10) (rs_cd 10) (rs_mx 10) (rs_rt 10)) := rfl
set_option maxRecDepth 100000 in
theorem rs_cw_11 : tables_1[337]? = some (Cond.code (rs_nm 11) (rs_cd 11) (rs_mx 11) (rs_rt 11)) := rfl
set_option maxRecDepth 100000 in
theorem rs_cw_12 : tables_1[321]? = some (Cond.code (rs_nm 12) (rs_cd 12) (rs_mx 12) (rs_rt 12)) := rfl
set_option maxRecDepth 100000 in
theorem rs_cw_13 : tables_1[324]? = some (Cond.code (rs_nm 13) (rs_cd 13) (rs_mx 13) (rs_rt 13)) := rfl
set_option maxRecDepth 100000 in
theorem rs_cw_14 : tables_1[333]? = some (Cond.code (rs_nm 14) (rs_cd 14) (rs_mx 14) (rs_rt 14)) := rfl
set_option maxRecDepth 100000 in
theorem rs_cw_15 : tables_1[377]? = some (Cond.code (rs_nm 15) (rs_cd 15) (rs_mx 15) (rs_rt 15)) := rfl
set_option maxRecDepth 100000 in
theorem rs_cw_16 : tables_1[388]? = some (Cond.code (rs_nm 16) (rs_cd 16) (rs_mx 16) (rs_rt 16)) := rfl
set_option maxRecDepth 100000 in
theorem rs_cw_17 : tables_1[380]? = some (Cond.code (rs_nm 17) (rs_cd 17) (rs_mx 17) (rs_rt 17)) := rfl
set_option maxRecDepth 100000 in
theorem rs_cw_18 : tables_1[363]? = some (Cond.code (rs_nm 18) (rs_cd 18) (rs_mx 18) (rs_rt 18)) := rfl
set_option maxRecDepth 100000 in
theorem rs_cw_19 : tables_1[369]? = some (Cond.code (rs_nm 19) (rs_cd 19) (rs_mx 19) (rs_rt 19)) := rfl
set_option maxRecDepth 100000 in
theorem rs_cw_20 : tables_1[372]? = some (Cond.code (rs_nm 20) (rs_cd 20) (rs_mx 20) (rs_rt 20)) := rfl
set_option maxRecDepth 100000 in
theorem rs_cw_21 : tables_1[279]? = some (Cond.code (rs_nm 21) (rs_cd 21) (rs_mx 21) (rs_rt 21)) := rfl
set_option maxRecDepth 100000 in
theorem rs_cw_22 : tables_1[384]? = some (Cond.code (rs_nm 22) (rs_cd 22) (rs_mx 22) (rs_rt 22)) := rfl
set_option maxRecDepth 100000 in
theorem rs_cw_23 : tables_1[408]? = some (Cond.code (rs_nm 23) (rs_cd 23) (rs_mx 23) (rs_rt 23)) := rfl
set_option maxRecDepth 100000 in
theorem rs_cw_24 : tables_1[290]? = some (Cond.code (rs_nm 24) (rs_cd 24) (rs_mx 24) (rs_rt 24)) := rfl
set_option maxRecDepth 100000 in
theorem rs_cw_25 : tables_1[294]? = some (Cond.code (rs_nm 25) (rs_cd 25) (rs_mx 25) (rs_rt 25)) := rfl
set_option maxRecDepth 100000 in
theorem rs_cw_26 : tables_1[286]? = some (Cond.code (rs_nm 26) (rs_cd 26) (rs_mx 26) (rs_rt 26)) := rfl
set_option maxRecDepth 100000 in
theorem rs_cw_27 : tables_1[544]? = some (Cond.code (rs_nm 27) (rs_cd 27) (rs_mx 27) (rs_rt 27)) := rfl
set_option maxRecDepth 100000 in
theorem rs_cw_28 : tables_1[580]? = some (Cond.code (rs_nm 28) (rs_cd 28) (rs_mx 28) (rs_rt 28)) := rfl
set_option maxRecDepth 100000 in
theorem rs_cw_29 : tables_1[584]? = some (Cond.code (rs_nm 29) (rs_cd 29) (rs_mx 29) (rs_rt 29)) := rfl
set_option maxRecDepth 100000 in
theorem rs_cw_30 : tables_1[588]? = some (Cond.code (rs_nm 30) (rs_cd 30) (rs_mx 30) (rs_rt 30)) := rfl
set_option maxRecDepth 100000 in
theorem rs_cw_31 : tables_1[341]? = some (Cond.code (rs_nm 31) (rs_cd 31) (rs_mx 31) (rs_rt 31)) := rfl
set_option maxRecDepth 100000 in
theorem rs_cw_32 : tables_1[345]? = some (Cond.code (rs_nm 32) (rs_cd 32) (rs_mx 32) (rs_rt 32)) := rfl
set_option maxRecDepth 100000 in
theorem rs_cw_33 : tables_1[353]? = some (Cond.code (rs_nm 33) (rs_cd 33) (rs_mx 33) (rs_rt 33)) := rfl
set_option maxRecDepth 100000 in
theorem rs_cw_34 : tables_1[439]? = some (Cond.code (rs_nm 34) (rs_cd 34) (rs_mx 34) (rs_rt 34)) := rfl
set_option maxRecDepth 100000 in
theorem rs_cw_35 : tables_1[529]? = some (Cond.code (rs_nm 35) (rs_cd 35) (rs_mx 35) (rs_rt 35)) := rfl
set_option maxRecDepth 100000 in
theorem rs_cw_36 : tables_1[245]? = some (Cond.code (rs_nm 36) (rs_cd 36) (rs_mx 36) (rs_rt 36)) := rfl
set_option maxRecDepth 100000 in
theorem rs_cw_37 : tables_1[253]? = some (Cond.code (rs_nm 37) (rs_cd 37) (rs_mx 37) (rs_rt 37)) := rfl
set_option maxRecDepth 100000 in
theorem rs_cw_38 : tables_1[551]? = some (Cond.code (rs_nm 38) (rs_cd 38) (rs_mx 38) (rs_rt 38)) := rfl
set_option maxRecDepth 100000 in
theorem rs_cw_39 : tables_1[263]? = some (Cond.code (rs_nm 39) (rs_cd 39) (rs_mx 39) (rs_rt 39)) := rfl
set_option maxRecDepth 100000 in
theorem rs_cw_40 : tables_1[267]? = some (Cond.code (rs_nm 40) (rs_cd 40) (rs_mx 40) (rs_rt 40)) := rfl
set_option maxRecDepth 100000 in
theorem rs_cw_41 : tables_1[392]? = some (Cond.code (rs_nm 41) (rs_cd 41) (rs_mx 41) (rs_rt 41)) := rfl
set_option maxRecDepth 100000 in
theorem rs_cw_42 : tables_1[396]? = some (Cond.code (rs_nm 42) (rs_cd 42) (rs_mx 42) (rs_rt 42)) := rfl
set_option maxRecDepth 100000 in
theorem rs_cw_43 : tables_1[400]? = some (Cond.code (rs_nm 43) (rs_cd 43) (rs_mx 43) (rs_rt 43)) := rfl
set_option maxRecDepth 100000 in
theorem rs_cw_44 : tables_1[560]? = some (Cond.code (rs_nm 44) (rs_cd 44) (rs_mx 44) (rs_rt 44)) := rfl
set_option maxRecDepth 100000 in
theorem rs_cw_45 : tables_1[568]? = some (Cond.code (rs_nm 45) (rs_cd 45) (rs_mx 45) (rs_rt 45)) := rfl
set_option maxRecDepth 100000 in
theorem rs_cw_46 : tables_1[601]? = some (Cond.code (rs_nm 46) (rs_cd 46) (rs_mx 46) (rs_rt 46)) := rfl
set_option maxRecDepth 100000 in
theorem rs_cw_47 : tables_1[609]? = some (Cond.code (rs_nm 47) (rs_cd 47) (rs_mx 47) (rs_rt 47)) := rfl
set_option maxRecDepth 100000 in
theorem rs_cw_48 : tables_1[412]? = some (Cond.code (rs_nm 48) (rs_cd 48) (rs_mx 48) (rs_rt 48)) := rfl
set_option maxRecDepth 100000 in
theorem rs_cw_49 : tables_1[416]? = some (Cond.code (rs_nm 49) (rs_cd 49) (rs_mx 49) (rs_rt 49)) := rfl
set_option maxRecDepth 100000 in
theorem rs_cw_50 : tables_1[420]? = some (Cond.code (rs_nm 50) (rs_cd 50) (rs_mx 50) (rs_rt 50)) := rfl
set_option maxRecDepth 100000 in
theorem rs_cw_51 : tables_1[537]? = some (Cond.code (rs_nm 51) (rs_cd 51) (rs_mx 51) (rs_rt 51)) := rfl
set_option maxRecDepth 100000 in
theorem rs_cw_52 : tables_1[256]? = some (Cond.code (rs_nm 52) (rs_cd 52) (rs_mx 52) (rs_rt 52)) := rfl
set_option maxRecDepth 100000 in
theorem rs_cw_53 : tables_1[259]? = some (Cond.code (rs_nm 53) (rs_cd 53) (rs_mx 53) (rs_rt 53)) := rfl
set_option maxRecDepth 100000 in
theorem rs_cw_54 : tables_1[571]? = some (Cond.code (rs_nm 54) (rs_cd 54) (rs_mx 54) (rs_rt 54)) := rfl
set_option maxRecDepth 100000 in
theorem rs_cw_55 : tables_1[533]? = some (Cond.code (rs_nm 55) (rs_cd 55) (rs_mx 55) (rs_rt 55)) := rfl
set_option maxRecDepth 100000 in
theorem rs_cw_56 : tables_1[271]? = some (Cond.code (rs_nm 56) (rs_cd 56) (rs_mx 56) (rs_rt 56)) := rfl
set_option maxRecDepth 100000 in
theorem rs_cw_57 : tables_1[275]? = some (Cond.code (rs_nm 57) (rs_cd 57) (rs_mx 57) (rs_rt 57)) := rfl
set_option maxRecDepth 100000 in
theorem rs_cw_58 : tables_1[404]? = some (Cond.code (rs_nm 58) (rs_cd 58) (rs_mx 58) (rs_rt 58)) := rfl
set_option maxRecDepth 100000 in
theorem rs_cw_59 : tables_1[576]? = some (Cond.code (rs_nm 59) (rs_cd 59) (rs_mx 59) (rs_rt 59)) := rfl
set_option maxRecDepth 100000 in
theorem rs_cw_60 : tables_1[729]? = some (Cond.code (rs_nm 60) (rs_cd 60) (rs_mx 60) (rs_rt 60)) := rfl
set_option maxRecDepth 100000 in
theorem rs_cw_61 : tables_1[740]? = some (Cond.code (rs_nm 61) (rs_cd 61) (rs_mx 61) (rs_rt 61)) := rfl
set_option maxRecDepth 100000 in
theorem rs_cw_62 : tables_1[751]? = some (Cond.code (rs_nm 62) (rs_cd 62) (rs_mx 62) (rs_rt 62)) := rfl
set_option maxRecDepth 100000 in
theorem rs_cw_63 : tables_1[795]? = some (Cond.code (rs_nm 63) (rs_cd 63) (rs_mx 63) (rs_rt 63)) := rfl
set_option maxRecDepth 100000 in
theorem rs_cw_64 : tables_1[792]? = some (Cond.code (rs_nm 64) (rs_cd 64) (rs_mx 64) (rs_rt 64)) := rfl
set_option maxRecDepth 100000 in
theorem rs_cw_65 : tables_1[736]? = some (Cond.code (rs_nm 65) (rs_cd 65) (rs_mx 65) (rs_rt 65)) := rfl
set_option maxRecDepth 100000 in
theorem rs_cw_66 : tables_1[733]? = some (Cond.code (rs_nm 66) (rs_cd 66) (rs_mx 66) (rs_rt 66)) := rfl
set_option maxRecDepth 100000 in
theorem rs_cw_67 : tables_1[758]? = some (Cond.code (rs_nm 67) (rs_cd 67) (rs_mx 67) (rs_rt 67)) := rfl
set_option maxRecDepth 100000 in
theorem rs_cw_68 : tables_1[754]? = some (Cond.code (rs_nm 68) (rs_cd 68) (rs_mx 68) (rs_rt 68)) := rfl
set_option maxRecDepth 100000 in
theorem rs_cw_69 : tables_1[748]? = some (Cond.code (rs_nm 69) (rs_cd 69) (rs_mx 69) (rs_rt 69)) := rfl
set_option maxRecDepth 100000 in
theorem rs_cw_70 : tables_1[744]? = some (Cond.code (rs_nm 70) (rs_cd 70) (rs_mx 70) (rs_rt 70)) := rfl
set_option maxRecDepth 100000 in
theorem rs_cw_71 : tables_1[762]? = some (Cond.code (rs_nm 71) (rs_cd 71) (rs_mx 71) (rs_rt 71)) := rfl
set_option maxRecDepth 100000 in
theorem rs_cw_72 : tables_1[766]? = some (Cond.code (rs_nm 72) (rs_cd 72) (rs_mx 72) (rs_rt 72)) := rfl
set_option maxRecDepth 100000 in
theorem rs_cw_73 : tables_1[770]? = some (Cond.code (rs_nm 73) (rs_cd 73) (rs_mx 73) (rs_rt 73)) := rfl
set_option maxRecDepth 100000 in
theorem rs_cw_74 : tables_1[777]? = some (Cond.code (rs_nm 74) (rs_cd 74) (rs_mx 74) (rs_rt 74)) := rfl
set_option maxRecDepth 100000 in
theorem rs_cw_75 : tables_1[774]? = some (Cond.code (rs_nm 75) (rs_cd 75) (rs_mx 75) (rs_rt 75)) := rfl
set_option maxRecDepth 100000 in
theorem rs_cw_76 : tables_1[789]? = some (Cond.code (rs_nm 76) (rs_cd 76) (rs_mx 76) (rs_rt 76)) := rfl
set_option maxRecDepth 100000 in
theorem rs_cw_77 : tables_1[838]? = some (Cond.code (rs_nm 77) (rs_cd 77) (rs_mx 77) (rs_rt 77)) := rfl
set_option maxRecDepth 100000 in
theorem rs_cw_78 : tables_1[819]? = some (Cond.code (rs_nm 78) (rs_cd 78) (rs_mx 78) (rs_rt 78)) := rfl
set_option maxRecDepth 100000 in
theorem rs_cw_79 : tables_1[823]? = some (Cond.code (rs_nm 79) (rs_cd 79) (rs_mx 79) (rs_rt 79)) := rfl
set_option maxRecDepth 100000 in
theorem rs_cw_80 : tables_1[834]? = some (Cond.code (rs_nm 80) (rs_cd 80) (rs_mx 80) (rs_rt 80)) := rfl
set_option maxRecDepth 100000 in
theorem rs_cw_81 : tables_1[831]? = some (Cond.code (rs_nm 81) (rs_cd 81) (rs_mx 81) (rs_rt 81)) := rfl
set_option maxRecDepth 100000 in
theorem rs_cw_82 : tables_1[842]? = some (Cond.code (rs_nm 82) (rs_cd 82) (rs_mx 82) (rs_rt 82)) := rfl
set_option maxRecDepth 100000 in
theorem rs_cw_83 : tables_1[861]? = some (Cond.code (rs_nm 83) (rs_cd 83) (rs_mx 83) (rs_rt 83)) := rfl
set_option maxRecDepth 100000 in
theorem rs_cw_84 : tables_1[864]? = some (Cond.code (rs_nm 84) (rs_cd 84) (rs_mx 84) (rs_rt 84)) := rfl
set_option maxRecDepth 100000 in
theorem rs_cw_85 : tables_1[858]? = some (Cond.code (rs_nm 85) (rs_cd 85) (rs_mx 85) (rs_rt 85)) := rfl
set_option maxRecDepth 100000 in
theorem rs_cw_86 : tables_1[850]? = some (Cond.code (rs_nm 86) (rs_cd 86) (rs_mx 86) (rs_rt 86)) := rfl
set_option maxRecDepth 100000 in
theorem rs_cw_87 : tables_1[854]? = some (Cond.code (rs_nm 87) (rs_cd 87) (rs_mx 87) (rs_rt 87)) := rfl
set_option maxRecDepth 100000 in
theorem rs_cw_88 : tables_1[846]? = some (Cond.code (rs_nm 88) (rs_cd 88) (rs_mx 88) (rs_rt 88)) := rfl
set_option maxRecDepth 100000 in
theorem rs_cw_89 : tables_1[827]? = some (Cond.code (rs_nm 89) (rs_cd 89) (rs_mx 89) (rs_rt 89)) := rfl
set_option maxRecDepth 100000 in
theorem rs_cw_90 : tables_1[815]? = some (Cond.code (rs_nm 90) (rs_cd 90) (rs_mx 90) (rs_rt 90)) := rfl
set_option maxRecDepth 100000 in
theorem rs_cw_91 : tables_1[811]? = some (Cond.code (rs_nm 91) (rs_cd 91) (rs_mx 91) (rs_rt 91)) := rfl
set_option maxRecDepth 100000 in
theorem rs_cw_92 : tables_1[807]? = some (Cond.code (rs_nm 92) (rs_cd 92) (rs_mx 92) (rs_rt 92)) := rfl
set_option maxRecDepth 100000 in
theorem rs_cw_93 : tables_1[803]? = some (Cond.code (rs_nm 93) (rs_cd 93) (rs_mx 93) (rs_rt 93)) := rfl
set_option maxRecDepth 100000 in
theorem rs_cw_94 : tables_1[799]? = some (Cond.code (rs_nm 94) (rs_cd 94) (rs_mx 94) (rs_rt 94)) := rfl
set_option maxRecDepth 100000 in
theorem rs_cw_95 : tables_1[785]? = some (Cond.code (rs_nm 95) (rs_cd 95) (rs_mx 95) (rs_rt 95)) := rfl
set_option maxRecDepth 100000 in
theorem rs_cw_96 : tables_1[781]? = some (Cond.code (rs_nm 96) (rs_cd 96) (rs_mx 96) (rs_rt 96)) := rfl
set_option maxRecDepth 100000 in
theorem rs_cw_97 : tables_1[868]? = some (Cond.code (rs_nm 97) (rs_cd 97) (rs_mx 97) (rs_rt 97)) := rfl
set_option maxRecDepth 100000 in
theorem rs_cw_98 : tables_1[872]? = some (Cond.code (rs_nm 98) (rs_cd 98) (rs_mx 98) (rs_rt 98)) := rfl
set_option maxRecDepth 100000 in
theorem rs_cw_99 : tables_1[876]? = some (Cond.code (rs_nm 99) (rs_cd 99) (rs_mx 99) (rs_rt 99)) := rfl
set_option maxRecDepth 100000 in
theorem rs_cw_100 : tables_1[880]? = some (Cond.code (rs_nm 100) (rs_cd 100) (rs_mx 100) (rs_rt 100)) := rfl
set_option maxRecDepth 100000 in
theorem rs_cw_101 : tables_1[892]? = some (Cond.code (rs_nm 101) (rs_cd 101) (rs_mx 101) (rs_rt 101)) := rfl
set_option maxRecDepth 100000 in
theorem rs_cw_102 : tables_1[896]? = some (Cond.code (rs_nm 102) (rs_cd 102) (rs_mx 102) (rs_rt 102)) := rfl
set_option maxRecDepth 100000 in
theorem rs_cw_103 : tables_1[900]? = some (Cond.code (rs_nm 103) (rs_cd 103) (rs_mx 103) (rs_rt 103)) := rfl
set_option maxRecDepth 100000 in
theorem rs_cw_104 : tables_1[888]? = some (Cond.code (rs_nm 104) (rs_cd 104) (rs_mx 104) (rs_rt 104)) := rfl
set_option maxRecDepth 100000 in
theorem rs_cw_105 : tables_1[884]? = some (Cond.code (rs_nm 105) (rs_cd 105) (rs_mx 105) (rs_rt 105)) := rfl
set_option maxRecDepth 100000 in
theorem rs_cw_106 : tables_1[908]? = some (Cond.code (rs_nm 106) (rs_cd 106) (rs_mx 106) (rs_rt 106)) := rfl
set_option maxRecDepth 100000 in
theorem rs_cw_107 : tables_1[904]? = some (Cond.code (rs_nm 107) (rs_cd 107) (rs_mx 107) (rs_rt 107)) := rfl
set_option maxRecDepth 100000 in
theorem rs_cw_108 : tables_1[912]? = some (Cond.code (rs_nm 108) (rs_cd 108) (rs_mx 108) (rs_rt 108)) := rfl
set_option maxRecDepth 100000 in
theorem rs_cw_109 : tables_1[916]? = some (Cond.code (rs_nm 109) (rs_cd 109) (rs_mx 109) (rs_rt 109)) := rfl
set_option maxRecDepth 100000 in
theorem rs_cw_110 : tables_1[920]? = some (Cond.code (rs_nm 110) (rs_cd 110) (rs_mx 110) (rs_rt 110)) := rfl
set_option maxRecDepth 100000 in
theorem rs_cw_111 : tables_1[928]? = some (Cond.code (rs_nm 111) (rs_cd 111) (rs_mx 111) (rs_rt 111)) := rfl
set_option maxRecDepth 100000 in
theorem rs_cw_112 : tables_1[932]? = some (Cond.code (rs_nm 112) (rs_cd 112) (rs_mx 112) (rs_rt 112)) := rfl
set_option maxRecDepth 100000 in
theorem rs_cw_113 : tables_1[924]? = some (Cond.code (rs_nm 113) (rs_cd 113) (rs_mx 113) (rs_rt 113)) := rfl
set_option maxRecDepth 100000 in
theorem rs_cw_114 : tables_1[327]? = some (Cond.code (rs_nm 114) (rs_cd 114) (rs_mx 114) (rs_rt 114)) := rfl
set_option maxRecDepth 100000 in
theorem rs_cw_115 : tables_1[366]? = some (Cond.code (rs_nm 115) (rs_cd 115) (rs_mx 115) (rs_rt 115)) := rfl
set_option maxRecDepth 100000 in
theorem rs_cw_117 : tables_1[433]? = some (Cond.codeWith (rs_nm 117) (rs_cd 117) (rs_mx 117) (rs_rt 117) (rs_hs 117)) := rfl
set_option maxRecDepth 100000 in
theorem rs_cw_118 : tables_1[525]? = some (Cond.codeWith (rs_nm 118) (rs_cd 118) (rs_mx 118) (rs_rt 118) (rs_hs 118)) := rfl
set_option maxRecDepth 100000 in
theorem rs_cw_119 : tables_1[547]? = some (Cond.codeWith (rs_nm 119) (rs_cd 119) (rs_mx 119) (rs_rt 119) (rs_hs 119)) := rfl
set_option maxRecDepth 100000 in
theorem rs_cw_120 : tables_1[556]? = some (Cond.codeWith (rs_nm 120) (rs_cd 120) (rs_mx 120) (rs_rt 120) (rs_hs 120)) := rfl
set_option maxRecDepth 100000 in
theorem rs_cw_121 : tables_1[564]? = some (Cond.codeWith (rs_nm 121) (rs_cd 121) (rs_mx 121) (rs_rt 121) (rs_hs 121)) := rfl
set_option maxRecDepth 100000 in
theorem rs_cw_122 : tables_1[597]? = some (Cond.codeWith (rs_nm 122) (rs_cd 122) (rs_mx 122) (rs_rt 122) (rs_hs 122)) := rfl
set_option maxRecDepth 100000 in
theorem rs_cw_123 : tables_1[605]? = some (Cond.codeWith (rs_nm 123) (rs_cd 123) (rs_mx 123) (rs_rt 123) (rs_hs 123)) := rfl
theorem rs_cwA : ∀ {mu : Nat}, mu < 124 → mu ≠ 116 → rs_cw mu ∈ rs_tbl
  | 0, _, _ => rs_tbl_of rs_cw_0 rfl
  | 1, _, _ => rs_tbl_of rs_cw_1 rfl
  | 2, _, _ => rs_tbl_of rs_cw_2 rfl
  | 3, _, _ => rs_tbl_of rs_cw_3 rfl
  | 4, _, _ => rs_tbl_of rs_cw_4 rfl
  | 5, _, _ => rs_tbl_of rs_cw_5 rfl
  | 6, _, _ => rs_tbl_of rs_cw_6 rfl
  | 7, _, _ => rs_tbl_of rs_cw_7 rfl
  | 8, _, _ => rs_tbl_of rs_cw_8 rfl
  | 9, _, _ => rs_tbl_of rs_cw_9 rfl
  | 10, _, _ => rs_tbl_of rs_cw_10 rfl
  | 11, _, _ => rs_tbl_of rs_cw_11 rfl
  | 12, _, _ => rs_tbl_of rs_cw_12 rfl
  | 13, _, _ => rs_tbl_of rs_cw_13 rfl
  | 14, _, _ => rs_tbl_of rs_cw_14 rfl
  | 15, _, _ => rs_tbl_of rs_cw_15 rfl
  | 16, _, _ => rs_tbl_of rs_cw_16 rfl
  | 17, _, _ => rs_tbl_of rs_cw_17 rfl
  | 18, _, _ => rs_tbl_of rs_cw_18 rfl
  | 19, _, _ => rs_tbl_of rs_cw_19 rfl
  | 20, _, _ => rs_tbl_of rs_cw_20 rfl
  | 21, _, _ => rs_tbl_of rs_cw_21 rfl
  | 22, _, _ => rs_tbl_of rs_cw_22 rfl
  | 23, _, _ => rs_tbl_of rs_cw_23 rfl
  | 24, _, _ => rs_tbl_of rs_cw_24 rfl
  | 25, _, _ => rs_tbl_of rs_cw_25 rfl
  | 26, _, _ => rs_tbl_of rs_cw_26 rfl
  | 27, _, _ => rs_tbl_of rs_cw_27 rfl
  | 28, _, _ => rs_tbl_of rs_cw_28 rfl
  | 29, _, _ => rs_tbl_of rs_cw_29 rfl
  | 30, _, _ => rs_tbl_of rs_cw_30 rfl
  | 31, _, _ => rs_tbl_of rs_cw_31 rfl
  | 32, _, _ => rs_tbl_of rs_cw_32 rfl
  | 33, _, _ => rs_tbl_of rs_cw_33 rfl
  | 34, _, _ => rs_tbl_of rs_cw_34 rfl
  | 35, _, _ => rs_tbl_of rs_cw_35 rfl
  | 36, _, _ => rs_tbl_of rs_cw_36 rfl
  | 37, _, _ => rs_tbl_of rs_cw_37 rfl
  | 38, _, _ => rs_tbl_of rs_cw_38 rfl
  | 39, _, _ => rs_tbl_of rs_cw_39 rfl
  | 40, _, _ => rs_tbl_of rs_cw_40 rfl
  | 41, _, _ => rs_tbl_of rs_cw_41 rfl
  | 42, _, _ => rs_tbl_of rs_cw_42 rfl
  | 43, _, _ => rs_tbl_of rs_cw_43 rfl
  | 44, _, _ => rs_tbl_of rs_cw_44 rfl
  | 45, _, _ => rs_tbl_of rs_cw_45 rfl
  | 46, _, _ => rs_tbl_of rs_cw_46 rfl
  | 47, _, _ => rs_tbl_of rs_cw_47 rfl
  | 48, _, _ => rs_tbl_of rs_cw_48 rfl
  | 49, _, _ => rs_tbl_of rs_cw_49 rfl
  | 50, _, _ => rs_tbl_of rs_cw_50 rfl
  | 51, _, _ => rs_tbl_of rs_cw_51 rfl
  | 52, _, _ => rs_tbl_of rs_cw_52 rfl
  | 53, _, _ => rs_tbl_of rs_cw_53 rfl
  | 54, _, _ => rs_tbl_of rs_cw_54 rfl
  | 55, _, _ => rs_tbl_of rs_cw_55 rfl
  | 56, _, _ => rs_tbl_of rs_cw_56 rfl
  | 57, _, _ => rs_tbl_of rs_cw_57 rfl
  | 58, _, _ => rs_tbl_of rs_cw_58 rfl
  | 59, _, _ => rs_tbl_of rs_cw_59 rfl
  | 60, _, _ => rs_tbl_of rs_cw_60 rfl
  | 61, _, _ => rs_tbl_of rs_cw_61 rfl
  | 62, _, _ => rs_tbl_of rs_cw_62 rfl
  | 63, _, _ => rs_tbl_of rs_cw_63 rfl
  | 64, _, _ => rs_tbl_of rs_cw_64 rfl
  | 65, _, _ => rs_tbl_of rs_cw_65 rfl
  | 66, _, _ => rs_tbl_of rs_cw_66 rfl
  | 67, _, _ => rs_tbl_of rs_cw_67 rfl
  | 68, _, _ => rs_tbl_of rs_cw_68 rfl
  | 69, _, _ => rs_tbl_of rs_cw_69 rfl
  | 70, _, _ => rs_tbl_of rs_cw_70 rfl
  | 71, _, _ => rs_tbl_of rs_cw_71 rfl
  | 72, _, _ => rs_tbl_of rs_cw_72 rfl
  | 73, _, _ => rs_tbl_of rs_cw_73 rfl
  | 74, _, _ => rs_tbl_of rs_cw_74 rfl
  | 75, _, _ => rs_tbl_of rs_cw_75 rfl
  | 76, _, _ => rs_tbl_of rs_cw_76 rfl
  | 77, _, _ => rs_tbl_of rs_cw_77 rfl
  | 78, _, _ => rs_tbl_of rs_cw_78 rfl
  | 79, _, _ => rs_tbl_of rs_cw_79 rfl
  | 80, _, _ => rs_tbl_of rs_cw_80 rfl
  | 81, _, _ => rs_tbl_of rs_cw_81 rfl
  | 82, _, _ => rs_tbl_of rs_cw_82 rfl
  | 83, _, _ => rs_tbl_of rs_cw_83 rfl
  | 84, _, _ => rs_tbl_of rs_cw_84 rfl
  | 85, _, _ => rs_tbl_of rs_cw_85 rfl
  | 86, _, _ => rs_tbl_of rs_cw_86 rfl
  | 87, _, _ => rs_tbl_of rs_cw_87 rfl
  | 88, _, _ => rs_tbl_of rs_cw_88 rfl
  | 89, _, _ => rs_tbl_of rs_cw_89 rfl
  | 90, _, _ => rs_tbl_of rs_cw_90 rfl
  | 91, _, _ => rs_tbl_of rs_cw_91 rfl
  | 92, _, _ => rs_tbl_of rs_cw_92 rfl
  | 93, _, _ => rs_tbl_of rs_cw_93 rfl
  | 94, _, _ => rs_tbl_of rs_cw_94 rfl
  | 95, _, _ => rs_tbl_of rs_cw_95 rfl
  | 96, _, _ => rs_tbl_of rs_cw_96 rfl
  | 97, _, _ => rs_tbl_of rs_cw_97 rfl
  | 98, _, _ => rs_tbl_of rs_cw_98 rfl
  | 99, _, _ => rs_tbl_of rs_cw_99 rfl
  | 100, _, _ => rs_tbl_of rs_cw_100 rfl
  | 101, _, _ => rs_tbl_of rs_cw_101 rfl
  | 102, _, _ => rs_tbl_of rs_cw_102 rfl
  | 103, _, _ => rs_tbl_of rs_cw_103 rfl
  | 104, _, _ => rs_tbl_of rs_cw_104 rfl
  | 105, _, _ => rs_tbl_of rs_cw_105 rfl
  | 106, _, _ => rs_tbl_of rs_cw_106 rfl
  | 107, _, _ => rs_tbl_of rs_cw_107 rfl
  | 108, _, _ => rs_tbl_of rs_cw_108 rfl
  | 109, _, _ => rs_tbl_of rs_cw_109 rfl
  | 110, _, _ => rs_tbl_of rs_cw_110 rfl
  | 111, _, _ => rs_tbl_of rs_cw_111 rfl
  | 112, _, _ => rs_tbl_of rs_cw_112 rfl
  | 113, _, _ => rs_tbl_of rs_cw_113 rfl
  | 114, _, _ => rs_tbl_of rs_cw_114 rfl
  | 115, _, _ => rs_tbl_of rs_cw_115 rfl
  | 117, _, _ => rs_tbl_of rs_cw_117 rfl
  | 118, _, _ => rs_tbl_of rs_cw_118 rfl
  | 119, _, _ => rs_tbl_of rs_cw_119 rfl
  | 120, _, _ => rs_tbl_of rs_cw_120 rfl
  | 121, _, _ => rs_tbl_of rs_cw_121 rfl
  | 122, _, _ => rs_tbl_of rs_cw_122 rfl
  | 123, _, _ => rs_tbl_of rs_cw_123 rfl
  | 116, _, h => absurd rfl h
  | n + 124, h, _ => by omega
theorem rs_cal {nu : Nat} (h : nu < 124) (h6 : nu ≠ 116) : plainFor (rs_nm nu) = true ∧ rs_cw nu ∈ rs_tbl ∧ Cond.initialized (rs_nm nu).cls ∈ rs_tbl ∧ (rs_nm nu).cls ≠ "java/lang/invoke/MethodHandle" ∧ (rs_nm nu).cls ≠ "java/lang/invoke/VarHandle" ∧ True ∧ rs_na nu ≤ rs_mx nu ∧ rs_mx nu ≤ 45 := by
  have h1 := (rs_calc_all nu h).resolve_left h6
  unfold rs_calc at h1
  simp only [Bool.and_eq_true, decide_eq_true_eq] at h1
  obtain ⟨a3, a4, a5, a6, a7⟩ := h1
  exact ⟨rs_plain_all nu h, rs_cwA h h6, rs_has_in a3, a4, a5, trivial, a6, a7⟩
theorem rs_calS {nu : Nat} (h : nu < 124) (h6 : nu ≠ 116) (hs : rs_stc nu = true) : Cond.static (rs_nm nu) ∈ rs_tbl ∧ ∀ sig, parseMethodDescriptor (rs_nm nu).desc = some sig → rs_na nu = sig.parameters.length := by
  have h1 := (rs_calcSV_all nu h).resolve_left h6
  rw [if_pos hs] at h1
  unfold rs_calcS at h1
  simp only [Bool.and_eq_true, decide_eq_true_eq] at h1
  refine ⟨rs_has_in h1.1, fun sig hg => ?_⟩
  have h2 := h1.2
  rw [hg] at h2
  exact (Option.some.inj h2).symm
theorem rs_cls_at : ∀ {ci : Nat}, ci < 9 → rs_cls[ci]? = some (rs_cl ci)
  | 0, _ => rfl
  | 1, _ => rfl
  | 2, _ => rfl
  | 3, _ => rfl
  | 4, _ => rfl
  | 5, _ => rfl
  | 6, _ => rfl
  | 7, _ => rfl
  | 8, _ => rfl
  | n + 9, h => by omega
theorem rs_calV {nu : Nat} (h : nu < 124) (h6 : nu ≠ 116) (hs : rs_stc nu = false) : (Cond.instanceMethod (rs_nm nu) ∈ rs_tbl ∧ ∀ sig, parseMethodDescriptor (rs_nm nu).desc = some sig → rs_na nu - 1 = sig.parameters.length) ∧ Cond.selects (rs_nm nu).cls (rs_nm nu) (rs_nm nu) ∈ rs_tbl ∧ (rs_cls[rs_ci nu]? = some (rs_cl (rs_ci nu)) ∧ (rs_cl (rs_ci nu)).1 = (rs_nm nu).cls) ∧ 1 ≤ rs_na nu := by
  have h1 := (rs_calcSV_all nu h).resolve_left h6
  rw [if_neg (by rw [hs]; decide)] at h1
  unfold rs_calcV at h1
  simp only [Bool.and_eq_true, decide_eq_true_eq] at h1
  obtain ⟨a1, a2, a3, a4, a5, a6⟩ := h1
  refine ⟨⟨rs_has_in a1, fun sig hg => ?_⟩, rs_hasL_in a2, ⟨rs_cls_at a5, a6⟩, a4⟩
  rw [hg] at a3
  exact (Option.some.inj a3).symm
def rs_fdc (e : Nat × Nat × Nat × Nat × Nat × Nat) : Bool := match e with
  | (c, i, ci, k, t, w) => decide (k < (rs_cl ci).2.2) && (rs_has w (Cond.fieldLink (rs_on c) i ((rs_cl ci).2.1 k).1 ((rs_cl ci).2.1 k).2.1 ((rs_cl ci).2.1 k).2.2.1) && (decide (ci < 9) && (decide (t = rs_ft ci k) && decide (t = 2 ∨ ((rs_cl ci).2.1 k).2.2.2 = false))))
set_option maxRecDepth 100000 in
theorem rs_fdc_all : ∀ e ∈ rs_fdL, rs_fdc e = true := by decide +kernel
def rs_cwc (ci : Nat) : Bool := (u_ws (rs_cl ci).1 (rs_cl ci).2.1 (rs_cl ci).2.2).all (fun w => (rs_cwL.getD ci []).any (fun i => rs_has i w))
set_option maxRecDepth 100000 in
theorem rs_cwc_all : ∀ ci, ci < 9 → rs_cwc ci = true := by decide +kernel
theorem rs_cw_in {ci : Nat} (h : ci < 9) : ∀ w ∈ u_ws (rs_cl ci).1 (rs_cl ci).2.1 (rs_cl ci).2.2, w ∈ rs_tbl := by
  have h1 := rs_cwc_all ci h
  unfold rs_cwc at h1
  intro w hw
  have h2 := List.all_eq_true.mp h1 w hw
  obtain ⟨i, -, hi⟩ := List.any_eq_true.mp h2
  exact rs_has_in hi
set_option maxRecDepth 100000 in
theorem rs_ty_ok : ∀ ci, ci < 9 → (∀ k, k < (rs_cl ci).2.2 → parseFieldDescriptor ((rs_cl ci).2.1 k).2.2.1 = some (rs_ty ci k)) ∧ (∀ a, a < (rs_cl ci).2.2 → ∀ b, b < (rs_cl ci).2.2 → a ≠ b → ((rs_cl ci).2.1 a).2.1 ≠ ((rs_cl ci).2.1 b).2.1) := by decide +kernel
theorem rs_ft0 {ci k : Nat} (h : rs_ft ci k = 0) : parseFieldDescriptor ((rs_cl ci).2.1 k).2.2.1 = some .int := by
  unfold rs_ft at h
  split at h
  · rename_i g; rw [g]; decide +kernel
  · split at h <;> cases h
theorem rs_ft1 {ci k : Nat} (h : rs_ft ci k = 1) : parseFieldDescriptor ((rs_cl ci).2.1 k).2.2.1 = some .boolean := by
  unfold rs_ft at h
  split at h
  · cases h
  · split at h
    · rename_i g; rw [g]; decide +kernel
    · cases h
theorem rs_fd_ok {mu i ci k t : Nat} (h : rs_fd mu i = some (ci, k, t)) : k < (rs_cl ci).2.2 ∧ rs_cls[ci]? = some ((rs_cl ci).1, (rs_cl ci).2.1, (rs_cl ci).2.2) ∧ (∀ w ∈ u_ws (rs_cl ci).1 (rs_cl ci).2.1 (rs_cl ci).2.2, w ∈ rs_tbl) ∧ Cond.fieldLink (rs_ow mu) i ((rs_cl ci).2.1 k).1 ((rs_cl ci).2.1 k).2.1 ((rs_cl ci).2.1 k).2.2.1 ∈ rs_tbl ∧ (t = 2 ↔ rs_ft ci k = 2) ∧ (t = 0 → parseFieldDescriptor ((rs_cl ci).2.1 k).2.2.1 = some .int ∧ ((rs_cl ci).2.1 k).2.2.2 = false) ∧ (t = 1 → parseFieldDescriptor ((rs_cl ci).2.1 k).2.2.1 = some .boolean ∧ ((rs_cl ci).2.1 k).2.2.2 = false) ∧ ((∀ k, k < (rs_cl ci).2.2 → parseFieldDescriptor ((rs_cl ci).2.1 k).2.2.1 = some (rs_ty ci k)) ∧ (∀ a, a < (rs_cl ci).2.2 → ∀ b, b < (rs_cl ci).2.2 → a ≠ b → ((rs_cl ci).2.1 a).2.1 ≠ ((rs_cl ci).2.1 b).2.1)) := by
  unfold rs_fd at h
  obtain ⟨q, hq, he⟩ := Option.map_eq_some_iff.mp h
  obtain ⟨ci', k', t', w⟩ := q
  cases he
  have h1 := rs_fdc_all _ (rs_lk_mem hq)
  unfold rs_fdc at h1
  simp only [Bool.and_eq_true, decide_eq_true_eq] at h1
  obtain ⟨a1, a2, a3, a4, a5⟩ := h1
  refine ⟨a1, rs_cls_at a3, rs_cw_in a3, rs_has_in a2, by rw [a4], fun e => ⟨rs_ft0 (a4.symm.trans e), ?_⟩, fun e => ⟨rs_ft1 (a4.symm.trans e), ?_⟩, rs_ty_ok _ a3⟩
  · rcases a5 with g | g
    · exact absurd (g.symm.trans e) (by decide)
    · exact g
  · rcases a5 with g | g
    · exact absurd (g.symm.trans e) (by decide)
    · exact g
def rs_nw (U : State) : Prop := va_Nw rs_nest U
theorem rs_nw_same {u U : State} (h : u.vm = U.vm) (hZ : rs_nw u) : rs_nw U := va_Nw.same rfl h hZ
theorem rs_nw_warm {s U : State} (hW : s.WarmedH U.vm) (hZ : rs_nw s) : rs_nw U := va_Nw.warmM hW hZ
def rs_tgc (e : Nat × Nat × Nat × Nat × Nat) : Bool := match e with
  | (c, i, nu, k, w) => decide (nu < 124 ∧ nu ≠ 116) && (if k = 0 then rs_has w (Cond.methodLink (rs_on c) i (rs_nm nu)) else decide (rs_nest = Cond.methodLinkNest (rs_on c) i (rs_nm nu) "RangeSheet"))
set_option maxRecDepth 100000 in
theorem rs_tgc_all : ∀ e ∈ rs_tgL, rs_tgc e = true := by decide +kernel
theorem rs_tg_mem {mu i nu : Nat} (h : rs_tg mu i = some nu) : ∃ k w, rs_tgc (rs_oc mu, i, nu, k, w) = true := by
  unfold rs_tg at h
  obtain ⟨q, hq, he⟩ := Option.map_eq_some_iff.mp h
  obtain ⟨nu', k, w⟩ := q
  cases he
  exact ⟨k, w, rs_tgc_all _ (rs_lk_mem hq)⟩
theorem rs_tg_lt {mu i nu : Nat} (h : rs_tg mu i = some nu) : nu < 124 ∧ nu ≠ 116 := by
  obtain ⟨k, w, h⟩ := rs_tg_mem h
  unfold rs_tgc at h
  simp only [Bool.and_eq_true, decide_eq_true_eq] at h
  exact h.1
theorem rs_tg_link {mu i nu : Nat} (h : rs_tg mu i = some nu) : Cond.methodLink (rs_ow mu) i (rs_nm nu) ∈ rs_tbl ∨ ∃ host, ∀ s : State, rs_nw s → va_Nw (Cond.methodLinkNest (rs_ow mu) i (rs_nm nu) host) s := by
  obtain ⟨k, w, h⟩ := rs_tg_mem h
  unfold rs_tgc at h
  simp only [Bool.and_eq_true, decide_eq_true_eq] at h
  obtain ⟨-, h⟩ := h
  split at h
  · exact Or.inl (rs_has_in h)
  · refine Or.inr ⟨"RangeSheet", fun s hs => ?_⟩
    rw [decide_eq_true_eq] at h
    unfold rs_nw at hs
    rw [h] at hs
    exact hs
def rs_csc (e : Nat × Nat × Int × Nat) : Bool := match e with
  | (c, i, z, w) => rs_has w (Cond.constant (rs_on c) i (Int32.ofInt z)) && (decide (-2147483648 ≤ z) && decide (z ≤ 2147483647))
set_option maxRecDepth 100000 in
theorem rs_csc_all : ∀ e ∈ rs_csL, rs_csc e = true := by decide +kernel
theorem rs_cst_ok0 {mu i : Nat} {z : Int} (h : rs_cst mu i = some z) : Cond.constant (rs_ow mu) i (Int32.ofInt z) ∈ rs_tbl ∧ (-2147483648 ≤ z ∧ z ≤ 2147483647) := by
  unfold rs_cst at h
  obtain ⟨q, hq, he⟩ := Option.map_eq_some_iff.mp h
  obtain ⟨z', w⟩ := q
  cases he
  have h1 := rs_csc_all _ (rs_lk_mem hq)
  unfold rs_csc at h1
  simp only [Bool.and_eq_true, decide_eq_true_eq] at h1
  exact ⟨rs_has_in h1.1, h1.2⟩
def rs_spc (e : Nat × Nat × Nat × Nat) : Bool := match e with
  | (c, i, t, w) => rs_has w (Cond.methodLink (rs_on c) i (if t = 0 then Lib.Math.max.name else if t = 1 then Lib.Math.min.name else arraycopyName))
set_option maxRecDepth 100000 in
theorem rs_spc_all : ∀ e ∈ rs_spL, rs_spc e = true := by decide +kernel
theorem rs_sp_ok {mu i t : Nat} (h : rs_sp mu i = some t) : Cond.methodLink (rs_ow mu) i (if t = 0 then Lib.Math.max.name else if t = 1 then Lib.Math.min.name else arraycopyName) ∈ rs_tbl := by
  unfold rs_sp at h
  obtain ⟨q, hq, he⟩ := Option.map_eq_some_iff.mp h
  obtain ⟨z', w⟩ := q
  cases he
  exact rs_has_in (rs_spc_all _ (rs_lk_mem hq))
theorem rs_mathw : rs_has rs_wMax.1 (Cond.static Lib.Math.max.name) = true ∧ rs_has rs_wMax.2.1 (Cond.initialized "java/lang/Math") = true ∧ rs_has rs_wMax.2.2 (Cond.code Lib.Math.max.name Lib.Math.max.code 2 (some .int)) = true ∧ rs_has rs_wMin.1 (Cond.static Lib.Math.min.name) = true ∧ rs_has rs_wMin.2.2 (Cond.code Lib.Math.min.name Lib.Math.min.code 2 (some .int)) = true ∧ rs_has rs_wAc.1 (Cond.native arraycopyName) = true ∧ rs_has rs_wAc.2.1 (Cond.static arraycopyName) = true ∧ rs_has rs_wAc.2.2 (Cond.initialized "java/lang/System") = true := by decide +kernel
theorem rs_sp0 {mu i : Nat} (h : rs_sp mu i = some 0) : Cond.methodLink (rs_ow mu) i Lib.Math.max.name ∈ rs_tbl ∧ Cond.static Lib.Math.max.name ∈ rs_tbl ∧ Cond.initialized "java/lang/Math" ∈ rs_tbl ∧ Cond.code Lib.Math.max.name Lib.Math.max.code 2 (some .int) ∈ rs_tbl := ⟨rs_sp_ok h, rs_has_in rs_mathw.1, rs_has_in rs_mathw.2.1, rs_has_in rs_mathw.2.2.1⟩
theorem rs_sp1 {mu i : Nat} (h : rs_sp mu i = some 1) : Cond.methodLink (rs_ow mu) i Lib.Math.min.name ∈ rs_tbl ∧ Cond.static Lib.Math.min.name ∈ rs_tbl ∧ Cond.initialized "java/lang/Math" ∈ rs_tbl ∧ Cond.code Lib.Math.min.name Lib.Math.min.code 2 (some .int) ∈ rs_tbl := ⟨rs_sp_ok h, rs_has_in rs_mathw.2.2.2.1, rs_has_in rs_mathw.2.1, rs_has_in rs_mathw.2.2.2.2.1⟩
theorem rs_sp2 {mu i : Nat} (h : rs_sp mu i = some 2) : Cond.methodLink (rs_ow mu) i arraycopyName ∈ rs_tbl ∧ Cond.native arraycopyName ∈ rs_tbl ∧ Cond.static arraycopyName ∈ rs_tbl ∧ Cond.initialized "java/lang/System" ∈ rs_tbl := ⟨rs_sp_ok h, rs_has_in rs_mathw.2.2.2.2.2.1, rs_has_in rs_mathw.2.2.2.2.2.2.1, rs_has_in rs_mathw.2.2.2.2.2.2.2⟩
theorem rs_acw : nativeFrameWords "java/lang/System" "arraycopy" 5 + 11 ≤ 40 := by decide +kernel
def rs_sh (o : Nat) : Nat × Nat := ((rs_geo.getD o (0, 0, [])).1, (rs_geo.getD o (0, 0, [])).2.1)
def rs_rf (o k : Nat) : Nat := (rs_geo.getD o (0, 0, [])).2.2.getD k 0
theorem rs_gok {o : Nat} (h : (rs_sh o).1 ≠ 0) : 0 < o ∧ o ≤ rs_N := by
  by_cases h1 : o < 111
  · have h2 : ∀ o, o < 111 → (rs_sh o).1 ≠ 0 → 0 < o ∧ o ≤ rs_N := by decide +kernel
    exact h2 o h1 h
  · exfalso
    apply h
    unfold rs_sh
    rw [List.getD_eq_getElem?_getD, List.getElem?_eq_none (by show 111 ≤ o; omega)]
    rfl
def rs_an3 : String := "RangeSheet$Entry"
def rs_an4 : String := "RangeSheet$Relation"
def rs_an5 : String := "RangeSheet$Table"
def rs_an6 : String := "RangeSheet$Ranges"
/-! throwing -/
def rs_th (mu pc : Nat) : Option Int := (rs_lk rs_thL mu pc).map (fun q => q.1)
def rs_xn (t : Int) : String := if t = 1 then "java/lang/IllegalArgumentException" else "java/lang/IllegalStateException"
def rs_xnames : List String := ["java/lang/RuntimeException", "java/lang/Exception"]
def rs_thc (e : Nat × Nat × Int × Nat × Nat × Nat) : Bool := match e with
  | (mu, pc, t, i, k, j) => decide (decode (rs_cd mu) pc = .ok (.new i, 3)) && (decide (decode (rs_cd mu) (pc + 3) = .ok (.dup, 1)) && (decide (decode (rs_cd mu) (pc + 4) = .ok (.ldc k, 2)) && (decide (decode (rs_cd mu) (pc + 6) = .ok (.invokespecial j, 3)) && (decide (decode (rs_cd mu) (pc + 9) = .ok (.athrow, 1)) && (decide (t = 1 ∨ t = 2) && (decide (rs_ow mu = "RangeSheet") && (decide (mu < 116) && decide (∃ x ∈ rs_strL, x.1 = k))))))))
set_option maxRecDepth 100000 in
theorem rs_thc_all : ∀ e ∈ rs_thL, rs_thc e = true := by decide +kernel
