def patL : List Int32 := [61, 2, 2, 0, 62, 61, 1, 2, 62, 60, 1, 3, 60, 2, 3, 0, 62, 61, 1, 2, 62, 60, 3, 1, 60, 3, 2, 0, 33, 60, 2, 48, 0, 62, 60, 3, 43, 1, 2, 118, 60, 3, 1, 61, 3, 2, 0, 62, 118, 60, 3, 1, 61, 3, 2, 60, 3, 43, 1, 2, 0, 62, 94, 76, 6, 1, 60, 6, 2, 76, 6, 2, 60, 6, 1, 61, 1, 2, 0, 62, 76, 6, 1, 4, 62, 60, 2, 1, 5, 0, 62, 60, 3, 123, 6, 1, 4, 94, 60, 3, 1, 5, 0, 62, 94, 60, 3, 1, 5, 60, 3, 123, 6, 1, 4, 0, 62, 69, 6, 1, 4, 33, 76, 6, 1, 33, 4, 0, 62, 33, 76, 6, 1, 33, 4, 69, 6, 1, 4, 0]
def pat (n : Nat) : Nat → Int32 := fun j => if j < n then patL.getD j 0 else 0
theorem pat_0 : pat 0 = fun _ => 0 := by
  funext j
  simp [pat]
theorem pat_up {k : Nat} {i v : Int32} (hi : i.toNatClampNeg = k) (hv : patL.getD k 0 = v) : upd (pat k) i.toNatClampNeg v = pat (k + 1) := by
  rw [hi]
  funext j
  unfold upd pat
  by_cases h1 : j = k
  · subst h1
    simp only [if_true, Nat.lt_succ_self, hv]
  · by_cases h2 : j < k
    · simp [h1, h2, Nat.lt_succ_of_lt h2]
    · have h3 : ¬ j < k + 1 := by omega
      simp [h1, h2, h3]
abbrev b_Text_init : ByteArray := prog_8_method_1_code
def y_Text_init : MethodName := ⟨R_Text, "<init>", "()V"⟩
abbrev w_Text_init : Cond := .code y_Text_init b_Text_init 1 none
theorem md_Text_init : MD y_Text_init b_Text_init 1 none 0 := ⟨in_all (in_t1 (List.mem_of_getElem? (i := 2) rfl)) rfl, in_all (in_t1 (List.mem_of_getElem? (i := 33) rfl)) rfl, by decide, by decide, by decide +kernel⟩
abbrev b_Function_init : ByteArray := prog_3_method_1_code
def y_Function_init : MethodName := ⟨R_Function, "<init>", "()V"⟩
abbrev w_Function_init : Cond := .code y_Function_init b_Function_init 1 none
theorem md_Function_init : MD y_Function_init b_Function_init 1 none 0 := ⟨in_all (in_t1 (List.mem_of_getElem? (i := 4) rfl)) rfl, in_all (in_t1 (List.mem_of_getElem? (i := 72) rfl)) rfl, by decide, by decide, by decide +kernel⟩
abbrev b_Laws_init : ByteArray := prog_4_method_1_code
def y_Laws_init : MethodName := ⟨R_Laws, "<init>", "()V"⟩
abbrev w_Laws_init : Cond := .code y_Laws_init b_Laws_init 2 none
theorem md_Laws_init : MD y_Laws_init b_Laws_init 2 none 0 := ⟨in_all (in_t1 (List.mem_of_getElem? (i := 3) rfl)) rfl, in_all (in_t1 (List.mem_of_getElem? (i := 54) rfl)) rfl, by decide, by decide, by decide +kernel⟩
abbrev b_Reader_init : ByteArray := prog_5_method_1_code
def y_Reader_init : MethodName := ⟨R_Reader, "<init>", "(LAdjoinedSets$Text;[LAdjoinedSets$Function;)V"⟩
abbrev w_Reader_init : Cond := .code y_Reader_init b_Reader_init 3 none
theorem md_Reader_init : MD y_Reader_init b_Reader_init 3 none 2 := ⟨in_all (in_t1 (List.mem_of_getElem? (i := 5) rfl)) rfl, in_all (in_t1 (List.mem_of_getElem? (i := 87) rfl)) rfl, by decide, by decide, by decide +kernel⟩
abbrev b_Worker_init : ByteArray := prog_9_method_1_code
def y_Worker_init : MethodName := ⟨R_Worker, "<init>", "([LAdjoinedSets$Function;)V"⟩
abbrev w_Worker_init : Cond := .code y_Worker_init b_Worker_init 2 none
theorem md_Worker_init : MD y_Worker_init b_Worker_init 2 none 1 := ⟨in_all (in_t1 (List.mem_of_getElem? (i := 6) rfl)) rfl, in_all (in_t1 (List.mem_of_getElem? (i := 112) rfl)) rfl, by decide, by decide, by decide +kernel⟩
abbrev b_Replacement_init : ByteArray := prog_6_method_1_code
def y_Replacement_init : MethodName := ⟨R_Replacement, "<init>", "(LAdjoinedSets$Text;)V"⟩
abbrev w_Replacement_init : Cond := .code y_Replacement_init b_Replacement_init 2 none
theorem md_Replacement_init : MD y_Replacement_init b_Replacement_init 2 none 1 := ⟨in_all (in_t1 (List.mem_of_getElem? (i := 8) rfl)) rfl, in_all (in_t1 (List.mem_of_getElem? (i := 136) rfl)) rfl, by decide, by decide, by decide +kernel⟩
abbrev b_Form_init : ByteArray := prog_2_method_1_code
def y_Form_init : MethodName := ⟨R_Form, "<init>", "(LAdjoinedSets$Text;)V"⟩
abbrev w_Form_init : Cond := .code y_Form_init b_Form_init 2 none
theorem md_Form_init : MD y_Form_init b_Form_init 2 none 1 := ⟨in_all (in_t1 (List.mem_of_getElem? (i := 10) rfl)) rfl, in_all (in_t1 (List.mem_of_getElem? (i := 155) rfl)) rfl, by decide, by decide, by decide +kernel⟩
abbrev b_Rules_init : ByteArray := prog_7_method_1_code
def y_Rules_init : MethodName := ⟨R_Rules, "<init>", "(LAdjoinedSets$Text;[LAdjoinedSets$Function;LAdjoinedSets$Laws;)V"⟩
abbrev w_Rules_init : Cond := .code y_Rules_init b_Rules_init 4 none
theorem md_Rules_init : MD y_Rules_init b_Rules_init 4 none 3 := ⟨in_all (in_t1 (List.mem_of_getElem? (i := 7) rfl)) rfl, in_all (in_t1 (List.mem_of_getElem? (i := 128) rfl)) rfl, by decide, by decide, by decide +kernel⟩
abbrev b_AdjoinedSets_init : ByteArray := prog_1_method_1_code
def y_AdjoinedSets_init : MethodName := ⟨R_AdjoinedSets, "<init>", "()V"⟩
abbrev w_AdjoinedSets_init : Cond := .code y_AdjoinedSets_init b_AdjoinedSets_init 2 none
theorem md_AdjoinedSets_init : MD y_AdjoinedSets_init b_AdjoinedSets_init 2 none 0 := ⟨in_all (in_t1 (List.mem_of_getElem? (i := 1) rfl)) rfl, in_all (in_t1 (List.mem_of_getElem? (i := 25) rfl)) rfl, by decide, by decide, by decide +kernel⟩
abbrev b_AdjoinedSetsModel_init : ByteArray := prog_11_method_1_code
def y_AdjoinedSetsModel_init : MethodName := ⟨R_AdjoinedSetsModel, "<init>", "()V"⟩
abbrev w_AdjoinedSetsModel_init : Cond := .code y_AdjoinedSetsModel_init b_AdjoinedSetsModel_init 1 none
theorem md_AdjoinedSetsModel_init : MD y_AdjoinedSetsModel_init b_AdjoinedSetsModel_init 1 none 0 := ⟨in_all (in_t1 (List.mem_of_getElem? (i := 12) rfl)) rfl, in_all (in_t4 (List.mem_of_getElem? (i := 84) rfl)) rfl, by decide, by decide, by decide +kernel⟩
theorem al_boolean : Cond.arrayClass .boolean ∈ ALL := in_all (in_t4 (List.mem_of_getElem? (i := 195) rfl)) rfl
theorem al_char : Cond.arrayClass .char ∈ ALL := in_all (in_t1 (List.mem_of_getElem? (i := 46) rfl)) rfl
theorem al_int : Cond.arrayClass .int ∈ ALL := in_all (in_t1 (List.mem_of_getElem? (i := 47) rfl)) rfl
theorem al_long : Cond.arrayClass .long ∈ ALL := in_all (in_t1 (List.mem_of_getElem? (i := 45) rfl)) rfl
theorem nf_AdjoinedSetsModel_13 : FNK R_AdjoinedSetsModel 13 9 2 (.array .long) := ⟨_, _, _, _, kf_9, by decide, in_all (in_t4 (List.mem_of_getElem? (i := 88) rfl)) rfl, rfl, rfl, by decide +kernel⟩
theorem nf_AdjoinedSetsModel_17 : FNK R_AdjoinedSetsModel 17 9 3 (.array .int) := ⟨_, _, _, _, kf_9, by decide, in_all (in_t4 (List.mem_of_getElem? (i := 89) rfl)) rfl, rfl, rfl, by decide +kernel⟩
theorem nf_AdjoinedSetsModel_20 : FNK R_AdjoinedSetsModel 20 9 5 (.array .int) := ⟨_, _, _, _, kf_9, by decide, in_all (in_t4 (List.mem_of_getElem? (i := 91) rfl)) rfl, rfl, rfl, by decide +kernel⟩
theorem nf_AdjoinedSetsModel_23 : FNK R_AdjoinedSetsModel 23 9 6 (.array .int) := ⟨_, _, _, _, kf_9, by decide, in_all (in_t4 (List.mem_of_getElem? (i := 92) rfl)) rfl, rfl, rfl, by decide +kernel⟩
theorem nf_AdjoinedSetsModel_26 : FNK R_AdjoinedSetsModel 26 9 8 (.array .int) := ⟨_, _, _, _, kf_9, by decide, in_all (in_t4 (List.mem_of_getElem? (i := 94) rfl)) rfl, rfl, rfl, by decide +kernel⟩
theorem nf_AdjoinedSetsModel_29 : FNK R_AdjoinedSetsModel 29 9 9 (.array .int) := ⟨_, _, _, _, kf_9, by decide, in_all (in_t4 (List.mem_of_getElem? (i := 95) rfl)) rfl, rfl, rfl, by decide +kernel⟩
theorem nf_AdjoinedSetsModel_32 : FNK R_AdjoinedSetsModel 32 9 10 (.array .int) := ⟨_, _, _, _, kf_9, by decide, in_all (in_t4 (List.mem_of_getElem? (i := 96) rfl)) rfl, rfl, rfl, by decide +kernel⟩
theorem nf_AdjoinedSetsModel_35 : FNK R_AdjoinedSetsModel 35 9 11 (.array .int) := ⟨_, _, _, _, kf_9, by decide, in_all (in_t4 (List.mem_of_getElem? (i := 97) rfl)) rfl, rfl, rfl, by decide +kernel⟩
theorem nf_AdjoinedSetsModel_38 : FNK R_AdjoinedSetsModel 38 9 13 (.array .boolean) := ⟨_, _, _, _, kf_9, by decide, in_all (in_t4 (List.mem_of_getElem? (i := 99) rfl)) rfl, rfl, rfl, by decide +kernel⟩
theorem nf_AdjoinedSetsModel_42 : FNK R_AdjoinedSetsModel 42 9 14 (.array .int) := ⟨_, _, _, _, kf_9, by decide, in_all (in_t4 (List.mem_of_getElem? (i := 100) rfl)) rfl, rfl, rfl, by decide +kernel⟩
theorem nf_AdjoinedSetsModel_45 : FNK R_AdjoinedSetsModel 45 9 18 (.array .int) := ⟨_, _, _, _, kf_9, by decide, in_all (in_t4 (List.mem_of_getElem? (i := 104) rfl)) rfl, rfl, rfl, by decide +kernel⟩
theorem nf_AdjoinedSetsModel_48 : FNK R_AdjoinedSetsModel 48 9 19 (.array .int) := ⟨_, _, _, _, kf_9, by decide, in_all (in_t4 (List.mem_of_getElem? (i := 105) rfl)) rfl, rfl, rfl, by decide +kernel⟩
theorem nf_AdjoinedSetsModel_51 : FNK R_AdjoinedSetsModel 51 9 20 (.array .int) := ⟨_, _, _, _, kf_9, by decide, in_all (in_t4 (List.mem_of_getElem? (i := 106) rfl)) rfl, rfl, rfl, by decide +kernel⟩
theorem nf_AdjoinedSetsModel_54 : FNK R_AdjoinedSetsModel 54 9 21 (.array .int) := ⟨_, _, _, _, kf_9, by decide, in_all (in_t4 (List.mem_of_getElem? (i := 107) rfl)) rfl, rfl, rfl, by decide +kernel⟩
theorem nf_AdjoinedSetsModel_57 : FNK R_AdjoinedSetsModel 57 9 22 (.array .long) := ⟨_, _, _, _, kf_9, by decide, in_all (in_t4 (List.mem_of_getElem? (i := 108) rfl)) rfl, rfl, rfl, by decide +kernel⟩
theorem nf_AdjoinedSetsModel_60 : FNK R_AdjoinedSetsModel 60 9 23 (.array .long) := ⟨_, _, _, _, kf_9, by decide, in_all (in_t4 (List.mem_of_getElem? (i := 109) rfl)) rfl, rfl, rfl, by decide +kernel⟩
theorem nf_AdjoinedSetsModel_63 : FNK R_AdjoinedSetsModel 63 9 24 (.array .long) := ⟨_, _, _, _, kf_9, by decide, in_all (in_t4 (List.mem_of_getElem? (i := 110) rfl)) rfl, rfl, rfl, by decide +kernel⟩
theorem nf_AdjoinedSetsModel_66 : FNK R_AdjoinedSetsModel 66 9 26 (.array .int) := ⟨_, _, _, _, kf_9, by decide, in_all (in_t4 (List.mem_of_getElem? (i := 112) rfl)) rfl, rfl, rfl, by decide +kernel⟩
theorem nf_AdjoinedSetsModel_69 : FNK R_AdjoinedSetsModel 69 9 27 (.array .int) := ⟨_, _, _, _, kf_9, by decide, in_all (in_t4 (List.mem_of_getElem? (i := 113) rfl)) rfl, rfl, rfl, by decide +kernel⟩
theorem nf_AdjoinedSetsModel_7 : FNK R_AdjoinedSetsModel 7 9 0 (.array .int) := ⟨_, _, _, _, kf_9, by decide, in_all (in_t4 (List.mem_of_getElem? (i := 86) rfl)) rfl, rfl, rfl, by decide +kernel⟩
theorem nf_AdjoinedSetsModel_72 : FNK R_AdjoinedSetsModel 72 9 28 (.array .int) := ⟨_, _, _, _, kf_9, by decide, in_all (in_t4 (List.mem_of_getElem? (i := 114) rfl)) rfl, rfl, rfl, by decide +kernel⟩
theorem nf_AdjoinedSetsModel_75 : FNK R_AdjoinedSetsModel 75 9 29 (.array .int) := ⟨_, _, _, _, kf_9, by decide, in_all (in_t4 (List.mem_of_getElem? (i := 115) rfl)) rfl, rfl, rfl, by decide +kernel⟩
theorem nf_AdjoinedSetsModel_78 : FNK R_AdjoinedSetsModel 78 9 30 (.array .int) := ⟨_, _, _, _, kf_9, by decide, in_all (in_t4 (List.mem_of_getElem? (i := 116) rfl)) rfl, rfl, rfl, by decide +kernel⟩
theorem nf_AdjoinedSetsModel_81 : FNK R_AdjoinedSetsModel 81 9 31 (.array .int) := ⟨_, _, _, _, kf_9, by decide, in_all (in_t4 (List.mem_of_getElem? (i := 117) rfl)) rfl, rfl, rfl, by decide +kernel⟩
theorem nf_AdjoinedSetsModel_84 : FNK R_AdjoinedSetsModel 84 9 32 (.array .int) := ⟨_, _, _, _, kf_9, by decide, in_all (in_t4 (List.mem_of_getElem? (i := 118) rfl)) rfl, rfl, rfl, by decide +kernel⟩
theorem nf_AdjoinedSetsModel_87 : FNK R_AdjoinedSetsModel 87 9 33 (.array .int) := ⟨_, _, _, _, kf_9, by decide, in_all (in_t4 (List.mem_of_getElem? (i := 119) rfl)) rfl, rfl, rfl, by decide +kernel⟩
theorem nf_AdjoinedSetsModel_90 : FNK R_AdjoinedSetsModel 90 9 34 (.array .int) := ⟨_, _, _, _, kf_9, by decide, in_all (in_t4 (List.mem_of_getElem? (i := 120) rfl)) rfl, rfl, rfl, by decide +kernel⟩
theorem nf_AdjoinedSetsModel_93 : FNK R_AdjoinedSetsModel 93 9 35 (.array .boolean) := ⟨_, _, _, _, kf_9, by decide, in_all (in_t4 (List.mem_of_getElem? (i := 121) rfl)) rfl, rfl, rfl, by decide +kernel⟩
theorem nf_AdjoinedSets_16 : FNK R_AdjoinedSets 16 8 1 (.object "AdjoinedSets$Text") := ⟨_, _, _, _, kf_8, by decide, in_all (in_t1 (List.mem_of_getElem? (i := 206) rfl)) rfl, rfl, rfl, by decide +kernel⟩
theorem nf_AdjoinedSets_22 : FNK R_AdjoinedSets 22 8 2 (.array (.object "AdjoinedSets$Function")) := ⟨_, _, _, _, kf_8, by decide, in_all (in_t1 (List.mem_of_getElem? (i := 207) rfl)) rfl, rfl, rfl, by decide +kernel⟩
theorem nf_AdjoinedSets_29 : FNK R_AdjoinedSets 29 8 3 (.object "AdjoinedSets$Laws") := ⟨_, _, _, _, kf_8, by decide, in_all (in_t1 (List.mem_of_getElem? (i := 208) rfl)) rfl, rfl, rfl, by decide +kernel⟩
theorem nf_AdjoinedSets_39 : FNK R_AdjoinedSets 39 8 4 (.object "AdjoinedSets$Reader") := ⟨_, _, _, _, kf_8, by decide, in_all (in_t1 (List.mem_of_getElem? (i := 209) rfl)) rfl, rfl, rfl, by decide +kernel⟩
theorem nf_AdjoinedSets_48 : FNK R_AdjoinedSets 48 8 5 (.object "AdjoinedSets$Worker") := ⟨_, _, _, _, kf_8, by decide, in_all (in_t1 (List.mem_of_getElem? (i := 210) rfl)) rfl, rfl, rfl, by decide +kernel⟩
theorem nf_AdjoinedSets_57 : FNK R_AdjoinedSets 57 8 6 (.object "AdjoinedSets$Rules") := ⟨_, _, _, _, kf_8, by decide, in_all (in_t1 (List.mem_of_getElem? (i := 211) rfl)) rfl, rfl, rfl, by decide +kernel⟩
theorem nf_AdjoinedSets_9 : FNK R_AdjoinedSets 9 8 0 (.array .long) := ⟨_, _, _, _, kf_8, by decide, in_all (in_t1 (List.mem_of_getElem? (i := 205) rfl)) rfl, rfl, rfl, by decide +kernel⟩
theorem nf_Form_17 : FNK R_Form 17 6 1 (.array .int) := ⟨_, _, _, _, kf_6, by decide, in_all (in_t1 (List.mem_of_getElem? (i := 170) rfl)) rfl, rfl, rfl, by decide +kernel⟩
theorem nf_Form_21 : FNK R_Form 21 6 0 (.object "AdjoinedSets$Text") := ⟨_, _, _, _, kf_6, by decide, in_all (in_t1 (List.mem_of_getElem? (i := 169) rfl)) rfl, rfl, rfl, by decide +kernel⟩
theorem nf_Function_10 : FNK R_Function 10 1 0 (.object "AdjoinedSets$Text") := ⟨_, _, _, _, kf_1, by decide, in_all (in_t1 (List.mem_of_getElem? (i := 76) rfl)) rfl, rfl, rfl, by decide +kernel⟩
theorem nf_Laws_11 : FNK R_Laws 11 2 0 (.array (.object "AdjoinedSets$Text")) := ⟨_, _, _, _, kf_2, by decide, in_all (in_t1 (List.mem_of_getElem? (i := 59) rfl)) rfl, rfl, rfl, by decide +kernel⟩
theorem nf_Laws_17 : FNK R_Laws 17 2 1 (.array .int) := ⟨_, _, _, _, kf_2, by decide, in_all (in_t1 (List.mem_of_getElem? (i := 60) rfl)) rfl, rfl, rfl, by decide +kernel⟩
theorem nf_Reader_25 : FNK R_Reader 25 3 0 (.object "AdjoinedSets$Text") := ⟨_, _, _, _, kf_3, by decide, in_all (in_t1 (List.mem_of_getElem? (i := 89) rfl)) rfl, rfl, rfl, by decide +kernel⟩
theorem nf_Reader_29 : FNK R_Reader 29 3 1 (.array (.object "AdjoinedSets$Function")) := ⟨_, _, _, _, kf_3, by decide, in_all (in_t1 (List.mem_of_getElem? (i := 90) rfl)) rfl, rfl, rfl, by decide +kernel⟩
theorem nf_Reader_9 : FNK R_Reader 9 3 2 (.array .int) := ⟨_, _, _, _, kf_3, by decide, in_all (in_t1 (List.mem_of_getElem? (i := 91) rfl)) rfl, rfl, rfl, by decide +kernel⟩
theorem nf_Replacement_9 : FNK R_Replacement 9 5 0 (.array .int) := ⟨_, _, _, _, kf_5, by decide, in_all (in_t1 (List.mem_of_getElem? (i := 141) rfl)) rfl, rfl, rfl, by decide +kernel⟩
theorem nf_Rules_12 : FNK R_Rules 12 7 3 (.object "AdjoinedSets$Text") := ⟨_, _, _, _, kf_7, by decide, in_all (in_t1 (List.mem_of_getElem? (i := 180) rfl)) rfl, rfl, rfl, by decide +kernel⟩
theorem nf_Rules_18 : FNK R_Rules 18 7 6 (.array .int) := ⟨_, _, _, _, kf_7, by decide, in_all (in_t1 (List.mem_of_getElem? (i := 183) rfl)) rfl, rfl, rfl, by decide +kernel⟩
theorem nf_Rules_22 : FNK R_Rules 22 7 7 (.array .int) := ⟨_, _, _, _, kf_7, by decide, in_all (in_t1 (List.mem_of_getElem? (i := 184) rfl)) rfl, rfl, rfl, by decide +kernel⟩
theorem nf_Rules_29 : FNK R_Rules 29 7 0 (.object "AdjoinedSets$Text") := ⟨_, _, _, _, kf_7, by decide, in_all (in_t1 (List.mem_of_getElem? (i := 177) rfl)) rfl, rfl, rfl, by decide +kernel⟩
theorem nf_Rules_32 : FNK R_Rules 32 7 1 (.array (.object "AdjoinedSets$Function")) := ⟨_, _, _, _, kf_7, by decide, in_all (in_t1 (List.mem_of_getElem? (i := 178) rfl)) rfl, rfl, rfl, by decide +kernel⟩
theorem nf_Rules_36 : FNK R_Rules 36 7 2 (.object "AdjoinedSets$Laws") := ⟨_, _, _, _, kf_7, by decide, in_all (in_t1 (List.mem_of_getElem? (i := 179) rfl)) rfl, rfl, rfl, by decide +kernel⟩
theorem nf_Rules_45 : FNK R_Rules 45 7 4 (.object "AdjoinedSets$Replacement") := ⟨_, _, _, _, kf_7, by decide, in_all (in_t1 (List.mem_of_getElem? (i := 181) rfl)) rfl, rfl, rfl, by decide +kernel⟩
theorem nf_Rules_52 : FNK R_Rules 52 7 5 (.object "AdjoinedSets$Form") := ⟨_, _, _, _, kf_7, by decide, in_all (in_t1 (List.mem_of_getElem? (i := 182) rfl)) rfl, rfl, rfl, by decide +kernel⟩
theorem nf_Text_15 : FNK R_Text 15 0 1 (.array .int) := ⟨_, _, _, _, kf_0, by decide, in_all (in_t1 (List.mem_of_getElem? (i := 36) rfl)) rfl, rfl, rfl, by decide +kernel⟩
theorem nf_Text_9 : FNK R_Text 9 0 0 (.array .char) := ⟨_, _, _, _, kf_0, by decide, in_all (in_t1 (List.mem_of_getElem? (i := 35) rfl)) rfl, rfl, rfl, by decide +kernel⟩
theorem nf_Worker_19 : FNK R_Worker 19 4 0 (.array (.object "AdjoinedSets$Function")) := ⟨_, _, _, _, kf_4, by decide, in_all (in_t1 (List.mem_of_getElem? (i := 114) rfl)) rfl, rfl, rfl, by decide +kernel⟩
theorem nf_Worker_9 : FNK R_Worker 9 4 1 (.array .long) := ⟨_, _, _, _, kf_4, by decide, in_all (in_t1 (List.mem_of_getElem? (i := 115) rfl)) rfl, rfl, rfl, by decide +kernel⟩
theorem ng_AdjoinedSets_16 : FLK R_AdjoinedSets 16 8 1 := ⟨_, _, _, _, kf_8, by decide, in_all (in_t1 (List.mem_of_getElem? (i := 206) rfl)) rfl⟩
theorem ng_AdjoinedSets_22 : FLK R_AdjoinedSets 22 8 2 := ⟨_, _, _, _, kf_8, by decide, in_all (in_t1 (List.mem_of_getElem? (i := 207) rfl)) rfl⟩
theorem ng_AdjoinedSets_29 : FLK R_AdjoinedSets 29 8 3 := ⟨_, _, _, _, kf_8, by decide, in_all (in_t1 (List.mem_of_getElem? (i := 208) rfl)) rfl⟩
theorem ng_Form_17 : FLK R_Form 17 6 1 := ⟨_, _, _, _, kf_6, by decide, in_all (in_t1 (List.mem_of_getElem? (i := 170) rfl)) rfl⟩
theorem ng_Laws_11 : FLK R_Laws 11 2 0 := ⟨_, _, _, _, kf_2, by decide, in_all (in_t1 (List.mem_of_getElem? (i := 59) rfl)) rfl⟩
theorem ng_Replacement_9 : FLK R_Replacement 9 5 0 := ⟨_, _, _, _, kf_5, by decide, in_all (in_t1 (List.mem_of_getElem? (i := 141) rfl)) rfl⟩
theorem nl_AdjoinedSets_15 : (R_AdjoinedSets, 15, y_Text_init, "AdjoinedSets") ∈ nests ∧ MD y_Text_init b_Text_init 1 none 0 ∧ Cond.instanceMethod y_Text_init ∈ ALL ∧ y_Text_init.name = "<init>" := ⟨List.mem_of_getElem? (i := 0) rfl, md_Text_init, in_all (in_t1 (List.mem_of_getElem? (i := 32) rfl)) rfl, rfl⟩
theorem nl_AdjoinedSets_28 : Cond.methodLink R_AdjoinedSets 28 y_Laws_init ∈ ALL ∧ MD y_Laws_init b_Laws_init 2 none 0 ∧ Cond.instanceMethod y_Laws_init ∈ ALL ∧ y_Laws_init.name = "<init>" := ⟨in_all (in_t1 (List.mem_of_getElem? (i := 52) rfl)) rfl, md_Laws_init, in_all (in_t1 (List.mem_of_getElem? (i := 53) rfl)) rfl, rfl⟩
theorem nl_AdjoinedSets_33 : (R_AdjoinedSets, 33, y_Function_init, "AdjoinedSets") ∈ nests ∧ MD y_Function_init b_Function_init 1 none 0 ∧ Cond.instanceMethod y_Function_init ∈ ALL ∧ y_Function_init.name = "<init>" := ⟨List.mem_of_getElem? (i := 2) rfl, md_Function_init, in_all (in_t1 (List.mem_of_getElem? (i := 71) rfl)) rfl, rfl⟩
theorem nl_AdjoinedSets_36 : Cond.methodLink R_AdjoinedSets 36 y_Reader_init ∈ ALL ∧ MD y_Reader_init b_Reader_init 3 none 2 ∧ Cond.instanceMethod y_Reader_init ∈ ALL ∧ y_Reader_init.name = "<init>" := ⟨in_all (in_t1 (List.mem_of_getElem? (i := 85) rfl)) rfl, md_Reader_init, in_all (in_t1 (List.mem_of_getElem? (i := 86) rfl)) rfl, rfl⟩
theorem nl_AdjoinedSets_45 : Cond.methodLink R_AdjoinedSets 45 y_Worker_init ∈ ALL ∧ MD y_Worker_init b_Worker_init 2 none 1 ∧ Cond.instanceMethod y_Worker_init ∈ ALL ∧ y_Worker_init.name = "<init>" := ⟨in_all (in_t1 (List.mem_of_getElem? (i := 110) rfl)) rfl, md_Worker_init, in_all (in_t1 (List.mem_of_getElem? (i := 111) rfl)) rfl, rfl⟩
theorem nl_AdjoinedSets_54 : Cond.methodLink R_AdjoinedSets 54 y_Rules_init ∈ ALL ∧ MD y_Rules_init b_Rules_init 4 none 3 ∧ Cond.instanceMethod y_Rules_init ∈ ALL ∧ y_Rules_init.name = "<init>" := ⟨in_all (in_t1 (List.mem_of_getElem? (i := 126) rfl)) rfl, md_Rules_init, in_all (in_t1 (List.mem_of_getElem? (i := 127) rfl)) rfl, rfl⟩
theorem nl_Form_11 : Cond.methodLink R_Form 11 y_String_length ∈ ALL ∧ MD y_String_length b_String_length 1 (some .int) 0 ∧ Cond.instanceMethod y_String_length ∈ ALL ∧ Cond.selects y_String_length.cls y_String_length y_String_length ∈ ALL := ⟨in_all (in_t1 (List.mem_of_getElem? (i := 158) rfl)) rfl, md_String_length, mt_String_length⟩
theorem nl_Form_25 : Cond.methodLink R_Form 25 y_Arrays_fill ∈ ALL ∧ MD y_Arrays_fill b_Arrays_fill 4 none 2 ∧ Cond.static y_Arrays_fill ∈ ALL := ⟨in_all (in_t1 (List.mem_of_getElem? (i := 168) rfl)) rfl, md_Arrays_fill, ms_Arrays_fill⟩
theorem nl_Function_9 : (R_Function, 9, y_Text_init, "AdjoinedSets") ∈ nests ∧ MD y_Text_init b_Text_init 1 none 0 ∧ Cond.instanceMethod y_Text_init ∈ ALL ∧ y_Text_init.name = "<init>" := ⟨List.mem_of_getElem? (i := 3) rfl, md_Text_init, in_all (in_t1 (List.mem_of_getElem? (i := 32) rfl)) rfl, rfl⟩
theorem nl_Laws_25 : (R_Laws, 25, y_Text_init, "AdjoinedSets") ∈ nests ∧ MD y_Text_init b_Text_init 1 none 0 ∧ Cond.instanceMethod y_Text_init ∈ ALL ∧ y_Text_init.name = "<init>" := ⟨List.mem_of_getElem? (i := 1) rfl, md_Text_init, in_all (in_t1 (List.mem_of_getElem? (i := 32) rfl)) rfl, rfl⟩
theorem nl_Replacement_23 : Cond.methodLink R_Replacement 23 y_Arrays_fill ∈ ALL ∧ MD y_Arrays_fill b_Arrays_fill 4 none 2 ∧ Cond.static y_Arrays_fill ∈ ALL := ⟨in_all (in_t1 (List.mem_of_getElem? (i := 138) rfl)) rfl, md_Arrays_fill, ms_Arrays_fill⟩
theorem nl_Rules_11 : (R_Rules, 11, y_Text_init, "AdjoinedSets") ∈ nests ∧ MD y_Text_init b_Text_init 1 none 0 ∧ Cond.instanceMethod y_Text_init ∈ ALL ∧ y_Text_init.name = "<init>" := ⟨List.mem_of_getElem? (i := 4) rfl, md_Text_init, in_all (in_t1 (List.mem_of_getElem? (i := 32) rfl)) rfl, rfl⟩
theorem nl_Rules_42 : Cond.methodLink R_Rules 42 y_Replacement_init ∈ ALL ∧ MD y_Replacement_init b_Replacement_init 2 none 1 ∧ Cond.instanceMethod y_Replacement_init ∈ ALL ∧ y_Replacement_init.name = "<init>" := ⟨in_all (in_t1 (List.mem_of_getElem? (i := 134) rfl)) rfl, md_Replacement_init, in_all (in_t1 (List.mem_of_getElem? (i := 135) rfl)) rfl, rfl⟩
theorem nl_Rules_51 : Cond.methodLink R_Rules 51 y_Form_init ∈ ALL ∧ MD y_Form_init b_Form_init 2 none 1 ∧ Cond.instanceMethod y_Form_init ∈ ALL ∧ y_Form_init.name = "<init>" := ⟨in_all (in_t1 (List.mem_of_getElem? (i := 153) rfl)) rfl, md_Form_init, in_all (in_t1 (List.mem_of_getElem? (i := 154) rfl)) rfl, rfl⟩
theorem np_Function_16 : FPK R_Function 16 1 1 .int := ⟨_, _, _, _, kf_1, by decide, in_all (in_t1 (List.mem_of_getElem? (i := 77) rfl)) rfl, rfl, by decide +kernel⟩
theorem np_Laws_21 : FPK R_Laws 21 2 2 .int := ⟨_, _, _, _, kf_2, by decide, in_all (in_t1 (List.mem_of_getElem? (i := 61) rfl)) rfl, rfl, by decide +kernel⟩
theorem np_Reader_15 : FPK R_Reader 15 3 3 .int := ⟨_, _, _, _, kf_3, by decide, in_all (in_t1 (List.mem_of_getElem? (i := 92) rfl)) rfl, rfl, by decide +kernel⟩
theorem np_Reader_19 : FPK R_Reader 19 3 4 .int := ⟨_, _, _, _, kf_3, by decide, in_all (in_t1 (List.mem_of_getElem? (i := 93) rfl)) rfl, rfl, by decide +kernel⟩
theorem np_Reader_22 : FPK R_Reader 22 3 5 .int := ⟨_, _, _, _, kf_3, by decide, in_all (in_t1 (List.mem_of_getElem? (i := 94) rfl)) rfl, rfl, by decide +kernel⟩
theorem np_Replacement_15 : FPK R_Replacement 15 5 2 .int := ⟨_, _, _, _, kf_5, by decide, in_all (in_t1 (List.mem_of_getElem? (i := 143) rfl)) rfl, rfl, by decide +kernel⟩
theorem np_Replacement_19 : FPK R_Replacement 19 5 1 (.object "AdjoinedSets$Text") := ⟨_, _, _, _, kf_5, by decide, in_all (in_t1 (List.mem_of_getElem? (i := 142) rfl)) rfl, rfl, by decide +kernel⟩
theorem np_Rules_25 : FPK R_Rules 25 7 8 .int := ⟨_, _, _, _, kf_7, by decide, in_all (in_t1 (List.mem_of_getElem? (i := 185) rfl)) rfl, rfl, by decide +kernel⟩
theorem np_Text_19 : FPK R_Text 19 0 2 .int := ⟨_, _, _, _, kf_0, by decide, in_all (in_t1 (List.mem_of_getElem? (i := 37) rfl)) rfl, rfl, by decide +kernel⟩
theorem np_Worker_15 : FPK R_Worker 15 4 2 .int := ⟨_, _, _, _, kf_4, by decide, in_all (in_t1 (List.mem_of_getElem? (i := 116) rfl)) rfl, rfl, by decide +kernel⟩
theorem nw_AdjoinedSets_13 : NEW R_AdjoinedSets 13 0 3 t_Text := ⟨_, _, kf_0, in_all (in_t1 (List.mem_of_getElem? (i := 29) rfl)) rfl, in_all (in_t1 (List.mem_of_getElem? (i := 30) rfl)) rfl, in_all (in_t1 (List.mem_of_getElem? (i := 2) rfl)) rfl⟩
theorem nw_AdjoinedSets_20 : NEW R_AdjoinedSets 20 1 2 t_Function := ⟨_, _, kf_1, in_all (in_t1 (List.mem_of_getElem? (i := 48) rfl)) rfl, in_all (in_t1 (List.mem_of_getElem? (i := 69) rfl)) rfl, in_all (in_t1 (List.mem_of_getElem? (i := 4) rfl)) rfl⟩
theorem nw_AdjoinedSets_26 : NEW R_AdjoinedSets 26 2 3 t_Laws := ⟨_, _, kf_2, in_all (in_t1 (List.mem_of_getElem? (i := 50) rfl)) rfl, in_all (in_t1 (List.mem_of_getElem? (i := 51) rfl)) rfl, in_all (in_t1 (List.mem_of_getElem? (i := 3) rfl)) rfl⟩
theorem nw_AdjoinedSets_34 : NEW R_AdjoinedSets 34 3 6 t_Reader := ⟨_, _, kf_3, in_all (in_t1 (List.mem_of_getElem? (i := 83) rfl)) rfl, in_all (in_t1 (List.mem_of_getElem? (i := 84) rfl)) rfl, in_all (in_t1 (List.mem_of_getElem? (i := 5) rfl)) rfl⟩
theorem nw_AdjoinedSets_43 : NEW R_AdjoinedSets 43 4 3 t_Worker := ⟨_, _, kf_4, in_all (in_t1 (List.mem_of_getElem? (i := 108) rfl)) rfl, in_all (in_t1 (List.mem_of_getElem? (i := 109) rfl)) rfl, in_all (in_t1 (List.mem_of_getElem? (i := 6) rfl)) rfl⟩
theorem nw_AdjoinedSets_52 : NEW R_AdjoinedSets 52 7 9 t_Rules := ⟨_, _, kf_7, in_all (in_t1 (List.mem_of_getElem? (i := 124) rfl)) rfl, in_all (in_t1 (List.mem_of_getElem? (i := 125) rfl)) rfl, in_all (in_t1 (List.mem_of_getElem? (i := 7) rfl)) rfl⟩
theorem nw_Function_7 : NEW R_Function 7 0 3 t_Text := ⟨_, _, kf_0, in_all (in_t1 (List.mem_of_getElem? (i := 74) rfl)) rfl, in_all (in_t1 (List.mem_of_getElem? (i := 30) rfl)) rfl, in_all (in_t1 (List.mem_of_getElem? (i := 2) rfl)) rfl⟩
theorem nw_Laws_9 : NEW R_Laws 9 0 3 t_Text := ⟨_, _, kf_0, in_all (in_t1 (List.mem_of_getElem? (i := 56) rfl)) rfl, in_all (in_t1 (List.mem_of_getElem? (i := 30) rfl)) rfl, in_all (in_t1 (List.mem_of_getElem? (i := 2) rfl)) rfl⟩
theorem nw_Rules_40 : NEW R_Rules 40 5 3 t_Replacement := ⟨_, _, kf_5, in_all (in_t1 (List.mem_of_getElem? (i := 132) rfl)) rfl, in_all (in_t1 (List.mem_of_getElem? (i := 133) rfl)) rfl, in_all (in_t1 (List.mem_of_getElem? (i := 8) rfl)) rfl⟩
theorem nw_Rules_49 : NEW R_Rules 49 6 2 t_Form := ⟨_, _, kf_6, in_all (in_t1 (List.mem_of_getElem? (i := 151) rfl)) rfl, in_all (in_t1 (List.mem_of_getElem? (i := 152) rfl)) rfl, in_all (in_t1 (List.mem_of_getElem? (i := 10) rfl)) rfl⟩
theorem nw_Rules_9 : NEW R_Rules 9 0 3 t_Text := ⟨_, _, kf_0, in_all (in_t1 (List.mem_of_getElem? (i := 130) rfl)) rfl, in_all (in_t1 (List.mem_of_getElem? (i := 30) rfl)) rfl, in_all (in_t1 (List.mem_of_getElem? (i := 2) rfl)) rfl⟩
theorem ol_AdjoinedSetsModel_1 : Cond.methodLink R_AdjoinedSetsModel 1 objectInit ∈ ALL ∧ Cond.instanceMethod objectInit ∈ ALL ∧ Cond.code objectInit ⟨#[0xb1]⟩ 1 none ∈ ALL := ⟨in_all (in_t4 (List.mem_of_getElem? (i := 85) rfl)) rfl, in_all (in_t1 (List.mem_of_getElem? (i := 27) rfl)) rfl, in_all (in_t1 (List.mem_of_getElem? (i := 28) rfl)) rfl⟩
theorem ol_AdjoinedSets_3 : Cond.methodLink R_AdjoinedSets 3 objectInit ∈ ALL ∧ Cond.instanceMethod objectInit ∈ ALL ∧ Cond.code objectInit ⟨#[0xb1]⟩ 1 none ∈ ALL := ⟨in_all (in_t1 (List.mem_of_getElem? (i := 26) rfl)) rfl, in_all (in_t1 (List.mem_of_getElem? (i := 27) rfl)) rfl, in_all (in_t1 (List.mem_of_getElem? (i := 28) rfl)) rfl⟩
theorem ol_Form_1 : Cond.methodLink R_Form 1 objectInit ∈ ALL ∧ Cond.instanceMethod objectInit ∈ ALL ∧ Cond.code objectInit ⟨#[0xb1]⟩ 1 none ∈ ALL := ⟨in_all (in_t1 (List.mem_of_getElem? (i := 156) rfl)) rfl, in_all (in_t1 (List.mem_of_getElem? (i := 27) rfl)) rfl, in_all (in_t1 (List.mem_of_getElem? (i := 28) rfl)) rfl⟩
theorem ol_Function_1 : Cond.methodLink R_Function 1 objectInit ∈ ALL ∧ Cond.instanceMethod objectInit ∈ ALL ∧ Cond.code objectInit ⟨#[0xb1]⟩ 1 none ∈ ALL := ⟨in_all (in_t1 (List.mem_of_getElem? (i := 73) rfl)) rfl, in_all (in_t1 (List.mem_of_getElem? (i := 27) rfl)) rfl, in_all (in_t1 (List.mem_of_getElem? (i := 28) rfl)) rfl⟩
theorem ol_Laws_3 : Cond.methodLink R_Laws 3 objectInit ∈ ALL ∧ Cond.instanceMethod objectInit ∈ ALL ∧ Cond.code objectInit ⟨#[0xb1]⟩ 1 none ∈ ALL := ⟨in_all (in_t1 (List.mem_of_getElem? (i := 55) rfl)) rfl, in_all (in_t1 (List.mem_of_getElem? (i := 27) rfl)) rfl, in_all (in_t1 (List.mem_of_getElem? (i := 28) rfl)) rfl⟩
theorem ol_Reader_3 : Cond.methodLink R_Reader 3 objectInit ∈ ALL ∧ Cond.instanceMethod objectInit ∈ ALL ∧ Cond.code objectInit ⟨#[0xb1]⟩ 1 none ∈ ALL := ⟨in_all (in_t1 (List.mem_of_getElem? (i := 88) rfl)) rfl, in_all (in_t1 (List.mem_of_getElem? (i := 27) rfl)) rfl, in_all (in_t1 (List.mem_of_getElem? (i := 28) rfl)) rfl⟩
theorem ol_Replacement_3 : Cond.methodLink R_Replacement 3 objectInit ∈ ALL ∧ Cond.instanceMethod objectInit ∈ ALL ∧ Cond.code objectInit ⟨#[0xb1]⟩ 1 none ∈ ALL := ⟨in_all (in_t1 (List.mem_of_getElem? (i := 137) rfl)) rfl, in_all (in_t1 (List.mem_of_getElem? (i := 27) rfl)) rfl, in_all (in_t1 (List.mem_of_getElem? (i := 28) rfl)) rfl⟩
theorem ol_Rules_3 : Cond.methodLink R_Rules 3 objectInit ∈ ALL ∧ Cond.instanceMethod objectInit ∈ ALL ∧ Cond.code objectInit ⟨#[0xb1]⟩ 1 none ∈ ALL := ⟨in_all (in_t1 (List.mem_of_getElem? (i := 129) rfl)) rfl, in_all (in_t1 (List.mem_of_getElem? (i := 27) rfl)) rfl, in_all (in_t1 (List.mem_of_getElem? (i := 28) rfl)) rfl⟩
theorem ol_Text_3 : Cond.methodLink R_Text 3 objectInit ∈ ALL ∧ Cond.instanceMethod objectInit ∈ ALL ∧ Cond.code objectInit ⟨#[0xb1]⟩ 1 none ∈ ALL := ⟨in_all (in_t1 (List.mem_of_getElem? (i := 34) rfl)) rfl, in_all (in_t1 (List.mem_of_getElem? (i := 27) rfl)) rfl, in_all (in_t1 (List.mem_of_getElem? (i := 28) rfl)) rfl⟩
theorem ol_Worker_3 : Cond.methodLink R_Worker 3 objectInit ∈ ALL ∧ Cond.instanceMethod objectInit ∈ ALL ∧ Cond.code objectInit ⟨#[0xb1]⟩ 1 none ∈ ALL := ⟨in_all (in_t1 (List.mem_of_getElem? (i := 113) rfl)) rfl, in_all (in_t1 (List.mem_of_getElem? (i := 27) rfl)) rfl, in_all (in_t1 (List.mem_of_getElem? (i := 28) rfl)) rfl⟩
theorem ql_AdjoinedSets_20 : Cond.classLink R_AdjoinedSets 20 "AdjoinedSets$Function" ∈ ALL := in_all (in_t1 (List.mem_of_getElem? (i := 48) rfl)) rfl
theorem ql_Laws_9 : Cond.classLink R_Laws 9 "AdjoinedSets$Text" ∈ ALL := in_all (in_t1 (List.mem_of_getElem? (i := 56) rfl)) rfl
