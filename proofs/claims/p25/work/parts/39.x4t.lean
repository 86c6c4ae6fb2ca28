/-! The class: what its calls throw. -/
theorem ts_253 : Cond.stringRef RX4 253 "there is no such boat" ∈ lw_tbl := List.mem_of_getElem? (i := 233) (by decide +kernel)
theorem ts_247 : Cond.stringRef RX4 247 "there is no such what" ∈ lw_tbl := List.mem_of_getElem? (i := 263) (by decide +kernel)
theorem ts_149 : Cond.stringRef RX4 149 "there is no such watchman" ∈ lw_tbl := List.mem_of_getElem? (i := 276) (by decide +kernel)
theorem ts_245 : Cond.stringRef RX4 245 "code is not 1 to 7" ∈ lw_tbl := List.mem_of_getElem? (i := 306) (by decide +kernel)
theorem ts_241 : Cond.stringRef RX4 241 "a place is not 0 to 15" ∈ lw_tbl := List.mem_of_getElem? (i := 326) (by decide +kernel)
theorem ts_249 : Cond.stringRef RX4 249 "hours is not 1 to 60" ∈ lw_tbl := List.mem_of_getElem? (i := 384) (by decide +kernel)
theorem ts_251 : Cond.stringRef RX4 251 "there is no such lantern" ∈ lw_tbl := List.mem_of_getElem? (i := 509) (by decide +kernel)
theorem ts_168 : Cond.stringRef RX4 168 "night is not 0 to 999" ∈ lw_tbl := List.mem_of_getElem? (i := 586) (by decide +kernel)
theorem ts_25 : Cond.stringRef RX4 25 "room is not 0 to 30" ∈ lw_tbl := List.mem_of_getElem? (i := 605) (by decide +kernel)
theorem ts_36 : Cond.stringRef RX4 36 "more bales are in the cave" ∈ lw_tbl := List.mem_of_getElem? (i := 615) (by decide +kernel)
theorem ts_243 : Cond.stringRef RX4 243 "place is not -1 to 15" ∈ lw_tbl := List.mem_of_getElem? (i := 629) (by decide +kernel)
theorem ts_58 : Cond.stringRef RX4 58 "there are 5 lanterns" ∈ lw_tbl := List.mem_of_getElem? (i := 639) (by decide +kernel)
theorem ts_64 : Cond.stringRef RX4 64 "a lantern stands there" ∈ lw_tbl := List.mem_of_getElem? (i := 644) (by decide +kernel)
theorem ts_80 : Cond.stringRef RX4 80 "hour is not 0 to 9" ∈ lw_tbl := List.mem_of_getElem? (i := 649) (by decide +kernel)
theorem ts_83 : Cond.stringRef RX4 83 "code is not 0 to 7" ∈ lw_tbl := List.mem_of_getElem? (i := 650) (by decide +kernel)
theorem ts_88 : Cond.stringRef RX4 88 "from is greater than to" ∈ lw_tbl := List.mem_of_getElem? (i := 658) (by decide +kernel)
theorem ts_90 : Cond.stringRef RX4 90 "eyes is not 0 to 3" ∈ lw_tbl := List.mem_of_getElem? (i := 659) (by decide +kernel)
theorem ts_95 : Cond.stringRef RX4 95 "there are 4 watchmen" ∈ lw_tbl := List.mem_of_getElem? (i := 660) (by decide +kernel)
theorem ts_107 : Cond.stringRef RX4 107 "bales is not 1 to 20" ∈ lw_tbl := List.mem_of_getElem? (i := 669) (by decide +kernel)
theorem ts_112 : Cond.stringRef RX4 112 "6 boats came" ∈ lw_tbl := List.mem_of_getElem? (i := 670) (by decide +kernel)
theorem ts_255 : Cond.stringRef RX4 255 "the boat is not at sea" ∈ lw_tbl := List.mem_of_getElem? (i := 683) (by decide +kernel)
theorem ts_135 : Cond.stringRef RX4 135 "many is not 1 to 30" ∈ lw_tbl := List.mem_of_getElem? (i := 692) (by decide +kernel)
theorem ts_137 : Cond.stringRef RX4 137 "there are fewer bales in the cave" ∈ lw_tbl := List.mem_of_getElem? (i := 693) (by decide +kernel)
theorem tk_X4_78 : Cond.classLink RX4 78 eI ∈ TB := tb_of 192 (by decide +kernel) (by decide +kernel)
theorem tk_X4_23 : Cond.classLink RX4 23 eA ∈ TB := tb_of 375 (by decide +kernel) (by decide +kernel)
theorem tk_L_53 : Cond.classLink RL 53 eS ∈ TB := tb_of 600 (by decide +kernel) (by decide +kernel)
theorem tk_X4_34 : Cond.classLink RX4 34 eS ∈ TB := tb_of 606 (by decide +kernel) (by decide +kernel)
theorem ti_eI : Cond.initialized eI ∈ TB := tb_of 18 (by decide +kernel) (by decide +kernel)
theorem ti_eA : Cond.initialized eA ∈ TB := tb_of 19 (by decide +kernel) (by decide +kernel)
theorem ti_eS : Cond.initialized eS ∈ TB := tb_of 20 (by decide +kernel) (by decide +kernel)
theorem tc_eI : Cond.castable eI eI ∈ lw_tbl := List.mem_of_getElem? (i := 194) (by decide +kernel)
theorem tc_eA : Cond.castable eA eA ∈ lw_tbl := List.mem_of_getElem? (i := 377) (by decide +kernel)
theorem tc_eS : Cond.castable eS eS ∈ lw_tbl := List.mem_of_getElem? (i := 608) (by decide +kernel)
theorem tf_eI : Bundle.fit eI = true := by decide +kernel
theorem tf_eA : Bundle.fit eA = true := by decide +kernel
theorem tf_eS : Bundle.fit eS = true := by decide +kernel
def exIAS (k : Int) : String := if k = 1 then eI else if k = 2 then eA else eS
def exIS (k : Int) : String := if k = 1 then eI else eS
def exIA (k : Int) : String := if k = 1 then eI else eA
def exAI (k : Int) : String := if k = 1 then eA else eI
def exI (_ : Int) : String := eI
def exA (_ : Int) : String := eA
set_option maxHeartbeats 4000000 in
set_option maxRecDepth 100000 in
theorem C_X4_requirePlace {l : Launch} {cy : Nat → ClassId} {D : va_G} {ad : Nat → Nat → Int → Nat} {M : Mem} {v : Int} (hv9 : ir v) (hv : 0 ≤ v ∧ v ≤ 15) : Ct l cy D ad yX4_requirePlace cX4_requirePlace 1 none 0 [.int (i32 v)] (M) none (M) := by
  refine Ct.mk (lv := [some _]) 0 (by decide) rfl (Nat.le_of_ble_eq_true rfl) (fun p e s m below meth c F => ?_)
  refine r_iload_n (i := 0) F dX4_requirePlace_0 rfl rfl ?_
  refine r_if_lt (tgt := 10) F dX4_requirePlace_1 (by decide) (by first | assumption | exact ir_of (by omega) (by omega)) (fun h1 => ?_) (fun h1 => ?_)
  · exfalso; omega
  · refine r_iload_n (i := 0) F dX4_requirePlace_4 rfl rfl ?_
    refine r_bipush F dX4_requirePlace_5 (by decide) ?_
    refine r_icmp_lt (tgt := 20) F dX4_requirePlace_7 (by decide) (by first | assumption | exact ir_of (by omega) (by omega)) (by first | assumption | exact ir_of (by omega) (by omega)) (fun h7 => ?_) (fun h7 => ?_)
    · exact r_vret F dX4_requirePlace_20 rfl rfl
    · exfalso; omega
set_option maxHeartbeats 4000000 in
set_option maxRecDepth 100000 in
theorem T_X4_requirePlace {l : Launch} {cy : Nat → ClassId} {D : va_G} {ad : Nat → Nat → Int → Nat} {M : Mem} {E : String} {v : Int} (hl9 : l.stackTraces = false) (hv9 : ir v) (hv : ¬ (0 ≤ v ∧ v ≤ 15)) (hE : E = eI) : Tx l cy D ad yX4_requirePlace cX4_requirePlace 1 none 6 [.int (i32 v)] (M) E := by
  refine Tx.mk (lv := [some _]) 0 hl9 (by decide) rfl (Nat.le_of_ble_eq_true rfl) (fun p e s m below meth c F G htb => ?_)
  refine r_iload_n (i := 0) F dX4_requirePlace_0 rfl rfl ?_
  refine r_if_lt (tgt := 10) F dX4_requirePlace_1 (by decide) (by first | assumption | exact ir_of (by omega) (by omega)) (fun h1 => ?_) (fun h1 => ?_)
  · subst hE
    exact r_throw F G htb tf_eI tk_X4_78 ti_eI ts_241 at_I dX4_requirePlace_10 dX4_requirePlace_13 dX4_requirePlace_14 dX4_requirePlace_16 dX4_requirePlace_19 (by decide)
  · refine r_iload_n (i := 0) F dX4_requirePlace_4 rfl rfl ?_
    refine r_bipush F dX4_requirePlace_5 (by decide) ?_
    refine r_icmp_lt (tgt := 20) F dX4_requirePlace_7 (by decide) (by first | assumption | exact ir_of (by omega) (by omega)) (by first | assumption | exact ir_of (by omega) (by omega)) (fun h7 => ?_) (fun h7 => ?_)
    · exfalso; omega
    · subst hE
      exact r_throw F G htb tf_eI tk_X4_78 ti_eI ts_241 at_I dX4_requirePlace_10 dX4_requirePlace_13 dX4_requirePlace_14 dX4_requirePlace_16 dX4_requirePlace_19 (by decide)
set_option maxHeartbeats 4000000 in
set_option maxRecDepth 100000 in
theorem C_X4_requirePlaceOrNone {l : Launch} {cy : Nat → ClassId} {D : va_G} {ad : Nat → Nat → Int → Nat} {M : Mem} {v : Int} (hv9 : ir v) (hv : -1 ≤ v ∧ v ≤ 15) : Ct l cy D ad yX4_requirePlaceOrNone cX4_requirePlaceOrNone 1 none 0 [.int (i32 v)] (M) none (M) := by
  refine Ct.mk (lv := [some _]) 0 (by decide) rfl (Nat.le_of_ble_eq_true rfl) (fun p e s m below meth c F => ?_)
  refine r_iload_n (i := 0) F dX4_requirePlaceOrNone_0 rfl rfl ?_
  refine r_iconst F dX4_requirePlaceOrNone_1 ?_
  refine r_icmp_lt (tgt := 11) F dX4_requirePlaceOrNone_2 (by decide) (by first | assumption | exact ir_of (by omega) (by omega)) (by first | assumption | exact ir_of (by omega) (by omega)) (fun h2 => ?_) (fun h2 => ?_)
  · exfalso; omega
  · refine r_iload_n (i := 0) F dX4_requirePlaceOrNone_5 rfl rfl ?_
    refine r_bipush F dX4_requirePlaceOrNone_6 (by decide) ?_
    refine r_icmp_lt (tgt := 21) F dX4_requirePlaceOrNone_8 (by decide) (by first | assumption | exact ir_of (by omega) (by omega)) (by first | assumption | exact ir_of (by omega) (by omega)) (fun h8 => ?_) (fun h8 => ?_)
    · exact r_vret F dX4_requirePlaceOrNone_21 rfl rfl
    · exfalso; omega
set_option maxHeartbeats 4000000 in
set_option maxRecDepth 100000 in
theorem T_X4_requirePlaceOrNone {l : Launch} {cy : Nat → ClassId} {D : va_G} {ad : Nat → Nat → Int → Nat} {M : Mem} {E : String} {v : Int} (hl9 : l.stackTraces = false) (hv9 : ir v) (hv : ¬ (-1 ≤ v ∧ v ≤ 15)) (hE : E = eI) : Tx l cy D ad yX4_requirePlaceOrNone cX4_requirePlaceOrNone 1 none 6 [.int (i32 v)] (M) E := by
  refine Tx.mk (lv := [some _]) 0 hl9 (by decide) rfl (Nat.le_of_ble_eq_true rfl) (fun p e s m below meth c F G htb => ?_)
  refine r_iload_n (i := 0) F dX4_requirePlaceOrNone_0 rfl rfl ?_
  refine r_iconst F dX4_requirePlaceOrNone_1 ?_
  refine r_icmp_lt (tgt := 11) F dX4_requirePlaceOrNone_2 (by decide) (by first | assumption | exact ir_of (by omega) (by omega)) (by first | assumption | exact ir_of (by omega) (by omega)) (fun h2 => ?_) (fun h2 => ?_)
  · subst hE
    exact r_throw F G htb tf_eI tk_X4_78 ti_eI ts_243 at_I dX4_requirePlaceOrNone_11 dX4_requirePlaceOrNone_14 dX4_requirePlaceOrNone_15 dX4_requirePlaceOrNone_17 dX4_requirePlaceOrNone_20 (by decide)
  · refine r_iload_n (i := 0) F dX4_requirePlaceOrNone_5 rfl rfl ?_
    refine r_bipush F dX4_requirePlaceOrNone_6 (by decide) ?_
    refine r_icmp_lt (tgt := 21) F dX4_requirePlaceOrNone_8 (by decide) (by first | assumption | exact ir_of (by omega) (by omega)) (by first | assumption | exact ir_of (by omega) (by omega)) (fun h8 => ?_) (fun h8 => ?_)
    · exfalso; omega
    · subst hE
      exact r_throw F G htb tf_eI tk_X4_78 ti_eI ts_243 at_I dX4_requirePlaceOrNone_11 dX4_requirePlaceOrNone_14 dX4_requirePlaceOrNone_15 dX4_requirePlaceOrNone_17 dX4_requirePlaceOrNone_20 (by decide)
set_option maxHeartbeats 4000000 in
set_option maxRecDepth 100000 in
theorem C_X4_requireCode {l : Launch} {cy : Nat → ClassId} {D : va_G} {ad : Nat → Nat → Int → Nat} {M : Mem} {v : Int} (hv9 : ir v) (hv : 1 ≤ v ∧ v ≤ 7) : Ct l cy D ad yX4_requireCode cX4_requireCode 1 none 0 [.int (i32 v)] (M) none (M) := by
  refine Ct.mk (lv := [some _]) 0 (by decide) rfl (Nat.le_of_ble_eq_true rfl) (fun p e s m below meth c F => ?_)
  refine r_iload_n (i := 0) F dX4_requireCode_0 rfl rfl ?_
  refine r_iconst F dX4_requireCode_1 ?_
  refine r_icmp_lt (tgt := 11) F dX4_requireCode_2 (by decide) (by first | assumption | exact ir_of (by omega) (by omega)) (by first | assumption | exact ir_of (by omega) (by omega)) (fun h2 => ?_) (fun h2 => ?_)
  · exfalso; omega
  · refine r_iload_n (i := 0) F dX4_requireCode_5 rfl rfl ?_
    refine r_bipush F dX4_requireCode_6 (by decide) ?_
    refine r_icmp_le (tgt := 21) F dX4_requireCode_8 (by decide) (by first | assumption | exact ir_of (by omega) (by omega)) (by first | assumption | exact ir_of (by omega) (by omega)) (fun h8 => ?_) (fun h8 => ?_)
    · exact r_vret F dX4_requireCode_21 rfl rfl
    · exfalso; omega
set_option maxHeartbeats 4000000 in
set_option maxRecDepth 100000 in
theorem T_X4_requireCode {l : Launch} {cy : Nat → ClassId} {D : va_G} {ad : Nat → Nat → Int → Nat} {M : Mem} {E : String} {v : Int} (hl9 : l.stackTraces = false) (hv9 : ir v) (hv : ¬ (1 ≤ v ∧ v ≤ 7)) (hE : E = eI) : Tx l cy D ad yX4_requireCode cX4_requireCode 1 none 6 [.int (i32 v)] (M) E := by
  refine Tx.mk (lv := [some _]) 0 hl9 (by decide) rfl (Nat.le_of_ble_eq_true rfl) (fun p e s m below meth c F G htb => ?_)
  refine r_iload_n (i := 0) F dX4_requireCode_0 rfl rfl ?_
  refine r_iconst F dX4_requireCode_1 ?_
  refine r_icmp_lt (tgt := 11) F dX4_requireCode_2 (by decide) (by first | assumption | exact ir_of (by omega) (by omega)) (by first | assumption | exact ir_of (by omega) (by omega)) (fun h2 => ?_) (fun h2 => ?_)
  · subst hE
    exact r_throw F G htb tf_eI tk_X4_78 ti_eI ts_245 at_I dX4_requireCode_11 dX4_requireCode_14 dX4_requireCode_15 dX4_requireCode_17 dX4_requireCode_20 (by decide)
  · refine r_iload_n (i := 0) F dX4_requireCode_5 rfl rfl ?_
    refine r_bipush F dX4_requireCode_6 (by decide) ?_
    refine r_icmp_le (tgt := 21) F dX4_requireCode_8 (by decide) (by first | assumption | exact ir_of (by omega) (by omega)) (by first | assumption | exact ir_of (by omega) (by omega)) (fun h8 => ?_) (fun h8 => ?_)
    · exfalso; omega
    · subst hE
      exact r_throw F G htb tf_eI tk_X4_78 ti_eI ts_245 at_I dX4_requireCode_11 dX4_requireCode_14 dX4_requireCode_15 dX4_requireCode_17 dX4_requireCode_20 (by decide)
set_option maxHeartbeats 4000000 in
set_option maxRecDepth 100000 in
theorem C_X4_requireWhat {l : Launch} {cy : Nat → ClassId} {D : va_G} {ad : Nat → Nat → Int → Nat} {M : Mem} {v lo hi : Int} (hv9 : ir v) (hlo : ir lo) (hhi : ir hi) (hv : lo ≤ v ∧ v ≤ hi) : Ct l cy D ad yX4_requireWhat cX4_requireWhat 3 none 0 [.int (i32 v), .int (i32 lo), .int (i32 hi)] (M) none (M) := by
  refine Ct.mk (lv := [some _, some _, some _]) 0 (by decide) rfl (Nat.le_of_ble_eq_true rfl) (fun p e s m below meth c F => ?_)
  refine r_iload_n (i := 0) F dX4_requireWhat_0 rfl rfl ?_
  refine r_iload_n (i := 1) F dX4_requireWhat_1 rfl rfl ?_
  refine r_icmp_lt (tgt := 10) F dX4_requireWhat_2 (by decide) (by first | assumption | exact ir_of (by omega) (by omega)) (by first | assumption | exact ir_of (by omega) (by omega)) (fun h2 => ?_) (fun h2 => ?_)
  · exfalso; omega
  · refine r_iload_n (i := 0) F dX4_requireWhat_5 rfl rfl ?_
    refine r_iload_n (i := 2) F dX4_requireWhat_6 rfl rfl ?_
    refine r_icmp_le (tgt := 20) F dX4_requireWhat_7 (by decide) (by first | assumption | exact ir_of (by omega) (by omega)) (by first | assumption | exact ir_of (by omega) (by omega)) (fun h7 => ?_) (fun h7 => ?_)
    · exact r_vret F dX4_requireWhat_20 rfl rfl
    · exfalso; omega
set_option maxHeartbeats 4000000 in
set_option maxRecDepth 100000 in
theorem T_X4_requireWhat {l : Launch} {cy : Nat → ClassId} {D : va_G} {ad : Nat → Nat → Int → Nat} {M : Mem} {E : String} {v lo hi : Int} (hl9 : l.stackTraces = false) (hv9 : ir v) (hlo : ir lo) (hhi : ir hi) (hv : ¬ (lo ≤ v ∧ v ≤ hi)) (hE : E = eI) : Tx l cy D ad yX4_requireWhat cX4_requireWhat 3 none 6 [.int (i32 v), .int (i32 lo), .int (i32 hi)] (M) E := by
  refine Tx.mk (lv := [some _, some _, some _]) 0 hl9 (by decide) rfl (Nat.le_of_ble_eq_true rfl) (fun p e s m below meth c F G htb => ?_)
  refine r_iload_n (i := 0) F dX4_requireWhat_0 rfl rfl ?_
  refine r_iload_n (i := 1) F dX4_requireWhat_1 rfl rfl ?_
  refine r_icmp_lt (tgt := 10) F dX4_requireWhat_2 (by decide) (by first | assumption | exact ir_of (by omega) (by omega)) (by first | assumption | exact ir_of (by omega) (by omega)) (fun h2 => ?_) (fun h2 => ?_)
  · subst hE
    exact r_throw F G htb tf_eI tk_X4_78 ti_eI ts_247 at_I dX4_requireWhat_10 dX4_requireWhat_13 dX4_requireWhat_14 dX4_requireWhat_16 dX4_requireWhat_19 (by decide)
  · refine r_iload_n (i := 0) F dX4_requireWhat_5 rfl rfl ?_
    refine r_iload_n (i := 2) F dX4_requireWhat_6 rfl rfl ?_
    refine r_icmp_le (tgt := 20) F dX4_requireWhat_7 (by decide) (by first | assumption | exact ir_of (by omega) (by omega)) (by first | assumption | exact ir_of (by omega) (by omega)) (fun h7 => ?_) (fun h7 => ?_)
    · exfalso; omega
    · subst hE
      exact r_throw F G htb tf_eI tk_X4_78 ti_eI ts_247 at_I dX4_requireWhat_10 dX4_requireWhat_13 dX4_requireWhat_14 dX4_requireWhat_16 dX4_requireWhat_19 (by decide)
set_option maxHeartbeats 4000000 in
set_option maxRecDepth 100000 in
theorem C_X4_requireHours {l : Launch} {cy : Nat → ClassId} {D : va_G} {ad : Nat → Nat → Int → Nat} {M : Mem} {v : Int} (hv9 : ir v) (hv : 1 ≤ v ∧ v ≤ 60) : Ct l cy D ad yX4_requireHours cX4_requireHours 1 none 0 [.int (i32 v)] (M) none (M) := by
  refine Ct.mk (lv := [some _]) 0 (by decide) rfl (Nat.le_of_ble_eq_true rfl) (fun p e s m below meth c F => ?_)
  refine r_iload_n (i := 0) F dX4_requireHours_0 rfl rfl ?_
  refine r_iconst F dX4_requireHours_1 ?_
  refine r_icmp_lt (tgt := 11) F dX4_requireHours_2 (by decide) (by first | assumption | exact ir_of (by omega) (by omega)) (by first | assumption | exact ir_of (by omega) (by omega)) (fun h2 => ?_) (fun h2 => ?_)
  · exfalso; omega
  · refine r_iload_n (i := 0) F dX4_requireHours_5 rfl rfl ?_
    refine r_bipush F dX4_requireHours_6 (by decide) ?_
    refine r_icmp_le (tgt := 21) F dX4_requireHours_8 (by decide) (by first | assumption | exact ir_of (by omega) (by omega)) (by first | assumption | exact ir_of (by omega) (by omega)) (fun h8 => ?_) (fun h8 => ?_)
    · exact r_vret F dX4_requireHours_21 rfl rfl
    · exfalso; omega
set_option maxHeartbeats 4000000 in
set_option maxRecDepth 100000 in
theorem T_X4_requireHours {l : Launch} {cy : Nat → ClassId} {D : va_G} {ad : Nat → Nat → Int → Nat} {M : Mem} {E : String} {v : Int} (hl9 : l.stackTraces = false) (hv9 : ir v) (hv : ¬ (1 ≤ v ∧ v ≤ 60)) (hE : E = eA) : Tx l cy D ad yX4_requireHours cX4_requireHours 1 none 6 [.int (i32 v)] (M) E := by
  refine Tx.mk (lv := [some _]) 0 hl9 (by decide) rfl (Nat.le_of_ble_eq_true rfl) (fun p e s m below meth c F G htb => ?_)
  refine r_iload_n (i := 0) F dX4_requireHours_0 rfl rfl ?_
  refine r_iconst F dX4_requireHours_1 ?_
  refine r_icmp_lt (tgt := 11) F dX4_requireHours_2 (by decide) (by first | assumption | exact ir_of (by omega) (by omega)) (by first | assumption | exact ir_of (by omega) (by omega)) (fun h2 => ?_) (fun h2 => ?_)
  · subst hE
    exact r_throw F G htb tf_eA tk_X4_23 ti_eA ts_249 at_A dX4_requireHours_11 dX4_requireHours_14 dX4_requireHours_15 dX4_requireHours_17 dX4_requireHours_20 (by decide)
  · refine r_iload_n (i := 0) F dX4_requireHours_5 rfl rfl ?_
    refine r_bipush F dX4_requireHours_6 (by decide) ?_
    refine r_icmp_le (tgt := 21) F dX4_requireHours_8 (by decide) (by first | assumption | exact ir_of (by omega) (by omega)) (by first | assumption | exact ir_of (by omega) (by omega)) (fun h8 => ?_) (fun h8 => ?_)
    · exfalso; omega
    · subst hE
      exact r_throw F G htb tf_eA tk_X4_23 ti_eA ts_249 at_A dX4_requireHours_11 dX4_requireHours_14 dX4_requireHours_15 dX4_requireHours_17 dX4_requireHours_20 (by decide)
set_option maxHeartbeats 4000000 in
set_option maxRecDepth 100000 in
theorem C_X4_requireLantern {l : Launch} {cy : Nat → ClassId} {D : va_G} {ad : Nat → Nat → Int → Nat} {M : Mem} {S : St} {v : Int} (hv9 : ir v) (hI : Inv S) (hv : 0 ≤ v ∧ v ≤ S 20 1 - 1) : Ct l cy D ad yX4_requireLantern cX4_requireLantern 2 none 0 [.ref (ad 0 0 0), .int (i32 v)] (setc M 0 S) none (setc M 0 S) := by
  refine Ct.mk (lv := [some _, some _]) 0 (by decide) rfl (Nat.le_of_ble_eq_true rfl) (fun p e s m below meth c F => ?_)
  have ic := hI.pc
  refine r_iload_n (i := 1) F dX4_requireLantern_0 rfl rfl ?_
  refine r_if_lt (tgt := 15) F dX4_requireLantern_1 (by decide) (by first | assumption | exact ir_of (by omega) (by omega)) (fun h1 => ?_) (fun h1 => ?_)
  · exfalso; omega
  · refine r_iload_n (i := 1) F dX4_requireLantern_4 rfl rfl ?_
    refine r_aload_n (i := 0) F dX4_requireLantern_5 rfl rfl ?_
    refine gf_X4_10 F dX4_requireLantern_6 ?_
    refine gf_X4_54 F dX4_requireLantern_9 (by decide) ?_
    refine r_icmp_lt (tgt := 25) F dX4_requireLantern_12 (by decide) (by first | assumption | exact ir_of (by omega) (by omega)) (by first | assumption | exact ir_of (by omega) (by omega)) (fun h12 => ?_) (fun h12 => ?_)
    · exact r_vret F dX4_requireLantern_25 rfl rfl
    · exfalso; omega
set_option maxHeartbeats 4000000 in
set_option maxRecDepth 100000 in
theorem T_X4_requireLantern {l : Launch} {cy : Nat → ClassId} {D : va_G} {ad : Nat → Nat → Int → Nat} {M : Mem} {S : St} {E : String} {v : Int} (hl9 : l.stackTraces = false) (hv9 : ir v) (hI : Inv S) (hv : ¬ (0 ≤ v ∧ v ≤ S 20 1 - 1)) (hE : E = eI) : Tx l cy D ad yX4_requireLantern cX4_requireLantern 2 none 6 [.ref (ad 0 0 0), .int (i32 v)] (setc M 0 S) E := by
  refine Tx.mk (lv := [some _, some _]) 0 hl9 (by decide) rfl (Nat.le_of_ble_eq_true rfl) (fun p e s m below meth c F G htb => ?_)
  have ic := hI.pc
  refine r_iload_n (i := 1) F dX4_requireLantern_0 rfl rfl ?_
  refine r_if_lt (tgt := 15) F dX4_requireLantern_1 (by decide) (by first | assumption | exact ir_of (by omega) (by omega)) (fun h1 => ?_) (fun h1 => ?_)
  · subst hE
    exact r_throw F G htb tf_eI tk_X4_78 ti_eI ts_251 at_I dX4_requireLantern_15 dX4_requireLantern_18 dX4_requireLantern_19 dX4_requireLantern_21 dX4_requireLantern_24 (by decide)
  · refine r_iload_n (i := 1) F dX4_requireLantern_4 rfl rfl ?_
    refine r_aload_n (i := 0) F dX4_requireLantern_5 rfl rfl ?_
    refine gf_X4_10 F dX4_requireLantern_6 ?_
    refine gf_X4_54 F dX4_requireLantern_9 (by decide) ?_
    refine r_icmp_lt (tgt := 25) F dX4_requireLantern_12 (by decide) (by first | assumption | exact ir_of (by omega) (by omega)) (by first | assumption | exact ir_of (by omega) (by omega)) (fun h12 => ?_) (fun h12 => ?_)
    · exfalso; omega
    · subst hE
      exact r_throw F G htb tf_eI tk_X4_78 ti_eI ts_251 at_I dX4_requireLantern_15 dX4_requireLantern_18 dX4_requireLantern_19 dX4_requireLantern_21 dX4_requireLantern_24 (by decide)
set_option maxHeartbeats 4000000 in
set_option maxRecDepth 100000 in
theorem C_X4_requireBoat {l : Launch} {cy : Nat → ClassId} {D : va_G} {ad : Nat → Nat → Int → Nat} {M : Mem} {S : St} {v : Int} (hv9 : ir v) (hI : Inv S) (hv : 0 ≤ v ∧ v ≤ S 20 3 - 1) : Ct l cy D ad yX4_requireBoat cX4_requireBoat 2 none 0 [.ref (ad 0 0 0), .int (i32 v)] (setc M 0 S) none (setc M 0 S) := by
  refine Ct.mk (lv := [some _, some _]) 0 (by decide) rfl (Nat.le_of_ble_eq_true rfl) (fun p e s m below meth c F => ?_)
  have ic := hI.pc
  refine r_iload_n (i := 1) F dX4_requireBoat_0 rfl rfl ?_
  refine r_if_lt (tgt := 15) F dX4_requireBoat_1 (by decide) (by first | assumption | exact ir_of (by omega) (by omega)) (fun h1 => ?_) (fun h1 => ?_)
  · exfalso; omega
  · refine r_iload_n (i := 1) F dX4_requireBoat_4 rfl rfl ?_
    refine r_aload_n (i := 0) F dX4_requireBoat_5 rfl rfl ?_
    refine gf_X4_10 F dX4_requireBoat_6 ?_
    refine gf_X4_109 F dX4_requireBoat_9 (by decide) ?_
    refine r_icmp_lt (tgt := 25) F dX4_requireBoat_12 (by decide) (by first | assumption | exact ir_of (by omega) (by omega)) (by first | assumption | exact ir_of (by omega) (by omega)) (fun h12 => ?_) (fun h12 => ?_)
    · exact r_vret F dX4_requireBoat_25 rfl rfl
    · exfalso; omega
set_option maxHeartbeats 4000000 in
set_option maxRecDepth 100000 in
theorem T_X4_requireBoat {l : Launch} {cy : Nat → ClassId} {D : va_G} {ad : Nat → Nat → Int → Nat} {M : Mem} {S : St} {E : String} {v : Int} (hl9 : l.stackTraces = false) (hv9 : ir v) (hI : Inv S) (hv : ¬ (0 ≤ v ∧ v ≤ S 20 3 - 1)) (hE : E = eI) : Tx l cy D ad yX4_requireBoat cX4_requireBoat 2 none 6 [.ref (ad 0 0 0), .int (i32 v)] (setc M 0 S) E := by
  refine Tx.mk (lv := [some _, some _]) 0 hl9 (by decide) rfl (Nat.le_of_ble_eq_true rfl) (fun p e s m below meth c F G htb => ?_)
  have ic := hI.pc
  refine r_iload_n (i := 1) F dX4_requireBoat_0 rfl rfl ?_
  refine r_if_lt (tgt := 15) F dX4_requireBoat_1 (by decide) (by first | assumption | exact ir_of (by omega) (by omega)) (fun h1 => ?_) (fun h1 => ?_)
  · subst hE
    exact r_throw F G htb tf_eI tk_X4_78 ti_eI ts_253 at_I dX4_requireBoat_15 dX4_requireBoat_18 dX4_requireBoat_19 dX4_requireBoat_21 dX4_requireBoat_24 (by decide)
  · refine r_iload_n (i := 1) F dX4_requireBoat_4 rfl rfl ?_
    refine r_aload_n (i := 0) F dX4_requireBoat_5 rfl rfl ?_
    refine gf_X4_10 F dX4_requireBoat_6 ?_
    refine gf_X4_109 F dX4_requireBoat_9 (by decide) ?_
    refine r_icmp_lt (tgt := 25) F dX4_requireBoat_12 (by decide) (by first | assumption | exact ir_of (by omega) (by omega)) (by first | assumption | exact ir_of (by omega) (by omega)) (fun h12 => ?_) (fun h12 => ?_)
    · exfalso; omega
    · subst hE
      exact r_throw F G htb tf_eI tk_X4_78 ti_eI ts_253 at_I dX4_requireBoat_15 dX4_requireBoat_18 dX4_requireBoat_19 dX4_requireBoat_21 dX4_requireBoat_24 (by decide)
set_option maxHeartbeats 4000000 in
set_option maxRecDepth 100000 in
theorem C_X4_requireAtSea {l : Launch} {cy : Nat → ClassId} {D : va_G} {ad : Nat → Nat → Int → Nat} {M : Mem} {S : St} {v : Int} (hx : 0 ≤ v ∧ v < 6) (hI : Inv S) (hv : S 18 v = 0) : Ct l cy D ad yX4_requireAtSea cX4_requireAtSea 2 none 0 [.ref (ad 0 0 0), .int (i32 v)] (setc M 0 S) none (setc M 0 S) := by
  refine Ct.mk (lv := [some _, some _]) 0 (by decide) rfl (Nat.le_of_ble_eq_true rfl) (fun p e s m below meth c F => ?_)
  have b18 := hI.p18 v
  refine r_aload_n (i := 0) F dX4_requireAtSea_0 rfl rfl ?_
  refine gf_X4_10 F dX4_requireAtSea_1 ?_
  refine gf_X4_114 F dX4_requireAtSea_4 (by decide) ?_
  refine r_iload_n (i := 1) F dX4_requireAtSea_7 rfl rfl ?_
  refine aa_8 F dX4_requireAtSea_8 (by decide) (by omega) (by omega) ?_
  refine gf_X4_189 F dX4_requireAtSea_9 (by decide) (by omega) (by omega) ?_
  refine r_if_eq (tgt := 25) F dX4_requireAtSea_12 (by decide) (by first | assumption | exact ir_of (by omega) (by omega)) (fun h12 => ?_) (fun h12 => ?_)
  · exact r_vret F dX4_requireAtSea_25 rfl rfl
  · exfalso; omega
set_option maxHeartbeats 4000000 in
set_option maxRecDepth 100000 in
theorem T_X4_requireAtSea {l : Launch} {cy : Nat → ClassId} {D : va_G} {ad : Nat → Nat → Int → Nat} {M : Mem} {S : St} {E : String} {v : Int} (hl9 : l.stackTraces = false) (hx : 0 ≤ v ∧ v < 6) (hI : Inv S) (hv : ¬ (S 18 v = 0)) (hE : E = eS) : Tx l cy D ad yX4_requireAtSea cX4_requireAtSea 2 none 6 [.ref (ad 0 0 0), .int (i32 v)] (setc M 0 S) E := by
  refine Tx.mk (lv := [some _, some _]) 0 hl9 (by decide) rfl (Nat.le_of_ble_eq_true rfl) (fun p e s m below meth c F G htb => ?_)
  have b18 := hI.p18 v
  refine r_aload_n (i := 0) F dX4_requireAtSea_0 rfl rfl ?_
  refine gf_X4_10 F dX4_requireAtSea_1 ?_
  refine gf_X4_114 F dX4_requireAtSea_4 (by decide) ?_
  refine r_iload_n (i := 1) F dX4_requireAtSea_7 rfl rfl ?_
  refine aa_8 F dX4_requireAtSea_8 (by decide) (by omega) (by omega) ?_
  refine gf_X4_189 F dX4_requireAtSea_9 (by decide) (by omega) (by omega) ?_
  refine r_if_eq (tgt := 25) F dX4_requireAtSea_12 (by decide) (by first | assumption | exact ir_of (by omega) (by omega)) (fun h12 => ?_) (fun h12 => ?_)
  · exfalso; omega
  · subst hE
    exact r_throw F G htb tf_eS tk_X4_34 ti_eS ts_255 at_S dX4_requireAtSea_15 dX4_requireAtSea_18 dX4_requireAtSea_19 dX4_requireAtSea_21 dX4_requireAtSea_24 (by decide)
set_option maxHeartbeats 4000000 in
set_option maxRecDepth 100000 in
theorem T_X4_lantern {l : Launch} {cy : Nat → ClassId} {D : va_G} {ad : Nat → Nat → Int → Nat} {M : Mem} {S : St} {E : String} {x : Int} (hl9 : l.stackTraces = false) (hI : Inv S) (hx9 : ir x) (h0 : cLantern S x ≠ 0) (hE : E = exIS (cLantern S x)) : Tx l cy D ad yX4_lantern cX4_lantern 3 (some FieldType.int) 7 [.ref (ad 0 0 0), .int (i32 x)] (setc M 0 S) E := by
  refine Tx.mk (lv := [some _, some _, none]) 1 hl9 (by decide) rfl (Nat.le_of_ble_eq_true rfl) (fun p e s m below meth c F G htb => ?_)
  have ic := hI.pc
  refine r_iload_n (i := 1) F dX4_lantern_0 rfl rfl ?_
  by_cases q1 : 0 ≤ x ∧ x ≤ 15
  rotate_left
  · have e9 : cLantern S x = 1 := by unfold cLantern; rw [if_pos (by omega)]
    obtain rfl : E = eI := hE.trans (by rw [e9] <;> rfl)
    exact r_tcallS F G htb (T_X4_requirePlace hl9 (by assumption) q1 rfl) dX4_lantern_1 lks_X4_19 rfl rfl cd_X4_requirePlace (by decide) ⟨Nat.le_refl _, Nat.le_refl _⟩ (Nat.le_of_ble_eq_true rfl)
  refine r_callS F (C_X4_requirePlace (by assumption) ⟨by omega, by omega⟩) dX4_lantern_1 lks_X4_19 rfl rfl cd_X4_requirePlace (by decide) ⟨Nat.zero_le _, Nat.zero_le _⟩ (Nat.le_of_ble_eq_true rfl) ?_
  refine r_aload_n (i := 0) F dX4_lantern_4 rfl rfl ?_
  refine gf_X4_10 F dX4_lantern_5 ?_
  refine gf_X4_54 F dX4_lantern_8 (by decide) ?_
  refine r_iconst F dX4_lantern_11 ?_
  refine r_icmp_lt (tgt := 25) F dX4_lantern_12 (by decide) (by first | assumption | exact ir_of (by omega) (by omega)) (by first | assumption | exact ir_of (by omega) (by omega)) (fun h12 => ?_) (fun h12 => ?_)
  · refine r_aload_n (i := 0) F dX4_lantern_25 rfl rfl ?_
    refine gf_X4_10 F dX4_lantern_26 ?_
    refine r_iload_n (i := 1) F dX4_lantern_29 rfl rfl ?_
    refine r_callV F (C_X1_hasLanternAt (by decide) hI ⟨by omega, by omega⟩) dX4_lantern_30 lkv_X4_60 rfl rfl (dm1 ⟨by decide, by decide⟩ (by decide)) rfl rfl cd_X1_hasLanternAt (by decide) ⟨Nat.zero_le _, Nat.zero_le _⟩ (Nat.le_of_ble_eq_true rfl) ?_
    refine r_bz_eq (tgt := 46) F dX4_lantern_33 (by decide) (fun h33 => ?_) (fun h33 => ?_)
    · exact absurd (by unfold cLantern; rw [if_neg (by omega), if_neg (by omega), h33] <;> rfl) h0
    · have e9 : cLantern S x = 2 := by unfold cLantern; first | (rw [if_neg (by omega), if_pos (by omega)]; done) | (rw [if_neg (by omega), if_neg (by omega), h33] <;> rfl)
      obtain rfl : E = eS := hE.trans (by rw [e9] <;> rfl)
      exact r_throw F G htb tf_eS tk_X4_34 ti_eS ts_64 at_S dX4_lantern_36 dX4_lantern_39 dX4_lantern_40 dX4_lantern_42 dX4_lantern_45 (by decide)
  · have e9 : cLantern S x = 2 := by unfold cLantern; first | (rw [if_neg (by omega), if_pos (by omega)]; done) | (rw [if_neg (by omega), if_neg (by omega), h33] <;> rfl)
    obtain rfl : E = eS := hE.trans (by rw [e9] <;> rfl)
    exact r_throw F G htb tf_eS tk_X4_34 ti_eS ts_58 at_S dX4_lantern_15 dX4_lantern_18 dX4_lantern_19 dX4_lantern_21 dX4_lantern_24 (by decide)
set_option maxHeartbeats 4000000 in
set_option maxRecDepth 100000 in
theorem T_X4_boat {l : Launch} {cy : Nat → ClassId} {D : va_G} {ad : Nat → Nat → Int → Nat} {M : Mem} {S : St} {E : String} {x q : Int} (hl9 : l.stackTraces = false) (hI : Inv S) (hx9 : ir x) (hq9 : ir q) (h0 : cBoat S x q ≠ 0) (hE : E = exIAS (cBoat S x q)) : Tx l cy D ad yX4_boat cX4_boat 4 (some FieldType.int) 7 [.ref (ad 0 0 0), .int (i32 x), .int (i32 q)] (setc M 0 S) E := by
  refine Tx.mk (lv := [some _, some _, some _, none]) 1 hl9 (by decide) rfl (Nat.le_of_ble_eq_true rfl) (fun p e s m below meth c F G htb => ?_)
  have ic := hI.pc
  refine r_iload_n (i := 1) F dX4_boat_0 rfl rfl ?_
  by_cases q1 : 0 ≤ x ∧ x ≤ 15
  rotate_left
  · have e9 : cBoat S x q = 1 := by unfold cBoat; (repeat' split) <;> omega
    obtain rfl : E = eI := hE.trans (by rw [e9] <;> rfl)
    exact r_tcallS F G htb (T_X4_requirePlace hl9 (by assumption) q1 rfl) dX4_boat_1 lks_X4_19 rfl rfl cd_X4_requirePlace (by decide) ⟨Nat.le_refl _, Nat.le_refl _⟩ (Nat.le_of_ble_eq_true rfl)
  refine r_callS F (C_X4_requirePlace (by assumption) ⟨by omega, by omega⟩) dX4_boat_1 lks_X4_19 rfl rfl cd_X4_requirePlace (by decide) ⟨Nat.zero_le _, Nat.zero_le _⟩ (Nat.le_of_ble_eq_true rfl) ?_
  refine r_iload_n (i := 2) F dX4_boat_4 rfl rfl ?_
  refine r_iconst F dX4_boat_5 ?_
  refine r_icmp_lt (tgt := 15) F dX4_boat_6 (by decide) (by first | assumption | exact ir_of (by omega) (by omega)) (by first | assumption | exact ir_of (by omega) (by omega)) (fun h6 => ?_) (fun h6 => ?_)
  · have e9 : cBoat S x q = 2 := by unfold cBoat; (repeat' split) <;> omega
    obtain rfl : E = eA := hE.trans (by rw [e9] <;> rfl)
    exact r_throw F G htb tf_eA tk_X4_23 ti_eA ts_107 at_A dX4_boat_15 dX4_boat_18 dX4_boat_19 dX4_boat_21 dX4_boat_24 (by decide)
  · refine r_iload_n (i := 2) F dX4_boat_9 rfl rfl ?_
    refine r_bipush F dX4_boat_10 (by decide) ?_
    refine r_icmp_le (tgt := 25) F dX4_boat_12 (by decide) (by first | assumption | exact ir_of (by omega) (by omega)) (by first | assumption | exact ir_of (by omega) (by omega)) (fun h12 => ?_) (fun h12 => ?_)
    · refine r_aload_n (i := 0) F dX4_boat_25 rfl rfl ?_
      refine gf_X4_10 F dX4_boat_26 ?_
      refine gf_X4_109 F dX4_boat_29 (by decide) ?_
      refine r_bipush F dX4_boat_32 (by decide) ?_
      refine r_icmp_lt (tgt := 47) F dX4_boat_34 (by decide) (by first | assumption | exact ir_of (by omega) (by omega)) (by first | assumption | exact ir_of (by omega) (by omega)) (fun h34 => ?_) (fun h34 => ?_)
      · exact absurd (by unfold cBoat; (repeat' split) <;> omega) h0
      · have e9 : cBoat S x q = 3 := by unfold cBoat; (repeat' split) <;> omega
        obtain rfl : E = eS := hE.trans (by rw [e9] <;> rfl)
        exact r_throw F G htb tf_eS tk_X4_34 ti_eS ts_112 at_S dX4_boat_37 dX4_boat_40 dX4_boat_41 dX4_boat_43 dX4_boat_46 (by decide)
    · have e9 : cBoat S x q = 2 := by unfold cBoat; (repeat' split) <;> omega
      obtain rfl : E = eA := hE.trans (by rw [e9] <;> rfl)
      exact r_throw F G htb tf_eA tk_X4_23 ti_eA ts_107 at_A dX4_boat_15 dX4_boat_18 dX4_boat_19 dX4_boat_21 dX4_boat_24 (by decide)
