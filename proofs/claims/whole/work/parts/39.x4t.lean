/-! The class: what its calls throw. -/
theorem ts_247 : Cond.stringRef RX4 247 "there is no such what" ∈ lw_tbl := List.mem_of_getElem? (i := 268) (by decide +kernel)
theorem ts_241 : Cond.stringRef RX4 241 "a place is not 0 to 15" ∈ lw_tbl := List.mem_of_getElem? (i := 319) (by decide +kernel)
theorem ts_245 : Cond.stringRef RX4 245 "code is not 1 to 7" ∈ lw_tbl := List.mem_of_getElem? (i := 360) (by decide +kernel)
theorem ts_251 : Cond.stringRef RX4 251 "there is no such lantern" ∈ lw_tbl := List.mem_of_getElem? (i := 381) (by decide +kernel)
theorem ts_149 : Cond.stringRef RX4 149 "there is no such watchman" ∈ lw_tbl := List.mem_of_getElem? (i := 407) (by decide +kernel)
theorem ts_253 : Cond.stringRef RX4 253 "there is no such boat" ∈ lw_tbl := List.mem_of_getElem? (i := 427) (by decide +kernel)
theorem ts_25 : Cond.stringRef RX4 25 "room is not 0 to 30" ∈ lw_tbl := List.mem_of_getElem? (i := 455) (by decide +kernel)
theorem ts_36 : Cond.stringRef RX4 36 "more bales are in the cave" ∈ lw_tbl := List.mem_of_getElem? (i := 471) (by decide +kernel)
theorem ts_243 : Cond.stringRef RX4 243 "place is not -1 to 15" ∈ lw_tbl := List.mem_of_getElem? (i := 488) (by decide +kernel)
theorem ts_58 : Cond.stringRef RX4 58 "there are 5 lanterns" ∈ lw_tbl := List.mem_of_getElem? (i := 496) (by decide +kernel)
theorem ts_64 : Cond.stringRef RX4 64 "a lantern stands there" ∈ lw_tbl := List.mem_of_getElem? (i := 501) (by decide +kernel)
theorem ts_80 : Cond.stringRef RX4 80 "hour is not 0 to 9" ∈ lw_tbl := List.mem_of_getElem? (i := 509) (by decide +kernel)
theorem ts_83 : Cond.stringRef RX4 83 "code is not 0 to 7" ∈ lw_tbl := List.mem_of_getElem? (i := 510) (by decide +kernel)
theorem ts_88 : Cond.stringRef RX4 88 "from is greater than to" ∈ lw_tbl := List.mem_of_getElem? (i := 518) (by decide +kernel)
theorem ts_90 : Cond.stringRef RX4 90 "eyes is not 0 to 3" ∈ lw_tbl := List.mem_of_getElem? (i := 519) (by decide +kernel)
theorem ts_95 : Cond.stringRef RX4 95 "there are 4 watchmen" ∈ lw_tbl := List.mem_of_getElem? (i := 520) (by decide +kernel)
theorem ts_107 : Cond.stringRef RX4 107 "bales is not 1 to 20" ∈ lw_tbl := List.mem_of_getElem? (i := 532) (by decide +kernel)
theorem ts_112 : Cond.stringRef RX4 112 "6 boats came" ∈ lw_tbl := List.mem_of_getElem? (i := 533) (by decide +kernel)
theorem ts_255 : Cond.stringRef RX4 255 "the boat is not at sea" ∈ lw_tbl := List.mem_of_getElem? (i := 549) (by decide +kernel)
theorem ts_135 : Cond.stringRef RX4 135 "many is not 1 to 30" ∈ lw_tbl := List.mem_of_getElem? (i := 561) (by decide +kernel)
theorem ts_137 : Cond.stringRef RX4 137 "there are fewer bales in the cave" ∈ lw_tbl := List.mem_of_getElem? (i := 562) (by decide +kernel)
theorem ts_168 : Cond.stringRef RX4 168 "night is not 0 to 999" ∈ lw_tbl := List.mem_of_getElem? (i := 590) (by decide +kernel)
theorem ts_249 : Cond.stringRef RX4 249 "hours is not 1 to 60" ∈ lw_tbl := List.mem_of_getElem? (i := 606) (by decide +kernel)
theorem tk_X4_78 : Cond.classLink RX4 78 eI ∈ TB := tb_of 227 (by decide +kernel) (by decide +kernel)
theorem tk_L_13 : Cond.classLink RL 13 eI ∈ TB := tb_of 439 (by decide +kernel) (by decide +kernel)
theorem tk_L_15 : Cond.classLink RL 15 eA ∈ TB := tb_of 440 (by decide +kernel) (by decide +kernel)
theorem tk_L_17 : Cond.classLink RL 17 eS ∈ TB := tb_of 441 (by decide +kernel) (by decide +kernel)
theorem tk_X4_23 : Cond.classLink RX4 23 eA ∈ TB := tb_of 446 (by decide +kernel) (by decide +kernel)
theorem tk_X4_34 : Cond.classLink RX4 34 eS ∈ TB := tb_of 462 (by decide +kernel) (by decide +kernel)
theorem ti_eI : Cond.initialized eI ∈ TB := tb_of 36 (by decide +kernel) (by decide +kernel)
theorem ti_eA : Cond.initialized eA ∈ TB := tb_of 37 (by decide +kernel) (by decide +kernel)
theorem ti_eS : Cond.initialized eS ∈ TB := tb_of 38 (by decide +kernel) (by decide +kernel)
theorem tc_eI : Cond.castable eI eI ∈ lw_tbl := List.mem_of_getElem? (i := 229) (by decide +kernel)
theorem tc_eA : Cond.castable eA eA ∈ lw_tbl := List.mem_of_getElem? (i := 448) (by decide +kernel)
theorem tc_eS : Cond.castable eS eS ∈ lw_tbl := List.mem_of_getElem? (i := 464) (by decide +kernel)
theorem tf_eI : Bundle.fit eI = true := by decide +kernel
theorem tf_eA : Bundle.fit eA = true := by decide +kernel
theorem tf_eS : Bundle.fit eS = true := by decide +kernel
def exIAS (k : Int) : String := if k = 1 then eI else if k = 2 then eA else eS
def exIS (k : Int) : String := if k = 1 then eI else eS
def exIA (k : Int) : String := if k = 1 then eI else eA
def exAI (k : Int) : String := if k = 1 then eA else eI
def exI (_ : Int) : String := eI
def exA (_ : Int) : String := eA
set_option maxHeartbeats 4000000 in
set_option maxRecDepth 100000 in
theorem C_X4_requirePlace {l : Launch} {cy : Nat → ClassId} {D : va_G} {ad : Nat → Nat → Int → Nat} {M : Mem} {v : Int} (hv9 : ir v) (hv : 0 ≤ v ∧ v ≤ 15) : Ct l cy D ad yX4_requirePlace cX4_requirePlace 1 none 0 [.int (i32 v)] (M) none (M) := by
  refine Ct.mk (lv := [some _]) 0 (by decide) rfl (Nat.le_of_ble_eq_true rfl) (fun p e s m below meth c F => ?_)
  refine r_iload_n (i := 0) F dX4_requirePlace_0 rfl rfl ?_
  refine r_if_lt (tgt := 10) F dX4_requirePlace_1 (by decide) (by first | assumption | exact ir_of (by omega) (by omega)) (fun h1 => ?_) (fun h1 => ?_)
  · exfalso; omega
  · refine r_iload_n (i := 0) F dX4_requirePlace_4 rfl rfl ?_
    refine r_bipush F dX4_requirePlace_5 (by decide) ?_
    refine r_icmp_lt (tgt := 20) F dX4_requirePlace_7 (by decide) (by first | assumption | exact ir_of (by omega) (by omega)) (by first | assumption | exact ir_of (by omega) (by omega)) (fun h7 => ?_) (fun h7 => ?_)
    · exact r_vret F dX4_requirePlace_20 rfl rfl
    · exfalso; omega
set_option maxHeartbeats 4000000 in
set_option maxRecDepth 100000 in
theorem T_X4_requirePlace {l : Launch} {cy : Nat → ClassId} {D : va_G} {ad : Nat → Nat → Int → Nat} {M : Mem} {E : String} {v : Int} (hl9 : l.stackTraces = false) (hv9 : ir v) (hv : ¬ (0 ≤ v ∧ v ≤ 15)) (hE : E = eI) : Tx l cy D ad yX4_requirePlace cX4_requirePlace 1 none 6 [.int (i32 v)] (M) E := by
  refine Tx.mk (lv := [some _]) 0 hl9 (by decide) rfl (Nat.le_of_ble_eq_true rfl) (fun p e s m below meth c F G htb => ?_)
  refine r_iload_n (i := 0) F dX4_requirePlace_0 rfl rfl ?_
  refine r_if_lt (tgt := 10) F dX4_requirePlace_1 (by decide) (by first | assumption | exact ir_of (by omega) (by omega)) (fun h1 => ?_) (fun h1 => ?_)
  · subst hE
    exact r_throw F G htb tf_eI tk_X4_78 ti_eI ts_241 at_I dX4_requirePlace_10 dX4_requirePlace_13 dX4_requirePlace_14 dX4_requirePlace_16 dX4_requirePlace_19 (by decide)
  · refine r_iload_n (i := 0) F dX4_requirePlace_4 rfl rfl ?_
    refine r_bipush F dX4_requirePlace_5 (by decide) ?_
    refine r_icmp_lt (tgt := 20) F dX4_requirePlace_7 (by decide) (by first | assumption | exact ir_of (by omega) (by omega)) (by first | assumption | exact ir_of (by omega) (by omega)) (fun h7 => ?_) (fun h7 => ?_)
    · exfalso; omega
    · subst hE
      exact r_throw F G htb tf_eI tk_X4_78 ti_eI ts_241 at_I dX4_requirePlace_10 dX4_requirePlace_13 dX4_requirePlace_14 dX4_requirePlace_16 dX4_requirePlace_19 (by decide)
set_option maxHeartbeats 4000000 in
set_option maxRecDepth 100000 in
theorem C_X4_requirePlaceOrNone {l : Launch} {cy : Nat → ClassId} {D : va_G} {ad : Nat → Nat → Int → Nat} {M : Mem} {v : Int} (hv9 : ir v) (hv : -1 ≤ v ∧ v ≤ 15) : Ct l cy D ad yX4_requirePlaceOrNone cX4_requirePlaceOrNone 1 none 0 [.int (i32 v)] (M) none (M) := by
  refine Ct.mk (lv := [some _]) 0 (by decide) rfl (Nat.le_of_ble_eq_true rfl) (fun p e s m below meth c F => ?_)
  refine r_iload_n (i := 0) F dX4_requirePlaceOrNone_0 rfl rfl ?_
  refine r_iconst F dX4_requirePlaceOrNone_1 ?_
  refine r_icmp_lt (tgt := 11) F dX4_requirePlaceOrNone_2 (by decide) (by first | assumption | exact ir_of (by omega) (by omega)) (by first | assumption | exact ir_of (by omega) (by omega)) (fun h2 => ?_) (fun h2 => ?_)
  · exfalso; omega
  · refine r_iload_n (i := 0) F dX4_requirePlaceOrNone_5 rfl rfl ?_
    refine r_bipush F dX4_requirePlaceOrNone_6 (by decide) ?_
    refine r_icmp_lt (tgt := 21) F dX4_requirePlaceOrNone_8 (by decide) (by first | assumption | exact ir_of (by omega) (by omega)) (by first | assumption | exact ir_of (by omega) (by omega)) (fun h8 => ?_) (fun h8 => ?_)
    · exact r_vret F dX4_requirePlaceOrNone_21 rfl rfl
    · exfalso; omega
set_option maxHeartbeats 4000000 in
set_option maxRecDepth 100000 in
theorem T_X4_requirePlaceOrNone {l : Launch} {cy : Nat → ClassId} {D : va_G} {ad : Nat → Nat → Int → Nat} {M : Mem} {E : String} {v : Int} (hl9 : l.stackTraces = false) (hv9 : ir v) (hv : ¬ (-1 ≤ v ∧ v ≤ 15)) (hE : E = eI) : Tx l cy D ad yX4_requirePlaceOrNone cX4_requirePlaceOrNone 1 none 6 [.int (i32 v)] (M) E := by
  refine Tx.mk (lv := [some _]) 0 hl9 (by decide) rfl (Nat.le_of_ble_eq_true rfl) (fun p e s m below meth c F G htb => ?_)
  refine r_iload_n (i := 0) F dX4_requirePlaceOrNone_0 rfl rfl ?_
  refine r_iconst F dX4_requirePlaceOrNone_1 ?_
  refine r_icmp_lt (tgt := 11) F dX4_requirePlaceOrNone_2 (by decide) (by first | assumption | exact ir_of (by omega) (by omega)) (by first | assumption | exact ir_of (by omega) (by omega)) (fun h2 => ?_) (fun h2 => ?_)
  · subst hE
    exact r_throw F G htb tf_eI tk_X4_78 ti_eI ts_243 at_I dX4_requirePlaceOrNone_11 dX4_requirePlaceOrNone_14 dX4_requirePlaceOrNone_15 dX4_requirePlaceOrNone_17 dX4_requirePlaceOrNone_20 (by decide)
  · refine r_iload_n (i := 0) F dX4_requirePlaceOrNone_5 rfl rfl ?_
    refine r_bipush F dX4_requirePlaceOrNone_6 (by decide) ?_
    refine r_icmp_lt (tgt := 21) F dX4_requirePlaceOrNone_8 (by decide) (by first | assumption | exact ir_of (by omega) (by omega)) (by first | assumption | exact ir_of (by omega) (by omega)) (fun h8 => ?_) (fun h8 => ?_)
    · exfalso; omega
    · subst hE
      exact r_throw F G htb tf_eI tk_X4_78 ti_eI ts_243 at_I dX4_requirePlaceOrNone_11 dX4_requirePlaceOrNone_14 dX4_requirePlaceOrNone_15 dX4_requirePlaceOrNone_17 dX4_requirePlaceOrNone_20 (by decide)
set_option maxHeartbeats 4000000 in
set_option maxRecDepth 100000 in
theorem C_X4_requireCode {l : Launch} {cy : Nat → ClassId} {D : va_G} {ad : Nat → Nat → Int → Nat} {M : Mem} {v : Int} (hv9 : ir v) (hv : 1 ≤ v ∧ v ≤ 7) : Ct l cy D ad yX4_requireCode cX4_requireCode 1 none 0 [.int (i32 v)] (M) none (M) := by
  refine Ct.mk (lv := [some _]) 0 (by decide) rfl (Nat.le_of_ble_eq_true rfl) (fun p e s m below meth c F => ?_)
  refine r_iload_n (i := 0) F dX4_requireCode_0 rfl rfl ?_
  refine r_iconst F dX4_requireCode_1 ?_
  refine r_icmp_lt (tgt := 11) F dX4_requireCode_2 (by decide) (by first | assumption | exact ir_of (by omega) (by omega)) (by first | assumption | exact ir_of (by omega) (by omega)) (fun h2 => ?_) (fun h2 => ?_)
  · exfalso; omega
  · refine r_iload_n (i := 0) F dX4_requireCode_5 rfl rfl ?_
    refine r_bipush F dX4_requireCode_6 (by decide) ?_
    refine r_icmp_le (tgt := 21) F dX4_requireCode_8 (by decide) (by first | assumption | exact ir_of (by omega) (by omega)) (by first | assumption | exact ir_of (by omega) (by omega)) (fun h8 => ?_) (fun h8 => ?_)
    · exact r_vret F dX4_requireCode_21 rfl rfl
    · exfalso; omega
set_option maxHeartbeats 4000000 in
set_option maxRecDepth 100000 in
theorem T_X4_requireCode {l : Launch} {cy : Nat → ClassId} {D : va_G} {ad : Nat → Nat → Int → Nat} {M : Mem} {E : String} {v : Int} (hl9 : l.stackTraces = false) (hv9 : ir v) (hv : ¬ (1 ≤ v ∧ v ≤ 7)) (hE : E = eI) : Tx l cy D ad yX4_requireCode cX4_requireCode 1 none 6 [.int (i32 v)] (M) E := by
  refine Tx.mk (lv := [some _]) 0 hl9 (by decide) rfl (Nat.le_of_ble_eq_true rfl) (fun p e s m below meth c F G htb => ?_)
  refine r_iload_n (i := 0) F dX4_requireCode_0 rfl rfl ?_
  refine r_iconst F dX4_requireCode_1 ?_
  refine r_icmp_lt (tgt := 11) F dX4_requireCode_2 (by decide) (by first | assumption | exact ir_of (by omega) (by omega)) (by first | assumption | exact ir_of (by omega) (by omega)) (fun h2 => ?_) (fun h2 => ?_)
  · subst hE
    exact r_throw F G htb tf_eI tk_X4_78 ti_eI ts_245 at_I dX4_requireCode_11 dX4_requireCode_14 dX4_requireCode_15 dX4_requireCode_17 dX4_requireCode_20 (by decide)
  · refine r_iload_n (i := 0) F dX4_requireCode_5 rfl rfl ?_
    refine r_bipush F dX4_requireCode_6 (by decide) ?_
    refine r_icmp_le (tgt := 21) F dX4_requireCode_8 (by decide) (by first | assumption | exact ir_of (by omega) (by omega)) (by first | assumption | exact ir_of (by omega) (by omega)) (fun h8 => ?_) (fun h8 => ?_)
    · exfalso; omega
    · subst hE
      exact r_throw F G htb tf_eI tk_X4_78 ti_eI ts_245 at_I dX4_requireCode_11 dX4_requireCode_14 dX4_requireCode_15 dX4_requireCode_17 dX4_requireCode_20 (by decide)
set_option maxHeartbeats 4000000 in
set_option maxRecDepth 100000 in
theorem C_X4_requireWhat {l : Launch} {cy : Nat → ClassId} {D : va_G} {ad : Nat → Nat → Int → Nat} {M : Mem} {v lo hi : Int} (hv9 : ir v) (hlo : ir lo) (hhi : ir hi) (hv : lo ≤ v ∧ v ≤ hi) : Ct l cy D ad yX4_requireWhat cX4_requireWhat 3 none 0 [.int (i32 v), .int (i32 lo), .int (i32 hi)] (M) none (M) := by
  refine Ct.mk (lv := [some _, some _, some _]) 0 (by decide) rfl (Nat.le_of_ble_eq_true rfl) (fun p e s m below meth c F => ?_)
  refine r_iload_n (i := 0) F dX4_requireWhat_0 rfl rfl ?_
  refine r_iload_n (i := 1) F dX4_requireWhat_1 rfl rfl ?_
  refine r_icmp_lt (tgt := 10) F dX4_requireWhat_2 (by decide) (by first | assumption | exact ir_of (by omega) (by omega)) (by first | assumption | exact ir_of (by omega) (by omega)) (fun h2 => ?_) (fun h2 => ?_)
  · exfalso; omega
  · refine r_iload_n (i := 0) F dX4_requireWhat_5 rfl rfl ?_
    refine r_iload_n (i := 2) F dX4_requireWhat_6 rfl rfl ?_
    refine r_icmp_le (tgt := 20) F dX4_requireWhat_7 (by decide) (by first | assumption | exact ir_of (by omega) (by omega)) (by first | assumption | exact ir_of (by omega) (by omega)) (fun h7 => ?_) (fun h7 => ?_)
    · exact r_vret F dX4_requireWhat_20 rfl rfl
    · exfalso; omega
set_option maxHeartbeats 4000000 in
set_option maxRecDepth 100000 in
theorem T_X4_requireWhat {l : Launch} {cy : Nat → ClassId} {D : va_G} {ad : Nat → Nat → Int → Nat} {M : Mem} {E : String} {v lo hi : Int} (hl9 : l.stackTraces = false) (hv9 : ir v) (hlo : ir lo) (hhi : ir hi) (hv : ¬ (lo ≤ v ∧ v ≤ hi)) (hE : E = eI) : Tx l cy D ad yX4_requireWhat cX4_requireWhat 3 none 6 [.int (i32 v), .int (i32 lo), .int (i32 hi)] (M) E := by
  refine Tx.mk (lv := [some _, some _, some _]) 0 hl9 (by decide) rfl (Nat.le_of_ble_eq_true rfl) (fun p e s m below meth c F G htb => ?_)
  refine r_iload_n (i := 0) F dX4_requireWhat_0 rfl rfl ?_
  refine r_iload_n (i := 1) F dX4_requireWhat_1 rfl rfl ?_
  refine r_icmp_lt (tgt := 10) F dX4_requireWhat_2 (by decide) (by first | assumption | exact ir_of (by omega) (by omega)) (by first | assumption | exact ir_of (by omega) (by omega)) (fun h2 => ?_) (fun h2 => ?_)
  · subst hE
    exact r_throw F G htb tf_eI tk_X4_78 ti_eI ts_247 at_I dX4_requireWhat_10 dX4_requireWhat_13 dX4_requireWhat_14 dX4_requireWhat_16 dX4_requireWhat_19 (by decide)
  · refine r_iload_n (i := 0) F dX4_requireWhat_5 rfl rfl ?_
    refine r_iload_n (i := 2) F dX4_requireWhat_6 rfl rfl ?_
    refine r_icmp_le (tgt := 20) F dX4_requireWhat_7 (by decide) (by first | assumption | exact ir_of (by omega) (by omega)) (by first | assumption | exact ir_of (by omega) (by omega)) (fun h7 => ?_) (fun h7 => ?_)
    · exfalso; omega
    · subst hE
      exact r_throw F G htb tf_eI tk_X4_78 ti_eI ts_247 at_I dX4_requireWhat_10 dX4_requireWhat_13 dX4_requireWhat_14 dX4_requireWhat_16 dX4_requireWhat_19 (by decide)
set_option maxHeartbeats 4000000 in
set_option maxRecDepth 100000 in
theorem C_X4_requireHours {l : Launch} {cy : Nat → ClassId} {D : va_G} {ad : Nat → Nat → Int → Nat} {M : Mem} {v : Int} (hv9 : ir v) (hv : 1 ≤ v ∧ v ≤ 60) : Ct l cy D ad yX4_requireHours cX4_requireHours 1 none 0 [.int (i32 v)] (M) none (M) := by
  refine Ct.mk (lv := [some _]) 0 (by decide) rfl (Nat.le_of_ble_eq_true rfl) (fun p e s m below meth c F => ?_)
  refine r_iload_n (i := 0) F dX4_requireHours_0 rfl rfl ?_
  refine r_iconst F dX4_requireHours_1 ?_
  refine r_icmp_lt (tgt := 11) F dX4_requireHours_2 (by decide) (by first | assumption | exact ir_of (by omega) (by omega)) (by first | assumption | exact ir_of (by omega) (by omega)) (fun h2 => ?_) (fun h2 => ?_)
  · exfalso; omega
  · refine r_iload_n (i := 0) F dX4_requireHours_5 rfl rfl ?_
    refine r_bipush F dX4_requireHours_6 (by decide) ?_
    refine r_icmp_le (tgt := 21) F dX4_requireHours_8 (by decide) (by first | assumption | exact ir_of (by omega) (by omega)) (by first | assumption | exact ir_of (by omega) (by omega)) (fun h8 => ?_) (fun h8 => ?_)
    · exact r_vret F dX4_requireHours_21 rfl rfl
    · exfalso; omega
set_option maxHeartbeats 4000000 in
set_option maxRecDepth 100000 in
theorem T_X4_requireHours {l : Launch} {cy : Nat → ClassId} {D : va_G} {ad : Nat → Nat → Int → Nat} {M : Mem} {E : String} {v : Int} (hl9 : l.stackTraces = false) (hv9 : ir v) (hv : ¬ (1 ≤ v ∧ v ≤ 60)) (hE : E = eA) : Tx l cy D ad yX4_requireHours cX4_requireHours 1 none 6 [.int (i32 v)] (M) E := by
  refine Tx.mk (lv := [some _]) 0 hl9 (by decide) rfl (Nat.le_of_ble_eq_true rfl) (fun p e s m below meth c F G htb => ?_)
  refine r_iload_n (i := 0) F dX4_requireHours_0 rfl rfl ?_
  refine r_iconst F dX4_requireHours_1 ?_
  refine r_icmp_lt (tgt := 11) F dX4_requireHours_2 (by decide) (by first | assumption | exact ir_of (by omega) (by omega)) (by first | assumption | exact ir_of (by omega) (by omega)) (fun h2 => ?_) (fun h2 => ?_)
  · subst hE
    exact r_throw F G htb tf_eA tk_X4_23 ti_eA ts_249 at_A dX4_requireHours_11 dX4_requireHours_14 dX4_requireHours_15 dX4_requireHours_17 dX4_requireHours_20 (by decide)
  · refine r_iload_n (i := 0) F dX4_requireHours_5 rfl rfl ?_
    refine r_bipush F dX4_requireHours_6 (by decide) ?_
    refine r_icmp_le (tgt := 21) F dX4_requireHours_8 (by decide) (by first | assumption | exact ir_of (by omega) (by omega)) (by first | assumption | exact ir_of (by omega) (by omega)) (fun h8 => ?_) (fun h8 => ?_)
    · exfalso; omega
    · subst hE
      exact r_throw F G htb tf_eA tk_X4_23 ti_eA ts_249 at_A dX4_requireHours_11 dX4_requireHours_14 dX4_requireHours_15 dX4_requireHours_17 dX4_requireHours_20 (by decide)
set_option maxHeartbeats 4000000 in
set_option maxRecDepth 100000 in
theorem C_X4_requireLantern {l : Launch} {cy : Nat → ClassId} {D : va_G} {ad : Nat → Nat → Int → Nat} {M : Mem} {S : St} {v : Int} (hv9 : ir v) (hI : Inv S) (hv : 0 ≤ v ∧ v ≤ S 20 1 - 1) : Ct l cy D ad yX4_requireLantern cX4_requireLantern 2 none 0 [.ref (ad 0 0 0), .int (i32 v)] (setc M 0 S) none (setc M 0 S) := by
  refine Ct.mk (lv := [some _, some _]) 0 (by decide) rfl (Nat.le_of_ble_eq_true rfl) (fun p e s m below meth c F => ?_)
  have ic := hI.pc
  refine r_iload_n (i := 1) F dX4_requireLantern_0 rfl rfl ?_
  refine r_if_lt (tgt := 15) F dX4_requireLantern_1 (by decide) (by first | assumption | exact ir_of (by omega) (by omega)) (fun h1 => ?_) (fun h1 => ?_)
  · exfalso; omega
  · refine r_iload_n (i := 1) F dX4_requireLantern_4 rfl rfl ?_
    refine r_aload_n (i := 0) F dX4_requireLantern_5 rfl rfl ?_
    refine gf_X4_10 F dX4_requireLantern_6 ?_
    refine gf_X4_54 F dX4_requireLantern_9 (by decide) ?_
    refine r_icmp_lt (tgt := 25) F dX4_requireLantern_12 (by decide) (by first | assumption | exact ir_of (by omega) (by omega)) (by first | assumption | exact ir_of (by omega) (by omega)) (fun h12 => ?_) (fun h12 => ?_)
    · exact r_vret F dX4_requireLantern_25 rfl rfl
    · exfalso; omega
set_option maxHeartbeats 4000000 in
set_option maxRecDepth 100000 in
theorem T_X4_requireLantern {l : Launch} {cy : Nat → ClassId} {D : va_G} {ad : Nat → Nat → Int → Nat} {M : Mem} {S : St} {E : String} {v : Int} (hl9 : l.stackTraces = false) (hv9 : ir v) (hI : Inv S) (hv : ¬ (0 ≤ v ∧ v ≤ S 20 1 - 1)) (hE : E = eI) : Tx l cy D ad yX4_requireLantern cX4_requireLantern 2 none 6 [.ref (ad 0 0 0), .int (i32 v)] (setc M 0 S) E := by
  refine Tx.mk (lv := [some _, some _]) 0 hl9 (by decide) rfl (Nat.le_of_ble_eq_true rfl) (fun p e s m below meth c F G htb => ?_)
  have ic := hI.pc
  refine r_iload_n (i := 1) F dX4_requireLantern_0 rfl rfl ?_
  refine r_if_lt (tgt := 15) F dX4_requireLantern_1 (by decide) (by first | assumption | exact ir_of (by omega) (by omega)) (fun h1 => ?_) (fun h1 => ?_)
  · subst hE
    exact r_throw F G htb tf_eI tk_X4_78 ti_eI ts_251 at_I dX4_requireLantern_15 dX4_requireLantern_18 dX4_requireLantern_19 dX4_requireLantern_21 dX4_requireLantern_24 (by decide)
  · refine r_iload_n (i := 1) F dX4_requireLantern_4 rfl rfl ?_
    refine r_aload_n (i := 0) F dX4_requireLantern_5 rfl rfl ?_
    refine gf_X4_10 F dX4_requireLantern_6 ?_
    refine gf_X4_54 F dX4_requireLantern_9 (by decide) ?_
    refine r_icmp_lt (tgt := 25) F dX4_requireLantern_12 (by decide) (by first | assumption | exact ir_of (by omega) (by omega)) (by first | assumption | exact ir_of (by omega) (by omega)) (fun h12 => ?_) (fun h12 => ?_)
    · exfalso; omega
    · subst hE
      exact r_throw F G htb tf_eI tk_X4_78 ti_eI ts_251 at_I dX4_requireLantern_15 dX4_requireLantern_18 dX4_requireLantern_19 dX4_requireLantern_21 dX4_requireLantern_24 (by decide)
set_option maxHeartbeats 4000000 in
set_option maxRecDepth 100000 in
theorem C_X4_requireBoat {l : Launch} {cy : Nat → ClassId} {D : va_G} {ad : Nat → Nat → Int → Nat} {M : Mem} {S : St} {v : Int} (hv9 : ir v) (hI : Inv S) (hv : 0 ≤ v ∧ v ≤ S 20 3 - 1) : Ct l cy D ad yX4_requireBoat cX4_requireBoat 2 none 0 [.ref (ad 0 0 0), .int (i32 v)] (setc M 0 S) none (setc M 0 S) := by
  refine Ct.mk (lv := [some _, some _]) 0 (by decide) rfl (Nat.le_of_ble_eq_true rfl) (fun p e s m below meth c F => ?_)
  have ic := hI.pc
  refine r_iload_n (i := 1) F dX4_requireBoat_0 rfl rfl ?_
  refine r_if_lt (tgt := 15) F dX4_requireBoat_1 (by decide) (by first | assumption | exact ir_of (by omega) (by omega)) (fun h1 => ?_) (fun h1 => ?_)
  · exfalso; omega
  · refine r_iload_n (i := 1) F dX4_requireBoat_4 rfl rfl ?_
    refine r_aload_n (i := 0) F dX4_requireBoat_5 rfl rfl ?_
    refine gf_X4_10 F dX4_requireBoat_6 ?_
    refine gf_X4_109 F dX4_requireBoat_9 (by decide) ?_
    refine r_icmp_lt (tgt := 25) F dX4_requireBoat_12 (by decide) (by first | assumption | exact ir_of (by omega) (by omega)) (by first | assumption | exact ir_of (by omega) (by omega)) (fun h12 => ?_) (fun h12 => ?_)
    · exact r_vret F dX4_requireBoat_25 rfl rfl
    · exfalso; omega
set_option maxHeartbeats 4000000 in
set_option maxRecDepth 100000 in
theorem T_X4_requireBoat {l : Launch} {cy : Nat → ClassId} {D : va_G} {ad : Nat → Nat → Int → Nat} {M : Mem} {S : St} {E : String} {v : Int} (hl9 : l.stackTraces = false) (hv9 : ir v) (hI : Inv S) (hv : ¬ (0 ≤ v ∧ v ≤ S 20 3 - 1)) (hE : E = eI) : Tx l cy D ad yX4_requireBoat cX4_requireBoat 2 none 6 [.ref (ad 0 0 0), .int (i32 v)] (setc M 0 S) E := by
  refine Tx.mk (lv := [some _, some _]) 0 hl9 (by decide) rfl (Nat.le_of_ble_eq_true rfl) (fun p e s m below meth c F G htb => ?_)
  have ic := hI.pc
  refine r_iload_n (i := 1) F dX4_requireBoat_0 rfl rfl ?_
  refine r_if_lt (tgt := 15) F dX4_requireBoat_1 (by decide) (by first | assumption | exact ir_of (by omega) (by omega)) (fun h1 => ?_) (fun h1 => ?_)
  · subst hE
    exact r_throw F G htb tf_eI tk_X4_78 ti_eI ts_253 at_I dX4_requireBoat_15 dX4_requireBoat_18 dX4_requireBoat_19 dX4_requireBoat_21 dX4_requireBoat_24 (by decide)
  · refine r_iload_n (i := 1) F dX4_requireBoat_4 rfl rfl ?_
    refine r_aload_n (i := 0) F dX4_requireBoat_5 rfl rfl ?_
    refine gf_X4_10 F dX4_requireBoat_6 ?_
    refine gf_X4_109 F dX4_requireBoat_9 (by decide) ?_
    refine r_icmp_lt (tgt := 25) F dX4_requireBoat_12 (by decide) (by first | assumption | exact ir_of (by omega) (by omega)) (by first | assumption | exact ir_of (by omega) (by omega)) (fun h12 => ?_) (fun h12 => ?_)
    · exfalso; omega
    · subst hE
      exact r_throw F G htb tf_eI tk_X4_78 ti_eI ts_253 at_I dX4_requireBoat_15 dX4_requireBoat_18 dX4_requireBoat_19 dX4_requireBoat_21 dX4_requireBoat_24 (by decide)
set_option maxHeartbeats 4000000 in
set_option maxRecDepth 100000 in
theorem C_X4_requireAtSea {l : Launch} {cy : Nat → ClassId} {D : va_G} {ad : Nat → Nat → Int → Nat} {M : Mem} {S : St} {v : Int} (hx : 0 ≤ v ∧ v < 6) (hI : Inv S) (hv : S 18 v = 0) : Ct l cy D ad yX4_requireAtSea cX4_requireAtSea 2 none 0 [.ref (ad 0 0 0), .int (i32 v)] (setc M 0 S) none (setc M 0 S) := by
  refine Ct.mk (lv := [some _, some _]) 0 (by decide) rfl (Nat.le_of_ble_eq_true rfl) (fun p e s m below meth c F => ?_)
  have b18 := hI.p18 v
  refine r_aload_n (i := 0) F dX4_requireAtSea_0 rfl rfl ?_
  refine gf_X4_10 F dX4_requireAtSea_1 ?_
  refine gf_X4_114 F dX4_requireAtSea_4 (by decide) ?_
  refine r_iload_n (i := 1) F dX4_requireAtSea_7 rfl rfl ?_
  refine aa_8 F dX4_requireAtSea_8 (by decide) (by omega) (by omega) ?_
  refine gf_X4_189 F dX4_requireAtSea_9 (by decide) (by omega) (by omega) ?_
  refine r_if_eq (tgt := 25) F dX4_requireAtSea_12 (by decide) (by first | assumption | exact ir_of (by omega) (by omega)) (fun h12 => ?_) (fun h12 => ?_)
  · exact r_vret F dX4_requireAtSea_25 rfl rfl
  · exfalso; omega
set_option maxHeartbeats 4000000 in
set_option maxRecDepth 100000 in
theorem T_X4_requireAtSea {l : Launch} {cy : Nat → ClassId} {D : va_G} {ad : Nat → Nat → Int → Nat} {M : Mem} {S : St} {E : String} {v : Int} (hl9 : l.stackTraces = false) (hx : 0 ≤ v ∧ v < 6) (hI : Inv S) (hv : ¬ (S 18 v = 0)) (hE : E = eS) : Tx l cy D ad yX4_requireAtSea cX4_requireAtSea 2 none 6 [.ref (ad 0 0 0), .int (i32 v)] (setc M 0 S) E := by
  refine Tx.mk (lv := [some _, some _]) 0 hl9 (by decide) rfl (Nat.le_of_ble_eq_true rfl) (fun p e s m below meth c F G htb => ?_)
  have b18 := hI.p18 v
  refine r_aload_n (i := 0) F dX4_requireAtSea_0 rfl rfl ?_
  refine gf_X4_10 F dX4_requireAtSea_1 ?_
  refine gf_X4_114 F dX4_requireAtSea_4 (by decide) ?_
  refine r_iload_n (i := 1) F dX4_requireAtSea_7 rfl rfl ?_
  refine aa_8 F dX4_requireAtSea_8 (by decide) (by omega) (by omega) ?_
  refine gf_X4_189 F dX4_requireAtSea_9 (by decide) (by omega) (by omega) ?_
  refine r_if_eq (tgt := 25) F dX4_requireAtSea_12 (by decide) (by first | assumption | exact ir_of (by omega) (by omega)) (fun h12 => ?_) (fun h12 => ?_)
  · exfalso; omega
  · subst hE
    exact r_throw F G htb tf_eS tk_X4_34 ti_eS ts_255 at_S dX4_requireAtSea_15 dX4_requireAtSea_18 dX4_requireAtSea_19 dX4_requireAtSea_21 dX4_requireAtSea_24 (by decide)
set_option maxHeartbeats 4000000 in
set_option maxRecDepth 100000 in
theorem T_X4_setRoom {l : Launch} {cy : Nat → ClassId} {D : va_G} {ad : Nat → Nat → Int → Nat} {M : Mem} {S : St} {E : String} {x q : Int} (hl9 : l.stackTraces = false) (hI : Inv S) (hx9 : ir x) (hq9 : ir q) (h0 : cSetRoom S x q ≠ 0) (hE : E = exIAS (cSetRoom S x q)) : Tx l cy D ad yX4_setRoom cX4_setRoom 4 (some .int) 7 [.ref (ad 0 0 0), .int (i32 x), .int (i32 q)] (setc M 0 S) E := by
  refine Tx.mk (lv := [some _, some _, some _, none]) 1 hl9 (by decide) rfl (Nat.le_of_ble_eq_true rfl) (fun p e s m below meth c F G htb => ?_)
  have ic := hI.pc
  have b1 := hI.p01 x
  refine r_iload_n (i := 1) F dX4_setRoom_0 rfl rfl ?_
  by_cases q1 : 0 ≤ x ∧ x ≤ 15
  rotate_left
  · have e9 : cSetRoom S x q = 1 := by unfold cSetRoom; (repeat' split) <;> omega
    obtain rfl : E = eI := hE.trans (by rw [e9] <;> rfl)
    exact r_tcallS F G htb (T_X4_requirePlace hl9 (by assumption) q1 rfl) dX4_setRoom_1 lks_X4_19 rfl rfl cd_X4_requirePlace (by decide) ⟨Nat.le_refl _, Nat.le_refl _⟩ (Nat.le_of_ble_eq_true rfl)
  refine r_callS F (C_X4_requirePlace (by assumption) ⟨by omega, by omega⟩) dX4_setRoom_1 lks_X4_19 rfl rfl cd_X4_requirePlace (by decide) ⟨Nat.zero_le _, Nat.zero_le _⟩ (Nat.le_of_ble_eq_true rfl) ?_
  refine r_iload_n (i := 2) F dX4_setRoom_4 rfl rfl ?_
  refine r_if_lt (tgt := 14) F dX4_setRoom_5 (by decide) (by first | assumption | exact ir_of (by omega) (by omega)) (fun h5 => ?_) (fun h5 => ?_)
  · have e9 : cSetRoom S x q = 2 := by unfold cSetRoom; (repeat' split) <;> omega
    obtain rfl : E = eA := hE.trans (by rw [e9] <;> rfl)
    exact r_throw F G htb tf_eA tk_X4_23 ti_eA ts_25 at_A dX4_setRoom_14 dX4_setRoom_17 dX4_setRoom_18 dX4_setRoom_20 dX4_setRoom_23 (by decide)
  · refine r_iload_n (i := 2) F dX4_setRoom_8 rfl rfl ?_
    refine r_bipush F dX4_setRoom_9 (by decide) ?_
    refine r_icmp_le (tgt := 24) F dX4_setRoom_11 (by decide) (by first | assumption | exact ir_of (by omega) (by omega)) (by first | assumption | exact ir_of (by omega) (by omega)) (fun h11 => ?_) (fun h11 => ?_)
    · refine r_aload_n (i := 0) F dX4_setRoom_24 rfl rfl ?_
      refine gf_X4_10 F dX4_setRoom_25 ?_
      refine gf_X4_30 F dX4_setRoom_28 (by decide) ?_
      refine r_iload_n (i := 1) F dX4_setRoom_31 rfl rfl ?_
      refine ia_3 F dX4_setRoom_32 (by decide) (by omega) (by omega) ?_
      refine r_iload_n (i := 2) F dX4_setRoom_33 rfl rfl ?_
      refine r_icmp_le (tgt := 47) F dX4_setRoom_34 (by decide) (by first | assumption | exact ir_of (by omega) (by omega)) (by first | assumption | exact ir_of (by omega) (by omega)) (fun h34 => ?_) (fun h34 => ?_)
      · exact absurd (by unfold cSetRoom; (repeat' split) <;> omega) h0
      · have e9 : cSetRoom S x q = 3 := by unfold cSetRoom; (repeat' split) <;> omega
        obtain rfl : E = eS := hE.trans (by rw [e9] <;> rfl)
        exact r_throw F G htb tf_eS tk_X4_34 ti_eS ts_36 at_S dX4_setRoom_37 dX4_setRoom_40 dX4_setRoom_41 dX4_setRoom_43 dX4_setRoom_46 (by decide)
    · have e9 : cSetRoom S x q = 2 := by unfold cSetRoom; (repeat' split) <;> omega
      obtain rfl : E = eA := hE.trans (by rw [e9] <;> rfl)
      exact r_throw F G htb tf_eA tk_X4_23 ti_eA ts_25 at_A dX4_setRoom_14 dX4_setRoom_17 dX4_setRoom_18 dX4_setRoom_20 dX4_setRoom_23 (by decide)
set_option maxHeartbeats 4000000 in
set_option maxRecDepth 100000 in
theorem T_X4_setCode {l : Launch} {cy : Nat → ClassId} {D : va_G} {ad : Nat → Nat → Int → Nat} {M : Mem} {S : St} {E : String} {x q : Int} (hl9 : l.stackTraces = false) (hI : Inv S) (hx9 : ir x) (hq9 : ir q) (h0 : cSetCode x q ≠ 0) (hE : E = exI (cSetCode x q)) : Tx l cy D ad yX4_setCode cX4_setCode 4 (some .int) 7 [.ref (ad 0 0 0), .int (i32 x), .int (i32 q)] (setc M 0 S) E := by
  refine Tx.mk (lv := [some _, some _, some _, none]) 1 hl9 (by decide) rfl (Nat.le_of_ble_eq_true rfl) (fun p e s m below meth c F G htb => ?_)
  have ic := hI.pc
  refine r_iload_n (i := 1) F dX4_setCode_0 rfl rfl ?_
  by_cases q1 : 1 ≤ x ∧ x ≤ 7
  rotate_left
  · have e9 : cSetCode x q = 1 := by unfold cSetCode; (repeat' split) <;> omega
    obtain rfl : E = eI := hE.trans (by rw [e9] <;> rfl)
    exact r_tcallS F G htb (T_X4_requireCode hl9 (by assumption) q1 rfl) dX4_setCode_1 lks_X4_42 rfl rfl cd_X4_requireCode (by decide) ⟨Nat.le_refl _, Nat.le_refl _⟩ (Nat.le_of_ble_eq_true rfl)
  refine r_callS F (C_X4_requireCode (by assumption) ⟨by omega, by omega⟩) dX4_setCode_1 lks_X4_42 rfl rfl cd_X4_requireCode (by decide) ⟨Nat.zero_le _, Nat.zero_le _⟩ (Nat.le_of_ble_eq_true rfl) ?_
  refine r_iload_n (i := 2) F dX4_setCode_4 rfl rfl ?_
  by_cases q5 : -1 ≤ q ∧ q ≤ 15
  rotate_left
  · have e9 : cSetCode x q = 1 := by unfold cSetCode; (repeat' split) <;> omega
    obtain rfl : E = eI := hE.trans (by rw [e9] <;> rfl)
    exact r_tcallS F G htb (T_X4_requirePlaceOrNone hl9 (by assumption) q5 rfl) dX4_setCode_5 lks_X4_45 rfl rfl cd_X4_requirePlaceOrNone (by decide) ⟨Nat.le_refl _, Nat.le_refl _⟩ (Nat.le_of_ble_eq_true rfl)
  refine r_callS F (C_X4_requirePlaceOrNone (by assumption) ⟨by omega, by omega⟩) dX4_setCode_5 lks_X4_45 rfl rfl cd_X4_requirePlaceOrNone (by decide) ⟨Nat.zero_le _, Nat.zero_le _⟩ (Nat.le_of_ble_eq_true rfl) ?_
  exact absurd (by unfold cSetCode; (repeat' split) <;> omega) h0
set_option maxHeartbeats 4000000 in
set_option maxRecDepth 100000 in
theorem T_X4_lantern {l : Launch} {cy : Nat → ClassId} {D : va_G} {ad : Nat → Nat → Int → Nat} {M : Mem} {S : St} {E : String} {x : Int} (hl9 : l.stackTraces = false) (hI : Inv S) (hx9 : ir x) (h0 : cLantern S x ≠ 0) (hE : E = exIS (cLantern S x)) : Tx l cy D ad yX4_lantern cX4_lantern 3 (some .int) 7 [.ref (ad 0 0 0), .int (i32 x)] (setc M 0 S) E := by
  refine Tx.mk (lv := [some _, some _, none]) 1 hl9 (by decide) rfl (Nat.le_of_ble_eq_true rfl) (fun p e s m below meth c F G htb => ?_)
  have ic := hI.pc
  refine r_iload_n (i := 1) F dX4_lantern_0 rfl rfl ?_
  by_cases q1 : 0 ≤ x ∧ x ≤ 15
  rotate_left
  · have e9 : cLantern S x = 1 := by unfold cLantern; rw [if_pos (by omega)]
    obtain rfl : E = eI := hE.trans (by rw [e9] <;> rfl)
    exact r_tcallS F G htb (T_X4_requirePlace hl9 (by assumption) q1 rfl) dX4_lantern_1 lks_X4_19 rfl rfl cd_X4_requirePlace (by decide) ⟨Nat.le_refl _, Nat.le_refl _⟩ (Nat.le_of_ble_eq_true rfl)
  refine r_callS F (C_X4_requirePlace (by assumption) ⟨by omega, by omega⟩) dX4_lantern_1 lks_X4_19 rfl rfl cd_X4_requirePlace (by decide) ⟨Nat.zero_le _, Nat.zero_le _⟩ (Nat.le_of_ble_eq_true rfl) ?_
  refine r_aload_n (i := 0) F dX4_lantern_4 rfl rfl ?_
  refine gf_X4_10 F dX4_lantern_5 ?_
  refine gf_X4_54 F dX4_lantern_8 (by decide) ?_
  refine r_iconst F dX4_lantern_11 ?_
  refine r_icmp_lt (tgt := 25) F dX4_lantern_12 (by decide) (by first | assumption | exact ir_of (by omega) (by omega)) (by first | assumption | exact ir_of (by omega) (by omega)) (fun h12 => ?_) (fun h12 => ?_)
  · refine r_aload_n (i := 0) F dX4_lantern_25 rfl rfl ?_
    refine gf_X4_10 F dX4_lantern_26 ?_
    refine r_iload_n (i := 1) F dX4_lantern_29 rfl rfl ?_
    refine r_callV F (C_X1_hasLanternAt (by decide) hI ⟨by omega, by omega⟩) dX4_lantern_30 lkv_X4_60 rfl rfl (dm1 ⟨by decide, by decide⟩ (by decide)) rfl rfl cd_X1_hasLanternAt (by decide) ⟨Nat.zero_le _, Nat.zero_le _⟩ (Nat.le_of_ble_eq_true rfl) ?_
    refine r_bz_eq (tgt := 46) F dX4_lantern_33 (by decide) (fun h33 => ?_) (fun h33 => ?_)
    · exact absurd (by unfold cLantern; rw [if_neg (by omega), if_neg (by omega), h33] <;> rfl) h0
    · have e9 : cLantern S x = 2 := by unfold cLantern; first | (rw [if_neg (by omega), if_pos (by omega)]; done) | (rw [if_neg (by omega), if_neg (by omega), h33] <;> rfl)
      obtain rfl : E = eS := hE.trans (by rw [e9] <;> rfl)
      exact r_throw F G htb tf_eS tk_X4_34 ti_eS ts_64 at_S dX4_lantern_36 dX4_lantern_39 dX4_lantern_40 dX4_lantern_42 dX4_lantern_45 (by decide)
  · have e9 : cLantern S x = 2 := by unfold cLantern; first | (rw [if_neg (by omega), if_pos (by omega)]; done) | (rw [if_neg (by omega), if_neg (by omega), h33] <;> rfl)
    obtain rfl : E = eS := hE.trans (by rw [e9] <;> rfl)
    exact r_throw F G htb tf_eS tk_X4_34 ti_eS ts_58 at_S dX4_lantern_15 dX4_lantern_18 dX4_lantern_19 dX4_lantern_21 dX4_lantern_24 (by decide)
set_option maxHeartbeats 4000000 in
set_option maxRecDepth 100000 in
theorem T_X4_setShow {l : Launch} {cy : Nat → ClassId} {D : va_G} {ad : Nat → Nat → Int → Nat} {M : Mem} {S : St} {E : String} {x w q : Int} (hl9 : l.stackTraces = false) (hI : Inv S) (hx9 : ir x) (hw9 : ir w) (hq9 : ir q) (h0 : cSetShow S x w q ≠ 0) (hE : E = exIA (cSetShow S x w q)) : Tx l cy D ad yX4_setShow cX4_setShow 6 (some .int) 7 [.ref (ad 0 0 0), .int (i32 x), .int (i32 w), .int (i32 q)] (setc M 0 S) E := by
  refine Tx.mk (lv := [some _, some _, some _, some _, none, none]) 2 hl9 (by decide) rfl (Nat.le_of_ble_eq_true rfl) (fun p e s m below meth c F G htb => ?_)
  have ic := hI.pc
  refine r_aload_n (i := 0) F dX4_setShow_0 rfl rfl ?_
  refine r_iload_n (i := 1) F dX4_setShow_1 rfl rfl ?_
  by_cases q2 : 0 ≤ x ∧ x ≤ S 20 1 - 1
  rotate_left
  · have e9 : cSetShow S x w q = 1 := by unfold cSetShow; (repeat' split) <;> omega
    obtain rfl : E = eI := hE.trans (by rw [e9] <;> rfl)
    exact r_tcallV F G htb (T_X4_requireLantern hl9 (by assumption) hI q2 rfl) dX4_setShow_2 lkv_X4_75 rfl rfl rfl rfl rfl cd_X4_requireLantern (by decide) ⟨Nat.le_refl _, Nat.le_refl _⟩ (Nat.le_of_ble_eq_true rfl)
  refine r_callV F (C_X4_requireLantern (by assumption) hI ⟨by omega, by omega⟩) dX4_setShow_2 lkv_X4_75 rfl rfl rfl rfl rfl cd_X4_requireLantern (by decide) ⟨Nat.zero_le _, Nat.zero_le _⟩ (Nat.le_of_ble_eq_true rfl) ?_
  refine r_iload_n (i := 2) F dX4_setShow_5 rfl rfl ?_
  refine r_if_lt (tgt := 15) F dX4_setShow_6 (by decide) (by first | assumption | exact ir_of (by omega) (by omega)) (fun h6 => ?_) (fun h6 => ?_)
  · have e9 : cSetShow S x w q = 1 := by unfold cSetShow; (repeat' split) <;> omega
    obtain rfl : E = eI := hE.trans (by rw [e9] <;> rfl)
    exact r_throw F G htb tf_eI tk_X4_78 ti_eI ts_80 at_I dX4_setShow_15 dX4_setShow_18 dX4_setShow_19 dX4_setShow_21 dX4_setShow_24 (by decide)
  · refine r_iload_n (i := 2) F dX4_setShow_9 rfl rfl ?_
    refine r_bipush F dX4_setShow_10 (by decide) ?_
    refine r_icmp_lt (tgt := 25) F dX4_setShow_12 (by decide) (by first | assumption | exact ir_of (by omega) (by omega)) (by first | assumption | exact ir_of (by omega) (by omega)) (fun h12 => ?_) (fun h12 => ?_)
    · refine r_iload_n (i := 3) F dX4_setShow_25 rfl rfl ?_
      refine r_if_lt (tgt := 35) F dX4_setShow_26 (by decide) (by first | assumption | exact ir_of (by omega) (by omega)) (fun h26 => ?_) (fun h26 => ?_)
      · have e9 : cSetShow S x w q = 2 := by unfold cSetShow; (repeat' split) <;> omega
        obtain rfl : E = eA := hE.trans (by rw [e9] <;> rfl)
        exact r_throw F G htb tf_eA tk_X4_23 ti_eA ts_83 at_A dX4_setShow_35 dX4_setShow_38 dX4_setShow_39 dX4_setShow_41 dX4_setShow_44 (by decide)
      · refine r_iload_n (i := 3) F dX4_setShow_29 rfl rfl ?_
        refine r_bipush F dX4_setShow_30 (by decide) ?_
        refine r_icmp_le (tgt := 45) F dX4_setShow_32 (by decide) (by first | assumption | exact ir_of (by omega) (by omega)) (by first | assumption | exact ir_of (by omega) (by omega)) (fun h32 => ?_) (fun h32 => ?_)
        · exact absurd (by unfold cSetShow; (repeat' split) <;> omega) h0
        · have e9 : cSetShow S x w q = 2 := by unfold cSetShow; (repeat' split) <;> omega
          obtain rfl : E = eA := hE.trans (by rw [e9] <;> rfl)
          exact r_throw F G htb tf_eA tk_X4_23 ti_eA ts_83 at_A dX4_setShow_35 dX4_setShow_38 dX4_setShow_39 dX4_setShow_41 dX4_setShow_44 (by decide)
    · have e9 : cSetShow S x w q = 1 := by unfold cSetShow; (repeat' split) <;> omega
      obtain rfl : E = eI := hE.trans (by rw [e9] <;> rfl)
      exact r_throw F G htb tf_eI tk_X4_78 ti_eI ts_80 at_I dX4_setShow_15 dX4_setShow_18 dX4_setShow_19 dX4_setShow_21 dX4_setShow_24 (by decide)
set_option maxHeartbeats 4000000 in
set_option maxRecDepth 100000 in
theorem T_X4_watchman {l : Launch} {cy : Nat → ClassId} {D : va_G} {ad : Nat → Nat → Int → Nat} {M : Mem} {S : St} {E : String} {f t g : Int} (hl9 : l.stackTraces = false) (hI : Inv S) (hf9 : ir f) (ht9 : ir t) (hg9 : ir g) (h0 : cWatch S f t g ≠ 0) (hE : E = exIAS (cWatch S f t g)) : Tx l cy D ad yX4_watchman cX4_watchman 5 (some .int) 7 [.ref (ad 0 0 0), .int (i32 f), .int (i32 t), .int (i32 g)] (setc M 0 S) E := by
  refine Tx.mk (lv := [some _, some _, some _, some _, none]) 1 hl9 (by decide) rfl (Nat.le_of_ble_eq_true rfl) (fun p e s m below meth c F G htb => ?_)
  have ic := hI.pc
  refine r_iload_n (i := 1) F dX4_watchman_0 rfl rfl ?_
  by_cases q1 : 0 ≤ f ∧ f ≤ 15
  rotate_left
  · have e9 : cWatch S f t g = 1 := by unfold cWatch; (repeat' split) <;> omega
    obtain rfl : E = eI := hE.trans (by rw [e9] <;> rfl)
    exact r_tcallS F G htb (T_X4_requirePlace hl9 (by assumption) q1 rfl) dX4_watchman_1 lks_X4_19 rfl rfl cd_X4_requirePlace (by decide) ⟨Nat.le_refl _, Nat.le_refl _⟩ (Nat.le_of_ble_eq_true rfl)
  refine r_callS F (C_X4_requirePlace (by assumption) ⟨by omega, by omega⟩) dX4_watchman_1 lks_X4_19 rfl rfl cd_X4_requirePlace (by decide) ⟨Nat.zero_le _, Nat.zero_le _⟩ (Nat.le_of_ble_eq_true rfl) ?_
  refine r_iload_n (i := 2) F dX4_watchman_4 rfl rfl ?_
  by_cases q5 : 0 ≤ t ∧ t ≤ 15
  rotate_left
  · have e9 : cWatch S f t g = 1 := by unfold cWatch; (repeat' split) <;> omega
    obtain rfl : E = eI := hE.trans (by rw [e9] <;> rfl)
    exact r_tcallS F G htb (T_X4_requirePlace hl9 (by assumption) q5 rfl) dX4_watchman_5 lks_X4_19 rfl rfl cd_X4_requirePlace (by decide) ⟨Nat.le_refl _, Nat.le_refl _⟩ (Nat.le_of_ble_eq_true rfl)
  refine r_callS F (C_X4_requirePlace (by assumption) ⟨by omega, by omega⟩) dX4_watchman_5 lks_X4_19 rfl rfl cd_X4_requirePlace (by decide) ⟨Nat.zero_le _, Nat.zero_le _⟩ (Nat.le_of_ble_eq_true rfl) ?_
  refine r_iload_n (i := 1) F dX4_watchman_8 rfl rfl ?_
  refine r_iload_n (i := 2) F dX4_watchman_9 rfl rfl ?_
  refine r_icmp_le (tgt := 23) F dX4_watchman_10 (by decide) (by first | assumption | exact ir_of (by omega) (by omega)) (by first | assumption | exact ir_of (by omega) (by omega)) (fun h10 => ?_) (fun h10 => ?_)
  · refine r_iload_n (i := 3) F dX4_watchman_23 rfl rfl ?_
    refine r_if_lt (tgt := 32) F dX4_watchman_24 (by decide) (by first | assumption | exact ir_of (by omega) (by omega)) (fun h24 => ?_) (fun h24 => ?_)
    · have e9 : cWatch S f t g = 2 := by unfold cWatch; (repeat' split) <;> omega
      obtain rfl : E = eA := hE.trans (by rw [e9] <;> rfl)
      exact r_throw F G htb tf_eA tk_X4_23 ti_eA ts_90 at_A dX4_watchman_32 dX4_watchman_35 dX4_watchman_36 dX4_watchman_38 dX4_watchman_41 (by decide)
    · refine r_iload_n (i := 3) F dX4_watchman_27 rfl rfl ?_
      refine r_iconst F dX4_watchman_28 ?_
      refine r_icmp_le (tgt := 42) F dX4_watchman_29 (by decide) (by first | assumption | exact ir_of (by omega) (by omega)) (by first | assumption | exact ir_of (by omega) (by omega)) (fun h29 => ?_) (fun h29 => ?_)
      · refine r_aload_n (i := 0) F dX4_watchman_42 rfl rfl ?_
        refine gf_X4_10 F dX4_watchman_43 ?_
        refine gf_X4_92 F dX4_watchman_46 (by decide) ?_
        refine r_iconst F dX4_watchman_49 ?_
        refine r_icmp_lt (tgt := 63) F dX4_watchman_50 (by decide) (by first | assumption | exact ir_of (by omega) (by omega)) (by first | assumption | exact ir_of (by omega) (by omega)) (fun h50 => ?_) (fun h50 => ?_)
        · exact absurd (by unfold cWatch; (repeat' split) <;> omega) h0
        · have e9 : cWatch S f t g = 3 := by unfold cWatch; (repeat' split) <;> omega
          obtain rfl : E = eS := hE.trans (by rw [e9] <;> rfl)
          exact r_throw F G htb tf_eS tk_X4_34 ti_eS ts_95 at_S dX4_watchman_53 dX4_watchman_56 dX4_watchman_57 dX4_watchman_59 dX4_watchman_62 (by decide)
      · have e9 : cWatch S f t g = 2 := by unfold cWatch; (repeat' split) <;> omega
        obtain rfl : E = eA := hE.trans (by rw [e9] <;> rfl)
        exact r_throw F G htb tf_eA tk_X4_23 ti_eA ts_90 at_A dX4_watchman_32 dX4_watchman_35 dX4_watchman_36 dX4_watchman_38 dX4_watchman_41 (by decide)
  · have e9 : cWatch S f t g = 2 := by unfold cWatch; (repeat' split) <;> omega
    obtain rfl : E = eA := hE.trans (by rw [e9] <;> rfl)
    exact r_throw F G htb tf_eA tk_X4_23 ti_eA ts_88 at_A dX4_watchman_13 dX4_watchman_16 dX4_watchman_17 dX4_watchman_19 dX4_watchman_22 (by decide)
set_option maxHeartbeats 4000000 in
set_option maxRecDepth 100000 in
theorem T_X4_boat {l : Launch} {cy : Nat → ClassId} {D : va_G} {ad : Nat → Nat → Int → Nat} {M : Mem} {S : St} {E : String} {x q : Int} (hl9 : l.stackTraces = false) (hI : Inv S) (hx9 : ir x) (hq9 : ir q) (h0 : cBoat S x q ≠ 0) (hE : E = exIAS (cBoat S x q)) : Tx l cy D ad yX4_boat cX4_boat 4 (some .int) 7 [.ref (ad 0 0 0), .int (i32 x), .int (i32 q)] (setc M 0 S) E := by
  refine Tx.mk (lv := [some _, some _, some _, none]) 1 hl9 (by decide) rfl (Nat.le_of_ble_eq_true rfl) (fun p e s m below meth c F G htb => ?_)
  have ic := hI.pc
  refine r_iload_n (i := 1) F dX4_boat_0 rfl rfl ?_
  by_cases q1 : 0 ≤ x ∧ x ≤ 15
  rotate_left
  · have e9 : cBoat S x q = 1 := by unfold cBoat; (repeat' split) <;> omega
    obtain rfl : E = eI := hE.trans (by rw [e9] <;> rfl)
    exact r_tcallS F G htb (T_X4_requirePlace hl9 (by assumption) q1 rfl) dX4_boat_1 lks_X4_19 rfl rfl cd_X4_requirePlace (by decide) ⟨Nat.le_refl _, Nat.le_refl _⟩ (Nat.le_of_ble_eq_true rfl)
  refine r_callS F (C_X4_requirePlace (by assumption) ⟨by omega, by omega⟩) dX4_boat_1 lks_X4_19 rfl rfl cd_X4_requirePlace (by decide) ⟨Nat.zero_le _, Nat.zero_le _⟩ (Nat.le_of_ble_eq_true rfl) ?_
  refine r_iload_n (i := 2) F dX4_boat_4 rfl rfl ?_
  refine r_iconst F dX4_boat_5 ?_
  refine r_icmp_lt (tgt := 15) F dX4_boat_6 (by decide) (by first | assumption | exact ir_of (by omega) (by omega)) (by first | assumption | exact ir_of (by omega) (by omega)) (fun h6 => ?_) (fun h6 => ?_)
  · have e9 : cBoat S x q = 2 := by unfold cBoat; (repeat' split) <;> omega
    obtain rfl : E = eA := hE.trans (by rw [e9] <;> rfl)
    exact r_throw F G htb tf_eA tk_X4_23 ti_eA ts_107 at_A dX4_boat_15 dX4_boat_18 dX4_boat_19 dX4_boat_21 dX4_boat_24 (by decide)
  · refine r_iload_n (i := 2) F dX4_boat_9 rfl rfl ?_
    refine r_bipush F dX4_boat_10 (by decide) ?_
    refine r_icmp_le (tgt := 25) F dX4_boat_12 (by decide) (by first | assumption | exact ir_of (by omega) (by omega)) (by first | assumption | exact ir_of (by omega) (by omega)) (fun h12 => ?_) (fun h12 => ?_)
    · refine r_aload_n (i := 0) F dX4_boat_25 rfl rfl ?_
      refine gf_X4_10 F dX4_boat_26 ?_
      refine gf_X4_109 F dX4_boat_29 (by decide) ?_
      refine r_bipush F dX4_boat_32 (by decide) ?_
      refine r_icmp_lt (tgt := 47) F dX4_boat_34 (by decide) (by first | assumption | exact ir_of (by omega) (by omega)) (by first | assumption | exact ir_of (by omega) (by omega)) (fun h34 => ?_) (fun h34 => ?_)
      · exact absurd (by unfold cBoat; (repeat' split) <;> omega) h0
      · have e9 : cBoat S x q = 3 := by unfold cBoat; (repeat' split) <;> omega
        obtain rfl : E = eS := hE.trans (by rw [e9] <;> rfl)
        exact r_throw F G htb tf_eS tk_X4_34 ti_eS ts_112 at_S dX4_boat_37 dX4_boat_40 dX4_boat_41 dX4_boat_43 dX4_boat_46 (by decide)
    · have e9 : cBoat S x q = 2 := by unfold cBoat; (repeat' split) <;> omega
      obtain rfl : E = eA := hE.trans (by rw [e9] <;> rfl)
      exact r_throw F G htb tf_eA tk_X4_23 ti_eA ts_107 at_A dX4_boat_15 dX4_boat_18 dX4_boat_19 dX4_boat_21 dX4_boat_24 (by decide)
set_option maxHeartbeats 4000000 in
set_option maxRecDepth 100000 in
theorem T_X4_send {l : Launch} {cy : Nat → ClassId} {D : va_G} {ad : Nat → Nat → Int → Nat} {M : Mem} {S : St} {E : String} {x q : Int} (hl9 : l.stackTraces = false) (hI : Inv S) (hx9 : ir x) (hq9 : ir q) (h0 : cSend S x q ≠ 0) (hE : E = exIS (cSend S x q)) : Tx l cy D ad yX4_send cX4_send 4 (some .int) 7 [.ref (ad 0 0 0), .int (i32 x), .int (i32 q)] (setc M 0 S) E := by
  refine Tx.mk (lv := [some _, some _, some _, none]) 1 hl9 (by decide) rfl (Nat.le_of_ble_eq_true rfl) (fun p e s m below meth c F G htb => ?_)
  have ic := hI.pc
  refine r_aload_n (i := 0) F dX4_send_0 rfl rfl ?_
  refine r_iload_n (i := 1) F dX4_send_1 rfl rfl ?_
  by_cases q2 : 0 ≤ x ∧ x ≤ S 20 3 - 1
  rotate_left
  · have e9 : cSend S x q = 1 := by unfold cSend; (repeat' split) <;> omega
    obtain rfl : E = eI := hE.trans (by rw [e9] <;> rfl)
    exact r_tcallV F G htb (T_X4_requireBoat hl9 (by assumption) hI q2 rfl) dX4_send_2 lkv_X4_123 rfl rfl rfl rfl rfl cd_X4_requireBoat (by decide) ⟨Nat.le_refl _, Nat.le_refl _⟩ (Nat.le_of_ble_eq_true rfl)
  refine r_callV F (C_X4_requireBoat (by assumption) hI ⟨by omega, by omega⟩) dX4_send_2 lkv_X4_123 rfl rfl rfl rfl rfl cd_X4_requireBoat (by decide) ⟨Nat.zero_le _, Nat.zero_le _⟩ (Nat.le_of_ble_eq_true rfl) ?_
  refine r_iload_n (i := 2) F dX4_send_5 rfl rfl ?_
  by_cases q6 : -1 ≤ q ∧ q ≤ 15
  rotate_left
  · have e9 : cSend S x q = 1 := by unfold cSend; (repeat' split) <;> omega
    obtain rfl : E = eI := hE.trans (by rw [e9] <;> rfl)
    exact r_tcallS F G htb (T_X4_requirePlaceOrNone hl9 (by assumption) q6 rfl) dX4_send_6 lks_X4_45 rfl rfl cd_X4_requirePlaceOrNone (by decide) ⟨Nat.le_refl _, Nat.le_refl _⟩ (Nat.le_of_ble_eq_true rfl)
  refine r_callS F (C_X4_requirePlaceOrNone (by assumption) ⟨by omega, by omega⟩) dX4_send_6 lks_X4_45 rfl rfl cd_X4_requirePlaceOrNone (by decide) ⟨Nat.zero_le _, Nat.zero_le _⟩ (Nat.le_of_ble_eq_true rfl) ?_
  refine r_aload_n (i := 0) F dX4_send_9 rfl rfl ?_
  refine r_iload_n (i := 1) F dX4_send_10 rfl rfl ?_
  by_cases q11 : S 18 x = 0
  rotate_left
  · have e9 : cSend S x q = 2 := by unfold cSend; (repeat' split) <;> omega
    obtain rfl : E = eS := hE.trans (by rw [e9] <;> rfl)
    exact r_tcallV F G htb (T_X4_requireAtSea hl9 ⟨by omega, by omega⟩ hI q11 rfl) dX4_send_11 lkv_X4_126 rfl rfl rfl rfl rfl cd_X4_requireAtSea (by decide) ⟨Nat.le_refl _, Nat.le_refl _⟩ (Nat.le_of_ble_eq_true rfl)
  refine r_callV F (C_X4_requireAtSea ⟨by omega, by omega⟩ hI (by omega)) dX4_send_11 lkv_X4_126 rfl rfl rfl rfl rfl cd_X4_requireAtSea (by decide) ⟨Nat.zero_le _, Nat.zero_le _⟩ (Nat.le_of_ble_eq_true rfl) ?_
  exact absurd (by unfold cSend; (repeat' split) <;> omega) h0
set_option maxHeartbeats 4000000 in
set_option maxRecDepth 100000 in
theorem T_X4_carry {l : Launch} {cy : Nat → ClassId} {D : va_G} {ad : Nat → Nat → Int → Nat} {M : Mem} {S : St} {E : String} {x q : Int} (hl9 : l.stackTraces = false) (hI : Inv S) (hx9 : ir x) (hq9 : ir q) (h0 : cCarry S x q ≠ 0) (hE : E = exIAS (cCarry S x q)) : Tx l cy D ad yX4_carry cX4_carry 3 (some .int) 7 [.ref (ad 0 0 0), .int (i32 x), .int (i32 q)] (setc M 0 S) E := by
  refine Tx.mk (lv := [some _, some _, some _]) 0 hl9 (by decide) rfl (Nat.le_of_ble_eq_true rfl) (fun p e s m below meth c F G htb => ?_)
  have ic := hI.pc
  have b1 := hI.p01 x
  refine r_iload_n (i := 1) F dX4_carry_0 rfl rfl ?_
  by_cases q1 : 0 ≤ x ∧ x ≤ 15
  rotate_left
  · have e9 : cCarry S x q = 1 := by unfold cCarry; (repeat' split) <;> omega
    obtain rfl : E = eI := hE.trans (by rw [e9] <;> rfl)
    exact r_tcallS F G htb (T_X4_requirePlace hl9 (by assumption) q1 rfl) dX4_carry_1 lks_X4_19 rfl rfl cd_X4_requirePlace (by decide) ⟨Nat.le_refl _, Nat.le_refl _⟩ (Nat.le_of_ble_eq_true rfl)
  refine r_callS F (C_X4_requirePlace (by assumption) ⟨by omega, by omega⟩) dX4_carry_1 lks_X4_19 rfl rfl cd_X4_requirePlace (by decide) ⟨Nat.zero_le _, Nat.zero_le _⟩ (Nat.le_of_ble_eq_true rfl) ?_
  refine r_iload_n (i := 2) F dX4_carry_4 rfl rfl ?_
  refine r_iconst F dX4_carry_5 ?_
  refine r_icmp_lt (tgt := 15) F dX4_carry_6 (by decide) (by first | assumption | exact ir_of (by omega) (by omega)) (by first | assumption | exact ir_of (by omega) (by omega)) (fun h6 => ?_) (fun h6 => ?_)
  · have e9 : cCarry S x q = 2 := by unfold cCarry; (repeat' split) <;> omega
    obtain rfl : E = eA := hE.trans (by rw [e9] <;> rfl)
    exact r_throw F G htb tf_eA tk_X4_23 ti_eA ts_135 at_A dX4_carry_15 dX4_carry_18 dX4_carry_19 dX4_carry_21 dX4_carry_24 (by decide)
  · refine r_iload_n (i := 2) F dX4_carry_9 rfl rfl ?_
    refine r_bipush F dX4_carry_10 (by decide) ?_
    refine r_icmp_le (tgt := 25) F dX4_carry_12 (by decide) (by first | assumption | exact ir_of (by omega) (by omega)) (by first | assumption | exact ir_of (by omega) (by omega)) (fun h12 => ?_) (fun h12 => ?_)
    · refine r_aload_n (i := 0) F dX4_carry_25 rfl rfl ?_
      refine gf_X4_10 F dX4_carry_26 ?_
      refine gf_X4_30 F dX4_carry_29 (by decide) ?_
      refine r_iload_n (i := 1) F dX4_carry_32 rfl rfl ?_
      refine ia_3 F dX4_carry_33 (by decide) (by omega) (by omega) ?_
      refine r_iload_n (i := 2) F dX4_carry_34 rfl rfl ?_
      refine r_icmp_ge (tgt := 48) F dX4_carry_35 (by decide) (by first | assumption | exact ir_of (by omega) (by omega)) (by first | assumption | exact ir_of (by omega) (by omega)) (fun h35 => ?_) (fun h35 => ?_)
      · exact absurd (by unfold cCarry; (repeat' split) <;> omega) h0
      · have e9 : cCarry S x q = 3 := by unfold cCarry; (repeat' split) <;> omega
        obtain rfl : E = eS := hE.trans (by rw [e9] <;> rfl)
        exact r_throw F G htb tf_eS tk_X4_34 ti_eS ts_137 at_S dX4_carry_38 dX4_carry_41 dX4_carry_42 dX4_carry_44 dX4_carry_47 (by decide)
    · have e9 : cCarry S x q = 2 := by unfold cCarry; (repeat' split) <;> omega
      obtain rfl : E = eA := hE.trans (by rw [e9] <;> rfl)
      exact r_throw F G htb tf_eA tk_X4_23 ti_eA ts_135 at_A dX4_carry_15 dX4_carry_18 dX4_carry_19 dX4_carry_21 dX4_carry_24 (by decide)
set_option maxHeartbeats 4000000 in
set_option maxRecDepth 100000 in
theorem T_X4_told {l : Launch} {cy : Nat → ClassId} {D : va_G} {ad : Nat → Nat → Int → Nat} {M : Mem} {S : St} {E : String} {x w : Int} (hl9 : l.stackTraces = false) (hI : Inv S) (hx9 : ir x) (hw9 : ir w) (h0 : cRng x 0 (S 20 3 - 1) w 0 6 ≠ 0) (hE : E = exI (cRng x 0 (S 20 3 - 1) w 0 6)) : Tx l cy D ad yX4_told cX4_told 3 (some .int) 7 [.ref (ad 0 0 0), .int (i32 x), .int (i32 w)] (setc M 0 S) E := by
  refine Tx.mk (lv := [some _, some _, some _]) 0 hl9 (by decide) rfl (Nat.le_of_ble_eq_true rfl) (fun p e s m below meth c F G htb => ?_)
  have ic := hI.pc
  refine r_aload_n (i := 0) F dX4_told_0 rfl rfl ?_
  refine r_iload_n (i := 1) F dX4_told_1 rfl rfl ?_
  by_cases q2 : 0 ≤ x ∧ x ≤ S 20 3 - 1
  rotate_left
  · have e9 : cRng x 0 (S 20 3 - 1) w 0 6 = 1 := by unfold cRng; (repeat' split) <;> omega
    obtain rfl : E = eI := hE.trans (by rw [e9] <;> rfl)
    exact r_tcallV F G htb (T_X4_requireBoat hl9 (by assumption) hI q2 rfl) dX4_told_2 lkv_X4_123 rfl rfl rfl rfl rfl cd_X4_requireBoat (by decide) ⟨Nat.le_refl _, Nat.le_refl _⟩ (Nat.le_of_ble_eq_true rfl)
  refine r_callV F (C_X4_requireBoat (by assumption) hI ⟨by omega, by omega⟩) dX4_told_2 lkv_X4_123 rfl rfl rfl rfl rfl cd_X4_requireBoat (by decide) ⟨Nat.zero_le _, Nat.zero_le _⟩ (Nat.le_of_ble_eq_true rfl) ?_
  refine r_iload_n (i := 2) F dX4_told_5 rfl rfl ?_
  refine r_iconst F dX4_told_6 ?_
  refine r_bipush F dX4_told_7 (by decide) ?_
  by_cases q9 : 0 ≤ w ∧ w ≤ 6
  rotate_left
  · have e9 : cRng x 0 (S 20 3 - 1) w 0 6 = 1 := by unfold cRng; (repeat' split) <;> omega
    obtain rfl : E = eI := hE.trans (by rw [e9] <;> rfl)
    exact r_tcallS F G htb (T_X4_requireWhat hl9 (by assumption) (ir_of (by omega) (by omega)) (ir_of (by omega) (by omega)) q9 rfl) dX4_told_9 lks_X4_142 rfl rfl cd_X4_requireWhat (by decide) ⟨Nat.le_refl _, Nat.le_refl _⟩ (Nat.le_of_ble_eq_true rfl)
  refine r_callS F (C_X4_requireWhat (by assumption) (ir_of (by omega) (by omega)) (ir_of (by omega) (by omega)) ⟨by omega, by omega⟩) dX4_told_9 lks_X4_142 rfl rfl cd_X4_requireWhat (by decide) ⟨Nat.zero_le _, Nat.zero_le _⟩ (Nat.le_of_ble_eq_true rfl) ?_
  exact absurd (by unfold cRng; (repeat' split) <;> omega) h0
set_option maxHeartbeats 4000000 in
set_option maxRecDepth 100000 in
theorem T_X4_about {l : Launch} {cy : Nat → ClassId} {D : va_G} {ad : Nat → Nat → Int → Nat} {M : Mem} {S : St} {E : String} {x w : Int} (hl9 : l.stackTraces = false) (hI : Inv S) (hx9 : ir x) (hw9 : ir w) (h0 : cRng x 0 (S 20 2 - 1) w 0 4 ≠ 0) (hE : E = exI (cRng x 0 (S 20 2 - 1) w 0 4)) : Tx l cy D ad yX4_about cX4_about 3 (some .int) 7 [.ref (ad 0 0 0), .int (i32 x), .int (i32 w)] (setc M 0 S) E := by
  refine Tx.mk (lv := [some _, some _, some _]) 0 hl9 (by decide) rfl (Nat.le_of_ble_eq_true rfl) (fun p e s m below meth c F G htb => ?_)
  have ic := hI.pc
  refine r_iload_n (i := 1) F dX4_about_0 rfl rfl ?_
  refine r_if_lt (tgt := 15) F dX4_about_1 (by decide) (by first | assumption | exact ir_of (by omega) (by omega)) (fun h1 => ?_) (fun h1 => ?_)
  · have e9 : cRng x 0 (S 20 2 - 1) w 0 4 = 1 := by unfold cRng; (repeat' split) <;> omega
    obtain rfl : E = eI := hE.trans (by rw [e9] <;> rfl)
    exact r_throw F G htb tf_eI tk_X4_78 ti_eI ts_149 at_I dX4_about_15 dX4_about_18 dX4_about_19 dX4_about_21 dX4_about_24 (by decide)
  · refine r_iload_n (i := 1) F dX4_about_4 rfl rfl ?_
    refine r_aload_n (i := 0) F dX4_about_5 rfl rfl ?_
    refine gf_X4_10 F dX4_about_6 ?_
    refine gf_X4_92 F dX4_about_9 (by decide) ?_
    refine r_icmp_lt (tgt := 25) F dX4_about_12 (by decide) (by first | assumption | exact ir_of (by omega) (by omega)) (by first | assumption | exact ir_of (by omega) (by omega)) (fun h12 => ?_) (fun h12 => ?_)
    · refine r_iload_n (i := 2) F dX4_about_25 rfl rfl ?_
      refine r_iconst F dX4_about_26 ?_
      refine r_iconst F dX4_about_27 ?_
      by_cases q28 : 0 ≤ w ∧ w ≤ 4
      rotate_left
      · have e9 : cRng x 0 (S 20 2 - 1) w 0 4 = 1 := by unfold cRng; (repeat' split) <;> omega
        obtain rfl : E = eI := hE.trans (by rw [e9] <;> rfl)
        exact r_tcallS F G htb (T_X4_requireWhat hl9 (by assumption) (ir_of (by omega) (by omega)) (ir_of (by omega) (by omega)) q28 rfl) dX4_about_28 lks_X4_142 rfl rfl cd_X4_requireWhat (by decide) ⟨Nat.le_refl _, Nat.le_refl _⟩ (Nat.le_of_ble_eq_true rfl)
      refine r_callS F (C_X4_requireWhat (by assumption) (ir_of (by omega) (by omega)) (ir_of (by omega) (by omega)) ⟨by omega, by omega⟩) dX4_about_28 lks_X4_142 rfl rfl cd_X4_requireWhat (by decide) ⟨Nat.zero_le _, Nat.zero_le _⟩ (Nat.le_of_ble_eq_true rfl) ?_
      exact absurd (by unfold cRng; (repeat' split) <;> omega) h0
    · have e9 : cRng x 0 (S 20 2 - 1) w 0 4 = 1 := by unfold cRng; (repeat' split) <;> omega
      obtain rfl : E = eI := hE.trans (by rw [e9] <;> rfl)
      exact r_throw F G htb tf_eI tk_X4_78 ti_eI ts_149 at_I dX4_about_15 dX4_about_18 dX4_about_19 dX4_about_21 dX4_about_24 (by decide)
set_option maxHeartbeats 4000000 in
set_option maxRecDepth 100000 in
theorem T_X4_light {l : Launch} {cy : Nat → ClassId} {D : va_G} {ad : Nat → Nat → Int → Nat} {M : Mem} {S : St} {E : String} {x w : Int} (hl9 : l.stackTraces = false) (hI : Inv S) (hx9 : ir x) (hw9 : ir w) (h0 : cRng x 0 (S 20 1 - 1) w 0 3 ≠ 0) (hE : E = exI (cRng x 0 (S 20 1 - 1) w 0 3)) : Tx l cy D ad yX4_light cX4_light 3 (some .int) 7 [.ref (ad 0 0 0), .int (i32 x), .int (i32 w)] (setc M 0 S) E := by
  refine Tx.mk (lv := [some _, some _, some _]) 0 hl9 (by decide) rfl (Nat.le_of_ble_eq_true rfl) (fun p e s m below meth c F G htb => ?_)
  have ic := hI.pc
  refine r_aload_n (i := 0) F dX4_light_0 rfl rfl ?_
  refine r_iload_n (i := 1) F dX4_light_1 rfl rfl ?_
  by_cases q2 : 0 ≤ x ∧ x ≤ S 20 1 - 1
  rotate_left
  · have e9 : cRng x 0 (S 20 1 - 1) w 0 3 = 1 := by unfold cRng; (repeat' split) <;> omega
    obtain rfl : E = eI := hE.trans (by rw [e9] <;> rfl)
    exact r_tcallV F G htb (T_X4_requireLantern hl9 (by assumption) hI q2 rfl) dX4_light_2 lkv_X4_75 rfl rfl rfl rfl rfl cd_X4_requireLantern (by decide) ⟨Nat.le_refl _, Nat.le_refl _⟩ (Nat.le_of_ble_eq_true rfl)
  refine r_callV F (C_X4_requireLantern (by assumption) hI ⟨by omega, by omega⟩) dX4_light_2 lkv_X4_75 rfl rfl rfl rfl rfl cd_X4_requireLantern (by decide) ⟨Nat.zero_le _, Nat.zero_le _⟩ (Nat.le_of_ble_eq_true rfl) ?_
  refine r_iload_n (i := 2) F dX4_light_5 rfl rfl ?_
  refine r_iconst F dX4_light_6 ?_
  refine r_iconst F dX4_light_7 ?_
  by_cases q8 : 0 ≤ w ∧ w ≤ 3
  rotate_left
  · have e9 : cRng x 0 (S 20 1 - 1) w 0 3 = 1 := by unfold cRng; (repeat' split) <;> omega
    obtain rfl : E = eI := hE.trans (by rw [e9] <;> rfl)
    exact r_tcallS F G htb (T_X4_requireWhat hl9 (by assumption) (ir_of (by omega) (by omega)) (ir_of (by omega) (by omega)) q8 rfl) dX4_light_8 lks_X4_142 rfl rfl cd_X4_requireWhat (by decide) ⟨Nat.le_refl _, Nat.le_refl _⟩ (Nat.le_of_ble_eq_true rfl)
  refine r_callS F (C_X4_requireWhat (by assumption) (ir_of (by omega) (by omega)) (ir_of (by omega) (by omega)) ⟨by omega, by omega⟩) dX4_light_8 lks_X4_142 rfl rfl cd_X4_requireWhat (by decide) ⟨Nat.zero_le _, Nat.zero_le _⟩ (Nat.le_of_ble_eq_true rfl) ?_
  exact absurd (by unfold cRng; (repeat' split) <;> omega) h0
set_option maxHeartbeats 4000000 in
set_option maxRecDepth 100000 in
theorem T_X4_code {l : Launch} {cy : Nat → ClassId} {D : va_G} {ad : Nat → Nat → Int → Nat} {M : Mem} {S : St} {E : String} {x w : Int} (hl9 : l.stackTraces = false) (hI : Inv S) (hx9 : ir x) (hw9 : ir w) (h0 : cRng x 1 7 w 0 3 ≠ 0) (hE : E = exI (cRng x 1 7 w 0 3)) : Tx l cy D ad yX4_code cX4_code 3 (some .int) 7 [.ref (ad 0 0 0), .int (i32 x), .int (i32 w)] (setc M 0 S) E := by
  refine Tx.mk (lv := [some _, some _, some _]) 0 hl9 (by decide) rfl (Nat.le_of_ble_eq_true rfl) (fun p e s m below meth c F G htb => ?_)
  have ic := hI.pc
  refine r_iload_n (i := 1) F dX4_code_0 rfl rfl ?_
  by_cases q1 : 1 ≤ x ∧ x ≤ 7
  rotate_left
  · have e9 : cRng x 1 7 w 0 3 = 1 := by unfold cRng; (repeat' split) <;> omega
    obtain rfl : E = eI := hE.trans (by rw [e9] <;> rfl)
    exact r_tcallS F G htb (T_X4_requireCode hl9 (by assumption) q1 rfl) dX4_code_1 lks_X4_42 rfl rfl cd_X4_requireCode (by decide) ⟨Nat.le_refl _, Nat.le_refl _⟩ (Nat.le_of_ble_eq_true rfl)
  refine r_callS F (C_X4_requireCode (by assumption) ⟨by omega, by omega⟩) dX4_code_1 lks_X4_42 rfl rfl cd_X4_requireCode (by decide) ⟨Nat.zero_le _, Nat.zero_le _⟩ (Nat.le_of_ble_eq_true rfl) ?_
  refine r_iload_n (i := 2) F dX4_code_4 rfl rfl ?_
  refine r_iconst F dX4_code_5 ?_
  refine r_iconst F dX4_code_6 ?_
  by_cases q7 : 0 ≤ w ∧ w ≤ 3
  rotate_left
  · have e9 : cRng x 1 7 w 0 3 = 1 := by unfold cRng; (repeat' split) <;> omega
    obtain rfl : E = eI := hE.trans (by rw [e9] <;> rfl)
    exact r_tcallS F G htb (T_X4_requireWhat hl9 (by assumption) (ir_of (by omega) (by omega)) (ir_of (by omega) (by omega)) q7 rfl) dX4_code_7 lks_X4_142 rfl rfl cd_X4_requireWhat (by decide) ⟨Nat.le_refl _, Nat.le_refl _⟩ (Nat.le_of_ble_eq_true rfl)
  refine r_callS F (C_X4_requireWhat (by assumption) (ir_of (by omega) (by omega)) (ir_of (by omega) (by omega)) ⟨by omega, by omega⟩) dX4_code_7 lks_X4_142 rfl rfl cd_X4_requireWhat (by decide) ⟨Nat.zero_le _, Nat.zero_le _⟩ (Nat.le_of_ble_eq_true rfl) ?_
  exact absurd (by unfold cRng; (repeat' split) <;> omega) h0
set_option maxHeartbeats 4000000 in
set_option maxRecDepth 100000 in
theorem T_X4_place {l : Launch} {cy : Nat → ClassId} {D : va_G} {ad : Nat → Nat → Int → Nat} {M : Mem} {S : St} {E : String} {x w : Int} (hl9 : l.stackTraces = false) (hI : Inv S) (hx9 : ir x) (hw9 : ir w) (h0 : cRng x 0 15 w 0 4 ≠ 0) (hE : E = exI (cRng x 0 15 w 0 4)) : Tx l cy D ad yX4_place cX4_place 3 (some .int) 7 [.ref (ad 0 0 0), .int (i32 x), .int (i32 w)] (setc M 0 S) E := by
  refine Tx.mk (lv := [some _, some _, some _]) 0 hl9 (by decide) rfl (Nat.le_of_ble_eq_true rfl) (fun p e s m below meth c F G htb => ?_)
  have ic := hI.pc
  refine r_iload_n (i := 1) F dX4_place_0 rfl rfl ?_
  by_cases q1 : 0 ≤ x ∧ x ≤ 15
  rotate_left
  · have e9 : cRng x 0 15 w 0 4 = 1 := by unfold cRng; (repeat' split) <;> omega
    obtain rfl : E = eI := hE.trans (by rw [e9] <;> rfl)
    exact r_tcallS F G htb (T_X4_requirePlace hl9 (by assumption) q1 rfl) dX4_place_1 lks_X4_19 rfl rfl cd_X4_requirePlace (by decide) ⟨Nat.le_refl _, Nat.le_refl _⟩ (Nat.le_of_ble_eq_true rfl)
  refine r_callS F (C_X4_requirePlace (by assumption) ⟨by omega, by omega⟩) dX4_place_1 lks_X4_19 rfl rfl cd_X4_requirePlace (by decide) ⟨Nat.zero_le _, Nat.zero_le _⟩ (Nat.le_of_ble_eq_true rfl) ?_
  refine r_iload_n (i := 2) F dX4_place_4 rfl rfl ?_
  refine r_iconst F dX4_place_5 ?_
  refine r_iconst F dX4_place_6 ?_
  by_cases q7 : 0 ≤ w ∧ w ≤ 4
  rotate_left
  · have e9 : cRng x 0 15 w 0 4 = 1 := by unfold cRng; (repeat' split) <;> omega
    obtain rfl : E = eI := hE.trans (by rw [e9] <;> rfl)
    exact r_tcallS F G htb (T_X4_requireWhat hl9 (by assumption) (ir_of (by omega) (by omega)) (ir_of (by omega) (by omega)) q7 rfl) dX4_place_7 lks_X4_142 rfl rfl cd_X4_requireWhat (by decide) ⟨Nat.le_refl _, Nat.le_refl _⟩ (Nat.le_of_ble_eq_true rfl)
  refine r_callS F (C_X4_requireWhat (by assumption) (ir_of (by omega) (by omega)) (ir_of (by omega) (by omega)) ⟨by omega, by omega⟩) dX4_place_7 lks_X4_142 rfl rfl cd_X4_requireWhat (by decide) ⟨Nat.zero_le _, Nat.zero_le _⟩ (Nat.le_of_ble_eq_true rfl) ?_
  exact absurd (by unfold cRng; (repeat' split) <;> omega) h0
set_option maxHeartbeats 4000000 in
set_option maxRecDepth 100000 in
theorem T_X4_moon {l : Launch} {cy : Nat → ClassId} {D : va_G} {ad : Nat → Nat → Int → Nat} {M : Mem} {S : St} {E : String} {x : Int} (hl9 : l.stackTraces = false) (hI : Inv S) (hx9 : ir x) (h0 : cRng1 x 0 999 ≠ 0) (hE : E = exA (cRng1 x 0 999)) : Tx l cy D ad yX4_moon cX4_moon 2 (some .int) 7 [.ref (ad 0 0 0), .int (i32 x)] (setc M 0 S) E := by
  refine Tx.mk (lv := [some _, some _]) 0 hl9 (by decide) rfl (Nat.le_of_ble_eq_true rfl) (fun p e s m below meth c F G htb => ?_)
  have ic := hI.pc
  refine r_iload_n (i := 1) F dX4_moon_0 rfl rfl ?_
  refine r_if_lt (tgt := 11) F dX4_moon_1 (by decide) (by first | assumption | exact ir_of (by omega) (by omega)) (fun h1 => ?_) (fun h1 => ?_)
  · have e9 : cRng1 x 0 999 = 1 := by unfold cRng1; (repeat' split) <;> omega
    obtain rfl : E = eA := hE.trans (by rw [e9] <;> rfl)
    exact r_throw F G htb tf_eA tk_X4_23 ti_eA ts_168 at_A dX4_moon_11 dX4_moon_14 dX4_moon_15 dX4_moon_17 dX4_moon_20 (by decide)
  · refine r_iload_n (i := 1) F dX4_moon_4 rfl rfl ?_
    refine r_sipush F dX4_moon_5 (by decide) ?_
    refine r_icmp_le (tgt := 21) F dX4_moon_8 (by decide) (by first | assumption | exact ir_of (by omega) (by omega)) (by first | assumption | exact ir_of (by omega) (by omega)) (fun h8 => ?_) (fun h8 => ?_)
    · exact absurd (by unfold cRng1; (repeat' split) <;> omega) h0
    · have e9 : cRng1 x 0 999 = 1 := by unfold cRng1; (repeat' split) <;> omega
      obtain rfl : E = eA := hE.trans (by rw [e9] <;> rfl)
      exact r_throw F G htb tf_eA tk_X4_23 ti_eA ts_168 at_A dX4_moon_11 dX4_moon_14 dX4_moon_15 dX4_moon_17 dX4_moon_20 (by decide)
set_option maxHeartbeats 4000000 in
set_option maxRecDepth 100000 in
theorem T_X4_count {l : Launch} {cy : Nat → ClassId} {D : va_G} {ad : Nat → Nat → Int → Nat} {M : Mem} {S : St} {E : String} {x : Int} (hl9 : l.stackTraces = false) (hI : Inv S) (hx9 : ir x) (h0 : cRng1 x 0 10 ≠ 0) (hE : E = exI (cRng1 x 0 10)) : Tx l cy D ad yX4_count cX4_count 2 (some .int) 7 [.ref (ad 0 0 0), .int (i32 x)] (setc M 0 S) E := by
  refine Tx.mk (lv := [some _, some _]) 0 hl9 (by decide) rfl (Nat.le_of_ble_eq_true rfl) (fun p e s m below meth c F G htb => ?_)
  have ic := hI.pc
  refine r_iload_n (i := 1) F dX4_count_0 rfl rfl ?_
  refine r_iconst F dX4_count_1 ?_
  refine r_bipush F dX4_count_2 (by decide) ?_
  by_cases q4 : 0 ≤ x ∧ x ≤ 10
  rotate_left
  · have e9 : cRng1 x 0 10 = 1 := by unfold cRng1; (repeat' split) <;> omega
    obtain rfl : E = eI := hE.trans (by rw [e9] <;> rfl)
    exact r_tcallS F G htb (T_X4_requireWhat hl9 (by assumption) (ir_of (by omega) (by omega)) (ir_of (by omega) (by omega)) q4 rfl) dX4_count_4 lks_X4_142 rfl rfl cd_X4_requireWhat (by decide) ⟨Nat.le_refl _, Nat.le_refl _⟩ (Nat.le_of_ble_eq_true rfl)
  refine r_callS F (C_X4_requireWhat (by assumption) (ir_of (by omega) (by omega)) (ir_of (by omega) (by omega)) ⟨by omega, by omega⟩) dX4_count_4 lks_X4_142 rfl rfl cd_X4_requireWhat (by decide) ⟨Nat.zero_le _, Nat.zero_le _⟩ (Nat.le_of_ble_eq_true rfl) ?_
  exact absurd (by unfold cRng1; (repeat' split) <;> omega) h0
set_option maxHeartbeats 4000000 in
set_option maxRecDepth 100000 in
theorem T_X4_pass {l : Launch} {cy : Nat → ClassId} {D : va_G} {ad : Nat → Nat → Int → Nat} {M : Mem} {S : St} {E : String} {x : Int} (hl9 : l.stackTraces = false) (hI : Inv S) (hx9 : ir x) (h0 : cRng1 x 1 60 ≠ 0) (hE : E = exA (cRng1 x 1 60)) : Tx l cy D ad yX4_pass cX4_pass 3 (some .int) 7 [.ref (ad 0 0 0), .int (i32 x)] (setc M 0 S) E := by
  refine Tx.mk (lv := [some _, some _, none]) 1 hl9 (by decide) rfl (Nat.le_of_ble_eq_true rfl) (fun p e s m below meth c F G htb => ?_)
  have ic := hI.pc
  refine r_iload_n (i := 1) F dX4_pass_0 rfl rfl ?_
  by_cases q1 : 1 ≤ x ∧ x ≤ 60
  rotate_left
  · have e9 : cRng1 x 1 60 = 1 := by unfold cRng1; (repeat' split) <;> omega
    obtain rfl : E = eA := hE.trans (by rw [e9] <;> rfl)
    exact r_tcallS F G htb (T_X4_requireHours hl9 (by assumption) q1 rfl) dX4_pass_1 lks_X4_176 rfl rfl cd_X4_requireHours (by decide) ⟨Nat.le_refl _, Nat.le_refl _⟩ (Nat.le_of_ble_eq_true rfl)
  refine r_callS F (C_X4_requireHours (by assumption) ⟨by omega, by omega⟩) dX4_pass_1 lks_X4_176 rfl rfl cd_X4_requireHours (by decide) ⟨Nat.zero_le _, Nat.zero_le _⟩ (Nat.le_of_ble_eq_true rfl) ?_
  exact absurd (by unfold cRng1; (repeat' split) <;> omega) h0
set_option maxHeartbeats 4000000 in
set_option maxRecDepth 100000 in
theorem T_X4_until {l : Launch} {cy : Nat → ClassId} {D : va_G} {ad : Nat → Nat → Int → Nat} {M : Mem} {S : St} {E : String} {x : Int} (hl9 : l.stackTraces = false) (hI : Inv S) (hx9 : ir x) (h0 : cRng1 x 0 (S 20 3 - 1) ≠ 0) (hE : E = exI (cRng1 x 0 (S 20 3 - 1))) : Tx l cy D ad yX4_until cX4_until 4 (some .int) 7 [.ref (ad 0 0 0), .int (i32 x)] (setc M 0 S) E := by
  refine Tx.mk (lv := [some _, some _, none, none]) 2 hl9 (by decide) rfl (Nat.le_of_ble_eq_true rfl) (fun p e s m below meth c F G htb => ?_)
  have ic := hI.pc
  refine r_aload_n (i := 0) F dX4_until_0 rfl rfl ?_
  refine r_iload_n (i := 1) F dX4_until_1 rfl rfl ?_
  by_cases q2 : 0 ≤ x ∧ x ≤ S 20 3 - 1
  rotate_left
  · have e9 : cRng1 x 0 (S 20 3 - 1) = 1 := by unfold cRng1; (repeat' split) <;> omega
    obtain rfl : E = eI := hE.trans (by rw [e9] <;> rfl)
    exact r_tcallV F G htb (T_X4_requireBoat hl9 (by assumption) hI q2 rfl) dX4_until_2 lkv_X4_123 rfl rfl rfl rfl rfl cd_X4_requireBoat (by decide) ⟨Nat.le_refl _, Nat.le_refl _⟩ (Nat.le_of_ble_eq_true rfl)
  refine r_callV F (C_X4_requireBoat (by assumption) hI ⟨by omega, by omega⟩) dX4_until_2 lkv_X4_123 rfl rfl rfl rfl rfl cd_X4_requireBoat (by decide) ⟨Nat.zero_le _, Nat.zero_le _⟩ (Nat.le_of_ble_eq_true rfl) ?_
  exact absurd (by unfold cRng1; (repeat' split) <;> omega) h0
set_option maxHeartbeats 4000000 in
set_option maxRecDepth 100000 in
theorem T_X4_foresee {l : Launch} {cy : Nat → ClassId} {D : va_G} {ad : Nat → Nat → Int → Nat} {M : Mem} {S : St} {E : String} {x w : Int} (hl9 : l.stackTraces = false) (hI : Inv S) (hx9 : ir x) (hw9 : ir w) (h0 : cForesee x w ≠ 0) (hE : E = exAI (cForesee x w)) : Tx l cy D ad yX4_foresee cX4_foresee 3 (some .int) 7 [.ref (ad 0 0 0), .int (i32 x), .int (i32 w)] (setc M 0 S) E := by
  refine Tx.mk (lv := [some _, some _, some _]) 0 hl9 (by decide) rfl (Nat.le_of_ble_eq_true rfl) (fun p e s m below meth c F G htb => ?_)
  have ic := hI.pc
  refine r_iload_n (i := 1) F dX4_foresee_0 rfl rfl ?_
  by_cases q1 : 1 ≤ x ∧ x ≤ 60
  rotate_left
  · have e9 : cForesee x w = 1 := by unfold cForesee; (repeat' split) <;> omega
    obtain rfl : E = eA := hE.trans (by rw [e9] <;> rfl)
    exact r_tcallS F G htb (T_X4_requireHours hl9 (by assumption) q1 rfl) dX4_foresee_1 lks_X4_176 rfl rfl cd_X4_requireHours (by decide) ⟨Nat.le_refl _, Nat.le_refl _⟩ (Nat.le_of_ble_eq_true rfl)
  refine r_callS F (C_X4_requireHours (by assumption) ⟨by omega, by omega⟩) dX4_foresee_1 lks_X4_176 rfl rfl cd_X4_requireHours (by decide) ⟨Nat.zero_le _, Nat.zero_le _⟩ (Nat.le_of_ble_eq_true rfl) ?_
  refine r_iload_n (i := 2) F dX4_foresee_4 rfl rfl ?_
  refine r_iconst F dX4_foresee_5 ?_
  refine r_bipush F dX4_foresee_6 (by decide) ?_
  by_cases q8 : 4 ≤ w ∧ w ≤ 10
  rotate_left
  · have e9 : cForesee x w = 2 := by unfold cForesee; (repeat' split) <;> omega
    obtain rfl : E = eI := hE.trans (by rw [e9] <;> rfl)
    exact r_tcallS F G htb (T_X4_requireWhat hl9 (by assumption) (ir_of (by omega) (by omega)) (ir_of (by omega) (by omega)) q8 rfl) dX4_foresee_8 lks_X4_142 rfl rfl cd_X4_requireWhat (by decide) ⟨Nat.le_refl _, Nat.le_refl _⟩ (Nat.le_of_ble_eq_true rfl)
  refine r_callS F (C_X4_requireWhat (by assumption) (ir_of (by omega) (by omega)) (ir_of (by omega) (by omega)) ⟨by omega, by omega⟩) dX4_foresee_8 lks_X4_142 rfl rfl cd_X4_requireWhat (by decide) ⟨Nat.zero_le _, Nat.zero_le _⟩ (Nat.le_of_ble_eq_true rfl) ?_
  exact absurd (by unfold cForesee; (repeat' split) <;> omega) h0
set_option maxHeartbeats 4000000 in
set_option maxRecDepth 100000 in
theorem T_X4_advise {l : Launch} {cy : Nat → ClassId} {D : va_G} {ad : Nat → Nat → Int → Nat} {M : Mem} {S : St} {E : String} {x : Int} (hl9 : l.stackTraces = false) (hI : Inv S) (hx9 : ir x) (h0 : cAdvise S x ≠ 0) (hE : E = exIS (cAdvise S x)) : Tx l cy D ad yX4_advise cX4_advise 6 (some .int) 7 [.ref (ad 0 0 0), .int (i32 x)] (setc M 0 S) E := by
  refine Tx.mk (lv := [some _, some _, none, none, none, none]) 4 hl9 (by decide) rfl (Nat.le_of_ble_eq_true rfl) (fun p e s m below meth c F G htb => ?_)
  have ic := hI.pc
  refine r_aload_n (i := 0) F dX4_advise_0 rfl rfl ?_
  refine r_iload_n (i := 1) F dX4_advise_1 rfl rfl ?_
  by_cases q2 : 0 ≤ x ∧ x ≤ S 20 3 - 1
  rotate_left
  · have e9 : cAdvise S x = 1 := by unfold cAdvise; (repeat' split) <;> omega
    obtain rfl : E = eI := hE.trans (by rw [e9] <;> rfl)
    exact r_tcallV F G htb (T_X4_requireBoat hl9 (by assumption) hI q2 rfl) dX4_advise_2 lkv_X4_123 rfl rfl rfl rfl rfl cd_X4_requireBoat (by decide) ⟨Nat.le_refl _, Nat.le_refl _⟩ (Nat.le_of_ble_eq_true rfl)
  refine r_callV F (C_X4_requireBoat (by assumption) hI ⟨by omega, by omega⟩) dX4_advise_2 lkv_X4_123 rfl rfl rfl rfl rfl cd_X4_requireBoat (by decide) ⟨Nat.zero_le _, Nat.zero_le _⟩ (Nat.le_of_ble_eq_true rfl) ?_
  refine r_aload_n (i := 0) F dX4_advise_5 rfl rfl ?_
  refine r_iload_n (i := 1) F dX4_advise_6 rfl rfl ?_
  by_cases q7 : S 18 x = 0
  rotate_left
  · have e9 : cAdvise S x = 2 := by unfold cAdvise; (repeat' split) <;> omega
    obtain rfl : E = eS := hE.trans (by rw [e9] <;> rfl)
    exact r_tcallV F G htb (T_X4_requireAtSea hl9 ⟨by omega, by omega⟩ hI q7 rfl) dX4_advise_7 lkv_X4_126 rfl rfl rfl rfl rfl cd_X4_requireAtSea (by decide) ⟨Nat.le_refl _, Nat.le_refl _⟩ (Nat.le_of_ble_eq_true rfl)
  refine r_callV F (C_X4_requireAtSea ⟨by omega, by omega⟩ hI (by omega)) dX4_advise_7 lkv_X4_126 rfl rfl rfl rfl rfl cd_X4_requireAtSea (by decide) ⟨Nat.zero_le _, Nat.zero_le _⟩ (Nat.le_of_ble_eq_true rfl) ?_
  exact absurd (by unfold cAdvise; (repeat' split) <;> omega) h0
set_option maxHeartbeats 4000000 in
set_option maxRecDepth 100000 in
theorem T_X4_quiet {l : Launch} {cy : Nat → ClassId} {D : va_G} {ad : Nat → Nat → Int → Nat} {M : Mem} {S : St} {E : String} {x : Int} (hl9 : l.stackTraces = false) (hI : Inv S) (hx9 : ir x) (h0 : cRng1 x 0 15 ≠ 0) (hE : E = exI (cRng1 x 0 15)) : Tx l cy D ad yX4_quiet cX4_quiet 3 (some .int) 7 [.ref (ad 0 0 0), .int (i32 x)] (setc M 0 S) E := by
  refine Tx.mk (lv := [some _, some _, none]) 1 hl9 (by decide) rfl (Nat.le_of_ble_eq_true rfl) (fun p e s m below meth c F G htb => ?_)
  have ic := hI.pc
  refine r_iload_n (i := 1) F dX4_quiet_0 rfl rfl ?_
  by_cases q1 : 0 ≤ x ∧ x ≤ 15
  rotate_left
  · have e9 : cRng1 x 0 15 = 1 := by unfold cRng1; (repeat' split) <;> omega
    obtain rfl : E = eI := hE.trans (by rw [e9] <;> rfl)
    exact r_tcallS F G htb (T_X4_requirePlace hl9 (by assumption) q1 rfl) dX4_quiet_1 lks_X4_19 rfl rfl cd_X4_requirePlace (by decide) ⟨Nat.le_refl _, Nat.le_refl _⟩ (Nat.le_of_ble_eq_true rfl)
  refine r_callS F (C_X4_requirePlace (by assumption) ⟨by omega, by omega⟩) dX4_quiet_1 lks_X4_19 rfl rfl cd_X4_requirePlace (by decide) ⟨Nat.zero_le _, Nat.zero_le _⟩ (Nat.le_of_ble_eq_true rfl) ?_
  exact absurd (by unfold cRng1; (repeat' split) <;> omega) h0
