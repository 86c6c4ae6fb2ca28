/-! The reference: its calls. -/
set_option maxHeartbeats 4000000 in
set_option maxRecDepth 100000 in
theorem C_X6_thrown {l : Launch} {cy : Nat → ClassId} {D : va_G} {ad : Nat → Nat → Int → Nat} {M : Mem}  : Ct l cy D ad yX6_thrown cX6_thrown 1 (some .int) 0 [.ref (ad 13 0 0)] (M) (some (.int (i32 (M 4 0 0)))) (M) := by
  refine Ct.mk (lv := [some _]) 0 (by decide) rfl (Nat.le_of_ble_eq_true rfl) (fun p e s m below meth c F => ?_)
  refine r_aload_n (i := 0) F dX6_thrown_0 rfl rfl ?_
  refine gf_X6_19 F dX6_thrown_1 ?_
  exact r_iret F dX6_thrown_4 rfl rfl rfl

set_option maxHeartbeats 4000000 in
set_option maxRecDepth 100000 in
theorem C_X6_no {l : Launch} {cy : Nat → ClassId} {D : va_G} {ad : Nat → Nat → Int → Nat} {M : Mem} {S : St} {n : Int}  : Ct l cy D ad yX6_no cX6_no 2 (some .int) 0 [.ref (ad 13 0 0), .int (i32 n)] (setc M 2 S) (some (.int (i32 0))) (setc (thr M n) 2 S) := by
  refine Ct.mk (lv := [some _, some _]) 0 (by decide) rfl (Nat.le_of_ble_eq_true rfl) (fun p e s m below meth c F => ?_)
  refine r_aload_n (i := 0) F dX6_no_0 rfl rfl ?_
  refine r_iload_n (i := 1) F dX6_no_1 rfl rfl ?_
  refine pfT F dX6_no_2 ?_
  refine r_iconst F dX6_no_5 ?_
  exact r_iret F dX6_no_6 rfl rfl rfl

set_option maxHeartbeats 4000000 in
set_option maxRecDepth 100000 in
theorem C_X6_isIn {l : Launch} {cy : Nat → ClassId} {D : va_G} {ad : Nat → Nat → Int → Nat} {M : Mem} {v lo hi : Int} (hv : ir v) (hlo : ir lo) (hhi : ir hi) : Ct l cy D ad yX6_isIn cX6_isIn 3 (some .boolean) 0 [.int (i32 v), .int (i32 lo), .int (i32 hi)] (M) (some (.int (i32 (bi (inn v lo hi))))) (M) := by
  refine Ct.mk (lv := [some _, some _, some _]) 0 (by decide) rfl (Nat.le_of_ble_eq_true rfl) (fun p e s m below meth c F => ?_)
  refine r_iload_n (i := 0) F dX6_isIn_0 rfl rfl ?_
  refine r_iload_n (i := 1) F dX6_isIn_1 rfl rfl ?_
  refine r_icmp_lt (tgt := 14) F dX6_isIn_2 (by decide) (by first | assumption | exact ir_of (by omega) (by omega)) (by first | assumption | exact ir_of (by omega) (by omega)) (fun h2 => ?_) (fun h2 => ?_)
  · refine r_iconst F dX6_isIn_14 ?_
    exact r_zret F dX6_isIn_15 rfl (by unfold inn; first | rw [decide_eq_true (by omega : lo ≤ v), decide_eq_true (by omega : v ≤ hi)] <;> rfl | rw [decide_eq_false (by omega : ¬ v ≤ hi), Bool.and_false] <;> rfl | rw [decide_eq_false (by omega : ¬ lo ≤ v), Bool.false_and] <;> rfl) rfl
  · refine r_iload_n (i := 0) F dX6_isIn_5 rfl rfl ?_
    refine r_iload_n (i := 2) F dX6_isIn_6 rfl rfl ?_
    refine r_icmp_gt (tgt := 14) F dX6_isIn_7 (by decide) (by first | assumption | exact ir_of (by omega) (by omega)) (by first | assumption | exact ir_of (by omega) (by omega)) (fun h7 => ?_) (fun h7 => ?_)
    · refine r_iconst F dX6_isIn_14 ?_
      exact r_zret F dX6_isIn_15 rfl (by unfold inn; first | rw [decide_eq_true (by omega : lo ≤ v), decide_eq_true (by omega : v ≤ hi)] <;> rfl | rw [decide_eq_false (by omega : ¬ v ≤ hi), Bool.and_false] <;> rfl | rw [decide_eq_false (by omega : ¬ lo ≤ v), Bool.false_and] <;> rfl) rfl
    · refine r_iconst F dX6_isIn_10 ?_
      refine r_goto (tgt := 15) F dX6_isIn_11 (by decide) ?_
      exact r_zret F dX6_isIn_15 rfl (by unfold inn; first | rw [decide_eq_true (by omega : lo ≤ v), decide_eq_true (by omega : v ≤ hi)] <;> rfl | rw [decide_eq_false (by omega : ¬ v ≤ hi), Bool.and_false] <;> rfl | rw [decide_eq_false (by omega : ¬ lo ≤ v), Bool.false_and] <;> rfl) rfl

set_option maxHeartbeats 4000000 in
set_option maxRecDepth 100000 in
theorem C_X6_isPlace {l : Launch} {cy : Nat → ClassId} {D : va_G} {ad : Nat → Nat → Int → Nat} {M : Mem} {v : Int} (hv : ir v) : Ct l cy D ad yX6_isPlace cX6_isPlace 1 (some .boolean) 1 [.int (i32 v)] (M) (some (.int (i32 (bi (inn v 0 15))))) (M) := by
  refine Ct.mk (lv := [some _]) 0 (by decide) rfl (Nat.le_of_ble_eq_true rfl) (fun p e s m below meth c F => ?_)
  refine r_iload_n (i := 0) F dX6_isPlace_0 rfl rfl ?_
  refine r_iconst F dX6_isPlace_1 ?_
  refine r_bipush F dX6_isPlace_2 (by decide) ?_
  refine r_callS F (C_X6_isIn (by assumption) (ir_of (by omega) (by omega)) (ir_of (by omega) (by omega))) dX6_isPlace_4 lks_X6_23 rfl rfl cd_X6_isIn (by decide) ⟨Nat.le_refl _, Nat.le_refl _⟩ (Nat.le_of_ble_eq_true rfl) ?_
  exact r_zret F dX6_isPlace_7 rfl rfl rfl

set_option maxHeartbeats 4000000 in
set_option maxRecDepth 100000 in
theorem C_X6_isCode {l : Launch} {cy : Nat → ClassId} {D : va_G} {ad : Nat → Nat → Int → Nat} {M : Mem} {v : Int} (hv : ir v) : Ct l cy D ad yX6_isCode cX6_isCode 1 (some .boolean) 1 [.int (i32 v)] (M) (some (.int (i32 (bi (inn v 1 7))))) (M) := by
  refine Ct.mk (lv := [some _]) 0 (by decide) rfl (Nat.le_of_ble_eq_true rfl) (fun p e s m below meth c F => ?_)
  refine r_iload_n (i := 0) F dX6_isCode_0 rfl rfl ?_
  refine r_iconst F dX6_isCode_1 ?_
  refine r_bipush F dX6_isCode_2 (by decide) ?_
  refine r_callS F (C_X6_isIn (by assumption) (ir_of (by omega) (by omega)) (ir_of (by omega) (by omega))) dX6_isCode_4 lks_X6_23 rfl rfl cd_X6_isIn (by decide) ⟨Nat.le_refl _, Nat.le_refl _⟩ (Nat.le_of_ble_eq_true rfl) ?_
  exact r_zret F dX6_isCode_7 rfl rfl rfl

set_option maxHeartbeats 4000000 in
set_option maxRecDepth 100000 in
theorem C_X6_isLantern {l : Launch} {cy : Nat → ClassId} {D : va_G} {ad : Nat → Nat → Int → Nat} {M : Mem} {S : St} {v : Int} (hv : ir v) (hI : Inv S) : Ct l cy D ad yX6_isLantern cX6_isLantern 2 (some .boolean) 1 [.ref (ad 13 0 0), .int (i32 v)] (setc M 2 S) (some (.int (i32 (bi (inn v 0 (S 20 1 - 1)))))) (setc M 2 S) := by
  refine Ct.mk (lv := [some _, some _]) 0 (by decide) rfl (Nat.le_of_ble_eq_true rfl) (fun p e s m below meth c F => ?_)
  have ic := hI.pc
  refine r_iload_n (i := 1) F dX6_isLantern_0 rfl rfl ?_
  refine r_iconst F dX6_isLantern_1 ?_
  refine r_aload_n (i := 0) F dX6_isLantern_2 rfl rfl ?_
  refine gf_X6_10 F dX6_isLantern_3 ?_
  refine gf_X6_27 F dX6_isLantern_6 ⟨by decide, by decide⟩ ?_
  refine r_iconst F dX6_isLantern_9 ?_
  refine r_isub F dX6_isLantern_10 ?_
  refine r_callS F (C_X6_isIn (by assumption) (ir_of (by omega) (by omega)) (ir_of (by omega) (by omega))) dX6_isLantern_11 lks_X6_23 rfl rfl cd_X6_isIn (by decide) ⟨Nat.le_refl _, Nat.le_refl _⟩ (Nat.le_of_ble_eq_true rfl) ?_
  exact r_zret F dX6_isLantern_14 rfl rfl rfl

set_option maxHeartbeats 4000000 in
set_option maxRecDepth 100000 in
theorem C_X6_isWatchman {l : Launch} {cy : Nat → ClassId} {D : va_G} {ad : Nat → Nat → Int → Nat} {M : Mem} {S : St} {v : Int} (hv : ir v) (hI : Inv S) : Ct l cy D ad yX6_isWatchman cX6_isWatchman 2 (some .boolean) 1 [.ref (ad 13 0 0), .int (i32 v)] (setc M 2 S) (some (.int (i32 (bi (inn v 0 (S 20 2 - 1)))))) (setc M 2 S) := by
  refine Ct.mk (lv := [some _, some _]) 0 (by decide) rfl (Nat.le_of_ble_eq_true rfl) (fun p e s m below meth c F => ?_)
  have ic := hI.pc
  refine r_iload_n (i := 1) F dX6_isWatchman_0 rfl rfl ?_
  refine r_iconst F dX6_isWatchman_1 ?_
  refine r_aload_n (i := 0) F dX6_isWatchman_2 rfl rfl ?_
  refine gf_X6_10 F dX6_isWatchman_3 ?_
  refine gf_X6_30 F dX6_isWatchman_6 ⟨by decide, by decide⟩ ?_
  refine r_iconst F dX6_isWatchman_9 ?_
  refine r_isub F dX6_isWatchman_10 ?_
  refine r_callS F (C_X6_isIn (by assumption) (ir_of (by omega) (by omega)) (ir_of (by omega) (by omega))) dX6_isWatchman_11 lks_X6_23 rfl rfl cd_X6_isIn (by decide) ⟨Nat.le_refl _, Nat.le_refl _⟩ (Nat.le_of_ble_eq_true rfl) ?_
  exact r_zret F dX6_isWatchman_14 rfl rfl rfl

set_option maxHeartbeats 4000000 in
set_option maxRecDepth 100000 in
theorem C_X6_isBoat {l : Launch} {cy : Nat → ClassId} {D : va_G} {ad : Nat → Nat → Int → Nat} {M : Mem} {S : St} {v : Int} (hv : ir v) (hI : Inv S) : Ct l cy D ad yX6_isBoat cX6_isBoat 2 (some .boolean) 1 [.ref (ad 13 0 0), .int (i32 v)] (setc M 2 S) (some (.int (i32 (bi (inn v 0 (S 20 3 - 1)))))) (setc M 2 S) := by
  refine Ct.mk (lv := [some _, some _]) 0 (by decide) rfl (Nat.le_of_ble_eq_true rfl) (fun p e s m below meth c F => ?_)
  have ic := hI.pc
  refine r_iload_n (i := 1) F dX6_isBoat_0 rfl rfl ?_
  refine r_iconst F dX6_isBoat_1 ?_
  refine r_aload_n (i := 0) F dX6_isBoat_2 rfl rfl ?_
  refine gf_X6_10 F dX6_isBoat_3 ?_
  refine gf_X6_33 F dX6_isBoat_6 ⟨by decide, by decide⟩ ?_
  refine r_iconst F dX6_isBoat_9 ?_
  refine r_isub F dX6_isBoat_10 ?_
  refine r_callS F (C_X6_isIn (by assumption) (ir_of (by omega) (by omega)) (ir_of (by omega) (by omega))) dX6_isBoat_11 lks_X6_23 rfl rfl cd_X6_isIn (by decide) ⟨Nat.le_refl _, Nat.le_refl _⟩ (Nat.le_of_ble_eq_true rfl) ?_
  exact r_zret F dX6_isBoat_14 rfl rfl rfl

set_option maxHeartbeats 4000000 in
set_option maxRecDepth 100000 in
theorem C_X6_setRoom {l : Launch} {cy : Nat → ClassId} {D : va_G} {ad : Nat → Nat → Int → Nat} {M : Mem} {S : St} {x q : Int} (hI : Inv S) (hx9 : ir x) (hq9 : ir q) : Ct l cy D ad yX6_setRoom cX6_setRoom 4 (some .int) 2 [.ref (ad 13 0 0), .int (i32 x), .int (i32 q)] (setc M 2 S) (some (.int (i32 (if cSetRoom S x q = 0 then S 0 x else 0)))) (setc (thr M (cSetRoom S x q)) 2 (if cSetRoom S x q = 0 then u2 S 0 x q else S)) := by
  refine Ct.mk (lv := [some _, some _, some _, none]) 1 (by decide) rfl (Nat.le_of_ble_eq_true rfl) (fun p e s m below meth c F => ?_)
  have ic := hI.pc
  have b1 := hI.p01 x
  refine r_aload_n (i := 0) F dX6_setRoom_0 rfl rfl ?_
  refine r_iconst F dX6_setRoom_1 ?_
  refine pfT F dX6_setRoom_2 ?_
  refine r_iload_n (i := 1) F dX6_setRoom_5 rfl rfl ?_
  refine r_callS F (C_X6_isPlace (by assumption)) dX6_setRoom_6 lks_X6_36 rfl rfl cd_X6_isPlace (by decide) ⟨Nat.le_refl _, Nat.le_refl _⟩ (Nat.le_of_ble_eq_true rfl) ?_
  refine r_iz_ne (tgt := 18) F dX6_setRoom_9 (by decide) (fun h9 => ?_) (fun h9 => ?_)
  · refine r_iload_n (i := 2) F dX6_setRoom_18 rfl rfl ?_
    refine r_iconst F dX6_setRoom_19 ?_
    refine r_bipush F dX6_setRoom_20 (by decide) ?_
    refine r_callS F (C_X6_isIn (by assumption) (ir_of (by omega) (by omega)) (ir_of (by omega) (by omega))) dX6_setRoom_22 lks_X6_23 rfl rfl cd_X6_isIn (by decide) ⟨Nat.le_refl _, Nat.le_refl _⟩ (Nat.le_of_ble_eq_true rfl) ?_
    refine r_iz_ne (tgt := 34) F dX6_setRoom_25 (by decide) (fun h25 => ?_) (fun h25 => ?_)
    · refine r_aload_n (i := 0) F dX6_setRoom_34 rfl rfl ?_
      refine gf_X6_10 F dX6_setRoom_35 ?_
      refine gf_X6_44 F dX6_setRoom_38 ⟨by decide, by decide⟩ ?_
      refine r_iload_n (i := 1) F dX6_setRoom_41 rfl rfl ?_
      refine ia_16 F dX6_setRoom_42 ⟨by decide, by decide⟩ (by omega) (by omega) ?_
      refine r_iload_n (i := 2) F dX6_setRoom_43 rfl rfl ?_
      refine r_icmp_le (tgt := 53) F dX6_setRoom_44 (by decide) (by first | assumption | exact ir_of (by omega) (by omega)) (by first | assumption | exact ir_of (by omega) (by omega)) (fun h44 => ?_) (fun h44 => ?_)
      · refine r_aload_n (i := 0) F dX6_setRoom_53 rfl rfl ?_
        refine gf_X6_10 F dX6_setRoom_54 ?_
        refine gf_X6_48 F dX6_setRoom_57 ⟨by decide, by decide⟩ ?_
        refine r_iload_n (i := 1) F dX6_setRoom_60 rfl rfl ?_
        refine ia_15 F dX6_setRoom_61 ⟨by decide, by decide⟩ (by omega) (by omega) ?_
        refine r_istore_n (i := 3) (lv1 := [_, _, _, _]) F dX6_setRoom_62 rfl (by decide) rfl rfl ?_
        refine r_aload_n (i := 0) F dX6_setRoom_63 rfl rfl ?_
        refine gf_X6_10 F dX6_setRoom_64 ?_
        refine gf_X6_48 F dX6_setRoom_67 ⟨by decide, by decide⟩ ?_
        refine r_iload_n (i := 1) F dX6_setRoom_70 rfl rfl ?_
        refine r_iload_n (i := 2) F dX6_setRoom_71 rfl rfl ?_
        refine is_15 F dX6_setRoom_72 ⟨by decide, by decide⟩ (by omega) (by omega) ?_
        refine r_iload_n (i := 3) F dX6_setRoom_73 rfl rfl ?_
        have e9 : cSetRoom S x q = 0 := by unfold cSetRoom; (repeat' split) <;> omega
        exact r_iret F dX6_setRoom_74 rfl (by rw [e9] <;> rfl) (by rw [e9] <;> rfl)
      · refine r_aload_n (i := 0) F dX6_setRoom_47 rfl rfl ?_
        refine r_iconst F dX6_setRoom_48 ?_
        refine r_callV F C_X6_no dX6_setRoom_49 lkv_X6_40 rfl rfl rfl rfl rfl cd_X6_no (by decide) ⟨Nat.le_refl _, Nat.le_refl _⟩ (Nat.le_of_ble_eq_true rfl) ?_
        rw [thr_thr]
        have e9 : cSetRoom S x q = 3 := by unfold cSetRoom; (repeat' split) <;> omega
        exact r_iret F dX6_setRoom_52 rfl (by rw [e9] <;> rfl) (by rw [e9] <;> rfl)
    · refine r_aload_n (i := 0) F dX6_setRoom_28 rfl rfl ?_
      refine r_iconst F dX6_setRoom_29 ?_
      refine r_callV F C_X6_no dX6_setRoom_30 lkv_X6_40 rfl rfl rfl rfl rfl cd_X6_no (by decide) ⟨Nat.le_refl _, Nat.le_refl _⟩ (Nat.le_of_ble_eq_true rfl) ?_
      rw [thr_thr]
      have e9 : cSetRoom S x q = 2 := by unfold cSetRoom; (repeat' split) <;> omega
      exact r_iret F dX6_setRoom_33 rfl (by rw [e9] <;> rfl) (by rw [e9] <;> rfl)
  · refine r_aload_n (i := 0) F dX6_setRoom_12 rfl rfl ?_
    refine r_iconst F dX6_setRoom_13 ?_
    refine r_callV F C_X6_no dX6_setRoom_14 lkv_X6_40 rfl rfl rfl rfl rfl cd_X6_no (by decide) ⟨Nat.le_refl _, Nat.le_refl _⟩ (Nat.le_of_ble_eq_true rfl) ?_
    rw [thr_thr]
    have e9 : cSetRoom S x q = 1 := by unfold cSetRoom; (repeat' split) <;> omega
    exact r_iret F dX6_setRoom_17 rfl (by rw [e9] <;> rfl) (by rw [e9] <;> rfl)

set_option maxHeartbeats 4000000 in
set_option maxRecDepth 100000 in
theorem C_X6_setCode {l : Launch} {cy : Nat → ClassId} {D : va_G} {ad : Nat → Nat → Int → Nat} {M : Mem} {S : St} {x q : Int} (hI : Inv S) (hx9 : ir x) (hq9 : ir q) : Ct l cy D ad yX6_setCode cX6_setCode 4 (some .int) 2 [.ref (ad 13 0 0), .int (i32 x), .int (i32 q)] (setc M 2 S) (some (.int (i32 (if cSetCode x q = 0 then S 2 x else 0)))) (setc (thr M (cSetCode x q)) 2 (if cSetCode x q = 0 then u2 (u2 S 2 x q) 3 x 0 else S)) := by
  refine Ct.mk (lv := [some _, some _, some _, none]) 1 (by decide) rfl (Nat.le_of_ble_eq_true rfl) (fun p e s m below meth c F => ?_)
  have ic := hI.pc
  refine r_aload_n (i := 0) F dX6_setCode_0 rfl rfl ?_
  refine r_iconst F dX6_setCode_1 ?_
  refine pfT F dX6_setCode_2 ?_
  refine r_iload_n (i := 1) F dX6_setCode_5 rfl rfl ?_
  refine r_callS F (C_X6_isCode (by assumption)) dX6_setCode_6 lks_X6_51 rfl rfl cd_X6_isCode (by decide) ⟨Nat.le_refl _, Nat.le_refl _⟩ (Nat.le_of_ble_eq_true rfl) ?_
  refine r_iz_eq (tgt := 22) F dX6_setCode_9 (by decide) (fun h9 => ?_) (fun h9 => ?_)
  · refine r_aload_n (i := 0) F dX6_setCode_22 rfl rfl ?_
    refine r_iconst F dX6_setCode_23 ?_
    refine r_callV F C_X6_no dX6_setCode_24 lkv_X6_40 rfl rfl rfl rfl rfl cd_X6_no (by decide) ⟨Nat.le_refl _, Nat.le_refl _⟩ (Nat.le_of_ble_eq_true rfl) ?_
    rw [thr_thr]
    have e9 : cSetCode x q = 1 := by unfold cSetCode; (repeat' split) <;> omega
    exact r_iret F dX6_setCode_27 rfl (by rw [e9] <;> rfl) (by rw [e9] <;> rfl)
  · refine r_iload_n (i := 2) F dX6_setCode_12 rfl rfl ?_
    refine r_iconst F dX6_setCode_13 ?_
    refine r_bipush F dX6_setCode_14 (by decide) ?_
    refine r_callS F (C_X6_isIn (by assumption) (ir_of (by omega) (by omega)) (ir_of (by omega) (by omega))) dX6_setCode_16 lks_X6_23 rfl rfl cd_X6_isIn (by decide) ⟨Nat.le_refl _, Nat.le_refl _⟩ (Nat.le_of_ble_eq_true rfl) ?_
    refine r_iz_ne (tgt := 28) F dX6_setCode_19 (by decide) (fun h19 => ?_) (fun h19 => ?_)
    · refine r_aload_n (i := 0) F dX6_setCode_28 rfl rfl ?_
      refine gf_X6_10 F dX6_setCode_29 ?_
      refine gf_X6_54 F dX6_setCode_32 ⟨by decide, by decide⟩ ?_
      refine r_iload_n (i := 1) F dX6_setCode_35 rfl rfl ?_
      refine ia_17 F dX6_setCode_36 ⟨by decide, by decide⟩ (by omega) (by omega) ?_
      refine r_istore_n (i := 3) (lv1 := [_, _, _, _]) F dX6_setCode_37 rfl (by decide) rfl rfl ?_
      refine r_aload_n (i := 0) F dX6_setCode_38 rfl rfl ?_
      refine gf_X6_10 F dX6_setCode_39 ?_
      refine gf_X6_54 F dX6_setCode_42 ⟨by decide, by decide⟩ ?_
      refine r_iload_n (i := 1) F dX6_setCode_45 rfl rfl ?_
      refine r_iload_n (i := 2) F dX6_setCode_46 rfl rfl ?_
      refine is_17 F dX6_setCode_47 ⟨by decide, by decide⟩ (by omega) (by omega) ?_
      refine r_aload_n (i := 0) F dX6_setCode_48 rfl rfl ?_
      refine gf_X6_10 F dX6_setCode_49 ?_
      refine gf_X6_57 F dX6_setCode_52 ⟨by decide, by decide⟩ ?_
      refine r_iload_n (i := 1) F dX6_setCode_55 rfl rfl ?_
      refine r_iconst F dX6_setCode_56 ?_
      refine is_18 F dX6_setCode_57 ⟨by decide, by decide⟩ (by omega) (by omega) ?_
      refine r_iload_n (i := 3) F dX6_setCode_58 rfl rfl ?_
      have e9 : cSetCode x q = 0 := by unfold cSetCode; (repeat' split) <;> omega
      exact r_iret F dX6_setCode_59 rfl (by rw [e9] <;> rfl) (by rw [e9] <;> rfl)
    · refine r_aload_n (i := 0) F dX6_setCode_22 rfl rfl ?_
      refine r_iconst F dX6_setCode_23 ?_
      refine r_callV F C_X6_no dX6_setCode_24 lkv_X6_40 rfl rfl rfl rfl rfl cd_X6_no (by decide) ⟨Nat.le_refl _, Nat.le_refl _⟩ (Nat.le_of_ble_eq_true rfl) ?_
      rw [thr_thr]
      have e9 : cSetCode x q = 1 := by unfold cSetCode; (repeat' split) <;> omega
      exact r_iret F dX6_setCode_27 rfl (by rw [e9] <;> rfl) (by rw [e9] <;> rfl)

set_option maxHeartbeats 4000000 in
set_option maxRecDepth 100000 in
theorem C_X6_setShow {l : Launch} {cy : Nat → ClassId} {D : va_G} {ad : Nat → Nat → Int → Nat} {M : Mem} {S : St} {x w q : Int} (hI : Inv S) (hx9 : ir x) (hw9 : ir w) (hq9 : ir q) : Ct l cy D ad yX6_setShow cX6_setShow 6 (some .int) 2 [.ref (ad 13 0 0), .int (i32 x), .int (i32 w), .int (i32 q)] (setc M 2 S) (some (.int (i32 (if cSetShow S x w q = 0 then S 5 (10 * x + w) else 0)))) (setc (thr M (cSetShow S x w q)) 2 (if cSetShow S x w q = 0 then u2 S 5 (10 * x + w) q else S)) := by
  refine Ct.mk (lv := [some _, some _, some _, some _, none, none]) 2 (by decide) rfl (Nat.le_of_ble_eq_true rfl) (fun p e s m below meth c F => ?_)
  have ic := hI.pc
  refine r_aload_n (i := 0) F dX6_setShow_0 rfl rfl ?_
  refine r_iconst F dX6_setShow_1 ?_
  refine pfT F dX6_setShow_2 ?_
  refine r_aload_n (i := 0) F dX6_setShow_5 rfl rfl ?_
  refine r_iload_n (i := 1) F dX6_setShow_6 rfl rfl ?_
  refine r_callV F (C_X6_isLantern (by assumption) hI) dX6_setShow_7 lkv_X6_63 rfl rfl rfl rfl rfl cd_X6_isLantern (by decide) ⟨Nat.le_refl _, Nat.le_refl _⟩ (Nat.le_of_ble_eq_true rfl) ?_
  refine r_iz_eq (tgt := 23) F dX6_setShow_10 (by decide) (fun h10 => ?_) (fun h10 => ?_)
  · refine r_aload_n (i := 0) F dX6_setShow_23 rfl rfl ?_
    refine r_iconst F dX6_setShow_24 ?_
    refine r_callV F C_X6_no dX6_setShow_25 lkv_X6_40 rfl rfl rfl rfl rfl cd_X6_no (by decide) ⟨Nat.le_refl _, Nat.le_refl _⟩ (Nat.le_of_ble_eq_true rfl) ?_
    rw [thr_thr]
    have e9 : cSetShow S x w q = 1 := by unfold cSetShow; (repeat' split) <;> omega
    exact r_iret F dX6_setShow_28 rfl (by rw [e9] <;> rfl) (by rw [e9] <;> rfl)
  · refine r_iload_n (i := 2) F dX6_setShow_13 rfl rfl ?_
    refine r_iconst F dX6_setShow_14 ?_
    refine r_bipush F dX6_setShow_15 (by decide) ?_
    refine r_callS F (C_X6_isIn (by assumption) (ir_of (by omega) (by omega)) (ir_of (by omega) (by omega))) dX6_setShow_17 lks_X6_23 rfl rfl cd_X6_isIn (by decide) ⟨Nat.le_refl _, Nat.le_refl _⟩ (Nat.le_of_ble_eq_true rfl) ?_
    refine r_iz_ne (tgt := 29) F dX6_setShow_20 (by decide) (fun h20 => ?_) (fun h20 => ?_)
    · refine r_iload_n (i := 3) F dX6_setShow_29 rfl rfl ?_
      refine r_iconst F dX6_setShow_30 ?_
      refine r_bipush F dX6_setShow_31 (by decide) ?_
      refine r_callS F (C_X6_isIn (by assumption) (ir_of (by omega) (by omega)) (ir_of (by omega) (by omega))) dX6_setShow_33 lks_X6_23 rfl rfl cd_X6_isIn (by decide) ⟨Nat.le_refl _, Nat.le_refl _⟩ (Nat.le_of_ble_eq_true rfl) ?_
      refine r_iz_ne (tgt := 45) F dX6_setShow_36 (by decide) (fun h36 => ?_) (fun h36 => ?_)
      · refine r_bipush F dX6_setShow_45 (by decide) ?_
        refine r_iload_n (i := 1) F dX6_setShow_47 rfl rfl ?_
        refine r_imul F dX6_setShow_48 ?_
        refine r_iload_n (i := 2) F dX6_setShow_49 rfl rfl ?_
        refine r_iadd F dX6_setShow_50 ?_
        refine r_istore (lv1 := [_, _, _, _, _, _]) F dX6_setShow_51 (by decide) rfl rfl ?_
        refine r_aload_n (i := 0) F dX6_setShow_53 rfl rfl ?_
        refine gf_X6_10 F dX6_setShow_54 ?_
        refine gf_X6_66 F dX6_setShow_57 ⟨by decide, by decide⟩ ?_
        refine r_iload F dX6_setShow_60 rfl ?_
        refine ia_20 F dX6_setShow_62 ⟨by decide, by decide⟩ (by omega) (by omega) ?_
        refine r_istore (lv1 := [_, _, _, _, _, _]) F dX6_setShow_63 (by decide) rfl rfl ?_
        refine r_aload_n (i := 0) F dX6_setShow_65 rfl rfl ?_
        refine gf_X6_10 F dX6_setShow_66 ?_
        refine gf_X6_66 F dX6_setShow_69 ⟨by decide, by decide⟩ ?_
        refine r_iload F dX6_setShow_72 rfl ?_
        refine r_iload_n (i := 3) F dX6_setShow_74 rfl rfl ?_
        refine is_20 F dX6_setShow_75 ⟨by decide, by decide⟩ (by omega) (by omega) ?_
        refine r_iload F dX6_setShow_76 rfl ?_
        have e9 : cSetShow S x w q = 0 := by unfold cSetShow; (repeat' split) <;> omega
        exact r_iret F dX6_setShow_78 rfl (by rw [e9] <;> rfl) (by rw [e9] <;> rfl)
      · refine r_aload_n (i := 0) F dX6_setShow_39 rfl rfl ?_
        refine r_iconst F dX6_setShow_40 ?_
        refine r_callV F C_X6_no dX6_setShow_41 lkv_X6_40 rfl rfl rfl rfl rfl cd_X6_no (by decide) ⟨Nat.le_refl _, Nat.le_refl _⟩ (Nat.le_of_ble_eq_true rfl) ?_
        rw [thr_thr]
        have e9 : cSetShow S x w q = 2 := by unfold cSetShow; (repeat' split) <;> omega
        exact r_iret F dX6_setShow_44 rfl (by rw [e9] <;> rfl) (by rw [e9] <;> rfl)
    · refine r_aload_n (i := 0) F dX6_setShow_23 rfl rfl ?_
      refine r_iconst F dX6_setShow_24 ?_
      refine r_callV F C_X6_no dX6_setShow_25 lkv_X6_40 rfl rfl rfl rfl rfl cd_X6_no (by decide) ⟨Nat.le_refl _, Nat.le_refl _⟩ (Nat.le_of_ble_eq_true rfl) ?_
      rw [thr_thr]
      have e9 : cSetShow S x w q = 1 := by unfold cSetShow; (repeat' split) <;> omega
      exact r_iret F dX6_setShow_28 rfl (by rw [e9] <;> rfl) (by rw [e9] <;> rfl)

set_option maxHeartbeats 4000000 in
set_option maxRecDepth 100000 in
theorem C_X6_watchman {l : Launch} {cy : Nat → ClassId} {D : va_G} {ad : Nat → Nat → Int → Nat} {M : Mem} {S : St} {f t g : Int} (hI : Inv S) (hD : Dead S) (hf9 : ir f) (ht9 : ir t) (hg9 : ir g) : Ct l cy D ad yX6_watchman cX6_watchman 5 (some .int) 2 [.ref (ad 13 0 0), .int (i32 f), .int (i32 t), .int (i32 g)] (setc M 2 S) (some (.int (i32 (if cWatch S f t g = 0 then S 20 2 else 0)))) (setc (thr M (cWatch S f t g)) 2 (if cWatch S f t g = 0 then sWatch S f t g else S)) := by
  refine Ct.mk (lv := [some _, some _, some _, some _, none]) 1 (by decide) rfl (Nat.le_of_ble_eq_true rfl) (fun p e s m below meth c F => ?_)
  have ic := hI.pc
  refine r_aload_n (i := 0) F dX6_watchman_0 rfl rfl ?_
  refine r_iconst F dX6_watchman_1 ?_
  refine pfT F dX6_watchman_2 ?_
  refine r_iload_n (i := 1) F dX6_watchman_5 rfl rfl ?_
  refine r_callS F (C_X6_isPlace (by assumption)) dX6_watchman_6 lks_X6_36 rfl rfl cd_X6_isPlace (by decide) ⟨Nat.le_refl _, Nat.le_refl _⟩ (Nat.le_of_ble_eq_true rfl) ?_
  refine r_iz_eq (tgt := 19) F dX6_watchman_9 (by decide) (fun h9 => ?_) (fun h9 => ?_)
  · refine r_aload_n (i := 0) F dX6_watchman_19 rfl rfl ?_
    refine r_iconst F dX6_watchman_20 ?_
    refine r_callV F C_X6_no dX6_watchman_21 lkv_X6_40 rfl rfl rfl rfl rfl cd_X6_no (by decide) ⟨Nat.le_refl _, Nat.le_refl _⟩ (Nat.le_of_ble_eq_true rfl) ?_
    rw [thr_thr]
    have e9 : cWatch S f t g = 1 := by unfold cWatch; (repeat' split) <;> omega
    exact r_iret F dX6_watchman_24 rfl (by rw [e9] <;> rfl) (by rw [e9] <;> rfl)
  · refine r_iload_n (i := 2) F dX6_watchman_12 rfl rfl ?_
    refine r_callS F (C_X6_isPlace (by assumption)) dX6_watchman_13 lks_X6_36 rfl rfl cd_X6_isPlace (by decide) ⟨Nat.le_refl _, Nat.le_refl _⟩ (Nat.le_of_ble_eq_true rfl) ?_
    refine r_iz_ne (tgt := 25) F dX6_watchman_16 (by decide) (fun h16 => ?_) (fun h16 => ?_)
    · refine r_iload_n (i := 1) F dX6_watchman_25 rfl rfl ?_
      refine r_iload_n (i := 2) F dX6_watchman_26 rfl rfl ?_
      refine r_icmp_gt (tgt := 39) F dX6_watchman_27 (by decide) (by first | assumption | exact ir_of (by omega) (by omega)) (by first | assumption | exact ir_of (by omega) (by omega)) (fun h27 => ?_) (fun h27 => ?_)
      · refine r_aload_n (i := 0) F dX6_watchman_39 rfl rfl ?_
        refine r_iconst F dX6_watchman_40 ?_
        refine r_callV F C_X6_no dX6_watchman_41 lkv_X6_40 rfl rfl rfl rfl rfl cd_X6_no (by decide) ⟨Nat.le_refl _, Nat.le_refl _⟩ (Nat.le_of_ble_eq_true rfl) ?_
        rw [thr_thr]
        have e9 : cWatch S f t g = 2 := by unfold cWatch; (repeat' split) <;> omega
        exact r_iret F dX6_watchman_44 rfl (by rw [e9] <;> rfl) (by rw [e9] <;> rfl)
      · refine r_iload_n (i := 3) F dX6_watchman_30 rfl rfl ?_
        refine r_iconst F dX6_watchman_31 ?_
        refine r_iconst F dX6_watchman_32 ?_
        refine r_callS F (C_X6_isIn (by assumption) (ir_of (by omega) (by omega)) (ir_of (by omega) (by omega))) dX6_watchman_33 lks_X6_23 rfl rfl cd_X6_isIn (by decide) ⟨Nat.le_refl _, Nat.le_refl _⟩ (Nat.le_of_ble_eq_true rfl) ?_
        refine r_iz_ne (tgt := 45) F dX6_watchman_36 (by decide) (fun h36 => ?_) (fun h36 => ?_)
        · refine r_aload_n (i := 0) F dX6_watchman_45 rfl rfl ?_
          refine gf_X6_10 F dX6_watchman_46 ?_
          refine gf_X6_30 F dX6_watchman_49 ⟨by decide, by decide⟩ ?_
          refine r_istore (lv1 := [_, _, _, _, _]) F dX6_watchman_52 (by decide) rfl rfl ?_
          refine r_iload F dX6_watchman_54 rfl ?_
          refine r_iconst F dX6_watchman_56 ?_
          refine r_icmp_ne (tgt := 66) F dX6_watchman_57 (by decide) (by first | assumption | exact ir_of (by omega) (by omega)) (by first | assumption | exact ir_of (by omega) (by omega)) (fun h57 => ?_) (fun h57 => ?_)
          · refine r_aload_n (i := 0) F dX6_watchman_66 rfl rfl ?_
            refine gf_X6_10 F dX6_watchman_67 ?_
            refine gf_X6_69 F dX6_watchman_70 ⟨by decide, by decide⟩ ?_
            refine r_iload F dX6_watchman_73 rfl ?_
            refine r_iload_n (i := 1) F dX6_watchman_75 rfl rfl ?_
            refine is_22 F dX6_watchman_76 ⟨by decide, by decide⟩ (by omega) (by omega) ?_
            refine r_aload_n (i := 0) F dX6_watchman_77 rfl rfl ?_
            refine gf_X6_10 F dX6_watchman_78 ?_
            refine gf_X6_72 F dX6_watchman_81 ⟨by decide, by decide⟩ ?_
            refine r_iload F dX6_watchman_84 rfl ?_
            refine r_iload_n (i := 2) F dX6_watchman_86 rfl rfl ?_
            refine is_23 F dX6_watchman_87 ⟨by decide, by decide⟩ (by omega) (by omega) ?_
            refine r_aload_n (i := 0) F dX6_watchman_88 rfl rfl ?_
            refine gf_X6_10 F dX6_watchman_89 ?_
            refine gf_X6_75 F dX6_watchman_92 ⟨by decide, by decide⟩ ?_
            refine r_iload F dX6_watchman_95 rfl ?_
            refine r_iload_n (i := 3) F dX6_watchman_97 rfl rfl ?_
            refine is_24 F dX6_watchman_98 ⟨by decide, by decide⟩ (by omega) (by omega) ?_
            refine r_aload_n (i := 0) F dX6_watchman_99 rfl rfl ?_
            refine gf_X6_10 F dX6_watchman_100 ?_
            refine gf_X6_78 F dX6_watchman_103 ⟨by decide, by decide⟩ ?_
            refine r_iload F dX6_watchman_106 rfl ?_
            refine r_iload_n (i := 1) F dX6_watchman_108 rfl rfl ?_
            refine is_25 F dX6_watchman_109 ⟨by decide, by decide⟩ (by omega) (by omega) ?_
            refine r_aload_n (i := 0) F dX6_watchman_110 rfl rfl ?_
            refine gf_X6_10 F dX6_watchman_111 ?_
            refine gf_X6_81 F dX6_watchman_114 ⟨by decide, by decide⟩ ?_
            refine r_iload F dX6_watchman_117 rfl ?_
            refine r_iconst F dX6_watchman_119 ?_
            refine is_26 F dX6_watchman_120 ⟨by decide, by decide⟩ (by omega) (by omega) ?_
            refine r_aload_n (i := 0) F dX6_watchman_121 rfl rfl ?_
            refine gf_X6_10 F dX6_watchman_122 ?_
            refine r_dup F dX6_watchman_125 rfl ?_
            refine gf_X6_30 F dX6_watchman_126 ⟨by decide, by decide⟩ ?_
            refine r_iconst F dX6_watchman_129 ?_
            refine r_iadd F dX6_watchman_130 ?_
            refine pf_X6_30 F dX6_watchman_131 ⟨by decide, by decide⟩ ?_
            refine r_iload F dX6_watchman_134 rfl ?_
            have e9 : cWatch S f t g = 0 := by unfold cWatch; (repeat' split) <;> omega
            exact r_iret F dX6_watchman_136 rfl (by rw [e9] <;> rfl) (by rw [e9]; refine congrArg (setc (thr M 0) 2) ?_; show _ = sWatch S f t g; unfold sWatch wat0; rw [← show S 12 (S 20 2) = 0 from (hD.2.2.1 12 _ (by decide) (by decide) (by omega))]; funext k9 i9; unfold u2; by_cases q1 : k9 = 12 ∧ i9 = S 20 2 <;> simp [q1])
          · refine r_aload_n (i := 0) F dX6_watchman_60 rfl rfl ?_
            refine r_iconst F dX6_watchman_61 ?_
            refine r_callV F C_X6_no dX6_watchman_62 lkv_X6_40 rfl rfl rfl rfl rfl cd_X6_no (by decide) ⟨Nat.le_refl _, Nat.le_refl _⟩ (Nat.le_of_ble_eq_true rfl) ?_
            rw [thr_thr]
            have e9 : cWatch S f t g = 3 := by unfold cWatch; (repeat' split) <;> omega
            exact r_iret F dX6_watchman_65 rfl (by rw [e9] <;> rfl) (by rw [e9] <;> rfl)
        · refine r_aload_n (i := 0) F dX6_watchman_39 rfl rfl ?_
          refine r_iconst F dX6_watchman_40 ?_
          refine r_callV F C_X6_no dX6_watchman_41 lkv_X6_40 rfl rfl rfl rfl rfl cd_X6_no (by decide) ⟨Nat.le_refl _, Nat.le_refl _⟩ (Nat.le_of_ble_eq_true rfl) ?_
          rw [thr_thr]
          have e9 : cWatch S f t g = 2 := by unfold cWatch; (repeat' split) <;> omega
          exact r_iret F dX6_watchman_44 rfl (by rw [e9] <;> rfl) (by rw [e9] <;> rfl)
    · refine r_aload_n (i := 0) F dX6_watchman_19 rfl rfl ?_
      refine r_iconst F dX6_watchman_20 ?_
      refine r_callV F C_X6_no dX6_watchman_21 lkv_X6_40 rfl rfl rfl rfl rfl cd_X6_no (by decide) ⟨Nat.le_refl _, Nat.le_refl _⟩ (Nat.le_of_ble_eq_true rfl) ?_
      rw [thr_thr]
      have e9 : cWatch S f t g = 1 := by unfold cWatch; (repeat' split) <;> omega
      exact r_iret F dX6_watchman_24 rfl (by rw [e9] <;> rfl) (by rw [e9] <;> rfl)

set_option maxHeartbeats 4000000 in
set_option maxRecDepth 100000 in
theorem C_X6_boat {l : Launch} {cy : Nat → ClassId} {D : va_G} {ad : Nat → Nat → Int → Nat} {M : Mem} {S : St} {x q : Int} (hI : Inv S) (hD : Dead S) (hx9 : ir x) (hq9 : ir q) : Ct l cy D ad yX6_boat cX6_boat 4 (some .int) 2 [.ref (ad 13 0 0), .int (i32 x), .int (i32 q)] (setc M 2 S) (some (.int (i32 (if cBoat S x q = 0 then S 20 3 else 0)))) (setc (thr M (cBoat S x q)) 2 (if cBoat S x q = 0 then sBoat S x q else S)) := by
  refine Ct.mk (lv := [some _, some _, some _, none]) 1 (by decide) rfl (Nat.le_of_ble_eq_true rfl) (fun p e s m below meth c F => ?_)
  have ic := hI.pc
  refine r_aload_n (i := 0) F dX6_boat_0 rfl rfl ?_
  refine r_iconst F dX6_boat_1 ?_
  refine pfT F dX6_boat_2 ?_
  refine r_iload_n (i := 1) F dX6_boat_5 rfl rfl ?_
  refine r_callS F (C_X6_isPlace (by assumption)) dX6_boat_6 lks_X6_36 rfl rfl cd_X6_isPlace (by decide) ⟨Nat.le_refl _, Nat.le_refl _⟩ (Nat.le_of_ble_eq_true rfl) ?_
  refine r_iz_ne (tgt := 18) F dX6_boat_9 (by decide) (fun h9 => ?_) (fun h9 => ?_)
  · refine r_iload_n (i := 2) F dX6_boat_18 rfl rfl ?_
    refine r_iconst F dX6_boat_19 ?_
    refine r_bipush F dX6_boat_20 (by decide) ?_
    refine r_callS F (C_X6_isIn (by assumption) (ir_of (by omega) (by omega)) (ir_of (by omega) (by omega))) dX6_boat_22 lks_X6_23 rfl rfl cd_X6_isIn (by decide) ⟨Nat.le_refl _, Nat.le_refl _⟩ (Nat.le_of_ble_eq_true rfl) ?_
    refine r_iz_ne (tgt := 34) F dX6_boat_25 (by decide) (fun h25 => ?_) (fun h25 => ?_)
    · refine r_aload_n (i := 0) F dX6_boat_34 rfl rfl ?_
      refine gf_X6_10 F dX6_boat_35 ?_
      refine gf_X6_33 F dX6_boat_38 ⟨by decide, by decide⟩ ?_
      refine r_istore_n (i := 3) (lv1 := [_, _, _, _]) F dX6_boat_41 rfl (by decide) rfl rfl ?_
      refine r_iload_n (i := 3) F dX6_boat_42 rfl rfl ?_
      refine r_bipush F dX6_boat_43 (by decide) ?_
      refine r_icmp_ne (tgt := 54) F dX6_boat_45 (by decide) (by first | assumption | exact ir_of (by omega) (by omega)) (by first | assumption | exact ir_of (by omega) (by omega)) (fun h45 => ?_) (fun h45 => ?_)
      · refine r_aload_n (i := 0) F dX6_boat_54 rfl rfl ?_
        refine gf_X6_10 F dX6_boat_55 ?_
        refine gf_X6_84 F dX6_boat_58 ⟨by decide, by decide⟩ ?_
        refine r_iload_n (i := 3) F dX6_boat_61 rfl rfl ?_
        refine r_iload_n (i := 1) F dX6_boat_62 rfl rfl ?_
        refine is_28 F dX6_boat_63 ⟨by decide, by decide⟩ (by omega) (by omega) ?_
        refine r_aload_n (i := 0) F dX6_boat_64 rfl rfl ?_
        refine gf_X6_10 F dX6_boat_65 ?_
        refine gf_X6_87 F dX6_boat_68 ⟨by decide, by decide⟩ ?_
        refine r_iload_n (i := 3) F dX6_boat_71 rfl rfl ?_
        refine r_iload_n (i := 2) F dX6_boat_72 rfl rfl ?_
        refine is_29 F dX6_boat_73 ⟨by decide, by decide⟩ (by omega) (by omega) ?_
        refine r_aload_n (i := 0) F dX6_boat_74 rfl rfl ?_
        refine gf_X6_10 F dX6_boat_75 ?_
        refine r_iload_n (i := 3) F dX6_boat_78 rfl rfl ?_
        refine r_iconst F dX6_boat_79 ?_
        refine r_callV F (C_X5_send (by decide) (by omega) (by decide)) dX6_boat_80 lkv_X6_90 rfl rfl (dm14 ⟨by decide, by decide⟩) rfl rfl cd_X5_send (by decide) ⟨Nat.le_refl _, Nat.le_refl _⟩ (Nat.le_of_ble_eq_true rfl) ?_
        refine r_aload_n (i := 0) F dX6_boat_83 rfl rfl ?_
        refine gf_X6_10 F dX6_boat_84 ?_
        refine r_dup F dX6_boat_87 rfl ?_
        refine gf_X6_33 F dX6_boat_88 ⟨by decide, by decide⟩ ?_
        refine r_iconst F dX6_boat_91 ?_
        refine r_iadd F dX6_boat_92 ?_
        refine pf_X6_33 F dX6_boat_93 ⟨by decide, by decide⟩ ?_
        refine r_iload_n (i := 3) F dX6_boat_96 rfl rfl ?_
        have e9 : cBoat S x q = 0 := by unfold cBoat; (repeat' split) <;> omega
        exact r_iret F dX6_boat_97 rfl (by rw [e9] <;> rfl) (by rw [e9]; refine congrArg (setc (thr M 0) 2) ?_; show _ = sBoat S x q; have d18 := hD.2.2.2 18 (S 20 3) (by decide) (by decide) (by omega); have d19 := hD.2.2.2 19 (S 20 3) (by decide) (by decide) (by omega); unfold sBoat boat0 sendS; funext k9 i9; unfold u2; by_cases q1 : i9 = S 20 3 <;> by_cases q2 : k9 = 18 <;> by_cases q3 : k9 = 19 <;> simp [q1, q2, q3] <;> first | omega | simp [*])
      · refine r_aload_n (i := 0) F dX6_boat_48 rfl rfl ?_
        refine r_iconst F dX6_boat_49 ?_
        refine r_callV F C_X6_no dX6_boat_50 lkv_X6_40 rfl rfl rfl rfl rfl cd_X6_no (by decide) ⟨Nat.le_refl _, Nat.le_refl _⟩ (Nat.le_of_ble_eq_true rfl) ?_
        rw [thr_thr]
        have e9 : cBoat S x q = 3 := by unfold cBoat; (repeat' split) <;> omega
        exact r_iret F dX6_boat_53 rfl (by rw [e9] <;> rfl) (by rw [e9] <;> rfl)
    · refine r_aload_n (i := 0) F dX6_boat_28 rfl rfl ?_
      refine r_iconst F dX6_boat_29 ?_
      refine r_callV F C_X6_no dX6_boat_30 lkv_X6_40 rfl rfl rfl rfl rfl cd_X6_no (by decide) ⟨Nat.le_refl _, Nat.le_refl _⟩ (Nat.le_of_ble_eq_true rfl) ?_
      rw [thr_thr]
      have e9 : cBoat S x q = 2 := by unfold cBoat; (repeat' split) <;> omega
      exact r_iret F dX6_boat_33 rfl (by rw [e9] <;> rfl) (by rw [e9] <;> rfl)
  · refine r_aload_n (i := 0) F dX6_boat_12 rfl rfl ?_
    refine r_iconst F dX6_boat_13 ?_
    refine r_callV F C_X6_no dX6_boat_14 lkv_X6_40 rfl rfl rfl rfl rfl cd_X6_no (by decide) ⟨Nat.le_refl _, Nat.le_refl _⟩ (Nat.le_of_ble_eq_true rfl) ?_
    rw [thr_thr]
    have e9 : cBoat S x q = 1 := by unfold cBoat; (repeat' split) <;> omega
    exact r_iret F dX6_boat_17 rfl (by rw [e9] <;> rfl) (by rw [e9] <;> rfl)

set_option maxHeartbeats 4000000 in
set_option maxRecDepth 100000 in
theorem C_X6_send {l : Launch} {cy : Nat → ClassId} {D : va_G} {ad : Nat → Nat → Int → Nat} {M : Mem} {S : St} {x q : Int} (hI : Inv S) (hx9 : ir x) (hq9 : ir q) : Ct l cy D ad yX6_send cX6_send 4 (some .int) 2 [.ref (ad 13 0 0), .int (i32 x), .int (i32 q)] (setc M 2 S) (some (.int (i32 (if cSend S x q = 0 then S 15 x else 0)))) (setc (thr M (cSend S x q)) 2 (if cSend S x q = 0 then sendS S x q else S)) := by
  refine Ct.mk (lv := [some _, some _, some _, none]) 1 (by decide) rfl (Nat.le_of_ble_eq_true rfl) (fun p e s m below meth c F => ?_)
  have ic := hI.pc
  have b18 := hI.p18 x
  refine r_aload_n (i := 0) F dX6_send_0 rfl rfl ?_
  refine r_iconst F dX6_send_1 ?_
  refine pfT F dX6_send_2 ?_
  refine r_aload_n (i := 0) F dX6_send_5 rfl rfl ?_
  refine r_iload_n (i := 1) F dX6_send_6 rfl rfl ?_
  refine r_callV F (C_X6_isBoat (by assumption) hI) dX6_send_7 lkv_X6_94 rfl rfl rfl rfl rfl cd_X6_isBoat (by decide) ⟨Nat.le_refl _, Nat.le_refl _⟩ (Nat.le_of_ble_eq_true rfl) ?_
  refine r_iz_eq (tgt := 23) F dX6_send_10 (by decide) (fun h10 => ?_) (fun h10 => ?_)
  · refine r_aload_n (i := 0) F dX6_send_23 rfl rfl ?_
    refine r_iconst F dX6_send_24 ?_
    refine r_callV F C_X6_no dX6_send_25 lkv_X6_40 rfl rfl rfl rfl rfl cd_X6_no (by decide) ⟨Nat.le_refl _, Nat.le_refl _⟩ (Nat.le_of_ble_eq_true rfl) ?_
    rw [thr_thr]
    have e9 : cSend S x q = 1 := by unfold cSend; (repeat' split) <;> omega
    exact r_iret F dX6_send_28 rfl (by rw [e9] <;> rfl) (by rw [e9] <;> rfl)
  · refine r_iload_n (i := 2) F dX6_send_13 rfl rfl ?_
    refine r_iconst F dX6_send_14 ?_
    refine r_bipush F dX6_send_15 (by decide) ?_
    refine r_callS F (C_X6_isIn (by assumption) (ir_of (by omega) (by omega)) (ir_of (by omega) (by omega))) dX6_send_17 lks_X6_23 rfl rfl cd_X6_isIn (by decide) ⟨Nat.le_refl _, Nat.le_refl _⟩ (Nat.le_of_ble_eq_true rfl) ?_
    refine r_iz_ne (tgt := 29) F dX6_send_20 (by decide) (fun h20 => ?_) (fun h20 => ?_)
    · refine r_aload_n (i := 0) F dX6_send_29 rfl rfl ?_
      refine gf_X6_10 F dX6_send_30 ?_
      refine gf_X6_97 F dX6_send_33 ⟨by decide, by decide⟩ ?_
      refine r_iload_n (i := 1) F dX6_send_36 rfl rfl ?_
      refine ia_33 F dX6_send_37 ⟨by decide, by decide⟩ (by omega) (by omega) ?_
      refine r_if_eq (tgt := 47) F dX6_send_38 (by decide) (by first | assumption | exact ir_of (by omega) (by omega)) (fun h38 => ?_) (fun h38 => ?_)
      · refine r_aload_n (i := 0) F dX6_send_47 rfl rfl ?_
        refine gf_X6_10 F dX6_send_48 ?_
        refine gf_X6_100 F dX6_send_51 ⟨by decide, by decide⟩ ?_
        refine r_iload_n (i := 1) F dX6_send_54 rfl rfl ?_
        refine ia_30 F dX6_send_55 ⟨by decide, by decide⟩ (by omega) (by omega) ?_
        refine r_istore_n (i := 3) (lv1 := [_, _, _, _]) F dX6_send_56 rfl (by decide) rfl rfl ?_
        refine r_aload_n (i := 0) F dX6_send_57 rfl rfl ?_
        refine gf_X6_10 F dX6_send_58 ?_
        refine r_iload_n (i := 1) F dX6_send_61 rfl rfl ?_
        refine r_iload_n (i := 2) F dX6_send_62 rfl rfl ?_
        refine r_callV F (C_X5_send (by decide) (by omega) (by omega)) dX6_send_63 lkv_X6_90 rfl rfl (dm14 ⟨by decide, by decide⟩) rfl rfl cd_X5_send (by decide) ⟨Nat.le_refl _, Nat.le_refl _⟩ (Nat.le_of_ble_eq_true rfl) ?_
        refine r_iload_n (i := 3) F dX6_send_66 rfl rfl ?_
        have e9 : cSend S x q = 0 := by unfold cSend; (repeat' split) <;> omega
        exact r_iret F dX6_send_67 rfl (by rw [e9] <;> rfl) (by rw [e9] <;> rfl)
      · refine r_aload_n (i := 0) F dX6_send_41 rfl rfl ?_
        refine r_iconst F dX6_send_42 ?_
        refine r_callV F C_X6_no dX6_send_43 lkv_X6_40 rfl rfl rfl rfl rfl cd_X6_no (by decide) ⟨Nat.le_refl _, Nat.le_refl _⟩ (Nat.le_of_ble_eq_true rfl) ?_
        rw [thr_thr]
        have e9 : cSend S x q = 2 := by unfold cSend; (repeat' split) <;> omega
        exact r_iret F dX6_send_46 rfl (by rw [e9] <;> rfl) (by rw [e9] <;> rfl)
    · refine r_aload_n (i := 0) F dX6_send_23 rfl rfl ?_
      refine r_iconst F dX6_send_24 ?_
      refine r_callV F C_X6_no dX6_send_25 lkv_X6_40 rfl rfl rfl rfl rfl cd_X6_no (by decide) ⟨Nat.le_refl _, Nat.le_refl _⟩ (Nat.le_of_ble_eq_true rfl) ?_
      rw [thr_thr]
      have e9 : cSend S x q = 1 := by unfold cSend; (repeat' split) <;> omega
      exact r_iret F dX6_send_28 rfl (by rw [e9] <;> rfl) (by rw [e9] <;> rfl)

set_option maxHeartbeats 4000000 in
set_option maxRecDepth 100000 in
theorem C_X6_carry {l : Launch} {cy : Nat → ClassId} {D : va_G} {ad : Nat → Nat → Int → Nat} {M : Mem} {S : St} {x q : Int} (hI : Inv S) (hx9 : ir x) (hq9 : ir q) : Ct l cy D ad yX6_carry cX6_carry 3 (some .int) 2 [.ref (ad 13 0 0), .int (i32 x), .int (i32 q)] (setc M 2 S) (some (.int (i32 (if cCarry S x q = 0 then S 1 x - q else 0)))) (setc (thr M (cCarry S x q)) 2 (if cCarry S x q = 0 then sCarry S x q else S)) := by
  refine Ct.mk (lv := [some _, some _, some _]) 0 (by decide) rfl (Nat.le_of_ble_eq_true rfl) (fun p e s m below meth c F => ?_)
  have ic := hI.pc
  have b1 := hI.p01 x
  refine r_aload_n (i := 0) F dX6_carry_0 rfl rfl ?_
  refine r_iconst F dX6_carry_1 ?_
  refine pfT F dX6_carry_2 ?_
  refine r_iload_n (i := 1) F dX6_carry_5 rfl rfl ?_
  refine r_callS F (C_X6_isPlace (by assumption)) dX6_carry_6 lks_X6_36 rfl rfl cd_X6_isPlace (by decide) ⟨Nat.le_refl _, Nat.le_refl _⟩ (Nat.le_of_ble_eq_true rfl) ?_
  refine r_iz_ne (tgt := 18) F dX6_carry_9 (by decide) (fun h9 => ?_) (fun h9 => ?_)
  · refine r_iload_n (i := 2) F dX6_carry_18 rfl rfl ?_
    refine r_iconst F dX6_carry_19 ?_
    refine r_bipush F dX6_carry_20 (by decide) ?_
    refine r_callS F (C_X6_isIn (by assumption) (ir_of (by omega) (by omega)) (ir_of (by omega) (by omega))) dX6_carry_22 lks_X6_23 rfl rfl cd_X6_isIn (by decide) ⟨Nat.le_refl _, Nat.le_refl _⟩ (Nat.le_of_ble_eq_true rfl) ?_
    refine r_iz_ne (tgt := 34) F dX6_carry_25 (by decide) (fun h25 => ?_) (fun h25 => ?_)
    · refine r_aload_n (i := 0) F dX6_carry_34 rfl rfl ?_
      refine gf_X6_10 F dX6_carry_35 ?_
      refine gf_X6_44 F dX6_carry_38 ⟨by decide, by decide⟩ ?_
      refine r_iload_n (i := 1) F dX6_carry_41 rfl rfl ?_
      refine ia_16 F dX6_carry_42 ⟨by decide, by decide⟩ (by omega) (by omega) ?_
      refine r_iload_n (i := 2) F dX6_carry_43 rfl rfl ?_
      refine r_icmp_ge (tgt := 53) F dX6_carry_44 (by decide) (by first | assumption | exact ir_of (by omega) (by omega)) (by first | assumption | exact ir_of (by omega) (by omega)) (fun h44 => ?_) (fun h44 => ?_)
      · refine r_aload_n (i := 0) F dX6_carry_53 rfl rfl ?_
        refine gf_X6_10 F dX6_carry_54 ?_
        refine gf_X6_44 F dX6_carry_57 ⟨by decide, by decide⟩ ?_
        refine r_iload_n (i := 1) F dX6_carry_60 rfl rfl ?_
        refine r_dup2 F dX6_carry_61 rfl rfl ?_
        refine ia_16 F dX6_carry_62 ⟨by decide, by decide⟩ (by omega) (by omega) ?_
        refine r_iload_n (i := 2) F dX6_carry_63 rfl rfl ?_
        refine r_isub F dX6_carry_64 ?_
        refine is_16 F dX6_carry_65 ⟨by decide, by decide⟩ (by omega) (by omega) ?_
        refine r_aload_n (i := 0) F dX6_carry_66 rfl rfl ?_
        refine gf_X6_10 F dX6_carry_67 ?_
        refine r_dup F dX6_carry_70 rfl ?_
        refine gf_X6_103 F dX6_carry_71 ⟨by decide, by decide⟩ ?_
        refine r_iload_n (i := 2) F dX6_carry_74 rfl rfl ?_
        refine r_iadd F dX6_carry_75 ?_
        refine pf_X6_103 F dX6_carry_76 ⟨by decide, by decide⟩ ?_
        refine r_aload_n (i := 0) F dX6_carry_79 rfl rfl ?_
        refine gf_X6_10 F dX6_carry_80 ?_
        refine gf_X6_44 F dX6_carry_83 ⟨by decide, by decide⟩ ?_
        refine r_iload_n (i := 1) F dX6_carry_86 rfl rfl ?_
        refine ia_16 F dX6_carry_87 ⟨by decide, by decide⟩ (by omega) (by omega) ?_
        have e9 : cCarry S x q = 0 := by unfold cCarry; (repeat' split) <;> omega
        exact r_iret F dX6_carry_88 rfl (by rw [e9]; simp [u2]) (by rw [e9] <;> rfl)
      · refine r_aload_n (i := 0) F dX6_carry_47 rfl rfl ?_
        refine r_iconst F dX6_carry_48 ?_
        refine r_callV F C_X6_no dX6_carry_49 lkv_X6_40 rfl rfl rfl rfl rfl cd_X6_no (by decide) ⟨Nat.le_refl _, Nat.le_refl _⟩ (Nat.le_of_ble_eq_true rfl) ?_
        rw [thr_thr]
        have e9 : cCarry S x q = 3 := by unfold cCarry; (repeat' split) <;> omega
        exact r_iret F dX6_carry_52 rfl (by rw [e9] <;> rfl) (by rw [e9] <;> rfl)
    · refine r_aload_n (i := 0) F dX6_carry_28 rfl rfl ?_
      refine r_iconst F dX6_carry_29 ?_
      refine r_callV F C_X6_no dX6_carry_30 lkv_X6_40 rfl rfl rfl rfl rfl cd_X6_no (by decide) ⟨Nat.le_refl _, Nat.le_refl _⟩ (Nat.le_of_ble_eq_true rfl) ?_
      rw [thr_thr]
      have e9 : cCarry S x q = 2 := by unfold cCarry; (repeat' split) <;> omega
      exact r_iret F dX6_carry_33 rfl (by rw [e9] <;> rfl) (by rw [e9] <;> rfl)
  · refine r_aload_n (i := 0) F dX6_carry_12 rfl rfl ?_
    refine r_iconst F dX6_carry_13 ?_
    refine r_callV F C_X6_no dX6_carry_14 lkv_X6_40 rfl rfl rfl rfl rfl cd_X6_no (by decide) ⟨Nat.le_refl _, Nat.le_refl _⟩ (Nat.le_of_ble_eq_true rfl) ?_
    rw [thr_thr]
    have e9 : cCarry S x q = 1 := by unfold cCarry; (repeat' split) <;> omega
    exact r_iret F dX6_carry_17 rfl (by rw [e9] <;> rfl) (by rw [e9] <;> rfl)

set_option maxHeartbeats 4000000 in
set_option maxRecDepth 100000 in
theorem C_X6_lantern {l : Launch} {cy : Nat → ClassId} {D : va_G} {ad : Nat → Nat → Int → Nat} {M : Mem} {S : St} {x : Int} (hI : Inv S) (hx9 : ir x) : Ct l cy D ad yX6_lantern cX6_lantern 3 (some .int) 2 [.ref (ad 13 0 0), .int (i32 x)] (setc M 2 S) (some (.int (i32 (if cLantern S x = 0 then S 20 1 else 0)))) (setc (thr M (cLantern S x)) 2 (if cLantern S x = 0 then sLantern S x else S)) := by
  refine Ct.mk (lv := [some _, some _, none]) 1 (by decide) rfl (Nat.le_of_ble_eq_true rfl) (fun p e s m below meth c F => ?_)
  have ic := hI.pc
  have lq : ∀ n : Nat, (∀ i : Int, 0 ≤ i → i < n → S 4 i ≠ x) → lanQ S x n = false := by
    intro n
    induction n with
    | zero => intro _; rfl
    | succ n ih => intro h; unfold lanQ; rw [ih (fun i g1 g2 => h i g1 (by omega))]; simpa using h n (by omega) (by omega)
  have lt : ∀ (n : Nat) (j : Int), 0 ≤ j → j < n → S 4 j = x → lanQ S x n = true := by
    intro n
    induction n with
    | zero => intro j g1 g2; omega
    | succ n ih => intro j g1 g2 g3; unfold lanQ; by_cases e : j = (n : Int)
                   · subst e; simp [g3]
                   · rw [ih j g1 (by omega) g3]; rfl
  have loop : (0 ≤ x ∧ x ≤ 15) → ∀ (n : Nat) (j : Int), 0 ≤ j → j + (n : Int) = S 20 1 → (∀ i : Int, 0 ≤ i → i < j → S 4 i ≠ x) → V p l e (RM 2) s m ([.ref (ad 13 0 0), .int (i32 x)] : List Value).toArray below meth c 3 cy D ad (Aw ad s.heap.size) 0 0 (MQ below (Qn cy D ad s.heap.size (some (.int (i32 (if cLantern S x = 0 then S 20 1 else 0)))) (setc (thr M (cLantern S x)) 2 (if cLantern S x = 0 then sLantern S x else S))) ([.ref (ad 13 0 0), .int (i32 x)] : List Value).toArray s 0 0 (Aw ad s.heap.size)) 20 [some (.ref (ad 13 0 0)), some (.int (i32 x)), some (.int (i32 j))] [] (setc (thr M 0) 2 S) := by
    intro hx n
    induction n with
    | zero =>
      intro j h0 h1 hb
      have b4 := hI.p4 j
      refine r_iload_n (i := 2) F dX6_lantern_20 rfl rfl ?_
      refine r_aload_n (i := 0) F dX6_lantern_21 rfl rfl ?_
      refine gf_X6_10 F dX6_lantern_22 ?_
      refine gf_X6_27 F dX6_lantern_25 ⟨by decide, by decide⟩ ?_
      refine r_icmp_ge (tgt := 56) F dX6_lantern_28 (by decide) (by first | assumption | exact ir_of (by omega) (by omega)) (by first | assumption | exact ir_of (by omega) (by omega)) (fun h28 => ?_) (fun h28 => ?_)
      · refine r_aload_n (i := 0) F dX6_lantern_56 rfl rfl ?_
        refine gf_X6_10 F dX6_lantern_57 ?_
        refine gf_X6_27 F dX6_lantern_60 ⟨by decide, by decide⟩ ?_
        refine r_iconst F dX6_lantern_63 ?_
        refine r_icmp_ne (tgt := 73) F dX6_lantern_64 (by decide) (by first | assumption | exact ir_of (by omega) (by omega)) (by first | assumption | exact ir_of (by omega) (by omega)) (fun h64 => ?_) (fun h64 => ?_)
        · refine r_aload_n (i := 0) F dX6_lantern_73 rfl rfl ?_
          refine gf_X6_10 F dX6_lantern_74 ?_
          refine gf_X6_60 F dX6_lantern_77 ⟨by decide, by decide⟩ ?_
          refine r_aload_n (i := 0) F dX6_lantern_80 rfl rfl ?_
          refine gf_X6_10 F dX6_lantern_81 ?_
          refine gf_X6_27 F dX6_lantern_84 ⟨by decide, by decide⟩ ?_
          refine r_iload_n (i := 1) F dX6_lantern_87 rfl rfl ?_
          refine is_19 F dX6_lantern_88 ⟨by decide, by decide⟩ (by omega) (by omega) ?_
          refine r_aload_n (i := 0) F dX6_lantern_89 rfl rfl ?_
          refine gf_X6_10 F dX6_lantern_90 ?_
          refine r_dup F dX6_lantern_93 rfl ?_
          refine gf_X6_27 F dX6_lantern_94 ⟨by decide, by decide⟩ ?_
          refine r_iconst F dX6_lantern_97 ?_
          refine r_iadd F dX6_lantern_98 ?_
          refine pf_X6_27 F dX6_lantern_99 ⟨by decide, by decide⟩ ?_
          refine r_aload_n (i := 0) F dX6_lantern_102 rfl rfl ?_
          refine gf_X6_10 F dX6_lantern_103 ?_
          refine gf_X6_27 F dX6_lantern_106 ⟨by decide, by decide⟩ ?_
          refine r_iconst F dX6_lantern_109 ?_
          refine r_isub F dX6_lantern_110 ?_
          have l9 := lq (S 20 1).toNat (fun i g1 g2 => hb i g1 (by omega))
          have e9 : cLantern S x = 0 := by unfold cLantern; rw [if_neg (by omega), if_neg (by omega), l9] <;> rfl
          exact r_iret F dX6_lantern_111 rfl (by rw [e9]; simp [u2]) (by rw [e9] <;> rfl)
        · refine r_aload_n (i := 0) F dX6_lantern_67 rfl rfl ?_
          refine r_iconst F dX6_lantern_68 ?_
          refine r_callV F C_X6_no dX6_lantern_69 lkv_X6_40 rfl rfl rfl rfl rfl cd_X6_no (by decide) ⟨Nat.le_refl _, Nat.le_refl _⟩ (Nat.le_of_ble_eq_true rfl) ?_
          rw [thr_thr]
          have e9 : cLantern S x = 2 := by unfold cLantern; rw [if_neg (by omega), if_pos (by omega)]
          exact r_iret F dX6_lantern_72 rfl (by rw [e9] <;> rfl) (by rw [e9] <;> rfl)
      · exfalso; omega
    | succ n ih =>
      intro j h0 h1 hb
      have b4 := hI.p4 j
      refine r_iload_n (i := 2) F dX6_lantern_20 rfl rfl ?_
      refine r_aload_n (i := 0) F dX6_lantern_21 rfl rfl ?_
      refine gf_X6_10 F dX6_lantern_22 ?_
      refine gf_X6_27 F dX6_lantern_25 ⟨by decide, by decide⟩ ?_
      refine r_icmp_ge (tgt := 56) F dX6_lantern_28 (by decide) (by first | assumption | exact ir_of (by omega) (by omega)) (by first | assumption | exact ir_of (by omega) (by omega)) (fun h28 => ?_) (fun h28 => ?_)
      · exfalso; omega
      · refine r_aload_n (i := 0) F dX6_lantern_31 rfl rfl ?_
        refine gf_X6_10 F dX6_lantern_32 ?_
        refine gf_X6_60 F dX6_lantern_35 ⟨by decide, by decide⟩ ?_
        refine r_iload_n (i := 2) F dX6_lantern_38 rfl rfl ?_
        refine ia_19 F dX6_lantern_39 ⟨by decide, by decide⟩ (by omega) (by omega) ?_
        refine r_iload_n (i := 1) F dX6_lantern_40 rfl rfl ?_
        refine r_icmp_ne (tgt := 50) F dX6_lantern_41 (by decide) (by first | assumption | exact ir_of (by omega) (by omega)) (by first | assumption | exact ir_of (by omega) (by omega)) (fun h41 => ?_) (fun h41 => ?_)
        · refine r_iinc (lv1 := [_, _, _]) F dX6_lantern_50 rfl (by decide) rfl rfl ?_
          refine r_goto (tgt := 20) F dX6_lantern_53 (by decide) ?_
          exact ih (j + 1) (by omega) (by omega) (fun i g1 g2 => if e : i = j then by subst e; exact h41 else hb i g1 (by omega))
        · refine r_aload_n (i := 0) F dX6_lantern_44 rfl rfl ?_
          refine r_iconst F dX6_lantern_45 ?_
          refine r_callV F C_X6_no dX6_lantern_46 lkv_X6_40 rfl rfl rfl rfl rfl cd_X6_no (by decide) ⟨Nat.le_refl _, Nat.le_refl _⟩ (Nat.le_of_ble_eq_true rfl) ?_
          rw [thr_thr]
          have l9 := lt (S 20 1).toNat j h0 (by omega) h41
          have e9 : cLantern S x = 2 := by unfold cLantern; rw [if_neg (by omega), l9]; split <;> rfl
          exact r_iret F dX6_lantern_49 rfl (by rw [e9] <;> rfl) (by rw [e9] <;> rfl)
  refine r_aload_n (i := 0) F dX6_lantern_0 rfl rfl ?_
  refine r_iconst F dX6_lantern_1 ?_
  refine pfT F dX6_lantern_2 ?_
  refine r_iload_n (i := 1) F dX6_lantern_5 rfl rfl ?_
  refine r_callS F (C_X6_isPlace (by assumption)) dX6_lantern_6 lks_X6_36 rfl rfl cd_X6_isPlace (by decide) ⟨Nat.le_refl _, Nat.le_refl _⟩ (Nat.le_of_ble_eq_true rfl) ?_
  refine r_iz_ne (tgt := 18) F dX6_lantern_9 (by decide) (fun h9 => ?_) (fun h9 => ?_)
  · refine r_iconst F dX6_lantern_18 ?_
    refine r_istore_n (i := 2) (lv1 := [_, _, _]) F dX6_lantern_19 rfl (by decide) rfl rfl ?_
    exact loop h9 (S 20 1).toNat 0 (by omega) (by omega) (fun i g1 g2 => by omega)
  · refine r_aload_n (i := 0) F dX6_lantern_12 rfl rfl ?_
    refine r_iconst F dX6_lantern_13 ?_
    refine r_callV F C_X6_no dX6_lantern_14 lkv_X6_40 rfl rfl rfl rfl rfl cd_X6_no (by decide) ⟨Nat.le_refl _, Nat.le_refl _⟩ (Nat.le_of_ble_eq_true rfl) ?_
    rw [thr_thr]
    have e9 : cLantern S x = 1 := by unfold cLantern; rw [if_pos (by omega)]
    exact r_iret F dX6_lantern_17 rfl (by rw [e9] <;> rfl) (by rw [e9] <;> rfl)

set_option maxHeartbeats 4000000 in
set_option maxRecDepth 100000 in
theorem C_X6_state {l : Launch} {cy : Nat → ClassId} {D : va_G} {ad : Nat → Nat → Int → Nat} {M : Mem} {S : St} {x : Int} (hI : Inv S) (hx : 0 ≤ x ∧ x < 6) : Ct l cy D ad yX6_state cX6_state 2 (some .int) 1 [.ref (ad 13 0 0), .int (i32 x)] (setc M 2 S) (some (.int (i32 (stg S x)))) (setc M 2 S) := by
  refine Ct.mk (lv := [some _, some _]) 0 (by decide) rfl (Nat.le_of_ble_eq_true rfl) (fun p e s m below meth c F => ?_)
  have b15 := hI.p15 x
  have b18 := hI.p18 x
  have b13 := hI.p13 x
  refine r_aload_n (i := 0) F dX6_state_0 rfl rfl ?_
  refine gf_X6_10 F dX6_state_1 ?_
  refine gf_X6_97 F dX6_state_4 ⟨by decide, by decide⟩ ?_
  refine r_iload_n (i := 1) F dX6_state_7 rfl rfl ?_
  refine ia_33 F dX6_state_8 ⟨by decide, by decide⟩ (by omega) (by omega) ?_
  refine r_if_eq (tgt := 31) F dX6_state_9 (by decide) (by first | assumption | exact ir_of (by omega) (by omega)) (fun h9 => ?_) (fun h9 => ?_)
  · refine r_aload_n (i := 0) F dX6_state_31 rfl rfl ?_
    refine gf_X6_10 F dX6_state_32 ?_
    refine gf_X6_100 F dX6_state_35 ⟨by decide, by decide⟩ ?_
    refine r_iload_n (i := 1) F dX6_state_38 rfl rfl ?_
    refine ia_30 F dX6_state_39 ⟨by decide, by decide⟩ (by omega) (by omega) ?_
    refine r_iconst F dX6_state_40 ?_
    refine r_icmp_ne (tgt := 48) F dX6_state_41 (by decide) (by first | assumption | exact ir_of (by omega) (by omega)) (by first | assumption | exact ir_of (by omega) (by omega)) (fun h41 => ?_) (fun h41 => ?_)
    · refine r_aload_n (i := 0) F dX6_state_48 rfl rfl ?_
      refine gf_X6_10 F dX6_state_49 ?_
      refine r_iload_n (i := 1) F dX6_state_52 rfl rfl ?_
      refine r_callV F (C_X5_isThere (by decide) hI hx) dX6_state_53 lkv_X6_106 rfl rfl (dm14 ⟨by decide, by decide⟩) rfl rfl cd_X5_isThere (by decide) ⟨Nat.le_refl _, Nat.le_refl _⟩ (Nat.le_of_ble_eq_true rfl) ?_
      refine r_bz_eq (tgt := 63) F dX6_state_56 (by decide) (fun h56 => ?_) (fun h56 => ?_)
      · refine r_iconst F dX6_state_63 ?_
        exact r_iret F dX6_state_64 rfl (by first | (unfold stg; (repeat' split) <;> omega) | (simp [there] at h56; unfold stg; (repeat' split) <;> omega)) rfl
      · refine r_iconst F dX6_state_59 ?_
        refine r_goto (tgt := 64) F dX6_state_60 (by decide) ?_
        exact r_iret F dX6_state_64 rfl (by first | (unfold stg; (repeat' split) <;> omega) | (simp [there] at h56; unfold stg; (repeat' split) <;> omega)) rfl
    · refine r_iconst F dX6_state_44 ?_
      refine r_goto (tgt := 64) F dX6_state_45 (by decide) ?_
      exact r_iret F dX6_state_64 rfl (by first | (unfold stg; (repeat' split) <;> omega) | (simp [there] at h56; unfold stg; (repeat' split) <;> omega)) rfl
  · refine r_aload_n (i := 0) F dX6_state_12 rfl rfl ?_
    refine gf_X6_10 F dX6_state_13 ?_
    refine gf_X6_97 F dX6_state_16 ⟨by decide, by decide⟩ ?_
    refine r_iload_n (i := 1) F dX6_state_19 rfl rfl ?_
    refine ia_33 F dX6_state_20 ⟨by decide, by decide⟩ (by omega) (by omega) ?_
    refine r_iconst F dX6_state_21 ?_
    refine r_icmp_ne (tgt := 29) F dX6_state_22 (by decide) (by first | assumption | exact ir_of (by omega) (by omega)) (by first | assumption | exact ir_of (by omega) (by omega)) (fun h22 => ?_) (fun h22 => ?_)
    · refine r_iconst F dX6_state_29 ?_
      exact r_iret F dX6_state_30 rfl (by first | (unfold stg; (repeat' split) <;> omega) | (simp [there] at h56; unfold stg; (repeat' split) <;> omega)) rfl
    · refine r_iconst F dX6_state_25 ?_
      refine r_goto (tgt := 30) F dX6_state_26 (by decide) ?_
      exact r_iret F dX6_state_30 rfl (by first | (unfold stg; (repeat' split) <;> omega) | (simp [there] at h56; unfold stg; (repeat' split) <;> omega)) rfl

set_option maxHeartbeats 4000000 in
set_option maxRecDepth 100000 in
theorem C_X6_boatTold {l : Launch} {cy : Nat → ClassId} {D : va_G} {ad : Nat → Nat → Int → Nat} {M : Mem} {S : St} {x w : Int} (hI : Inv S) (hx : 0 ≤ x ∧ x < 6) (hw : 0 ≤ w ∧ w ≤ 6) : Ct l cy D ad yX6_boatTold cX6_boatTold 3 (some .int) 2 [.ref (ad 13 0 0), .int (i32 x), .int (i32 w)] (setc M 2 S) (some (.int (i32 (toldF S x w)))) (setc M 2 S) := by
  refine Ct.mk (lv := [some _, some _, some _]) 0 (by decide) rfl (Nat.le_of_ble_eq_true rfl) (fun p e s m below meth c F => ?_)
  refine r_iload_n (i := 2) F dX6_boatTold_0 rfl rfl ?_
  have hq : w = 0 ∨ w = 1 ∨ w = 2 ∨ w = 3 ∨ w = 4 ∨ w = 5 ∨ w = 6 := by omega
  rcases hq with rfl | rfl | rfl | rfl | rfl | rfl | rfl
  · refine r_swIn (tgt := 40) F dX6_boatTold_1 (ir_of (by omega) (by omega)) (by decide) (by decide) rfl (by decide) ?_
    refine r_aload_n (i := 0) F dX6_boatTold_40 rfl rfl ?_
    refine gf_X6_10 F dX6_boatTold_41 ?_
    refine gf_X6_84 F dX6_boatTold_44 ⟨by decide, by decide⟩ ?_
    refine r_iload_n (i := 1) F dX6_boatTold_47 rfl rfl ?_
    refine ia_28 F dX6_boatTold_48 ⟨by decide, by decide⟩ (by omega) (by omega) ?_
    exact r_iret F dX6_boatTold_49 rfl rfl rfl
  · refine r_swIn (tgt := 50) F dX6_boatTold_1 (ir_of (by omega) (by omega)) (by decide) (by decide) rfl (by decide) ?_
    refine r_aload_n (i := 0) F dX6_boatTold_50 rfl rfl ?_
    refine gf_X6_10 F dX6_boatTold_51 ?_
    refine gf_X6_87 F dX6_boatTold_54 ⟨by decide, by decide⟩ ?_
    refine r_iload_n (i := 1) F dX6_boatTold_57 rfl rfl ?_
    refine ia_29 F dX6_boatTold_58 ⟨by decide, by decide⟩ (by omega) (by omega) ?_
    exact r_iret F dX6_boatTold_59 rfl rfl rfl
  · refine r_swIn (tgt := 60) F dX6_boatTold_1 (ir_of (by omega) (by omega)) (by decide) (by decide) rfl (by decide) ?_
    refine r_aload_n (i := 0) F dX6_boatTold_60 rfl rfl ?_
    refine gf_X6_10 F dX6_boatTold_61 ?_
    refine gf_X6_100 F dX6_boatTold_64 ⟨by decide, by decide⟩ ?_
    refine r_iload_n (i := 1) F dX6_boatTold_67 rfl rfl ?_
    refine ia_30 F dX6_boatTold_68 ⟨by decide, by decide⟩ (by omega) (by omega) ?_
    exact r_iret F dX6_boatTold_69 rfl rfl rfl
  · refine r_swIn (tgt := 70) F dX6_boatTold_1 (ir_of (by omega) (by omega)) (by decide) (by decide) rfl (by decide) ?_
    refine r_aload_n (i := 0) F dX6_boatTold_70 rfl rfl ?_
    refine r_iload_n (i := 1) F dX6_boatTold_71 rfl rfl ?_
    refine r_callV F (C_X6_state hI hx) dX6_boatTold_72 lkv_X6_109 rfl rfl rfl rfl rfl cd_X6_state (by decide) ⟨Nat.le_refl _, Nat.le_refl _⟩ (Nat.le_of_ble_eq_true rfl) ?_
    exact r_iret F dX6_boatTold_75 rfl rfl rfl
  · refine r_swIn (tgt := 76) F dX6_boatTold_1 (ir_of (by omega) (by omega)) (by decide) (by decide) rfl (by decide) ?_
    refine r_aload_n (i := 0) F dX6_boatTold_76 rfl rfl ?_
    refine gf_X6_10 F dX6_boatTold_77 ?_
    refine gf_X6_112 F dX6_boatTold_80 ⟨by decide, by decide⟩ ?_
    refine r_iload_n (i := 1) F dX6_boatTold_83 rfl rfl ?_
    refine ia_34 F dX6_boatTold_84 ⟨by decide, by decide⟩ (by omega) (by omega) ?_
    exact r_iret F dX6_boatTold_85 rfl rfl rfl
  · refine r_swIn (tgt := 86) F dX6_boatTold_1 (ir_of (by omega) (by omega)) (by decide) (by decide) rfl (by decide) ?_
    refine r_aload_n (i := 0) F dX6_boatTold_86 rfl rfl ?_
    refine gf_X6_10 F dX6_boatTold_87 ?_
    refine gf_X6_115 F dX6_boatTold_90 ⟨by decide, by decide⟩ ?_
    refine r_iload_n (i := 1) F dX6_boatTold_93 rfl rfl ?_
    refine ia_31 F dX6_boatTold_94 ⟨by decide, by decide⟩ (by omega) (by omega) ?_
    exact r_iret F dX6_boatTold_95 rfl rfl rfl
  · refine r_swOut (tgt := 96) F dX6_boatTold_1 (ir_of (by omega) (by omega)) (by omega) (by decide) ?_
    refine r_aload_n (i := 0) F dX6_boatTold_96 rfl rfl ?_
    refine gf_X6_10 F dX6_boatTold_97 ?_
    refine gf_X6_118 F dX6_boatTold_100 ⟨by decide, by decide⟩ ?_
    refine r_iload_n (i := 1) F dX6_boatTold_103 rfl rfl ?_
    refine ia_32 F dX6_boatTold_104 ⟨by decide, by decide⟩ (by omega) (by omega) ?_
    exact r_iret F dX6_boatTold_105 rfl rfl rfl

set_option maxHeartbeats 4000000 in
set_option maxRecDepth 100000 in
theorem C_X6_watchmanTold {l : Launch} {cy : Nat → ClassId} {D : va_G} {ad : Nat → Nat → Int → Nat} {M : Mem} {S : St} {x w : Int} (hI : Inv S) (hh : 0 ≤ S 20 0 ∧ S 20 0 < 900000) (hx : 0 ≤ x ∧ x < 4) (hw : 0 ≤ w ∧ w ≤ 4) : Ct l cy D ad yX6_watchmanTold cX6_watchmanTold 3 (some .int) 4 [.ref (ad 13 0 0), .int (i32 x), .int (i32 w)] (setc M 2 S) (some (.int (i32 (aboutF S x w)))) (setc M 2 S) := by
  refine Ct.mk (lv := [some _, some _, some _]) 0 (by decide) rfl (Nat.le_of_ble_eq_true rfl) (fun p e s m below meth c F => ?_)
  refine r_iload_n (i := 2) F dX6_watchmanTold_0 rfl rfl ?_
  have hq : w = 0 ∨ w = 1 ∨ w = 2 ∨ w = 3 ∨ w = 4 := by omega
  rcases hq with rfl | rfl | rfl | rfl | rfl
  · refine r_swIn (tgt := 32) F dX6_watchmanTold_1 (ir_of (by omega) (by omega)) (by decide) (by decide) rfl (by decide) ?_
    refine r_aload_n (i := 0) F dX6_watchmanTold_32 rfl rfl ?_
    refine gf_X6_10 F dX6_watchmanTold_33 ?_
    refine gf_X6_78 F dX6_watchmanTold_36 ⟨by decide, by decide⟩ ?_
    refine r_iload_n (i := 1) F dX6_watchmanTold_39 rfl rfl ?_
    refine ia_25 F dX6_watchmanTold_40 ⟨by decide, by decide⟩ (by omega) (by omega) ?_
    exact r_iret F dX6_watchmanTold_41 rfl rfl rfl
  · refine r_swIn (tgt := 42) F dX6_watchmanTold_1 (ir_of (by omega) (by omega)) (by decide) (by decide) rfl (by decide) ?_
    refine r_aload_n (i := 0) F dX6_watchmanTold_42 rfl rfl ?_
    refine gf_X6_10 F dX6_watchmanTold_43 ?_
    refine gf_X6_81 F dX6_watchmanTold_46 ⟨by decide, by decide⟩ ?_
    refine r_iload_n (i := 1) F dX6_watchmanTold_49 rfl rfl ?_
    refine ia_26 F dX6_watchmanTold_50 ⟨by decide, by decide⟩ (by omega) (by omega) ?_
    exact r_iret F dX6_watchmanTold_51 rfl rfl rfl
  · refine r_swIn (tgt := 52) F dX6_watchmanTold_1 (ir_of (by omega) (by omega)) (by decide) (by decide) rfl (by decide) ?_
    refine r_aload_n (i := 0) F dX6_watchmanTold_52 rfl rfl ?_
    refine gf_X6_10 F dX6_watchmanTold_53 ?_
    refine r_iload_n (i := 1) F dX6_watchmanTold_56 rfl rfl ?_
    refine r_callV F (C_X5_sight (by decide) ⟨hh.1, by omega⟩ hx) dX6_watchmanTold_57 lkv_X6_125 rfl rfl (dm14 ⟨by decide, by decide⟩) rfl rfl cd_X5_sight (by decide) ⟨Nat.le_refl _, Nat.le_refl _⟩ (Nat.le_of_ble_eq_true rfl) ?_
    exact r_iret F dX6_watchmanTold_60 rfl rfl rfl
  · refine r_swIn (tgt := 61) F dX6_watchmanTold_1 (ir_of (by omega) (by omega)) (by decide) (by decide) rfl (by decide) ?_
    refine r_aload_n (i := 0) F dX6_watchmanTold_61 rfl rfl ?_
    refine gf_X6_10 F dX6_watchmanTold_62 ?_
    refine r_iload_n (i := 1) F dX6_watchmanTold_65 rfl rfl ?_
    refine r_callV F (C_X5_farSight (by decide) ⟨hh.1, by omega⟩ hx) dX6_watchmanTold_66 lkv_X6_128 rfl rfl (dm14 ⟨by decide, by decide⟩) rfl rfl cd_X5_farSight (by decide) ⟨Nat.le_refl _, Nat.le_refl _⟩ (Nat.le_of_ble_eq_true rfl) ?_
    exact r_iret F dX6_watchmanTold_69 rfl rfl rfl
  · refine r_swOut (tgt := 70) F dX6_watchmanTold_1 (ir_of (by omega) (by omega)) (by omega) (by decide) ?_
    refine r_aload_n (i := 0) F dX6_watchmanTold_70 rfl rfl ?_
    refine gf_X6_10 F dX6_watchmanTold_71 ?_
    refine gf_X6_131 F dX6_watchmanTold_74 ⟨by decide, by decide⟩ ?_
    refine r_iload_n (i := 1) F dX6_watchmanTold_77 rfl rfl ?_
    refine ia_27 F dX6_watchmanTold_78 ⟨by decide, by decide⟩ (by omega) (by omega) ?_
    exact r_iret F dX6_watchmanTold_79 rfl rfl rfl

set_option maxHeartbeats 4000000 in
set_option maxRecDepth 100000 in
theorem C_X6_lightTold {l : Launch} {cy : Nat → ClassId} {D : va_G} {ad : Nat → Nat → Int → Nat} {M : Mem} {S : St} {x w : Int} (hI : Inv S) (hh : 0 ≤ S 20 0 ∧ S 20 0 < 900000) (hx : 0 ≤ x ∧ x < 5) (hw : 0 ≤ w ∧ w ≤ 3) : Ct l cy D ad yX6_lightTold cX6_lightTold 3 (some .int) 5 [.ref (ad 13 0 0), .int (i32 x), .int (i32 w)] (setc M 2 S) (some (.int (i32 (lightF S x w)))) (setc M 2 S) := by
  refine Ct.mk (lv := [some _, some _, some _]) 0 (by decide) rfl (Nat.le_of_ble_eq_true rfl) (fun p e s m below meth c F => ?_)
  refine r_iload_n (i := 2) F dX6_lightTold_0 rfl rfl ?_
  have hq : w = 0 ∨ w = 1 ∨ w = 2 ∨ w = 3 := by omega
  rcases hq with rfl | rfl | rfl | rfl
  · refine r_swIn (tgt := 28) F dX6_lightTold_1 (ir_of (by omega) (by omega)) (by decide) (by decide) rfl (by decide) ?_
    refine r_aload_n (i := 0) F dX6_lightTold_28 rfl rfl ?_
    refine gf_X6_10 F dX6_lightTold_29 ?_
    refine gf_X6_60 F dX6_lightTold_32 ⟨by decide, by decide⟩ ?_
    refine r_iload_n (i := 1) F dX6_lightTold_35 rfl rfl ?_
    refine ia_19 F dX6_lightTold_36 ⟨by decide, by decide⟩ (by omega) (by omega) ?_
    exact r_iret F dX6_lightTold_37 rfl rfl rfl
  · refine r_swIn (tgt := 38) F dX6_lightTold_1 (ir_of (by omega) (by omega)) (by decide) (by decide) rfl (by decide) ?_
    refine r_aload_n (i := 0) F dX6_lightTold_38 rfl rfl ?_
    refine gf_X6_10 F dX6_lightTold_39 ?_
    refine r_iload_n (i := 1) F dX6_lightTold_42 rfl rfl ?_
    refine r_callV F (C_X5_shown (by decide) ⟨hh.1, by omega⟩ hx) dX6_lightTold_43 lkv_X6_140 rfl rfl (dm14 ⟨by decide, by decide⟩) rfl rfl cd_X5_shown (by decide) ⟨Nat.le_refl _, Nat.le_refl _⟩ (Nat.le_of_ble_eq_true rfl) ?_
    exact r_iret F dX6_lightTold_46 rfl rfl rfl
  · refine r_swIn (tgt := 47) F dX6_lightTold_1 (ir_of (by omega) (by omega)) (by decide) (by decide) rfl (by decide) ?_
    refine r_aload_n (i := 0) F dX6_lightTold_47 rfl rfl ?_
    refine gf_X6_10 F dX6_lightTold_48 ?_
    refine r_iload_n (i := 1) F dX6_lightTold_51 rfl rfl ?_
    refine r_callV F (C_X5_watchersOfLight (by decide) hI ⟨hh.1, by omega⟩ hx) dX6_lightTold_52 lkv_X6_143 rfl rfl (dm14 ⟨by decide, by decide⟩) rfl rfl cd_X5_watchersOfLight (by decide) ⟨Nat.le_refl _, Nat.le_refl _⟩ (Nat.le_of_ble_eq_true rfl) ?_
    exact r_iret F dX6_lightTold_55 rfl rfl rfl
  · refine r_swOut (tgt := 56) F dX6_lightTold_1 (ir_of (by omega) (by omega)) (by omega) (by decide) ?_
    refine r_aload_n (i := 0) F dX6_lightTold_56 rfl rfl ?_
    refine gf_X6_10 F dX6_lightTold_57 ?_
    refine gf_X6_146 F dX6_lightTold_60 ⟨by decide, by decide⟩ ?_
    refine r_iload_n (i := 1) F dX6_lightTold_63 rfl rfl ?_
    refine ia_21 F dX6_lightTold_64 ⟨by decide, by decide⟩ (by omega) (by omega) ?_
    exact r_iret F dX6_lightTold_65 rfl rfl rfl

set_option maxHeartbeats 4000000 in
set_option maxRecDepth 100000 in
theorem C_X6_codeTold {l : Launch} {cy : Nat → ClassId} {D : va_G} {ad : Nat → Nat → Int → Nat} {M : Mem} {S : St} {x w : Int} (hI : Inv S) (hx : 0 ≤ x ∧ x < 8) (hw : 0 ≤ w ∧ w ≤ 3) : Ct l cy D ad yX6_codeTold cX6_codeTold 5 (some .int) 1 [.ref (ad 13 0 0), .int (i32 x), .int (i32 w)] (setc M 2 S) (some (.int (i32 (codeF S x w)))) (setc M 2 S) := by
  refine Ct.mk (lv := [some _, some _, some _, none, none]) 2 (by decide) rfl (Nat.le_of_ble_eq_true rfl) (fun p e s m below meth c F => ?_)
  have ic := hI.pc
  have loop58 : w = 3 → ∀ (n : Nat) (j : Int), 0 ≤ j → j + (n : Int) = S 20 3 → V p l e (RM 1) s m ([.ref (ad 13 0 0), .int (i32 x), .int (i32 w)] : List Value).toArray below meth c 5 cy D ad (Aw ad s.heap.size) 0 0 (MQ below (Qn cy D ad s.heap.size (some (.int (i32 (codeF S x w)))) (setc M 2 S)) ([.ref (ad 13 0 0), .int (i32 x), .int (i32 w)] : List Value).toArray s 0 0 (Aw ad s.heap.size)) 58 [some (.ref (ad 13 0 0)), some (.int (i32 x)), some (.int (i32 w)), some (.int (i32 (cnt (ldB S x) j.toNat))), some (.int (i32 j))] [] (setc M 2 S) := by
    intro hw3 n
    induction n with
    | zero =>
      intro j h0 h1
      have b18 := hI.p18 j
      have b16 := hI.p16 j
      refine r_iload F dX6_codeTold_58 rfl ?_
      refine r_aload_n (i := 0) F dX6_codeTold_60 rfl rfl ?_
      refine gf_X6_10 F dX6_codeTold_61 ?_
      refine gf_X6_33 F dX6_codeTold_64 ⟨by decide, by decide⟩ ?_
      refine r_icmp_ge (tgt := 111) F dX6_codeTold_67 (by decide) (by first | assumption | exact ir_of (by omega) (by omega)) (by first | assumption | exact ir_of (by omega) (by omega)) (fun h67 => ?_) (fun h67 => ?_)
      · refine r_iload_n (i := 3) F dX6_codeTold_111 rfl rfl ?_
        exact r_iret F dX6_codeTold_112 rfl (by rw [hw3, show j = S 20 3 by omega] <;> rfl) rfl
      · exfalso; omega
    | succ n ih =>
      intro j h0 h1
      have b18 := hI.p18 j
      have b16 := hI.p16 j
      refine r_iload F dX6_codeTold_58 rfl ?_
      refine r_aload_n (i := 0) F dX6_codeTold_60 rfl rfl ?_
      refine gf_X6_10 F dX6_codeTold_61 ?_
      refine gf_X6_33 F dX6_codeTold_64 ⟨by decide, by decide⟩ ?_
      refine r_icmp_ge (tgt := 111) F dX6_codeTold_67 (by decide) (by first | assumption | exact ir_of (by omega) (by omega)) (by first | assumption | exact ir_of (by omega) (by omega)) (fun h67 => ?_) (fun h67 => ?_)
      · exfalso; omega
      · refine r_iload_n (i := 3) F dX6_codeTold_70 rfl rfl ?_
        refine r_aload_n (i := 0) F dX6_codeTold_71 rfl rfl ?_
        refine gf_X6_10 F dX6_codeTold_72 ?_
        refine gf_X6_97 F dX6_codeTold_75 ⟨by decide, by decide⟩ ?_
        refine r_iload F dX6_codeTold_78 rfl ?_
        refine ia_33 F dX6_codeTold_80 ⟨by decide, by decide⟩ (by omega) (by omega) ?_
        refine r_if_ne (tgt := 102) F dX6_codeTold_81 (by decide) (by first | assumption | exact ir_of (by omega) (by omega)) (fun h81 => ?_) (fun h81 => ?_)
        · refine r_iconst F dX6_codeTold_102 ?_
          refine r_iadd F dX6_codeTold_103 ?_
          refine r_istore_n (i := 3) (lv1 := [_, _, _, _, _]) F dX6_codeTold_104 rfl (by decide) rfl rfl ?_
          refine r_iinc (lv1 := [_, _, _, _, _]) F dX6_codeTold_105 rfl (by decide) rfl rfl ?_
          refine r_goto (tgt := 58) F dX6_codeTold_108 (by decide) ?_
          have t := ih (j + 1) (by omega) (by omega)
          first | (rw [cnt_S _ h0, show (ldB S x) j = true from (by unfold ldB; first | exact decide_eq_true (by first | assumption | omega) | exact decide_eq_false (by first | assumption | omega) | simp [*]), bi_t] at t; exact t) | (rw [cnt_S _ h0, show (ldB S x) j = false from (by unfold ldB; first | exact decide_eq_true (by first | assumption | omega) | exact decide_eq_false (by first | assumption | omega) | simp [*]), bi_f] at t; exact t)
        · refine r_aload_n (i := 0) F dX6_codeTold_84 rfl rfl ?_
          refine gf_X6_10 F dX6_codeTold_85 ?_
          refine gf_X6_115 F dX6_codeTold_88 ⟨by decide, by decide⟩ ?_
          refine r_iload F dX6_codeTold_91 rfl ?_
          refine ia_31 F dX6_codeTold_93 ⟨by decide, by decide⟩ (by omega) (by omega) ?_
          refine r_iload_n (i := 1) F dX6_codeTold_94 rfl rfl ?_
          refine r_icmp_ne (tgt := 102) F dX6_codeTold_95 (by decide) (by first | assumption | exact ir_of (by omega) (by omega)) (by first | assumption | exact ir_of (by omega) (by omega)) (fun h95 => ?_) (fun h95 => ?_)
          · refine r_iconst F dX6_codeTold_102 ?_
            refine r_iadd F dX6_codeTold_103 ?_
            refine r_istore_n (i := 3) (lv1 := [_, _, _, _, _]) F dX6_codeTold_104 rfl (by decide) rfl rfl ?_
            refine r_iinc (lv1 := [_, _, _, _, _]) F dX6_codeTold_105 rfl (by decide) rfl rfl ?_
            refine r_goto (tgt := 58) F dX6_codeTold_108 (by decide) ?_
            have t := ih (j + 1) (by omega) (by omega)
            first | (rw [cnt_S _ h0, show (ldB S x) j = true from (by unfold ldB; first | exact decide_eq_true (by first | assumption | omega) | exact decide_eq_false (by first | assumption | omega) | simp [*]), bi_t] at t; exact t) | (rw [cnt_S _ h0, show (ldB S x) j = false from (by unfold ldB; first | exact decide_eq_true (by first | assumption | omega) | exact decide_eq_false (by first | assumption | omega) | simp [*]), bi_f] at t; exact t)
          · refine r_iconst F dX6_codeTold_98 ?_
            refine r_goto (tgt := 103) F dX6_codeTold_99 (by decide) ?_
            refine r_iadd F dX6_codeTold_103 ?_
            refine r_istore_n (i := 3) (lv1 := [_, _, _, _, _]) F dX6_codeTold_104 rfl (by decide) rfl rfl ?_
            refine r_iinc (lv1 := [_, _, _, _, _]) F dX6_codeTold_105 rfl (by decide) rfl rfl ?_
            refine r_goto (tgt := 58) F dX6_codeTold_108 (by decide) ?_
            have t := ih (j + 1) (by omega) (by omega)
            first | (rw [cnt_S _ h0, show (ldB S x) j = true from (by unfold ldB; first | exact decide_eq_true (by first | assumption | omega) | exact decide_eq_false (by first | assumption | omega) | simp [*]), bi_t] at t; exact t) | (rw [cnt_S _ h0, show (ldB S x) j = false from (by unfold ldB; first | exact decide_eq_true (by first | assumption | omega) | exact decide_eq_false (by first | assumption | omega) | simp [*]), bi_f] at t; exact t)
  refine r_iload_n (i := 2) F dX6_codeTold_0 rfl rfl ?_
  refine r_iconst F dX6_codeTold_1 ?_
  refine r_icmp_ge (tgt := 31) F dX6_codeTold_2 (by decide) (by first | assumption | exact ir_of (by omega) (by omega)) (by first | assumption | exact ir_of (by omega) (by omega)) (fun h2 => ?_) (fun h2 => ?_)
  · refine r_iload_n (i := 2) F dX6_codeTold_31 rfl rfl ?_
    refine r_iconst F dX6_codeTold_32 ?_
    refine r_icmp_ne (tgt := 53) F dX6_codeTold_33 (by decide) (by first | assumption | exact ir_of (by omega) (by omega)) (by first | assumption | exact ir_of (by omega) (by omega)) (fun h33 => ?_) (fun h33 => ?_)
    · refine r_iconst F dX6_codeTold_53 ?_
      refine r_istore_n (i := 3) (lv1 := [_, _, _, _, _]) F dX6_codeTold_54 rfl (by decide) rfl rfl ?_
      refine r_iconst F dX6_codeTold_55 ?_
      refine r_istore (lv1 := [_, _, _, _, _]) F dX6_codeTold_56 (by decide) rfl rfl ?_
      exact loop58 (by omega) (S 20 3).toNat 0 (by omega) (by omega)
    · refine r_aload_n (i := 0) F dX6_codeTold_36 rfl rfl ?_
      refine gf_X6_10 F dX6_codeTold_37 ?_
      refine r_iload_n (i := 1) F dX6_codeTold_40 rfl rfl ?_
      refine r_callV F (C_X5_isKnown (by decide) hx) dX6_codeTold_41 lkv_X6_152 rfl rfl (dm14 ⟨by decide, by decide⟩) rfl rfl cd_X5_isKnown (by decide) ⟨Nat.le_refl _, Nat.le_refl _⟩ (Nat.le_of_ble_eq_true rfl) ?_
      refine r_bz_eq (tgt := 51) F dX6_codeTold_44 (by decide) (fun h44 => ?_) (fun h44 => ?_)
      · refine r_iconst F dX6_codeTold_51 ?_
        exact r_iret F dX6_codeTold_52 rfl (by rw [show w = 2 by omega]; show _ = bi (kn S x); rw [h44] <;> rfl) rfl
      · refine r_iconst F dX6_codeTold_47 ?_
        refine r_goto (tgt := 52) F dX6_codeTold_48 (by decide) ?_
        exact r_iret F dX6_codeTold_52 rfl (by rw [show w = 2 by omega]; show _ = bi (kn S x); rw [h44] <;> rfl) rfl
  · refine r_iload_n (i := 2) F dX6_codeTold_5 rfl rfl ?_
    refine r_if_ne (tgt := 21) F dX6_codeTold_6 (by decide) (by first | assumption | exact ir_of (by omega) (by omega)) (fun h6 => ?_) (fun h6 => ?_)
    · refine r_aload_n (i := 0) F dX6_codeTold_21 rfl rfl ?_
      refine gf_X6_10 F dX6_codeTold_22 ?_
      refine gf_X6_57 F dX6_codeTold_25 ⟨by decide, by decide⟩ ?_
      refine r_iload_n (i := 1) F dX6_codeTold_28 rfl rfl ?_
      refine ia_18 F dX6_codeTold_29 ⟨by decide, by decide⟩ (by omega) (by omega) ?_
      exact r_iret F dX6_codeTold_30 rfl (by first | (rw [show w = 0 by omega] <;> rfl) | (rw [show w = 1 by omega] <;> rfl)) rfl
    · refine r_aload_n (i := 0) F dX6_codeTold_9 rfl rfl ?_
      refine gf_X6_10 F dX6_codeTold_10 ?_
      refine gf_X6_54 F dX6_codeTold_13 ⟨by decide, by decide⟩ ?_
      refine r_iload_n (i := 1) F dX6_codeTold_16 rfl rfl ?_
      refine ia_17 F dX6_codeTold_17 ⟨by decide, by decide⟩ (by omega) (by omega) ?_
      refine r_goto (tgt := 30) F dX6_codeTold_18 (by decide) ?_
      exact r_iret F dX6_codeTold_30 rfl (by first | (rw [show w = 0 by omega] <;> rfl) | (rw [show w = 1 by omega] <;> rfl)) rfl

set_option maxHeartbeats 4000000 in
set_option maxRecDepth 100000 in
theorem C_X6_placeTold {l : Launch} {cy : Nat → ClassId} {D : va_G} {ad : Nat → Nat → Int → Nat} {M : Mem} {S : St} {x w : Int} (hI : Inv S) (hh : 0 ≤ S 20 0 ∧ S 20 0 < 900000) (hx : 0 ≤ x ∧ x < 16) (hw : 0 ≤ w ∧ w ≤ 4) : Ct l cy D ad yX6_placeTold cX6_placeTold 5 (some .int) 5 [.ref (ad 13 0 0), .int (i32 x), .int (i32 w)] (setc M 2 S) (some (.int (i32 (placeF S x w)))) (setc M 2 S) := by
  refine Ct.mk (lv := [some _, some _, some _, none, none]) 2 (by decide) rfl (Nat.le_of_ble_eq_true rfl) (fun p e s m below meth c F => ?_)
  have ic := hI.pc
  have loop55 : w = 2 → ∀ (n : Nat) (j : Int), 0 ≤ j → j + (n : Int) = S 20 2 → V p l e (RM 5) s m ([.ref (ad 13 0 0), .int (i32 x), .int (i32 w)] : List Value).toArray below meth c 5 cy D ad (Aw ad s.heap.size) 0 0 (MQ below (Qn cy D ad s.heap.size (some (.int (i32 (placeF S x w)))) (setc M 2 S)) ([.ref (ad 13 0 0), .int (i32 x), .int (i32 w)] : List Value).toArray s 0 0 (Aw ad s.heap.size)) 55 [some (.ref (ad 13 0 0)), some (.int (i32 x)), some (.int (i32 w)), some (.int (i32 (cnt (atW S x) j.toNat))), some (.int (i32 j))] [] (setc M 2 S) := by
    intro hw3 n
    induction n with
    | zero =>
      intro j h0 h1
      have bw := hI.pw j
      refine r_iload F dX6_placeTold_55 rfl ?_
      refine r_aload_n (i := 0) F dX6_placeTold_57 rfl rfl ?_
      refine gf_X6_10 F dX6_placeTold_58 ?_
      refine gf_X6_30 F dX6_placeTold_61 ⟨by decide, by decide⟩ ?_
      refine r_icmp_ge (tgt := 95) F dX6_placeTold_64 (by decide) (by first | assumption | exact ir_of (by omega) (by omega)) (by first | assumption | exact ir_of (by omega) (by omega)) (fun h64 => ?_) (fun h64 => ?_)
      · refine r_iload_n (i := 3) F dX6_placeTold_95 rfl rfl ?_
        exact r_iret F dX6_placeTold_96 rfl (by rw [hw3, show j = S 20 2 by omega] <;> rfl) rfl
      · exfalso; omega
    | succ n ih =>
      intro j h0 h1
      have bw := hI.pw j
      refine r_iload F dX6_placeTold_55 rfl ?_
      refine r_aload_n (i := 0) F dX6_placeTold_57 rfl rfl ?_
      refine gf_X6_10 F dX6_placeTold_58 ?_
      refine gf_X6_30 F dX6_placeTold_61 ⟨by decide, by decide⟩ ?_
      refine r_icmp_ge (tgt := 95) F dX6_placeTold_64 (by decide) (by first | assumption | exact ir_of (by omega) (by omega)) (by first | assumption | exact ir_of (by omega) (by omega)) (fun h64 => ?_) (fun h64 => ?_)
      · exfalso; omega
      · refine r_iload_n (i := 3) F dX6_placeTold_67 rfl rfl ?_
        refine r_aload_n (i := 0) F dX6_placeTold_68 rfl rfl ?_
        refine gf_X6_10 F dX6_placeTold_69 ?_
        refine gf_X6_78 F dX6_placeTold_72 ⟨by decide, by decide⟩ ?_
        refine r_iload F dX6_placeTold_75 rfl ?_
        refine ia_25 F dX6_placeTold_77 ⟨by decide, by decide⟩ (by omega) (by omega) ?_
        refine r_iload_n (i := 1) F dX6_placeTold_78 rfl rfl ?_
        refine r_icmp_ne (tgt := 86) F dX6_placeTold_79 (by decide) (by first | assumption | exact ir_of (by omega) (by omega)) (by first | assumption | exact ir_of (by omega) (by omega)) (fun h79 => ?_) (fun h79 => ?_)
        · refine r_iconst F dX6_placeTold_86 ?_
          refine r_iadd F dX6_placeTold_87 ?_
          refine r_istore_n (i := 3) (lv1 := [_, _, _, _, _]) F dX6_placeTold_88 rfl (by decide) rfl rfl ?_
          refine r_iinc (lv1 := [_, _, _, _, _]) F dX6_placeTold_89 rfl (by decide) rfl rfl ?_
          refine r_goto (tgt := 55) F dX6_placeTold_92 (by decide) ?_
          have t := ih (j + 1) (by omega) (by omega)
          first | (rw [cnt_S _ h0, show (atW S x) j = true from (by unfold atW; first | exact decide_eq_true (by first | assumption | omega) | exact decide_eq_false (by first | assumption | omega) | simp [*]), bi_t] at t; exact t) | (rw [cnt_S _ h0, show (atW S x) j = false from (by unfold atW; first | exact decide_eq_true (by first | assumption | omega) | exact decide_eq_false (by first | assumption | omega) | simp [*]), bi_f] at t; exact t)
        · refine r_iconst F dX6_placeTold_82 ?_
          refine r_goto (tgt := 87) F dX6_placeTold_83 (by decide) ?_
          refine r_iadd F dX6_placeTold_87 ?_
          refine r_istore_n (i := 3) (lv1 := [_, _, _, _, _]) F dX6_placeTold_88 rfl (by decide) rfl rfl ?_
          refine r_iinc (lv1 := [_, _, _, _, _]) F dX6_placeTold_89 rfl (by decide) rfl rfl ?_
          refine r_goto (tgt := 55) F dX6_placeTold_92 (by decide) ?_
          have t := ih (j + 1) (by omega) (by omega)
          first | (rw [cnt_S _ h0, show (atW S x) j = true from (by unfold atW; first | exact decide_eq_true (by first | assumption | omega) | exact decide_eq_false (by first | assumption | omega) | simp [*]), bi_t] at t; exact t) | (rw [cnt_S _ h0, show (atW S x) j = false from (by unfold atW; first | exact decide_eq_true (by first | assumption | omega) | exact decide_eq_false (by first | assumption | omega) | simp [*]), bi_f] at t; exact t)
  have loop100 : w = 3 → ∀ (n : Nat) (j : Int), 0 ≤ j → j + (n : Int) = S 20 3 → V p l e (RM 5) s m ([.ref (ad 13 0 0), .int (i32 x), .int (i32 w)] : List Value).toArray below meth c 5 cy D ad (Aw ad s.heap.size) 0 0 (MQ below (Qn cy D ad s.heap.size (some (.int (i32 (placeF S x w)))) (setc M 2 S)) ([.ref (ad 13 0 0), .int (i32 x), .int (i32 w)] : List Value).toArray s 0 0 (Aw ad s.heap.size)) 100 [some (.ref (ad 13 0 0)), some (.int (i32 x)), some (.int (i32 w)), some (.int (i32 (cnt (atB S x) j.toNat))), some (.int (i32 j))] [] (setc M 2 S) := by
    intro hw3 n
    induction n with
    | zero =>
      intro j h0 h1
      have b18 := hI.p18 j
      have b13 := hI.p13 j
      refine r_iload F dX6_placeTold_100 rfl ?_
      refine r_aload_n (i := 0) F dX6_placeTold_102 rfl rfl ?_
      refine gf_X6_10 F dX6_placeTold_103 ?_
      refine gf_X6_33 F dX6_placeTold_106 ⟨by decide, by decide⟩ ?_
      refine r_icmp_ge (tgt := 153) F dX6_placeTold_109 (by decide) (by first | assumption | exact ir_of (by omega) (by omega)) (by first | assumption | exact ir_of (by omega) (by omega)) (fun h109 => ?_) (fun h109 => ?_)
      · refine r_iload_n (i := 3) F dX6_placeTold_153 rfl rfl ?_
        exact r_iret F dX6_placeTold_154 rfl (by rw [hw3, show j = S 20 3 by omega] <;> rfl) rfl
      · exfalso; omega
    | succ n ih =>
      intro j h0 h1
      have b18 := hI.p18 j
      have b13 := hI.p13 j
      refine r_iload F dX6_placeTold_100 rfl ?_
      refine r_aload_n (i := 0) F dX6_placeTold_102 rfl rfl ?_
      refine gf_X6_10 F dX6_placeTold_103 ?_
      refine gf_X6_33 F dX6_placeTold_106 ⟨by decide, by decide⟩ ?_
      refine r_icmp_ge (tgt := 153) F dX6_placeTold_109 (by decide) (by first | assumption | exact ir_of (by omega) (by omega)) (by first | assumption | exact ir_of (by omega) (by omega)) (fun h109 => ?_) (fun h109 => ?_)
      · exfalso; omega
      · refine r_iload_n (i := 3) F dX6_placeTold_112 rfl rfl ?_
        refine r_aload_n (i := 0) F dX6_placeTold_113 rfl rfl ?_
        refine gf_X6_10 F dX6_placeTold_114 ?_
        refine gf_X6_97 F dX6_placeTold_117 ⟨by decide, by decide⟩ ?_
        refine r_iload F dX6_placeTold_120 rfl ?_
        refine ia_33 F dX6_placeTold_122 ⟨by decide, by decide⟩ (by omega) (by omega) ?_
        refine r_if_ne (tgt := 144) F dX6_placeTold_123 (by decide) (by first | assumption | exact ir_of (by omega) (by omega)) (fun h123 => ?_) (fun h123 => ?_)
        · refine r_iconst F dX6_placeTold_144 ?_
          refine r_iadd F dX6_placeTold_145 ?_
          refine r_istore_n (i := 3) (lv1 := [_, _, _, _, _]) F dX6_placeTold_146 rfl (by decide) rfl rfl ?_
          refine r_iinc (lv1 := [_, _, _, _, _]) F dX6_placeTold_147 rfl (by decide) rfl rfl ?_
          refine r_goto (tgt := 100) F dX6_placeTold_150 (by decide) ?_
          have t := ih (j + 1) (by omega) (by omega)
          first | (rw [cnt_S _ h0, show (atB S x) j = true from (by unfold atB; first | exact decide_eq_true (by first | assumption | omega) | exact decide_eq_false (by first | assumption | omega) | simp [*]), bi_t] at t; exact t) | (rw [cnt_S _ h0, show (atB S x) j = false from (by unfold atB; first | exact decide_eq_true (by first | assumption | omega) | exact decide_eq_false (by first | assumption | omega) | simp [*]), bi_f] at t; exact t)
        · refine r_aload_n (i := 0) F dX6_placeTold_126 rfl rfl ?_
          refine gf_X6_10 F dX6_placeTold_127 ?_
          refine gf_X6_84 F dX6_placeTold_130 ⟨by decide, by decide⟩ ?_
          refine r_iload F dX6_placeTold_133 rfl ?_
          refine ia_28 F dX6_placeTold_135 ⟨by decide, by decide⟩ (by omega) (by omega) ?_
          refine r_iload_n (i := 1) F dX6_placeTold_136 rfl rfl ?_
          refine r_icmp_ne (tgt := 144) F dX6_placeTold_137 (by decide) (by first | assumption | exact ir_of (by omega) (by omega)) (by first | assumption | exact ir_of (by omega) (by omega)) (fun h137 => ?_) (fun h137 => ?_)
          · refine r_iconst F dX6_placeTold_144 ?_
            refine r_iadd F dX6_placeTold_145 ?_
            refine r_istore_n (i := 3) (lv1 := [_, _, _, _, _]) F dX6_placeTold_146 rfl (by decide) rfl rfl ?_
            refine r_iinc (lv1 := [_, _, _, _, _]) F dX6_placeTold_147 rfl (by decide) rfl rfl ?_
            refine r_goto (tgt := 100) F dX6_placeTold_150 (by decide) ?_
            have t := ih (j + 1) (by omega) (by omega)
            first | (rw [cnt_S _ h0, show (atB S x) j = true from (by unfold atB; first | exact decide_eq_true (by first | assumption | omega) | exact decide_eq_false (by first | assumption | omega) | simp [*]), bi_t] at t; exact t) | (rw [cnt_S _ h0, show (atB S x) j = false from (by unfold atB; first | exact decide_eq_true (by first | assumption | omega) | exact decide_eq_false (by first | assumption | omega) | simp [*]), bi_f] at t; exact t)
          · refine r_iconst F dX6_placeTold_140 ?_
            refine r_goto (tgt := 145) F dX6_placeTold_141 (by decide) ?_
            refine r_iadd F dX6_placeTold_145 ?_
            refine r_istore_n (i := 3) (lv1 := [_, _, _, _, _]) F dX6_placeTold_146 rfl (by decide) rfl rfl ?_
            refine r_iinc (lv1 := [_, _, _, _, _]) F dX6_placeTold_147 rfl (by decide) rfl rfl ?_
            refine r_goto (tgt := 100) F dX6_placeTold_150 (by decide) ?_
            have t := ih (j + 1) (by omega) (by omega)
            first | (rw [cnt_S _ h0, show (atB S x) j = true from (by unfold atB; first | exact decide_eq_true (by first | assumption | omega) | exact decide_eq_false (by first | assumption | omega) | simp [*]), bi_t] at t; exact t) | (rw [cnt_S _ h0, show (atB S x) j = false from (by unfold atB; first | exact decide_eq_true (by first | assumption | omega) | exact decide_eq_false (by first | assumption | omega) | simp [*]), bi_f] at t; exact t)
  refine r_iconst F dX6_placeTold_0 ?_
  refine r_istore_n (i := 3) (lv1 := [_, _, _, _, _]) F dX6_placeTold_1 rfl (by decide) rfl rfl ?_
  refine r_iload_n (i := 2) F dX6_placeTold_2 rfl rfl ?_
  have hq : w = 0 ∨ w = 1 ∨ w = 2 ∨ w = 3 ∨ w = 4 := by omega
  rcases hq with rfl | rfl | rfl | rfl | rfl
  · refine r_swIn (tgt := 32) F dX6_placeTold_3 (ir_of (by omega) (by omega)) (by decide) (by decide) rfl (by decide) ?_
    refine r_aload_n (i := 0) F dX6_placeTold_32 rfl rfl ?_
    refine gf_X6_10 F dX6_placeTold_33 ?_
    refine gf_X6_48 F dX6_placeTold_36 ⟨by decide, by decide⟩ ?_
    refine r_iload_n (i := 1) F dX6_placeTold_39 rfl rfl ?_
    refine ia_15 F dX6_placeTold_40 ⟨by decide, by decide⟩ (by omega) (by omega) ?_
    exact r_iret F dX6_placeTold_41 rfl rfl rfl
  · refine r_swIn (tgt := 42) F dX6_placeTold_3 (ir_of (by omega) (by omega)) (by decide) (by decide) rfl (by decide) ?_
    refine r_aload_n (i := 0) F dX6_placeTold_42 rfl rfl ?_
    refine gf_X6_10 F dX6_placeTold_43 ?_
    refine gf_X6_44 F dX6_placeTold_46 ⟨by decide, by decide⟩ ?_
    refine r_iload_n (i := 1) F dX6_placeTold_49 rfl rfl ?_
    refine ia_16 F dX6_placeTold_50 ⟨by decide, by decide⟩ (by omega) (by omega) ?_
    exact r_iret F dX6_placeTold_51 rfl rfl rfl
  · refine r_swIn (tgt := 52) F dX6_placeTold_3 (ir_of (by omega) (by omega)) (by decide) (by decide) rfl (by decide) ?_
    refine r_iconst F dX6_placeTold_52 ?_
    refine r_istore (lv1 := [_, _, _, _, _]) F dX6_placeTold_53 (by decide) rfl rfl ?_
    exact loop55 rfl (S 20 2).toNat 0 (by omega) (by omega)
  · refine r_swIn (tgt := 97) F dX6_placeTold_3 (ir_of (by omega) (by omega)) (by decide) (by decide) rfl (by decide) ?_
    refine r_iconst F dX6_placeTold_97 ?_
    refine r_istore (lv1 := [_, _, _, _, _]) F dX6_placeTold_98 (by decide) rfl rfl ?_
    exact loop100 rfl (S 20 3).toNat 0 (by omega) (by omega)
  · refine r_swOut (tgt := 155) F dX6_placeTold_3 (ir_of (by omega) (by omega)) (by omega) (by decide) ?_
    refine r_aload_n (i := 0) F dX6_placeTold_155 rfl rfl ?_
    refine gf_X6_10 F dX6_placeTold_156 ?_
    refine r_iload_n (i := 1) F dX6_placeTold_159 rfl rfl ?_
    refine r_callV F (C_X5_watchersOf (by decide) hI ⟨hh.1, by omega⟩ hx) dX6_placeTold_160 lkv_X6_158 rfl rfl (dm14 ⟨by decide, by decide⟩) rfl rfl cd_X5_watchersOf (by decide) ⟨Nat.le_refl _, Nat.le_refl _⟩ (Nat.le_of_ble_eq_true rfl) ?_
    exact r_iret F dX6_placeTold_163 rfl rfl rfl

set_option maxHeartbeats 4000000 in
set_option maxRecDepth 100000 in
theorem C_X6_told {l : Launch} {cy : Nat → ClassId} {D : va_G} {ad : Nat → Nat → Int → Nat} {M : Mem} {S : St} {x w : Int} (hI : Inv S) (hx9 : ir x) (hw9 : ir w) : Ct l cy D ad yX6_told cX6_told 3 (some .int) 3 [.ref (ad 13 0 0), .int (i32 x), .int (i32 w)] (setc M 2 S) (some (.int (i32 (if cRng x 0 (S 20 3 - 1) w 0 6 = 0 then toldF S x w else 0)))) (setc (thr M (cRng x 0 (S 20 3 - 1) w 0 6)) 2 (if cRng x 0 (S 20 3 - 1) w 0 6 = 0 then S else S)) := by
  refine Ct.mk (lv := [some _, some _, some _]) 0 (by decide) rfl (Nat.le_of_ble_eq_true rfl) (fun p e s m below meth c F => ?_)
  have ic := hI.pc
  refine r_aload_n (i := 0) F dX6_told_0 rfl rfl ?_
  refine r_iconst F dX6_told_1 ?_
  refine pfT F dX6_told_2 ?_
  refine r_aload_n (i := 0) F dX6_told_5 rfl rfl ?_
  refine r_iload_n (i := 1) F dX6_told_6 rfl rfl ?_
  refine r_callV F (C_X6_isBoat (by assumption) hI) dX6_told_7 lkv_X6_94 rfl rfl rfl rfl rfl cd_X6_isBoat (by decide) ⟨Nat.le_refl _, Nat.le_refl _⟩ (Nat.le_of_ble_eq_true rfl) ?_
  refine r_iz_eq (tgt := 32) F dX6_told_10 (by decide) (fun h10 => ?_) (fun h10 => ?_)
  · refine r_aload_n (i := 0) F dX6_told_32 rfl rfl ?_
    refine r_iconst F dX6_told_33 ?_
    refine r_callV F C_X6_no dX6_told_34 lkv_X6_40 rfl rfl rfl rfl rfl cd_X6_no (by decide) ⟨Nat.le_refl _, Nat.le_refl _⟩ (Nat.le_of_ble_eq_true rfl) ?_
    rw [thr_thr]
    have e9 : cRng x 0 (S 20 3 - 1) w 0 6 = 1 := by unfold cRng; (repeat' split) <;> omega
    exact r_iret F dX6_told_37 rfl (by rw [e9] <;> rfl) (by rw [e9] <;> rfl)
  · refine r_iload_n (i := 2) F dX6_told_13 rfl rfl ?_
    refine r_iconst F dX6_told_14 ?_
    refine r_bipush F dX6_told_15 (by decide) ?_
    refine r_callS F (C_X6_isIn (by assumption) (ir_of (by omega) (by omega)) (ir_of (by omega) (by omega))) dX6_told_17 lks_X6_23 rfl rfl cd_X6_isIn (by decide) ⟨Nat.le_refl _, Nat.le_refl _⟩ (Nat.le_of_ble_eq_true rfl) ?_
    refine r_iz_eq (tgt := 32) F dX6_told_20 (by decide) (fun h20 => ?_) (fun h20 => ?_)
    · refine r_aload_n (i := 0) F dX6_told_32 rfl rfl ?_
      refine r_iconst F dX6_told_33 ?_
      refine r_callV F C_X6_no dX6_told_34 lkv_X6_40 rfl rfl rfl rfl rfl cd_X6_no (by decide) ⟨Nat.le_refl _, Nat.le_refl _⟩ (Nat.le_of_ble_eq_true rfl) ?_
      rw [thr_thr]
      have e9 : cRng x 0 (S 20 3 - 1) w 0 6 = 1 := by unfold cRng; (repeat' split) <;> omega
      exact r_iret F dX6_told_37 rfl (by rw [e9] <;> rfl) (by rw [e9] <;> rfl)
    · refine r_aload_n (i := 0) F dX6_told_23 rfl rfl ?_
      refine r_iload_n (i := 1) F dX6_told_24 rfl rfl ?_
      refine r_iload_n (i := 2) F dX6_told_25 rfl rfl ?_
      refine r_callV F (C_X6_boatTold hI ⟨by omega, by omega⟩ ⟨by omega, by omega⟩) dX6_told_26 lkv_X6_121 rfl rfl rfl rfl rfl cd_X6_boatTold (by decide) ⟨Nat.le_refl _, Nat.le_refl _⟩ (Nat.le_of_ble_eq_true rfl) ?_
      refine r_goto (tgt := 37) F dX6_told_29 (by decide) ?_
      have e9 : cRng x 0 (S 20 3 - 1) w 0 6 = 0 := by unfold cRng; (repeat' split) <;> omega
      exact r_iret F dX6_told_37 rfl (by rw [e9] <;> rfl) (by rw [e9] <;> rfl)

set_option maxHeartbeats 4000000 in
set_option maxRecDepth 100000 in
theorem C_X6_about {l : Launch} {cy : Nat → ClassId} {D : va_G} {ad : Nat → Nat → Int → Nat} {M : Mem} {S : St} {x w : Int} (hI : Inv S) (hh : 0 ≤ S 20 0 ∧ S 20 0 < 900000) (hx9 : ir x) (hw9 : ir w) : Ct l cy D ad yX6_about cX6_about 3 (some .int) 5 [.ref (ad 13 0 0), .int (i32 x), .int (i32 w)] (setc M 2 S) (some (.int (i32 (if cRng x 0 (S 20 2 - 1) w 0 4 = 0 then aboutF S x w else 0)))) (setc (thr M (cRng x 0 (S 20 2 - 1) w 0 4)) 2 (if cRng x 0 (S 20 2 - 1) w 0 4 = 0 then S else S)) := by
  refine Ct.mk (lv := [some _, some _, some _]) 0 (by decide) rfl (Nat.le_of_ble_eq_true rfl) (fun p e s m below meth c F => ?_)
  have ic := hI.pc
  refine r_aload_n (i := 0) F dX6_about_0 rfl rfl ?_
  refine r_iconst F dX6_about_1 ?_
  refine pfT F dX6_about_2 ?_
  refine r_aload_n (i := 0) F dX6_about_5 rfl rfl ?_
  refine r_iload_n (i := 1) F dX6_about_6 rfl rfl ?_
  refine r_callV F (C_X6_isWatchman (by assumption) hI) dX6_about_7 lkv_X6_134 rfl rfl rfl rfl rfl cd_X6_isWatchman (by decide) ⟨Nat.le_refl _, Nat.le_refl _⟩ (Nat.le_of_ble_eq_true rfl) ?_
  refine r_iz_eq (tgt := 31) F dX6_about_10 (by decide) (fun h10 => ?_) (fun h10 => ?_)
  · refine r_aload_n (i := 0) F dX6_about_31 rfl rfl ?_
    refine r_iconst F dX6_about_32 ?_
    refine r_callV F C_X6_no dX6_about_33 lkv_X6_40 rfl rfl rfl rfl rfl cd_X6_no (by decide) ⟨Nat.le_refl _, Nat.le_refl _⟩ (Nat.le_of_ble_eq_true rfl) ?_
    rw [thr_thr]
    have e9 : cRng x 0 (S 20 2 - 1) w 0 4 = 1 := by unfold cRng; (repeat' split) <;> omega
    exact r_iret F dX6_about_36 rfl (by rw [e9] <;> rfl) (by rw [e9] <;> rfl)
  · refine r_iload_n (i := 2) F dX6_about_13 rfl rfl ?_
    refine r_iconst F dX6_about_14 ?_
    refine r_iconst F dX6_about_15 ?_
    refine r_callS F (C_X6_isIn (by assumption) (ir_of (by omega) (by omega)) (ir_of (by omega) (by omega))) dX6_about_16 lks_X6_23 rfl rfl cd_X6_isIn (by decide) ⟨Nat.le_refl _, Nat.le_refl _⟩ (Nat.le_of_ble_eq_true rfl) ?_
    refine r_iz_eq (tgt := 31) F dX6_about_19 (by decide) (fun h19 => ?_) (fun h19 => ?_)
    · refine r_aload_n (i := 0) F dX6_about_31 rfl rfl ?_
      refine r_iconst F dX6_about_32 ?_
      refine r_callV F C_X6_no dX6_about_33 lkv_X6_40 rfl rfl rfl rfl rfl cd_X6_no (by decide) ⟨Nat.le_refl _, Nat.le_refl _⟩ (Nat.le_of_ble_eq_true rfl) ?_
      rw [thr_thr]
      have e9 : cRng x 0 (S 20 2 - 1) w 0 4 = 1 := by unfold cRng; (repeat' split) <;> omega
      exact r_iret F dX6_about_36 rfl (by rw [e9] <;> rfl) (by rw [e9] <;> rfl)
    · refine r_aload_n (i := 0) F dX6_about_22 rfl rfl ?_
      refine r_iload_n (i := 1) F dX6_about_23 rfl rfl ?_
      refine r_iload_n (i := 2) F dX6_about_24 rfl rfl ?_
      refine r_callV F (C_X6_watchmanTold hI hh ⟨by omega, by omega⟩ ⟨by omega, by omega⟩) dX6_about_25 lkv_X6_137 rfl rfl rfl rfl rfl cd_X6_watchmanTold (by decide) ⟨Nat.le_refl _, Nat.le_refl _⟩ (Nat.le_of_ble_eq_true rfl) ?_
      refine r_goto (tgt := 36) F dX6_about_28 (by decide) ?_
      have e9 : cRng x 0 (S 20 2 - 1) w 0 4 = 0 := by unfold cRng; (repeat' split) <;> omega
      exact r_iret F dX6_about_36 rfl (by rw [e9] <;> rfl) (by rw [e9] <;> rfl)

set_option maxHeartbeats 4000000 in
set_option maxRecDepth 100000 in
theorem C_X6_light {l : Launch} {cy : Nat → ClassId} {D : va_G} {ad : Nat → Nat → Int → Nat} {M : Mem} {S : St} {x w : Int} (hI : Inv S) (hh : 0 ≤ S 20 0 ∧ S 20 0 < 900000) (hx9 : ir x) (hw9 : ir w) : Ct l cy D ad yX6_light cX6_light 3 (some .int) 6 [.ref (ad 13 0 0), .int (i32 x), .int (i32 w)] (setc M 2 S) (some (.int (i32 (if cRng x 0 (S 20 1 - 1) w 0 3 = 0 then lightF S x w else 0)))) (setc (thr M (cRng x 0 (S 20 1 - 1) w 0 3)) 2 (if cRng x 0 (S 20 1 - 1) w 0 3 = 0 then S else S)) := by
  refine Ct.mk (lv := [some _, some _, some _]) 0 (by decide) rfl (Nat.le_of_ble_eq_true rfl) (fun p e s m below meth c F => ?_)
  have ic := hI.pc
  refine r_aload_n (i := 0) F dX6_light_0 rfl rfl ?_
  refine r_iconst F dX6_light_1 ?_
  refine pfT F dX6_light_2 ?_
  refine r_aload_n (i := 0) F dX6_light_5 rfl rfl ?_
  refine r_iload_n (i := 1) F dX6_light_6 rfl rfl ?_
  refine r_callV F (C_X6_isLantern (by assumption) hI) dX6_light_7 lkv_X6_63 rfl rfl rfl rfl rfl cd_X6_isLantern (by decide) ⟨Nat.le_refl _, Nat.le_refl _⟩ (Nat.le_of_ble_eq_true rfl) ?_
  refine r_iz_eq (tgt := 31) F dX6_light_10 (by decide) (fun h10 => ?_) (fun h10 => ?_)
  · refine r_aload_n (i := 0) F dX6_light_31 rfl rfl ?_
    refine r_iconst F dX6_light_32 ?_
    refine r_callV F C_X6_no dX6_light_33 lkv_X6_40 rfl rfl rfl rfl rfl cd_X6_no (by decide) ⟨Nat.le_refl _, Nat.le_refl _⟩ (Nat.le_of_ble_eq_true rfl) ?_
    rw [thr_thr]
    have e9 : cRng x 0 (S 20 1 - 1) w 0 3 = 1 := by unfold cRng; (repeat' split) <;> omega
    exact r_iret F dX6_light_36 rfl (by rw [e9] <;> rfl) (by rw [e9] <;> rfl)
  · refine r_iload_n (i := 2) F dX6_light_13 rfl rfl ?_
    refine r_iconst F dX6_light_14 ?_
    refine r_iconst F dX6_light_15 ?_
    refine r_callS F (C_X6_isIn (by assumption) (ir_of (by omega) (by omega)) (ir_of (by omega) (by omega))) dX6_light_16 lks_X6_23 rfl rfl cd_X6_isIn (by decide) ⟨Nat.le_refl _, Nat.le_refl _⟩ (Nat.le_of_ble_eq_true rfl) ?_
    refine r_iz_eq (tgt := 31) F dX6_light_19 (by decide) (fun h19 => ?_) (fun h19 => ?_)
    · refine r_aload_n (i := 0) F dX6_light_31 rfl rfl ?_
      refine r_iconst F dX6_light_32 ?_
      refine r_callV F C_X6_no dX6_light_33 lkv_X6_40 rfl rfl rfl rfl rfl cd_X6_no (by decide) ⟨Nat.le_refl _, Nat.le_refl _⟩ (Nat.le_of_ble_eq_true rfl) ?_
      rw [thr_thr]
      have e9 : cRng x 0 (S 20 1 - 1) w 0 3 = 1 := by unfold cRng; (repeat' split) <;> omega
      exact r_iret F dX6_light_36 rfl (by rw [e9] <;> rfl) (by rw [e9] <;> rfl)
    · refine r_aload_n (i := 0) F dX6_light_22 rfl rfl ?_
      refine r_iload_n (i := 1) F dX6_light_23 rfl rfl ?_
      refine r_iload_n (i := 2) F dX6_light_24 rfl rfl ?_
      refine r_callV F (C_X6_lightTold hI hh ⟨by omega, by omega⟩ ⟨by omega, by omega⟩) dX6_light_25 lkv_X6_149 rfl rfl rfl rfl rfl cd_X6_lightTold (by decide) ⟨Nat.le_refl _, Nat.le_refl _⟩ (Nat.le_of_ble_eq_true rfl) ?_
      refine r_goto (tgt := 36) F dX6_light_28 (by decide) ?_
      have e9 : cRng x 0 (S 20 1 - 1) w 0 3 = 0 := by unfold cRng; (repeat' split) <;> omega
      exact r_iret F dX6_light_36 rfl (by rw [e9] <;> rfl) (by rw [e9] <;> rfl)

set_option maxHeartbeats 4000000 in
set_option maxRecDepth 100000 in
theorem C_X6_code {l : Launch} {cy : Nat → ClassId} {D : va_G} {ad : Nat → Nat → Int → Nat} {M : Mem} {S : St} {x w : Int} (hI : Inv S) (hx9 : ir x) (hw9 : ir w) : Ct l cy D ad yX6_code cX6_code 3 (some .int) 2 [.ref (ad 13 0 0), .int (i32 x), .int (i32 w)] (setc M 2 S) (some (.int (i32 (if cRng x 1 7 w 0 3 = 0 then codeF S x w else 0)))) (setc (thr M (cRng x 1 7 w 0 3)) 2 (if cRng x 1 7 w 0 3 = 0 then S else S)) := by
  refine Ct.mk (lv := [some _, some _, some _]) 0 (by decide) rfl (Nat.le_of_ble_eq_true rfl) (fun p e s m below meth c F => ?_)
  have ic := hI.pc
  refine r_aload_n (i := 0) F dX6_code_0 rfl rfl ?_
  refine r_iconst F dX6_code_1 ?_
  refine pfT F dX6_code_2 ?_
  refine r_iload_n (i := 1) F dX6_code_5 rfl rfl ?_
  refine r_callS F (C_X6_isCode (by assumption)) dX6_code_6 lks_X6_51 rfl rfl cd_X6_isCode (by decide) ⟨Nat.le_refl _, Nat.le_refl _⟩ (Nat.le_of_ble_eq_true rfl) ?_
  refine r_iz_eq (tgt := 30) F dX6_code_9 (by decide) (fun h9 => ?_) (fun h9 => ?_)
  · refine r_aload_n (i := 0) F dX6_code_30 rfl rfl ?_
    refine r_iconst F dX6_code_31 ?_
    refine r_callV F C_X6_no dX6_code_32 lkv_X6_40 rfl rfl rfl rfl rfl cd_X6_no (by decide) ⟨Nat.le_refl _, Nat.le_refl _⟩ (Nat.le_of_ble_eq_true rfl) ?_
    rw [thr_thr]
    have e9 : cRng x 1 7 w 0 3 = 1 := by unfold cRng; (repeat' split) <;> omega
    exact r_iret F dX6_code_35 rfl (by rw [e9] <;> rfl) (by rw [e9] <;> rfl)
  · refine r_iload_n (i := 2) F dX6_code_12 rfl rfl ?_
    refine r_iconst F dX6_code_13 ?_
    refine r_iconst F dX6_code_14 ?_
    refine r_callS F (C_X6_isIn (by assumption) (ir_of (by omega) (by omega)) (ir_of (by omega) (by omega))) dX6_code_15 lks_X6_23 rfl rfl cd_X6_isIn (by decide) ⟨Nat.le_refl _, Nat.le_refl _⟩ (Nat.le_of_ble_eq_true rfl) ?_
    refine r_iz_eq (tgt := 30) F dX6_code_18 (by decide) (fun h18 => ?_) (fun h18 => ?_)
    · refine r_aload_n (i := 0) F dX6_code_30 rfl rfl ?_
      refine r_iconst F dX6_code_31 ?_
      refine r_callV F C_X6_no dX6_code_32 lkv_X6_40 rfl rfl rfl rfl rfl cd_X6_no (by decide) ⟨Nat.le_refl _, Nat.le_refl _⟩ (Nat.le_of_ble_eq_true rfl) ?_
      rw [thr_thr]
      have e9 : cRng x 1 7 w 0 3 = 1 := by unfold cRng; (repeat' split) <;> omega
      exact r_iret F dX6_code_35 rfl (by rw [e9] <;> rfl) (by rw [e9] <;> rfl)
    · refine r_aload_n (i := 0) F dX6_code_21 rfl rfl ?_
      refine r_iload_n (i := 1) F dX6_code_22 rfl rfl ?_
      refine r_iload_n (i := 2) F dX6_code_23 rfl rfl ?_
      refine r_callV F (C_X6_codeTold hI ⟨by omega, by omega⟩ ⟨by omega, by omega⟩) dX6_code_24 lkv_X6_155 rfl rfl rfl rfl rfl cd_X6_codeTold (by decide) ⟨Nat.le_refl _, Nat.le_refl _⟩ (Nat.le_of_ble_eq_true rfl) ?_
      refine r_goto (tgt := 35) F dX6_code_27 (by decide) ?_
      have e9 : cRng x 1 7 w 0 3 = 0 := by unfold cRng; (repeat' split) <;> omega
      exact r_iret F dX6_code_35 rfl (by rw [e9] <;> rfl) (by rw [e9] <;> rfl)

set_option maxHeartbeats 4000000 in
set_option maxRecDepth 100000 in
theorem C_X6_place {l : Launch} {cy : Nat → ClassId} {D : va_G} {ad : Nat → Nat → Int → Nat} {M : Mem} {S : St} {x w : Int} (hI : Inv S) (hh : 0 ≤ S 20 0 ∧ S 20 0 < 900000) (hx9 : ir x) (hw9 : ir w) : Ct l cy D ad yX6_place cX6_place 3 (some .int) 6 [.ref (ad 13 0 0), .int (i32 x), .int (i32 w)] (setc M 2 S) (some (.int (i32 (if cRng x 0 15 w 0 4 = 0 then placeF S x w else 0)))) (setc (thr M (cRng x 0 15 w 0 4)) 2 (if cRng x 0 15 w 0 4 = 0 then S else S)) := by
  refine Ct.mk (lv := [some _, some _, some _]) 0 (by decide) rfl (Nat.le_of_ble_eq_true rfl) (fun p e s m below meth c F => ?_)
  have ic := hI.pc
  refine r_aload_n (i := 0) F dX6_place_0 rfl rfl ?_
  refine r_iconst F dX6_place_1 ?_
  refine pfT F dX6_place_2 ?_
  refine r_iload_n (i := 1) F dX6_place_5 rfl rfl ?_
  refine r_callS F (C_X6_isPlace (by assumption)) dX6_place_6 lks_X6_36 rfl rfl cd_X6_isPlace (by decide) ⟨Nat.le_refl _, Nat.le_refl _⟩ (Nat.le_of_ble_eq_true rfl) ?_
  refine r_iz_eq (tgt := 30) F dX6_place_9 (by decide) (fun h9 => ?_) (fun h9 => ?_)
  · refine r_aload_n (i := 0) F dX6_place_30 rfl rfl ?_
    refine r_iconst F dX6_place_31 ?_
    refine r_callV F C_X6_no dX6_place_32 lkv_X6_40 rfl rfl rfl rfl rfl cd_X6_no (by decide) ⟨Nat.le_refl _, Nat.le_refl _⟩ (Nat.le_of_ble_eq_true rfl) ?_
    rw [thr_thr]
    have e9 : cRng x 0 15 w 0 4 = 1 := by unfold cRng; (repeat' split) <;> omega
    exact r_iret F dX6_place_35 rfl (by rw [e9] <;> rfl) (by rw [e9] <;> rfl)
  · refine r_iload_n (i := 2) F dX6_place_12 rfl rfl ?_
    refine r_iconst F dX6_place_13 ?_
    refine r_iconst F dX6_place_14 ?_
    refine r_callS F (C_X6_isIn (by assumption) (ir_of (by omega) (by omega)) (ir_of (by omega) (by omega))) dX6_place_15 lks_X6_23 rfl rfl cd_X6_isIn (by decide) ⟨Nat.le_refl _, Nat.le_refl _⟩ (Nat.le_of_ble_eq_true rfl) ?_
    refine r_iz_eq (tgt := 30) F dX6_place_18 (by decide) (fun h18 => ?_) (fun h18 => ?_)
    · refine r_aload_n (i := 0) F dX6_place_30 rfl rfl ?_
      refine r_iconst F dX6_place_31 ?_
      refine r_callV F C_X6_no dX6_place_32 lkv_X6_40 rfl rfl rfl rfl rfl cd_X6_no (by decide) ⟨Nat.le_refl _, Nat.le_refl _⟩ (Nat.le_of_ble_eq_true rfl) ?_
      rw [thr_thr]
      have e9 : cRng x 0 15 w 0 4 = 1 := by unfold cRng; (repeat' split) <;> omega
      exact r_iret F dX6_place_35 rfl (by rw [e9] <;> rfl) (by rw [e9] <;> rfl)
    · refine r_aload_n (i := 0) F dX6_place_21 rfl rfl ?_
      refine r_iload_n (i := 1) F dX6_place_22 rfl rfl ?_
      refine r_iload_n (i := 2) F dX6_place_23 rfl rfl ?_
      refine r_callV F (C_X6_placeTold hI hh ⟨by omega, by omega⟩ ⟨by omega, by omega⟩) dX6_place_24 lkv_X6_161 rfl rfl rfl rfl rfl cd_X6_placeTold (by decide) ⟨Nat.le_refl _, Nat.le_refl _⟩ (Nat.le_of_ble_eq_true rfl) ?_
      refine r_goto (tgt := 35) F dX6_place_27 (by decide) ?_
      have e9 : cRng x 0 15 w 0 4 = 0 := by unfold cRng; (repeat' split) <;> omega
      exact r_iret F dX6_place_35 rfl (by rw [e9] <;> rfl) (by rw [e9] <;> rfl)

set_option maxHeartbeats 4000000 in
set_option maxRecDepth 100000 in
theorem C_X6_moon {l : Launch} {cy : Nat → ClassId} {D : va_G} {ad : Nat → Nat → Int → Nat} {M : Mem} {S : St} {x : Int} (hI : Inv S) (hx9 : ir x) : Ct l cy D ad yX6_moon cX6_moon 2 (some .int) 2 [.ref (ad 13 0 0), .int (i32 x)] (setc M 2 S) (some (.int (i32 (if cRng1 x 0 999 = 0 then moonOf x else 0)))) (setc (thr M (cRng1 x 0 999)) 2 (if cRng1 x 0 999 = 0 then S else S)) := by
  refine Ct.mk (lv := [some _, some _]) 0 (by decide) rfl (Nat.le_of_ble_eq_true rfl) (fun p e s m below meth c F => ?_)
  have ic := hI.pc
  refine r_aload_n (i := 0) F dX6_moon_0 rfl rfl ?_
  refine r_iconst F dX6_moon_1 ?_
  refine pfT F dX6_moon_2 ?_
  refine r_iload_n (i := 1) F dX6_moon_5 rfl rfl ?_
  refine r_iconst F dX6_moon_6 ?_
  refine r_sipush F dX6_moon_7 (by decide) ?_
  refine r_callS F (C_X6_isIn (by assumption) (ir_of (by omega) (by omega)) (ir_of (by omega) (by omega))) dX6_moon_10 lks_X6_23 rfl rfl cd_X6_isIn (by decide) ⟨Nat.le_refl _, Nat.le_refl _⟩ (Nat.le_of_ble_eq_true rfl) ?_
  refine r_iz_eq (tgt := 23) F dX6_moon_13 (by decide) (fun h13 => ?_) (fun h13 => ?_)
  · refine r_aload_n (i := 0) F dX6_moon_23 rfl rfl ?_
    refine r_iconst F dX6_moon_24 ?_
    refine r_callV F C_X6_no dX6_moon_25 lkv_X6_40 rfl rfl rfl rfl rfl cd_X6_no (by decide) ⟨Nat.le_refl _, Nat.le_refl _⟩ (Nat.le_of_ble_eq_true rfl) ?_
    rw [thr_thr]
    have e9 : cRng1 x 0 999 = 1 := by unfold cRng1; (repeat' split) <;> omega
    exact r_iret F dX6_moon_28 rfl (by rw [e9] <;> rfl) (by rw [e9] <;> rfl)
  · refine r_iload_n (i := 1) F dX6_moon_16 rfl rfl ?_
    refine r_callS F (C_X5_moonOf (by omega) (by omega)) dX6_moon_17 lks_X6_164 rfl rfl cd_X5_moonOf (by decide) ⟨Nat.le_refl _, Nat.le_refl _⟩ (Nat.le_of_ble_eq_true rfl) ?_
    refine r_goto (tgt := 28) F dX6_moon_20 (by decide) ?_
    have e9 : cRng1 x 0 999 = 0 := by unfold cRng1; (repeat' split) <;> omega
    exact r_iret F dX6_moon_28 rfl (by rw [e9] <;> rfl) (by rw [e9] <;> rfl)

set_option maxHeartbeats 4000000 in
set_option maxRecDepth 100000 in
theorem C_X6_count {l : Launch} {cy : Nat → ClassId} {D : va_G} {ad : Nat → Nat → Int → Nat} {M : Mem} {S : St} {x : Int} (hI : Inv S) (hx9 : ir x) : Ct l cy D ad yX6_count cX6_count 2 (some .int) 3 [.ref (ad 13 0 0), .int (i32 x)] (setc M 2 S) (some (.int (i32 (if cRng1 x 0 10 = 0 then counted S x else 0)))) (setc (thr M (cRng1 x 0 10)) 2 (if cRng1 x 0 10 = 0 then S else S)) := by
  refine Ct.mk (lv := [some _, some _]) 0 (by decide) rfl (Nat.le_of_ble_eq_true rfl) (fun p e s m below meth c F => ?_)
  have ic := hI.pc
  refine r_aload_n (i := 0) F dX6_count_0 rfl rfl ?_
  refine r_iconst F dX6_count_1 ?_
  refine pfT F dX6_count_2 ?_
  refine r_iload_n (i := 1) F dX6_count_5 rfl rfl ?_
  refine r_iconst F dX6_count_6 ?_
  refine r_bipush F dX6_count_7 (by decide) ?_
  refine r_callS F (C_X6_isIn (by assumption) (ir_of (by omega) (by omega)) (ir_of (by omega) (by omega))) dX6_count_9 lks_X6_23 rfl rfl cd_X6_isIn (by decide) ⟨Nat.le_refl _, Nat.le_refl _⟩ (Nat.le_of_ble_eq_true rfl) ?_
  refine r_iz_eq (tgt := 26) F dX6_count_12 (by decide) (fun h12 => ?_) (fun h12 => ?_)
  · refine r_aload_n (i := 0) F dX6_count_26 rfl rfl ?_
    refine r_iconst F dX6_count_27 ?_
    refine r_callV F C_X6_no dX6_count_28 lkv_X6_40 rfl rfl rfl rfl rfl cd_X6_no (by decide) ⟨Nat.le_refl _, Nat.le_refl _⟩ (Nat.le_of_ble_eq_true rfl) ?_
    rw [thr_thr]
    have e9 : cRng1 x 0 10 = 1 := by unfold cRng1; (repeat' split) <;> omega
    exact r_iret F dX6_count_31 rfl (by rw [e9] <;> rfl) (by rw [e9] <;> rfl)
  · refine r_aload_n (i := 0) F dX6_count_15 rfl rfl ?_
    refine gf_X6_10 F dX6_count_16 ?_
    refine r_iload_n (i := 1) F dX6_count_19 rfl rfl ?_
    refine r_callV F (C_X5_counted (by decide) hI ⟨by omega, by omega⟩) dX6_count_20 lkv_X6_167 rfl rfl (dm14 ⟨by decide, by decide⟩) rfl rfl cd_X5_counted (by decide) ⟨Nat.le_refl _, Nat.le_refl _⟩ (Nat.le_of_ble_eq_true rfl) ?_
    refine r_goto (tgt := 31) F dX6_count_23 (by decide) ?_
    have e9 : cRng1 x 0 10 = 0 := by unfold cRng1; (repeat' split) <;> omega
    exact r_iret F dX6_count_31 rfl (by rw [e9] <;> rfl) (by rw [e9] <;> rfl)

set_option maxHeartbeats 4000000 in
set_option maxRecDepth 100000 in
theorem C_X6_goOn {l : Launch} {cy : Nat → ClassId} {D : va_G} {ad : Nat → Nat → Int → Nat} {M : Mem} {k : Nat} {S : St} {h : Int} (hc : 2 ≤ k ∧ k < 4) (hI : Inv S) (hh : 0 ≤ S 20 0 ∧ S 20 0 < 900000) (hx : 0 ≤ h ∧ h ≤ 60) : Ct l cy D ad yX6_goOn cX6_goOn 4 (some .int) 7 [.ref (ad 14 k 0), .int (i32 h)] (setc M k S) (some (.int (i32 (goS S h.toNat)))) (setc M k (goN S h.toNat)) := by
  refine Ct.mk (lv := [some _, some _, none, none]) 2 (by decide) rfl (Nat.le_of_ble_eq_true rfl) (fun p e s m below meth c F => ?_)
  have loop : ∀ (n : Nat) (j : Int) (S1 : St), 0 ≤ j → j + (n : Int) = h → S1 = goN S j.toNat → V p l e (RM 7) s m ([.ref (ad 14 k 0), .int (i32 h)] : List Value).toArray below meth c 4 cy D ad (Aw ad s.heap.size) 0 0 (MQ below (Qn cy D ad s.heap.size (some (.int (i32 (goS S h.toNat)))) (setc M k (goN S h.toNat))) ([.ref (ad 14 k 0), .int (i32 h)] : List Value).toArray s 0 0 (Aw ad s.heap.size)) 4 [some (.ref (ad 14 k 0)), some (.int (i32 h)), some (.int (i32 (goS S j.toNat))), some (.int (i32 j))] [] (setc M k S1) := by
    intro n
    induction n with
    | zero =>
      intro j S1 h0 h1 hS
      have hI1 : Inv S1 := by rw [hS]; exact goN_inv hI _
      have e0 := goN_hour S j.toNat
      rw [← hS] at e0
      refine r_iload_n (i := 3) F dX6_goOn_4 rfl rfl ?_
      refine r_iload_n (i := 1) F dX6_goOn_5 rfl rfl ?_
      refine r_icmp_ge (tgt := 22) F dX6_goOn_6 (by decide) (by first | assumption | exact ir_of (by omega) (by omega)) (by first | assumption | exact ir_of (by omega) (by omega)) (fun h6 => ?_) (fun h6 => ?_)
      · refine r_iload_n (i := 2) F dX6_goOn_22 rfl rfl ?_
        exact r_iret F dX6_goOn_23 rfl (by rw [show j = h by omega]) (by rw [hS, show j = h by omega])
      · exfalso; omega
    | succ n ih =>
      intro j S1 h0 h1 hS
      have hI1 : Inv S1 := by rw [hS]; exact goN_inv hI _
      have e0 := goN_hour S j.toNat
      rw [← hS] at e0
      refine r_iload_n (i := 3) F dX6_goOn_4 rfl rfl ?_
      refine r_iload_n (i := 1) F dX6_goOn_5 rfl rfl ?_
      refine r_icmp_ge (tgt := 22) F dX6_goOn_6 (by decide) (by first | assumption | exact ir_of (by omega) (by omega)) (by first | assumption | exact ir_of (by omega) (by omega)) (fun h6 => ?_) (fun h6 => ?_)
      · exfalso; omega
      · refine r_iload_n (i := 2) F dX6_goOn_9 rfl rfl ?_
        refine r_aload_n (i := 0) F dX6_goOn_10 rfl rfl ?_
        refine r_callV F (C_X5_go hc hI1 (by omega)) dX6_goOn_11 lkv_X6_170 rfl rfl (dm14 hc) rfl rfl cd_X5_go (by decide) ⟨Nat.le_refl _, Nat.le_refl _⟩ (Nat.le_of_ble_eq_true rfl) ?_
        refine r_iadd F dX6_goOn_14 ?_
        refine r_istore_n (i := 2) (lv1 := [_, _, _, _]) F dX6_goOn_15 rfl (by decide) rfl rfl ?_
        refine r_iinc (lv1 := [_, _, _, _]) F dX6_goOn_16 rfl (by decide) rfl rfl ?_
        refine r_goto (tgt := 4) F dX6_goOn_19 (by decide) ?_
        have t := ih (j + 1) (go S1) (by omega) (by omega) (by rw [goN_S _ h0, ← hS])
        rw [goS_S _ h0, ← hS] at t
        exact t
  refine r_iconst F dX6_goOn_0 ?_
  refine r_istore_n (i := 2) (lv1 := [_, _, _, _]) F dX6_goOn_1 rfl (by decide) rfl rfl ?_
  refine r_iconst F dX6_goOn_2 ?_
  refine r_istore_n (i := 3) (lv1 := [_, _, _, _]) F dX6_goOn_3 rfl (by decide) rfl rfl ?_
  exact loop h.toNat 0 S (by omega) (by omega) rfl

set_option maxHeartbeats 4000000 in
set_option maxRecDepth 100000 in
theorem C_X6_pass {l : Launch} {cy : Nat → ClassId} {D : va_G} {ad : Nat → Nat → Int → Nat} {M : Mem} {S : St} {x : Int} (hI : Inv S) (hh : 0 ≤ S 20 0 ∧ S 20 0 < 900000) (hx9 : ir x) : Ct l cy D ad yX6_pass cX6_pass 2 (some .int) 8 [.ref (ad 13 0 0), .int (i32 x)] (setc M 2 S) (some (.int (i32 (if cRng1 x 1 60 = 0 then goS S x.toNat else 0)))) (setc (thr M (cRng1 x 1 60)) 2 (if cRng1 x 1 60 = 0 then (goN S x.toNat) else S)) := by
  refine Ct.mk (lv := [some _, some _]) 0 (by decide) rfl (Nat.le_of_ble_eq_true rfl) (fun p e s m below meth c F => ?_)
  have ic := hI.pc
  refine r_aload_n (i := 0) F dX6_pass_0 rfl rfl ?_
  refine r_iconst F dX6_pass_1 ?_
  refine pfT F dX6_pass_2 ?_
  refine r_iload_n (i := 1) F dX6_pass_5 rfl rfl ?_
  refine r_iconst F dX6_pass_6 ?_
  refine r_bipush F dX6_pass_7 (by decide) ?_
  refine r_callS F (C_X6_isIn (by assumption) (ir_of (by omega) (by omega)) (ir_of (by omega) (by omega))) dX6_pass_9 lks_X6_23 rfl rfl cd_X6_isIn (by decide) ⟨Nat.le_refl _, Nat.le_refl _⟩ (Nat.le_of_ble_eq_true rfl) ?_
  refine r_iz_eq (tgt := 26) F dX6_pass_12 (by decide) (fun h12 => ?_) (fun h12 => ?_)
  · refine r_aload_n (i := 0) F dX6_pass_26 rfl rfl ?_
    refine r_iconst F dX6_pass_27 ?_
    refine r_callV F C_X6_no dX6_pass_28 lkv_X6_40 rfl rfl rfl rfl rfl cd_X6_no (by decide) ⟨Nat.le_refl _, Nat.le_refl _⟩ (Nat.le_of_ble_eq_true rfl) ?_
    rw [thr_thr]
    have e9 : cRng1 x 1 60 = 1 := by unfold cRng1; (repeat' split) <;> omega
    exact r_iret F dX6_pass_31 rfl (by rw [e9] <;> rfl) (by rw [e9] <;> rfl)
  · refine r_aload_n (i := 0) F dX6_pass_15 rfl rfl ?_
    refine gf_X6_10 F dX6_pass_16 ?_
    refine r_iload_n (i := 1) F dX6_pass_19 rfl rfl ?_
    refine r_callS F (C_X6_goOn (by decide) hI hh ⟨by omega, by omega⟩) dX6_pass_20 lks_X6_174 rfl rfl cd_X6_goOn (by decide) ⟨Nat.le_refl _, Nat.le_refl _⟩ (Nat.le_of_ble_eq_true rfl) ?_
    refine r_goto (tgt := 31) F dX6_pass_23 (by decide) ?_
    have e9 : cRng1 x 1 60 = 0 := by unfold cRng1; (repeat' split) <;> omega
    exact r_iret F dX6_pass_31 rfl (by rw [e9] <;> rfl) (by rw [e9] <;> rfl)
