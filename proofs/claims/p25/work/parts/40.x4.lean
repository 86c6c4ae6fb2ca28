/-! The class: its calls where they return. -/
set_option maxHeartbeats 4000000 in
set_option maxRecDepth 100000 in
theorem C_X4_setRoom {l : Launch} {cy : Nat → ClassId} {D : va_G} {ad : Nat → Nat → Int → Nat} {M : Mem} {S : St} {x q : Int}  (hI : Inv S) (hx9 : ir x) (hq9 : ir q) (h0 : cSetRoom S x q = 0) : Ct l cy D ad yX4_setRoom cX4_setRoom 4 (some FieldType.int) 1 [.ref (ad 0 0 0), .int (i32 x), .int (i32 q)] (setc M 0 S) (some (.int (i32 (S 0 x)))) (setc M 0 (u2 S 0 x q)) := by
  refine Ct.mk (lv := [some _, some _, some _, none]) 1 (by decide) rfl (Nat.le_of_ble_eq_true rfl) (fun p e s m below meth c F => ?_)
  have ic := hI.pc
  have b1 := hI.p01 x
  have hok : (0 ≤ x ∧ x ≤ 15) ∧ (0 ≤ q ∧ q ≤ 30) ∧ S 1 x ≤ q := by unfold cSetRoom at h0; (repeat' split at h0) <;> omega
  refine r_iload_n (i := 1) F dX4_setRoom_0 rfl rfl ?_
  refine r_callS F (C_X4_requirePlace (by assumption) ⟨by omega, by omega⟩) dX4_setRoom_1 lks_X4_19 rfl rfl cd_X4_requirePlace (by decide) ⟨Nat.le_refl _, Nat.le_refl _⟩ (Nat.le_of_ble_eq_true rfl) ?_
  refine r_iload_n (i := 2) F dX4_setRoom_4 rfl rfl ?_
  refine r_if_lt (tgt := 14) F dX4_setRoom_5 (by decide) (by first | assumption | exact ir_of (by omega) (by omega)) (fun h5 => ?_) (fun h5 => ?_)
  · exfalso; omega
  · refine r_iload_n (i := 2) F dX4_setRoom_8 rfl rfl ?_
    refine r_bipush F dX4_setRoom_9 (by decide) ?_
    refine r_icmp_le (tgt := 24) F dX4_setRoom_11 (by decide) (by first | assumption | exact ir_of (by omega) (by omega)) (by first | assumption | exact ir_of (by omega) (by omega)) (fun h11 => ?_) (fun h11 => ?_)
    · refine r_aload_n (i := 0) F dX4_setRoom_24 rfl rfl ?_
      refine gf_X4_10 F dX4_setRoom_25 ?_
      refine gf_X4_30 F dX4_setRoom_28 (by decide) ?_
      refine r_iload_n (i := 1) F dX4_setRoom_31 rfl rfl ?_
      refine ia_3 F dX4_setRoom_32 (by decide) (by omega) (by omega) ?_
      refine r_iload_n (i := 2) F dX4_setRoom_33 rfl rfl ?_
      refine r_icmp_le (tgt := 47) F dX4_setRoom_34 (by decide) (by first | assumption | exact ir_of (by omega) (by omega)) (by first | assumption | exact ir_of (by omega) (by omega)) (fun h34 => ?_) (fun h34 => ?_)
      · refine r_aload_n (i := 0) F dX4_setRoom_47 rfl rfl ?_
        refine gf_X4_10 F dX4_setRoom_48 ?_
        refine gf_X4_39 F dX4_setRoom_51 (by decide) ?_
        refine r_iload_n (i := 1) F dX4_setRoom_54 rfl rfl ?_
        refine ia_2 F dX4_setRoom_55 (by decide) (by omega) (by omega) ?_
        refine r_istore_n (i := 3) (lv1 := [_, _, _, _]) F dX4_setRoom_56 rfl (by decide) rfl rfl ?_
        refine r_aload_n (i := 0) F dX4_setRoom_57 rfl rfl ?_
        refine gf_X4_10 F dX4_setRoom_58 ?_
        refine gf_X4_39 F dX4_setRoom_61 (by decide) ?_
        refine r_iload_n (i := 1) F dX4_setRoom_64 rfl rfl ?_
        refine r_iload_n (i := 2) F dX4_setRoom_65 rfl rfl ?_
        refine is_2 F dX4_setRoom_66 (by decide) (by omega) (by omega) ?_
        refine r_iload_n (i := 3) F dX4_setRoom_67 rfl rfl ?_
        exact r_iret F dX4_setRoom_68 rfl rfl rfl
      · exfalso; omega
    · exfalso; omega
set_option maxHeartbeats 4000000 in
set_option maxRecDepth 100000 in
theorem C_X4_setCode {l : Launch} {cy : Nat → ClassId} {D : va_G} {ad : Nat → Nat → Int → Nat} {M : Mem} {S : St} {x q : Int}  (hI : Inv S) (hx9 : ir x) (hq9 : ir q) (h0 : cSetCode x q = 0) : Ct l cy D ad yX4_setCode cX4_setCode 4 (some FieldType.int) 1 [.ref (ad 0 0 0), .int (i32 x), .int (i32 q)] (setc M 0 S) (some (.int (i32 (S 2 x)))) (setc M 0 (u2 (u2 S 2 x q) 3 x 0)) := by
  refine Ct.mk (lv := [some _, some _, some _, none]) 1 (by decide) rfl (Nat.le_of_ble_eq_true rfl) (fun p e s m below meth c F => ?_)
  have ic := hI.pc
  have hok : (1 ≤ x ∧ x ≤ 7) ∧ (-1 ≤ q ∧ q ≤ 15) := by unfold cSetCode at h0; (repeat' split at h0) <;> omega
  refine r_iload_n (i := 1) F dX4_setCode_0 rfl rfl ?_
  refine r_callS F (C_X4_requireCode (by assumption) ⟨by omega, by omega⟩) dX4_setCode_1 lks_X4_42 rfl rfl cd_X4_requireCode (by decide) ⟨Nat.le_refl _, Nat.le_refl _⟩ (Nat.le_of_ble_eq_true rfl) ?_
  refine r_iload_n (i := 2) F dX4_setCode_4 rfl rfl ?_
  refine r_callS F (C_X4_requirePlaceOrNone (by assumption) ⟨by omega, by omega⟩) dX4_setCode_5 lks_X4_45 rfl rfl cd_X4_requirePlaceOrNone (by decide) ⟨Nat.le_refl _, Nat.le_refl _⟩ (Nat.le_of_ble_eq_true rfl) ?_
  refine r_aload_n (i := 0) F dX4_setCode_8 rfl rfl ?_
  refine gf_X4_10 F dX4_setCode_9 ?_
  refine gf_X4_48 F dX4_setCode_12 (by decide) ?_
  refine r_iload_n (i := 1) F dX4_setCode_15 rfl rfl ?_
  refine ia_4 F dX4_setCode_16 (by decide) (by omega) (by omega) ?_
  refine r_istore_n (i := 3) (lv1 := [_, _, _, _]) F dX4_setCode_17 rfl (by decide) rfl rfl ?_
  refine r_aload_n (i := 0) F dX4_setCode_18 rfl rfl ?_
  refine gf_X4_10 F dX4_setCode_19 ?_
  refine gf_X4_48 F dX4_setCode_22 (by decide) ?_
  refine r_iload_n (i := 1) F dX4_setCode_25 rfl rfl ?_
  refine r_iload_n (i := 2) F dX4_setCode_26 rfl rfl ?_
  refine is_4 F dX4_setCode_27 (by decide) (by omega) (by omega) ?_
  refine r_aload_n (i := 0) F dX4_setCode_28 rfl rfl ?_
  refine gf_X4_10 F dX4_setCode_29 ?_
  refine gf_X4_51 F dX4_setCode_32 (by decide) ?_
  refine r_iload_n (i := 1) F dX4_setCode_35 rfl rfl ?_
  refine r_iconst F dX4_setCode_36 ?_
  refine is_5 F dX4_setCode_37 (by decide) (by omega) (by omega) ?_
  refine r_iload_n (i := 3) F dX4_setCode_38 rfl rfl ?_
  exact r_iret F dX4_setCode_39 rfl rfl rfl
set_option maxHeartbeats 4000000 in
set_option maxRecDepth 100000 in
theorem C_X4_lantern {l : Launch} {cy : Nat → ClassId} {D : va_G} {ad : Nat → Nat → Int → Nat} {M : Mem} {S : St} {x : Int}  (hI : Inv S) (hx9 : ir x) (h0 : cLantern S x = 0) : Ct l cy D ad yX4_lantern cX4_lantern 3 (some FieldType.int) 1 [.ref (ad 0 0 0), .int (i32 x)] (setc M 0 S) (some (.int (i32 (S 20 1)))) (setc M 0 (sLantern S x)) := by
  refine Ct.mk (lv := [some _, some _, none]) 1 (by decide) rfl (Nat.le_of_ble_eq_true rfl) (fun p e s m below meth c F => ?_)
  have ic := hI.pc
  have hq : lanQ S x (S 20 1).toNat = false := by
    unfold cLantern at h0
    by_cases z1 : ¬ (0 ≤ x ∧ x ≤ 15)
    · rw [if_pos z1] at h0; omega
    · rw [if_neg z1] at h0
      by_cases z2 : 5 ≤ S 20 1
      · rw [if_pos z2] at h0; omega
      · rw [if_neg z2] at h0
        cases z3 : lanQ S x (S 20 1).toNat
        · rfl
        · rw [z3, if_pos rfl] at h0; omega
  have hok : (0 ≤ x ∧ x ≤ 15) ∧ S 20 1 < 5 := by unfold cLantern at h0; (repeat' split at h0) <;> omega
  refine r_iload_n (i := 1) F dX4_lantern_0 rfl rfl ?_
  refine r_callS F (C_X4_requirePlace (by assumption) ⟨by omega, by omega⟩) dX4_lantern_1 lks_X4_19 rfl rfl cd_X4_requirePlace (by decide) ⟨Nat.le_refl _, Nat.le_refl _⟩ (Nat.le_of_ble_eq_true rfl) ?_
  refine r_aload_n (i := 0) F dX4_lantern_4 rfl rfl ?_
  refine gf_X4_10 F dX4_lantern_5 ?_
  refine gf_X4_54 F dX4_lantern_8 (by decide) ?_
  refine r_iconst F dX4_lantern_11 ?_
  refine r_icmp_lt (tgt := 25) F dX4_lantern_12 (by decide) (by first | assumption | exact ir_of (by omega) (by omega)) (by first | assumption | exact ir_of (by omega) (by omega)) (fun h12 => ?_) (fun h12 => ?_)
  · refine r_aload_n (i := 0) F dX4_lantern_25 rfl rfl ?_
    refine gf_X4_10 F dX4_lantern_26 ?_
    refine r_iload_n (i := 1) F dX4_lantern_29 rfl rfl ?_
    refine r_callV F (C_X1_hasLanternAt (by decide) hI ⟨by omega, by omega⟩) dX4_lantern_30 lkv_X4_60 rfl rfl (dm1 ⟨by decide, by decide⟩ (by decide)) rfl rfl cd_X1_hasLanternAt (by decide) ⟨Nat.le_refl _, Nat.le_refl _⟩ (Nat.le_of_ble_eq_true rfl) ?_
    refine r_bz_eq (tgt := 46) F dX4_lantern_33 (by decide) (fun h33 => ?_) (fun h33 => ?_)
    · refine r_aload_n (i := 0) F dX4_lantern_46 rfl rfl ?_
      refine gf_X4_10 F dX4_lantern_47 ?_
      refine gf_X4_54 F dX4_lantern_50 (by decide) ?_
      refine r_istore_n (i := 2) (lv1 := [_, _, _]) F dX4_lantern_53 rfl (by decide) rfl rfl ?_
      refine r_aload_n (i := 0) F dX4_lantern_54 rfl rfl ?_
      refine gf_X4_10 F dX4_lantern_55 ?_
      refine gf_X4_66 F dX4_lantern_58 (by decide) ?_
      refine r_iload_n (i := 2) F dX4_lantern_61 rfl rfl ?_
      refine aa_6 F dX4_lantern_62 (by decide) (by omega) (by omega) ?_
      refine r_iload_n (i := 1) F dX4_lantern_63 rfl rfl ?_
      refine pf_X4_70 F dX4_lantern_64 (by decide) (by omega) (by omega) ?_
      refine r_aload_n (i := 0) F dX4_lantern_67 rfl rfl ?_
      refine gf_X4_10 F dX4_lantern_68 ?_
      refine r_iload_n (i := 2) F dX4_lantern_71 rfl rfl ?_
      refine r_iconst F dX4_lantern_72 ?_
      refine r_iadd F dX4_lantern_73 ?_
      refine pf_X4_54 F dX4_lantern_74 (by decide) ?_
      refine r_iload_n (i := 2) F dX4_lantern_77 rfl rfl ?_
      exact r_iret F dX4_lantern_78 rfl rfl rfl
    · exfalso; first | omega | exact absurd (h33.symm.trans hq) (by decide)
  · exfalso; first | omega | exact absurd (h33.symm.trans hq) (by decide)
set_option maxHeartbeats 4000000 in
set_option maxRecDepth 100000 in
theorem C_X4_setShow {l : Launch} {cy : Nat → ClassId} {D : va_G} {ad : Nat → Nat → Int → Nat} {M : Mem} {S : St} {x w q : Int}  (hI : Inv S) (hx9 : ir x) (hw9 : ir w) (hq9 : ir q) (h0 : cSetShow S x w q = 0) : Ct l cy D ad yX4_setShow cX4_setShow 6 (some FieldType.int) 1 [.ref (ad 0 0 0), .int (i32 x), .int (i32 w), .int (i32 q)] (setc M 0 S) (some (.int (i32 (S 5 (10 * x + w))))) (setc M 0 (u2 S 5 (10 * x + w) q)) := by
  refine Ct.mk (lv := [some _, some _, some _, some _, none, none]) 2 (by decide) rfl (Nat.le_of_ble_eq_true rfl) (fun p e s m below meth c F => ?_)
  have ic := hI.pc
  have hok : (0 ≤ x ∧ x ≤ S 20 1 - 1) ∧ (0 ≤ w ∧ w ≤ 9) ∧ (0 ≤ q ∧ q ≤ 7) := by unfold cSetShow at h0; (repeat' split at h0) <;> omega
  refine r_aload_n (i := 0) F dX4_setShow_0 rfl rfl ?_
  refine r_iload_n (i := 1) F dX4_setShow_1 rfl rfl ?_
  refine r_callV F (C_X4_requireLantern (by assumption) hI ⟨by omega, by omega⟩) dX4_setShow_2 lkv_X4_75 rfl rfl rfl rfl rfl cd_X4_requireLantern (by decide) ⟨Nat.le_refl _, Nat.le_refl _⟩ (Nat.le_of_ble_eq_true rfl) ?_
  refine r_iload_n (i := 2) F dX4_setShow_5 rfl rfl ?_
  refine r_if_lt (tgt := 15) F dX4_setShow_6 (by decide) (by first | assumption | exact ir_of (by omega) (by omega)) (fun h6 => ?_) (fun h6 => ?_)
  · exfalso; omega
  · refine r_iload_n (i := 2) F dX4_setShow_9 rfl rfl ?_
    refine r_bipush F dX4_setShow_10 (by decide) ?_
    refine r_icmp_lt (tgt := 25) F dX4_setShow_12 (by decide) (by first | assumption | exact ir_of (by omega) (by omega)) (by first | assumption | exact ir_of (by omega) (by omega)) (fun h12 => ?_) (fun h12 => ?_)
    · refine r_iload_n (i := 3) F dX4_setShow_25 rfl rfl ?_
      refine r_if_lt (tgt := 35) F dX4_setShow_26 (by decide) (by first | assumption | exact ir_of (by omega) (by omega)) (fun h26 => ?_) (fun h26 => ?_)
      · exfalso; omega
      · refine r_iload_n (i := 3) F dX4_setShow_29 rfl rfl ?_
        refine r_bipush F dX4_setShow_30 (by decide) ?_
        refine r_icmp_le (tgt := 45) F dX4_setShow_32 (by decide) (by first | assumption | exact ir_of (by omega) (by omega)) (by first | assumption | exact ir_of (by omega) (by omega)) (fun h32 => ?_) (fun h32 => ?_)
        · refine r_aload_n (i := 0) F dX4_setShow_45 rfl rfl ?_
          refine gf_X4_10 F dX4_setShow_46 ?_
          refine gf_X4_66 F dX4_setShow_49 (by decide) ?_
          refine r_iload_n (i := 1) F dX4_setShow_52 rfl rfl ?_
          refine aa_6 F dX4_setShow_53 (by decide) (by omega) (by omega) ?_
          refine gf_X4_85 F dX4_setShow_54 (by decide) (by omega) (by omega) ?_
          refine r_astore (lv1 := [_, _, _, _, _, _]) F dX4_setShow_57 (by decide) rfl rfl ?_
          refine r_aload F dX4_setShow_59 rfl ?_
          refine r_iload_n (i := 2) F dX4_setShow_61 rfl rfl ?_
          refine ia_10 F dX4_setShow_62 (by decide) (by omega) (by omega) (by omega) (by omega) ?_
          refine r_istore (lv1 := [_, _, _, _, _, _]) F dX4_setShow_63 (by decide) rfl rfl ?_
          refine r_aload F dX4_setShow_65 rfl ?_
          refine r_iload_n (i := 2) F dX4_setShow_67 rfl rfl ?_
          refine r_iload_n (i := 3) F dX4_setShow_68 rfl rfl ?_
          refine is_10 F dX4_setShow_69 (by decide) (by omega) (by omega) (by omega) (by omega) ?_
          refine r_iload F dX4_setShow_70 rfl ?_
          exact r_iret F dX4_setShow_72 rfl rfl rfl
        · exfalso; omega
    · exfalso; omega
set_option maxHeartbeats 4000000 in
set_option maxRecDepth 100000 in
theorem C_X4_watchman {l : Launch} {cy : Nat → ClassId} {D : va_G} {ad : Nat → Nat → Int → Nat} {M : Mem} {S : St} {f t g : Int}  (hI : Inv S) (hf9 : ir f) (ht9 : ir t) (hg9 : ir g) (h0 : cWatch S f t g = 0) : Ct l cy D ad yX4_watchman cX4_watchman 5 (some FieldType.int) 1 [.ref (ad 0 0 0), .int (i32 f), .int (i32 t), .int (i32 g)] (setc M 0 S) (some (.int (i32 (S 20 2)))) (setc M 0 (sWatch S f t g)) := by
  refine Ct.mk (lv := [some _, some _, some _, some _, none]) 1 (by decide) rfl (Nat.le_of_ble_eq_true rfl) (fun p e s m below meth c F => ?_)
  have ic := hI.pc
  have hok : (0 ≤ f ∧ f ≤ 15) ∧ (0 ≤ t ∧ t ≤ 15) ∧ f ≤ t ∧ (0 ≤ g ∧ g ≤ 3) ∧ S 20 2 < 4 := by unfold cWatch at h0; (repeat' split at h0) <;> omega
  refine r_iload_n (i := 1) F dX4_watchman_0 rfl rfl ?_
  refine r_callS F (C_X4_requirePlace (by assumption) ⟨by omega, by omega⟩) dX4_watchman_1 lks_X4_19 rfl rfl cd_X4_requirePlace (by decide) ⟨Nat.le_refl _, Nat.le_refl _⟩ (Nat.le_of_ble_eq_true rfl) ?_
  refine r_iload_n (i := 2) F dX4_watchman_4 rfl rfl ?_
  refine r_callS F (C_X4_requirePlace (by assumption) ⟨by omega, by omega⟩) dX4_watchman_5 lks_X4_19 rfl rfl cd_X4_requirePlace (by decide) ⟨Nat.le_refl _, Nat.le_refl _⟩ (Nat.le_of_ble_eq_true rfl) ?_
  refine r_iload_n (i := 1) F dX4_watchman_8 rfl rfl ?_
  refine r_iload_n (i := 2) F dX4_watchman_9 rfl rfl ?_
  refine r_icmp_le (tgt := 23) F dX4_watchman_10 (by decide) (by first | assumption | exact ir_of (by omega) (by omega)) (by first | assumption | exact ir_of (by omega) (by omega)) (fun h10 => ?_) (fun h10 => ?_)
  · refine r_iload_n (i := 3) F dX4_watchman_23 rfl rfl ?_
    refine r_if_lt (tgt := 32) F dX4_watchman_24 (by decide) (by first | assumption | exact ir_of (by omega) (by omega)) (fun h24 => ?_) (fun h24 => ?_)
    · exfalso; omega
    · refine r_iload_n (i := 3) F dX4_watchman_27 rfl rfl ?_
      refine r_iconst F dX4_watchman_28 ?_
      refine r_icmp_le (tgt := 42) F dX4_watchman_29 (by decide) (by first | assumption | exact ir_of (by omega) (by omega)) (by first | assumption | exact ir_of (by omega) (by omega)) (fun h29 => ?_) (fun h29 => ?_)
      · refine r_aload_n (i := 0) F dX4_watchman_42 rfl rfl ?_
        refine gf_X4_10 F dX4_watchman_43 ?_
        refine gf_X4_92 F dX4_watchman_46 (by decide) ?_
        refine r_iconst F dX4_watchman_49 ?_
        refine r_icmp_lt (tgt := 63) F dX4_watchman_50 (by decide) (by first | assumption | exact ir_of (by omega) (by omega)) (by first | assumption | exact ir_of (by omega) (by omega)) (fun h50 => ?_) (fun h50 => ?_)
        · refine r_aload_n (i := 0) F dX4_watchman_63 rfl rfl ?_
          refine gf_X4_10 F dX4_watchman_64 ?_
          refine gf_X4_92 F dX4_watchman_67 (by decide) ?_
          refine r_istore (lv1 := [_, _, _, _, _]) F dX4_watchman_70 (by decide) rfl rfl ?_
          refine r_aload_n (i := 0) F dX4_watchman_72 rfl rfl ?_
          refine gf_X4_10 F dX4_watchman_73 ?_
          refine gf_X4_97 F dX4_watchman_76 (by decide) ?_
          refine r_iload F dX4_watchman_79 rfl ?_
          refine aa_7 F dX4_watchman_81 (by decide) (by omega) (by omega) ?_
          refine r_iload_n (i := 1) F dX4_watchman_82 rfl rfl ?_
          refine r_iload_n (i := 2) F dX4_watchman_83 rfl rfl ?_
          refine r_iload_n (i := 3) F dX4_watchman_84 rfl rfl ?_
          refine r_callV F (C_X3_begin (by decide) ⟨by omega, by omega⟩) dX4_watchman_85 lkv_X4_101 rfl rfl (dm11 (by decide) (by omega) (by omega)) rfl rfl cd_X3_begin (by decide) ⟨Nat.le_refl _, Nat.le_refl _⟩ (Nat.le_of_ble_eq_true rfl) ?_
          refine r_aload_n (i := 0) F dX4_watchman_88 rfl rfl ?_
          refine gf_X4_10 F dX4_watchman_89 ?_
          refine r_iload F dX4_watchman_92 rfl ?_
          refine r_iconst F dX4_watchman_94 ?_
          refine r_iadd F dX4_watchman_95 ?_
          refine pf_X4_92 F dX4_watchman_96 (by decide) ?_
          refine r_iload F dX4_watchman_99 rfl ?_
          exact r_iret F dX4_watchman_101 rfl rfl rfl
        · exfalso; omega
      · exfalso; omega
  · exfalso; omega
set_option maxHeartbeats 4000000 in
set_option maxRecDepth 100000 in
theorem C_X4_boat {l : Launch} {cy : Nat → ClassId} {D : va_G} {ad : Nat → Nat → Int → Nat} {M : Mem} {S : St} {x q : Int}  (hI : Inv S) (hx9 : ir x) (hq9 : ir q) (h0 : cBoat S x q = 0) : Ct l cy D ad yX4_boat cX4_boat 4 (some FieldType.int) 1 [.ref (ad 0 0 0), .int (i32 x), .int (i32 q)] (setc M 0 S) (some (.int (i32 (S 20 3)))) (setc M 0 (sBoat S x q)) := by
  refine Ct.mk (lv := [some _, some _, some _, none]) 1 (by decide) rfl (Nat.le_of_ble_eq_true rfl) (fun p e s m below meth c F => ?_)
  have ic := hI.pc
  have hok : (0 ≤ x ∧ x ≤ 15) ∧ (1 ≤ q ∧ q ≤ 20) ∧ S 20 3 < 6 := by unfold cBoat at h0; (repeat' split at h0) <;> omega
  refine r_iload_n (i := 1) F dX4_boat_0 rfl rfl ?_
  refine r_callS F (C_X4_requirePlace (by assumption) ⟨by omega, by omega⟩) dX4_boat_1 lks_X4_19 rfl rfl cd_X4_requirePlace (by decide) ⟨Nat.le_refl _, Nat.le_refl _⟩ (Nat.le_of_ble_eq_true rfl) ?_
  refine r_iload_n (i := 2) F dX4_boat_4 rfl rfl ?_
  refine r_iconst F dX4_boat_5 ?_
  refine r_icmp_lt (tgt := 15) F dX4_boat_6 (by decide) (by first | assumption | exact ir_of (by omega) (by omega)) (by first | assumption | exact ir_of (by omega) (by omega)) (fun h6 => ?_) (fun h6 => ?_)
  · exfalso; omega
  · refine r_iload_n (i := 2) F dX4_boat_9 rfl rfl ?_
    refine r_bipush F dX4_boat_10 (by decide) ?_
    refine r_icmp_le (tgt := 25) F dX4_boat_12 (by decide) (by first | assumption | exact ir_of (by omega) (by omega)) (by first | assumption | exact ir_of (by omega) (by omega)) (fun h12 => ?_) (fun h12 => ?_)
    · refine r_aload_n (i := 0) F dX4_boat_25 rfl rfl ?_
      refine gf_X4_10 F dX4_boat_26 ?_
      refine gf_X4_109 F dX4_boat_29 (by decide) ?_
      refine r_bipush F dX4_boat_32 (by decide) ?_
      refine r_icmp_lt (tgt := 47) F dX4_boat_34 (by decide) (by first | assumption | exact ir_of (by omega) (by omega)) (by first | assumption | exact ir_of (by omega) (by omega)) (fun h34 => ?_) (fun h34 => ?_)
      · refine r_aload_n (i := 0) F dX4_boat_47 rfl rfl ?_
        refine gf_X4_10 F dX4_boat_48 ?_
        refine gf_X4_109 F dX4_boat_51 (by decide) ?_
        refine r_istore_n (i := 3) (lv1 := [_, _, _, _]) F dX4_boat_54 rfl (by decide) rfl rfl ?_
        refine r_aload_n (i := 0) F dX4_boat_55 rfl rfl ?_
        refine gf_X4_10 F dX4_boat_56 ?_
        refine gf_X4_114 F dX4_boat_59 (by decide) ?_
        refine r_iload_n (i := 3) F dX4_boat_62 rfl rfl ?_
        refine aa_8 F dX4_boat_63 (by decide) (by omega) (by omega) ?_
        refine r_iload_n (i := 1) F dX4_boat_64 rfl rfl ?_
        refine r_iload_n (i := 2) F dX4_boat_65 rfl rfl ?_
        refine r_callV F (C_X0_begin (by decide) ⟨by omega, by omega⟩) dX4_boat_66 lkv_X4_118 rfl rfl (dm12 (by decide) (by omega) (by omega)) rfl rfl cd_X0_begin (by decide) ⟨Nat.le_refl _, Nat.le_refl _⟩ (Nat.le_of_ble_eq_true rfl) ?_
        refine r_aload_n (i := 0) F dX4_boat_69 rfl rfl ?_
        refine gf_X4_10 F dX4_boat_70 ?_
        refine r_iload_n (i := 3) F dX4_boat_73 rfl rfl ?_
        refine r_iconst F dX4_boat_74 ?_
        refine r_iadd F dX4_boat_75 ?_
        refine pf_X4_109 F dX4_boat_76 (by decide) ?_
        refine r_iload_n (i := 3) F dX4_boat_79 rfl rfl ?_
        exact r_iret F dX4_boat_80 rfl rfl rfl
      · exfalso; omega
    · exfalso; omega
set_option maxHeartbeats 4000000 in
set_option maxRecDepth 100000 in
theorem C_X4_send {l : Launch} {cy : Nat → ClassId} {D : va_G} {ad : Nat → Nat → Int → Nat} {M : Mem} {S : St} {x q : Int}  (hI : Inv S) (hx9 : ir x) (hq9 : ir q) (h0 : cSend S x q = 0) : Ct l cy D ad yX4_send cX4_send 4 (some FieldType.int) 1 [.ref (ad 0 0 0), .int (i32 x), .int (i32 q)] (setc M 0 S) (some (.int (i32 (S 15 x)))) (setc M 0 (sendS S x q)) := by
  refine Ct.mk (lv := [some _, some _, some _, none]) 1 (by decide) rfl (Nat.le_of_ble_eq_true rfl) (fun p e s m below meth c F => ?_)
  have ic := hI.pc
  have hok : (0 ≤ x ∧ x ≤ S 20 3 - 1) ∧ (-1 ≤ q ∧ q ≤ 15) ∧ S 18 x = 0 := by unfold cSend at h0; (repeat' split at h0) <;> omega
  refine r_aload_n (i := 0) F dX4_send_0 rfl rfl ?_
  refine r_iload_n (i := 1) F dX4_send_1 rfl rfl ?_
  refine r_callV F (C_X4_requireBoat (by assumption) hI ⟨by omega, by omega⟩) dX4_send_2 lkv_X4_123 rfl rfl rfl rfl rfl cd_X4_requireBoat (by decide) ⟨Nat.le_refl _, Nat.le_refl _⟩ (Nat.le_of_ble_eq_true rfl) ?_
  refine r_iload_n (i := 2) F dX4_send_5 rfl rfl ?_
  refine r_callS F (C_X4_requirePlaceOrNone (by assumption) ⟨by omega, by omega⟩) dX4_send_6 lks_X4_45 rfl rfl cd_X4_requirePlaceOrNone (by decide) ⟨Nat.le_refl _, Nat.le_refl _⟩ (Nat.le_of_ble_eq_true rfl) ?_
  refine r_aload_n (i := 0) F dX4_send_9 rfl rfl ?_
  refine r_iload_n (i := 1) F dX4_send_10 rfl rfl ?_
  refine r_callV F (C_X4_requireAtSea ⟨by omega, by omega⟩ hI (by omega)) dX4_send_11 lkv_X4_126 rfl rfl rfl rfl rfl cd_X4_requireAtSea (by decide) ⟨Nat.le_refl _, Nat.le_refl _⟩ (Nat.le_of_ble_eq_true rfl) ?_
  refine r_aload_n (i := 0) F dX4_send_14 rfl rfl ?_
  refine gf_X4_10 F dX4_send_15 ?_
  refine gf_X4_114 F dX4_send_18 (by decide) ?_
  refine r_iload_n (i := 1) F dX4_send_21 rfl rfl ?_
  refine aa_8 F dX4_send_22 (by decide) (by omega) (by omega) ?_
  refine gf_X4_129 F dX4_send_23 (by decide) (by omega) (by omega) ?_
  refine r_istore_n (i := 3) (lv1 := [_, _, _, _]) F dX4_send_26 rfl (by decide) rfl rfl ?_
  refine r_aload_n (i := 0) F dX4_send_27 rfl rfl ?_
  refine gf_X4_10 F dX4_send_28 ?_
  refine gf_X4_114 F dX4_send_31 (by decide) ?_
  refine r_iload_n (i := 1) F dX4_send_34 rfl rfl ?_
  refine aa_8 F dX4_send_35 (by decide) (by omega) (by omega) ?_
  refine r_iload_n (i := 2) F dX4_send_36 rfl rfl ?_
  refine r_callV F (C_X0_sendTo (by decide) ⟨by omega, by omega⟩ ⟨by omega, by omega⟩) dX4_send_37 lkv_X4_132 rfl rfl (dm12 (by decide) (by omega) (by omega)) rfl rfl cd_X0_sendTo (by decide) ⟨Nat.le_refl _, Nat.le_refl _⟩ (Nat.le_of_ble_eq_true rfl) ?_
  refine r_iload_n (i := 3) F dX4_send_40 rfl rfl ?_
  exact r_iret F dX4_send_41 rfl rfl rfl
set_option maxHeartbeats 4000000 in
set_option maxRecDepth 100000 in
theorem C_X4_carry {l : Launch} {cy : Nat → ClassId} {D : va_G} {ad : Nat → Nat → Int → Nat} {M : Mem} {S : St} {x q : Int}  (hI : Inv S) (hx9 : ir x) (hq9 : ir q) (h0 : cCarry S x q = 0) : Ct l cy D ad yX4_carry cX4_carry 3 (some FieldType.int) 1 [.ref (ad 0 0 0), .int (i32 x), .int (i32 q)] (setc M 0 S) (some (.int (i32 (S 1 x - q)))) (setc M 0 (sCarry S x q)) := by
  refine Ct.mk (lv := [some _, some _, some _]) 0 (by decide) rfl (Nat.le_of_ble_eq_true rfl) (fun p e s m below meth c F => ?_)
  have ic := hI.pc
  have b1 := hI.p01 x
  have hok : (0 ≤ x ∧ x ≤ 15) ∧ (1 ≤ q ∧ q ≤ 30) ∧ q ≤ S 1 x := by unfold cCarry at h0; (repeat' split at h0) <;> omega
  refine r_iload_n (i := 1) F dX4_carry_0 rfl rfl ?_
  refine r_callS F (C_X4_requirePlace (by assumption) ⟨by omega, by omega⟩) dX4_carry_1 lks_X4_19 rfl rfl cd_X4_requirePlace (by decide) ⟨Nat.le_refl _, Nat.le_refl _⟩ (Nat.le_of_ble_eq_true rfl) ?_
  refine r_iload_n (i := 2) F dX4_carry_4 rfl rfl ?_
  refine r_iconst F dX4_carry_5 ?_
  refine r_icmp_lt (tgt := 15) F dX4_carry_6 (by decide) (by first | assumption | exact ir_of (by omega) (by omega)) (by first | assumption | exact ir_of (by omega) (by omega)) (fun h6 => ?_) (fun h6 => ?_)
  · exfalso; omega
  · refine r_iload_n (i := 2) F dX4_carry_9 rfl rfl ?_
    refine r_bipush F dX4_carry_10 (by decide) ?_
    refine r_icmp_le (tgt := 25) F dX4_carry_12 (by decide) (by first | assumption | exact ir_of (by omega) (by omega)) (by first | assumption | exact ir_of (by omega) (by omega)) (fun h12 => ?_) (fun h12 => ?_)
    · refine r_aload_n (i := 0) F dX4_carry_25 rfl rfl ?_
      refine gf_X4_10 F dX4_carry_26 ?_
      refine gf_X4_30 F dX4_carry_29 (by decide) ?_
      refine r_iload_n (i := 1) F dX4_carry_32 rfl rfl ?_
      refine ia_3 F dX4_carry_33 (by decide) (by omega) (by omega) ?_
      refine r_iload_n (i := 2) F dX4_carry_34 rfl rfl ?_
      refine r_icmp_ge (tgt := 48) F dX4_carry_35 (by decide) (by first | assumption | exact ir_of (by omega) (by omega)) (by first | assumption | exact ir_of (by omega) (by omega)) (fun h35 => ?_) (fun h35 => ?_)
      · refine r_aload_n (i := 0) F dX4_carry_48 rfl rfl ?_
        refine gf_X4_10 F dX4_carry_49 ?_
        refine gf_X4_30 F dX4_carry_52 (by decide) ?_
        refine r_iload_n (i := 1) F dX4_carry_55 rfl rfl ?_
        refine r_dup2 F dX4_carry_56 rfl rfl ?_
        refine ia_3 F dX4_carry_57 (by decide) (by omega) (by omega) ?_
        refine r_iload_n (i := 2) F dX4_carry_58 rfl rfl ?_
        refine r_isub F dX4_carry_59 ?_
        refine is_3 F dX4_carry_60 (by decide) (by omega) (by omega) ?_
        refine r_aload_n (i := 0) F dX4_carry_61 rfl rfl ?_
        refine gf_X4_10 F dX4_carry_62 ?_
        refine r_dup F dX4_carry_65 rfl ?_
        refine gf_X4_139 F dX4_carry_66 (by decide) ?_
        refine r_iload_n (i := 2) F dX4_carry_69 rfl rfl ?_
        refine r_iadd F dX4_carry_70 ?_
        refine pf_X4_139 F dX4_carry_71 (by decide) ?_
        refine r_aload_n (i := 0) F dX4_carry_74 rfl rfl ?_
        refine gf_X4_10 F dX4_carry_75 ?_
        refine gf_X4_30 F dX4_carry_78 (by decide) ?_
        refine r_iload_n (i := 1) F dX4_carry_81 rfl rfl ?_
        refine ia_3 F dX4_carry_82 (by decide) (by omega) (by omega) ?_
        exact r_iret F dX4_carry_83 rfl (by simp [u2]) rfl
      · exfalso; omega
    · exfalso; omega
set_option maxHeartbeats 4000000 in
set_option maxRecDepth 100000 in
theorem C_X4_told {l : Launch} {cy : Nat → ClassId} {D : va_G} {ad : Nat → Nat → Int → Nat} {M : Mem} {S : St} {x w : Int}  (hI : Inv S) (hx9 : ir x) (hw9 : ir w) (h0 : cRng x 0 (S 20 3 - 1) w 0 6 = 0) : Ct l cy D ad yX4_told cX4_told 3 (some FieldType.int) 2 [.ref (ad 0 0 0), .int (i32 x), .int (i32 w)] (setc M 0 S) (some (.int (i32 (toldF S x w)))) (setc M 0 (S)) := by
  refine Ct.mk (lv := [some _, some _, some _]) 0 (by decide) rfl (Nat.le_of_ble_eq_true rfl) (fun p e s m below meth c F => ?_)
  have ic := hI.pc
  have hok : (0 ≤ x ∧ x ≤ S 20 3 - 1) ∧ (0 ≤ w ∧ w ≤ 6) := by unfold cRng at h0; (repeat' split at h0) <;> omega
  refine r_aload_n (i := 0) F dX4_told_0 rfl rfl ?_
  refine r_iload_n (i := 1) F dX4_told_1 rfl rfl ?_
  refine r_callV F (C_X4_requireBoat (by assumption) hI ⟨by omega, by omega⟩) dX4_told_2 lkv_X4_123 rfl rfl rfl rfl rfl cd_X4_requireBoat (by decide) ⟨Nat.le_refl _, Nat.le_refl _⟩ (Nat.le_of_ble_eq_true rfl) ?_
  refine r_iload_n (i := 2) F dX4_told_5 rfl rfl ?_
  refine r_iconst F dX4_told_6 ?_
  refine r_bipush F dX4_told_7 (by decide) ?_
  refine r_callS F (C_X4_requireWhat (by assumption) (ir_of (by omega) (by omega)) (ir_of (by omega) (by omega)) ⟨by omega, by omega⟩) dX4_told_9 lks_X4_142 rfl rfl cd_X4_requireWhat (by decide) ⟨Nat.le_refl _, Nat.le_refl _⟩ (Nat.le_of_ble_eq_true rfl) ?_
  refine r_aload_n (i := 0) F dX4_told_12 rfl rfl ?_
  refine gf_X4_10 F dX4_told_13 ?_
  refine gf_X4_114 F dX4_told_16 (by decide) ?_
  refine r_iload_n (i := 1) F dX4_told_19 rfl rfl ?_
  refine aa_8 F dX4_told_20 (by decide) (by omega) (by omega) ?_
  refine r_iload_n (i := 2) F dX4_told_21 rfl rfl ?_
  refine r_callV F (C_X0_tell (by decide) hI ⟨by omega, by omega⟩ ⟨by omega, by omega⟩) dX4_told_22 lkv_X4_145 rfl rfl (dm12 (by decide) (by omega) (by omega)) rfl rfl cd_X0_tell (by decide) ⟨Nat.le_refl _, Nat.le_refl _⟩ (Nat.le_of_ble_eq_true rfl) ?_
  exact r_iret F dX4_told_25 rfl rfl rfl
set_option maxHeartbeats 4000000 in
set_option maxRecDepth 100000 in
theorem C_X4_about {l : Launch} {cy : Nat → ClassId} {D : va_G} {ad : Nat → Nat → Int → Nat} {M : Mem} {S : St} {x w : Int}  (hI : Inv S) (hh : 0 ≤ S 20 0 ∧ S 20 0 < 900000) (hx9 : ir x) (hw9 : ir w) (h0 : cRng x 0 (S 20 2 - 1) w 0 4 = 0) : Ct l cy D ad yX4_about cX4_about 3 (some FieldType.int) 3 [.ref (ad 0 0 0), .int (i32 x), .int (i32 w)] (setc M 0 S) (some (.int (i32 (aboutF S x w)))) (setc M 0 (S)) := by
  refine Ct.mk (lv := [some _, some _, some _]) 0 (by decide) rfl (Nat.le_of_ble_eq_true rfl) (fun p e s m below meth c F => ?_)
  have ic := hI.pc
  have hok : (0 ≤ x ∧ x ≤ S 20 2 - 1) ∧ (0 ≤ w ∧ w ≤ 4) := by unfold cRng at h0; (repeat' split at h0) <;> omega
  refine r_iload_n (i := 1) F dX4_about_0 rfl rfl ?_
  refine r_if_lt (tgt := 15) F dX4_about_1 (by decide) (by first | assumption | exact ir_of (by omega) (by omega)) (fun h1 => ?_) (fun h1 => ?_)
  · exfalso; omega
  · refine r_iload_n (i := 1) F dX4_about_4 rfl rfl ?_
    refine r_aload_n (i := 0) F dX4_about_5 rfl rfl ?_
    refine gf_X4_10 F dX4_about_6 ?_
    refine gf_X4_92 F dX4_about_9 (by decide) ?_
    refine r_icmp_lt (tgt := 25) F dX4_about_12 (by decide) (by first | assumption | exact ir_of (by omega) (by omega)) (by first | assumption | exact ir_of (by omega) (by omega)) (fun h12 => ?_) (fun h12 => ?_)
    · refine r_iload_n (i := 2) F dX4_about_25 rfl rfl ?_
      refine r_iconst F dX4_about_26 ?_
      refine r_iconst F dX4_about_27 ?_
      refine r_callS F (C_X4_requireWhat (by assumption) (ir_of (by omega) (by omega)) (ir_of (by omega) (by omega)) ⟨by omega, by omega⟩) dX4_about_28 lks_X4_142 rfl rfl cd_X4_requireWhat (by decide) ⟨Nat.le_refl _, Nat.le_refl _⟩ (Nat.le_of_ble_eq_true rfl) ?_
      refine r_aload_n (i := 0) F dX4_about_31 rfl rfl ?_
      refine gf_X4_10 F dX4_about_32 ?_
      refine gf_X4_97 F dX4_about_35 (by decide) ?_
      refine r_iload_n (i := 1) F dX4_about_38 rfl rfl ?_
      refine aa_7 F dX4_about_39 (by decide) (by omega) (by omega) ?_
      refine r_iload_n (i := 2) F dX4_about_40 rfl rfl ?_
      refine r_aload_n (i := 0) F dX4_about_41 rfl rfl ?_
      refine gf_X4_10 F dX4_about_42 ?_
      refine r_callV F (C_X1_moonNow (by decide) ⟨hh.1, by omega⟩) dX4_about_45 lkv_X4_151 rfl rfl (dm1 ⟨by decide, by decide⟩ (by decide)) rfl rfl cd_X1_moonNow (by decide) ⟨Nat.le_refl _, Nat.le_refl _⟩ (Nat.le_of_ble_eq_true rfl) ?_
      refine r_callV F (C_X3_tell (by decide) rfl ⟨by omega, by omega⟩ ⟨by omega, by omega⟩) dX4_about_48 lkv_X4_155 rfl rfl (dm11 (by decide) (by omega) (by omega)) rfl rfl cd_X3_tell (by decide) ⟨Nat.le_refl _, Nat.le_refl _⟩ (Nat.le_of_ble_eq_true rfl) ?_
      exact r_iret F dX4_about_51 rfl rfl rfl
    · exfalso; omega
set_option maxHeartbeats 4000000 in
set_option maxRecDepth 100000 in
theorem C_X4_light {l : Launch} {cy : Nat → ClassId} {D : va_G} {ad : Nat → Nat → Int → Nat} {M : Mem} {S : St} {x w : Int}  (hI : Inv S) (hh : 0 ≤ S 20 0 ∧ S 20 0 < 900000) (hx9 : ir x) (hw9 : ir w) (h0 : cRng x 0 (S 20 1 - 1) w 0 3 = 0) : Ct l cy D ad yX4_light cX4_light 3 (some FieldType.int) 5 [.ref (ad 0 0 0), .int (i32 x), .int (i32 w)] (setc M 0 S) (some (.int (i32 (lightF S x w)))) (setc M 0 (S)) := by
  refine Ct.mk (lv := [some _, some _, some _]) 0 (by decide) rfl (Nat.le_of_ble_eq_true rfl) (fun p e s m below meth c F => ?_)
  have ic := hI.pc
  have hok : (0 ≤ x ∧ x ≤ S 20 1 - 1) ∧ (0 ≤ w ∧ w ≤ 3) := by unfold cRng at h0; (repeat' split at h0) <;> omega
  refine r_aload_n (i := 0) F dX4_light_0 rfl rfl ?_
  refine r_iload_n (i := 1) F dX4_light_1 rfl rfl ?_
  refine r_callV F (C_X4_requireLantern (by assumption) hI ⟨by omega, by omega⟩) dX4_light_2 lkv_X4_75 rfl rfl rfl rfl rfl cd_X4_requireLantern (by decide) ⟨Nat.le_refl _, Nat.le_refl _⟩ (Nat.le_of_ble_eq_true rfl) ?_
  refine r_iload_n (i := 2) F dX4_light_5 rfl rfl ?_
  refine r_iconst F dX4_light_6 ?_
  refine r_iconst F dX4_light_7 ?_
  refine r_callS F (C_X4_requireWhat (by assumption) (ir_of (by omega) (by omega)) (ir_of (by omega) (by omega)) ⟨by omega, by omega⟩) dX4_light_8 lks_X4_142 rfl rfl cd_X4_requireWhat (by decide) ⟨Nat.le_refl _, Nat.le_refl _⟩ (Nat.le_of_ble_eq_true rfl) ?_
  refine r_aload_n (i := 0) F dX4_light_11 rfl rfl ?_
  refine gf_X4_10 F dX4_light_12 ?_
  refine r_aload_n (i := 0) F dX4_light_15 rfl rfl ?_
  refine gf_X4_10 F dX4_light_16 ?_
  refine gf_X4_66 F dX4_light_19 (by decide) ?_
  refine r_iload_n (i := 1) F dX4_light_22 rfl rfl ?_
  refine aa_6 F dX4_light_23 (by decide) (by omega) (by omega) ?_
  refine r_iload_n (i := 2) F dX4_light_24 rfl rfl ?_
  refine r_callV F (C_X1_tellLantern (by decide) hI ⟨hh.1, by omega⟩ ⟨by omega, by omega⟩ ⟨by omega, by omega⟩) dX4_light_25 lkv_X4_158 rfl rfl (dm1 ⟨by decide, by decide⟩ (by decide)) rfl rfl cd_X1_tellLantern (by decide) ⟨Nat.le_refl _, Nat.le_refl _⟩ (Nat.le_of_ble_eq_true rfl) ?_
  exact r_iret F dX4_light_28 rfl rfl rfl
set_option maxHeartbeats 4000000 in
set_option maxRecDepth 100000 in
theorem C_X4_code {l : Launch} {cy : Nat → ClassId} {D : va_G} {ad : Nat → Nat → Int → Nat} {M : Mem} {S : St} {x w : Int}  (hI : Inv S) (hx9 : ir x) (hw9 : ir w) (h0 : cRng x 1 7 w 0 3 = 0) : Ct l cy D ad yX4_code cX4_code 3 (some FieldType.int) 5 [.ref (ad 0 0 0), .int (i32 x), .int (i32 w)] (setc M 0 S) (some (.int (i32 (codeF S x w)))) (setc M 0 (S)) := by
  refine Ct.mk (lv := [some _, some _, some _]) 0 (by decide) rfl (Nat.le_of_ble_eq_true rfl) (fun p e s m below meth c F => ?_)
  have ic := hI.pc
  have hok : (1 ≤ x ∧ x ≤ 7) ∧ (0 ≤ w ∧ w ≤ 3) := by unfold cRng at h0; (repeat' split at h0) <;> omega
  refine r_iload_n (i := 1) F dX4_code_0 rfl rfl ?_
  refine r_callS F (C_X4_requireCode (by assumption) ⟨by omega, by omega⟩) dX4_code_1 lks_X4_42 rfl rfl cd_X4_requireCode (by decide) ⟨Nat.le_refl _, Nat.le_refl _⟩ (Nat.le_of_ble_eq_true rfl) ?_
  refine r_iload_n (i := 2) F dX4_code_4 rfl rfl ?_
  refine r_iconst F dX4_code_5 ?_
  refine r_iconst F dX4_code_6 ?_
  refine r_callS F (C_X4_requireWhat (by assumption) (ir_of (by omega) (by omega)) (ir_of (by omega) (by omega)) ⟨by omega, by omega⟩) dX4_code_7 lks_X4_142 rfl rfl cd_X4_requireWhat (by decide) ⟨Nat.le_refl _, Nat.le_refl _⟩ (Nat.le_of_ble_eq_true rfl) ?_
  refine r_aload_n (i := 0) F dX4_code_10 rfl rfl ?_
  refine gf_X4_10 F dX4_code_11 ?_
  refine r_iload_n (i := 1) F dX4_code_14 rfl rfl ?_
  refine r_iload_n (i := 2) F dX4_code_15 rfl rfl ?_
  refine r_callV F (C_X1_tellCode (by decide) hI ⟨by omega, by omega⟩ ⟨by omega, by omega⟩) dX4_code_16 lkv_X4_162 rfl rfl (dm1 ⟨by decide, by decide⟩ (by decide)) rfl rfl cd_X1_tellCode (by decide) ⟨Nat.le_refl _, Nat.le_refl _⟩ (Nat.le_of_ble_eq_true rfl) ?_
  exact r_iret F dX4_code_19 rfl rfl rfl
set_option maxHeartbeats 4000000 in
set_option maxRecDepth 100000 in
theorem C_X4_place {l : Launch} {cy : Nat → ClassId} {D : va_G} {ad : Nat → Nat → Int → Nat} {M : Mem} {S : St} {x w : Int}  (hI : Inv S) (hh : 0 ≤ S 20 0 ∧ S 20 0 < 900000) (hx9 : ir x) (hw9 : ir w) (h0 : cRng x 0 15 w 0 4 = 0) : Ct l cy D ad yX4_place cX4_place 3 (some FieldType.int) 5 [.ref (ad 0 0 0), .int (i32 x), .int (i32 w)] (setc M 0 S) (some (.int (i32 (placeF S x w)))) (setc M 0 (S)) := by
  refine Ct.mk (lv := [some _, some _, some _]) 0 (by decide) rfl (Nat.le_of_ble_eq_true rfl) (fun p e s m below meth c F => ?_)
  have ic := hI.pc
  have hok : (0 ≤ x ∧ x ≤ 15) ∧ (0 ≤ w ∧ w ≤ 4) := by unfold cRng at h0; (repeat' split at h0) <;> omega
  refine r_iload_n (i := 1) F dX4_place_0 rfl rfl ?_
  refine r_callS F (C_X4_requirePlace (by assumption) ⟨by omega, by omega⟩) dX4_place_1 lks_X4_19 rfl rfl cd_X4_requirePlace (by decide) ⟨Nat.le_refl _, Nat.le_refl _⟩ (Nat.le_of_ble_eq_true rfl) ?_
  refine r_iload_n (i := 2) F dX4_place_4 rfl rfl ?_
  refine r_iconst F dX4_place_5 ?_
  refine r_iconst F dX4_place_6 ?_
  refine r_callS F (C_X4_requireWhat (by assumption) (ir_of (by omega) (by omega)) (ir_of (by omega) (by omega)) ⟨by omega, by omega⟩) dX4_place_7 lks_X4_142 rfl rfl cd_X4_requireWhat (by decide) ⟨Nat.le_refl _, Nat.le_refl _⟩ (Nat.le_of_ble_eq_true rfl) ?_
  refine r_aload_n (i := 0) F dX4_place_10 rfl rfl ?_
  refine gf_X4_10 F dX4_place_11 ?_
  refine r_iload_n (i := 1) F dX4_place_14 rfl rfl ?_
  refine r_iload_n (i := 2) F dX4_place_15 rfl rfl ?_
  refine r_callV F (C_X1_tellPlace (by decide) hI ⟨hh.1, by omega⟩ ⟨by omega, by omega⟩ ⟨by omega, by omega⟩) dX4_place_16 lkv_X4_165 rfl rfl (dm1 ⟨by decide, by decide⟩ (by decide)) rfl rfl cd_X1_tellPlace (by decide) ⟨Nat.le_refl _, Nat.le_refl _⟩ (Nat.le_of_ble_eq_true rfl) ?_
  exact r_iret F dX4_place_19 rfl rfl rfl
set_option maxHeartbeats 4000000 in
set_option maxRecDepth 100000 in
theorem C_X4_moon {l : Launch} {cy : Nat → ClassId} {D : va_G} {ad : Nat → Nat → Int → Nat} {M : Mem} {S : St} {x : Int}  (hI : Inv S) (hx9 : ir x) (h0 : cRng1 x 0 999 = 0) : Ct l cy D ad yX4_moon cX4_moon 2 (some FieldType.int) 2 [.ref (ad 0 0 0), .int (i32 x)] (setc M 0 S) (some (.int (i32 (moonOf x)))) (setc M 0 (S)) := by
  refine Ct.mk (lv := [some _, some _]) 0 (by decide) rfl (Nat.le_of_ble_eq_true rfl) (fun p e s m below meth c F => ?_)
  have ic := hI.pc
  have hok : 0 ≤ x ∧ x ≤ 999 := by unfold cRng1 at h0; (repeat' split at h0) <;> omega
  refine r_iload_n (i := 1) F dX4_moon_0 rfl rfl ?_
  refine r_if_lt (tgt := 11) F dX4_moon_1 (by decide) (by first | assumption | exact ir_of (by omega) (by omega)) (fun h1 => ?_) (fun h1 => ?_)
  · exfalso; omega
  · refine r_iload_n (i := 1) F dX4_moon_4 rfl rfl ?_
    refine r_sipush F dX4_moon_5 (by decide) ?_
    refine r_icmp_le (tgt := 21) F dX4_moon_8 (by decide) (by first | assumption | exact ir_of (by omega) (by omega)) (by first | assumption | exact ir_of (by omega) (by omega)) (fun h8 => ?_) (fun h8 => ?_)
    · refine r_iload_n (i := 1) F dX4_moon_21 rfl rfl ?_
      refine r_callS F (C_X4_moonOf (by omega) (by omega)) dX4_moon_22 lks_X4_170 rfl rfl cd_X4_moonOf (by decide) ⟨Nat.le_refl _, Nat.le_refl _⟩ (Nat.le_of_ble_eq_true rfl) ?_
      exact r_iret F dX4_moon_25 rfl rfl rfl
    · exfalso; omega
set_option maxHeartbeats 4000000 in
set_option maxRecDepth 100000 in
theorem C_X4_count {l : Launch} {cy : Nat → ClassId} {D : va_G} {ad : Nat → Nat → Int → Nat} {M : Mem} {S : St} {x : Int}  (hI : Inv S) (hx9 : ir x) (h0 : cRng1 x 0 10 = 0) : Ct l cy D ad yX4_count cX4_count 2 (some FieldType.int) 5 [.ref (ad 0 0 0), .int (i32 x)] (setc M 0 S) (some (.int (i32 (counted S x)))) (setc M 0 (S)) := by
  refine Ct.mk (lv := [some _, some _]) 0 (by decide) rfl (Nat.le_of_ble_eq_true rfl) (fun p e s m below meth c F => ?_)
  have ic := hI.pc
  have hok : 0 ≤ x ∧ x ≤ 10 := by unfold cRng1 at h0; (repeat' split at h0) <;> omega
  refine r_iload_n (i := 1) F dX4_count_0 rfl rfl ?_
  refine r_iconst F dX4_count_1 ?_
  refine r_bipush F dX4_count_2 (by decide) ?_
  refine r_callS F (C_X4_requireWhat (by assumption) (ir_of (by omega) (by omega)) (ir_of (by omega) (by omega)) ⟨by omega, by omega⟩) dX4_count_4 lks_X4_142 rfl rfl cd_X4_requireWhat (by decide) ⟨Nat.le_refl _, Nat.le_refl _⟩ (Nat.le_of_ble_eq_true rfl) ?_
  refine r_aload_n (i := 0) F dX4_count_7 rfl rfl ?_
  refine gf_X4_10 F dX4_count_8 ?_
  refine r_iload_n (i := 1) F dX4_count_11 rfl rfl ?_
  refine r_callV F (C_X1_tally (by decide) hI ⟨by omega, by omega⟩) dX4_count_12 lkv_X4_173 rfl rfl (dm1 ⟨by decide, by decide⟩ (by decide)) rfl rfl cd_X1_tally (by decide) ⟨Nat.le_refl _, Nat.le_refl _⟩ (Nat.le_of_ble_eq_true rfl) ?_
  exact r_iret F dX4_count_15 rfl rfl rfl
set_option maxHeartbeats 4000000 in
set_option maxRecDepth 100000 in
theorem C_X4_pass {l : Launch} {cy : Nat → ClassId} {D : va_G} {ad : Nat → Nat → Int → Nat} {M : Mem} {S : St} {x : Int}  (hI : Inv S) (hh : 0 ≤ S 20 0 ∧ S 20 0 < 900000) (hx9 : ir x) (h0 : cRng1 x 1 60 = 0) : Ct l cy D ad yX4_pass cX4_pass 3 (some FieldType.int) 5 [.ref (ad 0 0 0), .int (i32 x)] (setc M 0 S) (some (.int (i32 (goS S x.toNat)))) (setc M 0 (goN S x.toNat)) := by
  refine Ct.mk (lv := [some _, some _, none]) 1 (by decide) rfl (Nat.le_of_ble_eq_true rfl) (fun p e s m below meth c F => ?_)
  have ic := hI.pc
  have hI1 : Inv (goN S x.toNat) := goN_inv hI _
  have hu := goN_19 (S := S) x.toNat
  have h3 := goN_20 (S := S) (i := 3) (by decide) (by decide) x.toNat
  have hok : 1 ≤ x ∧ x ≤ 60 := by unfold cRng1 at h0; (repeat' split at h0) <;> omega
  refine r_iload_n (i := 1) F dX4_pass_0 rfl rfl ?_
  refine r_callS F (C_X4_requireHours (by assumption) ⟨by omega, by omega⟩) dX4_pass_1 lks_X4_176 rfl rfl cd_X4_requireHours (by decide) ⟨Nat.le_refl _, Nat.le_refl _⟩ (Nat.le_of_ble_eq_true rfl) ?_
  refine r_aload_n (i := 0) F dX4_pass_4 rfl rfl ?_
  refine gf_X4_10 F dX4_pass_5 ?_
  refine r_callV F (C_X1_balesUnloaded (by decide) (by assumption)) dX4_pass_8 lkv_X4_179 rfl rfl (dm1 ⟨by decide, by decide⟩ (by decide)) rfl rfl cd_X1_balesUnloaded (by decide) ⟨Nat.le_refl _, Nat.le_refl _⟩ (Nat.le_of_ble_eq_true rfl) ?_
  refine r_istore_n (i := 2) (lv1 := [_, _, _]) F dX4_pass_11 rfl (by decide) rfl rfl ?_
  refine r_aload_n (i := 0) F dX4_pass_12 rfl rfl ?_
  refine gf_X4_10 F dX4_pass_13 ?_
  refine r_iload_n (i := 1) F dX4_pass_16 rfl rfl ?_
  refine r_callV F (C_X1_letGoBy (by decide) hI hh ⟨by omega, by omega⟩) dX4_pass_17 lkv_X4_182 rfl rfl (dm1 ⟨by decide, by decide⟩ (by decide)) rfl rfl cd_X1_letGoBy (by decide) ⟨Nat.le_refl _, Nat.le_refl _⟩ (Nat.le_of_ble_eq_true rfl) ?_
  refine r_aload_n (i := 0) F dX4_pass_20 rfl rfl ?_
  refine gf_X4_10 F dX4_pass_21 ?_
  refine r_callV F (C_X1_balesUnloaded (by decide) (by assumption)) dX4_pass_24 lkv_X4_179 rfl rfl (dm1 ⟨by decide, by decide⟩ (by decide)) rfl rfl cd_X1_balesUnloaded (by decide) ⟨Nat.le_refl _, Nat.le_refl _⟩ (Nat.le_of_ble_eq_true rfl) ?_
  refine r_iload_n (i := 2) F dX4_pass_27 rfl rfl ?_
  refine r_isub F dX4_pass_28 ?_
  exact r_iret F dX4_pass_29 rfl (by rw [h3, hu]; omega) rfl
set_option maxHeartbeats 4000000 in
set_option maxRecDepth 100000 in
theorem C_X4_foresee {l : Launch} {cy : Nat → ClassId} {D : va_G} {ad : Nat → Nat → Int → Nat} {M : Mem} {S : St} {x w : Int} {T : St} (hI : Inv S) (hD : Dead S) (hT : Dead T) (hcn : T 20 1 ≤ S 20 1 ∧ T 20 2 ≤ S 20 2 ∧ T 20 3 ≤ S 20 3) (hh : 0 ≤ S 20 0 ∧ S 20 0 < 900000) (hx9 : ir x) (hw9 : ir w) (h0 : cForesee x w = 0) : Ct l cy D ad yX4_foresee cX4_foresee 3 (some FieldType.int) 5 [.ref (ad 0 0 0), .int (i32 x), .int (i32 w)] (setc (setc M 1 T) 0 S) (some (.int (i32 (counted (goN S x.toNat) w)))) (setc (setc M 0 S) 1 (goN S x.toNat)) := by
  refine Ct.mk (lv := [some _, some _, some _]) 0 (by decide) rfl (Nat.le_of_ble_eq_true rfl) (fun p e s m below meth c F => ?_)
  have ic := hI.pc
  have hok : (1 ≤ x ∧ x ≤ 60) ∧ (4 ≤ w ∧ w ≤ 10) := by unfold cForesee at h0; (repeat' split at h0) <;> omega
  refine r_iload_n (i := 1) F dX4_foresee_0 rfl rfl ?_
  refine r_callS F (C_X4_requireHours (by assumption) ⟨by omega, by omega⟩) dX4_foresee_1 lks_X4_176 rfl rfl cd_X4_requireHours (by decide) ⟨Nat.le_refl _, Nat.le_refl _⟩ (Nat.le_of_ble_eq_true rfl) ?_
  refine r_iload_n (i := 2) F dX4_foresee_4 rfl rfl ?_
  refine r_iconst F dX4_foresee_5 ?_
  refine r_bipush F dX4_foresee_6 (by decide) ?_
  refine r_callS F (C_X4_requireWhat (by assumption) (ir_of (by omega) (by omega)) (ir_of (by omega) (by omega)) ⟨by omega, by omega⟩) dX4_foresee_8 lks_X4_142 rfl rfl cd_X4_requireWhat (by decide) ⟨Nat.le_refl _, Nat.le_refl _⟩ (Nat.le_of_ble_eq_true rfl) ?_
  refine r_aload_n (i := 0) F dX4_foresee_11 rfl rfl ?_
  refine gf_X4_16 F dX4_foresee_12 ?_
  refine r_aload_n (i := 0) F dX4_foresee_15 rfl rfl ?_
  refine gf_X4_10 F dX4_foresee_16 ?_
  refine V.cast (setc_comm M T S (by decide : (1 : Nat) ≠ 0)) ?_
  refine r_callV F (C_X1_copyFrom (k := 1) (k2 := 0) (by decide) (by decide) (by decide) (by rw [setc_at]; exact hI) (by rw [setc_at]; exact hD) hT (by rw [setc_at]; exact hcn)) dX4_foresee_19 lkv_X4_185 rfl rfl (dm1 ⟨by decide, by decide⟩ (by decide)) rfl rfl cd_X1_copyFrom (by decide) ⟨Nat.le_refl _, Nat.le_refl _⟩ (Nat.le_of_ble_eq_true rfl) ?_
  rw [show (setc M 0 S) 0 = S from setc_at _ _ _]
  refine r_aload_n (i := 0) F dX4_foresee_22 rfl rfl ?_
  refine gf_X4_16 F dX4_foresee_23 ?_
  refine r_iload_n (i := 1) F dX4_foresee_26 rfl rfl ?_
  refine r_callV F (C_X1_letGoBy (k := 1) (by decide) hI hh ⟨by omega, by omega⟩) dX4_foresee_27 lkv_X4_182 rfl rfl (dm1 ⟨by decide, by decide⟩ (by decide)) rfl rfl cd_X1_letGoBy (by decide) ⟨Nat.le_refl _, Nat.le_refl _⟩ (Nat.le_of_ble_eq_true rfl) ?_
  refine r_aload_n (i := 0) F dX4_foresee_30 rfl rfl ?_
  refine gf_X4_16 F dX4_foresee_31 ?_
  refine r_iload_n (i := 2) F dX4_foresee_34 rfl rfl ?_
  refine r_callV F (C_X1_tally (k := 1) (by decide) (goN_inv hI _) ⟨by omega, by omega⟩) dX4_foresee_35 lkv_X4_173 rfl rfl (dm1 ⟨by decide, by decide⟩ (by decide)) rfl rfl cd_X1_tally (by decide) ⟨Nat.le_refl _, Nat.le_refl _⟩ (Nat.le_of_ble_eq_true rfl) ?_
  exact r_iret F dX4_foresee_38 rfl rfl rfl
set_option maxHeartbeats 4000000 in
set_option maxRecDepth 100000 in
theorem C_X4_until {l : Launch} {cy : Nat → ClassId} {D : va_G} {ad : Nat → Nat → Int → Nat} {M : Mem} {S : St} {x : Int} {T : St} (hI : Inv S) (hD : Dead S) (hT : Dead T) (hcn : T 20 1 ≤ S 20 1 ∧ T 20 2 ≤ S 20 2 ∧ T 20 3 ≤ S 20 3) (hh : 0 ≤ S 20 0 ∧ S 20 0 < 900000) (hx9 : ir x) (h0 : cRng1 x 0 (S 20 3 - 1) = 0) : Ct l cy D ad yX4_until cX4_until 4 (some FieldType.int) 5 [.ref (ad 0 0 0), .int (i32 x)] (setc (setc M 1 T) 0 S) (some (.int (i32 (untR S x)))) (setc (setc M 0 S) 1 (goN S (unt S x 120 0))) := by
  refine Ct.mk (lv := [some _, some _, none, none]) 2 (by decide) rfl (Nat.le_of_ble_eq_true rfl) (fun p e s m below meth c F => ?_)
  have ic := hI.pc
  have hok : 0 ≤ x ∧ x ≤ S 20 3 - 1 := by unfold cRng1 at h0; (repeat' split at h0) <;> omega
  have loop : ∀ (n h : Nat), h + n = 120 → unt S x n h = unt S x 120 0 → V p l e (RM 5) s m ([.ref (ad 0 0 0), .int (i32 x)] : List Value).toArray below meth c 4 cy D ad (Aw ad s.heap.size) 0 0 (MQ below (Qn cy D ad s.heap.size (some (.int (i32 (untR S x)))) (setc (setc M 0 S) 1 (goN S (unt S x 120 0)))) ([.ref (ad 0 0 0), .int (i32 x)] : List Value).toArray s 0 0 (Aw ad s.heap.size)) 28 [some (.ref (ad 0 0 0)), some (.int (i32 x)), some (.ref (ad 12 1 x)), some (.int (i32 (h : Int)))] [] (setc (setc M 0 S) 1 (goN S h)) := by
    intro n
    induction n with
    | zero =>
      intro h h1 hu
      have hI1 : Inv (goN S h) := goN_inv hI _
      have b18 := hI1.p18 x
      have e0 := goN_hour S h
      refine r_iload_n (i := 3) F dX4_until_28 rfl rfl ?_
      refine r_bipush F dX4_until_29 (by decide) ?_
      refine r_icmp_ge (tgt := 54) F dX4_until_31 (by decide) (by first | assumption | exact ir_of (by omega) (by omega)) (by first | assumption | exact ir_of (by omega) (by omega)) (fun h31 => ?_) (fun h31 => ?_)
      · refine r_aload_n (i := 2) F dX4_until_54 rfl rfl ?_
        refine gf_X4_189 F dX4_until_55 (by decide) (by omega) (by omega) ?_
        refine r_iconst F dX4_until_58 ?_
        refine r_icmp_ne (tgt := 66) F dX4_until_59 (by decide) (by first | assumption | exact ir_of (by omega) (by omega)) (by first | assumption | exact ir_of (by omega) (by omega)) (fun h59 => ?_) (fun h59 => ?_)
        · refine r_iconst F dX4_until_66 ?_
          have e8 : unt S x 120 0 = h := by rw [← hu]; unfold unt; first | rfl | (rw [if_neg h38])
          exact r_iret F dX4_until_67 rfl (by unfold untR; rw [e8]; first | (rw [if_pos h59]; done) | (rw [if_neg h59]; done)) (by rw [e8])
        · refine r_iload_n (i := 3) F dX4_until_62 rfl rfl ?_
          refine r_goto (tgt := 67) F dX4_until_63 (by decide) ?_
          have e8 : unt S x 120 0 = h := by rw [← hu]; unfold unt; first | rfl | (rw [if_neg h38])
          exact r_iret F dX4_until_67 rfl (by unfold untR; rw [e8]; first | (rw [if_pos h59]; done) | (rw [if_neg h59]; done)) (by rw [e8])
      · exfalso; omega
    | succ n ih =>
      intro h h1 hu
      have hI1 : Inv (goN S h) := goN_inv hI _
      have b18 := hI1.p18 x
      have e0 := goN_hour S h
      refine r_iload_n (i := 3) F dX4_until_28 rfl rfl ?_
      refine r_bipush F dX4_until_29 (by decide) ?_
      refine r_icmp_ge (tgt := 54) F dX4_until_31 (by decide) (by first | assumption | exact ir_of (by omega) (by omega)) (by first | assumption | exact ir_of (by omega) (by omega)) (fun h31 => ?_) (fun h31 => ?_)
      · exfalso; omega
      · refine r_aload_n (i := 2) F dX4_until_34 rfl rfl ?_
        refine gf_X4_189 F dX4_until_35 (by decide) (by omega) (by omega) ?_
        refine r_if_ne (tgt := 54) F dX4_until_38 (by decide) (by first | assumption | exact ir_of (by omega) (by omega)) (fun h38 => ?_) (fun h38 => ?_)
        · refine r_aload_n (i := 2) F dX4_until_54 rfl rfl ?_
          refine gf_X4_189 F dX4_until_55 (by decide) (by omega) (by omega) ?_
          refine r_iconst F dX4_until_58 ?_
          refine r_icmp_ne (tgt := 66) F dX4_until_59 (by decide) (by first | assumption | exact ir_of (by omega) (by omega)) (by first | assumption | exact ir_of (by omega) (by omega)) (fun h59 => ?_) (fun h59 => ?_)
          · refine r_iconst F dX4_until_66 ?_
            have e8 : unt S x 120 0 = h := by rw [← hu]; unfold unt; first | rfl | (rw [if_neg h38])
            exact r_iret F dX4_until_67 rfl (by unfold untR; rw [e8]; first | (rw [if_pos h59]; done) | (rw [if_neg h59]; done)) (by rw [e8])
          · refine r_iload_n (i := 3) F dX4_until_62 rfl rfl ?_
            refine r_goto (tgt := 67) F dX4_until_63 (by decide) ?_
            have e8 : unt S x 120 0 = h := by rw [← hu]; unfold unt; first | rfl | (rw [if_neg h38])
            exact r_iret F dX4_until_67 rfl (by unfold untR; rw [e8]; first | (rw [if_pos h59]; done) | (rw [if_neg h59]; done)) (by rw [e8])
        · refine r_aload_n (i := 0) F dX4_until_41 rfl rfl ?_
          refine gf_X4_16 F dX4_until_42 ?_
          refine r_callV F (C_X1_passHour (k := 1) (by decide) hI1 (by omega)) dX4_until_45 lkv_X4_192 rfl rfl (dm1 ⟨by decide, by decide⟩ (by decide)) rfl rfl cd_X1_passHour (by decide) ⟨Nat.le_refl _, Nat.le_refl _⟩ (Nat.le_of_ble_eq_true rfl) ?_
          refine r_iinc (lv1 := [_, _, _, _]) F dX4_until_48 rfl (by decide) rfl rfl ?_
          refine r_goto (tgt := 28) F dX4_until_51 (by decide) ?_
          exact ih (h + 1) (by omega) (by rw [← hu]; exact (if_pos h38).symm)
  refine r_aload_n (i := 0) F dX4_until_0 rfl rfl ?_
  refine r_iload_n (i := 1) F dX4_until_1 rfl rfl ?_
  refine r_callV F (C_X4_requireBoat (by assumption) hI ⟨by omega, by omega⟩) dX4_until_2 lkv_X4_123 rfl rfl rfl rfl rfl cd_X4_requireBoat (by decide) ⟨Nat.le_refl _, Nat.le_refl _⟩ (Nat.le_of_ble_eq_true rfl) ?_
  refine r_aload_n (i := 0) F dX4_until_5 rfl rfl ?_
  refine gf_X4_16 F dX4_until_6 ?_
  refine r_aload_n (i := 0) F dX4_until_9 rfl rfl ?_
  refine gf_X4_10 F dX4_until_10 ?_
  refine V.cast (setc_comm M T S (by decide : (1 : Nat) ≠ 0)) ?_
  refine r_callV F (C_X1_copyFrom (k := 1) (k2 := 0) (by decide) (by decide) (by decide) (by rw [setc_at]; exact hI) (by rw [setc_at]; exact hD) hT (by rw [setc_at]; exact hcn)) dX4_until_13 lkv_X4_185 rfl rfl (dm1 ⟨by decide, by decide⟩ (by decide)) rfl rfl cd_X1_copyFrom (by decide) ⟨Nat.le_refl _, Nat.le_refl _⟩ (Nat.le_of_ble_eq_true rfl) ?_
  rw [show (setc M 0 S) 0 = S from setc_at _ _ _]
  refine r_aload_n (i := 0) F dX4_until_16 rfl rfl ?_
  refine gf_X4_16 F dX4_until_17 ?_
  refine gf_X4_114 F dX4_until_20 (by decide) ?_
  refine r_iload_n (i := 1) F dX4_until_23 rfl rfl ?_
  refine aa_8 F dX4_until_24 (by decide) (by omega) (by omega) ?_
  refine r_astore_n (i := 2) (lv1 := [_, _, _, _]) F dX4_until_25 rfl (by decide) rfl rfl ?_
  refine r_iconst F dX4_until_26 ?_
  refine r_istore_n (i := 3) (lv1 := [_, _, _, _]) F dX4_until_27 rfl (by decide) rfl rfl ?_
  exact loop 120 0 (by decide) rfl
set_option maxHeartbeats 4000000 in
set_option maxRecDepth 100000 in
theorem C_X4_mean {l : Launch} {cy : Nat → ClassId} {D : va_G} {ad : Nat → Nat → Int → Nat} {M : Mem} {S : St}  (hI : Inv S) : Ct l cy D ad yX4_mean cX4_mean 2 (some FieldType.double) 1 [.ref (ad 0 0 0)] (setc M 0 S) (some (.double (meanF S))) (setc M 0 S) := by
  refine Ct.mk (lv := [some _, none]) 1 (by decide) rfl (Nat.le_of_ble_eq_true rfl) (fun p e s m below meth c F => ?_)
  have ic := hI.pc
  have ib := cnt_bd (isF S 0) (S 20 3).toNat
  have ib2 : 0 ≤ inF S 0 ∧ inF S 0 ≤ 6 := by unfold inF; omega
  have sb := sm_bd (f := S 14) (B := 20) (fun i => hI.p14 i) (S 20 3).toNat
  refine r_aload_n (i := 0) F dX4_mean_0 rfl rfl ?_
  refine gf_X4_10 F dX4_mean_1 ?_
  refine r_iconst F dX4_mean_4 ?_
  refine r_callV F (C_X1_boatsOfFate (by decide) hI (by decide)) dX4_mean_5 lkv_X4_201 rfl rfl (dm1 ⟨by decide, by decide⟩ (by decide)) rfl rfl cd_X1_boatsOfFate (by decide) ⟨Nat.le_refl _, Nat.le_refl _⟩ (Nat.le_of_ble_eq_true rfl) ?_
  refine r_istore_n (i := 1) (lv1 := [_, _]) F dX4_mean_8 rfl (by decide) rfl rfl ?_
  refine r_iload_n (i := 1) F dX4_mean_9 rfl rfl ?_
  refine r_if_ne (tgt := 15) F dX4_mean_10 (by decide) (ir_of (by omega) (by omega)) (fun h10 => ?_) (fun h10 => ?_)
  · refine r_aload_n (i := 0) F dX4_mean_15 rfl rfl ?_
    refine gf_X4_10 F dX4_mean_16 ?_
    refine r_callV F (C_X1_balesAtSea (by decide) hI) dX4_mean_19 lkv_X4_204 rfl rfl (dm1 ⟨by decide, by decide⟩ (by decide)) rfl rfl cd_X1_balesAtSea (by decide) ⟨Nat.le_refl _, Nat.le_refl _⟩ (Nat.le_of_ble_eq_true rfl) ?_
    refine r_i2d F dX4_mean_22 ?_
    refine r_iload_n (i := 1) F dX4_mean_23 rfl rfl ?_
    refine r_i2d F dX4_mean_24 ?_
    refine r_ddiv F dX4_mean_25 (fp_two (by omega) (by omega)).1 ?_
    exact r_dret F dX4_mean_26 rfl (by unfold meanF; first | (rw [if_pos h10]; done) | (rw [if_neg h10, bal_eq hI]; done)) rfl
  · refine r_dconst0 F dX4_mean_13 ?_
    exact r_dret F dX4_mean_14 rfl (by unfold meanF; first | (rw [if_pos h10]; done) | (rw [if_neg h10, bal_eq hI]; done)) rfl
