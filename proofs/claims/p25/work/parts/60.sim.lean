/-! The coast by hand: what is small. -/
/-- how many rows the coast by hand has -/
def Sh (ad : Nat → Nat → Int → Nat) (S : St) : Prop := ad 40 13 0 = 1 ∧ (ad 41 18 0 : Int) = S 20 1 ∧ (ad 41 19 0 : Int) = S 20 2 ∧ (ad 41 20 0 : Int) = S 20 3
theorem Sh.same {ad : Nat → Nat → Int → Nat} {S S1 : St} (h : Sh ad S) (h1 : S1 20 1 = S 20 1) (h2 : S1 20 2 = S 20 2) (h3 : S1 20 3 = S 20 3) : Sh ad S1 := ⟨h.1, by rw [h1]; exact h.2.1, by rw [h2]; exact h.2.2.1, by rw [h3]; exact h.2.2.2⟩
def seesM (S : St) (w q more : Int) : Bool := decide (iabs (S 10 w - q) ≤ sgP S w + more)
theorem seesM_0 {S : St} {w q : Int} : seesM S w q 0 = seesP S q w := by unfold seesM seesP; rw [Int.add_zero]
theorem lt3 (x : Int32) : x ≤ i32 2 ↔ x < i32 3 := by
  rw [Int32.le_iff_toInt_le, Int32.lt_iff_toInt_lt]
  have h2 : (i32 2).toInt = 2 := by decide
  have h3 : (i32 3).toInt = 3 := by decide
  omega
theorem ifmoon (n : Int) : (n % 12 < 6 → 6 - n % 12 = moonOf n) ∧ (6 ≤ n % 12 → n % 12 - 6 = moonOf n) := by
  unfold moonOf
  have := iabs_or (n % 12 - 6)
  omega

set_option maxHeartbeats 4000000 in
set_option maxRecDepth 100000 in
theorem C_X5_far {l : Launch} {cy : Nat → ClassId} {D : va_G} {ad : Nat → Nat → Int → Nat} {M : Mem} {a b : Int} (ha : -1000 ≤ a ∧ a ≤ 1000) (hb : -1000 ≤ b ∧ b ≤ 1000) : Ct l cy D ad yX5_far cX5_far 2 (some FieldType.int) 0 [.int (i32 a), .int (i32 b)] (M) (some (.int (i32 (iabs (a - b))))) (M) := by
  refine Ct.mk (lv := [some _, some _]) 0 (by decide) rfl (Nat.le_of_ble_eq_true rfl) (fun p e s m below meth c F => ?_)
  refine r_iload_n (i := 0) F dX5_far_0 rfl rfl ?_
  refine r_iload_n (i := 1) F dX5_far_1 rfl rfl ?_
  refine r_icmp_ge (tgt := 11) F dX5_far_2 (by decide) (by first | assumption | exact ir_of (by omega) (by omega)) (by first | assumption | exact ir_of (by omega) (by omega)) (fun h2 => ?_) (fun h2 => ?_)
  · refine r_iload_n (i := 0) F dX5_far_11 rfl rfl ?_
    refine r_iload_n (i := 1) F dX5_far_12 rfl rfl ?_
    refine r_isub F dX5_far_13 ?_
    exact r_iret F dX5_far_14 rfl (by have := iabs_or (a - b); omega) rfl
  · refine r_iload_n (i := 1) F dX5_far_5 rfl rfl ?_
    refine r_iload_n (i := 0) F dX5_far_6 rfl rfl ?_
    refine r_isub F dX5_far_7 ?_
    refine r_goto (tgt := 14) F dX5_far_8 (by decide) ?_
    exact r_iret F dX5_far_14 rfl (by have := iabs_or (a - b); omega) rfl

set_option maxHeartbeats 4000000 in
set_option maxRecDepth 100000 in
theorem C_X5_moon {l : Launch} {cy : Nat → ClassId} {D : va_G} {ad : Nat → Nat → Int → Nat} {M : Mem} {S : St}  (hsh : Sh ad S) (hh : 0 ≤ S 20 0 ∧ S 20 0 < 1000000) : Ct l cy D ad yX5_moon cX5_moon 2 (some FieldType.int) 0 [.ref (ad 13 2 0)] (setc M 2 S) (some (.int (i32 (mo S)))) (setc M 2 S) := by
  refine Ct.mk (lv := [some _, none]) 1 (by decide) rfl (Nat.le_of_ble_eq_true rfl) (fun p e s m below meth c F => ?_)
  have hsh9 := hsh
  obtain ⟨hs, hn1, hn2, hn3⟩ := hsh
  have im := ifmoon (S 20 0 / 10)
  refine r_aload_n (i := 0) F dX5_moon_0 rfl rfl ?_
  refine gf_X5_40 F dX5_moon_1 hs ?_
  refine r_bipush F dX5_moon_4 (by decide) ?_
  refine r_idiv F dX5_moon_6 (by omega) (by omega) (by decide) (by decide) ?_
  refine r_bipush F dX5_moon_7 (by decide) ?_
  refine r_irem F dX5_moon_9 (by omega) (by omega) (by decide) (by decide) ?_
  refine r_istore_n (i := 1) (lv1 := [_, _]) F dX5_moon_10 rfl (by decide) rfl rfl ?_
  refine r_iload_n (i := 1) F dX5_moon_11 rfl rfl ?_
  refine r_bipush F dX5_moon_12 (by decide) ?_
  refine r_icmp_ge (tgt := 24) F dX5_moon_14 (by decide) (by first | assumption | exact ir_of (by omega) (by omega)) (by first | assumption | exact ir_of (by omega) (by omega)) (fun h14 => ?_) (fun h14 => ?_)
  · refine r_iload_n (i := 1) F dX5_moon_24 rfl rfl ?_
    refine r_bipush F dX5_moon_25 (by decide) ?_
    refine r_isub F dX5_moon_27 ?_
    exact r_iret F dX5_moon_28 rfl (by unfold mo; omega) rfl
  · refine r_bipush F dX5_moon_17 (by decide) ?_
    refine r_iload_n (i := 1) F dX5_moon_19 rfl rfl ?_
    refine r_isub F dX5_moon_20 ?_
    refine r_goto (tgt := 28) F dX5_moon_21 (by decide) ?_
    exact r_iret F dX5_moon_28 rfl (by unfold mo; omega) rfl

set_option maxHeartbeats 4000000 in
set_option maxRecDepth 100000 in
theorem C_X5_shown {l : Launch} {cy : Nat → ClassId} {D : va_G} {ad : Nat → Nat → Int → Nat} {M : Mem} {S : St} {x : Int} (hsh : Sh ad S) (hh : 0 ≤ S 20 0 ∧ S 20 0 < 1000000) (hI : Inv S) (hx : 0 ≤ x ∧ x < S 20 1) : Ct l cy D ad yX5_shown cX5_shown 2 (some FieldType.int) 0 [.ref (ad 13 2 0), .int (i32 x)] (setc M 2 S) (some (.int (i32 (shw S x)))) (setc M 2 S) := by
  refine Ct.mk (lv := [some _, some _]) 0 (by decide) rfl (Nat.le_of_ble_eq_true rfl) (fun p e s m below meth c F => ?_)
  have hsh9 := hsh
  obtain ⟨hs, hn1, hn2, hn3⟩ := hsh
  have ic := hI.pc
  refine r_aload_n (i := 0) F dX5_shown_0 rfl rfl ?_
  refine gf_X5_23 F dX5_shown_1 hs ?_
  refine r_iload_n (i := 1) F dX5_shown_4 rfl rfl ?_
  refine aa_18 F dX5_shown_5 hs (by omega) (by omega) (by omega) ?_
  refine r_iconst F dX5_shown_6 ?_
  refine r_aload_n (i := 0) F dX5_shown_7 rfl rfl ?_
  refine gf_X5_40 F dX5_shown_8 hs ?_
  refine r_bipush F dX5_shown_11 (by decide) ?_
  refine r_irem F dX5_shown_13 (by omega) (by omega) (by decide) (by decide) ?_
  refine r_iadd F dX5_shown_14 ?_
  refine ia_21_t F ⟨by omega, by omega⟩ dX5_shown_15 hs (by omega) (by omega) (by omega) ?_
  exact r_iret F dX5_shown_16 rfl rfl rfl

set_option maxHeartbeats 4000000 in
set_option maxRecDepth 100000 in
theorem C_X5_sees {l : Launch} {cy : Nat → ClassId} {D : va_G} {ad : Nat → Nat → Int → Nat} {M : Mem} {S : St} {w q z : Int} (hsh : Sh ad S) (hh : 0 ≤ S 20 0 ∧ S 20 0 < 1000000) (hI : Inv S) (hw : 0 ≤ w ∧ w < S 20 2) (hq : 0 ≤ q ∧ q ≤ 15) (hz : 0 ≤ z ∧ z ≤ 3) : Ct l cy D ad yX5_sees cX5_sees 4 (some FieldType.boolean) 1 [.ref (ad 13 2 0), .int (i32 w), .int (i32 q), .int (i32 z)] (setc M 2 S) (some (.int (i32 (bi (seesM S w q z))))) (setc M 2 S) := by
  refine Ct.mk (lv := [some _, some _, some _, some _]) 0 (by decide) rfl (Nat.le_of_ble_eq_true rfl) (fun p e s m below meth c F => ?_)
  have hsh9 := hsh
  obtain ⟨hs, hn1, hn2, hn3⟩ := hsh
  have ic := hI.pc
  have bw := hI.pw w
  have b9 := hI.p9 w
  have hm := mo_bd S
  have ho := iabs_or (S 10 w - q)
  have hsg : sgP S w = S 9 w + mo S / 2 := rfl
  refine r_aload_n (i := 0) F dX5_sees_0 rfl rfl ?_
  refine gf_X5_27 F dX5_sees_1 hs ?_
  refine r_iload_n (i := 1) F dX5_sees_4 rfl rfl ?_
  refine aa_19 F dX5_sees_5 hs (by omega) (by omega) (by omega) ?_
  refine r_iconst F dX5_sees_6 ?_
  refine ia_22_3 F dX5_sees_7 hs (by omega) (by omega) (by omega) ?_
  refine r_iload_n (i := 2) F dX5_sees_8 rfl rfl ?_
  refine r_callS F (C_X5_far ⟨by omega, by omega⟩ ⟨by omega, by omega⟩) dX5_sees_9 lks_X5_54 rfl rfl cd_X5_far (by decide) ⟨Nat.le_refl _, Nat.le_refl _⟩ (Nat.le_of_ble_eq_true rfl) ?_
  refine r_aload_n (i := 0) F dX5_sees_12 rfl rfl ?_
  refine gf_X5_27 F dX5_sees_13 hs ?_
  refine r_iload_n (i := 1) F dX5_sees_16 rfl rfl ?_
  refine aa_19 F dX5_sees_17 hs (by omega) (by omega) (by omega) ?_
  refine r_iconst F dX5_sees_18 ?_
  refine ia_22_2 F dX5_sees_19 hs (by omega) (by omega) (by omega) ?_
  refine r_aload_n (i := 0) F dX5_sees_20 rfl rfl ?_
  refine r_callV F (C_X5_moon hsh9 hh) dX5_sees_21 lkv_X5_58 rfl rfl (dm13 hs) rfl rfl cd_X5_moon (by decide) ⟨Nat.le_refl _, Nat.le_refl _⟩ (Nat.le_of_ble_eq_true rfl) ?_
  refine r_iconst F dX5_sees_24 ?_
  refine r_idiv F dX5_sees_25 (by omega) (by omega) (by decide) (by decide) ?_
  refine r_iadd F dX5_sees_26 ?_
  refine r_iload_n (i := 3) F dX5_sees_27 rfl rfl ?_
  refine r_iadd F dX5_sees_28 ?_
  refine r_icmp_gt (tgt := 36) F dX5_sees_29 (by decide) (by first | assumption | exact ir_of (by omega) (by omega)) (by first | assumption | exact ir_of (by omega) (by omega)) (fun h29 => ?_) (fun h29 => ?_)
  · refine r_iconst F dX5_sees_36 ?_
    exact r_zret F dX5_sees_37 rfl (by unfold seesM; first | (rw [decide_eq_true (by omega)]; rfl) | (rw [decide_eq_false (by omega)]; rfl)) rfl
  · refine r_iconst F dX5_sees_32 ?_
    refine r_goto (tgt := 37) F dX5_sees_33 (by decide) ?_
    exact r_zret F dX5_sees_37 rfl (by unfold seesM; first | (rw [decide_eq_true (by omega)]; rfl) | (rw [decide_eq_false (by omega)]; rfl)) rfl

set_option maxHeartbeats 4000000 in
set_option maxRecDepth 100000 in
theorem C_X5_seesLight {l : Launch} {cy : Nat → ClassId} {D : va_G} {ad : Nat → Nat → Int → Nat} {M : Mem} {S : St} {w q : Int} (hsh : Sh ad S) (hh : 0 ≤ S 20 0 ∧ S 20 0 < 1000000) (hI : Inv S) (hw : 0 ≤ w ∧ w < S 20 2) (hq : 0 ≤ q ∧ q < S 20 1) : Ct l cy D ad yX5_seesLight cX5_seesLight 3 (some FieldType.boolean) 1 [.ref (ad 13 2 0), .int (i32 w), .int (i32 q)] (setc M 2 S) (some (.int (i32 (bi (seesL S q w))))) (setc M 2 S) := by
  refine Ct.mk (lv := [some _, some _, some _]) 0 (by decide) rfl (Nat.le_of_ble_eq_true rfl) (fun p e s m below meth c F => ?_)
  have hsh9 := hsh
  obtain ⟨hs, hn1, hn2, hn3⟩ := hsh
  have ic := hI.pc
  have bw := hI.pw w
  have b9 := hI.p9 w
  have b4 := hI.p4 q
  have hm := mo_bd S
  have ho := iabs_or (S 10 w - S 4 q)
  have hsg : sgL S w = 2 * S 9 w + 6 - mo S := rfl
  refine r_aload_n (i := 0) F dX5_seesLight_0 rfl rfl ?_
  refine gf_X5_27 F dX5_seesLight_1 hs ?_
  refine r_iload_n (i := 1) F dX5_seesLight_4 rfl rfl ?_
  refine aa_19 F dX5_seesLight_5 hs (by omega) (by omega) (by omega) ?_
  refine r_iconst F dX5_seesLight_6 ?_
  refine ia_22_3 F dX5_seesLight_7 hs (by omega) (by omega) (by omega) ?_
  refine r_aload_n (i := 0) F dX5_seesLight_8 rfl rfl ?_
  refine gf_X5_23 F dX5_seesLight_9 hs ?_
  refine r_iload_n (i := 2) F dX5_seesLight_12 rfl rfl ?_
  refine aa_18 F dX5_seesLight_13 hs (by omega) (by omega) (by omega) ?_
  refine r_iconst F dX5_seesLight_14 ?_
  refine ia_21_0 F dX5_seesLight_15 hs (by omega) (by omega) (by omega) ?_
  refine r_callS F (C_X5_far ⟨by omega, by omega⟩ ⟨by omega, by omega⟩) dX5_seesLight_16 lks_X5_54 rfl rfl cd_X5_far (by decide) ⟨Nat.le_refl _, Nat.le_refl _⟩ (Nat.le_of_ble_eq_true rfl) ?_
  refine r_iconst F dX5_seesLight_19 ?_
  refine r_aload_n (i := 0) F dX5_seesLight_20 rfl rfl ?_
  refine gf_X5_27 F dX5_seesLight_21 hs ?_
  refine r_iload_n (i := 1) F dX5_seesLight_24 rfl rfl ?_
  refine aa_19 F dX5_seesLight_25 hs (by omega) (by omega) (by omega) ?_
  refine r_iconst F dX5_seesLight_26 ?_
  refine ia_22_2 F dX5_seesLight_27 hs (by omega) (by omega) (by omega) ?_
  refine r_imul F dX5_seesLight_28 ?_
  refine r_bipush F dX5_seesLight_29 (by decide) ?_
  refine r_iadd F dX5_seesLight_31 ?_
  refine r_aload_n (i := 0) F dX5_seesLight_32 rfl rfl ?_
  refine r_callV F (C_X5_moon hsh9 hh) dX5_seesLight_33 lkv_X5_58 rfl rfl (dm13 hs) rfl rfl cd_X5_moon (by decide) ⟨Nat.le_refl _, Nat.le_refl _⟩ (Nat.le_of_ble_eq_true rfl) ?_
  refine r_isub F dX5_seesLight_36 ?_
  refine r_icmp_gt (tgt := 44) F dX5_seesLight_37 (by decide) (by first | assumption | exact ir_of (by omega) (by omega)) (by first | assumption | exact ir_of (by omega) (by omega)) (fun h37 => ?_) (fun h37 => ?_)
  · refine r_iconst F dX5_seesLight_44 ?_
    exact r_zret F dX5_seesLight_45 rfl (by unfold seesL; first | (rw [decide_eq_true (by omega)]; rfl) | (rw [decide_eq_false (by omega)]; rfl)) rfl
  · refine r_iconst F dX5_seesLight_40 ?_
    refine r_goto (tgt := 45) F dX5_seesLight_41 (by decide) ?_
    exact r_zret F dX5_seesLight_45 rfl (by unfold seesL; first | (rw [decide_eq_true (by omega)]; rfl) | (rw [decide_eq_false (by omega)]; rfl)) rfl

set_option maxHeartbeats 4000000 in
set_option maxRecDepth 100000 in
theorem C_X5_watchers {l : Launch} {cy : Nat → ClassId} {D : va_G} {ad : Nat → Nat → Int → Nat} {M : Mem} {S : St} {q : Int} (hsh : Sh ad S) (hh : 0 ≤ S 20 0 ∧ S 20 0 < 1000000) (hI : Inv S) (hq : 0 ≤ q ∧ q ≤ 15) : Ct l cy D ad yX5_watchers cX5_watchers 4 (some FieldType.int) 2 [.ref (ad 13 2 0), .int (i32 q)] (setc M 2 S) (some (.int (i32 (wP S q)))) (setc M 2 S) := by
  refine Ct.mk (lv := [some _, some _, none, none]) 2 (by decide) rfl (Nat.le_of_ble_eq_true rfl) (fun p e s m below meth c F => ?_)
  have hsh9 := hsh
  obtain ⟨hs, hn1, hn2, hn3⟩ := hsh
  have ic := hI.pc
  have loop : ∀ (n : Nat) (j : Int), 0 ≤ j → j + (n : Int) = S 20 2 → V p l e (RM 2) s m ([.ref (ad 13 2 0), .int (i32 q)] : List Value).toArray below meth c 4 cy D ad (Aw ad s.heap.size) 0 0 (MQ below (Qn cy D ad s.heap.size (some (.int (i32 (wP S q)))) (setc M 2 S)) ([.ref (ad 13 2 0), .int (i32 q)] : List Value).toArray s 0 0 (Aw ad s.heap.size)) 4 [some (.ref (ad 13 2 0)), some (.int (i32 q)), some (.int (i32 (cnt (seesP S q) j.toNat))), some (.int (i32 j))] [] (setc M 2 S) := by
    intro n
    induction n with
    | zero =>
      intro j h0 h1
      refine r_iload_n (i := 3) F dX5_watchers_4 rfl rfl ?_
      refine r_aload_n (i := 0) F dX5_watchers_5 rfl rfl ?_
      refine gf_X5_27 F dX5_watchers_6 hs ?_
      refine al_19 F dX5_watchers_9 hs hn2 ?_
      refine r_icmp_ge (tgt := 37) F dX5_watchers_10 (by decide) (by first | assumption | exact ir_of (by omega) (by omega)) (by first | assumption | exact ir_of (by omega) (by omega)) (fun h10 => ?_) (fun h10 => ?_)
      · refine r_iload_n (i := 2) F dX5_watchers_37 rfl rfl ?_
        exact r_iret F dX5_watchers_38 rfl (by rw [show j = S 20 2 by omega] <;> rfl) rfl
      · exfalso; omega
    | succ n ih =>
      intro j h0 h1
      refine r_iload_n (i := 3) F dX5_watchers_4 rfl rfl ?_
      refine r_aload_n (i := 0) F dX5_watchers_5 rfl rfl ?_
      refine gf_X5_27 F dX5_watchers_6 hs ?_
      refine al_19 F dX5_watchers_9 hs hn2 ?_
      refine r_icmp_ge (tgt := 37) F dX5_watchers_10 (by decide) (by first | assumption | exact ir_of (by omega) (by omega)) (by first | assumption | exact ir_of (by omega) (by omega)) (fun h10 => ?_) (fun h10 => ?_)
      · exfalso; omega
      · refine r_iload_n (i := 2) F dX5_watchers_13 rfl rfl ?_
        refine r_aload_n (i := 0) F dX5_watchers_14 rfl rfl ?_
        refine r_iload_n (i := 3) F dX5_watchers_15 rfl rfl ?_
        refine r_iload_n (i := 1) F dX5_watchers_16 rfl rfl ?_
        refine r_iconst F dX5_watchers_17 ?_
        refine r_callV F (C_X5_sees hsh9 hh hI ⟨by omega, by omega⟩ hq ⟨by decide, by decide⟩) dX5_watchers_18 lkv_X5_62 rfl rfl (dm13 hs) rfl rfl cd_X5_sees (by decide) ⟨Nat.le_refl _, Nat.le_refl _⟩ (Nat.le_of_ble_eq_true rfl) ?_
        refine r_bz_eq (tgt := 28) F dX5_watchers_21 (by decide) (fun h21 => ?_) (fun h21 => ?_)
        · refine r_iconst F dX5_watchers_28 ?_
          refine r_iadd F dX5_watchers_29 ?_
          refine r_istore_n (i := 2) (lv1 := [_, _, _, _]) F dX5_watchers_30 rfl (by decide) rfl rfl ?_
          refine r_iinc (lv1 := [_, _, _, _]) F dX5_watchers_31 rfl (by decide) rfl rfl ?_
          refine r_goto (tgt := 4) F dX5_watchers_34 (by decide) ?_
          have t := ih (j + 1) (by omega) (by omega)
          first | (rw [cnt_S _ h0, show (seesP S q) j = true from (by rw [← seesM_0]; exact h21), bi_t] at t; exact t) | (rw [cnt_S _ h0, show (seesP S q) j = false from (by rw [← seesM_0]; exact h21), bi_f, Int.add_zero] at t; exact t) | (rw [cnt_S _ h0, show (seesP S q) j = false from (by rw [← seesM_0]; exact h21), bi_f] at t; exact t)
        · refine r_iconst F dX5_watchers_24 ?_
          refine r_goto (tgt := 29) F dX5_watchers_25 (by decide) ?_
          refine r_iadd F dX5_watchers_29 ?_
          refine r_istore_n (i := 2) (lv1 := [_, _, _, _]) F dX5_watchers_30 rfl (by decide) rfl rfl ?_
          refine r_iinc (lv1 := [_, _, _, _]) F dX5_watchers_31 rfl (by decide) rfl rfl ?_
          refine r_goto (tgt := 4) F dX5_watchers_34 (by decide) ?_
          have t := ih (j + 1) (by omega) (by omega)
          first | (rw [cnt_S _ h0, show (seesP S q) j = true from (by rw [← seesM_0]; exact h21), bi_t] at t; exact t) | (rw [cnt_S _ h0, show (seesP S q) j = false from (by rw [← seesM_0]; exact h21), bi_f, Int.add_zero] at t; exact t) | (rw [cnt_S _ h0, show (seesP S q) j = false from (by rw [← seesM_0]; exact h21), bi_f] at t; exact t)
  refine r_iconst F dX5_watchers_0 ?_
  refine r_istore_n (i := 2) (lv1 := [_, _, _, _]) F dX5_watchers_1 rfl (by decide) rfl rfl ?_
  refine r_iconst F dX5_watchers_2 ?_
  refine r_istore_n (i := 3) (lv1 := [_, _, _, _]) F dX5_watchers_3 rfl (by decide) rfl rfl ?_
  exact loop (S 20 2).toNat 0 (by omega) (by omega)

set_option maxHeartbeats 4000000 in
set_option maxRecDepth 100000 in
theorem C_X5_lightWatchers {l : Launch} {cy : Nat → ClassId} {D : va_G} {ad : Nat → Nat → Int → Nat} {M : Mem} {S : St} {q : Int} (hsh : Sh ad S) (hh : 0 ≤ S 20 0 ∧ S 20 0 < 1000000) (hI : Inv S) (hq : 0 ≤ q ∧ q < S 20 1) : Ct l cy D ad yX5_lightWatchers cX5_lightWatchers 4 (some FieldType.int) 2 [.ref (ad 13 2 0), .int (i32 q)] (setc M 2 S) (some (.int (i32 (wL S q)))) (setc M 2 S) := by
  refine Ct.mk (lv := [some _, some _, none, none]) 2 (by decide) rfl (Nat.le_of_ble_eq_true rfl) (fun p e s m below meth c F => ?_)
  have hsh9 := hsh
  obtain ⟨hs, hn1, hn2, hn3⟩ := hsh
  have ic := hI.pc
  have loop : ∀ (n : Nat) (j : Int), 0 ≤ j → j + (n : Int) = S 20 2 → V p l e (RM 2) s m ([.ref (ad 13 2 0), .int (i32 q)] : List Value).toArray below meth c 4 cy D ad (Aw ad s.heap.size) 0 0 (MQ below (Qn cy D ad s.heap.size (some (.int (i32 (wL S q)))) (setc M 2 S)) ([.ref (ad 13 2 0), .int (i32 q)] : List Value).toArray s 0 0 (Aw ad s.heap.size)) 4 [some (.ref (ad 13 2 0)), some (.int (i32 q)), some (.int (i32 (cnt (seesL S q) j.toNat))), some (.int (i32 j))] [] (setc M 2 S) := by
    intro n
    induction n with
    | zero =>
      intro j h0 h1
      refine r_iload_n (i := 3) F dX5_lightWatchers_4 rfl rfl ?_
      refine r_aload_n (i := 0) F dX5_lightWatchers_5 rfl rfl ?_
      refine gf_X5_27 F dX5_lightWatchers_6 hs ?_
      refine al_19 F dX5_lightWatchers_9 hs hn2 ?_
      refine r_icmp_ge (tgt := 36) F dX5_lightWatchers_10 (by decide) (by first | assumption | exact ir_of (by omega) (by omega)) (by first | assumption | exact ir_of (by omega) (by omega)) (fun h10 => ?_) (fun h10 => ?_)
      · refine r_iload_n (i := 2) F dX5_lightWatchers_36 rfl rfl ?_
        exact r_iret F dX5_lightWatchers_37 rfl (by rw [show j = S 20 2 by omega] <;> rfl) rfl
      · exfalso; omega
    | succ n ih =>
      intro j h0 h1
      refine r_iload_n (i := 3) F dX5_lightWatchers_4 rfl rfl ?_
      refine r_aload_n (i := 0) F dX5_lightWatchers_5 rfl rfl ?_
      refine gf_X5_27 F dX5_lightWatchers_6 hs ?_
      refine al_19 F dX5_lightWatchers_9 hs hn2 ?_
      refine r_icmp_ge (tgt := 36) F dX5_lightWatchers_10 (by decide) (by first | assumption | exact ir_of (by omega) (by omega)) (by first | assumption | exact ir_of (by omega) (by omega)) (fun h10 => ?_) (fun h10 => ?_)
      · exfalso; omega
      · refine r_iload_n (i := 2) F dX5_lightWatchers_13 rfl rfl ?_
        refine r_aload_n (i := 0) F dX5_lightWatchers_14 rfl rfl ?_
        refine r_iload_n (i := 3) F dX5_lightWatchers_15 rfl rfl ?_
        refine r_iload_n (i := 1) F dX5_lightWatchers_16 rfl rfl ?_
        refine r_callV F (C_X5_seesLight hsh9 hh hI ⟨by omega, by omega⟩ hq) dX5_lightWatchers_17 lkv_X5_66 rfl rfl (dm13 hs) rfl rfl cd_X5_seesLight (by decide) ⟨Nat.le_refl _, Nat.le_refl _⟩ (Nat.le_of_ble_eq_true rfl) ?_
        refine r_bz_eq (tgt := 27) F dX5_lightWatchers_20 (by decide) (fun h20 => ?_) (fun h20 => ?_)
        · refine r_iconst F dX5_lightWatchers_27 ?_
          refine r_iadd F dX5_lightWatchers_28 ?_
          refine r_istore_n (i := 2) (lv1 := [_, _, _, _]) F dX5_lightWatchers_29 rfl (by decide) rfl rfl ?_
          refine r_iinc (lv1 := [_, _, _, _]) F dX5_lightWatchers_30 rfl (by decide) rfl rfl ?_
          refine r_goto (tgt := 4) F dX5_lightWatchers_33 (by decide) ?_
          have t := ih (j + 1) (by omega) (by omega)
          first | (rw [cnt_S _ h0, show (seesL S q) j = true from h20, bi_t] at t; exact t) | (rw [cnt_S _ h0, show (seesL S q) j = false from h20, bi_f, Int.add_zero] at t; exact t) | (rw [cnt_S _ h0, show (seesL S q) j = false from h20, bi_f] at t; exact t)
        · refine r_iconst F dX5_lightWatchers_23 ?_
          refine r_goto (tgt := 28) F dX5_lightWatchers_24 (by decide) ?_
          refine r_iadd F dX5_lightWatchers_28 ?_
          refine r_istore_n (i := 2) (lv1 := [_, _, _, _]) F dX5_lightWatchers_29 rfl (by decide) rfl rfl ?_
          refine r_iinc (lv1 := [_, _, _, _]) F dX5_lightWatchers_30 rfl (by decide) rfl rfl ?_
          refine r_goto (tgt := 4) F dX5_lightWatchers_33 (by decide) ?_
          have t := ih (j + 1) (by omega) (by omega)
          first | (rw [cnt_S _ h0, show (seesL S q) j = true from h20, bi_t] at t; exact t) | (rw [cnt_S _ h0, show (seesL S q) j = false from h20, bi_f, Int.add_zero] at t; exact t) | (rw [cnt_S _ h0, show (seesL S q) j = false from h20, bi_f] at t; exact t)
  refine r_iconst F dX5_lightWatchers_0 ?_
  refine r_istore_n (i := 2) (lv1 := [_, _, _, _]) F dX5_lightWatchers_1 rfl (by decide) rfl rfl ?_
  refine r_iconst F dX5_lightWatchers_2 ?_
  refine r_istore_n (i := 3) (lv1 := [_, _, _, _]) F dX5_lightWatchers_3 rfl (by decide) rfl rfl ?_
  exact loop (S 20 2).toNat 0 (by omega) (by omega)

theorem fm_bd {a : Int} (h : 0 ≤ a ∧ a ≤ 2) : 0 ≤ fm a ∧ fm a ≤ 4 := by unfold fm; split <;> (try split) <;> omega
theorem fm_eq {a b : Int} (h : 0 ≤ a ∧ a ≤ 2) (g : 0 ≤ b ∧ b ≤ 2) : fm a = fm b ↔ a = b := by unfold fm; (repeat' split) <;> omega
theorem fm_0 {a : Int} (h : 0 ≤ a ∧ a ≤ 2) : fm a = 0 ↔ a = 0 := by unfold fm; (repeat' split) <;> omega

set_option maxHeartbeats 4000000 in
set_option maxRecDepth 100000 in
theorem C_X5_in {l : Launch} {cy : Nat → ClassId} {D : va_G} {ad : Nat → Nat → Int → Nat} {M : Mem} {S : St} {q : Int} (hsh : Sh ad S) (hI : Inv S) (hq : 0 ≤ q ∧ q ≤ 2) : Ct l cy D ad yX5_in cX5_in 7 (some FieldType.int) 0 [.ref (ad 13 2 0), .int (i32 ((fm q)))] (setc M 2 S) (some (.int (i32 (inF S q)))) (setc M 2 S) := by
  refine Ct.mk (lv := [some _, some _, none, none, none, none, none]) 5 (by decide) rfl (Nat.le_of_ble_eq_true rfl) (fun p e s m below meth c F => ?_)
  have hsh9 := hsh
  obtain ⟨hs, hn1, hn2, hn3⟩ := hsh
  have ic := hI.pc
  have loop : ∀ (n : Nat) (j : Int), 0 ≤ j → j + (n : Int) = S 20 3 → V p l e (RM 0) s m ([.ref (ad 13 2 0), .int (i32 ((fm q)))] : List Value).toArray below meth c 7 cy D ad (Aw ad s.heap.size) 0 0 (MQ below (Qn cy D ad s.heap.size (some (.int (i32 (inF S q)))) (setc M 2 S)) ([.ref (ad 13 2 0), .int (i32 ((fm q)))] : List Value).toArray s 0 0 (Aw ad s.heap.size)) 14 [some (.ref (ad 13 2 0)), some (.int (i32 ((fm q)))), some (.int (i32 (cnt (isF S q) j.toNat))), some (.ref (ad 20 2 0)), some (.int (i32 (S 20 3))), some (.int (i32 j)), none] [] (setc M 2 S) := by
    intro n
    induction n with
    | zero =>
      intro j h0 h1
      refine r_iload F dX5_in_14 rfl ?_
      refine r_iload F dX5_in_16 rfl ?_
      refine r_icmp_ge (tgt := 49) F dX5_in_18 (by decide) (by first | assumption | exact ir_of (by omega) (by omega)) (by first | assumption | exact ir_of (by omega) (by omega)) (fun h18 => ?_) (fun h18 => ?_)
      · refine r_iload_n (i := 2) F dX5_in_49 rfl rfl ?_
        exact r_iret F dX5_in_50 rfl (by rw [show j = S 20 3 by omega] <;> rfl) rfl
      · exfalso; omega
    | succ n ih =>
      intro j h0 h1
      have b18 := hI.p18 j
      have f1 := fm_eq (a := S 18 j) (b := q) (by omega) (by omega)
      have f2 := fm_bd (a := S 18 j) (by omega)
      have f3 := fm_bd (a := q) (by omega)
      refine r_iload F dX5_in_14 rfl ?_
      refine r_iload F dX5_in_16 rfl ?_
      refine r_icmp_ge (tgt := 49) F dX5_in_18 (by decide) (by first | assumption | exact ir_of (by omega) (by omega)) (by first | assumption | exact ir_of (by omega) (by omega)) (fun h18 => ?_) (fun h18 => ?_)
      · exfalso; omega
      · refine r_aload_n (i := 3) F dX5_in_21 rfl rfl ?_
        refine r_iload F dX5_in_22 rfl ?_
        refine aa_20 F dX5_in_24 hs (by omega) (by omega) (by omega) ?_
        refine r_astore (lv1 := [_, _, _, _, _, _, _]) F dX5_in_25 (by decide) rfl rfl ?_
        refine r_iload_n (i := 2) F dX5_in_27 rfl rfl ?_
        refine r_aload F dX5_in_28 rfl ?_
        refine r_iconst F dX5_in_30 ?_
        refine ia_23_3 F dX5_in_31 hs (by omega) (by omega) (by omega) ?_
        refine r_iload_n (i := 1) F dX5_in_32 rfl rfl ?_
        refine r_icmp_ne (tgt := 40) F dX5_in_33 (by decide) (by first | assumption | exact ir_of (by omega) (by omega)) (by first | assumption | exact ir_of (by omega) (by omega)) (fun h33 => ?_) (fun h33 => ?_)
        · refine r_iconst F dX5_in_40 ?_
          refine r_iadd F dX5_in_41 ?_
          refine r_istore_n (i := 2) (lv1 := [_, _, _, _, _, _, _]) F dX5_in_42 rfl (by decide) rfl rfl ?_
          refine r_iinc (lv1 := [_, _, _, _, _, _, _]) F dX5_in_43 rfl (by decide) rfl rfl ?_
          refine r_goto (tgt := 14) F dX5_in_46 (by decide) ?_
          refine V.kill (lv1 := [_, _, _, _, _, _, _]) 6 rfl ?_
          have t := ih (j + 1) (by omega) (by omega)
          first | (rw [cnt_S _ h0, show isF S q j = true from decide_eq_true (by omega), bi_t] at t; exact t) | (rw [cnt_S _ h0, show isF S q j = false from decide_eq_false (by omega), bi_f] at t; exact t)
        · refine r_iconst F dX5_in_36 ?_
          refine r_goto (tgt := 41) F dX5_in_37 (by decide) ?_
          refine r_iadd F dX5_in_41 ?_
          refine r_istore_n (i := 2) (lv1 := [_, _, _, _, _, _, _]) F dX5_in_42 rfl (by decide) rfl rfl ?_
          refine r_iinc (lv1 := [_, _, _, _, _, _, _]) F dX5_in_43 rfl (by decide) rfl rfl ?_
          refine r_goto (tgt := 14) F dX5_in_46 (by decide) ?_
          refine V.kill (lv1 := [_, _, _, _, _, _, _]) 6 rfl ?_
          have t := ih (j + 1) (by omega) (by omega)
          first | (rw [cnt_S _ h0, show isF S q j = true from decide_eq_true (by omega), bi_t] at t; exact t) | (rw [cnt_S _ h0, show isF S q j = false from decide_eq_false (by omega), bi_f] at t; exact t)
  refine r_iconst F dX5_in_0 ?_
  refine r_istore_n (i := 2) (lv1 := [_, _, _, _, _, _, _]) F dX5_in_1 rfl (by decide) rfl rfl ?_
  refine r_aload_n (i := 0) F dX5_in_2 rfl rfl ?_
  refine gf_X5_30 F dX5_in_3 hs ?_
  refine r_astore_n (i := 3) (lv1 := [_, _, _, _, _, _, _]) F dX5_in_6 rfl (by decide) rfl rfl ?_
  refine r_aload_n (i := 3) F dX5_in_7 rfl rfl ?_
  refine al_20 F dX5_in_8 hs hn3 ?_
  refine r_istore (lv1 := [_, _, _, _, _, _, _]) F dX5_in_9 (by decide) rfl rfl ?_
  refine r_iconst F dX5_in_11 ?_
  refine r_istore (lv1 := [_, _, _, _, _, _, _]) F dX5_in_12 (by decide) rfl rfl ?_
  exact loop (S 20 3).toNat 0 (by omega) (by omega)

set_option maxHeartbeats 4000000 in
set_option maxRecDepth 100000 in
theorem C_X5_caves {l : Launch} {cy : Nat → ClassId} {D : va_G} {ad : Nat → Nat → Int → Nat} {M : Mem} {S : St}  (hsh : Sh ad S) : Ct l cy D ad yX5_caves cX5_caves 6 (some FieldType.int) 0 [.ref (ad 13 2 0)] (setc M 2 S) (some (.int (i32 (caves S)))) (setc M 2 S) := by
  refine Ct.mk (lv := [some _, none, none, none, none, none]) 5 (by decide) rfl (Nat.le_of_ble_eq_true rfl) (fun p e s m below meth c F => ?_)
  have hsh9 := hsh
  obtain ⟨hs, hn1, hn2, hn3⟩ := hsh
  have loop : ∀ (n : Nat) (j : Int), 0 ≤ j → j + (n : Int) = 16 → V p l e (RM 0) s m ([.ref (ad 13 2 0)] : List Value).toArray below meth c 6 cy D ad (Aw ad s.heap.size) 0 0 (MQ below (Qn cy D ad s.heap.size (some (.int (i32 (caves S)))) (setc M 2 S)) ([.ref (ad 13 2 0)] : List Value).toArray s 0 0 (Aw ad s.heap.size)) 13 [some (.ref (ad 13 2 0)), some (.int (i32 (sm (S 1) j.toNat))), some (.ref (ad 15 2 0)), some (.int (i32 16)), some (.int (i32 j)), none] [] (setc M 2 S) := by
    intro n
    induction n with
    | zero =>
      intro j h0 h1
      refine r_iload F dX5_caves_13 rfl ?_
      refine r_iload_n (i := 3) F dX5_caves_15 rfl rfl ?_
      refine r_icmp_ge (tgt := 36) F dX5_caves_16 (by decide) (by first | assumption | exact ir_of (by omega) (by omega)) (by first | assumption | exact ir_of (by omega) (by omega)) (fun h16 => ?_) (fun h16 => ?_)
      · refine r_iload_n (i := 1) F dX5_caves_36 rfl rfl ?_
        exact r_iret F dX5_caves_37 rfl (by rw [show j = 16 by omega] <;> rfl) rfl
      · exfalso; omega
    | succ n ih =>
      intro j h0 h1
      refine r_iload F dX5_caves_13 rfl ?_
      refine r_iload_n (i := 3) F dX5_caves_15 rfl rfl ?_
      refine r_icmp_ge (tgt := 36) F dX5_caves_16 (by decide) (by first | assumption | exact ir_of (by omega) (by omega)) (by first | assumption | exact ir_of (by omega) (by omega)) (fun h16 => ?_) (fun h16 => ?_)
      · exfalso; omega
      · refine r_aload_n (i := 2) F dX5_caves_19 rfl rfl ?_
        refine r_iload F dX5_caves_20 rfl ?_
        refine ia_15 F dX5_caves_22 hs (by omega) (by omega) ?_
        refine r_istore (lv1 := [_, _, _, _, _, _]) F dX5_caves_23 (by decide) rfl rfl ?_
        refine r_iload_n (i := 1) F dX5_caves_25 rfl rfl ?_
        refine r_iload F dX5_caves_26 rfl ?_
        refine r_iadd F dX5_caves_28 ?_
        refine r_istore_n (i := 1) (lv1 := [_, _, _, _, _, _]) F dX5_caves_29 rfl (by decide) rfl rfl ?_
        refine r_iinc (lv1 := [_, _, _, _, _, _]) F dX5_caves_30 rfl (by decide) rfl rfl ?_
        refine r_goto (tgt := 13) F dX5_caves_33 (by decide) ?_
        refine V.kill (lv1 := [_, _, _, _, _, _]) 5 rfl ?_
        have t := ih (j + 1) (by omega) (by omega)
        rw [sm_S _ h0] at t
        exact t
  refine r_iconst F dX5_caves_0 ?_
  refine r_istore_n (i := 1) (lv1 := [_, _, _, _, _, _]) F dX5_caves_1 rfl (by decide) rfl rfl ?_
  refine r_aload_n (i := 0) F dX5_caves_2 rfl rfl ?_
  refine gf_X5_13 F dX5_caves_3 hs ?_
  refine r_astore_n (i := 2) (lv1 := [_, _, _, _, _, _]) F dX5_caves_6 rfl (by decide) rfl rfl ?_
  refine r_aload_n (i := 2) F dX5_caves_7 rfl rfl ?_
  refine al_15 F dX5_caves_8 hs ?_
  refine r_istore_n (i := 3) (lv1 := [_, _, _, _, _, _]) F dX5_caves_9 rfl (by decide) rfl rfl ?_
  refine r_iconst F dX5_caves_10 ?_
  refine r_istore (lv1 := [_, _, _, _, _, _]) F dX5_caves_11 (by decide) rfl rfl ?_
  exact loop 16 0 (by omega) (by omega)

def okB (S : St) (b l : Int) : Prop := shw S l ≠ 0 ∧ S 2 (shw S l) ≠ -1 ∧ iabs (S 4 l - S 13 b) ≤ 9 - mo S
theorem bst_all (S : St) (b : Int) : ∀ n : Nat, (bst S b n = -1 ∧ ∀ l : Int, 0 ≤ l → l < n → ¬ okB S b l) ∨ (0 ≤ bst S b n ∧ bst S b n < n ∧ okB S b (bst S b n) ∧ ∀ l : Int, 0 ≤ l → l < n → okB S b l → iabs (S 4 (bst S b n) - S 13 b) ≤ iabs (S 4 l - S 13 b) ∧ (iabs (S 4 (bst S b n) - S 13 b) = iabs (S 4 l - S 13 b) → bst S b n ≤ l))
  | 0 => Or.inl ⟨rfl, fun l h1 h2 => by omega⟩
  | n + 1 => by
    have e : bst S b (n + 1) = if shw S n = 0 ∨ S 2 (shw S n) = -1 ∨ 9 - mo S < iabs (S 4 n - S 13 b) ∨ (bst S b n ≠ -1 ∧ iabs (S 4 (bst S b n) - S 13 b) ≤ iabs (S 4 n - S 13 b)) then bst S b n else (n : Int) := rfl
    have h := bst_all S b n
    by_cases hc : shw S n = 0 ∨ S 2 (shw S n) = -1 ∨ 9 - mo S < iabs (S 4 n - S 13 b) ∨ (bst S b n ≠ -1 ∧ iabs (S 4 (bst S b n) - S 13 b) ≤ iabs (S 4 n - S 13 b))
    · rw [if_pos hc] at e
      rw [e]
      rcases h with ⟨h1, h2⟩ | ⟨h1, h2, h3, h4⟩
      · refine Or.inl ⟨h1, fun l g1 g2 g3 => ?_⟩
        by_cases el : l = n
        · subst el
          obtain ⟨k1, k2, k3⟩ := g3
          rcases hc with hc | hc | hc | hc
          · exact k1 hc
          · exact k2 hc
          · omega
          · exact hc.1 h1
        · exact h2 l g1 (by omega) g3
      · refine Or.inr ⟨h1, by omega, h3, fun l g1 g2 g3 => ?_⟩
        by_cases el : l = n
        · subst el
          obtain ⟨k1, k2, k3⟩ := g3
          rcases hc with hc | hc | hc | hc
          · exact absurd hc k1
          · exact absurd hc k2
          · omega
          · exact ⟨hc.2, fun _ => by omega⟩
        · exact h4 l g1 (by omega) g3
    · rw [if_neg hc] at e
      rw [e]
      have k1 : shw S n ≠ 0 := fun z => hc (Or.inl z)
      have k2 : S 2 (shw S n) ≠ -1 := fun z => hc (Or.inr (Or.inl z))
      have k3 : iabs (S 4 n - S 13 b) ≤ 9 - mo S := Int.not_lt.mp fun z => hc (Or.inr (Or.inr (Or.inl z)))
      refine Or.inr ⟨by omega, by omega, ⟨k1, k2, k3⟩, fun l g1 g2 g3 => ?_⟩
      by_cases el : l = n
      · subst el
        exact ⟨Int.le_refl _, fun _ => Int.le_refl _⟩
      · rcases h with ⟨h1, h2⟩ | ⟨h1, h2, h3, h4⟩
        · exact absurd g3 (h2 l g1 (by omega))
        · have h5 := h4 l g1 (by omega) g3
          have h6 : ¬ iabs (S 4 (bst S b n) - S 13 b) ≤ iabs (S 4 n - S 13 b) := fun z => hc (Or.inr (Or.inr (Or.inr ⟨by omega, z⟩)))
          exact ⟨by omega, fun z => by omega⟩
theorem bst_none {S : St} {b : Int} {n : Nat} (h : ∀ l : Int, 0 ≤ l → l < n → ¬ okB S b l) : bst S b n = -1 := by
  rcases bst_all S b n with ⟨h1, -⟩ | ⟨h1, h2, h3, -⟩
  · exact h1
  · exact absurd h3 (h _ h1 h2)
theorem bst_is {S : St} {b j : Int} {n : Nat} (h0 : 0 ≤ j) (h1 : j < n) (hj : okB S b j) (h : ∀ l : Int, 0 ≤ l → l < n → okB S b l → iabs (S 4 j - S 13 b) ≤ iabs (S 4 l - S 13 b) ∧ (iabs (S 4 j - S 13 b) = iabs (S 4 l - S 13 b) → j ≤ l)) : bst S b n = j := by
  rcases bst_all S b n with ⟨-, h3⟩ | ⟨g1, g2, g3, g4⟩
  · exact absurd hj (h3 j h0 h1)
  · have a := h _ g1 g2 g3
    have d := g4 j h0 h1 hj
    omega

set_option maxHeartbeats 4000000 in
set_option maxRecDepth 100000 in
theorem C_X5_leads {l : Launch} {cy : Nat → ClassId} {D : va_G} {ad : Nat → Nat → Int → Nat} {M : Mem} {S : St} {x : Int} (hsh : Sh ad S) (hh : 0 ≤ S 20 0 ∧ S 20 0 < 1000000) (hI : Inv S) (hx : 0 ≤ x ∧ x < S 20 3) : Ct l cy D ad yX5_leads cX5_leads 4 (some FieldType.int) 1 [.ref (ad 13 2 0), .ref (ad 23 2 x)] (setc M 2 S) (some (.int (i32 (bst S x (S 20 1).toNat)))) (setc M 2 S) := by
  refine Ct.mk (lv := [some _, some _, none, none]) 2 (by decide) rfl (Nat.le_of_ble_eq_true rfl) (fun p e s m below meth c F => ?_)
  have hsh9 := hsh
  obtain ⟨hs, hn1, hn2, hn3⟩ := hsh
  have ic := hI.pc
  have b13 := hI.p13 x
  have hm := mo_bd S
  have inner : ∀ (f : Int), 0 ≤ f → f ≤ 9 - mo S → (∀ l : Int, 0 ≤ l → l < S 20 1 → okB S x l → f ≤ iabs (S 4 l - S 13 x)) → ((∀ l : Int, 0 ≤ l → l < S 20 1 → okB S x l → f ≠ iabs (S 4 l - S 13 x)) → V p l e (RM 1) s m ([.ref (ad 13 2 0), .ref (ad 23 2 x)] : List Value).toArray below meth c 4 cy D ad (Aw ad s.heap.size) 0 0 (MQ below (Qn cy D ad s.heap.size (some (.int (i32 (bst S x (S 20 1).toNat)))) (setc M 2 S)) ([.ref (ad 13 2 0), .ref (ad 23 2 x)] : List Value).toArray s 0 0 (Aw ad s.heap.size)) 71 [some (.ref (ad 13 2 0)), some (.ref (ad 23 2 x)), some (.int (i32 f)), none] [] (setc M 2 S)) → ∀ (n : Nat) (j : Int), 0 ≤ j → j + (n : Int) = S 20 1 → (∀ l : Int, 0 ≤ l → l < j → okB S x l → f ≠ iabs (S 4 l - S 13 x)) → V p l e (RM 1) s m ([.ref (ad 13 2 0), .ref (ad 23 2 x)] : List Value).toArray below meth c 4 cy D ad (Aw ad s.heap.size) 0 0 (MQ below (Qn cy D ad s.heap.size (some (.int (i32 (bst S x (S 20 1).toNat)))) (setc M 2 S)) ([.ref (ad 13 2 0), .ref (ad 23 2 x)] : List Value).toArray s 0 0 (Aw ad s.heap.size)) 15 [some (.ref (ad 13 2 0)), some (.ref (ad 23 2 x)), some (.int (i32 f)), some (.int (i32 j))] [] (setc M 2 S) := by
    intro f f0 f1 hge kx n
    induction n with
    | zero =>
      intro j h0 h1 hlt
      refine r_iload_n (i := 3) F dX5_leads_15 rfl rfl ?_
      refine r_aload_n (i := 0) F dX5_leads_16 rfl rfl ?_
      refine gf_X5_23 F dX5_leads_17 hs ?_
      refine al_18 F dX5_leads_20 hs hn1 ?_
      refine r_icmp_ge (tgt := 71) F dX5_leads_21 (by decide) (by first | assumption | exact ir_of (by omega) (by omega)) (by first | assumption | exact ir_of (by omega) (by omega)) (fun h21 => ?_) (fun h21 => ?_)
      · refine V.kill (lv1 := [_, _, _, _]) 3 rfl ?_
        exact kx (fun l g1 g2 => hlt l g1 (by omega))
      · exfalso; omega
    | succ n ih =>
      intro j h0 h1 hlt
      have b4 := hI.p4 j
      have oj := iabs_or (S 4 j - S 13 x)
      have bs := shw_bd hI j
      have b2 := hI.p2 (shw S j)
      refine r_iload_n (i := 3) F dX5_leads_15 rfl rfl ?_
      refine r_aload_n (i := 0) F dX5_leads_16 rfl rfl ?_
      refine gf_X5_23 F dX5_leads_17 hs ?_
      refine al_18 F dX5_leads_20 hs hn1 ?_
      refine r_icmp_ge (tgt := 71) F dX5_leads_21 (by decide) (by first | assumption | exact ir_of (by omega) (by omega)) (by first | assumption | exact ir_of (by omega) (by omega)) (fun h21 => ?_) (fun h21 => ?_)
      · exfalso; omega
      · refine r_aload_n (i := 0) F dX5_leads_24 rfl rfl ?_
        refine gf_X5_23 F dX5_leads_25 hs ?_
        refine r_iload_n (i := 3) F dX5_leads_28 rfl rfl ?_
        refine aa_18 F dX5_leads_29 hs (by omega) (by omega) (by omega) ?_
        refine r_iconst F dX5_leads_30 ?_
        refine ia_21_0 F dX5_leads_31 hs (by omega) (by omega) (by omega) ?_
        refine r_aload_n (i := 1) F dX5_leads_32 rfl rfl ?_
        refine r_iconst F dX5_leads_33 ?_
        refine ia_23_0 F dX5_leads_34 hs (by omega) (by omega) (by omega) ?_
        refine r_callS F (C_X5_far ⟨by omega, by omega⟩ ⟨by omega, by omega⟩) dX5_leads_35 lks_X5_54 rfl rfl cd_X5_far (by decide) ⟨Nat.le_refl _, Nat.le_refl _⟩ (Nat.le_of_ble_eq_true rfl) ?_
        refine r_iload_n (i := 2) F dX5_leads_38 rfl rfl ?_
        refine r_icmp_ne (tgt := 65) F dX5_leads_39 (by decide) (by first | assumption | exact ir_of (by omega) (by omega)) (by first | assumption | exact ir_of (by omega) (by omega)) (fun h39 => ?_) (fun h39 => ?_)
        · refine r_iinc (lv1 := [_, _, _, _]) F dX5_leads_65 rfl (by decide) rfl rfl ?_
          refine r_goto (tgt := 15) F dX5_leads_68 (by decide) ?_
          refine ih (j + 1) (by omega) (by omega) (fun l g1 g2 g3 => ?_)
          by_cases el : l = j
          · subst el; obtain ⟨k1, k2, k3⟩ := g3; omega
          · exact hlt l g1 (by omega) g3
        · refine r_aload_n (i := 0) F dX5_leads_42 rfl rfl ?_
          refine r_iload_n (i := 3) F dX5_leads_43 rfl rfl ?_
          refine r_callV F (C_X5_shown hsh9 hh hI ⟨by omega, by omega⟩) dX5_leads_44 lkv_X5_70 rfl rfl (dm13 hs) rfl rfl cd_X5_shown (by decide) ⟨Nat.le_refl _, Nat.le_refl _⟩ (Nat.le_of_ble_eq_true rfl) ?_
          refine r_if_le (tgt := 65) F dX5_leads_47 (by decide) (by first | assumption | exact ir_of (by omega) (by omega)) (fun h47 => ?_) (fun h47 => ?_)
          · refine r_iinc (lv1 := [_, _, _, _]) F dX5_leads_65 rfl (by decide) rfl rfl ?_
            refine r_goto (tgt := 15) F dX5_leads_68 (by decide) ?_
            refine ih (j + 1) (by omega) (by omega) (fun l g1 g2 g3 => ?_)
            by_cases el : l = j
            · subst el; obtain ⟨k1, k2, k3⟩ := g3; omega
            · exact hlt l g1 (by omega) g3
          · refine r_aload_n (i := 0) F dX5_leads_50 rfl rfl ?_
            refine gf_X5_16 F dX5_leads_51 hs ?_
            refine r_aload_n (i := 0) F dX5_leads_54 rfl rfl ?_
            refine r_iload_n (i := 3) F dX5_leads_55 rfl rfl ?_
            refine r_callV F (C_X5_shown hsh9 hh hI ⟨by omega, by omega⟩) dX5_leads_56 lkv_X5_70 rfl rfl (dm13 hs) rfl rfl cd_X5_shown (by decide) ⟨Nat.le_refl _, Nat.le_refl _⟩ (Nat.le_of_ble_eq_true rfl) ?_
            refine ia_16 F dX5_leads_59 hs (by omega) (by omega) ?_
            refine r_if_lt (tgt := 65) F dX5_leads_60 (by decide) (by first | assumption | exact ir_of (by omega) (by omega)) (fun h60 => ?_) (fun h60 => ?_)
            · refine r_iinc (lv1 := [_, _, _, _]) F dX5_leads_65 rfl (by decide) rfl rfl ?_
              refine r_goto (tgt := 15) F dX5_leads_68 (by decide) ?_
              refine ih (j + 1) (by omega) (by omega) (fun l g1 g2 g3 => ?_)
              by_cases el : l = j
              · subst el; obtain ⟨k1, k2, k3⟩ := g3; omega
              · exact hlt l g1 (by omega) g3
            · refine r_iload_n (i := 3) F dX5_leads_63 rfl rfl ?_
              have hok : okB S x j := ⟨by omega, by omega, by omega⟩
              exact r_iret F dX5_leads_64 rfl (bst_is h0 (by omega) hok (fun l g1 g2 g3 => ⟨by have := hge l g1 (by omega) g3; omega, fun e9 => Int.not_lt.mp fun z => hlt l g1 z g3 (by omega)⟩)).symm rfl
  have outer : ∀ (n : Nat) (f : Int), 0 ≤ f → f + (n : Int) = 10 - mo S → (∀ l : Int, 0 ≤ l → l < S 20 1 → okB S x l → f ≤ iabs (S 4 l - S 13 x)) → V p l e (RM 1) s m ([.ref (ad 13 2 0), .ref (ad 23 2 x)] : List Value).toArray below meth c 4 cy D ad (Aw ad s.heap.size) 0 0 (MQ below (Qn cy D ad s.heap.size (some (.int (i32 (bst S x (S 20 1).toNat)))) (setc M 2 S)) ([.ref (ad 13 2 0), .ref (ad 23 2 x)] : List Value).toArray s 0 0 (Aw ad s.heap.size)) 2 [some (.ref (ad 13 2 0)), some (.ref (ad 23 2 x)), some (.int (i32 f)), none] [] (setc M 2 S) := by
    intro n
    induction n with
    | zero =>
      intro f f0 f1 hge
      refine r_iload_n (i := 2) F dX5_leads_2 rfl rfl ?_
      refine r_bipush F dX5_leads_3 (by decide) ?_
      refine r_aload_n (i := 0) F dX5_leads_5 rfl rfl ?_
      refine r_callV F (C_X5_moon hsh9 hh) dX5_leads_6 lkv_X5_58 rfl rfl (dm13 hs) rfl rfl cd_X5_moon (by decide) ⟨Nat.le_refl _, Nat.le_refl _⟩ (Nat.le_of_ble_eq_true rfl) ?_
      refine r_isub F dX5_leads_9 ?_
      refine r_icmp_gt (tgt := 77) F dX5_leads_10 (by decide) (by first | assumption | exact ir_of (by omega) (by omega)) (by first | assumption | exact ir_of (by omega) (by omega)) (fun h10 => ?_) (fun h10 => ?_)
      · refine r_iconst F dX5_leads_77 ?_
        exact r_iret F dX5_leads_78 rfl (bst_none (fun l g1 g2 g3 => by have := hge l g1 (by omega) g3; have := g3.2.2; omega)).symm rfl
      · exfalso; omega
    | succ n ih =>
      intro f f0 f1 hge
      refine r_iload_n (i := 2) F dX5_leads_2 rfl rfl ?_
      refine r_bipush F dX5_leads_3 (by decide) ?_
      refine r_aload_n (i := 0) F dX5_leads_5 rfl rfl ?_
      refine r_callV F (C_X5_moon hsh9 hh) dX5_leads_6 lkv_X5_58 rfl rfl (dm13 hs) rfl rfl cd_X5_moon (by decide) ⟨Nat.le_refl _, Nat.le_refl _⟩ (Nat.le_of_ble_eq_true rfl) ?_
      refine r_isub F dX5_leads_9 ?_
      refine r_icmp_gt (tgt := 77) F dX5_leads_10 (by decide) (by first | assumption | exact ir_of (by omega) (by omega)) (by first | assumption | exact ir_of (by omega) (by omega)) (fun h10 => ?_) (fun h10 => ?_)
      · exfalso; omega
      · refine r_iconst F dX5_leads_13 ?_
        refine r_istore_n (i := 3) (lv1 := [_, _, _, _]) F dX5_leads_14 rfl (by decide) rfl rfl ?_
        refine inner f f0 (by omega) hge (fun hne => ?_) (S 20 1).toNat 0 (by decide) (by omega) (fun l g1 g2 => by omega)
        refine r_iinc (lv1 := [_, _, _, _]) F dX5_leads_71 rfl (by decide) rfl rfl ?_
        refine r_goto (tgt := 2) F dX5_leads_74 (by decide) ?_
        exact ih (f + 1) (by omega) (by omega) (fun l g1 g2 g3 => by have a := hge l g1 g2 g3; have b := hne l g1 g2 g3; omega)
  refine r_iconst F dX5_leads_0 ?_
  refine r_istore_n (i := 2) (lv1 := [_, _, _, _]) F dX5_leads_1 rfl (by decide) rfl rfl ?_
  refine V.kill (lv1 := [_, _, _, _]) 3 rfl ?_
  exact outer (10 - mo S).toNat 0 (by decide) (by omega) (fun l g1 g2 g3 => by have := iabs_or (S 4 l - S 13 x); omega)
