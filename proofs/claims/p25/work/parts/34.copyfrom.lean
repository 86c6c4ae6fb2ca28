/-! The class: a coast written over by another. -/
theorem ir_M : True := trivial
def lcp (S T : St) (x : Int) : St := u2 (u2 (cpK S 5 (10 * x) 10 (T 5)) 4 x (T 4 x)) 6 x (T 6 x)
def wcp (S T : St) (x : Int) : St := u2 (u2 (u2 (u2 (u2 (u2 S 7 x (T 7 x)) 8 x (T 8 x)) 9 x (T 9 x)) 10 x (T 10 x)) 11 x (T 11 x)) 12 x (T 12 x)
def bcp (S T : St) (x : Int) : St := u2 (u2 (u2 (u2 (u2 (u2 (u2 S 13 x (T 13 x)) 14 x (T 14 x)) 15 x (T 15 x)) 16 x (T 16 x)) 17 x (T 17 x)) 18 x (T 18 x)) 19 x (T 19 x)
def lanC (S T : St) (j : Int) : St := fun k i => if ((k = 4 ∨ k = 6) ∧ 0 ≤ i ∧ i < j) ∨ (k = 5 ∧ 0 ≤ i ∧ i < 10 * j) then T k i else S k i
def rngC (lo hi : Nat) (S T : St) (j : Int) : St := fun k i => if (lo ≤ k ∧ k ≤ hi) ∧ 0 ≤ i ∧ i < j then T k i else S k i
theorem lanC_0 (S T : St) : lanC S T 0 = S := by
  funext k i
  unfold lanC
  rw [if_neg]
  omega
theorem rngC_0 (lo hi : Nat) (S T : St) : rngC lo hi S T 0 = S := by
  funext k i
  unfold rngC
  rw [if_neg]
  omega
theorem lanC_S (S T : St) {j : Int} (h : 0 ≤ j) : lcp (lanC S T j) T j = lanC S T (j + 1) := by
  funext k i
  unfold lcp u2 cpK lanC
  by_cases h6 : k = 6 ∧ i = j
  · obtain ⟨rfl, rfl⟩ := h6
    rw [if_pos ⟨rfl, rfl⟩, if_pos (by omega)]
  · rw [if_neg h6]
    by_cases h4 : k = 4 ∧ i = j
    · obtain ⟨rfl, rfl⟩ := h4
      rw [if_pos ⟨rfl, rfl⟩, if_pos (by omega)]
    · rw [if_neg h4]
      by_cases h5 : k = 5 ∧ 10 * j ≤ i ∧ i < 10 * j + 10
      · rw [if_pos h5, if_pos (by omega), h5.1]
      · rw [if_neg h5]
        by_cases h7 : ((k = 4 ∨ k = 6) ∧ 0 ≤ i ∧ i < j) ∨ (k = 5 ∧ 0 ≤ i ∧ i < 10 * j)
        · rw [if_pos h7, if_pos (by omega)]
        · rw [if_neg h7, if_neg (by omega)]
theorem wcp_S (S T : St) {j : Int} (h : 0 ≤ j) : wcp (rngC 7 12 S T j) T j = rngC 7 12 S T (j + 1) := by
  funext k i
  unfold wcp u2 rngC
  by_cases hi : i = j
  · subst hi
    by_cases hk : 7 ≤ k ∧ k ≤ 12
    · rw [if_pos (show (7 ≤ k ∧ k ≤ 12) ∧ 0 ≤ i ∧ i < i + 1 by omega)]
      have : k = 7 ∨ k = 8 ∨ k = 9 ∨ k = 10 ∨ k = 11 ∨ k = 12 := by omega
      rcases this with rfl | rfl | rfl | rfl | rfl | rfl <;> simp
    · rw [if_neg (show ¬ ((7 ≤ k ∧ k ≤ 12) ∧ 0 ≤ i ∧ i < i + 1) by omega), if_neg (by omega), if_neg (by omega), if_neg (by omega), if_neg (by omega), if_neg (by omega), if_neg (by omega), if_neg (by omega)]
  · rw [if_neg (by omega), if_neg (by omega), if_neg (by omega), if_neg (by omega), if_neg (by omega), if_neg (by omega)]
    by_cases hk : (7 ≤ k ∧ k ≤ 12) ∧ 0 ≤ i ∧ i < j
    · rw [if_pos hk, if_pos (by omega)]
    · rw [if_neg hk, if_neg (by omega)]
theorem bcp_S (S T : St) {j : Int} (h : 0 ≤ j) : bcp (rngC 13 19 S T j) T j = rngC 13 19 S T (j + 1) := by
  funext k i
  unfold bcp u2 rngC
  by_cases hi : i = j
  · subst hi
    by_cases hk : 13 ≤ k ∧ k ≤ 19
    · rw [if_pos (show (13 ≤ k ∧ k ≤ 19) ∧ 0 ≤ i ∧ i < i + 1 by omega)]
      have : k = 13 ∨ k = 14 ∨ k = 15 ∨ k = 16 ∨ k = 17 ∨ k = 18 ∨ k = 19 := by omega
      rcases this with rfl | rfl | rfl | rfl | rfl | rfl | rfl <;> simp
    · rw [if_neg (show ¬ ((13 ≤ k ∧ k ≤ 19) ∧ 0 ≤ i ∧ i < i + 1) by omega), if_neg (by omega), if_neg (by omega), if_neg (by omega), if_neg (by omega), if_neg (by omega), if_neg (by omega), if_neg (by omega), if_neg (by omega)]
  · rw [if_neg (by omega), if_neg (by omega), if_neg (by omega), if_neg (by omega), if_neg (by omega), if_neg (by omega), if_neg (by omega)]
    by_cases hk : (13 ≤ k ∧ k ≤ 19) ∧ 0 ≤ i ∧ i < j
    · rw [if_pos hk, if_pos (by omega)]
    · rw [if_neg hk, if_neg (by omega)]
theorem tab_fun {S T : St} {x : Int} : (fun j : Nat => if j < 10 then i32 (cpK S 5 (10 * x) 10 (T 5) 5 (10 * x + (j : Int))) else 0) = va_cpy (fun j : Nat => if j < 10 then i32 (T 5 (10 * x + (j : Int))) else 0) (fun j : Nat => if j < 10 then i32 (S 5 (10 * x + (j : Int))) else 0) 0 0 10 := by
  funext j
  unfold cpK va_cpy
  by_cases h : j < 10
  · rw [if_pos h, if_pos ⟨rfl, by omega, by omega⟩, if_pos ⟨by omega, by omega⟩]
    simp [h]
  · rw [if_neg h, if_neg (fun h2 => h (by omega))]
    show (0 : Int32) = if j < 10 then _ else 0
    rw [if_neg h]

set_option maxHeartbeats 4000000 in
set_option maxRecDepth 100000 in
theorem C_X2_copyFrom {l : Launch} {cy : Nat → ClassId} {D : va_G} {ad : Nat → Nat → Int → Nat} {M : Mem} {k : Nat} {S : St} {k2 : Nat} {x : Int} (hc : k < 2) (hc2 : k2 < 2) (hne : k2 ≠ k) (hx : 0 ≤ x ∧ x < 5) : Ct l cy D ad yX2_copyFrom cX2_copyFrom 2 none 1 [.ref (ad 9 k x), .ref (ad 9 k2 x)] (setc M k S) none (setc M k (lcp S (M k2) x)) := by
  refine Ct.mk (lv := [some _, some _]) 0 (by decide) rfl (Nat.le_of_ble_eq_true rfl) (fun p e s m below meth c F => ?_)
  refine r_aload_n (i := 1) F dX2_copyFrom_0 rfl rfl ?_
  refine gf_X2_9 F dX2_copyFrom_1 hc2 (by omega) (by omega) ?_
  refine r_iconst F dX2_copyFrom_4 ?_
  refine r_aload_n (i := 0) F dX2_copyFrom_5 rfl rfl ?_
  refine gf_X2_9 F dX2_copyFrom_6 hc (by omega) (by omega) ?_
  refine r_iconst F dX2_copyFrom_9 ?_
  refine r_bipush F dX2_copyFrom_10 (by decide) ?_
  refine r_copy F dX2_copyFrom_12 ac_X2_15 ac_n ac_s ac_i (dm10 hc2 hx.1 hx.2) (dm10 hc hx.1 hx.2) (n := 10) (f := fun j => if j < 10 then i32 (M k2 5 (10 * x + (j : Int))) else 0) (g := fun j => if j < 10 then i32 (S 5 (10 * x + (j : Int))) else 0) (M1 := setc M k (cpK S 5 (10 * x) 10 (M k2 5))) (by simp only [cel, setc_ne _ _ hne]) (by simp only [cel, setc_at]) (by decide) rfl (by simp only [cel, setc_at]; rw [tab_fun]) (cpK_oth (fun i _ _ => by simp [owner, hc]; omega)) (by decide) (Nat.le_of_ble_eq_true rfl) ?_
  refine r_aload_n (i := 0) F dX2_copyFrom_15 rfl rfl ?_
  refine r_aload_n (i := 1) F dX2_copyFrom_16 rfl rfl ?_
  refine gg_X2_21 F dX2_copyFrom_17 hc2 (by omega) (by omega) ?_
  rw [setc_ne _ _ hne]
  refine pf_X2_21 F dX2_copyFrom_20 hc (by omega) (by omega) ?_
  refine r_aload_n (i := 0) F dX2_copyFrom_23 rfl rfl ?_
  refine r_aload_n (i := 1) F dX2_copyFrom_24 rfl rfl ?_
  refine gg_X2_25 F dX2_copyFrom_25 hc2 (by omega) (by omega) ?_
  rw [setc_ne _ _ hne]
  refine pf_X2_25 F dX2_copyFrom_28 hc (by omega) (by omega) ?_
  exact r_vret F dX2_copyFrom_31 rfl rfl

set_option maxHeartbeats 4000000 in
set_option maxRecDepth 100000 in
theorem C_X3_copyFrom {l : Launch} {cy : Nat → ClassId} {D : va_G} {ad : Nat → Nat → Int → Nat} {M : Mem} {k : Nat} {S : St} {k2 : Nat} {x : Int} (hc : k < 2) (hc2 : k2 < 2) (hne : k2 ≠ k) (hx : 0 ≤ x ∧ x < 4) : Ct l cy D ad yX3_copyFrom cX3_copyFrom 2 none 0 [.ref (ad 11 k x), .ref (ad 11 k2 x)] (setc M k S) none (setc M k (wcp S (M k2) x)) := by
  refine Ct.mk (lv := [some _, some _]) 0 (by decide) rfl (Nat.le_of_ble_eq_true rfl) (fun p e s m below meth c F => ?_)
  refine r_aload_n (i := 0) F dX3_copyFrom_0 rfl rfl ?_
  refine r_aload_n (i := 1) F dX3_copyFrom_1 rfl rfl ?_
  refine gg_X3_7 F dX3_copyFrom_2 hc2 (by omega) (by omega) ?_
  rw [setc_ne _ _ hne]
  refine pf_X3_7 F dX3_copyFrom_5 hc (by omega) (by omega) ?_
  refine r_aload_n (i := 0) F dX3_copyFrom_8 rfl rfl ?_
  refine r_aload_n (i := 1) F dX3_copyFrom_9 rfl rfl ?_
  refine gg_X3_13 F dX3_copyFrom_10 hc2 (by omega) (by omega) ?_
  rw [setc_ne _ _ hne]
  refine pf_X3_13 F dX3_copyFrom_13 hc (by omega) (by omega) ?_
  refine r_aload_n (i := 0) F dX3_copyFrom_16 rfl rfl ?_
  refine r_aload_n (i := 1) F dX3_copyFrom_17 rfl rfl ?_
  refine gg_X3_16 F dX3_copyFrom_18 hc2 (by omega) (by omega) ?_
  rw [setc_ne _ _ hne]
  refine pf_X3_16 F dX3_copyFrom_21 hc (by omega) (by omega) ?_
  refine r_aload_n (i := 0) F dX3_copyFrom_24 rfl rfl ?_
  refine r_aload_n (i := 1) F dX3_copyFrom_25 rfl rfl ?_
  refine gg_X3_19 F dX3_copyFrom_26 hc2 (by omega) (by omega) ?_
  rw [setc_ne _ _ hne]
  refine pf_X3_19 F dX3_copyFrom_29 hc (by omega) (by omega) ?_
  refine r_aload_n (i := 0) F dX3_copyFrom_32 rfl rfl ?_
  refine r_aload_n (i := 1) F dX3_copyFrom_33 rfl rfl ?_
  refine gg_X3_22 F dX3_copyFrom_34 hc2 (by omega) (by omega) ?_
  rw [setc_ne _ _ hne]
  refine pf_X3_22 F dX3_copyFrom_37 hc (by omega) (by omega) ?_
  refine r_aload_n (i := 0) F dX3_copyFrom_40 rfl rfl ?_
  refine r_aload_n (i := 1) F dX3_copyFrom_41 rfl rfl ?_
  refine gg_X3_25 F dX3_copyFrom_42 hc2 (by omega) (by omega) ?_
  rw [setc_ne _ _ hne]
  refine pf_X3_25 F dX3_copyFrom_45 hc (by omega) (by omega) ?_
  exact r_vret F dX3_copyFrom_48 rfl rfl

set_option maxHeartbeats 4000000 in
set_option maxRecDepth 100000 in
theorem C_X0_copyFrom {l : Launch} {cy : Nat → ClassId} {D : va_G} {ad : Nat → Nat → Int → Nat} {M : Mem} {k : Nat} {S : St} {k2 : Nat} {x : Int} (hc : k < 2) (hc2 : k2 < 2) (hne : k2 ≠ k) (hIT : Inv (M k2)) (hx : 0 ≤ x ∧ x < 6) : Ct l cy D ad yX0_copyFrom cX0_copyFrom 2 none 0 [.ref (ad 12 k x), .ref (ad 12 k2 x)] (setc M k S) none (setc M k (bcp S (M k2) x)) := by
  refine Ct.mk (lv := [some _, some _]) 0 (by decide) rfl (Nat.le_of_ble_eq_true rfl) (fun p e s m below meth c F => ?_)
  refine r_aload_n (i := 0) F dX0_copyFrom_0 rfl rfl ?_
  refine r_aload_n (i := 1) F dX0_copyFrom_1 rfl rfl ?_
  refine gg_X0_9 F dX0_copyFrom_2 hc2 (by omega) (by omega) ?_
  rw [setc_ne _ _ hne]
  refine pf_X0_9 F dX0_copyFrom_5 hc (by omega) (by omega) ?_
  refine r_aload_n (i := 0) F dX0_copyFrom_8 rfl rfl ?_
  refine r_aload_n (i := 1) F dX0_copyFrom_9 rfl rfl ?_
  refine gg_X0_15 F dX0_copyFrom_10 hc2 (by omega) (by omega) ?_
  rw [setc_ne _ _ hne]
  refine pf_X0_15 F dX0_copyFrom_13 hc (by omega) (by omega) ?_
  refine r_aload_n (i := 0) F dX0_copyFrom_16 rfl rfl ?_
  refine r_aload_n (i := 1) F dX0_copyFrom_17 rfl rfl ?_
  refine gg_X0_18 F dX0_copyFrom_18 hc2 (by omega) (by omega) ?_
  rw [setc_ne _ _ hne]
  refine pf_X0_18 F dX0_copyFrom_21 hc (by omega) (by omega) ?_
  refine r_aload_n (i := 0) F dX0_copyFrom_24 rfl rfl ?_
  refine r_aload_n (i := 1) F dX0_copyFrom_25 rfl rfl ?_
  refine gg_X0_21 F dX0_copyFrom_26 hc2 (by omega) (by omega) ?_
  rw [setc_ne _ _ hne]
  refine pf_X0_21 F dX0_copyFrom_29 hc (by omega) (by omega) ?_
  refine r_aload_n (i := 0) F dX0_copyFrom_32 rfl rfl ?_
  refine r_aload_n (i := 1) F dX0_copyFrom_33 rfl rfl ?_
  refine gg_X0_24 F dX0_copyFrom_34 hc2 (by omega) (by omega) ?_
  rw [setc_ne _ _ hne]
  refine pf_X0_24 F dX0_copyFrom_37 hc (by omega) (by omega) (hIT.p17 x) ?_
  refine r_aload_n (i := 0) F dX0_copyFrom_40 rfl rfl ?_
  refine r_aload_n (i := 1) F dX0_copyFrom_41 rfl rfl ?_
  refine gg_X0_28 F dX0_copyFrom_42 hc2 (by omega) (by omega) ?_
  rw [setc_ne _ _ hne]
  refine pf_X0_28 F dX0_copyFrom_45 hc (by omega) (by omega) ?_
  refine r_aload_n (i := 0) F dX0_copyFrom_48 rfl rfl ?_
  refine r_aload_n (i := 1) F dX0_copyFrom_49 rfl rfl ?_
  refine gg_X0_31 F dX0_copyFrom_50 hc2 (by omega) (by omega) ?_
  rw [setc_ne _ _ hne]
  refine pf_X0_31 F dX0_copyFrom_53 hc (by omega) (by omega) ?_
  exact r_vret F dX0_copyFrom_56 rfl rfl

set_option maxHeartbeats 4000000 in
set_option maxRecDepth 100000 in
theorem C_X1_copyFrom {l : Launch} {cy : Nat → ClassId} {D : va_G} {ad : Nat → Nat → Int → Nat} {M : Mem} {k : Nat} {S : St} {k2 : Nat} (hc : k < 2) (hc2 : k2 < 2) (hne : k2 ≠ k) (hIT : Inv (M k2)) (hDT : Dead (M k2)) (hDS : Dead S) (hcnt : S 20 1 ≤ M k2 20 1 ∧ S 20 2 ≤ M k2 20 2 ∧ S 20 3 ≤ M k2 20 3) : Ct l cy D ad yX1_copyFrom cX1_copyFrom 3 none 2 [.ref (ad 1 k 0), .ref (ad 1 k2 0)] (setc M k S) none (setc M k (M k2)) := by
  refine Ct.mk (lv := [some _, some _, none]) 1 (by decide) rfl (Nat.le_of_ble_eq_true rfl) (fun p e s m below meth c F => ?_)
  obtain ⟨T, hT⟩ : ∃ T, T = M k2 := ⟨_, rfl⟩
  rw [← hT] at hIT hDT hcnt
  have ic := hIT.pc
  have hTn : ∀ S9 : St, setc M k S9 k2 = T := fun S9 => by rw [setc_ne _ _ hne, hT]
  refine r_aload_n (i := 1) F dX1_copyFrom_0 rfl rfl ?_
  refine gf_X1_9 F dX1_copyFrom_1 hc2 ?_
  refine r_iconst F dX1_copyFrom_4 ?_
  refine r_aload_n (i := 0) F dX1_copyFrom_5 rfl rfl ?_
  refine gf_X1_9 F dX1_copyFrom_6 hc ?_
  refine r_iconst F dX1_copyFrom_9 ?_
  refine r_bipush F dX1_copyFrom_10 (by decide) ?_
  refine r_copy F dX1_copyFrom_12 ac_X1_45 ac_n ac_s ac_i (dm1 ⟨by decide, by decide⟩ hc2) (dm1 ⟨by decide, by decide⟩ hc) (n := 16) (f := fun j => i32 (T 0 (j : Int))) (g := fun j => i32 (S 0 (j : Int))) (M1 := setc M k (cpK S 0 0 (16 : Nat) (T 0))) (by simp only [cel, setc_ne _ _ hne, hT]) (by simp only [cel, setc_at]) (by decide) rfl (by simp only [cel, setc_at]; rw [cpK_fun]) (cpK_oth (fun i _ _ => by simp [owner, hc])) (by decide) (Nat.le_of_ble_eq_true rfl) ?_
  refine r_aload_n (i := 1) F dX1_copyFrom_15 rfl rfl ?_
  refine gf_X1_15 F dX1_copyFrom_16 hc2 ?_
  refine r_iconst F dX1_copyFrom_19 ?_
  refine r_aload_n (i := 0) F dX1_copyFrom_20 rfl rfl ?_
  refine gf_X1_15 F dX1_copyFrom_21 hc ?_
  refine r_iconst F dX1_copyFrom_24 ?_
  refine r_bipush F dX1_copyFrom_25 (by decide) ?_
  refine r_copy F dX1_copyFrom_27 ac_X1_45 ac_n ac_s ac_i (dm1 ⟨by decide, by decide⟩ hc2) (dm1 ⟨by decide, by decide⟩ hc) (n := 16) (f := fun j => i32 (T 1 (j : Int))) (g := fun j => i32 ((cpK S 0 0 (16 : Nat) (T 0)) 1 (j : Int))) (M1 := setc M k (cpK (cpK S 0 0 (16 : Nat) (T 0)) 1 0 (16 : Nat) (T 1))) (by simp only [cel, setc_ne _ _ hne, hT]) (by simp only [cel, setc_at]) (by decide) rfl (by simp only [cel, setc_at]; rw [cpK_fun]) (cpK_oth (fun i _ _ => by simp [owner, hc])) (by decide) (Nat.le_of_ble_eq_true rfl) ?_
  refine r_aload_n (i := 1) F dX1_copyFrom_30 rfl rfl ?_
  refine gf_X1_18 F dX1_copyFrom_31 hc2 ?_
  refine r_iconst F dX1_copyFrom_34 ?_
  refine r_aload_n (i := 0) F dX1_copyFrom_35 rfl rfl ?_
  refine gf_X1_18 F dX1_copyFrom_36 hc ?_
  refine r_iconst F dX1_copyFrom_39 ?_
  refine r_bipush F dX1_copyFrom_40 (by decide) ?_
  refine r_copy F dX1_copyFrom_42 ac_X1_45 ac_n ac_s ac_i (dm1 ⟨by decide, by decide⟩ hc2) (dm1 ⟨by decide, by decide⟩ hc) (n := 8) (f := fun j => i32 (T 2 (j : Int))) (g := fun j => i32 ((cpK (cpK S 0 0 (16 : Nat) (T 0)) 1 0 (16 : Nat) (T 1)) 2 (j : Int))) (M1 := setc M k (cpK (cpK (cpK S 0 0 (16 : Nat) (T 0)) 1 0 (16 : Nat) (T 1)) 2 0 (8 : Nat) (T 2))) (by simp only [cel, setc_ne _ _ hne, hT]) (by simp only [cel, setc_at]) (by decide) rfl (by simp only [cel, setc_at]; rw [cpK_fun]) (cpK_oth (fun i _ _ => by simp [owner, hc])) (by decide) (Nat.le_of_ble_eq_true rfl) ?_
  refine r_aload_n (i := 1) F dX1_copyFrom_45 rfl rfl ?_
  refine gf_X1_21 F dX1_copyFrom_46 hc2 ?_
  refine r_iconst F dX1_copyFrom_49 ?_
  refine r_aload_n (i := 0) F dX1_copyFrom_50 rfl rfl ?_
  refine gf_X1_21 F dX1_copyFrom_51 hc ?_
  refine r_iconst F dX1_copyFrom_54 ?_
  refine r_bipush F dX1_copyFrom_55 (by decide) ?_
  refine r_copy F dX1_copyFrom_57 ac_X1_45 ac_n ac_s ac_i (dm1 ⟨by decide, by decide⟩ hc2) (dm1 ⟨by decide, by decide⟩ hc) (n := 8) (f := fun j => i32 (T 3 (j : Int))) (g := fun j => i32 ((cpK (cpK (cpK S 0 0 (16 : Nat) (T 0)) 1 0 (16 : Nat) (T 1)) 2 0 (8 : Nat) (T 2)) 3 (j : Int))) (M1 := setc M k (cpK (cpK (cpK (cpK S 0 0 (16 : Nat) (T 0)) 1 0 (16 : Nat) (T 1)) 2 0 (8 : Nat) (T 2)) 3 0 (8 : Nat) (T 3))) (by simp only [cel, setc_ne _ _ hne, hT]) (by simp only [cel, setc_at]) (by decide) rfl (by simp only [cel, setc_at]; rw [cpK_fun]) (cpK_oth (fun i _ _ => by simp [owner, hc])) (by decide) (Nat.le_of_ble_eq_true rfl) ?_
  obtain ⟨S0, hS0⟩ : ∃ z, z = (u2 (u2 (u2 (cpK (cpK (cpK (cpK S 0 0 (16 : Nat) (T 0)) 1 0 (16 : Nat) (T 1)) 2 0 (8 : Nat) (T 2)) 3 0 (8 : Nat) (T 3)) 20 1 (T 20 1)) 20 2 (T 20 2)) 20 3 (T 20 3)) := ⟨_, rfl⟩
  have e201 : S0 20 1 = T 20 1 := by rw [hS0]; simp [u2]
  have e202 : S0 20 2 = T 20 2 := by rw [hS0]; simp [u2]
  have e203 : S0 20 3 = T 20 3 := by rw [hS0]; simp [u2]
  have loop3 : ∀ (n : Nat) (j : Int) (S1 : St), 0 ≤ j → j + (n : Int) = T 20 3 → S1 = rngC 13 19 (rngC 7 12 (lanC S0 T (T 20 1)) T (T 20 2)) T (j) → V p l e (RM 2) s m ([.ref (ad 1 k 0), .ref (ad 1 k2 0)] : List Value).toArray below meth c 3 cy D ad (Aw ad s.heap.size) 0 0 (MQ below (Qn cy D ad s.heap.size none (setc M k (M k2))) ([.ref (ad 1 k 0), .ref (ad 1 k2 0)] : List Value).toArray s 0 0 (Aw ad s.heap.size)) 148 [some (.ref (ad 1 k 0)), some (.ref (ad 1 k2 0)), some (.int (i32 j))] [] (setc M k S1) := by
    intro n
    induction n with
    | zero =>
      intro j S1 h0 h1 hS
      have f20 : S1 20 3 = T 20 3 := by rw [hS]; first | exact e203 | (simp [lanC, rngC]; exact e203)
      refine r_iload_n (i := 2) F dX1_copyFrom_148 rfl rfl ?_
      refine r_aload_n (i := 0) F dX1_copyFrom_149 rfl rfl ?_
      refine gf_X1_58 F dX1_copyFrom_150 hc ?_
      refine r_icmp_ge (tgt := 177) F dX1_copyFrom_153 (by decide) (by first | assumption | exact ir_of (by omega) (by omega)) (by first | assumption | exact ir_of (by omega) (by omega)) (fun h153 => ?_) (fun h153 => ?_)
      · refine r_aload_n (i := 0) F dX1_copyFrom_177 rfl rfl ?_
        refine r_aload_n (i := 1) F dX1_copyFrom_178 rfl rfl ?_
        refine gg_X1_71 F dX1_copyFrom_179 hc2 ?_
        rw [hTn]
        refine pf_X1_71 F dX1_copyFrom_182 hc ?_
        refine r_aload_n (i := 0) F dX1_copyFrom_185 rfl rfl ?_
        refine r_aload_n (i := 1) F dX1_copyFrom_186 rfl rfl ?_
        refine gg_X1_74 F dX1_copyFrom_187 hc2 ?_
        rw [hTn]
        refine pf_X1_74 F dX1_copyFrom_190 hc ?_
        refine r_aload_n (i := 0) F dX1_copyFrom_193 rfl rfl ?_
        refine r_aload_n (i := 1) F dX1_copyFrom_194 rfl rfl ?_
        refine gg_X1_77 F dX1_copyFrom_195 hc2 ?_
        rw [hTn]
        refine pf_X1_77 F dX1_copyFrom_198 hc ?_
        refine V.agree (agree_k (S1 := T) (by omega) ?_) ?_
        · intro kd i ⟨q1, q2, q3⟩
          have d1 := hDT.1 i
          have d2 := hDT.2.1 i
          have d3 := hDT.2.2.1 kd i
          have d4 := hDT.2.2.2 kd i
          have s1 := hDS.1 i
          have s2 := hDS.2.1 i
          have s3 := hDS.2.2.1 kd i
          have s4 := hDS.2.2.2 kd i
          have hj : j = T 20 3 := by omega
          rw [hS, hj, hS0]
          have : kd = 0 ∨ kd = 1 ∨ kd = 2 ∨ kd = 3 ∨ kd = 4 ∨ kd = 5 ∨ kd = 6 ∨ kd = 7 ∨ kd = 8 ∨ kd = 9 ∨ kd = 10 ∨ kd = 11 ∨ kd = 12 ∨ kd = 13 ∨ kd = 14 ∨ kd = 15 ∨ kd = 16 ∨ kd = 17 ∨ kd = 18 ∨ kd = 19 ∨ kd = 20 := by omega
          rcases this with rfl | rfl | rfl | rfl | rfl | rfl | rfl | rfl | rfl | rfl | rfl | rfl | rfl | rfl | rfl | rfl | rfl | rfl | rfl | rfl | rfl
          · simp [lenK] at q3
            simp [lanC, rngC, u2, cpK, q2, q3]
          · simp [lenK] at q3
            simp [lanC, rngC, u2, cpK, q2, q3]
          · simp [lenK] at q3
            simp [lanC, rngC, u2, cpK, q2, q3]
          · simp [lenK] at q3
            simp [lanC, rngC, u2, cpK, q2, q3]
          · simp [lenK] at q3
            simp [lanC, rngC, u2, cpK, q2]
            intro q
            rw [(d1 (by omega)).1, (s1 (by omega)).1]
          · simp [lenK] at q3
            simp [lanC, rngC, u2, cpK, q2]
            intro q
            rw [d2 (by omega), s2 (by omega)]
          · simp [lenK] at q3
            simp [lanC, rngC, u2, cpK, q2]
            intro q
            rw [(d1 (by omega)).2, (s1 (by omega)).2]
          · simp [lenK] at q3
            simp [lanC, rngC, u2, cpK, q2]
            intro q
            rw [d3 (by decide) (by decide) (by omega), s3 (by decide) (by decide) (by omega)]
          · simp [lenK] at q3
            simp [lanC, rngC, u2, cpK, q2]
            intro q
            rw [d3 (by decide) (by decide) (by omega), s3 (by decide) (by decide) (by omega)]
          · simp [lenK] at q3
            simp [lanC, rngC, u2, cpK, q2]
            intro q
            rw [d3 (by decide) (by decide) (by omega), s3 (by decide) (by decide) (by omega)]
          · simp [lenK] at q3
            simp [lanC, rngC, u2, cpK, q2]
            intro q
            rw [d3 (by decide) (by decide) (by omega), s3 (by decide) (by decide) (by omega)]
          · simp [lenK] at q3
            simp [lanC, rngC, u2, cpK, q2]
            intro q
            rw [d3 (by decide) (by decide) (by omega), s3 (by decide) (by decide) (by omega)]
          · simp [lenK] at q3
            simp [lanC, rngC, u2, cpK, q2]
            intro q
            rw [d3 (by decide) (by decide) (by omega), s3 (by decide) (by decide) (by omega)]
          · simp [lenK] at q3
            simp [lanC, rngC, u2, cpK, q2]
            intro q
            rw [d4 (by decide) (by decide) (by omega), s4 (by decide) (by decide) (by omega)]
          · simp [lenK] at q3
            simp [lanC, rngC, u2, cpK, q2]
            intro q
            rw [d4 (by decide) (by decide) (by omega), s4 (by decide) (by decide) (by omega)]
          · simp [lenK] at q3
            simp [lanC, rngC, u2, cpK, q2]
            intro q
            rw [d4 (by decide) (by decide) (by omega), s4 (by decide) (by decide) (by omega)]
          · simp [lenK] at q3
            simp [lanC, rngC, u2, cpK, q2]
            intro q
            rw [d4 (by decide) (by decide) (by omega), s4 (by decide) (by decide) (by omega)]
          · simp [lenK] at q3
            simp [lanC, rngC, u2, cpK, q2]
            intro q
            rw [d4 (by decide) (by decide) (by omega), s4 (by decide) (by decide) (by omega)]
          · simp [lenK] at q3
            simp [lanC, rngC, u2, cpK, q2]
            intro q
            rw [d4 (by decide) (by decide) (by omega), s4 (by decide) (by decide) (by omega)]
          · simp [lenK] at q3
            simp [lanC, rngC, u2, cpK, q2]
            intro q
            rw [d4 (by decide) (by decide) (by omega), s4 (by decide) (by decide) (by omega)]
          · simp [lenK] at q3
            have : i = 0 ∨ i = 1 ∨ i = 2 ∨ i = 3 ∨ i = 4 ∨ i = 5 := by omega
            rcases this with rfl | rfl | rfl | rfl | rfl | rfl <;> simp [lanC, rngC, u2, cpK]
        · exact r_vret F dX1_copyFrom_201 rfl (by rw [hT])
      · exfalso; omega
    | succ n ih =>
      intro j S1 h0 h1 hS
      have f20 : S1 20 3 = T 20 3 := by rw [hS]; first | exact e203 | (simp [lanC, rngC]; exact e203)
      refine r_iload_n (i := 2) F dX1_copyFrom_148 rfl rfl ?_
      refine r_aload_n (i := 0) F dX1_copyFrom_149 rfl rfl ?_
      refine gf_X1_58 F dX1_copyFrom_150 hc ?_
      refine r_icmp_ge (tgt := 177) F dX1_copyFrom_153 (by decide) (by first | assumption | exact ir_of (by omega) (by omega)) (by first | assumption | exact ir_of (by omega) (by omega)) (fun h153 => ?_) (fun h153 => ?_)
      · exfalso; omega
      · refine r_aload_n (i := 0) F dX1_copyFrom_156 rfl rfl ?_
        refine gf_X1_38 F dX1_copyFrom_157 hc ?_
        refine r_iload_n (i := 2) F dX1_copyFrom_160 rfl rfl ?_
        refine aa_8 F dX1_copyFrom_161 hc (by omega) (by omega) ?_
        refine r_aload_n (i := 1) F dX1_copyFrom_162 rfl rfl ?_
        refine gf_X1_38 F dX1_copyFrom_163 hc2 ?_
        refine r_iload_n (i := 2) F dX1_copyFrom_166 rfl rfl ?_
        refine aa_8 F dX1_copyFrom_167 hc2 (by omega) (by omega) ?_
        refine r_callV F (C_X0_copyFrom hc hc2 hne (by rw [← hT]; exact hIT) ⟨by omega, by omega⟩) dX1_copyFrom_168 lkv_X1_68 rfl rfl (dm12 hc (by omega) (by omega)) rfl rfl cd_X0_copyFrom (by decide) ⟨Nat.le_refl _, Nat.le_refl _⟩ (Nat.le_of_ble_eq_true rfl) ?_
        refine r_iinc (lv1 := [_, _, _]) F dX1_copyFrom_171 rfl (by decide) rfl rfl ?_
        refine r_goto (tgt := 148) F dX1_copyFrom_174 (by decide) ?_
        exact ih (j + 1) _ (by omega) (by omega) (by rw [hS, ← hT]; exact bcp_S _ _ h0)
  have loop2 : ∀ (n : Nat) (j : Int) (S1 : St), 0 ≤ j → j + (n : Int) = T 20 2 → S1 = rngC 7 12 (lanC S0 T (T 20 1)) T (j) → V p l e (RM 2) s m ([.ref (ad 1 k 0), .ref (ad 1 k2 0)] : List Value).toArray below meth c 3 cy D ad (Aw ad s.heap.size) 0 0 (MQ below (Qn cy D ad s.heap.size none (setc M k (M k2))) ([.ref (ad 1 k 0), .ref (ad 1 k2 0)] : List Value).toArray s 0 0 (Aw ad s.heap.size)) 117 [some (.ref (ad 1 k 0)), some (.ref (ad 1 k2 0)), some (.int (i32 j))] [] (setc M k S1) := by
    intro n
    induction n with
    | zero =>
      intro j S1 h0 h1 hS
      have f20 : S1 20 2 = T 20 2 := by rw [hS]; first | exact e202 | (simp [lanC, rngC]; exact e202)
      refine r_iload_n (i := 2) F dX1_copyFrom_117 rfl rfl ?_
      refine r_aload_n (i := 0) F dX1_copyFrom_118 rfl rfl ?_
      refine gf_X1_55 F dX1_copyFrom_119 hc ?_
      refine r_icmp_ge (tgt := 146) F dX1_copyFrom_122 (by decide) (by first | assumption | exact ir_of (by omega) (by omega)) (by first | assumption | exact ir_of (by omega) (by omega)) (fun h122 => ?_) (fun h122 => ?_)
      · refine r_iconst F dX1_copyFrom_146 ?_
        refine r_istore_n (i := 2) (lv1 := [_, _, _]) F dX1_copyFrom_147 rfl (by decide) rfl rfl ?_
        exact loop3 (T 20 3).toNat 0 S1 (by omega) (by omega) (by rw [rngC_0, hS, show j = T 20 2 by omega])
      · exfalso; omega
    | succ n ih =>
      intro j S1 h0 h1 hS
      have f20 : S1 20 2 = T 20 2 := by rw [hS]; first | exact e202 | (simp [lanC, rngC]; exact e202)
      refine r_iload_n (i := 2) F dX1_copyFrom_117 rfl rfl ?_
      refine r_aload_n (i := 0) F dX1_copyFrom_118 rfl rfl ?_
      refine gf_X1_55 F dX1_copyFrom_119 hc ?_
      refine r_icmp_ge (tgt := 146) F dX1_copyFrom_122 (by decide) (by first | assumption | exact ir_of (by omega) (by omega)) (by first | assumption | exact ir_of (by omega) (by omega)) (fun h122 => ?_) (fun h122 => ?_)
      · exfalso; omega
      · refine r_aload_n (i := 0) F dX1_copyFrom_125 rfl rfl ?_
        refine gf_X1_32 F dX1_copyFrom_126 hc ?_
        refine r_iload_n (i := 2) F dX1_copyFrom_129 rfl rfl ?_
        refine aa_7 F dX1_copyFrom_130 hc (by omega) (by omega) ?_
        refine r_aload_n (i := 1) F dX1_copyFrom_131 rfl rfl ?_
        refine gf_X1_32 F dX1_copyFrom_132 hc2 ?_
        refine r_iload_n (i := 2) F dX1_copyFrom_135 rfl rfl ?_
        refine aa_7 F dX1_copyFrom_136 hc2 (by omega) (by omega) ?_
        refine r_callV F (C_X3_copyFrom hc hc2 hne ⟨by omega, by omega⟩) dX1_copyFrom_137 lkv_X1_65 rfl rfl (dm11 hc (by omega) (by omega)) rfl rfl cd_X3_copyFrom (by decide) ⟨Nat.le_refl _, Nat.le_refl _⟩ (Nat.le_of_ble_eq_true rfl) ?_
        refine r_iinc (lv1 := [_, _, _]) F dX1_copyFrom_140 rfl (by decide) rfl rfl ?_
        refine r_goto (tgt := 117) F dX1_copyFrom_143 (by decide) ?_
        exact ih (j + 1) _ (by omega) (by omega) (by rw [hS, ← hT]; exact wcp_S _ _ h0)
  have loop1 : ∀ (n : Nat) (j : Int) (S1 : St), 0 ≤ j → j + (n : Int) = T 20 1 → S1 = lanC S0 T (j) → V p l e (RM 2) s m ([.ref (ad 1 k 0), .ref (ad 1 k2 0)] : List Value).toArray below meth c 3 cy D ad (Aw ad s.heap.size) 0 0 (MQ below (Qn cy D ad s.heap.size none (setc M k (M k2))) ([.ref (ad 1 k 0), .ref (ad 1 k2 0)] : List Value).toArray s 0 0 (Aw ad s.heap.size)) 86 [some (.ref (ad 1 k 0)), some (.ref (ad 1 k2 0)), some (.int (i32 j))] [] (setc M k S1) := by
    intro n
    induction n with
    | zero =>
      intro j S1 h0 h1 hS
      have f20 : S1 20 1 = T 20 1 := by rw [hS]; first | exact e201 | (simp [lanC, rngC]; exact e201)
      refine r_iload_n (i := 2) F dX1_copyFrom_86 rfl rfl ?_
      refine r_aload_n (i := 0) F dX1_copyFrom_87 rfl rfl ?_
      refine gf_X1_51 F dX1_copyFrom_88 hc ?_
      refine r_icmp_ge (tgt := 115) F dX1_copyFrom_91 (by decide) (by first | assumption | exact ir_of (by omega) (by omega)) (by first | assumption | exact ir_of (by omega) (by omega)) (fun h91 => ?_) (fun h91 => ?_)
      · refine r_iconst F dX1_copyFrom_115 ?_
        refine r_istore_n (i := 2) (lv1 := [_, _, _]) F dX1_copyFrom_116 rfl (by decide) rfl rfl ?_
        exact loop2 (T 20 2).toNat 0 S1 (by omega) (by omega) (by rw [rngC_0, hS, show j = T 20 1 by omega])
      · exfalso; omega
    | succ n ih =>
      intro j S1 h0 h1 hS
      have f20 : S1 20 1 = T 20 1 := by rw [hS]; first | exact e201 | (simp [lanC, rngC]; exact e201)
      refine r_iload_n (i := 2) F dX1_copyFrom_86 rfl rfl ?_
      refine r_aload_n (i := 0) F dX1_copyFrom_87 rfl rfl ?_
      refine gf_X1_51 F dX1_copyFrom_88 hc ?_
      refine r_icmp_ge (tgt := 115) F dX1_copyFrom_91 (by decide) (by first | assumption | exact ir_of (by omega) (by omega)) (by first | assumption | exact ir_of (by omega) (by omega)) (fun h91 => ?_) (fun h91 => ?_)
      · exfalso; omega
      · refine r_aload_n (i := 0) F dX1_copyFrom_94 rfl rfl ?_
        refine gf_X1_26 F dX1_copyFrom_95 hc ?_
        refine r_iload_n (i := 2) F dX1_copyFrom_98 rfl rfl ?_
        refine aa_6 F dX1_copyFrom_99 hc (by omega) (by omega) ?_
        refine r_aload_n (i := 1) F dX1_copyFrom_100 rfl rfl ?_
        refine gf_X1_26 F dX1_copyFrom_101 hc2 ?_
        refine r_iload_n (i := 2) F dX1_copyFrom_104 rfl rfl ?_
        refine aa_6 F dX1_copyFrom_105 hc2 (by omega) (by omega) ?_
        refine r_callV F (C_X2_copyFrom hc hc2 hne ⟨by omega, by omega⟩) dX1_copyFrom_106 lkv_X1_61 rfl rfl (dm9 hc (by omega) (by omega)) rfl rfl cd_X2_copyFrom (by decide) ⟨Nat.le_refl _, Nat.le_refl _⟩ (Nat.le_of_ble_eq_true rfl) ?_
        refine r_iinc (lv1 := [_, _, _]) F dX1_copyFrom_109 rfl (by decide) rfl rfl ?_
        refine r_goto (tgt := 86) F dX1_copyFrom_112 (by decide) ?_
        exact ih (j + 1) _ (by omega) (by omega) (by rw [hS, ← hT]; exact lanC_S _ _ h0)
  refine r_aload_n (i := 0) F dX1_copyFrom_60 rfl rfl ?_
  refine r_aload_n (i := 1) F dX1_copyFrom_61 rfl rfl ?_
  refine gg_X1_51 F dX1_copyFrom_62 hc2 ?_
  rw [hTn]
  refine pf_X1_51 F dX1_copyFrom_65 hc ?_
  refine r_aload_n (i := 0) F dX1_copyFrom_68 rfl rfl ?_
  refine r_aload_n (i := 1) F dX1_copyFrom_69 rfl rfl ?_
  refine gg_X1_55 F dX1_copyFrom_70 hc2 ?_
  rw [hTn]
  refine pf_X1_55 F dX1_copyFrom_73 hc ?_
  refine r_aload_n (i := 0) F dX1_copyFrom_76 rfl rfl ?_
  refine r_aload_n (i := 1) F dX1_copyFrom_77 rfl rfl ?_
  refine gg_X1_58 F dX1_copyFrom_78 hc2 ?_
  rw [hTn]
  refine pf_X1_58 F dX1_copyFrom_81 hc ?_
  refine r_iconst F dX1_copyFrom_84 ?_
  refine r_istore_n (i := 2) (lv1 := [_, _, _]) F dX1_copyFrom_85 rfl (by decide) rfl rfl ?_
  rw [← hS0]
  exact loop1 (T 20 1).toNat 0 S0 (by omega) (by omega) (lanC_0 _ _).symm

set_option maxHeartbeats 4000000 in
set_option maxRecDepth 100000 in
theorem C_X1_hasLanternAt {l : Launch} {cy : Nat → ClassId} {D : va_G} {ad : Nat → Nat → Int → Nat} {M : Mem} {k : Nat} {S : St} {q : Int} (hc : k < 2) (hI : Inv S) (hq : 0 ≤ q ∧ q ≤ 15) : Ct l cy D ad yX1_hasLanternAt cX1_hasLanternAt 3 (some .boolean) 0 [.ref (ad 1 k 0), .int (i32 q)] (setc M k S) (some (.int (i32 (bi (lanQ S q (S 20 1).toNat))))) (setc M k S) := by
  refine Ct.mk (lv := [some _, some _, none]) 1 (by decide) rfl (Nat.le_of_ble_eq_true rfl) (fun p e s m below meth c F => ?_)
  have ic := hI.pc
  have lq : ∀ n : Nat, (∀ i : Int, 0 ≤ i → i < n → S 4 i ≠ q) → lanQ S q n = false := by
    intro n
    induction n with
    | zero => intro _; rfl
    | succ n ih => intro h; unfold lanQ; rw [ih (fun i g1 g2 => h i g1 (by omega))]; simpa using h n (by omega) (by omega)
  have lt : ∀ (n : Nat) (j : Int), 0 ≤ j → j < n → S 4 j = q → lanQ S q n = true := by
    intro n
    induction n with
    | zero => intro j g1 g2; omega
    | succ n ih => intro j g1 g2 g3; unfold lanQ; by_cases e : j = (n : Int)
                   · subst e; simp [g3]
                   · rw [ih j g1 (by omega) g3]; rfl
  have loop : ∀ (n : Nat) (j : Int), 0 ≤ j → j + (n : Int) = S 20 1 → (∀ i : Int, 0 ≤ i → i < j → S 4 i ≠ q) → V p l e (RM 0) s m ([.ref (ad 1 k 0), .int (i32 q)] : List Value).toArray below meth c 3 cy D ad (Aw ad s.heap.size) 0 0 (MQ below (Qn cy D ad s.heap.size (some (.int (i32 (bi (lanQ S q (S 20 1).toNat))))) (setc M k S)) ([.ref (ad 1 k 0), .int (i32 q)] : List Value).toArray s 0 0 (Aw ad s.heap.size)) 2 [some (.ref (ad 1 k 0)), some (.int (i32 q)), some (.int (i32 j))] [] (setc M k S) := by
    intro n
    induction n with
    | zero =>
      intro j h0 h1 hb
      have b4 := hI.p4 j
      refine r_iload_n (i := 2) F dX1_hasLanternAt_2 rfl rfl ?_
      refine r_aload_n (i := 0) F dX1_hasLanternAt_3 rfl rfl ?_
      refine gf_X1_51 F dX1_hasLanternAt_4 hc ?_
      refine r_icmp_ge (tgt := 31) F dX1_hasLanternAt_7 (by decide) (by first | assumption | exact ir_of (by omega) (by omega)) (by first | assumption | exact ir_of (by omega) (by omega)) (fun h7 => ?_) (fun h7 => ?_)
      · refine r_iconst F dX1_hasLanternAt_31 ?_
        exact r_zret F dX1_hasLanternAt_32 rfl (by rw [lq (S 20 1).toNat (fun i g1 g2 => hb i g1 (by omega))] <;> rfl) rfl
      · exfalso; omega
    | succ n ih =>
      intro j h0 h1 hb
      have b4 := hI.p4 j
      refine r_iload_n (i := 2) F dX1_hasLanternAt_2 rfl rfl ?_
      refine r_aload_n (i := 0) F dX1_hasLanternAt_3 rfl rfl ?_
      refine gf_X1_51 F dX1_hasLanternAt_4 hc ?_
      refine r_icmp_ge (tgt := 31) F dX1_hasLanternAt_7 (by decide) (by first | assumption | exact ir_of (by omega) (by omega)) (by first | assumption | exact ir_of (by omega) (by omega)) (fun h7 => ?_) (fun h7 => ?_)
      · exfalso; omega
      · refine r_aload_n (i := 0) F dX1_hasLanternAt_10 rfl rfl ?_
        refine gf_X1_26 F dX1_hasLanternAt_11 hc ?_
        refine r_iload_n (i := 2) F dX1_hasLanternAt_14 rfl rfl ?_
        refine aa_6 F dX1_hasLanternAt_15 hc (by omega) (by omega) ?_
        refine gf_X1_90 F dX1_hasLanternAt_16 hc (by omega) (by omega) ?_
        refine r_iload_n (i := 1) F dX1_hasLanternAt_19 rfl rfl ?_
        refine r_icmp_ne (tgt := 25) F dX1_hasLanternAt_20 (by decide) (by first | assumption | exact ir_of (by omega) (by omega)) (by first | assumption | exact ir_of (by omega) (by omega)) (fun h20 => ?_) (fun h20 => ?_)
        · refine r_iinc (lv1 := [_, _, _]) F dX1_hasLanternAt_25 rfl (by decide) rfl rfl ?_
          refine r_goto (tgt := 2) F dX1_hasLanternAt_28 (by decide) ?_
          exact ih (j + 1) (by omega) (by omega) (fun i g1 g2 => if e : i = j then by subst e; exact h20 else hb i g1 (by omega))
        · refine r_iconst F dX1_hasLanternAt_23 ?_
          exact r_zret F dX1_hasLanternAt_24 rfl (by rw [lt (S 20 1).toNat j h0 (by omega) h20] <;> rfl) rfl
  refine r_iconst F dX1_hasLanternAt_0 ?_
  refine r_istore_n (i := 2) (lv1 := [_, _, _]) F dX1_hasLanternAt_1 rfl (by decide) rfl rfl ?_
  exact loop (S 20 1).toNat 0 (by omega) (by omega) (fun i g1 g2 => by omega)
