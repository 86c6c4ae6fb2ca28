/-! The reference: one state becomes another. -/
set_option maxHeartbeats 4000000 in
set_option maxRecDepth 100000 in
theorem C_X5_copy {l : Launch} {cy : Nat → ClassId} {D : va_G} {ad : Nat → Nat → Int → Nat} {M : Mem} {M1 : Mem} {t c1 t2 c2 n : Nat} {f g : Nat → Int32} (hk : dmb t c1 0 = true) (hk2 : dmb t2 c2 0 = true) (hcel : cel cy ad M t c1 0 = .inl (cy 0, n, .inl f)) (hcel2 : cel cy ad M t2 c2 0 = .inl (cy 0, n, .inl g)) (hn : n < 2147483648) (hcel1 : cel cy ad M1 t2 c2 0 = .inl (cy 0, n, .inl (va_cpy f g 0 0 n))) (hoth : ∀ (c1 k1 : Nat) (i1 : Int), owner c1 k1 i1 ≠ (t2, c2, 0) → M1 c1 k1 i1 = M c1 k1 i1) : Ct l cy D ad yX5_copy cX5_copy 2 none 1 [.ref (ad t c1 0), .ref (ad t2 c2 0)] (M) none (M1) := by
  refine Ct.mk (lv := [some _, some _]) 0 (by decide) rfl (Nat.le_of_ble_eq_true rfl) (fun p e s m below meth c F => ?_)
  refine r_aload_n (i := 0) F dX5_copy_0 rfl rfl ?_
  refine r_iconst F dX5_copy_1 ?_
  refine r_aload_n (i := 1) F dX5_copy_2 rfl rfl ?_
  refine r_iconst F dX5_copy_3 ?_
  refine r_aload_n (i := 1) F dX5_copy_4 rfl rfl ?_
  refine r_alen F dX5_copy_5 hk2 hcel2 (tq := 0) rfl ?_
  refine r_copy F dX5_copy_6 ac_X5_72 ac_n ac_s ac_i hk hk2 hcel hcel2 hn rfl hcel1 hoth (by decide) (Nat.le_of_ble_eq_true rfl) ?_
  exact r_vret F dX5_copy_9 rfl rfl

theorem C_cp_15 {l : Launch} {cy : Nat → ClassId} {D : va_G} {ad : Nat → Nat → Int → Nat} {M : Mem} {k k2 : Nat} {S : St} (hc : 2 ≤ k ∧ k < 4) (hc2 : 2 ≤ k2 ∧ k2 < 4) (hne : k2 ≠ k) : Ct l cy D ad yX5_copy cX5_copy 2 none 1 [.ref (ad 15 k2 0), .ref (ad 15 k 0)] (setc M k S) none (setc M k (cpK S 0 0 (16 : Nat) (M k2 0))) :=
  C_X5_copy (n := 16) (f := fun j => i32 (M k2 0 (j : Int))) (g := fun j => i32 (S 0 (j : Int))) (dm15 hc2) (dm15 hc) (by simp only [cel, setc_ne _ _ hne]) (by simp only [cel, setc_at]) (by decide) (by simp only [cel, setc_at]; rw [cpK_fun]) (cpK_oth (fun i _ _ => by simp [owner, hc, show ¬ k < 2 by omega]))

theorem C_cp_16 {l : Launch} {cy : Nat → ClassId} {D : va_G} {ad : Nat → Nat → Int → Nat} {M : Mem} {k k2 : Nat} {S : St} (hc : 2 ≤ k ∧ k < 4) (hc2 : 2 ≤ k2 ∧ k2 < 4) (hne : k2 ≠ k) : Ct l cy D ad yX5_copy cX5_copy 2 none 1 [.ref (ad 16 k2 0), .ref (ad 16 k 0)] (setc M k S) none (setc M k (cpK S 1 0 (16 : Nat) (M k2 1))) :=
  C_X5_copy (n := 16) (f := fun j => i32 (M k2 1 (j : Int))) (g := fun j => i32 (S 1 (j : Int))) (dm16 hc2) (dm16 hc) (by simp only [cel, setc_ne _ _ hne]) (by simp only [cel, setc_at]) (by decide) (by simp only [cel, setc_at]; rw [cpK_fun]) (cpK_oth (fun i _ _ => by simp [owner, hc, show ¬ k < 2 by omega]))

theorem C_cp_17 {l : Launch} {cy : Nat → ClassId} {D : va_G} {ad : Nat → Nat → Int → Nat} {M : Mem} {k k2 : Nat} {S : St} (hc : 2 ≤ k ∧ k < 4) (hc2 : 2 ≤ k2 ∧ k2 < 4) (hne : k2 ≠ k) : Ct l cy D ad yX5_copy cX5_copy 2 none 1 [.ref (ad 17 k2 0), .ref (ad 17 k 0)] (setc M k S) none (setc M k (cpK S 2 0 (8 : Nat) (M k2 2))) :=
  C_X5_copy (n := 8) (f := fun j => i32 (M k2 2 (j : Int))) (g := fun j => i32 (S 2 (j : Int))) (dm17 hc2) (dm17 hc) (by simp only [cel, setc_ne _ _ hne]) (by simp only [cel, setc_at]) (by decide) (by simp only [cel, setc_at]; rw [cpK_fun]) (cpK_oth (fun i _ _ => by simp [owner, hc, show ¬ k < 2 by omega]))

theorem C_cp_18 {l : Launch} {cy : Nat → ClassId} {D : va_G} {ad : Nat → Nat → Int → Nat} {M : Mem} {k k2 : Nat} {S : St} (hc : 2 ≤ k ∧ k < 4) (hc2 : 2 ≤ k2 ∧ k2 < 4) (hne : k2 ≠ k) : Ct l cy D ad yX5_copy cX5_copy 2 none 1 [.ref (ad 18 k2 0), .ref (ad 18 k 0)] (setc M k S) none (setc M k (cpK S 3 0 (8 : Nat) (M k2 3))) :=
  C_X5_copy (n := 8) (f := fun j => i32 (M k2 3 (j : Int))) (g := fun j => i32 (S 3 (j : Int))) (dm18 hc2) (dm18 hc) (by simp only [cel, setc_ne _ _ hne]) (by simp only [cel, setc_at]) (by decide) (by simp only [cel, setc_at]; rw [cpK_fun]) (cpK_oth (fun i _ _ => by simp [owner, hc, show ¬ k < 2 by omega]))

theorem C_cp_19 {l : Launch} {cy : Nat → ClassId} {D : va_G} {ad : Nat → Nat → Int → Nat} {M : Mem} {k k2 : Nat} {S : St} (hc : 2 ≤ k ∧ k < 4) (hc2 : 2 ≤ k2 ∧ k2 < 4) (hne : k2 ≠ k) : Ct l cy D ad yX5_copy cX5_copy 2 none 1 [.ref (ad 19 k2 0), .ref (ad 19 k 0)] (setc M k S) none (setc M k (cpK S 4 0 (5 : Nat) (M k2 4))) :=
  C_X5_copy (n := 5) (f := fun j => i32 (M k2 4 (j : Int))) (g := fun j => i32 (S 4 (j : Int))) (dm19 hc2) (dm19 hc) (by simp only [cel, setc_ne _ _ hne]) (by simp only [cel, setc_at]) (by decide) (by simp only [cel, setc_at]; rw [cpK_fun]) (cpK_oth (fun i _ _ => by simp [owner, hc, show ¬ k < 2 by omega]))

theorem C_cp_20 {l : Launch} {cy : Nat → ClassId} {D : va_G} {ad : Nat → Nat → Int → Nat} {M : Mem} {k k2 : Nat} {S : St} (hc : 2 ≤ k ∧ k < 4) (hc2 : 2 ≤ k2 ∧ k2 < 4) (hne : k2 ≠ k) : Ct l cy D ad yX5_copy cX5_copy 2 none 1 [.ref (ad 20 k2 0), .ref (ad 20 k 0)] (setc M k S) none (setc M k (cpK S 5 0 (50 : Nat) (M k2 5))) :=
  C_X5_copy (n := 50) (f := fun j => i32 (M k2 5 (j : Int))) (g := fun j => i32 (S 5 (j : Int))) (dm20 hc2) (dm20 hc) (by simp only [cel, setc_ne _ _ hne]) (by simp only [cel, setc_at]) (by decide) (by simp only [cel, setc_at]; rw [cpK_fun]) (cpK_oth (fun i _ _ => by simp [owner, hc, show ¬ k < 2 by omega]))

theorem C_cp_21 {l : Launch} {cy : Nat → ClassId} {D : va_G} {ad : Nat → Nat → Int → Nat} {M : Mem} {k k2 : Nat} {S : St} (hc : 2 ≤ k ∧ k < 4) (hc2 : 2 ≤ k2 ∧ k2 < 4) (hne : k2 ≠ k) : Ct l cy D ad yX5_copy cX5_copy 2 none 1 [.ref (ad 21 k2 0), .ref (ad 21 k 0)] (setc M k S) none (setc M k (cpK S 6 0 (5 : Nat) (M k2 6))) :=
  C_X5_copy (n := 5) (f := fun j => i32 (M k2 6 (j : Int))) (g := fun j => i32 (S 6 (j : Int))) (dm21 hc2) (dm21 hc) (by simp only [cel, setc_ne _ _ hne]) (by simp only [cel, setc_at]) (by decide) (by simp only [cel, setc_at]; rw [cpK_fun]) (cpK_oth (fun i _ _ => by simp [owner, hc, show ¬ k < 2 by omega]))

theorem C_cp_22 {l : Launch} {cy : Nat → ClassId} {D : va_G} {ad : Nat → Nat → Int → Nat} {M : Mem} {k k2 : Nat} {S : St} (hc : 2 ≤ k ∧ k < 4) (hc2 : 2 ≤ k2 ∧ k2 < 4) (hne : k2 ≠ k) : Ct l cy D ad yX5_copy cX5_copy 2 none 1 [.ref (ad 22 k2 0), .ref (ad 22 k 0)] (setc M k S) none (setc M k (cpK S 7 0 (4 : Nat) (M k2 7))) :=
  C_X5_copy (n := 4) (f := fun j => i32 (M k2 7 (j : Int))) (g := fun j => i32 (S 7 (j : Int))) (dm22 hc2) (dm22 hc) (by simp only [cel, setc_ne _ _ hne]) (by simp only [cel, setc_at]) (by decide) (by simp only [cel, setc_at]; rw [cpK_fun]) (cpK_oth (fun i _ _ => by simp [owner, hc, show ¬ k < 2 by omega]))

theorem C_cp_23 {l : Launch} {cy : Nat → ClassId} {D : va_G} {ad : Nat → Nat → Int → Nat} {M : Mem} {k k2 : Nat} {S : St} (hc : 2 ≤ k ∧ k < 4) (hc2 : 2 ≤ k2 ∧ k2 < 4) (hne : k2 ≠ k) : Ct l cy D ad yX5_copy cX5_copy 2 none 1 [.ref (ad 23 k2 0), .ref (ad 23 k 0)] (setc M k S) none (setc M k (cpK S 8 0 (4 : Nat) (M k2 8))) :=
  C_X5_copy (n := 4) (f := fun j => i32 (M k2 8 (j : Int))) (g := fun j => i32 (S 8 (j : Int))) (dm23 hc2) (dm23 hc) (by simp only [cel, setc_ne _ _ hne]) (by simp only [cel, setc_at]) (by decide) (by simp only [cel, setc_at]; rw [cpK_fun]) (cpK_oth (fun i _ _ => by simp [owner, hc, show ¬ k < 2 by omega]))

theorem C_cp_24 {l : Launch} {cy : Nat → ClassId} {D : va_G} {ad : Nat → Nat → Int → Nat} {M : Mem} {k k2 : Nat} {S : St} (hc : 2 ≤ k ∧ k < 4) (hc2 : 2 ≤ k2 ∧ k2 < 4) (hne : k2 ≠ k) : Ct l cy D ad yX5_copy cX5_copy 2 none 1 [.ref (ad 24 k2 0), .ref (ad 24 k 0)] (setc M k S) none (setc M k (cpK S 9 0 (4 : Nat) (M k2 9))) :=
  C_X5_copy (n := 4) (f := fun j => i32 (M k2 9 (j : Int))) (g := fun j => i32 (S 9 (j : Int))) (dm24 hc2) (dm24 hc) (by simp only [cel, setc_ne _ _ hne]) (by simp only [cel, setc_at]) (by decide) (by simp only [cel, setc_at]; rw [cpK_fun]) (cpK_oth (fun i _ _ => by simp [owner, hc, show ¬ k < 2 by omega]))

theorem C_cp_25 {l : Launch} {cy : Nat → ClassId} {D : va_G} {ad : Nat → Nat → Int → Nat} {M : Mem} {k k2 : Nat} {S : St} (hc : 2 ≤ k ∧ k < 4) (hc2 : 2 ≤ k2 ∧ k2 < 4) (hne : k2 ≠ k) : Ct l cy D ad yX5_copy cX5_copy 2 none 1 [.ref (ad 25 k2 0), .ref (ad 25 k 0)] (setc M k S) none (setc M k (cpK S 10 0 (4 : Nat) (M k2 10))) :=
  C_X5_copy (n := 4) (f := fun j => i32 (M k2 10 (j : Int))) (g := fun j => i32 (S 10 (j : Int))) (dm25 hc2) (dm25 hc) (by simp only [cel, setc_ne _ _ hne]) (by simp only [cel, setc_at]) (by decide) (by simp only [cel, setc_at]; rw [cpK_fun]) (cpK_oth (fun i _ _ => by simp [owner, hc, show ¬ k < 2 by omega]))

theorem C_cp_26 {l : Launch} {cy : Nat → ClassId} {D : va_G} {ad : Nat → Nat → Int → Nat} {M : Mem} {k k2 : Nat} {S : St} (hc : 2 ≤ k ∧ k < 4) (hc2 : 2 ≤ k2 ∧ k2 < 4) (hne : k2 ≠ k) : Ct l cy D ad yX5_copy cX5_copy 2 none 1 [.ref (ad 26 k2 0), .ref (ad 26 k 0)] (setc M k S) none (setc M k (cpK S 11 0 (4 : Nat) (M k2 11))) :=
  C_X5_copy (n := 4) (f := fun j => i32 (M k2 11 (j : Int))) (g := fun j => i32 (S 11 (j : Int))) (dm26 hc2) (dm26 hc) (by simp only [cel, setc_ne _ _ hne]) (by simp only [cel, setc_at]) (by decide) (by simp only [cel, setc_at]; rw [cpK_fun]) (cpK_oth (fun i _ _ => by simp [owner, hc, show ¬ k < 2 by omega]))

theorem C_cp_27 {l : Launch} {cy : Nat → ClassId} {D : va_G} {ad : Nat → Nat → Int → Nat} {M : Mem} {k k2 : Nat} {S : St} (hc : 2 ≤ k ∧ k < 4) (hc2 : 2 ≤ k2 ∧ k2 < 4) (hne : k2 ≠ k) : Ct l cy D ad yX5_copy cX5_copy 2 none 1 [.ref (ad 27 k2 0), .ref (ad 27 k 0)] (setc M k S) none (setc M k (cpK S 12 0 (4 : Nat) (M k2 12))) :=
  C_X5_copy (n := 4) (f := fun j => i32 (M k2 12 (j : Int))) (g := fun j => i32 (S 12 (j : Int))) (dm27 hc2) (dm27 hc) (by simp only [cel, setc_ne _ _ hne]) (by simp only [cel, setc_at]) (by decide) (by simp only [cel, setc_at]; rw [cpK_fun]) (cpK_oth (fun i _ _ => by simp [owner, hc, show ¬ k < 2 by omega]))

theorem C_cp_28 {l : Launch} {cy : Nat → ClassId} {D : va_G} {ad : Nat → Nat → Int → Nat} {M : Mem} {k k2 : Nat} {S : St} (hc : 2 ≤ k ∧ k < 4) (hc2 : 2 ≤ k2 ∧ k2 < 4) (hne : k2 ≠ k) : Ct l cy D ad yX5_copy cX5_copy 2 none 1 [.ref (ad 28 k2 0), .ref (ad 28 k 0)] (setc M k S) none (setc M k (cpK S 13 0 (6 : Nat) (M k2 13))) :=
  C_X5_copy (n := 6) (f := fun j => i32 (M k2 13 (j : Int))) (g := fun j => i32 (S 13 (j : Int))) (dm28 hc2) (dm28 hc) (by simp only [cel, setc_ne _ _ hne]) (by simp only [cel, setc_at]) (by decide) (by simp only [cel, setc_at]; rw [cpK_fun]) (cpK_oth (fun i _ _ => by simp [owner, hc, show ¬ k < 2 by omega]))

theorem C_cp_29 {l : Launch} {cy : Nat → ClassId} {D : va_G} {ad : Nat → Nat → Int → Nat} {M : Mem} {k k2 : Nat} {S : St} (hc : 2 ≤ k ∧ k < 4) (hc2 : 2 ≤ k2 ∧ k2 < 4) (hne : k2 ≠ k) : Ct l cy D ad yX5_copy cX5_copy 2 none 1 [.ref (ad 29 k2 0), .ref (ad 29 k 0)] (setc M k S) none (setc M k (cpK S 14 0 (6 : Nat) (M k2 14))) :=
  C_X5_copy (n := 6) (f := fun j => i32 (M k2 14 (j : Int))) (g := fun j => i32 (S 14 (j : Int))) (dm29 hc2) (dm29 hc) (by simp only [cel, setc_ne _ _ hne]) (by simp only [cel, setc_at]) (by decide) (by simp only [cel, setc_at]; rw [cpK_fun]) (cpK_oth (fun i _ _ => by simp [owner, hc, show ¬ k < 2 by omega]))

theorem C_cp_30 {l : Launch} {cy : Nat → ClassId} {D : va_G} {ad : Nat → Nat → Int → Nat} {M : Mem} {k k2 : Nat} {S : St} (hc : 2 ≤ k ∧ k < 4) (hc2 : 2 ≤ k2 ∧ k2 < 4) (hne : k2 ≠ k) : Ct l cy D ad yX5_copy cX5_copy 2 none 1 [.ref (ad 30 k2 0), .ref (ad 30 k 0)] (setc M k S) none (setc M k (cpK S 15 0 (6 : Nat) (M k2 15))) :=
  C_X5_copy (n := 6) (f := fun j => i32 (M k2 15 (j : Int))) (g := fun j => i32 (S 15 (j : Int))) (dm30 hc2) (dm30 hc) (by simp only [cel, setc_ne _ _ hne]) (by simp only [cel, setc_at]) (by decide) (by simp only [cel, setc_at]; rw [cpK_fun]) (cpK_oth (fun i _ _ => by simp [owner, hc, show ¬ k < 2 by omega]))

theorem C_cp_31 {l : Launch} {cy : Nat → ClassId} {D : va_G} {ad : Nat → Nat → Int → Nat} {M : Mem} {k k2 : Nat} {S : St} (hc : 2 ≤ k ∧ k < 4) (hc2 : 2 ≤ k2 ∧ k2 < 4) (hne : k2 ≠ k) : Ct l cy D ad yX5_copy cX5_copy 2 none 1 [.ref (ad 31 k2 0), .ref (ad 31 k 0)] (setc M k S) none (setc M k (cpK S 16 0 (6 : Nat) (M k2 16))) :=
  C_X5_copy (n := 6) (f := fun j => i32 (M k2 16 (j : Int))) (g := fun j => i32 (S 16 (j : Int))) (dm31 hc2) (dm31 hc) (by simp only [cel, setc_ne _ _ hne]) (by simp only [cel, setc_at]) (by decide) (by simp only [cel, setc_at]; rw [cpK_fun]) (cpK_oth (fun i _ _ => by simp [owner, hc, show ¬ k < 2 by omega]))

theorem C_cp_32 {l : Launch} {cy : Nat → ClassId} {D : va_G} {ad : Nat → Nat → Int → Nat} {M : Mem} {k k2 : Nat} {S : St} (hc : 2 ≤ k ∧ k < 4) (hc2 : 2 ≤ k2 ∧ k2 < 4) (hne : k2 ≠ k) : Ct l cy D ad yX5_copy cX5_copy 2 none 1 [.ref (ad 32 k2 0), .ref (ad 32 k 0)] (setc M k S) none (setc M k (cpK S 17 0 (6 : Nat) (M k2 17))) :=
  C_X5_copy (n := 6) (f := fun j => i32 (M k2 17 (j : Int))) (g := fun j => i32 (S 17 (j : Int))) (dm32 hc2) (dm32 hc) (by simp only [cel, setc_ne _ _ hne]) (by simp only [cel, setc_at]) (by decide) (by simp only [cel, setc_at]; rw [cpK_fun]) (cpK_oth (fun i _ _ => by simp [owner, hc, show ¬ k < 2 by omega]))

theorem C_cp_33 {l : Launch} {cy : Nat → ClassId} {D : va_G} {ad : Nat → Nat → Int → Nat} {M : Mem} {k k2 : Nat} {S : St} (hc : 2 ≤ k ∧ k < 4) (hc2 : 2 ≤ k2 ∧ k2 < 4) (hne : k2 ≠ k) : Ct l cy D ad yX5_copy cX5_copy 2 none 1 [.ref (ad 33 k2 0), .ref (ad 33 k 0)] (setc M k S) none (setc M k (cpK S 18 0 (6 : Nat) (M k2 18))) :=
  C_X5_copy (n := 6) (f := fun j => i32 (M k2 18 (j : Int))) (g := fun j => i32 (S 18 (j : Int))) (dm33 hc2) (dm33 hc) (by simp only [cel, setc_ne _ _ hne]) (by simp only [cel, setc_at]) (by decide) (by simp only [cel, setc_at]; rw [cpK_fun]) (cpK_oth (fun i _ _ => by simp [owner, hc, show ¬ k < 2 by omega]))

theorem C_cp_34 {l : Launch} {cy : Nat → ClassId} {D : va_G} {ad : Nat → Nat → Int → Nat} {M : Mem} {k k2 : Nat} {S : St} (hc : 2 ≤ k ∧ k < 4) (hc2 : 2 ≤ k2 ∧ k2 < 4) (hne : k2 ≠ k) : Ct l cy D ad yX5_copy cX5_copy 2 none 1 [.ref (ad 34 k2 0), .ref (ad 34 k 0)] (setc M k S) none (setc M k (cpK S 19 0 (6 : Nat) (M k2 19))) :=
  C_X5_copy (n := 6) (f := fun j => i32 (M k2 19 (j : Int))) (g := fun j => i32 (S 19 (j : Int))) (dm34 hc2) (dm34 hc) (by simp only [cel, setc_ne _ _ hne]) (by simp only [cel, setc_at]) (by decide) (by simp only [cel, setc_at]; rw [cpK_fun]) (cpK_oth (fun i _ _ => by simp [owner, hc, show ¬ k < 2 by omega]))

theorem agree_k {M : Mem} {k : Nat} {S S1 : St} (h4 : k < 4) (h : ∀ (kd : Nat) (i : Int), rep kd i → S1 kd i = S kd i) : agree (setc M k S) (setc M k S1) := by
  refine ⟨fun c1 k1 i1 h1 h2 => ?_, by rw [setc_ne _ _ (by omega), setc_ne _ _ (by omega)]⟩
  by_cases e : c1 = k
  · subst e; rw [setc_at, setc_at]; exact h _ _ h2
  · rw [setc_ne _ _ e, setc_ne _ _ e]

set_option maxHeartbeats 4000000 in
set_option maxRecDepth 100000 in
theorem C_X5_become {l : Launch} {cy : Nat → ClassId} {D : va_G} {ad : Nat → Nat → Int → Nat} {M : Mem} {k : Nat} {S : St} {k2 : Nat} (hc : 2 ≤ k ∧ k < 4) (hc2 : 2 ≤ k2 ∧ k2 < 4) (hne : k2 ≠ k) : Ct l cy D ad yX5_become cX5_become 2 none 2 [.ref (ad 14 k 0), .ref (ad 14 k2 0)] (setc M k S) none (setc M k (M k2)) := by
  refine Ct.mk (lv := [some _, some _]) 0 (by decide) rfl (Nat.le_of_ble_eq_true rfl) (fun p e s m below meth c F => ?_)
  refine r_aload_n (i := 0) F dX5_become_0 rfl rfl ?_
  refine r_aload_n (i := 1) F dX5_become_1 rfl rfl ?_
  refine gg_X5_78 F dX5_become_2 hc2 ?_
  rw [setc_ne _ _ hne]
  refine pf_X5_78 F dX5_become_5 hc ?_
  refine r_aload_n (i := 0) F dX5_become_8 rfl rfl ?_
  refine r_aload_n (i := 1) F dX5_become_9 rfl rfl ?_
  refine gg_X5_82 F dX5_become_10 hc2 ?_
  rw [setc_ne _ _ hne]
  refine pf_X5_82 F dX5_become_13 hc ?_
  refine r_aload_n (i := 0) F dX5_become_16 rfl rfl ?_
  refine r_aload_n (i := 1) F dX5_become_17 rfl rfl ?_
  refine gg_X5_85 F dX5_become_18 hc2 ?_
  rw [setc_ne _ _ hne]
  refine pf_X5_85 F dX5_become_21 hc ?_
  refine r_aload_n (i := 0) F dX5_become_24 rfl rfl ?_
  refine r_aload_n (i := 1) F dX5_become_25 rfl rfl ?_
  refine gg_X5_88 F dX5_become_26 hc2 ?_
  rw [setc_ne _ _ hne]
  refine pf_X5_88 F dX5_become_29 hc ?_
  refine r_aload_n (i := 0) F dX5_become_32 rfl rfl ?_
  refine r_aload_n (i := 1) F dX5_become_33 rfl rfl ?_
  refine gg_X5_91 F dX5_become_34 hc2 ?_
  rw [setc_ne _ _ hne]
  refine pf_X5_91 F dX5_become_37 hc ?_
  refine r_aload_n (i := 0) F dX5_become_40 rfl rfl ?_
  refine r_aload_n (i := 1) F dX5_become_41 rfl rfl ?_
  refine gg_X5_94 F dX5_become_42 hc2 ?_
  rw [setc_ne _ _ hne]
  refine pf_X5_94 F dX5_become_45 hc ?_
  refine r_aload_n (i := 1) F dX5_become_48 rfl rfl ?_
  refine gf_X5_9 F dX5_become_49 hc2 ?_
  refine r_aload_n (i := 0) F dX5_become_52 rfl rfl ?_
  refine gf_X5_9 F dX5_become_53 hc ?_
  refine r_callS F (C_cp_15 hc hc2 hne) dX5_become_56 lks_X5_97 rfl rfl cd_X5_copy (by decide) ⟨Nat.le_refl _, Nat.le_refl _⟩ (Nat.le_of_ble_eq_true rfl) ?_
  refine r_aload_n (i := 1) F dX5_become_59 rfl rfl ?_
  refine gf_X5_15 F dX5_become_60 hc2 ?_
  refine r_aload_n (i := 0) F dX5_become_63 rfl rfl ?_
  refine gf_X5_15 F dX5_become_64 hc ?_
  refine r_callS F (C_cp_16 hc hc2 hne) dX5_become_67 lks_X5_97 rfl rfl cd_X5_copy (by decide) ⟨Nat.le_refl _, Nat.le_refl _⟩ (Nat.le_of_ble_eq_true rfl) ?_
  refine r_aload_n (i := 1) F dX5_become_70 rfl rfl ?_
  refine gf_X5_18 F dX5_become_71 hc2 ?_
  refine r_aload_n (i := 0) F dX5_become_74 rfl rfl ?_
  refine gf_X5_18 F dX5_become_75 hc ?_
  refine r_callS F (C_cp_17 hc hc2 hne) dX5_become_78 lks_X5_97 rfl rfl cd_X5_copy (by decide) ⟨Nat.le_refl _, Nat.le_refl _⟩ (Nat.le_of_ble_eq_true rfl) ?_
  refine r_aload_n (i := 1) F dX5_become_81 rfl rfl ?_
  refine gf_X5_21 F dX5_become_82 hc2 ?_
  refine r_aload_n (i := 0) F dX5_become_85 rfl rfl ?_
  refine gf_X5_21 F dX5_become_86 hc ?_
  refine r_callS F (C_cp_18 hc hc2 hne) dX5_become_89 lks_X5_97 rfl rfl cd_X5_copy (by decide) ⟨Nat.le_refl _, Nat.le_refl _⟩ (Nat.le_of_ble_eq_true rfl) ?_
  refine r_aload_n (i := 1) F dX5_become_92 rfl rfl ?_
  refine gf_X5_24 F dX5_become_93 hc2 ?_
  refine r_aload_n (i := 0) F dX5_become_96 rfl rfl ?_
  refine gf_X5_24 F dX5_become_97 hc ?_
  refine r_callS F (C_cp_19 hc hc2 hne) dX5_become_100 lks_X5_97 rfl rfl cd_X5_copy (by decide) ⟨Nat.le_refl _, Nat.le_refl _⟩ (Nat.le_of_ble_eq_true rfl) ?_
  refine r_aload_n (i := 1) F dX5_become_103 rfl rfl ?_
  refine gf_X5_27 F dX5_become_104 hc2 ?_
  refine r_aload_n (i := 0) F dX5_become_107 rfl rfl ?_
  refine gf_X5_27 F dX5_become_108 hc ?_
  refine r_callS F (C_cp_20 hc hc2 hne) dX5_become_111 lks_X5_97 rfl rfl cd_X5_copy (by decide) ⟨Nat.le_refl _, Nat.le_refl _⟩ (Nat.le_of_ble_eq_true rfl) ?_
  refine r_aload_n (i := 1) F dX5_become_114 rfl rfl ?_
  refine gf_X5_30 F dX5_become_115 hc2 ?_
  refine r_aload_n (i := 0) F dX5_become_118 rfl rfl ?_
  refine gf_X5_30 F dX5_become_119 hc ?_
  refine r_callS F (C_cp_21 hc hc2 hne) dX5_become_122 lks_X5_97 rfl rfl cd_X5_copy (by decide) ⟨Nat.le_refl _, Nat.le_refl _⟩ (Nat.le_of_ble_eq_true rfl) ?_
  refine r_aload_n (i := 1) F dX5_become_125 rfl rfl ?_
  refine gf_X5_33 F dX5_become_126 hc2 ?_
  refine r_aload_n (i := 0) F dX5_become_129 rfl rfl ?_
  refine gf_X5_33 F dX5_become_130 hc ?_
  refine r_callS F (C_cp_22 hc hc2 hne) dX5_become_133 lks_X5_97 rfl rfl cd_X5_copy (by decide) ⟨Nat.le_refl _, Nat.le_refl _⟩ (Nat.le_of_ble_eq_true rfl) ?_
  refine r_aload_n (i := 1) F dX5_become_136 rfl rfl ?_
  refine gf_X5_36 F dX5_become_137 hc2 ?_
  refine r_aload_n (i := 0) F dX5_become_140 rfl rfl ?_
  refine gf_X5_36 F dX5_become_141 hc ?_
  refine r_callS F (C_cp_23 hc hc2 hne) dX5_become_144 lks_X5_97 rfl rfl cd_X5_copy (by decide) ⟨Nat.le_refl _, Nat.le_refl _⟩ (Nat.le_of_ble_eq_true rfl) ?_
  refine r_aload_n (i := 1) F dX5_become_147 rfl rfl ?_
  refine gf_X5_39 F dX5_become_148 hc2 ?_
  refine r_aload_n (i := 0) F dX5_become_151 rfl rfl ?_
  refine gf_X5_39 F dX5_become_152 hc ?_
  refine r_callS F (C_cp_24 hc hc2 hne) dX5_become_155 lks_X5_97 rfl rfl cd_X5_copy (by decide) ⟨Nat.le_refl _, Nat.le_refl _⟩ (Nat.le_of_ble_eq_true rfl) ?_
  refine r_aload_n (i := 1) F dX5_become_158 rfl rfl ?_
  refine gf_X5_42 F dX5_become_159 hc2 ?_
  refine r_aload_n (i := 0) F dX5_become_162 rfl rfl ?_
  refine gf_X5_42 F dX5_become_163 hc ?_
  refine r_callS F (C_cp_25 hc hc2 hne) dX5_become_166 lks_X5_97 rfl rfl cd_X5_copy (by decide) ⟨Nat.le_refl _, Nat.le_refl _⟩ (Nat.le_of_ble_eq_true rfl) ?_
  refine r_aload_n (i := 1) F dX5_become_169 rfl rfl ?_
  refine gf_X5_45 F dX5_become_170 hc2 ?_
  refine r_aload_n (i := 0) F dX5_become_173 rfl rfl ?_
  refine gf_X5_45 F dX5_become_174 hc ?_
  refine r_callS F (C_cp_26 hc hc2 hne) dX5_become_177 lks_X5_97 rfl rfl cd_X5_copy (by decide) ⟨Nat.le_refl _, Nat.le_refl _⟩ (Nat.le_of_ble_eq_true rfl) ?_
  refine r_aload_n (i := 1) F dX5_become_180 rfl rfl ?_
  refine gf_X5_48 F dX5_become_181 hc2 ?_
  refine r_aload_n (i := 0) F dX5_become_184 rfl rfl ?_
  refine gf_X5_48 F dX5_become_185 hc ?_
  refine r_callS F (C_cp_27 hc hc2 hne) dX5_become_188 lks_X5_97 rfl rfl cd_X5_copy (by decide) ⟨Nat.le_refl _, Nat.le_refl _⟩ (Nat.le_of_ble_eq_true rfl) ?_
  refine r_aload_n (i := 1) F dX5_become_191 rfl rfl ?_
  refine gf_X5_51 F dX5_become_192 hc2 ?_
  refine r_aload_n (i := 0) F dX5_become_195 rfl rfl ?_
  refine gf_X5_51 F dX5_become_196 hc ?_
  refine r_callS F (C_cp_28 hc hc2 hne) dX5_become_199 lks_X5_97 rfl rfl cd_X5_copy (by decide) ⟨Nat.le_refl _, Nat.le_refl _⟩ (Nat.le_of_ble_eq_true rfl) ?_
  refine r_aload_n (i := 1) F dX5_become_202 rfl rfl ?_
  refine gf_X5_54 F dX5_become_203 hc2 ?_
  refine r_aload_n (i := 0) F dX5_become_206 rfl rfl ?_
  refine gf_X5_54 F dX5_become_207 hc ?_
  refine r_callS F (C_cp_29 hc hc2 hne) dX5_become_210 lks_X5_97 rfl rfl cd_X5_copy (by decide) ⟨Nat.le_refl _, Nat.le_refl _⟩ (Nat.le_of_ble_eq_true rfl) ?_
  refine r_aload_n (i := 1) F dX5_become_213 rfl rfl ?_
  refine gf_X5_57 F dX5_become_214 hc2 ?_
  refine r_aload_n (i := 0) F dX5_become_217 rfl rfl ?_
  refine gf_X5_57 F dX5_become_218 hc ?_
  refine r_callS F (C_cp_30 hc hc2 hne) dX5_become_221 lks_X5_97 rfl rfl cd_X5_copy (by decide) ⟨Nat.le_refl _, Nat.le_refl _⟩ (Nat.le_of_ble_eq_true rfl) ?_
  refine r_aload_n (i := 1) F dX5_become_224 rfl rfl ?_
  refine gf_X5_60 F dX5_become_225 hc2 ?_
  refine r_aload_n (i := 0) F dX5_become_228 rfl rfl ?_
  refine gf_X5_60 F dX5_become_229 hc ?_
  refine r_callS F (C_cp_31 hc hc2 hne) dX5_become_232 lks_X5_97 rfl rfl cd_X5_copy (by decide) ⟨Nat.le_refl _, Nat.le_refl _⟩ (Nat.le_of_ble_eq_true rfl) ?_
  refine r_aload_n (i := 1) F dX5_become_235 rfl rfl ?_
  refine gf_X5_63 F dX5_become_236 hc2 ?_
  refine r_aload_n (i := 0) F dX5_become_239 rfl rfl ?_
  refine gf_X5_63 F dX5_become_240 hc ?_
  refine r_callS F (C_cp_32 hc hc2 hne) dX5_become_243 lks_X5_97 rfl rfl cd_X5_copy (by decide) ⟨Nat.le_refl _, Nat.le_refl _⟩ (Nat.le_of_ble_eq_true rfl) ?_
  refine r_aload_n (i := 1) F dX5_become_246 rfl rfl ?_
  refine gf_X5_66 F dX5_become_247 hc2 ?_
  refine r_aload_n (i := 0) F dX5_become_250 rfl rfl ?_
  refine gf_X5_66 F dX5_become_251 hc ?_
  refine r_callS F (C_cp_33 hc hc2 hne) dX5_become_254 lks_X5_97 rfl rfl cd_X5_copy (by decide) ⟨Nat.le_refl _, Nat.le_refl _⟩ (Nat.le_of_ble_eq_true rfl) ?_
  refine r_aload_n (i := 1) F dX5_become_257 rfl rfl ?_
  refine gf_X5_69 F dX5_become_258 hc2 ?_
  refine r_aload_n (i := 0) F dX5_become_261 rfl rfl ?_
  refine gf_X5_69 F dX5_become_262 hc ?_
  refine r_callS F (C_cp_34 hc hc2 hne) dX5_become_265 lks_X5_97 rfl rfl cd_X5_copy (by decide) ⟨Nat.le_refl _, Nat.le_refl _⟩ (Nat.le_of_ble_eq_true rfl) ?_
  refine V.agree (agree_k (S1 := M k2) (by omega) ?_) ?_
  · intro kd i ⟨h1, h2, h3⟩
    have : kd = 0 ∨ kd = 1 ∨ kd = 2 ∨ kd = 3 ∨ kd = 4 ∨ kd = 5 ∨ kd = 6 ∨ kd = 7 ∨ kd = 8 ∨ kd = 9 ∨ kd = 10 ∨ kd = 11 ∨ kd = 12 ∨ kd = 13 ∨ kd = 14 ∨ kd = 15 ∨ kd = 16 ∨ kd = 17 ∨ kd = 18 ∨ kd = 19 ∨ kd = 20 := by omega
    rcases this with rfl | rfl | rfl | rfl | rfl | rfl | rfl | rfl | rfl | rfl | rfl | rfl | rfl | rfl | rfl | rfl | rfl | rfl | rfl | rfl | rfl
    · simp only [lenK] at h3; simp at h3; simp [cpK, h2, h3]
    · simp only [lenK] at h3; simp at h3; simp [cpK, h2, h3]
    · simp only [lenK] at h3; simp at h3; simp [cpK, h2, h3]
    · simp only [lenK] at h3; simp at h3; simp [cpK, h2, h3]
    · simp only [lenK] at h3; simp at h3; simp [cpK, h2, h3]
    · simp only [lenK] at h3; simp at h3; simp [cpK, h2, h3]
    · simp only [lenK] at h3; simp at h3; simp [cpK, h2, h3]
    · simp only [lenK] at h3; simp at h3; simp [cpK, h2, h3]
    · simp only [lenK] at h3; simp at h3; simp [cpK, h2, h3]
    · simp only [lenK] at h3; simp at h3; simp [cpK, h2, h3]
    · simp only [lenK] at h3; simp at h3; simp [cpK, h2, h3]
    · simp only [lenK] at h3; simp at h3; simp [cpK, h2, h3]
    · simp only [lenK] at h3; simp at h3; simp [cpK, h2, h3]
    · simp only [lenK] at h3; simp at h3; simp [cpK, h2, h3]
    · simp only [lenK] at h3; simp at h3; simp [cpK, h2, h3]
    · simp only [lenK] at h3; simp at h3; simp [cpK, h2, h3]
    · simp only [lenK] at h3; simp at h3; simp [cpK, h2, h3]
    · simp only [lenK] at h3; simp at h3; simp [cpK, h2, h3]
    · simp only [lenK] at h3; simp at h3; simp [cpK, h2, h3]
    · simp only [lenK] at h3; simp at h3; simp [cpK, h2, h3]
    · simp only [lenK] at h3; simp at h3
      have : i = 0 ∨ i = 1 ∨ i = 2 ∨ i = 3 ∨ i = 4 ∨ i = 5 := by omega
      rcases this with rfl | rfl | rfl | rfl | rfl | rfl <;> simp [cpK, u2]
  · exact r_vret F dX5_become_268 rfl rfl
