/-- the rows a ≤ o < b as r0 has them -/
def rB (r : Nat → Nat → Option Nat) (a b : Nat) : Nat → Nat → Option Nat := fun o => if a ≤ o ∧ o < b then r0 o else r o
theorem rB_in (r : Nat → Nat → Option Nat) {a b o : Nat} (h : a ≤ o ∧ o < b) : rB r a b o = r0 o := if_pos h
theorem rB_out (r : Nat → Nat → Option Nat) {a b o : Nat} (h : ¬ (a ≤ o ∧ o < b)) : rB r a b o = r o := if_neg h
theorem row_up (f : Nat → Option Nat) {i x : Nat} {g : Nat → Option Nat} (h : ∀ k, g k = if k = i then some x else f k) : va_up f i (some x) = g := by
  funext k
  rw [h k]
  rfl
theorem r0_none {o : Nat} (ho : o < 86) (h1 : (k0 o).1 ≠ 5) (h2 : (k0 o).1 ≠ 8) (h3 : (k0 o).1 ≠ 6) (h4 : o ≠ 0 ∧ o ≠ 2 ∧ o ≠ 39 ∧ o ≠ 58 ∧ o ≠ 61) : r0 o = fun _ => none := by
  funext k
  unfold r0
  rw [if_neg h4.1, if_neg h4.2.1, if_neg h4.2.2.1, if_neg h4.2.2.2.1, if_neg h4.2.2.2.2, if_neg h1, if_neg (by omega)]
theorem r0_P {j : Nat} (hj : j < 4) (k : Nat) : r0 (3 + 9 * j) k = if k = 6 then some (11 + 9 * j) else if k = 5 then some (9 + 9 * j) else if k = 4 then some (8 + 9 * j) else if k = 3 then some (7 + 9 * j) else if k = 2 then some (6 + 9 * j) else if k = 1 then some (5 + 9 * j) else if k = 0 then some (4 + 9 * j) else none := by
  rcases k with _ | _ | _ | _ | _ | _ | _ | k
  · exact rP0 hj
  · exact rP1 hj
  · exact rP2 hj
  · exact rP3 hj
  · exact rP4 hj
  · exact rP5 hj
  · exact rP6 hj
  · simp only [show ¬ (k + 7 = 6) by omega, show ¬ (k + 7 = 5) by omega, show ¬ (k + 7 = 4) by omega, show ¬ (k + 7 = 3) by omega, show ¬ (k + 7 = 2) by omega, show ¬ (k + 7 = 1) by omega, show ¬ (k + 7 = 0) by omega, if_false]
    unfold r0
    rw [if_neg (by omega), if_neg (by omega), if_neg (by omega), if_neg (by omega), if_neg (by omega), if_pos (kP hj)]
    rfl
theorem r0_V {o : Nat} (h8 : (k0 o).1 = 8 ∨ (k0 o).1 = 6) (h4 : o ≠ 0 ∧ o ≠ 2 ∧ o ≠ 39 ∧ o ≠ 58 ∧ o ≠ 61) (k : Nat) : r0 o k = if k = 0 then some (o + 1) else none := by
  unfold r0
  rw [if_neg h4.1, if_neg h4.2.1, if_neg h4.2.2.1, if_neg h4.2.2.2.1, if_neg h4.2.2.2.2, if_neg (by omega), if_pos h8]
/-- what Partition's constructor sets -/
def rPi (r : Nat → Nat → Option Nat) (j : Nat) : Nat → Nat → Option Nat := upR (upR (upR (upR (upR (upR (upR (upR r (3 + 9 * j) 0 (some (4 + 9 * j))) (3 + 9 * j) 1 (some (5 + 9 * j))) (3 + 9 * j) 2 (some (6 + 9 * j))) (3 + 9 * j) 3 (some (7 + 9 * j))) (3 + 9 * j) 4 (some (8 + 9 * j))) (9 + 9 * j) 0 (some (10 + 9 * j))) (3 + 9 * j) 5 (some (9 + 9 * j))) (3 + 9 * j) 6 (some (11 + 9 * j))
theorem rPi_eq {r : Nat → Nat → Option Nat} {j : Nat} (hj : j < 4) (hr : ∀ o, 3 + 9 * j ≤ o → r o = fun _ => none) : rPi r j = rB r (3 + 9 * j) (12 + 9 * j) := by
  funext o
  by_cases h3 : o = 3 + 9 * j
  · subst h3
    rw [rB_in _ (by omega)]
    unfold rPi
    funext k
    rw [r0_P hj k]
    simp only [upR_s, upR_o _ _ (show 3 + 9 * j ≠ 9 + 9 * j by omega), hr _ (Nat.le_refl _), va_up]
  by_cases h9 : o = 9 + 9 * j
  · subst h9
    rw [rB_in _ (by omega)]
    unfold rPi
    funext k
    rw [r0_V (by rw [kV9 hj]; omega) (by omega) k]
    simp only [upR_s, upR_o _ _ (show 9 + 9 * j ≠ 3 + 9 * j by omega), hr _ (show 3 + 9 * j ≤ 9 + 9 * j by omega), va_up, show 9 + 9 * j + 1 = 10 + 9 * j by omega]
  have e : rPi r j o = r o := by
    unfold rPi
    simp only [upR_o _ _ h3, upR_o _ _ h9]
  rw [e]
  by_cases hin : 3 + 9 * j ≤ o ∧ o < 12 + 9 * j
  · rw [rB_in _ hin, hr o hin.1]
    have hh : o = 4 + 9 * j ∨ o = 5 + 9 * j ∨ o = 6 + 9 * j ∨ o = 7 + 9 * j ∨ o = 8 + 9 * j ∨ o = 10 + 9 * j ∨ o = 11 + 9 * j := by omega
    have hk : (k0 o).1 = 0 := by
      rcases hh with rfl | rfl | rfl | rfl | rfl | rfl | rfl
      · rw [kA4 hj]
      · rw [kA5 hj]
      · rw [kA6 hj]
      · rw [kA7 hj]
      · rw [kA8 hj]
      · rw [kA10 hj]
      · rw [kA11 hj]
    exact (r0_none (by omega) (by omega) (by omega) (by omega) (by omega)).symm
  · rw [rB_out _ hin]
theorem rQi_eq {r : Nat → Nat → Option Nat} {i : Nat} (hi : i < 6) (hr : ∀ o, 40 + 3 * i ≤ o → r o = fun _ => none) : upR (upR r (41 + 3 * i) 0 (some (42 + 3 * i))) (40 + 3 * i) 0 (some (41 + 3 * i)) = rB r (40 + 3 * i) (43 + 3 * i) := by
  funext o
  by_cases h3 : o = 40 + 3 * i
  · subst h3
    rw [rB_in _ (by omega)]
    funext k
    rw [r0_V (by rw [kQ hi]; omega) (by omega) k]
    simp only [upR_s, upR_o _ _ (show 40 + 3 * i ≠ 41 + 3 * i by omega), hr _ (Nat.le_refl _), va_up, show 40 + 3 * i + 1 = 41 + 3 * i by omega]
  by_cases h9 : o = 41 + 3 * i
  · subst h9
    rw [rB_in _ (by omega)]
    funext k
    rw [r0_V (by rw [kV41 hi]; omega) (by omega) k]
    simp only [upR_s, upR_o _ _ (show 41 + 3 * i ≠ 40 + 3 * i by omega), hr _ (show 40 + 3 * i ≤ 41 + 3 * i by omega), va_up, show 41 + 3 * i + 1 = 42 + 3 * i by omega]
  rw [upR_o _ _ h3, upR_o _ _ h9]
  by_cases hin : 40 + 3 * i ≤ o ∧ o < 43 + 3 * i
  · rw [rB_in _ hin, hr o hin.1]
    have hh : o = 42 + 3 * i := by omega
    have hk : (k0 o).1 = 0 := by
      rw [hh, kA42 hi]
    exact (r0_none (by omega) (by omega) (by omega) (by omega) (by omega)).symm
  · rw [rB_out _ hin]
theorem rFi_eq {r : Nat → Nat → Option Nat} (hr : ∀ o, 58 ≤ o → r o = fun _ => none) : upR (upR r 58 0 (some 59)) 58 1 (some 60) = rB r 58 61 := by
  funext o
  by_cases h3 : o = 58
  · subst h3
    rw [rB_in _ (by omega)]
    funext k
    rw [upR_s, upR_s, hr _ (Nat.le_refl _)]
    rcases k with _ | _ | k
    · rfl
    · rfl
    · show (if k + 2 = 1 then some 60 else if k + 2 = 0 then some 59 else none) = _
      rw [if_neg (by omega), if_neg (by omega)]
      rfl
  rw [upR_o _ _ h3, upR_o _ _ h3]
  by_cases hin : 58 ≤ o ∧ o < 61
  · rw [rB_in _ hin, hr o hin.1]
    have hh : o = 59 ∨ o = 60 := by omega
    have hk : (k0 o).1 = 0 := by
      rcases hh with rfl | rfl <;> rfl
    exact (r0_none (by omega) (by omega) (by omega) (by omega) (by omega)).symm
  · rw [rB_out _ hin]
set_option maxRecDepth 100000 in
set_option maxHeartbeats 4000000 in
theorem c_P_init {j : Nat} {r : Nat → Nat → Option Nat} (hj : j < 4) (hr : ∀ o, 3 + 9 * j ≤ o → r o = fun _ => none) : Cn u_P_init 2 8 83 (4 + 9 * j, k0, r, hZ) [.inr (some (3 + 9 * j))] (fun v w' => v = none ∧ w' = (12 + 9 * j, k0, rB r (3 + 9 * j) (12 + 9 * j), hZ)) := by
  refine Cn.of (by decide +kernel) (Nat.le_of_ble_eq_true rfl) (fun E ad a qf => ?_)
  have qa := qf.2.2.2
  have hC := qf.2.1
  have hSl := qf.2.2.1
  have hA0 : AG (4 + 9 * j) ad ad := AG.rf
  refine x_aload_n a 0 d_P_init_0 rfl ?_
  refine x_objInit a 1 d_P_init_1 o_P o_inst o_code (by decide) (Nat.le_of_ble_eq_true rfl) ?_
  refine x_aload_n a 4 d_P_init_4 rfl ?_
  refine x_bipush a 5 (nI 16) d_P_init_5 (by decide) ?_
  refine y_newi (n := 4 + 9 * j) a 7 16 hA0 (by omega) (kA4 hj) (by exact hr _ (by omega)) rfl d_P_init_7 rfl (by omega) (by omega) (by refine ⟨?_, ?_⟩ <;> repeat' first | exact okLn | exact okSn | exact okVi | exact okVo (by omega) | refine okLc ?_ ?_ | refine okSc ?_ ?_) (by omega) (by omega) (fun ad1 hA1 => ?_)
  rw [show 4 + 9 * j + 1 = 5 + 9 * j by omega]
  refine x_putFR a 9 f_P_9 d_P_init_9 (kP hj) (by omega) (by decide) (by omega) rfl rfl rfl (fun _ => rfl) (fun _ => rfl) ?_
  refine x_aload_n a 12 d_P_init_12 rfl ?_
  refine x_bipush a 13 (nI 16) d_P_init_13 (by decide) ?_
  refine y_newi (n := 5 + 9 * j) a 15 16 hA1 (by omega) (kA5 hj) (by rw [upR_o _ _ (by omega)]; exact hr _ (by omega)) rfl d_P_init_15 rfl (by omega) (by omega) (by refine ⟨?_, ?_⟩ <;> repeat' first | exact okLn | exact okSn | exact okVi | exact okVo (by omega) | refine okLc ?_ ?_ | refine okSc ?_ ?_) (by omega) (by omega) (fun ad2 hA2 => ?_)
  rw [show 5 + 9 * j + 1 = 6 + 9 * j by omega]
  refine x_putFR a 17 f_P_15 d_P_init_17 (kP hj) (by omega) (by decide) (by omega) rfl rfl rfl (fun _ => rfl) (fun _ => rfl) ?_
  refine x_aload_n a 20 d_P_init_20 rfl ?_
  refine x_bipush a 21 (nI 16) d_P_init_21 (by decide) ?_
  refine y_newi (n := 6 + 9 * j) a 23 16 hA2 (by omega) (kA6 hj) (by rw [upR_o _ _ (by omega), upR_o _ _ (by omega)]; exact hr _ (by omega)) rfl d_P_init_23 rfl (by omega) (by omega) (by refine ⟨?_, ?_⟩ <;> repeat' first | exact okLn | exact okSn | exact okVi | exact okVo (by omega) | refine okLc ?_ ?_ | refine okSc ?_ ?_) (by omega) (by omega) (fun ad3 hA3 => ?_)
  rw [show 6 + 9 * j + 1 = 7 + 9 * j by omega]
  refine x_putFR a 25 f_P_18 d_P_init_25 (kP hj) (by omega) (by decide) (by omega) rfl rfl rfl (fun _ => rfl) (fun _ => rfl) ?_
  refine x_aload_n a 28 d_P_init_28 rfl ?_
  refine x_iconst a 29 (nI 4) d_P_init_29 (by decide) ?_
  refine y_newi (n := 7 + 9 * j) a 30 4 hA3 (by omega) (kA7 hj) (by rw [upR_o _ _ (by omega), upR_o _ _ (by omega), upR_o _ _ (by omega)]; exact hr _ (by omega)) rfl d_P_init_30 rfl (by omega) (by omega) (by refine ⟨?_, ?_⟩ <;> repeat' first | exact okLn | exact okSn | exact okVi | exact okVo (by omega) | refine okLc ?_ ?_ | refine okSc ?_ ?_) (by omega) (by omega) (fun ad4 hA4 => ?_)
  rw [show 7 + 9 * j + 1 = 8 + 9 * j by omega]
  refine x_putFR a 32 f_P_21 d_P_init_32 (kP hj) (by omega) (by decide) (by omega) rfl rfl rfl (fun _ => rfl) (fun _ => rfl) ?_
  refine x_aload_n a 35 d_P_init_35 rfl ?_
  refine x_iconst a 36 (nI 4) d_P_init_36 (by decide) ?_
  refine y_newi (n := 8 + 9 * j) a 37 4 hA4 (by omega) (kA8 hj) (by rw [upR_o _ _ (by omega), upR_o _ _ (by omega), upR_o _ _ (by omega), upR_o _ _ (by omega)]; exact hr _ (by omega)) rfl d_P_init_37 rfl (by omega) (by omega) (by refine ⟨?_, ?_⟩ <;> repeat' first | exact okLn | exact okSn | exact okVi | exact okVo (by omega) | refine okLc ?_ ?_ | refine okSc ?_ ?_) (by omega) (by omega) (fun ad5 hA5 => ?_)
  rw [show 8 + 9 * j + 1 = 9 + 9 * j by omega]
  refine x_putFR a 39 f_P_24 d_P_init_39 (kP hj) (by omega) (by decide) (by omega) rfl rfl rfl (fun _ => rfl) (fun _ => rfl) ?_
  refine x_aload_n a 42 d_P_init_42 rfl ?_
  refine y_new (ci := 4) a 43 hA5 (by omega) (kV9x hj) (by rw [upR_o _ _ (by omega), upR_o _ _ (by omega), upR_o _ _ (by omega), upR_o _ _ (by omega), upR_o _ _ (by omega)]; exact hr _ (by omega)) rfl d_P_init_43 lay4 cl_P_27 in4 ii4 df4 (by omega) (by refine ⟨?_, ?_⟩ <;> repeat' first | exact okLn | exact okSn | exact okVi | exact okVo (by omega) | refine okLc ?_ ?_ | refine okSc ?_ ?_) (by omega) (show 0 + 16 + 16 + 16 + 4 + 4 + 3 ≤ _ by omega) (fun ad6 hA6 => ?_)
  refine x_dup a 46 d_P_init_46 ?_
  refine x_bipush a 47 (nI 8) d_P_init_47 (by decide) ?_
  refine x_callI a qa 49 g_P_29 d_P_init_49 (c_V_init (q := 9 + 9 * j) (len := 8) (by omega) (kV9 hj) (by rw [show 9 + 9 * j + 1 = 10 + 9 * j by omega]; exact kA10 hj) (by decide) (fun o ho => by rw [upR_o _ _ (by omega), upR_o _ _ (by omega), upR_o _ _ (by omega), upR_o _ _ (by omega), upR_o _ _ (by omega)]; exact hr o (by omega))) rfl rfl (by decide) (Nat.le_of_ble_eq_true rfl) (by refine ⟨?_, ?_⟩ <;> repeat' first | exact okLn | exact okSn | exact okVi | exact okVo (by omega) | refine okLc ?_ ?_ | refine okSc ?_ ?_) ⟨by omega, show 0 + 16 + 16 + 16 + 4 + 4 + 3 + 8 ≤ _ by omega⟩ (fun v w' ad7 h7 hp => ?_)
  obtain ⟨rfl, rfl⟩ := hp
  have hA7 := hA6.nx (n := 9 + 9 * j + 1) (by omega) h7
  refine x_st0 ?_
  rw [show 9 + 9 * j + 2 = 11 + 9 * j by omega, show 9 + 9 * j + 1 = 10 + 9 * j by omega]
  refine x_putFR a 52 f_P_32 d_P_init_52 (kP hj) (by omega) (by decide) (by omega) rfl rfl rfl (fun _ => rfl) (fun _ => rfl) ?_
  refine x_aload_n a 55 d_P_init_55 rfl ?_
  refine x_bipush a 56 (nI 16) d_P_init_56 (by decide) ?_
  refine y_newi a 58 16 hA7 (by omega) (kA11 hj) (by rw [upR_o _ _ (by omega), upR_o _ _ (by omega), upR_o _ _ (by omega), upR_o _ _ (by omega), upR_o _ _ (by omega), upR_o _ _ (by omega), upR_o _ _ (by omega)]; exact hr _ (by omega)) rfl d_P_init_58 rfl (by omega) (by omega) (by refine ⟨?_, ?_⟩ <;> repeat' first | exact okLn | exact okSn | exact okVi | exact okVo (by omega) | refine okLc ?_ ?_ | refine okSc ?_ ?_) (by omega) (show 0 + 16 + 16 + 16 + 4 + 4 + 3 + 8 + 16 ≤ _ by omega) (fun ad8 hA8 => ?_)
  rw [show 11 + 9 * j + 1 = 12 + 9 * j by omega]
  refine x_putFR a 60 f_P_36 d_P_init_60 (kP hj) (by omega) (by decide) (by omega) rfl rfl rfl (fun _ => rfl) (fun _ => rfl) ?_
  refine x_vretN a qf 63 d_P_init_63 rfl hA8 (by decide) (by omega) (show 0 + 16 + 16 + 16 + 4 + 4 + 3 + 8 + 16 ≤ 83 by omega) ⟨rfl, ?_⟩
  rw [← rPi_eq hj hr]
  rfl
/-- the references behind t of the reference's fields -/
def rM (t : Nat) : Nat → Nat → Option Nat := fun o k => if o = 61 then (if k < t then some (62 + k) else none) else if o < 61 then r0 o k else none
theorem rM_up (t : Nat) : upR (rM t) 61 t (some (62 + t)) = rM (t + 1) := by
  funext o k
  by_cases h : o = 61
  · subst h
    rw [upR_s]
    show (if k = t then some (62 + t) else if k < t then some (62 + k) else none) = if k < t + 1 then some (62 + k) else none
    by_cases hk : k = t
    · subst hk
      rw [if_pos rfl, if_pos (by omega)]
    · rw [if_neg hk]
      by_cases hl : k < t
      · rw [if_pos hl, if_pos (by omega)]
      · rw [if_neg hl, if_neg (by omega)]
  · rw [upR_o _ _ h]
    show (if o = 61 then _ else if o < 61 then r0 o k else none) = (if o = 61 then _ else if o < 61 then r0 o k else none)
    rw [if_neg h, if_neg h]
theorem rM_hi (t : Nat) {o : Nat} (h : 61 < o) : rM t o = fun _ => none := by
  funext k
  show (if o = 61 then _ else if o < 61 then r0 o k else none) = none
  rw [if_neg (by omega), if_neg (by omega)]
theorem rM_end : rM 24 = r0 := by
  funext o k
  show (if o = 61 then (if k < 24 then some (62 + k) else none) else if o < 61 then r0 o k else none) = r0 o k
  by_cases h : o = 61
  · subst h
    rfl
  rw [if_neg h]
  by_cases hl : o < 61
  · rw [if_pos hl]
  rw [if_neg hl]
  have hk : (k0 o).1 = 0 ∨ (k0 o).1 = 1 := by
    by_cases h86 : o < 86
    · exact (show ∀ o, o < 86 → 61 < o → (k0 o).1 = 0 ∨ (k0 o).1 = 1 by decide) o h86 (by omega)
    · left
      unfold k0
      rw [List.getD_eq_getElem?_getD, List.getElem?_eq_none (by show 86 ≤ o; omega)]
      rfl
  unfold r0
  rw [if_neg (by omega), if_neg (by omega), if_neg (by omega), if_neg (by omega), if_neg (by omega), if_neg (by omega), if_neg (by omega)]
def hI : Hp := up2 (up2 (up2 (up2 hZ 62 0 (-1)) 62 1 (-1)) 62 2 (-1)) 62 3 (-1)
theorem hI_o {o : Nat} (h : o ≠ 62) : hI o = fun _ => 0 := by
  unfold hI
  rw [up2_o _ _ _ h, up2_o _ _ _ h, up2_o _ _ _ h, up2_o _ _ _ h]
  rfl
set_option maxRecDepth 100000 in
set_option maxHeartbeats 4000000 in
theorem c_M_init : Cn u_M_init 1 24 486 (62, k0, rM 0, hZ) [.inr (some 61)] (fun v w' => v = none ∧ w' = w0 hI) := by
  refine Cn.of (by decide +kernel) (Nat.le_of_ble_eq_true rfl) (fun E ad a qf => ?_)
  have qa := qf.2.2.2
  have hC := qf.2.1
  have hSl := qf.2.2.1
  have hA0 : AG 62 ad ad := AG.rf
  refine x_aload_n a 0 d_M_init_0 rfl ?_
  refine x_objInit a 1 d_M_init_1 o_M o_inst o_code (by decide) (Nat.le_of_ble_eq_true rfl) ?_
  refine x_aload_n a 4 d_M_init_4 rfl ?_
  refine x_iconst a 5 (nI 4) d_M_init_5 (by decide) ?_
  refine y_newi (n := 62) a 6 4 hA0 (by omega) rfl (rM_hi _ (by omega)) rfl d_M_init_6 rfl (by omega) (by omega) (by refine ⟨?_, ?_⟩ <;> repeat' first | exact okLn | exact okSn | exact okVi | exact okVo (by omega) | refine okLc ?_ ?_ | refine okSc ?_ ?_) (by omega) (by omega) (fun ad1 hA1 => ?_)
  refine x_dup a 8 d_M_init_8 ?_
  refine x_iconst a 9 0 d_M_init_9 (by decide) ?_
  refine x_iconst a 10 (-1) d_M_init_10 (by decide) ?_
  refine x_iast a 11 d_M_init_11 rfl (by omega) (j := 0) (by decide) (by decide) (by decide) ?_
  refine x_dup a 12 d_M_init_12 ?_
  refine x_iconst a 13 1 d_M_init_13 (by decide) ?_
  refine x_iconst a 14 (-1) d_M_init_14 (by decide) ?_
  refine x_iast a 15 d_M_init_15 rfl (by omega) (j := 1) (by decide) (by decide) (by decide) ?_
  refine x_dup a 16 d_M_init_16 ?_
  refine x_iconst a 17 2 d_M_init_17 (by decide) ?_
  refine x_iconst a 18 (-1) d_M_init_18 (by decide) ?_
  refine x_iast a 19 d_M_init_19 rfl (by omega) (j := 2) (by decide) (by decide) (by decide) ?_
  refine x_dup a 20 d_M_init_20 ?_
  refine x_iconst a 21 3 d_M_init_21 (by decide) ?_
  refine x_iconst a 22 (-1) d_M_init_22 (by decide) ?_
  refine x_iast a 23 d_M_init_23 rfl (by omega) (j := 3) (by decide) (by decide) (by decide) ?_
  refine x_w (show _ = ((63, k0, rM 0, hI) : Wd) from rfl) ?_
  refine x_putFR a 24 f_M_7 d_M_init_24 rfl (by omega) (by decide) (by omega) rfl rfl rfl (fun _ => rfl) (fun _ => rfl) ?_
  refine x_w (show _ = ((63, k0, rM 1, hI) : Wd) from congrArg (fun z => ((63, k0, z, hI) : Wd)) (rM_up 0)) ?_
  refine x_aload_n a 27 d_M_init_27 rfl ?_
  refine x_iconst a 28 (nI 4) d_M_init_28 (by decide) ?_
  refine y_newi (n := 63) a 29 4 hA1 (by omega) rfl (rM_hi _ (by omega)) (hI_o (by omega)) d_M_init_29 rfl (by omega) (by omega) (by refine ⟨?_, ?_⟩ <;> repeat' first | exact okLn | exact okSn | exact okVi | exact okVo (by omega) | refine okLc ?_ ?_ | refine okSc ?_ ?_) (by omega) (by omega) (fun ad2 hA2 => ?_)
  refine x_putFR a 31 f_M_13 d_M_init_31 rfl (by omega) (by decide) (by omega) rfl rfl rfl (fun _ => rfl) (fun _ => rfl) ?_
  refine x_w (show _ = ((64, k0, rM 2, hI) : Wd) from congrArg (fun z => ((64, k0, z, hI) : Wd)) (rM_up 1)) ?_
  refine x_aload_n a 34 d_M_init_34 rfl ?_
  refine x_bipush a 35 (nI 8) d_M_init_35 (by decide) ?_
  refine y_newi (n := 64) a 37 8 hA2 (by omega) rfl (rM_hi _ (by omega)) (hI_o (by omega)) d_M_init_37 rfl (by omega) (by omega) (by refine ⟨?_, ?_⟩ <;> repeat' first | exact okLn | exact okSn | exact okVi | exact okVo (by omega) | refine okLc ?_ ?_ | refine okSc ?_ ?_) (by omega) (by omega) (fun ad3 hA3 => ?_)
  refine x_putFR a 39 f_M_16 d_M_init_39 rfl (by omega) (by decide) (by omega) rfl rfl rfl (fun _ => rfl) (fun _ => rfl) ?_
  refine x_w (show _ = ((65, k0, rM 3, hI) : Wd) from congrArg (fun z => ((65, k0, z, hI) : Wd)) (rM_up 2)) ?_
  refine x_aload_n a 42 d_M_init_42 rfl ?_
  refine x_bipush a 43 (nI 8) d_M_init_43 (by decide) ?_
  refine y_newi (n := 65) a 45 8 hA3 (by omega) rfl (rM_hi _ (by omega)) (hI_o (by omega)) d_M_init_45 rfl (by omega) (by omega) (by refine ⟨?_, ?_⟩ <;> repeat' first | exact okLn | exact okSn | exact okVi | exact okVo (by omega) | refine okLc ?_ ?_ | refine okSc ?_ ?_) (by omega) (by omega) (fun ad4 hA4 => ?_)
  refine x_putFR a 47 f_M_19 d_M_init_47 rfl (by omega) (by decide) (by omega) rfl rfl rfl (fun _ => rfl) (fun _ => rfl) ?_
  refine x_w (show _ = ((66, k0, rM 4, hI) : Wd) from congrArg (fun z => ((66, k0, z, hI) : Wd)) (rM_up 3)) ?_
  refine x_aload_n a 50 d_M_init_50 rfl ?_
  refine x_bipush a 51 (nI 6) d_M_init_51 (by decide) ?_
  refine y_newi (n := 66) a 53 6 hA4 (by omega) rfl (rM_hi _ (by omega)) (hI_o (by omega)) d_M_init_53 rfl (by omega) (by omega) (by refine ⟨?_, ?_⟩ <;> repeat' first | exact okLn | exact okSn | exact okVi | exact okVo (by omega) | refine okLc ?_ ?_ | refine okSc ?_ ?_) (by omega) (by omega) (fun ad5 hA5 => ?_)
  refine x_putFR a 55 f_M_22 d_M_init_55 rfl (by omega) (by decide) (by omega) rfl rfl rfl (fun _ => rfl) (fun _ => rfl) ?_
  refine x_w (show _ = ((67, k0, rM 5, hI) : Wd) from congrArg (fun z => ((67, k0, z, hI) : Wd)) (rM_up 4)) ?_
  refine x_aload_n a 58 d_M_init_58 rfl ?_
  refine x_bipush a 59 (nI 6) d_M_init_59 (by decide) ?_
  refine y_newi (n := 67) a 61 6 hA5 (by omega) rfl (rM_hi _ (by omega)) (hI_o (by omega)) d_M_init_61 rfl (by omega) (by omega) (by refine ⟨?_, ?_⟩ <;> repeat' first | exact okLn | exact okSn | exact okVi | exact okVo (by omega) | refine okLc ?_ ?_ | refine okSc ?_ ?_) (by omega) (by omega) (fun ad6 hA6 => ?_)
  refine x_putFR a 63 f_M_25 d_M_init_63 rfl (by omega) (by decide) (by omega) rfl rfl rfl (fun _ => rfl) (fun _ => rfl) ?_
  refine x_w (show _ = ((68, k0, rM 6, hI) : Wd) from congrArg (fun z => ((68, k0, z, hI) : Wd)) (rM_up 5)) ?_
  refine x_aload_n a 66 d_M_init_66 rfl ?_
  refine x_bipush a 67 (nI 6) d_M_init_67 (by decide) ?_
  refine y_newi (n := 68) a 69 6 hA6 (by omega) rfl (rM_hi _ (by omega)) (hI_o (by omega)) d_M_init_69 rfl (by omega) (by omega) (by refine ⟨?_, ?_⟩ <;> repeat' first | exact okLn | exact okSn | exact okVi | exact okVo (by omega) | refine okLc ?_ ?_ | refine okSc ?_ ?_) (by omega) (by omega) (fun ad7 hA7 => ?_)
  refine x_putFR a 71 f_M_28 d_M_init_71 rfl (by omega) (by decide) (by omega) rfl rfl rfl (fun _ => rfl) (fun _ => rfl) ?_
  refine x_w (show _ = ((69, k0, rM 7, hI) : Wd) from congrArg (fun z => ((69, k0, z, hI) : Wd)) (rM_up 6)) ?_
  refine x_aload_n a 74 d_M_init_74 rfl ?_
  refine x_bipush a 75 (nI 6) d_M_init_75 (by decide) ?_
  refine y_newi (n := 69) a 77 6 hA7 (by omega) rfl (rM_hi _ (by omega)) (hI_o (by omega)) d_M_init_77 rfl (by omega) (by omega) (by refine ⟨?_, ?_⟩ <;> repeat' first | exact okLn | exact okSn | exact okVi | exact okVo (by omega) | refine okLc ?_ ?_ | refine okSc ?_ ?_) (by omega) (by omega) (fun ad8 hA8 => ?_)
  refine x_putFR a 79 f_M_31 d_M_init_79 rfl (by omega) (by decide) (by omega) rfl rfl rfl (fun _ => rfl) (fun _ => rfl) ?_
  refine x_w (show _ = ((70, k0, rM 8, hI) : Wd) from congrArg (fun z => ((70, k0, z, hI) : Wd)) (rM_up 7)) ?_
  refine x_aload_n a 82 d_M_init_82 rfl ?_
  refine x_bipush a 83 (nI 6) d_M_init_83 (by decide) ?_
  refine y_newi (n := 70) a 85 6 hA8 (by omega) rfl (rM_hi _ (by omega)) (hI_o (by omega)) d_M_init_85 rfl (by omega) (by omega) (by refine ⟨?_, ?_⟩ <;> repeat' first | exact okLn | exact okSn | exact okVi | exact okVo (by omega) | refine okLc ?_ ?_ | refine okSc ?_ ?_) (by omega) (by omega) (fun ad9 hA9 => ?_)
  refine x_putFR a 87 f_M_34 d_M_init_87 rfl (by omega) (by decide) (by omega) rfl rfl rfl (fun _ => rfl) (fun _ => rfl) ?_
  refine x_w (show _ = ((71, k0, rM 9, hI) : Wd) from congrArg (fun z => ((71, k0, z, hI) : Wd)) (rM_up 8)) ?_
  refine x_aload_n a 90 d_M_init_90 rfl ?_
  refine x_bipush a 91 (nI 24) d_M_init_91 (by decide) ?_
  refine y_newi (n := 71) a 93 24 hA9 (by omega) rfl (rM_hi _ (by omega)) (hI_o (by omega)) d_M_init_93 rfl (by omega) (by omega) (by refine ⟨?_, ?_⟩ <;> repeat' first | exact okLn | exact okSn | exact okVi | exact okVo (by omega) | refine okLc ?_ ?_ | refine okSc ?_ ?_) (by omega) (by omega) (fun ad10 hA10 => ?_)
  refine x_putFR a 95 f_M_37 d_M_init_95 rfl (by omega) (by decide) (by omega) rfl rfl rfl (fun _ => rfl) (fun _ => rfl) ?_
  refine x_w (show _ = ((72, k0, rM 10, hI) : Wd) from congrArg (fun z => ((72, k0, z, hI) : Wd)) (rM_up 9)) ?_
  refine x_aload_n a 98 d_M_init_98 rfl ?_
  refine x_bipush a 99 (nI 16) d_M_init_99 (by decide) ?_
  refine y_newi (n := 72) a 101 16 hA10 (by omega) rfl (rM_hi _ (by omega)) (hI_o (by omega)) d_M_init_101 rfl (by omega) (by omega) (by refine ⟨?_, ?_⟩ <;> repeat' first | exact okLn | exact okSn | exact okVi | exact okVo (by omega) | refine okLc ?_ ?_ | refine okSc ?_ ?_) (by omega) (by omega) (fun ad11 hA11 => ?_)
  refine x_putFR a 103 f_M_40 d_M_init_103 rfl (by omega) (by decide) (by omega) rfl rfl rfl (fun _ => rfl) (fun _ => rfl) ?_
  refine x_w (show _ = ((73, k0, rM 11, hI) : Wd) from congrArg (fun z => ((73, k0, z, hI) : Wd)) (rM_up 10)) ?_
  refine x_aload_n a 106 d_M_init_106 rfl ?_
  refine x_bipush a 107 (nI 64) d_M_init_107 (by decide) ?_
  refine y_newi (n := 73) a 109 64 hA11 (by omega) rfl (rM_hi _ (by omega)) (hI_o (by omega)) d_M_init_109 rfl (by omega) (by omega) (by refine ⟨?_, ?_⟩ <;> repeat' first | exact okLn | exact okSn | exact okVi | exact okVo (by omega) | refine okLc ?_ ?_ | refine okSc ?_ ?_) (by omega) (by omega) (fun ad12 hA12 => ?_)
  refine x_putFR a 111 f_M_43 d_M_init_111 rfl (by omega) (by decide) (by omega) rfl rfl rfl (fun _ => rfl) (fun _ => rfl) ?_
  refine x_w (show _ = ((74, k0, rM 12, hI) : Wd) from congrArg (fun z => ((74, k0, z, hI) : Wd)) (rM_up 11)) ?_
  refine x_aload_n a 114 d_M_init_114 rfl ?_
  refine x_bipush a 115 (nI 64) d_M_init_115 (by decide) ?_
  refine y_newi (n := 74) a 117 64 hA12 (by omega) rfl (rM_hi _ (by omega)) (hI_o (by omega)) d_M_init_117 rfl (by omega) (by omega) (by refine ⟨?_, ?_⟩ <;> repeat' first | exact okLn | exact okSn | exact okVi | exact okVo (by omega) | refine okLc ?_ ?_ | refine okSc ?_ ?_) (by omega) (by omega) (fun ad13 hA13 => ?_)
  refine x_putFR a 119 f_M_46 d_M_init_119 rfl (by omega) (by decide) (by omega) rfl rfl rfl (fun _ => rfl) (fun _ => rfl) ?_
  refine x_w (show _ = ((75, k0, rM 13, hI) : Wd) from congrArg (fun z => ((75, k0, z, hI) : Wd)) (rM_up 12)) ?_
  refine x_aload_n a 122 d_M_init_122 rfl ?_
  refine x_bipush a 123 (nI 64) d_M_init_123 (by decide) ?_
  refine y_newi (n := 75) a 125 64 hA13 (by omega) rfl (rM_hi _ (by omega)) (hI_o (by omega)) d_M_init_125 rfl (by omega) (by omega) (by refine ⟨?_, ?_⟩ <;> repeat' first | exact okLn | exact okSn | exact okVi | exact okVo (by omega) | refine okLc ?_ ?_ | refine okSc ?_ ?_) (by omega) (by omega) (fun ad14 hA14 => ?_)
  refine x_putFR a 127 f_M_49 d_M_init_127 rfl (by omega) (by decide) (by omega) rfl rfl rfl (fun _ => rfl) (fun _ => rfl) ?_
  refine x_w (show _ = ((76, k0, rM 14, hI) : Wd) from congrArg (fun z => ((76, k0, z, hI) : Wd)) (rM_up 13)) ?_
  refine x_aload_n a 130 d_M_init_130 rfl ?_
  refine x_bipush a 131 (nI 64) d_M_init_131 (by decide) ?_
  refine y_newi (n := 76) a 133 64 hA14 (by omega) rfl (rM_hi _ (by omega)) (hI_o (by omega)) d_M_init_133 rfl (by omega) (by omega) (by refine ⟨?_, ?_⟩ <;> repeat' first | exact okLn | exact okSn | exact okVi | exact okVo (by omega) | refine okLc ?_ ?_ | refine okSc ?_ ?_) (by omega) (by omega) (fun ad15 hA15 => ?_)
  refine x_putFR a 135 f_M_52 d_M_init_135 rfl (by omega) (by decide) (by omega) rfl rfl rfl (fun _ => rfl) (fun _ => rfl) ?_
  refine x_w (show _ = ((77, k0, rM 15, hI) : Wd) from congrArg (fun z => ((77, k0, z, hI) : Wd)) (rM_up 14)) ?_
  refine x_aload_n a 138 d_M_init_138 rfl ?_
  refine x_bipush a 139 (nI 16) d_M_init_139 (by decide) ?_
  refine y_newi (n := 77) a 141 16 hA15 (by omega) rfl (rM_hi _ (by omega)) (hI_o (by omega)) d_M_init_141 rfl (by omega) (by omega) (by refine ⟨?_, ?_⟩ <;> repeat' first | exact okLn | exact okSn | exact okVi | exact okVo (by omega) | refine okLc ?_ ?_ | refine okSc ?_ ?_) (by omega) (by omega) (fun ad16 hA16 => ?_)
  refine x_putFR a 143 f_M_55 d_M_init_143 rfl (by omega) (by decide) (by omega) rfl rfl rfl (fun _ => rfl) (fun _ => rfl) ?_
  refine x_w (show _ = ((78, k0, rM 16, hI) : Wd) from congrArg (fun z => ((78, k0, z, hI) : Wd)) (rM_up 15)) ?_
  refine x_aload_n a 146 d_M_init_146 rfl ?_
  refine x_iconst a 147 (nI 4) d_M_init_147 (by decide) ?_
  refine y_newi (n := 78) a 148 4 hA16 (by omega) rfl (rM_hi _ (by omega)) (hI_o (by omega)) d_M_init_148 rfl (by omega) (by omega) (by refine ⟨?_, ?_⟩ <;> repeat' first | exact okLn | exact okSn | exact okVi | exact okVo (by omega) | refine okLc ?_ ?_ | refine okSc ?_ ?_) (by omega) (by omega) (fun ad17 hA17 => ?_)
  refine x_putFR a 150 f_M_58 d_M_init_150 rfl (by omega) (by decide) (by omega) rfl rfl rfl (fun _ => rfl) (fun _ => rfl) ?_
  refine x_w (show _ = ((79, k0, rM 17, hI) : Wd) from congrArg (fun z => ((79, k0, z, hI) : Wd)) (rM_up 16)) ?_
  refine x_aload_n a 153 d_M_init_153 rfl ?_
  refine x_iconst a 154 (nI 4) d_M_init_154 (by decide) ?_
  refine y_newi (n := 79) a 155 4 hA17 (by omega) rfl (rM_hi _ (by omega)) (hI_o (by omega)) d_M_init_155 rfl (by omega) (by omega) (by refine ⟨?_, ?_⟩ <;> repeat' first | exact okLn | exact okSn | exact okVi | exact okVo (by omega) | refine okLc ?_ ?_ | refine okSc ?_ ?_) (by omega) (by omega) (fun ad18 hA18 => ?_)
  refine x_putFR a 157 f_M_61 d_M_init_157 rfl (by omega) (by decide) (by omega) rfl rfl rfl (fun _ => rfl) (fun _ => rfl) ?_
  refine x_w (show _ = ((80, k0, rM 18, hI) : Wd) from congrArg (fun z => ((80, k0, z, hI) : Wd)) (rM_up 17)) ?_
  refine x_aload_n a 160 d_M_init_160 rfl ?_
  refine x_iconst a 161 (nI 4) d_M_init_161 (by decide) ?_
  refine y_newz (n := 80) a 162 4 hA18 (by omega) rfl (rM_hi _ (by omega)) (hI_o (by omega)) d_M_init_162 rfl (by omega) (by omega) (by refine ⟨?_, ?_⟩ <;> repeat' first | exact okLn | exact okSn | exact okVi | exact okVo (by omega) | refine okLc ?_ ?_ | refine okSc ?_ ?_) (by omega) (by omega) (fun ad19 hA19 => ?_)
  refine x_putFR a 164 f_M_64 d_M_init_164 rfl (by omega) (by decide) (by omega) rfl rfl rfl (fun _ => rfl) (fun _ => rfl) ?_
  refine x_w (show _ = ((81, k0, rM 19, hI) : Wd) from congrArg (fun z => ((81, k0, z, hI) : Wd)) (rM_up 18)) ?_
  refine x_aload_n a 167 d_M_init_167 rfl ?_
  refine x_iconst a 168 (nI 4) d_M_init_168 (by decide) ?_
  refine y_newz (n := 81) a 169 4 hA19 (by omega) rfl (rM_hi _ (by omega)) (hI_o (by omega)) d_M_init_169 rfl (by omega) (by omega) (by refine ⟨?_, ?_⟩ <;> repeat' first | exact okLn | exact okSn | exact okVi | exact okVo (by omega) | refine okLc ?_ ?_ | refine okSc ?_ ?_) (by omega) (by omega) (fun ad20 hA20 => ?_)
  refine x_putFR a 171 f_M_68 d_M_init_171 rfl (by omega) (by decide) (by omega) rfl rfl rfl (fun _ => rfl) (fun _ => rfl) ?_
  refine x_w (show _ = ((82, k0, rM 20, hI) : Wd) from congrArg (fun z => ((82, k0, z, hI) : Wd)) (rM_up 19)) ?_
  refine x_aload_n a 174 d_M_init_174 rfl ?_
  refine x_iconst a 175 (nI 4) d_M_init_175 (by decide) ?_
  refine y_newi (n := 82) a 176 4 hA20 (by omega) rfl (rM_hi _ (by omega)) (hI_o (by omega)) d_M_init_176 rfl (by omega) (by omega) (by refine ⟨?_, ?_⟩ <;> repeat' first | exact okLn | exact okSn | exact okVi | exact okVo (by omega) | refine okLc ?_ ?_ | refine okSc ?_ ?_) (by omega) (by omega) (fun ad21 hA21 => ?_)
  refine x_putFR a 178 f_M_71 d_M_init_178 rfl (by omega) (by decide) (by omega) rfl rfl rfl (fun _ => rfl) (fun _ => rfl) ?_
  refine x_w (show _ = ((83, k0, rM 21, hI) : Wd) from congrArg (fun z => ((83, k0, z, hI) : Wd)) (rM_up 20)) ?_
  refine x_aload_n a 181 d_M_init_181 rfl ?_
  refine x_bipush a 182 (nI 32) d_M_init_182 (by decide) ?_
  refine y_newi (n := 83) a 184 32 hA21 (by omega) rfl (rM_hi _ (by omega)) (hI_o (by omega)) d_M_init_184 rfl (by omega) (by omega) (by refine ⟨?_, ?_⟩ <;> repeat' first | exact okLn | exact okSn | exact okVi | exact okVo (by omega) | refine okLc ?_ ?_ | refine okSc ?_ ?_) (by omega) (by omega) (fun ad22 hA22 => ?_)
  refine x_putFR a 186 f_M_74 d_M_init_186 rfl (by omega) (by decide) (by omega) rfl rfl rfl (fun _ => rfl) (fun _ => rfl) ?_
  refine x_w (show _ = ((84, k0, rM 22, hI) : Wd) from congrArg (fun z => ((84, k0, z, hI) : Wd)) (rM_up 21)) ?_
  refine x_aload_n a 189 d_M_init_189 rfl ?_
  refine x_iconst a 190 (nI 4) d_M_init_190 (by decide) ?_
  refine y_newi (n := 84) a 191 4 hA22 (by omega) rfl (rM_hi _ (by omega)) (hI_o (by omega)) d_M_init_191 rfl (by omega) (by omega) (by refine ⟨?_, ?_⟩ <;> repeat' first | exact okLn | exact okSn | exact okVi | exact okVo (by omega) | refine okLc ?_ ?_ | refine okSc ?_ ?_) (by omega) (by omega) (fun ad23 hA23 => ?_)
  refine x_putFR a 193 f_M_77 d_M_init_193 rfl (by omega) (by decide) (by omega) rfl rfl rfl (fun _ => rfl) (fun _ => rfl) ?_
  refine x_w (show _ = ((85, k0, rM 23, hI) : Wd) from congrArg (fun z => ((85, k0, z, hI) : Wd)) (rM_up 22)) ?_
  refine x_aload_n a 196 d_M_init_196 rfl ?_
  refine x_bipush a 197 (nI 64) d_M_init_197 (by decide) ?_
  refine y_newi (n := 85) a 199 64 hA23 (by omega) rfl (rM_hi _ (by omega)) (hI_o (by omega)) d_M_init_199 rfl (by omega) (by omega) (by refine ⟨?_, ?_⟩ <;> repeat' first | exact okLn | exact okSn | exact okVi | exact okVo (by omega) | refine okLc ?_ ?_ | refine okSc ?_ ?_) (by omega) (by omega) (fun ad24 hA24 => ?_)
  refine x_putFR a 201 f_M_80 d_M_init_201 rfl (by omega) (by decide) (by omega) rfl rfl rfl (fun _ => rfl) (fun _ => rfl) ?_
  refine x_w (show _ = ((86, k0, rM 24, hI) : Wd) from congrArg (fun z => ((86, k0, z, hI) : Wd)) (rM_up 23)) ?_
  exact x_vretN a qf 204 d_M_init_204 rfl hA24 (by decide) (by omega) (by omega) ⟨rfl, by rw [rM_end]⟩
