def d_region (h : Hp) (p f s : Int32) : Hp × Int32 := if (0 ≤ p ∧ p < 4) ∧ 1 ≤ s ∧ s ≤ 32 ∧ 0 ≤ f ∧ f ≤ 64 - s then (up2 (up2 (up2 h (3 + 9 * tn p) 7 f) (3 + 9 * tn p) 8 s) 0 5 0, 1) else (h, 0)
def d_window (h : Hp) (p t : Int32) : Hp × Int32 := if (0 ≤ p ∧ p < 4) ∧ 1 ≤ t ∧ t ≤ 9 ∧ ¬ 8 ≤ h 58 2 then (up2 (up2 (up2 (up2 h 59 (tn (h 58 2)) p) 60 (tn (h 58 2)) t) 58 2 (nI (tn (h 58 2) + 1))) 0 5 0, 1) else (h, 0)
def d_port (h : Hp) (f t d : Int32) : Hp × Int32 := if (0 ≤ f ∧ f < 4) ∧ (0 ≤ t ∧ t < 4) ∧ ¬ f = t ∧ 0 ≤ d ∧ d ≤ 4 ∧ h 0 4 < 6 then (up2 (up2 (up2 (up2 (up2 h (40 + 3 * tn (h 0 4)) 1 f) (40 + 3 * tn (h 0 4)) 2 t) (40 + 3 * tn (h 0 4)) 3 d) 0 4 (h 0 4 + 1)) 0 5 0, h 0 4) else (h, -1)
def d_action (h : Hp) (p f x : Int32) : Hp × Int32 := if (0 ≤ p ∧ p < 4) ∧ 1 ≤ f ∧ f ≤ 4 ∧ 0 ≤ x ∧ x ≤ 2 then (up2 (up2 h (7 + 9 * tn p) (tn f - 1) x) 0 5 0, 1) else (h, 0)
def d_code (h : Hp) (p i o x b : Int32) : Hp × Int32 := if (0 ≤ p ∧ p < 4) ∧ 0 ≤ i ∧ i < 16 then (up2 (up2 (up2 (up2 h (4 + 9 * tn p) (tn i) o) (5 + 9 * tn p) (tn i) x) (6 + 9 * tn p) (tn i) b) 0 5 0, 1) else (h, 0)
def d_input (h : Hp) (p v : Int32) : Hp × Int32 := if (0 ≤ p ∧ p < 4) ∧ tn (h (9 + 9 * tn p) 2) < 8 then (up2 (up2 h (10 + 9 * tn p) (qix (tn (h (9 + 9 * tn p) 1)) (tn (h (9 + 9 * tn p) 2)) 8) v) (9 + 9 * tn p) 2 (nI (tn (h (9 + 9 * tn p) 2) + 1)), nI (tn (h (9 + 9 * tn p) 2) + 1)) else (h, -1)
def d_tell (h : Hp) (j : Nat) (x : Int32) : Int32 := if x = 0 then h (8 + 9 * j) 0 else if x = 1 then h (8 + 9 * j) 1 else if x = 2 then h (8 + 9 * j) 2 else if x = 3 then h (8 + 9 * j) 3 else if x = 4 then h (3 + 9 * j) 9 else if x = 5 then (if h (3 + 9 * j) 10 = 0 then 0 else 1) else if x = 6 then h (3 + 9 * j) 11 else if x = 7 then h (3 + 9 * j) 12 else if x = 8 then h (9 + 9 * j) 2 else -1
def d_output (h : Hp) (p i : Int32) : Int32 := if 0 ≤ p ∧ p < 4 then (if 0 ≤ i ∧ i < 16 ∧ i < h (3 + 9 * tn p) 12 then h (11 + 9 * tn p) (tn i) else 0) else 0
def d_about (h : Hp) (p x : Int32) : Int32 := if 0 ≤ p ∧ p < 4 then d_tell h (tn p) x else -1
def d_word (h : Hp) (i : Int32) : Int32 := if 0 ≤ i ∧ i < 64 then h 1 (tn i) else 0
def d_waiting (h : Hp) (k : Int32) : Int32 := if 0 ≤ k ∧ k < h 0 4 then h (41 + 3 * tn k) 2 else -1
def d_clock (h : Hp) (x : Int32) : Int32 := if h 0 5 = 0 then -1 else if x = 0 then h 58 3 else if x = 1 then h 58 4 else if x = 2 then h 58 5 else -1
set_option maxRecDepth 100000 in
set_option maxHeartbeats 4000000 in
theorem c_D_region (h : Hp) (p f s : Int32) : Cn u_D_region 1 0 0 (w0 h) [.inr (some 0), .inl p, .inl f, .inl s] (fun v w' => v = some (d_region h p f s).2 ∧ w' = w0 (d_region h p f s).1) := by
  refine Cn.of (by decide +kernel) (Nat.le_of_ble_eq_true rfl) (fun E ad a qf => ?_)
  have qa := qf.2.2.2
  have hcs : 0 ≤ (eR E).cells ∧ 0 ≤ (eR E).slots := ⟨Nat.zero_le _, Nat.zero_le _⟩
  refine x_iload_n a 0 d_D_region_0 rfl ?_
  refine x_callS a qa 1 g_D_42 d_D_region_1 (c_D_isPartition _ _) rfl rfl (by decide) (Nat.le_of_ble_eq_true rfl) hcs (fun v w' hp => ?_)
  obtain ⟨rfl, rfl⟩ := hp
  refine x_st1 ?_
  refine x_ifB_eq a 4 18 d_D_region_4 (by decide) (fun c4 => ?_) (fun c4 => ?_)
  · refine x_iconst a 18 0 d_D_region_18 (by decide) ?_
    exact x_zret a qf 19 d_D_region_19 rfl rfl ⟨by unfold d_region; rw [if_neg (by rintro ⟨z1, z2⟩; first | exact c4 z1 | exact (by (try simp (disch := omega) only [Int32.le_iff_toInt_le, Int32.lt_iff_toInt_lt, ← Int32.toInt_inj, Int32.reduceToInt, nI_1, nI_add, pk_sub, nI_toInt] at *); omega))], by unfold d_region; rw [if_neg (by rintro ⟨z1, z2⟩; first | exact c4 z1 | exact (by (try simp (disch := omega) only [Int32.le_iff_toInt_le, Int32.lt_iff_toInt_lt, ← Int32.toInt_inj, Int32.reduceToInt, nI_1, nI_add, pk_sub, nI_toInt] at *); omega))]⟩
  · refine x_iload_n a 7 d_D_region_7 rfl ?_
    refine x_iconst a 8 1 d_D_region_8 (by decide) ?_
    refine x_icmp_lt a 9 18 d_D_region_9 (by decide) (fun c9 => ?_) (fun c9 => ?_)
    · refine x_iconst a 18 0 d_D_region_18 (by decide) ?_
      exact x_zret a qf 19 d_D_region_19 rfl rfl ⟨by unfold d_region; rw [if_neg (by rintro ⟨z1, z2⟩; first | exact c4 z1 | exact (by (try simp (disch := omega) only [Int32.le_iff_toInt_le, Int32.lt_iff_toInt_lt, ← Int32.toInt_inj, Int32.reduceToInt, nI_1, nI_add, pk_sub, nI_toInt] at *); omega))], by unfold d_region; rw [if_neg (by rintro ⟨z1, z2⟩; first | exact c4 z1 | exact (by (try simp (disch := omega) only [Int32.le_iff_toInt_le, Int32.lt_iff_toInt_lt, ← Int32.toInt_inj, Int32.reduceToInt, nI_1, nI_add, pk_sub, nI_toInt] at *); omega))]⟩
    · refine x_iload_n a 12 d_D_region_12 rfl ?_
      refine x_bipush a 13 32 d_D_region_13 (by decide) ?_
      refine x_icmp_le a 15 20 d_D_region_15 (by decide) (fun c15 => ?_) (fun c15 => ?_)
      · refine x_iload_n a 20 d_D_region_20 rfl ?_
        refine x_if_lt a 21 32 d_D_region_21 (by decide) (fun c21 => ?_) (fun c21 => ?_)
        · refine x_iconst a 32 0 d_D_region_32 (by decide) ?_
          exact x_zret a qf 33 d_D_region_33 rfl rfl ⟨by unfold d_region; rw [if_neg (by rintro ⟨z1, z2⟩; first | exact c4 z1 | exact (by (try simp (disch := omega) only [Int32.le_iff_toInt_le, Int32.lt_iff_toInt_lt, ← Int32.toInt_inj, Int32.reduceToInt, nI_1, nI_add, pk_sub, nI_toInt] at *); omega))], by unfold d_region; rw [if_neg (by rintro ⟨z1, z2⟩; first | exact c4 z1 | exact (by (try simp (disch := omega) only [Int32.le_iff_toInt_le, Int32.lt_iff_toInt_lt, ← Int32.toInt_inj, Int32.reduceToInt, nI_1, nI_add, pk_sub, nI_toInt] at *); omega))]⟩
        · refine x_iload_n a 24 d_D_region_24 rfl ?_
          refine x_bipush a 25 64 d_D_region_25 (by decide) ?_
          refine x_iload_n a 27 d_D_region_27 rfl ?_
          refine x_isub a 28 d_D_region_28 ?_
          refine x_icmp_le a 29 34 d_D_region_29 (by decide) (fun c29 => ?_) (fun c29 => ?_)
          · obtain ⟨j, hj, rfl⟩ := vp_in_of (x := p) (n := 4) (vp_in_iff.mpr (by (try simp (disch := omega) only [Int32.le_iff_toInt_le, Int32.lt_iff_toInt_lt, ← Int32.toInt_inj, Int32.reduceToInt, nI_1, nI_add, pk_sub, nI_toInt] at *); omega)) (by decide)
            refine x_aload_n a 34 d_D_region_34 rfl ?_
            refine x_getR a 35 f_D_15 d_D_region_35 rfl (by omega) (by decide) rfl ?_
            refine x_iload_n a 38 d_D_region_38 rfl ?_
            refine x_aald2 a 39 d_D_region_39 rfl (by omega) (j := j) rfl hj (by decide) (rPs (by omega)) ?_
            refine x_iload_n a 40 d_D_region_40 rfl ?_
            refine x_putI a 41 f_D_46 d_D_region_41 (kP (by omega)) (by omega) (by decide) rfl rfl rfl ?_
            refine x_aload_n a 44 d_D_region_44 rfl ?_
            refine x_getR a 45 f_D_15 d_D_region_45 rfl (by omega) (by decide) rfl ?_
            refine x_iload_n a 48 d_D_region_48 rfl ?_
            refine x_aald2 a 49 d_D_region_49 rfl (by omega) (j := j) rfl hj (by decide) (rPs (by omega)) ?_
            refine x_iload_n a 50 d_D_region_50 rfl ?_
            refine x_putI a 51 f_D_49 d_D_region_51 (kP (by omega)) (by omega) (by decide) rfl rfl rfl ?_
            refine x_aload_n a 54 d_D_region_54 rfl ?_
            refine x_iconst a 55 0 d_D_region_55 (by decide) ?_
            refine x_putI a 56 f_D_38 d_D_region_56 rfl (by omega) (by decide) rfl rfl rfl ?_
            refine x_iconst a 59 1 d_D_region_59 (by decide) ?_
            exact x_zret a qf 60 d_D_region_60 rfl rfl ⟨by unfold d_region; rw [if_pos ⟨c4, (by (try simp (disch := omega) only [Int32.le_iff_toInt_le, Int32.lt_iff_toInt_lt, ← Int32.toInt_inj, Int32.reduceToInt, nI_1, nI_add, pk_sub, nI_toInt] at *); omega)⟩], by unfold d_region; rw [if_pos ⟨c4, (by (try simp (disch := omega) only [Int32.le_iff_toInt_le, Int32.lt_iff_toInt_lt, ← Int32.toInt_inj, Int32.reduceToInt, nI_1, nI_add, pk_sub, nI_toInt] at *); omega)⟩, tn_nI (k := j) (by omega)]⟩
          · refine x_iconst a 32 0 d_D_region_32 (by decide) ?_
            exact x_zret a qf 33 d_D_region_33 rfl rfl ⟨by unfold d_region; rw [if_neg (by rintro ⟨z1, z2⟩; first | exact c4 z1 | exact (by (try simp (disch := omega) only [Int32.le_iff_toInt_le, Int32.lt_iff_toInt_lt, ← Int32.toInt_inj, Int32.reduceToInt, nI_1, nI_add, pk_sub, nI_toInt] at *); omega))], by unfold d_region; rw [if_neg (by rintro ⟨z1, z2⟩; first | exact c4 z1 | exact (by (try simp (disch := omega) only [Int32.le_iff_toInt_le, Int32.lt_iff_toInt_lt, ← Int32.toInt_inj, Int32.reduceToInt, nI_1, nI_add, pk_sub, nI_toInt] at *); omega))]⟩
      · refine x_iconst a 18 0 d_D_region_18 (by decide) ?_
        exact x_zret a qf 19 d_D_region_19 rfl rfl ⟨by unfold d_region; rw [if_neg (by rintro ⟨z1, z2⟩; first | exact c4 z1 | exact (by (try simp (disch := omega) only [Int32.le_iff_toInt_le, Int32.lt_iff_toInt_lt, ← Int32.toInt_inj, Int32.reduceToInt, nI_1, nI_add, pk_sub, nI_toInt] at *); omega))], by unfold d_region; rw [if_neg (by rintro ⟨z1, z2⟩; first | exact c4 z1 | exact (by (try simp (disch := omega) only [Int32.le_iff_toInt_le, Int32.lt_iff_toInt_lt, ← Int32.toInt_inj, Int32.reduceToInt, nI_1, nI_add, pk_sub, nI_toInt] at *); omega))]⟩
set_option maxRecDepth 100000 in
set_option maxHeartbeats 4000000 in
theorem c_D_window (h : Hp) (p t : Int32) (hn : Nlt (h 58 2) 9) : Cn u_D_window 1 0 0 (w0 h) [.inr (some 0), .inl p, .inl t] (fun v w' => v = some (d_window h p t).2 ∧ w' = w0 (d_window h p t).1) := by
  refine Cn.of (by decide +kernel) (Nat.le_of_ble_eq_true rfl) (fun E ad a qf => ?_)
  have qa := qf.2.2.2
  have hcs : 0 ≤ (eR E).cells ∧ 0 ≤ (eR E).slots := ⟨Nat.zero_le _, Nat.zero_le _⟩
  refine x_iload_n a 0 d_D_window_0 rfl ?_
  refine x_callS a qa 1 g_D_42 d_D_window_1 (c_D_isPartition _ _) rfl rfl (by decide) (Nat.le_of_ble_eq_true rfl) hcs (fun v w' hp => ?_)
  obtain ⟨rfl, rfl⟩ := hp
  refine x_st1 ?_
  refine x_ifB_eq a 4 28 d_D_window_4 (by decide) (fun c4 => ?_) (fun c4 => ?_)
  · refine x_iconst a 28 0 d_D_window_28 (by decide) ?_
    exact x_zret a qf 29 d_D_window_29 rfl rfl ⟨by unfold d_window; rw [if_neg (by rintro ⟨z1, z2, z3, z4⟩; first | exact c4 z1 | exact z4 c25 | exact (by (try simp (disch := omega) only [Int32.le_iff_toInt_le, Int32.lt_iff_toInt_lt, ← Int32.toInt_inj, Int32.reduceToInt, nI_1, nI_add, pk_sub, nI_toInt] at *); omega))], by unfold d_window; rw [if_neg (by rintro ⟨z1, z2, z3, z4⟩; first | exact c4 z1 | exact z4 c25 | exact (by (try simp (disch := omega) only [Int32.le_iff_toInt_le, Int32.lt_iff_toInt_lt, ← Int32.toInt_inj, Int32.reduceToInt, nI_1, nI_add, pk_sub, nI_toInt] at *); omega))]⟩
  · refine x_iload_n a 7 d_D_window_7 rfl ?_
    refine x_iconst a 8 1 d_D_window_8 (by decide) ?_
    refine x_icmp_lt a 9 28 d_D_window_9 (by decide) (fun c9 => ?_) (fun c9 => ?_)
    · refine x_iconst a 28 0 d_D_window_28 (by decide) ?_
      exact x_zret a qf 29 d_D_window_29 rfl rfl ⟨by unfold d_window; rw [if_neg (by rintro ⟨z1, z2, z3, z4⟩; first | exact c4 z1 | exact z4 c25 | exact (by (try simp (disch := omega) only [Int32.le_iff_toInt_le, Int32.lt_iff_toInt_lt, ← Int32.toInt_inj, Int32.reduceToInt, nI_1, nI_add, pk_sub, nI_toInt] at *); omega))], by unfold d_window; rw [if_neg (by rintro ⟨z1, z2, z3, z4⟩; first | exact c4 z1 | exact z4 c25 | exact (by (try simp (disch := omega) only [Int32.le_iff_toInt_le, Int32.lt_iff_toInt_lt, ← Int32.toInt_inj, Int32.reduceToInt, nI_1, nI_add, pk_sub, nI_toInt] at *); omega))]⟩
    · refine x_iload_n a 12 d_D_window_12 rfl ?_
      refine x_bipush a 13 9 d_D_window_13 (by decide) ?_
      refine x_icmp_gt a 15 28 d_D_window_15 (by decide) (fun c15 => ?_) (fun c15 => ?_)
      · refine x_iconst a 28 0 d_D_window_28 (by decide) ?_
        exact x_zret a qf 29 d_D_window_29 rfl rfl ⟨by unfold d_window; rw [if_neg (by rintro ⟨z1, z2, z3, z4⟩; first | exact c4 z1 | exact z4 c25 | exact (by (try simp (disch := omega) only [Int32.le_iff_toInt_le, Int32.lt_iff_toInt_lt, ← Int32.toInt_inj, Int32.reduceToInt, nI_1, nI_add, pk_sub, nI_toInt] at *); omega))], by unfold d_window; rw [if_neg (by rintro ⟨z1, z2, z3, z4⟩; first | exact c4 z1 | exact z4 c25 | exact (by (try simp (disch := omega) only [Int32.le_iff_toInt_le, Int32.lt_iff_toInt_lt, ← Int32.toInt_inj, Int32.reduceToInt, nI_1, nI_add, pk_sub, nI_toInt] at *); omega))]⟩
      · refine x_aload_n a 18 d_D_window_18 rfl ?_
        refine x_getR a 19 f_D_30 d_D_window_19 rfl (by omega) (by decide) rfl ?_
        refine x_callV a qa 22 g_D_52 d_D_window_22 (c_F_isFull _) rfl rfl rfl (show _ < 86 by omega) (by decide) (Nat.le_of_ble_eq_true rfl) hcs (fun v w' hp => ?_)
        obtain ⟨rfl, rfl⟩ := hp
        refine x_st1 ?_
        refine x_ifB_eq a 25 30 d_D_window_25 (by decide) (fun c25 => ?_) (fun c25 => ?_)
        · have hn8 : tn (h 58 2) < 8 := by have h1 := hn.1; have h2 := hn.2; rw [h2] at c25; exact (by (try simp (disch := omega) only [Int32.le_iff_toInt_le, Int32.lt_iff_toInt_lt, ← Int32.toInt_inj, Int32.reduceToInt, nI_1, nI_add, pk_sub, nI_toInt] at *); omega)
          refine x_aload_n a 30 d_D_window_30 rfl ?_
          refine x_getR a 31 f_D_30 d_D_window_31 rfl (by omega) (by decide) rfl ?_
          refine x_iload_n a 34 d_D_window_34 rfl ?_
          refine x_iload_n a 35 d_D_window_35 rfl ?_
          refine x_callV a qa 36 g_D_56 d_D_window_36 (c_F_append _ _ _ hn.2 hn8) rfl rfl rfl (show _ < 86 by omega) (by decide) (Nat.le_of_ble_eq_true rfl) hcs (fun v w' hp => ?_)
          obtain ⟨rfl, rfl⟩ := hp
          refine x_st0 ?_
          refine x_aload_n a 39 d_D_window_39 rfl ?_
          refine x_iconst a 40 0 d_D_window_40 (by decide) ?_
          refine x_putI a 41 f_D_38 d_D_window_41 rfl (by omega) (by decide) rfl rfl rfl ?_
          refine x_iconst a 44 1 d_D_window_44 (by decide) ?_
          exact x_zret a qf 45 d_D_window_45 rfl rfl ⟨by unfold d_window; rw [if_pos ⟨c4, (by (try simp (disch := omega) only [Int32.le_iff_toInt_le, Int32.lt_iff_toInt_lt, ← Int32.toInt_inj, Int32.reduceToInt, nI_1, nI_add, pk_sub, nI_toInt] at *); omega), (by (try simp (disch := omega) only [Int32.le_iff_toInt_le, Int32.lt_iff_toInt_lt, ← Int32.toInt_inj, Int32.reduceToInt, nI_1, nI_add, pk_sub, nI_toInt] at *); omega), c25⟩], by unfold d_window; rw [if_pos ⟨c4, (by (try simp (disch := omega) only [Int32.le_iff_toInt_le, Int32.lt_iff_toInt_lt, ← Int32.toInt_inj, Int32.reduceToInt, nI_1, nI_add, pk_sub, nI_toInt] at *); omega), (by (try simp (disch := omega) only [Int32.le_iff_toInt_le, Int32.lt_iff_toInt_lt, ← Int32.toInt_inj, Int32.reduceToInt, nI_1, nI_add, pk_sub, nI_toInt] at *); omega), c25⟩]⟩
        · refine x_iconst a 28 0 d_D_window_28 (by decide) ?_
          exact x_zret a qf 29 d_D_window_29 rfl rfl ⟨by unfold d_window; rw [if_neg (by rintro ⟨z1, z2, z3, z4⟩; first | exact c4 z1 | exact z4 c25 | exact (by (try simp (disch := omega) only [Int32.le_iff_toInt_le, Int32.lt_iff_toInt_lt, ← Int32.toInt_inj, Int32.reduceToInt, nI_1, nI_add, pk_sub, nI_toInt] at *); omega))], by unfold d_window; rw [if_neg (by rintro ⟨z1, z2, z3, z4⟩; first | exact c4 z1 | exact z4 c25 | exact (by (try simp (disch := omega) only [Int32.le_iff_toInt_le, Int32.lt_iff_toInt_lt, ← Int32.toInt_inj, Int32.reduceToInt, nI_1, nI_add, pk_sub, nI_toInt] at *); omega))]⟩
set_option maxRecDepth 100000 in
set_option maxHeartbeats 4000000 in
theorem c_D_port (h : Hp) (f t d : Int32) (hn : Nlt (h 0 4) 7) : Cn u_D_port 1 0 0 (w0 h) [.inr (some 0), .inl f, .inl t, .inl d] (fun v w' => v = some (d_port h f t d).2 ∧ w' = w0 (d_port h f t d).1) := by
  refine Cn.of (by decide +kernel) (Nat.le_of_ble_eq_true rfl) (fun E ad a qf => ?_)
  have qa := qf.2.2.2
  have hcs : 0 ≤ (eR E).cells ∧ 0 ≤ (eR E).slots := ⟨Nat.zero_le _, Nat.zero_le _⟩
  refine x_iload_n a 0 d_D_port_0 rfl ?_
  refine x_callS a qa 1 g_D_42 d_D_port_1 (c_D_isPartition _ _) rfl rfl (by decide) (Nat.le_of_ble_eq_true rfl) hcs (fun v w' hp => ?_)
  obtain ⟨rfl, rfl⟩ := hp
  refine x_st1 ?_
  refine x_ifB_eq a 4 19 d_D_port_4 (by decide) (fun c4 => ?_) (fun c4 => ?_)
  · refine x_iconst a 19 (-1) d_D_port_19 (by decide) ?_
    exact x_iret a qf 20 d_D_port_20 rfl ⟨by unfold d_port; rw [if_neg (by rintro ⟨z1, z2, z3, z4, z5, z6⟩; first | exact c4 z1 | exact c11 z2 | exact z3 c16 | exact (by (try simp (disch := omega) only [Int32.le_iff_toInt_le, Int32.lt_iff_toInt_lt, ← Int32.toInt_inj, Int32.reduceToInt, nI_1, nI_add, pk_sub, nI_toInt] at *); omega))], by unfold d_port; rw [if_neg (by rintro ⟨z1, z2, z3, z4, z5, z6⟩; first | exact c4 z1 | exact c11 z2 | exact z3 c16 | exact (by (try simp (disch := omega) only [Int32.le_iff_toInt_le, Int32.lt_iff_toInt_lt, ← Int32.toInt_inj, Int32.reduceToInt, nI_1, nI_add, pk_sub, nI_toInt] at *); omega))]⟩
  · refine x_iload_n a 7 d_D_port_7 rfl ?_
    refine x_callS a qa 8 g_D_42 d_D_port_8 (c_D_isPartition _ _) rfl rfl (by decide) (Nat.le_of_ble_eq_true rfl) hcs (fun v w' hp => ?_)
    obtain ⟨rfl, rfl⟩ := hp
    refine x_st1 ?_
    refine x_ifB_eq a 11 19 d_D_port_11 (by decide) (fun c11 => ?_) (fun c11 => ?_)
    · refine x_iconst a 19 (-1) d_D_port_19 (by decide) ?_
      exact x_iret a qf 20 d_D_port_20 rfl ⟨by unfold d_port; rw [if_neg (by rintro ⟨z1, z2, z3, z4, z5, z6⟩; first | exact c4 z1 | exact c11 z2 | exact z3 c16 | exact (by (try simp (disch := omega) only [Int32.le_iff_toInt_le, Int32.lt_iff_toInt_lt, ← Int32.toInt_inj, Int32.reduceToInt, nI_1, nI_add, pk_sub, nI_toInt] at *); omega))], by unfold d_port; rw [if_neg (by rintro ⟨z1, z2, z3, z4, z5, z6⟩; first | exact c4 z1 | exact c11 z2 | exact z3 c16 | exact (by (try simp (disch := omega) only [Int32.le_iff_toInt_le, Int32.lt_iff_toInt_lt, ← Int32.toInt_inj, Int32.reduceToInt, nI_1, nI_add, pk_sub, nI_toInt] at *); omega))]⟩
    · refine x_iload_n a 14 d_D_port_14 rfl ?_
      refine x_iload_n a 15 d_D_port_15 rfl ?_
      refine x_icmp_ne a 16 21 d_D_port_16 (by decide) (fun c16 => ?_) (fun c16 => ?_)
      · refine x_iload_n a 21 d_D_port_21 rfl ?_
        refine x_if_lt a 22 39 d_D_port_22 (by decide) (fun c22 => ?_) (fun c22 => ?_)
        · refine x_iconst a 39 (-1) d_D_port_39 (by decide) ?_
          exact x_iret a qf 40 d_D_port_40 rfl ⟨by unfold d_port; rw [if_neg (by rintro ⟨z1, z2, z3, z4, z5, z6⟩; first | exact c4 z1 | exact c11 z2 | exact z3 c16 | exact (by (try simp (disch := omega) only [Int32.le_iff_toInt_le, Int32.lt_iff_toInt_lt, ← Int32.toInt_inj, Int32.reduceToInt, nI_1, nI_add, pk_sub, nI_toInt] at *); omega))], by unfold d_port; rw [if_neg (by rintro ⟨z1, z2, z3, z4, z5, z6⟩; first | exact c4 z1 | exact c11 z2 | exact z3 c16 | exact (by (try simp (disch := omega) only [Int32.le_iff_toInt_le, Int32.lt_iff_toInt_lt, ← Int32.toInt_inj, Int32.reduceToInt, nI_1, nI_add, pk_sub, nI_toInt] at *); omega))]⟩
        · refine x_iload_n a 25 d_D_port_25 rfl ?_
          refine x_iconst a 26 4 d_D_port_26 (by decide) ?_
          refine x_icmp_gt a 27 39 d_D_port_27 (by decide) (fun c27 => ?_) (fun c27 => ?_)
          · refine x_iconst a 39 (-1) d_D_port_39 (by decide) ?_
            exact x_iret a qf 40 d_D_port_40 rfl ⟨by unfold d_port; rw [if_neg (by rintro ⟨z1, z2, z3, z4, z5, z6⟩; first | exact c4 z1 | exact c11 z2 | exact z3 c16 | exact (by (try simp (disch := omega) only [Int32.le_iff_toInt_le, Int32.lt_iff_toInt_lt, ← Int32.toInt_inj, Int32.reduceToInt, nI_1, nI_add, pk_sub, nI_toInt] at *); omega))], by unfold d_port; rw [if_neg (by rintro ⟨z1, z2, z3, z4, z5, z6⟩; first | exact c4 z1 | exact c11 z2 | exact z3 c16 | exact (by (try simp (disch := omega) only [Int32.le_iff_toInt_le, Int32.lt_iff_toInt_lt, ← Int32.toInt_inj, Int32.reduceToInt, nI_1, nI_add, pk_sub, nI_toInt] at *); omega))]⟩
          · refine x_aload_n a 30 d_D_port_30 rfl ?_
            refine x_getI a 31 f_D_34 d_D_port_31 rfl (by omega) (by decide) rfl ?_
            refine x_bipush a 34 6 d_D_port_34 (by decide) ?_
            refine x_icmp_lt a 36 41 d_D_port_36 (by decide) (fun c36 => ?_) (fun c36 => ?_)
            · have hn6 : tn (h 0 4) < 6 := by have h1 := hn.1; have h2 := hn.2; rw [h2] at c36; exact (by (try simp (disch := omega) only [Int32.le_iff_toInt_le, Int32.lt_iff_toInt_lt, ← Int32.toInt_inj, Int32.reduceToInt, nI_1, nI_add, pk_sub, nI_toInt] at *); omega)
              refine x_aload_n a 41 d_D_port_41 rfl ?_
              refine x_getI a 42 f_D_34 d_D_port_42 rfl (by omega) (by decide) rfl ?_
              refine x_istore a 45 d_D_port_45 (by decide) ?_
              refine x_aload_n a 47 d_D_port_47 rfl ?_
              refine x_getR a 48 f_D_22 d_D_port_48 rfl (by omega) (by decide) rfl ?_
              refine x_iload a 51 d_D_port_51 rfl ?_
              refine x_aald3 a 53 d_D_port_53 rfl (by omega) (j := tn (h 0 4)) hn.2 hn6 (by decide) (rQs (by omega)) ?_
              refine x_iload_n a 54 d_D_port_54 rfl ?_
              refine x_putI a 55 f_D_60 d_D_port_55 (kQ (by omega)) (by omega) (by decide) rfl rfl rfl ?_
              refine x_aload_n a 58 d_D_port_58 rfl ?_
              refine x_getR a 59 f_D_22 d_D_port_59 rfl (by omega) (by decide) rfl ?_
              refine x_iload a 62 d_D_port_62 rfl ?_
              refine x_aald3 a 64 d_D_port_64 rfl (by omega) (j := tn (h 0 4)) hn.2 hn6 (by decide) (rQs (by omega)) ?_
              refine x_iload_n a 65 d_D_port_65 rfl ?_
              refine x_putI a 66 f_D_61 d_D_port_66 (kQ (by omega)) (by omega) (by decide) rfl rfl rfl ?_
              refine x_aload_n a 69 d_D_port_69 rfl ?_
              refine x_getR a 70 f_D_22 d_D_port_70 rfl (by omega) (by decide) rfl ?_
              refine x_iload a 73 d_D_port_73 rfl ?_
              refine x_aald3 a 75 d_D_port_75 rfl (by omega) (j := tn (h 0 4)) hn.2 hn6 (by decide) (rQs (by omega)) ?_
              refine x_iload_n a 76 d_D_port_76 rfl ?_
              refine x_putI a 77 f_D_64 d_D_port_77 (kQ (by omega)) (by omega) (by decide) rfl rfl rfl ?_
              refine x_aload_n a 80 d_D_port_80 rfl ?_
              refine x_dup a 81 d_D_port_81 ?_
              refine x_getI a 82 f_D_34 d_D_port_82 rfl (by omega) (by decide) (v := h 0 4) (by rw [up2_o _ _ _ (by omega), up2_o _ _ _ (by omega), up2_o _ _ _ (by omega)]) ?_
              refine x_iconst a 85 1 d_D_port_85 (by decide) ?_
              refine x_iadd a 86 d_D_port_86 ?_
              refine x_putI a 87 f_D_34 d_D_port_87 rfl (by omega) (by decide) rfl rfl rfl ?_
              refine x_aload_n a 90 d_D_port_90 rfl ?_
              refine x_iconst a 91 0 d_D_port_91 (by decide) ?_
              refine x_putI a 92 f_D_38 d_D_port_92 rfl (by omega) (by decide) rfl rfl rfl ?_
              refine x_iload a 95 d_D_port_95 rfl ?_
              exact x_iret a qf 97 d_D_port_97 rfl ⟨by unfold d_port; rw [if_pos ⟨c4, c11, c16, (by (try simp (disch := omega) only [Int32.le_iff_toInt_le, Int32.lt_iff_toInt_lt, ← Int32.toInt_inj, Int32.reduceToInt, nI_1, nI_add, pk_sub, nI_toInt] at *); omega), (by (try simp (disch := omega) only [Int32.le_iff_toInt_le, Int32.lt_iff_toInt_lt, ← Int32.toInt_inj, Int32.reduceToInt, nI_1, nI_add, pk_sub, nI_toInt] at *); omega), c36⟩], by unfold d_port; rw [if_pos ⟨c4, c11, c16, (by (try simp (disch := omega) only [Int32.le_iff_toInt_le, Int32.lt_iff_toInt_lt, ← Int32.toInt_inj, Int32.reduceToInt, nI_1, nI_add, pk_sub, nI_toInt] at *); omega), (by (try simp (disch := omega) only [Int32.le_iff_toInt_le, Int32.lt_iff_toInt_lt, ← Int32.toInt_inj, Int32.reduceToInt, nI_1, nI_add, pk_sub, nI_toInt] at *); omega), c36⟩]⟩
            · refine x_iconst a 39 (-1) d_D_port_39 (by decide) ?_
              exact x_iret a qf 40 d_D_port_40 rfl ⟨by unfold d_port; rw [if_neg (by rintro ⟨z1, z2, z3, z4, z5, z6⟩; first | exact c4 z1 | exact c11 z2 | exact z3 c16 | exact (by (try simp (disch := omega) only [Int32.le_iff_toInt_le, Int32.lt_iff_toInt_lt, ← Int32.toInt_inj, Int32.reduceToInt, nI_1, nI_add, pk_sub, nI_toInt] at *); omega))], by unfold d_port; rw [if_neg (by rintro ⟨z1, z2, z3, z4, z5, z6⟩; first | exact c4 z1 | exact c11 z2 | exact z3 c16 | exact (by (try simp (disch := omega) only [Int32.le_iff_toInt_le, Int32.lt_iff_toInt_lt, ← Int32.toInt_inj, Int32.reduceToInt, nI_1, nI_add, pk_sub, nI_toInt] at *); omega))]⟩
      · refine x_iconst a 19 (-1) d_D_port_19 (by decide) ?_
        exact x_iret a qf 20 d_D_port_20 rfl ⟨by unfold d_port; rw [if_neg (by rintro ⟨z1, z2, z3, z4, z5, z6⟩; first | exact c4 z1 | exact c11 z2 | exact z3 c16 | exact (by (try simp (disch := omega) only [Int32.le_iff_toInt_le, Int32.lt_iff_toInt_lt, ← Int32.toInt_inj, Int32.reduceToInt, nI_1, nI_add, pk_sub, nI_toInt] at *); omega))], by unfold d_port; rw [if_neg (by rintro ⟨z1, z2, z3, z4, z5, z6⟩; first | exact c4 z1 | exact c11 z2 | exact z3 c16 | exact (by (try simp (disch := omega) only [Int32.le_iff_toInt_le, Int32.lt_iff_toInt_lt, ← Int32.toInt_inj, Int32.reduceToInt, nI_1, nI_add, pk_sub, nI_toInt] at *); omega))]⟩
set_option maxRecDepth 100000 in
set_option maxHeartbeats 4000000 in
theorem c_D_action (h : Hp) (p f x : Int32) : Cn u_D_action 1 0 0 (w0 h) [.inr (some 0), .inl p, .inl f, .inl x] (fun v w' => v = some (d_action h p f x).2 ∧ w' = w0 (d_action h p f x).1) := by
  refine Cn.of (by decide +kernel) (Nat.le_of_ble_eq_true rfl) (fun E ad a qf => ?_)
  have qa := qf.2.2.2
  have hcs : 0 ≤ (eR E).cells ∧ 0 ≤ (eR E).slots := ⟨Nat.zero_le _, Nat.zero_le _⟩
  refine x_iload_n a 0 d_D_action_0 rfl ?_
  refine x_callS a qa 1 g_D_42 d_D_action_1 (c_D_isPartition _ _) rfl rfl (by decide) (Nat.le_of_ble_eq_true rfl) hcs (fun v w' hp => ?_)
  obtain ⟨rfl, rfl⟩ := hp
  refine x_st1 ?_
  refine x_ifB_eq a 4 26 d_D_action_4 (by decide) (fun c4 => ?_) (fun c4 => ?_)
  · refine x_iconst a 26 0 d_D_action_26 (by decide) ?_
    exact x_zret a qf 27 d_D_action_27 rfl rfl ⟨by unfold d_action; rw [if_neg (by rintro ⟨z1, z2⟩; first | exact c4 z1 | exact (by (try simp (disch := omega) only [Int32.le_iff_toInt_le, Int32.lt_iff_toInt_lt, ← Int32.toInt_inj, Int32.reduceToInt, nI_1, nI_add, pk_sub, nI_toInt] at *); omega))], by unfold d_action; rw [if_neg (by rintro ⟨z1, z2⟩; first | exact c4 z1 | exact (by (try simp (disch := omega) only [Int32.le_iff_toInt_le, Int32.lt_iff_toInt_lt, ← Int32.toInt_inj, Int32.reduceToInt, nI_1, nI_add, pk_sub, nI_toInt] at *); omega))]⟩
  · refine x_iload_n a 7 d_D_action_7 rfl ?_
    refine x_iconst a 8 1 d_D_action_8 (by decide) ?_
    refine x_icmp_lt a 9 26 d_D_action_9 (by decide) (fun c9 => ?_) (fun c9 => ?_)
    · refine x_iconst a 26 0 d_D_action_26 (by decide) ?_
      exact x_zret a qf 27 d_D_action_27 rfl rfl ⟨by unfold d_action; rw [if_neg (by rintro ⟨z1, z2⟩; first | exact c4 z1 | exact (by (try simp (disch := omega) only [Int32.le_iff_toInt_le, Int32.lt_iff_toInt_lt, ← Int32.toInt_inj, Int32.reduceToInt, nI_1, nI_add, pk_sub, nI_toInt] at *); omega))], by unfold d_action; rw [if_neg (by rintro ⟨z1, z2⟩; first | exact c4 z1 | exact (by (try simp (disch := omega) only [Int32.le_iff_toInt_le, Int32.lt_iff_toInt_lt, ← Int32.toInt_inj, Int32.reduceToInt, nI_1, nI_add, pk_sub, nI_toInt] at *); omega))]⟩
    · refine x_iload_n a 12 d_D_action_12 rfl ?_
      refine x_iconst a 13 4 d_D_action_13 (by decide) ?_
      refine x_icmp_gt a 14 26 d_D_action_14 (by decide) (fun c14 => ?_) (fun c14 => ?_)
      · refine x_iconst a 26 0 d_D_action_26 (by decide) ?_
        exact x_zret a qf 27 d_D_action_27 rfl rfl ⟨by unfold d_action; rw [if_neg (by rintro ⟨z1, z2⟩; first | exact c4 z1 | exact (by (try simp (disch := omega) only [Int32.le_iff_toInt_le, Int32.lt_iff_toInt_lt, ← Int32.toInt_inj, Int32.reduceToInt, nI_1, nI_add, pk_sub, nI_toInt] at *); omega))], by unfold d_action; rw [if_neg (by rintro ⟨z1, z2⟩; first | exact c4 z1 | exact (by (try simp (disch := omega) only [Int32.le_iff_toInt_le, Int32.lt_iff_toInt_lt, ← Int32.toInt_inj, Int32.reduceToInt, nI_1, nI_add, pk_sub, nI_toInt] at *); omega))]⟩
      · refine x_iload_n a 17 d_D_action_17 rfl ?_
        refine x_if_lt a 18 26 d_D_action_18 (by decide) (fun c18 => ?_) (fun c18 => ?_)
        · refine x_iconst a 26 0 d_D_action_26 (by decide) ?_
          exact x_zret a qf 27 d_D_action_27 rfl rfl ⟨by unfold d_action; rw [if_neg (by rintro ⟨z1, z2⟩; first | exact c4 z1 | exact (by (try simp (disch := omega) only [Int32.le_iff_toInt_le, Int32.lt_iff_toInt_lt, ← Int32.toInt_inj, Int32.reduceToInt, nI_1, nI_add, pk_sub, nI_toInt] at *); omega))], by unfold d_action; rw [if_neg (by rintro ⟨z1, z2⟩; first | exact c4 z1 | exact (by (try simp (disch := omega) only [Int32.le_iff_toInt_le, Int32.lt_iff_toInt_lt, ← Int32.toInt_inj, Int32.reduceToInt, nI_1, nI_add, pk_sub, nI_toInt] at *); omega))]⟩
        · refine x_iload_n a 21 d_D_action_21 rfl ?_
          refine x_iconst a 22 2 d_D_action_22 (by decide) ?_
          refine x_icmp_le a 23 28 d_D_action_23 (by decide) (fun c23 => ?_) (fun c23 => ?_)
          · obtain ⟨j, hj, rfl⟩ := vp_in_of (x := p) (n := 4) (vp_in_iff.mpr (by (try simp (disch := omega) only [Int32.le_iff_toInt_le, Int32.lt_iff_toInt_lt, ← Int32.toInt_inj, Int32.reduceToInt, nI_1, nI_add, pk_sub, nI_toInt] at *); omega)) (by decide)
            obtain ⟨i, hi, rfl⟩ := vp_in_of (x := f) (n := 5) (vp_in_iff.mpr (by (try simp (disch := omega) only [Int32.le_iff_toInt_le, Int32.lt_iff_toInt_lt, ← Int32.toInt_inj, Int32.reduceToInt, nI_1, nI_add, pk_sub, nI_toInt] at *); omega)) (by decide)
            have hi1 : 1 ≤ i := (by (try simp (disch := omega) only [Int32.le_iff_toInt_le, Int32.lt_iff_toInt_lt, ← Int32.toInt_inj, Int32.reduceToInt, nI_1, nI_add, pk_sub, nI_toInt] at *); omega)
            refine x_aload_n a 28 d_D_action_28 rfl ?_
            refine x_getR a 29 f_D_15 d_D_action_29 rfl (by omega) (by decide) rfl ?_
            refine x_iload_n a 32 d_D_action_32 rfl ?_
            refine x_aald2 a 33 d_D_action_33 rfl (by omega) (j := j) rfl hj (by decide) (rPs (by omega)) ?_
            refine x_getR a 34 f_D_67 d_D_action_34 (kP (by omega)) (by omega) (by decide) (rP3 (by omega)) ?_
            refine x_iload_n a 37 d_D_action_37 rfl ?_
            refine x_iconst a 38 1 d_D_action_38 (by decide) ?_
            refine x_isub a 39 d_D_action_39 ?_
            refine x_iload_n a 40 d_D_action_40 rfl ?_
            refine x_iast a 41 d_D_action_41 (kA7 (by omega)) (by omega) (j := i - 1) (pk_sub (b := 1) hi1) (by omega) (by decide) ?_
            refine x_aload_n a 42 d_D_action_42 rfl ?_
            refine x_iconst a 43 0 d_D_action_43 (by decide) ?_
            refine x_putI a 44 f_D_38 d_D_action_44 rfl (by omega) (by decide) rfl rfl rfl ?_
            refine x_iconst a 47 1 d_D_action_47 (by decide) ?_
            exact x_zret a qf 48 d_D_action_48 rfl rfl ⟨by unfold d_action; rw [if_pos ⟨c4, (by (try simp (disch := omega) only [Int32.le_iff_toInt_le, Int32.lt_iff_toInt_lt, ← Int32.toInt_inj, Int32.reduceToInt, nI_1, nI_add, pk_sub, nI_toInt] at *); omega)⟩], by unfold d_action; rw [if_pos ⟨c4, (by (try simp (disch := omega) only [Int32.le_iff_toInt_le, Int32.lt_iff_toInt_lt, ← Int32.toInt_inj, Int32.reduceToInt, nI_1, nI_add, pk_sub, nI_toInt] at *); omega)⟩, tn_nI (k := j) (by omega), tn_nI (k := i) (by omega)]⟩
          · refine x_iconst a 26 0 d_D_action_26 (by decide) ?_
            exact x_zret a qf 27 d_D_action_27 rfl rfl ⟨by unfold d_action; rw [if_neg (by rintro ⟨z1, z2⟩; first | exact c4 z1 | exact (by (try simp (disch := omega) only [Int32.le_iff_toInt_le, Int32.lt_iff_toInt_lt, ← Int32.toInt_inj, Int32.reduceToInt, nI_1, nI_add, pk_sub, nI_toInt] at *); omega))], by unfold d_action; rw [if_neg (by rintro ⟨z1, z2⟩; first | exact c4 z1 | exact (by (try simp (disch := omega) only [Int32.le_iff_toInt_le, Int32.lt_iff_toInt_lt, ← Int32.toInt_inj, Int32.reduceToInt, nI_1, nI_add, pk_sub, nI_toInt] at *); omega))]⟩
set_option maxRecDepth 100000 in
set_option maxHeartbeats 4000000 in
theorem c_D_code (h : Hp) (p i o x b : Int32) : Cn u_D_code 1 0 0 (w0 h) [.inr (some 0), .inl p, .inl i, .inl o, .inl x, .inl b] (fun v w' => v = some (d_code h p i o x b).2 ∧ w' = w0 (d_code h p i o x b).1) := by
  refine Cn.of (by decide +kernel) (Nat.le_of_ble_eq_true rfl) (fun E ad a qf => ?_)
  have qa := qf.2.2.2
  have hcs : 0 ≤ (eR E).cells ∧ 0 ≤ (eR E).slots := ⟨Nat.zero_le _, Nat.zero_le _⟩
  refine x_iload_n a 0 d_D_code_0 rfl ?_
  refine x_callS a qa 1 g_D_42 d_D_code_1 (c_D_isPartition _ _) rfl rfl (by decide) (Nat.le_of_ble_eq_true rfl) hcs (fun v w' hp => ?_)
  obtain ⟨rfl, rfl⟩ := hp
  refine x_st1 ?_
  refine x_ifB_eq a 4 17 d_D_code_4 (by decide) (fun c4 => ?_) (fun c4 => ?_)
  · refine x_iconst a 17 0 d_D_code_17 (by decide) ?_
    exact x_zret a qf 18 d_D_code_18 rfl rfl ⟨by unfold d_code; rw [if_neg (by rintro ⟨z1, z2⟩; first | exact c4 z1 | exact (by (try simp (disch := omega) only [Int32.le_iff_toInt_le, Int32.lt_iff_toInt_lt, ← Int32.toInt_inj, Int32.reduceToInt, nI_1, nI_add, pk_sub, nI_toInt] at *); omega))], by unfold d_code; rw [if_neg (by rintro ⟨z1, z2⟩; first | exact c4 z1 | exact (by (try simp (disch := omega) only [Int32.le_iff_toInt_le, Int32.lt_iff_toInt_lt, ← Int32.toInt_inj, Int32.reduceToInt, nI_1, nI_add, pk_sub, nI_toInt] at *); omega))]⟩
  · refine x_iload_n a 7 d_D_code_7 rfl ?_
    refine x_if_lt a 8 17 d_D_code_8 (by decide) (fun c8 => ?_) (fun c8 => ?_)
    · refine x_iconst a 17 0 d_D_code_17 (by decide) ?_
      exact x_zret a qf 18 d_D_code_18 rfl rfl ⟨by unfold d_code; rw [if_neg (by rintro ⟨z1, z2⟩; first | exact c4 z1 | exact (by (try simp (disch := omega) only [Int32.le_iff_toInt_le, Int32.lt_iff_toInt_lt, ← Int32.toInt_inj, Int32.reduceToInt, nI_1, nI_add, pk_sub, nI_toInt] at *); omega))], by unfold d_code; rw [if_neg (by rintro ⟨z1, z2⟩; first | exact c4 z1 | exact (by (try simp (disch := omega) only [Int32.le_iff_toInt_le, Int32.lt_iff_toInt_lt, ← Int32.toInt_inj, Int32.reduceToInt, nI_1, nI_add, pk_sub, nI_toInt] at *); omega))]⟩
    · refine x_iload_n a 11 d_D_code_11 rfl ?_
      refine x_bipush a 12 16 d_D_code_12 (by decide) ?_
      refine x_icmp_lt a 14 19 d_D_code_14 (by decide) (fun c14 => ?_) (fun c14 => ?_)
      · obtain ⟨j, hj, rfl⟩ := vp_in_of (x := p) (n := 4) (vp_in_iff.mpr (by (try simp (disch := omega) only [Int32.le_iff_toInt_le, Int32.lt_iff_toInt_lt, ← Int32.toInt_inj, Int32.reduceToInt, nI_1, nI_add, pk_sub, nI_toInt] at *); omega)) (by decide)
        obtain ⟨k, hk, rfl⟩ := vp_in_of (x := i) (n := 16) (vp_in_iff.mpr (by (try simp (disch := omega) only [Int32.le_iff_toInt_le, Int32.lt_iff_toInt_lt, ← Int32.toInt_inj, Int32.reduceToInt, nI_1, nI_add, pk_sub, nI_toInt] at *); omega)) (by decide)
        refine x_aload_n a 19 d_D_code_19 rfl ?_
        refine x_getR a 20 f_D_15 d_D_code_20 rfl (by omega) (by decide) rfl ?_
        refine x_iload_n a 23 d_D_code_23 rfl ?_
        refine x_aald2 a 24 d_D_code_24 rfl (by omega) (j := j) rfl hj (by decide) (rPs (by omega)) ?_
        refine x_getR a 25 f_D_70 d_D_code_25 (kP (by omega)) (by omega) (by decide) (rP0 (by omega)) ?_
        refine x_iload_n a 28 d_D_code_28 rfl ?_
        refine x_iload_n a 29 d_D_code_29 rfl ?_
        refine x_iast a 30 d_D_code_30 (kA4 (by omega)) (by omega) (j := k) rfl hk (by decide) ?_
        refine x_aload_n a 31 d_D_code_31 rfl ?_
        refine x_getR a 32 f_D_15 d_D_code_32 rfl (by omega) (by decide) rfl ?_
        refine x_iload_n a 35 d_D_code_35 rfl ?_
        refine x_aald2 a 36 d_D_code_36 rfl (by omega) (j := j) rfl hj (by decide) (rPs (by omega)) ?_
        refine x_getR a 37 f_D_73 d_D_code_37 (kP (by omega)) (by omega) (by decide) (rP1 (by omega)) ?_
        refine x_iload_n a 40 d_D_code_40 rfl ?_
        refine x_iload a 41 d_D_code_41 rfl ?_
        refine x_iast a 43 d_D_code_43 (kA5 (by omega)) (by omega) (j := k) rfl hk (by decide) ?_
        refine x_aload_n a 44 d_D_code_44 rfl ?_
        refine x_getR a 45 f_D_15 d_D_code_45 rfl (by omega) (by decide) rfl ?_
        refine x_iload_n a 48 d_D_code_48 rfl ?_
        refine x_aald2 a 49 d_D_code_49 rfl (by omega) (j := j) rfl hj (by decide) (rPs (by omega)) ?_
        refine x_getR a 50 f_D_76 d_D_code_50 (kP (by omega)) (by omega) (by decide) (rP2 (by omega)) ?_
        refine x_iload_n a 53 d_D_code_53 rfl ?_
        refine x_iload a 54 d_D_code_54 rfl ?_
        refine x_iast a 56 d_D_code_56 (kA6 (by omega)) (by omega) (j := k) rfl hk (by decide) ?_
        refine x_aload_n a 57 d_D_code_57 rfl ?_
        refine x_iconst a 58 0 d_D_code_58 (by decide) ?_
        refine x_putI a 59 f_D_38 d_D_code_59 rfl (by omega) (by decide) rfl rfl rfl ?_
        refine x_iconst a 62 1 d_D_code_62 (by decide) ?_
        exact x_zret a qf 63 d_D_code_63 rfl rfl ⟨by unfold d_code; rw [if_pos ⟨c4, (by (try simp (disch := omega) only [Int32.le_iff_toInt_le, Int32.lt_iff_toInt_lt, ← Int32.toInt_inj, Int32.reduceToInt, nI_1, nI_add, pk_sub, nI_toInt] at *); omega)⟩], by unfold d_code; rw [if_pos ⟨c4, (by (try simp (disch := omega) only [Int32.le_iff_toInt_le, Int32.lt_iff_toInt_lt, ← Int32.toInt_inj, Int32.reduceToInt, nI_1, nI_add, pk_sub, nI_toInt] at *); omega)⟩, tn_nI (k := j) (by omega), tn_nI (k := k) (by omega)]⟩
      · refine x_iconst a 17 0 d_D_code_17 (by decide) ?_
        exact x_zret a qf 18 d_D_code_18 rfl rfl ⟨by unfold d_code; rw [if_neg (by rintro ⟨z1, z2⟩; first | exact c4 z1 | exact (by (try simp (disch := omega) only [Int32.le_iff_toInt_le, Int32.lt_iff_toInt_lt, ← Int32.toInt_inj, Int32.reduceToInt, nI_1, nI_add, pk_sub, nI_toInt] at *); omega))], by unfold d_code; rw [if_neg (by rintro ⟨z1, z2⟩; first | exact c4 z1 | exact (by (try simp (disch := omega) only [Int32.le_iff_toInt_le, Int32.lt_iff_toInt_lt, ← Int32.toInt_inj, Int32.reduceToInt, nI_1, nI_add, pk_sub, nI_toInt] at *); omega))]⟩
set_option maxRecDepth 100000 in
set_option maxHeartbeats 4000000 in
theorem c_D_start (h : Hp) (I : IC h) : Cn u_D_start 4 0 0 (w0 h) [.inr (some 0)] (fun v w' => ∃ x, v = some x ∧ dWrong h (tn (h 58 2)) (tn (h 0 4)) x ∧ w' = w0 (if x = 0 then d_begin h (tn (h 0 4)) else h)) := by
  refine Cn.of (by decide +kernel) (Nat.le_of_ble_eq_true rfl) (fun E ad a qf => ?_)
  have qa := qf.2.2.2
  have hcs : 0 ≤ (eR E).cells ∧ 0 ≤ (eR E).slots := ⟨Nat.zero_le _, Nat.zero_le _⟩
  refine x_aload_n a 0 d_D_start_0 rfl ?_
  refine x_callV a qa 1 g_D_79 d_D_start_1 (c_D_checkTable _ I.w.2 (Nat.le_of_lt_succ I.w.1) I.n.2 (Nat.le_of_lt_succ I.n.1) I.s) rfl rfl rfl (show _ < 86 by omega) (by decide) (Nat.le_of_ble_eq_true rfl) hcs (fun v w' hp => ?_)
  obtain ⟨rfl, x, rfl, hx⟩ := hp
  refine x_st1 ?_
  refine x_istore_n a 4 d_D_start_4 (by decide) ?_
  refine x_iload_n a 5 d_D_start_5 rfl ?_
  refine x_if_ne a 6 13 d_D_start_6 (by decide) (fun c6 => ?_) (fun c6 => ?_)
  · refine x_iload_n a 13 d_D_start_13 rfl ?_
    exact x_iret a qf 14 d_D_start_14 rfl ⟨x, rfl, hx, by first | (rw [if_pos c6]; done) | (rw [if_neg c6]; done)⟩
  · refine x_aload_n a 9 d_D_start_9 rfl ?_
    refine x_callV a qa 10 g_D_83 d_D_start_10 (c_D_beginAnew _ I.n.2 (Nat.le_of_lt_succ I.n.1)) rfl rfl rfl (show _ < 86 by omega) (by decide) (Nat.le_of_ble_eq_true rfl) hcs (fun v w' hp => ?_)
    obtain ⟨rfl, rfl⟩ := hp
    refine x_st0 ?_
    refine x_iload_n a 13 d_D_start_13 rfl ?_
    exact x_iret a qf 14 d_D_start_14 rfl ⟨x, rfl, hx, by first | (rw [if_pos c6]; done) | (rw [if_neg c6]; done)⟩
set_option maxRecDepth 100000 in
set_option maxHeartbeats 4000000 in
theorem c_D_input (h : Hp) (I : IC h) (p x : Int32) : Cn u_D_input 1 0 0 (w0 h) [.inr (some 0), .inl p, .inl x] (fun v w' => v = some (d_input h p x).2 ∧ w' = w0 (d_input h p x).1) := by
  refine Cn.of (by decide +kernel) (Nat.le_of_ble_eq_true rfl) (fun E ad a qf => ?_)
  have qa := qf.2.2.2
  have hcs : 0 ≤ (eR E).cells ∧ 0 ≤ (eR E).slots := ⟨Nat.zero_le _, Nat.zero_le _⟩
  refine x_iload_n a 0 d_D_input_0 rfl ?_
  refine x_callS a qa 1 g_D_42 d_D_input_1 (c_D_isPartition _ _) rfl rfl (by decide) (Nat.le_of_ble_eq_true rfl) hcs (fun v w' hp => ?_)
  obtain ⟨rfl, rfl⟩ := hp
  refine x_st1 ?_
  refine x_ifB_ne a 4 9 d_D_input_4 (by decide) (fun c4 => ?_) (fun c4 => ?_)
  · obtain ⟨j, hj, rfl⟩ := vp_in_of (x := p) (n := 4) (vp_in_iff.mpr (by (try simp (disch := omega) only [Int32.le_iff_toInt_le, Int32.lt_iff_toInt_lt, ← Int32.toInt_inj, Int32.reduceToInt, nI_1, nI_add, pk_sub, nI_toInt] at *); omega)) (by decide)
    refine x_aload_n a 9 d_D_input_9 rfl ?_
    refine x_getR a 10 f_D_15 d_D_input_10 rfl (by omega) (by decide) rfl ?_
    refine x_iload_n a 13 d_D_input_13 rfl ?_
    refine x_aald2 a 14 d_D_input_14 rfl (by omega) (j := j) rfl hj (by decide) (rPs (by omega)) ?_
    refine x_getR a 15 f_D_86 d_D_input_15 (kP (by omega)) (by omega) (by decide) (rP5 (by omega)) ?_
    refine x_astore_n a 18 d_D_input_18 (by decide) ?_
    refine x_aload_n a 19 d_D_input_19 rfl ?_
    refine x_iload_n a 20 d_D_input_20 rfl ?_
    refine x_bipush a 21 8 d_D_input_21 (by decide) ?_
    refine x_callV a qa 23 g_D_90 d_D_input_23 (c_V_put _ (vq9 hj) (I.p hj).1.2 (I.p hj).1.1 (I.p hj).2.1.2 (Nat.le_of_lt_succ (I.p hj).2.1.1) _ (lim := 8) (by decide)) rfl rfl (kV9 (by omega)) (show _ < 86 by omega) (by decide) (Nat.le_of_ble_eq_true rfl) hcs (fun v w' hp => ?_)
    obtain ⟨rfl, rfl⟩ := hp
    refine x_st1 ?_
    refine x_ifB_eq a 26 36 d_D_input_26 (by decide) (fun c26 => ?_) (fun c26 => ?_)
    · refine x_iconst a 36 (-1) d_D_input_36 (by decide) ?_
      exact x_iret a qf 37 d_D_input_37 rfl ⟨by unfold d_input; rw [tn_nI (k := j) (by omega), if_neg (fun z => c26 ⟨z.2, z.2⟩)], by unfold d_input; rw [if_neg c26, tn_nI (k := j) (by omega), if_neg (fun z => c26 ⟨z.2, z.2⟩)]⟩
    · refine x_aload_n a 29 d_D_input_29 rfl ?_
      refine x_getI a 30 f_D_96 d_D_input_30 (kV9 (by omega)) (by omega) (by decide) (v := nI (tn (h (9 + 9 * j) 2) + 1)) (by rw [if_pos c26, up2_s]) ?_
      refine x_goto a 33 37 d_D_input_33 (by decide) ?_
      exact x_iret a qf 37 d_D_input_37 rfl ⟨by unfold d_input; rw [tn_nI (k := j) (by omega), if_pos ⟨c4, c26.1⟩], by unfold d_input; rw [if_pos c26, tn_nI (k := j) (by omega), if_pos ⟨c4, c26.1⟩]⟩
  · refine x_iconst a 7 (-1) d_D_input_7 (by decide) ?_
    exact x_iret a qf 8 d_D_input_8 rfl ⟨by unfold d_input; rw [if_neg (by rintro ⟨z1, z2⟩; exact c4 z1)], by unfold d_input; rw [if_neg (by rintro ⟨z1, z2⟩; exact c4 z1)]⟩
set_option maxRecDepth 100000 in
set_option maxHeartbeats 4000000 in
theorem c_D_output (h : Hp) (p x : Int32) : Cn u_D_output 1 0 0 (w0 h) [.inr (some 0), .inl p, .inl x] (fun v w' => v = some (d_output h p x) ∧ w' = w0 h) := by
  refine Cn.of (by decide +kernel) (Nat.le_of_ble_eq_true rfl) (fun E ad a qf => ?_)
  have qa := qf.2.2.2
  have hcs : 0 ≤ (eR E).cells ∧ 0 ≤ (eR E).slots := ⟨Nat.zero_le _, Nat.zero_le _⟩
  refine x_iload_n a 0 d_D_output_0 rfl ?_
  refine x_callS a qa 1 g_D_42 d_D_output_1 (c_D_isPartition _ _) rfl rfl (by decide) (Nat.le_of_ble_eq_true rfl) hcs (fun v w' hp => ?_)
  obtain ⟨rfl, rfl⟩ := hp
  refine x_st1 ?_
  refine x_ifB_eq a 4 20 d_D_output_4 (by decide) (fun c4 => ?_) (fun c4 => ?_)
  · refine x_iconst a 20 0 d_D_output_20 (by decide) ?_
    exact x_iret a qf 21 d_D_output_21 rfl ⟨by unfold d_output; rw [if_neg c4], rfl⟩
  · obtain ⟨j, hj, rfl⟩ := vp_in_of (x := p) (n := 4) (vp_in_iff.mpr (by (try simp (disch := omega) only [Int32.le_iff_toInt_le, Int32.lt_iff_toInt_lt, ← Int32.toInt_inj, Int32.reduceToInt, nI_1, nI_add, pk_sub, nI_toInt] at *); omega)) (by decide)
    refine x_aload_n a 7 d_D_output_7 rfl ?_
    refine x_getR a 8 f_D_15 d_D_output_8 rfl (by omega) (by decide) rfl ?_
    refine x_iload_n a 11 d_D_output_11 rfl ?_
    refine x_aald2 a 12 d_D_output_12 rfl (by omega) (j := j) rfl hj (by decide) (rPs (by omega)) ?_
    refine x_iload_n a 13 d_D_output_13 rfl ?_
    refine x_callV a qa 14 g_D_102 d_D_output_14 (c_P_outputAt _ hj _) rfl rfl (kP (by omega)) (show _ < 86 by omega) (by decide) (Nat.le_of_ble_eq_true rfl) hcs (fun v w' hp => ?_)
    obtain ⟨rfl, rfl⟩ := hp
    refine x_st1 ?_
    refine x_goto a 17 21 d_D_output_17 (by decide) ?_
    exact x_iret a qf 21 d_D_output_21 rfl ⟨by unfold d_output; rw [if_pos c4, tn_nI (k := j) (by omega)], rfl⟩
set_option maxRecDepth 100000 in
set_option maxHeartbeats 4000000 in
theorem c_D_about (h : Hp) (p x : Int32) : Cn u_D_about 1 0 0 (w0 h) [.inr (some 0), .inl p, .inl x] (fun v w' => v = some (d_about h p x) ∧ w' = w0 h) := by
  refine Cn.of (by decide +kernel) (Nat.le_of_ble_eq_true rfl) (fun E ad a qf => ?_)
  have qa := qf.2.2.2
  have hcs : 0 ≤ (eR E).cells ∧ 0 ≤ (eR E).slots := ⟨Nat.zero_le _, Nat.zero_le _⟩
  refine x_iload_n a 0 d_D_about_0 rfl ?_
  refine x_callS a qa 1 g_D_42 d_D_about_1 (c_D_isPartition _ _) rfl rfl (by decide) (Nat.le_of_ble_eq_true rfl) hcs (fun v w' hp => ?_)
  obtain ⟨rfl, rfl⟩ := hp
  refine x_st1 ?_
  refine x_ifB_eq a 4 20 d_D_about_4 (by decide) (fun c4 => ?_) (fun c4 => ?_)
  · refine x_iconst a 20 (-1) d_D_about_20 (by decide) ?_
    exact x_iret a qf 21 d_D_about_21 rfl ⟨by unfold d_about; rw [if_neg c4], rfl⟩
  · obtain ⟨j, hj, rfl⟩ := vp_in_of (x := p) (n := 4) (vp_in_iff.mpr (by (try simp (disch := omega) only [Int32.le_iff_toInt_le, Int32.lt_iff_toInt_lt, ← Int32.toInt_inj, Int32.reduceToInt, nI_1, nI_add, pk_sub, nI_toInt] at *); omega)) (by decide)
    refine x_aload_n a 7 d_D_about_7 rfl ?_
    refine x_getR a 8 f_D_15 d_D_about_8 rfl (by omega) (by decide) rfl ?_
    refine x_iload_n a 11 d_D_about_11 rfl ?_
    refine x_aald2 a 12 d_D_about_12 rfl (by omega) (j := j) rfl hj (by decide) (rPs (by omega)) ?_
    refine x_iload_n a 13 d_D_about_13 rfl ?_
    refine x_callV a qa 14 g_D_106 d_D_about_14 (c_P_tell _ hj _) rfl rfl (kP (by omega)) (show _ < 86 by omega) (by decide) (Nat.le_of_ble_eq_true rfl) hcs (fun v w' hp => ?_)
    obtain ⟨rfl, rfl⟩ := hp
    refine x_st1 ?_
    refine x_goto a 17 21 d_D_about_17 (by decide) ?_
    exact x_iret a qf 21 d_D_about_21 rfl ⟨by unfold d_about; rw [if_pos c4, tn_nI (k := j) (by omega)]; rfl, rfl⟩
set_option maxRecDepth 100000 in
set_option maxHeartbeats 4000000 in
theorem c_D_word (h : Hp) (i : Int32) : Cn u_D_word 0 0 0 (w0 h) [.inr (some 0), .inl i] (fun v w' => v = some (d_word h i) ∧ w' = w0 h) := by
  refine Cn.of (by decide +kernel) (Nat.le_of_ble_eq_true rfl) (fun E ad a qf => ?_)
  have qa := qf.2.2.2
  have hcs : 0 ≤ (eR E).cells ∧ 0 ≤ (eR E).slots := ⟨Nat.zero_le _, Nat.zero_le _⟩
  refine x_iload_n a 0 d_D_word_0 rfl ?_
  refine x_if_lt a 1 19 d_D_word_1 (by decide) (fun c1 => ?_) (fun c1 => ?_)
  · refine x_iconst a 19 0 d_D_word_19 (by decide) ?_
    exact x_iret a qf 20 d_D_word_20 rfl ⟨by unfold d_word; rw [if_neg (by (try simp (disch := omega) only [Int32.le_iff_toInt_le, Int32.lt_iff_toInt_lt, ← Int32.toInt_inj, Int32.reduceToInt, nI_1, nI_add, pk_sub, nI_toInt] at *); omega)], rfl⟩
  · refine x_iload_n a 4 d_D_word_4 rfl ?_
    refine x_bipush a 5 64 d_D_word_5 (by decide) ?_
    refine x_icmp_ge a 7 19 d_D_word_7 (by decide) (fun c7 => ?_) (fun c7 => ?_)
    · refine x_iconst a 19 0 d_D_word_19 (by decide) ?_
      exact x_iret a qf 20 d_D_word_20 rfl ⟨by unfold d_word; rw [if_neg (by (try simp (disch := omega) only [Int32.le_iff_toInt_le, Int32.lt_iff_toInt_lt, ← Int32.toInt_inj, Int32.reduceToInt, nI_1, nI_add, pk_sub, nI_toInt] at *); omega)], rfl⟩
    · obtain ⟨j, hj, rfl⟩ := vp_in_of (x := i) (n := 64) (vp_in_iff.mpr (by (try simp (disch := omega) only [Int32.le_iff_toInt_le, Int32.lt_iff_toInt_lt, ← Int32.toInt_inj, Int32.reduceToInt, nI_1, nI_add, pk_sub, nI_toInt] at *); omega)) (by decide)
      refine x_aload_n a 10 d_D_word_10 rfl ?_
      refine x_getR a 11 f_D_9 d_D_word_11 rfl (by omega) (by decide) rfl ?_
      refine x_iload_n a 14 d_D_word_14 rfl ?_
      refine x_iald a 15 d_D_word_15 rfl (by omega) (j := j) rfl hj (by decide) rfl ?_
      refine x_goto a 16 20 d_D_word_16 (by decide) ?_
      exact x_iret a qf 20 d_D_word_20 rfl ⟨by unfold d_word; rw [if_pos (by (try simp (disch := omega) only [Int32.le_iff_toInt_le, Int32.lt_iff_toInt_lt, ← Int32.toInt_inj, Int32.reduceToInt, nI_1, nI_add, pk_sub, nI_toInt] at *); omega), tn_nI (k := j) (by omega)], rfl⟩
set_option maxRecDepth 100000 in
set_option maxHeartbeats 4000000 in
theorem c_D_waiting (h : Hp) (I : IC h) (x : Int32) : Cn u_D_waiting 1 0 0 (w0 h) [.inr (some 0), .inl x] (fun v w' => v = some (d_waiting h x) ∧ w' = w0 h) := by
  refine Cn.of (by decide +kernel) (Nat.le_of_ble_eq_true rfl) (fun E ad a qf => ?_)
  have qa := qf.2.2.2
  have hcs : 0 ≤ (eR E).cells ∧ 0 ≤ (eR E).slots := ⟨Nat.zero_le _, Nat.zero_le _⟩
  refine x_aload_n a 0 d_D_waiting_0 rfl ?_
  refine x_iload_n a 1 d_D_waiting_1 rfl ?_
  refine x_callV a qa 2 g_D_109 d_D_waiting_2 (c_D_isPort _ _) rfl rfl rfl (show _ < 86 by omega) (by decide) (Nat.le_of_ble_eq_true rfl) hcs (fun v w' hp => ?_)
  obtain ⟨rfl, rfl⟩ := hp
  refine x_st1 ?_
  refine x_ifB_eq a 5 23 d_D_waiting_5 (by decide) (fun c5 => ?_) (fun c5 => ?_)
  · refine x_iconst a 23 (-1) d_D_waiting_23 (by decide) ?_
    exact x_iret a qf 24 d_D_waiting_24 rfl ⟨by unfold d_waiting; rw [if_neg c5], rfl⟩
  · have hx0 := nn_tn c5.1
    have hx6 : tn x < 6 := by have := tn_lt c5.1 c5.2; have := I.n.1; omega
    refine x_aload_n a 8 d_D_waiting_8 rfl ?_
    refine x_getR a 9 f_D_22 d_D_waiting_9 rfl (by omega) (by decide) rfl ?_
    refine x_iload_n a 12 d_D_waiting_12 rfl ?_
    refine x_aald3 a 13 d_D_waiting_13 rfl (by omega) (j := tn x) hx0 hx6 (by decide) (rQs (by omega)) ?_
    refine x_getR a 14 f_D_112 d_D_waiting_14 (kQ (by omega)) (by omega) (by decide) (rQ0 (by omega)) ?_
    refine x_getI a 17 f_D_96 d_D_waiting_17 (kV41 (by omega)) (by omega) (by decide) rfl ?_
    refine x_goto a 20 24 d_D_waiting_20 (by decide) ?_
    exact x_iret a qf 24 d_D_waiting_24 rfl ⟨by unfold d_waiting; rw [if_pos c5], rfl⟩
set_option maxRecDepth 100000 in
set_option maxHeartbeats 4000000 in
theorem c_D_clock (h : Hp) (x : Int32) : Cn u_D_clock 1 0 0 (w0 h) [.inr (some 0), .inl x] (fun v w' => v = some (d_clock h x) ∧ w' = w0 h) := by
  refine Cn.of (by decide +kernel) (Nat.le_of_ble_eq_true rfl) (fun E ad a qf => ?_)
  have qa := qf.2.2.2
  have hcs : 0 ≤ (eR E).cells ∧ 0 ≤ (eR E).slots := ⟨Nat.zero_le _, Nat.zero_le _⟩
  refine x_aload_n a 0 d_D_clock_0 rfl ?_
  refine x_getI a 1 f_D_38 d_D_clock_1 rfl (by omega) (by decide) rfl ?_
  refine x_if_eq a 4 18 d_D_clock_4 (by decide) (fun c4 => ?_) (fun c4 => ?_)
  · refine x_iconst a 18 (-1) d_D_clock_18 (by decide) ?_
    exact x_iret a qf 19 d_D_clock_19 rfl ⟨by unfold d_clock; rw [if_pos c4], rfl⟩
  · refine x_aload_n a 7 d_D_clock_7 rfl ?_
    refine x_getR a 8 f_D_30 d_D_clock_8 rfl (by omega) (by decide) rfl ?_
    refine x_iload_n a 11 d_D_clock_11 rfl ?_
    refine x_callV a qa 12 g_D_115 d_D_clock_12 (c_F_tell _ _) rfl rfl rfl (show _ < 86 by omega) (by decide) (Nat.le_of_ble_eq_true rfl) hcs (fun v w' hp => ?_)
    obtain ⟨rfl, rfl⟩ := hp
    refine x_st1 ?_
    refine x_goto a 15 19 d_D_clock_15 (by decide) ?_
    exact x_iret a qf 19 d_D_clock_19 rfl ⟨by unfold d_clock; rw [if_neg c4], rfl⟩
def d_tk (h : Hp) : Hp := d_tick h (tn (h 58 3)) (tn (h 58 2)) (tn (h 59 (tn (h 58 3)))) (tn (h 58 4)) (tn (h 60 (tn (h 58 3))))
abbrev d_acts (h : Hp) : Prop := ¬ h (3 + 9 * tn (h 59 (tn (h 58 3)))) 10 = 0 ∧ h 58 6 = 0
def d_ticks (h : Hp) : Nat → Hp
  | 0 => h
  | k + 1 => d_tk (d_ticks h k)
def d_done (h : Hp) : Nat → Nat
  | 0 => 0
  | k + 1 => d_done h k + (if d_acts (d_ticks h k) then 1 else 0)
def d_run (h : Hp) (n : Int32) : Hp × Int32 := if ¬ h 0 5 = 0 ∧ 0 ≤ n ∧ n ≤ 200 then (d_ticks h (tn n), nI (d_done h (tn n))) else (h, -1)
/-- a tick can be gone through -/
def TS (g : Hp) : Prop := IC g ∧ Nlt (g 58 3) (tn (g 58 2)) ∧ Nlt (g 58 4) 1000
set_option maxRecDepth 100000 in
set_option maxHeartbeats 4000000 in
theorem l_D_run {E : En} {ad : Nat → Nat} {h : Hp} {n0 : Nat} {Post : Option Int32 → Wd → Prop} (a : Amb u_D_run 6 E) (qf : Fin Post n0 ad 0 0 E) (qa : va_AO R_2 (eS E) ∧ va_AO R_3 (eS E)) (hcs : 0 ≤ (eR E).cells ∧ 0 ≤ (eR E).slots) {n : Nat} (hn : n ≤ 200) (hs : ∀ k, k < n → TS (d_ticks h k)) (hpo : Post (some (nI (d_done h n))) (w0 (d_ticks h n))) : ∀ m k : Nat, k ≤ n → n < k + m → X E 0 0 ad (w0 (d_ticks h k)) 24 [(0, .inr (some 0)), (1, .inl (nI n)), (2, .inl (nI (d_done h k))), (3, .inl (nI k))] [] := by
  intro m
  induction m with
  | zero => intro k h1 h2; omega
  | succ m ih =>
    intro k h1 h2
    refine x_iload_n a 24 d_D_run_24 rfl ?_
    refine x_iload_n a 25 d_D_run_25 rfl ?_
    refine x_icmp_ge a 26 45 d_D_run_26 (by decide) (fun c26 => ?_) (fun c26 => ?_)
    · have hk : k = n := (by (try simp (disch := omega) only [Int32.le_iff_toInt_le, Int32.lt_iff_toInt_lt, ← Int32.toInt_inj, Int32.reduceToInt, nI_1, nI_add, pk_sub, nI_toInt] at *); omega)
      subst hk
      refine x_iload_n a 45 d_D_run_45 rfl ?_
      exact x_iret a qf 46 d_D_run_46 rfl hpo
    · have hk : k < n := (by (try simp (disch := omega) only [Int32.le_iff_toInt_le, Int32.lt_iff_toInt_lt, ← Int32.toInt_inj, Int32.reduceToInt, nI_1, nI_add, pk_sub, nI_toInt] at *); omega)
      obtain ⟨I, hT1, hT2⟩ := hs k hk
      have hw := I.w.1
      have hfr := I.f _ hT1.1
      refine x_aload_n a 29 d_D_run_29 rfl ?_
      refine x_callV a qa 30 g_D_99 d_D_run_30 (c_D_passTick _ I hT1.2 I.w.2 hT1.1 (by omega) hfr.1.2 hfr.1.1 hT2.2 hT2.1 hfr.2.2 (Nat.lt_trans hfr.2.1 (by decide))) rfl rfl rfl (show _ < 86 by omega) (by decide) (Nat.le_of_ble_eq_true rfl) hcs (fun v w' hp => ?_)
      obtain ⟨rfl, rfl⟩ := hp
      refine x_st1 ?_
      refine x_ifB_eq a 33 39 d_D_run_33 (by decide) (fun c33 => ?_) (fun c33 => ?_)
      · refine x_iinc a 39 (nI (k + 1)) d_D_run_39 rfl (nI_inc k) (by decide) ?_
        refine x_goto a 42 24 d_D_run_42 (by decide) ?_
        refine x_lv [(0, .inr (some 0)), (1, .inl (nI n)), (2, .inl (nI (d_done h (k + 1)))), (3, .inl (nI (k + 1)))] (by rw [show d_done h (k + 1) = d_done h k + (if d_acts (d_ticks h k) then 1 else 0) from rfl]; (first | rw [if_pos c33] | rw [if_neg c33]); exact (List.forall_mem_cons.mpr ⟨rfl, List.forall_mem_cons.mpr ⟨rfl, List.forall_mem_cons.mpr ⟨rfl, List.forall_mem_cons.mpr ⟨rfl, fun _ z => absurd z List.not_mem_nil⟩⟩⟩⟩)) ?_
        exact ih (k + 1) hk (by omega)
      · refine x_iinc a 36 (nI (d_done h k + 1)) d_D_run_36 rfl (nI_inc _) (by decide) ?_
        refine x_iinc a 39 (nI (k + 1)) d_D_run_39 rfl (nI_inc k) (by decide) ?_
        refine x_goto a 42 24 d_D_run_42 (by decide) ?_
        refine x_lv [(0, .inr (some 0)), (1, .inl (nI n)), (2, .inl (nI (d_done h (k + 1)))), (3, .inl (nI (k + 1)))] (by rw [show d_done h (k + 1) = d_done h k + (if d_acts (d_ticks h k) then 1 else 0) from rfl]; (first | rw [if_pos c33] | rw [if_neg c33]); exact (List.forall_mem_cons.mpr ⟨rfl, List.forall_mem_cons.mpr ⟨rfl, List.forall_mem_cons.mpr ⟨rfl, List.forall_mem_cons.mpr ⟨rfl, fun _ z => absurd z List.not_mem_nil⟩⟩⟩⟩)) ?_
        exact ih (k + 1) hk (by omega)
set_option maxRecDepth 100000 in
set_option maxHeartbeats 4000000 in
theorem c_D_run (h : Hp) (n : Int32) (hs : ¬ h 0 5 = 0 → ∀ k, k < 200 → TS (d_ticks h k)) : Cn u_D_run 6 0 0 (w0 h) [.inr (some 0), .inl n] (fun v w' => v = some (d_run h n).2 ∧ w' = w0 (d_run h n).1) := by
  refine Cn.of (by decide +kernel) (Nat.le_of_ble_eq_true rfl) (fun E ad a qf => ?_)
  have qa := qf.2.2.2
  have hcs : 0 ≤ (eR E).cells ∧ 0 ≤ (eR E).slots := ⟨Nat.zero_le _, Nat.zero_le _⟩
  refine x_aload_n a 0 d_D_run_0 rfl ?_
  refine x_getI a 1 f_D_38 d_D_run_1 rfl (by omega) (by decide) rfl ?_
  refine x_if_eq a 4 18 d_D_run_4 (by decide) (fun c4 => ?_) (fun c4 => ?_)
  · refine x_iconst a 18 (-1) d_D_run_18 (by decide) ?_
    exact x_iret a qf 19 d_D_run_19 rfl ⟨by unfold d_run; rw [if_neg (by rintro ⟨z1, z2⟩; first | exact z1 c4 | exact (by (try simp (disch := omega) only [Int32.le_iff_toInt_le, Int32.lt_iff_toInt_lt, ← Int32.toInt_inj, Int32.reduceToInt, nI_1, nI_add, pk_sub, nI_toInt] at *); omega))], by unfold d_run; rw [if_neg (by rintro ⟨z1, z2⟩; first | exact z1 c4 | exact (by (try simp (disch := omega) only [Int32.le_iff_toInt_le, Int32.lt_iff_toInt_lt, ← Int32.toInt_inj, Int32.reduceToInt, nI_1, nI_add, pk_sub, nI_toInt] at *); omega))]⟩
  · refine x_iload_n a 7 d_D_run_7 rfl ?_
    refine x_if_lt a 8 18 d_D_run_8 (by decide) (fun c8 => ?_) (fun c8 => ?_)
    · refine x_iconst a 18 (-1) d_D_run_18 (by decide) ?_
      exact x_iret a qf 19 d_D_run_19 rfl ⟨by unfold d_run; rw [if_neg (by rintro ⟨z1, z2⟩; first | exact z1 c4 | exact (by (try simp (disch := omega) only [Int32.le_iff_toInt_le, Int32.lt_iff_toInt_lt, ← Int32.toInt_inj, Int32.reduceToInt, nI_1, nI_add, pk_sub, nI_toInt] at *); omega))], by unfold d_run; rw [if_neg (by rintro ⟨z1, z2⟩; first | exact z1 c4 | exact (by (try simp (disch := omega) only [Int32.le_iff_toInt_le, Int32.lt_iff_toInt_lt, ← Int32.toInt_inj, Int32.reduceToInt, nI_1, nI_add, pk_sub, nI_toInt] at *); omega))]⟩
    · refine x_iload_n a 11 d_D_run_11 rfl ?_
      refine x_sipush a 12 200 d_D_run_12 (by decide) ?_
      refine x_icmp_le a 15 20 d_D_run_15 (by decide) (fun c15 => ?_) (fun c15 => ?_)
      · obtain ⟨k, hk, rfl⟩ := vp_in_of (x := n) (n := 201) (vp_in_iff.mpr (by (try simp (disch := omega) only [Int32.le_iff_toInt_le, Int32.lt_iff_toInt_lt, ← Int32.toInt_inj, Int32.reduceToInt, nI_1, nI_add, pk_sub, nI_toInt] at *); omega)) (by decide)
        refine x_iconst a 20 0 d_D_run_20 (by decide) ?_
        refine x_istore_n a 21 d_D_run_21 (by decide) ?_
        refine x_iconst a 22 0 d_D_run_22 (by decide) ?_
        refine x_istore_n a 23 d_D_run_23 (by decide) ?_
        refine x_lv [(0, .inr (some 0)), (1, .inl (nI k)), (2, .inl (nI 0)), (3, .inl (nI 0))] (List.forall_mem_cons.mpr ⟨rfl, List.forall_mem_cons.mpr ⟨rfl, List.forall_mem_cons.mpr ⟨rfl, List.forall_mem_cons.mpr ⟨rfl, fun _ z => absurd z List.not_mem_nil⟩⟩⟩⟩) ?_
        exact l_D_run (h := h) (n := k) a qf qa hcs (by omega) (fun i hi => hs c4 i (by omega)) (by have hc : ¬ h 0 5 = 0 ∧ 0 ≤ nI k ∧ nI k ≤ 200 := ⟨c4, (by (try simp (disch := omega) only [Int32.le_iff_toInt_le, Int32.lt_iff_toInt_lt, ← Int32.toInt_inj, Int32.reduceToInt, nI_1, nI_add, pk_sub, nI_toInt] at *); omega)⟩; constructor <;> (unfold d_run; rw [if_pos hc, tn_nI (by omega)])) (k + 1) 0 (by omega) (by omega)
      · refine x_iconst a 18 (-1) d_D_run_18 (by decide) ?_
        exact x_iret a qf 19 d_D_run_19 rfl ⟨by unfold d_run; rw [if_neg (by rintro ⟨z1, z2⟩; first | exact z1 c4 | exact (by (try simp (disch := omega) only [Int32.le_iff_toInt_le, Int32.lt_iff_toInt_lt, ← Int32.toInt_inj, Int32.reduceToInt, nI_1, nI_add, pk_sub, nI_toInt] at *); omega))], by unfold d_run; rw [if_neg (by rintro ⟨z1, z2⟩; first | exact z1 c4 | exact (by (try simp (disch := omega) only [Int32.le_iff_toInt_le, Int32.lt_iff_toInt_lt, ← Int32.toInt_inj, Int32.reduceToInt, nI_1, nI_add, pk_sub, nI_toInt] at *); omega))]⟩
