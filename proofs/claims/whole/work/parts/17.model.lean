/-! the reference's own steps as functions, over its cells (61 and on) -/
abbrev mIn (v a b : Int32) : Prop := a ≤ v ∧ v ≤ b
theorem ix_r (p : Nat) (x : Int32) : (4 : Int32) * nI p + (x &&& 3) = nI (4 * p + rg x) := by
  rw [← rg_nI, show (4 : Int32) = nI 4 from rfl, pk_mul, nI_add]
theorem ix_n {k : Int32} {K : Nat} (hk : k = nI K) (p i : Nat) : k * nI p + nI i = nI (K * p + i) := by
  rw [hk, pk_mul, nI_add]
def m_region (h : Hp) (p f s : Int32) : Hp × Int32 := if mIn p 0 3 ∧ mIn s 1 32 ∧ mIn f 0 (64 - s) then (up2 (up2 (up2 h 62 (tn p) f) 63 (tn p) s) 61 26 0, 1) else (h, 0)
def m_window (h : Hp) (p t : Int32) : Hp × Int32 := if mIn p 0 3 ∧ mIn t 1 9 ∧ ¬ h 61 24 = 8 then (up2 (up2 (up2 (up2 h 64 (tn (h 61 24)) p) 65 (tn (h 61 24)) t) 61 24 (h 61 24 + 1)) 61 26 0, 1) else (h, 0)
def m_port (h : Hp) (f t d : Int32) : Hp × Int32 := if mIn f 0 3 ∧ mIn t 0 3 ∧ ¬ f = t ∧ mIn d 0 4 ∧ ¬ h 61 25 = 6 then (up2 (up2 (up2 (up2 (up2 (up2 h 66 (tn (h 61 25)) f) 67 (tn (h 61 25)) t) 68 (tn (h 61 25)) d) 69 (tn (h 61 25)) 0) 61 25 (h 61 25 + 1)) 61 26 0, h 61 25 + 1 - 1) else (h, -1)
def m_action (h : Hp) (p f x : Int32) : Hp × Int32 := if mIn p 0 3 ∧ mIn f 1 4 ∧ mIn x 0 2 then (up2 (up2 h 72 (4 * tn p + tn f - 1) x) 61 26 0, 1) else (h, 0)
def m_code (h : Hp) (p i o a b : Int32) : Hp × Int32 := if mIn p 0 3 ∧ mIn i 0 15 then (up2 (up2 (up2 (up2 h 73 (16 * tn p + tn i) o) 74 (16 * tn p + tn i) a) 75 (16 * tn p + tn i) b) 61 26 0, 1) else (h, 0)
abbrev m_part (h : Hp) (p : Nat) : Prop := 0 ≤ h 62 p
def m_input (h : Hp) (p v : Int32) : Hp × Int32 := if mIn p 0 3 ∧ ¬ h 82 (tn p) = 8 then (up2 (up2 h 83 (8 * tn p + tn (h 82 (tn p))) v) 82 (tn p) (h 82 (tn p) + 1), h 82 (tn p) + 1) else (h, -1)
def m_output (h : Hp) (p i : Int32) : Int32 := if mIn p 0 3 ∧ mIn i 0 15 ∧ i < h 84 (tn p) then h 85 (16 * tn p + tn i) else 0
def m_about (h : Hp) (p w : Int32) : Int32 := if mIn p 0 3 ∧ mIn w 0 8 then (if w < 4 then h 77 (4 * tn p + tn w) else if w = 4 then h 78 (tn p) else if w = 5 then (if h 80 (tn p) = 0 then 0 else 1) else if w = 6 then h 79 (tn p) else if w = 7 then h 84 (tn p) else h 82 (tn p)) else -1
def m_word (h : Hp) (i : Int32) : Int32 := if mIn i 0 63 then h 76 (tn i) else 0
def m_waiting (h : Hp) (k : Int32) : Int32 := if mIn k 0 (h 61 25 - 1) then h 69 (tn k) else -1
def m_clock (h : Hp) (x : Int32) : Int32 := if h 61 26 = 0 then -1 else if x = 0 then h 61 27 else if x = 1 then h 61 28 else if x = 2 then h 61 29 else -1
def m_go (h : Hp) (p : Nat) : Hp := up2 h 78 p (h 78 p + 1)
set_option maxRecDepth 100000 in
set_option maxHeartbeats 4000000 in
theorem c_M_in (h : Hp) (v lo hi : Int32) : Cn u_M_in 0 0 0 (w0 h) [.inl v, .inl lo, .inl hi] (fun r w' => r = some (bI (mIn v lo hi)) ∧ w' = w0 h) := by
  refine Cn.of (by decide +kernel) (Nat.le_of_ble_eq_true rfl) (fun E ad a qf => ?_)
  have qa := qf.2.2.2
  have hcs : 0 ≤ (eR E).cells ∧ 0 ≤ (eR E).slots := ⟨Nat.zero_le _, Nat.zero_le _⟩
  refine x_iload_n a 0 d_M_in_0 rfl ?_
  refine x_iload_n a 1 d_M_in_1 rfl ?_
  refine x_icmp_lt a 2 14 d_M_in_2 (by decide) (fun c2 => ?_) (fun c2 => ?_)
  · refine x_iconst a 14 0 d_M_in_14 (by decide) ?_
    exact x_zret a qf 15 d_M_in_15 rfl rfl ⟨by rw [bI_f (by rintro ⟨z1, z2⟩; first | exact absurd c2 (Int32.not_lt.mpr z1) | exact absurd c7 (Int32.not_lt.mpr z2))], rfl⟩
  · refine x_iload_n a 5 d_M_in_5 rfl ?_
    refine x_iload_n a 6 d_M_in_6 rfl ?_
    refine x_icmp_gt a 7 14 d_M_in_7 (by decide) (fun c7 => ?_) (fun c7 => ?_)
    · refine x_iconst a 14 0 d_M_in_14 (by decide) ?_
      exact x_zret a qf 15 d_M_in_15 rfl rfl ⟨by rw [bI_f (by rintro ⟨z1, z2⟩; first | exact absurd c2 (Int32.not_lt.mpr z1) | exact absurd c7 (Int32.not_lt.mpr z2))], rfl⟩
    · refine x_iconst a 10 1 d_M_in_10 (by decide) ?_
      refine x_goto a 11 15 d_M_in_11 (by decide) ?_
      exact x_zret a qf 15 d_M_in_15 rfl rfl ⟨by rw [bI_t ⟨Int32.not_lt.mp c2, Int32.not_lt.mp c7⟩], rfl⟩
set_option maxRecDepth 100000 in
set_option maxHeartbeats 4000000 in
theorem c_M_isOne (h : Hp) (v : Int32) : Cn u_M_isOne 1 0 0 (w0 h) [.inl v] (fun r w' => r = some (bI (mIn v 0 3)) ∧ w' = w0 h) := by
  refine Cn.of (by decide +kernel) (Nat.le_of_ble_eq_true rfl) (fun E ad a qf => ?_)
  have qa := qf.2.2.2
  have hcs : 0 ≤ (eR E).cells ∧ 0 ≤ (eR E).slots := ⟨Nat.zero_le _, Nat.zero_le _⟩
  refine x_iload_n a 0 d_M_isOne_0 rfl ?_
  refine x_iconst a 1 0 d_M_isOne_1 (by decide) ?_
  refine x_iconst a 2 3 d_M_isOne_2 (by decide) ?_
  refine x_callS a qa 3 g_M_83 d_M_isOne_3 (c_M_in _ _ _ _) rfl rfl (by decide) (Nat.le_of_ble_eq_true rfl) hcs (fun v w' hp => ?_)
  obtain ⟨rfl, rfl⟩ := hp
  refine x_st1 ?_
  exact x_zret a qf 6 d_M_isOne_6 rfl bI_nar ⟨rfl, rfl⟩
set_option maxRecDepth 100000 in
set_option maxHeartbeats 4000000 in
theorem c_M_region (h : Hp) (p f s : Int32) : Cn u_M_region 2 0 0 (w0 h) [.inr (some 61), .inl p, .inl f, .inl s] (fun v w' => v = some (m_region h p f s).2 ∧ w' = w0 (m_region h p f s).1) := by
  refine Cn.of (by decide +kernel) (Nat.le_of_ble_eq_true rfl) (fun E ad a qf => ?_)
  have qa := qf.2.2.2
  have hcs : 0 ≤ (eR E).cells ∧ 0 ≤ (eR E).slots := ⟨Nat.zero_le _, Nat.zero_le _⟩
  refine x_iload_n a 0 d_M_region_0 rfl ?_
  refine x_callS a qa 1 g_M_87 d_M_region_1 (c_M_isOne _ _) rfl rfl (by decide) (Nat.le_of_ble_eq_true rfl) hcs (fun v w' hp => ?_)
  obtain ⟨rfl, rfl⟩ := hp
  refine x_st1 ?_
  refine x_ifB_eq a 4 29 d_M_region_4 (by decide) (fun c4 => ?_) (fun c4 => ?_)
  · refine x_iconst a 29 0 d_M_region_29 (by decide) ?_
    exact x_zret a qf 30 d_M_region_30 rfl rfl ⟨by unfold m_region; rw [if_neg (by rintro ⟨z1, z2, z3⟩; first | exact c4 z1 | exact c14 z2 | exact c26 z3)], by unfold m_region; rw [if_neg (by rintro ⟨z1, z2, z3⟩; first | exact c4 z1 | exact c14 z2 | exact c26 z3)]⟩
  · refine x_iload_n a 7 d_M_region_7 rfl ?_
    refine x_iconst a 8 1 d_M_region_8 (by decide) ?_
    refine x_bipush a 9 32 d_M_region_9 (by decide) ?_
    refine x_callS a qa 11 g_M_83 d_M_region_11 (c_M_in _ _ _ _) rfl rfl (by decide) (Nat.le_of_ble_eq_true rfl) hcs (fun v w' hp => ?_)
    obtain ⟨rfl, rfl⟩ := hp
    refine x_st1 ?_
    refine x_ifB_eq a 14 29 d_M_region_14 (by decide) (fun c14 => ?_) (fun c14 => ?_)
    · refine x_iconst a 29 0 d_M_region_29 (by decide) ?_
      exact x_zret a qf 30 d_M_region_30 rfl rfl ⟨by unfold m_region; rw [if_neg (by rintro ⟨z1, z2, z3⟩; first | exact c4 z1 | exact c14 z2 | exact c26 z3)], by unfold m_region; rw [if_neg (by rintro ⟨z1, z2, z3⟩; first | exact c4 z1 | exact c14 z2 | exact c26 z3)]⟩
    · refine x_iload_n a 17 d_M_region_17 rfl ?_
      refine x_iconst a 18 0 d_M_region_18 (by decide) ?_
      refine x_bipush a 19 64 d_M_region_19 (by decide) ?_
      refine x_iload_n a 21 d_M_region_21 rfl ?_
      refine x_isub a 22 d_M_region_22 ?_
      refine x_callS a qa 23 g_M_83 d_M_region_23 (c_M_in _ _ _ _) rfl rfl (by decide) (Nat.le_of_ble_eq_true rfl) hcs (fun v w' hp => ?_)
      obtain ⟨rfl, rfl⟩ := hp
      refine x_st1 ?_
      refine x_ifB_ne a 26 31 d_M_region_26 (by decide) (fun c26 => ?_) (fun c26 => ?_)
      · obtain ⟨j, hj, rfl⟩ := vp_in_of (x := p) (n := 4) (vp_in_iff.mpr (by have c1 := c4.1; have c2 := c4.2; (try simp (disch := omega) only [Int32.le_iff_toInt_le, Int32.lt_iff_toInt_lt, ← Int32.toInt_inj, Int32.reduceToInt, nI_1, nI_add, pk_sub, nI_toInt] at *); omega)) (by decide)
        refine x_aload_n a 31 d_M_region_31 rfl ?_
        refine x_getR a 32 f_M_7 d_M_region_32 rfl (by omega) (by decide) (o' := 62) rfl ?_
        refine x_iload_n a 35 d_M_region_35 rfl ?_
        refine x_iload_n a 36 d_M_region_36 rfl ?_
        refine x_iast a 37 d_M_region_37 rfl (by omega) (j := j) rfl hj (by decide) ?_
        refine x_aload_n a 38 d_M_region_38 rfl ?_
        refine x_getR a 39 f_M_13 d_M_region_39 rfl (by omega) (by decide) (o' := 63) rfl ?_
        refine x_iload_n a 42 d_M_region_42 rfl ?_
        refine x_iload_n a 43 d_M_region_43 rfl ?_
        refine x_iast a 44 d_M_region_44 rfl (by omega) (j := j) rfl hj (by decide) ?_
        refine x_aload_n a 45 d_M_region_45 rfl ?_
        refine x_iconst a 46 0 d_M_region_46 (by decide) ?_
        refine x_putI a 47 f_M_91 d_M_region_47 rfl (by omega) (by decide) rfl rfl rfl ?_
        refine x_iconst a 50 1 d_M_region_50 (by decide) ?_
        exact x_zret a qf 51 d_M_region_51 rfl rfl ⟨by unfold m_region; rw [if_pos ⟨c4, c14, c26⟩], by unfold m_region; rw [if_pos ⟨c4, c14, c26⟩, tn_nI (k := j) (by omega)]⟩
      · refine x_iconst a 29 0 d_M_region_29 (by decide) ?_
        exact x_zret a qf 30 d_M_region_30 rfl rfl ⟨by unfold m_region; rw [if_neg (by rintro ⟨z1, z2, z3⟩; first | exact c4 z1 | exact c14 z2 | exact c26 z3)], by unfold m_region; rw [if_neg (by rintro ⟨z1, z2, z3⟩; first | exact c4 z1 | exact c14 z2 | exact c26 z3)]⟩
set_option maxRecDepth 100000 in
set_option maxHeartbeats 4000000 in
theorem c_M_window (h : Hp) (p t : Int32) (hn : Nlt (h 61 24) 9) : Cn u_M_window 2 0 0 (w0 h) [.inr (some 61), .inl p, .inl t] (fun v w' => v = some (m_window h p t).2 ∧ w' = w0 (m_window h p t).1) := by
  refine Cn.of (by decide +kernel) (Nat.le_of_ble_eq_true rfl) (fun E ad a qf => ?_)
  have qa := qf.2.2.2
  have hcs : 0 ≤ (eR E).cells ∧ 0 ≤ (eR E).slots := ⟨Nat.zero_le _, Nat.zero_le _⟩
  refine x_iload_n a 0 d_M_window_0 rfl ?_
  refine x_callS a qa 1 g_M_87 d_M_window_1 (c_M_isOne _ _) rfl rfl (by decide) (Nat.le_of_ble_eq_true rfl) hcs (fun v w' hp => ?_)
  obtain ⟨rfl, rfl⟩ := hp
  refine x_st1 ?_
  refine x_ifB_eq a 4 26 d_M_window_4 (by decide) (fun c4 => ?_) (fun c4 => ?_)
  · refine x_iconst a 26 0 d_M_window_26 (by decide) ?_
    exact x_zret a qf 27 d_M_window_27 rfl rfl ⟨by unfold m_window; rw [if_neg (by rintro ⟨z1, z2, z3⟩; first | exact c4 z1 | exact c14 z2 | exact z3 c23)], by unfold m_window; rw [if_neg (by rintro ⟨z1, z2, z3⟩; first | exact c4 z1 | exact c14 z2 | exact z3 c23)]⟩
  · refine x_iload_n a 7 d_M_window_7 rfl ?_
    refine x_iconst a 8 1 d_M_window_8 (by decide) ?_
    refine x_bipush a 9 9 d_M_window_9 (by decide) ?_
    refine x_callS a qa 11 g_M_83 d_M_window_11 (c_M_in _ _ _ _) rfl rfl (by decide) (Nat.le_of_ble_eq_true rfl) hcs (fun v w' hp => ?_)
    obtain ⟨rfl, rfl⟩ := hp
    refine x_st1 ?_
    refine x_ifB_eq a 14 26 d_M_window_14 (by decide) (fun c14 => ?_) (fun c14 => ?_)
    · refine x_iconst a 26 0 d_M_window_26 (by decide) ?_
      exact x_zret a qf 27 d_M_window_27 rfl rfl ⟨by unfold m_window; rw [if_neg (by rintro ⟨z1, z2, z3⟩; first | exact c4 z1 | exact c14 z2 | exact z3 c23)], by unfold m_window; rw [if_neg (by rintro ⟨z1, z2, z3⟩; first | exact c4 z1 | exact c14 z2 | exact z3 c23)]⟩
    · refine x_aload_n a 17 d_M_window_17 rfl ?_
      refine x_getI a 18 f_M_95 d_M_window_18 rfl (by omega) (by decide) rfl ?_
      refine x_bipush a 21 8 d_M_window_21 (by decide) ?_
      refine x_icmp_ne a 23 28 d_M_window_23 (by decide) (fun c23 => ?_) (fun c23 => ?_)
      · have hn8 : tn (h 61 24) < 8 := by have h1 := hn.1; have h2 := hn.2; rw [h2] at c23; exact (by (try simp (disch := omega) only [Int32.le_iff_toInt_le, Int32.lt_iff_toInt_lt, ← Int32.toInt_inj, Int32.reduceToInt, nI_1, nI_add, pk_sub, nI_toInt] at *); omega)
        refine x_aload_n a 28 d_M_window_28 rfl ?_
        refine x_getR a 29 f_M_16 d_M_window_29 rfl (by omega) (by decide) (o' := 64) rfl ?_
        refine x_aload_n a 32 d_M_window_32 rfl ?_
        refine x_getI a 33 f_M_95 d_M_window_33 rfl (by omega) (by decide) rfl ?_
        refine x_iload_n a 36 d_M_window_36 rfl ?_
        refine x_iast a 37 d_M_window_37 rfl (by omega) (j := tn (h 61 24)) hn.2 hn8 (by decide) ?_
        refine x_aload_n a 38 d_M_window_38 rfl ?_
        refine x_getR a 39 f_M_19 d_M_window_39 rfl (by omega) (by decide) (o' := 65) rfl ?_
        refine x_aload_n a 42 d_M_window_42 rfl ?_
        refine x_getI a 43 f_M_95 d_M_window_43 rfl (by omega) (by decide) (v := h 61 24) (by rw [up2_o _ _ _ (by omega)]) ?_
        refine x_iload_n a 46 d_M_window_46 rfl ?_
        refine x_iast a 47 d_M_window_47 rfl (by omega) (j := tn (h 61 24)) hn.2 hn8 (by decide) ?_
        refine x_aload_n a 48 d_M_window_48 rfl ?_
        refine x_dup a 49 d_M_window_49 ?_
        refine x_getI a 50 f_M_95 d_M_window_50 rfl (by omega) (by decide) (v := h 61 24) (by rw [up2_o _ _ _ (by omega), up2_o _ _ _ (by omega)]) ?_
        refine x_iconst a 53 1 d_M_window_53 (by decide) ?_
        refine x_iadd a 54 d_M_window_54 ?_
        refine x_putI a 55 f_M_95 d_M_window_55 rfl (by omega) (by decide) rfl rfl rfl ?_
        refine x_aload_n a 58 d_M_window_58 rfl ?_
        refine x_iconst a 59 0 d_M_window_59 (by decide) ?_
        refine x_putI a 60 f_M_91 d_M_window_60 rfl (by omega) (by decide) rfl rfl rfl ?_
        refine x_iconst a 63 1 d_M_window_63 (by decide) ?_
        exact x_zret a qf 64 d_M_window_64 rfl rfl ⟨by unfold m_window; rw [if_pos ⟨c4, c14, c23⟩], by unfold m_window; rw [if_pos ⟨c4, c14, c23⟩]⟩
      · refine x_iconst a 26 0 d_M_window_26 (by decide) ?_
        exact x_zret a qf 27 d_M_window_27 rfl rfl ⟨by unfold m_window; rw [if_neg (by rintro ⟨z1, z2, z3⟩; first | exact c4 z1 | exact c14 z2 | exact z3 c23)], by unfold m_window; rw [if_neg (by rintro ⟨z1, z2, z3⟩; first | exact c4 z1 | exact c14 z2 | exact z3 c23)]⟩
set_option maxRecDepth 100000 in
set_option maxHeartbeats 4000000 in
theorem c_M_port (h : Hp) (f t d : Int32) (hn : Nlt (h 61 25) 7) : Cn u_M_port 2 0 0 (w0 h) [.inr (some 61), .inl f, .inl t, .inl d] (fun v w' => v = some (m_port h f t d).2 ∧ w' = w0 (m_port h f t d).1) := by
  refine Cn.of (by decide +kernel) (Nat.le_of_ble_eq_true rfl) (fun E ad a qf => ?_)
  have qa := qf.2.2.2
  have hcs : 0 ≤ (eR E).cells ∧ 0 ≤ (eR E).slots := ⟨Nat.zero_le _, Nat.zero_le _⟩
  refine x_iload_n a 0 d_M_port_0 rfl ?_
  refine x_callS a qa 1 g_M_87 d_M_port_1 (c_M_isOne _ _) rfl rfl (by decide) (Nat.le_of_ble_eq_true rfl) hcs (fun v w' hp => ?_)
  obtain ⟨rfl, rfl⟩ := hp
  refine x_st1 ?_
  refine x_ifB_eq a 4 37 d_M_port_4 (by decide) (fun c4 => ?_) (fun c4 => ?_)
  · refine x_iconst a 37 (-1) d_M_port_37 (by decide) ?_
    exact x_iret a qf 38 d_M_port_38 rfl ⟨by unfold m_port; rw [if_neg (by rintro ⟨z1, z2, z3, z4, z5⟩; first | exact c4 z1 | exact c11 z2 | exact z3 c16 | exact c25 z4 | exact z5 c34)], by unfold m_port; rw [if_neg (by rintro ⟨z1, z2, z3, z4, z5⟩; first | exact c4 z1 | exact c11 z2 | exact z3 c16 | exact c25 z4 | exact z5 c34)]⟩
  · refine x_iload_n a 7 d_M_port_7 rfl ?_
    refine x_callS a qa 8 g_M_87 d_M_port_8 (c_M_isOne _ _) rfl rfl (by decide) (Nat.le_of_ble_eq_true rfl) hcs (fun v w' hp => ?_)
    obtain ⟨rfl, rfl⟩ := hp
    refine x_st1 ?_
    refine x_ifB_eq a 11 37 d_M_port_11 (by decide) (fun c11 => ?_) (fun c11 => ?_)
    · refine x_iconst a 37 (-1) d_M_port_37 (by decide) ?_
      exact x_iret a qf 38 d_M_port_38 rfl ⟨by unfold m_port; rw [if_neg (by rintro ⟨z1, z2, z3, z4, z5⟩; first | exact c4 z1 | exact c11 z2 | exact z3 c16 | exact c25 z4 | exact z5 c34)], by unfold m_port; rw [if_neg (by rintro ⟨z1, z2, z3, z4, z5⟩; first | exact c4 z1 | exact c11 z2 | exact z3 c16 | exact c25 z4 | exact z5 c34)]⟩
    · refine x_iload_n a 14 d_M_port_14 rfl ?_
      refine x_iload_n a 15 d_M_port_15 rfl ?_
      refine x_icmp_eq a 16 37 d_M_port_16 (by decide) (fun c16 => ?_) (fun c16 => ?_)
      · refine x_iconst a 37 (-1) d_M_port_37 (by decide) ?_
        exact x_iret a qf 38 d_M_port_38 rfl ⟨by unfold m_port; rw [if_neg (by rintro ⟨z1, z2, z3, z4, z5⟩; first | exact c4 z1 | exact c11 z2 | exact z3 c16 | exact c25 z4 | exact z5 c34)], by unfold m_port; rw [if_neg (by rintro ⟨z1, z2, z3, z4, z5⟩; first | exact c4 z1 | exact c11 z2 | exact z3 c16 | exact c25 z4 | exact z5 c34)]⟩
      · refine x_iload_n a 19 d_M_port_19 rfl ?_
        refine x_iconst a 20 0 d_M_port_20 (by decide) ?_
        refine x_iconst a 21 4 d_M_port_21 (by decide) ?_
        refine x_callS a qa 22 g_M_83 d_M_port_22 (c_M_in _ _ _ _) rfl rfl (by decide) (Nat.le_of_ble_eq_true rfl) hcs (fun v w' hp => ?_)
        obtain ⟨rfl, rfl⟩ := hp
        refine x_st1 ?_
        refine x_ifB_eq a 25 37 d_M_port_25 (by decide) (fun c25 => ?_) (fun c25 => ?_)
        · refine x_iconst a 37 (-1) d_M_port_37 (by decide) ?_
          exact x_iret a qf 38 d_M_port_38 rfl ⟨by unfold m_port; rw [if_neg (by rintro ⟨z1, z2, z3, z4, z5⟩; first | exact c4 z1 | exact c11 z2 | exact z3 c16 | exact c25 z4 | exact z5 c34)], by unfold m_port; rw [if_neg (by rintro ⟨z1, z2, z3, z4, z5⟩; first | exact c4 z1 | exact c11 z2 | exact z3 c16 | exact c25 z4 | exact z5 c34)]⟩
        · refine x_aload_n a 28 d_M_port_28 rfl ?_
          refine x_getI a 29 f_M_99 d_M_port_29 rfl (by omega) (by decide) rfl ?_
          refine x_bipush a 32 6 d_M_port_32 (by decide) ?_
          refine x_icmp_ne a 34 39 d_M_port_34 (by decide) (fun c34 => ?_) (fun c34 => ?_)
          · have hn6 : tn (h 61 25) < 6 := by have h1 := hn.1; have h2 := hn.2; rw [h2] at c34; exact (by (try simp (disch := omega) only [Int32.le_iff_toInt_le, Int32.lt_iff_toInt_lt, ← Int32.toInt_inj, Int32.reduceToInt, nI_1, nI_add, pk_sub, nI_toInt] at *); omega)
            refine x_aload_n a 39 d_M_port_39 rfl ?_
            refine x_getR a 40 f_M_22 d_M_port_40 rfl (by omega) (by decide) (o' := 66) rfl ?_
            refine x_aload_n a 43 d_M_port_43 rfl ?_
            refine x_getI a 44 f_M_99 d_M_port_44 rfl (by omega) (by decide) rfl ?_
            refine x_iload_n a 47 d_M_port_47 rfl ?_
            refine x_iast a 48 d_M_port_48 rfl (by omega) (j := tn (h 61 25)) hn.2 hn6 (by decide) ?_
            refine x_aload_n a 49 d_M_port_49 rfl ?_
            refine x_getR a 50 f_M_25 d_M_port_50 rfl (by omega) (by decide) (o' := 67) rfl ?_
            refine x_aload_n a 53 d_M_port_53 rfl ?_
            refine x_getI a 54 f_M_99 d_M_port_54 rfl (by omega) (by decide) (v := h 61 25) (by rw [up2_o _ _ _ (by omega)]) ?_
            refine x_iload_n a 57 d_M_port_57 rfl ?_
            refine x_iast a 58 d_M_port_58 rfl (by omega) (j := tn (h 61 25)) hn.2 hn6 (by decide) ?_
            refine x_aload_n a 59 d_M_port_59 rfl ?_
            refine x_getR a 60 f_M_28 d_M_port_60 rfl (by omega) (by decide) (o' := 68) rfl ?_
            refine x_aload_n a 63 d_M_port_63 rfl ?_
            refine x_getI a 64 f_M_99 d_M_port_64 rfl (by omega) (by decide) (v := h 61 25) (by rw [up2_o _ _ _ (by omega), up2_o _ _ _ (by omega)]) ?_
            refine x_iload_n a 67 d_M_port_67 rfl ?_
            refine x_iast a 68 d_M_port_68 rfl (by omega) (j := tn (h 61 25)) hn.2 hn6 (by decide) ?_
            refine x_aload_n a 69 d_M_port_69 rfl ?_
            refine x_getR a 70 f_M_31 d_M_port_70 rfl (by omega) (by decide) (o' := 69) rfl ?_
            refine x_aload_n a 73 d_M_port_73 rfl ?_
            refine x_getI a 74 f_M_99 d_M_port_74 rfl (by omega) (by decide) (v := h 61 25) (by rw [up2_o _ _ _ (by omega), up2_o _ _ _ (by omega), up2_o _ _ _ (by omega)]) ?_
            refine x_iconst a 77 0 d_M_port_77 (by decide) ?_
            refine x_iast a 78 d_M_port_78 rfl (by omega) (j := tn (h 61 25)) hn.2 hn6 (by decide) ?_
            refine x_aload_n a 79 d_M_port_79 rfl ?_
            refine x_dup a 80 d_M_port_80 ?_
            refine x_getI a 81 f_M_99 d_M_port_81 rfl (by omega) (by decide) (v := h 61 25) (by rw [up2_o _ _ _ (by omega), up2_o _ _ _ (by omega), up2_o _ _ _ (by omega), up2_o _ _ _ (by omega)]) ?_
            refine x_iconst a 84 1 d_M_port_84 (by decide) ?_
            refine x_iadd a 85 d_M_port_85 ?_
            refine x_putI a 86 f_M_99 d_M_port_86 rfl (by omega) (by decide) rfl rfl rfl ?_
            refine x_aload_n a 89 d_M_port_89 rfl ?_
            refine x_iconst a 90 0 d_M_port_90 (by decide) ?_
            refine x_putI a 91 f_M_91 d_M_port_91 rfl (by omega) (by decide) rfl rfl rfl ?_
            refine x_aload_n a 94 d_M_port_94 rfl ?_
            refine x_getI a 95 f_M_99 d_M_port_95 rfl (by omega) (by decide) (v := h 61 25 + 1) (by rw [up2_k _ _ _ (by decide), up2_s]) ?_
            refine x_iconst a 98 1 d_M_port_98 (by decide) ?_
            refine x_isub a 99 d_M_port_99 ?_
            exact x_iret a qf 100 d_M_port_100 rfl ⟨by unfold m_port; rw [if_pos ⟨c4, c11, c16, c25, c34⟩], by unfold m_port; rw [if_pos ⟨c4, c11, c16, c25, c34⟩]⟩
          · refine x_iconst a 37 (-1) d_M_port_37 (by decide) ?_
            exact x_iret a qf 38 d_M_port_38 rfl ⟨by unfold m_port; rw [if_neg (by rintro ⟨z1, z2, z3, z4, z5⟩; first | exact c4 z1 | exact c11 z2 | exact z3 c16 | exact c25 z4 | exact z5 c34)], by unfold m_port; rw [if_neg (by rintro ⟨z1, z2, z3, z4, z5⟩; first | exact c4 z1 | exact c11 z2 | exact z3 c16 | exact c25 z4 | exact z5 c34)]⟩
set_option maxRecDepth 100000 in
set_option maxHeartbeats 4000000 in
theorem c_M_action (h : Hp) (p f x : Int32) : Cn u_M_action 2 0 0 (w0 h) [.inr (some 61), .inl p, .inl f, .inl x] (fun v w' => v = some (m_action h p f x).2 ∧ w' = w0 (m_action h p f x).1) := by
  refine Cn.of (by decide +kernel) (Nat.le_of_ble_eq_true rfl) (fun E ad a qf => ?_)
  have qa := qf.2.2.2
  have hcs : 0 ≤ (eR E).cells ∧ 0 ≤ (eR E).slots := ⟨Nat.zero_le _, Nat.zero_le _⟩
  refine x_iload_n a 0 d_M_action_0 rfl ?_
  refine x_callS a qa 1 g_M_87 d_M_action_1 (c_M_isOne _ _) rfl rfl (by decide) (Nat.le_of_ble_eq_true rfl) hcs (fun v w' hp => ?_)
  obtain ⟨rfl, rfl⟩ := hp
  refine x_st1 ?_
  refine x_ifB_eq a 4 25 d_M_action_4 (by decide) (fun c4 => ?_) (fun c4 => ?_)
  · refine x_iconst a 25 0 d_M_action_25 (by decide) ?_
    exact x_zret a qf 26 d_M_action_26 rfl rfl ⟨by unfold m_action; rw [if_neg (by rintro ⟨z1, z2, z3⟩; first | exact c4 z1 | exact c13 z2 | exact c22 z3)], by unfold m_action; rw [if_neg (by rintro ⟨z1, z2, z3⟩; first | exact c4 z1 | exact c13 z2 | exact c22 z3)]⟩
  · refine x_iload_n a 7 d_M_action_7 rfl ?_
    refine x_iconst a 8 1 d_M_action_8 (by decide) ?_
    refine x_iconst a 9 4 d_M_action_9 (by decide) ?_
    refine x_callS a qa 10 g_M_83 d_M_action_10 (c_M_in _ _ _ _) rfl rfl (by decide) (Nat.le_of_ble_eq_true rfl) hcs (fun v w' hp => ?_)
    obtain ⟨rfl, rfl⟩ := hp
    refine x_st1 ?_
    refine x_ifB_eq a 13 25 d_M_action_13 (by decide) (fun c13 => ?_) (fun c13 => ?_)
    · refine x_iconst a 25 0 d_M_action_25 (by decide) ?_
      exact x_zret a qf 26 d_M_action_26 rfl rfl ⟨by unfold m_action; rw [if_neg (by rintro ⟨z1, z2, z3⟩; first | exact c4 z1 | exact c13 z2 | exact c22 z3)], by unfold m_action; rw [if_neg (by rintro ⟨z1, z2, z3⟩; first | exact c4 z1 | exact c13 z2 | exact c22 z3)]⟩
    · refine x_iload_n a 16 d_M_action_16 rfl ?_
      refine x_iconst a 17 0 d_M_action_17 (by decide) ?_
      refine x_iconst a 18 2 d_M_action_18 (by decide) ?_
      refine x_callS a qa 19 g_M_83 d_M_action_19 (c_M_in _ _ _ _) rfl rfl (by decide) (Nat.le_of_ble_eq_true rfl) hcs (fun v w' hp => ?_)
      obtain ⟨rfl, rfl⟩ := hp
      refine x_st1 ?_
      refine x_ifB_ne a 22 27 d_M_action_22 (by decide) (fun c22 => ?_) (fun c22 => ?_)
      · obtain ⟨j, hj, rfl⟩ := vp_in_of (x := p) (n := 4) (vp_in_iff.mpr (by have c1 := c4.1; have c2 := c4.2; (try simp (disch := omega) only [Int32.le_iff_toInt_le, Int32.lt_iff_toInt_lt, ← Int32.toInt_inj, Int32.reduceToInt, nI_1, nI_add, pk_sub, nI_toInt] at *); omega)) (by decide)
        obtain ⟨i, hi, rfl⟩ := vp_in_of (x := f) (n := 5) (vp_in_iff.mpr (by have z1 := c13.1; have z2 := c13.2; (try simp (disch := omega) only [Int32.le_iff_toInt_le, Int32.lt_iff_toInt_lt, ← Int32.toInt_inj, Int32.reduceToInt, nI_1, nI_add, pk_sub, nI_toInt] at *); omega)) (by decide)
        have hi1 : 1 ≤ i := by have z1 := c13.1; (try simp (disch := omega) only [Int32.le_iff_toInt_le, Int32.lt_iff_toInt_lt, ← Int32.toInt_inj, Int32.reduceToInt, nI_1, nI_add, pk_sub, nI_toInt] at *); omega
        refine x_aload_n a 27 d_M_action_27 rfl ?_
        refine x_getR a 28 f_M_40 d_M_action_28 rfl (by omega) (by decide) (o' := 72) rfl ?_
        refine x_iconst a 31 4 d_M_action_31 (by decide) ?_
        refine x_iload_n a 32 d_M_action_32 rfl ?_
        refine x_imul a 33 d_M_action_33 ?_
        refine x_iload_n a 34 d_M_action_34 rfl ?_
        refine x_iadd a 35 d_M_action_35 ?_
        refine x_iconst a 36 1 d_M_action_36 (by decide) ?_
        refine x_isub a 37 d_M_action_37 ?_
        refine x_iload_n a 38 d_M_action_38 rfl ?_
        refine x_iast a 39 d_M_action_39 rfl (by omega) (j := 4 * j + i - 1) (by rw [ix_n (k := 4) (K := 4) rfl]; exact pk_sub (b := 1) (by omega)) (by omega) (by decide) ?_
        refine x_aload_n a 40 d_M_action_40 rfl ?_
        refine x_iconst a 41 0 d_M_action_41 (by decide) ?_
        refine x_putI a 42 f_M_91 d_M_action_42 rfl (by omega) (by decide) rfl rfl rfl ?_
        refine x_iconst a 45 1 d_M_action_45 (by decide) ?_
        exact x_zret a qf 46 d_M_action_46 rfl rfl ⟨by unfold m_action; rw [if_pos ⟨c4, c13, c22⟩], by unfold m_action; rw [if_pos ⟨c4, c13, c22⟩, tn_nI (k := j) (by omega), tn_nI (k := i) (by omega)]⟩
      · refine x_iconst a 25 0 d_M_action_25 (by decide) ?_
        exact x_zret a qf 26 d_M_action_26 rfl rfl ⟨by unfold m_action; rw [if_neg (by rintro ⟨z1, z2, z3⟩; first | exact c4 z1 | exact c13 z2 | exact c22 z3)], by unfold m_action; rw [if_neg (by rintro ⟨z1, z2, z3⟩; first | exact c4 z1 | exact c13 z2 | exact c22 z3)]⟩
set_option maxRecDepth 100000 in
set_option maxHeartbeats 4000000 in
theorem c_M_code (h : Hp) (p i o x b : Int32) : Cn u_M_code 2 0 0 (w0 h) [.inr (some 61), .inl p, .inl i, .inl o, .inl x, .inl b] (fun v w' => v = some (m_code h p i o x b).2 ∧ w' = w0 (m_code h p i o x b).1) := by
  refine Cn.of (by decide +kernel) (Nat.le_of_ble_eq_true rfl) (fun E ad a qf => ?_)
  have qa := qf.2.2.2
  have hcs : 0 ≤ (eR E).cells ∧ 0 ≤ (eR E).slots := ⟨Nat.zero_le _, Nat.zero_le _⟩
  refine x_iload_n a 0 d_M_code_0 rfl ?_
  refine x_callS a qa 1 g_M_87 d_M_code_1 (c_M_isOne _ _) rfl rfl (by decide) (Nat.le_of_ble_eq_true rfl) hcs (fun v w' hp => ?_)
  obtain ⟨rfl, rfl⟩ := hp
  refine x_st1 ?_
  refine x_ifB_eq a 4 17 d_M_code_4 (by decide) (fun c4 => ?_) (fun c4 => ?_)
  · refine x_iconst a 17 0 d_M_code_17 (by decide) ?_
    exact x_zret a qf 18 d_M_code_18 rfl rfl ⟨by unfold m_code; rw [if_neg (by rintro ⟨z1, z2⟩; first | exact c4 z1 | exact c14 z2)], by unfold m_code; rw [if_neg (by rintro ⟨z1, z2⟩; first | exact c4 z1 | exact c14 z2)]⟩
  · refine x_iload_n a 7 d_M_code_7 rfl ?_
    refine x_iconst a 8 0 d_M_code_8 (by decide) ?_
    refine x_bipush a 9 15 d_M_code_9 (by decide) ?_
    refine x_callS a qa 11 g_M_83 d_M_code_11 (c_M_in _ _ _ _) rfl rfl (by decide) (Nat.le_of_ble_eq_true rfl) hcs (fun v w' hp => ?_)
    obtain ⟨rfl, rfl⟩ := hp
    refine x_st1 ?_
    refine x_ifB_ne a 14 19 d_M_code_14 (by decide) (fun c14 => ?_) (fun c14 => ?_)
    · obtain ⟨j, hj, rfl⟩ := vp_in_of (x := p) (n := 4) (vp_in_iff.mpr (by have c1 := c4.1; have c2 := c4.2; (try simp (disch := omega) only [Int32.le_iff_toInt_le, Int32.lt_iff_toInt_lt, ← Int32.toInt_inj, Int32.reduceToInt, nI_1, nI_add, pk_sub, nI_toInt] at *); omega)) (by decide)
      obtain ⟨k, hk, rfl⟩ := vp_in_of (x := i) (n := 16) (vp_in_iff.mpr (by have z1 := c14.1; have z2 := c14.2; (try simp (disch := omega) only [Int32.le_iff_toInt_le, Int32.lt_iff_toInt_lt, ← Int32.toInt_inj, Int32.reduceToInt, nI_1, nI_add, pk_sub, nI_toInt] at *); omega)) (by decide)
      refine x_bipush a 19 16 d_M_code_19 (by decide) ?_
      refine x_iload_n a 21 d_M_code_21 rfl ?_
      refine x_imul a 22 d_M_code_22 ?_
      refine x_iload_n a 23 d_M_code_23 rfl ?_
      refine x_iadd a 24 d_M_code_24 ?_
      refine x_push (ix_n (K := 16) rfl j k) ?_
      refine x_istore a 25 d_M_code_25 (by decide) ?_
      refine x_aload_n a 27 d_M_code_27 rfl ?_
      refine x_getR a 28 f_M_43 d_M_code_28 rfl (by omega) (by decide) (o' := 73) rfl ?_
      refine x_iload a 31 d_M_code_31 rfl ?_
      refine x_iload_n a 33 d_M_code_33 rfl ?_
      refine x_iast a 34 d_M_code_34 rfl (by omega) (j := (16 * j + k)) rfl (by omega) (by decide) ?_
      refine x_aload_n a 35 d_M_code_35 rfl ?_
      refine x_getR a 36 f_M_46 d_M_code_36 rfl (by omega) (by decide) (o' := 74) rfl ?_
      refine x_iload a 39 d_M_code_39 rfl ?_
      refine x_iload a 41 d_M_code_41 rfl ?_
      refine x_iast a 43 d_M_code_43 rfl (by omega) (j := (16 * j + k)) rfl (by omega) (by decide) ?_
      refine x_aload_n a 44 d_M_code_44 rfl ?_
      refine x_getR a 45 f_M_49 d_M_code_45 rfl (by omega) (by decide) (o' := 75) rfl ?_
      refine x_iload a 48 d_M_code_48 rfl ?_
      refine x_iload a 50 d_M_code_50 rfl ?_
      refine x_iast a 52 d_M_code_52 rfl (by omega) (j := (16 * j + k)) rfl (by omega) (by decide) ?_
      refine x_aload_n a 53 d_M_code_53 rfl ?_
      refine x_iconst a 54 0 d_M_code_54 (by decide) ?_
      refine x_putI a 55 f_M_91 d_M_code_55 rfl (by omega) (by decide) rfl rfl rfl ?_
      refine x_iconst a 58 1 d_M_code_58 (by decide) ?_
      exact x_zret a qf 59 d_M_code_59 rfl rfl ⟨by unfold m_code; rw [if_pos ⟨c4, c14⟩], by unfold m_code; rw [if_pos ⟨c4, c14⟩, tn_nI (k := j) (by omega), tn_nI (k := k) (by omega)]⟩
    · refine x_iconst a 17 0 d_M_code_17 (by decide) ?_
      exact x_zret a qf 18 d_M_code_18 rfl rfl ⟨by unfold m_code; rw [if_neg (by rintro ⟨z1, z2⟩; first | exact c4 z1 | exact c14 z2)], by unfold m_code; rw [if_neg (by rintro ⟨z1, z2⟩; first | exact c4 z1 | exact c14 z2)]⟩
set_option maxRecDepth 100000 in
set_option maxHeartbeats 4000000 in
theorem c_M_takesPart (h : Hp) {p : Nat} (hp4 : p < 4) : Cn u_M_takesPart 0 0 0 (w0 h) [.inr (some 61), .inl (nI p)] (fun r w' => r = some (bI (m_part h p)) ∧ w' = w0 h) := by
  refine Cn.of (by decide +kernel) (Nat.le_of_ble_eq_true rfl) (fun E ad a qf => ?_)
  have qa := qf.2.2.2
  have hcs : 0 ≤ (eR E).cells ∧ 0 ≤ (eR E).slots := ⟨Nat.zero_le _, Nat.zero_le _⟩
  refine x_aload_n a 0 d_M_takesPart_0 rfl ?_
  refine x_getR a 1 f_M_7 d_M_takesPart_1 rfl (by omega) (by decide) (o' := 62) rfl ?_
  refine x_iload_n a 4 d_M_takesPart_4 rfl ?_
  refine x_iald a 5 d_M_takesPart_5 rfl (by omega) (j := p) rfl (by omega) (by decide) rfl ?_
  refine x_if_lt a 6 13 d_M_takesPart_6 (by decide) (fun c6 => ?_) (fun c6 => ?_)
  · refine x_iconst a 13 0 d_M_takesPart_13 (by decide) ?_
    exact x_zret a qf 14 d_M_takesPart_14 rfl rfl ⟨by first | rw [bI_f (by (try simp (disch := omega) only [Int32.le_iff_toInt_le, Int32.lt_iff_toInt_lt, ← Int32.toInt_inj, Int32.reduceToInt, nI_1, nI_add, pk_sub, nI_toInt] at *); omega)] | rw [bI_t (by (try simp (disch := omega) only [Int32.le_iff_toInt_le, Int32.lt_iff_toInt_lt, ← Int32.toInt_inj, Int32.reduceToInt, nI_1, nI_add, pk_sub, nI_toInt] at *); omega)], rfl⟩
  · refine x_iconst a 9 1 d_M_takesPart_9 (by decide) ?_
    refine x_goto a 10 14 d_M_takesPart_10 (by decide) ?_
    exact x_zret a qf 14 d_M_takesPart_14 rfl rfl ⟨by first | rw [bI_f (by (try simp (disch := omega) only [Int32.le_iff_toInt_le, Int32.lt_iff_toInt_lt, ← Int32.toInt_inj, Int32.reduceToInt, nI_1, nI_add, pk_sub, nI_toInt] at *); omega)] | rw [bI_t (by (try simp (disch := omega) only [Int32.le_iff_toInt_le, Int32.lt_iff_toInt_lt, ← Int32.toInt_inj, Int32.reduceToInt, nI_1, nI_add, pk_sub, nI_toInt] at *); omega)], rfl⟩
set_option maxRecDepth 100000 in
set_option maxHeartbeats 4000000 in
theorem c_M_goOn (h : Hp) {p : Nat} (hp4 : p < 4) : Cn u_M_goOn 0 0 0 (w0 h) [.inr (some 61), .inl (nI p)] (fun r w' => r = none ∧ w' = w0 (m_go h p)) := by
  refine Cn.of (by decide +kernel) (Nat.le_of_ble_eq_true rfl) (fun E ad a qf => ?_)
  have qa := qf.2.2.2
  have hcs : 0 ≤ (eR E).cells ∧ 0 ≤ (eR E).slots := ⟨Nat.zero_le _, Nat.zero_le _⟩
  refine x_aload_n a 0 d_M_goOn_0 rfl ?_
  refine x_getR a 1 f_M_58 d_M_goOn_1 rfl (by omega) (by decide) (o' := 78) rfl ?_
  refine x_iload_n a 4 d_M_goOn_4 rfl ?_
  refine x_dup2 a 5 d_M_goOn_5 ?_
  refine x_iald a 6 d_M_goOn_6 rfl (by omega) (j := p) rfl (by omega) (by decide) rfl ?_
  refine x_iconst a 7 1 d_M_goOn_7 (by decide) ?_
  refine x_iadd a 8 d_M_goOn_8 ?_
  refine x_iast a 9 d_M_goOn_9 rfl (by omega) (j := p) rfl (by omega) (by decide) ?_
  exact x_vret a qf 10 d_M_goOn_10 rfl ⟨rfl, rfl⟩
set_option maxRecDepth 100000 in
set_option maxHeartbeats 4000000 in
theorem c_M_input (h : Hp) (p x : Int32) (hi : ∀ j, j < 4 → Nlt (h 82 j) 9) : Cn u_M_input 2 0 0 (w0 h) [.inr (some 61), .inl p, .inl x] (fun v w' => v = some (m_input h p x).2 ∧ w' = w0 (m_input h p x).1) := by
  refine Cn.of (by decide +kernel) (Nat.le_of_ble_eq_true rfl) (fun E ad a qf => ?_)
  have qa := qf.2.2.2
  have hcs : 0 ≤ (eR E).cells ∧ 0 ≤ (eR E).slots := ⟨Nat.zero_le _, Nat.zero_le _⟩
  refine x_iload_n a 0 d_M_input_0 rfl ?_
  refine x_callS a qa 1 g_M_87 d_M_input_1 (c_M_isOne _ _) rfl rfl (by decide) (Nat.le_of_ble_eq_true rfl) hcs (fun v w' hp => ?_)
  obtain ⟨rfl, rfl⟩ := hp
  refine x_st1 ?_
  refine x_ifB_eq a 4 18 d_M_input_4 (by decide) (fun c4 => ?_) (fun c4 => ?_)
  · refine x_iconst a 18 (-1) d_M_input_18 (by decide) ?_
    exact x_iret a qf 19 d_M_input_19 rfl ⟨by unfold m_input; first | (rw [if_neg (fun z => c4 z.1)]; done) | (rw [tn_nI (k := j) (by omega), if_neg (fun z => z.2 c15)]; done), by unfold m_input; first | (rw [if_neg (fun z => c4 z.1)]; done) | (rw [tn_nI (k := j) (by omega), if_neg (fun z => z.2 c15)]; done)⟩
  · obtain ⟨j, hj, rfl⟩ := vp_in_of (x := p) (n := 4) (vp_in_iff.mpr (by have c1 := c4.1; have c2 := c4.2; (try simp (disch := omega) only [Int32.le_iff_toInt_le, Int32.lt_iff_toInt_lt, ← Int32.toInt_inj, Int32.reduceToInt, nI_1, nI_add, pk_sub, nI_toInt] at *); omega)) (by decide)
    refine x_aload_n a 7 d_M_input_7 rfl ?_
    refine x_getR a 8 f_M_71 d_M_input_8 rfl (by omega) (by decide) (o' := 82) rfl ?_
    refine x_iload_n a 11 d_M_input_11 rfl ?_
    refine x_iald a 12 d_M_input_12 rfl (by omega) (j := j) rfl hj (by decide) rfl ?_
    refine x_bipush a 13 8 d_M_input_13 (by decide) ?_
    refine x_icmp_ne a 15 20 d_M_input_15 (by decide) (fun c15 => ?_) (fun c15 => ?_)
    · have hi9 := (hi j hj).1
      have hi2 := (hi j hj).2
      have hi8 : tn (h 82 j) < 8 := by rw [hi2] at c15; exact (by (try simp (disch := omega) only [Int32.le_iff_toInt_le, Int32.lt_iff_toInt_lt, ← Int32.toInt_inj, Int32.reduceToInt, nI_1, nI_add, pk_sub, nI_toInt] at *); omega)
      refine x_aload_n a 20 d_M_input_20 rfl ?_
      refine x_getR a 21 f_M_74 d_M_input_21 rfl (by omega) (by decide) (o' := 83) rfl ?_
      refine x_bipush a 24 8 d_M_input_24 (by decide) ?_
      refine x_iload_n a 26 d_M_input_26 rfl ?_
      refine x_imul a 27 d_M_input_27 ?_
      refine x_aload_n a 28 d_M_input_28 rfl ?_
      refine x_getR a 29 f_M_71 d_M_input_29 rfl (by omega) (by decide) (o' := 82) rfl ?_
      refine x_iload_n a 32 d_M_input_32 rfl ?_
      refine x_iald a 33 d_M_input_33 rfl (by omega) (j := j) rfl hj (by decide) rfl ?_
      refine x_iadd a 34 d_M_input_34 ?_
      refine x_iload_n a 35 d_M_input_35 rfl ?_
      refine x_iast a 36 d_M_input_36 rfl (by omega) (j := 8 * j + tn (h 82 j)) (by rw [hi2, ix_n (k := 8) (K := 8) rfl, ← hi2]) (by omega) (by decide) ?_
      refine x_aload_n a 37 d_M_input_37 rfl ?_
      refine x_getR a 38 f_M_71 d_M_input_38 rfl (by omega) (by decide) (o' := 82) rfl ?_
      refine x_iload_n a 41 d_M_input_41 rfl ?_
      refine x_dup2 a 42 d_M_input_42 ?_
      refine x_iald a 43 d_M_input_43 rfl (by omega) (j := j) rfl hj (by decide) (v := h 82 j) (by rw [up2_o _ _ _ (by omega)]) ?_
      refine x_iconst a 44 1 d_M_input_44 (by decide) ?_
      refine x_iadd a 45 d_M_input_45 ?_
      refine x_iast a 46 d_M_input_46 rfl (by omega) (j := j) rfl hj (by decide) ?_
      refine x_aload_n a 47 d_M_input_47 rfl ?_
      refine x_getR a 48 f_M_71 d_M_input_48 rfl (by omega) (by decide) (o' := 82) rfl ?_
      refine x_iload_n a 51 d_M_input_51 rfl ?_
      refine x_iald a 52 d_M_input_52 rfl (by omega) (j := j) rfl hj (by decide) (v := h 82 j + 1) (up2_s _ _ _ _) ?_
      exact x_iret a qf 53 d_M_input_53 rfl ⟨by unfold m_input; rw [tn_nI (k := j) (by omega), if_pos ⟨c4, c15⟩], by unfold m_input; rw [tn_nI (k := j) (by omega), if_pos ⟨c4, c15⟩]⟩
    · refine x_iconst a 18 (-1) d_M_input_18 (by decide) ?_
      exact x_iret a qf 19 d_M_input_19 rfl ⟨by unfold m_input; first | (rw [if_neg (fun z => c4 z.1)]; done) | (rw [tn_nI (k := j) (by omega), if_neg (fun z => z.2 c15)]; done), by unfold m_input; first | (rw [if_neg (fun z => c4 z.1)]; done) | (rw [tn_nI (k := j) (by omega), if_neg (fun z => z.2 c15)]; done)⟩
set_option maxRecDepth 100000 in
set_option maxHeartbeats 4000000 in
theorem c_M_output (h : Hp) (p i : Int32) : Cn u_M_output 2 0 0 (w0 h) [.inr (some 61), .inl p, .inl i] (fun v w' => v = some (m_output h p i) ∧ w' = w0 h) := by
  refine Cn.of (by decide +kernel) (Nat.le_of_ble_eq_true rfl) (fun E ad a qf => ?_)
  have qa := qf.2.2.2
  have hcs : 0 ≤ (eR E).cells ∧ 0 ≤ (eR E).slots := ⟨Nat.zero_le _, Nat.zero_le _⟩
  refine x_iload_n a 0 d_M_output_0 rfl ?_
  refine x_callS a qa 1 g_M_87 d_M_output_1 (c_M_isOne _ _) rfl rfl (by decide) (Nat.le_of_ble_eq_true rfl) hcs (fun v w' hp => ?_)
  obtain ⟨rfl, rfl⟩ := hp
  refine x_st1 ?_
  refine x_ifB_eq a 4 41 d_M_output_4 (by decide) (fun c4 => ?_) (fun c4 => ?_)
  · refine x_iconst a 41 0 d_M_output_41 (by decide) ?_
    exact x_iret a qf 42 d_M_output_42 rfl ⟨by unfold m_output; first | (rw [if_neg (fun z => c4 z.1)]; done) | (rw [if_neg (fun z => c14 z.2.1)]; done) | (rw [tn_nI (k := j) (by omega), if_neg (fun z => absurd z.2.2 (Int32.not_lt.mpr c24))]; done), rfl⟩
  · refine x_iload_n a 7 d_M_output_7 rfl ?_
    refine x_iconst a 8 0 d_M_output_8 (by decide) ?_
    refine x_bipush a 9 15 d_M_output_9 (by decide) ?_
    refine x_callS a qa 11 g_M_83 d_M_output_11 (c_M_in _ _ _ _) rfl rfl (by decide) (Nat.le_of_ble_eq_true rfl) hcs (fun v w' hp => ?_)
    obtain ⟨rfl, rfl⟩ := hp
    refine x_st1 ?_
    refine x_ifB_eq a 14 41 d_M_output_14 (by decide) (fun c14 => ?_) (fun c14 => ?_)
    · refine x_iconst a 41 0 d_M_output_41 (by decide) ?_
      exact x_iret a qf 42 d_M_output_42 rfl ⟨by unfold m_output; first | (rw [if_neg (fun z => c4 z.1)]; done) | (rw [if_neg (fun z => c14 z.2.1)]; done) | (rw [tn_nI (k := j) (by omega), if_neg (fun z => absurd z.2.2 (Int32.not_lt.mpr c24))]; done), rfl⟩
    · obtain ⟨j, hj, rfl⟩ := vp_in_of (x := p) (n := 4) (vp_in_iff.mpr (by have c1 := c4.1; have c2 := c4.2; (try simp (disch := omega) only [Int32.le_iff_toInt_le, Int32.lt_iff_toInt_lt, ← Int32.toInt_inj, Int32.reduceToInt, nI_1, nI_add, pk_sub, nI_toInt] at *); omega)) (by decide)
      refine x_iload_n a 17 d_M_output_17 rfl ?_
      refine x_aload_n a 18 d_M_output_18 rfl ?_
      refine x_getR a 19 f_M_77 d_M_output_19 rfl (by omega) (by decide) (o' := 84) rfl ?_
      refine x_iload_n a 22 d_M_output_22 rfl ?_
      refine x_iald a 23 d_M_output_23 rfl (by omega) (j := j) rfl hj (by decide) rfl ?_
      refine x_icmp_ge a 24 41 d_M_output_24 (by decide) (fun c24 => ?_) (fun c24 => ?_)
      · refine x_iconst a 41 0 d_M_output_41 (by decide) ?_
        exact x_iret a qf 42 d_M_output_42 rfl ⟨by unfold m_output; first | (rw [if_neg (fun z => c4 z.1)]; done) | (rw [if_neg (fun z => c14 z.2.1)]; done) | (rw [tn_nI (k := j) (by omega), if_neg (fun z => absurd z.2.2 (Int32.not_lt.mpr c24))]; done), rfl⟩
      · obtain ⟨k, hk, rfl⟩ := vp_in_of (x := i) (n := 16) (vp_in_iff.mpr (by have z1 := c14.1; have z2 := c14.2; (try simp (disch := omega) only [Int32.le_iff_toInt_le, Int32.lt_iff_toInt_lt, ← Int32.toInt_inj, Int32.reduceToInt, nI_1, nI_add, pk_sub, nI_toInt] at *); omega)) (by decide)
        refine x_aload_n a 27 d_M_output_27 rfl ?_
        refine x_getR a 28 f_M_80 d_M_output_28 rfl (by omega) (by decide) (o' := 85) rfl ?_
        refine x_bipush a 31 16 d_M_output_31 (by decide) ?_
        refine x_iload_n a 33 d_M_output_33 rfl ?_
        refine x_imul a 34 d_M_output_34 ?_
        refine x_iload_n a 35 d_M_output_35 rfl ?_
        refine x_iadd a 36 d_M_output_36 ?_
        refine x_iald a 37 d_M_output_37 rfl (by omega) (j := 16 * j + k) (ix_n (K := 16) rfl j k) (by omega) (by decide) rfl ?_
        refine x_goto a 38 42 d_M_output_38 (by decide) ?_
        exact x_iret a qf 42 d_M_output_42 rfl ⟨by unfold m_output; rw [tn_nI (k := j) (by omega), if_pos ⟨c4, c14, Int32.not_le.mp c24⟩, tn_nI (k := k) (by omega)], rfl⟩
set_option maxRecDepth 100000 in
set_option maxHeartbeats 4000000 in
theorem c_M_about (h : Hp) (p x : Int32) : Cn u_M_about 2 0 0 (w0 h) [.inr (some 61), .inl p, .inl x] (fun v w' => v = some (m_about h p x) ∧ w' = w0 h) := by
  refine Cn.of (by decide +kernel) (Nat.le_of_ble_eq_true rfl) (fun E ad a qf => ?_)
  have qa := qf.2.2.2
  have hcs : 0 ≤ (eR E).cells ∧ 0 ≤ (eR E).slots := ⟨Nat.zero_le _, Nat.zero_le _⟩
  refine x_iload_n a 0 d_M_about_0 rfl ?_
  refine x_callS a qa 1 g_M_87 d_M_about_1 (c_M_isOne _ _) rfl rfl (by decide) (Nat.le_of_ble_eq_true rfl) hcs (fun v w' hp => ?_)
  obtain ⟨rfl, rfl⟩ := hp
  refine x_st1 ?_
  refine x_ifB_eq a 4 17 d_M_about_4 (by decide) (fun c4 => ?_) (fun c4 => ?_)
  · refine x_iconst a 17 (-1) d_M_about_17 (by decide) ?_
    exact x_iret a qf 18 d_M_about_18 rfl ⟨by unfold m_about; rw [if_neg (by rintro ⟨z1, z2⟩; first | exact c4 z1 | exact c14 z2)], rfl⟩
  · refine x_iload_n a 7 d_M_about_7 rfl ?_
    refine x_iconst a 8 0 d_M_about_8 (by decide) ?_
    refine x_bipush a 9 8 d_M_about_9 (by decide) ?_
    refine x_callS a qa 11 g_M_83 d_M_about_11 (c_M_in _ _ _ _) rfl rfl (by decide) (Nat.le_of_ble_eq_true rfl) hcs (fun v w' hp => ?_)
    obtain ⟨rfl, rfl⟩ := hp
    refine x_st1 ?_
    refine x_ifB_ne a 14 19 d_M_about_14 (by decide) (fun c14 => ?_) (fun c14 => ?_)
    · obtain ⟨j, hj, rfl⟩ := vp_in_of (x := p) (n := 4) (vp_in_iff.mpr (by have c1 := c4.1; have c2 := c4.2; (try simp (disch := omega) only [Int32.le_iff_toInt_le, Int32.lt_iff_toInt_lt, ← Int32.toInt_inj, Int32.reduceToInt, nI_1, nI_add, pk_sub, nI_toInt] at *); omega)) (by decide)
      refine x_iload_n a 19 d_M_about_19 rfl ?_
      refine x_iconst a 20 4 d_M_about_20 (by decide) ?_
      refine x_icmp_ge a 21 35 d_M_about_21 (by decide) (fun c21 => ?_) (fun c21 => ?_)
      · refine x_iload_n a 35 d_M_about_35 rfl ?_
        refine x_iconst a 36 4 d_M_about_36 (by decide) ?_
        refine x_icmp_ne a 37 47 d_M_about_37 (by decide) (fun c37 => ?_) (fun c37 => ?_)
        · refine x_iload_n a 47 d_M_about_47 rfl ?_
          refine x_iconst a 48 5 d_M_about_48 (by decide) ?_
          refine x_icmp_ne a 49 67 d_M_about_49 (by decide) (fun c49 => ?_) (fun c49 => ?_)
          · refine x_iload_n a 67 d_M_about_67 rfl ?_
            refine x_bipush a 68 6 d_M_about_68 (by decide) ?_
            refine x_icmp_ne a 70 82 d_M_about_70 (by decide) (fun c70 => ?_) (fun c70 => ?_)
            · refine x_iload_n a 82 d_M_about_82 rfl ?_
              refine x_bipush a 83 7 d_M_about_83 (by decide) ?_
              refine x_icmp_ne a 85 97 d_M_about_85 (by decide) (fun c85 => ?_) (fun c85 => ?_)
              · refine x_aload_n a 97 d_M_about_97 rfl ?_
                refine x_getR a 98 f_M_71 d_M_about_98 rfl (by omega) (by decide) (o' := 82) rfl ?_
                refine x_iload_n a 101 d_M_about_101 rfl ?_
                refine x_iald a 102 d_M_about_102 rfl (by omega) (j := j) rfl hj (by decide) rfl ?_
                exact x_iret a qf 103 d_M_about_103 rfl ⟨by unfold m_about; rw [tn_nI (k := j) (by omega), if_pos ⟨c4, c14⟩, if_neg (Int32.not_lt.mpr c21), if_neg c37, if_neg c49]; first | (rw [if_pos c70]; done) | (rw [if_neg c70, if_pos c85]; done) | (rw [if_neg c70, if_neg c85]; done), rfl⟩
              · refine x_aload_n a 88 d_M_about_88 rfl ?_
                refine x_getR a 89 f_M_77 d_M_about_89 rfl (by omega) (by decide) (o' := 84) rfl ?_
                refine x_iload_n a 92 d_M_about_92 rfl ?_
                refine x_iald a 93 d_M_about_93 rfl (by omega) (j := j) rfl hj (by decide) rfl ?_
                refine x_goto a 94 103 d_M_about_94 (by decide) ?_
                exact x_iret a qf 103 d_M_about_103 rfl ⟨by unfold m_about; rw [tn_nI (k := j) (by omega), if_pos ⟨c4, c14⟩, if_neg (Int32.not_lt.mpr c21), if_neg c37, if_neg c49]; first | (rw [if_pos c70]; done) | (rw [if_neg c70, if_pos c85]; done) | (rw [if_neg c70, if_neg c85]; done), rfl⟩
            · refine x_aload_n a 73 d_M_about_73 rfl ?_
              refine x_getR a 74 f_M_61 d_M_about_74 rfl (by omega) (by decide) (o' := 79) rfl ?_
              refine x_iload_n a 77 d_M_about_77 rfl ?_
              refine x_iald a 78 d_M_about_78 rfl (by omega) (j := j) rfl hj (by decide) rfl ?_
              refine x_goto a 79 103 d_M_about_79 (by decide) ?_
              exact x_iret a qf 103 d_M_about_103 rfl ⟨by unfold m_about; rw [tn_nI (k := j) (by omega), if_pos ⟨c4, c14⟩, if_neg (Int32.not_lt.mpr c21), if_neg c37, if_neg c49]; first | (rw [if_pos c70]; done) | (rw [if_neg c70, if_pos c85]; done) | (rw [if_neg c70, if_neg c85]; done), rfl⟩
          · refine x_aload_n a 52 d_M_about_52 rfl ?_
            refine x_getR a 53 f_M_64 d_M_about_53 rfl (by omega) (by decide) (o' := 80) rfl ?_
            refine x_iload_n a 56 d_M_about_56 rfl ?_
            refine x_zald a 57 d_M_about_57 rfl (by omega) (j := j) rfl hj (by decide) rfl ?_
            refine x_if_eq a 58 65 d_M_about_58 (by decide) (fun c58 => ?_) (fun c58 => ?_)
            · refine x_iconst a 65 0 d_M_about_65 (by decide) ?_
              exact x_iret a qf 66 d_M_about_66 rfl ⟨by unfold m_about; rw [tn_nI (k := j) (by omega), if_pos ⟨c4, c14⟩, if_neg (Int32.not_lt.mpr c21), if_neg c37, if_pos c49]; first | (rw [if_pos c58]; done) | (rw [if_neg c58]; done), rfl⟩
            · refine x_iconst a 61 1 d_M_about_61 (by decide) ?_
              refine x_goto a 62 66 d_M_about_62 (by decide) ?_
              exact x_iret a qf 66 d_M_about_66 rfl ⟨by unfold m_about; rw [tn_nI (k := j) (by omega), if_pos ⟨c4, c14⟩, if_neg (Int32.not_lt.mpr c21), if_neg c37, if_pos c49]; first | (rw [if_pos c58]; done) | (rw [if_neg c58]; done), rfl⟩
        · refine x_aload_n a 40 d_M_about_40 rfl ?_
          refine x_getR a 41 f_M_58 d_M_about_41 rfl (by omega) (by decide) (o' := 78) rfl ?_
          refine x_iload_n a 44 d_M_about_44 rfl ?_
          refine x_iald a 45 d_M_about_45 rfl (by omega) (j := j) rfl hj (by decide) rfl ?_
          exact x_iret a qf 46 d_M_about_46 rfl ⟨by unfold m_about; rw [tn_nI (k := j) (by omega), if_pos ⟨c4, c14⟩, if_neg (Int32.not_lt.mpr c21), if_pos c37], rfl⟩
      · obtain ⟨k, hk, rfl⟩ := vp_in_of (x := x) (n := 4) (vp_in_iff.mpr (by have z1 := c14.1; have z2 := c14.2; (try simp (disch := omega) only [Int32.le_iff_toInt_le, Int32.lt_iff_toInt_lt, ← Int32.toInt_inj, Int32.reduceToInt, nI_1, nI_add, pk_sub, nI_toInt] at *); omega)) (by decide)
        refine x_aload_n a 24 d_M_about_24 rfl ?_
        refine x_getR a 25 f_M_55 d_M_about_25 rfl (by omega) (by decide) (o' := 77) rfl ?_
        refine x_iconst a 28 4 d_M_about_28 (by decide) ?_
        refine x_iload_n a 29 d_M_about_29 rfl ?_
        refine x_imul a 30 d_M_about_30 ?_
        refine x_iload_n a 31 d_M_about_31 rfl ?_
        refine x_iadd a 32 d_M_about_32 ?_
        refine x_iald a 33 d_M_about_33 rfl (by omega) (j := 4 * j + k) (ix_n (K := 4) rfl j k) (by omega) (by decide) rfl ?_
        exact x_iret a qf 34 d_M_about_34 rfl ⟨by unfold m_about; rw [tn_nI (k := j) (by omega), if_pos ⟨c4, c14⟩, if_pos (Int32.not_le.mp c21), tn_nI (k := k) (by omega)], rfl⟩
    · refine x_iconst a 17 (-1) d_M_about_17 (by decide) ?_
      exact x_iret a qf 18 d_M_about_18 rfl ⟨by unfold m_about; rw [if_neg (by rintro ⟨z1, z2⟩; first | exact c4 z1 | exact c14 z2)], rfl⟩
set_option maxRecDepth 100000 in
set_option maxHeartbeats 4000000 in
theorem c_M_word (h : Hp) (i : Int32) : Cn u_M_word 1 0 0 (w0 h) [.inr (some 61), .inl i] (fun v w' => v = some (m_word h i) ∧ w' = w0 h) := by
  refine Cn.of (by decide +kernel) (Nat.le_of_ble_eq_true rfl) (fun E ad a qf => ?_)
  have qa := qf.2.2.2
  have hcs : 0 ≤ (eR E).cells ∧ 0 ≤ (eR E).slots := ⟨Nat.zero_le _, Nat.zero_le _⟩
  refine x_iload_n a 0 d_M_word_0 rfl ?_
  refine x_iconst a 1 0 d_M_word_1 (by decide) ?_
  refine x_bipush a 2 63 d_M_word_2 (by decide) ?_
  refine x_callS a qa 4 g_M_83 d_M_word_4 (c_M_in _ _ _ _) rfl rfl (by decide) (Nat.le_of_ble_eq_true rfl) hcs (fun v w' hp => ?_)
  obtain ⟨rfl, rfl⟩ := hp
  refine x_st1 ?_
  refine x_ifB_eq a 7 19 d_M_word_7 (by decide) (fun c7 => ?_) (fun c7 => ?_)
  · refine x_iconst a 19 0 d_M_word_19 (by decide) ?_
    exact x_iret a qf 20 d_M_word_20 rfl ⟨by unfold m_word; rw [if_neg c7], rfl⟩
  · obtain ⟨j, hj, rfl⟩ := vp_in_of (x := i) (n := 64) (vp_in_iff.mpr (by have z1 := c7.1; have z2 := c7.2; (try simp (disch := omega) only [Int32.le_iff_toInt_le, Int32.lt_iff_toInt_lt, ← Int32.toInt_inj, Int32.reduceToInt, nI_1, nI_add, pk_sub, nI_toInt] at *); omega)) (by decide)
    refine x_aload_n a 10 d_M_word_10 rfl ?_
    refine x_getR a 11 f_M_52 d_M_word_11 rfl (by omega) (by decide) (o' := 76) rfl ?_
    refine x_iload_n a 14 d_M_word_14 rfl ?_
    refine x_iald a 15 d_M_word_15 rfl (by omega) (j := j) rfl hj (by decide) rfl ?_
    refine x_goto a 16 20 d_M_word_16 (by decide) ?_
    exact x_iret a qf 20 d_M_word_20 rfl ⟨by unfold m_word; rw [if_pos c7, tn_nI (k := j) (by omega)], rfl⟩
theorem in_ports {x y : Int32} {n : Nat} (hy : Nlt y (n + 1)) (hn : n ≤ 100) (h : mIn x 0 (y - 1)) : Nlt x n := by
  have h1 := hy.1
  have h2 := hy.int (by omega)
  have h3 := nn_tn h.1
  have h4 := tn_int h.1
  have h5 := h.2
  rw [Int32.le_iff_toInt_le, Int32.toInt_sub, h2, show (1 : Int32).toInt = 1 from rfl, Int.bmod_eq_of_le (by omega) (by omega)] at h5
  exact ⟨by omega, h3⟩
set_option maxRecDepth 100000 in
set_option maxHeartbeats 4000000 in
theorem c_M_waiting (h : Hp) (x : Int32) (hn : Nlt (h 61 25) 7) : Cn u_M_waiting 1 0 0 (w0 h) [.inr (some 61), .inl x] (fun v w' => v = some (m_waiting h x) ∧ w' = w0 h) := by
  refine Cn.of (by decide +kernel) (Nat.le_of_ble_eq_true rfl) (fun E ad a qf => ?_)
  have qa := qf.2.2.2
  have hcs : 0 ≤ (eR E).cells ∧ 0 ≤ (eR E).slots := ⟨Nat.zero_le _, Nat.zero_le _⟩
  refine x_iload_n a 0 d_M_waiting_0 rfl ?_
  refine x_iconst a 1 0 d_M_waiting_1 (by decide) ?_
  refine x_aload_n a 2 d_M_waiting_2 rfl ?_
  refine x_getI a 3 f_M_99 d_M_waiting_3 rfl (by omega) (by decide) rfl ?_
  refine x_iconst a 6 1 d_M_waiting_6 (by decide) ?_
  refine x_isub a 7 d_M_waiting_7 ?_
  refine x_callS a qa 8 g_M_83 d_M_waiting_8 (c_M_in _ _ _ _) rfl rfl (by decide) (Nat.le_of_ble_eq_true rfl) hcs (fun v w' hp => ?_)
  obtain ⟨rfl, rfl⟩ := hp
  refine x_st1 ?_
  refine x_ifB_eq a 11 23 d_M_waiting_11 (by decide) (fun c11 => ?_) (fun c11 => ?_)
  · refine x_iconst a 23 (-1) d_M_waiting_23 (by decide) ?_
    exact x_iret a qf 24 d_M_waiting_24 rfl ⟨by unfold m_waiting; rw [if_neg c11], rfl⟩
  · have hx := in_ports (n := 6) hn (by decide) c11
    refine x_aload_n a 14 d_M_waiting_14 rfl ?_
    refine x_getR a 15 f_M_31 d_M_waiting_15 rfl (by omega) (by decide) (o' := 69) rfl ?_
    refine x_iload_n a 18 d_M_waiting_18 rfl ?_
    refine x_iald a 19 d_M_waiting_19 rfl (by omega) (j := tn x) hx.2 hx.1 (by decide) rfl ?_
    refine x_goto a 20 24 d_M_waiting_20 (by decide) ?_
    exact x_iret a qf 24 d_M_waiting_24 rfl ⟨by unfold m_waiting; rw [if_pos c11], rfl⟩
set_option maxRecDepth 100000 in
set_option maxHeartbeats 4000000 in
theorem c_M_clock (h : Hp) (x : Int32) : Cn u_M_clock 0 0 0 (w0 h) [.inr (some 61), .inl x] (fun v w' => v = some (m_clock h x) ∧ w' = w0 h) := by
  refine Cn.of (by decide +kernel) (Nat.le_of_ble_eq_true rfl) (fun E ad a qf => ?_)
  have qa := qf.2.2.2
  have hcs : 0 ≤ (eR E).cells ∧ 0 ≤ (eR E).slots := ⟨Nat.zero_le _, Nat.zero_le _⟩
  refine x_aload_n a 0 d_M_clock_0 rfl ?_
  refine x_getI a 1 f_M_91 d_M_clock_1 rfl (by omega) (by decide) rfl ?_
  refine x_if_ne a 4 11 d_M_clock_4 (by decide) (fun c4 => ?_) (fun c4 => ?_)
  · refine x_iload_n a 11 d_M_clock_11 rfl ?_
    refine x_if_ne a 12 22 d_M_clock_12 (by decide) (fun c12 => ?_) (fun c12 => ?_)
    · refine x_iload_n a 22 d_M_clock_22 rfl ?_
      refine x_iconst a 23 1 d_M_clock_23 (by decide) ?_
      refine x_icmp_ne a 24 34 d_M_clock_24 (by decide) (fun c24 => ?_) (fun c24 => ?_)
      · refine x_iload_n a 34 d_M_clock_34 rfl ?_
        refine x_iconst a 35 2 d_M_clock_35 (by decide) ?_
        refine x_icmp_ne a 36 46 d_M_clock_36 (by decide) (fun c36 => ?_) (fun c36 => ?_)
        · refine x_iconst a 46 (-1) d_M_clock_46 (by decide) ?_
          exact x_iret a qf 47 d_M_clock_47 rfl ⟨by unfold m_clock; first | (rw [if_pos c4]; done) | (rw [if_neg c4, if_pos c12]; done) | (rw [if_neg c4, if_neg c12, if_pos c24]; done) | (rw [if_neg c4, if_neg c12, if_neg c24, if_pos c36]; done) | (rw [if_neg c4, if_neg c12, if_neg c24, if_neg c36]; done), rfl⟩
        · refine x_aload_n a 39 d_M_clock_39 rfl ?_
          refine x_getI a 40 f_M_115 d_M_clock_40 rfl (by omega) (by decide) rfl ?_
          refine x_goto a 43 47 d_M_clock_43 (by decide) ?_
          exact x_iret a qf 47 d_M_clock_47 rfl ⟨by unfold m_clock; first | (rw [if_pos c4]; done) | (rw [if_neg c4, if_pos c12]; done) | (rw [if_neg c4, if_neg c12, if_pos c24]; done) | (rw [if_neg c4, if_neg c12, if_neg c24, if_pos c36]; done) | (rw [if_neg c4, if_neg c12, if_neg c24, if_neg c36]; done), rfl⟩
      · refine x_aload_n a 27 d_M_clock_27 rfl ?_
        refine x_getI a 28 f_M_112 d_M_clock_28 rfl (by omega) (by decide) rfl ?_
        refine x_goto a 31 47 d_M_clock_31 (by decide) ?_
        exact x_iret a qf 47 d_M_clock_47 rfl ⟨by unfold m_clock; first | (rw [if_pos c4]; done) | (rw [if_neg c4, if_pos c12]; done) | (rw [if_neg c4, if_neg c12, if_pos c24]; done) | (rw [if_neg c4, if_neg c12, if_neg c24, if_pos c36]; done) | (rw [if_neg c4, if_neg c12, if_neg c24, if_neg c36]; done), rfl⟩
    · refine x_aload_n a 15 d_M_clock_15 rfl ?_
      refine x_getI a 16 f_M_109 d_M_clock_16 rfl (by omega) (by decide) rfl ?_
      refine x_goto a 19 47 d_M_clock_19 (by decide) ?_
      exact x_iret a qf 47 d_M_clock_47 rfl ⟨by unfold m_clock; first | (rw [if_pos c4]; done) | (rw [if_neg c4, if_pos c12]; done) | (rw [if_neg c4, if_neg c12, if_pos c24]; done) | (rw [if_neg c4, if_neg c12, if_neg c24, if_pos c36]; done) | (rw [if_neg c4, if_neg c12, if_neg c24, if_neg c36]; done), rfl⟩
  · refine x_iconst a 7 (-1) d_M_clock_7 (by decide) ?_
    refine x_goto a 8 47 d_M_clock_8 (by decide) ?_
    exact x_iret a qf 47 d_M_clock_47 rfl ⟨by unfold m_clock; first | (rw [if_pos c4]; done) | (rw [if_neg c4, if_pos c12]; done) | (rw [if_neg c4, if_neg c12, if_pos c24]; done) | (rw [if_neg c4, if_neg c12, if_neg c24, if_pos c36]; done) | (rw [if_neg c4, if_neg c12, if_neg c24, if_neg c36]; done), rfl⟩
