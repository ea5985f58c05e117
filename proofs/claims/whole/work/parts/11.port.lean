set_option maxRecDepth 100000 in
set_option maxHeartbeats 4000000 in
theorem c_Q_isSampling (h : Hp) {i : Nat} (hi : i < 6) : Cn u_Q_isSampling 0 0 0 (w0 h) [.inr (some (40 + 3 * i))] (fun v w' => v = some (bI (h (40 + 3 * i) 3 = 0)) ∧ w' = w0 h) := by
  refine Cn.of (by decide +kernel) (Nat.le_of_ble_eq_true rfl) (fun E ad a qf => ?_)
  have qa := qf.2.2.2
  have hcs : 0 ≤ (eR E).cells ∧ 0 ≤ (eR E).slots := ⟨Nat.zero_le _, Nat.zero_le _⟩
  refine x_aload_n a 0 d_Q_isSampling_0 rfl ?_
  refine x_getI a 1 f_Q_20 d_Q_isSampling_1 (kQ (by omega)) (by omega) (by decide) rfl ?_
  refine x_if_ne a 4 11 d_Q_isSampling_4 (by decide) (fun c4 => ?_) (fun c4 => ?_)
  · refine x_iconst a 11 0 d_Q_isSampling_11 (by decide) ?_
    exact x_zret a qf 12 d_Q_isSampling_12 rfl rfl ⟨by rw [bI_f c4], rfl⟩
  · refine x_iconst a 7 1 d_Q_isSampling_7 (by decide) ?_
    refine x_goto a 8 12 d_Q_isSampling_8 (by decide) ?_
    exact x_zret a qf 12 d_Q_isSampling_12 rfl rfl ⟨by rw [bI_t c4], rfl⟩
def q_put (h : Hp) (q v f c len lim : Nat) (x : Int32) : Hp := if c < lim ∧ c < len then up2 (up2 h v (qix f c len) x) q 2 (nI (c + 1)) else h
def s_send (h : Hp) (i j y : Nat) (now : Int32) (f c dp : Nat) : Hp :=
  if dp = 0 then up2 (up2 (up2 (up2 (up2 h (41 + 3 * i) 1 0) (41 + 3 * i) 2 0) (42 + 3 * i) 0 (h (8 + 9 * j) y)) (41 + 3 * i) 2 1) (40 + 3 * i) 4 now
  else up2 (q_put h (41 + 3 * i) (42 + 3 * i) f c 4 dp (h (8 + 9 * j) y)) (8 + 9 * j) 3 (bI (c < dp ∧ c < 4))
def s_recv (h : Hp) (i j y : Nat) (now : Int32) (f c dp : Nat) : Hp :=
  if c = 0 then up2 h (8 + 9 * j) 3 (if dp = 0 then -1 else 0)
  else if dp = 0 then up2 (up2 h (8 + 9 * j) y (h (42 + 3 * i) f)) (8 + 9 * j) 3 (if 99 < now - h (40 + 3 * i) 4 then 99 else now - h (40 + 3 * i) 4)
  else up2 (up2 (q_take h (41 + 3 * i) f c 4) (8 + 9 * j) y (h (42 + 3 * i) f)) (8 + 9 * j) 3 1
set_option maxRecDepth 100000 in
set_option maxHeartbeats 4000000 in
theorem c_Q_send (h : Hp) {i : Nat} (hi : i < 6) {j : Nat} (hj : j < 4) {y : Nat} (hy : y < 4) (now : Int32) {f c dp : Nat} (hf : h (41 + 3 * i) 1 = nI f) (hfl : f < 4) (hc : h (41 + 3 * i) 2 = nI c) (hcl : c ≤ 4) (hdp : h (40 + 3 * i) 3 = nI dp) (hd4 : dp ≤ 4) : Cn u_Q_send 1 0 0 (w0 h) [.inr (some (40 + 3 * i)), .inr (some (8 + 9 * j)), .inl (nI y), .inl now] (fun r w' => r = none ∧ w' = w0 (s_send h i j y now f c dp)) := by
  refine Cn.of (by decide +kernel) (Nat.le_of_ble_eq_true rfl) (fun E ad a qf => ?_)
  have qa := qf.2.2.2
  have hcs : 0 ≤ (eR E).cells ∧ 0 ≤ (eR E).slots := ⟨Nat.zero_le _, Nat.zero_le _⟩
  refine x_aload_n a 0 d_Q_send_0 rfl ?_
  refine x_callV a qa 1 g_Q_24 d_Q_send_1 (c_Q_isSampling _ (by omega)) rfl rfl (kQ (by omega)) (show _ < 86 by omega) (by decide) (Nat.le_of_ble_eq_true rfl) hcs (fun v w' hp => ?_)
  obtain ⟨rfl, rfl⟩ := hp
  refine x_st1 ?_
  refine x_ifB_eq a 4 32 d_Q_send_4 (by decide) (fun c4 => ?_) (fun c4 => ?_)
  · refine x_aload_n a 32 d_Q_send_32 rfl ?_
    refine x_iconst a 33 3 d_Q_send_33 (by decide) ?_
    refine x_aload_n a 34 d_Q_send_34 rfl ?_
    refine x_getR a 35 f_Q_14 d_Q_send_35 (kQ (by omega)) (by omega) (by decide) (rQ0 (by omega)) ?_
    refine x_aload_n a 38 d_Q_send_38 rfl ?_
    refine x_iload_n a 39 d_Q_send_39 rfl ?_
    refine x_iald a 40 d_Q_send_40 (kA8 (by omega)) (by omega) (j := y) rfl hy (by decide) rfl ?_
    refine x_aload_n a 41 d_Q_send_41 rfl ?_
    refine x_getI a 42 f_Q_20 d_Q_send_42 (kQ (by omega)) (by omega) (by decide) hdp ?_
    refine x_callV a qa 45 g_Q_31 d_Q_send_45 (c_V_put _ (vq41 hi) hf hfl hc hcl _ (by omega)) rfl rfl (kV41 (by omega)) (show _ < 86 by omega) (by decide) (Nat.le_of_ble_eq_true rfl) hcs (fun v w' hp => ?_)
    obtain ⟨rfl, rfl⟩ := hp
    refine x_st1 ?_
    refine x_ifB_eq a 48 55 d_Q_send_48 (by decide) (fun c48 => ?_) (fun c48 => ?_)
    · refine x_iconst a 55 0 d_Q_send_55 (by decide) ?_
      refine x_iast a 56 d_Q_send_56 (kA8 (by omega)) (by omega) (j := 3) (by decide) (by decide) (by decide) ?_
      exact x_vret a qf 57 d_Q_send_57 rfl ⟨rfl, by unfold s_send q_put; rw [if_neg (show ¬ dp = 0 from by rw [hdp] at c4; exact (by (try simp (disch := omega) only [Int32.le_iff_toInt_le, Int32.lt_iff_toInt_lt, ← Int32.toInt_inj, Int32.reduceToInt, nI_1, nI_add, pk_sub, nI_toInt] at *); omega))]; first | rw [bI_t c48] | rw [bI_f c48]⟩
    · refine x_iconst a 51 1 d_Q_send_51 (by decide) ?_
      refine x_goto a 52 56 d_Q_send_52 (by decide) ?_
      refine x_iast a 56 d_Q_send_56 (kA8 (by omega)) (by omega) (j := 3) (by decide) (by decide) (by decide) ?_
      exact x_vret a qf 57 d_Q_send_57 rfl ⟨rfl, by unfold s_send q_put; rw [if_neg (show ¬ dp = 0 from by rw [hdp] at c4; exact (by (try simp (disch := omega) only [Int32.le_iff_toInt_le, Int32.lt_iff_toInt_lt, ← Int32.toInt_inj, Int32.reduceToInt, nI_1, nI_add, pk_sub, nI_toInt] at *); omega))]; first | rw [bI_t c48] | rw [bI_f c48]⟩
  · refine x_aload_n a 7 d_Q_send_7 rfl ?_
    refine x_getR a 8 f_Q_14 d_Q_send_8 (kQ (by omega)) (by omega) (by decide) (rQ0 (by omega)) ?_
    refine x_callV a qa 11 g_Q_28 d_Q_send_11 (c_V_clear _ (vq41 hi)) rfl rfl (kV41 (by omega)) (show _ < 86 by omega) (by decide) (Nat.le_of_ble_eq_true rfl) hcs (fun v w' hp => ?_)
    obtain ⟨rfl, rfl⟩ := hp
    refine x_st0 ?_
    refine x_aload_n a 14 d_Q_send_14 rfl ?_
    refine x_getR a 15 f_Q_14 d_Q_send_15 (kQ (by omega)) (by omega) (by decide) (rQ0 (by omega)) ?_
    refine x_aload_n a 18 d_Q_send_18 rfl ?_
    refine x_iload_n a 19 d_Q_send_19 rfl ?_
    refine x_iald a 20 d_Q_send_20 (kA8 (by omega)) (by omega) (j := y) rfl hy (by decide) (v := h (8 + 9 * j) y) (by rw [up2_o _ _ _ (by omega), up2_o _ _ _ (by omega)]) ?_
    refine x_iconst a 21 1 d_Q_send_21 (by decide) ?_
    refine x_callV a qa 22 g_Q_31 d_Q_send_22 (c_V_put (f := 0) (c := 0) _ (vq41 hi) (by rw [up2_k _ _ _ (by decide), up2_s]; rfl) (by omega) (by rw [up2_s]; rfl) (by omega) _ (lim := 1) (by omega)) rfl rfl (kV41 (by omega)) (show _ < 86 by omega) (by decide) (Nat.le_of_ble_eq_true rfl) hcs (fun v w' hp => ?_)
    obtain ⟨rfl, rfl⟩ := hp
    rw [if_pos (by omega : 0 < 1 ∧ 0 < 4)]
    refine x_st1 ?_
    refine x_pop a 25 d_Q_send_25 ?_
    refine x_aload_n a 26 d_Q_send_26 rfl ?_
    refine x_iload_n a 27 d_Q_send_27 rfl ?_
    refine x_putI a 28 f_Q_35 d_Q_send_28 (kQ (by omega)) (by omega) (by decide) rfl rfl rfl ?_
    exact x_vret a qf 31 d_Q_send_31 rfl ⟨rfl, by unfold s_send; rw [if_pos (show dp = 0 from by rw [hdp] at c4; exact (by (try simp (disch := omega) only [Int32.le_iff_toInt_le, Int32.lt_iff_toInt_lt, ← Int32.toInt_inj, Int32.reduceToInt, nI_1, nI_add, pk_sub, nI_toInt] at *); omega))]; rfl⟩
set_option maxRecDepth 100000 in
set_option maxHeartbeats 4000000 in
theorem c_Q_receive (h : Hp) {i : Nat} (hi : i < 6) {j : Nat} (hj : j < 4) {y : Nat} (hy : y < 4) (now : Int32) {f c dp : Nat} (hf : h (41 + 3 * i) 1 = nI f) (hfl : f < 4) (hc : h (41 + 3 * i) 2 = nI c) (hcl : c ≤ 4) (hdp : h (40 + 3 * i) 3 = nI dp) (hd4 : dp ≤ 4) : Cn u_Q_receive 1 0 0 (w0 h) [.inr (some (40 + 3 * i)), .inr (some (8 + 9 * j)), .inl (nI y), .inl now] (fun r w' => r = none ∧ w' = w0 (s_recv h i j y now f c dp)) := by
  refine Cn.of (by decide +kernel) (Nat.le_of_ble_eq_true rfl) (fun E ad a qf => ?_)
  have qa := qf.2.2.2
  have hcs : 0 ≤ (eR E).cells ∧ 0 ≤ (eR E).slots := ⟨Nat.zero_le _, Nat.zero_le _⟩
  refine x_aload_n a 0 d_Q_receive_0 rfl ?_
  refine x_getR a 1 f_Q_14 d_Q_receive_1 (kQ (by omega)) (by omega) (by decide) (rQ0 (by omega)) ?_
  refine x_getI a 4 f_Q_38 d_Q_receive_4 (kV41 (by omega)) (by omega) (by decide) hc ?_
  refine x_if_ne a 7 28 d_Q_receive_7 (by decide) (fun c7 => ?_) (fun c7 => ?_)
  · refine x_aload_n a 28 d_Q_receive_28 rfl ?_
    refine x_callV a qa 29 g_Q_24 d_Q_receive_29 (c_Q_isSampling _ (by omega)) rfl rfl (kQ (by omega)) (show _ < 86 by omega) (by decide) (Nat.le_of_ble_eq_true rfl) hcs (fun v w' hp => ?_)
    obtain ⟨rfl, rfl⟩ := hp
    refine x_st1 ?_
    refine x_ifB_eq a 32 62 d_Q_receive_32 (by decide) (fun c32 => ?_) (fun c32 => ?_)
    · refine x_aload_n a 62 d_Q_receive_62 rfl ?_
      refine x_iload_n a 63 d_Q_receive_63 rfl ?_
      refine x_aload_n a 64 d_Q_receive_64 rfl ?_
      refine x_getR a 65 f_Q_14 d_Q_receive_65 (kQ (by omega)) (by omega) (by decide) (rQ0 (by omega)) ?_
      refine x_callV a qa 68 g_Q_51 d_Q_receive_68 (c_V_take _ (vq41 hi) hf hfl hc hcl) rfl rfl (kV41 (by omega)) (show _ < 86 by omega) (by decide) (Nat.le_of_ble_eq_true rfl) hcs (fun v w' hp => ?_)
      obtain ⟨rfl, rfl⟩ := hp
      rw [if_pos (show 0 < c from (by (try simp (disch := omega) only [Int32.le_iff_toInt_le, Int32.lt_iff_toInt_lt, ← Int32.toInt_inj, Int32.reduceToInt, nI_1, nI_add, pk_sub, nI_toInt] at *); omega)), if_pos (show 0 < c from (by (try simp (disch := omega) only [Int32.le_iff_toInt_le, Int32.lt_iff_toInt_lt, ← Int32.toInt_inj, Int32.reduceToInt, nI_1, nI_add, pk_sub, nI_toInt] at *); omega))]
      refine x_st1 ?_
      refine x_iast a 71 d_Q_receive_71 (kA8 (by omega)) (by omega) (j := y) rfl hy (by decide) ?_
      refine x_aload_n a 72 d_Q_receive_72 rfl ?_
      refine x_iconst a 73 3 d_Q_receive_73 (by decide) ?_
      refine x_iconst a 74 1 d_Q_receive_74 (by decide) ?_
      refine x_iast a 75 d_Q_receive_75 (kA8 (by omega)) (by omega) (j := 3) (by decide) (by decide) (by decide) ?_
      exact x_vret a qf 76 d_Q_receive_76 rfl ⟨rfl, by unfold s_recv; first | (rw [if_pos (show c = 0 from (by (try simp (disch := omega) only [Int32.le_iff_toInt_le, Int32.lt_iff_toInt_lt, ← Int32.toInt_inj, Int32.reduceToInt, nI_1, nI_add, pk_sub, nI_toInt] at *); omega)), if_pos (show dp = 0 from by rw [hdp] at c16; exact (by (try simp (disch := omega) only [Int32.le_iff_toInt_le, Int32.lt_iff_toInt_lt, ← Int32.toInt_inj, Int32.reduceToInt, nI_1, nI_add, pk_sub, nI_toInt] at *); omega))]) | (rw [if_pos (show c = 0 from (by (try simp (disch := omega) only [Int32.le_iff_toInt_le, Int32.lt_iff_toInt_lt, ← Int32.toInt_inj, Int32.reduceToInt, nI_1, nI_add, pk_sub, nI_toInt] at *); omega)), if_neg (show ¬ dp = 0 from by rw [hdp] at c16; exact (by (try simp (disch := omega) only [Int32.le_iff_toInt_le, Int32.lt_iff_toInt_lt, ← Int32.toInt_inj, Int32.reduceToInt, nI_1, nI_add, pk_sub, nI_toInt] at *); omega))]) | (rw [if_neg (show ¬ c = 0 from (by (try simp (disch := omega) only [Int32.le_iff_toInt_le, Int32.lt_iff_toInt_lt, ← Int32.toInt_inj, Int32.reduceToInt, nI_1, nI_add, pk_sub, nI_toInt] at *); omega)), if_pos (show dp = 0 from by rw [hdp] at c32; exact (by (try simp (disch := omega) only [Int32.le_iff_toInt_le, Int32.lt_iff_toInt_lt, ← Int32.toInt_inj, Int32.reduceToInt, nI_1, nI_add, pk_sub, nI_toInt] at *); omega))]) | (rw [if_neg (show ¬ c = 0 from (by (try simp (disch := omega) only [Int32.le_iff_toInt_le, Int32.lt_iff_toInt_lt, ← Int32.toInt_inj, Int32.reduceToInt, nI_1, nI_add, pk_sub, nI_toInt] at *); omega)), if_neg (show ¬ dp = 0 from by rw [hdp] at c32; exact (by (try simp (disch := omega) only [Int32.le_iff_toInt_le, Int32.lt_iff_toInt_lt, ← Int32.toInt_inj, Int32.reduceToInt, nI_1, nI_add, pk_sub, nI_toInt] at *); omega))]; unfold q_take; rw [if_pos (show 0 < c from (by (try simp (disch := omega) only [Int32.le_iff_toInt_le, Int32.lt_iff_toInt_lt, ← Int32.toInt_inj, Int32.reduceToInt, nI_1, nI_add, pk_sub, nI_toInt] at *); omega))])⟩
    · refine x_aload_n a 35 d_Q_receive_35 rfl ?_
      refine x_iload_n a 36 d_Q_receive_36 rfl ?_
      refine x_aload_n a 37 d_Q_receive_37 rfl ?_
      refine x_getR a 38 f_Q_14 d_Q_receive_38 (kQ (by omega)) (by omega) (by decide) (rQ0 (by omega)) ?_
      refine x_callV a qa 41 g_Q_41 d_Q_receive_41 (c_V_peek _ (vq41 hi) hf hfl hc hcl) rfl rfl (kV41 (by omega)) (show _ < 86 by omega) (by decide) (Nat.le_of_ble_eq_true rfl) hcs (fun v w' hp => ?_)
      obtain ⟨rfl, rfl⟩ := hp
      rw [if_pos (show 0 < c from (by (try simp (disch := omega) only [Int32.le_iff_toInt_le, Int32.lt_iff_toInt_lt, ← Int32.toInt_inj, Int32.reduceToInt, nI_1, nI_add, pk_sub, nI_toInt] at *); omega))]
      refine x_st1 ?_
      refine x_iast a 44 d_Q_receive_44 (kA8 (by omega)) (by omega) (j := y) rfl hy (by decide) ?_
      refine x_aload_n a 45 d_Q_receive_45 rfl ?_
      refine x_iconst a 46 3 d_Q_receive_46 (by decide) ?_
      refine x_iload_n a 47 d_Q_receive_47 rfl ?_
      refine x_aload_n a 48 d_Q_receive_48 rfl ?_
      refine x_getI a 49 f_Q_35 d_Q_receive_49 (kQ (by omega)) (by omega) (by decide) (v := h (40 + 3 * i) 4) (by rw [up2_o _ _ _ (by omega)]) ?_
      refine x_isub a 52 d_Q_receive_52 ?_
      refine x_bipush a 53 99 d_Q_receive_53 (by decide) ?_
      refine x_min a 55 d_Q_receive_55 g_Q_45.2.1 g_Q_45.2.2 k_J_min.2.1 k_J_min.1 (by decide) (Nat.le_of_ble_eq_true rfl) hcs ?_
      refine x_iast a 58 d_Q_receive_58 (kA8 (by omega)) (by omega) (j := 3) (by decide) (by decide) (by decide) ?_
      refine x_goto a 59 76 d_Q_receive_59 (by decide) ?_
      exact x_vret a qf 76 d_Q_receive_76 rfl ⟨rfl, by unfold s_recv; first | (rw [if_pos (show c = 0 from (by (try simp (disch := omega) only [Int32.le_iff_toInt_le, Int32.lt_iff_toInt_lt, ← Int32.toInt_inj, Int32.reduceToInt, nI_1, nI_add, pk_sub, nI_toInt] at *); omega)), if_pos (show dp = 0 from by rw [hdp] at c16; exact (by (try simp (disch := omega) only [Int32.le_iff_toInt_le, Int32.lt_iff_toInt_lt, ← Int32.toInt_inj, Int32.reduceToInt, nI_1, nI_add, pk_sub, nI_toInt] at *); omega))]) | (rw [if_pos (show c = 0 from (by (try simp (disch := omega) only [Int32.le_iff_toInt_le, Int32.lt_iff_toInt_lt, ← Int32.toInt_inj, Int32.reduceToInt, nI_1, nI_add, pk_sub, nI_toInt] at *); omega)), if_neg (show ¬ dp = 0 from by rw [hdp] at c16; exact (by (try simp (disch := omega) only [Int32.le_iff_toInt_le, Int32.lt_iff_toInt_lt, ← Int32.toInt_inj, Int32.reduceToInt, nI_1, nI_add, pk_sub, nI_toInt] at *); omega))]) | (rw [if_neg (show ¬ c = 0 from (by (try simp (disch := omega) only [Int32.le_iff_toInt_le, Int32.lt_iff_toInt_lt, ← Int32.toInt_inj, Int32.reduceToInt, nI_1, nI_add, pk_sub, nI_toInt] at *); omega)), if_pos (show dp = 0 from by rw [hdp] at c32; exact (by (try simp (disch := omega) only [Int32.le_iff_toInt_le, Int32.lt_iff_toInt_lt, ← Int32.toInt_inj, Int32.reduceToInt, nI_1, nI_add, pk_sub, nI_toInt] at *); omega))]) | (rw [if_neg (show ¬ c = 0 from (by (try simp (disch := omega) only [Int32.le_iff_toInt_le, Int32.lt_iff_toInt_lt, ← Int32.toInt_inj, Int32.reduceToInt, nI_1, nI_add, pk_sub, nI_toInt] at *); omega)), if_neg (show ¬ dp = 0 from by rw [hdp] at c32; exact (by (try simp (disch := omega) only [Int32.le_iff_toInt_le, Int32.lt_iff_toInt_lt, ← Int32.toInt_inj, Int32.reduceToInt, nI_1, nI_add, pk_sub, nI_toInt] at *); omega))]; unfold q_take; rw [if_pos (show 0 < c from (by (try simp (disch := omega) only [Int32.le_iff_toInt_le, Int32.lt_iff_toInt_lt, ← Int32.toInt_inj, Int32.reduceToInt, nI_1, nI_add, pk_sub, nI_toInt] at *); omega))])⟩
  · refine x_aload_n a 10 d_Q_receive_10 rfl ?_
    refine x_iconst a 11 3 d_Q_receive_11 (by decide) ?_
    refine x_aload_n a 12 d_Q_receive_12 rfl ?_
    refine x_callV a qa 13 g_Q_24 d_Q_receive_13 (c_Q_isSampling _ (by omega)) rfl rfl (kQ (by omega)) (show _ < 86 by omega) (by decide) (Nat.le_of_ble_eq_true rfl) hcs (fun v w' hp => ?_)
    obtain ⟨rfl, rfl⟩ := hp
    refine x_st1 ?_
    refine x_ifB_eq a 16 23 d_Q_receive_16 (by decide) (fun c16 => ?_) (fun c16 => ?_)
    · refine x_iconst a 23 0 d_Q_receive_23 (by decide) ?_
      refine x_iast a 24 d_Q_receive_24 (kA8 (by omega)) (by omega) (j := 3) (by decide) (by decide) (by decide) ?_
      refine x_goto a 25 76 d_Q_receive_25 (by decide) ?_
      exact x_vret a qf 76 d_Q_receive_76 rfl ⟨rfl, by unfold s_recv; first | (rw [if_pos (show c = 0 from (by (try simp (disch := omega) only [Int32.le_iff_toInt_le, Int32.lt_iff_toInt_lt, ← Int32.toInt_inj, Int32.reduceToInt, nI_1, nI_add, pk_sub, nI_toInt] at *); omega)), if_pos (show dp = 0 from by rw [hdp] at c16; exact (by (try simp (disch := omega) only [Int32.le_iff_toInt_le, Int32.lt_iff_toInt_lt, ← Int32.toInt_inj, Int32.reduceToInt, nI_1, nI_add, pk_sub, nI_toInt] at *); omega))]) | (rw [if_pos (show c = 0 from (by (try simp (disch := omega) only [Int32.le_iff_toInt_le, Int32.lt_iff_toInt_lt, ← Int32.toInt_inj, Int32.reduceToInt, nI_1, nI_add, pk_sub, nI_toInt] at *); omega)), if_neg (show ¬ dp = 0 from by rw [hdp] at c16; exact (by (try simp (disch := omega) only [Int32.le_iff_toInt_le, Int32.lt_iff_toInt_lt, ← Int32.toInt_inj, Int32.reduceToInt, nI_1, nI_add, pk_sub, nI_toInt] at *); omega))]) | (rw [if_neg (show ¬ c = 0 from (by (try simp (disch := omega) only [Int32.le_iff_toInt_le, Int32.lt_iff_toInt_lt, ← Int32.toInt_inj, Int32.reduceToInt, nI_1, nI_add, pk_sub, nI_toInt] at *); omega)), if_pos (show dp = 0 from by rw [hdp] at c32; exact (by (try simp (disch := omega) only [Int32.le_iff_toInt_le, Int32.lt_iff_toInt_lt, ← Int32.toInt_inj, Int32.reduceToInt, nI_1, nI_add, pk_sub, nI_toInt] at *); omega))]) | (rw [if_neg (show ¬ c = 0 from (by (try simp (disch := omega) only [Int32.le_iff_toInt_le, Int32.lt_iff_toInt_lt, ← Int32.toInt_inj, Int32.reduceToInt, nI_1, nI_add, pk_sub, nI_toInt] at *); omega)), if_neg (show ¬ dp = 0 from by rw [hdp] at c32; exact (by (try simp (disch := omega) only [Int32.le_iff_toInt_le, Int32.lt_iff_toInt_lt, ← Int32.toInt_inj, Int32.reduceToInt, nI_1, nI_add, pk_sub, nI_toInt] at *); omega))]; unfold q_take; rw [if_pos (show 0 < c from (by (try simp (disch := omega) only [Int32.le_iff_toInt_le, Int32.lt_iff_toInt_lt, ← Int32.toInt_inj, Int32.reduceToInt, nI_1, nI_add, pk_sub, nI_toInt] at *); omega))])⟩
    · refine x_iconst a 19 (-1) d_Q_receive_19 (by decide) ?_
      refine x_goto a 20 24 d_Q_receive_20 (by decide) ?_
      refine x_iast a 24 d_Q_receive_24 (kA8 (by omega)) (by omega) (j := 3) (by decide) (by decide) (by decide) ?_
      refine x_goto a 25 76 d_Q_receive_25 (by decide) ?_
      exact x_vret a qf 76 d_Q_receive_76 rfl ⟨rfl, by unfold s_recv; first | (rw [if_pos (show c = 0 from (by (try simp (disch := omega) only [Int32.le_iff_toInt_le, Int32.lt_iff_toInt_lt, ← Int32.toInt_inj, Int32.reduceToInt, nI_1, nI_add, pk_sub, nI_toInt] at *); omega)), if_pos (show dp = 0 from by rw [hdp] at c16; exact (by (try simp (disch := omega) only [Int32.le_iff_toInt_le, Int32.lt_iff_toInt_lt, ← Int32.toInt_inj, Int32.reduceToInt, nI_1, nI_add, pk_sub, nI_toInt] at *); omega))]) | (rw [if_pos (show c = 0 from (by (try simp (disch := omega) only [Int32.le_iff_toInt_le, Int32.lt_iff_toInt_lt, ← Int32.toInt_inj, Int32.reduceToInt, nI_1, nI_add, pk_sub, nI_toInt] at *); omega)), if_neg (show ¬ dp = 0 from by rw [hdp] at c16; exact (by (try simp (disch := omega) only [Int32.le_iff_toInt_le, Int32.lt_iff_toInt_lt, ← Int32.toInt_inj, Int32.reduceToInt, nI_1, nI_add, pk_sub, nI_toInt] at *); omega))]) | (rw [if_neg (show ¬ c = 0 from (by (try simp (disch := omega) only [Int32.le_iff_toInt_le, Int32.lt_iff_toInt_lt, ← Int32.toInt_inj, Int32.reduceToInt, nI_1, nI_add, pk_sub, nI_toInt] at *); omega)), if_pos (show dp = 0 from by rw [hdp] at c32; exact (by (try simp (disch := omega) only [Int32.le_iff_toInt_le, Int32.lt_iff_toInt_lt, ← Int32.toInt_inj, Int32.reduceToInt, nI_1, nI_add, pk_sub, nI_toInt] at *); omega))]) | (rw [if_neg (show ¬ c = 0 from (by (try simp (disch := omega) only [Int32.le_iff_toInt_le, Int32.lt_iff_toInt_lt, ← Int32.toInt_inj, Int32.reduceToInt, nI_1, nI_add, pk_sub, nI_toInt] at *); omega)), if_neg (show ¬ dp = 0 from by rw [hdp] at c32; exact (by (try simp (disch := omega) only [Int32.le_iff_toInt_le, Int32.lt_iff_toInt_lt, ← Int32.toInt_inj, Int32.reduceToInt, nI_1, nI_add, pk_sub, nI_toInt] at *); omega))]; unfold q_take; rw [if_pos (show 0 < c from (by (try simp (disch := omega) only [Int32.le_iff_toInt_le, Int32.lt_iff_toInt_lt, ← Int32.toInt_inj, Int32.reduceToInt, nI_1, nI_add, pk_sub, nI_toInt] at *); omega))])⟩
