theorem nI_inc (k : Nat) : nI k + Int32.ofInt 1 = nI (k + 1) := nI_1 k
/-- a queue: its own cell q, its values' cell v of len places -/
def VQ (q v len : Nat) : Prop := (k0 q).1 = 4 + 4 ∧ r0 q 0 = some v ∧ k0 v = (0, len) ∧ q < 86 ∧ v < 86 ∧ q ≠ v ∧ 0 < len ∧ len ≤ 8
theorem vq9 {j : Nat} (hj : j < 4) : VQ (9 + 9 * j) (10 + 9 * j) 8 := ⟨kV9 hj, rV9 hj, kA10 hj, by omega, by omega, by omega, by omega, by omega⟩
theorem vq41 {i : Nat} (hi : i < 6) : VQ (41 + 3 * i) (42 + 3 * i) 4 := ⟨kV41 hi, rV41 hi, kA42 hi, by omega, by omega, by omega, by omega, by omega⟩
def qix (f c len : Nat) : Nat := if f + c < len then f + c else f + c - len
theorem qix_lt {f c len : Nat} (hf : f < len) (hc : c ≤ len) : qix f c len < len := by
  unfold qix
  split <;> omega
set_option maxRecDepth 100000 in
set_option maxHeartbeats 4000000 in
theorem c_D_isPartition (h : Hp) (p : Int32) : Cn u_D_isPartition 0 0 0 (w0 h) [.inl p] (fun v w' => v = some (bI (0 ≤ p ∧ p < 4)) ∧ w' = w0 h) := by
  refine Cn.of (by decide) (Nat.le_of_ble_eq_true rfl) (fun E ad a qf => ?_)
  have qa := qf.2.2.2
  have hcs : 0 ≤ (eR E).cells ∧ 0 ≤ (eR E).slots := ⟨Nat.zero_le _, Nat.zero_le _⟩
  refine x_iload_n a 0 d_D_isPartition_0 rfl ?_
  refine x_if_lt a 1 13 d_D_isPartition_1 (by decide) (fun c1 => ?_) (fun c1 => ?_)
  · refine x_iconst a 13 0 d_D_isPartition_13 (by decide) ?_
    exact x_zret a qf 14 d_D_isPartition_14 rfl rfl ⟨by first | rw [bI_f (by (try simp (disch := omega) only [Int32.le_iff_toInt_le, Int32.lt_iff_toInt_lt, ← Int32.toInt_inj, Int32.reduceToInt, nI_1, nI_add, pk_sub, nI_toInt] at *); omega)] | rw [bI_t (by (try simp (disch := omega) only [Int32.le_iff_toInt_le, Int32.lt_iff_toInt_lt, ← Int32.toInt_inj, Int32.reduceToInt, nI_1, nI_add, pk_sub, nI_toInt] at *); omega)], rfl⟩
  · refine x_iload_n a 4 d_D_isPartition_4 rfl ?_
    refine x_iconst a 5 4 d_D_isPartition_5 (by decide) ?_
    refine x_icmp_ge a 6 13 d_D_isPartition_6 (by decide) (fun c6 => ?_) (fun c6 => ?_)
    · refine x_iconst a 13 0 d_D_isPartition_13 (by decide) ?_
      exact x_zret a qf 14 d_D_isPartition_14 rfl rfl ⟨by first | rw [bI_f (by (try simp (disch := omega) only [Int32.le_iff_toInt_le, Int32.lt_iff_toInt_lt, ← Int32.toInt_inj, Int32.reduceToInt, nI_1, nI_add, pk_sub, nI_toInt] at *); omega)] | rw [bI_t (by (try simp (disch := omega) only [Int32.le_iff_toInt_le, Int32.lt_iff_toInt_lt, ← Int32.toInt_inj, Int32.reduceToInt, nI_1, nI_add, pk_sub, nI_toInt] at *); omega)], rfl⟩
    · refine x_iconst a 9 1 d_D_isPartition_9 (by decide) ?_
      refine x_goto a 10 14 d_D_isPartition_10 (by decide) ?_
      exact x_zret a qf 14 d_D_isPartition_14 rfl rfl ⟨by first | rw [bI_f (by (try simp (disch := omega) only [Int32.le_iff_toInt_le, Int32.lt_iff_toInt_lt, ← Int32.toInt_inj, Int32.reduceToInt, nI_1, nI_add, pk_sub, nI_toInt] at *); omega)] | rw [bI_t (by (try simp (disch := omega) only [Int32.le_iff_toInt_le, Int32.lt_iff_toInt_lt, ← Int32.toInt_inj, Int32.reduceToInt, nI_1, nI_add, pk_sub, nI_toInt] at *); omega)], rfl⟩
set_option maxRecDepth 100000 in
set_option maxHeartbeats 4000000 in
theorem c_D_isPort (h : Hp) (p : Int32) : Cn u_D_isPort 0 0 0 (w0 h) [.inr (some 0), .inl p] (fun v w' => v = some (bI (0 ≤ p ∧ p < h 0 4)) ∧ w' = w0 h) := by
  refine Cn.of (by decide) (Nat.le_of_ble_eq_true rfl) (fun E ad a qf => ?_)
  have qa := qf.2.2.2
  have hcs : 0 ≤ (eR E).cells ∧ 0 ≤ (eR E).slots := ⟨Nat.zero_le _, Nat.zero_le _⟩
  refine x_iload_n a 0 d_D_isPort_0 rfl ?_
  refine x_if_lt a 1 16 d_D_isPort_1 (by decide) (fun c1 => ?_) (fun c1 => ?_)
  · refine x_iconst a 16 0 d_D_isPort_16 (by decide) ?_
    exact x_zret a qf 17 d_D_isPort_17 rfl rfl ⟨by first | rw [bI_f (by (try simp (disch := omega) only [Int32.le_iff_toInt_le, Int32.lt_iff_toInt_lt, ← Int32.toInt_inj, Int32.reduceToInt, nI_1, nI_add, pk_sub, nI_toInt] at *); omega)] | rw [bI_t (by (try simp (disch := omega) only [Int32.le_iff_toInt_le, Int32.lt_iff_toInt_lt, ← Int32.toInt_inj, Int32.reduceToInt, nI_1, nI_add, pk_sub, nI_toInt] at *); omega)], rfl⟩
  · refine x_iload_n a 4 d_D_isPort_4 rfl ?_
    refine x_aload_n a 5 d_D_isPort_5 rfl ?_
    refine x_getI a 6 f_D_34 d_D_isPort_6 rfl (by omega) (by decide) rfl ?_
    refine x_icmp_ge a 9 16 d_D_isPort_9 (by decide) (fun c9 => ?_) (fun c9 => ?_)
    · refine x_iconst a 16 0 d_D_isPort_16 (by decide) ?_
      exact x_zret a qf 17 d_D_isPort_17 rfl rfl ⟨by first | rw [bI_f (by (try simp (disch := omega) only [Int32.le_iff_toInt_le, Int32.lt_iff_toInt_lt, ← Int32.toInt_inj, Int32.reduceToInt, nI_1, nI_add, pk_sub, nI_toInt] at *); omega)] | rw [bI_t (by (try simp (disch := omega) only [Int32.le_iff_toInt_le, Int32.lt_iff_toInt_lt, ← Int32.toInt_inj, Int32.reduceToInt, nI_1, nI_add, pk_sub, nI_toInt] at *); omega)], rfl⟩
    · refine x_iconst a 12 1 d_D_isPort_12 (by decide) ?_
      refine x_goto a 13 17 d_D_isPort_13 (by decide) ?_
      exact x_zret a qf 17 d_D_isPort_17 rfl rfl ⟨by first | rw [bI_f (by (try simp (disch := omega) only [Int32.le_iff_toInt_le, Int32.lt_iff_toInt_lt, ← Int32.toInt_inj, Int32.reduceToInt, nI_1, nI_add, pk_sub, nI_toInt] at *); omega)] | rw [bI_t (by (try simp (disch := omega) only [Int32.le_iff_toInt_le, Int32.lt_iff_toInt_lt, ← Int32.toInt_inj, Int32.reduceToInt, nI_1, nI_add, pk_sub, nI_toInt] at *); omega)], rfl⟩
set_option maxRecDepth 100000 in
set_option maxHeartbeats 4000000 in
theorem c_V_clear (h : Hp) {q vv len : Nat} (hV : VQ q vv len) : Cn u_V_clear 0 0 0 (w0 h) [.inr (some q)] (fun r w' => r = none ∧ w' = w0 (up2 (up2 h q 1 0) q 2 0)) := by
  refine Cn.of (by decide) (Nat.le_of_ble_eq_true rfl) (fun E ad a qf => ?_)
  have qa := qf.2.2.2
  have hcs : 0 ≤ (eR E).cells ∧ 0 ≤ (eR E).slots := ⟨Nat.zero_le _, Nat.zero_le _⟩
  obtain ⟨hkq, hrq, haq, hq8, hv8, hqv, hl0, hl8⟩ := hV
  refine x_aload_n a 0 d_V_clear_0 rfl ?_
  refine x_iconst a 1 0 d_V_clear_1 (by decide) ?_
  refine x_putI a 2 f_V_13 d_V_clear_2 hkq (by omega) (by decide) rfl rfl rfl ?_
  refine x_aload_n a 5 d_V_clear_5 rfl ?_
  refine x_iconst a 6 0 d_V_clear_6 (by decide) ?_
  refine x_putI a 7 f_V_17 d_V_clear_7 hkq (by omega) (by decide) rfl rfl rfl ?_
  exact x_vret a qf 10 d_V_clear_10 rfl ⟨rfl, rfl⟩
set_option maxRecDepth 100000 in
set_option maxHeartbeats 4000000 in
theorem c_V_peek (h : Hp) {q vv len f c : Nat} (hV : VQ q vv len) (hf : h q 1 = nI f) (hfl : f < len) (hc : h q 2 = nI c) (hcl : c ≤ len) : Cn u_V_peek 0 0 0 (w0 h) [.inr (some q)] (fun v w' => v = some (if 0 < c then h vv f else 0) ∧ w' = w0 h) := by
  refine Cn.of (by decide) (Nat.le_of_ble_eq_true rfl) (fun E ad a qf => ?_)
  have qa := qf.2.2.2
  have hcs : 0 ≤ (eR E).cells ∧ 0 ≤ (eR E).slots := ⟨Nat.zero_le _, Nat.zero_le _⟩
  obtain ⟨hkq, hrq, haq, hq8, hv8, hqv, hl0, hl8⟩ := hV
  refine x_aload_n a 0 d_V_peek_0 rfl ?_
  refine x_getI a 1 f_V_17 d_V_peek_1 hkq (by omega) (by decide) hc ?_
  refine x_if_le a 4 19 d_V_peek_4 (by decide) (fun c4 => ?_) (fun c4 => ?_)
  · refine x_iconst a 19 0 d_V_peek_19 (by decide) ?_
    exact x_iret a qf 20 d_V_peek_20 rfl ⟨by first | rw [if_pos (by (try simp (disch := omega) only [Int32.le_iff_toInt_le, Int32.lt_iff_toInt_lt, ← Int32.toInt_inj, Int32.reduceToInt, nI_1, nI_add, pk_sub, nI_toInt] at *); omega)] | rw [if_neg (by (try simp (disch := omega) only [Int32.le_iff_toInt_le, Int32.lt_iff_toInt_lt, ← Int32.toInt_inj, Int32.reduceToInt, nI_1, nI_add, pk_sub, nI_toInt] at *); omega)], rfl⟩
  · refine x_aload_n a 7 d_V_peek_7 rfl ?_
    refine x_getR a 8 f_V_7 d_V_peek_8 hkq (by omega) (by decide) hrq ?_
    refine x_aload_n a 11 d_V_peek_11 rfl ?_
    refine x_getI a 12 f_V_13 d_V_peek_12 hkq (by omega) (by decide) hf ?_
    refine x_iald a 15 d_V_peek_15 haq (by omega) (j := f) rfl hfl (by omega) rfl ?_
    refine x_goto a 16 20 d_V_peek_16 (by decide) ?_
    exact x_iret a qf 20 d_V_peek_20 rfl ⟨by first | rw [if_pos (by (try simp (disch := omega) only [Int32.le_iff_toInt_le, Int32.lt_iff_toInt_lt, ← Int32.toInt_inj, Int32.reduceToInt, nI_1, nI_add, pk_sub, nI_toInt] at *); omega)] | rw [if_neg (by (try simp (disch := omega) only [Int32.le_iff_toInt_le, Int32.lt_iff_toInt_lt, ← Int32.toInt_inj, Int32.reduceToInt, nI_1, nI_add, pk_sub, nI_toInt] at *); omega)], rfl⟩
set_option maxRecDepth 100000 in
set_option maxHeartbeats 4000000 in
theorem c_V_take (h : Hp) {q vv len f c : Nat} (hV : VQ q vv len) (hf : h q 1 = nI f) (hfl : f < len) (hc : h q 2 = nI c) (hcl : c ≤ len) : Cn u_V_take 0 0 0 (w0 h) [.inr (some q)] (fun r w' => r = some (if 0 < c then h vv f else 0) ∧ w' = w0 (if 0 < c then up2 (up2 h q 1 (nI (if f + 1 < len then f + 1 else 0))) q 2 (nI (c - 1)) else h)) := by
  refine Cn.of (by decide) (Nat.le_of_ble_eq_true rfl) (fun E ad a qf => ?_)
  have qa := qf.2.2.2
  have hcs : 0 ≤ (eR E).cells ∧ 0 ≤ (eR E).slots := ⟨Nat.zero_le _, Nat.zero_le _⟩
  obtain ⟨hkq, hrq, haq, hq8, hv8, hqv, hl0, hl8⟩ := hV
  refine x_aload_n a 0 d_V_take_0 rfl ?_
  refine x_getI a 1 f_V_17 d_V_take_1 hkq (by omega) (by decide) hc ?_
  refine x_if_ne a 4 9 d_V_take_4 (by decide) (fun c4 => ?_) (fun c4 => ?_)
  · refine x_aload_n a 9 d_V_take_9 rfl ?_
    refine x_getR a 10 f_V_7 d_V_take_10 hkq (by omega) (by decide) hrq ?_
    refine x_aload_n a 13 d_V_take_13 rfl ?_
    refine x_getI a 14 f_V_13 d_V_take_14 hkq (by omega) (by decide) hf ?_
    refine x_iald a 17 d_V_take_17 haq (by omega) (j := f) rfl hfl (by omega) rfl ?_
    refine x_istore_n a 18 d_V_take_18 (by decide) ?_
    refine x_aload_n a 19 d_V_take_19 rfl ?_
    refine x_aload_n a 20 d_V_take_20 rfl ?_
    refine x_getI a 21 f_V_13 d_V_take_21 hkq (by omega) (by decide) hf ?_
    refine x_iconst a 24 1 d_V_take_24 (by decide) ?_
    refine x_iadd a 25 d_V_take_25 ?_
    refine x_aload_n a 26 d_V_take_26 rfl ?_
    refine x_getR a 27 f_V_7 d_V_take_27 hkq (by omega) (by decide) hrq ?_
    refine x_alen a 30 d_V_take_30 haq (by omega) ?_
    refine x_icmp_ge a 31 43 d_V_take_31 (by decide) (fun c31 => ?_) (fun c31 => ?_)
    · refine x_iconst a 43 0 d_V_take_43 (by decide) ?_
      refine x_push (y := nI (if f + 1 < len then f + 1 else 0)) (by first | (rw [if_pos (by (try simp (disch := omega) only [Int32.le_iff_toInt_le, Int32.lt_iff_toInt_lt, ← Int32.toInt_inj, Int32.reduceToInt, nI_1, nI_add, pk_sub, nI_toInt] at *); omega)]; exact nI_1 f) | (rw [if_neg (by (try simp (disch := omega) only [Int32.le_iff_toInt_le, Int32.lt_iff_toInt_lt, ← Int32.toInt_inj, Int32.reduceToInt, nI_1, nI_add, pk_sub, nI_toInt] at *); omega)]; rfl)) ?_
      refine x_putI a 44 f_V_13 d_V_take_44 hkq (by omega) (by decide) rfl rfl rfl ?_
      refine x_aload_n a 47 d_V_take_47 rfl ?_
      refine x_dup a 48 d_V_take_48 ?_
      refine x_getI a 49 f_V_17 d_V_take_49 hkq (by omega) (by decide) (v := nI c) (by rw [up2_k _ _ _ (by decide)]; exact hc) ?_
      refine x_iconst a 52 1 d_V_take_52 (by decide) ?_
      refine x_isub a 53 d_V_take_53 ?_
      refine x_push (y := nI (c - 1)) (pk_sub (b := 1) (by (try simp (disch := omega) only [Int32.le_iff_toInt_le, Int32.lt_iff_toInt_lt, ← Int32.toInt_inj, Int32.reduceToInt, nI_1, nI_add, pk_sub, nI_toInt] at *); omega)) ?_
      refine x_putI a 54 f_V_17 d_V_take_54 hkq (by omega) (by decide) rfl rfl rfl ?_
      refine x_iload_n a 57 d_V_take_57 rfl ?_
      exact x_iret a qf 58 d_V_take_58 rfl ⟨by rw [if_pos (show 0 < c from (by (try simp (disch := omega) only [Int32.le_iff_toInt_le, Int32.lt_iff_toInt_lt, ← Int32.toInt_inj, Int32.reduceToInt, nI_1, nI_add, pk_sub, nI_toInt] at *); omega))], by rw [if_pos (show 0 < c from (by (try simp (disch := omega) only [Int32.le_iff_toInt_le, Int32.lt_iff_toInt_lt, ← Int32.toInt_inj, Int32.reduceToInt, nI_1, nI_add, pk_sub, nI_toInt] at *); omega))]⟩
    · refine x_aload_n a 34 d_V_take_34 rfl ?_
      refine x_getI a 35 f_V_13 d_V_take_35 hkq (by omega) (by decide) hf ?_
      refine x_iconst a 38 1 d_V_take_38 (by decide) ?_
      refine x_iadd a 39 d_V_take_39 ?_
      refine x_goto a 40 44 d_V_take_40 (by decide) ?_
      refine x_push (y := nI (if f + 1 < len then f + 1 else 0)) (by first | (rw [if_pos (by (try simp (disch := omega) only [Int32.le_iff_toInt_le, Int32.lt_iff_toInt_lt, ← Int32.toInt_inj, Int32.reduceToInt, nI_1, nI_add, pk_sub, nI_toInt] at *); omega)]; exact nI_1 f) | (rw [if_neg (by (try simp (disch := omega) only [Int32.le_iff_toInt_le, Int32.lt_iff_toInt_lt, ← Int32.toInt_inj, Int32.reduceToInt, nI_1, nI_add, pk_sub, nI_toInt] at *); omega)]; rfl)) ?_
      refine x_putI a 44 f_V_13 d_V_take_44 hkq (by omega) (by decide) rfl rfl rfl ?_
      refine x_aload_n a 47 d_V_take_47 rfl ?_
      refine x_dup a 48 d_V_take_48 ?_
      refine x_getI a 49 f_V_17 d_V_take_49 hkq (by omega) (by decide) (v := nI c) (by rw [up2_k _ _ _ (by decide)]; exact hc) ?_
      refine x_iconst a 52 1 d_V_take_52 (by decide) ?_
      refine x_isub a 53 d_V_take_53 ?_
      refine x_push (y := nI (c - 1)) (pk_sub (b := 1) (by (try simp (disch := omega) only [Int32.le_iff_toInt_le, Int32.lt_iff_toInt_lt, ← Int32.toInt_inj, Int32.reduceToInt, nI_1, nI_add, pk_sub, nI_toInt] at *); omega)) ?_
      refine x_putI a 54 f_V_17 d_V_take_54 hkq (by omega) (by decide) rfl rfl rfl ?_
      refine x_iload_n a 57 d_V_take_57 rfl ?_
      exact x_iret a qf 58 d_V_take_58 rfl ⟨by rw [if_pos (show 0 < c from (by (try simp (disch := omega) only [Int32.le_iff_toInt_le, Int32.lt_iff_toInt_lt, ← Int32.toInt_inj, Int32.reduceToInt, nI_1, nI_add, pk_sub, nI_toInt] at *); omega))], by rw [if_pos (show 0 < c from (by (try simp (disch := omega) only [Int32.le_iff_toInt_le, Int32.lt_iff_toInt_lt, ← Int32.toInt_inj, Int32.reduceToInt, nI_1, nI_add, pk_sub, nI_toInt] at *); omega))]⟩
  · refine x_iconst a 7 0 d_V_take_7 (by decide) ?_
    exact x_iret a qf 8 d_V_take_8 rfl ⟨by rw [if_neg (by (try simp (disch := omega) only [Int32.le_iff_toInt_le, Int32.lt_iff_toInt_lt, ← Int32.toInt_inj, Int32.reduceToInt, nI_1, nI_add, pk_sub, nI_toInt] at *); omega)], by rw [if_neg (by (try simp (disch := omega) only [Int32.le_iff_toInt_le, Int32.lt_iff_toInt_lt, ← Int32.toInt_inj, Int32.reduceToInt, nI_1, nI_add, pk_sub, nI_toInt] at *); omega)]⟩
set_option maxRecDepth 100000 in
set_option maxHeartbeats 4000000 in
theorem c_V_put (h : Hp) {q vv len f c : Nat} (hV : VQ q vv len) (hf : h q 1 = nI f) (hfl : f < len) (hc : h q 2 = nI c) (hcl : c ≤ len) (x : Int32) {lim : Nat} (hlim : lim < 2 ^ 31) : Cn u_V_put 0 0 0 (w0 h) [.inr (some q), .inl x, .inl (nI lim)] (fun r w' => r = some (bI (c < lim ∧ c < len)) ∧ w' = w0 (if c < lim ∧ c < len then up2 (up2 h vv (qix f c len) x) q 2 (nI (c + 1)) else h)) := by
  refine Cn.of (by decide) (Nat.le_of_ble_eq_true rfl) (fun E ad a qf => ?_)
  have qa := qf.2.2.2
  have hcs : 0 ≤ (eR E).cells ∧ 0 ≤ (eR E).slots := ⟨Nat.zero_le _, Nat.zero_le _⟩
  obtain ⟨hkq, hrq, haq, hq8, hv8, hqv, hl0, hl8⟩ := hV
  refine x_aload_n a 0 d_V_put_0 rfl ?_
  refine x_getI a 1 f_V_17 d_V_put_1 hkq (by omega) (by decide) hc ?_
  refine x_iload_n a 4 d_V_put_4 rfl ?_
  refine x_icmp_ge a 5 20 d_V_put_5 (by decide) (fun c5 => ?_) (fun c5 => ?_)
  · refine x_iconst a 20 0 d_V_put_20 (by decide) ?_
    exact x_zret a qf 21 d_V_put_21 rfl rfl ⟨by rw [bI_f (by (try simp (disch := omega) only [Int32.le_iff_toInt_le, Int32.lt_iff_toInt_lt, ← Int32.toInt_inj, Int32.reduceToInt, nI_1, nI_add, pk_sub, nI_toInt] at *); omega)], by rw [if_neg (by (try simp (disch := omega) only [Int32.le_iff_toInt_le, Int32.lt_iff_toInt_lt, ← Int32.toInt_inj, Int32.reduceToInt, nI_1, nI_add, pk_sub, nI_toInt] at *); omega)]⟩
  · refine x_aload_n a 8 d_V_put_8 rfl ?_
    refine x_getI a 9 f_V_17 d_V_put_9 hkq (by omega) (by decide) hc ?_
    refine x_aload_n a 12 d_V_put_12 rfl ?_
    refine x_getR a 13 f_V_7 d_V_put_13 hkq (by omega) (by decide) hrq ?_
    refine x_alen a 16 d_V_put_16 haq (by omega) ?_
    refine x_icmp_lt a 17 22 d_V_put_17 (by decide) (fun c17 => ?_) (fun c17 => ?_)
    · refine x_aload_n a 22 d_V_put_22 rfl ?_
      refine x_getI a 23 f_V_13 d_V_put_23 hkq (by omega) (by decide) hf ?_
      refine x_aload_n a 26 d_V_put_26 rfl ?_
      refine x_getI a 27 f_V_17 d_V_put_27 hkq (by omega) (by decide) hc ?_
      refine x_iadd a 30 d_V_put_30 ?_
      refine x_istore_n a 31 d_V_put_31 (by decide) ?_
      refine x_aload_n a 32 d_V_put_32 rfl ?_
      refine x_getR a 33 f_V_7 d_V_put_33 hkq (by omega) (by decide) hrq ?_
      refine x_iload_n a 36 d_V_put_36 rfl ?_
      refine x_aload_n a 37 d_V_put_37 rfl ?_
      refine x_getR a 38 f_V_7 d_V_put_38 hkq (by omega) (by decide) hrq ?_
      refine x_alen a 41 d_V_put_41 haq (by omega) ?_
      refine x_icmp_ge a 42 49 d_V_put_42 (by decide) (fun c42 => ?_) (fun c42 => ?_)
      · refine x_iload_n a 49 d_V_put_49 rfl ?_
        refine x_aload_n a 50 d_V_put_50 rfl ?_
        refine x_getR a 51 f_V_7 d_V_put_51 hkq (by omega) (by decide) hrq ?_
        refine x_alen a 54 d_V_put_54 haq (by omega) ?_
        refine x_isub a 55 d_V_put_55 ?_
        refine x_iload_n a 56 d_V_put_56 rfl ?_
        refine x_iast a 57 d_V_put_57 haq (by omega) (j := qix f c len) (by unfold qix; first | (rw [if_pos (by rw [nI_add] at *; (try simp (disch := omega) only [Int32.le_iff_toInt_le, Int32.lt_iff_toInt_lt, ← Int32.toInt_inj, Int32.reduceToInt, nI_1, nI_add, pk_sub, nI_toInt] at *); omega), nI_add]) | (rw [if_neg (by rw [nI_add] at *; (try simp (disch := omega) only [Int32.le_iff_toInt_le, Int32.lt_iff_toInt_lt, ← Int32.toInt_inj, Int32.reduceToInt, nI_1, nI_add, pk_sub, nI_toInt] at *); omega), nI_add, pk_sub (by rw [nI_add] at *; (try simp (disch := omega) only [Int32.le_iff_toInt_le, Int32.lt_iff_toInt_lt, ← Int32.toInt_inj, Int32.reduceToInt, nI_1, nI_add, pk_sub, nI_toInt] at *); omega)])) (qix_lt hfl hcl) (by omega) ?_
        refine x_aload_n a 58 d_V_put_58 rfl ?_
        refine x_dup a 59 d_V_put_59 ?_
        refine x_getI a 60 f_V_17 d_V_put_60 hkq (by omega) (by decide) (v := nI c) (by rw [up2_o _ _ _ hqv]; exact hc) ?_
        refine x_iconst a 63 1 d_V_put_63 (by decide) ?_
        refine x_iadd a 64 d_V_put_64 ?_
        refine x_push (nI_1 c) ?_
        refine x_putI a 65 f_V_17 d_V_put_65 hkq (by omega) (by decide) rfl rfl rfl ?_
        refine x_iconst a 68 1 d_V_put_68 (by decide) ?_
        exact x_zret a qf 69 d_V_put_69 rfl rfl ⟨by rw [bI_t (by (try simp (disch := omega) only [Int32.le_iff_toInt_le, Int32.lt_iff_toInt_lt, ← Int32.toInt_inj, Int32.reduceToInt, nI_1, nI_add, pk_sub, nI_toInt] at *); omega)], by rw [if_pos (by (try simp (disch := omega) only [Int32.le_iff_toInt_le, Int32.lt_iff_toInt_lt, ← Int32.toInt_inj, Int32.reduceToInt, nI_1, nI_add, pk_sub, nI_toInt] at *); omega)]⟩
      · refine x_iload_n a 45 d_V_put_45 rfl ?_
        refine x_goto a 46 56 d_V_put_46 (by decide) ?_
        refine x_iload_n a 56 d_V_put_56 rfl ?_
        refine x_iast a 57 d_V_put_57 haq (by omega) (j := qix f c len) (by unfold qix; first | (rw [if_pos (by rw [nI_add] at *; (try simp (disch := omega) only [Int32.le_iff_toInt_le, Int32.lt_iff_toInt_lt, ← Int32.toInt_inj, Int32.reduceToInt, nI_1, nI_add, pk_sub, nI_toInt] at *); omega), nI_add]) | (rw [if_neg (by rw [nI_add] at *; (try simp (disch := omega) only [Int32.le_iff_toInt_le, Int32.lt_iff_toInt_lt, ← Int32.toInt_inj, Int32.reduceToInt, nI_1, nI_add, pk_sub, nI_toInt] at *); omega), nI_add, pk_sub (by rw [nI_add] at *; (try simp (disch := omega) only [Int32.le_iff_toInt_le, Int32.lt_iff_toInt_lt, ← Int32.toInt_inj, Int32.reduceToInt, nI_1, nI_add, pk_sub, nI_toInt] at *); omega)])) (qix_lt hfl hcl) (by omega) ?_
        refine x_aload_n a 58 d_V_put_58 rfl ?_
        refine x_dup a 59 d_V_put_59 ?_
        refine x_getI a 60 f_V_17 d_V_put_60 hkq (by omega) (by decide) (v := nI c) (by rw [up2_o _ _ _ hqv]; exact hc) ?_
        refine x_iconst a 63 1 d_V_put_63 (by decide) ?_
        refine x_iadd a 64 d_V_put_64 ?_
        refine x_push (nI_1 c) ?_
        refine x_putI a 65 f_V_17 d_V_put_65 hkq (by omega) (by decide) rfl rfl rfl ?_
        refine x_iconst a 68 1 d_V_put_68 (by decide) ?_
        exact x_zret a qf 69 d_V_put_69 rfl rfl ⟨by rw [bI_t (by (try simp (disch := omega) only [Int32.le_iff_toInt_le, Int32.lt_iff_toInt_lt, ← Int32.toInt_inj, Int32.reduceToInt, nI_1, nI_add, pk_sub, nI_toInt] at *); omega)], by rw [if_pos (by (try simp (disch := omega) only [Int32.le_iff_toInt_le, Int32.lt_iff_toInt_lt, ← Int32.toInt_inj, Int32.reduceToInt, nI_1, nI_add, pk_sub, nI_toInt] at *); omega)]⟩
    · refine x_iconst a 20 0 d_V_put_20 (by decide) ?_
      exact x_zret a qf 21 d_V_put_21 rfl rfl ⟨by rw [bI_f (by (try simp (disch := omega) only [Int32.le_iff_toInt_le, Int32.lt_iff_toInt_lt, ← Int32.toInt_inj, Int32.reduceToInt, nI_1, nI_add, pk_sub, nI_toInt] at *); omega)], by rw [if_neg (by (try simp (disch := omega) only [Int32.le_iff_toInt_le, Int32.lt_iff_toInt_lt, ← Int32.toInt_inj, Int32.reduceToInt, nI_1, nI_add, pk_sub, nI_toInt] at *); omega)]⟩
