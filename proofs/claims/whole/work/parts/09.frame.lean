set_option maxRecDepth 100000 in
set_option maxHeartbeats 4000000 in
theorem c_F_isFull (h : Hp) : Cn u_F_isFull 0 0 0 (w0 h) [.inr (some 58)] (fun v w' => v = some (bI (8 ≤ h 58 2)) ∧ w' = w0 h) := by
  refine Cn.of (by decide) (Nat.le_of_ble_eq_true rfl) (fun E ad a qf => ?_)
  have qa := qf.2.2.2
  have hcs : 0 ≤ (eR E).cells ∧ 0 ≤ (eR E).slots := ⟨Nat.zero_le _, Nat.zero_le _⟩
  refine x_aload_n a 0 d_F_isFull_0 rfl ?_
  refine x_getI a 1 f_F_18 d_F_isFull_1 rfl (by omega) (by decide) rfl ?_
  refine x_bipush a 4 8 d_F_isFull_4 (by decide) ?_
  refine x_icmp_lt a 6 13 d_F_isFull_6 (by decide) (fun c6 => ?_) (fun c6 => ?_)
  · refine x_iconst a 13 0 d_F_isFull_13 (by decide) ?_
    exact x_zret a qf 14 d_F_isFull_14 rfl rfl ⟨by first | rw [bI_f (by (try simp (disch := omega) only [Int32.le_iff_toInt_le, Int32.lt_iff_toInt_lt, ← Int32.toInt_inj, Int32.reduceToInt, nI_1, nI_add, pk_sub, nI_toInt] at *); omega)] | rw [bI_t (by (try simp (disch := omega) only [Int32.le_iff_toInt_le, Int32.lt_iff_toInt_lt, ← Int32.toInt_inj, Int32.reduceToInt, nI_1, nI_add, pk_sub, nI_toInt] at *); omega)], rfl⟩
  · refine x_iconst a 9 1 d_F_isFull_9 (by decide) ?_
    refine x_goto a 10 14 d_F_isFull_10 (by decide) ?_
    exact x_zret a qf 14 d_F_isFull_14 rfl rfl ⟨by first | rw [bI_f (by (try simp (disch := omega) only [Int32.le_iff_toInt_le, Int32.lt_iff_toInt_lt, ← Int32.toInt_inj, Int32.reduceToInt, nI_1, nI_add, pk_sub, nI_toInt] at *); omega)] | rw [bI_t (by (try simp (disch := omega) only [Int32.le_iff_toInt_le, Int32.lt_iff_toInt_lt, ← Int32.toInt_inj, Int32.reduceToInt, nI_1, nI_add, pk_sub, nI_toInt] at *); omega)], rfl⟩
set_option maxRecDepth 100000 in
set_option maxHeartbeats 4000000 in
theorem c_F_append (h : Hp) (p t : Int32) {n : Nat} (hn : h 58 2 = nI n) (hn8 : n < 8) : Cn u_F_append 0 0 0 (w0 h) [.inr (some 58), .inl p, .inl t] (fun r w' => r = none ∧ w' = w0 (up2 (up2 (up2 h 59 n p) 60 n t) 58 2 (nI (n + 1)))) := by
  refine Cn.of (by decide) (Nat.le_of_ble_eq_true rfl) (fun E ad a qf => ?_)
  have qa := qf.2.2.2
  have hcs : 0 ≤ (eR E).cells ∧ 0 ≤ (eR E).slots := ⟨Nat.zero_le _, Nat.zero_le _⟩
  refine x_aload_n a 0 d_F_append_0 rfl ?_
  refine x_getR a 1 f_F_9 d_F_append_1 rfl (by omega) (by decide) rfl ?_
  refine x_aload_n a 4 d_F_append_4 rfl ?_
  refine x_getI a 5 f_F_18 d_F_append_5 rfl (by omega) (by decide) hn ?_
  refine x_iload_n a 8 d_F_append_8 rfl ?_
  refine x_iast a 9 d_F_append_9 rfl (by omega) (j := n) rfl hn8 (by decide) ?_
  refine x_aload_n a 10 d_F_append_10 rfl ?_
  refine x_getR a 11 f_F_15 d_F_append_11 rfl (by omega) (by decide) rfl ?_
  refine x_aload_n a 14 d_F_append_14 rfl ?_
  refine x_getI a 15 f_F_18 d_F_append_15 rfl (by omega) (by decide) (v := nI n) (by rw [up2_o _ _ _ (by decide)]; exact hn) ?_
  refine x_iload_n a 18 d_F_append_18 rfl ?_
  refine x_iast a 19 d_F_append_19 rfl (by omega) (j := n) rfl hn8 (by decide) ?_
  refine x_aload_n a 20 d_F_append_20 rfl ?_
  refine x_dup a 21 d_F_append_21 ?_
  refine x_getI a 22 f_F_18 d_F_append_22 rfl (by omega) (by decide) (v := nI n) (by rw [up2_o _ _ _ (by decide), up2_o _ _ _ (by decide)]; exact hn) ?_
  refine x_iconst a 25 1 d_F_append_25 (by decide) ?_
  refine x_iadd a 26 d_F_append_26 ?_
  refine x_push (nI_1 n) ?_
  refine x_putI a 27 f_F_18 d_F_append_27 rfl (by omega) (by decide) rfl rfl rfl ?_
  exact x_vret a qf 30 d_F_append_30 rfl ⟨rfl, rfl⟩
set_option maxRecDepth 100000 in
set_option maxHeartbeats 4000000 in
theorem c_F_beginAnew (h : Hp) : Cn u_F_beginAnew 0 0 0 (w0 h) [.inr (some 58)] (fun r w' => r = none ∧ w' = w0 (up2 (up2 (up2 (up2 h 58 3 0) 58 4 0) 58 5 0) 58 6 0)) := by
  refine Cn.of (by decide) (Nat.le_of_ble_eq_true rfl) (fun E ad a qf => ?_)
  have qa := qf.2.2.2
  have hcs : 0 ≤ (eR E).cells ∧ 0 ≤ (eR E).slots := ⟨Nat.zero_le _, Nat.zero_le _⟩
  refine x_aload_n a 0 d_F_beginAnew_0 rfl ?_
  refine x_iconst a 1 0 d_F_beginAnew_1 (by decide) ?_
  refine x_putI a 2 f_F_22 d_F_beginAnew_2 rfl (by omega) (by decide) rfl rfl rfl ?_
  refine x_aload_n a 5 d_F_beginAnew_5 rfl ?_
  refine x_iconst a 6 0 d_F_beginAnew_6 (by decide) ?_
  refine x_putI a 7 f_F_25 d_F_beginAnew_7 rfl (by omega) (by decide) rfl rfl rfl ?_
  refine x_aload_n a 10 d_F_beginAnew_10 rfl ?_
  refine x_iconst a 11 0 d_F_beginAnew_11 (by decide) ?_
  refine x_putI a 12 f_F_28 d_F_beginAnew_12 rfl (by omega) (by decide) rfl rfl rfl ?_
  refine x_aload_n a 15 d_F_beginAnew_15 rfl ?_
  refine x_iconst a 16 0 d_F_beginAnew_16 (by decide) ?_
  refine x_putI a 17 f_F_31 d_F_beginAnew_17 rfl (by omega) (by decide) rfl rfl rfl ?_
  exact x_vret a qf 20 d_F_beginAnew_20 rfl ⟨rfl, rfl⟩
set_option maxRecDepth 100000 in
set_option maxHeartbeats 4000000 in
theorem c_F_partitionAtHand (h : Hp) {n : Nat} (hn : h 58 3 = nI n) (hn8 : n < 8) : Cn u_F_partitionAtHand 0 0 0 (w0 h) [.inr (some 58)] (fun v w' => v = some (h 59 n) ∧ w' = w0 h) := by
  refine Cn.of (by decide) (Nat.le_of_ble_eq_true rfl) (fun E ad a qf => ?_)
  have qa := qf.2.2.2
  have hcs : 0 ≤ (eR E).cells ∧ 0 ≤ (eR E).slots := ⟨Nat.zero_le _, Nat.zero_le _⟩
  refine x_aload_n a 0 d_F_partitionAtHand_0 rfl ?_
  refine x_getR a 1 f_F_9 d_F_partitionAtHand_1 rfl (by omega) (by decide) rfl ?_
  refine x_aload_n a 4 d_F_partitionAtHand_4 rfl ?_
  refine x_getI a 5 f_F_22 d_F_partitionAtHand_5 rfl (by omega) (by decide) hn ?_
  refine x_iald a 8 d_F_partitionAtHand_8 rfl (by omega) (j := n) rfl hn8 (by decide) rfl ?_
  exact x_iret a qf 9 d_F_partitionAtHand_9 rfl ⟨rfl, rfl⟩
set_option maxRecDepth 100000 in
set_option maxHeartbeats 4000000 in
theorem c_F_tell (h : Hp) (x : Int32) : Cn u_F_tell 0 0 0 (w0 h) [.inr (some 58), .inl x] (fun v w' => v = some (if x = 0 then h 58 3 else if x = 1 then h 58 4 else if x = 2 then h 58 5 else -1) ∧ w' = w0 h) := by
  refine Cn.of (by decide) (Nat.le_of_ble_eq_true rfl) (fun E ad a qf => ?_)
  have qa := qf.2.2.2
  have hcs : 0 ≤ (eR E).cells ∧ 0 ≤ (eR E).slots := ⟨Nat.zero_le _, Nat.zero_le _⟩
  refine x_iload_n a 0 d_F_tell_0 rfl ?_
  by_cases s1_0 : x = 0
  · subst s1_0
    refine x_tableIn a 1 28 27 d_F_tell_1 (by decide) (by decide) rfl (by decide) ?_
    refine x_aload_n a 28 d_F_tell_28 rfl ?_
    refine x_getI a 29 f_F_22 d_F_tell_29 rfl (by omega) (by decide) rfl ?_
    exact x_iret a qf 32 d_F_tell_32 rfl ⟨rfl, rfl⟩
  by_cases s1_1 : x = 1
  · subst s1_1
    refine x_tableIn a 1 33 32 d_F_tell_1 (by decide) (by decide) rfl (by decide) ?_
    refine x_aload_n a 33 d_F_tell_33 rfl ?_
    refine x_getI a 34 f_F_25 d_F_tell_34 rfl (by omega) (by decide) rfl ?_
    exact x_iret a qf 37 d_F_tell_37 rfl ⟨rfl, rfl⟩
  by_cases s1_2 : x = 2
  · subst s1_2
    refine x_tableIn a 1 38 37 d_F_tell_1 (by decide) (by decide) rfl (by decide) ?_
    refine x_aload_n a 38 d_F_tell_38 rfl ?_
    refine x_getI a 39 f_F_28 d_F_tell_39 rfl (by omega) (by decide) rfl ?_
    exact x_iret a qf 42 d_F_tell_42 rfl ⟨rfl, rfl⟩
  refine x_tableOut a 1 43 d_F_tell_1 (by (try simp (disch := omega) only [Int32.le_iff_toInt_le, Int32.lt_iff_toInt_lt, ← Int32.toInt_inj, Int32.reduceToInt, nI_1, nI_add, pk_sub, nI_toInt] at *); omega) (by decide) ?_
  refine x_iconst a 43 (-1) d_F_tell_43 (by decide) ?_
  exact x_iret a qf 44 d_F_tell_44 rfl ⟨by rw [if_neg s1_0, if_neg s1_1, if_neg s1_2], rfl⟩
def f_end (h : Hp) (a n v l : Nat) : Hp :=
  if l ≤ v + 1 then up2 (up2 (up2 (up2 (up2 h 58 5 (h 58 5 + 1)) 58 4 (nI (v + 1))) 58 3 (nI (if a + 1 < n then a + 1 else 0))) 58 4 0) 58 6 0
  else up2 (up2 h 58 5 (h 58 5 + 1)) 58 4 (nI (v + 1))
set_option maxRecDepth 100000 in
set_option maxHeartbeats 4000000 in
theorem c_F_endTick (h : Hp) {a0 n v l : Nat} (ha : h 58 3 = nI a0) (hn : h 58 2 = nI n) (han : a0 < n) (hn8 : n ≤ 8) (hv : h 58 4 = nI v) (hv9 : v < 1000) (hl : h 60 a0 = nI l) (hl9 : l < 1000) : Cn u_F_endTick 0 0 0 (w0 h) [.inr (some 58)] (fun r w' => r = none ∧ w' = w0 (f_end h a0 n v l)) := by
  refine Cn.of (by decide) (Nat.le_of_ble_eq_true rfl) (fun E ad a qf => ?_)
  have qa := qf.2.2.2
  have hcs : 0 ≤ (eR E).cells ∧ 0 ≤ (eR E).slots := ⟨Nat.zero_le _, Nat.zero_le _⟩
  refine x_aload_n a 0 d_F_endTick_0 rfl ?_
  refine x_dup a 1 d_F_endTick_1 ?_
  refine x_getI a 2 f_F_28 d_F_endTick_2 rfl (by omega) (by decide) rfl ?_
  refine x_iconst a 5 1 d_F_endTick_5 (by decide) ?_
  refine x_iadd a 6 d_F_endTick_6 ?_
  refine x_putI a 7 f_F_28 d_F_endTick_7 rfl (by omega) (by decide) rfl rfl rfl ?_
  refine x_aload_n a 10 d_F_endTick_10 rfl ?_
  refine x_dup a 11 d_F_endTick_11 ?_
  refine x_getI a 12 f_F_25 d_F_endTick_12 rfl (by omega) (by decide) (v := nI v) (by rw [up2_k _ _ _ (by decide)]; exact hv) ?_
  refine x_iconst a 15 1 d_F_endTick_15 (by decide) ?_
  refine x_iadd a 16 d_F_endTick_16 ?_
  refine x_push (nI_1 v) ?_
  refine x_putI a 17 f_F_25 d_F_endTick_17 rfl (by omega) (by decide) rfl rfl rfl ?_
  refine x_aload_n a 20 d_F_endTick_20 rfl ?_
  refine x_getI a 21 f_F_25 d_F_endTick_21 rfl (by omega) (by decide) (v := nI (v + 1)) (up2_s _ _ _ _) ?_
  refine x_aload_n a 24 d_F_endTick_24 rfl ?_
  refine x_getR a 25 f_F_15 d_F_endTick_25 rfl (by omega) (by decide) rfl ?_
  refine x_aload_n a 28 d_F_endTick_28 rfl ?_
  refine x_getI a 29 f_F_22 d_F_endTick_29 rfl (by omega) (by decide) (v := nI a0) (by rw [up2_k _ _ _ (by decide), up2_k _ _ _ (by decide)]; exact ha) ?_
  refine x_iald a 32 d_F_endTick_32 rfl (by omega) (j := a0) rfl (by omega) (by decide) (v := nI l) (by rw [up2_o _ _ _ (by decide), up2_o _ _ _ (by decide)]; exact hl) ?_
  refine x_icmp_lt a 33 73 d_F_endTick_33 (by decide) (fun c33 => ?_) (fun c33 => ?_)
  · exact x_vret a qf 73 d_F_endTick_73 rfl ⟨rfl, by unfold f_end; first | (rw [if_pos (show l ≤ v + 1 from (by (try simp (disch := omega) only [Int32.le_iff_toInt_le, Int32.lt_iff_toInt_lt, ← Int32.toInt_inj, Int32.reduceToInt, nI_1, nI_add, pk_sub, nI_toInt] at *); omega))]) | (rw [if_neg (show ¬ l ≤ v + 1 from (by (try simp (disch := omega) only [Int32.le_iff_toInt_le, Int32.lt_iff_toInt_lt, ← Int32.toInt_inj, Int32.reduceToInt, nI_1, nI_add, pk_sub, nI_toInt] at *); omega))])⟩
  · refine x_aload_n a 36 d_F_endTick_36 rfl ?_
    refine x_aload_n a 37 d_F_endTick_37 rfl ?_
    refine x_getI a 38 f_F_22 d_F_endTick_38 rfl (by omega) (by decide) (v := nI a0) (by rw [up2_k _ _ _ (by decide), up2_k _ _ _ (by decide)]; exact ha) ?_
    refine x_iconst a 41 1 d_F_endTick_41 (by decide) ?_
    refine x_iadd a 42 d_F_endTick_42 ?_
    refine x_aload_n a 43 d_F_endTick_43 rfl ?_
    refine x_getI a 44 f_F_18 d_F_endTick_44 rfl (by omega) (by decide) (v := nI n) (by rw [up2_k _ _ _ (by decide), up2_k _ _ _ (by decide)]; exact hn) ?_
    refine x_icmp_ge a 47 59 d_F_endTick_47 (by decide) (fun c47 => ?_) (fun c47 => ?_)
    · refine x_iconst a 59 0 d_F_endTick_59 (by decide) ?_
      refine x_push (y := nI (if a0 + 1 < n then a0 + 1 else 0)) (by first | (rw [if_pos (by (try simp (disch := omega) only [Int32.le_iff_toInt_le, Int32.lt_iff_toInt_lt, ← Int32.toInt_inj, Int32.reduceToInt, nI_1, nI_add, pk_sub, nI_toInt] at *); omega)]; exact nI_1 a0) | (rw [if_neg (by (try simp (disch := omega) only [Int32.le_iff_toInt_le, Int32.lt_iff_toInt_lt, ← Int32.toInt_inj, Int32.reduceToInt, nI_1, nI_add, pk_sub, nI_toInt] at *); omega)]; rfl)) ?_
      refine x_putI a 60 f_F_22 d_F_endTick_60 rfl (by omega) (by decide) rfl rfl rfl ?_
      refine x_aload_n a 63 d_F_endTick_63 rfl ?_
      refine x_iconst a 64 0 d_F_endTick_64 (by decide) ?_
      refine x_putI a 65 f_F_25 d_F_endTick_65 rfl (by omega) (by decide) rfl rfl rfl ?_
      refine x_aload_n a 68 d_F_endTick_68 rfl ?_
      refine x_iconst a 69 0 d_F_endTick_69 (by decide) ?_
      refine x_putI a 70 f_F_31 d_F_endTick_70 rfl (by omega) (by decide) rfl rfl rfl ?_
      exact x_vret a qf 73 d_F_endTick_73 rfl ⟨rfl, by unfold f_end; first | (rw [if_pos (show l ≤ v + 1 from (by (try simp (disch := omega) only [Int32.le_iff_toInt_le, Int32.lt_iff_toInt_lt, ← Int32.toInt_inj, Int32.reduceToInt, nI_1, nI_add, pk_sub, nI_toInt] at *); omega))]) | (rw [if_neg (show ¬ l ≤ v + 1 from (by (try simp (disch := omega) only [Int32.le_iff_toInt_le, Int32.lt_iff_toInt_lt, ← Int32.toInt_inj, Int32.reduceToInt, nI_1, nI_add, pk_sub, nI_toInt] at *); omega))])⟩
    · refine x_aload_n a 50 d_F_endTick_50 rfl ?_
      refine x_getI a 51 f_F_22 d_F_endTick_51 rfl (by omega) (by decide) (v := nI a0) (by rw [up2_k _ _ _ (by decide), up2_k _ _ _ (by decide)]; exact ha) ?_
      refine x_iconst a 54 1 d_F_endTick_54 (by decide) ?_
      refine x_iadd a 55 d_F_endTick_55 ?_
      refine x_goto a 56 60 d_F_endTick_56 (by decide) ?_
      refine x_push (y := nI (if a0 + 1 < n then a0 + 1 else 0)) (by first | (rw [if_pos (by (try simp (disch := omega) only [Int32.le_iff_toInt_le, Int32.lt_iff_toInt_lt, ← Int32.toInt_inj, Int32.reduceToInt, nI_1, nI_add, pk_sub, nI_toInt] at *); omega)]; exact nI_1 a0) | (rw [if_neg (by (try simp (disch := omega) only [Int32.le_iff_toInt_le, Int32.lt_iff_toInt_lt, ← Int32.toInt_inj, Int32.reduceToInt, nI_1, nI_add, pk_sub, nI_toInt] at *); omega)]; rfl)) ?_
      refine x_putI a 60 f_F_22 d_F_endTick_60 rfl (by omega) (by decide) rfl rfl rfl ?_
      refine x_aload_n a 63 d_F_endTick_63 rfl ?_
      refine x_iconst a 64 0 d_F_endTick_64 (by decide) ?_
      refine x_putI a 65 f_F_25 d_F_endTick_65 rfl (by omega) (by decide) rfl rfl rfl ?_
      refine x_aload_n a 68 d_F_endTick_68 rfl ?_
      refine x_iconst a 69 0 d_F_endTick_69 (by decide) ?_
      refine x_putI a 70 f_F_31 d_F_endTick_70 rfl (by omega) (by decide) rfl rfl rfl ?_
      exact x_vret a qf 73 d_F_endTick_73 rfl ⟨rfl, by unfold f_end; first | (rw [if_pos (show l ≤ v + 1 from (by (try simp (disch := omega) only [Int32.le_iff_toInt_le, Int32.lt_iff_toInt_lt, ← Int32.toInt_inj, Int32.reduceToInt, nI_1, nI_add, pk_sub, nI_toInt] at *); omega))]) | (rw [if_neg (show ¬ l ≤ v + 1 from (by (try simp (disch := omega) only [Int32.le_iff_toInt_le, Int32.lt_iff_toInt_lt, ← Int32.toInt_inj, Int32.reduceToInt, nI_1, nI_add, pk_sub, nI_toInt] at *); omega))])⟩
def f_has (h : Hp) (p : Int32) (n : Nat) : Prop := ∃ k, k < n ∧ h 59 k = p
set_option maxRecDepth 100000 in
set_option maxHeartbeats 4000000 in
theorem l_F_hasWindowOf {E : En} {ad : Nat → Nat} {h : Hp} {p : Int32} {n : Nat} {Post : Option Int32 → Wd → Prop} (a : Amb u_F_hasWindowOf 0 E) (qf : Fin Post (w0 h).1 ad 0 0 E) (hn : h 58 2 = nI n) (hn8 : n ≤ 8) (ht : f_has h p n → Post (some 1) (w0 h)) (hf : ¬ f_has h p n → Post (some 0) (w0 h)) : ∀ m k : Nat, k ≤ n → n < k + m → (∀ i, i < k → ¬ h 59 i = p) → X E 0 0 ad (w0 h) 2 [(0, .inr (some 58)), (1, .inl p), (2, .inl (nI k))] [] := by
  intro m
  induction m with
  | zero => intro k h1 h2; omega
  | succ m ih =>
    intro k h1 h2 h3
    refine x_iload_n a 2 d_F_hasWindowOf_2 rfl ?_
    refine x_aload_n a 3 d_F_hasWindowOf_3 rfl ?_
    refine x_getI a 4 f_F_18 d_F_hasWindowOf_4 rfl (by omega) (by decide) hn ?_
    refine x_icmp_ge a 7 28 d_F_hasWindowOf_7 (by decide) (fun c7 => ?_) (fun c7 => ?_)
    · refine x_iconst a 28 0 d_F_hasWindowOf_28 (by decide) ?_
      exact x_zret a qf 29 d_F_hasWindowOf_29 rfl rfl (hf (fun ⟨i, hi, hp⟩ => h3 i (by (try simp (disch := omega) only [Int32.le_iff_toInt_le, Int32.lt_iff_toInt_lt, ← Int32.toInt_inj, Int32.reduceToInt, nI_1, nI_add, pk_sub, nI_toInt] at *); omega) hp))
    · refine x_aload_n a 10 d_F_hasWindowOf_10 rfl ?_
      refine x_getR a 11 f_F_9 d_F_hasWindowOf_11 rfl (by omega) (by decide) rfl ?_
      refine x_iload_n a 14 d_F_hasWindowOf_14 rfl ?_
      refine x_iald a 15 d_F_hasWindowOf_15 rfl (by omega) (j := k) rfl (by (try simp (disch := omega) only [Int32.le_iff_toInt_le, Int32.lt_iff_toInt_lt, ← Int32.toInt_inj, Int32.reduceToInt, nI_1, nI_add, pk_sub, nI_toInt] at *); omega) (by decide) rfl ?_
      refine x_iload_n a 16 d_F_hasWindowOf_16 rfl ?_
      refine x_icmp_ne a 17 22 d_F_hasWindowOf_17 (by decide) (fun c17 => ?_) (fun c17 => ?_)
      · refine x_iinc a 22 (nI (k + 1)) d_F_hasWindowOf_22 rfl (nI_inc k) (by decide) ?_
        refine x_goto a 25 2 d_F_hasWindowOf_25 (by decide) ?_
        refine x_lv [(0, .inr (some 58)), (1, .inl p), (2, .inl (nI (k + 1)))] (List.forall_mem_cons.mpr ⟨rfl, List.forall_mem_cons.mpr ⟨rfl, List.forall_mem_cons.mpr ⟨rfl, fun _ z => absurd z List.not_mem_nil⟩⟩⟩) ?_
        exact ih (k + 1) (by (try simp (disch := omega) only [Int32.le_iff_toInt_le, Int32.lt_iff_toInt_lt, ← Int32.toInt_inj, Int32.reduceToInt, nI_1, nI_add, pk_sub, nI_toInt] at *); omega) (by omega) (fun i hi => by rcases Nat.lt_succ_iff_lt_or_eq.mp hi with z | rfl; exact h3 i z; exact c17)
      · refine x_iconst a 20 1 d_F_hasWindowOf_20 (by decide) ?_
        exact x_zret a qf 21 d_F_hasWindowOf_21 rfl rfl (ht ⟨k, (by (try simp (disch := omega) only [Int32.le_iff_toInt_le, Int32.lt_iff_toInt_lt, ← Int32.toInt_inj, Int32.reduceToInt, nI_1, nI_add, pk_sub, nI_toInt] at *); omega), c17⟩)
set_option maxRecDepth 100000 in
set_option maxHeartbeats 4000000 in
theorem c_F_hasWindowOf (h : Hp) (p : Int32) {n : Nat} (hn : h 58 2 = nI n) (hn8 : n ≤ 8) : Cn u_F_hasWindowOf 0 0 0 (w0 h) [.inr (some 58), .inl p] (fun v w' => w' = w0 h ∧ ((v = some 1 ∧ f_has h p n) ∨ (v = some 0 ∧ ¬ f_has h p n))) := by
  refine Cn.of (by decide) (Nat.le_of_ble_eq_true rfl) (fun E ad a qf => ?_)
  have qa := qf.2.2.2
  have hcs : 0 ≤ (eR E).cells ∧ 0 ≤ (eR E).slots := ⟨Nat.zero_le _, Nat.zero_le _⟩
  refine x_iconst a 0 0 d_F_hasWindowOf_0 (by decide) ?_
  refine x_istore_n a 1 d_F_hasWindowOf_1 (by decide) ?_
  refine x_lv [(0, .inr (some 58)), (1, .inl p), (2, .inl (nI 0))] (List.forall_mem_cons.mpr ⟨rfl, List.forall_mem_cons.mpr ⟨rfl, List.forall_mem_cons.mpr ⟨rfl, fun _ z => absurd z List.not_mem_nil⟩⟩⟩) ?_
  exact l_F_hasWindowOf a qf hn hn8 (fun z => ⟨rfl, Or.inl ⟨rfl, z⟩⟩) (fun z => ⟨rfl, Or.inr ⟨rfl, z⟩⟩) (n + 1) 0 (by omega) (by omega) (fun i hi => absurd hi (by omega))
