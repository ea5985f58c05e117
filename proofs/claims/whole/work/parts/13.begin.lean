/-! what is cleared, cell by cell -/
def d_mem (h : Hp) : Nat → Hp
  | 0 => h
  | k + 1 => up2 (d_mem h k) 1 k 0
theorem d_mem_o (h : Hp) {a : Nat} (ha : a ≠ 1) : ∀ k, d_mem h k a = h a
  | 0 => rfl
  | k + 1 => by rw [d_mem, up2_o _ _ _ ha, d_mem_o h ha k]
def d_prt (h : Hp) : Nat → Hp
  | 0 => h
  | k + 1 => up2 (up2 (d_prt h k) (41 + 3 * k) 1 0) (41 + 3 * k) 2 0
theorem d_prt_o (h : Hp) {a : Nat} : ∀ k, (∀ i, i < k → a ≠ 41 + 3 * i) → d_prt h k a = h a
  | 0, _ => rfl
  | k + 1, ha => by rw [d_prt, up2_o _ _ _ (ha k (by omega)), up2_o _ _ _ (ha k (by omega)), d_prt_o h k (fun i hi => ha i (by omega))]
def d_parts (h : Hp) : Hp := p_begin (p_begin (p_begin (p_begin h 0) 1) 2) 3
theorem p_begin_o (h : Hp) {a j : Nat} (h1 : a ≠ 3 + 9 * j) (h2 : a ≠ 8 + 9 * j) : p_begin h j a = h a := by
  unfold p_begin p_clear
  simp (disch := omega) only [up2_o]
theorem d_parts_o (h : Hp) {a : Nat} (ha : ∀ j, j < 4 → a ≠ 3 + 9 * j ∧ a ≠ 8 + 9 * j) : d_parts h a = h a := by
  unfold d_parts
  rw [p_begin_o _ (ha 3 (by omega)).1 (ha 3 (by omega)).2, p_begin_o _ (ha 2 (by omega)).1 (ha 2 (by omega)).2, p_begin_o _ (ha 1 (by omega)).1 (ha 1 (by omega)).2, p_begin_o _ (ha 0 (by omega)).1 (ha 0 (by omega)).2]
def d_frame (h : Hp) : Hp := up2 (up2 (up2 (up2 h 58 3 0) 58 4 0) 58 5 0) 58 6 0
def d_begin (h : Hp) (m : Nat) : Hp := up2 (d_frame (d_prt (d_parts (d_mem h 64)) m)) 0 5 1
set_option maxRecDepth 100000 in
set_option maxHeartbeats 4000000 in
theorem l_D_begin3 {E : En} {ad : Nat → Nat} {h : Hp} {n0 : Nat} {Post : Option Int32 → Wd → Prop} (a : Amb u_D_beginAnew 2 E) (qf : Fin Post n0 ad 0 0 E) (qa : va_AO R_2 (eS E) ∧ va_AO R_3 (eS E)) (hcs : 0 ≤ (eR E).cells ∧ 0 ≤ (eR E).slots) {n : Nat} (hn : h 0 4 = nI n) (hn6 : n ≤ 6) (hp : Post none (w0 (up2 (d_frame (d_prt h n)) 0 5 1))) : ∀ m k : Nat, k ≤ n → n < k + m → X E 0 0 ad (w0 (d_prt h k)) 45 [(0, .inr (some 0)), (1, .inl (nI k))] [] := by
  intro m
  induction m with
  | zero => intro k h1 h2; omega
  | succ m ih =>
    intro k h1 h2
    refine x_iload_n a 45 d_D_beginAnew_45 rfl ?_
    refine x_aload_n a 46 d_D_beginAnew_46 rfl ?_
    refine x_getI a 47 f_D_34 d_D_beginAnew_47 rfl (by omega) (by decide) (v := nI n) (by rw [d_prt_o h k (fun i hi => by omega)]; exact hn) ?_
    refine x_icmp_ge a 50 71 d_D_beginAnew_50 (by decide) (fun c50 => ?_) (fun c50 => ?_)
    · have hk : k = n := (by (try simp (disch := omega) only [Int32.le_iff_toInt_le, Int32.lt_iff_toInt_lt, ← Int32.toInt_inj, Int32.reduceToInt, nI_1, nI_add, pk_sub, nI_toInt] at *); omega)
      subst hk
      refine x_aload_n a 71 d_D_beginAnew_71 rfl ?_
      refine x_getR a 72 f_D_30 d_D_beginAnew_72 rfl (by omega) (by decide) rfl ?_
      refine x_callV a qa 75 g_D_142 d_D_beginAnew_75 (c_F_beginAnew _) rfl rfl rfl (show _ < 86 by omega) (by decide) (Nat.le_of_ble_eq_true rfl) hcs (fun v w' hp => ?_)
      obtain ⟨rfl, rfl⟩ := hp
      refine x_st0 ?_
      refine x_aload_n a 78 d_D_beginAnew_78 rfl ?_
      refine x_iconst a 79 1 d_D_beginAnew_79 (by decide) ?_
      refine x_putI a 80 f_D_38 d_D_beginAnew_80 rfl (by omega) (by decide) rfl rfl rfl ?_
      exact x_vret a qf 83 d_D_beginAnew_83 rfl hp
    · have hk : k < n := (by (try simp (disch := omega) only [Int32.le_iff_toInt_le, Int32.lt_iff_toInt_lt, ← Int32.toInt_inj, Int32.reduceToInt, nI_1, nI_add, pk_sub, nI_toInt] at *); omega)
      refine x_aload_n a 53 d_D_beginAnew_53 rfl ?_
      refine x_getR a 54 f_D_22 d_D_beginAnew_54 rfl (by omega) (by decide) rfl ?_
      refine x_iload_n a 57 d_D_beginAnew_57 rfl ?_
      refine x_aald3 a 58 d_D_beginAnew_58 rfl (by omega) (j := k) rfl (by omega) (by decide) (rQs (by omega)) ?_
      refine x_getR a 59 f_D_112 d_D_beginAnew_59 (kQ (by omega)) (by omega) (by decide) (rQ0 (by omega)) ?_
      refine x_callV a qa 62 g_D_139 d_D_beginAnew_62 (c_V_clear _ (vq41 (by omega))) rfl rfl (kV41 (by omega)) (show _ < 86 by omega) (by decide) (Nat.le_of_ble_eq_true rfl) hcs (fun v w' hp => ?_)
      obtain ⟨rfl, rfl⟩ := hp
      refine x_st0 ?_
      refine x_iinc a 65 (nI (k + 1)) d_D_beginAnew_65 rfl (nI_inc k) (by decide) ?_
      refine x_goto a 68 45 d_D_beginAnew_68 (by decide) ?_
      refine x_lv [(0, .inr (some 0)), (1, .inl (nI (k + 1)))] (List.forall_mem_cons.mpr ⟨rfl, List.forall_mem_cons.mpr ⟨rfl, fun _ z => absurd z List.not_mem_nil⟩⟩) ?_
      exact ih (k + 1) hk (by omega)
set_option maxRecDepth 100000 in
set_option maxHeartbeats 4000000 in
theorem l_D_begin1 {E : En} {ad : Nat → Nat} {h : Hp} {n0 : Nat} {Post : Option Int32 → Wd → Prop} (a : Amb u_D_beginAnew 2 E) (qf : Fin Post n0 ad 0 0 E) (qa : va_AO R_2 (eS E) ∧ va_AO R_3 (eS E)) (hcs : 0 ≤ (eR E).cells ∧ 0 ≤ (eR E).slots) {n : Nat} (hn : h 0 4 = nI n) (hn6 : n ≤ 6) (hp : Post none (w0 (d_begin h n))) : ∀ m k : Nat, k ≤ 64 → 64 < k + m → X E 0 0 ad (w0 (d_mem h k)) 2 [(0, .inr (some 0)), (1, .inl (nI k))] [] := by
  intro m
  induction m with
  | zero => intro k h1 h2; omega
  | succ m ih =>
    intro k h1 h2
    refine x_iload_n a 2 d_D_beginAnew_2 rfl ?_
    refine x_bipush a 3 64 d_D_beginAnew_3 (by decide) ?_
    refine x_icmp_ge a 5 21 d_D_beginAnew_5 (by decide) (fun c5 => ?_) (fun c5 => ?_)
    · have hk : k = 64 := (by (try simp (disch := omega) only [Int32.le_iff_toInt_le, Int32.lt_iff_toInt_lt, ← Int32.toInt_inj, Int32.reduceToInt, nI_1, nI_add, pk_sub, nI_toInt] at *); omega)
      subst hk
      refine x_iconst a 21 0 d_D_beginAnew_21 (by decide) ?_
      refine x_istore_n a 22 d_D_beginAnew_22 (by decide) ?_
      refine x_iload_n a 23 d_D_beginAnew_23 rfl ?_
      refine x_iconst a 24 4 d_D_beginAnew_24 (by decide) ?_
      refine x_icmp_ge a 25 43 d_D_beginAnew_25 (by decide) (fun z => absurd z (by decide)) (fun _ => ?_)
      refine x_aload_n a 28 d_D_beginAnew_28 rfl ?_
      refine x_getR a 29 f_D_15 d_D_beginAnew_29 rfl (by omega) (by decide) rfl ?_
      refine x_iload_n a 32 d_D_beginAnew_32 rfl ?_
      refine x_aald2 a 33 d_D_beginAnew_33 rfl (by omega) (j := 0) (by decide) (by decide) (by decide) (rPs (by omega)) ?_
      refine x_callV a qa 34 g_D_138 d_D_beginAnew_34 (c_P_beginAnew _ (by omega)) rfl rfl (kP (by omega)) (show _ < 86 by omega) (by decide) (Nat.le_of_ble_eq_true rfl) hcs (fun v w' hp => ?_)
      obtain ⟨rfl, rfl⟩ := hp
      refine x_st0 ?_
      refine x_iinc a 37 1 d_D_beginAnew_37 rfl (by decide) (by decide) ?_
      refine x_goto a 40 23 d_D_beginAnew_40 (by decide) ?_
      refine x_iload_n a 23 d_D_beginAnew_23 rfl ?_
      refine x_iconst a 24 4 d_D_beginAnew_24 (by decide) ?_
      refine x_icmp_ge a 25 43 d_D_beginAnew_25 (by decide) (fun z => absurd z (by decide)) (fun _ => ?_)
      refine x_aload_n a 28 d_D_beginAnew_28 rfl ?_
      refine x_getR a 29 f_D_15 d_D_beginAnew_29 rfl (by omega) (by decide) rfl ?_
      refine x_iload_n a 32 d_D_beginAnew_32 rfl ?_
      refine x_aald2 a 33 d_D_beginAnew_33 rfl (by omega) (j := 1) (by decide) (by decide) (by decide) (rPs (by omega)) ?_
      refine x_callV a qa 34 g_D_138 d_D_beginAnew_34 (c_P_beginAnew _ (by omega)) rfl rfl (kP (by omega)) (show _ < 86 by omega) (by decide) (Nat.le_of_ble_eq_true rfl) hcs (fun v w' hp => ?_)
      obtain ⟨rfl, rfl⟩ := hp
      refine x_st0 ?_
      refine x_iinc a 37 2 d_D_beginAnew_37 rfl (by decide) (by decide) ?_
      refine x_goto a 40 23 d_D_beginAnew_40 (by decide) ?_
      refine x_iload_n a 23 d_D_beginAnew_23 rfl ?_
      refine x_iconst a 24 4 d_D_beginAnew_24 (by decide) ?_
      refine x_icmp_ge a 25 43 d_D_beginAnew_25 (by decide) (fun z => absurd z (by decide)) (fun _ => ?_)
      refine x_aload_n a 28 d_D_beginAnew_28 rfl ?_
      refine x_getR a 29 f_D_15 d_D_beginAnew_29 rfl (by omega) (by decide) rfl ?_
      refine x_iload_n a 32 d_D_beginAnew_32 rfl ?_
      refine x_aald2 a 33 d_D_beginAnew_33 rfl (by omega) (j := 2) (by decide) (by decide) (by decide) (rPs (by omega)) ?_
      refine x_callV a qa 34 g_D_138 d_D_beginAnew_34 (c_P_beginAnew _ (by omega)) rfl rfl (kP (by omega)) (show _ < 86 by omega) (by decide) (Nat.le_of_ble_eq_true rfl) hcs (fun v w' hp => ?_)
      obtain ⟨rfl, rfl⟩ := hp
      refine x_st0 ?_
      refine x_iinc a 37 3 d_D_beginAnew_37 rfl (by decide) (by decide) ?_
      refine x_goto a 40 23 d_D_beginAnew_40 (by decide) ?_
      refine x_iload_n a 23 d_D_beginAnew_23 rfl ?_
      refine x_iconst a 24 4 d_D_beginAnew_24 (by decide) ?_
      refine x_icmp_ge a 25 43 d_D_beginAnew_25 (by decide) (fun z => absurd z (by decide)) (fun _ => ?_)
      refine x_aload_n a 28 d_D_beginAnew_28 rfl ?_
      refine x_getR a 29 f_D_15 d_D_beginAnew_29 rfl (by omega) (by decide) rfl ?_
      refine x_iload_n a 32 d_D_beginAnew_32 rfl ?_
      refine x_aald2 a 33 d_D_beginAnew_33 rfl (by omega) (j := 3) (by decide) (by decide) (by decide) (rPs (by omega)) ?_
      refine x_callV a qa 34 g_D_138 d_D_beginAnew_34 (c_P_beginAnew _ (by omega)) rfl rfl (kP (by omega)) (show _ < 86 by omega) (by decide) (Nat.le_of_ble_eq_true rfl) hcs (fun v w' hp => ?_)
      obtain ⟨rfl, rfl⟩ := hp
      refine x_st0 ?_
      refine x_iinc a 37 4 d_D_beginAnew_37 rfl (by decide) (by decide) ?_
      refine x_goto a 40 23 d_D_beginAnew_40 (by decide) ?_
      refine x_iload_n a 23 d_D_beginAnew_23 rfl ?_
      refine x_iconst a 24 4 d_D_beginAnew_24 (by decide) ?_
      refine x_icmp_ge a 25 43 d_D_beginAnew_25 (by decide) (fun _ => ?_) (fun z => absurd z (by decide))
      refine x_iconst a 43 0 d_D_beginAnew_43 (by decide) ?_
      refine x_istore_n a 44 d_D_beginAnew_44 (by decide) ?_
      refine x_lv [(0, .inr (some 0)), (1, .inl (nI 0))] (List.forall_mem_cons.mpr ⟨rfl, List.forall_mem_cons.mpr ⟨rfl, fun _ z => absurd z List.not_mem_nil⟩⟩) ?_
      exact l_D_begin3 (h := d_parts (d_mem h 64)) a qf qa hcs (by rw [d_parts_o _ (fun j hj => by omega), d_mem_o _ (by decide)]; exact hn) hn6 hp (n + 1) 0 (by omega) (by omega)
    · have hk : k < 64 := (by (try simp (disch := omega) only [Int32.le_iff_toInt_le, Int32.lt_iff_toInt_lt, ← Int32.toInt_inj, Int32.reduceToInt, nI_1, nI_add, pk_sub, nI_toInt] at *); omega)
      refine x_aload_n a 8 d_D_beginAnew_8 rfl ?_
      refine x_getR a 9 f_D_9 d_D_beginAnew_9 rfl (by omega) (by decide) rfl ?_
      refine x_iload_n a 12 d_D_beginAnew_12 rfl ?_
      refine x_iconst a 13 0 d_D_beginAnew_13 (by decide) ?_
      refine x_iast a 14 d_D_beginAnew_14 rfl (by omega) (j := k) rfl (by omega) (by decide) ?_
      refine x_iinc a 15 (nI (k + 1)) d_D_beginAnew_15 rfl (nI_inc k) (by decide) ?_
      refine x_goto a 18 2 d_D_beginAnew_18 (by decide) ?_
      refine x_lv [(0, .inr (some 0)), (1, .inl (nI (k + 1)))] (List.forall_mem_cons.mpr ⟨rfl, List.forall_mem_cons.mpr ⟨rfl, fun _ z => absurd z List.not_mem_nil⟩⟩) ?_
      exact ih (k + 1) hk (by omega)
set_option maxRecDepth 100000 in
set_option maxHeartbeats 4000000 in
theorem c_D_beginAnew (h : Hp) {n : Nat} (hn : h 0 4 = nI n) (hn6 : n ≤ 6) : Cn u_D_beginAnew 2 0 0 (w0 h) [.inr (some 0)] (fun r w' => r = none ∧ w' = w0 (d_begin h n)) := by
  refine Cn.of (by decide +kernel) (Nat.le_of_ble_eq_true rfl) (fun E ad a qf => ?_)
  have qa := qf.2.2.2
  have hcs : 0 ≤ (eR E).cells ∧ 0 ≤ (eR E).slots := ⟨Nat.zero_le _, Nat.zero_le _⟩
  refine x_iconst a 0 0 d_D_beginAnew_0 (by decide) ?_
  refine x_istore_n a 1 d_D_beginAnew_1 (by decide) ?_
  refine x_lv [(0, .inr (some 0)), (1, .inl (nI 0))] (List.forall_mem_cons.mpr ⟨rfl, List.forall_mem_cons.mpr ⟨rfl, fun _ z => absurd z List.not_mem_nil⟩⟩) ?_
  exact l_D_begin1 a qf qa hcs hn hn6 ⟨rfl, rfl⟩ 65 0 (by omega) (by omega)
def r_mem (h : Hp) (f : Nat) : Nat → Hp
  | 0 => h
  | k + 1 => up2 (r_mem h f k) 1 (f + k) 0
theorem r_mem_o (h : Hp) (f : Nat) {a : Nat} (ha : a ≠ 1) : ∀ k, r_mem h f k a = h a
  | 0 => rfl
  | k + 1 => by rw [r_mem, up2_o _ _ _ ha, r_mem_o h f ha k]
def r_prt (h : Hp) (j : Nat) : Nat → Hp
  | 0 => h
  | k + 1 => if r_prt h j k (40 + 3 * k) 2 = nI j then up2 (up2 (r_prt h j k) (41 + 3 * k) 1 0) (41 + 3 * k) 2 0 else r_prt h j k
theorem r_prt_o (h : Hp) (j : Nat) {a : Nat} : ∀ k, (∀ i, i < k → a ≠ 41 + 3 * i) → r_prt h j k a = h a
  | 0, _ => rfl
  | k + 1, ha => by
    rw [r_prt]
    split
    · rw [up2_o _ _ _ (ha k (by omega)), up2_o _ _ _ (ha k (by omega)), r_prt_o h j k (fun i hi => ha i (by omega))]
    · exact r_prt_o h j k (fun i hi => ha i (by omega))
def d_restart (h : Hp) (j : Nat) : Hp := r_prt (r_mem (p_clear h j) (tn (h (3 + 9 * j) 7)) (tn (h (3 + 9 * j) 8))) j (tn (h 0 4))
theorem p_clear_o (h : Hp) {a j : Nat} (h1 : a ≠ 3 + 9 * j) (h2 : a ≠ 8 + 9 * j) : p_clear h j a = h a := by
  unfold p_clear
  simp (disch := omega) only [up2_o]
theorem p_clear_k (h : Hp) {k j : Nat} (h1 : k ≠ 9) : p_clear h j (3 + 9 * j) k = h (3 + 9 * j) k := by
  unfold p_clear
  simp (disch := omega) only [up2_o, up2_k]
set_option maxRecDepth 100000 in
set_option maxHeartbeats 4000000 in
theorem l_D_restart2 {E : En} {ad : Nat → Nat} {h : Hp} {n0 : Nat} {Post : Option Int32 → Wd → Prop} (a : Amb u_D_restart 1 E) (qf : Fin Post n0 ad 0 0 E) (qa : va_AO R_2 (eS E) ∧ va_AO R_3 (eS E)) (hcs : 0 ≤ (eR E).cells ∧ 0 ≤ (eR E).slots) {j n : Nat} (hj : j < 4) (hn : h 0 4 = nI n) (hn6 : n ≤ 6) (hp : Post none (w0 (r_prt h j n))) : ∀ m k : Nat, k ≤ n → n < k + m → X E 0 0 ad (w0 (r_prt h j k)) 41 [(0, .inr (some 0)), (1, .inl (nI j)), (2, .inr (some (3 + 9 * j))), (3, .inl (nI k))] [] := by
  intro m
  induction m with
  | zero => intro k h1 h2; omega
  | succ m ih =>
    intro k h1 h2
    refine x_iload_n a 41 d_D_restart_41 rfl ?_
    refine x_aload_n a 42 d_D_restart_42 rfl ?_
    refine x_getI a 43 f_D_34 d_D_restart_43 rfl (by omega) (by decide) (v := nI n) (by rw [r_prt_o h j k (fun i hi => by omega)]; exact hn) ?_
    refine x_icmp_ge a 46 80 d_D_restart_46 (by decide) (fun c46 => ?_) (fun c46 => ?_)
    · have hk : k = n := (by (try simp (disch := omega) only [Int32.le_iff_toInt_le, Int32.lt_iff_toInt_lt, ← Int32.toInt_inj, Int32.reduceToInt, nI_1, nI_add, pk_sub, nI_toInt] at *); omega)
      subst hk
      exact x_vret a qf 80 d_D_restart_80 rfl hp
    · have hk : k < n := (by (try simp (disch := omega) only [Int32.le_iff_toInt_le, Int32.lt_iff_toInt_lt, ← Int32.toInt_inj, Int32.reduceToInt, nI_1, nI_add, pk_sub, nI_toInt] at *); omega)
      refine x_aload_n a 49 d_D_restart_49 rfl ?_
      refine x_getR a 50 f_D_22 d_D_restart_50 rfl (by omega) (by decide) rfl ?_
      refine x_iload_n a 53 d_D_restart_53 rfl ?_
      refine x_aald3 a 54 d_D_restart_54 rfl (by omega) (j := k) rfl (by omega) (by decide) (rQs (by omega)) ?_
      refine x_getI a 55 f_D_61 d_D_restart_55 (kQ (by omega)) (by omega) (by decide) rfl ?_
      refine x_iload_n a 58 d_D_restart_58 rfl ?_
      refine x_icmp_ne a 59 74 d_D_restart_59 (by decide) (fun c59 => ?_) (fun c59 => ?_)
      · refine x_iinc a 74 (nI (k + 1)) d_D_restart_74 rfl (nI_inc k) (by decide) ?_
        refine x_goto a 77 41 d_D_restart_77 (by decide) ?_
        refine x_lv [(0, .inr (some 0)), (1, .inl (nI j)), (2, .inr (some (3 + 9 * j))), (3, .inl (nI (k + 1)))] (List.forall_mem_cons.mpr ⟨rfl, List.forall_mem_cons.mpr ⟨rfl, List.forall_mem_cons.mpr ⟨rfl, List.forall_mem_cons.mpr ⟨rfl, fun _ z => absurd z List.not_mem_nil⟩⟩⟩⟩) ?_
        refine x_w (w' := w0 (r_prt h j (k + 1))) (by rw [r_prt]; first | rw [if_pos c59] | rw [if_neg c59]) ?_
        exact ih (k + 1) hk (by omega)
      · refine x_aload_n a 62 d_D_restart_62 rfl ?_
        refine x_getR a 63 f_D_22 d_D_restart_63 rfl (by omega) (by decide) rfl ?_
        refine x_iload_n a 66 d_D_restart_66 rfl ?_
        refine x_aald3 a 67 d_D_restart_67 rfl (by omega) (j := k) rfl (by omega) (by decide) (rQs (by omega)) ?_
        refine x_getR a 68 f_D_112 d_D_restart_68 (kQ (by omega)) (by omega) (by decide) (rQ0 (by omega)) ?_
        refine x_callV a qa 71 g_D_139 d_D_restart_71 (c_V_clear _ (vq41 (by omega))) rfl rfl (kV41 (by omega)) (show _ < 86 by omega) (by decide) (Nat.le_of_ble_eq_true rfl) hcs (fun v w' hp => ?_)
        obtain ⟨rfl, rfl⟩ := hp
        refine x_st0 ?_
        refine x_iinc a 74 (nI (k + 1)) d_D_restart_74 rfl (nI_inc k) (by decide) ?_
        refine x_goto a 77 41 d_D_restart_77 (by decide) ?_
        refine x_lv [(0, .inr (some 0)), (1, .inl (nI j)), (2, .inr (some (3 + 9 * j))), (3, .inl (nI (k + 1)))] (List.forall_mem_cons.mpr ⟨rfl, List.forall_mem_cons.mpr ⟨rfl, List.forall_mem_cons.mpr ⟨rfl, List.forall_mem_cons.mpr ⟨rfl, fun _ z => absurd z List.not_mem_nil⟩⟩⟩⟩) ?_
        refine x_w (w' := w0 (r_prt h j (k + 1))) (by rw [r_prt]; first | rw [if_pos c59] | rw [if_neg c59]) ?_
        exact ih (k + 1) hk (by omega)
set_option maxRecDepth 100000 in
set_option maxHeartbeats 4000000 in
theorem l_D_restart1 {E : En} {ad : Nat → Nat} {h : Hp} {n0 : Nat} {Post : Option Int32 → Wd → Prop} (a : Amb u_D_restart 1 E) (qf : Fin Post n0 ad 0 0 E) (qa : va_AO R_2 (eS E) ∧ va_AO R_3 (eS E)) (hcs : 0 ≤ (eR E).cells ∧ 0 ≤ (eR E).slots) {j n f s : Nat} (hj : j < 4) (hn : h 0 4 = nI n) (hn6 : n ≤ 6) (hf : h (3 + 9 * j) 7 = nI f) (hs : h (3 + 9 * j) 8 = nI s) (hfs : f + s ≤ 64) (hp : Post none (w0 (r_prt (r_mem h f s) j n))) : ∀ m k : Nat, k ≤ s → s < k + m → X E 0 0 ad (w0 (r_mem h f k)) 13 [(0, .inr (some 0)), (1, .inl (nI j)), (2, .inr (some (3 + 9 * j))), (3, .inl (nI k))] [] := by
  intro m
  induction m with
  | zero => intro k h1 h2; omega
  | succ m ih =>
    intro k h1 h2
    refine x_iload_n a 13 d_D_restart_13 rfl ?_
    refine x_aload_n a 14 d_D_restart_14 rfl ?_
    refine x_getI a 15 f_D_49 d_D_restart_15 (kP (by omega)) (by omega) (by decide) (v := nI s) (by rw [r_mem_o _ _ (by omega)]; exact hs) ?_
    refine x_icmp_ge a 18 39 d_D_restart_18 (by decide) (fun c18 => ?_) (fun c18 => ?_)
    · have hk : k = s := (by (try simp (disch := omega) only [Int32.le_iff_toInt_le, Int32.lt_iff_toInt_lt, ← Int32.toInt_inj, Int32.reduceToInt, nI_1, nI_add, pk_sub, nI_toInt] at *); omega)
      subst hk
      refine x_iconst a 39 0 d_D_restart_39 (by decide) ?_
      refine x_istore_n a 40 d_D_restart_40 (by decide) ?_
      refine x_lv [(0, .inr (some 0)), (1, .inl (nI j)), (2, .inr (some (3 + 9 * j))), (3, .inl (nI 0))] (List.forall_mem_cons.mpr ⟨rfl, List.forall_mem_cons.mpr ⟨rfl, List.forall_mem_cons.mpr ⟨rfl, List.forall_mem_cons.mpr ⟨rfl, fun _ z => absurd z List.not_mem_nil⟩⟩⟩⟩) ?_
      exact l_D_restart2 (h := r_mem h f k) a qf qa hcs hj (by rw [r_mem_o _ _ (by decide)]; exact hn) hn6 hp (n + 1) 0 (by omega) (by omega)
    · have hk : k < s := (by (try simp (disch := omega) only [Int32.le_iff_toInt_le, Int32.lt_iff_toInt_lt, ← Int32.toInt_inj, Int32.reduceToInt, nI_1, nI_add, pk_sub, nI_toInt] at *); omega)
      refine x_aload_n a 21 d_D_restart_21 rfl ?_
      refine x_getR a 22 f_D_9 d_D_restart_22 rfl (by omega) (by decide) rfl ?_
      refine x_aload_n a 25 d_D_restart_25 rfl ?_
      refine x_getI a 26 f_D_46 d_D_restart_26 (kP (by omega)) (by omega) (by decide) (v := nI f) (by rw [r_mem_o _ _ (by omega)]; exact hf) ?_
      refine x_iload_n a 29 d_D_restart_29 rfl ?_
      refine x_iadd a 30 d_D_restart_30 ?_
      refine x_iconst a 31 0 d_D_restart_31 (by decide) ?_
      refine x_iast a 32 d_D_restart_32 rfl (by omega) (j := f + k) (nI_add f k) (by omega) (by decide) ?_
      refine x_iinc a 33 (nI (k + 1)) d_D_restart_33 rfl (nI_inc k) (by decide) ?_
      refine x_goto a 36 13 d_D_restart_36 (by decide) ?_
      refine x_lv [(0, .inr (some 0)), (1, .inl (nI j)), (2, .inr (some (3 + 9 * j))), (3, .inl (nI (k + 1)))] (List.forall_mem_cons.mpr ⟨rfl, List.forall_mem_cons.mpr ⟨rfl, List.forall_mem_cons.mpr ⟨rfl, List.forall_mem_cons.mpr ⟨rfl, fun _ z => absurd z List.not_mem_nil⟩⟩⟩⟩) ?_
      exact ih (k + 1) hk (by omega)
set_option maxRecDepth 100000 in
set_option maxHeartbeats 4000000 in
theorem c_D_restart (h : Hp) {j : Nat} (hj : j < 4) (hn : Nlt (h 0 4) 7) (hf : Nlt (h (3 + 9 * j) 7) 65) (hs : Nlt (h (3 + 9 * j) 8) 33) (hfs : tn (h (3 + 9 * j) 7) + tn (h (3 + 9 * j) 8) ≤ 64) : Cn u_D_restart 1 0 0 (w0 h) [.inr (some 0), .inl (nI j)] (fun r w' => r = none ∧ w' = w0 (d_restart h j)) := by
  refine Cn.of (by decide +kernel) (Nat.le_of_ble_eq_true rfl) (fun E ad a qf => ?_)
  have qa := qf.2.2.2
  have hcs : 0 ≤ (eR E).cells ∧ 0 ≤ (eR E).slots := ⟨Nat.zero_le _, Nat.zero_le _⟩
  have hn1 := hn.1
  refine x_aload_n a 0 d_D_restart_0 rfl ?_
  refine x_getR a 1 f_D_15 d_D_restart_1 rfl (by omega) (by decide) rfl ?_
  refine x_iload_n a 4 d_D_restart_4 rfl ?_
  refine x_aald2 a 5 d_D_restart_5 rfl (by omega) (j := j) rfl (by omega) (by decide) (rPs (by omega)) ?_
  refine x_astore_n a 6 d_D_restart_6 (by decide) ?_
  refine x_aload_n a 7 d_D_restart_7 rfl ?_
  refine x_callV a qa 8 g_D_219 d_D_restart_8 (c_P_clear _ (by omega)) rfl rfl (kP (by omega)) (show _ < 86 by omega) (by decide) (Nat.le_of_ble_eq_true rfl) hcs (fun v w' hp => ?_)
  obtain ⟨rfl, rfl⟩ := hp
  refine x_st0 ?_
  refine x_iconst a 11 0 d_D_restart_11 (by decide) ?_
  refine x_istore_n a 12 d_D_restart_12 (by decide) ?_
  refine x_lv [(0, .inr (some 0)), (1, .inl (nI j)), (2, .inr (some (3 + 9 * j))), (3, .inl (nI 0))] (List.forall_mem_cons.mpr ⟨rfl, List.forall_mem_cons.mpr ⟨rfl, List.forall_mem_cons.mpr ⟨rfl, List.forall_mem_cons.mpr ⟨rfl, fun _ z => absurd z List.not_mem_nil⟩⟩⟩⟩) ?_
  exact l_D_restart1 (h := p_clear h j) a qf qa hcs hj (by rw [p_clear_o _ (by omega) (by omega)]; exact hn.2) (by omega) (by rw [p_clear_k _ (by decide)]; exact hf.2) (by rw [p_clear_k _ (by decide)]; exact hs.2) hfs ⟨rfl, rfl⟩ (tn (h (3 + 9 * j) 8) + 1) 0 (by omega) (by omega)
def d_answer (h : Hp) (j f : Nat) : Hp :=
  if h (7 + 9 * j) (f - 1) = 1 then d_restart (up2 h (3 + 9 * j) 11 (h (3 + 9 * j) 11 + 1)) j
  else if h (7 + 9 * j) (f - 1) = 2 then up2 (up2 h (3 + 9 * j) 11 (h (3 + 9 * j) 11 + 1)) (3 + 9 * j) 9 (if f = 4 then 0 else h (3 + 9 * j) 9 + 1)
  else up2 (up2 h (3 + 9 * j) 11 (h (3 + 9 * j) 11 + 1)) (3 + 9 * j) 10 0
set_option maxRecDepth 100000 in
set_option maxHeartbeats 4000000 in
theorem c_D_answerFault (h : Hp) {j : Nat} (hj : j < 4) (hn : Nlt (h 0 4) 7) (hf : Nlt (h (3 + 9 * j) 7) 65) (hs : Nlt (h (3 + 9 * j) 8) 33) (hfs : tn (h (3 + 9 * j) 7) + tn (h (3 + 9 * j) 8) ≤ 64) {f : Nat} (hf1 : 1 ≤ f) (hf4 : f ≤ 4) : Cn u_D_answerFault 2 0 0 (w0 h) [.inr (some 0), .inl (nI j), .inl (nI f)] (fun r w' => r = none ∧ w' = w0 (d_answer h j f)) := by
  refine Cn.of (by decide +kernel) (Nat.le_of_ble_eq_true rfl) (fun E ad a qf => ?_)
  have qa := qf.2.2.2
  have hcs : 0 ≤ (eR E).cells ∧ 0 ≤ (eR E).slots := ⟨Nat.zero_le _, Nat.zero_le _⟩
  obtain ⟨act, hact⟩ : ∃ z, z = h (7 + 9 * j) (f - 1) := ⟨_, rfl⟩
  refine x_aload_n a 0 d_D_answerFault_0 rfl ?_
  refine x_getR a 1 f_D_15 d_D_answerFault_1 rfl (by omega) (by decide) rfl ?_
  refine x_iload_n a 4 d_D_answerFault_4 rfl ?_
  refine x_aald2 a 5 d_D_answerFault_5 rfl (by omega) (j := j) rfl (by omega) (by decide) (rPs (by omega)) ?_
  refine x_astore_n a 6 d_D_answerFault_6 (by decide) ?_
  refine x_aload_n a 7 d_D_answerFault_7 rfl ?_
  refine x_dup a 8 d_D_answerFault_8 ?_
  refine x_getI a 9 f_D_213 d_D_answerFault_9 (kP (by omega)) (by omega) (by decide) rfl ?_
  refine x_iconst a 12 1 d_D_answerFault_12 (by decide) ?_
  refine x_iadd a 13 d_D_answerFault_13 ?_
  refine x_putI a 14 f_D_213 d_D_answerFault_14 (kP (by omega)) (by omega) (by decide) rfl rfl rfl ?_
  refine x_aload_n a 17 d_D_answerFault_17 rfl ?_
  refine x_getR a 18 f_D_67 d_D_answerFault_18 (kP (by omega)) (by omega) (by decide) (rP3 (by omega)) ?_
  refine x_iload_n a 21 d_D_answerFault_21 rfl ?_
  refine x_iconst a 22 1 d_D_answerFault_22 (by decide) ?_
  refine x_isub a 23 d_D_answerFault_23 ?_
  refine x_iald a 24 d_D_answerFault_24 (kA7 (by omega)) (by omega) (j := f - 1) (pk_sub (b := 1) hf1) (by omega) (by decide) (v := act) (by rw [up2_o _ _ _ (by omega)]; exact hact.symm) ?_
  by_cases s25_1 : act = 1
  · subst s25_1
    refine x_lookup a 25 52 27 d_D_answerFault_25 (by decide) (by decide) (by decide) ?_
    refine x_aload_n a 52 d_D_answerFault_52 rfl ?_
    refine x_iload_n a 53 d_D_answerFault_53 rfl ?_
    refine x_callV a qa 54 g_D_216 d_D_answerFault_54 (c_D_restart _ hj (by rw [up2_o _ _ _ (by omega)]; exact hn) (by rw [up2_k _ _ _ (by decide)]; exact hf) (by rw [up2_k _ _ _ (by decide)]; exact hs) (by rw [up2_k _ _ _ (by decide), up2_k _ _ _ (by decide)]; exact hfs)) rfl rfl rfl (show _ < 86 by omega) (by decide) (Nat.le_of_ble_eq_true rfl) hcs (fun v w' hp => ?_)
    obtain ⟨rfl, rfl⟩ := hp
    refine x_st0 ?_
    refine x_goto a 57 87 d_D_answerFault_57 (by decide) ?_
    exact x_vret a qf 87 d_D_answerFault_87 rfl ⟨rfl, by unfold d_answer; rw [← hact]; first | rw [if_neg s25_1, if_neg s25_2] | rw [if_neg (show ¬ (2 : Int32) = 1 by decide), if_pos (show (2 : Int32) = 2 from rfl)] | rw [if_pos (show (1 : Int32) = 1 from rfl)]⟩
  by_cases s25_2 : act = 2
  · subst s25_2
    refine x_lookup a 25 60 35 d_D_answerFault_25 (by decide) (by decide) (by decide) ?_
    refine x_aload_n a 60 d_D_answerFault_60 rfl ?_
    refine x_iload_n a 61 d_D_answerFault_61 rfl ?_
    refine x_iconst a 62 4 d_D_answerFault_62 (by decide) ?_
    refine x_icmp_ne a 63 70 d_D_answerFault_63 (by decide) (fun c63 => ?_) (fun c63 => ?_)
    · refine x_aload_n a 70 d_D_answerFault_70 rfl ?_
      refine x_getI a 71 f_D_159 d_D_answerFault_71 (kP (by omega)) (by omega) (by decide) (v := h (3 + 9 * j) 9) (up2_k _ _ _ (by decide)) ?_
      refine x_iconst a 74 1 d_D_answerFault_74 (by decide) ?_
      refine x_iadd a 75 d_D_answerFault_75 ?_
      refine x_push (y := if f = 4 then 0 else h (3 + 9 * j) 9 + 1) (by first | rw [if_pos (by (try simp (disch := omega) only [Int32.le_iff_toInt_le, Int32.lt_iff_toInt_lt, ← Int32.toInt_inj, Int32.reduceToInt, nI_1, nI_add, pk_sub, nI_toInt] at *); omega)] | rw [if_neg (by (try simp (disch := omega) only [Int32.le_iff_toInt_le, Int32.lt_iff_toInt_lt, ← Int32.toInt_inj, Int32.reduceToInt, nI_1, nI_add, pk_sub, nI_toInt] at *); omega)]) ?_
      refine x_putI a 76 f_D_159 d_D_answerFault_76 (kP (by omega)) (by omega) (by decide) rfl rfl rfl ?_
      refine x_goto a 79 87 d_D_answerFault_79 (by decide) ?_
      exact x_vret a qf 87 d_D_answerFault_87 rfl ⟨rfl, by unfold d_answer; rw [← hact]; first | rw [if_neg s25_1, if_neg s25_2] | rw [if_neg (show ¬ (2 : Int32) = 1 by decide), if_pos (show (2 : Int32) = 2 from rfl)] | rw [if_pos (show (1 : Int32) = 1 from rfl)]⟩
    · refine x_iconst a 66 0 d_D_answerFault_66 (by decide) ?_
      refine x_goto a 67 76 d_D_answerFault_67 (by decide) ?_
      refine x_push (y := if f = 4 then 0 else h (3 + 9 * j) 9 + 1) (by first | rw [if_pos (by (try simp (disch := omega) only [Int32.le_iff_toInt_le, Int32.lt_iff_toInt_lt, ← Int32.toInt_inj, Int32.reduceToInt, nI_1, nI_add, pk_sub, nI_toInt] at *); omega)] | rw [if_neg (by (try simp (disch := omega) only [Int32.le_iff_toInt_le, Int32.lt_iff_toInt_lt, ← Int32.toInt_inj, Int32.reduceToInt, nI_1, nI_add, pk_sub, nI_toInt] at *); omega)]) ?_
      refine x_putI a 76 f_D_159 d_D_answerFault_76 (kP (by omega)) (by omega) (by decide) rfl rfl rfl ?_
      refine x_goto a 79 87 d_D_answerFault_79 (by decide) ?_
      exact x_vret a qf 87 d_D_answerFault_87 rfl ⟨rfl, by unfold d_answer; rw [← hact]; first | rw [if_neg s25_1, if_neg s25_2] | rw [if_neg (show ¬ (2 : Int32) = 1 by decide), if_pos (show (2 : Int32) = 2 from rfl)] | rw [if_pos (show (1 : Int32) = 1 from rfl)]⟩
  refine x_lookup a 25 82 57 d_D_answerFault_25 (by decide) (by show Op.lookupswitch.offset [(1, 27), (2, 35)] 57 act.toInt = 57; rw [lv_osw (a := 1) s25_1 rfl, lv_osw (a := 2) s25_2 rfl]; rfl) (by decide) ?_
  refine x_aload_n a 82 d_D_answerFault_82 rfl ?_
  refine x_iconst a 83 0 d_D_answerFault_83 (by decide) ?_
  refine x_putI a 84 f_D_146 d_D_answerFault_84 (kP (by omega)) (by omega) (by decide) rfl rfl rfl ?_
  exact x_vret a qf 87 d_D_answerFault_87 rfl ⟨rfl, by unfold d_answer; rw [← hact]; first | rw [if_neg s25_1, if_neg s25_2] | rw [if_neg (show ¬ (2 : Int32) = 1 by decide), if_pos (show (2 : Int32) = 2 from rfl)] | rw [if_pos (show (1 : Int32) = 1 from rfl)]⟩
