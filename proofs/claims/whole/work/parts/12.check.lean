/-- a small number that is not negative -/
def Nlt (x : Int32) (n : Nat) : Prop := tn x < n ∧ x = nI (tn x)
theorem Nlt.of {x : Int32} {n k : Nat} (h : x = nI k) (hk : k < n) (hn : n ≤ 2 ^ 31) : Nlt x n := by
  subst h
  unfold Nlt tn
  rw [nI_clamp (by omega)]
  exact ⟨hk, rfl⟩
theorem tn_nI {k : Nat} (h : k < 2 ^ 31) : tn (nI k) = k := nI_clamp h
abbrev dT (h : Hp) (j : Nat) : Prop := 0 < h (3 + 9 * j) 8
abbrev dO (h : Hp) (j i : Nat) : Prop := 0 < h (3 + 9 * j) 8 ∧ 0 < h (3 + 9 * i) 8 ∧ h (3 + 9 * j) 7 < h (3 + 9 * i) 7 + h (3 + 9 * i) 8 ∧ h (3 + 9 * i) 7 < h (3 + 9 * j) 7 + h (3 + 9 * j) 8
set_option maxRecDepth 100000 in
set_option maxHeartbeats 4000000 in
theorem c_D_somebody (h : Hp) : Cn u_D_somebodyTakesPart 1 0 0 (w0 h) [.inr (some 0)] (fun v w' => v = some (bI (dT h 0 ∨ dT h 1 ∨ dT h 2 ∨ dT h 3)) ∧ w' = w0 h) := by
  refine Cn.of (by decide +kernel) (Nat.le_of_ble_eq_true rfl) (fun E ad a qf => ?_)
  have qa := qf.2.2.2
  have hcs : 0 ≤ (eR E).cells ∧ 0 ≤ (eR E).slots := ⟨Nat.zero_le _, Nat.zero_le _⟩
  refine x_iconst a 0 0 d_D_somebodyTakesPart_0 (by decide) ?_
  refine x_istore_n a 1 d_D_somebodyTakesPart_1 (by decide) ?_
  refine x_iload_n a 2 d_D_somebodyTakesPart_2 rfl ?_
  refine x_iconst a 3 4 d_D_somebodyTakesPart_3 (by decide) ?_
  refine x_icmp_ge a 4 27 d_D_somebodyTakesPart_4 (by decide) (fun z => absurd z (by decide)) (fun _ => ?_)
  refine x_aload_n a 7 d_D_somebodyTakesPart_7 rfl ?_
  refine x_getR a 8 f_D_15 d_D_somebodyTakesPart_8 rfl (by omega) (by decide) rfl ?_
  refine x_iload_n a 11 d_D_somebodyTakesPart_11 rfl ?_
  refine x_aald2 a 12 d_D_somebodyTakesPart_12 rfl (by omega) (j := 0) (by decide) (by decide) (by decide) (rPs (by omega)) ?_
  refine x_callV a qa 13 g_D_128 d_D_somebodyTakesPart_13 (c_P_takesPart _ (by omega)) rfl rfl (kP (by omega)) (show _ < 86 by omega) (by decide) (Nat.le_of_ble_eq_true rfl) hcs (fun v w' hp => ?_)
  obtain ⟨rfl, rfl⟩ := hp
  refine x_st1 ?_
  refine x_ifB_eq a 16 21 d_D_somebodyTakesPart_16 (by decide) (fun c16 => ?_) (fun c16 => ?_)
  · refine x_iinc a 21 1 d_D_somebodyTakesPart_21 rfl (by decide) (by decide) ?_
    refine x_goto a 24 2 d_D_somebodyTakesPart_24 (by decide) ?_
    refine x_iload_n a 2 d_D_somebodyTakesPart_2 rfl ?_
    refine x_iconst a 3 4 d_D_somebodyTakesPart_3 (by decide) ?_
    refine x_icmp_ge a 4 27 d_D_somebodyTakesPart_4 (by decide) (fun z => absurd z (by decide)) (fun _ => ?_)
    refine x_aload_n a 7 d_D_somebodyTakesPart_7 rfl ?_
    refine x_getR a 8 f_D_15 d_D_somebodyTakesPart_8 rfl (by omega) (by decide) rfl ?_
    refine x_iload_n a 11 d_D_somebodyTakesPart_11 rfl ?_
    refine x_aald2 a 12 d_D_somebodyTakesPart_12 rfl (by omega) (j := 1) (by decide) (by decide) (by decide) (rPs (by omega)) ?_
    refine x_callV a qa 13 g_D_128 d_D_somebodyTakesPart_13 (c_P_takesPart _ (by omega)) rfl rfl (kP (by omega)) (show _ < 86 by omega) (by decide) (Nat.le_of_ble_eq_true rfl) hcs (fun v w' hp => ?_)
    obtain ⟨rfl, rfl⟩ := hp
    refine x_st1 ?_
    refine x_ifB_eq a 16 21 d_D_somebodyTakesPart_16 (by decide) (fun c16 => ?_) (fun c16 => ?_)
    · refine x_iinc a 21 2 d_D_somebodyTakesPart_21 rfl (by decide) (by decide) ?_
      refine x_goto a 24 2 d_D_somebodyTakesPart_24 (by decide) ?_
      refine x_iload_n a 2 d_D_somebodyTakesPart_2 rfl ?_
      refine x_iconst a 3 4 d_D_somebodyTakesPart_3 (by decide) ?_
      refine x_icmp_ge a 4 27 d_D_somebodyTakesPart_4 (by decide) (fun z => absurd z (by decide)) (fun _ => ?_)
      refine x_aload_n a 7 d_D_somebodyTakesPart_7 rfl ?_
      refine x_getR a 8 f_D_15 d_D_somebodyTakesPart_8 rfl (by omega) (by decide) rfl ?_
      refine x_iload_n a 11 d_D_somebodyTakesPart_11 rfl ?_
      refine x_aald2 a 12 d_D_somebodyTakesPart_12 rfl (by omega) (j := 2) (by decide) (by decide) (by decide) (rPs (by omega)) ?_
      refine x_callV a qa 13 g_D_128 d_D_somebodyTakesPart_13 (c_P_takesPart _ (by omega)) rfl rfl (kP (by omega)) (show _ < 86 by omega) (by decide) (Nat.le_of_ble_eq_true rfl) hcs (fun v w' hp => ?_)
      obtain ⟨rfl, rfl⟩ := hp
      refine x_st1 ?_
      refine x_ifB_eq a 16 21 d_D_somebodyTakesPart_16 (by decide) (fun c16 => ?_) (fun c16 => ?_)
      · refine x_iinc a 21 3 d_D_somebodyTakesPart_21 rfl (by decide) (by decide) ?_
        refine x_goto a 24 2 d_D_somebodyTakesPart_24 (by decide) ?_
        refine x_iload_n a 2 d_D_somebodyTakesPart_2 rfl ?_
        refine x_iconst a 3 4 d_D_somebodyTakesPart_3 (by decide) ?_
        refine x_icmp_ge a 4 27 d_D_somebodyTakesPart_4 (by decide) (fun z => absurd z (by decide)) (fun _ => ?_)
        refine x_aload_n a 7 d_D_somebodyTakesPart_7 rfl ?_
        refine x_getR a 8 f_D_15 d_D_somebodyTakesPart_8 rfl (by omega) (by decide) rfl ?_
        refine x_iload_n a 11 d_D_somebodyTakesPart_11 rfl ?_
        refine x_aald2 a 12 d_D_somebodyTakesPart_12 rfl (by omega) (j := 3) (by decide) (by decide) (by decide) (rPs (by omega)) ?_
        refine x_callV a qa 13 g_D_128 d_D_somebodyTakesPart_13 (c_P_takesPart _ (by omega)) rfl rfl (kP (by omega)) (show _ < 86 by omega) (by decide) (Nat.le_of_ble_eq_true rfl) hcs (fun v w' hp => ?_)
        obtain ⟨rfl, rfl⟩ := hp
        refine x_st1 ?_
        refine x_ifB_eq a 16 21 d_D_somebodyTakesPart_16 (by decide) (fun c16 => ?_) (fun c16 => ?_)
        · refine x_iinc a 21 4 d_D_somebodyTakesPart_21 rfl (by decide) (by decide) ?_
          refine x_goto a 24 2 d_D_somebodyTakesPart_24 (by decide) ?_
          refine x_iload_n a 2 d_D_somebodyTakesPart_2 rfl ?_
          refine x_iconst a 3 4 d_D_somebodyTakesPart_3 (by decide) ?_
          refine x_icmp_ge a 4 27 d_D_somebodyTakesPart_4 (by decide) (fun _ => ?_) (fun z => absurd z (by decide))
          refine x_iconst a 27 0 d_D_somebodyTakesPart_27 (by decide) ?_
          exact x_zret a qf 28 d_D_somebodyTakesPart_28 rfl rfl ⟨by rw [bI_f (by rintro (z | z | z | z) <;> exact absurd z (by assumption))], rfl⟩
        · refine x_iconst a 19 1 d_D_somebodyTakesPart_19 (by decide) ?_
          exact x_zret a qf 20 d_D_somebodyTakesPart_20 rfl rfl ⟨by rw [bI_t (by first | exact Or.inl c16 | exact Or.inr (Or.inl c16) | exact Or.inr (Or.inr (Or.inl c16)) | exact Or.inr (Or.inr (Or.inr c16)))], rfl⟩
      · refine x_iconst a 19 1 d_D_somebodyTakesPart_19 (by decide) ?_
        exact x_zret a qf 20 d_D_somebodyTakesPart_20 rfl rfl ⟨by rw [bI_t (by first | exact Or.inl c16 | exact Or.inr (Or.inl c16) | exact Or.inr (Or.inr (Or.inl c16)) | exact Or.inr (Or.inr (Or.inr c16)))], rfl⟩
    · refine x_iconst a 19 1 d_D_somebodyTakesPart_19 (by decide) ?_
      exact x_zret a qf 20 d_D_somebodyTakesPart_20 rfl rfl ⟨by rw [bI_t (by first | exact Or.inl c16 | exact Or.inr (Or.inl c16) | exact Or.inr (Or.inr (Or.inl c16)) | exact Or.inr (Or.inr (Or.inr c16)))], rfl⟩
  · refine x_iconst a 19 1 d_D_somebodyTakesPart_19 (by decide) ?_
    exact x_zret a qf 20 d_D_somebodyTakesPart_20 rfl rfl ⟨by rw [bI_t (by first | exact Or.inl c16 | exact Or.inr (Or.inl c16) | exact Or.inr (Or.inr (Or.inl c16)) | exact Or.inr (Or.inr (Or.inr c16)))], rfl⟩
set_option maxRecDepth 100000 in
set_option maxHeartbeats 4000000 in
theorem c_D_overlap (h : Hp) : Cn u_D_someRegionsOverlap 2 0 0 (w0 h) [.inr (some 0)] (fun v w' => v = some (bI (dO h 0 1 ∨ dO h 0 2 ∨ dO h 0 3 ∨ dO h 1 2 ∨ dO h 1 3 ∨ dO h 2 3)) ∧ w' = w0 h) := by
  refine Cn.of (by decide +kernel) (Nat.le_of_ble_eq_true rfl) (fun E ad a qf => ?_)
  have qa := qf.2.2.2
  have hcs : 0 ≤ (eR E).cells ∧ 0 ≤ (eR E).slots := ⟨Nat.zero_le _, Nat.zero_le _⟩
  refine x_iconst a 0 0 d_D_someRegionsOverlap_0 (by decide) ?_
  refine x_istore_n a 1 d_D_someRegionsOverlap_1 (by decide) ?_
  refine x_iload_n a 2 d_D_someRegionsOverlap_2 rfl ?_
  refine x_iconst a 3 4 d_D_someRegionsOverlap_3 (by decide) ?_
  refine x_icmp_ge a 4 48 d_D_someRegionsOverlap_4 (by decide) (fun z => absurd z (by decide)) (fun _ => ?_)
  refine x_iload_n a 7 d_D_someRegionsOverlap_7 rfl ?_
  refine x_iconst a 8 1 d_D_someRegionsOverlap_8 (by decide) ?_
  refine x_iadd a 9 d_D_someRegionsOverlap_9 ?_
  refine x_istore_n a 10 d_D_someRegionsOverlap_10 (by decide) ?_
  refine x_iload_n a 11 d_D_someRegionsOverlap_11 rfl ?_
  refine x_iconst a 12 4 d_D_someRegionsOverlap_12 (by decide) ?_
  refine x_icmp_ge a 13 42 d_D_someRegionsOverlap_13 (by decide) (fun z => absurd z (by decide)) (fun _ => ?_)
  refine x_aload_n a 16 d_D_someRegionsOverlap_16 rfl ?_
  refine x_getR a 17 f_D_15 d_D_someRegionsOverlap_17 rfl (by omega) (by decide) rfl ?_
  refine x_iload_n a 20 d_D_someRegionsOverlap_20 rfl ?_
  refine x_aald2 a 21 d_D_someRegionsOverlap_21 rfl (by omega) (j := 0) (by decide) (by decide) (by decide) (rPs (by omega)) ?_
  refine x_aload_n a 22 d_D_someRegionsOverlap_22 rfl ?_
  refine x_getR a 23 f_D_15 d_D_someRegionsOverlap_23 rfl (by omega) (by decide) rfl ?_
  refine x_iload_n a 26 d_D_someRegionsOverlap_26 rfl ?_
  refine x_aald2 a 27 d_D_someRegionsOverlap_27 rfl (by omega) (j := 1) (by decide) (by decide) (by decide) (rPs (by omega)) ?_
  refine x_callV a qa 28 g_D_131 d_D_someRegionsOverlap_28 (c_P_overlaps _ (by omega) (by omega)) rfl rfl (kP (by omega)) (show _ < 86 by omega) (by decide) (Nat.le_of_ble_eq_true rfl) hcs (fun v w' hp => ?_)
  obtain ⟨rfl, rfl⟩ := hp
  refine x_st1 ?_
  refine x_ifB_eq a 31 36 d_D_someRegionsOverlap_31 (by decide) (fun c31 => ?_) (fun c31 => ?_)
  · refine x_iinc a 36 2 d_D_someRegionsOverlap_36 rfl (by decide) (by decide) ?_
    refine x_goto a 39 11 d_D_someRegionsOverlap_39 (by decide) ?_
    refine x_iload_n a 11 d_D_someRegionsOverlap_11 rfl ?_
    refine x_iconst a 12 4 d_D_someRegionsOverlap_12 (by decide) ?_
    refine x_icmp_ge a 13 42 d_D_someRegionsOverlap_13 (by decide) (fun z => absurd z (by decide)) (fun _ => ?_)
    refine x_aload_n a 16 d_D_someRegionsOverlap_16 rfl ?_
    refine x_getR a 17 f_D_15 d_D_someRegionsOverlap_17 rfl (by omega) (by decide) rfl ?_
    refine x_iload_n a 20 d_D_someRegionsOverlap_20 rfl ?_
    refine x_aald2 a 21 d_D_someRegionsOverlap_21 rfl (by omega) (j := 0) (by decide) (by decide) (by decide) (rPs (by omega)) ?_
    refine x_aload_n a 22 d_D_someRegionsOverlap_22 rfl ?_
    refine x_getR a 23 f_D_15 d_D_someRegionsOverlap_23 rfl (by omega) (by decide) rfl ?_
    refine x_iload_n a 26 d_D_someRegionsOverlap_26 rfl ?_
    refine x_aald2 a 27 d_D_someRegionsOverlap_27 rfl (by omega) (j := 2) (by decide) (by decide) (by decide) (rPs (by omega)) ?_
    refine x_callV a qa 28 g_D_131 d_D_someRegionsOverlap_28 (c_P_overlaps _ (by omega) (by omega)) rfl rfl (kP (by omega)) (show _ < 86 by omega) (by decide) (Nat.le_of_ble_eq_true rfl) hcs (fun v w' hp => ?_)
    obtain ⟨rfl, rfl⟩ := hp
    refine x_st1 ?_
    refine x_ifB_eq a 31 36 d_D_someRegionsOverlap_31 (by decide) (fun c31 => ?_) (fun c31 => ?_)
    · refine x_iinc a 36 3 d_D_someRegionsOverlap_36 rfl (by decide) (by decide) ?_
      refine x_goto a 39 11 d_D_someRegionsOverlap_39 (by decide) ?_
      refine x_iload_n a 11 d_D_someRegionsOverlap_11 rfl ?_
      refine x_iconst a 12 4 d_D_someRegionsOverlap_12 (by decide) ?_
      refine x_icmp_ge a 13 42 d_D_someRegionsOverlap_13 (by decide) (fun z => absurd z (by decide)) (fun _ => ?_)
      refine x_aload_n a 16 d_D_someRegionsOverlap_16 rfl ?_
      refine x_getR a 17 f_D_15 d_D_someRegionsOverlap_17 rfl (by omega) (by decide) rfl ?_
      refine x_iload_n a 20 d_D_someRegionsOverlap_20 rfl ?_
      refine x_aald2 a 21 d_D_someRegionsOverlap_21 rfl (by omega) (j := 0) (by decide) (by decide) (by decide) (rPs (by omega)) ?_
      refine x_aload_n a 22 d_D_someRegionsOverlap_22 rfl ?_
      refine x_getR a 23 f_D_15 d_D_someRegionsOverlap_23 rfl (by omega) (by decide) rfl ?_
      refine x_iload_n a 26 d_D_someRegionsOverlap_26 rfl ?_
      refine x_aald2 a 27 d_D_someRegionsOverlap_27 rfl (by omega) (j := 3) (by decide) (by decide) (by decide) (rPs (by omega)) ?_
      refine x_callV a qa 28 g_D_131 d_D_someRegionsOverlap_28 (c_P_overlaps _ (by omega) (by omega)) rfl rfl (kP (by omega)) (show _ < 86 by omega) (by decide) (Nat.le_of_ble_eq_true rfl) hcs (fun v w' hp => ?_)
      obtain ⟨rfl, rfl⟩ := hp
      refine x_st1 ?_
      refine x_ifB_eq a 31 36 d_D_someRegionsOverlap_31 (by decide) (fun c31 => ?_) (fun c31 => ?_)
      · refine x_iinc a 36 4 d_D_someRegionsOverlap_36 rfl (by decide) (by decide) ?_
        refine x_goto a 39 11 d_D_someRegionsOverlap_39 (by decide) ?_
        refine x_iload_n a 11 d_D_someRegionsOverlap_11 rfl ?_
        refine x_iconst a 12 4 d_D_someRegionsOverlap_12 (by decide) ?_
        refine x_icmp_ge a 13 42 d_D_someRegionsOverlap_13 (by decide) (fun _ => ?_) (fun z => absurd z (by decide))
        refine x_iinc a 42 1 d_D_someRegionsOverlap_42 rfl (by decide) (by decide) ?_
        refine x_goto a 45 2 d_D_someRegionsOverlap_45 (by decide) ?_
        refine x_iload_n a 2 d_D_someRegionsOverlap_2 rfl ?_
        refine x_iconst a 3 4 d_D_someRegionsOverlap_3 (by decide) ?_
        refine x_icmp_ge a 4 48 d_D_someRegionsOverlap_4 (by decide) (fun z => absurd z (by decide)) (fun _ => ?_)
        refine x_iload_n a 7 d_D_someRegionsOverlap_7 rfl ?_
        refine x_iconst a 8 1 d_D_someRegionsOverlap_8 (by decide) ?_
        refine x_iadd a 9 d_D_someRegionsOverlap_9 ?_
        refine x_istore_n a 10 d_D_someRegionsOverlap_10 (by decide) ?_
        refine x_iload_n a 11 d_D_someRegionsOverlap_11 rfl ?_
        refine x_iconst a 12 4 d_D_someRegionsOverlap_12 (by decide) ?_
        refine x_icmp_ge a 13 42 d_D_someRegionsOverlap_13 (by decide) (fun z => absurd z (by decide)) (fun _ => ?_)
        refine x_aload_n a 16 d_D_someRegionsOverlap_16 rfl ?_
        refine x_getR a 17 f_D_15 d_D_someRegionsOverlap_17 rfl (by omega) (by decide) rfl ?_
        refine x_iload_n a 20 d_D_someRegionsOverlap_20 rfl ?_
        refine x_aald2 a 21 d_D_someRegionsOverlap_21 rfl (by omega) (j := 1) (by decide) (by decide) (by decide) (rPs (by omega)) ?_
        refine x_aload_n a 22 d_D_someRegionsOverlap_22 rfl ?_
        refine x_getR a 23 f_D_15 d_D_someRegionsOverlap_23 rfl (by omega) (by decide) rfl ?_
        refine x_iload_n a 26 d_D_someRegionsOverlap_26 rfl ?_
        refine x_aald2 a 27 d_D_someRegionsOverlap_27 rfl (by omega) (j := 2) (by decide) (by decide) (by decide) (rPs (by omega)) ?_
        refine x_callV a qa 28 g_D_131 d_D_someRegionsOverlap_28 (c_P_overlaps _ (by omega) (by omega)) rfl rfl (kP (by omega)) (show _ < 86 by omega) (by decide) (Nat.le_of_ble_eq_true rfl) hcs (fun v w' hp => ?_)
        obtain ⟨rfl, rfl⟩ := hp
        refine x_st1 ?_
        refine x_ifB_eq a 31 36 d_D_someRegionsOverlap_31 (by decide) (fun c31 => ?_) (fun c31 => ?_)
        · refine x_iinc a 36 3 d_D_someRegionsOverlap_36 rfl (by decide) (by decide) ?_
          refine x_goto a 39 11 d_D_someRegionsOverlap_39 (by decide) ?_
          refine x_iload_n a 11 d_D_someRegionsOverlap_11 rfl ?_
          refine x_iconst a 12 4 d_D_someRegionsOverlap_12 (by decide) ?_
          refine x_icmp_ge a 13 42 d_D_someRegionsOverlap_13 (by decide) (fun z => absurd z (by decide)) (fun _ => ?_)
          refine x_aload_n a 16 d_D_someRegionsOverlap_16 rfl ?_
          refine x_getR a 17 f_D_15 d_D_someRegionsOverlap_17 rfl (by omega) (by decide) rfl ?_
          refine x_iload_n a 20 d_D_someRegionsOverlap_20 rfl ?_
          refine x_aald2 a 21 d_D_someRegionsOverlap_21 rfl (by omega) (j := 1) (by decide) (by decide) (by decide) (rPs (by omega)) ?_
          refine x_aload_n a 22 d_D_someRegionsOverlap_22 rfl ?_
          refine x_getR a 23 f_D_15 d_D_someRegionsOverlap_23 rfl (by omega) (by decide) rfl ?_
          refine x_iload_n a 26 d_D_someRegionsOverlap_26 rfl ?_
          refine x_aald2 a 27 d_D_someRegionsOverlap_27 rfl (by omega) (j := 3) (by decide) (by decide) (by decide) (rPs (by omega)) ?_
          refine x_callV a qa 28 g_D_131 d_D_someRegionsOverlap_28 (c_P_overlaps _ (by omega) (by omega)) rfl rfl (kP (by omega)) (show _ < 86 by omega) (by decide) (Nat.le_of_ble_eq_true rfl) hcs (fun v w' hp => ?_)
          obtain ⟨rfl, rfl⟩ := hp
          refine x_st1 ?_
          refine x_ifB_eq a 31 36 d_D_someRegionsOverlap_31 (by decide) (fun c31 => ?_) (fun c31 => ?_)
          · refine x_iinc a 36 4 d_D_someRegionsOverlap_36 rfl (by decide) (by decide) ?_
            refine x_goto a 39 11 d_D_someRegionsOverlap_39 (by decide) ?_
            refine x_iload_n a 11 d_D_someRegionsOverlap_11 rfl ?_
            refine x_iconst a 12 4 d_D_someRegionsOverlap_12 (by decide) ?_
            refine x_icmp_ge a 13 42 d_D_someRegionsOverlap_13 (by decide) (fun _ => ?_) (fun z => absurd z (by decide))
            refine x_iinc a 42 2 d_D_someRegionsOverlap_42 rfl (by decide) (by decide) ?_
            refine x_goto a 45 2 d_D_someRegionsOverlap_45 (by decide) ?_
            refine x_iload_n a 2 d_D_someRegionsOverlap_2 rfl ?_
            refine x_iconst a 3 4 d_D_someRegionsOverlap_3 (by decide) ?_
            refine x_icmp_ge a 4 48 d_D_someRegionsOverlap_4 (by decide) (fun z => absurd z (by decide)) (fun _ => ?_)
            refine x_iload_n a 7 d_D_someRegionsOverlap_7 rfl ?_
            refine x_iconst a 8 1 d_D_someRegionsOverlap_8 (by decide) ?_
            refine x_iadd a 9 d_D_someRegionsOverlap_9 ?_
            refine x_istore_n a 10 d_D_someRegionsOverlap_10 (by decide) ?_
            refine x_iload_n a 11 d_D_someRegionsOverlap_11 rfl ?_
            refine x_iconst a 12 4 d_D_someRegionsOverlap_12 (by decide) ?_
            refine x_icmp_ge a 13 42 d_D_someRegionsOverlap_13 (by decide) (fun z => absurd z (by decide)) (fun _ => ?_)
            refine x_aload_n a 16 d_D_someRegionsOverlap_16 rfl ?_
            refine x_getR a 17 f_D_15 d_D_someRegionsOverlap_17 rfl (by omega) (by decide) rfl ?_
            refine x_iload_n a 20 d_D_someRegionsOverlap_20 rfl ?_
            refine x_aald2 a 21 d_D_someRegionsOverlap_21 rfl (by omega) (j := 2) (by decide) (by decide) (by decide) (rPs (by omega)) ?_
            refine x_aload_n a 22 d_D_someRegionsOverlap_22 rfl ?_
            refine x_getR a 23 f_D_15 d_D_someRegionsOverlap_23 rfl (by omega) (by decide) rfl ?_
            refine x_iload_n a 26 d_D_someRegionsOverlap_26 rfl ?_
            refine x_aald2 a 27 d_D_someRegionsOverlap_27 rfl (by omega) (j := 3) (by decide) (by decide) (by decide) (rPs (by omega)) ?_
            refine x_callV a qa 28 g_D_131 d_D_someRegionsOverlap_28 (c_P_overlaps _ (by omega) (by omega)) rfl rfl (kP (by omega)) (show _ < 86 by omega) (by decide) (Nat.le_of_ble_eq_true rfl) hcs (fun v w' hp => ?_)
            obtain ⟨rfl, rfl⟩ := hp
            refine x_st1 ?_
            refine x_ifB_eq a 31 36 d_D_someRegionsOverlap_31 (by decide) (fun c31 => ?_) (fun c31 => ?_)
            · refine x_iinc a 36 4 d_D_someRegionsOverlap_36 rfl (by decide) (by decide) ?_
              refine x_goto a 39 11 d_D_someRegionsOverlap_39 (by decide) ?_
              refine x_iload_n a 11 d_D_someRegionsOverlap_11 rfl ?_
              refine x_iconst a 12 4 d_D_someRegionsOverlap_12 (by decide) ?_
              refine x_icmp_ge a 13 42 d_D_someRegionsOverlap_13 (by decide) (fun _ => ?_) (fun z => absurd z (by decide))
              refine x_iinc a 42 3 d_D_someRegionsOverlap_42 rfl (by decide) (by decide) ?_
              refine x_goto a 45 2 d_D_someRegionsOverlap_45 (by decide) ?_
              refine x_iload_n a 2 d_D_someRegionsOverlap_2 rfl ?_
              refine x_iconst a 3 4 d_D_someRegionsOverlap_3 (by decide) ?_
              refine x_icmp_ge a 4 48 d_D_someRegionsOverlap_4 (by decide) (fun z => absurd z (by decide)) (fun _ => ?_)
              refine x_iload_n a 7 d_D_someRegionsOverlap_7 rfl ?_
              refine x_iconst a 8 1 d_D_someRegionsOverlap_8 (by decide) ?_
              refine x_iadd a 9 d_D_someRegionsOverlap_9 ?_
              refine x_istore_n a 10 d_D_someRegionsOverlap_10 (by decide) ?_
              refine x_iload_n a 11 d_D_someRegionsOverlap_11 rfl ?_
              refine x_iconst a 12 4 d_D_someRegionsOverlap_12 (by decide) ?_
              refine x_icmp_ge a 13 42 d_D_someRegionsOverlap_13 (by decide) (fun _ => ?_) (fun z => absurd z (by decide))
              refine x_iinc a 42 4 d_D_someRegionsOverlap_42 rfl (by decide) (by decide) ?_
              refine x_goto a 45 2 d_D_someRegionsOverlap_45 (by decide) ?_
              refine x_iload_n a 2 d_D_someRegionsOverlap_2 rfl ?_
              refine x_iconst a 3 4 d_D_someRegionsOverlap_3 (by decide) ?_
              refine x_icmp_ge a 4 48 d_D_someRegionsOverlap_4 (by decide) (fun _ => ?_) (fun z => absurd z (by decide))
              refine x_iconst a 48 0 d_D_someRegionsOverlap_48 (by decide) ?_
              exact x_zret a qf 49 d_D_someRegionsOverlap_49 rfl rfl ⟨by rw [bI_f (by rintro (z | z | z | z | z | z) <;> exact absurd z (by assumption))], rfl⟩
            · refine x_iconst a 34 1 d_D_someRegionsOverlap_34 (by decide) ?_
              exact x_zret a qf 35 d_D_someRegionsOverlap_35 rfl rfl ⟨by rw [bI_t (by first | exact Or.inl c31 | exact Or.inr (Or.inl c31) | exact Or.inr (Or.inr (Or.inl c31)) | exact Or.inr (Or.inr (Or.inr (Or.inl c31))) | exact Or.inr (Or.inr (Or.inr (Or.inr (Or.inl c31)))) | exact Or.inr (Or.inr (Or.inr (Or.inr (Or.inr (c31))))))], rfl⟩
          · refine x_iconst a 34 1 d_D_someRegionsOverlap_34 (by decide) ?_
            exact x_zret a qf 35 d_D_someRegionsOverlap_35 rfl rfl ⟨by rw [bI_t (by first | exact Or.inl c31 | exact Or.inr (Or.inl c31) | exact Or.inr (Or.inr (Or.inl c31)) | exact Or.inr (Or.inr (Or.inr (Or.inl c31))) | exact Or.inr (Or.inr (Or.inr (Or.inr (Or.inl c31)))) | exact Or.inr (Or.inr (Or.inr (Or.inr (Or.inr (c31))))))], rfl⟩
        · refine x_iconst a 34 1 d_D_someRegionsOverlap_34 (by decide) ?_
          exact x_zret a qf 35 d_D_someRegionsOverlap_35 rfl rfl ⟨by rw [bI_t (by first | exact Or.inl c31 | exact Or.inr (Or.inl c31) | exact Or.inr (Or.inr (Or.inl c31)) | exact Or.inr (Or.inr (Or.inr (Or.inl c31))) | exact Or.inr (Or.inr (Or.inr (Or.inr (Or.inl c31)))) | exact Or.inr (Or.inr (Or.inr (Or.inr (Or.inr (c31))))))], rfl⟩
      · refine x_iconst a 34 1 d_D_someRegionsOverlap_34 (by decide) ?_
        exact x_zret a qf 35 d_D_someRegionsOverlap_35 rfl rfl ⟨by rw [bI_t (by first | exact Or.inl c31 | exact Or.inr (Or.inl c31) | exact Or.inr (Or.inr (Or.inl c31)) | exact Or.inr (Or.inr (Or.inr (Or.inl c31))) | exact Or.inr (Or.inr (Or.inr (Or.inr (Or.inl c31)))) | exact Or.inr (Or.inr (Or.inr (Or.inr (Or.inr (c31))))))], rfl⟩
    · refine x_iconst a 34 1 d_D_someRegionsOverlap_34 (by decide) ?_
      exact x_zret a qf 35 d_D_someRegionsOverlap_35 rfl rfl ⟨by rw [bI_t (by first | exact Or.inl c31 | exact Or.inr (Or.inl c31) | exact Or.inr (Or.inr (Or.inl c31)) | exact Or.inr (Or.inr (Or.inr (Or.inl c31))) | exact Or.inr (Or.inr (Or.inr (Or.inr (Or.inl c31)))) | exact Or.inr (Or.inr (Or.inr (Or.inr (Or.inr (c31))))))], rfl⟩
  · refine x_iconst a 34 1 d_D_someRegionsOverlap_34 (by decide) ?_
    exact x_zret a qf 35 d_D_someRegionsOverlap_35 rfl rfl ⟨by rw [bI_t (by first | exact Or.inl c31 | exact Or.inr (Or.inl c31) | exact Or.inr (Or.inr (Or.inl c31)) | exact Or.inr (Or.inr (Or.inr (Or.inl c31))) | exact Or.inr (Or.inr (Or.inr (Or.inr (Or.inl c31)))) | exact Or.inr (Or.inr (Or.inr (Or.inr (Or.inr (c31))))))], rfl⟩
def dFit (h : Hp) (n : Nat) : Prop := ∀ i, i < 4 → (dT h i ↔ f_has h (nI i) n)
theorem dFit_no {h : Hp} {n i : Nat} (hi : i < 4) (hx : ¬ (dT h i ↔ f_has h (nI i) n)) : ¬ dFit h n := fun z => hx (z i hi)
theorem fit_1 {c e : Prop} [Decidable c] {v : Int32} (hv : (some v = some 1 ∧ e) ∨ (some v = some 0 ∧ ¬ e)) (h : bI c = v) : c ↔ e := by
  rcases hv with ⟨h1, h2⟩ | ⟨h1, h2⟩
  · cases h1
    exact ⟨fun _ => h2, fun _ => bI_ne0.mp (by rw [h]; decide)⟩
  · cases h1
    exact ⟨fun z => absurd z (bI_eq0.mp h), fun z => absurd z h2⟩
theorem fit_0 {c e : Prop} [Decidable c] {v : Int32} (hv : (some v = some 1 ∧ e) ∨ (some v = some 0 ∧ ¬ e)) (h : ¬ bI c = v) : ¬ (c ↔ e) := by
  intro z
  rcases hv with ⟨h1, h2⟩ | ⟨h1, h2⟩
  · cases h1
    exact h (bI_t (z.mpr h2))
  · cases h1
    exact h (bI_f (fun y => h2 (z.mp y)))
set_option maxRecDepth 100000 in
set_option maxHeartbeats 4000000 in
theorem c_D_windowsFit (h : Hp) {n : Nat} (hn : h 58 2 = nI n) (hn8 : n ≤ 8) : Cn u_D_windowsFit 1 0 0 (w0 h) [.inr (some 0)] (fun v w' => w' = w0 h ∧ ((v = some 1 ∧ dFit h n) ∨ (v = some 0 ∧ ¬ dFit h n))) := by
  refine Cn.of (by decide +kernel) (Nat.le_of_ble_eq_true rfl) (fun E ad a qf => ?_)
  have qa := qf.2.2.2
  have hcs : 0 ≤ (eR E).cells ∧ 0 ≤ (eR E).slots := ⟨Nat.zero_le _, Nat.zero_le _⟩
  refine x_iconst a 0 0 d_D_windowsFit_0 (by decide) ?_
  refine x_istore_n a 1 d_D_windowsFit_1 (by decide) ?_
  refine x_iload_n a 2 d_D_windowsFit_2 rfl ?_
  refine x_iconst a 3 4 d_D_windowsFit_3 (by decide) ?_
  refine x_icmp_ge a 4 35 d_D_windowsFit_4 (by decide) (fun z => absurd z (by decide)) (fun _ => ?_)
  refine x_aload_n a 7 d_D_windowsFit_7 rfl ?_
  refine x_getR a 8 f_D_15 d_D_windowsFit_8 rfl (by omega) (by decide) rfl ?_
  refine x_iload_n a 11 d_D_windowsFit_11 rfl ?_
  refine x_aald2 a 12 d_D_windowsFit_12 rfl (by omega) (j := 0) (by decide) (by decide) (by decide) (rPs (by omega)) ?_
  refine x_callV a qa 13 g_D_128 d_D_windowsFit_13 (c_P_takesPart _ (by omega)) rfl rfl (kP (by omega)) (show _ < 86 by omega) (by decide) (Nat.le_of_ble_eq_true rfl) hcs (fun v w' hp => ?_)
  obtain ⟨rfl, rfl⟩ := hp
  refine x_st1 ?_
  refine x_aload_n a 16 d_D_windowsFit_16 rfl ?_
  refine x_getR a 17 f_D_30 d_D_windowsFit_17 rfl (by omega) (by decide) rfl ?_
  refine x_iload_n a 20 d_D_windowsFit_20 rfl ?_
  refine x_callV a qa 21 g_D_135 d_D_windowsFit_21 (c_F_hasWindowOf _ _ hn hn8) rfl rfl rfl (show _ < 86 by omega) (by decide) (Nat.le_of_ble_eq_true rfl) hcs (fun v w' hp => ?_)
  obtain ⟨rfl, hv⟩ := hp
  obtain ⟨x, rfl⟩ : ∃ x, v = some x := by rcases hv with ⟨z, -⟩ | ⟨z, -⟩ <;> exact ⟨_, z⟩
  refine x_st1 ?_
  refine x_icmp_eq a 24 29 d_D_windowsFit_24 (by decide) (fun c24 => ?_) (fun c24 => ?_)
  · have ck := fit_1 hv c24
    refine x_iinc a 29 1 d_D_windowsFit_29 rfl (by decide) (by decide) ?_
    refine x_goto a 32 2 d_D_windowsFit_32 (by decide) ?_
    refine x_iload_n a 2 d_D_windowsFit_2 rfl ?_
    refine x_iconst a 3 4 d_D_windowsFit_3 (by decide) ?_
    refine x_icmp_ge a 4 35 d_D_windowsFit_4 (by decide) (fun z => absurd z (by decide)) (fun _ => ?_)
    refine x_aload_n a 7 d_D_windowsFit_7 rfl ?_
    refine x_getR a 8 f_D_15 d_D_windowsFit_8 rfl (by omega) (by decide) rfl ?_
    refine x_iload_n a 11 d_D_windowsFit_11 rfl ?_
    refine x_aald2 a 12 d_D_windowsFit_12 rfl (by omega) (j := 1) (by decide) (by decide) (by decide) (rPs (by omega)) ?_
    refine x_callV a qa 13 g_D_128 d_D_windowsFit_13 (c_P_takesPart _ (by omega)) rfl rfl (kP (by omega)) (show _ < 86 by omega) (by decide) (Nat.le_of_ble_eq_true rfl) hcs (fun v w' hp => ?_)
    obtain ⟨rfl, rfl⟩ := hp
    refine x_st1 ?_
    refine x_aload_n a 16 d_D_windowsFit_16 rfl ?_
    refine x_getR a 17 f_D_30 d_D_windowsFit_17 rfl (by omega) (by decide) rfl ?_
    refine x_iload_n a 20 d_D_windowsFit_20 rfl ?_
    refine x_callV a qa 21 g_D_135 d_D_windowsFit_21 (c_F_hasWindowOf _ _ hn hn8) rfl rfl rfl (show _ < 86 by omega) (by decide) (Nat.le_of_ble_eq_true rfl) hcs (fun v w' hp => ?_)
    obtain ⟨rfl, hv⟩ := hp
    obtain ⟨x, rfl⟩ : ∃ x, v = some x := by rcases hv with ⟨z, -⟩ | ⟨z, -⟩ <;> exact ⟨_, z⟩
    refine x_st1 ?_
    refine x_icmp_eq a 24 29 d_D_windowsFit_24 (by decide) (fun c24 => ?_) (fun c24 => ?_)
    · have ck := fit_1 hv c24
      refine x_iinc a 29 2 d_D_windowsFit_29 rfl (by decide) (by decide) ?_
      refine x_goto a 32 2 d_D_windowsFit_32 (by decide) ?_
      refine x_iload_n a 2 d_D_windowsFit_2 rfl ?_
      refine x_iconst a 3 4 d_D_windowsFit_3 (by decide) ?_
      refine x_icmp_ge a 4 35 d_D_windowsFit_4 (by decide) (fun z => absurd z (by decide)) (fun _ => ?_)
      refine x_aload_n a 7 d_D_windowsFit_7 rfl ?_
      refine x_getR a 8 f_D_15 d_D_windowsFit_8 rfl (by omega) (by decide) rfl ?_
      refine x_iload_n a 11 d_D_windowsFit_11 rfl ?_
      refine x_aald2 a 12 d_D_windowsFit_12 rfl (by omega) (j := 2) (by decide) (by decide) (by decide) (rPs (by omega)) ?_
      refine x_callV a qa 13 g_D_128 d_D_windowsFit_13 (c_P_takesPart _ (by omega)) rfl rfl (kP (by omega)) (show _ < 86 by omega) (by decide) (Nat.le_of_ble_eq_true rfl) hcs (fun v w' hp => ?_)
      obtain ⟨rfl, rfl⟩ := hp
      refine x_st1 ?_
      refine x_aload_n a 16 d_D_windowsFit_16 rfl ?_
      refine x_getR a 17 f_D_30 d_D_windowsFit_17 rfl (by omega) (by decide) rfl ?_
      refine x_iload_n a 20 d_D_windowsFit_20 rfl ?_
      refine x_callV a qa 21 g_D_135 d_D_windowsFit_21 (c_F_hasWindowOf _ _ hn hn8) rfl rfl rfl (show _ < 86 by omega) (by decide) (Nat.le_of_ble_eq_true rfl) hcs (fun v w' hp => ?_)
      obtain ⟨rfl, hv⟩ := hp
      obtain ⟨x, rfl⟩ : ∃ x, v = some x := by rcases hv with ⟨z, -⟩ | ⟨z, -⟩ <;> exact ⟨_, z⟩
      refine x_st1 ?_
      refine x_icmp_eq a 24 29 d_D_windowsFit_24 (by decide) (fun c24 => ?_) (fun c24 => ?_)
      · have ck := fit_1 hv c24
        refine x_iinc a 29 3 d_D_windowsFit_29 rfl (by decide) (by decide) ?_
        refine x_goto a 32 2 d_D_windowsFit_32 (by decide) ?_
        refine x_iload_n a 2 d_D_windowsFit_2 rfl ?_
        refine x_iconst a 3 4 d_D_windowsFit_3 (by decide) ?_
        refine x_icmp_ge a 4 35 d_D_windowsFit_4 (by decide) (fun z => absurd z (by decide)) (fun _ => ?_)
        refine x_aload_n a 7 d_D_windowsFit_7 rfl ?_
        refine x_getR a 8 f_D_15 d_D_windowsFit_8 rfl (by omega) (by decide) rfl ?_
        refine x_iload_n a 11 d_D_windowsFit_11 rfl ?_
        refine x_aald2 a 12 d_D_windowsFit_12 rfl (by omega) (j := 3) (by decide) (by decide) (by decide) (rPs (by omega)) ?_
        refine x_callV a qa 13 g_D_128 d_D_windowsFit_13 (c_P_takesPart _ (by omega)) rfl rfl (kP (by omega)) (show _ < 86 by omega) (by decide) (Nat.le_of_ble_eq_true rfl) hcs (fun v w' hp => ?_)
        obtain ⟨rfl, rfl⟩ := hp
        refine x_st1 ?_
        refine x_aload_n a 16 d_D_windowsFit_16 rfl ?_
        refine x_getR a 17 f_D_30 d_D_windowsFit_17 rfl (by omega) (by decide) rfl ?_
        refine x_iload_n a 20 d_D_windowsFit_20 rfl ?_
        refine x_callV a qa 21 g_D_135 d_D_windowsFit_21 (c_F_hasWindowOf _ _ hn hn8) rfl rfl rfl (show _ < 86 by omega) (by decide) (Nat.le_of_ble_eq_true rfl) hcs (fun v w' hp => ?_)
        obtain ⟨rfl, hv⟩ := hp
        obtain ⟨x, rfl⟩ : ∃ x, v = some x := by rcases hv with ⟨z, -⟩ | ⟨z, -⟩ <;> exact ⟨_, z⟩
        refine x_st1 ?_
        refine x_icmp_eq a 24 29 d_D_windowsFit_24 (by decide) (fun c24 => ?_) (fun c24 => ?_)
        · have ck := fit_1 hv c24
          refine x_iinc a 29 4 d_D_windowsFit_29 rfl (by decide) (by decide) ?_
          refine x_goto a 32 2 d_D_windowsFit_32 (by decide) ?_
          refine x_iload_n a 2 d_D_windowsFit_2 rfl ?_
          refine x_iconst a 3 4 d_D_windowsFit_3 (by decide) ?_
          refine x_icmp_ge a 4 35 d_D_windowsFit_4 (by decide) (fun _ => ?_) (fun z => absurd z (by decide))
          refine x_iconst a 35 1 d_D_windowsFit_35 (by decide) ?_
          exact x_zret a qf 36 d_D_windowsFit_36 rfl rfl ⟨rfl, Or.inl ⟨rfl, by intro i hi; rcases (by omega : i = 0 ∨ i = 1 ∨ i = 2 ∨ i = 3) with rfl | rfl | rfl | rfl <;> assumption⟩⟩
        · refine x_iconst a 27 0 d_D_windowsFit_27 (by decide) ?_
          exact x_zret a qf 28 d_D_windowsFit_28 rfl rfl ⟨rfl, Or.inr ⟨rfl, by first | exact dFit_no (i := 0) (by decide) (fit_0 hv c24) | exact dFit_no (i := 1) (by decide) (fit_0 hv c24) | exact dFit_no (i := 2) (by decide) (fit_0 hv c24) | exact dFit_no (i := 3) (by decide) (fit_0 hv c24)⟩⟩
      · refine x_iconst a 27 0 d_D_windowsFit_27 (by decide) ?_
        exact x_zret a qf 28 d_D_windowsFit_28 rfl rfl ⟨rfl, Or.inr ⟨rfl, by first | exact dFit_no (i := 0) (by decide) (fit_0 hv c24) | exact dFit_no (i := 1) (by decide) (fit_0 hv c24) | exact dFit_no (i := 2) (by decide) (fit_0 hv c24) | exact dFit_no (i := 3) (by decide) (fit_0 hv c24)⟩⟩
    · refine x_iconst a 27 0 d_D_windowsFit_27 (by decide) ?_
      exact x_zret a qf 28 d_D_windowsFit_28 rfl rfl ⟨rfl, Or.inr ⟨rfl, by first | exact dFit_no (i := 0) (by decide) (fit_0 hv c24) | exact dFit_no (i := 1) (by decide) (fit_0 hv c24) | exact dFit_no (i := 2) (by decide) (fit_0 hv c24) | exact dFit_no (i := 3) (by decide) (fit_0 hv c24)⟩⟩
  · refine x_iconst a 27 0 d_D_windowsFit_27 (by decide) ?_
    exact x_zret a qf 28 d_D_windowsFit_28 rfl rfl ⟨rfl, Or.inr ⟨rfl, by first | exact dFit_no (i := 0) (by decide) (fit_0 hv c24) | exact dFit_no (i := 1) (by decide) (fit_0 hv c24) | exact dFit_no (i := 2) (by decide) (fit_0 hv c24) | exact dFit_no (i := 3) (by decide) (fit_0 hv c24)⟩⟩
abbrev dJ (h : Hp) (i : Nat) : Prop := dT h (tn (h (40 + 3 * i) 1)) ∧ dT h (tn (h (40 + 3 * i) 2))
def dJoin (h : Hp) (m : Nat) : Prop := ∀ i, i < m → dJ h i
set_option maxRecDepth 100000 in
set_option maxHeartbeats 4000000 in
theorem l_D_portsFit {E : En} {ad : Nat → Nat} {h : Hp} {n : Nat} {Post : Option Int32 → Wd → Prop} (a : Amb u_D_portsFit 1 E) (qf : Fin Post (w0 h).1 ad 0 0 E) (qa : va_AO R_2 (eS E) ∧ va_AO R_3 (eS E)) (hcs : 0 ≤ (eR E).cells ∧ 0 ≤ (eR E).slots) (hn : h 0 4 = nI n) (hn6 : n ≤ 6) (hp : ∀ i, i < n → Nlt (h (40 + 3 * i) 1) 4 ∧ Nlt (h (40 + 3 * i) 2) 4) (ht : dJoin h n → Post (some 1) (w0 h)) (hf : ¬ dJoin h n → Post (some 0) (w0 h)) : ∀ m k : Nat, k ≤ n → n < k + m → (∀ i, i < k → dJ h i) → X E 0 0 ad (w0 h) 2 [(0, .inr (some 0)), (1, .inl (nI k))] [] := by
  intro m
  induction m with
  | zero => intro k h1 h2; omega
  | succ m ih =>
    intro k h1 h2 h3
    refine x_iload_n a 2 d_D_portsFit_2 rfl ?_
    refine x_aload_n a 3 d_D_portsFit_3 rfl ?_
    refine x_getI a 4 f_D_34 d_D_portsFit_4 rfl (by omega) (by decide) hn ?_
    refine x_icmp_ge a 7 58 d_D_portsFit_7 (by decide) (fun c7 => ?_) (fun c7 => ?_)
    · refine x_iconst a 58 1 d_D_portsFit_58 (by decide) ?_
      exact x_zret a qf 59 d_D_portsFit_59 rfl rfl (ht (fun i hi => h3 i (by (try simp (disch := omega) only [Int32.le_iff_toInt_le, Int32.lt_iff_toInt_lt, ← Int32.toInt_inj, Int32.reduceToInt, nI_1, nI_add, pk_sub, nI_toInt] at *); omega)))
    · have hk : k < n := (by (try simp (disch := omega) only [Int32.le_iff_toInt_le, Int32.lt_iff_toInt_lt, ← Int32.toInt_inj, Int32.reduceToInt, nI_1, nI_add, pk_sub, nI_toInt] at *); omega)
      have hk1 := (hp k hk).1
      have hk2 := (hp k hk).2
      have hk11 := hk1.1
      have hk21 := hk2.1
      refine x_aload_n a 10 d_D_portsFit_10 rfl ?_
      refine x_getR a 11 f_D_15 d_D_portsFit_11 rfl (by omega) (by decide) rfl ?_
      refine x_aload_n a 14 d_D_portsFit_14 rfl ?_
      refine x_getR a 15 f_D_22 d_D_portsFit_15 rfl (by omega) (by decide) rfl ?_
      refine x_iload_n a 18 d_D_portsFit_18 rfl ?_
      refine x_aald3 a 19 d_D_portsFit_19 rfl (by omega) (j := k) rfl (by omega) (by decide) (rQs (by omega)) ?_
      refine x_getI a 20 f_D_60 d_D_portsFit_20 (kQ (by omega)) (by omega) (by decide) rfl ?_
      refine x_aald2 a 23 d_D_portsFit_23 rfl (by omega) (j := tn (h (40 + 3 * k) 1)) hk1.2 hk1.1 (by decide) (rPs (by omega)) ?_
      refine x_callV a qa 24 g_D_128 d_D_portsFit_24 (c_P_takesPart _ (by omega)) rfl rfl (kP (by omega)) (show _ < 86 by omega) (by decide) (Nat.le_of_ble_eq_true rfl) hcs (fun v w' hp => ?_)
      obtain ⟨rfl, rfl⟩ := hp
      refine x_st1 ?_
      refine x_ifB_eq a 27 50 d_D_portsFit_27 (by decide) (fun c27 => ?_) (fun c27 => ?_)
      · refine x_iconst a 50 0 d_D_portsFit_50 (by decide) ?_
        exact x_zret a qf 51 d_D_portsFit_51 rfl rfl (hf (fun z => by have := z k hk; first | exact c27 this.1 | exact c47 this.2))
      · refine x_aload_n a 30 d_D_portsFit_30 rfl ?_
        refine x_getR a 31 f_D_15 d_D_portsFit_31 rfl (by omega) (by decide) rfl ?_
        refine x_aload_n a 34 d_D_portsFit_34 rfl ?_
        refine x_getR a 35 f_D_22 d_D_portsFit_35 rfl (by omega) (by decide) rfl ?_
        refine x_iload_n a 38 d_D_portsFit_38 rfl ?_
        refine x_aald3 a 39 d_D_portsFit_39 rfl (by omega) (j := k) rfl (by omega) (by decide) (rQs (by omega)) ?_
        refine x_getI a 40 f_D_61 d_D_portsFit_40 (kQ (by omega)) (by omega) (by decide) rfl ?_
        refine x_aald2 a 43 d_D_portsFit_43 rfl (by omega) (j := tn (h (40 + 3 * k) 2)) hk2.2 hk2.1 (by decide) (rPs (by omega)) ?_
        refine x_callV a qa 44 g_D_128 d_D_portsFit_44 (c_P_takesPart _ (by omega)) rfl rfl (kP (by omega)) (show _ < 86 by omega) (by decide) (Nat.le_of_ble_eq_true rfl) hcs (fun v w' hp => ?_)
        obtain ⟨rfl, rfl⟩ := hp
        refine x_st1 ?_
        refine x_ifB_ne a 47 52 d_D_portsFit_47 (by decide) (fun c47 => ?_) (fun c47 => ?_)
        · refine x_iinc a 52 (nI (k + 1)) d_D_portsFit_52 rfl (nI_inc k) (by decide) ?_
          refine x_goto a 55 2 d_D_portsFit_55 (by decide) ?_
          refine x_lv [(0, .inr (some 0)), (1, .inl (nI (k + 1)))] (List.forall_mem_cons.mpr ⟨rfl, List.forall_mem_cons.mpr ⟨rfl, fun _ z => absurd z List.not_mem_nil⟩⟩) ?_
          exact ih (k + 1) hk (by omega) (fun i hi => by rcases Nat.lt_succ_iff_lt_or_eq.mp hi with z | rfl; exact h3 i z; exact ⟨c27, c47⟩)
        · refine x_iconst a 50 0 d_D_portsFit_50 (by decide) ?_
          exact x_zret a qf 51 d_D_portsFit_51 rfl rfl (hf (fun z => by have := z k hk; first | exact c27 this.1 | exact c47 this.2))
set_option maxRecDepth 100000 in
set_option maxHeartbeats 4000000 in
theorem c_D_portsFit (h : Hp) {n : Nat} (hn : h 0 4 = nI n) (hn6 : n ≤ 6) (hp : ∀ i, i < n → Nlt (h (40 + 3 * i) 1) 4 ∧ Nlt (h (40 + 3 * i) 2) 4) : Cn u_D_portsFit 1 0 0 (w0 h) [.inr (some 0)] (fun v w' => w' = w0 h ∧ ((v = some 1 ∧ dJoin h n) ∨ (v = some 0 ∧ ¬ dJoin h n))) := by
  refine Cn.of (by decide +kernel) (Nat.le_of_ble_eq_true rfl) (fun E ad a qf => ?_)
  have qa := qf.2.2.2
  have hcs : 0 ≤ (eR E).cells ∧ 0 ≤ (eR E).slots := ⟨Nat.zero_le _, Nat.zero_le _⟩
  refine x_iconst a 0 0 d_D_portsFit_0 (by decide) ?_
  refine x_istore_n a 1 d_D_portsFit_1 (by decide) ?_
  refine x_lv [(0, .inr (some 0)), (1, .inl (nI 0))] (List.forall_mem_cons.mpr ⟨rfl, List.forall_mem_cons.mpr ⟨rfl, fun _ z => absurd z List.not_mem_nil⟩⟩) ?_
  exact l_D_portsFit a qf qa hcs hn hn6 hp (fun z => ⟨rfl, Or.inl ⟨rfl, z⟩⟩) (fun z => ⟨rfl, Or.inr ⟨rfl, z⟩⟩) (n + 1) 0 (by omega) (by omega) (fun i hi => absurd hi (by omega))
def dSome (h : Hp) : Prop := dT h 0 ∨ dT h 1 ∨ dT h 2 ∨ dT h 3
def dLap (h : Hp) : Prop := dO h 0 1 ∨ dO h 0 2 ∨ dO h 0 3 ∨ dO h 1 2 ∨ dO h 1 3 ∨ dO h 2 3
/-- what the table's check answers -/
def dWrong (h : Hp) (n m : Nat) (v : Int32) : Prop := (¬ dSome h ∧ v = 1) ∨ (dSome h ∧ dLap h ∧ v = 2) ∨ (dSome h ∧ ¬ dLap h ∧ ¬ dFit h n ∧ v = 3) ∨ (dSome h ∧ ¬ dLap h ∧ dFit h n ∧ ¬ dJoin h m ∧ v = 4) ∨ (dSome h ∧ ¬ dLap h ∧ dFit h n ∧ dJoin h m ∧ v = 0)
theorem two_1 {e : Prop} {v : Option Int32} (hv : (v = some 1 ∧ e) ∨ (v = some 0 ∧ ¬ e)) : ∃ x, v = some x ∧ (x = 0 → ¬ e) ∧ (¬ x = 0 → e) := by
  rcases hv with ⟨rfl, h⟩ | ⟨rfl, h⟩
  · exact ⟨1, rfl, fun z => absurd z (by decide), fun _ => h⟩
  · exact ⟨0, rfl, fun _ => h, fun z => absurd rfl z⟩
set_option maxRecDepth 100000 in
set_option maxHeartbeats 4000000 in
theorem c_D_checkTable (h : Hp) {n m : Nat} (hn : h 58 2 = nI n) (hn8 : n ≤ 8) (hm : h 0 4 = nI m) (hm6 : m ≤ 6) (hq : ∀ i, i < m → Nlt (h (40 + 3 * i) 1) 4 ∧ Nlt (h (40 + 3 * i) 2) 4) : Cn u_D_checkTable 3 0 0 (w0 h) [.inr (some 0)] (fun v w' => w' = w0 h ∧ ∃ x, v = some x ∧ dWrong h n m x) := by
  refine Cn.of (by decide +kernel) (Nat.le_of_ble_eq_true rfl) (fun E ad a qf => ?_)
  have qa := qf.2.2.2
  have hcs : 0 ≤ (eR E).cells ∧ 0 ≤ (eR E).slots := ⟨Nat.zero_le _, Nat.zero_le _⟩
  refine x_aload_n a 0 d_D_checkTable_0 rfl ?_
  refine x_callV a qa 1 g_D_116 d_D_checkTable_1 (c_D_somebody _) rfl rfl rfl (show _ < 86 by omega) (by decide) (Nat.le_of_ble_eq_true rfl) hcs (fun v w' hp => ?_)
  obtain ⟨rfl, rfl⟩ := hp
  refine x_st1 ?_
  refine x_ifB_ne a 4 9 d_D_checkTable_4 (by decide) (fun c4 => ?_) (fun c4 => ?_)
  · refine x_aload_n a 9 d_D_checkTable_9 rfl ?_
    refine x_callV a qa 10 g_D_119 d_D_checkTable_10 (c_D_overlap _) rfl rfl rfl (show _ < 86 by omega) (by decide) (Nat.le_of_ble_eq_true rfl) hcs (fun v w' hp => ?_)
    obtain ⟨rfl, rfl⟩ := hp
    refine x_st1 ?_
    refine x_ifB_eq a 13 18 d_D_checkTable_13 (by decide) (fun c13 => ?_) (fun c13 => ?_)
    · refine x_aload_n a 18 d_D_checkTable_18 rfl ?_
      refine x_callV a qa 19 g_D_122 d_D_checkTable_19 (c_D_windowsFit _ hn hn8) rfl rfl rfl (show _ < 86 by omega) (by decide) (Nat.le_of_ble_eq_true rfl) hcs (fun v w' hp => ?_)
      obtain ⟨rfl, hv⟩ := hp
      obtain ⟨x, rfl, hx0, hx1⟩ := two_1 hv
      refine x_st1 ?_
      refine x_if_ne a 22 27 d_D_checkTable_22 (by decide) (fun c22 => ?_) (fun c22 => ?_)
      · refine x_aload_n a 27 d_D_checkTable_27 rfl ?_
        refine x_callV a qa 28 g_D_125 d_D_checkTable_28 (c_D_portsFit _ hm hm6 hq) rfl rfl rfl (show _ < 86 by omega) (by decide) (Nat.le_of_ble_eq_true rfl) hcs (fun v w' hp => ?_)
        obtain ⟨rfl, hv2⟩ := hp
        obtain ⟨y, rfl, hy0, hy1⟩ := two_1 hv2
        refine x_st1 ?_
        refine x_if_eq a 31 38 d_D_checkTable_31 (by decide) (fun c31 => ?_) (fun c31 => ?_)
        · refine x_iconst a 38 4 d_D_checkTable_38 (by decide) ?_
          exact x_iret a qf 39 d_D_checkTable_39 rfl ⟨rfl, _, rfl, Or.inr (Or.inr (Or.inr (Or.inl ⟨c4, c13, hx1 c22, hy0 c31, rfl⟩)))⟩
        · refine x_iconst a 34 0 d_D_checkTable_34 (by decide) ?_
          refine x_goto a 35 39 d_D_checkTable_35 (by decide) ?_
          exact x_iret a qf 39 d_D_checkTable_39 rfl ⟨rfl, _, rfl, Or.inr (Or.inr (Or.inr (Or.inr ⟨c4, c13, hx1 c22, hy1 c31, rfl⟩)))⟩
      · refine x_iconst a 25 3 d_D_checkTable_25 (by decide) ?_
        exact x_iret a qf 26 d_D_checkTable_26 rfl ⟨rfl, _, rfl, Or.inr (Or.inr (Or.inl ⟨c4, c13, hx0 c22, rfl⟩))⟩
    · refine x_iconst a 16 2 d_D_checkTable_16 (by decide) ?_
      exact x_iret a qf 17 d_D_checkTable_17 rfl ⟨rfl, _, rfl, Or.inr (Or.inl ⟨c4, c13, rfl⟩)⟩
  · refine x_iconst a 7 1 d_D_checkTable_7 (by decide) ?_
    exact x_iret a qf 8 d_D_checkTable_8 rfl ⟨rfl, _, rfl, Or.inl ⟨c4, rfl⟩⟩
