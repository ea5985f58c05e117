theorem nI_le_iff {a b : Nat} (ha : a < 2 ^ 31) (hb : b < 2 ^ 31) : nI a ≤ nI b ↔ a ≤ b := by
  rw [Int32.le_iff_toInt_le, nI_toInt ha, nI_toInt hb]
  omega
/-- the references behind j Partitions, and behind i Ports -/
def rI (j : Nat) : Nat → Nat → Option Nat := fun o k => if o = 0 then (if k = 1 then some 2 else if k = 0 then some 1 else none) else if o = 2 then (if k < j then some (3 + 9 * k) else none) else if o < 3 + 9 * j then r0 o k else none
def rJ (i : Nat) : Nat → Nat → Option Nat := fun o k => if o = 0 then (if k = 2 then some 39 else if k = 1 then some 2 else if k = 0 then some 1 else none) else if o = 39 then (if k < i then some (40 + 3 * k) else none) else if o < 40 + 3 * i then r0 o k else none
theorem r0_1 (k : Nat) : r0 1 k = none := by
  have h : (k0 1).1 = 0 := rfl
  rw [r0_none (o := 1) (by omega) (by omega) (by omega) (by omega) (by omega)]
theorem rI_hi (j : Nat) {o : Nat} (h : 3 + 9 * j ≤ o) : rI j o = fun _ => none := by
  funext k
  show (if o = 0 then _ else if o = 2 then _ else if o < 3 + 9 * j then _ else none) = none
  rw [if_neg (by omega), if_neg (by omega), if_neg (by omega)]
theorem rJ_hi (i : Nat) {o : Nat} (h : 40 + 3 * i ≤ o) : rJ i o = fun _ => none := by
  funext k
  show (if o = 0 then _ else if o = 39 then _ else if o < 40 + 3 * i then _ else none) = none
  rw [if_neg (by omega), if_neg (by omega), if_neg (by omega)]
theorem rI_0 : upR (upR rN 0 0 (some 1)) 0 1 (some 2) = rI 0 := by
  funext o k
  show _ = (if o = 0 then _ else if o = 2 then (if k < 0 then some (3 + 9 * k) else none) else if o < 3 + 9 * 0 then r0 o k else none)
  by_cases h0 : o = 0
  · subst h0
    rw [upR_s, upR_s, if_pos rfl]
    rfl
  rw [upR_o _ _ h0, upR_o _ _ h0, if_neg h0]
  by_cases h2 : o = 2
  · rw [if_pos h2, if_neg (by omega)]
    rfl
  rw [if_neg h2]
  by_cases h1 : o = 1
  · subst h1
    rw [if_pos (by omega), r0_1]
    rfl
  · rw [if_neg (by omega)]
    rfl
theorem rI_up (j : Nat) : upR (rB (rI j) (3 + 9 * j) (12 + 9 * j)) 2 j (some (3 + 9 * j)) = rI (j + 1) := by
  funext o k
  show _ = (if o = 0 then _ else if o = 2 then (if k < j + 1 then some (3 + 9 * k) else none) else if o < 3 + 9 * (j + 1) then r0 o k else none)
  by_cases h2 : o = 2
  · subst h2
    rw [upR_s, if_neg (by omega), if_pos rfl, rB_out _ (by omega)]
    show (if k = j then some (3 + 9 * j) else rI j 2 k) = _
    show (if k = j then some (3 + 9 * j) else if k < j then some (3 + 9 * k) else none) = _
    by_cases hk : k = j
    · subst hk
      rw [if_pos rfl, if_pos (by omega)]
    · rw [if_neg hk]
      by_cases hl : k < j
      · rw [if_pos hl, if_pos (by omega)]
      · rw [if_neg hl, if_neg (by omega)]
  rw [upR_o _ _ h2, if_neg h2]
  by_cases h0 : o = 0
  · subst h0
    rw [if_pos rfl, rB_out _ (by omega)]
    rfl
  rw [if_neg h0]
  by_cases hin : 3 + 9 * j ≤ o ∧ o < 12 + 9 * j
  · rw [rB_in _ hin, if_pos (by omega)]
  rw [rB_out _ hin]
  show (if o = 0 then _ else if o = 2 then _ else if o < 3 + 9 * j then r0 o k else none) = _
  rw [if_neg h0, if_neg h2]
  by_cases hl : o < 3 + 9 * j
  · rw [if_pos hl, if_pos (by omega)]
  · rw [if_neg hl, if_neg (by omega)]
theorem rJ_0 : upR (rI 4) 0 2 (some 39) = rJ 0 := by
  funext o k
  show _ = (if o = 0 then (if k = 2 then some 39 else if k = 1 then some 2 else if k = 0 then some 1 else none) else if o = 39 then (if k < 0 then some (40 + 3 * k) else none) else if o < 40 + 3 * 0 then r0 o k else none)
  by_cases h0 : o = 0
  · subst h0
    rw [upR_s, if_pos rfl]
    rfl
  rw [upR_o _ _ h0, if_neg h0]
  show (if o = 0 then _ else if o = 2 then (if k < 4 then some (3 + 9 * k) else none) else if o < 3 + 9 * 4 then r0 o k else none) = _
  rw [if_neg h0]
  by_cases h2 : o = 2
  · subst h2
    rw [if_pos rfl, if_neg (show ¬ (2 = 39) by omega), if_pos (show 2 < 40 + 3 * 0 by omega)]
    rfl
  rw [if_neg h2]
  by_cases h39 : o = 39
  · subst h39
    rw [if_neg (by omega), if_pos rfl, if_neg (by omega)]
  rw [if_neg h39]
  by_cases hl : o < 3 + 9 * 4
  · rw [if_pos hl, if_pos (by omega)]
  · rw [if_neg hl, if_neg (by omega)]
theorem rJ_up (i : Nat) : upR (rB (rJ i) (40 + 3 * i) (43 + 3 * i)) 39 i (some (40 + 3 * i)) = rJ (i + 1) := by
  funext o k
  show _ = (if o = 0 then _ else if o = 39 then (if k < i + 1 then some (40 + 3 * k) else none) else if o < 40 + 3 * (i + 1) then r0 o k else none)
  by_cases h2 : o = 39
  · subst h2
    rw [upR_s, if_neg (by omega), if_pos rfl, rB_out _ (by omega)]
    show (if k = i then some (40 + 3 * i) else if k < i then some (40 + 3 * k) else none) = _
    by_cases hk : k = i
    · subst hk
      rw [if_pos rfl, if_pos (by omega)]
    · rw [if_neg hk]
      by_cases hl : k < i
      · rw [if_pos hl, if_pos (by omega)]
      · rw [if_neg hl, if_neg (by omega)]
  rw [upR_o _ _ h2, if_neg h2]
  by_cases h0 : o = 0
  · subst h0
    rw [if_pos rfl, rB_out _ (by omega)]
    rfl
  rw [if_neg h0]
  by_cases hin : 40 + 3 * i ≤ o ∧ o < 43 + 3 * i
  · rw [rB_in _ hin, if_pos (by omega)]
  rw [rB_out _ hin]
  show (if o = 0 then _ else if o = 39 then _ else if o < 40 + 3 * i then r0 o k else none) = _
  rw [if_neg h0, if_neg h2]
  by_cases hl : o < 40 + 3 * i
  · rw [if_pos hl, if_pos (by omega)]
  · rw [if_neg hl, if_neg (by omega)]
theorem rD_end : upR (rB (rJ 6) 58 61) 0 3 (some 58) = rM 0 := by
  funext o k
  show _ = (if o = 61 then (if k < 0 then some (62 + k) else none) else if o < 61 then r0 o k else none)
  by_cases h0 : o = 0
  · subst h0
    rw [upR_s, if_neg (by omega), if_pos (by omega), rB_out _ (by omega)]
    rcases k with _ | _ | _ | _ | k
    · rfl
    · rfl
    · rfl
    · rfl
    · show (if k + 4 = 3 then some 58 else if k + 4 = 2 then some 39 else if k + 4 = 1 then some 2 else if k + 4 = 0 then some 1 else none) = _
      rw [if_neg (by omega), if_neg (by omega), if_neg (by omega), if_neg (by omega)]
      rfl
  rw [upR_o _ _ h0]
  by_cases h61 : o = 61
  · subst h61
    rw [if_pos rfl, if_neg (by omega), rB_out _ (by omega), rJ_hi 6 (by omega)]
  rw [if_neg h61]
  by_cases hin : 58 ≤ o ∧ o < 61
  · rw [rB_in _ hin, if_pos (by omega)]
  rw [rB_out _ hin]
  show (if o = 0 then _ else if o = 39 then (if k < 6 then some (40 + 3 * k) else none) else if o < 40 + 3 * 6 then r0 o k else none) = _
  rw [if_neg h0]
  by_cases h39 : o = 39
  · subst h39
    rw [if_pos rfl, if_pos (show 39 < 61 by omega)]
    rfl
  rw [if_neg h39]
  by_cases hl : o < 40 + 3 * 6
  · rw [if_pos hl, if_pos (by omega)]
  · rw [if_neg hl, if_neg (by omega)]
set_option maxRecDepth 100000 in
set_option maxHeartbeats 4000000 in
theorem l_D_init2 {E : En} {ad0 : Nat → Nat} {Post : Option Int32 → Wd → Prop} (a : Amb u_D_init 3 E) (qf : Fin Post 1 ad0 60 553 E) (hpo : Post none (61, k0, rM 0, hZ)) : ∀ m i : Nat, i ≤ 6 → 6 < i + m → ∀ ad, AG 1 ad ad0 → X E (39 + 3 * i) (458 + 12 * i) ad (40 + 3 * i, k0, rJ i, hZ) 57 [(0, .inr (some 0)), (1, .inl (nI i))] [] := by
  intro m
  have qa := qf.2.2.2
  have hC := qf.2.1
  have hSl := qf.2.2.1
  induction m with
  | zero => intro i h1 h2; omega
  | succ m ih =>
    intro i hi him ad hA
    refine x_iload_n a 57 d_D_init_57 rfl ?_
    refine x_bipush a 58 (nI 6) d_D_init_58 (by decide) ?_
    refine x_icmp_ge a 60 82 d_D_init_60 (by decide) (fun c => ?_) (fun c => ?_)
    · have h6 : i = 6 := by
        have := (nI_le_iff (a := 6) (b := i) (by omega) (by omega)).mp c
        omega
      subst h6
      refine x_aload_n a 82 d_D_init_82 rfl ?_
      refine y_new (n := 58) (ci := 3) a 83 hA (by omega) rfl (rJ_hi 6 (by omega)) rfl d_D_init_83 lay3 cl_D_27 in3 ii3 df3 (by omega) (by refine ⟨?_, ?_⟩ <;> repeat' first | exact okLn | exact okSn | exact okVi | exact okVo (by omega) | refine okLc ?_ ?_ | refine okSc ?_ ?_) (by omega) (show 458 + 12 * 6 + 7 ≤ _ by omega) (fun ad1 hA1 => ?_)
      refine x_dup a 86 d_D_init_86 ?_
      refine x_callI a qa 87 g_D_29 d_D_init_87 (c_F_init (fun o ho => rJ_hi 6 (by omega))) rfl rfl (by decide) (Nat.le_of_ble_eq_true rfl) (by refine ⟨?_, ?_⟩ <;> repeat' first | exact okLn | exact okSn | exact okVi | exact okVo (by omega) | refine okLc ?_ ?_ | refine okSc ?_ ?_) ⟨by omega, show 458 + 12 * 6 + 7 + 16 ≤ _ by omega⟩ (fun v w' ad2 h2 hp => ?_)
      obtain ⟨rfl, rfl⟩ := hp
      have hA2 := hA1.nx (n := 59) (by omega) h2
      refine x_st0 ?_
      refine x_w (show _ = ((61, k0, rB (rJ 6) 58 61, hZ) : Wd) from congrArg (fun z => ((61, k0, z, hZ) : Wd)) (rFi_eq (fun o ho => rJ_hi 6 (by omega)))) ?_
      refine x_putFR a 90 f_D_30 d_D_init_90 rfl (by omega) (by decide) (by omega) rfl rfl rfl (fun _ => rfl) (fun _ => rfl) ?_
      refine x_w (show _ = ((61, k0, rM 0, hZ) : Wd) from congrArg (fun z => ((61, k0, z, hZ) : Wd)) rD_end) ?_
      refine x_aload_n a 93 d_D_init_93 rfl ?_
      refine x_iconst a 94 0 d_D_init_94 (by decide) ?_
      refine x_putI a 95 f_D_34 d_D_init_95 rfl (by omega) (by decide) rfl rfl rfl ?_
      rw [up2_hZ]
      refine x_aload_n a 98 d_D_init_98 rfl ?_
      refine x_iconst a 99 0 d_D_init_99 (by decide) ?_
      refine x_putI a 100 f_D_38 d_D_init_100 rfl (by omega) (by decide) rfl rfl rfl ?_
      rw [up2_hZ]
      exact x_vretN a qf 103 d_D_init_103 rfl hA2 (by decide) (by omega) (show 458 + 12 * 6 + 7 + 16 ≤ 553 by omega) hpo
    · have h6 : i < 6 := by
        have := mt (nI_le_iff (a := 6) (b := i) (by omega) (by omega)).mpr c
        omega
      refine x_aload_n a 63 d_D_init_63 rfl ?_
      refine x_getR a 64 f_D_22 d_D_init_64 rfl (by omega) (by decide) (o' := 39) rfl ?_
      refine x_iload_n a 67 d_D_init_67 rfl ?_
      refine y_new (ci := 2) a 68 hA (by omega) (kQx h6) (rJ_hi i (by omega)) rfl d_D_init_68 lay2 cl_D_20 in2 ii2 df2 (by omega) (by refine ⟨?_, ?_⟩ <;> repeat' first | exact okLn | exact okSn | exact okVi | exact okVo (by omega) | refine okLc ?_ ?_ | refine okSc ?_ ?_) (by omega) (show 458 + 12 * i + 5 ≤ _ by omega) (fun ad1 hA1 => ?_)
      rw [show (cls 2).2.2 = 5 from rfl]
      rw [show 40 + 3 * i + 1 = 41 + 3 * i by omega]
      refine x_dup a 71 d_D_init_71 ?_
      refine x_callI a qa 72 g_D_26 d_D_init_72 (c_Q_init h6 (fun o ho => rJ_hi i (by omega))) rfl rfl (by decide) (Nat.le_of_ble_eq_true rfl) (by refine ⟨?_, ?_⟩ <;> repeat' first | exact okLn | exact okSn | exact okVi | exact okVo (by omega) | refine okLc ?_ ?_ | refine okSc ?_ ?_) ⟨by omega, show 458 + 12 * i + 5 + 7 ≤ _ by omega⟩ (fun v w' ad2 h2 hp => ?_)
      obtain ⟨rfl, rfl⟩ := hp
      have hA2 := hA1.nx (n := 41 + 3 * i) (by omega) h2
      refine x_st0 ?_
      refine x_w (show _ = ((43 + 3 * i, k0, rB (rJ i) (40 + 3 * i) (43 + 3 * i), hZ) : Wd) from congrArg (fun z => ((43 + 3 * i, k0, z, hZ) : Wd)) (rQi_eq h6 (fun o ho => rJ_hi i (by omega)))) ?_
      refine x_aast3 (ci := 2) a 75 d_D_init_75 (len := 6) rfl (by omega) (j := i) rfl h6 (by decide) (kQ h6) (by omega) rfl rfl ?_
      refine x_w (show _ = ((40 + 3 * (i + 1), k0, rJ (i + 1), hZ) : Wd) by rw [rJ_up, show 43 + 3 * i = 40 + 3 * (i + 1) by omega]) ?_
      refine x_iinc a 76 (nI (i + 1)) d_D_init_76 rfl (nI_inc i) (by decide) ?_
      refine x_goto a 79 57 d_D_init_79 (by decide) ?_
      refine x_lv [(0, .inr (some 0)), (1, .inl (nI (i + 1)))] (List.forall_mem_cons.mpr ⟨rfl, List.forall_mem_cons.mpr ⟨rfl, fun _ z => absurd z List.not_mem_nil⟩⟩) ?_
      have z := ih (i + 1) (by omega) (by omega) ad2 hA2
      rw [show 39 + 3 * (i + 1) = 39 + 3 * i + 1 + 2 by omega, show 458 + 12 * (i + 1) = 458 + 12 * i + 5 + 7 by omega] at z
      exact z
set_option maxRecDepth 100000 in
set_option maxHeartbeats 4000000 in
theorem l_D_init1 {E : En} {ad0 : Nat → Nat} {Post : Option Int32 → Wd → Prop} (a : Amb u_D_init 3 E) (qf : Fin Post 1 ad0 60 553 E) (hpo : Post none (61, k0, rM 0, hZ)) : ∀ m j : Nat, j ≤ 4 → 4 < j + m → ∀ ad, AG 1 ad ad0 → X E (2 + 9 * j) (68 + 96 * j) ad (3 + 9 * j, k0, rI j, hZ) 22 [(0, .inr (some 0)), (1, .inl (nI j))] [] := by
  intro m
  have qa := qf.2.2.2
  have hC := qf.2.1
  have hSl := qf.2.2.1
  induction m with
  | zero => intro i h1 h2; omega
  | succ m ih =>
    intro j hj him ad hA
    refine x_iload_n a 22 d_D_init_22 rfl ?_
    refine x_iconst a 23 (nI 4) d_D_init_23 (by decide) ?_
    refine x_icmp_ge a 24 46 d_D_init_24 (by decide) (fun c => ?_) (fun c => ?_)
    · have h6 : j = 4 := by
        have := (nI_le_iff (a := 4) (b := j) (by omega) (by omega)).mp c
        omega
      subst h6
      refine x_aload_n a 46 d_D_init_46 rfl ?_
      refine x_bipush a 47 (nI 6) d_D_init_47 (by decide) ?_
      refine y_newq (n := 39) (t := 3) a 49 6 hA (by omega) rfl (rI_hi 4 (by omega)) rfl d_D_init_49 cl_D_20 qa.2 (Or.inr ⟨rfl, rfl⟩) rfl (by omega) (by omega) (by refine ⟨?_, ?_⟩ <;> repeat' first | exact okLn | exact okSn | exact okVi | exact okVo (by omega) | refine okLc ?_ ?_ | refine okSc ?_ ?_) (by omega) (show 68 + 96 * 4 + 6 ≤ _ by omega) (fun ad1 hA1 => ?_)
      refine x_putFR a 52 f_D_22 d_D_init_52 rfl (by omega) (by decide) (by omega) rfl rfl rfl (fun _ => rfl) (fun _ => rfl) ?_
      refine x_w (show _ = ((40, k0, rJ 0, hZ) : Wd) from congrArg (fun z => ((40, k0, z, hZ) : Wd)) rJ_0) ?_
      refine x_iconst a 55 0 d_D_init_55 (by decide) ?_
      refine x_istore_n a 56 d_D_init_56 (by decide) ?_
      refine x_lv [(0, .inr (some 0)), (1, .inl (nI 0))] (List.forall_mem_cons.mpr ⟨rfl, List.forall_mem_cons.mpr ⟨rfl, fun _ z => absurd z List.not_mem_nil⟩⟩) ?_
      exact l_D_init2 a qf hpo 7 0 (by omega) (by omega) ad1 hA1
    · have h6 : j < 4 := by
        have := mt (nI_le_iff (a := 4) (b := j) (by omega) (by omega)).mpr c
        omega
      refine x_aload_n a 27 d_D_init_27 rfl ?_
      refine x_getR a 28 f_D_15 d_D_init_28 rfl (by omega) (by decide) (o' := 2) rfl ?_
      refine x_iload_n a 31 d_D_init_31 rfl ?_
      refine y_new (ci := 1) a 32 hA (by omega) (kPx h6) (rI_hi j (by omega)) rfl d_D_init_32 lay1 cl_D_13 in1 ii1 df1 (by omega) (by refine ⟨?_, ?_⟩ <;> repeat' first | exact okLn | exact okSn | exact okVi | exact okVo (by omega) | refine okLc ?_ ?_ | refine okSc ?_ ?_) (by omega) (show 68 + 96 * j + 13 ≤ _ by omega) (fun ad1 hA1 => ?_)
      rw [show (cls 1).2.2 = 13 from rfl]
      rw [show 3 + 9 * j + 1 = 4 + 9 * j by omega]
      refine x_dup a 35 d_D_init_35 ?_
      refine x_callI a qa 36 g_D_19 d_D_init_36 (c_P_init h6 (fun o ho => rI_hi j (by omega))) rfl rfl (by decide) (Nat.le_of_ble_eq_true rfl) (by refine ⟨?_, ?_⟩ <;> repeat' first | exact okLn | exact okSn | exact okVi | exact okVo (by omega) | refine okLc ?_ ?_ | refine okSc ?_ ?_) ⟨by omega, show 68 + 96 * j + 13 + 83 ≤ _ by omega⟩ (fun v w' ad2 h2 hp => ?_)
      obtain ⟨rfl, rfl⟩ := hp
      have hA2 := hA1.nx (n := 4 + 9 * j) (by omega) h2
      refine x_st0 ?_
      refine x_aast2 (ci := 1) a 39 d_D_init_39 (len := 4) rfl (by omega) (j := j) rfl h6 (by decide) (kP h6) (by omega) rfl rfl ?_
      refine x_w (show _ = ((3 + 9 * (j + 1), k0, rI (j + 1), hZ) : Wd) by rw [rI_up, show 12 + 9 * j = 3 + 9 * (j + 1) by omega]) ?_
      refine x_iinc a 40 (nI (j + 1)) d_D_init_40 rfl (nI_inc j) (by decide) ?_
      refine x_goto a 43 22 d_D_init_43 (by decide) ?_
      refine x_lv [(0, .inr (some 0)), (1, .inl (nI (j + 1)))] (List.forall_mem_cons.mpr ⟨rfl, List.forall_mem_cons.mpr ⟨rfl, fun _ z => absurd z List.not_mem_nil⟩⟩) ?_
      have z := ih (j + 1) (by omega) (by omega) ad2 hA2
      rw [show 2 + 9 * (j + 1) = 2 + 9 * j + 1 + 8 by omega, show 68 + 96 * (j + 1) = 68 + 96 * j + 13 + 83 by omega] at z
      exact z
set_option maxRecDepth 100000 in
set_option maxHeartbeats 4000000 in
theorem c_D_init : Cn u_D_init 3 60 553 (1, k0, rN, hZ) [.inr (some 0)] (fun v w' => v = none ∧ w' = (61, k0, rM 0, hZ)) := by
  refine Cn.of (by decide +kernel) (Nat.le_of_ble_eq_true rfl) (fun E ad a qf => ?_)
  have qa := qf.2.2.2
  have hC := qf.2.1
  have hSl := qf.2.2.1
  have hA : AG 1 ad ad := AG.rf
  refine x_aload_n a 0 d_D_init_0 rfl ?_
  refine x_objInit a 1 d_D_init_1 o_D o_inst o_code (by decide) (Nat.le_of_ble_eq_true rfl) ?_
  refine x_aload_n a 4 d_D_init_4 rfl ?_
  refine x_bipush a 5 (nI 64) d_D_init_5 (by decide) ?_
  refine y_newi a 7 64 hA (Nat.le_refl _) rfl rfl rfl d_D_init_7 rfl (by omega) (by omega) (by refine ⟨?_, ?_⟩ <;> repeat' first | exact okLn | exact okSn | exact okVi | exact okVo (by omega) | refine okLc ?_ ?_ | refine okSc ?_ ?_) (by omega) (by omega) (fun ad1 hA1 => ?_)
  refine x_putFR a 9 f_D_9 d_D_init_9 rfl (by omega) (by decide) (by omega) rfl rfl rfl (fun _ => rfl) (fun _ => rfl) ?_
  refine x_aload_n a 12 d_D_init_12 rfl ?_
  refine x_iconst a 13 (nI 4) d_D_init_13 (by decide) ?_
  refine y_newq (t := 2) a 14 4 hA1 (by omega) rfl rfl rfl d_D_init_14 cl_D_13 qa.1 (Or.inl ⟨rfl, rfl⟩) rfl (by omega) (by omega) (by refine ⟨?_, ?_⟩ <;> repeat' first | exact okLn | exact okSn | exact okVi | exact okVo (by omega) | refine okLc ?_ ?_ | refine okSc ?_ ?_) (by omega) (show 0 + 64 + 4 ≤ _ by omega) (fun ad2 hA2 => ?_)
  refine x_putFR a 17 f_D_15 d_D_init_17 rfl (by omega) (by decide) (by omega) rfl rfl rfl (fun _ => rfl) (fun _ => rfl) ?_
  refine x_w (show _ = ((3, k0, rI 0, hZ) : Wd) from congrArg (fun z => ((3, k0, z, hZ) : Wd)) rI_0) ?_
  refine x_iconst a 20 0 d_D_init_20 (by decide) ?_
  refine x_istore_n a 21 d_D_init_21 (by decide) ?_
  refine x_lv [(0, .inr (some 0)), (1, .inl (nI 0))] (List.forall_mem_cons.mpr ⟨rfl, List.forall_mem_cons.mpr ⟨rfl, fun _ z => absurd z List.not_mem_nil⟩⟩) ?_
  exact l_D_init1 a qf ⟨rfl, rfl⟩ 5 0 (by omega) (by omega) ad2 hA2
