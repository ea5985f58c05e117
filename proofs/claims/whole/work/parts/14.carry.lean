theorem nn_tn {x : Int32} (h : 0 ≤ x) : x = nI (tn x) := by
  obtain ⟨k, hk, rfl⟩ := nI_of (Int32.not_lt.mpr h)
  rw [tn_nI hk]
theorem tn_int {x : Int32} (h : 0 ≤ x) : (tn x : Int) = x.toInt := by
  obtain ⟨k, hk, rfl⟩ := nI_of (Int32.not_lt.mpr h)
  rw [tn_nI hk, nI_toInt hk]
theorem tn_lt {x y : Int32} (h : 0 ≤ x) (hxy : x < y) : tn x < tn y := by
  have hy : 0 ≤ y := by
    rw [Int32.le_iff_toInt_le] at h ⊢
    rw [Int32.lt_iff_toInt_lt] at hxy
    omega
  have a := tn_int h
  have b := tn_int hy
  rw [Int32.lt_iff_toInt_lt] at hxy
  omega
theorem Nlt.int {x : Int32} {n : Nat} (h : Nlt x n) (hn : n ≤ 2 ^ 31) : x.toInt = (tn x : Int) := by
  have h1 := h.1
  rw [h.2, nI_toInt (by omega), tn_nI (by omega)]
def d_fault (h : Hp) (j : Nat) (o x b : Int32) : Nat :=
  if o = 5 ∨ o = 6 then (if 0 ≤ h (8 + 9 * j) (rg b) ∧ h (8 + 9 * j) (rg b) < h (3 + 9 * j) 8 then 0 else 1)
  else if o = 9 then (if (0 ≤ x ∧ x < h 0 4) ∧ h (40 + 3 * tn x) 1 = nI j then 0 else 2)
  else if o = 10 then (if (0 ≤ x ∧ x < h 0 4) ∧ h (40 + 3 * tn x) 2 = nI j then 0 else 2)
  else if o < 0 ∨ 14 < o then 3 else 0
theorem d_fault_le (h : Hp) (j : Nat) (o x b : Int32) : d_fault h j o x b ≤ 3 := by
  unfold d_fault
  repeat' split
  all_goals omega
set_option maxRecDepth 100000 in
set_option maxHeartbeats 4000000 in
theorem c_D_faultAhead (h : Hp) {j : Nat} (hj : j < 4) (hn : Nlt (h 0 4) 7) (o x b : Int32) : Cn u_D_faultAhead 3 0 0 (w0 h) [.inr (some 0), .inl (nI j), .inl o, .inl x, .inl b] (fun v w' => v = some (nI (d_fault h j o x b)) ∧ w' = w0 h) := by
  refine Cn.of (by decide +kernel) (Nat.le_of_ble_eq_true rfl) (fun E ad a qf => ?_)
  have qa := qf.2.2.2
  have hcs : 0 ≤ (eR E).cells ∧ 0 ≤ (eR E).slots := ⟨Nat.zero_le _, Nat.zero_le _⟩
  refine x_iload_n a 0 d_D_faultAhead_0 rfl ?_
  by_cases s1_5 : o = 5
  · subst s1_5
    refine x_tableIn a 1 40 39 d_D_faultAhead_1 (by decide) (by decide) rfl (by decide) ?_
    refine x_aload_n a 40 d_D_faultAhead_40 rfl ?_
    refine x_getR a 41 f_D_15 d_D_faultAhead_41 rfl (by omega) (by decide) rfl ?_
    refine x_iload_n a 44 d_D_faultAhead_44 rfl ?_
    refine x_aald2 a 45 d_D_faultAhead_45 rfl (by omega) (j := j) rfl (by omega) (by decide) (rPs (by omega)) ?_
    refine x_iload a 46 d_D_faultAhead_46 rfl ?_
    refine x_callV a qa 48 g_D_173 d_D_faultAhead_48 (c_P_hasWord _ (by omega) _) rfl rfl (kP (by omega)) (show _ < 86 by omega) (by decide) (Nat.le_of_ble_eq_true rfl) hcs (fun v w' hp => ?_)
    obtain ⟨rfl, rfl⟩ := hp
    refine x_st1 ?_
    refine x_ifB_eq a 51 58 d_D_faultAhead_51 (by decide) (fun c51 => ?_) (fun c51 => ?_)
    · refine x_iconst a 58 1 d_D_faultAhead_58 (by decide) ?_
      exact x_iret a qf 59 d_D_faultAhead_59 rfl ⟨by unfold d_fault; rw [if_pos (by decide)]; first | (rw [if_pos c51]; rfl) | (rw [if_neg c51]; rfl), rfl⟩
    · refine x_iconst a 54 0 d_D_faultAhead_54 (by decide) ?_
      refine x_goto a 55 59 d_D_faultAhead_55 (by decide) ?_
      exact x_iret a qf 59 d_D_faultAhead_59 rfl ⟨by unfold d_fault; rw [if_pos (by decide)]; first | (rw [if_pos c51]; rfl) | (rw [if_neg c51]; rfl), rfl⟩
  by_cases s1_6 : o = 6
  · subst s1_6
    refine x_tableIn a 1 40 39 d_D_faultAhead_1 (by decide) (by decide) rfl (by decide) ?_
    refine x_aload_n a 40 d_D_faultAhead_40 rfl ?_
    refine x_getR a 41 f_D_15 d_D_faultAhead_41 rfl (by omega) (by decide) rfl ?_
    refine x_iload_n a 44 d_D_faultAhead_44 rfl ?_
    refine x_aald2 a 45 d_D_faultAhead_45 rfl (by omega) (j := j) rfl (by omega) (by decide) (rPs (by omega)) ?_
    refine x_iload a 46 d_D_faultAhead_46 rfl ?_
    refine x_callV a qa 48 g_D_173 d_D_faultAhead_48 (c_P_hasWord _ (by omega) _) rfl rfl (kP (by omega)) (show _ < 86 by omega) (by decide) (Nat.le_of_ble_eq_true rfl) hcs (fun v w' hp => ?_)
    obtain ⟨rfl, rfl⟩ := hp
    refine x_st1 ?_
    refine x_ifB_eq a 51 58 d_D_faultAhead_51 (by decide) (fun c51 => ?_) (fun c51 => ?_)
    · refine x_iconst a 58 1 d_D_faultAhead_58 (by decide) ?_
      exact x_iret a qf 59 d_D_faultAhead_59 rfl ⟨by unfold d_fault; rw [if_pos (by decide)]; first | (rw [if_pos c51]; rfl) | (rw [if_neg c51]; rfl), rfl⟩
    · refine x_iconst a 54 0 d_D_faultAhead_54 (by decide) ?_
      refine x_goto a 55 59 d_D_faultAhead_55 (by decide) ?_
      exact x_iret a qf 59 d_D_faultAhead_59 rfl ⟨by unfold d_fault; rw [if_pos (by decide)]; first | (rw [if_pos c51]; rfl) | (rw [if_neg c51]; rfl), rfl⟩
  by_cases s1_7 : o = 7
  · subst s1_7
    refine x_tableIn a 1 114 113 d_D_faultAhead_1 (by decide) (by decide) rfl (by decide) ?_
    refine x_iload_n a 114 d_D_faultAhead_114 rfl ?_
    refine x_if_lt a 115 124 d_D_faultAhead_115 (by decide) (fun z => absurd z (by decide)) (fun _ => ?_)
    refine x_iload_n a 118 d_D_faultAhead_118 rfl ?_
    refine x_bipush a 119 14 d_D_faultAhead_119 (by decide) ?_
    refine x_icmp_le a 121 128 d_D_faultAhead_121 (by decide) (fun _ => ?_) (fun z => absurd z (by decide))
    refine x_iconst a 128 0 d_D_faultAhead_128 (by decide) ?_
    exact x_iret a qf 129 d_D_faultAhead_129 rfl ⟨by unfold d_fault; first | (rw [if_neg (by decide), if_neg (by decide), if_neg (by decide), if_neg (by decide)]; rfl) | (rw [if_neg (by rintro (z | z); exact s1_5 z; exact s1_6 z), if_neg s1_9, if_neg s1_10, if_neg (by (try simp (disch := omega) only [Int32.le_iff_toInt_le, Int32.lt_iff_toInt_lt, ← Int32.toInt_inj, Int32.reduceToInt, nI_1, nI_add, pk_sub, nI_toInt] at *); omega)]; rfl) | (rw [if_neg (by rintro (z | z); exact s1_5 z; exact s1_6 z), if_neg s1_9, if_neg s1_10, if_pos (by (try simp (disch := omega) only [Int32.le_iff_toInt_le, Int32.lt_iff_toInt_lt, ← Int32.toInt_inj, Int32.reduceToInt, nI_1, nI_add, pk_sub, nI_toInt] at *); omega)]; rfl), rfl⟩
  by_cases s1_8 : o = 8
  · subst s1_8
    refine x_tableIn a 1 114 113 d_D_faultAhead_1 (by decide) (by decide) rfl (by decide) ?_
    refine x_iload_n a 114 d_D_faultAhead_114 rfl ?_
    refine x_if_lt a 115 124 d_D_faultAhead_115 (by decide) (fun z => absurd z (by decide)) (fun _ => ?_)
    refine x_iload_n a 118 d_D_faultAhead_118 rfl ?_
    refine x_bipush a 119 14 d_D_faultAhead_119 (by decide) ?_
    refine x_icmp_le a 121 128 d_D_faultAhead_121 (by decide) (fun _ => ?_) (fun z => absurd z (by decide))
    refine x_iconst a 128 0 d_D_faultAhead_128 (by decide) ?_
    exact x_iret a qf 129 d_D_faultAhead_129 rfl ⟨by unfold d_fault; first | (rw [if_neg (by decide), if_neg (by decide), if_neg (by decide), if_neg (by decide)]; rfl) | (rw [if_neg (by rintro (z | z); exact s1_5 z; exact s1_6 z), if_neg s1_9, if_neg s1_10, if_neg (by (try simp (disch := omega) only [Int32.le_iff_toInt_le, Int32.lt_iff_toInt_lt, ← Int32.toInt_inj, Int32.reduceToInt, nI_1, nI_add, pk_sub, nI_toInt] at *); omega)]; rfl) | (rw [if_neg (by rintro (z | z); exact s1_5 z; exact s1_6 z), if_neg s1_9, if_neg s1_10, if_pos (by (try simp (disch := omega) only [Int32.le_iff_toInt_le, Int32.lt_iff_toInt_lt, ← Int32.toInt_inj, Int32.reduceToInt, nI_1, nI_add, pk_sub, nI_toInt] at *); omega)]; rfl), rfl⟩
  by_cases s1_9 : o = 9
  · subst s1_9
    refine x_tableIn a 1 60 59 d_D_faultAhead_1 (by decide) (by decide) rfl (by decide) ?_
    refine x_aload_n a 60 d_D_faultAhead_60 rfl ?_
    refine x_iload_n a 61 d_D_faultAhead_61 rfl ?_
    refine x_callV a qa 62 g_D_109 d_D_faultAhead_62 (c_D_isPort _ _) rfl rfl rfl (show _ < 86 by omega) (by decide) (Nat.le_of_ble_eq_true rfl) hcs (fun v w' hp => ?_)
    obtain ⟨rfl, rfl⟩ := hp
    refine x_st1 ?_
    refine x_ifB_eq a 65 85 d_D_faultAhead_65 (by decide) (fun c65 => ?_) (fun c65 => ?_)
    · refine x_iconst a 85 2 d_D_faultAhead_85 (by decide) ?_
      exact x_iret a qf 86 d_D_faultAhead_86 rfl ⟨by unfold d_fault; rw [if_neg (by decide), if_pos rfl]; first | (rw [if_pos ⟨c65, c78⟩]; rfl) | (rw [if_neg (by intro z; first | exact c65 z.1 | exact c78 z.2)]; rfl), rfl⟩
    · have hx0 := nn_tn c65.1
      have hx6 : tn x < 6 := by have := tn_lt c65.1 c65.2; have := hn.1; omega
      refine x_aload_n a 68 d_D_faultAhead_68 rfl ?_
      refine x_getR a 69 f_D_22 d_D_faultAhead_69 rfl (by omega) (by decide) rfl ?_
      refine x_iload_n a 72 d_D_faultAhead_72 rfl ?_
      refine x_aald3 a 73 d_D_faultAhead_73 rfl (by omega) (j := tn x) hx0 hx6 (by decide) (rQs (by omega)) ?_
      refine x_getI a 74 f_D_60 d_D_faultAhead_74 (kQ (by omega)) (by omega) (by decide) rfl ?_
      refine x_iload_n a 77 d_D_faultAhead_77 rfl ?_
      refine x_icmp_ne a 78 85 d_D_faultAhead_78 (by decide) (fun c78 => ?_) (fun c78 => ?_)
      · refine x_iconst a 85 2 d_D_faultAhead_85 (by decide) ?_
        exact x_iret a qf 86 d_D_faultAhead_86 rfl ⟨by unfold d_fault; rw [if_neg (by decide), if_pos rfl]; first | (rw [if_pos ⟨c65, c78⟩]; rfl) | (rw [if_neg (by intro z; first | exact c65 z.1 | exact c78 z.2)]; rfl), rfl⟩
      · refine x_iconst a 81 0 d_D_faultAhead_81 (by decide) ?_
        refine x_goto a 82 86 d_D_faultAhead_82 (by decide) ?_
        exact x_iret a qf 86 d_D_faultAhead_86 rfl ⟨by unfold d_fault; rw [if_neg (by decide), if_pos rfl]; first | (rw [if_pos ⟨c65, c78⟩]; rfl) | (rw [if_neg (by intro z; first | exact c65 z.1 | exact c78 z.2)]; rfl), rfl⟩
  by_cases s1_10 : o = 10
  · subst s1_10
    refine x_tableIn a 1 87 86 d_D_faultAhead_1 (by decide) (by decide) rfl (by decide) ?_
    refine x_aload_n a 87 d_D_faultAhead_87 rfl ?_
    refine x_iload_n a 88 d_D_faultAhead_88 rfl ?_
    refine x_callV a qa 89 g_D_109 d_D_faultAhead_89 (c_D_isPort _ _) rfl rfl rfl (show _ < 86 by omega) (by decide) (Nat.le_of_ble_eq_true rfl) hcs (fun v w' hp => ?_)
    obtain ⟨rfl, rfl⟩ := hp
    refine x_st1 ?_
    refine x_ifB_eq a 92 112 d_D_faultAhead_92 (by decide) (fun c92 => ?_) (fun c92 => ?_)
    · refine x_iconst a 112 2 d_D_faultAhead_112 (by decide) ?_
      exact x_iret a qf 113 d_D_faultAhead_113 rfl ⟨by unfold d_fault; rw [if_neg (by decide), if_neg (by decide), if_pos rfl]; first | (rw [if_pos ⟨c92, c105⟩]; rfl) | (rw [if_neg (by intro z; first | exact c92 z.1 | exact c105 z.2)]; rfl), rfl⟩
    · have hx0 := nn_tn c92.1
      have hx6 : tn x < 6 := by have := tn_lt c92.1 c92.2; have := hn.1; omega
      refine x_aload_n a 95 d_D_faultAhead_95 rfl ?_
      refine x_getR a 96 f_D_22 d_D_faultAhead_96 rfl (by omega) (by decide) rfl ?_
      refine x_iload_n a 99 d_D_faultAhead_99 rfl ?_
      refine x_aald3 a 100 d_D_faultAhead_100 rfl (by omega) (j := tn x) hx0 hx6 (by decide) (rQs (by omega)) ?_
      refine x_getI a 101 f_D_61 d_D_faultAhead_101 (kQ (by omega)) (by omega) (by decide) rfl ?_
      refine x_iload_n a 104 d_D_faultAhead_104 rfl ?_
      refine x_icmp_ne a 105 112 d_D_faultAhead_105 (by decide) (fun c105 => ?_) (fun c105 => ?_)
      · refine x_iconst a 112 2 d_D_faultAhead_112 (by decide) ?_
        exact x_iret a qf 113 d_D_faultAhead_113 rfl ⟨by unfold d_fault; rw [if_neg (by decide), if_neg (by decide), if_pos rfl]; first | (rw [if_pos ⟨c92, c105⟩]; rfl) | (rw [if_neg (by intro z; first | exact c92 z.1 | exact c105 z.2)]; rfl), rfl⟩
      · refine x_iconst a 108 0 d_D_faultAhead_108 (by decide) ?_
        refine x_goto a 109 113 d_D_faultAhead_109 (by decide) ?_
        exact x_iret a qf 113 d_D_faultAhead_113 rfl ⟨by unfold d_fault; rw [if_neg (by decide), if_neg (by decide), if_pos rfl]; first | (rw [if_pos ⟨c92, c105⟩]; rfl) | (rw [if_neg (by intro z; first | exact c92 z.1 | exact c105 z.2)]; rfl), rfl⟩
  refine x_tableOut a 1 114 d_D_faultAhead_1 (by (try simp (disch := omega) only [Int32.le_iff_toInt_le, Int32.lt_iff_toInt_lt, ← Int32.toInt_inj, Int32.reduceToInt, nI_1, nI_add, pk_sub, nI_toInt] at *); omega) (by decide) ?_
  refine x_iload_n a 114 d_D_faultAhead_114 rfl ?_
  refine x_if_lt a 115 124 d_D_faultAhead_115 (by decide) (fun c115 => ?_) (fun c115 => ?_)
  · refine x_iconst a 124 3 d_D_faultAhead_124 (by decide) ?_
    refine x_goto a 125 129 d_D_faultAhead_125 (by decide) ?_
    exact x_iret a qf 129 d_D_faultAhead_129 rfl ⟨by unfold d_fault; first | (rw [if_neg (by decide), if_neg (by decide), if_neg (by decide), if_neg (by decide)]; rfl) | (rw [if_neg (by rintro (z | z); exact s1_5 z; exact s1_6 z), if_neg s1_9, if_neg s1_10, if_neg (by (try simp (disch := omega) only [Int32.le_iff_toInt_le, Int32.lt_iff_toInt_lt, ← Int32.toInt_inj, Int32.reduceToInt, nI_1, nI_add, pk_sub, nI_toInt] at *); omega)]; rfl) | (rw [if_neg (by rintro (z | z); exact s1_5 z; exact s1_6 z), if_neg s1_9, if_neg s1_10, if_pos (by (try simp (disch := omega) only [Int32.le_iff_toInt_le, Int32.lt_iff_toInt_lt, ← Int32.toInt_inj, Int32.reduceToInt, nI_1, nI_add, pk_sub, nI_toInt] at *); omega)]; rfl), rfl⟩
  · refine x_iload_n a 118 d_D_faultAhead_118 rfl ?_
    refine x_bipush a 119 14 d_D_faultAhead_119 (by decide) ?_
    refine x_icmp_le a 121 128 d_D_faultAhead_121 (by decide) (fun c121 => ?_) (fun c121 => ?_)
    · refine x_iconst a 128 0 d_D_faultAhead_128 (by decide) ?_
      exact x_iret a qf 129 d_D_faultAhead_129 rfl ⟨by unfold d_fault; first | (rw [if_neg (by decide), if_neg (by decide), if_neg (by decide), if_neg (by decide)]; rfl) | (rw [if_neg (by rintro (z | z); exact s1_5 z; exact s1_6 z), if_neg s1_9, if_neg s1_10, if_neg (by (try simp (disch := omega) only [Int32.le_iff_toInt_le, Int32.lt_iff_toInt_lt, ← Int32.toInt_inj, Int32.reduceToInt, nI_1, nI_add, pk_sub, nI_toInt] at *); omega)]; rfl) | (rw [if_neg (by rintro (z | z); exact s1_5 z; exact s1_6 z), if_neg s1_9, if_neg s1_10, if_pos (by (try simp (disch := omega) only [Int32.le_iff_toInt_le, Int32.lt_iff_toInt_lt, ← Int32.toInt_inj, Int32.reduceToInt, nI_1, nI_add, pk_sub, nI_toInt] at *); omega)]; rfl), rfl⟩
    · refine x_iconst a 124 3 d_D_faultAhead_124 (by decide) ?_
      refine x_goto a 125 129 d_D_faultAhead_125 (by decide) ?_
      exact x_iret a qf 129 d_D_faultAhead_129 rfl ⟨by unfold d_fault; first | (rw [if_neg (by decide), if_neg (by decide), if_neg (by decide), if_neg (by decide)]; rfl) | (rw [if_neg (by rintro (z | z); exact s1_5 z; exact s1_6 z), if_neg s1_9, if_neg s1_10, if_neg (by (try simp (disch := omega) only [Int32.le_iff_toInt_le, Int32.lt_iff_toInt_lt, ← Int32.toInt_inj, Int32.reduceToInt, nI_1, nI_add, pk_sub, nI_toInt] at *); omega)]; rfl) | (rw [if_neg (by rintro (z | z); exact s1_5 z; exact s1_6 z), if_neg s1_9, if_neg s1_10, if_pos (by (try simp (disch := omega) only [Int32.le_iff_toInt_le, Int32.lt_iff_toInt_lt, ← Int32.toInt_inj, Int32.reduceToInt, nI_1, nI_add, pk_sub, nI_toInt] at *); omega)]; rfl), rfl⟩
def d_compute (h : Hp) (j : Nat) (o x b : Int32) : Hp :=
  if o = 1 then up2 h (8 + 9 * j) (rg x) b
  else if o = 2 then up2 h (8 + 9 * j) (rg x) (h (8 + 9 * j) (rg x) + h (8 + 9 * j) (rg b))
  else if o = 3 then up2 h (8 + 9 * j) (rg x) (h (8 + 9 * j) (rg x) - h (8 + 9 * j) (rg b))
  else if o = 4 then up2 h (8 + 9 * j) (rg x) (h (8 + 9 * j) (rg x) ^^^ h (8 + 9 * j) (rg b))
  else if o = 5 then up2 h (8 + 9 * j) (rg x) (h 1 (tn (h (3 + 9 * j) 7 + h (8 + 9 * j) (rg b))))
  else if o = 6 then up2 h 1 (tn (h (3 + 9 * j) 7 + h (8 + 9 * j) (rg b))) (h (8 + 9 * j) (rg x))
  else h
def d_jump (h : Hp) (j : Nat) (o x b : Int32) : Hp := if o = 7 ∨ ¬ h (8 + 9 * j) (rg x) = 0 then up2 h (3 + 9 * j) 9 b else h
def d_comm (h : Hp) (j : Nat) (o x b : Int32) : Hp :=
  if o = 9 then s_send h (tn x) j (rg b) (h 58 5) (tn (h (41 + 3 * tn x) 1)) (tn (h (41 + 3 * tn x) 2)) (tn (h (40 + 3 * tn x) 3))
  else if o = 10 then s_recv h (tn x) j (rg b) (h 58 5) (tn (h (41 + 3 * tn x) 1)) (tn (h (41 + 3 * tn x) 2)) (tn (h (40 + 3 * tn x) 3))
  else if o = 11 then p_take h j (tn (h (9 + 9 * j) 1)) (tn (h (9 + 9 * j) 2)) (rg x)
  else if o = 12 then p_out h j (tn (h (3 + 9 * j) 12)) (h (8 + 9 * j) (rg x))
  else if o = 13 then up2 h 58 6 1
  else if o = 14 then up2 h (3 + 9 * j) 10 0
  else h
def d_carry (h : Hp) (j : Nat) (o x b : Int32) : Hp :=
  if o ≤ 6 then d_compute (up2 h (3 + 9 * j) 9 (h (3 + 9 * j) 9 + 1)) j o x b
  else if o ≤ 8 then d_jump (up2 h (3 + 9 * j) 9 (h (3 + 9 * j) 9 + 1)) j o x b
  else d_comm (up2 h (3 + 9 * j) 9 (h (3 + 9 * j) 9 + 1)) j o x b
set_option maxRecDepth 100000 in
set_option maxHeartbeats 4000000 in
theorem c_D_compute (h : Hp) {j : Nat} (hj : j < 4) (o x b : Int32) (hw : o = 5 ∨ o = 6 → Nlt (h (3 + 9 * j) 7 + h (8 + 9 * j) (rg b)) 64) : Cn u_D_compute 2 0 0 (w0 h) [.inr (some 0), .inr (some (3 + 9 * j)), .inl o, .inl x, .inl b] (fun r w' => r = none ∧ w' = w0 (d_compute h j o x b)) := by
  refine Cn.of (by decide +kernel) (Nat.le_of_ble_eq_true rfl) (fun E ad a qf => ?_)
  have qa := qf.2.2.2
  have hcs : 0 ≤ (eR E).cells ∧ 0 ≤ (eR E).slots := ⟨Nat.zero_le _, Nat.zero_le _⟩
  have hrx := rg_lt x
  have hrb := rg_lt b
  refine x_iload_n a 0 d_D_compute_0 rfl ?_
  refine x_callS a qa 1 g_D_185 d_D_compute_1 (c_D_registerNamed _ _) rfl rfl (by decide) (Nat.le_of_ble_eq_true rfl) hcs (fun v w' hp => ?_)
  obtain ⟨rfl, rfl⟩ := hp
  refine x_st1 ?_
  refine x_istore a 4 d_D_compute_4 (by decide) ?_
  refine x_iload a 6 d_D_compute_6 rfl ?_
  refine x_callS a qa 8 g_D_185 d_D_compute_8 (c_D_registerNamed _ _) rfl rfl (by decide) (Nat.le_of_ble_eq_true rfl) hcs (fun v w' hp => ?_)
  obtain ⟨rfl, rfl⟩ := hp
  refine x_st1 ?_
  refine x_istore a 11 d_D_compute_11 (by decide) ?_
  refine x_aload_n a 13 d_D_compute_13 rfl ?_
  refine x_getR a 14 f_D_188 d_D_compute_14 (kP (by omega)) (by omega) (by decide) (rP4 (by omega)) ?_
  refine x_astore a 17 d_D_compute_17 (by decide) ?_
  refine x_iload_n a 19 d_D_compute_19 rfl ?_
  by_cases s20_1 : o = 1
  · subst s20_1
    refine x_tableIn a 20 60 40 d_D_compute_20 (by decide) (by decide) rfl (by decide) ?_
    refine x_aload a 60 d_D_compute_60 rfl ?_
    refine x_iload a 62 d_D_compute_62 rfl ?_
    refine x_iload a 64 d_D_compute_64 rfl ?_
    refine x_iast a 66 d_D_compute_66 (kA8 (by omega)) (by omega) (j := (rg x)) rfl (by omega) (by decide) ?_
    refine x_goto a 67 173 d_D_compute_67 (by decide) ?_
    exact x_vret a qf 173 d_D_compute_173 rfl ⟨rfl, by unfold d_compute; first | (rw [if_neg s20_1, if_neg s20_2, if_neg s20_3, if_neg s20_4, if_neg s20_5, if_neg s20_6]; done) | (rw [if_pos rfl]; done) | (rw [if_neg (by decide), if_pos rfl]; done) | (rw [if_neg (by decide), if_neg (by decide), if_pos rfl]; done) | (rw [if_neg (by decide), if_neg (by decide), if_neg (by decide), if_pos rfl]; done) | (rw [if_neg (by decide), if_neg (by decide), if_neg (by decide), if_neg (by decide), if_pos rfl]; done) | (rw [if_neg (by decide), if_neg (by decide), if_neg (by decide), if_neg (by decide), if_neg (by decide), if_pos rfl]; done)⟩
  by_cases s20_2 : o = 2
  · subst s20_2
    refine x_tableIn a 20 70 50 d_D_compute_20 (by decide) (by decide) rfl (by decide) ?_
    refine x_aload a 70 d_D_compute_70 rfl ?_
    refine x_iload a 72 d_D_compute_72 rfl ?_
    refine x_aload a 74 d_D_compute_74 rfl ?_
    refine x_iload a 76 d_D_compute_76 rfl ?_
    refine x_iald a 78 d_D_compute_78 (kA8 (by omega)) (by omega) (j := (rg x)) rfl (by omega) (by decide) rfl ?_
    refine x_aload a 79 d_D_compute_79 rfl ?_
    refine x_iload a 81 d_D_compute_81 rfl ?_
    refine x_iald a 83 d_D_compute_83 (kA8 (by omega)) (by omega) (j := (rg b)) rfl (by omega) (by decide) rfl ?_
    refine x_iadd a 84 d_D_compute_84 ?_
    refine x_iast a 85 d_D_compute_85 (kA8 (by omega)) (by omega) (j := (rg x)) rfl (by omega) (by decide) ?_
    refine x_goto a 86 173 d_D_compute_86 (by decide) ?_
    exact x_vret a qf 173 d_D_compute_173 rfl ⟨rfl, by unfold d_compute; first | (rw [if_neg s20_1, if_neg s20_2, if_neg s20_3, if_neg s20_4, if_neg s20_5, if_neg s20_6]; done) | (rw [if_pos rfl]; done) | (rw [if_neg (by decide), if_pos rfl]; done) | (rw [if_neg (by decide), if_neg (by decide), if_pos rfl]; done) | (rw [if_neg (by decide), if_neg (by decide), if_neg (by decide), if_pos rfl]; done) | (rw [if_neg (by decide), if_neg (by decide), if_neg (by decide), if_neg (by decide), if_pos rfl]; done) | (rw [if_neg (by decide), if_neg (by decide), if_neg (by decide), if_neg (by decide), if_neg (by decide), if_pos rfl]; done)⟩
  by_cases s20_3 : o = 3
  · subst s20_3
    refine x_tableIn a 20 89 69 d_D_compute_20 (by decide) (by decide) rfl (by decide) ?_
    refine x_aload a 89 d_D_compute_89 rfl ?_
    refine x_iload a 91 d_D_compute_91 rfl ?_
    refine x_aload a 93 d_D_compute_93 rfl ?_
    refine x_iload a 95 d_D_compute_95 rfl ?_
    refine x_iald a 97 d_D_compute_97 (kA8 (by omega)) (by omega) (j := (rg x)) rfl (by omega) (by decide) rfl ?_
    refine x_aload a 98 d_D_compute_98 rfl ?_
    refine x_iload a 100 d_D_compute_100 rfl ?_
    refine x_iald a 102 d_D_compute_102 (kA8 (by omega)) (by omega) (j := (rg b)) rfl (by omega) (by decide) rfl ?_
    refine x_isub a 103 d_D_compute_103 ?_
    refine x_iast a 104 d_D_compute_104 (kA8 (by omega)) (by omega) (j := (rg x)) rfl (by omega) (by decide) ?_
    refine x_goto a 105 173 d_D_compute_105 (by decide) ?_
    exact x_vret a qf 173 d_D_compute_173 rfl ⟨rfl, by unfold d_compute; first | (rw [if_neg s20_1, if_neg s20_2, if_neg s20_3, if_neg s20_4, if_neg s20_5, if_neg s20_6]; done) | (rw [if_pos rfl]; done) | (rw [if_neg (by decide), if_pos rfl]; done) | (rw [if_neg (by decide), if_neg (by decide), if_pos rfl]; done) | (rw [if_neg (by decide), if_neg (by decide), if_neg (by decide), if_pos rfl]; done) | (rw [if_neg (by decide), if_neg (by decide), if_neg (by decide), if_neg (by decide), if_pos rfl]; done) | (rw [if_neg (by decide), if_neg (by decide), if_neg (by decide), if_neg (by decide), if_neg (by decide), if_pos rfl]; done)⟩
  by_cases s20_4 : o = 4
  · subst s20_4
    refine x_tableIn a 20 108 88 d_D_compute_20 (by decide) (by decide) rfl (by decide) ?_
    refine x_aload a 108 d_D_compute_108 rfl ?_
    refine x_iload a 110 d_D_compute_110 rfl ?_
    refine x_aload a 112 d_D_compute_112 rfl ?_
    refine x_iload a 114 d_D_compute_114 rfl ?_
    refine x_iald a 116 d_D_compute_116 (kA8 (by omega)) (by omega) (j := (rg x)) rfl (by omega) (by decide) rfl ?_
    refine x_aload a 117 d_D_compute_117 rfl ?_
    refine x_iload a 119 d_D_compute_119 rfl ?_
    refine x_iald a 121 d_D_compute_121 (kA8 (by omega)) (by omega) (j := (rg b)) rfl (by omega) (by decide) rfl ?_
    refine x_ixor a 122 d_D_compute_122 ?_
    refine x_iast a 123 d_D_compute_123 (kA8 (by omega)) (by omega) (j := (rg x)) rfl (by omega) (by decide) ?_
    refine x_goto a 124 173 d_D_compute_124 (by decide) ?_
    exact x_vret a qf 173 d_D_compute_173 rfl ⟨rfl, by unfold d_compute; first | (rw [if_neg s20_1, if_neg s20_2, if_neg s20_3, if_neg s20_4, if_neg s20_5, if_neg s20_6]; done) | (rw [if_pos rfl]; done) | (rw [if_neg (by decide), if_pos rfl]; done) | (rw [if_neg (by decide), if_neg (by decide), if_pos rfl]; done) | (rw [if_neg (by decide), if_neg (by decide), if_neg (by decide), if_pos rfl]; done) | (rw [if_neg (by decide), if_neg (by decide), if_neg (by decide), if_neg (by decide), if_pos rfl]; done) | (rw [if_neg (by decide), if_neg (by decide), if_neg (by decide), if_neg (by decide), if_neg (by decide), if_pos rfl]; done)⟩
  by_cases s20_5 : o = 5
  · subst s20_5
    refine x_tableIn a 20 127 107 d_D_compute_20 (by decide) (by decide) rfl (by decide) ?_
    refine x_aload a 127 d_D_compute_127 rfl ?_
    refine x_iload a 129 d_D_compute_129 rfl ?_
    refine x_aload_n a 131 d_D_compute_131 rfl ?_
    refine x_getR a 132 f_D_9 d_D_compute_132 rfl (by omega) (by decide) rfl ?_
    refine x_aload_n a 135 d_D_compute_135 rfl ?_
    refine x_getI a 136 f_D_46 d_D_compute_136 (kP (by omega)) (by omega) (by decide) rfl ?_
    refine x_aload a 139 d_D_compute_139 rfl ?_
    refine x_iload a 141 d_D_compute_141 rfl ?_
    refine x_iald a 143 d_D_compute_143 (kA8 (by omega)) (by omega) (j := (rg b)) rfl (by omega) (by decide) rfl ?_
    refine x_iadd a 144 d_D_compute_144 ?_
    refine x_iald a 145 d_D_compute_145 rfl (by omega) (j := tn (h (3 + 9 * j) 7 + h (8 + 9 * j) (rg b))) (hw (Or.inl rfl)).2 (hw (Or.inl rfl)).1 (by decide) rfl ?_
    refine x_iast a 146 d_D_compute_146 (kA8 (by omega)) (by omega) (j := (rg x)) rfl (by omega) (by decide) ?_
    refine x_goto a 147 173 d_D_compute_147 (by decide) ?_
    exact x_vret a qf 173 d_D_compute_173 rfl ⟨rfl, by unfold d_compute; first | (rw [if_neg s20_1, if_neg s20_2, if_neg s20_3, if_neg s20_4, if_neg s20_5, if_neg s20_6]; done) | (rw [if_pos rfl]; done) | (rw [if_neg (by decide), if_pos rfl]; done) | (rw [if_neg (by decide), if_neg (by decide), if_pos rfl]; done) | (rw [if_neg (by decide), if_neg (by decide), if_neg (by decide), if_pos rfl]; done) | (rw [if_neg (by decide), if_neg (by decide), if_neg (by decide), if_neg (by decide), if_pos rfl]; done) | (rw [if_neg (by decide), if_neg (by decide), if_neg (by decide), if_neg (by decide), if_neg (by decide), if_pos rfl]; done)⟩
  by_cases s20_6 : o = 6
  · subst s20_6
    refine x_tableIn a 20 150 130 d_D_compute_20 (by decide) (by decide) rfl (by decide) ?_
    refine x_aload_n a 150 d_D_compute_150 rfl ?_
    refine x_getR a 151 f_D_9 d_D_compute_151 rfl (by omega) (by decide) rfl ?_
    refine x_aload_n a 154 d_D_compute_154 rfl ?_
    refine x_getI a 155 f_D_46 d_D_compute_155 (kP (by omega)) (by omega) (by decide) rfl ?_
    refine x_aload a 158 d_D_compute_158 rfl ?_
    refine x_iload a 160 d_D_compute_160 rfl ?_
    refine x_iald a 162 d_D_compute_162 (kA8 (by omega)) (by omega) (j := (rg b)) rfl (by omega) (by decide) rfl ?_
    refine x_iadd a 163 d_D_compute_163 ?_
    refine x_aload a 164 d_D_compute_164 rfl ?_
    refine x_iload a 166 d_D_compute_166 rfl ?_
    refine x_iald a 168 d_D_compute_168 (kA8 (by omega)) (by omega) (j := (rg x)) rfl (by omega) (by decide) rfl ?_
    refine x_iast a 169 d_D_compute_169 rfl (by omega) (j := tn (h (3 + 9 * j) 7 + h (8 + 9 * j) (rg b))) (hw (Or.inr rfl)).2 (hw (Or.inr rfl)).1 (by decide) ?_
    refine x_goto a 170 173 d_D_compute_170 (by decide) ?_
    exact x_vret a qf 173 d_D_compute_173 rfl ⟨rfl, by unfold d_compute; first | (rw [if_neg s20_1, if_neg s20_2, if_neg s20_3, if_neg s20_4, if_neg s20_5, if_neg s20_6]; done) | (rw [if_pos rfl]; done) | (rw [if_neg (by decide), if_pos rfl]; done) | (rw [if_neg (by decide), if_neg (by decide), if_pos rfl]; done) | (rw [if_neg (by decide), if_neg (by decide), if_neg (by decide), if_pos rfl]; done) | (rw [if_neg (by decide), if_neg (by decide), if_neg (by decide), if_neg (by decide), if_pos rfl]; done) | (rw [if_neg (by decide), if_neg (by decide), if_neg (by decide), if_neg (by decide), if_neg (by decide), if_pos rfl]; done)⟩
  refine x_tableOut a 20 173 d_D_compute_20 (by (try simp (disch := omega) only [Int32.le_iff_toInt_le, Int32.lt_iff_toInt_lt, ← Int32.toInt_inj, Int32.reduceToInt, nI_1, nI_add, pk_sub, nI_toInt] at *); omega) (by decide) ?_
  exact x_vret a qf 173 d_D_compute_173 rfl ⟨rfl, by unfold d_compute; first | (rw [if_neg s20_1, if_neg s20_2, if_neg s20_3, if_neg s20_4, if_neg s20_5, if_neg s20_6]; done) | (rw [if_pos rfl]; done) | (rw [if_neg (by decide), if_pos rfl]; done) | (rw [if_neg (by decide), if_neg (by decide), if_pos rfl]; done) | (rw [if_neg (by decide), if_neg (by decide), if_neg (by decide), if_pos rfl]; done) | (rw [if_neg (by decide), if_neg (by decide), if_neg (by decide), if_neg (by decide), if_pos rfl]; done) | (rw [if_neg (by decide), if_neg (by decide), if_neg (by decide), if_neg (by decide), if_neg (by decide), if_pos rfl]; done)⟩
set_option maxRecDepth 100000 in
set_option maxHeartbeats 4000000 in
theorem c_D_jump (h : Hp) {j : Nat} (hj : j < 4) (o x b : Int32) : Cn u_D_jump 2 0 0 (w0 h) [.inr (some (3 + 9 * j)), .inl o, .inl x, .inl b] (fun r w' => r = none ∧ w' = w0 (d_jump h j o x b)) := by
  refine Cn.of (by decide +kernel) (Nat.le_of_ble_eq_true rfl) (fun E ad a qf => ?_)
  have qa := qf.2.2.2
  have hcs : 0 ≤ (eR E).cells ∧ 0 ≤ (eR E).slots := ⟨Nat.zero_le _, Nat.zero_le _⟩
  have hrx := rg_lt x
  refine x_iload_n a 0 d_D_jump_0 rfl ?_
  refine x_bipush a 1 7 d_D_jump_1 (by decide) ?_
  refine x_icmp_eq a 3 18 d_D_jump_3 (by decide) (fun c3 => ?_) (fun c3 => ?_)
  · refine x_aload_n a 18 d_D_jump_18 rfl ?_
    refine x_iload_n a 19 d_D_jump_19 rfl ?_
    refine x_putI a 20 f_D_159 d_D_jump_20 (kP (by omega)) (by omega) (by decide) rfl rfl rfl ?_
    exact x_vret a qf 23 d_D_jump_23 rfl ⟨rfl, by unfold d_jump; first | (rw [if_pos (Or.inl c3)]; done) | (rw [if_pos (Or.inr c15)]; done) | (rw [if_neg (by rintro (z | z); exact c3 z; exact z c15)]; done)⟩
  · refine x_aload_n a 6 d_D_jump_6 rfl ?_
    refine x_getR a 7 f_D_188 d_D_jump_7 (kP (by omega)) (by omega) (by decide) (rP4 (by omega)) ?_
    refine x_iload_n a 10 d_D_jump_10 rfl ?_
    refine x_callS a qa 11 g_D_185 d_D_jump_11 (c_D_registerNamed _ _) rfl rfl (by decide) (Nat.le_of_ble_eq_true rfl) hcs (fun v w' hp => ?_)
    obtain ⟨rfl, rfl⟩ := hp
    refine x_st1 ?_
    refine x_iald a 14 d_D_jump_14 (kA8 (by omega)) (by omega) (j := (rg x)) rfl (by omega) (by decide) rfl ?_
    refine x_if_eq a 15 23 d_D_jump_15 (by decide) (fun c15 => ?_) (fun c15 => ?_)
    · exact x_vret a qf 23 d_D_jump_23 rfl ⟨rfl, by unfold d_jump; first | (rw [if_pos (Or.inl c3)]; done) | (rw [if_pos (Or.inr c15)]; done) | (rw [if_neg (by rintro (z | z); exact c3 z; exact z c15)]; done)⟩
    · refine x_aload_n a 18 d_D_jump_18 rfl ?_
      refine x_iload_n a 19 d_D_jump_19 rfl ?_
      refine x_putI a 20 f_D_159 d_D_jump_20 (kP (by omega)) (by omega) (by decide) rfl rfl rfl ?_
      exact x_vret a qf 23 d_D_jump_23 rfl ⟨rfl, by unfold d_jump; first | (rw [if_pos (Or.inl c3)]; done) | (rw [if_pos (Or.inr c15)]; done) | (rw [if_neg (by rintro (z | z); exact c3 z; exact z c15)]; done)⟩
set_option maxRecDepth 100000 in
set_option maxHeartbeats 4000000 in
theorem c_D_communicate (h : Hp) {j : Nat} (hj : j < 4) (o x b : Int32) (hx : o = 9 ∨ o = 10 → Nlt x 6) (hq : ∀ i, i < 6 → Nlt (h (40 + 3 * i) 3) 5 ∧ Nlt (h (41 + 3 * i) 1) 4 ∧ Nlt (h (41 + 3 * i) 2) 5) (hin : Nlt (h (9 + 9 * j) 1) 8 ∧ Nlt (h (9 + 9 * j) 2) 9) (hou : Nlt (h (3 + 9 * j) 12) (2 ^ 30)) : Cn u_D_communicate 2 0 0 (w0 h) [.inr (some 0), .inr (some (3 + 9 * j)), .inl o, .inl x, .inl b] (fun r w' => r = none ∧ w' = w0 (d_comm h j o x b)) := by
  refine Cn.of (by decide +kernel) (Nat.le_of_ble_eq_true rfl) (fun E ad a qf => ?_)
  have qa := qf.2.2.2
  have hcs : 0 ≤ (eR E).cells ∧ 0 ≤ (eR E).slots := ⟨Nat.zero_le _, Nat.zero_le _⟩
  have hrx := rg_lt x
  have hrb := rg_lt b
  refine x_iload_n a 0 d_D_communicate_0 rfl ?_
  refine x_callS a qa 1 g_D_185 d_D_communicate_1 (c_D_registerNamed _ _) rfl rfl (by decide) (Nat.le_of_ble_eq_true rfl) hcs (fun v w' hp => ?_)
  obtain ⟨rfl, rfl⟩ := hp
  refine x_st1 ?_
  refine x_istore a 4 d_D_communicate_4 (by decide) ?_
  refine x_iload a 6 d_D_communicate_6 rfl ?_
  refine x_callS a qa 8 g_D_185 d_D_communicate_8 (c_D_registerNamed _ _) rfl rfl (by decide) (Nat.le_of_ble_eq_true rfl) hcs (fun v w' hp => ?_)
  obtain ⟨rfl, rfl⟩ := hp
  refine x_st1 ?_
  refine x_istore a 11 d_D_communicate_11 (by decide) ?_
  refine x_iload_n a 13 d_D_communicate_13 rfl ?_
  by_cases s14_9 : o = 9
  · subst s14_9
    refine x_tableIn a 14 52 38 d_D_communicate_14 (by decide) (by decide) rfl (by decide) ?_
    refine x_aload_n a 52 d_D_communicate_52 rfl ?_
    refine x_getR a 53 f_D_22 d_D_communicate_53 rfl (by omega) (by decide) rfl ?_
    refine x_iload_n a 56 d_D_communicate_56 rfl ?_
    have hx6 := (hx (Or.inl rfl)).1
    refine x_aald3 a 57 d_D_communicate_57 rfl (by omega) (j := tn x) (hx (Or.inl rfl)).2 (hx (Or.inl rfl)).1 (by decide) (rQs (by omega)) ?_
    refine x_aload_n a 58 d_D_communicate_58 rfl ?_
    refine x_getR a 59 f_D_188 d_D_communicate_59 (kP (by omega)) (by omega) (by decide) (rP4 (by omega)) ?_
    refine x_iload a 62 d_D_communicate_62 rfl ?_
    refine x_aload_n a 64 d_D_communicate_64 rfl ?_
    refine x_getR a 65 f_D_30 d_D_communicate_65 rfl (by omega) (by decide) rfl ?_
    refine x_getI a 68 f_D_191 d_D_communicate_68 rfl (by omega) (by decide) rfl ?_
    refine x_callV a qa 71 g_D_194 d_D_communicate_71 (c_Q_send _ (hx (Or.inl rfl)).1 hj hrb _ (hq (tn x) (hx (Or.inl rfl)).1).2.1.2 (hq (tn x) (hx (Or.inl rfl)).1).2.1.1 (hq (tn x) (hx (Or.inl rfl)).1).2.2.2 (Nat.le_of_lt_succ (hq (tn x) (hx (Or.inl rfl)).1).2.2.1) (hq (tn x) (hx (Or.inl rfl)).1).1.2 (Nat.le_of_lt_succ (hq (tn x) (hx (Or.inl rfl)).1).1.1)) rfl rfl (kQ (by omega)) (show _ < 86 by omega) (by decide) (Nat.le_of_ble_eq_true rfl) hcs (fun v w' hp => ?_)
    obtain ⟨rfl, rfl⟩ := hp
    refine x_st0 ?_
    refine x_goto a 74 144 d_D_communicate_74 (by decide) ?_
    exact x_vret a qf 144 d_D_communicate_144 rfl ⟨rfl, by unfold d_comm; first | (rw [if_neg s14_9, if_neg s14_10, if_neg s14_11, if_neg s14_12, if_neg s14_13, if_neg s14_14]; done) | (rw [if_pos rfl]; done) | (rw [if_neg (by decide), if_pos rfl]; done) | (rw [if_neg (by decide), if_neg (by decide), if_pos rfl]; done) | (rw [if_neg (by decide), if_neg (by decide), if_neg (by decide), if_pos rfl]; done) | (rw [if_neg (by decide), if_neg (by decide), if_neg (by decide), if_neg (by decide), if_pos rfl]; done) | (rw [if_neg (by decide), if_neg (by decide), if_neg (by decide), if_neg (by decide), if_neg (by decide), if_pos rfl]; done)⟩
  by_cases s14_10 : o = 10
  · subst s14_10
    refine x_tableIn a 14 77 63 d_D_communicate_14 (by decide) (by decide) rfl (by decide) ?_
    refine x_aload_n a 77 d_D_communicate_77 rfl ?_
    refine x_getR a 78 f_D_22 d_D_communicate_78 rfl (by omega) (by decide) rfl ?_
    refine x_iload_n a 81 d_D_communicate_81 rfl ?_
    have hx6 := (hx (Or.inr rfl)).1
    refine x_aald3 a 82 d_D_communicate_82 rfl (by omega) (j := tn x) (hx (Or.inr rfl)).2 (hx (Or.inr rfl)).1 (by decide) (rQs (by omega)) ?_
    refine x_aload_n a 83 d_D_communicate_83 rfl ?_
    refine x_getR a 84 f_D_188 d_D_communicate_84 (kP (by omega)) (by omega) (by decide) (rP4 (by omega)) ?_
    refine x_iload a 87 d_D_communicate_87 rfl ?_
    refine x_aload_n a 89 d_D_communicate_89 rfl ?_
    refine x_getR a 90 f_D_30 d_D_communicate_90 rfl (by omega) (by decide) rfl ?_
    refine x_getI a 93 f_D_191 d_D_communicate_93 rfl (by omega) (by decide) rfl ?_
    refine x_callV a qa 96 g_D_198 d_D_communicate_96 (c_Q_receive _ (hx (Or.inr rfl)).1 hj hrb _ (hq (tn x) (hx (Or.inr rfl)).1).2.1.2 (hq (tn x) (hx (Or.inr rfl)).1).2.1.1 (hq (tn x) (hx (Or.inr rfl)).1).2.2.2 (Nat.le_of_lt_succ (hq (tn x) (hx (Or.inr rfl)).1).2.2.1) (hq (tn x) (hx (Or.inr rfl)).1).1.2 (Nat.le_of_lt_succ (hq (tn x) (hx (Or.inr rfl)).1).1.1)) rfl rfl (kQ (by omega)) (show _ < 86 by omega) (by decide) (Nat.le_of_ble_eq_true rfl) hcs (fun v w' hp => ?_)
    obtain ⟨rfl, rfl⟩ := hp
    refine x_st0 ?_
    refine x_goto a 99 144 d_D_communicate_99 (by decide) ?_
    exact x_vret a qf 144 d_D_communicate_144 rfl ⟨rfl, by unfold d_comm; first | (rw [if_neg s14_9, if_neg s14_10, if_neg s14_11, if_neg s14_12, if_neg s14_13, if_neg s14_14]; done) | (rw [if_pos rfl]; done) | (rw [if_neg (by decide), if_pos rfl]; done) | (rw [if_neg (by decide), if_neg (by decide), if_pos rfl]; done) | (rw [if_neg (by decide), if_neg (by decide), if_neg (by decide), if_pos rfl]; done) | (rw [if_neg (by decide), if_neg (by decide), if_neg (by decide), if_neg (by decide), if_pos rfl]; done) | (rw [if_neg (by decide), if_neg (by decide), if_neg (by decide), if_neg (by decide), if_neg (by decide), if_pos rfl]; done)⟩
  by_cases s14_11 : o = 11
  · subst s14_11
    refine x_tableIn a 14 102 88 d_D_communicate_14 (by decide) (by decide) rfl (by decide) ?_
    refine x_aload_n a 102 d_D_communicate_102 rfl ?_
    refine x_iload a 103 d_D_communicate_103 rfl ?_
    refine x_callV a qa 105 g_D_201 d_D_communicate_105 (c_P_takeInput _ hj hrx hin.1.2 hin.1.1 hin.2.2 (Nat.le_of_lt_succ hin.2.1)) rfl rfl (kP (by omega)) (show _ < 86 by omega) (by decide) (Nat.le_of_ble_eq_true rfl) hcs (fun v w' hp => ?_)
    obtain ⟨rfl, rfl⟩ := hp
    refine x_st0 ?_
    refine x_goto a 108 144 d_D_communicate_108 (by decide) ?_
    exact x_vret a qf 144 d_D_communicate_144 rfl ⟨rfl, by unfold d_comm; first | (rw [if_neg s14_9, if_neg s14_10, if_neg s14_11, if_neg s14_12, if_neg s14_13, if_neg s14_14]; done) | (rw [if_pos rfl]; done) | (rw [if_neg (by decide), if_pos rfl]; done) | (rw [if_neg (by decide), if_neg (by decide), if_pos rfl]; done) | (rw [if_neg (by decide), if_neg (by decide), if_neg (by decide), if_pos rfl]; done) | (rw [if_neg (by decide), if_neg (by decide), if_neg (by decide), if_neg (by decide), if_pos rfl]; done) | (rw [if_neg (by decide), if_neg (by decide), if_neg (by decide), if_neg (by decide), if_neg (by decide), if_pos rfl]; done)⟩
  by_cases s14_12 : o = 12
  · subst s14_12
    refine x_tableIn a 14 111 97 d_D_communicate_14 (by decide) (by decide) rfl (by decide) ?_
    refine x_aload_n a 111 d_D_communicate_111 rfl ?_
    refine x_aload_n a 112 d_D_communicate_112 rfl ?_
    refine x_getR a 113 f_D_188 d_D_communicate_113 (kP (by omega)) (by omega) (by decide) (rP4 (by omega)) ?_
    refine x_iload a 116 d_D_communicate_116 rfl ?_
    refine x_iald a 118 d_D_communicate_118 (kA8 (by omega)) (by omega) (j := (rg x)) rfl (by omega) (by decide) rfl ?_
    refine x_callV a qa 119 g_D_204 d_D_communicate_119 (c_P_putOut _ hj _ hou.2 hou.1) rfl rfl (kP (by omega)) (show _ < 86 by omega) (by decide) (Nat.le_of_ble_eq_true rfl) hcs (fun v w' hp => ?_)
    obtain ⟨rfl, rfl⟩ := hp
    refine x_st0 ?_
    refine x_goto a 122 144 d_D_communicate_122 (by decide) ?_
    exact x_vret a qf 144 d_D_communicate_144 rfl ⟨rfl, by unfold d_comm; first | (rw [if_neg s14_9, if_neg s14_10, if_neg s14_11, if_neg s14_12, if_neg s14_13, if_neg s14_14]; done) | (rw [if_pos rfl]; done) | (rw [if_neg (by decide), if_pos rfl]; done) | (rw [if_neg (by decide), if_neg (by decide), if_pos rfl]; done) | (rw [if_neg (by decide), if_neg (by decide), if_neg (by decide), if_pos rfl]; done) | (rw [if_neg (by decide), if_neg (by decide), if_neg (by decide), if_neg (by decide), if_pos rfl]; done) | (rw [if_neg (by decide), if_neg (by decide), if_neg (by decide), if_neg (by decide), if_neg (by decide), if_pos rfl]; done)⟩
  by_cases s14_13 : o = 13
  · subst s14_13
    refine x_tableIn a 14 125 111 d_D_communicate_14 (by decide) (by decide) rfl (by decide) ?_
    refine x_aload_n a 125 d_D_communicate_125 rfl ?_
    refine x_getR a 126 f_D_30 d_D_communicate_126 rfl (by omega) (by decide) rfl ?_
    refine x_iconst a 129 1 d_D_communicate_129 (by decide) ?_
    refine x_putI a 130 f_D_149 d_D_communicate_130 rfl (by omega) (by decide) rfl rfl rfl ?_
    refine x_goto a 133 144 d_D_communicate_133 (by decide) ?_
    exact x_vret a qf 144 d_D_communicate_144 rfl ⟨rfl, by unfold d_comm; first | (rw [if_neg s14_9, if_neg s14_10, if_neg s14_11, if_neg s14_12, if_neg s14_13, if_neg s14_14]; done) | (rw [if_pos rfl]; done) | (rw [if_neg (by decide), if_pos rfl]; done) | (rw [if_neg (by decide), if_neg (by decide), if_pos rfl]; done) | (rw [if_neg (by decide), if_neg (by decide), if_neg (by decide), if_pos rfl]; done) | (rw [if_neg (by decide), if_neg (by decide), if_neg (by decide), if_neg (by decide), if_pos rfl]; done) | (rw [if_neg (by decide), if_neg (by decide), if_neg (by decide), if_neg (by decide), if_neg (by decide), if_pos rfl]; done)⟩
  by_cases s14_14 : o = 14
  · subst s14_14
    refine x_tableIn a 14 136 122 d_D_communicate_14 (by decide) (by decide) rfl (by decide) ?_
    refine x_aload_n a 136 d_D_communicate_136 rfl ?_
    refine x_iconst a 137 0 d_D_communicate_137 (by decide) ?_
    refine x_putI a 138 f_D_146 d_D_communicate_138 (kP (by omega)) (by omega) (by decide) rfl rfl rfl ?_
    refine x_goto a 141 144 d_D_communicate_141 (by decide) ?_
    exact x_vret a qf 144 d_D_communicate_144 rfl ⟨rfl, by unfold d_comm; first | (rw [if_neg s14_9, if_neg s14_10, if_neg s14_11, if_neg s14_12, if_neg s14_13, if_neg s14_14]; done) | (rw [if_pos rfl]; done) | (rw [if_neg (by decide), if_pos rfl]; done) | (rw [if_neg (by decide), if_neg (by decide), if_pos rfl]; done) | (rw [if_neg (by decide), if_neg (by decide), if_neg (by decide), if_pos rfl]; done) | (rw [if_neg (by decide), if_neg (by decide), if_neg (by decide), if_neg (by decide), if_pos rfl]; done) | (rw [if_neg (by decide), if_neg (by decide), if_neg (by decide), if_neg (by decide), if_neg (by decide), if_pos rfl]; done)⟩
  refine x_tableOut a 14 144 d_D_communicate_14 (by (try simp (disch := omega) only [Int32.le_iff_toInt_le, Int32.lt_iff_toInt_lt, ← Int32.toInt_inj, Int32.reduceToInt, nI_1, nI_add, pk_sub, nI_toInt] at *); omega) (by decide) ?_
  exact x_vret a qf 144 d_D_communicate_144 rfl ⟨rfl, by unfold d_comm; first | (rw [if_neg s14_9, if_neg s14_10, if_neg s14_11, if_neg s14_12, if_neg s14_13, if_neg s14_14]; done) | (rw [if_pos rfl]; done) | (rw [if_neg (by decide), if_pos rfl]; done) | (rw [if_neg (by decide), if_neg (by decide), if_pos rfl]; done) | (rw [if_neg (by decide), if_neg (by decide), if_neg (by decide), if_pos rfl]; done) | (rw [if_neg (by decide), if_neg (by decide), if_neg (by decide), if_neg (by decide), if_pos rfl]; done) | (rw [if_neg (by decide), if_neg (by decide), if_neg (by decide), if_neg (by decide), if_neg (by decide), if_pos rfl]; done)⟩
set_option maxRecDepth 100000 in
set_option maxHeartbeats 4000000 in
theorem c_D_carryOut (h : Hp) {j : Nat} (hj : j < 4) (o x b : Int32) (hw : o = 5 ∨ o = 6 → Nlt (h (3 + 9 * j) 7 + h (8 + 9 * j) (rg b)) 64) (hx : o = 9 ∨ o = 10 → Nlt x 6) (hq : ∀ i, i < 6 → Nlt (h (40 + 3 * i) 3) 5 ∧ Nlt (h (41 + 3 * i) 1) 4 ∧ Nlt (h (41 + 3 * i) 2) 5) (hin : Nlt (h (9 + 9 * j) 1) 8 ∧ Nlt (h (9 + 9 * j) 2) 9) (hou : Nlt (h (3 + 9 * j) 12) (2 ^ 30)) : Cn u_D_carryOut 3 0 0 (w0 h) [.inr (some 0), .inr (some (3 + 9 * j)), .inl o, .inl x, .inl b] (fun r w' => r = none ∧ w' = w0 (d_carry h j o x b)) := by
  refine Cn.of (by decide +kernel) (Nat.le_of_ble_eq_true rfl) (fun E ad a qf => ?_)
  have qa := qf.2.2.2
  have hcs : 0 ≤ (eR E).cells ∧ 0 ≤ (eR E).slots := ⟨Nat.zero_le _, Nat.zero_le _⟩
  refine x_aload_n a 0 d_D_carryOut_0 rfl ?_
  refine x_dup a 1 d_D_carryOut_1 ?_
  refine x_getI a 2 f_D_159 d_D_carryOut_2 (kP (by omega)) (by omega) (by decide) rfl ?_
  refine x_iconst a 5 1 d_D_carryOut_5 (by decide) ?_
  refine x_iadd a 6 d_D_carryOut_6 ?_
  refine x_putI a 7 f_D_159 d_D_carryOut_7 (kP (by omega)) (by omega) (by decide) rfl rfl rfl ?_
  refine x_iload_n a 10 d_D_carryOut_10 rfl ?_
  refine x_bipush a 11 6 d_D_carryOut_11 (by decide) ?_
  refine x_icmp_gt a 13 28 d_D_carryOut_13 (by decide) (fun c13 => ?_) (fun c13 => ?_)
  · refine x_iload_n a 28 d_D_carryOut_28 rfl ?_
    refine x_bipush a 29 8 d_D_carryOut_29 (by decide) ?_
    refine x_icmp_gt a 31 45 d_D_carryOut_31 (by decide) (fun c31 => ?_) (fun c31 => ?_)
    · refine x_aload_n a 45 d_D_carryOut_45 rfl ?_
      refine x_aload_n a 46 d_D_carryOut_46 rfl ?_
      refine x_iload_n a 47 d_D_carryOut_47 rfl ?_
      refine x_iload_n a 48 d_D_carryOut_48 rfl ?_
      refine x_iload a 49 d_D_carryOut_49 rfl ?_
      refine x_callV a qa 51 g_D_182 d_D_carryOut_51 (c_D_communicate _ hj _ _ _ hx (fun i hi => by rw [up2_o _ _ _ (by omega), up2_o _ _ _ (by omega)]; exact hq i hi) (by rw [up2_o _ _ _ (by omega)]; exact hin) (by rw [up2_k _ _ _ (by decide)]; exact hou)) rfl rfl rfl (show _ < 86 by omega) (by decide) (Nat.le_of_ble_eq_true rfl) hcs (fun v w' hp => ?_)
      obtain ⟨rfl, rfl⟩ := hp
      refine x_st0 ?_
      exact x_vret a qf 54 d_D_carryOut_54 rfl ⟨rfl, by unfold d_carry; first | (rw [if_pos (Int32.not_lt.mp c13)]; done) | (rw [if_neg (Int32.not_le.mpr c13), if_pos (Int32.not_lt.mp c31)]; done) | (rw [if_neg (Int32.not_le.mpr c13), if_neg (Int32.not_le.mpr c31)]; done)⟩
    · refine x_aload_n a 34 d_D_carryOut_34 rfl ?_
      refine x_iload_n a 35 d_D_carryOut_35 rfl ?_
      refine x_iload_n a 36 d_D_carryOut_36 rfl ?_
      refine x_iload a 37 d_D_carryOut_37 rfl ?_
      refine x_callS a qa 39 g_D_179 d_D_carryOut_39 (c_D_jump _ hj _ _ _) rfl rfl (by decide) (Nat.le_of_ble_eq_true rfl) hcs (fun v w' hp => ?_)
      obtain ⟨rfl, rfl⟩ := hp
      refine x_st0 ?_
      refine x_goto a 42 54 d_D_carryOut_42 (by decide) ?_
      exact x_vret a qf 54 d_D_carryOut_54 rfl ⟨rfl, by unfold d_carry; first | (rw [if_pos (Int32.not_lt.mp c13)]; done) | (rw [if_neg (Int32.not_le.mpr c13), if_pos (Int32.not_lt.mp c31)]; done) | (rw [if_neg (Int32.not_le.mpr c13), if_neg (Int32.not_le.mpr c31)]; done)⟩
  · refine x_aload_n a 16 d_D_carryOut_16 rfl ?_
    refine x_aload_n a 17 d_D_carryOut_17 rfl ?_
    refine x_iload_n a 18 d_D_carryOut_18 rfl ?_
    refine x_iload_n a 19 d_D_carryOut_19 rfl ?_
    refine x_iload a 20 d_D_carryOut_20 rfl ?_
    refine x_callV a qa 22 g_D_176 d_D_carryOut_22 (c_D_compute _ hj _ _ _ (by rw [up2_k _ _ _ (by decide), up2_o _ _ _ (by omega)]; exact hw)) rfl rfl rfl (show _ < 86 by omega) (by decide) (Nat.le_of_ble_eq_true rfl) hcs (fun v w' hp => ?_)
    obtain ⟨rfl, rfl⟩ := hp
    refine x_st0 ?_
    refine x_goto a 25 54 d_D_carryOut_25 (by decide) ?_
    exact x_vret a qf 54 d_D_carryOut_54 rfl ⟨rfl, by unfold d_carry; first | (rw [if_pos (Int32.not_lt.mp c13)]; done) | (rw [if_neg (Int32.not_le.mpr c13), if_pos (Int32.not_lt.mp c31)]; done) | (rw [if_neg (Int32.not_le.mpr c13), if_neg (Int32.not_le.mpr c31)]; done)⟩
