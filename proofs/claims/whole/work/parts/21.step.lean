theorem c_M_message (h : Hp) {p : Nat} (hp4 : p < 4) (o x b : Int32) (hn : Nlt (h 61 25) 7) (hd : ∀ k, k < 6 → Nlt (h 68 k) 5 ∧ Nlt (h 69 k) 5) (ho : o = 9 ∨ o = 10) : Cn u_M_message 1 0 0 (w0 h) [.inr (some 61), .inl (nI p), .inl o, .inl x, .inl b] (fun v w' => v = some (nI (m_message h p o x b).2) ∧ w' = w0 (m_message h p o x b).1) := by
  rcases ho with rfl | rfl
  · exact c_M_message9 h hp4 x b hn hd
  · exact c_M_message10 h hp4 x b hn hd
theorem o_58 {o : Int32} (h1 : ¬ o < 5) (h2 : ¬ 9 ≤ o) : o = 5 ∨ o = 6 ∨ o = 7 ∨ o = 8 := by
  simp only [Int32.le_iff_toInt_le, Int32.lt_iff_toInt_lt, ← Int32.toInt_inj, Int32.reduceToInt] at *
  omega
theorem o_90 {o : Int32} (h1 : o ≤ 10) (h2 : 9 ≤ o) : o = 9 ∨ o = 10 := by
  simp only [Int32.le_iff_toInt_le, Int32.lt_iff_toInt_lt, ← Int32.toInt_inj, Int32.reduceToInt] at *
  omega
def m_do (h : Hp) (p : Nat) (o x b : Int32) : Hp × Nat := if o < 5 ∨ 10 < o then m_simple h p o x b else if o < 9 then m_inside h p o x b else m_message h p o x b
def m_step (h : Hp) (p : Nat) : Hp :=
  if mIn (h 78 p) 0 15 then
    (if (m_do h p (h 73 (16 * p + tn (h 78 p))) (h 74 (16 * p + tn (h 78 p))) (h 75 (16 * p + tn (h 78 p)))).2 = 0 then (m_do h p (h 73 (16 * p + tn (h 78 p))) (h 74 (16 * p + tn (h 78 p))) (h 75 (16 * p + tn (h 78 p)))).1
     else m_react h p (m_do h p (h 73 (16 * p + tn (h 78 p))) (h 74 (16 * p + tn (h 78 p))) (h 75 (16 * p + tn (h 78 p)))).2)
  else m_react h p 4
theorem m_do_f (h : Hp) (p : Nat) (o x b : Int32) (hf : ¬ (m_do h p o x b).2 = 0) : (m_do h p o x b).1 = h := by
  unfold m_do at hf ⊢
  split
  · rename_i hc
    rw [if_pos hc] at hf
    unfold m_simple at hf ⊢
    split
    · rfl
    · rename_i hc2
      rw [if_neg hc2] at hf
      exact absurd rfl hf
  · rename_i hc
    rw [if_neg hc] at hf
    split
    · rename_i hc2
      rw [if_pos hc2] at hf
      unfold m_inside at hf ⊢
      split
      · rfl
      · rename_i hc3
        rw [if_neg hc3] at hf
        exact absurd rfl hf
    · rename_i hc2
      rw [if_neg hc2] at hf
      unfold m_message at hf ⊢
      by_cases hc3 : mIn x 0 (h 61 25 - 1) ∧ (if o = 9 then h 66 (tn x) else h 67 (tn x)) = nI p
      · rw [if_pos hc3] at hf
        exact absurd rfl hf
      · rw [if_neg hc3]
theorem m_do_le (h : Hp) (p : Nat) (o x b : Int32) : (m_do h p o x b).2 ≤ 3 := by
  unfold m_do m_simple m_inside m_message
  repeat' split
  all_goals first | exact (by decide : 3 ≤ 3) | exact (by decide : 0 ≤ 3) | exact (by decide : 1 ≤ 3) | exact (by decide : 2 ≤ 3)
set_option maxRecDepth 100000 in
set_option maxHeartbeats 4000000 in
theorem l_M_step {E : En} {ad : Nat → Nat} {h : Hp} {n0 : Nat} {Post : Option Int32 → Wd → Prop} (a : Amb u_M_step 2 E) (qf : Fin Post n0 ad 0 0 E) (qa : va_AO R_2 (eS E) ∧ va_AO R_3 (eS E)) (hcs : 0 ≤ (eR E).cells ∧ 0 ≤ (eR E).slots) {g : Hp} {p c : Nat} (hp4 : p < 4) (hn : Nlt (h 61 25) 7) (hr : mReg h p) (hc : c ≤ 4) (h0 : c = 0 → Post none (w0 g)) (h1 : ¬ c = 0 → g = h ∧ Post none (w0 (m_react h p c))) : X E 0 0 ad (w0 g) 146 [(0, .inr (some 61)), (1, .inl (nI p))] [.inl (nI c)] := by
  refine x_istore_n a 146 d_M_step_146 (by decide) ?_
  refine x_iload_n a 147 d_M_step_147 rfl ?_
  refine x_if_le a 148 157 d_M_step_148 (by decide) (fun c148 => ?_) (fun c148 => ?_)
  · exact x_vret a qf 157 d_M_step_157 rfl (h0 (by (try simp (disch := omega) only [Int32.le_iff_toInt_le, Int32.lt_iff_toInt_lt, ← Int32.toInt_inj, Int32.reduceToInt, nI_1, nI_add, pk_sub, nI_toInt] at *); omega))
  · have hc0 : ¬ c = 0 := (by (try simp (disch := omega) only [Int32.le_iff_toInt_le, Int32.lt_iff_toInt_lt, ← Int32.toInt_inj, Int32.reduceToInt, nI_1, nI_add, pk_sub, nI_toInt] at *); omega)
    obtain ⟨rfl, h2⟩ := h1 hc0
    refine x_aload_n a 151 d_M_step_151 rfl ?_
    refine x_iload_n a 152 d_M_step_152 rfl ?_
    refine x_iload_n a 153 d_M_step_153 rfl ?_
    refine x_callV a qa 154 g_M_135 d_M_step_154 (c_M_react _ hp4 (by omega) hc hn hr) rfl rfl rfl (show _ < 86 by omega) (by decide) (Nat.le_of_ble_eq_true rfl) hcs (fun v w' hp => ?_)
    obtain ⟨rfl, rfl⟩ := hp
    refine x_st0 ?_
    exact x_vret a qf 157 d_M_step_157 rfl h2
set_option maxRecDepth 100000 in
set_option maxHeartbeats 4000000 in
theorem c_M_step (h : Hp) {p : Nat} (hp4 : p < 4) (hin : Nlt (h 82 p) 9) (hou : Nlt (h 84 p) (2 ^ 30)) (hn : Nlt (h 61 25) 7) (hr : mReg h p) (hd : ∀ k, k < 6 → Nlt (h 68 k) 5 ∧ Nlt (h 69 k) 5) : Cn u_M_step 2 0 0 (w0 h) [.inr (some 61), .inl (nI p)] (fun r w' => r = none ∧ w' = w0 (m_step h p)) := by
  refine Cn.of (by decide +kernel) (Nat.le_of_ble_eq_true rfl) (fun E ad a qf => ?_)
  have qa := qf.2.2.2
  have hcs : 0 ≤ (eR E).cells ∧ 0 ≤ (eR E).slots := ⟨Nat.zero_le _, Nat.zero_le _⟩
  obtain ⟨pl, hpl⟩ : ∃ z, z = h 78 p := ⟨_, rfl⟩
  refine x_aload_n a 0 d_M_step_0 rfl ?_
  refine x_getR a 1 f_M_58 d_M_step_1 rfl (by omega) (by decide) (o' := 78) rfl ?_
  refine x_iload_n a 4 d_M_step_4 rfl ?_
  refine x_iald a 5 d_M_step_5 rfl (by omega) (j := p) rfl (by omega) (by decide) (v := pl) hpl.symm ?_
  refine x_istore_n a 6 d_M_step_6 (by decide) ?_
  refine x_iconst a 7 4 d_M_step_7 (by decide) ?_
  refine x_istore_n a 8 d_M_step_8 (by decide) ?_
  refine x_iload_n a 9 d_M_step_9 rfl ?_
  refine x_iconst a 10 0 d_M_step_10 (by decide) ?_
  refine x_bipush a 11 15 d_M_step_11 (by decide) ?_
  refine x_callS a qa 13 g_M_83 d_M_step_13 (c_M_in _ _ _ _) rfl rfl (by decide) (Nat.le_of_ble_eq_true rfl) hcs (fun v w' hp => ?_)
  obtain ⟨rfl, rfl⟩ := hp
  refine x_st1 ?_
  refine x_ifB_eq a 16 147 d_M_step_16 (by decide) (fun c16 => ?_) (fun c16 => ?_)
  · refine x_iload_n a 147 d_M_step_147 rfl ?_
    refine x_if_le a 148 157 d_M_step_148 (by decide) (fun z => absurd z (by decide)) (fun _ => ?_)
    refine x_aload_n a 151 d_M_step_151 rfl ?_
    refine x_iload_n a 152 d_M_step_152 rfl ?_
    refine x_iload_n a 153 d_M_step_153 rfl ?_
    refine x_callV a qa 154 g_M_135 d_M_step_154 (c_M_react _ (f := 4) hp4 (by decide) (by decide) hn hr) rfl rfl rfl (show _ < 86 by omega) (by decide) (Nat.le_of_ble_eq_true rfl) hcs (fun v w' hp => ?_)
    obtain ⟨rfl, rfl⟩ := hp
    refine x_st0 ?_
    exact x_vret a qf 157 d_M_step_157 rfl ⟨rfl, by unfold m_step; rw [← hpl, if_neg c16]⟩
  · obtain ⟨n, hn16, rfl⟩ := vp_in_of (x := pl) (n := 16) (vp_in_iff.mpr (by have z1 := c16.1; have z2 := c16.2; (try simp (disch := omega) only [Int32.le_iff_toInt_le, Int32.lt_iff_toInt_lt, ← Int32.toInt_inj, Int32.reduceToInt, nI_1, nI_add, pk_sub, nI_toInt] at *); omega)) (by decide)
    refine x_bipush a 19 16 d_M_step_19 (by decide) ?_
    refine x_iload_n a 21 d_M_step_21 rfl ?_
    refine x_imul a 22 d_M_step_22 ?_
    refine x_iload_n a 23 d_M_step_23 rfl ?_
    refine x_iadd a 24 d_M_step_24 ?_
    refine x_push (ix_n (k := 16) (K := 16) rfl p n) ?_
    refine x_istore a 25 d_M_step_25 (by decide) ?_
    refine x_aload_n a 27 d_M_step_27 rfl ?_
    refine x_getR a 28 f_M_43 d_M_step_28 rfl (by omega) (by decide) (o' := 73) rfl ?_
    refine x_iload a 31 d_M_step_31 rfl ?_
    refine x_iald a 33 d_M_step_33 rfl (by omega) (j := (16 * p + n)) rfl (by omega) (by decide) rfl ?_
    refine x_iconst a 34 5 d_M_step_34 (by decide) ?_
    refine x_icmp_lt a 35 50 d_M_step_35 (by decide) (fun c35 => ?_) (fun c35 => ?_)
    · refine x_aload_n a 50 d_M_step_50 rfl ?_
      refine x_iload_n a 51 d_M_step_51 rfl ?_
      refine x_aload_n a 52 d_M_step_52 rfl ?_
      refine x_getR a 53 f_M_43 d_M_step_53 rfl (by omega) (by decide) (o' := 73) rfl ?_
      refine x_iload a 56 d_M_step_56 rfl ?_
      refine x_iald a 58 d_M_step_58 rfl (by omega) (j := (16 * p + n)) rfl (by omega) (by decide) rfl ?_
      refine x_aload_n a 59 d_M_step_59 rfl ?_
      refine x_getR a 60 f_M_46 d_M_step_60 rfl (by omega) (by decide) (o' := 74) rfl ?_
      refine x_iload a 63 d_M_step_63 rfl ?_
      refine x_iald a 65 d_M_step_65 rfl (by omega) (j := (16 * p + n)) rfl (by omega) (by decide) rfl ?_
      refine x_aload_n a 66 d_M_step_66 rfl ?_
      refine x_getR a 67 f_M_49 d_M_step_67 rfl (by omega) (by decide) (o' := 75) rfl ?_
      refine x_iload a 70 d_M_step_70 rfl ?_
      refine x_iald a 72 d_M_step_72 rfl (by omega) (j := (16 * p + n)) rfl (by omega) (by decide) rfl ?_
      refine x_callV a qa 73 g_M_125 d_M_step_73 (c_M_simple _ hp4 _ _ _ hin hou) rfl rfl rfl (show _ < 86 by omega) (by decide) (Nat.le_of_ble_eq_true rfl) hcs (fun v w' hp => ?_)
      obtain ⟨rfl, rfl⟩ := hp
      have hq : m_simple h p (h 73 (16 * p + n)) (h 74 (16 * p + n)) (h 75 (16 * p + n)) = (m_do h p (h 73 (16 * p + n)) (h 74 (16 * p + n)) (h 75 (16 * p + n))) := by unfold m_do; rw [if_pos (by first | exact Or.inl c35 | exact Or.inr (Int32.not_le.mp c47))]
      rw [hq]
      refine x_st1 ?_
      refine x_goto a 76 146 d_M_step_76 (by decide) ?_
      refine x_lv [(0, .inr (some 61)), (1, .inl (nI p))] (List.forall_mem_cons.mpr ⟨rfl, List.forall_mem_cons.mpr ⟨rfl, fun _ z => absurd z List.not_mem_nil⟩⟩) ?_
      exact l_M_step (h := h) a qf qa hcs hp4 hn hr (by have := m_do_le h p (h 73 (16 * p + n)) (h 74 (16 * p + n)) (h 75 (16 * p + n)); omega) (fun z => ⟨rfl, by unfold m_step; rw [← hpl, tn_nI (by omega), if_pos c16]; rw [if_pos z]⟩) (fun z => ⟨m_do_f _ _ _ _ _ z, rfl, by unfold m_step; rw [← hpl, tn_nI (by omega), if_pos c16]; rw [if_neg z]⟩)
    · refine x_aload_n a 38 d_M_step_38 rfl ?_
      refine x_getR a 39 f_M_43 d_M_step_39 rfl (by omega) (by decide) (o' := 73) rfl ?_
      refine x_iload a 42 d_M_step_42 rfl ?_
      refine x_iald a 44 d_M_step_44 rfl (by omega) (j := (16 * p + n)) rfl (by omega) (by decide) rfl ?_
      refine x_bipush a 45 10 d_M_step_45 (by decide) ?_
      refine x_icmp_le a 47 79 d_M_step_47 (by decide) (fun c47 => ?_) (fun c47 => ?_)
      · refine x_aload_n a 79 d_M_step_79 rfl ?_
        refine x_getR a 80 f_M_43 d_M_step_80 rfl (by omega) (by decide) (o' := 73) rfl ?_
        refine x_iload a 83 d_M_step_83 rfl ?_
        refine x_iald a 85 d_M_step_85 rfl (by omega) (j := (16 * p + n)) rfl (by omega) (by decide) rfl ?_
        refine x_bipush a 86 9 d_M_step_86 (by decide) ?_
        refine x_icmp_ge a 88 120 d_M_step_88 (by decide) (fun c88 => ?_) (fun c88 => ?_)
        · refine x_aload_n a 120 d_M_step_120 rfl ?_
          refine x_iload_n a 121 d_M_step_121 rfl ?_
          refine x_aload_n a 122 d_M_step_122 rfl ?_
          refine x_getR a 123 f_M_43 d_M_step_123 rfl (by omega) (by decide) (o' := 73) rfl ?_
          refine x_iload a 126 d_M_step_126 rfl ?_
          refine x_iald a 128 d_M_step_128 rfl (by omega) (j := (16 * p + n)) rfl (by omega) (by decide) rfl ?_
          refine x_aload_n a 129 d_M_step_129 rfl ?_
          refine x_getR a 130 f_M_46 d_M_step_130 rfl (by omega) (by decide) (o' := 74) rfl ?_
          refine x_iload a 133 d_M_step_133 rfl ?_
          refine x_iald a 135 d_M_step_135 rfl (by omega) (j := (16 * p + n)) rfl (by omega) (by decide) rfl ?_
          refine x_aload_n a 136 d_M_step_136 rfl ?_
          refine x_getR a 137 f_M_49 d_M_step_137 rfl (by omega) (by decide) (o' := 75) rfl ?_
          refine x_iload a 140 d_M_step_140 rfl ?_
          refine x_iald a 142 d_M_step_142 rfl (by omega) (j := (16 * p + n)) rfl (by omega) (by decide) rfl ?_
          refine x_callV a qa 143 g_M_132 d_M_step_143 (c_M_message _ hp4 _ _ _ hn hd (o_90 c47 c88)) rfl rfl rfl (show _ < 86 by omega) (by decide) (Nat.le_of_ble_eq_true rfl) hcs (fun v w' hp => ?_)
          obtain ⟨rfl, rfl⟩ := hp
          have hq : m_message h p (h 73 (16 * p + n)) (h 74 (16 * p + n)) (h 75 (16 * p + n)) = (m_do h p (h 73 (16 * p + n)) (h 74 (16 * p + n)) (h 75 (16 * p + n))) := by unfold m_do; rw [if_neg (by rintro (z | z); exact c35 z; exact absurd z (Int32.not_lt.mpr c47)), if_neg (Int32.not_lt.mpr c88)]
          rw [hq]
          refine x_st1 ?_
          refine x_lv [(0, .inr (some 61)), (1, .inl (nI p))] (List.forall_mem_cons.mpr ⟨rfl, List.forall_mem_cons.mpr ⟨rfl, fun _ z => absurd z List.not_mem_nil⟩⟩) ?_
          exact l_M_step (h := h) a qf qa hcs hp4 hn hr (by have := m_do_le h p (h 73 (16 * p + n)) (h 74 (16 * p + n)) (h 75 (16 * p + n)); omega) (fun z => ⟨rfl, by unfold m_step; rw [← hpl, tn_nI (by omega), if_pos c16]; rw [if_pos z]⟩) (fun z => ⟨m_do_f _ _ _ _ _ z, rfl, by unfold m_step; rw [← hpl, tn_nI (by omega), if_pos c16]; rw [if_neg z]⟩)
        · refine x_aload_n a 91 d_M_step_91 rfl ?_
          refine x_iload_n a 92 d_M_step_92 rfl ?_
          refine x_aload_n a 93 d_M_step_93 rfl ?_
          refine x_getR a 94 f_M_43 d_M_step_94 rfl (by omega) (by decide) (o' := 73) rfl ?_
          refine x_iload a 97 d_M_step_97 rfl ?_
          refine x_iald a 99 d_M_step_99 rfl (by omega) (j := (16 * p + n)) rfl (by omega) (by decide) rfl ?_
          refine x_aload_n a 100 d_M_step_100 rfl ?_
          refine x_getR a 101 f_M_46 d_M_step_101 rfl (by omega) (by decide) (o' := 74) rfl ?_
          refine x_iload a 104 d_M_step_104 rfl ?_
          refine x_iald a 106 d_M_step_106 rfl (by omega) (j := (16 * p + n)) rfl (by omega) (by decide) rfl ?_
          refine x_aload_n a 107 d_M_step_107 rfl ?_
          refine x_getR a 108 f_M_49 d_M_step_108 rfl (by omega) (by decide) (o' := 75) rfl ?_
          refine x_iload a 111 d_M_step_111 rfl ?_
          refine x_iald a 113 d_M_step_113 rfl (by omega) (j := (16 * p + n)) rfl (by omega) (by decide) rfl ?_
          refine x_callV a qa 114 g_M_129 d_M_step_114 (c_M_inside _ hp4 _ _ _ hr (o_58 c35 c88)) rfl rfl rfl (show _ < 86 by omega) (by decide) (Nat.le_of_ble_eq_true rfl) hcs (fun v w' hp => ?_)
          obtain ⟨rfl, rfl⟩ := hp
          have hq : m_inside h p (h 73 (16 * p + n)) (h 74 (16 * p + n)) (h 75 (16 * p + n)) = (m_do h p (h 73 (16 * p + n)) (h 74 (16 * p + n)) (h 75 (16 * p + n))) := by unfold m_do; rw [if_neg (by rintro (z | z); exact c35 z; exact absurd z (Int32.not_lt.mpr c47)), if_pos (Int32.not_le.mp c88)]
          rw [hq]
          refine x_st1 ?_
          refine x_goto a 117 146 d_M_step_117 (by decide) ?_
          refine x_lv [(0, .inr (some 61)), (1, .inl (nI p))] (List.forall_mem_cons.mpr ⟨rfl, List.forall_mem_cons.mpr ⟨rfl, fun _ z => absurd z List.not_mem_nil⟩⟩) ?_
          exact l_M_step (h := h) a qf qa hcs hp4 hn hr (by have := m_do_le h p (h 73 (16 * p + n)) (h 74 (16 * p + n)) (h 75 (16 * p + n)); omega) (fun z => ⟨rfl, by unfold m_step; rw [← hpl, tn_nI (by omega), if_pos c16]; rw [if_pos z]⟩) (fun z => ⟨m_do_f _ _ _ _ _ z, rfl, by unfold m_step; rw [← hpl, tn_nI (by omega), if_pos c16]; rw [if_neg z]⟩)
      · refine x_aload_n a 50 d_M_step_50 rfl ?_
        refine x_iload_n a 51 d_M_step_51 rfl ?_
        refine x_aload_n a 52 d_M_step_52 rfl ?_
        refine x_getR a 53 f_M_43 d_M_step_53 rfl (by omega) (by decide) (o' := 73) rfl ?_
        refine x_iload a 56 d_M_step_56 rfl ?_
        refine x_iald a 58 d_M_step_58 rfl (by omega) (j := (16 * p + n)) rfl (by omega) (by decide) rfl ?_
        refine x_aload_n a 59 d_M_step_59 rfl ?_
        refine x_getR a 60 f_M_46 d_M_step_60 rfl (by omega) (by decide) (o' := 74) rfl ?_
        refine x_iload a 63 d_M_step_63 rfl ?_
        refine x_iald a 65 d_M_step_65 rfl (by omega) (j := (16 * p + n)) rfl (by omega) (by decide) rfl ?_
        refine x_aload_n a 66 d_M_step_66 rfl ?_
        refine x_getR a 67 f_M_49 d_M_step_67 rfl (by omega) (by decide) (o' := 75) rfl ?_
        refine x_iload a 70 d_M_step_70 rfl ?_
        refine x_iald a 72 d_M_step_72 rfl (by omega) (j := (16 * p + n)) rfl (by omega) (by decide) rfl ?_
        refine x_callV a qa 73 g_M_125 d_M_step_73 (c_M_simple _ hp4 _ _ _ hin hou) rfl rfl rfl (show _ < 86 by omega) (by decide) (Nat.le_of_ble_eq_true rfl) hcs (fun v w' hp => ?_)
        obtain ⟨rfl, rfl⟩ := hp
        have hq : m_simple h p (h 73 (16 * p + n)) (h 74 (16 * p + n)) (h 75 (16 * p + n)) = (m_do h p (h 73 (16 * p + n)) (h 74 (16 * p + n)) (h 75 (16 * p + n))) := by unfold m_do; rw [if_pos (by first | exact Or.inl c35 | exact Or.inr (Int32.not_le.mp c47))]
        rw [hq]
        refine x_st1 ?_
        refine x_goto a 76 146 d_M_step_76 (by decide) ?_
        refine x_lv [(0, .inr (some 61)), (1, .inl (nI p))] (List.forall_mem_cons.mpr ⟨rfl, List.forall_mem_cons.mpr ⟨rfl, fun _ z => absurd z List.not_mem_nil⟩⟩) ?_
        exact l_M_step (h := h) a qf qa hcs hp4 hn hr (by have := m_do_le h p (h 73 (16 * p + n)) (h 74 (16 * p + n)) (h 75 (16 * p + n)); omega) (fun z => ⟨rfl, by unfold m_step; rw [← hpl, tn_nI (by omega), if_pos c16]; rw [if_pos z]⟩) (fun z => ⟨m_do_f _ _ _ _ _ z, rfl, by unfold m_step; rw [← hpl, tn_nI (by omega), if_pos c16]; rw [if_neg z]⟩)
