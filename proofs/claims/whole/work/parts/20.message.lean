theorem in_mem {h : Hp} {p : Nat} {y : Int32} (hr : mReg h p) (hy : mIn y 0 (h 63 p - 1)) : Nlt (h 62 p + y) 64 ∧ 0 ≤ h 62 p := by
  rcases hr with ⟨-, e2⟩ | ⟨e1, e2, e3⟩
  · exfalso
    have h1 := hy.1
    have h2 := hy.2
    rw [e2] at h2
    rw [Int32.le_iff_toInt_le] at h1 h2
    have e : (0 - 1 : Int32).toInt = -1 := by decide
    have e' : (0 : Int32).toInt = 0 := rfl
    omega
  · have h1 := in_ports (n := 32) e2 (by omega) hy
    have h2 := hy.1
    have h3 := hy.2
    have a1 := e2.int (by decide)
    have a2 := tn_int h2
    have a3 := e2.1
    rw [Int32.le_iff_toInt_le, Int32.toInt_sub, a1, show (1 : Int32).toInt = 1 from rfl, Int.bmod_eq_of_le (by omega) (by omega)] at h3
    refine ⟨Nlt.of (k := tn (h 62 p) + tn y) ?_ (by omega) (by decide), ?_⟩
    · rw [← nI_add, ← e1.2, ← h1.2]
    · rw [e1.2]
      exact nI_pos' (by have := e1.1; omega)
def m_ins (g : Hp) (p : Nat) (o : Int32) (x : Nat) (b y : Int32) : Hp :=
  if o = 5 then up2 g 77 x (g 76 (tn (g 62 p + y)))
  else if o = 6 then up2 g 76 (tn (g 62 p + y)) (g 77 x)
  else if o = 7 ∨ ¬ g 77 x = 0 then up2 g 78 p b else g
def m_inside (h : Hp) (p : Nat) (o x b : Int32) : Hp × Nat :=
  if o < 7 ∧ ¬ mIn (h 77 (4 * p + rg b)) 0 (h 63 p - 1) then (h, 1) else (m_ins (m_go h p) p o (4 * p + rg x) b (h 77 (4 * p + rg b)), 0)
set_option maxRecDepth 100000 in
set_option maxHeartbeats 4000000 in
theorem c_M_inside5 (h : Hp) {p : Nat} (hp4 : p < 4) (x b : Int32) (hr : mReg h p) : Cn u_M_inside 1 0 0 (w0 h) [.inr (some 61), .inl (nI p), .inl 5, .inl x, .inl b] (fun v w' => v = some (nI (m_inside h p 5 x b).2) ∧ w' = w0 (m_inside h p 5 x b).1) := by
  refine Cn.of (by decide +kernel) (Nat.le_of_ble_eq_true rfl) (fun E ad a qf => ?_)
  have qa := qf.2.2.2
  have hcs : 0 ≤ (eR E).cells ∧ 0 ≤ (eR E).slots := ⟨Nat.zero_le _, Nat.zero_le _⟩
  have hrx := rg_lt x
  have hrb := rg_lt b
  refine x_iconst a 0 4 d_M_inside_0 (by decide) ?_
  refine x_iload_n a 1 d_M_inside_1 rfl ?_
  refine x_imul a 2 d_M_inside_2 ?_
  refine x_iload_n a 3 d_M_inside_3 rfl ?_
  refine x_iconst a 4 3 d_M_inside_4 (by decide) ?_
  refine x_iand a 5 d_M_inside_5 ?_
  refine x_iadd a 6 d_M_inside_6 ?_
  refine x_push (ix_r p x) ?_
  refine x_istore a 7 d_M_inside_7 (by decide) ?_
  refine x_aload_n a 9 d_M_inside_9 rfl ?_
  refine x_getR a 10 f_M_55 d_M_inside_10 rfl (by omega) (by decide) (o' := 77) rfl ?_
  refine x_iconst a 13 4 d_M_inside_13 (by decide) ?_
  refine x_iload_n a 14 d_M_inside_14 rfl ?_
  refine x_imul a 15 d_M_inside_15 ?_
  refine x_iload a 16 d_M_inside_16 rfl ?_
  refine x_iconst a 18 3 d_M_inside_18 (by decide) ?_
  refine x_iand a 19 d_M_inside_19 ?_
  refine x_iadd a 20 d_M_inside_20 ?_
  refine x_push (ix_r p b) ?_
  refine x_iald a 21 d_M_inside_21 rfl (by omega) (j := (4 * p + rg b)) rfl (by omega) (by decide) rfl ?_
  refine x_istore a 22 d_M_inside_22 (by decide) ?_
  refine x_iload_n a 24 d_M_inside_24 rfl ?_
  refine x_bipush a 25 7 d_M_inside_25 (by decide) ?_
  refine x_icmp_ge a 27 49 d_M_inside_27 (by decide) (fun z => absurd z (by decide)) (fun _ => ?_)
  refine x_iload a 30 d_M_inside_30 rfl ?_
  refine x_iconst a 32 0 d_M_inside_32 (by decide) ?_
  refine x_aload_n a 33 d_M_inside_33 rfl ?_
  refine x_getR a 34 f_M_13 d_M_inside_34 rfl (by omega) (by decide) (o' := 63) rfl ?_
  refine x_iload_n a 37 d_M_inside_37 rfl ?_
  refine x_iald a 38 d_M_inside_38 rfl (by omega) (j := p) rfl (by omega) (by decide) rfl ?_
  refine x_iconst a 39 1 d_M_inside_39 (by decide) ?_
  refine x_isub a 40 d_M_inside_40 ?_
  refine x_callS a qa 41 g_M_83 d_M_inside_41 (c_M_in _ _ _ _) rfl rfl (by decide) (Nat.le_of_ble_eq_true rfl) hcs (fun v w' hp => ?_)
  obtain ⟨rfl, rfl⟩ := hp
  refine x_st1 ?_
  refine x_ifB_ne a 44 49 d_M_inside_44 (by decide) (fun c44 => ?_) (fun c44 => ?_)
  · have hm := in_mem hr c44
    refine x_aload_n a 49 d_M_inside_49 rfl ?_
    refine x_iload_n a 50 d_M_inside_50 rfl ?_
    refine x_callV a qa 51 g_M_139 d_M_inside_51 (c_M_goOn _ hp4) rfl rfl rfl (show _ < 86 by omega) (by decide) (Nat.le_of_ble_eq_true rfl) hcs (fun v w' hp => ?_)
    obtain ⟨rfl, rfl⟩ := hp
    refine x_st0 ?_
    refine x_iload_n a 54 d_M_inside_54 rfl ?_
    refine x_iconst a 55 5 d_M_inside_55 (by decide) ?_
    refine x_icmp_ne a 56 80 d_M_inside_56 (by decide) (fun z => absurd z (by decide)) (fun _ => ?_)
    refine x_aload_n a 59 d_M_inside_59 rfl ?_
    refine x_getR a 60 f_M_55 d_M_inside_60 rfl (by omega) (by decide) (o' := 77) rfl ?_
    refine x_iload a 63 d_M_inside_63 rfl ?_
    refine x_aload_n a 65 d_M_inside_65 rfl ?_
    refine x_getR a 66 f_M_52 d_M_inside_66 rfl (by omega) (by decide) (o' := 76) rfl ?_
    refine x_aload_n a 69 d_M_inside_69 rfl ?_
    refine x_getR a 70 f_M_7 d_M_inside_70 rfl (by omega) (by decide) (o' := 62) rfl ?_
    refine x_iload_n a 73 d_M_inside_73 rfl ?_
    refine x_iald a 74 d_M_inside_74 rfl (by omega) (j := p) rfl (by omega) (by decide) (v := h 62 p) (by rw [m_go_o _ (by omega)]) ?_
    refine x_iload a 75 d_M_inside_75 rfl ?_
    refine x_iadd a 77 d_M_inside_77 ?_
    refine x_iald a 78 d_M_inside_78 rfl (by omega) (j := tn (h 62 p + h 77 (4 * p + rg b))) hm.1.2 hm.1.1 (by decide) rfl ?_
    refine x_iast a 79 d_M_inside_79 rfl (by omega) (j := (4 * p + rg x)) rfl (by omega) (by decide) ?_
    refine x_iload_n a 80 d_M_inside_80 rfl ?_
    refine x_bipush a 81 6 d_M_inside_81 (by decide) ?_
    refine x_icmp_ne a 83 107 d_M_inside_83 (by decide) (fun _ => ?_) (fun z => absurd z (by decide))
    refine x_iload_n a 107 d_M_inside_107 rfl ?_
    refine x_bipush a 108 7 d_M_inside_108 (by decide) ?_
    refine x_icmp_eq a 110 129 d_M_inside_110 (by decide) (fun z => absurd z (by decide)) (fun _ => ?_)
    refine x_iload_n a 113 d_M_inside_113 rfl ?_
    refine x_bipush a 114 8 d_M_inside_114 (by decide) ?_
    refine x_icmp_ne a 116 137 d_M_inside_116 (by decide) (fun _ => ?_) (fun z => absurd z (by decide))
    refine x_iconst a 137 0 d_M_inside_137 (by decide) ?_
    exact x_iret a qf 138 d_M_inside_138 rfl ⟨by unfold m_inside; rw [if_neg (fun z => z.2 c44)]; rfl, by unfold m_inside; rw [if_neg (fun z => z.2 c44)]; unfold m_ins; rw [m_go_o _ (by omega : 62 ≠ 78)]; rw [if_pos rfl]⟩
  · refine x_iconst a 47 1 d_M_inside_47 (by decide) ?_
    exact x_iret a qf 48 d_M_inside_48 rfl ⟨by unfold m_inside; rw [if_pos ⟨by decide, c44⟩]; rfl, by unfold m_inside; rw [if_pos ⟨by decide, c44⟩]⟩
set_option maxRecDepth 100000 in
set_option maxHeartbeats 4000000 in
theorem c_M_inside6 (h : Hp) {p : Nat} (hp4 : p < 4) (x b : Int32) (hr : mReg h p) : Cn u_M_inside 1 0 0 (w0 h) [.inr (some 61), .inl (nI p), .inl 6, .inl x, .inl b] (fun v w' => v = some (nI (m_inside h p 6 x b).2) ∧ w' = w0 (m_inside h p 6 x b).1) := by
  refine Cn.of (by decide +kernel) (Nat.le_of_ble_eq_true rfl) (fun E ad a qf => ?_)
  have qa := qf.2.2.2
  have hcs : 0 ≤ (eR E).cells ∧ 0 ≤ (eR E).slots := ⟨Nat.zero_le _, Nat.zero_le _⟩
  have hrx := rg_lt x
  have hrb := rg_lt b
  refine x_iconst a 0 4 d_M_inside_0 (by decide) ?_
  refine x_iload_n a 1 d_M_inside_1 rfl ?_
  refine x_imul a 2 d_M_inside_2 ?_
  refine x_iload_n a 3 d_M_inside_3 rfl ?_
  refine x_iconst a 4 3 d_M_inside_4 (by decide) ?_
  refine x_iand a 5 d_M_inside_5 ?_
  refine x_iadd a 6 d_M_inside_6 ?_
  refine x_push (ix_r p x) ?_
  refine x_istore a 7 d_M_inside_7 (by decide) ?_
  refine x_aload_n a 9 d_M_inside_9 rfl ?_
  refine x_getR a 10 f_M_55 d_M_inside_10 rfl (by omega) (by decide) (o' := 77) rfl ?_
  refine x_iconst a 13 4 d_M_inside_13 (by decide) ?_
  refine x_iload_n a 14 d_M_inside_14 rfl ?_
  refine x_imul a 15 d_M_inside_15 ?_
  refine x_iload a 16 d_M_inside_16 rfl ?_
  refine x_iconst a 18 3 d_M_inside_18 (by decide) ?_
  refine x_iand a 19 d_M_inside_19 ?_
  refine x_iadd a 20 d_M_inside_20 ?_
  refine x_push (ix_r p b) ?_
  refine x_iald a 21 d_M_inside_21 rfl (by omega) (j := (4 * p + rg b)) rfl (by omega) (by decide) rfl ?_
  refine x_istore a 22 d_M_inside_22 (by decide) ?_
  refine x_iload_n a 24 d_M_inside_24 rfl ?_
  refine x_bipush a 25 7 d_M_inside_25 (by decide) ?_
  refine x_icmp_ge a 27 49 d_M_inside_27 (by decide) (fun z => absurd z (by decide)) (fun _ => ?_)
  refine x_iload a 30 d_M_inside_30 rfl ?_
  refine x_iconst a 32 0 d_M_inside_32 (by decide) ?_
  refine x_aload_n a 33 d_M_inside_33 rfl ?_
  refine x_getR a 34 f_M_13 d_M_inside_34 rfl (by omega) (by decide) (o' := 63) rfl ?_
  refine x_iload_n a 37 d_M_inside_37 rfl ?_
  refine x_iald a 38 d_M_inside_38 rfl (by omega) (j := p) rfl (by omega) (by decide) rfl ?_
  refine x_iconst a 39 1 d_M_inside_39 (by decide) ?_
  refine x_isub a 40 d_M_inside_40 ?_
  refine x_callS a qa 41 g_M_83 d_M_inside_41 (c_M_in _ _ _ _) rfl rfl (by decide) (Nat.le_of_ble_eq_true rfl) hcs (fun v w' hp => ?_)
  obtain ⟨rfl, rfl⟩ := hp
  refine x_st1 ?_
  refine x_ifB_ne a 44 49 d_M_inside_44 (by decide) (fun c44 => ?_) (fun c44 => ?_)
  · have hm := in_mem hr c44
    refine x_aload_n a 49 d_M_inside_49 rfl ?_
    refine x_iload_n a 50 d_M_inside_50 rfl ?_
    refine x_callV a qa 51 g_M_139 d_M_inside_51 (c_M_goOn _ hp4) rfl rfl rfl (show _ < 86 by omega) (by decide) (Nat.le_of_ble_eq_true rfl) hcs (fun v w' hp => ?_)
    obtain ⟨rfl, rfl⟩ := hp
    refine x_st0 ?_
    refine x_iload_n a 54 d_M_inside_54 rfl ?_
    refine x_iconst a 55 5 d_M_inside_55 (by decide) ?_
    refine x_icmp_ne a 56 80 d_M_inside_56 (by decide) (fun _ => ?_) (fun z => absurd z (by decide))
    refine x_iload_n a 80 d_M_inside_80 rfl ?_
    refine x_bipush a 81 6 d_M_inside_81 (by decide) ?_
    refine x_icmp_ne a 83 107 d_M_inside_83 (by decide) (fun z => absurd z (by decide)) (fun _ => ?_)
    refine x_aload_n a 86 d_M_inside_86 rfl ?_
    refine x_getR a 87 f_M_52 d_M_inside_87 rfl (by omega) (by decide) (o' := 76) rfl ?_
    refine x_aload_n a 90 d_M_inside_90 rfl ?_
    refine x_getR a 91 f_M_7 d_M_inside_91 rfl (by omega) (by decide) (o' := 62) rfl ?_
    refine x_iload_n a 94 d_M_inside_94 rfl ?_
    refine x_iald a 95 d_M_inside_95 rfl (by omega) (j := p) rfl (by omega) (by decide) (v := h 62 p) (by rw [m_go_o _ (by omega)]) ?_
    refine x_iload a 96 d_M_inside_96 rfl ?_
    refine x_iadd a 98 d_M_inside_98 ?_
    refine x_aload_n a 99 d_M_inside_99 rfl ?_
    refine x_getR a 100 f_M_55 d_M_inside_100 rfl (by omega) (by decide) (o' := 77) rfl ?_
    refine x_iload a 103 d_M_inside_103 rfl ?_
    refine x_iald a 105 d_M_inside_105 rfl (by omega) (j := (4 * p + rg x)) rfl (by omega) (by decide) rfl ?_
    refine x_iast a 106 d_M_inside_106 rfl (by omega) (j := tn (h 62 p + h 77 (4 * p + rg b))) hm.1.2 hm.1.1 (by decide) ?_
    refine x_iload_n a 107 d_M_inside_107 rfl ?_
    refine x_bipush a 108 7 d_M_inside_108 (by decide) ?_
    refine x_icmp_eq a 110 129 d_M_inside_110 (by decide) (fun z => absurd z (by decide)) (fun _ => ?_)
    refine x_iload_n a 113 d_M_inside_113 rfl ?_
    refine x_bipush a 114 8 d_M_inside_114 (by decide) ?_
    refine x_icmp_ne a 116 137 d_M_inside_116 (by decide) (fun _ => ?_) (fun z => absurd z (by decide))
    refine x_iconst a 137 0 d_M_inside_137 (by decide) ?_
    exact x_iret a qf 138 d_M_inside_138 rfl ⟨by unfold m_inside; rw [if_neg (fun z => z.2 c44)]; rfl, by unfold m_inside; rw [if_neg (fun z => z.2 c44)]; unfold m_ins; rw [m_go_o _ (by omega : 62 ≠ 78)]; rw [if_neg (by decide), if_pos rfl]⟩
  · refine x_iconst a 47 1 d_M_inside_47 (by decide) ?_
    exact x_iret a qf 48 d_M_inside_48 rfl ⟨by unfold m_inside; rw [if_pos ⟨by decide, c44⟩]; rfl, by unfold m_inside; rw [if_pos ⟨by decide, c44⟩]⟩
set_option maxRecDepth 100000 in
set_option maxHeartbeats 4000000 in
theorem c_M_inside7 (h : Hp) {p : Nat} (hp4 : p < 4) (x b : Int32) (hr : mReg h p) : Cn u_M_inside 1 0 0 (w0 h) [.inr (some 61), .inl (nI p), .inl 7, .inl x, .inl b] (fun v w' => v = some (nI (m_inside h p 7 x b).2) ∧ w' = w0 (m_inside h p 7 x b).1) := by
  refine Cn.of (by decide +kernel) (Nat.le_of_ble_eq_true rfl) (fun E ad a qf => ?_)
  have qa := qf.2.2.2
  have hcs : 0 ≤ (eR E).cells ∧ 0 ≤ (eR E).slots := ⟨Nat.zero_le _, Nat.zero_le _⟩
  have hrx := rg_lt x
  have hrb := rg_lt b
  refine x_iconst a 0 4 d_M_inside_0 (by decide) ?_
  refine x_iload_n a 1 d_M_inside_1 rfl ?_
  refine x_imul a 2 d_M_inside_2 ?_
  refine x_iload_n a 3 d_M_inside_3 rfl ?_
  refine x_iconst a 4 3 d_M_inside_4 (by decide) ?_
  refine x_iand a 5 d_M_inside_5 ?_
  refine x_iadd a 6 d_M_inside_6 ?_
  refine x_push (ix_r p x) ?_
  refine x_istore a 7 d_M_inside_7 (by decide) ?_
  refine x_aload_n a 9 d_M_inside_9 rfl ?_
  refine x_getR a 10 f_M_55 d_M_inside_10 rfl (by omega) (by decide) (o' := 77) rfl ?_
  refine x_iconst a 13 4 d_M_inside_13 (by decide) ?_
  refine x_iload_n a 14 d_M_inside_14 rfl ?_
  refine x_imul a 15 d_M_inside_15 ?_
  refine x_iload a 16 d_M_inside_16 rfl ?_
  refine x_iconst a 18 3 d_M_inside_18 (by decide) ?_
  refine x_iand a 19 d_M_inside_19 ?_
  refine x_iadd a 20 d_M_inside_20 ?_
  refine x_push (ix_r p b) ?_
  refine x_iald a 21 d_M_inside_21 rfl (by omega) (j := (4 * p + rg b)) rfl (by omega) (by decide) rfl ?_
  refine x_istore a 22 d_M_inside_22 (by decide) ?_
  refine x_iload_n a 24 d_M_inside_24 rfl ?_
  refine x_bipush a 25 7 d_M_inside_25 (by decide) ?_
  refine x_icmp_ge a 27 49 d_M_inside_27 (by decide) (fun _ => ?_) (fun z => absurd z (by decide))
  refine x_aload_n a 49 d_M_inside_49 rfl ?_
  refine x_iload_n a 50 d_M_inside_50 rfl ?_
  refine x_callV a qa 51 g_M_139 d_M_inside_51 (c_M_goOn _ hp4) rfl rfl rfl (show _ < 86 by omega) (by decide) (Nat.le_of_ble_eq_true rfl) hcs (fun v w' hp => ?_)
  obtain ⟨rfl, rfl⟩ := hp
  refine x_st0 ?_
  refine x_iload_n a 54 d_M_inside_54 rfl ?_
  refine x_iconst a 55 5 d_M_inside_55 (by decide) ?_
  refine x_icmp_ne a 56 80 d_M_inside_56 (by decide) (fun _ => ?_) (fun z => absurd z (by decide))
  refine x_iload_n a 80 d_M_inside_80 rfl ?_
  refine x_bipush a 81 6 d_M_inside_81 (by decide) ?_
  refine x_icmp_ne a 83 107 d_M_inside_83 (by decide) (fun _ => ?_) (fun z => absurd z (by decide))
  refine x_iload_n a 107 d_M_inside_107 rfl ?_
  refine x_bipush a 108 7 d_M_inside_108 (by decide) ?_
  refine x_icmp_eq a 110 129 d_M_inside_110 (by decide) (fun _ => ?_) (fun z => absurd z (by decide))
  refine x_aload_n a 129 d_M_inside_129 rfl ?_
  refine x_getR a 130 f_M_58 d_M_inside_130 rfl (by omega) (by decide) (o' := 78) rfl ?_
  refine x_iload_n a 133 d_M_inside_133 rfl ?_
  refine x_iload a 134 d_M_inside_134 rfl ?_
  refine x_iast a 136 d_M_inside_136 rfl (by omega) (j := p) rfl (by omega) (by decide) ?_
  refine x_iconst a 137 0 d_M_inside_137 (by decide) ?_
  exact x_iret a qf 138 d_M_inside_138 rfl ⟨by unfold m_inside; rw [if_neg (fun z => absurd z.1 (by decide))]; rfl, by unfold m_inside; rw [if_neg (fun z => absurd z.1 (by decide))]; unfold m_ins; rw [if_neg (by decide), if_neg (by decide), if_pos (Or.inl rfl)]⟩
set_option maxRecDepth 100000 in
set_option maxHeartbeats 4000000 in
theorem c_M_inside8 (h : Hp) {p : Nat} (hp4 : p < 4) (x b : Int32) (hr : mReg h p) : Cn u_M_inside 1 0 0 (w0 h) [.inr (some 61), .inl (nI p), .inl 8, .inl x, .inl b] (fun v w' => v = some (nI (m_inside h p 8 x b).2) ∧ w' = w0 (m_inside h p 8 x b).1) := by
  refine Cn.of (by decide +kernel) (Nat.le_of_ble_eq_true rfl) (fun E ad a qf => ?_)
  have qa := qf.2.2.2
  have hcs : 0 ≤ (eR E).cells ∧ 0 ≤ (eR E).slots := ⟨Nat.zero_le _, Nat.zero_le _⟩
  have hrx := rg_lt x
  have hrb := rg_lt b
  refine x_iconst a 0 4 d_M_inside_0 (by decide) ?_
  refine x_iload_n a 1 d_M_inside_1 rfl ?_
  refine x_imul a 2 d_M_inside_2 ?_
  refine x_iload_n a 3 d_M_inside_3 rfl ?_
  refine x_iconst a 4 3 d_M_inside_4 (by decide) ?_
  refine x_iand a 5 d_M_inside_5 ?_
  refine x_iadd a 6 d_M_inside_6 ?_
  refine x_push (ix_r p x) ?_
  refine x_istore a 7 d_M_inside_7 (by decide) ?_
  refine x_aload_n a 9 d_M_inside_9 rfl ?_
  refine x_getR a 10 f_M_55 d_M_inside_10 rfl (by omega) (by decide) (o' := 77) rfl ?_
  refine x_iconst a 13 4 d_M_inside_13 (by decide) ?_
  refine x_iload_n a 14 d_M_inside_14 rfl ?_
  refine x_imul a 15 d_M_inside_15 ?_
  refine x_iload a 16 d_M_inside_16 rfl ?_
  refine x_iconst a 18 3 d_M_inside_18 (by decide) ?_
  refine x_iand a 19 d_M_inside_19 ?_
  refine x_iadd a 20 d_M_inside_20 ?_
  refine x_push (ix_r p b) ?_
  refine x_iald a 21 d_M_inside_21 rfl (by omega) (j := (4 * p + rg b)) rfl (by omega) (by decide) rfl ?_
  refine x_istore a 22 d_M_inside_22 (by decide) ?_
  refine x_iload_n a 24 d_M_inside_24 rfl ?_
  refine x_bipush a 25 7 d_M_inside_25 (by decide) ?_
  refine x_icmp_ge a 27 49 d_M_inside_27 (by decide) (fun _ => ?_) (fun z => absurd z (by decide))
  refine x_aload_n a 49 d_M_inside_49 rfl ?_
  refine x_iload_n a 50 d_M_inside_50 rfl ?_
  refine x_callV a qa 51 g_M_139 d_M_inside_51 (c_M_goOn _ hp4) rfl rfl rfl (show _ < 86 by omega) (by decide) (Nat.le_of_ble_eq_true rfl) hcs (fun v w' hp => ?_)
  obtain ⟨rfl, rfl⟩ := hp
  refine x_st0 ?_
  refine x_iload_n a 54 d_M_inside_54 rfl ?_
  refine x_iconst a 55 5 d_M_inside_55 (by decide) ?_
  refine x_icmp_ne a 56 80 d_M_inside_56 (by decide) (fun _ => ?_) (fun z => absurd z (by decide))
  refine x_iload_n a 80 d_M_inside_80 rfl ?_
  refine x_bipush a 81 6 d_M_inside_81 (by decide) ?_
  refine x_icmp_ne a 83 107 d_M_inside_83 (by decide) (fun _ => ?_) (fun z => absurd z (by decide))
  refine x_iload_n a 107 d_M_inside_107 rfl ?_
  refine x_bipush a 108 7 d_M_inside_108 (by decide) ?_
  refine x_icmp_eq a 110 129 d_M_inside_110 (by decide) (fun z => absurd z (by decide)) (fun _ => ?_)
  refine x_iload_n a 113 d_M_inside_113 rfl ?_
  refine x_bipush a 114 8 d_M_inside_114 (by decide) ?_
  refine x_icmp_ne a 116 137 d_M_inside_116 (by decide) (fun z => absurd z (by decide)) (fun _ => ?_)
  refine x_aload_n a 119 d_M_inside_119 rfl ?_
  refine x_getR a 120 f_M_55 d_M_inside_120 rfl (by omega) (by decide) (o' := 77) rfl ?_
  refine x_iload a 123 d_M_inside_123 rfl ?_
  refine x_iald a 125 d_M_inside_125 rfl (by omega) (j := (4 * p + rg x)) rfl (by omega) (by decide) rfl ?_
  refine x_if_eq a 126 137 d_M_inside_126 (by decide) (fun c126 => ?_) (fun c126 => ?_)
  · refine x_iconst a 137 0 d_M_inside_137 (by decide) ?_
    exact x_iret a qf 138 d_M_inside_138 rfl ⟨by unfold m_inside; rw [if_neg (fun z => absurd z.1 (by decide))]; rfl, by unfold m_inside; rw [if_neg (fun z => absurd z.1 (by decide))]; unfold m_ins; rw [if_neg (by decide), if_neg (by decide)]; first | (rw [if_pos (Or.inr c126)]; done) | (rw [if_neg (by rintro (z | z); exact absurd z (by decide); exact z c126)]; done)⟩
  · refine x_aload_n a 129 d_M_inside_129 rfl ?_
    refine x_getR a 130 f_M_58 d_M_inside_130 rfl (by omega) (by decide) (o' := 78) rfl ?_
    refine x_iload_n a 133 d_M_inside_133 rfl ?_
    refine x_iload a 134 d_M_inside_134 rfl ?_
    refine x_iast a 136 d_M_inside_136 rfl (by omega) (j := p) rfl (by omega) (by decide) ?_
    refine x_iconst a 137 0 d_M_inside_137 (by decide) ?_
    exact x_iret a qf 138 d_M_inside_138 rfl ⟨by unfold m_inside; rw [if_neg (fun z => absurd z.1 (by decide))]; rfl, by unfold m_inside; rw [if_neg (fun z => absurd z.1 (by decide))]; unfold m_ins; rw [if_neg (by decide), if_neg (by decide)]; first | (rw [if_pos (Or.inr c126)]; done) | (rw [if_neg (by rintro (z | z); exact absurd z (by decide); exact z c126)]; done)⟩
theorem c_M_inside (h : Hp) {p : Nat} (hp4 : p < 4) (o x b : Int32) (hr : mReg h p) (ho : o = 5 ∨ o = 6 ∨ o = 7 ∨ o = 8) : Cn u_M_inside 1 0 0 (w0 h) [.inr (some 61), .inl (nI p), .inl o, .inl x, .inl b] (fun v w' => v = some (nI (m_inside h p o x b).2) ∧ w' = w0 (m_inside h p o x b).1) := by
  rcases ho with rfl | rfl | rfl | rfl
  · exact c_M_inside5 h hp4 x b hr
  · exact c_M_inside6 h hp4 x b hr
  · exact c_M_inside7 h hp4 x b hr
  · exact c_M_inside8 h hp4 x b hr
def m_send (g : Hp) (p k y : Nat) : Hp :=
  if g 68 k = 0 then up2 (up2 (up2 g 71 (4 * k) (g 77 y)) 70 k (g 61 29)) 69 k 1
  else if g 69 k < g 68 k then up2 (up2 (up2 g 71 (4 * k + tn (g 69 k)) (g 77 y)) 69 k (g 69 k + 1)) 77 (4 * p + 3) 1
  else up2 (up2 g 69 k (g 69 k)) 77 (4 * p + 3) 0
def m_recv (g : Hp) (p k y : Nat) : Hp :=
  if g 69 k = 0 then up2 g 77 (4 * p + 3) (if g 68 k = 0 then -1 else 0)
  else if g 68 k = 0 then up2 (up2 (up2 g 77 y (g 71 (4 * k))) 69 k 1) 77 (4 * p + 3) (if 99 ≤ g 61 29 - g 70 k then 99 else g 61 29 - g 70 k)
  else up2 (mshift (up2 (up2 g 77 y (g 71 (4 * k))) 69 k (nI (tn (g 69 k) - 1))) 71 (4 * k) (tn (g 69 k) - 1)) 77 (4 * p + 3) 1
def m_message (h : Hp) (p : Nat) (o x b : Int32) : Hp × Nat :=
  if mIn x 0 (h 61 25 - 1) ∧ (if o = 9 then h 66 (tn x) else h 67 (tn x)) = nI p then (if o = 9 then m_send (m_go h p) p (tn x) (4 * p + rg b) else m_recv (m_go h p) p (tn x) (4 * p + rg b), 0) else (h, 2)
set_option maxRecDepth 100000 in
set_option maxHeartbeats 4000000 in
theorem c_M_message9 (h : Hp) {p : Nat} (hp4 : p < 4) (x b : Int32) (hn : Nlt (h 61 25) 7) (hd : ∀ k, k < 6 → Nlt (h 68 k) 5 ∧ Nlt (h 69 k) 5) : Cn u_M_message 1 0 0 (w0 h) [.inr (some 61), .inl (nI p), .inl 9, .inl x, .inl b] (fun v w' => v = some (nI (m_message h p 9 x b).2) ∧ w' = w0 (m_message h p 9 x b).1) := by
  refine Cn.of (by decide +kernel) (Nat.le_of_ble_eq_true rfl) (fun E ad a qf => ?_)
  have qa := qf.2.2.2
  have hcs : 0 ≤ (eR E).cells ∧ 0 ≤ (eR E).slots := ⟨Nat.zero_le _, Nat.zero_le _⟩
  have hrb := rg_lt b
  refine x_iconst a 0 4 d_M_message_0 (by decide) ?_
  refine x_iload_n a 1 d_M_message_1 rfl ?_
  refine x_imul a 2 d_M_message_2 ?_
  refine x_iload a 3 d_M_message_3 rfl ?_
  refine x_iconst a 5 3 d_M_message_5 (by decide) ?_
  refine x_iand a 6 d_M_message_6 ?_
  refine x_iadd a 7 d_M_message_7 ?_
  refine x_push (ix_r p b) ?_
  refine x_istore a 8 d_M_message_8 (by decide) ?_
  refine x_iconst a 10 4 d_M_message_10 (by decide) ?_
  refine x_iload_n a 11 d_M_message_11 rfl ?_
  refine x_imul a 12 d_M_message_12 ?_
  refine x_iconst a 13 3 d_M_message_13 (by decide) ?_
  refine x_iadd a 14 d_M_message_14 ?_
  refine x_push (ix_n (k := 4) (K := 4) rfl p 3) ?_
  refine x_istore a 15 d_M_message_15 (by decide) ?_
  refine x_iload_n a 17 d_M_message_17 rfl ?_
  refine x_iconst a 18 0 d_M_message_18 (by decide) ?_
  refine x_aload_n a 19 d_M_message_19 rfl ?_
  refine x_getI a 20 f_M_99 d_M_message_20 rfl (by omega) (by decide) rfl ?_
  refine x_iconst a 23 1 d_M_message_23 (by decide) ?_
  refine x_isub a 24 d_M_message_24 ?_
  refine x_callS a qa 25 g_M_83 d_M_message_25 (c_M_in _ _ _ _) rfl rfl (by decide) (Nat.le_of_ble_eq_true rfl) hcs (fun v w' hp => ?_)
  obtain ⟨rfl, rfl⟩ := hp
  refine x_st1 ?_
  refine x_ifB_eq a 28 56 d_M_message_28 (by decide) (fun c28 => ?_) (fun c28 => ?_)
  · refine x_iconst a 56 2 d_M_message_56 (by decide) ?_
    exact x_iret a qf 57 d_M_message_57 rfl ⟨by unfold m_message; first | (rw [if_neg (fun z => c28 z.1)]; rfl) | (rw [tn_nI (k := k) (by omega), if_neg (fun z => c53 z.2)]; rfl), by unfold m_message; first | (rw [if_neg (fun z => c28 z.1)]; done) | (rw [tn_nI (k := k) (by omega), if_neg (fun z => c53 z.2)]; done)⟩
  · have hx6 := in_ports (n := 6) hn (by decide) c28
    obtain ⟨k, hk, rfl⟩ : ∃ k, k < 6 ∧ x = nI k := ⟨tn x, hx6.1, hx6.2⟩
    have hd1 := (hd k hk).1
    have hd2 := (hd k hk).2
    have hd11 := hd1.1
    have hd21 := hd2.1
    refine x_iload_n a 31 d_M_message_31 rfl ?_
    refine x_bipush a 32 9 d_M_message_32 (by decide) ?_
    refine x_icmp_ne a 34 46 d_M_message_34 (by decide) (fun z => absurd z (by decide)) (fun _ => ?_)
    refine x_aload_n a 37 d_M_message_37 rfl ?_
    refine x_getR a 38 f_M_22 d_M_message_38 rfl (by omega) (by decide) (o' := 66) rfl ?_
    refine x_iload_n a 41 d_M_message_41 rfl ?_
    refine x_iald a 42 d_M_message_42 rfl (by omega) (j := k) rfl hk (by decide) rfl ?_
    refine x_goto a 43 52 d_M_message_43 (by decide) ?_
    refine x_iload_n a 52 d_M_message_52 rfl ?_
    refine x_icmp_eq a 53 58 d_M_message_53 (by decide) (fun c53 => ?_) (fun c53 => ?_)
    · refine x_aload_n a 58 d_M_message_58 rfl ?_
      refine x_iload_n a 59 d_M_message_59 rfl ?_
      refine x_callV a qa 60 g_M_139 d_M_message_60 (c_M_goOn _ hp4) rfl rfl rfl (show _ < 86 by omega) (by decide) (Nat.le_of_ble_eq_true rfl) hcs (fun v w' hp => ?_)
      obtain ⟨rfl, rfl⟩ := hp
      refine x_st0 ?_
      refine x_iload_n a 63 d_M_message_63 rfl ?_
      refine x_bipush a 64 9 d_M_message_64 (by decide) ?_
      refine x_icmp_ne a 66 113 d_M_message_66 (by decide) (fun z => absurd z (by decide)) (fun _ => ?_)
      refine x_aload_n a 69 d_M_message_69 rfl ?_
      refine x_getR a 70 f_M_28 d_M_message_70 rfl (by omega) (by decide) (o' := 68) rfl ?_
      refine x_iload_n a 73 d_M_message_73 rfl ?_
      refine x_iald a 74 d_M_message_74 rfl (by omega) (j := k) rfl hk (by decide) (v := h 68 k) (by rw [m_go_o _ (by omega)]) ?_
      refine x_if_ne a 75 113 d_M_message_75 (by decide) (fun c75 => ?_) (fun c75 => ?_)
      · refine x_iload_n a 113 d_M_message_113 rfl ?_
        refine x_bipush a 114 9 d_M_message_114 (by decide) ?_
        refine x_icmp_ne a 116 216 d_M_message_116 (by decide) (fun z => absurd z (by decide)) (fun _ => ?_)
        refine x_aload_n a 119 d_M_message_119 rfl ?_
        refine x_getR a 120 f_M_31 d_M_message_120 rfl (by omega) (by decide) (o' := 69) rfl ?_
        refine x_iload_n a 123 d_M_message_123 rfl ?_
        refine x_iald a 124 d_M_message_124 rfl (by omega) (j := k) rfl hk (by decide) (v := h 69 k) (by rw [m_go_o _ (by omega)]) ?_
        refine x_aload_n a 125 d_M_message_125 rfl ?_
        refine x_getR a 126 f_M_28 d_M_message_126 rfl (by omega) (by decide) (o' := 68) rfl ?_
        refine x_iload_n a 129 d_M_message_129 rfl ?_
        refine x_iald a 130 d_M_message_130 rfl (by omega) (j := k) rfl hk (by decide) (v := h 68 k) (by rw [m_go_o _ (by omega)]) ?_
        refine x_icmp_ge a 131 138 d_M_message_131 (by decide) (fun c131 => ?_) (fun c131 => ?_)
        · refine x_iconst a 138 0 d_M_message_138 (by decide) ?_
          refine x_istore a 139 d_M_message_139 (by decide) ?_
          refine x_iload a 141 d_M_message_141 rfl ?_
          refine x_if_eq a 143 168 d_M_message_143 (by decide) (fun _ => ?_) (fun z => absurd z (by decide))
          refine x_aload_n a 168 d_M_message_168 rfl ?_
          refine x_getR a 169 f_M_31 d_M_message_169 rfl (by omega) (by decide) (o' := 69) rfl ?_
          refine x_iload_n a 172 d_M_message_172 rfl ?_
          refine x_iload a 173 d_M_message_173 rfl ?_
          refine x_if_eq a 175 189 d_M_message_175 (by decide) (fun _ => ?_) (fun z => absurd z (by decide))
          refine x_aload_n a 189 d_M_message_189 rfl ?_
          refine x_getR a 190 f_M_31 d_M_message_190 rfl (by omega) (by decide) (o' := 69) rfl ?_
          refine x_iload_n a 193 d_M_message_193 rfl ?_
          refine x_iald a 194 d_M_message_194 rfl (by omega) (j := k) rfl hk (by decide) (v := h 69 k) (by rw [m_go_o _ (by omega)]) ?_
          refine x_iast a 195 d_M_message_195 rfl (by omega) (j := k) rfl hk (by decide) ?_
          refine x_aload_n a 196 d_M_message_196 rfl ?_
          refine x_getR a 197 f_M_55 d_M_message_197 rfl (by omega) (by decide) (o' := 77) rfl ?_
          refine x_iload a 200 d_M_message_200 rfl ?_
          refine x_iload a 202 d_M_message_202 rfl ?_
          refine x_if_eq a 204 211 d_M_message_204 (by decide) (fun _ => ?_) (fun z => absurd z (by decide))
          refine x_iconst a 211 0 d_M_message_211 (by decide) ?_
          refine x_iast a 212 d_M_message_212 rfl (by omega) (j := (4 * p + 3)) rfl (by omega) (by decide) ?_
          refine x_goto a 213 398 d_M_message_213 (by decide) ?_
          refine x_iconst a 398 0 d_M_message_398 (by decide) ?_
          exact x_iret a qf 399 d_M_message_399 rfl ⟨by unfold m_message; rw [tn_nI (k := k) (by omega), if_pos ⟨c28, c53⟩]; rfl, by unfold m_message; rw [tn_nI (k := k) (by omega), if_pos ⟨c28, c53⟩, if_pos rfl]; unfold m_send; rw [m_go_o _ (by omega : 68 ≠ 78), m_go_o _ (by omega : 69 ≠ 78)]; first | (rw [if_pos c75]; done) | (rw [if_neg c75, if_pos (Int32.not_le.mp c131)]; done) | (rw [if_neg c75, if_neg (Int32.not_lt.mpr c131)]; done)⟩
        · refine x_iconst a 134 1 d_M_message_134 (by decide) ?_
          refine x_goto a 135 139 d_M_message_135 (by decide) ?_
          refine x_istore a 139 d_M_message_139 (by decide) ?_
          refine x_iload a 141 d_M_message_141 rfl ?_
          refine x_if_eq a 143 168 d_M_message_143 (by decide) (fun z => absurd z (by decide)) (fun _ => ?_)
          refine x_aload_n a 146 d_M_message_146 rfl ?_
          refine x_getR a 147 f_M_37 d_M_message_147 rfl (by omega) (by decide) (o' := 71) rfl ?_
          refine x_iconst a 150 4 d_M_message_150 (by decide) ?_
          refine x_iload_n a 151 d_M_message_151 rfl ?_
          refine x_imul a 152 d_M_message_152 ?_
          refine x_aload_n a 153 d_M_message_153 rfl ?_
          refine x_getR a 154 f_M_31 d_M_message_154 rfl (by omega) (by decide) (o' := 69) rfl ?_
          refine x_iload_n a 157 d_M_message_157 rfl ?_
          refine x_iald a 158 d_M_message_158 rfl (by omega) (j := k) rfl hk (by decide) (v := h 69 k) (by rw [m_go_o _ (by omega)]) ?_
          refine x_iadd a 159 d_M_message_159 ?_
          refine x_aload_n a 160 d_M_message_160 rfl ?_
          refine x_getR a 161 f_M_55 d_M_message_161 rfl (by omega) (by decide) (o' := 77) rfl ?_
          refine x_iload a 164 d_M_message_164 rfl ?_
          refine x_iald a 166 d_M_message_166 rfl (by omega) (j := (4 * p + rg b)) rfl (by omega) (by decide) rfl ?_
          refine x_iast a 167 d_M_message_167 rfl (by omega) (j := 4 * k + tn (h 69 k)) (by rw [hd2.2, ix_n (k := 4) (K := 4) rfl, ← hd2.2]) (by have := hd1.2; have := hd2.2; have z := Int32.not_le.mp c131; rw [hd1.2, hd2.2] at z; have z := (nI_ltI (by omega) (by omega)).mp z; omega) (by decide) ?_
          refine x_aload_n a 168 d_M_message_168 rfl ?_
          refine x_getR a 169 f_M_31 d_M_message_169 rfl (by omega) (by decide) (o' := 69) rfl ?_
          refine x_iload_n a 172 d_M_message_172 rfl ?_
          refine x_iload a 173 d_M_message_173 rfl ?_
          refine x_if_eq a 175 189 d_M_message_175 (by decide) (fun z => absurd z (by decide)) (fun _ => ?_)
          refine x_aload_n a 178 d_M_message_178 rfl ?_
          refine x_getR a 179 f_M_31 d_M_message_179 rfl (by omega) (by decide) (o' := 69) rfl ?_
          refine x_iload_n a 182 d_M_message_182 rfl ?_
          refine x_iald a 183 d_M_message_183 rfl (by omega) (j := k) rfl hk (by decide) (v := h 69 k) (by first | (rw [m_go_o _ (by omega)]; done) | (rw [up2_o _ _ _ (by omega), m_go_o _ (by omega)]; done)) ?_
          refine x_iconst a 184 1 d_M_message_184 (by decide) ?_
          refine x_iadd a 185 d_M_message_185 ?_
          refine x_goto a 186 195 d_M_message_186 (by decide) ?_
          refine x_iast a 195 d_M_message_195 rfl (by omega) (j := k) rfl hk (by decide) ?_
          refine x_aload_n a 196 d_M_message_196 rfl ?_
          refine x_getR a 197 f_M_55 d_M_message_197 rfl (by omega) (by decide) (o' := 77) rfl ?_
          refine x_iload a 200 d_M_message_200 rfl ?_
          refine x_iload a 202 d_M_message_202 rfl ?_
          refine x_if_eq a 204 211 d_M_message_204 (by decide) (fun z => absurd z (by decide)) (fun _ => ?_)
          refine x_iconst a 207 1 d_M_message_207 (by decide) ?_
          refine x_goto a 208 212 d_M_message_208 (by decide) ?_
          refine x_iast a 212 d_M_message_212 rfl (by omega) (j := (4 * p + 3)) rfl (by omega) (by decide) ?_
          refine x_goto a 213 398 d_M_message_213 (by decide) ?_
          refine x_iconst a 398 0 d_M_message_398 (by decide) ?_
          exact x_iret a qf 399 d_M_message_399 rfl ⟨by unfold m_message; rw [tn_nI (k := k) (by omega), if_pos ⟨c28, c53⟩]; rfl, by unfold m_message; rw [tn_nI (k := k) (by omega), if_pos ⟨c28, c53⟩, if_pos rfl]; unfold m_send; rw [m_go_o _ (by omega : 68 ≠ 78), m_go_o _ (by omega : 69 ≠ 78)]; first | (rw [if_pos c75]; done) | (rw [if_neg c75, if_pos (Int32.not_le.mp c131)]; done) | (rw [if_neg c75, if_neg (Int32.not_lt.mpr c131)]; done)⟩
      · refine x_aload_n a 78 d_M_message_78 rfl ?_
        refine x_getR a 79 f_M_37 d_M_message_79 rfl (by omega) (by decide) (o' := 71) rfl ?_
        refine x_iconst a 82 4 d_M_message_82 (by decide) ?_
        refine x_iload_n a 83 d_M_message_83 rfl ?_
        refine x_imul a 84 d_M_message_84 ?_
        refine x_aload_n a 85 d_M_message_85 rfl ?_
        refine x_getR a 86 f_M_55 d_M_message_86 rfl (by omega) (by decide) (o' := 77) rfl ?_
        refine x_iload a 89 d_M_message_89 rfl ?_
        refine x_iald a 91 d_M_message_91 rfl (by omega) (j := (4 * p + rg b)) rfl (by omega) (by decide) rfl ?_
        refine x_iast a 92 d_M_message_92 rfl (by omega) (j := 4 * k) (pk_mul 4 k) (by omega) (by decide) ?_
        refine x_aload_n a 93 d_M_message_93 rfl ?_
        refine x_getR a 94 f_M_34 d_M_message_94 rfl (by omega) (by decide) (o' := 70) rfl ?_
        refine x_iload_n a 97 d_M_message_97 rfl ?_
        refine x_aload_n a 98 d_M_message_98 rfl ?_
        refine x_getI a 99 f_M_115 d_M_message_99 rfl (by omega) (by decide) (v := m_go h p 61 29) (by rw [up2_o _ _ _ (by omega)]) ?_
        refine x_iast a 102 d_M_message_102 rfl (by omega) (j := k) rfl hk (by decide) ?_
        refine x_aload_n a 103 d_M_message_103 rfl ?_
        refine x_getR a 104 f_M_31 d_M_message_104 rfl (by omega) (by decide) (o' := 69) rfl ?_
        refine x_iload_n a 107 d_M_message_107 rfl ?_
        refine x_iconst a 108 1 d_M_message_108 (by decide) ?_
        refine x_iast a 109 d_M_message_109 rfl (by omega) (j := k) rfl hk (by decide) ?_
        refine x_goto a 110 398 d_M_message_110 (by decide) ?_
        refine x_iconst a 398 0 d_M_message_398 (by decide) ?_
        exact x_iret a qf 399 d_M_message_399 rfl ⟨by unfold m_message; rw [tn_nI (k := k) (by omega), if_pos ⟨c28, c53⟩]; rfl, by unfold m_message; rw [tn_nI (k := k) (by omega), if_pos ⟨c28, c53⟩, if_pos rfl]; unfold m_send; rw [m_go_o _ (by omega : 68 ≠ 78), m_go_o _ (by omega : 69 ≠ 78)]; first | (rw [if_pos c75]; done) | (rw [if_neg c75, if_pos (Int32.not_le.mp c131)]; done) | (rw [if_neg c75, if_neg (Int32.not_lt.mpr c131)]; done)⟩
    · refine x_iconst a 56 2 d_M_message_56 (by decide) ?_
      exact x_iret a qf 57 d_M_message_57 rfl ⟨by unfold m_message; first | (rw [if_neg (fun z => c28 z.1)]; rfl) | (rw [tn_nI (k := k) (by omega), if_neg (fun z => c53 z.2)]; rfl), by unfold m_message; first | (rw [if_neg (fun z => c28 z.1)]; done) | (rw [tn_nI (k := k) (by omega), if_neg (fun z => c53 z.2)]; done)⟩
set_option maxRecDepth 100000 in
set_option maxHeartbeats 4000000 in
theorem l_M_shiftq {E : En} {ad : Nat → Nat} {h : Hp} (a : Amb u_M_message 1 E) {p k y n : Nat} (hp4 : p < 4) (hk : k < 6) (hn : h 69 k = nI n) (hn3 : n ≤ 3) (hdp : ¬ h 68 k ≤ 0) (K : X E 0 0 ad (w0 (mshift h 71 (4 * k) n)) 342 [(0, .inr (some 61)), (1, .inl (nI p)), (2, .inl 10), (3, .inl (nI k)), (5, .inl (nI y)), (6, .inl (nI (4 * p + 3)))] []) : ∀ m i : Nat, i ≤ n → n < i + m → X E 0 0 ad (w0 (mshift h 71 (4 * k) i)) 296 [(0, .inr (some 61)), (1, .inl (nI p)), (2, .inl 10), (3, .inl (nI k)), (5, .inl (nI y)), (6, .inl (nI (4 * p + 3))), (7, .inl (nI (4 * k + i)))] [] := by
  intro m
  induction m with
  | zero => intro i h1 h2; omega
  | succ m ih =>
    intro i h1 h2
    refine x_iload a 296 d_M_message_296 rfl ?_
    refine x_iconst a 298 4 d_M_message_298 (by decide) ?_
    refine x_iload_n a 299 d_M_message_299 rfl ?_
    refine x_imul a 300 d_M_message_300 ?_
    refine x_aload_n a 301 d_M_message_301 rfl ?_
    refine x_getR a 302 f_M_31 d_M_message_302 rfl (by omega) (by decide) (o' := 69) rfl ?_
    refine x_iload_n a 305 d_M_message_305 rfl ?_
    refine x_iald a 306 d_M_message_306 rfl (by omega) (j := k) rfl (by omega) (by decide) (v := nI n) (by rw [mshift_o _ (by omega)]; exact hn) ?_
    refine x_iadd a 307 d_M_message_307 ?_
    refine x_push (y := nI (4 * k + n)) (ix_n (k := 4) (K := 4) rfl k n) ?_
    refine x_icmp_ge a 308 342 d_M_message_308 (by decide) (fun c308 => ?_) (fun c308 => ?_)
    · have hi : i = n := (by (try simp (disch := omega) only [Int32.le_iff_toInt_le, Int32.lt_iff_toInt_lt, ← Int32.toInt_inj, Int32.reduceToInt, nI_1, nI_add, pk_sub, nI_toInt] at *); omega)
      subst hi
      refine x_lv [(0, .inr (some 61)), (1, .inl (nI p)), (2, .inl 10), (3, .inl (nI k)), (5, .inl (nI y)), (6, .inl (nI (4 * p + 3)))] (List.forall_mem_cons.mpr ⟨rfl, List.forall_mem_cons.mpr ⟨rfl, List.forall_mem_cons.mpr ⟨rfl, List.forall_mem_cons.mpr ⟨rfl, List.forall_mem_cons.mpr ⟨rfl, List.forall_mem_cons.mpr ⟨rfl, fun _ z => absurd z List.not_mem_nil⟩⟩⟩⟩⟩⟩) ?_
      exact K
    · have hi : i < n := (by (try simp (disch := omega) only [Int32.le_iff_toInt_le, Int32.lt_iff_toInt_lt, ← Int32.toInt_inj, Int32.reduceToInt, nI_1, nI_add, pk_sub, nI_toInt] at *); omega)
      refine x_aload_n a 311 d_M_message_311 rfl ?_
      refine x_getR a 312 f_M_28 d_M_message_312 rfl (by omega) (by decide) (o' := 68) rfl ?_
      refine x_iload_n a 315 d_M_message_315 rfl ?_
      refine x_iald a 316 d_M_message_316 rfl (by omega) (j := k) rfl (by omega) (by decide) (v := h 68 k) (by rw [mshift_o _ (by omega)]) ?_
      refine x_if_le a 317 342 d_M_message_317 (by decide) (fun c317 => absurd c317 hdp) (fun c317 => ?_)
      refine x_aload_n a 320 d_M_message_320 rfl ?_
      refine x_getR a 321 f_M_37 d_M_message_321 rfl (by omega) (by decide) (o' := 71) rfl ?_
      refine x_iload a 324 d_M_message_324 rfl ?_
      refine x_aload_n a 326 d_M_message_326 rfl ?_
      refine x_getR a 327 f_M_37 d_M_message_327 rfl (by omega) (by decide) (o' := 71) rfl ?_
      refine x_iload a 330 d_M_message_330 rfl ?_
      refine x_iconst a 332 1 d_M_message_332 (by decide) ?_
      refine x_iadd a 333 d_M_message_333 ?_
      refine x_iald a 334 d_M_message_334 rfl (by omega) (j := 4 * k + i + 1) (nI_1 _) (by omega) (by decide) rfl ?_
      refine x_iast a 335 d_M_message_335 rfl (by omega) (j := (4 * k + i)) rfl (by omega) (by decide) ?_
      refine x_iinc a 336 (nI (4 * k + (i + 1))) d_M_message_336 rfl (nI_inc (4 * k + i)) (by decide) ?_
      refine x_goto a 339 296 d_M_message_339 (by decide) ?_
      refine x_lv [(0, .inr (some 61)), (1, .inl (nI p)), (2, .inl 10), (3, .inl (nI k)), (5, .inl (nI y)), (6, .inl (nI (4 * p + 3))), (7, .inl (nI (4 * k + (i + 1))))] (List.forall_mem_cons.mpr ⟨rfl, List.forall_mem_cons.mpr ⟨rfl, List.forall_mem_cons.mpr ⟨rfl, List.forall_mem_cons.mpr ⟨rfl, List.forall_mem_cons.mpr ⟨rfl, List.forall_mem_cons.mpr ⟨rfl, List.forall_mem_cons.mpr ⟨rfl, fun _ z => absurd z List.not_mem_nil⟩⟩⟩⟩⟩⟩⟩) ?_
      exact ih (i + 1) hi (by omega)
set_option maxRecDepth 100000 in
set_option maxHeartbeats 4000000 in
theorem l_M_recvz {E : En} {ad : Nat → Nat} {h : Hp} {n0 : Nat} {Post : Option Int32 → Wd → Prop} (a : Amb u_M_message 1 E) (qf : Fin Post n0 ad 0 0 E) {p k y c : Nat} (hp4 : p < 4) (hk : k < 6) (hy : y < 16) (hd : h 68 k = 0) (hpo : Post (some 0) (w0 (up2 (up2 (up2 h 77 y (h 71 (4 * k))) 69 k 1) 77 (4 * p + 3) (if 99 ≤ h 61 29 - h 70 k then 99 else h 61 29 - h 70 k)))) : X E 0 0 ad (w0 h) 249 [(0, .inr (some 61)), (1, .inl (nI p)), (2, .inl 10), (3, .inl (nI k)), (5, .inl (nI y)), (6, .inl (nI (4 * p + 3)))] [] := by
  refine x_aload_n a 249 d_M_message_249 rfl ?_
  refine x_getR a 250 f_M_55 d_M_message_250 rfl (by omega) (by decide) (o' := 77) rfl ?_
  refine x_iload a 253 d_M_message_253 rfl ?_
  refine x_aload_n a 255 d_M_message_255 rfl ?_
  refine x_getR a 256 f_M_37 d_M_message_256 rfl (by omega) (by decide) (o' := 71) rfl ?_
  refine x_iconst a 259 4 d_M_message_259 (by decide) ?_
  refine x_iload_n a 260 d_M_message_260 rfl ?_
  refine x_imul a 261 d_M_message_261 ?_
  refine x_iald a 262 d_M_message_262 rfl (by omega) (j := 4 * k) (pk_mul 4 k) (by omega) (by decide) rfl ?_
  refine x_iast a 263 d_M_message_263 rfl (by omega) (j := y) rfl (by omega) (by decide) ?_
  refine x_aload_n a 264 d_M_message_264 rfl ?_
  refine x_getR a 265 f_M_31 d_M_message_265 rfl (by omega) (by decide) (o' := 69) rfl ?_
  refine x_iload_n a 268 d_M_message_268 rfl ?_
  refine x_aload_n a 269 d_M_message_269 rfl ?_
  refine x_getR a 270 f_M_28 d_M_message_270 rfl (by omega) (by decide) (o' := 68) rfl ?_
  refine x_iload_n a 273 d_M_message_273 rfl ?_
  refine x_iald a 274 d_M_message_274 rfl (by omega) (j := k) rfl hk (by decide) (v := 0) (by rw [up2_o _ _ _ (by omega)]; exact hd) ?_
  refine x_if_ne a 275 282 d_M_message_275 (by decide) (fun z => absurd z (by decide)) (fun _ => ?_)
  refine x_iconst a 278 1 d_M_message_278 (by decide) ?_
  refine x_goto a 279 290 d_M_message_279 (by decide) ?_
  refine x_iast a 290 d_M_message_290 rfl (by omega) (j := k) rfl hk (by decide) ?_
  refine x_iconst a 291 4 d_M_message_291 (by decide) ?_
  refine x_iload_n a 292 d_M_message_292 rfl ?_
  refine x_imul a 293 d_M_message_293 ?_
  refine x_istore a 294 d_M_message_294 (by decide) ?_
  refine x_iload a 296 d_M_message_296 rfl ?_
  refine x_iconst a 298 4 d_M_message_298 (by decide) ?_
  refine x_iload_n a 299 d_M_message_299 rfl ?_
  refine x_imul a 300 d_M_message_300 ?_
  refine x_aload_n a 301 d_M_message_301 rfl ?_
  refine x_getR a 302 f_M_31 d_M_message_302 rfl (by omega) (by decide) (o' := 69) rfl ?_
  refine x_iload_n a 305 d_M_message_305 rfl ?_
  refine x_iald a 306 d_M_message_306 rfl (by omega) (j := k) rfl hk (by decide) (v := 1) (up2_s _ _ _ _) ?_
  refine x_iadd a 307 d_M_message_307 ?_
  refine x_icmp_ge a 308 342 d_M_message_308 (by decide) (fun c308 => absurd c308 (by rw [show (4 : Int32) = nI 4 from rfl, pk_mul, nI_1]; exact nI_ge (by omega) (by omega))) (fun c308 => ?_)
  refine x_aload_n a 311 d_M_message_311 rfl ?_
  refine x_getR a 312 f_M_28 d_M_message_312 rfl (by omega) (by decide) (o' := 68) rfl ?_
  refine x_iload_n a 315 d_M_message_315 rfl ?_
  refine x_iald a 316 d_M_message_316 rfl (by omega) (j := k) rfl hk (by decide) (v := 0) (by rw [up2_o _ _ _ (by omega), up2_o _ _ _ (by omega)]; exact hd) ?_
  refine x_if_le a 317 342 d_M_message_317 (by decide) (fun _ => ?_) (fun z => absurd z (by decide))
  refine x_aload_n a 342 d_M_message_342 rfl ?_
  refine x_getI a 343 f_M_115 d_M_message_343 rfl (by omega) (by decide) (v := h 61 29) (by rw [up2_o _ _ _ (by omega), up2_o _ _ _ (by omega)]) ?_
  refine x_aload_n a 346 d_M_message_346 rfl ?_
  refine x_getR a 347 f_M_34 d_M_message_347 rfl (by omega) (by decide) (o' := 70) rfl ?_
  refine x_iload_n a 350 d_M_message_350 rfl ?_
  refine x_iald a 351 d_M_message_351 rfl (by omega) (j := k) rfl hk (by decide) (v := h 70 k) (by rw [up2_o _ _ _ (by omega), up2_o _ _ _ (by omega)]) ?_
  refine x_isub a 352 d_M_message_352 ?_
  refine x_bipush a 353 99 d_M_message_353 (by decide) ?_
  refine x_icmp_ge a 355 372 d_M_message_355 (by decide) (fun c355 => ?_) (fun c355 => ?_)
  · refine x_bipush a 372 99 d_M_message_372 (by decide) ?_
    refine x_push (y := if 99 ≤ h 61 29 - h 70 k then 99 else h 61 29 - h 70 k) (by first | (rw [if_pos c355]; done) | (rw [if_neg c355]; done)) ?_
    refine x_istore a 374 d_M_message_374 (by decide) ?_
    refine x_aload_n a 376 d_M_message_376 rfl ?_
    refine x_getR a 377 f_M_55 d_M_message_377 rfl (by omega) (by decide) (o' := 77) rfl ?_
    refine x_iload a 380 d_M_message_380 rfl ?_
    refine x_aload_n a 382 d_M_message_382 rfl ?_
    refine x_getR a 383 f_M_28 d_M_message_383 rfl (by omega) (by decide) (o' := 68) rfl ?_
    refine x_iload_n a 386 d_M_message_386 rfl ?_
    refine x_iald a 387 d_M_message_387 rfl (by omega) (j := k) rfl hk (by decide) (v := 0) (by rw [up2_o _ _ _ (by omega), up2_o _ _ _ (by omega)]; exact hd) ?_
    refine x_if_ne a 388 396 d_M_message_388 (by decide) (fun z => absurd z (by decide)) (fun _ => ?_)
    refine x_iload a 391 d_M_message_391 rfl ?_
    refine x_goto a 393 397 d_M_message_393 (by decide) ?_
    refine x_iast a 397 d_M_message_397 rfl (by omega) (j := (4 * p + 3)) rfl (by omega) (by decide) ?_
    refine x_iconst a 398 0 d_M_message_398 (by decide) ?_
    exact x_iret a qf 399 d_M_message_399 rfl hpo
  · refine x_aload_n a 358 d_M_message_358 rfl ?_
    refine x_getI a 359 f_M_115 d_M_message_359 rfl (by omega) (by decide) (v := h 61 29) (by rw [up2_o _ _ _ (by omega), up2_o _ _ _ (by omega)]) ?_
    refine x_aload_n a 362 d_M_message_362 rfl ?_
    refine x_getR a 363 f_M_34 d_M_message_363 rfl (by omega) (by decide) (o' := 70) rfl ?_
    refine x_iload_n a 366 d_M_message_366 rfl ?_
    refine x_iald a 367 d_M_message_367 rfl (by omega) (j := k) rfl hk (by decide) (v := h 70 k) (by rw [up2_o _ _ _ (by omega), up2_o _ _ _ (by omega)]) ?_
    refine x_isub a 368 d_M_message_368 ?_
    refine x_goto a 369 374 d_M_message_369 (by decide) ?_
    refine x_push (y := if 99 ≤ h 61 29 - h 70 k then 99 else h 61 29 - h 70 k) (by first | (rw [if_pos c355]; done) | (rw [if_neg c355]; done)) ?_
    refine x_istore a 374 d_M_message_374 (by decide) ?_
    refine x_aload_n a 376 d_M_message_376 rfl ?_
    refine x_getR a 377 f_M_55 d_M_message_377 rfl (by omega) (by decide) (o' := 77) rfl ?_
    refine x_iload a 380 d_M_message_380 rfl ?_
    refine x_aload_n a 382 d_M_message_382 rfl ?_
    refine x_getR a 383 f_M_28 d_M_message_383 rfl (by omega) (by decide) (o' := 68) rfl ?_
    refine x_iload_n a 386 d_M_message_386 rfl ?_
    refine x_iald a 387 d_M_message_387 rfl (by omega) (j := k) rfl hk (by decide) (v := 0) (by rw [up2_o _ _ _ (by omega), up2_o _ _ _ (by omega)]; exact hd) ?_
    refine x_if_ne a 388 396 d_M_message_388 (by decide) (fun z => absurd z (by decide)) (fun _ => ?_)
    refine x_iload a 391 d_M_message_391 rfl ?_
    refine x_goto a 393 397 d_M_message_393 (by decide) ?_
    refine x_iast a 397 d_M_message_397 rfl (by omega) (j := (4 * p + 3)) rfl (by omega) (by decide) ?_
    refine x_iconst a 398 0 d_M_message_398 (by decide) ?_
    exact x_iret a qf 399 d_M_message_399 rfl hpo
set_option maxRecDepth 100000 in
set_option maxHeartbeats 4000000 in
theorem l_M_recvn {E : En} {ad : Nat → Nat} {h : Hp} {n0 : Nat} {Post : Option Int32 → Wd → Prop} (a : Amb u_M_message 1 E) (qf : Fin Post n0 ad 0 0 E) {p k y c : Nat} (hp4 : p < 4) (hk : k < 6) (hy : y < 16) (hd : ¬ h 68 k = 0) (hdp : ¬ h 68 k ≤ 0) (hc : h 69 k = nI c) (hc0 : 0 < c) (hc4 : c ≤ 4) (hpo : Post (some 0) (w0 (up2 (mshift (up2 (up2 h 77 y (h 71 (4 * k))) 69 k (nI (c - 1))) 71 (4 * k) (c - 1)) 77 (4 * p + 3) 1))) : X E 0 0 ad (w0 h) 249 [(0, .inr (some 61)), (1, .inl (nI p)), (2, .inl 10), (3, .inl (nI k)), (5, .inl (nI y)), (6, .inl (nI (4 * p + 3)))] [] := by
  refine x_aload_n a 249 d_M_message_249 rfl ?_
  refine x_getR a 250 f_M_55 d_M_message_250 rfl (by omega) (by decide) (o' := 77) rfl ?_
  refine x_iload a 253 d_M_message_253 rfl ?_
  refine x_aload_n a 255 d_M_message_255 rfl ?_
  refine x_getR a 256 f_M_37 d_M_message_256 rfl (by omega) (by decide) (o' := 71) rfl ?_
  refine x_iconst a 259 4 d_M_message_259 (by decide) ?_
  refine x_iload_n a 260 d_M_message_260 rfl ?_
  refine x_imul a 261 d_M_message_261 ?_
  refine x_iald a 262 d_M_message_262 rfl (by omega) (j := 4 * k) (pk_mul 4 k) (by omega) (by decide) rfl ?_
  refine x_iast a 263 d_M_message_263 rfl (by omega) (j := y) rfl (by omega) (by decide) ?_
  refine x_aload_n a 264 d_M_message_264 rfl ?_
  refine x_getR a 265 f_M_31 d_M_message_265 rfl (by omega) (by decide) (o' := 69) rfl ?_
  refine x_iload_n a 268 d_M_message_268 rfl ?_
  refine x_aload_n a 269 d_M_message_269 rfl ?_
  refine x_getR a 270 f_M_28 d_M_message_270 rfl (by omega) (by decide) (o' := 68) rfl ?_
  refine x_iload_n a 273 d_M_message_273 rfl ?_
  refine x_iald a 274 d_M_message_274 rfl (by omega) (j := k) rfl hk (by decide) (v := h 68 k) (by rw [up2_o _ _ _ (by omega)]) ?_
  refine x_if_ne a 275 282 d_M_message_275 (by decide) (fun c275 => ?_) (fun c275 => absurd c275 hd)
  refine x_aload_n a 282 d_M_message_282 rfl ?_
  refine x_getR a 283 f_M_31 d_M_message_283 rfl (by omega) (by decide) (o' := 69) rfl ?_
  refine x_iload_n a 286 d_M_message_286 rfl ?_
  refine x_iald a 287 d_M_message_287 rfl (by omega) (j := k) rfl hk (by decide) (v := nI c) (by rw [up2_o _ _ _ (by omega)]; exact hc) ?_
  refine x_iconst a 288 1 d_M_message_288 (by decide) ?_
  refine x_isub a 289 d_M_message_289 ?_
  refine x_push (y := nI (c - 1)) (pk_sub (b := 1) (by omega)) ?_
  refine x_iast a 290 d_M_message_290 rfl (by omega) (j := k) rfl hk (by decide) ?_
  refine x_iconst a 291 4 d_M_message_291 (by decide) ?_
  refine x_iload_n a 292 d_M_message_292 rfl ?_
  refine x_imul a 293 d_M_message_293 ?_
  refine x_istore a 294 d_M_message_294 (by decide) ?_
  refine x_lv [(0, .inr (some 61)), (1, .inl (nI p)), (2, .inl 10), (3, .inl (nI k)), (5, .inl (nI y)), (6, .inl (nI (4 * p + 3))), (7, .inl (nI (4 * k + 0)))] (by rw [show nI (4 * k + 0) = (4 : Int32) * nI k from (pk_mul 4 k).symm]; exact (List.forall_mem_cons.mpr ⟨rfl, List.forall_mem_cons.mpr ⟨rfl, List.forall_mem_cons.mpr ⟨rfl, List.forall_mem_cons.mpr ⟨rfl, List.forall_mem_cons.mpr ⟨rfl, List.forall_mem_cons.mpr ⟨rfl, List.forall_mem_cons.mpr ⟨rfl, fun _ z => absurd z List.not_mem_nil⟩⟩⟩⟩⟩⟩⟩)) ?_
  refine l_M_shiftq (n := c - 1) a hp4 hk (up2_s _ _ _ _) (by omega) (by rw [up2_o _ _ _ (by omega), up2_o _ _ _ (by omega)]; exact hdp) ?_ c 0 (by omega) (by omega)
  refine x_aload_n a 342 d_M_message_342 rfl ?_
  refine x_getI a 343 f_M_115 d_M_message_343 rfl (by omega) (by decide) rfl ?_
  refine x_aload_n a 346 d_M_message_346 rfl ?_
  refine x_getR a 347 f_M_34 d_M_message_347 rfl (by omega) (by decide) (o' := 70) rfl ?_
  refine x_iload_n a 350 d_M_message_350 rfl ?_
  refine x_iald a 351 d_M_message_351 rfl (by omega) (j := k) rfl hk (by decide) rfl ?_
  refine x_isub a 352 d_M_message_352 ?_
  refine x_bipush a 353 99 d_M_message_353 (by decide) ?_
  refine x_icmp_ge a 355 372 d_M_message_355 (by decide) (fun c355 => ?_) (fun c355 => ?_)
  · refine x_bipush a 372 99 d_M_message_372 (by decide) ?_
    refine x_istore a 374 d_M_message_374 (by decide) ?_
    refine x_aload_n a 376 d_M_message_376 rfl ?_
    refine x_getR a 377 f_M_55 d_M_message_377 rfl (by omega) (by decide) (o' := 77) rfl ?_
    refine x_iload a 380 d_M_message_380 rfl ?_
    refine x_aload_n a 382 d_M_message_382 rfl ?_
    refine x_getR a 383 f_M_28 d_M_message_383 rfl (by omega) (by decide) (o' := 68) rfl ?_
    refine x_iload_n a 386 d_M_message_386 rfl ?_
    refine x_iald a 387 d_M_message_387 rfl (by omega) (j := k) rfl hk (by decide) (v := h 68 k) (by rw [mshift_o _ (by omega), up2_o _ _ _ (by omega), up2_o _ _ _ (by omega)]) ?_
    refine x_if_ne a 388 396 d_M_message_388 (by decide) (fun c388 => ?_) (fun c388 => absurd c388 hd)
    refine x_iconst a 396 1 d_M_message_396 (by decide) ?_
    refine x_iast a 397 d_M_message_397 rfl (by omega) (j := (4 * p + 3)) rfl (by omega) (by decide) ?_
    refine x_iconst a 398 0 d_M_message_398 (by decide) ?_
    exact x_iret a qf 399 d_M_message_399 rfl hpo
  · refine x_aload_n a 358 d_M_message_358 rfl ?_
    refine x_getI a 359 f_M_115 d_M_message_359 rfl (by omega) (by decide) rfl ?_
    refine x_aload_n a 362 d_M_message_362 rfl ?_
    refine x_getR a 363 f_M_34 d_M_message_363 rfl (by omega) (by decide) (o' := 70) rfl ?_
    refine x_iload_n a 366 d_M_message_366 rfl ?_
    refine x_iald a 367 d_M_message_367 rfl (by omega) (j := k) rfl hk (by decide) rfl ?_
    refine x_isub a 368 d_M_message_368 ?_
    refine x_goto a 369 374 d_M_message_369 (by decide) ?_
    refine x_istore a 374 d_M_message_374 (by decide) ?_
    refine x_aload_n a 376 d_M_message_376 rfl ?_
    refine x_getR a 377 f_M_55 d_M_message_377 rfl (by omega) (by decide) (o' := 77) rfl ?_
    refine x_iload a 380 d_M_message_380 rfl ?_
    refine x_aload_n a 382 d_M_message_382 rfl ?_
    refine x_getR a 383 f_M_28 d_M_message_383 rfl (by omega) (by decide) (o' := 68) rfl ?_
    refine x_iload_n a 386 d_M_message_386 rfl ?_
    refine x_iald a 387 d_M_message_387 rfl (by omega) (j := k) rfl hk (by decide) (v := h 68 k) (by rw [mshift_o _ (by omega), up2_o _ _ _ (by omega), up2_o _ _ _ (by omega)]) ?_
    refine x_if_ne a 388 396 d_M_message_388 (by decide) (fun c388 => ?_) (fun c388 => absurd c388 hd)
    refine x_iconst a 396 1 d_M_message_396 (by decide) ?_
    refine x_iast a 397 d_M_message_397 rfl (by omega) (j := (4 * p + 3)) rfl (by omega) (by decide) ?_
    refine x_iconst a 398 0 d_M_message_398 (by decide) ?_
    exact x_iret a qf 399 d_M_message_399 rfl hpo
set_option maxRecDepth 100000 in
set_option maxHeartbeats 4000000 in
theorem c_M_message10 (h : Hp) {p : Nat} (hp4 : p < 4) (x b : Int32) (hn : Nlt (h 61 25) 7) (hd : ∀ k, k < 6 → Nlt (h 68 k) 5 ∧ Nlt (h 69 k) 5) : Cn u_M_message 1 0 0 (w0 h) [.inr (some 61), .inl (nI p), .inl 10, .inl x, .inl b] (fun v w' => v = some (nI (m_message h p 10 x b).2) ∧ w' = w0 (m_message h p 10 x b).1) := by
  refine Cn.of (by decide +kernel) (Nat.le_of_ble_eq_true rfl) (fun E ad a qf => ?_)
  have qa := qf.2.2.2
  have hcs : 0 ≤ (eR E).cells ∧ 0 ≤ (eR E).slots := ⟨Nat.zero_le _, Nat.zero_le _⟩
  have hrb := rg_lt b
  refine x_iconst a 0 4 d_M_message_0 (by decide) ?_
  refine x_iload_n a 1 d_M_message_1 rfl ?_
  refine x_imul a 2 d_M_message_2 ?_
  refine x_iload a 3 d_M_message_3 rfl ?_
  refine x_iconst a 5 3 d_M_message_5 (by decide) ?_
  refine x_iand a 6 d_M_message_6 ?_
  refine x_iadd a 7 d_M_message_7 ?_
  refine x_push (ix_r p b) ?_
  refine x_istore a 8 d_M_message_8 (by decide) ?_
  refine x_iconst a 10 4 d_M_message_10 (by decide) ?_
  refine x_iload_n a 11 d_M_message_11 rfl ?_
  refine x_imul a 12 d_M_message_12 ?_
  refine x_iconst a 13 3 d_M_message_13 (by decide) ?_
  refine x_iadd a 14 d_M_message_14 ?_
  refine x_push (ix_n (k := 4) (K := 4) rfl p 3) ?_
  refine x_istore a 15 d_M_message_15 (by decide) ?_
  refine x_iload_n a 17 d_M_message_17 rfl ?_
  refine x_iconst a 18 0 d_M_message_18 (by decide) ?_
  refine x_aload_n a 19 d_M_message_19 rfl ?_
  refine x_getI a 20 f_M_99 d_M_message_20 rfl (by omega) (by decide) rfl ?_
  refine x_iconst a 23 1 d_M_message_23 (by decide) ?_
  refine x_isub a 24 d_M_message_24 ?_
  refine x_callS a qa 25 g_M_83 d_M_message_25 (c_M_in _ _ _ _) rfl rfl (by decide) (Nat.le_of_ble_eq_true rfl) hcs (fun v w' hp => ?_)
  obtain ⟨rfl, rfl⟩ := hp
  refine x_st1 ?_
  refine x_ifB_eq a 28 56 d_M_message_28 (by decide) (fun c28 => ?_) (fun c28 => ?_)
  · refine x_iconst a 56 2 d_M_message_56 (by decide) ?_
    exact x_iret a qf 57 d_M_message_57 rfl ⟨by unfold m_message; first | (rw [if_neg (fun z => c28 z.1)]; rfl) | (rw [tn_nI (k := k) (by omega), if_neg (fun z => c53 z.2)]; rfl), by unfold m_message; first | (rw [if_neg (fun z => c28 z.1)]; done) | (rw [tn_nI (k := k) (by omega), if_neg (fun z => c53 z.2)]; done)⟩
  · have hx6 := in_ports (n := 6) hn (by decide) c28
    obtain ⟨k, hk, rfl⟩ : ∃ k, k < 6 ∧ x = nI k := ⟨tn x, hx6.1, hx6.2⟩
    have hd1 := (hd k hk).1
    have hd2 := (hd k hk).2
    have hd11 := hd1.1
    have hd21 := hd2.1
    refine x_iload_n a 31 d_M_message_31 rfl ?_
    refine x_bipush a 32 9 d_M_message_32 (by decide) ?_
    refine x_icmp_ne a 34 46 d_M_message_34 (by decide) (fun _ => ?_) (fun z => absurd z (by decide))
    refine x_aload_n a 46 d_M_message_46 rfl ?_
    refine x_getR a 47 f_M_25 d_M_message_47 rfl (by omega) (by decide) (o' := 67) rfl ?_
    refine x_iload_n a 50 d_M_message_50 rfl ?_
    refine x_iald a 51 d_M_message_51 rfl (by omega) (j := k) rfl hk (by decide) rfl ?_
    refine x_iload_n a 52 d_M_message_52 rfl ?_
    refine x_icmp_eq a 53 58 d_M_message_53 (by decide) (fun c53 => ?_) (fun c53 => ?_)
    · refine x_aload_n a 58 d_M_message_58 rfl ?_
      refine x_iload_n a 59 d_M_message_59 rfl ?_
      refine x_callV a qa 60 g_M_139 d_M_message_60 (c_M_goOn _ hp4) rfl rfl rfl (show _ < 86 by omega) (by decide) (Nat.le_of_ble_eq_true rfl) hcs (fun v w' hp => ?_)
      obtain ⟨rfl, rfl⟩ := hp
      refine x_st0 ?_
      refine x_iload_n a 63 d_M_message_63 rfl ?_
      refine x_bipush a 64 9 d_M_message_64 (by decide) ?_
      refine x_icmp_ne a 66 113 d_M_message_66 (by decide) (fun _ => ?_) (fun z => absurd z (by decide))
      refine x_iload_n a 113 d_M_message_113 rfl ?_
      refine x_bipush a 114 9 d_M_message_114 (by decide) ?_
      refine x_icmp_ne a 116 216 d_M_message_116 (by decide) (fun _ => ?_) (fun z => absurd z (by decide))
      refine x_aload_n a 216 d_M_message_216 rfl ?_
      refine x_getR a 217 f_M_31 d_M_message_217 rfl (by omega) (by decide) (o' := 69) rfl ?_
      refine x_iload_n a 220 d_M_message_220 rfl ?_
      refine x_iald a 221 d_M_message_221 rfl (by omega) (j := k) rfl hk (by decide) (v := h 69 k) (by rw [m_go_o _ (by omega)]) ?_
      refine x_if_ne a 222 249 d_M_message_222 (by decide) (fun c222 => ?_) (fun c222 => ?_)
      · have hc0 : 0 < tn (h 69 k) := by have z := hd2.2; rw [z] at c222; exact (by (try simp (disch := omega) only [Int32.le_iff_toInt_le, Int32.lt_iff_toInt_lt, ← Int32.toInt_inj, Int32.reduceToInt, nI_1, nI_add, pk_sub, nI_toInt] at *); omega)
        refine x_lv [(0, .inr (some 61)), (1, .inl (nI p)), (2, .inl 10), (3, .inl (nI k)), (5, .inl (nI (4 * p + rg b))), (6, .inl (nI (4 * p + 3)))] (List.forall_mem_cons.mpr ⟨rfl, List.forall_mem_cons.mpr ⟨rfl, List.forall_mem_cons.mpr ⟨rfl, List.forall_mem_cons.mpr ⟨rfl, List.forall_mem_cons.mpr ⟨rfl, List.forall_mem_cons.mpr ⟨rfl, fun _ z => absurd z List.not_mem_nil⟩⟩⟩⟩⟩⟩) ?_
        by_cases hz : h 68 k = 0
        · exact l_M_recvz (c := 0) a qf hp4 hk (by omega) (by rw [m_go_o _ (by omega)]; exact hz) ⟨by unfold m_message; rw [tn_nI (k := k) (by omega), if_pos ⟨c28, c53⟩]; rfl, by symm; unfold m_message; rw [tn_nI (k := k) (by omega), if_pos ⟨c28, c53⟩, if_neg (by decide)]; unfold m_recv; rw [m_go_o _ (by omega : 68 ≠ 78), m_go_o _ (by omega : 69 ≠ 78), if_neg c222, if_pos hz]⟩
        · exact l_M_recvn a qf hp4 hk (by omega) (by rw [m_go_o _ (by omega)]; exact hz) (by rw [m_go_o _ (by omega)]; have z := hd1.2; rw [z] at hz ⊢; exact (by (try simp (disch := omega) only [Int32.le_iff_toInt_le, Int32.lt_iff_toInt_lt, ← Int32.toInt_inj, Int32.reduceToInt, nI_1, nI_add, pk_sub, nI_toInt] at *); omega)) (by rw [m_go_o _ (by omega)]; exact hd2.2) hc0 (by omega) ⟨by unfold m_message; rw [tn_nI (k := k) (by omega), if_pos ⟨c28, c53⟩]; rfl, by symm; unfold m_message; rw [tn_nI (k := k) (by omega), if_pos ⟨c28, c53⟩, if_neg (by decide)]; unfold m_recv; rw [m_go_o _ (by omega : 68 ≠ 78), m_go_o _ (by omega : 69 ≠ 78), if_neg c222, if_neg hz]⟩
      · refine x_aload_n a 225 d_M_message_225 rfl ?_
        refine x_getR a 226 f_M_55 d_M_message_226 rfl (by omega) (by decide) (o' := 77) rfl ?_
        refine x_iload a 229 d_M_message_229 rfl ?_
        refine x_aload_n a 231 d_M_message_231 rfl ?_
        refine x_getR a 232 f_M_28 d_M_message_232 rfl (by omega) (by decide) (o' := 68) rfl ?_
        refine x_iload_n a 235 d_M_message_235 rfl ?_
        refine x_iald a 236 d_M_message_236 rfl (by omega) (j := k) rfl hk (by decide) (v := h 68 k) (by rw [m_go_o _ (by omega)]) ?_
        refine x_if_ne a 237 244 d_M_message_237 (by decide) (fun c237 => ?_) (fun c237 => ?_)
        · refine x_iconst a 244 0 d_M_message_244 (by decide) ?_
          refine x_iast a 245 d_M_message_245 rfl (by omega) (j := (4 * p + 3)) rfl (by omega) (by decide) ?_
          refine x_goto a 246 398 d_M_message_246 (by decide) ?_
          refine x_iconst a 398 0 d_M_message_398 (by decide) ?_
          exact x_iret a qf 399 d_M_message_399 rfl ⟨by unfold m_message; rw [tn_nI (k := k) (by omega), if_pos ⟨c28, c53⟩]; rfl, by symm; unfold m_message; rw [tn_nI (k := k) (by omega), if_pos ⟨c28, c53⟩, if_neg (by decide)]; unfold m_recv; rw [m_go_o _ (by omega : 68 ≠ 78), m_go_o _ (by omega : 69 ≠ 78), if_pos c222]; first | (rw [if_pos c237]; done) | (rw [if_neg c237]; done)⟩
        · refine x_iconst a 240 (-1) d_M_message_240 (by decide) ?_
          refine x_goto a 241 245 d_M_message_241 (by decide) ?_
          refine x_iast a 245 d_M_message_245 rfl (by omega) (j := (4 * p + 3)) rfl (by omega) (by decide) ?_
          refine x_goto a 246 398 d_M_message_246 (by decide) ?_
          refine x_iconst a 398 0 d_M_message_398 (by decide) ?_
          exact x_iret a qf 399 d_M_message_399 rfl ⟨by unfold m_message; rw [tn_nI (k := k) (by omega), if_pos ⟨c28, c53⟩]; rfl, by symm; unfold m_message; rw [tn_nI (k := k) (by omega), if_pos ⟨c28, c53⟩, if_neg (by decide)]; unfold m_recv; rw [m_go_o _ (by omega : 68 ≠ 78), m_go_o _ (by omega : 69 ≠ 78), if_pos c222]; first | (rw [if_pos c237]; done) | (rw [if_neg c237]; done)⟩
    · refine x_iconst a 56 2 d_M_message_56 (by decide) ?_
      exact x_iret a qf 57 d_M_message_57 rfl ⟨by unfold m_message; first | (rw [if_neg (fun z => c28 z.1)]; rfl) | (rw [tn_nI (k := k) (by omega), if_neg (fun z => c53 z.2)]; rfl), by unfold m_message; first | (rw [if_neg (fun z => c28 z.1)]; done) | (rw [tn_nI (k := k) (by omega), if_neg (fun z => c53 z.2)]; done)⟩
