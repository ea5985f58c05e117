def zer (h : Hp) (o : Nat) : Nat → Hp
  | 0 => h
  | k + 1 => up2 (zer h o k) o k 0
theorem zer_o (h : Hp) {o a : Nat} (ha : a ≠ o) : ∀ k, zer h o k a = h a
  | 0 => rfl
  | k + 1 => by rw [zer, up2_o _ _ _ ha, zer_o h ha k]
def m_pp (h : Hp) (p : Nat) : Hp := up2 (up2 (up2 (up2 h 78 p 0) 79 p 0) 80 p (bI (m_part h p))) 81 p 0
def m_pps (h : Hp) : Nat → Hp
  | 0 => h
  | k + 1 => m_pp (m_pps h k) k
def m_begun (h : Hp) : Hp := up2 (up2 (up2 (up2 (m_pps (zer (zer (zer h 76 64) 77 16) 69 6) 4) 61 27 0) 61 28 0) 61 29 0) 61 26 1
def m_start (h : Hp) : Hp × Int32 := if m_wrong h ≤ 0 then (m_begun h, 0) else (h, m_wrong h)
set_option maxRecDepth 100000 in
set_option maxHeartbeats 4000000 in
theorem l_M_z1 {E : En} {ad : Nat → Nat} {h : Hp} (a : Amb u_M_start 2 E) (K : X E 0 0 ad (w0 (zer h 76 64)) 32 [(0, .inr (some 61))] []) : ∀ m k : Nat, k ≤ 64 → 64 < k + m → X E 0 0 ad (w0 (zer h 76 k)) 13 [(0, .inr (some 61)), (2, .inl (nI k))] [] := by
  intro m
  induction m with
  | zero => intro k h1 h2; omega
  | succ m ih =>
    intro k h1 h2
    refine x_iload_n a 13 d_M_start_13 rfl ?_
    refine x_bipush a 14 64 d_M_start_14 (by decide) ?_
    refine x_icmp_ge a 16 32 d_M_start_16 (by decide) (fun c16 => ?_) (fun c16 => ?_)
    · have hk : k = 64 := (by (try simp (disch := omega) only [Int32.le_iff_toInt_le, Int32.lt_iff_toInt_lt, ← Int32.toInt_inj, Int32.reduceToInt, nI_1, nI_add, pk_sub, nI_toInt] at *); omega)
      subst hk
      refine x_lv [(0, .inr (some 61))] (List.forall_mem_cons.mpr ⟨rfl, fun _ z => absurd z List.not_mem_nil⟩) ?_
      exact K
    · have hk : k < 64 := (by (try simp (disch := omega) only [Int32.le_iff_toInt_le, Int32.lt_iff_toInt_lt, ← Int32.toInt_inj, Int32.reduceToInt, nI_1, nI_add, pk_sub, nI_toInt] at *); omega)
      refine x_aload_n a 19 d_M_start_19 rfl ?_
      refine x_getR a 20 f_M_52 d_M_start_20 rfl (by omega) (by decide) (o' := 76) rfl ?_
      refine x_iload_n a 23 d_M_start_23 rfl ?_
      refine x_iconst a 24 0 d_M_start_24 (by decide) ?_
      refine x_iast a 25 d_M_start_25 rfl (by omega) (j := k) rfl (by omega) (by decide) ?_
      refine x_iinc a 26 (nI (k + 1)) d_M_start_26 rfl (nI_inc k) (by decide) ?_
      refine x_goto a 29 13 d_M_start_29 (by decide) ?_
      refine x_lv [(0, .inr (some 61)), (2, .inl (nI (k + 1)))] (List.forall_mem_cons.mpr ⟨rfl, List.forall_mem_cons.mpr ⟨rfl, fun _ z => absurd z List.not_mem_nil⟩⟩) ?_
      exact ih (k + 1) hk (by omega)
set_option maxRecDepth 100000 in
set_option maxHeartbeats 4000000 in
theorem l_M_z2 {E : En} {ad : Nat → Nat} {h : Hp} (a : Amb u_M_start 2 E) (K : X E 0 0 ad (w0 (zer h 77 16)) 53 [(0, .inr (some 61))] []) : ∀ m k : Nat, k ≤ 16 → 16 < k + m → X E 0 0 ad (w0 (zer h 77 k)) 34 [(0, .inr (some 61)), (2, .inl (nI k))] [] := by
  intro m
  induction m with
  | zero => intro k h1 h2; omega
  | succ m ih =>
    intro k h1 h2
    refine x_iload_n a 34 d_M_start_34 rfl ?_
    refine x_bipush a 35 16 d_M_start_35 (by decide) ?_
    refine x_icmp_ge a 37 53 d_M_start_37 (by decide) (fun c37 => ?_) (fun c37 => ?_)
    · have hk : k = 16 := (by (try simp (disch := omega) only [Int32.le_iff_toInt_le, Int32.lt_iff_toInt_lt, ← Int32.toInt_inj, Int32.reduceToInt, nI_1, nI_add, pk_sub, nI_toInt] at *); omega)
      subst hk
      refine x_lv [(0, .inr (some 61))] (List.forall_mem_cons.mpr ⟨rfl, fun _ z => absurd z List.not_mem_nil⟩) ?_
      exact K
    · have hk : k < 16 := (by (try simp (disch := omega) only [Int32.le_iff_toInt_le, Int32.lt_iff_toInt_lt, ← Int32.toInt_inj, Int32.reduceToInt, nI_1, nI_add, pk_sub, nI_toInt] at *); omega)
      refine x_aload_n a 40 d_M_start_40 rfl ?_
      refine x_getR a 41 f_M_55 d_M_start_41 rfl (by omega) (by decide) (o' := 77) rfl ?_
      refine x_iload_n a 44 d_M_start_44 rfl ?_
      refine x_iconst a 45 0 d_M_start_45 (by decide) ?_
      refine x_iast a 46 d_M_start_46 rfl (by omega) (j := k) rfl (by omega) (by decide) ?_
      refine x_iinc a 47 (nI (k + 1)) d_M_start_47 rfl (nI_inc k) (by decide) ?_
      refine x_goto a 50 34 d_M_start_50 (by decide) ?_
      refine x_lv [(0, .inr (some 61)), (2, .inl (nI (k + 1)))] (List.forall_mem_cons.mpr ⟨rfl, List.forall_mem_cons.mpr ⟨rfl, fun _ z => absurd z List.not_mem_nil⟩⟩) ?_
      exact ih (k + 1) hk (by omega)
set_option maxRecDepth 100000 in
set_option maxHeartbeats 4000000 in
theorem l_M_z3 {E : En} {ad : Nat → Nat} {h : Hp} (a : Amb u_M_start 2 E) (K : X E 0 0 ad (w0 (zer h 69 6)) 74 [(0, .inr (some 61))] []) : ∀ m k : Nat, k ≤ 6 → 6 < k + m → X E 0 0 ad (w0 (zer h 69 k)) 55 [(0, .inr (some 61)), (2, .inl (nI k))] [] := by
  intro m
  induction m with
  | zero => intro k h1 h2; omega
  | succ m ih =>
    intro k h1 h2
    refine x_iload_n a 55 d_M_start_55 rfl ?_
    refine x_bipush a 56 6 d_M_start_56 (by decide) ?_
    refine x_icmp_ge a 58 74 d_M_start_58 (by decide) (fun c58 => ?_) (fun c58 => ?_)
    · have hk : k = 6 := (by (try simp (disch := omega) only [Int32.le_iff_toInt_le, Int32.lt_iff_toInt_lt, ← Int32.toInt_inj, Int32.reduceToInt, nI_1, nI_add, pk_sub, nI_toInt] at *); omega)
      subst hk
      refine x_lv [(0, .inr (some 61))] (List.forall_mem_cons.mpr ⟨rfl, fun _ z => absurd z List.not_mem_nil⟩) ?_
      exact K
    · have hk : k < 6 := (by (try simp (disch := omega) only [Int32.le_iff_toInt_le, Int32.lt_iff_toInt_lt, ← Int32.toInt_inj, Int32.reduceToInt, nI_1, nI_add, pk_sub, nI_toInt] at *); omega)
      refine x_aload_n a 61 d_M_start_61 rfl ?_
      refine x_getR a 62 f_M_31 d_M_start_62 rfl (by omega) (by decide) (o' := 69) rfl ?_
      refine x_iload_n a 65 d_M_start_65 rfl ?_
      refine x_iconst a 66 0 d_M_start_66 (by decide) ?_
      refine x_iast a 67 d_M_start_67 rfl (by omega) (j := k) rfl (by omega) (by decide) ?_
      refine x_iinc a 68 (nI (k + 1)) d_M_start_68 rfl (nI_inc k) (by decide) ?_
      refine x_goto a 71 55 d_M_start_71 (by decide) ?_
      refine x_lv [(0, .inr (some 61)), (2, .inl (nI (k + 1)))] (List.forall_mem_cons.mpr ⟨rfl, List.forall_mem_cons.mpr ⟨rfl, fun _ z => absurd z List.not_mem_nil⟩⟩) ?_
      exact ih (k + 1) hk (by omega)
set_option maxRecDepth 100000 in
set_option maxHeartbeats 4000000 in
theorem l_M_z4 {E : En} {ad : Nat → Nat} {h : Hp} (a : Amb u_M_start 2 E) (qa : va_AO R_2 (eS E) ∧ va_AO R_3 (eS E)) (hcs : 0 ≤ (eR E).cells ∧ 0 ≤ (eR E).slots) (K : X E 0 0 ad (w0 (m_pps h 4)) 119 [(0, .inr (some 61))] []) : ∀ m k : Nat, k ≤ 4 → 4 < k + m → X E 0 0 ad (w0 (m_pps h k)) 76 [(0, .inr (some 61)), (2, .inl (nI k))] [] := by
  intro m
  induction m with
  | zero => intro k h1 h2; omega
  | succ m ih =>
    intro k h1 h2
    refine x_iload_n a 76 d_M_start_76 rfl ?_
    refine x_iconst a 77 4 d_M_start_77 (by decide) ?_
    refine x_icmp_ge a 78 119 d_M_start_78 (by decide) (fun c78 => ?_) (fun c78 => ?_)
    · have hk : k = 4 := (by (try simp (disch := omega) only [Int32.le_iff_toInt_le, Int32.lt_iff_toInt_lt, ← Int32.toInt_inj, Int32.reduceToInt, nI_1, nI_add, pk_sub, nI_toInt] at *); omega)
      subst hk
      refine x_lv [(0, .inr (some 61))] (List.forall_mem_cons.mpr ⟨rfl, fun _ z => absurd z List.not_mem_nil⟩) ?_
      exact K
    · have hk : k < 4 := (by (try simp (disch := omega) only [Int32.le_iff_toInt_le, Int32.lt_iff_toInt_lt, ← Int32.toInt_inj, Int32.reduceToInt, nI_1, nI_add, pk_sub, nI_toInt] at *); omega)
      refine x_aload_n a 81 d_M_start_81 rfl ?_
      refine x_getR a 82 f_M_58 d_M_start_82 rfl (by omega) (by decide) (o' := 78) rfl ?_
      refine x_iload_n a 85 d_M_start_85 rfl ?_
      refine x_iconst a 86 0 d_M_start_86 (by decide) ?_
      refine x_iast a 87 d_M_start_87 rfl (by omega) (j := k) rfl (by omega) (by decide) ?_
      refine x_aload_n a 88 d_M_start_88 rfl ?_
      refine x_getR a 89 f_M_61 d_M_start_89 rfl (by omega) (by decide) (o' := 79) rfl ?_
      refine x_iload_n a 92 d_M_start_92 rfl ?_
      refine x_iconst a 93 0 d_M_start_93 (by decide) ?_
      refine x_iast a 94 d_M_start_94 rfl (by omega) (j := k) rfl (by omega) (by decide) ?_
      refine x_aload_n a 95 d_M_start_95 rfl ?_
      refine x_getR a 96 f_M_64 d_M_start_96 rfl (by omega) (by decide) (o' := 80) rfl ?_
      refine x_iload_n a 99 d_M_start_99 rfl ?_
      refine x_aload_n a 100 d_M_start_100 rfl ?_
      refine x_iload_n a 101 d_M_start_101 rfl ?_
      refine x_callV a qa 102 g_M_102 d_M_start_102 (c_M_takesPart _ (by omega)) rfl rfl rfl (show _ < 86 by omega) (by decide) (Nat.le_of_ble_eq_true rfl) hcs (fun v w' hp => ?_)
      obtain ⟨rfl, rfl⟩ := hp
      refine x_st1 ?_
      refine x_push (y := bI (m_part (m_pps h k) k)) (bI_congr (by rw [m_part, m_part, up2_o _ _ _ (by omega), up2_o _ _ _ (by omega)])) ?_
      refine x_zast a 105 d_M_start_105 rfl (by omega) (j := k) rfl (by omega) (by decide) bI_vp ?_
      refine x_aload_n a 106 d_M_start_106 rfl ?_
      refine x_getR a 107 f_M_68 d_M_start_107 rfl (by omega) (by decide) (o' := 81) rfl ?_
      refine x_iload_n a 110 d_M_start_110 rfl ?_
      refine x_iconst a 111 0 d_M_start_111 (by decide) ?_
      refine x_zast a 112 d_M_start_112 rfl (by omega) (j := k) rfl (by omega) (by decide) rfl ?_
      refine x_iinc a 113 (nI (k + 1)) d_M_start_113 rfl (nI_inc k) (by decide) ?_
      refine x_goto a 116 76 d_M_start_116 (by decide) ?_
      refine x_lv [(0, .inr (some 61)), (2, .inl (nI (k + 1)))] (List.forall_mem_cons.mpr ⟨rfl, List.forall_mem_cons.mpr ⟨rfl, fun _ z => absurd z List.not_mem_nil⟩⟩) ?_
      exact ih (k + 1) hk (by omega)
set_option maxRecDepth 100000 in
set_option maxHeartbeats 4000000 in
theorem c_M_start (h : Hp) (hn : Nlt (h 61 24) 9) (hr : Nlt (h 61 25) 7) (hst : ∀ k, k < tn (h 61 25) → Nlt (h 66 k) 4 ∧ Nlt (h 67 k) 4) : Cn u_M_start 2 0 0 (w0 h) [.inr (some 61)] (fun v w' => v = some (m_start h).2 ∧ w' = w0 (m_start h).1) := by
  refine Cn.of (by decide +kernel) (Nat.le_of_ble_eq_true rfl) (fun E ad a qf => ?_)
  have qa := qf.2.2.2
  have hcs : 0 ≤ (eR E).cells ∧ 0 ≤ (eR E).slots := ⟨Nat.zero_le _, Nat.zero_le _⟩
  refine x_aload_n a 0 d_M_start_0 rfl ?_
  refine x_callV a qa 1 g_M_105 d_M_start_1 (c_M_wrong _ hn hr hst) rfl rfl rfl (show _ < 86 by omega) (by decide) (Nat.le_of_ble_eq_true rfl) hcs (fun v w' hp => ?_)
  obtain ⟨rfl, rfl⟩ := hp
  refine x_st1 ?_
  refine x_istore_n a 4 d_M_start_4 (by decide) ?_
  refine x_iload_n a 5 d_M_start_5 rfl ?_
  refine x_if_le a 6 11 d_M_start_6 (by decide) (fun c6 => ?_) (fun c6 => ?_)
  · refine x_iconst a 11 0 d_M_start_11 (by decide) ?_
    refine x_istore_n a 12 d_M_start_12 (by decide) ?_
    refine x_lv [(0, .inr (some 61)), (2, .inl (nI 0))] (List.forall_mem_cons.mpr ⟨rfl, List.forall_mem_cons.mpr ⟨rfl, fun _ z => absurd z List.not_mem_nil⟩⟩) ?_
    refine l_M_z1 a ?_ 65 0 (by omega) (by omega)
    refine x_iconst a 32 0 d_M_start_32 (by decide) ?_
    refine x_istore_n a 33 d_M_start_33 (by decide) ?_
    refine x_lv [(0, .inr (some 61)), (2, .inl (nI 0))] (List.forall_mem_cons.mpr ⟨rfl, List.forall_mem_cons.mpr ⟨rfl, fun _ z => absurd z List.not_mem_nil⟩⟩) ?_
    refine l_M_z2 a ?_ 17 0 (by omega) (by omega)
    refine x_iconst a 53 0 d_M_start_53 (by decide) ?_
    refine x_istore_n a 54 d_M_start_54 (by decide) ?_
    refine x_lv [(0, .inr (some 61)), (2, .inl (nI 0))] (List.forall_mem_cons.mpr ⟨rfl, List.forall_mem_cons.mpr ⟨rfl, fun _ z => absurd z List.not_mem_nil⟩⟩) ?_
    refine l_M_z3 a ?_ 7 0 (by omega) (by omega)
    refine x_iconst a 74 0 d_M_start_74 (by decide) ?_
    refine x_istore_n a 75 d_M_start_75 (by decide) ?_
    refine x_lv [(0, .inr (some 61)), (2, .inl (nI 0))] (List.forall_mem_cons.mpr ⟨rfl, List.forall_mem_cons.mpr ⟨rfl, fun _ z => absurd z List.not_mem_nil⟩⟩) ?_
    refine l_M_z4 a qa hcs ?_ 5 0 (by omega) (by omega)
    refine x_aload_n a 119 d_M_start_119 rfl ?_
    refine x_iconst a 120 0 d_M_start_120 (by decide) ?_
    refine x_putI a 121 f_M_109 d_M_start_121 rfl (by omega) (by decide) rfl rfl rfl ?_
    refine x_aload_n a 124 d_M_start_124 rfl ?_
    refine x_iconst a 125 0 d_M_start_125 (by decide) ?_
    refine x_putI a 126 f_M_112 d_M_start_126 rfl (by omega) (by decide) rfl rfl rfl ?_
    refine x_aload_n a 129 d_M_start_129 rfl ?_
    refine x_iconst a 130 0 d_M_start_130 (by decide) ?_
    refine x_putI a 131 f_M_115 d_M_start_131 rfl (by omega) (by decide) rfl rfl rfl ?_
    refine x_aload_n a 134 d_M_start_134 rfl ?_
    refine x_iconst a 135 1 d_M_start_135 (by decide) ?_
    refine x_putI a 136 f_M_91 d_M_start_136 rfl (by omega) (by decide) rfl rfl rfl ?_
    refine x_iconst a 139 0 d_M_start_139 (by decide) ?_
    exact x_iret a qf 140 d_M_start_140 rfl ⟨by unfold m_start; rw [if_pos c6], by unfold m_start; rw [if_pos c6]; unfold m_begun; rfl⟩
  · refine x_iload_n a 9 d_M_start_9 rfl ?_
    exact x_iret a qf 10 d_M_start_10 rfl ⟨by unfold m_start; rw [if_neg c6], by unfold m_start; rw [if_neg c6]⟩
/-! a tick -/
def KM (h g : Hp) : Prop := g 61 = h 61 ∧ g 64 = h 64 ∧ g 65 = h 65
theorem KM.rf {h : Hp} : KM h h := ⟨rfl, rfl, rfl⟩
theorem KM.up {h g : Hp} (a : KM h g) {o k : Nat} {x : Int32} (ho : o ≠ 61 ∧ o ≠ 64 ∧ o ≠ 65) : KM h (up2 g o k x) := ⟨(up2_o _ _ _ (Ne.symm ho.1)).trans a.1, (up2_o _ _ _ (Ne.symm ho.2.1)).trans a.2.1, (up2_o _ _ _ (Ne.symm ho.2.2)).trans a.2.2⟩
theorem KM.tr {h g f : Hp} (a : KM h g) (b : KM g f) : KM h f := ⟨b.1.trans a.1, b.2.1.trans a.2.1, b.2.2.trans a.2.2⟩
theorem km_shift (h : Hp) {o b k : Nat} (ho : o ≠ 61 ∧ o ≠ 64 ∧ o ≠ 65) : KM h (mshift h o b k) := ⟨mshift_o h (Ne.symm ho.1) k, mshift_o h (Ne.symm ho.2.1) k, mshift_o h (Ne.symm ho.2.2) k⟩
theorem km_again (h : Hp) (p : Nat) : KM h (m_again h p) := by
  unfold m_again
  refine ⟨?_, ?_, ?_⟩ <;> rw [mr_prt_o _ _ (by omega), mr_mem_o _ _ (by omega), mr_reg_o _ _ (by omega)]
theorem km_react (h : Hp) (p f : Nat) : KM h (m_react h p f) := by
  unfold m_react
  repeat' split
  · exact (KM.rf.up (by omega)).up (by omega)
  · exact ((KM.rf.up (by omega)).up (by omega)).tr (km_again _ _)
  · exact (KM.rf.up (by omega)).up (by omega)
  · exact (KM.rf.up (by omega)).up (by omega)
  · exact KM.rf.up (by omega)
theorem km_go (h : Hp) (p : Nat) : KM h (m_go h p) := by
  unfold m_go
  exact KM.rf.up (by omega)
theorem km_simp (g : Hp) (p : Nat) (o : Int32) (x : Nat) (b y : Int32) : KM g (m_simp g p o x b y) := by
  unfold m_simp m_in11 m_out12
  repeat' split
  all_goals first
    | exact KM.rf
    | exact KM.rf.up (by omega)
    | exact (KM.rf.up (by omega)).up (by omega)
    | exact ((KM.rf.up (by omega)).up (by omega)).up (by omega)
    | exact (((KM.rf.up (by omega)).up (by omega)).tr (km_shift _ (by omega))).up (by omega)
theorem km_do (h : Hp) (p : Nat) (o x b : Int32) : KM h (m_do h p o x b).1 := by
  unfold m_do m_simple m_inside m_message
  repeat' split
  all_goals first
    | exact KM.rf
    | exact (km_go h p).tr (km_simp _ _ _ _ _ _)
    | (unfold m_ins; repeat' split
       all_goals first
         | exact km_go h p
         | exact (km_go h p).up (by omega))
    | (unfold m_send; repeat' split
       all_goals first
         | exact (((km_go h p).up (by omega)).up (by omega)).up (by omega)
         | exact ((km_go h p).up (by omega)).up (by omega))
    | (unfold m_recv; repeat' split
       all_goals first
         | exact (((km_go h p).up (by omega)).up (by omega)).up (by omega)
         | exact (km_go h p).up (by omega)
         | exact ((((km_go h p).up (by omega)).up (by omega)).tr (km_shift _ (by omega))).up (by omega))
theorem km_step (h : Hp) (p : Nat) : KM h (m_step h p) := by
  unfold m_step
  split
  · split
    · exact km_do _ _ _ _ _
    · exact km_react _ _ _
  · exact km_react _ _ _
def m_end (g : Hp) (p a n : Nat) : Hp :=
  if g 61 28 + 1 = g 65 a then up2 (up2 (up2 (up2 (up2 g 61 29 (g 61 29 + 1)) 61 28 (g 61 28 + 1)) 81 p 0) 61 28 0) 61 27 (nI ((a + 1) % n))
  else up2 (up2 g 61 29 (g 61 29 + 1)) 61 28 (g 61 28 + 1)
abbrev m_acts (h : Hp) (p : Nat) : Prop := ¬ h 80 p = 0 ∧ h 81 p = 0
def m_tick (h : Hp) (p a n : Nat) : Hp := m_end (if m_acts h p then m_step (up2 h 61 30 (h 61 30 + 1)) p else h) p a n
def m_tk (h : Hp) : Hp := m_tick h (tn (h 64 (tn (h 61 27)))) (tn (h 61 27)) (tn (h 61 24))
def m_ticks (h : Hp) : Nat → Hp
  | 0 => h
  | k + 1 => m_tk (m_ticks h k)
def m_run (h : Hp) (n : Int32) : Hp × Int32 := if ¬ h 61 26 = 0 ∧ mIn n 0 200 then (m_ticks (up2 h 61 30 0) (tn n), m_ticks (up2 h 61 30 0) (tn n) 61 30) else (h, -1)
/-- the reference can go through a tick -/
def TM (h : Hp) : Prop := Nlt (h 61 27) (tn (h 61 24)) ∧ Nlt (h 61 24) 9 ∧ Nlt (h 64 (tn (h 61 27))) 4 ∧ Nlt (h 61 25) 7 ∧ (∀ k, k < 6 → Nlt (h 68 k) 5 ∧ Nlt (h 69 k) 5) ∧ ∀ p, p < 4 → Nlt (h 82 p) 9 ∧ Nlt (h 84 p) (2 ^ 30) ∧ mReg h p
theorem tick_v {h g : Hp} (hg : g = h ∨ KM (up2 h 61 30 (h 61 30 + 1)) g) : (∀ k, k ≠ 30 → g 61 k = h 61 k) ∧ g 64 = h 64 ∧ g 65 = h 65 := by
  rcases hg with rfl | km
  · exact ⟨fun _ _ => rfl, rfl, rfl⟩
  · exact ⟨fun k hk => by rw [km.1, up2_k _ _ _ hk], by rw [km.2.1, up2_o _ _ _ (by decide)], by rw [km.2.2, up2_o _ _ _ (by decide)]⟩
set_option maxRecDepth 100000 in
set_option maxHeartbeats 4000000 in
theorem l_M_end {E : En} {ad : Nat → Nat} {h : Hp} (a : Amb u_M_run 3 E) {N k p c n : Nat} (hp4 : p < 4) (hc : h 61 27 = nI c) (hcn : c < n) (hn : h 61 24 = nI n) (hn8 : n ≤ 8) (K : X E 0 0 ad (w0 (m_end h p c n)) 138 [(0, .inr (some 61)), (1, .inl (nI N)), (2, .inl (nI k))] []) : X E 0 0 ad (w0 h) 75 [(0, .inr (some 61)), (1, .inl (nI N)), (2, .inl (nI k)), (3, .inl (nI p))] [] := by
  refine x_aload_n a 75 d_M_run_75 rfl ?_
  refine x_dup a 76 d_M_run_76 ?_
  refine x_getI a 77 f_M_115 d_M_run_77 rfl (by omega) (by decide) rfl ?_
  refine x_iconst a 80 1 d_M_run_80 (by decide) ?_
  refine x_iadd a 81 d_M_run_81 ?_
  refine x_putI a 82 f_M_115 d_M_run_82 rfl (by omega) (by decide) rfl rfl rfl ?_
  refine x_aload_n a 85 d_M_run_85 rfl ?_
  refine x_dup a 86 d_M_run_86 ?_
  refine x_getI a 87 f_M_112 d_M_run_87 rfl (by omega) (by decide) (v := h 61 28) (by rw [up2_k _ _ _ (by decide)]) ?_
  refine x_iconst a 90 1 d_M_run_90 (by decide) ?_
  refine x_iadd a 91 d_M_run_91 ?_
  refine x_putI a 92 f_M_112 d_M_run_92 rfl (by omega) (by decide) rfl rfl rfl ?_
  refine x_aload_n a 95 d_M_run_95 rfl ?_
  refine x_getI a 96 f_M_112 d_M_run_96 rfl (by omega) (by decide) (v := h 61 28 + 1) (up2_s _ _ _ _) ?_
  refine x_aload_n a 99 d_M_run_99 rfl ?_
  refine x_getR a 100 f_M_19 d_M_run_100 rfl (by omega) (by decide) (o' := 65) rfl ?_
  refine x_aload_n a 103 d_M_run_103 rfl ?_
  refine x_getI a 104 f_M_109 d_M_run_104 rfl (by omega) (by decide) (v := nI c) (by rw [up2_k _ _ _ (by decide), up2_k _ _ _ (by decide)]; exact hc) ?_
  refine x_iald a 107 d_M_run_107 rfl (by omega) (j := c) rfl (by omega) (by decide) (v := h 65 c) (by rw [up2_o _ _ _ (by omega), up2_o _ _ _ (by omega)]) ?_
  refine x_icmp_ne a 108 138 d_M_run_108 (by decide) (fun c108 => ?_) (fun c108 => ?_)
  · refine x_lv [(0, .inr (some 61)), (1, .inl (nI N)), (2, .inl (nI k))] (List.forall_mem_cons.mpr ⟨rfl, List.forall_mem_cons.mpr ⟨rfl, List.forall_mem_cons.mpr ⟨rfl, fun _ z => absurd z List.not_mem_nil⟩⟩⟩) ?_
    unfold m_end at K
    first | (rw [if_pos c108] at K; exact K) | (rw [if_neg c108] at K; exact K)
  · refine x_aload_n a 111 d_M_run_111 rfl ?_
    refine x_getR a 112 f_M_68 d_M_run_112 rfl (by omega) (by decide) (o' := 81) rfl ?_
    refine x_iload_n a 115 d_M_run_115 rfl ?_
    refine x_iconst a 116 0 d_M_run_116 (by decide) ?_
    refine x_zast a 117 d_M_run_117 rfl (by omega) (j := p) rfl (by omega) (by decide) rfl ?_
    refine x_aload_n a 118 d_M_run_118 rfl ?_
    refine x_iconst a 119 0 d_M_run_119 (by decide) ?_
    refine x_putI a 120 f_M_112 d_M_run_120 rfl (by omega) (by decide) rfl rfl rfl ?_
    refine x_aload_n a 123 d_M_run_123 rfl ?_
    refine x_aload_n a 124 d_M_run_124 rfl ?_
    refine x_getI a 125 f_M_109 d_M_run_125 rfl (by omega) (by decide) (v := nI c) (by rw [up2_k _ _ _ (by decide), up2_o _ _ _ (by decide), up2_k _ _ _ (by decide), up2_k _ _ _ (by decide)]; exact hc) ?_
    refine x_iconst a 128 1 d_M_run_128 (by decide) ?_
    refine x_iadd a 129 d_M_run_129 ?_
    refine x_aload_n a 130 d_M_run_130 rfl ?_
    refine x_getI a 131 f_M_95 d_M_run_131 rfl (by omega) (by decide) (v := nI n) (by rw [up2_k _ _ _ (by decide), up2_o _ _ _ (by decide), up2_k _ _ _ (by decide), up2_k _ _ _ (by decide)]; exact hn) ?_
    refine x_irem a 134 d_M_run_134 (nI_ne0 (by omega) (by omega)) ?_
    refine x_push (y := nI ((c + 1) % n)) (by rw [nI_1]; exact pk_rem (by omega) (by omega) (by omega)) ?_
    refine x_putI a 135 f_M_109 d_M_run_135 rfl (by omega) (by decide) rfl rfl rfl ?_
    refine x_lv [(0, .inr (some 61)), (1, .inl (nI N)), (2, .inl (nI k))] (List.forall_mem_cons.mpr ⟨rfl, List.forall_mem_cons.mpr ⟨rfl, List.forall_mem_cons.mpr ⟨rfl, fun _ z => absurd z List.not_mem_nil⟩⟩⟩) ?_
    unfold m_end at K
    first | (rw [if_pos c108] at K; exact K) | (rw [if_neg c108] at K; exact K)
set_option maxRecDepth 100000 in
set_option maxHeartbeats 4000000 in
theorem l_M_run {E : En} {ad : Nat → Nat} {h : Hp} {n0 : Nat} {Post : Option Int32 → Wd → Prop} (a : Amb u_M_run 3 E) (qf : Fin Post n0 ad 0 0 E) (qa : va_AO R_2 (eS E) ∧ va_AO R_3 (eS E)) (hcs : 0 ≤ (eR E).cells ∧ 0 ≤ (eR E).slots) {N : Nat} (hN : N ≤ 200) (hs : ∀ k, k < N → TM (m_ticks h k)) (hpo : Post (some (m_ticks h N 61 30)) (w0 (m_ticks h N))) : ∀ m k : Nat, k ≤ N → N < k + m → X E 0 0 ad (w0 (m_ticks h k)) 27 [(0, .inr (some 61)), (1, .inl (nI N)), (2, .inl (nI k))] [] := by
  intro m
  induction m with
  | zero => intro k h1 h2; omega
  | succ m ih =>
    intro k h1 h2
    refine x_iload_n a 27 d_M_run_27 rfl ?_
    refine x_iload_n a 28 d_M_run_28 rfl ?_
    refine x_icmp_ge a 29 144 d_M_run_29 (by decide) (fun c29 => ?_) (fun c29 => ?_)
    · have hk : k = N := (by (try simp (disch := omega) only [Int32.le_iff_toInt_le, Int32.lt_iff_toInt_lt, ← Int32.toInt_inj, Int32.reduceToInt, nI_1, nI_add, pk_sub, nI_toInt] at *); omega)
      subst hk
      refine x_aload_n a 144 d_M_run_144 rfl ?_
      refine x_getI a 145 f_M_118 d_M_run_145 rfl (by omega) (by decide) rfl ?_
      exact x_iret a qf 148 d_M_run_148 rfl hpo
    · have hk : k < N := (by (try simp (disch := omega) only [Int32.le_iff_toInt_le, Int32.lt_iff_toInt_lt, ← Int32.toInt_inj, Int32.reduceToInt, nI_1, nI_add, pk_sub, nI_toInt] at *); omega)
      obtain ⟨g, hg⟩ : ∃ g, g = m_ticks h k := ⟨_, rfl⟩
      have hS := hs k hk
      rw [← hg] at hS ⊢
      obtain ⟨t1, t2, t3, t4, t5, t6⟩ := hS
      have t11 := t1.1
      have t21 := t2.1
      have t31 := t3.1
      have t7 := t6 _ t3.1
      refine x_aload_n a 32 d_M_run_32 rfl ?_
      refine x_getR a 33 f_M_16 d_M_run_33 rfl (by omega) (by decide) (o' := 64) rfl ?_
      refine x_aload_n a 36 d_M_run_36 rfl ?_
      refine x_getI a 37 f_M_109 d_M_run_37 rfl (by omega) (by decide) (v := nI (tn (g 61 27))) t1.2 ?_
      refine x_iald a 40 d_M_run_40 rfl (by omega) (j := tn (g 61 27)) rfl (by omega) (by decide) (v := nI (tn (g 64 (tn (g 61 27))))) t3.2 ?_
      refine x_istore_n a 41 d_M_run_41 (by decide) ?_
      refine x_aload_n a 42 d_M_run_42 rfl ?_
      refine x_getR a 43 f_M_64 d_M_run_43 rfl (by omega) (by decide) (o' := 80) rfl ?_
      refine x_iload_n a 46 d_M_run_46 rfl ?_
      refine x_zald a 47 d_M_run_47 rfl (by omega) (j := tn (g 64 (tn (g 61 27)))) rfl t3.1 (by decide) rfl ?_
      refine x_if_eq a 48 75 d_M_run_48 (by decide) (fun c48 => ?_) (fun c48 => ?_)
      · refine x_lv [(0, .inr (some 61)), (1, .inl (nI N)), (2, .inl (nI k)), (3, .inl (nI (tn (g 64 (tn (g 61 27))))))] (List.forall_mem_cons.mpr ⟨rfl, List.forall_mem_cons.mpr ⟨rfl, List.forall_mem_cons.mpr ⟨rfl, List.forall_mem_cons.mpr ⟨rfl, fun _ z => absurd z List.not_mem_nil⟩⟩⟩⟩) ?_
        have tv : ∀ f : Hp, (f = g ∨ KM (up2 g 61 30 (g 61 30 + 1)) f) → f 61 27 = nI (tn (g 61 27)) ∧ f 61 24 = nI (tn (g 61 24)) := fun f hf => ⟨by rw [(tick_v hf).1 27 (by decide)]; exact t1.2, by rw [(tick_v hf).1 24 (by decide)]; exact t2.2⟩
        refine l_M_end (c := tn (g 61 27)) (n := tn (g 61 24)) a t3.1 (tv _ (by first | exact Or.inl rfl | exact Or.inr (km_step _ _))).1 t1.1 (tv _ (by first | exact Or.inl rfl | exact Or.inr (km_step _ _))).2 (by omega) ?_
        refine x_w (w' := w0 (m_ticks h (k + 1))) (by rw [m_ticks, ← hg, m_tk, m_tick]; first | (rw [if_pos (⟨c48, c57⟩ : m_acts g _)]; done) | (rw [if_neg (by rintro ⟨z1, z2⟩; first | exact z1 c48 | exact c57 z2)]; done)) ?_
        refine x_iinc a 138 (nI (k + 1)) d_M_run_138 rfl (nI_inc k) (by decide) ?_
        refine x_goto a 141 27 d_M_run_141 (by decide) ?_
        refine x_lv [(0, .inr (some 61)), (1, .inl (nI N)), (2, .inl (nI (k + 1)))] (List.forall_mem_cons.mpr ⟨rfl, List.forall_mem_cons.mpr ⟨rfl, List.forall_mem_cons.mpr ⟨rfl, fun _ z => absurd z List.not_mem_nil⟩⟩⟩) ?_
        exact ih (k + 1) hk (by omega)
      · refine x_aload_n a 51 d_M_run_51 rfl ?_
        refine x_getR a 52 f_M_68 d_M_run_52 rfl (by omega) (by decide) (o' := 81) rfl ?_
        refine x_iload_n a 55 d_M_run_55 rfl ?_
        refine x_zald a 56 d_M_run_56 rfl (by omega) (j := tn (g 64 (tn (g 61 27)))) rfl t3.1 (by decide) rfl ?_
        refine x_if_ne a 57 75 d_M_run_57 (by decide) (fun c57 => ?_) (fun c57 => ?_)
        · refine x_lv [(0, .inr (some 61)), (1, .inl (nI N)), (2, .inl (nI k)), (3, .inl (nI (tn (g 64 (tn (g 61 27))))))] (List.forall_mem_cons.mpr ⟨rfl, List.forall_mem_cons.mpr ⟨rfl, List.forall_mem_cons.mpr ⟨rfl, List.forall_mem_cons.mpr ⟨rfl, fun _ z => absurd z List.not_mem_nil⟩⟩⟩⟩) ?_
          have tv : ∀ f : Hp, (f = g ∨ KM (up2 g 61 30 (g 61 30 + 1)) f) → f 61 27 = nI (tn (g 61 27)) ∧ f 61 24 = nI (tn (g 61 24)) := fun f hf => ⟨by rw [(tick_v hf).1 27 (by decide)]; exact t1.2, by rw [(tick_v hf).1 24 (by decide)]; exact t2.2⟩
          refine l_M_end (c := tn (g 61 27)) (n := tn (g 61 24)) a t3.1 (tv _ (by first | exact Or.inl rfl | exact Or.inr (km_step _ _))).1 t1.1 (tv _ (by first | exact Or.inl rfl | exact Or.inr (km_step _ _))).2 (by omega) ?_
          refine x_w (w' := w0 (m_ticks h (k + 1))) (by rw [m_ticks, ← hg, m_tk, m_tick]; first | (rw [if_pos (⟨c48, c57⟩ : m_acts g _)]; done) | (rw [if_neg (by rintro ⟨z1, z2⟩; first | exact z1 c48 | exact c57 z2)]; done)) ?_
          refine x_iinc a 138 (nI (k + 1)) d_M_run_138 rfl (nI_inc k) (by decide) ?_
          refine x_goto a 141 27 d_M_run_141 (by decide) ?_
          refine x_lv [(0, .inr (some 61)), (1, .inl (nI N)), (2, .inl (nI (k + 1)))] (List.forall_mem_cons.mpr ⟨rfl, List.forall_mem_cons.mpr ⟨rfl, List.forall_mem_cons.mpr ⟨rfl, fun _ z => absurd z List.not_mem_nil⟩⟩⟩) ?_
          exact ih (k + 1) hk (by omega)
        · refine x_aload_n a 60 d_M_run_60 rfl ?_
          refine x_dup a 61 d_M_run_61 ?_
          refine x_getI a 62 f_M_118 d_M_run_62 rfl (by omega) (by decide) rfl ?_
          refine x_iconst a 65 1 d_M_run_65 (by decide) ?_
          refine x_iadd a 66 d_M_run_66 ?_
          refine x_putI a 67 f_M_118 d_M_run_67 rfl (by omega) (by decide) rfl rfl rfl ?_
          refine x_aload_n a 70 d_M_run_70 rfl ?_
          refine x_iload_n a 71 d_M_run_71 rfl ?_
          refine x_callV a qa 72 g_M_121 d_M_run_72 (c_M_step _ t3.1 (by rw [up2_o _ _ _ (by omega)]; exact t7.1) (by rw [up2_o _ _ _ (by omega)]; exact t7.2.1) (by rw [up2_k _ _ _ (by decide)]; exact t4) (by unfold mReg; rw [up2_o _ _ _ (by omega), up2_o _ _ _ (by omega)]; exact t7.2.2) (fun k hk => by rw [up2_o _ _ _ (by omega), up2_o _ _ _ (by omega)]; exact t5 k hk)) rfl rfl rfl (show _ < 86 by omega) (by decide) (Nat.le_of_ble_eq_true rfl) hcs (fun v w' hp => ?_)
          obtain ⟨rfl, rfl⟩ := hp
          refine x_st0 ?_
          refine x_lv [(0, .inr (some 61)), (1, .inl (nI N)), (2, .inl (nI k)), (3, .inl (nI (tn (g 64 (tn (g 61 27))))))] (List.forall_mem_cons.mpr ⟨rfl, List.forall_mem_cons.mpr ⟨rfl, List.forall_mem_cons.mpr ⟨rfl, List.forall_mem_cons.mpr ⟨rfl, fun _ z => absurd z List.not_mem_nil⟩⟩⟩⟩) ?_
          have tv : ∀ f : Hp, (f = g ∨ KM (up2 g 61 30 (g 61 30 + 1)) f) → f 61 27 = nI (tn (g 61 27)) ∧ f 61 24 = nI (tn (g 61 24)) := fun f hf => ⟨by rw [(tick_v hf).1 27 (by decide)]; exact t1.2, by rw [(tick_v hf).1 24 (by decide)]; exact t2.2⟩
          refine l_M_end (c := tn (g 61 27)) (n := tn (g 61 24)) a t3.1 (tv _ (by first | exact Or.inl rfl | exact Or.inr (km_step _ _))).1 t1.1 (tv _ (by first | exact Or.inl rfl | exact Or.inr (km_step _ _))).2 (by omega) ?_
          refine x_w (w' := w0 (m_ticks h (k + 1))) (by rw [m_ticks, ← hg, m_tk, m_tick]; first | (rw [if_pos (⟨c48, c57⟩ : m_acts g _)]; done) | (rw [if_neg (by rintro ⟨z1, z2⟩; first | exact z1 c48 | exact c57 z2)]; done)) ?_
          refine x_iinc a 138 (nI (k + 1)) d_M_run_138 rfl (nI_inc k) (by decide) ?_
          refine x_goto a 141 27 d_M_run_141 (by decide) ?_
          refine x_lv [(0, .inr (some 61)), (1, .inl (nI N)), (2, .inl (nI (k + 1)))] (List.forall_mem_cons.mpr ⟨rfl, List.forall_mem_cons.mpr ⟨rfl, List.forall_mem_cons.mpr ⟨rfl, fun _ z => absurd z List.not_mem_nil⟩⟩⟩) ?_
          exact ih (k + 1) hk (by omega)
set_option maxRecDepth 100000 in
set_option maxHeartbeats 4000000 in
theorem c_M_run (h : Hp) (n : Int32) (hs : ¬ h 61 26 = 0 → ∀ k, k < 200 → TM (m_ticks (up2 h 61 30 0) k)) : Cn u_M_run 3 0 0 (w0 h) [.inr (some 61), .inl n] (fun v w' => v = some (m_run h n).2 ∧ w' = w0 (m_run h n).1) := by
  refine Cn.of (by decide +kernel) (Nat.le_of_ble_eq_true rfl) (fun E ad a qf => ?_)
  have qa := qf.2.2.2
  have hcs : 0 ≤ (eR E).cells ∧ 0 ≤ (eR E).slots := ⟨Nat.zero_le _, Nat.zero_le _⟩
  refine x_aload_n a 0 d_M_run_0 rfl ?_
  refine x_getI a 1 f_M_91 d_M_run_1 rfl (by omega) (by decide) rfl ?_
  refine x_if_eq a 4 18 d_M_run_4 (by decide) (fun c4 => ?_) (fun c4 => ?_)
  · refine x_iconst a 18 (-1) d_M_run_18 (by decide) ?_
    exact x_iret a qf 19 d_M_run_19 rfl ⟨by unfold m_run; rw [if_neg (by rintro ⟨z1, z2⟩; first | exact z1 c4 | exact c15 z2)], by unfold m_run; rw [if_neg (by rintro ⟨z1, z2⟩; first | exact z1 c4 | exact c15 z2)]⟩
  · refine x_iload_n a 7 d_M_run_7 rfl ?_
    refine x_iconst a 8 0 d_M_run_8 (by decide) ?_
    refine x_sipush a 9 200 d_M_run_9 (by decide) ?_
    refine x_callS a qa 12 g_M_83 d_M_run_12 (c_M_in _ _ _ _) rfl rfl (by decide) (Nat.le_of_ble_eq_true rfl) hcs (fun v w' hp => ?_)
    obtain ⟨rfl, rfl⟩ := hp
    refine x_st1 ?_
    refine x_ifB_ne a 15 20 d_M_run_15 (by decide) (fun c15 => ?_) (fun c15 => ?_)
    · obtain ⟨N, hN, rfl⟩ := vp_in_of (x := n) (n := 201) (vp_in_iff.mpr (by have z1 := c15.1; have z2 := c15.2; (try simp (disch := omega) only [Int32.le_iff_toInt_le, Int32.lt_iff_toInt_lt, ← Int32.toInt_inj, Int32.reduceToInt, nI_1, nI_add, pk_sub, nI_toInt] at *); omega)) (by decide)
      refine x_aload_n a 20 d_M_run_20 rfl ?_
      refine x_iconst a 21 0 d_M_run_21 (by decide) ?_
      refine x_putI a 22 f_M_118 d_M_run_22 rfl (by omega) (by decide) rfl rfl rfl ?_
      refine x_iconst a 25 0 d_M_run_25 (by decide) ?_
      refine x_istore_n a 26 d_M_run_26 (by decide) ?_
      refine x_lv [(0, .inr (some 61)), (1, .inl (nI N)), (2, .inl (nI 0))] (List.forall_mem_cons.mpr ⟨rfl, List.forall_mem_cons.mpr ⟨rfl, List.forall_mem_cons.mpr ⟨rfl, fun _ z => absurd z List.not_mem_nil⟩⟩⟩) ?_
      exact l_M_run (h := up2 h 61 30 0) (N := N) a qf qa hcs (by omega) (fun i hi => hs c4 i (by omega)) (by constructor <;> (unfold m_run; rw [if_pos ⟨c4, c15⟩, tn_nI (by omega)])) (N + 1) 0 (by omega) (by omega)
    · refine x_iconst a 18 (-1) d_M_run_18 (by decide) ?_
      exact x_iret a qf 19 d_M_run_19 rfl ⟨by unfold m_run; rw [if_neg (by rintro ⟨z1, z2⟩; first | exact z1 c4 | exact c15 z2)], by unfold m_run; rw [if_neg (by rintro ⟨z1, z2⟩; first | exact z1 c4 | exact c15 z2)]⟩
