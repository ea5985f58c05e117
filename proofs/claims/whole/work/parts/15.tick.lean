/-- what the desk's cells keep to -/
def IC (h : Hp) : Prop :=
  (∀ j, j < 4 → Nlt (h (9 + 9 * j) 1) 8 ∧ Nlt (h (9 + 9 * j) 2) 9 ∧ Nlt (h (3 + 9 * j) 7) 65 ∧ Nlt (h (3 + 9 * j) 8) 33 ∧ tn (h (3 + 9 * j) 7) + tn (h (3 + 9 * j) 8) ≤ 64 ∧ Nlt (h (3 + 9 * j) 12) (2 ^ 30)) ∧
  Nlt (h 0 4) 7 ∧ (∀ i, i < tn (h 0 4) → Nlt (h (40 + 3 * i) 1) 4 ∧ Nlt (h (40 + 3 * i) 2) 4) ∧
  (∀ i, i < 6 → Nlt (h (40 + 3 * i) 3) 5 ∧ Nlt (h (41 + 3 * i) 1) 4 ∧ Nlt (h (41 + 3 * i) 2) 5) ∧
  Nlt (h 58 2) 9 ∧ (∀ k, k < tn (h 58 2) → Nlt (h 59 k) 4 ∧ Nlt (h 60 k) 10)
theorem IC.p {h : Hp} (I : IC h) {j : Nat} (hj : j < 4) : Nlt (h (9 + 9 * j) 1) 8 ∧ Nlt (h (9 + 9 * j) 2) 9 ∧ Nlt (h (3 + 9 * j) 7) 65 ∧ Nlt (h (3 + 9 * j) 8) 33 ∧ tn (h (3 + 9 * j) 7) + tn (h (3 + 9 * j) 8) ≤ 64 ∧ Nlt (h (3 + 9 * j) 12) (2 ^ 30) := I.1 j hj
theorem IC.n {h : Hp} (I : IC h) : Nlt (h 0 4) 7 := I.2.1
theorem IC.s {h : Hp} (I : IC h) : ∀ i, i < tn (h 0 4) → Nlt (h (40 + 3 * i) 1) 4 ∧ Nlt (h (40 + 3 * i) 2) 4 := I.2.2.1
theorem IC.q {h : Hp} (I : IC h) : ∀ i, i < 6 → Nlt (h (40 + 3 * i) 3) 5 ∧ Nlt (h (41 + 3 * i) 1) 4 ∧ Nlt (h (41 + 3 * i) 2) 5 := I.2.2.2.1
theorem IC.w {h : Hp} (I : IC h) : Nlt (h 58 2) 9 := I.2.2.2.2.1
theorem IC.f {h : Hp} (I : IC h) : ∀ k, k < tn (h 58 2) → Nlt (h 59 k) 4 ∧ Nlt (h 60 k) 10 := I.2.2.2.2.2
theorem fault0_w {h : Hp} (I : IC h) {j : Nat} (hj : j < 4) {o x b : Int32} (h0 : d_fault h j o x b = 0) : o = 5 ∨ o = 6 → Nlt (h (3 + 9 * j) 7 + h (8 + 9 * j) (rg b)) 64 := by
  intro ho
  unfold d_fault at h0
  rw [if_pos ho] at h0
  by_cases hc : 0 ≤ h (8 + 9 * j) (rg b) ∧ h (8 + 9 * j) (rg b) < h (3 + 9 * j) 8
  · obtain ⟨-, -, hf, hs, hfs, -⟩ := I.p hj
    have h1 := tn_lt hc.1 hc.2
    have h2 := nn_tn hc.1
    refine Nlt.of (k := tn (h (3 + 9 * j) 7) + tn (h (8 + 9 * j) (rg b))) ?_ (by omega) (by decide)
    rw [hf.2, h2, nI_add, ← h2, ← hf.2]
  · rw [if_neg hc] at h0
    cases h0
theorem fault0_x {h : Hp} (I : IC h) {j : Nat} {o x b : Int32} (h0 : d_fault h j o x b = 0) : o = 9 ∨ o = 10 → Nlt x 6 := by
  intro ho
  have h4 := I.n.1
  have key : (0 ≤ x ∧ x < h 0 4) → Nlt x 6 := fun z => ⟨by have := tn_lt z.1 z.2; omega, nn_tn z.1⟩
  unfold d_fault at h0
  rcases ho with rfl | rfl
  · rw [if_neg (by decide), if_pos rfl] at h0
    by_cases hc : (0 ≤ x ∧ x < h 0 4) ∧ h (40 + 3 * tn x) 1 = nI j
    · exact key hc.1
    · rw [if_neg hc] at h0
      cases h0
  · rw [if_neg (by decide), if_neg (by decide), if_pos rfl] at h0
    by_cases hc : (0 ≤ x ∧ x < h 0 4) ∧ h (40 + 3 * tn x) 2 = nI j
    · exact key hc.1
    · rw [if_neg hc] at h0
      cases h0
def d_step (h : Hp) (j : Nat) : Hp :=
  if 0 ≤ h (3 + 9 * j) 9 ∧ h (3 + 9 * j) 9 < 16 then
    (if d_fault h j (h (4 + 9 * j) (tn (h (3 + 9 * j) 9))) (h (5 + 9 * j) (tn (h (3 + 9 * j) 9))) (h (6 + 9 * j) (tn (h (3 + 9 * j) 9))) = 0 then d_carry h j (h (4 + 9 * j) (tn (h (3 + 9 * j) 9))) (h (5 + 9 * j) (tn (h (3 + 9 * j) 9))) (h (6 + 9 * j) (tn (h (3 + 9 * j) 9)))
     else d_answer h j (d_fault h j (h (4 + 9 * j) (tn (h (3 + 9 * j) 9))) (h (5 + 9 * j) (tn (h (3 + 9 * j) 9))) (h (6 + 9 * j) (tn (h (3 + 9 * j) 9)))))
  else d_answer h j 4
set_option maxRecDepth 100000 in
set_option maxHeartbeats 4000000 in
theorem c_D_doInstruction (h : Hp) (I : IC h) {j : Nat} (hj : j < 4) : Cn u_D_doInstruction 4 0 0 (w0 h) [.inr (some 0), .inl (nI j)] (fun r w' => r = none ∧ w' = w0 (d_step h j)) := by
  refine Cn.of (by decide +kernel) (Nat.le_of_ble_eq_true rfl) (fun E ad a qf => ?_)
  have qa := qf.2.2.2
  have hcs : 0 ≤ (eR E).cells ∧ 0 ≤ (eR E).slots := ⟨Nat.zero_le _, Nat.zero_le _⟩
  obtain ⟨pl, hpl⟩ : ∃ z, z = h (3 + 9 * j) 9 := ⟨_, rfl⟩
  refine x_aload_n a 0 d_D_doInstruction_0 rfl ?_
  refine x_getR a 1 f_D_15 d_D_doInstruction_1 rfl (by omega) (by decide) rfl ?_
  refine x_iload_n a 4 d_D_doInstruction_4 rfl ?_
  refine x_aald2 a 5 d_D_doInstruction_5 rfl (by omega) (j := j) rfl (by omega) (by decide) (rPs (by omega)) ?_
  refine x_astore_n a 6 d_D_doInstruction_6 (by decide) ?_
  refine x_aload_n a 7 d_D_doInstruction_7 rfl ?_
  refine x_getI a 8 f_D_159 d_D_doInstruction_8 (kP (by omega)) (by omega) (by decide) (v := pl) hpl.symm ?_
  refine x_istore_n a 11 d_D_doInstruction_11 (by decide) ?_
  refine x_iload_n a 12 d_D_doInstruction_12 rfl ?_
  refine x_if_lt a 13 22 d_D_doInstruction_13 (by decide) (fun c13 => ?_) (fun c13 => ?_)
  · refine x_aload_n a 22 d_D_doInstruction_22 rfl ?_
    refine x_iload_n a 23 d_D_doInstruction_23 rfl ?_
    refine x_iconst a 24 4 d_D_doInstruction_24 (by decide) ?_
    refine x_callV a qa 25 g_D_162 d_D_doInstruction_25 (c_D_answerFault _ hj I.n (I.p hj).2.2.1 (I.p hj).2.2.2.1 (I.p hj).2.2.2.2.1 (f := 4) (by decide) (by decide)) rfl rfl rfl (show _ < 86 by omega) (by decide) (Nat.le_of_ble_eq_true rfl) hcs (fun v w' hp => ?_)
    obtain ⟨rfl, rfl⟩ := hp
    refine x_st0 ?_
    exact x_vret a qf 28 d_D_doInstruction_28 rfl ⟨rfl, by unfold d_step; rw [← hpl, if_neg (by (try simp (disch := omega) only [Int32.le_iff_toInt_le, Int32.lt_iff_toInt_lt, ← Int32.toInt_inj, Int32.reduceToInt, nI_1, nI_add, pk_sub, nI_toInt] at *); omega)]⟩
  · refine x_iload_n a 16 d_D_doInstruction_16 rfl ?_
    refine x_bipush a 17 16 d_D_doInstruction_17 (by decide) ?_
    refine x_icmp_lt a 19 29 d_D_doInstruction_19 (by decide) (fun c19 => ?_) (fun c19 => ?_)
    · obtain ⟨n, hn16, rfl⟩ := vp_in_of (x := pl) (n := 16) (vp_in_iff.mpr (by (try simp (disch := omega) only [Int32.le_iff_toInt_le, Int32.lt_iff_toInt_lt, ← Int32.toInt_inj, Int32.reduceToInt, nI_1, nI_add, pk_sub, nI_toInt] at *); omega)) (by decide)
      refine x_aload_n a 29 d_D_doInstruction_29 rfl ?_
      refine x_iload_n a 30 d_D_doInstruction_30 rfl ?_
      refine x_aload_n a 31 d_D_doInstruction_31 rfl ?_
      refine x_getR a 32 f_D_70 d_D_doInstruction_32 (kP (by omega)) (by omega) (by decide) (rP0 (by omega)) ?_
      refine x_iload_n a 35 d_D_doInstruction_35 rfl ?_
      refine x_iald a 36 d_D_doInstruction_36 (kA4 (by omega)) (by omega) (j := n) rfl hn16 (by decide) rfl ?_
      refine x_aload_n a 37 d_D_doInstruction_37 rfl ?_
      refine x_getR a 38 f_D_73 d_D_doInstruction_38 (kP (by omega)) (by omega) (by decide) (rP1 (by omega)) ?_
      refine x_iload_n a 41 d_D_doInstruction_41 rfl ?_
      refine x_iald a 42 d_D_doInstruction_42 (kA5 (by omega)) (by omega) (j := n) rfl hn16 (by decide) rfl ?_
      refine x_aload_n a 43 d_D_doInstruction_43 rfl ?_
      refine x_getR a 44 f_D_76 d_D_doInstruction_44 (kP (by omega)) (by omega) (by decide) (rP2 (by omega)) ?_
      refine x_iload_n a 47 d_D_doInstruction_47 rfl ?_
      refine x_iald a 48 d_D_doInstruction_48 (kA6 (by omega)) (by omega) (j := n) rfl hn16 (by decide) rfl ?_
      refine x_callV a qa 49 g_D_165 d_D_doInstruction_49 (c_D_faultAhead _ hj I.n _ _ _) rfl rfl rfl (show _ < 86 by omega) (by decide) (Nat.le_of_ble_eq_true rfl) hcs (fun v w' hp => ?_)
      obtain ⟨rfl, rfl⟩ := hp
      refine x_st1 ?_
      refine x_istore a 52 d_D_doInstruction_52 (by decide) ?_
      refine x_iload a 54 d_D_doInstruction_54 rfl ?_
      refine x_if_eq a 56 67 d_D_doInstruction_56 (by decide) (fun c56 => ?_) (fun c56 => ?_)
      · have hfl : (d_fault h j (h (4 + 9 * j) n) (h (5 + 9 * j) n) (h (6 + 9 * j) n)) = 0 := by have := d_fault_le h j (h (4 + 9 * j) n) (h (5 + 9 * j) n) (h (6 + 9 * j) n); exact (by (try simp (disch := omega) only [Int32.le_iff_toInt_le, Int32.lt_iff_toInt_lt, ← Int32.toInt_inj, Int32.reduceToInt, nI_1, nI_add, pk_sub, nI_toInt] at *); omega)
        refine x_aload_n a 67 d_D_doInstruction_67 rfl ?_
        refine x_aload_n a 68 d_D_doInstruction_68 rfl ?_
        refine x_aload_n a 69 d_D_doInstruction_69 rfl ?_
        refine x_getR a 70 f_D_70 d_D_doInstruction_70 (kP (by omega)) (by omega) (by decide) (rP0 (by omega)) ?_
        refine x_iload_n a 73 d_D_doInstruction_73 rfl ?_
        refine x_iald a 74 d_D_doInstruction_74 (kA4 (by omega)) (by omega) (j := n) rfl hn16 (by decide) rfl ?_
        refine x_aload_n a 75 d_D_doInstruction_75 rfl ?_
        refine x_getR a 76 f_D_73 d_D_doInstruction_76 (kP (by omega)) (by omega) (by decide) (rP1 (by omega)) ?_
        refine x_iload_n a 79 d_D_doInstruction_79 rfl ?_
        refine x_iald a 80 d_D_doInstruction_80 (kA5 (by omega)) (by omega) (j := n) rfl hn16 (by decide) rfl ?_
        refine x_aload_n a 81 d_D_doInstruction_81 rfl ?_
        refine x_getR a 82 f_D_76 d_D_doInstruction_82 (kP (by omega)) (by omega) (by decide) (rP2 (by omega)) ?_
        refine x_iload_n a 85 d_D_doInstruction_85 rfl ?_
        refine x_iald a 86 d_D_doInstruction_86 (kA6 (by omega)) (by omega) (j := n) rfl hn16 (by decide) rfl ?_
        refine x_callV a qa 87 g_D_169 d_D_doInstruction_87 (c_D_carryOut _ hj _ _ _ (fault0_w I hj hfl) (fault0_x I hfl) I.q ⟨(I.p hj).1, (I.p hj).2.1⟩ (I.p hj).2.2.2.2.2) rfl rfl rfl (show _ < 86 by omega) (by decide) (Nat.le_of_ble_eq_true rfl) hcs (fun v w' hp => ?_)
        obtain ⟨rfl, rfl⟩ := hp
        refine x_st0 ?_
        exact x_vret a qf 90 d_D_doInstruction_90 rfl ⟨rfl, by unfold d_step; rw [← hpl, tn_nI (by omega), if_pos (by (try simp (disch := omega) only [Int32.le_iff_toInt_le, Int32.lt_iff_toInt_lt, ← Int32.toInt_inj, Int32.reduceToInt, nI_1, nI_add, pk_sub, nI_toInt] at *); omega), if_pos hfl]⟩
      · have hfl : ¬ (d_fault h j (h (4 + 9 * j) n) (h (5 + 9 * j) n) (h (6 + 9 * j) n)) = 0 := fun z => c56 (by rw [z]; rfl)
        have hfm := d_fault_le h j (h (4 + 9 * j) n) (h (5 + 9 * j) n) (h (6 + 9 * j) n)
        refine x_aload_n a 59 d_D_doInstruction_59 rfl ?_
        refine x_iload_n a 60 d_D_doInstruction_60 rfl ?_
        refine x_iload a 61 d_D_doInstruction_61 rfl ?_
        refine x_callV a qa 63 g_D_162 d_D_doInstruction_63 (c_D_answerFault _ hj I.n (I.p hj).2.2.1 (I.p hj).2.2.2.1 (I.p hj).2.2.2.2.1 (by omega) (by omega)) rfl rfl rfl (show _ < 86 by omega) (by decide) (Nat.le_of_ble_eq_true rfl) hcs (fun v w' hp => ?_)
        obtain ⟨rfl, rfl⟩ := hp
        refine x_st0 ?_
        exact x_vret a qf 66 d_D_doInstruction_66 rfl ⟨rfl, by unfold d_step; rw [← hpl, tn_nI (by omega), if_pos (by (try simp (disch := omega) only [Int32.le_iff_toInt_le, Int32.lt_iff_toInt_lt, ← Int32.toInt_inj, Int32.reduceToInt, nI_1, nI_add, pk_sub, nI_toInt] at *); omega), if_neg hfl]⟩
    · refine x_aload_n a 22 d_D_doInstruction_22 rfl ?_
      refine x_iload_n a 23 d_D_doInstruction_23 rfl ?_
      refine x_iconst a 24 4 d_D_doInstruction_24 (by decide) ?_
      refine x_callV a qa 25 g_D_162 d_D_doInstruction_25 (c_D_answerFault _ hj I.n (I.p hj).2.2.1 (I.p hj).2.2.2.1 (I.p hj).2.2.2.2.1 (f := 4) (by decide) (by decide)) rfl rfl rfl (show _ < 86 by omega) (by decide) (Nat.le_of_ble_eq_true rfl) hcs (fun v w' hp => ?_)
      obtain ⟨rfl, rfl⟩ := hp
      refine x_st0 ?_
      exact x_vret a qf 28 d_D_doInstruction_28 rfl ⟨rfl, by unfold d_step; rw [← hpl, if_neg (by (try simp (disch := omega) only [Int32.le_iff_toInt_le, Int32.lt_iff_toInt_lt, ← Int32.toInt_inj, Int32.reduceToInt, nI_1, nI_add, pk_sub, nI_toInt] at *); omega)]⟩
/-- the table and the frame's own numbers stay -/
def Kp (h g : Hp) : Prop := g 0 = h 0 ∧ g 59 = h 59 ∧ g 60 = h 60 ∧ ∀ k, k ≠ 6 → g 58 k = h 58 k
theorem Kp.rf {h : Hp} : Kp h h := ⟨rfl, rfl, rfl, fun _ _ => rfl⟩
theorem Kp.tr {h g f : Hp} (a : Kp h g) (b : Kp g f) : Kp h f := ⟨b.1.trans a.1, b.2.1.trans a.2.1, b.2.2.1.trans a.2.2.1, fun k hk => (b.2.2.2 k hk).trans (a.2.2.2 k hk)⟩
theorem Kp.up {h g : Hp} (a : Kp h g) {o k : Nat} {x : Int32} (ho : o ≠ 0 ∧ o ≠ 58 ∧ o ≠ 59 ∧ o ≠ 60) : Kp h (up2 g o k x) := a.tr ⟨up2_o _ _ _ (Ne.symm ho.1), up2_o _ _ _ (Ne.symm ho.2.2.1), up2_o _ _ _ (Ne.symm ho.2.2.2), fun z _ => by rw [up2_o _ _ _ (Ne.symm ho.2.1)]⟩
theorem Kp.w {h g : Hp} (a : Kp h g) {x : Int32} : Kp h (up2 g 58 6 x) := a.tr ⟨up2_o _ _ _ (by decide), up2_o _ _ _ (by decide), up2_o _ _ _ (by decide), fun z hz => up2_k _ _ _ hz⟩
theorem Kp.of {h g : Hp} (a : ∀ o, (o = 0 ∨ o = 58 ∨ o = 59 ∨ o = 60) → g o = h o) : Kp h g := ⟨a 0 (by omega), a 59 (by omega), a 60 (by omega), fun k _ => by rw [a 58 (by omega)]⟩
theorem kp_clear (h : Hp) {j : Nat} (hj : j < 4) : Kp h (p_clear h j) := Kp.of (fun o ho => p_clear_o h (by omega) (by omega))
theorem kp_restart (h : Hp) {j : Nat} (hj : j < 4) (hn : Nlt (h 0 4) 7) : Kp h (d_restart h j) := Kp.of (fun o ho => by
  have hn1 := hn.1
  unfold d_restart
  rw [r_prt_o _ _ _ (fun i hi => by omega), r_mem_o _ _ (by omega), p_clear_o _ (by omega) (by omega)])
theorem kp_answer (h : Hp) {j f : Nat} (hj : j < 4) (hn : Nlt (h 0 4) 7) : Kp h (d_answer h j f) := by
  unfold d_answer
  split
  · exact (Kp.rf.up (by omega)).tr (kp_restart _ hj (by rw [up2_o _ _ _ (by omega)]; exact hn))
  split
  · exact (Kp.rf.up (by omega)).up (by omega)
  · exact (Kp.rf.up (by omega)).up (by omega)
theorem kp_compute (h : Hp) {j : Nat} (hj : j < 4) (o x b : Int32) : Kp h (d_compute h j o x b) := by
  unfold d_compute
  repeat' split
  all_goals first | exact Kp.rf | exact Kp.rf.up (by omega)
theorem kp_send (h : Hp) {i j y f c dp : Nat} {now : Int32} (hi : i < 6) (hj : j < 4) : Kp h (s_send h i j y now f c dp) := by
  unfold s_send q_put
  repeat' split
  · exact ((((Kp.rf.up (by omega)).up (by omega)).up (by omega)).up (by omega)).up (by omega)
  · exact ((Kp.rf.up (by omega)).up (by omega)).up (by omega)
  · exact Kp.rf.up (by omega)
theorem kp_take (h : Hp) {q f c len : Nat} (hq : q ≠ 0 ∧ q ≠ 58 ∧ q ≠ 59 ∧ q ≠ 60) : Kp h (q_take h q f c len) := by
  unfold q_take
  split
  · exact (Kp.rf.up hq).up hq
  · exact Kp.rf
theorem kp_recv (h : Hp) {i j y f c dp : Nat} {now : Int32} (hi : i < 6) (hj : j < 4) : Kp h (s_recv h i j y now f c dp) := by
  unfold s_recv
  split
  · exact Kp.rf.up (by omega)
  split
  · exact (Kp.rf.up (by omega)).up (by omega)
  · exact ((kp_take h (by omega)).up (by omega)).up (by omega)
theorem kp_comm (h : Hp) {j : Nat} (hj : j < 4) {o x b : Int32} (hx : o = 9 ∨ o = 10 → Nlt x 6) : Kp h (d_comm h j o x b) := by
  unfold d_comm
  split
  · exact kp_send h (hx (Or.inl (by assumption))).1 hj
  split
  · exact kp_recv h (hx (Or.inr (by assumption))).1 hj
  split
  · exact ((kp_take h (by omega)).up (by omega)).up (by omega)
  split
  · unfold p_out
    split
    · exact (Kp.rf.up (by omega)).up (by omega)
    · exact Kp.rf.up (by omega)
  split
  · exact Kp.rf.w
  split
  · exact Kp.rf.up (by omega)
  · exact Kp.rf
theorem kp_jump (h : Hp) {j : Nat} (hj : j < 4) (o x b : Int32) : Kp h (d_jump h j o x b) := by
  unfold d_jump
  split
  · exact Kp.rf.up (by omega)
  · exact Kp.rf
theorem kp_carry (h : Hp) {j : Nat} (hj : j < 4) {o x b : Int32} (hx : o = 9 ∨ o = 10 → Nlt x 6) : Kp h (d_carry h j o x b) := by
  unfold d_carry
  split
  · exact (Kp.rf.up (by omega)).tr (kp_compute _ hj _ _ _)
  split
  · exact (Kp.rf.up (by omega)).tr (kp_jump _ hj _ _ _)
  · exact (Kp.rf.up (by omega)).tr (kp_comm _ hj hx)
theorem kp_step {h : Hp} (I : IC h) {j : Nat} (hj : j < 4) : Kp h (d_step h j) := by
  unfold d_step
  split
  · split
    · exact kp_carry h hj (fault0_x I (by assumption))
    · exact kp_answer h hj I.n
  · exact kp_answer h hj I.n
def d_tick (h : Hp) (a0 n j v l : Nat) : Hp := f_end (if ¬ h (3 + 9 * j) 10 = 0 ∧ h 58 6 = 0 then d_step h j else h) a0 n v l
set_option maxRecDepth 100000 in
set_option maxHeartbeats 4000000 in
theorem c_D_passTick (h : Hp) (I : IC h) {a0 n j v l : Nat} (ha : h 58 3 = nI a0) (hn : h 58 2 = nI n) (han : a0 < n) (hn8 : n ≤ 8) (hown : h 59 a0 = nI j) (hj : j < 4) (hv : h 58 4 = nI v) (hv9 : v < 1000) (hl : h 60 a0 = nI l) (hl9 : l < 1000) : Cn u_D_passTick 5 0 0 (w0 h) [.inr (some 0)] (fun r w' => r = some (bI (¬ h (3 + 9 * j) 10 = 0 ∧ h 58 6 = 0)) ∧ w' = w0 (d_tick h a0 n j v l)) := by
  refine Cn.of (by decide +kernel) (Nat.le_of_ble_eq_true rfl) (fun E ad a qf => ?_)
  have qa := qf.2.2.2
  have hcs : 0 ≤ (eR E).cells ∧ 0 ≤ (eR E).slots := ⟨Nat.zero_le _, Nat.zero_le _⟩
  refine x_aload_n a 0 d_D_passTick_0 rfl ?_
  refine x_getR a 1 f_D_30 d_D_passTick_1 rfl (by omega) (by decide) rfl ?_
  refine x_callV a qa 4 g_D_143 d_D_passTick_4 (c_F_partitionAtHand _ ha (by omega)) rfl rfl rfl (show _ < 86 by omega) (by decide) (Nat.le_of_ble_eq_true rfl) hcs (fun v w' hp => ?_)
  obtain ⟨rfl, rfl⟩ := hp
  refine x_st1 ?_
  refine x_push hown ?_
  refine x_istore_n a 7 d_D_passTick_7 (by decide) ?_
  refine x_aload_n a 8 d_D_passTick_8 rfl ?_
  refine x_getR a 9 f_D_15 d_D_passTick_9 rfl (by omega) (by decide) rfl ?_
  refine x_iload_n a 12 d_D_passTick_12 rfl ?_
  refine x_aald2 a 13 d_D_passTick_13 rfl (by omega) (j := j) rfl (by omega) (by decide) (rPs (by omega)) ?_
  refine x_getI a 14 f_D_146 d_D_passTick_14 (kP (by omega)) (by omega) (by decide) rfl ?_
  refine x_if_eq a 17 34 d_D_passTick_17 (by decide) (fun c17 => ?_) (fun c17 => ?_)
  · refine x_iconst a 34 0 d_D_passTick_34 (by decide) ?_
    refine x_istore_n a 35 d_D_passTick_35 (by decide) ?_
    refine x_iload_n a 36 d_D_passTick_36 rfl ?_
    refine x_if_eq a 37 45 d_D_passTick_37 (by decide) (fun _ => ?_) (fun z => absurd z (by decide))
    refine x_aload_n a 45 d_D_passTick_45 rfl ?_
    refine x_getR a 46 f_D_30 d_D_passTick_46 rfl (by omega) (by decide) rfl ?_
    refine x_callV a qa 49 g_D_156 d_D_passTick_49 (c_F_endTick _ (a0 := a0) (n := n) (v := v) (l := l) (by first | exact ha | (rw [(kp_step I hj).2.2.2 3 (by decide)]; exact ha)) (by first | exact hn | (rw [(kp_step I hj).2.2.2 2 (by decide)]; exact hn)) han hn8 (by first | exact hv | (rw [(kp_step I hj).2.2.2 4 (by decide)]; exact hv)) hv9 (by first | exact hl | (rw [(kp_step I hj).2.2.1]; exact hl)) hl9) rfl rfl rfl (show _ < 86 by omega) (by decide) (Nat.le_of_ble_eq_true rfl) hcs (fun v w' hp => ?_)
    obtain ⟨rfl, rfl⟩ := hp
    refine x_st0 ?_
    refine x_iload_n a 52 d_D_passTick_52 rfl ?_
    exact x_zret a qf 53 d_D_passTick_53 rfl rfl ⟨by rw [bI_f (by rintro ⟨z, y⟩; first | exact z c17 | exact c27 y)], by unfold d_tick; rw [if_neg (by rintro ⟨z, y⟩; first | exact z c17 | exact c27 y)]⟩
  · refine x_aload_n a 20 d_D_passTick_20 rfl ?_
    refine x_getR a 21 f_D_30 d_D_passTick_21 rfl (by omega) (by decide) rfl ?_
    refine x_getI a 24 f_D_149 d_D_passTick_24 rfl (by omega) (by decide) rfl ?_
    refine x_if_ne a 27 34 d_D_passTick_27 (by decide) (fun c27 => ?_) (fun c27 => ?_)
    · refine x_iconst a 34 0 d_D_passTick_34 (by decide) ?_
      refine x_istore_n a 35 d_D_passTick_35 (by decide) ?_
      refine x_iload_n a 36 d_D_passTick_36 rfl ?_
      refine x_if_eq a 37 45 d_D_passTick_37 (by decide) (fun _ => ?_) (fun z => absurd z (by decide))
      refine x_aload_n a 45 d_D_passTick_45 rfl ?_
      refine x_getR a 46 f_D_30 d_D_passTick_46 rfl (by omega) (by decide) rfl ?_
      refine x_callV a qa 49 g_D_156 d_D_passTick_49 (c_F_endTick _ (a0 := a0) (n := n) (v := v) (l := l) (by first | exact ha | (rw [(kp_step I hj).2.2.2 3 (by decide)]; exact ha)) (by first | exact hn | (rw [(kp_step I hj).2.2.2 2 (by decide)]; exact hn)) han hn8 (by first | exact hv | (rw [(kp_step I hj).2.2.2 4 (by decide)]; exact hv)) hv9 (by first | exact hl | (rw [(kp_step I hj).2.2.1]; exact hl)) hl9) rfl rfl rfl (show _ < 86 by omega) (by decide) (Nat.le_of_ble_eq_true rfl) hcs (fun v w' hp => ?_)
      obtain ⟨rfl, rfl⟩ := hp
      refine x_st0 ?_
      refine x_iload_n a 52 d_D_passTick_52 rfl ?_
      exact x_zret a qf 53 d_D_passTick_53 rfl rfl ⟨by rw [bI_f (by rintro ⟨z, y⟩; first | exact z c17 | exact c27 y)], by unfold d_tick; rw [if_neg (by rintro ⟨z, y⟩; first | exact z c17 | exact c27 y)]⟩
    · refine x_iconst a 30 1 d_D_passTick_30 (by decide) ?_
      refine x_goto a 31 35 d_D_passTick_31 (by decide) ?_
      refine x_istore_n a 35 d_D_passTick_35 (by decide) ?_
      refine x_iload_n a 36 d_D_passTick_36 rfl ?_
      refine x_if_eq a 37 45 d_D_passTick_37 (by decide) (fun z => absurd z (by decide)) (fun _ => ?_)
      refine x_aload_n a 40 d_D_passTick_40 rfl ?_
      refine x_iload_n a 41 d_D_passTick_41 rfl ?_
      refine x_callV a qa 42 g_D_152 d_D_passTick_42 (c_D_doInstruction _ I hj) rfl rfl rfl (show _ < 86 by omega) (by decide) (Nat.le_of_ble_eq_true rfl) hcs (fun v w' hp => ?_)
      obtain ⟨rfl, rfl⟩ := hp
      refine x_st0 ?_
      refine x_aload_n a 45 d_D_passTick_45 rfl ?_
      refine x_getR a 46 f_D_30 d_D_passTick_46 rfl (by omega) (by decide) rfl ?_
      refine x_callV a qa 49 g_D_156 d_D_passTick_49 (c_F_endTick _ (a0 := a0) (n := n) (v := v) (l := l) (by first | exact ha | (rw [(kp_step I hj).2.2.2 3 (by decide)]; exact ha)) (by first | exact hn | (rw [(kp_step I hj).2.2.2 2 (by decide)]; exact hn)) han hn8 (by first | exact hv | (rw [(kp_step I hj).2.2.2 4 (by decide)]; exact hv)) hv9 (by first | exact hl | (rw [(kp_step I hj).2.2.1]; exact hl)) hl9) rfl rfl rfl (show _ < 86 by omega) (by decide) (Nat.le_of_ble_eq_true rfl) hcs (fun v w' hp => ?_)
      obtain ⟨rfl, rfl⟩ := hp
      refine x_st0 ?_
      refine x_iload_n a 52 d_D_passTick_52 rfl ?_
      exact x_zret a qf 53 d_D_passTick_53 rfl rfl ⟨by rw [bI_t ⟨c17, c27⟩], by unfold d_tick; rw [if_pos ⟨c17, c27⟩]⟩
