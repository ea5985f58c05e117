def mS (h : Hp) : Nat → Bool
  | 0 => false
  | p + 1 => mS h p || decide (m_part h p)
def mH (h : Hp) (p : Nat) : Nat → Bool
  | 0 => false
  | k + 1 => mH h p k || decide (h 64 k = nI p)
def mT (h : Hp) (n : Nat) : Nat → Bool
  | 0 => true
  | p + 1 => mT h n p && (mH h p n == decide (m_part h p))
abbrev m_lap (h : Hp) (p q : Nat) : Prop := m_part h p ∧ m_part h q ∧ h 62 p < h 62 q + h 63 q ∧ h 62 q < h 62 p + h 63 p
def mA1 (h : Hp) (p : Nat) (b : Bool) : Nat → Bool
  | 0 => b
  | q + 1 => mA1 h p b q && !decide (m_lap h p q)
def mA (h : Hp) : Nat → Bool
  | 0 => true
  | p + 1 => mA1 h p (mA h p) p
def mJ (h : Hp) : Nat → Bool
  | 0 => true
  | k + 1 => mJ h k && decide (m_part h (tn (h 66 k)) ∧ m_part h (tn (h 67 k)))
def m_wrong (h : Hp) : Int32 := if mS h 4 = true then (if mA h 4 = true then (if mT h (tn (h 61 24)) 4 = true then (if mJ h (tn (h 61 25)) = true then 0 else 4) else 3) else 2) else 1
theorem bI_eqB {b : Bool} {c : Prop} [Decidable c] (h : bI (b = true) = bI c) : (b == decide c) = true := by
  by_cases hc : c
  · rw [bI_t hc] at h
    have : b = true := bI_ne0.mp (by rw [h]; decide)
    simp [this, hc]
  · rw [bI_f hc] at h
    have := bI_eq0.mp h
    simp at this
    simp [this, hc]
theorem bI_neB {b : Bool} {c : Prop} [Decidable c] (h : ¬ bI (b = true) = bI c) : (b == decide c) = false := by
  by_cases hc : c
  · rw [bI_t hc] at h
    have : ¬ b = true := fun z => h (bI_t z)
    simp at this
    simp [this, hc]
  · rw [bI_f hc] at h
    have : b = true := Decidable.byContradiction (fun z => h (bI_f z))
    simp [this, hc]
set_option maxRecDepth 100000 in
set_option maxHeartbeats 4000000 in
theorem l_M_w1 {E : En} {ad : Nat → Nat} {h : Hp} (a : Amb u_M_wrong 1 E) (qa : va_AO R_2 (eS E) ∧ va_AO R_3 (eS E)) (hcs : 0 ≤ (eR E).cells ∧ 0 ≤ (eR E).slots) {s ap t : Bool} {p : Nat} (hp4 : p < 4) (K : X E 0 0 ad (w0 h) 37 [(0, .inr (some 61)), (1, .inl (bI ((s || decide (m_part h p)) = true))), (2, .inl (bI (ap = true))), (3, .inl (bI (t = true))), (4, .inl 1), (5, .inl (nI p))] []) : X E 0 0 ad (w0 h) 18 [(0, .inr (some 61)), (1, .inl (bI (s = true))), (2, .inl (bI (ap = true))), (3, .inl (bI (t = true))), (4, .inl 1), (5, .inl (nI p))] [] := by
  refine x_iload_n a 18 d_M_wrong_18 rfl ?_
  refine x_ifB_ne a 19 31 d_M_wrong_19 (by decide) (fun c19 => ?_) (fun c19 => ?_)
  · refine x_iconst a 31 1 d_M_wrong_31 (by decide) ?_
    refine x_goto a 32 36 d_M_wrong_32 (by decide) ?_
    refine x_istore_n a 36 d_M_wrong_36 (by decide) ?_
    refine x_lv [(0, .inr (some 61)), (1, .inl (bI ((s || decide (m_part h p)) = true))), (2, .inl (bI (ap = true))), (3, .inl (bI (t = true))), (4, .inl 1), (5, .inl (nI p))] (by first | (rw [show bI ((s || decide (m_part h p)) = true) = 1 from bI_t (by simp_all)]; exact (List.forall_mem_cons.mpr ⟨rfl, List.forall_mem_cons.mpr ⟨rfl, List.forall_mem_cons.mpr ⟨rfl, List.forall_mem_cons.mpr ⟨rfl, List.forall_mem_cons.mpr ⟨rfl, List.forall_mem_cons.mpr ⟨rfl, fun _ z => absurd z List.not_mem_nil⟩⟩⟩⟩⟩⟩)) | (rw [show bI ((s || decide (m_part h p)) = true) = 0 from bI_f (by simp_all)]; exact (List.forall_mem_cons.mpr ⟨rfl, List.forall_mem_cons.mpr ⟨rfl, List.forall_mem_cons.mpr ⟨rfl, List.forall_mem_cons.mpr ⟨rfl, List.forall_mem_cons.mpr ⟨rfl, List.forall_mem_cons.mpr ⟨rfl, fun _ z => absurd z List.not_mem_nil⟩⟩⟩⟩⟩⟩))) ?_
    exact K
  · refine x_aload_n a 22 d_M_wrong_22 rfl ?_
    refine x_iload a 23 d_M_wrong_23 rfl ?_
    refine x_callV a qa 25 g_M_102 d_M_wrong_25 (c_M_takesPart _ (by omega)) rfl rfl rfl (show _ < 86 by omega) (by decide) (Nat.le_of_ble_eq_true rfl) hcs (fun v w' hp => ?_)
    obtain ⟨rfl, rfl⟩ := hp
    refine x_st1 ?_
    refine x_ifB_eq a 28 35 d_M_wrong_28 (by decide) (fun c28 => ?_) (fun c28 => ?_)
    · refine x_iconst a 35 0 d_M_wrong_35 (by decide) ?_
      refine x_istore_n a 36 d_M_wrong_36 (by decide) ?_
      refine x_lv [(0, .inr (some 61)), (1, .inl (bI ((s || decide (m_part h p)) = true))), (2, .inl (bI (ap = true))), (3, .inl (bI (t = true))), (4, .inl 1), (5, .inl (nI p))] (by first | (rw [show bI ((s || decide (m_part h p)) = true) = 1 from bI_t (by simp_all)]; exact (List.forall_mem_cons.mpr ⟨rfl, List.forall_mem_cons.mpr ⟨rfl, List.forall_mem_cons.mpr ⟨rfl, List.forall_mem_cons.mpr ⟨rfl, List.forall_mem_cons.mpr ⟨rfl, List.forall_mem_cons.mpr ⟨rfl, fun _ z => absurd z List.not_mem_nil⟩⟩⟩⟩⟩⟩)) | (rw [show bI ((s || decide (m_part h p)) = true) = 0 from bI_f (by simp_all)]; exact (List.forall_mem_cons.mpr ⟨rfl, List.forall_mem_cons.mpr ⟨rfl, List.forall_mem_cons.mpr ⟨rfl, List.forall_mem_cons.mpr ⟨rfl, List.forall_mem_cons.mpr ⟨rfl, List.forall_mem_cons.mpr ⟨rfl, fun _ z => absurd z List.not_mem_nil⟩⟩⟩⟩⟩⟩))) ?_
      exact K
    · refine x_iconst a 31 1 d_M_wrong_31 (by decide) ?_
      refine x_goto a 32 36 d_M_wrong_32 (by decide) ?_
      refine x_istore_n a 36 d_M_wrong_36 (by decide) ?_
      refine x_lv [(0, .inr (some 61)), (1, .inl (bI ((s || decide (m_part h p)) = true))), (2, .inl (bI (ap = true))), (3, .inl (bI (t = true))), (4, .inl 1), (5, .inl (nI p))] (by first | (rw [show bI ((s || decide (m_part h p)) = true) = 1 from bI_t (by simp_all)]; exact (List.forall_mem_cons.mpr ⟨rfl, List.forall_mem_cons.mpr ⟨rfl, List.forall_mem_cons.mpr ⟨rfl, List.forall_mem_cons.mpr ⟨rfl, List.forall_mem_cons.mpr ⟨rfl, List.forall_mem_cons.mpr ⟨rfl, fun _ z => absurd z List.not_mem_nil⟩⟩⟩⟩⟩⟩)) | (rw [show bI ((s || decide (m_part h p)) = true) = 0 from bI_f (by simp_all)]; exact (List.forall_mem_cons.mpr ⟨rfl, List.forall_mem_cons.mpr ⟨rfl, List.forall_mem_cons.mpr ⟨rfl, List.forall_mem_cons.mpr ⟨rfl, List.forall_mem_cons.mpr ⟨rfl, List.forall_mem_cons.mpr ⟨rfl, fun _ z => absurd z List.not_mem_nil⟩⟩⟩⟩⟩⟩))) ?_
      exact K
set_option maxRecDepth 100000 in
set_option maxHeartbeats 4000000 in
theorem l_M_w2 {E : En} {ad : Nat → Nat} {h : Hp} (a : Amb u_M_wrong 1 E) (qa : va_AO R_2 (eS E) ∧ va_AO R_3 (eS E)) (hcs : 0 ≤ (eR E).cells ∧ 0 ≤ (eR E).slots) {s ap t : Bool} {p : Nat} (hp4 : p < 4) {n : Nat} (hn : h 61 24 = nI n) (hn8 : n ≤ 8) (K : X E 0 0 ad (w0 h) 82 [(0, .inr (some 61)), (1, .inl (bI (s = true))), (2, .inl (bI (ap = true))), (3, .inl (bI (t = true))), (4, .inl 1), (5, .inl (nI p)), (6, .inl (bI (mH h p n = true)))] []) : ∀ m k : Nat, k ≤ n → n < k + m → X E 0 0 ad (w0 h) 43 [(0, .inr (some 61)), (1, .inl (bI (s = true))), (2, .inl (bI (ap = true))), (3, .inl (bI (t = true))), (4, .inl 1), (5, .inl (nI p)), (6, .inl (bI (mH h p k = true))), (7, .inl (nI k))] [] := by
  intro m
  induction m with
  | zero => intro k h1 h2; omega
  | succ m ih =>
    intro k h1 h2
    refine x_iload a 43 d_M_wrong_43 rfl ?_
    refine x_aload_n a 45 d_M_wrong_45 rfl ?_
    refine x_getI a 46 f_M_95 d_M_wrong_46 rfl (by omega) (by decide) hn ?_
    refine x_icmp_ge a 49 82 d_M_wrong_49 (by decide) (fun c49 => ?_) (fun c49 => ?_)
    · have hk : k = n := (by (try simp (disch := omega) only [Int32.le_iff_toInt_le, Int32.lt_iff_toInt_lt, ← Int32.toInt_inj, Int32.reduceToInt, nI_1, nI_add, pk_sub, nI_toInt] at *); omega)
      subst hk
      refine x_lv [(0, .inr (some 61)), (1, .inl (bI (s = true))), (2, .inl (bI (ap = true))), (3, .inl (bI (t = true))), (4, .inl 1), (5, .inl (nI p)), (6, .inl (bI (mH h p k = true)))] (List.forall_mem_cons.mpr ⟨rfl, List.forall_mem_cons.mpr ⟨rfl, List.forall_mem_cons.mpr ⟨rfl, List.forall_mem_cons.mpr ⟨rfl, List.forall_mem_cons.mpr ⟨rfl, List.forall_mem_cons.mpr ⟨rfl, List.forall_mem_cons.mpr ⟨rfl, fun _ z => absurd z List.not_mem_nil⟩⟩⟩⟩⟩⟩⟩) ?_
      exact K
    · have hk : k < n := (by (try simp (disch := omega) only [Int32.le_iff_toInt_le, Int32.lt_iff_toInt_lt, ← Int32.toInt_inj, Int32.reduceToInt, nI_1, nI_add, pk_sub, nI_toInt] at *); omega)
      refine x_iload a 52 d_M_wrong_52 rfl ?_
      refine x_ifB_ne a 54 69 d_M_wrong_54 (by decide) (fun c54 => ?_) (fun c54 => ?_)
      · refine x_iconst a 69 1 d_M_wrong_69 (by decide) ?_
        refine x_goto a 70 74 d_M_wrong_70 (by decide) ?_
        refine x_istore a 74 d_M_wrong_74 (by decide) ?_
        refine x_iinc a 76 (nI (k + 1)) d_M_wrong_76 rfl (nI_inc k) (by decide) ?_
        refine x_goto a 79 43 d_M_wrong_79 (by decide) ?_
        refine x_lv [(0, .inr (some 61)), (1, .inl (bI (s = true))), (2, .inl (bI (ap = true))), (3, .inl (bI (t = true))), (4, .inl 1), (5, .inl (nI p)), (6, .inl (bI (mH h p (k + 1) = true))), (7, .inl (nI (k + 1)))] (by rw [show mH h p (k + 1) = (mH h p k || decide (h 64 k = nI p)) from rfl]; first | (rw [show bI ((mH h p k || decide (h 64 k = nI p)) = true) = 1 from bI_t (by simp_all)]; exact (List.forall_mem_cons.mpr ⟨rfl, List.forall_mem_cons.mpr ⟨rfl, List.forall_mem_cons.mpr ⟨rfl, List.forall_mem_cons.mpr ⟨rfl, List.forall_mem_cons.mpr ⟨rfl, List.forall_mem_cons.mpr ⟨rfl, List.forall_mem_cons.mpr ⟨rfl, List.forall_mem_cons.mpr ⟨rfl, fun _ z => absurd z List.not_mem_nil⟩⟩⟩⟩⟩⟩⟩⟩)) | (rw [show bI ((mH h p k || decide (h 64 k = nI p)) = true) = 0 from bI_f (by simp_all)]; exact (List.forall_mem_cons.mpr ⟨rfl, List.forall_mem_cons.mpr ⟨rfl, List.forall_mem_cons.mpr ⟨rfl, List.forall_mem_cons.mpr ⟨rfl, List.forall_mem_cons.mpr ⟨rfl, List.forall_mem_cons.mpr ⟨rfl, List.forall_mem_cons.mpr ⟨rfl, List.forall_mem_cons.mpr ⟨rfl, fun _ z => absurd z List.not_mem_nil⟩⟩⟩⟩⟩⟩⟩⟩))) ?_
        exact ih (k + 1) hk (by omega)
      · refine x_aload_n a 57 d_M_wrong_57 rfl ?_
        refine x_getR a 58 f_M_16 d_M_wrong_58 rfl (by omega) (by decide) (o' := 64) rfl ?_
        refine x_iload a 61 d_M_wrong_61 rfl ?_
        refine x_iald a 63 d_M_wrong_63 rfl (by omega) (j := k) rfl (by omega) (by decide) rfl ?_
        refine x_iload a 64 d_M_wrong_64 rfl ?_
        refine x_icmp_ne a 66 73 d_M_wrong_66 (by decide) (fun c66 => ?_) (fun c66 => ?_)
        · refine x_iconst a 73 0 d_M_wrong_73 (by decide) ?_
          refine x_istore a 74 d_M_wrong_74 (by decide) ?_
          refine x_iinc a 76 (nI (k + 1)) d_M_wrong_76 rfl (nI_inc k) (by decide) ?_
          refine x_goto a 79 43 d_M_wrong_79 (by decide) ?_
          refine x_lv [(0, .inr (some 61)), (1, .inl (bI (s = true))), (2, .inl (bI (ap = true))), (3, .inl (bI (t = true))), (4, .inl 1), (5, .inl (nI p)), (6, .inl (bI (mH h p (k + 1) = true))), (7, .inl (nI (k + 1)))] (by rw [show mH h p (k + 1) = (mH h p k || decide (h 64 k = nI p)) from rfl]; first | (rw [show bI ((mH h p k || decide (h 64 k = nI p)) = true) = 1 from bI_t (by simp_all)]; exact (List.forall_mem_cons.mpr ⟨rfl, List.forall_mem_cons.mpr ⟨rfl, List.forall_mem_cons.mpr ⟨rfl, List.forall_mem_cons.mpr ⟨rfl, List.forall_mem_cons.mpr ⟨rfl, List.forall_mem_cons.mpr ⟨rfl, List.forall_mem_cons.mpr ⟨rfl, List.forall_mem_cons.mpr ⟨rfl, fun _ z => absurd z List.not_mem_nil⟩⟩⟩⟩⟩⟩⟩⟩)) | (rw [show bI ((mH h p k || decide (h 64 k = nI p)) = true) = 0 from bI_f (by simp_all)]; exact (List.forall_mem_cons.mpr ⟨rfl, List.forall_mem_cons.mpr ⟨rfl, List.forall_mem_cons.mpr ⟨rfl, List.forall_mem_cons.mpr ⟨rfl, List.forall_mem_cons.mpr ⟨rfl, List.forall_mem_cons.mpr ⟨rfl, List.forall_mem_cons.mpr ⟨rfl, List.forall_mem_cons.mpr ⟨rfl, fun _ z => absurd z List.not_mem_nil⟩⟩⟩⟩⟩⟩⟩⟩))) ?_
          exact ih (k + 1) hk (by omega)
        · refine x_iconst a 69 1 d_M_wrong_69 (by decide) ?_
          refine x_goto a 70 74 d_M_wrong_70 (by decide) ?_
          refine x_istore a 74 d_M_wrong_74 (by decide) ?_
          refine x_iinc a 76 (nI (k + 1)) d_M_wrong_76 rfl (nI_inc k) (by decide) ?_
          refine x_goto a 79 43 d_M_wrong_79 (by decide) ?_
          refine x_lv [(0, .inr (some 61)), (1, .inl (bI (s = true))), (2, .inl (bI (ap = true))), (3, .inl (bI (t = true))), (4, .inl 1), (5, .inl (nI p)), (6, .inl (bI (mH h p (k + 1) = true))), (7, .inl (nI (k + 1)))] (by rw [show mH h p (k + 1) = (mH h p k || decide (h 64 k = nI p)) from rfl]; first | (rw [show bI ((mH h p k || decide (h 64 k = nI p)) = true) = 1 from bI_t (by simp_all)]; exact (List.forall_mem_cons.mpr ⟨rfl, List.forall_mem_cons.mpr ⟨rfl, List.forall_mem_cons.mpr ⟨rfl, List.forall_mem_cons.mpr ⟨rfl, List.forall_mem_cons.mpr ⟨rfl, List.forall_mem_cons.mpr ⟨rfl, List.forall_mem_cons.mpr ⟨rfl, List.forall_mem_cons.mpr ⟨rfl, fun _ z => absurd z List.not_mem_nil⟩⟩⟩⟩⟩⟩⟩⟩)) | (rw [show bI ((mH h p k || decide (h 64 k = nI p)) = true) = 0 from bI_f (by simp_all)]; exact (List.forall_mem_cons.mpr ⟨rfl, List.forall_mem_cons.mpr ⟨rfl, List.forall_mem_cons.mpr ⟨rfl, List.forall_mem_cons.mpr ⟨rfl, List.forall_mem_cons.mpr ⟨rfl, List.forall_mem_cons.mpr ⟨rfl, List.forall_mem_cons.mpr ⟨rfl, List.forall_mem_cons.mpr ⟨rfl, fun _ z => absurd z List.not_mem_nil⟩⟩⟩⟩⟩⟩⟩⟩))) ?_
          exact ih (k + 1) hk (by omega)
set_option maxRecDepth 100000 in
set_option maxHeartbeats 4000000 in
theorem l_M_w3 {E : En} {ad : Nat → Nat} {h : Hp} (a : Amb u_M_wrong 1 E) (qa : va_AO R_2 (eS E) ∧ va_AO R_3 (eS E)) (hcs : 0 ≤ (eR E).cells ∧ 0 ≤ (eR E).slots) {s ap t : Bool} {p : Nat} (hp4 : p < 4) {n : Nat} (K : X E 0 0 ad (w0 h) 103 [(0, .inr (some 61)), (1, .inl (bI (s = true))), (2, .inl (bI (ap = true))), (3, .inl (bI ((t && (mH h p n == decide (m_part h p))) = true))), (4, .inl 1), (5, .inl (nI p))] []) : X E 0 0 ad (w0 h) 82 [(0, .inr (some 61)), (1, .inl (bI (s = true))), (2, .inl (bI (ap = true))), (3, .inl (bI (t = true))), (4, .inl 1), (5, .inl (nI p)), (6, .inl (bI (mH h p n = true)))] [] := by
  refine x_iload_n a 82 d_M_wrong_82 rfl ?_
  refine x_ifB_eq a 83 101 d_M_wrong_83 (by decide) (fun c83 => ?_) (fun c83 => ?_)
  · refine x_iconst a 101 0 d_M_wrong_101 (by decide) ?_
    refine x_istore_n a 102 d_M_wrong_102 (by decide) ?_
    refine x_lv [(0, .inr (some 61)), (1, .inl (bI (s = true))), (2, .inl (bI (ap = true))), (3, .inl (bI ((t && (mH h p n == decide (m_part h p))) = true))), (4, .inl 1), (5, .inl (nI p))] (by first | (rw [show bI ((t && (mH h p n == decide (m_part h p))) = true) = 1 from bI_t (by rw [c83, bI_eqB c94]; rfl)]; exact (List.forall_mem_cons.mpr ⟨rfl, List.forall_mem_cons.mpr ⟨rfl, List.forall_mem_cons.mpr ⟨rfl, List.forall_mem_cons.mpr ⟨rfl, List.forall_mem_cons.mpr ⟨rfl, List.forall_mem_cons.mpr ⟨rfl, fun _ z => absurd z List.not_mem_nil⟩⟩⟩⟩⟩⟩)) | (rw [show bI ((t && (mH h p n == decide (m_part h p))) = true) = 0 from bI_f (by rw [bI_neB c94, Bool.and_false]; decide)]; exact (List.forall_mem_cons.mpr ⟨rfl, List.forall_mem_cons.mpr ⟨rfl, List.forall_mem_cons.mpr ⟨rfl, List.forall_mem_cons.mpr ⟨rfl, List.forall_mem_cons.mpr ⟨rfl, List.forall_mem_cons.mpr ⟨rfl, fun _ z => absurd z List.not_mem_nil⟩⟩⟩⟩⟩⟩)) | (rw [show bI ((t && (mH h p n == decide (m_part h p))) = true) = 0 from bI_f (by simp_all)]; exact (List.forall_mem_cons.mpr ⟨rfl, List.forall_mem_cons.mpr ⟨rfl, List.forall_mem_cons.mpr ⟨rfl, List.forall_mem_cons.mpr ⟨rfl, List.forall_mem_cons.mpr ⟨rfl, List.forall_mem_cons.mpr ⟨rfl, fun _ z => absurd z List.not_mem_nil⟩⟩⟩⟩⟩⟩))) ?_
    exact K
  · refine x_iload a 86 d_M_wrong_86 rfl ?_
    refine x_aload_n a 88 d_M_wrong_88 rfl ?_
    refine x_iload a 89 d_M_wrong_89 rfl ?_
    refine x_callV a qa 91 g_M_102 d_M_wrong_91 (c_M_takesPart _ (by omega)) rfl rfl rfl (show _ < 86 by omega) (by decide) (Nat.le_of_ble_eq_true rfl) hcs (fun v w' hp => ?_)
    obtain ⟨rfl, rfl⟩ := hp
    refine x_st1 ?_
    refine x_icmp_ne a 94 101 d_M_wrong_94 (by decide) (fun c94 => ?_) (fun c94 => ?_)
    · refine x_iconst a 101 0 d_M_wrong_101 (by decide) ?_
      refine x_istore_n a 102 d_M_wrong_102 (by decide) ?_
      refine x_lv [(0, .inr (some 61)), (1, .inl (bI (s = true))), (2, .inl (bI (ap = true))), (3, .inl (bI ((t && (mH h p n == decide (m_part h p))) = true))), (4, .inl 1), (5, .inl (nI p))] (by first | (rw [show bI ((t && (mH h p n == decide (m_part h p))) = true) = 1 from bI_t (by rw [c83, bI_eqB c94]; rfl)]; exact (List.forall_mem_cons.mpr ⟨rfl, List.forall_mem_cons.mpr ⟨rfl, List.forall_mem_cons.mpr ⟨rfl, List.forall_mem_cons.mpr ⟨rfl, List.forall_mem_cons.mpr ⟨rfl, List.forall_mem_cons.mpr ⟨rfl, fun _ z => absurd z List.not_mem_nil⟩⟩⟩⟩⟩⟩)) | (rw [show bI ((t && (mH h p n == decide (m_part h p))) = true) = 0 from bI_f (by rw [bI_neB c94, Bool.and_false]; decide)]; exact (List.forall_mem_cons.mpr ⟨rfl, List.forall_mem_cons.mpr ⟨rfl, List.forall_mem_cons.mpr ⟨rfl, List.forall_mem_cons.mpr ⟨rfl, List.forall_mem_cons.mpr ⟨rfl, List.forall_mem_cons.mpr ⟨rfl, fun _ z => absurd z List.not_mem_nil⟩⟩⟩⟩⟩⟩)) | (rw [show bI ((t && (mH h p n == decide (m_part h p))) = true) = 0 from bI_f (by simp_all)]; exact (List.forall_mem_cons.mpr ⟨rfl, List.forall_mem_cons.mpr ⟨rfl, List.forall_mem_cons.mpr ⟨rfl, List.forall_mem_cons.mpr ⟨rfl, List.forall_mem_cons.mpr ⟨rfl, List.forall_mem_cons.mpr ⟨rfl, fun _ z => absurd z List.not_mem_nil⟩⟩⟩⟩⟩⟩))) ?_
      exact K
    · refine x_iconst a 97 1 d_M_wrong_97 (by decide) ?_
      refine x_goto a 98 102 d_M_wrong_98 (by decide) ?_
      refine x_istore_n a 102 d_M_wrong_102 (by decide) ?_
      refine x_lv [(0, .inr (some 61)), (1, .inl (bI (s = true))), (2, .inl (bI (ap = true))), (3, .inl (bI ((t && (mH h p n == decide (m_part h p))) = true))), (4, .inl 1), (5, .inl (nI p))] (by first | (rw [show bI ((t && (mH h p n == decide (m_part h p))) = true) = 1 from bI_t (by rw [c83, bI_eqB c94]; rfl)]; exact (List.forall_mem_cons.mpr ⟨rfl, List.forall_mem_cons.mpr ⟨rfl, List.forall_mem_cons.mpr ⟨rfl, List.forall_mem_cons.mpr ⟨rfl, List.forall_mem_cons.mpr ⟨rfl, List.forall_mem_cons.mpr ⟨rfl, fun _ z => absurd z List.not_mem_nil⟩⟩⟩⟩⟩⟩)) | (rw [show bI ((t && (mH h p n == decide (m_part h p))) = true) = 0 from bI_f (by rw [bI_neB c94, Bool.and_false]; decide)]; exact (List.forall_mem_cons.mpr ⟨rfl, List.forall_mem_cons.mpr ⟨rfl, List.forall_mem_cons.mpr ⟨rfl, List.forall_mem_cons.mpr ⟨rfl, List.forall_mem_cons.mpr ⟨rfl, List.forall_mem_cons.mpr ⟨rfl, fun _ z => absurd z List.not_mem_nil⟩⟩⟩⟩⟩⟩)) | (rw [show bI ((t && (mH h p n == decide (m_part h p))) = true) = 0 from bI_f (by simp_all)]; exact (List.forall_mem_cons.mpr ⟨rfl, List.forall_mem_cons.mpr ⟨rfl, List.forall_mem_cons.mpr ⟨rfl, List.forall_mem_cons.mpr ⟨rfl, List.forall_mem_cons.mpr ⟨rfl, List.forall_mem_cons.mpr ⟨rfl, fun _ z => absurd z List.not_mem_nil⟩⟩⟩⟩⟩⟩))) ?_
      exact K
set_option maxRecDepth 100000 in
set_option maxHeartbeats 4000000 in
theorem l_M_w4 {E : En} {ad : Nat → Nat} {h : Hp} (a : Amb u_M_wrong 1 E) (qa : va_AO R_2 (eS E) ∧ va_AO R_3 (eS E)) (hcs : 0 ≤ (eR E).cells ∧ 0 ≤ (eR E).slots) {s ap t : Bool} {p : Nat} (hp4 : p < 4) (K : X E 0 0 ad (w0 h) 209 [(0, .inr (some 61)), (1, .inl (bI (s = true))), (2, .inl (bI (mA1 h p ap p = true))), (3, .inl (bI (t = true))), (4, .inl 1), (5, .inl (nI p))] []) : ∀ m q : Nat, q ≤ p → p < q + m → X E 0 0 ad (w0 h) 106 [(0, .inr (some 61)), (1, .inl (bI (s = true))), (2, .inl (bI (mA1 h p ap q = true))), (3, .inl (bI (t = true))), (4, .inl 1), (5, .inl (nI p)), (7, .inl (nI q))] [] := by
  intro m
  induction m with
  | zero => intro q h1 h2; omega
  | succ m ih =>
    intro q h1 h2
    refine x_iload a 106 d_M_wrong_106 rfl ?_
    refine x_iload a 108 d_M_wrong_108 rfl ?_
    refine x_icmp_ge a 110 209 d_M_wrong_110 (by decide) (fun c110 => ?_) (fun c110 => ?_)
    · have hq : q = p := (by (try simp (disch := omega) only [Int32.le_iff_toInt_le, Int32.lt_iff_toInt_lt, ← Int32.toInt_inj, Int32.reduceToInt, nI_1, nI_add, pk_sub, nI_toInt] at *); omega)
      subst hq
      refine x_lv [(0, .inr (some 61)), (1, .inl (bI (s = true))), (2, .inl (bI (mA1 h q ap q = true))), (3, .inl (bI (t = true))), (4, .inl 1), (5, .inl (nI q))] (List.forall_mem_cons.mpr ⟨rfl, List.forall_mem_cons.mpr ⟨rfl, List.forall_mem_cons.mpr ⟨rfl, List.forall_mem_cons.mpr ⟨rfl, List.forall_mem_cons.mpr ⟨rfl, List.forall_mem_cons.mpr ⟨rfl, fun _ z => absurd z List.not_mem_nil⟩⟩⟩⟩⟩⟩) ?_
      exact K
    · have hq : q < p := (by (try simp (disch := omega) only [Int32.le_iff_toInt_le, Int32.lt_iff_toInt_lt, ← Int32.toInt_inj, Int32.reduceToInt, nI_1, nI_add, pk_sub, nI_toInt] at *); omega)
      refine x_aload_n a 113 d_M_wrong_113 rfl ?_
      refine x_iload a 114 d_M_wrong_114 rfl ?_
      refine x_callV a qa 116 g_M_102 d_M_wrong_116 (c_M_takesPart _ (by omega)) rfl rfl rfl (show _ < 86 by omega) (by decide) (Nat.le_of_ble_eq_true rfl) hcs (fun v w' hp => ?_)
      obtain ⟨rfl, rfl⟩ := hp
      refine x_st1 ?_
      refine x_ifB_eq a 119 135 d_M_wrong_119 (by decide) (fun c119 => ?_) (fun c119 => ?_)
      · refine x_iconst a 135 0 d_M_wrong_135 (by decide) ?_
        refine x_istore a 136 d_M_wrong_136 (by decide) ?_
        refine x_iload_n a 138 d_M_wrong_138 rfl ?_
        refine x_ifB_eq a 139 201 d_M_wrong_139 (by decide) (fun c139 => ?_) (fun c139 => ?_)
        · refine x_iconst a 201 0 d_M_wrong_201 (by decide) ?_
          refine x_istore_n a 202 d_M_wrong_202 (by decide) ?_
          refine x_iinc a 203 (nI (q + 1)) d_M_wrong_203 rfl (nI_inc q) (by decide) ?_
          refine x_goto a 206 106 d_M_wrong_206 (by decide) ?_
          refine x_lv [(0, .inr (some 61)), (1, .inl (bI (s = true))), (2, .inl (bI (mA1 h p ap (q + 1) = true))), (3, .inl (bI (t = true))), (4, .inl 1), (5, .inl (nI p)), (7, .inl (nI (q + 1)))] (by rw [show mA1 h p ap (q + 1) = (mA1 h p ap q && !decide (m_lap h p q)) from rfl]; first | (rw [show bI ((mA1 h p ap q && !decide (m_lap h p q)) = true) = 1 from bI_t (by simp only [Bool.and_eq_true, Bool.not_eq_true', decide_eq_false_iff_not]; exact ⟨c139, by rintro ⟨z1, z2, z3, z4⟩; first | exact c119 z1 | exact c128 z2 | exact absurd z3 (Int32.not_lt.mpr c169) | exact c194 z4⟩)]; exact (List.forall_mem_cons.mpr ⟨rfl, List.forall_mem_cons.mpr ⟨rfl, List.forall_mem_cons.mpr ⟨rfl, List.forall_mem_cons.mpr ⟨rfl, List.forall_mem_cons.mpr ⟨rfl, List.forall_mem_cons.mpr ⟨rfl, List.forall_mem_cons.mpr ⟨rfl, fun _ z => absurd z List.not_mem_nil⟩⟩⟩⟩⟩⟩⟩)) | (rw [show bI ((mA1 h p ap q && !decide (m_lap h p q)) = true) = 0 from bI_f (by simp only [Bool.and_eq_true, Bool.not_eq_true', decide_eq_false_iff_not]; rintro ⟨z1, z2⟩; first | exact c139 z1 | exact z2 ⟨c119, c128, Int32.not_le.mp c169, c194⟩)]; exact (List.forall_mem_cons.mpr ⟨rfl, List.forall_mem_cons.mpr ⟨rfl, List.forall_mem_cons.mpr ⟨rfl, List.forall_mem_cons.mpr ⟨rfl, List.forall_mem_cons.mpr ⟨rfl, List.forall_mem_cons.mpr ⟨rfl, List.forall_mem_cons.mpr ⟨rfl, fun _ z => absurd z List.not_mem_nil⟩⟩⟩⟩⟩⟩⟩))) ?_
          exact ih (q + 1) hq (by omega)
        · refine x_iload a 142 d_M_wrong_142 rfl ?_
          refine x_if_eq a 144 197 d_M_wrong_144 (by decide) (fun _ => ?_) (fun z => absurd z (by decide))
          refine x_iconst a 197 1 d_M_wrong_197 (by decide) ?_
          refine x_goto a 198 202 d_M_wrong_198 (by decide) ?_
          refine x_istore_n a 202 d_M_wrong_202 (by decide) ?_
          refine x_iinc a 203 (nI (q + 1)) d_M_wrong_203 rfl (nI_inc q) (by decide) ?_
          refine x_goto a 206 106 d_M_wrong_206 (by decide) ?_
          refine x_lv [(0, .inr (some 61)), (1, .inl (bI (s = true))), (2, .inl (bI (mA1 h p ap (q + 1) = true))), (3, .inl (bI (t = true))), (4, .inl 1), (5, .inl (nI p)), (7, .inl (nI (q + 1)))] (by rw [show mA1 h p ap (q + 1) = (mA1 h p ap q && !decide (m_lap h p q)) from rfl]; first | (rw [show bI ((mA1 h p ap q && !decide (m_lap h p q)) = true) = 1 from bI_t (by simp only [Bool.and_eq_true, Bool.not_eq_true', decide_eq_false_iff_not]; exact ⟨c139, by rintro ⟨z1, z2, z3, z4⟩; first | exact c119 z1 | exact c128 z2 | exact absurd z3 (Int32.not_lt.mpr c169) | exact c194 z4⟩)]; exact (List.forall_mem_cons.mpr ⟨rfl, List.forall_mem_cons.mpr ⟨rfl, List.forall_mem_cons.mpr ⟨rfl, List.forall_mem_cons.mpr ⟨rfl, List.forall_mem_cons.mpr ⟨rfl, List.forall_mem_cons.mpr ⟨rfl, List.forall_mem_cons.mpr ⟨rfl, fun _ z => absurd z List.not_mem_nil⟩⟩⟩⟩⟩⟩⟩)) | (rw [show bI ((mA1 h p ap q && !decide (m_lap h p q)) = true) = 0 from bI_f (by simp only [Bool.and_eq_true, Bool.not_eq_true', decide_eq_false_iff_not]; rintro ⟨z1, z2⟩; first | exact c139 z1 | exact z2 ⟨c119, c128, Int32.not_le.mp c169, c194⟩)]; exact (List.forall_mem_cons.mpr ⟨rfl, List.forall_mem_cons.mpr ⟨rfl, List.forall_mem_cons.mpr ⟨rfl, List.forall_mem_cons.mpr ⟨rfl, List.forall_mem_cons.mpr ⟨rfl, List.forall_mem_cons.mpr ⟨rfl, List.forall_mem_cons.mpr ⟨rfl, fun _ z => absurd z List.not_mem_nil⟩⟩⟩⟩⟩⟩⟩))) ?_
          exact ih (q + 1) hq (by omega)
      · refine x_aload_n a 122 d_M_wrong_122 rfl ?_
        refine x_iload a 123 d_M_wrong_123 rfl ?_
        refine x_callV a qa 125 g_M_102 d_M_wrong_125 (c_M_takesPart _ (by omega)) rfl rfl rfl (show _ < 86 by omega) (by decide) (Nat.le_of_ble_eq_true rfl) hcs (fun v w' hp => ?_)
        obtain ⟨rfl, rfl⟩ := hp
        refine x_st1 ?_
        refine x_ifB_eq a 128 135 d_M_wrong_128 (by decide) (fun c128 => ?_) (fun c128 => ?_)
        · refine x_iconst a 135 0 d_M_wrong_135 (by decide) ?_
          refine x_istore a 136 d_M_wrong_136 (by decide) ?_
          refine x_iload_n a 138 d_M_wrong_138 rfl ?_
          refine x_ifB_eq a 139 201 d_M_wrong_139 (by decide) (fun c139 => ?_) (fun c139 => ?_)
          · refine x_iconst a 201 0 d_M_wrong_201 (by decide) ?_
            refine x_istore_n a 202 d_M_wrong_202 (by decide) ?_
            refine x_iinc a 203 (nI (q + 1)) d_M_wrong_203 rfl (nI_inc q) (by decide) ?_
            refine x_goto a 206 106 d_M_wrong_206 (by decide) ?_
            refine x_lv [(0, .inr (some 61)), (1, .inl (bI (s = true))), (2, .inl (bI (mA1 h p ap (q + 1) = true))), (3, .inl (bI (t = true))), (4, .inl 1), (5, .inl (nI p)), (7, .inl (nI (q + 1)))] (by rw [show mA1 h p ap (q + 1) = (mA1 h p ap q && !decide (m_lap h p q)) from rfl]; first | (rw [show bI ((mA1 h p ap q && !decide (m_lap h p q)) = true) = 1 from bI_t (by simp only [Bool.and_eq_true, Bool.not_eq_true', decide_eq_false_iff_not]; exact ⟨c139, by rintro ⟨z1, z2, z3, z4⟩; first | exact c119 z1 | exact c128 z2 | exact absurd z3 (Int32.not_lt.mpr c169) | exact c194 z4⟩)]; exact (List.forall_mem_cons.mpr ⟨rfl, List.forall_mem_cons.mpr ⟨rfl, List.forall_mem_cons.mpr ⟨rfl, List.forall_mem_cons.mpr ⟨rfl, List.forall_mem_cons.mpr ⟨rfl, List.forall_mem_cons.mpr ⟨rfl, List.forall_mem_cons.mpr ⟨rfl, fun _ z => absurd z List.not_mem_nil⟩⟩⟩⟩⟩⟩⟩)) | (rw [show bI ((mA1 h p ap q && !decide (m_lap h p q)) = true) = 0 from bI_f (by simp only [Bool.and_eq_true, Bool.not_eq_true', decide_eq_false_iff_not]; rintro ⟨z1, z2⟩; first | exact c139 z1 | exact z2 ⟨c119, c128, Int32.not_le.mp c169, c194⟩)]; exact (List.forall_mem_cons.mpr ⟨rfl, List.forall_mem_cons.mpr ⟨rfl, List.forall_mem_cons.mpr ⟨rfl, List.forall_mem_cons.mpr ⟨rfl, List.forall_mem_cons.mpr ⟨rfl, List.forall_mem_cons.mpr ⟨rfl, List.forall_mem_cons.mpr ⟨rfl, fun _ z => absurd z List.not_mem_nil⟩⟩⟩⟩⟩⟩⟩))) ?_
            exact ih (q + 1) hq (by omega)
          · refine x_iload a 142 d_M_wrong_142 rfl ?_
            refine x_if_eq a 144 197 d_M_wrong_144 (by decide) (fun _ => ?_) (fun z => absurd z (by decide))
            refine x_iconst a 197 1 d_M_wrong_197 (by decide) ?_
            refine x_goto a 198 202 d_M_wrong_198 (by decide) ?_
            refine x_istore_n a 202 d_M_wrong_202 (by decide) ?_
            refine x_iinc a 203 (nI (q + 1)) d_M_wrong_203 rfl (nI_inc q) (by decide) ?_
            refine x_goto a 206 106 d_M_wrong_206 (by decide) ?_
            refine x_lv [(0, .inr (some 61)), (1, .inl (bI (s = true))), (2, .inl (bI (mA1 h p ap (q + 1) = true))), (3, .inl (bI (t = true))), (4, .inl 1), (5, .inl (nI p)), (7, .inl (nI (q + 1)))] (by rw [show mA1 h p ap (q + 1) = (mA1 h p ap q && !decide (m_lap h p q)) from rfl]; first | (rw [show bI ((mA1 h p ap q && !decide (m_lap h p q)) = true) = 1 from bI_t (by simp only [Bool.and_eq_true, Bool.not_eq_true', decide_eq_false_iff_not]; exact ⟨c139, by rintro ⟨z1, z2, z3, z4⟩; first | exact c119 z1 | exact c128 z2 | exact absurd z3 (Int32.not_lt.mpr c169) | exact c194 z4⟩)]; exact (List.forall_mem_cons.mpr ⟨rfl, List.forall_mem_cons.mpr ⟨rfl, List.forall_mem_cons.mpr ⟨rfl, List.forall_mem_cons.mpr ⟨rfl, List.forall_mem_cons.mpr ⟨rfl, List.forall_mem_cons.mpr ⟨rfl, List.forall_mem_cons.mpr ⟨rfl, fun _ z => absurd z List.not_mem_nil⟩⟩⟩⟩⟩⟩⟩)) | (rw [show bI ((mA1 h p ap q && !decide (m_lap h p q)) = true) = 0 from bI_f (by simp only [Bool.and_eq_true, Bool.not_eq_true', decide_eq_false_iff_not]; rintro ⟨z1, z2⟩; first | exact c139 z1 | exact z2 ⟨c119, c128, Int32.not_le.mp c169, c194⟩)]; exact (List.forall_mem_cons.mpr ⟨rfl, List.forall_mem_cons.mpr ⟨rfl, List.forall_mem_cons.mpr ⟨rfl, List.forall_mem_cons.mpr ⟨rfl, List.forall_mem_cons.mpr ⟨rfl, List.forall_mem_cons.mpr ⟨rfl, List.forall_mem_cons.mpr ⟨rfl, fun _ z => absurd z List.not_mem_nil⟩⟩⟩⟩⟩⟩⟩))) ?_
            exact ih (q + 1) hq (by omega)
        · refine x_iconst a 131 1 d_M_wrong_131 (by decide) ?_
          refine x_goto a 132 136 d_M_wrong_132 (by decide) ?_
          refine x_istore a 136 d_M_wrong_136 (by decide) ?_
          refine x_iload_n a 138 d_M_wrong_138 rfl ?_
          refine x_ifB_eq a 139 201 d_M_wrong_139 (by decide) (fun c139 => ?_) (fun c139 => ?_)
          · refine x_iconst a 201 0 d_M_wrong_201 (by decide) ?_
            refine x_istore_n a 202 d_M_wrong_202 (by decide) ?_
            refine x_iinc a 203 (nI (q + 1)) d_M_wrong_203 rfl (nI_inc q) (by decide) ?_
            refine x_goto a 206 106 d_M_wrong_206 (by decide) ?_
            refine x_lv [(0, .inr (some 61)), (1, .inl (bI (s = true))), (2, .inl (bI (mA1 h p ap (q + 1) = true))), (3, .inl (bI (t = true))), (4, .inl 1), (5, .inl (nI p)), (7, .inl (nI (q + 1)))] (by rw [show mA1 h p ap (q + 1) = (mA1 h p ap q && !decide (m_lap h p q)) from rfl]; first | (rw [show bI ((mA1 h p ap q && !decide (m_lap h p q)) = true) = 1 from bI_t (by simp only [Bool.and_eq_true, Bool.not_eq_true', decide_eq_false_iff_not]; exact ⟨c139, by rintro ⟨z1, z2, z3, z4⟩; first | exact c119 z1 | exact c128 z2 | exact absurd z3 (Int32.not_lt.mpr c169) | exact c194 z4⟩)]; exact (List.forall_mem_cons.mpr ⟨rfl, List.forall_mem_cons.mpr ⟨rfl, List.forall_mem_cons.mpr ⟨rfl, List.forall_mem_cons.mpr ⟨rfl, List.forall_mem_cons.mpr ⟨rfl, List.forall_mem_cons.mpr ⟨rfl, List.forall_mem_cons.mpr ⟨rfl, fun _ z => absurd z List.not_mem_nil⟩⟩⟩⟩⟩⟩⟩)) | (rw [show bI ((mA1 h p ap q && !decide (m_lap h p q)) = true) = 0 from bI_f (by simp only [Bool.and_eq_true, Bool.not_eq_true', decide_eq_false_iff_not]; rintro ⟨z1, z2⟩; first | exact c139 z1 | exact z2 ⟨c119, c128, Int32.not_le.mp c169, c194⟩)]; exact (List.forall_mem_cons.mpr ⟨rfl, List.forall_mem_cons.mpr ⟨rfl, List.forall_mem_cons.mpr ⟨rfl, List.forall_mem_cons.mpr ⟨rfl, List.forall_mem_cons.mpr ⟨rfl, List.forall_mem_cons.mpr ⟨rfl, List.forall_mem_cons.mpr ⟨rfl, fun _ z => absurd z List.not_mem_nil⟩⟩⟩⟩⟩⟩⟩))) ?_
            exact ih (q + 1) hq (by omega)
          · refine x_iload a 142 d_M_wrong_142 rfl ?_
            refine x_if_eq a 144 197 d_M_wrong_144 (by decide) (fun z => absurd z (by decide)) (fun _ => ?_)
            refine x_aload_n a 147 d_M_wrong_147 rfl ?_
            refine x_getR a 148 f_M_7 d_M_wrong_148 rfl (by omega) (by decide) (o' := 62) rfl ?_
            refine x_iload a 151 d_M_wrong_151 rfl ?_
            refine x_iald a 153 d_M_wrong_153 rfl (by omega) (j := p) rfl (by omega) (by decide) rfl ?_
            refine x_aload_n a 154 d_M_wrong_154 rfl ?_
            refine x_getR a 155 f_M_7 d_M_wrong_155 rfl (by omega) (by decide) (o' := 62) rfl ?_
            refine x_iload a 158 d_M_wrong_158 rfl ?_
            refine x_iald a 160 d_M_wrong_160 rfl (by omega) (j := q) rfl (by omega) (by decide) rfl ?_
            refine x_aload_n a 161 d_M_wrong_161 rfl ?_
            refine x_getR a 162 f_M_13 d_M_wrong_162 rfl (by omega) (by decide) (o' := 63) rfl ?_
            refine x_iload a 165 d_M_wrong_165 rfl ?_
            refine x_iald a 167 d_M_wrong_167 rfl (by omega) (j := q) rfl (by omega) (by decide) rfl ?_
            refine x_iadd a 168 d_M_wrong_168 ?_
            refine x_icmp_ge a 169 197 d_M_wrong_169 (by decide) (fun c169 => ?_) (fun c169 => ?_)
            · refine x_iconst a 197 1 d_M_wrong_197 (by decide) ?_
              refine x_goto a 198 202 d_M_wrong_198 (by decide) ?_
              refine x_istore_n a 202 d_M_wrong_202 (by decide) ?_
              refine x_iinc a 203 (nI (q + 1)) d_M_wrong_203 rfl (nI_inc q) (by decide) ?_
              refine x_goto a 206 106 d_M_wrong_206 (by decide) ?_
              refine x_lv [(0, .inr (some 61)), (1, .inl (bI (s = true))), (2, .inl (bI (mA1 h p ap (q + 1) = true))), (3, .inl (bI (t = true))), (4, .inl 1), (5, .inl (nI p)), (7, .inl (nI (q + 1)))] (by rw [show mA1 h p ap (q + 1) = (mA1 h p ap q && !decide (m_lap h p q)) from rfl]; first | (rw [show bI ((mA1 h p ap q && !decide (m_lap h p q)) = true) = 1 from bI_t (by simp only [Bool.and_eq_true, Bool.not_eq_true', decide_eq_false_iff_not]; exact ⟨c139, by rintro ⟨z1, z2, z3, z4⟩; first | exact c119 z1 | exact c128 z2 | exact absurd z3 (Int32.not_lt.mpr c169) | exact c194 z4⟩)]; exact (List.forall_mem_cons.mpr ⟨rfl, List.forall_mem_cons.mpr ⟨rfl, List.forall_mem_cons.mpr ⟨rfl, List.forall_mem_cons.mpr ⟨rfl, List.forall_mem_cons.mpr ⟨rfl, List.forall_mem_cons.mpr ⟨rfl, List.forall_mem_cons.mpr ⟨rfl, fun _ z => absurd z List.not_mem_nil⟩⟩⟩⟩⟩⟩⟩)) | (rw [show bI ((mA1 h p ap q && !decide (m_lap h p q)) = true) = 0 from bI_f (by simp only [Bool.and_eq_true, Bool.not_eq_true', decide_eq_false_iff_not]; rintro ⟨z1, z2⟩; first | exact c139 z1 | exact z2 ⟨c119, c128, Int32.not_le.mp c169, c194⟩)]; exact (List.forall_mem_cons.mpr ⟨rfl, List.forall_mem_cons.mpr ⟨rfl, List.forall_mem_cons.mpr ⟨rfl, List.forall_mem_cons.mpr ⟨rfl, List.forall_mem_cons.mpr ⟨rfl, List.forall_mem_cons.mpr ⟨rfl, List.forall_mem_cons.mpr ⟨rfl, fun _ z => absurd z List.not_mem_nil⟩⟩⟩⟩⟩⟩⟩))) ?_
              exact ih (q + 1) hq (by omega)
            · refine x_aload_n a 172 d_M_wrong_172 rfl ?_
              refine x_getR a 173 f_M_7 d_M_wrong_173 rfl (by omega) (by decide) (o' := 62) rfl ?_
              refine x_iload a 176 d_M_wrong_176 rfl ?_
              refine x_iald a 178 d_M_wrong_178 rfl (by omega) (j := q) rfl (by omega) (by decide) rfl ?_
              refine x_aload_n a 179 d_M_wrong_179 rfl ?_
              refine x_getR a 180 f_M_7 d_M_wrong_180 rfl (by omega) (by decide) (o' := 62) rfl ?_
              refine x_iload a 183 d_M_wrong_183 rfl ?_
              refine x_iald a 185 d_M_wrong_185 rfl (by omega) (j := p) rfl (by omega) (by decide) rfl ?_
              refine x_aload_n a 186 d_M_wrong_186 rfl ?_
              refine x_getR a 187 f_M_13 d_M_wrong_187 rfl (by omega) (by decide) (o' := 63) rfl ?_
              refine x_iload a 190 d_M_wrong_190 rfl ?_
              refine x_iald a 192 d_M_wrong_192 rfl (by omega) (j := p) rfl (by omega) (by decide) rfl ?_
              refine x_iadd a 193 d_M_wrong_193 ?_
              refine x_icmp_lt a 194 201 d_M_wrong_194 (by decide) (fun c194 => ?_) (fun c194 => ?_)
              · refine x_iconst a 201 0 d_M_wrong_201 (by decide) ?_
                refine x_istore_n a 202 d_M_wrong_202 (by decide) ?_
                refine x_iinc a 203 (nI (q + 1)) d_M_wrong_203 rfl (nI_inc q) (by decide) ?_
                refine x_goto a 206 106 d_M_wrong_206 (by decide) ?_
                refine x_lv [(0, .inr (some 61)), (1, .inl (bI (s = true))), (2, .inl (bI (mA1 h p ap (q + 1) = true))), (3, .inl (bI (t = true))), (4, .inl 1), (5, .inl (nI p)), (7, .inl (nI (q + 1)))] (by rw [show mA1 h p ap (q + 1) = (mA1 h p ap q && !decide (m_lap h p q)) from rfl]; first | (rw [show bI ((mA1 h p ap q && !decide (m_lap h p q)) = true) = 1 from bI_t (by simp only [Bool.and_eq_true, Bool.not_eq_true', decide_eq_false_iff_not]; exact ⟨c139, by rintro ⟨z1, z2, z3, z4⟩; first | exact c119 z1 | exact c128 z2 | exact absurd z3 (Int32.not_lt.mpr c169) | exact c194 z4⟩)]; exact (List.forall_mem_cons.mpr ⟨rfl, List.forall_mem_cons.mpr ⟨rfl, List.forall_mem_cons.mpr ⟨rfl, List.forall_mem_cons.mpr ⟨rfl, List.forall_mem_cons.mpr ⟨rfl, List.forall_mem_cons.mpr ⟨rfl, List.forall_mem_cons.mpr ⟨rfl, fun _ z => absurd z List.not_mem_nil⟩⟩⟩⟩⟩⟩⟩)) | (rw [show bI ((mA1 h p ap q && !decide (m_lap h p q)) = true) = 0 from bI_f (by simp only [Bool.and_eq_true, Bool.not_eq_true', decide_eq_false_iff_not]; rintro ⟨z1, z2⟩; first | exact c139 z1 | exact z2 ⟨c119, c128, Int32.not_le.mp c169, c194⟩)]; exact (List.forall_mem_cons.mpr ⟨rfl, List.forall_mem_cons.mpr ⟨rfl, List.forall_mem_cons.mpr ⟨rfl, List.forall_mem_cons.mpr ⟨rfl, List.forall_mem_cons.mpr ⟨rfl, List.forall_mem_cons.mpr ⟨rfl, List.forall_mem_cons.mpr ⟨rfl, fun _ z => absurd z List.not_mem_nil⟩⟩⟩⟩⟩⟩⟩))) ?_
                exact ih (q + 1) hq (by omega)
              · refine x_iconst a 197 1 d_M_wrong_197 (by decide) ?_
                refine x_goto a 198 202 d_M_wrong_198 (by decide) ?_
                refine x_istore_n a 202 d_M_wrong_202 (by decide) ?_
                refine x_iinc a 203 (nI (q + 1)) d_M_wrong_203 rfl (nI_inc q) (by decide) ?_
                refine x_goto a 206 106 d_M_wrong_206 (by decide) ?_
                refine x_lv [(0, .inr (some 61)), (1, .inl (bI (s = true))), (2, .inl (bI (mA1 h p ap (q + 1) = true))), (3, .inl (bI (t = true))), (4, .inl 1), (5, .inl (nI p)), (7, .inl (nI (q + 1)))] (by rw [show mA1 h p ap (q + 1) = (mA1 h p ap q && !decide (m_lap h p q)) from rfl]; first | (rw [show bI ((mA1 h p ap q && !decide (m_lap h p q)) = true) = 1 from bI_t (by simp only [Bool.and_eq_true, Bool.not_eq_true', decide_eq_false_iff_not]; exact ⟨c139, by rintro ⟨z1, z2, z3, z4⟩; first | exact c119 z1 | exact c128 z2 | exact absurd z3 (Int32.not_lt.mpr c169) | exact c194 z4⟩)]; exact (List.forall_mem_cons.mpr ⟨rfl, List.forall_mem_cons.mpr ⟨rfl, List.forall_mem_cons.mpr ⟨rfl, List.forall_mem_cons.mpr ⟨rfl, List.forall_mem_cons.mpr ⟨rfl, List.forall_mem_cons.mpr ⟨rfl, List.forall_mem_cons.mpr ⟨rfl, fun _ z => absurd z List.not_mem_nil⟩⟩⟩⟩⟩⟩⟩)) | (rw [show bI ((mA1 h p ap q && !decide (m_lap h p q)) = true) = 0 from bI_f (by simp only [Bool.and_eq_true, Bool.not_eq_true', decide_eq_false_iff_not]; rintro ⟨z1, z2⟩; first | exact c139 z1 | exact z2 ⟨c119, c128, Int32.not_le.mp c169, c194⟩)]; exact (List.forall_mem_cons.mpr ⟨rfl, List.forall_mem_cons.mpr ⟨rfl, List.forall_mem_cons.mpr ⟨rfl, List.forall_mem_cons.mpr ⟨rfl, List.forall_mem_cons.mpr ⟨rfl, List.forall_mem_cons.mpr ⟨rfl, List.forall_mem_cons.mpr ⟨rfl, fun _ z => absurd z List.not_mem_nil⟩⟩⟩⟩⟩⟩⟩))) ?_
                exact ih (q + 1) hq (by omega)
set_option maxRecDepth 100000 in
set_option maxHeartbeats 4000000 in
theorem l_M_w5 {E : En} {ad : Nat → Nat} {h : Hp} {n0 : Nat} {Post : Option Int32 → Wd → Prop} (a : Amb u_M_wrong 1 E) (qf : Fin Post n0 ad 0 0 E) (qa : va_AO R_2 (eS E) ∧ va_AO R_3 (eS E)) (hcs : 0 ≤ (eR E).cells ∧ 0 ≤ (eR E).slots) {n r : Nat} (hr : h 61 25 = nI r) (hr6 : r ≤ 6) (hst : ∀ k, k < r → Nlt (h 66 k) 4 ∧ Nlt (h 67 k) 4) (hpo : Post (some (if mS h 4 = true then (if mA h 4 = true then (if mT h n 4 = true then (if mJ h r = true then 0 else 4) else 3) else 2) else 1)) (w0 h)) : ∀ m k : Nat, k ≤ r → r < k + m → X E 0 0 ad (w0 h) 218 [(0, .inr (some 61)), (1, .inl (bI (mS h 4 = true))), (2, .inl (bI (mA h 4 = true))), (3, .inl (bI (mT h n 4 = true))), (4, .inl (bI (mJ h k = true))), (5, .inl (nI k))] [] := by
  intro m
  induction m with
  | zero => intro k h1 h2; omega
  | succ m ih =>
    intro k h1 h2
    refine x_iload a 218 d_M_wrong_218 rfl ?_
    refine x_aload_n a 220 d_M_wrong_220 rfl ?_
    refine x_getI a 221 f_M_99 d_M_wrong_221 rfl (by omega) (by decide) hr ?_
    refine x_icmp_ge a 224 273 d_M_wrong_224 (by decide) (fun c224 => ?_) (fun c224 => ?_)
    · have hk : k = r := (by (try simp (disch := omega) only [Int32.le_iff_toInt_le, Int32.lt_iff_toInt_lt, ← Int32.toInt_inj, Int32.reduceToInt, nI_1, nI_add, pk_sub, nI_toInt] at *); omega)
      subst hk
      refine x_iload_n a 273 d_M_wrong_273 rfl ?_
      refine x_ifB_ne a 274 281 d_M_wrong_274 (by decide) (fun c274 => ?_) (fun c274 => ?_)
      · refine x_iload_n a 281 d_M_wrong_281 rfl ?_
        refine x_ifB_ne a 282 289 d_M_wrong_282 (by decide) (fun c282 => ?_) (fun c282 => ?_)
        · refine x_iload_n a 289 d_M_wrong_289 rfl ?_
          refine x_ifB_ne a 290 297 d_M_wrong_290 (by decide) (fun c290 => ?_) (fun c290 => ?_)
          · refine x_iload a 297 d_M_wrong_297 rfl ?_
            refine x_ifB_eq a 299 306 d_M_wrong_299 (by decide) (fun c299 => ?_) (fun c299 => ?_)
            · refine x_iconst a 306 4 d_M_wrong_306 (by decide) ?_
              exact x_iret a qf 307 d_M_wrong_307 rfl (by first | (rw [if_neg c274] at hpo; exact hpo) | (rw [if_pos c274, if_neg c282] at hpo; exact hpo) | (rw [if_pos c274, if_pos c282, if_neg c290] at hpo; exact hpo) | (rw [if_pos c274, if_pos c282, if_pos c290, if_pos c299] at hpo; exact hpo) | (rw [if_pos c274, if_pos c282, if_pos c290, if_neg c299] at hpo; exact hpo))
            · refine x_iconst a 302 0 d_M_wrong_302 (by decide) ?_
              refine x_goto a 303 307 d_M_wrong_303 (by decide) ?_
              exact x_iret a qf 307 d_M_wrong_307 rfl (by first | (rw [if_neg c274] at hpo; exact hpo) | (rw [if_pos c274, if_neg c282] at hpo; exact hpo) | (rw [if_pos c274, if_pos c282, if_neg c290] at hpo; exact hpo) | (rw [if_pos c274, if_pos c282, if_pos c290, if_pos c299] at hpo; exact hpo) | (rw [if_pos c274, if_pos c282, if_pos c290, if_neg c299] at hpo; exact hpo))
          · refine x_iconst a 293 3 d_M_wrong_293 (by decide) ?_
            refine x_goto a 294 307 d_M_wrong_294 (by decide) ?_
            exact x_iret a qf 307 d_M_wrong_307 rfl (by first | (rw [if_neg c274] at hpo; exact hpo) | (rw [if_pos c274, if_neg c282] at hpo; exact hpo) | (rw [if_pos c274, if_pos c282, if_neg c290] at hpo; exact hpo) | (rw [if_pos c274, if_pos c282, if_pos c290, if_pos c299] at hpo; exact hpo) | (rw [if_pos c274, if_pos c282, if_pos c290, if_neg c299] at hpo; exact hpo))
        · refine x_iconst a 285 2 d_M_wrong_285 (by decide) ?_
          refine x_goto a 286 307 d_M_wrong_286 (by decide) ?_
          exact x_iret a qf 307 d_M_wrong_307 rfl (by first | (rw [if_neg c274] at hpo; exact hpo) | (rw [if_pos c274, if_neg c282] at hpo; exact hpo) | (rw [if_pos c274, if_pos c282, if_neg c290] at hpo; exact hpo) | (rw [if_pos c274, if_pos c282, if_pos c290, if_pos c299] at hpo; exact hpo) | (rw [if_pos c274, if_pos c282, if_pos c290, if_neg c299] at hpo; exact hpo))
      · refine x_iconst a 277 1 d_M_wrong_277 (by decide) ?_
        refine x_goto a 278 307 d_M_wrong_278 (by decide) ?_
        exact x_iret a qf 307 d_M_wrong_307 rfl (by first | (rw [if_neg c274] at hpo; exact hpo) | (rw [if_pos c274, if_neg c282] at hpo; exact hpo) | (rw [if_pos c274, if_pos c282, if_neg c290] at hpo; exact hpo) | (rw [if_pos c274, if_pos c282, if_pos c290, if_pos c299] at hpo; exact hpo) | (rw [if_pos c274, if_pos c282, if_pos c290, if_neg c299] at hpo; exact hpo))
    · have hk : k < r := (by (try simp (disch := omega) only [Int32.le_iff_toInt_le, Int32.lt_iff_toInt_lt, ← Int32.toInt_inj, Int32.reduceToInt, nI_1, nI_add, pk_sub, nI_toInt] at *); omega)
      refine x_iload a 227 d_M_wrong_227 rfl ?_
      refine x_ifB_eq a 229 264 d_M_wrong_229 (by decide) (fun c229 => ?_) (fun c229 => ?_)
      · refine x_iconst a 264 0 d_M_wrong_264 (by decide) ?_
        refine x_istore a 265 d_M_wrong_265 (by decide) ?_
        refine x_iinc a 267 (nI (k + 1)) d_M_wrong_267 rfl (nI_inc k) (by decide) ?_
        refine x_goto a 270 218 d_M_wrong_270 (by decide) ?_
        refine x_lv [(0, .inr (some 61)), (1, .inl (bI (mS h 4 = true))), (2, .inl (bI (mA h 4 = true))), (3, .inl (bI (mT h n 4 = true))), (4, .inl (bI (mJ h (k + 1) = true))), (5, .inl (nI (k + 1)))] (by rw [show mJ h (k + 1) = (mJ h k && decide (m_part h (tn (h 66 k)) ∧ m_part h (tn (h 67 k)))) from rfl]; first | (rw [show bI ((mJ h k && decide (m_part h (tn (h 66 k)) ∧ m_part h (tn (h 67 k)))) = true) = 1 from bI_t (by simp only [Bool.and_eq_true, decide_eq_true_eq]; exact ⟨c229, c243, c257⟩)]; exact (List.forall_mem_cons.mpr ⟨rfl, List.forall_mem_cons.mpr ⟨rfl, List.forall_mem_cons.mpr ⟨rfl, List.forall_mem_cons.mpr ⟨rfl, List.forall_mem_cons.mpr ⟨rfl, List.forall_mem_cons.mpr ⟨rfl, fun _ z => absurd z List.not_mem_nil⟩⟩⟩⟩⟩⟩)) | (rw [show bI ((mJ h k && decide (m_part h (tn (h 66 k)) ∧ m_part h (tn (h 67 k)))) = true) = 0 from bI_f (by simp only [Bool.and_eq_true, decide_eq_true_eq]; rintro ⟨z1, z2, z3⟩; first | exact c229 z1 | exact c243 z2 | exact c257 z3)]; exact (List.forall_mem_cons.mpr ⟨rfl, List.forall_mem_cons.mpr ⟨rfl, List.forall_mem_cons.mpr ⟨rfl, List.forall_mem_cons.mpr ⟨rfl, List.forall_mem_cons.mpr ⟨rfl, List.forall_mem_cons.mpr ⟨rfl, fun _ z => absurd z List.not_mem_nil⟩⟩⟩⟩⟩⟩))) ?_
        exact ih (k + 1) hk (by omega)
      · refine x_aload_n a 232 d_M_wrong_232 rfl ?_
        refine x_aload_n a 233 d_M_wrong_233 rfl ?_
        refine x_getR a 234 f_M_22 d_M_wrong_234 rfl (by omega) (by decide) (o' := 66) rfl ?_
        refine x_iload a 237 d_M_wrong_237 rfl ?_
        refine x_iald a 239 d_M_wrong_239 rfl (by omega) (j := k) rfl (by omega) (by decide) (v := nI (tn (h 66 k))) (hst k hk).1.2 ?_
        refine x_callV a qa 240 g_M_102 d_M_wrong_240 (c_M_takesPart _ (hst k hk).1.1) rfl rfl rfl (show _ < 86 by omega) (by decide) (Nat.le_of_ble_eq_true rfl) hcs (fun v w' hp => ?_)
        obtain ⟨rfl, rfl⟩ := hp
        refine x_st1 ?_
        refine x_ifB_eq a 243 264 d_M_wrong_243 (by decide) (fun c243 => ?_) (fun c243 => ?_)
        · refine x_iconst a 264 0 d_M_wrong_264 (by decide) ?_
          refine x_istore a 265 d_M_wrong_265 (by decide) ?_
          refine x_iinc a 267 (nI (k + 1)) d_M_wrong_267 rfl (nI_inc k) (by decide) ?_
          refine x_goto a 270 218 d_M_wrong_270 (by decide) ?_
          refine x_lv [(0, .inr (some 61)), (1, .inl (bI (mS h 4 = true))), (2, .inl (bI (mA h 4 = true))), (3, .inl (bI (mT h n 4 = true))), (4, .inl (bI (mJ h (k + 1) = true))), (5, .inl (nI (k + 1)))] (by rw [show mJ h (k + 1) = (mJ h k && decide (m_part h (tn (h 66 k)) ∧ m_part h (tn (h 67 k)))) from rfl]; first | (rw [show bI ((mJ h k && decide (m_part h (tn (h 66 k)) ∧ m_part h (tn (h 67 k)))) = true) = 1 from bI_t (by simp only [Bool.and_eq_true, decide_eq_true_eq]; exact ⟨c229, c243, c257⟩)]; exact (List.forall_mem_cons.mpr ⟨rfl, List.forall_mem_cons.mpr ⟨rfl, List.forall_mem_cons.mpr ⟨rfl, List.forall_mem_cons.mpr ⟨rfl, List.forall_mem_cons.mpr ⟨rfl, List.forall_mem_cons.mpr ⟨rfl, fun _ z => absurd z List.not_mem_nil⟩⟩⟩⟩⟩⟩)) | (rw [show bI ((mJ h k && decide (m_part h (tn (h 66 k)) ∧ m_part h (tn (h 67 k)))) = true) = 0 from bI_f (by simp only [Bool.and_eq_true, decide_eq_true_eq]; rintro ⟨z1, z2, z3⟩; first | exact c229 z1 | exact c243 z2 | exact c257 z3)]; exact (List.forall_mem_cons.mpr ⟨rfl, List.forall_mem_cons.mpr ⟨rfl, List.forall_mem_cons.mpr ⟨rfl, List.forall_mem_cons.mpr ⟨rfl, List.forall_mem_cons.mpr ⟨rfl, List.forall_mem_cons.mpr ⟨rfl, fun _ z => absurd z List.not_mem_nil⟩⟩⟩⟩⟩⟩))) ?_
          exact ih (k + 1) hk (by omega)
        · refine x_aload_n a 246 d_M_wrong_246 rfl ?_
          refine x_aload_n a 247 d_M_wrong_247 rfl ?_
          refine x_getR a 248 f_M_25 d_M_wrong_248 rfl (by omega) (by decide) (o' := 67) rfl ?_
          refine x_iload a 251 d_M_wrong_251 rfl ?_
          refine x_iald a 253 d_M_wrong_253 rfl (by omega) (j := k) rfl (by omega) (by decide) (v := nI (tn (h 67 k))) (hst k hk).2.2 ?_
          refine x_callV a qa 254 g_M_102 d_M_wrong_254 (c_M_takesPart _ (hst k hk).2.1) rfl rfl rfl (show _ < 86 by omega) (by decide) (Nat.le_of_ble_eq_true rfl) hcs (fun v w' hp => ?_)
          obtain ⟨rfl, rfl⟩ := hp
          refine x_st1 ?_
          refine x_ifB_eq a 257 264 d_M_wrong_257 (by decide) (fun c257 => ?_) (fun c257 => ?_)
          · refine x_iconst a 264 0 d_M_wrong_264 (by decide) ?_
            refine x_istore a 265 d_M_wrong_265 (by decide) ?_
            refine x_iinc a 267 (nI (k + 1)) d_M_wrong_267 rfl (nI_inc k) (by decide) ?_
            refine x_goto a 270 218 d_M_wrong_270 (by decide) ?_
            refine x_lv [(0, .inr (some 61)), (1, .inl (bI (mS h 4 = true))), (2, .inl (bI (mA h 4 = true))), (3, .inl (bI (mT h n 4 = true))), (4, .inl (bI (mJ h (k + 1) = true))), (5, .inl (nI (k + 1)))] (by rw [show mJ h (k + 1) = (mJ h k && decide (m_part h (tn (h 66 k)) ∧ m_part h (tn (h 67 k)))) from rfl]; first | (rw [show bI ((mJ h k && decide (m_part h (tn (h 66 k)) ∧ m_part h (tn (h 67 k)))) = true) = 1 from bI_t (by simp only [Bool.and_eq_true, decide_eq_true_eq]; exact ⟨c229, c243, c257⟩)]; exact (List.forall_mem_cons.mpr ⟨rfl, List.forall_mem_cons.mpr ⟨rfl, List.forall_mem_cons.mpr ⟨rfl, List.forall_mem_cons.mpr ⟨rfl, List.forall_mem_cons.mpr ⟨rfl, List.forall_mem_cons.mpr ⟨rfl, fun _ z => absurd z List.not_mem_nil⟩⟩⟩⟩⟩⟩)) | (rw [show bI ((mJ h k && decide (m_part h (tn (h 66 k)) ∧ m_part h (tn (h 67 k)))) = true) = 0 from bI_f (by simp only [Bool.and_eq_true, decide_eq_true_eq]; rintro ⟨z1, z2, z3⟩; first | exact c229 z1 | exact c243 z2 | exact c257 z3)]; exact (List.forall_mem_cons.mpr ⟨rfl, List.forall_mem_cons.mpr ⟨rfl, List.forall_mem_cons.mpr ⟨rfl, List.forall_mem_cons.mpr ⟨rfl, List.forall_mem_cons.mpr ⟨rfl, List.forall_mem_cons.mpr ⟨rfl, fun _ z => absurd z List.not_mem_nil⟩⟩⟩⟩⟩⟩))) ?_
            exact ih (k + 1) hk (by omega)
          · refine x_iconst a 260 1 d_M_wrong_260 (by decide) ?_
            refine x_goto a 261 265 d_M_wrong_261 (by decide) ?_
            refine x_istore a 265 d_M_wrong_265 (by decide) ?_
            refine x_iinc a 267 (nI (k + 1)) d_M_wrong_267 rfl (nI_inc k) (by decide) ?_
            refine x_goto a 270 218 d_M_wrong_270 (by decide) ?_
            refine x_lv [(0, .inr (some 61)), (1, .inl (bI (mS h 4 = true))), (2, .inl (bI (mA h 4 = true))), (3, .inl (bI (mT h n 4 = true))), (4, .inl (bI (mJ h (k + 1) = true))), (5, .inl (nI (k + 1)))] (by rw [show mJ h (k + 1) = (mJ h k && decide (m_part h (tn (h 66 k)) ∧ m_part h (tn (h 67 k)))) from rfl]; first | (rw [show bI ((mJ h k && decide (m_part h (tn (h 66 k)) ∧ m_part h (tn (h 67 k)))) = true) = 1 from bI_t (by simp only [Bool.and_eq_true, decide_eq_true_eq]; exact ⟨c229, c243, c257⟩)]; exact (List.forall_mem_cons.mpr ⟨rfl, List.forall_mem_cons.mpr ⟨rfl, List.forall_mem_cons.mpr ⟨rfl, List.forall_mem_cons.mpr ⟨rfl, List.forall_mem_cons.mpr ⟨rfl, List.forall_mem_cons.mpr ⟨rfl, fun _ z => absurd z List.not_mem_nil⟩⟩⟩⟩⟩⟩)) | (rw [show bI ((mJ h k && decide (m_part h (tn (h 66 k)) ∧ m_part h (tn (h 67 k)))) = true) = 0 from bI_f (by simp only [Bool.and_eq_true, decide_eq_true_eq]; rintro ⟨z1, z2, z3⟩; first | exact c229 z1 | exact c243 z2 | exact c257 z3)]; exact (List.forall_mem_cons.mpr ⟨rfl, List.forall_mem_cons.mpr ⟨rfl, List.forall_mem_cons.mpr ⟨rfl, List.forall_mem_cons.mpr ⟨rfl, List.forall_mem_cons.mpr ⟨rfl, List.forall_mem_cons.mpr ⟨rfl, fun _ z => absurd z List.not_mem_nil⟩⟩⟩⟩⟩⟩))) ?_
            exact ih (k + 1) hk (by omega)
set_option maxRecDepth 100000 in
set_option maxHeartbeats 4000000 in
theorem l_M_w6 {E : En} {ad : Nat → Nat} {h : Hp} {n0 : Nat} {Post : Option Int32 → Wd → Prop} (a : Amb u_M_wrong 1 E) (qf : Fin Post n0 ad 0 0 E) (qa : va_AO R_2 (eS E) ∧ va_AO R_3 (eS E)) (hcs : 0 ≤ (eR E).cells ∧ 0 ≤ (eR E).slots) {n r : Nat} (hn : h 61 24 = nI n) (hn8 : n ≤ 8) (hr : h 61 25 = nI r) (hr6 : r ≤ 6) (hst : ∀ k, k < r → Nlt (h 66 k) 4 ∧ Nlt (h 67 k) 4) (hpo : Post (some (if mS h 4 = true then (if mA h 4 = true then (if mT h n 4 = true then (if mJ h r = true then 0 else 4) else 3) else 2) else 1)) (w0 h)) : ∀ m p : Nat, p ≤ 4 → 4 < p + m → X E 0 0 ad (w0 h) 12 [(0, .inr (some 61)), (1, .inl (bI (mS h p = true))), (2, .inl (bI (mA h p = true))), (3, .inl (bI (mT h n p = true))), (4, .inl 1), (5, .inl (nI p))] [] := by
  intro m
  induction m with
  | zero => intro p h1 h2; omega
  | succ m ih =>
    intro p h1 h2
    refine x_iload a 12 d_M_wrong_12 rfl ?_
    refine x_iconst a 14 4 d_M_wrong_14 (by decide) ?_
    refine x_icmp_ge a 15 215 d_M_wrong_15 (by decide) (fun c15 => ?_) (fun c15 => ?_)
    · have hp4 : p = 4 := (by (try simp (disch := omega) only [Int32.le_iff_toInt_le, Int32.lt_iff_toInt_lt, ← Int32.toInt_inj, Int32.reduceToInt, nI_1, nI_add, pk_sub, nI_toInt] at *); omega)
      subst hp4
      refine x_iconst a 215 0 d_M_wrong_215 (by decide) ?_
      refine x_istore a 216 d_M_wrong_216 (by decide) ?_
      refine x_lv [(0, .inr (some 61)), (1, .inl (bI (mS h 4 = true))), (2, .inl (bI (mA h 4 = true))), (3, .inl (bI (mT h n 4 = true))), (4, .inl (bI (mJ h 0 = true))), (5, .inl (nI 0))] (List.forall_mem_cons.mpr ⟨rfl, List.forall_mem_cons.mpr ⟨rfl, List.forall_mem_cons.mpr ⟨rfl, List.forall_mem_cons.mpr ⟨rfl, List.forall_mem_cons.mpr ⟨rfl, List.forall_mem_cons.mpr ⟨rfl, fun _ z => absurd z List.not_mem_nil⟩⟩⟩⟩⟩⟩) ?_
      exact l_M_w5 a qf qa hcs hr hr6 hst hpo (r + 1) 0 (by omega) (by omega)
    · have hp4 : p < 4 := (by (try simp (disch := omega) only [Int32.le_iff_toInt_le, Int32.lt_iff_toInt_lt, ← Int32.toInt_inj, Int32.reduceToInt, nI_1, nI_add, pk_sub, nI_toInt] at *); omega)
      refine l_M_w1 a qa hcs hp4 ?_
      refine x_iconst a 37 0 d_M_wrong_37 (by decide) ?_
      refine x_istore a 38 d_M_wrong_38 (by decide) ?_
      refine x_iconst a 40 0 d_M_wrong_40 (by decide) ?_
      refine x_istore a 41 d_M_wrong_41 (by decide) ?_
      refine x_lv [(0, .inr (some 61)), (1, .inl (bI ((mS h p || decide (m_part h p)) = true))), (2, .inl (bI (mA h p = true))), (3, .inl (bI (mT h n p = true))), (4, .inl 1), (5, .inl (nI p)), (6, .inl (bI (mH h p 0 = true))), (7, .inl (nI 0))] (List.forall_mem_cons.mpr ⟨rfl, List.forall_mem_cons.mpr ⟨rfl, List.forall_mem_cons.mpr ⟨rfl, List.forall_mem_cons.mpr ⟨rfl, List.forall_mem_cons.mpr ⟨rfl, List.forall_mem_cons.mpr ⟨rfl, List.forall_mem_cons.mpr ⟨rfl, List.forall_mem_cons.mpr ⟨rfl, fun _ z => absurd z List.not_mem_nil⟩⟩⟩⟩⟩⟩⟩⟩) ?_
      refine l_M_w2 a qa hcs hp4 hn hn8 ?_ (n + 1) 0 (by omega) (by omega)
      refine l_M_w3 a qa hcs hp4 ?_
      refine x_iconst a 103 0 d_M_wrong_103 (by decide) ?_
      refine x_istore a 104 d_M_wrong_104 (by decide) ?_
      refine x_lv [(0, .inr (some 61)), (1, .inl (bI ((mS h p || decide (m_part h p)) = true))), (2, .inl (bI (mA1 h p (mA h p) 0 = true))), (3, .inl (bI ((mT h n p && (mH h p n == decide (m_part h p))) = true))), (4, .inl 1), (5, .inl (nI p)), (7, .inl (nI 0))] (List.forall_mem_cons.mpr ⟨rfl, List.forall_mem_cons.mpr ⟨rfl, List.forall_mem_cons.mpr ⟨rfl, List.forall_mem_cons.mpr ⟨rfl, List.forall_mem_cons.mpr ⟨rfl, List.forall_mem_cons.mpr ⟨rfl, List.forall_mem_cons.mpr ⟨rfl, fun _ z => absurd z List.not_mem_nil⟩⟩⟩⟩⟩⟩⟩) ?_
      refine l_M_w4 a qa hcs hp4 ?_ (p + 1) 0 (by omega) (by omega)
      refine x_iinc a 209 (nI (p + 1)) d_M_wrong_209 rfl (nI_inc p) (by decide) ?_
      refine x_goto a 212 12 d_M_wrong_212 (by decide) ?_
      refine x_lv [(0, .inr (some 61)), (1, .inl (bI (mS h (p + 1) = true))), (2, .inl (bI (mA h (p + 1) = true))), (3, .inl (bI (mT h n (p + 1) = true))), (4, .inl 1), (5, .inl (nI (p + 1)))] (List.forall_mem_cons.mpr ⟨rfl, List.forall_mem_cons.mpr ⟨rfl, List.forall_mem_cons.mpr ⟨rfl, List.forall_mem_cons.mpr ⟨rfl, List.forall_mem_cons.mpr ⟨rfl, List.forall_mem_cons.mpr ⟨rfl, fun _ z => absurd z List.not_mem_nil⟩⟩⟩⟩⟩⟩) ?_
      exact ih (p + 1) hp4 (by omega)
set_option maxRecDepth 100000 in
set_option maxHeartbeats 4000000 in
theorem c_M_wrong (h : Hp) (hn : Nlt (h 61 24) 9) (hr : Nlt (h 61 25) 7) (hst : ∀ k, k < tn (h 61 25) → Nlt (h 66 k) 4 ∧ Nlt (h 67 k) 4) : Cn u_M_wrong 1 0 0 (w0 h) [.inr (some 61)] (fun v w' => v = some (m_wrong h) ∧ w' = w0 h) := by
  refine Cn.of (by decide +kernel) (Nat.le_of_ble_eq_true rfl) (fun E ad a qf => ?_)
  have qa := qf.2.2.2
  have hcs : 0 ≤ (eR E).cells ∧ 0 ≤ (eR E).slots := ⟨Nat.zero_le _, Nat.zero_le _⟩
  have hn1 := hn.1
  have hr1 := hr.1
  refine x_iconst a 0 0 d_M_wrong_0 (by decide) ?_
  refine x_istore_n a 1 d_M_wrong_1 (by decide) ?_
  refine x_iconst a 2 1 d_M_wrong_2 (by decide) ?_
  refine x_istore_n a 3 d_M_wrong_3 (by decide) ?_
  refine x_iconst a 4 1 d_M_wrong_4 (by decide) ?_
  refine x_istore_n a 5 d_M_wrong_5 (by decide) ?_
  refine x_iconst a 6 1 d_M_wrong_6 (by decide) ?_
  refine x_istore a 7 d_M_wrong_7 (by decide) ?_
  refine x_iconst a 9 0 d_M_wrong_9 (by decide) ?_
  refine x_istore a 10 d_M_wrong_10 (by decide) ?_
  refine x_lv [(0, .inr (some 61)), (1, .inl (bI (mS h 0 = true))), (2, .inl (bI (mA h 0 = true))), (3, .inl (bI (mT h (tn (h 61 24)) 0 = true))), (4, .inl 1), (5, .inl (nI 0))] (List.forall_mem_cons.mpr ⟨rfl, List.forall_mem_cons.mpr ⟨rfl, List.forall_mem_cons.mpr ⟨rfl, List.forall_mem_cons.mpr ⟨rfl, List.forall_mem_cons.mpr ⟨rfl, List.forall_mem_cons.mpr ⟨rfl, fun _ z => absurd z List.not_mem_nil⟩⟩⟩⟩⟩⟩) ?_
  exact l_M_w6 a qf qa hcs hn.2 (by omega) hr.2 (by omega) hst ⟨rfl, rfl⟩ 5 0 (by omega) (by omega)
