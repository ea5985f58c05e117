theorem p_clear_alt (c : Hp) (j : Nat) : p_clear c j = up2 (up2 (up2 (up2 (up2 c (3 + 9 * j) 9 0) (8 + 9 * j) 0 0) (8 + 9 * j) 1 0) (8 + 9 * j) 2 0) (8 + 9 * j) 3 0 := by
  unfold p_clear
  rw [up2_comm _ (by omega : 8 + 9 * j ≠ 3 + 9 * j), up2_comm _ (by omega : 8 + 9 * j ≠ 3 + 9 * j), up2_comm _ (by omega : 8 + 9 * j ≠ 3 + 9 * j), up2_comm _ (by omega : 8 + 9 * j ≠ 3 + 9 * j)]
theorem sim_clear {c m : Hp} {B j : Nat} (h : R2 c m B) (hj : j < 4) : R2 (p_clear c j) (mr_reg (up2 m 78 j 0) j 4) B := by
  rw [p_clear_alt]
  exact sim_reg (sim_reg (sim_reg (sim_reg (sim_place h hj) hj (by decide)) hj (by decide)) hj (by decide)) hj (by decide)
theorem sim_rmem {c m : Hp} {B : Nat} (h : R2 c m B) (f : Nat) : ∀ k, R2 (r_mem c f k) (mr_mem m f k) B
  | 0 => h
  | k + 1 => sim_mem (sim_rmem h f k)
theorem sim_rprt {c m : Hp} {B : Nat} (h : R2 c m B) (j : Nat) : ∀ k, k ≤ 6 → R2 (r_prt c j k) (mr_prt m j k) B
  | 0, _ => h
  | k + 1, hk => by
    have ih := sim_rprt h j k (by omega)
    have hp := ih.port (by omega : k < 6)
    rw [r_prt, mr_prt, hp.2.1, mr_prt_o _ _ (by decide : 67 ≠ 69)]
    by_cases e : m 67 k = nI j
    · rw [if_pos e, if_pos e]
      exact sim_clr ih (by omega)
    · rw [if_neg e, if_neg e, up2_same _ rfl]
      exact ih
theorem reg_tn {c m : Hp} {B j : Nat} (h : R2 c m B) (hj : j < 4) : tn (c (3 + 9 * j) 7) = tn (m 62 j) ∧ tn (c (3 + 9 * j) 8) = tn (m 63 j) := by
  rcases (h.2.1 j hj).1 with ⟨a1, a2, a3, a4⟩ | ⟨a1, a2, a3, a4, a5, a6⟩
  · rw [a1, a2, a3, a4]
    exact ⟨by decide, rfl⟩
  · rw [a5, a6]
    exact ⟨rfl, rfl⟩
theorem sim_restart {c m : Hp} {B j : Nat} (h : R2 c m B) (hj : j < 4) : R2 (d_restart c j) (m_again (up2 m 78 j 0) j) B := by
  unfold d_restart m_again
  have e := reg_tn h hj
  rw [e.1, e.2, h.cnt.1, up2_o _ _ _ (by decide : 62 ≠ 78), up2_o _ _ _ (by decide : 63 ≠ 78), up2_o _ _ _ (by decide : 61 ≠ 78)]
  have hn := h.cnt.2.1.1
  exact sim_rprt (sim_rmem (sim_clear h hj) _ _) j _ (by omega)
theorem sim_answer {c m : Hp} {B j f : Nat} (h : R2 c m B) (hj : j < 4) (h1 : 1 ≤ f) (h4 : f ≤ 4) : R2 (d_answer c j f) (m_react m j f) B := by
  have ha := (h.act hj) (f - 1) (by omega)
  rw [show 4 * j + (f - 1) = 4 * j + f - 1 by omega] at ha
  have hn := h.num hj
  have hf : R2 (up2 c (3 + 9 * j) 11 (c (3 + 9 * j) 11 + 1)) (up2 m 79 j (m 79 j + 1)) B := by
    rw [hn.2.2]
    exact sim_flt h hj
  unfold d_answer m_react
  rw [ha.1]
  rcases ha.2 with e | e | e
  · rw [e, if_neg (by decide), if_neg (by decide), if_pos rfl]
    exact sim_run hf hj
  · rw [e, if_pos rfl, if_neg (by decide), if_pos rfl]
    exact sim_restart hf hj
  · rw [e, if_neg (show ¬ (2 : Int32) = 1 by decide), if_pos (show (2 : Int32) = 2 from rfl), if_neg (show ¬ (2 : Int32) = 0 by decide), if_neg (show ¬ (2 : Int32) = 1 by decide), if_pos (show (2 : Int32) = 2 from rfl), hn.1]
    exact sim_place hf hj
theorem o_cases {o : Int32} (h : ¬ (o < 0 ∨ 14 < o)) : o = 0 ∨ o = 1 ∨ o = 2 ∨ o = 3 ∨ o = 4 ∨ o = 5 ∨ o = 6 ∨ o = 7 ∨ o = 8 ∨ o = 9 ∨ o = 10 ∨ o = 11 ∨ o = 12 ∨ o = 13 ∨ o = 14 := by
  simp only [Int32.le_iff_toInt_le, Int32.lt_iff_toInt_lt, ← Int32.toInt_inj, Int32.reduceToInt] at *
  omega
theorem sim_carry {c m : Hp} {B j : Nat} (h : R2 c m B) (hB : B < 2 ^ 30 - 1) (hj : j < 4) (o x b : Int32) (hf : (m_do m j o x b).2 = 0) (hs : ¬ m 61 26 = 0) (hw : j = tn (m 64 (tn (m 61 27)))) : R2 (d_carry c j o x b) (m_do m j o x b).1 (B + 1) := by
  have hno : ¬ (o < 0 ∨ 14 < o) := by
    intro z
    rw [do_smp (by rcases z with z | z; exact Or.inl (Int32.lt_trans z (by decide)); exact Or.inr (Int32.lt_trans (by decide) z))] at hf
    unfold m_simple at hf
    rw [if_pos z] at hf
    cases hf
  have hm : ∀ k : Int32, k = 5 ∨ k = 6 → o = k → mIn (m 77 (4 * j + rg b)) 0 (m 63 j - 1) := by
    intro k hk e
    subst e
    rw [do_ins (by rcases hk with rfl | rfl <;> decide) (by rcases hk with rfl | rfl <;> decide)] at hf
    unfold m_inside at hf
    apply Decidable.byContradiction
    intro z
    rw [if_pos ⟨by rcases hk with rfl | rfl <;> decide, z⟩] at hf
    cases hf
  rcases o_cases hno with rfl | rfl | rfl | rfl | rfl | rfl | rfl | rfl | rfl | rfl | rfl | rfl | rfl | rfl | rfl
  · exact (sim_op0 h hj x b).mono (by omega)
  · exact (sim_op1 h hj x b).mono (by omega)
  · exact (sim_op2 h hj x b).mono (by omega)
  · exact (sim_op3 h hj x b).mono (by omega)
  · exact (sim_op4 h hj x b).mono (by omega)
  · exact (sim_op5 h hj x b (hm 5 (Or.inl rfl) rfl)).mono (by omega)
  · exact (sim_op6 h hj x b (hm 6 (Or.inr rfl) rfl)).mono (by omega)
  · exact (sim_op7 h hj x b).mono (by omega)
  · exact (sim_op8 h hj x b).mono (by omega)
  · rw [do_msg (by decide) (by decide), msg9] at hf
    by_cases hc : mIn x 0 (m 61 25 - 1) ∧ m 66 (tn x) = nI j
    · exact (sim_op9 h hj x b hc.1 hc.2).mono (by omega)
    · rw [if_neg hc] at hf
      cases hf
  · rw [do_msg (by decide) (by decide), msg10] at hf
    by_cases hc : mIn x 0 (m 61 25 - 1) ∧ m 67 (tn x) = nI j
    · exact (sim_op10 h hj x b hc.1 hc.2).mono (by omega)
    · rw [if_neg hc] at hf
      cases hf
  · exact (sim_op11 h hj x b).mono (by omega)
  · exact sim_op12 h hj x b hB
  · exact (sim_op13 h hj x b hs hw).mono (by omega)
  · exact (sim_op14 h hj x b).mono (by omega)
theorem pl_iff (x : Int32) : (0 ≤ x ∧ x < 16) ↔ mIn x 0 15 := by
  show _ ↔ (0 ≤ x ∧ x ≤ 15)
  simp only [Int32.le_iff_toInt_le, Int32.lt_iff_toInt_lt, Int32.reduceToInt]
  omega
theorem sim_step {c m : Hp} {B j : Nat} (h : R2 c m B) (hB : B < 2 ^ 30 - 1) (hj : j < 4) (hs : ¬ m 61 26 = 0) (hw : j = tn (m 64 (tn (m 61 27)))) : R2 (d_step c j) (m_step m j) (B + 1) := by
  have hn := (h.num hj).1
  unfold d_step m_step
  rw [hn]
  by_cases hp : mIn (m 78 j) 0 15
  · have hp2 := (pl_iff (m 78 j)).mpr hp
    have h16 : tn (m 78 j) < 16 := by
      have := tn_lt hp2.1 hp2.2
      exact this
    have hpr := (h.prog hj) _ h16
    rw [if_pos hp2, if_pos hp, hpr.1, hpr.2.1, hpr.2.2, fault_eq h hj]
    by_cases hf : (m_do m j (m 73 (16 * j + tn (m 78 j))) (m 74 (16 * j + tn (m 78 j))) (m 75 (16 * j + tn (m 78 j)))).2 = 0
    · rw [if_pos hf, if_pos hf]
      exact sim_carry h hB hj _ _ _ hf hs hw
    · rw [if_neg hf, if_neg hf]
      have := m_do_le m j (m 73 (16 * j + tn (m 78 j))) (m 74 (16 * j + tn (m 78 j))) (m 75 (16 * j + tn (m 78 j)))
      exact (sim_answer h hj (by omega) (by omega)).mono (by omega)
  · rw [if_neg (fun z => hp ((pl_iff _).mp z)), if_neg hp]
    exact (sim_answer h hj (by decide) (by decide)).mono (by omega)
theorem sim_end {c m : Hp} {B a n j v l : Nat} (h : R2 c m B) (hs : ¬ m 61 26 = 0) (ha : a = tn (m 61 27)) (hn : n = tn (m 61 24)) (hj : j = tn (m 64 a)) (hv : v = tn (m 61 28)) (hl : l = tn (m 65 a)) : R2 (f_end c a n v l) (m_end m j a n) B := by
  obtain ⟨s1, s2, s3⟩ := h.st hs
  have hf := h.fr
  have hk := h.clk
  have hfa := hf.2.2 _ s1.1
  have n9 := hf.2.1.1
  rw [← ha] at s2 s3 hfa
  rw [← hj] at s3
  have s11 : a < n := by rw [ha, hn]; exact s1.1
  have s21 : v < l := by rw [hv, hl]; exact s2.1
  have hl9 : l < 10 := by rw [hl]; exact hfa.2.2.2.1.1
  have hj4 : j < 4 := by rw [hj]; exact hfa.2.2.1.1
  have e28 : m 61 28 = nI v := by rw [hv]; exact s2.2
  have e65 : m 65 a = nI l := by rw [hl]; exact hfa.2.2.2.1.2
  rw [← hn] at n9
  unfold f_end m_end
  by_cases e : l ≤ v + 1
  · have e2 : m 61 28 + 1 = m 65 a := by rw [e28, e65, nI_1, show v + 1 = l by omega]
    have e3 : (a + 1) % n = if a + 1 < n then a + 1 else 0 := by
      split
      · exact Nat.mod_eq_of_lt (by assumption)
      · rw [show a + 1 = n by omega, Nat.mod_self]
    rw [if_pos e, if_pos e2, e3, hk.2.2.2]
    have hb : (if a + 1 < n then a + 1 else 0) < n := by split <;> omega
    generalize (if a + 1 < n then a + 1 else 0) = a' at hb ⊢
    have hfb := hf.2.2 a' (by rw [← hn]; exact hb)
    refine h.mk (fun z => z.cg ((((((Ag.rf).up (by omega)).up (by omega)).up (by omega)).up (by omega)).up (by omega)) ((((((Ag.rf).up (by omega)).up (by omega)).up (by omega)).up (by omega)).up (by omega))) (fun i hi z => z.cg ((((((Ag.rf).up (by omega)).up (by omega)).up (by omega)).up (by omega)).up (by omega)) ((((((Ag.rf).up (by omega)).up (by omega)).up (by omega)).up (by omega)).up (by omega))) (fun i hi z => z.cg ((((((Ag.rf).up (by omega)).up (by omega)).up (by omega)).up (by omega)).up (by omega)) ((((((Ag.rf).up (by omega)).up (by omega)).up (by omega)).up (by omega)).up (by omega))) (fun i hi z => z.cg ((((((Ag.rf).up (by omega)).up (by omega)).up (by omega)).up (by omega)).up (by omega)) ((((((Ag.rf).up (by omega)).up (by omega)).up (by omega)).up (by omega)).up (by omega))) (fun i hi z => z.cg ((((((Ag.rf).up (by omega)).up (by omega)).up (by omega)).up (by omega)).up (by omega)) ((((((Ag.rf).up (by omega)).up (by omega)).up (by omega)).up (by omega)).up (by omega))) (fun i hi z => z.cg ((((((Ag.rf).up (by omega)).up (by omega)).up (by omega)).up (by omega)).up (by omega)) ((((((Ag.rf).up (by omega)).up (by omega)).up (by omega)).up (by omega)).up (by omega))) (fun i hi z => z.cg ((((((Ag.rf).up (by omega)).up (by omega)).up (by omega)).up (by omega)).up (by omega)) ((((((Ag.rf).up (by omega)).up (by omega)).up (by omega)).up (by omega)).up (by omega))) (fun i hi z => z.cg ((((((Ag.rf).up (by omega)).up (by omega)).up (by omega)).up (by omega)).up (by omega)) ((((((Ag.rf).up (by omega)).up (by omega)).up (by omega)).up (by omega)).up (by omega))) (fun i hi z => z.cg ((((((Ag.rf).up (by omega)).up (by omega)).up (by omega)).up (by omega)).up (by omega)) ((((((Ag.rf).up (by omega)).up (by omega)).up (by omega)).up (by omega)).up (by omega))) (fun i hi z => z.cg ((((((Ag.rf).up (by omega)).up (by omega)).up (by omega)).up (by omega)).up (by omega)) ((((((Ag.rf).up (by omega)).up (by omega)).up (by omega)).up (by omega)).up (by omega))) (fun z => z.cg ((((((Ag.rf).up (by omega)).up (by omega)).up (by omega)).up (by omega)).up (by omega)) ((((((Ag.rf).up (by omega)).up (by omega)).up (by omega)).up (by omega)).up (by omega))) (fun z => z.cg ((((((Ag.rf).up (by omega)).up (by omega)).up (by omega)).up (by omega)).up (by omega)) ((((((Ag.rf).up (by omega)).up (by omega)).up (by omega)).up (by omega)).up (by omega))) ?_ ?_
    · intro _
      refine ⟨?_, ?_, ?_, ?_⟩
      · simp (disch := omega) only [up2_o, up2_k, up2_s]
        exact hk.1
      · simp (disch := omega) only [up2_o, up2_k, up2_s]
      · simp (disch := omega) only [up2_o, up2_k, up2_s]
      · simp (disch := omega) only [up2_o, up2_k, up2_s]
    · intro _ _
      simp (disch := omega) only [up2_o, up2_k, up2_s]
      refine ⟨Nlt.of rfl (by rw [← hn]; exact hb) (by omega), ?_, fun p hp => ?_⟩
      · rw [tn_nI (by omega)]
        exact Nlt.of (k := 0) rfl hfb.2.2.2.2 (Nat.le_trans (Nat.le_of_lt hfb.2.2.2.1.1) (by decide))
      · by_cases ep : p = j
        · rw [up2_e _ _ _ ep]
          split <;> rfl
        · rw [up2_k _ _ _ ep]
          simp (disch := omega) only [up2_o]
          rw [s3 p hp, if_neg ep]
          split <;> rfl
  · have e2 : ¬ m 61 28 + 1 = m 65 a := by
      rw [e28, e65, nI_1]
      intro z
      exact e (Nat.le_of_eq ((nI_eq (by omega) (by omega)).mp z).symm)
    rw [if_neg e, if_neg e2, hk.2.2.2]
    refine h.mk (fun z => z.cg (((Ag.rf).up (by omega)).up (by omega)) (((Ag.rf).up (by omega)).up (by omega))) (fun i hi z => z.cg (((Ag.rf).up (by omega)).up (by omega)) (((Ag.rf).up (by omega)).up (by omega))) (fun i hi z => z.cg (((Ag.rf).up (by omega)).up (by omega)) (((Ag.rf).up (by omega)).up (by omega))) (fun i hi z => z.cg (((Ag.rf).up (by omega)).up (by omega)) (((Ag.rf).up (by omega)).up (by omega))) (fun i hi z => z.cg (((Ag.rf).up (by omega)).up (by omega)) (((Ag.rf).up (by omega)).up (by omega))) (fun i hi z => z.cg (((Ag.rf).up (by omega)).up (by omega)) (((Ag.rf).up (by omega)).up (by omega))) (fun i hi z => z.cg (((Ag.rf).up (by omega)).up (by omega)) (((Ag.rf).up (by omega)).up (by omega))) (fun i hi z => z.cg (((Ag.rf).up (by omega)).up (by omega)) (((Ag.rf).up (by omega)).up (by omega))) (fun i hi z => z.cg (((Ag.rf).up (by omega)).up (by omega)) (((Ag.rf).up (by omega)).up (by omega))) (fun i hi z => z.cg (((Ag.rf).up (by omega)).up (by omega)) (((Ag.rf).up (by omega)).up (by omega))) (fun z => z.cg (((Ag.rf).up (by omega)).up (by omega)) (((Ag.rf).up (by omega)).up (by omega))) (fun z => z.cg (((Ag.rf).up (by omega)).up (by omega)) (((Ag.rf).up (by omega)).up (by omega))) ?_ ?_
    · intro _
      refine ⟨?_, ?_, ?_, ?_⟩
      · simp (disch := omega) only [up2_o, up2_k, up2_s]
        exact hk.1
      · simp (disch := omega) only [up2_o, up2_k, up2_s]
        exact hk.2.1
      · simp (disch := omega) only [up2_o, up2_k, up2_s]
        rw [e28, nI_1]
      · simp (disch := omega) only [up2_o, up2_k, up2_s]
    · intro _ _
      simp (disch := omega) only [up2_o, up2_k, up2_s]
      rw [← ha, ← hn, ← hj]
      refine ⟨by rw [hn]; exact s1, ?_, s3⟩
      rw [e28, nI_1, ← hl]
      exact Nlt.of rfl (by omega) (by omega)
