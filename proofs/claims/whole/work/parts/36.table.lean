/-! the table's calls -/
theorem p_iff (p : Int32) : (0 ≤ p ∧ p < 4) ↔ mIn p 0 3 := by
  show _ ↔ (0 ≤ p ∧ p ≤ 3)
  simp only [Int32.le_iff_toInt_le, Int32.lt_iff_toInt_lt, Int32.reduceToInt]
  omega
theorem p_tn {p : Int32} (h : mIn p 0 3) : tn p < 4 ∧ p = nI (tn p) := by
  have h2 := (p_iff p).mpr h
  exact ⟨tn_lt h2.1 h2.2, nn_tn h2.1⟩
theorem in_tn {x : Int32} {a b : Int32} {N : Nat} (h : mIn x a b) (ha : 0 ≤ a) (hb : b.toInt ≤ N) : (tn x : Int) = x.toInt ∧ tn x ≤ N ∧ x = nI (tn x) := by
  have h1 := h.1
  have h2 := h.2
  rw [Int32.le_iff_toInt_le] at h1 h2 ha
  have h0 : 0 ≤ x := by rw [Int32.le_iff_toInt_le]; omega
  have h3 := tn_int h0
  exact ⟨h3, by omega, nn_tn h0⟩
theorem un_start {c m c' m' : Hp} (h : m' 61 26 = 0) : RS c m → RS c' m' := fun _ z => absurd h z
theorem sim_region {c m : Hp} {B : Nat} (h : R2 c m B) (p f s : Int32) : R2 (d_region c p f s).1 (m_region m p f s).1 B ∧ (d_region c p f s).2 = (m_region m p f s).2 := by
  have hk := h.clk
  unfold d_region m_region
  by_cases e : mIn p 0 3 ∧ mIn s 1 32 ∧ mIn f 0 (64 - s)
  · rw [if_pos e, if_pos ⟨(p_iff p).mpr e.1, e.2.1.1, e.2.1.2, e.2.2.1, e.2.2.2⟩]
    refine ⟨?_, rfl⟩
    dsimp only
    obtain ⟨hp4, -⟩ := p_tn e.1
    have hs := in_tn (N := 32) e.2.1 (by decide) (by decide)
    have hs1 := e.2.1.1
    rw [Int32.le_iff_toInt_le] at hs1
    have hs1 : 1 ≤ s.toInt := hs1
    have hf2 := e.2.2.2
    rw [Int32.le_iff_toInt_le, Int32.toInt_sub, show (64 : Int32).toInt = 64 from rfl, Int.bmod_eq_of_le (by omega) (by omega)] at hf2
    have hf := tn_int e.2.2.1
    have hf3 := nn_tn e.2.2.1
    generalize tn p = j at hp4 ⊢
    refine h.mk (fun z => z.cg ((((Ag.rf).up (by omega)).up (by omega)).up (by omega)) ((((Ag.rf).up (by omega)).up (by omega)).up (by omega))) ?_ (fun i hi z => z.cg ((((Ag.rf).up (by omega)).up (by omega)).up (by omega)) ((((Ag.rf).up (by omega)).up (by omega)).up (by omega))) (fun i hi z => z.cg ((((Ag.rf).up (by omega)).up (by omega)).up (by omega)) ((((Ag.rf).up (by omega)).up (by omega)).up (by omega))) (fun i hi z => z.cg ((((Ag.rf).up (by omega)).up (by omega)).up (by omega)) ((((Ag.rf).up (by omega)).up (by omega)).up (by omega))) (fun i hi z => z.cg ((((Ag.rf).up (by omega)).up (by omega)).up (by omega)) ((((Ag.rf).up (by omega)).up (by omega)).up (by omega))) (fun i hi z => z.cg ((((Ag.rf).up (by omega)).up (by omega)).up (by omega)) ((((Ag.rf).up (by omega)).up (by omega)).up (by omega))) (fun i hi z => z.cg ((((Ag.rf).up (by omega)).up (by omega)).up (by omega)) ((((Ag.rf).up (by omega)).up (by omega)).up (by omega))) (fun i hi z => z.cg ((((Ag.rf).up (by omega)).up (by omega)).up (by omega)) ((((Ag.rf).up (by omega)).up (by omega)).up (by omega))) (fun i hi z => z.cg ((((Ag.rf).up (by omega)).up (by omega)).up (by omega)) ((((Ag.rf).up (by omega)).up (by omega)).up (by omega))) (fun z => z.cg ((((Ag.rf).up (by omega)).up (by omega)).up (by omega)) ((((Ag.rf).up (by omega)).up (by omega)).up (by omega))) (fun z => z.cg ((((Ag.rf).up (by omega)).up (by omega)).up (by omega)) ((((Ag.rf).up (by omega)).up (by omega)).up (by omega))) ?_ (un_start (up2_s _ _ _ _))
    · intro i hi z
      by_cases ei : i = j
      · subst ei
        right
        simp (disch := omega) only [up2_o, up2_k, up2_s]
        exact ⟨⟨by omega, hf3⟩, ⟨by omega, hs.2.2⟩, by omega, by omega, True.intro, True.intro⟩
      · exact z.cg (((Ag.rf.up (by omega)).up (by omega)).up (by omega)) (((Ag.rf.up (by omega)).up (by omega)).up (by omega))
    · intro _
      refine ⟨?_, ?_, ?_, ?_⟩
      · simp (disch := omega) only [up2_o, up2_k, up2_s]
      · simp (disch := omega) only [up2_o, up2_k, up2_s]
        exact hk.2.1
      · simp (disch := omega) only [up2_o, up2_k, up2_s]
        exact hk.2.2.1
      · simp (disch := omega) only [up2_o, up2_k, up2_s]
        exact hk.2.2.2
  · rw [if_neg e, if_neg (fun z => e ⟨(p_iff p).mp z.1, ⟨z.2.1, z.2.2.1⟩, ⟨z.2.2.2.1, z.2.2.2.2⟩⟩)]
    exact ⟨h, rfl⟩
theorem sim_window {c m : Hp} {B : Nat} (h : R2 c m B) (p t : Int32) : R2 (d_window c p t).1 (m_window m p t).1 B ∧ (d_window c p t).2 = (m_window m p t).2 := by
  have hk := h.clk
  have hf := h.fr
  have hn9 := hf.2.1.1
  have hint := hf.2.1.int (by decide)
  have e8 : ¬ 8 ≤ c 58 2 ↔ ¬ m 61 24 = 8 := by
    rw [hf.1, Int32.le_iff_toInt_le, ← Int32.toInt_inj, hint, show (8 : Int32).toInt = 8 from rfl]
    omega
  unfold d_window m_window
  by_cases e : mIn p 0 3 ∧ mIn t 1 9 ∧ ¬ m 61 24 = 8
  · rw [if_pos e, if_pos ⟨(p_iff p).mpr e.1, e.2.1.1, e.2.1.2, e8.mpr e.2.2⟩]
    refine ⟨?_, rfl⟩
    dsimp only
    have hp := p_tn e.1
    have ht := in_tn (N := 9) e.2.1 (by decide) (by decide)
    have ht1 := e.2.1.1
    rw [Int32.le_iff_toInt_le] at ht1
    have ht1 : 1 ≤ t.toInt := ht1
    have hn8 : tn (m 61 24) < 8 := by
      have z := e.2.2
      rw [← Int32.toInt_inj, hint, show (8 : Int32).toInt = 8 from rfl] at z
      omega
    have e1 : m 61 24 + 1 = nI (tn (m 61 24) + 1) := num_1 hf.2.1
    rw [hf.1, e1]
    generalize hnn : tn (m 61 24) = n at hn8 ⊢
    refine h.mk (fun z => z.cg (((((Ag.rf).up (by omega)).up (by omega)).up (by omega)).up (by omega)) (((((Ag.rf).up (by omega)).up (by omega)).up (by omega)).up (by omega))) (fun i hi z => z.cg (((((Ag.rf).up (by omega)).up (by omega)).up (by omega)).up (by omega)) (((((Ag.rf).up (by omega)).up (by omega)).up (by omega)).up (by omega))) (fun i hi z => z.cg (((((Ag.rf).up (by omega)).up (by omega)).up (by omega)).up (by omega)) (((((Ag.rf).up (by omega)).up (by omega)).up (by omega)).up (by omega))) (fun i hi z => z.cg (((((Ag.rf).up (by omega)).up (by omega)).up (by omega)).up (by omega)) (((((Ag.rf).up (by omega)).up (by omega)).up (by omega)).up (by omega))) (fun i hi z => z.cg (((((Ag.rf).up (by omega)).up (by omega)).up (by omega)).up (by omega)) (((((Ag.rf).up (by omega)).up (by omega)).up (by omega)).up (by omega))) (fun i hi z => z.cg (((((Ag.rf).up (by omega)).up (by omega)).up (by omega)).up (by omega)) (((((Ag.rf).up (by omega)).up (by omega)).up (by omega)).up (by omega))) (fun i hi z => z.cg (((((Ag.rf).up (by omega)).up (by omega)).up (by omega)).up (by omega)) (((((Ag.rf).up (by omega)).up (by omega)).up (by omega)).up (by omega))) (fun i hi z => z.cg (((((Ag.rf).up (by omega)).up (by omega)).up (by omega)).up (by omega)) (((((Ag.rf).up (by omega)).up (by omega)).up (by omega)).up (by omega))) (fun i hi z => z.cg (((((Ag.rf).up (by omega)).up (by omega)).up (by omega)).up (by omega)) (((((Ag.rf).up (by omega)).up (by omega)).up (by omega)).up (by omega))) (fun i hi z => z.cg (((((Ag.rf).up (by omega)).up (by omega)).up (by omega)).up (by omega)) (((((Ag.rf).up (by omega)).up (by omega)).up (by omega)).up (by omega))) (fun z => z.cg (((((Ag.rf).up (by omega)).up (by omega)).up (by omega)).up (by omega)) (((((Ag.rf).up (by omega)).up (by omega)).up (by omega)).up (by omega))) ?_ ?_ (un_start (up2_s _ _ _ _))
    · intro _
      refine ⟨?_, ?_, ?_⟩
      · simp (disch := omega) only [up2_o, up2_k, up2_s]
      · simp (disch := omega) only [up2_o, up2_k, up2_s]
        exact Nlt.of rfl (by omega) (by decide)
      · intro k hk2
        simp (disch := omega) only [up2_o, up2_k, up2_s] at hk2 ⊢
        rw [tn_nI (by omega)] at hk2
        by_cases ek : k = n
        · rw [up2_e _ _ _ ek, up2_e _ _ _ ek, up2_e _ _ _ ek, up2_e _ _ _ ek]
          exact ⟨rfl, rfl, hp, ⟨by omega, ht.2.2⟩, by omega⟩
        · rw [up2_k _ _ _ ek, up2_k _ _ _ ek, up2_k _ _ _ ek, up2_k _ _ _ ek]
          exact hf.2.2 k (by omega)
    · intro _
      refine ⟨?_, ?_, ?_, ?_⟩
      · simp (disch := omega) only [up2_o, up2_k, up2_s]
      · simp (disch := omega) only [up2_o, up2_k, up2_s]
        exact hk.2.1
      · simp (disch := omega) only [up2_o, up2_k, up2_s]
        exact hk.2.2.1
      · simp (disch := omega) only [up2_o, up2_k, up2_s]
        exact hk.2.2.2
  · rw [if_neg e, if_neg (fun z => e ⟨(p_iff p).mp z.1, ⟨z.2.1, z.2.2.1⟩, e8.mp z.2.2.2⟩)]
    exact ⟨h, rfl⟩
theorem sim_action {c m : Hp} {B : Nat} (h : R2 c m B) (p f x : Int32) : R2 (d_action c p f x).1 (m_action m p f x).1 B ∧ (d_action c p f x).2 = (m_action m p f x).2 := by
  have hk := h.clk
  unfold d_action m_action
  by_cases e : mIn p 0 3 ∧ mIn f 1 4 ∧ mIn x 0 2
  · rw [if_pos e, if_pos ⟨(p_iff p).mpr e.1, e.2.1.1, e.2.1.2, e.2.2.1, e.2.2.2⟩]
    refine ⟨?_, rfl⟩
    dsimp only
    obtain ⟨hp4, -⟩ := p_tn e.1
    have hf := in_tn (N := 4) e.2.1 (by decide) (by decide)
    have hf1 := e.2.1.1
    rw [Int32.le_iff_toInt_le] at hf1
    have hf1 : 1 ≤ f.toInt := hf1
    have hx : x = 0 ∨ x = 1 ∨ x = 2 := by
      have z1 := e.2.2.1
      have z2 := e.2.2.2
      simp only [Int32.le_iff_toInt_le, ← Int32.toInt_inj, Int32.reduceToInt] at *
      omega
    generalize tn p = j at hp4 ⊢
    have hf2 : 1 ≤ tn f := by omega
    have hf3 : tn f ≤ 4 := hf.2.1
    generalize tn f = g at hf2 hf3 ⊢
    refine h.mk (fun z => z.cg (((Ag.rf).up (by omega)).up (by omega)) (((Ag.rf).up (by omega)).up (by omega))) (fun i hi z => z.cg (((Ag.rf).up (by omega)).up (by omega)) (((Ag.rf).up (by omega)).up (by omega))) (fun i hi z => z.cg (((Ag.rf).up (by omega)).up (by omega)) (((Ag.rf).up (by omega)).up (by omega))) ?_ (fun i hi z => z.cg (((Ag.rf).up (by omega)).up (by omega)) (((Ag.rf).up (by omega)).up (by omega))) (fun i hi z => z.cg (((Ag.rf).up (by omega)).up (by omega)) (((Ag.rf).up (by omega)).up (by omega))) (fun i hi z => z.cg (((Ag.rf).up (by omega)).up (by omega)) (((Ag.rf).up (by omega)).up (by omega))) (fun i hi z => z.cg (((Ag.rf).up (by omega)).up (by omega)) (((Ag.rf).up (by omega)).up (by omega))) (fun i hi z => z.cg (((Ag.rf).up (by omega)).up (by omega)) (((Ag.rf).up (by omega)).up (by omega))) (fun i hi z => z.cg (((Ag.rf).up (by omega)).up (by omega)) (((Ag.rf).up (by omega)).up (by omega))) (fun z => z.cg (((Ag.rf).up (by omega)).up (by omega)) (((Ag.rf).up (by omega)).up (by omega))) (fun z => z.cg (((Ag.rf).up (by omega)).up (by omega)) (((Ag.rf).up (by omega)).up (by omega))) ?_ (un_start (up2_s _ _ _ _))
    · intro i hi z y hy
      by_cases ei : i = j
      · subst ei
        by_cases ey : y = g - 1
        · simp (disch := omega) only [up2_o]
          rw [up2_e _ _ _ ey, up2_e _ _ _ (by omega)]
          exact ⟨rfl, hx⟩
        · simp (disch := omega) only [up2_o, up2_k]
          exact z y hy
      · simp (disch := omega) only [up2_o, up2_k]
        exact z y hy
    · intro _
      refine ⟨?_, ?_, ?_, ?_⟩
      · simp (disch := omega) only [up2_o, up2_k, up2_s]
      · simp (disch := omega) only [up2_o, up2_k, up2_s]
        exact hk.2.1
      · simp (disch := omega) only [up2_o, up2_k, up2_s]
        exact hk.2.2.1
      · simp (disch := omega) only [up2_o, up2_k, up2_s]
        exact hk.2.2.2
  · rw [if_neg e, if_neg (fun z => e ⟨(p_iff p).mp z.1, ⟨z.2.1, z.2.2.1⟩, ⟨z.2.2.2.1, z.2.2.2.2⟩⟩)]
    exact ⟨h, rfl⟩
theorem sim_code {c m : Hp} {B : Nat} (h : R2 c m B) (p i o x b : Int32) : R2 (d_code c p i o x b).1 (m_code m p i o x b).1 B ∧ (d_code c p i o x b).2 = (m_code m p i o x b).2 := by
  have hk := h.clk
  unfold d_code m_code
  by_cases e : mIn p 0 3 ∧ mIn i 0 15
  · have hi2 := (pl_iff i).mpr e.2
    rw [if_pos e, if_pos ⟨(p_iff p).mpr e.1, hi2⟩]
    refine ⟨?_, rfl⟩
    dsimp only
    obtain ⟨hp4, -⟩ := p_tn e.1
    have hi16 : tn i < 16 := tn_lt hi2.1 hi2.2
    generalize tn p = j at hp4 ⊢
    generalize tn i = g at hi16 ⊢
    refine h.mk (fun z => z.cg (((((Ag.rf).up (by omega)).up (by omega)).up (by omega)).up (by omega)) (((((Ag.rf).up (by omega)).up (by omega)).up (by omega)).up (by omega))) (fun i hi z => z.cg (((((Ag.rf).up (by omega)).up (by omega)).up (by omega)).up (by omega)) (((((Ag.rf).up (by omega)).up (by omega)).up (by omega)).up (by omega))) ?_ (fun i hi z => z.cg (((((Ag.rf).up (by omega)).up (by omega)).up (by omega)).up (by omega)) (((((Ag.rf).up (by omega)).up (by omega)).up (by omega)).up (by omega))) (fun i hi z => z.cg (((((Ag.rf).up (by omega)).up (by omega)).up (by omega)).up (by omega)) (((((Ag.rf).up (by omega)).up (by omega)).up (by omega)).up (by omega))) (fun i hi z => z.cg (((((Ag.rf).up (by omega)).up (by omega)).up (by omega)).up (by omega)) (((((Ag.rf).up (by omega)).up (by omega)).up (by omega)).up (by omega))) (fun i hi z => z.cg (((((Ag.rf).up (by omega)).up (by omega)).up (by omega)).up (by omega)) (((((Ag.rf).up (by omega)).up (by omega)).up (by omega)).up (by omega))) (fun i hi z => z.cg (((((Ag.rf).up (by omega)).up (by omega)).up (by omega)).up (by omega)) (((((Ag.rf).up (by omega)).up (by omega)).up (by omega)).up (by omega))) (fun i hi z => z.cg (((((Ag.rf).up (by omega)).up (by omega)).up (by omega)).up (by omega)) (((((Ag.rf).up (by omega)).up (by omega)).up (by omega)).up (by omega))) (fun i hi z => z.cg (((((Ag.rf).up (by omega)).up (by omega)).up (by omega)).up (by omega)) (((((Ag.rf).up (by omega)).up (by omega)).up (by omega)).up (by omega))) (fun z => z.cg (((((Ag.rf).up (by omega)).up (by omega)).up (by omega)).up (by omega)) (((((Ag.rf).up (by omega)).up (by omega)).up (by omega)).up (by omega))) (fun z => z.cg (((((Ag.rf).up (by omega)).up (by omega)).up (by omega)).up (by omega)) (((((Ag.rf).up (by omega)).up (by omega)).up (by omega)).up (by omega))) ?_ (un_start (up2_s _ _ _ _))
    · intro k hk2 z y hy
      by_cases ek : k = j
      · subst ek
        simp (disch := omega) only [up2_o]
        by_cases ey : y = g
        · rw [up2_e _ _ _ ey, up2_e _ _ _ ey, up2_e _ _ _ ey, up2_e _ _ _ (by omega), up2_e _ _ _ (by omega), up2_e _ _ _ (by omega)]
          exact ⟨rfl, rfl, rfl⟩
        · simp (disch := omega) only [up2_k, up2_o]
          exact z y hy
      · simp (disch := omega) only [up2_o, up2_k]
        exact z y hy
    · intro _
      refine ⟨?_, ?_, ?_, ?_⟩
      · simp (disch := omega) only [up2_o, up2_k, up2_s]
      · simp (disch := omega) only [up2_o, up2_k, up2_s]
        exact hk.2.1
      · simp (disch := omega) only [up2_o, up2_k, up2_s]
        exact hk.2.2.1
      · simp (disch := omega) only [up2_o, up2_k, up2_s]
        exact hk.2.2.2
  · rw [if_neg e, if_neg (fun z => e ⟨(p_iff p).mp z.1, (pl_iff i).mp z.2⟩)]
    exact ⟨h, rfl⟩
theorem sim_dinput {c m : Hp} {B : Nat} (h : R2 c m B) (p v : Int32) : R2 (d_input c p v).1 (m_input m p v).1 B ∧ (d_input c p v).2 = (m_input m p v).2 := by
  unfold d_input m_input
  by_cases ep : mIn p 0 3
  · obtain ⟨hp4, -⟩ := p_tn ep
    have hi := h.inp hp4
    have h9 := hi.2.1.1
    have hint := hi.2.1.int (by decide)
    have e1 : m 82 (tn p) + 1 = nI (tn (m 82 (tn p)) + 1) := num_1 hi.2.1
    have e8 : tn (m 82 (tn p)) < 8 ↔ ¬ m 82 (tn p) = 8 := by
      rw [← Int32.toInt_inj, hint, show (8 : Int32).toInt = 8 from rfl]
      omega
    rw [hi.2.2.1]
    by_cases e : m 82 (tn p) = 8
    · rw [if_neg (fun z => e8.mp z.2 e), if_neg (fun z => z.2 e)]
      exact ⟨h, rfl⟩
    · rw [if_pos ⟨(p_iff p).mpr ep, e8.mpr e⟩, if_pos ⟨ep, e⟩, e1]
      exact ⟨sim_input h hp4 (e8.mpr e), rfl⟩
  · rw [if_neg (fun z => ep ((p_iff p).mp z.1)), if_neg (fun z => ep z.1)]
    exact ⟨h, rfl⟩
theorem sim_port {c m : Hp} {B : Nat} (h : R2 c m B) (f t d : Int32) : R2 (d_port c f t d).1 (m_port m f t d).1 B ∧ (d_port c f t d).2 = (m_port m f t d).2 := by
  have hk := h.clk
  have hc := h.cnt
  have hn7 := hc.2.1.1
  have hint := hc.2.1.int (by decide)
  have e6 : c 0 4 < 6 ↔ ¬ m 61 25 = 6 := by
    rw [hc.1, Int32.lt_iff_toInt_lt, ← Int32.toInt_inj, hint, show (6 : Int32).toInt = 6 from rfl]
    omega
  unfold d_port m_port
  by_cases e : mIn f 0 3 ∧ mIn t 0 3 ∧ ¬ f = t ∧ mIn d 0 4 ∧ ¬ m 61 25 = 6
  · rw [if_pos e, if_pos ⟨(p_iff f).mpr e.1, (p_iff t).mpr e.2.1, e.2.2.1, e.2.2.2.1.1, e.2.2.2.1.2, e6.mpr e.2.2.2.2⟩]
    have hn6 : tn (m 61 25) < 6 := by
      have z := e.2.2.2.2
      rw [← Int32.toInt_inj, hint, show (6 : Int32).toInt = 6 from rfl] at z
      omega
    have e1 : m 61 25 + 1 = nI (tn (m 61 25) + 1) := num_1 hc.2.1
    have hf := p_tn e.1
    have ht := p_tn e.2.1
    have hd := in_tn (N := 4) e.2.2.2.1 (by decide) (by decide)
    have hv0 := (h.val hn6).2.2.2.2.1 (Nat.le_refl _)
    have es : up2 (up2 (up2 (up2 m 66 (tn (m 61 25)) f) 67 (tn (m 61 25)) t) 68 (tn (m 61 25)) d) 69 (tn (m 61 25)) 0 = up2 (up2 (up2 m 66 (tn (m 61 25)) f) 67 (tn (m 61 25)) t) 68 (tn (m 61 25)) d := up2_same _ (by simp (disch := omega) only [up2_o]; exact hv0)
    refine ⟨?_, ?_⟩
    · show R2 (up2 (up2 (up2 (up2 (up2 c (40 + 3 * tn (c 0 4)) 1 f) (40 + 3 * tn (c 0 4)) 2 t) (40 + 3 * tn (c 0 4)) 3 d) 0 4 (c 0 4 + 1)) 0 5 0) (up2 (up2 (up2 (up2 (up2 (up2 m 66 (tn (m 61 25)) f) 67 (tn (m 61 25)) t) 68 (tn (m 61 25)) d) 69 (tn (m 61 25)) 0) 61 25 (m 61 25 + 1)) 61 26 0) B
      rw [es, hc.1, e1]
      generalize hnn : tn (m 61 25) = n at hn6 hv0 ⊢
      refine h.mk (fun z => z.cg ((((((Ag.rf).up (by omega)).up (by omega)).up (by omega)).up (by omega)).up (by omega)) ((((((Ag.rf).up (by omega)).up (by omega)).up (by omega)).up (by omega)).up (by omega))) (fun i hi z => z.cg ((((((Ag.rf).up (by omega)).up (by omega)).up (by omega)).up (by omega)).up (by omega)) ((((((Ag.rf).up (by omega)).up (by omega)).up (by omega)).up (by omega)).up (by omega))) (fun i hi z => z.cg ((((((Ag.rf).up (by omega)).up (by omega)).up (by omega)).up (by omega)).up (by omega)) ((((((Ag.rf).up (by omega)).up (by omega)).up (by omega)).up (by omega)).up (by omega))) (fun i hi z => z.cg ((((((Ag.rf).up (by omega)).up (by omega)).up (by omega)).up (by omega)).up (by omega)) ((((((Ag.rf).up (by omega)).up (by omega)).up (by omega)).up (by omega)).up (by omega))) (fun i hi z => z.cg ((((((Ag.rf).up (by omega)).up (by omega)).up (by omega)).up (by omega)).up (by omega)) ((((((Ag.rf).up (by omega)).up (by omega)).up (by omega)).up (by omega)).up (by omega))) (fun i hi z => z.cg ((((((Ag.rf).up (by omega)).up (by omega)).up (by omega)).up (by omega)).up (by omega)) ((((((Ag.rf).up (by omega)).up (by omega)).up (by omega)).up (by omega)).up (by omega))) (fun i hi z => z.cg ((((((Ag.rf).up (by omega)).up (by omega)).up (by omega)).up (by omega)).up (by omega)) ((((((Ag.rf).up (by omega)).up (by omega)).up (by omega)).up (by omega)).up (by omega))) (fun i hi z => z.cg ((((((Ag.rf).up (by omega)).up (by omega)).up (by omega)).up (by omega)).up (by omega)) ((((((Ag.rf).up (by omega)).up (by omega)).up (by omega)).up (by omega)).up (by omega))) ?_ ?_ ?_ (fun z => z.cg ((((((Ag.rf).up (by omega)).up (by omega)).up (by omega)).up (by omega)).up (by omega)) ((((((Ag.rf).up (by omega)).up (by omega)).up (by omega)).up (by omega)).up (by omega))) ?_ (un_start (up2_s _ _ _ _))
      · intro i hi z
        by_cases ei : i = n
        · subst ei
          refine ⟨?_, ?_, ?_, ?_, ?_⟩
          · simp (disch := omega) only [up2_o, up2_k, up2_s]
          · simp (disch := omega) only [up2_o, up2_k, up2_s]
          · simp (disch := omega) only [up2_o, up2_k, up2_s]
          · simp (disch := omega) only [up2_o, up2_k, up2_s]
            exact z.2.2.2.1
          · simp (disch := omega) only [up2_o, up2_k, up2_s]
            exact ⟨by omega, hd.2.2⟩
        · exact z.cg ((((((Ag.rf).up (by omega)).up (by omega)).up (by omega)).up (by omega)).up (by omega)) ((((((Ag.rf).up (by omega)).up (by omega)).up (by omega)).up (by omega)).up (by omega))
      · intro i hi z
        refine ⟨?_, ?_, ?_, ?_, ?_, ?_⟩
        · simp (disch := omega) only [up2_o, up2_k, up2_s]
          exact z.1
        · simp (disch := omega) only [up2_o, up2_k, up2_s]
          exact z.2.1
        · simp (disch := omega) only [up2_o, up2_k, up2_s]
          exact z.2.2.1
        · simp (disch := omega) only [up2_o, up2_k, up2_s]
          exact z.2.2.2.1
        · simp (disch := omega) only [up2_o, up2_k, up2_s]
          rw [tn_nI (by omega)]
          intro y
          exact z.2.2.2.2.1 (by omega)
        · simp (disch := omega) only [up2_o]
          by_cases ei : i = n
          · intro _
            rw [ei, hv0]
            decide
          · rw [up2_k _ _ _ ei]
            exact z.2.2.2.2.2
      · intro z
        refine ⟨?_, ?_, ?_⟩
        · simp (disch := omega) only [up2_o, up2_k, up2_s]
        · simp (disch := omega) only [up2_o, up2_k, up2_s]
          exact Nlt.of rfl (by omega) (by decide)
        · intro i hi
          simp (disch := omega) only [up2_o, up2_k, up2_s] at hi ⊢
          rw [tn_nI (by omega)] at hi
          by_cases ei : i = n
          · rw [up2_e _ _ _ ei, up2_e _ _ _ ei]
            exact ⟨hf, ht⟩
          · rw [up2_k _ _ _ ei, up2_k _ _ _ ei]
            exact z.2.2 i (by omega)
      · intro _
        refine ⟨?_, ?_, ?_, ?_⟩
        · simp (disch := omega) only [up2_o, up2_k, up2_s]
        · simp (disch := omega) only [up2_o, up2_k, up2_s]
          exact hk.2.1
        · simp (disch := omega) only [up2_o, up2_k, up2_s]
          exact hk.2.2.1
        · simp (disch := omega) only [up2_o, up2_k, up2_s]
          exact hk.2.2.2
    · show c 0 4 = m 61 25 + 1 - 1
      rw [hc.1, Int32.add_sub_cancel]
  · rw [if_neg e, if_neg (fun z => e ⟨(p_iff f).mp z.1, (p_iff t).mp z.2.1, z.2.2.1, ⟨z.2.2.2.1, z.2.2.2.2.1⟩, e6.mp z.2.2.2.2.2⟩)]
    exact ⟨h, rfl⟩
/-! what the asking calls answer -/
theorem sim_word {c m : Hp} {B : Nat} (h : R2 c m B) (i : Int32) : d_word c i = m_word m i := by
  unfold d_word m_word
  have e : (0 ≤ i ∧ i < 64) ↔ mIn i 0 63 := by
    show _ ↔ (0 ≤ i ∧ i ≤ 63)
    simp only [Int32.le_iff_toInt_le, Int32.lt_iff_toInt_lt, Int32.reduceToInt]
    omega
  by_cases hi : mIn i 0 63
  · have h2 := e.mpr hi
    rw [if_pos h2, if_pos hi]
    exact h.1 _ (tn_lt h2.1 h2.2)
  · rw [if_neg (fun z => hi (e.mp z)), if_neg hi]
theorem sim_waiting {c m : Hp} {B : Nat} (h : R2 c m B) (i : Int32) : d_waiting c i = m_waiting m i := by
  unfold d_waiting m_waiting
  have e : (0 ≤ i ∧ i < c 0 4) ↔ mIn i 0 (m 61 25 - 1) := by
    rw [h.cnt.1]
    exact lt_le1 (h.cnt.2.1.mono (by decide))
  by_cases hi : mIn i 0 (m 61 25 - 1)
  · rw [if_pos (e.mpr hi), if_pos hi]
    exact (h.val (x_lt6 h hi).1).2.2.1
  · rw [if_neg (fun z => hi (e.mp z)), if_neg hi]
theorem sim_clock {c m : Hp} {B : Nat} (h : R2 c m B) (x : Int32) : d_clock c x = m_clock m x := by
  unfold d_clock m_clock
  have hk := h.clk
  rw [hk.1, hk.2.1, hk.2.2.1, hk.2.2.2]
theorem sim_output {c m : Hp} {B : Nat} (h : R2 c m B) (p i : Int32) : d_output c p i = m_output m p i := by
  unfold d_output m_output
  by_cases ep : mIn p 0 3
  · obtain ⟨hp4, -⟩ := p_tn ep
    have ho := h.out hp4
    rw [if_pos ((p_iff p).mpr ep), ho.1]
    by_cases e : mIn i 0 15 ∧ i < m 84 (tn p)
    · have h2 := (pl_iff i).mpr e.1
      rw [if_pos ⟨h2.1, h2.2, e.2⟩, if_pos ⟨ep, e⟩]
      exact ho.2.2 _ (tn_lt h2.1 h2.2)
    · rw [if_neg (fun z => e ⟨(pl_iff i).mp ⟨z.1, z.2.1⟩, z.2.2⟩), if_neg (fun z => e z.2)]
  · rw [if_neg (fun z => ep ((p_iff p).mp z)), if_neg (fun z => ep z.1)]
theorem w_cases {w : Int32} (h : mIn w 0 8) : w = 0 ∨ w = 1 ∨ w = 2 ∨ w = 3 ∨ w = 4 ∨ w = 5 ∨ w = 6 ∨ w = 7 ∨ w = 8 := by
  have h1 := h.1
  have h2 := h.2
  simp only [Int32.le_iff_toInt_le, ← Int32.toInt_inj, Int32.reduceToInt] at *
  omega
theorem sim_about {c m : Hp} {B : Nat} (h : R2 c m B) (p w : Int32) : d_about c p w = m_about m p w := by
  unfold d_about m_about
  by_cases ep : mIn p 0 3
  · obtain ⟨hp4, -⟩ := p_tn ep
    have hn := h.num hp4
    rw [if_pos ((p_iff p).mpr ep)]
    unfold d_tell
    by_cases ew : mIn w 0 8
    · rw [if_pos (show mIn p 0 3 ∧ mIn w 0 8 from ⟨ep, ew⟩)]
      rw [h.regs hp4 (by decide : 0 < 4), h.regs hp4 (by decide : 1 < 4), h.regs hp4 (by decide : 2 < 4), h.regs hp4 (by decide : 3 < 4), hn.1, hn.2.1, hn.2.2, (h.out hp4).1, (h.inp hp4).2.2.1]
      rcases w_cases ew with rfl | rfl | rfl | rfl | rfl | rfl | rfl | rfl | rfl <;> rfl
    · rw [if_neg (show ¬ (mIn p 0 3 ∧ mIn w 0 8) from fun z => ew z.2)]
      have : ∀ k : Int32, 0 ≤ k → k ≤ 8 → ¬ w = k := fun k h1 h2 z => ew (by rw [z]; exact ⟨h1, h2⟩)
      rw [if_neg (this 0 (by decide) (by decide)), if_neg (this 1 (by decide) (by decide)), if_neg (this 2 (by decide) (by decide)), if_neg (this 3 (by decide) (by decide)), if_neg (this 4 (by decide) (by decide)), if_neg (this 5 (by decide) (by decide)), if_neg (this 6 (by decide) (by decide)), if_neg (this 7 (by decide) (by decide)), if_neg (this 8 (by decide) (by decide))]
  · rw [if_neg (fun z => ep ((p_iff p).mp z)), if_neg (fun z => ep z.1)]
