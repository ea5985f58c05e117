/-! what the relation gives each side -/
theorem IC_of {c m : Hp} {B : Nat} (h : R2 c m B) (hB : B < 2 ^ 30) : IC c := by
  have hc := h.cnt
  have hf := h.fr
  refine ⟨fun j hj => ?_, ?_, ?_, ?_, ?_, ?_⟩
  · have hi := h.inp hj
    have ho := h.out hj
    have hs := h.size hj
    have e := reg_tn h hj
    refine ⟨hi.1, by rw [hi.2.2.1]; exact hi.2.1, ?_, by rw [hs.1]; exact hs.2, ?_, by rw [ho.1]; exact ho.2.1.mono (by omega)⟩
    · rcases (h.2.1 j hj).1 with ⟨a1, a2, a3, a4⟩ | ⟨a1, a2, a3, a4, a5, a6⟩
      · exact Nlt.of (k := 0) a3 (by decide) (by decide)
      · rw [a5]; exact a1
    · rcases (h.2.1 j hj).1 with ⟨a1, a2, a3, a4⟩ | ⟨a1, a2, a3, a4, a5, a6⟩
      · rw [a3, a4]; decide
      · rw [a5, a6]; exact a4
  · rw [hc.1]; exact hc.2.1
  · rw [hc.1]
    intro i hi
    have h7 := hc.2.1.1
    have hp := h.port (by omega : i < 6)
    rw [hp.1, hp.2.1]
    exact hc.2.2 i hi
  · intro i hi
    have hp := h.port hi
    have hv := h.val hi
    rw [hp.2.2.1, hv.2.2.1]
    exact ⟨hp.2.2.2.2, hv.1, hv.2.1⟩
  · rw [hf.1]; exact hf.2.1
  · rw [hf.1]
    intro k hk
    have z := hf.2.2 k hk
    rw [z.1, z.2.1]
    exact ⟨z.2.2.1, z.2.2.2.1⟩
theorem TS_of {c m : Hp} {B : Nat} (h : R2 c m B) (hB : B < 2 ^ 30) (hs : ¬ m 61 26 = 0) : TS c := by
  obtain ⟨s1, s2, s3⟩ := h.st hs
  have hf := h.fr
  have hk := h.clk
  have hfa := (hf.2.2 _ s1.1).2.2.2.1.1
  refine ⟨IC_of h hB, ?_, ?_⟩
  · rw [hk.2.1, hf.1]; exact s1
  · rw [hk.2.2.1]; exact s2.mono (by omega)
theorem TM_of {c m : Hp} {B : Nat} (h : R2 c m B) (hB : B < 2 ^ 30) (hs : ¬ m 61 26 = 0) : TM m := by
  obtain ⟨s1, s2, s3⟩ := h.st hs
  have hf := h.fr
  refine ⟨s1, hf.2.1, (hf.2.2 _ s1.1).2.2.1, h.cnt.2.1, fun k hk => ⟨(h.port hk).2.2.2.2, (h.val hk).2.1⟩, fun p hp => ⟨(h.inp hp).2.1, (h.out hp).2.1.mono (by omega), mreg_of h hp⟩⟩
theorem sim_tk {c m : Hp} {B : Nat} (h : R2 c m B) (hB : B < 2 ^ 30 - 1) (hs : ¬ m 61 26 = 0) : R2 (d_tk c) (m_tk m) (B + 1) ∧ ¬ m_tk m 61 26 = 0 ∧ m_tk m 61 30 = m 61 30 + (if d_acts c then 1 else 0) := by
  obtain ⟨s1, s2, s3⟩ := h.st hs
  have hf := h.fr
  have hk := h.clk
  have hfa := hf.2.2 _ s1.1
  have hj4 := hfa.2.2.1.1
  have hac : d_acts c ↔ m_acts m (tn (m 64 (tn (m 61 27)))) := by
    show (¬ _ ∧ _) ↔ (¬ _ ∧ _)
    rw [hk.2.1, hfa.1, (h.num hj4).2.1, s3 _ hj4, if_pos rfl]
  have e1 : d_tk c = d_tick c (tn (m 61 27)) (tn (m 61 24)) (tn (m 64 (tn (m 61 27)))) (tn (m 61 28)) (tn (m 65 (tn (m 61 27)))) := by
    unfold d_tk
    rw [hk.2.1, hf.1, hfa.1, hk.2.2.1, hfa.2.1]
  rw [e1]
  unfold m_tk d_tick m_tick
  have hac2 : (¬ c (3 + 9 * tn (m 64 (tn (m 61 27)))) 10 = 0 ∧ c 58 6 = 0) ↔ m_acts m (tn (m 64 (tn (m 61 27)))) := by
    rw [← hac]
    show _ ↔ (¬ _ ∧ _)
    rw [hk.2.1, hfa.1]
  have km61 : ∀ k, 26 ≤ k → k ≠ 27 → k ≠ 28 → k ≠ 29 → ∀ (g : Hp) (p a n : Nat), m_end g p a n 61 k = g 61 k := by
    intro k h1 h2 h3 h4 g p a n
    unfold m_end
    split <;> simp (disch := omega) only [up2_o, up2_k]
  by_cases ha : m_acts m (tn (m 64 (tn (m 61 27))))
  · rw [if_pos ha, if_pos (hac2.mpr ha), if_pos (hac.mpr ha)]
    have hd : R2 c (up2 m 61 30 (m 61 30 + 1)) B := sim_done h
    have hst := sim_step hd hB hj4 (by rw [up2_k _ _ _ (by decide)]; exact hs) (by rw [up2_o _ _ _ (by decide), up2_k _ _ _ (by decide)])
    have km := km_step (up2 m 61 30 (m 61 30 + 1)) (tn (m 64 (tn (m 61 27))))
    have g61 : ∀ k, k ≠ 30 → m_step (up2 m 61 30 (m 61 30 + 1)) (tn (m 64 (tn (m 61 27)))) 61 k = m 61 k := fun k hk => by rw [km.1, up2_k _ _ _ hk]
    have g64 : m_step (up2 m 61 30 (m 61 30 + 1)) (tn (m 64 (tn (m 61 27)))) 64 = m 64 := by rw [km.2.1, up2_o _ _ _ (by decide)]
    have g65 : m_step (up2 m 61 30 (m 61 30 + 1)) (tn (m 64 (tn (m 61 27)))) 65 = m 65 := by rw [km.2.2, up2_o _ _ _ (by decide)]
    refine ⟨sim_end hst (by rw [g61 26 (by decide)]; exact hs) (by rw [g61 27 (by decide)]) (by rw [g61 24 (by decide)]) (by rw [g64]) (by rw [g61 28 (by decide)]) (by rw [g65]), ?_, ?_⟩
    · rw [km61 26 (by decide) (by decide) (by decide) (by decide), g61 26 (by decide)]
      exact hs
    · rw [km61 30 (by decide) (by decide) (by decide) (by decide), km.1, up2_s]
  · rw [if_neg ha, if_neg (fun z => ha (hac2.mp z)), if_neg (fun z => ha (hac.mp z))]
    refine ⟨(sim_end h hs rfl rfl rfl rfl rfl).mono (by omega), ?_, ?_⟩
    · rw [km61 26 (by decide) (by decide) (by decide) (by decide)]
      exact hs
    · rw [km61 30 (by decide) (by decide) (by decide) (by decide), Int32.add_zero]
theorem sim_ticks {c m : Hp} {B : Nat} (h : R2 c m B) (hs : ¬ m 61 26 = 0) (h0 : m 61 30 = 0) : ∀ k, B + k < 2 ^ 30 - 1 → R2 (d_ticks c k) (m_ticks m k) (B + k) ∧ ¬ m_ticks m k 61 26 = 0 ∧ m_ticks m k 61 30 = nI (d_done c k)
  | 0, _ => ⟨h, hs, h0⟩
  | k + 1, hk => by
    obtain ⟨a1, a2, a3⟩ := sim_ticks h hs h0 k (by omega)
    obtain ⟨b1, b2, b3⟩ := sim_tk a1 (by omega) a2
    refine ⟨b1, b2, ?_⟩
    rw [m_ticks, b3, a3, d_done]
    by_cases e : d_acts (d_ticks c k)
    · rw [if_pos e, if_pos e, nI_1]
    · rw [if_neg e, if_neg e]
      exact Int32.add_zero _
theorem in_200 (n : Int32) : (0 ≤ n ∧ n ≤ 200) ↔ mIn n 0 200 := Iff.rfl
theorem sim_drun {c m : Hp} {B : Nat} (h : R2 c m B) (hB : B + 200 < 2 ^ 30 - 1) (n : Int32) : R2 (d_run c n).1 (m_run m n).1 (B + 200) ∧ (d_run c n).2 = (m_run m n).2 := by
  have hk := h.clk
  unfold d_run m_run
  by_cases e : ¬ m 61 26 = 0 ∧ mIn n 0 200
  · rw [if_pos e, if_pos (by rw [hk.1]; exact e)]
    have hn : tn n ≤ 200 := by
      have h1 := tn_int e.2.1
      have h2 := e.2.2
      rw [Int32.le_iff_toInt_le] at h2
      have : (200 : Int32).toInt = 200 := rfl
      omega
    obtain ⟨a1, a2, a3⟩ := sim_ticks (c := c) (m := up2 m 61 30 0) (sim_done h) (by rw [up2_k _ _ _ (by decide)]; exact e.1) (up2_s _ _ _ _) (tn n) (by omega)
    exact ⟨a1.mono (by omega), a3.symm⟩
  · rw [if_neg e, if_neg (by rw [hk.1]; exact e)]
    exact ⟨h.mono (by omega), rfl⟩
/-- the ticks of a run can be gone through, on both sides -/
theorem run_safe {c m : Hp} {B : Nat} (h : R2 c m B) (hB : B + 200 < 2 ^ 30 - 1) : (¬ c 0 5 = 0 → ∀ k, k < 200 → TS (d_ticks c k)) ∧ (¬ m 61 26 = 0 → ∀ k, k < 200 → TM (m_ticks (up2 m 61 30 0) k)) := by
  have hk := h.clk
  have key : ¬ m 61 26 = 0 → ∀ k, k < 200 → TS (d_ticks c k) ∧ TM (m_ticks (up2 m 61 30 0) k) := by
    intro hs k hk
    obtain ⟨a1, a2, a3⟩ := sim_ticks (c := c) (m := up2 m 61 30 0) (sim_done h) (by rw [up2_k _ _ _ (by decide)]; exact hs) (up2_s _ _ _ _) k (by omega)
    exact ⟨TS_of a1 (by omega) a2, TM_of a1 (by omega) a2⟩
  exact ⟨fun z k hk2 => (key (by rw [← hk.1]; exact z) k hk2).1, fun z k hk2 => (key z k hk2).2⟩
