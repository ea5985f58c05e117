/-! start: the check -/
theorem part_iff {c m : Hp} {B j : Nat} (h : R2 c m B) (hj : j < 4) : dT c j ↔ m_part m j := by
  show 0 < c (3 + 9 * j) 8 ↔ 0 ≤ m 62 j
  rcases (h.2.1 j hj).1 with ⟨a1, a2, a3, a4⟩ | ⟨a1, a2, a3, a4, a5, a6⟩
  · rw [a4, a1]
    decide
  · rw [a6, Int32.lt_iff_toInt_lt, Int32.le_iff_toInt_le, a1.int (by decide), a2.int (by decide), show (0 : Int32).toInt = 0 from rfl]
    omega
theorem lap_iff {c m : Hp} {B i j : Nat} (h : R2 c m B) (hi : i < 4) (hj : j < 4) : dO c i j ↔ m_lap m j i := by
  have e1 := part_iff h hi
  have e2 := part_iff h hj
  show (0 < c (3 + 9 * i) 8 ∧ 0 < c (3 + 9 * j) 8 ∧ _) ↔ _
  constructor
  · rintro ⟨a, b, x, y⟩
    have f1 := from_eq h hi (e1.mp a)
    have f2 := from_eq h hj (e2.mp b)
    rw [f1, f2, (h.size hj).1] at x
    rw [f1, f2, (h.size hi).1] at y
    exact ⟨e2.mp b, e1.mp a, y, x⟩
  · rintro ⟨a, b, x, y⟩
    have f1 := from_eq h hi b
    have f2 := from_eq h hj a
    refine ⟨e1.mpr b, e2.mpr a, ?_, ?_⟩
    · rw [f1, f2, (h.size hj).1]; exact y
    · rw [f1, f2, (h.size hi).1]; exact x
theorem some_iff {c m : Hp} {B : Nat} (h : R2 c m B) : dSome c ↔ mS m 4 = true := by
  unfold dSome
  rw [part_iff h (by decide : 0 < 4), part_iff h (by decide : 1 < 4), part_iff h (by decide : 2 < 4), part_iff h (by decide : 3 < 4)]
  simp only [mS, Bool.or_eq_true, decide_eq_true_eq, Bool.false_eq_true, false_or, or_assoc]
theorem nlap_iff {c m : Hp} {B : Nat} (h : R2 c m B) : ¬ dLap c ↔ mA m 4 = true := by
  unfold dLap
  rw [lap_iff h (by decide : 0 < 4) (by decide : 1 < 4), lap_iff h (by decide : 0 < 4) (by decide : 2 < 4), lap_iff h (by decide : 0 < 4) (by decide : 3 < 4), lap_iff h (by decide : 1 < 4) (by decide : 2 < 4), lap_iff h (by decide : 1 < 4) (by decide : 3 < 4), lap_iff h (by decide : 2 < 4) (by decide : 3 < 4)]
  simp only [mA, mA1, Bool.and_eq_true, Bool.not_eq_true', decide_eq_false_iff_not, not_or, true_and]
  constructor
  · rintro ⟨a, b, d, e, f, g⟩
    exact ⟨⟨⟨⟨⟨a, b⟩, e⟩, d⟩, f⟩, g⟩
  · rintro ⟨⟨⟨⟨⟨a, b⟩, e⟩, d⟩, f⟩, g⟩
    exact ⟨a, b, d, e, f, g⟩
theorem has_iff {c m : Hp} {B : Nat} (h : R2 c m B) (p : Nat) : ∀ n, n ≤ tn (m 61 24) → (f_has c (nI p) n ↔ mH m p n = true)
  | 0, _ => by
    simp only [mH, Bool.false_eq_true, iff_false]
    rintro ⟨k, hk, -⟩
    exact absurd hk (Nat.not_lt_zero k)
  | n + 1, hn => by
    have ih := has_iff h p n (by omega)
    have e := (h.fr.2.2 n (by omega)).1
    simp only [mH, Bool.or_eq_true, decide_eq_true_eq]
    rw [← ih]
    constructor
    · rintro ⟨k, hk, hp⟩
      rcases Nat.lt_succ_iff_lt_or_eq.mp hk with z | rfl
      · exact Or.inl ⟨k, z, hp⟩
      · exact Or.inr (by rw [← e]; exact hp)
    · rintro (⟨k, hk, hp⟩ | hp)
      · exact ⟨k, by omega, hp⟩
      · exact ⟨n, by omega, by rw [e]; exact hp⟩
theorem fit_iff {c m : Hp} {B : Nat} (h : R2 c m B) : dFit c (tn (m 61 24)) ↔ mT m (tn (m 61 24)) 4 = true := by
  have e : ∀ i, i < 4 → ((dT c i ↔ f_has c (nI i) (tn (m 61 24))) ↔ (mH m i (tn (m 61 24)) == decide (m_part m i)) = true) := by
    intro i hi
    rw [part_iff h hi, has_iff h i _ (Nat.le_refl _), beq_iff_eq]
    constructor
    · intro z
      by_cases hp : m_part m i
      · rw [decide_eq_true hp]; exact z.mp hp
      · rw [decide_eq_false hp]
        exact Bool.eq_false_iff.mpr (fun y => hp (z.mpr y))
    · intro z
      rw [z, decide_eq_true_eq]
  unfold dFit
  simp only [mT, Bool.and_eq_true, true_and]
  rw [← e 0 (by decide), ← e 1 (by decide), ← e 2 (by decide), ← e 3 (by decide)]
  constructor
  · intro z
    exact ⟨⟨⟨z 0 (by decide), z 1 (by decide)⟩, z 2 (by decide)⟩, z 3 (by decide)⟩
  · rintro ⟨⟨⟨a, b⟩, d⟩, f⟩ i hi
    rcases (by omega : i = 0 ∨ i = 1 ∨ i = 2 ∨ i = 3) with rfl | rfl | rfl | rfl
    · exact a
    · exact b
    · exact d
    · exact f
theorem join_iff {c m : Hp} {B : Nat} (h : R2 c m B) : ∀ n, n ≤ tn (m 61 25) → (dJoin c n ↔ mJ m n = true)
  | 0, _ => by
    simp only [mJ, iff_true]
    intro i hi
    exact absurd hi (Nat.not_lt_zero i)
  | n + 1, hn => by
    have ih := join_iff h n (by omega)
    have hc := h.cnt
    have h7 := hc.2.1.1
    have hp := h.port (by omega : n < 6)
    have hs := hc.2.2 n (by omega)
    simp only [mJ, Bool.and_eq_true, decide_eq_true_eq]
    rw [← ih, ← part_iff h hs.1.1, ← part_iff h hs.2.1]
    constructor
    · intro z
      have zn : dT c (tn (c (40 + 3 * n) 1)) ∧ dT c (tn (c (40 + 3 * n) 2)) := z n (by omega)
      rw [hp.1, hp.2.1] at zn
      exact ⟨fun i hi => z i (by omega), zn⟩
    · rintro ⟨a, b⟩ i hi
      rcases Nat.lt_succ_iff_lt_or_eq.mp hi with y | rfl
      · exact a i y
      · show dT c (tn (c (40 + 3 * i) 1)) ∧ dT c (tn (c (40 + 3 * i) 2))
        rw [hp.1, hp.2.1]
        exact b
theorem wrong_eq {c m : Hp} {B : Nat} (h : R2 c m B) {x : Int32} (hx : dWrong c (tn (c 58 2)) (tn (c 0 4)) x) : x = m_wrong m := by
  rw [h.fr.1, h.cnt.1] at hx
  unfold dWrong at hx
  rw [some_iff h, fit_iff h, join_iff h _ (Nat.le_refl _), show dLap c ↔ ¬ mA m 4 = true by rw [← nlap_iff h]; exact Classical.not_not.symm] at hx
  unfold m_wrong
  rcases hx with ⟨a, rfl⟩ | ⟨a, b, rfl⟩ | ⟨a, b, d, rfl⟩ | ⟨a, b, d, e, rfl⟩ | ⟨a, b, d, e, rfl⟩
  · rw [if_neg a]
  · rw [if_pos a, if_neg b]
  · rw [if_pos a, if_pos (Decidable.not_not.mp b), if_neg d]
  · rw [if_pos a, if_pos (Decidable.not_not.mp b), if_pos d, if_neg e]
  · rw [if_pos a, if_pos (Decidable.not_not.mp b), if_pos d, if_pos e]
/-! start: the beginning -/
theorem d_mem_at (h : Hp) : ∀ n k, d_mem h n 1 k = if k < n then 0 else h 1 k
  | 0, k => by rw [d_mem, if_neg (Nat.not_lt_zero k)]
  | n + 1, k => by
    rw [d_mem]
    by_cases e : k = n
    · rw [up2_e _ _ _ e, if_pos (by omega)]
    · rw [up2_k _ _ _ e, d_mem_at h n]
      by_cases e2 : k < n
      · rw [if_pos e2, if_pos (by omega)]
      · rw [if_neg e2, if_neg (by omega)]
theorem zer_at (h : Hp) (o : Nat) : ∀ n k, zer h o n o k = if k < n then 0 else h o k
  | 0, k => by rw [zer, if_neg (Nat.not_lt_zero k)]
  | n + 1, k => by
    rw [zer]
    by_cases e : k = n
    · rw [up2_e _ _ _ e, if_pos (by omega)]
    · rw [up2_k _ _ _ e, zer_at h o n]
      by_cases e2 : k < n
      · rw [if_pos e2, if_pos (by omega)]
      · rw [if_neg e2, if_neg (by omega)]
theorem m_pps_o (h : Hp) {a : Nat} (ha : a < 78 ∨ 81 < a) : ∀ k, m_pps h k a = h a
  | 0 => rfl
  | k + 1 => by
    rw [m_pps, m_pp]
    simp (disch := omega) only [up2_o]
    exact m_pps_o h ha k
theorem m_pps_at (h : Hp) : ∀ n j, j < n → m_pps h n 78 j = 0 ∧ m_pps h n 79 j = 0 ∧ m_pps h n 80 j = bI (m_part h j) ∧ m_pps h n 81 j = 0
  | 0, j, hj => absurd hj (Nat.not_lt_zero j)
  | n + 1, j, hj => by
    rw [m_pps, m_pp]
    simp (disch := omega) only [up2_o]
    by_cases e : j = n
    · rw [up2_e _ _ _ e, up2_e _ _ _ e, up2_e _ _ _ e, up2_e _ _ _ e]
      refine ⟨rfl, rfl, ?_, rfl⟩
      rw [e]
      exact bI_congr (by rw [m_part, m_part, m_pps_o h (by omega)])
    · rw [up2_k _ _ _ e, up2_k _ _ _ e, up2_k _ _ _ e, up2_k _ _ _ e]
      exact m_pps_at h n j (by omega)
theorem p_begin_at (h : Hp) {j : Nat} : (∀ x, x < 4 → p_begin h j (8 + 9 * j) x = 0) ∧ p_begin h j (3 + 9 * j) 9 = 0 ∧ p_begin h j (3 + 9 * j) 10 = bI (0 < h (3 + 9 * j) 8) ∧ p_begin h j (3 + 9 * j) 11 = 0 ∧ ∀ k, k < 9 ∨ 11 < k → p_begin h j (3 + 9 * j) k = h (3 + 9 * j) k := by
  unfold p_begin p_clear
  refine ⟨fun x hx => ?_, ?_, ?_, ?_, fun k hk => ?_⟩
  · simp (disch := omega) only [up2_o]
    rcases (by omega : x = 0 ∨ x = 1 ∨ x = 2 ∨ x = 3) with rfl | rfl | rfl | rfl <;> simp (disch := omega) only [up2_k, up2_s]
  · simp (disch := omega) only [up2_k, up2_s]
  · simp (disch := omega) only [up2_k, up2_s]
  · simp (disch := omega) only [up2_k, up2_s]
  · simp (disch := omega) only [up2_k, up2_o]
/-- what one partition has behind the four -/
theorem d_parts_at (h : Hp) {j : Nat} (hj : j < 4) : (∀ x, x < 4 → d_parts h (8 + 9 * j) x = 0) ∧ d_parts h (3 + 9 * j) 9 = 0 ∧ d_parts h (3 + 9 * j) 10 = bI (0 < h (3 + 9 * j) 8) ∧ d_parts h (3 + 9 * j) 11 = 0 ∧ ∀ k, k < 9 ∨ 11 < k → d_parts h (3 + 9 * j) k = h (3 + 9 * j) k := by
  have key : ∃ g g' : Hp, (∀ a, a = 3 + 9 * j ∨ a = 8 + 9 * j → g a = h a ∧ d_parts h a = p_begin g j a) := by
    unfold d_parts
    rcases (by omega : j = 0 ∨ j = 1 ∨ j = 2 ∨ j = 3) with rfl | rfl | rfl | rfl
    · exact ⟨h, h, fun a ha => ⟨rfl, by rw [p_begin_o _ (by omega) (by omega), p_begin_o _ (by omega) (by omega), p_begin_o _ (by omega) (by omega)]⟩⟩
    · exact ⟨p_begin h 0, h, fun a ha => ⟨p_begin_o _ (by omega) (by omega), by rw [p_begin_o _ (by omega) (by omega), p_begin_o _ (by omega) (by omega)]⟩⟩
    · exact ⟨p_begin (p_begin h 0) 1, h, fun a ha => ⟨by rw [p_begin_o _ (by omega) (by omega), p_begin_o _ (by omega) (by omega)], by rw [p_begin_o _ (by omega) (by omega)]⟩⟩
    · exact ⟨p_begin (p_begin (p_begin h 0) 1) 2, h, fun a ha => ⟨by rw [p_begin_o _ (by omega) (by omega), p_begin_o _ (by omega) (by omega), p_begin_o _ (by omega) (by omega)], rfl⟩⟩
  obtain ⟨g, -, hg⟩ := key
  obtain ⟨b1, b2, b3, b4, b5⟩ := p_begin_at g (j := j)
  have g3 := (hg (3 + 9 * j) (Or.inl rfl))
  have g8 := (hg (8 + 9 * j) (Or.inr rfl))
  rw [g3.2, g8.2]
  rw [g3.1] at b3
  exact ⟨b1, b2, b3, b4, fun k hk => by rw [b5 k hk, g3.1]⟩
theorem d_prt_at (h : Hp) : ∀ n i, i < n → n ≤ 6 → d_prt h n (41 + 3 * i) 1 = 0 ∧ d_prt h n (41 + 3 * i) 2 = 0
  | 0, i, hi, _ => absurd hi (Nat.not_lt_zero i)
  | n + 1, i, hi, hn => by
    rw [d_prt]
    by_cases e : i = n
    · subst e
      simp (disch := omega) only [up2_k, up2_s]
      exact ⟨trivial, trivial⟩
    · simp (disch := omega) only [up2_o]
      exact d_prt_at h n i (by omega) (by omega)
theorem d_begin_o (c : Hp) {r a : Nat} (hr : r ≤ 6) (h0 : a ≠ 0) (h1 : a ≠ 1) (h58 : a ≠ 58) (hp : ∀ j, j < 4 → a ≠ 3 + 9 * j ∧ a ≠ 8 + 9 * j) (hq : ∀ i, i < r → a ≠ 41 + 3 * i) : d_begin c r a = c a := by
  unfold d_begin d_frame
  simp (disch := omega) only [up2_o]
  rw [d_prt_o _ _ hq, d_parts_o _ hp, d_mem_o _ h1]
theorem m_begun_o (m : Hp) {a : Nat} (h : a ≠ 61 ∧ a ≠ 69 ∧ a ≠ 76 ∧ a ≠ 77 ∧ (a < 78 ∨ 81 < a)) : m_begun m a = m a := by
  unfold m_begun
  simp (disch := omega) only [up2_o]
  rw [m_pps_o _ h.2.2.2.2, zer_o _ h.2.1, zer_o _ h.2.2.2.1, zer_o _ h.2.2.1]
theorem d_begin_p (c : Hp) {r j : Nat} (hr : r ≤ 6) (hj : j < 4) : d_begin c r (3 + 9 * j) = d_parts (d_mem c 64) (3 + 9 * j) ∧ d_begin c r (8 + 9 * j) = d_parts (d_mem c 64) (8 + 9 * j) := by
  unfold d_begin d_frame
  simp (disch := omega) only [up2_o]
  rw [d_prt_o _ _ (fun i hi => by omega), d_prt_o _ _ (fun i hi => by omega)]
  exact ⟨rfl, rfl⟩
theorem m_begun_61 (m : Hp) (k : Nat) : m_begun m 61 k = if k = 26 then 1 else if k = 27 ∨ k = 28 ∨ k = 29 then 0 else m 61 k := by
  unfold m_begun
  by_cases e26 : k = 26
  · rw [if_pos e26, up2_e _ _ _ e26]
  · rw [if_neg e26, up2_k _ _ _ e26]
    by_cases e29 : k = 29
    · rw [up2_e _ _ _ e29, if_pos (by omega)]
    · rw [up2_k _ _ _ e29]
      by_cases e28 : k = 28
      · rw [up2_e _ _ _ e28, if_pos (by omega)]
      · rw [up2_k _ _ _ e28]
        by_cases e27 : k = 27
        · rw [up2_e _ _ _ e27, if_pos (by omega)]
        · rw [up2_k _ _ _ e27, if_neg (by omega), m_pps_o _ (by omega), zer_o _ (by decide), zer_o _ (by decide), zer_o _ (by decide)]
theorem d_begin_58 (c : Hp) {r : Nat} (hr : r ≤ 6) (k : Nat) : d_begin c r 58 k = if k = 3 ∨ k = 4 ∨ k = 5 ∨ k = 6 then 0 else c 58 k := by
  unfold d_begin d_frame
  rw [up2_o _ _ _ (by decide)]
  by_cases e6 : k = 6
  · rw [up2_e _ _ _ e6, if_pos (by omega)]
  · rw [up2_k _ _ _ e6]
    by_cases e5 : k = 5
    · rw [up2_e _ _ _ e5, if_pos (by omega)]
    · rw [up2_k _ _ _ e5]
      by_cases e4 : k = 4
      · rw [up2_e _ _ _ e4, if_pos (by omega)]
      · rw [up2_k _ _ _ e4]
        by_cases e3 : k = 3
        · rw [up2_e _ _ _ e3, if_pos (by omega)]
        · rw [up2_k _ _ _ e3, if_neg (by omega), d_prt_o _ _ (fun i hi => by omega), d_parts_o _ (fun j hj => by omega), d_mem_o _ (by decide)]
theorem d_begin_0 (c : Hp) {r : Nat} (hr : r ≤ 6) (k : Nat) : d_begin c r 0 k = if k = 5 then 1 else c 0 k := by
  unfold d_begin d_frame
  by_cases e : k = 5
  · rw [up2_e _ _ _ e, if_pos e]
  · rw [up2_k _ _ _ e, if_neg e]
    simp (disch := omega) only [up2_o]
    rw [d_prt_o _ _ (fun i hi => by omega), d_parts_o _ (fun j hj => by omega), d_mem_o _ (by decide)]
theorem sim_begin {c m : Hp} {B : Nat} (h : R2 c m B) (hn0 : 0 < tn (m 61 24)) : R2 (d_begin c (tn (c 0 4))) (m_begun m) B := by
  have hc := h.cnt
  have hf := h.fr
  have r7 := hc.2.1.1
  rw [hc.1]
  have hr : tn (m 61 25) ≤ 6 := by omega
  have n9 := hf.2.1.1
  generalize hrr : tn (m 61 25) = r at hr ⊢
  have dj : ∀ j, j < 4 → _ := fun j hj => d_begin_p c (r := r) hr hj
  have dpa : ∀ j, j < 4 → _ := fun j hj => d_parts_at (d_mem c 64) hj
  have mo : ∀ a, (a ≠ 61 ∧ a ≠ 69 ∧ a ≠ 76 ∧ a ≠ 77 ∧ (a < 78 ∨ 81 < a)) → m_begun m a = m a := fun a ha => m_begun_o m ha
  have mp : ∀ j, j < 4 → m_begun m 78 j = 0 ∧ m_begun m 79 j = 0 ∧ m_begun m 80 j = bI (m_part m j) ∧ m_begun m 81 j = 0 := by
    intro j hj
    unfold m_begun
    simp (disch := omega) only [up2_o]
    obtain ⟨a1, a2, a3, a4⟩ := m_pps_at (zer (zer (zer m 76 64) 77 16) 69 6) 4 j hj
    refine ⟨a1, a2, ?_, a4⟩
    rw [a3]
    exact bI_congr (by rw [m_part, m_part, zer_o _ (by decide), zer_o _ (by decide), zer_o _ (by decide)])
  have m77 : ∀ k, k < 16 → m_begun m 77 k = 0 := by
    intro k hk
    unfold m_begun
    simp (disch := omega) only [up2_o]
    rw [m_pps_o _ (by omega), zer_o _ (by decide), zer_at, if_pos hk]
  have m76 : ∀ k, k < 64 → m_begun m 76 k = 0 := by
    intro k hk
    unfold m_begun
    simp (disch := omega) only [up2_o]
    rw [m_pps_o _ (by omega), zer_o _ (by decide), zer_o _ (by decide), zer_at, if_pos hk]
  have m69 : ∀ k, k < 6 → m_begun m 69 k = 0 := by
    intro k hk
    unfold m_begun
    simp (disch := omega) only [up2_o]
    rw [m_pps_o _ (by omega), zer_at, if_pos hk]
  have m61 := m_begun_61 m
  have d58 := d_begin_58 c (r := r) hr
  have d0 := d_begin_0 c (r := r) hr
  have dq : ∀ i, i < 6 → Nlt (d_begin c r (41 + 3 * i) 1) 4 ∧ d_begin c r (41 + 3 * i) 2 = 0 := by
    intro i hi
    have e : ∀ k, d_begin c r (41 + 3 * i) k = d_prt (d_parts (d_mem c 64)) r (41 + 3 * i) k := by
      intro k
      unfold d_begin d_frame
      simp (disch := omega) only [up2_o]
    rw [e, e]
    by_cases hir : i < r
    · obtain ⟨a1, a2⟩ := d_prt_at (d_parts (d_mem c 64)) r i hir hr
      rw [a1, a2]
      exact ⟨Nlt.of (k := 0) rfl (by decide) (by decide), rfl⟩
    · rw [d_prt_o _ _ (fun k hk => by omega), d_parts_o _ (fun j hj => by omega), d_mem_o _ (by omega)]
      have hv := h.val hi
      exact ⟨hv.1, by rw [hv.2.2.1]; exact hv.2.2.2.2.1 (by omega)⟩
  refine h.mk ?_ ?_ ?_ ?_ ?_ ?_ ?_ ?_ ?_ ?_ ?_ ?_ ?_ ?_
  · intro _ k hk
    rw [m76 k hk]
    unfold d_begin d_frame
    simp (disch := omega) only [up2_o]
    rw [d_prt_o _ _ (fun i hi => by omega), d_parts_o _ (fun j hj => by omega), d_mem_at, if_pos hk]
  · intro j hj z
    refine z.cg (fun o k hs => ?_) (fun o k hs => by rw [mo o (by omega)])
    obtain ⟨rfl, hk⟩ := hs
    rw [(dj j hj).1, (dpa j hj).2.2.2.2 k (by omega), d_mem_o _ (by omega)]
  · exact fun j hj z => z.cg (fun o k hs => by rw [d_begin_o c hr (by omega) (by omega) (by omega) (fun i hi => by omega) (fun i hi => by omega)]) (fun o k hs => by rw [mo o (by omega)])
  · exact fun j hj z => z.cg (fun o k hs => by rw [d_begin_o c hr (by omega) (by omega) (by omega) (fun i hi => by omega) (fun i hi => by omega)]) (fun o k hs => by rw [mo o (by omega)])
  · intro j hj z x hx
    rw [m77 _ (by omega), (dj j hj).2]
    exact (dpa j hj).1 x hx
  · intro j hj z
    obtain ⟨b1, b2, b3, b4⟩ := mp j hj
    refine ⟨?_, ?_, ?_⟩
    · rw [b1, (dj j hj).1]; exact (dpa j hj).2.1
    · rw [b3, (dj j hj).1, (dpa j hj).2.2.1]
      exact bI_congr (by rw [d_mem_o _ (by omega)]; exact part_iff h hj)
    · rw [b2, (dj j hj).1]; exact (dpa j hj).2.2.2.1
  · intro j hj z
    refine z.cg (fun o k hs => ?_) (fun o k hs => by rw [mo o (by omega)])
    by_cases e : o = 3 + 9 * j
    · subst e
      rw [(dj j hj).1, (dpa j hj).2.2.2.2 k (by omega), d_mem_o _ (by omega)]
    · rw [d_begin_o c hr (by omega) (by omega) (by omega) (fun i hi => by omega) (fun i hi => by omega)]
  · exact fun j hj z => z.cg (fun o k hs => by rw [d_begin_o c hr (by omega) (by omega) (by omega) (fun i hi => by omega) (fun i hi => by omega)]) (fun o k hs => by rw [mo o (by omega)])
  · exact fun j hj z => z.cg (fun o k hs => by rw [d_begin_o c hr (by omega) (by omega) (by omega) (fun i hi => by omega) (fun i hi => by omega)]) (fun o k hs => by rw [mo o (by omega)])
  · intro i hi z
    refine ⟨(dq i hi).1, ?_, ?_, ?_, ?_, ?_⟩
    · rw [m69 i hi]
      exact Nlt.of (k := 0) rfl (by decide) (by decide)
    · rw [m69 i hi]; exact (dq i hi).2
    · rw [m69 i hi]
      intro t ht
      exact absurd ht (Nat.not_lt_zero t)
    · intro _
      exact m69 i hi
    · intro _
      rw [m69 i hi]
      decide
  · exact fun z => z.cg (fun o k hs => by obtain ⟨rfl, rfl⟩ := hs; rw [d0, if_neg (by decide)]) (fun o k hs => by
      rcases hs with ⟨rfl, rfl⟩ | hs
      · rw [m61, if_neg (by decide), if_neg (by decide)]
      · rw [mo o (by omega)])
  · exact fun z => z.cg (fun o k hs => by
      rcases hs with ⟨rfl, rfl⟩ | hs
      · rw [d58, if_neg (by decide)]
      · rw [d_begin_o c hr (by omega) (by omega) (by omega) (fun i hi => by omega) (fun i hi => by omega)]) (fun o k hs => by
      rcases hs with ⟨rfl, rfl⟩ | hs
      · rw [m61, if_neg (by decide), if_neg (by decide)]
      · rw [mo o (by omega)])
  · intro _
    refine ⟨?_, ?_, ?_, ?_⟩
    · rw [d0, m61, if_pos rfl, if_pos rfl]
    · rw [d58, m61, if_pos (by decide), if_neg (by decide), if_pos (by decide)]
    · rw [d58, m61, if_pos (by decide), if_neg (by decide), if_pos (by decide)]
    · rw [d58, m61, if_pos (by decide), if_neg (by decide), if_pos (by decide)]
  · intro _ _
    have e27 : m_begun m 61 27 = 0 := by rw [m61, if_neg (by decide), if_pos (by decide)]
    have e28 : m_begun m 61 28 = 0 := by rw [m61, if_neg (by decide), if_pos (by decide)]
    have e24 : m_begun m 61 24 = m 61 24 := by rw [m61, if_neg (by decide), if_neg (by decide)]
    rw [e27, e28, e24, mo 65 (by omega), mo 64 (by omega)]
    have hz := hf.2.2 0 hn0
    refine ⟨Nlt.of (k := 0) rfl hn0 (by omega), Nlt.of (k := 0) rfl hz.2.2.2.2 (Nat.le_trans (Nat.le_of_lt hz.2.2.2.1.1) (by decide)), fun p hp => ?_⟩
    rw [(mp p hp).2.2.2, d58, if_pos (show 6 = 3 ∨ 6 = 4 ∨ 6 = 5 ∨ 6 = 6 by decide)]
    split <;> rfl
theorem mH_pos {m : Hp} {p n : Nat} (h : mH m p n = true) : 0 < n := by
  rcases Nat.eq_zero_or_pos n with rfl | z
  · exact absurd (show false = true from h) (by decide)
  · exact z
theorem good_win {m : Hp} (h1 : mS m 4 = true) (h2 : mT m (tn (m 61 24)) 4 = true) : 0 < tn (m 61 24) := by
  simp only [mS, Bool.or_eq_true, decide_eq_true_eq, Bool.false_eq_true, false_or] at h1
  simp only [mT, Bool.and_eq_true, true_and, beq_iff_eq] at h2
  obtain ⟨⟨⟨a0, a1⟩, a2⟩, a3⟩ := h2
  rcases h1 with ((z | z) | z) | z
  · exact mH_pos (p := 0) (by rw [a0]; exact decide_eq_true z)
  · exact mH_pos (p := 1) (by rw [a1]; exact decide_eq_true z)
  · exact mH_pos (p := 2) (by rw [a2]; exact decide_eq_true z)
  · exact mH_pos (p := 3) (by rw [a3]; exact decide_eq_true z)
theorem wrong_vals (m : Hp) : m_wrong m = 0 ∨ m_wrong m = 1 ∨ m_wrong m = 2 ∨ m_wrong m = 3 ∨ m_wrong m = 4 := by
  unfold m_wrong
  repeat' split
  all_goals simp
theorem sim_start {c m : Hp} {B : Nat} (h : R2 c m B) {x : Int32} (hx : dWrong c (tn (c 58 2)) (tn (c 0 4)) x) : R2 (if x = 0 then d_begin c (tn (c 0 4)) else c) (m_start m).1 B ∧ x = (m_start m).2 := by
  have e := wrong_eq h hx
  unfold m_start
  rw [← e]
  have hv := wrong_vals m
  rw [← e] at hv
  by_cases ex : x = 0
  · rw [if_pos ex, if_pos (by rw [ex]; decide)]
    refine ⟨sim_begin h ?_, ex⟩
    rw [ex] at e
    unfold m_wrong at e
    by_cases e1 : mS m 4 = true
    · rw [if_pos e1] at e
      by_cases e2 : mA m 4 = true
      · rw [if_pos e2] at e
        by_cases e3 : mT m (tn (m 61 24)) 4 = true
        · exact good_win e1 e3
        · rw [if_neg e3] at e
          exact absurd e (by decide)
      · rw [if_neg e2] at e
        exact absurd e (by decide)
    · rw [if_neg e1] at e
      exact absurd e (by decide)
  · rw [if_neg ex, if_neg (by rcases hv with rfl | rfl | rfl | rfl | rfl; exact absurd rfl ex; decide; decide; decide; decide)]
    exact ⟨h, rfl⟩
