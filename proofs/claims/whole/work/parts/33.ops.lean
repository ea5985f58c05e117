theorem sim_go {c m : Hp} {B j : Nat} (h : R2 c m B) (hj : j < 4) : R2 (up2 c (3 + 9 * j) 9 (c (3 + 9 * j) 9 + 1)) (m_go m j) B := by
  unfold m_go
  rw [(h.num hj).1]
  exact sim_place h hj
theorem smp_ok {m : Hp} {j : Nat} {o x b : Int32} (h1 : o < 5 ∨ 10 < o) (h2 : ¬ (o < 0 ∨ 14 < o)) : (m_do m j o x b).1 = m_simp (m_go m j) j o (4 * j + rg x) b (m_go m j 77 (4 * j + rg b)) := by
  rw [do_smp h1, m_go_o _ (by decide : 77 ≠ 78)]
  unfold m_simple
  rw [if_neg h2]
theorem ins_ok {m : Hp} {j : Nat} {o x b : Int32} (h1 : ¬ (o < 5 ∨ 10 < o)) (h2 : o < 9) (h3 : ¬ (o < 7 ∧ ¬ mIn (m 77 (4 * j + rg b)) 0 (m 63 j - 1))) : (m_do m j o x b).1 = m_ins (m_go m j) j o (4 * j + rg x) b (m_go m j 77 (4 * j + rg b)) := by
  rw [do_ins h1 h2, m_go_o _ (by decide : 77 ≠ 78)]
  unfold m_inside
  rw [if_neg h3]
theorem cry1 {c : Hp} {j : Nat} {o x b : Int32} (h1 : o ≤ 6) : d_carry c j o x b = d_compute (up2 c (3 + 9 * j) 9 (c (3 + 9 * j) 9 + 1)) j o x b := by unfold d_carry; rw [if_pos h1]
theorem cry2 {c : Hp} {j : Nat} {o x b : Int32} (h1 : ¬ o ≤ 6) (h2 : o ≤ 8) : d_carry c j o x b = d_jump (up2 c (3 + 9 * j) 9 (c (3 + 9 * j) 9 + 1)) j o x b := by unfold d_carry; rw [if_neg h1, if_pos h2]
theorem cry3 {c : Hp} {j : Nat} {o x b : Int32} (h1 : ¬ o ≤ 6) (h2 : ¬ o ≤ 8) : d_carry c j o x b = d_comm (up2 c (3 + 9 * j) 9 (c (3 + 9 * j) 9 + 1)) j o x b := by unfold d_carry; rw [if_neg h1, if_neg h2]
theorem sim_op0 {c m : Hp} {B j : Nat} (h : R2 c m B) (hj : j < 4) (x b : Int32) : R2 (d_carry c j 0 x b) (m_do m j 0 x b).1 B := by
  have hg := sim_go h hj
  rw [cry1 (by decide)]
  unfold d_compute
  rw [if_neg (by decide), if_neg (by decide), if_neg (by decide), if_neg (by decide), if_neg (by decide), if_neg (by decide)]
  rw [smp_ok (by decide) (by decide)]
  unfold m_simp
  rw [if_neg (by decide), if_neg (by decide), if_neg (by decide), if_neg (by decide), if_neg (by decide), if_neg (by decide), if_neg (by decide), if_neg (by decide)]
  exact hg
theorem sim_op1 {c m : Hp} {B j : Nat} (h : R2 c m B) (hj : j < 4) (x b : Int32) : R2 (d_carry c j 1 x b) (m_do m j 1 x b).1 B := by
  have hg := sim_go h hj
  rw [cry1 (by decide)]
  unfold d_compute
  rw [if_pos rfl]
  rw [smp_ok (by decide) (by decide)]
  unfold m_simp
  rw [if_pos rfl]
  exact sim_reg hg hj (rg_lt x)
theorem sim_op2 {c m : Hp} {B j : Nat} (h : R2 c m B) (hj : j < 4) (x b : Int32) : R2 (d_carry c j 2 x b) (m_do m j 2 x b).1 B := by
  have hg := sim_go h hj
  rw [cry1 (by decide)]
  unfold d_compute
  rw [if_neg (by decide), if_pos rfl]
  rw [smp_ok (by decide) (by decide)]
  unfold m_simp
  rw [if_neg (by decide), if_pos rfl]
  rw [hg.regs hj (rg_lt x), hg.regs hj (rg_lt b)]
  exact sim_reg hg hj (rg_lt x)
theorem sim_op3 {c m : Hp} {B j : Nat} (h : R2 c m B) (hj : j < 4) (x b : Int32) : R2 (d_carry c j 3 x b) (m_do m j 3 x b).1 B := by
  have hg := sim_go h hj
  rw [cry1 (by decide)]
  unfold d_compute
  rw [if_neg (by decide), if_neg (by decide), if_pos rfl]
  rw [smp_ok (by decide) (by decide)]
  unfold m_simp
  rw [if_neg (by decide), if_neg (by decide), if_pos rfl]
  rw [hg.regs hj (rg_lt x), hg.regs hj (rg_lt b)]
  exact sim_reg hg hj (rg_lt x)
theorem sim_op4 {c m : Hp} {B j : Nat} (h : R2 c m B) (hj : j < 4) (x b : Int32) : R2 (d_carry c j 4 x b) (m_do m j 4 x b).1 B := by
  have hg := sim_go h hj
  rw [cry1 (by decide)]
  unfold d_compute
  rw [if_neg (by decide), if_neg (by decide), if_neg (by decide), if_pos rfl]
  rw [smp_ok (by decide) (by decide)]
  unfold m_simp
  rw [if_neg (by decide), if_neg (by decide), if_neg (by decide), if_pos rfl]
  rw [hg.regs hj (rg_lt x), hg.regs hj (rg_lt b)]
  exact sim_reg hg hj (rg_lt x)
theorem mreg_of {c m : Hp} {B j : Nat} (h : R2 c m B) (hj : j < 4) : mReg m j := by
  rcases (h.2.1 j hj).1 with ⟨a1, a2, a3, a4⟩ | ⟨a1, a2, a3, a4, a5, a6⟩
  · exact Or.inl ⟨a1, a2⟩
  · exact Or.inr ⟨a1, a2, a4⟩
theorem from_eq {c m : Hp} {B j : Nat} (h : R2 c m B) (hj : j < 4) (h0 : 0 ≤ m 62 j) : c (3 + 9 * j) 7 = m 62 j := by
  rcases (h.2.1 j hj).1 with ⟨a1, a2, a3, a4⟩ | ⟨a1, a2, a3, a4, a5, a6⟩
  · rw [a1] at h0
    exact absurd h0 (by decide)
  · exact a5
theorem sim_op5 {c m : Hp} {B j : Nat} (h : R2 c m B) (hj : j < 4) (x b : Int32) (hm : mIn (m 77 (4 * j + rg b)) 0 (m 63 j - 1)) : R2 (d_carry c j 5 x b) (m_do m j 5 x b).1 B := by
  have hg := sim_go h hj
  rw [cry1 (by decide)]
  unfold d_compute
  rw [if_neg (by decide), if_neg (by decide), if_neg (by decide), if_neg (by decide), if_pos rfl]
  rw [ins_ok (by decide) (by decide) (fun z => z.2 hm)]
  unfold m_ins
  rw [if_pos rfl]
  have hi := in_mem (mreg_of h hj) hm
  have e1 := from_eq hg hj (by rw [m_go_o _ (by decide : 62 ≠ 78)]; exact hi.2)
  have hi2 : tn (m_go m j 62 j + m_go m j 77 (4 * j + rg b)) < 64 := by rw [m_go_o _ (by decide : 62 ≠ 78), m_go_o _ (by decide : 77 ≠ 78)]; exact hi.1.1
  rw [e1, hg.regs hj (rg_lt b), hg.1 _ hi2]
  exact sim_reg hg hj (rg_lt x)
theorem sim_op6 {c m : Hp} {B j : Nat} (h : R2 c m B) (hj : j < 4) (x b : Int32) (hm : mIn (m 77 (4 * j + rg b)) 0 (m 63 j - 1)) : R2 (d_carry c j 6 x b) (m_do m j 6 x b).1 B := by
  have hg := sim_go h hj
  rw [cry1 (by decide)]
  unfold d_compute
  rw [if_neg (by decide), if_neg (by decide), if_neg (by decide), if_neg (by decide), if_neg (by decide), if_pos rfl]
  rw [ins_ok (by decide) (by decide) (fun z => z.2 hm)]
  unfold m_ins
  rw [if_neg (by decide), if_pos rfl]
  have hi := in_mem (mreg_of h hj) hm
  have e1 := from_eq hg hj (by rw [m_go_o _ (by decide : 62 ≠ 78)]; exact hi.2)
  have hi2 : tn (m_go m j 62 j + m_go m j 77 (4 * j + rg b)) < 64 := by rw [m_go_o _ (by decide : 62 ≠ 78), m_go_o _ (by decide : 77 ≠ 78)]; exact hi.1.1
  rw [e1, hg.regs hj (rg_lt b), hg.regs hj (rg_lt x)]
  exact sim_mem hg
theorem sim_op7 {c m : Hp} {B j : Nat} (h : R2 c m B) (hj : j < 4) (x b : Int32) : R2 (d_carry c j 7 x b) (m_do m j 7 x b).1 B := by
  have hg := sim_go h hj
  rw [cry2 (by decide) (by decide), ins_ok (by decide) (by decide) (fun z => absurd z.1 (by decide))]
  unfold m_ins d_jump
  rw [if_pos (Or.inl rfl), if_neg (by decide), if_neg (by decide), if_pos (Or.inl rfl)]
  exact sim_place hg hj
theorem sim_op8 {c m : Hp} {B j : Nat} (h : R2 c m B) (hj : j < 4) (x b : Int32) : R2 (d_carry c j 8 x b) (m_do m j 8 x b).1 B := by
  have hg := sim_go h hj
  rw [cry2 (by decide) (by decide), ins_ok (by decide) (by decide) (fun z => absurd z.1 (by decide))]
  unfold m_ins d_jump
  rw [hg.regs hj (rg_lt x)]
  by_cases e : m_go m j 77 (4 * j + rg x) = 0
  · rw [if_neg (by rintro (z | z); exact absurd z (by decide); exact z e), if_neg (by decide), if_neg (by decide), if_neg (by rintro (z | z); exact absurd z (by decide); exact z e)]
    exact hg
  · rw [if_pos (Or.inr e), if_neg (by decide), if_neg (by decide), if_pos (Or.inr e)]
    exact sim_place hg hj
theorem num0 {x : Int32} {n : Nat} (h : Nlt x n) (hn : n ≤ 2 ^ 31) : tn x = 0 ↔ x = 0 := by
  have h1 := h.1
  constructor
  · intro z
    rw [h.2, z]
    rfl
  · intro z
    rw [z]
    rfl
theorem num_lt {x y : Int32} {a b : Nat} (hx : Nlt x a) (hy : Nlt y b) (ha : a ≤ 2 ^ 31) (hb : b ≤ 2 ^ 31) : x < y ↔ tn x < tn y := by
  rw [Int32.lt_iff_toInt_lt, hx.int ha, hy.int hb]
  omega
theorem num_1 {x : Int32} {n : Nat} (h : Nlt x n) : x + 1 = nI (tn x + 1) := by
  rw [← nI_1, ← h.2]
theorem sim_op9 {c m : Hp} {B j : Nat} (h : R2 c m B) (hj : j < 4) (x b : Int32) (hx : mIn x 0 (m 61 25 - 1)) (hw : m 66 (tn x) = nI j) : R2 (d_carry c j 9 x b) (m_do m j 9 x b).1 B := by
  have hg := sim_go h hj
  rw [cry3 (by decide) (by decide)]
  unfold d_comm
  rw [if_pos rfl]
  rw [do_msg (by decide) (by decide), msg9, if_pos ⟨hx, hw⟩]
  have hk := x_lt6 h hx
  have hp := hg.port hk.1
  have hv := hg.val hk.1
  have e5 := hg.clk.2.2.2
  have hic : tn x < tn (m_go m j 61 25) := by rw [m_go_o _ (by decide : 61 ≠ 78)]; exact hk.2.2
  show R2 _ (m_send (m_go m j) j (tn x) (4 * j + rg b)) B
  unfold s_send m_send
  rw [hp.2.2.1, hv.2.2.1, hg.regs hj (rg_lt b), e5]
  by_cases ed : m_go m j 68 (tn x) = 0
  · rw [if_pos ((num0 hp.2.2.2.2 (by decide)).mpr ed), if_pos ed]
    exact sim_smp hg hk.1 hic
  · rw [if_neg (fun z => ed ((num0 hp.2.2.2.2 (by decide)).mp z)), if_neg ed]
    have d5 := hp.2.2.2.2.1
    unfold q_put
    by_cases el : m_go m j 69 (tn x) < m_go m j 68 (tn x)
    · have el2 := (num_lt hv.2.1 hp.2.2.2.2 (by decide) (by decide)).mp el
      rw [if_pos ⟨el2, by omega⟩, if_pos el, bI_t ⟨el2, by omega⟩, num_1 hv.2.1]
      exact sim_reg (sim_qput hg hk.1 hic (by omega) ed) hj (by decide)
    · have el2 : ¬ tn (m_go m j 69 (tn x)) < tn (m_go m j 68 (tn x)) := fun z => el ((num_lt hv.2.1 hp.2.2.2.2 (by decide) (by decide)).mpr z)
      rw [if_neg (fun z => el2 z.1), if_neg el, bI_f (fun z => el2 z.1), up2_same _ (rfl : m_go m j 69 (tn x) = m_go m j 69 (tn x))]
      exact sim_reg hg hj (by decide)
theorem sim_op10 {c m : Hp} {B j : Nat} (h : R2 c m B) (hj : j < 4) (x b : Int32) (hx : mIn x 0 (m 61 25 - 1)) (hw : m 67 (tn x) = nI j) : R2 (d_carry c j 10 x b) (m_do m j 10 x b).1 B := by
  have hg := sim_go h hj
  rw [cry3 (by decide) (by decide)]
  unfold d_comm
  rw [if_neg (by decide), if_pos rfl]
  rw [do_msg (by decide) (by decide), msg10, if_pos ⟨hx, hw⟩]
  have hk := x_lt6 h hx
  have hp := hg.port hk.1
  have hv := hg.val hk.1
  have e5 := hg.clk.2.2.2
  have hic : tn x < tn (m_go m j 61 25) := by rw [m_go_o _ (by decide : 61 ≠ 78)]; exact hk.2.2
  show R2 _ (m_recv (m_go m j) j (tn x) (4 * j + rg b)) B
  unfold s_recv m_recv
  rw [hp.2.2.1, hv.2.2.1, hp.2.2.2.1, e5]
  by_cases eh : m_go m j 69 (tn x) = 0
  · rw [if_pos ((num0 hv.2.1 (by decide)).mpr eh), if_pos eh]
    by_cases ed : m_go m j 68 (tn x) = 0
    · rw [if_pos ((num0 hp.2.2.2.2 (by decide)).mpr ed), if_pos ed]
      exact sim_reg hg hj (by decide)
    · rw [if_neg (fun z => ed ((num0 hp.2.2.2.2 (by decide)).mp z)), if_neg ed]
      exact sim_reg hg hj (by decide)
  · have eh2 : ¬ tn (m_go m j 69 (tn x)) = 0 := fun z => eh ((num0 hv.2.1 (by decide)).mp z)
    have ev := hv.2.2.2.1 0 (by omega)
    rw [qix_0 hv.1.1, Nat.add_zero] at ev
    rw [if_neg eh2, if_neg eh, ev]
    by_cases ed : m_go m j 68 (tn x) = 0
    · rw [if_pos ((num0 hp.2.2.2.2 (by decide)).mpr ed), if_pos ed]
      have hh : m_go m j 69 (tn x) = 1 ∨ ¬ m_go m j 69 (tn x) = 1 := Decidable.em _
      by_cases ea : 99 < m_go m j 61 29 - m_go m j 70 (tn x)
      · rw [if_pos ea, if_pos (Int32.le_of_lt ea)]
        exact sim_reg (sim_held1 (sim_reg hg hj (rg_lt b)) hk.1 (by rw [up2_o _ _ _ (by decide)]; exact ed) (by rw [up2_o _ _ _ (by decide)]; exact eh)) hj (by decide)
      · rw [if_neg ea]
        by_cases eb : 99 ≤ m_go m j 61 29 - m_go m j 70 (tn x)
        · rw [if_pos eb, show m_go m j 61 29 - m_go m j 70 (tn x) = 99 from Int32.le_antisymm (Int32.not_lt.mp ea) eb]
          exact sim_reg (sim_held1 (sim_reg hg hj (rg_lt b)) hk.1 (by rw [up2_o _ _ _ (by decide)]; exact ed) (by rw [up2_o _ _ _ (by decide)]; exact eh)) hj (by decide)
        · rw [if_neg eb]
          exact sim_reg (sim_held1 (sim_reg hg hj (rg_lt b)) hk.1 (by rw [up2_o _ _ _ (by decide)]; exact ed) (by rw [up2_o _ _ _ (by decide)]; exact eh)) hj (by decide)
    · rw [if_neg (fun z => ed ((num0 hp.2.2.2.2 (by decide)).mp z)), if_neg ed]
      unfold q_take
      rw [if_pos (by omega : 0 < tn (m_go m j 69 (tn x))), up2_comm _ (by decide : 77 ≠ 69), mshift_up _ (by decide : 71 ≠ 77)]
      exact sim_reg (sim_reg (sim_qtake hg hk.1 hic (by omega)) hj (rg_lt b)) hj (by decide)
theorem sim_op11 {c m : Hp} {B j : Nat} (h : R2 c m B) (hj : j < 4) (x b : Int32) : R2 (d_carry c j 11 x b) (m_do m j 11 x b).1 B := by
  have hg := sim_go h hj
  rw [cry3 (by decide) (by decide)]
  unfold d_comm
  rw [if_neg (by decide), if_neg (by decide), if_pos rfl]
  rw [smp_ok (by decide) (by decide)]
  unfold m_simp
  rw [if_neg (by decide), if_neg (by decide), if_neg (by decide), if_neg (by decide), if_pos rfl]
  have hi := hg.inp hj
  unfold p_take m_in11 q_take
  rw [hi.2.2.1]
  by_cases e : 0 < tn (m_go m j 82 j)
  · have ev := hi.2.2.2 0 e
    rw [qix_0 hi.1.1, Nat.add_zero] at ev
    rw [if_pos e, if_pos e, if_pos e, bI_t e, ev, up2_comm _ (by decide : 77 ≠ 82), mshift_up _ (by decide : 83 ≠ 77)]
    exact sim_reg (sim_reg (sim_take hg hj e) hj (rg_lt x)) hj (by decide)
  · rw [if_neg e, if_neg e, if_neg e, bI_f e, up2_same (up2 (m_go m j) 77 (4 * j + rg x) 0) (o := 82) (k := j) (x := 0) (by rw [up2_o _ _ _ (by decide)]; exact (num0 hi.2.1 (by decide)).mp (by omega))]
    exact sim_reg (sim_reg hg hj (rg_lt x)) hj (by decide)
theorem sim_op12 {c m : Hp} {B j : Nat} (h : R2 c m B) (hj : j < 4) (x b : Int32) (hB : B < 2 ^ 30 - 1) : R2 (d_carry c j 12 x b) (m_do m j 12 x b).1 (B + 1) := by
  have hg := sim_go h hj
  rw [cry3 (by decide) (by decide)]
  unfold d_comm
  rw [if_neg (by decide), if_neg (by decide), if_neg (by decide), if_pos rfl]
  rw [smp_ok (by decide) (by decide)]
  unfold m_simp
  rw [if_neg (by decide), if_neg (by decide), if_neg (by decide), if_neg (by decide), if_neg (by decide), if_pos rfl]
  have ho := hg.out hj
  have ho1 := ho.2.1.1
  unfold p_out m_out12
  rw [ho.1, hg.regs hj (rg_lt x)]
  by_cases e : tn (m_go m j 84 j) < 16
  · rw [if_pos e, if_pos e]
    exact sim_out2 (sim_out1 hg hj e) hj (by omega) (by omega)
  · rw [if_neg e, if_neg e]
    exact sim_out2 hg hj (by omega) (by omega)
theorem sim_op13 {c m : Hp} {B j : Nat} (h : R2 c m B) (hj : j < 4) (x b : Int32) (hs : ¬ m 61 26 = 0) (hw : j = tn (m 64 (tn (m 61 27)))) : R2 (d_carry c j 13 x b) (m_do m j 13 x b).1 B := by
  have hg := sim_go h hj
  rw [cry3 (by decide) (by decide)]
  unfold d_comm
  rw [if_neg (by decide), if_neg (by decide), if_neg (by decide), if_neg (by decide), if_pos rfl]
  rw [smp_ok (by decide) (by decide)]
  unfold m_simp
  rw [if_neg (by decide), if_neg (by decide), if_neg (by decide), if_neg (by decide), if_neg (by decide), if_neg (by decide), if_pos rfl]
  exact sim_wait hg hj (by rw [m_go_o _ (by decide : 61 ≠ 78)]; exact hs) (by rw [m_go_o _ (by decide : 61 ≠ 78), m_go_o _ (by decide : 64 ≠ 78)]; exact hw)
theorem sim_op14 {c m : Hp} {B j : Nat} (h : R2 c m B) (hj : j < 4) (x b : Int32) : R2 (d_carry c j 14 x b) (m_do m j 14 x b).1 B := by
  have hg := sim_go h hj
  rw [cry3 (by decide) (by decide)]
  unfold d_comm
  rw [if_neg (by decide), if_neg (by decide), if_neg (by decide), if_neg (by decide), if_neg (by decide), if_pos rfl]
  rw [smp_ok (by decide) (by decide)]
  unfold m_simp
  rw [if_neg (by decide), if_neg (by decide), if_neg (by decide), if_neg (by decide), if_neg (by decide), if_neg (by decide), if_neg (by decide), if_pos rfl]
  exact sim_run hg hj
