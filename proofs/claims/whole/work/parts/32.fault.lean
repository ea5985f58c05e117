theorem sim_clr {c m : Hp} {B : Nat} (h : R2 c m B) {i : Nat} (hi6 : i < 6) : R2 (up2 (up2 c (41 + 3 * i) 1 0) (41 + 3 * i) 2 0) (up2 m 69 i 0) B := by
  refine h.mk (fun z => z.cg (((Ag.rf).up (by omega)).up (by omega)) ((Ag.rf).up (by omega))) (fun i hi z => z.cg (((Ag.rf).up (by omega)).up (by omega)) ((Ag.rf).up (by omega))) (fun i hi z => z.cg (((Ag.rf).up (by omega)).up (by omega)) ((Ag.rf).up (by omega))) (fun i hi z => z.cg (((Ag.rf).up (by omega)).up (by omega)) ((Ag.rf).up (by omega))) (fun i hi z => z.cg (((Ag.rf).up (by omega)).up (by omega)) ((Ag.rf).up (by omega))) (fun i hi z => z.cg (((Ag.rf).up (by omega)).up (by omega)) ((Ag.rf).up (by omega))) (fun i hi z => z.cg (((Ag.rf).up (by omega)).up (by omega)) ((Ag.rf).up (by omega))) (fun i hi z => z.cg (((Ag.rf).up (by omega)).up (by omega)) ((Ag.rf).up (by omega))) (fun i hi z => z.cg (((Ag.rf).up (by omega)).up (by omega)) ((Ag.rf).up (by omega))) ?_ (fun z => z.cg (((Ag.rf).up (by omega)).up (by omega)) ((Ag.rf).up (by omega))) (fun z => z.cg (((Ag.rf).up (by omega)).up (by omega)) ((Ag.rf).up (by omega))) (fun z => z.cg (((Ag.rf).up (by omega)).up (by omega)) ((Ag.rf).up (by omega))) (fun z => z.cg (((Ag.rf).up (by omega)).up (by omega)) ((Ag.rf).up (by omega)))
  · intro k hk z
    by_cases e : k = i
    · subst e
      obtain ⟨a1, a2, a3, a4, a5, a6⟩ := z
      have a11 := a1.1
      have a21 := a2.1
      refine ⟨?_, ?_, ?_, ?_, ?_, ?_⟩
      · rw [up2_k _ _ _ (by decide), up2_s]
        exact Nlt.of (k := 0) rfl (by decide) (by decide)
      · rw [up2_s]
        exact Nlt.of (k := 0) rfl (by decide) (by decide)
      · rw [up2_s, up2_s]
      · rw [up2_s]
        intro t ht
        exact absurd ht (Nat.not_lt_zero t)
      · intro _
        rw [up2_s]
      · intro _
        rw [up2_s]
        decide
    · exact z.cg (((Ag.rf).up (by omega)).up (by omega)) ((Ag.rf).up (by omega))
theorem sim_smp {c m : Hp} {B : Nat} (h : R2 c m B) {i : Nat} {v w : Int32} (hi6 : i < 6) (hic : i < tn (m 61 25)) : R2 (up2 (up2 (up2 (up2 (up2 c (41 + 3 * i) 1 0) (41 + 3 * i) 2 0) (42 + 3 * i) 0 v) (41 + 3 * i) 2 1) (40 + 3 * i) 4 w) (up2 (up2 (up2 m 71 (4 * i) v) 70 i w) 69 i 1) B := by
  refine h.mk (fun z => z.cg ((((((Ag.rf).up (by omega)).up (by omega)).up (by omega)).up (by omega)).up (by omega)) ((((Ag.rf).up (by omega)).up (by omega)).up (by omega))) (fun i hi z => z.cg ((((((Ag.rf).up (by omega)).up (by omega)).up (by omega)).up (by omega)).up (by omega)) ((((Ag.rf).up (by omega)).up (by omega)).up (by omega))) (fun i hi z => z.cg ((((((Ag.rf).up (by omega)).up (by omega)).up (by omega)).up (by omega)).up (by omega)) ((((Ag.rf).up (by omega)).up (by omega)).up (by omega))) (fun i hi z => z.cg ((((((Ag.rf).up (by omega)).up (by omega)).up (by omega)).up (by omega)).up (by omega)) ((((Ag.rf).up (by omega)).up (by omega)).up (by omega))) (fun i hi z => z.cg ((((((Ag.rf).up (by omega)).up (by omega)).up (by omega)).up (by omega)).up (by omega)) ((((Ag.rf).up (by omega)).up (by omega)).up (by omega))) (fun i hi z => z.cg ((((((Ag.rf).up (by omega)).up (by omega)).up (by omega)).up (by omega)).up (by omega)) ((((Ag.rf).up (by omega)).up (by omega)).up (by omega))) (fun i hi z => z.cg ((((((Ag.rf).up (by omega)).up (by omega)).up (by omega)).up (by omega)).up (by omega)) ((((Ag.rf).up (by omega)).up (by omega)).up (by omega))) (fun i hi z => z.cg ((((((Ag.rf).up (by omega)).up (by omega)).up (by omega)).up (by omega)).up (by omega)) ((((Ag.rf).up (by omega)).up (by omega)).up (by omega))) ?_ ?_ (fun z => z.cg ((((((Ag.rf).up (by omega)).up (by omega)).up (by omega)).up (by omega)).up (by omega)) ((((Ag.rf).up (by omega)).up (by omega)).up (by omega))) (fun z => z.cg ((((((Ag.rf).up (by omega)).up (by omega)).up (by omega)).up (by omega)).up (by omega)) ((((Ag.rf).up (by omega)).up (by omega)).up (by omega))) (fun z => z.cg ((((((Ag.rf).up (by omega)).up (by omega)).up (by omega)).up (by omega)).up (by omega)) ((((Ag.rf).up (by omega)).up (by omega)).up (by omega))) (fun z => z.cg ((((((Ag.rf).up (by omega)).up (by omega)).up (by omega)).up (by omega)).up (by omega)) ((((Ag.rf).up (by omega)).up (by omega)).up (by omega)))
  · intro k hk z
    by_cases e : k = i
    · subst e
      obtain ⟨a1, a2, a3, a4, a5⟩ := z
      refine ⟨?_, ?_, ?_, ?_, ?_⟩
      · simp (disch := omega) only [up2_o, up2_k]
        exact a1
      · simp (disch := omega) only [up2_o, up2_k]
        exact a2
      · simp (disch := omega) only [up2_o, up2_k]
        exact a3
      · simp (disch := omega) only [up2_o, up2_s]
      · simp (disch := omega) only [up2_o]
        exact a5
    · exact z.cg ((((((Ag.rf).up (by omega)).up (by omega)).up (by omega)).up (by omega)).up (by omega)) ((((Ag.rf).up (by omega)).up (by omega)).up (by omega))
  · intro k hk z
    by_cases e : k = i
    · subst e
      obtain ⟨a1, a2, a3, a4, a5, a6⟩ := z
      have a11 := a1.1
      have a21 := a2.1
      refine ⟨?_, ?_, ?_, ?_, ?_, ?_⟩
      · simp (disch := omega) only [up2_o, up2_k, up2_s]
        exact Nlt.of (k := 0) rfl (by decide) (by decide)
      · rw [up2_s]
        exact Nlt.of (k := 1) rfl (by decide) (by decide)
      · simp (disch := omega) only [up2_o, up2_s]
      · rw [up2_s]
        intro t ht
        have ht : t < 1 := ht
        rw [show t = 0 by omega]
        simp (disch := omega) only [up2_o, up2_k, up2_s]
        show up2 _ _ 0 _ _ (qix 0 0 4) = _
        rw [show qix 0 0 4 = 0 from rfl, up2_s, Nat.add_zero, up2_s]
      · simp (disch := omega) only [up2_o]
        intro z
        omega
      · intro _
        rw [up2_s]
        decide
    · exact z.cg ((((((Ag.rf).up (by omega)).up (by omega)).up (by omega)).up (by omega)).up (by omega)) ((((Ag.rf).up (by omega)).up (by omega)).up (by omega))
theorem sim_qput {c m : Hp} {B : Nat} (h : R2 c m B) {i : Nat} {v : Int32} (hi6 : i < 6) (hic : i < tn (m 61 25)) (hh : tn (m 69 i) < 4) (hdp : ¬ m 68 i = 0) : R2 (up2 (up2 c (42 + 3 * i) (qix (tn (c (41 + 3 * i) 1)) (tn (m 69 i)) 4) v) (41 + 3 * i) 2 (nI (tn (m 69 i) + 1))) (up2 (up2 m 71 (4 * i + tn (m 69 i)) v) 69 i (nI (tn (m 69 i) + 1))) B := by
  refine h.mk (fun z => z.cg (((Ag.rf).up (by omega)).up (by omega)) (((Ag.rf).up (by omega)).up (by omega))) (fun i hi z => z.cg (((Ag.rf).up (by omega)).up (by omega)) (((Ag.rf).up (by omega)).up (by omega))) (fun i hi z => z.cg (((Ag.rf).up (by omega)).up (by omega)) (((Ag.rf).up (by omega)).up (by omega))) (fun i hi z => z.cg (((Ag.rf).up (by omega)).up (by omega)) (((Ag.rf).up (by omega)).up (by omega))) (fun i hi z => z.cg (((Ag.rf).up (by omega)).up (by omega)) (((Ag.rf).up (by omega)).up (by omega))) (fun i hi z => z.cg (((Ag.rf).up (by omega)).up (by omega)) (((Ag.rf).up (by omega)).up (by omega))) (fun i hi z => z.cg (((Ag.rf).up (by omega)).up (by omega)) (((Ag.rf).up (by omega)).up (by omega))) (fun i hi z => z.cg (((Ag.rf).up (by omega)).up (by omega)) (((Ag.rf).up (by omega)).up (by omega))) (fun i hi z => z.cg (((Ag.rf).up (by omega)).up (by omega)) (((Ag.rf).up (by omega)).up (by omega))) ?_ (fun z => z.cg (((Ag.rf).up (by omega)).up (by omega)) (((Ag.rf).up (by omega)).up (by omega))) (fun z => z.cg (((Ag.rf).up (by omega)).up (by omega)) (((Ag.rf).up (by omega)).up (by omega))) (fun z => z.cg (((Ag.rf).up (by omega)).up (by omega)) (((Ag.rf).up (by omega)).up (by omega))) (fun z => z.cg (((Ag.rf).up (by omega)).up (by omega)) (((Ag.rf).up (by omega)).up (by omega)))
  · intro k hk z
    by_cases e : k = i
    · subst e
      obtain ⟨a1, a2, a3, a4, a5, a6⟩ := z
      have a11 := a1.1
      have a21 := a2.1
      refine ⟨?_, ?_, ?_, ?_, ?_, ?_⟩
      · simp (disch := omega) only [up2_o, up2_k]
        exact a1
      · rw [up2_s]
        exact Nlt.of rfl (by omega) (by decide)
      · rw [up2_s, up2_s]
      · rw [up2_s, tn_nI (by omega)]
        intro t ht
        simp (disch := omega) only [up2_o, up2_k]
        by_cases e2 : t = tn (m 69 k)
        · subst e2
          rw [up2_s, up2_s]
        · rw [up2_k _ _ _ (qix_ne a1.1 (by omega) hh), up2_k _ _ _ (by omega)]
          exact a4 t (by omega)
      · simp (disch := omega) only [up2_o]
        intro z
        omega
      · simp (disch := omega) only [up2_o]
        exact fun z => absurd z hdp
    · exact z.cg (((Ag.rf).up (by omega)).up (by omega)) (((Ag.rf).up (by omega)).up (by omega))
theorem sim_qtake {c m : Hp} {B : Nat} (h : R2 c m B) {i : Nat} (hi6 : i < 6) (hic : i < tn (m 61 25)) (hh : 0 < tn (m 69 i)) : R2 (up2 (up2 c (41 + 3 * i) 1 (nI (if tn (c (41 + 3 * i) 1) + 1 < 4 then tn (c (41 + 3 * i) 1) + 1 else 0))) (41 + 3 * i) 2 (nI (tn (m 69 i) - 1))) (mshift (up2 m 69 i (nI (tn (m 69 i) - 1))) 71 (4 * i) (tn (m 69 i) - 1)) B := by
  refine h.mk (fun z => z.cg (((Ag.rf).up (by omega)).up (by omega)) (((Ag.rf).up (by omega)).shift (fun k h1 h2 => by omega))) (fun i hi z => z.cg (((Ag.rf).up (by omega)).up (by omega)) (((Ag.rf).up (by omega)).shift (fun k h1 h2 => by omega))) (fun i hi z => z.cg (((Ag.rf).up (by omega)).up (by omega)) (((Ag.rf).up (by omega)).shift (fun k h1 h2 => by omega))) (fun i hi z => z.cg (((Ag.rf).up (by omega)).up (by omega)) (((Ag.rf).up (by omega)).shift (fun k h1 h2 => by omega))) (fun i hi z => z.cg (((Ag.rf).up (by omega)).up (by omega)) (((Ag.rf).up (by omega)).shift (fun k h1 h2 => by omega))) (fun i hi z => z.cg (((Ag.rf).up (by omega)).up (by omega)) (((Ag.rf).up (by omega)).shift (fun k h1 h2 => by omega))) (fun i hi z => z.cg (((Ag.rf).up (by omega)).up (by omega)) (((Ag.rf).up (by omega)).shift (fun k h1 h2 => by omega))) (fun i hi z => z.cg (((Ag.rf).up (by omega)).up (by omega)) (((Ag.rf).up (by omega)).shift (fun k h1 h2 => by omega))) (fun i hi z => z.cg (((Ag.rf).up (by omega)).up (by omega)) (((Ag.rf).up (by omega)).shift (fun k h1 h2 => by omega))) ?_ (fun z => z.cg (((Ag.rf).up (by omega)).up (by omega)) (((Ag.rf).up (by omega)).shift (fun k h1 h2 => by omega))) (fun z => z.cg (((Ag.rf).up (by omega)).up (by omega)) (((Ag.rf).up (by omega)).shift (fun k h1 h2 => by omega))) (fun z => z.cg (((Ag.rf).up (by omega)).up (by omega)) (((Ag.rf).up (by omega)).shift (fun k h1 h2 => by omega))) (fun z => z.cg (((Ag.rf).up (by omega)).up (by omega)) (((Ag.rf).up (by omega)).shift (fun k h1 h2 => by omega)))
  · have hn : tn (m 69 i) < 5 := (h.2.2.1 i hi6).2.2.1.1
    intro k hk z
    by_cases e : k = i
    · subst e
      obtain ⟨a1, a2, a3, a4, a5, a6⟩ := z
      have a11 := a1.1
      have a21 := a2.1
      refine ⟨?_, ?_, ?_, ?_, ?_, ?_⟩
      · simp (disch := omega) only [up2_k, up2_s]
        exact Nlt.of rfl (by split <;> omega) (by decide)
      · rw [mshift_o _ (by decide), up2_s]
        exact Nlt.of rfl (by omega) (by decide)
      · rw [up2_s, mshift_o _ (by decide), up2_s]
      · rw [mshift_o _ (by decide), up2_s, tn_nI (by omega)]
        intro t ht
        simp (disch := omega) only [up2_o, up2_k, up2_s]
        rw [tn_nI (by split <;> omega), qix_succ a1.1 (by omega), mshift_at, if_pos (by omega), up2_o _ _ _ (by decide), a4 (t + 1) (by omega)]
        rfl
      · rw [mshift_o _ (by decide), up2_o _ _ _ (by decide)]
        intro z
        omega
      · rw [mshift_o _ (by decide), mshift_o _ (by decide), up2_o _ _ _ (by decide), up2_s, tn_nI (by omega)]
        intro z
        have := a6 z
        omega
    · exact z.cg (((Ag.rf).up (by omega)).up (by omega)) (((Ag.rf).up (by omega)).shift (fun k h1 h2 => by omega))
theorem sim_done {c m : Hp} {B : Nat} (h : R2 c m B) {v : Int32} : R2 (c) (up2 m 61 30 v) B := by
  refine h.mk (fun z => z.cg (Ag.rf) ((Ag.rf).up (by omega))) (fun i hi z => z.cg (Ag.rf) ((Ag.rf).up (by omega))) (fun i hi z => z.cg (Ag.rf) ((Ag.rf).up (by omega))) (fun i hi z => z.cg (Ag.rf) ((Ag.rf).up (by omega))) (fun i hi z => z.cg (Ag.rf) ((Ag.rf).up (by omega))) (fun i hi z => z.cg (Ag.rf) ((Ag.rf).up (by omega))) (fun i hi z => z.cg (Ag.rf) ((Ag.rf).up (by omega))) (fun i hi z => z.cg (Ag.rf) ((Ag.rf).up (by omega))) (fun i hi z => z.cg (Ag.rf) ((Ag.rf).up (by omega))) (fun i hi z => z.cg (Ag.rf) ((Ag.rf).up (by omega))) (fun z => z.cg (Ag.rf) ((Ag.rf).up (by omega))) (fun z => z.cg (Ag.rf) ((Ag.rf).up (by omega))) (fun z => z.cg (Ag.rf) ((Ag.rf).up (by omega))) (fun z => z.cg (Ag.rf) ((Ag.rf).up (by omega)))
theorem up2_comm (h : Hp) {o o' k k' : Nat} {x y : Int32} (ho : o ≠ o') : up2 (up2 h o k x) o' k' y = up2 (up2 h o' k' y) o k x := by
  funext a
  by_cases h1 : a = o'
  · subst h1
    have h2 : a ≠ o := Ne.symm ho
    rw [up2_o _ _ _ h2]
    unfold up2
    simp [h2]
  · rw [up2_o _ _ _ h1]
    by_cases h2 : a = o
    · subst h2
      unfold up2
      simp [h1]
    · rw [up2_o _ _ _ h2, up2_o _ _ _ h2, up2_o _ _ _ h1]
theorem up2_same (h : Hp) {o k : Nat} {x : Int32} (hx : h o k = x) : up2 h o k x = h := by
  funext a
  by_cases h1 : a = o
  · subst h1
    funext b
    by_cases h2 : b = k
    · subst h2
      rw [up2_s, hx]
    · rw [up2_k _ _ _ h2]
  · rw [up2_o _ _ _ h1]
theorem mshift_up (h : Hp) {o b o' k' : Nat} {y : Int32} (ho : o ≠ o') : ∀ n, mshift (up2 h o' k' y) o b n = up2 (mshift h o b n) o' k' y
  | 0 => rfl
  | n + 1 => by
    rw [mshift, mshift, mshift_up h ho n, up2_comm _ (Ne.symm ho), up2_o _ _ _ ho]
/-! readings of R2 -/
theorem R2.size {c m : Hp} {B j : Nat} (h : R2 c m B) (hj : j < 4) : c (3 + 9 * j) 8 = m 63 j ∧ Nlt (m 63 j) 33 := by
  rcases (h.2.1 j hj).1 with ⟨a1, a2, a3, a4⟩ | ⟨a1, a2, a3, a4, a5, a6⟩
  · exact ⟨by rw [a4, a2], Nlt.of (k := 0) a2 (by decide) (by decide)⟩
  · exact ⟨a6, a2⟩
theorem R2.port {c m : Hp} {B i : Nat} (h : R2 c m B) (hi : i < 6) : RPort c m i := (h.2.2.1 i hi).1
theorem R2.val {c m : Hp} {B i : Nat} (h : R2 c m B) (hi : i < 6) : RVal c m i := (h.2.2.1 i hi).2
theorem R2.cnt {c m : Hp} {B : Nat} (h : R2 c m B) : RCnt c m := h.2.2.2.1
theorem R2.regs {c m : Hp} {B j x : Nat} (h : R2 c m B) (hj : j < 4) (hx : x < 4) : c (8 + 9 * j) x = m 77 (4 * j + x) := (h.2.1 j hj).2.2.2.1 x hx
theorem R2.num {c m : Hp} {B j : Nat} (h : R2 c m B) (hj : j < 4) : RNum c m j := (h.2.1 j hj).2.2.2.2.1
theorem R2.out {c m : Hp} {B j : Nat} (h : R2 c m B) (hj : j < 4) : ROut c m B j := (h.2.1 j hj).2.2.2.2.2.1
theorem R2.inp {c m : Hp} {B j : Nat} (h : R2 c m B) (hj : j < 4) : RIn c m j := (h.2.1 j hj).2.2.2.2.2.2
theorem R2.prog {c m : Hp} {B j : Nat} (h : R2 c m B) (hj : j < 4) : RProg c m j := (h.2.1 j hj).2.1
theorem R2.act {c m : Hp} {B j : Nat} (h : R2 c m B) (hj : j < 4) : RAct c m j := (h.2.1 j hj).2.2.1
theorem R2.fr {c m : Hp} {B : Nat} (h : R2 c m B) : RF c m := h.2.2.2.2.1
theorem R2.clk {c m : Hp} {B : Nat} (h : R2 c m B) : RK c m := h.2.2.2.2.2.1
theorem R2.st {c m : Hp} {B : Nat} (h : R2 c m B) : RS c m := h.2.2.2.2.2.2
theorem sim_held1 {c m : Hp} {B i : Nat} (h : R2 c m B) (hi : i < 6) (hd : m 68 i = 0) (hh : ¬ m 69 i = 0) : R2 c (up2 m 69 i 1) B := by
  have hv := h.val hi
  have h1 := hv.2.2.2.2.2 hd
  have h2 := hv.2.1
  have h3 : tn (m 69 i) = 1 := by
    rcases Nat.eq_zero_or_pos (tn (m 69 i)) with z | z
    · rw [h2.2, z] at hh
      exact absurd rfl hh
    · omega
  have h4 : m 69 i = 1 := by
    rw [h2.2, h3]
    rfl
  rw [up2_same _ h4]
  exact h
theorem lt_le1 {y s : Int32} (hs : Nlt s 100) : (0 ≤ y ∧ y < s) ↔ mIn y 0 (s - 1) := by
  have h1 := hs.1
  have h2 := hs.int (by decide)
  show _ ↔ (0 ≤ y ∧ y ≤ s - 1)
  rw [Int32.lt_iff_toInt_lt, Int32.le_iff_toInt_le (x := y), Int32.toInt_sub, h2, show (1 : Int32).toInt = 1 from rfl, Int.bmod_eq_of_le (by omega) (by omega)]
  constructor
  · rintro ⟨a, b⟩
    exact ⟨a, by omega⟩
  · rintro ⟨a, b⟩
    exact ⟨a, by omega⟩
theorem Nlt.mono {x : Int32} {a b : Nat} (h : Nlt x a) (hab : a ≤ b) : Nlt x b := ⟨Nat.lt_of_lt_of_le h.1 hab, h.2⟩
theorem do_smp {m : Hp} {j : Nat} {o x b : Int32} (h1 : o < 5 ∨ 10 < o) : m_do m j o x b = m_simple m j o x b := by unfold m_do; rw [if_pos h1]
theorem do_ins {m : Hp} {j : Nat} {o x b : Int32} (h1 : ¬ (o < 5 ∨ 10 < o)) (h2 : o < 9) : m_do m j o x b = m_inside m j o x b := by unfold m_do; rw [if_neg h1, if_pos h2]
theorem do_msg {m : Hp} {j : Nat} {o x b : Int32} (h1 : ¬ (o < 5 ∨ 10 < o)) (h2 : ¬ o < 9) : m_do m j o x b = m_message m j o x b := by unfold m_do; rw [if_neg h1, if_neg h2]
theorem msg9 {m : Hp} {j : Nat} {x b : Int32} : m_message m j 9 x b = if mIn x 0 (m 61 25 - 1) ∧ m 66 (tn x) = nI j then (m_send (m_go m j) j (tn x) (4 * j + rg b), 0) else (m, 2) := by
  unfold m_message
  simp only [if_pos (rfl : (9 : Int32) = 9), if_true]
theorem msg10 {m : Hp} {j : Nat} {x b : Int32} : m_message m j 10 x b = if mIn x 0 (m 61 25 - 1) ∧ m 67 (tn x) = nI j then (m_recv (m_go m j) j (tn x) (4 * j + rg b), 0) else (m, 2) := by
  unfold m_message
  simp only [if_neg (by decide : ¬ (10 : Int32) = 9)]
theorem flt56 {c : Hp} {j : Nat} {o x b : Int32} (h : o = 5 ∨ o = 6) : d_fault c j o x b = if 0 ≤ c (8 + 9 * j) (rg b) ∧ c (8 + 9 * j) (rg b) < c (3 + 9 * j) 8 then 0 else 1 := by unfold d_fault; rw [if_pos h]
theorem flt9 {c : Hp} {j : Nat} {x b : Int32} : d_fault c j 9 x b = if (0 ≤ x ∧ x < c 0 4) ∧ c (40 + 3 * tn x) 1 = nI j then 0 else 2 := by unfold d_fault; rw [if_neg (by decide), if_pos rfl]
theorem flt10 {c : Hp} {j : Nat} {x b : Int32} : d_fault c j 10 x b = if (0 ≤ x ∧ x < c 0 4) ∧ c (40 + 3 * tn x) 2 = nI j then 0 else 2 := by unfold d_fault; rw [if_neg (by decide), if_neg (by decide), if_pos rfl]
theorem fltx {c : Hp} {j : Nat} {o x b : Int32} (h1 : ¬ (o = 5 ∨ o = 6)) (h2 : ¬ o = 9) (h3 : ¬ o = 10) : d_fault c j o x b = if o < 0 ∨ 14 < o then 3 else 0 := by unfold d_fault; rw [if_neg h1, if_neg h2, if_neg h3]
theorem x_lt6 {c m : Hp} {B : Nat} (h : R2 c m B) {x : Int32} (z : mIn x 0 (m 61 25 - 1)) : tn x < 6 ∧ x = nI (tn x) ∧ tn x < tn (m 61 25) := by
  have hcn := h.cnt.2.1
  have z1 := (lt_le1 (hcn.mono (by decide))).mpr z
  have z2 := tn_lt z1.1 z1.2
  have z3 := hcn.1
  exact ⟨by omega, nn_tn z1.1, z2⟩
/-- what faults on one side faults on the other -/
theorem fault_eq {c m : Hp} {B j : Nat} (h : R2 c m B) (hj : j < 4) (o x b : Int32) : d_fault c j o x b = (m_do m j o x b).2 := by
  have hs := h.size hj
  have hr := h.regs hj (rg_lt b)
  have hc := h.cnt
  have hcn := hc.2.1
  have hx : (0 ≤ x ∧ x < c 0 4) ↔ mIn x 0 (m 61 25 - 1) := by rw [hc.1]; exact lt_le1 (hcn.mono (by decide))
  by_cases h56 : o = 5 ∨ o = 6
  · rw [flt56 h56, do_ins (by rcases h56 with rfl | rfl <;> decide) (by rcases h56 with rfl | rfl <;> decide), hr, hs.1]
    unfold m_inside
    by_cases hy : mIn (m 77 (4 * j + rg b)) 0 (m 63 j - 1)
    · rw [if_pos ((lt_le1 (hs.2.mono (by decide))).mpr hy), if_neg (fun z => z.2 hy)]
    · rw [if_neg (fun z => hy ((lt_le1 (hs.2.mono (by decide))).mp z)), if_pos ⟨by rcases h56 with rfl | rfl <;> decide, hy⟩]
  by_cases h9 : o = 9
  · subst h9
    rw [flt9, do_msg (by decide) (by decide), msg9]
    by_cases hy : mIn x 0 (m 61 25 - 1)
    · have hp := h.port (x_lt6 h hy).1
      rw [hp.1]
      by_cases hq : m 66 (tn x) = nI j
      · rw [if_pos ⟨hx.mpr hy, hq⟩, if_pos ⟨hy, hq⟩]
      · rw [if_neg (fun z => hq z.2), if_neg (fun z => hq z.2)]
    · rw [if_neg (fun z => hy (hx.mp z.1)), if_neg (fun z => hy z.1)]
  by_cases h10 : o = 10
  · subst h10
    rw [flt10, do_msg (by decide) (by decide), msg10]
    by_cases hy : mIn x 0 (m 61 25 - 1)
    · have hp := h.port (x_lt6 h hy).1
      rw [hp.2.1]
      by_cases hq : m 67 (tn x) = nI j
      · rw [if_pos ⟨hx.mpr hy, hq⟩, if_pos ⟨hy, hq⟩]
      · rw [if_neg (fun z => hq z.2), if_neg (fun z => hq z.2)]
    · rw [if_neg (fun z => hy (hx.mp z.1)), if_neg (fun z => hy z.1)]
  rw [fltx h56 h9 h10]
  by_cases h5 : o < 5 ∨ 10 < o
  · rw [do_smp h5]
    unfold m_simple
    by_cases hb : o < 0 ∨ 14 < o
    · rw [if_pos hb, if_pos hb]
    · rw [if_neg hb, if_neg hb]
  · have h78 : o = 7 ∨ o = 8 := by
      simp only [Int32.le_iff_toInt_le, Int32.lt_iff_toInt_lt, ← Int32.toInt_inj, Int32.reduceToInt] at *
      omega
    rw [do_ins h5 (by rcases h78 with rfl | rfl <;> decide), if_neg (by rcases h78 with rfl | rfl <;> decide)]
    unfold m_inside
    rw [if_neg (by rcases h78 with rfl | rfl <;> exact fun z => absurd z.1 (by decide))]
