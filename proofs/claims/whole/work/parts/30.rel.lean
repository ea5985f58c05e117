/-! the desk's cells (c) beside the reference's (m) -/
def RM (c m : Hp) : Prop := ∀ k, k < 64 → c 1 k = m 76 k
/-- a region: none on either side, or the same -/
def RReg (c m : Hp) (j : Nat) : Prop := (m 62 j = -1 ∧ m 63 j = 0 ∧ c (3 + 9 * j) 7 = 0 ∧ c (3 + 9 * j) 8 = 0) ∨ (Nlt (m 62 j) 65 ∧ Nlt (m 63 j) 33 ∧ 0 < tn (m 63 j) ∧ tn (m 62 j) + tn (m 63 j) ≤ 64 ∧ c (3 + 9 * j) 7 = m 62 j ∧ c (3 + 9 * j) 8 = m 63 j)
def RProg (c m : Hp) (j : Nat) : Prop := ∀ i, i < 16 → c (4 + 9 * j) i = m 73 (16 * j + i) ∧ c (5 + 9 * j) i = m 74 (16 * j + i) ∧ c (6 + 9 * j) i = m 75 (16 * j + i)
def RAct (c m : Hp) (j : Nat) : Prop := ∀ f, f < 4 → c (7 + 9 * j) f = m 72 (4 * j + f) ∧ (m 72 (4 * j + f) = 0 ∨ m 72 (4 * j + f) = 1 ∨ m 72 (4 * j + f) = 2)
def RRegs (c m : Hp) (j : Nat) : Prop := ∀ x, x < 4 → c (8 + 9 * j) x = m 77 (4 * j + x)
def RNum (c m : Hp) (j : Nat) : Prop := c (3 + 9 * j) 9 = m 78 j ∧ c (3 + 9 * j) 10 = m 80 j ∧ c (3 + 9 * j) 11 = m 79 j
def ROut (c m : Hp) (B j : Nat) : Prop := c (3 + 9 * j) 12 = m 84 j ∧ Nlt (m 84 j) (B + 1) ∧ ∀ i, i < 16 → c (11 + 9 * j) i = m 85 (16 * j + i)
def RIn (c m : Hp) (j : Nat) : Prop := Nlt (c (9 + 9 * j) 1) 8 ∧ Nlt (m 82 j) 9 ∧ c (9 + 9 * j) 2 = m 82 j ∧ ∀ i, i < tn (m 82 j) → c (10 + 9 * j) (qix (tn (c (9 + 9 * j) 1)) i 8) = m 83 (8 * j + i)
def RPort (c m : Hp) (i : Nat) : Prop := c (40 + 3 * i) 1 = m 66 i ∧ c (40 + 3 * i) 2 = m 67 i ∧ c (40 + 3 * i) 3 = m 68 i ∧ c (40 + 3 * i) 4 = m 70 i ∧ Nlt (m 68 i) 5
def RVal (c m : Hp) (i : Nat) : Prop := Nlt (c (41 + 3 * i) 1) 4 ∧ Nlt (m 69 i) 5 ∧ c (41 + 3 * i) 2 = m 69 i ∧ (∀ t, t < tn (m 69 i) → c (42 + 3 * i) (qix (tn (c (41 + 3 * i) 1)) t 4) = m 71 (4 * i + t)) ∧ (tn (m 61 25) ≤ i → m 69 i = 0) ∧ (m 68 i = 0 → tn (m 69 i) ≤ 1)
def RCnt (c m : Hp) : Prop := c 0 4 = m 61 25 ∧ Nlt (m 61 25) 7 ∧ ∀ i, i < tn (m 61 25) → Nlt (m 66 i) 4 ∧ Nlt (m 67 i) 4
def RF (c m : Hp) : Prop := c 58 2 = m 61 24 ∧ Nlt (m 61 24) 9 ∧ ∀ k, k < tn (m 61 24) → c 59 k = m 64 k ∧ c 60 k = m 65 k ∧ Nlt (m 64 k) 4 ∧ Nlt (m 65 k) 10 ∧ 0 < tn (m 65 k)
def RK (c m : Hp) : Prop := c 0 5 = m 61 26 ∧ c 58 3 = m 61 27 ∧ c 58 4 = m 61 28 ∧ c 58 5 = m 61 29
def RS (c m : Hp) : Prop := ¬ m 61 26 = 0 → Nlt (m 61 27) (tn (m 61 24)) ∧ Nlt (m 61 28) (tn (m 65 (tn (m 61 27)))) ∧ ∀ p, p < 4 → m 81 p = if p = tn (m 64 (tn (m 61 27))) then c 58 6 else 0
def R2 (c m : Hp) (B : Nat) : Prop := RM c m ∧ (∀ j, j < 4 → RReg c m j ∧ RProg c m j ∧ RAct c m j ∧ RRegs c m j ∧ RNum c m j ∧ ROut c m B j ∧ RIn c m j) ∧ (∀ i, i < 6 → RPort c m i ∧ RVal c m i) ∧ RCnt c m ∧ RF c m ∧ RK c m ∧ RS c m
/-! what stays where a cell elsewhere is written -/
def Ag (S : Nat → Nat → Prop) (m m' : Hp) : Prop := ∀ o k, S o k → m' o k = m o k
theorem Ag.rf {S : Nat → Nat → Prop} {m : Hp} : Ag S m m := fun _ _ _ => rfl
theorem Ag.up {S : Nat → Nat → Prop} {m m' : Hp} (a : Ag S m m') {o k : Nat} {x : Int32} (h : ¬ S o k) : Ag S m (up2 m' o k x) := by
  intro o' k' hs
  by_cases ho : o' = o
  · subst ho
    have hk : k' ≠ k := fun z => h (z ▸ hs)
    rw [up2_k _ _ _ hk]
    exact a _ _ hs
  · rw [up2_o _ _ _ ho]
    exact a _ _ hs
theorem Ag.fn {S : Nat → Nat → Prop} {m m' : Hp} (h : ∀ o k, S o k → m' o = m o) : Ag S m m' := fun o k hs => by rw [h o k hs]
theorem Ag.tr {S : Nat → Nat → Prop} {m m' m'' : Hp} (a : Ag S m m') (b : Ag S m' m'') : Ag S m m'' := fun o k hs => (b o k hs).trans (a o k hs)
theorem RM.cg {c m c' m' : Hp} (h : RM c m) (hc : Ag (fun o _ => o = 1) c c') (hm : Ag (fun o _ => o = 76) m m') : RM c' m' := fun k hk => by
  rw [hc 1 k rfl, hm 76 k rfl]; exact h k hk
theorem RReg.cg {c m c' m' : Hp} {j : Nat} (h : RReg c m j) (hc : Ag (fun o k => o = 3 + 9 * j ∧ (k = 7 ∨ k = 8)) c c') (hm : Ag (fun o k => (o = 62 ∨ o = 63) ∧ k = j) m m') : RReg c' m' j := by
  unfold RReg at h ⊢
  rw [hc (3 + 9 * j) 7 (by omega), hc (3 + 9 * j) 8 (by omega), hm 62 j (by omega), hm 63 j (by omega)]
  exact h
theorem RProg.cg {c m c' m' : Hp} {j : Nat} (h : RProg c m j) (hc : Ag (fun o _ => 4 + 9 * j ≤ o ∧ o ≤ 6 + 9 * j) c c') (hm : Ag (fun o k => 73 ≤ o ∧ o ≤ 75 ∧ 16 * j ≤ k ∧ k < 16 * j + 16) m m') : RProg c' m' j := fun i hi => by
  rw [hc (4 + 9 * j) i (by omega), hc (5 + 9 * j) i (by omega), hc (6 + 9 * j) i (by omega), hm 73 _ (by omega), hm 74 _ (by omega), hm 75 _ (by omega)]
  exact h i hi
theorem RAct.cg {c m c' m' : Hp} {j : Nat} (h : RAct c m j) (hc : Ag (fun o _ => o = 7 + 9 * j) c c') (hm : Ag (fun o k => o = 72 ∧ 4 * j ≤ k ∧ k < 4 * j + 4) m m') : RAct c' m' j := fun i hi => by
  rw [hc (7 + 9 * j) i rfl, hm 72 _ (by omega)]
  exact h i hi
theorem RRegs.cg {c m c' m' : Hp} {j : Nat} (h : RRegs c m j) (hc : Ag (fun o _ => o = 8 + 9 * j) c c') (hm : Ag (fun o k => o = 77 ∧ 4 * j ≤ k ∧ k < 4 * j + 4) m m') : RRegs c' m' j := fun i hi => by
  rw [hc (8 + 9 * j) i rfl, hm 77 _ (by omega)]
  exact h i hi
theorem RNum.cg {c m c' m' : Hp} {j : Nat} (h : RNum c m j) (hc : Ag (fun o k => o = 3 + 9 * j ∧ 9 ≤ k ∧ k ≤ 11) c c') (hm : Ag (fun o k => 78 ≤ o ∧ o ≤ 80 ∧ k = j) m m') : RNum c' m' j := by
  unfold RNum at h ⊢
  rw [hc (3 + 9 * j) 9 (by omega), hc (3 + 9 * j) 10 (by omega), hc (3 + 9 * j) 11 (by omega), hm 78 j (by omega), hm 79 j (by omega), hm 80 j (by omega)]
  exact h
theorem ROut.cg {c m c' m' : Hp} {B j : Nat} (h : ROut c m B j) (hc : Ag (fun o k => (o = 3 + 9 * j ∧ k = 12) ∨ o = 11 + 9 * j) c c') (hm : Ag (fun o k => (o = 84 ∧ k = j) ∨ (o = 85 ∧ 16 * j ≤ k ∧ k < 16 * j + 16)) m m') : ROut c' m' B j := by
  unfold ROut at h ⊢
  rw [hc (3 + 9 * j) 12 (by omega), hm 84 j (by omega)]
  exact ⟨h.1, h.2.1, fun i hi => by rw [hc (11 + 9 * j) i (by omega), hm 85 _ (by omega)]; exact h.2.2 i hi⟩
theorem RIn.cg {c m c' m' : Hp} {j : Nat} (h : RIn c m j) (hc : Ag (fun o _ => o = 9 + 9 * j ∨ o = 10 + 9 * j) c c') (hm : Ag (fun o k => (o = 82 ∧ k = j) ∨ (o = 83 ∧ 8 * j ≤ k ∧ k < 8 * j + 8)) m m') : RIn c' m' j := by
  unfold RIn at h ⊢
  have h9 := h.2.1.1
  rw [hc (9 + 9 * j) 1 (by omega), hc (9 + 9 * j) 2 (by omega), hm 82 j (by omega)]
  exact ⟨h.1, h.2.1, h.2.2.1, fun i hi => by rw [hc (10 + 9 * j) _ (by omega), hm 83 _ (by omega)]; exact h.2.2.2 i hi⟩
theorem RPort.cg {c m c' m' : Hp} {i : Nat} (h : RPort c m i) (hc : Ag (fun o _ => o = 40 + 3 * i) c c') (hm : Ag (fun o k => (o = 66 ∨ o = 67 ∨ o = 68 ∨ o = 70) ∧ k = i) m m') : RPort c' m' i := by
  unfold RPort at h ⊢
  rw [hc (40 + 3 * i) 1 (by omega), hc (40 + 3 * i) 2 (by omega), hc (40 + 3 * i) 3 (by omega), hc (40 + 3 * i) 4 (by omega), hm 66 i (by omega), hm 67 i (by omega), hm 68 i (by omega), hm 70 i (by omega)]
  exact h
theorem RVal.cg {c m c' m' : Hp} {i : Nat} (h : RVal c m i) (hc : Ag (fun o _ => o = 41 + 3 * i ∨ o = 42 + 3 * i) c c') (hm : Ag (fun o k => (o = 61 ∧ k = 25) ∨ ((o = 68 ∨ o = 69) ∧ k = i) ∨ (o = 71 ∧ 4 * i ≤ k ∧ k < 4 * i + 4)) m m') : RVal c' m' i := by
  unfold RVal at h ⊢
  have h9 := h.2.1.1
  rw [hc (41 + 3 * i) 1 (by omega), hc (41 + 3 * i) 2 (by omega), hm 69 i (by omega), hm 68 i (by omega), hm 61 25 (by omega)]
  exact ⟨h.1, h.2.1, h.2.2.1, fun t ht => by rw [hc (42 + 3 * i) _ (by omega), hm 71 _ (by omega)]; exact h.2.2.2.1 t ht, h.2.2.2.2⟩
theorem RCnt.cg {c m c' m' : Hp} (h : RCnt c m) (hc : Ag (fun o k => o = 0 ∧ k = 4) c c') (hm : Ag (fun o k => (o = 61 ∧ k = 25) ∨ o = 66 ∨ o = 67) m m') : RCnt c' m' := by
  unfold RCnt at h ⊢
  rw [hc 0 4 (by omega), hm 61 25 (by omega)]
  exact ⟨h.1, h.2.1, fun i hi => by rw [hm 66 i (by omega), hm 67 i (by omega)]; exact h.2.2 i hi⟩
theorem RF.cg {c m c' m' : Hp} (h : RF c m) (hc : Ag (fun o k => (o = 58 ∧ k = 2) ∨ o = 59 ∨ o = 60) c c') (hm : Ag (fun o k => (o = 61 ∧ k = 24) ∨ o = 64 ∨ o = 65) m m') : RF c' m' := by
  unfold RF at h ⊢
  rw [hc 58 2 (by omega), hm 61 24 (by omega)]
  exact ⟨h.1, h.2.1, fun i hi => by rw [hc 59 i (by omega), hc 60 i (by omega), hm 64 i (by omega), hm 65 i (by omega)]; exact h.2.2 i hi⟩
theorem RK.cg {c m c' m' : Hp} (h : RK c m) (hc : Ag (fun o k => (o = 0 ∧ k = 5) ∨ (o = 58 ∧ 3 ≤ k ∧ k ≤ 5)) c c') (hm : Ag (fun o k => o = 61 ∧ 26 ≤ k ∧ k ≤ 29) m m') : RK c' m' := by
  unfold RK at h ⊢
  rw [hc 0 5 (by omega), hc 58 3 (by omega), hc 58 4 (by omega), hc 58 5 (by omega), hm 61 26 (by omega), hm 61 27 (by omega), hm 61 28 (by omega), hm 61 29 (by omega)]
  exact h
theorem RS.cg {c m c' m' : Hp} (h : RS c m) (hc : Ag (fun o k => o = 58 ∧ k = 6) c c') (hm : Ag (fun o k => (o = 61 ∧ (k = 24 ∨ (26 ≤ k ∧ k ≤ 28))) ∨ o = 64 ∨ o = 65 ∨ o = 81) m m') : RS c' m' := by
  unfold RS at h ⊢
  rw [hm 61 26 (by omega), hm 61 27 (by omega), hm 61 28 (by omega), hm 61 24 (by omega), hm 64 _ (by omega), hm 65 _ (by omega), hc 58 6 (by omega)]
  exact fun z => ⟨(h z).1, (h z).2.1, fun p hp => by rw [hm 81 p (by omega)]; exact (h z).2.2 p hp⟩
/-- R2 by its parts, each where it may have changed -/
theorem R2.mk {c m c' m' : Hp} {B B' : Nat} (h : R2 c m B) (h1 : RM c m → RM c' m') (h2 : ∀ j, j < 4 → RReg c m j → RReg c' m' j) (h3 : ∀ j, j < 4 → RProg c m j → RProg c' m' j) (h4 : ∀ j, j < 4 → RAct c m j → RAct c' m' j) (h5 : ∀ j, j < 4 → RRegs c m j → RRegs c' m' j) (h6 : ∀ j, j < 4 → RNum c m j → RNum c' m' j) (h7 : ∀ j, j < 4 → ROut c m B j → ROut c' m' B' j) (h8 : ∀ j, j < 4 → RIn c m j → RIn c' m' j)
    (h9 : ∀ i, i < 6 → RPort c m i → RPort c' m' i) (h10 : ∀ i, i < 6 → RVal c m i → RVal c' m' i) (h11 : RCnt c m → RCnt c' m') (h12 : RF c m → RF c' m') (h13 : RK c m → RK c' m') (h14 : RS c m → RS c' m') : R2 c' m' B' :=
  ⟨h1 h.1, fun j hj => ⟨h2 j hj (h.2.1 j hj).1, h3 j hj (h.2.1 j hj).2.1, h4 j hj (h.2.1 j hj).2.2.1, h5 j hj (h.2.1 j hj).2.2.2.1, h6 j hj (h.2.1 j hj).2.2.2.2.1, h7 j hj (h.2.1 j hj).2.2.2.2.2.1, h8 j hj (h.2.1 j hj).2.2.2.2.2.2⟩, fun i hi => ⟨h9 i hi (h.2.2.1 i hi).1, h10 i hi (h.2.2.1 i hi).2⟩, h11 h.2.2.2.1, h12 h.2.2.2.2.1, h13 h.2.2.2.2.2.1, h14 h.2.2.2.2.2.2⟩
theorem R2.cg {c m c' m' : Hp} {B : Nat} (h : R2 c m B) (hc : ∀ o, o < 61 → c' o = c o) (hm : ∀ o, 61 ≤ o → m' o = m o) : R2 c' m' B := by
  refine h.mk ?_ ?_ ?_ ?_ ?_ ?_ ?_ ?_ ?_ ?_ ?_ ?_ ?_ ?_
  · exact fun z => z.cg (Ag.fn (fun o k hs => hc o (by omega))) (Ag.fn (fun o k hs => hm o (by omega)))
  all_goals first
    | exact fun z => z.cg (Ag.fn (fun o k hs => hc o (by omega))) (Ag.fn (fun o k hs => hm o (by omega)))
    | exact fun j hj z => z.cg (Ag.fn (fun o k hs => hc o (by omega))) (Ag.fn (fun o k hs => hm o (by omega)))
