/-! the world behind the two constructors: 61 cells of the desk, 25 of the reference -/
def K0 : List (Nat × Nat) := [(4, 0), (0, 64), (2, 4),
  (5, 0), (0, 16), (0, 16), (0, 16), (0, 4), (0, 4), (8, 0), (0, 8), (0, 16),
  (5, 0), (0, 16), (0, 16), (0, 16), (0, 4), (0, 4), (8, 0), (0, 8), (0, 16),
  (5, 0), (0, 16), (0, 16), (0, 16), (0, 4), (0, 4), (8, 0), (0, 8), (0, 16),
  (5, 0), (0, 16), (0, 16), (0, 16), (0, 4), (0, 4), (8, 0), (0, 8), (0, 16),
  (3, 6), (6, 0), (8, 0), (0, 4), (6, 0), (8, 0), (0, 4), (6, 0), (8, 0), (0, 4), (6, 0), (8, 0), (0, 4), (6, 0), (8, 0), (0, 4), (6, 0), (8, 0), (0, 4),
  (7, 0), (0, 8), (0, 8),
  (9, 0), (0, 4), (0, 4), (0, 8), (0, 8), (0, 6), (0, 6), (0, 6), (0, 6), (0, 6), (0, 24), (0, 16), (0, 64), (0, 64), (0, 64), (0, 64), (0, 16), (0, 4), (0, 4), (1, 4), (1, 4), (0, 4), (0, 32), (0, 4), (0, 64)]
def k0 (o : Nat) : Nat × Nat := K0.getD o (0, 0)
def r0 (o k : Nat) : Option Nat :=
  if o = 0 then [some 1, some 2, some 39, some 58].getD k none
  else if o = 2 then (if k < 4 then some (3 + 9 * k) else none)
  else if o = 39 then (if k < 6 then some (40 + 3 * k) else none)
  else if o = 58 then [some 59, some 60].getD k none
  else if o = 61 then (if k < 24 then some (62 + k) else none)
  else if (k0 o).1 = 5 then [some (o + 1), some (o + 2), some (o + 3), some (o + 4), some (o + 5), some (o + 6), some (o + 8)].getD k none
  else if (k0 o).1 = 8 ∨ (k0 o).1 = 6 then (if k = 0 then some (o + 1) else none)
  else none
abbrev Hp : Type := Nat → Nat → Int32
abbrev w0 (h : Hp) : Wd := (86, k0, r0, h)
theorem kP : ∀ {j : Nat}, j < 4 → (k0 (3 + 9 * j)).1 = 1 + 4 := by decide
theorem kA4 : ∀ {j : Nat}, j < 4 → k0 (4 + 9 * j) = (0, 16) := by decide
theorem kA5 : ∀ {j : Nat}, j < 4 → k0 (5 + 9 * j) = (0, 16) := by decide
theorem kA6 : ∀ {j : Nat}, j < 4 → k0 (6 + 9 * j) = (0, 16) := by decide
theorem kA7 : ∀ {j : Nat}, j < 4 → k0 (7 + 9 * j) = (0, 4) := by decide
theorem kA8 : ∀ {j : Nat}, j < 4 → k0 (8 + 9 * j) = (0, 4) := by decide
theorem kV9 : ∀ {j : Nat}, j < 4 → (k0 (9 + 9 * j)).1 = 4 + 4 := by decide
theorem kA10 : ∀ {j : Nat}, j < 4 → k0 (10 + 9 * j) = (0, 8) := by decide
theorem kA11 : ∀ {j : Nat}, j < 4 → k0 (11 + 9 * j) = (0, 16) := by decide
theorem kQ : ∀ {i : Nat}, i < 6 → (k0 (40 + 3 * i)).1 = 2 + 4 := by decide
theorem kV41 : ∀ {i : Nat}, i < 6 → (k0 (41 + 3 * i)).1 = 4 + 4 := by decide
theorem kA42 : ∀ {i : Nat}, i < 6 → k0 (42 + 3 * i) = (0, 4) := by decide
theorem rPs : ∀ {j : Nat}, j < 4 → r0 2 j = some (3 + 9 * j) := by decide
theorem rQs : ∀ {i : Nat}, i < 6 → r0 39 i = some (40 + 3 * i) := by decide
theorem rP0 : ∀ {j : Nat}, j < 4 → r0 (3 + 9 * j) 0 = some (4 + 9 * j) := by decide
theorem rP1 : ∀ {j : Nat}, j < 4 → r0 (3 + 9 * j) 1 = some (5 + 9 * j) := by decide
theorem rP2 : ∀ {j : Nat}, j < 4 → r0 (3 + 9 * j) 2 = some (6 + 9 * j) := by decide
theorem rP3 : ∀ {j : Nat}, j < 4 → r0 (3 + 9 * j) 3 = some (7 + 9 * j) := by decide
theorem rP4 : ∀ {j : Nat}, j < 4 → r0 (3 + 9 * j) 4 = some (8 + 9 * j) := by decide
theorem rP5 : ∀ {j : Nat}, j < 4 → r0 (3 + 9 * j) 5 = some (9 + 9 * j) := by decide
theorem rP6 : ∀ {j : Nat}, j < 4 → r0 (3 + 9 * j) 6 = some (11 + 9 * j) := by decide
theorem rV9 : ∀ {j : Nat}, j < 4 → r0 (9 + 9 * j) 0 = some (10 + 9 * j) := by decide
theorem rQ0 : ∀ {i : Nat}, i < 6 → r0 (40 + 3 * i) 0 = some (41 + 3 * i) := by decide
theorem rV41 : ∀ {i : Nat}, i < 6 → r0 (41 + 3 * i) 0 = some (42 + 3 * i) := by decide
theorem refs0 (h : Hp) : RefsOK (w0 h) := by
  intro j i o ho
  have ho : r0 j i = some o := ho
  show o < 86
  have hk : ∀ j, j < 86 → ((k0 j).1 = 5 → j + 8 < 86) ∧ (((k0 j).1 = 8 ∨ (k0 j).1 = 6) → j + 1 < 86) := by decide
  have hbig : ∀ j, 86 ≤ j → k0 j = (0, 0) := by
    intro j hj
    unfold k0
    rw [List.getD_eq_getElem?_getD, List.getElem?_eq_none (by show 86 ≤ j; exact hj)]
    rfl
  unfold r0 at ho
  split at ho
  · rcases i with _ | _ | _ | _ | i <;> simp at ho <;> omega
  split at ho
  · split at ho
    · cases ho; omega
    · cases ho
  split at ho
  · split at ho
    · cases ho; omega
    · cases ho
  split at ho
  · rcases i with _ | _ | i <;> simp at ho <;> omega
  split at ho
  · split at ho
    · cases ho; omega
    · cases ho
  split at ho
  · rename_i h5
    have hj : j < 86 := by
      apply Nat.lt_of_not_le
      intro hj
      rw [hbig j hj] at h5
      cases h5
    have := (hk j hj).1 h5
    rcases i with _ | _ | _ | _ | _ | _ | _ | i <;> simp at ho <;> omega
  split at ho
  · rename_i h5
    have hj : j < 86 := by
      apply Nat.lt_of_not_le
      intro hj
      rw [hbig j hj] at h5
      rcases h5 with h5 | h5 <;> cases h5
    have := (hk j hj).2 h5
    split at ho
    · cases ho; omega
    · cases ho
  · cases ho
/-! truth as a number; what a call leaves on the stack -/
def bI (c : Prop) [Decidable c] : Int32 := if c then 1 else 0
theorem bI_t {c : Prop} [Decidable c] (h : c) : bI c = 1 := if_pos h
theorem bI_f {c : Prop} [Decidable c] (h : ¬ c) : bI c = 0 := if_neg h
theorem bI_nar {c : Prop} [Decidable c] : narrow .boolean (.int (bI c)) = .int (bI c) := by
  by_cases h : c
  · rw [bI_t h]; rfl
  · rw [bI_f h]; rfl
theorem bI_vp {c : Prop} [Decidable c] : vp_nar .boolean (bI c) = bI c := by
  by_cases h : c
  · rw [bI_t h]; rfl
  · rw [bI_f h]; rfl
theorem bI_eq0 {c : Prop} [Decidable c] : bI c = 0 ↔ ¬ c := by
  by_cases h : c
  · rw [bI_t h]; exact ⟨fun z => absurd z (by decide), fun z => absurd h z⟩
  · rw [bI_f h]; exact ⟨fun _ => h, fun _ => rfl⟩
theorem bI_ne0 {c : Prop} [Decidable c] : ¬ bI c = 0 ↔ c := by
  rw [bI_eq0]; exact Decidable.not_not
theorem bI_congr {c e : Prop} [Decidable c] [Decidable e] (h : c ↔ e) : bI c = bI e := by
  by_cases hc : c
  · rw [bI_t hc, bI_t (h.mp hc)]
  · rw [bI_f hc, bI_f (fun z => hc (h.mpr z))]
section XB
variable {u : Mi} {d : Nat} {E : En} {cl sl : Nat} {ad : Nat → Nat} {w : Wd} {lv : List (Nat × AV)} {st : List AV}
theorem x_st1 {pc : Nat} {v : Int32} (k : X E cl sl ad w pc lv (.inl v :: st)) : X E cl sl ad w pc lv ((some v).toList.map .inl ++ st) := k
theorem x_st0 {pc : Nat} (k : X E cl sl ad w pc lv st) : X E cl sl ad w pc lv ((none : Option Int32).toList.map .inl ++ st) := k
/-- a branch over a truth -/
theorem x_ifB_eq (a : Amb u d E) (pc tgt : Nat) {off : Int} {c : Prop} [Decidable c] (hdg : decode u.2.1 pc = .ok (.ifCond .eq off, 3)) (ht : (pc : Int) + off = (tgt : Int)) (kt : ¬ c → X E cl sl ad w tgt lv st) (kf : c → X E cl sl ad w (pc + 3) lv st) : X E cl sl ad w pc lv (.inl (bI c) :: st) :=
  x_if_eq a pc tgt hdg ht (fun z => kt (bI_eq0.mp z)) (fun z => kf (bI_ne0.mp z))
theorem x_ifB_ne (a : Amb u d E) (pc tgt : Nat) {off : Int} {c : Prop} [Decidable c] (hdg : decode u.2.1 pc = .ok (.ifCond .ne off, 3)) (ht : (pc : Int) + off = (tgt : Int)) (kt : c → X E cl sl ad w tgt lv st) (kf : ¬ c → X E cl sl ad w (pc + 3) lv st) : X E cl sl ad w pc lv (.inl (bI c) :: st) :=
  x_if_ne a pc tgt hdg ht (fun z => kt (bI_ne0.mp z)) (fun z => kf (bI_eq0.mp z))
theorem x_push {pc : Nat} {x y : Int32} (h : x = y) (k : X E cl sl ad w pc lv (.inl y :: st)) : X E cl sl ad w pc lv (.inl x :: st) := h ▸ k
theorem x_w {pc : Nat} {w' : Wd} (h : w = w') (k : X E cl sl ad w' pc lv st) : X E cl sl ad w pc lv st := h ▸ k
end XB
theorem up2_s (h : Hp) (o k : Nat) (x : Int32) : up2 h o k x o k = x := by simp [up2, upd]
theorem up2_k (h : Hp) (o : Nat) {k j : Nat} (x : Int32) (hj : j ≠ k) : up2 h o k x o j = h o j := by simp [up2, upd, hj]
theorem up2_o (h : Hp) {o a : Nat} (k : Nat) (x : Int32) (ha : a ≠ o) : up2 h o k x a = h a := by simp [up2, ha]
