theorem up2_e (h : Hp) (o : Nat) {k j : Nat} (x : Int32) (hj : j = k) : up2 h o k x o j = x := by rw [hj, up2_s]
theorem mshift_at (h : Hp) (o b : Nat) : ∀ n k, mshift h o b n o k = if b ≤ k ∧ k < b + n then h o (k + 1) else h o k
  | 0, k => by rw [mshift, if_neg (by omega)]
  | n + 1, k => by
    rw [mshift]
    by_cases hk : k = b + n
    · subst hk
      rw [up2_s, mshift_at h o b n, if_neg (by omega), if_pos (by omega)]
    · rw [up2_k _ _ _ hk, mshift_at h o b n]
      by_cases h2 : b ≤ k ∧ k < b + n
      · rw [if_pos h2, if_pos (by omega)]
      · rw [if_neg h2, if_neg (by omega)]
theorem qix_ne {f i c len : Nat} (hf : f < len) (hi : i < c) (hc : c < len) : qix f i len ≠ qix f c len := by
  unfold qix
  split <;> split <;> omega
theorem qix_succ {f i len : Nat} (hf : f < len) (hi : i < len) : qix (if f + 1 < len then f + 1 else 0) i len = qix f (i + 1) len := by
  unfold qix
  split <;> split <;> split <;> omega
theorem qix_0 {f len : Nat} (hf : f < len) : qix f 0 len = f := by
  unfold qix
  rw [if_pos (by omega)]
  rfl
theorem sim_mem {c m : Hp} {B : Nat} (h : R2 c m B) {k : Nat} {v : Int32} : R2 (up2 c 1 k v) (up2 m 76 k v) B := by
  refine h.mk ?_ (fun i hi z => z.cg ((Ag.rf).up (by omega)) ((Ag.rf).up (by omega))) (fun i hi z => z.cg ((Ag.rf).up (by omega)) ((Ag.rf).up (by omega))) (fun i hi z => z.cg ((Ag.rf).up (by omega)) ((Ag.rf).up (by omega))) (fun i hi z => z.cg ((Ag.rf).up (by omega)) ((Ag.rf).up (by omega))) (fun i hi z => z.cg ((Ag.rf).up (by omega)) ((Ag.rf).up (by omega))) (fun i hi z => z.cg ((Ag.rf).up (by omega)) ((Ag.rf).up (by omega))) (fun i hi z => z.cg ((Ag.rf).up (by omega)) ((Ag.rf).up (by omega))) (fun i hi z => z.cg ((Ag.rf).up (by omega)) ((Ag.rf).up (by omega))) (fun i hi z => z.cg ((Ag.rf).up (by omega)) ((Ag.rf).up (by omega))) (fun z => z.cg ((Ag.rf).up (by omega)) ((Ag.rf).up (by omega))) (fun z => z.cg ((Ag.rf).up (by omega)) ((Ag.rf).up (by omega))) (fun z => z.cg ((Ag.rf).up (by omega)) ((Ag.rf).up (by omega))) (fun z => z.cg ((Ag.rf).up (by omega)) ((Ag.rf).up (by omega)))
  · intro z i hi
    by_cases e : i = k
    · rw [up2_e _ _ _ e, up2_e _ _ _ e]
    · rw [up2_k _ _ _ e, up2_k _ _ _ e]
      exact z i hi
theorem sim_reg {c m : Hp} {B : Nat} (h : R2 c m B) {j x : Nat} {v : Int32} (hj : j < 4) (hx : x < 4) : R2 (up2 c (8 + 9 * j) x v) (up2 m 77 (4 * j + x) v) B := by
  refine h.mk (fun z => z.cg ((Ag.rf).up (by omega)) ((Ag.rf).up (by omega))) (fun i hi z => z.cg ((Ag.rf).up (by omega)) ((Ag.rf).up (by omega))) (fun i hi z => z.cg ((Ag.rf).up (by omega)) ((Ag.rf).up (by omega))) (fun i hi z => z.cg ((Ag.rf).up (by omega)) ((Ag.rf).up (by omega))) ?_ (fun i hi z => z.cg ((Ag.rf).up (by omega)) ((Ag.rf).up (by omega))) (fun i hi z => z.cg ((Ag.rf).up (by omega)) ((Ag.rf).up (by omega))) (fun i hi z => z.cg ((Ag.rf).up (by omega)) ((Ag.rf).up (by omega))) (fun i hi z => z.cg ((Ag.rf).up (by omega)) ((Ag.rf).up (by omega))) (fun i hi z => z.cg ((Ag.rf).up (by omega)) ((Ag.rf).up (by omega))) (fun z => z.cg ((Ag.rf).up (by omega)) ((Ag.rf).up (by omega))) (fun z => z.cg ((Ag.rf).up (by omega)) ((Ag.rf).up (by omega))) (fun z => z.cg ((Ag.rf).up (by omega)) ((Ag.rf).up (by omega))) (fun z => z.cg ((Ag.rf).up (by omega)) ((Ag.rf).up (by omega)))
  · intro i hi z y hy
    by_cases e : i = j
    · subst e
      by_cases e2 : y = x
      · rw [up2_e _ _ _ e2, up2_e _ _ _ (by omega)]
      · rw [up2_k _ _ _ e2, up2_k _ _ _ (by omega)]
        exact z y hy
    · rw [up2_o _ _ _ (by omega), up2_k _ _ _ (by omega)]
      exact z y hy
theorem sim_place {c m : Hp} {B : Nat} (h : R2 c m B) {j : Nat} {v : Int32} (hj : j < 4) : R2 (up2 c (3 + 9 * j) 9 v) (up2 m 78 j v) B := by
  refine h.mk (fun z => z.cg ((Ag.rf).up (by omega)) ((Ag.rf).up (by omega))) (fun i hi z => z.cg ((Ag.rf).up (by omega)) ((Ag.rf).up (by omega))) (fun i hi z => z.cg ((Ag.rf).up (by omega)) ((Ag.rf).up (by omega))) (fun i hi z => z.cg ((Ag.rf).up (by omega)) ((Ag.rf).up (by omega))) (fun i hi z => z.cg ((Ag.rf).up (by omega)) ((Ag.rf).up (by omega))) ?_ (fun i hi z => z.cg ((Ag.rf).up (by omega)) ((Ag.rf).up (by omega))) (fun i hi z => z.cg ((Ag.rf).up (by omega)) ((Ag.rf).up (by omega))) (fun i hi z => z.cg ((Ag.rf).up (by omega)) ((Ag.rf).up (by omega))) (fun i hi z => z.cg ((Ag.rf).up (by omega)) ((Ag.rf).up (by omega))) (fun z => z.cg ((Ag.rf).up (by omega)) ((Ag.rf).up (by omega))) (fun z => z.cg ((Ag.rf).up (by omega)) ((Ag.rf).up (by omega))) (fun z => z.cg ((Ag.rf).up (by omega)) ((Ag.rf).up (by omega))) (fun z => z.cg ((Ag.rf).up (by omega)) ((Ag.rf).up (by omega)))
  · intro i hi z
    by_cases e : i = j
    · subst e
      refine ⟨?_, ?_, ?_⟩
      · rw [up2_s, up2_s]
      · rw [up2_k _ _ _ (by decide), up2_o _ _ _ (by decide)]; exact z.2.1
      · rw [up2_k _ _ _ (by decide), up2_o _ _ _ (by decide)]; exact z.2.2
    · exact z.cg (Ag.rf.up (by omega)) (Ag.rf.up (by omega))
theorem sim_run {c m : Hp} {B : Nat} (h : R2 c m B) {j : Nat} {v : Int32} (hj : j < 4) : R2 (up2 c (3 + 9 * j) 10 v) (up2 m 80 j v) B := by
  refine h.mk (fun z => z.cg ((Ag.rf).up (by omega)) ((Ag.rf).up (by omega))) (fun i hi z => z.cg ((Ag.rf).up (by omega)) ((Ag.rf).up (by omega))) (fun i hi z => z.cg ((Ag.rf).up (by omega)) ((Ag.rf).up (by omega))) (fun i hi z => z.cg ((Ag.rf).up (by omega)) ((Ag.rf).up (by omega))) (fun i hi z => z.cg ((Ag.rf).up (by omega)) ((Ag.rf).up (by omega))) ?_ (fun i hi z => z.cg ((Ag.rf).up (by omega)) ((Ag.rf).up (by omega))) (fun i hi z => z.cg ((Ag.rf).up (by omega)) ((Ag.rf).up (by omega))) (fun i hi z => z.cg ((Ag.rf).up (by omega)) ((Ag.rf).up (by omega))) (fun i hi z => z.cg ((Ag.rf).up (by omega)) ((Ag.rf).up (by omega))) (fun z => z.cg ((Ag.rf).up (by omega)) ((Ag.rf).up (by omega))) (fun z => z.cg ((Ag.rf).up (by omega)) ((Ag.rf).up (by omega))) (fun z => z.cg ((Ag.rf).up (by omega)) ((Ag.rf).up (by omega))) (fun z => z.cg ((Ag.rf).up (by omega)) ((Ag.rf).up (by omega)))
  · intro i hi z
    by_cases e : i = j
    · subst e
      refine ⟨?_, ?_, ?_⟩
      · rw [up2_k _ _ _ (by decide), up2_o _ _ _ (by decide)]; exact z.1
      · rw [up2_s, up2_s]
      · rw [up2_k _ _ _ (by decide), up2_o _ _ _ (by decide)]; exact z.2.2
    · exact z.cg (Ag.rf.up (by omega)) (Ag.rf.up (by omega))
theorem sim_flt {c m : Hp} {B : Nat} (h : R2 c m B) {j : Nat} {v : Int32} (hj : j < 4) : R2 (up2 c (3 + 9 * j) 11 v) (up2 m 79 j v) B := by
  refine h.mk (fun z => z.cg ((Ag.rf).up (by omega)) ((Ag.rf).up (by omega))) (fun i hi z => z.cg ((Ag.rf).up (by omega)) ((Ag.rf).up (by omega))) (fun i hi z => z.cg ((Ag.rf).up (by omega)) ((Ag.rf).up (by omega))) (fun i hi z => z.cg ((Ag.rf).up (by omega)) ((Ag.rf).up (by omega))) (fun i hi z => z.cg ((Ag.rf).up (by omega)) ((Ag.rf).up (by omega))) ?_ (fun i hi z => z.cg ((Ag.rf).up (by omega)) ((Ag.rf).up (by omega))) (fun i hi z => z.cg ((Ag.rf).up (by omega)) ((Ag.rf).up (by omega))) (fun i hi z => z.cg ((Ag.rf).up (by omega)) ((Ag.rf).up (by omega))) (fun i hi z => z.cg ((Ag.rf).up (by omega)) ((Ag.rf).up (by omega))) (fun z => z.cg ((Ag.rf).up (by omega)) ((Ag.rf).up (by omega))) (fun z => z.cg ((Ag.rf).up (by omega)) ((Ag.rf).up (by omega))) (fun z => z.cg ((Ag.rf).up (by omega)) ((Ag.rf).up (by omega))) (fun z => z.cg ((Ag.rf).up (by omega)) ((Ag.rf).up (by omega)))
  · intro i hi z
    by_cases e : i = j
    · subst e
      refine ⟨?_, ?_, ?_⟩
      · rw [up2_k _ _ _ (by decide), up2_o _ _ _ (by decide)]; exact z.1
      · rw [up2_k _ _ _ (by decide), up2_o _ _ _ (by decide)]; exact z.2.1
      · rw [up2_s, up2_s]
    · exact z.cg (Ag.rf.up (by omega)) (Ag.rf.up (by omega))
theorem sim_wait {c m : Hp} {B : Nat} (h : R2 c m B) {j : Nat} {v : Int32} (hj : j < 4) (hs : ¬ m 61 26 = 0) (hw : j = tn (m 64 (tn (m 61 27)))) : R2 (up2 c 58 6 v) (up2 m 81 j v) B := by
  refine h.mk (fun z => z.cg ((Ag.rf).up (by omega)) ((Ag.rf).up (by omega))) (fun i hi z => z.cg ((Ag.rf).up (by omega)) ((Ag.rf).up (by omega))) (fun i hi z => z.cg ((Ag.rf).up (by omega)) ((Ag.rf).up (by omega))) (fun i hi z => z.cg ((Ag.rf).up (by omega)) ((Ag.rf).up (by omega))) (fun i hi z => z.cg ((Ag.rf).up (by omega)) ((Ag.rf).up (by omega))) (fun i hi z => z.cg ((Ag.rf).up (by omega)) ((Ag.rf).up (by omega))) (fun i hi z => z.cg ((Ag.rf).up (by omega)) ((Ag.rf).up (by omega))) (fun i hi z => z.cg ((Ag.rf).up (by omega)) ((Ag.rf).up (by omega))) (fun i hi z => z.cg ((Ag.rf).up (by omega)) ((Ag.rf).up (by omega))) (fun i hi z => z.cg ((Ag.rf).up (by omega)) ((Ag.rf).up (by omega))) (fun z => z.cg ((Ag.rf).up (by omega)) ((Ag.rf).up (by omega))) (fun z => z.cg ((Ag.rf).up (by omega)) ((Ag.rf).up (by omega))) (fun z => z.cg ((Ag.rf).up (by omega)) ((Ag.rf).up (by omega))) ?_
  · intro z _
    obtain ⟨a1, a2, a3⟩ := z hs
    refine ⟨a1, a2, fun p hp => ?_⟩
    simp (disch := omega) only [up2_o, up2_s]
    by_cases e : p = j
    · rw [up2_e _ _ _ e, if_pos (by rw [e]; exact hw)]
    · rw [up2_k _ _ _ e, a3 p hp, if_neg (by rw [← hw]; exact e), if_neg (by rw [← hw]; exact e)]
theorem sim_out1 {c m : Hp} {B : Nat} (h : R2 c m B) {j n : Nat} {v : Int32} (hj : j < 4) (hn : n < 16) : R2 (up2 c (11 + 9 * j) n v) (up2 m 85 (16 * j + n) v) B := by
  refine h.mk (fun z => z.cg ((Ag.rf).up (by omega)) ((Ag.rf).up (by omega))) (fun i hi z => z.cg ((Ag.rf).up (by omega)) ((Ag.rf).up (by omega))) (fun i hi z => z.cg ((Ag.rf).up (by omega)) ((Ag.rf).up (by omega))) (fun i hi z => z.cg ((Ag.rf).up (by omega)) ((Ag.rf).up (by omega))) (fun i hi z => z.cg ((Ag.rf).up (by omega)) ((Ag.rf).up (by omega))) (fun i hi z => z.cg ((Ag.rf).up (by omega)) ((Ag.rf).up (by omega))) ?_ (fun i hi z => z.cg ((Ag.rf).up (by omega)) ((Ag.rf).up (by omega))) (fun i hi z => z.cg ((Ag.rf).up (by omega)) ((Ag.rf).up (by omega))) (fun i hi z => z.cg ((Ag.rf).up (by omega)) ((Ag.rf).up (by omega))) (fun z => z.cg ((Ag.rf).up (by omega)) ((Ag.rf).up (by omega))) (fun z => z.cg ((Ag.rf).up (by omega)) ((Ag.rf).up (by omega))) (fun z => z.cg ((Ag.rf).up (by omega)) ((Ag.rf).up (by omega))) (fun z => z.cg ((Ag.rf).up (by omega)) ((Ag.rf).up (by omega)))
  · intro i hi z
    refine ⟨?_, ?_, fun y hy => ?_⟩
    · rw [up2_o _ _ _ (by omega), up2_o _ _ _ (by decide)]
      exact z.1
    · rw [up2_o _ _ _ (by decide)]
      exact z.2.1
    · by_cases e : i = j
      · subst e
        by_cases e2 : y = n
        · rw [up2_e _ _ _ e2, up2_e _ _ _ (by omega)]
        · rw [up2_k _ _ _ e2, up2_k _ _ _ (by omega)]
          exact z.2.2 y hy
      · rw [up2_o _ _ _ (by omega), up2_k _ _ _ (by omega)]
        exact z.2.2 y hy
theorem sim_out2 {c m : Hp} {B : Nat} (h : R2 c m B) {j n : Nat} (hj : j < 4) (hn : n < B + 1) (hB : B < 2 ^ 30) : R2 (up2 c (3 + 9 * j) 12 (nI (n + 1))) (up2 m 84 j (nI (n + 1))) (B + 1) := by
  refine h.mk (fun z => z.cg ((Ag.rf).up (by omega)) ((Ag.rf).up (by omega))) (fun i hi z => z.cg ((Ag.rf).up (by omega)) ((Ag.rf).up (by omega))) (fun i hi z => z.cg ((Ag.rf).up (by omega)) ((Ag.rf).up (by omega))) (fun i hi z => z.cg ((Ag.rf).up (by omega)) ((Ag.rf).up (by omega))) (fun i hi z => z.cg ((Ag.rf).up (by omega)) ((Ag.rf).up (by omega))) (fun i hi z => z.cg ((Ag.rf).up (by omega)) ((Ag.rf).up (by omega))) ?_ (fun i hi z => z.cg ((Ag.rf).up (by omega)) ((Ag.rf).up (by omega))) (fun i hi z => z.cg ((Ag.rf).up (by omega)) ((Ag.rf).up (by omega))) (fun i hi z => z.cg ((Ag.rf).up (by omega)) ((Ag.rf).up (by omega))) (fun z => z.cg ((Ag.rf).up (by omega)) ((Ag.rf).up (by omega))) (fun z => z.cg ((Ag.rf).up (by omega)) ((Ag.rf).up (by omega))) (fun z => z.cg ((Ag.rf).up (by omega)) ((Ag.rf).up (by omega))) (fun z => z.cg ((Ag.rf).up (by omega)) ((Ag.rf).up (by omega)))
  · intro i hi z
    by_cases e : i = j
    · subst e
      refine ⟨?_, ?_, fun y hy => ?_⟩
      · rw [up2_s, up2_s]
      · rw [up2_s]
        exact Nlt.of rfl (by omega) (by omega)
      · rw [up2_o _ _ _ (by omega), up2_o _ _ _ (by decide)]
        exact z.2.2 y hy
    · have w := z.cg (c' := up2 c (3 + 9 * j) 12 (nI (n + 1))) (m' := up2 m 84 j (nI (n + 1))) (Ag.rf.up (by omega)) (Ag.rf.up (by omega))
      exact ⟨w.1, ⟨Nat.lt_trans w.2.1.1 (by omega), w.2.1.2⟩, w.2.2⟩
theorem R2.mono {c m : Hp} {B B' : Nat} (h : R2 c m B) (hB : B ≤ B') : R2 c m B' := h.mk (fun z => z) (fun _ _ z => z) (fun _ _ z => z) (fun _ _ z => z) (fun _ _ z => z) (fun _ _ z => z) (fun _ _ z => ⟨z.1, ⟨by have := z.2.1.1; omega, z.2.1.2⟩, z.2.2⟩) (fun _ _ z => z) (fun _ _ z => z) (fun _ _ z => z) (fun z => z) (fun z => z) (fun z => z) (fun z => z)
theorem sim_input {c m : Hp} {B : Nat} (h : R2 c m B) {j : Nat} {v : Int32} (hj : j < 4) (hc : tn (m 82 j) < 8) : R2 (up2 (up2 c (10 + 9 * j) (qix (tn (c (9 + 9 * j) 1)) (tn (m 82 j)) 8) v) (9 + 9 * j) 2 (nI (tn (m 82 j) + 1))) (up2 (up2 m 83 (8 * j + tn (m 82 j)) v) 82 j (nI (tn (m 82 j) + 1))) B := by
  refine h.mk (fun z => z.cg (((Ag.rf).up (by omega)).up (by omega)) (((Ag.rf).up (by omega)).up (by omega))) (fun i hi z => z.cg (((Ag.rf).up (by omega)).up (by omega)) (((Ag.rf).up (by omega)).up (by omega))) (fun i hi z => z.cg (((Ag.rf).up (by omega)).up (by omega)) (((Ag.rf).up (by omega)).up (by omega))) (fun i hi z => z.cg (((Ag.rf).up (by omega)).up (by omega)) (((Ag.rf).up (by omega)).up (by omega))) (fun i hi z => z.cg (((Ag.rf).up (by omega)).up (by omega)) (((Ag.rf).up (by omega)).up (by omega))) (fun i hi z => z.cg (((Ag.rf).up (by omega)).up (by omega)) (((Ag.rf).up (by omega)).up (by omega))) (fun i hi z => z.cg (((Ag.rf).up (by omega)).up (by omega)) (((Ag.rf).up (by omega)).up (by omega))) ?_ (fun i hi z => z.cg (((Ag.rf).up (by omega)).up (by omega)) (((Ag.rf).up (by omega)).up (by omega))) (fun i hi z => z.cg (((Ag.rf).up (by omega)).up (by omega)) (((Ag.rf).up (by omega)).up (by omega))) (fun z => z.cg (((Ag.rf).up (by omega)).up (by omega)) (((Ag.rf).up (by omega)).up (by omega))) (fun z => z.cg (((Ag.rf).up (by omega)).up (by omega)) (((Ag.rf).up (by omega)).up (by omega))) (fun z => z.cg (((Ag.rf).up (by omega)).up (by omega)) (((Ag.rf).up (by omega)).up (by omega))) (fun z => z.cg (((Ag.rf).up (by omega)).up (by omega)) (((Ag.rf).up (by omega)).up (by omega)))
  · intro i hi z
    by_cases e : i = j
    · subst e
      obtain ⟨a1, a2, a3, a4⟩ := z
      refine ⟨?_, ?_, ?_, ?_⟩
      · rw [up2_k _ _ _ (by decide), up2_o _ _ _ (by omega)]
        exact a1
      · rw [up2_s]
        exact Nlt.of rfl (by omega) (by decide)
      · rw [up2_s, up2_s]
      · rw [up2_s, tn_nI (by omega)]
        intro t ht
        simp (disch := omega) only [up2_o, up2_k]
        by_cases e2 : t = tn (m 82 i)
        · subst e2
          rw [up2_s, up2_s]
        · rw [up2_k _ _ _ (qix_ne a1.1 (by omega) hc), up2_k _ _ _ (by omega)]
          exact a4 t (by omega)
    · exact z.cg ((Ag.rf.up (by omega)).up (by omega)) ((Ag.rf.up (by omega)).up (by omega))
theorem Ag.shift {S : Nat → Nat → Prop} {m m' : Hp} (a : Ag S m m') {o b n : Nat} (h : ∀ k, b ≤ k → k < b + n → ¬ S o k) : Ag S m (mshift m' o b n) := by
  intro o' k' hs
  by_cases ho : o' = o
  · subst ho
    rw [mshift_at, if_neg (fun z => h k' z.1 z.2 hs)]
    exact a _ _ hs
  · rw [mshift_o _ ho]
    exact a _ _ hs
theorem sim_take {c m : Hp} {B : Nat} (h : R2 c m B) {j : Nat} (hj : j < 4) (hc : 0 < tn (m 82 j)) : R2 (up2 (up2 c (9 + 9 * j) 1 (nI (if tn (c (9 + 9 * j) 1) + 1 < 8 then tn (c (9 + 9 * j) 1) + 1 else 0))) (9 + 9 * j) 2 (nI (tn (m 82 j) - 1))) (mshift (up2 m 82 j (nI (tn (m 82 j) - 1))) 83 (8 * j) (tn (m 82 j) - 1)) B := by
  refine h.mk (fun z => z.cg (((Ag.rf).up (by omega)).up (by omega)) (((Ag.rf).up (by omega)).shift (fun k h1 h2 => by omega))) (fun i hi z => z.cg (((Ag.rf).up (by omega)).up (by omega)) (((Ag.rf).up (by omega)).shift (fun k h1 h2 => by omega))) (fun i hi z => z.cg (((Ag.rf).up (by omega)).up (by omega)) (((Ag.rf).up (by omega)).shift (fun k h1 h2 => by omega))) (fun i hi z => z.cg (((Ag.rf).up (by omega)).up (by omega)) (((Ag.rf).up (by omega)).shift (fun k h1 h2 => by omega))) (fun i hi z => z.cg (((Ag.rf).up (by omega)).up (by omega)) (((Ag.rf).up (by omega)).shift (fun k h1 h2 => by omega))) (fun i hi z => z.cg (((Ag.rf).up (by omega)).up (by omega)) (((Ag.rf).up (by omega)).shift (fun k h1 h2 => by omega))) (fun i hi z => z.cg (((Ag.rf).up (by omega)).up (by omega)) (((Ag.rf).up (by omega)).shift (fun k h1 h2 => by omega))) ?_ (fun i hi z => z.cg (((Ag.rf).up (by omega)).up (by omega)) (((Ag.rf).up (by omega)).shift (fun k h1 h2 => by omega))) (fun i hi z => z.cg (((Ag.rf).up (by omega)).up (by omega)) (((Ag.rf).up (by omega)).shift (fun k h1 h2 => by omega))) (fun z => z.cg (((Ag.rf).up (by omega)).up (by omega)) (((Ag.rf).up (by omega)).shift (fun k h1 h2 => by omega))) (fun z => z.cg (((Ag.rf).up (by omega)).up (by omega)) (((Ag.rf).up (by omega)).shift (fun k h1 h2 => by omega))) (fun z => z.cg (((Ag.rf).up (by omega)).up (by omega)) (((Ag.rf).up (by omega)).shift (fun k h1 h2 => by omega))) (fun z => z.cg (((Ag.rf).up (by omega)).up (by omega)) (((Ag.rf).up (by omega)).shift (fun k h1 h2 => by omega)))
  · intro i hi z
    have z9 := z.2.1.1
    by_cases e : i = j
    · subst e
      obtain ⟨a1, a2, a3, a4⟩ := z
      have a11 := a1.1
      refine ⟨?_, ?_, ?_, ?_⟩
      · rw [up2_k _ _ _ (by decide), up2_s]
        exact Nlt.of rfl (by split <;> omega) (by decide)
      · rw [mshift_o _ (by decide), up2_s]
        exact Nlt.of rfl (by omega) (by decide)
      · rw [up2_s, mshift_o _ (by decide), up2_s]
      · rw [mshift_o _ (by decide), up2_s, tn_nI (by omega)]
        intro t ht
        simp (disch := omega) only [up2_o, up2_k, up2_s]
        rw [tn_nI (by split <;> omega), qix_succ a1.1 (by omega), mshift_at, if_pos (by omega), up2_o _ _ _ (by decide), a4 (t + 1) (by omega)]
        rfl
    · have hn : tn (m 82 j) < 9 := (h.2.1 j hj).2.2.2.2.2.2.2.1.1
      exact z.cg ((Ag.rf.up (by omega)).up (by omega)) ((Ag.rf.up (by omega)).shift (fun k h1 h2 => by omega))
