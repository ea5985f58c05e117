/-! the constructors: worlds that grow along k0 -/
def rN : Nat → Nat → Option Nat := fun _ _ => none
def hZ : Hp := fun _ _ => 0
def AG (n0 : Nat) (ad ad0 : Nat → Nat) : Prop := ∀ o, o < n0 ∨ 1000 ≤ o → ad o = ad0 o
theorem AG.rf {n0 : Nat} {ad : Nat → Nat} : AG n0 ad ad := fun _ _ => rfl
theorem AG.nx {n0 n : Nat} {ad ad' ad0 : Nat → Nat} (h : AG n0 ad ad0) (hn : n0 ≤ n) (h' : ∀ o, o < n ∨ 1000 ≤ o → ad' o = ad o) : AG n0 ad' ad0 := fun o ho => (h' o (by omega)).trans (h o ho)
theorem va_up_id {α : Type} (f : Nat → α) {n : Nat} {x : α} (h : f n = x) : va_up f n x = f := by
  funext z
  by_cases hz : z = n
  · subst hz
    rw [va_up_self, h]
  · rw [va_up_ne _ _ hz]
theorem wNew_k0 {n : Nat} {r : Nat → Nat → Option Nat} {h : Hp} {k : Nat × Nat} (hk : k0 n = k) (hr : r n = fun _ => none) (hh : h n = fun _ => 0) : wNew (n, k0, r, h) k = (n + 1, k0, r, h) := by
  show (n + 1, va_up k0 n k, va_up r n (fun _ => none), va_up h n (fun _ => 0)) = _
  rw [va_up_id _ hk, va_up_id _ hr, va_up_id _ hh]
theorem up2_hZ (o k : Nat) : up2 hZ o k 0 = hZ := by
  funext a b
  unfold up2 upd hZ
  by_cases h : a = o
  · rw [if_pos h]
    by_cases hb : b = k
    · simp [hb]
    · simp [hb]
  · rw [if_neg h]
theorem okVi {n : Nat} {x : Int32} : okV n (.inl x) := fun o h => by cases h
theorem okVo {n o : Nat} (h : o < n ∨ 1000 ≤ o) : okV n (.inr (some o)) := fun o' h' => by cases h'; exact h
theorem okLn {n : Nat} : ∀ q ∈ ([] : List (Nat × AV)), okV n q.2 := fun q h => by cases h
theorem okLc {n i : Nat} {v : AV} {l : List (Nat × AV)} (h : okV n v) (h' : ∀ q ∈ l, okV n q.2) : ∀ q ∈ ((i, v) :: l), okV n q.2 := fun q hq => by
  rcases List.mem_cons.mp hq with rfl | hq
  · exact h
  · exact h' q hq
theorem okSn {n : Nat} : ∀ q ∈ ([] : List AV), okV n q := fun q h => by cases h
theorem okSc {n : Nat} {v : AV} {l : List AV} (h : okV n v) (h' : ∀ q ∈ l, okV n q) : ∀ q ∈ (v :: l), okV n q := fun q hq => by
  rcases List.mem_cons.mp hq with rfl | hq
  · exact h
  · exact h' q hq
section YN
variable {u : Mi} {d : Nat} {E : En} {cl sl : Nat} {ad ad0 : Nat → Nat} {n n0 : Nat} {r : Nat → Nat → Option Nat} {h : Hp} {lv : List (Nat × AV)} {st : List AV}
theorem y_new (a : Amb u d E) (pc : Nat) {index ci : Nat} (hA : AG n0 ad ad0) (hn0 : n0 ≤ n) (hkn : k0 n = (ci + 4, 0)) (hr : r n = fun _ => none) (hh : h n = fun _ => 0) (hdg : decode u.2.1 pc = .ok (.new index, 3)) (hlay : LayOK ci) (hcl : Cond.classLink u.1.cls index (cls ci).1 ∈ AllW) (hinst : Cond.instantiable (cls ci).1 (cls ci).2.2 ∈ AllW) (hini : Cond.initialized (cls ci).1 ∈ AllW)
    (hdf : ∀ j, j < (cls ci).2.2 → defaultValue (fT ci j) = vp_V (fsl (fun j => if j < nR ci then Value.null else .int 0) (nF ci)) j) (hn : n < 1000) (hok : okF n lv st) (hc : cl + 1 ≤ (eR E).cells) (hs : sl + (cls ci).2.2 ≤ (eR E).slots)
    (kk : ∀ ad', AG n0 ad' ad0 → X E (cl + 1) (sl + (cls ci).2.2) ad' (n + 1, k0, r, h) (pc + 3) lv (.inr (some n) :: st)) : X E cl sl ad (n, k0, r, h) pc lv st := by
  refine x_new a pc hdg hlay hcl hinst hini hdf hn hok hc hs (fun ad' h' => ?_)
  rw [wNew_k0 hkn hr hh]
  exact kk ad' (hA.nx hn0 h')
theorem y_newi (a : Amb u d E) (pc : Nat) (N : Nat) {i : Int32} (hA : AG n0 ad ad0) (hn0 : n0 ≤ n) (hkn : k0 n = (0, N)) (hr : r n = fun _ => none) (hh : h n = fun _ => 0) (hdg : decode u.2.1 pc = .ok (.newarray .int, 2)) (hi : i = nI N) (hN : N ≤ 1000) (hn : n < 1000) (hok : okF n lv st) (hc : cl + 1 ≤ (eR E).cells) (hs : sl + N ≤ (eR E).slots)
    (kk : ∀ ad', AG n0 ad' ad0 → X E (cl + 1) (sl + N) ad' (n + 1, k0, r, h) (pc + 2) lv (.inr (some n) :: st)) : X E cl sl ad (n, k0, r, h) pc lv (.inl i :: st) := by
  refine x_newa (t := 0) a pc hdg rfl (Or.inl ⟨rfl, rfl⟩) ac_int hi hN hn hok hc hs (fun ad' h' => ?_)
  rw [wNew_k0 hkn hr hh]
  exact kk ad' (hA.nx hn0 h')
theorem y_newz (a : Amb u d E) (pc : Nat) (N : Nat) {i : Int32} (hA : AG n0 ad ad0) (hn0 : n0 ≤ n) (hkn : k0 n = (1, N)) (hr : r n = fun _ => none) (hh : h n = fun _ => 0) (hdg : decode u.2.1 pc = .ok (.newarray .boolean, 2)) (hi : i = nI N) (hN : N ≤ 1000) (hn : n < 1000) (hok : okF n lv st) (hc : cl + 1 ≤ (eR E).cells) (hs : sl + N ≤ (eR E).slots)
    (kk : ∀ ad', AG n0 ad' ad0 → X E (cl + 1) (sl + N) ad' (n + 1, k0, r, h) (pc + 2) lv (.inr (some n) :: st)) : X E cl sl ad (n, k0, r, h) pc lv (.inl i :: st) := by
  refine x_newa (t := 1) a pc hdg rfl (Or.inr ⟨rfl, rfl⟩) ac_bool hi hN hn hok hc hs (fun ad' h' => ?_)
  rw [wNew_k0 hkn hr hh]
  exact kk ad' (hA.nx hn0 h')
theorem y_newq (a : Amb u d E) (pc : Nat) (N : Nat) {index t : Nat} {i : Int32} {C : String} (hA : AG n0 ad ad0) (hn0 : n0 ≤ n) (hkn : k0 n = (t, N)) (hr : r n = fun _ => none) (hh : h n = fun _ => 0) (hdg : decode u.2.1 pc = .ok (.anewarray index, 3)) (hcl : Cond.classLink u.1.cls index C ∈ AllW) (hover : va_AO C (eS E)) (ht : (t = 2 ∧ C = R_2) ∨ (t = 3 ∧ C = R_3)) (hi : i = nI N) (hN : N ≤ 1000) (hn : n < 1000) (hok : okF n lv st) (hc : cl + 1 ≤ (eR E).cells) (hs : sl + N ≤ (eR E).slots)
    (kk : ∀ ad', AG n0 ad' ad0 → X E (cl + 1) (sl + N) ad' (n + 1, k0, r, h) (pc + 3) lv (.inr (some n) :: st)) : X E cl sl ad (n, k0, r, h) pc lv (.inl i :: st) := by
  refine x_newq a pc hdg hcl hover ht hi hN hn hok hc hs (fun ad' h' => ?_)
  rw [wNew_k0 hkn hr hh]
  exact kk ad' (hA.nx hn0 h')
end YN
theorem upR_o (r : Nat → Nat → Option Nat) {o k a : Nat} (x : Option Nat) (h : a ≠ o) : upR r o k x a = r a := if_neg h
theorem upR_s (r : Nat → Nat → Option Nat) (o k : Nat) (x : Option Nat) : upR r o k x o = va_up (r o) k x := if_pos rfl
theorem df0 : ∀ j, j < (cls 0).2.2 → defaultValue (fT 0 j) = vp_V (fsl (fun j => if j < nR 0 then Value.null else .int 0) (nF 0)) j := by decide
theorem df1 : ∀ j, j < (cls 1).2.2 → defaultValue (fT 1 j) = vp_V (fsl (fun j => if j < nR 1 then Value.null else .int 0) (nF 1)) j := by decide
theorem df2 : ∀ j, j < (cls 2).2.2 → defaultValue (fT 2 j) = vp_V (fsl (fun j => if j < nR 2 then Value.null else .int 0) (nF 2)) j := by decide
theorem df3 : ∀ j, j < (cls 3).2.2 → defaultValue (fT 3 j) = vp_V (fsl (fun j => if j < nR 3 then Value.null else .int 0) (nF 3)) j := by decide
theorem df4 : ∀ j, j < (cls 4).2.2 → defaultValue (fT 4 j) = vp_V (fsl (fun j => if j < nR 4 then Value.null else .int 0) (nF 4)) j := by decide
theorem df5 : ∀ j, j < (cls 5).2.2 → defaultValue (fT 5 j) = vp_V (fsl (fun j => if j < nR 5 then Value.null else .int 0) (nF 5)) j := by decide
set_option maxRecDepth 100000 in
set_option maxHeartbeats 4000000 in
theorem c_V_init {q len : Nat} {r : Nat → Nat → Option Nat} (hq : q < 86) (hk : (k0 q).1 = 4 + 4) (hk1 : k0 (q + 1) = (0, len)) (hl : len ≤ 8) (hr : ∀ o, q < o → r o = fun _ => none) : Cn u_V_init 1 1 len (q + 1, k0, r, hZ) [.inr (some q), .inl (nI len)] (fun v w' => v = none ∧ w' = (q + 2, k0, upR r q 0 (some (q + 1)), hZ)) := by
  refine Cn.of (by decide +kernel) (Nat.le_of_ble_eq_true rfl) (fun E ad a qf => ?_)
  have qa := qf.2.2.2
  have hC := qf.2.1
  have hSl := qf.2.2.1
  have hA : AG (q + 1) ad ad := AG.rf
  refine x_aload_n a 0 d_V_init_0 rfl ?_
  refine x_objInit a 1 d_V_init_1 o_V o_inst o_code (by decide) (Nat.le_of_ble_eq_true rfl) ?_
  refine x_aload_n a 4 d_V_init_4 rfl ?_
  refine x_iload_n a 5 d_V_init_5 rfl ?_
  refine y_newi a 6 len hA (Nat.le_refl _) hk1 (hr _ (by omega)) rfl d_V_init_6 rfl (by omega) (by omega) (by refine ⟨?_, ?_⟩ <;> repeat' first | exact okLn | exact okSn | exact okVi | exact okVo (by omega) | refine okLc ?_ ?_ | refine okSc ?_ ?_) (by omega) (by omega) (fun ad1 hA1 => ?_)
  refine x_putFR a 8 f_V_7 d_V_init_8 hk (by omega) (by decide) (by omega) rfl rfl rfl (fun _ => rfl) (fun _ => rfl) ?_
  refine x_aload_n a 11 d_V_init_11 rfl ?_
  refine x_iconst a 12 0 d_V_init_12 (by decide) ?_
  refine x_putI a 13 f_V_13 d_V_init_13 hk (by omega) (by decide) rfl rfl rfl ?_
  rw [up2_hZ]
  refine x_aload_n a 16 d_V_init_16 rfl ?_
  refine x_iconst a 17 0 d_V_init_17 (by decide) ?_
  refine x_putI a 18 f_V_17 d_V_init_18 hk (by omega) (by decide) rfl rfl rfl ?_
  rw [up2_hZ]
  exact x_vretN a qf 21 d_V_init_21 rfl hA1 (by decide) (by omega) (by omega) ⟨rfl, rfl⟩
theorem kV41x : ∀ {i : Nat}, i < 6 → k0 (41 + 3 * i) = (4 + 4, 0) := by decide
theorem kV9x : ∀ {j : Nat}, j < 4 → k0 (9 + 9 * j) = (4 + 4, 0) := by decide
theorem kPx : ∀ {j : Nat}, j < 4 → k0 (3 + 9 * j) = (1 + 4, 0) := by decide
theorem kQx : ∀ {i : Nat}, i < 6 → k0 (40 + 3 * i) = (2 + 4, 0) := by decide
set_option maxRecDepth 100000 in
set_option maxHeartbeats 4000000 in
theorem c_Q_init {i : Nat} {r : Nat → Nat → Option Nat} (hi : i < 6) (hr : ∀ o, 40 + 3 * i < o → r o = fun _ => none) : Cn u_Q_init 2 2 7 (41 + 3 * i, k0, r, hZ) [.inr (some (40 + 3 * i))] (fun v w' => v = none ∧ w' = (43 + 3 * i, k0, upR (upR r (41 + 3 * i) 0 (some (42 + 3 * i))) (40 + 3 * i) 0 (some (41 + 3 * i)), hZ)) := by
  refine Cn.of (by decide +kernel) (Nat.le_of_ble_eq_true rfl) (fun E ad a qf => ?_)
  have qa := qf.2.2.2
  have hC := qf.2.1
  have hSl := qf.2.2.1
  have hA : AG (41 + 3 * i) ad ad := AG.rf
  refine x_aload_n a 0 d_Q_init_0 rfl ?_
  refine x_objInit a 1 d_Q_init_1 o_Q o_inst o_code (by decide) (Nat.le_of_ble_eq_true rfl) ?_
  refine x_aload_n a 4 d_Q_init_4 rfl ?_
  refine y_new (ci := 4) a 5 hA (Nat.le_refl _) (kV41x hi) (hr _ (by omega)) rfl d_Q_init_5 lay4 cl_Q_9 in4 ii4 df4 (by omega) (by refine ⟨?_, ?_⟩ <;> repeat' first | exact okLn | exact okSn | exact okVi | exact okVo (by omega) | refine okLc ?_ ?_ | refine okSc ?_ ?_) (by omega) (show 0 + 3 ≤ _ by omega) (fun ad1 hA1 => ?_)
  refine x_dup a 8 d_Q_init_8 ?_
  refine x_iconst a 9 (nI 4) d_Q_init_9 (by decide) ?_
  refine x_callI a qa 10 g_Q_11 d_Q_init_10 (c_V_init (q := 41 + 3 * i) (len := 4) (by omega) (kV41 hi) (by rw [show 41 + 3 * i + 1 = 42 + 3 * i by omega]; exact kA42 hi) (by decide) (fun o ho => hr o (by omega))) rfl rfl (by decide) (Nat.le_of_ble_eq_true rfl) (by refine ⟨?_, ?_⟩ <;> repeat' first | exact okLn | exact okSn | exact okVi | exact okVo (by omega) | refine okLc ?_ ?_ | refine okSc ?_ ?_) ⟨by omega, show 0 + 3 + 4 ≤ _ by omega⟩ (fun v w' ad2 h2 hp => ?_)
  obtain ⟨rfl, rfl⟩ := hp
  have hA2 := hA1.nx (n := 41 + 3 * i + 1) (by omega) h2
  refine x_st0 ?_
  rw [show 41 + 3 * i + 2 = 43 + 3 * i by omega, show 41 + 3 * i + 1 = 42 + 3 * i by omega]
  refine x_putFR a 13 f_Q_14 d_Q_init_13 (kQ hi) (by omega) (by decide) (by omega) rfl rfl rfl (fun _ => rfl) (fun _ => rfl) ?_
  exact x_vretN a qf 16 d_Q_init_16 rfl hA2 (by decide) (by omega) (show 0 + 3 + 4 ≤ 7 by omega) ⟨rfl, rfl⟩
set_option maxRecDepth 100000 in
set_option maxHeartbeats 4000000 in
theorem c_F_init {r : Nat → Nat → Option Nat} (hr : ∀ o, 58 < o → r o = fun _ => none) : Cn u_F_init 1 2 16 (59, k0, r, hZ) [.inr (some 58)] (fun v w' => v = none ∧ w' = (61, k0, upR (upR r 58 0 (some 59)) 58 1 (some 60), hZ)) := by
  refine Cn.of (by decide +kernel) (Nat.le_of_ble_eq_true rfl) (fun E ad a qf => ?_)
  have qa := qf.2.2.2
  have hC := qf.2.1
  have hSl := qf.2.2.1
  have hA : AG 59 ad ad := AG.rf
  refine x_aload_n a 0 d_F_init_0 rfl ?_
  refine x_objInit a 1 d_F_init_1 o_F o_inst o_code (by decide) (Nat.le_of_ble_eq_true rfl) ?_
  refine x_aload_n a 4 d_F_init_4 rfl ?_
  refine x_bipush a 5 (nI 8) d_F_init_5 (by decide) ?_
  refine y_newi a 7 8 hA (Nat.le_refl _) rfl (hr _ (by omega)) rfl d_F_init_7 rfl (by omega) (by omega) (by refine ⟨?_, ?_⟩ <;> repeat' first | exact okLn | exact okSn | exact okVi | exact okVo (by omega) | refine okLc ?_ ?_ | refine okSc ?_ ?_) (by omega) (by omega) (fun ad1 hA1 => ?_)
  refine x_putFR a 9 f_F_9 d_F_init_9 rfl (by omega) (by decide) (by omega) rfl rfl rfl (fun _ => rfl) (fun _ => rfl) ?_
  refine x_aload_n a 12 d_F_init_12 rfl ?_
  refine x_bipush a 13 (nI 8) d_F_init_13 (by decide) ?_
  refine y_newi a 15 8 hA1 (by omega) rfl (by rw [upR_o _ _ (by omega)]; exact hr _ (by omega)) rfl d_F_init_15 rfl (by omega) (by omega) (by refine ⟨?_, ?_⟩ <;> repeat' first | exact okLn | exact okSn | exact okVi | exact okVo (by omega) | refine okLc ?_ ?_ | refine okSc ?_ ?_) (by omega) (by omega) (fun ad2 hA2 => ?_)
  refine x_putFR a 17 f_F_15 d_F_init_17 rfl (by omega) (by decide) (by omega) rfl rfl rfl (fun _ => rfl) (fun _ => rfl) ?_
  exact x_vretN a qf 20 d_F_init_20 rfl hA2 (by decide) (by omega) (by omega) ⟨rfl, rfl⟩
