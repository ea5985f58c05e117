abbrev tn (x : Int32) : Nat := x.toNatClampNeg
/-- the register that a number names -/
def rg (a : Int32) : Nat := tn (a &&& 3)
theorem rg_and (x : Int32) : x &&& 3 = nI (x.toBitVec.toNat % 4) := pk_and x 2 (by decide)
theorem rg_nat (x : Int32) : rg x = x.toBitVec.toNat % 4 := by
  unfold rg tn
  rw [rg_and, nI_clamp (by omega)]
theorem rg_lt (x : Int32) : rg x < 4 := by rw [rg_nat]; omega
theorem rg_nI (x : Int32) : nI (rg x) = x &&& 3 := by rw [rg_nat, rg_and]
theorem rg_int (x : Int32) : (rg x : Int) = x.toInt % 4 := by
  rw [rg_nat, ← Int32.toInt_toBitVec, BitVec.toInt_eq_toNat_cond]
  have := x.toBitVec.isLt
  split <;> omega
theorem fm_rem (x : Int32) : (x - x / 4 * 4).toInt = x.toInt.tmod 4 := by
  have a := x.le_toInt
  have b := x.toInt_lt
  have c := Int.tmod_add_mul_tdiv x.toInt 4
  have e := Int.tmod_lt_of_pos x.toInt (b := 4) (by decide)
  have f := Int.lt_tmod_of_pos x.toInt (b := 4) (by decide)
  have s1 : 0 ≤ x.toInt → 0 ≤ x.toInt.tmod 4 := fun z => Int.tmod_nonneg 4 z
  have s2 : x.toInt < 0 → x.toInt.tmod 4 ≤ 0 := fun z => by
    have := Int.tmod_nonneg (a := -x.toInt) 4 (by omega)
    rw [Int.neg_tmod] at this
    omega
  have h4 : (4 : Int32).toInt = 4 := rfl
  have hd : (x / 4).toInt = x.toInt.tdiv 4 := by
    rw [Int32.toInt_div, h4]
    exact Int.bmod_eq_of_le (by omega) (by omega)
  have hm : (x / 4 * 4).toInt = x.toInt.tdiv 4 * 4 := by
    rw [Int32.toInt_mul, hd, h4]
    exact Int.bmod_eq_of_le (by omega) (by omega)
  rw [Int32.toInt_sub, hm]
  rw [show x.toInt - x.toInt.tdiv 4 * 4 = x.toInt.tmod 4 by omega]
  exact Int.bmod_eq_of_le (by omega) (by omega)
theorem fm_neg (x : Int32) : 0 ≤ x ^^^ 4 ↔ 0 ≤ x.toInt := by
  have key : ∀ y : Int32, 0 ≤ y ↔ y.toBitVec.msb = false := by
    intro y
    rw [Int32.le_iff_toInt_le, BitVec.msb_eq_toInt, Int32.toInt_toBitVec]
    simp
  rw [key, Int32.toBitVec_xor, BitVec.msb_xor]
  have h2 : (4 : Int32).toBitVec.msb = false := by decide
  rw [h2, Bool.xor_false, ← key, Int32.le_iff_toInt_le]
  rfl
theorem fm_tmod (x : Int32) : (0 ≤ x.toInt ∧ x.toInt.tmod 4 = rg x) ∨ (x.toInt < 0 ∧ ((x.toInt.tmod 4 = 0 ∧ rg x = 0) ∨ (x.toInt.tmod 4 ≠ 0 ∧ x.toInt.tmod 4 + 4 = rg x))) := by
  have e := Int.tmod_lt_of_pos x.toInt (b := 4) (by decide)
  have f := Int.lt_tmod_of_pos x.toInt (b := 4) (by decide)
  have c := Int.tmod_add_mul_tdiv x.toInt 4
  have r := rg_int x
  by_cases h : 0 ≤ x.toInt
  · left
    exact ⟨h, by rw [Int.tmod_eq_emod_of_nonneg h, r]⟩
  · right
    refine ⟨by omega, ?_⟩
    have g : x.toInt.tmod 4 ≤ 0 := by
      have := Int.tmod_nonneg (a := -x.toInt) 4 (by omega)
      rw [Int.neg_tmod] at this
      omega
    omega
theorem fm_nn {x : Int32} (h : 0 ≤ x ^^^ 4) : x - x / 4 * 4 = nI (rg x) := by
  apply Int32.toInt_inj.mp
  rw [fm_rem, nI_toInt (by have := rg_lt x; omega)]
  have := (fm_neg x).mp h
  rcases fm_tmod x with z | z <;> omega
theorem fm_0 {x : Int32} (h : x - x / 4 * 4 = 0) : x - x / 4 * 4 = nI (rg x) := by
  have h1 := fm_rem x
  rw [h] at h1
  have h1 : (0 : Int) = x.toInt.tmod 4 := h1
  apply Int32.toInt_inj.mp
  rw [fm_rem, nI_toInt (by have := rg_lt x; omega)]
  rcases fm_tmod x with z | z <;> omega
theorem fm_p {x : Int32} (h : ¬ 0 ≤ x ^^^ 4) (h0 : ¬ x - x / 4 * 4 = 0) : x - x / 4 * 4 + 4 = nI (rg x) := by
  have hx : ¬ 0 ≤ x.toInt := fun z => h ((fm_neg x).mpr z)
  have h1 : ¬ x.toInt.tmod 4 = 0 := fun z => h0 (Int32.toInt_inj.mp (by rw [fm_rem, z]; rfl))
  have e := Int.tmod_lt_of_pos x.toInt (b := 4) (by decide)
  have f := Int.lt_tmod_of_pos x.toInt (b := 4) (by decide)
  apply Int32.toInt_inj.mp
  rw [Int32.toInt_add, fm_rem, nI_toInt (by have := rg_lt x; omega)]
  rw [show (4 : Int32).toInt = 4 from rfl, Int.bmod_eq_of_le (by omega) (by omega)]
  rcases fm_tmod x with z | z <;> omega
theorem Cn.ofF {u : Mi} {d mc ms : Nat} {w : Wd} {as : List AV} {Post : Option Int32 → Wd → Prop} (hy : plainFor u.1 = true) (hlen : as.length ≤ u.2.2.1) (body : ∀ (E : En) (ad : Nat → Nat), Amb u d E → Fin Post w.1 ad mc ms E → X E 0 0 ad w 0 (argsL 0 as) []) : Cn u d mc ms w as Post := by
  intro l D cA ad sz
  refine va_MetF (cc := u.2.1) (maxL := u.2.2.1) (ret := u.2.2.2) hy rfl ?_
  intro p e s m args below meth c s₁ B hml hv
  obtain ⟨rfl, hsz, hR, hP, hK, hD0, hns, h2, h3⟩ := hv
  have hts := atoms_spec (ws := wds u) B.pre
  subst hsz
  have hD := hD0.self (sz := s.heap.size)
  have a : Amb u d (p, l, e, (headSpec (wds u) { frames := d, cells := mc, slots := ms, locals := 40 * d }).room, s, m, (as.map (cv ad)).toArray, below, meth, c, D, cA, va_A (ws cA ad w) s.heap.size, MQ below (QC Post (QB w.1 mc D cA ad (va_A (ws cA ad w) s.heap.size)) (va_A (ws cA ad w) s.heap.size)) (as.map (cv ad)).toArray s mc ms (va_A (ws cA ad w) s.heap.size)) :=
    ⟨B.exec, B.bytes, B.returns, hml, B.notSynchronized, (name_of_methodNamed B.named B.method).1, findClass_of_methodNamed B.named, fun x hx => hts x (List.mem_cons_of_mem _ hx), hns, hK, fun q hq => Or.inr hq, Nat.le_refl _, Nat.le_refl _⟩
  have hl := lv_entry (as.map (cv ad)) (n := u.2.2.1) (by rw [lg_len]; exact hlen)
  rw [lg_entry_eq]
  rw [lvc_args] at hl
  exact body _ ad a ⟨rfl, Nat.le_refl _, Nat.le_refl _, h2, h3⟩ s.heap [] _ hR hP hD va_S.rf (by rw [a.ml]; exact hl)
set_option maxRecDepth 100000 in
set_option maxHeartbeats 4000000 in
theorem c_J_floorMod (h : Hp) (x : Int32) : Cn u_J_floorMod 0 0 0 (w0 h) [.inl x, .inl 4] (fun v w' => v = some (nI (rg x)) ∧ w' = w0 h) := by
  refine Cn.ofF (by decide +kernel) (Nat.le_of_ble_eq_true rfl) (fun E ad a qf => ?_)
  have qa := qf.2.2.2
  have hcs : 0 ≤ (eR E).cells ∧ 0 ≤ (eR E).slots := ⟨Nat.zero_le _, Nat.zero_le _⟩
  refine x_iload_n a 0 d_J_floorMod_0 rfl ?_
  refine x_iload_n a 1 d_J_floorMod_1 rfl ?_
  refine x_irem a 2 d_J_floorMod_2 (by decide) ?_
  refine x_istore_n a 3 d_J_floorMod_3 (by decide) ?_
  refine x_iload_n a 4 d_J_floorMod_4 rfl ?_
  refine x_iload_n a 5 d_J_floorMod_5 rfl ?_
  refine x_ixor a 6 d_J_floorMod_6 ?_
  refine x_if_ge a 7 18 d_J_floorMod_7 (by decide) (fun c7 => ?_) (fun c7 => ?_)
  · refine x_iload_n a 18 d_J_floorMod_18 rfl ?_
    exact x_iret a qf 19 d_J_floorMod_19 rfl ⟨by first | rw [fm_nn c7] | rw [fm_0 c11], rfl⟩
  · refine x_iload_n a 10 d_J_floorMod_10 rfl ?_
    refine x_if_eq a 11 18 d_J_floorMod_11 (by decide) (fun c11 => ?_) (fun c11 => ?_)
    · refine x_iload_n a 18 d_J_floorMod_18 rfl ?_
      exact x_iret a qf 19 d_J_floorMod_19 rfl ⟨by first | rw [fm_nn c7] | rw [fm_0 c11], rfl⟩
    · refine x_iload_n a 14 d_J_floorMod_14 rfl ?_
      refine x_iload_n a 15 d_J_floorMod_15 rfl ?_
      refine x_iadd a 16 d_J_floorMod_16 ?_
      exact x_iret a qf 17 d_J_floorMod_17 rfl ⟨by rw [fm_p c7 c11], rfl⟩
set_option maxRecDepth 100000 in
set_option maxHeartbeats 4000000 in
theorem c_D_registerNamed (h : Hp) (x : Int32) : Cn u_D_registerNamed 1 0 0 (w0 h) [.inl x] (fun v w' => v = some (nI (rg x)) ∧ w' = w0 h) := by
  refine Cn.of (by decide +kernel) (Nat.le_of_ble_eq_true rfl) (fun E ad a qf => ?_)
  have qa := qf.2.2.2
  have hcs : 0 ≤ (eR E).cells ∧ 0 ≤ (eR E).slots := ⟨Nat.zero_le _, Nat.zero_le _⟩
  refine x_iload_n a 0 d_D_registerNamed_0 rfl ?_
  refine x_iconst a 1 4 d_D_registerNamed_1 (by decide) ?_
  refine x_callS a qa 2 g_D_207 d_D_registerNamed_2 (c_J_floorMod _ _) rfl rfl (by decide) (Nat.le_of_ble_eq_true rfl) hcs (fun v w' hp => ?_)
  obtain ⟨rfl, rfl⟩ := hp
  refine x_st1 ?_
  exact x_iret a qf 5 d_D_registerNamed_5 rfl ⟨rfl, rfl⟩
set_option maxRecDepth 100000 in
set_option maxHeartbeats 4000000 in
theorem c_P_takesPart (h : Hp) {j : Nat} (hj : j < 4) : Cn u_P_takesPart 0 0 0 (w0 h) [.inr (some (3 + 9 * j))] (fun v w' => v = some (bI (0 < h (3 + 9 * j) 8)) ∧ w' = w0 h) := by
  refine Cn.of (by decide +kernel) (Nat.le_of_ble_eq_true rfl) (fun E ad a qf => ?_)
  have qa := qf.2.2.2
  have hcs : 0 ≤ (eR E).cells ∧ 0 ≤ (eR E).slots := ⟨Nat.zero_le _, Nat.zero_le _⟩
  refine x_aload_n a 0 d_P_takesPart_0 rfl ?_
  refine x_getI a 1 f_P_39 d_P_takesPart_1 (kP (by omega)) (by omega) (by decide) rfl ?_
  refine x_if_le a 4 11 d_P_takesPart_4 (by decide) (fun c4 => ?_) (fun c4 => ?_)
  · refine x_iconst a 11 0 d_P_takesPart_11 (by decide) ?_
    exact x_zret a qf 12 d_P_takesPart_12 rfl rfl ⟨by first | rw [bI_f (by (try simp (disch := omega) only [Int32.le_iff_toInt_le, Int32.lt_iff_toInt_lt, ← Int32.toInt_inj, Int32.reduceToInt, nI_1, nI_add, pk_sub, nI_toInt] at *); omega)] | rw [bI_t (by (try simp (disch := omega) only [Int32.le_iff_toInt_le, Int32.lt_iff_toInt_lt, ← Int32.toInt_inj, Int32.reduceToInt, nI_1, nI_add, pk_sub, nI_toInt] at *); omega)], rfl⟩
  · refine x_iconst a 7 1 d_P_takesPart_7 (by decide) ?_
    refine x_goto a 8 12 d_P_takesPart_8 (by decide) ?_
    exact x_zret a qf 12 d_P_takesPart_12 rfl rfl ⟨by first | rw [bI_f (by (try simp (disch := omega) only [Int32.le_iff_toInt_le, Int32.lt_iff_toInt_lt, ← Int32.toInt_inj, Int32.reduceToInt, nI_1, nI_add, pk_sub, nI_toInt] at *); omega)] | rw [bI_t (by (try simp (disch := omega) only [Int32.le_iff_toInt_le, Int32.lt_iff_toInt_lt, ← Int32.toInt_inj, Int32.reduceToInt, nI_1, nI_add, pk_sub, nI_toInt] at *); omega)], rfl⟩
set_option maxRecDepth 100000 in
set_option maxHeartbeats 4000000 in
theorem c_P_overlaps (h : Hp) {j : Nat} (hj : j < 4) {i : Nat} (hi : i < 4) : Cn u_P_overlaps 1 0 0 (w0 h) [.inr (some (3 + 9 * j)), .inr (some (3 + 9 * i))] (fun v w' => v = some (bI (0 < h (3 + 9 * j) 8 ∧ 0 < h (3 + 9 * i) 8 ∧ h (3 + 9 * j) 7 < h (3 + 9 * i) 7 + h (3 + 9 * i) 8 ∧ h (3 + 9 * i) 7 < h (3 + 9 * j) 7 + h (3 + 9 * j) 8)) ∧ w' = w0 h) := by
  refine Cn.of (by decide +kernel) (Nat.le_of_ble_eq_true rfl) (fun E ad a qf => ?_)
  have qa := qf.2.2.2
  have hcs : 0 ≤ (eR E).cells ∧ 0 ≤ (eR E).slots := ⟨Nat.zero_le _, Nat.zero_le _⟩
  refine x_aload_n a 0 d_P_overlaps_0 rfl ?_
  refine x_callV a qa 1 g_P_43 d_P_overlaps_1 (c_P_takesPart _ (by omega)) rfl rfl (kP (by omega)) (show _ < 86 by omega) (by decide) (Nat.le_of_ble_eq_true rfl) hcs (fun v w' hp => ?_)
  obtain ⟨rfl, rfl⟩ := hp
  refine x_st1 ?_
  refine x_ifB_eq a 4 50 d_P_overlaps_4 (by decide) (fun c4 => ?_) (fun c4 => ?_)
  · refine x_iconst a 50 0 d_P_overlaps_50 (by decide) ?_
    exact x_zret a qf 51 d_P_overlaps_51 rfl rfl ⟨by rw [bI_f (by intro z; first | exact c4 z.1 | exact c11 z.2.1 | exact absurd z.2.2.1 (Int32.not_lt.mpr c27) | exact absurd z.2.2.2 (Int32.not_lt.mpr c43))], rfl⟩
  · refine x_aload_n a 7 d_P_overlaps_7 rfl ?_
    refine x_callV a qa 8 g_P_43 d_P_overlaps_8 (c_P_takesPart _ (by omega)) rfl rfl (kP (by omega)) (show _ < 86 by omega) (by decide) (Nat.le_of_ble_eq_true rfl) hcs (fun v w' hp => ?_)
    obtain ⟨rfl, rfl⟩ := hp
    refine x_st1 ?_
    refine x_ifB_eq a 11 50 d_P_overlaps_11 (by decide) (fun c11 => ?_) (fun c11 => ?_)
    · refine x_iconst a 50 0 d_P_overlaps_50 (by decide) ?_
      exact x_zret a qf 51 d_P_overlaps_51 rfl rfl ⟨by rw [bI_f (by intro z; first | exact c4 z.1 | exact c11 z.2.1 | exact absurd z.2.2.1 (Int32.not_lt.mpr c27) | exact absurd z.2.2.2 (Int32.not_lt.mpr c43))], rfl⟩
    · refine x_aload_n a 14 d_P_overlaps_14 rfl ?_
      refine x_getI a 15 f_P_47 d_P_overlaps_15 (kP (by omega)) (by omega) (by decide) rfl ?_
      refine x_aload_n a 18 d_P_overlaps_18 rfl ?_
      refine x_getI a 19 f_P_47 d_P_overlaps_19 (kP (by omega)) (by omega) (by decide) rfl ?_
      refine x_aload_n a 22 d_P_overlaps_22 rfl ?_
      refine x_getI a 23 f_P_39 d_P_overlaps_23 (kP (by omega)) (by omega) (by decide) rfl ?_
      refine x_iadd a 26 d_P_overlaps_26 ?_
      refine x_icmp_ge a 27 50 d_P_overlaps_27 (by decide) (fun c27 => ?_) (fun c27 => ?_)
      · refine x_iconst a 50 0 d_P_overlaps_50 (by decide) ?_
        exact x_zret a qf 51 d_P_overlaps_51 rfl rfl ⟨by rw [bI_f (by intro z; first | exact c4 z.1 | exact c11 z.2.1 | exact absurd z.2.2.1 (Int32.not_lt.mpr c27) | exact absurd z.2.2.2 (Int32.not_lt.mpr c43))], rfl⟩
      · refine x_aload_n a 30 d_P_overlaps_30 rfl ?_
        refine x_getI a 31 f_P_47 d_P_overlaps_31 (kP (by omega)) (by omega) (by decide) rfl ?_
        refine x_aload_n a 34 d_P_overlaps_34 rfl ?_
        refine x_getI a 35 f_P_47 d_P_overlaps_35 (kP (by omega)) (by omega) (by decide) rfl ?_
        refine x_aload_n a 38 d_P_overlaps_38 rfl ?_
        refine x_getI a 39 f_P_39 d_P_overlaps_39 (kP (by omega)) (by omega) (by decide) rfl ?_
        refine x_iadd a 42 d_P_overlaps_42 ?_
        refine x_icmp_ge a 43 50 d_P_overlaps_43 (by decide) (fun c43 => ?_) (fun c43 => ?_)
        · refine x_iconst a 50 0 d_P_overlaps_50 (by decide) ?_
          exact x_zret a qf 51 d_P_overlaps_51 rfl rfl ⟨by rw [bI_f (by intro z; first | exact c4 z.1 | exact c11 z.2.1 | exact absurd z.2.2.1 (Int32.not_lt.mpr c27) | exact absurd z.2.2.2 (Int32.not_lt.mpr c43))], rfl⟩
        · refine x_iconst a 46 1 d_P_overlaps_46 (by decide) ?_
          refine x_goto a 47 51 d_P_overlaps_47 (by decide) ?_
          exact x_zret a qf 51 d_P_overlaps_51 rfl rfl ⟨by rw [bI_t ⟨c4, c11, Int32.not_le.mp c27, Int32.not_le.mp c43⟩], rfl⟩
def p_clear (h : Hp) (j : Nat) : Hp := up2 (up2 (up2 (up2 (up2 h (8 + 9 * j) 0 0) (8 + 9 * j) 1 0) (8 + 9 * j) 2 0) (8 + 9 * j) 3 0) (3 + 9 * j) 9 0
def p_begin (h : Hp) (j : Nat) : Hp := up2 (up2 (p_clear h j) (3 + 9 * j) 10 (bI (0 < h (3 + 9 * j) 8))) (3 + 9 * j) 11 0
theorem bI_fit {c : Prop} [Decidable c] : fits .boolean (.int (bI c)) = true := by
  by_cases h : c
  · rw [bI_t h]; rfl
  · rw [bI_f h]; rfl
set_option maxRecDepth 100000 in
set_option maxHeartbeats 4000000 in
theorem c_P_clear (h : Hp) {j : Nat} (hj : j < 4) : Cn u_P_clearRegistersAndPlace 0 0 0 (w0 h) [.inr (some (3 + 9 * j))] (fun r w' => r = none ∧ w' = w0 (p_clear h j)) := by
  refine Cn.of (by decide +kernel) (Nat.le_of_ble_eq_true rfl) (fun E ad a qf => ?_)
  have qa := qf.2.2.2
  have hcs : 0 ≤ (eR E).cells ∧ 0 ≤ (eR E).slots := ⟨Nat.zero_le _, Nat.zero_le _⟩
  refine x_iconst a 0 0 d_P_clearRegistersAndPlace_0 (by decide) ?_
  refine x_istore_n a 1 d_P_clearRegistersAndPlace_1 (by decide) ?_
  refine x_iload_n a 2 d_P_clearRegistersAndPlace_2 rfl ?_
  refine x_iconst a 3 4 d_P_clearRegistersAndPlace_3 (by decide) ?_
  refine x_icmp_ge a 4 20 d_P_clearRegistersAndPlace_4 (by decide) (fun z => absurd z (by decide)) (fun _ => ?_)
  refine x_aload_n a 7 d_P_clearRegistersAndPlace_7 rfl ?_
  refine x_getR a 8 f_P_24 d_P_clearRegistersAndPlace_8 (kP (by omega)) (by omega) (by decide) (rP4 (by omega)) ?_
  refine x_iload_n a 11 d_P_clearRegistersAndPlace_11 rfl ?_
  refine x_iconst a 12 0 d_P_clearRegistersAndPlace_12 (by decide) ?_
  refine x_iast a 13 d_P_clearRegistersAndPlace_13 (kA8 (by omega)) (by omega) (j := 0) (by decide) (by decide) (by decide) ?_
  refine x_iinc a 14 1 d_P_clearRegistersAndPlace_14 rfl (by decide) (by decide) ?_
  refine x_goto a 17 2 d_P_clearRegistersAndPlace_17 (by decide) ?_
  refine x_iload_n a 2 d_P_clearRegistersAndPlace_2 rfl ?_
  refine x_iconst a 3 4 d_P_clearRegistersAndPlace_3 (by decide) ?_
  refine x_icmp_ge a 4 20 d_P_clearRegistersAndPlace_4 (by decide) (fun z => absurd z (by decide)) (fun _ => ?_)
  refine x_aload_n a 7 d_P_clearRegistersAndPlace_7 rfl ?_
  refine x_getR a 8 f_P_24 d_P_clearRegistersAndPlace_8 (kP (by omega)) (by omega) (by decide) (rP4 (by omega)) ?_
  refine x_iload_n a 11 d_P_clearRegistersAndPlace_11 rfl ?_
  refine x_iconst a 12 0 d_P_clearRegistersAndPlace_12 (by decide) ?_
  refine x_iast a 13 d_P_clearRegistersAndPlace_13 (kA8 (by omega)) (by omega) (j := 1) (by decide) (by decide) (by decide) ?_
  refine x_iinc a 14 2 d_P_clearRegistersAndPlace_14 rfl (by decide) (by decide) ?_
  refine x_goto a 17 2 d_P_clearRegistersAndPlace_17 (by decide) ?_
  refine x_iload_n a 2 d_P_clearRegistersAndPlace_2 rfl ?_
  refine x_iconst a 3 4 d_P_clearRegistersAndPlace_3 (by decide) ?_
  refine x_icmp_ge a 4 20 d_P_clearRegistersAndPlace_4 (by decide) (fun z => absurd z (by decide)) (fun _ => ?_)
  refine x_aload_n a 7 d_P_clearRegistersAndPlace_7 rfl ?_
  refine x_getR a 8 f_P_24 d_P_clearRegistersAndPlace_8 (kP (by omega)) (by omega) (by decide) (rP4 (by omega)) ?_
  refine x_iload_n a 11 d_P_clearRegistersAndPlace_11 rfl ?_
  refine x_iconst a 12 0 d_P_clearRegistersAndPlace_12 (by decide) ?_
  refine x_iast a 13 d_P_clearRegistersAndPlace_13 (kA8 (by omega)) (by omega) (j := 2) (by decide) (by decide) (by decide) ?_
  refine x_iinc a 14 3 d_P_clearRegistersAndPlace_14 rfl (by decide) (by decide) ?_
  refine x_goto a 17 2 d_P_clearRegistersAndPlace_17 (by decide) ?_
  refine x_iload_n a 2 d_P_clearRegistersAndPlace_2 rfl ?_
  refine x_iconst a 3 4 d_P_clearRegistersAndPlace_3 (by decide) ?_
  refine x_icmp_ge a 4 20 d_P_clearRegistersAndPlace_4 (by decide) (fun z => absurd z (by decide)) (fun _ => ?_)
  refine x_aload_n a 7 d_P_clearRegistersAndPlace_7 rfl ?_
  refine x_getR a 8 f_P_24 d_P_clearRegistersAndPlace_8 (kP (by omega)) (by omega) (by decide) (rP4 (by omega)) ?_
  refine x_iload_n a 11 d_P_clearRegistersAndPlace_11 rfl ?_
  refine x_iconst a 12 0 d_P_clearRegistersAndPlace_12 (by decide) ?_
  refine x_iast a 13 d_P_clearRegistersAndPlace_13 (kA8 (by omega)) (by omega) (j := 3) (by decide) (by decide) (by decide) ?_
  refine x_iinc a 14 4 d_P_clearRegistersAndPlace_14 rfl (by decide) (by decide) ?_
  refine x_goto a 17 2 d_P_clearRegistersAndPlace_17 (by decide) ?_
  refine x_iload_n a 2 d_P_clearRegistersAndPlace_2 rfl ?_
  refine x_iconst a 3 4 d_P_clearRegistersAndPlace_3 (by decide) ?_
  refine x_icmp_ge a 4 20 d_P_clearRegistersAndPlace_4 (by decide) (fun _ => ?_) (fun z => absurd z (by decide))
  refine x_aload_n a 20 d_P_clearRegistersAndPlace_20 rfl ?_
  refine x_iconst a 21 0 d_P_clearRegistersAndPlace_21 (by decide) ?_
  refine x_putI a 22 f_P_60 d_P_clearRegistersAndPlace_22 (kP (by omega)) (by omega) (by decide) rfl rfl rfl ?_
  exact x_vret a qf 25 d_P_clearRegistersAndPlace_25 rfl ⟨rfl, rfl⟩
set_option maxRecDepth 100000 in
set_option maxHeartbeats 4000000 in
theorem c_P_beginAnew (h : Hp) {j : Nat} (hj : j < 4) : Cn u_P_beginAnew 1 0 0 (w0 h) [.inr (some (3 + 9 * j))] (fun r w' => r = none ∧ w' = w0 (p_begin h j)) := by
  refine Cn.of (by decide +kernel) (Nat.le_of_ble_eq_true rfl) (fun E ad a qf => ?_)
  have qa := qf.2.2.2
  have hcs : 0 ≤ (eR E).cells ∧ 0 ≤ (eR E).slots := ⟨Nat.zero_le _, Nat.zero_le _⟩
  refine x_aload_n a 0 d_P_beginAnew_0 rfl ?_
  refine x_callV a qa 1 g_P_50 d_P_beginAnew_1 (c_P_clear _ (by omega)) rfl rfl (kP (by omega)) (show _ < 86 by omega) (by decide) (Nat.le_of_ble_eq_true rfl) hcs (fun v w' hp => ?_)
  obtain ⟨rfl, rfl⟩ := hp
  refine x_st0 ?_
  refine x_aload_n a 4 d_P_beginAnew_4 rfl ?_
  refine x_aload_n a 5 d_P_beginAnew_5 rfl ?_
  refine x_callV a qa 6 g_P_43 d_P_beginAnew_6 (c_P_takesPart _ (by omega)) rfl rfl (kP (by omega)) (show _ < 86 by omega) (by decide) (Nat.le_of_ble_eq_true rfl) hcs (fun v w' hp => ?_)
  obtain ⟨rfl, rfl⟩ := hp
  refine x_st1 ?_
  refine x_push (y := bI (0 < h (3 + 9 * j) 8)) (by unfold p_clear; simp (disch := omega) only [up2_k, up2_o]) ?_
  refine x_putI a 9 f_P_53 d_P_beginAnew_9 (kP (by omega)) (by omega) (by decide) rfl bI_nar bI_fit ?_
  refine x_aload_n a 12 d_P_beginAnew_12 rfl ?_
  refine x_iconst a 13 0 d_P_beginAnew_13 (by decide) ?_
  refine x_putI a 14 f_P_57 d_P_beginAnew_14 (kP (by omega)) (by omega) (by decide) rfl rfl rfl ?_
  exact x_vret a qf 17 d_P_beginAnew_17 rfl ⟨rfl, rfl⟩
set_option maxRecDepth 100000 in
set_option maxHeartbeats 4000000 in
theorem c_P_hasWord (h : Hp) {j : Nat} (hj : j < 4) (b : Int32) : Cn u_P_hasWord 2 0 0 (w0 h) [.inr (some (3 + 9 * j)), .inl b] (fun v w' => v = some (bI (0 ≤ h (8 + 9 * j) (rg b) ∧ h (8 + 9 * j) (rg b) < h (3 + 9 * j) 8)) ∧ w' = w0 h) := by
  refine Cn.of (by decide +kernel) (Nat.le_of_ble_eq_true rfl) (fun E ad a qf => ?_)
  have qa := qf.2.2.2
  have hcs : 0 ≤ (eR E).cells ∧ 0 ≤ (eR E).slots := ⟨Nat.zero_le _, Nat.zero_le _⟩
  refine x_aload_n a 0 d_P_hasWord_0 rfl ?_
  refine x_getR a 1 f_P_24 d_P_hasWord_1 (kP (by omega)) (by omega) (by decide) (rP4 (by omega)) ?_
  refine x_iload_n a 4 d_P_hasWord_4 rfl ?_
  refine x_callSN a qa 5 g_P_63 d_P_hasWord_5 (c_D_registerNamed _ _) rfl rfl (by decide) (Nat.le_of_ble_eq_true rfl) hcs (fun v w' hp => ?_)
  obtain ⟨rfl, rfl⟩ := hp
  refine x_st1 ?_
  refine x_iald a 8 d_P_hasWord_8 (kA8 (by omega)) (by omega) (j := rg b) rfl (rg_lt b) (by decide) rfl ?_
  refine x_istore_n a 9 d_P_hasWord_9 (by decide) ?_
  refine x_iload_n a 10 d_P_hasWord_10 rfl ?_
  refine x_if_lt a 11 26 d_P_hasWord_11 (by decide) (fun c11 => ?_) (fun c11 => ?_)
  · refine x_iconst a 26 0 d_P_hasWord_26 (by decide) ?_
    exact x_zret a qf 27 d_P_hasWord_27 rfl rfl ⟨by first | rw [bI_f (by (try simp (disch := omega) only [Int32.le_iff_toInt_le, Int32.lt_iff_toInt_lt, ← Int32.toInt_inj, Int32.reduceToInt, nI_1, nI_add, pk_sub, nI_toInt] at *); omega)] | rw [bI_t (by (try simp (disch := omega) only [Int32.le_iff_toInt_le, Int32.lt_iff_toInt_lt, ← Int32.toInt_inj, Int32.reduceToInt, nI_1, nI_add, pk_sub, nI_toInt] at *); omega)], rfl⟩
  · refine x_iload_n a 14 d_P_hasWord_14 rfl ?_
    refine x_aload_n a 15 d_P_hasWord_15 rfl ?_
    refine x_getI a 16 f_P_39 d_P_hasWord_16 (kP (by omega)) (by omega) (by decide) rfl ?_
    refine x_icmp_ge a 19 26 d_P_hasWord_19 (by decide) (fun c19 => ?_) (fun c19 => ?_)
    · refine x_iconst a 26 0 d_P_hasWord_26 (by decide) ?_
      exact x_zret a qf 27 d_P_hasWord_27 rfl rfl ⟨by first | rw [bI_f (by (try simp (disch := omega) only [Int32.le_iff_toInt_le, Int32.lt_iff_toInt_lt, ← Int32.toInt_inj, Int32.reduceToInt, nI_1, nI_add, pk_sub, nI_toInt] at *); omega)] | rw [bI_t (by (try simp (disch := omega) only [Int32.le_iff_toInt_le, Int32.lt_iff_toInt_lt, ← Int32.toInt_inj, Int32.reduceToInt, nI_1, nI_add, pk_sub, nI_toInt] at *); omega)], rfl⟩
    · refine x_iconst a 22 1 d_P_hasWord_22 (by decide) ?_
      refine x_goto a 23 27 d_P_hasWord_23 (by decide) ?_
      exact x_zret a qf 27 d_P_hasWord_27 rfl rfl ⟨by first | rw [bI_f (by (try simp (disch := omega) only [Int32.le_iff_toInt_le, Int32.lt_iff_toInt_lt, ← Int32.toInt_inj, Int32.reduceToInt, nI_1, nI_add, pk_sub, nI_toInt] at *); omega)] | rw [bI_t (by (try simp (disch := omega) only [Int32.le_iff_toInt_le, Int32.lt_iff_toInt_lt, ← Int32.toInt_inj, Int32.reduceToInt, nI_1, nI_add, pk_sub, nI_toInt] at *); omega)], rfl⟩
def q_take (h : Hp) (q f c len : Nat) : Hp := if 0 < c then up2 (up2 h q 1 (nI (if f + 1 < len then f + 1 else 0))) q 2 (nI (c - 1)) else h
def p_take (h : Hp) (j f c x : Nat) : Hp := up2 (up2 (q_take h (9 + 9 * j) f c 8) (8 + 9 * j) x (if 0 < c then h (10 + 9 * j) f else 0)) (8 + 9 * j) 3 (bI (0 < c))
def p_out (h : Hp) (j c : Nat) (v : Int32) : Hp := up2 (if c < 16 then up2 h (11 + 9 * j) c v else h) (3 + 9 * j) 12 (nI (c + 1))
set_option maxRecDepth 100000 in
set_option maxHeartbeats 4000000 in
theorem c_P_takeInput (h : Hp) {j : Nat} (hj : j < 4) {x : Nat} (hx : x < 4) {f c : Nat} (hf : h (9 + 9 * j) 1 = nI f) (hfl : f < 8) (hc : h (9 + 9 * j) 2 = nI c) (hcl : c ≤ 8) : Cn u_P_takeInput 1 0 0 (w0 h) [.inr (some (3 + 9 * j)), .inl (nI x)] (fun r w' => r = none ∧ w' = w0 (p_take h j f c x)) := by
  refine Cn.of (by decide +kernel) (Nat.le_of_ble_eq_true rfl) (fun E ad a qf => ?_)
  have qa := qf.2.2.2
  have hcs : 0 ≤ (eR E).cells ∧ 0 ≤ (eR E).slots := ⟨Nat.zero_le _, Nat.zero_le _⟩
  refine x_aload_n a 0 d_P_takeInput_0 rfl ?_
  refine x_getR a 1 f_P_32 d_P_takeInput_1 (kP (by omega)) (by omega) (by decide) (rP5 (by omega)) ?_
  refine x_getI a 4 f_P_67 d_P_takeInput_4 (kV9 (by omega)) (by omega) (by decide) hc ?_
  refine x_if_le a 7 14 d_P_takeInput_7 (by decide) (fun c7 => ?_) (fun c7 => ?_)
  · refine x_iconst a 14 0 d_P_takeInput_14 (by decide) ?_
    refine x_istore_n a 15 d_P_takeInput_15 (by decide) ?_
    refine x_aload_n a 16 d_P_takeInput_16 rfl ?_
    refine x_getR a 17 f_P_24 d_P_takeInput_17 (kP (by omega)) (by omega) (by decide) (rP4 (by omega)) ?_
    refine x_iload_n a 20 d_P_takeInput_20 rfl ?_
    refine x_aload_n a 21 d_P_takeInput_21 rfl ?_
    refine x_getR a 22 f_P_32 d_P_takeInput_22 (kP (by omega)) (by omega) (by decide) (rP5 (by omega)) ?_
    refine x_callV a qa 25 g_P_70 d_P_takeInput_25 (c_V_take _ (vq9 hj) hf hfl hc hcl) rfl rfl (kV9 (by omega)) (show _ < 86 by omega) (by decide) (Nat.le_of_ble_eq_true rfl) hcs (fun v w' hp => ?_)
    obtain ⟨rfl, rfl⟩ := hp
    refine x_st1 ?_
    refine x_iast a 28 d_P_takeInput_28 (kA8 (by omega)) (by omega) (j := x) rfl hx (by decide) ?_
    refine x_aload_n a 29 d_P_takeInput_29 rfl ?_
    refine x_getR a 30 f_P_24 d_P_takeInput_30 (kP (by omega)) (by omega) (by decide) (rP4 (by omega)) ?_
    refine x_iconst a 33 3 d_P_takeInput_33 (by decide) ?_
    refine x_iload_n a 34 d_P_takeInput_34 rfl ?_
    refine x_if_eq a 35 42 d_P_takeInput_35 (by decide) (fun _ => ?_) (fun z => absurd z (by decide))
    refine x_iconst a 42 0 d_P_takeInput_42 (by decide) ?_
    refine x_iast a 43 d_P_takeInput_43 (kA8 (by omega)) (by omega) (j := 3) (by decide) (by decide) (by decide) ?_
    exact x_vret a qf 44 d_P_takeInput_44 rfl ⟨rfl, by unfold p_take q_take; first | rw [bI_t (show 0 < c from (by (try simp (disch := omega) only [Int32.le_iff_toInt_le, Int32.lt_iff_toInt_lt, ← Int32.toInt_inj, Int32.reduceToInt, nI_1, nI_add, pk_sub, nI_toInt] at *); omega))] | rw [bI_f (show ¬ 0 < c from (by (try simp (disch := omega) only [Int32.le_iff_toInt_le, Int32.lt_iff_toInt_lt, ← Int32.toInt_inj, Int32.reduceToInt, nI_1, nI_add, pk_sub, nI_toInt] at *); omega))]⟩
  · refine x_iconst a 10 1 d_P_takeInput_10 (by decide) ?_
    refine x_goto a 11 15 d_P_takeInput_11 (by decide) ?_
    refine x_istore_n a 15 d_P_takeInput_15 (by decide) ?_
    refine x_aload_n a 16 d_P_takeInput_16 rfl ?_
    refine x_getR a 17 f_P_24 d_P_takeInput_17 (kP (by omega)) (by omega) (by decide) (rP4 (by omega)) ?_
    refine x_iload_n a 20 d_P_takeInput_20 rfl ?_
    refine x_aload_n a 21 d_P_takeInput_21 rfl ?_
    refine x_getR a 22 f_P_32 d_P_takeInput_22 (kP (by omega)) (by omega) (by decide) (rP5 (by omega)) ?_
    refine x_callV a qa 25 g_P_70 d_P_takeInput_25 (c_V_take _ (vq9 hj) hf hfl hc hcl) rfl rfl (kV9 (by omega)) (show _ < 86 by omega) (by decide) (Nat.le_of_ble_eq_true rfl) hcs (fun v w' hp => ?_)
    obtain ⟨rfl, rfl⟩ := hp
    refine x_st1 ?_
    refine x_iast a 28 d_P_takeInput_28 (kA8 (by omega)) (by omega) (j := x) rfl hx (by decide) ?_
    refine x_aload_n a 29 d_P_takeInput_29 rfl ?_
    refine x_getR a 30 f_P_24 d_P_takeInput_30 (kP (by omega)) (by omega) (by decide) (rP4 (by omega)) ?_
    refine x_iconst a 33 3 d_P_takeInput_33 (by decide) ?_
    refine x_iload_n a 34 d_P_takeInput_34 rfl ?_
    refine x_if_eq a 35 42 d_P_takeInput_35 (by decide) (fun z => absurd z (by decide)) (fun _ => ?_)
    refine x_iconst a 38 1 d_P_takeInput_38 (by decide) ?_
    refine x_goto a 39 43 d_P_takeInput_39 (by decide) ?_
    refine x_iast a 43 d_P_takeInput_43 (kA8 (by omega)) (by omega) (j := 3) (by decide) (by decide) (by decide) ?_
    exact x_vret a qf 44 d_P_takeInput_44 rfl ⟨rfl, by unfold p_take q_take; first | rw [bI_t (show 0 < c from (by (try simp (disch := omega) only [Int32.le_iff_toInt_le, Int32.lt_iff_toInt_lt, ← Int32.toInt_inj, Int32.reduceToInt, nI_1, nI_add, pk_sub, nI_toInt] at *); omega))] | rw [bI_f (show ¬ 0 < c from (by (try simp (disch := omega) only [Int32.le_iff_toInt_le, Int32.lt_iff_toInt_lt, ← Int32.toInt_inj, Int32.reduceToInt, nI_1, nI_add, pk_sub, nI_toInt] at *); omega))]⟩
set_option maxRecDepth 100000 in
set_option maxHeartbeats 4000000 in
theorem c_P_putOut (h : Hp) {j : Nat} (hj : j < 4) (x : Int32) {c : Nat} (hc : h (3 + 9 * j) 12 = nI c) (hc9 : c < 2 ^ 30) : Cn u_P_putOut 0 0 0 (w0 h) [.inr (some (3 + 9 * j)), .inl x] (fun r w' => r = none ∧ w' = w0 (p_out h j c x)) := by
  refine Cn.of (by decide +kernel) (Nat.le_of_ble_eq_true rfl) (fun E ad a qf => ?_)
  have qa := qf.2.2.2
  have hcs : 0 ≤ (eR E).cells ∧ 0 ≤ (eR E).slots := ⟨Nat.zero_le _, Nat.zero_le _⟩
  refine x_aload_n a 0 d_P_putOut_0 rfl ?_
  refine x_getI a 1 f_P_74 d_P_putOut_1 (kP (by omega)) (by omega) (by decide) hc ?_
  refine x_bipush a 4 16 d_P_putOut_4 (by decide) ?_
  refine x_icmp_ge a 6 19 d_P_putOut_6 (by decide) (fun c6 => ?_) (fun c6 => ?_)
  · refine x_aload_n a 19 d_P_putOut_19 rfl ?_
    refine x_dup a 20 d_P_putOut_20 ?_
    refine x_getI a 21 f_P_74 d_P_putOut_21 (kP (by omega)) (by omega) (by decide) (v := nI c) (by first | exact hc | (rw [up2_o _ _ _ (by omega)]; exact hc)) ?_
    refine x_iconst a 24 1 d_P_putOut_24 (by decide) ?_
    refine x_iadd a 25 d_P_putOut_25 ?_
    refine x_push (nI_1 c) ?_
    refine x_putI a 26 f_P_74 d_P_putOut_26 (kP (by omega)) (by omega) (by decide) rfl rfl rfl ?_
    exact x_vret a qf 29 d_P_putOut_29 rfl ⟨rfl, by unfold p_out; first | rw [if_pos (show c < 16 from (by (try simp (disch := omega) only [Int32.le_iff_toInt_le, Int32.lt_iff_toInt_lt, ← Int32.toInt_inj, Int32.reduceToInt, nI_1, nI_add, pk_sub, nI_toInt] at *); omega))] | rw [if_neg (show ¬ c < 16 from (by (try simp (disch := omega) only [Int32.le_iff_toInt_le, Int32.lt_iff_toInt_lt, ← Int32.toInt_inj, Int32.reduceToInt, nI_1, nI_add, pk_sub, nI_toInt] at *); omega))]⟩
  · refine x_aload_n a 9 d_P_putOut_9 rfl ?_
    refine x_getR a 10 f_P_36 d_P_putOut_10 (kP (by omega)) (by omega) (by decide) (rP6 (by omega)) ?_
    refine x_aload_n a 13 d_P_putOut_13 rfl ?_
    refine x_getI a 14 f_P_74 d_P_putOut_14 (kP (by omega)) (by omega) (by decide) hc ?_
    refine x_iload_n a 17 d_P_putOut_17 rfl ?_
    refine x_iast a 18 d_P_putOut_18 (kA11 (by omega)) (by omega) (j := c) rfl (by (try simp (disch := omega) only [Int32.le_iff_toInt_le, Int32.lt_iff_toInt_lt, ← Int32.toInt_inj, Int32.reduceToInt, nI_1, nI_add, pk_sub, nI_toInt] at *); omega) (by decide) ?_
    refine x_aload_n a 19 d_P_putOut_19 rfl ?_
    refine x_dup a 20 d_P_putOut_20 ?_
    refine x_getI a 21 f_P_74 d_P_putOut_21 (kP (by omega)) (by omega) (by decide) (v := nI c) (by first | exact hc | (rw [up2_o _ _ _ (by omega)]; exact hc)) ?_
    refine x_iconst a 24 1 d_P_putOut_24 (by decide) ?_
    refine x_iadd a 25 d_P_putOut_25 ?_
    refine x_push (nI_1 c) ?_
    refine x_putI a 26 f_P_74 d_P_putOut_26 (kP (by omega)) (by omega) (by decide) rfl rfl rfl ?_
    exact x_vret a qf 29 d_P_putOut_29 rfl ⟨rfl, by unfold p_out; first | rw [if_pos (show c < 16 from (by (try simp (disch := omega) only [Int32.le_iff_toInt_le, Int32.lt_iff_toInt_lt, ← Int32.toInt_inj, Int32.reduceToInt, nI_1, nI_add, pk_sub, nI_toInt] at *); omega))] | rw [if_neg (show ¬ c < 16 from (by (try simp (disch := omega) only [Int32.le_iff_toInt_le, Int32.lt_iff_toInt_lt, ← Int32.toInt_inj, Int32.reduceToInt, nI_1, nI_add, pk_sub, nI_toInt] at *); omega))]⟩
set_option maxRecDepth 100000 in
set_option maxHeartbeats 4000000 in
theorem c_P_outputAt (h : Hp) {j : Nat} (hj : j < 4) (i : Int32) : Cn u_P_outputAt 0 0 0 (w0 h) [.inr (some (3 + 9 * j)), .inl i] (fun v w' => v = some (if 0 ≤ i ∧ i < 16 ∧ i < h (3 + 9 * j) 12 then h (11 + 9 * j) (tn i) else 0) ∧ w' = w0 h) := by
  refine Cn.of (by decide +kernel) (Nat.le_of_ble_eq_true rfl) (fun E ad a qf => ?_)
  have qa := qf.2.2.2
  have hcs : 0 ≤ (eR E).cells ∧ 0 ≤ (eR E).slots := ⟨Nat.zero_le _, Nat.zero_le _⟩
  refine x_iload_n a 0 d_P_outputAt_0 rfl ?_
  refine x_if_lt a 1 27 d_P_outputAt_1 (by decide) (fun c1 => ?_) (fun c1 => ?_)
  · refine x_iconst a 27 0 d_P_outputAt_27 (by decide) ?_
    exact x_iret a qf 28 d_P_outputAt_28 rfl ⟨by first | (rw [if_pos (by (try simp (disch := omega) only [Int32.le_iff_toInt_le, Int32.lt_iff_toInt_lt, ← Int32.toInt_inj, Int32.reduceToInt, nI_1, nI_add, pk_sub, nI_toInt] at *); omega), tn, nI_clamp (by omega)]) | rw [if_neg (by (try simp (disch := omega) only [Int32.le_iff_toInt_le, Int32.lt_iff_toInt_lt, ← Int32.toInt_inj, Int32.reduceToInt, nI_1, nI_add, pk_sub, nI_toInt] at *); omega)], rfl⟩
  · refine x_iload_n a 4 d_P_outputAt_4 rfl ?_
    refine x_bipush a 5 16 d_P_outputAt_5 (by decide) ?_
    refine x_icmp_ge a 7 27 d_P_outputAt_7 (by decide) (fun c7 => ?_) (fun c7 => ?_)
    · refine x_iconst a 27 0 d_P_outputAt_27 (by decide) ?_
      exact x_iret a qf 28 d_P_outputAt_28 rfl ⟨by first | (rw [if_pos (by (try simp (disch := omega) only [Int32.le_iff_toInt_le, Int32.lt_iff_toInt_lt, ← Int32.toInt_inj, Int32.reduceToInt, nI_1, nI_add, pk_sub, nI_toInt] at *); omega), tn, nI_clamp (by omega)]) | rw [if_neg (by (try simp (disch := omega) only [Int32.le_iff_toInt_le, Int32.lt_iff_toInt_lt, ← Int32.toInt_inj, Int32.reduceToInt, nI_1, nI_add, pk_sub, nI_toInt] at *); omega)], rfl⟩
    · refine x_iload_n a 10 d_P_outputAt_10 rfl ?_
      refine x_aload_n a 11 d_P_outputAt_11 rfl ?_
      refine x_getI a 12 f_P_74 d_P_outputAt_12 (kP (by omega)) (by omega) (by decide) rfl ?_
      refine x_icmp_ge a 15 27 d_P_outputAt_15 (by decide) (fun c15 => ?_) (fun c15 => ?_)
      · refine x_iconst a 27 0 d_P_outputAt_27 (by decide) ?_
        exact x_iret a qf 28 d_P_outputAt_28 rfl ⟨by first | (rw [if_pos (by (try simp (disch := omega) only [Int32.le_iff_toInt_le, Int32.lt_iff_toInt_lt, ← Int32.toInt_inj, Int32.reduceToInt, nI_1, nI_add, pk_sub, nI_toInt] at *); omega), tn, nI_clamp (by omega)]) | rw [if_neg (by (try simp (disch := omega) only [Int32.le_iff_toInt_le, Int32.lt_iff_toInt_lt, ← Int32.toInt_inj, Int32.reduceToInt, nI_1, nI_add, pk_sub, nI_toInt] at *); omega)], rfl⟩
      · obtain ⟨n, hn, rfl⟩ := vp_in_of (x := i) (n := 16) (vp_in_iff.mpr (by (try simp (disch := omega) only [Int32.le_iff_toInt_le, Int32.lt_iff_toInt_lt, ← Int32.toInt_inj, Int32.reduceToInt, nI_1, nI_add, pk_sub, nI_toInt] at *); omega)) (by decide)
        refine x_aload_n a 18 d_P_outputAt_18 rfl ?_
        refine x_getR a 19 f_P_36 d_P_outputAt_19 (kP (by omega)) (by omega) (by decide) (rP6 (by omega)) ?_
        refine x_iload_n a 22 d_P_outputAt_22 rfl ?_
        refine x_iald a 23 d_P_outputAt_23 (kA11 (by omega)) (by omega) (j := n) rfl hn (by decide) rfl ?_
        refine x_goto a 24 28 d_P_outputAt_24 (by decide) ?_
        exact x_iret a qf 28 d_P_outputAt_28 rfl ⟨by first | (rw [if_pos (by (try simp (disch := omega) only [Int32.le_iff_toInt_le, Int32.lt_iff_toInt_lt, ← Int32.toInt_inj, Int32.reduceToInt, nI_1, nI_add, pk_sub, nI_toInt] at *); omega), tn, nI_clamp (by omega)]) | rw [if_neg (by (try simp (disch := omega) only [Int32.le_iff_toInt_le, Int32.lt_iff_toInt_lt, ← Int32.toInt_inj, Int32.reduceToInt, nI_1, nI_add, pk_sub, nI_toInt] at *); omega)], rfl⟩
set_option maxRecDepth 100000 in
set_option maxHeartbeats 4000000 in
theorem c_P_tell (h : Hp) {j : Nat} (hj : j < 4) (x : Int32) : Cn u_P_tell 0 0 0 (w0 h) [.inr (some (3 + 9 * j)), .inl x] (fun v w' => v = some (if x = 0 then h (8 + 9 * j) 0 else if x = 1 then h (8 + 9 * j) 1 else if x = 2 then h (8 + 9 * j) 2 else if x = 3 then h (8 + 9 * j) 3 else if x = 4 then h (3 + 9 * j) 9 else if x = 5 then (if h (3 + 9 * j) 10 = 0 then 0 else 1) else if x = 6 then h (3 + 9 * j) 11 else if x = 7 then h (3 + 9 * j) 12 else if x = 8 then h (9 + 9 * j) 2 else -1) ∧ w' = w0 h) := by
  refine Cn.of (by decide +kernel) (Nat.le_of_ble_eq_true rfl) (fun E ad a qf => ?_)
  have qa := qf.2.2.2
  have hcs : 0 ≤ (eR E).cells ∧ 0 ≤ (eR E).slots := ⟨Nat.zero_le _, Nat.zero_le _⟩
  refine x_iload_n a 0 d_P_tell_0 rfl ?_
  by_cases s1_0 : x = 0
  · subst s1_0
    refine x_tableIn a 1 52 51 d_P_tell_1 (by decide) (by decide) rfl (by decide) ?_
    refine x_aload_n a 52 d_P_tell_52 rfl ?_
    refine x_getR a 53 f_P_24 d_P_tell_53 (kP (by omega)) (by omega) (by decide) (rP4 (by omega)) ?_
    refine x_iload_n a 56 d_P_tell_56 rfl ?_
    refine x_iald a 57 d_P_tell_57 (kA8 (by omega)) (by omega) (j := 0) (by decide) (by decide) (by decide) rfl ?_
    exact x_iret a qf 58 d_P_tell_58 rfl ⟨rfl, rfl⟩
  by_cases s1_1 : x = 1
  · subst s1_1
    refine x_tableIn a 1 52 51 d_P_tell_1 (by decide) (by decide) rfl (by decide) ?_
    refine x_aload_n a 52 d_P_tell_52 rfl ?_
    refine x_getR a 53 f_P_24 d_P_tell_53 (kP (by omega)) (by omega) (by decide) (rP4 (by omega)) ?_
    refine x_iload_n a 56 d_P_tell_56 rfl ?_
    refine x_iald a 57 d_P_tell_57 (kA8 (by omega)) (by omega) (j := 1) (by decide) (by decide) (by decide) rfl ?_
    exact x_iret a qf 58 d_P_tell_58 rfl ⟨rfl, rfl⟩
  by_cases s1_2 : x = 2
  · subst s1_2
    refine x_tableIn a 1 52 51 d_P_tell_1 (by decide) (by decide) rfl (by decide) ?_
    refine x_aload_n a 52 d_P_tell_52 rfl ?_
    refine x_getR a 53 f_P_24 d_P_tell_53 (kP (by omega)) (by omega) (by decide) (rP4 (by omega)) ?_
    refine x_iload_n a 56 d_P_tell_56 rfl ?_
    refine x_iald a 57 d_P_tell_57 (kA8 (by omega)) (by omega) (j := 2) (by decide) (by decide) (by decide) rfl ?_
    exact x_iret a qf 58 d_P_tell_58 rfl ⟨rfl, rfl⟩
  by_cases s1_3 : x = 3
  · subst s1_3
    refine x_tableIn a 1 52 51 d_P_tell_1 (by decide) (by decide) rfl (by decide) ?_
    refine x_aload_n a 52 d_P_tell_52 rfl ?_
    refine x_getR a 53 f_P_24 d_P_tell_53 (kP (by omega)) (by omega) (by decide) (rP4 (by omega)) ?_
    refine x_iload_n a 56 d_P_tell_56 rfl ?_
    refine x_iald a 57 d_P_tell_57 (kA8 (by omega)) (by omega) (j := 3) (by decide) (by decide) (by decide) rfl ?_
    exact x_iret a qf 58 d_P_tell_58 rfl ⟨rfl, rfl⟩
  by_cases s1_4 : x = 4
  · subst s1_4
    refine x_tableIn a 1 59 58 d_P_tell_1 (by decide) (by decide) rfl (by decide) ?_
    refine x_aload_n a 59 d_P_tell_59 rfl ?_
    refine x_getI a 60 f_P_60 d_P_tell_60 (kP (by omega)) (by omega) (by decide) rfl ?_
    exact x_iret a qf 63 d_P_tell_63 rfl ⟨rfl, rfl⟩
  by_cases s1_5 : x = 5
  · subst s1_5
    refine x_tableIn a 1 64 63 d_P_tell_1 (by decide) (by decide) rfl (by decide) ?_
    refine x_aload_n a 64 d_P_tell_64 rfl ?_
    refine x_getI a 65 f_P_53 d_P_tell_65 (kP (by omega)) (by omega) (by decide) rfl ?_
    refine x_if_eq a 68 75 d_P_tell_68 (by decide) (fun c68 => ?_) (fun c68 => ?_)
    · refine x_iconst a 75 0 d_P_tell_75 (by decide) ?_
      exact x_iret a qf 76 d_P_tell_76 rfl ⟨by first | (show some (1 : Int32) = some (if _ = _ then 0 else 1); rw [if_neg c68]) | (show some (0 : Int32) = some (if _ = _ then 0 else 1); rw [if_pos c68]), rfl⟩
    · refine x_iconst a 71 1 d_P_tell_71 (by decide) ?_
      refine x_goto a 72 76 d_P_tell_72 (by decide) ?_
      exact x_iret a qf 76 d_P_tell_76 rfl ⟨by first | (show some (1 : Int32) = some (if _ = _ then 0 else 1); rw [if_neg c68]) | (show some (0 : Int32) = some (if _ = _ then 0 else 1); rw [if_pos c68]), rfl⟩
  by_cases s1_6 : x = 6
  · subst s1_6
    refine x_tableIn a 1 77 76 d_P_tell_1 (by decide) (by decide) rfl (by decide) ?_
    refine x_aload_n a 77 d_P_tell_77 rfl ?_
    refine x_getI a 78 f_P_57 d_P_tell_78 (kP (by omega)) (by omega) (by decide) rfl ?_
    exact x_iret a qf 81 d_P_tell_81 rfl ⟨rfl, rfl⟩
  by_cases s1_7 : x = 7
  · subst s1_7
    refine x_tableIn a 1 82 81 d_P_tell_1 (by decide) (by decide) rfl (by decide) ?_
    refine x_aload_n a 82 d_P_tell_82 rfl ?_
    refine x_getI a 83 f_P_74 d_P_tell_83 (kP (by omega)) (by omega) (by decide) rfl ?_
    exact x_iret a qf 86 d_P_tell_86 rfl ⟨rfl, rfl⟩
  by_cases s1_8 : x = 8
  · subst s1_8
    refine x_tableIn a 1 87 86 d_P_tell_1 (by decide) (by decide) rfl (by decide) ?_
    refine x_aload_n a 87 d_P_tell_87 rfl ?_
    refine x_getR a 88 f_P_32 d_P_tell_88 (kP (by omega)) (by omega) (by decide) (rP5 (by omega)) ?_
    refine x_getI a 91 f_P_67 d_P_tell_91 (kV9 (by omega)) (by omega) (by decide) rfl ?_
    exact x_iret a qf 94 d_P_tell_94 rfl ⟨rfl, rfl⟩
  refine x_tableOut a 1 95 d_P_tell_1 (by (try simp (disch := omega) only [Int32.le_iff_toInt_le, Int32.lt_iff_toInt_lt, ← Int32.toInt_inj, Int32.reduceToInt, nI_1, nI_add, pk_sub, nI_toInt] at *); omega) (by decide) ?_
  refine x_iconst a 95 (-1) d_P_tell_95 (by decide) ?_
  exact x_iret a qf 96 d_P_tell_96 rfl ⟨by rw [if_neg s1_0, if_neg s1_1, if_neg s1_2, if_neg s1_3, if_neg s1_4, if_neg s1_5, if_neg s1_6, if_neg s1_7, if_neg s1_8], rfl⟩
