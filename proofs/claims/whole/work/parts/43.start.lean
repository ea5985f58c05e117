theorem hI_0 {o : Nat} (h : o ≠ 62) (k : Nat) : hI o k = 0 := by rw [hI_o h]
theorem hI_62 : ∀ j, j < 4 → hI 62 j = -1 := by decide
theorem Nlt0 {n : Nat} (h : 0 < n) : Nlt 0 n := ⟨h, rfl⟩
theorem R2_fresh : R2 hI hI 0 := by
  have z : ∀ o k, o ≠ 62 → hI o k = 0 := fun o k h => hI_0 h k
  have t0 : tn (0 : Int32) = 0 := rfl
  refine ⟨?_, ?_, ?_, ?_, ?_, ?_, ?_⟩
  · intro k hk
    rw [z 1 k (by omega), z 76 k (by omega)]
  · intro j hj
    refine ⟨?_, ?_, ?_, ?_, ?_, ?_, ?_⟩
    · exact Or.inl ⟨hI_62 j hj, z 63 j (by omega), z _ _ (by omega), z _ _ (by omega)⟩
    · intro i hi
      exact ⟨(z _ _ (by omega)).trans (z 73 _ (by omega)).symm, (z _ _ (by omega)).trans (z 74 _ (by omega)).symm, (z _ _ (by omega)).trans (z 75 _ (by omega)).symm⟩
    · intro f hf
      exact ⟨(z _ _ (by omega)).trans (z 72 _ (by omega)).symm, Or.inl (z 72 _ (by omega))⟩
    · intro x hx
      exact (z _ _ (by omega)).trans (z 77 _ (by omega)).symm
    · exact ⟨(z _ _ (by omega)).trans (z 78 _ (by omega)).symm, (z _ _ (by omega)).trans (z 80 _ (by omega)).symm, (z _ _ (by omega)).trans (z 79 _ (by omega)).symm⟩
    · exact ⟨(z _ _ (by omega)).trans (z 84 _ (by omega)).symm, by rw [z 84 j (by omega)]; exact Nlt0 (by omega), fun i hi => (z _ _ (by omega)).trans (z 85 _ (by omega)).symm⟩
    · refine ⟨by rw [z _ _ (by omega)]; exact Nlt0 (by omega), by rw [z 82 _ (by omega)]; exact Nlt0 (by omega), (z _ _ (by omega)).trans (z 82 _ (by omega)).symm, fun i hi => ?_⟩
      rw [z 82 j (by omega), t0] at hi
      omega
  · intro i hi
    refine ⟨⟨(z _ _ (by omega)).trans (z 66 _ (by omega)).symm, (z _ _ (by omega)).trans (z 67 _ (by omega)).symm, (z _ _ (by omega)).trans (z 68 _ (by omega)).symm, (z _ _ (by omega)).trans (z 70 _ (by omega)).symm, by rw [z 68 _ (by omega)]; exact Nlt0 (by omega)⟩, ?_⟩
    refine ⟨by rw [z _ _ (by omega)]; exact Nlt0 (by omega), by rw [z 69 _ (by omega)]; exact Nlt0 (by omega), (z _ _ (by omega)).trans (z 69 _ (by omega)).symm, fun t ht => ?_, fun _ => z 69 _ (by omega), fun _ => by rw [z 69 _ (by omega)]; decide⟩
    rw [z 69 i (by omega), t0] at ht
    omega
  · refine ⟨(z _ _ (by omega)).trans (z 61 25 (by omega)).symm, by rw [z 61 25 (by omega)]; exact Nlt0 (by omega), fun i hi => ?_⟩
    rw [z 61 25 (by omega), t0] at hi
    omega
  · refine ⟨(z _ _ (by omega)).trans (z 61 24 (by omega)).symm, by rw [z 61 24 (by omega)]; exact Nlt0 (by omega), fun i hi => ?_⟩
    rw [z 61 24 (by omega), t0] at hi
    omega
  · exact ⟨(z _ _ (by omega)).trans (z 61 26 (by omega)).symm, (z _ _ (by omega)).trans (z 61 27 (by omega)).symm, (z _ _ (by omega)).trans (z 61 28 (by omega)).symm, (z _ _ (by omega)).trans (z 61 29 (by omega)).symm⟩
  · intro hn
    exact absurd (z 61 26 (by omega)) hn
theorem rM_61 : rM 0 61 = fun _ => none := by
  funext k
  show (if 61 = 61 then (if k < 0 then some (62 + k) else none) else _) = none
  rw [if_pos rfl, if_neg (by omega)]
theorem Scr.ag {E : En} {ad ad' : Nat → Nat} {L : Nat} {xs : Nat → Int32} (S : Scr E ad L xs) (h : AG 0 ad' ad) : Scr E ad' L xs := by
  unfold Scr
  rw [h 1000 (Or.inr (Nat.le_refl _))]
  exact S
set_option maxRecDepth 100000 in
set_option maxHeartbeats 4000000 in
theorem l_L_begin {nm : String} {E : En} {ad : Nat → Nat} {L : Nat} {xs : Nat → Int32} (a : Amb (uL nm) 8 E) (qa : va_AO R_2 (eS E) ∧ va_AO R_3 (eS E)) (hcs : 86 ≤ (eR E).cells ∧ 1076 ≤ (eR E).slots) (S : Scr E ad L xs) (hL : L ≤ 3072) (Z : ∀ (ad : Nat → Nat) (w : Wd) (lv : List (Nat × AV)), X E 86 1076 ad w 536 lv [.inl 1]) : X E 0 0 ad (0, k0, rN, hZ) 0 [(0, .inr (some 1000))] [] := by
  have hA : AG 0 ad ad := AG.rf
  refine y_new (ci := 0) a 0 hA (Nat.le_refl _) rfl rfl rfl d_L_law_0 lay0 cl_L_7 in0 ii0 df0 (by omega) (by refine ⟨?_, ?_⟩ <;> repeat' first | exact okLn | exact okSn | exact okVi | exact okVo (by omega) | refine okLc ?_ ?_ | refine okSc ?_ ?_) (by omega) (show 0 + 6 ≤ _ by omega) (fun ad1 hA1 => ?_)
  refine x_dup a 3 d_L_law_3 ?_
  refine x_callI a qa 4 g_L_9 d_L_law_4 c_D_init rfl rfl (by decide) (Nat.le_of_ble_eq_true rfl) (by refine ⟨?_, ?_⟩ <;> repeat' first | exact okLn | exact okSn | exact okVi | exact okVo (by omega) | refine okLc ?_ ?_ | refine okSc ?_ ?_) ⟨by omega, show 0 + 6 + 553 ≤ _ by omega⟩ (fun v w' ad2 h2 hp => ?_)
  obtain ⟨rfl, rfl⟩ := hp
  have hA2 := hA1.nx (n := 1) (by omega) h2
  refine x_st0 ?_
  refine x_astore_n a 7 d_L_law_7 (show 1 < 4 by decide) ?_
  refine x_lv [(0, .inr (some 1000)), (1, .inr (some 0))] (List.forall_mem_cons.mpr ⟨rfl, List.forall_mem_cons.mpr ⟨rfl, fun _ z => absurd z List.not_mem_nil⟩⟩) ?_
  refine y_new (n := 61) (ci := 5) a 8 hA2 (by omega) rfl rM_61 rfl d_L_law_8 lay5 cl_L_10 in5 ii5 df5 (by omega) (by refine ⟨?_, ?_⟩ <;> repeat' first | exact okLn | exact okSn | exact okVi | exact okVo (by omega) | refine okLc ?_ ?_ | refine okSc ?_ ?_) (by omega) (show 0 + 6 + 553 + 31 ≤ _ by omega) (fun ad3 hA3 => ?_)
  refine x_dup a 11 d_L_law_11 ?_
  refine x_callI a qa 12 g_L_12 d_L_law_12 c_M_init rfl rfl (by decide) (Nat.le_of_ble_eq_true rfl) (by refine ⟨?_, ?_⟩ <;> repeat' first | exact okLn | exact okSn | exact okVi | exact okVo (by omega) | refine okLc ?_ ?_ | refine okSc ?_ ?_) ⟨by omega, show 0 + 6 + 553 + 31 + 486 ≤ _ by omega⟩ (fun v w' ad4 h4 hp => ?_)
  obtain ⟨rfl, rfl⟩ := hp
  have hA4 := hA3.nx (n := 62) (by omega) h4
  refine x_st0 ?_
  refine x_astore_n a 15 d_L_law_15 (show 2 < 4 by decide) ?_
  refine x_iconst a 16 0 d_L_law_16 (by decide) ?_
  refine x_istore_n a 17 d_L_law_17 (show 3 < 4 by decide) ?_
  refine x_lv [(0, .inr (some 1000)), (1, .inr (some 0)), (2, .inr (some 61)), (3, .inl (nI (6 * 0)))] (List.forall_mem_cons.mpr ⟨rfl, List.forall_mem_cons.mpr ⟨rfl, List.forall_mem_cons.mpr ⟨rfl, List.forall_mem_cons.mpr ⟨rfl, fun _ z => absurd z List.not_mem_nil⟩⟩⟩⟩) ?_
  exact l_L_loop a qa hcs (S.ag hA4) hL (Z ad4) (L + 1) 0 hI (by omega) (by omega) R2_fresh
