/-! react: what a fault does -/
def mr_reg (h : Hp) (p : Nat) : Nat → Hp
  | 0 => h
  | k + 1 => up2 (mr_reg h p k) 77 (4 * p + k) 0
theorem mr_reg_o (h : Hp) (p : Nat) {a : Nat} (ha : a ≠ 77) : ∀ k, mr_reg h p k a = h a
  | 0 => rfl
  | k + 1 => by rw [mr_reg, up2_o _ _ _ ha, mr_reg_o h p ha k]
def mr_mem (h : Hp) (f : Nat) : Nat → Hp
  | 0 => h
  | k + 1 => up2 (mr_mem h f k) 76 (f + k) 0
theorem mr_mem_o (h : Hp) (f : Nat) {a : Nat} (ha : a ≠ 76) : ∀ k, mr_mem h f k a = h a
  | 0 => rfl
  | k + 1 => by rw [mr_mem, up2_o _ _ _ ha, mr_mem_o h f ha k]
def mr_prt (h : Hp) (p : Nat) : Nat → Hp
  | 0 => h
  | k + 1 => up2 (mr_prt h p k) 69 k (if h 67 k = nI p then 0 else mr_prt h p k 69 k)
theorem mr_prt_o (h : Hp) (p : Nat) {a : Nat} (ha : a ≠ 69) : ∀ k, mr_prt h p k a = h a
  | 0 => rfl
  | k + 1 => by rw [mr_prt, up2_o _ _ _ ha, mr_prt_o h p ha k]
def m_again (g : Hp) (p : Nat) : Hp := mr_prt (mr_mem (mr_reg g p 4) (tn (g 62 p)) (tn (g 63 p))) p (tn (g 61 25))
def m_react (h : Hp) (p f : Nat) : Hp :=
  if h 72 (4 * p + f - 1) = 0 then up2 (up2 h 79 p (h 79 p + 1)) 80 p 0
  else if h 72 (4 * p + f - 1) = 1 then m_again (up2 (up2 h 79 p (h 79 p + 1)) 78 p 0) p
  else if h 72 (4 * p + f - 1) = 2 then up2 (up2 h 79 p (h 79 p + 1)) 78 p (if f = 4 then 0 else h 78 p + 1)
  else up2 h 79 p (h 79 p + 1)
/-- a region, or none -/
def mReg (h : Hp) (p : Nat) : Prop := (h 62 p = -1 ∧ h 63 p = 0) ∨ (Nlt (h 62 p) 65 ∧ Nlt (h 63 p) 33 ∧ tn (h 62 p) + tn (h 63 p) ≤ 64)
set_option maxRecDepth 100000 in
set_option maxHeartbeats 4000000 in
theorem l_M_react3 {E : En} {ad : Nat → Nat} {h : Hp} {n0 : Nat} {Post : Option Int32 → Wd → Prop} (a : Amb u_M_react 0 E) (qf : Fin Post n0 ad 0 0 E) (qa : va_AO R_2 (eS E) ∧ va_AO R_3 (eS E)) (hcs : 0 ≤ (eR E).cells ∧ 0 ≤ (eR E).slots) {p n : Nat} (hp4 : p < 4) (hn : h 61 25 = nI n) (hn6 : n ≤ 6) (hpo : Post none (w0 (mr_prt h p n))) : ∀ m k : Nat, k ≤ n → n < k + m → X E 0 0 ad (w0 (mr_prt h p k)) 147 [(0, .inr (some 61)), (1, .inl (nI p)), (4, .inl (nI k))] [] := by
  intro m
  induction m with
  | zero => intro k h1 h2; omega
  | succ m ih =>
    intro k h1 h2
    refine x_iload a 147 d_M_react_147 rfl ?_
    refine x_aload_n a 149 d_M_react_149 rfl ?_
    refine x_getI a 150 f_M_99 d_M_react_150 rfl (by omega) (by decide) (v := nI n) (by rw [mr_prt_o _ _ (by omega)]; exact hn) ?_
    refine x_icmp_ge a 153 191 d_M_react_153 (by decide) (fun c153 => ?_) (fun c153 => ?_)
    · have hk : k = n := (by (try simp (disch := omega) only [Int32.le_iff_toInt_le, Int32.lt_iff_toInt_lt, ← Int32.toInt_inj, Int32.reduceToInt, nI_1, nI_add, pk_sub, nI_toInt] at *); omega)
      subst hk
      exact x_vret a qf 191 d_M_react_191 rfl hpo
    · have hk : k < n := (by (try simp (disch := omega) only [Int32.le_iff_toInt_le, Int32.lt_iff_toInt_lt, ← Int32.toInt_inj, Int32.reduceToInt, nI_1, nI_add, pk_sub, nI_toInt] at *); omega)
      refine x_aload_n a 156 d_M_react_156 rfl ?_
      refine x_getR a 157 f_M_31 d_M_react_157 rfl (by omega) (by decide) (o' := 69) rfl ?_
      refine x_iload a 160 d_M_react_160 rfl ?_
      refine x_aload_n a 162 d_M_react_162 rfl ?_
      refine x_getR a 163 f_M_25 d_M_react_163 rfl (by omega) (by decide) (o' := 67) rfl ?_
      refine x_iload a 166 d_M_react_166 rfl ?_
      refine x_iald a 168 d_M_react_168 rfl (by omega) (j := k) rfl (by omega) (by decide) (v := h 67 k) (by rw [mr_prt_o _ _ (by omega)]) ?_
      refine x_iload_n a 169 d_M_react_169 rfl ?_
      refine x_icmp_ne a 170 177 d_M_react_170 (by decide) (fun c170 => ?_) (fun c170 => ?_)
      · refine x_aload_n a 177 d_M_react_177 rfl ?_
        refine x_getR a 178 f_M_31 d_M_react_178 rfl (by omega) (by decide) (o' := 69) rfl ?_
        refine x_iload a 181 d_M_react_181 rfl ?_
        refine x_iald a 183 d_M_react_183 rfl (by omega) (j := k) rfl (by omega) (by decide) rfl ?_
        refine x_push (y := if h 67 k = nI p then 0 else mr_prt h p k 69 k) (by first | (rw [if_pos c170]; done) | (rw [if_neg c170]; done)) ?_
        refine x_iast a 184 d_M_react_184 rfl (by omega) (j := k) rfl (by omega) (by decide) ?_
        refine x_iinc a 185 (nI (k + 1)) d_M_react_185 rfl (nI_inc k) (by decide) ?_
        refine x_goto a 188 147 d_M_react_188 (by decide) ?_
        refine x_lv [(0, .inr (some 61)), (1, .inl (nI p)), (4, .inl (nI (k + 1)))] (List.forall_mem_cons.mpr ⟨rfl, List.forall_mem_cons.mpr ⟨rfl, List.forall_mem_cons.mpr ⟨rfl, fun _ z => absurd z List.not_mem_nil⟩⟩⟩) ?_
        exact ih (k + 1) hk (by omega)
      · refine x_iconst a 173 0 d_M_react_173 (by decide) ?_
        refine x_goto a 174 184 d_M_react_174 (by decide) ?_
        refine x_push (y := if h 67 k = nI p then 0 else mr_prt h p k 69 k) (by first | (rw [if_pos c170]; done) | (rw [if_neg c170]; done)) ?_
        refine x_iast a 184 d_M_react_184 rfl (by omega) (j := k) rfl (by omega) (by decide) ?_
        refine x_iinc a 185 (nI (k + 1)) d_M_react_185 rfl (nI_inc k) (by decide) ?_
        refine x_goto a 188 147 d_M_react_188 (by decide) ?_
        refine x_lv [(0, .inr (some 61)), (1, .inl (nI p)), (4, .inl (nI (k + 1)))] (List.forall_mem_cons.mpr ⟨rfl, List.forall_mem_cons.mpr ⟨rfl, List.forall_mem_cons.mpr ⟨rfl, fun _ z => absurd z List.not_mem_nil⟩⟩⟩) ?_
        exact ih (k + 1) hk (by omega)
set_option maxRecDepth 100000 in
set_option maxHeartbeats 4000000 in
theorem l_M_react2 {E : En} {ad : Nat → Nat} {h : Hp} {n0 : Nat} {Post : Option Int32 → Wd → Prop} (a : Amb u_M_react 0 E) (qf : Fin Post n0 ad 0 0 E) (qa : va_AO R_2 (eS E) ∧ va_AO R_3 (eS E)) (hcs : 0 ≤ (eR E).cells ∧ 0 ≤ (eR E).slots) {p n f s : Nat} (hp4 : p < 4) (hn : h 61 25 = nI n) (hn6 : n ≤ 6) (hf : h 62 p = nI f) (hs : h 63 p = nI s) (hfs : f + s ≤ 64) (hpo : Post none (w0 (mr_prt (mr_mem h f s) p n))) : ∀ m k : Nat, k ≤ s → s < k + m → X E 0 0 ad (w0 (mr_mem h f k)) 112 [(0, .inr (some 61)), (1, .inl (nI p)), (4, .inl (nI (f + k)))] [] := by
  intro m
  induction m with
  | zero => intro k h1 h2; omega
  | succ m ih =>
    intro k h1 h2
    refine x_iload a 112 d_M_react_112 rfl ?_
    refine x_aload_n a 114 d_M_react_114 rfl ?_
    refine x_getR a 115 f_M_7 d_M_react_115 rfl (by omega) (by decide) (o' := 62) rfl ?_
    refine x_iload_n a 118 d_M_react_118 rfl ?_
    refine x_iald a 119 d_M_react_119 rfl (by omega) (j := p) rfl (by omega) (by decide) (v := nI f) (by rw [mr_mem_o _ _ (by omega)]; exact hf) ?_
    refine x_aload_n a 120 d_M_react_120 rfl ?_
    refine x_getR a 121 f_M_13 d_M_react_121 rfl (by omega) (by decide) (o' := 63) rfl ?_
    refine x_iload_n a 124 d_M_react_124 rfl ?_
    refine x_iald a 125 d_M_react_125 rfl (by omega) (j := p) rfl (by omega) (by decide) (v := nI s) (by rw [mr_mem_o _ _ (by omega)]; exact hs) ?_
    refine x_iadd a 126 d_M_react_126 ?_
    refine x_icmp_ge a 127 144 d_M_react_127 (by decide) (fun c127 => ?_) (fun c127 => ?_)
    · have hk : k = s := (by (try simp (disch := omega) only [Int32.le_iff_toInt_le, Int32.lt_iff_toInt_lt, ← Int32.toInt_inj, Int32.reduceToInt, nI_1, nI_add, pk_sub, nI_toInt] at *); omega)
      subst hk
      refine x_iconst a 144 0 d_M_react_144 (by decide) ?_
      refine x_istore a 145 d_M_react_145 (by decide) ?_
      refine x_lv [(0, .inr (some 61)), (1, .inl (nI p)), (4, .inl (nI 0))] (List.forall_mem_cons.mpr ⟨rfl, List.forall_mem_cons.mpr ⟨rfl, List.forall_mem_cons.mpr ⟨rfl, fun _ z => absurd z List.not_mem_nil⟩⟩⟩) ?_
      exact l_M_react3 (h := mr_mem h f k) a qf qa hcs hp4 (by rw [mr_mem_o _ _ (by omega)]; exact hn) hn6 hpo (n + 1) 0 (by omega) (by omega)
    · have hk : k < s := (by (try simp (disch := omega) only [Int32.le_iff_toInt_le, Int32.lt_iff_toInt_lt, ← Int32.toInt_inj, Int32.reduceToInt, nI_1, nI_add, pk_sub, nI_toInt] at *); omega)
      refine x_aload_n a 130 d_M_react_130 rfl ?_
      refine x_getR a 131 f_M_52 d_M_react_131 rfl (by omega) (by decide) (o' := 76) rfl ?_
      refine x_iload a 134 d_M_react_134 rfl ?_
      refine x_iconst a 136 0 d_M_react_136 (by decide) ?_
      refine x_iast a 137 d_M_react_137 rfl (by omega) (j := (f + k)) rfl (by omega) (by decide) ?_
      refine x_iinc a 138 (nI (f + (k + 1))) d_M_react_138 rfl (nI_inc (f + k)) (by decide) ?_
      refine x_goto a 141 112 d_M_react_141 (by decide) ?_
      refine x_lv [(0, .inr (some 61)), (1, .inl (nI p)), (4, .inl (nI (f + (k + 1))))] (List.forall_mem_cons.mpr ⟨rfl, List.forall_mem_cons.mpr ⟨rfl, List.forall_mem_cons.mpr ⟨rfl, fun _ z => absurd z List.not_mem_nil⟩⟩⟩) ?_
      exact ih (k + 1) hk (by omega)
set_option maxRecDepth 100000 in
set_option maxHeartbeats 4000000 in
theorem l_M_react0 {E : En} {ad : Nat → Nat} {h : Hp} {n0 : Nat} {Post : Option Int32 → Wd → Prop} (a : Amb u_M_react 0 E) (qf : Fin Post n0 ad 0 0 E) (qa : va_AO R_2 (eS E) ∧ va_AO R_3 (eS E)) (hcs : 0 ≤ (eR E).cells ∧ 0 ≤ (eR E).slots) {p n : Nat} (hp4 : p < 4) (hn : h 61 25 = nI n) (hn6 : n ≤ 6) (hf : h 62 p = -1) (hs : h 63 p = 0) (hpo : Post none (w0 (mr_prt h p n))) : X E 0 0 ad (w0 h) 112 [(0, .inr (some 61)), (1, .inl (nI p)), (4, .inl (-1))] [] := by
  refine x_iload a 112 d_M_react_112 rfl ?_
  refine x_aload_n a 114 d_M_react_114 rfl ?_
  refine x_getR a 115 f_M_7 d_M_react_115 rfl (by omega) (by decide) (o' := 62) rfl ?_
  refine x_iload_n a 118 d_M_react_118 rfl ?_
  refine x_iald a 119 d_M_react_119 rfl (by omega) (j := p) rfl (by omega) (by decide) (v := -1) hf ?_
  refine x_aload_n a 120 d_M_react_120 rfl ?_
  refine x_getR a 121 f_M_13 d_M_react_121 rfl (by omega) (by decide) (o' := 63) rfl ?_
  refine x_iload_n a 124 d_M_react_124 rfl ?_
  refine x_iald a 125 d_M_react_125 rfl (by omega) (j := p) rfl (by omega) (by decide) (v := 0) hs ?_
  refine x_iadd a 126 d_M_react_126 ?_
  refine x_icmp_ge a 127 144 d_M_react_127 (by decide) (fun c127 => ?_) (fun c127 => absurd c127 (fun z => z (by decide)))
  refine x_iconst a 144 0 d_M_react_144 (by decide) ?_
  refine x_istore a 145 d_M_react_145 (by decide) ?_
  refine x_lv [(0, .inr (some 61)), (1, .inl (nI p)), (4, .inl (nI 0))] (List.forall_mem_cons.mpr ⟨rfl, List.forall_mem_cons.mpr ⟨rfl, List.forall_mem_cons.mpr ⟨rfl, fun _ z => absurd z List.not_mem_nil⟩⟩⟩) ?_
  exact l_M_react3 a qf qa hcs hp4 hn hn6 hpo (n + 1) 0 (by omega) (by omega)
set_option maxRecDepth 100000 in
set_option maxHeartbeats 4000000 in
theorem l_M_react1 {E : En} {ad : Nat → Nat} {h : Hp} {n0 : Nat} {Post : Option Int32 → Wd → Prop} (a : Amb u_M_react 0 E) (qf : Fin Post n0 ad 0 0 E) (qa : va_AO R_2 (eS E) ∧ va_AO R_3 (eS E)) (hcs : 0 ≤ (eR E).cells ∧ 0 ≤ (eR E).slots) {p : Nat} (hp4 : p < 4) (hn : Nlt (h 61 25) 7) (hr : mReg h p) (hpo : Post none (w0 (m_again h p))) : ∀ m k : Nat, k ≤ 4 → 4 < k + m → X E 0 0 ad (w0 (mr_reg h p k)) 80 [(0, .inr (some 61)), (1, .inl (nI p)), (4, .inl (nI (4 * p + k)))] [] := by
  intro m
  induction m with
  | zero => intro k h1 h2; omega
  | succ m ih =>
    intro k h1 h2
    refine x_iload a 80 d_M_react_80 rfl ?_
    refine x_iconst a 82 4 d_M_react_82 (by decide) ?_
    refine x_iload_n a 83 d_M_react_83 rfl ?_
    refine x_imul a 84 d_M_react_84 ?_
    refine x_iconst a 85 4 d_M_react_85 (by decide) ?_
    refine x_iadd a 86 d_M_react_86 ?_
    refine x_push (y := nI (4 * p + 4)) (by rw [show (4 : Int32) = nI 4 from rfl, pk_mul, nI_add]) ?_
    refine x_icmp_ge a 87 104 d_M_react_87 (by decide) (fun c87 => ?_) (fun c87 => ?_)
    · have hk : k = 4 := (by (try simp (disch := omega) only [Int32.le_iff_toInt_le, Int32.lt_iff_toInt_lt, ← Int32.toInt_inj, Int32.reduceToInt, nI_1, nI_add, pk_sub, nI_toInt] at *); omega)
      subst hk
      have hn1 := hn.1
      refine x_aload_n a 104 d_M_react_104 rfl ?_
      refine x_getR a 105 f_M_7 d_M_react_105 rfl (by omega) (by decide) (o' := 62) rfl ?_
      refine x_iload_n a 108 d_M_react_108 rfl ?_
      refine x_iald a 109 d_M_react_109 rfl (by omega) (j := p) rfl hp4 (by decide) (v := h 62 p) (by rw [mr_reg_o _ _ (by omega)]) ?_
      refine x_istore a 110 d_M_react_110 (by decide) ?_
      rcases hr with ⟨e1, e2⟩ | ⟨e1, e2, e3⟩
      · refine x_lv [(0, .inr (some 61)), (1, .inl (nI p)), (4, .inl (-1))] (by rw [e1]; exact (List.forall_mem_cons.mpr ⟨rfl, List.forall_mem_cons.mpr ⟨rfl, List.forall_mem_cons.mpr ⟨rfl, fun _ z => absurd z List.not_mem_nil⟩⟩⟩)) ?_
        exact l_M_react0 (h := mr_reg h p 4) a qf qa hcs hp4 (by rw [mr_reg_o _ _ (by omega)]; exact hn.2) (by omega) (by rw [mr_reg_o _ _ (by omega)]; exact e1) (by rw [mr_reg_o _ _ (by omega)]; exact e2) (by unfold m_again at hpo; rw [e1, e2] at hpo; exact hpo)
      · refine x_lv [(0, .inr (some 61)), (1, .inl (nI p)), (4, .inl (nI (tn (h 62 p) + 0)))] (by rw [show nI (tn (h 62 p) + 0) = h 62 p from e1.2.symm]; exact (List.forall_mem_cons.mpr ⟨rfl, List.forall_mem_cons.mpr ⟨rfl, List.forall_mem_cons.mpr ⟨rfl, fun _ z => absurd z List.not_mem_nil⟩⟩⟩)) ?_
        exact l_M_react2 (h := mr_reg h p 4) a qf qa hcs hp4 (by rw [mr_reg_o _ _ (by omega)]; exact hn.2) (by omega) (by rw [mr_reg_o _ _ (by omega)]; exact e1.2) (by rw [mr_reg_o _ _ (by omega)]; exact e2.2) e3 hpo (tn (h 63 p) + 1) 0 (by omega) (by omega)
    · have hk : k < 4 := (by (try simp (disch := omega) only [Int32.le_iff_toInt_le, Int32.lt_iff_toInt_lt, ← Int32.toInt_inj, Int32.reduceToInt, nI_1, nI_add, pk_sub, nI_toInt] at *); omega)
      refine x_aload_n a 90 d_M_react_90 rfl ?_
      refine x_getR a 91 f_M_55 d_M_react_91 rfl (by omega) (by decide) (o' := 77) rfl ?_
      refine x_iload a 94 d_M_react_94 rfl ?_
      refine x_iconst a 96 0 d_M_react_96 (by decide) ?_
      refine x_iast a 97 d_M_react_97 rfl (by omega) (j := (4 * p + k)) rfl (by omega) (by decide) ?_
      refine x_iinc a 98 (nI (4 * p + (k + 1))) d_M_react_98 rfl (nI_inc (4 * p + k)) (by decide) ?_
      refine x_goto a 101 80 d_M_react_101 (by decide) ?_
      refine x_lv [(0, .inr (some 61)), (1, .inl (nI p)), (4, .inl (nI (4 * p + (k + 1))))] (List.forall_mem_cons.mpr ⟨rfl, List.forall_mem_cons.mpr ⟨rfl, List.forall_mem_cons.mpr ⟨rfl, fun _ z => absurd z List.not_mem_nil⟩⟩⟩) ?_
      exact ih (k + 1) hk (by omega)
set_option maxRecDepth 100000 in
set_option maxHeartbeats 4000000 in
theorem c_M_react (h : Hp) {p f : Nat} (hp4 : p < 4) (hf1 : 1 ≤ f) (hf4 : f ≤ 4) (hn : Nlt (h 61 25) 7) (hr : mReg h p) : Cn u_M_react 0 0 0 (w0 h) [.inr (some 61), .inl (nI p), .inl (nI f)] (fun r w' => r = none ∧ w' = w0 (m_react h p f)) := by
  refine Cn.of (by decide +kernel) (Nat.le_of_ble_eq_true rfl) (fun E ad a qf => ?_)
  have qa := qf.2.2.2
  have hcs : 0 ≤ (eR E).cells ∧ 0 ≤ (eR E).slots := ⟨Nat.zero_le _, Nat.zero_le _⟩
  obtain ⟨t, ht⟩ : ∃ z, z = h 72 (4 * p + f - 1) := ⟨_, rfl⟩
  refine x_aload_n a 0 d_M_react_0 rfl ?_
  refine x_getR a 1 f_M_40 d_M_react_1 rfl (by omega) (by decide) (o' := 72) rfl ?_
  refine x_iconst a 4 4 d_M_react_4 (by decide) ?_
  refine x_iload_n a 5 d_M_react_5 rfl ?_
  refine x_imul a 6 d_M_react_6 ?_
  refine x_iload_n a 7 d_M_react_7 rfl ?_
  refine x_iadd a 8 d_M_react_8 ?_
  refine x_iconst a 9 1 d_M_react_9 (by decide) ?_
  refine x_isub a 10 d_M_react_10 ?_
  refine x_iald a 11 d_M_react_11 rfl (by omega) (j := 4 * p + f - 1) (by rw [ix_n (k := 4) (K := 4) rfl]; exact pk_sub (b := 1) (by omega)) (by omega) (by decide) (v := t) ht.symm ?_
  refine x_istore_n a 12 d_M_react_12 (by decide) ?_
  refine x_aload_n a 13 d_M_react_13 rfl ?_
  refine x_getR a 14 f_M_61 d_M_react_14 rfl (by omega) (by decide) (o' := 79) rfl ?_
  refine x_iload_n a 17 d_M_react_17 rfl ?_
  refine x_dup2 a 18 d_M_react_18 ?_
  refine x_iald a 19 d_M_react_19 rfl (by omega) (j := p) rfl (by omega) (by decide) rfl ?_
  refine x_iconst a 20 1 d_M_react_20 (by decide) ?_
  refine x_iadd a 21 d_M_react_21 ?_
  refine x_iast a 22 d_M_react_22 rfl (by omega) (j := p) rfl (by omega) (by decide) ?_
  by_cases s23_0 : t = 0
  · subst s23_0
    refine x_iload_n a 23 d_M_react_23 rfl ?_
    refine x_if_ne a 24 34 d_M_react_24 (by decide) (fun z => absurd z (by decide)) (fun _ => ?_)
    refine x_aload_n a 27 d_M_react_27 rfl ?_
    refine x_getR a 28 f_M_64 d_M_react_28 rfl (by omega) (by decide) (o' := 80) rfl ?_
    refine x_iload_n a 31 d_M_react_31 rfl ?_
    refine x_iconst a 32 0 d_M_react_32 (by decide) ?_
    refine x_zast a 33 d_M_react_33 rfl (by omega) (j := p) rfl (by omega) (by decide) rfl ?_
    refine x_iload_n a 34 d_M_react_34 rfl ?_
    refine x_iconst a 35 2 d_M_react_35 (by decide) ?_
    refine x_icmp_ne a 36 62 d_M_react_36 (by decide) (fun _ => ?_) (fun z => absurd z (by decide))
    refine x_iload_n a 62 d_M_react_62 rfl ?_
    refine x_iconst a 63 1 d_M_react_63 (by decide) ?_
    refine x_icmp_eq a 64 68 d_M_react_64 (by decide) (fun z => absurd z (by decide)) (fun _ => ?_)
    exact x_vret a qf 67 d_M_react_67 rfl ⟨rfl, by unfold m_react; rw [← ht]; first | (rw [if_pos (show (0 : Int32) = 0 from rfl)]; done) | (rw [if_neg (show ¬ (1 : Int32) = 0 by decide), if_pos (show (1 : Int32) = 1 from rfl)]; done) | (rw [if_neg (show ¬ (2 : Int32) = 0 by decide), if_neg (show ¬ (2 : Int32) = 1 by decide), if_pos (show (2 : Int32) = 2 from rfl)]; done) | (rw [if_neg s23_0, if_neg s23_1, if_neg s23_2]; done)⟩
  by_cases s23_1 : t = 1
  · subst s23_1
    refine x_iload_n a 23 d_M_react_23 rfl ?_
    refine x_if_ne a 24 34 d_M_react_24 (by decide) (fun _ => ?_) (fun z => absurd z (by decide))
    refine x_iload_n a 34 d_M_react_34 rfl ?_
    refine x_iconst a 35 2 d_M_react_35 (by decide) ?_
    refine x_icmp_ne a 36 62 d_M_react_36 (by decide) (fun _ => ?_) (fun z => absurd z (by decide))
    refine x_iload_n a 62 d_M_react_62 rfl ?_
    refine x_iconst a 63 1 d_M_react_63 (by decide) ?_
    refine x_icmp_eq a 64 68 d_M_react_64 (by decide) (fun _ => ?_) (fun z => absurd z (by decide))
    refine x_aload_n a 68 d_M_react_68 rfl ?_
    refine x_getR a 69 f_M_58 d_M_react_69 rfl (by omega) (by decide) (o' := 78) rfl ?_
    refine x_iload_n a 72 d_M_react_72 rfl ?_
    refine x_iconst a 73 0 d_M_react_73 (by decide) ?_
    refine x_iast a 74 d_M_react_74 rfl (by omega) (j := p) rfl (by omega) (by decide) ?_
    refine x_iconst a 75 4 d_M_react_75 (by decide) ?_
    refine x_iload_n a 76 d_M_react_76 rfl ?_
    refine x_imul a 77 d_M_react_77 ?_
    refine x_istore a 78 d_M_react_78 (by decide) ?_
    refine x_lv [(0, .inr (some 61)), (1, .inl (nI p)), (4, .inl (nI (4 * p + 0)))] (by rw [show nI (4 * p + 0) = (4 : Int32) * nI p from (pk_mul 4 p).symm]; exact (List.forall_mem_cons.mpr ⟨rfl, List.forall_mem_cons.mpr ⟨rfl, List.forall_mem_cons.mpr ⟨rfl, fun _ z => absurd z List.not_mem_nil⟩⟩⟩)) ?_
    exact l_M_react1 (h := up2 (up2 h 79 p (h 79 p + 1)) 78 p 0) a qf qa hcs hp4 (by rw [up2_o _ _ _ (by omega), up2_o _ _ _ (by omega)]; exact hn) (by unfold mReg; rw [up2_o _ _ _ (by omega), up2_o _ _ _ (by omega), up2_o _ _ _ (by omega), up2_o _ _ _ (by omega)]; exact hr) ⟨rfl, by unfold m_react; rw [← ht]; first | (rw [if_pos (show (0 : Int32) = 0 from rfl)]; done) | (rw [if_neg (show ¬ (1 : Int32) = 0 by decide), if_pos (show (1 : Int32) = 1 from rfl)]; done) | (rw [if_neg (show ¬ (2 : Int32) = 0 by decide), if_neg (show ¬ (2 : Int32) = 1 by decide), if_pos (show (2 : Int32) = 2 from rfl)]; done) | (rw [if_neg s23_0, if_neg s23_1, if_neg s23_2]; done)⟩ 5 0 (by omega) (by omega)
  by_cases s23_2 : t = 2
  · subst s23_2
    refine x_iload_n a 23 d_M_react_23 rfl ?_
    refine x_if_ne a 24 34 d_M_react_24 (by decide) (fun _ => ?_) (fun z => absurd z (by decide))
    refine x_iload_n a 34 d_M_react_34 rfl ?_
    refine x_iconst a 35 2 d_M_react_35 (by decide) ?_
    refine x_icmp_ne a 36 62 d_M_react_36 (by decide) (fun z => absurd z (by decide)) (fun _ => ?_)
    refine x_aload_n a 39 d_M_react_39 rfl ?_
    refine x_getR a 40 f_M_58 d_M_react_40 rfl (by omega) (by decide) (o' := 78) rfl ?_
    refine x_iload_n a 43 d_M_react_43 rfl ?_
    refine x_iload_n a 44 d_M_react_44 rfl ?_
    refine x_iconst a 45 4 d_M_react_45 (by decide) ?_
    refine x_icmp_ne a 46 53 d_M_react_46 (by decide) (fun c46 => ?_) (fun c46 => ?_)
    · refine x_aload_n a 53 d_M_react_53 rfl ?_
      refine x_getR a 54 f_M_58 d_M_react_54 rfl (by omega) (by decide) (o' := 78) rfl ?_
      refine x_iload_n a 57 d_M_react_57 rfl ?_
      refine x_iald a 58 d_M_react_58 rfl (by omega) (j := p) rfl (by omega) (by decide) (v := h 78 p) (by rw [up2_o _ _ _ (by omega)]) ?_
      refine x_iconst a 59 1 d_M_react_59 (by decide) ?_
      refine x_iadd a 60 d_M_react_60 ?_
      refine x_push (y := if f = 4 then 0 else h 78 p + 1) (by first | (rw [if_pos (by (try simp (disch := omega) only [Int32.le_iff_toInt_le, Int32.lt_iff_toInt_lt, ← Int32.toInt_inj, Int32.reduceToInt, nI_1, nI_add, pk_sub, nI_toInt] at *); omega)]; done) | (rw [if_neg (by (try simp (disch := omega) only [Int32.le_iff_toInt_le, Int32.lt_iff_toInt_lt, ← Int32.toInt_inj, Int32.reduceToInt, nI_1, nI_add, pk_sub, nI_toInt] at *); omega)]; done)) ?_
      refine x_iast a 61 d_M_react_61 rfl (by omega) (j := p) rfl (by omega) (by decide) ?_
      refine x_iload_n a 62 d_M_react_62 rfl ?_
      refine x_iconst a 63 1 d_M_react_63 (by decide) ?_
      refine x_icmp_eq a 64 68 d_M_react_64 (by decide) (fun z => absurd z (by decide)) (fun _ => ?_)
      exact x_vret a qf 67 d_M_react_67 rfl ⟨rfl, by unfold m_react; rw [← ht]; first | (rw [if_pos (show (0 : Int32) = 0 from rfl)]; done) | (rw [if_neg (show ¬ (1 : Int32) = 0 by decide), if_pos (show (1 : Int32) = 1 from rfl)]; done) | (rw [if_neg (show ¬ (2 : Int32) = 0 by decide), if_neg (show ¬ (2 : Int32) = 1 by decide), if_pos (show (2 : Int32) = 2 from rfl)]; done) | (rw [if_neg s23_0, if_neg s23_1, if_neg s23_2]; done)⟩
    · refine x_iconst a 49 0 d_M_react_49 (by decide) ?_
      refine x_goto a 50 61 d_M_react_50 (by decide) ?_
      refine x_push (y := if f = 4 then 0 else h 78 p + 1) (by first | (rw [if_pos (by (try simp (disch := omega) only [Int32.le_iff_toInt_le, Int32.lt_iff_toInt_lt, ← Int32.toInt_inj, Int32.reduceToInt, nI_1, nI_add, pk_sub, nI_toInt] at *); omega)]; done) | (rw [if_neg (by (try simp (disch := omega) only [Int32.le_iff_toInt_le, Int32.lt_iff_toInt_lt, ← Int32.toInt_inj, Int32.reduceToInt, nI_1, nI_add, pk_sub, nI_toInt] at *); omega)]; done)) ?_
      refine x_iast a 61 d_M_react_61 rfl (by omega) (j := p) rfl (by omega) (by decide) ?_
      refine x_iload_n a 62 d_M_react_62 rfl ?_
      refine x_iconst a 63 1 d_M_react_63 (by decide) ?_
      refine x_icmp_eq a 64 68 d_M_react_64 (by decide) (fun z => absurd z (by decide)) (fun _ => ?_)
      exact x_vret a qf 67 d_M_react_67 rfl ⟨rfl, by unfold m_react; rw [← ht]; first | (rw [if_pos (show (0 : Int32) = 0 from rfl)]; done) | (rw [if_neg (show ¬ (1 : Int32) = 0 by decide), if_pos (show (1 : Int32) = 1 from rfl)]; done) | (rw [if_neg (show ¬ (2 : Int32) = 0 by decide), if_neg (show ¬ (2 : Int32) = 1 by decide), if_pos (show (2 : Int32) = 2 from rfl)]; done) | (rw [if_neg s23_0, if_neg s23_1, if_neg s23_2]; done)⟩
  refine x_iload_n a 23 d_M_react_23 rfl ?_
  refine x_if_ne a 24 34 d_M_react_24 (by decide) (fun c24 => ?_) (fun c24 => absurd c24 s23_0)
  refine x_iload_n a 34 d_M_react_34 rfl ?_
  refine x_iconst a 35 2 d_M_react_35 (by decide) ?_
  refine x_icmp_ne a 36 62 d_M_react_36 (by decide) (fun c36 => ?_) (fun c36 => absurd c36 s23_2)
  refine x_iload_n a 62 d_M_react_62 rfl ?_
  refine x_iconst a 63 1 d_M_react_63 (by decide) ?_
  refine x_icmp_eq a 64 68 d_M_react_64 (by decide) (fun c64 => absurd c64 s23_1) (fun c64 => ?_)
  exact x_vret a qf 67 d_M_react_67 rfl ⟨rfl, by unfold m_react; rw [← ht]; first | (rw [if_pos (show (0 : Int32) = 0 from rfl)]; done) | (rw [if_neg (show ¬ (1 : Int32) = 0 by decide), if_pos (show (1 : Int32) = 1 from rfl)]; done) | (rw [if_neg (show ¬ (2 : Int32) = 0 by decide), if_neg (show ¬ (2 : Int32) = 1 by decide), if_pos (show (2 : Int32) = 2 from rfl)]; done) | (rw [if_neg s23_0, if_neg s23_1, if_neg s23_2]; done)⟩
