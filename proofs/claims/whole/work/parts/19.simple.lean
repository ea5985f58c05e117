/-! one place nearer -/
def mshift (h : Hp) (o b : Nat) : Nat → Hp
  | 0 => h
  | k + 1 => up2 (mshift h o b k) o (b + k) (mshift h o b k o (b + k + 1))
theorem mshift_o (h : Hp) {o b a : Nat} (ha : a ≠ o) : ∀ k, mshift h o b k a = h a
  | 0 => rfl
  | k + 1 => by rw [mshift, up2_o _ _ _ ha, mshift_o h ha k]
theorem m_go_o (h : Hp) {p a : Nat} (ha : a ≠ 78) : m_go h p a = h a := by unfold m_go; rw [up2_o _ _ _ ha]
def m_in11 (g : Hp) (p x c : Nat) : Hp :=
  if 0 < c then up2 (mshift (up2 (up2 g 77 x (g 83 (8 * p))) 82 p (nI (c - 1))) 83 (8 * p) (c - 1)) 77 (4 * p + 3) 1
  else up2 (up2 (up2 g 77 x 0) 82 p 0) 77 (4 * p + 3) 0
def m_out12 (g : Hp) (p x c : Nat) : Hp := up2 (if c < 16 then up2 g 85 (16 * p + c) (g 77 x) else g) 84 p (nI (c + 1))
def m_simp (g : Hp) (p : Nat) (o : Int32) (x : Nat) (b y : Int32) : Hp :=
  if o = 1 then up2 g 77 x b
  else if o = 2 then up2 g 77 x (g 77 x + y)
  else if o = 3 then up2 g 77 x (g 77 x - y)
  else if o = 4 then up2 g 77 x (g 77 x ^^^ y)
  else if o = 11 then m_in11 g p x (tn (g 82 p))
  else if o = 12 then m_out12 g p x (tn (g 84 p))
  else if o = 13 then up2 g 81 p 1
  else if o = 14 then up2 g 80 p 0
  else g
def m_simple (h : Hp) (p : Nat) (o x b : Int32) : Hp × Nat := if o < 0 ∨ 14 < o then (h, 3) else (m_simp (m_go h p) p o (4 * p + rg x) b (h 77 (4 * p + rg b)), 0)
set_option maxRecDepth 100000 in
set_option maxHeartbeats 4000000 in
theorem l_M_shift11 {E : En} {ad : Nat → Nat} {h : Hp} (a : Amb u_M_simple 1 E) {p x n : Nat} (hp4 : p < 4) (hn : h 82 p = nI n) (hn8 : n ≤ 7) (K : X E 0 0 ad (w0 (mshift h 83 (8 * p) n)) 235 [(0, .inr (some 61)), (1, .inl (nI p)), (2, .inl 11), (5, .inl (nI x)), (7, .inl 1)] []) : ∀ m k : Nat, k ≤ n → n < k + m → X E 0 0 ad (w0 (mshift h 83 (8 * p) k)) 197 [(0, .inr (some 61)), (1, .inl (nI p)), (2, .inl 11), (5, .inl (nI x)), (7, .inl 1), (8, .inl (nI (8 * p + k)))] [] := by
  intro m
  induction m with
  | zero => intro k h1 h2; omega
  | succ m ih =>
    intro k h1 h2
    refine x_iload a 197 d_M_simple_197 rfl ?_
    refine x_bipush a 199 8 d_M_simple_199 (by decide) ?_
    refine x_iload_n a 201 d_M_simple_201 rfl ?_
    refine x_imul a 202 d_M_simple_202 ?_
    refine x_aload_n a 203 d_M_simple_203 rfl ?_
    refine x_getR a 204 f_M_71 d_M_simple_204 rfl (by omega) (by decide) (o' := 82) rfl ?_
    refine x_iload_n a 207 d_M_simple_207 rfl ?_
    refine x_iald a 208 d_M_simple_208 rfl (by omega) (j := p) rfl hp4 (by decide) (v := nI n) (by rw [mshift_o _ (by omega)]; exact hn) ?_
    refine x_iadd a 209 d_M_simple_209 ?_
    refine x_push (y := nI (8 * p + n)) (ix_n (k := 8) (K := 8) rfl p n) ?_
    refine x_icmp_ge a 210 235 d_M_simple_210 (by decide) (fun c210 => ?_) (fun c210 => ?_)
    · have hk : k = n := (by (try simp (disch := omega) only [Int32.le_iff_toInt_le, Int32.lt_iff_toInt_lt, ← Int32.toInt_inj, Int32.reduceToInt, nI_1, nI_add, pk_sub, nI_toInt] at *); omega)
      subst hk
      refine x_lv [(0, .inr (some 61)), (1, .inl (nI p)), (2, .inl 11), (5, .inl (nI x)), (7, .inl 1)] (List.forall_mem_cons.mpr ⟨rfl, List.forall_mem_cons.mpr ⟨rfl, List.forall_mem_cons.mpr ⟨rfl, List.forall_mem_cons.mpr ⟨rfl, List.forall_mem_cons.mpr ⟨rfl, fun _ z => absurd z List.not_mem_nil⟩⟩⟩⟩⟩) ?_
      exact K
    · have hk : k < n := (by (try simp (disch := omega) only [Int32.le_iff_toInt_le, Int32.lt_iff_toInt_lt, ← Int32.toInt_inj, Int32.reduceToInt, nI_1, nI_add, pk_sub, nI_toInt] at *); omega)
      refine x_aload_n a 213 d_M_simple_213 rfl ?_
      refine x_getR a 214 f_M_74 d_M_simple_214 rfl (by omega) (by decide) (o' := 83) rfl ?_
      refine x_iload a 217 d_M_simple_217 rfl ?_
      refine x_aload_n a 219 d_M_simple_219 rfl ?_
      refine x_getR a 220 f_M_74 d_M_simple_220 rfl (by omega) (by decide) (o' := 83) rfl ?_
      refine x_iload a 223 d_M_simple_223 rfl ?_
      refine x_iconst a 225 1 d_M_simple_225 (by decide) ?_
      refine x_iadd a 226 d_M_simple_226 ?_
      refine x_iald a 227 d_M_simple_227 rfl (by omega) (j := 8 * p + k + 1) (nI_1 _) (by omega) (by decide) rfl ?_
      refine x_iast a 228 d_M_simple_228 rfl (by omega) (j := (8 * p + k)) rfl (by omega) (by decide) ?_
      refine x_iinc a 229 (nI (8 * p + (k + 1))) d_M_simple_229 rfl (nI_inc (8 * p + k)) (by decide) ?_
      refine x_goto a 232 197 d_M_simple_232 (by decide) ?_
      refine x_lv [(0, .inr (some 61)), (1, .inl (nI p)), (2, .inl 11), (5, .inl (nI x)), (7, .inl 1), (8, .inl (nI (8 * p + (k + 1))))] (List.forall_mem_cons.mpr ⟨rfl, List.forall_mem_cons.mpr ⟨rfl, List.forall_mem_cons.mpr ⟨rfl, List.forall_mem_cons.mpr ⟨rfl, List.forall_mem_cons.mpr ⟨rfl, List.forall_mem_cons.mpr ⟨rfl, fun _ z => absurd z List.not_mem_nil⟩⟩⟩⟩⟩⟩) ?_
      exact ih (k + 1) hk (by omega)
set_option maxRecDepth 100000 in
set_option maxHeartbeats 4000000 in
theorem l_M_s11p {E : En} {ad : Nat → Nat} {h : Hp} {n0 : Nat} {Post : Option Int32 → Wd → Prop} (a : Amb u_M_simple 1 E) (qf : Fin Post n0 ad 0 0 E) {p x c : Nat} (hp4 : p < 4) (hx : x < 16) (hc : h 82 p = nI c) (hc8 : c ≤ 8) (hc0 : 0 < c) (hpo : Post (some 0) (w0 (m_in11 h p x c))) : X E 0 0 ad (w0 h) 127 [(0, .inr (some 61)), (1, .inl (nI p)), (2, .inl 11), (5, .inl (nI x))] [] := by
  refine x_aload_n a 127 d_M_simple_127 rfl ?_
  refine x_getR a 128 f_M_71 d_M_simple_128 rfl (by omega) (by decide) (o' := 82) rfl ?_
  refine x_iload_n a 131 d_M_simple_131 rfl ?_
  refine x_iald a 132 d_M_simple_132 rfl (by omega) (j := p) rfl (by omega) (by decide) (v := nI c) hc ?_
  refine x_if_le a 133 140 d_M_simple_133 (by decide) (fun c133 => absurd c133 (by (try simp (disch := omega) only [Int32.le_iff_toInt_le, Int32.lt_iff_toInt_lt, ← Int32.toInt_inj, Int32.reduceToInt, nI_1, nI_add, pk_sub, nI_toInt] at *); omega)) (fun c133 => ?_)
  refine x_iconst a 136 1 d_M_simple_136 (by decide) ?_
  refine x_goto a 137 141 d_M_simple_137 (by decide) ?_
  refine x_istore a 141 d_M_simple_141 (by decide) ?_
  refine x_aload_n a 143 d_M_simple_143 rfl ?_
  refine x_getR a 144 f_M_55 d_M_simple_144 rfl (by omega) (by decide) (o' := 77) rfl ?_
  refine x_iload a 147 d_M_simple_147 rfl ?_
  refine x_iload a 149 d_M_simple_149 rfl ?_
  refine x_if_eq a 151 166 d_M_simple_151 (by decide) (fun z => absurd z (by decide)) (fun _ => ?_)
  refine x_aload_n a 154 d_M_simple_154 rfl ?_
  refine x_getR a 155 f_M_74 d_M_simple_155 rfl (by omega) (by decide) (o' := 83) rfl ?_
  refine x_bipush a 158 8 d_M_simple_158 (by decide) ?_
  refine x_iload_n a 160 d_M_simple_160 rfl ?_
  refine x_imul a 161 d_M_simple_161 ?_
  refine x_iald a 162 d_M_simple_162 rfl (by omega) (j := 8 * p) (pk_mul 8 p) (by omega) (by decide) rfl ?_
  refine x_goto a 163 167 d_M_simple_163 (by decide) ?_
  refine x_iast a 167 d_M_simple_167 rfl (by omega) (j := x) rfl (by omega) (by decide) ?_
  refine x_aload_n a 168 d_M_simple_168 rfl ?_
  refine x_getR a 169 f_M_71 d_M_simple_169 rfl (by omega) (by decide) (o' := 82) rfl ?_
  refine x_iload_n a 172 d_M_simple_172 rfl ?_
  refine x_iload a 173 d_M_simple_173 rfl ?_
  refine x_if_eq a 175 189 d_M_simple_175 (by decide) (fun z => absurd z (by decide)) (fun _ => ?_)
  refine x_aload_n a 178 d_M_simple_178 rfl ?_
  refine x_getR a 179 f_M_71 d_M_simple_179 rfl (by omega) (by decide) (o' := 82) rfl ?_
  refine x_iload_n a 182 d_M_simple_182 rfl ?_
  refine x_iald a 183 d_M_simple_183 rfl (by omega) (j := p) rfl (by omega) (by decide) (v := nI c) (by rw [up2_o _ _ _ (by omega)]; exact hc) ?_
  refine x_iconst a 184 1 d_M_simple_184 (by decide) ?_
  refine x_isub a 185 d_M_simple_185 ?_
  refine x_goto a 186 190 d_M_simple_186 (by decide) ?_
  refine x_push (y := nI (c - 1)) (pk_sub (b := 1) (by omega)) ?_
  refine x_iast a 190 d_M_simple_190 rfl (by omega) (j := p) rfl (by omega) (by decide) ?_
  refine x_bipush a 191 8 d_M_simple_191 (by decide) ?_
  refine x_iload_n a 193 d_M_simple_193 rfl ?_
  refine x_imul a 194 d_M_simple_194 ?_
  refine x_istore a 195 d_M_simple_195 (by decide) ?_
  refine x_lv [(0, .inr (some 61)), (1, .inl (nI p)), (2, .inl 11), (5, .inl (nI x)), (7, .inl 1), (8, .inl (nI (8 * p + 0)))] (by rw [show nI (8 * p + 0) = (8 : Int32) * nI p from (pk_mul 8 p).symm]; exact (List.forall_mem_cons.mpr ⟨rfl, List.forall_mem_cons.mpr ⟨rfl, List.forall_mem_cons.mpr ⟨rfl, List.forall_mem_cons.mpr ⟨rfl, List.forall_mem_cons.mpr ⟨rfl, List.forall_mem_cons.mpr ⟨rfl, fun _ z => absurd z List.not_mem_nil⟩⟩⟩⟩⟩⟩)) ?_
  refine l_M_shift11 (n := c - 1) a hp4 (up2_s _ _ _ _) (by omega) ?_ c 0 (by omega) (by omega)
  refine x_aload_n a 235 d_M_simple_235 rfl ?_
  refine x_getR a 236 f_M_55 d_M_simple_236 rfl (by omega) (by decide) (o' := 77) rfl ?_
  refine x_iconst a 239 4 d_M_simple_239 (by decide) ?_
  refine x_iload_n a 240 d_M_simple_240 rfl ?_
  refine x_imul a 241 d_M_simple_241 ?_
  refine x_iconst a 242 3 d_M_simple_242 (by decide) ?_
  refine x_iadd a 243 d_M_simple_243 ?_
  refine x_iload a 244 d_M_simple_244 rfl ?_
  refine x_if_eq a 246 253 d_M_simple_246 (by decide) (fun z => absurd z (by decide)) (fun _ => ?_)
  refine x_iconst a 249 1 d_M_simple_249 (by decide) ?_
  refine x_goto a 250 254 d_M_simple_250 (by decide) ?_
  refine x_iast a 254 d_M_simple_254 rfl (by omega) (j := 4 * p + 3) (ix_n (k := 4) (K := 4) rfl p 3) (by omega) (by decide) ?_
  refine x_iload_n a 255 d_M_simple_255 rfl ?_
  refine x_bipush a 256 12 d_M_simple_256 (by decide) ?_
  refine x_icmp_ne a 258 305 d_M_simple_258 (by decide) (fun _ => ?_) (fun z => absurd z (by decide))
  refine x_iload_n a 305 d_M_simple_305 rfl ?_
  refine x_bipush a 306 13 d_M_simple_306 (by decide) ?_
  refine x_icmp_ne a 308 318 d_M_simple_308 (by decide) (fun _ => ?_) (fun z => absurd z (by decide))
  refine x_iload_n a 318 d_M_simple_318 rfl ?_
  refine x_bipush a 319 14 d_M_simple_319 (by decide) ?_
  refine x_icmp_ne a 321 331 d_M_simple_321 (by decide) (fun _ => ?_) (fun z => absurd z (by decide))
  refine x_iconst a 331 0 d_M_simple_331 (by decide) ?_
  exact x_iret a qf 332 d_M_simple_332 rfl (by unfold m_in11 at hpo; rw [if_pos hc0] at hpo; exact hpo)
set_option maxRecDepth 100000 in
set_option maxHeartbeats 4000000 in
theorem l_M_s11z {E : En} {ad : Nat → Nat} {h : Hp} {n0 : Nat} {Post : Option Int32 → Wd → Prop} (a : Amb u_M_simple 1 E) (qf : Fin Post n0 ad 0 0 E) {p x c : Nat} (hp4 : p < 4) (hx : x < 16) (hc : h 82 p = nI c) (hc8 : c ≤ 8) (hc0 : c = 0) (hpo : Post (some 0) (w0 (m_in11 h p x c))) : X E 0 0 ad (w0 h) 127 [(0, .inr (some 61)), (1, .inl (nI p)), (2, .inl 11), (5, .inl (nI x))] [] := by
  subst hc0
  refine x_aload_n a 127 d_M_simple_127 rfl ?_
  refine x_getR a 128 f_M_71 d_M_simple_128 rfl (by omega) (by decide) (o' := 82) rfl ?_
  refine x_iload_n a 131 d_M_simple_131 rfl ?_
  refine x_iald a 132 d_M_simple_132 rfl (by omega) (j := p) rfl (by omega) (by decide) (v := nI 0) hc ?_
  refine x_if_le a 133 140 d_M_simple_133 (by decide) (fun c133 => ?_) (fun c133 => absurd c133 (fun z => z (by decide)))
  refine x_iconst a 140 0 d_M_simple_140 (by decide) ?_
  refine x_istore a 141 d_M_simple_141 (by decide) ?_
  refine x_aload_n a 143 d_M_simple_143 rfl ?_
  refine x_getR a 144 f_M_55 d_M_simple_144 rfl (by omega) (by decide) (o' := 77) rfl ?_
  refine x_iload a 147 d_M_simple_147 rfl ?_
  refine x_iload a 149 d_M_simple_149 rfl ?_
  refine x_if_eq a 151 166 d_M_simple_151 (by decide) (fun _ => ?_) (fun z => absurd z (by decide))
  refine x_iconst a 166 0 d_M_simple_166 (by decide) ?_
  refine x_iast a 167 d_M_simple_167 rfl (by omega) (j := x) rfl (by omega) (by decide) ?_
  refine x_aload_n a 168 d_M_simple_168 rfl ?_
  refine x_getR a 169 f_M_71 d_M_simple_169 rfl (by omega) (by decide) (o' := 82) rfl ?_
  refine x_iload_n a 172 d_M_simple_172 rfl ?_
  refine x_iload a 173 d_M_simple_173 rfl ?_
  refine x_if_eq a 175 189 d_M_simple_175 (by decide) (fun _ => ?_) (fun z => absurd z (by decide))
  refine x_iconst a 189 0 d_M_simple_189 (by decide) ?_
  refine x_iast a 190 d_M_simple_190 rfl (by omega) (j := p) rfl (by omega) (by decide) ?_
  refine x_bipush a 191 8 d_M_simple_191 (by decide) ?_
  refine x_iload_n a 193 d_M_simple_193 rfl ?_
  refine x_imul a 194 d_M_simple_194 ?_
  refine x_istore a 195 d_M_simple_195 (by decide) ?_
  refine x_iload a 197 d_M_simple_197 rfl ?_
  refine x_bipush a 199 8 d_M_simple_199 (by decide) ?_
  refine x_iload_n a 201 d_M_simple_201 rfl ?_
  refine x_imul a 202 d_M_simple_202 ?_
  refine x_aload_n a 203 d_M_simple_203 rfl ?_
  refine x_getR a 204 f_M_71 d_M_simple_204 rfl (by omega) (by decide) (o' := 82) rfl ?_
  refine x_iload_n a 207 d_M_simple_207 rfl ?_
  refine x_iald a 208 d_M_simple_208 rfl (by omega) (j := p) rfl (by omega) (by decide) (v := 0) (up2_s _ _ _ _) ?_
  refine x_iadd a 209 d_M_simple_209 ?_
  refine x_icmp_ge a 210 235 d_M_simple_210 (by decide) (fun c210 => ?_) (fun c210 => absurd c210 (fun z => z (by rw [Int32.add_zero]; exact Int32.le_refl _)))
  refine x_aload_n a 235 d_M_simple_235 rfl ?_
  refine x_getR a 236 f_M_55 d_M_simple_236 rfl (by omega) (by decide) (o' := 77) rfl ?_
  refine x_iconst a 239 4 d_M_simple_239 (by decide) ?_
  refine x_iload_n a 240 d_M_simple_240 rfl ?_
  refine x_imul a 241 d_M_simple_241 ?_
  refine x_iconst a 242 3 d_M_simple_242 (by decide) ?_
  refine x_iadd a 243 d_M_simple_243 ?_
  refine x_iload a 244 d_M_simple_244 rfl ?_
  refine x_if_eq a 246 253 d_M_simple_246 (by decide) (fun _ => ?_) (fun z => absurd z (by decide))
  refine x_iconst a 253 0 d_M_simple_253 (by decide) ?_
  refine x_iast a 254 d_M_simple_254 rfl (by omega) (j := 4 * p + 3) (ix_n (k := 4) (K := 4) rfl p 3) (by omega) (by decide) ?_
  refine x_iload_n a 255 d_M_simple_255 rfl ?_
  refine x_bipush a 256 12 d_M_simple_256 (by decide) ?_
  refine x_icmp_ne a 258 305 d_M_simple_258 (by decide) (fun _ => ?_) (fun z => absurd z (by decide))
  refine x_iload_n a 305 d_M_simple_305 rfl ?_
  refine x_bipush a 306 13 d_M_simple_306 (by decide) ?_
  refine x_icmp_ne a 308 318 d_M_simple_308 (by decide) (fun _ => ?_) (fun z => absurd z (by decide))
  refine x_iload_n a 318 d_M_simple_318 rfl ?_
  refine x_bipush a 319 14 d_M_simple_319 (by decide) ?_
  refine x_icmp_ne a 321 331 d_M_simple_321 (by decide) (fun _ => ?_) (fun z => absurd z (by decide))
  refine x_iconst a 331 0 d_M_simple_331 (by decide) ?_
  exact x_iret a qf 332 d_M_simple_332 rfl (by unfold m_in11 at hpo; rw [if_neg (by omega)] at hpo; exact hpo)
set_option maxRecDepth 100000 in
set_option maxHeartbeats 4000000 in
theorem c_M_simple (h : Hp) {p : Nat} (hp4 : p < 4) (o x b : Int32) (hin : Nlt (h 82 p) 9) (hou : Nlt (h 84 p) (2 ^ 30)) : Cn u_M_simple 1 0 0 (w0 h) [.inr (some 61), .inl (nI p), .inl o, .inl x, .inl b] (fun v w' => v = some (nI (m_simple h p o x b).2) ∧ w' = w0 (m_simple h p o x b).1) := by
  refine Cn.of (by decide +kernel) (Nat.le_of_ble_eq_true rfl) (fun E ad a qf => ?_)
  have qa := qf.2.2.2
  have hcs : 0 ≤ (eR E).cells ∧ 0 ≤ (eR E).slots := ⟨Nat.zero_le _, Nat.zero_le _⟩
  have hrx := rg_lt x
  have hrb := rg_lt b
  have hin1 := hin.1
  have hou1 := hou.1
  refine x_iconst a 0 4 d_M_simple_0 (by decide) ?_
  refine x_iload_n a 1 d_M_simple_1 rfl ?_
  refine x_imul a 2 d_M_simple_2 ?_
  refine x_iload_n a 3 d_M_simple_3 rfl ?_
  refine x_iconst a 4 3 d_M_simple_4 (by decide) ?_
  refine x_iand a 5 d_M_simple_5 ?_
  refine x_iadd a 6 d_M_simple_6 ?_
  refine x_push (ix_r p x) ?_
  refine x_istore a 7 d_M_simple_7 (by decide) ?_
  refine x_aload_n a 9 d_M_simple_9 rfl ?_
  refine x_getR a 10 f_M_55 d_M_simple_10 rfl (by omega) (by decide) (o' := 77) rfl ?_
  refine x_iconst a 13 4 d_M_simple_13 (by decide) ?_
  refine x_iload_n a 14 d_M_simple_14 rfl ?_
  refine x_imul a 15 d_M_simple_15 ?_
  refine x_iload a 16 d_M_simple_16 rfl ?_
  refine x_iconst a 18 3 d_M_simple_18 (by decide) ?_
  refine x_iand a 19 d_M_simple_19 ?_
  refine x_iadd a 20 d_M_simple_20 ?_
  refine x_push (ix_r p b) ?_
  refine x_iald a 21 d_M_simple_21 rfl (by omega) (j := (4 * p + rg b)) rfl (by omega) (by decide) rfl ?_
  refine x_istore a 22 d_M_simple_22 (by decide) ?_
  refine x_iload_n a 24 d_M_simple_24 rfl ?_
  refine x_if_lt a 25 34 d_M_simple_25 (by decide) (fun c25 => ?_) (fun c25 => ?_)
  · refine x_iconst a 34 3 d_M_simple_34 (by decide) ?_
    exact x_iret a qf 35 d_M_simple_35 rfl ⟨by unfold m_simple; rw [if_pos (by (try simp (disch := omega) only [Int32.le_iff_toInt_le, Int32.lt_iff_toInt_lt, ← Int32.toInt_inj, Int32.reduceToInt, nI_1, nI_add, pk_sub, nI_toInt] at *); omega)]; rfl, by unfold m_simple; rw [if_pos (by (try simp (disch := omega) only [Int32.le_iff_toInt_le, Int32.lt_iff_toInt_lt, ← Int32.toInt_inj, Int32.reduceToInt, nI_1, nI_add, pk_sub, nI_toInt] at *); omega)]⟩
  · refine x_iload_n a 28 d_M_simple_28 rfl ?_
    refine x_bipush a 29 14 d_M_simple_29 (by decide) ?_
    refine x_icmp_le a 31 36 d_M_simple_31 (by decide) (fun c31 => ?_) (fun c31 => ?_)
    · have hno : ¬ (o < 0 ∨ 14 < o) := (by (try simp (disch := omega) only [Int32.le_iff_toInt_le, Int32.lt_iff_toInt_lt, ← Int32.toInt_inj, Int32.reduceToInt, nI_1, nI_add, pk_sub, nI_toInt] at *); omega)
      have hgi : m_go h p 82 p = nI (tn (h 82 p)) := by rw [m_go_o _ (by omega)]; exact hin.2
      have hgo : m_go h p 84 p = nI (tn (h 84 p)) := by rw [m_go_o _ (by omega)]; exact hou.2
      refine x_aload_n a 36 d_M_simple_36 rfl ?_
      refine x_iload_n a 37 d_M_simple_37 rfl ?_
      refine x_callV a qa 38 g_M_139 d_M_simple_38 (c_M_goOn _ hp4) rfl rfl rfl (show _ < 86 by omega) (by decide) (Nat.le_of_ble_eq_true rfl) hcs (fun v w' hp => ?_)
      obtain ⟨rfl, rfl⟩ := hp
      refine x_st0 ?_
      by_cases s41_1 : o = 1
      · subst s41_1
        refine x_iload_n a 41 d_M_simple_41 rfl ?_
        refine x_iconst a 42 1 d_M_simple_42 (by decide) ?_
        refine x_icmp_ne a 43 55 d_M_simple_43 (by decide) (fun z => absurd z (by decide)) (fun _ => ?_)
        refine x_aload_n a 46 d_M_simple_46 rfl ?_
        refine x_getR a 47 f_M_55 d_M_simple_47 rfl (by omega) (by decide) (o' := 77) rfl ?_
        refine x_iload a 50 d_M_simple_50 rfl ?_
        refine x_iload a 52 d_M_simple_52 rfl ?_
        refine x_iast a 54 d_M_simple_54 rfl (by omega) (j := (4 * p + rg x)) rfl (by omega) (by decide) ?_
        refine x_iload_n a 55 d_M_simple_55 rfl ?_
        refine x_iconst a 56 2 d_M_simple_56 (by decide) ?_
        refine x_icmp_ne a 57 77 d_M_simple_57 (by decide) (fun _ => ?_) (fun z => absurd z (by decide))
        refine x_iload_n a 77 d_M_simple_77 rfl ?_
        refine x_iconst a 78 3 d_M_simple_78 (by decide) ?_
        refine x_icmp_ne a 79 99 d_M_simple_79 (by decide) (fun _ => ?_) (fun z => absurd z (by decide))
        refine x_iload_n a 99 d_M_simple_99 rfl ?_
        refine x_iconst a 100 4 d_M_simple_100 (by decide) ?_
        refine x_icmp_ne a 101 121 d_M_simple_101 (by decide) (fun _ => ?_) (fun z => absurd z (by decide))
        refine x_iload_n a 121 d_M_simple_121 rfl ?_
        refine x_bipush a 122 11 d_M_simple_122 (by decide) ?_
        refine x_icmp_ne a 124 255 d_M_simple_124 (by decide) (fun _ => ?_) (fun z => absurd z (by decide))
        refine x_iload_n a 255 d_M_simple_255 rfl ?_
        refine x_bipush a 256 12 d_M_simple_256 (by decide) ?_
        refine x_icmp_ne a 258 305 d_M_simple_258 (by decide) (fun _ => ?_) (fun z => absurd z (by decide))
        refine x_iload_n a 305 d_M_simple_305 rfl ?_
        refine x_bipush a 306 13 d_M_simple_306 (by decide) ?_
        refine x_icmp_ne a 308 318 d_M_simple_308 (by decide) (fun _ => ?_) (fun z => absurd z (by decide))
        refine x_iload_n a 318 d_M_simple_318 rfl ?_
        refine x_bipush a 319 14 d_M_simple_319 (by decide) ?_
        refine x_icmp_ne a 321 331 d_M_simple_321 (by decide) (fun _ => ?_) (fun z => absurd z (by decide))
        refine x_iconst a 331 0 d_M_simple_331 (by decide) ?_
        exact x_iret a qf 332 d_M_simple_332 rfl ⟨by unfold m_simple; rw [if_neg hno]; rfl, by unfold m_simple; rw [if_neg hno]; unfold m_simp; first | (rw [if_neg s41_1, if_neg s41_2, if_neg s41_3, if_neg s41_4, if_neg s41_11, if_neg s41_12, if_neg s41_13, if_neg s41_14]; done) | (rw [if_pos rfl]; done) | (rw [if_neg (by decide), if_pos rfl]; done) | (rw [if_neg (by decide), if_neg (by decide), if_pos rfl]; done) | (rw [if_neg (by decide), if_neg (by decide), if_neg (by decide), if_pos rfl]; done) | (rw [if_neg (by decide), if_neg (by decide), if_neg (by decide), if_neg (by decide), if_pos rfl]; done) | (rw [if_neg (by decide), if_neg (by decide), if_neg (by decide), if_neg (by decide), if_neg (by decide), if_pos rfl, m_go_o _ (by omega : 84 ≠ 78)]; unfold m_out12; first | (rw [if_pos (show tn (h 84 p) < 16 from (by (try simp (disch := omega) only [Int32.le_iff_toInt_le, Int32.lt_iff_toInt_lt, ← Int32.toInt_inj, Int32.reduceToInt, nI_1, nI_add, pk_sub, nI_toInt] at *); omega))]; done) | (rw [if_neg (show ¬ tn (h 84 p) < 16 from (by (try simp (disch := omega) only [Int32.le_iff_toInt_le, Int32.lt_iff_toInt_lt, ← Int32.toInt_inj, Int32.reduceToInt, nI_1, nI_add, pk_sub, nI_toInt] at *); omega))]; done)) | (rw [if_neg (by decide), if_neg (by decide), if_neg (by decide), if_neg (by decide), if_neg (by decide), if_neg (by decide), if_pos rfl]; done) | (rw [if_neg (by decide), if_neg (by decide), if_neg (by decide), if_neg (by decide), if_neg (by decide), if_neg (by decide), if_neg (by decide), if_pos rfl]; done)⟩
      by_cases s41_2 : o = 2
      · subst s41_2
        refine x_iload_n a 41 d_M_simple_41 rfl ?_
        refine x_iconst a 42 1 d_M_simple_42 (by decide) ?_
        refine x_icmp_ne a 43 55 d_M_simple_43 (by decide) (fun _ => ?_) (fun z => absurd z (by decide))
        refine x_iload_n a 55 d_M_simple_55 rfl ?_
        refine x_iconst a 56 2 d_M_simple_56 (by decide) ?_
        refine x_icmp_ne a 57 77 d_M_simple_57 (by decide) (fun z => absurd z (by decide)) (fun _ => ?_)
        refine x_aload_n a 60 d_M_simple_60 rfl ?_
        refine x_getR a 61 f_M_55 d_M_simple_61 rfl (by omega) (by decide) (o' := 77) rfl ?_
        refine x_iload a 64 d_M_simple_64 rfl ?_
        refine x_aload_n a 66 d_M_simple_66 rfl ?_
        refine x_getR a 67 f_M_55 d_M_simple_67 rfl (by omega) (by decide) (o' := 77) rfl ?_
        refine x_iload a 70 d_M_simple_70 rfl ?_
        refine x_iald a 72 d_M_simple_72 rfl (by omega) (j := (4 * p + rg x)) rfl (by omega) (by decide) rfl ?_
        refine x_iload a 73 d_M_simple_73 rfl ?_
        refine x_iadd a 75 d_M_simple_75 ?_
        refine x_iast a 76 d_M_simple_76 rfl (by omega) (j := (4 * p + rg x)) rfl (by omega) (by decide) ?_
        refine x_iload_n a 77 d_M_simple_77 rfl ?_
        refine x_iconst a 78 3 d_M_simple_78 (by decide) ?_
        refine x_icmp_ne a 79 99 d_M_simple_79 (by decide) (fun _ => ?_) (fun z => absurd z (by decide))
        refine x_iload_n a 99 d_M_simple_99 rfl ?_
        refine x_iconst a 100 4 d_M_simple_100 (by decide) ?_
        refine x_icmp_ne a 101 121 d_M_simple_101 (by decide) (fun _ => ?_) (fun z => absurd z (by decide))
        refine x_iload_n a 121 d_M_simple_121 rfl ?_
        refine x_bipush a 122 11 d_M_simple_122 (by decide) ?_
        refine x_icmp_ne a 124 255 d_M_simple_124 (by decide) (fun _ => ?_) (fun z => absurd z (by decide))
        refine x_iload_n a 255 d_M_simple_255 rfl ?_
        refine x_bipush a 256 12 d_M_simple_256 (by decide) ?_
        refine x_icmp_ne a 258 305 d_M_simple_258 (by decide) (fun _ => ?_) (fun z => absurd z (by decide))
        refine x_iload_n a 305 d_M_simple_305 rfl ?_
        refine x_bipush a 306 13 d_M_simple_306 (by decide) ?_
        refine x_icmp_ne a 308 318 d_M_simple_308 (by decide) (fun _ => ?_) (fun z => absurd z (by decide))
        refine x_iload_n a 318 d_M_simple_318 rfl ?_
        refine x_bipush a 319 14 d_M_simple_319 (by decide) ?_
        refine x_icmp_ne a 321 331 d_M_simple_321 (by decide) (fun _ => ?_) (fun z => absurd z (by decide))
        refine x_iconst a 331 0 d_M_simple_331 (by decide) ?_
        exact x_iret a qf 332 d_M_simple_332 rfl ⟨by unfold m_simple; rw [if_neg hno]; rfl, by unfold m_simple; rw [if_neg hno]; unfold m_simp; first | (rw [if_neg s41_1, if_neg s41_2, if_neg s41_3, if_neg s41_4, if_neg s41_11, if_neg s41_12, if_neg s41_13, if_neg s41_14]; done) | (rw [if_pos rfl]; done) | (rw [if_neg (by decide), if_pos rfl]; done) | (rw [if_neg (by decide), if_neg (by decide), if_pos rfl]; done) | (rw [if_neg (by decide), if_neg (by decide), if_neg (by decide), if_pos rfl]; done) | (rw [if_neg (by decide), if_neg (by decide), if_neg (by decide), if_neg (by decide), if_pos rfl]; done) | (rw [if_neg (by decide), if_neg (by decide), if_neg (by decide), if_neg (by decide), if_neg (by decide), if_pos rfl, m_go_o _ (by omega : 84 ≠ 78)]; unfold m_out12; first | (rw [if_pos (show tn (h 84 p) < 16 from (by (try simp (disch := omega) only [Int32.le_iff_toInt_le, Int32.lt_iff_toInt_lt, ← Int32.toInt_inj, Int32.reduceToInt, nI_1, nI_add, pk_sub, nI_toInt] at *); omega))]; done) | (rw [if_neg (show ¬ tn (h 84 p) < 16 from (by (try simp (disch := omega) only [Int32.le_iff_toInt_le, Int32.lt_iff_toInt_lt, ← Int32.toInt_inj, Int32.reduceToInt, nI_1, nI_add, pk_sub, nI_toInt] at *); omega))]; done)) | (rw [if_neg (by decide), if_neg (by decide), if_neg (by decide), if_neg (by decide), if_neg (by decide), if_neg (by decide), if_pos rfl]; done) | (rw [if_neg (by decide), if_neg (by decide), if_neg (by decide), if_neg (by decide), if_neg (by decide), if_neg (by decide), if_neg (by decide), if_pos rfl]; done)⟩
      by_cases s41_3 : o = 3
      · subst s41_3
        refine x_iload_n a 41 d_M_simple_41 rfl ?_
        refine x_iconst a 42 1 d_M_simple_42 (by decide) ?_
        refine x_icmp_ne a 43 55 d_M_simple_43 (by decide) (fun _ => ?_) (fun z => absurd z (by decide))
        refine x_iload_n a 55 d_M_simple_55 rfl ?_
        refine x_iconst a 56 2 d_M_simple_56 (by decide) ?_
        refine x_icmp_ne a 57 77 d_M_simple_57 (by decide) (fun _ => ?_) (fun z => absurd z (by decide))
        refine x_iload_n a 77 d_M_simple_77 rfl ?_
        refine x_iconst a 78 3 d_M_simple_78 (by decide) ?_
        refine x_icmp_ne a 79 99 d_M_simple_79 (by decide) (fun z => absurd z (by decide)) (fun _ => ?_)
        refine x_aload_n a 82 d_M_simple_82 rfl ?_
        refine x_getR a 83 f_M_55 d_M_simple_83 rfl (by omega) (by decide) (o' := 77) rfl ?_
        refine x_iload a 86 d_M_simple_86 rfl ?_
        refine x_aload_n a 88 d_M_simple_88 rfl ?_
        refine x_getR a 89 f_M_55 d_M_simple_89 rfl (by omega) (by decide) (o' := 77) rfl ?_
        refine x_iload a 92 d_M_simple_92 rfl ?_
        refine x_iald a 94 d_M_simple_94 rfl (by omega) (j := (4 * p + rg x)) rfl (by omega) (by decide) rfl ?_
        refine x_iload a 95 d_M_simple_95 rfl ?_
        refine x_isub a 97 d_M_simple_97 ?_
        refine x_iast a 98 d_M_simple_98 rfl (by omega) (j := (4 * p + rg x)) rfl (by omega) (by decide) ?_
        refine x_iload_n a 99 d_M_simple_99 rfl ?_
        refine x_iconst a 100 4 d_M_simple_100 (by decide) ?_
        refine x_icmp_ne a 101 121 d_M_simple_101 (by decide) (fun _ => ?_) (fun z => absurd z (by decide))
        refine x_iload_n a 121 d_M_simple_121 rfl ?_
        refine x_bipush a 122 11 d_M_simple_122 (by decide) ?_
        refine x_icmp_ne a 124 255 d_M_simple_124 (by decide) (fun _ => ?_) (fun z => absurd z (by decide))
        refine x_iload_n a 255 d_M_simple_255 rfl ?_
        refine x_bipush a 256 12 d_M_simple_256 (by decide) ?_
        refine x_icmp_ne a 258 305 d_M_simple_258 (by decide) (fun _ => ?_) (fun z => absurd z (by decide))
        refine x_iload_n a 305 d_M_simple_305 rfl ?_
        refine x_bipush a 306 13 d_M_simple_306 (by decide) ?_
        refine x_icmp_ne a 308 318 d_M_simple_308 (by decide) (fun _ => ?_) (fun z => absurd z (by decide))
        refine x_iload_n a 318 d_M_simple_318 rfl ?_
        refine x_bipush a 319 14 d_M_simple_319 (by decide) ?_
        refine x_icmp_ne a 321 331 d_M_simple_321 (by decide) (fun _ => ?_) (fun z => absurd z (by decide))
        refine x_iconst a 331 0 d_M_simple_331 (by decide) ?_
        exact x_iret a qf 332 d_M_simple_332 rfl ⟨by unfold m_simple; rw [if_neg hno]; rfl, by unfold m_simple; rw [if_neg hno]; unfold m_simp; first | (rw [if_neg s41_1, if_neg s41_2, if_neg s41_3, if_neg s41_4, if_neg s41_11, if_neg s41_12, if_neg s41_13, if_neg s41_14]; done) | (rw [if_pos rfl]; done) | (rw [if_neg (by decide), if_pos rfl]; done) | (rw [if_neg (by decide), if_neg (by decide), if_pos rfl]; done) | (rw [if_neg (by decide), if_neg (by decide), if_neg (by decide), if_pos rfl]; done) | (rw [if_neg (by decide), if_neg (by decide), if_neg (by decide), if_neg (by decide), if_pos rfl]; done) | (rw [if_neg (by decide), if_neg (by decide), if_neg (by decide), if_neg (by decide), if_neg (by decide), if_pos rfl, m_go_o _ (by omega : 84 ≠ 78)]; unfold m_out12; first | (rw [if_pos (show tn (h 84 p) < 16 from (by (try simp (disch := omega) only [Int32.le_iff_toInt_le, Int32.lt_iff_toInt_lt, ← Int32.toInt_inj, Int32.reduceToInt, nI_1, nI_add, pk_sub, nI_toInt] at *); omega))]; done) | (rw [if_neg (show ¬ tn (h 84 p) < 16 from (by (try simp (disch := omega) only [Int32.le_iff_toInt_le, Int32.lt_iff_toInt_lt, ← Int32.toInt_inj, Int32.reduceToInt, nI_1, nI_add, pk_sub, nI_toInt] at *); omega))]; done)) | (rw [if_neg (by decide), if_neg (by decide), if_neg (by decide), if_neg (by decide), if_neg (by decide), if_neg (by decide), if_pos rfl]; done) | (rw [if_neg (by decide), if_neg (by decide), if_neg (by decide), if_neg (by decide), if_neg (by decide), if_neg (by decide), if_neg (by decide), if_pos rfl]; done)⟩
      by_cases s41_4 : o = 4
      · subst s41_4
        refine x_iload_n a 41 d_M_simple_41 rfl ?_
        refine x_iconst a 42 1 d_M_simple_42 (by decide) ?_
        refine x_icmp_ne a 43 55 d_M_simple_43 (by decide) (fun _ => ?_) (fun z => absurd z (by decide))
        refine x_iload_n a 55 d_M_simple_55 rfl ?_
        refine x_iconst a 56 2 d_M_simple_56 (by decide) ?_
        refine x_icmp_ne a 57 77 d_M_simple_57 (by decide) (fun _ => ?_) (fun z => absurd z (by decide))
        refine x_iload_n a 77 d_M_simple_77 rfl ?_
        refine x_iconst a 78 3 d_M_simple_78 (by decide) ?_
        refine x_icmp_ne a 79 99 d_M_simple_79 (by decide) (fun _ => ?_) (fun z => absurd z (by decide))
        refine x_iload_n a 99 d_M_simple_99 rfl ?_
        refine x_iconst a 100 4 d_M_simple_100 (by decide) ?_
        refine x_icmp_ne a 101 121 d_M_simple_101 (by decide) (fun z => absurd z (by decide)) (fun _ => ?_)
        refine x_aload_n a 104 d_M_simple_104 rfl ?_
        refine x_getR a 105 f_M_55 d_M_simple_105 rfl (by omega) (by decide) (o' := 77) rfl ?_
        refine x_iload a 108 d_M_simple_108 rfl ?_
        refine x_aload_n a 110 d_M_simple_110 rfl ?_
        refine x_getR a 111 f_M_55 d_M_simple_111 rfl (by omega) (by decide) (o' := 77) rfl ?_
        refine x_iload a 114 d_M_simple_114 rfl ?_
        refine x_iald a 116 d_M_simple_116 rfl (by omega) (j := (4 * p + rg x)) rfl (by omega) (by decide) rfl ?_
        refine x_iload a 117 d_M_simple_117 rfl ?_
        refine x_ixor a 119 d_M_simple_119 ?_
        refine x_iast a 120 d_M_simple_120 rfl (by omega) (j := (4 * p + rg x)) rfl (by omega) (by decide) ?_
        refine x_iload_n a 121 d_M_simple_121 rfl ?_
        refine x_bipush a 122 11 d_M_simple_122 (by decide) ?_
        refine x_icmp_ne a 124 255 d_M_simple_124 (by decide) (fun _ => ?_) (fun z => absurd z (by decide))
        refine x_iload_n a 255 d_M_simple_255 rfl ?_
        refine x_bipush a 256 12 d_M_simple_256 (by decide) ?_
        refine x_icmp_ne a 258 305 d_M_simple_258 (by decide) (fun _ => ?_) (fun z => absurd z (by decide))
        refine x_iload_n a 305 d_M_simple_305 rfl ?_
        refine x_bipush a 306 13 d_M_simple_306 (by decide) ?_
        refine x_icmp_ne a 308 318 d_M_simple_308 (by decide) (fun _ => ?_) (fun z => absurd z (by decide))
        refine x_iload_n a 318 d_M_simple_318 rfl ?_
        refine x_bipush a 319 14 d_M_simple_319 (by decide) ?_
        refine x_icmp_ne a 321 331 d_M_simple_321 (by decide) (fun _ => ?_) (fun z => absurd z (by decide))
        refine x_iconst a 331 0 d_M_simple_331 (by decide) ?_
        exact x_iret a qf 332 d_M_simple_332 rfl ⟨by unfold m_simple; rw [if_neg hno]; rfl, by unfold m_simple; rw [if_neg hno]; unfold m_simp; first | (rw [if_neg s41_1, if_neg s41_2, if_neg s41_3, if_neg s41_4, if_neg s41_11, if_neg s41_12, if_neg s41_13, if_neg s41_14]; done) | (rw [if_pos rfl]; done) | (rw [if_neg (by decide), if_pos rfl]; done) | (rw [if_neg (by decide), if_neg (by decide), if_pos rfl]; done) | (rw [if_neg (by decide), if_neg (by decide), if_neg (by decide), if_pos rfl]; done) | (rw [if_neg (by decide), if_neg (by decide), if_neg (by decide), if_neg (by decide), if_pos rfl]; done) | (rw [if_neg (by decide), if_neg (by decide), if_neg (by decide), if_neg (by decide), if_neg (by decide), if_pos rfl, m_go_o _ (by omega : 84 ≠ 78)]; unfold m_out12; first | (rw [if_pos (show tn (h 84 p) < 16 from (by (try simp (disch := omega) only [Int32.le_iff_toInt_le, Int32.lt_iff_toInt_lt, ← Int32.toInt_inj, Int32.reduceToInt, nI_1, nI_add, pk_sub, nI_toInt] at *); omega))]; done) | (rw [if_neg (show ¬ tn (h 84 p) < 16 from (by (try simp (disch := omega) only [Int32.le_iff_toInt_le, Int32.lt_iff_toInt_lt, ← Int32.toInt_inj, Int32.reduceToInt, nI_1, nI_add, pk_sub, nI_toInt] at *); omega))]; done)) | (rw [if_neg (by decide), if_neg (by decide), if_neg (by decide), if_neg (by decide), if_neg (by decide), if_neg (by decide), if_pos rfl]; done) | (rw [if_neg (by decide), if_neg (by decide), if_neg (by decide), if_neg (by decide), if_neg (by decide), if_neg (by decide), if_neg (by decide), if_pos rfl]; done)⟩
      by_cases s41_11 : o = 11
      · subst s41_11
        refine x_iload_n a 41 d_M_simple_41 rfl ?_
        refine x_iconst a 42 1 d_M_simple_42 (by decide) ?_
        refine x_icmp_ne a 43 55 d_M_simple_43 (by decide) (fun _ => ?_) (fun z => absurd z (by decide))
        refine x_iload_n a 55 d_M_simple_55 rfl ?_
        refine x_iconst a 56 2 d_M_simple_56 (by decide) ?_
        refine x_icmp_ne a 57 77 d_M_simple_57 (by decide) (fun _ => ?_) (fun z => absurd z (by decide))
        refine x_iload_n a 77 d_M_simple_77 rfl ?_
        refine x_iconst a 78 3 d_M_simple_78 (by decide) ?_
        refine x_icmp_ne a 79 99 d_M_simple_79 (by decide) (fun _ => ?_) (fun z => absurd z (by decide))
        refine x_iload_n a 99 d_M_simple_99 rfl ?_
        refine x_iconst a 100 4 d_M_simple_100 (by decide) ?_
        refine x_icmp_ne a 101 121 d_M_simple_101 (by decide) (fun _ => ?_) (fun z => absurd z (by decide))
        refine x_iload_n a 121 d_M_simple_121 rfl ?_
        refine x_bipush a 122 11 d_M_simple_122 (by decide) ?_
        refine x_icmp_ne a 124 255 d_M_simple_124 (by decide) (fun z => absurd z (by decide)) (fun _ => ?_)
        refine x_lv [(0, .inr (some 61)), (1, .inl (nI p)), (2, .inl 11), (5, .inl (nI (4 * p + rg x)))] (List.forall_mem_cons.mpr ⟨rfl, List.forall_mem_cons.mpr ⟨rfl, List.forall_mem_cons.mpr ⟨rfl, List.forall_mem_cons.mpr ⟨rfl, fun _ z => absurd z List.not_mem_nil⟩⟩⟩⟩) ?_
        by_cases hc0 : 0 < tn (h 82 p)
        · exact l_M_s11p a qf hp4 (by omega) hgi (by omega) hc0 ⟨by unfold m_simple; rw [if_neg hno]; rfl, by unfold m_simple; rw [if_neg hno]; unfold m_simp; rw [if_neg (by decide), if_neg (by decide), if_neg (by decide), if_neg (by decide), if_pos rfl, m_go_o _ (by omega : 82 ≠ 78)]⟩
        · exact l_M_s11z a qf hp4 (by omega) hgi (by omega) (by omega) ⟨by unfold m_simple; rw [if_neg hno]; rfl, by unfold m_simple; rw [if_neg hno]; unfold m_simp; rw [if_neg (by decide), if_neg (by decide), if_neg (by decide), if_neg (by decide), if_pos rfl, m_go_o _ (by omega : 82 ≠ 78)]⟩
      by_cases s41_12 : o = 12
      · subst s41_12
        refine x_iload_n a 41 d_M_simple_41 rfl ?_
        refine x_iconst a 42 1 d_M_simple_42 (by decide) ?_
        refine x_icmp_ne a 43 55 d_M_simple_43 (by decide) (fun _ => ?_) (fun z => absurd z (by decide))
        refine x_iload_n a 55 d_M_simple_55 rfl ?_
        refine x_iconst a 56 2 d_M_simple_56 (by decide) ?_
        refine x_icmp_ne a 57 77 d_M_simple_57 (by decide) (fun _ => ?_) (fun z => absurd z (by decide))
        refine x_iload_n a 77 d_M_simple_77 rfl ?_
        refine x_iconst a 78 3 d_M_simple_78 (by decide) ?_
        refine x_icmp_ne a 79 99 d_M_simple_79 (by decide) (fun _ => ?_) (fun z => absurd z (by decide))
        refine x_iload_n a 99 d_M_simple_99 rfl ?_
        refine x_iconst a 100 4 d_M_simple_100 (by decide) ?_
        refine x_icmp_ne a 101 121 d_M_simple_101 (by decide) (fun _ => ?_) (fun z => absurd z (by decide))
        refine x_iload_n a 121 d_M_simple_121 rfl ?_
        refine x_bipush a 122 11 d_M_simple_122 (by decide) ?_
        refine x_icmp_ne a 124 255 d_M_simple_124 (by decide) (fun _ => ?_) (fun z => absurd z (by decide))
        refine x_iload_n a 255 d_M_simple_255 rfl ?_
        refine x_bipush a 256 12 d_M_simple_256 (by decide) ?_
        refine x_icmp_ne a 258 305 d_M_simple_258 (by decide) (fun z => absurd z (by decide)) (fun _ => ?_)
        refine x_aload_n a 261 d_M_simple_261 rfl ?_
        refine x_getR a 262 f_M_77 d_M_simple_262 rfl (by omega) (by decide) (o' := 84) rfl ?_
        refine x_iload_n a 265 d_M_simple_265 rfl ?_
        refine x_iald a 266 d_M_simple_266 rfl (by omega) (j := p) rfl (by omega) (by decide) (v := nI (tn (h 84 p))) hgo ?_
        refine x_bipush a 267 16 d_M_simple_267 (by decide) ?_
        refine x_icmp_ge a 269 295 d_M_simple_269 (by decide) (fun c269 => ?_) (fun c269 => ?_)
        · refine x_aload_n a 295 d_M_simple_295 rfl ?_
          refine x_getR a 296 f_M_77 d_M_simple_296 rfl (by omega) (by decide) (o' := 84) rfl ?_
          refine x_iload_n a 299 d_M_simple_299 rfl ?_
          refine x_dup2 a 300 d_M_simple_300 ?_
          refine x_iald a 301 d_M_simple_301 rfl (by omega) (j := p) rfl (by omega) (by decide) (v := nI (tn (h 84 p))) (by first | exact hgo | (rw [up2_o _ _ _ (by omega)]; exact hgo)) ?_
          refine x_iconst a 302 1 d_M_simple_302 (by decide) ?_
          refine x_iadd a 303 d_M_simple_303 ?_
          refine x_push (nI_1 _) ?_
          refine x_iast a 304 d_M_simple_304 rfl (by omega) (j := p) rfl (by omega) (by decide) ?_
          refine x_iload_n a 305 d_M_simple_305 rfl ?_
          refine x_bipush a 306 13 d_M_simple_306 (by decide) ?_
          refine x_icmp_ne a 308 318 d_M_simple_308 (by decide) (fun _ => ?_) (fun z => absurd z (by decide))
          refine x_iload_n a 318 d_M_simple_318 rfl ?_
          refine x_bipush a 319 14 d_M_simple_319 (by decide) ?_
          refine x_icmp_ne a 321 331 d_M_simple_321 (by decide) (fun _ => ?_) (fun z => absurd z (by decide))
          refine x_iconst a 331 0 d_M_simple_331 (by decide) ?_
          exact x_iret a qf 332 d_M_simple_332 rfl ⟨by unfold m_simple; rw [if_neg hno]; rfl, by unfold m_simple; rw [if_neg hno]; unfold m_simp; first | (rw [if_neg s41_1, if_neg s41_2, if_neg s41_3, if_neg s41_4, if_neg s41_11, if_neg s41_12, if_neg s41_13, if_neg s41_14]; done) | (rw [if_pos rfl]; done) | (rw [if_neg (by decide), if_pos rfl]; done) | (rw [if_neg (by decide), if_neg (by decide), if_pos rfl]; done) | (rw [if_neg (by decide), if_neg (by decide), if_neg (by decide), if_pos rfl]; done) | (rw [if_neg (by decide), if_neg (by decide), if_neg (by decide), if_neg (by decide), if_pos rfl]; done) | (rw [if_neg (by decide), if_neg (by decide), if_neg (by decide), if_neg (by decide), if_neg (by decide), if_pos rfl, m_go_o _ (by omega : 84 ≠ 78)]; unfold m_out12; first | (rw [if_pos (show tn (h 84 p) < 16 from (by (try simp (disch := omega) only [Int32.le_iff_toInt_le, Int32.lt_iff_toInt_lt, ← Int32.toInt_inj, Int32.reduceToInt, nI_1, nI_add, pk_sub, nI_toInt] at *); omega))]; done) | (rw [if_neg (show ¬ tn (h 84 p) < 16 from (by (try simp (disch := omega) only [Int32.le_iff_toInt_le, Int32.lt_iff_toInt_lt, ← Int32.toInt_inj, Int32.reduceToInt, nI_1, nI_add, pk_sub, nI_toInt] at *); omega))]; done)) | (rw [if_neg (by decide), if_neg (by decide), if_neg (by decide), if_neg (by decide), if_neg (by decide), if_neg (by decide), if_pos rfl]; done) | (rw [if_neg (by decide), if_neg (by decide), if_neg (by decide), if_neg (by decide), if_neg (by decide), if_neg (by decide), if_neg (by decide), if_pos rfl]; done)⟩
        · refine x_aload_n a 272 d_M_simple_272 rfl ?_
          refine x_getR a 273 f_M_80 d_M_simple_273 rfl (by omega) (by decide) (o' := 85) rfl ?_
          refine x_bipush a 276 16 d_M_simple_276 (by decide) ?_
          refine x_iload_n a 278 d_M_simple_278 rfl ?_
          refine x_imul a 279 d_M_simple_279 ?_
          refine x_aload_n a 280 d_M_simple_280 rfl ?_
          refine x_getR a 281 f_M_77 d_M_simple_281 rfl (by omega) (by decide) (o' := 84) rfl ?_
          refine x_iload_n a 284 d_M_simple_284 rfl ?_
          refine x_iald a 285 d_M_simple_285 rfl (by omega) (j := p) rfl (by omega) (by decide) (v := nI (tn (h 84 p))) hgo ?_
          refine x_iadd a 286 d_M_simple_286 ?_
          refine x_aload_n a 287 d_M_simple_287 rfl ?_
          refine x_getR a 288 f_M_55 d_M_simple_288 rfl (by omega) (by decide) (o' := 77) rfl ?_
          refine x_iload a 291 d_M_simple_291 rfl ?_
          refine x_iald a 293 d_M_simple_293 rfl (by omega) (j := (4 * p + rg x)) rfl (by omega) (by decide) rfl ?_
          refine x_iast a 294 d_M_simple_294 rfl (by omega) (j := 16 * p + tn (h 84 p)) (ix_n (k := 16) (K := 16) rfl p _) (by (try simp (disch := omega) only [Int32.le_iff_toInt_le, Int32.lt_iff_toInt_lt, ← Int32.toInt_inj, Int32.reduceToInt, nI_1, nI_add, pk_sub, nI_toInt] at *); omega) (by decide) ?_
          refine x_aload_n a 295 d_M_simple_295 rfl ?_
          refine x_getR a 296 f_M_77 d_M_simple_296 rfl (by omega) (by decide) (o' := 84) rfl ?_
          refine x_iload_n a 299 d_M_simple_299 rfl ?_
          refine x_dup2 a 300 d_M_simple_300 ?_
          refine x_iald a 301 d_M_simple_301 rfl (by omega) (j := p) rfl (by omega) (by decide) (v := nI (tn (h 84 p))) (by first | exact hgo | (rw [up2_o _ _ _ (by omega)]; exact hgo)) ?_
          refine x_iconst a 302 1 d_M_simple_302 (by decide) ?_
          refine x_iadd a 303 d_M_simple_303 ?_
          refine x_push (nI_1 _) ?_
          refine x_iast a 304 d_M_simple_304 rfl (by omega) (j := p) rfl (by omega) (by decide) ?_
          refine x_iload_n a 305 d_M_simple_305 rfl ?_
          refine x_bipush a 306 13 d_M_simple_306 (by decide) ?_
          refine x_icmp_ne a 308 318 d_M_simple_308 (by decide) (fun _ => ?_) (fun z => absurd z (by decide))
          refine x_iload_n a 318 d_M_simple_318 rfl ?_
          refine x_bipush a 319 14 d_M_simple_319 (by decide) ?_
          refine x_icmp_ne a 321 331 d_M_simple_321 (by decide) (fun _ => ?_) (fun z => absurd z (by decide))
          refine x_iconst a 331 0 d_M_simple_331 (by decide) ?_
          exact x_iret a qf 332 d_M_simple_332 rfl ⟨by unfold m_simple; rw [if_neg hno]; rfl, by unfold m_simple; rw [if_neg hno]; unfold m_simp; first | (rw [if_neg s41_1, if_neg s41_2, if_neg s41_3, if_neg s41_4, if_neg s41_11, if_neg s41_12, if_neg s41_13, if_neg s41_14]; done) | (rw [if_pos rfl]; done) | (rw [if_neg (by decide), if_pos rfl]; done) | (rw [if_neg (by decide), if_neg (by decide), if_pos rfl]; done) | (rw [if_neg (by decide), if_neg (by decide), if_neg (by decide), if_pos rfl]; done) | (rw [if_neg (by decide), if_neg (by decide), if_neg (by decide), if_neg (by decide), if_pos rfl]; done) | (rw [if_neg (by decide), if_neg (by decide), if_neg (by decide), if_neg (by decide), if_neg (by decide), if_pos rfl, m_go_o _ (by omega : 84 ≠ 78)]; unfold m_out12; first | (rw [if_pos (show tn (h 84 p) < 16 from (by (try simp (disch := omega) only [Int32.le_iff_toInt_le, Int32.lt_iff_toInt_lt, ← Int32.toInt_inj, Int32.reduceToInt, nI_1, nI_add, pk_sub, nI_toInt] at *); omega))]; done) | (rw [if_neg (show ¬ tn (h 84 p) < 16 from (by (try simp (disch := omega) only [Int32.le_iff_toInt_le, Int32.lt_iff_toInt_lt, ← Int32.toInt_inj, Int32.reduceToInt, nI_1, nI_add, pk_sub, nI_toInt] at *); omega))]; done)) | (rw [if_neg (by decide), if_neg (by decide), if_neg (by decide), if_neg (by decide), if_neg (by decide), if_neg (by decide), if_pos rfl]; done) | (rw [if_neg (by decide), if_neg (by decide), if_neg (by decide), if_neg (by decide), if_neg (by decide), if_neg (by decide), if_neg (by decide), if_pos rfl]; done)⟩
      by_cases s41_13 : o = 13
      · subst s41_13
        refine x_iload_n a 41 d_M_simple_41 rfl ?_
        refine x_iconst a 42 1 d_M_simple_42 (by decide) ?_
        refine x_icmp_ne a 43 55 d_M_simple_43 (by decide) (fun _ => ?_) (fun z => absurd z (by decide))
        refine x_iload_n a 55 d_M_simple_55 rfl ?_
        refine x_iconst a 56 2 d_M_simple_56 (by decide) ?_
        refine x_icmp_ne a 57 77 d_M_simple_57 (by decide) (fun _ => ?_) (fun z => absurd z (by decide))
        refine x_iload_n a 77 d_M_simple_77 rfl ?_
        refine x_iconst a 78 3 d_M_simple_78 (by decide) ?_
        refine x_icmp_ne a 79 99 d_M_simple_79 (by decide) (fun _ => ?_) (fun z => absurd z (by decide))
        refine x_iload_n a 99 d_M_simple_99 rfl ?_
        refine x_iconst a 100 4 d_M_simple_100 (by decide) ?_
        refine x_icmp_ne a 101 121 d_M_simple_101 (by decide) (fun _ => ?_) (fun z => absurd z (by decide))
        refine x_iload_n a 121 d_M_simple_121 rfl ?_
        refine x_bipush a 122 11 d_M_simple_122 (by decide) ?_
        refine x_icmp_ne a 124 255 d_M_simple_124 (by decide) (fun _ => ?_) (fun z => absurd z (by decide))
        refine x_iload_n a 255 d_M_simple_255 rfl ?_
        refine x_bipush a 256 12 d_M_simple_256 (by decide) ?_
        refine x_icmp_ne a 258 305 d_M_simple_258 (by decide) (fun _ => ?_) (fun z => absurd z (by decide))
        refine x_iload_n a 305 d_M_simple_305 rfl ?_
        refine x_bipush a 306 13 d_M_simple_306 (by decide) ?_
        refine x_icmp_ne a 308 318 d_M_simple_308 (by decide) (fun z => absurd z (by decide)) (fun _ => ?_)
        refine x_aload_n a 311 d_M_simple_311 rfl ?_
        refine x_getR a 312 f_M_68 d_M_simple_312 rfl (by omega) (by decide) (o' := 81) rfl ?_
        refine x_iload_n a 315 d_M_simple_315 rfl ?_
        refine x_iconst a 316 1 d_M_simple_316 (by decide) ?_
        refine x_zast a 317 d_M_simple_317 rfl (by omega) (j := p) rfl (by omega) (by decide) rfl ?_
        refine x_iload_n a 318 d_M_simple_318 rfl ?_
        refine x_bipush a 319 14 d_M_simple_319 (by decide) ?_
        refine x_icmp_ne a 321 331 d_M_simple_321 (by decide) (fun _ => ?_) (fun z => absurd z (by decide))
        refine x_iconst a 331 0 d_M_simple_331 (by decide) ?_
        exact x_iret a qf 332 d_M_simple_332 rfl ⟨by unfold m_simple; rw [if_neg hno]; rfl, by unfold m_simple; rw [if_neg hno]; unfold m_simp; first | (rw [if_neg s41_1, if_neg s41_2, if_neg s41_3, if_neg s41_4, if_neg s41_11, if_neg s41_12, if_neg s41_13, if_neg s41_14]; done) | (rw [if_pos rfl]; done) | (rw [if_neg (by decide), if_pos rfl]; done) | (rw [if_neg (by decide), if_neg (by decide), if_pos rfl]; done) | (rw [if_neg (by decide), if_neg (by decide), if_neg (by decide), if_pos rfl]; done) | (rw [if_neg (by decide), if_neg (by decide), if_neg (by decide), if_neg (by decide), if_pos rfl]; done) | (rw [if_neg (by decide), if_neg (by decide), if_neg (by decide), if_neg (by decide), if_neg (by decide), if_pos rfl, m_go_o _ (by omega : 84 ≠ 78)]; unfold m_out12; first | (rw [if_pos (show tn (h 84 p) < 16 from (by (try simp (disch := omega) only [Int32.le_iff_toInt_le, Int32.lt_iff_toInt_lt, ← Int32.toInt_inj, Int32.reduceToInt, nI_1, nI_add, pk_sub, nI_toInt] at *); omega))]; done) | (rw [if_neg (show ¬ tn (h 84 p) < 16 from (by (try simp (disch := omega) only [Int32.le_iff_toInt_le, Int32.lt_iff_toInt_lt, ← Int32.toInt_inj, Int32.reduceToInt, nI_1, nI_add, pk_sub, nI_toInt] at *); omega))]; done)) | (rw [if_neg (by decide), if_neg (by decide), if_neg (by decide), if_neg (by decide), if_neg (by decide), if_neg (by decide), if_pos rfl]; done) | (rw [if_neg (by decide), if_neg (by decide), if_neg (by decide), if_neg (by decide), if_neg (by decide), if_neg (by decide), if_neg (by decide), if_pos rfl]; done)⟩
      by_cases s41_14 : o = 14
      · subst s41_14
        refine x_iload_n a 41 d_M_simple_41 rfl ?_
        refine x_iconst a 42 1 d_M_simple_42 (by decide) ?_
        refine x_icmp_ne a 43 55 d_M_simple_43 (by decide) (fun _ => ?_) (fun z => absurd z (by decide))
        refine x_iload_n a 55 d_M_simple_55 rfl ?_
        refine x_iconst a 56 2 d_M_simple_56 (by decide) ?_
        refine x_icmp_ne a 57 77 d_M_simple_57 (by decide) (fun _ => ?_) (fun z => absurd z (by decide))
        refine x_iload_n a 77 d_M_simple_77 rfl ?_
        refine x_iconst a 78 3 d_M_simple_78 (by decide) ?_
        refine x_icmp_ne a 79 99 d_M_simple_79 (by decide) (fun _ => ?_) (fun z => absurd z (by decide))
        refine x_iload_n a 99 d_M_simple_99 rfl ?_
        refine x_iconst a 100 4 d_M_simple_100 (by decide) ?_
        refine x_icmp_ne a 101 121 d_M_simple_101 (by decide) (fun _ => ?_) (fun z => absurd z (by decide))
        refine x_iload_n a 121 d_M_simple_121 rfl ?_
        refine x_bipush a 122 11 d_M_simple_122 (by decide) ?_
        refine x_icmp_ne a 124 255 d_M_simple_124 (by decide) (fun _ => ?_) (fun z => absurd z (by decide))
        refine x_iload_n a 255 d_M_simple_255 rfl ?_
        refine x_bipush a 256 12 d_M_simple_256 (by decide) ?_
        refine x_icmp_ne a 258 305 d_M_simple_258 (by decide) (fun _ => ?_) (fun z => absurd z (by decide))
        refine x_iload_n a 305 d_M_simple_305 rfl ?_
        refine x_bipush a 306 13 d_M_simple_306 (by decide) ?_
        refine x_icmp_ne a 308 318 d_M_simple_308 (by decide) (fun _ => ?_) (fun z => absurd z (by decide))
        refine x_iload_n a 318 d_M_simple_318 rfl ?_
        refine x_bipush a 319 14 d_M_simple_319 (by decide) ?_
        refine x_icmp_ne a 321 331 d_M_simple_321 (by decide) (fun z => absurd z (by decide)) (fun _ => ?_)
        refine x_aload_n a 324 d_M_simple_324 rfl ?_
        refine x_getR a 325 f_M_64 d_M_simple_325 rfl (by omega) (by decide) (o' := 80) rfl ?_
        refine x_iload_n a 328 d_M_simple_328 rfl ?_
        refine x_iconst a 329 0 d_M_simple_329 (by decide) ?_
        refine x_zast a 330 d_M_simple_330 rfl (by omega) (j := p) rfl (by omega) (by decide) rfl ?_
        refine x_iconst a 331 0 d_M_simple_331 (by decide) ?_
        exact x_iret a qf 332 d_M_simple_332 rfl ⟨by unfold m_simple; rw [if_neg hno]; rfl, by unfold m_simple; rw [if_neg hno]; unfold m_simp; first | (rw [if_neg s41_1, if_neg s41_2, if_neg s41_3, if_neg s41_4, if_neg s41_11, if_neg s41_12, if_neg s41_13, if_neg s41_14]; done) | (rw [if_pos rfl]; done) | (rw [if_neg (by decide), if_pos rfl]; done) | (rw [if_neg (by decide), if_neg (by decide), if_pos rfl]; done) | (rw [if_neg (by decide), if_neg (by decide), if_neg (by decide), if_pos rfl]; done) | (rw [if_neg (by decide), if_neg (by decide), if_neg (by decide), if_neg (by decide), if_pos rfl]; done) | (rw [if_neg (by decide), if_neg (by decide), if_neg (by decide), if_neg (by decide), if_neg (by decide), if_pos rfl, m_go_o _ (by omega : 84 ≠ 78)]; unfold m_out12; first | (rw [if_pos (show tn (h 84 p) < 16 from (by (try simp (disch := omega) only [Int32.le_iff_toInt_le, Int32.lt_iff_toInt_lt, ← Int32.toInt_inj, Int32.reduceToInt, nI_1, nI_add, pk_sub, nI_toInt] at *); omega))]; done) | (rw [if_neg (show ¬ tn (h 84 p) < 16 from (by (try simp (disch := omega) only [Int32.le_iff_toInt_le, Int32.lt_iff_toInt_lt, ← Int32.toInt_inj, Int32.reduceToInt, nI_1, nI_add, pk_sub, nI_toInt] at *); omega))]; done)) | (rw [if_neg (by decide), if_neg (by decide), if_neg (by decide), if_neg (by decide), if_neg (by decide), if_neg (by decide), if_pos rfl]; done) | (rw [if_neg (by decide), if_neg (by decide), if_neg (by decide), if_neg (by decide), if_neg (by decide), if_neg (by decide), if_neg (by decide), if_pos rfl]; done)⟩
      refine x_iload_n a 41 d_M_simple_41 rfl ?_
      refine x_iconst a 42 1 d_M_simple_42 (by decide) ?_
      refine x_icmp_ne a 43 55 d_M_simple_43 (by decide) (fun c43 => ?_) (fun c43 => absurd c43 s41_1)
      refine x_iload_n a 55 d_M_simple_55 rfl ?_
      refine x_iconst a 56 2 d_M_simple_56 (by decide) ?_
      refine x_icmp_ne a 57 77 d_M_simple_57 (by decide) (fun c57 => ?_) (fun c57 => absurd c57 s41_2)
      refine x_iload_n a 77 d_M_simple_77 rfl ?_
      refine x_iconst a 78 3 d_M_simple_78 (by decide) ?_
      refine x_icmp_ne a 79 99 d_M_simple_79 (by decide) (fun c79 => ?_) (fun c79 => absurd c79 s41_3)
      refine x_iload_n a 99 d_M_simple_99 rfl ?_
      refine x_iconst a 100 4 d_M_simple_100 (by decide) ?_
      refine x_icmp_ne a 101 121 d_M_simple_101 (by decide) (fun c101 => ?_) (fun c101 => absurd c101 s41_4)
      refine x_iload_n a 121 d_M_simple_121 rfl ?_
      refine x_bipush a 122 11 d_M_simple_122 (by decide) ?_
      refine x_icmp_ne a 124 255 d_M_simple_124 (by decide) (fun c124 => ?_) (fun c124 => absurd c124 s41_11)
      refine x_iload_n a 255 d_M_simple_255 rfl ?_
      refine x_bipush a 256 12 d_M_simple_256 (by decide) ?_
      refine x_icmp_ne a 258 305 d_M_simple_258 (by decide) (fun c258 => ?_) (fun c258 => absurd c258 s41_12)
      refine x_iload_n a 305 d_M_simple_305 rfl ?_
      refine x_bipush a 306 13 d_M_simple_306 (by decide) ?_
      refine x_icmp_ne a 308 318 d_M_simple_308 (by decide) (fun c308 => ?_) (fun c308 => absurd c308 s41_13)
      refine x_iload_n a 318 d_M_simple_318 rfl ?_
      refine x_bipush a 319 14 d_M_simple_319 (by decide) ?_
      refine x_icmp_ne a 321 331 d_M_simple_321 (by decide) (fun c321 => ?_) (fun c321 => absurd c321 s41_14)
      refine x_iconst a 331 0 d_M_simple_331 (by decide) ?_
      exact x_iret a qf 332 d_M_simple_332 rfl ⟨by unfold m_simple; rw [if_neg hno]; rfl, by unfold m_simple; rw [if_neg hno]; unfold m_simp; first | (rw [if_neg s41_1, if_neg s41_2, if_neg s41_3, if_neg s41_4, if_neg s41_11, if_neg s41_12, if_neg s41_13, if_neg s41_14]; done) | (rw [if_pos rfl]; done) | (rw [if_neg (by decide), if_pos rfl]; done) | (rw [if_neg (by decide), if_neg (by decide), if_pos rfl]; done) | (rw [if_neg (by decide), if_neg (by decide), if_neg (by decide), if_pos rfl]; done) | (rw [if_neg (by decide), if_neg (by decide), if_neg (by decide), if_neg (by decide), if_pos rfl]; done) | (rw [if_neg (by decide), if_neg (by decide), if_neg (by decide), if_neg (by decide), if_neg (by decide), if_pos rfl, m_go_o _ (by omega : 84 ≠ 78)]; unfold m_out12; first | (rw [if_pos (show tn (h 84 p) < 16 from (by (try simp (disch := omega) only [Int32.le_iff_toInt_le, Int32.lt_iff_toInt_lt, ← Int32.toInt_inj, Int32.reduceToInt, nI_1, nI_add, pk_sub, nI_toInt] at *); omega))]; done) | (rw [if_neg (show ¬ tn (h 84 p) < 16 from (by (try simp (disch := omega) only [Int32.le_iff_toInt_le, Int32.lt_iff_toInt_lt, ← Int32.toInt_inj, Int32.reduceToInt, nI_1, nI_add, pk_sub, nI_toInt] at *); omega))]; done)) | (rw [if_neg (by decide), if_neg (by decide), if_neg (by decide), if_neg (by decide), if_neg (by decide), if_neg (by decide), if_pos rfl]; done) | (rw [if_neg (by decide), if_neg (by decide), if_neg (by decide), if_neg (by decide), if_neg (by decide), if_neg (by decide), if_neg (by decide), if_pos rfl]; done)⟩
    · refine x_iconst a 34 3 d_M_simple_34 (by decide) ?_
      exact x_iret a qf 35 d_M_simple_35 rfl ⟨by unfold m_simple; rw [if_pos (by (try simp (disch := omega) only [Int32.le_iff_toInt_le, Int32.lt_iff_toInt_lt, ← Int32.toInt_inj, Int32.reduceToInt, nI_1, nI_add, pk_sub, nI_toInt] at *); omega)]; rfl, by unfold m_simple; rw [if_pos (by (try simp (disch := omega) only [Int32.le_iff_toInt_le, Int32.lt_iff_toInt_lt, ← Int32.toInt_inj, Int32.reduceToInt, nI_1, nI_add, pk_sub, nI_toInt] at *); omega)]⟩
