/-! the law -/
/-- the law, under whatever name -/
def uL (nm : String) : Mi := (⟨"PartitionDeskLaw", nm, "([I)Z"⟩, code, 4, ret)
def Scr (E : En) (ad : Nat → Nat) (L : Nat) (xs : Nat → Int32) : Prop := va_X (ad 1000) L xs (eS E) (eS E).heap ∧ ad 1000 < (eS E).heap.size ∧ ¬ eF E (ad 1000)
section XL
variable {u : Mi} {d : Nat} {E : En} {cl sl : Nat} {ad : Nat → Nat} {w : Wd} {lv : List (Nat × AV)} {st : List AV} {L : Nat} {xs : Nat → Int32}
theorem x_sld (a : Amb u d E) (S : Scr E ad L xs) (pc : Nat) {j : Nat} {i : Int32} (hdg : decode u.2.1 pc = .ok (.iaload, 1)) (hi : i = nI j) (hj : j < L) (hL : L < 2 ^ 31) (kk : X E cl sl ad w (pc + 1) lv (.inl (xs j) :: st)) : X E cl sl ad w pc lv (.inl i :: .inr (some 1000) :: st) := by
  intro H locs ls hR hP hD hS hl
  subst hi
  have e : (nI j).toNatClampNeg = j := nI_clamp (by omega)
  refine va_sld a.x a.b S.1 S.2.1 S.2.2 hS (nI_in hj hL) hdg ?_
  rw [e]
  exact kk H locs ls hR hP hD hS hl
theorem x_slen (a : Amb u d E) (S : Scr E ad L xs) (pc : Nat) (hdg : decode u.2.1 pc = .ok (.arraylength, 1)) (kk : X E cl sl ad w (pc + 1) lv (.inl (nI L) :: st)) : X E cl sl ad w pc lv (.inr (some 1000) :: st) := by
  intro H locs ls hR hP hD hS hl
  exact va_slen a.x a.b S.1 S.2.1 S.2.2 hS hdg (kk H locs ls hR hP hD hS hl)
end XL
theorem R2.lo {h h1 : Hp} {B : Nat} (R : R2 h h B) (lo : Lo h h1) : R2 h h1 B := R.cg (fun _ _ => rfl) lo
theorem R2.hi {h1 h2 : Hp} {B : Nat} (R : R2 h1 h2 B) (hi : Hi h1 h2) : R2 h2 h2 B := R.cg hi (fun _ _ => rfl)
set_option maxRecDepth 100000 in
set_option maxHeartbeats 4000000 in
theorem l_L_region {nm : String} {E : En} {ad : Nat → Nat} {h : Hp} {L k : Nat} {xs : Nat → Int32} (a : Amb (uL nm) 8 E) (qa : va_AO R_2 (eS E) ∧ va_AO R_3 (eS E)) (hcs : 86 ≤ (eR E).cells ∧ 1076 ≤ (eR E).slots) (S : Scr E ad L xs) (hL : L ≤ 3072) (hk : 6 * k + 6 ≤ L) (R : R2 h h (200 * k)) (K : ∀ h', R2 h' h' (200 * k + 200) → X E 86 1076 ad (w0 h') 529 [(0, .inr (some 1000)), (1, .inr (some 0)), (2, .inr (some 61)), (3, .inl (nI (6 * k)))] []) : X E 86 1076 ad (w0 h) 100 [(0, .inr (some 1000)), (1, .inr (some 0)), (2, .inr (some 61)), (3, .inl (nI (6 * k)))] [] := by
  have I := IC_of R (by omega)
  have pn : Nlt (h 0 4) 7 := I.n
  have wn : Nlt (h 58 2) 9 := I.w
  refine x_aload_n a 100 d_L_law_100 rfl ?_
  refine x_aload_n a 101 d_L_law_101 rfl ?_
  refine x_iload_n a 102 d_L_law_102 rfl ?_
  refine x_iconst a 103 (nI 1) d_L_law_103 (by decide) ?_
  refine x_iadd a 104 d_L_law_104 ?_
  refine x_sld a S 105 (j := 6 * k + 1) d_L_law_105 (nI_add _ _) (by omega) (by omega) ?_
  refine x_aload_n a 106 d_L_law_106 rfl ?_
  refine x_iload_n a 107 d_L_law_107 rfl ?_
  refine x_iconst a 108 (nI 2) d_L_law_108 (by decide) ?_
  refine x_iadd a 109 d_L_law_109 ?_
  refine x_sld a S 110 (j := 6 * k + 2) d_L_law_110 (nI_add _ _) (by omega) (by omega) ?_
  refine x_aload_n a 111 d_L_law_111 rfl ?_
  refine x_iload_n a 112 d_L_law_112 rfl ?_
  refine x_iconst a 113 (nI 3) d_L_law_113 (by decide) ?_
  refine x_iadd a 114 d_L_law_114 ?_
  refine x_sld a S 115 (j := 6 * k + 3) d_L_law_115 (nI_add _ _) (by omega) (by omega) ?_
  refine x_callV a qa 116 g_L_13 d_L_law_116 (c_D_region h (xs (6 * k + 1)) (xs (6 * k + 2)) (xs (6 * k + 3))) rfl rfl rfl (show _ < 86 by omega) (by decide) (Nat.le_of_ble_eq_true rfl) hcs (fun v w' hp => ?_)
  obtain ⟨rfl, rfl⟩ := hp
  have R1 : R2 h (d_region h (xs (6 * k + 1)) (xs (6 * k + 2)) (xs (6 * k + 3))).1 (200 * k) := R.lo (lo_region h _ _ _)
  have sm := sim_region R1 (xs (6 * k + 1)) (xs (6 * k + 2)) (xs (6 * k + 3))
  have R3 := (sm.1.hi (hi_region _ _ _ _)).mono (show 200 * k ≤ 200 * k + 200 by omega)
  refine x_st1 ?_
  refine x_aload_n a 119 d_L_law_119 rfl ?_
  refine x_aload_n a 120 d_L_law_120 rfl ?_
  refine x_iload_n a 121 d_L_law_121 rfl ?_
  refine x_iconst a 122 (nI 1) d_L_law_122 (by decide) ?_
  refine x_iadd a 123 d_L_law_123 ?_
  refine x_sld a S 124 (j := 6 * k + 1) d_L_law_124 (nI_add _ _) (by omega) (by omega) ?_
  refine x_aload_n a 125 d_L_law_125 rfl ?_
  refine x_iload_n a 126 d_L_law_126 rfl ?_
  refine x_iconst a 127 (nI 2) d_L_law_127 (by decide) ?_
  refine x_iadd a 128 d_L_law_128 ?_
  refine x_sld a S 129 (j := 6 * k + 2) d_L_law_129 (nI_add _ _) (by omega) (by omega) ?_
  refine x_aload_n a 130 d_L_law_130 rfl ?_
  refine x_iload_n a 131 d_L_law_131 rfl ?_
  refine x_iconst a 132 (nI 3) d_L_law_132 (by decide) ?_
  refine x_iadd a 133 d_L_law_133 ?_
  refine x_sld a S 134 (j := 6 * k + 3) d_L_law_134 (nI_add _ _) (by omega) (by omega) ?_
  refine x_callV a qa 135 g_L_17 d_L_law_135 (c_M_region (d_region h (xs (6 * k + 1)) (xs (6 * k + 2)) (xs (6 * k + 3))).1 (xs (6 * k + 1)) (xs (6 * k + 2)) (xs (6 * k + 3))) rfl rfl rfl (show _ < 86 by omega) (by decide) (Nat.le_of_ble_eq_true rfl) hcs (fun v w' hp => ?_)
  obtain ⟨rfl, rfl⟩ := hp
  refine x_st1 ?_
  exact x_icmp_eq a 138 529 d_L_law_138 (by decide) (fun _ => K _ R3) (fun z => absurd sm.2 z)
set_option maxRecDepth 100000 in
set_option maxHeartbeats 4000000 in
theorem l_L_window {nm : String} {E : En} {ad : Nat → Nat} {h : Hp} {L k : Nat} {xs : Nat → Int32} (a : Amb (uL nm) 8 E) (qa : va_AO R_2 (eS E) ∧ va_AO R_3 (eS E)) (hcs : 86 ≤ (eR E).cells ∧ 1076 ≤ (eR E).slots) (S : Scr E ad L xs) (hL : L ≤ 3072) (hk : 6 * k + 6 ≤ L) (R : R2 h h (200 * k)) (K : ∀ h', R2 h' h' (200 * k + 200) → X E 86 1076 ad (w0 h') 529 [(0, .inr (some 1000)), (1, .inr (some 0)), (2, .inr (some 61)), (3, .inl (nI (6 * k)))] []) : X E 86 1076 ad (w0 h) 143 [(0, .inr (some 1000)), (1, .inr (some 0)), (2, .inr (some 61)), (3, .inl (nI (6 * k)))] [] := by
  have I := IC_of R (by omega)
  have pn : Nlt (h 0 4) 7 := I.n
  have wn : Nlt (h 58 2) 9 := I.w
  refine x_aload_n a 143 d_L_law_143 rfl ?_
  refine x_aload_n a 144 d_L_law_144 rfl ?_
  refine x_iload_n a 145 d_L_law_145 rfl ?_
  refine x_iconst a 146 (nI 1) d_L_law_146 (by decide) ?_
  refine x_iadd a 147 d_L_law_147 ?_
  refine x_sld a S 148 (j := 6 * k + 1) d_L_law_148 (nI_add _ _) (by omega) (by omega) ?_
  refine x_aload_n a 149 d_L_law_149 rfl ?_
  refine x_iload_n a 150 d_L_law_150 rfl ?_
  refine x_iconst a 151 (nI 2) d_L_law_151 (by decide) ?_
  refine x_iadd a 152 d_L_law_152 ?_
  refine x_sld a S 153 (j := 6 * k + 2) d_L_law_153 (nI_add _ _) (by omega) (by omega) ?_
  refine x_callV a qa 154 g_L_18 d_L_law_154 (c_D_window h (xs (6 * k + 1)) (xs (6 * k + 2)) wn) rfl rfl rfl (show _ < 86 by omega) (by decide) (Nat.le_of_ble_eq_true rfl) hcs (fun v w' hp => ?_)
  obtain ⟨rfl, rfl⟩ := hp
  have R1 : R2 h (d_window h (xs (6 * k + 1)) (xs (6 * k + 2))).1 (200 * k) := R.lo (lo_window h _ _)
  have sm := sim_window R1 (xs (6 * k + 1)) (xs (6 * k + 2))
  have R3 := (sm.1.hi (hi_window _ _ _)).mono (show 200 * k ≤ 200 * k + 200 by omega)
  refine x_st1 ?_
  refine x_aload_n a 157 d_L_law_157 rfl ?_
  refine x_aload_n a 158 d_L_law_158 rfl ?_
  refine x_iload_n a 159 d_L_law_159 rfl ?_
  refine x_iconst a 160 (nI 1) d_L_law_160 (by decide) ?_
  refine x_iadd a 161 d_L_law_161 ?_
  refine x_sld a S 162 (j := 6 * k + 1) d_L_law_162 (nI_add _ _) (by omega) (by omega) ?_
  refine x_aload_n a 163 d_L_law_163 rfl ?_
  refine x_iload_n a 164 d_L_law_164 rfl ?_
  refine x_iconst a 165 (nI 2) d_L_law_165 (by decide) ?_
  refine x_iadd a 166 d_L_law_166 ?_
  refine x_sld a S 167 (j := 6 * k + 2) d_L_law_167 (nI_add _ _) (by omega) (by omega) ?_
  refine x_callV a qa 168 g_L_22 d_L_law_168 (c_M_window (d_window h (xs (6 * k + 1)) (xs (6 * k + 2))).1 (xs (6 * k + 1)) (xs (6 * k + 2)) R1.fr.2.1) rfl rfl rfl (show _ < 86 by omega) (by decide) (Nat.le_of_ble_eq_true rfl) hcs (fun v w' hp => ?_)
  obtain ⟨rfl, rfl⟩ := hp
  refine x_st1 ?_
  exact x_icmp_eq a 171 529 d_L_law_171 (by decide) (fun _ => K _ R3) (fun z => absurd sm.2 z)
set_option maxRecDepth 100000 in
set_option maxHeartbeats 4000000 in
theorem l_L_port {nm : String} {E : En} {ad : Nat → Nat} {h : Hp} {L k : Nat} {xs : Nat → Int32} (a : Amb (uL nm) 8 E) (qa : va_AO R_2 (eS E) ∧ va_AO R_3 (eS E)) (hcs : 86 ≤ (eR E).cells ∧ 1076 ≤ (eR E).slots) (S : Scr E ad L xs) (hL : L ≤ 3072) (hk : 6 * k + 6 ≤ L) (R : R2 h h (200 * k)) (K : ∀ h', R2 h' h' (200 * k + 200) → X E 86 1076 ad (w0 h') 529 [(0, .inr (some 1000)), (1, .inr (some 0)), (2, .inr (some 61)), (3, .inl (nI (6 * k)))] []) : X E 86 1076 ad (w0 h) 176 [(0, .inr (some 1000)), (1, .inr (some 0)), (2, .inr (some 61)), (3, .inl (nI (6 * k)))] [] := by
  have I := IC_of R (by omega)
  have pn : Nlt (h 0 4) 7 := I.n
  have wn : Nlt (h 58 2) 9 := I.w
  refine x_aload_n a 176 d_L_law_176 rfl ?_
  refine x_aload_n a 177 d_L_law_177 rfl ?_
  refine x_iload_n a 178 d_L_law_178 rfl ?_
  refine x_iconst a 179 (nI 1) d_L_law_179 (by decide) ?_
  refine x_iadd a 180 d_L_law_180 ?_
  refine x_sld a S 181 (j := 6 * k + 1) d_L_law_181 (nI_add _ _) (by omega) (by omega) ?_
  refine x_aload_n a 182 d_L_law_182 rfl ?_
  refine x_iload_n a 183 d_L_law_183 rfl ?_
  refine x_iconst a 184 (nI 2) d_L_law_184 (by decide) ?_
  refine x_iadd a 185 d_L_law_185 ?_
  refine x_sld a S 186 (j := 6 * k + 2) d_L_law_186 (nI_add _ _) (by omega) (by omega) ?_
  refine x_aload_n a 187 d_L_law_187 rfl ?_
  refine x_iload_n a 188 d_L_law_188 rfl ?_
  refine x_iconst a 189 (nI 3) d_L_law_189 (by decide) ?_
  refine x_iadd a 190 d_L_law_190 ?_
  refine x_sld a S 191 (j := 6 * k + 3) d_L_law_191 (nI_add _ _) (by omega) (by omega) ?_
  refine x_callV a qa 192 g_L_23 d_L_law_192 (c_D_port h (xs (6 * k + 1)) (xs (6 * k + 2)) (xs (6 * k + 3)) pn) rfl rfl rfl (show _ < 86 by omega) (by decide) (Nat.le_of_ble_eq_true rfl) hcs (fun v w' hp => ?_)
  obtain ⟨rfl, rfl⟩ := hp
  have R1 : R2 h (d_port h (xs (6 * k + 1)) (xs (6 * k + 2)) (xs (6 * k + 3))).1 (200 * k) := R.lo (lo_port h _ _ _ pn)
  have sm := sim_port R1 (xs (6 * k + 1)) (xs (6 * k + 2)) (xs (6 * k + 3))
  have R3 := (sm.1.hi (hi_port _ _ _ _)).mono (show 200 * k ≤ 200 * k + 200 by omega)
  refine x_st1 ?_
  refine x_aload_n a 195 d_L_law_195 rfl ?_
  refine x_aload_n a 196 d_L_law_196 rfl ?_
  refine x_iload_n a 197 d_L_law_197 rfl ?_
  refine x_iconst a 198 (nI 1) d_L_law_198 (by decide) ?_
  refine x_iadd a 199 d_L_law_199 ?_
  refine x_sld a S 200 (j := 6 * k + 1) d_L_law_200 (nI_add _ _) (by omega) (by omega) ?_
  refine x_aload_n a 201 d_L_law_201 rfl ?_
  refine x_iload_n a 202 d_L_law_202 rfl ?_
  refine x_iconst a 203 (nI 2) d_L_law_203 (by decide) ?_
  refine x_iadd a 204 d_L_law_204 ?_
  refine x_sld a S 205 (j := 6 * k + 2) d_L_law_205 (nI_add _ _) (by omega) (by omega) ?_
  refine x_aload_n a 206 d_L_law_206 rfl ?_
  refine x_iload_n a 207 d_L_law_207 rfl ?_
  refine x_iconst a 208 (nI 3) d_L_law_208 (by decide) ?_
  refine x_iadd a 209 d_L_law_209 ?_
  refine x_sld a S 210 (j := 6 * k + 3) d_L_law_210 (nI_add _ _) (by omega) (by omega) ?_
  refine x_callV a qa 211 g_L_27 d_L_law_211 (c_M_port (d_port h (xs (6 * k + 1)) (xs (6 * k + 2)) (xs (6 * k + 3))).1 (xs (6 * k + 1)) (xs (6 * k + 2)) (xs (6 * k + 3)) R1.cnt.2.1) rfl rfl rfl (show _ < 86 by omega) (by decide) (Nat.le_of_ble_eq_true rfl) hcs (fun v w' hp => ?_)
  obtain ⟨rfl, rfl⟩ := hp
  refine x_st1 ?_
  exact x_icmp_eq a 214 529 d_L_law_214 (by decide) (fun _ => K _ R3) (fun z => absurd sm.2 z)
set_option maxRecDepth 100000 in
set_option maxHeartbeats 4000000 in
theorem l_L_action {nm : String} {E : En} {ad : Nat → Nat} {h : Hp} {L k : Nat} {xs : Nat → Int32} (a : Amb (uL nm) 8 E) (qa : va_AO R_2 (eS E) ∧ va_AO R_3 (eS E)) (hcs : 86 ≤ (eR E).cells ∧ 1076 ≤ (eR E).slots) (S : Scr E ad L xs) (hL : L ≤ 3072) (hk : 6 * k + 6 ≤ L) (R : R2 h h (200 * k)) (K : ∀ h', R2 h' h' (200 * k + 200) → X E 86 1076 ad (w0 h') 529 [(0, .inr (some 1000)), (1, .inr (some 0)), (2, .inr (some 61)), (3, .inl (nI (6 * k)))] []) : X E 86 1076 ad (w0 h) 219 [(0, .inr (some 1000)), (1, .inr (some 0)), (2, .inr (some 61)), (3, .inl (nI (6 * k)))] [] := by
  have I := IC_of R (by omega)
  have pn : Nlt (h 0 4) 7 := I.n
  have wn : Nlt (h 58 2) 9 := I.w
  refine x_aload_n a 219 d_L_law_219 rfl ?_
  refine x_aload_n a 220 d_L_law_220 rfl ?_
  refine x_iload_n a 221 d_L_law_221 rfl ?_
  refine x_iconst a 222 (nI 1) d_L_law_222 (by decide) ?_
  refine x_iadd a 223 d_L_law_223 ?_
  refine x_sld a S 224 (j := 6 * k + 1) d_L_law_224 (nI_add _ _) (by omega) (by omega) ?_
  refine x_aload_n a 225 d_L_law_225 rfl ?_
  refine x_iload_n a 226 d_L_law_226 rfl ?_
  refine x_iconst a 227 (nI 2) d_L_law_227 (by decide) ?_
  refine x_iadd a 228 d_L_law_228 ?_
  refine x_sld a S 229 (j := 6 * k + 2) d_L_law_229 (nI_add _ _) (by omega) (by omega) ?_
  refine x_aload_n a 230 d_L_law_230 rfl ?_
  refine x_iload_n a 231 d_L_law_231 rfl ?_
  refine x_iconst a 232 (nI 3) d_L_law_232 (by decide) ?_
  refine x_iadd a 233 d_L_law_233 ?_
  refine x_sld a S 234 (j := 6 * k + 3) d_L_law_234 (nI_add _ _) (by omega) (by omega) ?_
  refine x_callV a qa 235 g_L_28 d_L_law_235 (c_D_action h (xs (6 * k + 1)) (xs (6 * k + 2)) (xs (6 * k + 3))) rfl rfl rfl (show _ < 86 by omega) (by decide) (Nat.le_of_ble_eq_true rfl) hcs (fun v w' hp => ?_)
  obtain ⟨rfl, rfl⟩ := hp
  have R1 : R2 h (d_action h (xs (6 * k + 1)) (xs (6 * k + 2)) (xs (6 * k + 3))).1 (200 * k) := R.lo (lo_action h _ _ _)
  have sm := sim_action R1 (xs (6 * k + 1)) (xs (6 * k + 2)) (xs (6 * k + 3))
  have R3 := (sm.1.hi (hi_action _ _ _ _)).mono (show 200 * k ≤ 200 * k + 200 by omega)
  refine x_st1 ?_
  refine x_aload_n a 238 d_L_law_238 rfl ?_
  refine x_aload_n a 239 d_L_law_239 rfl ?_
  refine x_iload_n a 240 d_L_law_240 rfl ?_
  refine x_iconst a 241 (nI 1) d_L_law_241 (by decide) ?_
  refine x_iadd a 242 d_L_law_242 ?_
  refine x_sld a S 243 (j := 6 * k + 1) d_L_law_243 (nI_add _ _) (by omega) (by omega) ?_
  refine x_aload_n a 244 d_L_law_244 rfl ?_
  refine x_iload_n a 245 d_L_law_245 rfl ?_
  refine x_iconst a 246 (nI 2) d_L_law_246 (by decide) ?_
  refine x_iadd a 247 d_L_law_247 ?_
  refine x_sld a S 248 (j := 6 * k + 2) d_L_law_248 (nI_add _ _) (by omega) (by omega) ?_
  refine x_aload_n a 249 d_L_law_249 rfl ?_
  refine x_iload_n a 250 d_L_law_250 rfl ?_
  refine x_iconst a 251 (nI 3) d_L_law_251 (by decide) ?_
  refine x_iadd a 252 d_L_law_252 ?_
  refine x_sld a S 253 (j := 6 * k + 3) d_L_law_253 (nI_add _ _) (by omega) (by omega) ?_
  refine x_callV a qa 254 g_L_31 d_L_law_254 (c_M_action (d_action h (xs (6 * k + 1)) (xs (6 * k + 2)) (xs (6 * k + 3))).1 (xs (6 * k + 1)) (xs (6 * k + 2)) (xs (6 * k + 3))) rfl rfl rfl (show _ < 86 by omega) (by decide) (Nat.le_of_ble_eq_true rfl) hcs (fun v w' hp => ?_)
  obtain ⟨rfl, rfl⟩ := hp
  refine x_st1 ?_
  exact x_icmp_eq a 257 529 d_L_law_257 (by decide) (fun _ => K _ R3) (fun z => absurd sm.2 z)
set_option maxRecDepth 100000 in
set_option maxHeartbeats 4000000 in
theorem l_L_code {nm : String} {E : En} {ad : Nat → Nat} {h : Hp} {L k : Nat} {xs : Nat → Int32} (a : Amb (uL nm) 8 E) (qa : va_AO R_2 (eS E) ∧ va_AO R_3 (eS E)) (hcs : 86 ≤ (eR E).cells ∧ 1076 ≤ (eR E).slots) (S : Scr E ad L xs) (hL : L ≤ 3072) (hk : 6 * k + 6 ≤ L) (R : R2 h h (200 * k)) (K : ∀ h', R2 h' h' (200 * k + 200) → X E 86 1076 ad (w0 h') 529 [(0, .inr (some 1000)), (1, .inr (some 0)), (2, .inr (some 61)), (3, .inl (nI (6 * k)))] []) : X E 86 1076 ad (w0 h) 262 [(0, .inr (some 1000)), (1, .inr (some 0)), (2, .inr (some 61)), (3, .inl (nI (6 * k)))] [] := by
  have I := IC_of R (by omega)
  have pn : Nlt (h 0 4) 7 := I.n
  have wn : Nlt (h 58 2) 9 := I.w
  refine x_aload_n a 262 d_L_law_262 rfl ?_
  refine x_aload_n a 263 d_L_law_263 rfl ?_
  refine x_iload_n a 264 d_L_law_264 rfl ?_
  refine x_iconst a 265 (nI 1) d_L_law_265 (by decide) ?_
  refine x_iadd a 266 d_L_law_266 ?_
  refine x_sld a S 267 (j := 6 * k + 1) d_L_law_267 (nI_add _ _) (by omega) (by omega) ?_
  refine x_aload_n a 268 d_L_law_268 rfl ?_
  refine x_iload_n a 269 d_L_law_269 rfl ?_
  refine x_iconst a 270 (nI 2) d_L_law_270 (by decide) ?_
  refine x_iadd a 271 d_L_law_271 ?_
  refine x_sld a S 272 (j := 6 * k + 2) d_L_law_272 (nI_add _ _) (by omega) (by omega) ?_
  refine x_aload_n a 273 d_L_law_273 rfl ?_
  refine x_iload_n a 274 d_L_law_274 rfl ?_
  refine x_iconst a 275 (nI 3) d_L_law_275 (by decide) ?_
  refine x_iadd a 276 d_L_law_276 ?_
  refine x_sld a S 277 (j := 6 * k + 3) d_L_law_277 (nI_add _ _) (by omega) (by omega) ?_
  refine x_aload_n a 278 d_L_law_278 rfl ?_
  refine x_iload_n a 279 d_L_law_279 rfl ?_
  refine x_iconst a 280 (nI 4) d_L_law_280 (by decide) ?_
  refine x_iadd a 281 d_L_law_281 ?_
  refine x_sld a S 282 (j := 6 * k + 4) d_L_law_282 (nI_add _ _) (by omega) (by omega) ?_
  refine x_aload_n a 283 d_L_law_283 rfl ?_
  refine x_iload_n a 284 d_L_law_284 rfl ?_
  refine x_iconst a 285 (nI 5) d_L_law_285 (by decide) ?_
  refine x_iadd a 286 d_L_law_286 ?_
  refine x_sld a S 287 (j := 6 * k + 5) d_L_law_287 (nI_add _ _) (by omega) (by omega) ?_
  refine x_callV a qa 288 g_L_32 d_L_law_288 (c_D_code h (xs (6 * k + 1)) (xs (6 * k + 2)) (xs (6 * k + 3)) (xs (6 * k + 4)) (xs (6 * k + 5))) rfl rfl rfl (show _ < 86 by omega) (by decide) (Nat.le_of_ble_eq_true rfl) hcs (fun v w' hp => ?_)
  obtain ⟨rfl, rfl⟩ := hp
  have R1 : R2 h (d_code h (xs (6 * k + 1)) (xs (6 * k + 2)) (xs (6 * k + 3)) (xs (6 * k + 4)) (xs (6 * k + 5))).1 (200 * k) := R.lo (lo_code h _ _ _ _ _)
  have sm := sim_code R1 (xs (6 * k + 1)) (xs (6 * k + 2)) (xs (6 * k + 3)) (xs (6 * k + 4)) (xs (6 * k + 5))
  have R3 := (sm.1.hi (hi_code _ _ _ _ _ _)).mono (show 200 * k ≤ 200 * k + 200 by omega)
  refine x_st1 ?_
  refine x_aload_n a 291 d_L_law_291 rfl ?_
  refine x_aload_n a 292 d_L_law_292 rfl ?_
  refine x_iload_n a 293 d_L_law_293 rfl ?_
  refine x_iconst a 294 (nI 1) d_L_law_294 (by decide) ?_
  refine x_iadd a 295 d_L_law_295 ?_
  refine x_sld a S 296 (j := 6 * k + 1) d_L_law_296 (nI_add _ _) (by omega) (by omega) ?_
  refine x_aload_n a 297 d_L_law_297 rfl ?_
  refine x_iload_n a 298 d_L_law_298 rfl ?_
  refine x_iconst a 299 (nI 2) d_L_law_299 (by decide) ?_
  refine x_iadd a 300 d_L_law_300 ?_
  refine x_sld a S 301 (j := 6 * k + 2) d_L_law_301 (nI_add _ _) (by omega) (by omega) ?_
  refine x_aload_n a 302 d_L_law_302 rfl ?_
  refine x_iload_n a 303 d_L_law_303 rfl ?_
  refine x_iconst a 304 (nI 3) d_L_law_304 (by decide) ?_
  refine x_iadd a 305 d_L_law_305 ?_
  refine x_sld a S 306 (j := 6 * k + 3) d_L_law_306 (nI_add _ _) (by omega) (by omega) ?_
  refine x_aload_n a 307 d_L_law_307 rfl ?_
  refine x_iload_n a 308 d_L_law_308 rfl ?_
  refine x_iconst a 309 (nI 4) d_L_law_309 (by decide) ?_
  refine x_iadd a 310 d_L_law_310 ?_
  refine x_sld a S 311 (j := 6 * k + 4) d_L_law_311 (nI_add _ _) (by omega) (by omega) ?_
  refine x_aload_n a 312 d_L_law_312 rfl ?_
  refine x_iload_n a 313 d_L_law_313 rfl ?_
  refine x_iconst a 314 (nI 5) d_L_law_314 (by decide) ?_
  refine x_iadd a 315 d_L_law_315 ?_
  refine x_sld a S 316 (j := 6 * k + 5) d_L_law_316 (nI_add _ _) (by omega) (by omega) ?_
  refine x_callV a qa 317 g_L_36 d_L_law_317 (c_M_code (d_code h (xs (6 * k + 1)) (xs (6 * k + 2)) (xs (6 * k + 3)) (xs (6 * k + 4)) (xs (6 * k + 5))).1 (xs (6 * k + 1)) (xs (6 * k + 2)) (xs (6 * k + 3)) (xs (6 * k + 4)) (xs (6 * k + 5))) rfl rfl rfl (show _ < 86 by omega) (by decide) (Nat.le_of_ble_eq_true rfl) hcs (fun v w' hp => ?_)
  obtain ⟨rfl, rfl⟩ := hp
  refine x_st1 ?_
  exact x_icmp_eq a 320 529 d_L_law_320 (by decide) (fun _ => K _ R3) (fun z => absurd sm.2 z)
set_option maxRecDepth 100000 in
set_option maxHeartbeats 4000000 in
theorem l_L_start {nm : String} {E : En} {ad : Nat → Nat} {h : Hp} {L k : Nat} {xs : Nat → Int32} (a : Amb (uL nm) 8 E) (qa : va_AO R_2 (eS E) ∧ va_AO R_3 (eS E)) (hcs : 86 ≤ (eR E).cells ∧ 1076 ≤ (eR E).slots) (S : Scr E ad L xs) (hL : L ≤ 3072) (hk : 6 * k + 6 ≤ L) (R : R2 h h (200 * k)) (K : ∀ h', R2 h' h' (200 * k + 200) → X E 86 1076 ad (w0 h') 529 [(0, .inr (some 1000)), (1, .inr (some 0)), (2, .inr (some 61)), (3, .inl (nI (6 * k)))] []) : X E 86 1076 ad (w0 h) 325 [(0, .inr (some 1000)), (1, .inr (some 0)), (2, .inr (some 61)), (3, .inl (nI (6 * k)))] [] := by
  have I := IC_of R (by omega)
  have pn : Nlt (h 0 4) 7 := I.n
  have wn : Nlt (h 58 2) 9 := I.w
  refine x_aload_n a 325 d_L_law_325 rfl ?_
  refine x_callV a qa 326 g_L_37 d_L_law_326 (c_D_start h I) rfl rfl rfl (show _ < 86 by omega) (by decide) (Nat.le_of_ble_eq_true rfl) hcs (fun v w' hp => ?_)
  obtain ⟨x, rfl, hx, rfl⟩ := hp
  have lo : Lo h (if x = 0 then d_begin h (tn (h 0 4)) else h) := by
    split
    · exact lo_begin h (Nat.le_of_lt_succ pn.1)
    · exact Lo.rf
  have R1 := R.lo lo
  have sm := sim_start R1 hx
  have R3 := (sm.1.hi (hi_start _)).mono (show 200 * k ≤ 200 * k + 200 by omega)
  refine x_st1 ?_
  refine x_aload_n a 329 d_L_law_329 rfl ?_
  refine x_callV a qa 330 g_L_41 d_L_law_330 (c_M_start (if x = 0 then d_begin h (tn (h 0 4)) else h) R1.fr.2.1 R1.cnt.2.1 R1.cnt.2.2) rfl rfl rfl (show _ < 86 by omega) (by decide) (Nat.le_of_ble_eq_true rfl) hcs (fun v w' hp => ?_)
  obtain ⟨rfl, rfl⟩ := hp
  refine x_st1 ?_
  exact x_icmp_eq a 333 529 d_L_law_333 (by decide) (fun _ => K _ R3) (fun z => absurd sm.2 z)
set_option maxRecDepth 100000 in
set_option maxHeartbeats 4000000 in
theorem l_L_input {nm : String} {E : En} {ad : Nat → Nat} {h : Hp} {L k : Nat} {xs : Nat → Int32} (a : Amb (uL nm) 8 E) (qa : va_AO R_2 (eS E) ∧ va_AO R_3 (eS E)) (hcs : 86 ≤ (eR E).cells ∧ 1076 ≤ (eR E).slots) (S : Scr E ad L xs) (hL : L ≤ 3072) (hk : 6 * k + 6 ≤ L) (R : R2 h h (200 * k)) (K : ∀ h', R2 h' h' (200 * k + 200) → X E 86 1076 ad (w0 h') 529 [(0, .inr (some 1000)), (1, .inr (some 0)), (2, .inr (some 61)), (3, .inl (nI (6 * k)))] []) : X E 86 1076 ad (w0 h) 338 [(0, .inr (some 1000)), (1, .inr (some 0)), (2, .inr (some 61)), (3, .inl (nI (6 * k)))] [] := by
  have I := IC_of R (by omega)
  have pn : Nlt (h 0 4) 7 := I.n
  have wn : Nlt (h 58 2) 9 := I.w
  refine x_aload_n a 338 d_L_law_338 rfl ?_
  refine x_aload_n a 339 d_L_law_339 rfl ?_
  refine x_iload_n a 340 d_L_law_340 rfl ?_
  refine x_iconst a 341 (nI 1) d_L_law_341 (by decide) ?_
  refine x_iadd a 342 d_L_law_342 ?_
  refine x_sld a S 343 (j := 6 * k + 1) d_L_law_343 (nI_add _ _) (by omega) (by omega) ?_
  refine x_aload_n a 344 d_L_law_344 rfl ?_
  refine x_iload_n a 345 d_L_law_345 rfl ?_
  refine x_iconst a 346 (nI 2) d_L_law_346 (by decide) ?_
  refine x_iadd a 347 d_L_law_347 ?_
  refine x_sld a S 348 (j := 6 * k + 2) d_L_law_348 (nI_add _ _) (by omega) (by omega) ?_
  refine x_callV a qa 349 g_L_42 d_L_law_349 (c_D_input h I (xs (6 * k + 1)) (xs (6 * k + 2))) rfl rfl rfl (show _ < 86 by omega) (by decide) (Nat.le_of_ble_eq_true rfl) hcs (fun v w' hp => ?_)
  obtain ⟨rfl, rfl⟩ := hp
  have R1 : R2 h (d_input h (xs (6 * k + 1)) (xs (6 * k + 2))).1 (200 * k) := R.lo (lo_input h _ _)
  have sm := sim_dinput R1 (xs (6 * k + 1)) (xs (6 * k + 2))
  have R3 := (sm.1.hi (hi_input _ _ _)).mono (show 200 * k ≤ 200 * k + 200 by omega)
  refine x_st1 ?_
  refine x_aload_n a 352 d_L_law_352 rfl ?_
  refine x_aload_n a 353 d_L_law_353 rfl ?_
  refine x_iload_n a 354 d_L_law_354 rfl ?_
  refine x_iconst a 355 (nI 1) d_L_law_355 (by decide) ?_
  refine x_iadd a 356 d_L_law_356 ?_
  refine x_sld a S 357 (j := 6 * k + 1) d_L_law_357 (nI_add _ _) (by omega) (by omega) ?_
  refine x_aload_n a 358 d_L_law_358 rfl ?_
  refine x_iload_n a 359 d_L_law_359 rfl ?_
  refine x_iconst a 360 (nI 2) d_L_law_360 (by decide) ?_
  refine x_iadd a 361 d_L_law_361 ?_
  refine x_sld a S 362 (j := 6 * k + 2) d_L_law_362 (nI_add _ _) (by omega) (by omega) ?_
  refine x_callV a qa 363 g_L_46 d_L_law_363 (c_M_input (d_input h (xs (6 * k + 1)) (xs (6 * k + 2))).1 (xs (6 * k + 1)) (xs (6 * k + 2)) (fun j hj => (R1.inp hj).2.1)) rfl rfl rfl (show _ < 86 by omega) (by decide) (Nat.le_of_ble_eq_true rfl) hcs (fun v w' hp => ?_)
  obtain ⟨rfl, rfl⟩ := hp
  refine x_st1 ?_
  exact x_icmp_eq a 366 529 d_L_law_366 (by decide) (fun _ => K _ R3) (fun z => absurd sm.2 z)
set_option maxRecDepth 100000 in
set_option maxHeartbeats 4000000 in
theorem l_L_run {nm : String} {E : En} {ad : Nat → Nat} {h : Hp} {L k : Nat} {xs : Nat → Int32} (a : Amb (uL nm) 8 E) (qa : va_AO R_2 (eS E) ∧ va_AO R_3 (eS E)) (hcs : 86 ≤ (eR E).cells ∧ 1076 ≤ (eR E).slots) (S : Scr E ad L xs) (hL : L ≤ 3072) (hk : 6 * k + 6 ≤ L) (R : R2 h h (200 * k)) (K : ∀ h', R2 h' h' (200 * k + 200) → X E 86 1076 ad (w0 h') 529 [(0, .inr (some 1000)), (1, .inr (some 0)), (2, .inr (some 61)), (3, .inl (nI (6 * k)))] []) : X E 86 1076 ad (w0 h) 371 [(0, .inr (some 1000)), (1, .inr (some 0)), (2, .inr (some 61)), (3, .inl (nI (6 * k)))] [] := by
  have I := IC_of R (by omega)
  have pn : Nlt (h 0 4) 7 := I.n
  have wn : Nlt (h 58 2) 9 := I.w
  refine x_aload_n a 371 d_L_law_371 rfl ?_
  refine x_aload_n a 372 d_L_law_372 rfl ?_
  refine x_iload_n a 373 d_L_law_373 rfl ?_
  refine x_iconst a 374 (nI 1) d_L_law_374 (by decide) ?_
  refine x_iadd a 375 d_L_law_375 ?_
  refine x_sld a S 376 (j := 6 * k + 1) d_L_law_376 (nI_add _ _) (by omega) (by omega) ?_
  refine x_callV a qa 377 g_L_47 d_L_law_377 (c_D_run h (xs (6 * k + 1)) (run_safe R (by omega)).1) rfl rfl rfl (show _ < 86 by omega) (by decide) (Nat.le_of_ble_eq_true rfl) hcs (fun v w' hp => ?_)
  obtain ⟨rfl, rfl⟩ := hp
  have R1 : R2 h (d_run h (xs (6 * k + 1))).1 (200 * k) := R.lo (lo_run (run_safe R (by omega)).1)
  have sm := sim_drun R1 (by omega) (xs (6 * k + 1))
  have R3 := (sm.1.hi (hi_run _ _)).mono (show 200 * k + 200 ≤ 200 * k + 200 by omega)
  refine x_st1 ?_
  refine x_aload_n a 380 d_L_law_380 rfl ?_
  refine x_aload_n a 381 d_L_law_381 rfl ?_
  refine x_iload_n a 382 d_L_law_382 rfl ?_
  refine x_iconst a 383 (nI 1) d_L_law_383 (by decide) ?_
  refine x_iadd a 384 d_L_law_384 ?_
  refine x_sld a S 385 (j := 6 * k + 1) d_L_law_385 (nI_add _ _) (by omega) (by omega) ?_
  refine x_callV a qa 386 g_L_51 d_L_law_386 (c_M_run (d_run h (xs (6 * k + 1))).1 (xs (6 * k + 1)) (run_safe R1 (by omega)).2) rfl rfl rfl (show _ < 86 by omega) (by decide) (Nat.le_of_ble_eq_true rfl) hcs (fun v w' hp => ?_)
  obtain ⟨rfl, rfl⟩ := hp
  refine x_st1 ?_
  exact x_icmp_eq a 389 529 d_L_law_389 (by decide) (fun _ => K _ R3) (fun z => absurd sm.2 z)
set_option maxRecDepth 100000 in
set_option maxHeartbeats 4000000 in
theorem l_L_output {nm : String} {E : En} {ad : Nat → Nat} {h : Hp} {L k : Nat} {xs : Nat → Int32} (a : Amb (uL nm) 8 E) (qa : va_AO R_2 (eS E) ∧ va_AO R_3 (eS E)) (hcs : 86 ≤ (eR E).cells ∧ 1076 ≤ (eR E).slots) (S : Scr E ad L xs) (hL : L ≤ 3072) (hk : 6 * k + 6 ≤ L) (R : R2 h h (200 * k)) (K : ∀ h', R2 h' h' (200 * k + 200) → X E 86 1076 ad (w0 h') 529 [(0, .inr (some 1000)), (1, .inr (some 0)), (2, .inr (some 61)), (3, .inl (nI (6 * k)))] []) : X E 86 1076 ad (w0 h) 394 [(0, .inr (some 1000)), (1, .inr (some 0)), (2, .inr (some 61)), (3, .inl (nI (6 * k)))] [] := by
  have I := IC_of R (by omega)
  have pn : Nlt (h 0 4) 7 := I.n
  have wn : Nlt (h 58 2) 9 := I.w
  refine x_aload_n a 394 d_L_law_394 rfl ?_
  refine x_aload_n a 395 d_L_law_395 rfl ?_
  refine x_iload_n a 396 d_L_law_396 rfl ?_
  refine x_iconst a 397 (nI 1) d_L_law_397 (by decide) ?_
  refine x_iadd a 398 d_L_law_398 ?_
  refine x_sld a S 399 (j := 6 * k + 1) d_L_law_399 (nI_add _ _) (by omega) (by omega) ?_
  refine x_aload_n a 400 d_L_law_400 rfl ?_
  refine x_iload_n a 401 d_L_law_401 rfl ?_
  refine x_iconst a 402 (nI 2) d_L_law_402 (by decide) ?_
  refine x_iadd a 403 d_L_law_403 ?_
  refine x_sld a S 404 (j := 6 * k + 2) d_L_law_404 (nI_add _ _) (by omega) (by omega) ?_
  refine x_callV a qa 405 g_L_52 d_L_law_405 (c_D_output h (xs (6 * k + 1)) (xs (6 * k + 2))) rfl rfl rfl (show _ < 86 by omega) (by decide) (Nat.le_of_ble_eq_true rfl) hcs (fun v w' hp => ?_)
  obtain ⟨rfl, rfl⟩ := hp
  have R1 := R
  have sm := sim_output R (xs (6 * k + 1)) (xs (6 * k + 2))
  have R3 := R.mono (show 200 * k ≤ 200 * k + 200 by omega)
  refine x_st1 ?_
  refine x_aload_n a 408 d_L_law_408 rfl ?_
  refine x_aload_n a 409 d_L_law_409 rfl ?_
  refine x_iload_n a 410 d_L_law_410 rfl ?_
  refine x_iconst a 411 (nI 1) d_L_law_411 (by decide) ?_
  refine x_iadd a 412 d_L_law_412 ?_
  refine x_sld a S 413 (j := 6 * k + 1) d_L_law_413 (nI_add _ _) (by omega) (by omega) ?_
  refine x_aload_n a 414 d_L_law_414 rfl ?_
  refine x_iload_n a 415 d_L_law_415 rfl ?_
  refine x_iconst a 416 (nI 2) d_L_law_416 (by decide) ?_
  refine x_iadd a 417 d_L_law_417 ?_
  refine x_sld a S 418 (j := 6 * k + 2) d_L_law_418 (nI_add _ _) (by omega) (by omega) ?_
  refine x_callV a qa 419 g_L_55 d_L_law_419 (c_M_output h (xs (6 * k + 1)) (xs (6 * k + 2))) rfl rfl rfl (show _ < 86 by omega) (by decide) (Nat.le_of_ble_eq_true rfl) hcs (fun v w' hp => ?_)
  obtain ⟨rfl, rfl⟩ := hp
  refine x_st1 ?_
  exact x_icmp_eq a 422 529 d_L_law_422 (by decide) (fun _ => K _ R3) (fun z => absurd sm z)
set_option maxRecDepth 100000 in
set_option maxHeartbeats 4000000 in
theorem l_L_about {nm : String} {E : En} {ad : Nat → Nat} {h : Hp} {L k : Nat} {xs : Nat → Int32} (a : Amb (uL nm) 8 E) (qa : va_AO R_2 (eS E) ∧ va_AO R_3 (eS E)) (hcs : 86 ≤ (eR E).cells ∧ 1076 ≤ (eR E).slots) (S : Scr E ad L xs) (hL : L ≤ 3072) (hk : 6 * k + 6 ≤ L) (R : R2 h h (200 * k)) (K : ∀ h', R2 h' h' (200 * k + 200) → X E 86 1076 ad (w0 h') 529 [(0, .inr (some 1000)), (1, .inr (some 0)), (2, .inr (some 61)), (3, .inl (nI (6 * k)))] []) : X E 86 1076 ad (w0 h) 427 [(0, .inr (some 1000)), (1, .inr (some 0)), (2, .inr (some 61)), (3, .inl (nI (6 * k)))] [] := by
  have I := IC_of R (by omega)
  have pn : Nlt (h 0 4) 7 := I.n
  have wn : Nlt (h 58 2) 9 := I.w
  refine x_aload_n a 427 d_L_law_427 rfl ?_
  refine x_aload_n a 428 d_L_law_428 rfl ?_
  refine x_iload_n a 429 d_L_law_429 rfl ?_
  refine x_iconst a 430 (nI 1) d_L_law_430 (by decide) ?_
  refine x_iadd a 431 d_L_law_431 ?_
  refine x_sld a S 432 (j := 6 * k + 1) d_L_law_432 (nI_add _ _) (by omega) (by omega) ?_
  refine x_aload_n a 433 d_L_law_433 rfl ?_
  refine x_iload_n a 434 d_L_law_434 rfl ?_
  refine x_iconst a 435 (nI 2) d_L_law_435 (by decide) ?_
  refine x_iadd a 436 d_L_law_436 ?_
  refine x_sld a S 437 (j := 6 * k + 2) d_L_law_437 (nI_add _ _) (by omega) (by omega) ?_
  refine x_callV a qa 438 g_L_56 d_L_law_438 (c_D_about h (xs (6 * k + 1)) (xs (6 * k + 2))) rfl rfl rfl (show _ < 86 by omega) (by decide) (Nat.le_of_ble_eq_true rfl) hcs (fun v w' hp => ?_)
  obtain ⟨rfl, rfl⟩ := hp
  have R1 := R
  have sm := sim_about R (xs (6 * k + 1)) (xs (6 * k + 2))
  have R3 := R.mono (show 200 * k ≤ 200 * k + 200 by omega)
  refine x_st1 ?_
  refine x_aload_n a 441 d_L_law_441 rfl ?_
  refine x_aload_n a 442 d_L_law_442 rfl ?_
  refine x_iload_n a 443 d_L_law_443 rfl ?_
  refine x_iconst a 444 (nI 1) d_L_law_444 (by decide) ?_
  refine x_iadd a 445 d_L_law_445 ?_
  refine x_sld a S 446 (j := 6 * k + 1) d_L_law_446 (nI_add _ _) (by omega) (by omega) ?_
  refine x_aload_n a 447 d_L_law_447 rfl ?_
  refine x_iload_n a 448 d_L_law_448 rfl ?_
  refine x_iconst a 449 (nI 2) d_L_law_449 (by decide) ?_
  refine x_iadd a 450 d_L_law_450 ?_
  refine x_sld a S 451 (j := 6 * k + 2) d_L_law_451 (nI_add _ _) (by omega) (by omega) ?_
  refine x_callV a qa 452 g_L_59 d_L_law_452 (c_M_about h (xs (6 * k + 1)) (xs (6 * k + 2))) rfl rfl rfl (show _ < 86 by omega) (by decide) (Nat.le_of_ble_eq_true rfl) hcs (fun v w' hp => ?_)
  obtain ⟨rfl, rfl⟩ := hp
  refine x_st1 ?_
  exact x_icmp_eq a 455 529 d_L_law_455 (by decide) (fun _ => K _ R3) (fun z => absurd sm z)
set_option maxRecDepth 100000 in
set_option maxHeartbeats 4000000 in
theorem l_L_word {nm : String} {E : En} {ad : Nat → Nat} {h : Hp} {L k : Nat} {xs : Nat → Int32} (a : Amb (uL nm) 8 E) (qa : va_AO R_2 (eS E) ∧ va_AO R_3 (eS E)) (hcs : 86 ≤ (eR E).cells ∧ 1076 ≤ (eR E).slots) (S : Scr E ad L xs) (hL : L ≤ 3072) (hk : 6 * k + 6 ≤ L) (R : R2 h h (200 * k)) (K : ∀ h', R2 h' h' (200 * k + 200) → X E 86 1076 ad (w0 h') 529 [(0, .inr (some 1000)), (1, .inr (some 0)), (2, .inr (some 61)), (3, .inl (nI (6 * k)))] []) : X E 86 1076 ad (w0 h) 460 [(0, .inr (some 1000)), (1, .inr (some 0)), (2, .inr (some 61)), (3, .inl (nI (6 * k)))] [] := by
  have I := IC_of R (by omega)
  have pn : Nlt (h 0 4) 7 := I.n
  have wn : Nlt (h 58 2) 9 := I.w
  refine x_aload_n a 460 d_L_law_460 rfl ?_
  refine x_aload_n a 461 d_L_law_461 rfl ?_
  refine x_iload_n a 462 d_L_law_462 rfl ?_
  refine x_iconst a 463 (nI 1) d_L_law_463 (by decide) ?_
  refine x_iadd a 464 d_L_law_464 ?_
  refine x_sld a S 465 (j := 6 * k + 1) d_L_law_465 (nI_add _ _) (by omega) (by omega) ?_
  refine x_callV a qa 466 g_L_60 d_L_law_466 (c_D_word h (xs (6 * k + 1))) rfl rfl rfl (show _ < 86 by omega) (by decide) (Nat.le_of_ble_eq_true rfl) hcs (fun v w' hp => ?_)
  obtain ⟨rfl, rfl⟩ := hp
  have R1 := R
  have sm := sim_word R (xs (6 * k + 1))
  have R3 := R.mono (show 200 * k ≤ 200 * k + 200 by omega)
  refine x_st1 ?_
  refine x_aload_n a 469 d_L_law_469 rfl ?_
  refine x_aload_n a 470 d_L_law_470 rfl ?_
  refine x_iload_n a 471 d_L_law_471 rfl ?_
  refine x_iconst a 472 (nI 1) d_L_law_472 (by decide) ?_
  refine x_iadd a 473 d_L_law_473 ?_
  refine x_sld a S 474 (j := 6 * k + 1) d_L_law_474 (nI_add _ _) (by omega) (by omega) ?_
  refine x_callV a qa 475 g_L_63 d_L_law_475 (c_M_word h (xs (6 * k + 1))) rfl rfl rfl (show _ < 86 by omega) (by decide) (Nat.le_of_ble_eq_true rfl) hcs (fun v w' hp => ?_)
  obtain ⟨rfl, rfl⟩ := hp
  refine x_st1 ?_
  exact x_icmp_eq a 478 529 d_L_law_478 (by decide) (fun _ => K _ R3) (fun z => absurd sm z)
set_option maxRecDepth 100000 in
set_option maxHeartbeats 4000000 in
theorem l_L_waiting {nm : String} {E : En} {ad : Nat → Nat} {h : Hp} {L k : Nat} {xs : Nat → Int32} (a : Amb (uL nm) 8 E) (qa : va_AO R_2 (eS E) ∧ va_AO R_3 (eS E)) (hcs : 86 ≤ (eR E).cells ∧ 1076 ≤ (eR E).slots) (S : Scr E ad L xs) (hL : L ≤ 3072) (hk : 6 * k + 6 ≤ L) (R : R2 h h (200 * k)) (K : ∀ h', R2 h' h' (200 * k + 200) → X E 86 1076 ad (w0 h') 529 [(0, .inr (some 1000)), (1, .inr (some 0)), (2, .inr (some 61)), (3, .inl (nI (6 * k)))] []) : X E 86 1076 ad (w0 h) 483 [(0, .inr (some 1000)), (1, .inr (some 0)), (2, .inr (some 61)), (3, .inl (nI (6 * k)))] [] := by
  have I := IC_of R (by omega)
  have pn : Nlt (h 0 4) 7 := I.n
  have wn : Nlt (h 58 2) 9 := I.w
  refine x_aload_n a 483 d_L_law_483 rfl ?_
  refine x_aload_n a 484 d_L_law_484 rfl ?_
  refine x_iload_n a 485 d_L_law_485 rfl ?_
  refine x_iconst a 486 (nI 1) d_L_law_486 (by decide) ?_
  refine x_iadd a 487 d_L_law_487 ?_
  refine x_sld a S 488 (j := 6 * k + 1) d_L_law_488 (nI_add _ _) (by omega) (by omega) ?_
  refine x_callV a qa 489 g_L_64 d_L_law_489 (c_D_waiting h I (xs (6 * k + 1))) rfl rfl rfl (show _ < 86 by omega) (by decide) (Nat.le_of_ble_eq_true rfl) hcs (fun v w' hp => ?_)
  obtain ⟨rfl, rfl⟩ := hp
  have R1 := R
  have sm := sim_waiting R (xs (6 * k + 1))
  have R3 := R.mono (show 200 * k ≤ 200 * k + 200 by omega)
  refine x_st1 ?_
  refine x_aload_n a 492 d_L_law_492 rfl ?_
  refine x_aload_n a 493 d_L_law_493 rfl ?_
  refine x_iload_n a 494 d_L_law_494 rfl ?_
  refine x_iconst a 495 (nI 1) d_L_law_495 (by decide) ?_
  refine x_iadd a 496 d_L_law_496 ?_
  refine x_sld a S 497 (j := 6 * k + 1) d_L_law_497 (nI_add _ _) (by omega) (by omega) ?_
  refine x_callV a qa 498 g_L_67 d_L_law_498 (c_M_waiting h (xs (6 * k + 1)) R1.cnt.2.1) rfl rfl rfl (show _ < 86 by omega) (by decide) (Nat.le_of_ble_eq_true rfl) hcs (fun v w' hp => ?_)
  obtain ⟨rfl, rfl⟩ := hp
  refine x_st1 ?_
  exact x_icmp_eq a 501 529 d_L_law_501 (by decide) (fun _ => K _ R3) (fun z => absurd sm z)
set_option maxRecDepth 100000 in
set_option maxHeartbeats 4000000 in
theorem l_L_clock {nm : String} {E : En} {ad : Nat → Nat} {h : Hp} {L k : Nat} {xs : Nat → Int32} (a : Amb (uL nm) 8 E) (qa : va_AO R_2 (eS E) ∧ va_AO R_3 (eS E)) (hcs : 86 ≤ (eR E).cells ∧ 1076 ≤ (eR E).slots) (S : Scr E ad L xs) (hL : L ≤ 3072) (hk : 6 * k + 6 ≤ L) (R : R2 h h (200 * k)) (K : ∀ h', R2 h' h' (200 * k + 200) → X E 86 1076 ad (w0 h') 529 [(0, .inr (some 1000)), (1, .inr (some 0)), (2, .inr (some 61)), (3, .inl (nI (6 * k)))] []) : X E 86 1076 ad (w0 h) 506 [(0, .inr (some 1000)), (1, .inr (some 0)), (2, .inr (some 61)), (3, .inl (nI (6 * k)))] [] := by
  have I := IC_of R (by omega)
  have pn : Nlt (h 0 4) 7 := I.n
  have wn : Nlt (h 58 2) 9 := I.w
  refine x_aload_n a 506 d_L_law_506 rfl ?_
  refine x_aload_n a 507 d_L_law_507 rfl ?_
  refine x_iload_n a 508 d_L_law_508 rfl ?_
  refine x_iconst a 509 (nI 1) d_L_law_509 (by decide) ?_
  refine x_iadd a 510 d_L_law_510 ?_
  refine x_sld a S 511 (j := 6 * k + 1) d_L_law_511 (nI_add _ _) (by omega) (by omega) ?_
  refine x_callV a qa 512 g_L_68 d_L_law_512 (c_D_clock h (xs (6 * k + 1))) rfl rfl rfl (show _ < 86 by omega) (by decide) (Nat.le_of_ble_eq_true rfl) hcs (fun v w' hp => ?_)
  obtain ⟨rfl, rfl⟩ := hp
  have R1 := R
  have sm := sim_clock R (xs (6 * k + 1))
  have R3 := R.mono (show 200 * k ≤ 200 * k + 200 by omega)
  refine x_st1 ?_
  refine x_aload_n a 515 d_L_law_515 rfl ?_
  refine x_aload_n a 516 d_L_law_516 rfl ?_
  refine x_iload_n a 517 d_L_law_517 rfl ?_
  refine x_iconst a 518 (nI 1) d_L_law_518 (by decide) ?_
  refine x_iadd a 519 d_L_law_519 ?_
  refine x_sld a S 520 (j := 6 * k + 1) d_L_law_520 (nI_add _ _) (by omega) (by omega) ?_
  refine x_callV a qa 521 g_L_71 d_L_law_521 (c_M_clock h (xs (6 * k + 1))) rfl rfl rfl (show _ < 86 by omega) (by decide) (Nat.le_of_ble_eq_true rfl) hcs (fun v w' hp => ?_)
  obtain ⟨rfl, rfl⟩ := hp
  refine x_st1 ?_
  exact x_icmp_eq a 524 529 d_L_law_524 (by decide) (fun _ => K _ R3) (fun z => absurd sm z)
set_option maxRecDepth 100000 in
set_option maxHeartbeats 4000000 in
theorem l_L_loop {nm : String} {E : En} {ad : Nat → Nat} {L : Nat} {xs : Nat → Int32} (a : Amb (uL nm) 8 E) (qa : va_AO R_2 (eS E) ∧ va_AO R_3 (eS E)) (hcs : 86 ≤ (eR E).cells ∧ 1076 ≤ (eR E).slots) (S : Scr E ad L xs) (hL : L ≤ 3072) (Z : ∀ (w : Wd) (lv : List (Nat × AV)), X E 86 1076 ad w 536 lv [.inl 1]) : ∀ (m k : Nat) (h : Hp), 6 * k ≤ L → L < 6 * k + 6 * m → R2 h h (200 * k) → X E 86 1076 ad (w0 h) 18 [(0, .inr (some 1000)), (1, .inr (some 0)), (2, .inr (some 61)), (3, .inl (nI (6 * k)))] [] := by
  intro m
  induction m with
  | zero => intro k h h1 h2; omega
  | succ m ih =>
    intro k h h1 h2 R
    refine x_iload_n a 18 d_L_law_18 rfl ?_
    refine x_aload_n a 19 d_L_law_19 rfl ?_
    refine x_slen a S 20 d_L_law_20 ?_
    refine x_bipush a 21 6 d_L_law_21 (by decide) ?_
    refine x_isub a 23 d_L_law_23 ?_
    refine x_icmp_gt a 24 535 d_L_law_24 (by decide) (fun _ => ?_) (fun c => ?_)
    · refine x_iconst a 535 1 d_L_law_535 (by decide) ?_
      exact Z _ _
    have hk : 6 * k + 6 ≤ L := by
      rw [Int32.lt_iff_toInt_lt, nI_toInt (n := 6 * k) (by omega)] at c
      have e3 : (6 : Int32).toInt = 6 := rfl
      have e0 : (nI L - 6).toInt = ((L : Int) - 6).bmod (2 ^ 32) := by rw [Int32.toInt_sub, nI_toInt (n := L) (by omega), e3]
      have e1 := Int.bmod_emod (x := (L : Int) - 6) (m := 2 ^ 32)
      have e2 := (nI L - 6).le_toInt
      have e4 := (nI L - 6).toInt_lt
      rw [← e0] at e1
      omega
    have K : ∀ h', R2 h' h' (200 * k + 200) → X E 86 1076 ad (w0 h') 529 [(0, .inr (some 1000)), (1, .inr (some 0)), (2, .inr (some 61)), (3, .inl (nI (6 * k)))] [] := by
      intro h' R'
      refine x_iinc a 529 (nI (6 * (k + 1))) d_L_law_529 rfl (nI_add (6 * k) 6) (show 3 < 4 by decide) ?_
      refine x_goto a 532 18 d_L_law_532 (by decide) ?_
      refine x_lv [(0, .inr (some 1000)), (1, .inr (some 0)), (2, .inr (some 61)), (3, .inl (nI (6 * (k + 1))))] (List.forall_mem_cons.mpr ⟨rfl, List.forall_mem_cons.mpr ⟨rfl, List.forall_mem_cons.mpr ⟨rfl, List.forall_mem_cons.mpr ⟨rfl, fun _ z => absurd z List.not_mem_nil⟩⟩⟩⟩) ?_
      exact ih (k + 1) h' (by omega) (by omega) (by rw [show 200 * (k + 1) = 200 * k + 200 by omega]; exact R')
    refine x_aload_n a 27 d_L_law_27 rfl ?_
    refine x_iload_n a 28 d_L_law_28 rfl ?_
    refine x_sld a S 29 (j := 6 * k) d_L_law_29 rfl (by omega) (by omega) ?_
    refine x_bipush a 30 15 d_L_law_30 (by decide) ?_
    refine x_iand a 32 d_L_law_32 ?_
    obtain ⟨t, ht, et⟩ := pk_andE (xs (6 * k)) (m := 15) 4 (by decide)
    rw [et]
    by_cases s0 : t = 0
    · subst s0
      refine x_tableIn a 33 100 67 d_L_law_33 (by decide) (by decide) rfl (by decide) ?_
      exact l_L_region a qa hcs S hL hk R K
    by_cases s1 : t = 1
    · subst s1
      refine x_tableIn a 33 143 110 d_L_law_33 (by decide) (by decide) rfl (by decide) ?_
      exact l_L_window a qa hcs S hL hk R K
    by_cases s2 : t = 2
    · subst s2
      refine x_tableIn a 33 176 143 d_L_law_33 (by decide) (by decide) rfl (by decide) ?_
      exact l_L_port a qa hcs S hL hk R K
    by_cases s3 : t = 3
    · subst s3
      refine x_tableIn a 33 219 186 d_L_law_33 (by decide) (by decide) rfl (by decide) ?_
      exact l_L_action a qa hcs S hL hk R K
    by_cases s4 : t = 4
    · subst s4
      refine x_tableIn a 33 262 229 d_L_law_33 (by decide) (by decide) rfl (by decide) ?_
      exact l_L_code a qa hcs S hL hk R K
    by_cases s5 : t = 5
    · subst s5
      refine x_tableIn a 33 325 292 d_L_law_33 (by decide) (by decide) rfl (by decide) ?_
      exact l_L_start a qa hcs S hL hk R K
    by_cases s6 : t = 6
    · subst s6
      refine x_tableIn a 33 338 305 d_L_law_33 (by decide) (by decide) rfl (by decide) ?_
      exact l_L_input a qa hcs S hL hk R K
    by_cases s7 : t = 7
    · subst s7
      refine x_tableIn a 33 371 338 d_L_law_33 (by decide) (by decide) rfl (by decide) ?_
      exact l_L_run a qa hcs S hL hk R K
    by_cases s8 : t = 8
    · subst s8
      refine x_tableIn a 33 394 361 d_L_law_33 (by decide) (by decide) rfl (by decide) ?_
      exact l_L_output a qa hcs S hL hk R K
    by_cases s9 : t = 9
    · subst s9
      refine x_tableIn a 33 427 394 d_L_law_33 (by decide) (by decide) rfl (by decide) ?_
      exact l_L_about a qa hcs S hL hk R K
    by_cases s10 : t = 10
    · subst s10
      refine x_tableIn a 33 460 427 d_L_law_33 (by decide) (by decide) rfl (by decide) ?_
      exact l_L_word a qa hcs S hL hk R K
    by_cases s11 : t = 11
    · subst s11
      refine x_tableIn a 33 483 450 d_L_law_33 (by decide) (by decide) rfl (by decide) ?_
      exact l_L_waiting a qa hcs S hL hk R K
    by_cases s12 : t = 12
    · subst s12
      refine x_tableIn a 33 506 473 d_L_law_33 (by decide) (by decide) rfl (by decide) ?_
      exact l_L_clock a qa hcs S hL hk R K
    refine x_tableOut a 33 529 d_L_law_33 (by rw [nI_toInt (n := t) (by omega)]; omega) (by decide) ?_
    exact K h (R.mono (by omega))
