/-! The law's cases: one call of each, the same answer. -/
def LL (i : Nat) : List (Option Value) := [some (.ref 1013), some (.ref 0), some (.ref 121), some (.int (nI i))]
def L0 (L : Nat) (xs : Nat → Int32) (pc : Nat) (ls : List (Option Value)) (st : List Value) (M : am_I) (V : am_J) (f : Nat → Option Nat) : Prop := LW L xs 0 0 G0 pc ls st M V (RR f)
theorem lz_callV {L : Nat} {xs : Nat → Int32} {pc : Nat} {ls : List (Option Value)} {st : List Value} {M : am_I} {V : am_J} {f : Nat → Option Nat} (q : Nat) {μ' : am_M} {idx n d' c0 r : Nat} {As rest : List Value} {Q' : a0_Po} (hd : decode code pc = .ok (.invokevirtual idx, 3)) (hp : pc + 3 = q) (hl : Cond.methodLink RL idx μ'.1 ∈ am_g) (hm : am_mV μ' n c0) (ho : am_ob G0 r c0) (hC : CT μ' d' (.ref r :: As) M V f Q') (hn : As.length = n) (hst : st = As.reverse ++ .ref r :: rest) (hd9 : d' ≤ 20) (hct : (rest.map fun v => v.category).sum ≤ 8)
    (k : ∀ v M' V' f', Q' v M' V' f' → L0 L xs q ls (v.toList ++ rest) M' V' f') : L0 L xs pc ls st M V f :=
  lw_callV (b1 := 0) (b2 := 0) q hd hp hl hm ho hC hn hst hd9 hct (fun v g' M' V' R' _ ⟨h1, f', h2, h3⟩ => by subst h1; subst h2; exact k v M' V' f' h3)
section LCS
variable {L : Nat} {xs : Nat → Int32} {M : am_I} {V : am_J} {f : Nat → Option Nat} {i : Nat}
set_option maxRecDepth 20000 in
theorem lc_0 (h : IV M f) (hi : i + 3 ≤ L) (hL : L ≤ 1536) (hn : ∀ M V f, IV M f → L0 L xs 625 (LL i) [] M V f) : L0 L xs 132 (LL i) [] M V f := by
  refine lw_aload_n 133 dL_law_132 rfl rfl ?_
  refine lw_aload_n 134 dL_law_133 rfl rfl ?_
  refine lw_iload_n 135 dL_law_134 rfl rfl ?_
  refine lw_iconst 136 1 dL_law_135 rfl (by decide) ?_
  refine lw_iadd 137 dL_law_136 rfl ?_
  refine lw_sld 138 (i + 1) dL_law_137 rfl (nI_add i 1) (by omega) (by omega) ?_
  refine lz_callV (μ' := m7_type) (As := [.int (xs (i + 1))]) (rest := []) 141 dL_law_138 rfl (am_gi 295 (by decide +kernel) rfl) m7_type_V ob0 (st_type h (xs (i + 1))) rfl rfl (by decide) (Nat.le_of_ble_eq_true rfl) (fun v M1 V1 f1 hh => ?_)
  obtain ⟨x, hv, h8⟩ := hh
  subst hv
  refine lw_aload_n 142 dL_law_141 rfl rfl ?_
  refine lw_aload_n 143 dL_law_142 rfl rfl ?_
  refine lw_iload_n 144 dL_law_143 rfl rfl ?_
  refine lw_iconst 145 1 dL_law_144 rfl (by decide) ?_
  refine lw_iadd 146 dL_law_145 rfl ?_
  refine lw_sld 147 (i + 1) dL_law_146 rfl (nI_add i 1) (by omega) (by omega) ?_
  refine lz_callV (μ' := m8_type) (As := [.int (xs (i + 1))]) (rest := [.int x]) 150 dL_law_147 rfl (am_gi 793 (by decide +kernel) rfl) m8_type_V ob121 h8 rfl rfl (by decide) (Nat.le_of_ble_eq_true rfl) (fun v M2 V2 f2 hh => ?_)
  obtain ⟨hv, h2⟩ := hh
  subst hv
  refine lw_icmp_eq 625 153 dL_law_150 (by decide) rfl (fun _ => ?_) (fun c => absurd rfl c)
  exact hn M2 V2 f2 h2
set_option maxRecDepth 20000 in
theorem lc_1 (h : IV M f) (hi : i + 3 ≤ L) (hL : L ≤ 1536) (hn : ∀ M V f, IV M f → L0 L xs 625 (LL i) [] M V f) : L0 L xs 155 (LL i) [] M V f := by
  refine lw_aload_n 156 dL_law_155 rfl rfl ?_
  refine lz_callV (μ' := m7_clear) (As := []) (rest := []) 159 dL_law_156 rfl (am_gi 299 (by decide +kernel) rfl) m7_clear_V ob0 (st_clear h) rfl rfl (by decide) (Nat.le_of_ble_eq_true rfl) (fun v M1 V1 f1 hh => ?_)
  obtain ⟨x, hv, h8⟩ := hh
  subst hv
  refine lw_aload_n 160 dL_law_159 rfl rfl ?_
  refine lz_callV (μ' := m8_clear) (As := []) (rest := [.int x]) 163 dL_law_160 rfl (am_gi 800 (by decide +kernel) rfl) m8_clear_V ob121 h8 rfl rfl (by decide) (Nat.le_of_ble_eq_true rfl) (fun v M2 V2 f2 hh => ?_)
  obtain ⟨hv, h2⟩ := hh
  subst hv
  refine lw_icmp_eq 625 166 dL_law_163 (by decide) rfl (fun _ => ?_) (fun c => absurd rfl c)
  exact hn M2 V2 f2 h2
set_option maxRecDepth 20000 in
theorem lc_2 (h : IV M f) (hi : i + 3 ≤ L) (hL : L ≤ 1536) (hn : ∀ M V f, IV M f → L0 L xs 625 (LL i) [] M V f) : L0 L xs 168 (LL i) [] M V f := by
  refine lw_aload_n 169 dL_law_168 rfl rfl ?_
  refine lz_callV (μ' := m7_tells) (As := []) (rest := []) 172 dL_law_169 rfl (am_gi 303 (by decide +kernel) rfl) m7_tells_V ob0 (st_tells h) rfl rfl (by decide) (Nat.le_of_ble_eq_true rfl) (fun v M1 V1 f1 hh => ?_)
  obtain ⟨x, hv, h8⟩ := hh
  subst hv
  refine lw_aload_n 173 dL_law_172 rfl rfl ?_
  refine lz_callV (μ' := m8_tells) (As := []) (rest := [.int x]) 176 dL_law_173 rfl (am_gi 804 (by decide +kernel) rfl) m8_tells_V ob121 h8 rfl rfl (by decide) (Nat.le_of_ble_eq_true rfl) (fun v M2 V2 f2 hh => ?_)
  obtain ⟨hv, h2⟩ := hh
  subst hv
  refine lw_icmp_eq 625 179 dL_law_176 (by decide) rfl (fun _ => ?_) (fun c => absurd rfl c)
  exact hn M2 V2 f2 h2
set_option maxRecDepth 20000 in
theorem lc_3 (h : IV M f) (hi : i + 3 ≤ L) (hL : L ≤ 1536) (hn : ∀ M V f, IV M f → L0 L xs 625 (LL i) [] M V f) : L0 L xs 181 (LL i) [] M V f := by
  refine lw_aload_n 182 dL_law_181 rfl rfl ?_
  refine lw_aload_n 183 dL_law_182 rfl rfl ?_
  refine lw_iload_n 184 dL_law_183 rfl rfl ?_
  refine lw_iconst 185 1 dL_law_184 rfl (by decide) ?_
  refine lw_iadd 186 dL_law_185 rfl ?_
  refine lw_sld 187 (i + 1) dL_law_186 rfl (nI_add i 1) (by omega) (by omega) ?_
  refine lw_aload_n 188 dL_law_187 rfl rfl ?_
  refine lw_iload_n 189 dL_law_188 rfl rfl ?_
  refine lw_iconst 190 2 dL_law_189 rfl (by decide) ?_
  refine lw_iadd 191 dL_law_190 rfl ?_
  refine lw_sld 192 (i + 2) dL_law_191 rfl (nI_add i 2) (by omega) (by omega) ?_
  refine lz_callV (μ' := m7_hangs) (As := [.int (xs (i + 1)), .int (xs (i + 2))]) (rest := []) 195 dL_law_192 rfl (am_gi 470 (by decide +kernel) rfl) m7_hangs_V ob0 (st_hangs h (xs (i + 1)) (xs (i + 2))) rfl rfl (by decide) (Nat.le_of_ble_eq_true rfl) (fun v M1 V1 f1 hh => ?_)
  obtain ⟨x, hv, h8⟩ := hh
  subst hv
  refine lw_aload_n 196 dL_law_195 rfl rfl ?_
  refine lw_aload_n 197 dL_law_196 rfl rfl ?_
  refine lw_iload_n 198 dL_law_197 rfl rfl ?_
  refine lw_iconst 199 1 dL_law_198 rfl (by decide) ?_
  refine lw_iadd 200 dL_law_199 rfl ?_
  refine lw_sld 201 (i + 1) dL_law_200 rfl (nI_add i 1) (by omega) (by omega) ?_
  refine lw_aload_n 202 dL_law_201 rfl rfl ?_
  refine lw_iload_n 203 dL_law_202 rfl rfl ?_
  refine lw_iconst 204 2 dL_law_203 rfl (by decide) ?_
  refine lw_iadd 205 dL_law_204 rfl ?_
  refine lw_sld 206 (i + 2) dL_law_205 rfl (nI_add i 2) (by omega) (by omega) ?_
  refine lz_callV (μ' := m8_hangs) (As := [.int (xs (i + 1)), .int (xs (i + 2))]) (rest := [.int x]) 209 dL_law_206 rfl (am_gi 856 (by decide +kernel) rfl) m8_hangs_V ob121 h8 rfl rfl (by decide) (Nat.le_of_ble_eq_true rfl) (fun v M2 V2 f2 hh => ?_)
  obtain ⟨hv, h2⟩ := hh
  subst hv
  refine lw_icmp_eq 625 212 dL_law_209 (by decide) rfl (fun _ => ?_) (fun c => absurd rfl c)
  exact hn M2 V2 f2 h2
set_option maxRecDepth 20000 in
theorem lc_4 (h : IV M f) (hi : i + 3 ≤ L) (hL : L ≤ 1536) (hn : ∀ M V f, IV M f → L0 L xs 625 (LL i) [] M V f) : L0 L xs 214 (LL i) [] M V f := by
  refine lw_aload_n 215 dL_law_214 rfl rfl ?_
  refine lw_aload_n 216 dL_law_215 rfl rfl ?_
  refine lw_iload_n 217 dL_law_216 rfl rfl ?_
  refine lw_iconst 218 1 dL_law_217 rfl (by decide) ?_
  refine lw_iadd 219 dL_law_218 rfl ?_
  refine lw_sld 220 (i + 1) dL_law_219 rfl (nI_add i 1) (by omega) (by omega) ?_
  refine lz_callV (μ' := m7_takes) (As := [.int (xs (i + 1))]) (rest := []) 223 dL_law_220 rfl (am_gi 514 (by decide +kernel) rfl) m7_takes_V ob0 (st_takes h (xs (i + 1))) rfl rfl (by decide) (Nat.le_of_ble_eq_true rfl) (fun v M1 V1 f1 hh => ?_)
  obtain ⟨x, hv, h8⟩ := hh
  subst hv
  refine lw_aload_n 224 dL_law_223 rfl rfl ?_
  refine lw_aload_n 225 dL_law_224 rfl rfl ?_
  refine lw_iload_n 226 dL_law_225 rfl rfl ?_
  refine lw_iconst 227 1 dL_law_226 rfl (by decide) ?_
  refine lw_iadd 228 dL_law_227 rfl ?_
  refine lw_sld 229 (i + 1) dL_law_228 rfl (nI_add i 1) (by omega) (by omega) ?_
  refine lz_callV (μ' := m8_takes) (As := [.int (xs (i + 1))]) (rest := [.int x]) 232 dL_law_229 rfl (am_gi 896 (by decide +kernel) rfl) m8_takes_V ob121 h8 rfl rfl (by decide) (Nat.le_of_ble_eq_true rfl) (fun v M2 V2 f2 hh => ?_)
  obtain ⟨hv, h2⟩ := hh
  subst hv
  refine lw_icmp_eq 625 235 dL_law_232 (by decide) rfl (fun _ => ?_) (fun c => absurd rfl c)
  exact hn M2 V2 f2 h2
set_option maxRecDepth 20000 in
theorem lc_5 (h : IV M f) (hi : i + 3 ≤ L) (hL : L ≤ 1536) (hn : ∀ M V f, IV M f → L0 L xs 625 (LL i) [] M V f) : L0 L xs 237 (LL i) [] M V f := by
  refine lw_aload_n 238 dL_law_237 rfl rfl ?_
  refine lw_aload_n 239 dL_law_238 rfl rfl ?_
  refine lw_iload_n 240 dL_law_239 rfl rfl ?_
  refine lw_iconst 241 1 dL_law_240 rfl (by decide) ?_
  refine lw_iadd 242 dL_law_241 rfl ?_
  refine lw_sld 243 (i + 1) dL_law_242 rfl (nI_add i 1) (by omega) (by omega) ?_
  refine lz_callV (μ' := m7_fills) (As := [.int (xs (i + 1))]) (rest := []) 246 dL_law_243 rfl (am_gi 518 (by decide +kernel) rfl) m7_fills_V ob0 (st_fills h (xs (i + 1))) rfl rfl (by decide) (Nat.le_of_ble_eq_true rfl) (fun v M1 V1 f1 hh => ?_)
  obtain ⟨x, hv, h8⟩ := hh
  subst hv
  refine lw_aload_n 247 dL_law_246 rfl rfl ?_
  refine lw_aload_n 248 dL_law_247 rfl rfl ?_
  refine lw_iload_n 249 dL_law_248 rfl rfl ?_
  refine lw_iconst 250 1 dL_law_249 rfl (by decide) ?_
  refine lw_iadd 251 dL_law_250 rfl ?_
  refine lw_sld 252 (i + 1) dL_law_251 rfl (nI_add i 1) (by omega) (by omega) ?_
  refine lz_callV (μ' := m8_fills) (As := [.int (xs (i + 1))]) (rest := [.int x]) 255 dL_law_252 rfl (am_gi 900 (by decide +kernel) rfl) m8_fills_V ob121 h8 rfl rfl (by decide) (Nat.le_of_ble_eq_true rfl) (fun v M2 V2 f2 hh => ?_)
  obtain ⟨hv, h2⟩ := hh
  subst hv
  refine lw_icmp_eq 625 258 dL_law_255 (by decide) rfl (fun _ => ?_) (fun c => absurd rfl c)
  exact hn M2 V2 f2 h2
set_option maxRecDepth 20000 in
theorem lc_6 (h : IV M f) (hi : i + 3 ≤ L) (hL : L ≤ 1536) (hn : ∀ M V f, IV M f → L0 L xs 625 (LL i) [] M V f) : L0 L xs 260 (LL i) [] M V f := by
  refine lw_aload_n 261 dL_law_260 rfl rfl ?_
  refine lw_aload_n 262 dL_law_261 rfl rfl ?_
  refine lw_iload_n 263 dL_law_262 rfl rfl ?_
  refine lw_iconst 264 1 dL_law_263 rfl (by decide) ?_
  refine lw_iadd 265 dL_law_264 rfl ?_
  refine lw_sld 266 (i + 1) dL_law_265 rfl (nI_add i 1) (by omega) (by omega) ?_
  refine lz_callV (μ' := m7_lines) (As := [.int (xs (i + 1))]) (rest := []) 269 dL_law_266 rfl (am_gi 535 (by decide +kernel) rfl) m7_lines_V ob0 (st_lines h (xs (i + 1))) rfl rfl (by decide) (Nat.le_of_ble_eq_true rfl) (fun v M1 V1 f1 hh => ?_)
  obtain ⟨x, hv, h8⟩ := hh
  subst hv
  refine lw_aload_n 270 dL_law_269 rfl rfl ?_
  refine lw_aload_n 271 dL_law_270 rfl rfl ?_
  refine lw_iload_n 272 dL_law_271 rfl rfl ?_
  refine lw_iconst 273 1 dL_law_272 rfl (by decide) ?_
  refine lw_iadd 274 dL_law_273 rfl ?_
  refine lw_sld 275 (i + 1) dL_law_274 rfl (nI_add i 1) (by omega) (by omega) ?_
  refine lz_callV (μ' := m8_lines) (As := [.int (xs (i + 1))]) (rest := [.int x]) 278 dL_law_275 rfl (am_gi 912 (by decide +kernel) rfl) m8_lines_V ob121 h8 rfl rfl (by decide) (Nat.le_of_ble_eq_true rfl) (fun v M2 V2 f2 hh => ?_)
  obtain ⟨hv, h2⟩ := hh
  subst hv
  refine lw_icmp_eq 625 281 dL_law_278 (by decide) rfl (fun _ => ?_) (fun c => absurd rfl c)
  exact hn M2 V2 f2 h2
set_option maxRecDepth 20000 in
theorem lc_7 (h : IV M f) (hi : i + 3 ≤ L) (hL : L ≤ 1536) (hn : ∀ M V f, IV M f → L0 L xs 625 (LL i) [] M V f) : L0 L xs 283 (LL i) [] M V f := by
  refine lw_aload_n 284 dL_law_283 rfl rfl ?_
  refine lz_callV (μ' := m7_undo) (As := []) (rest := []) 287 dL_law_284 rfl (am_gi 543 (by decide +kernel) rfl) m7_undo_V ob0 (st_undo h) rfl rfl (by decide) (Nat.le_of_ble_eq_true rfl) (fun v M1 V1 f1 hh => ?_)
  obtain ⟨x, hv, h8⟩ := hh
  subst hv
  refine lw_aload_n 288 dL_law_287 rfl rfl ?_
  refine lz_callV (μ' := m8_undo) (As := []) (rest := [.int x]) 291 dL_law_288 rfl (am_gi 916 (by decide +kernel) rfl) m8_undo_V ob121 h8 rfl rfl (by decide) (Nat.le_of_ble_eq_true rfl) (fun v M2 V2 f2 hh => ?_)
  obtain ⟨hv, h2⟩ := hh
  subst hv
  refine lw_icmp_eq 625 294 dL_law_291 (by decide) rfl (fun _ => ?_) (fun c => absurd rfl c)
  exact hn M2 V2 f2 h2
set_option maxRecDepth 20000 in
theorem lc_8 (h : IV M f) (hi : i + 3 ≤ L) (hL : L ≤ 1536) (hn : ∀ M V f, IV M f → L0 L xs 625 (LL i) [] M V f) : L0 L xs 296 (LL i) [] M V f := by
  refine lw_aload_n 297 dL_law_296 rfl rfl ?_
  refine lw_aload_n 298 dL_law_297 rfl rfl ?_
  refine lw_iload_n 299 dL_law_298 rfl rfl ?_
  refine lw_iconst 300 1 dL_law_299 rfl (by decide) ?_
  refine lw_iadd 301 dL_law_300 rfl ?_
  refine lw_sld 302 (i + 1) dL_law_301 rfl (nI_add i 1) (by omega) (by omega) ?_
  refine lw_aload_n 303 dL_law_302 rfl rfl ?_
  refine lw_iload_n 304 dL_law_303 rfl rfl ?_
  refine lw_iconst 305 2 dL_law_304 rfl (by decide) ?_
  refine lw_iadd 306 dL_law_305 rfl ?_
  refine lw_sld 307 (i + 2) dL_law_306 rfl (nI_add i 2) (by omega) (by omega) ?_
  refine lz_callV (μ' := m7_picture) (As := [.int (xs (i + 1)), .int (xs (i + 2))]) (rest := []) 310 dL_law_307 rfl (am_gi 551 (by decide +kernel) rfl) m7_picture_V ob0 (st_picture h (xs (i + 1)) (xs (i + 2))) rfl rfl (by decide) (Nat.le_of_ble_eq_true rfl) (fun v M1 V1 f1 hh => ?_)
  obtain ⟨x, hv, h8⟩ := hh
  subst hv
  refine lw_aload_n 311 dL_law_310 rfl rfl ?_
  refine lw_aload_n 312 dL_law_311 rfl rfl ?_
  refine lw_iload_n 313 dL_law_312 rfl rfl ?_
  refine lw_iconst 314 1 dL_law_313 rfl (by decide) ?_
  refine lw_iadd 315 dL_law_314 rfl ?_
  refine lw_sld 316 (i + 1) dL_law_315 rfl (nI_add i 1) (by omega) (by omega) ?_
  refine lw_aload_n 317 dL_law_316 rfl rfl ?_
  refine lw_iload_n 318 dL_law_317 rfl rfl ?_
  refine lw_iconst 319 2 dL_law_318 rfl (by decide) ?_
  refine lw_iadd 320 dL_law_319 rfl ?_
  refine lw_sld 321 (i + 2) dL_law_320 rfl (nI_add i 2) (by omega) (by omega) ?_
  refine lz_callV (μ' := m8_picture) (As := [.int (xs (i + 1)), .int (xs (i + 2))]) (rest := [.int x]) 324 dL_law_321 rfl (am_gi 920 (by decide +kernel) rfl) m8_picture_V ob121 h8 rfl rfl (by decide) (Nat.le_of_ble_eq_true rfl) (fun v M2 V2 f2 hh => ?_)
  obtain ⟨hv, h2⟩ := hh
  subst hv
  refine lw_icmp_eq 625 327 dL_law_324 (by decide) rfl (fun _ => ?_) (fun c => absurd rfl c)
  exact hn M2 V2 f2 h2
set_option maxRecDepth 20000 in
theorem lc_9 (h : IV M f) (hi : i + 3 ≤ L) (hL : L ≤ 1536) (hn : ∀ M V f, IV M f → L0 L xs 625 (LL i) [] M V f) : L0 L xs 329 (LL i) [] M V f := by
  refine lw_aload_n 330 dL_law_329 rfl rfl ?_
  refine lw_aload_n 331 dL_law_330 rfl rfl ?_
  refine lw_iload_n 332 dL_law_331 rfl rfl ?_
  refine lw_iconst 333 1 dL_law_332 rfl (by decide) ?_
  refine lw_iadd 334 dL_law_333 rfl ?_
  refine lw_sld 335 (i + 1) dL_law_334 rfl (nI_add i 1) (by omega) (by omega) ?_
  refine lw_aload_n 336 dL_law_335 rfl rfl ?_
  refine lw_iload_n 337 dL_law_336 rfl rfl ?_
  refine lw_iconst 338 2 dL_law_337 rfl (by decide) ?_
  refine lw_iadd 339 dL_law_338 rfl ?_
  refine lw_sld 340 (i + 2) dL_law_339 rfl (nI_add i 2) (by omega) (by omega) ?_
  refine lz_callV (μ' := m7_hole) (As := [.int (xs (i + 1)), .int (xs (i + 2))]) (rest := []) 343 dL_law_340 rfl (am_gi 557 (by decide +kernel) rfl) m7_hole_V ob0 (st_hole h (xs (i + 1)) (xs (i + 2))) rfl rfl (by decide) (Nat.le_of_ble_eq_true rfl) (fun v M1 V1 f1 hh => ?_)
  obtain ⟨x, hv, h8⟩ := hh
  subst hv
  refine lw_aload_n 344 dL_law_343 rfl rfl ?_
  refine lw_aload_n 345 dL_law_344 rfl rfl ?_
  refine lw_iload_n 346 dL_law_345 rfl rfl ?_
  refine lw_iconst 347 1 dL_law_346 rfl (by decide) ?_
  refine lw_iadd 348 dL_law_347 rfl ?_
  refine lw_sld 349 (i + 1) dL_law_348 rfl (nI_add i 1) (by omega) (by omega) ?_
  refine lw_aload_n 350 dL_law_349 rfl rfl ?_
  refine lw_iload_n 351 dL_law_350 rfl rfl ?_
  refine lw_iconst 352 2 dL_law_351 rfl (by decide) ?_
  refine lw_iadd 353 dL_law_352 rfl ?_
  refine lw_sld 354 (i + 2) dL_law_353 rfl (nI_add i 2) (by omega) (by omega) ?_
  refine lz_callV (μ' := m8_hole) (As := [.int (xs (i + 1)), .int (xs (i + 2))]) (rest := [.int x]) 357 dL_law_354 rfl (am_gi 925 (by decide +kernel) rfl) m8_hole_V ob121 h8 rfl rfl (by decide) (Nat.le_of_ble_eq_true rfl) (fun v M2 V2 f2 hh => ?_)
  obtain ⟨hv, h2⟩ := hh
  subst hv
  refine lw_icmp_eq 625 360 dL_law_357 (by decide) rfl (fun _ => ?_) (fun c => absurd rfl c)
  exact hn M2 V2 f2 h2
set_option maxRecDepth 20000 in
theorem lc_10 (h : IV M f) (hi : i + 3 ≤ L) (hL : L ≤ 1536) (hn : ∀ M V f, IV M f → L0 L xs 625 (LL i) [] M V f) : L0 L xs 362 (LL i) [] M V f := by
  refine lw_aload_n 363 dL_law_362 rfl rfl ?_
  refine lw_aload_n 364 dL_law_363 rfl rfl ?_
  refine lw_iload_n 365 dL_law_364 rfl rfl ?_
  refine lw_iconst 366 1 dL_law_365 rfl (by decide) ?_
  refine lw_iadd 367 dL_law_366 rfl ?_
  refine lw_sld 368 (i + 1) dL_law_367 rfl (nI_add i 1) (by omega) (by omega) ?_
  refine lw_aload_n 369 dL_law_368 rfl rfl ?_
  refine lw_iload_n 370 dL_law_369 rfl rfl ?_
  refine lw_iconst 371 2 dL_law_370 rfl (by decide) ?_
  refine lw_iadd 372 dL_law_371 rfl ?_
  refine lw_sld 373 (i + 2) dL_law_372 rfl (nI_add i 2) (by omega) (by omega) ?_
  refine lz_callV (μ' := m7_door) (As := [.int (xs (i + 1)), .int (xs (i + 2))]) (rest := []) 376 dL_law_373 rfl (am_gi 561 (by decide +kernel) rfl) m7_door_V ob0 (st_door h (xs (i + 1)) (xs (i + 2))) rfl rfl (by decide) (Nat.le_of_ble_eq_true rfl) (fun v M1 V1 f1 hh => ?_)
  obtain ⟨x, hv, h8⟩ := hh
  subst hv
  refine lw_aload_n 377 dL_law_376 rfl rfl ?_
  refine lw_aload_n 378 dL_law_377 rfl rfl ?_
  refine lw_iload_n 379 dL_law_378 rfl rfl ?_
  refine lw_iconst 380 1 dL_law_379 rfl (by decide) ?_
  refine lw_iadd 381 dL_law_380 rfl ?_
  refine lw_sld 382 (i + 1) dL_law_381 rfl (nI_add i 1) (by omega) (by omega) ?_
  refine lw_aload_n 383 dL_law_382 rfl rfl ?_
  refine lw_iload_n 384 dL_law_383 rfl rfl ?_
  refine lw_iconst 385 2 dL_law_384 rfl (by decide) ?_
  refine lw_iadd 386 dL_law_385 rfl ?_
  refine lw_sld 387 (i + 2) dL_law_386 rfl (nI_add i 2) (by omega) (by omega) ?_
  refine lz_callV (μ' := m8_door) (As := [.int (xs (i + 1)), .int (xs (i + 2))]) (rest := [.int x]) 390 dL_law_387 rfl (am_gi 929 (by decide +kernel) rfl) m8_door_V ob121 h8 rfl rfl (by decide) (Nat.le_of_ble_eq_true rfl) (fun v M2 V2 f2 hh => ?_)
  obtain ⟨hv, h2⟩ := hh
  subst hv
  refine lw_icmp_eq 625 393 dL_law_390 (by decide) rfl (fun _ => ?_) (fun c => absurd rfl c)
  exact hn M2 V2 f2 h2
set_option maxRecDepth 20000 in
theorem lc_11 (h : IV M f) (hi : i + 3 ≤ L) (hL : L ≤ 1536) (hn : ∀ M V f, IV M f → L0 L xs 625 (LL i) [] M V f) : L0 L xs 395 (LL i) [] M V f := by
  refine lw_aload_n 396 dL_law_395 rfl rfl ?_
  refine lw_aload_n 397 dL_law_396 rfl rfl ?_
  refine lw_iload_n 398 dL_law_397 rfl rfl ?_
  refine lw_iconst 399 1 dL_law_398 rfl (by decide) ?_
  refine lw_iadd 400 dL_law_399 rfl ?_
  refine lw_sld 401 (i + 1) dL_law_400 rfl (nI_add i 1) (by omega) (by omega) ?_
  refine lz_callV (μ' := m7_moment) (As := [.int (xs (i + 1))]) (rest := []) 404 dL_law_401 rfl (am_gi 569 (by decide +kernel) rfl) m7_moment_V ob0 (st_moment h (xs (i + 1))) rfl rfl (by decide) (Nat.le_of_ble_eq_true rfl) (fun v M1 V1 f1 hh => ?_)
  obtain ⟨x, hv, h8⟩ := hh
  subst hv
  refine lw_aload_n 405 dL_law_404 rfl rfl ?_
  refine lw_aload_n 406 dL_law_405 rfl rfl ?_
  refine lw_iload_n 407 dL_law_406 rfl rfl ?_
  refine lw_iconst 408 1 dL_law_407 rfl (by decide) ?_
  refine lw_iadd 409 dL_law_408 rfl ?_
  refine lw_sld 410 (i + 1) dL_law_409 rfl (nI_add i 1) (by omega) (by omega) ?_
  refine lz_callV (μ' := m8_moment) (As := [.int (xs (i + 1))]) (rest := [.int x]) 413 dL_law_410 rfl (am_gi 933 (by decide +kernel) rfl) m8_moment_V ob121 h8 rfl rfl (by decide) (Nat.le_of_ble_eq_true rfl) (fun v M2 V2 f2 hh => ?_)
  obtain ⟨hv, h2⟩ := hh
  subst hv
  refine lw_icmp_eq 625 416 dL_law_413 (by decide) rfl (fun _ => ?_) (fun c => absurd rfl c)
  exact hn M2 V2 f2 h2
set_option maxRecDepth 20000 in
theorem lc_12 (h : IV M f) (hi : i + 3 ≤ L) (hL : L ≤ 1536) (hn : ∀ M V f, IV M f → L0 L xs 625 (LL i) [] M V f) : L0 L xs 418 (LL i) [] M V f := by
  refine lw_aload_n 419 dL_law_418 rfl rfl ?_
  refine lw_aload_n 420 dL_law_419 rfl rfl ?_
  refine lw_iload_n 421 dL_law_420 rfl rfl ?_
  refine lw_iconst 422 1 dL_law_421 rfl (by decide) ?_
  refine lw_iadd 423 dL_law_422 rfl ?_
  refine lw_sld 424 (i + 1) dL_law_423 rfl (nI_add i 1) (by omega) (by omega) ?_
  refine lz_callV (μ' := m7_best) (As := [.int (xs (i + 1))]) (rest := []) 427 dL_law_424 rfl (am_gi 584 (by decide +kernel) rfl) m7_best_V ob0 (st_best h (xs (i + 1))) rfl rfl (by decide) (Nat.le_of_ble_eq_true rfl) (fun v M1 V1 f1 hh => ?_)
  obtain ⟨x, hv, h8⟩ := hh
  subst hv
  refine lw_aload_n 428 dL_law_427 rfl rfl ?_
  refine lw_aload_n 429 dL_law_428 rfl rfl ?_
  refine lw_iload_n 430 dL_law_429 rfl rfl ?_
  refine lw_iconst 431 1 dL_law_430 rfl (by decide) ?_
  refine lw_iadd 432 dL_law_431 rfl ?_
  refine lw_sld 433 (i + 1) dL_law_432 rfl (nI_add i 1) (by omega) (by omega) ?_
  refine lz_callV (μ' := m8_best) (As := [.int (xs (i + 1))]) (rest := [.int x]) 436 dL_law_433 rfl (am_gi 948 (by decide +kernel) rfl) m8_best_V ob121 h8 rfl rfl (by decide) (Nat.le_of_ble_eq_true rfl) (fun v M2 V2 f2 hh => ?_)
  obtain ⟨hv, h2⟩ := hh
  subst hv
  refine lw_icmp_eq 625 439 dL_law_436 (by decide) rfl (fun _ => ?_) (fun c => absurd rfl c)
  exact hn M2 V2 f2 h2
set_option maxRecDepth 20000 in
theorem lc_13 (h : IV M f) (hi : i + 3 ≤ L) (hL : L ≤ 1536) (hn : ∀ M V f, IV M f → L0 L xs 625 (LL i) [] M V f) : L0 L xs 441 (LL i) [] M V f := by
  refine lw_aload_n 442 dL_law_441 rfl rfl ?_
  refine lw_aload_n 443 dL_law_442 rfl rfl ?_
  refine lw_iload_n 444 dL_law_443 rfl rfl ?_
  refine lw_iconst 445 1 dL_law_444 rfl (by decide) ?_
  refine lw_iadd 446 dL_law_445 rfl ?_
  refine lw_sld 447 (i + 1) dL_law_446 rfl (nI_add i 1) (by omega) (by omega) ?_
  refine lw_aload_n 448 dL_law_447 rfl rfl ?_
  refine lw_iload_n 449 dL_law_448 rfl rfl ?_
  refine lw_iconst 450 2 dL_law_449 rfl (by decide) ?_
  refine lw_iadd 451 dL_law_450 rfl ?_
  refine lw_sld 452 (i + 2) dL_law_451 rfl (nI_add i 2) (by omega) (by omega) ?_
  refine lz_callV (μ' := m7_places) (As := [.int (xs (i + 1)), .int (xs (i + 2))]) (rest := []) 455 dL_law_452 rfl (am_gi 624 (by decide +kernel) rfl) m7_places_V ob0 (st_places h (xs (i + 1)) (xs (i + 2))) rfl rfl (by decide) (Nat.le_of_ble_eq_true rfl) (fun v M1 V1 f1 hh => ?_)
  obtain ⟨x, hv, h8⟩ := hh
  subst hv
  refine lw_aload_n 456 dL_law_455 rfl rfl ?_
  refine lw_aload_n 457 dL_law_456 rfl rfl ?_
  refine lw_iload_n 458 dL_law_457 rfl rfl ?_
  refine lw_iconst 459 1 dL_law_458 rfl (by decide) ?_
  refine lw_iadd 460 dL_law_459 rfl ?_
  refine lw_sld 461 (i + 1) dL_law_460 rfl (nI_add i 1) (by omega) (by omega) ?_
  refine lw_aload_n 462 dL_law_461 rfl rfl ?_
  refine lw_iload_n 463 dL_law_462 rfl rfl ?_
  refine lw_iconst 464 2 dL_law_463 rfl (by decide) ?_
  refine lw_iadd 465 dL_law_464 rfl ?_
  refine lw_sld 466 (i + 2) dL_law_465 rfl (nI_add i 2) (by omega) (by omega) ?_
  refine lz_callV (μ' := m8_places) (As := [.int (xs (i + 1)), .int (xs (i + 2))]) (rest := [.int x]) 469 dL_law_466 rfl (am_gi 968 (by decide +kernel) rfl) m8_places_V ob121 h8 rfl rfl (by decide) (Nat.le_of_ble_eq_true rfl) (fun v M2 V2 f2 hh => ?_)
  obtain ⟨hv, h2⟩ := hh
  subst hv
  refine lw_icmp_eq 625 472 dL_law_469 (by decide) rfl (fun _ => ?_) (fun c => absurd rfl c)
  exact hn M2 V2 f2 h2
set_option maxRecDepth 20000 in
theorem lc_14 (h : IV M f) (hi : i + 3 ≤ L) (hL : L ≤ 1536) (hn : ∀ M V f, IV M f → L0 L xs 625 (LL i) [] M V f) : L0 L xs 474 (LL i) [] M V f := by
  refine lw_aload_n 475 dL_law_474 rfl rfl ?_
  refine lz_callV (μ' := m7_most) (As := []) (rest := []) 478 dL_law_475 rfl (am_gi 641 (by decide +kernel) rfl) m7_most_V ob0 (st_most h) rfl rfl (by decide) (Nat.le_of_ble_eq_true rfl) (fun v M1 V1 f1 hh => ?_)
  obtain ⟨x, hv, h8⟩ := hh
  subst hv
  refine lw_aload_n 479 dL_law_478 rfl rfl ?_
  refine lz_callV (μ' := m8_most) (As := []) (rest := [.int x]) 482 dL_law_479 rfl (am_gi 976 (by decide +kernel) rfl) m8_most_V ob121 h8 rfl rfl (by decide) (Nat.le_of_ble_eq_true rfl) (fun v M2 V2 f2 hh => ?_)
  obtain ⟨hv, h2⟩ := hh
  subst hv
  refine lw_icmp_eq 625 485 dL_law_482 (by decide) rfl (fun _ => ?_) (fun c => absurd rfl c)
  exact hn M2 V2 f2 h2
set_option maxRecDepth 20000 in
theorem lc_15 (h : IV M f) (hi : i + 3 ≤ L) (hL : L ≤ 1536) (hn : ∀ M V f, IV M f → L0 L xs 625 (LL i) [] M V f) : L0 L xs 487 (LL i) [] M V f := by
  refine lw_aload_n 488 dL_law_487 rfl rfl ?_
  refine lw_aload_n 489 dL_law_488 rfl rfl ?_
  refine lw_iload_n 490 dL_law_489 rfl rfl ?_
  refine lw_iconst 491 1 dL_law_490 rfl (by decide) ?_
  refine lw_iadd 492 dL_law_491 rfl ?_
  refine lw_sld 493 (i + 1) dL_law_492 rfl (nI_add i 1) (by omega) (by omega) ?_
  refine lw_aload_n 494 dL_law_493 rfl rfl ?_
  refine lw_iload_n 495 dL_law_494 rfl rfl ?_
  refine lw_iconst 496 2 dL_law_495 rfl (by decide) ?_
  refine lw_iadd 497 dL_law_496 rfl ?_
  refine lw_sld 498 (i + 2) dL_law_497 rfl (nI_add i 2) (by omega) (by omega) ?_
  refine lz_callV (μ' := m7_sees) (As := [.int (xs (i + 1)), .int (xs (i + 2))]) (rest := []) 501 dL_law_498 rfl (am_gi 670 (by decide +kernel) rfl) m7_sees_V ob0 (st_sees h (xs (i + 1)) (xs (i + 2))) rfl rfl (by decide) (Nat.le_of_ble_eq_true rfl) (fun v M1 V1 f1 hh => ?_)
  obtain ⟨x, hv, h8⟩ := hh
  subst hv
  refine lw_aload_n 502 dL_law_501 rfl rfl ?_
  refine lw_aload_n 503 dL_law_502 rfl rfl ?_
  refine lw_iload_n 504 dL_law_503 rfl rfl ?_
  refine lw_iconst 505 1 dL_law_504 rfl (by decide) ?_
  refine lw_iadd 506 dL_law_505 rfl ?_
  refine lw_sld 507 (i + 1) dL_law_506 rfl (nI_add i 1) (by omega) (by omega) ?_
  refine lw_aload_n 508 dL_law_507 rfl rfl ?_
  refine lw_iload_n 509 dL_law_508 rfl rfl ?_
  refine lw_iconst 510 2 dL_law_509 rfl (by decide) ?_
  refine lw_iadd 511 dL_law_510 rfl ?_
  refine lw_sld 512 (i + 2) dL_law_511 rfl (nI_add i 2) (by omega) (by omega) ?_
  refine lz_callV (μ' := m8_sees) (As := [.int (xs (i + 1)), .int (xs (i + 2))]) (rest := [.int x]) 515 dL_law_512 rfl (am_gi 987 (by decide +kernel) rfl) m8_sees_V ob121 h8 rfl rfl (by decide) (Nat.le_of_ble_eq_true rfl) (fun v M2 V2 f2 hh => ?_)
  obtain ⟨hv, h2⟩ := hh
  subst hv
  refine lw_icmp_eq 625 518 dL_law_515 (by decide) rfl (fun _ => ?_) (fun c => absurd rfl c)
  exact hn M2 V2 f2 h2
set_option maxRecDepth 20000 in
theorem lc_16 (h : IV M f) (hi : i + 3 ≤ L) (hL : L ≤ 1536) (hn : ∀ M V f, IV M f → L0 L xs 625 (LL i) [] M V f) : L0 L xs 520 (LL i) [] M V f := by
  refine lw_aload_n 521 dL_law_520 rfl rfl ?_
  refine lz_callV (μ' := m7_forget) (As := []) (rest := []) 524 dL_law_521 rfl (am_gi 678 (by decide +kernel) rfl) m7_forget_V ob0 (st_forget h) rfl rfl (by decide) (Nat.le_of_ble_eq_true rfl) (fun v M1 V1 f1 hh => ?_)
  obtain ⟨x, hv, h8⟩ := hh
  subst hv
  refine lw_aload_n 525 dL_law_524 rfl rfl ?_
  refine lz_callV (μ' := m8_forget) (As := []) (rest := [.int x]) 528 dL_law_525 rfl (am_gi 991 (by decide +kernel) rfl) m8_forget_V ob121 h8 rfl rfl (by decide) (Nat.le_of_ble_eq_true rfl) (fun v M2 V2 f2 hh => ?_)
  obtain ⟨hv, h2⟩ := hh
  subst hv
  refine lw_icmp_eq 625 531 dL_law_528 (by decide) rfl (fun _ => ?_) (fun c => absurd rfl c)
  exact hn M2 V2 f2 h2
set_option maxRecDepth 20000 in
theorem lc_17 (h : IV M f) (hi : i + 3 ≤ L) (hL : L ≤ 1536) (hn : ∀ M V f, IV M f → L0 L xs 625 (LL i) [] M V f) : L0 L xs 533 (LL i) [] M V f := by
  refine lw_aload_n 534 dL_law_533 rfl rfl ?_
  refine lw_aload_n 535 dL_law_534 rfl rfl ?_
  refine lw_iload_n 536 dL_law_535 rfl rfl ?_
  refine lw_iconst 537 1 dL_law_536 rfl (by decide) ?_
  refine lw_iadd 538 dL_law_537 rfl ?_
  refine lw_sld 539 (i + 1) dL_law_538 rfl (nI_add i 1) (by omega) (by omega) ?_
  refine lz_callV (μ' := m7_which) (As := [.int (xs (i + 1))]) (rest := []) 542 dL_law_539 rfl (am_gi 682 (by decide +kernel) rfl) m7_which_V ob0 (st_which h (xs (i + 1))) rfl rfl (by decide) (Nat.le_of_ble_eq_true rfl) (fun v M1 V1 f1 hh => ?_)
  obtain ⟨x, hv, h8⟩ := hh
  subst hv
  refine lw_aload_n 543 dL_law_542 rfl rfl ?_
  refine lw_aload_n 544 dL_law_543 rfl rfl ?_
  refine lw_iload_n 545 dL_law_544 rfl rfl ?_
  refine lw_iconst 546 1 dL_law_545 rfl (by decide) ?_
  refine lw_iadd 547 dL_law_546 rfl ?_
  refine lw_sld 548 (i + 1) dL_law_547 rfl (nI_add i 1) (by omega) (by omega) ?_
  refine lz_callV (μ' := m8_which) (As := [.int (xs (i + 1))]) (rest := [.int x]) 551 dL_law_548 rfl (am_gi 995 (by decide +kernel) rfl) m8_which_V ob121 h8 rfl rfl (by decide) (Nat.le_of_ble_eq_true rfl) (fun v M2 V2 f2 hh => ?_)
  obtain ⟨hv, h2⟩ := hh
  subst hv
  refine lw_icmp_eq 625 554 dL_law_551 (by decide) rfl (fun _ => ?_) (fun c => absurd rfl c)
  exact hn M2 V2 f2 h2
set_option maxRecDepth 20000 in
theorem lc_18 (h : IV M f) (hi : i + 3 ≤ L) (hL : L ≤ 1536) (hn : ∀ M V f, IV M f → L0 L xs 625 (LL i) [] M V f) : L0 L xs 556 (LL i) [] M V f := by
  refine lw_aload_n 557 dL_law_556 rfl rfl ?_
  refine lw_aload_n 558 dL_law_557 rfl rfl ?_
  refine lw_iload_n 559 dL_law_558 rfl rfl ?_
  refine lw_iconst 560 1 dL_law_559 rfl (by decide) ?_
  refine lw_iadd 561 dL_law_560 rfl ?_
  refine lw_sld 562 (i + 1) dL_law_561 rfl (nI_add i 1) (by omega) (by omega) ?_
  refine lz_callV (μ' := m7_keep) (As := [.int (xs (i + 1))]) (rest := []) 565 dL_law_562 rfl (am_gi 704 (by decide +kernel) rfl) m7_keep_V ob0 (st_keep h (xs (i + 1))) rfl rfl (by decide) (Nat.le_of_ble_eq_true rfl) (fun v M1 V1 f1 hh => ?_)
  obtain ⟨x, hv, h8⟩ := hh
  subst hv
  refine lw_aload_n 566 dL_law_565 rfl rfl ?_
  refine lw_aload_n 567 dL_law_566 rfl rfl ?_
  refine lw_iload_n 568 dL_law_567 rfl rfl ?_
  refine lw_iconst 569 1 dL_law_568 rfl (by decide) ?_
  refine lw_iadd 570 dL_law_569 rfl ?_
  refine lw_sld 571 (i + 1) dL_law_570 rfl (nI_add i 1) (by omega) (by omega) ?_
  refine lz_callV (μ' := m8_keep) (As := [.int (xs (i + 1))]) (rest := [.int x]) 574 dL_law_571 rfl (am_gi 1003 (by decide +kernel) rfl) m8_keep_V ob121 h8 rfl rfl (by decide) (Nat.le_of_ble_eq_true rfl) (fun v M2 V2 f2 hh => ?_)
  obtain ⟨hv, h2⟩ := hh
  subst hv
  refine lw_icmp_eq 625 577 dL_law_574 (by decide) rfl (fun _ => ?_) (fun c => absurd rfl c)
  exact hn M2 V2 f2 h2
set_option maxRecDepth 20000 in
theorem lc_19 (h : IV M f) (hi : i + 3 ≤ L) (hL : L ≤ 1536) (hn : ∀ M V f, IV M f → L0 L xs 625 (LL i) [] M V f) : L0 L xs 579 (LL i) [] M V f := by
  refine lw_aload_n 580 dL_law_579 rfl rfl ?_
  refine lw_aload_n 581 dL_law_580 rfl rfl ?_
  refine lw_iload_n 582 dL_law_581 rfl rfl ?_
  refine lw_iconst 583 1 dL_law_582 rfl (by decide) ?_
  refine lw_iadd 584 dL_law_583 rfl ?_
  refine lw_sld 585 (i + 1) dL_law_584 rfl (nI_add i 1) (by omega) (by omega) ?_
  refine lz_callV (μ' := m7_back) (As := [.int (xs (i + 1))]) (rest := []) 588 dL_law_585 rfl (am_gi 712 (by decide +kernel) rfl) m7_back_V ob0 (st_back h (xs (i + 1))) rfl rfl (by decide) (Nat.le_of_ble_eq_true rfl) (fun v M1 V1 f1 hh => ?_)
  obtain ⟨x, hv, h8⟩ := hh
  subst hv
  refine lw_aload_n 589 dL_law_588 rfl rfl ?_
  refine lw_aload_n 590 dL_law_589 rfl rfl ?_
  refine lw_iload_n 591 dL_law_590 rfl rfl ?_
  refine lw_iconst 592 1 dL_law_591 rfl (by decide) ?_
  refine lw_iadd 593 dL_law_592 rfl ?_
  refine lw_sld 594 (i + 1) dL_law_593 rfl (nI_add i 1) (by omega) (by omega) ?_
  refine lz_callV (μ' := m8_back) (As := [.int (xs (i + 1))]) (rest := [.int x]) 597 dL_law_594 rfl (am_gi 1011 (by decide +kernel) rfl) m8_back_V ob121 h8 rfl rfl (by decide) (Nat.le_of_ble_eq_true rfl) (fun v M2 V2 f2 hh => ?_)
  obtain ⟨hv, h2⟩ := hh
  subst hv
  refine lw_icmp_eq 625 600 dL_law_597 (by decide) rfl (fun _ => ?_) (fun c => absurd rfl c)
  exact hn M2 V2 f2 h2
set_option maxRecDepth 20000 in
theorem lc_20 (h : IV M f) (hi : i + 3 ≤ L) (hL : L ≤ 1536) (hn : ∀ M V f, IV M f → L0 L xs 625 (LL i) [] M V f) : L0 L xs 602 (LL i) [] M V f := by
  refine lw_aload_n 603 dL_law_602 rfl rfl ?_
  refine lw_aload_n 604 dL_law_603 rfl rfl ?_
  refine lw_iload_n 605 dL_law_604 rfl rfl ?_
  refine lw_iconst 606 1 dL_law_605 rfl (by decide) ?_
  refine lw_iadd 607 dL_law_606 rfl ?_
  refine lw_sld 608 (i + 1) dL_law_607 rfl (nI_add i 1) (by omega) (by omega) ?_
  refine lz_callV (μ' := m7_count) (As := [.int (xs (i + 1))]) (rest := []) 611 dL_law_608 rfl (am_gi 716 (by decide +kernel) rfl) m7_count_V ob0 (st_count h (xs (i + 1))) rfl rfl (by decide) (Nat.le_of_ble_eq_true rfl) (fun v M1 V1 f1 hh => ?_)
  obtain ⟨x, hv, h8⟩ := hh
  subst hv
  refine lw_aload_n 612 dL_law_611 rfl rfl ?_
  refine lw_aload_n 613 dL_law_612 rfl rfl ?_
  refine lw_iload_n 614 dL_law_613 rfl rfl ?_
  refine lw_iconst 615 1 dL_law_614 rfl (by decide) ?_
  refine lw_iadd 616 dL_law_615 rfl ?_
  refine lw_sld 617 (i + 1) dL_law_616 rfl (nI_add i 1) (by omega) (by omega) ?_
  refine lz_callV (μ' := m8_count) (As := [.int (xs (i + 1))]) (rest := [.int x]) 620 dL_law_617 rfl (am_gi 1015 (by decide +kernel) rfl) m8_count_V ob121 h8 rfl rfl (by decide) (Nat.le_of_ble_eq_true rfl) (fun v M2 V2 f2 hh => ?_)
  obtain ⟨hv, h2⟩ := hh
  subst hv
  refine lw_icmp_eq 625 623 dL_law_620 (by decide) rfl (fun _ => ?_) (fun c => absurd rfl c)
  exact hn M2 V2 f2 h2
end LCS
