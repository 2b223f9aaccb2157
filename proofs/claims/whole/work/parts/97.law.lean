/-! the law's loop -/
abbrev xl_C (E : xj_E) (G : xj_G) : Prop := xj_C E G code "ThreePhaseGroupLaw" 4 10 374 600000 7302250 (some .boolean)
abbrev xl_X (E : xj_E) (G : xj_G) (Q : State → Prop) (b pc i : Nat) (v : xn_V) : Prop := xn_X E G Q 116 10408 pc [some (.ref b), some (.ref (xj_ad G (0, 0, 0))), some (.ref (xj_ad G (21, 0, 0))), some (.int (nI i))] [] v
section XL
variable {E : xj_E} {G : xj_G} {Q : State → Prop} {b n i : Nat} {xs : Nat → Int32} {T : pg_T} {v : xn_V}
theorem xl_ld {cs sl pc nx j : Nat} {L : List (Option Value)} {st : List Value} {w : xj_W} (C : xl_C E G) (hX : va_X b n xs (xj_s E) (xj_s E).heap) (hbl : b < (xj_s E).heap.size ∧ (xj_s E).heap.size = G.2.2) (hL : n ≤ 2560) (a : xj_At code pc .iaload 1 nx) (hj : j < n) (kk : xj_X E G Q cs sl nx L (.int (xs j) :: st) w) : xj_X E G Q cs sl pc L (.int (nI j) :: .ref b :: st) w := by
  obtain ⟨hdc, hn0⟩ := a
  subst hn0
  intro ls H locs h1 h2 h3 h4
  have hc : (nI j).toNatClampNeg = j := nI_clamp (by omega)
  refine va_sld C.1 C.2.1 hX hbl.1 (fun h => ?_) h4 (vp_in_nI hj (by omega)) hdc ?_
  · have : G.2.2 ≤ b := h
    omega
  · rw [hc]
    exact kk ls H locs h1 h2 h3 h4
theorem xl_len {cs sl pc nx : Nat} {L : List (Option Value)} {st : List Value} {w : xj_W} (C : xl_C E G) (hX : va_X b n xs (xj_s E) (xj_s E).heap) (hbl : b < (xj_s E).heap.size ∧ (xj_s E).heap.size = G.2.2) (hL : n ≤ 2560) (a : xj_At code pc .arraylength 1 nx) (kk : xj_X E G Q cs sl nx L (.int (nI n) :: st) w) : xj_X E G Q cs sl pc L (.ref b :: st) w := by
  obtain ⟨hdc, hn0⟩ := a
  subst hn0
  intro ls H locs h1 h2 h3 h4
  refine va_slen C.1 C.2.1 hX hbl.1 (fun h => ?_) h4 hdc ?_
  · have : G.2.2 ≤ b := h
    omega
  · exact kk ls H locs h1 h2 h3 h4
theorem c_L_submit (C : xl_C E G) (hX : va_X b n xs (xj_s E) (xj_s E).heap) (hbl : b < (xj_s E).heap.size ∧ (xj_s E).heap.size = G.2.2) (hL : n ≤ 2560) (hi : i + 5 ≤ n) (hg : pg_gi T) (hc : xc_T T v) (ht : xt_T T v) (kk : ∀ T' v', pg_gi T' → xc_T T' v' → xt_T T' v' → xl_X E G Q b 730 i v') : xl_X E G Q b 128 i v := by
  refine xj_aload_n C a_L_law_128 rfl ?_
  refine xj_aload_n C a_L_law_129 rfl ?_
  refine xj_iload_n C a_L_law_130 rfl ?_
  refine xj_iconst (v := nI 1) C a_L_law_131 (by decide) ?_
  refine xj_iaddN C a_L_law_132 ?_
  refine xl_ld C hX hbl hL a_L_law_133 (by omega) ?_
  refine xj_aload_n C a_L_law_134 rfl ?_
  refine xj_iload_n C a_L_law_135 rfl ?_
  refine xj_iconst (v := nI 2) C a_L_law_136 (by decide) ?_
  refine xj_iaddN C a_L_law_137 ?_
  refine xl_ld C hX hbl hL a_L_law_138 (by omega) ?_
  refine xj_aload_n C a_L_law_139 rfl ?_
  refine xj_iload_n C a_L_law_140 rfl ?_
  refine xj_iconst (v := nI 3) C a_L_law_141 (by decide) ?_
  refine xj_iaddN C a_L_law_142 ?_
  refine xl_ld C hX hbl hL a_L_law_143 (by omega) ?_
  refine xj_aload_n C a_L_law_144 rfl ?_
  refine xj_iload_n C a_L_law_145 rfl ?_
  refine xj_iconst (v := nI 4) C a_L_law_146 (by decide) ?_
  refine xj_iaddN C a_L_law_147 ?_
  refine xl_ld C hX hbl hL a_L_law_148 (by omega) ?_
  refine xj_callV4 C a_L_law_149 (c_G_submit _ _ _ T hc (pg_gi.I1 T hg).1 _ _ _ _) mv_G_submit lk_L_13 ⟨rfl, rfl, rfl⟩ xj_ok0 ⟨by decide, by decide⟩ rfl (Nat.le_of_ble_eq_true rfl) ⟨by decide, by decide⟩ (fun a' w' hres => ?_)
  obtain ⟨rfl, v1, rfl, hc1, f1⟩ := hres
  have ht1 := ht.G f1
  refine xj_aload_n C a_L_law_152 rfl ?_
  refine xj_aload_n C a_L_law_153 rfl ?_
  refine xj_iload_n C a_L_law_154 rfl ?_
  refine xj_iconst (v := nI 1) C a_L_law_155 (by decide) ?_
  refine xj_iaddN C a_L_law_156 ?_
  refine xl_ld C hX hbl hL a_L_law_157 (by omega) ?_
  refine xj_aload_n C a_L_law_158 rfl ?_
  refine xj_iload_n C a_L_law_159 rfl ?_
  refine xj_iconst (v := nI 2) C a_L_law_160 (by decide) ?_
  refine xj_iaddN C a_L_law_161 ?_
  refine xl_ld C hX hbl hL a_L_law_162 (by omega) ?_
  refine xj_aload_n C a_L_law_163 rfl ?_
  refine xj_iload_n C a_L_law_164 rfl ?_
  refine xj_iconst (v := nI 3) C a_L_law_165 (by decide) ?_
  refine xj_iaddN C a_L_law_166 ?_
  refine xl_ld C hX hbl hL a_L_law_167 (by omega) ?_
  refine xj_aload_n C a_L_law_168 rfl ?_
  refine xj_iload_n C a_L_law_169 rfl ?_
  refine xj_iconst (v := nI 4) C a_L_law_170 (by decide) ?_
  refine xj_iaddN C a_L_law_171 ?_
  refine xl_ld C hX hbl hL a_L_law_172 (by omega) ?_
  refine xj_callV4 C a_L_law_173 (c_T_submit _ _ _ T ht1 hg _ _ _ _) mv_T_submit lk_L_17 ⟨rfl, rfl, rfl⟩ xj_ok21 ⟨by decide, by decide⟩ rfl (Nat.le_of_ble_eq_true rfl) ⟨by decide, by decide⟩ (fun a' w' hres => ?_)
  obtain ⟨rfl, v2, rfl, ht2, f2⟩ := hres
  have hc2 := hc1.U f2
  refine xj_icmp_eq C a_L_law_176 rfl (fun h176 => ?_) (fun h176 => ?_)
  · exact kk _ v2 (hg.submit _ _ _ _) hc2 ht2
  · exact absurd rfl h176
theorem c_L_deliver (C : xl_C E G) (hX : va_X b n xs (xj_s E) (xj_s E).heap) (hbl : b < (xj_s E).heap.size ∧ (xj_s E).heap.size = G.2.2) (hL : n ≤ 2560) (hi : i + 5 ≤ n) (hg : pg_gi T) (hc : xc_T T v) (ht : xt_T T v) (kk : ∀ T' v', pg_gi T' → xc_T T' v' → xt_T T' v' → xl_X E G Q b 730 i v') : xl_X E G Q b 181 i v := by
  refine xj_aload_n C a_L_law_181 rfl ?_
  refine xj_aload_n C a_L_law_182 rfl ?_
  refine xj_iload_n C a_L_law_183 rfl ?_
  refine xj_iconst (v := nI 1) C a_L_law_184 (by decide) ?_
  refine xj_iaddN C a_L_law_185 ?_
  refine xl_ld C hX hbl hL a_L_law_186 (by omega) ?_
  refine xj_aload_n C a_L_law_187 rfl ?_
  refine xj_iload_n C a_L_law_188 rfl ?_
  refine xj_iconst (v := nI 2) C a_L_law_189 (by decide) ?_
  refine xj_iaddN C a_L_law_190 ?_
  refine xl_ld C hX hbl hL a_L_law_191 (by omega) ?_
  refine xj_callV2 C a_L_law_192 (c_G_deliver _ _ _ T hc pg_gi pg_gi.I1 hg _ _) mv_G_deliver lk_L_18 ⟨rfl, rfl, rfl⟩ xj_ok0 ⟨by decide, by decide⟩ rfl (Nat.le_of_ble_eq_true rfl) ⟨by decide, by decide⟩ (fun a' w' hres => ?_)
  obtain ⟨rfl, v1, rfl, hc1, f1⟩ := hres
  have ht1 := ht.G f1
  refine xj_aload_n C a_L_law_195 rfl ?_
  refine xj_aload_n C a_L_law_196 rfl ?_
  refine xj_iload_n C a_L_law_197 rfl ?_
  refine xj_iconst (v := nI 1) C a_L_law_198 (by decide) ?_
  refine xj_iaddN C a_L_law_199 ?_
  refine xl_ld C hX hbl hL a_L_law_200 (by omega) ?_
  refine xj_aload_n C a_L_law_201 rfl ?_
  refine xj_iload_n C a_L_law_202 rfl ?_
  refine xj_iconst (v := nI 2) C a_L_law_203 (by decide) ?_
  refine xj_iaddN C a_L_law_204 ?_
  refine xl_ld C hX hbl hL a_L_law_205 (by omega) ?_
  refine xj_callV2 C a_L_law_206 (c_T_deliver _ _ _ T ht1 hg _ _) mv_T_deliver lk_L_22 ⟨rfl, rfl, rfl⟩ xj_ok21 ⟨by decide, by decide⟩ rfl (Nat.le_of_ble_eq_true rfl) ⟨by decide, by decide⟩ (fun a' w' hres => ?_)
  obtain ⟨rfl, v2, rfl, ht2, f2⟩ := hres
  have hc2 := hc1.U f2
  refine xj_icmp_eq C a_L_law_209 rfl (fun h209 => ?_) (fun h209 => ?_)
  · exact kk _ v2 (hg.deliver _ _) hc2 ht2
  · exact absurd rfl h209
theorem c_L_pump (C : xl_C E G) (hX : va_X b n xs (xj_s E) (xj_s E).heap) (hbl : b < (xj_s E).heap.size ∧ (xj_s E).heap.size = G.2.2) (hL : n ≤ 2560) (hi : i + 5 ≤ n) (hg : pg_gi T) (hc : xc_T T v) (ht : xt_T T v) (kk : ∀ T' v', pg_gi T' → xc_T T' v' → xt_T T' v' → xl_X E G Q b 730 i v') : xl_X E G Q b 214 i v := by
  refine xj_aload_n C a_L_law_214 rfl ?_
  refine xj_aload_n C a_L_law_215 rfl ?_
  refine xj_iload_n C a_L_law_216 rfl ?_
  refine xj_iconst (v := nI 1) C a_L_law_217 (by decide) ?_
  refine xj_iaddN C a_L_law_218 ?_
  refine xl_ld C hX hbl hL a_L_law_219 (by omega) ?_
  refine xj_aload_n C a_L_law_220 rfl ?_
  refine xj_iload_n C a_L_law_221 rfl ?_
  refine xj_iconst (v := nI 2) C a_L_law_222 (by decide) ?_
  refine xj_iaddN C a_L_law_223 ?_
  refine xl_ld C hX hbl hL a_L_law_224 (by omega) ?_
  refine xj_callV2 C a_L_law_225 (c_G_pump _ _ _ T hc pg_gi pg_gi.I1 hg _ _) mv_G_pump lk_L_23 ⟨rfl, rfl, rfl⟩ xj_ok0 ⟨by decide, by decide⟩ rfl (Nat.le_of_ble_eq_true rfl) ⟨by decide, by decide⟩ (fun a' w' hres => ?_)
  obtain ⟨rfl, v1, rfl, hc1, f1⟩ := hres
  have ht1 := ht.G f1
  refine xj_aload_n C a_L_law_228 rfl ?_
  refine xj_aload_n C a_L_law_229 rfl ?_
  refine xj_iload_n C a_L_law_230 rfl ?_
  refine xj_iconst (v := nI 1) C a_L_law_231 (by decide) ?_
  refine xj_iaddN C a_L_law_232 ?_
  refine xl_ld C hX hbl hL a_L_law_233 (by omega) ?_
  refine xj_aload_n C a_L_law_234 rfl ?_
  refine xj_iload_n C a_L_law_235 rfl ?_
  refine xj_iconst (v := nI 2) C a_L_law_236 (by decide) ?_
  refine xj_iaddN C a_L_law_237 ?_
  refine xl_ld C hX hbl hL a_L_law_238 (by omega) ?_
  refine xj_callV2 C a_L_law_239 (c_T_pump _ _ _ T ht1 hg _ _) mv_T_pump lk_L_27 ⟨rfl, rfl, rfl⟩ xj_ok21 ⟨by decide, by decide⟩ rfl (Nat.le_of_ble_eq_true rfl) ⟨by decide, by decide⟩ (fun a' w' hres => ?_)
  obtain ⟨rfl, v2, rfl, ht2, f2⟩ := hres
  have hc2 := hc1.U f2
  refine xj_icmp_eq C a_L_law_242 rfl (fun h242 => ?_) (fun h242 => ?_)
  · exact kk _ v2 (hg.pump _ _) hc2 ht2
  · exact absurd rfl h242
theorem c_L_tick (C : xl_C E G) (hX : va_X b n xs (xj_s E) (xj_s E).heap) (hbl : b < (xj_s E).heap.size ∧ (xj_s E).heap.size = G.2.2) (hL : n ≤ 2560) (hi : i + 5 ≤ n) (hg : pg_gi T) (hc : xc_T T v) (ht : xt_T T v) (kk : ∀ T' v', pg_gi T' → xc_T T' v' → xt_T T' v' → xl_X E G Q b 730 i v') : xl_X E G Q b 247 i v := by
  refine xj_aload_n C a_L_law_247 rfl ?_
  refine xj_aload_n C a_L_law_248 rfl ?_
  refine xj_iload_n C a_L_law_249 rfl ?_
  refine xj_iconst (v := nI 1) C a_L_law_250 (by decide) ?_
  refine xj_iaddN C a_L_law_251 ?_
  refine xl_ld C hX hbl hL a_L_law_252 (by omega) ?_
  refine xj_callV1 C a_L_law_253 (c_G_tick _ _ _ T hc (pg_gi.I1 T hg).1 (fun r hr _ h2 h3 => hg.tk r hr h2 h3) _) mv_G_tick lk_L_28 ⟨rfl, rfl, rfl⟩ xj_ok0 ⟨by decide, by decide⟩ rfl (Nat.le_of_ble_eq_true rfl) ⟨by decide, by decide⟩ (fun a' w' hres => ?_)
  obtain ⟨rfl, v1, rfl, hc1, f1⟩ := hres
  have ht1 := ht.G f1
  refine xj_aload_n C a_L_law_256 rfl ?_
  refine xj_aload_n C a_L_law_257 rfl ?_
  refine xj_iload_n C a_L_law_258 rfl ?_
  refine xj_iconst (v := nI 1) C a_L_law_259 (by decide) ?_
  refine xj_iaddN C a_L_law_260 ?_
  refine xl_ld C hX hbl hL a_L_law_261 (by omega) ?_
  refine xj_callV1 C a_L_law_262 (c_T_tick _ _ _ T ht1 hg _) mv_T_tick lk_L_32 ⟨rfl, rfl, rfl⟩ xj_ok21 ⟨by decide, by decide⟩ rfl (Nat.le_of_ble_eq_true rfl) ⟨by decide, by decide⟩ (fun a' w' hres => ?_)
  obtain ⟨rfl, v2, rfl, ht2, f2⟩ := hres
  have hc2 := hc1.U f2
  refine xj_icmp_eq C a_L_law_265 rfl (fun h265 => ?_) (fun h265 => ?_)
  · exact kk _ v2 (hg.tick _) hc2 ht2
  · exact absurd rfl h265
theorem c_L_corrupt (C : xl_C E G) (hX : va_X b n xs (xj_s E) (xj_s E).heap) (hbl : b < (xj_s E).heap.size ∧ (xj_s E).heap.size = G.2.2) (hL : n ≤ 2560) (hi : i + 5 ≤ n) (hg : pg_gi T) (hc : xc_T T v) (ht : xt_T T v) (kk : ∀ T' v', pg_gi T' → xc_T T' v' → xt_T T' v' → xl_X E G Q b 730 i v') : xl_X E G Q b 270 i v := by
  refine xj_aload_n C a_L_law_270 rfl ?_
  refine xj_aload_n C a_L_law_271 rfl ?_
  refine xj_iload_n C a_L_law_272 rfl ?_
  refine xj_iconst (v := nI 1) C a_L_law_273 (by decide) ?_
  refine xj_iaddN C a_L_law_274 ?_
  refine xl_ld C hX hbl hL a_L_law_275 (by omega) ?_
  refine xj_callV1 C a_L_law_276 (c_G_corrupt _ _ _ T hc (pg_gi.I1 T hg).1 _) mv_G_corrupt lk_L_33 ⟨rfl, rfl, rfl⟩ xj_ok0 ⟨by decide, by decide⟩ rfl (Nat.le_of_ble_eq_true rfl) ⟨by decide, by decide⟩ (fun a' w' hres => ?_)
  obtain ⟨rfl, v1, rfl, hc1, f1⟩ := hres
  have ht1 := ht.G f1
  refine xj_aload_n C a_L_law_279 rfl ?_
  refine xj_aload_n C a_L_law_280 rfl ?_
  refine xj_iload_n C a_L_law_281 rfl ?_
  refine xj_iconst (v := nI 1) C a_L_law_282 (by decide) ?_
  refine xj_iaddN C a_L_law_283 ?_
  refine xl_ld C hX hbl hL a_L_law_284 (by omega) ?_
  refine xj_callV1 C a_L_law_285 (c_T_corrupt _ _ _ T ht1 hg _) mv_T_corrupt lk_L_36 ⟨rfl, rfl, rfl⟩ xj_ok21 ⟨by decide, by decide⟩ rfl (Nat.le_of_ble_eq_true rfl) ⟨by decide, by decide⟩ (fun a' w' hres => ?_)
  obtain ⟨rfl, v2, rfl, ht2, f2⟩ := hres
  have hc2 := hc1.U f2
  refine xj_icmp_eq C a_L_law_288 rfl (fun h288 => ?_) (fun h288 => ?_)
  · exact kk _ v2 (hg.corrupt _) hc2 ht2
  · exact absurd rfl h288
theorem c_L_forge (C : xl_C E G) (hX : va_X b n xs (xj_s E) (xj_s E).heap) (hbl : b < (xj_s E).heap.size ∧ (xj_s E).heap.size = G.2.2) (hL : n ≤ 2560) (hi : i + 5 ≤ n) (hg : pg_gi T) (hc : xc_T T v) (ht : xt_T T v) (kk : ∀ T' v', pg_gi T' → xc_T T' v' → xt_T T' v' → xl_X E G Q b 730 i v') : xl_X E G Q b 293 i v := by
  refine xj_aload_n C a_L_law_293 rfl ?_
  refine xj_aload_n C a_L_law_294 rfl ?_
  refine xj_iload_n C a_L_law_295 rfl ?_
  refine xj_iconst (v := nI 1) C a_L_law_296 (by decide) ?_
  refine xj_iaddN C a_L_law_297 ?_
  refine xl_ld C hX hbl hL a_L_law_298 (by omega) ?_
  refine xj_aload_n C a_L_law_299 rfl ?_
  refine xj_iload_n C a_L_law_300 rfl ?_
  refine xj_iconst (v := nI 2) C a_L_law_301 (by decide) ?_
  refine xj_iaddN C a_L_law_302 ?_
  refine xl_ld C hX hbl hL a_L_law_303 (by omega) ?_
  refine xj_aload_n C a_L_law_304 rfl ?_
  refine xj_iload_n C a_L_law_305 rfl ?_
  refine xj_iconst (v := nI 3) C a_L_law_306 (by decide) ?_
  refine xj_iaddN C a_L_law_307 ?_
  refine xl_ld C hX hbl hL a_L_law_308 (by omega) ?_
  refine xj_aload_n C a_L_law_309 rfl ?_
  refine xj_iload_n C a_L_law_310 rfl ?_
  refine xj_iconst (v := nI 4) C a_L_law_311 (by decide) ?_
  refine xj_iaddN C a_L_law_312 ?_
  refine xl_ld C hX hbl hL a_L_law_313 (by omega) ?_
  refine xj_callV4 C a_L_law_314 (c_G_forge _ _ _ T hc (pg_gi.I1 T hg).1 _ _ _ _ (fun k h1 h2 x z y hF hz => hg.bok ⟨h1, by omega⟩ (fun _ => ⟨y, rfl⟩) (fun h => by omega) hF hz)) mv_G_forge lk_L_37 ⟨rfl, rfl, rfl⟩ xj_ok0 ⟨by decide, by decide⟩ rfl (Nat.le_of_ble_eq_true rfl) ⟨by decide, by decide⟩ (fun a' w' hres => ?_)
  obtain ⟨rfl, v1, rfl, hc1, f1⟩ := hres
  have ht1 := ht.G f1
  refine xj_aload_n C a_L_law_317 rfl ?_
  refine xj_aload_n C a_L_law_318 rfl ?_
  refine xj_iload_n C a_L_law_319 rfl ?_
  refine xj_iconst (v := nI 1) C a_L_law_320 (by decide) ?_
  refine xj_iaddN C a_L_law_321 ?_
  refine xl_ld C hX hbl hL a_L_law_322 (by omega) ?_
  refine xj_aload_n C a_L_law_323 rfl ?_
  refine xj_iload_n C a_L_law_324 rfl ?_
  refine xj_iconst (v := nI 2) C a_L_law_325 (by decide) ?_
  refine xj_iaddN C a_L_law_326 ?_
  refine xl_ld C hX hbl hL a_L_law_327 (by omega) ?_
  refine xj_aload_n C a_L_law_328 rfl ?_
  refine xj_iload_n C a_L_law_329 rfl ?_
  refine xj_iconst (v := nI 3) C a_L_law_330 (by decide) ?_
  refine xj_iaddN C a_L_law_331 ?_
  refine xl_ld C hX hbl hL a_L_law_332 (by omega) ?_
  refine xj_aload_n C a_L_law_333 rfl ?_
  refine xj_iload_n C a_L_law_334 rfl ?_
  refine xj_iconst (v := nI 4) C a_L_law_335 (by decide) ?_
  refine xj_iaddN C a_L_law_336 ?_
  refine xl_ld C hX hbl hL a_L_law_337 (by omega) ?_
  refine xj_callV4 C a_L_law_338 (c_T_forge _ _ _ T ht1 hg _ _ _ _) mv_T_forge lk_L_40 ⟨rfl, rfl, rfl⟩ xj_ok21 ⟨by decide, by decide⟩ rfl (Nat.le_of_ble_eq_true rfl) ⟨by decide, by decide⟩ (fun a' w' hres => ?_)
  obtain ⟨rfl, v2, rfl, ht2, f2⟩ := hres
  have hc2 := hc1.U f2
  refine xj_icmp_eq C a_L_law_341 rfl (fun h341 => ?_) (fun h341 => ?_)
  · exact kk _ v2 (hg.forge _ _ _ _) hc2 ht2
  · exact absurd rfl h341
theorem c_L_forgeCheckpoint (C : xl_C E G) (hX : va_X b n xs (xj_s E) (xj_s E).heap) (hbl : b < (xj_s E).heap.size ∧ (xj_s E).heap.size = G.2.2) (hL : n ≤ 2560) (hi : i + 5 ≤ n) (hg : pg_gi T) (hc : xc_T T v) (ht : xt_T T v) (kk : ∀ T' v', pg_gi T' → xc_T T' v' → xt_T T' v' → xl_X E G Q b 730 i v') : xl_X E G Q b 346 i v := by
  refine xj_aload_n C a_L_law_346 rfl ?_
  refine xj_aload_n C a_L_law_347 rfl ?_
  refine xj_iload_n C a_L_law_348 rfl ?_
  refine xj_iconst (v := nI 1) C a_L_law_349 (by decide) ?_
  refine xj_iaddN C a_L_law_350 ?_
  refine xl_ld C hX hbl hL a_L_law_351 (by omega) ?_
  refine xj_aload_n C a_L_law_352 rfl ?_
  refine xj_iload_n C a_L_law_353 rfl ?_
  refine xj_iconst (v := nI 2) C a_L_law_354 (by decide) ?_
  refine xj_iaddN C a_L_law_355 ?_
  refine xl_ld C hX hbl hL a_L_law_356 (by omega) ?_
  refine xj_i2l C a_L_law_357 ?_
  refine xj_bipush (v := nI 32) C a_L_law_358 (by decide) ?_
  refine xj_lshl C a_L_law_360 ?_
  refine xj_aload_n C a_L_law_361 rfl ?_
  refine xj_iload_n C a_L_law_362 rfl ?_
  refine xj_iconst (v := nI 3) C a_L_law_363 (by decide) ?_
  refine xj_iaddN C a_L_law_364 ?_
  refine xl_ld C hX hbl hL a_L_law_365 (by omega) ?_
  refine xj_i2l C a_L_law_366 ?_
  refine xj_ldc2 C a_L_law_367 kl_L_41 ?_
  refine xj_land C a_L_law_370 ?_
  refine xj_lor C a_L_law_371 ?_
  refine xj_callV2 C a_L_law_372 (c_G_forgeCheckpoint _ _ _ T hc (pg_gi.I1 T hg).1 _ _ (fun hF hz => hg.bok ⟨by decide, by decide⟩ (fun h => by cases h) (fun _ => rfl) hF hz)) mv_G_forgeCheckpoint lk_L_43 ⟨rfl, rfl, rfl⟩ xj_ok0 ⟨by decide, by decide⟩ rfl (Nat.le_of_ble_eq_true rfl) ⟨by decide, by decide⟩ (fun a' w' hres => ?_)
  obtain ⟨rfl, v1, rfl, hc1, f1⟩ := hres
  have ht1 := ht.G f1
  refine xj_aload_n C a_L_law_375 rfl ?_
  refine xj_aload_n C a_L_law_376 rfl ?_
  refine xj_iload_n C a_L_law_377 rfl ?_
  refine xj_iconst (v := nI 1) C a_L_law_378 (by decide) ?_
  refine xj_iaddN C a_L_law_379 ?_
  refine xl_ld C hX hbl hL a_L_law_380 (by omega) ?_
  refine xj_aload_n C a_L_law_381 rfl ?_
  refine xj_iload_n C a_L_law_382 rfl ?_
  refine xj_iconst (v := nI 2) C a_L_law_383 (by decide) ?_
  refine xj_iaddN C a_L_law_384 ?_
  refine xl_ld C hX hbl hL a_L_law_385 (by omega) ?_
  refine xj_i2l C a_L_law_386 ?_
  refine xj_bipush (v := nI 32) C a_L_law_387 (by decide) ?_
  refine xj_lshl C a_L_law_389 ?_
  refine xj_aload_n C a_L_law_390 rfl ?_
  refine xj_iload_n C a_L_law_391 rfl ?_
  refine xj_iconst (v := nI 3) C a_L_law_392 (by decide) ?_
  refine xj_iaddN C a_L_law_393 ?_
  refine xl_ld C hX hbl hL a_L_law_394 (by omega) ?_
  refine xj_i2l C a_L_law_395 ?_
  refine xj_ldc2 C a_L_law_396 kl_L_41 ?_
  refine xj_land C a_L_law_399 ?_
  refine xj_lor C a_L_law_400 ?_
  refine xj_callV2 C a_L_law_401 (c_T_forgeCheckpoint _ _ _ T ht1 hg _ _) mv_T_forgeCheckpoint lk_L_47 ⟨rfl, rfl, rfl⟩ xj_ok21 ⟨by decide, by decide⟩ rfl (Nat.le_of_ble_eq_true rfl) ⟨by decide, by decide⟩ (fun a' w' hres => ?_)
  obtain ⟨rfl, v2, rfl, ht2, f2⟩ := hres
  have hc2 := hc1.U f2
  refine xj_icmp_eq C a_L_law_404 rfl (fun h404 => ?_) (fun h404 => ?_)
  · exact kk _ v2 (hg.fpost ⟨by decide, by decide⟩ (fun h => by cases h) (fun _ => rfl)) hc2 ht2
  · exact absurd rfl h404
theorem c_L_messages (C : xl_C E G) (hX : va_X b n xs (xj_s E) (xj_s E).heap) (hbl : b < (xj_s E).heap.size ∧ (xj_s E).heap.size = G.2.2) (hL : n ≤ 2560) (hi : i + 5 ≤ n) (hg : pg_gi T) (hc : xc_T T v) (ht : xt_T T v) (kk : ∀ T' v', pg_gi T' → xc_T T' v' → xt_T T' v' → xl_X E G Q b 730 i v') : xl_X E G Q b 409 i v := by
  refine xj_aload_n C a_L_law_409 rfl ?_
  refine xn_callV0i C a_L_law_410 (c_G_messages _ _ _ T hc) mv_G_messages lk_L_48 ⟨rfl, rfl, rfl⟩ xj_ok0 ⟨by decide, by decide⟩ rfl (Nat.le_of_ble_eq_true rfl) ⟨by decide, by decide⟩ ?_
  refine xj_aload_n C a_L_law_413 rfl ?_
  refine xn_callV0i C a_L_law_414 (c_T_messages _ _ _ T ht) mv_T_messages lk_L_52 ⟨rfl, rfl, rfl⟩ xj_ok21 ⟨by decide, by decide⟩ rfl (Nat.le_of_ble_eq_true rfl) ⟨by decide, by decide⟩ ?_
  refine xj_icmp_eq C a_L_law_417 rfl (fun h417 => ?_) (fun h417 => ?_)
  · exact kk T v hg hc ht
  · exact absurd rfl h417
theorem c_L_look (C : xl_C E G) (hX : va_X b n xs (xj_s E) (xj_s E).heap) (hbl : b < (xj_s E).heap.size ∧ (xj_s E).heap.size = G.2.2) (hL : n ≤ 2560) (hi : i + 5 ≤ n) (hg : pg_gi T) (hc : xc_T T v) (ht : xt_T T v) (kk : ∀ T' v', pg_gi T' → xc_T T' v' → xt_T T' v' → xl_X E G Q b 730 i v') : xl_X E G Q b 422 i v := by
  refine xj_aload_n C a_L_law_422 rfl ?_
  refine xj_aload_n C a_L_law_423 rfl ?_
  refine xj_iload_n C a_L_law_424 rfl ?_
  refine xj_iconst (v := nI 1) C a_L_law_425 (by decide) ?_
  refine xj_iaddN C a_L_law_426 ?_
  refine xl_ld C hX hbl hL a_L_law_427 (by omega) ?_
  refine xj_aload_n C a_L_law_428 rfl ?_
  refine xj_iload_n C a_L_law_429 rfl ?_
  refine xj_iconst (v := nI 2) C a_L_law_430 (by decide) ?_
  refine xj_iaddN C a_L_law_431 ?_
  refine xl_ld C hX hbl hL a_L_law_432 (by omega) ?_
  refine xn_callV2l C a_L_law_433 (c_G_look _ _ _ T hc _ _) mv_G_look lk_L_53 ⟨rfl, rfl, rfl⟩ xj_ok0 ⟨by decide, by decide⟩ rfl (Nat.le_of_ble_eq_true rfl) ⟨by decide, by decide⟩ ?_
  refine xj_aload_n C a_L_law_436 rfl ?_
  refine xj_aload_n C a_L_law_437 rfl ?_
  refine xj_iload_n C a_L_law_438 rfl ?_
  refine xj_iconst (v := nI 1) C a_L_law_439 (by decide) ?_
  refine xj_iaddN C a_L_law_440 ?_
  refine xl_ld C hX hbl hL a_L_law_441 (by omega) ?_
  refine xj_aload_n C a_L_law_442 rfl ?_
  refine xj_iload_n C a_L_law_443 rfl ?_
  refine xj_iconst (v := nI 2) C a_L_law_444 (by decide) ?_
  refine xj_iaddN C a_L_law_445 ?_
  refine xl_ld C hX hbl hL a_L_law_446 (by omega) ?_
  refine xn_callV2l C a_L_law_447 (c_T_look _ _ _ T ht hg _ _) mv_T_look lk_L_57 ⟨rfl, rfl, rfl⟩ xj_ok21 ⟨by decide, by decide⟩ rfl (Nat.le_of_ble_eq_true rfl) ⟨by decide, by decide⟩ ?_
  refine xj_lcmp C a_L_law_450 ?_
  refine xj_if_eq C a_L_law_451 rfl (fun h451 => ?_) (fun h451 => ?_)
  · exact kk T v hg hc ht
  · exact absurd (xp_cmp_eq.mpr rfl) h451
theorem c_L_mark (C : xl_C E G) (hX : va_X b n xs (xj_s E) (xj_s E).heap) (hbl : b < (xj_s E).heap.size ∧ (xj_s E).heap.size = G.2.2) (hL : n ≤ 2560) (hi : i + 5 ≤ n) (hg : pg_gi T) (hc : xc_T T v) (ht : xt_T T v) (kk : ∀ T' v', pg_gi T' → xc_T T' v' → xt_T T' v' → xl_X E G Q b 730 i v') : xl_X E G Q b 456 i v := by
  refine xj_aload_n C a_L_law_456 rfl ?_
  refine xj_aload_n C a_L_law_457 rfl ?_
  refine xj_iload_n C a_L_law_458 rfl ?_
  refine xj_iconst (v := nI 1) C a_L_law_459 (by decide) ?_
  refine xj_iaddN C a_L_law_460 ?_
  refine xl_ld C hX hbl hL a_L_law_461 (by omega) ?_
  refine xn_callV1i C a_L_law_462 (c_G_mark _ _ _ T hc _) mv_G_mark lk_L_58 ⟨rfl, rfl, rfl⟩ xj_ok0 ⟨by decide, by decide⟩ rfl (Nat.le_of_ble_eq_true rfl) ⟨by decide, by decide⟩ ?_
  refine xj_aload_n C a_L_law_465 rfl ?_
  refine xj_aload_n C a_L_law_466 rfl ?_
  refine xj_iload_n C a_L_law_467 rfl ?_
  refine xj_iconst (v := nI 1) C a_L_law_468 (by decide) ?_
  refine xj_iaddN C a_L_law_469 ?_
  refine xl_ld C hX hbl hL a_L_law_470 (by omega) ?_
  refine xn_callV1i C a_L_law_471 (c_T_mark _ _ _ T ht _) mv_T_mark lk_L_62 ⟨rfl, rfl, rfl⟩ xj_ok21 ⟨by decide, by decide⟩ rfl (Nat.le_of_ble_eq_true rfl) ⟨by decide, by decide⟩ ?_
  refine xj_icmp_eq C a_L_law_474 rfl (fun h474 => ?_) (fun h474 => ?_)
  · exact kk T v hg hc ht
  · exact absurd rfl h474
theorem c_L_view (C : xl_C E G) (hX : va_X b n xs (xj_s E) (xj_s E).heap) (hbl : b < (xj_s E).heap.size ∧ (xj_s E).heap.size = G.2.2) (hL : n ≤ 2560) (hi : i + 5 ≤ n) (hg : pg_gi T) (hc : xc_T T v) (ht : xt_T T v) (kk : ∀ T' v', pg_gi T' → xc_T T' v' → xt_T T' v' → xl_X E G Q b 730 i v') : xl_X E G Q b 479 i v := by
  refine xj_aload_n C a_L_law_479 rfl ?_
  refine xj_aload_n C a_L_law_480 rfl ?_
  refine xj_iload_n C a_L_law_481 rfl ?_
  refine xj_iconst (v := nI 1) C a_L_law_482 (by decide) ?_
  refine xj_iaddN C a_L_law_483 ?_
  refine xl_ld C hX hbl hL a_L_law_484 (by omega) ?_
  refine xn_callV1i C a_L_law_485 (c_G_view _ _ _ T hc (pg_gi.I1 T hg).1 _) mv_G_view lk_L_63 ⟨rfl, rfl, rfl⟩ xj_ok0 ⟨by decide, by decide⟩ rfl (Nat.le_of_ble_eq_true rfl) ⟨by decide, by decide⟩ ?_
  refine xj_aload_n C a_L_law_488 rfl ?_
  refine xj_aload_n C a_L_law_489 rfl ?_
  refine xj_iload_n C a_L_law_490 rfl ?_
  refine xj_iconst (v := nI 1) C a_L_law_491 (by decide) ?_
  refine xj_iaddN C a_L_law_492 ?_
  refine xl_ld C hX hbl hL a_L_law_493 (by omega) ?_
  refine xn_callV1i C a_L_law_494 (c_T_view _ _ _ T ht hg _) mv_T_view lk_L_66 ⟨rfl, rfl, rfl⟩ xj_ok21 ⟨by decide, by decide⟩ rfl (Nat.le_of_ble_eq_true rfl) ⟨by decide, by decide⟩ ?_
  refine xj_icmp_eq C a_L_law_497 rfl (fun h497 => ?_) (fun h497 => ?_)
  · exact kk T v hg hc ht
  · exact absurd rfl h497
theorem c_L_executed (C : xl_C E G) (hX : va_X b n xs (xj_s E) (xj_s E).heap) (hbl : b < (xj_s E).heap.size ∧ (xj_s E).heap.size = G.2.2) (hL : n ≤ 2560) (hi : i + 5 ≤ n) (hg : pg_gi T) (hc : xc_T T v) (ht : xt_T T v) (kk : ∀ T' v', pg_gi T' → xc_T T' v' → xt_T T' v' → xl_X E G Q b 730 i v') : xl_X E G Q b 502 i v := by
  refine xj_aload_n C a_L_law_502 rfl ?_
  refine xj_aload_n C a_L_law_503 rfl ?_
  refine xj_iload_n C a_L_law_504 rfl ?_
  refine xj_iconst (v := nI 1) C a_L_law_505 (by decide) ?_
  refine xj_iaddN C a_L_law_506 ?_
  refine xl_ld C hX hbl hL a_L_law_507 (by omega) ?_
  refine xn_callV1i C a_L_law_508 (c_G_executed _ _ _ T hc _) mv_G_executed lk_L_67 ⟨rfl, rfl, rfl⟩ xj_ok0 ⟨by decide, by decide⟩ rfl (Nat.le_of_ble_eq_true rfl) ⟨by decide, by decide⟩ ?_
  refine xj_aload_n C a_L_law_511 rfl ?_
  refine xj_aload_n C a_L_law_512 rfl ?_
  refine xj_iload_n C a_L_law_513 rfl ?_
  refine xj_iconst (v := nI 1) C a_L_law_514 (by decide) ?_
  refine xj_iaddN C a_L_law_515 ?_
  refine xl_ld C hX hbl hL a_L_law_516 (by omega) ?_
  refine xn_callV1i C a_L_law_517 (c_T_executed _ _ _ T ht _) mv_T_executed lk_L_70 ⟨rfl, rfl, rfl⟩ xj_ok21 ⟨by decide, by decide⟩ rfl (Nat.le_of_ble_eq_true rfl) ⟨by decide, by decide⟩ ?_
  refine xj_icmp_eq C a_L_law_520 rfl (fun h520 => ?_) (fun h520 => ?_)
  · exact kk T v hg hc ht
  · exact absurd rfl h520
theorem c_L_stable (C : xl_C E G) (hX : va_X b n xs (xj_s E) (xj_s E).heap) (hbl : b < (xj_s E).heap.size ∧ (xj_s E).heap.size = G.2.2) (hL : n ≤ 2560) (hi : i + 5 ≤ n) (hg : pg_gi T) (hc : xc_T T v) (ht : xt_T T v) (kk : ∀ T' v', pg_gi T' → xc_T T' v' → xt_T T' v' → xl_X E G Q b 730 i v') : xl_X E G Q b 525 i v := by
  refine xj_aload_n C a_L_law_525 rfl ?_
  refine xj_aload_n C a_L_law_526 rfl ?_
  refine xj_iload_n C a_L_law_527 rfl ?_
  refine xj_iconst (v := nI 1) C a_L_law_528 (by decide) ?_
  refine xj_iaddN C a_L_law_529 ?_
  refine xl_ld C hX hbl hL a_L_law_530 (by omega) ?_
  refine xn_callV1i C a_L_law_531 (c_G_stable _ _ _ T hc _) mv_G_stable lk_L_71 ⟨rfl, rfl, rfl⟩ xj_ok0 ⟨by decide, by decide⟩ rfl (Nat.le_of_ble_eq_true rfl) ⟨by decide, by decide⟩ ?_
  refine xj_aload_n C a_L_law_534 rfl ?_
  refine xj_aload_n C a_L_law_535 rfl ?_
  refine xj_iload_n C a_L_law_536 rfl ?_
  refine xj_iconst (v := nI 1) C a_L_law_537 (by decide) ?_
  refine xj_iaddN C a_L_law_538 ?_
  refine xl_ld C hX hbl hL a_L_law_539 (by omega) ?_
  refine xn_callV1i C a_L_law_540 (c_T_stable _ _ _ T ht _) mv_T_stable lk_L_74 ⟨rfl, rfl, rfl⟩ xj_ok21 ⟨by decide, by decide⟩ rfl (Nat.le_of_ble_eq_true rfl) ⟨by decide, by decide⟩ ?_
  refine xj_icmp_eq C a_L_law_543 rfl (fun h543 => ?_) (fun h543 => ?_)
  · exact kk T v hg hc ht
  · exact absurd rfl h543
theorem c_L_state (C : xl_C E G) (hX : va_X b n xs (xj_s E) (xj_s E).heap) (hbl : b < (xj_s E).heap.size ∧ (xj_s E).heap.size = G.2.2) (hL : n ≤ 2560) (hi : i + 5 ≤ n) (hg : pg_gi T) (hc : xc_T T v) (ht : xt_T T v) (kk : ∀ T' v', pg_gi T' → xc_T T' v' → xt_T T' v' → xl_X E G Q b 730 i v') : xl_X E G Q b 548 i v := by
  refine xj_aload_n C a_L_law_548 rfl ?_
  refine xj_aload_n C a_L_law_549 rfl ?_
  refine xj_iload_n C a_L_law_550 rfl ?_
  refine xj_iconst (v := nI 1) C a_L_law_551 (by decide) ?_
  refine xj_iaddN C a_L_law_552 ?_
  refine xl_ld C hX hbl hL a_L_law_553 (by omega) ?_
  refine xn_callV1l C a_L_law_554 (c_G_state _ _ _ T hc _) mv_G_state lk_L_75 ⟨rfl, rfl, rfl⟩ xj_ok0 ⟨by decide, by decide⟩ rfl (Nat.le_of_ble_eq_true rfl) ⟨by decide, by decide⟩ ?_
  refine xj_aload_n C a_L_law_557 rfl ?_
  refine xj_aload_n C a_L_law_558 rfl ?_
  refine xj_iload_n C a_L_law_559 rfl ?_
  refine xj_iconst (v := nI 1) C a_L_law_560 (by decide) ?_
  refine xj_iaddN C a_L_law_561 ?_
  refine xl_ld C hX hbl hL a_L_law_562 (by omega) ?_
  refine xn_callV1l C a_L_law_563 (c_T_state _ _ _ T ht _) mv_T_state lk_L_79 ⟨rfl, rfl, rfl⟩ xj_ok21 ⟨by decide, by decide⟩ rfl (Nat.le_of_ble_eq_true rfl) ⟨by decide, by decide⟩ ?_
  refine xj_lcmp C a_L_law_566 ?_
  refine xj_if_eq C a_L_law_567 rfl (fun h567 => ?_) (fun h567 => ?_)
  · exact kk T v hg hc ht
  · exact absurd (xp_cmp_eq.mpr rfl) h567
theorem c_L_slot (C : xl_C E G) (hX : va_X b n xs (xj_s E) (xj_s E).heap) (hbl : b < (xj_s E).heap.size ∧ (xj_s E).heap.size = G.2.2) (hL : n ≤ 2560) (hi : i + 5 ≤ n) (hg : pg_gi T) (hc : xc_T T v) (ht : xt_T T v) (kk : ∀ T' v', pg_gi T' → xc_T T' v' → xt_T T' v' → xl_X E G Q b 730 i v') : xl_X E G Q b 572 i v := by
  refine xj_aload_n C a_L_law_572 rfl ?_
  refine xj_aload_n C a_L_law_573 rfl ?_
  refine xj_iload_n C a_L_law_574 rfl ?_
  refine xj_iconst (v := nI 1) C a_L_law_575 (by decide) ?_
  refine xj_iaddN C a_L_law_576 ?_
  refine xl_ld C hX hbl hL a_L_law_577 (by omega) ?_
  refine xj_aload_n C a_L_law_578 rfl ?_
  refine xj_iload_n C a_L_law_579 rfl ?_
  refine xj_iconst (v := nI 2) C a_L_law_580 (by decide) ?_
  refine xj_iaddN C a_L_law_581 ?_
  refine xl_ld C hX hbl hL a_L_law_582 (by omega) ?_
  refine xn_callV2i C a_L_law_583 (c_G_slot _ _ _ T hc (pg_gi.I1 T hg).1 (fun r hr => ⟨(hg.2.2.1 r hr).1.1.2.2.1, (hg.2.2.1 r hr).1.1.2.2.2.1⟩) _ _) mv_G_slot lk_L_80 ⟨rfl, rfl, rfl⟩ xj_ok0 ⟨by decide, by decide⟩ rfl (Nat.le_of_ble_eq_true rfl) ⟨by decide, by decide⟩ ?_
  refine xj_aload_n C a_L_law_586 rfl ?_
  refine xj_aload_n C a_L_law_587 rfl ?_
  refine xj_iload_n C a_L_law_588 rfl ?_
  refine xj_iconst (v := nI 1) C a_L_law_589 (by decide) ?_
  refine xj_iaddN C a_L_law_590 ?_
  refine xl_ld C hX hbl hL a_L_law_591 (by omega) ?_
  refine xj_aload_n C a_L_law_592 rfl ?_
  refine xj_iload_n C a_L_law_593 rfl ?_
  refine xj_iconst (v := nI 2) C a_L_law_594 (by decide) ?_
  refine xj_iaddN C a_L_law_595 ?_
  refine xl_ld C hX hbl hL a_L_law_596 (by omega) ?_
  refine xn_callV2i C a_L_law_597 (c_T_slot _ _ _ T ht hg _ _) mv_T_slot lk_L_83 ⟨rfl, rfl, rfl⟩ xj_ok21 ⟨by decide, by decide⟩ rfl (Nat.le_of_ble_eq_true rfl) ⟨by decide, by decide⟩ ?_
  refine xj_icmp_eq C a_L_law_600 rfl (fun h600 => ?_) (fun h600 => ?_)
  · exact kk T v hg hc ht
  · exact absurd rfl h600
theorem c_L_ordered (C : xl_C E G) (hX : va_X b n xs (xj_s E) (xj_s E).heap) (hbl : b < (xj_s E).heap.size ∧ (xj_s E).heap.size = G.2.2) (hL : n ≤ 2560) (hi : i + 5 ≤ n) (hg : pg_gi T) (hc : xc_T T v) (ht : xt_T T v) (kk : ∀ T' v', pg_gi T' → xc_T T' v' → xt_T T' v' → xl_X E G Q b 730 i v') : xl_X E G Q b 605 i v := by
  refine xj_aload_n C a_L_law_605 rfl ?_
  refine xj_aload_n C a_L_law_606 rfl ?_
  refine xj_iload_n C a_L_law_607 rfl ?_
  refine xj_iconst (v := nI 1) C a_L_law_608 (by decide) ?_
  refine xj_iaddN C a_L_law_609 ?_
  refine xl_ld C hX hbl hL a_L_law_610 (by omega) ?_
  refine xj_aload_n C a_L_law_611 rfl ?_
  refine xj_iload_n C a_L_law_612 rfl ?_
  refine xj_iconst (v := nI 2) C a_L_law_613 (by decide) ?_
  refine xj_iaddN C a_L_law_614 ?_
  refine xl_ld C hX hbl hL a_L_law_615 (by omega) ?_
  refine xn_callV2i C a_L_law_616 (c_G_ordered _ _ _ T hc (pg_gi.I1 T hg).1 _ _) mv_G_ordered lk_L_84 ⟨rfl, rfl, rfl⟩ xj_ok0 ⟨by decide, by decide⟩ rfl (Nat.le_of_ble_eq_true rfl) ⟨by decide, by decide⟩ ?_
  refine xj_aload_n C a_L_law_619 rfl ?_
  refine xj_aload_n C a_L_law_620 rfl ?_
  refine xj_iload_n C a_L_law_621 rfl ?_
  refine xj_iconst (v := nI 1) C a_L_law_622 (by decide) ?_
  refine xj_iaddN C a_L_law_623 ?_
  refine xl_ld C hX hbl hL a_L_law_624 (by omega) ?_
  refine xj_aload_n C a_L_law_625 rfl ?_
  refine xj_iload_n C a_L_law_626 rfl ?_
  refine xj_iconst (v := nI 2) C a_L_law_627 (by decide) ?_
  refine xj_iaddN C a_L_law_628 ?_
  refine xl_ld C hX hbl hL a_L_law_629 (by omega) ?_
  refine xn_callV2i C a_L_law_630 (c_T_ordered _ _ _ T ht hg _ _) mv_T_ordered lk_L_87 ⟨rfl, rfl, rfl⟩ xj_ok21 ⟨by decide, by decide⟩ rfl (Nat.le_of_ble_eq_true rfl) ⟨by decide, by decide⟩ ?_
  refine xj_icmp_eq C a_L_law_633 rfl (fun h633 => ?_) (fun h633 => ?_)
  · exact kk T v hg hc ht
  · exact absurd rfl h633
theorem c_L_timer (C : xl_C E G) (hX : va_X b n xs (xj_s E) (xj_s E).heap) (hbl : b < (xj_s E).heap.size ∧ (xj_s E).heap.size = G.2.2) (hL : n ≤ 2560) (hi : i + 5 ≤ n) (hg : pg_gi T) (hc : xc_T T v) (ht : xt_T T v) (kk : ∀ T' v', pg_gi T' → xc_T T' v' → xt_T T' v' → xl_X E G Q b 730 i v') : xl_X E G Q b 638 i v := by
  refine xj_aload_n C a_L_law_638 rfl ?_
  refine xj_aload_n C a_L_law_639 rfl ?_
  refine xj_iload_n C a_L_law_640 rfl ?_
  refine xj_iconst (v := nI 1) C a_L_law_641 (by decide) ?_
  refine xj_iaddN C a_L_law_642 ?_
  refine xl_ld C hX hbl hL a_L_law_643 (by omega) ?_
  refine xn_callV1i C a_L_law_644 (c_G_timer _ _ _ T hc _) mv_G_timer lk_L_88 ⟨rfl, rfl, rfl⟩ xj_ok0 ⟨by decide, by decide⟩ rfl (Nat.le_of_ble_eq_true rfl) ⟨by decide, by decide⟩ ?_
  refine xj_aload_n C a_L_law_647 rfl ?_
  refine xj_aload_n C a_L_law_648 rfl ?_
  refine xj_iload_n C a_L_law_649 rfl ?_
  refine xj_iconst (v := nI 1) C a_L_law_650 (by decide) ?_
  refine xj_iaddN C a_L_law_651 ?_
  refine xl_ld C hX hbl hL a_L_law_652 (by omega) ?_
  refine xn_callV1i C a_L_law_653 (c_T_timer _ _ _ T ht _) mv_T_timer lk_L_91 ⟨rfl, rfl, rfl⟩ xj_ok21 ⟨by decide, by decide⟩ rfl (Nat.le_of_ble_eq_true rfl) ⟨by decide, by decide⟩ ?_
  refine xj_icmp_eq C a_L_law_656 rfl (fun h656 => ?_) (fun h656 => ?_)
  · exact kk T v hg hc ht
  · exact absurd rfl h656
theorem c_L_waiting (C : xl_C E G) (hX : va_X b n xs (xj_s E) (xj_s E).heap) (hbl : b < (xj_s E).heap.size ∧ (xj_s E).heap.size = G.2.2) (hL : n ≤ 2560) (hi : i + 5 ≤ n) (hg : pg_gi T) (hc : xc_T T v) (ht : xt_T T v) (kk : ∀ T' v', pg_gi T' → xc_T T' v' → xt_T T' v' → xl_X E G Q b 730 i v') : xl_X E G Q b 661 i v := by
  refine xj_aload_n C a_L_law_661 rfl ?_
  refine xj_aload_n C a_L_law_662 rfl ?_
  refine xj_iload_n C a_L_law_663 rfl ?_
  refine xj_iconst (v := nI 1) C a_L_law_664 (by decide) ?_
  refine xj_iaddN C a_L_law_665 ?_
  refine xl_ld C hX hbl hL a_L_law_666 (by omega) ?_
  refine xn_callV1i C a_L_law_667 (c_G_waiting _ _ _ T hc (pg_gi.I1 T hg).1 _) mv_G_waiting lk_L_92 ⟨rfl, rfl, rfl⟩ xj_ok0 ⟨by decide, by decide⟩ rfl (Nat.le_of_ble_eq_true rfl) ⟨by decide, by decide⟩ ?_
  refine xj_aload_n C a_L_law_670 rfl ?_
  refine xj_aload_n C a_L_law_671 rfl ?_
  refine xj_iload_n C a_L_law_672 rfl ?_
  refine xj_iconst (v := nI 1) C a_L_law_673 (by decide) ?_
  refine xj_iaddN C a_L_law_674 ?_
  refine xl_ld C hX hbl hL a_L_law_675 (by omega) ?_
  refine xn_callV1i C a_L_law_676 (c_T_waiting2 _ _ _ T ht _) mv_T_waiting lk_L_95 ⟨rfl, rfl, rfl⟩ xj_ok21 ⟨by decide, by decide⟩ rfl (Nat.le_of_ble_eq_true rfl) ⟨by decide, by decide⟩ ?_
  refine xj_icmp_eq C a_L_law_679 rfl (fun h679 => ?_) (fun h679 => ?_)
  · exact kk T v hg hc ht
  · exact absurd rfl h679
theorem c_L_outstanding (C : xl_C E G) (hX : va_X b n xs (xj_s E) (xj_s E).heap) (hbl : b < (xj_s E).heap.size ∧ (xj_s E).heap.size = G.2.2) (hL : n ≤ 2560) (hi : i + 5 ≤ n) (hg : pg_gi T) (hc : xc_T T v) (ht : xt_T T v) (kk : ∀ T' v', pg_gi T' → xc_T T' v' → xt_T T' v' → xl_X E G Q b 730 i v') : xl_X E G Q b 684 i v := by
  refine xj_aload_n C a_L_law_684 rfl ?_
  refine xj_aload_n C a_L_law_685 rfl ?_
  refine xj_iload_n C a_L_law_686 rfl ?_
  refine xj_iconst (v := nI 1) C a_L_law_687 (by decide) ?_
  refine xj_iaddN C a_L_law_688 ?_
  refine xl_ld C hX hbl hL a_L_law_689 (by omega) ?_
  refine xn_callV1i C a_L_law_690 (c_G_outstanding _ _ _ T hc _) mv_G_outstanding lk_L_96 ⟨rfl, rfl, rfl⟩ xj_ok0 ⟨by decide, by decide⟩ rfl (Nat.le_of_ble_eq_true rfl) ⟨by decide, by decide⟩ ?_
  refine xj_aload_n C a_L_law_693 rfl ?_
  refine xj_aload_n C a_L_law_694 rfl ?_
  refine xj_iload_n C a_L_law_695 rfl ?_
  refine xj_iconst (v := nI 1) C a_L_law_696 (by decide) ?_
  refine xj_iaddN C a_L_law_697 ?_
  refine xl_ld C hX hbl hL a_L_law_698 (by omega) ?_
  refine xn_callV1i C a_L_law_699 (c_T_outstanding _ _ _ T ht _) mv_T_outstanding lk_L_99 ⟨rfl, rfl, rfl⟩ xj_ok21 ⟨by decide, by decide⟩ rfl (Nat.le_of_ble_eq_true rfl) ⟨by decide, by decide⟩ ?_
  refine xj_icmp_eq C a_L_law_702 rfl (fun h702 => ?_) (fun h702 => ?_)
  · exact kk T v hg hc ht
  · exact absurd rfl h702
theorem c_L_answer (C : xl_C E G) (hX : va_X b n xs (xj_s E) (xj_s E).heap) (hbl : b < (xj_s E).heap.size ∧ (xj_s E).heap.size = G.2.2) (hL : n ≤ 2560) (hi : i + 5 ≤ n) (hg : pg_gi T) (hc : xc_T T v) (ht : xt_T T v) (kk : ∀ T' v', pg_gi T' → xc_T T' v' → xt_T T' v' → xl_X E G Q b 730 i v') : xl_X E G Q b 707 i v := by
  refine xj_aload_n C a_L_law_707 rfl ?_
  refine xj_aload_n C a_L_law_708 rfl ?_
  refine xj_iload_n C a_L_law_709 rfl ?_
  refine xj_iconst (v := nI 1) C a_L_law_710 (by decide) ?_
  refine xj_iaddN C a_L_law_711 ?_
  refine xl_ld C hX hbl hL a_L_law_712 (by omega) ?_
  refine xn_callV1i C a_L_law_713 (c_G_answer _ _ _ T hc _) mv_G_answer lk_L_100 ⟨rfl, rfl, rfl⟩ xj_ok0 ⟨by decide, by decide⟩ rfl (Nat.le_of_ble_eq_true rfl) ⟨by decide, by decide⟩ ?_
  refine xj_aload_n C a_L_law_716 rfl ?_
  refine xj_aload_n C a_L_law_717 rfl ?_
  refine xj_iload_n C a_L_law_718 rfl ?_
  refine xj_iconst (v := nI 1) C a_L_law_719 (by decide) ?_
  refine xj_iaddN C a_L_law_720 ?_
  refine xl_ld C hX hbl hL a_L_law_721 (by omega) ?_
  refine xn_callV1i C a_L_law_722 (c_T_answer _ _ _ T ht _) mv_T_answer lk_L_103 ⟨rfl, rfl, rfl⟩ xj_ok21 ⟨by decide, by decide⟩ rfl (Nat.le_of_ble_eq_true rfl) ⟨by decide, by decide⟩ ?_
  refine xj_icmp_eq C a_L_law_725 rfl (fun h725 => ?_) (fun h725 => ?_)
  · exact kk T v hg hc ht
  · exact absurd rfl h725
end XL
