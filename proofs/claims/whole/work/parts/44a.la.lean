/-! THE LAW: a call of the script, on both sides -/
abbrev mL_law : Mu := (x, code, 4, ret)
section LA
variable {l : Launch} {sc : rp_S} {d kc ks s0 b i L : Nat} {xs : Nat → Int32} {Q : Option Value → aH → Prop} {h : aH}
theorem lg_cmp_0 {y : Int64} : lg_cmp y y = 0 := by simp [lg_cmp]
theorem law_point (hd : 12 ≤ d) (hsc : (s0, L, xs) ∈ sc) (hin : ∀ k, k < 8 → vp_in (nI i + nI k) L) (hkc : 130 ≤ kc) (hks : 605 ≤ ks) (hW : LW b h) (kk : ∀ h', LW b h' → wp l mL_law sc d (kc - 130) (ks - 605) Q h' 1017 [some (.ref s0), some (.ref b), some (.ref (b + 33)), some (.int (nI i))] []) : wp l mL_law sc d kc ks Q h 136 [some (.ref s0), some (.ref b), some (.ref (b + 33)), some (.int (nI i))] [] := by
  obtain ⟨sz, I, A, B, D, I', L', A', B', g, rfl, hDW, hR⟩ := hW
  refine wp_aload_n (i := 1) (q := 137) dL_law_136 rfl rfl rfl ?_
  refine wp_aload_n (i := 0) (q := 138) dL_law_137 rfl rfl rfl ?_
  refine wp_iload_n (i := 3) (q := 139) dL_law_138 rfl rfl rfl ?_
  refine wp_iconst (v := nI 1) (q := 140) dL_law_139 (by decide) rfl ?_
  refine wp_iadd (q := 141) dL_law_140 rfl ?_
  refine wp_sld (q := 142) dL_law_141 hsc (by exact hin _ (by decide)) rfl ?_
  refine wp_callV (μ' := mX7_point) (ci := 7) (q := 145) (lq_point (d := d - 1) (by omega) hDW hR) dL_law_142 okX7_point lkL_13 ch_obj rfl rfl rfl (Nat.le_of_ble_eq_true rfl) (by omega) (by omega) (by omega) rfl (fun rv hx hq => ?_)
  obtain ⟨v, rfl, ⟨y, rfl⟩, ⟨F, hF⟩, hM⟩ := hq
  refine wp_aload_n (i := 2) (q := 146) dL_law_145 rfl rfl rfl ?_
  refine wp_aload_n (i := 0) (q := 147) dL_law_146 rfl rfl rfl ?_
  refine wp_iload_n (i := 3) (q := 148) dL_law_147 rfl rfl rfl ?_
  refine wp_iconst (v := nI 1) (q := 149) dL_law_148 (by decide) rfl ?_
  refine wp_iadd (q := 150) dL_law_149 rfl ?_
  refine wp_sld (q := 151) dL_law_150 hsc (by exact hin _ (by decide)) rfl ?_
  refine wp_callV (μ' := mX8_point) (ci := 8) (q := 154) hM dL_law_151 okX8_point lkL_17 hF rfl rfl rfl (Nat.le_of_ble_eq_true rfl) (by omega) (Nat.zero_le _) (Nat.zero_le _) rfl (fun rv hx hq => ?_)
  obtain ⟨rfl, hW⟩ := hq
  refine wp_icmp_eq (t := 1017) (q := 157) dL_law_154 (by decide) rfl (fun _ => ?_) (fun hne => absurd rfl hne)
  exact wp_room (by omega) (by omega) (kk _ hW)
theorem law_split (hd : 12 ≤ d) (hsc : (s0, L, xs) ∈ sc) (hin : ∀ k, k < 8 → vp_in (nI i + nI k) L) (hkc : 130 ≤ kc) (hks : 605 ≤ ks) (hW : LW b h) (kk : ∀ h', LW b h' → wp l mL_law sc d (kc - 130) (ks - 605) Q h' 1017 [some (.ref s0), some (.ref b), some (.ref (b + 33)), some (.int (nI i))] []) : wp l mL_law sc d kc ks Q h 159 [some (.ref s0), some (.ref b), some (.ref (b + 33)), some (.int (nI i))] [] := by
  obtain ⟨sz, I, A, B, D, I', L', A', B', g, rfl, hDW, hR⟩ := hW
  refine wp_aload_n (i := 1) (q := 160) dL_law_159 rfl rfl rfl ?_
  refine wp_aload_n (i := 0) (q := 161) dL_law_160 rfl rfl rfl ?_
  refine wp_iload_n (i := 3) (q := 162) dL_law_161 rfl rfl rfl ?_
  refine wp_iconst (v := nI 1) (q := 163) dL_law_162 (by decide) rfl ?_
  refine wp_iadd (q := 164) dL_law_163 rfl ?_
  refine wp_sld (q := 165) dL_law_164 hsc (by exact hin _ (by decide)) rfl ?_
  refine wp_aload_n (i := 0) (q := 166) dL_law_165 rfl rfl rfl ?_
  refine wp_iload_n (i := 3) (q := 167) dL_law_166 rfl rfl rfl ?_
  refine wp_iconst (v := nI 2) (q := 168) dL_law_167 (by decide) rfl ?_
  refine wp_iadd (q := 169) dL_law_168 rfl ?_
  refine wp_sld (q := 170) dL_law_169 hsc (by exact hin _ (by decide)) rfl ?_
  refine wp_aload_n (i := 0) (q := 171) dL_law_170 rfl rfl rfl ?_
  refine wp_iload_n (i := 3) (q := 172) dL_law_171 rfl rfl rfl ?_
  refine wp_iconst (v := nI 3) (q := 173) dL_law_172 (by decide) rfl ?_
  refine wp_iadd (q := 174) dL_law_173 rfl ?_
  refine wp_sld (q := 175) dL_law_174 hsc (by exact hin _ (by decide)) rfl ?_
  refine wp_callV (μ' := mX7_split) (ci := 7) (q := 178) (lq_split (d := d - 1) (by omega) hDW hR) dL_law_175 okX7_split lkL_18 ch_obj rfl rfl rfl (Nat.le_of_ble_eq_true rfl) (by omega) (by omega) (by omega) rfl (fun rv hx hq => ?_)
  obtain ⟨v, rfl, ⟨y, rfl⟩, ⟨F, hF⟩, hM⟩ := hq
  refine wp_aload_n (i := 2) (q := 179) dL_law_178 rfl rfl rfl ?_
  refine wp_aload_n (i := 0) (q := 180) dL_law_179 rfl rfl rfl ?_
  refine wp_iload_n (i := 3) (q := 181) dL_law_180 rfl rfl rfl ?_
  refine wp_iconst (v := nI 1) (q := 182) dL_law_181 (by decide) rfl ?_
  refine wp_iadd (q := 183) dL_law_182 rfl ?_
  refine wp_sld (q := 184) dL_law_183 hsc (by exact hin _ (by decide)) rfl ?_
  refine wp_aload_n (i := 0) (q := 185) dL_law_184 rfl rfl rfl ?_
  refine wp_iload_n (i := 3) (q := 186) dL_law_185 rfl rfl rfl ?_
  refine wp_iconst (v := nI 2) (q := 187) dL_law_186 (by decide) rfl ?_
  refine wp_iadd (q := 188) dL_law_187 rfl ?_
  refine wp_sld (q := 189) dL_law_188 hsc (by exact hin _ (by decide)) rfl ?_
  refine wp_aload_n (i := 0) (q := 190) dL_law_189 rfl rfl rfl ?_
  refine wp_iload_n (i := 3) (q := 191) dL_law_190 rfl rfl rfl ?_
  refine wp_iconst (v := nI 3) (q := 192) dL_law_191 (by decide) rfl ?_
  refine wp_iadd (q := 193) dL_law_192 rfl ?_
  refine wp_sld (q := 194) dL_law_193 hsc (by exact hin _ (by decide)) rfl ?_
  refine wp_callV (μ' := mX8_split) (ci := 8) (q := 197) hM dL_law_194 okX8_split lkL_22 hF rfl rfl rfl (Nat.le_of_ble_eq_true rfl) (by omega) (Nat.zero_le _) (Nat.zero_le _) rfl (fun rv hx hq => ?_)
  obtain ⟨rfl, hW⟩ := hq
  refine wp_icmp_eq (t := 1017) (q := 200) dL_law_197 (by decide) rfl (fun _ => ?_) (fun hne => absurd rfl hne)
  exact wp_room (by omega) (by omega) (kk _ hW)
theorem law_read (hd : 12 ≤ d) (hsc : (s0, L, xs) ∈ sc) (hin : ∀ k, k < 8 → vp_in (nI i + nI k) L) (hkc : 130 ≤ kc) (hks : 605 ≤ ks) (hW : LW b h) (kk : ∀ h', LW b h' → wp l mL_law sc d (kc - 130) (ks - 605) Q h' 1017 [some (.ref s0), some (.ref b), some (.ref (b + 33)), some (.int (nI i))] []) : wp l mL_law sc d kc ks Q h 202 [some (.ref s0), some (.ref b), some (.ref (b + 33)), some (.int (nI i))] [] := by
  obtain ⟨sz, I, A, B, D, I', L', A', B', g, rfl, hDW, hR⟩ := hW
  refine wp_aload_n (i := 1) (q := 203) dL_law_202 rfl rfl rfl ?_
  refine wp_aload_n (i := 0) (q := 204) dL_law_203 rfl rfl rfl ?_
  refine wp_iload_n (i := 3) (q := 205) dL_law_204 rfl rfl rfl ?_
  refine wp_iconst (v := nI 1) (q := 206) dL_law_205 (by decide) rfl ?_
  refine wp_iadd (q := 207) dL_law_206 rfl ?_
  refine wp_sld (q := 208) dL_law_207 hsc (by exact hin _ (by decide)) rfl ?_
  refine wp_aload_n (i := 0) (q := 209) dL_law_208 rfl rfl rfl ?_
  refine wp_iload_n (i := 3) (q := 210) dL_law_209 rfl rfl rfl ?_
  refine wp_iconst (v := nI 2) (q := 211) dL_law_210 (by decide) rfl ?_
  refine wp_iadd (q := 212) dL_law_211 rfl ?_
  refine wp_sld (q := 213) dL_law_212 hsc (by exact hin _ (by decide)) rfl ?_
  refine wp_aload_n (i := 0) (q := 214) dL_law_213 rfl rfl rfl ?_
  refine wp_iload_n (i := 3) (q := 215) dL_law_214 rfl rfl rfl ?_
  refine wp_iconst (v := nI 3) (q := 216) dL_law_215 (by decide) rfl ?_
  refine wp_iadd (q := 217) dL_law_216 rfl ?_
  refine wp_sld (q := 218) dL_law_217 hsc (by exact hin _ (by decide)) rfl ?_
  refine wp_aload_n (i := 0) (q := 219) dL_law_218 rfl rfl rfl ?_
  refine wp_iload_n (i := 3) (q := 220) dL_law_219 rfl rfl rfl ?_
  refine wp_iconst (v := nI 4) (q := 221) dL_law_220 (by decide) rfl ?_
  refine wp_iadd (q := 222) dL_law_221 rfl ?_
  refine wp_sld (q := 223) dL_law_222 hsc (by exact hin _ (by decide)) rfl ?_
  refine wp_aload_n (i := 0) (q := 224) dL_law_223 rfl rfl rfl ?_
  refine wp_iload_n (i := 3) (q := 225) dL_law_224 rfl rfl rfl ?_
  refine wp_iconst (v := nI 5) (q := 226) dL_law_225 (by decide) rfl ?_
  refine wp_iadd (q := 227) dL_law_226 rfl ?_
  refine wp_sld (q := 228) dL_law_227 hsc (by exact hin _ (by decide)) rfl ?_
  refine wp_callV (μ' := mX7_read) (ci := 7) (q := 231) (lq_read (d := d - 1) (by omega) hDW hR) dL_law_228 okX7_read lkL_23 ch_obj rfl rfl rfl (Nat.le_of_ble_eq_true rfl) (by omega) (by omega) (by omega) rfl (fun rv hx hq => ?_)
  obtain ⟨v, rfl, ⟨y, rfl⟩, ⟨F, hF⟩, hM⟩ := hq
  refine wp_aload_n (i := 2) (q := 232) dL_law_231 rfl rfl rfl ?_
  refine wp_aload_n (i := 0) (q := 233) dL_law_232 rfl rfl rfl ?_
  refine wp_iload_n (i := 3) (q := 234) dL_law_233 rfl rfl rfl ?_
  refine wp_iconst (v := nI 1) (q := 235) dL_law_234 (by decide) rfl ?_
  refine wp_iadd (q := 236) dL_law_235 rfl ?_
  refine wp_sld (q := 237) dL_law_236 hsc (by exact hin _ (by decide)) rfl ?_
  refine wp_aload_n (i := 0) (q := 238) dL_law_237 rfl rfl rfl ?_
  refine wp_iload_n (i := 3) (q := 239) dL_law_238 rfl rfl rfl ?_
  refine wp_iconst (v := nI 2) (q := 240) dL_law_239 (by decide) rfl ?_
  refine wp_iadd (q := 241) dL_law_240 rfl ?_
  refine wp_sld (q := 242) dL_law_241 hsc (by exact hin _ (by decide)) rfl ?_
  refine wp_aload_n (i := 0) (q := 243) dL_law_242 rfl rfl rfl ?_
  refine wp_iload_n (i := 3) (q := 244) dL_law_243 rfl rfl rfl ?_
  refine wp_iconst (v := nI 3) (q := 245) dL_law_244 (by decide) rfl ?_
  refine wp_iadd (q := 246) dL_law_245 rfl ?_
  refine wp_sld (q := 247) dL_law_246 hsc (by exact hin _ (by decide)) rfl ?_
  refine wp_aload_n (i := 0) (q := 248) dL_law_247 rfl rfl rfl ?_
  refine wp_iload_n (i := 3) (q := 249) dL_law_248 rfl rfl rfl ?_
  refine wp_iconst (v := nI 4) (q := 250) dL_law_249 (by decide) rfl ?_
  refine wp_iadd (q := 251) dL_law_250 rfl ?_
  refine wp_sld (q := 252) dL_law_251 hsc (by exact hin _ (by decide)) rfl ?_
  refine wp_aload_n (i := 0) (q := 253) dL_law_252 rfl rfl rfl ?_
  refine wp_iload_n (i := 3) (q := 254) dL_law_253 rfl rfl rfl ?_
  refine wp_iconst (v := nI 5) (q := 255) dL_law_254 (by decide) rfl ?_
  refine wp_iadd (q := 256) dL_law_255 rfl ?_
  refine wp_sld (q := 257) dL_law_256 hsc (by exact hin _ (by decide)) rfl ?_
  refine wp_callV (μ' := mX8_read) (ci := 8) (q := 260) hM dL_law_257 okX8_read lkL_27 hF rfl rfl rfl (Nat.le_of_ble_eq_true rfl) (by omega) (Nat.zero_le _) (Nat.zero_le _) rfl (fun rv hx hq => ?_)
  obtain ⟨rfl, hW⟩ := hq
  refine wp_icmp_eq (t := 1017) (q := 263) dL_law_260 (by decide) rfl (fun _ => ?_) (fun hne => absurd rfl hne)
  exact wp_room (by omega) (by omega) (kk _ hW)
theorem law_died (hd : 12 ≤ d) (hsc : (s0, L, xs) ∈ sc) (hin : ∀ k, k < 8 → vp_in (nI i + nI k) L) (hkc : 130 ≤ kc) (hks : 605 ≤ ks) (hW : LW b h) (kk : ∀ h', LW b h' → wp l mL_law sc d (kc - 130) (ks - 605) Q h' 1017 [some (.ref s0), some (.ref b), some (.ref (b + 33)), some (.int (nI i))] []) : wp l mL_law sc d kc ks Q h 265 [some (.ref s0), some (.ref b), some (.ref (b + 33)), some (.int (nI i))] [] := by
  obtain ⟨sz, I, A, B, D, I', L', A', B', g, rfl, hDW, hR⟩ := hW
  refine wp_aload_n (i := 1) (q := 266) dL_law_265 rfl rfl rfl ?_
  refine wp_aload_n (i := 0) (q := 267) dL_law_266 rfl rfl rfl ?_
  refine wp_iload_n (i := 3) (q := 268) dL_law_267 rfl rfl rfl ?_
  refine wp_iconst (v := nI 1) (q := 269) dL_law_268 (by decide) rfl ?_
  refine wp_iadd (q := 270) dL_law_269 rfl ?_
  refine wp_sld (q := 271) dL_law_270 hsc (by exact hin _ (by decide)) rfl ?_
  refine wp_callV (μ' := mX7_died) (ci := 7) (q := 274) (lq_died (d := d - 1) (by omega) hDW hR) dL_law_271 okX7_died lkL_28 ch_obj rfl rfl rfl (Nat.le_of_ble_eq_true rfl) (by omega) (by omega) (by omega) rfl (fun rv hx hq => ?_)
  obtain ⟨v, rfl, ⟨y, rfl⟩, ⟨F, hF⟩, hM⟩ := hq
  refine wp_aload_n (i := 2) (q := 275) dL_law_274 rfl rfl rfl ?_
  refine wp_aload_n (i := 0) (q := 276) dL_law_275 rfl rfl rfl ?_
  refine wp_iload_n (i := 3) (q := 277) dL_law_276 rfl rfl rfl ?_
  refine wp_iconst (v := nI 1) (q := 278) dL_law_277 (by decide) rfl ?_
  refine wp_iadd (q := 279) dL_law_278 rfl ?_
  refine wp_sld (q := 280) dL_law_279 hsc (by exact hin _ (by decide)) rfl ?_
  refine wp_callV (μ' := mX8_died) (ci := 8) (q := 283) hM dL_law_280 okX8_died lkL_31 hF rfl rfl rfl (Nat.le_of_ble_eq_true rfl) (by omega) (Nat.zero_le _) (Nat.zero_le _) rfl (fun rv hx hq => ?_)
  obtain ⟨rfl, hW⟩ := hq
  refine wp_icmp_eq (t := 1017) (q := 286) dL_law_283 (by decide) rfl (fun _ => ?_) (fun hne => absurd rfl hne)
  exact wp_room (by omega) (by omega) (kk _ hW)
theorem law_reading (hd : 12 ≤ d) (hsc : (s0, L, xs) ∈ sc) (hin : ∀ k, k < 8 → vp_in (nI i + nI k) L) (hkc : 130 ≤ kc) (hks : 605 ≤ ks) (hW : LW b h) (kk : ∀ h', LW b h' → wp l mL_law sc d (kc - 130) (ks - 605) Q h' 1017 [some (.ref s0), some (.ref b), some (.ref (b + 33)), some (.int (nI i))] []) : wp l mL_law sc d kc ks Q h 288 [some (.ref s0), some (.ref b), some (.ref (b + 33)), some (.int (nI i))] [] := by
  obtain ⟨sz, I, A, B, D, I', L', A', B', g, rfl, hDW, hR⟩ := hW
  refine wp_aload_n (i := 1) (q := 289) dL_law_288 rfl rfl rfl ?_
  refine wp_aload_n (i := 0) (q := 290) dL_law_289 rfl rfl rfl ?_
  refine wp_iload_n (i := 3) (q := 291) dL_law_290 rfl rfl rfl ?_
  refine wp_iconst (v := nI 1) (q := 292) dL_law_291 (by decide) rfl ?_
  refine wp_iadd (q := 293) dL_law_292 rfl ?_
  refine wp_sld (q := 294) dL_law_293 hsc (by exact hin _ (by decide)) rfl ?_
  refine wp_aload_n (i := 0) (q := 295) dL_law_294 rfl rfl rfl ?_
  refine wp_iload_n (i := 3) (q := 296) dL_law_295 rfl rfl rfl ?_
  refine wp_iconst (v := nI 2) (q := 297) dL_law_296 (by decide) rfl ?_
  refine wp_iadd (q := 298) dL_law_297 rfl ?_
  refine wp_sld (q := 299) dL_law_298 hsc (by exact hin _ (by decide)) rfl ?_
  refine wp_aload_n (i := 0) (q := 300) dL_law_299 rfl rfl rfl ?_
  refine wp_iload_n (i := 3) (q := 301) dL_law_300 rfl rfl rfl ?_
  refine wp_iconst (v := nI 3) (q := 302) dL_law_301 (by decide) rfl ?_
  refine wp_iadd (q := 303) dL_law_302 rfl ?_
  refine wp_sld (q := 304) dL_law_303 hsc (by exact hin _ (by decide)) rfl ?_
  refine wp_callV (μ' := mX7_reading) (ci := 7) (q := 307) (lq_reading (d := d - 1) (by omega) hDW hR) dL_law_304 okX7_reading lkL_32 ch_obj rfl rfl rfl (Nat.le_of_ble_eq_true rfl) (by omega) (by omega) (by omega) rfl (fun rv hx hq => ?_)
  obtain ⟨v, rfl, ⟨y, rfl⟩, ⟨F, hF⟩, hM⟩ := hq
  refine wp_aload_n (i := 2) (q := 308) dL_law_307 rfl rfl rfl ?_
  refine wp_aload_n (i := 0) (q := 309) dL_law_308 rfl rfl rfl ?_
  refine wp_iload_n (i := 3) (q := 310) dL_law_309 rfl rfl rfl ?_
  refine wp_iconst (v := nI 1) (q := 311) dL_law_310 (by decide) rfl ?_
  refine wp_iadd (q := 312) dL_law_311 rfl ?_
  refine wp_sld (q := 313) dL_law_312 hsc (by exact hin _ (by decide)) rfl ?_
  refine wp_aload_n (i := 0) (q := 314) dL_law_313 rfl rfl rfl ?_
  refine wp_iload_n (i := 3) (q := 315) dL_law_314 rfl rfl rfl ?_
  refine wp_iconst (v := nI 2) (q := 316) dL_law_315 (by decide) rfl ?_
  refine wp_iadd (q := 317) dL_law_316 rfl ?_
  refine wp_sld (q := 318) dL_law_317 hsc (by exact hin _ (by decide)) rfl ?_
  refine wp_aload_n (i := 0) (q := 319) dL_law_318 rfl rfl rfl ?_
  refine wp_iload_n (i := 3) (q := 320) dL_law_319 rfl rfl rfl ?_
  refine wp_iconst (v := nI 3) (q := 321) dL_law_320 (by decide) rfl ?_
  refine wp_iadd (q := 322) dL_law_321 rfl ?_
  refine wp_sld (q := 323) dL_law_322 hsc (by exact hin _ (by decide)) rfl ?_
  refine wp_callV (μ' := mX8_reading) (ci := 8) (q := 326) hM dL_law_323 okX8_reading lkL_35 hF rfl rfl rfl (Nat.le_of_ble_eq_true rfl) (by omega) (Nat.zero_le _) (Nat.zero_le _) rfl (fun rv hx hq => ?_)
  obtain ⟨rfl, hW⟩ := hq
  refine wp_icmp_eq (t := 1017) (q := 329) dL_law_326 (by decide) rfl (fun _ => ?_) (fun hne => absurd rfl hne)
  exact wp_room (by omega) (by omega) (kk _ hW)
theorem law_tried (hd : 12 ≤ d) (hsc : (s0, L, xs) ∈ sc) (hin : ∀ k, k < 8 → vp_in (nI i + nI k) L) (hkc : 130 ≤ kc) (hks : 605 ≤ ks) (hW : LW b h) (kk : ∀ h', LW b h' → wp l mL_law sc d (kc - 130) (ks - 605) Q h' 1017 [some (.ref s0), some (.ref b), some (.ref (b + 33)), some (.int (nI i))] []) : wp l mL_law sc d kc ks Q h 331 [some (.ref s0), some (.ref b), some (.ref (b + 33)), some (.int (nI i))] [] := by
  obtain ⟨sz, I, A, B, D, I', L', A', B', g, rfl, hDW, hR⟩ := hW
  refine wp_aload_n (i := 1) (q := 332) dL_law_331 rfl rfl rfl ?_
  refine wp_aload_n (i := 0) (q := 333) dL_law_332 rfl rfl rfl ?_
  refine wp_iload_n (i := 3) (q := 334) dL_law_333 rfl rfl rfl ?_
  refine wp_iconst (v := nI 1) (q := 335) dL_law_334 (by decide) rfl ?_
  refine wp_iadd (q := 336) dL_law_335 rfl ?_
  refine wp_sld (q := 337) dL_law_336 hsc (by exact hin _ (by decide)) rfl ?_
  refine wp_aload_n (i := 0) (q := 338) dL_law_337 rfl rfl rfl ?_
  refine wp_iload_n (i := 3) (q := 339) dL_law_338 rfl rfl rfl ?_
  refine wp_iconst (v := nI 2) (q := 340) dL_law_339 (by decide) rfl ?_
  refine wp_iadd (q := 341) dL_law_340 rfl ?_
  refine wp_sld (q := 342) dL_law_341 hsc (by exact hin _ (by decide)) rfl ?_
  refine wp_callV (μ' := mX7_tried) (ci := 7) (q := 345) (lq_tried (d := d - 1) (by omega) hDW hR) dL_law_342 okX7_tried lkL_36 ch_obj rfl rfl rfl (Nat.le_of_ble_eq_true rfl) (by omega) (by omega) (by omega) rfl (fun rv hx hq => ?_)
  obtain ⟨v, rfl, ⟨y, rfl⟩, ⟨F, hF⟩, hM⟩ := hq
  refine wp_aload_n (i := 2) (q := 346) dL_law_345 rfl rfl rfl ?_
  refine wp_aload_n (i := 0) (q := 347) dL_law_346 rfl rfl rfl ?_
  refine wp_iload_n (i := 3) (q := 348) dL_law_347 rfl rfl rfl ?_
  refine wp_iconst (v := nI 1) (q := 349) dL_law_348 (by decide) rfl ?_
  refine wp_iadd (q := 350) dL_law_349 rfl ?_
  refine wp_sld (q := 351) dL_law_350 hsc (by exact hin _ (by decide)) rfl ?_
  refine wp_aload_n (i := 0) (q := 352) dL_law_351 rfl rfl rfl ?_
  refine wp_iload_n (i := 3) (q := 353) dL_law_352 rfl rfl rfl ?_
  refine wp_iconst (v := nI 2) (q := 354) dL_law_353 (by decide) rfl ?_
  refine wp_iadd (q := 355) dL_law_354 rfl ?_
  refine wp_sld (q := 356) dL_law_355 hsc (by exact hin _ (by decide)) rfl ?_
  refine wp_callV (μ' := mX8_tried) (ci := 8) (q := 359) hM dL_law_356 okX8_tried lkL_40 hF rfl rfl rfl (Nat.le_of_ble_eq_true rfl) (by omega) (Nat.zero_le _) (Nat.zero_le _) rfl (fun rv hx hq => ?_)
  obtain ⟨rfl, hW⟩ := hq
  refine wp_icmp_eq (t := 1017) (q := 362) dL_law_359 (by decide) rfl (fun _ => ?_) (fun hne => absurd rfl hne)
  exact wp_room (by omega) (by omega) (kk _ hW)
theorem law_holds (hd : 12 ≤ d) (hsc : (s0, L, xs) ∈ sc) (hin : ∀ k, k < 8 → vp_in (nI i + nI k) L) (hkc : 130 ≤ kc) (hks : 605 ≤ ks) (hW : LW b h) (kk : ∀ h', LW b h' → wp l mL_law sc d (kc - 130) (ks - 605) Q h' 1017 [some (.ref s0), some (.ref b), some (.ref (b + 33)), some (.int (nI i))] []) : wp l mL_law sc d kc ks Q h 364 [some (.ref s0), some (.ref b), some (.ref (b + 33)), some (.int (nI i))] [] := by
  obtain ⟨sz, I, A, B, D, I', L', A', B', g, rfl, hDW, hR⟩ := hW
  refine wp_aload_n (i := 1) (q := 365) dL_law_364 rfl rfl rfl ?_
  refine wp_aload_n (i := 0) (q := 366) dL_law_365 rfl rfl rfl ?_
  refine wp_iload_n (i := 3) (q := 367) dL_law_366 rfl rfl rfl ?_
  refine wp_iconst (v := nI 1) (q := 368) dL_law_367 (by decide) rfl ?_
  refine wp_iadd (q := 369) dL_law_368 rfl ?_
  refine wp_sld (q := 370) dL_law_369 hsc (by exact hin _ (by decide)) rfl ?_
  refine wp_aload_n (i := 0) (q := 371) dL_law_370 rfl rfl rfl ?_
  refine wp_iload_n (i := 3) (q := 372) dL_law_371 rfl rfl rfl ?_
  refine wp_iconst (v := nI 2) (q := 373) dL_law_372 (by decide) rfl ?_
  refine wp_iadd (q := 374) dL_law_373 rfl ?_
  refine wp_sld (q := 375) dL_law_374 hsc (by exact hin _ (by decide)) rfl ?_
  refine wp_aload_n (i := 0) (q := 376) dL_law_375 rfl rfl rfl ?_
  refine wp_iload_n (i := 3) (q := 377) dL_law_376 rfl rfl rfl ?_
  refine wp_iconst (v := nI 3) (q := 378) dL_law_377 (by decide) rfl ?_
  refine wp_iadd (q := 379) dL_law_378 rfl ?_
  refine wp_sld (q := 380) dL_law_379 hsc (by exact hin _ (by decide)) rfl ?_
  refine wp_aload_n (i := 0) (q := 381) dL_law_380 rfl rfl rfl ?_
  refine wp_iload_n (i := 3) (q := 382) dL_law_381 rfl rfl rfl ?_
  refine wp_iconst (v := nI 4) (q := 383) dL_law_382 (by decide) rfl ?_
  refine wp_iadd (q := 384) dL_law_383 rfl ?_
  refine wp_sld (q := 385) dL_law_384 hsc (by exact hin _ (by decide)) rfl ?_
  refine wp_aload_n (i := 0) (q := 386) dL_law_385 rfl rfl rfl ?_
  refine wp_iload_n (i := 3) (q := 387) dL_law_386 rfl rfl rfl ?_
  refine wp_iconst (v := nI 5) (q := 388) dL_law_387 (by decide) rfl ?_
  refine wp_iadd (q := 389) dL_law_388 rfl ?_
  refine wp_sld (q := 390) dL_law_389 hsc (by exact hin _ (by decide)) rfl ?_
  refine wp_callV (μ' := mX7_holds) (ci := 7) (q := 393) (lq_holds (d := d - 1) (by omega) hDW hR) dL_law_390 okX7_holds lkL_41 ch_obj rfl rfl rfl (Nat.le_of_ble_eq_true rfl) (by omega) (by omega) (by omega) rfl (fun rv hx hq => ?_)
  obtain ⟨v, rfl, ⟨y, rfl⟩, ⟨F, hF⟩, hM⟩ := hq
  refine wp_aload_n (i := 2) (q := 394) dL_law_393 rfl rfl rfl ?_
  refine wp_aload_n (i := 0) (q := 395) dL_law_394 rfl rfl rfl ?_
  refine wp_iload_n (i := 3) (q := 396) dL_law_395 rfl rfl rfl ?_
  refine wp_iconst (v := nI 1) (q := 397) dL_law_396 (by decide) rfl ?_
  refine wp_iadd (q := 398) dL_law_397 rfl ?_
  refine wp_sld (q := 399) dL_law_398 hsc (by exact hin _ (by decide)) rfl ?_
  refine wp_aload_n (i := 0) (q := 400) dL_law_399 rfl rfl rfl ?_
  refine wp_iload_n (i := 3) (q := 401) dL_law_400 rfl rfl rfl ?_
  refine wp_iconst (v := nI 2) (q := 402) dL_law_401 (by decide) rfl ?_
  refine wp_iadd (q := 403) dL_law_402 rfl ?_
  refine wp_sld (q := 404) dL_law_403 hsc (by exact hin _ (by decide)) rfl ?_
  refine wp_aload_n (i := 0) (q := 405) dL_law_404 rfl rfl rfl ?_
  refine wp_iload_n (i := 3) (q := 406) dL_law_405 rfl rfl rfl ?_
  refine wp_iconst (v := nI 3) (q := 407) dL_law_406 (by decide) rfl ?_
  refine wp_iadd (q := 408) dL_law_407 rfl ?_
  refine wp_sld (q := 409) dL_law_408 hsc (by exact hin _ (by decide)) rfl ?_
  refine wp_aload_n (i := 0) (q := 410) dL_law_409 rfl rfl rfl ?_
  refine wp_iload_n (i := 3) (q := 411) dL_law_410 rfl rfl rfl ?_
  refine wp_iconst (v := nI 4) (q := 412) dL_law_411 (by decide) rfl ?_
  refine wp_iadd (q := 413) dL_law_412 rfl ?_
  refine wp_sld (q := 414) dL_law_413 hsc (by exact hin _ (by decide)) rfl ?_
  refine wp_aload_n (i := 0) (q := 415) dL_law_414 rfl rfl rfl ?_
  refine wp_iload_n (i := 3) (q := 416) dL_law_415 rfl rfl rfl ?_
  refine wp_iconst (v := nI 5) (q := 417) dL_law_416 (by decide) rfl ?_
  refine wp_iadd (q := 418) dL_law_417 rfl ?_
  refine wp_sld (q := 419) dL_law_418 hsc (by exact hin _ (by decide)) rfl ?_
  refine wp_callV (μ' := mX8_holds) (ci := 8) (q := 422) hM dL_law_419 okX8_holds lkL_44 hF rfl rfl rfl (Nat.le_of_ble_eq_true rfl) (by omega) (Nat.zero_le _) (Nat.zero_le _) rfl (fun rv hx hq => ?_)
  obtain ⟨rfl, hW⟩ := hq
  refine wp_icmp_eq (t := 1017) (q := 425) dL_law_422 (by decide) rfl (fun _ => ?_) (fun hne => absurd rfl hne)
  exact wp_room (by omega) (by omega) (kk _ hW)
theorem law_number (hd : 12 ≤ d) (hsc : (s0, L, xs) ∈ sc) (hin : ∀ k, k < 8 → vp_in (nI i + nI k) L) (hkc : 130 ≤ kc) (hks : 605 ≤ ks) (hW : LW b h) (kk : ∀ h', LW b h' → wp l mL_law sc d (kc - 130) (ks - 605) Q h' 1017 [some (.ref s0), some (.ref b), some (.ref (b + 33)), some (.int (nI i))] []) : wp l mL_law sc d kc ks Q h 427 [some (.ref s0), some (.ref b), some (.ref (b + 33)), some (.int (nI i))] [] := by
  obtain ⟨sz, I, A, B, D, I', L', A', B', g, rfl, hDW, hR⟩ := hW
  refine wp_aload_n (i := 1) (q := 428) dL_law_427 rfl rfl rfl ?_
  refine wp_aload_n (i := 0) (q := 429) dL_law_428 rfl rfl rfl ?_
  refine wp_iload_n (i := 3) (q := 430) dL_law_429 rfl rfl rfl ?_
  refine wp_iconst (v := nI 1) (q := 431) dL_law_430 (by decide) rfl ?_
  refine wp_iadd (q := 432) dL_law_431 rfl ?_
  refine wp_sld (q := 433) dL_law_432 hsc (by exact hin _ (by decide)) rfl ?_
  refine wp_aload_n (i := 0) (q := 434) dL_law_433 rfl rfl rfl ?_
  refine wp_iload_n (i := 3) (q := 435) dL_law_434 rfl rfl rfl ?_
  refine wp_iconst (v := nI 2) (q := 436) dL_law_435 (by decide) rfl ?_
  refine wp_iadd (q := 437) dL_law_436 rfl ?_
  refine wp_sld (q := 438) dL_law_437 hsc (by exact hin _ (by decide)) rfl ?_
  refine wp_aload_n (i := 0) (q := 439) dL_law_438 rfl rfl rfl ?_
  refine wp_iload_n (i := 3) (q := 440) dL_law_439 rfl rfl rfl ?_
  refine wp_iconst (v := nI 3) (q := 441) dL_law_440 (by decide) rfl ?_
  refine wp_iadd (q := 442) dL_law_441 rfl ?_
  refine wp_sld (q := 443) dL_law_442 hsc (by exact hin _ (by decide)) rfl ?_
  refine wp_aload_n (i := 0) (q := 444) dL_law_443 rfl rfl rfl ?_
  refine wp_iload_n (i := 3) (q := 445) dL_law_444 rfl rfl rfl ?_
  refine wp_iconst (v := nI 4) (q := 446) dL_law_445 (by decide) rfl ?_
  refine wp_iadd (q := 447) dL_law_446 rfl ?_
  refine wp_sld (q := 448) dL_law_447 hsc (by exact hin _ (by decide)) rfl ?_
  refine wp_aload_n (i := 0) (q := 449) dL_law_448 rfl rfl rfl ?_
  refine wp_iload_n (i := 3) (q := 450) dL_law_449 rfl rfl rfl ?_
  refine wp_iconst (v := nI 5) (q := 451) dL_law_450 (by decide) rfl ?_
  refine wp_iadd (q := 452) dL_law_451 rfl ?_
  refine wp_sld (q := 453) dL_law_452 hsc (by exact hin _ (by decide)) rfl ?_
  refine wp_callV (μ' := mX7_number) (ci := 7) (q := 456) (lq_number (d := d - 1) (by omega) hDW hR) dL_law_453 okX7_number lkL_45 ch_obj rfl rfl rfl (Nat.le_of_ble_eq_true rfl) (by omega) (by omega) (by omega) rfl (fun rv hx hq => ?_)
  obtain ⟨v, rfl, ⟨y, rfl⟩, ⟨F, hF⟩, hM⟩ := hq
  refine wp_aload_n (i := 2) (q := 457) dL_law_456 rfl rfl rfl ?_
  refine wp_aload_n (i := 0) (q := 458) dL_law_457 rfl rfl rfl ?_
  refine wp_iload_n (i := 3) (q := 459) dL_law_458 rfl rfl rfl ?_
  refine wp_iconst (v := nI 1) (q := 460) dL_law_459 (by decide) rfl ?_
  refine wp_iadd (q := 461) dL_law_460 rfl ?_
  refine wp_sld (q := 462) dL_law_461 hsc (by exact hin _ (by decide)) rfl ?_
  refine wp_aload_n (i := 0) (q := 463) dL_law_462 rfl rfl rfl ?_
  refine wp_iload_n (i := 3) (q := 464) dL_law_463 rfl rfl rfl ?_
  refine wp_iconst (v := nI 2) (q := 465) dL_law_464 (by decide) rfl ?_
  refine wp_iadd (q := 466) dL_law_465 rfl ?_
  refine wp_sld (q := 467) dL_law_466 hsc (by exact hin _ (by decide)) rfl ?_
  refine wp_aload_n (i := 0) (q := 468) dL_law_467 rfl rfl rfl ?_
  refine wp_iload_n (i := 3) (q := 469) dL_law_468 rfl rfl rfl ?_
  refine wp_iconst (v := nI 3) (q := 470) dL_law_469 (by decide) rfl ?_
  refine wp_iadd (q := 471) dL_law_470 rfl ?_
  refine wp_sld (q := 472) dL_law_471 hsc (by exact hin _ (by decide)) rfl ?_
  refine wp_aload_n (i := 0) (q := 473) dL_law_472 rfl rfl rfl ?_
  refine wp_iload_n (i := 3) (q := 474) dL_law_473 rfl rfl rfl ?_
  refine wp_iconst (v := nI 4) (q := 475) dL_law_474 (by decide) rfl ?_
  refine wp_iadd (q := 476) dL_law_475 rfl ?_
  refine wp_sld (q := 477) dL_law_476 hsc (by exact hin _ (by decide)) rfl ?_
  refine wp_aload_n (i := 0) (q := 478) dL_law_477 rfl rfl rfl ?_
  refine wp_iload_n (i := 3) (q := 479) dL_law_478 rfl rfl rfl ?_
  refine wp_iconst (v := nI 5) (q := 480) dL_law_479 (by decide) rfl ?_
  refine wp_iadd (q := 481) dL_law_480 rfl ?_
  refine wp_sld (q := 482) dL_law_481 hsc (by exact hin _ (by decide)) rfl ?_
  refine wp_callV (μ' := mX8_number) (ci := 8) (q := 485) hM dL_law_482 okX8_number lkL_48 hF rfl rfl rfl (Nat.le_of_ble_eq_true rfl) (by omega) (Nat.zero_le _) (Nat.zero_le _) rfl (fun rv hx hq => ?_)
  obtain ⟨rfl, hW⟩ := hq
  refine wp_icmp_eq (t := 1017) (q := 488) dL_law_485 (by decide) rfl (fun _ => ?_) (fun hne => absurd rfl hne)
  exact wp_room (by omega) (by omega) (kk _ hW)
theorem law_guesses (hd : 12 ≤ d) (hsc : (s0, L, xs) ∈ sc) (hin : ∀ k, k < 8 → vp_in (nI i + nI k) L) (hkc : 130 ≤ kc) (hks : 605 ≤ ks) (hW : LW b h) (kk : ∀ h', LW b h' → wp l mL_law sc d (kc - 130) (ks - 605) Q h' 1017 [some (.ref s0), some (.ref b), some (.ref (b + 33)), some (.int (nI i))] []) : wp l mL_law sc d kc ks Q h 490 [some (.ref s0), some (.ref b), some (.ref (b + 33)), some (.int (nI i))] [] := by
  obtain ⟨sz, I, A, B, D, I', L', A', B', g, rfl, hDW, hR⟩ := hW
  refine wp_aload_n (i := 1) (q := 491) dL_law_490 rfl rfl rfl ?_
  refine wp_aload_n (i := 0) (q := 492) dL_law_491 rfl rfl rfl ?_
  refine wp_iload_n (i := 3) (q := 493) dL_law_492 rfl rfl rfl ?_
  refine wp_iconst (v := nI 1) (q := 494) dL_law_493 (by decide) rfl ?_
  refine wp_iadd (q := 495) dL_law_494 rfl ?_
  refine wp_sld (q := 496) dL_law_495 hsc (by exact hin _ (by decide)) rfl ?_
  refine wp_aload_n (i := 0) (q := 497) dL_law_496 rfl rfl rfl ?_
  refine wp_iload_n (i := 3) (q := 498) dL_law_497 rfl rfl rfl ?_
  refine wp_iconst (v := nI 2) (q := 499) dL_law_498 (by decide) rfl ?_
  refine wp_iadd (q := 500) dL_law_499 rfl ?_
  refine wp_sld (q := 501) dL_law_500 hsc (by exact hin _ (by decide)) rfl ?_
  refine wp_callV (μ' := mX7_guesses) (ci := 7) (q := 504) (lq_guesses (d := d - 1) (by omega) hDW hR) dL_law_501 okX7_guesses lkL_49 ch_obj rfl rfl rfl (Nat.le_of_ble_eq_true rfl) (by omega) (by omega) (by omega) rfl (fun rv hx hq => ?_)
  obtain ⟨v, rfl, ⟨y, rfl⟩, ⟨F, hF⟩, hM⟩ := hq
  refine wp_aload_n (i := 2) (q := 505) dL_law_504 rfl rfl rfl ?_
  refine wp_aload_n (i := 0) (q := 506) dL_law_505 rfl rfl rfl ?_
  refine wp_iload_n (i := 3) (q := 507) dL_law_506 rfl rfl rfl ?_
  refine wp_iconst (v := nI 1) (q := 508) dL_law_507 (by decide) rfl ?_
  refine wp_iadd (q := 509) dL_law_508 rfl ?_
  refine wp_sld (q := 510) dL_law_509 hsc (by exact hin _ (by decide)) rfl ?_
  refine wp_aload_n (i := 0) (q := 511) dL_law_510 rfl rfl rfl ?_
  refine wp_iload_n (i := 3) (q := 512) dL_law_511 rfl rfl rfl ?_
  refine wp_iconst (v := nI 2) (q := 513) dL_law_512 (by decide) rfl ?_
  refine wp_iadd (q := 514) dL_law_513 rfl ?_
  refine wp_sld (q := 515) dL_law_514 hsc (by exact hin _ (by decide)) rfl ?_
  refine wp_callV (μ' := mX8_guesses) (ci := 8) (q := 518) hM dL_law_515 okX8_guesses lkL_52 hF rfl rfl rfl (Nat.le_of_ble_eq_true rfl) (by omega) (Nat.zero_le _) (Nat.zero_le _) rfl (fun rv hx hq => ?_)
  obtain ⟨rfl, hW⟩ := hq
  refine wp_icmp_eq (t := 1017) (q := 521) dL_law_518 (by decide) rfl (fun _ => ?_) (fun hne => absurd rfl hne)
  exact wp_room (by omega) (by omega) (kk _ hW)
theorem law_guess (hd : 12 ≤ d) (hsc : (s0, L, xs) ∈ sc) (hin : ∀ k, k < 8 → vp_in (nI i + nI k) L) (hkc : 130 ≤ kc) (hks : 605 ≤ ks) (hW : LW b h) (kk : ∀ h', LW b h' → wp l mL_law sc d (kc - 130) (ks - 605) Q h' 1017 [some (.ref s0), some (.ref b), some (.ref (b + 33)), some (.int (nI i))] []) : wp l mL_law sc d kc ks Q h 523 [some (.ref s0), some (.ref b), some (.ref (b + 33)), some (.int (nI i))] [] := by
  obtain ⟨sz, I, A, B, D, I', L', A', B', g, rfl, hDW, hR⟩ := hW
  refine wp_aload_n (i := 1) (q := 524) dL_law_523 rfl rfl rfl ?_
  refine wp_aload_n (i := 0) (q := 525) dL_law_524 rfl rfl rfl ?_
  refine wp_iload_n (i := 3) (q := 526) dL_law_525 rfl rfl rfl ?_
  refine wp_iconst (v := nI 1) (q := 527) dL_law_526 (by decide) rfl ?_
  refine wp_iadd (q := 528) dL_law_527 rfl ?_
  refine wp_sld (q := 529) dL_law_528 hsc (by exact hin _ (by decide)) rfl ?_
  refine wp_aload_n (i := 0) (q := 530) dL_law_529 rfl rfl rfl ?_
  refine wp_iload_n (i := 3) (q := 531) dL_law_530 rfl rfl rfl ?_
  refine wp_iconst (v := nI 2) (q := 532) dL_law_531 (by decide) rfl ?_
  refine wp_iadd (q := 533) dL_law_532 rfl ?_
  refine wp_sld (q := 534) dL_law_533 hsc (by exact hin _ (by decide)) rfl ?_
  refine wp_aload_n (i := 0) (q := 535) dL_law_534 rfl rfl rfl ?_
  refine wp_iload_n (i := 3) (q := 536) dL_law_535 rfl rfl rfl ?_
  refine wp_iconst (v := nI 3) (q := 537) dL_law_536 (by decide) rfl ?_
  refine wp_iadd (q := 538) dL_law_537 rfl ?_
  refine wp_sld (q := 539) dL_law_538 hsc (by exact hin _ (by decide)) rfl ?_
  refine wp_callV (μ' := mX7_guess) (ci := 7) (q := 542) (lq_guess (d := d - 1) (by omega) hDW hR) dL_law_539 okX7_guess lkL_53 ch_obj rfl rfl rfl (Nat.le_of_ble_eq_true rfl) (by omega) (by omega) (by omega) rfl (fun rv hx hq => ?_)
  obtain ⟨v, rfl, ⟨y, rfl⟩, ⟨F, hF⟩, hM⟩ := hq
  refine wp_aload_n (i := 2) (q := 543) dL_law_542 rfl rfl rfl ?_
  refine wp_aload_n (i := 0) (q := 544) dL_law_543 rfl rfl rfl ?_
  refine wp_iload_n (i := 3) (q := 545) dL_law_544 rfl rfl rfl ?_
  refine wp_iconst (v := nI 1) (q := 546) dL_law_545 (by decide) rfl ?_
  refine wp_iadd (q := 547) dL_law_546 rfl ?_
  refine wp_sld (q := 548) dL_law_547 hsc (by exact hin _ (by decide)) rfl ?_
  refine wp_aload_n (i := 0) (q := 549) dL_law_548 rfl rfl rfl ?_
  refine wp_iload_n (i := 3) (q := 550) dL_law_549 rfl rfl rfl ?_
  refine wp_iconst (v := nI 2) (q := 551) dL_law_550 (by decide) rfl ?_
  refine wp_iadd (q := 552) dL_law_551 rfl ?_
  refine wp_sld (q := 553) dL_law_552 hsc (by exact hin _ (by decide)) rfl ?_
  refine wp_aload_n (i := 0) (q := 554) dL_law_553 rfl rfl rfl ?_
  refine wp_iload_n (i := 3) (q := 555) dL_law_554 rfl rfl rfl ?_
  refine wp_iconst (v := nI 3) (q := 556) dL_law_555 (by decide) rfl ?_
  refine wp_iadd (q := 557) dL_law_556 rfl ?_
  refine wp_sld (q := 558) dL_law_557 hsc (by exact hin _ (by decide)) rfl ?_
  refine wp_callV (μ' := mX8_guess) (ci := 8) (q := 561) hM dL_law_558 okX8_guess lkL_56 hF rfl rfl rfl (Nat.le_of_ble_eq_true rfl) (by omega) (Nat.zero_le _) (Nat.zero_le _) rfl (fun rv hx hq => ?_)
  obtain ⟨rfl, hW⟩ := hq
  refine wp_icmp_eq (t := 1017) (q := 564) dL_law_561 (by decide) rfl (fun _ => ?_) (fun hne => absurd rfl hne)
  exact wp_room (by omega) (by omega) (kk _ hW)
theorem law_sums (hd : 12 ≤ d) (hsc : (s0, L, xs) ∈ sc) (hin : ∀ k, k < 8 → vp_in (nI i + nI k) L) (hkc : 130 ≤ kc) (hks : 605 ≤ ks) (hW : LW b h) (kk : ∀ h', LW b h' → wp l mL_law sc d (kc - 130) (ks - 605) Q h' 1017 [some (.ref s0), some (.ref b), some (.ref (b + 33)), some (.int (nI i))] []) : wp l mL_law sc d kc ks Q h 566 [some (.ref s0), some (.ref b), some (.ref (b + 33)), some (.int (nI i))] [] := by
  obtain ⟨sz, I, A, B, D, I', L', A', B', g, rfl, hDW, hR⟩ := hW
  refine wp_aload_n (i := 1) (q := 567) dL_law_566 rfl rfl rfl ?_
  refine wp_aload_n (i := 0) (q := 568) dL_law_567 rfl rfl rfl ?_
  refine wp_iload_n (i := 3) (q := 569) dL_law_568 rfl rfl rfl ?_
  refine wp_iconst (v := nI 1) (q := 570) dL_law_569 (by decide) rfl ?_
  refine wp_iadd (q := 571) dL_law_570 rfl ?_
  refine wp_sld (q := 572) dL_law_571 hsc (by exact hin _ (by decide)) rfl ?_
  refine wp_aload_n (i := 0) (q := 573) dL_law_572 rfl rfl rfl ?_
  refine wp_iload_n (i := 3) (q := 574) dL_law_573 rfl rfl rfl ?_
  refine wp_iconst (v := nI 2) (q := 575) dL_law_574 (by decide) rfl ?_
  refine wp_iadd (q := 576) dL_law_575 rfl ?_
  refine wp_sld (q := 577) dL_law_576 hsc (by exact hin _ (by decide)) rfl ?_
  refine wp_callV (μ' := mX7_sums) (ci := 7) (q := 580) (lq_sums (d := d - 1) (by omega) hDW hR) dL_law_577 okX7_sums lkL_57 ch_obj rfl rfl rfl (Nat.le_of_ble_eq_true rfl) (by omega) (by omega) (by omega) rfl (fun rv hx hq => ?_)
  obtain ⟨v, rfl, ⟨y, rfl⟩, ⟨F, hF⟩, hM⟩ := hq
  refine wp_aload_n (i := 2) (q := 581) dL_law_580 rfl rfl rfl ?_
  refine wp_aload_n (i := 0) (q := 582) dL_law_581 rfl rfl rfl ?_
  refine wp_iload_n (i := 3) (q := 583) dL_law_582 rfl rfl rfl ?_
  refine wp_iconst (v := nI 1) (q := 584) dL_law_583 (by decide) rfl ?_
  refine wp_iadd (q := 585) dL_law_584 rfl ?_
  refine wp_sld (q := 586) dL_law_585 hsc (by exact hin _ (by decide)) rfl ?_
  refine wp_aload_n (i := 0) (q := 587) dL_law_586 rfl rfl rfl ?_
  refine wp_iload_n (i := 3) (q := 588) dL_law_587 rfl rfl rfl ?_
  refine wp_iconst (v := nI 2) (q := 589) dL_law_588 (by decide) rfl ?_
  refine wp_iadd (q := 590) dL_law_589 rfl ?_
  refine wp_sld (q := 591) dL_law_590 hsc (by exact hin _ (by decide)) rfl ?_
  refine wp_callV (μ' := mX8_sums) (ci := 8) (q := 594) hM dL_law_591 okX8_sums lkL_60 hF rfl rfl rfl (Nat.le_of_ble_eq_true rfl) (by omega) (Nat.zero_le _) (Nat.zero_le _) rfl (fun rv hx hq => ?_)
  obtain ⟨rfl, hW⟩ := hq
  refine wp_icmp_eq (t := 1017) (q := 597) dL_law_594 (by decide) rfl (fun _ => ?_) (fun hne => absurd rfl hne)
  exact wp_room (by omega) (by omega) (kk _ hW)
theorem law_sum (hd : 12 ≤ d) (hsc : (s0, L, xs) ∈ sc) (hin : ∀ k, k < 8 → vp_in (nI i + nI k) L) (hkc : 130 ≤ kc) (hks : 605 ≤ ks) (hW : LW b h) (kk : ∀ h', LW b h' → wp l mL_law sc d (kc - 130) (ks - 605) Q h' 1017 [some (.ref s0), some (.ref b), some (.ref (b + 33)), some (.int (nI i))] []) : wp l mL_law sc d kc ks Q h 599 [some (.ref s0), some (.ref b), some (.ref (b + 33)), some (.int (nI i))] [] := by
  obtain ⟨sz, I, A, B, D, I', L', A', B', g, rfl, hDW, hR⟩ := hW
  refine wp_aload_n (i := 1) (q := 600) dL_law_599 rfl rfl rfl ?_
  refine wp_aload_n (i := 0) (q := 601) dL_law_600 rfl rfl rfl ?_
  refine wp_iload_n (i := 3) (q := 602) dL_law_601 rfl rfl rfl ?_
  refine wp_iconst (v := nI 1) (q := 603) dL_law_602 (by decide) rfl ?_
  refine wp_iadd (q := 604) dL_law_603 rfl ?_
  refine wp_sld (q := 605) dL_law_604 hsc (by exact hin _ (by decide)) rfl ?_
  refine wp_aload_n (i := 0) (q := 606) dL_law_605 rfl rfl rfl ?_
  refine wp_iload_n (i := 3) (q := 607) dL_law_606 rfl rfl rfl ?_
  refine wp_iconst (v := nI 2) (q := 608) dL_law_607 (by decide) rfl ?_
  refine wp_iadd (q := 609) dL_law_608 rfl ?_
  refine wp_sld (q := 610) dL_law_609 hsc (by exact hin _ (by decide)) rfl ?_
  refine wp_aload_n (i := 0) (q := 611) dL_law_610 rfl rfl rfl ?_
  refine wp_iload_n (i := 3) (q := 612) dL_law_611 rfl rfl rfl ?_
  refine wp_iconst (v := nI 3) (q := 613) dL_law_612 (by decide) rfl ?_
  refine wp_iadd (q := 614) dL_law_613 rfl ?_
  refine wp_sld (q := 615) dL_law_614 hsc (by exact hin _ (by decide)) rfl ?_
  refine wp_aload_n (i := 0) (q := 616) dL_law_615 rfl rfl rfl ?_
  refine wp_iload_n (i := 3) (q := 617) dL_law_616 rfl rfl rfl ?_
  refine wp_iconst (v := nI 4) (q := 618) dL_law_617 (by decide) rfl ?_
  refine wp_iadd (q := 619) dL_law_618 rfl ?_
  refine wp_sld (q := 620) dL_law_619 hsc (by exact hin _ (by decide)) rfl ?_
  refine wp_callV (μ' := mX7_sum) (ci := 7) (q := 623) (lq_sum (d := d - 1) (by omega) hDW hR) dL_law_620 okX7_sum lkL_61 ch_obj rfl rfl rfl (Nat.le_of_ble_eq_true rfl) (by omega) (by omega) (by omega) rfl (fun rv hx hq => ?_)
  obtain ⟨v, rfl, ⟨y, rfl⟩, ⟨F, hF⟩, hM⟩ := hq
  refine wp_aload_n (i := 2) (q := 624) dL_law_623 rfl rfl rfl ?_
  refine wp_aload_n (i := 0) (q := 625) dL_law_624 rfl rfl rfl ?_
  refine wp_iload_n (i := 3) (q := 626) dL_law_625 rfl rfl rfl ?_
  refine wp_iconst (v := nI 1) (q := 627) dL_law_626 (by decide) rfl ?_
  refine wp_iadd (q := 628) dL_law_627 rfl ?_
  refine wp_sld (q := 629) dL_law_628 hsc (by exact hin _ (by decide)) rfl ?_
  refine wp_aload_n (i := 0) (q := 630) dL_law_629 rfl rfl rfl ?_
  refine wp_iload_n (i := 3) (q := 631) dL_law_630 rfl rfl rfl ?_
  refine wp_iconst (v := nI 2) (q := 632) dL_law_631 (by decide) rfl ?_
  refine wp_iadd (q := 633) dL_law_632 rfl ?_
  refine wp_sld (q := 634) dL_law_633 hsc (by exact hin _ (by decide)) rfl ?_
  refine wp_aload_n (i := 0) (q := 635) dL_law_634 rfl rfl rfl ?_
  refine wp_iload_n (i := 3) (q := 636) dL_law_635 rfl rfl rfl ?_
  refine wp_iconst (v := nI 3) (q := 637) dL_law_636 (by decide) rfl ?_
  refine wp_iadd (q := 638) dL_law_637 rfl ?_
  refine wp_sld (q := 639) dL_law_638 hsc (by exact hin _ (by decide)) rfl ?_
  refine wp_aload_n (i := 0) (q := 640) dL_law_639 rfl rfl rfl ?_
  refine wp_iload_n (i := 3) (q := 641) dL_law_640 rfl rfl rfl ?_
  refine wp_iconst (v := nI 4) (q := 642) dL_law_641 (by decide) rfl ?_
  refine wp_iadd (q := 643) dL_law_642 rfl ?_
  refine wp_sld (q := 644) dL_law_643 hsc (by exact hin _ (by decide)) rfl ?_
  refine wp_callV (μ' := mX8_sum) (ci := 8) (q := 647) hM dL_law_644 okX8_sum lkL_65 hF rfl rfl rfl (Nat.le_of_ble_eq_true rfl) (by omega) (Nat.zero_le _) (Nat.zero_le _) rfl (fun rv hx hq => ?_)
  obtain ⟨rfl, hW⟩ := hq
  refine wp_lcmp (q := 648) dL_law_647 rfl ?_
  refine wp_if_eq (t := 1017) (q := 651) dL_law_648 (by decide) rfl (fun _ => ?_) (fun hne => absurd lg_cmp_0 hne)
  exact wp_room (by omega) (by omega) (kk _ hW)
theorem law_start (hd : 12 ≤ d) (hsc : (s0, L, xs) ∈ sc) (hin : ∀ k, k < 8 → vp_in (nI i + nI k) L) (hkc : 130 ≤ kc) (hks : 605 ≤ ks) (hW : LW b h) (kk : ∀ h', LW b h' → wp l mL_law sc d (kc - 130) (ks - 605) Q h' 1017 [some (.ref s0), some (.ref b), some (.ref (b + 33)), some (.int (nI i))] []) : wp l mL_law sc d kc ks Q h 653 [some (.ref s0), some (.ref b), some (.ref (b + 33)), some (.int (nI i))] [] := by
  obtain ⟨sz, I, A, B, D, I', L', A', B', g, rfl, hDW, hR⟩ := hW
  refine wp_aload_n (i := 1) (q := 654) dL_law_653 rfl rfl rfl ?_
  refine wp_aload_n (i := 0) (q := 655) dL_law_654 rfl rfl rfl ?_
  refine wp_iload_n (i := 3) (q := 656) dL_law_655 rfl rfl rfl ?_
  refine wp_iconst (v := nI 1) (q := 657) dL_law_656 (by decide) rfl ?_
  refine wp_iadd (q := 658) dL_law_657 rfl ?_
  refine wp_sld (q := 659) dL_law_658 hsc (by exact hin _ (by decide)) rfl ?_
  refine wp_aload_n (i := 0) (q := 660) dL_law_659 rfl rfl rfl ?_
  refine wp_iload_n (i := 3) (q := 661) dL_law_660 rfl rfl rfl ?_
  refine wp_iconst (v := nI 2) (q := 662) dL_law_661 (by decide) rfl ?_
  refine wp_iadd (q := 663) dL_law_662 rfl ?_
  refine wp_sld (q := 664) dL_law_663 hsc (by exact hin _ (by decide)) rfl ?_
  refine wp_aload_n (i := 0) (q := 665) dL_law_664 rfl rfl rfl ?_
  refine wp_iload_n (i := 3) (q := 666) dL_law_665 rfl rfl rfl ?_
  refine wp_iconst (v := nI 3) (q := 667) dL_law_666 (by decide) rfl ?_
  refine wp_iadd (q := 668) dL_law_667 rfl ?_
  refine wp_sld (q := 669) dL_law_668 hsc (by exact hin _ (by decide)) rfl ?_
  refine wp_aload_n (i := 0) (q := 670) dL_law_669 rfl rfl rfl ?_
  refine wp_iload_n (i := 3) (q := 671) dL_law_670 rfl rfl rfl ?_
  refine wp_iconst (v := nI 4) (q := 672) dL_law_671 (by decide) rfl ?_
  refine wp_iadd (q := 673) dL_law_672 rfl ?_
  refine wp_sld (q := 674) dL_law_673 hsc (by exact hin _ (by decide)) rfl ?_
  refine wp_aload_n (i := 0) (q := 675) dL_law_674 rfl rfl rfl ?_
  refine wp_iload_n (i := 3) (q := 676) dL_law_675 rfl rfl rfl ?_
  refine wp_iconst (v := nI 5) (q := 677) dL_law_676 (by decide) rfl ?_
  refine wp_iadd (q := 678) dL_law_677 rfl ?_
  refine wp_sld (q := 679) dL_law_678 hsc (by exact hin _ (by decide)) rfl ?_
  refine wp_callV (μ' := mX7_start) (ci := 7) (q := 682) (lq_start (d := d - 1) (by omega) hDW hR) dL_law_679 okX7_start lkL_66 ch_obj rfl rfl rfl (Nat.le_of_ble_eq_true rfl) (by omega) (by omega) (by omega) rfl (fun rv hx hq => ?_)
  obtain ⟨v, rfl, ⟨y, rfl⟩, ⟨F, hF⟩, hM⟩ := hq
  refine wp_aload_n (i := 2) (q := 683) dL_law_682 rfl rfl rfl ?_
  refine wp_aload_n (i := 0) (q := 684) dL_law_683 rfl rfl rfl ?_
  refine wp_iload_n (i := 3) (q := 685) dL_law_684 rfl rfl rfl ?_
  refine wp_iconst (v := nI 1) (q := 686) dL_law_685 (by decide) rfl ?_
  refine wp_iadd (q := 687) dL_law_686 rfl ?_
  refine wp_sld (q := 688) dL_law_687 hsc (by exact hin _ (by decide)) rfl ?_
  refine wp_aload_n (i := 0) (q := 689) dL_law_688 rfl rfl rfl ?_
  refine wp_iload_n (i := 3) (q := 690) dL_law_689 rfl rfl rfl ?_
  refine wp_iconst (v := nI 2) (q := 691) dL_law_690 (by decide) rfl ?_
  refine wp_iadd (q := 692) dL_law_691 rfl ?_
  refine wp_sld (q := 693) dL_law_692 hsc (by exact hin _ (by decide)) rfl ?_
  refine wp_aload_n (i := 0) (q := 694) dL_law_693 rfl rfl rfl ?_
  refine wp_iload_n (i := 3) (q := 695) dL_law_694 rfl rfl rfl ?_
  refine wp_iconst (v := nI 3) (q := 696) dL_law_695 (by decide) rfl ?_
  refine wp_iadd (q := 697) dL_law_696 rfl ?_
  refine wp_sld (q := 698) dL_law_697 hsc (by exact hin _ (by decide)) rfl ?_
  refine wp_aload_n (i := 0) (q := 699) dL_law_698 rfl rfl rfl ?_
  refine wp_iload_n (i := 3) (q := 700) dL_law_699 rfl rfl rfl ?_
  refine wp_iconst (v := nI 4) (q := 701) dL_law_700 (by decide) rfl ?_
  refine wp_iadd (q := 702) dL_law_701 rfl ?_
  refine wp_sld (q := 703) dL_law_702 hsc (by exact hin _ (by decide)) rfl ?_
  refine wp_aload_n (i := 0) (q := 704) dL_law_703 rfl rfl rfl ?_
  refine wp_iload_n (i := 3) (q := 705) dL_law_704 rfl rfl rfl ?_
  refine wp_iconst (v := nI 5) (q := 706) dL_law_705 (by decide) rfl ?_
  refine wp_iadd (q := 707) dL_law_706 rfl ?_
  refine wp_sld (q := 708) dL_law_707 hsc (by exact hin _ (by decide)) rfl ?_
  refine wp_callV (μ' := mX8_start) (ci := 8) (q := 711) hM dL_law_708 okX8_start lkL_69 hF rfl rfl rfl (Nat.le_of_ble_eq_true rfl) (by omega) (Nat.zero_le _) (Nat.zero_le _) rfl (fun rv hx hq => ?_)
  obtain ⟨rfl, hW⟩ := hq
  refine wp_icmp_eq (t := 1017) (q := 714) dL_law_711 (by decide) rfl (fun _ => ?_) (fun hne => absurd rfl hne)
  exact wp_room (by omega) (by omega) (kk _ hW)
theorem law_act (hd : 12 ≤ d) (hsc : (s0, L, xs) ∈ sc) (hin : ∀ k, k < 8 → vp_in (nI i + nI k) L) (hkc : 130 ≤ kc) (hks : 605 ≤ ks) (hW : LW b h) (kk : ∀ h', LW b h' → wp l mL_law sc d (kc - 130) (ks - 605) Q h' 1017 [some (.ref s0), some (.ref b), some (.ref (b + 33)), some (.int (nI i))] []) : wp l mL_law sc d kc ks Q h 716 [some (.ref s0), some (.ref b), some (.ref (b + 33)), some (.int (nI i))] [] := by
  obtain ⟨sz, I, A, B, D, I', L', A', B', g, rfl, hDW, hR⟩ := hW
  refine wp_aload_n (i := 1) (q := 717) dL_law_716 rfl rfl rfl ?_
  refine wp_aload_n (i := 0) (q := 718) dL_law_717 rfl rfl rfl ?_
  refine wp_iload_n (i := 3) (q := 719) dL_law_718 rfl rfl rfl ?_
  refine wp_iconst (v := nI 1) (q := 720) dL_law_719 (by decide) rfl ?_
  refine wp_iadd (q := 721) dL_law_720 rfl ?_
  refine wp_sld (q := 722) dL_law_721 hsc (by exact hin _ (by decide)) rfl ?_
  refine wp_aload_n (i := 0) (q := 723) dL_law_722 rfl rfl rfl ?_
  refine wp_iload_n (i := 3) (q := 724) dL_law_723 rfl rfl rfl ?_
  refine wp_iconst (v := nI 2) (q := 725) dL_law_724 (by decide) rfl ?_
  refine wp_iadd (q := 726) dL_law_725 rfl ?_
  refine wp_sld (q := 727) dL_law_726 hsc (by exact hin _ (by decide)) rfl ?_
  refine wp_callV (μ' := mX7_act) (ci := 7) (q := 730) (lq_act (d := d - 1) (by omega) hDW hR) dL_law_727 okX7_act lkL_70 ch_obj rfl rfl rfl (Nat.le_of_ble_eq_true rfl) (by omega) (by omega) (by omega) rfl (fun rv hx hq => ?_)
  obtain ⟨v, rfl, ⟨y, rfl⟩, ⟨F, hF⟩, hM⟩ := hq
  refine wp_aload_n (i := 2) (q := 731) dL_law_730 rfl rfl rfl ?_
  refine wp_aload_n (i := 0) (q := 732) dL_law_731 rfl rfl rfl ?_
  refine wp_iload_n (i := 3) (q := 733) dL_law_732 rfl rfl rfl ?_
  refine wp_iconst (v := nI 1) (q := 734) dL_law_733 (by decide) rfl ?_
  refine wp_iadd (q := 735) dL_law_734 rfl ?_
  refine wp_sld (q := 736) dL_law_735 hsc (by exact hin _ (by decide)) rfl ?_
  refine wp_aload_n (i := 0) (q := 737) dL_law_736 rfl rfl rfl ?_
  refine wp_iload_n (i := 3) (q := 738) dL_law_737 rfl rfl rfl ?_
  refine wp_iconst (v := nI 2) (q := 739) dL_law_738 (by decide) rfl ?_
  refine wp_iadd (q := 740) dL_law_739 rfl ?_
  refine wp_sld (q := 741) dL_law_740 hsc (by exact hin _ (by decide)) rfl ?_
  refine wp_callV (μ' := mX8_act) (ci := 8) (q := 744) hM dL_law_741 okX8_act lkL_73 hF rfl rfl rfl (Nat.le_of_ble_eq_true rfl) (by omega) (Nat.zero_le _) (Nat.zero_le _) rfl (fun rv hx hq => ?_)
  obtain ⟨rfl, hW⟩ := hq
  refine wp_icmp_eq (t := 1017) (q := 747) dL_law_744 (by decide) rfl (fun _ => ?_) (fun hne => absurd rfl hne)
  exact wp_room (by omega) (by omega) (kk _ hW)
theorem law_makes (hd : 12 ≤ d) (hsc : (s0, L, xs) ∈ sc) (hin : ∀ k, k < 8 → vp_in (nI i + nI k) L) (hkc : 130 ≤ kc) (hks : 605 ≤ ks) (hW : LW b h) (kk : ∀ h', LW b h' → wp l mL_law sc d (kc - 130) (ks - 605) Q h' 1017 [some (.ref s0), some (.ref b), some (.ref (b + 33)), some (.int (nI i))] []) : wp l mL_law sc d kc ks Q h 749 [some (.ref s0), some (.ref b), some (.ref (b + 33)), some (.int (nI i))] [] := by
  obtain ⟨sz, I, A, B, D, I', L', A', B', g, rfl, hDW, hR⟩ := hW
  refine wp_aload_n (i := 1) (q := 750) dL_law_749 rfl rfl rfl ?_
  refine wp_aload_n (i := 0) (q := 751) dL_law_750 rfl rfl rfl ?_
  refine wp_iload_n (i := 3) (q := 752) dL_law_751 rfl rfl rfl ?_
  refine wp_iconst (v := nI 1) (q := 753) dL_law_752 (by decide) rfl ?_
  refine wp_iadd (q := 754) dL_law_753 rfl ?_
  refine wp_sld (q := 755) dL_law_754 hsc (by exact hin _ (by decide)) rfl ?_
  refine wp_aload_n (i := 0) (q := 756) dL_law_755 rfl rfl rfl ?_
  refine wp_iload_n (i := 3) (q := 757) dL_law_756 rfl rfl rfl ?_
  refine wp_iconst (v := nI 2) (q := 758) dL_law_757 (by decide) rfl ?_
  refine wp_iadd (q := 759) dL_law_758 rfl ?_
  refine wp_sld (q := 760) dL_law_759 hsc (by exact hin _ (by decide)) rfl ?_
  refine wp_aload_n (i := 0) (q := 761) dL_law_760 rfl rfl rfl ?_
  refine wp_iload_n (i := 3) (q := 762) dL_law_761 rfl rfl rfl ?_
  refine wp_iconst (v := nI 3) (q := 763) dL_law_762 (by decide) rfl ?_
  refine wp_iadd (q := 764) dL_law_763 rfl ?_
  refine wp_sld (q := 765) dL_law_764 hsc (by exact hin _ (by decide)) rfl ?_
  refine wp_aload_n (i := 0) (q := 766) dL_law_765 rfl rfl rfl ?_
  refine wp_iload_n (i := 3) (q := 767) dL_law_766 rfl rfl rfl ?_
  refine wp_iconst (v := nI 4) (q := 768) dL_law_767 (by decide) rfl ?_
  refine wp_iadd (q := 769) dL_law_768 rfl ?_
  refine wp_sld (q := 770) dL_law_769 hsc (by exact hin _ (by decide)) rfl ?_
  refine wp_aload_n (i := 0) (q := 771) dL_law_770 rfl rfl rfl ?_
  refine wp_iload_n (i := 3) (q := 772) dL_law_771 rfl rfl rfl ?_
  refine wp_iconst (v := nI 5) (q := 773) dL_law_772 (by decide) rfl ?_
  refine wp_iadd (q := 774) dL_law_773 rfl ?_
  refine wp_sld (q := 775) dL_law_774 hsc (by exact hin _ (by decide)) rfl ?_
  refine wp_aload_n (i := 0) (q := 776) dL_law_775 rfl rfl rfl ?_
  refine wp_iload_n (i := 3) (q := 777) dL_law_776 rfl rfl rfl ?_
  refine wp_bipush (v := nI 6) (q := 779) dL_law_777 (by decide) rfl ?_
  refine wp_iadd (q := 780) dL_law_779 rfl ?_
  refine wp_sld (q := 781) dL_law_780 hsc (by exact hin _ (by decide)) rfl ?_
  refine wp_aload_n (i := 0) (q := 782) dL_law_781 rfl rfl rfl ?_
  refine wp_iload_n (i := 3) (q := 783) dL_law_782 rfl rfl rfl ?_
  refine wp_bipush (v := nI 7) (q := 785) dL_law_783 (by decide) rfl ?_
  refine wp_iadd (q := 786) dL_law_785 rfl ?_
  refine wp_sld (q := 787) dL_law_786 hsc (by exact hin _ (by decide)) rfl ?_
  refine wp_callV (μ' := mX7_makes) (ci := 7) (q := 790) (lq_makes (d := d - 1) (by omega) hDW hR) dL_law_787 okX7_makes lkL_74 ch_obj rfl rfl rfl (Nat.le_of_ble_eq_true rfl) (by omega) (by omega) (by omega) rfl (fun rv hx hq => ?_)
  obtain ⟨v, rfl, ⟨y, rfl⟩, ⟨F, hF⟩, hM⟩ := hq
  refine wp_aload_n (i := 2) (q := 791) dL_law_790 rfl rfl rfl ?_
  refine wp_aload_n (i := 0) (q := 792) dL_law_791 rfl rfl rfl ?_
  refine wp_iload_n (i := 3) (q := 793) dL_law_792 rfl rfl rfl ?_
  refine wp_iconst (v := nI 1) (q := 794) dL_law_793 (by decide) rfl ?_
  refine wp_iadd (q := 795) dL_law_794 rfl ?_
  refine wp_sld (q := 796) dL_law_795 hsc (by exact hin _ (by decide)) rfl ?_
  refine wp_aload_n (i := 0) (q := 797) dL_law_796 rfl rfl rfl ?_
  refine wp_iload_n (i := 3) (q := 798) dL_law_797 rfl rfl rfl ?_
  refine wp_iconst (v := nI 2) (q := 799) dL_law_798 (by decide) rfl ?_
  refine wp_iadd (q := 800) dL_law_799 rfl ?_
  refine wp_sld (q := 801) dL_law_800 hsc (by exact hin _ (by decide)) rfl ?_
  refine wp_aload_n (i := 0) (q := 802) dL_law_801 rfl rfl rfl ?_
  refine wp_iload_n (i := 3) (q := 803) dL_law_802 rfl rfl rfl ?_
  refine wp_iconst (v := nI 3) (q := 804) dL_law_803 (by decide) rfl ?_
  refine wp_iadd (q := 805) dL_law_804 rfl ?_
  refine wp_sld (q := 806) dL_law_805 hsc (by exact hin _ (by decide)) rfl ?_
  refine wp_aload_n (i := 0) (q := 807) dL_law_806 rfl rfl rfl ?_
  refine wp_iload_n (i := 3) (q := 808) dL_law_807 rfl rfl rfl ?_
  refine wp_iconst (v := nI 4) (q := 809) dL_law_808 (by decide) rfl ?_
  refine wp_iadd (q := 810) dL_law_809 rfl ?_
  refine wp_sld (q := 811) dL_law_810 hsc (by exact hin _ (by decide)) rfl ?_
  refine wp_aload_n (i := 0) (q := 812) dL_law_811 rfl rfl rfl ?_
  refine wp_iload_n (i := 3) (q := 813) dL_law_812 rfl rfl rfl ?_
  refine wp_iconst (v := nI 5) (q := 814) dL_law_813 (by decide) rfl ?_
  refine wp_iadd (q := 815) dL_law_814 rfl ?_
  refine wp_sld (q := 816) dL_law_815 hsc (by exact hin _ (by decide)) rfl ?_
  refine wp_aload_n (i := 0) (q := 817) dL_law_816 rfl rfl rfl ?_
  refine wp_iload_n (i := 3) (q := 818) dL_law_817 rfl rfl rfl ?_
  refine wp_bipush (v := nI 6) (q := 820) dL_law_818 (by decide) rfl ?_
  refine wp_iadd (q := 821) dL_law_820 rfl ?_
  refine wp_sld (q := 822) dL_law_821 hsc (by exact hin _ (by decide)) rfl ?_
  refine wp_aload_n (i := 0) (q := 823) dL_law_822 rfl rfl rfl ?_
  refine wp_iload_n (i := 3) (q := 824) dL_law_823 rfl rfl rfl ?_
  refine wp_bipush (v := nI 7) (q := 826) dL_law_824 (by decide) rfl ?_
  refine wp_iadd (q := 827) dL_law_826 rfl ?_
  refine wp_sld (q := 828) dL_law_827 hsc (by exact hin _ (by decide)) rfl ?_
  refine wp_callV (μ' := mX8_makes) (ci := 8) (q := 831) hM dL_law_828 okX8_makes lkL_78 hF rfl rfl rfl (Nat.le_of_ble_eq_true rfl) (by omega) (Nat.zero_le _) (Nat.zero_le _) rfl (fun rv hx hq => ?_)
  obtain ⟨rfl, hW⟩ := hq
  refine wp_icmp_eq (t := 1017) (q := 834) dL_law_831 (by decide) rfl (fun _ => ?_) (fun hne => absurd rfl hne)
  exact wp_room (by omega) (by omega) (kk _ hW)
theorem law_made (hd : 12 ≤ d) (hsc : (s0, L, xs) ∈ sc) (hin : ∀ k, k < 8 → vp_in (nI i + nI k) L) (hkc : 130 ≤ kc) (hks : 605 ≤ ks) (hW : LW b h) (kk : ∀ h', LW b h' → wp l mL_law sc d (kc - 130) (ks - 605) Q h' 1017 [some (.ref s0), some (.ref b), some (.ref (b + 33)), some (.int (nI i))] []) : wp l mL_law sc d kc ks Q h 836 [some (.ref s0), some (.ref b), some (.ref (b + 33)), some (.int (nI i))] [] := by
  obtain ⟨sz, I, A, B, D, I', L', A', B', g, rfl, hDW, hR⟩ := hW
  refine wp_aload_n (i := 1) (q := 837) dL_law_836 rfl rfl rfl ?_
  refine wp_aload_n (i := 0) (q := 838) dL_law_837 rfl rfl rfl ?_
  refine wp_iload_n (i := 3) (q := 839) dL_law_838 rfl rfl rfl ?_
  refine wp_iconst (v := nI 1) (q := 840) dL_law_839 (by decide) rfl ?_
  refine wp_iadd (q := 841) dL_law_840 rfl ?_
  refine wp_sld (q := 842) dL_law_841 hsc (by exact hin _ (by decide)) rfl ?_
  refine wp_aload_n (i := 0) (q := 843) dL_law_842 rfl rfl rfl ?_
  refine wp_iload_n (i := 3) (q := 844) dL_law_843 rfl rfl rfl ?_
  refine wp_iconst (v := nI 2) (q := 845) dL_law_844 (by decide) rfl ?_
  refine wp_iadd (q := 846) dL_law_845 rfl ?_
  refine wp_sld (q := 847) dL_law_846 hsc (by exact hin _ (by decide)) rfl ?_
  refine wp_aload_n (i := 0) (q := 848) dL_law_847 rfl rfl rfl ?_
  refine wp_iload_n (i := 3) (q := 849) dL_law_848 rfl rfl rfl ?_
  refine wp_iconst (v := nI 3) (q := 850) dL_law_849 (by decide) rfl ?_
  refine wp_iadd (q := 851) dL_law_850 rfl ?_
  refine wp_sld (q := 852) dL_law_851 hsc (by exact hin _ (by decide)) rfl ?_
  refine wp_callV (μ' := mX7_made) (ci := 7) (q := 855) (lq_made (d := d - 1) (by omega) hDW hR) dL_law_852 okX7_made lkL_79 ch_obj rfl rfl rfl (Nat.le_of_ble_eq_true rfl) (by omega) (by omega) (by omega) rfl (fun rv hx hq => ?_)
  obtain ⟨v, rfl, ⟨y, rfl⟩, ⟨F, hF⟩, hM⟩ := hq
  refine wp_aload_n (i := 2) (q := 856) dL_law_855 rfl rfl rfl ?_
  refine wp_aload_n (i := 0) (q := 857) dL_law_856 rfl rfl rfl ?_
  refine wp_iload_n (i := 3) (q := 858) dL_law_857 rfl rfl rfl ?_
  refine wp_iconst (v := nI 1) (q := 859) dL_law_858 (by decide) rfl ?_
  refine wp_iadd (q := 860) dL_law_859 rfl ?_
  refine wp_sld (q := 861) dL_law_860 hsc (by exact hin _ (by decide)) rfl ?_
  refine wp_aload_n (i := 0) (q := 862) dL_law_861 rfl rfl rfl ?_
  refine wp_iload_n (i := 3) (q := 863) dL_law_862 rfl rfl rfl ?_
  refine wp_iconst (v := nI 2) (q := 864) dL_law_863 (by decide) rfl ?_
  refine wp_iadd (q := 865) dL_law_864 rfl ?_
  refine wp_sld (q := 866) dL_law_865 hsc (by exact hin _ (by decide)) rfl ?_
  refine wp_aload_n (i := 0) (q := 867) dL_law_866 rfl rfl rfl ?_
  refine wp_iload_n (i := 3) (q := 868) dL_law_867 rfl rfl rfl ?_
  refine wp_iconst (v := nI 3) (q := 869) dL_law_868 (by decide) rfl ?_
  refine wp_iadd (q := 870) dL_law_869 rfl ?_
  refine wp_sld (q := 871) dL_law_870 hsc (by exact hin _ (by decide)) rfl ?_
  refine wp_callV (μ' := mX8_made) (ci := 8) (q := 874) hM dL_law_871 okX8_made lkL_82 hF rfl rfl rfl (Nat.le_of_ble_eq_true rfl) (by omega) (Nat.zero_le _) (Nat.zero_le _) rfl (fun rv hx hq => ?_)
  obtain ⟨rfl, hW⟩ := hq
  refine wp_icmp_eq (t := 1017) (q := 877) dL_law_874 (by decide) rfl (fun _ => ?_) (fun hne => absurd rfl hne)
  exact wp_room (by omega) (by omega) (kk _ hW)
theorem law_kept (hd : 12 ≤ d) (hsc : (s0, L, xs) ∈ sc) (hin : ∀ k, k < 8 → vp_in (nI i + nI k) L) (hkc : 130 ≤ kc) (hks : 605 ≤ ks) (hW : LW b h) (kk : ∀ h', LW b h' → wp l mL_law sc d (kc - 130) (ks - 605) Q h' 1017 [some (.ref s0), some (.ref b), some (.ref (b + 33)), some (.int (nI i))] []) : wp l mL_law sc d kc ks Q h 879 [some (.ref s0), some (.ref b), some (.ref (b + 33)), some (.int (nI i))] [] := by
  obtain ⟨sz, I, A, B, D, I', L', A', B', g, rfl, hDW, hR⟩ := hW
  refine wp_aload_n (i := 1) (q := 880) dL_law_879 rfl rfl rfl ?_
  refine wp_callV (μ' := mX7_kept) (ci := 7) (q := 883) (lq_kept (d := d - 1) (by omega) hDW hR) dL_law_880 okX7_kept lkL_83 ch_obj rfl rfl rfl (Nat.le_of_ble_eq_true rfl) (by omega) (by omega) (by omega) rfl (fun rv hx hq => ?_)
  obtain ⟨v, rfl, ⟨y, rfl⟩, ⟨F, hF⟩, hM⟩ := hq
  refine wp_aload_n (i := 2) (q := 884) dL_law_883 rfl rfl rfl ?_
  refine wp_callV (μ' := mX8_kept) (ci := 8) (q := 887) hM dL_law_884 okX8_kept lkL_87 hF rfl rfl rfl (Nat.le_of_ble_eq_true rfl) (by omega) (Nat.zero_le _) (Nat.zero_le _) rfl (fun rv hx hq => ?_)
  obtain ⟨rfl, hW⟩ := hq
  refine wp_icmp_eq (t := 1017) (q := 890) dL_law_887 (by decide) rfl (fun _ => ?_) (fun hne => absurd rfl hne)
  exact wp_room (by omega) (by omega) (kk _ hW)
theorem law_search (hd : 12 ≤ d) (hsc : (s0, L, xs) ∈ sc) (hin : ∀ k, k < 8 → vp_in (nI i + nI k) L) (hkc : 130 ≤ kc) (hks : 605 ≤ ks) (hW : LW b h) (kk : ∀ h', LW b h' → wp l mL_law sc d (kc - 130) (ks - 605) Q h' 1017 [some (.ref s0), some (.ref b), some (.ref (b + 33)), some (.int (nI i))] []) : wp l mL_law sc d kc ks Q h 892 [some (.ref s0), some (.ref b), some (.ref (b + 33)), some (.int (nI i))] [] := by
  obtain ⟨sz, I, A, B, D, I', L', A', B', g, rfl, hDW, hR⟩ := hW
  refine wp_aload_n (i := 1) (q := 893) dL_law_892 rfl rfl rfl ?_
  refine wp_aload_n (i := 0) (q := 894) dL_law_893 rfl rfl rfl ?_
  refine wp_iload_n (i := 3) (q := 895) dL_law_894 rfl rfl rfl ?_
  refine wp_iconst (v := nI 1) (q := 896) dL_law_895 (by decide) rfl ?_
  refine wp_iadd (q := 897) dL_law_896 rfl ?_
  refine wp_sld (q := 898) dL_law_897 hsc (by exact hin _ (by decide)) rfl ?_
  refine wp_callV (μ' := mX7_search) (ci := 7) (q := 901) (lq_search (d := d - 1) (by omega) hDW hR) dL_law_898 okX7_search lkL_88 ch_obj rfl rfl rfl (Nat.le_of_ble_eq_true rfl) (by omega) (by omega) (by omega) rfl (fun rv hx hq => ?_)
  obtain ⟨v, rfl, ⟨y, rfl⟩, ⟨F, hF⟩, hM⟩ := hq
  refine wp_aload_n (i := 2) (q := 902) dL_law_901 rfl rfl rfl ?_
  refine wp_aload_n (i := 0) (q := 903) dL_law_902 rfl rfl rfl ?_
  refine wp_iload_n (i := 3) (q := 904) dL_law_903 rfl rfl rfl ?_
  refine wp_iconst (v := nI 1) (q := 905) dL_law_904 (by decide) rfl ?_
  refine wp_iadd (q := 906) dL_law_905 rfl ?_
  refine wp_sld (q := 907) dL_law_906 hsc (by exact hin _ (by decide)) rfl ?_
  refine wp_callV (μ' := mX8_search) (ci := 8) (q := 910) hM dL_law_907 okX8_search lkL_91 hF rfl rfl rfl (Nat.le_of_ble_eq_true rfl) (by omega) (Nat.zero_le _) (Nat.zero_le _) rfl (fun rv hx hq => ?_)
  obtain ⟨rfl, hW⟩ := hq
  refine wp_icmp_eq (t := 1017) (q := 913) dL_law_910 (by decide) rfl (fun _ => ?_) (fun hne => absurd rfl hne)
  exact wp_room (by omega) (by omega) (kk _ hW)
theorem law_broke (hd : 12 ≤ d) (hsc : (s0, L, xs) ∈ sc) (hin : ∀ k, k < 8 → vp_in (nI i + nI k) L) (hkc : 130 ≤ kc) (hks : 605 ≤ ks) (hW : LW b h) (kk : ∀ h', LW b h' → wp l mL_law sc d (kc - 130) (ks - 605) Q h' 1017 [some (.ref s0), some (.ref b), some (.ref (b + 33)), some (.int (nI i))] []) : wp l mL_law sc d kc ks Q h 915 [some (.ref s0), some (.ref b), some (.ref (b + 33)), some (.int (nI i))] [] := by
  obtain ⟨sz, I, A, B, D, I', L', A', B', g, rfl, hDW, hR⟩ := hW
  refine wp_aload_n (i := 1) (q := 916) dL_law_915 rfl rfl rfl ?_
  refine wp_aload_n (i := 0) (q := 917) dL_law_916 rfl rfl rfl ?_
  refine wp_iload_n (i := 3) (q := 918) dL_law_917 rfl rfl rfl ?_
  refine wp_iconst (v := nI 1) (q := 919) dL_law_918 (by decide) rfl ?_
  refine wp_iadd (q := 920) dL_law_919 rfl ?_
  refine wp_sld (q := 921) dL_law_920 hsc (by exact hin _ (by decide)) rfl ?_
  refine wp_callV (μ' := mX7_broke) (ci := 7) (q := 924) (lq_broke (d := d - 1) (by omega) hDW hR) dL_law_921 okX7_broke lkL_92 ch_obj rfl rfl rfl (Nat.le_of_ble_eq_true rfl) (by omega) (by omega) (by omega) rfl (fun rv hx hq => ?_)
  obtain ⟨v, rfl, ⟨y, rfl⟩, ⟨F, hF⟩, hM⟩ := hq
  refine wp_aload_n (i := 2) (q := 925) dL_law_924 rfl rfl rfl ?_
  refine wp_aload_n (i := 0) (q := 926) dL_law_925 rfl rfl rfl ?_
  refine wp_iload_n (i := 3) (q := 927) dL_law_926 rfl rfl rfl ?_
  refine wp_iconst (v := nI 1) (q := 928) dL_law_927 (by decide) rfl ?_
  refine wp_iadd (q := 929) dL_law_928 rfl ?_
  refine wp_sld (q := 930) dL_law_929 hsc (by exact hin _ (by decide)) rfl ?_
  refine wp_callV (μ' := mX8_broke) (ci := 8) (q := 933) hM dL_law_930 okX8_broke lkL_95 hF rfl rfl rfl (Nat.le_of_ble_eq_true rfl) (by omega) (Nat.zero_le _) (Nat.zero_le _) rfl (fun rv hx hq => ?_)
  obtain ⟨rfl, hW⟩ := hq
  refine wp_icmp_eq (t := 1017) (q := 936) dL_law_933 (by decide) rfl (fun _ => ?_) (fun hne => absurd rfl hne)
  exact wp_room (by omega) (by omega) (kk _ hW)
theorem law_run (hd : 12 ≤ d) (hsc : (s0, L, xs) ∈ sc) (hin : ∀ k, k < 8 → vp_in (nI i + nI k) L) (hkc : 130 ≤ kc) (hks : 605 ≤ ks) (hW : LW b h) (kk : ∀ h', LW b h' → wp l mL_law sc d (kc - 130) (ks - 605) Q h' 1017 [some (.ref s0), some (.ref b), some (.ref (b + 33)), some (.int (nI i))] []) : wp l mL_law sc d kc ks Q h 938 [some (.ref s0), some (.ref b), some (.ref (b + 33)), some (.int (nI i))] [] := by
  obtain ⟨sz, I, A, B, D, I', L', A', B', g, rfl, hDW, hR⟩ := hW
  refine wp_aload_n (i := 1) (q := 939) dL_law_938 rfl rfl rfl ?_
  refine wp_aload_n (i := 0) (q := 940) dL_law_939 rfl rfl rfl ?_
  refine wp_iload_n (i := 3) (q := 941) dL_law_940 rfl rfl rfl ?_
  refine wp_iconst (v := nI 1) (q := 942) dL_law_941 (by decide) rfl ?_
  refine wp_iadd (q := 943) dL_law_942 rfl ?_
  refine wp_sld (q := 944) dL_law_943 hsc (by exact hin _ (by decide)) rfl ?_
  refine wp_aload_n (i := 0) (q := 945) dL_law_944 rfl rfl rfl ?_
  refine wp_iload_n (i := 3) (q := 946) dL_law_945 rfl rfl rfl ?_
  refine wp_iconst (v := nI 2) (q := 947) dL_law_946 (by decide) rfl ?_
  refine wp_iadd (q := 948) dL_law_947 rfl ?_
  refine wp_sld (q := 949) dL_law_948 hsc (by exact hin _ (by decide)) rfl ?_
  refine wp_callV (μ' := mX7_run) (ci := 7) (q := 952) (lq_run (d := d - 1) (by omega) hDW hR) dL_law_949 okX7_run lkL_96 ch_obj rfl rfl rfl (Nat.le_of_ble_eq_true rfl) (by omega) (by omega) (by omega) rfl (fun rv hx hq => ?_)
  obtain ⟨v, rfl, ⟨y, rfl⟩, ⟨F, hF⟩, hM⟩ := hq
  refine wp_aload_n (i := 2) (q := 953) dL_law_952 rfl rfl rfl ?_
  refine wp_aload_n (i := 0) (q := 954) dL_law_953 rfl rfl rfl ?_
  refine wp_iload_n (i := 3) (q := 955) dL_law_954 rfl rfl rfl ?_
  refine wp_iconst (v := nI 1) (q := 956) dL_law_955 (by decide) rfl ?_
  refine wp_iadd (q := 957) dL_law_956 rfl ?_
  refine wp_sld (q := 958) dL_law_957 hsc (by exact hin _ (by decide)) rfl ?_
  refine wp_aload_n (i := 0) (q := 959) dL_law_958 rfl rfl rfl ?_
  refine wp_iload_n (i := 3) (q := 960) dL_law_959 rfl rfl rfl ?_
  refine wp_iconst (v := nI 2) (q := 961) dL_law_960 (by decide) rfl ?_
  refine wp_iadd (q := 962) dL_law_961 rfl ?_
  refine wp_sld (q := 963) dL_law_962 hsc (by exact hin _ (by decide)) rfl ?_
  refine wp_callV (μ' := mX8_run) (ci := 8) (q := 966) hM dL_law_963 okX8_run lkL_99 hF rfl rfl rfl (Nat.le_of_ble_eq_true rfl) (by omega) (Nat.zero_le _) (Nat.zero_le _) rfl (fun rv hx hq => ?_)
  obtain ⟨rfl, hW⟩ := hq
  refine wp_icmp_eq (t := 1017) (q := 969) dL_law_966 (by decide) rfl (fun _ => ?_) (fun hne => absurd rfl hne)
  exact wp_room (by omega) (by omega) (kk _ hW)
theorem law_told (hd : 12 ≤ d) (hsc : (s0, L, xs) ∈ sc) (hin : ∀ k, k < 8 → vp_in (nI i + nI k) L) (hkc : 130 ≤ kc) (hks : 605 ≤ ks) (hW : LW b h) (kk : ∀ h', LW b h' → wp l mL_law sc d (kc - 130) (ks - 605) Q h' 1017 [some (.ref s0), some (.ref b), some (.ref (b + 33)), some (.int (nI i))] []) : wp l mL_law sc d kc ks Q h 971 [some (.ref s0), some (.ref b), some (.ref (b + 33)), some (.int (nI i))] [] := by
  obtain ⟨sz, I, A, B, D, I', L', A', B', g, rfl, hDW, hR⟩ := hW
  refine wp_aload_n (i := 1) (q := 972) dL_law_971 rfl rfl rfl ?_
  refine wp_aload_n (i := 0) (q := 973) dL_law_972 rfl rfl rfl ?_
  refine wp_iload_n (i := 3) (q := 974) dL_law_973 rfl rfl rfl ?_
  refine wp_iconst (v := nI 1) (q := 975) dL_law_974 (by decide) rfl ?_
  refine wp_iadd (q := 976) dL_law_975 rfl ?_
  refine wp_sld (q := 977) dL_law_976 hsc (by exact hin _ (by decide)) rfl ?_
  refine wp_callV (μ' := mX7_told) (ci := 7) (q := 980) (lq_told (d := d - 1) (by omega) hDW hR) dL_law_977 okX7_told lkL_100 ch_obj rfl rfl rfl (Nat.le_of_ble_eq_true rfl) (by omega) (by omega) (by omega) rfl (fun rv hx hq => ?_)
  obtain ⟨v, rfl, ⟨y, rfl⟩, ⟨F, hF⟩, hM⟩ := hq
  refine wp_aload_n (i := 2) (q := 981) dL_law_980 rfl rfl rfl ?_
  refine wp_aload_n (i := 0) (q := 982) dL_law_981 rfl rfl rfl ?_
  refine wp_iload_n (i := 3) (q := 983) dL_law_982 rfl rfl rfl ?_
  refine wp_iconst (v := nI 1) (q := 984) dL_law_983 (by decide) rfl ?_
  refine wp_iadd (q := 985) dL_law_984 rfl ?_
  refine wp_sld (q := 986) dL_law_985 hsc (by exact hin _ (by decide)) rfl ?_
  refine wp_callV (μ' := mX8_told) (ci := 8) (q := 989) hM dL_law_986 okX8_told lkL_103 hF rfl rfl rfl (Nat.le_of_ble_eq_true rfl) (by omega) (Nat.zero_le _) (Nat.zero_le _) rfl (fun rv hx hq => ?_)
  obtain ⟨rfl, hW⟩ := hq
  refine wp_icmp_eq (t := 1017) (q := 992) dL_law_989 (by decide) rfl (fun _ => ?_) (fun hne => absurd rfl hne)
  exact wp_room (by omega) (by omega) (kk _ hW)
theorem law_variables (hd : 12 ≤ d) (hsc : (s0, L, xs) ∈ sc) (hin : ∀ k, k < 8 → vp_in (nI i + nI k) L) (hkc : 130 ≤ kc) (hks : 605 ≤ ks) (hW : LW b h) (kk : ∀ h', LW b h' → wp l mL_law sc d (kc - 130) (ks - 605) Q h' 1017 [some (.ref s0), some (.ref b), some (.ref (b + 33)), some (.int (nI i))] []) : wp l mL_law sc d kc ks Q h 994 [some (.ref s0), some (.ref b), some (.ref (b + 33)), some (.int (nI i))] [] := by
  obtain ⟨sz, I, A, B, D, I', L', A', B', g, rfl, hDW, hR⟩ := hW
  refine wp_aload_n (i := 1) (q := 995) dL_law_994 rfl rfl rfl ?_
  refine wp_aload_n (i := 0) (q := 996) dL_law_995 rfl rfl rfl ?_
  refine wp_iload_n (i := 3) (q := 997) dL_law_996 rfl rfl rfl ?_
  refine wp_iconst (v := nI 1) (q := 998) dL_law_997 (by decide) rfl ?_
  refine wp_iadd (q := 999) dL_law_998 rfl ?_
  refine wp_sld (q := 1000) dL_law_999 hsc (by exact hin _ (by decide)) rfl ?_
  refine wp_callV (μ' := mX7_variables) (ci := 7) (q := 1003) (lq_variables (d := d - 1) (by omega) hDW hR) dL_law_1000 okX7_variables lkL_104 ch_obj rfl rfl rfl (Nat.le_of_ble_eq_true rfl) (by omega) (by omega) (by omega) rfl (fun rv hx hq => ?_)
  obtain ⟨v, rfl, ⟨y, rfl⟩, ⟨F, hF⟩, hM⟩ := hq
  refine wp_aload_n (i := 2) (q := 1004) dL_law_1003 rfl rfl rfl ?_
  refine wp_aload_n (i := 0) (q := 1005) dL_law_1004 rfl rfl rfl ?_
  refine wp_iload_n (i := 3) (q := 1006) dL_law_1005 rfl rfl rfl ?_
  refine wp_iconst (v := nI 1) (q := 1007) dL_law_1006 (by decide) rfl ?_
  refine wp_iadd (q := 1008) dL_law_1007 rfl ?_
  refine wp_sld (q := 1009) dL_law_1008 hsc (by exact hin _ (by decide)) rfl ?_
  refine wp_callV (μ' := mX8_variables) (ci := 8) (q := 1012) hM dL_law_1009 okX8_variables lkL_107 hF rfl rfl rfl (Nat.le_of_ble_eq_true rfl) (by omega) (Nat.zero_le _) (Nat.zero_le _) rfl (fun rv hx hq => ?_)
  obtain ⟨rfl, hW⟩ := hq
  refine wp_icmp_eq (t := 1017) (q := 1015) dL_law_1012 (by decide) rfl (fun _ => ?_) (fun hne => absurd rfl hne)
  exact wp_room (by omega) (by omega) (kk _ hW)
end LA
