/-! the law: a call of the class, a call of the reference, the same answer -/
abbrev vLs (n : Nat) (xs : Nat → Int32) : pv_V := (yL_law, cL_law, 4, some .boolean, some (n, xs))
theorem AM.frX {M M' : pv_M} {a : s_A} (h : AM M a) (hf : frX M M') : AM M' a := by
  obtain ⟨h1, h2, h3, h4, h5, h6⟩ := h
  have e29 := hf 29 (by decide)
  refine ⟨h1.of (fun k _ => by rw [e29]) (fun f hf5 => hf _ (by omega)), ?_, fun k hk => ?_, by rw [e29]; exact h4, by rw [e29]; exact h5, by rw [e29]; exact h6⟩
  · obtain ⟨r1, r2, r3⟩ := h2
    refine ⟨by rw [e29]; exact r1, r2, fun i hi => ?_⟩
    rw [hf 43 (by decide), hf 44 (by decide), hf 45 (by decide)]
    exact r3 i hi
  · unfold s_shM
    rw [hf 46 (by decide), hf 47 (by decide), hf 48 (by decide)]
    exact h3 k hk
theorem AX.frM {M M' : pv_M} {a : s_A} (h : AX M a) (hf : frM M M') : AX M' a := h.same (fun p hp => hf p (by omega))
theorem AM.rd6 {M : pv_M} {a : s_A} (h : AM M a) : ∀ i, i < a.2.1.1 → a.2.1.2.1 i < 6 ∧ a.2.1.2.2.1 i < 6 := fun i hi => by
  have h5 := h.1.1.1
  obtain ⟨⟨-, g1⟩, ⟨-, g2⟩, -⟩ := h.2.1.2.2 i hi
  exact ⟨by omega, g2⟩
section LB
variable {Γ : pv_G} {d : Nat} {M : pv_M} {a : s_A} {t h v : Int32}
theorem b_X7_best (hA : AM M a) : Ct Γ (d + 4) vX7_best [.ref 29, .int h] M (o_M (op_best h a) M) := by rw [op_best_num hA.1.1]; exact c_X7_best hA
theorem b_X7_mild (hA : AM M a) : Ct Γ (d + 3) vX7_mild [.ref 29, .int v] M (o_M (op_mild v a) M) := by rw [op_mild_num]; exact c_X7_mild hA
theorem b_X7_worth (hA : AM M a) : Ct Γ (d + 4) vX7_worth [.ref 29, .int t] M (o_M (op_worth t a) M) := by rw [op_worth_num hA.1.1]; exact c_X7_worth hA
theorem b_X7_shift (hA : AM M a) : Ct Γ (d + 5) vX7_shift [.ref 29, .int t] M (o_M (op_shift t a) M) := by rw [op_shift_num hA.1.1]; exact c_X7_shift hA
theorem b_X7_rounds (hA : AM M a) : Ct Γ (d + 4) vX7_rounds [.ref 29, .int h] M (o_M (op_rounds h a) M) := by rw [op_rounds_num hA.1.1 hA.rd6]; exact c_X7_rounds hA
theorem b_X7_sure (hA : AM M a) : Ct Γ (d + 4) vX7_sure [.ref 29, .int h] M (o_M (op_sure h a) M) := by rw [op_sure_num hA.1.1 hA.rd6]; exact c_X7_sure hA
end LB
theorem PW_sldn {Γ : pv_G} {d : Nat} {V : pv_V} {pc pc' : Nat} {L st : List Value} {M : pv_M} {Q : pv_Q} {n j : Nat} {xs : Nat → Int32} (hd : decode V.2.1 pc = .ok (.iaload, 1)) (hp : pc + 1 = pc') (hV : V.2.2.2.2 = some (n, xs)) (hn : n ≤ 3072) (hj : j < n) (k : PW Γ d V pc' L (.int (xs j) :: st) M Q) : PW Γ d V pc L (.int (nI j) :: .ref 50 :: st) M Q := by
  refine PW_sld hd hp hV (vp_in_nI hj (by omega)) ?_
  rw [nI_clamp (by omega)]
  exact k
theorem v_nsub6 {n : Nat} (hn : n ≤ 3072) : (nI n - 6).toInt = (n : Int) - 6 := by
  rw [Int32.toInt_sub, nI_toInt (by omega), show (6 : Int32).toInt = 6 from rfl]
  exact Int.bmod_eq_of_le (by omega) (by omega)
theorem v_lt6 {n i : Nat} (hn : n ≤ 3072) (hi : i ≤ 4000) : (nI n - 6 < nI i) ↔ n < i + 6 := by
  rw [Int32.lt_iff_toInt_lt, v_nsub6 hn, nI_toInt (by omega)]
  omega
set_option maxHeartbeats 4000000 in
theorem l_L_c0 {Γ : pv_G} {d n i : Nat} {xs : Nat → Int32} {M : pv_M} {a : s_A} {Q : pv_Q} (hn : n ≤ 3072) (hi : i + 6 ≤ n) (hX : AX M a) (hM : AM M a) (hgo : ∀ M' a', AX M' a' → AM M' a' → PW Γ (d + 13) (vLs n xs) 1122 [.ref 50, .ref 0, .ref 29, .int (nI i)] [] M' Q) : PW Γ (d + 13) (vLs n xs) 160 [.ref 50, .ref 0, .ref 29, .int (nI i)] [] M Q := by
  refine PW_aload1 (pc' := 161) dL_law_160 rfl ?_
  refine PW_aload0 (pc' := 162) dL_law_161 rfl ?_
  refine PW_iload3 (pc' := 163) dL_law_162 rfl ?_
  refine PW_iconst (pc' := 164) dL_law_163 rfl (v := nI 1) (by first | rfl | decide) ?_
  refine PW_iadd (pc' := 165) dL_law_164 rfl ?_
  rw [nI_add]
  refine PW_sldn (pc' := 166) dL_law_165 rfl rfl hn (by omega) ?_
  refine PW_aload0 (pc' := 167) dL_law_166 rfl ?_
  refine PW_iload3 (pc' := 168) dL_law_167 rfl ?_
  refine PW_iconst (pc' := 169) dL_law_168 rfl (v := nI 2) (by first | rfl | decide) ?_
  refine PW_iadd (pc' := 170) dL_law_169 rfl ?_
  rw [nI_add]
  refine PW_sldn (pc' := 171) dL_law_170 rfl rfl hn (by omega) ?_
  refine PW_aload0 (pc' := 172) dL_law_171 rfl ?_
  refine PW_iload3 (pc' := 173) dL_law_172 rfl ?_
  refine PW_iconst (pc' := 174) dL_law_173 rfl (v := nI 3) (by first | rfl | decide) ?_
  refine PW_iadd (pc' := 175) dL_law_174 rfl ?_
  rw [nI_add]
  refine PW_sldn (pc' := 176) dL_law_175 rfl rfl hn (by omega) ?_
  refine PW_aload0 (pc' := 177) dL_law_176 rfl ?_
  refine PW_iload3 (pc' := 178) dL_law_177 rfl ?_
  refine PW_iconst (pc' := 179) dL_law_178 rfl (v := nI 4) (by first | rfl | decide) ?_
  refine PW_iadd (pc' := 180) dL_law_179 rfl ?_
  rw [nI_add]
  refine PW_sldn (pc' := 181) dL_law_180 rfl rfl hn (by omega) ?_
  refine PW_callV4r (pc' := 184) dL_law_181 rfl oX6_museum lL_13 rfl rfl rfl (Nat.le_of_ble_eq_true rfl) (c_X6_museum hX) (fun M1 h1 => ?_)
  obtain ⟨hX1, hF1⟩ := h1
  have hM1 := hM.frX hF1
  refine PW_aload2 (pc' := 185) dL_law_184 rfl ?_
  refine PW_aload0 (pc' := 186) dL_law_185 rfl ?_
  refine PW_iload3 (pc' := 187) dL_law_186 rfl ?_
  refine PW_iconst (pc' := 188) dL_law_187 rfl (v := nI 1) (by first | rfl | decide) ?_
  refine PW_iadd (pc' := 189) dL_law_188 rfl ?_
  rw [nI_add]
  refine PW_sldn (pc' := 190) dL_law_189 rfl rfl hn (by omega) ?_
  refine PW_aload0 (pc' := 191) dL_law_190 rfl ?_
  refine PW_iload3 (pc' := 192) dL_law_191 rfl ?_
  refine PW_iconst (pc' := 193) dL_law_192 rfl (v := nI 2) (by first | rfl | decide) ?_
  refine PW_iadd (pc' := 194) dL_law_193 rfl ?_
  rw [nI_add]
  refine PW_sldn (pc' := 195) dL_law_194 rfl rfl hn (by omega) ?_
  refine PW_aload0 (pc' := 196) dL_law_195 rfl ?_
  refine PW_iload3 (pc' := 197) dL_law_196 rfl ?_
  refine PW_iconst (pc' := 198) dL_law_197 rfl (v := nI 3) (by first | rfl | decide) ?_
  refine PW_iadd (pc' := 199) dL_law_198 rfl ?_
  rw [nI_add]
  refine PW_sldn (pc' := 200) dL_law_199 rfl rfl hn (by omega) ?_
  refine PW_aload0 (pc' := 201) dL_law_200 rfl ?_
  refine PW_iload3 (pc' := 202) dL_law_201 rfl ?_
  refine PW_iconst (pc' := 203) dL_law_202 rfl (v := nI 4) (by first | rfl | decide) ?_
  refine PW_iadd (pc' := 204) dL_law_203 rfl ?_
  rw [nI_add]
  refine PW_sldn (pc' := 205) dL_law_204 rfl rfl hn (by omega) ?_
  refine PW_callV4r (pc' := 208) dL_law_205 rfl oX7_museum lL_17 rfl rfl rfl (Nat.le_of_ble_eq_true rfl) (c_X7_museum hM1) (fun M2 h2 => ?_)
  obtain ⟨hM2, hF2⟩ := h2
  exact PW_icmp_eq (tgt := 1122) (pc' := 211) dL_law_208 rfl rfl (fun _ => hgo M2 _ (hX1.frM hF2) hM2) (fun h => absurd rfl h)
set_option maxHeartbeats 4000000 in
theorem l_L_c1 {Γ : pv_G} {d n i : Nat} {xs : Nat → Int32} {M : pv_M} {a : s_A} {Q : pv_Q} (hn : n ≤ 3072) (hi : i + 6 ≤ n) (hX : AX M a) (hM : AM M a) (hgo : ∀ M' a', AX M' a' → AM M' a' → PW Γ (d + 13) (vLs n xs) 1122 [.ref 50, .ref 0, .ref 29, .int (nI i)] [] M' Q) : PW Γ (d + 13) (vLs n xs) 213 [.ref 50, .ref 0, .ref 29, .int (nI i)] [] M Q := by
  refine PW_aload1 (pc' := 214) dL_law_213 rfl ?_
  refine PW_aload0 (pc' := 215) dL_law_214 rfl ?_
  refine PW_iload3 (pc' := 216) dL_law_215 rfl ?_
  refine PW_iconst (pc' := 217) dL_law_216 rfl (v := nI 1) (by first | rfl | decide) ?_
  refine PW_iadd (pc' := 218) dL_law_217 rfl ?_
  rw [nI_add]
  refine PW_sldn (pc' := 219) dL_law_218 rfl rfl hn (by omega) ?_
  refine PW_aload0 (pc' := 220) dL_law_219 rfl ?_
  refine PW_iload3 (pc' := 221) dL_law_220 rfl ?_
  refine PW_iconst (pc' := 222) dL_law_221 rfl (v := nI 2) (by first | rfl | decide) ?_
  refine PW_iadd (pc' := 223) dL_law_222 rfl ?_
  rw [nI_add]
  refine PW_sldn (pc' := 224) dL_law_223 rfl rfl hn (by omega) ?_
  refine PW_callV2r (pc' := 227) dL_law_224 rfl oX6_ofThing lL_18 rfl rfl rfl (Nat.le_of_ble_eq_true rfl) (c_X6_ofThing hX) (fun M1 h1 => ?_)
  obtain ⟨hX1, hF1⟩ := h1
  have hM1 := hM.frX hF1
  refine PW_aload2 (pc' := 228) dL_law_227 rfl ?_
  refine PW_aload0 (pc' := 229) dL_law_228 rfl ?_
  refine PW_iload3 (pc' := 230) dL_law_229 rfl ?_
  refine PW_iconst (pc' := 231) dL_law_230 rfl (v := nI 1) (by first | rfl | decide) ?_
  refine PW_iadd (pc' := 232) dL_law_231 rfl ?_
  rw [nI_add]
  refine PW_sldn (pc' := 233) dL_law_232 rfl rfl hn (by omega) ?_
  refine PW_aload0 (pc' := 234) dL_law_233 rfl ?_
  refine PW_iload3 (pc' := 235) dL_law_234 rfl ?_
  refine PW_iconst (pc' := 236) dL_law_235 rfl (v := nI 2) (by first | rfl | decide) ?_
  refine PW_iadd (pc' := 237) dL_law_236 rfl ?_
  rw [nI_add]
  refine PW_sldn (pc' := 238) dL_law_237 rfl rfl hn (by omega) ?_
  refine PW_callV2r (pc' := 241) dL_law_238 rfl oX7_ofThing lL_22 rfl rfl rfl (Nat.le_of_ble_eq_true rfl) (c_X7_ofThing hM1) (fun M2 h2 => ?_)
  obtain ⟨hM2, hF2⟩ := h2
  exact PW_icmp_eq (tgt := 1122) (pc' := 244) dL_law_241 rfl rfl (fun _ => hgo M2 _ (hX1.frM hF2) hM2) (fun h => absurd rfl h)
set_option maxHeartbeats 4000000 in
theorem l_L_c2 {Γ : pv_G} {d n i : Nat} {xs : Nat → Int32} {M : pv_M} {a : s_A} {Q : pv_Q} (hn : n ≤ 3072) (hi : i + 6 ≤ n) (hX : AX M a) (hM : AM M a) (hgo : ∀ M' a', AX M' a' → AM M' a' → PW Γ (d + 13) (vLs n xs) 1122 [.ref 50, .ref 0, .ref 29, .int (nI i)] [] M' Q) : PW Γ (d + 13) (vLs n xs) 246 [.ref 50, .ref 0, .ref 29, .int (nI i)] [] M Q := by
  refine PW_aload1 (pc' := 247) dL_law_246 rfl ?_
  refine PW_aload0 (pc' := 248) dL_law_247 rfl ?_
  refine PW_iload3 (pc' := 249) dL_law_248 rfl ?_
  refine PW_iconst (pc' := 250) dL_law_249 rfl (v := nI 1) (by first | rfl | decide) ?_
  refine PW_iadd (pc' := 251) dL_law_250 rfl ?_
  rw [nI_add]
  refine PW_sldn (pc' := 252) dL_law_251 rfl rfl hn (by omega) ?_
  refine PW_callV1r (pc' := 255) dL_law_252 rfl oX6_penalty lL_23 rfl rfl rfl (Nat.le_of_ble_eq_true rfl) (c_X6_penalty hX) (fun M1 h1 => ?_)
  obtain ⟨hX1, hF1⟩ := h1
  have hM1 := hM.frX hF1
  refine PW_aload2 (pc' := 256) dL_law_255 rfl ?_
  refine PW_aload0 (pc' := 257) dL_law_256 rfl ?_
  refine PW_iload3 (pc' := 258) dL_law_257 rfl ?_
  refine PW_iconst (pc' := 259) dL_law_258 rfl (v := nI 1) (by first | rfl | decide) ?_
  refine PW_iadd (pc' := 260) dL_law_259 rfl ?_
  rw [nI_add]
  refine PW_sldn (pc' := 261) dL_law_260 rfl rfl hn (by omega) ?_
  refine PW_callV1r (pc' := 264) dL_law_261 rfl oX7_penalty lL_27 rfl rfl rfl (Nat.le_of_ble_eq_true rfl) (c_X7_penalty hM1) (fun M2 h2 => ?_)
  obtain ⟨hM2, hF2⟩ := h2
  exact PW_icmp_eq (tgt := 1122) (pc' := 267) dL_law_264 rfl rfl (fun _ => hgo M2 _ (hX1.frM hF2) hM2) (fun h => absurd rfl h)
set_option maxHeartbeats 4000000 in
theorem l_L_c3 {Γ : pv_G} {d n i : Nat} {xs : Nat → Int32} {M : pv_M} {a : s_A} {Q : pv_Q} (hn : n ≤ 3072) (hi : i + 6 ≤ n) (hX : AX M a) (hM : AM M a) (hgo : ∀ M' a', AX M' a' → AM M' a' → PW Γ (d + 13) (vLs n xs) 1122 [.ref 50, .ref 0, .ref 29, .int (nI i)] [] M' Q) : PW Γ (d + 13) (vLs n xs) 269 [.ref 50, .ref 0, .ref 29, .int (nI i)] [] M Q := by
  refine PW_aload1 (pc' := 270) dL_law_269 rfl ?_
  refine PW_aload0 (pc' := 271) dL_law_270 rfl ?_
  refine PW_iload3 (pc' := 272) dL_law_271 rfl ?_
  refine PW_iconst (pc' := 273) dL_law_272 rfl (v := nI 1) (by first | rfl | decide) ?_
  refine PW_iadd (pc' := 274) dL_law_273 rfl ?_
  rw [nI_add]
  refine PW_sldn (pc' := 275) dL_law_274 rfl rfl hn (by omega) ?_
  refine PW_callV1r (pc' := 278) dL_law_275 rfl oX6_law lL_28 rfl rfl rfl (Nat.le_of_ble_eq_true rfl) (c_X6_law hX) (fun M1 h1 => ?_)
  obtain ⟨hX1, hF1⟩ := h1
  have hM1 := hM.frX hF1
  refine PW_aload2 (pc' := 279) dL_law_278 rfl ?_
  refine PW_aload0 (pc' := 280) dL_law_279 rfl ?_
  refine PW_iload3 (pc' := 281) dL_law_280 rfl ?_
  refine PW_iconst (pc' := 282) dL_law_281 rfl (v := nI 1) (by first | rfl | decide) ?_
  refine PW_iadd (pc' := 283) dL_law_282 rfl ?_
  rw [nI_add]
  refine PW_sldn (pc' := 284) dL_law_283 rfl rfl hn (by omega) ?_
  refine PW_callV1r (pc' := 287) dL_law_284 rfl oX7_law lL_31 rfl rfl rfl (Nat.le_of_ble_eq_true rfl) (c_X7_law hM1) (fun M2 h2 => ?_)
  obtain ⟨hM2, hF2⟩ := h2
  exact PW_icmp_eq (tgt := 1122) (pc' := 290) dL_law_287 rfl rfl (fun _ => hgo M2 _ (hX1.frM hF2) hM2) (fun h => absurd rfl h)
set_option maxHeartbeats 4000000 in
theorem l_L_c4 {Γ : pv_G} {d n i : Nat} {xs : Nat → Int32} {M : pv_M} {a : s_A} {Q : pv_Q} (hn : n ≤ 3072) (hi : i + 6 ≤ n) (hX : AX M a) (hM : AM M a) (hgo : ∀ M' a', AX M' a' → AM M' a' → PW Γ (d + 13) (vLs n xs) 1122 [.ref 50, .ref 0, .ref 29, .int (nI i)] [] M' Q) : PW Γ (d + 13) (vLs n xs) 292 [.ref 50, .ref 0, .ref 29, .int (nI i)] [] M Q := by
  refine PW_aload1 (pc' := 293) dL_law_292 rfl ?_
  refine PW_aload0 (pc' := 294) dL_law_293 rfl ?_
  refine PW_iload3 (pc' := 295) dL_law_294 rfl ?_
  refine PW_iconst (pc' := 296) dL_law_295 rfl (v := nI 1) (by first | rfl | decide) ?_
  refine PW_iadd (pc' := 297) dL_law_296 rfl ?_
  rw [nI_add]
  refine PW_sldn (pc' := 298) dL_law_297 rfl rfl hn (by omega) ?_
  refine PW_aload0 (pc' := 299) dL_law_298 rfl ?_
  refine PW_iload3 (pc' := 300) dL_law_299 rfl ?_
  refine PW_iconst (pc' := 301) dL_law_300 rfl (v := nI 2) (by first | rfl | decide) ?_
  refine PW_iadd (pc' := 302) dL_law_301 rfl ?_
  rw [nI_add]
  refine PW_sldn (pc' := 303) dL_law_302 rfl rfl hn (by omega) ?_
  refine PW_callV2r (pc' := 306) dL_law_303 rfl oX6_use lL_32 rfl rfl rfl (Nat.le_of_ble_eq_true rfl) (c_X6_use hX) (fun M1 h1 => ?_)
  obtain ⟨hX1, hF1⟩ := h1
  have hM1 := hM.frX hF1
  refine PW_aload2 (pc' := 307) dL_law_306 rfl ?_
  refine PW_aload0 (pc' := 308) dL_law_307 rfl ?_
  refine PW_iload3 (pc' := 309) dL_law_308 rfl ?_
  refine PW_iconst (pc' := 310) dL_law_309 rfl (v := nI 1) (by first | rfl | decide) ?_
  refine PW_iadd (pc' := 311) dL_law_310 rfl ?_
  rw [nI_add]
  refine PW_sldn (pc' := 312) dL_law_311 rfl rfl hn (by omega) ?_
  refine PW_aload0 (pc' := 313) dL_law_312 rfl ?_
  refine PW_iload3 (pc' := 314) dL_law_313 rfl ?_
  refine PW_iconst (pc' := 315) dL_law_314 rfl (v := nI 2) (by first | rfl | decide) ?_
  refine PW_iadd (pc' := 316) dL_law_315 rfl ?_
  rw [nI_add]
  refine PW_sldn (pc' := 317) dL_law_316 rfl rfl hn (by omega) ?_
  refine PW_callV2r (pc' := 320) dL_law_317 rfl oX7_use lL_35 rfl rfl rfl (Nat.le_of_ble_eq_true rfl) (c_X7_use hM1) (fun M2 h2 => ?_)
  obtain ⟨hM2, hF2⟩ := h2
  exact PW_icmp_eq (tgt := 1122) (pc' := 323) dL_law_320 rfl rfl (fun _ => hgo M2 _ (hX1.frM hF2) hM2) (fun h => absurd rfl h)
set_option maxHeartbeats 4000000 in
theorem l_L_c5 {Γ : pv_G} {d n i : Nat} {xs : Nat → Int32} {M : pv_M} {a : s_A} {Q : pv_Q} (hn : n ≤ 3072) (hi : i + 6 ≤ n) (hX : AX M a) (hM : AM M a) (hgo : ∀ M' a', AX M' a' → AM M' a' → PW Γ (d + 13) (vLs n xs) 1122 [.ref 50, .ref 0, .ref 29, .int (nI i)] [] M' Q) : PW Γ (d + 13) (vLs n xs) 325 [.ref 50, .ref 0, .ref 29, .int (nI i)] [] M Q := by
  refine PW_aload1 (pc' := 326) dL_law_325 rfl ?_
  refine PW_aload0 (pc' := 327) dL_law_326 rfl ?_
  refine PW_iload3 (pc' := 328) dL_law_327 rfl ?_
  refine PW_iconst (pc' := 329) dL_law_328 rfl (v := nI 1) (by first | rfl | decide) ?_
  refine PW_iadd (pc' := 330) dL_law_329 rfl ?_
  rw [nI_add]
  refine PW_sldn (pc' := 331) dL_law_330 rfl rfl hn (by omega) ?_
  refine PW_aload0 (pc' := 332) dL_law_331 rfl ?_
  refine PW_iload3 (pc' := 333) dL_law_332 rfl ?_
  refine PW_iconst (pc' := 334) dL_law_333 rfl (v := nI 2) (by first | rfl | decide) ?_
  refine PW_iadd (pc' := 335) dL_law_334 rfl ?_
  rw [nI_add]
  refine PW_sldn (pc' := 336) dL_law_335 rfl rfl hn (by omega) ?_
  refine PW_aload0 (pc' := 337) dL_law_336 rfl ?_
  refine PW_iload3 (pc' := 338) dL_law_337 rfl ?_
  refine PW_iconst (pc' := 339) dL_law_338 rfl (v := nI 3) (by first | rfl | decide) ?_
  refine PW_iadd (pc' := 340) dL_law_339 rfl ?_
  rw [nI_add]
  refine PW_sldn (pc' := 341) dL_law_340 rfl rfl hn (by omega) ?_
  refine PW_aload0 (pc' := 342) dL_law_341 rfl ?_
  refine PW_iload3 (pc' := 343) dL_law_342 rfl ?_
  refine PW_iconst (pc' := 344) dL_law_343 rfl (v := nI 4) (by first | rfl | decide) ?_
  refine PW_iadd (pc' := 345) dL_law_344 rfl ?_
  rw [nI_add]
  refine PW_sldn (pc' := 346) dL_law_345 rfl rfl hn (by omega) ?_
  refine PW_callV4r (pc' := 349) dL_law_346 rfl oX6_round lL_36 rfl rfl rfl (Nat.le_of_ble_eq_true rfl) (c_X6_round hX) (fun M1 h1 => ?_)
  obtain ⟨hX1, hF1⟩ := h1
  have hM1 := hM.frX hF1
  refine PW_aload2 (pc' := 350) dL_law_349 rfl ?_
  refine PW_aload0 (pc' := 351) dL_law_350 rfl ?_
  refine PW_iload3 (pc' := 352) dL_law_351 rfl ?_
  refine PW_iconst (pc' := 353) dL_law_352 rfl (v := nI 1) (by first | rfl | decide) ?_
  refine PW_iadd (pc' := 354) dL_law_353 rfl ?_
  rw [nI_add]
  refine PW_sldn (pc' := 355) dL_law_354 rfl rfl hn (by omega) ?_
  refine PW_aload0 (pc' := 356) dL_law_355 rfl ?_
  refine PW_iload3 (pc' := 357) dL_law_356 rfl ?_
  refine PW_iconst (pc' := 358) dL_law_357 rfl (v := nI 2) (by first | rfl | decide) ?_
  refine PW_iadd (pc' := 359) dL_law_358 rfl ?_
  rw [nI_add]
  refine PW_sldn (pc' := 360) dL_law_359 rfl rfl hn (by omega) ?_
  refine PW_aload0 (pc' := 361) dL_law_360 rfl ?_
  refine PW_iload3 (pc' := 362) dL_law_361 rfl ?_
  refine PW_iconst (pc' := 363) dL_law_362 rfl (v := nI 3) (by first | rfl | decide) ?_
  refine PW_iadd (pc' := 364) dL_law_363 rfl ?_
  rw [nI_add]
  refine PW_sldn (pc' := 365) dL_law_364 rfl rfl hn (by omega) ?_
  refine PW_aload0 (pc' := 366) dL_law_365 rfl ?_
  refine PW_iload3 (pc' := 367) dL_law_366 rfl ?_
  refine PW_iconst (pc' := 368) dL_law_367 rfl (v := nI 4) (by first | rfl | decide) ?_
  refine PW_iadd (pc' := 369) dL_law_368 rfl ?_
  rw [nI_add]
  refine PW_sldn (pc' := 370) dL_law_369 rfl rfl hn (by omega) ?_
  refine PW_callV4r (pc' := 373) dL_law_370 rfl oX7_round lL_39 rfl rfl rfl (Nat.le_of_ble_eq_true rfl) (c_X7_round hM1) (fun M2 h2 => ?_)
  obtain ⟨hM2, hF2⟩ := h2
  exact PW_icmp_eq (tgt := 1122) (pc' := 376) dL_law_373 rfl rfl (fun _ => hgo M2 _ (hX1.frM hF2) hM2) (fun h => absurd rfl h)
set_option maxHeartbeats 4000000 in
theorem l_L_c6 {Γ : pv_G} {d n i : Nat} {xs : Nat → Int32} {M : pv_M} {a : s_A} {Q : pv_Q} (hn : n ≤ 3072) (hi : i + 6 ≤ n) (hX : AX M a) (hM : AM M a) (hgo : ∀ M' a', AX M' a' → AM M' a' → PW Γ (d + 13) (vLs n xs) 1122 [.ref 50, .ref 0, .ref 29, .int (nI i)] [] M' Q) : PW Γ (d + 13) (vLs n xs) 378 [.ref 50, .ref 0, .ref 29, .int (nI i)] [] M Q := by
  refine PW_aload1 (pc' := 379) dL_law_378 rfl ?_
  refine PW_aload0 (pc' := 380) dL_law_379 rfl ?_
  refine PW_iload3 (pc' := 381) dL_law_380 rfl ?_
  refine PW_iconst (pc' := 382) dL_law_381 rfl (v := nI 1) (by first | rfl | decide) ?_
  refine PW_iadd (pc' := 383) dL_law_382 rfl ?_
  rw [nI_add]
  refine PW_sldn (pc' := 384) dL_law_383 rfl rfl hn (by omega) ?_
  refine PW_callV1r (pc' := 387) dL_law_384 rfl oX6_best lL_40 rfl rfl rfl (Nat.le_of_ble_eq_true rfl) (c_X6_best hX) (fun M1 h1 => ?_)
  obtain ⟨hX1, hF1⟩ := h1
  have hM1 := hM.frX hF1
  refine PW_aload2 (pc' := 388) dL_law_387 rfl ?_
  refine PW_aload0 (pc' := 389) dL_law_388 rfl ?_
  refine PW_iload3 (pc' := 390) dL_law_389 rfl ?_
  refine PW_iconst (pc' := 391) dL_law_390 rfl (v := nI 1) (by first | rfl | decide) ?_
  refine PW_iadd (pc' := 392) dL_law_391 rfl ?_
  rw [nI_add]
  refine PW_sldn (pc' := 393) dL_law_392 rfl rfl hn (by omega) ?_
  refine PW_callV1r (pc' := 396) dL_law_393 rfl oX7_best lL_43 rfl rfl rfl (Nat.le_of_ble_eq_true rfl) (b_X7_best hM1) (fun M2 h2 => ?_)
  obtain ⟨hM2, hF2⟩ := h2
  exact PW_icmp_eq (tgt := 1122) (pc' := 399) dL_law_396 rfl rfl (fun _ => hgo M2 _ (hX1.frM hF2) hM2) (fun h => absurd rfl h)
set_option maxHeartbeats 4000000 in
theorem l_L_c7 {Γ : pv_G} {d n i : Nat} {xs : Nat → Int32} {M : pv_M} {a : s_A} {Q : pv_Q} (hn : n ≤ 3072) (hi : i + 6 ≤ n) (hX : AX M a) (hM : AM M a) (hgo : ∀ M' a', AX M' a' → AM M' a' → PW Γ (d + 13) (vLs n xs) 1122 [.ref 50, .ref 0, .ref 29, .int (nI i)] [] M' Q) : PW Γ (d + 13) (vLs n xs) 401 [.ref 50, .ref 0, .ref 29, .int (nI i)] [] M Q := by
  refine PW_aload1 (pc' := 402) dL_law_401 rfl ?_
  refine PW_aload0 (pc' := 403) dL_law_402 rfl ?_
  refine PW_iload3 (pc' := 404) dL_law_403 rfl ?_
  refine PW_iconst (pc' := 405) dL_law_404 rfl (v := nI 1) (by first | rfl | decide) ?_
  refine PW_iadd (pc' := 406) dL_law_405 rfl ?_
  rw [nI_add]
  refine PW_sldn (pc' := 407) dL_law_406 rfl rfl hn (by omega) ?_
  refine PW_callV1r (pc' := 410) dL_law_407 rfl oX6_mild lL_44 rfl rfl rfl (Nat.le_of_ble_eq_true rfl) (c_X6_mild hX) (fun M1 h1 => ?_)
  obtain ⟨hX1, hF1⟩ := h1
  have hM1 := hM.frX hF1
  refine PW_aload2 (pc' := 411) dL_law_410 rfl ?_
  refine PW_aload0 (pc' := 412) dL_law_411 rfl ?_
  refine PW_iload3 (pc' := 413) dL_law_412 rfl ?_
  refine PW_iconst (pc' := 414) dL_law_413 rfl (v := nI 1) (by first | rfl | decide) ?_
  refine PW_iadd (pc' := 415) dL_law_414 rfl ?_
  rw [nI_add]
  refine PW_sldn (pc' := 416) dL_law_415 rfl rfl hn (by omega) ?_
  refine PW_callV1r (pc' := 419) dL_law_416 rfl oX7_mild lL_47 rfl rfl rfl (Nat.le_of_ble_eq_true rfl) (b_X7_mild hM1) (fun M2 h2 => ?_)
  obtain ⟨hM2, hF2⟩ := h2
  exact PW_icmp_eq (tgt := 1122) (pc' := 422) dL_law_419 rfl rfl (fun _ => hgo M2 _ (hX1.frM hF2) hM2) (fun h => absurd rfl h)
set_option maxHeartbeats 4000000 in
theorem l_L_c8 {Γ : pv_G} {d n i : Nat} {xs : Nat → Int32} {M : pv_M} {a : s_A} {Q : pv_Q} (hn : n ≤ 3072) (hi : i + 6 ≤ n) (hX : AX M a) (hM : AM M a) (hgo : ∀ M' a', AX M' a' → AM M' a' → PW Γ (d + 13) (vLs n xs) 1122 [.ref 50, .ref 0, .ref 29, .int (nI i)] [] M' Q) : PW Γ (d + 13) (vLs n xs) 424 [.ref 50, .ref 0, .ref 29, .int (nI i)] [] M Q := by
  refine PW_aload1 (pc' := 425) dL_law_424 rfl ?_
  refine PW_aload0 (pc' := 426) dL_law_425 rfl ?_
  refine PW_iload3 (pc' := 427) dL_law_426 rfl ?_
  refine PW_iconst (pc' := 428) dL_law_427 rfl (v := nI 1) (by first | rfl | decide) ?_
  refine PW_iadd (pc' := 429) dL_law_428 rfl ?_
  rw [nI_add]
  refine PW_sldn (pc' := 430) dL_law_429 rfl rfl hn (by omega) ?_
  refine PW_callV1r (pc' := 433) dL_law_430 rfl oX6_worth lL_48 rfl rfl rfl (Nat.le_of_ble_eq_true rfl) (c_X6_worth hX) (fun M1 h1 => ?_)
  obtain ⟨hX1, hF1⟩ := h1
  have hM1 := hM.frX hF1
  refine PW_aload2 (pc' := 434) dL_law_433 rfl ?_
  refine PW_aload0 (pc' := 435) dL_law_434 rfl ?_
  refine PW_iload3 (pc' := 436) dL_law_435 rfl ?_
  refine PW_iconst (pc' := 437) dL_law_436 rfl (v := nI 1) (by first | rfl | decide) ?_
  refine PW_iadd (pc' := 438) dL_law_437 rfl ?_
  rw [nI_add]
  refine PW_sldn (pc' := 439) dL_law_438 rfl rfl hn (by omega) ?_
  refine PW_callV1r (pc' := 442) dL_law_439 rfl oX7_worth lL_51 rfl rfl rfl (Nat.le_of_ble_eq_true rfl) (b_X7_worth hM1) (fun M2 h2 => ?_)
  obtain ⟨hM2, hF2⟩ := h2
  exact PW_icmp_eq (tgt := 1122) (pc' := 445) dL_law_442 rfl rfl (fun _ => hgo M2 _ (hX1.frM hF2) hM2) (fun h => absurd rfl h)
set_option maxHeartbeats 4000000 in
theorem l_L_c9 {Γ : pv_G} {d n i : Nat} {xs : Nat → Int32} {M : pv_M} {a : s_A} {Q : pv_Q} (hn : n ≤ 3072) (hi : i + 6 ≤ n) (hX : AX M a) (hM : AM M a) (hgo : ∀ M' a', AX M' a' → AM M' a' → PW Γ (d + 13) (vLs n xs) 1122 [.ref 50, .ref 0, .ref 29, .int (nI i)] [] M' Q) : PW Γ (d + 13) (vLs n xs) 447 [.ref 50, .ref 0, .ref 29, .int (nI i)] [] M Q := by
  refine PW_aload1 (pc' := 448) dL_law_447 rfl ?_
  refine PW_aload0 (pc' := 449) dL_law_448 rfl ?_
  refine PW_iload3 (pc' := 450) dL_law_449 rfl ?_
  refine PW_iconst (pc' := 451) dL_law_450 rfl (v := nI 1) (by first | rfl | decide) ?_
  refine PW_iadd (pc' := 452) dL_law_451 rfl ?_
  rw [nI_add]
  refine PW_sldn (pc' := 453) dL_law_452 rfl rfl hn (by omega) ?_
  refine PW_callV1r (pc' := 456) dL_law_453 rfl oX6_shift lL_52 rfl rfl rfl (Nat.le_of_ble_eq_true rfl) (c_X6_shift hX) (fun M1 h1 => ?_)
  obtain ⟨hX1, hF1⟩ := h1
  have hM1 := hM.frX hF1
  refine PW_aload2 (pc' := 457) dL_law_456 rfl ?_
  refine PW_aload0 (pc' := 458) dL_law_457 rfl ?_
  refine PW_iload3 (pc' := 459) dL_law_458 rfl ?_
  refine PW_iconst (pc' := 460) dL_law_459 rfl (v := nI 1) (by first | rfl | decide) ?_
  refine PW_iadd (pc' := 461) dL_law_460 rfl ?_
  rw [nI_add]
  refine PW_sldn (pc' := 462) dL_law_461 rfl rfl hn (by omega) ?_
  refine PW_callV1r (pc' := 465) dL_law_462 rfl oX7_shift lL_55 rfl rfl rfl (Nat.le_of_ble_eq_true rfl) (b_X7_shift hM1) (fun M2 h2 => ?_)
  obtain ⟨hM2, hF2⟩ := h2
  exact PW_icmp_eq (tgt := 1122) (pc' := 468) dL_law_465 rfl rfl (fun _ => hgo M2 _ (hX1.frM hF2) hM2) (fun h => absurd rfl h)
set_option maxHeartbeats 4000000 in
theorem l_L_c10 {Γ : pv_G} {d n i : Nat} {xs : Nat → Int32} {M : pv_M} {a : s_A} {Q : pv_Q} (hn : n ≤ 3072) (hi : i + 6 ≤ n) (hX : AX M a) (hM : AM M a) (hgo : ∀ M' a', AX M' a' → AM M' a' → PW Γ (d + 13) (vLs n xs) 1122 [.ref 50, .ref 0, .ref 29, .int (nI i)] [] M' Q) : PW Γ (d + 13) (vLs n xs) 470 [.ref 50, .ref 0, .ref 29, .int (nI i)] [] M Q := by
  refine PW_aload1 (pc' := 471) dL_law_470 rfl ?_
  refine PW_aload0 (pc' := 472) dL_law_471 rfl ?_
  refine PW_iload3 (pc' := 473) dL_law_472 rfl ?_
  refine PW_iconst (pc' := 474) dL_law_473 rfl (v := nI 1) (by first | rfl | decide) ?_
  refine PW_iadd (pc' := 475) dL_law_474 rfl ?_
  rw [nI_add]
  refine PW_sldn (pc' := 476) dL_law_475 rfl rfl hn (by omega) ?_
  refine PW_aload0 (pc' := 477) dL_law_476 rfl ?_
  refine PW_iload3 (pc' := 478) dL_law_477 rfl ?_
  refine PW_iconst (pc' := 479) dL_law_478 rfl (v := nI 2) (by first | rfl | decide) ?_
  refine PW_iadd (pc' := 480) dL_law_479 rfl ?_
  rw [nI_add]
  refine PW_sldn (pc' := 481) dL_law_480 rfl rfl hn (by omega) ?_
  refine PW_aload0 (pc' := 482) dL_law_481 rfl ?_
  refine PW_iload3 (pc' := 483) dL_law_482 rfl ?_
  refine PW_iconst (pc' := 484) dL_law_483 rfl (v := nI 3) (by first | rfl | decide) ?_
  refine PW_iadd (pc' := 485) dL_law_484 rfl ?_
  rw [nI_add]
  refine PW_sldn (pc' := 486) dL_law_485 rfl rfl hn (by omega) ?_
  refine PW_if_eq (tgt := 493) (pc' := 489) dL_law_486 rfl rfl (fun h486 => ?_) (fun h486 => ?_)
  · refine PW_iconst (pc' := 494) dL_law_493 rfl (v := bi false) (by first | rfl | decide) ?_
    refine PW_callV3r (pc' := 497) dL_law_494 rfl oX6_reading lL_56 rfl rfl rfl (Nat.le_of_ble_eq_true rfl) (c_X6_reading (w := false) hX) (fun M1 h1 => ?_)
    obtain ⟨hX1, hF1⟩ := h1
    have hM1 := hM.frX hF1
    refine PW_aload2 (pc' := 498) dL_law_497 rfl ?_
    refine PW_aload0 (pc' := 499) dL_law_498 rfl ?_
    refine PW_iload3 (pc' := 500) dL_law_499 rfl ?_
    refine PW_iconst (pc' := 501) dL_law_500 rfl (v := nI 1) (by first | rfl | decide) ?_
    refine PW_iadd (pc' := 502) dL_law_501 rfl ?_
    rw [nI_add]
    refine PW_sldn (pc' := 503) dL_law_502 rfl rfl hn (by omega) ?_
    refine PW_aload0 (pc' := 504) dL_law_503 rfl ?_
    refine PW_iload3 (pc' := 505) dL_law_504 rfl ?_
    refine PW_iconst (pc' := 506) dL_law_505 rfl (v := nI 2) (by first | rfl | decide) ?_
    refine PW_iadd (pc' := 507) dL_law_506 rfl ?_
    rw [nI_add]
    refine PW_sldn (pc' := 508) dL_law_507 rfl rfl hn (by omega) ?_
    refine PW_aload0 (pc' := 509) dL_law_508 rfl ?_
    refine PW_iload3 (pc' := 510) dL_law_509 rfl ?_
    refine PW_iconst (pc' := 511) dL_law_510 rfl (v := nI 3) (by first | rfl | decide) ?_
    refine PW_iadd (pc' := 512) dL_law_511 rfl ?_
    rw [nI_add]
    refine PW_sldn (pc' := 513) dL_law_512 rfl rfl hn (by omega) ?_
    refine PW_if_eq (tgt := 520) (pc' := 516) dL_law_513 rfl rfl (fun h513 => ?_) (fun h513 => ?_)
    · refine PW_iconst (pc' := 521) dL_law_520 rfl (v := bi false) (by first | rfl | decide) ?_
      refine PW_callV3r (pc' := 524) dL_law_521 rfl oX7_reading lL_60 rfl rfl rfl (Nat.le_of_ble_eq_true rfl) (c_X7_reading (w := false) hM1) (fun M2 h2 => ?_)
      obtain ⟨hM2, hF2⟩ := h2
      exact PW_icmp_eq (tgt := 1122) (pc' := 527) dL_law_524 rfl rfl (fun _ => hgo M2 _ (hX1.frM hF2) hM2) (fun h => absurd rfl h)
    · exact absurd h486 h513
  · refine PW_iconst (pc' := 490) dL_law_489 rfl (v := bi true) (by first | rfl | decide) ?_
    refine PW_goto (tgt := 494) dL_law_490 rfl ?_
    refine PW_callV3r (pc' := 497) dL_law_494 rfl oX6_reading lL_56 rfl rfl rfl (Nat.le_of_ble_eq_true rfl) (c_X6_reading (w := true) hX) (fun M1 h1 => ?_)
    obtain ⟨hX1, hF1⟩ := h1
    have hM1 := hM.frX hF1
    refine PW_aload2 (pc' := 498) dL_law_497 rfl ?_
    refine PW_aload0 (pc' := 499) dL_law_498 rfl ?_
    refine PW_iload3 (pc' := 500) dL_law_499 rfl ?_
    refine PW_iconst (pc' := 501) dL_law_500 rfl (v := nI 1) (by first | rfl | decide) ?_
    refine PW_iadd (pc' := 502) dL_law_501 rfl ?_
    rw [nI_add]
    refine PW_sldn (pc' := 503) dL_law_502 rfl rfl hn (by omega) ?_
    refine PW_aload0 (pc' := 504) dL_law_503 rfl ?_
    refine PW_iload3 (pc' := 505) dL_law_504 rfl ?_
    refine PW_iconst (pc' := 506) dL_law_505 rfl (v := nI 2) (by first | rfl | decide) ?_
    refine PW_iadd (pc' := 507) dL_law_506 rfl ?_
    rw [nI_add]
    refine PW_sldn (pc' := 508) dL_law_507 rfl rfl hn (by omega) ?_
    refine PW_aload0 (pc' := 509) dL_law_508 rfl ?_
    refine PW_iload3 (pc' := 510) dL_law_509 rfl ?_
    refine PW_iconst (pc' := 511) dL_law_510 rfl (v := nI 3) (by first | rfl | decide) ?_
    refine PW_iadd (pc' := 512) dL_law_511 rfl ?_
    rw [nI_add]
    refine PW_sldn (pc' := 513) dL_law_512 rfl rfl hn (by omega) ?_
    refine PW_if_eq (tgt := 520) (pc' := 516) dL_law_513 rfl rfl (fun h513 => ?_) (fun h513 => ?_)
    · exact absurd h513 h486
    · refine PW_iconst (pc' := 517) dL_law_516 rfl (v := bi true) (by first | rfl | decide) ?_
      refine PW_goto (tgt := 521) dL_law_517 rfl ?_
      refine PW_callV3r (pc' := 524) dL_law_521 rfl oX7_reading lL_60 rfl rfl rfl (Nat.le_of_ble_eq_true rfl) (c_X7_reading (w := true) hM1) (fun M2 h2 => ?_)
      obtain ⟨hM2, hF2⟩ := h2
      exact PW_icmp_eq (tgt := 1122) (pc' := 527) dL_law_524 rfl rfl (fun _ => hgo M2 _ (hX1.frM hF2) hM2) (fun h => absurd rfl h)
set_option maxHeartbeats 4000000 in
theorem l_L_c11 {Γ : pv_G} {d n i : Nat} {xs : Nat → Int32} {M : pv_M} {a : s_A} {Q : pv_Q} (hn : n ≤ 3072) (hi : i + 6 ≤ n) (hX : AX M a) (hM : AM M a) (hgo : ∀ M' a', AX M' a' → AM M' a' → PW Γ (d + 13) (vLs n xs) 1122 [.ref 50, .ref 0, .ref 29, .int (nI i)] [] M' Q) : PW Γ (d + 13) (vLs n xs) 529 [.ref 50, .ref 0, .ref 29, .int (nI i)] [] M Q := by
  refine PW_aload1 (pc' := 530) dL_law_529 rfl ?_
  refine PW_aload0 (pc' := 531) dL_law_530 rfl ?_
  refine PW_iload3 (pc' := 532) dL_law_531 rfl ?_
  refine PW_iconst (pc' := 533) dL_law_532 rfl (v := nI 1) (by first | rfl | decide) ?_
  refine PW_iadd (pc' := 534) dL_law_533 rfl ?_
  rw [nI_add]
  refine PW_sldn (pc' := 535) dL_law_534 rfl rfl hn (by omega) ?_
  refine PW_callV1r (pc' := 538) dL_law_535 rfl oX6_back lL_61 rfl rfl rfl (Nat.le_of_ble_eq_true rfl) (c_X6_back hX) (fun M1 h1 => ?_)
  obtain ⟨hX1, hF1⟩ := h1
  have hM1 := hM.frX hF1
  refine PW_aload2 (pc' := 539) dL_law_538 rfl ?_
  refine PW_aload0 (pc' := 540) dL_law_539 rfl ?_
  refine PW_iload3 (pc' := 541) dL_law_540 rfl ?_
  refine PW_iconst (pc' := 542) dL_law_541 rfl (v := nI 1) (by first | rfl | decide) ?_
  refine PW_iadd (pc' := 543) dL_law_542 rfl ?_
  rw [nI_add]
  refine PW_sldn (pc' := 544) dL_law_543 rfl rfl hn (by omega) ?_
  refine PW_callV1r (pc' := 547) dL_law_544 rfl oX7_back lL_64 rfl rfl rfl (Nat.le_of_ble_eq_true rfl) (c_X7_back hM1) (fun M2 h2 => ?_)
  obtain ⟨hM2, hF2⟩ := h2
  exact PW_icmp_eq (tgt := 1122) (pc' := 550) dL_law_547 rfl rfl (fun _ => hgo M2 _ (hX1.frM hF2) hM2) (fun h => absurd rfl h)
set_option maxHeartbeats 4000000 in
theorem l_L_c12 {Γ : pv_G} {d n i : Nat} {xs : Nat → Int32} {M : pv_M} {a : s_A} {Q : pv_Q} (hn : n ≤ 3072) (hi : i + 6 ≤ n) (hX : AX M a) (hM : AM M a) (hgo : ∀ M' a', AX M' a' → AM M' a' → PW Γ (d + 13) (vLs n xs) 1122 [.ref 50, .ref 0, .ref 29, .int (nI i)] [] M' Q) : PW Γ (d + 13) (vLs n xs) 552 [.ref 50, .ref 0, .ref 29, .int (nI i)] [] M Q := by
  refine PW_aload1 (pc' := 553) dL_law_552 rfl ?_
  refine PW_aload0 (pc' := 554) dL_law_553 rfl ?_
  refine PW_iload3 (pc' := 555) dL_law_554 rfl ?_
  refine PW_iconst (pc' := 556) dL_law_555 rfl (v := nI 1) (by first | rfl | decide) ?_
  refine PW_iadd (pc' := 557) dL_law_556 rfl ?_
  rw [nI_add]
  refine PW_sldn (pc' := 558) dL_law_557 rfl rfl hn (by omega) ?_
  refine PW_callV1r (pc' := 561) dL_law_558 rfl oX6_rounds lL_65 rfl rfl rfl (Nat.le_of_ble_eq_true rfl) (c_X6_rounds hX) (fun M1 h1 => ?_)
  obtain ⟨hX1, hF1⟩ := h1
  have hM1 := hM.frX hF1
  refine PW_aload2 (pc' := 562) dL_law_561 rfl ?_
  refine PW_aload0 (pc' := 563) dL_law_562 rfl ?_
  refine PW_iload3 (pc' := 564) dL_law_563 rfl ?_
  refine PW_iconst (pc' := 565) dL_law_564 rfl (v := nI 1) (by first | rfl | decide) ?_
  refine PW_iadd (pc' := 566) dL_law_565 rfl ?_
  rw [nI_add]
  refine PW_sldn (pc' := 567) dL_law_566 rfl rfl hn (by omega) ?_
  refine PW_callV1r (pc' := 570) dL_law_567 rfl oX7_rounds lL_68 rfl rfl rfl (Nat.le_of_ble_eq_true rfl) (b_X7_rounds hM1) (fun M2 h2 => ?_)
  obtain ⟨hM2, hF2⟩ := h2
  exact PW_icmp_eq (tgt := 1122) (pc' := 573) dL_law_570 rfl rfl (fun _ => hgo M2 _ (hX1.frM hF2) hM2) (fun h => absurd rfl h)
set_option maxHeartbeats 4000000 in
theorem l_L_c13 {Γ : pv_G} {d n i : Nat} {xs : Nat → Int32} {M : pv_M} {a : s_A} {Q : pv_Q} (hn : n ≤ 3072) (hi : i + 6 ≤ n) (hX : AX M a) (hM : AM M a) (hgo : ∀ M' a', AX M' a' → AM M' a' → PW Γ (d + 13) (vLs n xs) 1122 [.ref 50, .ref 0, .ref 29, .int (nI i)] [] M' Q) : PW Γ (d + 13) (vLs n xs) 575 [.ref 50, .ref 0, .ref 29, .int (nI i)] [] M Q := by
  refine PW_aload1 (pc' := 576) dL_law_575 rfl ?_
  refine PW_aload0 (pc' := 577) dL_law_576 rfl ?_
  refine PW_iload3 (pc' := 578) dL_law_577 rfl ?_
  refine PW_iconst (pc' := 579) dL_law_578 rfl (v := nI 1) (by first | rfl | decide) ?_
  refine PW_iadd (pc' := 580) dL_law_579 rfl ?_
  rw [nI_add]
  refine PW_sldn (pc' := 581) dL_law_580 rfl rfl hn (by omega) ?_
  refine PW_callV1r (pc' := 584) dL_law_581 rfl oX6_sure lL_69 rfl rfl rfl (Nat.le_of_ble_eq_true rfl) (c_X6_sure hX) (fun M1 h1 => ?_)
  obtain ⟨hX1, hF1⟩ := h1
  have hM1 := hM.frX hF1
  refine PW_aload2 (pc' := 585) dL_law_584 rfl ?_
  refine PW_aload0 (pc' := 586) dL_law_585 rfl ?_
  refine PW_iload3 (pc' := 587) dL_law_586 rfl ?_
  refine PW_iconst (pc' := 588) dL_law_587 rfl (v := nI 1) (by first | rfl | decide) ?_
  refine PW_iadd (pc' := 589) dL_law_588 rfl ?_
  rw [nI_add]
  refine PW_sldn (pc' := 590) dL_law_589 rfl rfl hn (by omega) ?_
  refine PW_callV1r (pc' := 593) dL_law_590 rfl oX7_sure lL_72 rfl rfl rfl (Nat.le_of_ble_eq_true rfl) (b_X7_sure hM1) (fun M2 h2 => ?_)
  obtain ⟨hM2, hF2⟩ := h2
  exact PW_icmp_eq (tgt := 1122) (pc' := 596) dL_law_593 rfl rfl (fun _ => hgo M2 _ (hX1.frM hF2) hM2) (fun h => absurd rfl h)
set_option maxHeartbeats 4000000 in
theorem l_L_c14 {Γ : pv_G} {d n i : Nat} {xs : Nat → Int32} {M : pv_M} {a : s_A} {Q : pv_Q} (hn : n ≤ 3072) (hi : i + 6 ≤ n) (hX : AX M a) (hM : AM M a) (hgo : ∀ M' a', AX M' a' → AM M' a' → PW Γ (d + 13) (vLs n xs) 1122 [.ref 50, .ref 0, .ref 29, .int (nI i)] [] M' Q) : PW Γ (d + 13) (vLs n xs) 598 [.ref 50, .ref 0, .ref 29, .int (nI i)] [] M Q := by
  refine PW_aload1 (pc' := 599) dL_law_598 rfl ?_
  refine PW_aload0 (pc' := 600) dL_law_599 rfl ?_
  refine PW_iload3 (pc' := 601) dL_law_600 rfl ?_
  refine PW_iconst (pc' := 602) dL_law_601 rfl (v := nI 1) (by first | rfl | decide) ?_
  refine PW_iadd (pc' := 603) dL_law_602 rfl ?_
  rw [nI_add]
  refine PW_sldn (pc' := 604) dL_law_603 rfl rfl hn (by omega) ?_
  refine PW_aload0 (pc' := 605) dL_law_604 rfl ?_
  refine PW_iload3 (pc' := 606) dL_law_605 rfl ?_
  refine PW_iconst (pc' := 607) dL_law_606 rfl (v := nI 2) (by first | rfl | decide) ?_
  refine PW_iadd (pc' := 608) dL_law_607 rfl ?_
  rw [nI_add]
  refine PW_sldn (pc' := 609) dL_law_608 rfl rfl hn (by omega) ?_
  refine PW_aload0 (pc' := 610) dL_law_609 rfl ?_
  refine PW_iload3 (pc' := 611) dL_law_610 rfl ?_
  refine PW_iconst (pc' := 612) dL_law_611 rfl (v := nI 3) (by first | rfl | decide) ?_
  refine PW_iadd (pc' := 613) dL_law_612 rfl ?_
  rw [nI_add]
  refine PW_sldn (pc' := 614) dL_law_613 rfl rfl hn (by omega) ?_
  refine PW_aload0 (pc' := 615) dL_law_614 rfl ?_
  refine PW_iload3 (pc' := 616) dL_law_615 rfl ?_
  refine PW_iconst (pc' := 617) dL_law_616 rfl (v := nI 4) (by first | rfl | decide) ?_
  refine PW_iadd (pc' := 618) dL_law_617 rfl ?_
  rw [nI_add]
  refine PW_sldn (pc' := 619) dL_law_618 rfl rfl hn (by omega) ?_
  refine PW_callV4r (pc' := 622) dL_law_619 rfl oX6_laws lL_73 rfl rfl rfl (Nat.le_of_ble_eq_true rfl) (c_X6_laws hX) (fun M1 h1 => ?_)
  obtain ⟨hX1, hF1⟩ := h1
  have hM1 := hM.frX hF1
  refine PW_aload2 (pc' := 623) dL_law_622 rfl ?_
  refine PW_aload0 (pc' := 624) dL_law_623 rfl ?_
  refine PW_iload3 (pc' := 625) dL_law_624 rfl ?_
  refine PW_iconst (pc' := 626) dL_law_625 rfl (v := nI 1) (by first | rfl | decide) ?_
  refine PW_iadd (pc' := 627) dL_law_626 rfl ?_
  rw [nI_add]
  refine PW_sldn (pc' := 628) dL_law_627 rfl rfl hn (by omega) ?_
  refine PW_aload0 (pc' := 629) dL_law_628 rfl ?_
  refine PW_iload3 (pc' := 630) dL_law_629 rfl ?_
  refine PW_iconst (pc' := 631) dL_law_630 rfl (v := nI 2) (by first | rfl | decide) ?_
  refine PW_iadd (pc' := 632) dL_law_631 rfl ?_
  rw [nI_add]
  refine PW_sldn (pc' := 633) dL_law_632 rfl rfl hn (by omega) ?_
  refine PW_aload0 (pc' := 634) dL_law_633 rfl ?_
  refine PW_iload3 (pc' := 635) dL_law_634 rfl ?_
  refine PW_iconst (pc' := 636) dL_law_635 rfl (v := nI 3) (by first | rfl | decide) ?_
  refine PW_iadd (pc' := 637) dL_law_636 rfl ?_
  rw [nI_add]
  refine PW_sldn (pc' := 638) dL_law_637 rfl rfl hn (by omega) ?_
  refine PW_aload0 (pc' := 639) dL_law_638 rfl ?_
  refine PW_iload3 (pc' := 640) dL_law_639 rfl ?_
  refine PW_iconst (pc' := 641) dL_law_640 rfl (v := nI 4) (by first | rfl | decide) ?_
  refine PW_iadd (pc' := 642) dL_law_641 rfl ?_
  rw [nI_add]
  refine PW_sldn (pc' := 643) dL_law_642 rfl rfl hn (by omega) ?_
  refine PW_callV4r (pc' := 646) dL_law_643 rfl oX7_laws lL_76 rfl rfl rfl (Nat.le_of_ble_eq_true rfl) (c_X7_laws hM1) (fun M2 h2 => ?_)
  obtain ⟨hM2, hF2⟩ := h2
  exact PW_icmp_eq (tgt := 1122) (pc' := 649) dL_law_646 rfl rfl (fun _ => hgo M2 _ (hX1.frM hF2) hM2) (fun h => absurd rfl h)
set_option maxHeartbeats 4000000 in
theorem l_L_c15 {Γ : pv_G} {d n i : Nat} {xs : Nat → Int32} {M : pv_M} {a : s_A} {Q : pv_Q} (hn : n ≤ 3072) (hi : i + 6 ≤ n) (hX : AX M a) (hM : AM M a) (hgo : ∀ M' a', AX M' a' → AM M' a' → PW Γ (d + 13) (vLs n xs) 1122 [.ref 50, .ref 0, .ref 29, .int (nI i)] [] M' Q) : PW Γ (d + 13) (vLs n xs) 651 [.ref 50, .ref 0, .ref 29, .int (nI i)] [] M Q := by
  refine PW_aload1 (pc' := 652) dL_law_651 rfl ?_
  refine PW_aload0 (pc' := 653) dL_law_652 rfl ?_
  refine PW_iload3 (pc' := 654) dL_law_653 rfl ?_
  refine PW_iconst (pc' := 655) dL_law_654 rfl (v := nI 1) (by first | rfl | decide) ?_
  refine PW_iadd (pc' := 656) dL_law_655 rfl ?_
  rw [nI_add]
  refine PW_sldn (pc' := 657) dL_law_656 rfl rfl hn (by omega) ?_
  refine PW_aload0 (pc' := 658) dL_law_657 rfl ?_
  refine PW_iload3 (pc' := 659) dL_law_658 rfl ?_
  refine PW_iconst (pc' := 660) dL_law_659 rfl (v := nI 2) (by first | rfl | decide) ?_
  refine PW_iadd (pc' := 661) dL_law_660 rfl ?_
  rw [nI_add]
  refine PW_sldn (pc' := 662) dL_law_661 rfl rfl hn (by omega) ?_
  refine PW_aload0 (pc' := 663) dL_law_662 rfl ?_
  refine PW_iload3 (pc' := 664) dL_law_663 rfl ?_
  refine PW_iconst (pc' := 665) dL_law_664 rfl (v := nI 3) (by first | rfl | decide) ?_
  refine PW_iadd (pc' := 666) dL_law_665 rfl ?_
  rw [nI_add]
  refine PW_sldn (pc' := 667) dL_law_666 rfl rfl hn (by omega) ?_
  refine PW_aload0 (pc' := 668) dL_law_667 rfl ?_
  refine PW_iload3 (pc' := 669) dL_law_668 rfl ?_
  refine PW_iconst (pc' := 670) dL_law_669 rfl (v := nI 4) (by first | rfl | decide) ?_
  refine PW_iadd (pc' := 671) dL_law_670 rfl ?_
  rw [nI_add]
  refine PW_sldn (pc' := 672) dL_law_671 rfl rfl hn (by omega) ?_
  refine PW_aload0 (pc' := 673) dL_law_672 rfl ?_
  refine PW_iload3 (pc' := 674) dL_law_673 rfl ?_
  refine PW_iconst (pc' := 675) dL_law_674 rfl (v := nI 5) (by first | rfl | decide) ?_
  refine PW_iadd (pc' := 676) dL_law_675 rfl ?_
  rw [nI_add]
  refine PW_sldn (pc' := 677) dL_law_676 rfl rfl hn (by omega) ?_
  refine PW_callV5r (pc' := 680) dL_law_677 rfl oX6_used lL_77 rfl rfl rfl (Nat.le_of_ble_eq_true rfl) (c_X6_used hX) (fun M1 h1 => ?_)
  obtain ⟨hX1, hF1⟩ := h1
  have hM1 := hM.frX hF1
  refine PW_aload2 (pc' := 681) dL_law_680 rfl ?_
  refine PW_aload0 (pc' := 682) dL_law_681 rfl ?_
  refine PW_iload3 (pc' := 683) dL_law_682 rfl ?_
  refine PW_iconst (pc' := 684) dL_law_683 rfl (v := nI 1) (by first | rfl | decide) ?_
  refine PW_iadd (pc' := 685) dL_law_684 rfl ?_
  rw [nI_add]
  refine PW_sldn (pc' := 686) dL_law_685 rfl rfl hn (by omega) ?_
  refine PW_aload0 (pc' := 687) dL_law_686 rfl ?_
  refine PW_iload3 (pc' := 688) dL_law_687 rfl ?_
  refine PW_iconst (pc' := 689) dL_law_688 rfl (v := nI 2) (by first | rfl | decide) ?_
  refine PW_iadd (pc' := 690) dL_law_689 rfl ?_
  rw [nI_add]
  refine PW_sldn (pc' := 691) dL_law_690 rfl rfl hn (by omega) ?_
  refine PW_aload0 (pc' := 692) dL_law_691 rfl ?_
  refine PW_iload3 (pc' := 693) dL_law_692 rfl ?_
  refine PW_iconst (pc' := 694) dL_law_693 rfl (v := nI 3) (by first | rfl | decide) ?_
  refine PW_iadd (pc' := 695) dL_law_694 rfl ?_
  rw [nI_add]
  refine PW_sldn (pc' := 696) dL_law_695 rfl rfl hn (by omega) ?_
  refine PW_aload0 (pc' := 697) dL_law_696 rfl ?_
  refine PW_iload3 (pc' := 698) dL_law_697 rfl ?_
  refine PW_iconst (pc' := 699) dL_law_698 rfl (v := nI 4) (by first | rfl | decide) ?_
  refine PW_iadd (pc' := 700) dL_law_699 rfl ?_
  rw [nI_add]
  refine PW_sldn (pc' := 701) dL_law_700 rfl rfl hn (by omega) ?_
  refine PW_aload0 (pc' := 702) dL_law_701 rfl ?_
  refine PW_iload3 (pc' := 703) dL_law_702 rfl ?_
  refine PW_iconst (pc' := 704) dL_law_703 rfl (v := nI 5) (by first | rfl | decide) ?_
  refine PW_iadd (pc' := 705) dL_law_704 rfl ?_
  rw [nI_add]
  refine PW_sldn (pc' := 706) dL_law_705 rfl rfl hn (by omega) ?_
  refine PW_callV5r (pc' := 709) dL_law_706 rfl oX7_used lL_81 rfl rfl rfl (Nat.le_of_ble_eq_true rfl) (c_X7_used hM1) (fun M2 h2 => ?_)
  obtain ⟨hM2, hF2⟩ := h2
  exact PW_icmp_eq (tgt := 1122) (pc' := 712) dL_law_709 rfl rfl (fun _ => hgo M2 _ (hX1.frM hF2) hM2) (fun h => absurd rfl h)
set_option maxHeartbeats 4000000 in
theorem l_L_c16 {Γ : pv_G} {d n i : Nat} {xs : Nat → Int32} {M : pv_M} {a : s_A} {Q : pv_Q} (hn : n ≤ 3072) (hi : i + 6 ≤ n) (hX : AX M a) (hM : AM M a) (hgo : ∀ M' a', AX M' a' → AM M' a' → PW Γ (d + 13) (vLs n xs) 1122 [.ref 50, .ref 0, .ref 29, .int (nI i)] [] M' Q) : PW Γ (d + 13) (vLs n xs) 714 [.ref 50, .ref 0, .ref 29, .int (nI i)] [] M Q := by
  refine PW_aload1 (pc' := 715) dL_law_714 rfl ?_
  refine PW_aload0 (pc' := 716) dL_law_715 rfl ?_
  refine PW_iload3 (pc' := 717) dL_law_716 rfl ?_
  refine PW_iconst (pc' := 718) dL_law_717 rfl (v := nI 1) (by first | rfl | decide) ?_
  refine PW_iadd (pc' := 719) dL_law_718 rfl ?_
  rw [nI_add]
  refine PW_sldn (pc' := 720) dL_law_719 rfl rfl hn (by omega) ?_
  refine PW_aload0 (pc' := 721) dL_law_720 rfl ?_
  refine PW_iload3 (pc' := 722) dL_law_721 rfl ?_
  refine PW_iconst (pc' := 723) dL_law_722 rfl (v := nI 2) (by first | rfl | decide) ?_
  refine PW_iadd (pc' := 724) dL_law_723 rfl ?_
  rw [nI_add]
  refine PW_sldn (pc' := 725) dL_law_724 rfl rfl hn (by omega) ?_
  refine PW_aload0 (pc' := 726) dL_law_725 rfl ?_
  refine PW_iload3 (pc' := 727) dL_law_726 rfl ?_
  refine PW_iconst (pc' := 728) dL_law_727 rfl (v := nI 3) (by first | rfl | decide) ?_
  refine PW_iadd (pc' := 729) dL_law_728 rfl ?_
  rw [nI_add]
  refine PW_sldn (pc' := 730) dL_law_729 rfl rfl hn (by omega) ?_
  refine PW_aload0 (pc' := 731) dL_law_730 rfl ?_
  refine PW_iload3 (pc' := 732) dL_law_731 rfl ?_
  refine PW_iconst (pc' := 733) dL_law_732 rfl (v := nI 4) (by first | rfl | decide) ?_
  refine PW_iadd (pc' := 734) dL_law_733 rfl ?_
  rw [nI_add]
  refine PW_sldn (pc' := 735) dL_law_734 rfl rfl hn (by omega) ?_
  refine PW_aload0 (pc' := 736) dL_law_735 rfl ?_
  refine PW_iload3 (pc' := 737) dL_law_736 rfl ?_
  refine PW_iconst (pc' := 738) dL_law_737 rfl (v := nI 5) (by first | rfl | decide) ?_
  refine PW_iadd (pc' := 739) dL_law_738 rfl ?_
  rw [nI_add]
  refine PW_sldn (pc' := 740) dL_law_739 rfl rfl hn (by omega) ?_
  refine PW_callV5r (pc' := 743) dL_law_740 rfl oX6_odds lL_82 rfl rfl rfl (Nat.le_of_ble_eq_true rfl) (c_X6_odds hX) (fun M1 h1 => ?_)
  obtain ⟨hX1, hF1⟩ := h1
  have hM1 := hM.frX hF1
  refine PW_aload2 (pc' := 744) dL_law_743 rfl ?_
  refine PW_aload0 (pc' := 745) dL_law_744 rfl ?_
  refine PW_iload3 (pc' := 746) dL_law_745 rfl ?_
  refine PW_iconst (pc' := 747) dL_law_746 rfl (v := nI 1) (by first | rfl | decide) ?_
  refine PW_iadd (pc' := 748) dL_law_747 rfl ?_
  rw [nI_add]
  refine PW_sldn (pc' := 749) dL_law_748 rfl rfl hn (by omega) ?_
  refine PW_aload0 (pc' := 750) dL_law_749 rfl ?_
  refine PW_iload3 (pc' := 751) dL_law_750 rfl ?_
  refine PW_iconst (pc' := 752) dL_law_751 rfl (v := nI 2) (by first | rfl | decide) ?_
  refine PW_iadd (pc' := 753) dL_law_752 rfl ?_
  rw [nI_add]
  refine PW_sldn (pc' := 754) dL_law_753 rfl rfl hn (by omega) ?_
  refine PW_aload0 (pc' := 755) dL_law_754 rfl ?_
  refine PW_iload3 (pc' := 756) dL_law_755 rfl ?_
  refine PW_iconst (pc' := 757) dL_law_756 rfl (v := nI 3) (by first | rfl | decide) ?_
  refine PW_iadd (pc' := 758) dL_law_757 rfl ?_
  rw [nI_add]
  refine PW_sldn (pc' := 759) dL_law_758 rfl rfl hn (by omega) ?_
  refine PW_aload0 (pc' := 760) dL_law_759 rfl ?_
  refine PW_iload3 (pc' := 761) dL_law_760 rfl ?_
  refine PW_iconst (pc' := 762) dL_law_761 rfl (v := nI 4) (by first | rfl | decide) ?_
  refine PW_iadd (pc' := 763) dL_law_762 rfl ?_
  rw [nI_add]
  refine PW_sldn (pc' := 764) dL_law_763 rfl rfl hn (by omega) ?_
  refine PW_aload0 (pc' := 765) dL_law_764 rfl ?_
  refine PW_iload3 (pc' := 766) dL_law_765 rfl ?_
  refine PW_iconst (pc' := 767) dL_law_766 rfl (v := nI 5) (by first | rfl | decide) ?_
  refine PW_iadd (pc' := 768) dL_law_767 rfl ?_
  rw [nI_add]
  refine PW_sldn (pc' := 769) dL_law_768 rfl rfl hn (by omega) ?_
  refine PW_callV5r (pc' := 772) dL_law_769 rfl oX7_odds lL_86 rfl rfl rfl (Nat.le_of_ble_eq_true rfl) (c_X7_odds hM1) (fun M2 h2 => ?_)
  obtain ⟨hM2, hF2⟩ := h2
  refine PW_lcmp (pc' := 773) dL_law_772 rfl ?_
  exact PW_if_eq (tgt := 1122) (pc' := 776) dL_law_773 rfl rfl (fun _ => hgo M2 _ (hX1.frM hF2) hM2) (fun h => absurd ((lg_cmp_eq _ _).mpr rfl) h)
set_option maxHeartbeats 4000000 in
theorem l_L_c17 {Γ : pv_G} {d n i : Nat} {xs : Nat → Int32} {M : pv_M} {a : s_A} {Q : pv_Q} (hn : n ≤ 3072) (hi : i + 6 ≤ n) (hX : AX M a) (hM : AM M a) (hgo : ∀ M' a', AX M' a' → AM M' a' → PW Γ (d + 13) (vLs n xs) 1122 [.ref 50, .ref 0, .ref 29, .int (nI i)] [] M' Q) : PW Γ (d + 13) (vLs n xs) 778 [.ref 50, .ref 0, .ref 29, .int (nI i)] [] M Q := by
  refine PW_aload1 (pc' := 779) dL_law_778 rfl ?_
  refine PW_aload0 (pc' := 780) dL_law_779 rfl ?_
  refine PW_iload3 (pc' := 781) dL_law_780 rfl ?_
  refine PW_iconst (pc' := 782) dL_law_781 rfl (v := nI 1) (by first | rfl | decide) ?_
  refine PW_iadd (pc' := 783) dL_law_782 rfl ?_
  rw [nI_add]
  refine PW_sldn (pc' := 784) dL_law_783 rfl rfl hn (by omega) ?_
  refine PW_aload0 (pc' := 785) dL_law_784 rfl ?_
  refine PW_iload3 (pc' := 786) dL_law_785 rfl ?_
  refine PW_iconst (pc' := 787) dL_law_786 rfl (v := nI 2) (by first | rfl | decide) ?_
  refine PW_iadd (pc' := 788) dL_law_787 rfl ?_
  rw [nI_add]
  refine PW_sldn (pc' := 789) dL_law_788 rfl rfl hn (by omega) ?_
  refine PW_aload0 (pc' := 790) dL_law_789 rfl ?_
  refine PW_iload3 (pc' := 791) dL_law_790 rfl ?_
  refine PW_iconst (pc' := 792) dL_law_791 rfl (v := nI 3) (by first | rfl | decide) ?_
  refine PW_iadd (pc' := 793) dL_law_792 rfl ?_
  rw [nI_add]
  refine PW_sldn (pc' := 794) dL_law_793 rfl rfl hn (by omega) ?_
  refine PW_callV3r (pc' := 797) dL_law_794 rfl oX6_sheet lL_87 rfl rfl rfl (Nat.le_of_ble_eq_true rfl) (c_X6_sheet hX) (fun M1 h1 => ?_)
  obtain ⟨hX1, hF1⟩ := h1
  have hM1 := hM.frX hF1
  refine PW_aload2 (pc' := 798) dL_law_797 rfl ?_
  refine PW_aload0 (pc' := 799) dL_law_798 rfl ?_
  refine PW_iload3 (pc' := 800) dL_law_799 rfl ?_
  refine PW_iconst (pc' := 801) dL_law_800 rfl (v := nI 1) (by first | rfl | decide) ?_
  refine PW_iadd (pc' := 802) dL_law_801 rfl ?_
  rw [nI_add]
  refine PW_sldn (pc' := 803) dL_law_802 rfl rfl hn (by omega) ?_
  refine PW_aload0 (pc' := 804) dL_law_803 rfl ?_
  refine PW_iload3 (pc' := 805) dL_law_804 rfl ?_
  refine PW_iconst (pc' := 806) dL_law_805 rfl (v := nI 2) (by first | rfl | decide) ?_
  refine PW_iadd (pc' := 807) dL_law_806 rfl ?_
  rw [nI_add]
  refine PW_sldn (pc' := 808) dL_law_807 rfl rfl hn (by omega) ?_
  refine PW_aload0 (pc' := 809) dL_law_808 rfl ?_
  refine PW_iload3 (pc' := 810) dL_law_809 rfl ?_
  refine PW_iconst (pc' := 811) dL_law_810 rfl (v := nI 3) (by first | rfl | decide) ?_
  refine PW_iadd (pc' := 812) dL_law_811 rfl ?_
  rw [nI_add]
  refine PW_sldn (pc' := 813) dL_law_812 rfl rfl hn (by omega) ?_
  refine PW_callV3r (pc' := 816) dL_law_813 rfl oX7_sheet lL_91 rfl rfl rfl (Nat.le_of_ble_eq_true rfl) (c_X7_sheet hM1) (fun M2 h2 => ?_)
  obtain ⟨hM2, hF2⟩ := h2
  exact PW_icmp_eq (tgt := 1122) (pc' := 819) dL_law_816 rfl rfl (fun _ => hgo M2 _ (hX1.frM hF2) hM2) (fun h => absurd rfl h)
set_option maxHeartbeats 4000000 in
theorem l_L_c18 {Γ : pv_G} {d n i : Nat} {xs : Nat → Int32} {M : pv_M} {a : s_A} {Q : pv_Q} (hn : n ≤ 3072) (hi : i + 6 ≤ n) (hX : AX M a) (hM : AM M a) (hgo : ∀ M' a', AX M' a' → AM M' a' → PW Γ (d + 13) (vLs n xs) 1122 [.ref 50, .ref 0, .ref 29, .int (nI i)] [] M' Q) : PW Γ (d + 13) (vLs n xs) 821 [.ref 50, .ref 0, .ref 29, .int (nI i)] [] M Q := by
  refine PW_aload1 (pc' := 822) dL_law_821 rfl ?_
  refine PW_aload0 (pc' := 823) dL_law_822 rfl ?_
  refine PW_iload3 (pc' := 824) dL_law_823 rfl ?_
  refine PW_iconst (pc' := 825) dL_law_824 rfl (v := nI 1) (by first | rfl | decide) ?_
  refine PW_iadd (pc' := 826) dL_law_825 rfl ?_
  rw [nI_add]
  refine PW_sldn (pc' := 827) dL_law_826 rfl rfl hn (by omega) ?_
  refine PW_callV1r (pc' := 830) dL_law_827 rfl oX6_lose lL_92 rfl rfl rfl (Nat.le_of_ble_eq_true rfl) (c_X6_lose hX) (fun M1 h1 => ?_)
  obtain ⟨hX1, hF1⟩ := h1
  have hM1 := hM.frX hF1
  refine PW_aload2 (pc' := 831) dL_law_830 rfl ?_
  refine PW_aload0 (pc' := 832) dL_law_831 rfl ?_
  refine PW_iload3 (pc' := 833) dL_law_832 rfl ?_
  refine PW_iconst (pc' := 834) dL_law_833 rfl (v := nI 1) (by first | rfl | decide) ?_
  refine PW_iadd (pc' := 835) dL_law_834 rfl ?_
  rw [nI_add]
  refine PW_sldn (pc' := 836) dL_law_835 rfl rfl hn (by omega) ?_
  refine PW_callV1r (pc' := 839) dL_law_836 rfl oX7_lose lL_95 rfl rfl rfl (Nat.le_of_ble_eq_true rfl) (c_X7_lose hM1) (fun M2 h2 => ?_)
  obtain ⟨hM2, hF2⟩ := h2
  exact PW_icmp_eq (tgt := 1122) (pc' := 842) dL_law_839 rfl rfl (fun _ => hgo M2 _ (hX1.frM hF2) hM2) (fun h => absurd rfl h)
set_option maxHeartbeats 4000000 in
theorem l_L_c19 {Γ : pv_G} {d n i : Nat} {xs : Nat → Int32} {M : pv_M} {a : s_A} {Q : pv_Q} (hn : n ≤ 3072) (hi : i + 6 ≤ n) (hX : AX M a) (hM : AM M a) (hgo : ∀ M' a', AX M' a' → AM M' a' → PW Γ (d + 13) (vLs n xs) 1122 [.ref 50, .ref 0, .ref 29, .int (nI i)] [] M' Q) : PW Γ (d + 13) (vLs n xs) 844 [.ref 50, .ref 0, .ref 29, .int (nI i)] [] M Q := by
  refine PW_aload1 (pc' := 845) dL_law_844 rfl ?_
  refine PW_aload0 (pc' := 846) dL_law_845 rfl ?_
  refine PW_iload3 (pc' := 847) dL_law_846 rfl ?_
  refine PW_iconst (pc' := 848) dL_law_847 rfl (v := nI 1) (by first | rfl | decide) ?_
  refine PW_iadd (pc' := 849) dL_law_848 rfl ?_
  rw [nI_add]
  refine PW_sldn (pc' := 850) dL_law_849 rfl rfl hn (by omega) ?_
  refine PW_aload0 (pc' := 851) dL_law_850 rfl ?_
  refine PW_iload3 (pc' := 852) dL_law_851 rfl ?_
  refine PW_iconst (pc' := 853) dL_law_852 rfl (v := nI 2) (by first | rfl | decide) ?_
  refine PW_iadd (pc' := 854) dL_law_853 rfl ?_
  rw [nI_add]
  refine PW_sldn (pc' := 855) dL_law_854 rfl rfl hn (by omega) ?_
  refine PW_aload0 (pc' := 856) dL_law_855 rfl ?_
  refine PW_iload3 (pc' := 857) dL_law_856 rfl ?_
  refine PW_iconst (pc' := 858) dL_law_857 rfl (v := nI 3) (by first | rfl | decide) ?_
  refine PW_iadd (pc' := 859) dL_law_858 rfl ?_
  rw [nI_add]
  refine PW_sldn (pc' := 860) dL_law_859 rfl rfl hn (by omega) ?_
  refine PW_callV3r (pc' := 863) dL_law_860 rfl oX6_put lL_96 rfl rfl rfl (Nat.le_of_ble_eq_true rfl) (c_X6_put hX) (fun M1 h1 => ?_)
  obtain ⟨hX1, hF1⟩ := h1
  have hM1 := hM.frX hF1
  refine PW_aload2 (pc' := 864) dL_law_863 rfl ?_
  refine PW_aload0 (pc' := 865) dL_law_864 rfl ?_
  refine PW_iload3 (pc' := 866) dL_law_865 rfl ?_
  refine PW_iconst (pc' := 867) dL_law_866 rfl (v := nI 1) (by first | rfl | decide) ?_
  refine PW_iadd (pc' := 868) dL_law_867 rfl ?_
  rw [nI_add]
  refine PW_sldn (pc' := 869) dL_law_868 rfl rfl hn (by omega) ?_
  refine PW_aload0 (pc' := 870) dL_law_869 rfl ?_
  refine PW_iload3 (pc' := 871) dL_law_870 rfl ?_
  refine PW_iconst (pc' := 872) dL_law_871 rfl (v := nI 2) (by first | rfl | decide) ?_
  refine PW_iadd (pc' := 873) dL_law_872 rfl ?_
  rw [nI_add]
  refine PW_sldn (pc' := 874) dL_law_873 rfl rfl hn (by omega) ?_
  refine PW_aload0 (pc' := 875) dL_law_874 rfl ?_
  refine PW_iload3 (pc' := 876) dL_law_875 rfl ?_
  refine PW_iconst (pc' := 877) dL_law_876 rfl (v := nI 3) (by first | rfl | decide) ?_
  refine PW_iadd (pc' := 878) dL_law_877 rfl ?_
  rw [nI_add]
  refine PW_sldn (pc' := 879) dL_law_878 rfl rfl hn (by omega) ?_
  refine PW_callV3r (pc' := 882) dL_law_879 rfl oX7_put lL_99 rfl rfl rfl (Nat.le_of_ble_eq_true rfl) (c_X7_put hM1) (fun M2 h2 => ?_)
  obtain ⟨hM2, hF2⟩ := h2
  exact PW_icmp_eq (tgt := 1122) (pc' := 885) dL_law_882 rfl rfl (fun _ => hgo M2 _ (hX1.frM hF2) hM2) (fun h => absurd rfl h)
set_option maxHeartbeats 4000000 in
theorem l_L_c20 {Γ : pv_G} {d n i : Nat} {xs : Nat → Int32} {M : pv_M} {a : s_A} {Q : pv_Q} (hn : n ≤ 3072) (hi : i + 6 ≤ n) (hX : AX M a) (hM : AM M a) (hgo : ∀ M' a', AX M' a' → AM M' a' → PW Γ (d + 13) (vLs n xs) 1122 [.ref 50, .ref 0, .ref 29, .int (nI i)] [] M' Q) : PW Γ (d + 13) (vLs n xs) 887 [.ref 50, .ref 0, .ref 29, .int (nI i)] [] M Q := by
  refine PW_aload1 (pc' := 888) dL_law_887 rfl ?_
  refine PW_aload0 (pc' := 889) dL_law_888 rfl ?_
  refine PW_iload3 (pc' := 890) dL_law_889 rfl ?_
  refine PW_iconst (pc' := 891) dL_law_890 rfl (v := nI 1) (by first | rfl | decide) ?_
  refine PW_iadd (pc' := 892) dL_law_891 rfl ?_
  rw [nI_add]
  refine PW_sldn (pc' := 893) dL_law_892 rfl rfl hn (by omega) ?_
  refine PW_aload0 (pc' := 894) dL_law_893 rfl ?_
  refine PW_iload3 (pc' := 895) dL_law_894 rfl ?_
  refine PW_iconst (pc' := 896) dL_law_895 rfl (v := nI 2) (by first | rfl | decide) ?_
  refine PW_iadd (pc' := 897) dL_law_896 rfl ?_
  rw [nI_add]
  refine PW_sldn (pc' := 898) dL_law_897 rfl rfl hn (by omega) ?_
  refine PW_aload0 (pc' := 899) dL_law_898 rfl ?_
  refine PW_iload3 (pc' := 900) dL_law_899 rfl ?_
  refine PW_iconst (pc' := 901) dL_law_900 rfl (v := nI 3) (by first | rfl | decide) ?_
  refine PW_iadd (pc' := 902) dL_law_901 rfl ?_
  rw [nI_add]
  refine PW_sldn (pc' := 903) dL_law_902 rfl rfl hn (by omega) ?_
  refine PW_callV3r (pc' := 906) dL_law_903 rfl oX6_cell lL_100 rfl rfl rfl (Nat.le_of_ble_eq_true rfl) (c_X6_cell hX) (fun M1 h1 => ?_)
  obtain ⟨hX1, hF1⟩ := h1
  have hM1 := hM.frX hF1
  refine PW_aload2 (pc' := 907) dL_law_906 rfl ?_
  refine PW_aload0 (pc' := 908) dL_law_907 rfl ?_
  refine PW_iload3 (pc' := 909) dL_law_908 rfl ?_
  refine PW_iconst (pc' := 910) dL_law_909 rfl (v := nI 1) (by first | rfl | decide) ?_
  refine PW_iadd (pc' := 911) dL_law_910 rfl ?_
  rw [nI_add]
  refine PW_sldn (pc' := 912) dL_law_911 rfl rfl hn (by omega) ?_
  refine PW_aload0 (pc' := 913) dL_law_912 rfl ?_
  refine PW_iload3 (pc' := 914) dL_law_913 rfl ?_
  refine PW_iconst (pc' := 915) dL_law_914 rfl (v := nI 2) (by first | rfl | decide) ?_
  refine PW_iadd (pc' := 916) dL_law_915 rfl ?_
  rw [nI_add]
  refine PW_sldn (pc' := 917) dL_law_916 rfl rfl hn (by omega) ?_
  refine PW_aload0 (pc' := 918) dL_law_917 rfl ?_
  refine PW_iload3 (pc' := 919) dL_law_918 rfl ?_
  refine PW_iconst (pc' := 920) dL_law_919 rfl (v := nI 3) (by first | rfl | decide) ?_
  refine PW_iadd (pc' := 921) dL_law_920 rfl ?_
  rw [nI_add]
  refine PW_sldn (pc' := 922) dL_law_921 rfl rfl hn (by omega) ?_
  refine PW_callV3r (pc' := 925) dL_law_922 rfl oX7_cell lL_104 rfl rfl rfl (Nat.le_of_ble_eq_true rfl) (c_X7_cell hM1) (fun M2 h2 => ?_)
  obtain ⟨hM2, hF2⟩ := h2
  refine PW_lcmp (pc' := 926) dL_law_925 rfl ?_
  exact PW_if_eq (tgt := 1122) (pc' := 929) dL_law_926 rfl rfl (fun _ => hgo M2 _ (hX1.frM hF2) hM2) (fun h => absurd ((lg_cmp_eq _ _).mpr rfl) h)
set_option maxHeartbeats 4000000 in
theorem l_L_c21 {Γ : pv_G} {d n i : Nat} {xs : Nat → Int32} {M : pv_M} {a : s_A} {Q : pv_Q} (hn : n ≤ 3072) (hi : i + 6 ≤ n) (hX : AX M a) (hM : AM M a) (hgo : ∀ M' a', AX M' a' → AM M' a' → PW Γ (d + 13) (vLs n xs) 1122 [.ref 50, .ref 0, .ref 29, .int (nI i)] [] M' Q) : PW Γ (d + 13) (vLs n xs) 931 [.ref 50, .ref 0, .ref 29, .int (nI i)] [] M Q := by
  refine PW_aload1 (pc' := 932) dL_law_931 rfl ?_
  refine PW_aload0 (pc' := 933) dL_law_932 rfl ?_
  refine PW_iload3 (pc' := 934) dL_law_933 rfl ?_
  refine PW_iconst (pc' := 935) dL_law_934 rfl (v := nI 1) (by first | rfl | decide) ?_
  refine PW_iadd (pc' := 936) dL_law_935 rfl ?_
  rw [nI_add]
  refine PW_sldn (pc' := 937) dL_law_936 rfl rfl hn (by omega) ?_
  refine PW_aload0 (pc' := 938) dL_law_937 rfl ?_
  refine PW_iload3 (pc' := 939) dL_law_938 rfl ?_
  refine PW_iconst (pc' := 940) dL_law_939 rfl (v := nI 2) (by first | rfl | decide) ?_
  refine PW_iadd (pc' := 941) dL_law_940 rfl ?_
  rw [nI_add]
  refine PW_sldn (pc' := 942) dL_law_941 rfl rfl hn (by omega) ?_
  refine PW_aload0 (pc' := 943) dL_law_942 rfl ?_
  refine PW_iload3 (pc' := 944) dL_law_943 rfl ?_
  refine PW_iconst (pc' := 945) dL_law_944 rfl (v := nI 3) (by first | rfl | decide) ?_
  refine PW_iadd (pc' := 946) dL_law_945 rfl ?_
  rw [nI_add]
  refine PW_sldn (pc' := 947) dL_law_946 rfl rfl hn (by omega) ?_
  refine PW_aload0 (pc' := 948) dL_law_947 rfl ?_
  refine PW_iload3 (pc' := 949) dL_law_948 rfl ?_
  refine PW_iconst (pc' := 950) dL_law_949 rfl (v := nI 4) (by first | rfl | decide) ?_
  refine PW_iadd (pc' := 951) dL_law_950 rfl ?_
  rw [nI_add]
  refine PW_sldn (pc' := 952) dL_law_951 rfl rfl hn (by omega) ?_
  refine PW_aload0 (pc' := 953) dL_law_952 rfl ?_
  refine PW_iload3 (pc' := 954) dL_law_953 rfl ?_
  refine PW_iconst (pc' := 955) dL_law_954 rfl (v := nI 5) (by first | rfl | decide) ?_
  refine PW_iadd (pc' := 956) dL_law_955 rfl ?_
  rw [nI_add]
  refine PW_sldn (pc' := 957) dL_law_956 rfl rfl hn (by omega) ?_
  refine PW_callV5r (pc' := 960) dL_law_957 rfl oX6_copy lL_105 rfl rfl rfl (Nat.le_of_ble_eq_true rfl) (c_X6_copy hX) (fun M1 h1 => ?_)
  obtain ⟨hX1, hF1⟩ := h1
  have hM1 := hM.frX hF1
  refine PW_aload2 (pc' := 961) dL_law_960 rfl ?_
  refine PW_aload0 (pc' := 962) dL_law_961 rfl ?_
  refine PW_iload3 (pc' := 963) dL_law_962 rfl ?_
  refine PW_iconst (pc' := 964) dL_law_963 rfl (v := nI 1) (by first | rfl | decide) ?_
  refine PW_iadd (pc' := 965) dL_law_964 rfl ?_
  rw [nI_add]
  refine PW_sldn (pc' := 966) dL_law_965 rfl rfl hn (by omega) ?_
  refine PW_aload0 (pc' := 967) dL_law_966 rfl ?_
  refine PW_iload3 (pc' := 968) dL_law_967 rfl ?_
  refine PW_iconst (pc' := 969) dL_law_968 rfl (v := nI 2) (by first | rfl | decide) ?_
  refine PW_iadd (pc' := 970) dL_law_969 rfl ?_
  rw [nI_add]
  refine PW_sldn (pc' := 971) dL_law_970 rfl rfl hn (by omega) ?_
  refine PW_aload0 (pc' := 972) dL_law_971 rfl ?_
  refine PW_iload3 (pc' := 973) dL_law_972 rfl ?_
  refine PW_iconst (pc' := 974) dL_law_973 rfl (v := nI 3) (by first | rfl | decide) ?_
  refine PW_iadd (pc' := 975) dL_law_974 rfl ?_
  rw [nI_add]
  refine PW_sldn (pc' := 976) dL_law_975 rfl rfl hn (by omega) ?_
  refine PW_aload0 (pc' := 977) dL_law_976 rfl ?_
  refine PW_iload3 (pc' := 978) dL_law_977 rfl ?_
  refine PW_iconst (pc' := 979) dL_law_978 rfl (v := nI 4) (by first | rfl | decide) ?_
  refine PW_iadd (pc' := 980) dL_law_979 rfl ?_
  rw [nI_add]
  refine PW_sldn (pc' := 981) dL_law_980 rfl rfl hn (by omega) ?_
  refine PW_aload0 (pc' := 982) dL_law_981 rfl ?_
  refine PW_iload3 (pc' := 983) dL_law_982 rfl ?_
  refine PW_iconst (pc' := 984) dL_law_983 rfl (v := nI 5) (by first | rfl | decide) ?_
  refine PW_iadd (pc' := 985) dL_law_984 rfl ?_
  rw [nI_add]
  refine PW_sldn (pc' := 986) dL_law_985 rfl rfl hn (by omega) ?_
  refine PW_callV5r (pc' := 989) dL_law_986 rfl oX7_copy lL_108 rfl rfl rfl (Nat.le_of_ble_eq_true rfl) (c_X7_copy hM1) (fun M2 h2 => ?_)
  obtain ⟨hM2, hF2⟩ := h2
  exact PW_icmp_eq (tgt := 1122) (pc' := 992) dL_law_989 rfl rfl (fun _ => hgo M2 _ (hX1.frM hF2) hM2) (fun h => absurd rfl h)
set_option maxHeartbeats 4000000 in
theorem l_L_c22 {Γ : pv_G} {d n i : Nat} {xs : Nat → Int32} {M : pv_M} {a : s_A} {Q : pv_Q} (hn : n ≤ 3072) (hi : i + 6 ≤ n) (hX : AX M a) (hM : AM M a) (hgo : ∀ M' a', AX M' a' → AM M' a' → PW Γ (d + 13) (vLs n xs) 1122 [.ref 50, .ref 0, .ref 29, .int (nI i)] [] M' Q) : PW Γ (d + 13) (vLs n xs) 994 [.ref 50, .ref 0, .ref 29, .int (nI i)] [] M Q := by
  refine PW_aload1 (pc' := 995) dL_law_994 rfl ?_
  refine PW_aload0 (pc' := 996) dL_law_995 rfl ?_
  refine PW_iload3 (pc' := 997) dL_law_996 rfl ?_
  refine PW_iconst (pc' := 998) dL_law_997 rfl (v := nI 1) (by first | rfl | decide) ?_
  refine PW_iadd (pc' := 999) dL_law_998 rfl ?_
  rw [nI_add]
  refine PW_sldn (pc' := 1000) dL_law_999 rfl rfl hn (by omega) ?_
  refine PW_callV1r (pc' := 1003) dL_law_1000 rfl oX6_tell lL_109 rfl rfl rfl (Nat.le_of_ble_eq_true rfl) (c_X6_tell hX) (fun M1 h1 => ?_)
  obtain ⟨hX1, hF1⟩ := h1
  have hM1 := hM.frX hF1
  refine PW_aload2 (pc' := 1004) dL_law_1003 rfl ?_
  refine PW_aload0 (pc' := 1005) dL_law_1004 rfl ?_
  refine PW_iload3 (pc' := 1006) dL_law_1005 rfl ?_
  refine PW_iconst (pc' := 1007) dL_law_1006 rfl (v := nI 1) (by first | rfl | decide) ?_
  refine PW_iadd (pc' := 1008) dL_law_1007 rfl ?_
  rw [nI_add]
  refine PW_sldn (pc' := 1009) dL_law_1008 rfl rfl hn (by omega) ?_
  refine PW_callV1r (pc' := 1012) dL_law_1009 rfl oX7_tell lL_112 rfl rfl rfl (Nat.le_of_ble_eq_true rfl) (c_X7_tell hM1) (fun M2 h2 => ?_)
  obtain ⟨hM2, hF2⟩ := h2
  exact PW_icmp_eq (tgt := 1122) (pc' := 1015) dL_law_1012 rfl rfl (fun _ => hgo M2 _ (hX1.frM hF2) hM2) (fun h => absurd rfl h)
set_option maxHeartbeats 4000000 in
theorem l_L_c23 {Γ : pv_G} {d n i : Nat} {xs : Nat → Int32} {M : pv_M} {a : s_A} {Q : pv_Q} (hn : n ≤ 3072) (hi : i + 6 ≤ n) (hX : AX M a) (hM : AM M a) (hgo : ∀ M' a', AX M' a' → AM M' a' → PW Γ (d + 13) (vLs n xs) 1122 [.ref 50, .ref 0, .ref 29, .int (nI i)] [] M' Q) : PW Γ (d + 13) (vLs n xs) 1017 [.ref 50, .ref 0, .ref 29, .int (nI i)] [] M Q := by
  refine PW_aload1 (pc' := 1018) dL_law_1017 rfl ?_
  refine PW_aload0 (pc' := 1019) dL_law_1018 rfl ?_
  refine PW_iload3 (pc' := 1020) dL_law_1019 rfl ?_
  refine PW_iconst (pc' := 1021) dL_law_1020 rfl (v := nI 1) (by first | rfl | decide) ?_
  refine PW_iadd (pc' := 1022) dL_law_1021 rfl ?_
  rw [nI_add]
  refine PW_sldn (pc' := 1023) dL_law_1022 rfl rfl hn (by omega) ?_
  refine PW_callV1r (pc' := 1026) dL_law_1023 rfl oX6_label lL_113 rfl rfl rfl (Nat.le_of_ble_eq_true rfl) (c_X6_label hX) (fun M1 h1 => ?_)
  obtain ⟨hX1, hF1⟩ := h1
  have hM1 := hM.frX hF1
  refine PW_aload2 (pc' := 1027) dL_law_1026 rfl ?_
  refine PW_aload0 (pc' := 1028) dL_law_1027 rfl ?_
  refine PW_iload3 (pc' := 1029) dL_law_1028 rfl ?_
  refine PW_iconst (pc' := 1030) dL_law_1029 rfl (v := nI 1) (by first | rfl | decide) ?_
  refine PW_iadd (pc' := 1031) dL_law_1030 rfl ?_
  rw [nI_add]
  refine PW_sldn (pc' := 1032) dL_law_1031 rfl rfl hn (by omega) ?_
  refine PW_callV1r (pc' := 1035) dL_law_1032 rfl oX7_label lL_116 rfl rfl rfl (Nat.le_of_ble_eq_true rfl) (c_X7_label hM1) (fun M2 h2 => ?_)
  obtain ⟨hM2, hF2⟩ := h2
  exact PW_icmp_eq (tgt := 1122) (pc' := 1038) dL_law_1035 rfl rfl (fun _ => hgo M2 _ (hX1.frM hF2) hM2) (fun h => absurd rfl h)
set_option maxHeartbeats 4000000 in
theorem l_L_c24 {Γ : pv_G} {d n i : Nat} {xs : Nat → Int32} {M : pv_M} {a : s_A} {Q : pv_Q} (hn : n ≤ 3072) (hi : i + 6 ≤ n) (hX : AX M a) (hM : AM M a) (hgo : ∀ M' a', AX M' a' → AM M' a' → PW Γ (d + 13) (vLs n xs) 1122 [.ref 50, .ref 0, .ref 29, .int (nI i)] [] M' Q) : PW Γ (d + 13) (vLs n xs) 1040 [.ref 50, .ref 0, .ref 29, .int (nI i)] [] M Q := by
  refine PW_aload1 (pc' := 1041) dL_law_1040 rfl ?_
  refine PW_aload0 (pc' := 1042) dL_law_1041 rfl ?_
  refine PW_iload3 (pc' := 1043) dL_law_1042 rfl ?_
  refine PW_iconst (pc' := 1044) dL_law_1043 rfl (v := nI 1) (by first | rfl | decide) ?_
  refine PW_iadd (pc' := 1045) dL_law_1044 rfl ?_
  rw [nI_add]
  refine PW_sldn (pc' := 1046) dL_law_1045 rfl rfl hn (by omega) ?_
  refine PW_aload0 (pc' := 1047) dL_law_1046 rfl ?_
  refine PW_iload3 (pc' := 1048) dL_law_1047 rfl ?_
  refine PW_iconst (pc' := 1049) dL_law_1048 rfl (v := nI 2) (by first | rfl | decide) ?_
  refine PW_iadd (pc' := 1050) dL_law_1049 rfl ?_
  rw [nI_add]
  refine PW_sldn (pc' := 1051) dL_law_1050 rfl rfl hn (by omega) ?_
  refine PW_callV2r (pc' := 1054) dL_law_1051 rfl oX6_as lL_117 rfl rfl rfl (Nat.le_of_ble_eq_true rfl) (c_X6_as hX) (fun M1 h1 => ?_)
  obtain ⟨hX1, hF1⟩ := h1
  have hM1 := hM.frX hF1
  refine PW_aload2 (pc' := 1055) dL_law_1054 rfl ?_
  refine PW_aload0 (pc' := 1056) dL_law_1055 rfl ?_
  refine PW_iload3 (pc' := 1057) dL_law_1056 rfl ?_
  refine PW_iconst (pc' := 1058) dL_law_1057 rfl (v := nI 1) (by first | rfl | decide) ?_
  refine PW_iadd (pc' := 1059) dL_law_1058 rfl ?_
  rw [nI_add]
  refine PW_sldn (pc' := 1060) dL_law_1059 rfl rfl hn (by omega) ?_
  refine PW_aload0 (pc' := 1061) dL_law_1060 rfl ?_
  refine PW_iload3 (pc' := 1062) dL_law_1061 rfl ?_
  refine PW_iconst (pc' := 1063) dL_law_1062 rfl (v := nI 2) (by first | rfl | decide) ?_
  refine PW_iadd (pc' := 1064) dL_law_1063 rfl ?_
  rw [nI_add]
  refine PW_sldn (pc' := 1065) dL_law_1064 rfl rfl hn (by omega) ?_
  refine PW_callV2r (pc' := 1068) dL_law_1065 rfl oX7_as lL_120 rfl rfl rfl (Nat.le_of_ble_eq_true rfl) (c_X7_as hM1) (fun M2 h2 => ?_)
  obtain ⟨hM2, hF2⟩ := h2
  exact PW_icmp_eq (tgt := 1122) (pc' := 1071) dL_law_1068 rfl rfl (fun _ => hgo M2 _ (hX1.frM hF2) hM2) (fun h => absurd rfl h)
set_option maxHeartbeats 4000000 in
theorem l_L_c25 {Γ : pv_G} {d n i : Nat} {xs : Nat → Int32} {M : pv_M} {a : s_A} {Q : pv_Q} (hn : n ≤ 3072) (hi : i + 6 ≤ n) (hX : AX M a) (hM : AM M a) (hgo : ∀ M' a', AX M' a' → AM M' a' → PW Γ (d + 13) (vLs n xs) 1122 [.ref 50, .ref 0, .ref 29, .int (nI i)] [] M' Q) : PW Γ (d + 13) (vLs n xs) 1073 [.ref 50, .ref 0, .ref 29, .int (nI i)] [] M Q := by
  refine PW_aload1 (pc' := 1074) dL_law_1073 rfl ?_
  refine PW_callV0r (pc' := 1077) dL_law_1074 rfl oX6_trace lL_121 rfl rfl rfl (Nat.le_of_ble_eq_true rfl) (c_X6_trace hX) (fun M1 h1 => ?_)
  obtain ⟨hX1, hF1⟩ := h1
  have hM1 := hM.frX hF1
  refine PW_aload2 (pc' := 1078) dL_law_1077 rfl ?_
  refine PW_callV0r (pc' := 1081) dL_law_1078 rfl oX7_trace lL_125 rfl rfl rfl (Nat.le_of_ble_eq_true rfl) (c_X7_trace hM1) (fun M2 h2 => ?_)
  obtain ⟨hM2, hF2⟩ := h2
  exact PW_icmp_eq (tgt := 1122) (pc' := 1084) dL_law_1081 rfl rfl (fun _ => hgo M2 _ (hX1.frM hF2) hM2) (fun h => absurd rfl h)
set_option maxHeartbeats 4000000 in
theorem l_L_c26 {Γ : pv_G} {d n i : Nat} {xs : Nat → Int32} {M : pv_M} {a : s_A} {Q : pv_Q} (hn : n ≤ 3072) (hi : i + 6 ≤ n) (hX : AX M a) (hM : AM M a) (hgo : ∀ M' a', AX M' a' → AM M' a' → PW Γ (d + 13) (vLs n xs) 1122 [.ref 50, .ref 0, .ref 29, .int (nI i)] [] M' Q) : PW Γ (d + 13) (vLs n xs) 1086 [.ref 50, .ref 0, .ref 29, .int (nI i)] [] M Q := by
  refine PW_aload1 (pc' := 1087) dL_law_1086 rfl ?_
  refine PW_callV0r (pc' := 1090) dL_law_1087 rfl oX6_fault lL_126 rfl rfl rfl (Nat.le_of_ble_eq_true rfl) (c_X6_fault hX) (fun M1 h1 => ?_)
  obtain ⟨hX1, hF1⟩ := h1
  have hM1 := hM.frX hF1
  refine PW_aload2 (pc' := 1091) dL_law_1090 rfl ?_
  refine PW_callV0r (pc' := 1094) dL_law_1091 rfl oX7_fault lL_129 rfl rfl rfl (Nat.le_of_ble_eq_true rfl) (c_X7_fault hM1) (fun M2 h2 => ?_)
  obtain ⟨hM2, hF2⟩ := h2
  exact PW_icmp_eq (tgt := 1122) (pc' := 1097) dL_law_1094 rfl rfl (fun _ => hgo M2 _ (hX1.frM hF2) hM2) (fun h => absurd rfl h)
set_option maxHeartbeats 4000000 in
theorem l_L_c27 {Γ : pv_G} {d n i : Nat} {xs : Nat → Int32} {M : pv_M} {a : s_A} {Q : pv_Q} (hn : n ≤ 3072) (hi : i + 6 ≤ n) (hX : AX M a) (hM : AM M a) (hgo : ∀ M' a', AX M' a' → AM M' a' → PW Γ (d + 13) (vLs n xs) 1122 [.ref 50, .ref 0, .ref 29, .int (nI i)] [] M' Q) : PW Γ (d + 13) (vLs n xs) 1099 [.ref 50, .ref 0, .ref 29, .int (nI i)] [] M Q := by
  refine PW_aload1 (pc' := 1100) dL_law_1099 rfl ?_
  refine PW_aload0 (pc' := 1101) dL_law_1100 rfl ?_
  refine PW_iload3 (pc' := 1102) dL_law_1101 rfl ?_
  refine PW_iconst (pc' := 1103) dL_law_1102 rfl (v := nI 1) (by first | rfl | decide) ?_
  refine PW_iadd (pc' := 1104) dL_law_1103 rfl ?_
  rw [nI_add]
  refine PW_sldn (pc' := 1105) dL_law_1104 rfl rfl hn (by omega) ?_
  refine PW_callV1r (pc' := 1108) dL_law_1105 rfl oX6_many lL_130 rfl rfl rfl (Nat.le_of_ble_eq_true rfl) (c_X6_many hX) (fun M1 h1 => ?_)
  obtain ⟨hX1, hF1⟩ := h1
  have hM1 := hM.frX hF1
  refine PW_aload2 (pc' := 1109) dL_law_1108 rfl ?_
  refine PW_aload0 (pc' := 1110) dL_law_1109 rfl ?_
  refine PW_iload3 (pc' := 1111) dL_law_1110 rfl ?_
  refine PW_iconst (pc' := 1112) dL_law_1111 rfl (v := nI 1) (by first | rfl | decide) ?_
  refine PW_iadd (pc' := 1113) dL_law_1112 rfl ?_
  rw [nI_add]
  refine PW_sldn (pc' := 1114) dL_law_1113 rfl rfl hn (by omega) ?_
  refine PW_callV1r (pc' := 1117) dL_law_1114 rfl oX7_many lL_133 rfl rfl rfl (Nat.le_of_ble_eq_true rfl) (c_X7_many hM1) (fun M2 h2 => ?_)
  obtain ⟨hM2, hF2⟩ := h2
  exact PW_icmp_eq (tgt := 1122) (pc' := 1120) dL_law_1117 rfl rfl (fun _ => hgo M2 _ (hX1.frM hF2) hM2) (fun h => absurd rfl h)
set_option maxHeartbeats 4000000 in
theorem l_L_sw {Γ : pv_G} {d n i : Nat} {xs : Nat → Int32} {M : pv_M} {a : s_A} {Q : pv_Q} {x : Int32} (hn : n ≤ 3072) (hi : i + 6 ≤ n) (hX : AX M a) (hM : AM M a) (hgo : ∀ M' a', AX M' a' → AM M' a' → PW Γ (d + 13) (vLs n xs) 1122 [.ref 50, .ref 0, .ref 29, .int (nI i)] [] M' Q) : PW Γ (d + 13) (vLs n xs) 33 [.ref 50, .ref 0, .ref 29, .int (nI i)] [.int x] M Q := by
  by_cases e0 : x = 0
  · subst e0
    refine PW_tin (tgt := 160) dL_law_33 (by decide) (by decide) (by rfl) rfl ?_
    exact l_L_c0 hn hi hX hM hgo
  by_cases e1 : x = 1
  · subst e1
    refine PW_tin (tgt := 213) dL_law_33 (by decide) (by decide) (by rfl) rfl ?_
    exact l_L_c1 hn hi hX hM hgo
  by_cases e2 : x = 2
  · subst e2
    refine PW_tin (tgt := 246) dL_law_33 (by decide) (by decide) (by rfl) rfl ?_
    exact l_L_c2 hn hi hX hM hgo
  by_cases e3 : x = 3
  · subst e3
    refine PW_tin (tgt := 269) dL_law_33 (by decide) (by decide) (by rfl) rfl ?_
    exact l_L_c3 hn hi hX hM hgo
  by_cases e4 : x = 4
  · subst e4
    refine PW_tin (tgt := 292) dL_law_33 (by decide) (by decide) (by rfl) rfl ?_
    exact l_L_c4 hn hi hX hM hgo
  by_cases e5 : x = 5
  · subst e5
    refine PW_tin (tgt := 325) dL_law_33 (by decide) (by decide) (by rfl) rfl ?_
    exact l_L_c5 hn hi hX hM hgo
  by_cases e6 : x = 6
  · subst e6
    refine PW_tin (tgt := 378) dL_law_33 (by decide) (by decide) (by rfl) rfl ?_
    exact l_L_c6 hn hi hX hM hgo
  by_cases e7 : x = 7
  · subst e7
    refine PW_tin (tgt := 401) dL_law_33 (by decide) (by decide) (by rfl) rfl ?_
    exact l_L_c7 hn hi hX hM hgo
  by_cases e8 : x = 8
  · subst e8
    refine PW_tin (tgt := 424) dL_law_33 (by decide) (by decide) (by rfl) rfl ?_
    exact l_L_c8 hn hi hX hM hgo
  by_cases e9 : x = 9
  · subst e9
    refine PW_tin (tgt := 447) dL_law_33 (by decide) (by decide) (by rfl) rfl ?_
    exact l_L_c9 hn hi hX hM hgo
  by_cases e10 : x = 10
  · subst e10
    refine PW_tin (tgt := 470) dL_law_33 (by decide) (by decide) (by rfl) rfl ?_
    exact l_L_c10 hn hi hX hM hgo
  by_cases e11 : x = 11
  · subst e11
    refine PW_tin (tgt := 529) dL_law_33 (by decide) (by decide) (by rfl) rfl ?_
    exact l_L_c11 hn hi hX hM hgo
  by_cases e12 : x = 12
  · subst e12
    refine PW_tin (tgt := 552) dL_law_33 (by decide) (by decide) (by rfl) rfl ?_
    exact l_L_c12 hn hi hX hM hgo
  by_cases e13 : x = 13
  · subst e13
    refine PW_tin (tgt := 575) dL_law_33 (by decide) (by decide) (by rfl) rfl ?_
    exact l_L_c13 hn hi hX hM hgo
  by_cases e14 : x = 14
  · subst e14
    refine PW_tin (tgt := 598) dL_law_33 (by decide) (by decide) (by rfl) rfl ?_
    exact l_L_c14 hn hi hX hM hgo
  by_cases e15 : x = 15
  · subst e15
    refine PW_tin (tgt := 651) dL_law_33 (by decide) (by decide) (by rfl) rfl ?_
    exact l_L_c15 hn hi hX hM hgo
  by_cases e16 : x = 16
  · subst e16
    refine PW_tin (tgt := 714) dL_law_33 (by decide) (by decide) (by rfl) rfl ?_
    exact l_L_c16 hn hi hX hM hgo
  by_cases e17 : x = 17
  · subst e17
    refine PW_tin (tgt := 778) dL_law_33 (by decide) (by decide) (by rfl) rfl ?_
    exact l_L_c17 hn hi hX hM hgo
  by_cases e18 : x = 18
  · subst e18
    refine PW_tin (tgt := 821) dL_law_33 (by decide) (by decide) (by rfl) rfl ?_
    exact l_L_c18 hn hi hX hM hgo
  by_cases e19 : x = 19
  · subst e19
    refine PW_tin (tgt := 844) dL_law_33 (by decide) (by decide) (by rfl) rfl ?_
    exact l_L_c19 hn hi hX hM hgo
  by_cases e20 : x = 20
  · subst e20
    refine PW_tin (tgt := 887) dL_law_33 (by decide) (by decide) (by rfl) rfl ?_
    exact l_L_c20 hn hi hX hM hgo
  by_cases e21 : x = 21
  · subst e21
    refine PW_tin (tgt := 931) dL_law_33 (by decide) (by decide) (by rfl) rfl ?_
    exact l_L_c21 hn hi hX hM hgo
  by_cases e22 : x = 22
  · subst e22
    refine PW_tin (tgt := 994) dL_law_33 (by decide) (by decide) (by rfl) rfl ?_
    exact l_L_c22 hn hi hX hM hgo
  by_cases e23 : x = 23
  · subst e23
    refine PW_tin (tgt := 1017) dL_law_33 (by decide) (by decide) (by rfl) rfl ?_
    exact l_L_c23 hn hi hX hM hgo
  by_cases e24 : x = 24
  · subst e24
    refine PW_tin (tgt := 1040) dL_law_33 (by decide) (by decide) (by rfl) rfl ?_
    exact l_L_c24 hn hi hX hM hgo
  by_cases e25 : x = 25
  · subst e25
    refine PW_tin (tgt := 1073) dL_law_33 (by decide) (by decide) (by rfl) rfl ?_
    exact l_L_c25 hn hi hX hM hgo
  by_cases e26 : x = 26
  · subst e26
    refine PW_tin (tgt := 1086) dL_law_33 (by decide) (by decide) (by rfl) rfl ?_
    exact l_L_c26 hn hi hX hM hgo
  by_cases e27 : x = 27
  · subst e27
    refine PW_tin (tgt := 1099) dL_law_33 (by decide) (by decide) (by rfl) rfl ?_
    exact l_L_c27 hn hi hX hM hgo
  refine PW_tout (tgt := 1122) dL_law_33 (ts_out (n := 27) (by decide) (fun k hk => ?_)) rfl (hgo M a hX hM)
  match k, hk with
  | 0, _ => exact e0
  | 1, _ => exact e1
  | 2, _ => exact e2
  | 3, _ => exact e3
  | 4, _ => exact e4
  | 5, _ => exact e5
  | 6, _ => exact e6
  | 7, _ => exact e7
  | 8, _ => exact e8
  | 9, _ => exact e9
  | 10, _ => exact e10
  | 11, _ => exact e11
  | 12, _ => exact e12
  | 13, _ => exact e13
  | 14, _ => exact e14
  | 15, _ => exact e15
  | 16, _ => exact e16
  | 17, _ => exact e17
  | 18, _ => exact e18
  | 19, _ => exact e19
  | 20, _ => exact e20
  | 21, _ => exact e21
  | 22, _ => exact e22
  | 23, _ => exact e23
  | 24, _ => exact e24
  | 25, _ => exact e25
  | 26, _ => exact e26
  | 27, _ => exact e27
  | k + 28, hk => exact absurd hk (by omega)
set_option maxHeartbeats 4000000 in
theorem l_L_loop {Γ : pv_G} {d n : Nat} {xs : Nat → Int32} (hn : n ≤ 3072) : ∀ (m i : Nat) (M : pv_M) (a : s_A), i + m = 4000 → i ≤ n → AX M a → AM M a → PW Γ (d + 13) (vLs n xs) 18 [.ref 50, .ref 0, .ref 29, .int (nI i)] [] M (fun r _ => r = some (.int 1)) := by
  intro m
  induction m using Nat.strongRecOn with
  | ind m ih =>
    intro i M a him hin hX hM
    refine PW_iload3 (pc' := 19) dL_law_18 rfl ?_
    refine PW_aload0 (pc' := 20) dL_law_19 rfl ?_
    refine PW_slen (pc' := 21) dL_law_20 rfl rfl ?_
    refine PW_bipush (pc' := 23) dL_law_21 rfl (v := 6) (by first | rfl | decide) ?_
    refine PW_isub (pc' := 24) dL_law_23 rfl ?_
    refine PW_icmp_gt (tgt := 1128) (pc' := 27) dL_law_24 rfl rfl (fun h24 => ?_) (fun h24 => ?_)
    · refine PW_iconst (pc' := 1129) dL_law_1128 rfl (v := 1) (by first | rfl | decide) ?_
      exact PW_ireturn .boolean dL_law_1129 rfl rfl rfl
    · have hi : i + 6 ≤ n := Nat.not_lt.mp (fun z => h24 ((v_lt6 hn (by omega)).mpr z))
      refine PW_aload0 (pc' := 28) dL_law_27 rfl ?_
      refine PW_iload3 (pc' := 29) dL_law_28 rfl ?_
      refine PW_sldn (pc' := 30) dL_law_29 rfl rfl hn (by omega) ?_
      refine PW_bipush (pc' := 32) dL_law_30 rfl (v := 31) (by first | rfl | decide) ?_
      refine PW_iand (pc' := 33) dL_law_32 rfl ?_
      refine l_L_sw hn hi hX hM (fun M' a' hX' hM' => ?_)
      refine PW_iinc3 (v := nI (i + 6)) (pc' := 1125) dL_law_1122 rfl rfl rfl (by rw [show Int32.ofInt 6 = nI 6 from by decide, nI_add]) ?_
      refine PW_goto (tgt := 18) dL_law_1125 rfl ?_
      exact ih (m - 6) (by omega) (i + 6) M' a' (by omega) (by omega) hX' hM'
