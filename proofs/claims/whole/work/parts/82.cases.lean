/-! the law, call by call -/
set_option maxRecDepth 100000 in
set_option maxHeartbeats 4000000 in
theorem law_c0 {l : Launch} {Γ : JG} {Ω : JO} {ad : Nat → Nat} {b Ln : Nat} {xs : Nat → Int32} {E : Nat → va_E} {i : Int} {s : KS} (X : JX Γ Ω RL cL_law 4 12 600000 7302250 422) (hX : va_X b Ln xs Ω.2.2.2.1 Ω.2.2.2.1.heap) (hbl : b < Ω.2.2.2.1.heap.size) (hbA : ¬ jA Γ b) (hL : Ln ≤ 2560) (hi : 0 ≤ i ∧ i + 5 ≤ (Ln : Int)) (hK : KI Γ ad E s) (hM : MI Γ ad E s) (kk : ∀ (E' : Nat → va_E) (s' : KS), KI Γ ad E' s' → MI Γ ad E' s' → J l Γ Ω 4 ad 95 95 5922 E' 1018 [some (.ref b), some (.ref (ad 0)), some (.ref (ad 78)), some (.int (jI i))] []) : J l Γ Ω 4 ad 95 95 5922 E 168 [some (.ref b), some (.ref (ad 0)), some (.ref (ad 78)), some (.int (jI i))] [] := by
  obtain ⟨fs0, h0⟩ := KI_0 hK
  have hV := hK.2
  refine J_aload_n (q := 169) X dL_law_168 rfl rfl ?_
  refine J_aload_n (q := 170) X dL_law_169 rfl rfl ?_
  refine J_iload_n (q := 171) X dL_law_170 rfl rfl ?_
  refine J_iconst (q := 172) X dL_law_171 rfl ?_
  refine J_iadd (q := 173) X dL_law_172 rfl ?_
  refine J_sld (q := 174) X hX hbl hbA dL_law_173 (by omega) (by omega) rfl ?_
  refine J_callI (q := 177) (jrV X mL_13 dL_law_174 (c_X9_feed hK (jI_bd _)) h0 (by decide) rfl rfl rfl rfl (Nat.le_of_ble_eq_true rfl) ⟨Nat.le_of_ble_eq_true rfl, Nat.le_of_ble_eq_true rfl, Nat.le_of_ble_eq_true rfl, Nat.le_of_ble_eq_true rfl⟩) rfl (fun z1 E1 hp1 => ?_)
  obtain ⟨rfl, hK1, hf1⟩ := hp1
  have hM1 := MI_fr hM hf1
  obtain ⟨fs1, h78⟩ := MI_78 hM1
  refine J_aload_n (q := 178) X dL_law_177 rfl rfl ?_
  refine J_aload_n (q := 179) X dL_law_178 rfl rfl ?_
  refine J_iload_n (q := 180) X dL_law_179 rfl rfl ?_
  refine J_iconst (q := 181) X dL_law_180 rfl ?_
  refine J_iadd (q := 182) X dL_law_181 rfl ?_
  refine J_sld (q := 183) X hX hbl hbA dL_law_182 (by omega) (by omega) rfl ?_
  refine J_callI (q := 186) (jrV X mL_17 dL_law_183 (c_X10_feed hM1 hV (jI_bd _)) h78 (by decide) rfl rfl rfl rfl (Nat.le_of_ble_eq_true rfl) ⟨Nat.le_of_ble_eq_true rfl, Nat.le_of_ble_eq_true rfl, Nat.le_of_ble_eq_true rfl, Nat.le_of_ble_eq_true rfl⟩) rfl (fun z2 E2 hp2 => ?_)
  obtain ⟨rfl, hM2, hf2⟩ := hp2
  refine J_icmp_same (tgt := 1018) X dL_law_186 (by decide) ?_
  exact kk E2 _ (KI_fr hK1 hf2) hM2

set_option maxRecDepth 100000 in
set_option maxHeartbeats 4000000 in
theorem law_c1 {l : Launch} {Γ : JG} {Ω : JO} {ad : Nat → Nat} {b Ln : Nat} {xs : Nat → Int32} {E : Nat → va_E} {i : Int} {s : KS} (X : JX Γ Ω RL cL_law 4 12 600000 7302250 422) (hX : va_X b Ln xs Ω.2.2.2.1 Ω.2.2.2.1.heap) (hbl : b < Ω.2.2.2.1.heap.size) (hbA : ¬ jA Γ b) (hL : Ln ≤ 2560) (hi : 0 ≤ i ∧ i + 5 ≤ (Ln : Int)) (hK : KI Γ ad E s) (hM : MI Γ ad E s) (kk : ∀ (E' : Nat → va_E) (s' : KS), KI Γ ad E' s' → MI Γ ad E' s' → J l Γ Ω 4 ad 95 95 5922 E' 1018 [some (.ref b), some (.ref (ad 0)), some (.ref (ad 78)), some (.int (jI i))] []) : J l Γ Ω 4 ad 95 95 5922 E 191 [some (.ref b), some (.ref (ad 0)), some (.ref (ad 78)), some (.int (jI i))] [] := by
  obtain ⟨fs0, h0⟩ := KI_0 hK
  have hV := hK.2
  refine J_aload_n (q := 192) X dL_law_191 rfl rfl ?_
  refine J_aload_n (q := 193) X dL_law_192 rfl rfl ?_
  refine J_iload_n (q := 194) X dL_law_193 rfl rfl ?_
  refine J_iconst (q := 195) X dL_law_194 rfl ?_
  refine J_iadd (q := 196) X dL_law_195 rfl ?_
  refine J_sld (q := 197) X hX hbl hbA dL_law_196 (by omega) (by omega) rfl ?_
  refine J_callI (q := 200) (jrV X mL_18 dL_law_197 (c_X9_end hK (jI_bd _)) h0 (by decide) rfl rfl rfl rfl (Nat.le_of_ble_eq_true rfl) ⟨Nat.le_of_ble_eq_true rfl, Nat.le_of_ble_eq_true rfl, Nat.le_of_ble_eq_true rfl, Nat.le_of_ble_eq_true rfl⟩) rfl (fun z1 E1 hp1 => ?_)
  obtain ⟨rfl, hK1, hf1⟩ := hp1
  have hM1 := MI_fr hM hf1
  obtain ⟨fs1, h78⟩ := MI_78 hM1
  refine J_aload_n (q := 201) X dL_law_200 rfl rfl ?_
  refine J_aload_n (q := 202) X dL_law_201 rfl rfl ?_
  refine J_iload_n (q := 203) X dL_law_202 rfl rfl ?_
  refine J_iconst (q := 204) X dL_law_203 rfl ?_
  refine J_iadd (q := 205) X dL_law_204 rfl ?_
  refine J_sld (q := 206) X hX hbl hbA dL_law_205 (by omega) (by omega) rfl ?_
  refine J_callI (q := 209) (jrV X mL_21 dL_law_206 (c_X10_end hM1 hV (jI_bd _)) h78 (by decide) rfl rfl rfl rfl (Nat.le_of_ble_eq_true rfl) ⟨Nat.le_of_ble_eq_true rfl, Nat.le_of_ble_eq_true rfl, Nat.le_of_ble_eq_true rfl, Nat.le_of_ble_eq_true rfl⟩) rfl (fun z2 E2 hp2 => ?_)
  obtain ⟨rfl, hM2, hf2⟩ := hp2
  refine J_icmp_same (tgt := 1018) X dL_law_209 (by decide) ?_
  exact kk E2 _ (KI_fr hK1 hf2) hM2

set_option maxRecDepth 100000 in
set_option maxHeartbeats 4000000 in
theorem law_c2 {l : Launch} {Γ : JG} {Ω : JO} {ad : Nat → Nat} {b Ln : Nat} {xs : Nat → Int32} {E : Nat → va_E} {i : Int} {s : KS} (X : JX Γ Ω RL cL_law 4 12 600000 7302250 422) (hX : va_X b Ln xs Ω.2.2.2.1 Ω.2.2.2.1.heap) (hbl : b < Ω.2.2.2.1.heap.size) (hbA : ¬ jA Γ b) (hL : Ln ≤ 2560) (hi : 0 ≤ i ∧ i + 5 ≤ (Ln : Int)) (hK : KI Γ ad E s) (hM : MI Γ ad E s) (kk : ∀ (E' : Nat → va_E) (s' : KS), KI Γ ad E' s' → MI Γ ad E' s' → J l Γ Ω 4 ad 95 95 5922 E' 1018 [some (.ref b), some (.ref (ad 0)), some (.ref (ad 78)), some (.int (jI i))] []) : J l Γ Ω 4 ad 95 95 5922 E 214 [some (.ref b), some (.ref (ad 0)), some (.ref (ad 78)), some (.int (jI i))] [] := by
  obtain ⟨fs0, h0⟩ := KI_0 hK
  have hV := hK.2
  refine J_aload_n (q := 215) X dL_law_214 rfl rfl ?_
  refine J_callI (q := 218) (jrV X mL_22 dL_law_215 (c_X9_text hK) h0 (by decide) rfl rfl rfl rfl (Nat.le_of_ble_eq_true rfl) ⟨Nat.le_of_ble_eq_true rfl, Nat.le_of_ble_eq_true rfl, Nat.le_of_ble_eq_true rfl, Nat.le_of_ble_eq_true rfl⟩) rfl (fun z1 E1 hp1 => ?_)
  obtain ⟨rfl, hK1, hf1⟩ := hp1
  have hM1 := MI_fr hM hf1
  obtain ⟨fs1, h78⟩ := MI_78 hM1
  refine J_aload_n (q := 219) X dL_law_218 rfl rfl ?_
  refine J_callI (q := 222) (jrV X mL_26 dL_law_219 (c_X10_text hM1 hV) h78 (by decide) rfl rfl rfl rfl (Nat.le_of_ble_eq_true rfl) ⟨Nat.le_of_ble_eq_true rfl, Nat.le_of_ble_eq_true rfl, Nat.le_of_ble_eq_true rfl, Nat.le_of_ble_eq_true rfl⟩) rfl (fun z2 E2 hp2 => ?_)
  obtain ⟨rfl, hM2, hf2⟩ := hp2
  refine J_icmp_same (tgt := 1018) X dL_law_222 (by decide) ?_
  exact kk E2 _ (KI_fr hK1 hf2) hM2

set_option maxRecDepth 100000 in
set_option maxHeartbeats 4000000 in
theorem law_c3 {l : Launch} {Γ : JG} {Ω : JO} {ad : Nat → Nat} {b Ln : Nat} {xs : Nat → Int32} {E : Nat → va_E} {i : Int} {s : KS} (X : JX Γ Ω RL cL_law 4 12 600000 7302250 422) (hX : va_X b Ln xs Ω.2.2.2.1 Ω.2.2.2.1.heap) (hbl : b < Ω.2.2.2.1.heap.size) (hbA : ¬ jA Γ b) (hL : Ln ≤ 2560) (hi : 0 ≤ i ∧ i + 5 ≤ (Ln : Int)) (hK : KI Γ ad E s) (hM : MI Γ ad E s) (kk : ∀ (E' : Nat → va_E) (s' : KS), KI Γ ad E' s' → MI Γ ad E' s' → J l Γ Ω 4 ad 95 95 5922 E' 1018 [some (.ref b), some (.ref (ad 0)), some (.ref (ad 78)), some (.int (jI i))] []) : J l Γ Ω 4 ad 95 95 5922 E 227 [some (.ref b), some (.ref (ad 0)), some (.ref (ad 78)), some (.int (jI i))] [] := by
  obtain ⟨fs0, h0⟩ := KI_0 hK
  have hV := hK.2
  refine J_aload_n (q := 228) X dL_law_227 rfl rfl ?_
  refine J_callP (q := 231) (jrV X mL_27 dL_law_228 (c_X9_fault hK) h0 (by decide) rfl rfl rfl rfl (Nat.le_of_ble_eq_true rfl) ⟨Nat.le_of_ble_eq_true rfl, Nat.le_of_ble_eq_true rfl, Nat.le_of_ble_eq_true rfl, Nat.le_of_ble_eq_true rfl⟩) rfl ?_
  obtain ⟨fs1, h78⟩ := MI_78 hM
  refine J_aload_n (q := 232) X dL_law_231 rfl rfl ?_
  refine J_callI (q := 235) (jrV X mL_30 dL_law_232 (c_X10_fault hM hV) h78 (by decide) rfl rfl rfl rfl (Nat.le_of_ble_eq_true rfl) ⟨Nat.le_of_ble_eq_true rfl, Nat.le_of_ble_eq_true rfl, Nat.le_of_ble_eq_true rfl, Nat.le_of_ble_eq_true rfl⟩) rfl (fun z2 E2 hp2 => ?_)
  obtain ⟨rfl, hM2, hf2⟩ := hp2
  refine J_icmp_same (tgt := 1018) X dL_law_235 (by decide) ?_
  exact kk E2 _ (KI_fr hK hf2) hM2

set_option maxRecDepth 100000 in
set_option maxHeartbeats 4000000 in
theorem law_c4 {l : Launch} {Γ : JG} {Ω : JO} {ad : Nat → Nat} {b Ln : Nat} {xs : Nat → Int32} {E : Nat → va_E} {i : Int} {s : KS} (X : JX Γ Ω RL cL_law 4 12 600000 7302250 422) (hX : va_X b Ln xs Ω.2.2.2.1 Ω.2.2.2.1.heap) (hbl : b < Ω.2.2.2.1.heap.size) (hbA : ¬ jA Γ b) (hL : Ln ≤ 2560) (hi : 0 ≤ i ∧ i + 5 ≤ (Ln : Int)) (hK : KI Γ ad E s) (hM : MI Γ ad E s) (kk : ∀ (E' : Nat → va_E) (s' : KS), KI Γ ad E' s' → MI Γ ad E' s' → J l Γ Ω 4 ad 95 95 5922 E' 1018 [some (.ref b), some (.ref (ad 0)), some (.ref (ad 78)), some (.int (jI i))] []) : J l Γ Ω 4 ad 95 95 5922 E 240 [some (.ref b), some (.ref (ad 0)), some (.ref (ad 78)), some (.int (jI i))] [] := by
  obtain ⟨fs0, h0⟩ := KI_0 hK
  have hV := hK.2
  refine J_aload_n (q := 241) X dL_law_240 rfl rfl ?_
  refine J_aload_n (q := 242) X dL_law_241 rfl rfl ?_
  refine J_iload_n (q := 243) X dL_law_242 rfl rfl ?_
  refine J_iconst (q := 244) X dL_law_243 rfl ?_
  refine J_iadd (q := 245) X dL_law_244 rfl ?_
  refine J_sld (q := 246) X hX hbl hbA dL_law_245 (by omega) (by omega) rfl ?_
  refine J_callP (q := 249) (jrV X mL_31 dL_law_246 (c_X9_reason hK (jI_bd _)) h0 (by decide) rfl rfl rfl rfl (Nat.le_of_ble_eq_true rfl) ⟨Nat.le_of_ble_eq_true rfl, Nat.le_of_ble_eq_true rfl, Nat.le_of_ble_eq_true rfl, Nat.le_of_ble_eq_true rfl⟩) rfl ?_
  obtain ⟨fs1, h78⟩ := MI_78 hM
  refine J_aload_n (q := 250) X dL_law_249 rfl rfl ?_
  refine J_aload_n (q := 251) X dL_law_250 rfl rfl ?_
  refine J_iload_n (q := 252) X dL_law_251 rfl rfl ?_
  refine J_iconst (q := 253) X dL_law_252 rfl ?_
  refine J_iadd (q := 254) X dL_law_253 rfl ?_
  refine J_sld (q := 255) X hX hbl hbA dL_law_254 (by omega) (by omega) rfl ?_
  refine J_callI (q := 258) (jrV X mL_34 dL_law_255 (c_X10_reason hM hV (jI_bd _)) h78 (by decide) rfl rfl rfl rfl (Nat.le_of_ble_eq_true rfl) ⟨Nat.le_of_ble_eq_true rfl, Nat.le_of_ble_eq_true rfl, Nat.le_of_ble_eq_true rfl, Nat.le_of_ble_eq_true rfl⟩) rfl (fun z2 E2 hp2 => ?_)
  obtain ⟨rfl, hM2, hf2⟩ := hp2
  refine J_icmp_same (tgt := 1018) X dL_law_258 (by decide) ?_
  exact kk E2 _ (KI_fr hK hf2) hM2

set_option maxRecDepth 100000 in
set_option maxHeartbeats 4000000 in
theorem law_c5 {l : Launch} {Γ : JG} {Ω : JO} {ad : Nat → Nat} {b Ln : Nat} {xs : Nat → Int32} {E : Nat → va_E} {i : Int} {s : KS} (X : JX Γ Ω RL cL_law 4 12 600000 7302250 422) (hX : va_X b Ln xs Ω.2.2.2.1 Ω.2.2.2.1.heap) (hbl : b < Ω.2.2.2.1.heap.size) (hbA : ¬ jA Γ b) (hL : Ln ≤ 2560) (hi : 0 ≤ i ∧ i + 5 ≤ (Ln : Int)) (hK : KI Γ ad E s) (hM : MI Γ ad E s) (kk : ∀ (E' : Nat → va_E) (s' : KS), KI Γ ad E' s' → MI Γ ad E' s' → J l Γ Ω 4 ad 95 95 5922 E' 1018 [some (.ref b), some (.ref (ad 0)), some (.ref (ad 78)), some (.int (jI i))] []) : J l Γ Ω 4 ad 95 95 5922 E 263 [some (.ref b), some (.ref (ad 0)), some (.ref (ad 78)), some (.int (jI i))] [] := by
  obtain ⟨fs0, h0⟩ := KI_0 hK
  have hV := hK.2
  refine J_aload_n (q := 264) X dL_law_263 rfl rfl ?_
  refine J_aload_n (q := 265) X dL_law_264 rfl rfl ?_
  refine J_iload_n (q := 266) X dL_law_265 rfl rfl ?_
  refine J_iconst (q := 267) X dL_law_266 rfl ?_
  refine J_iadd (q := 268) X dL_law_267 rfl ?_
  refine J_sld (q := 269) X hX hbl hbA dL_law_268 (by omega) (by omega) rfl ?_
  refine J_callP (q := 272) (jrV X mL_35 dL_law_269 (c_X9_rule hK (jI_bd _)) h0 (by decide) rfl rfl rfl rfl (Nat.le_of_ble_eq_true rfl) ⟨Nat.le_of_ble_eq_true rfl, Nat.le_of_ble_eq_true rfl, Nat.le_of_ble_eq_true rfl, Nat.le_of_ble_eq_true rfl⟩) rfl ?_
  obtain ⟨fs1, h78⟩ := MI_78 hM
  refine J_aload_n (q := 273) X dL_law_272 rfl rfl ?_
  refine J_aload_n (q := 274) X dL_law_273 rfl rfl ?_
  refine J_iload_n (q := 275) X dL_law_274 rfl rfl ?_
  refine J_iconst (q := 276) X dL_law_275 rfl ?_
  refine J_iadd (q := 277) X dL_law_276 rfl ?_
  refine J_sld (q := 278) X hX hbl hbA dL_law_277 (by omega) (by omega) rfl ?_
  refine J_callI (q := 281) (jrV X mL_38 dL_law_278 (c_X10_rule hM hV (jI_bd _)) h78 (by decide) rfl rfl rfl rfl (Nat.le_of_ble_eq_true rfl) ⟨Nat.le_of_ble_eq_true rfl, Nat.le_of_ble_eq_true rfl, Nat.le_of_ble_eq_true rfl, Nat.le_of_ble_eq_true rfl⟩) rfl (fun z2 E2 hp2 => ?_)
  obtain ⟨rfl, hM2, hf2⟩ := hp2
  refine J_icmp_same (tgt := 1018) X dL_law_281 (by decide) ?_
  exact kk E2 _ (KI_fr hK hf2) hM2

set_option maxRecDepth 100000 in
set_option maxHeartbeats 4000000 in
theorem law_c6 {l : Launch} {Γ : JG} {Ω : JO} {ad : Nat → Nat} {b Ln : Nat} {xs : Nat → Int32} {E : Nat → va_E} {i : Int} {s : KS} (X : JX Γ Ω RL cL_law 4 12 600000 7302250 422) (hX : va_X b Ln xs Ω.2.2.2.1 Ω.2.2.2.1.heap) (hbl : b < Ω.2.2.2.1.heap.size) (hbA : ¬ jA Γ b) (hL : Ln ≤ 2560) (hi : 0 ≤ i ∧ i + 5 ≤ (Ln : Int)) (hK : KI Γ ad E s) (hM : MI Γ ad E s) (kk : ∀ (E' : Nat → va_E) (s' : KS), KI Γ ad E' s' → MI Γ ad E' s' → J l Γ Ω 4 ad 95 95 5922 E' 1018 [some (.ref b), some (.ref (ad 0)), some (.ref (ad 78)), some (.int (jI i))] []) : J l Γ Ω 4 ad 95 95 5922 E 286 [some (.ref b), some (.ref (ad 0)), some (.ref (ad 78)), some (.int (jI i))] [] := by
  obtain ⟨fs0, h0⟩ := KI_0 hK
  have hV := hK.2
  refine J_aload_n (q := 287) X dL_law_286 rfl rfl ?_
  refine J_aload_n (q := 288) X dL_law_287 rfl rfl ?_
  refine J_iload_n (q := 289) X dL_law_288 rfl rfl ?_
  refine J_iconst (q := 290) X dL_law_289 rfl ?_
  refine J_iadd (q := 291) X dL_law_290 rfl ?_
  refine J_sld (q := 292) X hX hbl hbA dL_law_291 (by omega) (by omega) rfl ?_
  refine J_aload_n (q := 293) X dL_law_292 rfl rfl ?_
  refine J_iload_n (q := 294) X dL_law_293 rfl rfl ?_
  refine J_iconst (q := 295) X dL_law_294 rfl ?_
  refine J_iadd (q := 296) X dL_law_295 rfl ?_
  refine J_sld (q := 297) X hX hbl hbA dL_law_296 (by omega) (by omega) rfl ?_
  refine J_callP (q := 300) (jrV X mL_39 dL_law_297 (c_X9_sign hK (jI_bd _) (jI_bd _)) h0 (by decide) rfl rfl rfl rfl (Nat.le_of_ble_eq_true rfl) ⟨Nat.le_of_ble_eq_true rfl, Nat.le_of_ble_eq_true rfl, Nat.le_of_ble_eq_true rfl, Nat.le_of_ble_eq_true rfl⟩) rfl ?_
  obtain ⟨fs1, h78⟩ := MI_78 hM
  refine J_aload_n (q := 301) X dL_law_300 rfl rfl ?_
  refine J_aload_n (q := 302) X dL_law_301 rfl rfl ?_
  refine J_iload_n (q := 303) X dL_law_302 rfl rfl ?_
  refine J_iconst (q := 304) X dL_law_303 rfl ?_
  refine J_iadd (q := 305) X dL_law_304 rfl ?_
  refine J_sld (q := 306) X hX hbl hbA dL_law_305 (by omega) (by omega) rfl ?_
  refine J_aload_n (q := 307) X dL_law_306 rfl rfl ?_
  refine J_iload_n (q := 308) X dL_law_307 rfl rfl ?_
  refine J_iconst (q := 309) X dL_law_308 rfl ?_
  refine J_iadd (q := 310) X dL_law_309 rfl ?_
  refine J_sld (q := 311) X hX hbl hbA dL_law_310 (by omega) (by omega) rfl ?_
  refine J_callI (q := 314) (jrV X mL_43 dL_law_311 (c_X10_sign hM hV (jI_bd _) (jI_bd _)) h78 (by decide) rfl rfl rfl rfl (Nat.le_of_ble_eq_true rfl) ⟨Nat.le_of_ble_eq_true rfl, Nat.le_of_ble_eq_true rfl, Nat.le_of_ble_eq_true rfl, Nat.le_of_ble_eq_true rfl⟩) rfl (fun z2 E2 hp2 => ?_)
  obtain ⟨rfl, hM2, hf2⟩ := hp2
  refine J_icmp_same (tgt := 1018) X dL_law_314 (by decide) ?_
  exact kk E2 _ (KI_fr hK hf2) hM2

set_option maxRecDepth 100000 in
set_option maxHeartbeats 4000000 in
theorem law_c7 {l : Launch} {Γ : JG} {Ω : JO} {ad : Nat → Nat} {b Ln : Nat} {xs : Nat → Int32} {E : Nat → va_E} {i : Int} {s : KS} (X : JX Γ Ω RL cL_law 4 12 600000 7302250 422) (hX : va_X b Ln xs Ω.2.2.2.1 Ω.2.2.2.1.heap) (hbl : b < Ω.2.2.2.1.heap.size) (hbA : ¬ jA Γ b) (hL : Ln ≤ 2560) (hi : 0 ≤ i ∧ i + 5 ≤ (Ln : Int)) (hK : KI Γ ad E s) (hM : MI Γ ad E s) (kk : ∀ (E' : Nat → va_E) (s' : KS), KI Γ ad E' s' → MI Γ ad E' s' → J l Γ Ω 4 ad 95 95 5922 E' 1018 [some (.ref b), some (.ref (ad 0)), some (.ref (ad 78)), some (.int (jI i))] []) : J l Γ Ω 4 ad 95 95 5922 E 319 [some (.ref b), some (.ref (ad 0)), some (.ref (ad 78)), some (.int (jI i))] [] := by
  obtain ⟨fs0, h0⟩ := KI_0 hK
  have hV := hK.2
  refine J_aload_n (q := 320) X dL_law_319 rfl rfl ?_
  refine J_aload_n (q := 321) X dL_law_320 rfl rfl ?_
  refine J_iload_n (q := 322) X dL_law_321 rfl rfl ?_
  refine J_iconst (q := 323) X dL_law_322 rfl ?_
  refine J_iadd (q := 324) X dL_law_323 rfl ?_
  refine J_sld (q := 325) X hX hbl hbA dL_law_324 (by omega) (by omega) rfl ?_
  refine J_aload_n (q := 326) X dL_law_325 rfl rfl ?_
  refine J_iload_n (q := 327) X dL_law_326 rfl rfl ?_
  refine J_iconst (q := 328) X dL_law_327 rfl ?_
  refine J_iadd (q := 329) X dL_law_328 rfl ?_
  refine J_sld (q := 330) X hX hbl hbA dL_law_329 (by omega) (by omega) rfl ?_
  refine J_callP (q := 333) (jrV X mL_44 dL_law_330 (c_X9_low hK (jI_bd _) (jI_bd _)) h0 (by decide) rfl rfl rfl rfl (Nat.le_of_ble_eq_true rfl) ⟨Nat.le_of_ble_eq_true rfl, Nat.le_of_ble_eq_true rfl, Nat.le_of_ble_eq_true rfl, Nat.le_of_ble_eq_true rfl⟩) rfl ?_
  obtain ⟨fs1, h78⟩ := MI_78 hM
  refine J_aload_n (q := 334) X dL_law_333 rfl rfl ?_
  refine J_aload_n (q := 335) X dL_law_334 rfl rfl ?_
  refine J_iload_n (q := 336) X dL_law_335 rfl rfl ?_
  refine J_iconst (q := 337) X dL_law_336 rfl ?_
  refine J_iadd (q := 338) X dL_law_337 rfl ?_
  refine J_sld (q := 339) X hX hbl hbA dL_law_338 (by omega) (by omega) rfl ?_
  refine J_aload_n (q := 340) X dL_law_339 rfl rfl ?_
  refine J_iload_n (q := 341) X dL_law_340 rfl rfl ?_
  refine J_iconst (q := 342) X dL_law_341 rfl ?_
  refine J_iadd (q := 343) X dL_law_342 rfl ?_
  refine J_sld (q := 344) X hX hbl hbA dL_law_343 (by omega) (by omega) rfl ?_
  refine J_callI (q := 347) (jrV X mL_47 dL_law_344 (c_X10_low hM hV (jI_bd _) (jI_bd _)) h78 (by decide) rfl rfl rfl rfl (Nat.le_of_ble_eq_true rfl) ⟨Nat.le_of_ble_eq_true rfl, Nat.le_of_ble_eq_true rfl, Nat.le_of_ble_eq_true rfl, Nat.le_of_ble_eq_true rfl⟩) rfl (fun z2 E2 hp2 => ?_)
  obtain ⟨rfl, hM2, hf2⟩ := hp2
  refine J_icmp_same (tgt := 1018) X dL_law_347 (by decide) ?_
  exact kk E2 _ (KI_fr hK hf2) hM2

set_option maxRecDepth 100000 in
set_option maxHeartbeats 4000000 in
theorem law_c8 {l : Launch} {Γ : JG} {Ω : JO} {ad : Nat → Nat} {b Ln : Nat} {xs : Nat → Int32} {E : Nat → va_E} {i : Int} {s : KS} (X : JX Γ Ω RL cL_law 4 12 600000 7302250 422) (hX : va_X b Ln xs Ω.2.2.2.1 Ω.2.2.2.1.heap) (hbl : b < Ω.2.2.2.1.heap.size) (hbA : ¬ jA Γ b) (hL : Ln ≤ 2560) (hi : 0 ≤ i ∧ i + 5 ≤ (Ln : Int)) (hK : KI Γ ad E s) (hM : MI Γ ad E s) (kk : ∀ (E' : Nat → va_E) (s' : KS), KI Γ ad E' s' → MI Γ ad E' s' → J l Γ Ω 4 ad 95 95 5922 E' 1018 [some (.ref b), some (.ref (ad 0)), some (.ref (ad 78)), some (.int (jI i))] []) : J l Γ Ω 4 ad 95 95 5922 E 352 [some (.ref b), some (.ref (ad 0)), some (.ref (ad 78)), some (.int (jI i))] [] := by
  obtain ⟨fs0, h0⟩ := KI_0 hK
  have hV := hK.2
  refine J_aload_n (q := 353) X dL_law_352 rfl rfl ?_
  refine J_aload_n (q := 354) X dL_law_353 rfl rfl ?_
  refine J_iload_n (q := 355) X dL_law_354 rfl rfl ?_
  refine J_iconst (q := 356) X dL_law_355 rfl ?_
  refine J_iadd (q := 357) X dL_law_356 rfl ?_
  refine J_sld (q := 358) X hX hbl hbA dL_law_357 (by omega) (by omega) rfl ?_
  refine J_aload_n (q := 359) X dL_law_358 rfl rfl ?_
  refine J_iload_n (q := 360) X dL_law_359 rfl rfl ?_
  refine J_iconst (q := 361) X dL_law_360 rfl ?_
  refine J_iadd (q := 362) X dL_law_361 rfl ?_
  refine J_sld (q := 363) X hX hbl hbA dL_law_362 (by omega) (by omega) rfl ?_
  refine J_callP (q := 366) (jrV X mL_48 dL_law_363 (c_X9_around hK (jI_bd _) (jI_bd _)) h0 (by decide) rfl rfl rfl rfl (Nat.le_of_ble_eq_true rfl) ⟨Nat.le_of_ble_eq_true rfl, Nat.le_of_ble_eq_true rfl, Nat.le_of_ble_eq_true rfl, Nat.le_of_ble_eq_true rfl⟩) rfl ?_
  obtain ⟨fs1, h78⟩ := MI_78 hM
  refine J_aload_n (q := 367) X dL_law_366 rfl rfl ?_
  refine J_aload_n (q := 368) X dL_law_367 rfl rfl ?_
  refine J_iload_n (q := 369) X dL_law_368 rfl rfl ?_
  refine J_iconst (q := 370) X dL_law_369 rfl ?_
  refine J_iadd (q := 371) X dL_law_370 rfl ?_
  refine J_sld (q := 372) X hX hbl hbA dL_law_371 (by omega) (by omega) rfl ?_
  refine J_aload_n (q := 373) X dL_law_372 rfl rfl ?_
  refine J_iload_n (q := 374) X dL_law_373 rfl rfl ?_
  refine J_iconst (q := 375) X dL_law_374 rfl ?_
  refine J_iadd (q := 376) X dL_law_375 rfl ?_
  refine J_sld (q := 377) X hX hbl hbA dL_law_376 (by omega) (by omega) rfl ?_
  refine J_callI (q := 380) (jrV X mL_51 dL_law_377 (c_X10_around hM hV (jI_bd _) (jI_bd _)) h78 (by decide) rfl rfl rfl rfl (Nat.le_of_ble_eq_true rfl) ⟨Nat.le_of_ble_eq_true rfl, Nat.le_of_ble_eq_true rfl, Nat.le_of_ble_eq_true rfl, Nat.le_of_ble_eq_true rfl⟩) rfl (fun z2 E2 hp2 => ?_)
  obtain ⟨rfl, hM2, hf2⟩ := hp2
  refine J_icmp_same (tgt := 1018) X dL_law_380 (by decide) ?_
  exact kk E2 _ (KI_fr hK hf2) hM2

set_option maxRecDepth 100000 in
set_option maxHeartbeats 4000000 in
theorem law_c9 {l : Launch} {Γ : JG} {Ω : JO} {ad : Nat → Nat} {b Ln : Nat} {xs : Nat → Int32} {E : Nat → va_E} {i : Int} {s : KS} (X : JX Γ Ω RL cL_law 4 12 600000 7302250 422) (hX : va_X b Ln xs Ω.2.2.2.1 Ω.2.2.2.1.heap) (hbl : b < Ω.2.2.2.1.heap.size) (hbA : ¬ jA Γ b) (hL : Ln ≤ 2560) (hi : 0 ≤ i ∧ i + 5 ≤ (Ln : Int)) (hK : KI Γ ad E s) (hM : MI Γ ad E s) (kk : ∀ (E' : Nat → va_E) (s' : KS), KI Γ ad E' s' → MI Γ ad E' s' → J l Γ Ω 4 ad 95 95 5922 E' 1018 [some (.ref b), some (.ref (ad 0)), some (.ref (ad 78)), some (.int (jI i))] []) : J l Γ Ω 4 ad 95 95 5922 E 385 [some (.ref b), some (.ref (ad 0)), some (.ref (ad 78)), some (.int (jI i))] [] := by
  obtain ⟨fs0, h0⟩ := KI_0 hK
  have hV := hK.2
  refine J_aload_n (q := 386) X dL_law_385 rfl rfl ?_
  refine J_aload_n (q := 387) X dL_law_386 rfl rfl ?_
  refine J_iload_n (q := 388) X dL_law_387 rfl rfl ?_
  refine J_iconst (q := 389) X dL_law_388 rfl ?_
  refine J_iadd (q := 390) X dL_law_389 rfl ?_
  refine J_sld (q := 391) X hX hbl hbA dL_law_390 (by omega) (by omega) rfl ?_
  refine J_callP (q := 394) (jrV X mL_52 dL_law_391 (c_X9_whole hK (jI_bd _)) h0 (by decide) rfl rfl rfl rfl (Nat.le_of_ble_eq_true rfl) ⟨Nat.le_of_ble_eq_true rfl, Nat.le_of_ble_eq_true rfl, Nat.le_of_ble_eq_true rfl, Nat.le_of_ble_eq_true rfl⟩) rfl ?_
  obtain ⟨fs1, h78⟩ := MI_78 hM
  refine J_aload_n (q := 395) X dL_law_394 rfl rfl ?_
  refine J_aload_n (q := 396) X dL_law_395 rfl rfl ?_
  refine J_iload_n (q := 397) X dL_law_396 rfl rfl ?_
  refine J_iconst (q := 398) X dL_law_397 rfl ?_
  refine J_iadd (q := 399) X dL_law_398 rfl ?_
  refine J_sld (q := 400) X hX hbl hbA dL_law_399 (by omega) (by omega) rfl ?_
  refine J_callI (q := 403) (jrV X mL_55 dL_law_400 (c_X10_whole hM hV (jI_bd _)) h78 (by decide) rfl rfl rfl rfl (Nat.le_of_ble_eq_true rfl) ⟨Nat.le_of_ble_eq_true rfl, Nat.le_of_ble_eq_true rfl, Nat.le_of_ble_eq_true rfl, Nat.le_of_ble_eq_true rfl⟩) rfl (fun z2 E2 hp2 => ?_)
  obtain ⟨rfl, hM2, hf2⟩ := hp2
  refine J_icmp_same (tgt := 1018) X dL_law_403 (by decide) ?_
  exact kk E2 _ (KI_fr hK hf2) hM2

set_option maxRecDepth 100000 in
set_option maxHeartbeats 4000000 in
theorem law_c10 {l : Launch} {Γ : JG} {Ω : JO} {ad : Nat → Nat} {b Ln : Nat} {xs : Nat → Int32} {E : Nat → va_E} {i : Int} {s : KS} (X : JX Γ Ω RL cL_law 4 12 600000 7302250 422) (hX : va_X b Ln xs Ω.2.2.2.1 Ω.2.2.2.1.heap) (hbl : b < Ω.2.2.2.1.heap.size) (hbA : ¬ jA Γ b) (hL : Ln ≤ 2560) (hi : 0 ≤ i ∧ i + 5 ≤ (Ln : Int)) (hK : KI Γ ad E s) (hM : MI Γ ad E s) (kk : ∀ (E' : Nat → va_E) (s' : KS), KI Γ ad E' s' → MI Γ ad E' s' → J l Γ Ω 4 ad 95 95 5922 E' 1018 [some (.ref b), some (.ref (ad 0)), some (.ref (ad 78)), some (.int (jI i))] []) : J l Γ Ω 4 ad 95 95 5922 E 408 [some (.ref b), some (.ref (ad 0)), some (.ref (ad 78)), some (.int (jI i))] [] := by
  obtain ⟨fs0, h0⟩ := KI_0 hK
  have hV := hK.2
  refine J_aload_n (q := 409) X dL_law_408 rfl rfl ?_
  refine J_aload_n (q := 410) X dL_law_409 rfl rfl ?_
  refine J_iload_n (q := 411) X dL_law_410 rfl rfl ?_
  refine J_iconst (q := 412) X dL_law_411 rfl ?_
  refine J_iadd (q := 413) X dL_law_412 rfl ?_
  refine J_sld (q := 414) X hX hbl hbA dL_law_413 (by omega) (by omega) rfl ?_
  refine J_aload_n (q := 415) X dL_law_414 rfl rfl ?_
  refine J_iload_n (q := 416) X dL_law_415 rfl rfl ?_
  refine J_iconst (q := 417) X dL_law_416 rfl ?_
  refine J_iadd (q := 418) X dL_law_417 rfl ?_
  refine J_sld (q := 419) X hX hbl hbA dL_law_418 (by omega) (by omega) rfl ?_
  refine J_callP (q := 422) (jrV X mL_56 dL_law_419 (c_X9_bare hK (jI_bd _) (jI_bd _)) h0 (by decide) rfl rfl rfl rfl (Nat.le_of_ble_eq_true rfl) ⟨Nat.le_of_ble_eq_true rfl, Nat.le_of_ble_eq_true rfl, Nat.le_of_ble_eq_true rfl, Nat.le_of_ble_eq_true rfl⟩) rfl ?_
  obtain ⟨fs1, h78⟩ := MI_78 hM
  refine J_aload_n (q := 423) X dL_law_422 rfl rfl ?_
  refine J_aload_n (q := 424) X dL_law_423 rfl rfl ?_
  refine J_iload_n (q := 425) X dL_law_424 rfl rfl ?_
  refine J_iconst (q := 426) X dL_law_425 rfl ?_
  refine J_iadd (q := 427) X dL_law_426 rfl ?_
  refine J_sld (q := 428) X hX hbl hbA dL_law_427 (by omega) (by omega) rfl ?_
  refine J_aload_n (q := 429) X dL_law_428 rfl rfl ?_
  refine J_iload_n (q := 430) X dL_law_429 rfl rfl ?_
  refine J_iconst (q := 431) X dL_law_430 rfl ?_
  refine J_iadd (q := 432) X dL_law_431 rfl ?_
  refine J_sld (q := 433) X hX hbl hbA dL_law_432 (by omega) (by omega) rfl ?_
  refine J_callI (q := 436) (jrV X mL_59 dL_law_433 (c_X10_bare hM hV (jI_bd _) (jI_bd _)) h78 (by decide) rfl rfl rfl rfl (Nat.le_of_ble_eq_true rfl) ⟨Nat.le_of_ble_eq_true rfl, Nat.le_of_ble_eq_true rfl, Nat.le_of_ble_eq_true rfl, Nat.le_of_ble_eq_true rfl⟩) rfl (fun z2 E2 hp2 => ?_)
  obtain ⟨rfl, hM2, hf2⟩ := hp2
  refine J_icmp_same (tgt := 1018) X dL_law_436 (by decide) ?_
  exact kk E2 _ (KI_fr hK hf2) hM2

set_option maxRecDepth 100000 in
set_option maxHeartbeats 4000000 in
theorem law_c11 {l : Launch} {Γ : JG} {Ω : JO} {ad : Nat → Nat} {b Ln : Nat} {xs : Nat → Int32} {E : Nat → va_E} {i : Int} {s : KS} (X : JX Γ Ω RL cL_law 4 12 600000 7302250 422) (hX : va_X b Ln xs Ω.2.2.2.1 Ω.2.2.2.1.heap) (hbl : b < Ω.2.2.2.1.heap.size) (hbA : ¬ jA Γ b) (hL : Ln ≤ 2560) (hi : 0 ≤ i ∧ i + 5 ≤ (Ln : Int)) (hK : KI Γ ad E s) (hM : MI Γ ad E s) (kk : ∀ (E' : Nat → va_E) (s' : KS), KI Γ ad E' s' → MI Γ ad E' s' → J l Γ Ω 4 ad 95 95 5922 E' 1018 [some (.ref b), some (.ref (ad 0)), some (.ref (ad 78)), some (.int (jI i))] []) : J l Γ Ω 4 ad 95 95 5922 E 441 [some (.ref b), some (.ref (ad 0)), some (.ref (ad 78)), some (.int (jI i))] [] := by
  obtain ⟨fs0, h0⟩ := KI_0 hK
  have hV := hK.2
  refine J_aload_n (q := 442) X dL_law_441 rfl rfl ?_
  refine J_aload_n (q := 443) X dL_law_442 rfl rfl ?_
  refine J_iload_n (q := 444) X dL_law_443 rfl rfl ?_
  refine J_iconst (q := 445) X dL_law_444 rfl ?_
  refine J_iadd (q := 446) X dL_law_445 rfl ?_
  refine J_sld (q := 447) X hX hbl hbA dL_law_446 (by omega) (by omega) rfl ?_
  refine J_callP (q := 450) (jrV X mL_60 dL_law_447 (c_X9_longest hK (jI_bd _)) h0 (by decide) rfl rfl rfl rfl (Nat.le_of_ble_eq_true rfl) ⟨Nat.le_of_ble_eq_true rfl, Nat.le_of_ble_eq_true rfl, Nat.le_of_ble_eq_true rfl, Nat.le_of_ble_eq_true rfl⟩) rfl ?_
  obtain ⟨fs1, h78⟩ := MI_78 hM
  refine J_aload_n (q := 451) X dL_law_450 rfl rfl ?_
  refine J_aload_n (q := 452) X dL_law_451 rfl rfl ?_
  refine J_iload_n (q := 453) X dL_law_452 rfl rfl ?_
  refine J_iconst (q := 454) X dL_law_453 rfl ?_
  refine J_iadd (q := 455) X dL_law_454 rfl ?_
  refine J_sld (q := 456) X hX hbl hbA dL_law_455 (by omega) (by omega) rfl ?_
  refine J_callI (q := 459) (jrV X mL_63 dL_law_456 (c_X10_longest hM hV (jI_bd _)) h78 (by decide) rfl rfl rfl rfl (Nat.le_of_ble_eq_true rfl) ⟨Nat.le_of_ble_eq_true rfl, Nat.le_of_ble_eq_true rfl, Nat.le_of_ble_eq_true rfl, Nat.le_of_ble_eq_true rfl⟩) rfl (fun z2 E2 hp2 => ?_)
  obtain ⟨rfl, hM2, hf2⟩ := hp2
  refine J_icmp_same (tgt := 1018) X dL_law_459 (by decide) ?_
  exact kk E2 _ (KI_fr hK hf2) hM2

set_option maxRecDepth 100000 in
set_option maxHeartbeats 4000000 in
theorem law_c12 {l : Launch} {Γ : JG} {Ω : JO} {ad : Nat → Nat} {b Ln : Nat} {xs : Nat → Int32} {E : Nat → va_E} {i : Int} {s : KS} (X : JX Γ Ω RL cL_law 4 12 600000 7302250 422) (hX : va_X b Ln xs Ω.2.2.2.1 Ω.2.2.2.1.heap) (hbl : b < Ω.2.2.2.1.heap.size) (hbA : ¬ jA Γ b) (hL : Ln ≤ 2560) (hi : 0 ≤ i ∧ i + 5 ≤ (Ln : Int)) (hK : KI Γ ad E s) (hM : MI Γ ad E s) (kk : ∀ (E' : Nat → va_E) (s' : KS), KI Γ ad E' s' → MI Γ ad E' s' → J l Γ Ω 4 ad 95 95 5922 E' 1018 [some (.ref b), some (.ref (ad 0)), some (.ref (ad 78)), some (.int (jI i))] []) : J l Γ Ω 4 ad 95 95 5922 E 464 [some (.ref b), some (.ref (ad 0)), some (.ref (ad 78)), some (.int (jI i))] [] := by
  obtain ⟨fs0, h0⟩ := KI_0 hK
  have hV := hK.2
  refine J_aload_n (q := 465) X dL_law_464 rfl rfl ?_
  refine J_aload_n (q := 466) X dL_law_465 rfl rfl ?_
  refine J_iload_n (q := 467) X dL_law_466 rfl rfl ?_
  refine J_iconst (q := 468) X dL_law_467 rfl ?_
  refine J_iadd (q := 469) X dL_law_468 rfl ?_
  refine J_sld (q := 470) X hX hbl hbA dL_law_469 (by omega) (by omega) rfl ?_
  refine J_callP (q := 473) (jrV X mL_64 dL_law_470 (c_X9_seen hK (jI_bd _)) h0 (by decide) rfl rfl rfl rfl (Nat.le_of_ble_eq_true rfl) ⟨Nat.le_of_ble_eq_true rfl, Nat.le_of_ble_eq_true rfl, Nat.le_of_ble_eq_true rfl, Nat.le_of_ble_eq_true rfl⟩) rfl ?_
  obtain ⟨fs1, h78⟩ := MI_78 hM
  refine J_aload_n (q := 474) X dL_law_473 rfl rfl ?_
  refine J_aload_n (q := 475) X dL_law_474 rfl rfl ?_
  refine J_iload_n (q := 476) X dL_law_475 rfl rfl ?_
  refine J_iconst (q := 477) X dL_law_476 rfl ?_
  refine J_iadd (q := 478) X dL_law_477 rfl ?_
  refine J_sld (q := 479) X hX hbl hbA dL_law_478 (by omega) (by omega) rfl ?_
  refine J_callI (q := 482) (jrV X mL_67 dL_law_479 (c_X10_seen hM hV (jI_bd _)) h78 (by decide) rfl rfl rfl rfl (Nat.le_of_ble_eq_true rfl) ⟨Nat.le_of_ble_eq_true rfl, Nat.le_of_ble_eq_true rfl, Nat.le_of_ble_eq_true rfl, Nat.le_of_ble_eq_true rfl⟩) rfl (fun z2 E2 hp2 => ?_)
  obtain ⟨rfl, hM2, hf2⟩ := hp2
  refine J_icmp_same (tgt := 1018) X dL_law_482 (by decide) ?_
  exact kk E2 _ (KI_fr hK hf2) hM2

set_option maxRecDepth 100000 in
set_option maxHeartbeats 4000000 in
theorem law_c13 {l : Launch} {Γ : JG} {Ω : JO} {ad : Nat → Nat} {b Ln : Nat} {xs : Nat → Int32} {E : Nat → va_E} {i : Int} {s : KS} (X : JX Γ Ω RL cL_law 4 12 600000 7302250 422) (hX : va_X b Ln xs Ω.2.2.2.1 Ω.2.2.2.1.heap) (hbl : b < Ω.2.2.2.1.heap.size) (hbA : ¬ jA Γ b) (hL : Ln ≤ 2560) (hi : 0 ≤ i ∧ i + 5 ≤ (Ln : Int)) (hK : KI Γ ad E s) (hM : MI Γ ad E s) (kk : ∀ (E' : Nat → va_E) (s' : KS), KI Γ ad E' s' → MI Γ ad E' s' → J l Γ Ω 4 ad 95 95 5922 E' 1018 [some (.ref b), some (.ref (ad 0)), some (.ref (ad 78)), some (.int (jI i))] []) : J l Γ Ω 4 ad 95 95 5922 E 487 [some (.ref b), some (.ref (ad 0)), some (.ref (ad 78)), some (.int (jI i))] [] := by
  obtain ⟨fs0, h0⟩ := KI_0 hK
  have hV := hK.2
  refine J_aload_n (q := 488) X dL_law_487 rfl rfl ?_
  refine J_aload_n (q := 489) X dL_law_488 rfl rfl ?_
  refine J_iload_n (q := 490) X dL_law_489 rfl rfl ?_
  refine J_iconst (q := 491) X dL_law_490 rfl ?_
  refine J_iadd (q := 492) X dL_law_491 rfl ?_
  refine J_sld (q := 493) X hX hbl hbA dL_law_492 (by omega) (by omega) rfl ?_
  refine J_aload_n (q := 494) X dL_law_493 rfl rfl ?_
  refine J_iload_n (q := 495) X dL_law_494 rfl rfl ?_
  refine J_iconst (q := 496) X dL_law_495 rfl ?_
  refine J_iadd (q := 497) X dL_law_496 rfl ?_
  refine J_sld (q := 498) X hX hbl hbA dL_law_497 (by omega) (by omega) rfl ?_
  refine J_callI (q := 501) (jrV X mL_68 dL_law_498 (c_X9_put hK (jI_bd _) (jI_bd _)) h0 (by decide) rfl rfl rfl rfl (Nat.le_of_ble_eq_true rfl) ⟨Nat.le_of_ble_eq_true rfl, Nat.le_of_ble_eq_true rfl, Nat.le_of_ble_eq_true rfl, Nat.le_of_ble_eq_true rfl⟩) rfl (fun z1 E1 hp1 => ?_)
  obtain ⟨rfl, hK1, hf1⟩ := hp1
  have hM1 := MI_fr hM hf1
  obtain ⟨fs1, h78⟩ := MI_78 hM1
  refine J_aload_n (q := 502) X dL_law_501 rfl rfl ?_
  refine J_aload_n (q := 503) X dL_law_502 rfl rfl ?_
  refine J_iload_n (q := 504) X dL_law_503 rfl rfl ?_
  refine J_iconst (q := 505) X dL_law_504 rfl ?_
  refine J_iadd (q := 506) X dL_law_505 rfl ?_
  refine J_sld (q := 507) X hX hbl hbA dL_law_506 (by omega) (by omega) rfl ?_
  refine J_aload_n (q := 508) X dL_law_507 rfl rfl ?_
  refine J_iload_n (q := 509) X dL_law_508 rfl rfl ?_
  refine J_iconst (q := 510) X dL_law_509 rfl ?_
  refine J_iadd (q := 511) X dL_law_510 rfl ?_
  refine J_sld (q := 512) X hX hbl hbA dL_law_511 (by omega) (by omega) rfl ?_
  refine J_callI (q := 515) (jrV X mL_71 dL_law_512 (c_X10_put hM1 hV (jI_bd _) (jI_bd _)) h78 (by decide) rfl rfl rfl rfl (Nat.le_of_ble_eq_true rfl) ⟨Nat.le_of_ble_eq_true rfl, Nat.le_of_ble_eq_true rfl, Nat.le_of_ble_eq_true rfl, Nat.le_of_ble_eq_true rfl⟩) rfl (fun z2 E2 hp2 => ?_)
  obtain ⟨rfl, hM2, hf2⟩ := hp2
  refine J_icmp_same (tgt := 1018) X dL_law_515 (by decide) ?_
  exact kk E2 _ (KI_fr hK1 hf2) hM2

set_option maxRecDepth 100000 in
set_option maxHeartbeats 4000000 in
theorem law_c14 {l : Launch} {Γ : JG} {Ω : JO} {ad : Nat → Nat} {b Ln : Nat} {xs : Nat → Int32} {E : Nat → va_E} {i : Int} {s : KS} (X : JX Γ Ω RL cL_law 4 12 600000 7302250 422) (hX : va_X b Ln xs Ω.2.2.2.1 Ω.2.2.2.1.heap) (hbl : b < Ω.2.2.2.1.heap.size) (hbA : ¬ jA Γ b) (hL : Ln ≤ 2560) (hi : 0 ≤ i ∧ i + 5 ≤ (Ln : Int)) (hK : KI Γ ad E s) (hM : MI Γ ad E s) (kk : ∀ (E' : Nat → va_E) (s' : KS), KI Γ ad E' s' → MI Γ ad E' s' → J l Γ Ω 4 ad 95 95 5922 E' 1018 [some (.ref b), some (.ref (ad 0)), some (.ref (ad 78)), some (.int (jI i))] []) : J l Γ Ω 4 ad 95 95 5922 E 520 [some (.ref b), some (.ref (ad 0)), some (.ref (ad 78)), some (.int (jI i))] [] := by
  obtain ⟨fs0, h0⟩ := KI_0 hK
  have hV := hK.2
  refine J_aload_n (q := 521) X dL_law_520 rfl rfl ?_
  refine J_aload_n (q := 522) X dL_law_521 rfl rfl ?_
  refine J_iload_n (q := 523) X dL_law_522 rfl rfl ?_
  refine J_iconst (q := 524) X dL_law_523 rfl ?_
  refine J_iadd (q := 525) X dL_law_524 rfl ?_
  refine J_sld (q := 526) X hX hbl hbA dL_law_525 (by omega) (by omega) rfl ?_
  refine J_aload_n (q := 527) X dL_law_526 rfl rfl ?_
  refine J_iload_n (q := 528) X dL_law_527 rfl rfl ?_
  refine J_iconst (q := 529) X dL_law_528 rfl ?_
  refine J_iadd (q := 530) X dL_law_529 rfl ?_
  refine J_sld (q := 531) X hX hbl hbA dL_law_530 (by omega) (by omega) rfl ?_
  refine J_callI (q := 534) (jrV X mL_72 dL_law_531 (c_X9_insert hK (jI_bd _) (jI_bd _)) h0 (by decide) rfl rfl rfl rfl (Nat.le_of_ble_eq_true rfl) ⟨Nat.le_of_ble_eq_true rfl, Nat.le_of_ble_eq_true rfl, Nat.le_of_ble_eq_true rfl, Nat.le_of_ble_eq_true rfl⟩) rfl (fun z1 E1 hp1 => ?_)
  obtain ⟨rfl, hK1, hf1⟩ := hp1
  have hM1 := MI_fr hM hf1
  obtain ⟨fs1, h78⟩ := MI_78 hM1
  refine J_aload_n (q := 535) X dL_law_534 rfl rfl ?_
  refine J_aload_n (q := 536) X dL_law_535 rfl rfl ?_
  refine J_iload_n (q := 537) X dL_law_536 rfl rfl ?_
  refine J_iconst (q := 538) X dL_law_537 rfl ?_
  refine J_iadd (q := 539) X dL_law_538 rfl ?_
  refine J_sld (q := 540) X hX hbl hbA dL_law_539 (by omega) (by omega) rfl ?_
  refine J_aload_n (q := 541) X dL_law_540 rfl rfl ?_
  refine J_iload_n (q := 542) X dL_law_541 rfl rfl ?_
  refine J_iconst (q := 543) X dL_law_542 rfl ?_
  refine J_iadd (q := 544) X dL_law_543 rfl ?_
  refine J_sld (q := 545) X hX hbl hbA dL_law_544 (by omega) (by omega) rfl ?_
  refine J_callI (q := 548) (jrV X mL_75 dL_law_545 (c_X10_insert hM1 hV (jI_bd _) (jI_bd _)) h78 (by decide) rfl rfl rfl rfl (Nat.le_of_ble_eq_true rfl) ⟨Nat.le_of_ble_eq_true rfl, Nat.le_of_ble_eq_true rfl, Nat.le_of_ble_eq_true rfl, Nat.le_of_ble_eq_true rfl⟩) rfl (fun z2 E2 hp2 => ?_)
  obtain ⟨rfl, hM2, hf2⟩ := hp2
  refine J_icmp_same (tgt := 1018) X dL_law_548 (by decide) ?_
  exact kk E2 _ (KI_fr hK1 hf2) hM2

set_option maxRecDepth 100000 in
set_option maxHeartbeats 4000000 in
theorem law_c15 {l : Launch} {Γ : JG} {Ω : JO} {ad : Nat → Nat} {b Ln : Nat} {xs : Nat → Int32} {E : Nat → va_E} {i : Int} {s : KS} (X : JX Γ Ω RL cL_law 4 12 600000 7302250 422) (hX : va_X b Ln xs Ω.2.2.2.1 Ω.2.2.2.1.heap) (hbl : b < Ω.2.2.2.1.heap.size) (hbA : ¬ jA Γ b) (hL : Ln ≤ 2560) (hi : 0 ≤ i ∧ i + 5 ≤ (Ln : Int)) (hK : KI Γ ad E s) (hM : MI Γ ad E s) (kk : ∀ (E' : Nat → va_E) (s' : KS), KI Γ ad E' s' → MI Γ ad E' s' → J l Γ Ω 4 ad 95 95 5922 E' 1018 [some (.ref b), some (.ref (ad 0)), some (.ref (ad 78)), some (.int (jI i))] []) : J l Γ Ω 4 ad 95 95 5922 E 553 [some (.ref b), some (.ref (ad 0)), some (.ref (ad 78)), some (.int (jI i))] [] := by
  obtain ⟨fs0, h0⟩ := KI_0 hK
  have hV := hK.2
  refine J_aload_n (q := 554) X dL_law_553 rfl rfl ?_
  refine J_aload_n (q := 555) X dL_law_554 rfl rfl ?_
  refine J_iload_n (q := 556) X dL_law_555 rfl rfl ?_
  refine J_iconst (q := 557) X dL_law_556 rfl ?_
  refine J_iadd (q := 558) X dL_law_557 rfl ?_
  refine J_sld (q := 559) X hX hbl hbA dL_law_558 (by omega) (by omega) rfl ?_
  refine J_aload_n (q := 560) X dL_law_559 rfl rfl ?_
  refine J_iload_n (q := 561) X dL_law_560 rfl rfl ?_
  refine J_iconst (q := 562) X dL_law_561 rfl ?_
  refine J_iadd (q := 563) X dL_law_562 rfl ?_
  refine J_sld (q := 564) X hX hbl hbA dL_law_563 (by omega) (by omega) rfl ?_
  refine J_callI (q := 567) (jrV X mL_76 dL_law_564 (c_X9_drop hK (jI_bd _) (jI_bd _)) h0 (by decide) rfl rfl rfl rfl (Nat.le_of_ble_eq_true rfl) ⟨Nat.le_of_ble_eq_true rfl, Nat.le_of_ble_eq_true rfl, Nat.le_of_ble_eq_true rfl, Nat.le_of_ble_eq_true rfl⟩) rfl (fun z1 E1 hp1 => ?_)
  obtain ⟨rfl, hK1, hf1⟩ := hp1
  have hM1 := MI_fr hM hf1
  obtain ⟨fs1, h78⟩ := MI_78 hM1
  refine J_aload_n (q := 568) X dL_law_567 rfl rfl ?_
  refine J_aload_n (q := 569) X dL_law_568 rfl rfl ?_
  refine J_iload_n (q := 570) X dL_law_569 rfl rfl ?_
  refine J_iconst (q := 571) X dL_law_570 rfl ?_
  refine J_iadd (q := 572) X dL_law_571 rfl ?_
  refine J_sld (q := 573) X hX hbl hbA dL_law_572 (by omega) (by omega) rfl ?_
  refine J_aload_n (q := 574) X dL_law_573 rfl rfl ?_
  refine J_iload_n (q := 575) X dL_law_574 rfl rfl ?_
  refine J_iconst (q := 576) X dL_law_575 rfl ?_
  refine J_iadd (q := 577) X dL_law_576 rfl ?_
  refine J_sld (q := 578) X hX hbl hbA dL_law_577 (by omega) (by omega) rfl ?_
  refine J_callI (q := 581) (jrV X mL_79 dL_law_578 (c_X10_drop hM1 hV (jI_bd _) (jI_bd _)) h78 (by decide) rfl rfl rfl rfl (Nat.le_of_ble_eq_true rfl) ⟨Nat.le_of_ble_eq_true rfl, Nat.le_of_ble_eq_true rfl, Nat.le_of_ble_eq_true rfl, Nat.le_of_ble_eq_true rfl⟩) rfl (fun z2 E2 hp2 => ?_)
  obtain ⟨rfl, hM2, hf2⟩ := hp2
  refine J_icmp_same (tgt := 1018) X dL_law_581 (by decide) ?_
  exact kk E2 _ (KI_fr hK1 hf2) hM2

set_option maxRecDepth 100000 in
set_option maxHeartbeats 4000000 in
theorem law_c16 {l : Launch} {Γ : JG} {Ω : JO} {ad : Nat → Nat} {b Ln : Nat} {xs : Nat → Int32} {E : Nat → va_E} {i : Int} {s : KS} (X : JX Γ Ω RL cL_law 4 12 600000 7302250 422) (hX : va_X b Ln xs Ω.2.2.2.1 Ω.2.2.2.1.heap) (hbl : b < Ω.2.2.2.1.heap.size) (hbA : ¬ jA Γ b) (hL : Ln ≤ 2560) (hi : 0 ≤ i ∧ i + 5 ≤ (Ln : Int)) (hK : KI Γ ad E s) (hM : MI Γ ad E s) (kk : ∀ (E' : Nat → va_E) (s' : KS), KI Γ ad E' s' → MI Γ ad E' s' → J l Γ Ω 4 ad 95 95 5922 E' 1018 [some (.ref b), some (.ref (ad 0)), some (.ref (ad 78)), some (.int (jI i))] []) : J l Γ Ω 4 ad 95 95 5922 E 586 [some (.ref b), some (.ref (ad 0)), some (.ref (ad 78)), some (.int (jI i))] [] := by
  obtain ⟨fs0, h0⟩ := KI_0 hK
  have hV := hK.2
  refine J_aload_n (q := 587) X dL_law_586 rfl rfl ?_
  refine J_aload_n (q := 588) X dL_law_587 rfl rfl ?_
  refine J_iload_n (q := 589) X dL_law_588 rfl rfl ?_
  refine J_iconst (q := 590) X dL_law_589 rfl ?_
  refine J_iadd (q := 591) X dL_law_590 rfl ?_
  refine J_sld (q := 592) X hX hbl hbA dL_law_591 (by omega) (by omega) rfl ?_
  refine J_aload_n (q := 593) X dL_law_592 rfl rfl ?_
  refine J_iload_n (q := 594) X dL_law_593 rfl rfl ?_
  refine J_iconst (q := 595) X dL_law_594 rfl ?_
  refine J_iadd (q := 596) X dL_law_595 rfl ?_
  refine J_sld (q := 597) X hX hbl hbA dL_law_596 (by omega) (by omega) rfl ?_
  refine J_aload_n (q := 598) X dL_law_597 rfl rfl ?_
  refine J_iload_n (q := 599) X dL_law_598 rfl rfl ?_
  refine J_iconst (q := 600) X dL_law_599 rfl ?_
  refine J_iadd (q := 601) X dL_law_600 rfl ?_
  refine J_sld (q := 602) X hX hbl hbA dL_law_601 (by omega) (by omega) rfl ?_
  refine J_callI (q := 605) (jrV X mL_80 dL_law_602 (c_X9_move hK (jI_bd _) (jI_bd _) (jI_bd _)) h0 (by decide) rfl rfl rfl rfl (Nat.le_of_ble_eq_true rfl) ⟨Nat.le_of_ble_eq_true rfl, Nat.le_of_ble_eq_true rfl, Nat.le_of_ble_eq_true rfl, Nat.le_of_ble_eq_true rfl⟩) rfl (fun z1 E1 hp1 => ?_)
  obtain ⟨rfl, hK1, hf1⟩ := hp1
  have hM1 := MI_fr hM hf1
  obtain ⟨fs1, h78⟩ := MI_78 hM1
  refine J_aload_n (q := 606) X dL_law_605 rfl rfl ?_
  refine J_aload_n (q := 607) X dL_law_606 rfl rfl ?_
  refine J_iload_n (q := 608) X dL_law_607 rfl rfl ?_
  refine J_iconst (q := 609) X dL_law_608 rfl ?_
  refine J_iadd (q := 610) X dL_law_609 rfl ?_
  refine J_sld (q := 611) X hX hbl hbA dL_law_610 (by omega) (by omega) rfl ?_
  refine J_aload_n (q := 612) X dL_law_611 rfl rfl ?_
  refine J_iload_n (q := 613) X dL_law_612 rfl rfl ?_
  refine J_iconst (q := 614) X dL_law_613 rfl ?_
  refine J_iadd (q := 615) X dL_law_614 rfl ?_
  refine J_sld (q := 616) X hX hbl hbA dL_law_615 (by omega) (by omega) rfl ?_
  refine J_aload_n (q := 617) X dL_law_616 rfl rfl ?_
  refine J_iload_n (q := 618) X dL_law_617 rfl rfl ?_
  refine J_iconst (q := 619) X dL_law_618 rfl ?_
  refine J_iadd (q := 620) X dL_law_619 rfl ?_
  refine J_sld (q := 621) X hX hbl hbA dL_law_620 (by omega) (by omega) rfl ?_
  refine J_callI (q := 624) (jrV X mL_84 dL_law_621 (c_X10_move hM1 hV (jI_bd _) (jI_bd _) (jI_bd _)) h78 (by decide) rfl rfl rfl rfl (Nat.le_of_ble_eq_true rfl) ⟨Nat.le_of_ble_eq_true rfl, Nat.le_of_ble_eq_true rfl, Nat.le_of_ble_eq_true rfl, Nat.le_of_ble_eq_true rfl⟩) rfl (fun z2 E2 hp2 => ?_)
  obtain ⟨rfl, hM2, hf2⟩ := hp2
  refine J_icmp_same (tgt := 1018) X dL_law_624 (by decide) ?_
  exact kk E2 _ (KI_fr hK1 hf2) hM2

set_option maxRecDepth 100000 in
set_option maxHeartbeats 4000000 in
theorem law_c17 {l : Launch} {Γ : JG} {Ω : JO} {ad : Nat → Nat} {b Ln : Nat} {xs : Nat → Int32} {E : Nat → va_E} {i : Int} {s : KS} (X : JX Γ Ω RL cL_law 4 12 600000 7302250 422) (hX : va_X b Ln xs Ω.2.2.2.1 Ω.2.2.2.1.heap) (hbl : b < Ω.2.2.2.1.heap.size) (hbA : ¬ jA Γ b) (hL : Ln ≤ 2560) (hi : 0 ≤ i ∧ i + 5 ≤ (Ln : Int)) (hK : KI Γ ad E s) (hM : MI Γ ad E s) (kk : ∀ (E' : Nat → va_E) (s' : KS), KI Γ ad E' s' → MI Γ ad E' s' → J l Γ Ω 4 ad 95 95 5922 E' 1018 [some (.ref b), some (.ref (ad 0)), some (.ref (ad 78)), some (.int (jI i))] []) : J l Γ Ω 4 ad 95 95 5922 E 629 [some (.ref b), some (.ref (ad 0)), some (.ref (ad 78)), some (.int (jI i))] [] := by
  obtain ⟨fs0, h0⟩ := KI_0 hK
  have hV := hK.2
  refine J_aload_n (q := 630) X dL_law_629 rfl rfl ?_
  refine J_aload_n (q := 631) X dL_law_630 rfl rfl ?_
  refine J_iload_n (q := 632) X dL_law_631 rfl rfl ?_
  refine J_iconst (q := 633) X dL_law_632 rfl ?_
  refine J_iadd (q := 634) X dL_law_633 rfl ?_
  refine J_sld (q := 635) X hX hbl hbA dL_law_634 (by omega) (by omega) rfl ?_
  refine J_aload_n (q := 636) X dL_law_635 rfl rfl ?_
  refine J_iload_n (q := 637) X dL_law_636 rfl rfl ?_
  refine J_iconst (q := 638) X dL_law_637 rfl ?_
  refine J_iadd (q := 639) X dL_law_638 rfl ?_
  refine J_sld (q := 640) X hX hbl hbA dL_law_639 (by omega) (by omega) rfl ?_
  refine J_aload_n (q := 641) X dL_law_640 rfl rfl ?_
  refine J_iload_n (q := 642) X dL_law_641 rfl rfl ?_
  refine J_iconst (q := 643) X dL_law_642 rfl ?_
  refine J_iadd (q := 644) X dL_law_643 rfl ?_
  refine J_sld (q := 645) X hX hbl hbA dL_law_644 (by omega) (by omega) rfl ?_
  refine J_callI (q := 648) (jrV X mL_85 dL_law_645 (c_X9_copy hK (jI_bd _) (jI_bd _) (jI_bd _)) h0 (by decide) rfl rfl rfl rfl (Nat.le_of_ble_eq_true rfl) ⟨Nat.le_of_ble_eq_true rfl, Nat.le_of_ble_eq_true rfl, Nat.le_of_ble_eq_true rfl, Nat.le_of_ble_eq_true rfl⟩) rfl (fun z1 E1 hp1 => ?_)
  obtain ⟨rfl, hK1, hf1⟩ := hp1
  have hM1 := MI_fr hM hf1
  obtain ⟨fs1, h78⟩ := MI_78 hM1
  refine J_aload_n (q := 649) X dL_law_648 rfl rfl ?_
  refine J_aload_n (q := 650) X dL_law_649 rfl rfl ?_
  refine J_iload_n (q := 651) X dL_law_650 rfl rfl ?_
  refine J_iconst (q := 652) X dL_law_651 rfl ?_
  refine J_iadd (q := 653) X dL_law_652 rfl ?_
  refine J_sld (q := 654) X hX hbl hbA dL_law_653 (by omega) (by omega) rfl ?_
  refine J_aload_n (q := 655) X dL_law_654 rfl rfl ?_
  refine J_iload_n (q := 656) X dL_law_655 rfl rfl ?_
  refine J_iconst (q := 657) X dL_law_656 rfl ?_
  refine J_iadd (q := 658) X dL_law_657 rfl ?_
  refine J_sld (q := 659) X hX hbl hbA dL_law_658 (by omega) (by omega) rfl ?_
  refine J_aload_n (q := 660) X dL_law_659 rfl rfl ?_
  refine J_iload_n (q := 661) X dL_law_660 rfl rfl ?_
  refine J_iconst (q := 662) X dL_law_661 rfl ?_
  refine J_iadd (q := 663) X dL_law_662 rfl ?_
  refine J_sld (q := 664) X hX hbl hbA dL_law_663 (by omega) (by omega) rfl ?_
  refine J_callI (q := 667) (jrV X mL_88 dL_law_664 (c_X10_copy hM1 hV (jI_bd _) (jI_bd _) (jI_bd _)) h78 (by decide) rfl rfl rfl rfl (Nat.le_of_ble_eq_true rfl) ⟨Nat.le_of_ble_eq_true rfl, Nat.le_of_ble_eq_true rfl, Nat.le_of_ble_eq_true rfl, Nat.le_of_ble_eq_true rfl⟩) rfl (fun z2 E2 hp2 => ?_)
  obtain ⟨rfl, hM2, hf2⟩ := hp2
  refine J_icmp_same (tgt := 1018) X dL_law_667 (by decide) ?_
  exact kk E2 _ (KI_fr hK1 hf2) hM2

set_option maxRecDepth 100000 in
set_option maxHeartbeats 4000000 in
theorem law_c18 {l : Launch} {Γ : JG} {Ω : JO} {ad : Nat → Nat} {b Ln : Nat} {xs : Nat → Int32} {E : Nat → va_E} {i : Int} {s : KS} (X : JX Γ Ω RL cL_law 4 12 600000 7302250 422) (hX : va_X b Ln xs Ω.2.2.2.1 Ω.2.2.2.1.heap) (hbl : b < Ω.2.2.2.1.heap.size) (hbA : ¬ jA Γ b) (hL : Ln ≤ 2560) (hi : 0 ≤ i ∧ i + 5 ≤ (Ln : Int)) (hK : KI Γ ad E s) (hM : MI Γ ad E s) (kk : ∀ (E' : Nat → va_E) (s' : KS), KI Γ ad E' s' → MI Γ ad E' s' → J l Γ Ω 4 ad 95 95 5922 E' 1018 [some (.ref b), some (.ref (ad 0)), some (.ref (ad 78)), some (.int (jI i))] []) : J l Γ Ω 4 ad 95 95 5922 E 672 [some (.ref b), some (.ref (ad 0)), some (.ref (ad 78)), some (.int (jI i))] [] := by
  obtain ⟨fs0, h0⟩ := KI_0 hK
  have hV := hK.2
  refine J_aload_n (q := 673) X dL_law_672 rfl rfl ?_
  refine J_aload_n (q := 674) X dL_law_673 rfl rfl ?_
  refine J_iload_n (q := 675) X dL_law_674 rfl rfl ?_
  refine J_iconst (q := 676) X dL_law_675 rfl ?_
  refine J_iadd (q := 677) X dL_law_676 rfl ?_
  refine J_sld (q := 678) X hX hbl hbA dL_law_677 (by omega) (by omega) rfl ?_
  refine J_aload_n (q := 679) X dL_law_678 rfl rfl ?_
  refine J_iload_n (q := 680) X dL_law_679 rfl rfl ?_
  refine J_iconst (q := 681) X dL_law_680 rfl ?_
  refine J_iadd (q := 682) X dL_law_681 rfl ?_
  refine J_sld (q := 683) X hX hbl hbA dL_law_682 (by omega) (by omega) rfl ?_
  refine J_callI (q := 686) (jrV X mL_89 dL_law_683 (c_X9_turn hK (jI_bd _) (jI_bd _)) h0 (by decide) rfl rfl rfl rfl (Nat.le_of_ble_eq_true rfl) ⟨Nat.le_of_ble_eq_true rfl, Nat.le_of_ble_eq_true rfl, Nat.le_of_ble_eq_true rfl, Nat.le_of_ble_eq_true rfl⟩) rfl (fun z1 E1 hp1 => ?_)
  obtain ⟨rfl, hK1, hf1⟩ := hp1
  have hM1 := MI_fr hM hf1
  obtain ⟨fs1, h78⟩ := MI_78 hM1
  refine J_aload_n (q := 687) X dL_law_686 rfl rfl ?_
  refine J_aload_n (q := 688) X dL_law_687 rfl rfl ?_
  refine J_iload_n (q := 689) X dL_law_688 rfl rfl ?_
  refine J_iconst (q := 690) X dL_law_689 rfl ?_
  refine J_iadd (q := 691) X dL_law_690 rfl ?_
  refine J_sld (q := 692) X hX hbl hbA dL_law_691 (by omega) (by omega) rfl ?_
  refine J_aload_n (q := 693) X dL_law_692 rfl rfl ?_
  refine J_iload_n (q := 694) X dL_law_693 rfl rfl ?_
  refine J_iconst (q := 695) X dL_law_694 rfl ?_
  refine J_iadd (q := 696) X dL_law_695 rfl ?_
  refine J_sld (q := 697) X hX hbl hbA dL_law_696 (by omega) (by omega) rfl ?_
  refine J_callI (q := 700) (jrV X mL_92 dL_law_697 (c_X10_turn hM1 hV (jI_bd _) (jI_bd _)) h78 (by decide) rfl rfl rfl rfl (Nat.le_of_ble_eq_true rfl) ⟨Nat.le_of_ble_eq_true rfl, Nat.le_of_ble_eq_true rfl, Nat.le_of_ble_eq_true rfl, Nat.le_of_ble_eq_true rfl⟩) rfl (fun z2 E2 hp2 => ?_)
  obtain ⟨rfl, hM2, hf2⟩ := hp2
  refine J_icmp_same (tgt := 1018) X dL_law_700 (by decide) ?_
  exact kk E2 _ (KI_fr hK1 hf2) hM2

set_option maxRecDepth 100000 in
set_option maxHeartbeats 4000000 in
theorem law_c19 {l : Launch} {Γ : JG} {Ω : JO} {ad : Nat → Nat} {b Ln : Nat} {xs : Nat → Int32} {E : Nat → va_E} {i : Int} {s : KS} (X : JX Γ Ω RL cL_law 4 12 600000 7302250 422) (hX : va_X b Ln xs Ω.2.2.2.1 Ω.2.2.2.1.heap) (hbl : b < Ω.2.2.2.1.heap.size) (hbA : ¬ jA Γ b) (hL : Ln ≤ 2560) (hi : 0 ≤ i ∧ i + 5 ≤ (Ln : Int)) (hK : KI Γ ad E s) (hM : MI Γ ad E s) (kk : ∀ (E' : Nat → va_E) (s' : KS), KI Γ ad E' s' → MI Γ ad E' s' → J l Γ Ω 4 ad 95 95 5922 E' 1018 [some (.ref b), some (.ref (ad 0)), some (.ref (ad 78)), some (.int (jI i))] []) : J l Γ Ω 4 ad 95 95 5922 E 705 [some (.ref b), some (.ref (ad 0)), some (.ref (ad 78)), some (.int (jI i))] [] := by
  obtain ⟨fs0, h0⟩ := KI_0 hK
  have hV := hK.2
  refine J_aload_n (q := 706) X dL_law_705 rfl rfl ?_
  refine J_aload_n (q := 707) X dL_law_706 rfl rfl ?_
  refine J_iload_n (q := 708) X dL_law_707 rfl rfl ?_
  refine J_iconst (q := 709) X dL_law_708 rfl ?_
  refine J_iadd (q := 710) X dL_law_709 rfl ?_
  refine J_sld (q := 711) X hX hbl hbA dL_law_710 (by omega) (by omega) rfl ?_
  refine J_aload_n (q := 712) X dL_law_711 rfl rfl ?_
  refine J_iload_n (q := 713) X dL_law_712 rfl rfl ?_
  refine J_iconst (q := 714) X dL_law_713 rfl ?_
  refine J_iadd (q := 715) X dL_law_714 rfl ?_
  refine J_sld (q := 716) X hX hbl hbA dL_law_715 (by omega) (by omega) rfl ?_
  refine J_callI (q := 719) (jrV X mL_93 dL_law_716 (c_X9_mark hK (jI_bd _) (jI_bd _)) h0 (by decide) rfl rfl rfl rfl (Nat.le_of_ble_eq_true rfl) ⟨Nat.le_of_ble_eq_true rfl, Nat.le_of_ble_eq_true rfl, Nat.le_of_ble_eq_true rfl, Nat.le_of_ble_eq_true rfl⟩) rfl (fun z1 E1 hp1 => ?_)
  obtain ⟨rfl, hK1, hf1⟩ := hp1
  have hM1 := MI_fr hM hf1
  obtain ⟨fs1, h78⟩ := MI_78 hM1
  refine J_aload_n (q := 720) X dL_law_719 rfl rfl ?_
  refine J_aload_n (q := 721) X dL_law_720 rfl rfl ?_
  refine J_iload_n (q := 722) X dL_law_721 rfl rfl ?_
  refine J_iconst (q := 723) X dL_law_722 rfl ?_
  refine J_iadd (q := 724) X dL_law_723 rfl ?_
  refine J_sld (q := 725) X hX hbl hbA dL_law_724 (by omega) (by omega) rfl ?_
  refine J_aload_n (q := 726) X dL_law_725 rfl rfl ?_
  refine J_iload_n (q := 727) X dL_law_726 rfl rfl ?_
  refine J_iconst (q := 728) X dL_law_727 rfl ?_
  refine J_iadd (q := 729) X dL_law_728 rfl ?_
  refine J_sld (q := 730) X hX hbl hbA dL_law_729 (by omega) (by omega) rfl ?_
  refine J_callI (q := 733) (jrV X mL_96 dL_law_730 (c_X10_mark hM1 hV (jI_bd _) (jI_bd _)) h78 (by decide) rfl rfl rfl rfl (Nat.le_of_ble_eq_true rfl) ⟨Nat.le_of_ble_eq_true rfl, Nat.le_of_ble_eq_true rfl, Nat.le_of_ble_eq_true rfl, Nat.le_of_ble_eq_true rfl⟩) rfl (fun z2 E2 hp2 => ?_)
  obtain ⟨rfl, hM2, hf2⟩ := hp2
  refine J_icmp_same (tgt := 1018) X dL_law_733 (by decide) ?_
  exact kk E2 _ (KI_fr hK1 hf2) hM2

set_option maxRecDepth 100000 in
set_option maxHeartbeats 4000000 in
theorem law_c20 {l : Launch} {Γ : JG} {Ω : JO} {ad : Nat → Nat} {b Ln : Nat} {xs : Nat → Int32} {E : Nat → va_E} {i : Int} {s : KS} (X : JX Γ Ω RL cL_law 4 12 600000 7302250 422) (hX : va_X b Ln xs Ω.2.2.2.1 Ω.2.2.2.1.heap) (hbl : b < Ω.2.2.2.1.heap.size) (hbA : ¬ jA Γ b) (hL : Ln ≤ 2560) (hi : 0 ≤ i ∧ i + 5 ≤ (Ln : Int)) (hK : KI Γ ad E s) (hM : MI Γ ad E s) (kk : ∀ (E' : Nat → va_E) (s' : KS), KI Γ ad E' s' → MI Γ ad E' s' → J l Γ Ω 4 ad 95 95 5922 E' 1018 [some (.ref b), some (.ref (ad 0)), some (.ref (ad 78)), some (.int (jI i))] []) : J l Γ Ω 4 ad 95 95 5922 E 738 [some (.ref b), some (.ref (ad 0)), some (.ref (ad 78)), some (.int (jI i))] [] := by
  obtain ⟨fs0, h0⟩ := KI_0 hK
  have hV := hK.2
  refine J_aload_n (q := 739) X dL_law_738 rfl rfl ?_
  refine J_aload_n (q := 740) X dL_law_739 rfl rfl ?_
  refine J_iload_n (q := 741) X dL_law_740 rfl rfl ?_
  refine J_iconst (q := 742) X dL_law_741 rfl ?_
  refine J_iadd (q := 743) X dL_law_742 rfl ?_
  refine J_sld (q := 744) X hX hbl hbA dL_law_743 (by omega) (by omega) rfl ?_
  refine J_aload_n (q := 745) X dL_law_744 rfl rfl ?_
  refine J_iload_n (q := 746) X dL_law_745 rfl rfl ?_
  refine J_iconst (q := 747) X dL_law_746 rfl ?_
  refine J_iadd (q := 748) X dL_law_747 rfl ?_
  refine J_sld (q := 749) X hX hbl hbA dL_law_748 (by omega) (by omega) rfl ?_
  refine J_callI (q := 752) (jrV X mL_97 dL_law_749 (c_X9_grow hK (jI_bd _) (jI_bd _)) h0 (by decide) rfl rfl rfl rfl (Nat.le_of_ble_eq_true rfl) ⟨Nat.le_of_ble_eq_true rfl, Nat.le_of_ble_eq_true rfl, Nat.le_of_ble_eq_true rfl, Nat.le_of_ble_eq_true rfl⟩) rfl (fun z1 E1 hp1 => ?_)
  obtain ⟨rfl, hK1, hf1⟩ := hp1
  have hM1 := MI_fr hM hf1
  obtain ⟨fs1, h78⟩ := MI_78 hM1
  refine J_aload_n (q := 753) X dL_law_752 rfl rfl ?_
  refine J_aload_n (q := 754) X dL_law_753 rfl rfl ?_
  refine J_iload_n (q := 755) X dL_law_754 rfl rfl ?_
  refine J_iconst (q := 756) X dL_law_755 rfl ?_
  refine J_iadd (q := 757) X dL_law_756 rfl ?_
  refine J_sld (q := 758) X hX hbl hbA dL_law_757 (by omega) (by omega) rfl ?_
  refine J_aload_n (q := 759) X dL_law_758 rfl rfl ?_
  refine J_iload_n (q := 760) X dL_law_759 rfl rfl ?_
  refine J_iconst (q := 761) X dL_law_760 rfl ?_
  refine J_iadd (q := 762) X dL_law_761 rfl ?_
  refine J_sld (q := 763) X hX hbl hbA dL_law_762 (by omega) (by omega) rfl ?_
  refine J_callI (q := 766) (jrV X mL_100 dL_law_763 (c_X10_grow hM1 hV (jI_bd _) (jI_bd _)) h78 (by decide) rfl rfl rfl rfl (Nat.le_of_ble_eq_true rfl) ⟨Nat.le_of_ble_eq_true rfl, Nat.le_of_ble_eq_true rfl, Nat.le_of_ble_eq_true rfl, Nat.le_of_ble_eq_true rfl⟩) rfl (fun z2 E2 hp2 => ?_)
  obtain ⟨rfl, hM2, hf2⟩ := hp2
  refine J_icmp_same (tgt := 1018) X dL_law_766 (by decide) ?_
  exact kk E2 _ (KI_fr hK1 hf2) hM2

set_option maxRecDepth 100000 in
set_option maxHeartbeats 4000000 in
theorem law_c21 {l : Launch} {Γ : JG} {Ω : JO} {ad : Nat → Nat} {b Ln : Nat} {xs : Nat → Int32} {E : Nat → va_E} {i : Int} {s : KS} (X : JX Γ Ω RL cL_law 4 12 600000 7302250 422) (hX : va_X b Ln xs Ω.2.2.2.1 Ω.2.2.2.1.heap) (hbl : b < Ω.2.2.2.1.heap.size) (hbA : ¬ jA Γ b) (hL : Ln ≤ 2560) (hi : 0 ≤ i ∧ i + 5 ≤ (Ln : Int)) (hK : KI Γ ad E s) (hM : MI Γ ad E s) (kk : ∀ (E' : Nat → va_E) (s' : KS), KI Γ ad E' s' → MI Γ ad E' s' → J l Γ Ω 4 ad 95 95 5922 E' 1018 [some (.ref b), some (.ref (ad 0)), some (.ref (ad 78)), some (.int (jI i))] []) : J l Γ Ω 4 ad 95 95 5922 E 771 [some (.ref b), some (.ref (ad 0)), some (.ref (ad 78)), some (.int (jI i))] [] := by
  obtain ⟨fs0, h0⟩ := KI_0 hK
  have hV := hK.2
  refine J_aload_n (q := 772) X dL_law_771 rfl rfl ?_
  refine J_callI (q := 775) (jrV X mL_101 dL_law_772 (c_X9_undo hK) h0 (by decide) rfl rfl rfl rfl (Nat.le_of_ble_eq_true rfl) ⟨Nat.le_of_ble_eq_true rfl, Nat.le_of_ble_eq_true rfl, Nat.le_of_ble_eq_true rfl, Nat.le_of_ble_eq_true rfl⟩) rfl (fun z1 E1 hp1 => ?_)
  obtain ⟨rfl, hK1, hf1⟩ := hp1
  have hM1 := MI_fr hM hf1
  obtain ⟨fs1, h78⟩ := MI_78 hM1
  refine J_aload_n (q := 776) X dL_law_775 rfl rfl ?_
  refine J_callI (q := 779) (jrV X mL_104 dL_law_776 (c_X10_undo hM1 hV) h78 (by decide) rfl rfl rfl rfl (Nat.le_of_ble_eq_true rfl) ⟨Nat.le_of_ble_eq_true rfl, Nat.le_of_ble_eq_true rfl, Nat.le_of_ble_eq_true rfl, Nat.le_of_ble_eq_true rfl⟩) rfl (fun z2 E2 hp2 => ?_)
  obtain ⟨rfl, hM2, hf2⟩ := hp2
  refine J_icmp_same (tgt := 1018) X dL_law_779 (by decide) ?_
  exact kk E2 _ (KI_fr hK1 hf2) hM2

set_option maxRecDepth 100000 in
set_option maxHeartbeats 4000000 in
theorem law_c22 {l : Launch} {Γ : JG} {Ω : JO} {ad : Nat → Nat} {b Ln : Nat} {xs : Nat → Int32} {E : Nat → va_E} {i : Int} {s : KS} (X : JX Γ Ω RL cL_law 4 12 600000 7302250 422) (hX : va_X b Ln xs Ω.2.2.2.1 Ω.2.2.2.1.heap) (hbl : b < Ω.2.2.2.1.heap.size) (hbA : ¬ jA Γ b) (hL : Ln ≤ 2560) (hi : 0 ≤ i ∧ i + 5 ≤ (Ln : Int)) (hK : KI Γ ad E s) (hM : MI Γ ad E s) (kk : ∀ (E' : Nat → va_E) (s' : KS), KI Γ ad E' s' → MI Γ ad E' s' → J l Γ Ω 4 ad 95 95 5922 E' 1018 [some (.ref b), some (.ref (ad 0)), some (.ref (ad 78)), some (.int (jI i))] []) : J l Γ Ω 4 ad 95 95 5922 E 784 [some (.ref b), some (.ref (ad 0)), some (.ref (ad 78)), some (.int (jI i))] [] := by
  obtain ⟨fs0, h0⟩ := KI_0 hK
  have hV := hK.2
  refine J_aload_n (q := 785) X dL_law_784 rfl rfl ?_
  refine J_callI (q := 788) (jrV X mL_105 dL_law_785 (c_X9_redo hK) h0 (by decide) rfl rfl rfl rfl (Nat.le_of_ble_eq_true rfl) ⟨Nat.le_of_ble_eq_true rfl, Nat.le_of_ble_eq_true rfl, Nat.le_of_ble_eq_true rfl, Nat.le_of_ble_eq_true rfl⟩) rfl (fun z1 E1 hp1 => ?_)
  obtain ⟨rfl, hK1, hf1⟩ := hp1
  have hM1 := MI_fr hM hf1
  obtain ⟨fs1, h78⟩ := MI_78 hM1
  refine J_aload_n (q := 789) X dL_law_788 rfl rfl ?_
  refine J_callI (q := 792) (jrV X mL_108 dL_law_789 (c_X10_redo hM1 hV) h78 (by decide) rfl rfl rfl rfl (Nat.le_of_ble_eq_true rfl) ⟨Nat.le_of_ble_eq_true rfl, Nat.le_of_ble_eq_true rfl, Nat.le_of_ble_eq_true rfl, Nat.le_of_ble_eq_true rfl⟩) rfl (fun z2 E2 hp2 => ?_)
  obtain ⟨rfl, hM2, hf2⟩ := hp2
  refine J_icmp_same (tgt := 1018) X dL_law_792 (by decide) ?_
  exact kk E2 _ (KI_fr hK1 hf2) hM2

set_option maxRecDepth 100000 in
set_option maxHeartbeats 4000000 in
theorem law_c23 {l : Launch} {Γ : JG} {Ω : JO} {ad : Nat → Nat} {b Ln : Nat} {xs : Nat → Int32} {E : Nat → va_E} {i : Int} {s : KS} (X : JX Γ Ω RL cL_law 4 12 600000 7302250 422) (hX : va_X b Ln xs Ω.2.2.2.1 Ω.2.2.2.1.heap) (hbl : b < Ω.2.2.2.1.heap.size) (hbA : ¬ jA Γ b) (hL : Ln ≤ 2560) (hi : 0 ≤ i ∧ i + 5 ≤ (Ln : Int)) (hK : KI Γ ad E s) (hM : MI Γ ad E s) (kk : ∀ (E' : Nat → va_E) (s' : KS), KI Γ ad E' s' → MI Γ ad E' s' → J l Γ Ω 4 ad 95 95 5922 E' 1018 [some (.ref b), some (.ref (ad 0)), some (.ref (ad 78)), some (.int (jI i))] []) : J l Γ Ω 4 ad 95 95 5922 E 797 [some (.ref b), some (.ref (ad 0)), some (.ref (ad 78)), some (.int (jI i))] [] := by
  obtain ⟨fs0, h0⟩ := KI_0 hK
  have hV := hK.2
  refine J_aload_n (q := 798) X dL_law_797 rfl rfl ?_
  refine J_aload_n (q := 799) X dL_law_798 rfl rfl ?_
  refine J_iload_n (q := 800) X dL_law_799 rfl rfl ?_
  refine J_iconst (q := 801) X dL_law_800 rfl ?_
  refine J_iadd (q := 802) X dL_law_801 rfl ?_
  refine J_sld (q := 803) X hX hbl hbA dL_law_802 (by omega) (by omega) rfl ?_
  refine J_callI (q := 806) (jrV X mL_109 dL_law_803 (c_X9_keep hK (jI_bd _)) h0 (by decide) rfl rfl rfl rfl (Nat.le_of_ble_eq_true rfl) ⟨Nat.le_of_ble_eq_true rfl, Nat.le_of_ble_eq_true rfl, Nat.le_of_ble_eq_true rfl, Nat.le_of_ble_eq_true rfl⟩) rfl (fun z1 E1 hp1 => ?_)
  obtain ⟨rfl, hK1, hf1⟩ := hp1
  have hM1 := MI_fr hM hf1
  obtain ⟨fs1, h78⟩ := MI_78 hM1
  refine J_aload_n (q := 807) X dL_law_806 rfl rfl ?_
  refine J_aload_n (q := 808) X dL_law_807 rfl rfl ?_
  refine J_iload_n (q := 809) X dL_law_808 rfl rfl ?_
  refine J_iconst (q := 810) X dL_law_809 rfl ?_
  refine J_iadd (q := 811) X dL_law_810 rfl ?_
  refine J_sld (q := 812) X hX hbl hbA dL_law_811 (by omega) (by omega) rfl ?_
  refine J_callI (q := 815) (jrV X mL_112 dL_law_812 (c_X10_keep hM1 hV (jI_bd _)) h78 (by decide) rfl rfl rfl rfl (Nat.le_of_ble_eq_true rfl) ⟨Nat.le_of_ble_eq_true rfl, Nat.le_of_ble_eq_true rfl, Nat.le_of_ble_eq_true rfl, Nat.le_of_ble_eq_true rfl⟩) rfl (fun z2 E2 hp2 => ?_)
  obtain ⟨rfl, hM2, hf2⟩ := hp2
  refine J_icmp_same (tgt := 1018) X dL_law_815 (by decide) ?_
  exact kk E2 _ (KI_fr hK1 hf2) hM2

set_option maxRecDepth 100000 in
set_option maxHeartbeats 4000000 in
theorem law_c24 {l : Launch} {Γ : JG} {Ω : JO} {ad : Nat → Nat} {b Ln : Nat} {xs : Nat → Int32} {E : Nat → va_E} {i : Int} {s : KS} (X : JX Γ Ω RL cL_law 4 12 600000 7302250 422) (hX : va_X b Ln xs Ω.2.2.2.1 Ω.2.2.2.1.heap) (hbl : b < Ω.2.2.2.1.heap.size) (hbA : ¬ jA Γ b) (hL : Ln ≤ 2560) (hi : 0 ≤ i ∧ i + 5 ≤ (Ln : Int)) (hK : KI Γ ad E s) (hM : MI Γ ad E s) (kk : ∀ (E' : Nat → va_E) (s' : KS), KI Γ ad E' s' → MI Γ ad E' s' → J l Γ Ω 4 ad 95 95 5922 E' 1018 [some (.ref b), some (.ref (ad 0)), some (.ref (ad 78)), some (.int (jI i))] []) : J l Γ Ω 4 ad 95 95 5922 E 820 [some (.ref b), some (.ref (ad 0)), some (.ref (ad 78)), some (.int (jI i))] [] := by
  obtain ⟨fs0, h0⟩ := KI_0 hK
  have hV := hK.2
  refine J_aload_n (q := 821) X dL_law_820 rfl rfl ?_
  refine J_aload_n (q := 822) X dL_law_821 rfl rfl ?_
  refine J_iload_n (q := 823) X dL_law_822 rfl rfl ?_
  refine J_iconst (q := 824) X dL_law_823 rfl ?_
  refine J_iadd (q := 825) X dL_law_824 rfl ?_
  refine J_sld (q := 826) X hX hbl hbA dL_law_825 (by omega) (by omega) rfl ?_
  refine J_callI (q := 829) (jrV X mL_113 dL_law_826 (c_X9_back hK (jI_bd _)) h0 (by decide) rfl rfl rfl rfl (Nat.le_of_ble_eq_true rfl) ⟨Nat.le_of_ble_eq_true rfl, Nat.le_of_ble_eq_true rfl, Nat.le_of_ble_eq_true rfl, Nat.le_of_ble_eq_true rfl⟩) rfl (fun z1 E1 hp1 => ?_)
  obtain ⟨rfl, hK1, hf1⟩ := hp1
  have hM1 := MI_fr hM hf1
  obtain ⟨fs1, h78⟩ := MI_78 hM1
  refine J_aload_n (q := 830) X dL_law_829 rfl rfl ?_
  refine J_aload_n (q := 831) X dL_law_830 rfl rfl ?_
  refine J_iload_n (q := 832) X dL_law_831 rfl rfl ?_
  refine J_iconst (q := 833) X dL_law_832 rfl ?_
  refine J_iadd (q := 834) X dL_law_833 rfl ?_
  refine J_sld (q := 835) X hX hbl hbA dL_law_834 (by omega) (by omega) rfl ?_
  refine J_callI (q := 838) (jrV X mL_116 dL_law_835 (c_X10_back hM1 hV (jI_bd _)) h78 (by decide) rfl rfl rfl rfl (Nat.le_of_ble_eq_true rfl) ⟨Nat.le_of_ble_eq_true rfl, Nat.le_of_ble_eq_true rfl, Nat.le_of_ble_eq_true rfl, Nat.le_of_ble_eq_true rfl⟩) rfl (fun z2 E2 hp2 => ?_)
  obtain ⟨rfl, hM2, hf2⟩ := hp2
  refine J_icmp_same (tgt := 1018) X dL_law_838 (by decide) ?_
  exact kk E2 _ (KI_fr hK1 hf2) hM2

set_option maxRecDepth 100000 in
set_option maxHeartbeats 4000000 in
theorem law_c25 {l : Launch} {Γ : JG} {Ω : JO} {ad : Nat → Nat} {b Ln : Nat} {xs : Nat → Int32} {E : Nat → va_E} {i : Int} {s : KS} (X : JX Γ Ω RL cL_law 4 12 600000 7302250 422) (hX : va_X b Ln xs Ω.2.2.2.1 Ω.2.2.2.1.heap) (hbl : b < Ω.2.2.2.1.heap.size) (hbA : ¬ jA Γ b) (hL : Ln ≤ 2560) (hi : 0 ≤ i ∧ i + 5 ≤ (Ln : Int)) (hK : KI Γ ad E s) (hM : MI Γ ad E s) (kk : ∀ (E' : Nat → va_E) (s' : KS), KI Γ ad E' s' → MI Γ ad E' s' → J l Γ Ω 4 ad 95 95 5922 E' 1018 [some (.ref b), some (.ref (ad 0)), some (.ref (ad 78)), some (.int (jI i))] []) : J l Γ Ω 4 ad 95 95 5922 E 843 [some (.ref b), some (.ref (ad 0)), some (.ref (ad 78)), some (.int (jI i))] [] := by
  obtain ⟨fs0, h0⟩ := KI_0 hK
  have hV := hK.2
  refine J_aload_n (q := 844) X dL_law_843 rfl rfl ?_
  refine J_aload_n (q := 845) X dL_law_844 rfl rfl ?_
  refine J_iload_n (q := 846) X dL_law_845 rfl rfl ?_
  refine J_iconst (q := 847) X dL_law_846 rfl ?_
  refine J_iadd (q := 848) X dL_law_847 rfl ?_
  refine J_sld (q := 849) X hX hbl hbA dL_law_848 (by omega) (by omega) rfl ?_
  refine J_aload_n (q := 850) X dL_law_849 rfl rfl ?_
  refine J_iload_n (q := 851) X dL_law_850 rfl rfl ?_
  refine J_iconst (q := 852) X dL_law_851 rfl ?_
  refine J_iadd (q := 853) X dL_law_852 rfl ?_
  refine J_sld (q := 854) X hX hbl hbA dL_law_853 (by omega) (by omega) rfl ?_
  refine J_aload_n (q := 855) X dL_law_854 rfl rfl ?_
  refine J_iload_n (q := 856) X dL_law_855 rfl rfl ?_
  refine J_iconst (q := 857) X dL_law_856 rfl ?_
  refine J_iadd (q := 858) X dL_law_857 rfl ?_
  refine J_sld (q := 859) X hX hbl hbA dL_law_858 (by omega) (by omega) rfl ?_
  refine J_callI (q := 862) (jrV X mL_117 dL_law_859 (c_X9_sheet hK (jI_bd _) (jI_bd _) (jI_bd _)) h0 (by decide) rfl rfl rfl rfl (Nat.le_of_ble_eq_true rfl) ⟨Nat.le_of_ble_eq_true rfl, Nat.le_of_ble_eq_true rfl, Nat.le_of_ble_eq_true rfl, Nat.le_of_ble_eq_true rfl⟩) rfl (fun z1 E1 hp1 => ?_)
  obtain ⟨rfl, hK1, hf1⟩ := hp1
  have hM1 := MI_fr hM hf1
  obtain ⟨fs1, h78⟩ := MI_78 hM1
  refine J_aload_n (q := 863) X dL_law_862 rfl rfl ?_
  refine J_aload_n (q := 864) X dL_law_863 rfl rfl ?_
  refine J_iload_n (q := 865) X dL_law_864 rfl rfl ?_
  refine J_iconst (q := 866) X dL_law_865 rfl ?_
  refine J_iadd (q := 867) X dL_law_866 rfl ?_
  refine J_sld (q := 868) X hX hbl hbA dL_law_867 (by omega) (by omega) rfl ?_
  refine J_aload_n (q := 869) X dL_law_868 rfl rfl ?_
  refine J_iload_n (q := 870) X dL_law_869 rfl rfl ?_
  refine J_iconst (q := 871) X dL_law_870 rfl ?_
  refine J_iadd (q := 872) X dL_law_871 rfl ?_
  refine J_sld (q := 873) X hX hbl hbA dL_law_872 (by omega) (by omega) rfl ?_
  refine J_aload_n (q := 874) X dL_law_873 rfl rfl ?_
  refine J_iload_n (q := 875) X dL_law_874 rfl rfl ?_
  refine J_iconst (q := 876) X dL_law_875 rfl ?_
  refine J_iadd (q := 877) X dL_law_876 rfl ?_
  refine J_sld (q := 878) X hX hbl hbA dL_law_877 (by omega) (by omega) rfl ?_
  refine J_callI (q := 881) (jrV X mL_120 dL_law_878 (c_X10_sheet hM1 hV (jI_bd _) (jI_bd _) (jI_bd _)) h78 (by decide) rfl rfl rfl rfl (Nat.le_of_ble_eq_true rfl) ⟨Nat.le_of_ble_eq_true rfl, Nat.le_of_ble_eq_true rfl, Nat.le_of_ble_eq_true rfl, Nat.le_of_ble_eq_true rfl⟩) rfl (fun z2 E2 hp2 => ?_)
  obtain ⟨rfl, hM2, hf2⟩ := hp2
  refine J_icmp_same (tgt := 1018) X dL_law_881 (by decide) ?_
  exact kk E2 _ (KI_fr hK1 hf2) hM2

set_option maxRecDepth 100000 in
set_option maxHeartbeats 4000000 in
theorem law_c26 {l : Launch} {Γ : JG} {Ω : JO} {ad : Nat → Nat} {b Ln : Nat} {xs : Nat → Int32} {E : Nat → va_E} {i : Int} {s : KS} (X : JX Γ Ω RL cL_law 4 12 600000 7302250 422) (hX : va_X b Ln xs Ω.2.2.2.1 Ω.2.2.2.1.heap) (hbl : b < Ω.2.2.2.1.heap.size) (hbA : ¬ jA Γ b) (hL : Ln ≤ 2560) (hi : 0 ≤ i ∧ i + 5 ≤ (Ln : Int)) (hK : KI Γ ad E s) (hM : MI Γ ad E s) (kk : ∀ (E' : Nat → va_E) (s' : KS), KI Γ ad E' s' → MI Γ ad E' s' → J l Γ Ω 4 ad 95 95 5922 E' 1018 [some (.ref b), some (.ref (ad 0)), some (.ref (ad 78)), some (.int (jI i))] []) : J l Γ Ω 4 ad 95 95 5922 E 886 [some (.ref b), some (.ref (ad 0)), some (.ref (ad 78)), some (.int (jI i))] [] := by
  obtain ⟨fs0, h0⟩ := KI_0 hK
  have hV := hK.2
  refine J_aload_n (q := 887) X dL_law_886 rfl rfl ?_
  refine J_aload_n (q := 888) X dL_law_887 rfl rfl ?_
  refine J_iload_n (q := 889) X dL_law_888 rfl rfl ?_
  refine J_iconst (q := 890) X dL_law_889 rfl ?_
  refine J_iadd (q := 891) X dL_law_890 rfl ?_
  refine J_sld (q := 892) X hX hbl hbA dL_law_891 (by omega) (by omega) rfl ?_
  refine J_aload_n (q := 893) X dL_law_892 rfl rfl ?_
  refine J_iload_n (q := 894) X dL_law_893 rfl rfl ?_
  refine J_iconst (q := 895) X dL_law_894 rfl ?_
  refine J_iadd (q := 896) X dL_law_895 rfl ?_
  refine J_sld (q := 897) X hX hbl hbA dL_law_896 (by omega) (by omega) rfl ?_
  refine J_aload_n (q := 898) X dL_law_897 rfl rfl ?_
  refine J_iload_n (q := 899) X dL_law_898 rfl rfl ?_
  refine J_iconst (q := 900) X dL_law_899 rfl ?_
  refine J_iadd (q := 901) X dL_law_900 rfl ?_
  refine J_sld (q := 902) X hX hbl hbA dL_law_901 (by omega) (by omega) rfl ?_
  refine J_callI (q := 905) (jrV X mL_121 dL_law_902 (c_X9_lay hK (jI_bd _) (jI_bd _) (jI_bd _)) h0 (by decide) rfl rfl rfl rfl (Nat.le_of_ble_eq_true rfl) ⟨Nat.le_of_ble_eq_true rfl, Nat.le_of_ble_eq_true rfl, Nat.le_of_ble_eq_true rfl, Nat.le_of_ble_eq_true rfl⟩) rfl (fun z1 E1 hp1 => ?_)
  obtain ⟨rfl, hK1, hf1⟩ := hp1
  have hM1 := MI_fr hM hf1
  obtain ⟨fs1, h78⟩ := MI_78 hM1
  refine J_aload_n (q := 906) X dL_law_905 rfl rfl ?_
  refine J_aload_n (q := 907) X dL_law_906 rfl rfl ?_
  refine J_iload_n (q := 908) X dL_law_907 rfl rfl ?_
  refine J_iconst (q := 909) X dL_law_908 rfl ?_
  refine J_iadd (q := 910) X dL_law_909 rfl ?_
  refine J_sld (q := 911) X hX hbl hbA dL_law_910 (by omega) (by omega) rfl ?_
  refine J_aload_n (q := 912) X dL_law_911 rfl rfl ?_
  refine J_iload_n (q := 913) X dL_law_912 rfl rfl ?_
  refine J_iconst (q := 914) X dL_law_913 rfl ?_
  refine J_iadd (q := 915) X dL_law_914 rfl ?_
  refine J_sld (q := 916) X hX hbl hbA dL_law_915 (by omega) (by omega) rfl ?_
  refine J_aload_n (q := 917) X dL_law_916 rfl rfl ?_
  refine J_iload_n (q := 918) X dL_law_917 rfl rfl ?_
  refine J_iconst (q := 919) X dL_law_918 rfl ?_
  refine J_iadd (q := 920) X dL_law_919 rfl ?_
  refine J_sld (q := 921) X hX hbl hbA dL_law_920 (by omega) (by omega) rfl ?_
  refine J_callI (q := 924) (jrV X mL_124 dL_law_921 (c_X10_lay hM1 hV (jI_bd _) (jI_bd _) (jI_bd _)) h78 (by decide) rfl rfl rfl rfl (Nat.le_of_ble_eq_true rfl) ⟨Nat.le_of_ble_eq_true rfl, Nat.le_of_ble_eq_true rfl, Nat.le_of_ble_eq_true rfl, Nat.le_of_ble_eq_true rfl⟩) rfl (fun z2 E2 hp2 => ?_)
  obtain ⟨rfl, hM2, hf2⟩ := hp2
  refine J_icmp_same (tgt := 1018) X dL_law_924 (by decide) ?_
  exact kk E2 _ (KI_fr hK1 hf2) hM2

set_option maxRecDepth 100000 in
set_option maxHeartbeats 4000000 in
theorem law_c27 {l : Launch} {Γ : JG} {Ω : JO} {ad : Nat → Nat} {b Ln : Nat} {xs : Nat → Int32} {E : Nat → va_E} {i : Int} {s : KS} (X : JX Γ Ω RL cL_law 4 12 600000 7302250 422) (hX : va_X b Ln xs Ω.2.2.2.1 Ω.2.2.2.1.heap) (hbl : b < Ω.2.2.2.1.heap.size) (hbA : ¬ jA Γ b) (hL : Ln ≤ 2560) (hi : 0 ≤ i ∧ i + 5 ≤ (Ln : Int)) (hK : KI Γ ad E s) (hM : MI Γ ad E s) (kk : ∀ (E' : Nat → va_E) (s' : KS), KI Γ ad E' s' → MI Γ ad E' s' → J l Γ Ω 4 ad 95 95 5922 E' 1018 [some (.ref b), some (.ref (ad 0)), some (.ref (ad 78)), some (.int (jI i))] []) : J l Γ Ω 4 ad 95 95 5922 E 929 [some (.ref b), some (.ref (ad 0)), some (.ref (ad 78)), some (.int (jI i))] [] := by
  obtain ⟨fs0, h0⟩ := KI_0 hK
  have hV := hK.2
  refine J_aload_n (q := 930) X dL_law_929 rfl rfl ?_
  refine J_aload_n (q := 931) X dL_law_930 rfl rfl ?_
  refine J_iload_n (q := 932) X dL_law_931 rfl rfl ?_
  refine J_iconst (q := 933) X dL_law_932 rfl ?_
  refine J_iadd (q := 934) X dL_law_933 rfl ?_
  refine J_sld (q := 935) X hX hbl hbA dL_law_934 (by omega) (by omega) rfl ?_
  refine J_aload_n (q := 936) X dL_law_935 rfl rfl ?_
  refine J_iload_n (q := 937) X dL_law_936 rfl rfl ?_
  refine J_iconst (q := 938) X dL_law_937 rfl ?_
  refine J_iadd (q := 939) X dL_law_938 rfl ?_
  refine J_sld (q := 940) X hX hbl hbA dL_law_939 (by omega) (by omega) rfl ?_
  refine J_aload_n (q := 941) X dL_law_940 rfl rfl ?_
  refine J_iload_n (q := 942) X dL_law_941 rfl rfl ?_
  refine J_iconst (q := 943) X dL_law_942 rfl ?_
  refine J_iadd (q := 944) X dL_law_943 rfl ?_
  refine J_sld (q := 945) X hX hbl hbA dL_law_944 (by omega) (by omega) rfl ?_
  refine J_aload_n (q := 946) X dL_law_945 rfl rfl ?_
  refine J_iload_n (q := 947) X dL_law_946 rfl rfl ?_
  refine J_iconst (q := 948) X dL_law_947 rfl ?_
  refine J_iadd (q := 949) X dL_law_948 rfl ?_
  refine J_sld (q := 950) X hX hbl hbA dL_law_949 (by omega) (by omega) rfl ?_
  refine J_callI (q := 953) (jrV X mL_125 dL_law_950 (c_X9_read hK (jI_bd _) (jI_bd _) (jI_bd _) (jI_bd _)) h0 (by decide) rfl rfl rfl rfl (Nat.le_of_ble_eq_true rfl) ⟨Nat.le_of_ble_eq_true rfl, Nat.le_of_ble_eq_true rfl, Nat.le_of_ble_eq_true rfl, Nat.le_of_ble_eq_true rfl⟩) rfl (fun z1 E1 hp1 => ?_)
  obtain ⟨rfl, hK1, hf1⟩ := hp1
  have hM1 := MI_fr hM hf1
  obtain ⟨fs1, h78⟩ := MI_78 hM1
  refine J_aload_n (q := 954) X dL_law_953 rfl rfl ?_
  refine J_aload_n (q := 955) X dL_law_954 rfl rfl ?_
  refine J_iload_n (q := 956) X dL_law_955 rfl rfl ?_
  refine J_iconst (q := 957) X dL_law_956 rfl ?_
  refine J_iadd (q := 958) X dL_law_957 rfl ?_
  refine J_sld (q := 959) X hX hbl hbA dL_law_958 (by omega) (by omega) rfl ?_
  refine J_aload_n (q := 960) X dL_law_959 rfl rfl ?_
  refine J_iload_n (q := 961) X dL_law_960 rfl rfl ?_
  refine J_iconst (q := 962) X dL_law_961 rfl ?_
  refine J_iadd (q := 963) X dL_law_962 rfl ?_
  refine J_sld (q := 964) X hX hbl hbA dL_law_963 (by omega) (by omega) rfl ?_
  refine J_aload_n (q := 965) X dL_law_964 rfl rfl ?_
  refine J_iload_n (q := 966) X dL_law_965 rfl rfl ?_
  refine J_iconst (q := 967) X dL_law_966 rfl ?_
  refine J_iadd (q := 968) X dL_law_967 rfl ?_
  refine J_sld (q := 969) X hX hbl hbA dL_law_968 (by omega) (by omega) rfl ?_
  refine J_aload_n (q := 970) X dL_law_969 rfl rfl ?_
  refine J_iload_n (q := 971) X dL_law_970 rfl rfl ?_
  refine J_iconst (q := 972) X dL_law_971 rfl ?_
  refine J_iadd (q := 973) X dL_law_972 rfl ?_
  refine J_sld (q := 974) X hX hbl hbA dL_law_973 (by omega) (by omega) rfl ?_
  refine J_callI (q := 977) (jrV X mL_129 dL_law_974 (c_X10_read hM1 hV (jI_bd _) (jI_bd _) (jI_bd _) (jI_bd _)) h78 (by decide) rfl rfl rfl rfl (Nat.le_of_ble_eq_true rfl) ⟨Nat.le_of_ble_eq_true rfl, Nat.le_of_ble_eq_true rfl, Nat.le_of_ble_eq_true rfl, Nat.le_of_ble_eq_true rfl⟩) rfl (fun z2 E2 hp2 => ?_)
  obtain ⟨rfl, hM2, hf2⟩ := hp2
  refine J_icmp_same (tgt := 1018) X dL_law_977 (by decide) ?_
  exact kk E2 _ (KI_fr hK1 hf2) hM2

set_option maxRecDepth 100000 in
set_option maxHeartbeats 4000000 in
theorem law_c28 {l : Launch} {Γ : JG} {Ω : JO} {ad : Nat → Nat} {b Ln : Nat} {xs : Nat → Int32} {E : Nat → va_E} {i : Int} {s : KS} (X : JX Γ Ω RL cL_law 4 12 600000 7302250 422) (hX : va_X b Ln xs Ω.2.2.2.1 Ω.2.2.2.1.heap) (hbl : b < Ω.2.2.2.1.heap.size) (hbA : ¬ jA Γ b) (hL : Ln ≤ 2560) (hi : 0 ≤ i ∧ i + 5 ≤ (Ln : Int)) (hK : KI Γ ad E s) (hM : MI Γ ad E s) (kk : ∀ (E' : Nat → va_E) (s' : KS), KI Γ ad E' s' → MI Γ ad E' s' → J l Γ Ω 4 ad 95 95 5922 E' 1018 [some (.ref b), some (.ref (ad 0)), some (.ref (ad 78)), some (.int (jI i))] []) : J l Γ Ω 4 ad 95 95 5922 E 982 [some (.ref b), some (.ref (ad 0)), some (.ref (ad 78)), some (.int (jI i))] [] := by
  obtain ⟨fs0, h0⟩ := KI_0 hK
  have hV := hK.2
  refine J_aload_n (q := 983) X dL_law_982 rfl rfl ?_
  refine J_callP (q := 986) (jrV X mL_130 dL_law_983 (c_X9_torn hK) h0 (by decide) rfl rfl rfl rfl (Nat.le_of_ble_eq_true rfl) ⟨Nat.le_of_ble_eq_true rfl, Nat.le_of_ble_eq_true rfl, Nat.le_of_ble_eq_true rfl, Nat.le_of_ble_eq_true rfl⟩) rfl ?_
  obtain ⟨fs1, h78⟩ := MI_78 hM
  refine J_aload_n (q := 987) X dL_law_986 rfl rfl ?_
  refine J_callI (q := 990) (jrV X mL_133 dL_law_987 (c_X10_torn hM hV) h78 (by decide) rfl rfl rfl rfl (Nat.le_of_ble_eq_true rfl) ⟨Nat.le_of_ble_eq_true rfl, Nat.le_of_ble_eq_true rfl, Nat.le_of_ble_eq_true rfl, Nat.le_of_ble_eq_true rfl⟩) rfl (fun z2 E2 hp2 => ?_)
  obtain ⟨rfl, hM2, hf2⟩ := hp2
  refine J_icmp_same (tgt := 1018) X dL_law_990 (by decide) ?_
  exact kk E2 _ (KI_fr hK hf2) hM2

set_option maxRecDepth 100000 in
set_option maxHeartbeats 4000000 in
theorem law_c29 {l : Launch} {Γ : JG} {Ω : JO} {ad : Nat → Nat} {b Ln : Nat} {xs : Nat → Int32} {E : Nat → va_E} {i : Int} {s : KS} (X : JX Γ Ω RL cL_law 4 12 600000 7302250 422) (hX : va_X b Ln xs Ω.2.2.2.1 Ω.2.2.2.1.heap) (hbl : b < Ω.2.2.2.1.heap.size) (hbA : ¬ jA Γ b) (hL : Ln ≤ 2560) (hi : 0 ≤ i ∧ i + 5 ≤ (Ln : Int)) (hK : KI Γ ad E s) (hM : MI Γ ad E s) (kk : ∀ (E' : Nat → va_E) (s' : KS), KI Γ ad E' s' → MI Γ ad E' s' → J l Γ Ω 4 ad 95 95 5922 E' 1018 [some (.ref b), some (.ref (ad 0)), some (.ref (ad 78)), some (.int (jI i))] []) : J l Γ Ω 4 ad 95 95 5922 E 995 [some (.ref b), some (.ref (ad 0)), some (.ref (ad 78)), some (.int (jI i))] [] := by
  obtain ⟨fs0, h0⟩ := KI_0 hK
  have hV := hK.2
  refine J_aload_n (q := 996) X dL_law_995 rfl rfl ?_
  refine J_aload_n (q := 997) X dL_law_996 rfl rfl ?_
  refine J_iload_n (q := 998) X dL_law_997 rfl rfl ?_
  refine J_iconst (q := 999) X dL_law_998 rfl ?_
  refine J_iadd (q := 1000) X dL_law_999 rfl ?_
  refine J_sld (q := 1001) X hX hbl hbA dL_law_1000 (by omega) (by omega) rfl ?_
  refine J_callP (q := 1004) (jrV X mL_134 dL_law_1001 (c_X9_count hK (jI_bd _)) h0 (by decide) rfl rfl rfl rfl (Nat.le_of_ble_eq_true rfl) ⟨Nat.le_of_ble_eq_true rfl, Nat.le_of_ble_eq_true rfl, Nat.le_of_ble_eq_true rfl, Nat.le_of_ble_eq_true rfl⟩) rfl ?_
  obtain ⟨fs1, h78⟩ := MI_78 hM
  refine J_aload_n (q := 1005) X dL_law_1004 rfl rfl ?_
  refine J_aload_n (q := 1006) X dL_law_1005 rfl rfl ?_
  refine J_iload_n (q := 1007) X dL_law_1006 rfl rfl ?_
  refine J_iconst (q := 1008) X dL_law_1007 rfl ?_
  refine J_iadd (q := 1009) X dL_law_1008 rfl ?_
  refine J_sld (q := 1010) X hX hbl hbA dL_law_1009 (by omega) (by omega) rfl ?_
  refine J_callI (q := 1013) (jrV X mL_137 dL_law_1010 (c_X10_count hM hV (jI_bd _)) h78 (by decide) rfl rfl rfl rfl (Nat.le_of_ble_eq_true rfl) ⟨Nat.le_of_ble_eq_true rfl, Nat.le_of_ble_eq_true rfl, Nat.le_of_ble_eq_true rfl, Nat.le_of_ble_eq_true rfl⟩) rfl (fun z2 E2 hp2 => ?_)
  obtain ⟨rfl, hM2, hf2⟩ := hp2
  refine J_icmp_same (tgt := 1018) X dL_law_1013 (by decide) ?_
  exact kk E2 _ (KI_fr hK hf2) hM2
