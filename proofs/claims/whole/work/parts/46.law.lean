/-! ===== THE LAW: one walk a case of its switch, then its loop ===== -/
def r14 (N : tG) (Q : tQ) (F : tF) (W L T : tW) (V : tM) (P : fI) : List aC :=
  [.inr (8, [.int N.1, .ref 25, .ref 26, .ref 27, .ref 28, .ref 29, .ref 30, .ref 31, .ref 32, .int F.2.2.2, .ref 33, .int W.2, .ref 34, .int L.2, .ref 35, .int T.2, .int V.1, .ref 36, .ref 37]),
   .inl (true, 900, N.2.1), .inl (true, 900, N.2.2), .inl (false, 30, Q.1), .inl (false, 30, V.2.1), .inl (false, 30, P), .inl (false, 31, F.1), .inl (false, 31, F.2.1), .inl (false, 31, F.2.2.1),
   .inl (false, 6000, W.1), .inl (false, 6000, L.1), .inl (false, 6000, T.1), .inl (false, 5, V.2.2), .inl (true, 30, Q.2)]
def x24 (G : tG) (K : tK) (S : tS) (L1 : tL) (U : tU) (L2 L3 : tL) (C : Int32 × Int32) (P : fI) : Nat → aC := fun i => (cp G K S L1 U L2 L3 C P []).getD i (.inr (0, []))
theorem cp_rp (G : tG) (K : tK) (S : tS) (L1 : tL) (U : tU) (L2 L3 : tL) (C : Int32 × Int32) (P : fI) (N : tG) (Q : tQ) (F : tF) (W Lr T : tW) (V : tM) (Pr : fI) : cp G K S L1 U L2 L3 C P (r14 N Q F W Lr T V Pr) = rp (x24 G K S L1 U L2 L3 C P) N Q F W Lr T V Pr := rfl
/-- both sides hold the same state -/
def lwI (σ : tSt) (h : List aC) : Prop := ∃ (G : tG) (K : tK) (S : tS) (L1 : tL) (U : tU) (L2 L3 : tL) (C : Int32 × Int32) (P : fI) (N : tG) (Q : tQ) (F : tF) (W Lr T : tW) (V : tM) (Pr : fI), cSt σ G U L2 L3 P ∧ rSt σ N Lr T V Pr ∧ h = cp G K S L1 U L2 L3 C P (r14 N Q F W Lr T V Pr)
abbrev lwE (nm : String) (L : Nat) (xs : Nat → Int32) : aE := (2048, 600000, 7302250, (⟨RL, nm, ""⟩, cL_law, 4, some .boolean), some (L, xs), fun r _ => r = some (.int 1))
theorem w_in {i L : Nat} (h : i + 4 ≤ L) (hL : L ≤ 2048) : vp_in (nI i) L ∧ vp_in (nI i + 1) L ∧ vp_in (nI i + 2) L ∧ vp_in (nI i + 3) L :=
  ⟨vp_in_nI (by omega) (by omega), by rw [show (1 : Int32) = nI 1 from rfl, nI_add]; exact vp_in_nI (by omega) (by omega), by rw [show (2 : Int32) = nI 2 from rfl, nI_add]; exact vp_in_nI (by omega) (by omega), by rw [show (3 : Int32) = nI 3 from rfl, nI_add]; exact vp_in_nI (by omega) (by omega)⟩
section
variable (nm : String) (L : Nat) (xs : Nat → Int32) (i : Nat)
abbrev lwN : Prop := ∀ (σ' : tSt) (h' : List aC), lwI σ' h' → aGo (lwE nm L xs) 833 [.float 0, .ref 0, .ref 24, .int (nI i)] [] h' 38 38298
theorem w_graph (v1 : vp_in (nI i + 1) L) (σ : tSt) (h : List aC) (hw : lwI σ h) (nx : lwN nm L xs i) : aGo (lwE nm L xs) 156 [.float 0, .ref 0, .ref 24, .int (nI i)] [] h 38 38298 := by
  obtain ⟨G, K, S, L1, U, L2, L3, C, P, N, Q, F, W, Lr, T, V, Pr, hc, hr, rfl⟩ := hw
  refine g_aload_n (i := 1) (pc1 := 157) dL_law_156 rfl rfl rfl ?_
  refine g_sload_n (pc1 := 158) dL_law_157 rfl rfl rfl ?_
  refine g_iload_n (i := 3) (pc1 := 159) dL_law_158 rfl rfl rfl ?_
  refine g_iconst (v := 1) (pc1 := 160) dL_law_159 rfl (by decide) ?_
  refine g_iadd (pc1 := 161) dL_law_160 rfl ?_
  refine g_sld (pc1 := 162) dL_law_161 rfl rfl v1 ?_
  refine g_V1 (M := mX7_graph) (pc1 := 165) dL_law_162 rfl lkL_13 tmX7_graph rfl (f_graph _ _ _ _ _ _ _ _ _ _ _ hc _) (Nat.le_of_ble_eq_true rfl) rfl (Nat.le_of_ble_eq_true rfl) (Nat.le_of_ble_eq_true rfl) ?_
  rintro r g ⟨rfl, G, K, S, L1, U, L2, L3, C, P, hc, rfl⟩
  rw [cp_rp]
  refine g_aload_n (i := 2) (pc1 := 166) dL_law_165 rfl rfl rfl ?_
  refine g_sload_n (pc1 := 167) dL_law_166 rfl rfl rfl ?_
  refine g_iload_n (i := 3) (pc1 := 168) dL_law_167 rfl rfl rfl ?_
  refine g_iconst (v := 1) (pc1 := 169) dL_law_168 rfl (by decide) ?_
  refine g_iadd (pc1 := 170) dL_law_169 rfl ?_
  refine g_sld (pc1 := 171) dL_law_170 rfl rfl v1 ?_
  refine g_V1 (M := mX8_graph) (pc1 := 174) dL_law_171 rfl lkL_17 tmX8_graph rfl (q_graph _ _ _ _ _ _ _ _ _ _ hr _) (Nat.le_of_ble_eq_true rfl) rfl (Nat.le_of_ble_eq_true rfl) (Nat.le_of_ble_eq_true rfl) ?_
  rintro r g ⟨rfl, N, Q, F, W, Lr, T, V, Pr, hr, rfl⟩
  refine g_icmp_eq (pc1 := 177) (tgt := 833) dL_law_174 rfl (by decide) (fun _ => ?_) (fun hbr9 => absurd rfl hbr9)
  exact nx _ _ ⟨G, K, S, L1, U, L2, L3, C, P, N, Q, F, W, Lr, T, V, Pr, hc, hr, rfl⟩
theorem w_edge (v1 : vp_in (nI i + 1) L) (v2 : vp_in (nI i + 2) L) (v3 : vp_in (nI i + 3) L) (σ : tSt) (h : List aC) (hw : lwI σ h) (nx : lwN nm L xs i) : aGo (lwE nm L xs) 179 [.float 0, .ref 0, .ref 24, .int (nI i)] [] h 38 38298 := by
  obtain ⟨G, K, S, L1, U, L2, L3, C, P, N, Q, F, W, Lr, T, V, Pr, hc, hr, rfl⟩ := hw
  refine g_aload_n (i := 1) (pc1 := 180) dL_law_179 rfl rfl rfl ?_
  refine g_sload_n (pc1 := 181) dL_law_180 rfl rfl rfl ?_
  refine g_iload_n (i := 3) (pc1 := 182) dL_law_181 rfl rfl rfl ?_
  refine g_iconst (v := 1) (pc1 := 183) dL_law_182 rfl (by decide) ?_
  refine g_iadd (pc1 := 184) dL_law_183 rfl ?_
  refine g_sld (pc1 := 185) dL_law_184 rfl rfl v1 ?_
  refine g_sload_n (pc1 := 186) dL_law_185 rfl rfl rfl ?_
  refine g_iload_n (i := 3) (pc1 := 187) dL_law_186 rfl rfl rfl ?_
  refine g_iconst (v := 2) (pc1 := 188) dL_law_187 rfl (by decide) ?_
  refine g_iadd (pc1 := 189) dL_law_188 rfl ?_
  refine g_sld (pc1 := 190) dL_law_189 rfl rfl v2 ?_
  refine g_sload_n (pc1 := 191) dL_law_190 rfl rfl rfl ?_
  refine g_iload_n (i := 3) (pc1 := 192) dL_law_191 rfl rfl rfl ?_
  refine g_iconst (v := 3) (pc1 := 193) dL_law_192 rfl (by decide) ?_
  refine g_iadd (pc1 := 194) dL_law_193 rfl ?_
  refine g_sld (pc1 := 195) dL_law_194 rfl rfl v3 ?_
  refine g_if_eq (pc1 := 198) (tgt := 202) dL_law_195 rfl (by decide) (fun c => ?_) (fun c => ?_)
  · refine g_iconst (v := 0) (pc1 := 203) dL_law_202 rfl (by decide) ?_
    refine g_V3 (M := mX7_edge) (pc1 := 206) dL_law_203 rfl lkL_18 tmX7_edge rfl (f_edge _ _ _ _ _ _ _ _ _ _ _ hc _ _ false) (Nat.le_of_ble_eq_true rfl) rfl (Nat.le_of_ble_eq_true rfl) (Nat.le_of_ble_eq_true rfl) ?_
    rintro r g ⟨rfl, G, K, S, L1, U, L2, L3, C, P, hc, rfl⟩
    rw [cp_rp]
    refine g_aload_n (i := 2) (pc1 := 207) dL_law_206 rfl rfl rfl ?_
    refine g_sload_n (pc1 := 208) dL_law_207 rfl rfl rfl ?_
    refine g_iload_n (i := 3) (pc1 := 209) dL_law_208 rfl rfl rfl ?_
    refine g_iconst (v := 1) (pc1 := 210) dL_law_209 rfl (by decide) ?_
    refine g_iadd (pc1 := 211) dL_law_210 rfl ?_
    refine g_sld (pc1 := 212) dL_law_211 rfl rfl v1 ?_
    refine g_sload_n (pc1 := 213) dL_law_212 rfl rfl rfl ?_
    refine g_iload_n (i := 3) (pc1 := 214) dL_law_213 rfl rfl rfl ?_
    refine g_iconst (v := 2) (pc1 := 215) dL_law_214 rfl (by decide) ?_
    refine g_iadd (pc1 := 216) dL_law_215 rfl ?_
    refine g_sld (pc1 := 217) dL_law_216 rfl rfl v2 ?_
    refine g_sload_n (pc1 := 218) dL_law_217 rfl rfl rfl ?_
    refine g_iload_n (i := 3) (pc1 := 219) dL_law_218 rfl rfl rfl ?_
    refine g_iconst (v := 3) (pc1 := 220) dL_law_219 rfl (by decide) ?_
    refine g_iadd (pc1 := 221) dL_law_220 rfl ?_
    refine g_sld (pc1 := 222) dL_law_221 rfl rfl v3 ?_
    refine g_if_eq (pc1 := 225) (tgt := 229) dL_law_222 rfl (by decide) (fun _ => ?_) (fun hbr9 => absurd c hbr9)
    refine g_iconst (v := 0) (pc1 := 230) dL_law_229 rfl (by decide) ?_
    refine g_V3 (M := mX8_edge) (pc1 := 233) dL_law_230 rfl lkL_22 tmX8_edge rfl (q_edge _ _ _ _ _ _ _ _ _ _ hr _ _ false) (Nat.le_of_ble_eq_true rfl) rfl (Nat.le_of_ble_eq_true rfl) (Nat.le_of_ble_eq_true rfl) ?_
    rintro r g ⟨rfl, N, Q, F, W, Lr, T, V, Pr, hr, rfl⟩
    refine g_icmp_eq (pc1 := 236) (tgt := 833) dL_law_233 rfl (by decide) (fun _ => ?_) (fun hbr9 => absurd rfl hbr9)
    exact nx _ _ ⟨G, K, S, L1, U, L2, L3, C, P, N, Q, F, W, Lr, T, V, Pr, hc, hr, rfl⟩
  · refine g_iconst (v := 1) (pc1 := 199) dL_law_198 rfl (by decide) ?_
    refine g_goto (tgt := 203) dL_law_199 (by decide) ?_
    refine g_V3 (M := mX7_edge) (pc1 := 206) dL_law_203 rfl lkL_18 tmX7_edge rfl (f_edge _ _ _ _ _ _ _ _ _ _ _ hc _ _ true) (Nat.le_of_ble_eq_true rfl) rfl (Nat.le_of_ble_eq_true rfl) (Nat.le_of_ble_eq_true rfl) ?_
    rintro r g ⟨rfl, G, K, S, L1, U, L2, L3, C, P, hc, rfl⟩
    rw [cp_rp]
    refine g_aload_n (i := 2) (pc1 := 207) dL_law_206 rfl rfl rfl ?_
    refine g_sload_n (pc1 := 208) dL_law_207 rfl rfl rfl ?_
    refine g_iload_n (i := 3) (pc1 := 209) dL_law_208 rfl rfl rfl ?_
    refine g_iconst (v := 1) (pc1 := 210) dL_law_209 rfl (by decide) ?_
    refine g_iadd (pc1 := 211) dL_law_210 rfl ?_
    refine g_sld (pc1 := 212) dL_law_211 rfl rfl v1 ?_
    refine g_sload_n (pc1 := 213) dL_law_212 rfl rfl rfl ?_
    refine g_iload_n (i := 3) (pc1 := 214) dL_law_213 rfl rfl rfl ?_
    refine g_iconst (v := 2) (pc1 := 215) dL_law_214 rfl (by decide) ?_
    refine g_iadd (pc1 := 216) dL_law_215 rfl ?_
    refine g_sld (pc1 := 217) dL_law_216 rfl rfl v2 ?_
    refine g_sload_n (pc1 := 218) dL_law_217 rfl rfl rfl ?_
    refine g_iload_n (i := 3) (pc1 := 219) dL_law_218 rfl rfl rfl ?_
    refine g_iconst (v := 3) (pc1 := 220) dL_law_219 rfl (by decide) ?_
    refine g_iadd (pc1 := 221) dL_law_220 rfl ?_
    refine g_sld (pc1 := 222) dL_law_221 rfl rfl v3 ?_
    refine g_if_eq (pc1 := 225) (tgt := 229) dL_law_222 rfl (by decide) (fun hbr9 => absurd hbr9 c) (fun _ => ?_)
    refine g_iconst (v := 1) (pc1 := 226) dL_law_225 rfl (by decide) ?_
    refine g_goto (tgt := 230) dL_law_226 (by decide) ?_
    refine g_V3 (M := mX8_edge) (pc1 := 233) dL_law_230 rfl lkL_22 tmX8_edge rfl (q_edge _ _ _ _ _ _ _ _ _ _ hr _ _ true) (Nat.le_of_ble_eq_true rfl) rfl (Nat.le_of_ble_eq_true rfl) (Nat.le_of_ble_eq_true rfl) ?_
    rintro r g ⟨rfl, N, Q, F, W, Lr, T, V, Pr, hr, rfl⟩
    refine g_icmp_eq (pc1 := 236) (tgt := 833) dL_law_233 rfl (by decide) (fun _ => ?_) (fun hbr9 => absurd rfl hbr9)
    exact nx _ _ ⟨G, K, S, L1, U, L2, L3, C, P, N, Q, F, W, Lr, T, V, Pr, hc, hr, rfl⟩
theorem w_draw (v1 : vp_in (nI i + 1) L) (v2 : vp_in (nI i + 2) L) (σ : tSt) (h : List aC) (hw : lwI σ h) (nx : lwN nm L xs i) : aGo (lwE nm L xs) 238 [.float 0, .ref 0, .ref 24, .int (nI i)] [] h 38 38298 := by
  obtain ⟨G, K, S, L1, U, L2, L3, C, P, N, Q, F, W, Lr, T, V, Pr, hc, hr, rfl⟩ := hw
  refine g_aload_n (i := 1) (pc1 := 239) dL_law_238 rfl rfl rfl ?_
  refine g_sload_n (pc1 := 240) dL_law_239 rfl rfl rfl ?_
  refine g_iload_n (i := 3) (pc1 := 241) dL_law_240 rfl rfl rfl ?_
  refine g_iconst (v := 1) (pc1 := 242) dL_law_241 rfl (by decide) ?_
  refine g_iadd (pc1 := 243) dL_law_242 rfl ?_
  refine g_sld (pc1 := 244) dL_law_243 rfl rfl v1 ?_
  refine g_sload_n (pc1 := 245) dL_law_244 rfl rfl rfl ?_
  refine g_iload_n (i := 3) (pc1 := 246) dL_law_245 rfl rfl rfl ?_
  refine g_iconst (v := 2) (pc1 := 247) dL_law_246 rfl (by decide) ?_
  refine g_iadd (pc1 := 248) dL_law_247 rfl ?_
  refine g_sld (pc1 := 249) dL_law_248 rfl rfl v2 ?_
  refine g_V2 (M := mX7_draw) (pc1 := 252) dL_law_249 rfl lkL_23 tmX7_draw rfl (f_draw _ _ _ _ _ _ _ _ _ _ _ hc _ _) (Nat.le_of_ble_eq_true rfl) rfl (Nat.le_of_ble_eq_true rfl) (Nat.le_of_ble_eq_true rfl) ?_
  rintro r g ⟨rfl, G, K, S, L1, U, L2, L3, C, P, hc, rfl⟩
  rw [cp_rp]
  refine g_aload_n (i := 2) (pc1 := 253) dL_law_252 rfl rfl rfl ?_
  refine g_sload_n (pc1 := 254) dL_law_253 rfl rfl rfl ?_
  refine g_iload_n (i := 3) (pc1 := 255) dL_law_254 rfl rfl rfl ?_
  refine g_iconst (v := 1) (pc1 := 256) dL_law_255 rfl (by decide) ?_
  refine g_iadd (pc1 := 257) dL_law_256 rfl ?_
  refine g_sld (pc1 := 258) dL_law_257 rfl rfl v1 ?_
  refine g_sload_n (pc1 := 259) dL_law_258 rfl rfl rfl ?_
  refine g_iload_n (i := 3) (pc1 := 260) dL_law_259 rfl rfl rfl ?_
  refine g_iconst (v := 2) (pc1 := 261) dL_law_260 rfl (by decide) ?_
  refine g_iadd (pc1 := 262) dL_law_261 rfl ?_
  refine g_sld (pc1 := 263) dL_law_262 rfl rfl v2 ?_
  refine g_V2 (M := mX8_draw) (pc1 := 266) dL_law_263 rfl lkL_27 tmX8_draw rfl (q_draw _ _ _ _ _ _ _ _ _ _ hr _ _) (Nat.le_of_ble_eq_true rfl) rfl (Nat.le_of_ble_eq_true rfl) (Nat.le_of_ble_eq_true rfl) ?_
  rintro r g ⟨rfl, N, Q, F, W, Lr, T, V, Pr, hr, rfl⟩
  refine g_icmp_eq (pc1 := 269) (tgt := 833) dL_law_266 rfl (by decide) (fun _ => ?_) (fun hbr9 => absurd rfl hbr9)
  exact nx _ _ ⟨G, K, S, L1, U, L2, L3, C, P, N, Q, F, W, Lr, T, V, Pr, hc, hr, rfl⟩
theorem w_turn (v1 : vp_in (nI i + 1) L) (v2 : vp_in (nI i + 2) L) (σ : tSt) (h : List aC) (hw : lwI σ h) (nx : lwN nm L xs i) : aGo (lwE nm L xs) 271 [.float 0, .ref 0, .ref 24, .int (nI i)] [] h 38 38298 := by
  obtain ⟨G, K, S, L1, U, L2, L3, C, P, N, Q, F, W, Lr, T, V, Pr, hc, hr, rfl⟩ := hw
  refine g_aload_n (i := 1) (pc1 := 272) dL_law_271 rfl rfl rfl ?_
  refine g_sload_n (pc1 := 273) dL_law_272 rfl rfl rfl ?_
  refine g_iload_n (i := 3) (pc1 := 274) dL_law_273 rfl rfl rfl ?_
  refine g_iconst (v := 1) (pc1 := 275) dL_law_274 rfl (by decide) ?_
  refine g_iadd (pc1 := 276) dL_law_275 rfl ?_
  refine g_sld (pc1 := 277) dL_law_276 rfl rfl v1 ?_
  refine g_sload_n (pc1 := 278) dL_law_277 rfl rfl rfl ?_
  refine g_iload_n (i := 3) (pc1 := 279) dL_law_278 rfl rfl rfl ?_
  refine g_iconst (v := 2) (pc1 := 280) dL_law_279 rfl (by decide) ?_
  refine g_iadd (pc1 := 281) dL_law_280 rfl ?_
  refine g_sld (pc1 := 282) dL_law_281 rfl rfl v2 ?_
  refine g_V2 (M := mX7_turn) (pc1 := 285) dL_law_282 rfl lkL_28 tmX7_turn rfl (f_turn _ _ _ _ _ _ _ _ _ _ _ hc _ _) (Nat.le_of_ble_eq_true rfl) rfl (Nat.le_of_ble_eq_true rfl) (Nat.le_of_ble_eq_true rfl) ?_
  rintro r g ⟨rfl, G, K, S, L1, U, L2, L3, C, P, hc, rfl⟩
  rw [cp_rp]
  refine g_aload_n (i := 2) (pc1 := 286) dL_law_285 rfl rfl rfl ?_
  refine g_sload_n (pc1 := 287) dL_law_286 rfl rfl rfl ?_
  refine g_iload_n (i := 3) (pc1 := 288) dL_law_287 rfl rfl rfl ?_
  refine g_iconst (v := 1) (pc1 := 289) dL_law_288 rfl (by decide) ?_
  refine g_iadd (pc1 := 290) dL_law_289 rfl ?_
  refine g_sld (pc1 := 291) dL_law_290 rfl rfl v1 ?_
  refine g_sload_n (pc1 := 292) dL_law_291 rfl rfl rfl ?_
  refine g_iload_n (i := 3) (pc1 := 293) dL_law_292 rfl rfl rfl ?_
  refine g_iconst (v := 2) (pc1 := 294) dL_law_293 rfl (by decide) ?_
  refine g_iadd (pc1 := 295) dL_law_294 rfl ?_
  refine g_sld (pc1 := 296) dL_law_295 rfl rfl v2 ?_
  refine g_V2 (M := mX8_turn) (pc1 := 299) dL_law_296 rfl lkL_31 tmX8_turn rfl (q_turn _ _ _ _ _ _ _ _ _ _ hr _ _) (Nat.le_of_ble_eq_true rfl) rfl (Nat.le_of_ble_eq_true rfl) (Nat.le_of_ble_eq_true rfl) ?_
  rintro r g ⟨rfl, N, Q, F, W, Lr, T, V, Pr, hr, rfl⟩
  refine g_icmp_eq (pc1 := 302) (tgt := 833) dL_law_299 rfl (by decide) (fun _ => ?_) (fun hbr9 => absurd rfl hbr9)
  exact nx _ _ ⟨G, K, S, L1, U, L2, L3, C, P, N, Q, F, W, Lr, T, V, Pr, hc, hr, rfl⟩
theorem w_count (v1 : vp_in (nI i + 1) L) (σ : tSt) (h : List aC) (hw : lwI σ h) (nx : lwN nm L xs i) : aGo (lwE nm L xs) 304 [.float 0, .ref 0, .ref 24, .int (nI i)] [] h 38 38298 := by
  obtain ⟨G, K, S, L1, U, L2, L3, C, P, N, Q, F, W, Lr, T, V, Pr, hc, hr, rfl⟩ := hw
  refine g_aload_n (i := 1) (pc1 := 305) dL_law_304 rfl rfl rfl ?_
  refine g_sload_n (pc1 := 306) dL_law_305 rfl rfl rfl ?_
  refine g_iload_n (i := 3) (pc1 := 307) dL_law_306 rfl rfl rfl ?_
  refine g_iconst (v := 1) (pc1 := 308) dL_law_307 rfl (by decide) ?_
  refine g_iadd (pc1 := 309) dL_law_308 rfl ?_
  refine g_sld (pc1 := 310) dL_law_309 rfl rfl v1 ?_
  refine g_V1 (M := mX7_count) (pc1 := 313) dL_law_310 rfl lkL_32 tmX7_count rfl (f_count _ _ _ _ _ _ _ _ _ _ _ hc _) (Nat.le_of_ble_eq_true rfl) rfl (Nat.le_of_ble_eq_true rfl) (Nat.le_of_ble_eq_true rfl) ?_
  rintro r g ⟨rfl, G, K, S, L1, U, L2, L3, C, P, hc, rfl⟩
  rw [cp_rp]
  refine g_aload_n (i := 2) (pc1 := 314) dL_law_313 rfl rfl rfl ?_
  refine g_sload_n (pc1 := 315) dL_law_314 rfl rfl rfl ?_
  refine g_iload_n (i := 3) (pc1 := 316) dL_law_315 rfl rfl rfl ?_
  refine g_iconst (v := 1) (pc1 := 317) dL_law_316 rfl (by decide) ?_
  refine g_iadd (pc1 := 318) dL_law_317 rfl ?_
  refine g_sld (pc1 := 319) dL_law_318 rfl rfl v1 ?_
  refine g_V1 (M := mX8_count) (pc1 := 322) dL_law_319 rfl lkL_35 tmX8_count rfl (q_count _ _ _ _ _ _ _ _ _ _ hr _) (Nat.le_of_ble_eq_true rfl) rfl (Nat.le_of_ble_eq_true rfl) (Nat.le_of_ble_eq_true rfl) ?_
  rintro r g ⟨rfl, N, Q, F, W, Lr, T, V, Pr, hr, rfl⟩
  refine g_icmp_eq (pc1 := 325) (tgt := 833) dL_law_322 rfl (by decide) (fun _ => ?_) (fun hbr9 => absurd rfl hbr9)
  exact nx _ _ ⟨G, K, S, L1, U, L2, L3, C, P, N, Q, F, W, Lr, T, V, Pr, hc, hr, rfl⟩
theorem w_has (v1 : vp_in (nI i + 1) L) (v2 : vp_in (nI i + 2) L) (σ : tSt) (h : List aC) (hw : lwI σ h) (nx : lwN nm L xs i) : aGo (lwE nm L xs) 327 [.float 0, .ref 0, .ref 24, .int (nI i)] [] h 38 38298 := by
  obtain ⟨G, K, S, L1, U, L2, L3, C, P, N, Q, F, W, Lr, T, V, Pr, hc, hr, rfl⟩ := hw
  refine g_aload_n (i := 1) (pc1 := 328) dL_law_327 rfl rfl rfl ?_
  refine g_sload_n (pc1 := 329) dL_law_328 rfl rfl rfl ?_
  refine g_iload_n (i := 3) (pc1 := 330) dL_law_329 rfl rfl rfl ?_
  refine g_iconst (v := 1) (pc1 := 331) dL_law_330 rfl (by decide) ?_
  refine g_iadd (pc1 := 332) dL_law_331 rfl ?_
  refine g_sld (pc1 := 333) dL_law_332 rfl rfl v1 ?_
  refine g_sload_n (pc1 := 334) dL_law_333 rfl rfl rfl ?_
  refine g_iload_n (i := 3) (pc1 := 335) dL_law_334 rfl rfl rfl ?_
  refine g_iconst (v := 2) (pc1 := 336) dL_law_335 rfl (by decide) ?_
  refine g_iadd (pc1 := 337) dL_law_336 rfl ?_
  refine g_sld (pc1 := 338) dL_law_337 rfl rfl v2 ?_
  refine g_V2 (M := mX7_has) (pc1 := 341) dL_law_338 rfl lkL_36 tmX7_has rfl (f_has _ _ _ _ _ _ _ _ _ _ _ hc _ _) (Nat.le_of_ble_eq_true rfl) rfl (Nat.le_of_ble_eq_true rfl) (Nat.le_of_ble_eq_true rfl) ?_
  rintro r g ⟨rfl, G, K, S, L1, U, L2, L3, C, P, hc, rfl⟩
  rw [cp_rp]
  refine g_aload_n (i := 2) (pc1 := 342) dL_law_341 rfl rfl rfl ?_
  refine g_sload_n (pc1 := 343) dL_law_342 rfl rfl rfl ?_
  refine g_iload_n (i := 3) (pc1 := 344) dL_law_343 rfl rfl rfl ?_
  refine g_iconst (v := 1) (pc1 := 345) dL_law_344 rfl (by decide) ?_
  refine g_iadd (pc1 := 346) dL_law_345 rfl ?_
  refine g_sld (pc1 := 347) dL_law_346 rfl rfl v1 ?_
  refine g_sload_n (pc1 := 348) dL_law_347 rfl rfl rfl ?_
  refine g_iload_n (i := 3) (pc1 := 349) dL_law_348 rfl rfl rfl ?_
  refine g_iconst (v := 2) (pc1 := 350) dL_law_349 rfl (by decide) ?_
  refine g_iadd (pc1 := 351) dL_law_350 rfl ?_
  refine g_sld (pc1 := 352) dL_law_351 rfl rfl v2 ?_
  refine g_V2 (M := mX8_has) (pc1 := 355) dL_law_352 rfl lkL_40 tmX8_has rfl (q_has _ _ _ _ _ _ _ _ _ _ hr _ _) (Nat.le_of_ble_eq_true rfl) rfl (Nat.le_of_ble_eq_true rfl) (Nat.le_of_ble_eq_true rfl) ?_
  rintro r g ⟨rfl, N, Q, F, W, Lr, T, V, Pr, hr, rfl⟩
  refine g_icmp_eq (pc1 := 358) (tgt := 833) dL_law_355 rfl (by decide) (fun _ => ?_) (fun hbr9 => absurd rfl hbr9)
  exact nx _ _ ⟨G, K, S, L1, U, L2, L3, C, P, N, Q, F, W, Lr, T, V, Pr, hc, hr, rfl⟩
theorem w_degree (v1 : vp_in (nI i + 1) L) (σ : tSt) (h : List aC) (hw : lwI σ h) (nx : lwN nm L xs i) : aGo (lwE nm L xs) 360 [.float 0, .ref 0, .ref 24, .int (nI i)] [] h 38 38298 := by
  obtain ⟨G, K, S, L1, U, L2, L3, C, P, N, Q, F, W, Lr, T, V, Pr, hc, hr, rfl⟩ := hw
  refine g_aload_n (i := 1) (pc1 := 361) dL_law_360 rfl rfl rfl ?_
  refine g_sload_n (pc1 := 362) dL_law_361 rfl rfl rfl ?_
  refine g_iload_n (i := 3) (pc1 := 363) dL_law_362 rfl rfl rfl ?_
  refine g_iconst (v := 1) (pc1 := 364) dL_law_363 rfl (by decide) ?_
  refine g_iadd (pc1 := 365) dL_law_364 rfl ?_
  refine g_sld (pc1 := 366) dL_law_365 rfl rfl v1 ?_
  refine g_V1 (M := mX7_degree) (pc1 := 369) dL_law_366 rfl lkL_41 tmX7_degree rfl (f_degree _ _ _ _ _ _ _ _ _ _ _ hc _) (Nat.le_of_ble_eq_true rfl) rfl (Nat.le_of_ble_eq_true rfl) (Nat.le_of_ble_eq_true rfl) ?_
  rintro r g ⟨rfl, G, K, S, L1, U, L2, L3, C, P, hc, rfl⟩
  rw [cp_rp]
  refine g_aload_n (i := 2) (pc1 := 370) dL_law_369 rfl rfl rfl ?_
  refine g_sload_n (pc1 := 371) dL_law_370 rfl rfl rfl ?_
  refine g_iload_n (i := 3) (pc1 := 372) dL_law_371 rfl rfl rfl ?_
  refine g_iconst (v := 1) (pc1 := 373) dL_law_372 rfl (by decide) ?_
  refine g_iadd (pc1 := 374) dL_law_373 rfl ?_
  refine g_sld (pc1 := 375) dL_law_374 rfl rfl v1 ?_
  refine g_V1 (M := mX8_degree) (pc1 := 378) dL_law_375 rfl lkL_44 tmX8_degree rfl (q_degree _ _ _ _ _ _ _ _ _ _ hr _) (Nat.le_of_ble_eq_true rfl) rfl (Nat.le_of_ble_eq_true rfl) (Nat.le_of_ble_eq_true rfl) ?_
  rintro r g ⟨rfl, N, Q, F, W, Lr, T, V, Pr, hr, rfl⟩
  refine g_icmp_eq (pc1 := 381) (tgt := 833) dL_law_378 rfl (by decide) (fun _ => ?_) (fun hbr9 => absurd rfl hbr9)
  exact nx _ _ ⟨G, K, S, L1, U, L2, L3, C, P, N, Q, F, W, Lr, T, V, Pr, hc, hr, rfl⟩
theorem w_solve (σ : tSt) (h : List aC) (hw : lwI σ h) (nx : lwN nm L xs i) : aGo (lwE nm L xs) 383 [.float 0, .ref 0, .ref 24, .int (nI i)] [] h 38 38298 := by
  obtain ⟨G, K, S, L1, U, L2, L3, C, P, N, Q, F, W, Lr, T, V, Pr, hc, hr, rfl⟩ := hw
  refine g_aload_n (i := 1) (pc1 := 384) dL_law_383 rfl rfl rfl ?_
  refine g_V0 (M := mX7_solve) (pc1 := 387) dL_law_384 rfl lkL_45 tmX7_solve rfl (f_solve _ _ _ _ _ _ _ _ _ _ _ hc) (Nat.le_of_ble_eq_true rfl) rfl (Nat.le_of_ble_eq_true rfl) (Nat.le_of_ble_eq_true rfl) ?_
  rintro r g ⟨rfl, G, K, S, L1, U, L2, L3, C, P, hc, rfl⟩
  rw [cp_rp]
  refine g_aload_n (i := 2) (pc1 := 388) dL_law_387 rfl rfl rfl ?_
  refine g_V0 (M := mX8_solve) (pc1 := 391) dL_law_388 rfl lkL_49 tmX8_solve rfl (q_solve _ _ _ _ _ _ _ _ _ _ hr) (Nat.le_of_ble_eq_true rfl) rfl (Nat.le_of_ble_eq_true rfl) (Nat.le_of_ble_eq_true rfl) ?_
  rintro r g ⟨rfl, N, Q, F, W, Lr, T, V, Pr, hr, rfl⟩
  refine g_icmp_eq (pc1 := 394) (tgt := 833) dL_law_391 rfl (by decide) (fun _ => ?_) (fun hbr9 => absurd rfl hbr9)
  exact nx _ _ ⟨G, K, S, L1, U, L2, L3, C, P, N, Q, F, W, Lr, T, V, Pr, hc, hr, rfl⟩
theorem w_colour (v1 : vp_in (nI i + 1) L) (σ : tSt) (h : List aC) (hw : lwI σ h) (nx : lwN nm L xs i) : aGo (lwE nm L xs) 396 [.float 0, .ref 0, .ref 24, .int (nI i)] [] h 38 38298 := by
  obtain ⟨G, K, S, L1, U, L2, L3, C, P, N, Q, F, W, Lr, T, V, Pr, hc, hr, rfl⟩ := hw
  refine g_aload_n (i := 1) (pc1 := 397) dL_law_396 rfl rfl rfl ?_
  refine g_sload_n (pc1 := 398) dL_law_397 rfl rfl rfl ?_
  refine g_iload_n (i := 3) (pc1 := 399) dL_law_398 rfl rfl rfl ?_
  refine g_iconst (v := 1) (pc1 := 400) dL_law_399 rfl (by decide) ?_
  refine g_iadd (pc1 := 401) dL_law_400 rfl ?_
  refine g_sld (pc1 := 402) dL_law_401 rfl rfl v1 ?_
  refine g_V1 (M := mX7_colour) (pc1 := 405) dL_law_402 rfl lkL_50 tmX7_colour rfl (f_colour _ _ _ _ _ _ _ _ _ _ _ hc _) (Nat.le_of_ble_eq_true rfl) rfl (Nat.le_of_ble_eq_true rfl) (Nat.le_of_ble_eq_true rfl) ?_
  rintro r g ⟨rfl, G, K, S, L1, U, L2, L3, C, P, hc, rfl⟩
  rw [cp_rp]
  refine g_aload_n (i := 2) (pc1 := 406) dL_law_405 rfl rfl rfl ?_
  refine g_sload_n (pc1 := 407) dL_law_406 rfl rfl rfl ?_
  refine g_iload_n (i := 3) (pc1 := 408) dL_law_407 rfl rfl rfl ?_
  refine g_iconst (v := 1) (pc1 := 409) dL_law_408 rfl (by decide) ?_
  refine g_iadd (pc1 := 410) dL_law_409 rfl ?_
  refine g_sld (pc1 := 411) dL_law_410 rfl rfl v1 ?_
  refine g_V1 (M := mX8_colour) (pc1 := 414) dL_law_411 rfl lkL_53 tmX8_colour rfl (q_colour _ _ _ _ _ _ _ _ _ _ hr _) (Nat.le_of_ble_eq_true rfl) rfl (Nat.le_of_ble_eq_true rfl) (Nat.le_of_ble_eq_true rfl) ?_
  rintro r g ⟨rfl, N, Q, F, W, Lr, T, V, Pr, hr, rfl⟩
  refine g_icmp_eq (pc1 := 417) (tgt := 833) dL_law_414 rfl (by decide) (fun _ => ?_) (fun hbr9 => absurd rfl hbr9)
  exact nx _ _ ⟨G, K, S, L1, U, L2, L3, C, P, N, Q, F, W, Lr, T, V, Pr, hc, hr, rfl⟩
theorem w_clique (σ : tSt) (h : List aC) (hw : lwI σ h) (nx : lwN nm L xs i) : aGo (lwE nm L xs) 419 [.float 0, .ref 0, .ref 24, .int (nI i)] [] h 38 38298 := by
  obtain ⟨G, K, S, L1, U, L2, L3, C, P, N, Q, F, W, Lr, T, V, Pr, hc, hr, rfl⟩ := hw
  refine g_aload_n (i := 1) (pc1 := 420) dL_law_419 rfl rfl rfl ?_
  refine g_V0 (M := mX7_clique) (pc1 := 423) dL_law_420 rfl lkL_54 tmX7_clique rfl (f_clique _ _ _ _ _ _ _ _ _ _ _ hc) (Nat.le_of_ble_eq_true rfl) rfl (Nat.le_of_ble_eq_true rfl) (Nat.le_of_ble_eq_true rfl) ?_
  rintro r g ⟨rfl, G, K, S, L1, U, L2, L3, C, P, hc, rfl⟩
  rw [cp_rp]
  refine g_aload_n (i := 2) (pc1 := 424) dL_law_423 rfl rfl rfl ?_
  refine g_V0 (M := mX8_clique) (pc1 := 427) dL_law_424 rfl lkL_57 tmX8_clique rfl (q_clique _ _ _ _ _ _ _ _ _ _ hr) (Nat.le_of_ble_eq_true rfl) rfl (Nat.le_of_ble_eq_true rfl) (Nat.le_of_ble_eq_true rfl) ?_
  rintro r g ⟨rfl, N, Q, F, W, Lr, T, V, Pr, hr, rfl⟩
  refine g_icmp_eq (pc1 := 430) (tgt := 833) dL_law_427 rfl (by decide) (fun _ => ?_) (fun hbr9 => absurd rfl hbr9)
  exact nx _ _ ⟨G, K, S, L1, U, L2, L3, C, P, N, Q, F, W, Lr, T, V, Pr, hc, hr, rfl⟩
theorem w_first (σ : tSt) (h : List aC) (hw : lwI σ h) (nx : lwN nm L xs i) : aGo (lwE nm L xs) 432 [.float 0, .ref 0, .ref 24, .int (nI i)] [] h 38 38298 := by
  obtain ⟨G, K, S, L1, U, L2, L3, C, P, N, Q, F, W, Lr, T, V, Pr, hc, hr, rfl⟩ := hw
  refine g_aload_n (i := 1) (pc1 := 433) dL_law_432 rfl rfl rfl ?_
  refine g_V0 (M := mX7_first) (pc1 := 436) dL_law_433 rfl lkL_58 tmX7_first rfl (f_first _ _ _ _ _ _ _ _ _ _ _ hc) (Nat.le_of_ble_eq_true rfl) rfl (Nat.le_of_ble_eq_true rfl) (Nat.le_of_ble_eq_true rfl) ?_
  rintro r g ⟨rfl, G, K, S, L1, U, L2, L3, C, P, hc, rfl⟩
  rw [cp_rp]
  refine g_aload_n (i := 2) (pc1 := 437) dL_law_436 rfl rfl rfl ?_
  refine g_V0 (M := mX8_first) (pc1 := 440) dL_law_437 rfl lkL_61 tmX8_first rfl (q_first _ _ _ _ _ _ _ _ _ _ hr) (Nat.le_of_ble_eq_true rfl) rfl (Nat.le_of_ble_eq_true rfl) (Nat.le_of_ble_eq_true rfl) ?_
  rintro r g ⟨rfl, N, Q, F, W, Lr, T, V, Pr, hr, rfl⟩
  refine g_icmp_eq (pc1 := 443) (tgt := 833) dL_law_440 rfl (by decide) (fun _ => ?_) (fun hbr9 => absurd rfl hbr9)
  exact nx _ _ ⟨G, K, S, L1, U, L2, L3, C, P, N, Q, F, W, Lr, T, V, Pr, hc, hr, rfl⟩
theorem w_lines (σ : tSt) (h : List aC) (hw : lwI σ h) (nx : lwN nm L xs i) : aGo (lwE nm L xs) 445 [.float 0, .ref 0, .ref 24, .int (nI i)] [] h 38 38298 := by
  obtain ⟨G, K, S, L1, U, L2, L3, C, P, N, Q, F, W, Lr, T, V, Pr, hc, hr, rfl⟩ := hw
  refine g_aload_n (i := 1) (pc1 := 446) dL_law_445 rfl rfl rfl ?_
  refine g_V0 (M := mX7_lines) (pc1 := 449) dL_law_446 rfl lkL_62 tmX7_lines rfl (f_lines _ _ _ _ _ _ _ _ _ _ _ hc) (Nat.le_of_ble_eq_true rfl) rfl (Nat.le_of_ble_eq_true rfl) (Nat.le_of_ble_eq_true rfl) ?_
  rintro r g ⟨rfl, G, K, S, L1, U, L2, L3, C, P, hc, rfl⟩
  rw [cp_rp]
  refine g_aload_n (i := 2) (pc1 := 450) dL_law_449 rfl rfl rfl ?_
  refine g_V0 (M := mX8_lines) (pc1 := 453) dL_law_450 rfl lkL_65 tmX8_lines rfl (q_lines _ _ _ _ _ _ _ _ _ _ hr) (Nat.le_of_ble_eq_true rfl) rfl (Nat.le_of_ble_eq_true rfl) (Nat.le_of_ble_eq_true rfl) ?_
  rintro r g ⟨rfl, N, Q, F, W, Lr, T, V, Pr, hr, rfl⟩
  refine g_icmp_eq (pc1 := 456) (tgt := 833) dL_law_453 rfl (by decide) (fun _ => ?_) (fun hbr9 => absurd rfl hbr9)
  exact nx _ _ ⟨G, K, S, L1, U, L2, L3, C, P, N, Q, F, W, Lr, T, V, Pr, hc, hr, rfl⟩
theorem w_line (v1 : vp_in (nI i + 1) L) (v2 : vp_in (nI i + 2) L) (σ : tSt) (h : List aC) (hw : lwI σ h) (nx : lwN nm L xs i) : aGo (lwE nm L xs) 458 [.float 0, .ref 0, .ref 24, .int (nI i)] [] h 38 38298 := by
  obtain ⟨G, K, S, L1, U, L2, L3, C, P, N, Q, F, W, Lr, T, V, Pr, hc, hr, rfl⟩ := hw
  refine g_aload_n (i := 1) (pc1 := 459) dL_law_458 rfl rfl rfl ?_
  refine g_sload_n (pc1 := 460) dL_law_459 rfl rfl rfl ?_
  refine g_iload_n (i := 3) (pc1 := 461) dL_law_460 rfl rfl rfl ?_
  refine g_iconst (v := 1) (pc1 := 462) dL_law_461 rfl (by decide) ?_
  refine g_iadd (pc1 := 463) dL_law_462 rfl ?_
  refine g_sld (pc1 := 464) dL_law_463 rfl rfl v1 ?_
  refine g_sload_n (pc1 := 465) dL_law_464 rfl rfl rfl ?_
  refine g_iload_n (i := 3) (pc1 := 466) dL_law_465 rfl rfl rfl ?_
  refine g_iconst (v := 2) (pc1 := 467) dL_law_466 rfl (by decide) ?_
  refine g_iadd (pc1 := 468) dL_law_467 rfl ?_
  refine g_sld (pc1 := 469) dL_law_468 rfl rfl v2 ?_
  refine g_V2 (M := mX7_line) (pc1 := 472) dL_law_469 rfl lkL_66 tmX7_line rfl (f_line _ _ _ _ _ _ _ _ _ _ _ hc _ _) (Nat.le_of_ble_eq_true rfl) rfl (Nat.le_of_ble_eq_true rfl) (Nat.le_of_ble_eq_true rfl) ?_
  rintro r g ⟨rfl, G, K, S, L1, U, L2, L3, C, P, hc, rfl⟩
  rw [cp_rp]
  refine g_aload_n (i := 2) (pc1 := 473) dL_law_472 rfl rfl rfl ?_
  refine g_sload_n (pc1 := 474) dL_law_473 rfl rfl rfl ?_
  refine g_iload_n (i := 3) (pc1 := 475) dL_law_474 rfl rfl rfl ?_
  refine g_iconst (v := 1) (pc1 := 476) dL_law_475 rfl (by decide) ?_
  refine g_iadd (pc1 := 477) dL_law_476 rfl ?_
  refine g_sld (pc1 := 478) dL_law_477 rfl rfl v1 ?_
  refine g_sload_n (pc1 := 479) dL_law_478 rfl rfl rfl ?_
  refine g_iload_n (i := 3) (pc1 := 480) dL_law_479 rfl rfl rfl ?_
  refine g_iconst (v := 2) (pc1 := 481) dL_law_480 rfl (by decide) ?_
  refine g_iadd (pc1 := 482) dL_law_481 rfl ?_
  refine g_sld (pc1 := 483) dL_law_482 rfl rfl v2 ?_
  refine g_V2 (M := mX8_line) (pc1 := 486) dL_law_483 rfl lkL_69 tmX8_line rfl (q_line _ _ _ _ _ _ _ _ _ _ hr _ _) (Nat.le_of_ble_eq_true rfl) rfl (Nat.le_of_ble_eq_true rfl) (Nat.le_of_ble_eq_true rfl) ?_
  rintro r g ⟨rfl, N, Q, F, W, Lr, T, V, Pr, hr, rfl⟩
  refine g_icmp_eq (pc1 := 489) (tgt := 833) dL_law_486 rfl (by decide) (fun _ => ?_) (fun hbr9 => absurd rfl hbr9)
  exact nx _ _ ⟨G, K, S, L1, U, L2, L3, C, P, N, Q, F, W, Lr, T, V, Pr, hc, hr, rfl⟩
theorem w_work (v1 : vp_in (nI i + 1) L) (σ : tSt) (h : List aC) (hw : lwI σ h) (nx : lwN nm L xs i) : aGo (lwE nm L xs) 491 [.float 0, .ref 0, .ref 24, .int (nI i)] [] h 38 38298 := by
  obtain ⟨G, K, S, L1, U, L2, L3, C, P, N, Q, F, W, Lr, T, V, Pr, hc, hr, rfl⟩ := hw
  refine g_aload_n (i := 1) (pc1 := 492) dL_law_491 rfl rfl rfl ?_
  refine g_sload_n (pc1 := 493) dL_law_492 rfl rfl rfl ?_
  refine g_iload_n (i := 3) (pc1 := 494) dL_law_493 rfl rfl rfl ?_
  refine g_iconst (v := 1) (pc1 := 495) dL_law_494 rfl (by decide) ?_
  refine g_iadd (pc1 := 496) dL_law_495 rfl ?_
  refine g_sld (pc1 := 497) dL_law_496 rfl rfl v1 ?_
  refine g_V1 (M := mX7_work) (pc1 := 500) dL_law_497 rfl lkL_70 tmX7_work rfl (f_work _ _ _ _ _ _ _ _ _ _ _ hc _) (Nat.le_of_ble_eq_true rfl) rfl (Nat.le_of_ble_eq_true rfl) (Nat.le_of_ble_eq_true rfl) ?_
  rintro r g ⟨rfl, G, K, S, L1, U, L2, L3, C, P, hc, rfl⟩
  rw [cp_rp]
  refine g_aload_n (i := 2) (pc1 := 501) dL_law_500 rfl rfl rfl ?_
  refine g_sload_n (pc1 := 502) dL_law_501 rfl rfl rfl ?_
  refine g_iload_n (i := 3) (pc1 := 503) dL_law_502 rfl rfl rfl ?_
  refine g_iconst (v := 1) (pc1 := 504) dL_law_503 rfl (by decide) ?_
  refine g_iadd (pc1 := 505) dL_law_504 rfl ?_
  refine g_sld (pc1 := 506) dL_law_505 rfl rfl v1 ?_
  refine g_V1 (M := mX8_work) (pc1 := 509) dL_law_506 rfl lkL_73 tmX8_work rfl (q_work _ _ _ _ _ _ _ _ _ _ hr _) (Nat.le_of_ble_eq_true rfl) rfl (Nat.le_of_ble_eq_true rfl) (Nat.le_of_ble_eq_true rfl) ?_
  rintro r g ⟨rfl, N, Q, F, W, Lr, T, V, Pr, hr, rfl⟩
  refine g_icmp_eq (pc1 := 512) (tgt := 833) dL_law_509 rfl (by decide) (fun _ => ?_) (fun hbr9 => absurd rfl hbr9)
  exact nx _ _ ⟨G, K, S, L1, U, L2, L3, C, P, N, Q, F, W, Lr, T, V, Pr, hc, hr, rfl⟩
theorem w_search (v1 : vp_in (nI i + 1) L) (σ : tSt) (h : List aC) (hw : lwI σ h) (nx : lwN nm L xs i) : aGo (lwE nm L xs) 514 [.float 0, .ref 0, .ref 24, .int (nI i)] [] h 38 38298 := by
  obtain ⟨G, K, S, L1, U, L2, L3, C, P, N, Q, F, W, Lr, T, V, Pr, hc, hr, rfl⟩ := hw
  refine g_aload_n (i := 1) (pc1 := 515) dL_law_514 rfl rfl rfl ?_
  refine g_sload_n (pc1 := 516) dL_law_515 rfl rfl rfl ?_
  refine g_iload_n (i := 3) (pc1 := 517) dL_law_516 rfl rfl rfl ?_
  refine g_iconst (v := 1) (pc1 := 518) dL_law_517 rfl (by decide) ?_
  refine g_iadd (pc1 := 519) dL_law_518 rfl ?_
  refine g_sld (pc1 := 520) dL_law_519 rfl rfl v1 ?_
  refine g_V1 (M := mX7_search) (pc1 := 523) dL_law_520 rfl lkL_74 tmX7_search rfl (f_search _ _ _ _ _ _ _ _ _ _ _ hc _) (Nat.le_of_ble_eq_true rfl) rfl (Nat.le_of_ble_eq_true rfl) (Nat.le_of_ble_eq_true rfl) ?_
  rintro r g ⟨rfl, G, K, S, L1, U, L2, L3, C, P, hc, rfl⟩
  rw [cp_rp]
  refine g_aload_n (i := 2) (pc1 := 524) dL_law_523 rfl rfl rfl ?_
  refine g_sload_n (pc1 := 525) dL_law_524 rfl rfl rfl ?_
  refine g_iload_n (i := 3) (pc1 := 526) dL_law_525 rfl rfl rfl ?_
  refine g_iconst (v := 1) (pc1 := 527) dL_law_526 rfl (by decide) ?_
  refine g_iadd (pc1 := 528) dL_law_527 rfl ?_
  refine g_sld (pc1 := 529) dL_law_528 rfl rfl v1 ?_
  refine g_V1 (M := mX8_search) (pc1 := 532) dL_law_529 rfl lkL_77 tmX8_search rfl (q_search _ _ _ _ _ _ _ _ _ _ hr _) (Nat.le_of_ble_eq_true rfl) rfl (Nat.le_of_ble_eq_true rfl) (Nat.le_of_ble_eq_true rfl) ?_
  rintro r g ⟨rfl, N, Q, F, W, Lr, T, V, Pr, hr, rfl⟩
  refine g_icmp_eq (pc1 := 535) (tgt := 833) dL_law_532 rfl (by decide) (fun _ => ?_) (fun hbr9 => absurd rfl hbr9)
  exact nx _ _ ⟨G, K, S, L1, U, L2, L3, C, P, N, Q, F, W, Lr, T, V, Pr, hc, hr, rfl⟩
theorem w_tell (v1 : vp_in (nI i + 1) L) (v2 : vp_in (nI i + 2) L) (σ : tSt) (h : List aC) (hw : lwI σ h) (nx : lwN nm L xs i) : aGo (lwE nm L xs) 537 [.float 0, .ref 0, .ref 24, .int (nI i)] [] h 38 38298 := by
  obtain ⟨G, K, S, L1, U, L2, L3, C, P, N, Q, F, W, Lr, T, V, Pr, hc, hr, rfl⟩ := hw
  refine g_aload_n (i := 1) (pc1 := 538) dL_law_537 rfl rfl rfl ?_
  refine g_sload_n (pc1 := 539) dL_law_538 rfl rfl rfl ?_
  refine g_iload_n (i := 3) (pc1 := 540) dL_law_539 rfl rfl rfl ?_
  refine g_iconst (v := 1) (pc1 := 541) dL_law_540 rfl (by decide) ?_
  refine g_iadd (pc1 := 542) dL_law_541 rfl ?_
  refine g_sld (pc1 := 543) dL_law_542 rfl rfl v1 ?_
  refine g_sload_n (pc1 := 544) dL_law_543 rfl rfl rfl ?_
  refine g_iload_n (i := 3) (pc1 := 545) dL_law_544 rfl rfl rfl ?_
  refine g_iconst (v := 2) (pc1 := 546) dL_law_545 rfl (by decide) ?_
  refine g_iadd (pc1 := 547) dL_law_546 rfl ?_
  refine g_sld (pc1 := 548) dL_law_547 rfl rfl v2 ?_
  refine g_V2 (M := mX7_tell) (pc1 := 551) dL_law_548 rfl lkL_78 tmX7_tell rfl (f_tell _ _ _ _ _ _ _ _ _ _ _ hc _ _) (Nat.le_of_ble_eq_true rfl) rfl (Nat.le_of_ble_eq_true rfl) (Nat.le_of_ble_eq_true rfl) ?_
  rintro r g ⟨rfl, G, K, S, L1, U, L2, L3, C, P, hc, rfl⟩
  rw [cp_rp]
  refine g_aload_n (i := 2) (pc1 := 552) dL_law_551 rfl rfl rfl ?_
  refine g_sload_n (pc1 := 553) dL_law_552 rfl rfl rfl ?_
  refine g_iload_n (i := 3) (pc1 := 554) dL_law_553 rfl rfl rfl ?_
  refine g_iconst (v := 1) (pc1 := 555) dL_law_554 rfl (by decide) ?_
  refine g_iadd (pc1 := 556) dL_law_555 rfl ?_
  refine g_sld (pc1 := 557) dL_law_556 rfl rfl v1 ?_
  refine g_sload_n (pc1 := 558) dL_law_557 rfl rfl rfl ?_
  refine g_iload_n (i := 3) (pc1 := 559) dL_law_558 rfl rfl rfl ?_
  refine g_iconst (v := 2) (pc1 := 560) dL_law_559 rfl (by decide) ?_
  refine g_iadd (pc1 := 561) dL_law_560 rfl ?_
  refine g_sld (pc1 := 562) dL_law_561 rfl rfl v2 ?_
  refine g_V2 (M := mX8_tell) (pc1 := 565) dL_law_562 rfl lkL_81 tmX8_tell rfl (q_tell _ _ _ _ _ _ _ _ _ _ hr _ _) (Nat.le_of_ble_eq_true rfl) rfl (Nat.le_of_ble_eq_true rfl) (Nat.le_of_ble_eq_true rfl) ?_
  rintro r g ⟨rfl, N, Q, F, W, Lr, T, V, Pr, hr, rfl⟩
  refine g_icmp_eq (pc1 := 568) (tgt := 833) dL_law_565 rfl (by decide) (fun _ => ?_) (fun hbr9 => absurd rfl hbr9)
  exact nx _ _ ⟨G, K, S, L1, U, L2, L3, C, P, N, Q, F, W, Lr, T, V, Pr, hc, hr, rfl⟩
theorem w_take (σ : tSt) (h : List aC) (hw : lwI σ h) (nx : lwN nm L xs i) : aGo (lwE nm L xs) 570 [.float 0, .ref 0, .ref 24, .int (nI i)] [] h 38 38298 := by
  obtain ⟨G, K, S, L1, U, L2, L3, C, P, N, Q, F, W, Lr, T, V, Pr, hc, hr, rfl⟩ := hw
  refine g_aload_n (i := 1) (pc1 := 571) dL_law_570 rfl rfl rfl ?_
  refine g_V0 (M := mX7_take) (pc1 := 574) dL_law_571 rfl lkL_82 tmX7_take rfl (f_take _ _ _ _ _ _ _ _ _ _ _ hc) (Nat.le_of_ble_eq_true rfl) rfl (Nat.le_of_ble_eq_true rfl) (Nat.le_of_ble_eq_true rfl) ?_
  rintro r g ⟨rfl, G, K, S, L1, U, L2, L3, C, P, hc, rfl⟩
  rw [cp_rp]
  refine g_aload_n (i := 2) (pc1 := 575) dL_law_574 rfl rfl rfl ?_
  refine g_V0 (M := mX8_take) (pc1 := 578) dL_law_575 rfl lkL_85 tmX8_take rfl (q_take _ _ _ _ _ _ _ _ _ _ hr) (Nat.le_of_ble_eq_true rfl) rfl (Nat.le_of_ble_eq_true rfl) (Nat.le_of_ble_eq_true rfl) ?_
  rintro r g ⟨rfl, N, Q, F, W, Lr, T, V, Pr, hr, rfl⟩
  refine g_icmp_eq (pc1 := 581) (tgt := 833) dL_law_578 rfl (by decide) (fun _ => ?_) (fun hbr9 => absurd rfl hbr9)
  exact nx _ _ ⟨G, K, S, L1, U, L2, L3, C, P, N, Q, F, W, Lr, T, V, Pr, hc, hr, rfl⟩
theorem w_alter (v1 : vp_in (nI i + 1) L) (v2 : vp_in (nI i + 2) L) (v3 : vp_in (nI i + 3) L) (σ : tSt) (h : List aC) (hw : lwI σ h) (nx : lwN nm L xs i) : aGo (lwE nm L xs) 583 [.float 0, .ref 0, .ref 24, .int (nI i)] [] h 38 38298 := by
  obtain ⟨G, K, S, L1, U, L2, L3, C, P, N, Q, F, W, Lr, T, V, Pr, hc, hr, rfl⟩ := hw
  refine g_aload_n (i := 1) (pc1 := 584) dL_law_583 rfl rfl rfl ?_
  refine g_sload_n (pc1 := 585) dL_law_584 rfl rfl rfl ?_
  refine g_iload_n (i := 3) (pc1 := 586) dL_law_585 rfl rfl rfl ?_
  refine g_iconst (v := 1) (pc1 := 587) dL_law_586 rfl (by decide) ?_
  refine g_iadd (pc1 := 588) dL_law_587 rfl ?_
  refine g_sld (pc1 := 589) dL_law_588 rfl rfl v1 ?_
  refine g_sload_n (pc1 := 590) dL_law_589 rfl rfl rfl ?_
  refine g_iload_n (i := 3) (pc1 := 591) dL_law_590 rfl rfl rfl ?_
  refine g_iconst (v := 2) (pc1 := 592) dL_law_591 rfl (by decide) ?_
  refine g_iadd (pc1 := 593) dL_law_592 rfl ?_
  refine g_sld (pc1 := 594) dL_law_593 rfl rfl v2 ?_
  refine g_sload_n (pc1 := 595) dL_law_594 rfl rfl rfl ?_
  refine g_iload_n (i := 3) (pc1 := 596) dL_law_595 rfl rfl rfl ?_
  refine g_iconst (v := 3) (pc1 := 597) dL_law_596 rfl (by decide) ?_
  refine g_iadd (pc1 := 598) dL_law_597 rfl ?_
  refine g_sld (pc1 := 599) dL_law_598 rfl rfl v3 ?_
  refine g_V3 (M := mX7_alter) (pc1 := 602) dL_law_599 rfl lkL_86 tmX7_alter rfl (f_alter _ _ _ _ _ _ _ _ _ _ _ hc _ _ _) (Nat.le_of_ble_eq_true rfl) rfl (Nat.le_of_ble_eq_true rfl) (Nat.le_of_ble_eq_true rfl) ?_
  rintro r g ⟨rfl, G, K, S, L1, U, L2, L3, C, P, hc, rfl⟩
  rw [cp_rp]
  refine g_aload_n (i := 2) (pc1 := 603) dL_law_602 rfl rfl rfl ?_
  refine g_sload_n (pc1 := 604) dL_law_603 rfl rfl rfl ?_
  refine g_iload_n (i := 3) (pc1 := 605) dL_law_604 rfl rfl rfl ?_
  refine g_iconst (v := 1) (pc1 := 606) dL_law_605 rfl (by decide) ?_
  refine g_iadd (pc1 := 607) dL_law_606 rfl ?_
  refine g_sld (pc1 := 608) dL_law_607 rfl rfl v1 ?_
  refine g_sload_n (pc1 := 609) dL_law_608 rfl rfl rfl ?_
  refine g_iload_n (i := 3) (pc1 := 610) dL_law_609 rfl rfl rfl ?_
  refine g_iconst (v := 2) (pc1 := 611) dL_law_610 rfl (by decide) ?_
  refine g_iadd (pc1 := 612) dL_law_611 rfl ?_
  refine g_sld (pc1 := 613) dL_law_612 rfl rfl v2 ?_
  refine g_sload_n (pc1 := 614) dL_law_613 rfl rfl rfl ?_
  refine g_iload_n (i := 3) (pc1 := 615) dL_law_614 rfl rfl rfl ?_
  refine g_iconst (v := 3) (pc1 := 616) dL_law_615 rfl (by decide) ?_
  refine g_iadd (pc1 := 617) dL_law_616 rfl ?_
  refine g_sld (pc1 := 618) dL_law_617 rfl rfl v3 ?_
  refine g_V3 (M := mX8_alter) (pc1 := 621) dL_law_618 rfl lkL_90 tmX8_alter rfl (q_alter _ _ _ _ _ _ _ _ _ _ hr _ _ _) (Nat.le_of_ble_eq_true rfl) rfl (Nat.le_of_ble_eq_true rfl) (Nat.le_of_ble_eq_true rfl) ?_
  rintro r g ⟨rfl, N, Q, F, W, Lr, T, V, Pr, hr, rfl⟩
  refine g_icmp_eq (pc1 := 624) (tgt := 833) dL_law_621 rfl (by decide) (fun _ => ?_) (fun hbr9 => absurd rfl hbr9)
  exact nx _ _ ⟨G, K, S, L1, U, L2, L3, C, P, N, Q, F, W, Lr, T, V, Pr, hc, hr, rfl⟩
theorem w_cut (v1 : vp_in (nI i + 1) L) (σ : tSt) (h : List aC) (hw : lwI σ h) (nx : lwN nm L xs i) : aGo (lwE nm L xs) 626 [.float 0, .ref 0, .ref 24, .int (nI i)] [] h 38 38298 := by
  obtain ⟨G, K, S, L1, U, L2, L3, C, P, N, Q, F, W, Lr, T, V, Pr, hc, hr, rfl⟩ := hw
  refine g_aload_n (i := 1) (pc1 := 627) dL_law_626 rfl rfl rfl ?_
  refine g_sload_n (pc1 := 628) dL_law_627 rfl rfl rfl ?_
  refine g_iload_n (i := 3) (pc1 := 629) dL_law_628 rfl rfl rfl ?_
  refine g_iconst (v := 1) (pc1 := 630) dL_law_629 rfl (by decide) ?_
  refine g_iadd (pc1 := 631) dL_law_630 rfl ?_
  refine g_sld (pc1 := 632) dL_law_631 rfl rfl v1 ?_
  refine g_V1 (M := mX7_cut) (pc1 := 635) dL_law_632 rfl lkL_91 tmX7_cut rfl (f_cut _ _ _ _ _ _ _ _ _ _ _ hc _) (Nat.le_of_ble_eq_true rfl) rfl (Nat.le_of_ble_eq_true rfl) (Nat.le_of_ble_eq_true rfl) ?_
  rintro r g ⟨rfl, G, K, S, L1, U, L2, L3, C, P, hc, rfl⟩
  rw [cp_rp]
  refine g_aload_n (i := 2) (pc1 := 636) dL_law_635 rfl rfl rfl ?_
  refine g_sload_n (pc1 := 637) dL_law_636 rfl rfl rfl ?_
  refine g_iload_n (i := 3) (pc1 := 638) dL_law_637 rfl rfl rfl ?_
  refine g_iconst (v := 1) (pc1 := 639) dL_law_638 rfl (by decide) ?_
  refine g_iadd (pc1 := 640) dL_law_639 rfl ?_
  refine g_sld (pc1 := 641) dL_law_640 rfl rfl v1 ?_
  refine g_V1 (M := mX8_cut) (pc1 := 644) dL_law_641 rfl lkL_94 tmX8_cut rfl (q_cut _ _ _ _ _ _ _ _ _ _ hr _) (Nat.le_of_ble_eq_true rfl) rfl (Nat.le_of_ble_eq_true rfl) (Nat.le_of_ble_eq_true rfl) ?_
  rintro r g ⟨rfl, N, Q, F, W, Lr, T, V, Pr, hr, rfl⟩
  refine g_icmp_eq (pc1 := 647) (tgt := 833) dL_law_644 rfl (by decide) (fun _ => ?_) (fun hbr9 => absurd rfl hbr9)
  exact nx _ _ ⟨G, K, S, L1, U, L2, L3, C, P, N, Q, F, W, Lr, T, V, Pr, hc, hr, rfl⟩
theorem w_told (v1 : vp_in (nI i + 1) L) (v2 : vp_in (nI i + 2) L) (σ : tSt) (h : List aC) (hw : lwI σ h) (nx : lwN nm L xs i) : aGo (lwE nm L xs) 649 [.float 0, .ref 0, .ref 24, .int (nI i)] [] h 38 38298 := by
  obtain ⟨G, K, S, L1, U, L2, L3, C, P, N, Q, F, W, Lr, T, V, Pr, hc, hr, rfl⟩ := hw
  refine g_aload_n (i := 1) (pc1 := 650) dL_law_649 rfl rfl rfl ?_
  refine g_sload_n (pc1 := 651) dL_law_650 rfl rfl rfl ?_
  refine g_iload_n (i := 3) (pc1 := 652) dL_law_651 rfl rfl rfl ?_
  refine g_iconst (v := 1) (pc1 := 653) dL_law_652 rfl (by decide) ?_
  refine g_iadd (pc1 := 654) dL_law_653 rfl ?_
  refine g_sld (pc1 := 655) dL_law_654 rfl rfl v1 ?_
  refine g_sload_n (pc1 := 656) dL_law_655 rfl rfl rfl ?_
  refine g_iload_n (i := 3) (pc1 := 657) dL_law_656 rfl rfl rfl ?_
  refine g_iconst (v := 2) (pc1 := 658) dL_law_657 rfl (by decide) ?_
  refine g_iadd (pc1 := 659) dL_law_658 rfl ?_
  refine g_sld (pc1 := 660) dL_law_659 rfl rfl v2 ?_
  refine g_V2 (M := mX7_told) (pc1 := 663) dL_law_660 rfl lkL_95 tmX7_told rfl (f_told _ _ _ _ _ _ _ _ _ _ _ hc _ _) (Nat.le_of_ble_eq_true rfl) rfl (Nat.le_of_ble_eq_true rfl) (Nat.le_of_ble_eq_true rfl) ?_
  rintro r g ⟨rfl, G, K, S, L1, U, L2, L3, C, P, hc, rfl⟩
  rw [cp_rp]
  refine g_aload_n (i := 2) (pc1 := 664) dL_law_663 rfl rfl rfl ?_
  refine g_sload_n (pc1 := 665) dL_law_664 rfl rfl rfl ?_
  refine g_iload_n (i := 3) (pc1 := 666) dL_law_665 rfl rfl rfl ?_
  refine g_iconst (v := 1) (pc1 := 667) dL_law_666 rfl (by decide) ?_
  refine g_iadd (pc1 := 668) dL_law_667 rfl ?_
  refine g_sld (pc1 := 669) dL_law_668 rfl rfl v1 ?_
  refine g_sload_n (pc1 := 670) dL_law_669 rfl rfl rfl ?_
  refine g_iload_n (i := 3) (pc1 := 671) dL_law_670 rfl rfl rfl ?_
  refine g_iconst (v := 2) (pc1 := 672) dL_law_671 rfl (by decide) ?_
  refine g_iadd (pc1 := 673) dL_law_672 rfl ?_
  refine g_sld (pc1 := 674) dL_law_673 rfl rfl v2 ?_
  refine g_V2 (M := mX8_told) (pc1 := 677) dL_law_674 rfl lkL_98 tmX8_told rfl (q_told _ _ _ _ _ _ _ _ _ _ hr _ _) (Nat.le_of_ble_eq_true rfl) rfl (Nat.le_of_ble_eq_true rfl) (Nat.le_of_ble_eq_true rfl) ?_
  rintro r g ⟨rfl, N, Q, F, W, Lr, T, V, Pr, hr, rfl⟩
  refine g_icmp_eq (pc1 := 680) (tgt := 833) dL_law_677 rfl (by decide) (fun _ => ?_) (fun hbr9 => absurd rfl hbr9)
  exact nx _ _ ⟨G, K, S, L1, U, L2, L3, C, P, N, Q, F, W, Lr, T, V, Pr, hc, hr, rfl⟩
theorem w_check (v1 : vp_in (nI i + 1) L) (σ : tSt) (h : List aC) (hw : lwI σ h) (nx : lwN nm L xs i) : aGo (lwE nm L xs) 682 [.float 0, .ref 0, .ref 24, .int (nI i)] [] h 38 38298 := by
  obtain ⟨G, K, S, L1, U, L2, L3, C, P, N, Q, F, W, Lr, T, V, Pr, hc, hr, rfl⟩ := hw
  refine g_aload_n (i := 1) (pc1 := 683) dL_law_682 rfl rfl rfl ?_
  refine g_sload_n (pc1 := 684) dL_law_683 rfl rfl rfl ?_
  refine g_iload_n (i := 3) (pc1 := 685) dL_law_684 rfl rfl rfl ?_
  refine g_iconst (v := 1) (pc1 := 686) dL_law_685 rfl (by decide) ?_
  refine g_iadd (pc1 := 687) dL_law_686 rfl ?_
  refine g_sld (pc1 := 688) dL_law_687 rfl rfl v1 ?_
  refine g_V1 (M := mX7_check) (pc1 := 691) dL_law_688 rfl lkL_99 tmX7_check rfl (f_check _ _ _ _ _ _ _ _ _ _ _ hc _) (Nat.le_of_ble_eq_true rfl) rfl (Nat.le_of_ble_eq_true rfl) (Nat.le_of_ble_eq_true rfl) ?_
  rintro r g ⟨rfl, G, K, S, L1, U, L2, L3, C, P, hc, rfl⟩
  rw [cp_rp]
  refine g_aload_n (i := 2) (pc1 := 692) dL_law_691 rfl rfl rfl ?_
  refine g_sload_n (pc1 := 693) dL_law_692 rfl rfl rfl ?_
  refine g_iload_n (i := 3) (pc1 := 694) dL_law_693 rfl rfl rfl ?_
  refine g_iconst (v := 1) (pc1 := 695) dL_law_694 rfl (by decide) ?_
  refine g_iadd (pc1 := 696) dL_law_695 rfl ?_
  refine g_sld (pc1 := 697) dL_law_696 rfl rfl v1 ?_
  refine g_V1 (M := mX8_check) (pc1 := 700) dL_law_697 rfl lkL_102 tmX8_check rfl (q_check _ _ _ _ _ _ _ _ _ _ hr _) (Nat.le_of_ble_eq_true rfl) rfl (Nat.le_of_ble_eq_true rfl) (Nat.le_of_ble_eq_true rfl) ?_
  rintro r g ⟨rfl, N, Q, F, W, Lr, T, V, Pr, hr, rfl⟩
  refine g_icmp_eq (pc1 := 703) (tgt := 833) dL_law_700 rfl (by decide) (fun _ => ?_) (fun hbr9 => absurd rfl hbr9)
  exact nx _ _ ⟨G, K, S, L1, U, L2, L3, C, P, N, Q, F, W, Lr, T, V, Pr, hc, hr, rfl⟩
theorem w_paint (v1 : vp_in (nI i + 1) L) (v2 : vp_in (nI i + 2) L) (σ : tSt) (h : List aC) (hw : lwI σ h) (nx : lwN nm L xs i) : aGo (lwE nm L xs) 705 [.float 0, .ref 0, .ref 24, .int (nI i)] [] h 38 38298 := by
  obtain ⟨G, K, S, L1, U, L2, L3, C, P, N, Q, F, W, Lr, T, V, Pr, hc, hr, rfl⟩ := hw
  refine g_aload_n (i := 1) (pc1 := 706) dL_law_705 rfl rfl rfl ?_
  refine g_sload_n (pc1 := 707) dL_law_706 rfl rfl rfl ?_
  refine g_iload_n (i := 3) (pc1 := 708) dL_law_707 rfl rfl rfl ?_
  refine g_iconst (v := 1) (pc1 := 709) dL_law_708 rfl (by decide) ?_
  refine g_iadd (pc1 := 710) dL_law_709 rfl ?_
  refine g_sld (pc1 := 711) dL_law_710 rfl rfl v1 ?_
  refine g_sload_n (pc1 := 712) dL_law_711 rfl rfl rfl ?_
  refine g_iload_n (i := 3) (pc1 := 713) dL_law_712 rfl rfl rfl ?_
  refine g_iconst (v := 2) (pc1 := 714) dL_law_713 rfl (by decide) ?_
  refine g_iadd (pc1 := 715) dL_law_714 rfl ?_
  refine g_sld (pc1 := 716) dL_law_715 rfl rfl v2 ?_
  refine g_V2 (M := mX7_paint) (pc1 := 719) dL_law_716 rfl lkL_103 tmX7_paint rfl (f_paint _ _ _ _ _ _ _ _ _ _ _ hc _ _) (Nat.le_of_ble_eq_true rfl) rfl (Nat.le_of_ble_eq_true rfl) (Nat.le_of_ble_eq_true rfl) ?_
  rintro r g ⟨rfl, G, K, S, L1, U, L2, L3, C, P, hc, rfl⟩
  rw [cp_rp]
  refine g_aload_n (i := 2) (pc1 := 720) dL_law_719 rfl rfl rfl ?_
  refine g_sload_n (pc1 := 721) dL_law_720 rfl rfl rfl ?_
  refine g_iload_n (i := 3) (pc1 := 722) dL_law_721 rfl rfl rfl ?_
  refine g_iconst (v := 1) (pc1 := 723) dL_law_722 rfl (by decide) ?_
  refine g_iadd (pc1 := 724) dL_law_723 rfl ?_
  refine g_sld (pc1 := 725) dL_law_724 rfl rfl v1 ?_
  refine g_sload_n (pc1 := 726) dL_law_725 rfl rfl rfl ?_
  refine g_iload_n (i := 3) (pc1 := 727) dL_law_726 rfl rfl rfl ?_
  refine g_iconst (v := 2) (pc1 := 728) dL_law_727 rfl (by decide) ?_
  refine g_iadd (pc1 := 729) dL_law_728 rfl ?_
  refine g_sld (pc1 := 730) dL_law_729 rfl rfl v2 ?_
  refine g_V2 (M := mX8_paint) (pc1 := 733) dL_law_730 rfl lkL_106 tmX8_paint rfl (q_paint _ _ _ _ _ _ _ _ _ _ hr _ _) (Nat.le_of_ble_eq_true rfl) rfl (Nat.le_of_ble_eq_true rfl) (Nat.le_of_ble_eq_true rfl) ?_
  rintro r g ⟨rfl, N, Q, F, W, Lr, T, V, Pr, hr, rfl⟩
  refine g_icmp_eq (pc1 := 736) (tgt := 833) dL_law_733 rfl (by decide) (fun _ => ?_) (fun hbr9 => absurd rfl hbr9)
  exact nx _ _ ⟨G, K, S, L1, U, L2, L3, C, P, N, Q, F, W, Lr, T, V, Pr, hc, hr, rfl⟩
theorem w_copy (σ : tSt) (h : List aC) (hw : lwI σ h) (nx : lwN nm L xs i) : aGo (lwE nm L xs) 738 [.float 0, .ref 0, .ref 24, .int (nI i)] [] h 38 38298 := by
  obtain ⟨G, K, S, L1, U, L2, L3, C, P, N, Q, F, W, Lr, T, V, Pr, hc, hr, rfl⟩ := hw
  refine g_aload_n (i := 1) (pc1 := 739) dL_law_738 rfl rfl rfl ?_
  refine g_V0 (M := mX7_copy) (pc1 := 742) dL_law_739 rfl lkL_107 tmX7_copy rfl (f_copy _ _ _ _ _ _ _ _ _ _ _ hc) (Nat.le_of_ble_eq_true rfl) rfl (Nat.le_of_ble_eq_true rfl) (Nat.le_of_ble_eq_true rfl) ?_
  rintro r g ⟨rfl, G, K, S, L1, U, L2, L3, C, P, hc, rfl⟩
  rw [cp_rp]
  refine g_aload_n (i := 2) (pc1 := 743) dL_law_742 rfl rfl rfl ?_
  refine g_V0 (M := mX8_copy) (pc1 := 746) dL_law_743 rfl lkL_110 tmX8_copy rfl (q_copy _ _ _ _ _ _ _ _ _ _ hr) (Nat.le_of_ble_eq_true rfl) rfl (Nat.le_of_ble_eq_true rfl) (Nat.le_of_ble_eq_true rfl) ?_
  rintro r g ⟨rfl, N, Q, F, W, Lr, T, V, Pr, hr, rfl⟩
  refine g_icmp_eq (pc1 := 749) (tgt := 833) dL_law_746 rfl (by decide) (fun _ => ?_) (fun hbr9 => absurd rfl hbr9)
  exact nx _ _ ⟨G, K, S, L1, U, L2, L3, C, P, N, Q, F, W, Lr, T, V, Pr, hc, hr, rfl⟩
theorem w_clashes (σ : tSt) (h : List aC) (hw : lwI σ h) (nx : lwN nm L xs i) : aGo (lwE nm L xs) 751 [.float 0, .ref 0, .ref 24, .int (nI i)] [] h 38 38298 := by
  obtain ⟨G, K, S, L1, U, L2, L3, C, P, N, Q, F, W, Lr, T, V, Pr, hc, hr, rfl⟩ := hw
  refine g_aload_n (i := 1) (pc1 := 752) dL_law_751 rfl rfl rfl ?_
  refine g_V0 (M := mX7_clashes) (pc1 := 755) dL_law_752 rfl lkL_111 tmX7_clashes rfl (f_clashes _ _ _ _ _ _ _ _ _ _ _ hc) (Nat.le_of_ble_eq_true rfl) rfl (Nat.le_of_ble_eq_true rfl) (Nat.le_of_ble_eq_true rfl) ?_
  rintro r g ⟨rfl, G, K, S, L1, U, L2, L3, C, P, hc, rfl⟩
  rw [cp_rp]
  refine g_aload_n (i := 2) (pc1 := 756) dL_law_755 rfl rfl rfl ?_
  refine g_V0 (M := mX8_clashes) (pc1 := 759) dL_law_756 rfl lkL_114 tmX8_clashes rfl (q_clashes _ _ _ _ _ _ _ _ _ _ hr) (Nat.le_of_ble_eq_true rfl) rfl (Nat.le_of_ble_eq_true rfl) (Nat.le_of_ble_eq_true rfl) ?_
  rintro r g ⟨rfl, N, Q, F, W, Lr, T, V, Pr, hr, rfl⟩
  refine g_icmp_eq (pc1 := 762) (tgt := 833) dL_law_759 rfl (by decide) (fun _ => ?_) (fun hbr9 => absurd rfl hbr9)
  exact nx _ _ ⟨G, K, S, L1, U, L2, L3, C, P, N, Q, F, W, Lr, T, V, Pr, hc, hr, rfl⟩
theorem w_used (σ : tSt) (h : List aC) (hw : lwI σ h) (nx : lwN nm L xs i) : aGo (lwE nm L xs) 764 [.float 0, .ref 0, .ref 24, .int (nI i)] [] h 38 38298 := by
  obtain ⟨G, K, S, L1, U, L2, L3, C, P, N, Q, F, W, Lr, T, V, Pr, hc, hr, rfl⟩ := hw
  refine g_aload_n (i := 1) (pc1 := 765) dL_law_764 rfl rfl rfl ?_
  refine g_V0 (M := mX7_used) (pc1 := 768) dL_law_765 rfl lkL_115 tmX7_used rfl (f_used _ _ _ _ _ _ _ _ _ _ _ hc) (Nat.le_of_ble_eq_true rfl) rfl (Nat.le_of_ble_eq_true rfl) (Nat.le_of_ble_eq_true rfl) ?_
  rintro r g ⟨rfl, G, K, S, L1, U, L2, L3, C, P, hc, rfl⟩
  rw [cp_rp]
  refine g_aload_n (i := 2) (pc1 := 769) dL_law_768 rfl rfl rfl ?_
  refine g_V0 (M := mX8_used) (pc1 := 772) dL_law_769 rfl lkL_118 tmX8_used rfl (q_used _ _ _ _ _ _ _ _ _ _ hr) (Nat.le_of_ble_eq_true rfl) rfl (Nat.le_of_ble_eq_true rfl) (Nat.le_of_ble_eq_true rfl) ?_
  rintro r g ⟨rfl, N, Q, F, W, Lr, T, V, Pr, hr, rfl⟩
  refine g_icmp_eq (pc1 := 775) (tgt := 833) dL_law_772 rfl (by decide) (fun _ => ?_) (fun hbr9 => absurd rfl hbr9)
  exact nx _ _ ⟨G, K, S, L1, U, L2, L3, C, P, N, Q, F, W, Lr, T, V, Pr, hc, hr, rfl⟩
theorem w_chain (v1 : vp_in (nI i + 1) L) (v2 : vp_in (nI i + 2) L) (σ : tSt) (h : List aC) (hw : lwI σ h) (nx : lwN nm L xs i) : aGo (lwE nm L xs) 777 [.float 0, .ref 0, .ref 24, .int (nI i)] [] h 38 38298 := by
  obtain ⟨G, K, S, L1, U, L2, L3, C, P, N, Q, F, W, Lr, T, V, Pr, hc, hr, rfl⟩ := hw
  refine g_aload_n (i := 1) (pc1 := 778) dL_law_777 rfl rfl rfl ?_
  refine g_sload_n (pc1 := 779) dL_law_778 rfl rfl rfl ?_
  refine g_iload_n (i := 3) (pc1 := 780) dL_law_779 rfl rfl rfl ?_
  refine g_iconst (v := 1) (pc1 := 781) dL_law_780 rfl (by decide) ?_
  refine g_iadd (pc1 := 782) dL_law_781 rfl ?_
  refine g_sld (pc1 := 783) dL_law_782 rfl rfl v1 ?_
  refine g_sload_n (pc1 := 784) dL_law_783 rfl rfl rfl ?_
  refine g_iload_n (i := 3) (pc1 := 785) dL_law_784 rfl rfl rfl ?_
  refine g_iconst (v := 2) (pc1 := 786) dL_law_785 rfl (by decide) ?_
  refine g_iadd (pc1 := 787) dL_law_786 rfl ?_
  refine g_sld (pc1 := 788) dL_law_787 rfl rfl v2 ?_
  refine g_V2 (M := mX7_chain) (pc1 := 791) dL_law_788 rfl lkL_119 tmX7_chain rfl (f_chain _ _ _ _ _ _ _ _ _ _ _ hc _ _) (Nat.le_of_ble_eq_true rfl) rfl (Nat.le_of_ble_eq_true rfl) (Nat.le_of_ble_eq_true rfl) ?_
  rintro r g ⟨rfl, G, K, S, L1, U, L2, L3, C, P, hc, rfl⟩
  rw [cp_rp]
  refine g_aload_n (i := 2) (pc1 := 792) dL_law_791 rfl rfl rfl ?_
  refine g_sload_n (pc1 := 793) dL_law_792 rfl rfl rfl ?_
  refine g_iload_n (i := 3) (pc1 := 794) dL_law_793 rfl rfl rfl ?_
  refine g_iconst (v := 1) (pc1 := 795) dL_law_794 rfl (by decide) ?_
  refine g_iadd (pc1 := 796) dL_law_795 rfl ?_
  refine g_sld (pc1 := 797) dL_law_796 rfl rfl v1 ?_
  refine g_sload_n (pc1 := 798) dL_law_797 rfl rfl rfl ?_
  refine g_iload_n (i := 3) (pc1 := 799) dL_law_798 rfl rfl rfl ?_
  refine g_iconst (v := 2) (pc1 := 800) dL_law_799 rfl (by decide) ?_
  refine g_iadd (pc1 := 801) dL_law_800 rfl ?_
  refine g_sld (pc1 := 802) dL_law_801 rfl rfl v2 ?_
  refine g_V2 (M := mX8_chain) (pc1 := 805) dL_law_802 rfl lkL_122 tmX8_chain rfl (q_chain _ _ _ _ _ _ _ _ _ _ hr _ _) (Nat.le_of_ble_eq_true rfl) rfl (Nat.le_of_ble_eq_true rfl) (Nat.le_of_ble_eq_true rfl) ?_
  rintro r g ⟨rfl, N, Q, F, W, Lr, T, V, Pr, hr, rfl⟩
  refine g_icmp_eq (pc1 := 808) (tgt := 833) dL_law_805 rfl (by decide) (fun _ => ?_) (fun hbr9 => absurd rfl hbr9)
  exact nx _ _ ⟨G, K, S, L1, U, L2, L3, C, P, N, Q, F, W, Lr, T, V, Pr, hc, hr, rfl⟩
theorem w_saturation (v1 : vp_in (nI i + 1) L) (σ : tSt) (h : List aC) (hw : lwI σ h) (nx : lwN nm L xs i) : aGo (lwE nm L xs) 810 [.float 0, .ref 0, .ref 24, .int (nI i)] [] h 38 38298 := by
  obtain ⟨G, K, S, L1, U, L2, L3, C, P, N, Q, F, W, Lr, T, V, Pr, hc, hr, rfl⟩ := hw
  refine g_aload_n (i := 1) (pc1 := 811) dL_law_810 rfl rfl rfl ?_
  refine g_sload_n (pc1 := 812) dL_law_811 rfl rfl rfl ?_
  refine g_iload_n (i := 3) (pc1 := 813) dL_law_812 rfl rfl rfl ?_
  refine g_iconst (v := 1) (pc1 := 814) dL_law_813 rfl (by decide) ?_
  refine g_iadd (pc1 := 815) dL_law_814 rfl ?_
  refine g_sld (pc1 := 816) dL_law_815 rfl rfl v1 ?_
  refine g_V1 (M := mX7_saturation) (pc1 := 819) dL_law_816 rfl lkL_123 tmX7_saturation rfl (f_saturation _ _ _ _ _ _ _ _ _ _ _ hc _) (Nat.le_of_ble_eq_true rfl) rfl (Nat.le_of_ble_eq_true rfl) (Nat.le_of_ble_eq_true rfl) ?_
  rintro r g ⟨rfl, G, K, S, L1, U, L2, L3, C, P, hc, rfl⟩
  rw [cp_rp]
  refine g_aload_n (i := 2) (pc1 := 820) dL_law_819 rfl rfl rfl ?_
  refine g_sload_n (pc1 := 821) dL_law_820 rfl rfl rfl ?_
  refine g_iload_n (i := 3) (pc1 := 822) dL_law_821 rfl rfl rfl ?_
  refine g_iconst (v := 1) (pc1 := 823) dL_law_822 rfl (by decide) ?_
  refine g_iadd (pc1 := 824) dL_law_823 rfl ?_
  refine g_sld (pc1 := 825) dL_law_824 rfl rfl v1 ?_
  refine g_V1 (M := mX8_saturation) (pc1 := 828) dL_law_825 rfl lkL_126 tmX8_saturation rfl (q_saturation _ _ _ _ _ _ _ _ _ _ hr _) (Nat.le_of_ble_eq_true rfl) rfl (Nat.le_of_ble_eq_true rfl) (Nat.le_of_ble_eq_true rfl) ?_
  rintro r g ⟨rfl, N, Q, F, W, Lr, T, V, Pr, hr, rfl⟩
  refine g_icmp_eq (pc1 := 831) (tgt := 833) dL_law_828 rfl (by decide) (fun _ => ?_) (fun hbr9 => absurd rfl hbr9)
  exact nx _ _ ⟨G, K, S, L1, U, L2, L3, C, P, N, Q, F, W, Lr, T, V, Pr, hc, hr, rfl⟩
end
theorem w_L4 {L : Nat} (hL : L ≤ 2048) : (Int32.ofNat L - 4).toInt = (L : Int) - 4 := by
  have h1 : (Int32.ofNat L).toInt = (L : Int) := nI_toInt (n := L) (by omega)
  rw [Int32.toInt_sub, h1]
  show ((L : Int) - 4).bmod (2 ^ 32) = _
  rw [Int.bmod_eq_of_le] <;> omega
theorem w_le {L i : Nat} (hL : L ≤ 2048) (hi : i < 4096) (c : ¬ nI i > Int32.ofNat L - 4) : i + 4 ≤ L := by
  have h1 : ¬ Int32.ofNat L - 4 < nI i := c
  rw [Int32.lt_iff_toInt_lt, w_L4 hL, nI_toInt (by omega)] at h1
  omega
theorem w_gt {L i : Nat} (hL : L ≤ 2048) (hi : i < 4096) (hk : L < i) : nI i > Int32.ofNat L - 4 := by
  show Int32.ofNat L - 4 < nI i
  rw [Int32.lt_iff_toInt_lt, w_L4 hL, nI_toInt (by omega)]
  omega
section
variable (nm : String) (L : Nat) (xs : Nat → Int32)
theorem w_step (hL : L ≤ 2048) {i : Nat} (hi : i + 4 ≤ L) {σ : tSt} {h : List aC} (hw : lwI σ h) (nx : lwN nm L xs i) : aGo (lwE nm L xs) 26 [.float 0, .ref 0, .ref 24, .int (nI i)] [] h 38 38298 := by
  obtain ⟨v0, v1, v2, v3⟩ := w_in hi hL
  refine g_sload_n (pc1 := 27) dL_law_26 rfl rfl rfl ?_
  refine g_iload_n (i := 3) (pc1 := 28) dL_law_27 rfl rfl rfl ?_
  refine g_sld (pc1 := 29) dL_law_28 rfl rfl v0 ?_
  refine g_bipush (v := 31) (pc1 := 31) dL_law_29 rfl (by decide) ?_
  refine g_iand (pc1 := 32) dL_law_31 rfl ?_
  obtain ⟨j, hj, e⟩ : ∃ j, j < 32 ∧ xs (nI i).toNatClampNeg &&& 31 = nI j := by
    obtain ⟨X, -, hX⟩ := nI_all (xs (nI i).toNatClampNeg)
    refine ⟨X % 32, Nat.mod_lt _ (by decide), ?_⟩
    rw [hX, show (31 : Int32) = nI 31 from rfl, nx_and, show (31 : Nat) = 2 ^ 5 - 1 from rfl, Nat.and_two_pow_sub_one_eq_mod]
  refine aGo.eq (st' := [.int (nI j)]) (h' := h) ?_ rfl (by rw [← e]) rfl
  by_cases h27 : j < 27
  · match j, h27 with
    | 0, _ => exact g_tableIn (tgt := 156) (off := 124) dL_law_32 (by decide) (by decide) (by decide) (by decide) (w_graph nm L xs i v1 σ h hw nx)
    | 1, _ => exact g_tableIn (tgt := 179) (off := 147) dL_law_32 (by decide) (by decide) (by decide) (by decide) (w_edge nm L xs i v1 v2 v3 σ h hw nx)
    | 2, _ => exact g_tableIn (tgt := 238) (off := 206) dL_law_32 (by decide) (by decide) (by decide) (by decide) (w_draw nm L xs i v1 v2 σ h hw nx)
    | 3, _ => exact g_tableIn (tgt := 271) (off := 239) dL_law_32 (by decide) (by decide) (by decide) (by decide) (w_turn nm L xs i v1 v2 σ h hw nx)
    | 4, _ => exact g_tableIn (tgt := 304) (off := 272) dL_law_32 (by decide) (by decide) (by decide) (by decide) (w_count nm L xs i v1 σ h hw nx)
    | 5, _ => exact g_tableIn (tgt := 327) (off := 295) dL_law_32 (by decide) (by decide) (by decide) (by decide) (w_has nm L xs i v1 v2 σ h hw nx)
    | 6, _ => exact g_tableIn (tgt := 360) (off := 328) dL_law_32 (by decide) (by decide) (by decide) (by decide) (w_degree nm L xs i v1 σ h hw nx)
    | 7, _ => exact g_tableIn (tgt := 383) (off := 351) dL_law_32 (by decide) (by decide) (by decide) (by decide) (w_solve nm L xs i σ h hw nx)
    | 8, _ => exact g_tableIn (tgt := 396) (off := 364) dL_law_32 (by decide) (by decide) (by decide) (by decide) (w_colour nm L xs i v1 σ h hw nx)
    | 9, _ => exact g_tableIn (tgt := 419) (off := 387) dL_law_32 (by decide) (by decide) (by decide) (by decide) (w_clique nm L xs i σ h hw nx)
    | 10, _ => exact g_tableIn (tgt := 432) (off := 400) dL_law_32 (by decide) (by decide) (by decide) (by decide) (w_first nm L xs i σ h hw nx)
    | 11, _ => exact g_tableIn (tgt := 445) (off := 413) dL_law_32 (by decide) (by decide) (by decide) (by decide) (w_lines nm L xs i σ h hw nx)
    | 12, _ => exact g_tableIn (tgt := 458) (off := 426) dL_law_32 (by decide) (by decide) (by decide) (by decide) (w_line nm L xs i v1 v2 σ h hw nx)
    | 13, _ => exact g_tableIn (tgt := 491) (off := 459) dL_law_32 (by decide) (by decide) (by decide) (by decide) (w_work nm L xs i v1 σ h hw nx)
    | 14, _ => exact g_tableIn (tgt := 514) (off := 482) dL_law_32 (by decide) (by decide) (by decide) (by decide) (w_search nm L xs i v1 σ h hw nx)
    | 15, _ => exact g_tableIn (tgt := 537) (off := 505) dL_law_32 (by decide) (by decide) (by decide) (by decide) (w_tell nm L xs i v1 v2 σ h hw nx)
    | 16, _ => exact g_tableIn (tgt := 570) (off := 538) dL_law_32 (by decide) (by decide) (by decide) (by decide) (w_take nm L xs i σ h hw nx)
    | 17, _ => exact g_tableIn (tgt := 583) (off := 551) dL_law_32 (by decide) (by decide) (by decide) (by decide) (w_alter nm L xs i v1 v2 v3 σ h hw nx)
    | 18, _ => exact g_tableIn (tgt := 626) (off := 594) dL_law_32 (by decide) (by decide) (by decide) (by decide) (w_cut nm L xs i v1 σ h hw nx)
    | 19, _ => exact g_tableIn (tgt := 649) (off := 617) dL_law_32 (by decide) (by decide) (by decide) (by decide) (w_told nm L xs i v1 v2 σ h hw nx)
    | 20, _ => exact g_tableIn (tgt := 682) (off := 650) dL_law_32 (by decide) (by decide) (by decide) (by decide) (w_check nm L xs i v1 σ h hw nx)
    | 21, _ => exact g_tableIn (tgt := 705) (off := 673) dL_law_32 (by decide) (by decide) (by decide) (by decide) (w_paint nm L xs i v1 v2 σ h hw nx)
    | 22, _ => exact g_tableIn (tgt := 738) (off := 706) dL_law_32 (by decide) (by decide) (by decide) (by decide) (w_copy nm L xs i σ h hw nx)
    | 23, _ => exact g_tableIn (tgt := 751) (off := 719) dL_law_32 (by decide) (by decide) (by decide) (by decide) (w_clashes nm L xs i σ h hw nx)
    | 24, _ => exact g_tableIn (tgt := 764) (off := 732) dL_law_32 (by decide) (by decide) (by decide) (by decide) (w_used nm L xs i σ h hw nx)
    | 25, _ => exact g_tableIn (tgt := 777) (off := 745) dL_law_32 (by decide) (by decide) (by decide) (by decide) (w_chain nm L xs i v1 v2 σ h hw nx)
    | 26, _ => exact g_tableIn (tgt := 810) (off := 778) dL_law_32 (by decide) (by decide) (by decide) (by decide) (w_saturation nm L xs i v1 σ h hw nx)
    | n + 27, h => omega
  · exact g_tableOut (tgt := 833) dL_law_32 (Or.inr (by rw [nI_toInt (by omega)]; omega)) (by decide) (nx σ h hw)
theorem w_loop (hL : L ≤ 2048) : ∀ (k i : Nat) (σ : tSt) (h : List aC), L < i + 4 * k → i < 4096 → lwI σ h → aGo (lwE nm L xs) 18 [.float 0, .ref 0, .ref 24, .int (nI i)] [] h 38 38298 := by
  intro k
  induction k with
  | zero =>
    intro i σ h hk hi hw
    refine g_iload_n (i := 3) (pc1 := 19) dL_law_18 rfl rfl rfl ?_
    refine g_sload_n (pc1 := 20) dL_law_19 rfl rfl rfl ?_
    refine g_slen (pc1 := 21) dL_law_20 rfl rfl ?_
    refine g_iconst (v := 4) (pc1 := 22) dL_law_21 rfl (by decide) ?_
    refine g_isub (pc1 := 23) dL_law_22 rfl ?_
    refine g_icmp_gt (pc1 := 26) (tgt := 839) dL_law_23 rfl (by decide) (fun _ => ?_) (fun hbr9 => absurd (w_gt (by omega) hi (by omega)) hbr9)
    refine g_iconst (v := 1) (pc1 := 840) dL_law_839 rfl (by decide) ?_
    refine g_iret dL_law_840 rfl rfl (Nat.le_of_ble_eq_true rfl) (Nat.le_of_ble_eq_true rfl) ?_
    rfl
  | succ k ih =>
    intro i σ h hk hi hw
    refine g_iload_n (i := 3) (pc1 := 19) dL_law_18 rfl rfl rfl ?_
    refine g_sload_n (pc1 := 20) dL_law_19 rfl rfl rfl ?_
    refine g_slen (pc1 := 21) dL_law_20 rfl rfl ?_
    refine g_iconst (v := 4) (pc1 := 22) dL_law_21 rfl (by decide) ?_
    refine g_isub (pc1 := 23) dL_law_22 rfl ?_
    refine g_icmp_gt (pc1 := 26) (tgt := 839) dL_law_23 rfl (by decide) (fun c => ?_) (fun c => ?_)
    · refine g_iconst (v := 1) (pc1 := 840) dL_law_839 rfl (by decide) ?_
      refine g_iret dL_law_840 rfl rfl (Nat.le_of_ble_eq_true rfl) (Nat.le_of_ble_eq_true rfl) ?_
      rfl
    · have hi4 := w_le hL hi c
      refine w_step nm L xs hL hi4 hw ?_
      intro σ' h' hw'
      refine g_iinc (pc1 := 836) dL_law_833 rfl rfl rfl ?_
      refine g_goto (tgt := 18) dL_law_836 (by decide) ?_
      refine aGo.eq (ls' := [.float 0, .ref 0, .ref 24, .int (nI (i + 4))]) (h' := h') (ih (i + 4) σ' h' (by omega) (by omega) hw') ?_ rfl rfl
      show [_, _, _, Value.int (nI i + 4)] = _
      rw [show (4 : Int32) = nI 4 from rfl, nI_add]
theorem lw0 : lwI (0, noE, none, [], fun _ => none) (cp (0, z0, z0) (z0, z0, z0, 0, 0) (0, 0, 0) (0, z0, z0) (0, z0, 0, z0) (0, z0, z0) (0, z0, z0) (0, 0) (fil 30 (-1) z0) (r14 (0, z0, z0) (z0, z0) (z0, z0, z0, 0) (z0, 0) (z0, 0) (z0, 0) (0, z0, z0) (fil 30 (-1) z0))) := by
  have hg : Gok 0 noE := ⟨by decide, fun _ _ => rfl, fun _ => rfl, fun _ _ h => by cases h⟩
  have hp : pC (fil 30 (-1) z0) (fun _ => none) := fun v hv => ⟨by simp [fil, hv, enO], fun c h => by cases h⟩
  refine ⟨(0, z0, z0), (z0, z0, z0, 0, 0), (0, 0, 0), (0, z0, z0), (0, z0, 0, z0), (0, z0, z0), (0, z0, z0), (0, 0), fil 30 (-1) z0, (0, z0, z0), (z0, z0), (z0, z0, z0, 0), (z0, 0), (z0, 0), (z0, 0), (0, z0, z0), fil 30 (-1) z0, ⟨hg, ⟨rfl, fun v hv i => b_0 i⟩, (show (0 : Int32) = 0 from rfl), ⟨rfl, Nat.zero_le _, fun i a b h => by simp at h⟩, hp⟩, ⟨hg, ⟨rfl, fun a b _ _ => rfl⟩, (show (0 : Int32) = 0 from rfl), ⟨rfl, Nat.zero_le _, fun i a b h => by simp at h⟩, hp⟩, rfl⟩
theorem w_start (hL : L ≤ 2048) : aGo (lwE nm L xs) 0 [.float 0, .null, .null, .null] [] [] 0 0 := by
  refine g_new (pc1 := 3) dL_law_0 rfl nwL_7 rfl rfl (Nat.le_of_ble_eq_true rfl) (Nat.le_of_ble_eq_true rfl) ?_
  refine g_dup (pc1 := 4) dL_law_3 rfl rfl ?_
  refine g_I0 (M := mX7_init) (pc1 := 7) dL_law_4 rfl lkL_9 tmX7_init (i_proof) (Nat.le_of_ble_eq_true rfl) rfl rfl rfl (Nat.le_of_ble_eq_true rfl) (Nat.le_of_ble_eq_true rfl) ?_
  rintro r g ⟨rfl, rfl⟩
  refine g_astore_n (i := 1) (pc1 := 8) dL_law_7 rfl rfl (Nat.le_of_ble_eq_true rfl) ?_
  refine g_new (pc1 := 11) dL_law_8 rfl nwL_10 rfl rfl (Nat.le_of_ble_eq_true rfl) (Nat.le_of_ble_eq_true rfl) ?_
  refine g_dup (pc1 := 12) dL_law_11 rfl rfl ?_
  refine g_I0 (M := mX8_init) (pc1 := 15) dL_law_12 rfl lkL_12 tmX8_init (i_ref (x24 (0, z0, z0) (z0, z0, z0, 0, 0) (0, 0, 0) (0, z0, z0) (0, z0, 0, z0) (0, z0, z0) (0, z0, z0) (0, 0) (fil 30 (-1) z0))) (Nat.le_of_ble_eq_true rfl) rfl rfl rfl (Nat.le_of_ble_eq_true rfl) (Nat.le_of_ble_eq_true rfl) ?_
  rintro r g ⟨rfl, rfl⟩
  refine g_astore_n (i := 2) (pc1 := 16) dL_law_15 rfl rfl (Nat.le_of_ble_eq_true rfl) ?_
  refine g_iconst (v := 0) (pc1 := 17) dL_law_16 rfl (by decide) ?_
  refine g_istore_n (i := 3) (pc1 := 18) dL_law_17 rfl rfl (Nat.le_of_ble_eq_true rfl) ?_
  exact w_loop nm L xs hL 600 0 _ _ (by omega) (by decide) lw0
end
