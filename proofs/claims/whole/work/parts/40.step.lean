/-! each kind of call in the law: both objects answer alike, and go on alike -/
set_option maxHeartbeats 4000000 in
theorem st_cause {p : Program} {l : Launch} {e : Env} {s : State} {m : MethodId} {below : List Frame} {meth : Method} {c : Code} {b L : Nat} {xs : Nat → Int32} {D : va_G} {cI cJ cZ : ClassId} {ga gb : Nat} {fa ra : List Nat} {ox oy : Nat} {cells slots : Nat} {Z : Zt} {H : Heap} {locs : List Loc} {ls : Array Slot} {i : Nat} (C : lwC p s m meth c b L xs D cI cJ cZ ga gb) (hN : lwN fa ra s.heap.size) (hc : cells ≤ 600000) (hs0 : slots ≤ 7302250) (hi : i + 4 ≤ L) (hX : XO D cI cJ cZ fa ox Z H) (hM : MO D cI cJ cZ ra oy Z H) (hS : va_S (AN s) s.heap H locs) (hl : lv_has ls 4 [(0, .ref b), (1, .ref ox), (2, .ref oy), (3, .int (nI i))]) (kk : ∀ (Z1 : Zt) (H1 : Heap) (locs1 : List Loc), XO D cI cJ cZ fa ox Z1 H1 → MO D cI cJ cZ ra oy Z1 H1 → va_S (AN s) s.heap H1 locs1 → W p l e room_1 s m #[Value.ref b] below meth c H1 locs1 cells slots (lw_Z below #[Value.ref b] s) (F0 m 746 ls [])) : W p l e room_1 s m #[Value.ref b] below meth c H locs cells slots (lw_Z below #[Value.ref b] s) (F0 m 136 ls []) := by
  obtain ⟨hx, hb, hml, hown, hts, hK, hG, hga, hgb, hXs, hbl, hL, hr, hlocks⟩ := id C
  have hbA : ¬ AN s b := Nat.not_le.mpr hbl
  refine lv_aload_n hx hb dL_law_136 rfl (lv_at hl 1 rfl) ?_
  refine lv_aload_n hx hb dL_law_137 rfl (lv_at hl 0 rfl) ?_
  refine lv_iload_n hx hb dL_law_138 rfl (lv_at hl 3 rfl) ?_
  refine lv_iconst (v := nI 1) hx hb dL_law_139 (by decide) ?_
  refine x_iadd (z := nI (i + 1)) hx hb dL_law_140 (nI_add _ _) ?_
  refine x_sld hx hb hXs hbl hbA hS (show i + 1 < L by omega) hL dL_law_141 ?_
  refine lv_aload_n hx hb dL_law_142 rfl (lv_at hl 0 rfl) ?_
  refine lv_iload_n hx hb dL_law_143 rfl (lv_at hl 3 rfl) ?_
  refine lv_iconst (v := nI 2) hx hb dL_law_144 (by decide) ?_
  refine x_iadd (z := nI (i + 2)) hx hb dL_law_145 (nI_add _ _) ?_
  refine x_sld hx hb hXs hbl hbA hS (show i + 2 < L by omega) hL dL_law_146 ?_
  refine lv_aload_n hx hb dL_law_147 rfl (lv_at hl 0 rfl) ?_
  refine lv_iload_n hx hb dL_law_148 rfl (lv_at hl 3 rfl) ?_
  refine lv_iconst (v := nI 3) hx hb dL_law_149 (by decide) ?_
  refine x_iadd (z := nI (i + 3)) hx hb dL_law_150 (nI_add _ _) ?_
  refine x_sld hx hb hXs hbl hbA hS (show i + 3 < L by omega) hL dL_law_151 ?_
  refine lx_cause C hN hc hs0 hX hM hS hl.1 (xs (i + 1)) (xs (i + 2)) (xs (i + 3)) (fun H locs hX hM hS => ?_)
  refine lv_aload_n hx hb dL_law_155 rfl (lv_at hl 2 rfl) ?_
  refine lv_aload_n hx hb dL_law_156 rfl (lv_at hl 0 rfl) ?_
  refine lv_iload_n hx hb dL_law_157 rfl (lv_at hl 3 rfl) ?_
  refine lv_iconst (v := nI 1) hx hb dL_law_158 (by decide) ?_
  refine x_iadd (z := nI (i + 1)) hx hb dL_law_159 (nI_add _ _) ?_
  refine x_sld hx hb hXs hbl hbA hS (show i + 1 < L by omega) hL dL_law_160 ?_
  refine lv_aload_n hx hb dL_law_161 rfl (lv_at hl 0 rfl) ?_
  refine lv_iload_n hx hb dL_law_162 rfl (lv_at hl 3 rfl) ?_
  refine lv_iconst (v := nI 2) hx hb dL_law_163 (by decide) ?_
  refine x_iadd (z := nI (i + 2)) hx hb dL_law_164 (nI_add _ _) ?_
  refine x_sld hx hb hXs hbl hbA hS (show i + 2 < L by omega) hL dL_law_165 ?_
  refine lv_aload_n hx hb dL_law_166 rfl (lv_at hl 0 rfl) ?_
  refine lv_iload_n hx hb dL_law_167 rfl (lv_at hl 3 rfl) ?_
  refine lv_iconst (v := nI 3) hx hb dL_law_168 (by decide) ?_
  refine x_iadd (z := nI (i + 3)) hx hb dL_law_169 (nI_add _ _) ?_
  refine x_sld hx hb hXs hbl hbA hS (show i + 3 < L by omega) hL dL_law_170 ?_
  refine ly_cause C hN hc hs0 hX hM hS hl.1 (xs (i + 1)) (xs (i + 2)) (xs (i + 3)) (fun H locs hX hM hS => ?_)
  exact lv_icmp_eq (tgt := 746) hx hb dL_law_174 (by decide) (fun _ => kk _ _ _ hX hM hS) (fun h => absurd rfl h)
set_option maxHeartbeats 4000000 in
theorem st_link {p : Program} {l : Launch} {e : Env} {s : State} {m : MethodId} {below : List Frame} {meth : Method} {c : Code} {b L : Nat} {xs : Nat → Int32} {D : va_G} {cI cJ cZ : ClassId} {ga gb : Nat} {fa ra : List Nat} {ox oy : Nat} {cells slots : Nat} {Z : Zt} {H : Heap} {locs : List Loc} {ls : Array Slot} {i : Nat} (C : lwC p s m meth c b L xs D cI cJ cZ ga gb) (hN : lwN fa ra s.heap.size) (hc : cells ≤ 600000) (hs0 : slots ≤ 7302250) (hi : i + 4 ≤ L) (hX : XO D cI cJ cZ fa ox Z H) (hM : MO D cI cJ cZ ra oy Z H) (hS : va_S (AN s) s.heap H locs) (hl : lv_has ls 4 [(0, .ref b), (1, .ref ox), (2, .ref oy), (3, .int (nI i))]) (kk : ∀ (Z1 : Zt) (H1 : Heap) (locs1 : List Loc), XO D cI cJ cZ fa ox Z1 H1 → MO D cI cJ cZ ra oy Z1 H1 → va_S (AN s) s.heap H1 locs1 → W p l e room_1 s m #[Value.ref b] below meth c H1 locs1 cells slots (lw_Z below #[Value.ref b] s) (F0 m 746 ls [])) : W p l e room_1 s m #[Value.ref b] below meth c H locs cells slots (lw_Z below #[Value.ref b] s) (F0 m 179 ls []) := by
  obtain ⟨hx, hb, hml, hown, hts, hK, hG, hga, hgb, hXs, hbl, hL, hr, hlocks⟩ := id C
  have hbA : ¬ AN s b := Nat.not_le.mpr hbl
  refine lv_aload_n hx hb dL_law_179 rfl (lv_at hl 1 rfl) ?_
  refine lv_aload_n hx hb dL_law_180 rfl (lv_at hl 0 rfl) ?_
  refine lv_iload_n hx hb dL_law_181 rfl (lv_at hl 3 rfl) ?_
  refine lv_iconst (v := nI 1) hx hb dL_law_182 (by decide) ?_
  refine x_iadd (z := nI (i + 1)) hx hb dL_law_183 (nI_add _ _) ?_
  refine x_sld hx hb hXs hbl hbA hS (show i + 1 < L by omega) hL dL_law_184 ?_
  refine lv_aload_n hx hb dL_law_185 rfl (lv_at hl 0 rfl) ?_
  refine lv_iload_n hx hb dL_law_186 rfl (lv_at hl 3 rfl) ?_
  refine lv_iconst (v := nI 2) hx hb dL_law_187 (by decide) ?_
  refine x_iadd (z := nI (i + 2)) hx hb dL_law_188 (nI_add _ _) ?_
  refine x_sld hx hb hXs hbl hbA hS (show i + 2 < L by omega) hL dL_law_189 ?_
  refine lv_aload_n hx hb dL_law_190 rfl (lv_at hl 0 rfl) ?_
  refine lv_iload_n hx hb dL_law_191 rfl (lv_at hl 3 rfl) ?_
  refine lv_iconst (v := nI 3) hx hb dL_law_192 (by decide) ?_
  refine x_iadd (z := nI (i + 3)) hx hb dL_law_193 (nI_add _ _) ?_
  refine x_sld hx hb hXs hbl hbA hS (show i + 3 < L by omega) hL dL_law_194 ?_
  refine lx_link C hN hc hs0 hX hM hS hl.1 (xs (i + 1)) (xs (i + 2)) (xs (i + 3)) (fun H locs hX hM hS => ?_)
  refine lv_aload_n hx hb dL_law_198 rfl (lv_at hl 2 rfl) ?_
  refine lv_aload_n hx hb dL_law_199 rfl (lv_at hl 0 rfl) ?_
  refine lv_iload_n hx hb dL_law_200 rfl (lv_at hl 3 rfl) ?_
  refine lv_iconst (v := nI 1) hx hb dL_law_201 (by decide) ?_
  refine x_iadd (z := nI (i + 1)) hx hb dL_law_202 (nI_add _ _) ?_
  refine x_sld hx hb hXs hbl hbA hS (show i + 1 < L by omega) hL dL_law_203 ?_
  refine lv_aload_n hx hb dL_law_204 rfl (lv_at hl 0 rfl) ?_
  refine lv_iload_n hx hb dL_law_205 rfl (lv_at hl 3 rfl) ?_
  refine lv_iconst (v := nI 2) hx hb dL_law_206 (by decide) ?_
  refine x_iadd (z := nI (i + 2)) hx hb dL_law_207 (nI_add _ _) ?_
  refine x_sld hx hb hXs hbl hbA hS (show i + 2 < L by omega) hL dL_law_208 ?_
  refine lv_aload_n hx hb dL_law_209 rfl (lv_at hl 0 rfl) ?_
  refine lv_iload_n hx hb dL_law_210 rfl (lv_at hl 3 rfl) ?_
  refine lv_iconst (v := nI 3) hx hb dL_law_211 (by decide) ?_
  refine x_iadd (z := nI (i + 3)) hx hb dL_law_212 (nI_add _ _) ?_
  refine x_sld hx hb hXs hbl hbA hS (show i + 3 < L by omega) hL dL_law_213 ?_
  refine ly_link C hN hc hs0 hX hM hS hl.1 (xs (i + 1)) (xs (i + 2)) (xs (i + 3)) (fun H locs hX hM hS => ?_)
  exact lv_icmp_eq (tgt := 746) hx hb dL_law_217 (by decide) (fun _ => kk _ _ _ hX hM hS) (fun h => absurd rfl h)
set_option maxHeartbeats 4000000 in
theorem st_ofCause {p : Program} {l : Launch} {e : Env} {s : State} {m : MethodId} {below : List Frame} {meth : Method} {c : Code} {b L : Nat} {xs : Nat → Int32} {D : va_G} {cI cJ cZ : ClassId} {ga gb : Nat} {fa ra : List Nat} {ox oy : Nat} {cells slots : Nat} {Z : Zt} {H : Heap} {locs : List Loc} {ls : Array Slot} {i : Nat} (C : lwC p s m meth c b L xs D cI cJ cZ ga gb) (hN : lwN fa ra s.heap.size) (hc : cells ≤ 600000) (hs0 : slots ≤ 7302250) (hi : i + 4 ≤ L) (hX : XO D cI cJ cZ fa ox Z H) (hM : MO D cI cJ cZ ra oy Z H) (hS : va_S (AN s) s.heap H locs) (hl : lv_has ls 4 [(0, .ref b), (1, .ref ox), (2, .ref oy), (3, .int (nI i))]) (kk : ∀ (Z1 : Zt) (H1 : Heap) (locs1 : List Loc), XO D cI cJ cZ fa ox Z1 H1 → MO D cI cJ cZ ra oy Z1 H1 → va_S (AN s) s.heap H1 locs1 → W p l e room_1 s m #[Value.ref b] below meth c H1 locs1 cells slots (lw_Z below #[Value.ref b] s) (F0 m 746 ls [])) : W p l e room_1 s m #[Value.ref b] below meth c H locs cells slots (lw_Z below #[Value.ref b] s) (F0 m 222 ls []) := by
  obtain ⟨hx, hb, hml, hown, hts, hK, hG, hga, hgb, hXs, hbl, hL, hr, hlocks⟩ := id C
  have hbA : ¬ AN s b := Nat.not_le.mpr hbl
  refine lv_aload_n hx hb dL_law_222 rfl (lv_at hl 1 rfl) ?_
  refine lv_aload_n hx hb dL_law_223 rfl (lv_at hl 0 rfl) ?_
  refine lv_iload_n hx hb dL_law_224 rfl (lv_at hl 3 rfl) ?_
  refine lv_iconst (v := nI 1) hx hb dL_law_225 (by decide) ?_
  refine x_iadd (z := nI (i + 1)) hx hb dL_law_226 (nI_add _ _) ?_
  refine x_sld hx hb hXs hbl hbA hS (show i + 1 < L by omega) hL dL_law_227 ?_
  refine lv_aload_n hx hb dL_law_228 rfl (lv_at hl 0 rfl) ?_
  refine lv_iload_n hx hb dL_law_229 rfl (lv_at hl 3 rfl) ?_
  refine lv_iconst (v := nI 2) hx hb dL_law_230 (by decide) ?_
  refine x_iadd (z := nI (i + 2)) hx hb dL_law_231 (nI_add _ _) ?_
  refine x_sld hx hb hXs hbl hbA hS (show i + 2 < L by omega) hL dL_law_232 ?_
  refine lx_ofCause C hN hc hs0 hX hM hS hl.1 (xs (i + 1)) (xs (i + 2)) (fun H locs hX hM hS => ?_)
  refine lv_aload_n hx hb dL_law_236 rfl (lv_at hl 2 rfl) ?_
  refine lv_aload_n hx hb dL_law_237 rfl (lv_at hl 0 rfl) ?_
  refine lv_iload_n hx hb dL_law_238 rfl (lv_at hl 3 rfl) ?_
  refine lv_iconst (v := nI 1) hx hb dL_law_239 (by decide) ?_
  refine x_iadd (z := nI (i + 1)) hx hb dL_law_240 (nI_add _ _) ?_
  refine x_sld hx hb hXs hbl hbA hS (show i + 1 < L by omega) hL dL_law_241 ?_
  refine lv_aload_n hx hb dL_law_242 rfl (lv_at hl 0 rfl) ?_
  refine lv_iload_n hx hb dL_law_243 rfl (lv_at hl 3 rfl) ?_
  refine lv_iconst (v := nI 2) hx hb dL_law_244 (by decide) ?_
  refine x_iadd (z := nI (i + 2)) hx hb dL_law_245 (nI_add _ _) ?_
  refine x_sld hx hb hXs hbl hbA hS (show i + 2 < L by omega) hL dL_law_246 ?_
  refine ly_ofCause C hN hc hs0 hX hM hS hl.1 (xs (i + 1)) (xs (i + 2)) (fun H locs hX hM hS => ?_)
  exact lv_icmp_eq (tgt := 746) hx hb dL_law_250 (by decide) (fun _ => kk _ _ _ hX hM hS) (fun h => absurd rfl h)
set_option maxHeartbeats 4000000 in
theorem st_ofFinding {p : Program} {l : Launch} {e : Env} {s : State} {m : MethodId} {below : List Frame} {meth : Method} {c : Code} {b L : Nat} {xs : Nat → Int32} {D : va_G} {cI cJ cZ : ClassId} {ga gb : Nat} {fa ra : List Nat} {ox oy : Nat} {cells slots : Nat} {Z : Zt} {H : Heap} {locs : List Loc} {ls : Array Slot} {i : Nat} (C : lwC p s m meth c b L xs D cI cJ cZ ga gb) (hN : lwN fa ra s.heap.size) (hc : cells ≤ 600000) (hs0 : slots ≤ 7302250) (hi : i + 4 ≤ L) (hX : XO D cI cJ cZ fa ox Z H) (hM : MO D cI cJ cZ ra oy Z H) (hS : va_S (AN s) s.heap H locs) (hl : lv_has ls 4 [(0, .ref b), (1, .ref ox), (2, .ref oy), (3, .int (nI i))]) (kk : ∀ (Z1 : Zt) (H1 : Heap) (locs1 : List Loc), XO D cI cJ cZ fa ox Z1 H1 → MO D cI cJ cZ ra oy Z1 H1 → va_S (AN s) s.heap H1 locs1 → W p l e room_1 s m #[Value.ref b] below meth c H1 locs1 cells slots (lw_Z below #[Value.ref b] s) (F0 m 746 ls [])) : W p l e room_1 s m #[Value.ref b] below meth c H locs cells slots (lw_Z below #[Value.ref b] s) (F0 m 255 ls []) := by
  obtain ⟨hx, hb, hml, hown, hts, hK, hG, hga, hgb, hXs, hbl, hL, hr, hlocks⟩ := id C
  have hbA : ¬ AN s b := Nat.not_le.mpr hbl
  refine lv_aload_n hx hb dL_law_255 rfl (lv_at hl 1 rfl) ?_
  refine lv_aload_n hx hb dL_law_256 rfl (lv_at hl 0 rfl) ?_
  refine lv_iload_n hx hb dL_law_257 rfl (lv_at hl 3 rfl) ?_
  refine lv_iconst (v := nI 1) hx hb dL_law_258 (by decide) ?_
  refine x_iadd (z := nI (i + 1)) hx hb dL_law_259 (nI_add _ _) ?_
  refine x_sld hx hb hXs hbl hbA hS (show i + 1 < L by omega) hL dL_law_260 ?_
  refine lv_aload_n hx hb dL_law_261 rfl (lv_at hl 0 rfl) ?_
  refine lv_iload_n hx hb dL_law_262 rfl (lv_at hl 3 rfl) ?_
  refine lv_iconst (v := nI 2) hx hb dL_law_263 (by decide) ?_
  refine x_iadd (z := nI (i + 2)) hx hb dL_law_264 (nI_add _ _) ?_
  refine x_sld hx hb hXs hbl hbA hS (show i + 2 < L by omega) hL dL_law_265 ?_
  refine lx_ofFinding C hN hc hs0 hX hM hS hl.1 (xs (i + 1)) (xs (i + 2)) (fun H locs hX hM hS => ?_)
  refine lv_aload_n hx hb dL_law_269 rfl (lv_at hl 2 rfl) ?_
  refine lv_aload_n hx hb dL_law_270 rfl (lv_at hl 0 rfl) ?_
  refine lv_iload_n hx hb dL_law_271 rfl (lv_at hl 3 rfl) ?_
  refine lv_iconst (v := nI 1) hx hb dL_law_272 (by decide) ?_
  refine x_iadd (z := nI (i + 1)) hx hb dL_law_273 (nI_add _ _) ?_
  refine x_sld hx hb hXs hbl hbA hS (show i + 1 < L by omega) hL dL_law_274 ?_
  refine lv_aload_n hx hb dL_law_275 rfl (lv_at hl 0 rfl) ?_
  refine lv_iload_n hx hb dL_law_276 rfl (lv_at hl 3 rfl) ?_
  refine lv_iconst (v := nI 2) hx hb dL_law_277 (by decide) ?_
  refine x_iadd (z := nI (i + 2)) hx hb dL_law_278 (nI_add _ _) ?_
  refine x_sld hx hb hXs hbl hbA hS (show i + 2 < L by omega) hL dL_law_279 ?_
  refine ly_ofFinding C hN hc hs0 hX hM hS hl.1 (xs (i + 1)) (xs (i + 2)) (fun H locs hX hM hS => ?_)
  exact lv_icmp_eq (tgt := 746) hx hb dL_law_283 (by decide) (fun _ => kk _ _ _ hX hM hS) (fun h => absurd rfl h)
set_option maxHeartbeats 4000000 in
theorem st_tell {p : Program} {l : Launch} {e : Env} {s : State} {m : MethodId} {below : List Frame} {meth : Method} {c : Code} {b L : Nat} {xs : Nat → Int32} {D : va_G} {cI cJ cZ : ClassId} {ga gb : Nat} {fa ra : List Nat} {ox oy : Nat} {cells slots : Nat} {Z : Zt} {H : Heap} {locs : List Loc} {ls : Array Slot} {i : Nat} (C : lwC p s m meth c b L xs D cI cJ cZ ga gb) (hN : lwN fa ra s.heap.size) (hc : cells ≤ 600000) (hs0 : slots ≤ 7302250) (hi : i + 4 ≤ L) (hX : XO D cI cJ cZ fa ox Z H) (hM : MO D cI cJ cZ ra oy Z H) (hS : va_S (AN s) s.heap H locs) (hl : lv_has ls 4 [(0, .ref b), (1, .ref ox), (2, .ref oy), (3, .int (nI i))]) (kk : ∀ (Z1 : Zt) (H1 : Heap) (locs1 : List Loc), XO D cI cJ cZ fa ox Z1 H1 → MO D cI cJ cZ ra oy Z1 H1 → va_S (AN s) s.heap H1 locs1 → W p l e room_1 s m #[Value.ref b] below meth c H1 locs1 cells slots (lw_Z below #[Value.ref b] s) (F0 m 746 ls [])) : W p l e room_1 s m #[Value.ref b] below meth c H locs cells slots (lw_Z below #[Value.ref b] s) (F0 m 288 ls []) := by
  obtain ⟨hx, hb, hml, hown, hts, hK, hG, hga, hgb, hXs, hbl, hL, hr, hlocks⟩ := id C
  have hbA : ¬ AN s b := Nat.not_le.mpr hbl
  refine lv_aload_n hx hb dL_law_288 rfl (lv_at hl 1 rfl) ?_
  refine lv_aload_n hx hb dL_law_289 rfl (lv_at hl 0 rfl) ?_
  refine lv_iload_n hx hb dL_law_290 rfl (lv_at hl 3 rfl) ?_
  refine lv_iconst (v := nI 1) hx hb dL_law_291 (by decide) ?_
  refine x_iadd (z := nI (i + 1)) hx hb dL_law_292 (nI_add _ _) ?_
  refine x_sld hx hb hXs hbl hbA hS (show i + 1 < L by omega) hL dL_law_293 ?_
  refine lv_aload_n hx hb dL_law_294 rfl (lv_at hl 0 rfl) ?_
  refine lv_iload_n hx hb dL_law_295 rfl (lv_at hl 3 rfl) ?_
  refine lv_iconst (v := nI 2) hx hb dL_law_296 (by decide) ?_
  refine x_iadd (z := nI (i + 2)) hx hb dL_law_297 (nI_add _ _) ?_
  refine x_sld hx hb hXs hbl hbA hS (show i + 2 < L by omega) hL dL_law_298 ?_
  refine lx_tell C hN hc hs0 hX hM hS hl.1 (xs (i + 1)) (xs (i + 2)) (fun H locs hX hM hS => ?_)
  refine lv_aload_n hx hb dL_law_302 rfl (lv_at hl 2 rfl) ?_
  refine lv_aload_n hx hb dL_law_303 rfl (lv_at hl 0 rfl) ?_
  refine lv_iload_n hx hb dL_law_304 rfl (lv_at hl 3 rfl) ?_
  refine lv_iconst (v := nI 1) hx hb dL_law_305 (by decide) ?_
  refine x_iadd (z := nI (i + 1)) hx hb dL_law_306 (nI_add _ _) ?_
  refine x_sld hx hb hXs hbl hbA hS (show i + 1 < L by omega) hL dL_law_307 ?_
  refine lv_aload_n hx hb dL_law_308 rfl (lv_at hl 0 rfl) ?_
  refine lv_iload_n hx hb dL_law_309 rfl (lv_at hl 3 rfl) ?_
  refine lv_iconst (v := nI 2) hx hb dL_law_310 (by decide) ?_
  refine x_iadd (z := nI (i + 2)) hx hb dL_law_311 (nI_add _ _) ?_
  refine x_sld hx hb hXs hbl hbA hS (show i + 2 < L by omega) hL dL_law_312 ?_
  refine ly_tell C hN hc hs0 hX hM hS hl.1 (xs (i + 1)) (xs (i + 2)) (fun H locs hX hM hS => ?_)
  exact lv_icmp_eq (tgt := 746) hx hb dL_law_316 (by decide) (fun _ => kk _ _ _ hX hM hS) (fun h => absurd rfl h)
set_option maxHeartbeats 4000000 in
theorem st_withdraw {p : Program} {l : Launch} {e : Env} {s : State} {m : MethodId} {below : List Frame} {meth : Method} {c : Code} {b L : Nat} {xs : Nat → Int32} {D : va_G} {cI cJ cZ : ClassId} {ga gb : Nat} {fa ra : List Nat} {ox oy : Nat} {cells slots : Nat} {Z : Zt} {H : Heap} {locs : List Loc} {ls : Array Slot} {i : Nat} (C : lwC p s m meth c b L xs D cI cJ cZ ga gb) (hN : lwN fa ra s.heap.size) (hc : cells ≤ 600000) (hs0 : slots ≤ 7302250) (hi : i + 4 ≤ L) (hX : XO D cI cJ cZ fa ox Z H) (hM : MO D cI cJ cZ ra oy Z H) (hS : va_S (AN s) s.heap H locs) (hl : lv_has ls 4 [(0, .ref b), (1, .ref ox), (2, .ref oy), (3, .int (nI i))]) (kk : ∀ (Z1 : Zt) (H1 : Heap) (locs1 : List Loc), XO D cI cJ cZ fa ox Z1 H1 → MO D cI cJ cZ ra oy Z1 H1 → va_S (AN s) s.heap H1 locs1 → W p l e room_1 s m #[Value.ref b] below meth c H1 locs1 cells slots (lw_Z below #[Value.ref b] s) (F0 m 746 ls [])) : W p l e room_1 s m #[Value.ref b] below meth c H locs cells slots (lw_Z below #[Value.ref b] s) (F0 m 321 ls []) := by
  obtain ⟨hx, hb, hml, hown, hts, hK, hG, hga, hgb, hXs, hbl, hL, hr, hlocks⟩ := id C
  have hbA : ¬ AN s b := Nat.not_le.mpr hbl
  refine lv_aload_n hx hb dL_law_321 rfl (lv_at hl 1 rfl) ?_
  refine lv_aload_n hx hb dL_law_322 rfl (lv_at hl 0 rfl) ?_
  refine lv_iload_n hx hb dL_law_323 rfl (lv_at hl 3 rfl) ?_
  refine lv_iconst (v := nI 1) hx hb dL_law_324 (by decide) ?_
  refine x_iadd (z := nI (i + 1)) hx hb dL_law_325 (nI_add _ _) ?_
  refine x_sld hx hb hXs hbl hbA hS (show i + 1 < L by omega) hL dL_law_326 ?_
  refine lx_withdraw C hN hc hs0 hX hM hS hl.1 (xs (i + 1)) (fun H locs hX hM hS => ?_)
  refine lv_aload_n hx hb dL_law_330 rfl (lv_at hl 2 rfl) ?_
  refine lv_aload_n hx hb dL_law_331 rfl (lv_at hl 0 rfl) ?_
  refine lv_iload_n hx hb dL_law_332 rfl (lv_at hl 3 rfl) ?_
  refine lv_iconst (v := nI 1) hx hb dL_law_333 (by decide) ?_
  refine x_iadd (z := nI (i + 1)) hx hb dL_law_334 (nI_add _ _) ?_
  refine x_sld hx hb hXs hbl hbA hS (show i + 1 < L by omega) hL dL_law_335 ?_
  refine ly_withdraw C hN hc hs0 hX hM hS hl.1 (xs (i + 1)) (fun H locs hX hM hS => ?_)
  exact lv_icmp_eq (tgt := 746) hx hb dL_law_339 (by decide) (fun _ => kk _ _ _ hX hM hS) (fun h => absurd rfl h)
set_option maxHeartbeats 4000000 in
theorem st_back {p : Program} {l : Launch} {e : Env} {s : State} {m : MethodId} {below : List Frame} {meth : Method} {c : Code} {b L : Nat} {xs : Nat → Int32} {D : va_G} {cI cJ cZ : ClassId} {ga gb : Nat} {fa ra : List Nat} {ox oy : Nat} {cells slots : Nat} {Z : Zt} {H : Heap} {locs : List Loc} {ls : Array Slot} {i : Nat} (C : lwC p s m meth c b L xs D cI cJ cZ ga gb) (hN : lwN fa ra s.heap.size) (hc : cells ≤ 600000) (hs0 : slots ≤ 7302250) (hi : i + 4 ≤ L) (hX : XO D cI cJ cZ fa ox Z H) (hM : MO D cI cJ cZ ra oy Z H) (hS : va_S (AN s) s.heap H locs) (hl : lv_has ls 4 [(0, .ref b), (1, .ref ox), (2, .ref oy), (3, .int (nI i))]) (kk : ∀ (Z1 : Zt) (H1 : Heap) (locs1 : List Loc), XO D cI cJ cZ fa ox Z1 H1 → MO D cI cJ cZ ra oy Z1 H1 → va_S (AN s) s.heap H1 locs1 → W p l e room_1 s m #[Value.ref b] below meth c H1 locs1 cells slots (lw_Z below #[Value.ref b] s) (F0 m 746 ls [])) : W p l e room_1 s m #[Value.ref b] below meth c H locs cells slots (lw_Z below #[Value.ref b] s) (F0 m 344 ls []) := by
  obtain ⟨hx, hb, hml, hown, hts, hK, hG, hga, hgb, hXs, hbl, hL, hr, hlocks⟩ := id C
  have hbA : ¬ AN s b := Nat.not_le.mpr hbl
  refine lv_aload_n hx hb dL_law_344 rfl (lv_at hl 1 rfl) ?_
  refine lx_back C hN hc hs0 hX hM hS hl.1 (fun H locs hX hM hS => ?_)
  refine lv_aload_n hx hb dL_law_348 rfl (lv_at hl 2 rfl) ?_
  refine ly_back C hN hc hs0 hX hM hS hl.1 (fun H locs hX hM hS => ?_)
  exact lv_icmp_eq (tgt := 746) hx hb dL_law_352 (by decide) (fun _ => kk _ _ _ hX hM hS) (fun h => absurd rfl h)
set_option maxHeartbeats 4000000 in
theorem st_anew {p : Program} {l : Launch} {e : Env} {s : State} {m : MethodId} {below : List Frame} {meth : Method} {c : Code} {b L : Nat} {xs : Nat → Int32} {D : va_G} {cI cJ cZ : ClassId} {ga gb : Nat} {fa ra : List Nat} {ox oy : Nat} {cells slots : Nat} {Z : Zt} {H : Heap} {locs : List Loc} {ls : Array Slot} {i : Nat} (C : lwC p s m meth c b L xs D cI cJ cZ ga gb) (hN : lwN fa ra s.heap.size) (hc : cells ≤ 600000) (hs0 : slots ≤ 7302250) (hi : i + 4 ≤ L) (hX : XO D cI cJ cZ fa ox Z H) (hM : MO D cI cJ cZ ra oy Z H) (hS : va_S (AN s) s.heap H locs) (hl : lv_has ls 4 [(0, .ref b), (1, .ref ox), (2, .ref oy), (3, .int (nI i))]) (kk : ∀ (Z1 : Zt) (H1 : Heap) (locs1 : List Loc), XO D cI cJ cZ fa ox Z1 H1 → MO D cI cJ cZ ra oy Z1 H1 → va_S (AN s) s.heap H1 locs1 → W p l e room_1 s m #[Value.ref b] below meth c H1 locs1 cells slots (lw_Z below #[Value.ref b] s) (F0 m 746 ls [])) : W p l e room_1 s m #[Value.ref b] below meth c H locs cells slots (lw_Z below #[Value.ref b] s) (F0 m 357 ls []) := by
  obtain ⟨hx, hb, hml, hown, hts, hK, hG, hga, hgb, hXs, hbl, hL, hr, hlocks⟩ := id C
  have hbA : ¬ AN s b := Nat.not_le.mpr hbl
  refine lv_aload_n hx hb dL_law_357 rfl (lv_at hl 1 rfl) ?_
  refine lx_anew C hN hc hs0 hX hM hS hl.1 (fun H locs hX hM hS => ?_)
  refine lv_aload_n hx hb dL_law_361 rfl (lv_at hl 2 rfl) ?_
  refine ly_anew C hN hc hs0 hX hM hS hl.1 (fun H locs hX hM hS => ?_)
  exact lv_icmp_eq (tgt := 746) hx hb dL_law_365 (by decide) (fun _ => kk _ _ _ hX hM hS) (fun h => absurd rfl h)
set_option maxHeartbeats 4000000 in
theorem st_explanation {p : Program} {l : Launch} {e : Env} {s : State} {m : MethodId} {below : List Frame} {meth : Method} {c : Code} {b L : Nat} {xs : Nat → Int32} {D : va_G} {cI cJ cZ : ClassId} {ga gb : Nat} {fa ra : List Nat} {ox oy : Nat} {cells slots : Nat} {Z : Zt} {H : Heap} {locs : List Loc} {ls : Array Slot} {i : Nat} (C : lwC p s m meth c b L xs D cI cJ cZ ga gb) (hN : lwN fa ra s.heap.size) (hc : cells ≤ 600000) (hs0 : slots ≤ 7302250) (hi : i + 4 ≤ L) (hX : XO D cI cJ cZ fa ox Z H) (hM : MO D cI cJ cZ ra oy Z H) (hS : va_S (AN s) s.heap H locs) (hl : lv_has ls 4 [(0, .ref b), (1, .ref ox), (2, .ref oy), (3, .int (nI i))]) (kk : ∀ (Z1 : Zt) (H1 : Heap) (locs1 : List Loc), XO D cI cJ cZ fa ox Z1 H1 → MO D cI cJ cZ ra oy Z1 H1 → va_S (AN s) s.heap H1 locs1 → W p l e room_1 s m #[Value.ref b] below meth c H1 locs1 cells slots (lw_Z below #[Value.ref b] s) (F0 m 746 ls [])) : W p l e room_1 s m #[Value.ref b] below meth c H locs cells slots (lw_Z below #[Value.ref b] s) (F0 m 370 ls []) := by
  obtain ⟨hx, hb, hml, hown, hts, hK, hG, hga, hgb, hXs, hbl, hL, hr, hlocks⟩ := id C
  have hbA : ¬ AN s b := Nat.not_le.mpr hbl
  refine lv_aload_n hx hb dL_law_370 rfl (lv_at hl 1 rfl) ?_
  refine lv_aload_n hx hb dL_law_371 rfl (lv_at hl 0 rfl) ?_
  refine lv_iload_n hx hb dL_law_372 rfl (lv_at hl 3 rfl) ?_
  refine lv_iconst (v := nI 1) hx hb dL_law_373 (by decide) ?_
  refine x_iadd (z := nI (i + 1)) hx hb dL_law_374 (nI_add _ _) ?_
  refine x_sld hx hb hXs hbl hbA hS (show i + 1 < L by omega) hL dL_law_375 ?_
  refine lv_aload_n hx hb dL_law_376 rfl (lv_at hl 0 rfl) ?_
  refine lv_iload_n hx hb dL_law_377 rfl (lv_at hl 3 rfl) ?_
  refine lv_iconst (v := nI 2) hx hb dL_law_378 (by decide) ?_
  refine x_iadd (z := nI (i + 2)) hx hb dL_law_379 (nI_add _ _) ?_
  refine x_sld hx hb hXs hbl hbA hS (show i + 2 < L by omega) hL dL_law_380 ?_
  refine lx_explanation C hN hc hs0 hX hM hS hl.1 (xs (i + 1)) (xs (i + 2)) (fun H locs hX hM hS => ?_)
  refine lv_aload_n hx hb dL_law_384 rfl (lv_at hl 2 rfl) ?_
  refine lv_aload_n hx hb dL_law_385 rfl (lv_at hl 0 rfl) ?_
  refine lv_iload_n hx hb dL_law_386 rfl (lv_at hl 3 rfl) ?_
  refine lv_iconst (v := nI 1) hx hb dL_law_387 (by decide) ?_
  refine x_iadd (z := nI (i + 1)) hx hb dL_law_388 (nI_add _ _) ?_
  refine x_sld hx hb hXs hbl hbA hS (show i + 1 < L by omega) hL dL_law_389 ?_
  refine lv_aload_n hx hb dL_law_390 rfl (lv_at hl 0 rfl) ?_
  refine lv_iload_n hx hb dL_law_391 rfl (lv_at hl 3 rfl) ?_
  refine lv_iconst (v := nI 2) hx hb dL_law_392 (by decide) ?_
  refine x_iadd (z := nI (i + 2)) hx hb dL_law_393 (nI_add _ _) ?_
  refine x_sld hx hb hXs hbl hbA hS (show i + 2 < L by omega) hL dL_law_394 ?_
  refine ly_explanation C hN hc hs0 hX hM hS hl.1 (xs (i + 1)) (xs (i + 2)) (fun H locs hX hM hS => ?_)
  exact lv_icmp_eq (tgt := 746) hx hb dL_law_398 (by decide) (fun _ => kk _ _ _ hX hM hS) (fun h => absurd rfl h)
set_option maxHeartbeats 4000000 in
theorem st_weight {p : Program} {l : Launch} {e : Env} {s : State} {m : MethodId} {below : List Frame} {meth : Method} {c : Code} {b L : Nat} {xs : Nat → Int32} {D : va_G} {cI cJ cZ : ClassId} {ga gb : Nat} {fa ra : List Nat} {ox oy : Nat} {cells slots : Nat} {Z : Zt} {H : Heap} {locs : List Loc} {ls : Array Slot} {i : Nat} (C : lwC p s m meth c b L xs D cI cJ cZ ga gb) (hN : lwN fa ra s.heap.size) (hc : cells ≤ 600000) (hs0 : slots ≤ 7302250) (hi : i + 4 ≤ L) (hX : XO D cI cJ cZ fa ox Z H) (hM : MO D cI cJ cZ ra oy Z H) (hS : va_S (AN s) s.heap H locs) (hl : lv_has ls 4 [(0, .ref b), (1, .ref ox), (2, .ref oy), (3, .int (nI i))]) (kk : ∀ (Z1 : Zt) (H1 : Heap) (locs1 : List Loc), XO D cI cJ cZ fa ox Z1 H1 → MO D cI cJ cZ ra oy Z1 H1 → va_S (AN s) s.heap H1 locs1 → W p l e room_1 s m #[Value.ref b] below meth c H1 locs1 cells slots (lw_Z below #[Value.ref b] s) (F0 m 746 ls [])) : W p l e room_1 s m #[Value.ref b] below meth c H locs cells slots (lw_Z below #[Value.ref b] s) (F0 m 403 ls []) := by
  obtain ⟨hx, hb, hml, hown, hts, hK, hG, hga, hgb, hXs, hbl, hL, hr, hlocks⟩ := id C
  have hbA : ¬ AN s b := Nat.not_le.mpr hbl
  refine lv_aload_n hx hb dL_law_403 rfl (lv_at hl 1 rfl) ?_
  refine lv_aload_n hx hb dL_law_404 rfl (lv_at hl 0 rfl) ?_
  refine lv_iload_n hx hb dL_law_405 rfl (lv_at hl 3 rfl) ?_
  refine lv_iconst (v := nI 1) hx hb dL_law_406 (by decide) ?_
  refine x_iadd (z := nI (i + 1)) hx hb dL_law_407 (nI_add _ _) ?_
  refine x_sld hx hb hXs hbl hbA hS (show i + 1 < L by omega) hL dL_law_408 ?_
  refine lx_weight C hN hc hs0 hX hM hS hl.1 (xs (i + 1)) (fun H locs hX hM hS => ?_)
  refine lv_aload_n hx hb dL_law_412 rfl (lv_at hl 2 rfl) ?_
  refine lv_aload_n hx hb dL_law_413 rfl (lv_at hl 0 rfl) ?_
  refine lv_iload_n hx hb dL_law_414 rfl (lv_at hl 3 rfl) ?_
  refine lv_iconst (v := nI 1) hx hb dL_law_415 (by decide) ?_
  refine x_iadd (z := nI (i + 1)) hx hb dL_law_416 (nI_add _ _) ?_
  refine x_sld hx hb hXs hbl hbA hS (show i + 1 < L by omega) hL dL_law_417 ?_
  refine ly_weight C hN hc hs0 hX hM hS hl.1 (xs (i + 1)) (fun H locs hX hM hS => ?_)
  refine W.lcmp hx hb dL_law_421 ?_
  exact lv_if_eq (tgt := 746) hx hb dL_law_422 (by decide) (fun _ => kk _ _ _ hX hM hS) (fun h => absurd (lg_self _) h)
set_option maxHeartbeats 4000000 in
theorem st_share {p : Program} {l : Launch} {e : Env} {s : State} {m : MethodId} {below : List Frame} {meth : Method} {c : Code} {b L : Nat} {xs : Nat → Int32} {D : va_G} {cI cJ cZ : ClassId} {ga gb : Nat} {fa ra : List Nat} {ox oy : Nat} {cells slots : Nat} {Z : Zt} {H : Heap} {locs : List Loc} {ls : Array Slot} {i : Nat} (C : lwC p s m meth c b L xs D cI cJ cZ ga gb) (hN : lwN fa ra s.heap.size) (hc : cells ≤ 600000) (hs0 : slots ≤ 7302250) (hi : i + 4 ≤ L) (hX : XO D cI cJ cZ fa ox Z H) (hM : MO D cI cJ cZ ra oy Z H) (hS : va_S (AN s) s.heap H locs) (hl : lv_has ls 4 [(0, .ref b), (1, .ref ox), (2, .ref oy), (3, .int (nI i))]) (kk : ∀ (Z1 : Zt) (H1 : Heap) (locs1 : List Loc), XO D cI cJ cZ fa ox Z1 H1 → MO D cI cJ cZ ra oy Z1 H1 → va_S (AN s) s.heap H1 locs1 → W p l e room_1 s m #[Value.ref b] below meth c H1 locs1 cells slots (lw_Z below #[Value.ref b] s) (F0 m 746 ls [])) : W p l e room_1 s m #[Value.ref b] below meth c H locs cells slots (lw_Z below #[Value.ref b] s) (F0 m 427 ls []) := by
  obtain ⟨hx, hb, hml, hown, hts, hK, hG, hga, hgb, hXs, hbl, hL, hr, hlocks⟩ := id C
  have hbA : ¬ AN s b := Nat.not_le.mpr hbl
  refine lv_aload_n hx hb dL_law_427 rfl (lv_at hl 1 rfl) ?_
  refine lv_aload_n hx hb dL_law_428 rfl (lv_at hl 0 rfl) ?_
  refine lv_iload_n hx hb dL_law_429 rfl (lv_at hl 3 rfl) ?_
  refine lv_iconst (v := nI 1) hx hb dL_law_430 (by decide) ?_
  refine x_iadd (z := nI (i + 1)) hx hb dL_law_431 (nI_add _ _) ?_
  refine x_sld hx hb hXs hbl hbA hS (show i + 1 < L by omega) hL dL_law_432 ?_
  refine lv_aload_n hx hb dL_law_433 rfl (lv_at hl 0 rfl) ?_
  refine lv_iload_n hx hb dL_law_434 rfl (lv_at hl 3 rfl) ?_
  refine lv_iconst (v := nI 2) hx hb dL_law_435 (by decide) ?_
  refine x_iadd (z := nI (i + 2)) hx hb dL_law_436 (nI_add _ _) ?_
  refine x_sld hx hb hXs hbl hbA hS (show i + 2 < L by omega) hL dL_law_437 ?_
  refine lx_share C hN hc hs0 hX hM hS hl.1 (xs (i + 1)) (xs (i + 2)) (fun H locs hX hM hS => ?_)
  refine lv_aload_n hx hb dL_law_441 rfl (lv_at hl 2 rfl) ?_
  refine lv_aload_n hx hb dL_law_442 rfl (lv_at hl 0 rfl) ?_
  refine lv_iload_n hx hb dL_law_443 rfl (lv_at hl 3 rfl) ?_
  refine lv_iconst (v := nI 1) hx hb dL_law_444 (by decide) ?_
  refine x_iadd (z := nI (i + 1)) hx hb dL_law_445 (nI_add _ _) ?_
  refine x_sld hx hb hXs hbl hbA hS (show i + 1 < L by omega) hL dL_law_446 ?_
  refine lv_aload_n hx hb dL_law_447 rfl (lv_at hl 0 rfl) ?_
  refine lv_iload_n hx hb dL_law_448 rfl (lv_at hl 3 rfl) ?_
  refine lv_iconst (v := nI 2) hx hb dL_law_449 (by decide) ?_
  refine x_iadd (z := nI (i + 2)) hx hb dL_law_450 (nI_add _ _) ?_
  refine x_sld hx hb hXs hbl hbA hS (show i + 2 < L by omega) hL dL_law_451 ?_
  refine ly_share C hN hc hs0 hX hM hS hl.1 (xs (i + 1)) (xs (i + 2)) (fun H locs hX hM hS => ?_)
  refine W.lcmp hx hb dL_law_455 ?_
  exact lv_if_eq (tgt := 746) hx hb dL_law_456 (by decide) (fun _ => kk _ _ _ hX hM hS) (fun h => absurd (lg_self _) h)
set_option maxHeartbeats 4000000 in
theorem st_needs {p : Program} {l : Launch} {e : Env} {s : State} {m : MethodId} {below : List Frame} {meth : Method} {c : Code} {b L : Nat} {xs : Nat → Int32} {D : va_G} {cI cJ cZ : ClassId} {ga gb : Nat} {fa ra : List Nat} {ox oy : Nat} {cells slots : Nat} {Z : Zt} {H : Heap} {locs : List Loc} {ls : Array Slot} {i : Nat} (C : lwC p s m meth c b L xs D cI cJ cZ ga gb) (hN : lwN fa ra s.heap.size) (hc : cells ≤ 600000) (hs0 : slots ≤ 7302250) (hi : i + 4 ≤ L) (hX : XO D cI cJ cZ fa ox Z H) (hM : MO D cI cJ cZ ra oy Z H) (hS : va_S (AN s) s.heap H locs) (hl : lv_has ls 4 [(0, .ref b), (1, .ref ox), (2, .ref oy), (3, .int (nI i))]) (kk : ∀ (Z1 : Zt) (H1 : Heap) (locs1 : List Loc), XO D cI cJ cZ fa ox Z1 H1 → MO D cI cJ cZ ra oy Z1 H1 → va_S (AN s) s.heap H1 locs1 → W p l e room_1 s m #[Value.ref b] below meth c H1 locs1 cells slots (lw_Z below #[Value.ref b] s) (F0 m 746 ls [])) : W p l e room_1 s m #[Value.ref b] below meth c H locs cells slots (lw_Z below #[Value.ref b] s) (F0 m 461 ls []) := by
  obtain ⟨hx, hb, hml, hown, hts, hK, hG, hga, hgb, hXs, hbl, hL, hr, hlocks⟩ := id C
  have hbA : ¬ AN s b := Nat.not_le.mpr hbl
  refine lv_aload_n hx hb dL_law_461 rfl (lv_at hl 1 rfl) ?_
  refine lv_aload_n hx hb dL_law_462 rfl (lv_at hl 0 rfl) ?_
  refine lv_iload_n hx hb dL_law_463 rfl (lv_at hl 3 rfl) ?_
  refine lv_iconst (v := nI 1) hx hb dL_law_464 (by decide) ?_
  refine x_iadd (z := nI (i + 1)) hx hb dL_law_465 (nI_add _ _) ?_
  refine x_sld hx hb hXs hbl hbA hS (show i + 1 < L by omega) hL dL_law_466 ?_
  refine lv_aload_n hx hb dL_law_467 rfl (lv_at hl 0 rfl) ?_
  refine lv_iload_n hx hb dL_law_468 rfl (lv_at hl 3 rfl) ?_
  refine lv_iconst (v := nI 2) hx hb dL_law_469 (by decide) ?_
  refine x_iadd (z := nI (i + 2)) hx hb dL_law_470 (nI_add _ _) ?_
  refine x_sld hx hb hXs hbl hbA hS (show i + 2 < L by omega) hL dL_law_471 ?_
  refine lx_needs C hN hc hs0 hX hM hS hl.1 (xs (i + 1)) (xs (i + 2)) (fun H locs hX hM hS => ?_)
  refine lv_aload_n hx hb dL_law_475 rfl (lv_at hl 2 rfl) ?_
  refine lv_aload_n hx hb dL_law_476 rfl (lv_at hl 0 rfl) ?_
  refine lv_iload_n hx hb dL_law_477 rfl (lv_at hl 3 rfl) ?_
  refine lv_iconst (v := nI 1) hx hb dL_law_478 (by decide) ?_
  refine x_iadd (z := nI (i + 1)) hx hb dL_law_479 (nI_add _ _) ?_
  refine x_sld hx hb hXs hbl hbA hS (show i + 1 < L by omega) hL dL_law_480 ?_
  refine lv_aload_n hx hb dL_law_481 rfl (lv_at hl 0 rfl) ?_
  refine lv_iload_n hx hb dL_law_482 rfl (lv_at hl 3 rfl) ?_
  refine lv_iconst (v := nI 2) hx hb dL_law_483 (by decide) ?_
  refine x_iadd (z := nI (i + 2)) hx hb dL_law_484 (nI_add _ _) ?_
  refine x_sld hx hb hXs hbl hbA hS (show i + 2 < L by omega) hL dL_law_485 ?_
  refine ly_needs C hN hc hs0 hX hM hS hl.1 (xs (i + 1)) (xs (i + 2)) (fun H locs hX hM hS => ?_)
  exact lv_icmp_eq (tgt := 746) hx hb dL_law_489 (by decide) (fun _ => kk _ _ _ hX hM hS) (fun h => absurd rfl h)
set_option maxHeartbeats 4000000 in
theorem st_sets {p : Program} {l : Launch} {e : Env} {s : State} {m : MethodId} {below : List Frame} {meth : Method} {c : Code} {b L : Nat} {xs : Nat → Int32} {D : va_G} {cI cJ cZ : ClassId} {ga gb : Nat} {fa ra : List Nat} {ox oy : Nat} {cells slots : Nat} {Z : Zt} {H : Heap} {locs : List Loc} {ls : Array Slot} {i : Nat} (C : lwC p s m meth c b L xs D cI cJ cZ ga gb) (hN : lwN fa ra s.heap.size) (hc : cells ≤ 600000) (hs0 : slots ≤ 7302250) (hi : i + 4 ≤ L) (hX : XO D cI cJ cZ fa ox Z H) (hM : MO D cI cJ cZ ra oy Z H) (hS : va_S (AN s) s.heap H locs) (hl : lv_has ls 4 [(0, .ref b), (1, .ref ox), (2, .ref oy), (3, .int (nI i))]) (kk : ∀ (Z1 : Zt) (H1 : Heap) (locs1 : List Loc), XO D cI cJ cZ fa ox Z1 H1 → MO D cI cJ cZ ra oy Z1 H1 → va_S (AN s) s.heap H1 locs1 → W p l e room_1 s m #[Value.ref b] below meth c H1 locs1 cells slots (lw_Z below #[Value.ref b] s) (F0 m 746 ls [])) : W p l e room_1 s m #[Value.ref b] below meth c H locs cells slots (lw_Z below #[Value.ref b] s) (F0 m 494 ls []) := by
  obtain ⟨hx, hb, hml, hown, hts, hK, hG, hga, hgb, hXs, hbl, hL, hr, hlocks⟩ := id C
  have hbA : ¬ AN s b := Nat.not_le.mpr hbl
  refine lv_aload_n hx hb dL_law_494 rfl (lv_at hl 1 rfl) ?_
  refine lv_aload_n hx hb dL_law_495 rfl (lv_at hl 0 rfl) ?_
  refine lv_iload_n hx hb dL_law_496 rfl (lv_at hl 3 rfl) ?_
  refine lv_iconst (v := nI 1) hx hb dL_law_497 (by decide) ?_
  refine x_iadd (z := nI (i + 1)) hx hb dL_law_498 (nI_add _ _) ?_
  refine x_sld hx hb hXs hbl hbA hS (show i + 1 < L by omega) hL dL_law_499 ?_
  refine lx_sets C hN hc hs0 hX hM hS hl.1 (xs (i + 1)) (fun H locs hX hM hS => ?_)
  refine lv_aload_n hx hb dL_law_503 rfl (lv_at hl 2 rfl) ?_
  refine lv_aload_n hx hb dL_law_504 rfl (lv_at hl 0 rfl) ?_
  refine lv_iload_n hx hb dL_law_505 rfl (lv_at hl 3 rfl) ?_
  refine lv_iconst (v := nI 1) hx hb dL_law_506 (by decide) ?_
  refine x_iadd (z := nI (i + 1)) hx hb dL_law_507 (nI_add _ _) ?_
  refine x_sld hx hb hXs hbl hbA hS (show i + 1 < L by omega) hL dL_law_508 ?_
  refine ly_sets C hN hc hs0 hX hM hS hl.1 (xs (i + 1)) (fun H locs hX hM hS => ?_)
  exact lv_icmp_eq (tgt := 746) hx hb dL_law_512 (by decide) (fun _ => kk _ _ _ hX hM hS) (fun h => absurd rfl h)
set_option maxHeartbeats 4000000 in
theorem st_belief {p : Program} {l : Launch} {e : Env} {s : State} {m : MethodId} {below : List Frame} {meth : Method} {c : Code} {b L : Nat} {xs : Nat → Int32} {D : va_G} {cI cJ cZ : ClassId} {ga gb : Nat} {fa ra : List Nat} {ox oy : Nat} {cells slots : Nat} {Z : Zt} {H : Heap} {locs : List Loc} {ls : Array Slot} {i : Nat} (C : lwC p s m meth c b L xs D cI cJ cZ ga gb) (hN : lwN fa ra s.heap.size) (hc : cells ≤ 600000) (hs0 : slots ≤ 7302250) (hi : i + 4 ≤ L) (hX : XO D cI cJ cZ fa ox Z H) (hM : MO D cI cJ cZ ra oy Z H) (hS : va_S (AN s) s.heap H locs) (hl : lv_has ls 4 [(0, .ref b), (1, .ref ox), (2, .ref oy), (3, .int (nI i))]) (kk : ∀ (Z1 : Zt) (H1 : Heap) (locs1 : List Loc), XO D cI cJ cZ fa ox Z1 H1 → MO D cI cJ cZ ra oy Z1 H1 → va_S (AN s) s.heap H1 locs1 → W p l e room_1 s m #[Value.ref b] below meth c H1 locs1 cells slots (lw_Z below #[Value.ref b] s) (F0 m 746 ls [])) : W p l e room_1 s m #[Value.ref b] below meth c H locs cells slots (lw_Z below #[Value.ref b] s) (F0 m 517 ls []) := by
  obtain ⟨hx, hb, hml, hown, hts, hK, hG, hga, hgb, hXs, hbl, hL, hr, hlocks⟩ := id C
  have hbA : ¬ AN s b := Nat.not_le.mpr hbl
  refine lv_aload_n hx hb dL_law_517 rfl (lv_at hl 1 rfl) ?_
  refine lv_aload_n hx hb dL_law_518 rfl (lv_at hl 0 rfl) ?_
  refine lv_iload_n hx hb dL_law_519 rfl (lv_at hl 3 rfl) ?_
  refine lv_iconst (v := nI 1) hx hb dL_law_520 (by decide) ?_
  refine x_iadd (z := nI (i + 1)) hx hb dL_law_521 (nI_add _ _) ?_
  refine x_sld hx hb hXs hbl hbA hS (show i + 1 < L by omega) hL dL_law_522 ?_
  refine lv_aload_n hx hb dL_law_523 rfl (lv_at hl 0 rfl) ?_
  refine lv_iload_n hx hb dL_law_524 rfl (lv_at hl 3 rfl) ?_
  refine lv_iconst (v := nI 2) hx hb dL_law_525 (by decide) ?_
  refine x_iadd (z := nI (i + 2)) hx hb dL_law_526 (nI_add _ _) ?_
  refine x_sld hx hb hXs hbl hbA hS (show i + 2 < L by omega) hL dL_law_527 ?_
  refine lx_belief C hN hc hs0 hX hM hS hl.1 (xs (i + 1)) (xs (i + 2)) (fun H locs hX hM hS => ?_)
  refine lv_aload_n hx hb dL_law_531 rfl (lv_at hl 2 rfl) ?_
  refine lv_aload_n hx hb dL_law_532 rfl (lv_at hl 0 rfl) ?_
  refine lv_iload_n hx hb dL_law_533 rfl (lv_at hl 3 rfl) ?_
  refine lv_iconst (v := nI 1) hx hb dL_law_534 (by decide) ?_
  refine x_iadd (z := nI (i + 1)) hx hb dL_law_535 (nI_add _ _) ?_
  refine x_sld hx hb hXs hbl hbA hS (show i + 1 < L by omega) hL dL_law_536 ?_
  refine lv_aload_n hx hb dL_law_537 rfl (lv_at hl 0 rfl) ?_
  refine lv_iload_n hx hb dL_law_538 rfl (lv_at hl 3 rfl) ?_
  refine lv_iconst (v := nI 2) hx hb dL_law_539 (by decide) ?_
  refine x_iadd (z := nI (i + 2)) hx hb dL_law_540 (nI_add _ _) ?_
  refine x_sld hx hb hXs hbl hbA hS (show i + 2 < L by omega) hL dL_law_541 ?_
  refine ly_belief C hN hc hs0 hX hM hS hl.1 (xs (i + 1)) (xs (i + 2)) (fun H locs hX hM hS => ?_)
  refine W.lcmp hx hb dL_law_545 ?_
  exact lv_if_eq (tgt := 746) hx hb dL_law_546 (by decide) (fun _ => kk _ _ _ hX hM hS) (fun h => absurd (lg_self _) h)
set_option maxHeartbeats 4000000 in
theorem st_fewest {p : Program} {l : Launch} {e : Env} {s : State} {m : MethodId} {below : List Frame} {meth : Method} {c : Code} {b L : Nat} {xs : Nat → Int32} {D : va_G} {cI cJ cZ : ClassId} {ga gb : Nat} {fa ra : List Nat} {ox oy : Nat} {cells slots : Nat} {Z : Zt} {H : Heap} {locs : List Loc} {ls : Array Slot} {i : Nat} (C : lwC p s m meth c b L xs D cI cJ cZ ga gb) (hN : lwN fa ra s.heap.size) (hc : cells ≤ 600000) (hs0 : slots ≤ 7302250) (hi : i + 4 ≤ L) (hX : XO D cI cJ cZ fa ox Z H) (hM : MO D cI cJ cZ ra oy Z H) (hS : va_S (AN s) s.heap H locs) (hl : lv_has ls 4 [(0, .ref b), (1, .ref ox), (2, .ref oy), (3, .int (nI i))]) (kk : ∀ (Z1 : Zt) (H1 : Heap) (locs1 : List Loc), XO D cI cJ cZ fa ox Z1 H1 → MO D cI cJ cZ ra oy Z1 H1 → va_S (AN s) s.heap H1 locs1 → W p l e room_1 s m #[Value.ref b] below meth c H1 locs1 cells slots (lw_Z below #[Value.ref b] s) (F0 m 746 ls [])) : W p l e room_1 s m #[Value.ref b] below meth c H locs cells slots (lw_Z below #[Value.ref b] s) (F0 m 551 ls []) := by
  obtain ⟨hx, hb, hml, hown, hts, hK, hG, hga, hgb, hXs, hbl, hL, hr, hlocks⟩ := id C
  have hbA : ¬ AN s b := Nat.not_le.mpr hbl
  refine lv_aload_n hx hb dL_law_551 rfl (lv_at hl 1 rfl) ?_
  refine lv_aload_n hx hb dL_law_552 rfl (lv_at hl 0 rfl) ?_
  refine lv_iload_n hx hb dL_law_553 rfl (lv_at hl 3 rfl) ?_
  refine lv_iconst (v := nI 1) hx hb dL_law_554 (by decide) ?_
  refine x_iadd (z := nI (i + 1)) hx hb dL_law_555 (nI_add _ _) ?_
  refine x_sld hx hb hXs hbl hbA hS (show i + 1 < L by omega) hL dL_law_556 ?_
  refine lx_fewest C hN hc hs0 hX hM hS hl.1 (xs (i + 1)) (fun H locs hX hM hS => ?_)
  refine lv_aload_n hx hb dL_law_560 rfl (lv_at hl 2 rfl) ?_
  refine lv_aload_n hx hb dL_law_561 rfl (lv_at hl 0 rfl) ?_
  refine lv_iload_n hx hb dL_law_562 rfl (lv_at hl 3 rfl) ?_
  refine lv_iconst (v := nI 1) hx hb dL_law_563 (by decide) ?_
  refine x_iadd (z := nI (i + 1)) hx hb dL_law_564 (nI_add _ _) ?_
  refine x_sld hx hb hXs hbl hbA hS (show i + 1 < L by omega) hL dL_law_565 ?_
  refine ly_fewest C hN hc hs0 hX hM hS hl.1 (xs (i + 1)) (fun H locs hX hM hS => ?_)
  exact lv_icmp_eq (tgt := 746) hx hb dL_law_569 (by decide) (fun _ => kk _ _ _ hX hM hS) (fun h => absurd rfl h)
set_option maxHeartbeats 4000000 in
theorem st_covers {p : Program} {l : Launch} {e : Env} {s : State} {m : MethodId} {below : List Frame} {meth : Method} {c : Code} {b L : Nat} {xs : Nat → Int32} {D : va_G} {cI cJ cZ : ClassId} {ga gb : Nat} {fa ra : List Nat} {ox oy : Nat} {cells slots : Nat} {Z : Zt} {H : Heap} {locs : List Loc} {ls : Array Slot} {i : Nat} (C : lwC p s m meth c b L xs D cI cJ cZ ga gb) (hN : lwN fa ra s.heap.size) (hc : cells ≤ 600000) (hs0 : slots ≤ 7302250) (hi : i + 4 ≤ L) (hX : XO D cI cJ cZ fa ox Z H) (hM : MO D cI cJ cZ ra oy Z H) (hS : va_S (AN s) s.heap H locs) (hl : lv_has ls 4 [(0, .ref b), (1, .ref ox), (2, .ref oy), (3, .int (nI i))]) (kk : ∀ (Z1 : Zt) (H1 : Heap) (locs1 : List Loc), XO D cI cJ cZ fa ox Z1 H1 → MO D cI cJ cZ ra oy Z1 H1 → va_S (AN s) s.heap H1 locs1 → W p l e room_1 s m #[Value.ref b] below meth c H1 locs1 cells slots (lw_Z below #[Value.ref b] s) (F0 m 746 ls [])) : W p l e room_1 s m #[Value.ref b] below meth c H locs cells slots (lw_Z below #[Value.ref b] s) (F0 m 574 ls []) := by
  obtain ⟨hx, hb, hml, hown, hts, hK, hG, hga, hgb, hXs, hbl, hL, hr, hlocks⟩ := id C
  have hbA : ¬ AN s b := Nat.not_le.mpr hbl
  refine lv_aload_n hx hb dL_law_574 rfl (lv_at hl 1 rfl) ?_
  refine lv_aload_n hx hb dL_law_575 rfl (lv_at hl 0 rfl) ?_
  refine lv_iload_n hx hb dL_law_576 rfl (lv_at hl 3 rfl) ?_
  refine lv_iconst (v := nI 1) hx hb dL_law_577 (by decide) ?_
  refine x_iadd (z := nI (i + 1)) hx hb dL_law_578 (nI_add _ _) ?_
  refine x_sld hx hb hXs hbl hbA hS (show i + 1 < L by omega) hL dL_law_579 ?_
  refine lx_covers C hN hc hs0 hX hM hS hl.1 (xs (i + 1)) (fun H locs hX hM hS => ?_)
  refine lv_aload_n hx hb dL_law_583 rfl (lv_at hl 2 rfl) ?_
  refine lv_aload_n hx hb dL_law_584 rfl (lv_at hl 0 rfl) ?_
  refine lv_iload_n hx hb dL_law_585 rfl (lv_at hl 3 rfl) ?_
  refine lv_iconst (v := nI 1) hx hb dL_law_586 (by decide) ?_
  refine x_iadd (z := nI (i + 1)) hx hb dL_law_587 (nI_add _ _) ?_
  refine x_sld hx hb hXs hbl hbA hS (show i + 1 < L by omega) hL dL_law_588 ?_
  refine ly_covers C hN hc hs0 hX hM hS hl.1 (xs (i + 1)) (fun H locs hX hM hS => ?_)
  exact lv_icmp_eq (tgt := 746) hx hb dL_law_592 (by decide) (fun _ => kk _ _ _ hX hM hS) (fun h => absurd rfl h)
set_option maxHeartbeats 4000000 in
theorem st_unexplained {p : Program} {l : Launch} {e : Env} {s : State} {m : MethodId} {below : List Frame} {meth : Method} {c : Code} {b L : Nat} {xs : Nat → Int32} {D : va_G} {cI cJ cZ : ClassId} {ga gb : Nat} {fa ra : List Nat} {ox oy : Nat} {cells slots : Nat} {Z : Zt} {H : Heap} {locs : List Loc} {ls : Array Slot} {i : Nat} (C : lwC p s m meth c b L xs D cI cJ cZ ga gb) (hN : lwN fa ra s.heap.size) (hc : cells ≤ 600000) (hs0 : slots ≤ 7302250) (hi : i + 4 ≤ L) (hX : XO D cI cJ cZ fa ox Z H) (hM : MO D cI cJ cZ ra oy Z H) (hS : va_S (AN s) s.heap H locs) (hl : lv_has ls 4 [(0, .ref b), (1, .ref ox), (2, .ref oy), (3, .int (nI i))]) (kk : ∀ (Z1 : Zt) (H1 : Heap) (locs1 : List Loc), XO D cI cJ cZ fa ox Z1 H1 → MO D cI cJ cZ ra oy Z1 H1 → va_S (AN s) s.heap H1 locs1 → W p l e room_1 s m #[Value.ref b] below meth c H1 locs1 cells slots (lw_Z below #[Value.ref b] s) (F0 m 746 ls [])) : W p l e room_1 s m #[Value.ref b] below meth c H locs cells slots (lw_Z below #[Value.ref b] s) (F0 m 597 ls []) := by
  obtain ⟨hx, hb, hml, hown, hts, hK, hG, hga, hgb, hXs, hbl, hL, hr, hlocks⟩ := id C
  have hbA : ¬ AN s b := Nat.not_le.mpr hbl
  refine lv_aload_n hx hb dL_law_597 rfl (lv_at hl 1 rfl) ?_
  refine lx_unexplained C hN hc hs0 hX hM hS hl.1 (fun H locs hX hM hS => ?_)
  refine lv_aload_n hx hb dL_law_601 rfl (lv_at hl 2 rfl) ?_
  refine ly_unexplained C hN hc hs0 hX hM hS hl.1 (fun H locs hX hM hS => ?_)
  exact lv_icmp_eq (tgt := 746) hx hb dL_law_605 (by decide) (fun _ => kk _ _ _ hX hM hS) (fun h => absurd rfl h)
set_option maxHeartbeats 4000000 in
theorem st_split {p : Program} {l : Launch} {e : Env} {s : State} {m : MethodId} {below : List Frame} {meth : Method} {c : Code} {b L : Nat} {xs : Nat → Int32} {D : va_G} {cI cJ cZ : ClassId} {ga gb : Nat} {fa ra : List Nat} {ox oy : Nat} {cells slots : Nat} {Z : Zt} {H : Heap} {locs : List Loc} {ls : Array Slot} {i : Nat} (C : lwC p s m meth c b L xs D cI cJ cZ ga gb) (hN : lwN fa ra s.heap.size) (hc : cells ≤ 600000) (hs0 : slots ≤ 7302250) (hi : i + 4 ≤ L) (hX : XO D cI cJ cZ fa ox Z H) (hM : MO D cI cJ cZ ra oy Z H) (hS : va_S (AN s) s.heap H locs) (hl : lv_has ls 4 [(0, .ref b), (1, .ref ox), (2, .ref oy), (3, .int (nI i))]) (kk : ∀ (Z1 : Zt) (H1 : Heap) (locs1 : List Loc), XO D cI cJ cZ fa ox Z1 H1 → MO D cI cJ cZ ra oy Z1 H1 → va_S (AN s) s.heap H1 locs1 → W p l e room_1 s m #[Value.ref b] below meth c H1 locs1 cells slots (lw_Z below #[Value.ref b] s) (F0 m 746 ls [])) : W p l e room_1 s m #[Value.ref b] below meth c H locs cells slots (lw_Z below #[Value.ref b] s) (F0 m 610 ls []) := by
  obtain ⟨hx, hb, hml, hown, hts, hK, hG, hga, hgb, hXs, hbl, hL, hr, hlocks⟩ := id C
  have hbA : ¬ AN s b := Nat.not_le.mpr hbl
  refine lv_aload_n hx hb dL_law_610 rfl (lv_at hl 1 rfl) ?_
  refine lv_aload_n hx hb dL_law_611 rfl (lv_at hl 0 rfl) ?_
  refine lv_iload_n hx hb dL_law_612 rfl (lv_at hl 3 rfl) ?_
  refine lv_iconst (v := nI 1) hx hb dL_law_613 (by decide) ?_
  refine x_iadd (z := nI (i + 1)) hx hb dL_law_614 (nI_add _ _) ?_
  refine x_sld hx hb hXs hbl hbA hS (show i + 1 < L by omega) hL dL_law_615 ?_
  refine lv_aload_n hx hb dL_law_616 rfl (lv_at hl 0 rfl) ?_
  refine lv_iload_n hx hb dL_law_617 rfl (lv_at hl 3 rfl) ?_
  refine lv_iconst (v := nI 2) hx hb dL_law_618 (by decide) ?_
  refine x_iadd (z := nI (i + 2)) hx hb dL_law_619 (nI_add _ _) ?_
  refine x_sld hx hb hXs hbl hbA hS (show i + 2 < L by omega) hL dL_law_620 ?_
  refine lx_split C hN hc hs0 hX hM hS hl.1 (xs (i + 1)) (xs (i + 2)) (fun H locs hX hM hS => ?_)
  refine lv_aload_n hx hb dL_law_624 rfl (lv_at hl 2 rfl) ?_
  refine lv_aload_n hx hb dL_law_625 rfl (lv_at hl 0 rfl) ?_
  refine lv_iload_n hx hb dL_law_626 rfl (lv_at hl 3 rfl) ?_
  refine lv_iconst (v := nI 1) hx hb dL_law_627 (by decide) ?_
  refine x_iadd (z := nI (i + 1)) hx hb dL_law_628 (nI_add _ _) ?_
  refine x_sld hx hb hXs hbl hbA hS (show i + 1 < L by omega) hL dL_law_629 ?_
  refine lv_aload_n hx hb dL_law_630 rfl (lv_at hl 0 rfl) ?_
  refine lv_iload_n hx hb dL_law_631 rfl (lv_at hl 3 rfl) ?_
  refine lv_iconst (v := nI 2) hx hb dL_law_632 (by decide) ?_
  refine x_iadd (z := nI (i + 2)) hx hb dL_law_633 (nI_add _ _) ?_
  refine x_sld hx hb hXs hbl hbA hS (show i + 2 < L by omega) hL dL_law_634 ?_
  refine ly_split C hN hc hs0 hX hM hS hl.1 (xs (i + 1)) (xs (i + 2)) (fun H locs hX hM hS => ?_)
  refine W.lcmp hx hb dL_law_638 ?_
  exact lv_if_eq (tgt := 746) hx hb dL_law_639 (by decide) (fun _ => kk _ _ _ hX hM hS) (fun h => absurd (lg_self _) h)
set_option maxHeartbeats 4000000 in
theorem st_next {p : Program} {l : Launch} {e : Env} {s : State} {m : MethodId} {below : List Frame} {meth : Method} {c : Code} {b L : Nat} {xs : Nat → Int32} {D : va_G} {cI cJ cZ : ClassId} {ga gb : Nat} {fa ra : List Nat} {ox oy : Nat} {cells slots : Nat} {Z : Zt} {H : Heap} {locs : List Loc} {ls : Array Slot} {i : Nat} (C : lwC p s m meth c b L xs D cI cJ cZ ga gb) (hN : lwN fa ra s.heap.size) (hc : cells ≤ 600000) (hs0 : slots ≤ 7302250) (hi : i + 4 ≤ L) (hX : XO D cI cJ cZ fa ox Z H) (hM : MO D cI cJ cZ ra oy Z H) (hS : va_S (AN s) s.heap H locs) (hl : lv_has ls 4 [(0, .ref b), (1, .ref ox), (2, .ref oy), (3, .int (nI i))]) (kk : ∀ (Z1 : Zt) (H1 : Heap) (locs1 : List Loc), XO D cI cJ cZ fa ox Z1 H1 → MO D cI cJ cZ ra oy Z1 H1 → va_S (AN s) s.heap H1 locs1 → W p l e room_1 s m #[Value.ref b] below meth c H1 locs1 cells slots (lw_Z below #[Value.ref b] s) (F0 m 746 ls [])) : W p l e room_1 s m #[Value.ref b] below meth c H locs cells slots (lw_Z below #[Value.ref b] s) (F0 m 644 ls []) := by
  obtain ⟨hx, hb, hml, hown, hts, hK, hG, hga, hgb, hXs, hbl, hL, hr, hlocks⟩ := id C
  have hbA : ¬ AN s b := Nat.not_le.mpr hbl
  refine lv_aload_n hx hb dL_law_644 rfl (lv_at hl 1 rfl) ?_
  refine lx_next C hN hc hs0 hX hM hS hl.1 (fun H locs hX hM hS => ?_)
  refine lv_aload_n hx hb dL_law_648 rfl (lv_at hl 2 rfl) ?_
  refine ly_next C hN hc hs0 hX hM hS hl.1 (fun H locs hX hM hS => ?_)
  exact lv_icmp_eq (tgt := 746) hx hb dL_law_652 (by decide) (fun _ => kk _ _ _ hX hM hS) (fun h => absurd rfl h)
set_option maxHeartbeats 4000000 in
theorem st_would {p : Program} {l : Launch} {e : Env} {s : State} {m : MethodId} {below : List Frame} {meth : Method} {c : Code} {b L : Nat} {xs : Nat → Int32} {D : va_G} {cI cJ cZ : ClassId} {ga gb : Nat} {fa ra : List Nat} {ox oy : Nat} {cells slots : Nat} {Z : Zt} {H : Heap} {locs : List Loc} {ls : Array Slot} {i : Nat} (C : lwC p s m meth c b L xs D cI cJ cZ ga gb) (hN : lwN fa ra s.heap.size) (hc : cells ≤ 600000) (hs0 : slots ≤ 7302250) (hi : i + 4 ≤ L) (hX : XO D cI cJ cZ fa ox Z H) (hM : MO D cI cJ cZ ra oy Z H) (hS : va_S (AN s) s.heap H locs) (hl : lv_has ls 4 [(0, .ref b), (1, .ref ox), (2, .ref oy), (3, .int (nI i))]) (kk : ∀ (Z1 : Zt) (H1 : Heap) (locs1 : List Loc), XO D cI cJ cZ fa ox Z1 H1 → MO D cI cJ cZ ra oy Z1 H1 → va_S (AN s) s.heap H1 locs1 → W p l e room_1 s m #[Value.ref b] below meth c H1 locs1 cells slots (lw_Z below #[Value.ref b] s) (F0 m 746 ls [])) : W p l e room_1 s m #[Value.ref b] below meth c H locs cells slots (lw_Z below #[Value.ref b] s) (F0 m 657 ls []) := by
  obtain ⟨hx, hb, hml, hown, hts, hK, hG, hga, hgb, hXs, hbl, hL, hr, hlocks⟩ := id C
  have hbA : ¬ AN s b := Nat.not_le.mpr hbl
  refine lv_aload_n hx hb dL_law_657 rfl (lv_at hl 1 rfl) ?_
  refine lv_aload_n hx hb dL_law_658 rfl (lv_at hl 0 rfl) ?_
  refine lv_iload_n hx hb dL_law_659 rfl (lv_at hl 3 rfl) ?_
  refine lv_iconst (v := nI 1) hx hb dL_law_660 (by decide) ?_
  refine x_iadd (z := nI (i + 1)) hx hb dL_law_661 (nI_add _ _) ?_
  refine x_sld hx hb hXs hbl hbA hS (show i + 1 < L by omega) hL dL_law_662 ?_
  refine lv_aload_n hx hb dL_law_663 rfl (lv_at hl 0 rfl) ?_
  refine lv_iload_n hx hb dL_law_664 rfl (lv_at hl 3 rfl) ?_
  refine lv_iconst (v := nI 2) hx hb dL_law_665 (by decide) ?_
  refine x_iadd (z := nI (i + 2)) hx hb dL_law_666 (nI_add _ _) ?_
  refine x_sld hx hb hXs hbl hbA hS (show i + 2 < L by omega) hL dL_law_667 ?_
  refine lx_would C hN hc hs0 hX hM hS hl.1 (xs (i + 1)) (xs (i + 2)) (fun H locs hX hM hS => ?_)
  refine lv_aload_n hx hb dL_law_671 rfl (lv_at hl 2 rfl) ?_
  refine lv_aload_n hx hb dL_law_672 rfl (lv_at hl 0 rfl) ?_
  refine lv_iload_n hx hb dL_law_673 rfl (lv_at hl 3 rfl) ?_
  refine lv_iconst (v := nI 1) hx hb dL_law_674 (by decide) ?_
  refine x_iadd (z := nI (i + 1)) hx hb dL_law_675 (nI_add _ _) ?_
  refine x_sld hx hb hXs hbl hbA hS (show i + 1 < L by omega) hL dL_law_676 ?_
  refine lv_aload_n hx hb dL_law_677 rfl (lv_at hl 0 rfl) ?_
  refine lv_iload_n hx hb dL_law_678 rfl (lv_at hl 3 rfl) ?_
  refine lv_iconst (v := nI 2) hx hb dL_law_679 (by decide) ?_
  refine x_iadd (z := nI (i + 2)) hx hb dL_law_680 (nI_add _ _) ?_
  refine x_sld hx hb hXs hbl hbA hS (show i + 2 < L by omega) hL dL_law_681 ?_
  refine ly_would C hN hc hs0 hX hM hS hl.1 (xs (i + 1)) (xs (i + 2)) (fun H locs hX hM hS => ?_)
  exact lv_icmp_eq (tgt := 746) hx hb dL_law_685 (by decide) (fun _ => kk _ _ _ hX hM hS) (fun h => absurd rfl h)
set_option maxHeartbeats 4000000 in
theorem st_plan {p : Program} {l : Launch} {e : Env} {s : State} {m : MethodId} {below : List Frame} {meth : Method} {c : Code} {b L : Nat} {xs : Nat → Int32} {D : va_G} {cI cJ cZ : ClassId} {ga gb : Nat} {fa ra : List Nat} {ox oy : Nat} {cells slots : Nat} {Z : Zt} {H : Heap} {locs : List Loc} {ls : Array Slot} {i : Nat} (C : lwC p s m meth c b L xs D cI cJ cZ ga gb) (hN : lwN fa ra s.heap.size) (hc : cells ≤ 600000) (hs0 : slots ≤ 7302250) (hi : i + 4 ≤ L) (hX : XO D cI cJ cZ fa ox Z H) (hM : MO D cI cJ cZ ra oy Z H) (hS : va_S (AN s) s.heap H locs) (hl : lv_has ls 4 [(0, .ref b), (1, .ref ox), (2, .ref oy), (3, .int (nI i))]) (kk : ∀ (Z1 : Zt) (H1 : Heap) (locs1 : List Loc), XO D cI cJ cZ fa ox Z1 H1 → MO D cI cJ cZ ra oy Z1 H1 → va_S (AN s) s.heap H1 locs1 → W p l e room_1 s m #[Value.ref b] below meth c H1 locs1 cells slots (lw_Z below #[Value.ref b] s) (F0 m 746 ls [])) : W p l e room_1 s m #[Value.ref b] below meth c H locs cells slots (lw_Z below #[Value.ref b] s) (F0 m 690 ls []) := by
  obtain ⟨hx, hb, hml, hown, hts, hK, hG, hga, hgb, hXs, hbl, hL, hr, hlocks⟩ := id C
  have hbA : ¬ AN s b := Nat.not_le.mpr hbl
  refine lv_aload_n hx hb dL_law_690 rfl (lv_at hl 1 rfl) ?_
  refine lv_aload_n hx hb dL_law_691 rfl (lv_at hl 0 rfl) ?_
  refine lv_iload_n hx hb dL_law_692 rfl (lv_at hl 3 rfl) ?_
  refine lv_iconst (v := nI 1) hx hb dL_law_693 (by decide) ?_
  refine x_iadd (z := nI (i + 1)) hx hb dL_law_694 (nI_add _ _) ?_
  refine x_sld hx hb hXs hbl hbA hS (show i + 1 < L by omega) hL dL_law_695 ?_
  refine lv_aload_n hx hb dL_law_696 rfl (lv_at hl 0 rfl) ?_
  refine lv_iload_n hx hb dL_law_697 rfl (lv_at hl 3 rfl) ?_
  refine lv_iconst (v := nI 2) hx hb dL_law_698 (by decide) ?_
  refine x_iadd (z := nI (i + 2)) hx hb dL_law_699 (nI_add _ _) ?_
  refine x_sld hx hb hXs hbl hbA hS (show i + 2 < L by omega) hL dL_law_700 ?_
  refine lx_plan C hN hc hs0 hX hM hS hl.1 (xs (i + 1)) (xs (i + 2)) (fun H locs hX hM hS => ?_)
  refine lv_aload_n hx hb dL_law_704 rfl (lv_at hl 2 rfl) ?_
  refine lv_aload_n hx hb dL_law_705 rfl (lv_at hl 0 rfl) ?_
  refine lv_iload_n hx hb dL_law_706 rfl (lv_at hl 3 rfl) ?_
  refine lv_iconst (v := nI 1) hx hb dL_law_707 (by decide) ?_
  refine x_iadd (z := nI (i + 1)) hx hb dL_law_708 (nI_add _ _) ?_
  refine x_sld hx hb hXs hbl hbA hS (show i + 1 < L by omega) hL dL_law_709 ?_
  refine lv_aload_n hx hb dL_law_710 rfl (lv_at hl 0 rfl) ?_
  refine lv_iload_n hx hb dL_law_711 rfl (lv_at hl 3 rfl) ?_
  refine lv_iconst (v := nI 2) hx hb dL_law_712 (by decide) ?_
  refine x_iadd (z := nI (i + 2)) hx hb dL_law_713 (nI_add _ _) ?_
  refine x_sld hx hb hXs hbl hbA hS (show i + 2 < L by omega) hL dL_law_714 ?_
  refine ly_plan C hN hc hs0 hX hM hS hl.1 (xs (i + 1)) (xs (i + 2)) (fun H locs hX hM hS => ?_)
  exact lv_icmp_eq (tgt := 746) hx hb dL_law_718 (by decide) (fun _ => kk _ _ _ hX hM hS) (fun h => absurd rfl h)
set_option maxHeartbeats 4000000 in
theorem st_many {p : Program} {l : Launch} {e : Env} {s : State} {m : MethodId} {below : List Frame} {meth : Method} {c : Code} {b L : Nat} {xs : Nat → Int32} {D : va_G} {cI cJ cZ : ClassId} {ga gb : Nat} {fa ra : List Nat} {ox oy : Nat} {cells slots : Nat} {Z : Zt} {H : Heap} {locs : List Loc} {ls : Array Slot} {i : Nat} (C : lwC p s m meth c b L xs D cI cJ cZ ga gb) (hN : lwN fa ra s.heap.size) (hc : cells ≤ 600000) (hs0 : slots ≤ 7302250) (hi : i + 4 ≤ L) (hX : XO D cI cJ cZ fa ox Z H) (hM : MO D cI cJ cZ ra oy Z H) (hS : va_S (AN s) s.heap H locs) (hl : lv_has ls 4 [(0, .ref b), (1, .ref ox), (2, .ref oy), (3, .int (nI i))]) (kk : ∀ (Z1 : Zt) (H1 : Heap) (locs1 : List Loc), XO D cI cJ cZ fa ox Z1 H1 → MO D cI cJ cZ ra oy Z1 H1 → va_S (AN s) s.heap H1 locs1 → W p l e room_1 s m #[Value.ref b] below meth c H1 locs1 cells slots (lw_Z below #[Value.ref b] s) (F0 m 746 ls [])) : W p l e room_1 s m #[Value.ref b] below meth c H locs cells slots (lw_Z below #[Value.ref b] s) (F0 m 723 ls []) := by
  obtain ⟨hx, hb, hml, hown, hts, hK, hG, hga, hgb, hXs, hbl, hL, hr, hlocks⟩ := id C
  have hbA : ¬ AN s b := Nat.not_le.mpr hbl
  refine lv_aload_n hx hb dL_law_723 rfl (lv_at hl 1 rfl) ?_
  refine lv_aload_n hx hb dL_law_724 rfl (lv_at hl 0 rfl) ?_
  refine lv_iload_n hx hb dL_law_725 rfl (lv_at hl 3 rfl) ?_
  refine lv_iconst (v := nI 1) hx hb dL_law_726 (by decide) ?_
  refine x_iadd (z := nI (i + 1)) hx hb dL_law_727 (nI_add _ _) ?_
  refine x_sld hx hb hXs hbl hbA hS (show i + 1 < L by omega) hL dL_law_728 ?_
  refine lx_many C hN hc hs0 hX hM hS hl.1 (xs (i + 1)) (fun H locs hX hM hS => ?_)
  refine lv_aload_n hx hb dL_law_732 rfl (lv_at hl 2 rfl) ?_
  refine lv_aload_n hx hb dL_law_733 rfl (lv_at hl 0 rfl) ?_
  refine lv_iload_n hx hb dL_law_734 rfl (lv_at hl 3 rfl) ?_
  refine lv_iconst (v := nI 1) hx hb dL_law_735 (by decide) ?_
  refine x_iadd (z := nI (i + 1)) hx hb dL_law_736 (nI_add _ _) ?_
  refine x_sld hx hb hXs hbl hbA hS (show i + 1 < L by omega) hL dL_law_737 ?_
  refine ly_many C hN hc hs0 hX hM hS hl.1 (xs (i + 1)) (fun H locs hX hM hS => ?_)
  exact lv_icmp_eq (tgt := 746) hx hb dL_law_741 (by decide) (fun _ => kk _ _ _ hX hM hS) (fun h => absurd rfl h)
