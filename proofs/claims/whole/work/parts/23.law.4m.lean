set_option maxHeartbeats 4000000 in
set_option maxRecDepth 100000 in
theorem ml_0 {D : va_G} {cs : CS} {Z : Nat → Nat} {h0 : HS} {p : Program} {l : Launch} {e : Env} {s : State} {m : MethodId} {below : List Frame} {meth : Method} {c : Code} {v0 L : Nat} {xs : Nat → Int32} (C : lC l D cs Z h0 p s m meth c v0 L xs) (w : Nat → Int32) (vx vm vo : Nat) (x4 : Int32) (hw9 : ∀ j, j < 10 → vp_in (x4 + Int32.ofNat j) L ∧ xs (x4 + Int32.ofNat j).toNatClampNeg = w j) (K : HS → Prop) (cells slots : Nat) (hc : cells + 8 ≤ room_1.cells) (hs : slots + 1123 ≤ room_1.slots) (kk : ∀ (h : HS) (H : Heap) (locs : List Loc) (ls : Array Slot), K h → lv_has ls 7 [(0, va_rf (some v0)), (1, va_rf (some vx)), (2, va_rf (some vm)), (3, va_rf (some vo)), (4, .int x4)] → mR D cs (fA h0 s.heap.size) h s.heap H locs → W p l e room_1 s m #[Value.ref v0] below meth c H locs (cells + 8) (slots + 1123) (lw_Z below #[Value.ref v0] s) (F0 m 1475 ls [])) : ∀ (h : HS) (H : Heap) (locs : List Loc) (ls : Array Slot), wl_0 Z w vx vm vo K h → lv_has ls 7 [(0, va_rf (some v0)), (1, va_rf (some vx)), (2, va_rf (some vm)), (3, va_rf (some vo)), (4, .int x4)] → mR D cs (fA h0 s.heap.size) h s.heap H locs → W p l e room_1 s m #[Value.ref v0] below meth c H locs cells slots (lw_Z below #[Value.ref v0] s) (F0 m 120 ls []) := by
  obtain ⟨hx, hb, hr, hml, hown, hW, hlocks, hK, hZ, hX, hbl, hL, hlT, hh0⟩ := id C
  have hA : ∀ q, s.heap.size ≤ q → fA h0 s.heap.size q := fun _ h => Or.inr h
  intro h H locs ls hw hl hR
  unfold wl_0 at hw
  refine mx_aload_n (r := some vx) hx hb d_Law_law_120 rfl (lv_at hl 1 rfl) ?_
  refine mx_aload_n (r := some v0) hx hb d_Law_law_121 rfl (lv_at hl 0 rfl) ?_
  refine lv_iload hx hb d_Law_law_122 (lv_at hl 4 rfl) ?_
  refine lv_iconst (v := 1) hx hb d_Law_law_124 (by decide) ?_
  refine lv_iadd hx hb d_Law_law_125 ?_
  refine mx_sld hx hb hX hbl hh0 hR (v := w 1) (hw9 1 (by decide)) d_Law_law_126 ?_
  refine mx_aload_n (r := some v0) hx hb d_Law_law_127 rfl (lv_at hl 0 rfl) ?_
  refine lv_iload hx hb d_Law_law_128 (lv_at hl 4 rfl) ?_
  refine lv_iconst (v := 2) hx hb d_Law_law_130 (by decide) ?_
  refine lv_iadd hx hb d_Law_law_131 ?_
  refine mx_sld hx hb hX hbl hh0 hR (v := w 2) (hw9 2 (by decide)) d_Law_law_132 ?_
  refine mx_aload_n (r := some vo) hx hb d_Law_law_133 rfl (lv_at hl 3 rfl) ?_
  refine mx_calli (mx_runW (As := [va_rf (some vx), .int (w 1), .int (w 2), va_rf (some vo)]) (rest := []) hx hb hml hown hW (mt_Law_sheet l hlT D cs Z _ hw) ok_Law_sheet kw_415 rfl rfl ⟨Nat.le_of_ble_eq_true rfl, Nat.le_of_ble_eq_true rfl⟩ (mx_preS hK hZ hA hR) rfl rfl hl.1 rfl (lv_room (Nat.le_of_ble_eq_true rfl)) d_Law_law_134 ⟨by show _ ≤ room_1.cells; omega, by show _ ≤ room_1.slots; omega⟩) hR hA (fun r1 h2 H locs hw hR => ?_)
  refine W.widen (k := cells + 6) (n := slots + 1123) (by omega) (by omega) ?_
  try dsimp only at hw
  refine lv_istore (i := 5) (lv' := [(5, .int r1), (0, va_rf (some v0)), (1, va_rf (some vx)), (2, va_rf (some vm)), (3, va_rf (some vo)), (4, .int x4)]) hx hb d_Law_law_137 hl (by decide) rfl (fun ls hl => ?_)
  refine mx_aload_n (r := some vm) hx hb d_Law_law_139 rfl (lv_at hl 3 rfl) ?_
  refine mx_aload_n (r := some v0) hx hb d_Law_law_140 rfl (lv_at hl 1 rfl) ?_
  refine lv_iload hx hb d_Law_law_141 (lv_at hl 5 rfl) ?_
  refine lv_iconst (v := 1) hx hb d_Law_law_143 (by decide) ?_
  refine lv_iadd hx hb d_Law_law_144 ?_
  refine mx_sld hx hb hX hbl hh0 hR (v := w 1) (hw9 1 (by decide)) d_Law_law_145 ?_
  refine mx_aload_n (r := some v0) hx hb d_Law_law_146 rfl (lv_at hl 1 rfl) ?_
  refine lv_iload hx hb d_Law_law_147 (lv_at hl 5 rfl) ?_
  refine lv_iconst (v := 2) hx hb d_Law_law_149 (by decide) ?_
  refine lv_iadd hx hb d_Law_law_150 ?_
  refine mx_sld hx hb hX hbl hh0 hR (v := w 2) (hw9 2 (by decide)) d_Law_law_151 ?_
  obtain ⟨t5, hw⟩ := hw
  refine mx_calli (va_runV (b := vm) (As := [.int (w 1), .int (w 2)]) (rest := []) ⟨hx, hb, hml, hown, hW⟩ (mt_Mod_sheet l D cs Z _ hw) (mx_cwV hW ok_Mod_sheet kw_1240 rfl rfl ⟨Nat.le_of_ble_eq_true rfl, Nat.le_of_ble_eq_true rfl⟩) (mx_preV hK hZ hA hR (ci := 8) rfl t5) rfl rfl hl.1 rfl (lv_room (Nat.le_of_ble_eq_true rfl)) d_Law_law_152 ⟨by show _ ≤ room_1.cells; omega, by show _ ≤ room_1.slots; omega⟩) hR hA (fun r3 h4 H locs hw hR => ?_)
  try dsimp only at hw
  refine lv_istore (i := 6) (lv' := [(6, .int r3), (5, .int r1), (0, va_rf (some v0)), (1, va_rf (some vx)), (2, va_rf (some vm)), (3, va_rf (some vo)), (4, .int x4)]) hx hb d_Law_law_155 hl (by decide) rfl (fun ls hl => ?_)
  refine mx_aload_n (r := some vm) hx hb d_Law_law_157 rfl (lv_at hl 4 rfl) ?_
  obtain ⟨t8, hw⟩ := hw
  refine mx_calli (va_runV (b := vm) (As := []) (rest := []) ⟨hx, hb, hml, hown, hW⟩ (mt_Mod_thrown l D cs Z _ hw) (mx_cwV hW ok_Mod_thrown kw_1236 rfl rfl ⟨Nat.le_of_ble_eq_true rfl, Nat.le_of_ble_eq_true rfl⟩) (mx_preV hK hZ hA hR (ci := 8) rfl t8) rfl rfl hl.1 rfl (lv_room (Nat.le_of_ble_eq_true rfl)) d_Law_law_158 ⟨by show _ ≤ room_1.cells; omega, by show _ ≤ room_1.slots; omega⟩) hR hA (fun r6 h7 H locs hw hR => ?_)
  try dsimp only at hw
  refine lv_iload hx hb d_Law_law_161 (lv_at hl 1 rfl) ?_
  refine lv_icmp_eq (tgt := 168) hx hb d_Law_law_163 (by decide) (fun c9 => ?_) (fun c9 => ?_)
  · have hw := hw.1 c9
    refine lv_iload hx hb d_Law_law_168 (lv_at hl 1 rfl) ?_
    refine lv_if_ne (tgt := 185) hx hb d_Law_law_170 (by decide) (fun c10 => ?_) (fun c10 => ?_)
    · have hw := hw.1 c10
      refine lv_goto (tgt := 1475) hx hb d_Law_law_185 (by decide) ?_
      refine W.widen (k := cells + 8) (n := slots + 1123) (by omega) (by omega) ?_
      exact kk _ _ _ _ hw (lv_sub hl [2, 3, 4, 5, 6] rfl) hR
    · have hw := hw.2 c10
      refine mx_aload_n (r := some vo) hx hb d_Law_law_173 rfl (lv_at hl 5 rfl) ?_
      refine lv_iconst (v := 0) hx hb d_Law_law_174 (by decide) ?_
      obtain ⟨t11, t11i, hw⟩ := hw
      refine mx_lald hx hb hK.1 hR (a := vo) rfl t11 t11i d_Law_law_175 ?_
      refine lv_iload hx hb d_Law_law_176 (lv_at hl 0 rfl) ?_
      refine lv_i2l hx hb d_Law_law_178 rfl ?_
      refine W.lcmp hx hb d_Law_law_179 ?_
      refine lv_if_eq (tgt := 185) hx hb d_Law_law_180 (by decide) (fun c12 => ?_) (fun c12 => ?_)
      · have hw := hw.1 c12
        refine lv_goto (tgt := 1475) hx hb d_Law_law_185 (by decide) ?_
        refine W.widen (k := cells + 8) (n := slots + 1123) (by omega) (by omega) ?_
        exact kk _ _ _ _ hw (lv_sub hl [2, 3, 4, 5, 6] rfl) hR
      · have hw := hw.2 c12
        refine lv_iconst (v := 0) hx hb d_Law_law_183 (by decide) ?_
        exact hw.elim
  · have hw := hw.2 c9
    refine lv_iconst (v := 0) hx hb d_Law_law_166 (by decide) ?_
    exact hw.elim
set_option maxHeartbeats 4000000 in
set_option maxRecDepth 100000 in
theorem ml_1 {D : va_G} {cs : CS} {Z : Nat → Nat} {h0 : HS} {p : Program} {l : Launch} {e : Env} {s : State} {m : MethodId} {below : List Frame} {meth : Method} {c : Code} {v0 L : Nat} {xs : Nat → Int32} (C : lC l D cs Z h0 p s m meth c v0 L xs) (w : Nat → Int32) (vx vm vo : Nat) (x4 : Int32) (hw9 : ∀ j, j < 10 → vp_in (x4 + Int32.ofNat j) L ∧ xs (x4 + Int32.ofNat j).toNatClampNeg = w j) (K : HS → Prop) (cells slots : Nat) (hc : cells + 8 ≤ room_1.cells) (hs : slots + 1123 ≤ room_1.slots) (kk : ∀ (h : HS) (H : Heap) (locs : List Loc) (ls : Array Slot), K h → lv_has ls 7 [(0, va_rf (some v0)), (1, va_rf (some vx)), (2, va_rf (some vm)), (3, va_rf (some vo)), (4, .int x4)] → mR D cs (fA h0 s.heap.size) h s.heap H locs → W p l e room_1 s m #[Value.ref v0] below meth c H locs (cells + 8) (slots + 1123) (lw_Z below #[Value.ref v0] s) (F0 m 1475 ls [])) : ∀ (h : HS) (H : Heap) (locs : List Loc) (ls : Array Slot), wl_1 Z w vx vm vo K h → lv_has ls 7 [(0, va_rf (some v0)), (1, va_rf (some vx)), (2, va_rf (some vm)), (3, va_rf (some vo)), (4, .int x4)] → mR D cs (fA h0 s.heap.size) h s.heap H locs → W p l e room_1 s m #[Value.ref v0] below meth c H locs cells slots (lw_Z below #[Value.ref v0] s) (F0 m 188 ls []) := by
  obtain ⟨hx, hb, hr, hml, hown, hW, hlocks, hK, hZ, hX, hbl, hL, hlT, hh0⟩ := id C
  have hA : ∀ q, s.heap.size ≤ q → fA h0 s.heap.size q := fun _ h => Or.inr h
  intro h H locs ls hw hl hR
  unfold wl_1 at hw
  refine mx_aload_n (r := some vx) hx hb d_Law_law_188 rfl (lv_at hl 1 rfl) ?_
  refine mx_aload_n (r := some v0) hx hb d_Law_law_189 rfl (lv_at hl 0 rfl) ?_
  refine lv_iload hx hb d_Law_law_190 (lv_at hl 4 rfl) ?_
  refine lv_iconst (v := 1) hx hb d_Law_law_192 (by decide) ?_
  refine lv_iadd hx hb d_Law_law_193 ?_
  refine mx_sld hx hb hX hbl hh0 hR (v := w 1) (hw9 1 (by decide)) d_Law_law_194 ?_
  refine mx_aload_n (r := some v0) hx hb d_Law_law_195 rfl (lv_at hl 0 rfl) ?_
  refine lv_iload hx hb d_Law_law_196 (lv_at hl 4 rfl) ?_
  refine lv_iconst (v := 2) hx hb d_Law_law_198 (by decide) ?_
  refine lv_iadd hx hb d_Law_law_199 ?_
  refine mx_sld hx hb hX hbl hh0 hR (v := w 2) (hw9 2 (by decide)) d_Law_law_200 ?_
  refine lv_i2l hx hb d_Law_law_201 rfl ?_
  refine lv_bipush (v := 32) hx hb d_Law_law_202 (by decide) ?_
  refine lv_lshl hx hb d_Law_law_204 rfl ?_
  refine mx_aload_n (r := some v0) hx hb d_Law_law_205 rfl (lv_at hl 0 rfl) ?_
  refine lv_iload hx hb d_Law_law_206 (lv_at hl 4 rfl) ?_
  refine lv_iconst (v := 3) hx hb d_Law_law_208 (by decide) ?_
  refine lv_iadd hx hb d_Law_law_209 ?_
  refine mx_sld hx hb hX hbl hh0 hR (v := w 3) (hw9 3 (by decide)) d_Law_law_210 ?_
  refine lv_i2l hx hb d_Law_law_211 rfl ?_
  refine lv_ldc2 hx hb hown (hW _ kw_1406) d_Law_law_212 ?_
  refine lv_land hx hb d_Law_law_215 ?_
  refine lv_lor hx hb d_Law_law_216 ?_
  refine mx_aload_n (r := some v0) hx hb d_Law_law_217 rfl (lv_at hl 0 rfl) ?_
  refine lv_iload hx hb d_Law_law_218 (lv_at hl 4 rfl) ?_
  refine lv_iconst (v := 4) hx hb d_Law_law_220 (by decide) ?_
  refine lv_iadd hx hb d_Law_law_221 ?_
  refine mx_sld hx hb hX hbl hh0 hR (v := w 4) (hw9 4 (by decide)) d_Law_law_222 ?_
  refine lv_i2l hx hb d_Law_law_223 rfl ?_
  refine lv_bipush (v := 32) hx hb d_Law_law_224 (by decide) ?_
  refine lv_lshl hx hb d_Law_law_226 rfl ?_
  refine mx_aload_n (r := some v0) hx hb d_Law_law_227 rfl (lv_at hl 0 rfl) ?_
  refine lv_iload hx hb d_Law_law_228 (lv_at hl 4 rfl) ?_
  refine lv_iconst (v := 5) hx hb d_Law_law_230 (by decide) ?_
  refine lv_iadd hx hb d_Law_law_231 ?_
  refine mx_sld hx hb hX hbl hh0 hR (v := w 5) (hw9 5 (by decide)) d_Law_law_232 ?_
  refine lv_i2l hx hb d_Law_law_233 rfl ?_
  refine lv_ldc2 hx hb hown (hW _ kw_1406) d_Law_law_234 ?_
  refine lv_land hx hb d_Law_law_237 ?_
  refine lv_lor hx hb d_Law_law_238 ?_
  refine mx_aload_n (r := some v0) hx hb d_Law_law_239 rfl (lv_at hl 0 rfl) ?_
  refine lv_iload hx hb d_Law_law_240 (lv_at hl 4 rfl) ?_
  refine lv_bipush (v := 6) hx hb d_Law_law_242 (by decide) ?_
  refine lv_iadd hx hb d_Law_law_244 ?_
  refine mx_sld hx hb hX hbl hh0 hR (v := w 6) (hw9 6 (by decide)) d_Law_law_245 ?_
  refine lv_i2l hx hb d_Law_law_246 rfl ?_
  refine lv_bipush (v := 32) hx hb d_Law_law_247 (by decide) ?_
  refine lv_lshl hx hb d_Law_law_249 rfl ?_
  refine mx_aload_n (r := some v0) hx hb d_Law_law_250 rfl (lv_at hl 0 rfl) ?_
  refine lv_iload hx hb d_Law_law_251 (lv_at hl 4 rfl) ?_
  refine lv_bipush (v := 7) hx hb d_Law_law_253 (by decide) ?_
  refine lv_iadd hx hb d_Law_law_255 ?_
  refine mx_sld hx hb hX hbl hh0 hR (v := w 7) (hw9 7 (by decide)) d_Law_law_256 ?_
  refine lv_i2l hx hb d_Law_law_257 rfl ?_
  refine lv_ldc2 hx hb hown (hW _ kw_1406) d_Law_law_258 ?_
  refine lv_land hx hb d_Law_law_261 ?_
  refine lv_lor hx hb d_Law_law_262 ?_
  refine mx_aload_n (r := some v0) hx hb d_Law_law_263 rfl (lv_at hl 0 rfl) ?_
  refine lv_iload hx hb d_Law_law_264 (lv_at hl 4 rfl) ?_
  refine lv_bipush (v := 8) hx hb d_Law_law_266 (by decide) ?_
  refine lv_iadd hx hb d_Law_law_268 ?_
  refine mx_sld hx hb hX hbl hh0 hR (v := w 8) (hw9 8 (by decide)) d_Law_law_269 ?_
  refine lv_i2l hx hb d_Law_law_270 rfl ?_
  refine lv_bipush (v := 32) hx hb d_Law_law_271 (by decide) ?_
  refine lv_lshl hx hb d_Law_law_273 rfl ?_
  refine mx_aload_n (r := some v0) hx hb d_Law_law_274 rfl (lv_at hl 0 rfl) ?_
  refine lv_iload hx hb d_Law_law_275 (lv_at hl 4 rfl) ?_
  refine lv_bipush (v := 9) hx hb d_Law_law_277 (by decide) ?_
  refine lv_iadd hx hb d_Law_law_279 ?_
  refine mx_sld hx hb hX hbl hh0 hR (v := w 9) (hw9 9 (by decide)) d_Law_law_280 ?_
  refine lv_i2l hx hb d_Law_law_281 rfl ?_
  refine lv_ldc2 hx hb hown (hW _ kw_1406) d_Law_law_282 ?_
  refine lv_land hx hb d_Law_law_285 ?_
  refine lv_lor hx hb d_Law_law_286 ?_
  refine mx_aload_n (r := some vo) hx hb d_Law_law_287 rfl (lv_at hl 3 rfl) ?_
  refine mx_calli (mx_runW (As := [va_rf (some vx), .int (w 1), .long ((((w 2).toInt64) <<< ((32 : Int32).toInt64 &&& 63)) ||| (((w 3).toInt64) &&& (4294967295 : Int64))), .long ((((w 4).toInt64) <<< ((32 : Int32).toInt64 &&& 63)) ||| (((w 5).toInt64) &&& (4294967295 : Int64))), .long ((((w 6).toInt64) <<< ((32 : Int32).toInt64 &&& 63)) ||| (((w 7).toInt64) &&& (4294967295 : Int64))), .long ((((w 8).toInt64) <<< ((32 : Int32).toInt64 &&& 63)) ||| (((w 9).toInt64) &&& (4294967295 : Int64))), va_rf (some vo)]) (rest := []) hx hb hml hown hW (mt_Law_wire l hlT D cs Z _ hw) ok_Law_wire kw_614 rfl rfl ⟨Nat.le_of_ble_eq_true rfl, Nat.le_of_ble_eq_true rfl⟩ (mx_preS hK hZ hA hR) rfl rfl hl.1 rfl (lv_room (Nat.le_of_ble_eq_true rfl)) d_Law_law_288 ⟨by show _ ≤ room_1.cells; omega, by show _ ≤ room_1.slots; omega⟩) hR hA (fun r1 h2 H locs hw hR => ?_)
  refine W.widen (k := cells + 6) (n := slots + 231) (by omega) (by omega) ?_
  try dsimp only at hw
  refine lv_istore (i := 5) (lv' := [(5, .int r1), (0, va_rf (some v0)), (1, va_rf (some vx)), (2, va_rf (some vm)), (3, va_rf (some vo)), (4, .int x4)]) hx hb d_Law_law_291 hl (by decide) rfl (fun ls hl => ?_)
  refine mx_aload_n (r := some vm) hx hb d_Law_law_293 rfl (lv_at hl 3 rfl) ?_
  refine mx_aload_n (r := some v0) hx hb d_Law_law_294 rfl (lv_at hl 1 rfl) ?_
  refine lv_iload hx hb d_Law_law_295 (lv_at hl 5 rfl) ?_
  refine lv_iconst (v := 1) hx hb d_Law_law_297 (by decide) ?_
  refine lv_iadd hx hb d_Law_law_298 ?_
  refine mx_sld hx hb hX hbl hh0 hR (v := w 1) (hw9 1 (by decide)) d_Law_law_299 ?_
  refine mx_aload_n (r := some v0) hx hb d_Law_law_300 rfl (lv_at hl 1 rfl) ?_
  refine lv_iload hx hb d_Law_law_301 (lv_at hl 5 rfl) ?_
  refine lv_iconst (v := 2) hx hb d_Law_law_303 (by decide) ?_
  refine lv_iadd hx hb d_Law_law_304 ?_
  refine mx_sld hx hb hX hbl hh0 hR (v := w 2) (hw9 2 (by decide)) d_Law_law_305 ?_
  refine lv_i2l hx hb d_Law_law_306 rfl ?_
  refine lv_bipush (v := 32) hx hb d_Law_law_307 (by decide) ?_
  refine lv_lshl hx hb d_Law_law_309 rfl ?_
  refine mx_aload_n (r := some v0) hx hb d_Law_law_310 rfl (lv_at hl 1 rfl) ?_
  refine lv_iload hx hb d_Law_law_311 (lv_at hl 5 rfl) ?_
  refine lv_iconst (v := 3) hx hb d_Law_law_313 (by decide) ?_
  refine lv_iadd hx hb d_Law_law_314 ?_
  refine mx_sld hx hb hX hbl hh0 hR (v := w 3) (hw9 3 (by decide)) d_Law_law_315 ?_
  refine lv_i2l hx hb d_Law_law_316 rfl ?_
  refine lv_ldc2 hx hb hown (hW _ kw_1406) d_Law_law_317 ?_
  refine lv_land hx hb d_Law_law_320 ?_
  refine lv_lor hx hb d_Law_law_321 ?_
  refine mx_aload_n (r := some v0) hx hb d_Law_law_322 rfl (lv_at hl 1 rfl) ?_
  refine lv_iload hx hb d_Law_law_323 (lv_at hl 5 rfl) ?_
  refine lv_iconst (v := 4) hx hb d_Law_law_325 (by decide) ?_
  refine lv_iadd hx hb d_Law_law_326 ?_
  refine mx_sld hx hb hX hbl hh0 hR (v := w 4) (hw9 4 (by decide)) d_Law_law_327 ?_
  refine lv_i2l hx hb d_Law_law_328 rfl ?_
  refine lv_bipush (v := 32) hx hb d_Law_law_329 (by decide) ?_
  refine lv_lshl hx hb d_Law_law_331 rfl ?_
  refine mx_aload_n (r := some v0) hx hb d_Law_law_332 rfl (lv_at hl 1 rfl) ?_
  refine lv_iload hx hb d_Law_law_333 (lv_at hl 5 rfl) ?_
  refine lv_iconst (v := 5) hx hb d_Law_law_335 (by decide) ?_
  refine lv_iadd hx hb d_Law_law_336 ?_
  refine mx_sld hx hb hX hbl hh0 hR (v := w 5) (hw9 5 (by decide)) d_Law_law_337 ?_
  refine lv_i2l hx hb d_Law_law_338 rfl ?_
  refine lv_ldc2 hx hb hown (hW _ kw_1406) d_Law_law_339 ?_
  refine lv_land hx hb d_Law_law_342 ?_
  refine lv_lor hx hb d_Law_law_343 ?_
  refine mx_aload_n (r := some v0) hx hb d_Law_law_344 rfl (lv_at hl 1 rfl) ?_
  refine lv_iload hx hb d_Law_law_345 (lv_at hl 5 rfl) ?_
  refine lv_bipush (v := 6) hx hb d_Law_law_347 (by decide) ?_
  refine lv_iadd hx hb d_Law_law_349 ?_
  refine mx_sld hx hb hX hbl hh0 hR (v := w 6) (hw9 6 (by decide)) d_Law_law_350 ?_
  refine lv_i2l hx hb d_Law_law_351 rfl ?_
  refine lv_bipush (v := 32) hx hb d_Law_law_352 (by decide) ?_
  refine lv_lshl hx hb d_Law_law_354 rfl ?_
  refine mx_aload_n (r := some v0) hx hb d_Law_law_355 rfl (lv_at hl 1 rfl) ?_
  refine lv_iload hx hb d_Law_law_356 (lv_at hl 5 rfl) ?_
  refine lv_bipush (v := 7) hx hb d_Law_law_358 (by decide) ?_
  refine lv_iadd hx hb d_Law_law_360 ?_
  refine mx_sld hx hb hX hbl hh0 hR (v := w 7) (hw9 7 (by decide)) d_Law_law_361 ?_
  refine lv_i2l hx hb d_Law_law_362 rfl ?_
  refine lv_ldc2 hx hb hown (hW _ kw_1406) d_Law_law_363 ?_
  refine lv_land hx hb d_Law_law_366 ?_
  refine lv_lor hx hb d_Law_law_367 ?_
  refine mx_aload_n (r := some v0) hx hb d_Law_law_368 rfl (lv_at hl 1 rfl) ?_
  refine lv_iload hx hb d_Law_law_369 (lv_at hl 5 rfl) ?_
  refine lv_bipush (v := 8) hx hb d_Law_law_371 (by decide) ?_
  refine lv_iadd hx hb d_Law_law_373 ?_
  refine mx_sld hx hb hX hbl hh0 hR (v := w 8) (hw9 8 (by decide)) d_Law_law_374 ?_
  refine lv_i2l hx hb d_Law_law_375 rfl ?_
  refine lv_bipush (v := 32) hx hb d_Law_law_376 (by decide) ?_
  refine lv_lshl hx hb d_Law_law_378 rfl ?_
  refine mx_aload_n (r := some v0) hx hb d_Law_law_379 rfl (lv_at hl 1 rfl) ?_
  refine lv_iload hx hb d_Law_law_380 (lv_at hl 5 rfl) ?_
  refine lv_bipush (v := 9) hx hb d_Law_law_382 (by decide) ?_
  refine lv_iadd hx hb d_Law_law_384 ?_
  refine mx_sld hx hb hX hbl hh0 hR (v := w 9) (hw9 9 (by decide)) d_Law_law_385 ?_
  refine lv_i2l hx hb d_Law_law_386 rfl ?_
  refine lv_ldc2 hx hb hown (hW _ kw_1406) d_Law_law_387 ?_
  refine lv_land hx hb d_Law_law_390 ?_
  refine lv_lor hx hb d_Law_law_391 ?_
  obtain ⟨t5, hw⟩ := hw
  refine mx_calli (va_runV (b := vm) (As := [.int (w 1), .long ((((w 2).toInt64) <<< ((32 : Int32).toInt64 &&& 63)) ||| (((w 3).toInt64) &&& (4294967295 : Int64))), .long ((((w 4).toInt64) <<< ((32 : Int32).toInt64 &&& 63)) ||| (((w 5).toInt64) &&& (4294967295 : Int64))), .long ((((w 6).toInt64) <<< ((32 : Int32).toInt64 &&& 63)) ||| (((w 7).toInt64) &&& (4294967295 : Int64))), .long ((((w 8).toInt64) <<< ((32 : Int32).toInt64 &&& 63)) ||| (((w 9).toInt64) &&& (4294967295 : Int64)))]) (rest := []) ⟨hx, hb, hml, hown, hW⟩ (mt_Mod_wire l D cs Z _ hw) (mx_cwV hW ok_Mod_wire kw_1312 rfl rfl ⟨Nat.le_of_ble_eq_true rfl, Nat.le_of_ble_eq_true rfl⟩) (mx_preV hK hZ hA hR (ci := 8) rfl t5) rfl rfl hl.1 rfl (lv_room (Nat.le_of_ble_eq_true rfl)) d_Law_law_392 ⟨by show _ ≤ room_1.cells; omega, by show _ ≤ room_1.slots; omega⟩) hR hA (fun r3 h4 H locs hw hR => ?_)
  try dsimp only at hw
  refine lv_istore (i := 6) (lv' := [(6, .int r3), (5, .int r1), (0, va_rf (some v0)), (1, va_rf (some vx)), (2, va_rf (some vm)), (3, va_rf (some vo)), (4, .int x4)]) hx hb d_Law_law_395 hl (by decide) rfl (fun ls hl => ?_)
  refine mx_aload_n (r := some vm) hx hb d_Law_law_397 rfl (lv_at hl 4 rfl) ?_
  obtain ⟨t8, hw⟩ := hw
  refine mx_calli (va_runV (b := vm) (As := []) (rest := []) ⟨hx, hb, hml, hown, hW⟩ (mt_Mod_thrown l D cs Z _ hw) (mx_cwV hW ok_Mod_thrown kw_1236 rfl rfl ⟨Nat.le_of_ble_eq_true rfl, Nat.le_of_ble_eq_true rfl⟩) (mx_preV hK hZ hA hR (ci := 8) rfl t8) rfl rfl hl.1 rfl (lv_room (Nat.le_of_ble_eq_true rfl)) d_Law_law_398 ⟨by show _ ≤ room_1.cells; omega, by show _ ≤ room_1.slots; omega⟩) hR hA (fun r6 h7 H locs hw hR => ?_)
  try dsimp only at hw
  refine lv_iload hx hb d_Law_law_401 (lv_at hl 1 rfl) ?_
  refine lv_icmp_eq (tgt := 408) hx hb d_Law_law_403 (by decide) (fun c9 => ?_) (fun c9 => ?_)
  · have hw := hw.1 c9
    refine lv_iload hx hb d_Law_law_408 (lv_at hl 1 rfl) ?_
    refine lv_if_ne (tgt := 425) hx hb d_Law_law_410 (by decide) (fun c10 => ?_) (fun c10 => ?_)
    · have hw := hw.1 c10
      refine lv_goto (tgt := 1475) hx hb d_Law_law_425 (by decide) ?_
      refine W.widen (k := cells + 8) (n := slots + 1123) (by omega) (by omega) ?_
      exact kk _ _ _ _ hw (lv_sub hl [2, 3, 4, 5, 6] rfl) hR
    · have hw := hw.2 c10
      refine mx_aload_n (r := some vo) hx hb d_Law_law_413 rfl (lv_at hl 5 rfl) ?_
      refine lv_iconst (v := 0) hx hb d_Law_law_414 (by decide) ?_
      obtain ⟨t11, t11i, hw⟩ := hw
      refine mx_lald hx hb hK.1 hR (a := vo) rfl t11 t11i d_Law_law_415 ?_
      refine lv_iload hx hb d_Law_law_416 (lv_at hl 0 rfl) ?_
      refine lv_i2l hx hb d_Law_law_418 rfl ?_
      refine W.lcmp hx hb d_Law_law_419 ?_
      refine lv_if_eq (tgt := 425) hx hb d_Law_law_420 (by decide) (fun c12 => ?_) (fun c12 => ?_)
      · have hw := hw.1 c12
        refine lv_goto (tgt := 1475) hx hb d_Law_law_425 (by decide) ?_
        refine W.widen (k := cells + 8) (n := slots + 1123) (by omega) (by omega) ?_
        exact kk _ _ _ _ hw (lv_sub hl [2, 3, 4, 5, 6] rfl) hR
      · have hw := hw.2 c12
        refine lv_iconst (v := 0) hx hb d_Law_law_423 (by decide) ?_
        exact hw.elim
  · have hw := hw.2 c9
    refine lv_iconst (v := 0) hx hb d_Law_law_406 (by decide) ?_
    exact hw.elim
set_option maxHeartbeats 4000000 in
set_option maxRecDepth 100000 in
theorem ml_2 {D : va_G} {cs : CS} {Z : Nat → Nat} {h0 : HS} {p : Program} {l : Launch} {e : Env} {s : State} {m : MethodId} {below : List Frame} {meth : Method} {c : Code} {v0 L : Nat} {xs : Nat → Int32} (C : lC l D cs Z h0 p s m meth c v0 L xs) (w : Nat → Int32) (vx vm vo : Nat) (x4 : Int32) (hw9 : ∀ j, j < 10 → vp_in (x4 + Int32.ofNat j) L ∧ xs (x4 + Int32.ofNat j).toNatClampNeg = w j) (K : HS → Prop) (cells slots : Nat) (hc : cells + 8 ≤ room_1.cells) (hs : slots + 1123 ≤ room_1.slots) (kk : ∀ (h : HS) (H : Heap) (locs : List Loc) (ls : Array Slot), K h → lv_has ls 7 [(0, va_rf (some v0)), (1, va_rf (some vx)), (2, va_rf (some vm)), (3, va_rf (some vo)), (4, .int x4)] → mR D cs (fA h0 s.heap.size) h s.heap H locs → W p l e room_1 s m #[Value.ref v0] below meth c H locs (cells + 8) (slots + 1123) (lw_Z below #[Value.ref v0] s) (F0 m 1475 ls [])) : ∀ (h : HS) (H : Heap) (locs : List Loc) (ls : Array Slot), wl_2 Z w vx vm vo K h → lv_has ls 7 [(0, va_rf (some v0)), (1, va_rf (some vx)), (2, va_rf (some vm)), (3, va_rf (some vo)), (4, .int x4)] → mR D cs (fA h0 s.heap.size) h s.heap H locs → W p l e room_1 s m #[Value.ref v0] below meth c H locs cells slots (lw_Z below #[Value.ref v0] s) (F0 m 428 ls []) := by
  obtain ⟨hx, hb, hr, hml, hown, hW, hlocks, hK, hZ, hX, hbl, hL, hlT, hh0⟩ := id C
  have hA : ∀ q, s.heap.size ≤ q → fA h0 s.heap.size q := fun _ h => Or.inr h
  intro h H locs ls hw hl hR
  unfold wl_2 at hw
  refine mx_aload_n (r := some vx) hx hb d_Law_law_428 rfl (lv_at hl 1 rfl) ?_
  refine mx_aload_n (r := some v0) hx hb d_Law_law_429 rfl (lv_at hl 0 rfl) ?_
  refine lv_iload hx hb d_Law_law_430 (lv_at hl 4 rfl) ?_
  refine lv_iconst (v := 1) hx hb d_Law_law_432 (by decide) ?_
  refine lv_iadd hx hb d_Law_law_433 ?_
  refine mx_sld hx hb hX hbl hh0 hR (v := w 1) (hw9 1 (by decide)) d_Law_law_434 ?_
  refine mx_aload_n (r := some v0) hx hb d_Law_law_435 rfl (lv_at hl 0 rfl) ?_
  refine lv_iload hx hb d_Law_law_436 (lv_at hl 4 rfl) ?_
  refine lv_iconst (v := 2) hx hb d_Law_law_438 (by decide) ?_
  refine lv_iadd hx hb d_Law_law_439 ?_
  refine mx_sld hx hb hX hbl hh0 hR (v := w 2) (hw9 2 (by decide)) d_Law_law_440 ?_
  refine lv_i2l hx hb d_Law_law_441 rfl ?_
  refine lv_bipush (v := 32) hx hb d_Law_law_442 (by decide) ?_
  refine lv_lshl hx hb d_Law_law_444 rfl ?_
  refine mx_aload_n (r := some v0) hx hb d_Law_law_445 rfl (lv_at hl 0 rfl) ?_
  refine lv_iload hx hb d_Law_law_446 (lv_at hl 4 rfl) ?_
  refine lv_iconst (v := 3) hx hb d_Law_law_448 (by decide) ?_
  refine lv_iadd hx hb d_Law_law_449 ?_
  refine mx_sld hx hb hX hbl hh0 hR (v := w 3) (hw9 3 (by decide)) d_Law_law_450 ?_
  refine lv_i2l hx hb d_Law_law_451 rfl ?_
  refine lv_ldc2 hx hb hown (hW _ kw_1406) d_Law_law_452 ?_
  refine lv_land hx hb d_Law_law_455 ?_
  refine lv_lor hx hb d_Law_law_456 ?_
  refine mx_aload_n (r := some v0) hx hb d_Law_law_457 rfl (lv_at hl 0 rfl) ?_
  refine lv_iload hx hb d_Law_law_458 (lv_at hl 4 rfl) ?_
  refine lv_iconst (v := 4) hx hb d_Law_law_460 (by decide) ?_
  refine lv_iadd hx hb d_Law_law_461 ?_
  refine mx_sld hx hb hX hbl hh0 hR (v := w 4) (hw9 4 (by decide)) d_Law_law_462 ?_
  refine lv_i2l hx hb d_Law_law_463 rfl ?_
  refine lv_bipush (v := 32) hx hb d_Law_law_464 (by decide) ?_
  refine lv_lshl hx hb d_Law_law_466 rfl ?_
  refine mx_aload_n (r := some v0) hx hb d_Law_law_467 rfl (lv_at hl 0 rfl) ?_
  refine lv_iload hx hb d_Law_law_468 (lv_at hl 4 rfl) ?_
  refine lv_iconst (v := 5) hx hb d_Law_law_470 (by decide) ?_
  refine lv_iadd hx hb d_Law_law_471 ?_
  refine mx_sld hx hb hX hbl hh0 hR (v := w 5) (hw9 5 (by decide)) d_Law_law_472 ?_
  refine lv_i2l hx hb d_Law_law_473 rfl ?_
  refine lv_ldc2 hx hb hown (hW _ kw_1406) d_Law_law_474 ?_
  refine lv_land hx hb d_Law_law_477 ?_
  refine lv_lor hx hb d_Law_law_478 ?_
  refine mx_aload_n (r := some vo) hx hb d_Law_law_479 rfl (lv_at hl 3 rfl) ?_
  refine mx_calli (mx_runW (As := [va_rf (some vx), .int (w 1), .long ((((w 2).toInt64) <<< ((32 : Int32).toInt64 &&& 63)) ||| (((w 3).toInt64) &&& (4294967295 : Int64))), .long ((((w 4).toInt64) <<< ((32 : Int32).toInt64 &&& 63)) ||| (((w 5).toInt64) &&& (4294967295 : Int64))), va_rf (some vo)]) (rest := []) hx hb hml hown hW (mt_Law_junction l hlT D cs Z _ hw) ok_Law_junction kw_686 rfl rfl ⟨Nat.le_of_ble_eq_true rfl, Nat.le_of_ble_eq_true rfl⟩ (mx_preS hK hZ hA hR) rfl rfl hl.1 rfl (lv_room (Nat.le_of_ble_eq_true rfl)) d_Law_law_480 ⟨by show _ ≤ room_1.cells; omega, by show _ ≤ room_1.slots; omega⟩) hR hA (fun r1 h2 H locs hw hR => ?_)
  refine W.widen (k := cells + 5) (n := slots + 224) (by omega) (by omega) ?_
  try dsimp only at hw
  refine lv_istore (i := 5) (lv' := [(5, .int r1), (0, va_rf (some v0)), (1, va_rf (some vx)), (2, va_rf (some vm)), (3, va_rf (some vo)), (4, .int x4)]) hx hb d_Law_law_483 hl (by decide) rfl (fun ls hl => ?_)
  refine mx_aload_n (r := some vm) hx hb d_Law_law_485 rfl (lv_at hl 3 rfl) ?_
  refine mx_aload_n (r := some v0) hx hb d_Law_law_486 rfl (lv_at hl 1 rfl) ?_
  refine lv_iload hx hb d_Law_law_487 (lv_at hl 5 rfl) ?_
  refine lv_iconst (v := 1) hx hb d_Law_law_489 (by decide) ?_
  refine lv_iadd hx hb d_Law_law_490 ?_
  refine mx_sld hx hb hX hbl hh0 hR (v := w 1) (hw9 1 (by decide)) d_Law_law_491 ?_
  refine mx_aload_n (r := some v0) hx hb d_Law_law_492 rfl (lv_at hl 1 rfl) ?_
  refine lv_iload hx hb d_Law_law_493 (lv_at hl 5 rfl) ?_
  refine lv_iconst (v := 2) hx hb d_Law_law_495 (by decide) ?_
  refine lv_iadd hx hb d_Law_law_496 ?_
  refine mx_sld hx hb hX hbl hh0 hR (v := w 2) (hw9 2 (by decide)) d_Law_law_497 ?_
  refine lv_i2l hx hb d_Law_law_498 rfl ?_
  refine lv_bipush (v := 32) hx hb d_Law_law_499 (by decide) ?_
  refine lv_lshl hx hb d_Law_law_501 rfl ?_
  refine mx_aload_n (r := some v0) hx hb d_Law_law_502 rfl (lv_at hl 1 rfl) ?_
  refine lv_iload hx hb d_Law_law_503 (lv_at hl 5 rfl) ?_
  refine lv_iconst (v := 3) hx hb d_Law_law_505 (by decide) ?_
  refine lv_iadd hx hb d_Law_law_506 ?_
  refine mx_sld hx hb hX hbl hh0 hR (v := w 3) (hw9 3 (by decide)) d_Law_law_507 ?_
  refine lv_i2l hx hb d_Law_law_508 rfl ?_
  refine lv_ldc2 hx hb hown (hW _ kw_1406) d_Law_law_509 ?_
  refine lv_land hx hb d_Law_law_512 ?_
  refine lv_lor hx hb d_Law_law_513 ?_
  refine mx_aload_n (r := some v0) hx hb d_Law_law_514 rfl (lv_at hl 1 rfl) ?_
  refine lv_iload hx hb d_Law_law_515 (lv_at hl 5 rfl) ?_
  refine lv_iconst (v := 4) hx hb d_Law_law_517 (by decide) ?_
  refine lv_iadd hx hb d_Law_law_518 ?_
  refine mx_sld hx hb hX hbl hh0 hR (v := w 4) (hw9 4 (by decide)) d_Law_law_519 ?_
  refine lv_i2l hx hb d_Law_law_520 rfl ?_
  refine lv_bipush (v := 32) hx hb d_Law_law_521 (by decide) ?_
  refine lv_lshl hx hb d_Law_law_523 rfl ?_
  refine mx_aload_n (r := some v0) hx hb d_Law_law_524 rfl (lv_at hl 1 rfl) ?_
  refine lv_iload hx hb d_Law_law_525 (lv_at hl 5 rfl) ?_
  refine lv_iconst (v := 5) hx hb d_Law_law_527 (by decide) ?_
  refine lv_iadd hx hb d_Law_law_528 ?_
  refine mx_sld hx hb hX hbl hh0 hR (v := w 5) (hw9 5 (by decide)) d_Law_law_529 ?_
  refine lv_i2l hx hb d_Law_law_530 rfl ?_
  refine lv_ldc2 hx hb hown (hW _ kw_1406) d_Law_law_531 ?_
  refine lv_land hx hb d_Law_law_534 ?_
  refine lv_lor hx hb d_Law_law_535 ?_
  obtain ⟨t5, hw⟩ := hw
  refine mx_calli (va_runV (b := vm) (As := [.int (w 1), .long ((((w 2).toInt64) <<< ((32 : Int32).toInt64 &&& 63)) ||| (((w 3).toInt64) &&& (4294967295 : Int64))), .long ((((w 4).toInt64) <<< ((32 : Int32).toInt64 &&& 63)) ||| (((w 5).toInt64) &&& (4294967295 : Int64)))]) (rest := []) ⟨hx, hb, hml, hown, hW⟩ (mt_Mod_junction l D cs Z _ hw) (mx_cwV hW ok_Mod_junction kw_1325 rfl rfl ⟨Nat.le_of_ble_eq_true rfl, Nat.le_of_ble_eq_true rfl⟩) (mx_preV hK hZ hA hR (ci := 8) rfl t5) rfl rfl hl.1 rfl (lv_room (Nat.le_of_ble_eq_true rfl)) d_Law_law_536 ⟨by show _ ≤ room_1.cells; omega, by show _ ≤ room_1.slots; omega⟩) hR hA (fun r3 h4 H locs hw hR => ?_)
  try dsimp only at hw
  refine lv_istore (i := 6) (lv' := [(6, .int r3), (5, .int r1), (0, va_rf (some v0)), (1, va_rf (some vx)), (2, va_rf (some vm)), (3, va_rf (some vo)), (4, .int x4)]) hx hb d_Law_law_539 hl (by decide) rfl (fun ls hl => ?_)
  refine mx_aload_n (r := some vm) hx hb d_Law_law_541 rfl (lv_at hl 4 rfl) ?_
  obtain ⟨t8, hw⟩ := hw
  refine mx_calli (va_runV (b := vm) (As := []) (rest := []) ⟨hx, hb, hml, hown, hW⟩ (mt_Mod_thrown l D cs Z _ hw) (mx_cwV hW ok_Mod_thrown kw_1236 rfl rfl ⟨Nat.le_of_ble_eq_true rfl, Nat.le_of_ble_eq_true rfl⟩) (mx_preV hK hZ hA hR (ci := 8) rfl t8) rfl rfl hl.1 rfl (lv_room (Nat.le_of_ble_eq_true rfl)) d_Law_law_542 ⟨by show _ ≤ room_1.cells; omega, by show _ ≤ room_1.slots; omega⟩) hR hA (fun r6 h7 H locs hw hR => ?_)
  try dsimp only at hw
  refine lv_iload hx hb d_Law_law_545 (lv_at hl 1 rfl) ?_
  refine lv_icmp_eq (tgt := 552) hx hb d_Law_law_547 (by decide) (fun c9 => ?_) (fun c9 => ?_)
  · have hw := hw.1 c9
    refine lv_iload hx hb d_Law_law_552 (lv_at hl 1 rfl) ?_
    refine lv_if_ne (tgt := 576) hx hb d_Law_law_554 (by decide) (fun c10 => ?_) (fun c10 => ?_)
    · have hw := hw.1 c10
      refine lv_goto (tgt := 1475) hx hb d_Law_law_576 (by decide) ?_
      refine W.widen (k := cells + 8) (n := slots + 1123) (by omega) (by omega) ?_
      exact kk _ _ _ _ hw (lv_sub hl [2, 3, 4, 5, 6] rfl) hR
    · have hw := hw.2 c10
      refine mx_aload_n (r := some vo) hx hb d_Law_law_557 rfl (lv_at hl 5 rfl) ?_
      refine lv_iconst (v := 0) hx hb d_Law_law_558 (by decide) ?_
      obtain ⟨t11, t11i, hw⟩ := hw
      refine mx_lald hx hb hK.1 hR (a := vo) rfl t11 t11i d_Law_law_559 ?_
      refine lv_iload hx hb d_Law_law_560 (lv_at hl 0 rfl) ?_
      refine lv_if_eq (tgt := 569) hx hb d_Law_law_562 (by decide) (fun c12 => ?_) (fun c12 => ?_)
      · have hw := hw.1 c12
        refine lv_lconst (v := 0) hx hb d_Law_law_569 (by decide) ?_
        refine W.lcmp hx hb d_Law_law_570 ?_
        refine lv_if_eq (tgt := 576) hx hb d_Law_law_571 (by decide) (fun c13 => ?_) (fun c13 => ?_)
        · have hw := hw.1 c13
          refine lv_goto (tgt := 1475) hx hb d_Law_law_576 (by decide) ?_
          refine W.widen (k := cells + 8) (n := slots + 1123) (by omega) (by omega) ?_
          exact kk _ _ _ _ hw (lv_sub hl [2, 3, 4, 5, 6] rfl) hR
        · have hw := hw.2 c13
          refine lv_iconst (v := 0) hx hb d_Law_law_574 (by decide) ?_
          exact hw.elim
      · have hw := hw.2 c12
        refine lv_lconst (v := 1) hx hb d_Law_law_565 (by decide) ?_
        refine lv_goto (tgt := 570) hx hb d_Law_law_566 (by decide) ?_
        refine W.lcmp hx hb d_Law_law_570 ?_
        refine lv_if_eq (tgt := 576) hx hb d_Law_law_571 (by decide) (fun c14 => ?_) (fun c14 => ?_)
        · have hw := hw.1 c14
          refine lv_goto (tgt := 1475) hx hb d_Law_law_576 (by decide) ?_
          refine W.widen (k := cells + 8) (n := slots + 1123) (by omega) (by omega) ?_
          exact kk _ _ _ _ hw (lv_sub hl [2, 3, 4, 5, 6] rfl) hR
        · have hw := hw.2 c14
          refine lv_iconst (v := 0) hx hb d_Law_law_574 (by decide) ?_
          exact hw.elim
  · have hw := hw.2 c9
    refine lv_iconst (v := 0) hx hb d_Law_law_550 (by decide) ?_
    exact hw.elim
set_option maxHeartbeats 4000000 in
set_option maxRecDepth 100000 in
theorem ml_3 {D : va_G} {cs : CS} {Z : Nat → Nat} {h0 : HS} {p : Program} {l : Launch} {e : Env} {s : State} {m : MethodId} {below : List Frame} {meth : Method} {c : Code} {v0 L : Nat} {xs : Nat → Int32} (C : lC l D cs Z h0 p s m meth c v0 L xs) (w : Nat → Int32) (vx vm vo : Nat) (x4 : Int32) (hw9 : ∀ j, j < 10 → vp_in (x4 + Int32.ofNat j) L ∧ xs (x4 + Int32.ofNat j).toNatClampNeg = w j) (K : HS → Prop) (cells slots : Nat) (hc : cells + 8 ≤ room_1.cells) (hs : slots + 1123 ≤ room_1.slots) (kk : ∀ (h : HS) (H : Heap) (locs : List Loc) (ls : Array Slot), K h → lv_has ls 7 [(0, va_rf (some v0)), (1, va_rf (some vx)), (2, va_rf (some vm)), (3, va_rf (some vo)), (4, .int x4)] → mR D cs (fA h0 s.heap.size) h s.heap H locs → W p l e room_1 s m #[Value.ref v0] below meth c H locs (cells + 8) (slots + 1123) (lw_Z below #[Value.ref v0] s) (F0 m 1475 ls [])) : ∀ (h : HS) (H : Heap) (locs : List Loc) (ls : Array Slot), wl_3 Z w vx vm vo K h → lv_has ls 7 [(0, va_rf (some v0)), (1, va_rf (some vx)), (2, va_rf (some vm)), (3, va_rf (some vo)), (4, .int x4)] → mR D cs (fA h0 s.heap.size) h s.heap H locs → W p l e room_1 s m #[Value.ref v0] below meth c H locs cells slots (lw_Z below #[Value.ref v0] s) (F0 m 579 ls []) := by
  obtain ⟨hx, hb, hr, hml, hown, hW, hlocks, hK, hZ, hX, hbl, hL, hlT, hh0⟩ := id C
  have hA : ∀ q, s.heap.size ≤ q → fA h0 s.heap.size q := fun _ h => Or.inr h
  intro h H locs ls hw hl hR
  unfold wl_3 at hw
  refine mx_aload_n (r := some vx) hx hb d_Law_law_579 rfl (lv_at hl 1 rfl) ?_
  refine mx_aload_n (r := some v0) hx hb d_Law_law_580 rfl (lv_at hl 0 rfl) ?_
  refine lv_iload hx hb d_Law_law_581 (lv_at hl 4 rfl) ?_
  refine lv_iconst (v := 1) hx hb d_Law_law_583 (by decide) ?_
  refine lv_iadd hx hb d_Law_law_584 ?_
  refine mx_sld hx hb hX hbl hh0 hR (v := w 1) (hw9 1 (by decide)) d_Law_law_585 ?_
  refine mx_aload_n (r := some v0) hx hb d_Law_law_586 rfl (lv_at hl 0 rfl) ?_
  refine lv_iload hx hb d_Law_law_587 (lv_at hl 4 rfl) ?_
  refine lv_iconst (v := 2) hx hb d_Law_law_589 (by decide) ?_
  refine lv_iadd hx hb d_Law_law_590 ?_
  refine mx_sld hx hb hX hbl hh0 hR (v := w 2) (hw9 2 (by decide)) d_Law_law_591 ?_
  refine lv_i2l hx hb d_Law_law_592 rfl ?_
  refine lv_bipush (v := 32) hx hb d_Law_law_593 (by decide) ?_
  refine lv_lshl hx hb d_Law_law_595 rfl ?_
  refine mx_aload_n (r := some v0) hx hb d_Law_law_596 rfl (lv_at hl 0 rfl) ?_
  refine lv_iload hx hb d_Law_law_597 (lv_at hl 4 rfl) ?_
  refine lv_iconst (v := 3) hx hb d_Law_law_599 (by decide) ?_
  refine lv_iadd hx hb d_Law_law_600 ?_
  refine mx_sld hx hb hX hbl hh0 hR (v := w 3) (hw9 3 (by decide)) d_Law_law_601 ?_
  refine lv_i2l hx hb d_Law_law_602 rfl ?_
  refine lv_ldc2 hx hb hown (hW _ kw_1406) d_Law_law_603 ?_
  refine lv_land hx hb d_Law_law_606 ?_
  refine lv_lor hx hb d_Law_law_607 ?_
  refine mx_aload_n (r := some v0) hx hb d_Law_law_608 rfl (lv_at hl 0 rfl) ?_
  refine lv_iload hx hb d_Law_law_609 (lv_at hl 4 rfl) ?_
  refine lv_iconst (v := 4) hx hb d_Law_law_611 (by decide) ?_
  refine lv_iadd hx hb d_Law_law_612 ?_
  refine mx_sld hx hb hX hbl hh0 hR (v := w 4) (hw9 4 (by decide)) d_Law_law_613 ?_
  refine lv_i2l hx hb d_Law_law_614 rfl ?_
  refine lv_bipush (v := 32) hx hb d_Law_law_615 (by decide) ?_
  refine lv_lshl hx hb d_Law_law_617 rfl ?_
  refine mx_aload_n (r := some v0) hx hb d_Law_law_618 rfl (lv_at hl 0 rfl) ?_
  refine lv_iload hx hb d_Law_law_619 (lv_at hl 4 rfl) ?_
  refine lv_iconst (v := 5) hx hb d_Law_law_621 (by decide) ?_
  refine lv_iadd hx hb d_Law_law_622 ?_
  refine mx_sld hx hb hX hbl hh0 hR (v := w 5) (hw9 5 (by decide)) d_Law_law_623 ?_
  refine lv_i2l hx hb d_Law_law_624 rfl ?_
  refine lv_ldc2 hx hb hown (hW _ kw_1406) d_Law_law_625 ?_
  refine lv_land hx hb d_Law_law_628 ?_
  refine lv_lor hx hb d_Law_law_629 ?_
  refine mx_aload_n (r := some v0) hx hb d_Law_law_630 rfl (lv_at hl 0 rfl) ?_
  refine lv_iload hx hb d_Law_law_631 (lv_at hl 4 rfl) ?_
  refine lv_bipush (v := 6) hx hb d_Law_law_633 (by decide) ?_
  refine lv_iadd hx hb d_Law_law_635 ?_
  refine mx_sld hx hb hX hbl hh0 hR (v := w 6) (hw9 6 (by decide)) d_Law_law_636 ?_
  refine mx_aload_n (r := some vo) hx hb d_Law_law_637 rfl (lv_at hl 3 rfl) ?_
  refine mx_calli (mx_runW (As := [va_rf (some vx), .int (w 1), .long ((((w 2).toInt64) <<< ((32 : Int32).toInt64 &&& 63)) ||| (((w 3).toInt64) &&& (4294967295 : Int64))), .long ((((w 4).toInt64) <<< ((32 : Int32).toInt64 &&& 63)) ||| (((w 5).toInt64) &&& (4294967295 : Int64))), .int (w 6), va_rf (some vo)]) (rest := []) hx hb hml hown hW (mt_Law_label l hlT D cs Z _ hw) ok_Law_label kw_725 rfl rfl ⟨Nat.le_of_ble_eq_true rfl, Nat.le_of_ble_eq_true rfl⟩ (mx_preS hK hZ hA hR) rfl rfl hl.1 rfl (lv_room (Nat.le_of_ble_eq_true rfl)) d_Law_law_638 ⟨by show _ ≤ room_1.cells; omega, by show _ ≤ room_1.slots; omega⟩) hR hA (fun r1 h2 H locs hw hR => ?_)
  refine W.widen (k := cells + 8) (n := slots + 436) (by omega) (by omega) ?_
  try dsimp only at hw
  refine lv_istore (i := 5) (lv' := [(5, .int r1), (0, va_rf (some v0)), (1, va_rf (some vx)), (2, va_rf (some vm)), (3, va_rf (some vo)), (4, .int x4)]) hx hb d_Law_law_641 hl (by decide) rfl (fun ls hl => ?_)
  refine mx_aload_n (r := some vm) hx hb d_Law_law_643 rfl (lv_at hl 3 rfl) ?_
  refine mx_aload_n (r := some v0) hx hb d_Law_law_644 rfl (lv_at hl 1 rfl) ?_
  refine lv_iload hx hb d_Law_law_645 (lv_at hl 5 rfl) ?_
  refine lv_iconst (v := 1) hx hb d_Law_law_647 (by decide) ?_
  refine lv_iadd hx hb d_Law_law_648 ?_
  refine mx_sld hx hb hX hbl hh0 hR (v := w 1) (hw9 1 (by decide)) d_Law_law_649 ?_
  refine mx_aload_n (r := some v0) hx hb d_Law_law_650 rfl (lv_at hl 1 rfl) ?_
  refine lv_iload hx hb d_Law_law_651 (lv_at hl 5 rfl) ?_
  refine lv_iconst (v := 2) hx hb d_Law_law_653 (by decide) ?_
  refine lv_iadd hx hb d_Law_law_654 ?_
  refine mx_sld hx hb hX hbl hh0 hR (v := w 2) (hw9 2 (by decide)) d_Law_law_655 ?_
  refine lv_i2l hx hb d_Law_law_656 rfl ?_
  refine lv_bipush (v := 32) hx hb d_Law_law_657 (by decide) ?_
  refine lv_lshl hx hb d_Law_law_659 rfl ?_
  refine mx_aload_n (r := some v0) hx hb d_Law_law_660 rfl (lv_at hl 1 rfl) ?_
  refine lv_iload hx hb d_Law_law_661 (lv_at hl 5 rfl) ?_
  refine lv_iconst (v := 3) hx hb d_Law_law_663 (by decide) ?_
  refine lv_iadd hx hb d_Law_law_664 ?_
  refine mx_sld hx hb hX hbl hh0 hR (v := w 3) (hw9 3 (by decide)) d_Law_law_665 ?_
  refine lv_i2l hx hb d_Law_law_666 rfl ?_
  refine lv_ldc2 hx hb hown (hW _ kw_1406) d_Law_law_667 ?_
  refine lv_land hx hb d_Law_law_670 ?_
  refine lv_lor hx hb d_Law_law_671 ?_
  refine mx_aload_n (r := some v0) hx hb d_Law_law_672 rfl (lv_at hl 1 rfl) ?_
  refine lv_iload hx hb d_Law_law_673 (lv_at hl 5 rfl) ?_
  refine lv_iconst (v := 4) hx hb d_Law_law_675 (by decide) ?_
  refine lv_iadd hx hb d_Law_law_676 ?_
  refine mx_sld hx hb hX hbl hh0 hR (v := w 4) (hw9 4 (by decide)) d_Law_law_677 ?_
  refine lv_i2l hx hb d_Law_law_678 rfl ?_
  refine lv_bipush (v := 32) hx hb d_Law_law_679 (by decide) ?_
  refine lv_lshl hx hb d_Law_law_681 rfl ?_
  refine mx_aload_n (r := some v0) hx hb d_Law_law_682 rfl (lv_at hl 1 rfl) ?_
  refine lv_iload hx hb d_Law_law_683 (lv_at hl 5 rfl) ?_
  refine lv_iconst (v := 5) hx hb d_Law_law_685 (by decide) ?_
  refine lv_iadd hx hb d_Law_law_686 ?_
  refine mx_sld hx hb hX hbl hh0 hR (v := w 5) (hw9 5 (by decide)) d_Law_law_687 ?_
  refine lv_i2l hx hb d_Law_law_688 rfl ?_
  refine lv_ldc2 hx hb hown (hW _ kw_1406) d_Law_law_689 ?_
  refine lv_land hx hb d_Law_law_692 ?_
  refine lv_lor hx hb d_Law_law_693 ?_
  refine mx_aload_n (r := some v0) hx hb d_Law_law_694 rfl (lv_at hl 1 rfl) ?_
  refine lv_iload hx hb d_Law_law_695 (lv_at hl 5 rfl) ?_
  refine lv_bipush (v := 6) hx hb d_Law_law_697 (by decide) ?_
  refine lv_iadd hx hb d_Law_law_699 ?_
  refine mx_sld hx hb hX hbl hh0 hR (v := w 6) (hw9 6 (by decide)) d_Law_law_700 ?_
  obtain ⟨t5, hw⟩ := hw
  refine mx_calli (va_runV (b := vm) (As := [.int (w 1), .long ((((w 2).toInt64) <<< ((32 : Int32).toInt64 &&& 63)) ||| (((w 3).toInt64) &&& (4294967295 : Int64))), .long ((((w 4).toInt64) <<< ((32 : Int32).toInt64 &&& 63)) ||| (((w 5).toInt64) &&& (4294967295 : Int64))), .int (w 6)]) (rest := []) ⟨hx, hb, hml, hown, hW⟩ (mt_Mod_label l D cs Z _ hw) (mx_cwV hW ok_Mod_label kw_1329 rfl rfl ⟨Nat.le_of_ble_eq_true rfl, Nat.le_of_ble_eq_true rfl⟩) (mx_preV hK hZ hA hR (ci := 8) rfl t5) rfl rfl hl.1 rfl (lv_room (Nat.le_of_ble_eq_true rfl)) d_Law_law_701 ⟨by show _ ≤ room_1.cells; omega, by show _ ≤ room_1.slots; omega⟩) hR hA (fun r3 h4 H locs hw hR => ?_)
  try dsimp only at hw
  refine lv_istore (i := 6) (lv' := [(6, .int r3), (5, .int r1), (0, va_rf (some v0)), (1, va_rf (some vx)), (2, va_rf (some vm)), (3, va_rf (some vo)), (4, .int x4)]) hx hb d_Law_law_704 hl (by decide) rfl (fun ls hl => ?_)
  refine mx_aload_n (r := some vm) hx hb d_Law_law_706 rfl (lv_at hl 4 rfl) ?_
  obtain ⟨t8, hw⟩ := hw
  refine mx_calli (va_runV (b := vm) (As := []) (rest := []) ⟨hx, hb, hml, hown, hW⟩ (mt_Mod_thrown l D cs Z _ hw) (mx_cwV hW ok_Mod_thrown kw_1236 rfl rfl ⟨Nat.le_of_ble_eq_true rfl, Nat.le_of_ble_eq_true rfl⟩) (mx_preV hK hZ hA hR (ci := 8) rfl t8) rfl rfl hl.1 rfl (lv_room (Nat.le_of_ble_eq_true rfl)) d_Law_law_707 ⟨by show _ ≤ room_1.cells; omega, by show _ ≤ room_1.slots; omega⟩) hR hA (fun r6 h7 H locs hw hR => ?_)
  try dsimp only at hw
  refine lv_iload hx hb d_Law_law_710 (lv_at hl 1 rfl) ?_
  refine lv_icmp_eq (tgt := 717) hx hb d_Law_law_712 (by decide) (fun c9 => ?_) (fun c9 => ?_)
  · have hw := hw.1 c9
    refine lv_iload hx hb d_Law_law_717 (lv_at hl 1 rfl) ?_
    refine lv_if_ne (tgt := 734) hx hb d_Law_law_719 (by decide) (fun c10 => ?_) (fun c10 => ?_)
    · have hw := hw.1 c10
      refine lv_goto (tgt := 1475) hx hb d_Law_law_734 (by decide) ?_
      refine W.widen (k := cells + 8) (n := slots + 1123) (by omega) (by omega) ?_
      exact kk _ _ _ _ hw (lv_sub hl [2, 3, 4, 5, 6] rfl) hR
    · have hw := hw.2 c10
      refine mx_aload_n (r := some vo) hx hb d_Law_law_722 rfl (lv_at hl 5 rfl) ?_
      refine lv_iconst (v := 0) hx hb d_Law_law_723 (by decide) ?_
      obtain ⟨t11, t11i, hw⟩ := hw
      refine mx_lald hx hb hK.1 hR (a := vo) rfl t11 t11i d_Law_law_724 ?_
      refine lv_iload hx hb d_Law_law_725 (lv_at hl 0 rfl) ?_
      refine lv_i2l hx hb d_Law_law_727 rfl ?_
      refine W.lcmp hx hb d_Law_law_728 ?_
      refine lv_if_eq (tgt := 734) hx hb d_Law_law_729 (by decide) (fun c12 => ?_) (fun c12 => ?_)
      · have hw := hw.1 c12
        refine lv_goto (tgt := 1475) hx hb d_Law_law_734 (by decide) ?_
        refine W.widen (k := cells + 8) (n := slots + 1123) (by omega) (by omega) ?_
        exact kk _ _ _ _ hw (lv_sub hl [2, 3, 4, 5, 6] rfl) hR
      · have hw := hw.2 c12
        refine lv_iconst (v := 0) hx hb d_Law_law_732 (by decide) ?_
        exact hw.elim
  · have hw := hw.2 c9
    refine lv_iconst (v := 0) hx hb d_Law_law_715 (by decide) ?_
    exact hw.elim
set_option maxHeartbeats 4000000 in
set_option maxRecDepth 100000 in
theorem ml_4 {D : va_G} {cs : CS} {Z : Nat → Nat} {h0 : HS} {p : Program} {l : Launch} {e : Env} {s : State} {m : MethodId} {below : List Frame} {meth : Method} {c : Code} {v0 L : Nat} {xs : Nat → Int32} (C : lC l D cs Z h0 p s m meth c v0 L xs) (w : Nat → Int32) (vx vm vo : Nat) (x4 : Int32) (hw9 : ∀ j, j < 10 → vp_in (x4 + Int32.ofNat j) L ∧ xs (x4 + Int32.ofNat j).toNatClampNeg = w j) (K : HS → Prop) (cells slots : Nat) (hc : cells + 8 ≤ room_1.cells) (hs : slots + 1123 ≤ room_1.slots) (kk : ∀ (h : HS) (H : Heap) (locs : List Loc) (ls : Array Slot), K h → lv_has ls 7 [(0, va_rf (some v0)), (1, va_rf (some vx)), (2, va_rf (some vm)), (3, va_rf (some vo)), (4, .int x4)] → mR D cs (fA h0 s.heap.size) h s.heap H locs → W p l e room_1 s m #[Value.ref v0] below meth c H locs (cells + 8) (slots + 1123) (lw_Z below #[Value.ref v0] s) (F0 m 1475 ls [])) : ∀ (h : HS) (H : Heap) (locs : List Loc) (ls : Array Slot), wl_4 Z w vx vm vo K h → lv_has ls 7 [(0, va_rf (some v0)), (1, va_rf (some vx)), (2, va_rf (some vm)), (3, va_rf (some vo)), (4, .int x4)] → mR D cs (fA h0 s.heap.size) h s.heap H locs → W p l e room_1 s m #[Value.ref v0] below meth c H locs cells slots (lw_Z below #[Value.ref v0] s) (F0 m 737 ls []) := by
  obtain ⟨hx, hb, hr, hml, hown, hW, hlocks, hK, hZ, hX, hbl, hL, hlT, hh0⟩ := id C
  have hA : ∀ q, s.heap.size ≤ q → fA h0 s.heap.size q := fun _ h => Or.inr h
  intro h H locs ls hw hl hR
  unfold wl_4 at hw
  refine mx_aload_n (r := some vx) hx hb d_Law_law_737 rfl (lv_at hl 1 rfl) ?_
  refine mx_aload_n (r := some v0) hx hb d_Law_law_738 rfl (lv_at hl 0 rfl) ?_
  refine lv_iload hx hb d_Law_law_739 (lv_at hl 4 rfl) ?_
  refine lv_iconst (v := 1) hx hb d_Law_law_741 (by decide) ?_
  refine lv_iadd hx hb d_Law_law_742 ?_
  refine mx_sld hx hb hX hbl hh0 hR (v := w 1) (hw9 1 (by decide)) d_Law_law_743 ?_
  refine mx_aload_n (r := some v0) hx hb d_Law_law_744 rfl (lv_at hl 0 rfl) ?_
  refine lv_iload hx hb d_Law_law_745 (lv_at hl 4 rfl) ?_
  refine lv_iconst (v := 2) hx hb d_Law_law_747 (by decide) ?_
  refine lv_iadd hx hb d_Law_law_748 ?_
  refine mx_sld hx hb hX hbl hh0 hR (v := w 2) (hw9 2 (by decide)) d_Law_law_749 ?_
  refine lv_i2l hx hb d_Law_law_750 rfl ?_
  refine lv_bipush (v := 32) hx hb d_Law_law_751 (by decide) ?_
  refine lv_lshl hx hb d_Law_law_753 rfl ?_
  refine mx_aload_n (r := some v0) hx hb d_Law_law_754 rfl (lv_at hl 0 rfl) ?_
  refine lv_iload hx hb d_Law_law_755 (lv_at hl 4 rfl) ?_
  refine lv_iconst (v := 3) hx hb d_Law_law_757 (by decide) ?_
  refine lv_iadd hx hb d_Law_law_758 ?_
  refine mx_sld hx hb hX hbl hh0 hR (v := w 3) (hw9 3 (by decide)) d_Law_law_759 ?_
  refine lv_i2l hx hb d_Law_law_760 rfl ?_
  refine lv_ldc2 hx hb hown (hW _ kw_1406) d_Law_law_761 ?_
  refine lv_land hx hb d_Law_law_764 ?_
  refine lv_lor hx hb d_Law_law_765 ?_
  refine mx_aload_n (r := some v0) hx hb d_Law_law_766 rfl (lv_at hl 0 rfl) ?_
  refine lv_iload hx hb d_Law_law_767 (lv_at hl 4 rfl) ?_
  refine lv_iconst (v := 4) hx hb d_Law_law_769 (by decide) ?_
  refine lv_iadd hx hb d_Law_law_770 ?_
  refine mx_sld hx hb hX hbl hh0 hR (v := w 4) (hw9 4 (by decide)) d_Law_law_771 ?_
  refine lv_i2l hx hb d_Law_law_772 rfl ?_
  refine lv_bipush (v := 32) hx hb d_Law_law_773 (by decide) ?_
  refine lv_lshl hx hb d_Law_law_775 rfl ?_
  refine mx_aload_n (r := some v0) hx hb d_Law_law_776 rfl (lv_at hl 0 rfl) ?_
  refine lv_iload hx hb d_Law_law_777 (lv_at hl 4 rfl) ?_
  refine lv_iconst (v := 5) hx hb d_Law_law_779 (by decide) ?_
  refine lv_iadd hx hb d_Law_law_780 ?_
  refine mx_sld hx hb hX hbl hh0 hR (v := w 5) (hw9 5 (by decide)) d_Law_law_781 ?_
  refine lv_i2l hx hb d_Law_law_782 rfl ?_
  refine lv_ldc2 hx hb hown (hW _ kw_1406) d_Law_law_783 ?_
  refine lv_land hx hb d_Law_law_786 ?_
  refine lv_lor hx hb d_Law_law_787 ?_
  refine mx_aload_n (r := some v0) hx hb d_Law_law_788 rfl (lv_at hl 0 rfl) ?_
  refine lv_iload hx hb d_Law_law_789 (lv_at hl 4 rfl) ?_
  refine lv_bipush (v := 6) hx hb d_Law_law_791 (by decide) ?_
  refine lv_iadd hx hb d_Law_law_793 ?_
  refine mx_sld hx hb hX hbl hh0 hR (v := w 6) (hw9 6 (by decide)) d_Law_law_794 ?_
  refine mx_aload_n (r := some vo) hx hb d_Law_law_795 rfl (lv_at hl 3 rfl) ?_
  refine mx_calli (mx_runW (As := [va_rf (some vx), .int (w 1), .long ((((w 2).toInt64) <<< ((32 : Int32).toInt64 &&& 63)) ||| (((w 3).toInt64) &&& (4294967295 : Int64))), .long ((((w 4).toInt64) <<< ((32 : Int32).toInt64 &&& 63)) ||| (((w 5).toInt64) &&& (4294967295 : Int64))), .int (w 6), va_rf (some vo)]) (rest := []) hx hb hml hown hW (mt_Law_pin l hlT D cs Z _ hw) ok_Law_pin kw_986 rfl rfl ⟨Nat.le_of_ble_eq_true rfl, Nat.le_of_ble_eq_true rfl⟩ (mx_preS hK hZ hA hR) rfl rfl hl.1 rfl (lv_room (Nat.le_of_ble_eq_true rfl)) d_Law_law_796 ⟨by show _ ≤ room_1.cells; omega, by show _ ≤ room_1.slots; omega⟩) hR hA (fun r1 h2 H locs hw hR => ?_)
  refine W.widen (k := cells + 5) (n := slots + 224) (by omega) (by omega) ?_
  try dsimp only at hw
  refine lv_istore (i := 5) (lv' := [(5, .int r1), (0, va_rf (some v0)), (1, va_rf (some vx)), (2, va_rf (some vm)), (3, va_rf (some vo)), (4, .int x4)]) hx hb d_Law_law_799 hl (by decide) rfl (fun ls hl => ?_)
  refine mx_aload_n (r := some vm) hx hb d_Law_law_801 rfl (lv_at hl 3 rfl) ?_
  refine mx_aload_n (r := some v0) hx hb d_Law_law_802 rfl (lv_at hl 1 rfl) ?_
  refine lv_iload hx hb d_Law_law_803 (lv_at hl 5 rfl) ?_
  refine lv_iconst (v := 1) hx hb d_Law_law_805 (by decide) ?_
  refine lv_iadd hx hb d_Law_law_806 ?_
  refine mx_sld hx hb hX hbl hh0 hR (v := w 1) (hw9 1 (by decide)) d_Law_law_807 ?_
  refine mx_aload_n (r := some v0) hx hb d_Law_law_808 rfl (lv_at hl 1 rfl) ?_
  refine lv_iload hx hb d_Law_law_809 (lv_at hl 5 rfl) ?_
  refine lv_iconst (v := 2) hx hb d_Law_law_811 (by decide) ?_
  refine lv_iadd hx hb d_Law_law_812 ?_
  refine mx_sld hx hb hX hbl hh0 hR (v := w 2) (hw9 2 (by decide)) d_Law_law_813 ?_
  refine lv_i2l hx hb d_Law_law_814 rfl ?_
  refine lv_bipush (v := 32) hx hb d_Law_law_815 (by decide) ?_
  refine lv_lshl hx hb d_Law_law_817 rfl ?_
  refine mx_aload_n (r := some v0) hx hb d_Law_law_818 rfl (lv_at hl 1 rfl) ?_
  refine lv_iload hx hb d_Law_law_819 (lv_at hl 5 rfl) ?_
  refine lv_iconst (v := 3) hx hb d_Law_law_821 (by decide) ?_
  refine lv_iadd hx hb d_Law_law_822 ?_
  refine mx_sld hx hb hX hbl hh0 hR (v := w 3) (hw9 3 (by decide)) d_Law_law_823 ?_
  refine lv_i2l hx hb d_Law_law_824 rfl ?_
  refine lv_ldc2 hx hb hown (hW _ kw_1406) d_Law_law_825 ?_
  refine lv_land hx hb d_Law_law_828 ?_
  refine lv_lor hx hb d_Law_law_829 ?_
  refine mx_aload_n (r := some v0) hx hb d_Law_law_830 rfl (lv_at hl 1 rfl) ?_
  refine lv_iload hx hb d_Law_law_831 (lv_at hl 5 rfl) ?_
  refine lv_iconst (v := 4) hx hb d_Law_law_833 (by decide) ?_
  refine lv_iadd hx hb d_Law_law_834 ?_
  refine mx_sld hx hb hX hbl hh0 hR (v := w 4) (hw9 4 (by decide)) d_Law_law_835 ?_
  refine lv_i2l hx hb d_Law_law_836 rfl ?_
  refine lv_bipush (v := 32) hx hb d_Law_law_837 (by decide) ?_
  refine lv_lshl hx hb d_Law_law_839 rfl ?_
  refine mx_aload_n (r := some v0) hx hb d_Law_law_840 rfl (lv_at hl 1 rfl) ?_
  refine lv_iload hx hb d_Law_law_841 (lv_at hl 5 rfl) ?_
  refine lv_iconst (v := 5) hx hb d_Law_law_843 (by decide) ?_
  refine lv_iadd hx hb d_Law_law_844 ?_
  refine mx_sld hx hb hX hbl hh0 hR (v := w 5) (hw9 5 (by decide)) d_Law_law_845 ?_
  refine lv_i2l hx hb d_Law_law_846 rfl ?_
  refine lv_ldc2 hx hb hown (hW _ kw_1406) d_Law_law_847 ?_
  refine lv_land hx hb d_Law_law_850 ?_
  refine lv_lor hx hb d_Law_law_851 ?_
  refine mx_aload_n (r := some v0) hx hb d_Law_law_852 rfl (lv_at hl 1 rfl) ?_
  refine lv_iload hx hb d_Law_law_853 (lv_at hl 5 rfl) ?_
  refine lv_bipush (v := 6) hx hb d_Law_law_855 (by decide) ?_
  refine lv_iadd hx hb d_Law_law_857 ?_
  refine mx_sld hx hb hX hbl hh0 hR (v := w 6) (hw9 6 (by decide)) d_Law_law_858 ?_
  obtain ⟨t5, hw⟩ := hw
  refine mx_calli (va_runV (b := vm) (As := [.int (w 1), .long ((((w 2).toInt64) <<< ((32 : Int32).toInt64 &&& 63)) ||| (((w 3).toInt64) &&& (4294967295 : Int64))), .long ((((w 4).toInt64) <<< ((32 : Int32).toInt64 &&& 63)) ||| (((w 5).toInt64) &&& (4294967295 : Int64))), .int (w 6)]) (rest := []) ⟨hx, hb, hml, hown, hW⟩ (mt_Mod_pin l D cs Z _ hw) (mx_cwV hW ok_Mod_pin kw_1336 rfl rfl ⟨Nat.le_of_ble_eq_true rfl, Nat.le_of_ble_eq_true rfl⟩) (mx_preV hK hZ hA hR (ci := 8) rfl t5) rfl rfl hl.1 rfl (lv_room (Nat.le_of_ble_eq_true rfl)) d_Law_law_859 ⟨by show _ ≤ room_1.cells; omega, by show _ ≤ room_1.slots; omega⟩) hR hA (fun r3 h4 H locs hw hR => ?_)
  try dsimp only at hw
  refine lv_istore (i := 6) (lv' := [(6, .int r3), (5, .int r1), (0, va_rf (some v0)), (1, va_rf (some vx)), (2, va_rf (some vm)), (3, va_rf (some vo)), (4, .int x4)]) hx hb d_Law_law_862 hl (by decide) rfl (fun ls hl => ?_)
  refine mx_aload_n (r := some vm) hx hb d_Law_law_864 rfl (lv_at hl 4 rfl) ?_
  obtain ⟨t8, hw⟩ := hw
  refine mx_calli (va_runV (b := vm) (As := []) (rest := []) ⟨hx, hb, hml, hown, hW⟩ (mt_Mod_thrown l D cs Z _ hw) (mx_cwV hW ok_Mod_thrown kw_1236 rfl rfl ⟨Nat.le_of_ble_eq_true rfl, Nat.le_of_ble_eq_true rfl⟩) (mx_preV hK hZ hA hR (ci := 8) rfl t8) rfl rfl hl.1 rfl (lv_room (Nat.le_of_ble_eq_true rfl)) d_Law_law_865 ⟨by show _ ≤ room_1.cells; omega, by show _ ≤ room_1.slots; omega⟩) hR hA (fun r6 h7 H locs hw hR => ?_)
  try dsimp only at hw
  refine lv_iload hx hb d_Law_law_868 (lv_at hl 1 rfl) ?_
  refine lv_icmp_eq (tgt := 875) hx hb d_Law_law_870 (by decide) (fun c9 => ?_) (fun c9 => ?_)
  · have hw := hw.1 c9
    refine lv_iload hx hb d_Law_law_875 (lv_at hl 1 rfl) ?_
    refine lv_if_ne (tgt := 892) hx hb d_Law_law_877 (by decide) (fun c10 => ?_) (fun c10 => ?_)
    · have hw := hw.1 c10
      refine lv_goto (tgt := 1475) hx hb d_Law_law_892 (by decide) ?_
      refine W.widen (k := cells + 8) (n := slots + 1123) (by omega) (by omega) ?_
      exact kk _ _ _ _ hw (lv_sub hl [2, 3, 4, 5, 6] rfl) hR
    · have hw := hw.2 c10
      refine mx_aload_n (r := some vo) hx hb d_Law_law_880 rfl (lv_at hl 5 rfl) ?_
      refine lv_iconst (v := 0) hx hb d_Law_law_881 (by decide) ?_
      obtain ⟨t11, t11i, hw⟩ := hw
      refine mx_lald hx hb hK.1 hR (a := vo) rfl t11 t11i d_Law_law_882 ?_
      refine lv_iload hx hb d_Law_law_883 (lv_at hl 0 rfl) ?_
      refine lv_i2l hx hb d_Law_law_885 rfl ?_
      refine W.lcmp hx hb d_Law_law_886 ?_
      refine lv_if_eq (tgt := 892) hx hb d_Law_law_887 (by decide) (fun c12 => ?_) (fun c12 => ?_)
      · have hw := hw.1 c12
        refine lv_goto (tgt := 1475) hx hb d_Law_law_892 (by decide) ?_
        refine W.widen (k := cells + 8) (n := slots + 1123) (by omega) (by omega) ?_
        exact kk _ _ _ _ hw (lv_sub hl [2, 3, 4, 5, 6] rfl) hR
      · have hw := hw.2 c12
        refine lv_iconst (v := 0) hx hb d_Law_law_890 (by decide) ?_
        exact hw.elim
  · have hw := hw.2 c9
    refine lv_iconst (v := 0) hx hb d_Law_law_873 (by decide) ?_
    exact hw.elim
set_option maxHeartbeats 4000000 in
set_option maxRecDepth 100000 in
theorem ml_5 {D : va_G} {cs : CS} {Z : Nat → Nat} {h0 : HS} {p : Program} {l : Launch} {e : Env} {s : State} {m : MethodId} {below : List Frame} {meth : Method} {c : Code} {v0 L : Nat} {xs : Nat → Int32} (C : lC l D cs Z h0 p s m meth c v0 L xs) (w : Nat → Int32) (vx vm vo : Nat) (x4 : Int32) (hw9 : ∀ j, j < 10 → vp_in (x4 + Int32.ofNat j) L ∧ xs (x4 + Int32.ofNat j).toNatClampNeg = w j) (K : HS → Prop) (cells slots : Nat) (hc : cells + 8 ≤ room_1.cells) (hs : slots + 1123 ≤ room_1.slots) (kk : ∀ (h : HS) (H : Heap) (locs : List Loc) (ls : Array Slot), K h → lv_has ls 7 [(0, va_rf (some v0)), (1, va_rf (some vx)), (2, va_rf (some vm)), (3, va_rf (some vo)), (4, .int x4)] → mR D cs (fA h0 s.heap.size) h s.heap H locs → W p l e room_1 s m #[Value.ref v0] below meth c H locs (cells + 8) (slots + 1123) (lw_Z below #[Value.ref v0] s) (F0 m 1475 ls [])) : ∀ (h : HS) (H : Heap) (locs : List Loc) (ls : Array Slot), wl_5 Z w vx vm vo K h → lv_has ls 7 [(0, va_rf (some v0)), (1, va_rf (some vx)), (2, va_rf (some vm)), (3, va_rf (some vo)), (4, .int x4)] → mR D cs (fA h0 s.heap.size) h s.heap H locs → W p l e room_1 s m #[Value.ref v0] below meth c H locs cells slots (lw_Z below #[Value.ref v0] s) (F0 m 895 ls []) := by
  obtain ⟨hx, hb, hr, hml, hown, hW, hlocks, hK, hZ, hX, hbl, hL, hlT, hh0⟩ := id C
  have hA : ∀ q, s.heap.size ≤ q → fA h0 s.heap.size q := fun _ h => Or.inr h
  intro h H locs ls hw hl hR
  unfold wl_5 at hw
  refine mx_aload_n (r := some vx) hx hb d_Law_law_895 rfl (lv_at hl 1 rfl) ?_
  refine mx_aload_n (r := some v0) hx hb d_Law_law_896 rfl (lv_at hl 0 rfl) ?_
  refine lv_iload hx hb d_Law_law_897 (lv_at hl 4 rfl) ?_
  refine lv_iconst (v := 1) hx hb d_Law_law_899 (by decide) ?_
  refine lv_iadd hx hb d_Law_law_900 ?_
  refine mx_sld hx hb hX hbl hh0 hR (v := w 1) (hw9 1 (by decide)) d_Law_law_901 ?_
  refine mx_aload_n (r := some v0) hx hb d_Law_law_902 rfl (lv_at hl 0 rfl) ?_
  refine lv_iload hx hb d_Law_law_903 (lv_at hl 4 rfl) ?_
  refine lv_iconst (v := 2) hx hb d_Law_law_905 (by decide) ?_
  refine lv_iadd hx hb d_Law_law_906 ?_
  refine mx_sld hx hb hX hbl hh0 hR (v := w 2) (hw9 2 (by decide)) d_Law_law_907 ?_
  refine mx_aload_n (r := some v0) hx hb d_Law_law_908 rfl (lv_at hl 0 rfl) ?_
  refine lv_iload hx hb d_Law_law_909 (lv_at hl 4 rfl) ?_
  refine lv_iconst (v := 3) hx hb d_Law_law_911 (by decide) ?_
  refine lv_iadd hx hb d_Law_law_912 ?_
  refine mx_sld hx hb hX hbl hh0 hR (v := w 3) (hw9 3 (by decide)) d_Law_law_913 ?_
  refine mx_aload_n (r := some vo) hx hb d_Law_law_914 rfl (lv_at hl 3 rfl) ?_
  refine mx_calli (mx_runW (As := [va_rf (some vx), .int (w 1), .int (w 2), .int (w 3), va_rf (some vo)]) (rest := []) hx hb hml hown hW (mt_Law_port l hlT D cs Z _ hw) ok_Law_port kw_997 rfl rfl ⟨Nat.le_of_ble_eq_true rfl, Nat.le_of_ble_eq_true rfl⟩ (mx_preS hK hZ hA hR) rfl rfl hl.1 rfl (lv_room (Nat.le_of_ble_eq_true rfl)) d_Law_law_915 ⟨by show _ ≤ room_1.cells; omega, by show _ ≤ room_1.slots; omega⟩) hR hA (fun r1 h2 H locs hw hR => ?_)
  refine W.widen (k := cells + 6) (n := slots + 229) (by omega) (by omega) ?_
  try dsimp only at hw
  refine lv_istore (i := 5) (lv' := [(5, .int r1), (0, va_rf (some v0)), (1, va_rf (some vx)), (2, va_rf (some vm)), (3, va_rf (some vo)), (4, .int x4)]) hx hb d_Law_law_918 hl (by decide) rfl (fun ls hl => ?_)
  refine mx_aload_n (r := some vm) hx hb d_Law_law_920 rfl (lv_at hl 3 rfl) ?_
  refine mx_aload_n (r := some v0) hx hb d_Law_law_921 rfl (lv_at hl 1 rfl) ?_
  refine lv_iload hx hb d_Law_law_922 (lv_at hl 5 rfl) ?_
  refine lv_iconst (v := 1) hx hb d_Law_law_924 (by decide) ?_
  refine lv_iadd hx hb d_Law_law_925 ?_
  refine mx_sld hx hb hX hbl hh0 hR (v := w 1) (hw9 1 (by decide)) d_Law_law_926 ?_
  refine mx_aload_n (r := some v0) hx hb d_Law_law_927 rfl (lv_at hl 1 rfl) ?_
  refine lv_iload hx hb d_Law_law_928 (lv_at hl 5 rfl) ?_
  refine lv_iconst (v := 2) hx hb d_Law_law_930 (by decide) ?_
  refine lv_iadd hx hb d_Law_law_931 ?_
  refine mx_sld hx hb hX hbl hh0 hR (v := w 2) (hw9 2 (by decide)) d_Law_law_932 ?_
  refine mx_aload_n (r := some v0) hx hb d_Law_law_933 rfl (lv_at hl 1 rfl) ?_
  refine lv_iload hx hb d_Law_law_934 (lv_at hl 5 rfl) ?_
  refine lv_iconst (v := 3) hx hb d_Law_law_936 (by decide) ?_
  refine lv_iadd hx hb d_Law_law_937 ?_
  refine mx_sld hx hb hX hbl hh0 hR (v := w 3) (hw9 3 (by decide)) d_Law_law_938 ?_
  obtain ⟨t5, hw⟩ := hw
  refine mx_calli (va_runV (b := vm) (As := [.int (w 1), .int (w 2), .int (w 3)]) (rest := []) ⟨hx, hb, hml, hown, hW⟩ (mt_Mod_port l D cs Z _ hw) (mx_cwV hW ok_Mod_port kw_1340 rfl rfl ⟨Nat.le_of_ble_eq_true rfl, Nat.le_of_ble_eq_true rfl⟩) (mx_preV hK hZ hA hR (ci := 8) rfl t5) rfl rfl hl.1 rfl (lv_room (Nat.le_of_ble_eq_true rfl)) d_Law_law_939 ⟨by show _ ≤ room_1.cells; omega, by show _ ≤ room_1.slots; omega⟩) hR hA (fun r3 h4 H locs hw hR => ?_)
  try dsimp only at hw
  refine lv_istore (i := 6) (lv' := [(6, .int r3), (5, .int r1), (0, va_rf (some v0)), (1, va_rf (some vx)), (2, va_rf (some vm)), (3, va_rf (some vo)), (4, .int x4)]) hx hb d_Law_law_942 hl (by decide) rfl (fun ls hl => ?_)
  refine mx_aload_n (r := some vm) hx hb d_Law_law_944 rfl (lv_at hl 4 rfl) ?_
  obtain ⟨t8, hw⟩ := hw
  refine mx_calli (va_runV (b := vm) (As := []) (rest := []) ⟨hx, hb, hml, hown, hW⟩ (mt_Mod_thrown l D cs Z _ hw) (mx_cwV hW ok_Mod_thrown kw_1236 rfl rfl ⟨Nat.le_of_ble_eq_true rfl, Nat.le_of_ble_eq_true rfl⟩) (mx_preV hK hZ hA hR (ci := 8) rfl t8) rfl rfl hl.1 rfl (lv_room (Nat.le_of_ble_eq_true rfl)) d_Law_law_945 ⟨by show _ ≤ room_1.cells; omega, by show _ ≤ room_1.slots; omega⟩) hR hA (fun r6 h7 H locs hw hR => ?_)
  try dsimp only at hw
  refine lv_iload hx hb d_Law_law_948 (lv_at hl 1 rfl) ?_
  refine lv_icmp_eq (tgt := 955) hx hb d_Law_law_950 (by decide) (fun c9 => ?_) (fun c9 => ?_)
  · have hw := hw.1 c9
    refine lv_iload hx hb d_Law_law_955 (lv_at hl 1 rfl) ?_
    refine lv_if_ne (tgt := 979) hx hb d_Law_law_957 (by decide) (fun c10 => ?_) (fun c10 => ?_)
    · have hw := hw.1 c10
      refine lv_goto (tgt := 1475) hx hb d_Law_law_979 (by decide) ?_
      refine W.widen (k := cells + 8) (n := slots + 1123) (by omega) (by omega) ?_
      exact kk _ _ _ _ hw (lv_sub hl [2, 3, 4, 5, 6] rfl) hR
    · have hw := hw.2 c10
      refine mx_aload_n (r := some vo) hx hb d_Law_law_960 rfl (lv_at hl 5 rfl) ?_
      refine lv_iconst (v := 0) hx hb d_Law_law_961 (by decide) ?_
      obtain ⟨t11, t11i, hw⟩ := hw
      refine mx_lald hx hb hK.1 hR (a := vo) rfl t11 t11i d_Law_law_962 ?_
      refine lv_iload hx hb d_Law_law_963 (lv_at hl 0 rfl) ?_
      refine lv_if_eq (tgt := 972) hx hb d_Law_law_965 (by decide) (fun c12 => ?_) (fun c12 => ?_)
      · have hw := hw.1 c12
        refine lv_lconst (v := 0) hx hb d_Law_law_972 (by decide) ?_
        refine W.lcmp hx hb d_Law_law_973 ?_
        refine lv_if_eq (tgt := 979) hx hb d_Law_law_974 (by decide) (fun c13 => ?_) (fun c13 => ?_)
        · have hw := hw.1 c13
          refine lv_goto (tgt := 1475) hx hb d_Law_law_979 (by decide) ?_
          refine W.widen (k := cells + 8) (n := slots + 1123) (by omega) (by omega) ?_
          exact kk _ _ _ _ hw (lv_sub hl [2, 3, 4, 5, 6] rfl) hR
        · have hw := hw.2 c13
          refine lv_iconst (v := 0) hx hb d_Law_law_977 (by decide) ?_
          exact hw.elim
      · have hw := hw.2 c12
        refine lv_lconst (v := 1) hx hb d_Law_law_968 (by decide) ?_
        refine lv_goto (tgt := 973) hx hb d_Law_law_969 (by decide) ?_
        refine W.lcmp hx hb d_Law_law_973 ?_
        refine lv_if_eq (tgt := 979) hx hb d_Law_law_974 (by decide) (fun c14 => ?_) (fun c14 => ?_)
        · have hw := hw.1 c14
          refine lv_goto (tgt := 1475) hx hb d_Law_law_979 (by decide) ?_
          refine W.widen (k := cells + 8) (n := slots + 1123) (by omega) (by omega) ?_
          exact kk _ _ _ _ hw (lv_sub hl [2, 3, 4, 5, 6] rfl) hR
        · have hw := hw.2 c14
          refine lv_iconst (v := 0) hx hb d_Law_law_977 (by decide) ?_
          exact hw.elim
  · have hw := hw.2 c9
    refine lv_iconst (v := 0) hx hb d_Law_law_953 (by decide) ?_
    exact hw.elim
set_option maxHeartbeats 4000000 in
set_option maxRecDepth 100000 in
theorem ml_6 {D : va_G} {cs : CS} {Z : Nat → Nat} {h0 : HS} {p : Program} {l : Launch} {e : Env} {s : State} {m : MethodId} {below : List Frame} {meth : Method} {c : Code} {v0 L : Nat} {xs : Nat → Int32} (C : lC l D cs Z h0 p s m meth c v0 L xs) (w : Nat → Int32) (vx vm vo : Nat) (x4 : Int32) (hw9 : ∀ j, j < 10 → vp_in (x4 + Int32.ofNat j) L ∧ xs (x4 + Int32.ofNat j).toNatClampNeg = w j) (K : HS → Prop) (cells slots : Nat) (hc : cells + 8 ≤ room_1.cells) (hs : slots + 1123 ≤ room_1.slots) (kk : ∀ (h : HS) (H : Heap) (locs : List Loc) (ls : Array Slot), K h → lv_has ls 7 [(0, va_rf (some v0)), (1, va_rf (some vx)), (2, va_rf (some vm)), (3, va_rf (some vo)), (4, .int x4)] → mR D cs (fA h0 s.heap.size) h s.heap H locs → W p l e room_1 s m #[Value.ref v0] below meth c H locs (cells + 8) (slots + 1123) (lw_Z below #[Value.ref v0] s) (F0 m 1475 ls [])) : ∀ (h : HS) (H : Heap) (locs : List Loc) (ls : Array Slot), wl_6 Z w vx vm vo K h → lv_has ls 7 [(0, va_rf (some v0)), (1, va_rf (some vx)), (2, va_rf (some vm)), (3, va_rf (some vo)), (4, .int x4)] → mR D cs (fA h0 s.heap.size) h s.heap H locs → W p l e room_1 s m #[Value.ref v0] below meth c H locs cells slots (lw_Z below #[Value.ref v0] s) (F0 m 982 ls []) := by
  obtain ⟨hx, hb, hr, hml, hown, hW, hlocks, hK, hZ, hX, hbl, hL, hlT, hh0⟩ := id C
  have hA : ∀ q, s.heap.size ≤ q → fA h0 s.heap.size q := fun _ h => Or.inr h
  intro h H locs ls hw hl hR
  unfold wl_6 at hw
  refine mx_aload_n (r := some vx) hx hb d_Law_law_982 rfl (lv_at hl 1 rfl) ?_
  refine mx_aload_n (r := some v0) hx hb d_Law_law_983 rfl (lv_at hl 0 rfl) ?_
  refine lv_iload hx hb d_Law_law_984 (lv_at hl 4 rfl) ?_
  refine lv_iconst (v := 1) hx hb d_Law_law_986 (by decide) ?_
  refine lv_iadd hx hb d_Law_law_987 ?_
  refine mx_sld hx hb hX hbl hh0 hR (v := w 1) (hw9 1 (by decide)) d_Law_law_988 ?_
  refine mx_aload_n (r := some v0) hx hb d_Law_law_989 rfl (lv_at hl 0 rfl) ?_
  refine lv_iload hx hb d_Law_law_990 (lv_at hl 4 rfl) ?_
  refine lv_iconst (v := 2) hx hb d_Law_law_992 (by decide) ?_
  refine lv_iadd hx hb d_Law_law_993 ?_
  refine mx_sld hx hb hX hbl hh0 hR (v := w 2) (hw9 2 (by decide)) d_Law_law_994 ?_
  refine mx_aload_n (r := some v0) hx hb d_Law_law_995 rfl (lv_at hl 0 rfl) ?_
  refine lv_iload hx hb d_Law_law_996 (lv_at hl 4 rfl) ?_
  refine lv_iconst (v := 3) hx hb d_Law_law_998 (by decide) ?_
  refine lv_iadd hx hb d_Law_law_999 ?_
  refine mx_sld hx hb hX hbl hh0 hR (v := w 3) (hw9 3 (by decide)) d_Law_law_1000 ?_
  refine mx_aload_n (r := some v0) hx hb d_Law_law_1001 rfl (lv_at hl 0 rfl) ?_
  refine lv_iload hx hb d_Law_law_1002 (lv_at hl 4 rfl) ?_
  refine lv_iconst (v := 4) hx hb d_Law_law_1004 (by decide) ?_
  refine lv_iadd hx hb d_Law_law_1005 ?_
  refine mx_sld hx hb hX hbl hh0 hR (v := w 4) (hw9 4 (by decide)) d_Law_law_1006 ?_
  refine mx_aload_n (r := some vo) hx hb d_Law_law_1007 rfl (lv_at hl 3 rfl) ?_
  refine mx_calli (mx_runW (As := [va_rf (some vx), .int (w 1), .int (w 2), .int (w 3), .int (w 4), va_rf (some vo)]) (rest := []) hx hb hml hown hW (mt_Law_bus l hlT D cs Z _ hw) ok_Law_bus kw_1044 rfl rfl ⟨Nat.le_of_ble_eq_true rfl, Nat.le_of_ble_eq_true rfl⟩ (mx_preS hK hZ hA hR) rfl rfl hl.1 rfl (lv_room (Nat.le_of_ble_eq_true rfl)) d_Law_law_1008 ⟨by show _ ≤ room_1.cells; omega, by show _ ≤ room_1.slots; omega⟩) hR hA (fun r1 h2 H locs hw hR => ?_)
  refine W.widen (k := cells + 7) (n := slots + 234) (by omega) (by omega) ?_
  try dsimp only at hw
  refine lv_istore (i := 5) (lv' := [(5, .int r1), (0, va_rf (some v0)), (1, va_rf (some vx)), (2, va_rf (some vm)), (3, va_rf (some vo)), (4, .int x4)]) hx hb d_Law_law_1011 hl (by decide) rfl (fun ls hl => ?_)
  refine mx_aload_n (r := some vm) hx hb d_Law_law_1013 rfl (lv_at hl 3 rfl) ?_
  refine mx_aload_n (r := some v0) hx hb d_Law_law_1014 rfl (lv_at hl 1 rfl) ?_
  refine lv_iload hx hb d_Law_law_1015 (lv_at hl 5 rfl) ?_
  refine lv_iconst (v := 1) hx hb d_Law_law_1017 (by decide) ?_
  refine lv_iadd hx hb d_Law_law_1018 ?_
  refine mx_sld hx hb hX hbl hh0 hR (v := w 1) (hw9 1 (by decide)) d_Law_law_1019 ?_
  refine mx_aload_n (r := some v0) hx hb d_Law_law_1020 rfl (lv_at hl 1 rfl) ?_
  refine lv_iload hx hb d_Law_law_1021 (lv_at hl 5 rfl) ?_
  refine lv_iconst (v := 2) hx hb d_Law_law_1023 (by decide) ?_
  refine lv_iadd hx hb d_Law_law_1024 ?_
  refine mx_sld hx hb hX hbl hh0 hR (v := w 2) (hw9 2 (by decide)) d_Law_law_1025 ?_
  refine mx_aload_n (r := some v0) hx hb d_Law_law_1026 rfl (lv_at hl 1 rfl) ?_
  refine lv_iload hx hb d_Law_law_1027 (lv_at hl 5 rfl) ?_
  refine lv_iconst (v := 3) hx hb d_Law_law_1029 (by decide) ?_
  refine lv_iadd hx hb d_Law_law_1030 ?_
  refine mx_sld hx hb hX hbl hh0 hR (v := w 3) (hw9 3 (by decide)) d_Law_law_1031 ?_
  refine mx_aload_n (r := some v0) hx hb d_Law_law_1032 rfl (lv_at hl 1 rfl) ?_
  refine lv_iload hx hb d_Law_law_1033 (lv_at hl 5 rfl) ?_
  refine lv_iconst (v := 4) hx hb d_Law_law_1035 (by decide) ?_
  refine lv_iadd hx hb d_Law_law_1036 ?_
  refine mx_sld hx hb hX hbl hh0 hR (v := w 4) (hw9 4 (by decide)) d_Law_law_1037 ?_
  obtain ⟨t5, hw⟩ := hw
  refine mx_calli (va_runV (b := vm) (As := [.int (w 1), .int (w 2), .int (w 3), .int (w 4)]) (rest := []) ⟨hx, hb, hml, hown, hW⟩ (mt_Mod_bus l D cs Z _ hw) (mx_cwV hW ok_Mod_bus kw_1344 rfl rfl ⟨Nat.le_of_ble_eq_true rfl, Nat.le_of_ble_eq_true rfl⟩) (mx_preV hK hZ hA hR (ci := 8) rfl t5) rfl rfl hl.1 rfl (lv_room (Nat.le_of_ble_eq_true rfl)) d_Law_law_1038 ⟨by show _ ≤ room_1.cells; omega, by show _ ≤ room_1.slots; omega⟩) hR hA (fun r3 h4 H locs hw hR => ?_)
  try dsimp only at hw
  refine lv_istore (i := 6) (lv' := [(6, .int r3), (5, .int r1), (0, va_rf (some v0)), (1, va_rf (some vx)), (2, va_rf (some vm)), (3, va_rf (some vo)), (4, .int x4)]) hx hb d_Law_law_1041 hl (by decide) rfl (fun ls hl => ?_)
  refine mx_aload_n (r := some vm) hx hb d_Law_law_1043 rfl (lv_at hl 4 rfl) ?_
  obtain ⟨t8, hw⟩ := hw
  refine mx_calli (va_runV (b := vm) (As := []) (rest := []) ⟨hx, hb, hml, hown, hW⟩ (mt_Mod_thrown l D cs Z _ hw) (mx_cwV hW ok_Mod_thrown kw_1236 rfl rfl ⟨Nat.le_of_ble_eq_true rfl, Nat.le_of_ble_eq_true rfl⟩) (mx_preV hK hZ hA hR (ci := 8) rfl t8) rfl rfl hl.1 rfl (lv_room (Nat.le_of_ble_eq_true rfl)) d_Law_law_1044 ⟨by show _ ≤ room_1.cells; omega, by show _ ≤ room_1.slots; omega⟩) hR hA (fun r6 h7 H locs hw hR => ?_)
  try dsimp only at hw
  refine lv_iload hx hb d_Law_law_1047 (lv_at hl 1 rfl) ?_
  refine lv_icmp_eq (tgt := 1054) hx hb d_Law_law_1049 (by decide) (fun c9 => ?_) (fun c9 => ?_)
  · have hw := hw.1 c9
    refine lv_iload hx hb d_Law_law_1054 (lv_at hl 1 rfl) ?_
    refine lv_if_ne (tgt := 1078) hx hb d_Law_law_1056 (by decide) (fun c10 => ?_) (fun c10 => ?_)
    · have hw := hw.1 c10
      refine lv_goto (tgt := 1475) hx hb d_Law_law_1078 (by decide) ?_
      refine W.widen (k := cells + 8) (n := slots + 1123) (by omega) (by omega) ?_
      exact kk _ _ _ _ hw (lv_sub hl [2, 3, 4, 5, 6] rfl) hR
    · have hw := hw.2 c10
      refine mx_aload_n (r := some vo) hx hb d_Law_law_1059 rfl (lv_at hl 5 rfl) ?_
      refine lv_iconst (v := 0) hx hb d_Law_law_1060 (by decide) ?_
      obtain ⟨t11, t11i, hw⟩ := hw
      refine mx_lald hx hb hK.1 hR (a := vo) rfl t11 t11i d_Law_law_1061 ?_
      refine lv_iload hx hb d_Law_law_1062 (lv_at hl 0 rfl) ?_
      refine lv_if_eq (tgt := 1071) hx hb d_Law_law_1064 (by decide) (fun c12 => ?_) (fun c12 => ?_)
      · have hw := hw.1 c12
        refine lv_lconst (v := 0) hx hb d_Law_law_1071 (by decide) ?_
        refine W.lcmp hx hb d_Law_law_1072 ?_
        refine lv_if_eq (tgt := 1078) hx hb d_Law_law_1073 (by decide) (fun c13 => ?_) (fun c13 => ?_)
        · have hw := hw.1 c13
          refine lv_goto (tgt := 1475) hx hb d_Law_law_1078 (by decide) ?_
          refine W.widen (k := cells + 8) (n := slots + 1123) (by omega) (by omega) ?_
          exact kk _ _ _ _ hw (lv_sub hl [2, 3, 4, 5, 6] rfl) hR
        · have hw := hw.2 c13
          refine lv_iconst (v := 0) hx hb d_Law_law_1076 (by decide) ?_
          exact hw.elim
      · have hw := hw.2 c12
        refine lv_lconst (v := 1) hx hb d_Law_law_1067 (by decide) ?_
        refine lv_goto (tgt := 1072) hx hb d_Law_law_1068 (by decide) ?_
        refine W.lcmp hx hb d_Law_law_1072 ?_
        refine lv_if_eq (tgt := 1078) hx hb d_Law_law_1073 (by decide) (fun c14 => ?_) (fun c14 => ?_)
        · have hw := hw.1 c14
          refine lv_goto (tgt := 1475) hx hb d_Law_law_1078 (by decide) ?_
          refine W.widen (k := cells + 8) (n := slots + 1123) (by omega) (by omega) ?_
          exact kk _ _ _ _ hw (lv_sub hl [2, 3, 4, 5, 6] rfl) hR
        · have hw := hw.2 c14
          refine lv_iconst (v := 0) hx hb d_Law_law_1076 (by decide) ?_
          exact hw.elim
  · have hw := hw.2 c9
    refine lv_iconst (v := 0) hx hb d_Law_law_1052 (by decide) ?_
    exact hw.elim
set_option maxHeartbeats 4000000 in
set_option maxRecDepth 100000 in
theorem ml_7 {D : va_G} {cs : CS} {Z : Nat → Nat} {h0 : HS} {p : Program} {l : Launch} {e : Env} {s : State} {m : MethodId} {below : List Frame} {meth : Method} {c : Code} {v0 L : Nat} {xs : Nat → Int32} (C : lC l D cs Z h0 p s m meth c v0 L xs) (w : Nat → Int32) (vx vm vo : Nat) (x4 : Int32) (hw9 : ∀ j, j < 10 → vp_in (x4 + Int32.ofNat j) L ∧ xs (x4 + Int32.ofNat j).toNatClampNeg = w j) (K : HS → Prop) (cells slots : Nat) (hc : cells + 8 ≤ room_1.cells) (hs : slots + 1123 ≤ room_1.slots) (kk : ∀ (h : HS) (H : Heap) (locs : List Loc) (ls : Array Slot), K h → lv_has ls 7 [(0, va_rf (some v0)), (1, va_rf (some vx)), (2, va_rf (some vm)), (3, va_rf (some vo)), (4, .int x4)] → mR D cs (fA h0 s.heap.size) h s.heap H locs → W p l e room_1 s m #[Value.ref v0] below meth c H locs (cells + 8) (slots + 1123) (lw_Z below #[Value.ref v0] s) (F0 m 1475 ls [])) : ∀ (h : HS) (H : Heap) (locs : List Loc) (ls : Array Slot), wl_7 Z w vx vm vo K h → lv_has ls 7 [(0, va_rf (some v0)), (1, va_rf (some vx)), (2, va_rf (some vm)), (3, va_rf (some vo)), (4, .int x4)] → mR D cs (fA h0 s.heap.size) h s.heap H locs → W p l e room_1 s m #[Value.ref v0] below meth c H locs cells slots (lw_Z below #[Value.ref v0] s) (F0 m 1081 ls []) := by
  obtain ⟨hx, hb, hr, hml, hown, hW, hlocks, hK, hZ, hX, hbl, hL, hlT, hh0⟩ := id C
  have hA : ∀ q, s.heap.size ≤ q → fA h0 s.heap.size q := fun _ h => Or.inr h
  intro h H locs ls hw hl hR
  unfold wl_7 at hw
  refine mx_aload_n (r := some vx) hx hb d_Law_law_1081 rfl (lv_at hl 1 rfl) ?_
  obtain ⟨t3, hw⟩ := hw
  refine mx_calli (va_runV (b := vx) (As := []) (rest := []) ⟨hx, hb, hml, hown, hW⟩ (mt_NJ_nets l D cs Z _ hw) (mx_cwV hW ok_NJ_nets kw_175 rfl rfl ⟨Nat.le_of_ble_eq_true rfl, Nat.le_of_ble_eq_true rfl⟩) (mx_preV hK hZ hA hR (ci := 0) rfl t3) rfl rfl hl.1 rfl (lv_room (Nat.le_of_ble_eq_true rfl)) d_Law_law_1082 ⟨by show _ ≤ room_1.cells; omega, by show _ ≤ room_1.slots; omega⟩) hR hA (fun r1 h2 H locs hw hR => ?_)
  try dsimp only at hw
  refine mx_aload_n (r := some vm) hx hb d_Law_law_1085 rfl (lv_at hl 2 rfl) ?_
  obtain ⟨t6, hw⟩ := hw
  refine mx_calli (va_runV (b := vm) (As := []) (rest := [.int r1]) ⟨hx, hb, hml, hown, hW⟩ (mt_Mod_nets l D cs Z _ hw) (mx_cwV hW ok_Mod_nets kw_1352 rfl rfl ⟨Nat.le_of_ble_eq_true rfl, Nat.le_of_ble_eq_true rfl⟩) (mx_preV hK hZ hA hR (ci := 8) rfl t6) rfl rfl hl.1 rfl (lv_room (Nat.le_of_ble_eq_true rfl)) d_Law_law_1086 ⟨by show _ ≤ room_1.cells; omega, by show _ ≤ room_1.slots; omega⟩) hR hA (fun r4 h5 H locs hw hR => ?_)
  try dsimp only at hw
  refine lv_icmp_eq (tgt := 1475) hx hb d_Law_law_1089 (by decide) (fun c7 => ?_) (fun c7 => ?_)
  · have hw := hw.1 c7
    refine W.widen (k := cells + 8) (n := slots + 1123) (by omega) (by omega) ?_
    exact kk _ _ _ _ hw (lv_sub hl [0, 1, 2, 3, 4] rfl) hR
  · have hw := hw.2 c7
    refine lv_iconst (v := 0) hx hb d_Law_law_1092 (by decide) ?_
    exact hw.elim
set_option maxHeartbeats 4000000 in
set_option maxRecDepth 100000 in
theorem ml_8 {D : va_G} {cs : CS} {Z : Nat → Nat} {h0 : HS} {p : Program} {l : Launch} {e : Env} {s : State} {m : MethodId} {below : List Frame} {meth : Method} {c : Code} {v0 L : Nat} {xs : Nat → Int32} (C : lC l D cs Z h0 p s m meth c v0 L xs) (w : Nat → Int32) (vx vm vo : Nat) (x4 : Int32) (hw9 : ∀ j, j < 10 → vp_in (x4 + Int32.ofNat j) L ∧ xs (x4 + Int32.ofNat j).toNatClampNeg = w j) (K : HS → Prop) (cells slots : Nat) (hc : cells + 8 ≤ room_1.cells) (hs : slots + 1123 ≤ room_1.slots) (kk : ∀ (h : HS) (H : Heap) (locs : List Loc) (ls : Array Slot), K h → lv_has ls 7 [(0, va_rf (some v0)), (1, va_rf (some vx)), (2, va_rf (some vm)), (3, va_rf (some vo)), (4, .int x4)] → mR D cs (fA h0 s.heap.size) h s.heap H locs → W p l e room_1 s m #[Value.ref v0] below meth c H locs (cells + 8) (slots + 1123) (lw_Z below #[Value.ref v0] s) (F0 m 1475 ls [])) : ∀ (h : HS) (H : Heap) (locs : List Loc) (ls : Array Slot), wl_8 Z w vx vm vo K h → lv_has ls 7 [(0, va_rf (some v0)), (1, va_rf (some vx)), (2, va_rf (some vm)), (3, va_rf (some vo)), (4, .int x4)] → mR D cs (fA h0 s.heap.size) h s.heap H locs → W p l e room_1 s m #[Value.ref v0] below meth c H locs cells slots (lw_Z below #[Value.ref v0] s) (F0 m 1094 ls []) := by
  obtain ⟨hx, hb, hr, hml, hown, hW, hlocks, hK, hZ, hX, hbl, hL, hlT, hh0⟩ := id C
  have hA : ∀ q, s.heap.size ≤ q → fA h0 s.heap.size q := fun _ h => Or.inr h
  intro h H locs ls hw hl hR
  unfold wl_8 at hw
  refine mx_aload_n (r := some vx) hx hb d_Law_law_1094 rfl (lv_at hl 1 rfl) ?_
  refine mx_aload_n (r := some v0) hx hb d_Law_law_1095 rfl (lv_at hl 0 rfl) ?_
  refine lv_iload hx hb d_Law_law_1096 (lv_at hl 4 rfl) ?_
  refine lv_iconst (v := 1) hx hb d_Law_law_1098 (by decide) ?_
  refine lv_iadd hx hb d_Law_law_1099 ?_
  refine mx_sld hx hb hX hbl hh0 hR (v := w 1) (hw9 1 (by decide)) d_Law_law_1100 ?_
  refine mx_aload_n (r := some v0) hx hb d_Law_law_1101 rfl (lv_at hl 0 rfl) ?_
  refine lv_iload hx hb d_Law_law_1102 (lv_at hl 4 rfl) ?_
  refine lv_iconst (v := 2) hx hb d_Law_law_1104 (by decide) ?_
  refine lv_iadd hx hb d_Law_law_1105 ?_
  refine mx_sld hx hb hX hbl hh0 hR (v := w 2) (hw9 2 (by decide)) d_Law_law_1106 ?_
  refine mx_aload_n (r := some vo) hx hb d_Law_law_1107 rfl (lv_at hl 3 rfl) ?_
  refine mx_calli (mx_runW (As := [va_rf (some vx), .int (w 1), .int (w 2), va_rf (some vo)]) (rest := []) hx hb hml hown hW (mt_Law_netOf l hlT D cs Z _ hw) ok_Law_netOf kw_1077 rfl rfl ⟨Nat.le_of_ble_eq_true rfl, Nat.le_of_ble_eq_true rfl⟩ (mx_preS hK hZ hA hR) rfl rfl hl.1 rfl (lv_room (Nat.le_of_ble_eq_true rfl)) d_Law_law_1108 ⟨by show _ ≤ room_1.cells; omega, by show _ ≤ room_1.slots; omega⟩) hR hA (fun r1 h2 H locs hw hR => ?_)
  refine W.widen (k := cells + 2) (n := slots + 12) (by omega) (by omega) ?_
  try dsimp only at hw
  refine lv_istore (i := 5) (lv' := [(5, .int r1), (0, va_rf (some v0)), (1, va_rf (some vx)), (2, va_rf (some vm)), (3, va_rf (some vo)), (4, .int x4)]) hx hb d_Law_law_1111 hl (by decide) rfl (fun ls hl => ?_)
  refine mx_aload_n (r := some vm) hx hb d_Law_law_1113 rfl (lv_at hl 3 rfl) ?_
  refine mx_aload_n (r := some v0) hx hb d_Law_law_1114 rfl (lv_at hl 1 rfl) ?_
  refine lv_iload hx hb d_Law_law_1115 (lv_at hl 5 rfl) ?_
  refine lv_iconst (v := 1) hx hb d_Law_law_1117 (by decide) ?_
  refine lv_iadd hx hb d_Law_law_1118 ?_
  refine mx_sld hx hb hX hbl hh0 hR (v := w 1) (hw9 1 (by decide)) d_Law_law_1119 ?_
  refine mx_aload_n (r := some v0) hx hb d_Law_law_1120 rfl (lv_at hl 1 rfl) ?_
  refine lv_iload hx hb d_Law_law_1121 (lv_at hl 5 rfl) ?_
  refine lv_iconst (v := 2) hx hb d_Law_law_1123 (by decide) ?_
  refine lv_iadd hx hb d_Law_law_1124 ?_
  refine mx_sld hx hb hX hbl hh0 hR (v := w 2) (hw9 2 (by decide)) d_Law_law_1125 ?_
  obtain ⟨t5, hw⟩ := hw
  refine mx_calli (va_runV (b := vm) (As := [.int (w 1), .int (w 2)]) (rest := []) ⟨hx, hb, hml, hown, hW⟩ (mt_Mod_netOf l D cs Z _ hw) (mx_cwV hW ok_Mod_netOf kw_1356 rfl rfl ⟨Nat.le_of_ble_eq_true rfl, Nat.le_of_ble_eq_true rfl⟩) (mx_preV hK hZ hA hR (ci := 8) rfl t5) rfl rfl hl.1 rfl (lv_room (Nat.le_of_ble_eq_true rfl)) d_Law_law_1126 ⟨by show _ ≤ room_1.cells; omega, by show _ ≤ room_1.slots; omega⟩) hR hA (fun r3 h4 H locs hw hR => ?_)
  try dsimp only at hw
  refine lv_istore (i := 6) (lv' := [(6, .int r3), (5, .int r1), (0, va_rf (some v0)), (1, va_rf (some vx)), (2, va_rf (some vm)), (3, va_rf (some vo)), (4, .int x4)]) hx hb d_Law_law_1129 hl (by decide) rfl (fun ls hl => ?_)
  refine mx_aload_n (r := some vm) hx hb d_Law_law_1131 rfl (lv_at hl 4 rfl) ?_
  obtain ⟨t8, hw⟩ := hw
  refine mx_calli (va_runV (b := vm) (As := []) (rest := []) ⟨hx, hb, hml, hown, hW⟩ (mt_Mod_thrown l D cs Z _ hw) (mx_cwV hW ok_Mod_thrown kw_1236 rfl rfl ⟨Nat.le_of_ble_eq_true rfl, Nat.le_of_ble_eq_true rfl⟩) (mx_preV hK hZ hA hR (ci := 8) rfl t8) rfl rfl hl.1 rfl (lv_room (Nat.le_of_ble_eq_true rfl)) d_Law_law_1132 ⟨by show _ ≤ room_1.cells; omega, by show _ ≤ room_1.slots; omega⟩) hR hA (fun r6 h7 H locs hw hR => ?_)
  try dsimp only at hw
  refine lv_iload hx hb d_Law_law_1135 (lv_at hl 1 rfl) ?_
  refine lv_icmp_eq (tgt := 1142) hx hb d_Law_law_1137 (by decide) (fun c9 => ?_) (fun c9 => ?_)
  · have hw := hw.1 c9
    refine lv_iload hx hb d_Law_law_1142 (lv_at hl 1 rfl) ?_
    refine lv_if_ne (tgt := 1159) hx hb d_Law_law_1144 (by decide) (fun c10 => ?_) (fun c10 => ?_)
    · have hw := hw.1 c10
      refine lv_goto (tgt := 1475) hx hb d_Law_law_1159 (by decide) ?_
      refine W.widen (k := cells + 8) (n := slots + 1123) (by omega) (by omega) ?_
      exact kk _ _ _ _ hw (lv_sub hl [2, 3, 4, 5, 6] rfl) hR
    · have hw := hw.2 c10
      refine mx_aload_n (r := some vo) hx hb d_Law_law_1147 rfl (lv_at hl 5 rfl) ?_
      refine lv_iconst (v := 0) hx hb d_Law_law_1148 (by decide) ?_
      obtain ⟨t11, t11i, hw⟩ := hw
      refine mx_lald hx hb hK.1 hR (a := vo) rfl t11 t11i d_Law_law_1149 ?_
      refine lv_iload hx hb d_Law_law_1150 (lv_at hl 0 rfl) ?_
      refine lv_i2l hx hb d_Law_law_1152 rfl ?_
      refine W.lcmp hx hb d_Law_law_1153 ?_
      refine lv_if_eq (tgt := 1159) hx hb d_Law_law_1154 (by decide) (fun c12 => ?_) (fun c12 => ?_)
      · have hw := hw.1 c12
        refine lv_goto (tgt := 1475) hx hb d_Law_law_1159 (by decide) ?_
        refine W.widen (k := cells + 8) (n := slots + 1123) (by omega) (by omega) ?_
        exact kk _ _ _ _ hw (lv_sub hl [2, 3, 4, 5, 6] rfl) hR
      · have hw := hw.2 c12
        refine lv_iconst (v := 0) hx hb d_Law_law_1157 (by decide) ?_
        exact hw.elim
  · have hw := hw.2 c9
    refine lv_iconst (v := 0) hx hb d_Law_law_1140 (by decide) ?_
    exact hw.elim
set_option maxHeartbeats 4000000 in
set_option maxRecDepth 100000 in
theorem ml_9 {D : va_G} {cs : CS} {Z : Nat → Nat} {h0 : HS} {p : Program} {l : Launch} {e : Env} {s : State} {m : MethodId} {below : List Frame} {meth : Method} {c : Code} {v0 L : Nat} {xs : Nat → Int32} (C : lC l D cs Z h0 p s m meth c v0 L xs) (w : Nat → Int32) (vx vm vo : Nat) (x4 : Int32) (hw9 : ∀ j, j < 10 → vp_in (x4 + Int32.ofNat j) L ∧ xs (x4 + Int32.ofNat j).toNatClampNeg = w j) (K : HS → Prop) (cells slots : Nat) (hc : cells + 8 ≤ room_1.cells) (hs : slots + 1123 ≤ room_1.slots) (kk : ∀ (h : HS) (H : Heap) (locs : List Loc) (ls : Array Slot), K h → lv_has ls 7 [(0, va_rf (some v0)), (1, va_rf (some vx)), (2, va_rf (some vm)), (3, va_rf (some vo)), (4, .int x4)] → mR D cs (fA h0 s.heap.size) h s.heap H locs → W p l e room_1 s m #[Value.ref v0] below meth c H locs (cells + 8) (slots + 1123) (lw_Z below #[Value.ref v0] s) (F0 m 1475 ls [])) : ∀ (h : HS) (H : Heap) (locs : List Loc) (ls : Array Slot), wl_9 Z w vx vm vo K h → lv_has ls 7 [(0, va_rf (some v0)), (1, va_rf (some vx)), (2, va_rf (some vm)), (3, va_rf (some vo)), (4, .int x4)] → mR D cs (fA h0 s.heap.size) h s.heap H locs → W p l e room_1 s m #[Value.ref v0] below meth c H locs cells slots (lw_Z below #[Value.ref v0] s) (F0 m 1162 ls []) := by
  obtain ⟨hx, hb, hr, hml, hown, hW, hlocks, hK, hZ, hX, hbl, hL, hlT, hh0⟩ := id C
  have hA : ∀ q, s.heap.size ≤ q → fA h0 s.heap.size q := fun _ h => Or.inr h
  intro h H locs ls hw hl hR
  unfold wl_9 at hw
  refine mx_aload_n (r := some vx) hx hb d_Law_law_1162 rfl (lv_at hl 1 rfl) ?_
  refine mx_aload_n (r := some v0) hx hb d_Law_law_1163 rfl (lv_at hl 0 rfl) ?_
  refine lv_iload hx hb d_Law_law_1164 (lv_at hl 4 rfl) ?_
  refine lv_iconst (v := 1) hx hb d_Law_law_1166 (by decide) ?_
  refine lv_iadd hx hb d_Law_law_1167 ?_
  refine mx_sld hx hb hX hbl hh0 hR (v := w 1) (hw9 1 (by decide)) d_Law_law_1168 ?_
  refine mx_aload_n (r := some v0) hx hb d_Law_law_1169 rfl (lv_at hl 0 rfl) ?_
  refine lv_iload hx hb d_Law_law_1170 (lv_at hl 4 rfl) ?_
  refine lv_iconst (v := 2) hx hb d_Law_law_1172 (by decide) ?_
  refine lv_iadd hx hb d_Law_law_1173 ?_
  refine mx_sld hx hb hX hbl hh0 hR (v := w 2) (hw9 2 (by decide)) d_Law_law_1174 ?_
  refine mx_aload_n (r := some vo) hx hb d_Law_law_1175 rfl (lv_at hl 3 rfl) ?_
  refine mx_calli (mx_runW (As := [va_rf (some vx), .int (w 1), .int (w 2), va_rf (some vo)]) (rest := []) hx hb hml hown hW (mt_Law_rank l hlT D cs Z _ hw) ok_Law_rank kw_1090 rfl rfl ⟨Nat.le_of_ble_eq_true rfl, Nat.le_of_ble_eq_true rfl⟩ (mx_preS hK hZ hA hR) rfl rfl hl.1 rfl (lv_room (Nat.le_of_ble_eq_true rfl)) d_Law_law_1176 ⟨by show _ ≤ room_1.cells; omega, by show _ ≤ room_1.slots; omega⟩) hR hA (fun r1 h2 H locs hw hR => ?_)
  refine W.widen (k := cells + 2) (n := slots + 12) (by omega) (by omega) ?_
  try dsimp only at hw
  refine lv_istore (i := 5) (lv' := [(5, .int r1), (0, va_rf (some v0)), (1, va_rf (some vx)), (2, va_rf (some vm)), (3, va_rf (some vo)), (4, .int x4)]) hx hb d_Law_law_1179 hl (by decide) rfl (fun ls hl => ?_)
  refine mx_aload_n (r := some vm) hx hb d_Law_law_1181 rfl (lv_at hl 3 rfl) ?_
  refine mx_aload_n (r := some v0) hx hb d_Law_law_1182 rfl (lv_at hl 1 rfl) ?_
  refine lv_iload hx hb d_Law_law_1183 (lv_at hl 5 rfl) ?_
  refine lv_iconst (v := 1) hx hb d_Law_law_1185 (by decide) ?_
  refine lv_iadd hx hb d_Law_law_1186 ?_
  refine mx_sld hx hb hX hbl hh0 hR (v := w 1) (hw9 1 (by decide)) d_Law_law_1187 ?_
  refine mx_aload_n (r := some v0) hx hb d_Law_law_1188 rfl (lv_at hl 1 rfl) ?_
  refine lv_iload hx hb d_Law_law_1189 (lv_at hl 5 rfl) ?_
  refine lv_iconst (v := 2) hx hb d_Law_law_1191 (by decide) ?_
  refine lv_iadd hx hb d_Law_law_1192 ?_
  refine mx_sld hx hb hX hbl hh0 hR (v := w 2) (hw9 2 (by decide)) d_Law_law_1193 ?_
  obtain ⟨t5, hw⟩ := hw
  refine mx_calli (va_runV (b := vm) (As := [.int (w 1), .int (w 2)]) (rest := []) ⟨hx, hb, hml, hown, hW⟩ (mt_Mod_rank l D cs Z _ hw) (mx_cwV hW ok_Mod_rank kw_1364 rfl rfl ⟨Nat.le_of_ble_eq_true rfl, Nat.le_of_ble_eq_true rfl⟩) (mx_preV hK hZ hA hR (ci := 8) rfl t5) rfl rfl hl.1 rfl (lv_room (Nat.le_of_ble_eq_true rfl)) d_Law_law_1194 ⟨by show _ ≤ room_1.cells; omega, by show _ ≤ room_1.slots; omega⟩) hR hA (fun r3 h4 H locs hw hR => ?_)
  try dsimp only at hw
  refine lv_istore (i := 6) (lv' := [(6, .int r3), (5, .int r1), (0, va_rf (some v0)), (1, va_rf (some vx)), (2, va_rf (some vm)), (3, va_rf (some vo)), (4, .int x4)]) hx hb d_Law_law_1197 hl (by decide) rfl (fun ls hl => ?_)
  refine mx_aload_n (r := some vm) hx hb d_Law_law_1199 rfl (lv_at hl 4 rfl) ?_
  obtain ⟨t8, hw⟩ := hw
  refine mx_calli (va_runV (b := vm) (As := []) (rest := []) ⟨hx, hb, hml, hown, hW⟩ (mt_Mod_thrown l D cs Z _ hw) (mx_cwV hW ok_Mod_thrown kw_1236 rfl rfl ⟨Nat.le_of_ble_eq_true rfl, Nat.le_of_ble_eq_true rfl⟩) (mx_preV hK hZ hA hR (ci := 8) rfl t8) rfl rfl hl.1 rfl (lv_room (Nat.le_of_ble_eq_true rfl)) d_Law_law_1200 ⟨by show _ ≤ room_1.cells; omega, by show _ ≤ room_1.slots; omega⟩) hR hA (fun r6 h7 H locs hw hR => ?_)
  try dsimp only at hw
  refine lv_iload hx hb d_Law_law_1203 (lv_at hl 1 rfl) ?_
  refine lv_icmp_eq (tgt := 1210) hx hb d_Law_law_1205 (by decide) (fun c9 => ?_) (fun c9 => ?_)
  · have hw := hw.1 c9
    refine lv_iload hx hb d_Law_law_1210 (lv_at hl 1 rfl) ?_
    refine lv_if_ne (tgt := 1234) hx hb d_Law_law_1212 (by decide) (fun c10 => ?_) (fun c10 => ?_)
    · have hw := hw.1 c10
      refine lv_goto (tgt := 1475) hx hb d_Law_law_1234 (by decide) ?_
      refine W.widen (k := cells + 8) (n := slots + 1123) (by omega) (by omega) ?_
      exact kk _ _ _ _ hw (lv_sub hl [2, 3, 4, 5, 6] rfl) hR
    · have hw := hw.2 c10
      refine mx_aload_n (r := some vo) hx hb d_Law_law_1215 rfl (lv_at hl 5 rfl) ?_
      refine lv_iconst (v := 0) hx hb d_Law_law_1216 (by decide) ?_
      obtain ⟨t11, t11i, hw⟩ := hw
      refine mx_lald hx hb hK.1 hR (a := vo) rfl t11 t11i d_Law_law_1217 ?_
      refine lv_iload hx hb d_Law_law_1218 (lv_at hl 0 rfl) ?_
      refine lv_if_eq (tgt := 1227) hx hb d_Law_law_1220 (by decide) (fun c12 => ?_) (fun c12 => ?_)
      · have hw := hw.1 c12
        refine lv_lconst (v := 0) hx hb d_Law_law_1227 (by decide) ?_
        refine W.lcmp hx hb d_Law_law_1228 ?_
        refine lv_if_eq (tgt := 1234) hx hb d_Law_law_1229 (by decide) (fun c13 => ?_) (fun c13 => ?_)
        · have hw := hw.1 c13
          refine lv_goto (tgt := 1475) hx hb d_Law_law_1234 (by decide) ?_
          refine W.widen (k := cells + 8) (n := slots + 1123) (by omega) (by omega) ?_
          exact kk _ _ _ _ hw (lv_sub hl [2, 3, 4, 5, 6] rfl) hR
        · have hw := hw.2 c13
          refine lv_iconst (v := 0) hx hb d_Law_law_1232 (by decide) ?_
          exact hw.elim
      · have hw := hw.2 c12
        refine lv_lconst (v := 1) hx hb d_Law_law_1223 (by decide) ?_
        refine lv_goto (tgt := 1228) hx hb d_Law_law_1224 (by decide) ?_
        refine W.lcmp hx hb d_Law_law_1228 ?_
        refine lv_if_eq (tgt := 1234) hx hb d_Law_law_1229 (by decide) (fun c14 => ?_) (fun c14 => ?_)
        · have hw := hw.1 c14
          refine lv_goto (tgt := 1475) hx hb d_Law_law_1234 (by decide) ?_
          refine W.widen (k := cells + 8) (n := slots + 1123) (by omega) (by omega) ?_
          exact kk _ _ _ _ hw (lv_sub hl [2, 3, 4, 5, 6] rfl) hR
        · have hw := hw.2 c14
          refine lv_iconst (v := 0) hx hb d_Law_law_1232 (by decide) ?_
          exact hw.elim
  · have hw := hw.2 c9
    refine lv_iconst (v := 0) hx hb d_Law_law_1208 (by decide) ?_
    exact hw.elim
set_option maxHeartbeats 4000000 in
set_option maxRecDepth 100000 in
theorem ml_10 {D : va_G} {cs : CS} {Z : Nat → Nat} {h0 : HS} {p : Program} {l : Launch} {e : Env} {s : State} {m : MethodId} {below : List Frame} {meth : Method} {c : Code} {v0 L : Nat} {xs : Nat → Int32} (C : lC l D cs Z h0 p s m meth c v0 L xs) (w : Nat → Int32) (vx vm vo : Nat) (x4 : Int32) (hw9 : ∀ j, j < 10 → vp_in (x4 + Int32.ofNat j) L ∧ xs (x4 + Int32.ofNat j).toNatClampNeg = w j) (K : HS → Prop) (cells slots : Nat) (hc : cells + 8 ≤ room_1.cells) (hs : slots + 1123 ≤ room_1.slots) (kk : ∀ (h : HS) (H : Heap) (locs : List Loc) (ls : Array Slot), K h → lv_has ls 7 [(0, va_rf (some v0)), (1, va_rf (some vx)), (2, va_rf (some vm)), (3, va_rf (some vo)), (4, .int x4)] → mR D cs (fA h0 s.heap.size) h s.heap H locs → W p l e room_1 s m #[Value.ref v0] below meth c H locs (cells + 8) (slots + 1123) (lw_Z below #[Value.ref v0] s) (F0 m 1475 ls [])) : ∀ (h : HS) (H : Heap) (locs : List Loc) (ls : Array Slot), wl_10 Z w vx vm vo K h → lv_has ls 7 [(0, va_rf (some v0)), (1, va_rf (some vx)), (2, va_rf (some vm)), (3, va_rf (some vo)), (4, .int x4)] → mR D cs (fA h0 s.heap.size) h s.heap H locs → W p l e room_1 s m #[Value.ref v0] below meth c H locs cells slots (lw_Z below #[Value.ref v0] s) (F0 m 1237 ls []) := by
  obtain ⟨hx, hb, hr, hml, hown, hW, hlocks, hK, hZ, hX, hbl, hL, hlT, hh0⟩ := id C
  have hA : ∀ q, s.heap.size ≤ q → fA h0 s.heap.size q := fun _ h => Or.inr h
  intro h H locs ls hw hl hR
  unfold wl_10 at hw
  refine mx_aload_n (r := some vx) hx hb d_Law_law_1237 rfl (lv_at hl 1 rfl) ?_
  refine mx_aload_n (r := some v0) hx hb d_Law_law_1238 rfl (lv_at hl 0 rfl) ?_
  refine lv_iload hx hb d_Law_law_1239 (lv_at hl 4 rfl) ?_
  refine lv_iconst (v := 1) hx hb d_Law_law_1241 (by decide) ?_
  refine lv_iadd hx hb d_Law_law_1242 ?_
  refine mx_sld hx hb hX hbl hh0 hR (v := w 1) (hw9 1 (by decide)) d_Law_law_1243 ?_
  refine mx_aload_n (r := some vo) hx hb d_Law_law_1244 rfl (lv_at hl 3 rfl) ?_
  refine mx_calli (mx_runW (As := [va_rf (some vx), .int (w 1), va_rf (some vo)]) (rest := []) hx hb hml hown hW (mt_Law_name l hlT D cs Z _ hw) ok_Law_name kw_1098 rfl rfl ⟨Nat.le_of_ble_eq_true rfl, Nat.le_of_ble_eq_true rfl⟩ (mx_preS hK hZ hA hR) rfl rfl hl.1 rfl (lv_room (Nat.le_of_ble_eq_true rfl)) d_Law_law_1245 ⟨by show _ ≤ room_1.cells; omega, by show _ ≤ room_1.slots; omega⟩) hR hA (fun r1 h2 H locs hw hR => ?_)
  refine W.widen (k := cells + 1) (n := slots + 6) (by omega) (by omega) ?_
  try dsimp only at hw
  refine lv_istore (i := 5) (lv' := [(5, .int r1), (0, va_rf (some v0)), (1, va_rf (some vx)), (2, va_rf (some vm)), (3, va_rf (some vo)), (4, .int x4)]) hx hb d_Law_law_1248 hl (by decide) rfl (fun ls hl => ?_)
  refine mx_aload_n (r := some vm) hx hb d_Law_law_1250 rfl (lv_at hl 3 rfl) ?_
  refine mx_aload_n (r := some v0) hx hb d_Law_law_1251 rfl (lv_at hl 1 rfl) ?_
  refine lv_iload hx hb d_Law_law_1252 (lv_at hl 5 rfl) ?_
  refine lv_iconst (v := 1) hx hb d_Law_law_1254 (by decide) ?_
  refine lv_iadd hx hb d_Law_law_1255 ?_
  refine mx_sld hx hb hX hbl hh0 hR (v := w 1) (hw9 1 (by decide)) d_Law_law_1256 ?_
  obtain ⟨t5, hw⟩ := hw
  refine mx_calli (va_runV (b := vm) (As := [.int (w 1)]) (rest := []) ⟨hx, hb, hml, hown, hW⟩ (mt_Mod_name l D cs Z _ hw) (mx_cwV hW ok_Mod_name kw_1368 rfl rfl ⟨Nat.le_of_ble_eq_true rfl, Nat.le_of_ble_eq_true rfl⟩) (mx_preV hK hZ hA hR (ci := 8) rfl t5) rfl rfl hl.1 rfl (lv_room (Nat.le_of_ble_eq_true rfl)) d_Law_law_1257 ⟨by show _ ≤ room_1.cells; omega, by show _ ≤ room_1.slots; omega⟩) hR hA (fun r3 h4 H locs hw hR => ?_)
  try dsimp only at hw
  refine lv_istore (i := 6) (lv' := [(6, .int r3), (5, .int r1), (0, va_rf (some v0)), (1, va_rf (some vx)), (2, va_rf (some vm)), (3, va_rf (some vo)), (4, .int x4)]) hx hb d_Law_law_1260 hl (by decide) rfl (fun ls hl => ?_)
  refine mx_aload_n (r := some vm) hx hb d_Law_law_1262 rfl (lv_at hl 4 rfl) ?_
  obtain ⟨t8, hw⟩ := hw
  refine mx_calli (va_runV (b := vm) (As := []) (rest := []) ⟨hx, hb, hml, hown, hW⟩ (mt_Mod_thrown l D cs Z _ hw) (mx_cwV hW ok_Mod_thrown kw_1236 rfl rfl ⟨Nat.le_of_ble_eq_true rfl, Nat.le_of_ble_eq_true rfl⟩) (mx_preV hK hZ hA hR (ci := 8) rfl t8) rfl rfl hl.1 rfl (lv_room (Nat.le_of_ble_eq_true rfl)) d_Law_law_1263 ⟨by show _ ≤ room_1.cells; omega, by show _ ≤ room_1.slots; omega⟩) hR hA (fun r6 h7 H locs hw hR => ?_)
  try dsimp only at hw
  refine lv_iload hx hb d_Law_law_1266 (lv_at hl 1 rfl) ?_
  refine lv_icmp_eq (tgt := 1273) hx hb d_Law_law_1268 (by decide) (fun c9 => ?_) (fun c9 => ?_)
  · have hw := hw.1 c9
    refine lv_iload hx hb d_Law_law_1273 (lv_at hl 1 rfl) ?_
    refine lv_if_ne (tgt := 1290) hx hb d_Law_law_1275 (by decide) (fun c10 => ?_) (fun c10 => ?_)
    · have hw := hw.1 c10
      refine lv_goto (tgt := 1475) hx hb d_Law_law_1290 (by decide) ?_
      refine W.widen (k := cells + 8) (n := slots + 1123) (by omega) (by omega) ?_
      exact kk _ _ _ _ hw (lv_sub hl [2, 3, 4, 5, 6] rfl) hR
    · have hw := hw.2 c10
      refine mx_aload_n (r := some vo) hx hb d_Law_law_1278 rfl (lv_at hl 5 rfl) ?_
      refine lv_iconst (v := 0) hx hb d_Law_law_1279 (by decide) ?_
      obtain ⟨t11, t11i, hw⟩ := hw
      refine mx_lald hx hb hK.1 hR (a := vo) rfl t11 t11i d_Law_law_1280 ?_
      refine lv_iload hx hb d_Law_law_1281 (lv_at hl 0 rfl) ?_
      refine lv_i2l hx hb d_Law_law_1283 rfl ?_
      refine W.lcmp hx hb d_Law_law_1284 ?_
      refine lv_if_eq (tgt := 1290) hx hb d_Law_law_1285 (by decide) (fun c12 => ?_) (fun c12 => ?_)
      · have hw := hw.1 c12
        refine lv_goto (tgt := 1475) hx hb d_Law_law_1290 (by decide) ?_
        refine W.widen (k := cells + 8) (n := slots + 1123) (by omega) (by omega) ?_
        exact kk _ _ _ _ hw (lv_sub hl [2, 3, 4, 5, 6] rfl) hR
      · have hw := hw.2 c12
        refine lv_iconst (v := 0) hx hb d_Law_law_1288 (by decide) ?_
        exact hw.elim
  · have hw := hw.2 c9
    refine lv_iconst (v := 0) hx hb d_Law_law_1271 (by decide) ?_
    exact hw.elim
set_option maxHeartbeats 4000000 in
set_option maxRecDepth 100000 in
theorem ml_11 {D : va_G} {cs : CS} {Z : Nat → Nat} {h0 : HS} {p : Program} {l : Launch} {e : Env} {s : State} {m : MethodId} {below : List Frame} {meth : Method} {c : Code} {v0 L : Nat} {xs : Nat → Int32} (C : lC l D cs Z h0 p s m meth c v0 L xs) (w : Nat → Int32) (vx vm vo : Nat) (x4 : Int32) (hw9 : ∀ j, j < 10 → vp_in (x4 + Int32.ofNat j) L ∧ xs (x4 + Int32.ofNat j).toNatClampNeg = w j) (K : HS → Prop) (cells slots : Nat) (hc : cells + 8 ≤ room_1.cells) (hs : slots + 1123 ≤ room_1.slots) (kk : ∀ (h : HS) (H : Heap) (locs : List Loc) (ls : Array Slot), K h → lv_has ls 7 [(0, va_rf (some v0)), (1, va_rf (some vx)), (2, va_rf (some vm)), (3, va_rf (some vo)), (4, .int x4)] → mR D cs (fA h0 s.heap.size) h s.heap H locs → W p l e room_1 s m #[Value.ref v0] below meth c H locs (cells + 8) (slots + 1123) (lw_Z below #[Value.ref v0] s) (F0 m 1475 ls [])) : ∀ (h : HS) (H : Heap) (locs : List Loc) (ls : Array Slot), wl_11 Z w vx vm vo K h → lv_has ls 7 [(0, va_rf (some v0)), (1, va_rf (some vx)), (2, va_rf (some vm)), (3, va_rf (some vo)), (4, .int x4)] → mR D cs (fA h0 s.heap.size) h s.heap H locs → W p l e room_1 s m #[Value.ref v0] below meth c H locs cells slots (lw_Z below #[Value.ref v0] s) (F0 m 1293 ls []) := by
  obtain ⟨hx, hb, hr, hml, hown, hW, hlocks, hK, hZ, hX, hbl, hL, hlT, hh0⟩ := id C
  have hA : ∀ q, s.heap.size ≤ q → fA h0 s.heap.size q := fun _ h => Or.inr h
  intro h H locs ls hw hl hR
  unfold wl_11 at hw
  refine mx_aload_n (r := some vx) hx hb d_Law_law_1293 rfl (lv_at hl 1 rfl) ?_
  refine mx_aload_n (r := some v0) hx hb d_Law_law_1294 rfl (lv_at hl 0 rfl) ?_
  refine lv_iload hx hb d_Law_law_1295 (lv_at hl 4 rfl) ?_
  refine lv_iconst (v := 1) hx hb d_Law_law_1297 (by decide) ?_
  refine lv_iadd hx hb d_Law_law_1298 ?_
  refine mx_sld hx hb hX hbl hh0 hR (v := w 1) (hw9 1 (by decide)) d_Law_law_1299 ?_
  refine mx_aload_n (r := some vo) hx hb d_Law_law_1300 rfl (lv_at hl 3 rfl) ?_
  refine mx_calli (mx_runW (As := [va_rf (some vx), .int (w 1), va_rf (some vo)]) (rest := []) hx hb hml hown hW (mt_Law_drop l hlT D cs Z _ hw) ok_Law_drop kw_1110 rfl rfl ⟨Nat.le_of_ble_eq_true rfl, Nat.le_of_ble_eq_true rfl⟩ (mx_preS hK hZ hA hR) rfl rfl hl.1 rfl (lv_room (Nat.le_of_ble_eq_true rfl)) d_Law_law_1301 ⟨by show _ ≤ room_1.cells; omega, by show _ ≤ room_1.slots; omega⟩) hR hA (fun r1 h2 H locs hw hR => ?_)
  refine W.widen (k := cells + 1) (n := slots + 6) (by omega) (by omega) ?_
  try dsimp only at hw
  refine lv_istore (i := 5) (lv' := [(5, .int r1), (0, va_rf (some v0)), (1, va_rf (some vx)), (2, va_rf (some vm)), (3, va_rf (some vo)), (4, .int x4)]) hx hb d_Law_law_1304 hl (by decide) rfl (fun ls hl => ?_)
  refine mx_aload_n (r := some vm) hx hb d_Law_law_1306 rfl (lv_at hl 3 rfl) ?_
  refine mx_aload_n (r := some v0) hx hb d_Law_law_1307 rfl (lv_at hl 1 rfl) ?_
  refine lv_iload hx hb d_Law_law_1308 (lv_at hl 5 rfl) ?_
  refine lv_iconst (v := 1) hx hb d_Law_law_1310 (by decide) ?_
  refine lv_iadd hx hb d_Law_law_1311 ?_
  refine mx_sld hx hb hX hbl hh0 hR (v := w 1) (hw9 1 (by decide)) d_Law_law_1312 ?_
  obtain ⟨t5, hw⟩ := hw
  refine mx_calli (va_runV (b := vm) (As := [.int (w 1)]) (rest := []) ⟨hx, hb, hml, hown, hW⟩ (mt_Mod_drop l D cs Z _ hw) (mx_cwV hW ok_Mod_drop kw_1348 rfl rfl ⟨Nat.le_of_ble_eq_true rfl, Nat.le_of_ble_eq_true rfl⟩) (mx_preV hK hZ hA hR (ci := 8) rfl t5) rfl rfl hl.1 rfl (lv_room (Nat.le_of_ble_eq_true rfl)) d_Law_law_1313 ⟨by show _ ≤ room_1.cells; omega, by show _ ≤ room_1.slots; omega⟩) hR hA (fun r3 h4 H locs hw hR => ?_)
  try dsimp only at hw
  refine lv_istore (i := 6) (lv' := [(6, .int r3), (5, .int r1), (0, va_rf (some v0)), (1, va_rf (some vx)), (2, va_rf (some vm)), (3, va_rf (some vo)), (4, .int x4)]) hx hb d_Law_law_1316 hl (by decide) rfl (fun ls hl => ?_)
  refine mx_aload_n (r := some vm) hx hb d_Law_law_1318 rfl (lv_at hl 4 rfl) ?_
  obtain ⟨t8, hw⟩ := hw
  refine mx_calli (va_runV (b := vm) (As := []) (rest := []) ⟨hx, hb, hml, hown, hW⟩ (mt_Mod_thrown l D cs Z _ hw) (mx_cwV hW ok_Mod_thrown kw_1236 rfl rfl ⟨Nat.le_of_ble_eq_true rfl, Nat.le_of_ble_eq_true rfl⟩) (mx_preV hK hZ hA hR (ci := 8) rfl t8) rfl rfl hl.1 rfl (lv_room (Nat.le_of_ble_eq_true rfl)) d_Law_law_1319 ⟨by show _ ≤ room_1.cells; omega, by show _ ≤ room_1.slots; omega⟩) hR hA (fun r6 h7 H locs hw hR => ?_)
  try dsimp only at hw
  refine lv_iload hx hb d_Law_law_1322 (lv_at hl 1 rfl) ?_
  refine lv_icmp_eq (tgt := 1329) hx hb d_Law_law_1324 (by decide) (fun c9 => ?_) (fun c9 => ?_)
  · have hw := hw.1 c9
    refine lv_iload hx hb d_Law_law_1329 (lv_at hl 1 rfl) ?_
    refine lv_if_ne (tgt := 1346) hx hb d_Law_law_1331 (by decide) (fun c10 => ?_) (fun c10 => ?_)
    · have hw := hw.1 c10
      refine lv_goto (tgt := 1475) hx hb d_Law_law_1346 (by decide) ?_
      refine W.widen (k := cells + 8) (n := slots + 1123) (by omega) (by omega) ?_
      exact kk _ _ _ _ hw (lv_sub hl [2, 3, 4, 5, 6] rfl) hR
    · have hw := hw.2 c10
      refine mx_aload_n (r := some vo) hx hb d_Law_law_1334 rfl (lv_at hl 5 rfl) ?_
      refine lv_iconst (v := 0) hx hb d_Law_law_1335 (by decide) ?_
      obtain ⟨t11, t11i, hw⟩ := hw
      refine mx_lald hx hb hK.1 hR (a := vo) rfl t11 t11i d_Law_law_1336 ?_
      refine lv_iload hx hb d_Law_law_1337 (lv_at hl 0 rfl) ?_
      refine lv_i2l hx hb d_Law_law_1339 rfl ?_
      refine W.lcmp hx hb d_Law_law_1340 ?_
      refine lv_if_eq (tgt := 1346) hx hb d_Law_law_1341 (by decide) (fun c12 => ?_) (fun c12 => ?_)
      · have hw := hw.1 c12
        refine lv_goto (tgt := 1475) hx hb d_Law_law_1346 (by decide) ?_
        refine W.widen (k := cells + 8) (n := slots + 1123) (by omega) (by omega) ?_
        exact kk _ _ _ _ hw (lv_sub hl [2, 3, 4, 5, 6] rfl) hR
      · have hw := hw.2 c12
        refine lv_iconst (v := 0) hx hb d_Law_law_1344 (by decide) ?_
        exact hw.elim
  · have hw := hw.2 c9
    refine lv_iconst (v := 0) hx hb d_Law_law_1327 (by decide) ?_
    exact hw.elim
set_option maxHeartbeats 4000000 in
set_option maxRecDepth 100000 in
theorem ml_12 {D : va_G} {cs : CS} {Z : Nat → Nat} {h0 : HS} {p : Program} {l : Launch} {e : Env} {s : State} {m : MethodId} {below : List Frame} {meth : Method} {c : Code} {v0 L : Nat} {xs : Nat → Int32} (C : lC l D cs Z h0 p s m meth c v0 L xs) (w : Nat → Int32) (vx vm vo : Nat) (x4 : Int32) (hw9 : ∀ j, j < 10 → vp_in (x4 + Int32.ofNat j) L ∧ xs (x4 + Int32.ofNat j).toNatClampNeg = w j) (K : HS → Prop) (cells slots : Nat) (hc : cells + 8 ≤ room_1.cells) (hs : slots + 1123 ≤ room_1.slots) (kk : ∀ (h : HS) (H : Heap) (locs : List Loc) (ls : Array Slot), K h → lv_has ls 7 [(0, va_rf (some v0)), (1, va_rf (some vx)), (2, va_rf (some vm)), (3, va_rf (some vo)), (4, .int x4)] → mR D cs (fA h0 s.heap.size) h s.heap H locs → W p l e room_1 s m #[Value.ref v0] below meth c H locs (cells + 8) (slots + 1123) (lw_Z below #[Value.ref v0] s) (F0 m 1475 ls [])) : ∀ (h : HS) (H : Heap) (locs : List Loc) (ls : Array Slot), wl_12 Z w vx vm vo K h → lv_has ls 7 [(0, va_rf (some v0)), (1, va_rf (some vx)), (2, va_rf (some vm)), (3, va_rf (some vo)), (4, .int x4)] → mR D cs (fA h0 s.heap.size) h s.heap H locs → W p l e room_1 s m #[Value.ref v0] below meth c H locs cells slots (lw_Z below #[Value.ref v0] s) (F0 m 1349 ls []) := by
  obtain ⟨hx, hb, hr, hml, hown, hW, hlocks, hK, hZ, hX, hbl, hL, hlT, hh0⟩ := id C
  have hA : ∀ q, s.heap.size ≤ q → fA h0 s.heap.size q := fun _ h => Or.inr h
  intro h H locs ls hw hl hR
  unfold wl_12 at hw
  refine mx_aload_n (r := some vx) hx hb d_Law_law_1349 rfl (lv_at hl 1 rfl) ?_
  refine mx_aload_n (r := some v0) hx hb d_Law_law_1350 rfl (lv_at hl 0 rfl) ?_
  refine lv_iload hx hb d_Law_law_1351 (lv_at hl 4 rfl) ?_
  refine lv_iconst (v := 1) hx hb d_Law_law_1353 (by decide) ?_
  refine lv_iadd hx hb d_Law_law_1354 ?_
  refine mx_sld hx hb hX hbl hh0 hR (v := w 1) (hw9 1 (by decide)) d_Law_law_1355 ?_
  refine mx_aload_n (r := some vo) hx hb d_Law_law_1356 rfl (lv_at hl 3 rfl) ?_
  refine mx_calli (mx_runW (As := [va_rf (some vx), .int (w 1), va_rf (some vo)]) (rest := []) hx hb hml hown hW (mt_Law_open l hlT D cs Z _ hw) ok_Law_open kw_1122 rfl rfl ⟨Nat.le_of_ble_eq_true rfl, Nat.le_of_ble_eq_true rfl⟩ (mx_preS hK hZ hA hR) rfl rfl hl.1 rfl (lv_room (Nat.le_of_ble_eq_true rfl)) d_Law_law_1357 ⟨by show _ ≤ room_1.cells; omega, by show _ ≤ room_1.slots; omega⟩) hR hA (fun r1 h2 H locs hw hR => ?_)
  refine W.widen (k := cells + 1) (n := slots + 6) (by omega) (by omega) ?_
  try dsimp only at hw
  refine lv_istore (i := 5) (lv' := [(5, .int r1), (0, va_rf (some v0)), (1, va_rf (some vx)), (2, va_rf (some vm)), (3, va_rf (some vo)), (4, .int x4)]) hx hb d_Law_law_1360 hl (by decide) rfl (fun ls hl => ?_)
  refine mx_aload_n (r := some vm) hx hb d_Law_law_1362 rfl (lv_at hl 3 rfl) ?_
  refine mx_aload_n (r := some v0) hx hb d_Law_law_1363 rfl (lv_at hl 1 rfl) ?_
  refine lv_iload hx hb d_Law_law_1364 (lv_at hl 5 rfl) ?_
  refine lv_iconst (v := 1) hx hb d_Law_law_1366 (by decide) ?_
  refine lv_iadd hx hb d_Law_law_1367 ?_
  refine mx_sld hx hb hX hbl hh0 hR (v := w 1) (hw9 1 (by decide)) d_Law_law_1368 ?_
  obtain ⟨t5, hw⟩ := hw
  refine mx_calli (va_runV (b := vm) (As := [.int (w 1)]) (rest := []) ⟨hx, hb, hml, hown, hW⟩ (mt_Mod_open l D cs Z _ hw) (mx_cwV hW ok_Mod_open kw_1380 rfl rfl ⟨Nat.le_of_ble_eq_true rfl, Nat.le_of_ble_eq_true rfl⟩) (mx_preV hK hZ hA hR (ci := 8) rfl t5) rfl rfl hl.1 rfl (lv_room (Nat.le_of_ble_eq_true rfl)) d_Law_law_1369 ⟨by show _ ≤ room_1.cells; omega, by show _ ≤ room_1.slots; omega⟩) hR hA (fun r3 h4 H locs hw hR => ?_)
  try dsimp only at hw
  refine lv_istore (i := 6) (lv' := [(6, .int r3), (5, .int r1), (0, va_rf (some v0)), (1, va_rf (some vx)), (2, va_rf (some vm)), (3, va_rf (some vo)), (4, .int x4)]) hx hb d_Law_law_1372 hl (by decide) rfl (fun ls hl => ?_)
  refine mx_aload_n (r := some vm) hx hb d_Law_law_1374 rfl (lv_at hl 4 rfl) ?_
  obtain ⟨t8, hw⟩ := hw
  refine mx_calli (va_runV (b := vm) (As := []) (rest := []) ⟨hx, hb, hml, hown, hW⟩ (mt_Mod_thrown l D cs Z _ hw) (mx_cwV hW ok_Mod_thrown kw_1236 rfl rfl ⟨Nat.le_of_ble_eq_true rfl, Nat.le_of_ble_eq_true rfl⟩) (mx_preV hK hZ hA hR (ci := 8) rfl t8) rfl rfl hl.1 rfl (lv_room (Nat.le_of_ble_eq_true rfl)) d_Law_law_1375 ⟨by show _ ≤ room_1.cells; omega, by show _ ≤ room_1.slots; omega⟩) hR hA (fun r6 h7 H locs hw hR => ?_)
  try dsimp only at hw
  refine lv_iload hx hb d_Law_law_1378 (lv_at hl 1 rfl) ?_
  refine lv_icmp_eq (tgt := 1385) hx hb d_Law_law_1380 (by decide) (fun c9 => ?_) (fun c9 => ?_)
  · have hw := hw.1 c9
    refine lv_iload hx hb d_Law_law_1385 (lv_at hl 1 rfl) ?_
    refine lv_if_ne (tgt := 1409) hx hb d_Law_law_1387 (by decide) (fun c10 => ?_) (fun c10 => ?_)
    · have hw := hw.1 c10
      refine lv_goto (tgt := 1475) hx hb d_Law_law_1409 (by decide) ?_
      refine W.widen (k := cells + 8) (n := slots + 1123) (by omega) (by omega) ?_
      exact kk _ _ _ _ hw (lv_sub hl [2, 3, 4, 5, 6] rfl) hR
    · have hw := hw.2 c10
      refine mx_aload_n (r := some vo) hx hb d_Law_law_1390 rfl (lv_at hl 5 rfl) ?_
      refine lv_iconst (v := 0) hx hb d_Law_law_1391 (by decide) ?_
      obtain ⟨t11, t11i, hw⟩ := hw
      refine mx_lald hx hb hK.1 hR (a := vo) rfl t11 t11i d_Law_law_1392 ?_
      refine lv_iload hx hb d_Law_law_1393 (lv_at hl 0 rfl) ?_
      refine lv_if_eq (tgt := 1402) hx hb d_Law_law_1395 (by decide) (fun c12 => ?_) (fun c12 => ?_)
      · have hw := hw.1 c12
        refine lv_lconst (v := 0) hx hb d_Law_law_1402 (by decide) ?_
        refine W.lcmp hx hb d_Law_law_1403 ?_
        refine lv_if_eq (tgt := 1409) hx hb d_Law_law_1404 (by decide) (fun c13 => ?_) (fun c13 => ?_)
        · have hw := hw.1 c13
          refine lv_goto (tgt := 1475) hx hb d_Law_law_1409 (by decide) ?_
          refine W.widen (k := cells + 8) (n := slots + 1123) (by omega) (by omega) ?_
          exact kk _ _ _ _ hw (lv_sub hl [2, 3, 4, 5, 6] rfl) hR
        · have hw := hw.2 c13
          refine lv_iconst (v := 0) hx hb d_Law_law_1407 (by decide) ?_
          exact hw.elim
      · have hw := hw.2 c12
        refine lv_lconst (v := 1) hx hb d_Law_law_1398 (by decide) ?_
        refine lv_goto (tgt := 1403) hx hb d_Law_law_1399 (by decide) ?_
        refine W.lcmp hx hb d_Law_law_1403 ?_
        refine lv_if_eq (tgt := 1409) hx hb d_Law_law_1404 (by decide) (fun c14 => ?_) (fun c14 => ?_)
        · have hw := hw.1 c14
          refine lv_goto (tgt := 1475) hx hb d_Law_law_1409 (by decide) ?_
          refine W.widen (k := cells + 8) (n := slots + 1123) (by omega) (by omega) ?_
          exact kk _ _ _ _ hw (lv_sub hl [2, 3, 4, 5, 6] rfl) hR
        · have hw := hw.2 c14
          refine lv_iconst (v := 0) hx hb d_Law_law_1407 (by decide) ?_
          exact hw.elim
  · have hw := hw.2 c9
    refine lv_iconst (v := 0) hx hb d_Law_law_1383 (by decide) ?_
    exact hw.elim
set_option maxHeartbeats 4000000 in
set_option maxRecDepth 100000 in
theorem ml_13 {D : va_G} {cs : CS} {Z : Nat → Nat} {h0 : HS} {p : Program} {l : Launch} {e : Env} {s : State} {m : MethodId} {below : List Frame} {meth : Method} {c : Code} {v0 L : Nat} {xs : Nat → Int32} (C : lC l D cs Z h0 p s m meth c v0 L xs) (w : Nat → Int32) (vx vm vo : Nat) (x4 : Int32) (hw9 : ∀ j, j < 10 → vp_in (x4 + Int32.ofNat j) L ∧ xs (x4 + Int32.ofNat j).toNatClampNeg = w j) (K : HS → Prop) (cells slots : Nat) (hc : cells + 8 ≤ room_1.cells) (hs : slots + 1123 ≤ room_1.slots) (kk : ∀ (h : HS) (H : Heap) (locs : List Loc) (ls : Array Slot), K h → lv_has ls 7 [(0, va_rf (some v0)), (1, va_rf (some vx)), (2, va_rf (some vm)), (3, va_rf (some vo)), (4, .int x4)] → mR D cs (fA h0 s.heap.size) h s.heap H locs → W p l e room_1 s m #[Value.ref v0] below meth c H locs (cells + 8) (slots + 1123) (lw_Z below #[Value.ref v0] s) (F0 m 1475 ls [])) : ∀ (h : HS) (H : Heap) (locs : List Loc) (ls : Array Slot), wl_13 Z w vx vm vo K h → lv_has ls 7 [(0, va_rf (some v0)), (1, va_rf (some vx)), (2, va_rf (some vm)), (3, va_rf (some vo)), (4, .int x4)] → mR D cs (fA h0 s.heap.size) h s.heap H locs → W p l e room_1 s m #[Value.ref v0] below meth c H locs cells slots (lw_Z below #[Value.ref v0] s) (F0 m 1412 ls []) := by
  obtain ⟨hx, hb, hr, hml, hown, hW, hlocks, hK, hZ, hX, hbl, hL, hlT, hh0⟩ := id C
  have hA : ∀ q, s.heap.size ≤ q → fA h0 s.heap.size q := fun _ h => Or.inr h
  intro h H locs ls hw hl hR
  unfold wl_13 at hw
  refine mx_aload_n (r := some vx) hx hb d_Law_law_1412 rfl (lv_at hl 1 rfl) ?_
  refine mx_aload_n (r := some v0) hx hb d_Law_law_1413 rfl (lv_at hl 0 rfl) ?_
  refine lv_iload hx hb d_Law_law_1414 (lv_at hl 4 rfl) ?_
  refine lv_iconst (v := 1) hx hb d_Law_law_1416 (by decide) ?_
  refine lv_iadd hx hb d_Law_law_1417 ?_
  refine mx_sld hx hb hX hbl hh0 hR (v := w 1) (hw9 1 (by decide)) d_Law_law_1418 ?_
  obtain ⟨t3, hw⟩ := hw
  refine mx_calli (va_runV (b := vx) (As := [.int (w 1)]) (rest := []) ⟨hx, hb, hml, hown, hW⟩ (mt_NJ_told l D cs Z _ hw) (mx_cwV hW ok_NJ_told kw_179 rfl rfl ⟨Nat.le_of_ble_eq_true rfl, Nat.le_of_ble_eq_true rfl⟩) (mx_preV hK hZ hA hR (ci := 0) rfl t3) rfl rfl hl.1 rfl (lv_room (Nat.le_of_ble_eq_true rfl)) d_Law_law_1419 ⟨by show _ ≤ room_1.cells; omega, by show _ ≤ room_1.slots; omega⟩) hR hA (fun r1 h2 H locs hw hR => ?_)
  try dsimp only at hw
  refine mx_aload_n (r := some vm) hx hb d_Law_law_1422 rfl (lv_at hl 2 rfl) ?_
  refine mx_aload_n (r := some v0) hx hb d_Law_law_1423 rfl (lv_at hl 0 rfl) ?_
  refine lv_iload hx hb d_Law_law_1424 (lv_at hl 4 rfl) ?_
  refine lv_iconst (v := 1) hx hb d_Law_law_1426 (by decide) ?_
  refine lv_iadd hx hb d_Law_law_1427 ?_
  refine mx_sld hx hb hX hbl hh0 hR (v := w 1) (hw9 1 (by decide)) d_Law_law_1428 ?_
  obtain ⟨t6, hw⟩ := hw
  refine mx_calli (va_runV (b := vm) (As := [.int (w 1)]) (rest := [.int r1]) ⟨hx, hb, hml, hown, hW⟩ (mt_Mod_told l D cs Z _ hw) (mx_cwV hW ok_Mod_told kw_1384 rfl rfl ⟨Nat.le_of_ble_eq_true rfl, Nat.le_of_ble_eq_true rfl⟩) (mx_preV hK hZ hA hR (ci := 8) rfl t6) rfl rfl hl.1 rfl (lv_room (Nat.le_of_ble_eq_true rfl)) d_Law_law_1429 ⟨by show _ ≤ room_1.cells; omega, by show _ ≤ room_1.slots; omega⟩) hR hA (fun r4 h5 H locs hw hR => ?_)
  try dsimp only at hw
  refine lv_icmp_eq (tgt := 1475) hx hb d_Law_law_1432 (by decide) (fun c7 => ?_) (fun c7 => ?_)
  · have hw := hw.1 c7
    refine W.widen (k := cells + 8) (n := slots + 1123) (by omega) (by omega) ?_
    exact kk _ _ _ _ hw (lv_sub hl [0, 1, 2, 3, 4] rfl) hR
  · have hw := hw.2 c7
    refine lv_iconst (v := 0) hx hb d_Law_law_1435 (by decide) ?_
    exact hw.elim
set_option maxHeartbeats 4000000 in
set_option maxRecDepth 100000 in
theorem ml_14 {D : va_G} {cs : CS} {Z : Nat → Nat} {h0 : HS} {p : Program} {l : Launch} {e : Env} {s : State} {m : MethodId} {below : List Frame} {meth : Method} {c : Code} {v0 L : Nat} {xs : Nat → Int32} (C : lC l D cs Z h0 p s m meth c v0 L xs) (w : Nat → Int32) (vx vm vo : Nat) (x4 : Int32) (hw9 : ∀ j, j < 10 → vp_in (x4 + Int32.ofNat j) L ∧ xs (x4 + Int32.ofNat j).toNatClampNeg = w j) (K : HS → Prop) (cells slots : Nat) (hc : cells + 8 ≤ room_1.cells) (hs : slots + 1123 ≤ room_1.slots) (kk : ∀ (h : HS) (H : Heap) (locs : List Loc) (ls : Array Slot), K h → lv_has ls 7 [(0, va_rf (some v0)), (1, va_rf (some vx)), (2, va_rf (some vm)), (3, va_rf (some vo)), (4, .int x4)] → mR D cs (fA h0 s.heap.size) h s.heap H locs → W p l e room_1 s m #[Value.ref v0] below meth c H locs (cells + 8) (slots + 1123) (lw_Z below #[Value.ref v0] s) (F0 m 1475 ls [])) : ∀ (h : HS) (H : Heap) (locs : List Loc) (ls : Array Slot), wl_14 Z w vx vm vo K h → lv_has ls 7 [(0, va_rf (some v0)), (1, va_rf (some vx)), (2, va_rf (some vm)), (3, va_rf (some vo)), (4, .int x4)] → mR D cs (fA h0 s.heap.size) h s.heap H locs → W p l e room_1 s m #[Value.ref v0] below meth c H locs cells slots (lw_Z below #[Value.ref v0] s) (F0 m 1437 ls []) := by
  obtain ⟨hx, hb, hr, hml, hown, hW, hlocks, hK, hZ, hX, hbl, hL, hlT, hh0⟩ := id C
  have hA : ∀ q, s.heap.size ≤ q → fA h0 s.heap.size q := fun _ h => Or.inr h
  intro h H locs ls hw hl hR
  unfold wl_14 at hw
  refine mx_aload_n (r := some vx) hx hb d_Law_law_1437 rfl (lv_at hl 1 rfl) ?_
  obtain ⟨t3, hw⟩ := hw
  refine mx_calli (va_runV (b := vx) (As := []) (rest := []) ⟨hx, hb, hml, hown, hW⟩ (mt_NJ_same l D cs Z _ hw) (mx_cwV hW ok_NJ_same kw_287 rfl rfl ⟨Nat.le_of_ble_eq_true rfl, Nat.le_of_ble_eq_true rfl⟩) (mx_preV hK hZ hA hR (ci := 0) rfl t3) rfl rfl hl.1 rfl (lv_room (Nat.le_of_ble_eq_true rfl)) d_Law_law_1438 ⟨by show _ ≤ room_1.cells; omega, by show _ ≤ room_1.slots; omega⟩) hR hA (fun r1 h2 H locs hw hR => ?_)
  try dsimp only at hw
  refine mx_aload_n (r := some vm) hx hb d_Law_law_1441 rfl (lv_at hl 2 rfl) ?_
  obtain ⟨t6, hw⟩ := hw
  refine mx_calli (va_runV (b := vm) (As := []) (rest := [.int r1]) ⟨hx, hb, hml, hown, hW⟩ (mt_Mod_same l D cs Z _ hw) (mx_cwV hW ok_Mod_same kw_1398 rfl rfl ⟨Nat.le_of_ble_eq_true rfl, Nat.le_of_ble_eq_true rfl⟩) (mx_preV hK hZ hA hR (ci := 8) rfl t6) rfl rfl hl.1 rfl (lv_room (Nat.le_of_ble_eq_true rfl)) d_Law_law_1442 ⟨by show _ ≤ room_1.cells; omega, by show _ ≤ room_1.slots; omega⟩) hR hA (fun r4 h5 H locs hw hR => ?_)
  try dsimp only at hw
  refine lv_icmp_eq (tgt := 1475) hx hb d_Law_law_1445 (by decide) (fun c7 => ?_) (fun c7 => ?_)
  · have hw := hw.1 c7
    refine W.widen (k := cells + 8) (n := slots + 1123) (by omega) (by omega) ?_
    exact kk _ _ _ _ hw (lv_sub hl [0, 1, 2, 3, 4] rfl) hR
  · have hw := hw.2 c7
    refine lv_iconst (v := 0) hx hb d_Law_law_1448 (by decide) ?_
    exact hw.elim
set_option maxHeartbeats 4000000 in
set_option maxRecDepth 100000 in
theorem ml_15 {D : va_G} {cs : CS} {Z : Nat → Nat} {h0 : HS} {p : Program} {l : Launch} {e : Env} {s : State} {m : MethodId} {below : List Frame} {meth : Method} {c : Code} {v0 L : Nat} {xs : Nat → Int32} (C : lC l D cs Z h0 p s m meth c v0 L xs) (w : Nat → Int32) (vx vm vo : Nat) (x4 : Int32) (hw9 : ∀ j, j < 10 → vp_in (x4 + Int32.ofNat j) L ∧ xs (x4 + Int32.ofNat j).toNatClampNeg = w j) (K : HS → Prop) (cells slots : Nat) (hc : cells + 8 ≤ room_1.cells) (hs : slots + 1123 ≤ room_1.slots) (kk : ∀ (h : HS) (H : Heap) (locs : List Loc) (ls : Array Slot), K h → lv_has ls 7 [(0, va_rf (some v0)), (1, va_rf (some vx)), (2, va_rf (some vm)), (3, va_rf (some vo)), (4, .int x4)] → mR D cs (fA h0 s.heap.size) h s.heap H locs → W p l e room_1 s m #[Value.ref v0] below meth c H locs (cells + 8) (slots + 1123) (lw_Z below #[Value.ref v0] s) (F0 m 1475 ls [])) : ∀ (h : HS) (H : Heap) (locs : List Loc) (ls : Array Slot), wl_15 Z w vx vm vo K h → lv_has ls 7 [(0, va_rf (some v0)), (1, va_rf (some vx)), (2, va_rf (some vm)), (3, va_rf (some vo)), (4, .int x4)] → mR D cs (fA h0 s.heap.size) h s.heap H locs → W p l e room_1 s m #[Value.ref v0] below meth c H locs cells slots (lw_Z below #[Value.ref v0] s) (F0 m 1450 ls []) := by
  obtain ⟨hx, hb, hr, hml, hown, hW, hlocks, hK, hZ, hX, hbl, hL, hlT, hh0⟩ := id C
  have hA : ∀ q, s.heap.size ≤ q → fA h0 s.heap.size q := fun _ h => Or.inr h
  intro h H locs ls hw hl hR
  unfold wl_15 at hw
  refine mx_aload_n (r := some vx) hx hb d_Law_law_1450 rfl (lv_at hl 1 rfl) ?_
  refine mx_aload_n (r := some v0) hx hb d_Law_law_1451 rfl (lv_at hl 0 rfl) ?_
  refine lv_iload hx hb d_Law_law_1452 (lv_at hl 4 rfl) ?_
  refine lv_iconst (v := 1) hx hb d_Law_law_1454 (by decide) ?_
  refine lv_iadd hx hb d_Law_law_1455 ?_
  refine mx_sld hx hb hX hbl hh0 hR (v := w 1) (hw9 1 (by decide)) d_Law_law_1456 ?_
  obtain ⟨t3, hw⟩ := hw
  refine mx_calli (va_runV (b := vx) (As := [.int (w 1)]) (rest := []) ⟨hx, hb, hml, hown, hW⟩ (mt_NJ_changed l D cs Z _ hw) (mx_cwV hW ok_NJ_changed kw_407 rfl rfl ⟨Nat.le_of_ble_eq_true rfl, Nat.le_of_ble_eq_true rfl⟩) (mx_preV hK hZ hA hR (ci := 0) rfl t3) rfl rfl hl.1 rfl (lv_room (Nat.le_of_ble_eq_true rfl)) d_Law_law_1457 ⟨by show _ ≤ room_1.cells; omega, by show _ ≤ room_1.slots; omega⟩) hR hA (fun r1 h2 H locs hw hR => ?_)
  try dsimp only at hw
  refine mx_aload_n (r := some vm) hx hb d_Law_law_1460 rfl (lv_at hl 2 rfl) ?_
  refine mx_aload_n (r := some v0) hx hb d_Law_law_1461 rfl (lv_at hl 0 rfl) ?_
  refine lv_iload hx hb d_Law_law_1462 (lv_at hl 4 rfl) ?_
  refine lv_iconst (v := 1) hx hb d_Law_law_1464 (by decide) ?_
  refine lv_iadd hx hb d_Law_law_1465 ?_
  refine mx_sld hx hb hX hbl hh0 hR (v := w 1) (hw9 1 (by decide)) d_Law_law_1466 ?_
  obtain ⟨t6, hw⟩ := hw
  refine mx_calli (va_runV (b := vm) (As := [.int (w 1)]) (rest := [.int r1]) ⟨hx, hb, hml, hown, hW⟩ (mt_Mod_changed l D cs Z _ hw) (mx_cwV hW ok_Mod_changed kw_1402 rfl rfl ⟨Nat.le_of_ble_eq_true rfl, Nat.le_of_ble_eq_true rfl⟩) (mx_preV hK hZ hA hR (ci := 8) rfl t6) rfl rfl hl.1 rfl (lv_room (Nat.le_of_ble_eq_true rfl)) d_Law_law_1467 ⟨by show _ ≤ room_1.cells; omega, by show _ ≤ room_1.slots; omega⟩) hR hA (fun r4 h5 H locs hw hR => ?_)
  try dsimp only at hw
  refine lv_icmp_eq (tgt := 1475) hx hb d_Law_law_1470 (by decide) (fun c7 => ?_) (fun c7 => ?_)
  · have hw := hw.1 c7
    refine W.widen (k := cells + 8) (n := slots + 1123) (by omega) (by omega) ?_
    exact kk _ _ _ _ hw (lv_sub hl [0, 1, 2, 3, 4] rfl) hR
  · have hw := hw.2 c7
    refine lv_iconst (v := 0) hx hb d_Law_law_1473 (by decide) ?_
    exact hw.elim
