set_option maxHeartbeats 4000000 in
set_option maxRecDepth 100000 in
theorem hL_law_c0 {p : Program} {e : Env} {s : State} {m : MethodId} {below : List Frame} {meth : Method} {c : Code} (l : Launch) (hst : l.stackTraces = false) {b L : Nat} {xs : Nat → Int32} (C0 : lw_At p s m meth c b L xs) (D : va_G) (cy : Nat → ClassId) (ad : Nat → Nat) (tL z0 : Nat) (hz0 : z0 = s.heap.size) (hI : gI z0 ad) (hK : gK D cy tL z0 s s.heap) (n : Nat) (k : Nat) (ih : (∀ (v : gV) (u : Int64) (x4 : Int32) (H : Heap) (locs : List Loc) (cells slots : Nat) (ls : Array Slot), va_P D vwCl (gW cy ad v u) H → va_S (gA z0) s.heap H locs → lv_has ls 7 [(0, .ref b), (1, .ref (ad 0)), (2, .ref (ad 81)), (3, .ref (ad 89)), (4, .int x4)] → (cells + k ≤ 601000 ∧ slots + 6 * k ≤ 7290000) → sL_law_23 n xs L k v u x4 = some 1 → W p l e room_1 s m #[Value.ref b] below meth c H locs cells slots (lw_Z below #[Value.ref b] s) (F0 m 23 ls []))) (v : gV) (u : Int64) (x4 : Int32) (hs : sL_law_c0 n xs L (sL_law_23 n xs L k) v u x4 = some 1) (H : Heap) (locs : List Loc) (cells slots : Nat) (ls : Array Slot) (hP : va_P D vwCl (gW cy ad v u) H) (hS : va_S (gA z0) s.heap H locs) (hl : lv_has ls 7 [(0, .ref b), (1, .ref (ad 0)), (2, .ref (ad 81)), (3, .ref (ad 89)), (4, .int x4)]) (hcs : cells + (k + 1) ≤ 601000 ∧ slots + 6 * (k + 1) ≤ 7290000) : W p l e room_1 s m #[Value.ref b] below meth c H locs cells slots (lw_Z below #[Value.ref b] s) (F0 m 160 ls []) := by
  obtain ⟨hx, hb, hr, hml, hown, hts0, hX, hbl, hlocks, hgv⟩ := C0
  have hts : ∀ w ∈ lw_tbl, w.before #[Value.ref b] s = true := hts0
  have hbA : ¬ gA z0 b := by rw [hz0]; exact Nat.not_le.mpr hbl
  unfold sL_law_c0 at hs
  refine lv_aload_n hx hb dL_law_160 rfl (lv_at hl 1 rfl) ?_
  refine lv_aload_n hx hb dL_law_161 rfl (lv_at hl 0 rfl) ?_
  refine lv_iload hx hb dL_law_162 (lv_at hl 4 rfl) ?_
  refine lv_iconst (v := 1) hx hb dL_law_164 (by decide) ?_
  refine lv_iadd hx hb dL_law_165 ?_
  refine g_chk hs (fun hc hs => ?_)
  refine va_sld hx hb hX hbl hbA hS hc dL_law_166 ?_
  refine lv_aload_n hx hb dL_law_167 rfl (lv_at hl 0 rfl) ?_
  refine lv_iload hx hb dL_law_168 (lv_at hl 4 rfl) ?_
  refine lv_iconst (v := 2) hx hb dL_law_170 (by decide) ?_
  refine lv_iadd hx hb dL_law_171 ?_
  refine g_chk hs (fun hc hs => ?_)
  refine va_sld hx hb hX hbl hbA hS hc dL_law_172 ?_
  refine lv_aload_n hx hb dL_law_173 rfl (lv_at hl 0 rfl) ?_
  refine lv_iload hx hb dL_law_174 (lv_at hl 4 rfl) ?_
  refine lv_iconst (v := 3) hx hb dL_law_176 (by decide) ?_
  refine lv_iadd hx hb dL_law_177 ?_
  refine g_chk hs (fun hc hs => ?_)
  refine va_sld hx hb hX hbl hbA hS hc dL_law_178 ?_
  refine lv_aload_n hx hb dL_law_179 rfl (lv_at hl 3 rfl) ?_
  refine g_bind hs (fun q_1 hq_1 hs => ?_)
  refine gCW (As := [.ref (ad 0), .int (xs (x4 + 1).toNatClampNeg), .int (xs (x4 + 2).toNatClampNeg), .int (xs (x4 + 3).toNatClampNeg), .ref (ad 89)]) (rest := []) ⟨hx, hb, hml, hown, hts⟩ (cL_addObject_c l hst D cy ad tL z0 hI n v u (xs (x4 + 1).toNatClampNeg) (xs (x4 + 2).toNatClampNeg) (xs (x4 + 3).toNatClampNeg) q_1.1 q_1.2.1 q_1.2.2 hq_1) (vx_cwSW 5 hts gL_law_L_addObject rfl rfl rfl (by decide +kernel) ⟨Nat.le_of_ble_eq_true rfl, Nat.le_of_ble_eq_true rfl⟩) hK hP hS hl.1 rfl rfl (Nat.le_of_ble_eq_true rfl) dL_law_180 ⟨show _ ≤ 601024 by omega, show _ ≤ 7293034 by omega⟩ (fun H locs hP hS => ?_)
  refine lv_istore (lv' := [(5, .int q_1.1), (0, .ref b), (1, .ref (ad 0)), (2, .ref (ad 81)), (3, .ref (ad 89)), (4, .int x4)]) hx hb dL_law_183 hl (by decide) rfl (fun ls hl => ?_)
  refine lv_aload_n hx hb dL_law_185 rfl (lv_at hl 3 rfl) ?_
  refine lv_aload_n hx hb dL_law_186 rfl (lv_at hl 1 rfl) ?_
  refine lv_iload hx hb dL_law_187 (lv_at hl 5 rfl) ?_
  refine lv_iconst (v := 1) hx hb dL_law_189 (by decide) ?_
  refine lv_iadd hx hb dL_law_190 ?_
  refine g_chk hs (fun hc hs => ?_)
  refine va_sld hx hb hX hbl hbA hS hc dL_law_191 ?_
  refine lv_aload_n hx hb dL_law_192 rfl (lv_at hl 1 rfl) ?_
  refine lv_iload hx hb dL_law_193 (lv_at hl 5 rfl) ?_
  refine lv_iconst (v := 2) hx hb dL_law_195 (by decide) ?_
  refine lv_iadd hx hb dL_law_196 ?_
  refine g_chk hs (fun hc hs => ?_)
  refine va_sld hx hb hX hbl hbA hS hc dL_law_197 ?_
  refine lv_aload_n hx hb dL_law_198 rfl (lv_at hl 1 rfl) ?_
  refine lv_iload hx hb dL_law_199 (lv_at hl 5 rfl) ?_
  refine lv_iconst (v := 3) hx hb dL_law_201 (by decide) ?_
  refine lv_iadd hx hb dL_law_202 ?_
  refine g_chk hs (fun hc hs => ?_)
  refine va_sld hx hb hX hbl hbA hS hc dL_law_203 ?_
  refine g_bind hs (fun q_2 hq_2 hs => ?_)
  refine gCV_i (As := [.int (xs (x4 + 1).toNatClampNeg), .int (xs (x4 + 2).toNatClampNeg), .int (xs (x4 + 3).toNatClampNeg)]) (rest := []) ⟨hx, hb, hml, hown, hts⟩ (cX6_addObject_c l D cy ad tL z0 hI n q_1.2.1 q_1.2.2 (xs (x4 + 1).toNatClampNeg) (xs (x4 + 2).toNatClampNeg) (xs (x4 + 3).toNatClampNeg) q_2.1 q_2.2 hq_2) (cwV 3 hts gL_law_X6_addObject rfl rfl rfl (by decide +kernel) ⟨Nat.le_of_ble_eq_true rfl, Nat.le_of_ble_eq_true rfl⟩) hK hP hS (va_recv hK.1 hP (ci := 6) (q0 := 81) rfl (gW_6 kd81)) hl.1 rfl rfl (Nat.le_of_ble_eq_true rfl) dL_law_204 ⟨show _ ≤ 601024 by omega, show _ ≤ 7293034 by omega⟩ (fun H locs hP hS => ?_)
  refine lv_istore (lv' := [(6, .int q_2.1), (5, .int q_1.1), (0, .ref b), (1, .ref (ad 0)), (2, .ref (ad 81)), (3, .ref (ad 89)), (4, .int x4)]) hx hb dL_law_207 hl (by decide) rfl (fun ls hl => ?_)
  refine lv_aload_n hx hb dL_law_209 rfl (lv_at hl 4 rfl) ?_
  refine g_bind hs (fun q_3 hq_3 hs => ?_)
  refine gCV_i (As := []) (rest := []) ⟨hx, hb, hml, hown, hts⟩ (cX6_thrown_c l D cy ad tL z0 hI q_2.2 q_1.2.2 q_3 hq_3) (cwV 0 hts gL_law_X6_thrown rfl rfl rfl (by decide +kernel) ⟨Nat.le_of_ble_eq_true rfl, Nat.le_of_ble_eq_true rfl⟩) hK hP hS (va_recv hK.1 hP (ci := 6) (q0 := 81) rfl (gW_6 kd81)) hl.1 rfl rfl (Nat.le_of_ble_eq_true rfl) dL_law_210 ⟨show _ ≤ 601024 by omega, show _ ≤ 7293034 by omega⟩ (fun H locs hP hS => ?_)
  refine lv_iload hx hb dL_law_213 (lv_at hl 1 rfl) ?_
  refine lv_icmp_eq (tgt := 220) hx hb dL_law_215 (by decide) (fun hc => ?_) (fun hc => ?_)
  · have hs := g_t hs hc
    refine lv_iload hx hb dL_law_220 (lv_at hl 1 rfl) ?_
    refine lv_if_ne (tgt := 237) hx hb dL_law_222 (by decide) (fun hc => ?_) (fun hc => ?_)
    · have hs := g_f hs hc
      refine lv_goto (tgt := 1121) hx hb dL_law_237 (by decide) ?_
      refine lv_iinc (v := x4 + 4) (lv' := [(4, .int (x4 + 4)), (6, .int q_2.1), (5, .int q_1.1), (0, .ref b), (1, .ref (ad 0)), (2, .ref (ad 81)), (3, .ref (ad 89))]) hx hb dL_law_1121 hl (k := 6) rfl rfl (by decide) rfl (fun ls hl => ?_)
      refine lv_goto (tgt := 23) hx hb dL_law_1124 (by decide) ?_
      exact ih q_2.2 q_1.2.2 (x4 + 4) _ _ _ _ _ hP hS (lv_sub hl [3, 4, 5, 6, 0] rfl) (by omega) hs
    · have hs := g_t hs hc
      refine lv_aload_n hx hb dL_law_225 rfl (lv_at hl 5 rfl) ?_
      refine lv_iconst (v := 0) hx hb dL_law_226 (by decide) ?_
      refine gLald hx hb hK hP dL_law_227 ?_
      refine lv_iload hx hb dL_law_228 (lv_at hl 0 rfl) ?_
      refine lv_i2l hx hb dL_law_230 rfl ?_
      refine W.lcmp hx hb dL_law_231 ?_
      refine lv_if_eq (tgt := 237) hx hb dL_law_232 (by decide) (fun hc => ?_) (fun hc => ?_)
      · have hs := g_t hs hc
        refine lv_goto (tgt := 1121) hx hb dL_law_237 (by decide) ?_
        refine lv_iinc (v := x4 + 4) (lv' := [(4, .int (x4 + 4)), (6, .int q_2.1), (5, .int q_1.1), (0, .ref b), (1, .ref (ad 0)), (2, .ref (ad 81)), (3, .ref (ad 89))]) hx hb dL_law_1121 hl (k := 6) rfl rfl (by decide) rfl (fun ls hl => ?_)
        refine lv_goto (tgt := 23) hx hb dL_law_1124 (by decide) ?_
        exact ih q_2.2 q_1.2.2 (x4 + 4) _ _ _ _ _ hP hS (lv_sub hl [3, 4, 5, 6, 0] rfl) (by omega) hs
      · have hs := g_f hs hc
        refine lv_iconst (v := 0) hx hb dL_law_235 (by decide) ?_
        exact absurd (g_some hs) (by decide)
  · have hs := g_f hs hc
    refine lv_iconst (v := 0) hx hb dL_law_218 (by decide) ?_
    exact absurd (g_some hs) (by decide)
set_option maxHeartbeats 4000000 in
set_option maxRecDepth 100000 in
theorem hL_law_c1 {p : Program} {e : Env} {s : State} {m : MethodId} {below : List Frame} {meth : Method} {c : Code} (l : Launch) (hst : l.stackTraces = false) {b L : Nat} {xs : Nat → Int32} (C0 : lw_At p s m meth c b L xs) (D : va_G) (cy : Nat → ClassId) (ad : Nat → Nat) (tL z0 : Nat) (hz0 : z0 = s.heap.size) (hI : gI z0 ad) (hK : gK D cy tL z0 s s.heap) (n : Nat) (k : Nat) (ih : (∀ (v : gV) (u : Int64) (x4 : Int32) (H : Heap) (locs : List Loc) (cells slots : Nat) (ls : Array Slot), va_P D vwCl (gW cy ad v u) H → va_S (gA z0) s.heap H locs → lv_has ls 7 [(0, .ref b), (1, .ref (ad 0)), (2, .ref (ad 81)), (3, .ref (ad 89)), (4, .int x4)] → (cells + k ≤ 601000 ∧ slots + 6 * k ≤ 7290000) → sL_law_23 n xs L k v u x4 = some 1 → W p l e room_1 s m #[Value.ref b] below meth c H locs cells slots (lw_Z below #[Value.ref b] s) (F0 m 23 ls []))) (v : gV) (u : Int64) (x4 : Int32) (hs : sL_law_c1 n xs L (sL_law_23 n xs L k) v u x4 = some 1) (H : Heap) (locs : List Loc) (cells slots : Nat) (ls : Array Slot) (hP : va_P D vwCl (gW cy ad v u) H) (hS : va_S (gA z0) s.heap H locs) (hl : lv_has ls 7 [(0, .ref b), (1, .ref (ad 0)), (2, .ref (ad 81)), (3, .ref (ad 89)), (4, .int x4)]) (hcs : cells + (k + 1) ≤ 601000 ∧ slots + 6 * (k + 1) ≤ 7290000) : W p l e room_1 s m #[Value.ref b] below meth c H locs cells slots (lw_Z below #[Value.ref b] s) (F0 m 240 ls []) := by
  obtain ⟨hx, hb, hr, hml, hown, hts0, hX, hbl, hlocks, hgv⟩ := C0
  have hts : ∀ w ∈ lw_tbl, w.before #[Value.ref b] s = true := hts0
  have hbA : ¬ gA z0 b := by rw [hz0]; exact Nat.not_le.mpr hbl
  unfold sL_law_c1 at hs
  refine lv_aload_n hx hb dL_law_240 rfl (lv_at hl 1 rfl) ?_
  refine lv_aload_n hx hb dL_law_241 rfl (lv_at hl 0 rfl) ?_
  refine lv_iload hx hb dL_law_242 (lv_at hl 4 rfl) ?_
  refine lv_iconst (v := 1) hx hb dL_law_244 (by decide) ?_
  refine lv_iadd hx hb dL_law_245 ?_
  refine g_chk hs (fun hc hs => ?_)
  refine va_sld hx hb hX hbl hbA hS hc dL_law_246 ?_
  refine lv_aload_n hx hb dL_law_247 rfl (lv_at hl 3 rfl) ?_
  refine g_bind hs (fun q_1 hq_1 hs => ?_)
  refine gCW (As := [.ref (ad 0), .int (xs (x4 + 1).toNatClampNeg), .ref (ad 89)]) (rest := []) ⟨hx, hb, hml, hown, hts⟩ (cL_moveTo_c l hst D cy ad tL z0 hI n v u (xs (x4 + 1).toNatClampNeg) q_1.1 q_1.2.1 q_1.2.2 hq_1) (vx_cwSW 3 hts gL_law_L_moveTo rfl rfl rfl (by decide +kernel) ⟨Nat.le_of_ble_eq_true rfl, Nat.le_of_ble_eq_true rfl⟩) hK hP hS hl.1 rfl rfl (Nat.le_of_ble_eq_true rfl) dL_law_248 ⟨show _ ≤ 601024 by omega, show _ ≤ 7293034 by omega⟩ (fun H locs hP hS => ?_)
  refine lv_istore (lv' := [(5, .int q_1.1), (0, .ref b), (1, .ref (ad 0)), (2, .ref (ad 81)), (3, .ref (ad 89)), (4, .int x4)]) hx hb dL_law_251 hl (by decide) rfl (fun ls hl => ?_)
  refine lv_aload_n hx hb dL_law_253 rfl (lv_at hl 3 rfl) ?_
  refine lv_aload_n hx hb dL_law_254 rfl (lv_at hl 1 rfl) ?_
  refine lv_iload hx hb dL_law_255 (lv_at hl 5 rfl) ?_
  refine lv_iconst (v := 1) hx hb dL_law_257 (by decide) ?_
  refine lv_iadd hx hb dL_law_258 ?_
  refine g_chk hs (fun hc hs => ?_)
  refine va_sld hx hb hX hbl hbA hS hc dL_law_259 ?_
  refine g_bind hs (fun q_2 hq_2 hs => ?_)
  refine gCV_i (As := [.int (xs (x4 + 1).toNatClampNeg)]) (rest := []) ⟨hx, hb, hml, hown, hts⟩ (cX6_moveTo_c l D cy ad tL z0 hI n q_1.2.1 q_1.2.2 (xs (x4 + 1).toNatClampNeg) q_2.1 q_2.2 hq_2) (cwV 1 hts gL_law_X6_moveTo rfl rfl rfl (by decide +kernel) ⟨Nat.le_of_ble_eq_true rfl, Nat.le_of_ble_eq_true rfl⟩) hK hP hS (va_recv hK.1 hP (ci := 6) (q0 := 81) rfl (gW_6 kd81)) hl.1 rfl rfl (Nat.le_of_ble_eq_true rfl) dL_law_260 ⟨show _ ≤ 601024 by omega, show _ ≤ 7293034 by omega⟩ (fun H locs hP hS => ?_)
  refine lv_istore (lv' := [(6, .int q_2.1), (5, .int q_1.1), (0, .ref b), (1, .ref (ad 0)), (2, .ref (ad 81)), (3, .ref (ad 89)), (4, .int x4)]) hx hb dL_law_263 hl (by decide) rfl (fun ls hl => ?_)
  refine lv_aload_n hx hb dL_law_265 rfl (lv_at hl 4 rfl) ?_
  refine g_bind hs (fun q_3 hq_3 hs => ?_)
  refine gCV_i (As := []) (rest := []) ⟨hx, hb, hml, hown, hts⟩ (cX6_thrown_c l D cy ad tL z0 hI q_2.2 q_1.2.2 q_3 hq_3) (cwV 0 hts gL_law_X6_thrown rfl rfl rfl (by decide +kernel) ⟨Nat.le_of_ble_eq_true rfl, Nat.le_of_ble_eq_true rfl⟩) hK hP hS (va_recv hK.1 hP (ci := 6) (q0 := 81) rfl (gW_6 kd81)) hl.1 rfl rfl (Nat.le_of_ble_eq_true rfl) dL_law_266 ⟨show _ ≤ 601024 by omega, show _ ≤ 7293034 by omega⟩ (fun H locs hP hS => ?_)
  refine lv_iload hx hb dL_law_269 (lv_at hl 1 rfl) ?_
  refine lv_icmp_eq (tgt := 276) hx hb dL_law_271 (by decide) (fun hc => ?_) (fun hc => ?_)
  · have hs := g_t hs hc
    refine lv_iload hx hb dL_law_276 (lv_at hl 1 rfl) ?_
    refine lv_if_ne (tgt := 293) hx hb dL_law_278 (by decide) (fun hc => ?_) (fun hc => ?_)
    · have hs := g_f hs hc
      refine lv_goto (tgt := 1121) hx hb dL_law_293 (by decide) ?_
      refine lv_iinc (v := x4 + 4) (lv' := [(4, .int (x4 + 4)), (6, .int q_2.1), (5, .int q_1.1), (0, .ref b), (1, .ref (ad 0)), (2, .ref (ad 81)), (3, .ref (ad 89))]) hx hb dL_law_1121 hl (k := 6) rfl rfl (by decide) rfl (fun ls hl => ?_)
      refine lv_goto (tgt := 23) hx hb dL_law_1124 (by decide) ?_
      exact ih q_2.2 q_1.2.2 (x4 + 4) _ _ _ _ _ hP hS (lv_sub hl [3, 4, 5, 6, 0] rfl) (by omega) hs
    · have hs := g_t hs hc
      refine lv_aload_n hx hb dL_law_281 rfl (lv_at hl 5 rfl) ?_
      refine lv_iconst (v := 0) hx hb dL_law_282 (by decide) ?_
      refine gLald hx hb hK hP dL_law_283 ?_
      refine lv_iload hx hb dL_law_284 (lv_at hl 0 rfl) ?_
      refine lv_i2l hx hb dL_law_286 rfl ?_
      refine W.lcmp hx hb dL_law_287 ?_
      refine lv_if_eq (tgt := 293) hx hb dL_law_288 (by decide) (fun hc => ?_) (fun hc => ?_)
      · have hs := g_t hs hc
        refine lv_goto (tgt := 1121) hx hb dL_law_293 (by decide) ?_
        refine lv_iinc (v := x4 + 4) (lv' := [(4, .int (x4 + 4)), (6, .int q_2.1), (5, .int q_1.1), (0, .ref b), (1, .ref (ad 0)), (2, .ref (ad 81)), (3, .ref (ad 89))]) hx hb dL_law_1121 hl (k := 6) rfl rfl (by decide) rfl (fun ls hl => ?_)
        refine lv_goto (tgt := 23) hx hb dL_law_1124 (by decide) ?_
        exact ih q_2.2 q_1.2.2 (x4 + 4) _ _ _ _ _ hP hS (lv_sub hl [3, 4, 5, 6, 0] rfl) (by omega) hs
      · have hs := g_f hs hc
        refine lv_iconst (v := 0) hx hb dL_law_291 (by decide) ?_
        exact absurd (g_some hs) (by decide)
  · have hs := g_f hs hc
    refine lv_iconst (v := 0) hx hb dL_law_274 (by decide) ?_
    exact absurd (g_some hs) (by decide)
set_option maxHeartbeats 4000000 in
set_option maxRecDepth 100000 in
theorem hL_law_c2 {p : Program} {e : Env} {s : State} {m : MethodId} {below : List Frame} {meth : Method} {c : Code} (l : Launch) (hst : l.stackTraces = false) {b L : Nat} {xs : Nat → Int32} (C0 : lw_At p s m meth c b L xs) (D : va_G) (cy : Nat → ClassId) (ad : Nat → Nat) (tL z0 : Nat) (hz0 : z0 = s.heap.size) (hI : gI z0 ad) (hK : gK D cy tL z0 s s.heap) (n : Nat) (k : Nat) (ih : (∀ (v : gV) (u : Int64) (x4 : Int32) (H : Heap) (locs : List Loc) (cells slots : Nat) (ls : Array Slot), va_P D vwCl (gW cy ad v u) H → va_S (gA z0) s.heap H locs → lv_has ls 7 [(0, .ref b), (1, .ref (ad 0)), (2, .ref (ad 81)), (3, .ref (ad 89)), (4, .int x4)] → (cells + k ≤ 601000 ∧ slots + 6 * k ≤ 7290000) → sL_law_23 n xs L k v u x4 = some 1 → W p l e room_1 s m #[Value.ref b] below meth c H locs cells slots (lw_Z below #[Value.ref b] s) (F0 m 23 ls []))) (v : gV) (u : Int64) (x4 : Int32) (hs : sL_law_c2 n xs L (sL_law_23 n xs L k) v u x4 = some 1) (H : Heap) (locs : List Loc) (cells slots : Nat) (ls : Array Slot) (hP : va_P D vwCl (gW cy ad v u) H) (hS : va_S (gA z0) s.heap H locs) (hl : lv_has ls 7 [(0, .ref b), (1, .ref (ad 0)), (2, .ref (ad 81)), (3, .ref (ad 89)), (4, .int x4)]) (hcs : cells + (k + 1) ≤ 601000 ∧ slots + 6 * (k + 1) ≤ 7290000) : W p l e room_1 s m #[Value.ref b] below meth c H locs cells slots (lw_Z below #[Value.ref b] s) (F0 m 296 ls []) := by
  obtain ⟨hx, hb, hr, hml, hown, hts0, hX, hbl, hlocks, hgv⟩ := C0
  have hts : ∀ w ∈ lw_tbl, w.before #[Value.ref b] s = true := hts0
  have hbA : ¬ gA z0 b := by rw [hz0]; exact Nat.not_le.mpr hbl
  unfold sL_law_c2 at hs
  refine lv_aload_n hx hb dL_law_296 rfl (lv_at hl 1 rfl) ?_
  refine g_bind hs (fun q_1 hq_1 hs => ?_)
  refine gCV_i (As := []) (rest := []) ⟨hx, hb, hml, hown, hts⟩ (cX5_objects_c l D cy ad tL z0 hI v u q_1 hq_1) (cwV 0 hts gL_law_X5_objects rfl rfl rfl (by decide +kernel) ⟨Nat.le_of_ble_eq_true rfl, Nat.le_of_ble_eq_true rfl⟩) hK hP hS (va_recv hK.1 hP (ci := 5) (q0 := 0) rfl (gW_5 kd0)) hl.1 rfl rfl (Nat.le_of_ble_eq_true rfl) dL_law_297 ⟨show _ ≤ 601024 by omega, show _ ≤ 7293034 by omega⟩ (fun H locs hP hS => ?_)
  refine lv_aload_n hx hb dL_law_300 rfl (lv_at hl 2 rfl) ?_
  refine g_bind hs (fun q_2 hq_2 hs => ?_)
  refine gCV_i (As := []) (rest := [.int q_1]) ⟨hx, hb, hml, hown, hts⟩ (cX6_objects_c l D cy ad tL z0 hI v u q_2.1 q_2.2 hq_2) (cwV 0 hts gL_law_X6_objects rfl rfl rfl (by decide +kernel) ⟨Nat.le_of_ble_eq_true rfl, Nat.le_of_ble_eq_true rfl⟩) hK hP hS (va_recv hK.1 hP (ci := 6) (q0 := 81) rfl (gW_6 kd81)) hl.1 rfl rfl (Nat.le_of_ble_eq_true rfl) dL_law_301 ⟨show _ ≤ 601024 by omega, show _ ≤ 7293034 by omega⟩ (fun H locs hP hS => ?_)
  refine lv_icmp_eq (tgt := 1121) hx hb dL_law_304 (by decide) (fun hc => ?_) (fun hc => ?_)
  · have hs := g_t hs hc
    refine lv_iinc (v := x4 + 4) (lv' := [(4, .int (x4 + 4)), (0, .ref b), (1, .ref (ad 0)), (2, .ref (ad 81)), (3, .ref (ad 89))]) hx hb dL_law_1121 hl (k := 4) rfl rfl (by decide) rfl (fun ls hl => ?_)
    refine lv_goto (tgt := 23) hx hb dL_law_1124 (by decide) ?_
    exact ih q_2.2 u (x4 + 4) _ _ _ _ _ hP hS (lv_sub hl [1, 2, 3, 4, 0] rfl) (by omega) hs
  · have hs := g_f hs hc
    refine lv_iconst (v := 0) hx hb dL_law_307 (by decide) ?_
    exact absurd (g_some hs) (by decide)
set_option maxHeartbeats 4000000 in
set_option maxRecDepth 100000 in
theorem hL_law_c3 {p : Program} {e : Env} {s : State} {m : MethodId} {below : List Frame} {meth : Method} {c : Code} (l : Launch) (hst : l.stackTraces = false) {b L : Nat} {xs : Nat → Int32} (C0 : lw_At p s m meth c b L xs) (D : va_G) (cy : Nat → ClassId) (ad : Nat → Nat) (tL z0 : Nat) (hz0 : z0 = s.heap.size) (hI : gI z0 ad) (hK : gK D cy tL z0 s s.heap) (n : Nat) (k : Nat) (ih : (∀ (v : gV) (u : Int64) (x4 : Int32) (H : Heap) (locs : List Loc) (cells slots : Nat) (ls : Array Slot), va_P D vwCl (gW cy ad v u) H → va_S (gA z0) s.heap H locs → lv_has ls 7 [(0, .ref b), (1, .ref (ad 0)), (2, .ref (ad 81)), (3, .ref (ad 89)), (4, .int x4)] → (cells + k ≤ 601000 ∧ slots + 6 * k ≤ 7290000) → sL_law_23 n xs L k v u x4 = some 1 → W p l e room_1 s m #[Value.ref b] below meth c H locs cells slots (lw_Z below #[Value.ref b] s) (F0 m 23 ls []))) (v : gV) (u : Int64) (x4 : Int32) (hs : sL_law_c3 n xs L (sL_law_23 n xs L k) v u x4 = some 1) (H : Heap) (locs : List Loc) (cells slots : Nat) (ls : Array Slot) (hP : va_P D vwCl (gW cy ad v u) H) (hS : va_S (gA z0) s.heap H locs) (hl : lv_has ls 7 [(0, .ref b), (1, .ref (ad 0)), (2, .ref (ad 81)), (3, .ref (ad 89)), (4, .int x4)]) (hcs : cells + (k + 1) ≤ 601000 ∧ slots + 6 * (k + 1) ≤ 7290000) : W p l e room_1 s m #[Value.ref b] below meth c H locs cells slots (lw_Z below #[Value.ref b] s) (F0 m 309 ls []) := by
  obtain ⟨hx, hb, hr, hml, hown, hts0, hX, hbl, hlocks, hgv⟩ := C0
  have hts : ∀ w ∈ lw_tbl, w.before #[Value.ref b] s = true := hts0
  have hbA : ¬ gA z0 b := by rw [hz0]; exact Nat.not_le.mpr hbl
  unfold sL_law_c3 at hs
  refine lv_aload_n hx hb dL_law_309 rfl (lv_at hl 1 rfl) ?_
  refine lv_aload_n hx hb dL_law_310 rfl (lv_at hl 0 rfl) ?_
  refine lv_iload hx hb dL_law_311 (lv_at hl 4 rfl) ?_
  refine lv_iconst (v := 1) hx hb dL_law_313 (by decide) ?_
  refine lv_iadd hx hb dL_law_314 ?_
  refine g_chk hs (fun hc hs => ?_)
  refine va_sld hx hb hX hbl hbA hS hc dL_law_315 ?_
  refine lv_aload_n hx hb dL_law_316 rfl (lv_at hl 3 rfl) ?_
  refine g_bind hs (fun q_1 hq_1 hs => ?_)
  refine gCW (As := [.ref (ad 0), .int (xs (x4 + 1).toNatClampNeg), .ref (ad 89)]) (rest := []) ⟨hx, hb, hml, hown, hts⟩ (cL_noun_c l hst D cy ad tL z0 hI v u (xs (x4 + 1).toNatClampNeg) q_1.1 q_1.2.1 q_1.2.2 hq_1) (vx_cwSW 3 hts gL_law_L_noun rfl rfl rfl (by decide +kernel) ⟨Nat.le_of_ble_eq_true rfl, Nat.le_of_ble_eq_true rfl⟩) hK hP hS hl.1 rfl rfl (Nat.le_of_ble_eq_true rfl) dL_law_317 ⟨show _ ≤ 601024 by omega, show _ ≤ 7293034 by omega⟩ (fun H locs hP hS => ?_)
  refine lv_istore (lv' := [(5, .int q_1.1), (0, .ref b), (1, .ref (ad 0)), (2, .ref (ad 81)), (3, .ref (ad 89)), (4, .int x4)]) hx hb dL_law_320 hl (by decide) rfl (fun ls hl => ?_)
  refine lv_aload_n hx hb dL_law_322 rfl (lv_at hl 3 rfl) ?_
  refine lv_aload_n hx hb dL_law_323 rfl (lv_at hl 1 rfl) ?_
  refine lv_iload hx hb dL_law_324 (lv_at hl 5 rfl) ?_
  refine lv_iconst (v := 1) hx hb dL_law_326 (by decide) ?_
  refine lv_iadd hx hb dL_law_327 ?_
  refine g_chk hs (fun hc hs => ?_)
  refine va_sld hx hb hX hbl hbA hS hc dL_law_328 ?_
  refine g_bind hs (fun q_2 hq_2 hs => ?_)
  refine gCV_i (As := [.int (xs (x4 + 1).toNatClampNeg)]) (rest := []) ⟨hx, hb, hml, hown, hts⟩ (cX6_noun_c l D cy ad tL z0 hI q_1.2.1 q_1.2.2 (xs (x4 + 1).toNatClampNeg) q_2.1 q_2.2 hq_2) (cwV 1 hts gL_law_X6_noun rfl rfl rfl (by decide +kernel) ⟨Nat.le_of_ble_eq_true rfl, Nat.le_of_ble_eq_true rfl⟩) hK hP hS (va_recv hK.1 hP (ci := 6) (q0 := 81) rfl (gW_6 kd81)) hl.1 rfl rfl (Nat.le_of_ble_eq_true rfl) dL_law_329 ⟨show _ ≤ 601024 by omega, show _ ≤ 7293034 by omega⟩ (fun H locs hP hS => ?_)
  refine lv_istore (lv' := [(6, .int q_2.1), (5, .int q_1.1), (0, .ref b), (1, .ref (ad 0)), (2, .ref (ad 81)), (3, .ref (ad 89)), (4, .int x4)]) hx hb dL_law_332 hl (by decide) rfl (fun ls hl => ?_)
  refine lv_aload_n hx hb dL_law_334 rfl (lv_at hl 4 rfl) ?_
  refine g_bind hs (fun q_3 hq_3 hs => ?_)
  refine gCV_i (As := []) (rest := []) ⟨hx, hb, hml, hown, hts⟩ (cX6_thrown_c l D cy ad tL z0 hI q_2.2 q_1.2.2 q_3 hq_3) (cwV 0 hts gL_law_X6_thrown rfl rfl rfl (by decide +kernel) ⟨Nat.le_of_ble_eq_true rfl, Nat.le_of_ble_eq_true rfl⟩) hK hP hS (va_recv hK.1 hP (ci := 6) (q0 := 81) rfl (gW_6 kd81)) hl.1 rfl rfl (Nat.le_of_ble_eq_true rfl) dL_law_335 ⟨show _ ≤ 601024 by omega, show _ ≤ 7293034 by omega⟩ (fun H locs hP hS => ?_)
  refine lv_iload hx hb dL_law_338 (lv_at hl 1 rfl) ?_
  refine lv_icmp_eq (tgt := 345) hx hb dL_law_340 (by decide) (fun hc => ?_) (fun hc => ?_)
  · have hs := g_t hs hc
    refine lv_iload hx hb dL_law_345 (lv_at hl 1 rfl) ?_
    refine lv_if_ne (tgt := 362) hx hb dL_law_347 (by decide) (fun hc => ?_) (fun hc => ?_)
    · have hs := g_f hs hc
      refine lv_goto (tgt := 1121) hx hb dL_law_362 (by decide) ?_
      refine lv_iinc (v := x4 + 4) (lv' := [(4, .int (x4 + 4)), (6, .int q_2.1), (5, .int q_1.1), (0, .ref b), (1, .ref (ad 0)), (2, .ref (ad 81)), (3, .ref (ad 89))]) hx hb dL_law_1121 hl (k := 6) rfl rfl (by decide) rfl (fun ls hl => ?_)
      refine lv_goto (tgt := 23) hx hb dL_law_1124 (by decide) ?_
      exact ih q_2.2 q_1.2.2 (x4 + 4) _ _ _ _ _ hP hS (lv_sub hl [3, 4, 5, 6, 0] rfl) (by omega) hs
    · have hs := g_t hs hc
      refine lv_aload_n hx hb dL_law_350 rfl (lv_at hl 5 rfl) ?_
      refine lv_iconst (v := 0) hx hb dL_law_351 (by decide) ?_
      refine gLald hx hb hK hP dL_law_352 ?_
      refine lv_iload hx hb dL_law_353 (lv_at hl 0 rfl) ?_
      refine lv_i2l hx hb dL_law_355 rfl ?_
      refine W.lcmp hx hb dL_law_356 ?_
      refine lv_if_eq (tgt := 362) hx hb dL_law_357 (by decide) (fun hc => ?_) (fun hc => ?_)
      · have hs := g_t hs hc
        refine lv_goto (tgt := 1121) hx hb dL_law_362 (by decide) ?_
        refine lv_iinc (v := x4 + 4) (lv' := [(4, .int (x4 + 4)), (6, .int q_2.1), (5, .int q_1.1), (0, .ref b), (1, .ref (ad 0)), (2, .ref (ad 81)), (3, .ref (ad 89))]) hx hb dL_law_1121 hl (k := 6) rfl rfl (by decide) rfl (fun ls hl => ?_)
        refine lv_goto (tgt := 23) hx hb dL_law_1124 (by decide) ?_
        exact ih q_2.2 q_1.2.2 (x4 + 4) _ _ _ _ _ hP hS (lv_sub hl [3, 4, 5, 6, 0] rfl) (by omega) hs
      · have hs := g_f hs hc
        refine lv_iconst (v := 0) hx hb dL_law_360 (by decide) ?_
        exact absurd (g_some hs) (by decide)
  · have hs := g_f hs hc
    refine lv_iconst (v := 0) hx hb dL_law_343 (by decide) ?_
    exact absurd (g_some hs) (by decide)
set_option maxHeartbeats 4000000 in
set_option maxRecDepth 100000 in
theorem hL_law_c4 {p : Program} {e : Env} {s : State} {m : MethodId} {below : List Frame} {meth : Method} {c : Code} (l : Launch) (hst : l.stackTraces = false) {b L : Nat} {xs : Nat → Int32} (C0 : lw_At p s m meth c b L xs) (D : va_G) (cy : Nat → ClassId) (ad : Nat → Nat) (tL z0 : Nat) (hz0 : z0 = s.heap.size) (hI : gI z0 ad) (hK : gK D cy tL z0 s s.heap) (n : Nat) (k : Nat) (ih : (∀ (v : gV) (u : Int64) (x4 : Int32) (H : Heap) (locs : List Loc) (cells slots : Nat) (ls : Array Slot), va_P D vwCl (gW cy ad v u) H → va_S (gA z0) s.heap H locs → lv_has ls 7 [(0, .ref b), (1, .ref (ad 0)), (2, .ref (ad 81)), (3, .ref (ad 89)), (4, .int x4)] → (cells + k ≤ 601000 ∧ slots + 6 * k ≤ 7290000) → sL_law_23 n xs L k v u x4 = some 1 → W p l e room_1 s m #[Value.ref b] below meth c H locs cells slots (lw_Z below #[Value.ref b] s) (F0 m 23 ls []))) (v : gV) (u : Int64) (x4 : Int32) (hs : sL_law_c4 n xs L (sL_law_23 n xs L k) v u x4 = some 1) (H : Heap) (locs : List Loc) (cells slots : Nat) (ls : Array Slot) (hP : va_P D vwCl (gW cy ad v u) H) (hS : va_S (gA z0) s.heap H locs) (hl : lv_has ls 7 [(0, .ref b), (1, .ref (ad 0)), (2, .ref (ad 81)), (3, .ref (ad 89)), (4, .int x4)]) (hcs : cells + (k + 1) ≤ 601000 ∧ slots + 6 * (k + 1) ≤ 7290000) : W p l e room_1 s m #[Value.ref b] below meth c H locs cells slots (lw_Z below #[Value.ref b] s) (F0 m 365 ls []) := by
  obtain ⟨hx, hb, hr, hml, hown, hts0, hX, hbl, hlocks, hgv⟩ := C0
  have hts : ∀ w ∈ lw_tbl, w.before #[Value.ref b] s = true := hts0
  have hbA : ¬ gA z0 b := by rw [hz0]; exact Nat.not_le.mpr hbl
  unfold sL_law_c4 at hs
  refine lv_aload_n hx hb dL_law_365 rfl (lv_at hl 1 rfl) ?_
  refine lv_aload_n hx hb dL_law_366 rfl (lv_at hl 0 rfl) ?_
  refine lv_iload hx hb dL_law_367 (lv_at hl 4 rfl) ?_
  refine lv_iconst (v := 1) hx hb dL_law_369 (by decide) ?_
  refine lv_iadd hx hb dL_law_370 ?_
  refine g_chk hs (fun hc hs => ?_)
  refine va_sld hx hb hX hbl hbA hS hc dL_law_371 ?_
  refine lv_aload_n hx hb dL_law_372 rfl (lv_at hl 3 rfl) ?_
  refine g_bind hs (fun q_1 hq_1 hs => ?_)
  refine gCW (As := [.ref (ad 0), .int (xs (x4 + 1).toNatClampNeg), .ref (ad 89)]) (rest := []) ⟨hx, hb, hml, hown, hts⟩ (cL_adjective_c l hst D cy ad tL z0 hI v u (xs (x4 + 1).toNatClampNeg) q_1.1 q_1.2.1 q_1.2.2 hq_1) (vx_cwSW 3 hts gL_law_L_adjective rfl rfl rfl (by decide +kernel) ⟨Nat.le_of_ble_eq_true rfl, Nat.le_of_ble_eq_true rfl⟩) hK hP hS hl.1 rfl rfl (Nat.le_of_ble_eq_true rfl) dL_law_373 ⟨show _ ≤ 601024 by omega, show _ ≤ 7293034 by omega⟩ (fun H locs hP hS => ?_)
  refine lv_istore (lv' := [(5, .int q_1.1), (0, .ref b), (1, .ref (ad 0)), (2, .ref (ad 81)), (3, .ref (ad 89)), (4, .int x4)]) hx hb dL_law_376 hl (by decide) rfl (fun ls hl => ?_)
  refine lv_aload_n hx hb dL_law_378 rfl (lv_at hl 3 rfl) ?_
  refine lv_aload_n hx hb dL_law_379 rfl (lv_at hl 1 rfl) ?_
  refine lv_iload hx hb dL_law_380 (lv_at hl 5 rfl) ?_
  refine lv_iconst (v := 1) hx hb dL_law_382 (by decide) ?_
  refine lv_iadd hx hb dL_law_383 ?_
  refine g_chk hs (fun hc hs => ?_)
  refine va_sld hx hb hX hbl hbA hS hc dL_law_384 ?_
  refine g_bind hs (fun q_2 hq_2 hs => ?_)
  refine gCV_i (As := [.int (xs (x4 + 1).toNatClampNeg)]) (rest := []) ⟨hx, hb, hml, hown, hts⟩ (cX6_adjective_c l D cy ad tL z0 hI q_1.2.1 q_1.2.2 (xs (x4 + 1).toNatClampNeg) q_2.1 q_2.2 hq_2) (cwV 1 hts gL_law_X6_adjective rfl rfl rfl (by decide +kernel) ⟨Nat.le_of_ble_eq_true rfl, Nat.le_of_ble_eq_true rfl⟩) hK hP hS (va_recv hK.1 hP (ci := 6) (q0 := 81) rfl (gW_6 kd81)) hl.1 rfl rfl (Nat.le_of_ble_eq_true rfl) dL_law_385 ⟨show _ ≤ 601024 by omega, show _ ≤ 7293034 by omega⟩ (fun H locs hP hS => ?_)
  refine lv_istore (lv' := [(6, .int q_2.1), (5, .int q_1.1), (0, .ref b), (1, .ref (ad 0)), (2, .ref (ad 81)), (3, .ref (ad 89)), (4, .int x4)]) hx hb dL_law_388 hl (by decide) rfl (fun ls hl => ?_)
  refine lv_aload_n hx hb dL_law_390 rfl (lv_at hl 4 rfl) ?_
  refine g_bind hs (fun q_3 hq_3 hs => ?_)
  refine gCV_i (As := []) (rest := []) ⟨hx, hb, hml, hown, hts⟩ (cX6_thrown_c l D cy ad tL z0 hI q_2.2 q_1.2.2 q_3 hq_3) (cwV 0 hts gL_law_X6_thrown rfl rfl rfl (by decide +kernel) ⟨Nat.le_of_ble_eq_true rfl, Nat.le_of_ble_eq_true rfl⟩) hK hP hS (va_recv hK.1 hP (ci := 6) (q0 := 81) rfl (gW_6 kd81)) hl.1 rfl rfl (Nat.le_of_ble_eq_true rfl) dL_law_391 ⟨show _ ≤ 601024 by omega, show _ ≤ 7293034 by omega⟩ (fun H locs hP hS => ?_)
  refine lv_iload hx hb dL_law_394 (lv_at hl 1 rfl) ?_
  refine lv_icmp_eq (tgt := 401) hx hb dL_law_396 (by decide) (fun hc => ?_) (fun hc => ?_)
  · have hs := g_t hs hc
    refine lv_iload hx hb dL_law_401 (lv_at hl 1 rfl) ?_
    refine lv_if_ne (tgt := 418) hx hb dL_law_403 (by decide) (fun hc => ?_) (fun hc => ?_)
    · have hs := g_f hs hc
      refine lv_goto (tgt := 1121) hx hb dL_law_418 (by decide) ?_
      refine lv_iinc (v := x4 + 4) (lv' := [(4, .int (x4 + 4)), (6, .int q_2.1), (5, .int q_1.1), (0, .ref b), (1, .ref (ad 0)), (2, .ref (ad 81)), (3, .ref (ad 89))]) hx hb dL_law_1121 hl (k := 6) rfl rfl (by decide) rfl (fun ls hl => ?_)
      refine lv_goto (tgt := 23) hx hb dL_law_1124 (by decide) ?_
      exact ih q_2.2 q_1.2.2 (x4 + 4) _ _ _ _ _ hP hS (lv_sub hl [3, 4, 5, 6, 0] rfl) (by omega) hs
    · have hs := g_t hs hc
      refine lv_aload_n hx hb dL_law_406 rfl (lv_at hl 5 rfl) ?_
      refine lv_iconst (v := 0) hx hb dL_law_407 (by decide) ?_
      refine gLald hx hb hK hP dL_law_408 ?_
      refine lv_iload hx hb dL_law_409 (lv_at hl 0 rfl) ?_
      refine lv_i2l hx hb dL_law_411 rfl ?_
      refine W.lcmp hx hb dL_law_412 ?_
      refine lv_if_eq (tgt := 418) hx hb dL_law_413 (by decide) (fun hc => ?_) (fun hc => ?_)
      · have hs := g_t hs hc
        refine lv_goto (tgt := 1121) hx hb dL_law_418 (by decide) ?_
        refine lv_iinc (v := x4 + 4) (lv' := [(4, .int (x4 + 4)), (6, .int q_2.1), (5, .int q_1.1), (0, .ref b), (1, .ref (ad 0)), (2, .ref (ad 81)), (3, .ref (ad 89))]) hx hb dL_law_1121 hl (k := 6) rfl rfl (by decide) rfl (fun ls hl => ?_)
        refine lv_goto (tgt := 23) hx hb dL_law_1124 (by decide) ?_
        exact ih q_2.2 q_1.2.2 (x4 + 4) _ _ _ _ _ hP hS (lv_sub hl [3, 4, 5, 6, 0] rfl) (by omega) hs
      · have hs := g_f hs hc
        refine lv_iconst (v := 0) hx hb dL_law_416 (by decide) ?_
        exact absurd (g_some hs) (by decide)
  · have hs := g_f hs hc
    refine lv_iconst (v := 0) hx hb dL_law_399 (by decide) ?_
    exact absurd (g_some hs) (by decide)
set_option maxHeartbeats 4000000 in
set_option maxRecDepth 100000 in
theorem hL_law_c5 {p : Program} {e : Env} {s : State} {m : MethodId} {below : List Frame} {meth : Method} {c : Code} (l : Launch) (hst : l.stackTraces = false) {b L : Nat} {xs : Nat → Int32} (C0 : lw_At p s m meth c b L xs) (D : va_G) (cy : Nat → ClassId) (ad : Nat → Nat) (tL z0 : Nat) (hz0 : z0 = s.heap.size) (hI : gI z0 ad) (hK : gK D cy tL z0 s s.heap) (n : Nat) (k : Nat) (ih : (∀ (v : gV) (u : Int64) (x4 : Int32) (H : Heap) (locs : List Loc) (cells slots : Nat) (ls : Array Slot), va_P D vwCl (gW cy ad v u) H → va_S (gA z0) s.heap H locs → lv_has ls 7 [(0, .ref b), (1, .ref (ad 0)), (2, .ref (ad 81)), (3, .ref (ad 89)), (4, .int x4)] → (cells + k ≤ 601000 ∧ slots + 6 * k ≤ 7290000) → sL_law_23 n xs L k v u x4 = some 1 → W p l e room_1 s m #[Value.ref b] below meth c H locs cells slots (lw_Z below #[Value.ref b] s) (F0 m 23 ls []))) (v : gV) (u : Int64) (x4 : Int32) (hs : sL_law_c5 n xs L (sL_law_23 n xs L k) v u x4 = some 1) (H : Heap) (locs : List Loc) (cells slots : Nat) (ls : Array Slot) (hP : va_P D vwCl (gW cy ad v u) H) (hS : va_S (gA z0) s.heap H locs) (hl : lv_has ls 7 [(0, .ref b), (1, .ref (ad 0)), (2, .ref (ad 81)), (3, .ref (ad 89)), (4, .int x4)]) (hcs : cells + (k + 1) ≤ 601000 ∧ slots + 6 * (k + 1) ≤ 7290000) : W p l e room_1 s m #[Value.ref b] below meth c H locs cells slots (lw_Z below #[Value.ref b] s) (F0 m 421 ls []) := by
  obtain ⟨hx, hb, hr, hml, hown, hts0, hX, hbl, hlocks, hgv⟩ := C0
  have hts : ∀ w ∈ lw_tbl, w.before #[Value.ref b] s = true := hts0
  have hbA : ¬ gA z0 b := by rw [hz0]; exact Nat.not_le.mpr hbl
  unfold sL_law_c5 at hs
  refine lv_aload_n hx hb dL_law_421 rfl (lv_at hl 1 rfl) ?_
  refine lv_aload_n hx hb dL_law_422 rfl (lv_at hl 0 rfl) ?_
  refine lv_iload hx hb dL_law_423 (lv_at hl 4 rfl) ?_
  refine lv_iconst (v := 1) hx hb dL_law_425 (by decide) ?_
  refine lv_iadd hx hb dL_law_426 ?_
  refine g_chk hs (fun hc hs => ?_)
  refine va_sld hx hb hX hbl hbA hS hc dL_law_427 ?_
  refine lv_aload_n hx hb dL_law_428 rfl (lv_at hl 3 rfl) ?_
  refine g_bind hs (fun q_1 hq_1 hs => ?_)
  refine gCW (As := [.ref (ad 0), .int (xs (x4 + 1).toNatClampNeg), .ref (ad 89)]) (rest := []) ⟨hx, hb, hml, hown, hts⟩ (cL_place_c l hst D cy ad tL z0 hI v u (xs (x4 + 1).toNatClampNeg) q_1.1 q_1.2.1 q_1.2.2 hq_1) (vx_cwSW 3 hts gL_law_L_place rfl rfl rfl (by decide +kernel) ⟨Nat.le_of_ble_eq_true rfl, Nat.le_of_ble_eq_true rfl⟩) hK hP hS hl.1 rfl rfl (Nat.le_of_ble_eq_true rfl) dL_law_429 ⟨show _ ≤ 601024 by omega, show _ ≤ 7293034 by omega⟩ (fun H locs hP hS => ?_)
  refine lv_istore (lv' := [(5, .int q_1.1), (0, .ref b), (1, .ref (ad 0)), (2, .ref (ad 81)), (3, .ref (ad 89)), (4, .int x4)]) hx hb dL_law_432 hl (by decide) rfl (fun ls hl => ?_)
  refine lv_aload_n hx hb dL_law_434 rfl (lv_at hl 3 rfl) ?_
  refine lv_aload_n hx hb dL_law_435 rfl (lv_at hl 1 rfl) ?_
  refine lv_iload hx hb dL_law_436 (lv_at hl 5 rfl) ?_
  refine lv_iconst (v := 1) hx hb dL_law_438 (by decide) ?_
  refine lv_iadd hx hb dL_law_439 ?_
  refine g_chk hs (fun hc hs => ?_)
  refine va_sld hx hb hX hbl hbA hS hc dL_law_440 ?_
  refine g_bind hs (fun q_2 hq_2 hs => ?_)
  refine gCV_i (As := [.int (xs (x4 + 1).toNatClampNeg)]) (rest := []) ⟨hx, hb, hml, hown, hts⟩ (cX6_place_c l D cy ad tL z0 hI q_1.2.1 q_1.2.2 (xs (x4 + 1).toNatClampNeg) q_2.1 q_2.2 hq_2) (cwV 1 hts gL_law_X6_place rfl rfl rfl (by decide +kernel) ⟨Nat.le_of_ble_eq_true rfl, Nat.le_of_ble_eq_true rfl⟩) hK hP hS (va_recv hK.1 hP (ci := 6) (q0 := 81) rfl (gW_6 kd81)) hl.1 rfl rfl (Nat.le_of_ble_eq_true rfl) dL_law_441 ⟨show _ ≤ 601024 by omega, show _ ≤ 7293034 by omega⟩ (fun H locs hP hS => ?_)
  refine lv_istore (lv' := [(6, .int q_2.1), (5, .int q_1.1), (0, .ref b), (1, .ref (ad 0)), (2, .ref (ad 81)), (3, .ref (ad 89)), (4, .int x4)]) hx hb dL_law_444 hl (by decide) rfl (fun ls hl => ?_)
  refine lv_aload_n hx hb dL_law_446 rfl (lv_at hl 4 rfl) ?_
  refine g_bind hs (fun q_3 hq_3 hs => ?_)
  refine gCV_i (As := []) (rest := []) ⟨hx, hb, hml, hown, hts⟩ (cX6_thrown_c l D cy ad tL z0 hI q_2.2 q_1.2.2 q_3 hq_3) (cwV 0 hts gL_law_X6_thrown rfl rfl rfl (by decide +kernel) ⟨Nat.le_of_ble_eq_true rfl, Nat.le_of_ble_eq_true rfl⟩) hK hP hS (va_recv hK.1 hP (ci := 6) (q0 := 81) rfl (gW_6 kd81)) hl.1 rfl rfl (Nat.le_of_ble_eq_true rfl) dL_law_447 ⟨show _ ≤ 601024 by omega, show _ ≤ 7293034 by omega⟩ (fun H locs hP hS => ?_)
  refine lv_iload hx hb dL_law_450 (lv_at hl 1 rfl) ?_
  refine lv_icmp_eq (tgt := 457) hx hb dL_law_452 (by decide) (fun hc => ?_) (fun hc => ?_)
  · have hs := g_t hs hc
    refine lv_iload hx hb dL_law_457 (lv_at hl 1 rfl) ?_
    refine lv_if_ne (tgt := 474) hx hb dL_law_459 (by decide) (fun hc => ?_) (fun hc => ?_)
    · have hs := g_f hs hc
      refine lv_goto (tgt := 1121) hx hb dL_law_474 (by decide) ?_
      refine lv_iinc (v := x4 + 4) (lv' := [(4, .int (x4 + 4)), (6, .int q_2.1), (5, .int q_1.1), (0, .ref b), (1, .ref (ad 0)), (2, .ref (ad 81)), (3, .ref (ad 89))]) hx hb dL_law_1121 hl (k := 6) rfl rfl (by decide) rfl (fun ls hl => ?_)
      refine lv_goto (tgt := 23) hx hb dL_law_1124 (by decide) ?_
      exact ih q_2.2 q_1.2.2 (x4 + 4) _ _ _ _ _ hP hS (lv_sub hl [3, 4, 5, 6, 0] rfl) (by omega) hs
    · have hs := g_t hs hc
      refine lv_aload_n hx hb dL_law_462 rfl (lv_at hl 5 rfl) ?_
      refine lv_iconst (v := 0) hx hb dL_law_463 (by decide) ?_
      refine gLald hx hb hK hP dL_law_464 ?_
      refine lv_iload hx hb dL_law_465 (lv_at hl 0 rfl) ?_
      refine lv_i2l hx hb dL_law_467 rfl ?_
      refine W.lcmp hx hb dL_law_468 ?_
      refine lv_if_eq (tgt := 474) hx hb dL_law_469 (by decide) (fun hc => ?_) (fun hc => ?_)
      · have hs := g_t hs hc
        refine lv_goto (tgt := 1121) hx hb dL_law_474 (by decide) ?_
        refine lv_iinc (v := x4 + 4) (lv' := [(4, .int (x4 + 4)), (6, .int q_2.1), (5, .int q_1.1), (0, .ref b), (1, .ref (ad 0)), (2, .ref (ad 81)), (3, .ref (ad 89))]) hx hb dL_law_1121 hl (k := 6) rfl rfl (by decide) rfl (fun ls hl => ?_)
        refine lv_goto (tgt := 23) hx hb dL_law_1124 (by decide) ?_
        exact ih q_2.2 q_1.2.2 (x4 + 4) _ _ _ _ _ hP hS (lv_sub hl [3, 4, 5, 6, 0] rfl) (by omega) hs
      · have hs := g_f hs hc
        refine lv_iconst (v := 0) hx hb dL_law_472 (by decide) ?_
        exact absurd (g_some hs) (by decide)
  · have hs := g_f hs hc
    refine lv_iconst (v := 0) hx hb dL_law_455 (by decide) ?_
    exact absurd (g_some hs) (by decide)
set_option maxHeartbeats 4000000 in
set_option maxRecDepth 100000 in
theorem hL_law_c6 {p : Program} {e : Env} {s : State} {m : MethodId} {below : List Frame} {meth : Method} {c : Code} (l : Launch) (hst : l.stackTraces = false) {b L : Nat} {xs : Nat → Int32} (C0 : lw_At p s m meth c b L xs) (D : va_G) (cy : Nat → ClassId) (ad : Nat → Nat) (tL z0 : Nat) (hz0 : z0 = s.heap.size) (hI : gI z0 ad) (hK : gK D cy tL z0 s s.heap) (n : Nat) (k : Nat) (ih : (∀ (v : gV) (u : Int64) (x4 : Int32) (H : Heap) (locs : List Loc) (cells slots : Nat) (ls : Array Slot), va_P D vwCl (gW cy ad v u) H → va_S (gA z0) s.heap H locs → lv_has ls 7 [(0, .ref b), (1, .ref (ad 0)), (2, .ref (ad 81)), (3, .ref (ad 89)), (4, .int x4)] → (cells + k ≤ 601000 ∧ slots + 6 * k ≤ 7290000) → sL_law_23 n xs L k v u x4 = some 1 → W p l e room_1 s m #[Value.ref b] below meth c H locs cells slots (lw_Z below #[Value.ref b] s) (F0 m 23 ls []))) (v : gV) (u : Int64) (x4 : Int32) (hs : sL_law_c6 n xs L (sL_law_23 n xs L k) v u x4 = some 1) (H : Heap) (locs : List Loc) (cells slots : Nat) (ls : Array Slot) (hP : va_P D vwCl (gW cy ad v u) H) (hS : va_S (gA z0) s.heap H locs) (hl : lv_has ls 7 [(0, .ref b), (1, .ref (ad 0)), (2, .ref (ad 81)), (3, .ref (ad 89)), (4, .int x4)]) (hcs : cells + (k + 1) ≤ 601000 ∧ slots + 6 * (k + 1) ≤ 7290000) : W p l e room_1 s m #[Value.ref b] below meth c H locs cells slots (lw_Z below #[Value.ref b] s) (F0 m 477 ls []) := by
  obtain ⟨hx, hb, hr, hml, hown, hts0, hX, hbl, hlocks, hgv⟩ := C0
  have hts : ∀ w ∈ lw_tbl, w.before #[Value.ref b] s = true := hts0
  have hbA : ¬ gA z0 b := by rw [hz0]; exact Nat.not_le.mpr hbl
  unfold sL_law_c6 at hs
  refine lv_aload_n hx hb dL_law_477 rfl (lv_at hl 1 rfl) ?_
  refine lv_aload_n hx hb dL_law_478 rfl (lv_at hl 0 rfl) ?_
  refine lv_iload hx hb dL_law_479 (lv_at hl 4 rfl) ?_
  refine lv_iconst (v := 1) hx hb dL_law_481 (by decide) ?_
  refine lv_iadd hx hb dL_law_482 ?_
  refine g_chk hs (fun hc hs => ?_)
  refine va_sld hx hb hX hbl hbA hS hc dL_law_483 ?_
  refine lv_aload_n hx hb dL_law_484 rfl (lv_at hl 3 rfl) ?_
  refine g_bind hs (fun q_1 hq_1 hs => ?_)
  refine gCW (As := [.ref (ad 0), .int (xs (x4 + 1).toNatClampNeg), .ref (ad 89)]) (rest := []) ⟨hx, hb, hml, hown, hts⟩ (cL_isOpen_c l hst D cy ad tL z0 hI v u (xs (x4 + 1).toNatClampNeg) q_1.1 q_1.2.1 q_1.2.2 hq_1) (vx_cwSW 3 hts gL_law_L_isOpen rfl rfl rfl (by decide +kernel) ⟨Nat.le_of_ble_eq_true rfl, Nat.le_of_ble_eq_true rfl⟩) hK hP hS hl.1 rfl rfl (Nat.le_of_ble_eq_true rfl) dL_law_485 ⟨show _ ≤ 601024 by omega, show _ ≤ 7293034 by omega⟩ (fun H locs hP hS => ?_)
  refine lv_istore (lv' := [(5, .int q_1.1), (0, .ref b), (1, .ref (ad 0)), (2, .ref (ad 81)), (3, .ref (ad 89)), (4, .int x4)]) hx hb dL_law_488 hl (by decide) rfl (fun ls hl => ?_)
  refine lv_aload_n hx hb dL_law_490 rfl (lv_at hl 3 rfl) ?_
  refine lv_aload_n hx hb dL_law_491 rfl (lv_at hl 1 rfl) ?_
  refine lv_iload hx hb dL_law_492 (lv_at hl 5 rfl) ?_
  refine lv_iconst (v := 1) hx hb dL_law_494 (by decide) ?_
  refine lv_iadd hx hb dL_law_495 ?_
  refine g_chk hs (fun hc hs => ?_)
  refine va_sld hx hb hX hbl hbA hS hc dL_law_496 ?_
  refine g_bind hs (fun q_2 hq_2 hs => ?_)
  refine gCV_i (As := [.int (xs (x4 + 1).toNatClampNeg)]) (rest := []) ⟨hx, hb, hml, hown, hts⟩ (cX6_isOpen_c l D cy ad tL z0 hI q_1.2.1 q_1.2.2 (xs (x4 + 1).toNatClampNeg) q_2.1 q_2.2 hq_2) (cwV 1 hts gL_law_X6_isOpen rfl rfl rfl (by decide +kernel) ⟨Nat.le_of_ble_eq_true rfl, Nat.le_of_ble_eq_true rfl⟩) hK hP hS (va_recv hK.1 hP (ci := 6) (q0 := 81) rfl (gW_6 kd81)) hl.1 rfl rfl (Nat.le_of_ble_eq_true rfl) dL_law_497 ⟨show _ ≤ 601024 by omega, show _ ≤ 7293034 by omega⟩ (fun H locs hP hS => ?_)
  refine lv_istore (lv' := [(6, .int q_2.1), (5, .int q_1.1), (0, .ref b), (1, .ref (ad 0)), (2, .ref (ad 81)), (3, .ref (ad 89)), (4, .int x4)]) hx hb dL_law_500 hl (by decide) rfl (fun ls hl => ?_)
  refine lv_aload_n hx hb dL_law_502 rfl (lv_at hl 4 rfl) ?_
  refine g_bind hs (fun q_3 hq_3 hs => ?_)
  refine gCV_i (As := []) (rest := []) ⟨hx, hb, hml, hown, hts⟩ (cX6_thrown_c l D cy ad tL z0 hI q_2.2 q_1.2.2 q_3 hq_3) (cwV 0 hts gL_law_X6_thrown rfl rfl rfl (by decide +kernel) ⟨Nat.le_of_ble_eq_true rfl, Nat.le_of_ble_eq_true rfl⟩) hK hP hS (va_recv hK.1 hP (ci := 6) (q0 := 81) rfl (gW_6 kd81)) hl.1 rfl rfl (Nat.le_of_ble_eq_true rfl) dL_law_503 ⟨show _ ≤ 601024 by omega, show _ ≤ 7293034 by omega⟩ (fun H locs hP hS => ?_)
  refine lv_iload hx hb dL_law_506 (lv_at hl 1 rfl) ?_
  refine lv_icmp_eq (tgt := 513) hx hb dL_law_508 (by decide) (fun hc => ?_) (fun hc => ?_)
  · have hs := g_t hs hc
    refine lv_iload hx hb dL_law_513 (lv_at hl 1 rfl) ?_
    refine lv_if_ne (tgt := 537) hx hb dL_law_515 (by decide) (fun hc => ?_) (fun hc => ?_)
    · have hs := g_f hs hc
      refine lv_goto (tgt := 1121) hx hb dL_law_537 (by decide) ?_
      refine lv_iinc (v := x4 + 4) (lv' := [(4, .int (x4 + 4)), (6, .int q_2.1), (5, .int q_1.1), (0, .ref b), (1, .ref (ad 0)), (2, .ref (ad 81)), (3, .ref (ad 89))]) hx hb dL_law_1121 hl (k := 6) rfl rfl (by decide) rfl (fun ls hl => ?_)
      refine lv_goto (tgt := 23) hx hb dL_law_1124 (by decide) ?_
      exact ih q_2.2 q_1.2.2 (x4 + 4) _ _ _ _ _ hP hS (lv_sub hl [3, 4, 5, 6, 0] rfl) (by omega) hs
    · have hs := g_t hs hc
      refine lv_aload_n hx hb dL_law_518 rfl (lv_at hl 5 rfl) ?_
      refine lv_iconst (v := 0) hx hb dL_law_519 (by decide) ?_
      refine gLald hx hb hK hP dL_law_520 ?_
      refine lv_iload hx hb dL_law_521 (lv_at hl 0 rfl) ?_
      refine lv_if_eq (tgt := 530) hx hb dL_law_523 (by decide) (fun hc => ?_) (fun hc => ?_)
      · have hs := g_t hs hc
        refine lv_lconst (v := 0) hx hb dL_law_530 (by decide) ?_
        refine W.lcmp hx hb dL_law_531 ?_
        refine lv_if_eq (tgt := 537) hx hb dL_law_532 (by decide) (fun hc => ?_) (fun hc => ?_)
        · have hs := g_t hs hc
          refine lv_goto (tgt := 1121) hx hb dL_law_537 (by decide) ?_
          refine lv_iinc (v := x4 + 4) (lv' := [(4, .int (x4 + 4)), (6, .int q_2.1), (5, .int q_1.1), (0, .ref b), (1, .ref (ad 0)), (2, .ref (ad 81)), (3, .ref (ad 89))]) hx hb dL_law_1121 hl (k := 6) rfl rfl (by decide) rfl (fun ls hl => ?_)
          refine lv_goto (tgt := 23) hx hb dL_law_1124 (by decide) ?_
          exact ih q_2.2 q_1.2.2 (x4 + 4) _ _ _ _ _ hP hS (lv_sub hl [3, 4, 5, 6, 0] rfl) (by omega) hs
        · have hs := g_f hs hc
          refine lv_iconst (v := 0) hx hb dL_law_535 (by decide) ?_
          exact absurd (g_some hs) (by decide)
      · have hs := g_f hs hc
        refine lv_lconst (v := 1) hx hb dL_law_526 (by decide) ?_
        refine lv_goto (tgt := 531) hx hb dL_law_527 (by decide) ?_
        refine W.lcmp hx hb dL_law_531 ?_
        refine lv_if_eq (tgt := 537) hx hb dL_law_532 (by decide) (fun hc => ?_) (fun hc => ?_)
        · have hs := g_t hs hc
          refine lv_goto (tgt := 1121) hx hb dL_law_537 (by decide) ?_
          refine lv_iinc (v := x4 + 4) (lv' := [(4, .int (x4 + 4)), (6, .int q_2.1), (5, .int q_1.1), (0, .ref b), (1, .ref (ad 0)), (2, .ref (ad 81)), (3, .ref (ad 89))]) hx hb dL_law_1121 hl (k := 6) rfl rfl (by decide) rfl (fun ls hl => ?_)
          refine lv_goto (tgt := 23) hx hb dL_law_1124 (by decide) ?_
          exact ih q_2.2 q_1.2.2 (x4 + 4) _ _ _ _ _ hP hS (lv_sub hl [3, 4, 5, 6, 0] rfl) (by omega) hs
        · have hs := g_f hs hc
          refine lv_iconst (v := 0) hx hb dL_law_535 (by decide) ?_
          exact absurd (g_some hs) (by decide)
  · have hs := g_f hs hc
    refine lv_iconst (v := 0) hx hb dL_law_511 (by decide) ?_
    exact absurd (g_some hs) (by decide)
set_option maxHeartbeats 4000000 in
set_option maxRecDepth 100000 in
theorem hL_law_c7 {p : Program} {e : Env} {s : State} {m : MethodId} {below : List Frame} {meth : Method} {c : Code} (l : Launch) (hst : l.stackTraces = false) {b L : Nat} {xs : Nat → Int32} (C0 : lw_At p s m meth c b L xs) (D : va_G) (cy : Nat → ClassId) (ad : Nat → Nat) (tL z0 : Nat) (hz0 : z0 = s.heap.size) (hI : gI z0 ad) (hK : gK D cy tL z0 s s.heap) (n : Nat) (k : Nat) (ih : (∀ (v : gV) (u : Int64) (x4 : Int32) (H : Heap) (locs : List Loc) (cells slots : Nat) (ls : Array Slot), va_P D vwCl (gW cy ad v u) H → va_S (gA z0) s.heap H locs → lv_has ls 7 [(0, .ref b), (1, .ref (ad 0)), (2, .ref (ad 81)), (3, .ref (ad 89)), (4, .int x4)] → (cells + k ≤ 601000 ∧ slots + 6 * k ≤ 7290000) → sL_law_23 n xs L k v u x4 = some 1 → W p l e room_1 s m #[Value.ref b] below meth c H locs cells slots (lw_Z below #[Value.ref b] s) (F0 m 23 ls []))) (v : gV) (u : Int64) (x4 : Int32) (hs : sL_law_c7 n xs L (sL_law_23 n xs L k) v u x4 = some 1) (H : Heap) (locs : List Loc) (cells slots : Nat) (ls : Array Slot) (hP : va_P D vwCl (gW cy ad v u) H) (hS : va_S (gA z0) s.heap H locs) (hl : lv_has ls 7 [(0, .ref b), (1, .ref (ad 0)), (2, .ref (ad 81)), (3, .ref (ad 89)), (4, .int x4)]) (hcs : cells + (k + 1) ≤ 601000 ∧ slots + 6 * (k + 1) ≤ 7290000) : W p l e room_1 s m #[Value.ref b] below meth c H locs cells slots (lw_Z below #[Value.ref b] s) (F0 m 540 ls []) := by
  obtain ⟨hx, hb, hr, hml, hown, hts0, hX, hbl, hlocks, hgv⟩ := C0
  have hts : ∀ w ∈ lw_tbl, w.before #[Value.ref b] s = true := hts0
  have hbA : ¬ gA z0 b := by rw [hz0]; exact Nat.not_le.mpr hbl
  unfold sL_law_c7 at hs
  refine lv_aload_n hx hb dL_law_540 rfl (lv_at hl 1 rfl) ?_
  refine lv_aload_n hx hb dL_law_541 rfl (lv_at hl 0 rfl) ?_
  refine lv_iload hx hb dL_law_542 (lv_at hl 4 rfl) ?_
  refine lv_iconst (v := 1) hx hb dL_law_544 (by decide) ?_
  refine lv_iadd hx hb dL_law_545 ?_
  refine g_chk hs (fun hc hs => ?_)
  refine va_sld hx hb hX hbl hbA hS hc dL_law_546 ?_
  refine lv_aload_n hx hb dL_law_547 rfl (lv_at hl 3 rfl) ?_
  refine g_bind hs (fun q_1 hq_1 hs => ?_)
  refine gCW (As := [.ref (ad 0), .int (xs (x4 + 1).toNatClampNeg), .ref (ad 89)]) (rest := []) ⟨hx, hb, hml, hown, hts⟩ (cL_objectsAt_c l hst D cy ad tL z0 hI n v u (xs (x4 + 1).toNatClampNeg) q_1.1 q_1.2.1 q_1.2.2 hq_1) (vx_cwSW 3 hts gL_law_L_objectsAt rfl rfl rfl (by decide +kernel) ⟨Nat.le_of_ble_eq_true rfl, Nat.le_of_ble_eq_true rfl⟩) hK hP hS hl.1 rfl rfl (Nat.le_of_ble_eq_true rfl) dL_law_548 ⟨show _ ≤ 601024 by omega, show _ ≤ 7293034 by omega⟩ (fun H locs hP hS => ?_)
  refine lv_istore (lv' := [(5, .int q_1.1), (0, .ref b), (1, .ref (ad 0)), (2, .ref (ad 81)), (3, .ref (ad 89)), (4, .int x4)]) hx hb dL_law_551 hl (by decide) rfl (fun ls hl => ?_)
  refine lv_aload_n hx hb dL_law_553 rfl (lv_at hl 3 rfl) ?_
  refine lv_aload_n hx hb dL_law_554 rfl (lv_at hl 1 rfl) ?_
  refine lv_iload hx hb dL_law_555 (lv_at hl 5 rfl) ?_
  refine lv_iconst (v := 1) hx hb dL_law_557 (by decide) ?_
  refine lv_iadd hx hb dL_law_558 ?_
  refine g_chk hs (fun hc hs => ?_)
  refine va_sld hx hb hX hbl hbA hS hc dL_law_559 ?_
  refine g_bind hs (fun q_2 hq_2 hs => ?_)
  refine gCV_i (As := [.int (xs (x4 + 1).toNatClampNeg)]) (rest := []) ⟨hx, hb, hml, hown, hts⟩ (cX6_objectsAt_c l D cy ad tL z0 hI n q_1.2.1 q_1.2.2 (xs (x4 + 1).toNatClampNeg) q_2.1 q_2.2 hq_2) (cwV 1 hts gL_law_X6_objectsAt rfl rfl rfl (by decide +kernel) ⟨Nat.le_of_ble_eq_true rfl, Nat.le_of_ble_eq_true rfl⟩) hK hP hS (va_recv hK.1 hP (ci := 6) (q0 := 81) rfl (gW_6 kd81)) hl.1 rfl rfl (Nat.le_of_ble_eq_true rfl) dL_law_560 ⟨show _ ≤ 601024 by omega, show _ ≤ 7293034 by omega⟩ (fun H locs hP hS => ?_)
  refine lv_istore (lv' := [(6, .int q_2.1), (5, .int q_1.1), (0, .ref b), (1, .ref (ad 0)), (2, .ref (ad 81)), (3, .ref (ad 89)), (4, .int x4)]) hx hb dL_law_563 hl (by decide) rfl (fun ls hl => ?_)
  refine lv_aload_n hx hb dL_law_565 rfl (lv_at hl 4 rfl) ?_
  refine g_bind hs (fun q_3 hq_3 hs => ?_)
  refine gCV_i (As := []) (rest := []) ⟨hx, hb, hml, hown, hts⟩ (cX6_thrown_c l D cy ad tL z0 hI q_2.2 q_1.2.2 q_3 hq_3) (cwV 0 hts gL_law_X6_thrown rfl rfl rfl (by decide +kernel) ⟨Nat.le_of_ble_eq_true rfl, Nat.le_of_ble_eq_true rfl⟩) hK hP hS (va_recv hK.1 hP (ci := 6) (q0 := 81) rfl (gW_6 kd81)) hl.1 rfl rfl (Nat.le_of_ble_eq_true rfl) dL_law_566 ⟨show _ ≤ 601024 by omega, show _ ≤ 7293034 by omega⟩ (fun H locs hP hS => ?_)
  refine lv_iload hx hb dL_law_569 (lv_at hl 1 rfl) ?_
  refine lv_icmp_eq (tgt := 576) hx hb dL_law_571 (by decide) (fun hc => ?_) (fun hc => ?_)
  · have hs := g_t hs hc
    refine lv_iload hx hb dL_law_576 (lv_at hl 1 rfl) ?_
    refine lv_if_ne (tgt := 593) hx hb dL_law_578 (by decide) (fun hc => ?_) (fun hc => ?_)
    · have hs := g_f hs hc
      refine lv_goto (tgt := 1121) hx hb dL_law_593 (by decide) ?_
      refine lv_iinc (v := x4 + 4) (lv' := [(4, .int (x4 + 4)), (6, .int q_2.1), (5, .int q_1.1), (0, .ref b), (1, .ref (ad 0)), (2, .ref (ad 81)), (3, .ref (ad 89))]) hx hb dL_law_1121 hl (k := 6) rfl rfl (by decide) rfl (fun ls hl => ?_)
      refine lv_goto (tgt := 23) hx hb dL_law_1124 (by decide) ?_
      exact ih q_2.2 q_1.2.2 (x4 + 4) _ _ _ _ _ hP hS (lv_sub hl [3, 4, 5, 6, 0] rfl) (by omega) hs
    · have hs := g_t hs hc
      refine lv_aload_n hx hb dL_law_581 rfl (lv_at hl 5 rfl) ?_
      refine lv_iconst (v := 0) hx hb dL_law_582 (by decide) ?_
      refine gLald hx hb hK hP dL_law_583 ?_
      refine lv_iload hx hb dL_law_584 (lv_at hl 0 rfl) ?_
      refine lv_i2l hx hb dL_law_586 rfl ?_
      refine W.lcmp hx hb dL_law_587 ?_
      refine lv_if_eq (tgt := 593) hx hb dL_law_588 (by decide) (fun hc => ?_) (fun hc => ?_)
      · have hs := g_t hs hc
        refine lv_goto (tgt := 1121) hx hb dL_law_593 (by decide) ?_
        refine lv_iinc (v := x4 + 4) (lv' := [(4, .int (x4 + 4)), (6, .int q_2.1), (5, .int q_1.1), (0, .ref b), (1, .ref (ad 0)), (2, .ref (ad 81)), (3, .ref (ad 89))]) hx hb dL_law_1121 hl (k := 6) rfl rfl (by decide) rfl (fun ls hl => ?_)
        refine lv_goto (tgt := 23) hx hb dL_law_1124 (by decide) ?_
        exact ih q_2.2 q_1.2.2 (x4 + 4) _ _ _ _ _ hP hS (lv_sub hl [3, 4, 5, 6, 0] rfl) (by omega) hs
      · have hs := g_f hs hc
        refine lv_iconst (v := 0) hx hb dL_law_591 (by decide) ?_
        exact absurd (g_some hs) (by decide)
  · have hs := g_f hs hc
    refine lv_iconst (v := 0) hx hb dL_law_574 (by decide) ?_
    exact absurd (g_some hs) (by decide)
set_option maxHeartbeats 4000000 in
set_option maxRecDepth 100000 in
theorem hL_law_c8 {p : Program} {e : Env} {s : State} {m : MethodId} {below : List Frame} {meth : Method} {c : Code} (l : Launch) (hst : l.stackTraces = false) {b L : Nat} {xs : Nat → Int32} (C0 : lw_At p s m meth c b L xs) (D : va_G) (cy : Nat → ClassId) (ad : Nat → Nat) (tL z0 : Nat) (hz0 : z0 = s.heap.size) (hI : gI z0 ad) (hK : gK D cy tL z0 s s.heap) (n : Nat) (k : Nat) (ih : (∀ (v : gV) (u : Int64) (x4 : Int32) (H : Heap) (locs : List Loc) (cells slots : Nat) (ls : Array Slot), va_P D vwCl (gW cy ad v u) H → va_S (gA z0) s.heap H locs → lv_has ls 7 [(0, .ref b), (1, .ref (ad 0)), (2, .ref (ad 81)), (3, .ref (ad 89)), (4, .int x4)] → (cells + k ≤ 601000 ∧ slots + 6 * k ≤ 7290000) → sL_law_23 n xs L k v u x4 = some 1 → W p l e room_1 s m #[Value.ref b] below meth c H locs cells slots (lw_Z below #[Value.ref b] s) (F0 m 23 ls []))) (v : gV) (u : Int64) (x4 : Int32) (hs : sL_law_c8 n xs L (sL_law_23 n xs L k) v u x4 = some 1) (H : Heap) (locs : List Loc) (cells slots : Nat) (ls : Array Slot) (hP : va_P D vwCl (gW cy ad v u) H) (hS : va_S (gA z0) s.heap H locs) (hl : lv_has ls 7 [(0, .ref b), (1, .ref (ad 0)), (2, .ref (ad 81)), (3, .ref (ad 89)), (4, .int x4)]) (hcs : cells + (k + 1) ≤ 601000 ∧ slots + 6 * (k + 1) ≤ 7290000) : W p l e room_1 s m #[Value.ref b] below meth c H locs cells slots (lw_Z below #[Value.ref b] s) (F0 m 596 ls []) := by
  obtain ⟨hx, hb, hr, hml, hown, hts0, hX, hbl, hlocks, hgv⟩ := C0
  have hts : ∀ w ∈ lw_tbl, w.before #[Value.ref b] s = true := hts0
  have hbA : ¬ gA z0 b := by rw [hz0]; exact Nat.not_le.mpr hbl
  unfold sL_law_c8 at hs
  refine lv_aload_n hx hb dL_law_596 rfl (lv_at hl 1 rfl) ?_
  refine g_bind hs (fun q_1 hq_1 hs => ?_)
  refine gCV_i (As := []) (rest := []) ⟨hx, hb, hml, hown, hts⟩ (cX5_room_c l D cy ad tL z0 hI v u q_1 hq_1) (cwV 0 hts gL_law_X5_room rfl rfl rfl (by decide +kernel) ⟨Nat.le_of_ble_eq_true rfl, Nat.le_of_ble_eq_true rfl⟩) hK hP hS (va_recv hK.1 hP (ci := 5) (q0 := 0) rfl (gW_5 kd0)) hl.1 rfl rfl (Nat.le_of_ble_eq_true rfl) dL_law_597 ⟨show _ ≤ 601024 by omega, show _ ≤ 7293034 by omega⟩ (fun H locs hP hS => ?_)
  refine lv_aload_n hx hb dL_law_600 rfl (lv_at hl 2 rfl) ?_
  refine g_bind hs (fun q_2 hq_2 hs => ?_)
  refine gCV_i (As := []) (rest := [.int q_1]) ⟨hx, hb, hml, hown, hts⟩ (cX6_room_c l D cy ad tL z0 hI v u q_2.1 q_2.2 hq_2) (cwV 0 hts gL_law_X6_room rfl rfl rfl (by decide +kernel) ⟨Nat.le_of_ble_eq_true rfl, Nat.le_of_ble_eq_true rfl⟩) hK hP hS (va_recv hK.1 hP (ci := 6) (q0 := 81) rfl (gW_6 kd81)) hl.1 rfl rfl (Nat.le_of_ble_eq_true rfl) dL_law_601 ⟨show _ ≤ 601024 by omega, show _ ≤ 7293034 by omega⟩ (fun H locs hP hS => ?_)
  refine lv_icmp_eq (tgt := 1121) hx hb dL_law_604 (by decide) (fun hc => ?_) (fun hc => ?_)
  · have hs := g_t hs hc
    refine lv_iinc (v := x4 + 4) (lv' := [(4, .int (x4 + 4)), (0, .ref b), (1, .ref (ad 0)), (2, .ref (ad 81)), (3, .ref (ad 89))]) hx hb dL_law_1121 hl (k := 4) rfl rfl (by decide) rfl (fun ls hl => ?_)
    refine lv_goto (tgt := 23) hx hb dL_law_1124 (by decide) ?_
    exact ih q_2.2 u (x4 + 4) _ _ _ _ _ hP hS (lv_sub hl [1, 2, 3, 4, 0] rfl) (by omega) hs
  · have hs := g_f hs hc
    refine lv_iconst (v := 0) hx hb dL_law_607 (by decide) ?_
    exact absurd (g_some hs) (by decide)
set_option maxHeartbeats 4000000 in
set_option maxRecDepth 100000 in
theorem hL_law_c9 {p : Program} {e : Env} {s : State} {m : MethodId} {below : List Frame} {meth : Method} {c : Code} (l : Launch) (hst : l.stackTraces = false) {b L : Nat} {xs : Nat → Int32} (C0 : lw_At p s m meth c b L xs) (D : va_G) (cy : Nat → ClassId) (ad : Nat → Nat) (tL z0 : Nat) (hz0 : z0 = s.heap.size) (hI : gI z0 ad) (hK : gK D cy tL z0 s s.heap) (n : Nat) (k : Nat) (ih : (∀ (v : gV) (u : Int64) (x4 : Int32) (H : Heap) (locs : List Loc) (cells slots : Nat) (ls : Array Slot), va_P D vwCl (gW cy ad v u) H → va_S (gA z0) s.heap H locs → lv_has ls 7 [(0, .ref b), (1, .ref (ad 0)), (2, .ref (ad 81)), (3, .ref (ad 89)), (4, .int x4)] → (cells + k ≤ 601000 ∧ slots + 6 * k ≤ 7290000) → sL_law_23 n xs L k v u x4 = some 1 → W p l e room_1 s m #[Value.ref b] below meth c H locs cells slots (lw_Z below #[Value.ref b] s) (F0 m 23 ls []))) (v : gV) (u : Int64) (x4 : Int32) (hs : sL_law_c9 n xs L (sL_law_23 n xs L k) v u x4 = some 1) (H : Heap) (locs : List Loc) (cells slots : Nat) (ls : Array Slot) (hP : va_P D vwCl (gW cy ad v u) H) (hS : va_S (gA z0) s.heap H locs) (hl : lv_has ls 7 [(0, .ref b), (1, .ref (ad 0)), (2, .ref (ad 81)), (3, .ref (ad 89)), (4, .int x4)]) (hcs : cells + (k + 1) ≤ 601000 ∧ slots + 6 * (k + 1) ≤ 7290000) : W p l e room_1 s m #[Value.ref b] below meth c H locs cells slots (lw_Z below #[Value.ref b] s) (F0 m 609 ls []) := by
  obtain ⟨hx, hb, hr, hml, hown, hts0, hX, hbl, hlocks, hgv⟩ := C0
  have hts : ∀ w ∈ lw_tbl, w.before #[Value.ref b] s = true := hts0
  have hbA : ¬ gA z0 b := by rw [hz0]; exact Nat.not_le.mpr hbl
  unfold sL_law_c9 at hs
  refine lv_aload_n hx hb dL_law_609 rfl (lv_at hl 1 rfl) ?_
  refine g_bind hs (fun q_1 hq_1 hs => ?_)
  refine gCV_i (As := []) (rest := []) ⟨hx, hb, hml, hown, hts⟩ (cX5_visible_c l D cy ad tL z0 hI n v u q_1 hq_1) (cwV 0 hts gL_law_X5_visible rfl rfl rfl (by decide +kernel) ⟨Nat.le_of_ble_eq_true rfl, Nat.le_of_ble_eq_true rfl⟩) hK hP hS (va_recv hK.1 hP (ci := 5) (q0 := 0) rfl (gW_5 kd0)) hl.1 rfl rfl (Nat.le_of_ble_eq_true rfl) dL_law_610 ⟨show _ ≤ 601024 by omega, show _ ≤ 7293034 by omega⟩ (fun H locs hP hS => ?_)
  refine lv_aload_n hx hb dL_law_613 rfl (lv_at hl 2 rfl) ?_
  refine g_bind hs (fun q_2 hq_2 hs => ?_)
  refine gCV_i (As := []) (rest := [.int q_1]) ⟨hx, hb, hml, hown, hts⟩ (cX6_visible_c l D cy ad tL z0 hI n v u q_2.1 q_2.2 hq_2) (cwV 0 hts gL_law_X6_visible rfl rfl rfl (by decide +kernel) ⟨Nat.le_of_ble_eq_true rfl, Nat.le_of_ble_eq_true rfl⟩) hK hP hS (va_recv hK.1 hP (ci := 6) (q0 := 81) rfl (gW_6 kd81)) hl.1 rfl rfl (Nat.le_of_ble_eq_true rfl) dL_law_614 ⟨show _ ≤ 601024 by omega, show _ ≤ 7293034 by omega⟩ (fun H locs hP hS => ?_)
  refine lv_icmp_eq (tgt := 1121) hx hb dL_law_617 (by decide) (fun hc => ?_) (fun hc => ?_)
  · have hs := g_t hs hc
    refine lv_iinc (v := x4 + 4) (lv' := [(4, .int (x4 + 4)), (0, .ref b), (1, .ref (ad 0)), (2, .ref (ad 81)), (3, .ref (ad 89))]) hx hb dL_law_1121 hl (k := 4) rfl rfl (by decide) rfl (fun ls hl => ?_)
    refine lv_goto (tgt := 23) hx hb dL_law_1124 (by decide) ?_
    exact ih q_2.2 u (x4 + 4) _ _ _ _ _ hP hS (lv_sub hl [1, 2, 3, 4, 0] rfl) (by omega) hs
  · have hs := g_f hs hc
    refine lv_iconst (v := 0) hx hb dL_law_620 (by decide) ?_
    exact absurd (g_some hs) (by decide)
set_option maxHeartbeats 4000000 in
set_option maxRecDepth 100000 in
theorem hL_law_c10 {p : Program} {e : Env} {s : State} {m : MethodId} {below : List Frame} {meth : Method} {c : Code} (l : Launch) (hst : l.stackTraces = false) {b L : Nat} {xs : Nat → Int32} (C0 : lw_At p s m meth c b L xs) (D : va_G) (cy : Nat → ClassId) (ad : Nat → Nat) (tL z0 : Nat) (hz0 : z0 = s.heap.size) (hI : gI z0 ad) (hK : gK D cy tL z0 s s.heap) (n : Nat) (k : Nat) (ih : (∀ (v : gV) (u : Int64) (x4 : Int32) (H : Heap) (locs : List Loc) (cells slots : Nat) (ls : Array Slot), va_P D vwCl (gW cy ad v u) H → va_S (gA z0) s.heap H locs → lv_has ls 7 [(0, .ref b), (1, .ref (ad 0)), (2, .ref (ad 81)), (3, .ref (ad 89)), (4, .int x4)] → (cells + k ≤ 601000 ∧ slots + 6 * k ≤ 7290000) → sL_law_23 n xs L k v u x4 = some 1 → W p l e room_1 s m #[Value.ref b] below meth c H locs cells slots (lw_Z below #[Value.ref b] s) (F0 m 23 ls []))) (v : gV) (u : Int64) (x4 : Int32) (hs : sL_law_c10 n xs L (sL_law_23 n xs L k) v u x4 = some 1) (H : Heap) (locs : List Loc) (cells slots : Nat) (ls : Array Slot) (hP : va_P D vwCl (gW cy ad v u) H) (hS : va_S (gA z0) s.heap H locs) (hl : lv_has ls 7 [(0, .ref b), (1, .ref (ad 0)), (2, .ref (ad 81)), (3, .ref (ad 89)), (4, .int x4)]) (hcs : cells + (k + 1) ≤ 601000 ∧ slots + 6 * (k + 1) ≤ 7290000) : W p l e room_1 s m #[Value.ref b] below meth c H locs cells slots (lw_Z below #[Value.ref b] s) (F0 m 622 ls []) := by
  obtain ⟨hx, hb, hr, hml, hown, hts0, hX, hbl, hlocks, hgv⟩ := C0
  have hts : ∀ w ∈ lw_tbl, w.before #[Value.ref b] s = true := hts0
  have hbA : ¬ gA z0 b := by rw [hz0]; exact Nat.not_le.mpr hbl
  unfold sL_law_c10 at hs
  refine lv_aload_n hx hb dL_law_622 rfl (lv_at hl 1 rfl) ?_
  refine lv_aload_n hx hb dL_law_623 rfl (lv_at hl 0 rfl) ?_
  refine lv_iload hx hb dL_law_624 (lv_at hl 4 rfl) ?_
  refine lv_iconst (v := 1) hx hb dL_law_626 (by decide) ?_
  refine lv_iadd hx hb dL_law_627 ?_
  refine g_chk hs (fun hc hs => ?_)
  refine va_sld hx hb hX hbl hbA hS hc dL_law_628 ?_
  refine lv_aload_n hx hb dL_law_629 rfl (lv_at hl 3 rfl) ?_
  refine g_bind hs (fun q_1 hq_1 hs => ?_)
  refine gCW (As := [.ref (ad 0), .int (xs (x4 + 1).toNatClampNeg), .ref (ad 89)]) (rest := []) ⟨hx, hb, hml, hown, hts⟩ (cL_suitable_c l hst D cy ad tL z0 hI n v u (xs (x4 + 1).toNatClampNeg) q_1.1 q_1.2.1 q_1.2.2 hq_1) (vx_cwSW 3 hts gL_law_L_suitable rfl rfl rfl (by decide +kernel) ⟨Nat.le_of_ble_eq_true rfl, Nat.le_of_ble_eq_true rfl⟩) hK hP hS hl.1 rfl rfl (Nat.le_of_ble_eq_true rfl) dL_law_630 ⟨show _ ≤ 601024 by omega, show _ ≤ 7293034 by omega⟩ (fun H locs hP hS => ?_)
  refine lv_istore (lv' := [(5, .int q_1.1), (0, .ref b), (1, .ref (ad 0)), (2, .ref (ad 81)), (3, .ref (ad 89)), (4, .int x4)]) hx hb dL_law_633 hl (by decide) rfl (fun ls hl => ?_)
  refine lv_aload_n hx hb dL_law_635 rfl (lv_at hl 3 rfl) ?_
  refine lv_aload_n hx hb dL_law_636 rfl (lv_at hl 1 rfl) ?_
  refine lv_iload hx hb dL_law_637 (lv_at hl 5 rfl) ?_
  refine lv_iconst (v := 1) hx hb dL_law_639 (by decide) ?_
  refine lv_iadd hx hb dL_law_640 ?_
  refine g_chk hs (fun hc hs => ?_)
  refine va_sld hx hb hX hbl hbA hS hc dL_law_641 ?_
  refine g_bind hs (fun q_2 hq_2 hs => ?_)
  refine gCV_i (As := [.int (xs (x4 + 1).toNatClampNeg)]) (rest := []) ⟨hx, hb, hml, hown, hts⟩ (cX6_suitable_c l D cy ad tL z0 hI n q_1.2.1 q_1.2.2 (xs (x4 + 1).toNatClampNeg) q_2.1 q_2.2 hq_2) (cwV 1 hts gL_law_X6_suitable rfl rfl rfl (by decide +kernel) ⟨Nat.le_of_ble_eq_true rfl, Nat.le_of_ble_eq_true rfl⟩) hK hP hS (va_recv hK.1 hP (ci := 6) (q0 := 81) rfl (gW_6 kd81)) hl.1 rfl rfl (Nat.le_of_ble_eq_true rfl) dL_law_642 ⟨show _ ≤ 601024 by omega, show _ ≤ 7293034 by omega⟩ (fun H locs hP hS => ?_)
  refine lv_istore (lv' := [(6, .int q_2.1), (5, .int q_1.1), (0, .ref b), (1, .ref (ad 0)), (2, .ref (ad 81)), (3, .ref (ad 89)), (4, .int x4)]) hx hb dL_law_645 hl (by decide) rfl (fun ls hl => ?_)
  refine lv_aload_n hx hb dL_law_647 rfl (lv_at hl 4 rfl) ?_
  refine g_bind hs (fun q_3 hq_3 hs => ?_)
  refine gCV_i (As := []) (rest := []) ⟨hx, hb, hml, hown, hts⟩ (cX6_thrown_c l D cy ad tL z0 hI q_2.2 q_1.2.2 q_3 hq_3) (cwV 0 hts gL_law_X6_thrown rfl rfl rfl (by decide +kernel) ⟨Nat.le_of_ble_eq_true rfl, Nat.le_of_ble_eq_true rfl⟩) hK hP hS (va_recv hK.1 hP (ci := 6) (q0 := 81) rfl (gW_6 kd81)) hl.1 rfl rfl (Nat.le_of_ble_eq_true rfl) dL_law_648 ⟨show _ ≤ 601024 by omega, show _ ≤ 7293034 by omega⟩ (fun H locs hP hS => ?_)
  refine lv_iload hx hb dL_law_651 (lv_at hl 1 rfl) ?_
  refine lv_icmp_eq (tgt := 658) hx hb dL_law_653 (by decide) (fun hc => ?_) (fun hc => ?_)
  · have hs := g_t hs hc
    refine lv_iload hx hb dL_law_658 (lv_at hl 1 rfl) ?_
    refine lv_if_ne (tgt := 675) hx hb dL_law_660 (by decide) (fun hc => ?_) (fun hc => ?_)
    · have hs := g_f hs hc
      refine lv_goto (tgt := 1121) hx hb dL_law_675 (by decide) ?_
      refine lv_iinc (v := x4 + 4) (lv' := [(4, .int (x4 + 4)), (6, .int q_2.1), (5, .int q_1.1), (0, .ref b), (1, .ref (ad 0)), (2, .ref (ad 81)), (3, .ref (ad 89))]) hx hb dL_law_1121 hl (k := 6) rfl rfl (by decide) rfl (fun ls hl => ?_)
      refine lv_goto (tgt := 23) hx hb dL_law_1124 (by decide) ?_
      exact ih q_2.2 q_1.2.2 (x4 + 4) _ _ _ _ _ hP hS (lv_sub hl [3, 4, 5, 6, 0] rfl) (by omega) hs
    · have hs := g_t hs hc
      refine lv_aload_n hx hb dL_law_663 rfl (lv_at hl 5 rfl) ?_
      refine lv_iconst (v := 0) hx hb dL_law_664 (by decide) ?_
      refine gLald hx hb hK hP dL_law_665 ?_
      refine lv_iload hx hb dL_law_666 (lv_at hl 0 rfl) ?_
      refine lv_i2l hx hb dL_law_668 rfl ?_
      refine W.lcmp hx hb dL_law_669 ?_
      refine lv_if_eq (tgt := 675) hx hb dL_law_670 (by decide) (fun hc => ?_) (fun hc => ?_)
      · have hs := g_t hs hc
        refine lv_goto (tgt := 1121) hx hb dL_law_675 (by decide) ?_
        refine lv_iinc (v := x4 + 4) (lv' := [(4, .int (x4 + 4)), (6, .int q_2.1), (5, .int q_1.1), (0, .ref b), (1, .ref (ad 0)), (2, .ref (ad 81)), (3, .ref (ad 89))]) hx hb dL_law_1121 hl (k := 6) rfl rfl (by decide) rfl (fun ls hl => ?_)
        refine lv_goto (tgt := 23) hx hb dL_law_1124 (by decide) ?_
        exact ih q_2.2 q_1.2.2 (x4 + 4) _ _ _ _ _ hP hS (lv_sub hl [3, 4, 5, 6, 0] rfl) (by omega) hs
      · have hs := g_f hs hc
        refine lv_iconst (v := 0) hx hb dL_law_673 (by decide) ?_
        exact absurd (g_some hs) (by decide)
  · have hs := g_f hs hc
    refine lv_iconst (v := 0) hx hb dL_law_656 (by decide) ?_
    exact absurd (g_some hs) (by decide)
set_option maxHeartbeats 4000000 in
set_option maxRecDepth 100000 in
theorem hL_law_c11 {p : Program} {e : Env} {s : State} {m : MethodId} {below : List Frame} {meth : Method} {c : Code} (l : Launch) (hst : l.stackTraces = false) {b L : Nat} {xs : Nat → Int32} (C0 : lw_At p s m meth c b L xs) (D : va_G) (cy : Nat → ClassId) (ad : Nat → Nat) (tL z0 : Nat) (hz0 : z0 = s.heap.size) (hI : gI z0 ad) (hK : gK D cy tL z0 s s.heap) (n : Nat) (k : Nat) (ih : (∀ (v : gV) (u : Int64) (x4 : Int32) (H : Heap) (locs : List Loc) (cells slots : Nat) (ls : Array Slot), va_P D vwCl (gW cy ad v u) H → va_S (gA z0) s.heap H locs → lv_has ls 7 [(0, .ref b), (1, .ref (ad 0)), (2, .ref (ad 81)), (3, .ref (ad 89)), (4, .int x4)] → (cells + k ≤ 601000 ∧ slots + 6 * k ≤ 7290000) → sL_law_23 n xs L k v u x4 = some 1 → W p l e room_1 s m #[Value.ref b] below meth c H locs cells slots (lw_Z below #[Value.ref b] s) (F0 m 23 ls []))) (v : gV) (u : Int64) (x4 : Int32) (hs : sL_law_c11 n xs L (sL_law_23 n xs L k) v u x4 = some 1) (H : Heap) (locs : List Loc) (cells slots : Nat) (ls : Array Slot) (hP : va_P D vwCl (gW cy ad v u) H) (hS : va_S (gA z0) s.heap H locs) (hl : lv_has ls 7 [(0, .ref b), (1, .ref (ad 0)), (2, .ref (ad 81)), (3, .ref (ad 89)), (4, .int x4)]) (hcs : cells + (k + 1) ≤ 601000 ∧ slots + 6 * (k + 1) ≤ 7290000) : W p l e room_1 s m #[Value.ref b] below meth c H locs cells slots (lw_Z below #[Value.ref b] s) (F0 m 678 ls []) := by
  obtain ⟨hx, hb, hr, hml, hown, hts0, hX, hbl, hlocks, hgv⟩ := C0
  have hts : ∀ w ∈ lw_tbl, w.before #[Value.ref b] s = true := hts0
  have hbA : ¬ gA z0 b := by rw [hz0]; exact Nat.not_le.mpr hbl
  unfold sL_law_c11 at hs
  refine lv_aload_n hx hb dL_law_678 rfl (lv_at hl 1 rfl) ?_
  refine lv_aload_n hx hb dL_law_679 rfl (lv_at hl 0 rfl) ?_
  refine lv_iload hx hb dL_law_680 (lv_at hl 4 rfl) ?_
  refine lv_iconst (v := 1) hx hb dL_law_682 (by decide) ?_
  refine lv_iadd hx hb dL_law_683 ?_
  refine g_chk hs (fun hc hs => ?_)
  refine va_sld hx hb hX hbl hbA hS hc dL_law_684 ?_
  refine lv_aload_n hx hb dL_law_685 rfl (lv_at hl 0 rfl) ?_
  refine lv_iload hx hb dL_law_686 (lv_at hl 4 rfl) ?_
  refine lv_iconst (v := 2) hx hb dL_law_688 (by decide) ?_
  refine lv_iadd hx hb dL_law_689 ?_
  refine g_chk hs (fun hc hs => ?_)
  refine va_sld hx hb hX hbl hbA hS hc dL_law_690 ?_
  refine lv_aload_n hx hb dL_law_691 rfl (lv_at hl 3 rfl) ?_
  refine g_bind hs (fun q_1 hq_1 hs => ?_)
  refine gCW (As := [.ref (ad 0), .int (xs (x4 + 1).toNatClampNeg), .int (xs (x4 + 2).toNatClampNeg), .ref (ad 89)]) (rest := []) ⟨hx, hb, hml, hown, hts⟩ (cL_fitting_c l hst D cy ad tL z0 hI n v u (xs (x4 + 1).toNatClampNeg) (xs (x4 + 2).toNatClampNeg) q_1.1 q_1.2.1 q_1.2.2 hq_1) (vx_cwSW 4 hts gL_law_L_fitting rfl rfl rfl (by decide +kernel) ⟨Nat.le_of_ble_eq_true rfl, Nat.le_of_ble_eq_true rfl⟩) hK hP hS hl.1 rfl rfl (Nat.le_of_ble_eq_true rfl) dL_law_692 ⟨show _ ≤ 601024 by omega, show _ ≤ 7293034 by omega⟩ (fun H locs hP hS => ?_)
  refine lv_istore (lv' := [(5, .int q_1.1), (0, .ref b), (1, .ref (ad 0)), (2, .ref (ad 81)), (3, .ref (ad 89)), (4, .int x4)]) hx hb dL_law_695 hl (by decide) rfl (fun ls hl => ?_)
  refine lv_aload_n hx hb dL_law_697 rfl (lv_at hl 3 rfl) ?_
  refine lv_aload_n hx hb dL_law_698 rfl (lv_at hl 1 rfl) ?_
  refine lv_iload hx hb dL_law_699 (lv_at hl 5 rfl) ?_
  refine lv_iconst (v := 1) hx hb dL_law_701 (by decide) ?_
  refine lv_iadd hx hb dL_law_702 ?_
  refine g_chk hs (fun hc hs => ?_)
  refine va_sld hx hb hX hbl hbA hS hc dL_law_703 ?_
  refine lv_aload_n hx hb dL_law_704 rfl (lv_at hl 1 rfl) ?_
  refine lv_iload hx hb dL_law_705 (lv_at hl 5 rfl) ?_
  refine lv_iconst (v := 2) hx hb dL_law_707 (by decide) ?_
  refine lv_iadd hx hb dL_law_708 ?_
  refine g_chk hs (fun hc hs => ?_)
  refine va_sld hx hb hX hbl hbA hS hc dL_law_709 ?_
  refine g_bind hs (fun q_2 hq_2 hs => ?_)
  refine gCV_i (As := [.int (xs (x4 + 1).toNatClampNeg), .int (xs (x4 + 2).toNatClampNeg)]) (rest := []) ⟨hx, hb, hml, hown, hts⟩ (cX6_fitting_c l D cy ad tL z0 hI n q_1.2.1 q_1.2.2 (xs (x4 + 1).toNatClampNeg) (xs (x4 + 2).toNatClampNeg) q_2.1 q_2.2 hq_2) (cwV 2 hts gL_law_X6_fitting rfl rfl rfl (by decide +kernel) ⟨Nat.le_of_ble_eq_true rfl, Nat.le_of_ble_eq_true rfl⟩) hK hP hS (va_recv hK.1 hP (ci := 6) (q0 := 81) rfl (gW_6 kd81)) hl.1 rfl rfl (Nat.le_of_ble_eq_true rfl) dL_law_710 ⟨show _ ≤ 601024 by omega, show _ ≤ 7293034 by omega⟩ (fun H locs hP hS => ?_)
  refine lv_istore (lv' := [(6, .int q_2.1), (5, .int q_1.1), (0, .ref b), (1, .ref (ad 0)), (2, .ref (ad 81)), (3, .ref (ad 89)), (4, .int x4)]) hx hb dL_law_713 hl (by decide) rfl (fun ls hl => ?_)
  refine lv_aload_n hx hb dL_law_715 rfl (lv_at hl 4 rfl) ?_
  refine g_bind hs (fun q_3 hq_3 hs => ?_)
  refine gCV_i (As := []) (rest := []) ⟨hx, hb, hml, hown, hts⟩ (cX6_thrown_c l D cy ad tL z0 hI q_2.2 q_1.2.2 q_3 hq_3) (cwV 0 hts gL_law_X6_thrown rfl rfl rfl (by decide +kernel) ⟨Nat.le_of_ble_eq_true rfl, Nat.le_of_ble_eq_true rfl⟩) hK hP hS (va_recv hK.1 hP (ci := 6) (q0 := 81) rfl (gW_6 kd81)) hl.1 rfl rfl (Nat.le_of_ble_eq_true rfl) dL_law_716 ⟨show _ ≤ 601024 by omega, show _ ≤ 7293034 by omega⟩ (fun H locs hP hS => ?_)
  refine lv_iload hx hb dL_law_719 (lv_at hl 1 rfl) ?_
  refine lv_icmp_eq (tgt := 726) hx hb dL_law_721 (by decide) (fun hc => ?_) (fun hc => ?_)
  · have hs := g_t hs hc
    refine lv_iload hx hb dL_law_726 (lv_at hl 1 rfl) ?_
    refine lv_if_ne (tgt := 743) hx hb dL_law_728 (by decide) (fun hc => ?_) (fun hc => ?_)
    · have hs := g_f hs hc
      refine lv_goto (tgt := 1121) hx hb dL_law_743 (by decide) ?_
      refine lv_iinc (v := x4 + 4) (lv' := [(4, .int (x4 + 4)), (6, .int q_2.1), (5, .int q_1.1), (0, .ref b), (1, .ref (ad 0)), (2, .ref (ad 81)), (3, .ref (ad 89))]) hx hb dL_law_1121 hl (k := 6) rfl rfl (by decide) rfl (fun ls hl => ?_)
      refine lv_goto (tgt := 23) hx hb dL_law_1124 (by decide) ?_
      exact ih q_2.2 q_1.2.2 (x4 + 4) _ _ _ _ _ hP hS (lv_sub hl [3, 4, 5, 6, 0] rfl) (by omega) hs
    · have hs := g_t hs hc
      refine lv_aload_n hx hb dL_law_731 rfl (lv_at hl 5 rfl) ?_
      refine lv_iconst (v := 0) hx hb dL_law_732 (by decide) ?_
      refine gLald hx hb hK hP dL_law_733 ?_
      refine lv_iload hx hb dL_law_734 (lv_at hl 0 rfl) ?_
      refine lv_i2l hx hb dL_law_736 rfl ?_
      refine W.lcmp hx hb dL_law_737 ?_
      refine lv_if_eq (tgt := 743) hx hb dL_law_738 (by decide) (fun hc => ?_) (fun hc => ?_)
      · have hs := g_t hs hc
        refine lv_goto (tgt := 1121) hx hb dL_law_743 (by decide) ?_
        refine lv_iinc (v := x4 + 4) (lv' := [(4, .int (x4 + 4)), (6, .int q_2.1), (5, .int q_1.1), (0, .ref b), (1, .ref (ad 0)), (2, .ref (ad 81)), (3, .ref (ad 89))]) hx hb dL_law_1121 hl (k := 6) rfl rfl (by decide) rfl (fun ls hl => ?_)
        refine lv_goto (tgt := 23) hx hb dL_law_1124 (by decide) ?_
        exact ih q_2.2 q_1.2.2 (x4 + 4) _ _ _ _ _ hP hS (lv_sub hl [3, 4, 5, 6, 0] rfl) (by omega) hs
      · have hs := g_f hs hc
        refine lv_iconst (v := 0) hx hb dL_law_741 (by decide) ?_
        exact absurd (g_some hs) (by decide)
  · have hs := g_f hs hc
    refine lv_iconst (v := 0) hx hb dL_law_724 (by decide) ?_
    exact absurd (g_some hs) (by decide)
set_option maxHeartbeats 4000000 in
set_option maxRecDepth 100000 in
theorem hL_law_c12 {p : Program} {e : Env} {s : State} {m : MethodId} {below : List Frame} {meth : Method} {c : Code} (l : Launch) (hst : l.stackTraces = false) {b L : Nat} {xs : Nat → Int32} (C0 : lw_At p s m meth c b L xs) (D : va_G) (cy : Nat → ClassId) (ad : Nat → Nat) (tL z0 : Nat) (hz0 : z0 = s.heap.size) (hI : gI z0 ad) (hK : gK D cy tL z0 s s.heap) (n : Nat) (k : Nat) (ih : (∀ (v : gV) (u : Int64) (x4 : Int32) (H : Heap) (locs : List Loc) (cells slots : Nat) (ls : Array Slot), va_P D vwCl (gW cy ad v u) H → va_S (gA z0) s.heap H locs → lv_has ls 7 [(0, .ref b), (1, .ref (ad 0)), (2, .ref (ad 81)), (3, .ref (ad 89)), (4, .int x4)] → (cells + k ≤ 601000 ∧ slots + 6 * k ≤ 7290000) → sL_law_23 n xs L k v u x4 = some 1 → W p l e room_1 s m #[Value.ref b] below meth c H locs cells slots (lw_Z below #[Value.ref b] s) (F0 m 23 ls []))) (v : gV) (u : Int64) (x4 : Int32) (hs : sL_law_c12 n xs L (sL_law_23 n xs L k) v u x4 = some 1) (H : Heap) (locs : List Loc) (cells slots : Nat) (ls : Array Slot) (hP : va_P D vwCl (gW cy ad v u) H) (hS : va_S (gA z0) s.heap H locs) (hl : lv_has ls 7 [(0, .ref b), (1, .ref (ad 0)), (2, .ref (ad 81)), (3, .ref (ad 89)), (4, .int x4)]) (hcs : cells + (k + 1) ≤ 601000 ∧ slots + 6 * (k + 1) ≤ 7290000) : W p l e room_1 s m #[Value.ref b] below meth c H locs cells slots (lw_Z below #[Value.ref b] s) (F0 m 746 ls []) := by
  obtain ⟨hx, hb, hr, hml, hown, hts0, hX, hbl, hlocks, hgv⟩ := C0
  have hts : ∀ w ∈ lw_tbl, w.before #[Value.ref b] s = true := hts0
  have hbA : ¬ gA z0 b := by rw [hz0]; exact Nat.not_le.mpr hbl
  unfold sL_law_c12 at hs
  refine lv_aload_n hx hb dL_law_746 rfl (lv_at hl 1 rfl) ?_
  refine g_bind hs (fun q_1 hq_1 hs => ?_)
  refine gCV_i (As := []) (rest := []) ⟨hx, hb, hml, hown, hts⟩ (cX5_candidates_c l D cy ad tL z0 hI v u q_1 hq_1) (cwV 0 hts gL_law_X5_candidates rfl rfl rfl (by decide +kernel) ⟨Nat.le_of_ble_eq_true rfl, Nat.le_of_ble_eq_true rfl⟩) hK hP hS (va_recv hK.1 hP (ci := 5) (q0 := 0) rfl (gW_5 kd0)) hl.1 rfl rfl (Nat.le_of_ble_eq_true rfl) dL_law_747 ⟨show _ ≤ 601024 by omega, show _ ≤ 7293034 by omega⟩ (fun H locs hP hS => ?_)
  refine lv_aload_n hx hb dL_law_750 rfl (lv_at hl 2 rfl) ?_
  refine g_bind hs (fun q_2 hq_2 hs => ?_)
  refine gCV_i (As := []) (rest := [.int q_1]) ⟨hx, hb, hml, hown, hts⟩ (cX6_candidates_c l D cy ad tL z0 hI v u q_2.1 q_2.2 hq_2) (cwV 0 hts gL_law_X6_candidates rfl rfl rfl (by decide +kernel) ⟨Nat.le_of_ble_eq_true rfl, Nat.le_of_ble_eq_true rfl⟩) hK hP hS (va_recv hK.1 hP (ci := 6) (q0 := 81) rfl (gW_6 kd81)) hl.1 rfl rfl (Nat.le_of_ble_eq_true rfl) dL_law_751 ⟨show _ ≤ 601024 by omega, show _ ≤ 7293034 by omega⟩ (fun H locs hP hS => ?_)
  refine lv_icmp_eq (tgt := 1121) hx hb dL_law_754 (by decide) (fun hc => ?_) (fun hc => ?_)
  · have hs := g_t hs hc
    refine lv_iinc (v := x4 + 4) (lv' := [(4, .int (x4 + 4)), (0, .ref b), (1, .ref (ad 0)), (2, .ref (ad 81)), (3, .ref (ad 89))]) hx hb dL_law_1121 hl (k := 4) rfl rfl (by decide) rfl (fun ls hl => ?_)
    refine lv_goto (tgt := 23) hx hb dL_law_1124 (by decide) ?_
    exact ih q_2.2 u (x4 + 4) _ _ _ _ _ hP hS (lv_sub hl [1, 2, 3, 4, 0] rfl) (by omega) hs
  · have hs := g_f hs hc
    refine lv_iconst (v := 0) hx hb dL_law_757 (by decide) ?_
    exact absurd (g_some hs) (by decide)
set_option maxHeartbeats 4000000 in
set_option maxRecDepth 100000 in
theorem hL_law_c13 {p : Program} {e : Env} {s : State} {m : MethodId} {below : List Frame} {meth : Method} {c : Code} (l : Launch) (hst : l.stackTraces = false) {b L : Nat} {xs : Nat → Int32} (C0 : lw_At p s m meth c b L xs) (D : va_G) (cy : Nat → ClassId) (ad : Nat → Nat) (tL z0 : Nat) (hz0 : z0 = s.heap.size) (hI : gI z0 ad) (hK : gK D cy tL z0 s s.heap) (n : Nat) (k : Nat) (ih : (∀ (v : gV) (u : Int64) (x4 : Int32) (H : Heap) (locs : List Loc) (cells slots : Nat) (ls : Array Slot), va_P D vwCl (gW cy ad v u) H → va_S (gA z0) s.heap H locs → lv_has ls 7 [(0, .ref b), (1, .ref (ad 0)), (2, .ref (ad 81)), (3, .ref (ad 89)), (4, .int x4)] → (cells + k ≤ 601000 ∧ slots + 6 * k ≤ 7290000) → sL_law_23 n xs L k v u x4 = some 1 → W p l e room_1 s m #[Value.ref b] below meth c H locs cells slots (lw_Z below #[Value.ref b] s) (F0 m 23 ls []))) (v : gV) (u : Int64) (x4 : Int32) (hs : sL_law_c13 n xs L (sL_law_23 n xs L k) v u x4 = some 1) (H : Heap) (locs : List Loc) (cells slots : Nat) (ls : Array Slot) (hP : va_P D vwCl (gW cy ad v u) H) (hS : va_S (gA z0) s.heap H locs) (hl : lv_has ls 7 [(0, .ref b), (1, .ref (ad 0)), (2, .ref (ad 81)), (3, .ref (ad 89)), (4, .int x4)]) (hcs : cells + (k + 1) ≤ 601000 ∧ slots + 6 * (k + 1) ≤ 7290000) : W p l e room_1 s m #[Value.ref b] below meth c H locs cells slots (lw_Z below #[Value.ref b] s) (F0 m 759 ls []) := by
  obtain ⟨hx, hb, hr, hml, hown, hts0, hX, hbl, hlocks, hgv⟩ := C0
  have hts : ∀ w ∈ lw_tbl, w.before #[Value.ref b] s = true := hts0
  have hbA : ¬ gA z0 b := by rw [hz0]; exact Nat.not_le.mpr hbl
  unfold sL_law_c13 at hs
  refine lv_aload_n hx hb dL_law_759 rfl (lv_at hl 1 rfl) ?_
  refine g_bind hs (fun q_1 hq_1 hs => ?_)
  refine gCV_i (As := []) (rest := []) ⟨hx, hb, hml, hown, hts⟩ (cX5_it_c l D cy ad tL z0 hI v u q_1 hq_1) (cwV 0 hts gL_law_X5_it rfl rfl rfl (by decide +kernel) ⟨Nat.le_of_ble_eq_true rfl, Nat.le_of_ble_eq_true rfl⟩) hK hP hS (va_recv hK.1 hP (ci := 5) (q0 := 0) rfl (gW_5 kd0)) hl.1 rfl rfl (Nat.le_of_ble_eq_true rfl) dL_law_760 ⟨show _ ≤ 601024 by omega, show _ ≤ 7293034 by omega⟩ (fun H locs hP hS => ?_)
  refine lv_aload_n hx hb dL_law_763 rfl (lv_at hl 2 rfl) ?_
  refine g_bind hs (fun q_2 hq_2 hs => ?_)
  refine gCV_i (As := []) (rest := [.int q_1]) ⟨hx, hb, hml, hown, hts⟩ (cX6_it_c l D cy ad tL z0 hI v u q_2.1 q_2.2 hq_2) (cwV 0 hts gL_law_X6_it rfl rfl rfl (by decide +kernel) ⟨Nat.le_of_ble_eq_true rfl, Nat.le_of_ble_eq_true rfl⟩) hK hP hS (va_recv hK.1 hP (ci := 6) (q0 := 81) rfl (gW_6 kd81)) hl.1 rfl rfl (Nat.le_of_ble_eq_true rfl) dL_law_764 ⟨show _ ≤ 601024 by omega, show _ ≤ 7293034 by omega⟩ (fun H locs hP hS => ?_)
  refine lv_icmp_eq (tgt := 1121) hx hb dL_law_767 (by decide) (fun hc => ?_) (fun hc => ?_)
  · have hs := g_t hs hc
    refine lv_iinc (v := x4 + 4) (lv' := [(4, .int (x4 + 4)), (0, .ref b), (1, .ref (ad 0)), (2, .ref (ad 81)), (3, .ref (ad 89))]) hx hb dL_law_1121 hl (k := 4) rfl rfl (by decide) rfl (fun ls hl => ?_)
    refine lv_goto (tgt := 23) hx hb dL_law_1124 (by decide) ?_
    exact ih q_2.2 u (x4 + 4) _ _ _ _ _ hP hS (lv_sub hl [1, 2, 3, 4, 0] rfl) (by omega) hs
  · have hs := g_f hs hc
    refine lv_iconst (v := 0) hx hb dL_law_770 (by decide) ?_
    exact absurd (g_some hs) (by decide)
set_option maxHeartbeats 4000000 in
set_option maxRecDepth 100000 in
theorem hL_law_c14 {p : Program} {e : Env} {s : State} {m : MethodId} {below : List Frame} {meth : Method} {c : Code} (l : Launch) (hst : l.stackTraces = false) {b L : Nat} {xs : Nat → Int32} (C0 : lw_At p s m meth c b L xs) (D : va_G) (cy : Nat → ClassId) (ad : Nat → Nat) (tL z0 : Nat) (hz0 : z0 = s.heap.size) (hI : gI z0 ad) (hK : gK D cy tL z0 s s.heap) (n : Nat) (k : Nat) (ih : (∀ (v : gV) (u : Int64) (x4 : Int32) (H : Heap) (locs : List Loc) (cells slots : Nat) (ls : Array Slot), va_P D vwCl (gW cy ad v u) H → va_S (gA z0) s.heap H locs → lv_has ls 7 [(0, .ref b), (1, .ref (ad 0)), (2, .ref (ad 81)), (3, .ref (ad 89)), (4, .int x4)] → (cells + k ≤ 601000 ∧ slots + 6 * k ≤ 7290000) → sL_law_23 n xs L k v u x4 = some 1 → W p l e room_1 s m #[Value.ref b] below meth c H locs cells slots (lw_Z below #[Value.ref b] s) (F0 m 23 ls []))) (v : gV) (u : Int64) (x4 : Int32) (hs : sL_law_c14 n xs L (sL_law_23 n xs L k) v u x4 = some 1) (H : Heap) (locs : List Loc) (cells slots : Nat) (ls : Array Slot) (hP : va_P D vwCl (gW cy ad v u) H) (hS : va_S (gA z0) s.heap H locs) (hl : lv_has ls 7 [(0, .ref b), (1, .ref (ad 0)), (2, .ref (ad 81)), (3, .ref (ad 89)), (4, .int x4)]) (hcs : cells + (k + 1) ≤ 601000 ∧ slots + 6 * (k + 1) ≤ 7290000) : W p l e room_1 s m #[Value.ref b] below meth c H locs cells slots (lw_Z below #[Value.ref b] s) (F0 m 772 ls []) := by
  obtain ⟨hx, hb, hr, hml, hown, hts0, hX, hbl, hlocks, hgv⟩ := C0
  have hts : ∀ w ∈ lw_tbl, w.before #[Value.ref b] s = true := hts0
  have hbA : ¬ gA z0 b := by rw [hz0]; exact Nat.not_le.mpr hbl
  unfold sL_law_c14 at hs
  refine lv_aload_n hx hb dL_law_772 rfl (lv_at hl 1 rfl) ?_
  refine g_bind hs (fun q_1 hq_1 hs => ?_)
  refine gCV_i (As := []) (rest := []) ⟨hx, hb, hml, hown, hts⟩ (cX5_them_c l D cy ad tL z0 hI v u q_1 hq_1) (cwV 0 hts gL_law_X5_them rfl rfl rfl (by decide +kernel) ⟨Nat.le_of_ble_eq_true rfl, Nat.le_of_ble_eq_true rfl⟩) hK hP hS (va_recv hK.1 hP (ci := 5) (q0 := 0) rfl (gW_5 kd0)) hl.1 rfl rfl (Nat.le_of_ble_eq_true rfl) dL_law_773 ⟨show _ ≤ 601024 by omega, show _ ≤ 7293034 by omega⟩ (fun H locs hP hS => ?_)
  refine lv_aload_n hx hb dL_law_776 rfl (lv_at hl 2 rfl) ?_
  refine g_bind hs (fun q_2 hq_2 hs => ?_)
  refine gCV_i (As := []) (rest := [.int q_1]) ⟨hx, hb, hml, hown, hts⟩ (cX6_them_c l D cy ad tL z0 hI v u q_2.1 q_2.2 hq_2) (cwV 0 hts gL_law_X6_them rfl rfl rfl (by decide +kernel) ⟨Nat.le_of_ble_eq_true rfl, Nat.le_of_ble_eq_true rfl⟩) hK hP hS (va_recv hK.1 hP (ci := 6) (q0 := 81) rfl (gW_6 kd81)) hl.1 rfl rfl (Nat.le_of_ble_eq_true rfl) dL_law_777 ⟨show _ ≤ 601024 by omega, show _ ≤ 7293034 by omega⟩ (fun H locs hP hS => ?_)
  refine lv_icmp_eq (tgt := 1121) hx hb dL_law_780 (by decide) (fun hc => ?_) (fun hc => ?_)
  · have hs := g_t hs hc
    refine lv_iinc (v := x4 + 4) (lv' := [(4, .int (x4 + 4)), (0, .ref b), (1, .ref (ad 0)), (2, .ref (ad 81)), (3, .ref (ad 89))]) hx hb dL_law_1121 hl (k := 4) rfl rfl (by decide) rfl (fun ls hl => ?_)
    refine lv_goto (tgt := 23) hx hb dL_law_1124 (by decide) ?_
    exact ih q_2.2 u (x4 + 4) _ _ _ _ _ hP hS (lv_sub hl [1, 2, 3, 4, 0] rfl) (by omega) hs
  · have hs := g_f hs hc
    refine lv_iconst (v := 0) hx hb dL_law_783 (by decide) ?_
    exact absurd (g_some hs) (by decide)
set_option maxHeartbeats 4000000 in
set_option maxRecDepth 100000 in
theorem hL_law_c15 {p : Program} {e : Env} {s : State} {m : MethodId} {below : List Frame} {meth : Method} {c : Code} (l : Launch) (hst : l.stackTraces = false) {b L : Nat} {xs : Nat → Int32} (C0 : lw_At p s m meth c b L xs) (D : va_G) (cy : Nat → ClassId) (ad : Nat → Nat) (tL z0 : Nat) (hz0 : z0 = s.heap.size) (hI : gI z0 ad) (hK : gK D cy tL z0 s s.heap) (n : Nat) (k : Nat) (ih : (∀ (v : gV) (u : Int64) (x4 : Int32) (H : Heap) (locs : List Loc) (cells slots : Nat) (ls : Array Slot), va_P D vwCl (gW cy ad v u) H → va_S (gA z0) s.heap H locs → lv_has ls 7 [(0, .ref b), (1, .ref (ad 0)), (2, .ref (ad 81)), (3, .ref (ad 89)), (4, .int x4)] → (cells + k ≤ 601000 ∧ slots + 6 * k ≤ 7290000) → sL_law_23 n xs L k v u x4 = some 1 → W p l e room_1 s m #[Value.ref b] below meth c H locs cells slots (lw_Z below #[Value.ref b] s) (F0 m 23 ls []))) (v : gV) (u : Int64) (x4 : Int32) (hs : sL_law_c15 n xs L (sL_law_23 n xs L k) v u x4 = some 1) (H : Heap) (locs : List Loc) (cells slots : Nat) (ls : Array Slot) (hP : va_P D vwCl (gW cy ad v u) H) (hS : va_S (gA z0) s.heap H locs) (hl : lv_has ls 7 [(0, .ref b), (1, .ref (ad 0)), (2, .ref (ad 81)), (3, .ref (ad 89)), (4, .int x4)]) (hcs : cells + (k + 1) ≤ 601000 ∧ slots + 6 * (k + 1) ≤ 7290000) : W p l e room_1 s m #[Value.ref b] below meth c H locs cells slots (lw_Z below #[Value.ref b] s) (F0 m 785 ls []) := by
  obtain ⟨hx, hb, hr, hml, hown, hts0, hX, hbl, hlocks, hgv⟩ := C0
  have hts : ∀ w ∈ lw_tbl, w.before #[Value.ref b] s = true := hts0
  have hbA : ¬ gA z0 b := by rw [hz0]; exact Nat.not_le.mpr hbl
  unfold sL_law_c15 at hs
  refine lv_aload_n hx hb dL_law_785 rfl (lv_at hl 1 rfl) ?_
  refine lv_aload_n hx hb dL_law_786 rfl (lv_at hl 0 rfl) ?_
  refine lv_iload hx hb dL_law_787 (lv_at hl 4 rfl) ?_
  refine lv_iconst (v := 1) hx hb dL_law_789 (by decide) ?_
  refine lv_iadd hx hb dL_law_790 ?_
  refine g_chk hs (fun hc hs => ?_)
  refine va_sld hx hb hX hbl hbA hS hc dL_law_791 ?_
  refine lv_aload_n hx hb dL_law_792 rfl (lv_at hl 3 rfl) ?_
  refine g_bind hs (fun q_1 hq_1 hs => ?_)
  refine gCW (As := [.ref (ad 0), .int (xs (x4 + 1).toNatClampNeg), .ref (ad 89)]) (rest := []) ⟨hx, hb, hml, hown, hts⟩ (cL_append_c l hst D cy ad tL z0 hI v u (xs (x4 + 1).toNatClampNeg) q_1.1 q_1.2.1 q_1.2.2 hq_1) (vx_cwSW 3 hts gL_law_L_append rfl rfl rfl (by decide +kernel) ⟨Nat.le_of_ble_eq_true rfl, Nat.le_of_ble_eq_true rfl⟩) hK hP hS hl.1 rfl rfl (Nat.le_of_ble_eq_true rfl) dL_law_793 ⟨show _ ≤ 601024 by omega, show _ ≤ 7293034 by omega⟩ (fun H locs hP hS => ?_)
  refine lv_istore (lv' := [(5, .int q_1.1), (0, .ref b), (1, .ref (ad 0)), (2, .ref (ad 81)), (3, .ref (ad 89)), (4, .int x4)]) hx hb dL_law_796 hl (by decide) rfl (fun ls hl => ?_)
  refine lv_aload_n hx hb dL_law_798 rfl (lv_at hl 3 rfl) ?_
  refine lv_aload_n hx hb dL_law_799 rfl (lv_at hl 1 rfl) ?_
  refine lv_iload hx hb dL_law_800 (lv_at hl 5 rfl) ?_
  refine lv_iconst (v := 1) hx hb dL_law_802 (by decide) ?_
  refine lv_iadd hx hb dL_law_803 ?_
  refine g_chk hs (fun hc hs => ?_)
  refine va_sld hx hb hX hbl hbA hS hc dL_law_804 ?_
  refine g_bind hs (fun q_2 hq_2 hs => ?_)
  refine gCV_i (As := [.int (xs (x4 + 1).toNatClampNeg)]) (rest := []) ⟨hx, hb, hml, hown, hts⟩ (cX6_append_c l D cy ad tL z0 hI q_1.2.1 q_1.2.2 (xs (x4 + 1).toNatClampNeg) q_2.1 q_2.2 hq_2) (cwV 1 hts gL_law_X6_append rfl rfl rfl (by decide +kernel) ⟨Nat.le_of_ble_eq_true rfl, Nat.le_of_ble_eq_true rfl⟩) hK hP hS (va_recv hK.1 hP (ci := 6) (q0 := 81) rfl (gW_6 kd81)) hl.1 rfl rfl (Nat.le_of_ble_eq_true rfl) dL_law_805 ⟨show _ ≤ 601024 by omega, show _ ≤ 7293034 by omega⟩ (fun H locs hP hS => ?_)
  refine lv_istore (lv' := [(6, .int q_2.1), (5, .int q_1.1), (0, .ref b), (1, .ref (ad 0)), (2, .ref (ad 81)), (3, .ref (ad 89)), (4, .int x4)]) hx hb dL_law_808 hl (by decide) rfl (fun ls hl => ?_)
  refine lv_aload_n hx hb dL_law_810 rfl (lv_at hl 4 rfl) ?_
  refine g_bind hs (fun q_3 hq_3 hs => ?_)
  refine gCV_i (As := []) (rest := []) ⟨hx, hb, hml, hown, hts⟩ (cX6_thrown_c l D cy ad tL z0 hI q_2.2 q_1.2.2 q_3 hq_3) (cwV 0 hts gL_law_X6_thrown rfl rfl rfl (by decide +kernel) ⟨Nat.le_of_ble_eq_true rfl, Nat.le_of_ble_eq_true rfl⟩) hK hP hS (va_recv hK.1 hP (ci := 6) (q0 := 81) rfl (gW_6 kd81)) hl.1 rfl rfl (Nat.le_of_ble_eq_true rfl) dL_law_811 ⟨show _ ≤ 601024 by omega, show _ ≤ 7293034 by omega⟩ (fun H locs hP hS => ?_)
  refine lv_iload hx hb dL_law_814 (lv_at hl 1 rfl) ?_
  refine lv_icmp_eq (tgt := 821) hx hb dL_law_816 (by decide) (fun hc => ?_) (fun hc => ?_)
  · have hs := g_t hs hc
    refine lv_iload hx hb dL_law_821 (lv_at hl 1 rfl) ?_
    refine lv_if_ne (tgt := 838) hx hb dL_law_823 (by decide) (fun hc => ?_) (fun hc => ?_)
    · have hs := g_f hs hc
      refine lv_goto (tgt := 1121) hx hb dL_law_838 (by decide) ?_
      refine lv_iinc (v := x4 + 4) (lv' := [(4, .int (x4 + 4)), (6, .int q_2.1), (5, .int q_1.1), (0, .ref b), (1, .ref (ad 0)), (2, .ref (ad 81)), (3, .ref (ad 89))]) hx hb dL_law_1121 hl (k := 6) rfl rfl (by decide) rfl (fun ls hl => ?_)
      refine lv_goto (tgt := 23) hx hb dL_law_1124 (by decide) ?_
      exact ih q_2.2 q_1.2.2 (x4 + 4) _ _ _ _ _ hP hS (lv_sub hl [3, 4, 5, 6, 0] rfl) (by omega) hs
    · have hs := g_t hs hc
      refine lv_aload_n hx hb dL_law_826 rfl (lv_at hl 5 rfl) ?_
      refine lv_iconst (v := 0) hx hb dL_law_827 (by decide) ?_
      refine gLald hx hb hK hP dL_law_828 ?_
      refine lv_iload hx hb dL_law_829 (lv_at hl 0 rfl) ?_
      refine lv_i2l hx hb dL_law_831 rfl ?_
      refine W.lcmp hx hb dL_law_832 ?_
      refine lv_if_eq (tgt := 838) hx hb dL_law_833 (by decide) (fun hc => ?_) (fun hc => ?_)
      · have hs := g_t hs hc
        refine lv_goto (tgt := 1121) hx hb dL_law_838 (by decide) ?_
        refine lv_iinc (v := x4 + 4) (lv' := [(4, .int (x4 + 4)), (6, .int q_2.1), (5, .int q_1.1), (0, .ref b), (1, .ref (ad 0)), (2, .ref (ad 81)), (3, .ref (ad 89))]) hx hb dL_law_1121 hl (k := 6) rfl rfl (by decide) rfl (fun ls hl => ?_)
        refine lv_goto (tgt := 23) hx hb dL_law_1124 (by decide) ?_
        exact ih q_2.2 q_1.2.2 (x4 + 4) _ _ _ _ _ hP hS (lv_sub hl [3, 4, 5, 6, 0] rfl) (by omega) hs
      · have hs := g_f hs hc
        refine lv_iconst (v := 0) hx hb dL_law_836 (by decide) ?_
        exact absurd (g_some hs) (by decide)
  · have hs := g_f hs hc
    refine lv_iconst (v := 0) hx hb dL_law_819 (by decide) ?_
    exact absurd (g_some hs) (by decide)
set_option maxHeartbeats 4000000 in
set_option maxRecDepth 100000 in
theorem hL_law_c16 {p : Program} {e : Env} {s : State} {m : MethodId} {below : List Frame} {meth : Method} {c : Code} (l : Launch) (hst : l.stackTraces = false) {b L : Nat} {xs : Nat → Int32} (C0 : lw_At p s m meth c b L xs) (D : va_G) (cy : Nat → ClassId) (ad : Nat → Nat) (tL z0 : Nat) (hz0 : z0 = s.heap.size) (hI : gI z0 ad) (hK : gK D cy tL z0 s s.heap) (n : Nat) (k : Nat) (ih : (∀ (v : gV) (u : Int64) (x4 : Int32) (H : Heap) (locs : List Loc) (cells slots : Nat) (ls : Array Slot), va_P D vwCl (gW cy ad v u) H → va_S (gA z0) s.heap H locs → lv_has ls 7 [(0, .ref b), (1, .ref (ad 0)), (2, .ref (ad 81)), (3, .ref (ad 89)), (4, .int x4)] → (cells + k ≤ 601000 ∧ slots + 6 * k ≤ 7290000) → sL_law_23 n xs L k v u x4 = some 1 → W p l e room_1 s m #[Value.ref b] below meth c H locs cells slots (lw_Z below #[Value.ref b] s) (F0 m 23 ls []))) (v : gV) (u : Int64) (x4 : Int32) (hs : sL_law_c16 n xs L (sL_law_23 n xs L k) v u x4 = some 1) (H : Heap) (locs : List Loc) (cells slots : Nat) (ls : Array Slot) (hP : va_P D vwCl (gW cy ad v u) H) (hS : va_S (gA z0) s.heap H locs) (hl : lv_has ls 7 [(0, .ref b), (1, .ref (ad 0)), (2, .ref (ad 81)), (3, .ref (ad 89)), (4, .int x4)]) (hcs : cells + (k + 1) ≤ 601000 ∧ slots + 6 * (k + 1) ≤ 7290000) : W p l e room_1 s m #[Value.ref b] below meth c H locs cells slots (lw_Z below #[Value.ref b] s) (F0 m 841 ls []) := by
  obtain ⟨hx, hb, hr, hml, hown, hts0, hX, hbl, hlocks, hgv⟩ := C0
  have hts : ∀ w ∈ lw_tbl, w.before #[Value.ref b] s = true := hts0
  have hbA : ¬ gA z0 b := by rw [hz0]; exact Nat.not_le.mpr hbl
  unfold sL_law_c16 at hs
  refine lv_aload_n hx hb dL_law_841 rfl (lv_at hl 1 rfl) ?_
  refine lv_aload_n hx hb dL_law_842 rfl (lv_at hl 0 rfl) ?_
  refine lv_iload hx hb dL_law_843 (lv_at hl 4 rfl) ?_
  refine lv_iconst (v := 1) hx hb dL_law_845 (by decide) ?_
  refine lv_iadd hx hb dL_law_846 ?_
  refine g_chk hs (fun hc hs => ?_)
  refine va_sld hx hb hX hbl hbA hS hc dL_law_847 ?_
  refine lv_aload_n hx hb dL_law_848 rfl (lv_at hl 3 rfl) ?_
  refine g_bind hs (fun q_1 hq_1 hs => ?_)
  refine gCW (As := [.ref (ad 0), .int (xs (x4 + 1).toNatClampNeg), .ref (ad 89)]) (rest := []) ⟨hx, hb, hml, hown, hts⟩ (cL_appendWord_c l hst D cy ad tL z0 hI n v u (xs (x4 + 1).toNatClampNeg) q_1.1 q_1.2.1 q_1.2.2 hq_1) (vx_cwSW 3 hts gL_law_L_appendWord rfl rfl rfl (by decide +kernel) ⟨Nat.le_of_ble_eq_true rfl, Nat.le_of_ble_eq_true rfl⟩) hK hP hS hl.1 rfl rfl (Nat.le_of_ble_eq_true rfl) dL_law_849 ⟨show _ ≤ 601024 by omega, show _ ≤ 7293034 by omega⟩ (fun H locs hP hS => ?_)
  refine lv_istore (lv' := [(5, .int q_1.1), (0, .ref b), (1, .ref (ad 0)), (2, .ref (ad 81)), (3, .ref (ad 89)), (4, .int x4)]) hx hb dL_law_852 hl (by decide) rfl (fun ls hl => ?_)
  refine lv_aload_n hx hb dL_law_854 rfl (lv_at hl 3 rfl) ?_
  refine lv_aload_n hx hb dL_law_855 rfl (lv_at hl 1 rfl) ?_
  refine lv_iload hx hb dL_law_856 (lv_at hl 5 rfl) ?_
  refine lv_iconst (v := 1) hx hb dL_law_858 (by decide) ?_
  refine lv_iadd hx hb dL_law_859 ?_
  refine g_chk hs (fun hc hs => ?_)
  refine va_sld hx hb hX hbl hbA hS hc dL_law_860 ?_
  refine g_bind hs (fun q_2 hq_2 hs => ?_)
  refine gCV_i (As := [.int (xs (x4 + 1).toNatClampNeg)]) (rest := []) ⟨hx, hb, hml, hown, hts⟩ (cX6_appendWord_c l D cy ad tL z0 hI n q_1.2.1 q_1.2.2 (xs (x4 + 1).toNatClampNeg) q_2.1 q_2.2 hq_2) (cwV 1 hts gL_law_X6_appendWord rfl rfl rfl (by decide +kernel) ⟨Nat.le_of_ble_eq_true rfl, Nat.le_of_ble_eq_true rfl⟩) hK hP hS (va_recv hK.1 hP (ci := 6) (q0 := 81) rfl (gW_6 kd81)) hl.1 rfl rfl (Nat.le_of_ble_eq_true rfl) dL_law_861 ⟨show _ ≤ 601024 by omega, show _ ≤ 7293034 by omega⟩ (fun H locs hP hS => ?_)
  refine lv_istore (lv' := [(6, .int q_2.1), (5, .int q_1.1), (0, .ref b), (1, .ref (ad 0)), (2, .ref (ad 81)), (3, .ref (ad 89)), (4, .int x4)]) hx hb dL_law_864 hl (by decide) rfl (fun ls hl => ?_)
  refine lv_aload_n hx hb dL_law_866 rfl (lv_at hl 4 rfl) ?_
  refine g_bind hs (fun q_3 hq_3 hs => ?_)
  refine gCV_i (As := []) (rest := []) ⟨hx, hb, hml, hown, hts⟩ (cX6_thrown_c l D cy ad tL z0 hI q_2.2 q_1.2.2 q_3 hq_3) (cwV 0 hts gL_law_X6_thrown rfl rfl rfl (by decide +kernel) ⟨Nat.le_of_ble_eq_true rfl, Nat.le_of_ble_eq_true rfl⟩) hK hP hS (va_recv hK.1 hP (ci := 6) (q0 := 81) rfl (gW_6 kd81)) hl.1 rfl rfl (Nat.le_of_ble_eq_true rfl) dL_law_867 ⟨show _ ≤ 601024 by omega, show _ ≤ 7293034 by omega⟩ (fun H locs hP hS => ?_)
  refine lv_iload hx hb dL_law_870 (lv_at hl 1 rfl) ?_
  refine lv_icmp_eq (tgt := 877) hx hb dL_law_872 (by decide) (fun hc => ?_) (fun hc => ?_)
  · have hs := g_t hs hc
    refine lv_iload hx hb dL_law_877 (lv_at hl 1 rfl) ?_
    refine lv_if_ne (tgt := 894) hx hb dL_law_879 (by decide) (fun hc => ?_) (fun hc => ?_)
    · have hs := g_f hs hc
      refine lv_goto (tgt := 1121) hx hb dL_law_894 (by decide) ?_
      refine lv_iinc (v := x4 + 4) (lv' := [(4, .int (x4 + 4)), (6, .int q_2.1), (5, .int q_1.1), (0, .ref b), (1, .ref (ad 0)), (2, .ref (ad 81)), (3, .ref (ad 89))]) hx hb dL_law_1121 hl (k := 6) rfl rfl (by decide) rfl (fun ls hl => ?_)
      refine lv_goto (tgt := 23) hx hb dL_law_1124 (by decide) ?_
      exact ih q_2.2 q_1.2.2 (x4 + 4) _ _ _ _ _ hP hS (lv_sub hl [3, 4, 5, 6, 0] rfl) (by omega) hs
    · have hs := g_t hs hc
      refine lv_aload_n hx hb dL_law_882 rfl (lv_at hl 5 rfl) ?_
      refine lv_iconst (v := 0) hx hb dL_law_883 (by decide) ?_
      refine gLald hx hb hK hP dL_law_884 ?_
      refine lv_iload hx hb dL_law_885 (lv_at hl 0 rfl) ?_
      refine lv_i2l hx hb dL_law_887 rfl ?_
      refine W.lcmp hx hb dL_law_888 ?_
      refine lv_if_eq (tgt := 894) hx hb dL_law_889 (by decide) (fun hc => ?_) (fun hc => ?_)
      · have hs := g_t hs hc
        refine lv_goto (tgt := 1121) hx hb dL_law_894 (by decide) ?_
        refine lv_iinc (v := x4 + 4) (lv' := [(4, .int (x4 + 4)), (6, .int q_2.1), (5, .int q_1.1), (0, .ref b), (1, .ref (ad 0)), (2, .ref (ad 81)), (3, .ref (ad 89))]) hx hb dL_law_1121 hl (k := 6) rfl rfl (by decide) rfl (fun ls hl => ?_)
        refine lv_goto (tgt := 23) hx hb dL_law_1124 (by decide) ?_
        exact ih q_2.2 q_1.2.2 (x4 + 4) _ _ _ _ _ hP hS (lv_sub hl [3, 4, 5, 6, 0] rfl) (by omega) hs
      · have hs := g_f hs hc
        refine lv_iconst (v := 0) hx hb dL_law_892 (by decide) ?_
        exact absurd (g_some hs) (by decide)
  · have hs := g_f hs hc
    refine lv_iconst (v := 0) hx hb dL_law_875 (by decide) ?_
    exact absurd (g_some hs) (by decide)
set_option maxHeartbeats 4000000 in
set_option maxRecDepth 100000 in
theorem hL_law_c17 {p : Program} {e : Env} {s : State} {m : MethodId} {below : List Frame} {meth : Method} {c : Code} (l : Launch) (hst : l.stackTraces = false) {b L : Nat} {xs : Nat → Int32} (C0 : lw_At p s m meth c b L xs) (D : va_G) (cy : Nat → ClassId) (ad : Nat → Nat) (tL z0 : Nat) (hz0 : z0 = s.heap.size) (hI : gI z0 ad) (hK : gK D cy tL z0 s s.heap) (n : Nat) (k : Nat) (ih : (∀ (v : gV) (u : Int64) (x4 : Int32) (H : Heap) (locs : List Loc) (cells slots : Nat) (ls : Array Slot), va_P D vwCl (gW cy ad v u) H → va_S (gA z0) s.heap H locs → lv_has ls 7 [(0, .ref b), (1, .ref (ad 0)), (2, .ref (ad 81)), (3, .ref (ad 89)), (4, .int x4)] → (cells + k ≤ 601000 ∧ slots + 6 * k ≤ 7290000) → sL_law_23 n xs L k v u x4 = some 1 → W p l e room_1 s m #[Value.ref b] below meth c H locs cells slots (lw_Z below #[Value.ref b] s) (F0 m 23 ls []))) (v : gV) (u : Int64) (x4 : Int32) (hs : sL_law_c17 n xs L (sL_law_23 n xs L k) v u x4 = some 1) (H : Heap) (locs : List Loc) (cells slots : Nat) (ls : Array Slot) (hP : va_P D vwCl (gW cy ad v u) H) (hS : va_S (gA z0) s.heap H locs) (hl : lv_has ls 7 [(0, .ref b), (1, .ref (ad 0)), (2, .ref (ad 81)), (3, .ref (ad 89)), (4, .int x4)]) (hcs : cells + (k + 1) ≤ 601000 ∧ slots + 6 * (k + 1) ≤ 7290000) : W p l e room_1 s m #[Value.ref b] below meth c H locs cells slots (lw_Z below #[Value.ref b] s) (F0 m 897 ls []) := by
  obtain ⟨hx, hb, hr, hml, hown, hts0, hX, hbl, hlocks, hgv⟩ := C0
  have hts : ∀ w ∈ lw_tbl, w.before #[Value.ref b] s = true := hts0
  have hbA : ¬ gA z0 b := by rw [hz0]; exact Nat.not_le.mpr hbl
  unfold sL_law_c17 at hs
  refine lv_aload_n hx hb dL_law_897 rfl (lv_at hl 1 rfl) ?_
  refine g_bind hs (fun q_1 hq_1 hs => ?_)
  refine gCV_i (As := []) (rest := []) ⟨hx, hb, hml, hown, hts⟩ (cX5_clearBuffer_c l D cy ad tL z0 hI v u q_1.1 q_1.2 hq_1) (cwV 0 hts gL_law_X5_clearBuffer rfl rfl rfl (by decide +kernel) ⟨Nat.le_of_ble_eq_true rfl, Nat.le_of_ble_eq_true rfl⟩) hK hP hS (va_recv hK.1 hP (ci := 5) (q0 := 0) rfl (gW_5 kd0)) hl.1 rfl rfl (Nat.le_of_ble_eq_true rfl) dL_law_898 ⟨show _ ≤ 601024 by omega, show _ ≤ 7293034 by omega⟩ (fun H locs hP hS => ?_)
  refine lv_aload_n hx hb dL_law_901 rfl (lv_at hl 2 rfl) ?_
  refine g_bind hs (fun q_2 hq_2 hs => ?_)
  refine gCV_i (As := []) (rest := [.int q_1.1]) ⟨hx, hb, hml, hown, hts⟩ (cX6_clearBuffer_c l D cy ad tL z0 hI q_1.2 u q_2.1 q_2.2 hq_2) (cwV 0 hts gL_law_X6_clearBuffer rfl rfl rfl (by decide +kernel) ⟨Nat.le_of_ble_eq_true rfl, Nat.le_of_ble_eq_true rfl⟩) hK hP hS (va_recv hK.1 hP (ci := 6) (q0 := 81) rfl (gW_6 kd81)) hl.1 rfl rfl (Nat.le_of_ble_eq_true rfl) dL_law_902 ⟨show _ ≤ 601024 by omega, show _ ≤ 7293034 by omega⟩ (fun H locs hP hS => ?_)
  refine lv_icmp_eq (tgt := 1121) hx hb dL_law_905 (by decide) (fun hc => ?_) (fun hc => ?_)
  · have hs := g_t hs hc
    refine lv_iinc (v := x4 + 4) (lv' := [(4, .int (x4 + 4)), (0, .ref b), (1, .ref (ad 0)), (2, .ref (ad 81)), (3, .ref (ad 89))]) hx hb dL_law_1121 hl (k := 4) rfl rfl (by decide) rfl (fun ls hl => ?_)
    refine lv_goto (tgt := 23) hx hb dL_law_1124 (by decide) ?_
    exact ih q_2.2 u (x4 + 4) _ _ _ _ _ hP hS (lv_sub hl [1, 2, 3, 4, 0] rfl) (by omega) hs
  · have hs := g_f hs hc
    refine lv_iconst (v := 0) hx hb dL_law_908 (by decide) ?_
    exact absurd (g_some hs) (by decide)
set_option maxHeartbeats 4000000 in
set_option maxRecDepth 100000 in
theorem hL_law_c18 {p : Program} {e : Env} {s : State} {m : MethodId} {below : List Frame} {meth : Method} {c : Code} (l : Launch) (hst : l.stackTraces = false) {b L : Nat} {xs : Nat → Int32} (C0 : lw_At p s m meth c b L xs) (D : va_G) (cy : Nat → ClassId) (ad : Nat → Nat) (tL z0 : Nat) (hz0 : z0 = s.heap.size) (hI : gI z0 ad) (hK : gK D cy tL z0 s s.heap) (n : Nat) (k : Nat) (ih : (∀ (v : gV) (u : Int64) (x4 : Int32) (H : Heap) (locs : List Loc) (cells slots : Nat) (ls : Array Slot), va_P D vwCl (gW cy ad v u) H → va_S (gA z0) s.heap H locs → lv_has ls 7 [(0, .ref b), (1, .ref (ad 0)), (2, .ref (ad 81)), (3, .ref (ad 89)), (4, .int x4)] → (cells + k ≤ 601000 ∧ slots + 6 * k ≤ 7290000) → sL_law_23 n xs L k v u x4 = some 1 → W p l e room_1 s m #[Value.ref b] below meth c H locs cells slots (lw_Z below #[Value.ref b] s) (F0 m 23 ls []))) (v : gV) (u : Int64) (x4 : Int32) (hs : sL_law_c18 n xs L (sL_law_23 n xs L k) v u x4 = some 1) (H : Heap) (locs : List Loc) (cells slots : Nat) (ls : Array Slot) (hP : va_P D vwCl (gW cy ad v u) H) (hS : va_S (gA z0) s.heap H locs) (hl : lv_has ls 7 [(0, .ref b), (1, .ref (ad 0)), (2, .ref (ad 81)), (3, .ref (ad 89)), (4, .int x4)]) (hcs : cells + (k + 1) ≤ 601000 ∧ slots + 6 * (k + 1) ≤ 7290000) : W p l e room_1 s m #[Value.ref b] below meth c H locs cells slots (lw_Z below #[Value.ref b] s) (F0 m 910 ls []) := by
  obtain ⟨hx, hb, hr, hml, hown, hts0, hX, hbl, hlocks, hgv⟩ := C0
  have hts : ∀ w ∈ lw_tbl, w.before #[Value.ref b] s = true := hts0
  have hbA : ¬ gA z0 b := by rw [hz0]; exact Nat.not_le.mpr hbl
  unfold sL_law_c18 at hs
  refine lv_aload_n hx hb dL_law_910 rfl (lv_at hl 1 rfl) ?_
  refine g_bind hs (fun q_1 hq_1 hs => ?_)
  refine gCV_i (As := []) (rest := []) ⟨hx, hb, hml, hown, hts⟩ (cX5_firstError_c l D cy ad tL z0 hI n v u q_1.1 q_1.2 hq_1) (cwV 0 hts gL_law_X5_firstError rfl rfl rfl (by decide +kernel) ⟨Nat.le_of_ble_eq_true rfl, Nat.le_of_ble_eq_true rfl⟩) hK hP hS (va_recv hK.1 hP (ci := 5) (q0 := 0) rfl (gW_5 kd0)) hl.1 rfl rfl (Nat.le_of_ble_eq_true rfl) dL_law_911 ⟨show _ ≤ 601024 by omega, show _ ≤ 7293034 by omega⟩ (fun H locs hP hS => ?_)
  refine lv_aload_n hx hb dL_law_914 rfl (lv_at hl 2 rfl) ?_
  refine g_bind hs (fun q_2 hq_2 hs => ?_)
  refine gCV_i (As := []) (rest := [.int q_1.1]) ⟨hx, hb, hml, hown, hts⟩ (cX6_firstError_c l D cy ad tL z0 hI n q_1.2 u q_2.1 q_2.2 hq_2) (cwV 0 hts gL_law_X6_firstError rfl rfl rfl (by decide +kernel) ⟨Nat.le_of_ble_eq_true rfl, Nat.le_of_ble_eq_true rfl⟩) hK hP hS (va_recv hK.1 hP (ci := 6) (q0 := 81) rfl (gW_6 kd81)) hl.1 rfl rfl (Nat.le_of_ble_eq_true rfl) dL_law_915 ⟨show _ ≤ 601024 by omega, show _ ≤ 7293034 by omega⟩ (fun H locs hP hS => ?_)
  refine lv_icmp_eq (tgt := 1121) hx hb dL_law_918 (by decide) (fun hc => ?_) (fun hc => ?_)
  · have hs := g_t hs hc
    refine lv_iinc (v := x4 + 4) (lv' := [(4, .int (x4 + 4)), (0, .ref b), (1, .ref (ad 0)), (2, .ref (ad 81)), (3, .ref (ad 89))]) hx hb dL_law_1121 hl (k := 4) rfl rfl (by decide) rfl (fun ls hl => ?_)
    refine lv_goto (tgt := 23) hx hb dL_law_1124 (by decide) ?_
    exact ih q_2.2 u (x4 + 4) _ _ _ _ _ hP hS (lv_sub hl [1, 2, 3, 4, 0] rfl) (by omega) hs
  · have hs := g_f hs hc
    refine lv_iconst (v := 0) hx hb dL_law_921 (by decide) ?_
    exact absurd (g_some hs) (by decide)
set_option maxHeartbeats 4000000 in
set_option maxRecDepth 100000 in
theorem hL_law_c19 {p : Program} {e : Env} {s : State} {m : MethodId} {below : List Frame} {meth : Method} {c : Code} (l : Launch) (hst : l.stackTraces = false) {b L : Nat} {xs : Nat → Int32} (C0 : lw_At p s m meth c b L xs) (D : va_G) (cy : Nat → ClassId) (ad : Nat → Nat) (tL z0 : Nat) (hz0 : z0 = s.heap.size) (hI : gI z0 ad) (hK : gK D cy tL z0 s s.heap) (n : Nat) (k : Nat) (ih : (∀ (v : gV) (u : Int64) (x4 : Int32) (H : Heap) (locs : List Loc) (cells slots : Nat) (ls : Array Slot), va_P D vwCl (gW cy ad v u) H → va_S (gA z0) s.heap H locs → lv_has ls 7 [(0, .ref b), (1, .ref (ad 0)), (2, .ref (ad 81)), (3, .ref (ad 89)), (4, .int x4)] → (cells + k ≤ 601000 ∧ slots + 6 * k ≤ 7290000) → sL_law_23 n xs L k v u x4 = some 1 → W p l e room_1 s m #[Value.ref b] below meth c H locs cells slots (lw_Z below #[Value.ref b] s) (F0 m 23 ls []))) (v : gV) (u : Int64) (x4 : Int32) (hs : sL_law_c19 n xs L (sL_law_23 n xs L k) v u x4 = some 1) (H : Heap) (locs : List Loc) (cells slots : Nat) (ls : Array Slot) (hP : va_P D vwCl (gW cy ad v u) H) (hS : va_S (gA z0) s.heap H locs) (hl : lv_has ls 7 [(0, .ref b), (1, .ref (ad 0)), (2, .ref (ad 81)), (3, .ref (ad 89)), (4, .int x4)]) (hcs : cells + (k + 1) ≤ 601000 ∧ slots + 6 * (k + 1) ≤ 7290000) : W p l e room_1 s m #[Value.ref b] below meth c H locs cells slots (lw_Z below #[Value.ref b] s) (F0 m 923 ls []) := by
  obtain ⟨hx, hb, hr, hml, hown, hts0, hX, hbl, hlocks, hgv⟩ := C0
  have hts : ∀ w ∈ lw_tbl, w.before #[Value.ref b] s = true := hts0
  have hbA : ¬ gA z0 b := by rw [hz0]; exact Nat.not_le.mpr hbl
  unfold sL_law_c19 at hs
  refine lv_aload_n hx hb dL_law_923 rfl (lv_at hl 1 rfl) ?_
  refine lv_aload_n hx hb dL_law_924 rfl (lv_at hl 3 rfl) ?_
  refine g_bind hs (fun q_1 hq_1 hs => ?_)
  refine gCW (As := [.ref (ad 0), .ref (ad 89)]) (rest := []) ⟨hx, hb, hml, hown, hts⟩ (cL_enter_c l hst D cy ad tL z0 hI n v u q_1.1 q_1.2.1 q_1.2.2 hq_1) (vx_cwSW 2 hts gL_law_L_enter rfl rfl rfl (by decide +kernel) ⟨Nat.le_of_ble_eq_true rfl, Nat.le_of_ble_eq_true rfl⟩) hK hP hS hl.1 rfl rfl (Nat.le_of_ble_eq_true rfl) dL_law_925 ⟨show _ ≤ 601024 by omega, show _ ≤ 7293034 by omega⟩ (fun H locs hP hS => ?_)
  refine lv_istore (lv' := [(5, .int q_1.1), (0, .ref b), (1, .ref (ad 0)), (2, .ref (ad 81)), (3, .ref (ad 89)), (4, .int x4)]) hx hb dL_law_928 hl (by decide) rfl (fun ls hl => ?_)
  refine lv_aload_n hx hb dL_law_930 rfl (lv_at hl 3 rfl) ?_
  refine g_bind hs (fun q_2 hq_2 hs => ?_)
  refine gCV_i (As := []) (rest := []) ⟨hx, hb, hml, hown, hts⟩ (cX6_enter_c l D cy ad tL z0 hI n q_1.2.1 q_1.2.2 q_2.1 q_2.2 hq_2) (cwV 0 hts gL_law_X6_enter rfl rfl rfl (by decide +kernel) ⟨Nat.le_of_ble_eq_true rfl, Nat.le_of_ble_eq_true rfl⟩) hK hP hS (va_recv hK.1 hP (ci := 6) (q0 := 81) rfl (gW_6 kd81)) hl.1 rfl rfl (Nat.le_of_ble_eq_true rfl) dL_law_931 ⟨show _ ≤ 601024 by omega, show _ ≤ 7293034 by omega⟩ (fun H locs hP hS => ?_)
  refine lv_istore (lv' := [(6, .int q_2.1), (5, .int q_1.1), (0, .ref b), (1, .ref (ad 0)), (2, .ref (ad 81)), (3, .ref (ad 89)), (4, .int x4)]) hx hb dL_law_934 hl (by decide) rfl (fun ls hl => ?_)
  refine lv_aload_n hx hb dL_law_936 rfl (lv_at hl 4 rfl) ?_
  refine g_bind hs (fun q_3 hq_3 hs => ?_)
  refine gCV_i (As := []) (rest := []) ⟨hx, hb, hml, hown, hts⟩ (cX6_thrown_c l D cy ad tL z0 hI q_2.2 q_1.2.2 q_3 hq_3) (cwV 0 hts gL_law_X6_thrown rfl rfl rfl (by decide +kernel) ⟨Nat.le_of_ble_eq_true rfl, Nat.le_of_ble_eq_true rfl⟩) hK hP hS (va_recv hK.1 hP (ci := 6) (q0 := 81) rfl (gW_6 kd81)) hl.1 rfl rfl (Nat.le_of_ble_eq_true rfl) dL_law_937 ⟨show _ ≤ 601024 by omega, show _ ≤ 7293034 by omega⟩ (fun H locs hP hS => ?_)
  refine lv_iload hx hb dL_law_940 (lv_at hl 1 rfl) ?_
  refine lv_icmp_eq (tgt := 947) hx hb dL_law_942 (by decide) (fun hc => ?_) (fun hc => ?_)
  · have hs := g_t hs hc
    refine lv_iload hx hb dL_law_947 (lv_at hl 1 rfl) ?_
    refine lv_if_ne (tgt := 964) hx hb dL_law_949 (by decide) (fun hc => ?_) (fun hc => ?_)
    · have hs := g_f hs hc
      refine lv_goto (tgt := 1121) hx hb dL_law_964 (by decide) ?_
      refine lv_iinc (v := x4 + 4) (lv' := [(4, .int (x4 + 4)), (6, .int q_2.1), (5, .int q_1.1), (0, .ref b), (1, .ref (ad 0)), (2, .ref (ad 81)), (3, .ref (ad 89))]) hx hb dL_law_1121 hl (k := 6) rfl rfl (by decide) rfl (fun ls hl => ?_)
      refine lv_goto (tgt := 23) hx hb dL_law_1124 (by decide) ?_
      exact ih q_2.2 q_1.2.2 (x4 + 4) _ _ _ _ _ hP hS (lv_sub hl [3, 4, 5, 6, 0] rfl) (by omega) hs
    · have hs := g_t hs hc
      refine lv_aload_n hx hb dL_law_952 rfl (lv_at hl 5 rfl) ?_
      refine lv_iconst (v := 0) hx hb dL_law_953 (by decide) ?_
      refine gLald hx hb hK hP dL_law_954 ?_
      refine lv_iload hx hb dL_law_955 (lv_at hl 0 rfl) ?_
      refine lv_i2l hx hb dL_law_957 rfl ?_
      refine W.lcmp hx hb dL_law_958 ?_
      refine lv_if_eq (tgt := 964) hx hb dL_law_959 (by decide) (fun hc => ?_) (fun hc => ?_)
      · have hs := g_t hs hc
        refine lv_goto (tgt := 1121) hx hb dL_law_964 (by decide) ?_
        refine lv_iinc (v := x4 + 4) (lv' := [(4, .int (x4 + 4)), (6, .int q_2.1), (5, .int q_1.1), (0, .ref b), (1, .ref (ad 0)), (2, .ref (ad 81)), (3, .ref (ad 89))]) hx hb dL_law_1121 hl (k := 6) rfl rfl (by decide) rfl (fun ls hl => ?_)
        refine lv_goto (tgt := 23) hx hb dL_law_1124 (by decide) ?_
        exact ih q_2.2 q_1.2.2 (x4 + 4) _ _ _ _ _ hP hS (lv_sub hl [3, 4, 5, 6, 0] rfl) (by omega) hs
      · have hs := g_f hs hc
        refine lv_iconst (v := 0) hx hb dL_law_962 (by decide) ?_
        exact absurd (g_some hs) (by decide)
  · have hs := g_f hs hc
    refine lv_iconst (v := 0) hx hb dL_law_945 (by decide) ?_
    exact absurd (g_some hs) (by decide)
set_option maxHeartbeats 4000000 in
set_option maxRecDepth 100000 in
theorem hL_law_c20 {p : Program} {e : Env} {s : State} {m : MethodId} {below : List Frame} {meth : Method} {c : Code} (l : Launch) (hst : l.stackTraces = false) {b L : Nat} {xs : Nat → Int32} (C0 : lw_At p s m meth c b L xs) (D : va_G) (cy : Nat → ClassId) (ad : Nat → Nat) (tL z0 : Nat) (hz0 : z0 = s.heap.size) (hI : gI z0 ad) (hK : gK D cy tL z0 s s.heap) (n : Nat) (k : Nat) (ih : (∀ (v : gV) (u : Int64) (x4 : Int32) (H : Heap) (locs : List Loc) (cells slots : Nat) (ls : Array Slot), va_P D vwCl (gW cy ad v u) H → va_S (gA z0) s.heap H locs → lv_has ls 7 [(0, .ref b), (1, .ref (ad 0)), (2, .ref (ad 81)), (3, .ref (ad 89)), (4, .int x4)] → (cells + k ≤ 601000 ∧ slots + 6 * k ≤ 7290000) → sL_law_23 n xs L k v u x4 = some 1 → W p l e room_1 s m #[Value.ref b] below meth c H locs cells slots (lw_Z below #[Value.ref b] s) (F0 m 23 ls []))) (v : gV) (u : Int64) (x4 : Int32) (hs : sL_law_c20 n xs L (sL_law_23 n xs L k) v u x4 = some 1) (H : Heap) (locs : List Loc) (cells slots : Nat) (ls : Array Slot) (hP : va_P D vwCl (gW cy ad v u) H) (hS : va_S (gA z0) s.heap H locs) (hl : lv_has ls 7 [(0, .ref b), (1, .ref (ad 0)), (2, .ref (ad 81)), (3, .ref (ad 89)), (4, .int x4)]) (hcs : cells + (k + 1) ≤ 601000 ∧ slots + 6 * (k + 1) ≤ 7290000) : W p l e room_1 s m #[Value.ref b] below meth c H locs cells slots (lw_Z below #[Value.ref b] s) (F0 m 967 ls []) := by
  obtain ⟨hx, hb, hr, hml, hown, hts0, hX, hbl, hlocks, hgv⟩ := C0
  have hts : ∀ w ∈ lw_tbl, w.before #[Value.ref b] s = true := hts0
  have hbA : ¬ gA z0 b := by rw [hz0]; exact Nat.not_le.mpr hbl
  unfold sL_law_c20 at hs
  refine lv_aload_n hx hb dL_law_967 rfl (lv_at hl 1 rfl) ?_
  refine lv_aload_n hx hb dL_law_968 rfl (lv_at hl 3 rfl) ?_
  refine g_bind hs (fun q_1 hq_1 hs => ?_)
  refine gCW (As := [.ref (ad 0), .ref (ad 89)]) (rest := []) ⟨hx, hb, hml, hown, hts⟩ (cL_ifEntered_c l hst D cy ad tL z0 hI n v u q_1.1 q_1.2.1 q_1.2.2 hq_1) (vx_cwSW 2 hts gL_law_L_ifEntered rfl rfl rfl (by decide +kernel) ⟨Nat.le_of_ble_eq_true rfl, Nat.le_of_ble_eq_true rfl⟩) hK hP hS hl.1 rfl rfl (Nat.le_of_ble_eq_true rfl) dL_law_969 ⟨show _ ≤ 601024 by omega, show _ ≤ 7293034 by omega⟩ (fun H locs hP hS => ?_)
  refine lv_istore (lv' := [(5, .int q_1.1), (0, .ref b), (1, .ref (ad 0)), (2, .ref (ad 81)), (3, .ref (ad 89)), (4, .int x4)]) hx hb dL_law_972 hl (by decide) rfl (fun ls hl => ?_)
  refine lv_aload_n hx hb dL_law_974 rfl (lv_at hl 3 rfl) ?_
  refine g_bind hs (fun q_2 hq_2 hs => ?_)
  refine gCV_i (As := []) (rest := []) ⟨hx, hb, hml, hown, hts⟩ (cX6_ifEntered_c l D cy ad tL z0 hI n q_1.2.1 q_1.2.2 q_2.1 q_2.2 hq_2) (cwV 0 hts gL_law_X6_ifEntered rfl rfl rfl (by decide +kernel) ⟨Nat.le_of_ble_eq_true rfl, Nat.le_of_ble_eq_true rfl⟩) hK hP hS (va_recv hK.1 hP (ci := 6) (q0 := 81) rfl (gW_6 kd81)) hl.1 rfl rfl (Nat.le_of_ble_eq_true rfl) dL_law_975 ⟨show _ ≤ 601024 by omega, show _ ≤ 7293034 by omega⟩ (fun H locs hP hS => ?_)
  refine lv_istore (lv' := [(6, .int q_2.1), (5, .int q_1.1), (0, .ref b), (1, .ref (ad 0)), (2, .ref (ad 81)), (3, .ref (ad 89)), (4, .int x4)]) hx hb dL_law_978 hl (by decide) rfl (fun ls hl => ?_)
  refine lv_aload_n hx hb dL_law_980 rfl (lv_at hl 4 rfl) ?_
  refine g_bind hs (fun q_3 hq_3 hs => ?_)
  refine gCV_i (As := []) (rest := []) ⟨hx, hb, hml, hown, hts⟩ (cX6_thrown_c l D cy ad tL z0 hI q_2.2 q_1.2.2 q_3 hq_3) (cwV 0 hts gL_law_X6_thrown rfl rfl rfl (by decide +kernel) ⟨Nat.le_of_ble_eq_true rfl, Nat.le_of_ble_eq_true rfl⟩) hK hP hS (va_recv hK.1 hP (ci := 6) (q0 := 81) rfl (gW_6 kd81)) hl.1 rfl rfl (Nat.le_of_ble_eq_true rfl) dL_law_981 ⟨show _ ≤ 601024 by omega, show _ ≤ 7293034 by omega⟩ (fun H locs hP hS => ?_)
  refine lv_iload hx hb dL_law_984 (lv_at hl 1 rfl) ?_
  refine lv_icmp_eq (tgt := 991) hx hb dL_law_986 (by decide) (fun hc => ?_) (fun hc => ?_)
  · have hs := g_t hs hc
    refine lv_iload hx hb dL_law_991 (lv_at hl 1 rfl) ?_
    refine lv_if_ne (tgt := 1008) hx hb dL_law_993 (by decide) (fun hc => ?_) (fun hc => ?_)
    · have hs := g_f hs hc
      refine lv_goto (tgt := 1121) hx hb dL_law_1008 (by decide) ?_
      refine lv_iinc (v := x4 + 4) (lv' := [(4, .int (x4 + 4)), (6, .int q_2.1), (5, .int q_1.1), (0, .ref b), (1, .ref (ad 0)), (2, .ref (ad 81)), (3, .ref (ad 89))]) hx hb dL_law_1121 hl (k := 6) rfl rfl (by decide) rfl (fun ls hl => ?_)
      refine lv_goto (tgt := 23) hx hb dL_law_1124 (by decide) ?_
      exact ih q_2.2 q_1.2.2 (x4 + 4) _ _ _ _ _ hP hS (lv_sub hl [3, 4, 5, 6, 0] rfl) (by omega) hs
    · have hs := g_t hs hc
      refine lv_aload_n hx hb dL_law_996 rfl (lv_at hl 5 rfl) ?_
      refine lv_iconst (v := 0) hx hb dL_law_997 (by decide) ?_
      refine gLald hx hb hK hP dL_law_998 ?_
      refine lv_iload hx hb dL_law_999 (lv_at hl 0 rfl) ?_
      refine lv_i2l hx hb dL_law_1001 rfl ?_
      refine W.lcmp hx hb dL_law_1002 ?_
      refine lv_if_eq (tgt := 1008) hx hb dL_law_1003 (by decide) (fun hc => ?_) (fun hc => ?_)
      · have hs := g_t hs hc
        refine lv_goto (tgt := 1121) hx hb dL_law_1008 (by decide) ?_
        refine lv_iinc (v := x4 + 4) (lv' := [(4, .int (x4 + 4)), (6, .int q_2.1), (5, .int q_1.1), (0, .ref b), (1, .ref (ad 0)), (2, .ref (ad 81)), (3, .ref (ad 89))]) hx hb dL_law_1121 hl (k := 6) rfl rfl (by decide) rfl (fun ls hl => ?_)
        refine lv_goto (tgt := 23) hx hb dL_law_1124 (by decide) ?_
        exact ih q_2.2 q_1.2.2 (x4 + 4) _ _ _ _ _ hP hS (lv_sub hl [3, 4, 5, 6, 0] rfl) (by omega) hs
      · have hs := g_f hs hc
        refine lv_iconst (v := 0) hx hb dL_law_1006 (by decide) ?_
        exact absurd (g_some hs) (by decide)
  · have hs := g_f hs hc
    refine lv_iconst (v := 0) hx hb dL_law_989 (by decide) ?_
    exact absurd (g_some hs) (by decide)
set_option maxHeartbeats 4000000 in
set_option maxRecDepth 100000 in
theorem hL_law_c21 {p : Program} {e : Env} {s : State} {m : MethodId} {below : List Frame} {meth : Method} {c : Code} (l : Launch) (hst : l.stackTraces = false) {b L : Nat} {xs : Nat → Int32} (C0 : lw_At p s m meth c b L xs) (D : va_G) (cy : Nat → ClassId) (ad : Nat → Nat) (tL z0 : Nat) (hz0 : z0 = s.heap.size) (hI : gI z0 ad) (hK : gK D cy tL z0 s s.heap) (n : Nat) (k : Nat) (ih : (∀ (v : gV) (u : Int64) (x4 : Int32) (H : Heap) (locs : List Loc) (cells slots : Nat) (ls : Array Slot), va_P D vwCl (gW cy ad v u) H → va_S (gA z0) s.heap H locs → lv_has ls 7 [(0, .ref b), (1, .ref (ad 0)), (2, .ref (ad 81)), (3, .ref (ad 89)), (4, .int x4)] → (cells + k ≤ 601000 ∧ slots + 6 * k ≤ 7290000) → sL_law_23 n xs L k v u x4 = some 1 → W p l e room_1 s m #[Value.ref b] below meth c H locs cells slots (lw_Z below #[Value.ref b] s) (F0 m 23 ls []))) (v : gV) (u : Int64) (x4 : Int32) (hs : sL_law_c21 n xs L (sL_law_23 n xs L k) v u x4 = some 1) (H : Heap) (locs : List Loc) (cells slots : Nat) (ls : Array Slot) (hP : va_P D vwCl (gW cy ad v u) H) (hS : va_S (gA z0) s.heap H locs) (hl : lv_has ls 7 [(0, .ref b), (1, .ref (ad 0)), (2, .ref (ad 81)), (3, .ref (ad 89)), (4, .int x4)]) (hcs : cells + (k + 1) ≤ 601000 ∧ slots + 6 * (k + 1) ≤ 7290000) : W p l e room_1 s m #[Value.ref b] below meth c H locs cells slots (lw_Z below #[Value.ref b] s) (F0 m 1011 ls []) := by
  obtain ⟨hx, hb, hr, hml, hown, hts0, hX, hbl, hlocks, hgv⟩ := C0
  have hts : ∀ w ∈ lw_tbl, w.before #[Value.ref b] s = true := hts0
  have hbA : ¬ gA z0 b := by rw [hz0]; exact Nat.not_le.mpr hbl
  unfold sL_law_c21 at hs
  refine lv_aload_n hx hb dL_law_1011 rfl (lv_at hl 1 rfl) ?_
  refine g_bind hs (fun q_1 hq_1 hs => ?_)
  refine gCV_i (As := []) (rest := []) ⟨hx, hb, hml, hown, hts⟩ (cX5_executed_c l D cy ad tL z0 hI v u q_1 hq_1) (cwV 0 hts gL_law_X5_executed rfl rfl rfl (by decide +kernel) ⟨Nat.le_of_ble_eq_true rfl, Nat.le_of_ble_eq_true rfl⟩) hK hP hS (va_recv hK.1 hP (ci := 5) (q0 := 0) rfl (gW_5 kd0)) hl.1 rfl rfl (Nat.le_of_ble_eq_true rfl) dL_law_1012 ⟨show _ ≤ 601024 by omega, show _ ≤ 7293034 by omega⟩ (fun H locs hP hS => ?_)
  refine lv_aload_n hx hb dL_law_1015 rfl (lv_at hl 2 rfl) ?_
  refine g_bind hs (fun q_2 hq_2 hs => ?_)
  refine gCV_i (As := []) (rest := [.int q_1]) ⟨hx, hb, hml, hown, hts⟩ (cX6_executed_c l D cy ad tL z0 hI v u q_2.1 q_2.2 hq_2) (cwV 0 hts gL_law_X6_executed rfl rfl rfl (by decide +kernel) ⟨Nat.le_of_ble_eq_true rfl, Nat.le_of_ble_eq_true rfl⟩) hK hP hS (va_recv hK.1 hP (ci := 6) (q0 := 81) rfl (gW_6 kd81)) hl.1 rfl rfl (Nat.le_of_ble_eq_true rfl) dL_law_1016 ⟨show _ ≤ 601024 by omega, show _ ≤ 7293034 by omega⟩ (fun H locs hP hS => ?_)
  refine lv_icmp_eq (tgt := 1121) hx hb dL_law_1019 (by decide) (fun hc => ?_) (fun hc => ?_)
  · have hs := g_t hs hc
    refine lv_iinc (v := x4 + 4) (lv' := [(4, .int (x4 + 4)), (0, .ref b), (1, .ref (ad 0)), (2, .ref (ad 81)), (3, .ref (ad 89))]) hx hb dL_law_1121 hl (k := 4) rfl rfl (by decide) rfl (fun ls hl => ?_)
    refine lv_goto (tgt := 23) hx hb dL_law_1124 (by decide) ?_
    exact ih q_2.2 u (x4 + 4) _ _ _ _ _ hP hS (lv_sub hl [1, 2, 3, 4, 0] rfl) (by omega) hs
  · have hs := g_f hs hc
    refine lv_iconst (v := 0) hx hb dL_law_1022 (by decide) ?_
    exact absurd (g_some hs) (by decide)
set_option maxHeartbeats 4000000 in
set_option maxRecDepth 100000 in
theorem hL_law_c22 {p : Program} {e : Env} {s : State} {m : MethodId} {below : List Frame} {meth : Method} {c : Code} (l : Launch) (hst : l.stackTraces = false) {b L : Nat} {xs : Nat → Int32} (C0 : lw_At p s m meth c b L xs) (D : va_G) (cy : Nat → ClassId) (ad : Nat → Nat) (tL z0 : Nat) (hz0 : z0 = s.heap.size) (hI : gI z0 ad) (hK : gK D cy tL z0 s s.heap) (n : Nat) (k : Nat) (ih : (∀ (v : gV) (u : Int64) (x4 : Int32) (H : Heap) (locs : List Loc) (cells slots : Nat) (ls : Array Slot), va_P D vwCl (gW cy ad v u) H → va_S (gA z0) s.heap H locs → lv_has ls 7 [(0, .ref b), (1, .ref (ad 0)), (2, .ref (ad 81)), (3, .ref (ad 89)), (4, .int x4)] → (cells + k ≤ 601000 ∧ slots + 6 * k ≤ 7290000) → sL_law_23 n xs L k v u x4 = some 1 → W p l e room_1 s m #[Value.ref b] below meth c H locs cells slots (lw_Z below #[Value.ref b] s) (F0 m 23 ls []))) (v : gV) (u : Int64) (x4 : Int32) (hs : sL_law_c22 n xs L (sL_law_23 n xs L k) v u x4 = some 1) (H : Heap) (locs : List Loc) (cells slots : Nat) (ls : Array Slot) (hP : va_P D vwCl (gW cy ad v u) H) (hS : va_S (gA z0) s.heap H locs) (hl : lv_has ls 7 [(0, .ref b), (1, .ref (ad 0)), (2, .ref (ad 81)), (3, .ref (ad 89)), (4, .int x4)]) (hcs : cells + (k + 1) ≤ 601000 ∧ slots + 6 * (k + 1) ≤ 7290000) : W p l e room_1 s m #[Value.ref b] below meth c H locs cells slots (lw_Z below #[Value.ref b] s) (F0 m 1024 ls []) := by
  obtain ⟨hx, hb, hr, hml, hown, hts0, hX, hbl, hlocks, hgv⟩ := C0
  have hts : ∀ w ∈ lw_tbl, w.before #[Value.ref b] s = true := hts0
  have hbA : ¬ gA z0 b := by rw [hz0]; exact Nat.not_le.mpr hbl
  unfold sL_law_c22 at hs
  refine lv_aload_n hx hb dL_law_1024 rfl (lv_at hl 1 rfl) ?_
  refine g_bind hs (fun q_1 hq_1 hs => ?_)
  refine gCV_i (As := []) (rest := []) ⟨hx, hb, hml, hown, hts⟩ (cX5_failed_c l D cy ad tL z0 hI v u q_1 hq_1) (cwV 0 hts gL_law_X5_failed rfl rfl rfl (by decide +kernel) ⟨Nat.le_of_ble_eq_true rfl, Nat.le_of_ble_eq_true rfl⟩) hK hP hS (va_recv hK.1 hP (ci := 5) (q0 := 0) rfl (gW_5 kd0)) hl.1 rfl rfl (Nat.le_of_ble_eq_true rfl) dL_law_1025 ⟨show _ ≤ 601024 by omega, show _ ≤ 7293034 by omega⟩ (fun H locs hP hS => ?_)
  refine lv_aload_n hx hb dL_law_1028 rfl (lv_at hl 2 rfl) ?_
  refine g_bind hs (fun q_2 hq_2 hs => ?_)
  refine gCV_i (As := []) (rest := [.int q_1]) ⟨hx, hb, hml, hown, hts⟩ (cX6_failed_c l D cy ad tL z0 hI v u q_2.1 q_2.2 hq_2) (cwV 0 hts gL_law_X6_failed rfl rfl rfl (by decide +kernel) ⟨Nat.le_of_ble_eq_true rfl, Nat.le_of_ble_eq_true rfl⟩) hK hP hS (va_recv hK.1 hP (ci := 6) (q0 := 81) rfl (gW_6 kd81)) hl.1 rfl rfl (Nat.le_of_ble_eq_true rfl) dL_law_1029 ⟨show _ ≤ 601024 by omega, show _ ≤ 7293034 by omega⟩ (fun H locs hP hS => ?_)
  refine lv_icmp_eq (tgt := 1121) hx hb dL_law_1032 (by decide) (fun hc => ?_) (fun hc => ?_)
  · have hs := g_t hs hc
    refine lv_iinc (v := x4 + 4) (lv' := [(4, .int (x4 + 4)), (0, .ref b), (1, .ref (ad 0)), (2, .ref (ad 81)), (3, .ref (ad 89))]) hx hb dL_law_1121 hl (k := 4) rfl rfl (by decide) rfl (fun ls hl => ?_)
    refine lv_goto (tgt := 23) hx hb dL_law_1124 (by decide) ?_
    exact ih q_2.2 u (x4 + 4) _ _ _ _ _ hP hS (lv_sub hl [1, 2, 3, 4, 0] rfl) (by omega) hs
  · have hs := g_f hs hc
    refine lv_iconst (v := 0) hx hb dL_law_1035 (by decide) ?_
    exact absurd (g_some hs) (by decide)
set_option maxHeartbeats 4000000 in
set_option maxRecDepth 100000 in
theorem hL_law_c23 {p : Program} {e : Env} {s : State} {m : MethodId} {below : List Frame} {meth : Method} {c : Code} (l : Launch) (hst : l.stackTraces = false) {b L : Nat} {xs : Nat → Int32} (C0 : lw_At p s m meth c b L xs) (D : va_G) (cy : Nat → ClassId) (ad : Nat → Nat) (tL z0 : Nat) (hz0 : z0 = s.heap.size) (hI : gI z0 ad) (hK : gK D cy tL z0 s s.heap) (n : Nat) (k : Nat) (ih : (∀ (v : gV) (u : Int64) (x4 : Int32) (H : Heap) (locs : List Loc) (cells slots : Nat) (ls : Array Slot), va_P D vwCl (gW cy ad v u) H → va_S (gA z0) s.heap H locs → lv_has ls 7 [(0, .ref b), (1, .ref (ad 0)), (2, .ref (ad 81)), (3, .ref (ad 89)), (4, .int x4)] → (cells + k ≤ 601000 ∧ slots + 6 * k ≤ 7290000) → sL_law_23 n xs L k v u x4 = some 1 → W p l e room_1 s m #[Value.ref b] below meth c H locs cells slots (lw_Z below #[Value.ref b] s) (F0 m 23 ls []))) (v : gV) (u : Int64) (x4 : Int32) (hs : sL_law_c23 n xs L (sL_law_23 n xs L k) v u x4 = some 1) (H : Heap) (locs : List Loc) (cells slots : Nat) (ls : Array Slot) (hP : va_P D vwCl (gW cy ad v u) H) (hS : va_S (gA z0) s.heap H locs) (hl : lv_has ls 7 [(0, .ref b), (1, .ref (ad 0)), (2, .ref (ad 81)), (3, .ref (ad 89)), (4, .int x4)]) (hcs : cells + (k + 1) ≤ 601000 ∧ slots + 6 * (k + 1) ≤ 7290000) : W p l e room_1 s m #[Value.ref b] below meth c H locs cells slots (lw_Z below #[Value.ref b] s) (F0 m 1037 ls []) := by
  obtain ⟨hx, hb, hr, hml, hown, hts0, hX, hbl, hlocks, hgv⟩ := C0
  have hts : ∀ w ∈ lw_tbl, w.before #[Value.ref b] s = true := hts0
  have hbA : ¬ gA z0 b := by rw [hz0]; exact Nat.not_le.mpr hbl
  unfold sL_law_c23 at hs
  refine lv_aload_n hx hb dL_law_1037 rfl (lv_at hl 1 rfl) ?_
  refine g_bind hs (fun q_1 hq_1 hs => ?_)
  refine gCV_i (As := []) (rest := []) ⟨hx, hb, hml, hown, hts⟩ (cX5_asked_c l D cy ad tL z0 hI v u q_1 hq_1) (cwV 0 hts gL_law_X5_asked rfl rfl rfl (by decide +kernel) ⟨Nat.le_of_ble_eq_true rfl, Nat.le_of_ble_eq_true rfl⟩) hK hP hS (va_recv hK.1 hP (ci := 5) (q0 := 0) rfl (gW_5 kd0)) hl.1 rfl rfl (Nat.le_of_ble_eq_true rfl) dL_law_1038 ⟨show _ ≤ 601024 by omega, show _ ≤ 7293034 by omega⟩ (fun H locs hP hS => ?_)
  refine lv_aload_n hx hb dL_law_1041 rfl (lv_at hl 2 rfl) ?_
  refine g_bind hs (fun q_2 hq_2 hs => ?_)
  refine gCV_i (As := []) (rest := [.int q_1]) ⟨hx, hb, hml, hown, hts⟩ (cX6_asked_c l D cy ad tL z0 hI v u q_2.1 q_2.2 hq_2) (cwV 0 hts gL_law_X6_asked rfl rfl rfl (by decide +kernel) ⟨Nat.le_of_ble_eq_true rfl, Nat.le_of_ble_eq_true rfl⟩) hK hP hS (va_recv hK.1 hP (ci := 6) (q0 := 81) rfl (gW_6 kd81)) hl.1 rfl rfl (Nat.le_of_ble_eq_true rfl) dL_law_1042 ⟨show _ ≤ 601024 by omega, show _ ≤ 7293034 by omega⟩ (fun H locs hP hS => ?_)
  refine lv_icmp_eq (tgt := 1121) hx hb dL_law_1045 (by decide) (fun hc => ?_) (fun hc => ?_)
  · have hs := g_t hs hc
    refine lv_iinc (v := x4 + 4) (lv' := [(4, .int (x4 + 4)), (0, .ref b), (1, .ref (ad 0)), (2, .ref (ad 81)), (3, .ref (ad 89))]) hx hb dL_law_1121 hl (k := 4) rfl rfl (by decide) rfl (fun ls hl => ?_)
    refine lv_goto (tgt := 23) hx hb dL_law_1124 (by decide) ?_
    exact ih q_2.2 u (x4 + 4) _ _ _ _ _ hP hS (lv_sub hl [1, 2, 3, 4, 0] rfl) (by omega) hs
  · have hs := g_f hs hc
    refine lv_iconst (v := 0) hx hb dL_law_1048 (by decide) ?_
    exact absurd (g_some hs) (by decide)
set_option maxHeartbeats 4000000 in
set_option maxRecDepth 100000 in
theorem hL_law_c24 {p : Program} {e : Env} {s : State} {m : MethodId} {below : List Frame} {meth : Method} {c : Code} (l : Launch) (hst : l.stackTraces = false) {b L : Nat} {xs : Nat → Int32} (C0 : lw_At p s m meth c b L xs) (D : va_G) (cy : Nat → ClassId) (ad : Nat → Nat) (tL z0 : Nat) (hz0 : z0 = s.heap.size) (hI : gI z0 ad) (hK : gK D cy tL z0 s s.heap) (n : Nat) (k : Nat) (ih : (∀ (v : gV) (u : Int64) (x4 : Int32) (H : Heap) (locs : List Loc) (cells slots : Nat) (ls : Array Slot), va_P D vwCl (gW cy ad v u) H → va_S (gA z0) s.heap H locs → lv_has ls 7 [(0, .ref b), (1, .ref (ad 0)), (2, .ref (ad 81)), (3, .ref (ad 89)), (4, .int x4)] → (cells + k ≤ 601000 ∧ slots + 6 * k ≤ 7290000) → sL_law_23 n xs L k v u x4 = some 1 → W p l e room_1 s m #[Value.ref b] below meth c H locs cells slots (lw_Z below #[Value.ref b] s) (F0 m 23 ls []))) (v : gV) (u : Int64) (x4 : Int32) (hs : sL_law_c24 n xs L (sL_law_23 n xs L k) v u x4 = some 1) (H : Heap) (locs : List Loc) (cells slots : Nat) (ls : Array Slot) (hP : va_P D vwCl (gW cy ad v u) H) (hS : va_S (gA z0) s.heap H locs) (hl : lv_has ls 7 [(0, .ref b), (1, .ref (ad 0)), (2, .ref (ad 81)), (3, .ref (ad 89)), (4, .int x4)]) (hcs : cells + (k + 1) ≤ 601000 ∧ slots + 6 * (k + 1) ≤ 7290000) : W p l e room_1 s m #[Value.ref b] below meth c H locs cells slots (lw_Z below #[Value.ref b] s) (F0 m 1050 ls []) := by
  obtain ⟨hx, hb, hr, hml, hown, hts0, hX, hbl, hlocks, hgv⟩ := C0
  have hts : ∀ w ∈ lw_tbl, w.before #[Value.ref b] s = true := hts0
  have hbA : ¬ gA z0 b := by rw [hz0]; exact Nat.not_le.mpr hbl
  unfold sL_law_c24 at hs
  refine lv_aload_n hx hb dL_law_1050 rfl (lv_at hl 1 rfl) ?_
  refine lv_aload_n hx hb dL_law_1051 rfl (lv_at hl 3 rfl) ?_
  refine g_bind hs (fun q_1 hq_1 hs => ?_)
  refine gCW (As := [.ref (ad 0), .ref (ad 89)]) (rest := []) ⟨hx, hb, hml, hown, hts⟩ (cL_undo_c l hst D cy ad tL z0 hI n v u q_1.1 q_1.2.1 q_1.2.2 hq_1) (vx_cwSW 2 hts gL_law_L_undo rfl rfl rfl (by decide +kernel) ⟨Nat.le_of_ble_eq_true rfl, Nat.le_of_ble_eq_true rfl⟩) hK hP hS hl.1 rfl rfl (Nat.le_of_ble_eq_true rfl) dL_law_1052 ⟨show _ ≤ 601024 by omega, show _ ≤ 7293034 by omega⟩ (fun H locs hP hS => ?_)
  refine lv_istore (lv' := [(5, .int q_1.1), (0, .ref b), (1, .ref (ad 0)), (2, .ref (ad 81)), (3, .ref (ad 89)), (4, .int x4)]) hx hb dL_law_1055 hl (by decide) rfl (fun ls hl => ?_)
  refine lv_aload_n hx hb dL_law_1057 rfl (lv_at hl 3 rfl) ?_
  refine g_bind hs (fun q_2 hq_2 hs => ?_)
  refine gCV_i (As := []) (rest := []) ⟨hx, hb, hml, hown, hts⟩ (cX6_undo_c l D cy ad tL z0 hI n q_1.2.1 q_1.2.2 q_2.1 q_2.2 hq_2) (cwV 0 hts gL_law_X6_undo rfl rfl rfl (by decide +kernel) ⟨Nat.le_of_ble_eq_true rfl, Nat.le_of_ble_eq_true rfl⟩) hK hP hS (va_recv hK.1 hP (ci := 6) (q0 := 81) rfl (gW_6 kd81)) hl.1 rfl rfl (Nat.le_of_ble_eq_true rfl) dL_law_1058 ⟨show _ ≤ 601024 by omega, show _ ≤ 7293034 by omega⟩ (fun H locs hP hS => ?_)
  refine lv_istore (lv' := [(6, .int q_2.1), (5, .int q_1.1), (0, .ref b), (1, .ref (ad 0)), (2, .ref (ad 81)), (3, .ref (ad 89)), (4, .int x4)]) hx hb dL_law_1061 hl (by decide) rfl (fun ls hl => ?_)
  refine lv_aload_n hx hb dL_law_1063 rfl (lv_at hl 4 rfl) ?_
  refine g_bind hs (fun q_3 hq_3 hs => ?_)
  refine gCV_i (As := []) (rest := []) ⟨hx, hb, hml, hown, hts⟩ (cX6_thrown_c l D cy ad tL z0 hI q_2.2 q_1.2.2 q_3 hq_3) (cwV 0 hts gL_law_X6_thrown rfl rfl rfl (by decide +kernel) ⟨Nat.le_of_ble_eq_true rfl, Nat.le_of_ble_eq_true rfl⟩) hK hP hS (va_recv hK.1 hP (ci := 6) (q0 := 81) rfl (gW_6 kd81)) hl.1 rfl rfl (Nat.le_of_ble_eq_true rfl) dL_law_1064 ⟨show _ ≤ 601024 by omega, show _ ≤ 7293034 by omega⟩ (fun H locs hP hS => ?_)
  refine lv_iload hx hb dL_law_1067 (lv_at hl 1 rfl) ?_
  refine lv_icmp_eq (tgt := 1074) hx hb dL_law_1069 (by decide) (fun hc => ?_) (fun hc => ?_)
  · have hs := g_t hs hc
    refine lv_iload hx hb dL_law_1074 (lv_at hl 1 rfl) ?_
    refine lv_if_ne (tgt := 1091) hx hb dL_law_1076 (by decide) (fun hc => ?_) (fun hc => ?_)
    · have hs := g_f hs hc
      refine lv_goto (tgt := 1121) hx hb dL_law_1091 (by decide) ?_
      refine lv_iinc (v := x4 + 4) (lv' := [(4, .int (x4 + 4)), (6, .int q_2.1), (5, .int q_1.1), (0, .ref b), (1, .ref (ad 0)), (2, .ref (ad 81)), (3, .ref (ad 89))]) hx hb dL_law_1121 hl (k := 6) rfl rfl (by decide) rfl (fun ls hl => ?_)
      refine lv_goto (tgt := 23) hx hb dL_law_1124 (by decide) ?_
      exact ih q_2.2 q_1.2.2 (x4 + 4) _ _ _ _ _ hP hS (lv_sub hl [3, 4, 5, 6, 0] rfl) (by omega) hs
    · have hs := g_t hs hc
      refine lv_aload_n hx hb dL_law_1079 rfl (lv_at hl 5 rfl) ?_
      refine lv_iconst (v := 0) hx hb dL_law_1080 (by decide) ?_
      refine gLald hx hb hK hP dL_law_1081 ?_
      refine lv_iload hx hb dL_law_1082 (lv_at hl 0 rfl) ?_
      refine lv_i2l hx hb dL_law_1084 rfl ?_
      refine W.lcmp hx hb dL_law_1085 ?_
      refine lv_if_eq (tgt := 1091) hx hb dL_law_1086 (by decide) (fun hc => ?_) (fun hc => ?_)
      · have hs := g_t hs hc
        refine lv_goto (tgt := 1121) hx hb dL_law_1091 (by decide) ?_
        refine lv_iinc (v := x4 + 4) (lv' := [(4, .int (x4 + 4)), (6, .int q_2.1), (5, .int q_1.1), (0, .ref b), (1, .ref (ad 0)), (2, .ref (ad 81)), (3, .ref (ad 89))]) hx hb dL_law_1121 hl (k := 6) rfl rfl (by decide) rfl (fun ls hl => ?_)
        refine lv_goto (tgt := 23) hx hb dL_law_1124 (by decide) ?_
        exact ih q_2.2 q_1.2.2 (x4 + 4) _ _ _ _ _ hP hS (lv_sub hl [3, 4, 5, 6, 0] rfl) (by omega) hs
      · have hs := g_f hs hc
        refine lv_iconst (v := 0) hx hb dL_law_1089 (by decide) ?_
        exact absurd (g_some hs) (by decide)
  · have hs := g_f hs hc
    refine lv_iconst (v := 0) hx hb dL_law_1072 (by decide) ?_
    exact absurd (g_some hs) (by decide)
set_option maxHeartbeats 4000000 in
set_option maxRecDepth 100000 in
theorem hL_law_c25 {p : Program} {e : Env} {s : State} {m : MethodId} {below : List Frame} {meth : Method} {c : Code} (l : Launch) (hst : l.stackTraces = false) {b L : Nat} {xs : Nat → Int32} (C0 : lw_At p s m meth c b L xs) (D : va_G) (cy : Nat → ClassId) (ad : Nat → Nat) (tL z0 : Nat) (hz0 : z0 = s.heap.size) (hI : gI z0 ad) (hK : gK D cy tL z0 s s.heap) (n : Nat) (k : Nat) (ih : (∀ (v : gV) (u : Int64) (x4 : Int32) (H : Heap) (locs : List Loc) (cells slots : Nat) (ls : Array Slot), va_P D vwCl (gW cy ad v u) H → va_S (gA z0) s.heap H locs → lv_has ls 7 [(0, .ref b), (1, .ref (ad 0)), (2, .ref (ad 81)), (3, .ref (ad 89)), (4, .int x4)] → (cells + k ≤ 601000 ∧ slots + 6 * k ≤ 7290000) → sL_law_23 n xs L k v u x4 = some 1 → W p l e room_1 s m #[Value.ref b] below meth c H locs cells slots (lw_Z below #[Value.ref b] s) (F0 m 23 ls []))) (v : gV) (u : Int64) (x4 : Int32) (hs : sL_law_c25 n xs L (sL_law_23 n xs L k) v u x4 = some 1) (H : Heap) (locs : List Loc) (cells slots : Nat) (ls : Array Slot) (hP : va_P D vwCl (gW cy ad v u) H) (hS : va_S (gA z0) s.heap H locs) (hl : lv_has ls 7 [(0, .ref b), (1, .ref (ad 0)), (2, .ref (ad 81)), (3, .ref (ad 89)), (4, .int x4)]) (hcs : cells + (k + 1) ≤ 601000 ∧ slots + 6 * (k + 1) ≤ 7290000) : W p l e room_1 s m #[Value.ref b] below meth c H locs cells slots (lw_Z below #[Value.ref b] s) (F0 m 1094 ls []) := by
  obtain ⟨hx, hb, hr, hml, hown, hts0, hX, hbl, hlocks, hgv⟩ := C0
  have hts : ∀ w ∈ lw_tbl, w.before #[Value.ref b] s = true := hts0
  have hbA : ¬ gA z0 b := by rw [hz0]; exact Nat.not_le.mpr hbl
  unfold sL_law_c25 at hs
  refine lv_aload_n hx hb dL_law_1094 rfl (lv_at hl 1 rfl) ?_
  refine g_bind hs (fun q_1 hq_1 hs => ?_)
  refine gCV_i (As := []) (rest := []) ⟨hx, hb, hml, hown, hts⟩ (cX5_savedStates_c l D cy ad tL z0 hI v u q_1 hq_1) (cwV 0 hts gL_law_X5_savedStates rfl rfl rfl (by decide +kernel) ⟨Nat.le_of_ble_eq_true rfl, Nat.le_of_ble_eq_true rfl⟩) hK hP hS (va_recv hK.1 hP (ci := 5) (q0 := 0) rfl (gW_5 kd0)) hl.1 rfl rfl (Nat.le_of_ble_eq_true rfl) dL_law_1095 ⟨show _ ≤ 601024 by omega, show _ ≤ 7293034 by omega⟩ (fun H locs hP hS => ?_)
  refine lv_aload_n hx hb dL_law_1098 rfl (lv_at hl 2 rfl) ?_
  refine g_bind hs (fun q_2 hq_2 hs => ?_)
  refine gCV_i (As := []) (rest := [.int q_1]) ⟨hx, hb, hml, hown, hts⟩ (cX6_savedStates_c l D cy ad tL z0 hI v u q_2.1 q_2.2 hq_2) (cwV 0 hts gL_law_X6_savedStates rfl rfl rfl (by decide +kernel) ⟨Nat.le_of_ble_eq_true rfl, Nat.le_of_ble_eq_true rfl⟩) hK hP hS (va_recv hK.1 hP (ci := 6) (q0 := 81) rfl (gW_6 kd81)) hl.1 rfl rfl (Nat.le_of_ble_eq_true rfl) dL_law_1099 ⟨show _ ≤ 601024 by omega, show _ ≤ 7293034 by omega⟩ (fun H locs hP hS => ?_)
  refine lv_icmp_eq (tgt := 1121) hx hb dL_law_1102 (by decide) (fun hc => ?_) (fun hc => ?_)
  · have hs := g_t hs hc
    refine lv_iinc (v := x4 + 4) (lv' := [(4, .int (x4 + 4)), (0, .ref b), (1, .ref (ad 0)), (2, .ref (ad 81)), (3, .ref (ad 89))]) hx hb dL_law_1121 hl (k := 4) rfl rfl (by decide) rfl (fun ls hl => ?_)
    refine lv_goto (tgt := 23) hx hb dL_law_1124 (by decide) ?_
    exact ih q_2.2 u (x4 + 4) _ _ _ _ _ hP hS (lv_sub hl [1, 2, 3, 4, 0] rfl) (by omega) hs
  · have hs := g_f hs hc
    refine lv_iconst (v := 0) hx hb dL_law_1105 (by decide) ?_
    exact absurd (g_some hs) (by decide)
set_option maxHeartbeats 4000000 in
set_option maxRecDepth 100000 in
theorem hL_law_c26 {p : Program} {e : Env} {s : State} {m : MethodId} {below : List Frame} {meth : Method} {c : Code} (l : Launch) (hst : l.stackTraces = false) {b L : Nat} {xs : Nat → Int32} (C0 : lw_At p s m meth c b L xs) (D : va_G) (cy : Nat → ClassId) (ad : Nat → Nat) (tL z0 : Nat) (hz0 : z0 = s.heap.size) (hI : gI z0 ad) (hK : gK D cy tL z0 s s.heap) (n : Nat) (k : Nat) (ih : (∀ (v : gV) (u : Int64) (x4 : Int32) (H : Heap) (locs : List Loc) (cells slots : Nat) (ls : Array Slot), va_P D vwCl (gW cy ad v u) H → va_S (gA z0) s.heap H locs → lv_has ls 7 [(0, .ref b), (1, .ref (ad 0)), (2, .ref (ad 81)), (3, .ref (ad 89)), (4, .int x4)] → (cells + k ≤ 601000 ∧ slots + 6 * k ≤ 7290000) → sL_law_23 n xs L k v u x4 = some 1 → W p l e room_1 s m #[Value.ref b] below meth c H locs cells slots (lw_Z below #[Value.ref b] s) (F0 m 23 ls []))) (v : gV) (u : Int64) (x4 : Int32) (hs : sL_law_c26 n xs L (sL_law_23 n xs L k) v u x4 = some 1) (H : Heap) (locs : List Loc) (cells slots : Nat) (ls : Array Slot) (hP : va_P D vwCl (gW cy ad v u) H) (hS : va_S (gA z0) s.heap H locs) (hl : lv_has ls 7 [(0, .ref b), (1, .ref (ad 0)), (2, .ref (ad 81)), (3, .ref (ad 89)), (4, .int x4)]) (hcs : cells + (k + 1) ≤ 601000 ∧ slots + 6 * (k + 1) ≤ 7290000) : W p l e room_1 s m #[Value.ref b] below meth c H locs cells slots (lw_Z below #[Value.ref b] s) (F0 m 1107 ls []) := by
  obtain ⟨hx, hb, hr, hml, hown, hts0, hX, hbl, hlocks, hgv⟩ := C0
  have hts : ∀ w ∈ lw_tbl, w.before #[Value.ref b] s = true := hts0
  have hbA : ¬ gA z0 b := by rw [hz0]; exact Nat.not_le.mpr hbl
  unfold sL_law_c26 at hs
  refine lv_aload_n hx hb dL_law_1107 rfl (lv_at hl 1 rfl) ?_
  refine g_bind hs (fun q_1 hq_1 hs => ?_)
  refine gCV_l (As := []) (rest := []) ⟨hx, hb, hml, hown, hts⟩ (cX5_digest_c l D cy ad tL z0 hI n v u q_1 hq_1) (cwV 0 hts gL_law_X5_digest rfl rfl rfl (by decide +kernel) ⟨Nat.le_of_ble_eq_true rfl, Nat.le_of_ble_eq_true rfl⟩) hK hP hS (va_recv hK.1 hP (ci := 5) (q0 := 0) rfl (gW_5 kd0)) hl.1 rfl rfl (Nat.le_of_ble_eq_true rfl) dL_law_1108 ⟨show _ ≤ 601024 by omega, show _ ≤ 7293034 by omega⟩ (fun H locs hP hS => ?_)
  refine lv_aload_n hx hb dL_law_1111 rfl (lv_at hl 2 rfl) ?_
  refine g_bind hs (fun q_2 hq_2 hs => ?_)
  refine gCV_l (As := []) (rest := [.long q_1]) ⟨hx, hb, hml, hown, hts⟩ (cX6_digest_c l D cy ad tL z0 hI n v u q_2.1 q_2.2 hq_2) (cwV 0 hts gL_law_X6_digest rfl rfl rfl (by decide +kernel) ⟨Nat.le_of_ble_eq_true rfl, Nat.le_of_ble_eq_true rfl⟩) hK hP hS (va_recv hK.1 hP (ci := 6) (q0 := 81) rfl (gW_6 kd81)) hl.1 rfl rfl (Nat.le_of_ble_eq_true rfl) dL_law_1112 ⟨show _ ≤ 601024 by omega, show _ ≤ 7293034 by omega⟩ (fun H locs hP hS => ?_)
  refine W.lcmp hx hb dL_law_1115 ?_
  refine lv_if_eq (tgt := 1121) hx hb dL_law_1116 (by decide) (fun hc => ?_) (fun hc => ?_)
  · have hs := g_t hs hc
    refine lv_iinc (v := x4 + 4) (lv' := [(4, .int (x4 + 4)), (0, .ref b), (1, .ref (ad 0)), (2, .ref (ad 81)), (3, .ref (ad 89))]) hx hb dL_law_1121 hl (k := 4) rfl rfl (by decide) rfl (fun ls hl => ?_)
    refine lv_goto (tgt := 23) hx hb dL_law_1124 (by decide) ?_
    exact ih q_2.2 u (x4 + 4) _ _ _ _ _ hP hS (lv_sub hl [1, 2, 3, 4, 0] rfl) (by omega) hs
  · have hs := g_f hs hc
    refine lv_iconst (v := 0) hx hb dL_law_1119 (by decide) ?_
    exact absurd (g_some hs) (by decide)
