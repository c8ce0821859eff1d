set_option maxHeartbeats 4000000 in
set_option maxRecDepth 100000 in
theorem hL_law_225 {p : Program} {e : Env} {s : State} {m : MethodId} {below : List Frame} {meth : Method} {c : Code} (l : Launch) {b L : Nat} {xs : Nat → Int32} (C0 : lw_At p s m meth c b L xs) (D : va_G) (cy : Nat → ClassId) (ad : Nat → Nat) (tL z0 : Nat) (hz0 : z0 = s.heap.size) (hI : gI z0 ad) (hK : gK D cy tL z0 s s.heap) (u : Int64) (cells slots : Nat) (hcs : cells ≤ 600130 ∧ slots ≤ 7301080) (n : Nat) (F : gV → Int32 → Option Int32) (ih : ∀ (v : gV) (x2 : Int32) (H : Heap) (locs : List Loc) (ls : Array Slot), va_P D vwCl (gW cy ad v u) H → va_S (gA z0) s.heap H locs → lv_has ls 7 [(0, .ref b), (1, .ref (ad 0)), (2, .int x2)] → F v x2 = some 1 → W p l e room_1 s m #[Value.ref b] below meth c H locs cells slots (lw_Z below #[Value.ref b] s) (F0 m 10 ls [])) : ∀ (v : gV) (x2 x4 x5 : Int32) (H : Heap) (locs : List Loc) (ls : Array Slot), va_P D vwCl (gW cy ad v u) H → va_S (gA z0) s.heap H locs → lv_has ls 7 [(0, .ref b), (1, .ref (ad 0)), (2, .int x2), (4, .int x4), (5, .int x5)] → sL_law_225 n F v x2 x4 x5 = some 1 → W p l e room_1 s m #[Value.ref b] below meth c H locs cells slots (lw_Z below #[Value.ref b] s) (F0 m 225 ls []) := by
  obtain ⟨hx, hb, hr, hml, hown, hts0, hX, hbl, hlocks, hgv⟩ := C0
  have hts : ∀ w ∈ lw_tbl, w.before #[Value.ref b] s = true := hts0
  have hbz : b < z0 := by rw [hz0]; exact hbl
  intro v x2 x4 x5 H locs ls hP hS hl hs
  unfold sL_law_225 at hs
  refine lv_iload hx hb dL_law_225 (lv_at hl 4 rfl) ?_
  refine lv_if_eq (tgt := 262) hx hb dL_law_227 (by decide) (fun hc => ?_) (fun hc => ?_)
  · have hs := g_t hs hc
    refine lv_iconst (v := 0) hx hb dL_law_262 (by decide) ?_
    exact absurd (g_some hs) (by decide)
  · have hs := g_f hs hc
    refine lv_aload_n hx hb dL_law_230 rfl (lv_at hl 1 rfl) ?_
    refine g_bind hs (fun q_1 hq_1 hs => ?_)
    refine gCS_i (As := [.ref (ad 0)]) (rest := []) ⟨hx, hb, hml, hown, hts⟩ (cL_isWorldSo_c l D cy ad tL z0 hI n v u q_1 hq_1) (va_cwS 1 hts gL_law_L_isWorldSo rfl rfl rfl (by decide +kernel) ⟨Nat.le_of_ble_eq_true rfl, Nat.le_of_ble_eq_true rfl⟩) hK hP hS hl.1 rfl rfl (Nat.le_of_ble_eq_true rfl) dL_law_231 ⟨show _ ≤ 600130 from hcs.1, show _ ≤ 7301080 from hcs.2⟩ (fun H locs hP hS => ?_)
    refine lv_if_eq (tgt := 262) hx hb dL_law_234 (by decide) (fun hc => ?_) (fun hc => ?_)
    · have hs := g_t hs hc
      refine lv_iconst (v := 0) hx hb dL_law_262 (by decide) ?_
      exact absurd (g_some hs) (by decide)
    · have hs := g_f hs hc
      refine lv_aload_n hx hb dL_law_237 rfl (lv_at hl 1 rfl) ?_
      refine g_bind hs (fun q_2 hq_2 hs => ?_)
      refine gCV_i (As := []) (rest := []) ⟨hx, hb, hml, hown, hts⟩ (cX5_candidates_c l D cy ad tL z0 hI v u q_2 hq_2) (cwV 0 hts gL_law_X5_candidates rfl rfl rfl (by decide +kernel) ⟨Nat.le_of_ble_eq_true rfl, Nat.le_of_ble_eq_true rfl⟩) hK hP hS (va_recv hK.1 hP (ci := 5) (q0 := 0) rfl (gW_5 kd0)) hl.1 rfl rfl (Nat.le_of_ble_eq_true rfl) dL_law_238 ⟨show _ ≤ 600130 from hcs.1, show _ ≤ 7301080 from hcs.2⟩ (fun H locs hP hS => ?_)
      refine lv_if_ne (tgt := 264) hx hb dL_law_241 (by decide) (fun hc => ?_) (fun hc => ?_)
      · have hs := g_f hs hc
        refine lv_iinc (v := x2 + 1) (lv' := [(2, .int (x2 + 1)), (0, .ref b), (1, .ref (ad 0)), (4, .int x4), (5, .int x5)]) hx hb dL_law_264 hl (k := 2) rfl rfl (by decide) rfl (fun ls hl => ?_)
        refine lv_goto (tgt := 10) hx hb dL_law_267 (by decide) ?_
        exact ih v (x2 + 1) _ _ _ hP hS (lv_sub hl [1, 2, 0] rfl) hs
      · have hs := g_t hs hc
        refine lv_iload_n hx hb dL_law_244 rfl (lv_at hl 2 rfl) ?_
        refine lv_iconst (v := 4) hx hb dL_law_245 (by decide) ?_
        refine lv_irem hx hb dL_law_246 (by decide) ?_
        refine lv_iconst (v := 3) hx hb dL_law_247 (by decide) ?_
        refine lv_icmp_ne (tgt := 264) hx hb dL_law_248 (by decide) (fun hc => ?_) (fun hc => ?_)
        · have hs := g_f hs hc
          refine lv_iinc (v := x2 + 1) (lv' := [(2, .int (x2 + 1)), (0, .ref b), (1, .ref (ad 0)), (4, .int x4), (5, .int x5)]) hx hb dL_law_264 hl (k := 2) rfl rfl (by decide) rfl (fun ls hl => ?_)
          refine lv_goto (tgt := 10) hx hb dL_law_267 (by decide) ?_
          exact ih v (x2 + 1) _ _ _ hP hS (lv_sub hl [1, 2, 0] rfl) hs
        · have hs := g_t hs hc
          refine lv_aload_n hx hb dL_law_251 rfl (lv_at hl 1 rfl) ?_
          refine lv_iload hx hb dL_law_252 (lv_at hl 3 rfl) ?_
          refine lv_iconst (v := 5) hx hb dL_law_254 (by decide) ?_
          refine lv_ishr hx hb dL_law_255 ?_
          refine g_bind hs (fun q_3 hq_3 hs => ?_)
          refine gCS_i (As := [.ref (ad 0), .int (x4 >>> (5 &&& 31))]) (rest := []) ⟨hx, hb, hml, hown, hts⟩ (cL_areAllButSo_c l D cy ad tL z0 hI n v u (x4 >>> (5 &&& 31)) q_3.1 q_3.2 hq_3) (va_cwS 2 hts gL_law_L_areAllButSo rfl rfl rfl (by decide +kernel) ⟨Nat.le_of_ble_eq_true rfl, Nat.le_of_ble_eq_true rfl⟩) hK hP hS hl.1 rfl rfl (Nat.le_of_ble_eq_true rfl) dL_law_256 ⟨show _ ≤ 600130 from hcs.1, show _ ≤ 7301080 from hcs.2⟩ (fun H locs hP hS => ?_)
          refine lv_if_ne (tgt := 264) hx hb dL_law_259 (by decide) (fun hc => ?_) (fun hc => ?_)
          · have hs := g_f hs hc
            refine lv_iinc (v := x2 + 1) (lv' := [(2, .int (x2 + 1)), (0, .ref b), (1, .ref (ad 0)), (4, .int x4), (5, .int x5)]) hx hb dL_law_264 hl (k := 2) rfl rfl (by decide) rfl (fun ls hl => ?_)
            refine lv_goto (tgt := 10) hx hb dL_law_267 (by decide) ?_
            exact ih q_3.2 (x2 + 1) _ _ _ hP hS (lv_sub hl [1, 2, 0] rfl) hs
          · have hs := g_t hs hc
            refine lv_iconst (v := 0) hx hb dL_law_262 (by decide) ?_
            exact absurd (g_some hs) (by decide)
set_option maxHeartbeats 4000000 in
set_option maxRecDepth 100000 in
theorem hL_law_10 {p : Program} {e : Env} {s : State} {m : MethodId} {below : List Frame} {meth : Method} {c : Code} (l : Launch) {b L : Nat} {xs : Nat → Int32} (C0 : lw_At p s m meth c b L xs) (D : va_G) (cy : Nat → ClassId) (ad : Nat → Nat) (tL z0 : Nat) (hz0 : z0 = s.heap.size) (hI : gI z0 ad) (hK : gK D cy tL z0 s s.heap) (u : Int64) (cells slots : Nat) (hcs : cells ≤ 600130 ∧ slots ≤ 7301080) (n : Nat) : ∀ (k : Nat), ∀ (v : gV) (x2 : Int32) (H : Heap) (locs : List Loc) (ls : Array Slot), va_P D vwCl (gW cy ad v u) H → va_S (gA z0) s.heap H locs → lv_has ls 7 [(0, .ref b), (1, .ref (ad 0)), (2, .int x2)] → sL_law_10 n xs L k v x2 = some 1 → W p l e room_1 s m #[Value.ref b] below meth c H locs cells slots (lw_Z below #[Value.ref b] s) (F0 m 10 ls []) := by
  have C1 := C0
  obtain ⟨hx, hb, hr, hml, hown, hts0, hX, hbl, hlocks, hgv⟩ := C0
  have hts : ∀ w ∈ lw_tbl, w.before #[Value.ref b] s = true := hts0
  have hbz : b < z0 := by rw [hz0]; exact hbl
  intro k
  induction k with
  | zero =>
    intro v x2 H locs ls hP hS hl hs
    exact g_none hs
  | succ k ih =>
    have hT := hL_law_225 l C1 D cy ad tL z0 hz0 hI hK u cells slots hcs n (sL_law_10 n xs L k) ih
    intro v x2 H locs ls hP hS hl hs
    rw [sL_law_10] at hs
    refine lv_iload_n hx hb dL_law_10 rfl (lv_at hl 2 rfl) ?_
    refine lv_bipush (v := 52) hx hb dL_law_11 (by decide) ?_
    refine lv_icmp_ge (tgt := 270) hx hb dL_law_13 (by decide) (fun hc => ?_) (fun hc => ?_)
    · have hs := g_t hs hc
      refine lv_iconst (v := 1) hx hb dL_law_270 (by decide) ?_
      refine va_forget (fun q hq => by rw [← hz0]; exact hS.2.2 q hq) ?_
      refine W.widen (k := 600130) (n := 7301080) hcs.1 hcs.2 ?_
      exact lw_ret hx hb hr hlocks dL_law_271
    · have hs := g_f hs hc
      refine lv_aload_n hx hb dL_law_16 rfl (lv_at hl 0 rfl) ?_
      refine lv_iload_n hx hb dL_law_17 rfl (lv_at hl 2 rfl) ?_
      refine g_bind hs (fun q_4 hq_4 hs => ?_)
      refine gCSx_i (As := [.ref b, .int x2]) (rest := []) ⟨hx, hb, hml, hown, hts⟩ (cL_cell_c l D cy ad tL z0 hI b L xs v u x2 q_4 hq_4) (va_cwS 2 hts gL_law_L_cell rfl rfl rfl (by decide +kernel) ⟨Nat.le_of_ble_eq_true rfl, Nat.le_of_ble_eq_true rfl⟩) hK hP hS hX hbl hbz hl.1 rfl rfl (Nat.le_of_ble_eq_true rfl) dL_law_18 ⟨show _ ≤ 600130 from hcs.1, show _ ≤ 7301080 from hcs.2⟩ (fun H locs hP hS => ?_)
      refine lv_istore_n (lv' := [(3, .int q_4), (0, .ref b), (1, .ref (ad 0)), (2, .int x2)]) hx hb dL_law_21 rfl hl (by decide) rfl (fun ls hl => ?_)
      refine lv_sipush (v := 7919) hx hb dL_law_22 (by decide) ?_
      refine lv_iload_n hx hb dL_law_25 rfl (lv_at hl 0 rfl) ?_
      refine lv_imul hx hb dL_law_26 ?_
      refine lv_ldc hx hb hown (hts (.constant RL 119 (104729)) (zl_t3 (List.mem_of_getElem? (i := 225) (by decide +kernel)))) dL_law_27 ?_
      refine lv_iload_n hx hb dL_law_29 rfl (lv_at hl 3 rfl) ?_
      refine lv_imul hx hb dL_law_30 ?_
      refine lv_iadd hx hb dL_law_31 ?_
      refine lv_istore (lv' := [(4, .int ((7919 * q_4) + (104729 * x2))), (3, .int q_4), (0, .ref b), (1, .ref (ad 0)), (2, .int x2)]) hx hb dL_law_32 hl (by decide) rfl (fun ls hl => ?_)
      refine lv_iconst (v := 1) hx hb dL_law_34 (by decide) ?_
      refine lv_istore (lv' := [(5, .int 1), (4, .int ((7919 * q_4) + (104729 * x2))), (3, .int q_4), (0, .ref b), (1, .ref (ad 0)), (2, .int x2)]) hx hb dL_law_35 hl (by decide) rfl (fun ls hl => ?_)
      refine lv_aload_n hx hb dL_law_37 rfl (lv_at hl 4 rfl) ?_
      refine g_bind hs (fun q_5 hq_5 hs => ?_)
      refine gCV_i (As := []) (rest := []) ⟨hx, hb, hml, hown, hts⟩ (cX5_objects_c l D cy ad tL z0 hI v u q_5 hq_5) (cwV 0 hts gL_law_X5_objects rfl rfl rfl (by decide +kernel) ⟨Nat.le_of_ble_eq_true rfl, Nat.le_of_ble_eq_true rfl⟩) hK hP hS (va_recv hK.1 hP (ci := 5) (q0 := 0) rfl (gW_5 kd0)) hl.1 rfl rfl (Nat.le_of_ble_eq_true rfl) dL_law_38 ⟨show _ ≤ 600130 from hcs.1, show _ ≤ 7301080 from hcs.2⟩ (fun H locs hP hS => ?_)
      refine lv_iconst (v := 5) hx hb dL_law_41 (by decide) ?_
      refine lv_icmp_lt (tgt := 52) hx hb dL_law_42 (by decide) (fun hc => ?_) (fun hc => ?_)
      · have hs := g_t hs hc
        refine lv_aload_n hx hb dL_law_52 rfl (lv_at hl 4 rfl) ?_
        refine lv_iload hx hb dL_law_53 (lv_at hl 1 rfl) ?_
        refine lv_iconst (v := 3) hx hb dL_law_55 (by decide) ?_
        refine lv_ishr hx hb dL_law_56 ?_
        refine g_bind hs (fun q_6 hq_6 hs => ?_)
        refine gCS_v (As := [.ref (ad 0), .int (((7919 * q_4) + (104729 * x2)) >>> (3 &&& 31))]) (rest := []) ⟨hx, hb, hml, hown, hts⟩ (cL_grow_c l D cy ad tL z0 hI n v u (((7919 * q_4) + (104729 * x2)) >>> (3 &&& 31)) q_6 hq_6) (va_cwS 2 hts gL_law_L_grow rfl rfl rfl (by decide +kernel) ⟨Nat.le_of_ble_eq_true rfl, Nat.le_of_ble_eq_true rfl⟩) hK hP hS hl.1 rfl rfl (Nat.le_of_ble_eq_true rfl) dL_law_57 ⟨show _ ≤ 600130 from hcs.1, show _ ≤ 7301080 from hcs.2⟩ (fun H locs hP hS => ?_)
        refine lv_aload_n hx hb dL_law_60 rfl (lv_at hl 4 rfl) ?_
        refine g_bind hs (fun q_7 hq_7 hs => ?_)
        refine gCV_i (As := []) (rest := []) ⟨hx, hb, hml, hown, hts⟩ (cX5_candidates_c l D cy ad tL z0 hI q_6 u q_7 hq_7) (cwV 0 hts gL_law_X5_candidates rfl rfl rfl (by decide +kernel) ⟨Nat.le_of_ble_eq_true rfl, Nat.le_of_ble_eq_true rfl⟩) hK hP hS (va_recv hK.1 hP (ci := 5) (q0 := 0) rfl (gW_5 kd0)) hl.1 rfl rfl (Nat.le_of_ble_eq_true rfl) dL_law_61 ⟨show _ ≤ 600130 from hcs.1, show _ ≤ 7301080 from hcs.2⟩ (fun H locs hP hS => ?_)
        refine lv_if_eq (tgt := 83) hx hb dL_law_64 (by decide) (fun hc => ?_) (fun hc => ?_)
        · have hs := g_t hs hc
          refine lv_iconst (v := 1) hx hb dL_law_83 (by decide) ?_
          refine lv_goto (tgt := 88) hx hb dL_law_84 (by decide) ?_
          refine lv_istore (lv' := [(5, .int 1), (4, .int ((7919 * q_4) + (104729 * x2))), (3, .int q_4), (0, .ref b), (1, .ref (ad 0)), (2, .int x2)]) hx hb dL_law_88 hl (by decide) rfl (fun ls hl => ?_)
          refine lv_goto (tgt := 225) hx hb dL_law_90 (by decide) ?_
          exact hT q_6 x2 ((7919 * q_4) + (104729 * x2)) 1 _ _ _ hP hS (lv_sub hl [3, 4, 5, 1, 0] rfl) hs
        · have hs := g_f hs hc
          refine lv_aload_n hx hb dL_law_67 rfl (lv_at hl 4 rfl) ?_
          refine g_bind hs (fun q_8 hq_8 hs => ?_)
          refine gCV_i (As := []) (rest := []) ⟨hx, hb, hml, hown, hts⟩ (cX5_objects_c l D cy ad tL z0 hI q_6 u q_8 hq_8) (cwV 0 hts gL_law_X5_objects rfl rfl rfl (by decide +kernel) ⟨Nat.le_of_ble_eq_true rfl, Nat.le_of_ble_eq_true rfl⟩) hK hP hS (va_recv hK.1 hP (ci := 5) (q0 := 0) rfl (gW_5 kd0)) hl.1 rfl rfl (Nat.le_of_ble_eq_true rfl) dL_law_68 ⟨show _ ≤ 600130 from hcs.1, show _ ≤ 7301080 from hcs.2⟩ (fun H locs hP hS => ?_)
          refine lv_bipush (v := 12) hx hb dL_law_71 (by decide) ?_
          refine lv_icmp_eq (tgt := 83) hx hb dL_law_73 (by decide) (fun hc => ?_) (fun hc => ?_)
          · have hs := g_t hs hc
            refine lv_iconst (v := 1) hx hb dL_law_83 (by decide) ?_
            refine lv_goto (tgt := 88) hx hb dL_law_84 (by decide) ?_
            refine lv_istore (lv' := [(5, .int 1), (4, .int ((7919 * q_4) + (104729 * x2))), (3, .int q_4), (0, .ref b), (1, .ref (ad 0)), (2, .int x2)]) hx hb dL_law_88 hl (by decide) rfl (fun ls hl => ?_)
            refine lv_goto (tgt := 225) hx hb dL_law_90 (by decide) ?_
            exact hT q_6 x2 ((7919 * q_4) + (104729 * x2)) 1 _ _ _ hP hS (lv_sub hl [3, 4, 5, 1, 0] rfl) hs
          · have hs := g_f hs hc
            refine lv_aload_n hx hb dL_law_76 rfl (lv_at hl 4 rfl) ?_
            refine g_bind hs (fun q_9 hq_9 hs => ?_)
            refine gCV_i (As := []) (rest := []) ⟨hx, hb, hml, hown, hts⟩ (cX5_asked_c l D cy ad tL z0 hI q_6 u q_9 hq_9) (cwV 0 hts gL_law_X5_asked rfl rfl rfl (by decide +kernel) ⟨Nat.le_of_ble_eq_true rfl, Nat.le_of_ble_eq_true rfl⟩) hK hP hS (va_recv hK.1 hP (ci := 5) (q0 := 0) rfl (gW_5 kd0)) hl.1 rfl rfl (Nat.le_of_ble_eq_true rfl) dL_law_77 ⟨show _ ≤ 600130 from hcs.1, show _ ≤ 7301080 from hcs.2⟩ (fun H locs hP hS => ?_)
            refine lv_if_le (tgt := 87) hx hb dL_law_80 (by decide) (fun hc => ?_) (fun hc => ?_)
            · have hs := g_t hs hc
              refine lv_iconst (v := 0) hx hb dL_law_87 (by decide) ?_
              refine lv_istore (lv' := [(5, .int 0), (4, .int ((7919 * q_4) + (104729 * x2))), (3, .int q_4), (0, .ref b), (1, .ref (ad 0)), (2, .int x2)]) hx hb dL_law_88 hl (by decide) rfl (fun ls hl => ?_)
              refine lv_goto (tgt := 225) hx hb dL_law_90 (by decide) ?_
              exact hT q_6 x2 ((7919 * q_4) + (104729 * x2)) 0 _ _ _ hP hS (lv_sub hl [3, 4, 5, 1, 0] rfl) hs
            · have hs := g_f hs hc
              refine lv_iconst (v := 1) hx hb dL_law_83 (by decide) ?_
              refine lv_goto (tgt := 88) hx hb dL_law_84 (by decide) ?_
              refine lv_istore (lv' := [(5, .int 1), (4, .int ((7919 * q_4) + (104729 * x2))), (3, .int q_4), (0, .ref b), (1, .ref (ad 0)), (2, .int x2)]) hx hb dL_law_88 hl (by decide) rfl (fun ls hl => ?_)
              refine lv_goto (tgt := 225) hx hb dL_law_90 (by decide) ?_
              exact hT q_6 x2 ((7919 * q_4) + (104729 * x2)) 1 _ _ _ hP hS (lv_sub hl [3, 4, 5, 1, 0] rfl) hs
      · have hs := g_f hs hc
        refine lv_iload_n hx hb dL_law_45 rfl (lv_at hl 2 rfl) ?_
        refine lv_bipush (v := 7) hx hb dL_law_46 (by decide) ?_
        refine lv_iand hx hb dL_law_48 ?_
        refine lv_if_ne (tgt := 93) hx hb dL_law_49 (by decide) (fun hc => ?_) (fun hc => ?_)
        · have hs := g_f hs hc
          refine lv_aload_n hx hb dL_law_93 rfl (lv_at hl 4 rfl) ?_
          refine g_bind hs (fun q_10 hq_10 hs => ?_)
          refine gCV_i (As := []) (rest := []) ⟨hx, hb, hml, hown, hts⟩ (cX5_candidates_c l D cy ad tL z0 hI v u q_10 hq_10) (cwV 0 hts gL_law_X5_candidates rfl rfl rfl (by decide +kernel) ⟨Nat.le_of_ble_eq_true rfl, Nat.le_of_ble_eq_true rfl⟩) hK hP hS (va_recv hK.1 hP (ci := 5) (q0 := 0) rfl (gW_5 kd0)) hl.1 rfl rfl (Nat.le_of_ble_eq_true rfl) dL_law_94 ⟨show _ ≤ 600130 from hcs.1, show _ ≤ 7301080 from hcs.2⟩ (fun H locs hP hS => ?_)
          refine lv_if_eq (tgt := 119) hx hb dL_law_97 (by decide) (fun hc => ?_) (fun hc => ?_)
          · have hs := g_t hs hc
            refine lv_iload_n hx hb dL_law_119 rfl (lv_at hl 2 rfl) ?_
            refine lv_bipush (v := 15) hx hb dL_law_120 (by decide) ?_
            refine lv_iand hx hb dL_law_122 ?_
            refine lv_iconst (v := 1) hx hb dL_law_123 (by decide) ?_
            refine lv_icmp_ne (tgt := 180) hx hb dL_law_124 (by decide) (fun hc => ?_) (fun hc => ?_)
            · have hs := g_f hs hc
              refine lv_aload_n hx hb dL_law_180 rfl (lv_at hl 4 rfl) ?_
              refine lv_iload_n hx hb dL_law_181 rfl (lv_at hl 2 rfl) ?_
              refine lv_iconst (v := 1) hx hb dL_law_182 (by decide) ?_
              refine lv_ishr hx hb dL_law_183 ?_
              refine lv_iload hx hb dL_law_184 (lv_at hl 1 rfl) ?_
              refine lv_iconst (v := 2) hx hb dL_law_186 (by decide) ?_
              refine lv_ishr hx hb dL_law_187 ?_
              refine g_bind hs (fun q_11 hq_11 hs => ?_)
              refine gCS_i (As := [.ref (ad 0), .int (q_4 >>> (1 &&& 31)), .int (((7919 * q_4) + (104729 * x2)) >>> (2 &&& 31))]) (rest := []) ⟨hx, hb, hml, hown, hts⟩ (cL_type_c l D cy ad tL z0 hI n v u (q_4 >>> (1 &&& 31)) (((7919 * q_4) + (104729 * x2)) >>> (2 &&& 31)) q_11.1 q_11.2 hq_11) (va_cwS 3 hts gL_law_L_type rfl rfl rfl (by decide +kernel) ⟨Nat.le_of_ble_eq_true rfl, Nat.le_of_ble_eq_true rfl⟩) hK hP hS hl.1 rfl rfl (Nat.le_of_ble_eq_true rfl) dL_law_188 ⟨show _ ≤ 600130 from hcs.1, show _ ≤ 7301080 from hcs.2⟩ (fun H locs hP hS => ?_)
              refine lv_istore (lv' := [(6, .int q_11.1), (5, .int 1), (4, .int ((7919 * q_4) + (104729 * x2))), (3, .int q_4), (0, .ref b), (1, .ref (ad 0)), (2, .int x2)]) hx hb dL_law_191 hl (by decide) rfl (fun ls hl => ?_)
              refine lv_iload hx hb dL_law_193 (lv_at hl 0 rfl) ?_
              refine lv_if_lt (tgt := 222) hx hb dL_law_195 (by decide) (fun hc => ?_) (fun hc => ?_)
              · have hs := g_t hs hc
                refine lv_iconst (v := 0) hx hb dL_law_222 (by decide) ?_
                refine lv_istore (lv' := [(5, .int 0), (6, .int q_11.1), (4, .int ((7919 * q_4) + (104729 * x2))), (3, .int q_4), (0, .ref b), (1, .ref (ad 0)), (2, .int x2)]) hx hb dL_law_223 hl (by decide) rfl (fun ls hl => ?_)
                exact hT q_11.2 x2 ((7919 * q_4) + (104729 * x2)) 0 _ _ _ hP hS (lv_sub hl [4, 5, 6, 2, 0] rfl) hs
              · have hs := g_f hs hc
                refine lv_aload_n hx hb dL_law_198 rfl (lv_at hl 5 rfl) ?_
                refine lv_iload_n hx hb dL_law_199 rfl (lv_at hl 3 rfl) ?_
                refine lv_iconst (v := 5) hx hb dL_law_200 (by decide) ?_
                refine lv_ishr hx hb dL_law_201 ?_
                refine lv_iconst (v := 3) hx hb dL_law_202 (by decide) ?_
                refine lv_iand hx hb dL_law_203 ?_
                refine lv_if_ne (tgt := 211) hx hb dL_law_204 (by decide) (fun hc => ?_) (fun hc => ?_)
                · have hs := g_f hs hc
                  refine lv_iconst (v := 0) hx hb dL_law_211 (by decide) ?_
                  refine g_bind hs (fun q_12 hq_12 hs => ?_)
                  refine gCS_i (As := [.ref (ad 0), .int 0]) (rest := []) ⟨hx, hb, hml, hown, hts⟩ (cL_isEnterSo_c l D cy ad tL z0 hI n q_11.2 u 0 q_12.1 q_12.2 hq_12) (va_cwS 2 hts gL_law_L_isEnterSo rfl rfl rfl (by decide +kernel) ⟨Nat.le_of_ble_eq_true rfl, Nat.le_of_ble_eq_true rfl⟩) hK hP hS hl.1 rfl rfl (Nat.le_of_ble_eq_true rfl) dL_law_212 ⟨show _ ≤ 600130 from hcs.1, show _ ≤ 7301080 from hcs.2⟩ (fun H locs hP hS => ?_)
                  refine lv_if_eq (tgt := 222) hx hb dL_law_215 (by decide) (fun hc => ?_) (fun hc => ?_)
                  · have hs := g_t hs hc
                    refine lv_iconst (v := 0) hx hb dL_law_222 (by decide) ?_
                    refine lv_istore (lv' := [(5, .int 0), (6, .int q_11.1), (4, .int ((7919 * q_4) + (104729 * x2))), (3, .int q_4), (0, .ref b), (1, .ref (ad 0)), (2, .int x2)]) hx hb dL_law_223 hl (by decide) rfl (fun ls hl => ?_)
                    exact hT q_12.2 x2 ((7919 * q_4) + (104729 * x2)) 0 _ _ _ hP hS (lv_sub hl [4, 5, 6, 2, 0] rfl) hs
                  · have hs := g_f hs hc
                    refine lv_iconst (v := 1) hx hb dL_law_218 (by decide) ?_
                    refine lv_goto (tgt := 223) hx hb dL_law_219 (by decide) ?_
                    refine lv_istore (lv' := [(5, .int 1), (6, .int q_11.1), (4, .int ((7919 * q_4) + (104729 * x2))), (3, .int q_4), (0, .ref b), (1, .ref (ad 0)), (2, .int x2)]) hx hb dL_law_223 hl (by decide) rfl (fun ls hl => ?_)
                    exact hT q_12.2 x2 ((7919 * q_4) + (104729 * x2)) 1 _ _ _ hP hS (lv_sub hl [4, 5, 6, 2, 0] rfl) hs
                · have hs := g_t hs hc
                  refine lv_iconst (v := 1) hx hb dL_law_207 (by decide) ?_
                  refine lv_goto (tgt := 212) hx hb dL_law_208 (by decide) ?_
                  refine g_bind hs (fun q_13 hq_13 hs => ?_)
                  refine gCS_i (As := [.ref (ad 0), .int 1]) (rest := []) ⟨hx, hb, hml, hown, hts⟩ (cL_isEnterSo_c l D cy ad tL z0 hI n q_11.2 u 1 q_13.1 q_13.2 hq_13) (va_cwS 2 hts gL_law_L_isEnterSo rfl rfl rfl (by decide +kernel) ⟨Nat.le_of_ble_eq_true rfl, Nat.le_of_ble_eq_true rfl⟩) hK hP hS hl.1 rfl rfl (Nat.le_of_ble_eq_true rfl) dL_law_212 ⟨show _ ≤ 600130 from hcs.1, show _ ≤ 7301080 from hcs.2⟩ (fun H locs hP hS => ?_)
                  refine lv_if_eq (tgt := 222) hx hb dL_law_215 (by decide) (fun hc => ?_) (fun hc => ?_)
                  · have hs := g_t hs hc
                    refine lv_iconst (v := 0) hx hb dL_law_222 (by decide) ?_
                    refine lv_istore (lv' := [(5, .int 0), (6, .int q_11.1), (4, .int ((7919 * q_4) + (104729 * x2))), (3, .int q_4), (0, .ref b), (1, .ref (ad 0)), (2, .int x2)]) hx hb dL_law_223 hl (by decide) rfl (fun ls hl => ?_)
                    exact hT q_13.2 x2 ((7919 * q_4) + (104729 * x2)) 0 _ _ _ hP hS (lv_sub hl [4, 5, 6, 2, 0] rfl) hs
                  · have hs := g_f hs hc
                    refine lv_iconst (v := 1) hx hb dL_law_218 (by decide) ?_
                    refine lv_goto (tgt := 223) hx hb dL_law_219 (by decide) ?_
                    refine lv_istore (lv' := [(5, .int 1), (6, .int q_11.1), (4, .int ((7919 * q_4) + (104729 * x2))), (3, .int q_4), (0, .ref b), (1, .ref (ad 0)), (2, .int x2)]) hx hb dL_law_223 hl (by decide) rfl (fun ls hl => ?_)
                    exact hT q_13.2 x2 ((7919 * q_4) + (104729 * x2)) 1 _ _ _ hP hS (lv_sub hl [4, 5, 6, 2, 0] rfl) hs
            · have hs := g_t hs hc
              refine lv_aload_n hx hb dL_law_127 rfl (lv_at hl 4 rfl) ?_
              refine g_bind hs (fun q_14 hq_14 hs => ?_)
              refine gCV_i (As := []) (rest := []) ⟨hx, hb, hml, hown, hts⟩ (cX5_room_c l D cy ad tL z0 hI v u q_14 hq_14) (cwV 0 hts gL_law_X5_room rfl rfl rfl (by decide +kernel) ⟨Nat.le_of_ble_eq_true rfl, Nat.le_of_ble_eq_true rfl⟩) hK hP hS (va_recv hK.1 hP (ci := 5) (q0 := 0) rfl (gW_5 kd0)) hl.1 rfl rfl (Nat.le_of_ble_eq_true rfl) dL_law_128 ⟨show _ ≤ 600130 from hcs.1, show _ ≤ 7301080 from hcs.2⟩ (fun H locs hP hS => ?_)
              refine lv_istore (lv' := [(6, .int q_14), (5, .int 1), (4, .int ((7919 * q_4) + (104729 * x2))), (3, .int q_4), (0, .ref b), (1, .ref (ad 0)), (2, .int x2)]) hx hb dL_law_131 hl (by decide) rfl (fun ls hl => ?_)
              refine lv_aload_n hx hb dL_law_133 rfl (lv_at hl 5 rfl) ?_
              refine lv_iload_n hx hb dL_law_134 rfl (lv_at hl 3 rfl) ?_
              refine lv_iconst (v := 4) hx hb dL_law_135 (by decide) ?_
              refine lv_ishr hx hb dL_law_136 ?_
              refine lv_iconst (v := 4) hx hb dL_law_137 (by decide) ?_
              refine g_bind hs (fun q_15 hq_15 hs => ?_)
              refine gCS_i (As := [.int (q_4 >>> (4 &&& 31)), .int 4]) (rest := [.ref (ad 0)]) ⟨hx, hb, hml, hown, hts⟩ (cL_low_c l D cy ad tL z0 hI v u (q_4 >>> (4 &&& 31)) 4 q_15 hq_15) (va_cwS 2 hts gL_law_L_low rfl rfl rfl (by decide +kernel) ⟨Nat.le_of_ble_eq_true rfl, Nat.le_of_ble_eq_true rfl⟩) hK hP hS hl.1 rfl rfl (Nat.le_of_ble_eq_true rfl) dL_law_138 ⟨show _ ≤ 600130 from hcs.1, show _ ≤ 7301080 from hcs.2⟩ (fun H locs hP hS => ?_)
              refine g_bind hs (fun q_16 hq_16 hs => ?_)
              refine gCV_i (As := [.int q_15]) (rest := []) ⟨hx, hb, hml, hown, hts⟩ (cX5_moveTo_c l D cy ad tL z0 hI n v u q_15 q_16.1 q_16.2 hq_16) (cwV 1 hts gL_law_X5_moveTo rfl rfl rfl (by decide +kernel) ⟨Nat.le_of_ble_eq_true rfl, Nat.le_of_ble_eq_true rfl⟩) hK hP hS (va_recv hK.1 hP (ci := 5) (q0 := 0) rfl (gW_5 kd0)) hl.1 rfl rfl (Nat.le_of_ble_eq_true rfl) dL_law_141 ⟨show _ ≤ 600130 from hcs.1, show _ ≤ 7301080 from hcs.2⟩ (fun H locs hP hS => ?_)
              refine lv_iload hx hb dL_law_144 (lv_at hl 0 rfl) ?_
              refine lv_icmp_ne (tgt := 174) hx hb dL_law_146 (by decide) (fun hc => ?_) (fun hc => ?_)
              · have hs := g_f hs hc
                refine lv_iconst (v := 0) hx hb dL_law_174 (by decide) ?_
                refine lv_istore (lv' := [(5, .int 0), (6, .int q_14), (4, .int ((7919 * q_4) + (104729 * x2))), (3, .int q_4), (0, .ref b), (1, .ref (ad 0)), (2, .int x2)]) hx hb dL_law_175 hl (by decide) rfl (fun ls hl => ?_)
                refine lv_goto (tgt := 225) hx hb dL_law_177 (by decide) ?_
                exact hT q_16.2 x2 ((7919 * q_4) + (104729 * x2)) 0 _ _ _ hP hS (lv_sub hl [4, 5, 6, 2, 0] rfl) hs
              · have hs := g_t hs hc
                refine lv_aload_n hx hb dL_law_149 rfl (lv_at hl 5 rfl) ?_
                refine g_bind hs (fun q_17 hq_17 hs => ?_)
                refine gCV_i (As := []) (rest := []) ⟨hx, hb, hml, hown, hts⟩ (cX5_candidates_c l D cy ad tL z0 hI q_16.2 u q_17 hq_17) (cwV 0 hts gL_law_X5_candidates rfl rfl rfl (by decide +kernel) ⟨Nat.le_of_ble_eq_true rfl, Nat.le_of_ble_eq_true rfl⟩) hK hP hS (va_recv hK.1 hP (ci := 5) (q0 := 0) rfl (gW_5 kd0)) hl.1 rfl rfl (Nat.le_of_ble_eq_true rfl) dL_law_150 ⟨show _ ≤ 600130 from hcs.1, show _ ≤ 7301080 from hcs.2⟩ (fun H locs hP hS => ?_)
                refine lv_if_ne (tgt := 174) hx hb dL_law_153 (by decide) (fun hc => ?_) (fun hc => ?_)
                · have hs := g_f hs hc
                  refine lv_iconst (v := 0) hx hb dL_law_174 (by decide) ?_
                  refine lv_istore (lv' := [(5, .int 0), (6, .int q_14), (4, .int ((7919 * q_4) + (104729 * x2))), (3, .int q_4), (0, .ref b), (1, .ref (ad 0)), (2, .int x2)]) hx hb dL_law_175 hl (by decide) rfl (fun ls hl => ?_)
                  refine lv_goto (tgt := 225) hx hb dL_law_177 (by decide) ?_
                  exact hT q_16.2 x2 ((7919 * q_4) + (104729 * x2)) 0 _ _ _ hP hS (lv_sub hl [4, 5, 6, 2, 0] rfl) hs
                · have hs := g_t hs hc
                  refine lv_aload_n hx hb dL_law_156 rfl (lv_at hl 5 rfl) ?_
                  refine g_bind hs (fun q_18 hq_18 hs => ?_)
                  refine gCV_i (As := []) (rest := []) ⟨hx, hb, hml, hown, hts⟩ (cX5_room_c l D cy ad tL z0 hI q_16.2 u q_18 hq_18) (cwV 0 hts gL_law_X5_room rfl rfl rfl (by decide +kernel) ⟨Nat.le_of_ble_eq_true rfl, Nat.le_of_ble_eq_true rfl⟩) hK hP hS (va_recv hK.1 hP (ci := 5) (q0 := 0) rfl (gW_5 kd0)) hl.1 rfl rfl (Nat.le_of_ble_eq_true rfl) dL_law_157 ⟨show _ ≤ 600130 from hcs.1, show _ ≤ 7301080 from hcs.2⟩ (fun H locs hP hS => ?_)
                  refine lv_iload_n hx hb dL_law_160 rfl (lv_at hl 3 rfl) ?_
                  refine lv_iconst (v := 4) hx hb dL_law_161 (by decide) ?_
                  refine lv_ishr hx hb dL_law_162 ?_
                  refine lv_iconst (v := 4) hx hb dL_law_163 (by decide) ?_
                  refine g_bind hs (fun q_19 hq_19 hs => ?_)
                  refine gCS_i (As := [.int (q_4 >>> (4 &&& 31)), .int 4]) (rest := [.int q_18]) ⟨hx, hb, hml, hown, hts⟩ (cL_low_c l D cy ad tL z0 hI q_16.2 u (q_4 >>> (4 &&& 31)) 4 q_19 hq_19) (va_cwS 2 hts gL_law_L_low rfl rfl rfl (by decide +kernel) ⟨Nat.le_of_ble_eq_true rfl, Nat.le_of_ble_eq_true rfl⟩) hK hP hS hl.1 rfl rfl (Nat.le_of_ble_eq_true rfl) dL_law_164 ⟨show _ ≤ 600130 from hcs.1, show _ ≤ 7301080 from hcs.2⟩ (fun H locs hP hS => ?_)
                  refine lv_icmp_ne (tgt := 174) hx hb dL_law_167 (by decide) (fun hc => ?_) (fun hc => ?_)
                  · have hs := g_f hs hc
                    refine lv_iconst (v := 0) hx hb dL_law_174 (by decide) ?_
                    refine lv_istore (lv' := [(5, .int 0), (6, .int q_14), (4, .int ((7919 * q_4) + (104729 * x2))), (3, .int q_4), (0, .ref b), (1, .ref (ad 0)), (2, .int x2)]) hx hb dL_law_175 hl (by decide) rfl (fun ls hl => ?_)
                    refine lv_goto (tgt := 225) hx hb dL_law_177 (by decide) ?_
                    exact hT q_16.2 x2 ((7919 * q_4) + (104729 * x2)) 0 _ _ _ hP hS (lv_sub hl [4, 5, 6, 2, 0] rfl) hs
                  · have hs := g_t hs hc
                    refine lv_iconst (v := 1) hx hb dL_law_170 (by decide) ?_
                    refine lv_goto (tgt := 175) hx hb dL_law_171 (by decide) ?_
                    refine lv_istore (lv' := [(5, .int 1), (6, .int q_14), (4, .int ((7919 * q_4) + (104729 * x2))), (3, .int q_4), (0, .ref b), (1, .ref (ad 0)), (2, .int x2)]) hx hb dL_law_175 hl (by decide) rfl (fun ls hl => ?_)
                    refine lv_goto (tgt := 225) hx hb dL_law_177 (by decide) ?_
                    exact hT q_16.2 x2 ((7919 * q_4) + (104729 * x2)) 1 _ _ _ hP hS (lv_sub hl [4, 5, 6, 2, 0] rfl) hs
          · have hs := g_f hs hc
            refine lv_iload_n hx hb dL_law_100 rfl (lv_at hl 2 rfl) ?_
            refine lv_iconst (v := 3) hx hb dL_law_101 (by decide) ?_
            refine lv_iand hx hb dL_law_102 ?_
            refine lv_if_le (tgt := 119) hx hb dL_law_103 (by decide) (fun hc => ?_) (fun hc => ?_)
            · have hs := g_t hs hc
              refine lv_iload_n hx hb dL_law_119 rfl (lv_at hl 2 rfl) ?_
              refine lv_bipush (v := 15) hx hb dL_law_120 (by decide) ?_
              refine lv_iand hx hb dL_law_122 ?_
              refine lv_iconst (v := 1) hx hb dL_law_123 (by decide) ?_
              refine lv_icmp_ne (tgt := 180) hx hb dL_law_124 (by decide) (fun hc => ?_) (fun hc => ?_)
              · have hs := g_f hs hc
                refine lv_aload_n hx hb dL_law_180 rfl (lv_at hl 4 rfl) ?_
                refine lv_iload_n hx hb dL_law_181 rfl (lv_at hl 2 rfl) ?_
                refine lv_iconst (v := 1) hx hb dL_law_182 (by decide) ?_
                refine lv_ishr hx hb dL_law_183 ?_
                refine lv_iload hx hb dL_law_184 (lv_at hl 1 rfl) ?_
                refine lv_iconst (v := 2) hx hb dL_law_186 (by decide) ?_
                refine lv_ishr hx hb dL_law_187 ?_
                refine g_bind hs (fun q_20 hq_20 hs => ?_)
                refine gCS_i (As := [.ref (ad 0), .int (q_4 >>> (1 &&& 31)), .int (((7919 * q_4) + (104729 * x2)) >>> (2 &&& 31))]) (rest := []) ⟨hx, hb, hml, hown, hts⟩ (cL_type_c l D cy ad tL z0 hI n v u (q_4 >>> (1 &&& 31)) (((7919 * q_4) + (104729 * x2)) >>> (2 &&& 31)) q_20.1 q_20.2 hq_20) (va_cwS 3 hts gL_law_L_type rfl rfl rfl (by decide +kernel) ⟨Nat.le_of_ble_eq_true rfl, Nat.le_of_ble_eq_true rfl⟩) hK hP hS hl.1 rfl rfl (Nat.le_of_ble_eq_true rfl) dL_law_188 ⟨show _ ≤ 600130 from hcs.1, show _ ≤ 7301080 from hcs.2⟩ (fun H locs hP hS => ?_)
                refine lv_istore (lv' := [(6, .int q_20.1), (5, .int 1), (4, .int ((7919 * q_4) + (104729 * x2))), (3, .int q_4), (0, .ref b), (1, .ref (ad 0)), (2, .int x2)]) hx hb dL_law_191 hl (by decide) rfl (fun ls hl => ?_)
                refine lv_iload hx hb dL_law_193 (lv_at hl 0 rfl) ?_
                refine lv_if_lt (tgt := 222) hx hb dL_law_195 (by decide) (fun hc => ?_) (fun hc => ?_)
                · have hs := g_t hs hc
                  refine lv_iconst (v := 0) hx hb dL_law_222 (by decide) ?_
                  refine lv_istore (lv' := [(5, .int 0), (6, .int q_20.1), (4, .int ((7919 * q_4) + (104729 * x2))), (3, .int q_4), (0, .ref b), (1, .ref (ad 0)), (2, .int x2)]) hx hb dL_law_223 hl (by decide) rfl (fun ls hl => ?_)
                  exact hT q_20.2 x2 ((7919 * q_4) + (104729 * x2)) 0 _ _ _ hP hS (lv_sub hl [4, 5, 6, 2, 0] rfl) hs
                · have hs := g_f hs hc
                  refine lv_aload_n hx hb dL_law_198 rfl (lv_at hl 5 rfl) ?_
                  refine lv_iload_n hx hb dL_law_199 rfl (lv_at hl 3 rfl) ?_
                  refine lv_iconst (v := 5) hx hb dL_law_200 (by decide) ?_
                  refine lv_ishr hx hb dL_law_201 ?_
                  refine lv_iconst (v := 3) hx hb dL_law_202 (by decide) ?_
                  refine lv_iand hx hb dL_law_203 ?_
                  refine lv_if_ne (tgt := 211) hx hb dL_law_204 (by decide) (fun hc => ?_) (fun hc => ?_)
                  · have hs := g_f hs hc
                    refine lv_iconst (v := 0) hx hb dL_law_211 (by decide) ?_
                    refine g_bind hs (fun q_21 hq_21 hs => ?_)
                    refine gCS_i (As := [.ref (ad 0), .int 0]) (rest := []) ⟨hx, hb, hml, hown, hts⟩ (cL_isEnterSo_c l D cy ad tL z0 hI n q_20.2 u 0 q_21.1 q_21.2 hq_21) (va_cwS 2 hts gL_law_L_isEnterSo rfl rfl rfl (by decide +kernel) ⟨Nat.le_of_ble_eq_true rfl, Nat.le_of_ble_eq_true rfl⟩) hK hP hS hl.1 rfl rfl (Nat.le_of_ble_eq_true rfl) dL_law_212 ⟨show _ ≤ 600130 from hcs.1, show _ ≤ 7301080 from hcs.2⟩ (fun H locs hP hS => ?_)
                    refine lv_if_eq (tgt := 222) hx hb dL_law_215 (by decide) (fun hc => ?_) (fun hc => ?_)
                    · have hs := g_t hs hc
                      refine lv_iconst (v := 0) hx hb dL_law_222 (by decide) ?_
                      refine lv_istore (lv' := [(5, .int 0), (6, .int q_20.1), (4, .int ((7919 * q_4) + (104729 * x2))), (3, .int q_4), (0, .ref b), (1, .ref (ad 0)), (2, .int x2)]) hx hb dL_law_223 hl (by decide) rfl (fun ls hl => ?_)
                      exact hT q_21.2 x2 ((7919 * q_4) + (104729 * x2)) 0 _ _ _ hP hS (lv_sub hl [4, 5, 6, 2, 0] rfl) hs
                    · have hs := g_f hs hc
                      refine lv_iconst (v := 1) hx hb dL_law_218 (by decide) ?_
                      refine lv_goto (tgt := 223) hx hb dL_law_219 (by decide) ?_
                      refine lv_istore (lv' := [(5, .int 1), (6, .int q_20.1), (4, .int ((7919 * q_4) + (104729 * x2))), (3, .int q_4), (0, .ref b), (1, .ref (ad 0)), (2, .int x2)]) hx hb dL_law_223 hl (by decide) rfl (fun ls hl => ?_)
                      exact hT q_21.2 x2 ((7919 * q_4) + (104729 * x2)) 1 _ _ _ hP hS (lv_sub hl [4, 5, 6, 2, 0] rfl) hs
                  · have hs := g_t hs hc
                    refine lv_iconst (v := 1) hx hb dL_law_207 (by decide) ?_
                    refine lv_goto (tgt := 212) hx hb dL_law_208 (by decide) ?_
                    refine g_bind hs (fun q_22 hq_22 hs => ?_)
                    refine gCS_i (As := [.ref (ad 0), .int 1]) (rest := []) ⟨hx, hb, hml, hown, hts⟩ (cL_isEnterSo_c l D cy ad tL z0 hI n q_20.2 u 1 q_22.1 q_22.2 hq_22) (va_cwS 2 hts gL_law_L_isEnterSo rfl rfl rfl (by decide +kernel) ⟨Nat.le_of_ble_eq_true rfl, Nat.le_of_ble_eq_true rfl⟩) hK hP hS hl.1 rfl rfl (Nat.le_of_ble_eq_true rfl) dL_law_212 ⟨show _ ≤ 600130 from hcs.1, show _ ≤ 7301080 from hcs.2⟩ (fun H locs hP hS => ?_)
                    refine lv_if_eq (tgt := 222) hx hb dL_law_215 (by decide) (fun hc => ?_) (fun hc => ?_)
                    · have hs := g_t hs hc
                      refine lv_iconst (v := 0) hx hb dL_law_222 (by decide) ?_
                      refine lv_istore (lv' := [(5, .int 0), (6, .int q_20.1), (4, .int ((7919 * q_4) + (104729 * x2))), (3, .int q_4), (0, .ref b), (1, .ref (ad 0)), (2, .int x2)]) hx hb dL_law_223 hl (by decide) rfl (fun ls hl => ?_)
                      exact hT q_22.2 x2 ((7919 * q_4) + (104729 * x2)) 0 _ _ _ hP hS (lv_sub hl [4, 5, 6, 2, 0] rfl) hs
                    · have hs := g_f hs hc
                      refine lv_iconst (v := 1) hx hb dL_law_218 (by decide) ?_
                      refine lv_goto (tgt := 223) hx hb dL_law_219 (by decide) ?_
                      refine lv_istore (lv' := [(5, .int 1), (6, .int q_20.1), (4, .int ((7919 * q_4) + (104729 * x2))), (3, .int q_4), (0, .ref b), (1, .ref (ad 0)), (2, .int x2)]) hx hb dL_law_223 hl (by decide) rfl (fun ls hl => ?_)
                      exact hT q_22.2 x2 ((7919 * q_4) + (104729 * x2)) 1 _ _ _ hP hS (lv_sub hl [4, 5, 6, 2, 0] rfl) hs
              · have hs := g_t hs hc
                refine lv_aload_n hx hb dL_law_127 rfl (lv_at hl 4 rfl) ?_
                refine g_bind hs (fun q_23 hq_23 hs => ?_)
                refine gCV_i (As := []) (rest := []) ⟨hx, hb, hml, hown, hts⟩ (cX5_room_c l D cy ad tL z0 hI v u q_23 hq_23) (cwV 0 hts gL_law_X5_room rfl rfl rfl (by decide +kernel) ⟨Nat.le_of_ble_eq_true rfl, Nat.le_of_ble_eq_true rfl⟩) hK hP hS (va_recv hK.1 hP (ci := 5) (q0 := 0) rfl (gW_5 kd0)) hl.1 rfl rfl (Nat.le_of_ble_eq_true rfl) dL_law_128 ⟨show _ ≤ 600130 from hcs.1, show _ ≤ 7301080 from hcs.2⟩ (fun H locs hP hS => ?_)
                refine lv_istore (lv' := [(6, .int q_23), (5, .int 1), (4, .int ((7919 * q_4) + (104729 * x2))), (3, .int q_4), (0, .ref b), (1, .ref (ad 0)), (2, .int x2)]) hx hb dL_law_131 hl (by decide) rfl (fun ls hl => ?_)
                refine lv_aload_n hx hb dL_law_133 rfl (lv_at hl 5 rfl) ?_
                refine lv_iload_n hx hb dL_law_134 rfl (lv_at hl 3 rfl) ?_
                refine lv_iconst (v := 4) hx hb dL_law_135 (by decide) ?_
                refine lv_ishr hx hb dL_law_136 ?_
                refine lv_iconst (v := 4) hx hb dL_law_137 (by decide) ?_
                refine g_bind hs (fun q_24 hq_24 hs => ?_)
                refine gCS_i (As := [.int (q_4 >>> (4 &&& 31)), .int 4]) (rest := [.ref (ad 0)]) ⟨hx, hb, hml, hown, hts⟩ (cL_low_c l D cy ad tL z0 hI v u (q_4 >>> (4 &&& 31)) 4 q_24 hq_24) (va_cwS 2 hts gL_law_L_low rfl rfl rfl (by decide +kernel) ⟨Nat.le_of_ble_eq_true rfl, Nat.le_of_ble_eq_true rfl⟩) hK hP hS hl.1 rfl rfl (Nat.le_of_ble_eq_true rfl) dL_law_138 ⟨show _ ≤ 600130 from hcs.1, show _ ≤ 7301080 from hcs.2⟩ (fun H locs hP hS => ?_)
                refine g_bind hs (fun q_25 hq_25 hs => ?_)
                refine gCV_i (As := [.int q_24]) (rest := []) ⟨hx, hb, hml, hown, hts⟩ (cX5_moveTo_c l D cy ad tL z0 hI n v u q_24 q_25.1 q_25.2 hq_25) (cwV 1 hts gL_law_X5_moveTo rfl rfl rfl (by decide +kernel) ⟨Nat.le_of_ble_eq_true rfl, Nat.le_of_ble_eq_true rfl⟩) hK hP hS (va_recv hK.1 hP (ci := 5) (q0 := 0) rfl (gW_5 kd0)) hl.1 rfl rfl (Nat.le_of_ble_eq_true rfl) dL_law_141 ⟨show _ ≤ 600130 from hcs.1, show _ ≤ 7301080 from hcs.2⟩ (fun H locs hP hS => ?_)
                refine lv_iload hx hb dL_law_144 (lv_at hl 0 rfl) ?_
                refine lv_icmp_ne (tgt := 174) hx hb dL_law_146 (by decide) (fun hc => ?_) (fun hc => ?_)
                · have hs := g_f hs hc
                  refine lv_iconst (v := 0) hx hb dL_law_174 (by decide) ?_
                  refine lv_istore (lv' := [(5, .int 0), (6, .int q_23), (4, .int ((7919 * q_4) + (104729 * x2))), (3, .int q_4), (0, .ref b), (1, .ref (ad 0)), (2, .int x2)]) hx hb dL_law_175 hl (by decide) rfl (fun ls hl => ?_)
                  refine lv_goto (tgt := 225) hx hb dL_law_177 (by decide) ?_
                  exact hT q_25.2 x2 ((7919 * q_4) + (104729 * x2)) 0 _ _ _ hP hS (lv_sub hl [4, 5, 6, 2, 0] rfl) hs
                · have hs := g_t hs hc
                  refine lv_aload_n hx hb dL_law_149 rfl (lv_at hl 5 rfl) ?_
                  refine g_bind hs (fun q_26 hq_26 hs => ?_)
                  refine gCV_i (As := []) (rest := []) ⟨hx, hb, hml, hown, hts⟩ (cX5_candidates_c l D cy ad tL z0 hI q_25.2 u q_26 hq_26) (cwV 0 hts gL_law_X5_candidates rfl rfl rfl (by decide +kernel) ⟨Nat.le_of_ble_eq_true rfl, Nat.le_of_ble_eq_true rfl⟩) hK hP hS (va_recv hK.1 hP (ci := 5) (q0 := 0) rfl (gW_5 kd0)) hl.1 rfl rfl (Nat.le_of_ble_eq_true rfl) dL_law_150 ⟨show _ ≤ 600130 from hcs.1, show _ ≤ 7301080 from hcs.2⟩ (fun H locs hP hS => ?_)
                  refine lv_if_ne (tgt := 174) hx hb dL_law_153 (by decide) (fun hc => ?_) (fun hc => ?_)
                  · have hs := g_f hs hc
                    refine lv_iconst (v := 0) hx hb dL_law_174 (by decide) ?_
                    refine lv_istore (lv' := [(5, .int 0), (6, .int q_23), (4, .int ((7919 * q_4) + (104729 * x2))), (3, .int q_4), (0, .ref b), (1, .ref (ad 0)), (2, .int x2)]) hx hb dL_law_175 hl (by decide) rfl (fun ls hl => ?_)
                    refine lv_goto (tgt := 225) hx hb dL_law_177 (by decide) ?_
                    exact hT q_25.2 x2 ((7919 * q_4) + (104729 * x2)) 0 _ _ _ hP hS (lv_sub hl [4, 5, 6, 2, 0] rfl) hs
                  · have hs := g_t hs hc
                    refine lv_aload_n hx hb dL_law_156 rfl (lv_at hl 5 rfl) ?_
                    refine g_bind hs (fun q_27 hq_27 hs => ?_)
                    refine gCV_i (As := []) (rest := []) ⟨hx, hb, hml, hown, hts⟩ (cX5_room_c l D cy ad tL z0 hI q_25.2 u q_27 hq_27) (cwV 0 hts gL_law_X5_room rfl rfl rfl (by decide +kernel) ⟨Nat.le_of_ble_eq_true rfl, Nat.le_of_ble_eq_true rfl⟩) hK hP hS (va_recv hK.1 hP (ci := 5) (q0 := 0) rfl (gW_5 kd0)) hl.1 rfl rfl (Nat.le_of_ble_eq_true rfl) dL_law_157 ⟨show _ ≤ 600130 from hcs.1, show _ ≤ 7301080 from hcs.2⟩ (fun H locs hP hS => ?_)
                    refine lv_iload_n hx hb dL_law_160 rfl (lv_at hl 3 rfl) ?_
                    refine lv_iconst (v := 4) hx hb dL_law_161 (by decide) ?_
                    refine lv_ishr hx hb dL_law_162 ?_
                    refine lv_iconst (v := 4) hx hb dL_law_163 (by decide) ?_
                    refine g_bind hs (fun q_28 hq_28 hs => ?_)
                    refine gCS_i (As := [.int (q_4 >>> (4 &&& 31)), .int 4]) (rest := [.int q_27]) ⟨hx, hb, hml, hown, hts⟩ (cL_low_c l D cy ad tL z0 hI q_25.2 u (q_4 >>> (4 &&& 31)) 4 q_28 hq_28) (va_cwS 2 hts gL_law_L_low rfl rfl rfl (by decide +kernel) ⟨Nat.le_of_ble_eq_true rfl, Nat.le_of_ble_eq_true rfl⟩) hK hP hS hl.1 rfl rfl (Nat.le_of_ble_eq_true rfl) dL_law_164 ⟨show _ ≤ 600130 from hcs.1, show _ ≤ 7301080 from hcs.2⟩ (fun H locs hP hS => ?_)
                    refine lv_icmp_ne (tgt := 174) hx hb dL_law_167 (by decide) (fun hc => ?_) (fun hc => ?_)
                    · have hs := g_f hs hc
                      refine lv_iconst (v := 0) hx hb dL_law_174 (by decide) ?_
                      refine lv_istore (lv' := [(5, .int 0), (6, .int q_23), (4, .int ((7919 * q_4) + (104729 * x2))), (3, .int q_4), (0, .ref b), (1, .ref (ad 0)), (2, .int x2)]) hx hb dL_law_175 hl (by decide) rfl (fun ls hl => ?_)
                      refine lv_goto (tgt := 225) hx hb dL_law_177 (by decide) ?_
                      exact hT q_25.2 x2 ((7919 * q_4) + (104729 * x2)) 0 _ _ _ hP hS (lv_sub hl [4, 5, 6, 2, 0] rfl) hs
                    · have hs := g_t hs hc
                      refine lv_iconst (v := 1) hx hb dL_law_170 (by decide) ?_
                      refine lv_goto (tgt := 175) hx hb dL_law_171 (by decide) ?_
                      refine lv_istore (lv' := [(5, .int 1), (6, .int q_23), (4, .int ((7919 * q_4) + (104729 * x2))), (3, .int q_4), (0, .ref b), (1, .ref (ad 0)), (2, .int x2)]) hx hb dL_law_175 hl (by decide) rfl (fun ls hl => ?_)
                      refine lv_goto (tgt := 225) hx hb dL_law_177 (by decide) ?_
                      exact hT q_25.2 x2 ((7919 * q_4) + (104729 * x2)) 1 _ _ _ hP hS (lv_sub hl [4, 5, 6, 2, 0] rfl) hs
            · have hs := g_f hs hc
              refine lv_aload_n hx hb dL_law_106 rfl (lv_at hl 4 rfl) ?_
              refine lv_iload hx hb dL_law_107 (lv_at hl 1 rfl) ?_
              refine lv_iconst (v := 4) hx hb dL_law_109 (by decide) ?_
              refine lv_ishr hx hb dL_law_110 ?_
              refine g_bind hs (fun q_29 hq_29 hs => ?_)
              refine gCS_i (As := [.ref (ad 0), .int (((7919 * q_4) + (104729 * x2)) >>> (4 &&& 31))]) (rest := []) ⟨hx, hb, hml, hown, hts⟩ (cL_isAnswerSo_c l D cy ad tL z0 hI n v u (((7919 * q_4) + (104729 * x2)) >>> (4 &&& 31)) q_29.1 q_29.2 hq_29) (va_cwS 2 hts gL_law_L_isAnswerSo rfl rfl rfl (by decide +kernel) ⟨Nat.le_of_ble_eq_true rfl, Nat.le_of_ble_eq_true rfl⟩) hK hP hS hl.1 rfl rfl (Nat.le_of_ble_eq_true rfl) dL_law_111 ⟨show _ ≤ 600130 from hcs.1, show _ ≤ 7301080 from hcs.2⟩ (fun H locs hP hS => ?_)
              refine lv_istore (lv' := [(5, .int q_29.1), (4, .int ((7919 * q_4) + (104729 * x2))), (3, .int q_4), (0, .ref b), (1, .ref (ad 0)), (2, .int x2)]) hx hb dL_law_114 hl (by decide) rfl (fun ls hl => ?_)
              refine lv_goto (tgt := 225) hx hb dL_law_116 (by decide) ?_
              exact hT q_29.2 x2 ((7919 * q_4) + (104729 * x2)) q_29.1 _ _ _ hP hS (lv_sub hl [3, 4, 5, 1, 0] rfl) hs
        · have hs := g_t hs hc
          refine lv_aload_n hx hb dL_law_52 rfl (lv_at hl 4 rfl) ?_
          refine lv_iload hx hb dL_law_53 (lv_at hl 1 rfl) ?_
          refine lv_iconst (v := 3) hx hb dL_law_55 (by decide) ?_
          refine lv_ishr hx hb dL_law_56 ?_
          refine g_bind hs (fun q_30 hq_30 hs => ?_)
          refine gCS_v (As := [.ref (ad 0), .int (((7919 * q_4) + (104729 * x2)) >>> (3 &&& 31))]) (rest := []) ⟨hx, hb, hml, hown, hts⟩ (cL_grow_c l D cy ad tL z0 hI n v u (((7919 * q_4) + (104729 * x2)) >>> (3 &&& 31)) q_30 hq_30) (va_cwS 2 hts gL_law_L_grow rfl rfl rfl (by decide +kernel) ⟨Nat.le_of_ble_eq_true rfl, Nat.le_of_ble_eq_true rfl⟩) hK hP hS hl.1 rfl rfl (Nat.le_of_ble_eq_true rfl) dL_law_57 ⟨show _ ≤ 600130 from hcs.1, show _ ≤ 7301080 from hcs.2⟩ (fun H locs hP hS => ?_)
          refine lv_aload_n hx hb dL_law_60 rfl (lv_at hl 4 rfl) ?_
          refine g_bind hs (fun q_31 hq_31 hs => ?_)
          refine gCV_i (As := []) (rest := []) ⟨hx, hb, hml, hown, hts⟩ (cX5_candidates_c l D cy ad tL z0 hI q_30 u q_31 hq_31) (cwV 0 hts gL_law_X5_candidates rfl rfl rfl (by decide +kernel) ⟨Nat.le_of_ble_eq_true rfl, Nat.le_of_ble_eq_true rfl⟩) hK hP hS (va_recv hK.1 hP (ci := 5) (q0 := 0) rfl (gW_5 kd0)) hl.1 rfl rfl (Nat.le_of_ble_eq_true rfl) dL_law_61 ⟨show _ ≤ 600130 from hcs.1, show _ ≤ 7301080 from hcs.2⟩ (fun H locs hP hS => ?_)
          refine lv_if_eq (tgt := 83) hx hb dL_law_64 (by decide) (fun hc => ?_) (fun hc => ?_)
          · have hs := g_t hs hc
            refine lv_iconst (v := 1) hx hb dL_law_83 (by decide) ?_
            refine lv_goto (tgt := 88) hx hb dL_law_84 (by decide) ?_
            refine lv_istore (lv' := [(5, .int 1), (4, .int ((7919 * q_4) + (104729 * x2))), (3, .int q_4), (0, .ref b), (1, .ref (ad 0)), (2, .int x2)]) hx hb dL_law_88 hl (by decide) rfl (fun ls hl => ?_)
            refine lv_goto (tgt := 225) hx hb dL_law_90 (by decide) ?_
            exact hT q_30 x2 ((7919 * q_4) + (104729 * x2)) 1 _ _ _ hP hS (lv_sub hl [3, 4, 5, 1, 0] rfl) hs
          · have hs := g_f hs hc
            refine lv_aload_n hx hb dL_law_67 rfl (lv_at hl 4 rfl) ?_
            refine g_bind hs (fun q_32 hq_32 hs => ?_)
            refine gCV_i (As := []) (rest := []) ⟨hx, hb, hml, hown, hts⟩ (cX5_objects_c l D cy ad tL z0 hI q_30 u q_32 hq_32) (cwV 0 hts gL_law_X5_objects rfl rfl rfl (by decide +kernel) ⟨Nat.le_of_ble_eq_true rfl, Nat.le_of_ble_eq_true rfl⟩) hK hP hS (va_recv hK.1 hP (ci := 5) (q0 := 0) rfl (gW_5 kd0)) hl.1 rfl rfl (Nat.le_of_ble_eq_true rfl) dL_law_68 ⟨show _ ≤ 600130 from hcs.1, show _ ≤ 7301080 from hcs.2⟩ (fun H locs hP hS => ?_)
            refine lv_bipush (v := 12) hx hb dL_law_71 (by decide) ?_
            refine lv_icmp_eq (tgt := 83) hx hb dL_law_73 (by decide) (fun hc => ?_) (fun hc => ?_)
            · have hs := g_t hs hc
              refine lv_iconst (v := 1) hx hb dL_law_83 (by decide) ?_
              refine lv_goto (tgt := 88) hx hb dL_law_84 (by decide) ?_
              refine lv_istore (lv' := [(5, .int 1), (4, .int ((7919 * q_4) + (104729 * x2))), (3, .int q_4), (0, .ref b), (1, .ref (ad 0)), (2, .int x2)]) hx hb dL_law_88 hl (by decide) rfl (fun ls hl => ?_)
              refine lv_goto (tgt := 225) hx hb dL_law_90 (by decide) ?_
              exact hT q_30 x2 ((7919 * q_4) + (104729 * x2)) 1 _ _ _ hP hS (lv_sub hl [3, 4, 5, 1, 0] rfl) hs
            · have hs := g_f hs hc
              refine lv_aload_n hx hb dL_law_76 rfl (lv_at hl 4 rfl) ?_
              refine g_bind hs (fun q_33 hq_33 hs => ?_)
              refine gCV_i (As := []) (rest := []) ⟨hx, hb, hml, hown, hts⟩ (cX5_asked_c l D cy ad tL z0 hI q_30 u q_33 hq_33) (cwV 0 hts gL_law_X5_asked rfl rfl rfl (by decide +kernel) ⟨Nat.le_of_ble_eq_true rfl, Nat.le_of_ble_eq_true rfl⟩) hK hP hS (va_recv hK.1 hP (ci := 5) (q0 := 0) rfl (gW_5 kd0)) hl.1 rfl rfl (Nat.le_of_ble_eq_true rfl) dL_law_77 ⟨show _ ≤ 600130 from hcs.1, show _ ≤ 7301080 from hcs.2⟩ (fun H locs hP hS => ?_)
              refine lv_if_le (tgt := 87) hx hb dL_law_80 (by decide) (fun hc => ?_) (fun hc => ?_)
              · have hs := g_t hs hc
                refine lv_iconst (v := 0) hx hb dL_law_87 (by decide) ?_
                refine lv_istore (lv' := [(5, .int 0), (4, .int ((7919 * q_4) + (104729 * x2))), (3, .int q_4), (0, .ref b), (1, .ref (ad 0)), (2, .int x2)]) hx hb dL_law_88 hl (by decide) rfl (fun ls hl => ?_)
                refine lv_goto (tgt := 225) hx hb dL_law_90 (by decide) ?_
                exact hT q_30 x2 ((7919 * q_4) + (104729 * x2)) 0 _ _ _ hP hS (lv_sub hl [3, 4, 5, 1, 0] rfl) hs
              · have hs := g_f hs hc
                refine lv_iconst (v := 1) hx hb dL_law_83 (by decide) ?_
                refine lv_goto (tgt := 88) hx hb dL_law_84 (by decide) ?_
                refine lv_istore (lv' := [(5, .int 1), (4, .int ((7919 * q_4) + (104729 * x2))), (3, .int q_4), (0, .ref b), (1, .ref (ad 0)), (2, .int x2)]) hx hb dL_law_88 hl (by decide) rfl (fun ls hl => ?_)
                refine lv_goto (tgt := 225) hx hb dL_law_90 (by decide) ?_
                exact hT q_30 x2 ((7919 * q_4) + (104729 * x2)) 1 _ _ _ hP hS (lv_sub hl [3, 4, 5, 1, 0] rfl) hs
