set_option maxHeartbeats 4000000 in
set_option maxRecDepth 100000 in
theorem cL_low_c (l : Launch) (D : va_G) (cy : Nat → ClassId) (ad : Nat → Nat) (tL z0 : Nat) (hI : gI z0 ad) (v : gV) (u : Int64) (x0 : Int32) (x1 : Int32) (r0 : Int32) (hs : sL_low x0 x1 = some r0) : Met l yL_low wsL_low ({ frames := 0, cells := 0, slots := 0, locals := 0 } : Room) (gPc D cy ad tL z0 v u [.int x0, .int x1]) (gQi D cy ad tL z0 v u r0) 0 0 (gA z0) := by
  refine Met.ofW (cc := cL_low) (maxL := 2) (ret := (some .int)) (by decide) rfl ?_
  intro p e s m args below meth c s₁ B hml hv
  obtain ⟨rfl, hB0⟩ := hv
  have hP : va_P D vwCl (gW cy ad v u) s.heap := hB0.1
  have hK : gK D cy tL z0 s s.heap := hB0.2
  have hx := B.exec
  have hb := B.bytes
  have hr := B.returns
  have hts := atoms_spec (ws := wsL_low) B.pre
  have hown : s.vm.findClass RL = some m.cls := findClass_of_methodNamed B.named
  have hlocks := B.notSynchronized
  have hS : va_S (gA z0) s.heap s.heap [] := va_S.rf
  have hl := lv_entry ([.int x0, .int x1]) (n := 2) (Nat.le_of_ble_eq_true rfl)
  rw [lg_entry_eq]
  generalize (lg_sl ([.int x0, .int x1]) ++ List.replicate (2 - (lg_sl ([.int x0, .int x1])).length) Slot.unset).toArray = ls at hl ⊢
  have hl : lv_has ls 2 [(0, .int x0), (1, .int x1)] := hl
  have k7 := hts (.constant RL 7 (2147483647)) (by decide +kernel)
  clear hB0
  unfold sL_low at hs
  refine lv_iload_n hx hb dL_low_0 rfl (lv_at hl 0 rfl) ?_
  refine lv_ldc hx hb hown k7 dL_low_1 ?_
  refine lv_iand hx hb dL_low_3 ?_
  refine lv_iload_n hx hb dL_low_4 rfl (lv_at hl 1 rfl) ?_
  refine g_chk hs (fun hc hs => ?_)
  refine lv_irem hx hb dL_low_5 hc ?_
  exact gRet_i hx hb hr hlocks hK hP hS ⟨g_some hs, rfl⟩ dL_low_6
set_option maxHeartbeats 4000000 in
set_option maxRecDepth 100000 in
theorem cL_isBox_c (l : Launch) (D : va_G) (cy : Nat → ClassId) (ad : Nat → Nat) (tL z0 : Nat) (hI : gI z0 ad) (v : gV) (u : Int64) (x1 : Int32) (r0 : Int32) (hs : sL_isBox v x1 = some r0) : Met l yL_isBox wsL_isBox ({ frames := 2, cells := 0, slots := 0, locals := 42 } : Room) (gPc D cy ad tL z0 v u [.ref (ad 0), .int x1]) (gQi D cy ad tL z0 v u r0) 0 0 (gA z0) := by
  refine Met.ofW (cc := cL_isBox) (maxL := 2) (ret := (some .boolean)) (by decide) rfl ?_
  intro p e s m args below meth c s₁ B hml hv
  obtain ⟨rfl, hB0⟩ := hv
  have hP : va_P D vwCl (gW cy ad v u) s.heap := hB0.1
  have hK : gK D cy tL z0 s s.heap := hB0.2
  have hx := B.exec
  have hb := B.bytes
  have hr := B.returns
  have hts := atoms_spec (ws := wsL_isBox) B.pre
  have hown : s.vm.findClass RL = some m.cls := findClass_of_methodNamed B.named
  have hlocks := B.notSynchronized
  have hS : va_S (gA z0) s.heap s.heap [] := va_S.rf
  have hl := lv_entry ([.ref (ad 0), .int x1]) (n := 2) (Nat.le_of_ble_eq_true rfl)
  rw [lg_entry_eq]
  generalize (lg_sl ([.ref (ad 0), .int x1]) ++ List.replicate (2 - (lg_sl ([.ref (ad 0), .int x1])).length) Slot.unset).toArray = ls at hl ⊢
  have hl : lv_has ls 2 [(0, .ref (ad 0)), (1, .int x1)] := hl
  clear hB0
  unfold sL_isBox at hs
  refine lv_aload_n hx hb dL_isBox_0 rfl (lv_at hl 0 rfl) ?_
  refine lv_iload_n hx hb dL_isBox_1 rfl (lv_at hl 1 rfl) ?_
  refine g_bind hs (fun q_1 hq_1 hs => ?_)
  refine gCV_i (As := [.int x1]) (rest := []) ⟨hx, hb, hml, hown, hts⟩ (cX5_noun_c l D cy ad tL z0 hI v u x1 q_1 hq_1) (cwV 1 hts gL_isBox_X5_noun rfl rfl rfl (by decide +kernel) ⟨Nat.le_of_ble_eq_true rfl, Nat.le_of_ble_eq_true rfl⟩) hK hP hS (va_recv hK.1 hP (ci := 5) (q0 := 0) rfl (gW_5 kd0)) hl.1 rfl rfl (Nat.le_of_ble_eq_true rfl) dL_isBox_2 ⟨Nat.zero_le _, Nat.zero_le _⟩ (fun H locs hP hS => ?_)
  refine lv_iconst (v := 1) hx hb dL_isBox_5 (by decide) ?_
  refine lv_icmp_eq (tgt := 18) hx hb dL_isBox_6 (by decide) (fun hc => ?_) (fun hc => ?_)
  · have hs := g_t hs hc
    refine lv_iconst (v := 1) hx hb dL_isBox_18 (by decide) ?_
    refine lv_goto (tgt := 23) hx hb dL_isBox_19 (by decide) ?_
    exact gRet_z hx hb hr hlocks rfl hK hP hS ⟨g_some hs, rfl⟩ dL_isBox_23
  · have hs := g_f hs hc
    refine lv_aload_n hx hb dL_isBox_9 rfl (lv_at hl 0 rfl) ?_
    refine lv_iload_n hx hb dL_isBox_10 rfl (lv_at hl 1 rfl) ?_
    refine g_bind hs (fun q_2 hq_2 hs => ?_)
    refine gCV_i (As := [.int x1]) (rest := []) ⟨hx, hb, hml, hown, hts⟩ (cX5_noun_c l D cy ad tL z0 hI v u x1 q_2 hq_2) (cwV 1 hts gL_isBox_X5_noun rfl rfl rfl (by decide +kernel) ⟨Nat.le_of_ble_eq_true rfl, Nat.le_of_ble_eq_true rfl⟩) hK hP hS (va_recv hK.1 hP (ci := 5) (q0 := 0) rfl (gW_5 kd0)) hl.1 rfl rfl (Nat.le_of_ble_eq_true rfl) dL_isBox_11 ⟨Nat.zero_le _, Nat.zero_le _⟩ (fun H locs hP hS => ?_)
    refine lv_iconst (v := 5) hx hb dL_isBox_14 (by decide) ?_
    refine lv_icmp_ne (tgt := 22) hx hb dL_isBox_15 (by decide) (fun hc => ?_) (fun hc => ?_)
    · have hs := g_f hs hc
      refine lv_iconst (v := 0) hx hb dL_isBox_22 (by decide) ?_
      exact gRet_z hx hb hr hlocks rfl hK hP hS ⟨g_some hs, rfl⟩ dL_isBox_23
    · have hs := g_t hs hc
      refine lv_iconst (v := 1) hx hb dL_isBox_18 (by decide) ?_
      refine lv_goto (tgt := 23) hx hb dL_isBox_19 (by decide) ?_
      exact gRet_z hx hb hr hlocks rfl hK hP hS ⟨g_some hs, rfl⟩ dL_isBox_23
set_option maxHeartbeats 4000000 in
set_option maxRecDepth 100000 in
theorem cL_grow_c (l : Launch) (D : va_G) (cy : Nat → ClassId) (ad : Nat → Nat) (tL z0 : Nat) (hI : gI z0 ad) (n : Nat) (v : gV) (u : Int64) (x1 : Int32) (v1 : gV) (hs : sL_grow n v x1 = some v1) : Met l yL_grow wsL_grow ({ frames := 4, cells := 0, slots := 0, locals := 87 } : Room) (gPc D cy ad tL z0 v u [.ref (ad 0), .int x1]) (gQv D cy ad tL z0 v1 u) 0 0 (gA z0) := by
  refine Met.ofW (cc := cL_grow) (maxL := 9) (ret := none) (by decide) rfl ?_
  intro p e s m args below meth c s₁ B hml hv
  obtain ⟨rfl, hB0⟩ := hv
  have hP : va_P D vwCl (gW cy ad v u) s.heap := hB0.1
  have hK : gK D cy tL z0 s s.heap := hB0.2
  have hx := B.exec
  have hb := B.bytes
  have hr := B.returns
  have hts := atoms_spec (ws := wsL_grow) B.pre
  have hown : s.vm.findClass RL = some m.cls := findClass_of_methodNamed B.named
  have hlocks := B.notSynchronized
  have hS : va_S (gA z0) s.heap s.heap [] := va_S.rf
  have hl := lv_entry ([.ref (ad 0), .int x1]) (n := 9) (Nat.le_of_ble_eq_true rfl)
  rw [lg_entry_eq]
  generalize (lg_sl ([.ref (ad 0), .int x1]) ++ List.replicate (9 - (lg_sl ([.ref (ad 0), .int x1])).length) Slot.unset).toArray = ls at hl ⊢
  have hl : lv_has ls 9 [(0, .ref (ad 0)), (1, .int x1)] := hl
  clear hB0
  have hJ_173 : ∀ (v : gV) (t1 : Int32) (t2 : Int32) (t3 : Int32) (H : Heap) (locs : List Loc) (ls : Array Slot), va_P D vwCl (gW cy ad v u) H → va_S (gA z0) s.heap H locs → lv_has ls 9 [] → sL_grow_173 n v t1 t2 t3 = some v1 → W p l e (headSpec wsL_grow ({ frames := 4, cells := 0, slots := 0, locals := 87 } : Room)).room s m ([.ref (ad 0), .int x1] : List Value).toArray below meth c H locs 0 0 (MQ below (gQv D cy ad tL z0 v1 u) ([.ref (ad 0), .int x1] : List Value).toArray s 0 0 (gA z0)) (F0 m 173 ls [.int t3, .int t2, .int t1, .ref (ad 0)]) := by
    intro v t1 t2 t3 H locs ls hP hS hl hs
    unfold sL_grow_173 at hs
    refine g_bind hs (fun q_9 hq_9 hs => ?_)
    refine gCV_i (As := [.int t1, .int t2, .int t3]) (rest := []) ⟨hx, hb, hml, hown, hts⟩ (cX5_addObject_c l D cy ad tL z0 hI n v u t1 t2 t3 q_9.1 q_9.2 hq_9) (cwV 3 hts gL_grow_X5_addObject rfl rfl rfl (by decide +kernel) ⟨Nat.le_of_ble_eq_true rfl, Nat.le_of_ble_eq_true rfl⟩) hK hP hS (va_recv hK.1 hP (ci := 5) (q0 := 0) rfl (gW_5 kd0)) hl.1 rfl rfl (Nat.le_of_ble_eq_true rfl) dL_grow_173 ⟨Nat.zero_le _, Nat.zero_le _⟩ (fun H locs hP hS => ?_)
    refine lv_istore (lv' := [(8, .int q_9.1)]) hx hb dL_grow_176 hl (by decide) rfl (fun ls hl => ?_)
    exact gRet_v hx hb hr hlocks hK hP hS (g_some hs) dL_grow_178
  have hJ_143 : ∀ (v : gV) (w2 : Int32) (w3 : Int32) (w4 : Int32) (w5 : Int32) (w6 : Int32) (t0 : Int32) (H : Heap) (locs : List Loc) (ls : Array Slot), va_P D vwCl (gW cy ad v u) H → va_S (gA z0) s.heap H locs → lv_has ls 9 [(0, .ref (ad 0)), (2, .int w2), (3, .int w3), (4, .int w4), (5, .int w5), (6, .int w6)] → sL_grow_143 n v w2 w3 w4 w5 w6 t0 = some v1 → W p l e (headSpec wsL_grow ({ frames := 4, cells := 0, slots := 0, locals := 87 } : Room)).room s m ([.ref (ad 0), .int x1] : List Value).toArray below meth c H locs 0 0 (MQ below (gQv D cy ad tL z0 v1 u) ([.ref (ad 0), .int x1] : List Value).toArray s 0 0 (gA z0)) (F0 m 143 ls [.int t0]) := by
    intro v w2 w3 w4 w5 w6 t0 H locs ls hP hS hl hs
    unfold sL_grow_143 at hs
    refine lv_istore (lv' := [(7, .int t0), (0, .ref (ad 0)), (2, .int w2), (3, .int w3), (4, .int w4), (5, .int w5), (6, .int w6)]) hx hb dL_grow_143 hl (by decide) rfl (fun ls hl => ?_)
    refine lv_aload_n hx hb dL_grow_145 rfl (lv_at hl 1 rfl) ?_
    refine lv_iload_n hx hb dL_grow_146 rfl (lv_at hl 2 rfl) ?_
    refine lv_iload_n hx hb dL_grow_147 rfl (lv_at hl 3 rfl) ?_
    refine lv_iload hx hb dL_grow_148 (lv_at hl 6 rfl) ?_
    refine lv_if_eq (tgt := 160) hx hb dL_grow_150 (by decide) (fun hc => ?_) (fun hc => ?_)
    · have hs := g_t hs hc
      refine lv_iload hx hb dL_grow_160 (lv_at hl 0 rfl) ?_
      refine lv_if_eq (tgt := 169) hx hb dL_grow_162 (by decide) (fun hc => ?_) (fun hc => ?_)
      · have hs := g_t hs hc
        refine lv_iload hx hb dL_grow_169 (lv_at hl 4 rfl) ?_
        refine lv_iconst (v := 4) hx hb dL_grow_171 (by decide) ?_
        refine lv_irem hx hb dL_grow_172 (by decide) ?_
        exact hJ_173 v w2 w3 (w4 - w4 / 4 * 4) _ _ _ hP hS (lv_sub hl [] rfl) hs
      · have hs := g_f hs hc
        refine lv_iconst (v := 4) hx hb dL_grow_165 (by decide) ?_
        refine lv_goto (tgt := 173) hx hb dL_grow_166 (by decide) ?_
        exact hJ_173 v w2 w3 4 _ _ _ hP hS (lv_sub hl [] rfl) hs
    · have hs := g_f hs hc
      refine lv_iconst (v := 5) hx hb dL_grow_153 (by decide) ?_
      refine lv_iload hx hb dL_grow_154 (lv_at hl 5 rfl) ?_
      refine lv_iadd hx hb dL_grow_156 ?_
      refine lv_goto (tgt := 173) hx hb dL_grow_157 (by decide) ?_
      exact hJ_173 v w2 w3 (5 + w5) _ _ _ hP hS (lv_sub hl [] rfl) hs
  have hJ_120 : ∀ (v : gV) (w2 : Int32) (w3 : Int32) (w4 : Int32) (w5 : Int32) (t0 : Int32) (H : Heap) (locs : List Loc) (ls : Array Slot), va_P D vwCl (gW cy ad v u) H → va_S (gA z0) s.heap H locs → lv_has ls 9 [(0, .ref (ad 0)), (2, .int w2), (3, .int w3), (4, .int w4), (5, .int w5)] → sL_grow_120 n v w2 w3 w4 w5 t0 = some v1 → W p l e (headSpec wsL_grow ({ frames := 4, cells := 0, slots := 0, locals := 87 } : Room)).room s m ([.ref (ad 0), .int x1] : List Value).toArray below meth c H locs 0 0 (MQ below (gQv D cy ad tL z0 v1 u) ([.ref (ad 0), .int x1] : List Value).toArray s 0 0 (gA z0)) (F0 m 120 ls [.int t0]) := by
    intro v w2 w3 w4 w5 t0 H locs ls hP hS hl hs
    unfold sL_grow_120 at hs
    refine lv_istore (lv' := [(6, .int t0), (0, .ref (ad 0)), (2, .int w2), (3, .int w3), (4, .int w4), (5, .int w5)]) hx hb dL_grow_120 hl (by decide) rfl (fun ls hl => ?_)
    refine lv_iload hx hb dL_grow_122 (lv_at hl 4 rfl) ?_
    refine lv_iconst (v := 4) hx hb dL_grow_124 (by decide) ?_
    refine lv_icmp_ne (tgt := 142) hx hb dL_grow_125 (by decide) (fun hc => ?_) (fun hc => ?_)
    · have hs := g_f hs hc
      refine lv_iconst (v := 0) hx hb dL_grow_142 (by decide) ?_
      exact hJ_143 v w2 w3 w4 w5 t0 0 _ _ _ hP hS (lv_sub hl [1, 2, 3, 4, 5, 0] rfl) hs
    · have hs := g_t hs hc
      refine lv_aload_n hx hb dL_grow_128 rfl (lv_at hl 1 rfl) ?_
      refine lv_iconst (v := 4) hx hb dL_grow_129 (by decide) ?_
      refine g_bind hs (fun q_10 hq_10 hs => ?_)
      refine gCV_i (As := [.int 4]) (rest := []) ⟨hx, hb, hml, hown, hts⟩ (cX5_objectsAt_c l D cy ad tL z0 hI n v u 4 q_10 hq_10) (cwV 1 hts gL_grow_X5_objectsAt rfl rfl rfl (by decide +kernel) ⟨Nat.le_of_ble_eq_true rfl, Nat.le_of_ble_eq_true rfl⟩) hK hP hS (va_recv hK.1 hP (ci := 5) (q0 := 0) rfl (gW_5 kd0)) hl.1 rfl rfl (Nat.le_of_ble_eq_true rfl) dL_grow_130 ⟨Nat.zero_le _, Nat.zero_le _⟩ (fun H locs hP hS => ?_)
      refine lv_bipush (v := 6) hx hb dL_grow_133 (by decide) ?_
      refine lv_icmp_ge (tgt := 142) hx hb dL_grow_135 (by decide) (fun hc => ?_) (fun hc => ?_)
      · have hs := g_t hs hc
        refine lv_iconst (v := 0) hx hb dL_grow_142 (by decide) ?_
        exact hJ_143 v w2 w3 w4 w5 t0 0 _ _ _ hP hS (lv_sub hl [1, 2, 3, 4, 5, 0] rfl) hs
      · have hs := g_f hs hc
        refine lv_iconst (v := 1) hx hb dL_grow_138 (by decide) ?_
        refine lv_goto (tgt := 143) hx hb dL_grow_139 (by decide) ?_
        exact hJ_143 v w2 w3 w4 w5 t0 1 _ _ _ hP hS (lv_sub hl [1, 2, 3, 4, 5, 0] rfl) hs
  have hJ_69 : ∀ (v : gV) (w2 : Int32) (w3 : Int32) (w4 : Int32) (t0 : Int32) (H : Heap) (locs : List Loc) (ls : Array Slot), va_P D vwCl (gW cy ad v u) H → va_S (gA z0) s.heap H locs → lv_has ls 9 [(0, .ref (ad 0)), (2, .int w2), (3, .int w3), (4, .int w4)] → sL_grow_69 n v w2 w3 w4 t0 = some v1 → W p l e (headSpec wsL_grow ({ frames := 4, cells := 0, slots := 0, locals := 87 } : Room)).room s m ([.ref (ad 0), .int x1] : List Value).toArray below meth c H locs 0 0 (MQ below (gQv D cy ad tL z0 v1 u) ([.ref (ad 0), .int x1] : List Value).toArray s 0 0 (gA z0)) (F0 m 69 ls [.int t0]) := by
    intro v w2 w3 w4 t0 H locs ls hP hS hl hs
    unfold sL_grow_69 at hs
    refine lv_istore (lv' := [(5, .int t0), (0, .ref (ad 0)), (2, .int w2), (3, .int w3), (4, .int w4)]) hx hb dL_grow_69 hl (by decide) rfl (fun ls hl => ?_)
    refine lv_iload hx hb dL_grow_71 (lv_at hl 4 rfl) ?_
    refine lv_iconst (v := 5) hx hb dL_grow_73 (by decide) ?_
    refine lv_icmp_ne (tgt := 119) hx hb dL_grow_74 (by decide) (fun hc => ?_) (fun hc => ?_)
    · have hs := g_f hs hc
      refine lv_iconst (v := 0) hx hb dL_grow_119 (by decide) ?_
      exact hJ_120 v w2 w3 w4 t0 0 _ _ _ hP hS (lv_sub hl [1, 2, 3, 4, 0] rfl) hs
    · have hs := g_t hs hc
      refine lv_aload_n hx hb dL_grow_77 rfl (lv_at hl 1 rfl) ?_
      refine g_bind hs (fun q_11 hq_11 hs => ?_)
      refine gCV_i (As := []) (rest := []) ⟨hx, hb, hml, hown, hts⟩ (cX5_objects_c l D cy ad tL z0 hI v u q_11 hq_11) (cwV 0 hts gL_grow_X5_objects rfl rfl rfl (by decide +kernel) ⟨Nat.le_of_ble_eq_true rfl, Nat.le_of_ble_eq_true rfl⟩) hK hP hS (va_recv hK.1 hP (ci := 5) (q0 := 0) rfl (gW_5 kd0)) hl.1 rfl rfl (Nat.le_of_ble_eq_true rfl) dL_grow_78 ⟨Nat.zero_le _, Nat.zero_le _⟩ (fun H locs hP hS => ?_)
      refine lv_if_le (tgt := 119) hx hb dL_grow_81 (by decide) (fun hc => ?_) (fun hc => ?_)
      · have hs := g_t hs hc
        refine lv_iconst (v := 0) hx hb dL_grow_119 (by decide) ?_
        exact hJ_120 v w2 w3 w4 t0 0 _ _ _ hP hS (lv_sub hl [1, 2, 3, 4, 0] rfl) hs
      · have hs := g_f hs hc
        refine lv_iload_n hx hb dL_grow_84 rfl (lv_at hl 2 rfl) ?_
        refine lv_iconst (v := 1) hx hb dL_grow_85 (by decide) ?_
        refine lv_icmp_eq (tgt := 119) hx hb dL_grow_86 (by decide) (fun hc => ?_) (fun hc => ?_)
        · have hs := g_t hs hc
          refine lv_iconst (v := 0) hx hb dL_grow_119 (by decide) ?_
          exact hJ_120 v w2 w3 w4 t0 0 _ _ _ hP hS (lv_sub hl [1, 2, 3, 4, 0] rfl) hs
        · have hs := g_f hs hc
          refine lv_iload_n hx hb dL_grow_89 rfl (lv_at hl 2 rfl) ?_
          refine lv_iconst (v := 5) hx hb dL_grow_90 (by decide) ?_
          refine lv_icmp_eq (tgt := 119) hx hb dL_grow_91 (by decide) (fun hc => ?_) (fun hc => ?_)
          · have hs := g_t hs hc
            refine lv_iconst (v := 0) hx hb dL_grow_119 (by decide) ?_
            exact hJ_120 v w2 w3 w4 t0 0 _ _ _ hP hS (lv_sub hl [1, 2, 3, 4, 0] rfl) hs
          · have hs := g_f hs hc
            refine lv_aload_n hx hb dL_grow_94 rfl (lv_at hl 1 rfl) ?_
            refine lv_iload hx hb dL_grow_95 (lv_at hl 0 rfl) ?_
            refine g_bind hs (fun q_12 hq_12 hs => ?_)
            refine gCS_i (As := [.ref (ad 0), .int t0]) (rest := []) ⟨hx, hb, hml, hown, hts⟩ (cL_isBox_c l D cy ad tL z0 hI v u t0 q_12 hq_12) (va_cwS 2 hts gL_grow_L_isBox rfl rfl rfl (by decide +kernel) ⟨Nat.le_of_ble_eq_true rfl, Nat.le_of_ble_eq_true rfl⟩) hK hP hS hl.1 rfl rfl (Nat.le_of_ble_eq_true rfl) dL_grow_97 ⟨Nat.zero_le _, Nat.zero_le _⟩ (fun H locs hP hS => ?_)
            refine lv_if_eq (tgt := 119) hx hb dL_grow_100 (by decide) (fun hc => ?_) (fun hc => ?_)
            · have hs := g_t hs hc
              refine lv_iconst (v := 0) hx hb dL_grow_119 (by decide) ?_
              exact hJ_120 v w2 w3 w4 t0 0 _ _ _ hP hS (lv_sub hl [1, 2, 3, 4, 0] rfl) hs
            · have hs := g_f hs hc
              refine lv_aload_n hx hb dL_grow_103 rfl (lv_at hl 1 rfl) ?_
              refine lv_iconst (v := 5) hx hb dL_grow_104 (by decide) ?_
              refine lv_iload hx hb dL_grow_105 (lv_at hl 0 rfl) ?_
              refine lv_iadd hx hb dL_grow_107 ?_
              refine g_bind hs (fun q_13 hq_13 hs => ?_)
              refine gCV_i (As := [.int (5 + t0)]) (rest := []) ⟨hx, hb, hml, hown, hts⟩ (cX5_objectsAt_c l D cy ad tL z0 hI n v u (5 + t0) q_13 hq_13) (cwV 1 hts gL_grow_X5_objectsAt rfl rfl rfl (by decide +kernel) ⟨Nat.le_of_ble_eq_true rfl, Nat.le_of_ble_eq_true rfl⟩) hK hP hS (va_recv hK.1 hP (ci := 5) (q0 := 0) rfl (gW_5 kd0)) hl.1 rfl rfl (Nat.le_of_ble_eq_true rfl) dL_grow_108 ⟨Nat.zero_le _, Nat.zero_le _⟩ (fun H locs hP hS => ?_)
              refine lv_iconst (v := 4) hx hb dL_grow_111 (by decide) ?_
              refine lv_icmp_ge (tgt := 119) hx hb dL_grow_112 (by decide) (fun hc => ?_) (fun hc => ?_)
              · have hs := g_t hs hc
                refine lv_iconst (v := 0) hx hb dL_grow_119 (by decide) ?_
                exact hJ_120 v w2 w3 w4 t0 0 _ _ _ hP hS (lv_sub hl [1, 2, 3, 4, 0] rfl) hs
              · have hs := g_f hs hc
                refine lv_iconst (v := 1) hx hb dL_grow_115 (by decide) ?_
                refine lv_goto (tgt := 120) hx hb dL_grow_116 (by decide) ?_
                exact hJ_120 v w2 w3 w4 t0 1 _ _ _ hP hS (lv_sub hl [1, 2, 3, 4, 0] rfl) hs
  unfold sL_grow at hs
  refine lv_iload_n hx hb dL_grow_0 rfl (lv_at hl 1 rfl) ?_
  refine lv_iconst (v := 4) hx hb dL_grow_1 (by decide) ?_
  refine lv_ishr hx hb dL_grow_2 ?_
  refine lv_bipush (v := 6) hx hb dL_grow_3 (by decide) ?_
  refine g_bind hs (fun q_1 hq_1 hs => ?_)
  refine gCS_i (As := [.int (x1 >>> (4 &&& 31)), .int 6]) (rest := []) ⟨hx, hb, hml, hown, hts⟩ (cL_low_c l D cy ad tL z0 hI v u (x1 >>> (4 &&& 31)) 6 q_1 hq_1) (va_cwS 2 hts gL_grow_L_low rfl rfl rfl (by decide +kernel) ⟨Nat.le_of_ble_eq_true rfl, Nat.le_of_ble_eq_true rfl⟩) hK hP hS hl.1 rfl rfl (Nat.le_of_ble_eq_true rfl) dL_grow_5 ⟨Nat.zero_le _, Nat.zero_le _⟩ (fun H locs hP hS => ?_)
  refine lv_istore_n (lv' := [(2, .int q_1), (0, .ref (ad 0)), (1, .int x1)]) hx hb dL_grow_8 rfl hl (by decide) rfl (fun ls hl => ?_)
  refine lv_iload_n hx hb dL_grow_9 rfl (lv_at hl 2 rfl) ?_
  refine lv_bipush (v := 7) hx hb dL_grow_10 (by decide) ?_
  refine lv_ishr hx hb dL_grow_12 ?_
  refine lv_iconst (v := 4) hx hb dL_grow_13 (by decide) ?_
  refine g_bind hs (fun q_2 hq_2 hs => ?_)
  refine gCS_i (As := [.int (x1 >>> (7 &&& 31)), .int 4]) (rest := []) ⟨hx, hb, hml, hown, hts⟩ (cL_low_c l D cy ad tL z0 hI v u (x1 >>> (7 &&& 31)) 4 q_2 hq_2) (va_cwS 2 hts gL_grow_L_low rfl rfl rfl (by decide +kernel) ⟨Nat.le_of_ble_eq_true rfl, Nat.le_of_ble_eq_true rfl⟩) hK hP hS hl.1 rfl rfl (Nat.le_of_ble_eq_true rfl) dL_grow_14 ⟨Nat.zero_le _, Nat.zero_le _⟩ (fun H locs hP hS => ?_)
  refine lv_istore_n (lv' := [(3, .int q_2), (2, .int q_1), (0, .ref (ad 0)), (1, .int x1)]) hx hb dL_grow_17 rfl hl (by decide) rfl (fun ls hl => ?_)
  refine lv_aload_n hx hb dL_grow_18 rfl (lv_at hl 2 rfl) ?_
  refine g_bind hs (fun q_3 hq_3 hs => ?_)
  refine gCV_i (As := []) (rest := []) ⟨hx, hb, hml, hown, hts⟩ (cX5_objects_c l D cy ad tL z0 hI v u q_3 hq_3) (cwV 0 hts gL_grow_X5_objects rfl rfl rfl (by decide +kernel) ⟨Nat.le_of_ble_eq_true rfl, Nat.le_of_ble_eq_true rfl⟩) hK hP hS (va_recv hK.1 hP (ci := 5) (q0 := 0) rfl (gW_5 kd0)) hl.1 rfl rfl (Nat.le_of_ble_eq_true rfl) dL_grow_19 ⟨Nat.zero_le _, Nat.zero_le _⟩ (fun H locs hP hS => ?_)
  refine lv_bipush (v := 12) hx hb dL_grow_22 (by decide) ?_
  refine lv_icmp_eq (tgt := 36) hx hb dL_grow_24 (by decide) (fun hc => ?_) (fun hc => ?_)
  · have hs := g_t hs hc
    exact gRet_v hx hb hr hlocks hK hP hS (g_some hs) dL_grow_36
  · have hs := g_f hs hc
    refine lv_aload_n hx hb dL_grow_27 rfl (lv_at hl 2 rfl) ?_
    refine lv_iload_n hx hb dL_grow_28 rfl (lv_at hl 1 rfl) ?_
    refine lv_iload_n hx hb dL_grow_29 rfl (lv_at hl 0 rfl) ?_
    refine g_bind hs (fun q_4 hq_4 hs => ?_)
    refine gCV_i (As := [.int q_1, .int q_2]) (rest := []) ⟨hx, hb, hml, hown, hts⟩ (cX5_fitting_c l D cy ad tL z0 hI n v u q_1 q_2 q_4 hq_4) (cwV 2 hts gL_grow_X5_fitting rfl rfl rfl (by decide +kernel) ⟨Nat.le_of_ble_eq_true rfl, Nat.le_of_ble_eq_true rfl⟩) hK hP hS (va_recv hK.1 hP (ci := 5) (q0 := 0) rfl (gW_5 kd0)) hl.1 rfl rfl (Nat.le_of_ble_eq_true rfl) dL_grow_30 ⟨Nat.zero_le _, Nat.zero_le _⟩ (fun H locs hP hS => ?_)
    refine lv_if_eq (tgt := 37) hx hb dL_grow_33 (by decide) (fun hc => ?_) (fun hc => ?_)
    · have hs := g_t hs hc
      refine lv_iload_n hx hb dL_grow_37 rfl (lv_at hl 3 rfl) ?_
      refine lv_bipush (v := 9) hx hb dL_grow_38 (by decide) ?_
      refine lv_ishr hx hb dL_grow_40 ?_
      refine lv_bipush (v := 7) hx hb dL_grow_41 (by decide) ?_
      refine g_bind hs (fun q_5 hq_5 hs => ?_)
      refine gCS_i (As := [.int (x1 >>> (9 &&& 31)), .int 7]) (rest := []) ⟨hx, hb, hml, hown, hts⟩ (cL_low_c l D cy ad tL z0 hI v u (x1 >>> (9 &&& 31)) 7 q_5 hq_5) (va_cwS 2 hts gL_grow_L_low rfl rfl rfl (by decide +kernel) ⟨Nat.le_of_ble_eq_true rfl, Nat.le_of_ble_eq_true rfl⟩) hK hP hS hl.1 rfl rfl (Nat.le_of_ble_eq_true rfl) dL_grow_43 ⟨Nat.zero_le _, Nat.zero_le _⟩ (fun H locs hP hS => ?_)
      refine lv_istore (lv' := [(4, .int q_5), (3, .int q_2), (2, .int q_1), (0, .ref (ad 0)), (1, .int x1)]) hx hb dL_grow_46 hl (by decide) rfl (fun ls hl => ?_)
      refine lv_aload_n hx hb dL_grow_48 rfl (lv_at hl 3 rfl) ?_
      refine g_bind hs (fun q_6 hq_6 hs => ?_)
      refine gCV_i (As := []) (rest := []) ⟨hx, hb, hml, hown, hts⟩ (cX5_objects_c l D cy ad tL z0 hI v u q_6 hq_6) (cwV 0 hts gL_grow_X5_objects rfl rfl rfl (by decide +kernel) ⟨Nat.le_of_ble_eq_true rfl, Nat.le_of_ble_eq_true rfl⟩) hK hP hS (va_recv hK.1 hP (ci := 5) (q0 := 0) rfl (gW_5 kd0)) hl.1 rfl rfl (Nat.le_of_ble_eq_true rfl) dL_grow_49 ⟨Nat.zero_le _, Nat.zero_le _⟩ (fun H locs hP hS => ?_)
      refine lv_if_ne (tgt := 59) hx hb dL_grow_52 (by decide) (fun hc => ?_) (fun hc => ?_)
      · have hs := g_f hs hc
        refine lv_iload_n hx hb dL_grow_59 rfl (lv_at hl 4 rfl) ?_
        refine lv_iconst (v := 5) hx hb dL_grow_60 (by decide) ?_
        refine lv_ishr hx hb dL_grow_61 ?_
        refine lv_aload_n hx hb dL_grow_62 rfl (lv_at hl 3 rfl) ?_
        refine g_bind hs (fun q_7 hq_7 hs => ?_)
        refine gCV_i (As := []) (rest := [.int (x1 >>> (5 &&& 31))]) ⟨hx, hb, hml, hown, hts⟩ (cX5_objects_c l D cy ad tL z0 hI v u q_7 hq_7) (cwV 0 hts gL_grow_X5_objects rfl rfl rfl (by decide +kernel) ⟨Nat.le_of_ble_eq_true rfl, Nat.le_of_ble_eq_true rfl⟩) hK hP hS (va_recv hK.1 hP (ci := 5) (q0 := 0) rfl (gW_5 kd0)) hl.1 rfl rfl (Nat.le_of_ble_eq_true rfl) dL_grow_63 ⟨Nat.zero_le _, Nat.zero_le _⟩ (fun H locs hP hS => ?_)
        refine g_bind hs (fun q_8 hq_8 hs => ?_)
        refine gCS_i (As := [.int (x1 >>> (5 &&& 31)), .int q_7]) (rest := []) ⟨hx, hb, hml, hown, hts⟩ (cL_low_c l D cy ad tL z0 hI v u (x1 >>> (5 &&& 31)) q_7 q_8 hq_8) (va_cwS 2 hts gL_grow_L_low rfl rfl rfl (by decide +kernel) ⟨Nat.le_of_ble_eq_true rfl, Nat.le_of_ble_eq_true rfl⟩) hK hP hS hl.1 rfl rfl (Nat.le_of_ble_eq_true rfl) dL_grow_66 ⟨Nat.zero_le _, Nat.zero_le _⟩ (fun H locs hP hS => ?_)
        exact hJ_69 v q_1 q_2 q_5 q_8 _ _ _ hP hS (lv_sub hl [3, 2, 1, 0] rfl) hs
      · have hs := g_t hs hc
        refine lv_iconst (v := 0) hx hb dL_grow_55 (by decide) ?_
        refine lv_goto (tgt := 69) hx hb dL_grow_56 (by decide) ?_
        exact hJ_69 v q_1 q_2 q_5 0 _ _ _ hP hS (lv_sub hl [3, 2, 1, 0] rfl) hs
    · have hs := g_f hs hc
      exact gRet_v hx hb hr hlocks hK hP hS (g_some hs) dL_grow_36
set_option maxHeartbeats 4000000 in
set_option maxRecDepth 100000 in
theorem cL_describe_c (l : Launch) (D : va_G) (cy : Nat → ClassId) (ad : Nat → Nat) (tL z0 : Nat) (hI : gI z0 ad) (n : Nat) (v : gV) (u : Int64) (x1 : Int32) (v1 : gV) (hs : sL_describe n v x1 = some v1) : Met l yL_describe wsL_describe ({ frames := 3, cells := 0, slots := 0, locals := 67 } : Room) (gPc D cy ad tL z0 v u [.ref (ad 0), .int x1]) (gQv D cy ad tL z0 v1 u) 0 0 (gA z0) := by
  refine Met.ofW (cc := cL_describe) (maxL := 4) (ret := none) (by decide) rfl ?_
  intro p e s m args below meth c s₁ B hml hv
  obtain ⟨rfl, hB0⟩ := hv
  have hP : va_P D vwCl (gW cy ad v u) s.heap := hB0.1
  have hK : gK D cy tL z0 s s.heap := hB0.2
  have hx := B.exec
  have hb := B.bytes
  have hr := B.returns
  have hts := atoms_spec (ws := wsL_describe) B.pre
  have hown : s.vm.findClass RL = some m.cls := findClass_of_methodNamed B.named
  have hlocks := B.notSynchronized
  have hS : va_S (gA z0) s.heap s.heap [] := va_S.rf
  have hl := lv_entry ([.ref (ad 0), .int x1]) (n := 4) (Nat.le_of_ble_eq_true rfl)
  rw [lg_entry_eq]
  generalize (lg_sl ([.ref (ad 0), .int x1]) ++ List.replicate (4 - (lg_sl ([.ref (ad 0), .int x1])).length) Slot.unset).toArray = ls at hl ⊢
  have hl : lv_has ls 4 [(0, .ref (ad 0)), (1, .int x1)] := hl
  clear hB0
  have hJ_115 : ∀ (v : gV) (t1 : Int32) (H : Heap) (locs : List Loc) (ls : Array Slot), va_P D vwCl (gW cy ad v u) H → va_S (gA z0) s.heap H locs → lv_has ls 4 [] → sL_describe_115 n v t1 = some v1 → W p l e (headSpec wsL_describe ({ frames := 3, cells := 0, slots := 0, locals := 67 } : Room)).room s m ([.ref (ad 0), .int x1] : List Value).toArray below meth c H locs 0 0 (MQ below (gQv D cy ad tL z0 v1 u) ([.ref (ad 0), .int x1] : List Value).toArray s 0 0 (gA z0)) (F0 m 115 ls [.int t1, .ref (ad 0)]) := by
    intro v t1 H locs ls hP hS hl hs
    unfold sL_describe_115 at hs
    refine g_bind hs (fun q_6 hq_6 hs => ?_)
    refine gCV_i (As := [.int t1]) (rest := []) ⟨hx, hb, hml, hown, hts⟩ (cX5_appendWord_c l D cy ad tL z0 hI n v u t1 q_6.1 q_6.2 hq_6) (cwV 1 hts gL_describe_X5_appendWord rfl rfl rfl (by decide +kernel) ⟨Nat.le_of_ble_eq_true rfl, Nat.le_of_ble_eq_true rfl⟩) hK hP hS (va_recv hK.1 hP (ci := 5) (q0 := 0) rfl (gW_5 kd0)) hl.1 rfl rfl (Nat.le_of_ble_eq_true rfl) dL_describe_115 ⟨Nat.zero_le _, Nat.zero_le _⟩ (fun H locs hP hS => ?_)
    refine lv_pop hx hb dL_describe_118 rfl ?_
    exact gRet_v hx hb hr hlocks hK hP hS (g_some hs) dL_describe_119
  have hJ_94 : ∀ (v : gV) (w1 : Int32) (w2 : Int32) (w3 : Int32) (H : Heap) (locs : List Loc) (ls : Array Slot), va_P D vwCl (gW cy ad v u) H → va_S (gA z0) s.heap H locs → lv_has ls 4 [(0, .ref (ad 0)), (1, .int w1), (2, .int w2), (3, .int w3)] → sL_describe_94 n v w1 w2 w3 = some v1 → W p l e (headSpec wsL_describe ({ frames := 3, cells := 0, slots := 0, locals := 67 } : Room)).room s m ([.ref (ad 0), .int x1] : List Value).toArray below meth c H locs 0 0 (MQ below (gQv D cy ad tL z0 v1 u) ([.ref (ad 0), .int x1] : List Value).toArray s 0 0 (gA z0)) (F0 m 94 ls []) := by
    intro v w1 w2 w3 H locs ls hP hS hl hs
    unfold sL_describe_94 at hs
    refine lv_aload_n hx hb dL_describe_94 rfl (lv_at hl 0 rfl) ?_
    refine lv_iload_n hx hb dL_describe_95 rfl (lv_at hl 3 rfl) ?_
    refine lv_if_eq (tgt := 107) hx hb dL_describe_96 (by decide) (fun hc => ?_) (fun hc => ?_)
    · have hs := g_t hs hc
      refine lv_iload_n hx hb dL_describe_107 rfl (lv_at hl 1 rfl) ?_
      refine lv_iconst (v := 4) hx hb dL_describe_108 (by decide) ?_
      refine lv_ishr hx hb dL_describe_109 ?_
      refine lv_bipush (v := 6) hx hb dL_describe_110 (by decide) ?_
      refine g_bind hs (fun q_5 hq_5 hs => ?_)
      refine gCS_i (As := [.int (w1 >>> (4 &&& 31)), .int 6]) (rest := [.ref (ad 0)]) ⟨hx, hb, hml, hown, hts⟩ (cL_low_c l D cy ad tL z0 hI v u (w1 >>> (4 &&& 31)) 6 q_5 hq_5) (va_cwS 2 hts gL_describe_L_low rfl rfl rfl (by decide +kernel) ⟨Nat.le_of_ble_eq_true rfl, Nat.le_of_ble_eq_true rfl⟩) hK hP hS hl.1 rfl rfl (Nat.le_of_ble_eq_true rfl) dL_describe_112 ⟨Nat.zero_le _, Nat.zero_le _⟩ (fun H locs hP hS => ?_)
      exact hJ_115 v q_5 _ _ _ hP hS (lv_sub hl [] rfl) hs
    · have hs := g_f hs hc
      refine lv_aload_n hx hb dL_describe_99 rfl (lv_at hl 0 rfl) ?_
      refine lv_iload_n hx hb dL_describe_100 rfl (lv_at hl 2 rfl) ?_
      refine g_bind hs (fun q_7 hq_7 hs => ?_)
      refine gCV_i (As := [.int w2]) (rest := [.ref (ad 0)]) ⟨hx, hb, hml, hown, hts⟩ (cX5_noun_c l D cy ad tL z0 hI v u w2 q_7 hq_7) (cwV 1 hts gL_describe_X5_noun rfl rfl rfl (by decide +kernel) ⟨Nat.le_of_ble_eq_true rfl, Nat.le_of_ble_eq_true rfl⟩) hK hP hS (va_recv hK.1 hP (ci := 5) (q0 := 0) rfl (gW_5 kd0)) hl.1 rfl rfl (Nat.le_of_ble_eq_true rfl) dL_describe_101 ⟨Nat.zero_le _, Nat.zero_le _⟩ (fun H locs hP hS => ?_)
      refine lv_goto (tgt := 115) hx hb dL_describe_104 (by decide) ?_
      exact hJ_115 v q_7 _ _ _ hP hS (lv_sub hl [] rfl) hs
  have hJ_89 : ∀ (v : gV) (w1 : Int32) (w2 : Int32) (w3 : Int32) (t1 : Int32) (t2 : Int32) (H : Heap) (locs : List Loc) (ls : Array Slot), va_P D vwCl (gW cy ad v u) H → va_S (gA z0) s.heap H locs → lv_has ls 4 [(0, .ref (ad 0)), (1, .int w1), (2, .int w2), (3, .int w3)] → sL_describe_89 n v w1 w2 w3 t1 t2 = some v1 → W p l e (headSpec wsL_describe ({ frames := 3, cells := 0, slots := 0, locals := 67 } : Room)).room s m ([.ref (ad 0), .int x1] : List Value).toArray below meth c H locs 0 0 (MQ below (gQv D cy ad tL z0 v1 u) ([.ref (ad 0), .int x1] : List Value).toArray s 0 0 (gA z0)) (F0 m 89 ls [.int t2, .int t1, .ref (ad 0)]) := by
    intro v w1 w2 w3 t1 t2 H locs ls hP hS hl hs
    unfold sL_describe_89 at hs
    refine lv_iadd hx hb dL_describe_89 ?_
    refine g_bind hs (fun q_9 hq_9 hs => ?_)
    refine gCV_i (As := [.int (t1 + t2)]) (rest := []) ⟨hx, hb, hml, hown, hts⟩ (cX5_appendWord_c l D cy ad tL z0 hI n v u (t1 + t2) q_9.1 q_9.2 hq_9) (cwV 1 hts gL_describe_X5_appendWord rfl rfl rfl (by decide +kernel) ⟨Nat.le_of_ble_eq_true rfl, Nat.le_of_ble_eq_true rfl⟩) hK hP hS (va_recv hK.1 hP (ci := 5) (q0 := 0) rfl (gW_5 kd0)) hl.1 rfl rfl (Nat.le_of_ble_eq_true rfl) dL_describe_90 ⟨Nat.zero_le _, Nat.zero_le _⟩ (fun H locs hP hS => ?_)
    refine lv_pop hx hb dL_describe_93 rfl ?_
    exact hJ_94 q_9.2 w1 w2 w3 _ _ _ hP hS (lv_sub hl [0, 1, 2, 3] rfl) hs
  have hJ_57 : ∀ (v : gV) (w1 : Int32) (w2 : Int32) (w3 : Int32) (H : Heap) (locs : List Loc) (ls : Array Slot), va_P D vwCl (gW cy ad v u) H → va_S (gA z0) s.heap H locs → lv_has ls 4 [(0, .ref (ad 0)), (1, .int w1), (2, .int w2), (3, .int w3)] → sL_describe_57 n v w1 w2 w3 = some v1 → W p l e (headSpec wsL_describe ({ frames := 3, cells := 0, slots := 0, locals := 67 } : Room)).room s m ([.ref (ad 0), .int x1] : List Value).toArray below meth c H locs 0 0 (MQ below (gQv D cy ad tL z0 v1 u) ([.ref (ad 0), .int x1] : List Value).toArray s 0 0 (gA z0)) (F0 m 57 ls []) := by
    intro v w1 w2 w3 H locs ls hP hS hl hs
    unfold sL_describe_57 at hs
    refine lv_iload_n hx hb dL_describe_57 rfl (lv_at hl 1 rfl) ?_
    refine lv_bipush (v := 6) hx hb dL_describe_58 (by decide) ?_
    refine lv_ishr hx hb dL_describe_60 ?_
    refine lv_iconst (v := 1) hx hb dL_describe_61 (by decide) ?_
    refine lv_iand hx hb dL_describe_62 ?_
    refine lv_if_ne (tgt := 94) hx hb dL_describe_63 (by decide) (fun hc => ?_) (fun hc => ?_)
    · have hs := g_f hs hc
      exact hJ_94 v w1 w2 w3 _ _ _ hP hS (lv_sub hl [0, 1, 2, 3] rfl) hs
    · have hs := g_t hs hc
      refine lv_aload_n hx hb dL_describe_66 rfl (lv_at hl 0 rfl) ?_
      refine lv_bipush (v := 6) hx hb dL_describe_67 (by decide) ?_
      refine lv_iload_n hx hb dL_describe_69 rfl (lv_at hl 3 rfl) ?_
      refine lv_if_eq (tgt := 81) hx hb dL_describe_70 (by decide) (fun hc => ?_) (fun hc => ?_)
      · have hs := g_t hs hc
        refine lv_iload_n hx hb dL_describe_81 rfl (lv_at hl 1 rfl) ?_
        refine lv_bipush (v := 7) hx hb dL_describe_82 (by decide) ?_
        refine lv_ishr hx hb dL_describe_84 ?_
        refine lv_iconst (v := 4) hx hb dL_describe_85 (by decide) ?_
        refine g_bind hs (fun q_8 hq_8 hs => ?_)
        refine gCS_i (As := [.int (w1 >>> (7 &&& 31)), .int 4]) (rest := [.int 6, .ref (ad 0)]) ⟨hx, hb, hml, hown, hts⟩ (cL_low_c l D cy ad tL z0 hI v u (w1 >>> (7 &&& 31)) 4 q_8 hq_8) (va_cwS 2 hts gL_describe_L_low rfl rfl rfl (by decide +kernel) ⟨Nat.le_of_ble_eq_true rfl, Nat.le_of_ble_eq_true rfl⟩) hK hP hS hl.1 rfl rfl (Nat.le_of_ble_eq_true rfl) dL_describe_86 ⟨Nat.zero_le _, Nat.zero_le _⟩ (fun H locs hP hS => ?_)
        exact hJ_89 v w1 w2 w3 6 q_8 _ _ _ hP hS (lv_sub hl [0, 1, 2, 3] rfl) hs
      · have hs := g_f hs hc
        refine lv_aload_n hx hb dL_describe_73 rfl (lv_at hl 0 rfl) ?_
        refine lv_iload_n hx hb dL_describe_74 rfl (lv_at hl 2 rfl) ?_
        refine g_bind hs (fun q_10 hq_10 hs => ?_)
        refine gCV_i (As := [.int w2]) (rest := [.int 6, .ref (ad 0)]) ⟨hx, hb, hml, hown, hts⟩ (cX5_adjective_c l D cy ad tL z0 hI v u w2 q_10 hq_10) (cwV 1 hts gL_describe_X5_adjective rfl rfl rfl (by decide +kernel) ⟨Nat.le_of_ble_eq_true rfl, Nat.le_of_ble_eq_true rfl⟩) hK hP hS (va_recv hK.1 hP (ci := 5) (q0 := 0) rfl (gW_5 kd0)) hl.1 rfl rfl (Nat.le_of_ble_eq_true rfl) dL_describe_75 ⟨Nat.zero_le _, Nat.zero_le _⟩ (fun H locs hP hS => ?_)
        refine lv_goto (tgt := 89) hx hb dL_describe_78 (by decide) ?_
        exact hJ_89 v w1 w2 w3 6 q_10 _ _ _ hP hS (lv_sub hl [0, 1, 2, 3] rfl) hs
  have hJ_41 : ∀ (v : gV) (w1 : Int32) (w2 : Int32) (t0 : Int32) (H : Heap) (locs : List Loc) (ls : Array Slot), va_P D vwCl (gW cy ad v u) H → va_S (gA z0) s.heap H locs → lv_has ls 4 [(0, .ref (ad 0)), (1, .int w1), (2, .int w2)] → sL_describe_41 n v w1 w2 t0 = some v1 → W p l e (headSpec wsL_describe ({ frames := 3, cells := 0, slots := 0, locals := 67 } : Room)).room s m ([.ref (ad 0), .int x1] : List Value).toArray below meth c H locs 0 0 (MQ below (gQv D cy ad tL z0 v1 u) ([.ref (ad 0), .int x1] : List Value).toArray s 0 0 (gA z0)) (F0 m 41 ls [.int t0]) := by
    intro v w1 w2 t0 H locs ls hP hS hl hs
    unfold sL_describe_41 at hs
    refine lv_istore_n (lv' := [(3, .int t0), (0, .ref (ad 0)), (1, .int w1), (2, .int w2)]) hx hb dL_describe_41 rfl hl (by decide) rfl (fun ls hl => ?_)
    refine lv_iload_n hx hb dL_describe_42 rfl (lv_at hl 2 rfl) ?_
    refine lv_iconst (v := 5) hx hb dL_describe_43 (by decide) ?_
    refine lv_ishr hx hb dL_describe_44 ?_
    refine lv_iconst (v := 1) hx hb dL_describe_45 (by decide) ?_
    refine lv_iand hx hb dL_describe_46 ?_
    refine lv_if_ne (tgt := 57) hx hb dL_describe_47 (by decide) (fun hc => ?_) (fun hc => ?_)
    · have hs := g_f hs hc
      exact hJ_57 v w1 w2 t0 _ _ _ hP hS (lv_sub hl [1, 2, 3, 0] rfl) hs
    · have hs := g_t hs hc
      refine lv_aload_n hx hb dL_describe_50 rfl (lv_at hl 1 rfl) ?_
      refine lv_bipush (v := 21) hx hb dL_describe_51 (by decide) ?_
      refine g_bind hs (fun q_11 hq_11 hs => ?_)
      refine gCV_i (As := [.int 21]) (rest := []) ⟨hx, hb, hml, hown, hts⟩ (cX5_appendWord_c l D cy ad tL z0 hI n v u 21 q_11.1 q_11.2 hq_11) (cwV 1 hts gL_describe_X5_appendWord rfl rfl rfl (by decide +kernel) ⟨Nat.le_of_ble_eq_true rfl, Nat.le_of_ble_eq_true rfl⟩) hK hP hS (va_recv hK.1 hP (ci := 5) (q0 := 0) rfl (gW_5 kd0)) hl.1 rfl rfl (Nat.le_of_ble_eq_true rfl) dL_describe_53 ⟨Nat.zero_le _, Nat.zero_le _⟩ (fun H locs hP hS => ?_)
      refine lv_pop hx hb dL_describe_56 rfl ?_
      exact hJ_57 q_11.2 w1 w2 t0 _ _ _ hP hS (lv_sub hl [1, 2, 3, 0] rfl) hs
  have hJ_21 : ∀ (v : gV) (w1 : Int32) (t0 : Int32) (H : Heap) (locs : List Loc) (ls : Array Slot), va_P D vwCl (gW cy ad v u) H → va_S (gA z0) s.heap H locs → lv_has ls 4 [(0, .ref (ad 0)), (1, .int w1)] → sL_describe_21 n v w1 t0 = some v1 → W p l e (headSpec wsL_describe ({ frames := 3, cells := 0, slots := 0, locals := 67 } : Room)).room s m ([.ref (ad 0), .int x1] : List Value).toArray below meth c H locs 0 0 (MQ below (gQv D cy ad tL z0 v1 u) ([.ref (ad 0), .int x1] : List Value).toArray s 0 0 (gA z0)) (F0 m 21 ls [.int t0]) := by
    intro v w1 t0 H locs ls hP hS hl hs
    unfold sL_describe_21 at hs
    refine lv_istore_n (lv' := [(2, .int t0), (0, .ref (ad 0)), (1, .int w1)]) hx hb dL_describe_21 rfl hl (by decide) rfl (fun ls hl => ?_)
    refine lv_aload_n hx hb dL_describe_22 rfl (lv_at hl 1 rfl) ?_
    refine g_bind hs (fun q_4 hq_4 hs => ?_)
    refine gCV_i (As := []) (rest := []) ⟨hx, hb, hml, hown, hts⟩ (cX5_objects_c l D cy ad tL z0 hI v u q_4 hq_4) (cwV 0 hts gL_describe_X5_objects rfl rfl rfl (by decide +kernel) ⟨Nat.le_of_ble_eq_true rfl, Nat.le_of_ble_eq_true rfl⟩) hK hP hS (va_recv hK.1 hP (ci := 5) (q0 := 0) rfl (gW_5 kd0)) hl.1 rfl rfl (Nat.le_of_ble_eq_true rfl) dL_describe_23 ⟨Nat.zero_le _, Nat.zero_le _⟩ (fun H locs hP hS => ?_)
    refine lv_if_le (tgt := 40) hx hb dL_describe_26 (by decide) (fun hc => ?_) (fun hc => ?_)
    · have hs := g_t hs hc
      refine lv_iconst (v := 0) hx hb dL_describe_40 (by decide) ?_
      exact hJ_41 v w1 t0 0 _ _ _ hP hS (lv_sub hl [1, 2, 0] rfl) hs
    · have hs := g_f hs hc
      refine lv_iload_n hx hb dL_describe_29 rfl (lv_at hl 2 rfl) ?_
      refine lv_bipush (v := 7) hx hb dL_describe_30 (by decide) ?_
      refine lv_iand hx hb dL_describe_32 ?_
      refine lv_if_le (tgt := 40) hx hb dL_describe_33 (by decide) (fun hc => ?_) (fun hc => ?_)
      · have hs := g_t hs hc
        refine lv_iconst (v := 0) hx hb dL_describe_40 (by decide) ?_
        exact hJ_41 v w1 t0 0 _ _ _ hP hS (lv_sub hl [1, 2, 0] rfl) hs
      · have hs := g_f hs hc
        refine lv_iconst (v := 1) hx hb dL_describe_36 (by decide) ?_
        refine lv_goto (tgt := 41) hx hb dL_describe_37 (by decide) ?_
        exact hJ_41 v w1 t0 1 _ _ _ hP hS (lv_sub hl [1, 2, 0] rfl) hs
  unfold sL_describe at hs
  refine lv_aload_n hx hb dL_describe_0 rfl (lv_at hl 0 rfl) ?_
  refine g_bind hs (fun q_1 hq_1 hs => ?_)
  refine gCV_i (As := []) (rest := []) ⟨hx, hb, hml, hown, hts⟩ (cX5_objects_c l D cy ad tL z0 hI v u q_1 hq_1) (cwV 0 hts gL_describe_X5_objects rfl rfl rfl (by decide +kernel) ⟨Nat.le_of_ble_eq_true rfl, Nat.le_of_ble_eq_true rfl⟩) hK hP hS (va_recv hK.1 hP (ci := 5) (q0 := 0) rfl (gW_5 kd0)) hl.1 rfl rfl (Nat.le_of_ble_eq_true rfl) dL_describe_1 ⟨Nat.zero_le _, Nat.zero_le _⟩ (fun H locs hP hS => ?_)
  refine lv_if_ne (tgt := 11) hx hb dL_describe_4 (by decide) (fun hc => ?_) (fun hc => ?_)
  · have hs := g_f hs hc
    refine lv_iload_n hx hb dL_describe_11 rfl (lv_at hl 1 rfl) ?_
    refine lv_iconst (v := 3) hx hb dL_describe_12 (by decide) ?_
    refine lv_ishr hx hb dL_describe_13 ?_
    refine lv_aload_n hx hb dL_describe_14 rfl (lv_at hl 0 rfl) ?_
    refine g_bind hs (fun q_2 hq_2 hs => ?_)
    refine gCV_i (As := []) (rest := [.int (x1 >>> (3 &&& 31))]) ⟨hx, hb, hml, hown, hts⟩ (cX5_objects_c l D cy ad tL z0 hI v u q_2 hq_2) (cwV 0 hts gL_describe_X5_objects rfl rfl rfl (by decide +kernel) ⟨Nat.le_of_ble_eq_true rfl, Nat.le_of_ble_eq_true rfl⟩) hK hP hS (va_recv hK.1 hP (ci := 5) (q0 := 0) rfl (gW_5 kd0)) hl.1 rfl rfl (Nat.le_of_ble_eq_true rfl) dL_describe_15 ⟨Nat.zero_le _, Nat.zero_le _⟩ (fun H locs hP hS => ?_)
    refine g_bind hs (fun q_3 hq_3 hs => ?_)
    refine gCS_i (As := [.int (x1 >>> (3 &&& 31)), .int q_2]) (rest := []) ⟨hx, hb, hml, hown, hts⟩ (cL_low_c l D cy ad tL z0 hI v u (x1 >>> (3 &&& 31)) q_2 q_3 hq_3) (va_cwS 2 hts gL_describe_L_low rfl rfl rfl (by decide +kernel) ⟨Nat.le_of_ble_eq_true rfl, Nat.le_of_ble_eq_true rfl⟩) hK hP hS hl.1 rfl rfl (Nat.le_of_ble_eq_true rfl) dL_describe_18 ⟨Nat.zero_le _, Nat.zero_le _⟩ (fun H locs hP hS => ?_)
    exact hJ_21 v x1 q_3 _ _ _ hP hS (lv_sub hl [0, 1] rfl) hs
  · have hs := g_t hs hc
    refine lv_iconst (v := 0) hx hb dL_describe_7 (by decide) ?_
    refine lv_goto (tgt := 21) hx hb dL_describe_8 (by decide) ?_
    exact hJ_21 v x1 0 _ _ _ hP hS (lv_sub hl [0, 1] rfl) hs
set_option maxHeartbeats 4000000 in
set_option maxRecDepth 100000 in
theorem cL_type_c (l : Launch) (D : va_G) (cy : Nat → ClassId) (ad : Nat → Nat) (tL z0 : Nat) (hI : gI z0 ad) (n : Nat) (v : gV) (u : Int64) (x1 : Int32) (x2 : Int32) (r0 : Int32) (v1 : gV) (hs : sL_type n v x1 x2 = some (r0, v1)) : Met l yL_type wsL_type ({ frames := 4, cells := 0, slots := 0, locals := 90 } : Room) (gPc D cy ad tL z0 v u [.ref (ad 0), .int x1, .int x2]) (gQi D cy ad tL z0 v1 u r0) 0 0 (gA z0) := by
  refine Met.ofW (cc := cL_type) (maxL := 5) (ret := (some .int)) (by decide) rfl ?_
  intro p e s m args below meth c s₁ B hml hv
  obtain ⟨rfl, hB0⟩ := hv
  have hP : va_P D vwCl (gW cy ad v u) s.heap := hB0.1
  have hK : gK D cy tL z0 s s.heap := hB0.2
  have hx := B.exec
  have hb := B.bytes
  have hr := B.returns
  have hts := atoms_spec (ws := wsL_type) B.pre
  have hown : s.vm.findClass RL = some m.cls := findClass_of_methodNamed B.named
  have hlocks := B.notSynchronized
  have hS : va_S (gA z0) s.heap s.heap [] := va_S.rf
  have hl := lv_entry ([.ref (ad 0), .int x1, .int x2]) (n := 5) (Nat.le_of_ble_eq_true rfl)
  rw [lg_entry_eq]
  generalize (lg_sl ([.ref (ad 0), .int x1, .int x2]) ++ List.replicate (5 - (lg_sl ([.ref (ad 0), .int x1, .int x2])).length) Slot.unset).toArray = ls at hl ⊢
  have hl : lv_has ls 5 [(0, .ref (ad 0)), (1, .int x1), (2, .int x2)] := hl
  clear hB0
  have hJ_172 : ∀ (v : gV) (w1 : Int32) (w3 : Int32) (H : Heap) (locs : List Loc) (ls : Array Slot), va_P D vwCl (gW cy ad v u) H → va_S (gA z0) s.heap H locs → lv_has ls 5 [(0, .ref (ad 0)), (1, .int w1), (3, .int w3)] → sL_type_172 n v w1 w3 = some (r0, v1) → W p l e (headSpec wsL_type ({ frames := 4, cells := 0, slots := 0, locals := 90 } : Room)).room s m ([.ref (ad 0), .int x1, .int x2] : List Value).toArray below meth c H locs 0 0 (MQ below (gQi D cy ad tL z0 v1 u r0) ([.ref (ad 0), .int x1, .int x2] : List Value).toArray s 0 0 (gA z0)) (F0 m 172 ls []) := by
    intro v w1 w3 H locs ls hP hS hl hs
    unfold sL_type_172 at hs
    refine lv_iload_n hx hb dL_type_172 rfl (lv_at hl 2 rfl) ?_
    refine lv_iconst (v := 2) hx hb dL_type_173 (by decide) ?_
    refine lv_icmp_ne (tgt := 193) hx hb dL_type_174 (by decide) (fun hc => ?_) (fun hc => ?_)
    · have hs := g_f hs hc
      refine lv_iload_n hx hb dL_type_193 rfl (lv_at hl 2 rfl) ?_
      exact gRet_i hx hb hr hlocks hK hP hS (g_some2 hs) dL_type_194
    · have hs := g_t hs hc
      refine lv_iload_n hx hb dL_type_177 rfl (lv_at hl 1 rfl) ?_
      refine lv_bipush (v := 12) hx hb dL_type_178 (by decide) ?_
      refine lv_ishr hx hb dL_type_180 ?_
      refine lv_iconst (v := 3) hx hb dL_type_181 (by decide) ?_
      refine lv_iand hx hb dL_type_182 ?_
      refine lv_if_le (tgt := 193) hx hb dL_type_183 (by decide) (fun hc => ?_) (fun hc => ?_)
      · have hs := g_t hs hc
        refine lv_iload_n hx hb dL_type_193 rfl (lv_at hl 2 rfl) ?_
        exact gRet_i hx hb hr hlocks hK hP hS (g_some2 hs) dL_type_194
      · have hs := g_f hs hc
        refine lv_aload_n hx hb dL_type_186 rfl (lv_at hl 0 rfl) ?_
        refine lv_iload_n hx hb dL_type_187 rfl (lv_at hl 1 rfl) ?_
        refine lv_iconst (v := 2) hx hb dL_type_188 (by decide) ?_
        refine lv_ishr hx hb dL_type_189 ?_
        refine g_bind hs (fun q_6 hq_6 hs => ?_)
        refine gCS_v (As := [.ref (ad 0), .int (w1 >>> (2 &&& 31))]) (rest := []) ⟨hx, hb, hml, hown, hts⟩ (cL_describe_c l D cy ad tL z0 hI n v u (w1 >>> (2 &&& 31)) q_6 hq_6) (va_cwS 2 hts gL_type_L_describe rfl rfl rfl (by decide +kernel) ⟨Nat.le_of_ble_eq_true rfl, Nat.le_of_ble_eq_true rfl⟩) hK hP hS hl.1 rfl rfl (Nat.le_of_ble_eq_true rfl) dL_type_190 ⟨Nat.zero_le _, Nat.zero_le _⟩ (fun H locs hP hS => ?_)
        refine lv_iload_n hx hb dL_type_193 rfl (lv_at hl 2 rfl) ?_
        exact gRet_i hx hb hr hlocks hK hP hS (g_some2 hs) dL_type_194
  have hJ_151 : ∀ (v : gV) (w1 : Int32) (w3 : Int32) (H : Heap) (locs : List Loc) (ls : Array Slot), va_P D vwCl (gW cy ad v u) H → va_S (gA z0) s.heap H locs → lv_has ls 5 [(0, .ref (ad 0)), (1, .int w1), (3, .int w3)] → sL_type_151 n v w1 w3 = some (r0, v1) → W p l e (headSpec wsL_type ({ frames := 4, cells := 0, slots := 0, locals := 90 } : Room)).room s m ([.ref (ad 0), .int x1, .int x2] : List Value).toArray below meth c H locs 0 0 (MQ below (gQi D cy ad tL z0 v1 u r0) ([.ref (ad 0), .int x1, .int x2] : List Value).toArray s 0 0 (gA z0)) (F0 m 151 ls []) := by
    intro v w1 w3 H locs ls hP hS hl hs
    unfold sL_type_151 at hs
    refine lv_iload_n hx hb dL_type_151 rfl (lv_at hl 2 rfl) ?_
    refine lv_iconst (v := 2) hx hb dL_type_152 (by decide) ?_
    refine lv_icmp_ne (tgt := 172) hx hb dL_type_153 (by decide) (fun hc => ?_) (fun hc => ?_)
    · have hs := g_f hs hc
      exact hJ_172 v w1 w3 _ _ _ hP hS (lv_sub hl [0, 1, 2] rfl) hs
    · have hs := g_t hs hc
      refine lv_iload_n hx hb dL_type_156 rfl (lv_at hl 1 rfl) ?_
      refine lv_bipush (v := 12) hx hb dL_type_157 (by decide) ?_
      refine lv_ishr hx hb dL_type_159 ?_
      refine lv_iconst (v := 3) hx hb dL_type_160 (by decide) ?_
      refine lv_iand hx hb dL_type_161 ?_
      refine lv_if_ne (tgt := 172) hx hb dL_type_162 (by decide) (fun hc => ?_) (fun hc => ?_)
      · have hs := g_f hs hc
        exact hJ_172 v w1 w3 _ _ _ hP hS (lv_sub hl [0, 1, 2] rfl) hs
      · have hs := g_t hs hc
        refine lv_aload_n hx hb dL_type_165 rfl (lv_at hl 0 rfl) ?_
        refine lv_bipush (v := 22) hx hb dL_type_166 (by decide) ?_
        refine g_bind hs (fun q_7 hq_7 hs => ?_)
        refine gCV_i (As := [.int 22]) (rest := []) ⟨hx, hb, hml, hown, hts⟩ (cX5_appendWord_c l D cy ad tL z0 hI n v u 22 q_7.1 q_7.2 hq_7) (cwV 1 hts gL_type_X5_appendWord rfl rfl rfl (by decide +kernel) ⟨Nat.le_of_ble_eq_true rfl, Nat.le_of_ble_eq_true rfl⟩) hK hP hS (va_recv hK.1 hP (ci := 5) (q0 := 0) rfl (gW_5 kd0)) hl.1 rfl rfl (Nat.le_of_ble_eq_true rfl) dL_type_168 ⟨Nat.zero_le _, Nat.zero_le _⟩ (fun H locs hP hS => ?_)
        refine lv_pop hx hb dL_type_171 rfl ?_
        exact hJ_172 q_7.2 w1 w3 _ _ _ hP hS (lv_sub hl [0, 1, 2] rfl) hs
  have hJ_139 : ∀ (v : gV) (w1 : Int32) (w3 : Int32) (H : Heap) (locs : List Loc) (ls : Array Slot), va_P D vwCl (gW cy ad v u) H → va_S (gA z0) s.heap H locs → lv_has ls 5 [(0, .ref (ad 0)), (1, .int w1), (3, .int w3)] → sL_type_139 n v w1 w3 = some (r0, v1) → W p l e (headSpec wsL_type ({ frames := 4, cells := 0, slots := 0, locals := 90 } : Room)).room s m ([.ref (ad 0), .int x1, .int x2] : List Value).toArray below meth c H locs 0 0 (MQ below (gQi D cy ad tL z0 v1 u r0) ([.ref (ad 0), .int x1, .int x2] : List Value).toArray s 0 0 (gA z0)) (F0 m 139 ls []) := by
    intro v w1 w3 H locs ls hP hS hl hs
    unfold sL_type_139 at hs
    refine lv_iload_n hx hb dL_type_139 rfl (lv_at hl 2 rfl) ?_
    refine lv_iconst (v := 2) hx hb dL_type_140 (by decide) ?_
    refine lv_icmp_ne (tgt := 151) hx hb dL_type_141 (by decide) (fun hc => ?_) (fun hc => ?_)
    · have hs := g_f hs hc
      exact hJ_151 v w1 w3 _ _ _ hP hS (lv_sub hl [0, 1, 2] rfl) hs
    · have hs := g_t hs hc
      refine lv_aload_n hx hb dL_type_144 rfl (lv_at hl 0 rfl) ?_
      refine lv_bipush (v := 20) hx hb dL_type_145 (by decide) ?_
      refine g_bind hs (fun q_8 hq_8 hs => ?_)
      refine gCV_i (As := [.int 20]) (rest := []) ⟨hx, hb, hml, hown, hts⟩ (cX5_appendWord_c l D cy ad tL z0 hI n v u 20 q_8.1 q_8.2 hq_8) (cwV 1 hts gL_type_X5_appendWord rfl rfl rfl (by decide +kernel) ⟨Nat.le_of_ble_eq_true rfl, Nat.le_of_ble_eq_true rfl⟩) hK hP hS (va_recv hK.1 hP (ci := 5) (q0 := 0) rfl (gW_5 kd0)) hl.1 rfl rfl (Nat.le_of_ble_eq_true rfl) dL_type_147 ⟨Nat.zero_le _, Nat.zero_le _⟩ (fun H locs hP hS => ?_)
      refine lv_pop hx hb dL_type_150 rfl ?_
      exact hJ_151 q_8.2 w1 w3 _ _ _ hP hS (lv_sub hl [0, 1, 2] rfl) hs
  have hJ_116 : ∀ (v : gV) (w1 : Int32) (w2 : Int32) (w3 : Int32) (H : Heap) (locs : List Loc) (ls : Array Slot), va_P D vwCl (gW cy ad v u) H → va_S (gA z0) s.heap H locs → lv_has ls 5 [(0, .ref (ad 0)), (1, .int w1), (2, .int w2), (3, .int w3)] → sL_type_116 n v w1 w2 w3 = some (r0, v1) → W p l e (headSpec wsL_type ({ frames := 4, cells := 0, slots := 0, locals := 90 } : Room)).room s m ([.ref (ad 0), .int x1, .int x2] : List Value).toArray below meth c H locs 0 0 (MQ below (gQi D cy ad tL z0 v1 u r0) ([.ref (ad 0), .int x1, .int x2] : List Value).toArray s 0 0 (gA z0)) (F0 m 116 ls []) := by
    intro v w1 w2 w3 H locs ls hP hS hl hs
    unfold sL_type_116 at hs
    refine lv_iload_n hx hb dL_type_116 rfl (lv_at hl 2 rfl) ?_
    refine lv_bipush (v := 11) hx hb dL_type_117 (by decide) ?_
    refine lv_ishr hx hb dL_type_119 ?_
    refine lv_iconst (v := 3) hx hb dL_type_120 (by decide) ?_
    refine lv_iand hx hb dL_type_121 ?_
    refine lv_if_ne (tgt := 139) hx hb dL_type_122 (by decide) (fun hc => ?_) (fun hc => ?_)
    · have hs := g_f hs hc
      exact hJ_139 v w1 w3 _ _ _ hP hS (lv_sub hl [0, 1, 3] rfl) hs
    · have hs := g_t hs hc
      refine lv_aload_n hx hb dL_type_125 rfl (lv_at hl 0 rfl) ?_
      refine lv_bipush (v := 19) hx hb dL_type_126 (by decide) ?_
      refine g_bind hs (fun q_9 hq_9 hs => ?_)
      refine gCV_i (As := [.int 19]) (rest := []) ⟨hx, hb, hml, hown, hts⟩ (cX5_appendWord_c l D cy ad tL z0 hI n v u 19 q_9.1 q_9.2 hq_9) (cwV 1 hts gL_type_X5_appendWord rfl rfl rfl (by decide +kernel) ⟨Nat.le_of_ble_eq_true rfl, Nat.le_of_ble_eq_true rfl⟩) hK hP hS (va_recv hK.1 hP (ci := 5) (q0 := 0) rfl (gW_5 kd0)) hl.1 rfl rfl (Nat.le_of_ble_eq_true rfl) dL_type_128 ⟨Nat.zero_le _, Nat.zero_le _⟩ (fun H locs hP hS => ?_)
      refine lv_pop hx hb dL_type_131 rfl ?_
      refine lv_aload_n hx hb dL_type_132 rfl (lv_at hl 0 rfl) ?_
      refine lv_iload_n hx hb dL_type_133 rfl (lv_at hl 2 rfl) ?_
      refine lv_iconst (v := 4) hx hb dL_type_134 (by decide) ?_
      refine lv_ishr hx hb dL_type_135 ?_
      refine g_bind hs (fun q_10 hq_10 hs => ?_)
      refine gCS_v (As := [.ref (ad 0), .int (w2 >>> (4 &&& 31))]) (rest := []) ⟨hx, hb, hml, hown, hts⟩ (cL_describe_c l D cy ad tL z0 hI n q_9.2 u (w2 >>> (4 &&& 31)) q_10 hq_10) (va_cwS 2 hts gL_type_L_describe rfl rfl rfl (by decide +kernel) ⟨Nat.le_of_ble_eq_true rfl, Nat.le_of_ble_eq_true rfl⟩) hK hP hS hl.1 rfl rfl (Nat.le_of_ble_eq_true rfl) dL_type_136 ⟨Nat.zero_le _, Nat.zero_le _⟩ (fun H locs hP hS => ?_)
      exact hJ_139 q_10 w1 w3 _ _ _ hP hS (lv_sub hl [0, 1, 3] rfl) hs
  have hJ_104 : ∀ (v : gV) (w1 : Int32) (w2 : Int32) (w3 : Int32) (w4 : Int32) (H : Heap) (locs : List Loc) (ls : Array Slot), va_P D vwCl (gW cy ad v u) H → va_S (gA z0) s.heap H locs → lv_has ls 5 [(0, .ref (ad 0)), (1, .int w1), (2, .int w2), (3, .int w3), (4, .int w4)] → sL_type_104 n v w1 w2 w3 w4 = some (r0, v1) → W p l e (headSpec wsL_type ({ frames := 4, cells := 0, slots := 0, locals := 90 } : Room)).room s m ([.ref (ad 0), .int x1, .int x2] : List Value).toArray below meth c H locs 0 0 (MQ below (gQi D cy ad tL z0 v1 u r0) ([.ref (ad 0), .int x1, .int x2] : List Value).toArray s 0 0 (gA z0)) (F0 m 104 ls []) := by
    intro v w1 w2 w3 w4 H locs ls hP hS hl hs
    unfold sL_type_104 at hs
    refine lv_iload hx hb dL_type_104 (lv_at hl 4 rfl) ?_
    refine lv_iconst (v := 1) hx hb dL_type_106 (by decide) ?_
    refine lv_icmp_eq (tgt := 116) hx hb dL_type_107 (by decide) (fun hc => ?_) (fun hc => ?_)
    · have hs := g_t hs hc
      exact hJ_116 v w1 w2 w3 _ _ _ hP hS (lv_sub hl [0, 1, 2, 3] rfl) hs
    · have hs := g_f hs hc
      refine lv_iload hx hb dL_type_110 (lv_at hl 4 rfl) ?_
      refine lv_iconst (v := 3) hx hb dL_type_112 (by decide) ?_
      refine lv_icmp_le (tgt := 139) hx hb dL_type_113 (by decide) (fun hc => ?_) (fun hc => ?_)
      · have hs := g_t hs hc
        exact hJ_139 v w1 w3 _ _ _ hP hS (lv_sub hl [0, 1, 3] rfl) hs
      · have hs := g_f hs hc
        exact hJ_116 v w1 w2 w3 _ _ _ hP hS (lv_sub hl [0, 1, 2, 3] rfl) hs
  have hJ_99 : ∀ (v : gV) (w1 : Int32) (w2 : Int32) (w3 : Int32) (w4 : Int32) (H : Heap) (locs : List Loc) (ls : Array Slot), va_P D vwCl (gW cy ad v u) H → va_S (gA z0) s.heap H locs → lv_has ls 5 [(0, .ref (ad 0)), (1, .int w1), (2, .int w2), (3, .int w3), (4, .int w4)] → sL_type_99 n v w1 w2 w3 w4 = some (r0, v1) → W p l e (headSpec wsL_type ({ frames := 4, cells := 0, slots := 0, locals := 90 } : Room)).room s m ([.ref (ad 0), .int x1, .int x2] : List Value).toArray below meth c H locs 0 0 (MQ below (gQi D cy ad tL z0 v1 u r0) ([.ref (ad 0), .int x1, .int x2] : List Value).toArray s 0 0 (gA z0)) (F0 m 99 ls []) := by
    intro v w1 w2 w3 w4 H locs ls hP hS hl hs
    unfold sL_type_99 at hs
    refine lv_aload_n hx hb dL_type_99 rfl (lv_at hl 0 rfl) ?_
    refine lv_iload_n hx hb dL_type_100 rfl (lv_at hl 2 rfl) ?_
    refine g_bind hs (fun q_5 hq_5 hs => ?_)
    refine gCS_v (As := [.ref (ad 0), .int w2]) (rest := []) ⟨hx, hb, hml, hown, hts⟩ (cL_describe_c l D cy ad tL z0 hI n v u w2 q_5 hq_5) (va_cwS 2 hts gL_type_L_describe rfl rfl rfl (by decide +kernel) ⟨Nat.le_of_ble_eq_true rfl, Nat.le_of_ble_eq_true rfl⟩) hK hP hS hl.1 rfl rfl (Nat.le_of_ble_eq_true rfl) dL_type_101 ⟨Nat.zero_le _, Nat.zero_le _⟩ (fun H locs hP hS => ?_)
    exact hJ_104 q_5 w1 w2 w3 w4 _ _ _ hP hS (lv_sub hl [0, 1, 2, 3, 4] rfl) hs
  have hJ_87 : ∀ (v : gV) (w1 : Int32) (w2 : Int32) (w3 : Int32) (w4 : Int32) (H : Heap) (locs : List Loc) (ls : Array Slot), va_P D vwCl (gW cy ad v u) H → va_S (gA z0) s.heap H locs → lv_has ls 5 [(0, .ref (ad 0)), (1, .int w1), (2, .int w2), (3, .int w3), (4, .int w4)] → sL_type_87 n v w1 w2 w3 w4 = some (r0, v1) → W p l e (headSpec wsL_type ({ frames := 4, cells := 0, slots := 0, locals := 90 } : Room)).room s m ([.ref (ad 0), .int x1, .int x2] : List Value).toArray below meth c H locs 0 0 (MQ below (gQi D cy ad tL z0 v1 u r0) ([.ref (ad 0), .int x1, .int x2] : List Value).toArray s 0 0 (gA z0)) (F0 m 87 ls []) := by
    intro v w1 w2 w3 w4 H locs ls hP hS hl hs
    unfold sL_type_87 at hs
    refine lv_iload hx hb dL_type_87 (lv_at hl 4 rfl) ?_
    refine lv_iconst (v := 1) hx hb dL_type_89 (by decide) ?_
    refine lv_icmp_eq (tgt := 99) hx hb dL_type_90 (by decide) (fun hc => ?_) (fun hc => ?_)
    · have hs := g_t hs hc
      exact hJ_99 v w1 w2 w3 w4 _ _ _ hP hS (lv_sub hl [0, 1, 2, 3, 4] rfl) hs
    · have hs := g_f hs hc
      refine lv_iload hx hb dL_type_93 (lv_at hl 4 rfl) ?_
      refine lv_iconst (v := 3) hx hb dL_type_95 (by decide) ?_
      refine lv_icmp_le (tgt := 104) hx hb dL_type_96 (by decide) (fun hc => ?_) (fun hc => ?_)
      · have hs := g_t hs hc
        exact hJ_104 v w1 w2 w3 w4 _ _ _ hP hS (lv_sub hl [0, 1, 2, 3, 4] rfl) hs
      · have hs := g_f hs hc
        exact hJ_99 v w1 w2 w3 w4 _ _ _ hP hS (lv_sub hl [0, 1, 2, 3, 4] rfl) hs
  have hJ_77 : ∀ (v : gV) (w1 : Int32) (w2 : Int32) (w3 : Int32) (w4 : Int32) (H : Heap) (locs : List Loc) (ls : Array Slot), va_P D vwCl (gW cy ad v u) H → va_S (gA z0) s.heap H locs → lv_has ls 5 [(0, .ref (ad 0)), (1, .int w1), (2, .int w2), (3, .int w3), (4, .int w4)] → sL_type_77 n v w1 w2 w3 w4 = some (r0, v1) → W p l e (headSpec wsL_type ({ frames := 4, cells := 0, slots := 0, locals := 90 } : Room)).room s m ([.ref (ad 0), .int x1, .int x2] : List Value).toArray below meth c H locs 0 0 (MQ below (gQi D cy ad tL z0 v1 u r0) ([.ref (ad 0), .int x1, .int x2] : List Value).toArray s 0 0 (gA z0)) (F0 m 77 ls []) := by
    intro v w1 w2 w3 w4 H locs ls hP hS hl hs
    unfold sL_type_77 at hs
    refine lv_aload_n hx hb dL_type_77 rfl (lv_at hl 0 rfl) ?_
    refine lv_bipush (v := 20) hx hb dL_type_78 (by decide) ?_
    refine lv_iload hx hb dL_type_80 (lv_at hl 4 rfl) ?_
    refine lv_iadd hx hb dL_type_82 ?_
    refine g_bind hs (fun q_4 hq_4 hs => ?_)
    refine gCV_i (As := [.int (20 + w4)]) (rest := []) ⟨hx, hb, hml, hown, hts⟩ (cX5_appendWord_c l D cy ad tL z0 hI n v u (20 + w4) q_4.1 q_4.2 hq_4) (cwV 1 hts gL_type_X5_appendWord rfl rfl rfl (by decide +kernel) ⟨Nat.le_of_ble_eq_true rfl, Nat.le_of_ble_eq_true rfl⟩) hK hP hS (va_recv hK.1 hP (ci := 5) (q0 := 0) rfl (gW_5 kd0)) hl.1 rfl rfl (Nat.le_of_ble_eq_true rfl) dL_type_83 ⟨Nat.zero_le _, Nat.zero_le _⟩ (fun H locs hP hS => ?_)
    refine lv_pop hx hb dL_type_86 rfl ?_
    exact hJ_87 q_4.2 w1 w2 w3 w4 _ _ _ hP hS (lv_sub hl [0, 1, 2, 3, 4] rfl) hs
  have hJ_65 : ∀ (v : gV) (w1 : Int32) (w2 : Int32) (w3 : Int32) (w4 : Int32) (H : Heap) (locs : List Loc) (ls : Array Slot), va_P D vwCl (gW cy ad v u) H → va_S (gA z0) s.heap H locs → lv_has ls 5 [(0, .ref (ad 0)), (1, .int w1), (2, .int w2), (3, .int w3), (4, .int w4)] → sL_type_65 n v w1 w2 w3 w4 = some (r0, v1) → W p l e (headSpec wsL_type ({ frames := 4, cells := 0, slots := 0, locals := 90 } : Room)).room s m ([.ref (ad 0), .int x1, .int x2] : List Value).toArray below meth c H locs 0 0 (MQ below (gQi D cy ad tL z0 v1 u r0) ([.ref (ad 0), .int x1, .int x2] : List Value).toArray s 0 0 (gA z0)) (F0 m 65 ls []) := by
    intro v w1 w2 w3 w4 H locs ls hP hS hl hs
    unfold sL_type_65 at hs
    refine lv_iload hx hb dL_type_65 (lv_at hl 4 rfl) ?_
    refine lv_iconst (v := 2) hx hb dL_type_67 (by decide) ?_
    refine lv_icmp_eq (tgt := 77) hx hb dL_type_68 (by decide) (fun hc => ?_) (fun hc => ?_)
    · have hs := g_t hs hc
      exact hJ_77 v w1 w2 w3 w4 _ _ _ hP hS (lv_sub hl [0, 1, 2, 3, 4] rfl) hs
    · have hs := g_f hs hc
      refine lv_iload hx hb dL_type_71 (lv_at hl 4 rfl) ?_
      refine lv_iconst (v := 3) hx hb dL_type_73 (by decide) ?_
      refine lv_icmp_ne (tgt := 87) hx hb dL_type_74 (by decide) (fun hc => ?_) (fun hc => ?_)
      · have hs := g_f hs hc
        exact hJ_87 v w1 w2 w3 w4 _ _ _ hP hS (lv_sub hl [0, 1, 2, 3, 4] rfl) hs
      · have hs := g_t hs hc
        exact hJ_77 v w1 w2 w3 w4 _ _ _ hP hS (lv_sub hl [0, 1, 2, 3, 4] rfl) hs
  have hJ_52 : ∀ (v : gV) (w1 : Int32) (w2 : Int32) (w3 : Int32) (w4 : Int32) (H : Heap) (locs : List Loc) (ls : Array Slot), va_P D vwCl (gW cy ad v u) H → va_S (gA z0) s.heap H locs → lv_has ls 5 [(0, .ref (ad 0)), (1, .int w1), (2, .int w2), (3, .int w3), (4, .int w4)] → sL_type_52 n v w1 w2 w3 w4 = some (r0, v1) → W p l e (headSpec wsL_type ({ frames := 4, cells := 0, slots := 0, locals := 90 } : Room)).room s m ([.ref (ad 0), .int x1, .int x2] : List Value).toArray below meth c H locs 0 0 (MQ below (gQi D cy ad tL z0 v1 u r0) ([.ref (ad 0), .int x1, .int x2] : List Value).toArray s 0 0 (gA z0)) (F0 m 52 ls []) := by
    intro v w1 w2 w3 w4 H locs ls hP hS hl hs
    unfold sL_type_52 at hs
    refine lv_iload hx hb dL_type_52 (lv_at hl 4 rfl) ?_
    refine lv_iconst (v := 1) hx hb dL_type_54 (by decide) ?_
    refine lv_icmp_ne (tgt := 65) hx hb dL_type_55 (by decide) (fun hc => ?_) (fun hc => ?_)
    · have hs := g_f hs hc
      exact hJ_65 v w1 w2 w3 w4 _ _ _ hP hS (lv_sub hl [0, 1, 2, 3, 4] rfl) hs
    · have hs := g_t hs hc
      refine lv_aload_n hx hb dL_type_58 rfl (lv_at hl 0 rfl) ?_
      refine lv_bipush (v := 18) hx hb dL_type_59 (by decide) ?_
      refine g_bind hs (fun q_11 hq_11 hs => ?_)
      refine gCV_i (As := [.int 18]) (rest := []) ⟨hx, hb, hml, hown, hts⟩ (cX5_appendWord_c l D cy ad tL z0 hI n v u 18 q_11.1 q_11.2 hq_11) (cwV 1 hts gL_type_X5_appendWord rfl rfl rfl (by decide +kernel) ⟨Nat.le_of_ble_eq_true rfl, Nat.le_of_ble_eq_true rfl⟩) hK hP hS (va_recv hK.1 hP (ci := 5) (q0 := 0) rfl (gW_5 kd0)) hl.1 rfl rfl (Nat.le_of_ble_eq_true rfl) dL_type_61 ⟨Nat.zero_le _, Nat.zero_le _⟩ (fun H locs hP hS => ?_)
      refine lv_pop hx hb dL_type_64 rfl ?_
      exact hJ_65 q_11.2 w1 w2 w3 w4 _ _ _ hP hS (lv_sub hl [0, 1, 2, 3, 4] rfl) hs
  unfold sL_type at hs
  refine lv_iload_n hx hb dL_type_0 rfl (lv_at hl 1 rfl) ?_
  refine lv_iconst (v := 4) hx hb dL_type_1 (by decide) ?_
  refine lv_ishr hx hb dL_type_2 ?_
  refine lv_bipush (v := 8) hx hb dL_type_3 (by decide) ?_
  refine g_bind hs (fun q_1 hq_1 hs => ?_)
  refine gCS_i (As := [.int (x1 >>> (4 &&& 31)), .int 8]) (rest := []) ⟨hx, hb, hml, hown, hts⟩ (cL_low_c l D cy ad tL z0 hI v u (x1 >>> (4 &&& 31)) 8 q_1 hq_1) (va_cwS 2 hts gL_type_L_low rfl rfl rfl (by decide +kernel) ⟨Nat.le_of_ble_eq_true rfl, Nat.le_of_ble_eq_true rfl⟩) hK hP hS hl.1 rfl rfl (Nat.le_of_ble_eq_true rfl) dL_type_5 ⟨Nat.zero_le _, Nat.zero_le _⟩ (fun H locs hP hS => ?_)
  refine lv_bipush (v := 7) hx hb dL_type_8 (by decide) ?_
  refine lv_irem hx hb dL_type_10 (by decide) ?_
  refine lv_istore_n (lv' := [(3, .int (q_1 - q_1 / 7 * 7)), (0, .ref (ad 0)), (1, .int x1), (2, .int x2)]) hx hb dL_type_11 rfl hl (by decide) rfl (fun ls hl => ?_)
  refine lv_aload_n hx hb dL_type_12 rfl (lv_at hl 1 rfl) ?_
  refine lv_bipush (v := 10) hx hb dL_type_13 (by decide) ?_
  refine lv_iload_n hx hb dL_type_15 rfl (lv_at hl 0 rfl) ?_
  refine lv_iadd hx hb dL_type_16 ?_
  refine g_bind hs (fun q_2 hq_2 hs => ?_)
  refine gCV_i (As := [.int (10 + (q_1 - q_1 / 7 * 7))]) (rest := []) ⟨hx, hb, hml, hown, hts⟩ (cX5_appendWord_c l D cy ad tL z0 hI n v u (10 + (q_1 - q_1 / 7 * 7)) q_2.1 q_2.2 hq_2) (cwV 1 hts gL_type_X5_appendWord rfl rfl rfl (by decide +kernel) ⟨Nat.le_of_ble_eq_true rfl, Nat.le_of_ble_eq_true rfl⟩) hK hP hS (va_recv hK.1 hP (ci := 5) (q0 := 0) rfl (gW_5 kd0)) hl.1 rfl rfl (Nat.le_of_ble_eq_true rfl) dL_type_17 ⟨Nat.zero_le _, Nat.zero_le _⟩ (fun H locs hP hS => ?_)
  refine lv_pop hx hb dL_type_20 rfl ?_
  refine lv_iload_n hx hb dL_type_21 rfl (lv_at hl 0 rfl) ?_
  refine lv_iconst (v := 4) hx hb dL_type_22 (by decide) ?_
  refine lv_icmp_le (tgt := 28) hx hb dL_type_23 (by decide) (fun hc => ?_) (fun hc => ?_)
  · have hs := g_t hs hc
    refine lv_iload_n hx hb dL_type_28 rfl (lv_at hl 2 rfl) ?_
    refine lv_bipush (v := 8) hx hb dL_type_29 (by decide) ?_
    refine lv_ishr hx hb dL_type_31 ?_
    refine lv_bipush (v := 8) hx hb dL_type_32 (by decide) ?_
    refine g_bind hs (fun q_3 hq_3 hs => ?_)
    refine gCS_i (As := [.int (x1 >>> (8 &&& 31)), .int 8]) (rest := []) ⟨hx, hb, hml, hown, hts⟩ (cL_low_c l D cy ad tL z0 hI q_2.2 u (x1 >>> (8 &&& 31)) 8 q_3 hq_3) (va_cwS 2 hts gL_type_L_low rfl rfl rfl (by decide +kernel) ⟨Nat.le_of_ble_eq_true rfl, Nat.le_of_ble_eq_true rfl⟩) hK hP hS hl.1 rfl rfl (Nat.le_of_ble_eq_true rfl) dL_type_34 ⟨Nat.zero_le _, Nat.zero_le _⟩ (fun H locs hP hS => ?_)
    refine lv_istore (lv' := [(4, .int q_3), (3, .int (q_1 - q_1 / 7 * 7)), (0, .ref (ad 0)), (1, .int x1), (2, .int x2)]) hx hb dL_type_37 hl (by decide) rfl (fun ls hl => ?_)
    refine lv_iload hx hb dL_type_39 (lv_at hl 0 rfl) ?_
    refine lv_iconst (v := 2) hx hb dL_type_41 (by decide) ?_
    refine lv_icmp_ge (tgt := 52) hx hb dL_type_42 (by decide) (fun hc => ?_) (fun hc => ?_)
    · have hs := g_t hs hc
      exact hJ_52 q_2.2 x1 x2 (q_1 - q_1 / 7 * 7) q_3 _ _ _ hP hS (lv_sub hl [2, 3, 4, 1, 0] rfl) hs
    · have hs := g_f hs hc
      refine lv_aload_n hx hb dL_type_45 rfl (lv_at hl 2 rfl) ?_
      refine lv_bipush (v := 17) hx hb dL_type_46 (by decide) ?_
      refine g_bind hs (fun q_12 hq_12 hs => ?_)
      refine gCV_i (As := [.int 17]) (rest := []) ⟨hx, hb, hml, hown, hts⟩ (cX5_appendWord_c l D cy ad tL z0 hI n q_2.2 u 17 q_12.1 q_12.2 hq_12) (cwV 1 hts gL_type_X5_appendWord rfl rfl rfl (by decide +kernel) ⟨Nat.le_of_ble_eq_true rfl, Nat.le_of_ble_eq_true rfl⟩) hK hP hS (va_recv hK.1 hP (ci := 5) (q0 := 0) rfl (gW_5 kd0)) hl.1 rfl rfl (Nat.le_of_ble_eq_true rfl) dL_type_48 ⟨Nat.zero_le _, Nat.zero_le _⟩ (fun H locs hP hS => ?_)
      refine lv_pop hx hb dL_type_51 rfl ?_
      exact hJ_52 q_12.2 x1 x2 (q_1 - q_1 / 7 * 7) q_3 _ _ _ hP hS (lv_sub hl [2, 3, 4, 1, 0] rfl) hs
  · have hs := g_f hs hc
    refine lv_iload_n hx hb dL_type_26 rfl (lv_at hl 0 rfl) ?_
    exact gRet_i hx hb hr hlocks hK hP hS (g_some2 hs) dL_type_27
set_option maxHeartbeats 4000000 in
set_option maxRecDepth 100000 in
theorem cL_size_c (l : Launch) (D : va_G) (cy : Nat → ClassId) (ad : Nat → Nat) (tL z0 : Nat) (hI : gI z0 ad) (n : Nat) (v : gV) (u : Int64) (x0 : Int32) (r0 : Int32) (hs : sL_size n x0 = some r0) : Met l yL_size wsL_size ({ frames := 0, cells := 0, slots := 0, locals := 0 } : Room) (gPc D cy ad tL z0 v u [.int x0]) (gQi D cy ad tL z0 v u r0) 0 0 (gA z0) := by
  refine Met.ofW (cc := cL_size) (maxL := 3) (ret := (some .int)) (by decide) rfl ?_
  intro p e s m args below meth c s₁ B hml hv
  obtain ⟨rfl, hB0⟩ := hv
  have hP : va_P D vwCl (gW cy ad v u) s.heap := hB0.1
  have hK : gK D cy tL z0 s s.heap := hB0.2
  have hx := B.exec
  have hb := B.bytes
  have hr := B.returns
  have hts := atoms_spec (ws := wsL_size) B.pre
  have hown : s.vm.findClass RL = some m.cls := findClass_of_methodNamed B.named
  have hlocks := B.notSynchronized
  have hS : va_S (gA z0) s.heap s.heap [] := va_S.rf
  have hl := lv_entry ([.int x0]) (n := 3) (Nat.le_of_ble_eq_true rfl)
  rw [lg_entry_eq]
  generalize (lg_sl ([.int x0]) ++ List.replicate (3 - (lg_sl ([.int x0])).length) Slot.unset).toArray = ls at hl ⊢
  have hl : lv_has ls 3 [(0, .int x0)] := hl
  clear hB0
  have hL_4 : ∀ (k : Nat), ∀ (w0 : Int32) (w1 : Int32) (w2 : Int32) (H : Heap) (locs : List Loc) (ls : Array Slot), va_P D vwCl (gW cy ad v u) H → va_S (gA z0) s.heap H locs → lv_has ls 3 [(0, .int w0), (1, .int w1), (2, .int w2)] → sL_size_4 n k w0 w1 w2 = some r0 → W p l e (headSpec wsL_size ({ frames := 0, cells := 0, slots := 0, locals := 0 } : Room)).room s m ([.int x0] : List Value).toArray below meth c H locs 0 0 (MQ below (gQi D cy ad tL z0 v u r0) ([.int x0] : List Value).toArray s 0 0 (gA z0)) (F0 m 4 ls []) := by
    intro k
    induction k with
    | zero =>
      intro w0 w1 w2 H locs ls hP hS hl hs
      exact g_none hs
    | succ k ih =>
      intro w0 w1 w2 H locs ls hP hS hl hs
      rw [sL_size_4] at hs
      refine lv_iload_n hx hb dL_size_4 rfl (lv_at hl 2 rfl) ?_
      refine lv_bipush (v := 12) hx hb dL_size_5 (by decide) ?_
      refine lv_icmp_ge (tgt := 24) hx hb dL_size_7 (by decide) (fun hc => ?_) (fun hc => ?_)
      · have hs := g_t hs hc
        refine lv_iload_n hx hb dL_size_24 rfl (lv_at hl 1 rfl) ?_
        exact gRet_i hx hb hr hlocks hK hP hS ⟨g_some hs, rfl⟩ dL_size_25
      · have hs := g_f hs hc
        refine lv_iload_n hx hb dL_size_10 rfl (lv_at hl 1 rfl) ?_
        refine lv_iload_n hx hb dL_size_11 rfl (lv_at hl 0 rfl) ?_
        refine lv_iload_n hx hb dL_size_12 rfl (lv_at hl 2 rfl) ?_
        refine lv_ishr hx hb dL_size_13 ?_
        refine lv_iconst (v := 1) hx hb dL_size_14 (by decide) ?_
        refine lv_iand hx hb dL_size_15 ?_
        refine lv_iadd hx hb dL_size_16 ?_
        refine lv_istore_n (lv' := [(1, .int (w1 + ((w0 >>> (w2 &&& 31)) &&& 1))), (0, .int w0), (2, .int w2)]) hx hb dL_size_17 rfl hl (by decide) rfl (fun ls hl => ?_)
        refine lv_iinc (v := w2 + 1) (lv' := [(2, .int (w2 + 1)), (1, .int (w1 + ((w0 >>> (w2 &&& 31)) &&& 1))), (0, .int w0)]) hx hb dL_size_18 hl (k := 2) rfl rfl (by decide) rfl (fun ls hl => ?_)
        refine lv_goto (tgt := 4) hx hb dL_size_21 (by decide) ?_
        exact ih w0 (w1 + ((w0 >>> (w2 &&& 31)) &&& 1)) (w2 + 1) _ _ _ hP hS (lv_sub hl [2, 1, 0] rfl) hs
  unfold sL_size at hs
  refine lv_iconst (v := 0) hx hb dL_size_0 (by decide) ?_
  refine lv_istore_n (lv' := [(1, .int 0), (0, .int x0)]) hx hb dL_size_1 rfl hl (by decide) rfl (fun ls hl => ?_)
  refine lv_iconst (v := 0) hx hb dL_size_2 (by decide) ?_
  refine lv_istore_n (lv' := [(2, .int 0), (1, .int 0), (0, .int x0)]) hx hb dL_size_3 rfl hl (by decide) rfl (fun ls hl => ?_)
  exact hL_4 n x0 0 0 _ _ _ hP hS (lv_sub hl [2, 1, 0] rfl) hs
set_option maxHeartbeats 4000000 in
set_option maxRecDepth 100000 in
theorem cL_world_c (l : Launch) (D : va_G) (cy : Nat → ClassId) (ad : Nat → Nat) (tL z0 : Nat) (hI : gI z0 ad) (n : Nat) (v : gV) (u : Int64) (r0 : Int64) (hs : sL_world n v = some r0) : Met l yL_world wsL_world ({ frames := 2, cells := 0, slots := 0, locals := 42 } : Room) (gPc D cy ad tL z0 v u [.ref (ad 0)]) (gQl D cy ad tL z0 v u r0) 0 0 (gA z0) := by
  refine Met.ofW (cc := cL_world) (maxL := 4) (ret := (some .long)) (by decide) rfl ?_
  intro p e s m args below meth c s₁ B hml hv
  obtain ⟨rfl, hB0⟩ := hv
  have hP : va_P D vwCl (gW cy ad v u) s.heap := hB0.1
  have hK : gK D cy tL z0 s s.heap := hB0.2
  have hx := B.exec
  have hb := B.bytes
  have hr := B.returns
  have hts := atoms_spec (ws := wsL_world) B.pre
  have hown : s.vm.findClass RL = some m.cls := findClass_of_methodNamed B.named
  have hlocks := B.notSynchronized
  have hS : va_S (gA z0) s.heap s.heap [] := va_S.rf
  have hl := lv_entry ([.ref (ad 0)]) (n := 4) (Nat.le_of_ble_eq_true rfl)
  rw [lg_entry_eq]
  generalize (lg_sl ([.ref (ad 0)]) ++ List.replicate (4 - (lg_sl ([.ref (ad 0)])).length) Slot.unset).toArray = ls at hl ⊢
  have hl : lv_has ls 4 [(0, .ref (ad 0))] := hl
  have k51 := hts (.constantLong RL 51 (37)) (by decide +kernel)
  clear hB0
  have hL_8 : ∀ (k : Nat), ∀ (w1 : Int64) (w3 : Int32) (H : Heap) (locs : List Loc) (ls : Array Slot), va_P D vwCl (gW cy ad v u) H → va_S (gA z0) s.heap H locs → lv_has ls 4 [(0, .ref (ad 0)), (1, .long w1), (3, .int w3)] → sL_world_8 n k v w1 w3 = some r0 → W p l e (headSpec wsL_world ({ frames := 2, cells := 0, slots := 0, locals := 42 } : Room)).room s m ([.ref (ad 0)] : List Value).toArray below meth c H locs 0 0 (MQ below (gQl D cy ad tL z0 v u r0) ([.ref (ad 0)] : List Value).toArray s 0 0 (gA z0)) (F0 m 8 ls []) := by
    intro k
    induction k with
    | zero =>
      intro w1 w3 H locs ls hP hS hl hs
      exact g_none hs
    | succ k ih =>
      intro w1 w3 H locs ls hP hS hl hs
      rw [sL_world_8] at hs
      refine lv_iload_n hx hb dL_world_8 rfl (lv_at hl 2 rfl) ?_
      refine lv_aload_n hx hb dL_world_9 rfl (lv_at hl 0 rfl) ?_
      refine g_bind hs (fun q_2 hq_2 hs => ?_)
      refine gCV_i (As := []) (rest := [.int w3]) ⟨hx, hb, hml, hown, hts⟩ (cX5_objects_c l D cy ad tL z0 hI v u q_2 hq_2) (cwV 0 hts gL_world_X5_objects rfl rfl rfl (by decide +kernel) ⟨Nat.le_of_ble_eq_true rfl, Nat.le_of_ble_eq_true rfl⟩) hK hP hS (va_recv hK.1 hP (ci := 5) (q0 := 0) rfl (gW_5 kd0)) hl.1 rfl rfl (Nat.le_of_ble_eq_true rfl) dL_world_10 ⟨Nat.zero_le _, Nat.zero_le _⟩ (fun H locs hP hS => ?_)
      refine lv_icmp_ge (tgt := 52) hx hb dL_world_13 (by decide) (fun hc => ?_) (fun hc => ?_)
      · have hs := g_t hs hc
        refine lv_lload_n hx hb dL_world_52 rfl (lv_at hl 1 rfl) ?_
        exact gRet_l hx hb hr hlocks hK hP hS ⟨g_some hs, rfl⟩ dL_world_53
      · have hs := g_f hs hc
        refine lv_lload_n hx hb dL_world_16 rfl (lv_at hl 1 rfl) ?_
        refine lv_ldc2 hx hb hown k51 dL_world_17 ?_
        refine lv_lmul hx hb dL_world_20 ?_
        refine lv_iconst (v := 2) hx hb dL_world_21 (by decide) ?_
        refine lv_aload_n hx hb dL_world_22 rfl (lv_at hl 0 rfl) ?_
        refine lv_iload_n hx hb dL_world_23 rfl (lv_at hl 2 rfl) ?_
        refine g_bind hs (fun q_3 hq_3 hs => ?_)
        refine gCV_i (As := [.int w3]) (rest := [.int 2, .long (w1 * 37)]) ⟨hx, hb, hml, hown, hts⟩ (cX5_place_c l D cy ad tL z0 hI v u w3 q_3 hq_3) (cwV 1 hts gL_world_X5_place rfl rfl rfl (by decide +kernel) ⟨Nat.le_of_ble_eq_true rfl, Nat.le_of_ble_eq_true rfl⟩) hK hP hS (va_recv hK.1 hP (ci := 5) (q0 := 0) rfl (gW_5 kd0)) hl.1 rfl rfl (Nat.le_of_ble_eq_true rfl) dL_world_24 ⟨Nat.zero_le _, Nat.zero_le _⟩ (fun H locs hP hS => ?_)
        refine lv_imul hx hb dL_world_27 ?_
        refine lv_i2l hx hb dL_world_28 rfl ?_
        refine lv_ladd hx hb dL_world_29 ?_
        refine lv_aload_n hx hb dL_world_30 rfl (lv_at hl 0 rfl) ?_
        refine lv_iload_n hx hb dL_world_31 rfl (lv_at hl 2 rfl) ?_
        refine g_bind hs (fun q_4 hq_4 hs => ?_)
        refine gCV_i (As := [.int w3]) (rest := [.long ((w1 * 37) + ((2 * q_3).toInt64))]) ⟨hx, hb, hml, hown, hts⟩ (cX5_isOpen_c l D cy ad tL z0 hI v u w3 q_4 hq_4) (cwV 1 hts gL_world_X5_isOpen rfl rfl rfl (by decide +kernel) ⟨Nat.le_of_ble_eq_true rfl, Nat.le_of_ble_eq_true rfl⟩) hK hP hS (va_recv hK.1 hP (ci := 5) (q0 := 0) rfl (gW_5 kd0)) hl.1 rfl rfl (Nat.le_of_ble_eq_true rfl) dL_world_32 ⟨Nat.zero_le _, Nat.zero_le _⟩ (fun H locs hP hS => ?_)
        refine lv_if_eq (tgt := 42) hx hb dL_world_35 (by decide) (fun hc => ?_) (fun hc => ?_)
        · have hs := g_t hs hc
          refine lv_iconst (v := 0) hx hb dL_world_42 (by decide) ?_
          refine lv_i2l hx hb dL_world_43 rfl ?_
          refine lv_ladd hx hb dL_world_44 ?_
          refine lv_lstore_n (lv' := [(1, .long (((w1 * 37) + ((2 * q_3).toInt64)) + ((0 : Int32).toInt64))), (0, .ref (ad 0)), (3, .int w3)]) hx hb dL_world_45 rfl hl (by decide) rfl (fun ls hl => ?_)
          refine lv_iinc (v := w3 + 1) (lv' := [(3, .int (w3 + 1)), (1, .long (((w1 * 37) + ((2 * q_3).toInt64)) + ((0 : Int32).toInt64))), (0, .ref (ad 0))]) hx hb dL_world_46 hl (k := 2) rfl rfl (by decide) rfl (fun ls hl => ?_)
          refine lv_goto (tgt := 8) hx hb dL_world_49 (by decide) ?_
          exact ih (((w1 * 37) + ((2 * q_3).toInt64)) + ((0 : Int32).toInt64)) (w3 + 1) _ _ _ hP hS (lv_sub hl [2, 1, 0] rfl) hs
        · have hs := g_f hs hc
          refine lv_iconst (v := 1) hx hb dL_world_38 (by decide) ?_
          refine lv_goto (tgt := 43) hx hb dL_world_39 (by decide) ?_
          refine lv_i2l hx hb dL_world_43 rfl ?_
          refine lv_ladd hx hb dL_world_44 ?_
          refine lv_lstore_n (lv' := [(1, .long (((w1 * 37) + ((2 * q_3).toInt64)) + ((1 : Int32).toInt64))), (0, .ref (ad 0)), (3, .int w3)]) hx hb dL_world_45 rfl hl (by decide) rfl (fun ls hl => ?_)
          refine lv_iinc (v := w3 + 1) (lv' := [(3, .int (w3 + 1)), (1, .long (((w1 * 37) + ((2 * q_3).toInt64)) + ((1 : Int32).toInt64))), (0, .ref (ad 0))]) hx hb dL_world_46 hl (k := 2) rfl rfl (by decide) rfl (fun ls hl => ?_)
          refine lv_goto (tgt := 8) hx hb dL_world_49 (by decide) ?_
          exact ih (((w1 * 37) + ((2 * q_3).toInt64)) + ((1 : Int32).toInt64)) (w3 + 1) _ _ _ hP hS (lv_sub hl [2, 1, 0] rfl) hs
  unfold sL_world at hs
  refine lv_aload_n hx hb dL_world_0 rfl (lv_at hl 0 rfl) ?_
  refine g_bind hs (fun q_1 hq_1 hs => ?_)
  refine gCV_i (As := []) (rest := []) ⟨hx, hb, hml, hown, hts⟩ (cX5_room_c l D cy ad tL z0 hI v u q_1 hq_1) (cwV 0 hts gL_world_X5_room rfl rfl rfl (by decide +kernel) ⟨Nat.le_of_ble_eq_true rfl, Nat.le_of_ble_eq_true rfl⟩) hK hP hS (va_recv hK.1 hP (ci := 5) (q0 := 0) rfl (gW_5 kd0)) hl.1 rfl rfl (Nat.le_of_ble_eq_true rfl) dL_world_1 ⟨Nat.zero_le _, Nat.zero_le _⟩ (fun H locs hP hS => ?_)
  refine lv_i2l hx hb dL_world_4 rfl ?_
  refine lv_lstore_n (lv' := [(1, .long q_1.toInt64), (0, .ref (ad 0))]) hx hb dL_world_5 rfl hl (by decide) rfl (fun ls hl => ?_)
  refine lv_iconst (v := 0) hx hb dL_world_6 (by decide) ?_
  refine lv_istore_n (lv' := [(3, .int 0), (1, .long q_1.toInt64), (0, .ref (ad 0))]) hx hb dL_world_7 rfl hl (by decide) rfl (fun ls hl => ?_)
  exact hL_8 n q_1.toInt64 0 _ _ _ hP hS (lv_sub hl [2, 1, 0] rfl) hs
set_option maxHeartbeats 4000000 in
set_option maxRecDepth 100000 in
theorem cL_isWorldSo_c (l : Launch) (D : va_G) (cy : Nat → ClassId) (ad : Nat → Nat) (tL z0 : Nat) (hI : gI z0 ad) (n : Nat) (v : gV) (u : Int64) (r0 : Int32) (hs : sL_isWorldSo n v = some r0) : Met l yL_isWorldSo wsL_isWorldSo ({ frames := 4, cells := 0, slots := 0, locals := 89 } : Room) (gPc D cy ad tL z0 v u [.ref (ad 0)]) (gQi D cy ad tL z0 v u r0) 0 0 (gA z0) := by
  refine Met.ofW (cc := cL_isWorldSo) (maxL := 9) (ret := (some .boolean)) (by decide) rfl ?_
  intro p e s m args below meth c s₁ B hml hv
  obtain ⟨rfl, hB0⟩ := hv
  have hP : va_P D vwCl (gW cy ad v u) s.heap := hB0.1
  have hK : gK D cy tL z0 s s.heap := hB0.2
  have hx := B.exec
  have hb := B.bytes
  have hr := B.returns
  have hts := atoms_spec (ws := wsL_isWorldSo) B.pre
  have hown : s.vm.findClass RL = some m.cls := findClass_of_methodNamed B.named
  have hlocks := B.notSynchronized
  have hS : va_S (gA z0) s.heap s.heap [] := va_S.rf
  have hl := lv_entry ([.ref (ad 0)]) (n := 9) (Nat.le_of_ble_eq_true rfl)
  rw [lg_entry_eq]
  generalize (lg_sl ([.ref (ad 0)]) ++ List.replicate (9 - (lg_sl ([.ref (ad 0)])).length) Slot.unset).toArray = ls at hl ⊢
  have hl : lv_has ls 9 [(0, .ref (ad 0))] := hl
  clear hB0
  have hJ_440 : ∀ (t0 : Int32) (t1 : Int32) (H : Heap) (locs : List Loc) (ls : Array Slot), va_P D vwCl (gW cy ad v u) H → va_S (gA z0) s.heap H locs → lv_has ls 9 [] → sL_isWorldSo_440 n v t0 t1 = some r0 → W p l e (headSpec wsL_isWorldSo ({ frames := 4, cells := 0, slots := 0, locals := 89 } : Room)).room s m ([.ref (ad 0)] : List Value).toArray below meth c H locs 0 0 (MQ below (gQi D cy ad tL z0 v u r0) ([.ref (ad 0)] : List Value).toArray s 0 0 (gA z0)) (F0 m 440 ls [.int t1, .int t0]) := by
    intro t0 t1 H locs ls hP hS hl hs
    unfold sL_isWorldSo_440 at hs
    refine lv_icmp_ge (tgt := 447) hx hb dL_isWorldSo_440 (by decide) (fun hc => ?_) (fun hc => ?_)
    · have hs := g_t hs hc
      refine lv_iconst (v := 0) hx hb dL_isWorldSo_447 (by decide) ?_
      exact gRet_z hx hb hr hlocks rfl hK hP hS ⟨g_some hs, rfl⟩ dL_isWorldSo_448
    · have hs := g_f hs hc
      refine lv_iconst (v := 1) hx hb dL_isWorldSo_443 (by decide) ?_
      refine lv_goto (tgt := 448) hx hb dL_isWorldSo_444 (by decide) ?_
      exact gRet_z hx hb hr hlocks rfl hK hP hS ⟨g_some hs, rfl⟩ dL_isWorldSo_448
  have hJ_375 : ∀ (w1 : Int32) (t0 : Int32) (H : Heap) (locs : List Loc) (ls : Array Slot), va_P D vwCl (gW cy ad v u) H → va_S (gA z0) s.heap H locs → lv_has ls 9 [(0, .ref (ad 0)), (1, .int w1)] → sL_isWorldSo_375 n v w1 t0 = some r0 → W p l e (headSpec wsL_isWorldSo ({ frames := 4, cells := 0, slots := 0, locals := 89 } : Room)).room s m ([.ref (ad 0)] : List Value).toArray below meth c H locs 0 0 (MQ below (gQi D cy ad tL z0 v u r0) ([.ref (ad 0)] : List Value).toArray s 0 0 (gA z0)) (F0 m 375 ls [.int t0]) := by
    intro w1 t0 H locs ls hP hS hl hs
    unfold sL_isWorldSo_375 at hs
    refine lv_istore_n (lv' := [(3, .int t0), (0, .ref (ad 0)), (1, .int w1)]) hx hb dL_isWorldSo_375 rfl hl (by decide) rfl (fun ls hl => ?_)
    refine lv_iload_n hx hb dL_isWorldSo_376 rfl (lv_at hl 0 rfl) ?_
    refine lv_if_eq (tgt := 447) hx hb dL_isWorldSo_377 (by decide) (fun hc => ?_) (fun hc => ?_)
    · have hs := g_t hs hc
      refine lv_iconst (v := 0) hx hb dL_isWorldSo_447 (by decide) ?_
      exact gRet_z hx hb hr hlocks rfl hK hP hS ⟨g_some hs, rfl⟩ dL_isWorldSo_448
    · have hs := g_f hs hc
      refine lv_aload_n hx hb dL_isWorldSo_380 rfl (lv_at hl 1 rfl) ?_
      refine g_bind hs (fun q_6 hq_6 hs => ?_)
      refine gCV_i (As := []) (rest := []) ⟨hx, hb, hml, hown, hts⟩ (cX5_them_c l D cy ad tL z0 hI v u q_6 hq_6) (cwV 0 hts gL_isWorldSo_X5_them rfl rfl rfl (by decide +kernel) ⟨Nat.le_of_ble_eq_true rfl, Nat.le_of_ble_eq_true rfl⟩) hK hP hS (va_recv hK.1 hP (ci := 5) (q0 := 0) rfl (gW_5 kd0)) hl.1 rfl rfl (Nat.le_of_ble_eq_true rfl) dL_isWorldSo_381 ⟨Nat.zero_le _, Nat.zero_le _⟩ (fun H locs hP hS => ?_)
      refine g_bind hs (fun q_7 hq_7 hs => ?_)
      refine gCS_i (As := [.int q_6]) (rest := []) ⟨hx, hb, hml, hown, hts⟩ (cL_size_c l D cy ad tL z0 hI n v u q_6 q_7 hq_7) (va_cwS 1 hts gL_isWorldSo_L_size rfl rfl rfl (by decide +kernel) ⟨Nat.le_of_ble_eq_true rfl, Nat.le_of_ble_eq_true rfl⟩) hK hP hS hl.1 rfl rfl (Nat.le_of_ble_eq_true rfl) dL_isWorldSo_384 ⟨Nat.zero_le _, Nat.zero_le _⟩ (fun H locs hP hS => ?_)
      refine lv_iconst (v := 1) hx hb dL_isWorldSo_387 (by decide) ?_
      refine lv_icmp_eq (tgt := 447) hx hb dL_isWorldSo_388 (by decide) (fun hc => ?_) (fun hc => ?_)
      · have hs := g_t hs hc
        refine lv_iconst (v := 0) hx hb dL_isWorldSo_447 (by decide) ?_
        exact gRet_z hx hb hr hlocks rfl hK hP hS ⟨g_some hs, rfl⟩ dL_isWorldSo_448
      · have hs := g_f hs hc
        refine lv_aload_n hx hb dL_isWorldSo_391 rfl (lv_at hl 1 rfl) ?_
        refine g_bind hs (fun q_8 hq_8 hs => ?_)
        refine gCV_i (As := []) (rest := []) ⟨hx, hb, hml, hown, hts⟩ (cX5_candidates_c l D cy ad tL z0 hI v u q_8 hq_8) (cwV 0 hts gL_isWorldSo_X5_candidates rfl rfl rfl (by decide +kernel) ⟨Nat.le_of_ble_eq_true rfl, Nat.le_of_ble_eq_true rfl⟩) hK hP hS (va_recv hK.1 hP (ci := 5) (q0 := 0) rfl (gW_5 kd0)) hl.1 rfl rfl (Nat.le_of_ble_eq_true rfl) dL_isWorldSo_392 ⟨Nat.zero_le _, Nat.zero_le _⟩ (fun H locs hP hS => ?_)
        refine lv_iload_n hx hb dL_isWorldSo_395 rfl (lv_at hl 2 rfl) ?_
        refine lv_iconst (v := (-1)) hx hb dL_isWorldSo_396 (by decide) ?_
        refine lv_ixor hx hb dL_isWorldSo_397 ?_
        refine lv_iand hx hb dL_isWorldSo_398 ?_
        refine lv_if_ne (tgt := 447) hx hb dL_isWorldSo_399 (by decide) (fun hc => ?_) (fun hc => ?_)
        · have hs := g_f hs hc
          refine lv_iconst (v := 0) hx hb dL_isWorldSo_447 (by decide) ?_
          exact gRet_z hx hb hr hlocks rfl hK hP hS ⟨g_some hs, rfl⟩ dL_isWorldSo_448
        · have hs := g_t hs hc
          refine lv_aload_n hx hb dL_isWorldSo_402 rfl (lv_at hl 1 rfl) ?_
          refine g_bind hs (fun q_9 hq_9 hs => ?_)
          refine gCV_i (As := []) (rest := []) ⟨hx, hb, hml, hown, hts⟩ (cX5_candidates_c l D cy ad tL z0 hI v u q_9 hq_9) (cwV 0 hts gL_isWorldSo_X5_candidates rfl rfl rfl (by decide +kernel) ⟨Nat.le_of_ble_eq_true rfl, Nat.le_of_ble_eq_true rfl⟩) hK hP hS (va_recv hK.1 hP (ci := 5) (q0 := 0) rfl (gW_5 kd0)) hl.1 rfl rfl (Nat.le_of_ble_eq_true rfl) dL_isWorldSo_403 ⟨Nat.zero_le _, Nat.zero_le _⟩ (fun H locs hP hS => ?_)
          refine g_bind hs (fun q_10 hq_10 hs => ?_)
          refine gCS_i (As := [.int q_9]) (rest := []) ⟨hx, hb, hml, hown, hts⟩ (cL_size_c l D cy ad tL z0 hI n v u q_9 q_10 hq_10) (va_cwS 1 hts gL_isWorldSo_L_size rfl rfl rfl (by decide +kernel) ⟨Nat.le_of_ble_eq_true rfl, Nat.le_of_ble_eq_true rfl⟩) hK hP hS hl.1 rfl rfl (Nat.le_of_ble_eq_true rfl) dL_isWorldSo_406 ⟨Nat.zero_le _, Nat.zero_le _⟩ (fun H locs hP hS => ?_)
          refine lv_iconst (v := 1) hx hb dL_isWorldSo_409 (by decide) ?_
          refine lv_icmp_eq (tgt := 447) hx hb dL_isWorldSo_410 (by decide) (fun hc => ?_) (fun hc => ?_)
          · have hs := g_t hs hc
            refine lv_iconst (v := 0) hx hb dL_isWorldSo_447 (by decide) ?_
            exact gRet_z hx hb hr hlocks rfl hK hP hS ⟨g_some hs, rfl⟩ dL_isWorldSo_448
          · have hs := g_f hs hc
            refine lv_aload_n hx hb dL_isWorldSo_413 rfl (lv_at hl 1 rfl) ?_
            refine g_bind hs (fun q_11 hq_11 hs => ?_)
            refine gCV_i (As := []) (rest := []) ⟨hx, hb, hml, hown, hts⟩ (cX5_it_c l D cy ad tL z0 hI v u q_11 hq_11) (cwV 0 hts gL_isWorldSo_X5_it rfl rfl rfl (by decide +kernel) ⟨Nat.le_of_ble_eq_true rfl, Nat.le_of_ble_eq_true rfl⟩) hK hP hS (va_recv hK.1 hP (ci := 5) (q0 := 0) rfl (gW_5 kd0)) hl.1 rfl rfl (Nat.le_of_ble_eq_true rfl) dL_isWorldSo_414 ⟨Nat.zero_le _, Nat.zero_le _⟩ (fun H locs hP hS => ?_)
            refine lv_iconst (v := (-1)) hx hb dL_isWorldSo_417 (by decide) ?_
            refine lv_icmp_lt (tgt := 447) hx hb dL_isWorldSo_418 (by decide) (fun hc => ?_) (fun hc => ?_)
            · have hs := g_t hs hc
              refine lv_iconst (v := 0) hx hb dL_isWorldSo_447 (by decide) ?_
              exact gRet_z hx hb hr hlocks rfl hK hP hS ⟨g_some hs, rfl⟩ dL_isWorldSo_448
            · have hs := g_f hs hc
              refine lv_aload_n hx hb dL_isWorldSo_421 rfl (lv_at hl 1 rfl) ?_
              refine g_bind hs (fun q_12 hq_12 hs => ?_)
              refine gCV_i (As := []) (rest := []) ⟨hx, hb, hml, hown, hts⟩ (cX5_it_c l D cy ad tL z0 hI v u q_12 hq_12) (cwV 0 hts gL_isWorldSo_X5_it rfl rfl rfl (by decide +kernel) ⟨Nat.le_of_ble_eq_true rfl, Nat.le_of_ble_eq_true rfl⟩) hK hP hS (va_recv hK.1 hP (ci := 5) (q0 := 0) rfl (gW_5 kd0)) hl.1 rfl rfl (Nat.le_of_ble_eq_true rfl) dL_isWorldSo_422 ⟨Nat.zero_le _, Nat.zero_le _⟩ (fun H locs hP hS => ?_)
              refine lv_aload_n hx hb dL_isWorldSo_425 rfl (lv_at hl 1 rfl) ?_
              refine g_bind hs (fun q_13 hq_13 hs => ?_)
              refine gCV_i (As := []) (rest := [.int q_12]) ⟨hx, hb, hml, hown, hts⟩ (cX5_objects_c l D cy ad tL z0 hI v u q_13 hq_13) (cwV 0 hts gL_isWorldSo_X5_objects rfl rfl rfl (by decide +kernel) ⟨Nat.le_of_ble_eq_true rfl, Nat.le_of_ble_eq_true rfl⟩) hK hP hS (va_recv hK.1 hP (ci := 5) (q0 := 0) rfl (gW_5 kd0)) hl.1 rfl rfl (Nat.le_of_ble_eq_true rfl) dL_isWorldSo_426 ⟨Nat.zero_le _, Nat.zero_le _⟩ (fun H locs hP hS => ?_)
              refine lv_if_ne (tgt := 436) hx hb dL_isWorldSo_429 (by decide) (fun hc => ?_) (fun hc => ?_)
              · have hs := g_f hs hc
                refine lv_aload_n hx hb dL_isWorldSo_436 rfl (lv_at hl 1 rfl) ?_
                refine g_bind hs (fun q_14 hq_14 hs => ?_)
                refine gCV_i (As := []) (rest := [.int q_12]) ⟨hx, hb, hml, hown, hts⟩ (cX5_objects_c l D cy ad tL z0 hI v u q_14 hq_14) (cwV 0 hts gL_isWorldSo_X5_objects rfl rfl rfl (by decide +kernel) ⟨Nat.le_of_ble_eq_true rfl, Nat.le_of_ble_eq_true rfl⟩) hK hP hS (va_recv hK.1 hP (ci := 5) (q0 := 0) rfl (gW_5 kd0)) hl.1 rfl rfl (Nat.le_of_ble_eq_true rfl) dL_isWorldSo_437 ⟨Nat.zero_le _, Nat.zero_le _⟩ (fun H locs hP hS => ?_)
                exact hJ_440 q_12 q_14 _ _ _ hP hS (lv_sub hl [] rfl) hs
              · have hs := g_t hs hc
                refine lv_iconst (v := 1) hx hb dL_isWorldSo_432 (by decide) ?_
                refine lv_goto (tgt := 440) hx hb dL_isWorldSo_433 (by decide) ?_
                exact hJ_440 q_12 1 _ _ _ hP hS (lv_sub hl [] rfl) hs
  have hL_23 : ∀ (k : Nat), ∀ (w1 : Int32) (w2 : Int32) (w3 : Int32) (w4 : Int32) (H : Heap) (locs : List Loc) (ls : Array Slot), va_P D vwCl (gW cy ad v u) H → va_S (gA z0) s.heap H locs → lv_has ls 9 [(0, .ref (ad 0)), (1, .int w1), (2, .int w2), (3, .int w3), (4, .int w4)] → sL_isWorldSo_23 n k v w1 w2 w3 w4 = some r0 → W p l e (headSpec wsL_isWorldSo ({ frames := 4, cells := 0, slots := 0, locals := 89 } : Room)).room s m ([.ref (ad 0)] : List Value).toArray below meth c H locs 0 0 (MQ below (gQi D cy ad tL z0 v u r0) ([.ref (ad 0)] : List Value).toArray s 0 0 (gA z0)) (F0 m 23 ls []) := by
    intro k
    induction k with
    | zero =>
      intro w1 w2 w3 w4 H locs ls hP hS hl hs
      exact g_none hs
    | succ k ih =>
      have hJ_246 : ∀ (w2 : Int32) (w3 : Int32) (w4 : Int32) (w5 : Int32) (t0 : Int32) (t1 : Int32) (H : Heap) (locs : List Loc) (ls : Array Slot), va_P D vwCl (gW cy ad v u) H → va_S (gA z0) s.heap H locs → lv_has ls 9 [(0, .ref (ad 0)), (2, .int w2), (3, .int w3), (4, .int w4), (5, .int w5)] → sL_isWorldSo_246 n (sL_isWorldSo_23 n k) v w2 w3 w4 w5 t0 t1 = some r0 → W p l e (headSpec wsL_isWorldSo ({ frames := 4, cells := 0, slots := 0, locals := 89 } : Room)).room s m ([.ref (ad 0)] : List Value).toArray below meth c H locs 0 0 (MQ below (gQi D cy ad tL z0 v u r0) ([.ref (ad 0)] : List Value).toArray s 0 0 (gA z0)) (F0 m 246 ls [.int t1, .int t0]) := by
        intro w2 w3 w4 w5 t0 t1 H locs ls hP hS hl hs
        unfold sL_isWorldSo_246 at hs
        refine lv_ior hx hb dL_isWorldSo_246 ?_
        refine lv_istore_n (lv' := [(1, .int (t0 ||| t1)), (0, .ref (ad 0)), (2, .int w2), (3, .int w3), (4, .int w4), (5, .int w5)]) hx hb dL_isWorldSo_247 rfl hl (by decide) rfl (fun ls hl => ?_)
        refine lv_iload_n hx hb dL_isWorldSo_248 rfl (lv_at hl 2 rfl) ?_
        refine lv_iload hx hb dL_isWorldSo_249 (lv_at hl 5 rfl) ?_
        refine lv_iconst (v := 4) hx hb dL_isWorldSo_251 (by decide) ?_
        refine lv_icmp_ne (tgt := 262) hx hb dL_isWorldSo_252 (by decide) (fun hc => ?_) (fun hc => ?_)
        · have hs := g_f hs hc
          refine lv_iconst (v := 0) hx hb dL_isWorldSo_262 (by decide) ?_
          refine lv_ior hx hb dL_isWorldSo_263 ?_
          refine lv_istore_n (lv' := [(2, .int (w2 ||| 0)), (1, .int (t0 ||| t1)), (0, .ref (ad 0)), (3, .int w3), (4, .int w4), (5, .int w5)]) hx hb dL_isWorldSo_264 rfl hl (by decide) rfl (fun ls hl => ?_)
          refine lv_iinc (v := w4 + 1) (lv' := [(4, .int (w4 + 1)), (2, .int (w2 ||| 0)), (1, .int (t0 ||| t1)), (0, .ref (ad 0)), (3, .int w3), (5, .int w5)]) hx hb dL_isWorldSo_265 hl (k := 4) rfl rfl (by decide) rfl (fun ls hl => ?_)
          refine lv_goto (tgt := 23) hx hb dL_isWorldSo_268 (by decide) ?_
          exact ih (t0 ||| t1) (w2 ||| 0) w3 (w4 + 1) _ _ _ hP hS (lv_sub hl [3, 2, 1, 4, 0] rfl) hs
        · have hs := g_t hs hc
          refine lv_iconst (v := 1) hx hb dL_isWorldSo_255 (by decide) ?_
          refine lv_iload hx hb dL_isWorldSo_256 (lv_at hl 4 rfl) ?_
          refine lv_ishl hx hb dL_isWorldSo_258 ?_
          refine lv_goto (tgt := 263) hx hb dL_isWorldSo_259 (by decide) ?_
          refine lv_ior hx hb dL_isWorldSo_263 ?_
          refine lv_istore_n (lv' := [(2, .int (w2 ||| ((1 : Int32) <<< (w4 &&& 31)))), (1, .int (t0 ||| t1)), (0, .ref (ad 0)), (3, .int w3), (4, .int w4), (5, .int w5)]) hx hb dL_isWorldSo_264 rfl hl (by decide) rfl (fun ls hl => ?_)
          refine lv_iinc (v := w4 + 1) (lv' := [(4, .int (w4 + 1)), (2, .int (w2 ||| ((1 : Int32) <<< (w4 &&& 31)))), (1, .int (t0 ||| t1)), (0, .ref (ad 0)), (3, .int w3), (5, .int w5)]) hx hb dL_isWorldSo_265 hl (k := 4) rfl rfl (by decide) rfl (fun ls hl => ?_)
          refine lv_goto (tgt := 23) hx hb dL_isWorldSo_268 (by decide) ?_
          exact ih (t0 ||| t1) (w2 ||| ((1 : Int32) <<< (w4 &&& 31))) w3 (w4 + 1) _ _ _ hP hS (lv_sub hl [3, 2, 1, 4, 0] rfl) hs
      have hJ_230 : ∀ (w1 : Int32) (w2 : Int32) (w3 : Int32) (w4 : Int32) (w5 : Int32) (t0 : Int32) (H : Heap) (locs : List Loc) (ls : Array Slot), va_P D vwCl (gW cy ad v u) H → va_S (gA z0) s.heap H locs → lv_has ls 9 [(0, .ref (ad 0)), (1, .int w1), (2, .int w2), (3, .int w3), (4, .int w4), (5, .int w5)] → sL_isWorldSo_230 n (sL_isWorldSo_23 n k) v w1 w2 w3 w4 w5 t0 = some r0 → W p l e (headSpec wsL_isWorldSo ({ frames := 4, cells := 0, slots := 0, locals := 89 } : Room)).room s m ([.ref (ad 0)] : List Value).toArray below meth c H locs 0 0 (MQ below (gQi D cy ad tL z0 v u r0) ([.ref (ad 0)] : List Value).toArray s 0 0 (gA z0)) (F0 m 230 ls [.int t0]) := by
        intro w1 w2 w3 w4 w5 t0 H locs ls hP hS hl hs
        unfold sL_isWorldSo_230 at hs
        refine lv_istore (lv' := [(8, .int t0), (0, .ref (ad 0)), (1, .int w1), (2, .int w2), (3, .int w3), (4, .int w4), (5, .int w5)]) hx hb dL_isWorldSo_230 hl (by decide) rfl (fun ls hl => ?_)
        refine lv_iload_n hx hb dL_isWorldSo_232 rfl (lv_at hl 2 rfl) ?_
        refine lv_iload hx hb dL_isWorldSo_233 (lv_at hl 0 rfl) ?_
        refine lv_if_eq (tgt := 245) hx hb dL_isWorldSo_235 (by decide) (fun hc => ?_) (fun hc => ?_)
        · have hs := g_t hs hc
          refine lv_iconst (v := 0) hx hb dL_isWorldSo_245 (by decide) ?_
          exact hJ_246 w2 w3 w4 w5 w1 0 _ _ _ hP hS (lv_sub hl [1, 3, 4, 5, 6] rfl) hs
        · have hs := g_f hs hc
          refine lv_iconst (v := 1) hx hb dL_isWorldSo_238 (by decide) ?_
          refine lv_iload hx hb dL_isWorldSo_239 (lv_at hl 5 rfl) ?_
          refine lv_ishl hx hb dL_isWorldSo_241 ?_
          refine lv_goto (tgt := 246) hx hb dL_isWorldSo_242 (by decide) ?_
          exact hJ_246 w2 w3 w4 w5 w1 ((1 : Int32) <<< (w4 &&& 31)) _ _ _ hP hS (lv_sub hl [1, 3, 4, 5, 6] rfl) hs
      have hJ_209 : ∀ (w1 : Int32) (w2 : Int32) (w3 : Int32) (w4 : Int32) (w5 : Int32) (w6 : Int32) (H : Heap) (locs : List Loc) (ls : Array Slot), va_P D vwCl (gW cy ad v u) H → va_S (gA z0) s.heap H locs → lv_has ls 9 [(0, .ref (ad 0)), (1, .int w1), (2, .int w2), (3, .int w3), (4, .int w4), (5, .int w5), (6, .int w6)] → sL_isWorldSo_209 n (sL_isWorldSo_23 n k) v w1 w2 w3 w4 w5 w6 = some r0 → W p l e (headSpec wsL_isWorldSo ({ frames := 4, cells := 0, slots := 0, locals := 89 } : Room)).room s m ([.ref (ad 0)] : List Value).toArray below meth c H locs 0 0 (MQ below (gQi D cy ad tL z0 v u r0) ([.ref (ad 0)] : List Value).toArray s 0 0 (gA z0)) (F0 m 209 ls []) := by
        intro w1 w2 w3 w4 w5 w6 H locs ls hP hS hl hs
        unfold sL_isWorldSo_209 at hs
        refine lv_iload hx hb dL_isWorldSo_209 (lv_at hl 6 rfl) ?_
        refine lv_if_eq (tgt := 225) hx hb dL_isWorldSo_211 (by decide) (fun hc => ?_) (fun hc => ?_)
        · have hs := g_t hs hc
          refine lv_iconst (v := 1) hx hb dL_isWorldSo_225 (by decide) ?_
          refine lv_goto (tgt := 230) hx hb dL_isWorldSo_226 (by decide) ?_
          exact hJ_230 w1 w2 w3 w4 w5 1 _ _ _ hP hS (lv_sub hl [0, 1, 2, 3, 4, 5] rfl) hs
        · have hs := g_f hs hc
          refine lv_aload_n hx hb dL_isWorldSo_214 rfl (lv_at hl 0 rfl) ?_
          refine lv_iload hx hb dL_isWorldSo_215 (lv_at hl 5 rfl) ?_
          refine lv_iconst (v := 5) hx hb dL_isWorldSo_217 (by decide) ?_
          refine lv_isub hx hb dL_isWorldSo_218 ?_
          refine g_bind hs (fun q_21 hq_21 hs => ?_)
          refine gCV_i (As := [.int (w5 - 5)]) (rest := []) ⟨hx, hb, hml, hown, hts⟩ (cX5_isOpen_c l D cy ad tL z0 hI v u (w5 - 5) q_21 hq_21) (cwV 1 hts gL_isWorldSo_X5_isOpen rfl rfl rfl (by decide +kernel) ⟨Nat.le_of_ble_eq_true rfl, Nat.le_of_ble_eq_true rfl⟩) hK hP hS (va_recv hK.1 hP (ci := 5) (q0 := 0) rfl (gW_5 kd0)) hl.1 rfl rfl (Nat.le_of_ble_eq_true rfl) dL_isWorldSo_219 ⟨Nat.zero_le _, Nat.zero_le _⟩ (fun H locs hP hS => ?_)
          refine lv_if_eq (tgt := 229) hx hb dL_isWorldSo_222 (by decide) (fun hc => ?_) (fun hc => ?_)
          · have hs := g_t hs hc
            refine lv_iconst (v := 0) hx hb dL_isWorldSo_229 (by decide) ?_
            exact hJ_230 w1 w2 w3 w4 w5 0 _ _ _ hP hS (lv_sub hl [0, 1, 2, 3, 4, 5] rfl) hs
          · have hs := g_f hs hc
            refine lv_iconst (v := 1) hx hb dL_isWorldSo_225 (by decide) ?_
            refine lv_goto (tgt := 230) hx hb dL_isWorldSo_226 (by decide) ?_
            exact hJ_230 w1 w2 w3 w4 w5 1 _ _ _ hP hS (lv_sub hl [0, 1, 2, 3, 4, 5] rfl) hs
      have hJ_192 : ∀ (w1 : Int32) (w2 : Int32) (w3 : Int32) (w4 : Int32) (w5 : Int32) (w6 : Int32) (t0 : Int32) (H : Heap) (locs : List Loc) (ls : Array Slot), va_P D vwCl (gW cy ad v u) H → va_S (gA z0) s.heap H locs → lv_has ls 9 [(0, .ref (ad 0)), (1, .int w1), (2, .int w2), (3, .int w3), (4, .int w4), (5, .int w5), (6, .int w6)] → sL_isWorldSo_192 n (sL_isWorldSo_23 n k) v w1 w2 w3 w4 w5 w6 t0 = some r0 → W p l e (headSpec wsL_isWorldSo ({ frames := 4, cells := 0, slots := 0, locals := 89 } : Room)).room s m ([.ref (ad 0)] : List Value).toArray below meth c H locs 0 0 (MQ below (gQi D cy ad tL z0 v u r0) ([.ref (ad 0)] : List Value).toArray s 0 0 (gA z0)) (F0 m 192 ls [.int t0]) := by
        intro w1 w2 w3 w4 w5 w6 t0 H locs ls hP hS hl hs
        unfold sL_isWorldSo_192 at hs
        refine lv_istore (lv' := [(7, .int t0), (0, .ref (ad 0)), (1, .int w1), (2, .int w2), (3, .int w3), (4, .int w4), (5, .int w5), (6, .int w6)]) hx hb dL_isWorldSo_192 hl (by decide) rfl (fun ls hl => ?_)
        refine lv_iload hx hb dL_isWorldSo_194 (lv_at hl 0 rfl) ?_
        refine lv_iconst (v := 4) hx hb dL_isWorldSo_196 (by decide) ?_
        refine lv_icmp_eq (tgt := 209) hx hb dL_isWorldSo_197 (by decide) (fun hc => ?_) (fun hc => ?_)
        · have hs := g_t hs hc
          exact hJ_209 w1 w2 w3 w4 w5 w6 _ _ _ hP hS (lv_sub hl [1, 2, 3, 4, 5, 6, 7] rfl) hs
        · have hs := g_f hs hc
          refine lv_iload hx hb dL_isWorldSo_200 (lv_at hl 0 rfl) ?_
          refine lv_aload_n hx hb dL_isWorldSo_202 rfl (lv_at hl 1 rfl) ?_
          refine g_bind hs (fun q_22 hq_22 hs => ?_)
          refine gCV_i (As := []) (rest := [.int t0]) ⟨hx, hb, hml, hown, hts⟩ (cX5_room_c l D cy ad tL z0 hI v u q_22 hq_22) (cwV 0 hts gL_isWorldSo_X5_room rfl rfl rfl (by decide +kernel) ⟨Nat.le_of_ble_eq_true rfl, Nat.le_of_ble_eq_true rfl⟩) hK hP hS (va_recv hK.1 hP (ci := 5) (q0 := 0) rfl (gW_5 kd0)) hl.1 rfl rfl (Nat.le_of_ble_eq_true rfl) dL_isWorldSo_203 ⟨Nat.zero_le _, Nat.zero_le _⟩ (fun H locs hP hS => ?_)
          refine lv_icmp_ne (tgt := 229) hx hb dL_isWorldSo_206 (by decide) (fun hc => ?_) (fun hc => ?_)
          · have hs := g_f hs hc
            refine lv_iconst (v := 0) hx hb dL_isWorldSo_229 (by decide) ?_
            exact hJ_230 w1 w2 w3 w4 w5 0 _ _ _ hP hS (lv_sub hl [1, 2, 3, 4, 5, 6] rfl) hs
          · have hs := g_t hs hc
            exact hJ_209 w1 w2 w3 w4 w5 w6 _ _ _ hP hS (lv_sub hl [1, 2, 3, 4, 5, 6, 7] rfl) hs
      have hJ_173 : ∀ (w1 : Int32) (w2 : Int32) (w4 : Int32) (w5 : Int32) (w6 : Int32) (t0 : Int32) (H : Heap) (locs : List Loc) (ls : Array Slot), va_P D vwCl (gW cy ad v u) H → va_S (gA z0) s.heap H locs → lv_has ls 9 [(0, .ref (ad 0)), (1, .int w1), (2, .int w2), (4, .int w4), (5, .int w5), (6, .int w6)] → sL_isWorldSo_173 n (sL_isWorldSo_23 n k) v w1 w2 w4 w5 w6 t0 = some r0 → W p l e (headSpec wsL_isWorldSo ({ frames := 4, cells := 0, slots := 0, locals := 89 } : Room)).room s m ([.ref (ad 0)] : List Value).toArray below meth c H locs 0 0 (MQ below (gQi D cy ad tL z0 v u r0) ([.ref (ad 0)] : List Value).toArray s 0 0 (gA z0)) (F0 m 173 ls [.int t0]) := by
        intro w1 w2 w4 w5 w6 t0 H locs ls hP hS hl hs
        unfold sL_isWorldSo_173 at hs
        refine lv_istore_n (lv' := [(3, .int t0), (0, .ref (ad 0)), (1, .int w1), (2, .int w2), (4, .int w4), (5, .int w5), (6, .int w6)]) hx hb dL_isWorldSo_173 rfl hl (by decide) rfl (fun ls hl => ?_)
        refine lv_iload hx hb dL_isWorldSo_174 (lv_at hl 6 rfl) ?_
        refine lv_if_eq (tgt := 190) hx hb dL_isWorldSo_176 (by decide) (fun hc => ?_) (fun hc => ?_)
        · have hs := g_t hs hc
          refine lv_iload hx hb dL_isWorldSo_190 (lv_at hl 5 rfl) ?_
          exact hJ_192 w1 w2 t0 w4 w5 w6 w5 _ _ _ hP hS (lv_sub hl [1, 2, 3, 0, 4, 5, 6] rfl) hs
        · have hs := g_f hs hc
          refine lv_aload_n hx hb dL_isWorldSo_179 rfl (lv_at hl 1 rfl) ?_
          refine lv_iload hx hb dL_isWorldSo_180 (lv_at hl 5 rfl) ?_
          refine lv_iconst (v := 5) hx hb dL_isWorldSo_182 (by decide) ?_
          refine lv_isub hx hb dL_isWorldSo_183 ?_
          refine g_bind hs (fun q_23 hq_23 hs => ?_)
          refine gCV_i (As := [.int (w5 - 5)]) (rest := []) ⟨hx, hb, hml, hown, hts⟩ (cX5_place_c l D cy ad tL z0 hI v u (w5 - 5) q_23 hq_23) (cwV 1 hts gL_isWorldSo_X5_place rfl rfl rfl (by decide +kernel) ⟨Nat.le_of_ble_eq_true rfl, Nat.le_of_ble_eq_true rfl⟩) hK hP hS (va_recv hK.1 hP (ci := 5) (q0 := 0) rfl (gW_5 kd0)) hl.1 rfl rfl (Nat.le_of_ble_eq_true rfl) dL_isWorldSo_184 ⟨Nat.zero_le _, Nat.zero_le _⟩ (fun H locs hP hS => ?_)
          refine lv_goto (tgt := 192) hx hb dL_isWorldSo_187 (by decide) ?_
          exact hJ_192 w1 w2 t0 w4 w5 w6 q_23 _ _ _ hP hS (lv_sub hl [1, 2, 3, 0, 4, 5, 6] rfl) hs
      have hJ_125 : ∀ (w1 : Int32) (w2 : Int32) (w4 : Int32) (w5 : Int32) (w6 : Int32) (H : Heap) (locs : List Loc) (ls : Array Slot), va_P D vwCl (gW cy ad v u) H → va_S (gA z0) s.heap H locs → lv_has ls 9 [(0, .ref (ad 0)), (1, .int w1), (2, .int w2), (4, .int w4), (5, .int w5), (6, .int w6)] → sL_isWorldSo_125 n (sL_isWorldSo_23 n k) v w1 w2 w4 w5 w6 = some r0 → W p l e (headSpec wsL_isWorldSo ({ frames := 4, cells := 0, slots := 0, locals := 89 } : Room)).room s m ([.ref (ad 0)] : List Value).toArray below meth c H locs 0 0 (MQ below (gQi D cy ad tL z0 v u r0) ([.ref (ad 0)] : List Value).toArray s 0 0 (gA z0)) (F0 m 125 ls []) := by
        intro w1 w2 w4 w5 w6 H locs ls hP hS hl hs
        unfold sL_isWorldSo_125 at hs
        refine lv_aload_n hx hb dL_isWorldSo_125 rfl (lv_at hl 0 rfl) ?_
        refine lv_aload_n hx hb dL_isWorldSo_126 rfl (lv_at hl 0 rfl) ?_
        refine lv_iload hx hb dL_isWorldSo_127 (lv_at hl 3 rfl) ?_
        refine g_bind hs (fun q_27 hq_27 hs => ?_)
        refine gCV_i (As := [.int w4]) (rest := [.ref (ad 0)]) ⟨hx, hb, hml, hown, hts⟩ (cX5_noun_c l D cy ad tL z0 hI v u w4 q_27 hq_27) (cwV 1 hts gL_isWorldSo_X5_noun rfl rfl rfl (by decide +kernel) ⟨Nat.le_of_ble_eq_true rfl, Nat.le_of_ble_eq_true rfl⟩) hK hP hS (va_recv hK.1 hP (ci := 5) (q0 := 0) rfl (gW_5 kd0)) hl.1 rfl rfl (Nat.le_of_ble_eq_true rfl) dL_isWorldSo_129 ⟨Nat.zero_le _, Nat.zero_le _⟩ (fun H locs hP hS => ?_)
        refine lv_aload_n hx hb dL_isWorldSo_132 rfl (lv_at hl 0 rfl) ?_
        refine lv_iload hx hb dL_isWorldSo_133 (lv_at hl 3 rfl) ?_
        refine g_bind hs (fun q_28 hq_28 hs => ?_)
        refine gCV_i (As := [.int w4]) (rest := [.int q_27, .ref (ad 0)]) ⟨hx, hb, hml, hown, hts⟩ (cX5_adjective_c l D cy ad tL z0 hI v u w4 q_28 hq_28) (cwV 1 hts gL_isWorldSo_X5_adjective rfl rfl rfl (by decide +kernel) ⟨Nat.le_of_ble_eq_true rfl, Nat.le_of_ble_eq_true rfl⟩) hK hP hS (va_recv hK.1 hP (ci := 5) (q0 := 0) rfl (gW_5 kd0)) hl.1 rfl rfl (Nat.le_of_ble_eq_true rfl) dL_isWorldSo_135 ⟨Nat.zero_le _, Nat.zero_le _⟩ (fun H locs hP hS => ?_)
        refine g_bind hs (fun q_29 hq_29 hs => ?_)
        refine gCV_i (As := [.int q_27, .int q_28]) (rest := []) ⟨hx, hb, hml, hown, hts⟩ (cX5_fitting_c l D cy ad tL z0 hI n v u q_27 q_28 q_29 hq_29) (cwV 2 hts gL_isWorldSo_X5_fitting rfl rfl rfl (by decide +kernel) ⟨Nat.le_of_ble_eq_true rfl, Nat.le_of_ble_eq_true rfl⟩) hK hP hS (va_recv hK.1 hP (ci := 5) (q0 := 0) rfl (gW_5 kd0)) hl.1 rfl rfl (Nat.le_of_ble_eq_true rfl) dL_isWorldSo_138 ⟨Nat.zero_le _, Nat.zero_le _⟩ (fun H locs hP hS => ?_)
        refine lv_iconst (v := 1) hx hb dL_isWorldSo_141 (by decide) ?_
        refine lv_iload hx hb dL_isWorldSo_142 (lv_at hl 3 rfl) ?_
        refine lv_ishl hx hb dL_isWorldSo_144 ?_
        refine lv_icmp_ne (tgt := 172) hx hb dL_isWorldSo_145 (by decide) (fun hc => ?_) (fun hc => ?_)
        · have hs := g_f hs hc
          refine lv_iconst (v := 0) hx hb dL_isWorldSo_172 (by decide) ?_
          exact hJ_173 w1 w2 w4 w5 w6 0 _ _ _ hP hS (lv_sub hl [0, 1, 2, 3, 4, 5] rfl) hs
        · have hs := g_t hs hc
          refine lv_aload_n hx hb dL_isWorldSo_148 rfl (lv_at hl 0 rfl) ?_
          refine lv_aload_n hx hb dL_isWorldSo_149 rfl (lv_at hl 0 rfl) ?_
          refine lv_iload hx hb dL_isWorldSo_150 (lv_at hl 3 rfl) ?_
          refine g_bind hs (fun q_30 hq_30 hs => ?_)
          refine gCV_i (As := [.int w4]) (rest := [.ref (ad 0)]) ⟨hx, hb, hml, hown, hts⟩ (cX5_noun_c l D cy ad tL z0 hI v u w4 q_30 hq_30) (cwV 1 hts gL_isWorldSo_X5_noun rfl rfl rfl (by decide +kernel) ⟨Nat.le_of_ble_eq_true rfl, Nat.le_of_ble_eq_true rfl⟩) hK hP hS (va_recv hK.1 hP (ci := 5) (q0 := 0) rfl (gW_5 kd0)) hl.1 rfl rfl (Nat.le_of_ble_eq_true rfl) dL_isWorldSo_152 ⟨Nat.zero_le _, Nat.zero_le _⟩ (fun H locs hP hS => ?_)
          refine lv_iconst (v := (-1)) hx hb dL_isWorldSo_155 (by decide) ?_
          refine g_bind hs (fun q_31 hq_31 hs => ?_)
          refine gCV_i (As := [.int q_30, .int ((-1))]) (rest := []) ⟨hx, hb, hml, hown, hts⟩ (cX5_fitting_c l D cy ad tL z0 hI n v u q_30 ((-1)) q_31 hq_31) (cwV 2 hts gL_isWorldSo_X5_fitting rfl rfl rfl (by decide +kernel) ⟨Nat.le_of_ble_eq_true rfl, Nat.le_of_ble_eq_true rfl⟩) hK hP hS (va_recv hK.1 hP (ci := 5) (q0 := 0) rfl (gW_5 kd0)) hl.1 rfl rfl (Nat.le_of_ble_eq_true rfl) dL_isWorldSo_156 ⟨Nat.zero_le _, Nat.zero_le _⟩ (fun H locs hP hS => ?_)
          refine lv_iload hx hb dL_isWorldSo_159 (lv_at hl 3 rfl) ?_
          refine lv_ishr hx hb dL_isWorldSo_161 ?_
          refine lv_iconst (v := 1) hx hb dL_isWorldSo_162 (by decide) ?_
          refine lv_iand hx hb dL_isWorldSo_163 ?_
          refine lv_iconst (v := 1) hx hb dL_isWorldSo_164 (by decide) ?_
          refine lv_icmp_ne (tgt := 172) hx hb dL_isWorldSo_165 (by decide) (fun hc => ?_) (fun hc => ?_)
          · have hs := g_f hs hc
            refine lv_iconst (v := 0) hx hb dL_isWorldSo_172 (by decide) ?_
            exact hJ_173 w1 w2 w4 w5 w6 0 _ _ _ hP hS (lv_sub hl [0, 1, 2, 3, 4, 5] rfl) hs
          · have hs := g_t hs hc
            refine lv_iconst (v := 1) hx hb dL_isWorldSo_168 (by decide) ?_
            refine lv_goto (tgt := 173) hx hb dL_isWorldSo_169 (by decide) ?_
            exact hJ_173 w1 w2 w4 w5 w6 1 _ _ _ hP hS (lv_sub hl [0, 1, 2, 3, 4, 5] rfl) hs
      have hJ_104 : ∀ (w1 : Int32) (w2 : Int32) (w4 : Int32) (w5 : Int32) (w6 : Int32) (t0 : Int32) (t1 : Int32) (H : Heap) (locs : List Loc) (ls : Array Slot), va_P D vwCl (gW cy ad v u) H → va_S (gA z0) s.heap H locs → lv_has ls 9 [(0, .ref (ad 0)), (1, .int w1), (2, .int w2), (4, .int w4), (5, .int w5), (6, .int w6)] → sL_isWorldSo_104 n (sL_isWorldSo_23 n k) v w1 w2 w4 w5 w6 t0 t1 = some r0 → W p l e (headSpec wsL_isWorldSo ({ frames := 4, cells := 0, slots := 0, locals := 89 } : Room)).room s m ([.ref (ad 0)] : List Value).toArray below meth c H locs 0 0 (MQ below (gQi D cy ad tL z0 v u r0) ([.ref (ad 0)] : List Value).toArray s 0 0 (gA z0)) (F0 m 104 ls [.int t1, .int t0]) := by
        intro w1 w2 w4 w5 w6 t0 t1 H locs ls hP hS hl hs
        unfold sL_isWorldSo_104 at hs
        refine lv_icmp_gt (tgt := 172) hx hb dL_isWorldSo_104 (by decide) (fun hc => ?_) (fun hc => ?_)
        · have hs := g_t hs hc
          refine lv_iconst (v := 0) hx hb dL_isWorldSo_172 (by decide) ?_
          exact hJ_173 w1 w2 w4 w5 w6 0 _ _ _ hP hS (lv_sub hl [0, 1, 2, 3, 4, 5] rfl) hs
        · have hs := g_f hs hc
          refine lv_aload_n hx hb dL_isWorldSo_107 rfl (lv_at hl 0 rfl) ?_
          refine lv_iload hx hb dL_isWorldSo_108 (lv_at hl 3 rfl) ?_
          refine g_bind hs (fun q_26 hq_26 hs => ?_)
          refine gCV_i (As := [.int w4]) (rest := []) ⟨hx, hb, hml, hown, hts⟩ (cX5_isOpen_c l D cy ad tL z0 hI v u w4 q_26 hq_26) (cwV 1 hts gL_isWorldSo_X5_isOpen rfl rfl rfl (by decide +kernel) ⟨Nat.le_of_ble_eq_true rfl, Nat.le_of_ble_eq_true rfl⟩) hK hP hS (va_recv hK.1 hP (ci := 5) (q0 := 0) rfl (gW_5 kd0)) hl.1 rfl rfl (Nat.le_of_ble_eq_true rfl) dL_isWorldSo_110 ⟨Nat.zero_le _, Nat.zero_le _⟩ (fun H locs hP hS => ?_)
          refine lv_if_eq (tgt := 125) hx hb dL_isWorldSo_113 (by decide) (fun hc => ?_) (fun hc => ?_)
          · have hs := g_t hs hc
            exact hJ_125 w1 w2 w4 w5 w6 _ _ _ hP hS (lv_sub hl [0, 1, 2, 3, 4, 5] rfl) hs
          · have hs := g_f hs hc
            refine lv_aload_n hx hb dL_isWorldSo_116 rfl (lv_at hl 0 rfl) ?_
            refine lv_iload hx hb dL_isWorldSo_117 (lv_at hl 3 rfl) ?_
            refine g_bind hs (fun q_32 hq_32 hs => ?_)
            refine gCS_i (As := [.ref (ad 0), .int w4]) (rest := []) ⟨hx, hb, hml, hown, hts⟩ (cL_isBox_c l D cy ad tL z0 hI v u w4 q_32 hq_32) (va_cwS 2 hts gL_isWorldSo_L_isBox rfl rfl rfl (by decide +kernel) ⟨Nat.le_of_ble_eq_true rfl, Nat.le_of_ble_eq_true rfl⟩) hK hP hS hl.1 rfl rfl (Nat.le_of_ble_eq_true rfl) dL_isWorldSo_119 ⟨Nat.zero_le _, Nat.zero_le _⟩ (fun H locs hP hS => ?_)
            refine lv_if_eq (tgt := 172) hx hb dL_isWorldSo_122 (by decide) (fun hc => ?_) (fun hc => ?_)
            · have hs := g_t hs hc
              refine lv_iconst (v := 0) hx hb dL_isWorldSo_172 (by decide) ?_
              exact hJ_173 w1 w2 w4 w5 w6 0 _ _ _ hP hS (lv_sub hl [0, 1, 2, 3, 4, 5] rfl) hs
            · have hs := g_f hs hc
              exact hJ_125 w1 w2 w4 w5 w6 _ _ _ hP hS (lv_sub hl [0, 1, 2, 3, 4, 5] rfl) hs
      have hJ_82 : ∀ (w1 : Int32) (w2 : Int32) (w4 : Int32) (w5 : Int32) (w6 : Int32) (H : Heap) (locs : List Loc) (ls : Array Slot), va_P D vwCl (gW cy ad v u) H → va_S (gA z0) s.heap H locs → lv_has ls 9 [(0, .ref (ad 0)), (1, .int w1), (2, .int w2), (4, .int w4), (5, .int w5), (6, .int w6)] → sL_isWorldSo_82 n (sL_isWorldSo_23 n k) v w1 w2 w4 w5 w6 = some r0 → W p l e (headSpec wsL_isWorldSo ({ frames := 4, cells := 0, slots := 0, locals := 89 } : Room)).room s m ([.ref (ad 0)] : List Value).toArray below meth c H locs 0 0 (MQ below (gQi D cy ad tL z0 v u r0) ([.ref (ad 0)] : List Value).toArray s 0 0 (gA z0)) (F0 m 82 ls []) := by
        intro w1 w2 w4 w5 w6 H locs ls hP hS hl hs
        unfold sL_isWorldSo_82 at hs
        refine lv_aload_n hx hb dL_isWorldSo_82 rfl (lv_at hl 0 rfl) ?_
        refine lv_iconst (v := 5) hx hb dL_isWorldSo_83 (by decide) ?_
        refine lv_iload hx hb dL_isWorldSo_84 (lv_at hl 3 rfl) ?_
        refine lv_iadd hx hb dL_isWorldSo_86 ?_
        refine g_bind hs (fun q_24 hq_24 hs => ?_)
        refine gCV_i (As := [.int (5 + w4)]) (rest := []) ⟨hx, hb, hml, hown, hts⟩ (cX5_objectsAt_c l D cy ad tL z0 hI n v u (5 + w4) q_24 hq_24) (cwV 1 hts gL_isWorldSo_X5_objectsAt rfl rfl rfl (by decide +kernel) ⟨Nat.le_of_ble_eq_true rfl, Nat.le_of_ble_eq_true rfl⟩) hK hP hS (va_recv hK.1 hP (ci := 5) (q0 := 0) rfl (gW_5 kd0)) hl.1 rfl rfl (Nat.le_of_ble_eq_true rfl) dL_isWorldSo_87 ⟨Nat.zero_le _, Nat.zero_le _⟩ (fun H locs hP hS => ?_)
        refine lv_aload_n hx hb dL_isWorldSo_90 rfl (lv_at hl 0 rfl) ?_
        refine lv_iload hx hb dL_isWorldSo_91 (lv_at hl 3 rfl) ?_
        refine g_bind hs (fun q_25 hq_25 hs => ?_)
        refine gCS_i (As := [.ref (ad 0), .int w4]) (rest := [.int q_24]) ⟨hx, hb, hml, hown, hts⟩ (cL_isBox_c l D cy ad tL z0 hI v u w4 q_25 hq_25) (va_cwS 2 hts gL_isWorldSo_L_isBox rfl rfl rfl (by decide +kernel) ⟨Nat.le_of_ble_eq_true rfl, Nat.le_of_ble_eq_true rfl⟩) hK hP hS hl.1 rfl rfl (Nat.le_of_ble_eq_true rfl) dL_isWorldSo_93 ⟨Nat.zero_le _, Nat.zero_le _⟩ (fun H locs hP hS => ?_)
        refine lv_if_eq (tgt := 103) hx hb dL_isWorldSo_96 (by decide) (fun hc => ?_) (fun hc => ?_)
        · have hs := g_t hs hc
          refine lv_iconst (v := 0) hx hb dL_isWorldSo_103 (by decide) ?_
          exact hJ_104 w1 w2 w4 w5 w6 q_24 0 _ _ _ hP hS (lv_sub hl [0, 1, 2, 3, 4, 5] rfl) hs
        · have hs := g_f hs hc
          refine lv_iconst (v := 4) hx hb dL_isWorldSo_99 (by decide) ?_
          refine lv_goto (tgt := 104) hx hb dL_isWorldSo_100 (by decide) ?_
          exact hJ_104 w1 w2 w4 w5 w6 q_24 4 _ _ _ hP hS (lv_sub hl [0, 1, 2, 3, 4, 5] rfl) hs
      have hJ_51 : ∀ (w1 : Int32) (w2 : Int32) (w3 : Int32) (w4 : Int32) (w5 : Int32) (t0 : Int32) (H : Heap) (locs : List Loc) (ls : Array Slot), va_P D vwCl (gW cy ad v u) H → va_S (gA z0) s.heap H locs → lv_has ls 9 [(0, .ref (ad 0)), (1, .int w1), (2, .int w2), (3, .int w3), (4, .int w4), (5, .int w5)] → sL_isWorldSo_51 n (sL_isWorldSo_23 n k) v w1 w2 w3 w4 w5 t0 = some r0 → W p l e (headSpec wsL_isWorldSo ({ frames := 4, cells := 0, slots := 0, locals := 89 } : Room)).room s m ([.ref (ad 0)] : List Value).toArray below meth c H locs 0 0 (MQ below (gQi D cy ad tL z0 v u r0) ([.ref (ad 0)] : List Value).toArray s 0 0 (gA z0)) (F0 m 51 ls [.int t0]) := by
        intro w1 w2 w3 w4 w5 t0 H locs ls hP hS hl hs
        unfold sL_isWorldSo_51 at hs
        refine lv_istore (lv' := [(6, .int t0), (0, .ref (ad 0)), (1, .int w1), (2, .int w2), (3, .int w3), (4, .int w4), (5, .int w5)]) hx hb dL_isWorldSo_51 hl (by decide) rfl (fun ls hl => ?_)
        refine lv_iload_n hx hb dL_isWorldSo_53 rfl (lv_at hl 4 rfl) ?_
        refine lv_if_eq (tgt := 172) hx hb dL_isWorldSo_54 (by decide) (fun hc => ?_) (fun hc => ?_)
        · have hs := g_t hs hc
          refine lv_iconst (v := 0) hx hb dL_isWorldSo_172 (by decide) ?_
          exact hJ_173 w1 w2 w4 w5 t0 0 _ _ _ hP hS (lv_sub hl [1, 2, 3, 5, 6, 0] rfl) hs
        · have hs := g_f hs hc
          refine lv_iload hx hb dL_isWorldSo_57 (lv_at hl 0 rfl) ?_
          refine lv_if_eq (tgt := 82) hx hb dL_isWorldSo_59 (by decide) (fun hc => ?_) (fun hc => ?_)
          · have hs := g_t hs hc
            exact hJ_82 w1 w2 w4 w5 t0 _ _ _ hP hS (lv_sub hl [1, 2, 3, 5, 6, 0] rfl) hs
          · have hs := g_f hs hc
            refine lv_aload_n hx hb dL_isWorldSo_62 rfl (lv_at hl 1 rfl) ?_
            refine lv_iload hx hb dL_isWorldSo_63 (lv_at hl 6 rfl) ?_
            refine lv_iconst (v := 5) hx hb dL_isWorldSo_65 (by decide) ?_
            refine lv_isub hx hb dL_isWorldSo_66 ?_
            refine g_bind hs (fun q_33 hq_33 hs => ?_)
            refine gCS_i (As := [.ref (ad 0), .int (w5 - 5)]) (rest := []) ⟨hx, hb, hml, hown, hts⟩ (cL_isBox_c l D cy ad tL z0 hI v u (w5 - 5) q_33 hq_33) (va_cwS 2 hts gL_isWorldSo_L_isBox rfl rfl rfl (by decide +kernel) ⟨Nat.le_of_ble_eq_true rfl, Nat.le_of_ble_eq_true rfl⟩) hK hP hS hl.1 rfl rfl (Nat.le_of_ble_eq_true rfl) dL_isWorldSo_67 ⟨Nat.zero_le _, Nat.zero_le _⟩ (fun H locs hP hS => ?_)
            refine lv_if_eq (tgt := 172) hx hb dL_isWorldSo_70 (by decide) (fun hc => ?_) (fun hc => ?_)
            · have hs := g_t hs hc
              refine lv_iconst (v := 0) hx hb dL_isWorldSo_172 (by decide) ?_
              exact hJ_173 w1 w2 w4 w5 t0 0 _ _ _ hP hS (lv_sub hl [1, 2, 3, 5, 6, 0] rfl) hs
            · have hs := g_f hs hc
              refine lv_aload_n hx hb dL_isWorldSo_73 rfl (lv_at hl 1 rfl) ?_
              refine lv_iload hx hb dL_isWorldSo_74 (lv_at hl 5 rfl) ?_
              refine g_bind hs (fun q_34 hq_34 hs => ?_)
              refine gCS_i (As := [.ref (ad 0), .int w4]) (rest := []) ⟨hx, hb, hml, hown, hts⟩ (cL_isBox_c l D cy ad tL z0 hI v u w4 q_34 hq_34) (va_cwS 2 hts gL_isWorldSo_L_isBox rfl rfl rfl (by decide +kernel) ⟨Nat.le_of_ble_eq_true rfl, Nat.le_of_ble_eq_true rfl⟩) hK hP hS hl.1 rfl rfl (Nat.le_of_ble_eq_true rfl) dL_isWorldSo_76 ⟨Nat.zero_le _, Nat.zero_le _⟩ (fun H locs hP hS => ?_)
              refine lv_if_ne (tgt := 172) hx hb dL_isWorldSo_79 (by decide) (fun hc => ?_) (fun hc => ?_)
              · have hs := g_f hs hc
                refine lv_iconst (v := 0) hx hb dL_isWorldSo_172 (by decide) ?_
                exact hJ_173 w1 w2 w4 w5 t0 0 _ _ _ hP hS (lv_sub hl [1, 2, 3, 5, 6, 0] rfl) hs
              · have hs := g_t hs hc
                exact hJ_82 w1 w2 w4 w5 t0 _ _ _ hP hS (lv_sub hl [1, 2, 3, 5, 6, 0] rfl) hs
      intro w1 w2 w3 w4 H locs ls hP hS hl hs
      rw [sL_isWorldSo_23] at hs
      refine lv_iload hx hb dL_isWorldSo_23 (lv_at hl 4 rfl) ?_
      refine lv_aload_n hx hb dL_isWorldSo_25 rfl (lv_at hl 0 rfl) ?_
      refine g_bind hs (fun q_2 hq_2 hs => ?_)
      refine gCV_i (As := []) (rest := [.int w4]) ⟨hx, hb, hml, hown, hts⟩ (cX5_objects_c l D cy ad tL z0 hI v u q_2 hq_2) (cwV 0 hts gL_isWorldSo_X5_objects rfl rfl rfl (by decide +kernel) ⟨Nat.le_of_ble_eq_true rfl, Nat.le_of_ble_eq_true rfl⟩) hK hP hS (va_recv hK.1 hP (ci := 5) (q0 := 0) rfl (gW_5 kd0)) hl.1 rfl rfl (Nat.le_of_ble_eq_true rfl) dL_isWorldSo_26 ⟨Nat.zero_le _, Nat.zero_le _⟩ (fun H locs hP hS => ?_)
      refine lv_icmp_ge (tgt := 271) hx hb dL_isWorldSo_29 (by decide) (fun hc => ?_) (fun hc => ?_)
      · have hs := g_t hs hc
        refine lv_aload_n hx hb dL_isWorldSo_271 rfl (lv_at hl 0 rfl) ?_
        refine lv_iconst (v := 1) hx hb dL_isWorldSo_272 (by decide) ?_
        refine lv_iconst (v := (-1)) hx hb dL_isWorldSo_273 (by decide) ?_
        refine g_bind hs (fun q_3 hq_3 hs => ?_)
        refine gCV_i (As := [.int 1, .int ((-1))]) (rest := []) ⟨hx, hb, hml, hown, hts⟩ (cX5_fitting_c l D cy ad tL z0 hI n v u 1 ((-1)) q_3 hq_3) (cwV 2 hts gL_isWorldSo_X5_fitting rfl rfl rfl (by decide +kernel) ⟨Nat.le_of_ble_eq_true rfl, Nat.le_of_ble_eq_true rfl⟩) hK hP hS (va_recv hK.1 hP (ci := 5) (q0 := 0) rfl (gW_5 kd0)) hl.1 rfl rfl (Nat.le_of_ble_eq_true rfl) dL_isWorldSo_274 ⟨Nat.zero_le _, Nat.zero_le _⟩ (fun H locs hP hS => ?_)
        refine lv_aload_n hx hb dL_isWorldSo_277 rfl (lv_at hl 0 rfl) ?_
        refine lv_iconst (v := 5) hx hb dL_isWorldSo_278 (by decide) ?_
        refine lv_iconst (v := (-1)) hx hb dL_isWorldSo_279 (by decide) ?_
        refine g_bind hs (fun q_4 hq_4 hs => ?_)
        refine gCV_i (As := [.int 5, .int ((-1))]) (rest := [.int q_3]) ⟨hx, hb, hml, hown, hts⟩ (cX5_fitting_c l D cy ad tL z0 hI n v u 5 ((-1)) q_4 hq_4) (cwV 2 hts gL_isWorldSo_X5_fitting rfl rfl rfl (by decide +kernel) ⟨Nat.le_of_ble_eq_true rfl, Nat.le_of_ble_eq_true rfl⟩) hK hP hS (va_recv hK.1 hP (ci := 5) (q0 := 0) rfl (gW_5 kd0)) hl.1 rfl rfl (Nat.le_of_ble_eq_true rfl) dL_isWorldSo_280 ⟨Nat.zero_le _, Nat.zero_le _⟩ (fun H locs hP hS => ?_)
        refine lv_ior hx hb dL_isWorldSo_283 ?_
        refine lv_istore (lv' := [(4, .int (q_3 ||| q_4)), (0, .ref (ad 0)), (1, .int w1), (2, .int w2), (3, .int w3)]) hx hb dL_isWorldSo_284 hl (by decide) rfl (fun ls hl => ?_)
        refine lv_aload_n hx hb dL_isWorldSo_286 rfl (lv_at hl 1 rfl) ?_
        refine lv_iconst (v := 4) hx hb dL_isWorldSo_287 (by decide) ?_
        refine g_bind hs (fun q_5 hq_5 hs => ?_)
        refine gCV_i (As := [.int 4]) (rest := []) ⟨hx, hb, hml, hown, hts⟩ (cX5_suitable_c l D cy ad tL z0 hI n v u 4 q_5 hq_5) (cwV 1 hts gL_isWorldSo_X5_suitable rfl rfl rfl (by decide +kernel) ⟨Nat.le_of_ble_eq_true rfl, Nat.le_of_ble_eq_true rfl⟩) hK hP hS (va_recv hK.1 hP (ci := 5) (q0 := 0) rfl (gW_5 kd0)) hl.1 rfl rfl (Nat.le_of_ble_eq_true rfl) dL_isWorldSo_288 ⟨Nat.zero_le _, Nat.zero_le _⟩ (fun H locs hP hS => ?_)
        refine lv_istore (lv' := [(5, .int q_5), (4, .int (q_3 ||| q_4)), (0, .ref (ad 0)), (1, .int w1), (2, .int w2), (3, .int w3)]) hx hb dL_isWorldSo_291 hl (by decide) rfl (fun ls hl => ?_)
        refine lv_iload_n hx hb dL_isWorldSo_293 rfl (lv_at hl 5 rfl) ?_
        refine lv_if_eq (tgt := 374) hx hb dL_isWorldSo_294 (by decide) (fun hc => ?_) (fun hc => ?_)
        · have hs := g_t hs hc
          refine lv_iconst (v := 0) hx hb dL_isWorldSo_374 (by decide) ?_
          exact hJ_375 w1 0 _ _ _ hP hS (lv_sub hl [2, 3] rfl) hs
        · have hs := g_f hs hc
          refine lv_aload_n hx hb dL_isWorldSo_297 rfl (lv_at hl 2 rfl) ?_
          refine g_bind hs (fun q_15 hq_15 hs => ?_)
          refine gCV_i (As := []) (rest := []) ⟨hx, hb, hml, hown, hts⟩ (cX5_visible_c l D cy ad tL z0 hI n v u q_15 hq_15) (cwV 0 hts gL_isWorldSo_X5_visible rfl rfl rfl (by decide +kernel) ⟨Nat.le_of_ble_eq_true rfl, Nat.le_of_ble_eq_true rfl⟩) hK hP hS (va_recv hK.1 hP (ci := 5) (q0 := 0) rfl (gW_5 kd0)) hl.1 rfl rfl (Nat.le_of_ble_eq_true rfl) dL_isWorldSo_298 ⟨Nat.zero_le _, Nat.zero_le _⟩ (fun H locs hP hS => ?_)
          refine lv_iload_n hx hb dL_isWorldSo_301 rfl (lv_at hl 3 rfl) ?_
          refine lv_icmp_ne (tgt := 374) hx hb dL_isWorldSo_302 (by decide) (fun hc => ?_) (fun hc => ?_)
          · have hs := g_f hs hc
            refine lv_iconst (v := 0) hx hb dL_isWorldSo_374 (by decide) ?_
            exact hJ_375 w1 0 _ _ _ hP hS (lv_sub hl [2, 3] rfl) hs
          · have hs := g_t hs hc
            refine lv_aload_n hx hb dL_isWorldSo_305 rfl (lv_at hl 2 rfl) ?_
            refine lv_iconst (v := 1) hx hb dL_isWorldSo_306 (by decide) ?_
            refine g_bind hs (fun q_16 hq_16 hs => ?_)
            refine gCV_i (As := [.int 1]) (rest := []) ⟨hx, hb, hml, hown, hts⟩ (cX5_suitable_c l D cy ad tL z0 hI n v u 1 q_16 hq_16) (cwV 1 hts gL_isWorldSo_X5_suitable rfl rfl rfl (by decide +kernel) ⟨Nat.le_of_ble_eq_true rfl, Nat.le_of_ble_eq_true rfl⟩) hK hP hS (va_recv hK.1 hP (ci := 5) (q0 := 0) rfl (gW_5 kd0)) hl.1 rfl rfl (Nat.le_of_ble_eq_true rfl) dL_isWorldSo_307 ⟨Nat.zero_le _, Nat.zero_le _⟩ (fun H locs hP hS => ?_)
            refine lv_iload_n hx hb dL_isWorldSo_310 rfl (lv_at hl 4 rfl) ?_
            refine lv_icmp_ne (tgt := 374) hx hb dL_isWorldSo_311 (by decide) (fun hc => ?_) (fun hc => ?_)
            · have hs := g_f hs hc
              refine lv_iconst (v := 0) hx hb dL_isWorldSo_374 (by decide) ?_
              exact hJ_375 w1 0 _ _ _ hP hS (lv_sub hl [2, 3] rfl) hs
            · have hs := g_t hs hc
              refine lv_aload_n hx hb dL_isWorldSo_314 rfl (lv_at hl 2 rfl) ?_
              refine lv_iconst (v := 0) hx hb dL_isWorldSo_315 (by decide) ?_
              refine g_bind hs (fun q_17 hq_17 hs => ?_)
              refine gCV_i (As := [.int 0]) (rest := []) ⟨hx, hb, hml, hown, hts⟩ (cX5_suitable_c l D cy ad tL z0 hI n v u 0 q_17 hq_17) (cwV 1 hts gL_isWorldSo_X5_suitable rfl rfl rfl (by decide +kernel) ⟨Nat.le_of_ble_eq_true rfl, Nat.le_of_ble_eq_true rfl⟩) hK hP hS (va_recv hK.1 hP (ci := 5) (q0 := 0) rfl (gW_5 kd0)) hl.1 rfl rfl (Nat.le_of_ble_eq_true rfl) dL_isWorldSo_316 ⟨Nat.zero_le _, Nat.zero_le _⟩ (fun H locs hP hS => ?_)
              refine lv_iload_n hx hb dL_isWorldSo_319 rfl (lv_at hl 3 rfl) ?_
              refine lv_iload_n hx hb dL_isWorldSo_320 rfl (lv_at hl 4 rfl) ?_
              refine lv_iconst (v := (-1)) hx hb dL_isWorldSo_321 (by decide) ?_
              refine lv_ixor hx hb dL_isWorldSo_322 ?_
              refine lv_iand hx hb dL_isWorldSo_323 ?_
              refine lv_icmp_ne (tgt := 374) hx hb dL_isWorldSo_324 (by decide) (fun hc => ?_) (fun hc => ?_)
              · have hs := g_f hs hc
                refine lv_iconst (v := 0) hx hb dL_isWorldSo_374 (by decide) ?_
                exact hJ_375 w1 0 _ _ _ hP hS (lv_sub hl [2, 3] rfl) hs
              · have hs := g_t hs hc
                refine lv_aload_n hx hb dL_isWorldSo_327 rfl (lv_at hl 2 rfl) ?_
                refine lv_iconst (v := 2) hx hb dL_isWorldSo_328 (by decide) ?_
                refine g_bind hs (fun q_18 hq_18 hs => ?_)
                refine gCV_i (As := [.int 2]) (rest := []) ⟨hx, hb, hml, hown, hts⟩ (cX5_suitable_c l D cy ad tL z0 hI n v u 2 q_18 hq_18) (cwV 1 hts gL_isWorldSo_X5_suitable rfl rfl rfl (by decide +kernel) ⟨Nat.le_of_ble_eq_true rfl, Nat.le_of_ble_eq_true rfl⟩) hK hP hS (va_recv hK.1 hP (ci := 5) (q0 := 0) rfl (gW_5 kd0)) hl.1 rfl rfl (Nat.le_of_ble_eq_true rfl) dL_isWorldSo_329 ⟨Nat.zero_le _, Nat.zero_le _⟩ (fun H locs hP hS => ?_)
                refine lv_iload_n hx hb dL_isWorldSo_332 rfl (lv_at hl 4 rfl) ?_
                refine lv_iload hx hb dL_isWorldSo_333 (lv_at hl 1 rfl) ?_
                refine lv_iconst (v := (-1)) hx hb dL_isWorldSo_335 (by decide) ?_
                refine lv_ixor hx hb dL_isWorldSo_336 ?_
                refine lv_iand hx hb dL_isWorldSo_337 ?_
                refine lv_icmp_ne (tgt := 374) hx hb dL_isWorldSo_338 (by decide) (fun hc => ?_) (fun hc => ?_)
                · have hs := g_f hs hc
                  refine lv_iconst (v := 0) hx hb dL_isWorldSo_374 (by decide) ?_
                  exact hJ_375 w1 0 _ _ _ hP hS (lv_sub hl [2, 3] rfl) hs
                · have hs := g_t hs hc
                  refine lv_aload_n hx hb dL_isWorldSo_341 rfl (lv_at hl 2 rfl) ?_
                  refine lv_iconst (v := 3) hx hb dL_isWorldSo_342 (by decide) ?_
                  refine g_bind hs (fun q_19 hq_19 hs => ?_)
                  refine gCV_i (As := [.int 3]) (rest := []) ⟨hx, hb, hml, hown, hts⟩ (cX5_suitable_c l D cy ad tL z0 hI n v u 3 q_19 hq_19) (cwV 1 hts gL_isWorldSo_X5_suitable rfl rfl rfl (by decide +kernel) ⟨Nat.le_of_ble_eq_true rfl, Nat.le_of_ble_eq_true rfl⟩) hK hP hS (va_recv hK.1 hP (ci := 5) (q0 := 0) rfl (gW_5 kd0)) hl.1 rfl rfl (Nat.le_of_ble_eq_true rfl) dL_isWorldSo_343 ⟨Nat.zero_le _, Nat.zero_le _⟩ (fun H locs hP hS => ?_)
                  refine lv_iload_n hx hb dL_isWorldSo_346 rfl (lv_at hl 3 rfl) ?_
                  refine lv_iload hx hb dL_isWorldSo_347 (lv_at hl 1 rfl) ?_
                  refine lv_iand hx hb dL_isWorldSo_349 ?_
                  refine lv_iload hx hb dL_isWorldSo_350 (lv_at hl 0 rfl) ?_
                  refine lv_iconst (v := (-1)) hx hb dL_isWorldSo_352 (by decide) ?_
                  refine lv_ixor hx hb dL_isWorldSo_353 ?_
                  refine lv_iand hx hb dL_isWorldSo_354 ?_
                  refine lv_icmp_ne (tgt := 374) hx hb dL_isWorldSo_355 (by decide) (fun hc => ?_) (fun hc => ?_)
                  · have hs := g_f hs hc
                    refine lv_iconst (v := 0) hx hb dL_isWorldSo_374 (by decide) ?_
                    exact hJ_375 w1 0 _ _ _ hP hS (lv_sub hl [2, 3] rfl) hs
                  · have hs := g_t hs hc
                    refine lv_iload hx hb dL_isWorldSo_358 (lv_at hl 0 rfl) ?_
                    refine lv_iload_n hx hb dL_isWorldSo_360 rfl (lv_at hl 3 rfl) ?_
                    refine lv_iload hx hb dL_isWorldSo_361 (lv_at hl 1 rfl) ?_
                    refine lv_iand hx hb dL_isWorldSo_363 ?_
                    refine lv_iconst (v := (-1)) hx hb dL_isWorldSo_364 (by decide) ?_
                    refine lv_ixor hx hb dL_isWorldSo_365 ?_
                    refine lv_iand hx hb dL_isWorldSo_366 ?_
                    refine lv_if_ne (tgt := 374) hx hb dL_isWorldSo_367 (by decide) (fun hc => ?_) (fun hc => ?_)
                    · have hs := g_f hs hc
                      refine lv_iconst (v := 0) hx hb dL_isWorldSo_374 (by decide) ?_
                      exact hJ_375 w1 0 _ _ _ hP hS (lv_sub hl [2, 3] rfl) hs
                    · have hs := g_t hs hc
                      refine lv_iconst (v := 1) hx hb dL_isWorldSo_370 (by decide) ?_
                      refine lv_goto (tgt := 375) hx hb dL_isWorldSo_371 (by decide) ?_
                      exact hJ_375 w1 1 _ _ _ hP hS (lv_sub hl [2, 3] rfl) hs
      · have hs := g_f hs hc
        refine lv_aload_n hx hb dL_isWorldSo_32 rfl (lv_at hl 0 rfl) ?_
        refine lv_iload hx hb dL_isWorldSo_33 (lv_at hl 4 rfl) ?_
        refine g_bind hs (fun q_20 hq_20 hs => ?_)
        refine gCV_i (As := [.int w4]) (rest := []) ⟨hx, hb, hml, hown, hts⟩ (cX5_place_c l D cy ad tL z0 hI v u w4 q_20 hq_20) (cwV 1 hts gL_isWorldSo_X5_place rfl rfl rfl (by decide +kernel) ⟨Nat.le_of_ble_eq_true rfl, Nat.le_of_ble_eq_true rfl⟩) hK hP hS (va_recv hK.1 hP (ci := 5) (q0 := 0) rfl (gW_5 kd0)) hl.1 rfl rfl (Nat.le_of_ble_eq_true rfl) dL_isWorldSo_35 ⟨Nat.zero_le _, Nat.zero_le _⟩ (fun H locs hP hS => ?_)
        refine lv_istore (lv' := [(5, .int q_20), (0, .ref (ad 0)), (1, .int w1), (2, .int w2), (3, .int w3), (4, .int w4)]) hx hb dL_isWorldSo_38 hl (by decide) rfl (fun ls hl => ?_)
        refine lv_iload hx hb dL_isWorldSo_40 (lv_at hl 0 rfl) ?_
        refine lv_iconst (v := 4) hx hb dL_isWorldSo_42 (by decide) ?_
        refine lv_icmp_le (tgt := 50) hx hb dL_isWorldSo_43 (by decide) (fun hc => ?_) (fun hc => ?_)
        · have hs := g_t hs hc
          refine lv_iconst (v := 0) hx hb dL_isWorldSo_50 (by decide) ?_
          exact hJ_51 w1 w2 w3 w4 q_20 0 _ _ _ hP hS (lv_sub hl [1, 2, 3, 4, 5, 0] rfl) hs
        · have hs := g_f hs hc
          refine lv_iconst (v := 1) hx hb dL_isWorldSo_46 (by decide) ?_
          refine lv_goto (tgt := 51) hx hb dL_isWorldSo_47 (by decide) ?_
          exact hJ_51 w1 w2 w3 w4 q_20 1 _ _ _ hP hS (lv_sub hl [1, 2, 3, 4, 5, 0] rfl) hs
  unfold sL_isWorldSo at hs
  refine lv_iconst (v := 0) hx hb dL_isWorldSo_0 (by decide) ?_
  refine lv_istore_n (lv' := [(1, .int 0), (0, .ref (ad 0))]) hx hb dL_isWorldSo_1 rfl hl (by decide) rfl (fun ls hl => ?_)
  refine lv_iconst (v := 0) hx hb dL_isWorldSo_2 (by decide) ?_
  refine lv_istore_n (lv' := [(2, .int 0), (1, .int 0), (0, .ref (ad 0))]) hx hb dL_isWorldSo_3 rfl hl (by decide) rfl (fun ls hl => ?_)
  refine lv_aload_n hx hb dL_isWorldSo_4 rfl (lv_at hl 2 rfl) ?_
  refine lv_iconst (v := 4) hx hb dL_isWorldSo_5 (by decide) ?_
  refine g_bind hs (fun q_1 hq_1 hs => ?_)
  refine gCV_i (As := [.int 4]) (rest := []) ⟨hx, hb, hml, hown, hts⟩ (cX5_objectsAt_c l D cy ad tL z0 hI n v u 4 q_1 hq_1) (cwV 1 hts gL_isWorldSo_X5_objectsAt rfl rfl rfl (by decide +kernel) ⟨Nat.le_of_ble_eq_true rfl, Nat.le_of_ble_eq_true rfl⟩) hK hP hS (va_recv hK.1 hP (ci := 5) (q0 := 0) rfl (gW_5 kd0)) hl.1 rfl rfl (Nat.le_of_ble_eq_true rfl) dL_isWorldSo_6 ⟨Nat.zero_le _, Nat.zero_le _⟩ (fun H locs hP hS => ?_)
  refine lv_bipush (v := 6) hx hb dL_isWorldSo_9 (by decide) ?_
  refine lv_icmp_gt (tgt := 18) hx hb dL_isWorldSo_11 (by decide) (fun hc => ?_) (fun hc => ?_)
  · have hs := g_t hs hc
    refine lv_iconst (v := 0) hx hb dL_isWorldSo_18 (by decide) ?_
    refine lv_istore_n (lv' := [(3, .int 0), (2, .int 0), (1, .int 0), (0, .ref (ad 0))]) hx hb dL_isWorldSo_19 rfl hl (by decide) rfl (fun ls hl => ?_)
    refine lv_iconst (v := 0) hx hb dL_isWorldSo_20 (by decide) ?_
    refine lv_istore (lv' := [(4, .int 0), (3, .int 0), (2, .int 0), (1, .int 0), (0, .ref (ad 0))]) hx hb dL_isWorldSo_21 hl (by decide) rfl (fun ls hl => ?_)
    exact hL_23 n 0 0 0 0 _ _ _ hP hS (lv_sub hl [4, 3, 2, 1, 0] rfl) hs
  · have hs := g_f hs hc
    refine lv_iconst (v := 1) hx hb dL_isWorldSo_14 (by decide) ?_
    refine lv_goto (tgt := 19) hx hb dL_isWorldSo_15 (by decide) ?_
    refine lv_istore_n (lv' := [(3, .int 1), (2, .int 0), (1, .int 0), (0, .ref (ad 0))]) hx hb dL_isWorldSo_19 rfl hl (by decide) rfl (fun ls hl => ?_)
    refine lv_iconst (v := 0) hx hb dL_isWorldSo_20 (by decide) ?_
    refine lv_istore (lv' := [(4, .int 0), (3, .int 1), (2, .int 0), (1, .int 0), (0, .ref (ad 0))]) hx hb dL_isWorldSo_21 hl (by decide) rfl (fun ls hl => ?_)
    exact hL_23 n 0 0 1 0 _ _ _ hP hS (lv_sub hl [4, 3, 2, 1, 0] rfl) hs
set_option maxHeartbeats 4000000 in
set_option maxRecDepth 100000 in
theorem cL_isEnterSo_c (l : Launch) (D : va_G) (cy : Nat → ClassId) (ad : Nat → Nat) (tL z0 : Nat) (hI : gI z0 ad) (n : Nat) (v : gV) (u : Int64) (x1 : Int32) (r0 : Int32) (v1 : gV) (hs : sL_isEnterSo n v x1 = some (r0, v1)) : Met l yL_isEnterSo wsL_isEnterSo ({ frames := 7, cells := 0, slots := 0, locals := 161 } : Room) (gPc D cy ad tL z0 v u [.ref (ad 0), .int x1]) (gQi D cy ad tL z0 v1 u r0) 0 0 (gA z0) := by
  refine Met.ofW (cc := cL_isEnterSo) (maxL := 14) (ret := (some .boolean)) (by decide) rfl ?_
  intro p e s m args below meth c s₁ B hml hv
  obtain ⟨rfl, hB0⟩ := hv
  have hP : va_P D vwCl (gW cy ad v u) s.heap := hB0.1
  have hK : gK D cy tL z0 s s.heap := hB0.2
  have hx := B.exec
  have hb := B.bytes
  have hr := B.returns
  have hts := atoms_spec (ws := wsL_isEnterSo) B.pre
  have hown : s.vm.findClass RL = some m.cls := findClass_of_methodNamed B.named
  have hlocks := B.notSynchronized
  have hS : va_S (gA z0) s.heap s.heap [] := va_S.rf
  have hl := lv_entry ([.ref (ad 0), .int x1]) (n := 14) (Nat.le_of_ble_eq_true rfl)
  rw [lg_entry_eq]
  generalize (lg_sl ([.ref (ad 0), .int x1]) ++ List.replicate (14 - (lg_sl ([.ref (ad 0), .int x1])).length) Slot.unset).toArray = ls at hl ⊢
  have hl : lv_has ls 14 [(0, .ref (ad 0)), (1, .int x1)] := hl
  clear hB0
  have hJ_257 : ∀ (v : gV) (w1 : Int32) (w2 : Int64) (t0 : Int32) (H : Heap) (locs : List Loc) (ls : Array Slot), va_P D vwCl (gW cy ad v u) H → va_S (gA z0) s.heap H locs → lv_has ls 14 [(0, .ref (ad 0)), (1, .int w1), (2, .long w2)] → sL_isEnterSo_257 n v w1 w2 t0 = some (r0, v1) → W p l e (headSpec wsL_isEnterSo ({ frames := 7, cells := 0, slots := 0, locals := 161 } : Room)).room s m ([.ref (ad 0), .int x1] : List Value).toArray below meth c H locs 0 0 (MQ below (gQi D cy ad tL z0 v1 u r0) ([.ref (ad 0), .int x1] : List Value).toArray s 0 0 (gA z0)) (F0 m 257 ls [.int t0]) := by
    intro v w1 w2 t0 H locs ls hP hS hl hs
    unfold sL_isEnterSo_257 at hs
    refine lv_istore (lv' := [(11, .int t0), (0, .ref (ad 0)), (1, .int w1), (2, .long w2)]) hx hb dL_isEnterSo_257 hl (by decide) rfl (fun ls hl => ?_)
    refine lv_iload_n hx hb dL_isEnterSo_259 rfl (lv_at hl 2 rfl) ?_
    refine lv_if_eq (tgt := 295) hx hb dL_isEnterSo_260 (by decide) (fun hc => ?_) (fun hc => ?_)
    · have hs := g_t hs hc
      refine lv_iload hx hb dL_isEnterSo_295 (lv_at hl 0 rfl) ?_
      refine g_chk hs (fun hc hs => ?_)
      exact gRet_z hx hb hr hlocks (g_nz hc) hK hP hS (g_some2 hs) dL_isEnterSo_297
    · have hs := g_f hs hc
      refine lv_aload_n hx hb dL_isEnterSo_263 rfl (lv_at hl 1 rfl) ?_
      refine g_bind hs (fun q_10 hq_10 hs => ?_)
      refine gCV_i (As := []) (rest := []) ⟨hx, hb, hml, hown, hts⟩ (cX5_undo_c l D cy ad tL z0 hI n v u q_10.1 q_10.2 hq_10) (cwV 0 hts gL_isEnterSo_X5_undo rfl rfl rfl (by decide +kernel) ⟨Nat.le_of_ble_eq_true rfl, Nat.le_of_ble_eq_true rfl⟩) hK hP hS (va_recv hK.1 hP (ci := 5) (q0 := 0) rfl (gW_5 kd0)) hl.1 rfl rfl (Nat.le_of_ble_eq_true rfl) dL_isEnterSo_264 ⟨Nat.zero_le _, Nat.zero_le _⟩ (fun H locs hP hS => ?_)
      refine lv_istore (lv' := [(13, .int q_10.1), (11, .int t0), (0, .ref (ad 0)), (1, .int w1), (2, .long w2)]) hx hb dL_isEnterSo_267 hl (by decide) rfl (fun ls hl => ?_)
      refine lv_iload hx hb dL_isEnterSo_269 (lv_at hl 1 rfl) ?_
      refine lv_if_eq (tgt := 292) hx hb dL_isEnterSo_271 (by decide) (fun hc => ?_) (fun hc => ?_)
      · have hs := g_t hs hc
        refine lv_iconst (v := 0) hx hb dL_isEnterSo_292 (by decide) ?_
        refine lv_istore (lv' := [(11, .int 0), (13, .int q_10.1), (0, .ref (ad 0)), (1, .int w1), (2, .long w2)]) hx hb dL_isEnterSo_293 hl (by decide) rfl (fun ls hl => ?_)
        refine lv_iload hx hb dL_isEnterSo_295 (lv_at hl 0 rfl) ?_
        exact gRet_z hx hb hr hlocks rfl hK hP hS (g_some2 hs) dL_isEnterSo_297
      · have hs := g_f hs hc
        refine lv_iload hx hb dL_isEnterSo_274 (lv_at hl 0 rfl) ?_
        refine lv_if_lt (tgt := 292) hx hb dL_isEnterSo_276 (by decide) (fun hc => ?_) (fun hc => ?_)
        · have hs := g_t hs hc
          refine lv_iconst (v := 0) hx hb dL_isEnterSo_292 (by decide) ?_
          refine lv_istore (lv' := [(11, .int 0), (13, .int q_10.1), (0, .ref (ad 0)), (1, .int w1), (2, .long w2)]) hx hb dL_isEnterSo_293 hl (by decide) rfl (fun ls hl => ?_)
          refine lv_iload hx hb dL_isEnterSo_295 (lv_at hl 0 rfl) ?_
          exact gRet_z hx hb hr hlocks rfl hK hP hS (g_some2 hs) dL_isEnterSo_297
        · have hs := g_f hs hc
          refine lv_aload_n hx hb dL_isEnterSo_279 rfl (lv_at hl 2 rfl) ?_
          refine g_bind hs (fun q_11 hq_11 hs => ?_)
          refine gCV_l (As := []) (rest := []) ⟨hx, hb, hml, hown, hts⟩ (cX5_digest_c l D cy ad tL z0 hI n q_10.2 u q_11 hq_11) (cwV 0 hts gL_isEnterSo_X5_digest rfl rfl rfl (by decide +kernel) ⟨Nat.le_of_ble_eq_true rfl, Nat.le_of_ble_eq_true rfl⟩) hK hP hS (va_recv hK.1 hP (ci := 5) (q0 := 0) rfl (gW_5 kd0)) hl.1 rfl rfl (Nat.le_of_ble_eq_true rfl) dL_isEnterSo_280 ⟨Nat.zero_le _, Nat.zero_le _⟩ (fun H locs hP hS => ?_)
          refine lv_lload_n hx hb dL_isEnterSo_283 rfl (lv_at hl 4 rfl) ?_
          refine W.lcmp hx hb dL_isEnterSo_284 ?_
          refine lv_if_ne (tgt := 292) hx hb dL_isEnterSo_285 (by decide) (fun hc => ?_) (fun hc => ?_)
          · have hs := g_f hs hc
            refine lv_iconst (v := 0) hx hb dL_isEnterSo_292 (by decide) ?_
            refine lv_istore (lv' := [(11, .int 0), (13, .int q_10.1), (0, .ref (ad 0)), (1, .int w1), (2, .long w2)]) hx hb dL_isEnterSo_293 hl (by decide) rfl (fun ls hl => ?_)
            refine lv_iload hx hb dL_isEnterSo_295 (lv_at hl 0 rfl) ?_
            exact gRet_z hx hb hr hlocks rfl hK hP hS (g_some2 hs) dL_isEnterSo_297
          · have hs := g_t hs hc
            refine lv_iconst (v := 1) hx hb dL_isEnterSo_288 (by decide) ?_
            refine lv_goto (tgt := 293) hx hb dL_isEnterSo_289 (by decide) ?_
            refine lv_istore (lv' := [(11, .int 1), (13, .int q_10.1), (0, .ref (ad 0)), (1, .int w1), (2, .long w2)]) hx hb dL_isEnterSo_293 hl (by decide) rfl (fun ls hl => ?_)
            refine lv_iload hx hb dL_isEnterSo_295 (lv_at hl 0 rfl) ?_
            exact gRet_z hx hb hr hlocks rfl hK hP hS (g_some2 hs) dL_isEnterSo_297
  have hJ_249 : ∀ (v : gV) (w1 : Int32) (w2 : Int64) (t0 : Int32) (t1 : Int32) (H : Heap) (locs : List Loc) (ls : Array Slot), va_P D vwCl (gW cy ad v u) H → va_S (gA z0) s.heap H locs → lv_has ls 14 [(0, .ref (ad 0)), (1, .int w1), (2, .long w2)] → sL_isEnterSo_249 n v w1 w2 t0 t1 = some (r0, v1) → W p l e (headSpec wsL_isEnterSo ({ frames := 7, cells := 0, slots := 0, locals := 161 } : Room)).room s m ([.ref (ad 0), .int x1] : List Value).toArray below meth c H locs 0 0 (MQ below (gQi D cy ad tL z0 v1 u r0) ([.ref (ad 0), .int x1] : List Value).toArray s 0 0 (gA z0)) (F0 m 249 ls [.int t1, .int t0]) := by
    intro v w1 w2 t0 t1 H locs ls hP hS hl hs
    unfold sL_isEnterSo_249 at hs
    refine lv_icmp_ne (tgt := 256) hx hb dL_isEnterSo_249 (by decide) (fun hc => ?_) (fun hc => ?_)
    · have hs := g_f hs hc
      refine lv_iconst (v := 0) hx hb dL_isEnterSo_256 (by decide) ?_
      exact hJ_257 v w1 w2 0 _ _ _ hP hS (lv_sub hl [0, 1, 2] rfl) hs
    · have hs := g_t hs hc
      refine lv_iconst (v := 1) hx hb dL_isEnterSo_252 (by decide) ?_
      refine lv_goto (tgt := 257) hx hb dL_isEnterSo_253 (by decide) ?_
      exact hJ_257 v w1 w2 1 _ _ _ hP hS (lv_sub hl [0, 1, 2] rfl) hs
  have hJ_222 : ∀ (v : gV) (w1 : Int32) (w2 : Int64) (w9 : Int32) (H : Heap) (locs : List Loc) (ls : Array Slot), va_P D vwCl (gW cy ad v u) H → va_S (gA z0) s.heap H locs → lv_has ls 14 [(0, .ref (ad 0)), (1, .int w1), (2, .long w2), (9, .int w9)] → sL_isEnterSo_222 n v w1 w2 w9 = some (r0, v1) → W p l e (headSpec wsL_isEnterSo ({ frames := 7, cells := 0, slots := 0, locals := 161 } : Room)).room s m ([.ref (ad 0), .int x1] : List Value).toArray below meth c H locs 0 0 (MQ below (gQi D cy ad tL z0 v1 u r0) ([.ref (ad 0), .int x1] : List Value).toArray s 0 0 (gA z0)) (F0 m 222 ls []) := by
    intro v w1 w2 w9 H locs ls hP hS hl hs
    unfold sL_isEnterSo_222 at hs
    refine lv_aload_n hx hb dL_isEnterSo_222 rfl (lv_at hl 0 rfl) ?_
    refine g_bind hs (fun q_17 hq_17 hs => ?_)
    refine gCV_i (As := []) (rest := []) ⟨hx, hb, hml, hown, hts⟩ (cX5_clearBuffer_c l D cy ad tL z0 hI v u q_17.1 q_17.2 hq_17) (cwV 0 hts gL_isEnterSo_X5_clearBuffer rfl rfl rfl (by decide +kernel) ⟨Nat.le_of_ble_eq_true rfl, Nat.le_of_ble_eq_true rfl⟩) hK hP hS (va_recv hK.1 hP (ci := 5) (q0 := 0) rfl (gW_5 kd0)) hl.1 rfl rfl (Nat.le_of_ble_eq_true rfl) dL_isEnterSo_223 ⟨Nat.zero_le _, Nat.zero_le _⟩ (fun H locs hP hS => ?_)
    refine lv_if_ne (tgt := 256) hx hb dL_isEnterSo_226 (by decide) (fun hc => ?_) (fun hc => ?_)
    · have hs := g_f hs hc
      refine lv_iconst (v := 0) hx hb dL_isEnterSo_256 (by decide) ?_
      exact hJ_257 q_17.2 w1 w2 0 _ _ _ hP hS (lv_sub hl [0, 1, 2] rfl) hs
    · have hs := g_t hs hc
      refine lv_aload_n hx hb dL_isEnterSo_229 rfl (lv_at hl 0 rfl) ?_
      refine g_bind hs (fun q_18 hq_18 hs => ?_)
      refine gCV_i (As := []) (rest := []) ⟨hx, hb, hml, hown, hts⟩ (cX5_savedStates_c l D cy ad tL z0 hI q_17.2 u q_18 hq_18) (cwV 0 hts gL_isEnterSo_X5_savedStates rfl rfl rfl (by decide +kernel) ⟨Nat.le_of_ble_eq_true rfl, Nat.le_of_ble_eq_true rfl⟩) hK hP hS (va_recv hK.1 hP (ci := 5) (q0 := 0) rfl (gW_5 kd0)) hl.1 rfl rfl (Nat.le_of_ble_eq_true rfl) dL_isEnterSo_230 ⟨Nat.zero_le _, Nat.zero_le _⟩ (fun H locs hP hS => ?_)
      refine lv_iload hx hb dL_isEnterSo_233 (lv_at hl 3 rfl) ?_
      refine lv_bipush (v := 6) hx hb dL_isEnterSo_235 (by decide) ?_
      refine lv_icmp_ge (tgt := 247) hx hb dL_isEnterSo_237 (by decide) (fun hc => ?_) (fun hc => ?_)
      · have hs := g_t hs hc
        refine lv_bipush (v := 6) hx hb dL_isEnterSo_247 (by decide) ?_
        exact hJ_249 q_17.2 w1 w2 q_18 6 _ _ _ hP hS (lv_sub hl [0, 1, 2] rfl) hs
      · have hs := g_f hs hc
        refine lv_iload hx hb dL_isEnterSo_240 (lv_at hl 3 rfl) ?_
        refine lv_iconst (v := 1) hx hb dL_isEnterSo_242 (by decide) ?_
        refine lv_iadd hx hb dL_isEnterSo_243 ?_
        refine lv_goto (tgt := 249) hx hb dL_isEnterSo_244 (by decide) ?_
        exact hJ_249 q_17.2 w1 w2 q_18 (w9 + 1) _ _ _ hP hS (lv_sub hl [0, 1, 2] rfl) hs
  have hJ_201 : ∀ (v : gV) (w1 : Int32) (w2 : Int64) (w9 : Int32) (H : Heap) (locs : List Loc) (ls : Array Slot), va_P D vwCl (gW cy ad v u) H → va_S (gA z0) s.heap H locs → lv_has ls 14 [(0, .ref (ad 0)), (1, .int w1), (2, .long w2), (9, .int w9)] → sL_isEnterSo_201 n v w1 w2 w9 = some (r0, v1) → W p l e (headSpec wsL_isEnterSo ({ frames := 7, cells := 0, slots := 0, locals := 161 } : Room)).room s m ([.ref (ad 0), .int x1] : List Value).toArray below meth c H locs 0 0 (MQ below (gQi D cy ad tL z0 v1 u r0) ([.ref (ad 0), .int x1] : List Value).toArray s 0 0 (gA z0)) (F0 m 201 ls []) := by
    intro v w1 w2 w9 H locs ls hP hS hl hs
    unfold sL_isEnterSo_201 at hs
    refine lv_aload_n hx hb dL_isEnterSo_201 rfl (lv_at hl 0 rfl) ?_
    refine g_bind hs (fun q_15 hq_15 hs => ?_)
    refine gCV_i (As := []) (rest := []) ⟨hx, hb, hml, hown, hts⟩ (cX5_candidates_c l D cy ad tL z0 hI v u q_15 hq_15) (cwV 0 hts gL_isEnterSo_X5_candidates rfl rfl rfl (by decide +kernel) ⟨Nat.le_of_ble_eq_true rfl, Nat.le_of_ble_eq_true rfl⟩) hK hP hS (va_recv hK.1 hP (ci := 5) (q0 := 0) rfl (gW_5 kd0)) hl.1 rfl rfl (Nat.le_of_ble_eq_true rfl) dL_isEnterSo_202 ⟨Nat.zero_le _, Nat.zero_le _⟩ (fun H locs hP hS => ?_)
    refine g_bind hs (fun q_16 hq_16 hs => ?_)
    refine gCS_i (As := [.int q_15]) (rest := []) ⟨hx, hb, hml, hown, hts⟩ (cL_size_c l D cy ad tL z0 hI n v u q_15 q_16 hq_16) (va_cwS 1 hts gL_isEnterSo_L_size rfl rfl rfl (by decide +kernel) ⟨Nat.le_of_ble_eq_true rfl, Nat.le_of_ble_eq_true rfl⟩) hK hP hS hl.1 rfl rfl (Nat.le_of_ble_eq_true rfl) dL_isEnterSo_205 ⟨Nat.zero_le _, Nat.zero_le _⟩ (fun H locs hP hS => ?_)
    refine lv_iconst (v := 1) hx hb dL_isEnterSo_208 (by decide) ?_
    refine lv_icmp_le (tgt := 256) hx hb dL_isEnterSo_209 (by decide) (fun hc => ?_) (fun hc => ?_)
    · have hs := g_t hs hc
      refine lv_iconst (v := 0) hx hb dL_isEnterSo_256 (by decide) ?_
      exact hJ_257 v w1 w2 0 _ _ _ hP hS (lv_sub hl [0, 1, 2] rfl) hs
    · have hs := g_f hs hc
      refine lv_goto (tgt := 222) hx hb dL_isEnterSo_212 (by decide) ?_
      exact hJ_222 v w1 w2 w9 _ _ _ hP hS (lv_sub hl [0, 1, 2, 3] rfl) hs
  have hJ_188 : ∀ (v : gV) (w1 : Int32) (w2 : Int64) (w9 : Int32) (w12 : Int32) (H : Heap) (locs : List Loc) (ls : Array Slot), va_P D vwCl (gW cy ad v u) H → va_S (gA z0) s.heap H locs → lv_has ls 14 [(0, .ref (ad 0)), (1, .int w1), (2, .long w2), (9, .int w9), (12, .int w12)] → sL_isEnterSo_188 n v w1 w2 w9 w12 = some (r0, v1) → W p l e (headSpec wsL_isEnterSo ({ frames := 7, cells := 0, slots := 0, locals := 161 } : Room)).room s m ([.ref (ad 0), .int x1] : List Value).toArray below meth c H locs 0 0 (MQ below (gQi D cy ad tL z0 v1 u r0) ([.ref (ad 0), .int x1] : List Value).toArray s 0 0 (gA z0)) (F0 m 188 ls []) := by
    intro v w1 w2 w9 w12 H locs ls hP hS hl hs
    unfold sL_isEnterSo_188 at hs
    refine lv_iload hx hb dL_isEnterSo_188 (lv_at hl 4 rfl) ?_
    refine lv_iconst (v := (-1)) hx hb dL_isEnterSo_190 (by decide) ?_
    refine lv_icmp_eq (tgt := 201) hx hb dL_isEnterSo_191 (by decide) (fun hc => ?_) (fun hc => ?_)
    · have hs := g_t hs hc
      exact hJ_201 v w1 w2 w9 _ _ _ hP hS (lv_sub hl [0, 1, 2, 3] rfl) hs
    · have hs := g_f hs hc
      refine lv_iload hx hb dL_isEnterSo_194 (lv_at hl 4 rfl) ?_
      refine lv_bipush (v := (-5)) hx hb dL_isEnterSo_196 (by decide) ?_
      refine lv_icmp_ne (tgt := 215) hx hb dL_isEnterSo_198 (by decide) (fun hc => ?_) (fun hc => ?_)
      · have hs := g_f hs hc
        refine lv_aload_n hx hb dL_isEnterSo_215 rfl (lv_at hl 0 rfl) ?_
        refine g_bind hs (fun q_19 hq_19 hs => ?_)
        refine gCV_i (As := []) (rest := []) ⟨hx, hb, hml, hown, hts⟩ (cX5_candidates_c l D cy ad tL z0 hI v u q_19 hq_19) (cwV 0 hts gL_isEnterSo_X5_candidates rfl rfl rfl (by decide +kernel) ⟨Nat.le_of_ble_eq_true rfl, Nat.le_of_ble_eq_true rfl⟩) hK hP hS (va_recv hK.1 hP (ci := 5) (q0 := 0) rfl (gW_5 kd0)) hl.1 rfl rfl (Nat.le_of_ble_eq_true rfl) dL_isEnterSo_216 ⟨Nat.zero_le _, Nat.zero_le _⟩ (fun H locs hP hS => ?_)
        refine lv_if_ne (tgt := 256) hx hb dL_isEnterSo_219 (by decide) (fun hc => ?_) (fun hc => ?_)
        · have hs := g_f hs hc
          refine lv_iconst (v := 0) hx hb dL_isEnterSo_256 (by decide) ?_
          exact hJ_257 v w1 w2 0 _ _ _ hP hS (lv_sub hl [0, 1, 2] rfl) hs
        · have hs := g_t hs hc
          exact hJ_222 v w1 w2 w9 _ _ _ hP hS (lv_sub hl [0, 1, 2, 3] rfl) hs
      · have hs := g_t hs hc
        exact hJ_201 v w1 w2 w9 _ _ _ hP hS (lv_sub hl [0, 1, 2, 3] rfl) hs
  have hJ_173 : ∀ (v : gV) (w1 : Int32) (w2 : Int64) (w4 : Int64) (w9 : Int32) (w12 : Int32) (H : Heap) (locs : List Loc) (ls : Array Slot), va_P D vwCl (gW cy ad v u) H → va_S (gA z0) s.heap H locs → lv_has ls 14 [(0, .ref (ad 0)), (1, .int w1), (2, .long w2), (4, .long w4), (9, .int w9), (12, .int w12)] → sL_isEnterSo_173 n v w1 w2 w4 w9 w12 = some (r0, v1) → W p l e (headSpec wsL_isEnterSo ({ frames := 7, cells := 0, slots := 0, locals := 161 } : Room)).room s m ([.ref (ad 0), .int x1] : List Value).toArray below meth c H locs 0 0 (MQ below (gQi D cy ad tL z0 v1 u r0) ([.ref (ad 0), .int x1] : List Value).toArray s 0 0 (gA z0)) (F0 m 173 ls []) := by
    intro v w1 w2 w4 w9 w12 H locs ls hP hS hl hs
    unfold sL_isEnterSo_173 at hs
    refine lv_iload hx hb dL_isEnterSo_173 (lv_at hl 5 rfl) ?_
    refine lv_if_ne (tgt := 188) hx hb dL_isEnterSo_175 (by decide) (fun hc => ?_) (fun hc => ?_)
    · have hs := g_f hs hc
      exact hJ_188 v w1 w2 w9 w12 _ _ _ hP hS (lv_sub hl [0, 1, 2, 4, 5] rfl) hs
    · have hs := g_t hs hc
      refine lv_aload_n hx hb dL_isEnterSo_178 rfl (lv_at hl 0 rfl) ?_
      refine g_bind hs (fun q_20 hq_20 hs => ?_)
      refine gCS_l (As := [.ref (ad 0)]) (rest := []) ⟨hx, hb, hml, hown, hts⟩ (cL_world_c l D cy ad tL z0 hI n v u q_20 hq_20) (va_cwS 1 hts gL_isEnterSo_L_world rfl rfl rfl (by decide +kernel) ⟨Nat.le_of_ble_eq_true rfl, Nat.le_of_ble_eq_true rfl⟩) hK hP hS hl.1 rfl rfl (Nat.le_of_ble_eq_true rfl) dL_isEnterSo_179 ⟨Nat.zero_le _, Nat.zero_le _⟩ (fun H locs hP hS => ?_)
      refine lv_lload hx hb dL_isEnterSo_182 (lv_at hl 3 rfl) ?_
      refine W.lcmp hx hb dL_isEnterSo_184 ?_
      refine lv_if_ne (tgt := 256) hx hb dL_isEnterSo_185 (by decide) (fun hc => ?_) (fun hc => ?_)
      · have hs := g_f hs hc
        refine lv_iconst (v := 0) hx hb dL_isEnterSo_256 (by decide) ?_
        exact hJ_257 v w1 w2 0 _ _ _ hP hS (lv_sub hl [0, 1, 2] rfl) hs
      · have hs := g_t hs hc
        exact hJ_188 v w1 w2 w9 w12 _ _ _ hP hS (lv_sub hl [0, 1, 2, 4, 5] rfl) hs
  have hJ_154 : ∀ (v : gV) (w1 : Int32) (w2 : Int64) (w4 : Int64) (w9 : Int32) (w12 : Int32) (t0 : Int32) (t1 : Int32) (t2 : Int32) (H : Heap) (locs : List Loc) (ls : Array Slot), va_P D vwCl (gW cy ad v u) H → va_S (gA z0) s.heap H locs → lv_has ls 14 [(0, .ref (ad 0)), (1, .int w1), (2, .long w2), (4, .long w4), (9, .int w9), (12, .int w12)] → sL_isEnterSo_154 n v w1 w2 w4 w9 w12 t0 t1 t2 = some (r0, v1) → W p l e (headSpec wsL_isEnterSo ({ frames := 7, cells := 0, slots := 0, locals := 161 } : Room)).room s m ([.ref (ad 0), .int x1] : List Value).toArray below meth c H locs 0 0 (MQ below (gQi D cy ad tL z0 v1 u r0) ([.ref (ad 0), .int x1] : List Value).toArray s 0 0 (gA z0)) (F0 m 154 ls [.int t2, .int t1, .int t0]) := by
    intro v w1 w2 w4 w9 w12 t0 t1 t2 H locs ls hP hS hl hs
    unfold sL_isEnterSo_154 at hs
    refine lv_iadd hx hb dL_isEnterSo_154 ?_
    refine lv_icmp_ne (tgt := 256) hx hb dL_isEnterSo_155 (by decide) (fun hc => ?_) (fun hc => ?_)
    · have hs := g_f hs hc
      refine lv_iconst (v := 0) hx hb dL_isEnterSo_256 (by decide) ?_
      exact hJ_257 v w1 w2 0 _ _ _ hP hS (lv_sub hl [0, 1, 2] rfl) hs
    · have hs := g_t hs hc
      refine lv_iload hx hb dL_isEnterSo_158 (lv_at hl 5 rfl) ?_
      refine lv_if_ge (tgt := 173) hx hb dL_isEnterSo_160 (by decide) (fun hc => ?_) (fun hc => ?_)
      · have hs := g_t hs hc
        exact hJ_173 v w1 w2 w4 w9 w12 _ _ _ hP hS (lv_sub hl [0, 1, 2, 3, 4, 5] rfl) hs
      · have hs := g_f hs hc
        refine lv_aload_n hx hb dL_isEnterSo_163 rfl (lv_at hl 0 rfl) ?_
        refine g_bind hs (fun q_21 hq_21 hs => ?_)
        refine gCS_l (As := [.ref (ad 0)]) (rest := []) ⟨hx, hb, hml, hown, hts⟩ (cL_world_c l D cy ad tL z0 hI n v u q_21 hq_21) (va_cwS 1 hts gL_isEnterSo_L_world rfl rfl rfl (by decide +kernel) ⟨Nat.le_of_ble_eq_true rfl, Nat.le_of_ble_eq_true rfl⟩) hK hP hS hl.1 rfl rfl (Nat.le_of_ble_eq_true rfl) dL_isEnterSo_164 ⟨Nat.zero_le _, Nat.zero_le _⟩ (fun H locs hP hS => ?_)
        refine lv_lload hx hb dL_isEnterSo_167 (lv_at hl 3 rfl) ?_
        refine W.lcmp hx hb dL_isEnterSo_169 ?_
        refine lv_if_ne (tgt := 256) hx hb dL_isEnterSo_170 (by decide) (fun hc => ?_) (fun hc => ?_)
        · have hs := g_f hs hc
          refine lv_iconst (v := 0) hx hb dL_isEnterSo_256 (by decide) ?_
          exact hJ_257 v w1 w2 0 _ _ _ hP hS (lv_sub hl [0, 1, 2] rfl) hs
        · have hs := g_t hs hc
          exact hJ_173 v w1 w2 w4 w9 w12 _ _ _ hP hS (lv_sub hl [0, 1, 2, 3, 4, 5] rfl) hs
  have hJ_134 : ∀ (v : gV) (w1 : Int32) (w2 : Int64) (w4 : Int64) (w7 : Int32) (w9 : Int32) (w12 : Int32) (t0 : Int32) (t1 : Int32) (t2 : Int32) (H : Heap) (locs : List Loc) (ls : Array Slot), va_P D vwCl (gW cy ad v u) H → va_S (gA z0) s.heap H locs → lv_has ls 14 [(0, .ref (ad 0)), (1, .int w1), (2, .long w2), (4, .long w4), (7, .int w7), (9, .int w9), (12, .int w12)] → sL_isEnterSo_134 n v w1 w2 w4 w7 w9 w12 t0 t1 t2 = some (r0, v1) → W p l e (headSpec wsL_isEnterSo ({ frames := 7, cells := 0, slots := 0, locals := 161 } : Room)).room s m ([.ref (ad 0), .int x1] : List Value).toArray below meth c H locs 0 0 (MQ below (gQi D cy ad tL z0 v1 u r0) ([.ref (ad 0), .int x1] : List Value).toArray s 0 0 (gA z0)) (F0 m 134 ls [.int t2, .int t1, .int t0]) := by
    intro v w1 w2 w4 w7 w9 w12 t0 t1 t2 H locs ls hP hS hl hs
    unfold sL_isEnterSo_134 at hs
    refine lv_iadd hx hb dL_isEnterSo_134 ?_
    refine lv_icmp_ne (tgt := 256) hx hb dL_isEnterSo_135 (by decide) (fun hc => ?_) (fun hc => ?_)
    · have hs := g_f hs hc
      refine lv_iconst (v := 0) hx hb dL_isEnterSo_256 (by decide) ?_
      exact hJ_257 v w1 w2 0 _ _ _ hP hS (lv_sub hl [0, 1, 2] rfl) hs
    · have hs := g_t hs hc
      refine lv_aload_n hx hb dL_isEnterSo_138 rfl (lv_at hl 0 rfl) ?_
      refine g_bind hs (fun q_14 hq_14 hs => ?_)
      refine gCV_i (As := []) (rest := []) ⟨hx, hb, hml, hown, hts⟩ (cX5_executed_c l D cy ad tL z0 hI v u q_14 hq_14) (cwV 0 hts gL_isEnterSo_X5_executed rfl rfl rfl (by decide +kernel) ⟨Nat.le_of_ble_eq_true rfl, Nat.le_of_ble_eq_true rfl⟩) hK hP hS (va_recv hK.1 hP (ci := 5) (q0 := 0) rfl (gW_5 kd0)) hl.1 rfl rfl (Nat.le_of_ble_eq_true rfl) dL_isEnterSo_139 ⟨Nat.zero_le _, Nat.zero_le _⟩ (fun H locs hP hS => ?_)
      refine lv_iload hx hb dL_isEnterSo_142 (lv_at hl 4 rfl) ?_
      refine lv_iload hx hb dL_isEnterSo_144 (lv_at hl 6 rfl) ?_
      refine lv_if_lt (tgt := 153) hx hb dL_isEnterSo_146 (by decide) (fun hc => ?_) (fun hc => ?_)
      · have hs := g_t hs hc
        refine lv_iconst (v := 0) hx hb dL_isEnterSo_153 (by decide) ?_
        exact hJ_154 v w1 w2 w4 w9 w12 q_14 w7 0 _ _ _ hP hS (lv_sub hl [0, 1, 2, 3, 5, 6] rfl) hs
      · have hs := g_f hs hc
        refine lv_iconst (v := 1) hx hb dL_isEnterSo_149 (by decide) ?_
        refine lv_goto (tgt := 154) hx hb dL_isEnterSo_150 (by decide) ?_
        exact hJ_154 v w1 w2 w4 w9 w12 q_14 w7 1 _ _ _ hP hS (lv_sub hl [0, 1, 2, 3, 5, 6] rfl) hs
  have hJ_106 : ∀ (v : gV) (w1 : Int32) (w2 : Int64) (w4 : Int64) (w7 : Int32) (w8 : Int32) (w9 : Int32) (w12 : Int32) (t0 : Int32) (t1 : Int32) (t2 : Int32) (H : Heap) (locs : List Loc) (ls : Array Slot), va_P D vwCl (gW cy ad v u) H → va_S (gA z0) s.heap H locs → lv_has ls 14 [(0, .ref (ad 0)), (1, .int w1), (2, .long w2), (4, .long w4), (7, .int w7), (8, .int w8), (9, .int w9), (12, .int w12)] → sL_isEnterSo_106 n v w1 w2 w4 w7 w8 w9 w12 t0 t1 t2 = some (r0, v1) → W p l e (headSpec wsL_isEnterSo ({ frames := 7, cells := 0, slots := 0, locals := 161 } : Room)).room s m ([.ref (ad 0), .int x1] : List Value).toArray below meth c H locs 0 0 (MQ below (gQi D cy ad tL z0 v1 u r0) ([.ref (ad 0), .int x1] : List Value).toArray s 0 0 (gA z0)) (F0 m 106 ls [.int t2, .int t1, .int t0]) := by
    intro v w1 w2 w4 w7 w8 w9 w12 t0 t1 t2 H locs ls hP hS hl hs
    unfold sL_isEnterSo_106 at hs
    refine lv_iadd hx hb dL_isEnterSo_106 ?_
    refine lv_icmp_ne (tgt := 256) hx hb dL_isEnterSo_107 (by decide) (fun hc => ?_) (fun hc => ?_)
    · have hs := g_f hs hc
      refine lv_iconst (v := 0) hx hb dL_isEnterSo_256 (by decide) ?_
      exact hJ_257 v w1 w2 0 _ _ _ hP hS (lv_sub hl [0, 1, 2] rfl) hs
    · have hs := g_t hs hc
      refine lv_aload_n hx hb dL_isEnterSo_110 rfl (lv_at hl 0 rfl) ?_
      refine g_bind hs (fun q_13 hq_13 hs => ?_)
      refine gCV_i (As := []) (rest := []) ⟨hx, hb, hml, hown, hts⟩ (cX5_failed_c l D cy ad tL z0 hI v u q_13 hq_13) (cwV 0 hts gL_isEnterSo_X5_failed rfl rfl rfl (by decide +kernel) ⟨Nat.le_of_ble_eq_true rfl, Nat.le_of_ble_eq_true rfl⟩) hK hP hS (va_recv hK.1 hP (ci := 5) (q0 := 0) rfl (gW_5 kd0)) hl.1 rfl rfl (Nat.le_of_ble_eq_true rfl) dL_isEnterSo_111 ⟨Nat.zero_le _, Nat.zero_le _⟩ (fun H locs hP hS => ?_)
      refine lv_iload hx hb dL_isEnterSo_114 (lv_at hl 5 rfl) ?_
      refine lv_iload hx hb dL_isEnterSo_116 (lv_at hl 7 rfl) ?_
      refine lv_iconst (v := (-1)) hx hb dL_isEnterSo_118 (by decide) ?_
      refine lv_icmp_ge (tgt := 133) hx hb dL_isEnterSo_119 (by decide) (fun hc => ?_) (fun hc => ?_)
      · have hs := g_t hs hc
        refine lv_iconst (v := 0) hx hb dL_isEnterSo_133 (by decide) ?_
        exact hJ_134 v w1 w2 w4 w7 w9 w12 q_13 w8 0 _ _ _ hP hS (lv_sub hl [0, 1, 2, 3, 4, 6, 7] rfl) hs
      · have hs := g_f hs hc
        refine lv_iload hx hb dL_isEnterSo_122 (lv_at hl 7 rfl) ?_
        refine lv_bipush (v := (-5)) hx hb dL_isEnterSo_124 (by decide) ?_
        refine lv_icmp_le (tgt := 133) hx hb dL_isEnterSo_126 (by decide) (fun hc => ?_) (fun hc => ?_)
        · have hs := g_t hs hc
          refine lv_iconst (v := 0) hx hb dL_isEnterSo_133 (by decide) ?_
          exact hJ_134 v w1 w2 w4 w7 w9 w12 q_13 w8 0 _ _ _ hP hS (lv_sub hl [0, 1, 2, 3, 4, 6, 7] rfl) hs
        · have hs := g_f hs hc
          refine lv_iconst (v := 1) hx hb dL_isEnterSo_129 (by decide) ?_
          refine lv_goto (tgt := 134) hx hb dL_isEnterSo_130 (by decide) ?_
          exact hJ_134 v w1 w2 w4 w7 w9 w12 q_13 w8 1 _ _ _ hP hS (lv_sub hl [0, 1, 2, 3, 4, 6, 7] rfl) hs
  have hJ_55 : ∀ (v : gV) (w1 : Int32) (w2 : Int64) (w4 : Int64) (w6 : Int32) (w7 : Int32) (w8 : Int32) (w9 : Int32) (w10 : Int32) (t0 : Int32) (H : Heap) (locs : List Loc) (ls : Array Slot), va_P D vwCl (gW cy ad v u) H → va_S (gA z0) s.heap H locs → lv_has ls 14 [(0, .ref (ad 0)), (1, .int w1), (2, .long w2), (4, .long w4), (6, .int w6), (7, .int w7), (8, .int w8), (9, .int w9), (10, .int w10)] → sL_isEnterSo_55 n v w1 w2 w4 w6 w7 w8 w9 w10 t0 = some (r0, v1) → W p l e (headSpec wsL_isEnterSo ({ frames := 7, cells := 0, slots := 0, locals := 161 } : Room)).room s m ([.ref (ad 0), .int x1] : List Value).toArray below meth c H locs 0 0 (MQ below (gQi D cy ad tL z0 v1 u r0) ([.ref (ad 0), .int x1] : List Value).toArray s 0 0 (gA z0)) (F0 m 55 ls [.int t0]) := by
    intro v w1 w2 w4 w6 w7 w8 w9 w10 t0 H locs ls hP hS hl hs
    unfold sL_isEnterSo_55 at hs
    refine lv_istore (lv' := [(11, .int t0), (0, .ref (ad 0)), (1, .int w1), (2, .long w2), (4, .long w4), (6, .int w6), (7, .int w7), (8, .int w8), (9, .int w9), (10, .int w10)]) hx hb dL_isEnterSo_55 hl (by decide) rfl (fun ls hl => ?_)
    refine lv_aload_n hx hb dL_isEnterSo_57 rfl (lv_at hl 1 rfl) ?_
    refine g_bind hs (fun q_9 hq_9 hs => ?_)
    refine gCV_i (As := []) (rest := []) ⟨hx, hb, hml, hown, hts⟩ (cX5_enter_c l D cy ad tL z0 hI n v u q_9.1 q_9.2 hq_9) (cwV 0 hts gL_isEnterSo_X5_enter rfl rfl rfl (by decide +kernel) ⟨Nat.le_of_ble_eq_true rfl, Nat.le_of_ble_eq_true rfl⟩) hK hP hS (va_recv hK.1 hP (ci := 5) (q0 := 0) rfl (gW_5 kd0)) hl.1 rfl rfl (Nat.le_of_ble_eq_true rfl) dL_isEnterSo_58 ⟨Nat.zero_le _, Nat.zero_le _⟩ (fun H locs hP hS => ?_)
    refine lv_istore (lv' := [(12, .int q_9.1), (11, .int t0), (0, .ref (ad 0)), (1, .int w1), (2, .long w2), (4, .long w4), (6, .int w6), (7, .int w7), (8, .int w8), (9, .int w9), (10, .int w10)]) hx hb dL_isEnterSo_61 hl (by decide) rfl (fun ls hl => ?_)
    refine lv_iload hx hb dL_isEnterSo_63 (lv_at hl 1 rfl) ?_
    refine lv_if_eq (tgt := 256) hx hb dL_isEnterSo_65 (by decide) (fun hc => ?_) (fun hc => ?_)
    · have hs := g_t hs hc
      refine lv_iconst (v := 0) hx hb dL_isEnterSo_256 (by decide) ?_
      exact hJ_257 q_9.2 w1 w2 0 _ _ _ hP hS (lv_sub hl [2, 3, 4] rfl) hs
    · have hs := g_f hs hc
      refine lv_iload hx hb dL_isEnterSo_68 (lv_at hl 0 rfl) ?_
      refine lv_iload hx hb dL_isEnterSo_70 (lv_at hl 10 rfl) ?_
      refine lv_icmp_ne (tgt := 256) hx hb dL_isEnterSo_72 (by decide) (fun hc => ?_) (fun hc => ?_)
      · have hs := g_f hs hc
        refine lv_iconst (v := 0) hx hb dL_isEnterSo_256 (by decide) ?_
        exact hJ_257 q_9.2 w1 w2 0 _ _ _ hP hS (lv_sub hl [2, 3, 4] rfl) hs
      · have hs := g_t hs hc
        refine lv_iload hx hb dL_isEnterSo_75 (lv_at hl 0 rfl) ?_
        refine lv_bipush (v := (-5)) hx hb dL_isEnterSo_77 (by decide) ?_
        refine lv_icmp_lt (tgt := 256) hx hb dL_isEnterSo_79 (by decide) (fun hc => ?_) (fun hc => ?_)
        · have hs := g_t hs hc
          refine lv_iconst (v := 0) hx hb dL_isEnterSo_256 (by decide) ?_
          exact hJ_257 q_9.2 w1 w2 0 _ _ _ hP hS (lv_sub hl [2, 3, 4] rfl) hs
        · have hs := g_f hs hc
          refine lv_iload hx hb dL_isEnterSo_82 (lv_at hl 0 rfl) ?_
          refine lv_bipush (v := 12) hx hb dL_isEnterSo_84 (by decide) ?_
          refine lv_icmp_gt (tgt := 256) hx hb dL_isEnterSo_86 (by decide) (fun hc => ?_) (fun hc => ?_)
          · have hs := g_t hs hc
            refine lv_iconst (v := 0) hx hb dL_isEnterSo_256 (by decide) ?_
            exact hJ_257 q_9.2 w1 w2 0 _ _ _ hP hS (lv_sub hl [2, 3, 4] rfl) hs
          · have hs := g_f hs hc
            refine lv_aload_n hx hb dL_isEnterSo_89 rfl (lv_at hl 2 rfl) ?_
            refine g_bind hs (fun q_12 hq_12 hs => ?_)
            refine gCV_i (As := []) (rest := []) ⟨hx, hb, hml, hown, hts⟩ (cX5_asked_c l D cy ad tL z0 hI q_9.2 u q_12 hq_12) (cwV 0 hts gL_isEnterSo_X5_asked rfl rfl rfl (by decide +kernel) ⟨Nat.le_of_ble_eq_true rfl, Nat.le_of_ble_eq_true rfl⟩) hK hP hS (va_recv hK.1 hP (ci := 5) (q0 := 0) rfl (gW_5 kd0)) hl.1 rfl rfl (Nat.le_of_ble_eq_true rfl) dL_isEnterSo_90 ⟨Nat.zero_le _, Nat.zero_le _⟩ (fun H locs hP hS => ?_)
            refine lv_iload hx hb dL_isEnterSo_93 (lv_at hl 6 rfl) ?_
            refine lv_iload hx hb dL_isEnterSo_95 (lv_at hl 0 rfl) ?_
            refine lv_iconst (v := (-1)) hx hb dL_isEnterSo_97 (by decide) ?_
            refine lv_icmp_ne (tgt := 105) hx hb dL_isEnterSo_98 (by decide) (fun hc => ?_) (fun hc => ?_)
            · have hs := g_f hs hc
              refine lv_iconst (v := 0) hx hb dL_isEnterSo_105 (by decide) ?_
              exact hJ_106 q_9.2 w1 w2 w4 w7 w8 w9 q_9.1 q_12 w6 0 _ _ _ hP hS (lv_sub hl [2, 3, 4, 5, 7, 8, 9, 0] rfl) hs
            · have hs := g_t hs hc
              refine lv_iconst (v := 1) hx hb dL_isEnterSo_101 (by decide) ?_
              refine lv_goto (tgt := 106) hx hb dL_isEnterSo_102 (by decide) ?_
              exact hJ_106 q_9.2 w1 w2 w4 w7 w8 w9 q_9.1 q_12 w6 1 _ _ _ hP hS (lv_sub hl [2, 3, 4, 5, 7, 8, 9, 0] rfl) hs
  unfold sL_isEnterSo at hs
  refine lv_aload_n hx hb dL_isEnterSo_0 rfl (lv_at hl 0 rfl) ?_
  refine g_bind hs (fun q_1 hq_1 hs => ?_)
  refine gCV_l (As := []) (rest := []) ⟨hx, hb, hml, hown, hts⟩ (cX5_digest_c l D cy ad tL z0 hI n v u q_1 hq_1) (cwV 0 hts gL_isEnterSo_X5_digest rfl rfl rfl (by decide +kernel) ⟨Nat.le_of_ble_eq_true rfl, Nat.le_of_ble_eq_true rfl⟩) hK hP hS (va_recv hK.1 hP (ci := 5) (q0 := 0) rfl (gW_5 kd0)) hl.1 rfl rfl (Nat.le_of_ble_eq_true rfl) dL_isEnterSo_1 ⟨Nat.zero_le _, Nat.zero_le _⟩ (fun H locs hP hS => ?_)
  refine lv_lstore_n (lv' := [(2, .long q_1), (0, .ref (ad 0)), (1, .int x1)]) hx hb dL_isEnterSo_4 rfl hl (by decide) rfl (fun ls hl => ?_)
  refine lv_aload_n hx hb dL_isEnterSo_5 rfl (lv_at hl 1 rfl) ?_
  refine g_bind hs (fun q_2 hq_2 hs => ?_)
  refine gCS_l (As := [.ref (ad 0)]) (rest := []) ⟨hx, hb, hml, hown, hts⟩ (cL_world_c l D cy ad tL z0 hI n v u q_2 hq_2) (va_cwS 1 hts gL_isEnterSo_L_world rfl rfl rfl (by decide +kernel) ⟨Nat.le_of_ble_eq_true rfl, Nat.le_of_ble_eq_true rfl⟩) hK hP hS hl.1 rfl rfl (Nat.le_of_ble_eq_true rfl) dL_isEnterSo_6 ⟨Nat.zero_le _, Nat.zero_le _⟩ (fun H locs hP hS => ?_)
  refine lv_lstore (lv' := [(4, .long q_2), (2, .long q_1), (0, .ref (ad 0)), (1, .int x1)]) hx hb dL_isEnterSo_9 hl (by decide) rfl (fun ls hl => ?_)
  refine lv_aload_n hx hb dL_isEnterSo_11 rfl (lv_at hl 2 rfl) ?_
  refine g_bind hs (fun q_3 hq_3 hs => ?_)
  refine gCV_i (As := []) (rest := []) ⟨hx, hb, hml, hown, hts⟩ (cX5_asked_c l D cy ad tL z0 hI v u q_3 hq_3) (cwV 0 hts gL_isEnterSo_X5_asked rfl rfl rfl (by decide +kernel) ⟨Nat.le_of_ble_eq_true rfl, Nat.le_of_ble_eq_true rfl⟩) hK hP hS (va_recv hK.1 hP (ci := 5) (q0 := 0) rfl (gW_5 kd0)) hl.1 rfl rfl (Nat.le_of_ble_eq_true rfl) dL_isEnterSo_12 ⟨Nat.zero_le _, Nat.zero_le _⟩ (fun H locs hP hS => ?_)
  refine lv_istore (lv' := [(6, .int q_3), (4, .long q_2), (2, .long q_1), (0, .ref (ad 0)), (1, .int x1)]) hx hb dL_isEnterSo_15 hl (by decide) rfl (fun ls hl => ?_)
  refine lv_aload_n hx hb dL_isEnterSo_17 rfl (lv_at hl 3 rfl) ?_
  refine g_bind hs (fun q_4 hq_4 hs => ?_)
  refine gCV_i (As := []) (rest := []) ⟨hx, hb, hml, hown, hts⟩ (cX5_executed_c l D cy ad tL z0 hI v u q_4 hq_4) (cwV 0 hts gL_isEnterSo_X5_executed rfl rfl rfl (by decide +kernel) ⟨Nat.le_of_ble_eq_true rfl, Nat.le_of_ble_eq_true rfl⟩) hK hP hS (va_recv hK.1 hP (ci := 5) (q0 := 0) rfl (gW_5 kd0)) hl.1 rfl rfl (Nat.le_of_ble_eq_true rfl) dL_isEnterSo_18 ⟨Nat.zero_le _, Nat.zero_le _⟩ (fun H locs hP hS => ?_)
  refine lv_istore (lv' := [(7, .int q_4), (6, .int q_3), (4, .long q_2), (2, .long q_1), (0, .ref (ad 0)), (1, .int x1)]) hx hb dL_isEnterSo_21 hl (by decide) rfl (fun ls hl => ?_)
  refine lv_aload_n hx hb dL_isEnterSo_23 rfl (lv_at hl 4 rfl) ?_
  refine g_bind hs (fun q_5 hq_5 hs => ?_)
  refine gCV_i (As := []) (rest := []) ⟨hx, hb, hml, hown, hts⟩ (cX5_failed_c l D cy ad tL z0 hI v u q_5 hq_5) (cwV 0 hts gL_isEnterSo_X5_failed rfl rfl rfl (by decide +kernel) ⟨Nat.le_of_ble_eq_true rfl, Nat.le_of_ble_eq_true rfl⟩) hK hP hS (va_recv hK.1 hP (ci := 5) (q0 := 0) rfl (gW_5 kd0)) hl.1 rfl rfl (Nat.le_of_ble_eq_true rfl) dL_isEnterSo_24 ⟨Nat.zero_le _, Nat.zero_le _⟩ (fun H locs hP hS => ?_)
  refine lv_istore (lv' := [(8, .int q_5), (7, .int q_4), (6, .int q_3), (4, .long q_2), (2, .long q_1), (0, .ref (ad 0)), (1, .int x1)]) hx hb dL_isEnterSo_27 hl (by decide) rfl (fun ls hl => ?_)
  refine lv_aload_n hx hb dL_isEnterSo_29 rfl (lv_at hl 5 rfl) ?_
  refine g_bind hs (fun q_6 hq_6 hs => ?_)
  refine gCV_i (As := []) (rest := []) ⟨hx, hb, hml, hown, hts⟩ (cX5_savedStates_c l D cy ad tL z0 hI v u q_6 hq_6) (cwV 0 hts gL_isEnterSo_X5_savedStates rfl rfl rfl (by decide +kernel) ⟨Nat.le_of_ble_eq_true rfl, Nat.le_of_ble_eq_true rfl⟩) hK hP hS (va_recv hK.1 hP (ci := 5) (q0 := 0) rfl (gW_5 kd0)) hl.1 rfl rfl (Nat.le_of_ble_eq_true rfl) dL_isEnterSo_30 ⟨Nat.zero_le _, Nat.zero_le _⟩ (fun H locs hP hS => ?_)
  refine lv_istore (lv' := [(9, .int q_6), (8, .int q_5), (7, .int q_4), (6, .int q_3), (4, .long q_2), (2, .long q_1), (0, .ref (ad 0)), (1, .int x1)]) hx hb dL_isEnterSo_33 hl (by decide) rfl (fun ls hl => ?_)
  refine lv_aload_n hx hb dL_isEnterSo_35 rfl (lv_at hl 6 rfl) ?_
  refine g_bind hs (fun q_7 hq_7 hs => ?_)
  refine gCV_i (As := []) (rest := []) ⟨hx, hb, hml, hown, hts⟩ (cX5_ifEntered_c l D cy ad tL z0 hI n v u q_7.1 q_7.2 hq_7) (cwV 0 hts gL_isEnterSo_X5_ifEntered rfl rfl rfl (by decide +kernel) ⟨Nat.le_of_ble_eq_true rfl, Nat.le_of_ble_eq_true rfl⟩) hK hP hS (va_recv hK.1 hP (ci := 5) (q0 := 0) rfl (gW_5 kd0)) hl.1 rfl rfl (Nat.le_of_ble_eq_true rfl) dL_isEnterSo_36 ⟨Nat.zero_le _, Nat.zero_le _⟩ (fun H locs hP hS => ?_)
  refine lv_istore (lv' := [(10, .int q_7.1), (9, .int q_6), (8, .int q_5), (7, .int q_4), (6, .int q_3), (4, .long q_2), (2, .long q_1), (0, .ref (ad 0)), (1, .int x1)]) hx hb dL_isEnterSo_39 hl (by decide) rfl (fun ls hl => ?_)
  refine lv_aload_n hx hb dL_isEnterSo_41 rfl (lv_at hl 7 rfl) ?_
  refine g_bind hs (fun q_8 hq_8 hs => ?_)
  refine gCV_l (As := []) (rest := []) ⟨hx, hb, hml, hown, hts⟩ (cX5_digest_c l D cy ad tL z0 hI n q_7.2 u q_8 hq_8) (cwV 0 hts gL_isEnterSo_X5_digest rfl rfl rfl (by decide +kernel) ⟨Nat.le_of_ble_eq_true rfl, Nat.le_of_ble_eq_true rfl⟩) hK hP hS (va_recv hK.1 hP (ci := 5) (q0 := 0) rfl (gW_5 kd0)) hl.1 rfl rfl (Nat.le_of_ble_eq_true rfl) dL_isEnterSo_42 ⟨Nat.zero_le _, Nat.zero_le _⟩ (fun H locs hP hS => ?_)
  refine lv_lload_n hx hb dL_isEnterSo_45 rfl (lv_at hl 6 rfl) ?_
  refine W.lcmp hx hb dL_isEnterSo_46 ?_
  refine lv_if_ne (tgt := 54) hx hb dL_isEnterSo_47 (by decide) (fun hc => ?_) (fun hc => ?_)
  · have hs := g_f hs hc
    refine lv_iconst (v := 0) hx hb dL_isEnterSo_54 (by decide) ?_
    exact hJ_55 q_7.2 x1 q_1 q_2 q_3 q_4 q_5 q_6 q_7.1 0 _ _ _ hP hS (lv_sub hl [7, 8, 6, 5, 4, 3, 2, 1, 0] rfl) hs
  · have hs := g_t hs hc
    refine lv_iconst (v := 1) hx hb dL_isEnterSo_50 (by decide) ?_
    refine lv_goto (tgt := 55) hx hb dL_isEnterSo_51 (by decide) ?_
    exact hJ_55 q_7.2 x1 q_1 q_2 q_3 q_4 q_5 q_6 q_7.1 1 _ _ _ hP hS (lv_sub hl [7, 8, 6, 5, 4, 3, 2, 1, 0] rfl) hs
