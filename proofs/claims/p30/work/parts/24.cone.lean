set_option maxHeartbeats 4000000 in
set_option maxRecDepth 100000 in
theorem cL_isAnswerSo_c (l : Launch) (D : va_G) (cy : Nat → ClassId) (ad : Nat → Nat) (tL z0 : Nat) (hI : gI z0 ad) (n : Nat) (v : gV) (u : Int64) (x1 : Int32) (r0 : Int32) (v1 : gV) (hs : sL_isAnswerSo n v x1 = some (r0, v1)) : Met l yL_isAnswerSo wsL_isAnswerSo ({ frames := 8, cells := 0, slots := 0, locals := 194 } : Room) (gPc D cy ad tL z0 v u [.ref (ad 0), .int x1]) (gQi D cy ad tL z0 v1 u r0) 0 0 (gA z0) := by
  refine Met.ofW (cc := cL_isAnswerSo) (maxL := 6) (ret := (some .boolean)) (by decide) rfl ?_
  intro p e s m args below meth c s₁ B hml hv
  obtain ⟨rfl, hB0⟩ := hv
  have hP : va_P D vwCl (gW cy ad v u) s.heap := hB0.1
  have hK : gK D cy tL z0 s s.heap := hB0.2
  have hx := B.exec
  have hb := B.bytes
  have hr := B.returns
  have hts := atoms_spec (ws := wsL_isAnswerSo) B.pre
  have hown : s.vm.findClass RL = some m.cls := findClass_of_methodNamed B.named
  have hlocks := B.notSynchronized
  have hS : va_S (gA z0) s.heap s.heap [] := va_S.rf
  have hl := lv_entry ([.ref (ad 0), .int x1]) (n := 6) (Nat.le_of_ble_eq_true rfl)
  rw [lg_entry_eq]
  generalize (lg_sl ([.ref (ad 0), .int x1]) ++ List.replicate (6 - (lg_sl ([.ref (ad 0), .int x1])).length) Slot.unset).toArray = ls at hl ⊢
  have hl : lv_has ls 6 [(0, .ref (ad 0)), (1, .int x1)] := hl
  clear hB0
  have hJ_172 : ∀ (v : gV) (t1 : Int32) (H : Heap) (locs : List Loc) (ls : Array Slot), va_P D vwCl (gW cy ad v u) H → va_S (gA z0) s.heap H locs → lv_has ls 6 [] → sL_isAnswerSo_172 n v t1 = some (r0, v1) → W p l e (headSpec wsL_isAnswerSo ({ frames := 8, cells := 0, slots := 0, locals := 194 } : Room)).room s m ([.ref (ad 0), .int x1] : List Value).toArray below meth c H locs 0 0 (MQ below (gQi D cy ad tL z0 v1 u r0) ([.ref (ad 0), .int x1] : List Value).toArray s 0 0 (gA z0)) (F0 m 172 ls [.int t1, .ref (ad 0)]) := by
    intro v t1 H locs ls hP hS hl hs
    unfold sL_isAnswerSo_172 at hs
    refine g_bind hs (fun q_7 hq_7 hs => ?_)
    refine gCS_i (As := [.ref (ad 0), .int t1]) (rest := []) ⟨hx, hb, hml, hown, hts⟩ (cL_isEnterSo_c l D cy ad tL z0 hI n v u t1 q_7.1 q_7.2 hq_7) (va_cwS 2 hts gL_isAnswerSo_L_isEnterSo rfl rfl rfl (by decide +kernel) ⟨Nat.le_of_ble_eq_true rfl, Nat.le_of_ble_eq_true rfl⟩) hK hP hS hl.1 rfl rfl (Nat.le_of_ble_eq_true rfl) dL_isAnswerSo_172 ⟨Nat.zero_le _, Nat.zero_le _⟩ (fun H locs hP hS => ?_)
    refine lv_if_eq (tgt := 182) hx hb dL_isAnswerSo_175 (by decide) (fun hc => ?_) (fun hc => ?_)
    · have hs := g_t hs hc
      refine lv_iconst (v := 0) hx hb dL_isAnswerSo_182 (by decide) ?_
      exact gRet_z hx hb hr hlocks rfl hK hP hS (g_some2 hs) dL_isAnswerSo_183
    · have hs := g_f hs hc
      refine lv_iconst (v := 1) hx hb dL_isAnswerSo_178 (by decide) ?_
      refine lv_goto (tgt := 183) hx hb dL_isAnswerSo_179 (by decide) ?_
      exact gRet_z hx hb hr hlocks rfl hK hP hS (g_some2 hs) dL_isAnswerSo_183
  have hJ_155 : ∀ (v : gV) (w1 : Int32) (t0 : Int32) (t1 : Int32) (H : Heap) (locs : List Loc) (ls : Array Slot), va_P D vwCl (gW cy ad v u) H → va_S (gA z0) s.heap H locs → lv_has ls 6 [(0, .ref (ad 0)), (1, .int w1)] → sL_isAnswerSo_155 n v w1 t0 t1 = some (r0, v1) → W p l e (headSpec wsL_isAnswerSo ({ frames := 8, cells := 0, slots := 0, locals := 194 } : Room)).room s m ([.ref (ad 0), .int x1] : List Value).toArray below meth c H locs 0 0 (MQ below (gQi D cy ad tL z0 v1 u r0) ([.ref (ad 0), .int x1] : List Value).toArray s 0 0 (gA z0)) (F0 m 155 ls [.int t1, .int t0]) := by
    intro v w1 t0 t1 H locs ls hP hS hl hs
    unfold sL_isAnswerSo_155 at hs
    refine lv_icmp_ne (tgt := 182) hx hb dL_isAnswerSo_155 (by decide) (fun hc => ?_) (fun hc => ?_)
    · have hs := g_f hs hc
      refine lv_iconst (v := 0) hx hb dL_isAnswerSo_182 (by decide) ?_
      exact gRet_z hx hb hr hlocks rfl hK hP hS (g_some2 hs) dL_isAnswerSo_183
    · have hs := g_t hs hc
      refine lv_aload_n hx hb dL_isAnswerSo_158 rfl (lv_at hl 0 rfl) ?_
      refine lv_iload_n hx hb dL_isAnswerSo_159 rfl (lv_at hl 1 rfl) ?_
      refine lv_iconst (v := 5) hx hb dL_isAnswerSo_160 (by decide) ?_
      refine lv_ishr hx hb dL_isAnswerSo_161 ?_
      refine lv_iconst (v := 3) hx hb dL_isAnswerSo_162 (by decide) ?_
      refine lv_iand hx hb dL_isAnswerSo_163 ?_
      refine lv_if_ne (tgt := 171) hx hb dL_isAnswerSo_164 (by decide) (fun hc => ?_) (fun hc => ?_)
      · have hs := g_f hs hc
        refine lv_iconst (v := 0) hx hb dL_isAnswerSo_171 (by decide) ?_
        exact hJ_172 v 0 _ _ _ hP hS (lv_sub hl [] rfl) hs
      · have hs := g_t hs hc
        refine lv_iconst (v := 1) hx hb dL_isAnswerSo_167 (by decide) ?_
        refine lv_goto (tgt := 172) hx hb dL_isAnswerSo_168 (by decide) ?_
        exact hJ_172 v 1 _ _ _ hP hS (lv_sub hl [] rfl) hs
  have hJ_144 : ∀ (v : gV) (w1 : Int32) (w4 : Int32) (t0 : Int32) (H : Heap) (locs : List Loc) (ls : Array Slot), va_P D vwCl (gW cy ad v u) H → va_S (gA z0) s.heap H locs → lv_has ls 6 [(0, .ref (ad 0)), (1, .int w1), (4, .int w4)] → sL_isAnswerSo_144 n v w1 w4 t0 = some (r0, v1) → W p l e (headSpec wsL_isAnswerSo ({ frames := 8, cells := 0, slots := 0, locals := 194 } : Room)).room s m ([.ref (ad 0), .int x1] : List Value).toArray below meth c H locs 0 0 (MQ below (gQi D cy ad tL z0 v1 u r0) ([.ref (ad 0), .int x1] : List Value).toArray s 0 0 (gA z0)) (F0 m 144 ls [.int t0]) := by
    intro v w1 w4 t0 H locs ls hP hS hl hs
    unfold sL_isAnswerSo_144 at hs
    refine lv_iload hx hb dL_isAnswerSo_144 (lv_at hl 2 rfl) ?_
    refine lv_iconst (v := 1) hx hb dL_isAnswerSo_146 (by decide) ?_
    refine lv_icmp_le (tgt := 154) hx hb dL_isAnswerSo_147 (by decide) (fun hc => ?_) (fun hc => ?_)
    · have hs := g_t hs hc
      refine lv_iconst (v := 0) hx hb dL_isAnswerSo_154 (by decide) ?_
      exact hJ_155 v w1 t0 0 _ _ _ hP hS (lv_sub hl [0, 1] rfl) hs
    · have hs := g_f hs hc
      refine lv_iconst (v := 1) hx hb dL_isAnswerSo_150 (by decide) ?_
      refine lv_goto (tgt := 155) hx hb dL_isAnswerSo_151 (by decide) ?_
      exact hJ_155 v w1 t0 1 _ _ _ hP hS (lv_sub hl [0, 1] rfl) hs
  have hJ_126 : ∀ (v : gV) (w1 : Int32) (w4 : Int32) (H : Heap) (locs : List Loc) (ls : Array Slot), va_P D vwCl (gW cy ad v u) H → va_S (gA z0) s.heap H locs → lv_has ls 6 [(0, .ref (ad 0)), (1, .int w1), (4, .int w4)] → sL_isAnswerSo_126 n v w1 w4 = some (r0, v1) → W p l e (headSpec wsL_isAnswerSo ({ frames := 8, cells := 0, slots := 0, locals := 194 } : Room)).room s m ([.ref (ad 0), .int x1] : List Value).toArray below meth c H locs 0 0 (MQ below (gQi D cy ad tL z0 v1 u r0) ([.ref (ad 0), .int x1] : List Value).toArray s 0 0 (gA z0)) (F0 m 126 ls []) := by
    intro v w1 w4 H locs ls hP hS hl hs
    unfold sL_isAnswerSo_126 at hs
    refine lv_aload_n hx hb dL_isAnswerSo_126 rfl (lv_at hl 0 rfl) ?_
    refine g_bind hs (fun q_6 hq_6 hs => ?_)
    refine gCV_i (As := []) (rest := []) ⟨hx, hb, hml, hown, hts⟩ (cX5_ifEntered_c l D cy ad tL z0 hI n v u q_6.1 q_6.2 hq_6) (cwV 0 hts gL_isAnswerSo_X5_ifEntered rfl rfl rfl (by decide +kernel) ⟨Nat.le_of_ble_eq_true rfl, Nat.le_of_ble_eq_true rfl⟩) hK hP hS (va_recv hK.1 hP (ci := 5) (q0 := 0) rfl (gW_5 kd0)) hl.1 rfl rfl (Nat.le_of_ble_eq_true rfl) dL_isAnswerSo_127 ⟨Nat.zero_le _, Nat.zero_le _⟩ (fun H locs hP hS => ?_)
    refine lv_istore (lv' := [(5, .int q_6.1), (0, .ref (ad 0)), (1, .int w1), (4, .int w4)]) hx hb dL_isAnswerSo_130 hl (by decide) rfl (fun ls hl => ?_)
    refine lv_iload hx hb dL_isAnswerSo_132 (lv_at hl 0 rfl) ?_
    refine lv_bipush (v := (-5)) hx hb dL_isAnswerSo_134 (by decide) ?_
    refine lv_icmp_ne (tgt := 143) hx hb dL_isAnswerSo_136 (by decide) (fun hc => ?_) (fun hc => ?_)
    · have hs := g_f hs hc
      refine lv_iconst (v := 0) hx hb dL_isAnswerSo_143 (by decide) ?_
      exact hJ_144 q_6.2 w1 w4 0 _ _ _ hP hS (lv_sub hl [1, 2, 3] rfl) hs
    · have hs := g_t hs hc
      refine lv_iconst (v := 1) hx hb dL_isAnswerSo_139 (by decide) ?_
      refine lv_goto (tgt := 144) hx hb dL_isAnswerSo_140 (by decide) ?_
      exact hJ_144 q_6.2 w1 w4 1 _ _ _ hP hS (lv_sub hl [1, 2, 3] rfl) hs
  have hL_49 : ∀ (k : Nat), ∀ (v : gV) (w1 : Int32) (w2 : Int32) (w3 : Int32) (w4 : Int32) (w5 : Int32) (H : Heap) (locs : List Loc) (ls : Array Slot), va_P D vwCl (gW cy ad v u) H → va_S (gA z0) s.heap H locs → lv_has ls 6 [(0, .ref (ad 0)), (1, .int w1), (2, .int w2), (3, .int w3), (4, .int w4), (5, .int w5)] → sL_isAnswerSo_49 n k v w1 w2 w3 w4 w5 = some (r0, v1) → W p l e (headSpec wsL_isAnswerSo ({ frames := 8, cells := 0, slots := 0, locals := 194 } : Room)).room s m ([.ref (ad 0), .int x1] : List Value).toArray below meth c H locs 0 0 (MQ below (gQi D cy ad tL z0 v1 u r0) ([.ref (ad 0), .int x1] : List Value).toArray s 0 0 (gA z0)) (F0 m 49 ls []) := by
    intro k
    induction k with
    | zero =>
      intro v w1 w2 w3 w4 w5 H locs ls hP hS hl hs
      exact g_none hs
    | succ k ih =>
      intro v w1 w2 w3 w4 w5 H locs ls hP hS hl hs
      rw [sL_isAnswerSo_49] at hs
      refine lv_iload hx hb dL_isAnswerSo_49 (lv_at hl 5 rfl) ?_
      refine lv_aload_n hx hb dL_isAnswerSo_51 rfl (lv_at hl 0 rfl) ?_
      refine g_bind hs (fun q_3 hq_3 hs => ?_)
      refine gCV_i (As := []) (rest := [.int w5]) ⟨hx, hb, hml, hown, hts⟩ (cX5_objects_c l D cy ad tL z0 hI v u q_3 hq_3) (cwV 0 hts gL_isAnswerSo_X5_objects rfl rfl rfl (by decide +kernel) ⟨Nat.le_of_ble_eq_true rfl, Nat.le_of_ble_eq_true rfl⟩) hK hP hS (va_recv hK.1 hP (ci := 5) (q0 := 0) rfl (gW_5 kd0)) hl.1 rfl rfl (Nat.le_of_ble_eq_true rfl) dL_isAnswerSo_52 ⟨Nat.zero_le _, Nat.zero_le _⟩ (fun H locs hP hS => ?_)
      refine lv_icmp_ge (tgt := 98) hx hb dL_isAnswerSo_55 (by decide) (fun hc => ?_) (fun hc => ?_)
      · have hs := g_t hs hc
        refine lv_aload_n hx hb dL_isAnswerSo_98 rfl (lv_at hl 0 rfl) ?_
        refine lv_bipush (v := 6) hx hb dL_isAnswerSo_99 (by decide) ?_
        refine lv_aload_n hx hb dL_isAnswerSo_101 rfl (lv_at hl 0 rfl) ?_
        refine lv_iload_n hx hb dL_isAnswerSo_102 rfl (lv_at hl 3 rfl) ?_
        refine g_bind hs (fun q_4 hq_4 hs => ?_)
        refine gCV_i (As := [.int w3]) (rest := [.int 6, .ref (ad 0)]) ⟨hx, hb, hml, hown, hts⟩ (cX5_adjective_c l D cy ad tL z0 hI v u w3 q_4 hq_4) (cwV 1 hts gL_isAnswerSo_X5_adjective rfl rfl rfl (by decide +kernel) ⟨Nat.le_of_ble_eq_true rfl, Nat.le_of_ble_eq_true rfl⟩) hK hP hS (va_recv hK.1 hP (ci := 5) (q0 := 0) rfl (gW_5 kd0)) hl.1 rfl rfl (Nat.le_of_ble_eq_true rfl) dL_isAnswerSo_103 ⟨Nat.zero_le _, Nat.zero_le _⟩ (fun H locs hP hS => ?_)
        refine lv_iadd hx hb dL_isAnswerSo_106 ?_
        refine g_bind hs (fun q_5 hq_5 hs => ?_)
        refine gCV_i (As := [.int (6 + q_4)]) (rest := []) ⟨hx, hb, hml, hown, hts⟩ (cX5_appendWord_c l D cy ad tL z0 hI n v u (6 + q_4) q_5.1 q_5.2 hq_5) (cwV 1 hts gL_isAnswerSo_X5_appendWord rfl rfl rfl (by decide +kernel) ⟨Nat.le_of_ble_eq_true rfl, Nat.le_of_ble_eq_true rfl⟩) hK hP hS (va_recv hK.1 hP (ci := 5) (q0 := 0) rfl (gW_5 kd0)) hl.1 rfl rfl (Nat.le_of_ble_eq_true rfl) dL_isAnswerSo_107 ⟨Nat.zero_le _, Nat.zero_le _⟩ (fun H locs hP hS => ?_)
        refine lv_pop hx hb dL_isAnswerSo_110 rfl ?_
        refine lv_iload_n hx hb dL_isAnswerSo_111 rfl (lv_at hl 1 rfl) ?_
        refine lv_iconst (v := 4) hx hb dL_isAnswerSo_112 (by decide) ?_
        refine lv_ishr hx hb dL_isAnswerSo_113 ?_
        refine lv_iconst (v := 1) hx hb dL_isAnswerSo_114 (by decide) ?_
        refine lv_iand hx hb dL_isAnswerSo_115 ?_
        refine lv_if_ne (tgt := 126) hx hb dL_isAnswerSo_116 (by decide) (fun hc => ?_) (fun hc => ?_)
        · have hs := g_f hs hc
          exact hJ_126 q_5.2 w1 w4 _ _ _ hP hS (lv_sub hl [0, 1, 4] rfl) hs
        · have hs := g_t hs hc
          refine lv_aload_n hx hb dL_isAnswerSo_119 rfl (lv_at hl 0 rfl) ?_
          refine lv_bipush (v := 24) hx hb dL_isAnswerSo_120 (by decide) ?_
          refine g_bind hs (fun q_8 hq_8 hs => ?_)
          refine gCV_i (As := [.int 24]) (rest := []) ⟨hx, hb, hml, hown, hts⟩ (cX5_appendWord_c l D cy ad tL z0 hI n q_5.2 u 24 q_8.1 q_8.2 hq_8) (cwV 1 hts gL_isAnswerSo_X5_appendWord rfl rfl rfl (by decide +kernel) ⟨Nat.le_of_ble_eq_true rfl, Nat.le_of_ble_eq_true rfl⟩) hK hP hS (va_recv hK.1 hP (ci := 5) (q0 := 0) rfl (gW_5 kd0)) hl.1 rfl rfl (Nat.le_of_ble_eq_true rfl) dL_isAnswerSo_122 ⟨Nat.zero_le _, Nat.zero_le _⟩ (fun H locs hP hS => ?_)
          refine lv_pop hx hb dL_isAnswerSo_125 rfl ?_
          exact hJ_126 q_8.2 w1 w4 _ _ _ hP hS (lv_sub hl [0, 1, 4] rfl) hs
      · have hs := g_f hs hc
        refine lv_iload hx hb dL_isAnswerSo_58 (lv_at hl 4 rfl) ?_
        refine lv_iload_n hx hb dL_isAnswerSo_60 rfl (lv_at hl 2 rfl) ?_
        refine lv_iload hx hb dL_isAnswerSo_61 (lv_at hl 5 rfl) ?_
        refine lv_ishr hx hb dL_isAnswerSo_63 ?_
        refine lv_iconst (v := 1) hx hb dL_isAnswerSo_64 (by decide) ?_
        refine lv_iand hx hb dL_isAnswerSo_65 ?_
        refine lv_iconst (v := 1) hx hb dL_isAnswerSo_66 (by decide) ?_
        refine lv_icmp_ne (tgt := 88) hx hb dL_isAnswerSo_67 (by decide) (fun hc => ?_) (fun hc => ?_)
        · have hs := g_f hs hc
          refine lv_iconst (v := 0) hx hb dL_isAnswerSo_88 (by decide) ?_
          refine lv_iadd hx hb dL_isAnswerSo_89 ?_
          refine lv_istore (lv' := [(4, .int (w4 + 0)), (0, .ref (ad 0)), (1, .int w1), (2, .int w2), (3, .int w3), (5, .int w5)]) hx hb dL_isAnswerSo_90 hl (by decide) rfl (fun ls hl => ?_)
          refine lv_iinc (v := w5 + 1) (lv' := [(5, .int (w5 + 1)), (4, .int (w4 + 0)), (0, .ref (ad 0)), (1, .int w1), (2, .int w2), (3, .int w3)]) hx hb dL_isAnswerSo_92 hl (k := 5) rfl rfl (by decide) rfl (fun ls hl => ?_)
          refine lv_goto (tgt := 49) hx hb dL_isAnswerSo_95 (by decide) ?_
          exact ih v w1 w2 w3 (w4 + 0) (w5 + 1) _ _ _ hP hS (lv_sub hl [2, 3, 4, 5, 1, 0] rfl) hs
        · have hs := g_t hs hc
          refine lv_aload_n hx hb dL_isAnswerSo_70 rfl (lv_at hl 0 rfl) ?_
          refine lv_iload hx hb dL_isAnswerSo_71 (lv_at hl 5 rfl) ?_
          refine g_bind hs (fun q_9 hq_9 hs => ?_)
          refine gCV_i (As := [.int w5]) (rest := [.int w4]) ⟨hx, hb, hml, hown, hts⟩ (cX5_adjective_c l D cy ad tL z0 hI v u w5 q_9 hq_9) (cwV 1 hts gL_isAnswerSo_X5_adjective rfl rfl rfl (by decide +kernel) ⟨Nat.le_of_ble_eq_true rfl, Nat.le_of_ble_eq_true rfl⟩) hK hP hS (va_recv hK.1 hP (ci := 5) (q0 := 0) rfl (gW_5 kd0)) hl.1 rfl rfl (Nat.le_of_ble_eq_true rfl) dL_isAnswerSo_73 ⟨Nat.zero_le _, Nat.zero_le _⟩ (fun H locs hP hS => ?_)
          refine lv_aload_n hx hb dL_isAnswerSo_76 rfl (lv_at hl 0 rfl) ?_
          refine lv_iload_n hx hb dL_isAnswerSo_77 rfl (lv_at hl 3 rfl) ?_
          refine g_bind hs (fun q_10 hq_10 hs => ?_)
          refine gCV_i (As := [.int w3]) (rest := [.int q_9, .int w4]) ⟨hx, hb, hml, hown, hts⟩ (cX5_adjective_c l D cy ad tL z0 hI v u w3 q_10 hq_10) (cwV 1 hts gL_isAnswerSo_X5_adjective rfl rfl rfl (by decide +kernel) ⟨Nat.le_of_ble_eq_true rfl, Nat.le_of_ble_eq_true rfl⟩) hK hP hS (va_recv hK.1 hP (ci := 5) (q0 := 0) rfl (gW_5 kd0)) hl.1 rfl rfl (Nat.le_of_ble_eq_true rfl) dL_isAnswerSo_78 ⟨Nat.zero_le _, Nat.zero_le _⟩ (fun H locs hP hS => ?_)
          refine lv_icmp_ne (tgt := 88) hx hb dL_isAnswerSo_81 (by decide) (fun hc => ?_) (fun hc => ?_)
          · have hs := g_f hs hc
            refine lv_iconst (v := 0) hx hb dL_isAnswerSo_88 (by decide) ?_
            refine lv_iadd hx hb dL_isAnswerSo_89 ?_
            refine lv_istore (lv' := [(4, .int (w4 + 0)), (0, .ref (ad 0)), (1, .int w1), (2, .int w2), (3, .int w3), (5, .int w5)]) hx hb dL_isAnswerSo_90 hl (by decide) rfl (fun ls hl => ?_)
            refine lv_iinc (v := w5 + 1) (lv' := [(5, .int (w5 + 1)), (4, .int (w4 + 0)), (0, .ref (ad 0)), (1, .int w1), (2, .int w2), (3, .int w3)]) hx hb dL_isAnswerSo_92 hl (k := 5) rfl rfl (by decide) rfl (fun ls hl => ?_)
            refine lv_goto (tgt := 49) hx hb dL_isAnswerSo_95 (by decide) ?_
            exact ih v w1 w2 w3 (w4 + 0) (w5 + 1) _ _ _ hP hS (lv_sub hl [2, 3, 4, 5, 1, 0] rfl) hs
          · have hs := g_t hs hc
            refine lv_iconst (v := 1) hx hb dL_isAnswerSo_84 (by decide) ?_
            refine lv_goto (tgt := 89) hx hb dL_isAnswerSo_85 (by decide) ?_
            refine lv_iadd hx hb dL_isAnswerSo_89 ?_
            refine lv_istore (lv' := [(4, .int (w4 + 1)), (0, .ref (ad 0)), (1, .int w1), (2, .int w2), (3, .int w3), (5, .int w5)]) hx hb dL_isAnswerSo_90 hl (by decide) rfl (fun ls hl => ?_)
            refine lv_iinc (v := w5 + 1) (lv' := [(5, .int (w5 + 1)), (4, .int (w4 + 1)), (0, .ref (ad 0)), (1, .int w1), (2, .int w2), (3, .int w3)]) hx hb dL_isAnswerSo_92 hl (k := 5) rfl rfl (by decide) rfl (fun ls hl => ?_)
            refine lv_goto (tgt := 49) hx hb dL_isAnswerSo_95 (by decide) ?_
            exact ih v w1 w2 w3 (w4 + 1) (w5 + 1) _ _ _ hP hS (lv_sub hl [2, 3, 4, 5, 1, 0] rfl) hs
  have hL_15 : ∀ (k : Nat), ∀ (v : gV) (w1 : Int32) (w2 : Int32) (w3 : Int32) (w4 : Int32) (H : Heap) (locs : List Loc) (ls : Array Slot), va_P D vwCl (gW cy ad v u) H → va_S (gA z0) s.heap H locs → lv_has ls 6 [(0, .ref (ad 0)), (1, .int w1), (2, .int w2), (3, .int w3), (4, .int w4)] → sL_isAnswerSo_15 n k v w1 w2 w3 w4 = some (r0, v1) → W p l e (headSpec wsL_isAnswerSo ({ frames := 8, cells := 0, slots := 0, locals := 194 } : Room)).room s m ([.ref (ad 0), .int x1] : List Value).toArray below meth c H locs 0 0 (MQ below (gQi D cy ad tL z0 v1 u r0) ([.ref (ad 0), .int x1] : List Value).toArray s 0 0 (gA z0)) (F0 m 15 ls []) := by
    intro k
    induction k with
    | zero =>
      intro v w1 w2 w3 w4 H locs ls hP hS hl hs
      exact g_none hs
    | succ k ih =>
      intro v w1 w2 w3 w4 H locs ls hP hS hl hs
      rw [sL_isAnswerSo_15] at hs
      refine lv_iload hx hb dL_isAnswerSo_15 (lv_at hl 4 rfl) ?_
      refine lv_bipush (v := 12) hx hb dL_isAnswerSo_17 (by decide) ?_
      refine lv_icmp_ge (tgt := 43) hx hb dL_isAnswerSo_19 (by decide) (fun hc => ?_) (fun hc => ?_)
      · have hs := g_t hs hc
        refine lv_iconst (v := 0) hx hb dL_isAnswerSo_43 (by decide) ?_
        refine lv_istore (lv' := [(4, .int 0), (0, .ref (ad 0)), (1, .int w1), (2, .int w2), (3, .int w3)]) hx hb dL_isAnswerSo_44 hl (by decide) rfl (fun ls hl => ?_)
        refine lv_iconst (v := 0) hx hb dL_isAnswerSo_46 (by decide) ?_
        refine lv_istore (lv' := [(5, .int 0), (4, .int 0), (0, .ref (ad 0)), (1, .int w1), (2, .int w2), (3, .int w3)]) hx hb dL_isAnswerSo_47 hl (by decide) rfl (fun ls hl => ?_)
        exact hL_49 n v w1 w2 w3 0 0 _ _ _ hP hS (lv_sub hl [2, 3, 4, 5, 1, 0] rfl) hs
      · have hs := g_f hs hc
        refine lv_iload_n hx hb dL_isAnswerSo_22 rfl (lv_at hl 2 rfl) ?_
        refine lv_iload_n hx hb dL_isAnswerSo_23 rfl (lv_at hl 3 rfl) ?_
        refine lv_ishr hx hb dL_isAnswerSo_24 ?_
        refine lv_iconst (v := 1) hx hb dL_isAnswerSo_25 (by decide) ?_
        refine lv_iand hx hb dL_isAnswerSo_26 ?_
        refine lv_if_ne (tgt := 43) hx hb dL_isAnswerSo_27 (by decide) (fun hc => ?_) (fun hc => ?_)
        · have hs := g_f hs hc
          refine lv_iconst (v := 0) hx hb dL_isAnswerSo_43 (by decide) ?_
          refine lv_istore (lv' := [(4, .int 0), (0, .ref (ad 0)), (1, .int w1), (2, .int w2), (3, .int w3)]) hx hb dL_isAnswerSo_44 hl (by decide) rfl (fun ls hl => ?_)
          refine lv_iconst (v := 0) hx hb dL_isAnswerSo_46 (by decide) ?_
          refine lv_istore (lv' := [(5, .int 0), (4, .int 0), (0, .ref (ad 0)), (1, .int w1), (2, .int w2), (3, .int w3)]) hx hb dL_isAnswerSo_47 hl (by decide) rfl (fun ls hl => ?_)
          exact hL_49 n v w1 w2 w3 0 0 _ _ _ hP hS (lv_sub hl [2, 3, 4, 5, 1, 0] rfl) hs
        · have hs := g_t hs hc
          refine lv_iload_n hx hb dL_isAnswerSo_30 rfl (lv_at hl 3 rfl) ?_
          refine lv_iconst (v := 1) hx hb dL_isAnswerSo_31 (by decide) ?_
          refine lv_iadd hx hb dL_isAnswerSo_32 ?_
          refine lv_bipush (v := 12) hx hb dL_isAnswerSo_33 (by decide) ?_
          refine lv_irem hx hb dL_isAnswerSo_35 (by decide) ?_
          refine lv_istore_n (lv' := [(3, .int ((w3 + 1) - (w3 + 1) / 12 * 12)), (0, .ref (ad 0)), (1, .int w1), (2, .int w2), (4, .int w4)]) hx hb dL_isAnswerSo_36 rfl hl (by decide) rfl (fun ls hl => ?_)
          refine lv_iinc (v := w4 + 1) (lv' := [(4, .int (w4 + 1)), (3, .int ((w3 + 1) - (w3 + 1) / 12 * 12)), (0, .ref (ad 0)), (1, .int w1), (2, .int w2)]) hx hb dL_isAnswerSo_37 hl (k := 4) rfl rfl (by decide) rfl (fun ls hl => ?_)
          refine lv_goto (tgt := 15) hx hb dL_isAnswerSo_40 (by decide) ?_
          exact ih v w1 w2 ((w3 + 1) - (w3 + 1) / 12 * 12) (w4 + 1) _ _ _ hP hS (lv_sub hl [2, 3, 4, 1, 0] rfl) hs
  unfold sL_isAnswerSo at hs
  refine lv_aload_n hx hb dL_isAnswerSo_0 rfl (lv_at hl 0 rfl) ?_
  refine g_bind hs (fun q_1 hq_1 hs => ?_)
  refine gCV_i (As := []) (rest := []) ⟨hx, hb, hml, hown, hts⟩ (cX5_candidates_c l D cy ad tL z0 hI v u q_1 hq_1) (cwV 0 hts gL_isAnswerSo_X5_candidates rfl rfl rfl (by decide +kernel) ⟨Nat.le_of_ble_eq_true rfl, Nat.le_of_ble_eq_true rfl⟩) hK hP hS (va_recv hK.1 hP (ci := 5) (q0 := 0) rfl (gW_5 kd0)) hl.1 rfl rfl (Nat.le_of_ble_eq_true rfl) dL_isAnswerSo_1 ⟨Nat.zero_le _, Nat.zero_le _⟩ (fun H locs hP hS => ?_)
  refine lv_istore_n (lv' := [(2, .int q_1), (0, .ref (ad 0)), (1, .int x1)]) hx hb dL_isAnswerSo_4 rfl hl (by decide) rfl (fun ls hl => ?_)
  refine lv_iload_n hx hb dL_isAnswerSo_5 rfl (lv_at hl 2 rfl) ?_
  refine lv_bipush (v := 12) hx hb dL_isAnswerSo_6 (by decide) ?_
  refine g_bind hs (fun q_2 hq_2 hs => ?_)
  refine gCS_i (As := [.int x1, .int 12]) (rest := []) ⟨hx, hb, hml, hown, hts⟩ (cL_low_c l D cy ad tL z0 hI v u x1 12 q_2 hq_2) (va_cwS 2 hts gL_isAnswerSo_L_low rfl rfl rfl (by decide +kernel) ⟨Nat.le_of_ble_eq_true rfl, Nat.le_of_ble_eq_true rfl⟩) hK hP hS hl.1 rfl rfl (Nat.le_of_ble_eq_true rfl) dL_isAnswerSo_8 ⟨Nat.zero_le _, Nat.zero_le _⟩ (fun H locs hP hS => ?_)
  refine lv_istore_n (lv' := [(3, .int q_2), (2, .int q_1), (0, .ref (ad 0)), (1, .int x1)]) hx hb dL_isAnswerSo_11 rfl hl (by decide) rfl (fun ls hl => ?_)
  refine lv_iconst (v := 0) hx hb dL_isAnswerSo_12 (by decide) ?_
  refine lv_istore (lv' := [(4, .int 0), (3, .int q_2), (2, .int q_1), (0, .ref (ad 0)), (1, .int x1)]) hx hb dL_isAnswerSo_13 hl (by decide) rfl (fun ls hl => ?_)
  exact hL_15 n v x1 q_1 q_2 0 _ _ _ hP hS (lv_sub hl [3, 4, 2, 1, 0] rfl) hs
set_option maxHeartbeats 4000000 in
set_option maxRecDepth 100000 in
theorem cL_areAllButSo_c (l : Launch) (D : va_G) (cy : Nat → ClassId) (ad : Nat → Nat) (tL z0 : Nat) (hI : gI z0 ad) (n : Nat) (v : gV) (u : Int64) (x1 : Int32) (r0 : Int32) (v1 : gV) (hs : sL_areAllButSo n v x1 = some (r0, v1)) : Met l yL_areAllButSo wsL_areAllButSo ({ frames := 7, cells := 0, slots := 0, locals := 161 } : Room) (gPc D cy ad tL z0 v u [.ref (ad 0), .int x1]) (gQi D cy ad tL z0 v1 u r0) 0 0 (gA z0) := by
  refine Met.ofW (cc := cL_areAllButSo) (maxL := 16) (ret := (some .boolean)) (by decide) rfl ?_
  intro p e s m args below meth c s₁ B hml hv
  obtain ⟨rfl, hB0⟩ := hv
  have hP : va_P D vwCl (gW cy ad v u) s.heap := hB0.1
  have hK : gK D cy tL z0 s s.heap := hB0.2
  have hx := B.exec
  have hb := B.bytes
  have hr := B.returns
  have hts := atoms_spec (ws := wsL_areAllButSo) B.pre
  have hown : s.vm.findClass RL = some m.cls := findClass_of_methodNamed B.named
  have hlocks := B.notSynchronized
  have hS : va_S (gA z0) s.heap s.heap [] := va_S.rf
  have hl := lv_entry ([.ref (ad 0), .int x1]) (n := 16) (Nat.le_of_ble_eq_true rfl)
  rw [lg_entry_eq]
  generalize (lg_sl ([.ref (ad 0), .int x1]) ++ List.replicate (16 - (lg_sl ([.ref (ad 0), .int x1])).length) Slot.unset).toArray = ls at hl ⊢
  have hl : lv_has ls 16 [(0, .ref (ad 0)), (1, .int x1)] := hl
  clear hB0
  have hJ_289 : ∀ (v : gV) (w9 : Int64) (w12 : Int32) (H : Heap) (locs : List Loc) (ls : Array Slot), va_P D vwCl (gW cy ad v u) H → va_S (gA z0) s.heap H locs → lv_has ls 16 [(0, .ref (ad 0)), (9, .long w9), (12, .int w12)] → sL_areAllButSo_289 n v w9 w12 = some (r0, v1) → W p l e (headSpec wsL_areAllButSo ({ frames := 7, cells := 0, slots := 0, locals := 161 } : Room)).room s m ([.ref (ad 0), .int x1] : List Value).toArray below meth c H locs 0 0 (MQ below (gQi D cy ad tL z0 v1 u r0) ([.ref (ad 0), .int x1] : List Value).toArray s 0 0 (gA z0)) (F0 m 289 ls []) := by
    intro v w9 w12 H locs ls hP hS hl hs
    unfold sL_areAllButSo_289 at hs
    refine lv_aload_n hx hb dL_areAllButSo_289 rfl (lv_at hl 0 rfl) ?_
    refine g_bind hs (fun q_14 hq_14 hs => ?_)
    refine gCV_i (As := []) (rest := []) ⟨hx, hb, hml, hown, hts⟩ (cX5_undo_c l D cy ad tL z0 hI n v u q_14.1 q_14.2 hq_14) (cwV 0 hts gL_areAllButSo_X5_undo rfl rfl rfl (by decide +kernel) ⟨Nat.le_of_ble_eq_true rfl, Nat.le_of_ble_eq_true rfl⟩) hK hP hS (va_recv hK.1 hP (ci := 5) (q0 := 0) rfl (gW_5 kd0)) hl.1 rfl rfl (Nat.le_of_ble_eq_true rfl) dL_areAllButSo_290 ⟨Nat.zero_le _, Nat.zero_le _⟩ (fun H locs hP hS => ?_)
    refine lv_istore (lv' := [(14, .int q_14.1), (0, .ref (ad 0)), (9, .long w9), (12, .int w12)]) hx hb dL_areAllButSo_293 hl (by decide) rfl (fun ls hl => ?_)
    refine lv_iload hx hb dL_areAllButSo_295 (lv_at hl 3 rfl) ?_
    refine lv_if_eq (tgt := 319) hx hb dL_areAllButSo_297 (by decide) (fun hc => ?_) (fun hc => ?_)
    · have hs := g_t hs hc
      refine lv_iconst (v := 0) hx hb dL_areAllButSo_319 (by decide) ?_
      exact gRet_z hx hb hr hlocks rfl hK hP hS (g_some2 hs) dL_areAllButSo_320
    · have hs := g_f hs hc
      refine lv_iload hx hb dL_areAllButSo_300 (lv_at hl 0 rfl) ?_
      refine lv_if_lt (tgt := 319) hx hb dL_areAllButSo_302 (by decide) (fun hc => ?_) (fun hc => ?_)
      · have hs := g_t hs hc
        refine lv_iconst (v := 0) hx hb dL_areAllButSo_319 (by decide) ?_
        exact gRet_z hx hb hr hlocks rfl hK hP hS (g_some2 hs) dL_areAllButSo_320
      · have hs := g_f hs hc
        refine lv_aload_n hx hb dL_areAllButSo_305 rfl (lv_at hl 1 rfl) ?_
        refine g_bind hs (fun q_15 hq_15 hs => ?_)
        refine gCV_l (As := []) (rest := []) ⟨hx, hb, hml, hown, hts⟩ (cX5_digest_c l D cy ad tL z0 hI n q_14.2 u q_15 hq_15) (cwV 0 hts gL_areAllButSo_X5_digest rfl rfl rfl (by decide +kernel) ⟨Nat.le_of_ble_eq_true rfl, Nat.le_of_ble_eq_true rfl⟩) hK hP hS (va_recv hK.1 hP (ci := 5) (q0 := 0) rfl (gW_5 kd0)) hl.1 rfl rfl (Nat.le_of_ble_eq_true rfl) dL_areAllButSo_306 ⟨Nat.zero_le _, Nat.zero_le _⟩ (fun H locs hP hS => ?_)
        refine lv_lload hx hb dL_areAllButSo_309 (lv_at hl 2 rfl) ?_
        refine W.lcmp hx hb dL_areAllButSo_311 ?_
        refine lv_if_ne (tgt := 319) hx hb dL_areAllButSo_312 (by decide) (fun hc => ?_) (fun hc => ?_)
        · have hs := g_f hs hc
          refine lv_iconst (v := 0) hx hb dL_areAllButSo_319 (by decide) ?_
          exact gRet_z hx hb hr hlocks rfl hK hP hS (g_some2 hs) dL_areAllButSo_320
        · have hs := g_t hs hc
          refine lv_iconst (v := 1) hx hb dL_areAllButSo_315 (by decide) ?_
          refine lv_goto (tgt := 320) hx hb dL_areAllButSo_316 (by decide) ?_
          exact gRet_z hx hb hr hlocks rfl hK hP hS (g_some2 hs) dL_areAllButSo_320
  have hL_191 : ∀ (k : Nat), ∀ (v : gV) (w3 : Int32) (w5 : Int32) (w8 : Int32) (w9 : Int64) (w12 : Int32) (w13 : Int32) (w14 : Int32) (H : Heap) (locs : List Loc) (ls : Array Slot), va_P D vwCl (gW cy ad v u) H → va_S (gA z0) s.heap H locs → lv_has ls 16 [(0, .ref (ad 0)), (3, .int w3), (5, .int w5), (8, .int w8), (9, .long w9), (12, .int w12), (13, .int w13), (14, .int w14)] → sL_areAllButSo_191 n k v w3 w5 w8 w9 w12 w13 w14 = some (r0, v1) → W p l e (headSpec wsL_areAllButSo ({ frames := 7, cells := 0, slots := 0, locals := 161 } : Room)).room s m ([.ref (ad 0), .int x1] : List Value).toArray below meth c H locs 0 0 (MQ below (gQi D cy ad tL z0 v1 u r0) ([.ref (ad 0), .int x1] : List Value).toArray s 0 0 (gA z0)) (F0 m 191 ls []) := by
    intro k
    induction k with
    | zero =>
      intro v w3 w5 w8 w9 w12 w13 w14 H locs ls hP hS hl hs
      exact g_none hs
    | succ k ih =>
      have hJ_273 : ∀ (v : gV) (w3 : Int32) (w5 : Int32) (w8 : Int32) (w9 : Int64) (w13 : Int32) (w14 : Int32) (t0 : Int32) (t1 : Int32) (H : Heap) (locs : List Loc) (ls : Array Slot), va_P D vwCl (gW cy ad v u) H → va_S (gA z0) s.heap H locs → lv_has ls 16 [(0, .ref (ad 0)), (3, .int w3), (5, .int w5), (8, .int w8), (9, .long w9), (13, .int w13), (14, .int w14)] → sL_areAllButSo_273 n (sL_areAllButSo_191 n k) v w3 w5 w8 w9 w13 w14 t0 t1 = some (r0, v1) → W p l e (headSpec wsL_areAllButSo ({ frames := 7, cells := 0, slots := 0, locals := 161 } : Room)).room s m ([.ref (ad 0), .int x1] : List Value).toArray below meth c H locs 0 0 (MQ below (gQi D cy ad tL z0 v1 u r0) ([.ref (ad 0), .int x1] : List Value).toArray s 0 0 (gA z0)) (F0 m 273 ls [.int t1, .int t0]) := by
        intro v w3 w5 w8 w9 w13 w14 t0 t1 H locs ls hP hS hl hs
        unfold sL_areAllButSo_273 at hs
        refine lv_icmp_ne (tgt := 280) hx hb dL_areAllButSo_273 (by decide) (fun hc => ?_) (fun hc => ?_)
        · have hs := g_f hs hc
          refine lv_iconst (v := 0) hx hb dL_areAllButSo_280 (by decide) ?_
          refine lv_istore (lv' := [(12, .int 0), (0, .ref (ad 0)), (3, .int w3), (5, .int w5), (8, .int w8), (9, .long w9), (13, .int w13), (14, .int w14)]) hx hb dL_areAllButSo_281 hl (by decide) rfl (fun ls hl => ?_)
          refine lv_iinc (v := w14 + 1) (lv' := [(14, .int (w14 + 1)), (12, .int 0), (0, .ref (ad 0)), (3, .int w3), (5, .int w5), (8, .int w8), (9, .long w9), (13, .int w13)]) hx hb dL_areAllButSo_283 hl (k := 7) rfl rfl (by decide) rfl (fun ls hl => ?_)
          refine lv_goto (tgt := 191) hx hb dL_areAllButSo_286 (by decide) ?_
          exact ih v w3 w5 w8 w9 0 w13 (w14 + 1) _ _ _ hP hS (lv_sub hl [2, 3, 4, 5, 6, 1, 7, 0] rfl) hs
        · have hs := g_t hs hc
          refine lv_iconst (v := 1) hx hb dL_areAllButSo_276 (by decide) ?_
          refine lv_goto (tgt := 281) hx hb dL_areAllButSo_277 (by decide) ?_
          refine lv_istore (lv' := [(12, .int 1), (0, .ref (ad 0)), (3, .int w3), (5, .int w5), (8, .int w8), (9, .long w9), (13, .int w13), (14, .int w14)]) hx hb dL_areAllButSo_281 hl (by decide) rfl (fun ls hl => ?_)
          refine lv_iinc (v := w14 + 1) (lv' := [(14, .int (w14 + 1)), (12, .int 1), (0, .ref (ad 0)), (3, .int w3), (5, .int w5), (8, .int w8), (9, .long w9), (13, .int w13)]) hx hb dL_areAllButSo_283 hl (k := 7) rfl rfl (by decide) rfl (fun ls hl => ?_)
          refine lv_goto (tgt := 191) hx hb dL_areAllButSo_286 (by decide) ?_
          exact ih v w3 w5 w8 w9 1 w13 (w14 + 1) _ _ _ hP hS (lv_sub hl [2, 3, 4, 5, 6, 1, 7, 0] rfl) hs
      have hJ_235 : ∀ (v : gV) (w3 : Int32) (w5 : Int32) (w8 : Int32) (w9 : Int64) (w12 : Int32) (w14 : Int32) (w15 : Int32) (t0 : Int32) (t1 : Int32) (H : Heap) (locs : List Loc) (ls : Array Slot), va_P D vwCl (gW cy ad v u) H → va_S (gA z0) s.heap H locs → lv_has ls 16 [(0, .ref (ad 0)), (3, .int w3), (5, .int w5), (8, .int w8), (9, .long w9), (12, .int w12), (14, .int w14), (15, .int w15)] → sL_areAllButSo_235 n (sL_areAllButSo_191 n k) v w3 w5 w8 w9 w12 w14 w15 t0 t1 = some (r0, v1) → W p l e (headSpec wsL_areAllButSo ({ frames := 7, cells := 0, slots := 0, locals := 161 } : Room)).room s m ([.ref (ad 0), .int x1] : List Value).toArray below meth c H locs 0 0 (MQ below (gQi D cy ad tL z0 v1 u r0) ([.ref (ad 0), .int x1] : List Value).toArray s 0 0 (gA z0)) (F0 m 235 ls [.int t1, .int t0]) := by
        intro v w3 w5 w8 w9 w12 w14 w15 t0 t1 H locs ls hP hS hl hs
        unfold sL_areAllButSo_235 at hs
        refine lv_iadd hx hb dL_areAllButSo_235 ?_
        refine lv_istore (lv' := [(13, .int (t0 + t1)), (0, .ref (ad 0)), (3, .int w3), (5, .int w5), (8, .int w8), (9, .long w9), (12, .int w12), (14, .int w14), (15, .int w15)]) hx hb dL_areAllButSo_236 hl (by decide) rfl (fun ls hl => ?_)
        refine lv_iload hx hb dL_areAllButSo_238 (lv_at hl 6 rfl) ?_
        refine lv_if_eq (tgt := 280) hx hb dL_areAllButSo_240 (by decide) (fun hc => ?_) (fun hc => ?_)
        · have hs := g_t hs hc
          refine lv_iconst (v := 0) hx hb dL_areAllButSo_280 (by decide) ?_
          refine lv_istore (lv' := [(12, .int 0), (13, .int (t0 + t1)), (0, .ref (ad 0)), (3, .int w3), (5, .int w5), (8, .int w8), (9, .long w9), (14, .int w14), (15, .int w15)]) hx hb dL_areAllButSo_281 hl (by decide) rfl (fun ls hl => ?_)
          refine lv_iinc (v := w14 + 1) (lv' := [(14, .int (w14 + 1)), (12, .int 0), (13, .int (t0 + t1)), (0, .ref (ad 0)), (3, .int w3), (5, .int w5), (8, .int w8), (9, .long w9), (15, .int w15)]) hx hb dL_areAllButSo_283 hl (k := 7) rfl rfl (by decide) rfl (fun ls hl => ?_)
          refine lv_goto (tgt := 191) hx hb dL_areAllButSo_286 (by decide) ?_
          exact ih v w3 w5 w8 w9 0 (t0 + t1) (w14 + 1) _ _ _ hP hS (lv_sub hl [3, 4, 5, 6, 7, 1, 2, 0] rfl) hs
        · have hs := g_f hs hc
          refine lv_iload hx hb dL_areAllButSo_243 (lv_at hl 8 rfl) ?_
          refine lv_if_eq (tgt := 276) hx hb dL_areAllButSo_245 (by decide) (fun hc => ?_) (fun hc => ?_)
          · have hs := g_t hs hc
            refine lv_iconst (v := 1) hx hb dL_areAllButSo_276 (by decide) ?_
            refine lv_goto (tgt := 281) hx hb dL_areAllButSo_277 (by decide) ?_
            refine lv_istore (lv' := [(12, .int 1), (13, .int (t0 + t1)), (0, .ref (ad 0)), (3, .int w3), (5, .int w5), (8, .int w8), (9, .long w9), (14, .int w14), (15, .int w15)]) hx hb dL_areAllButSo_281 hl (by decide) rfl (fun ls hl => ?_)
            refine lv_iinc (v := w14 + 1) (lv' := [(14, .int (w14 + 1)), (12, .int 1), (13, .int (t0 + t1)), (0, .ref (ad 0)), (3, .int w3), (5, .int w5), (8, .int w8), (9, .long w9), (15, .int w15)]) hx hb dL_areAllButSo_283 hl (k := 7) rfl rfl (by decide) rfl (fun ls hl => ?_)
            refine lv_goto (tgt := 191) hx hb dL_areAllButSo_286 (by decide) ?_
            exact ih v w3 w5 w8 w9 1 (t0 + t1) (w14 + 1) _ _ _ hP hS (lv_sub hl [3, 4, 5, 6, 7, 1, 2, 0] rfl) hs
          · have hs := g_f hs hc
            refine lv_iload hx hb dL_areAllButSo_248 (lv_at hl 0 rfl) ?_
            refine lv_iload hx hb dL_areAllButSo_250 (lv_at hl 4 rfl) ?_
            refine lv_icmp_gt (tgt := 276) hx hb dL_areAllButSo_252 (by decide) (fun hc => ?_) (fun hc => ?_)
            · have hs := g_t hs hc
              refine lv_iconst (v := 1) hx hb dL_areAllButSo_276 (by decide) ?_
              refine lv_goto (tgt := 281) hx hb dL_areAllButSo_277 (by decide) ?_
              refine lv_istore (lv' := [(12, .int 1), (13, .int (t0 + t1)), (0, .ref (ad 0)), (3, .int w3), (5, .int w5), (8, .int w8), (9, .long w9), (14, .int w14), (15, .int w15)]) hx hb dL_areAllButSo_281 hl (by decide) rfl (fun ls hl => ?_)
              refine lv_iinc (v := w14 + 1) (lv' := [(14, .int (w14 + 1)), (12, .int 1), (13, .int (t0 + t1)), (0, .ref (ad 0)), (3, .int w3), (5, .int w5), (8, .int w8), (9, .long w9), (15, .int w15)]) hx hb dL_areAllButSo_283 hl (k := 7) rfl rfl (by decide) rfl (fun ls hl => ?_)
              refine lv_goto (tgt := 191) hx hb dL_areAllButSo_286 (by decide) ?_
              exact ih v w3 w5 w8 w9 1 (t0 + t1) (w14 + 1) _ _ _ hP hS (lv_sub hl [3, 4, 5, 6, 7, 1, 2, 0] rfl) hs
            · have hs := g_f hs hc
              refine lv_aload_n hx hb dL_areAllButSo_255 rfl (lv_at hl 1 rfl) ?_
              refine lv_iload hx hb dL_areAllButSo_256 (lv_at hl 7 rfl) ?_
              refine g_bind hs (fun q_16 hq_16 hs => ?_)
              refine gCV_i (As := [.int w14]) (rest := []) ⟨hx, hb, hml, hown, hts⟩ (cX5_place_c l D cy ad tL z0 hI v u w14 q_16 hq_16) (cwV 1 hts gL_areAllButSo_X5_place rfl rfl rfl (by decide +kernel) ⟨Nat.le_of_ble_eq_true rfl, Nat.le_of_ble_eq_true rfl⟩) hK hP hS (va_recv hK.1 hP (ci := 5) (q0 := 0) rfl (gW_5 kd0)) hl.1 rfl rfl (Nat.le_of_ble_eq_true rfl) dL_areAllButSo_258 ⟨Nat.zero_le _, Nat.zero_le _⟩ (fun H locs hP hS => ?_)
              refine lv_iload_n hx hb dL_areAllButSo_261 rfl (lv_at hl 2 rfl) ?_
              refine lv_if_ne (tgt := 269) hx hb dL_areAllButSo_262 (by decide) (fun hc => ?_) (fun hc => ?_)
              · have hs := g_f hs hc
                refine lv_aload_n hx hb dL_areAllButSo_269 rfl (lv_at hl 1 rfl) ?_
                refine g_bind hs (fun q_17 hq_17 hs => ?_)
                refine gCV_i (As := []) (rest := [.int q_16]) ⟨hx, hb, hml, hown, hts⟩ (cX5_room_c l D cy ad tL z0 hI v u q_17 hq_17) (cwV 0 hts gL_areAllButSo_X5_room rfl rfl rfl (by decide +kernel) ⟨Nat.le_of_ble_eq_true rfl, Nat.le_of_ble_eq_true rfl⟩) hK hP hS (va_recv hK.1 hP (ci := 5) (q0 := 0) rfl (gW_5 kd0)) hl.1 rfl rfl (Nat.le_of_ble_eq_true rfl) dL_areAllButSo_270 ⟨Nat.zero_le _, Nat.zero_le _⟩ (fun H locs hP hS => ?_)
                exact hJ_273 v w3 w5 w8 w9 (t0 + t1) w14 q_16 q_17 _ _ _ hP hS (lv_sub hl [1, 2, 3, 4, 5, 0, 7] rfl) hs
              · have hs := g_t hs hc
                refine lv_iconst (v := 4) hx hb dL_areAllButSo_265 (by decide) ?_
                refine lv_goto (tgt := 273) hx hb dL_areAllButSo_266 (by decide) ?_
                exact hJ_273 v w3 w5 w8 w9 (t0 + t1) w14 q_16 4 _ _ _ hP hS (lv_sub hl [1, 2, 3, 4, 5, 0, 7] rfl) hs
      have hJ_221 : ∀ (v : gV) (w3 : Int32) (w5 : Int32) (w8 : Int32) (w9 : Int64) (w12 : Int32) (w13 : Int32) (w14 : Int32) (t0 : Int32) (H : Heap) (locs : List Loc) (ls : Array Slot), va_P D vwCl (gW cy ad v u) H → va_S (gA z0) s.heap H locs → lv_has ls 16 [(0, .ref (ad 0)), (3, .int w3), (5, .int w5), (8, .int w8), (9, .long w9), (12, .int w12), (13, .int w13), (14, .int w14)] → sL_areAllButSo_221 n (sL_areAllButSo_191 n k) v w3 w5 w8 w9 w12 w13 w14 t0 = some (r0, v1) → W p l e (headSpec wsL_areAllButSo ({ frames := 7, cells := 0, slots := 0, locals := 161 } : Room)).room s m ([.ref (ad 0), .int x1] : List Value).toArray below meth c H locs 0 0 (MQ below (gQi D cy ad tL z0 v1 u r0) ([.ref (ad 0), .int x1] : List Value).toArray s 0 0 (gA z0)) (F0 m 221 ls [.int t0]) := by
        intro v w3 w5 w8 w9 w12 w13 w14 t0 H locs ls hP hS hl hs
        unfold sL_areAllButSo_221 at hs
        refine lv_istore (lv' := [(15, .int t0), (0, .ref (ad 0)), (3, .int w3), (5, .int w5), (8, .int w8), (9, .long w9), (12, .int w12), (13, .int w13), (14, .int w14)]) hx hb dL_areAllButSo_221 hl (by decide) rfl (fun ls hl => ?_)
        refine lv_iload hx hb dL_areAllButSo_223 (lv_at hl 7 rfl) ?_
        refine lv_iload hx hb dL_areAllButSo_225 (lv_at hl 0 rfl) ?_
        refine lv_if_eq (tgt := 234) hx hb dL_areAllButSo_227 (by decide) (fun hc => ?_) (fun hc => ?_)
        · have hs := g_t hs hc
          refine lv_iconst (v := 0) hx hb dL_areAllButSo_234 (by decide) ?_
          exact hJ_235 v w3 w5 w8 w9 w12 w14 t0 w13 0 _ _ _ hP hS (lv_sub hl [1, 2, 3, 4, 5, 6, 8, 0] rfl) hs
        · have hs := g_f hs hc
          refine lv_iconst (v := 1) hx hb dL_areAllButSo_230 (by decide) ?_
          refine lv_goto (tgt := 235) hx hb dL_areAllButSo_231 (by decide) ?_
          exact hJ_235 v w3 w5 w8 w9 w12 w14 t0 w13 1 _ _ _ hP hS (lv_sub hl [1, 2, 3, 4, 5, 6, 8, 0] rfl) hs
      intro v w3 w5 w8 w9 w12 w13 w14 H locs ls hP hS hl hs
      rw [sL_areAllButSo_191] at hs
      refine lv_iload hx hb dL_areAllButSo_191 (lv_at hl 7 rfl) ?_
      refine lv_aload_n hx hb dL_areAllButSo_193 rfl (lv_at hl 0 rfl) ?_
      refine g_bind hs (fun q_13 hq_13 hs => ?_)
      refine gCV_i (As := []) (rest := [.int w14]) ⟨hx, hb, hml, hown, hts⟩ (cX5_objects_c l D cy ad tL z0 hI v u q_13 hq_13) (cwV 0 hts gL_areAllButSo_X5_objects rfl rfl rfl (by decide +kernel) ⟨Nat.le_of_ble_eq_true rfl, Nat.le_of_ble_eq_true rfl⟩) hK hP hS (va_recv hK.1 hP (ci := 5) (q0 := 0) rfl (gW_5 kd0)) hl.1 rfl rfl (Nat.le_of_ble_eq_true rfl) dL_areAllButSo_194 ⟨Nat.zero_le _, Nat.zero_le _⟩ (fun H locs hP hS => ?_)
      refine lv_icmp_ge (tgt := 289) hx hb dL_areAllButSo_197 (by decide) (fun hc => ?_) (fun hc => ?_)
      · have hs := g_t hs hc
        exact hJ_289 v w9 w12 _ _ _ hP hS (lv_sub hl [0, 4, 5] rfl) hs
      · have hs := g_f hs hc
        refine lv_iload hx hb dL_areAllButSo_200 (lv_at hl 2 rfl) ?_
        refine lv_if_eq (tgt := 289) hx hb dL_areAllButSo_202 (by decide) (fun hc => ?_) (fun hc => ?_)
        · have hs := g_t hs hc
          exact hJ_289 v w9 w12 _ _ _ hP hS (lv_sub hl [0, 4, 5] rfl) hs
        · have hs := g_f hs hc
          refine lv_iload hx hb dL_areAllButSo_205 (lv_at hl 2 rfl) ?_
          refine lv_iload hx hb dL_areAllButSo_207 (lv_at hl 7 rfl) ?_
          refine lv_ishr hx hb dL_areAllButSo_209 ?_
          refine lv_iconst (v := 1) hx hb dL_areAllButSo_210 (by decide) ?_
          refine lv_iand hx hb dL_areAllButSo_211 ?_
          refine lv_iconst (v := 1) hx hb dL_areAllButSo_212 (by decide) ?_
          refine lv_icmp_ne (tgt := 220) hx hb dL_areAllButSo_213 (by decide) (fun hc => ?_) (fun hc => ?_)
          · have hs := g_f hs hc
            refine lv_iconst (v := 0) hx hb dL_areAllButSo_220 (by decide) ?_
            exact hJ_221 v w3 w5 w8 w9 w12 w13 w14 0 _ _ _ hP hS (lv_sub hl [0, 1, 2, 3, 4, 5, 6, 7] rfl) hs
          · have hs := g_t hs hc
            refine lv_iconst (v := 1) hx hb dL_areAllButSo_216 (by decide) ?_
            refine lv_goto (tgt := 221) hx hb dL_areAllButSo_217 (by decide) ?_
            exact hJ_221 v w3 w5 w8 w9 w12 w13 w14 1 _ _ _ hP hS (lv_sub hl [0, 1, 2, 3, 4, 5, 6, 7] rfl) hs
  have hJ_138 : ∀ (v : gV) (w3 : Int32) (w5 : Int32) (w8 : Int32) (w9 : Int64) (t0 : Int32) (t1 : Int32) (H : Heap) (locs : List Loc) (ls : Array Slot), va_P D vwCl (gW cy ad v u) H → va_S (gA z0) s.heap H locs → lv_has ls 16 [(0, .ref (ad 0)), (3, .int w3), (5, .int w5), (8, .int w8), (9, .long w9)] → sL_areAllButSo_138 n v w3 w5 w8 w9 t0 t1 = some (r0, v1) → W p l e (headSpec wsL_areAllButSo ({ frames := 7, cells := 0, slots := 0, locals := 161 } : Room)).room s m ([.ref (ad 0), .int x1] : List Value).toArray below meth c H locs 0 0 (MQ below (gQi D cy ad tL z0 v1 u r0) ([.ref (ad 0), .int x1] : List Value).toArray s 0 0 (gA z0)) (F0 m 138 ls [.int t1, .int t0]) := by
    intro v w3 w5 w8 w9 t0 t1 H locs ls hP hS hl hs
    unfold sL_areAllButSo_138 at hs
    refine lv_icmp_ne (tgt := 182) hx hb dL_areAllButSo_138 (by decide) (fun hc => ?_) (fun hc => ?_)
    · have hs := g_f hs hc
      refine lv_iconst (v := 0) hx hb dL_areAllButSo_182 (by decide) ?_
      refine lv_istore (lv' := [(12, .int 0), (0, .ref (ad 0)), (3, .int w3), (5, .int w5), (8, .int w8), (9, .long w9)]) hx hb dL_areAllButSo_183 hl (by decide) rfl (fun ls hl => ?_)
      refine lv_iconst (v := 0) hx hb dL_areAllButSo_185 (by decide) ?_
      refine lv_istore (lv' := [(13, .int 0), (12, .int 0), (0, .ref (ad 0)), (3, .int w3), (5, .int w5), (8, .int w8), (9, .long w9)]) hx hb dL_areAllButSo_186 hl (by decide) rfl (fun ls hl => ?_)
      refine lv_iconst (v := 0) hx hb dL_areAllButSo_188 (by decide) ?_
      refine lv_istore (lv' := [(14, .int 0), (13, .int 0), (12, .int 0), (0, .ref (ad 0)), (3, .int w3), (5, .int w5), (8, .int w8), (9, .long w9)]) hx hb dL_areAllButSo_189 hl (by decide) rfl (fun ls hl => ?_)
      exact hL_191 n v w3 w5 w8 w9 0 0 0 _ _ _ hP hS (lv_sub hl [3, 4, 5, 6, 7, 2, 1, 0] rfl) hs
    · have hs := g_t hs hc
      refine lv_iload hx hb dL_areAllButSo_141 (lv_at hl 2 rfl) ?_
      refine lv_if_eq (tgt := 178) hx hb dL_areAllButSo_143 (by decide) (fun hc => ?_) (fun hc => ?_)
      · have hs := g_t hs hc
        refine lv_iconst (v := 1) hx hb dL_areAllButSo_178 (by decide) ?_
        refine lv_goto (tgt := 183) hx hb dL_areAllButSo_179 (by decide) ?_
        refine lv_istore (lv' := [(12, .int 1), (0, .ref (ad 0)), (3, .int w3), (5, .int w5), (8, .int w8), (9, .long w9)]) hx hb dL_areAllButSo_183 hl (by decide) rfl (fun ls hl => ?_)
        refine lv_iconst (v := 0) hx hb dL_areAllButSo_185 (by decide) ?_
        refine lv_istore (lv' := [(13, .int 0), (12, .int 1), (0, .ref (ad 0)), (3, .int w3), (5, .int w5), (8, .int w8), (9, .long w9)]) hx hb dL_areAllButSo_186 hl (by decide) rfl (fun ls hl => ?_)
        refine lv_iconst (v := 0) hx hb dL_areAllButSo_188 (by decide) ?_
        refine lv_istore (lv' := [(14, .int 0), (13, .int 0), (12, .int 1), (0, .ref (ad 0)), (3, .int w3), (5, .int w5), (8, .int w8), (9, .long w9)]) hx hb dL_areAllButSo_189 hl (by decide) rfl (fun ls hl => ?_)
        exact hL_191 n v w3 w5 w8 w9 1 0 0 _ _ _ hP hS (lv_sub hl [3, 4, 5, 6, 7, 2, 1, 0] rfl) hs
      · have hs := g_f hs hc
        refine lv_iload hx hb dL_areAllButSo_146 (lv_at hl 2 rfl) ?_
        refine g_bind hs (fun q_18 hq_18 hs => ?_)
        refine gCS_i (As := [.int w5]) (rest := []) ⟨hx, hb, hml, hown, hts⟩ (cL_size_c l D cy ad tL z0 hI n v u w5 q_18 hq_18) (va_cwS 1 hts gL_areAllButSo_L_size rfl rfl rfl (by decide +kernel) ⟨Nat.le_of_ble_eq_true rfl, Nat.le_of_ble_eq_true rfl⟩) hK hP hS hl.1 rfl rfl (Nat.le_of_ble_eq_true rfl) dL_areAllButSo_148 ⟨Nat.zero_le _, Nat.zero_le _⟩ (fun H locs hP hS => ?_)
        refine lv_iconst (v := 1) hx hb dL_areAllButSo_151 (by decide) ?_
        refine lv_icmp_ne (tgt := 169) hx hb dL_areAllButSo_152 (by decide) (fun hc => ?_) (fun hc => ?_)
        · have hs := g_f hs hc
          refine lv_aload_n hx hb dL_areAllButSo_169 rfl (lv_at hl 0 rfl) ?_
          refine g_bind hs (fun q_19 hq_19 hs => ?_)
          refine gCV_i (As := []) (rest := []) ⟨hx, hb, hml, hown, hts⟩ (cX5_them_c l D cy ad tL z0 hI v u q_19 hq_19) (cwV 0 hts gL_areAllButSo_X5_them rfl rfl rfl (by decide +kernel) ⟨Nat.le_of_ble_eq_true rfl, Nat.le_of_ble_eq_true rfl⟩) hK hP hS (va_recv hK.1 hP (ci := 5) (q0 := 0) rfl (gW_5 kd0)) hl.1 rfl rfl (Nat.le_of_ble_eq_true rfl) dL_areAllButSo_170 ⟨Nat.zero_le _, Nat.zero_le _⟩ (fun H locs hP hS => ?_)
          refine lv_iload hx hb dL_areAllButSo_173 (lv_at hl 2 rfl) ?_
          refine lv_icmp_ne (tgt := 182) hx hb dL_areAllButSo_175 (by decide) (fun hc => ?_) (fun hc => ?_)
          · have hs := g_f hs hc
            refine lv_iconst (v := 0) hx hb dL_areAllButSo_182 (by decide) ?_
            refine lv_istore (lv' := [(12, .int 0), (0, .ref (ad 0)), (3, .int w3), (5, .int w5), (8, .int w8), (9, .long w9)]) hx hb dL_areAllButSo_183 hl (by decide) rfl (fun ls hl => ?_)
            refine lv_iconst (v := 0) hx hb dL_areAllButSo_185 (by decide) ?_
            refine lv_istore (lv' := [(13, .int 0), (12, .int 0), (0, .ref (ad 0)), (3, .int w3), (5, .int w5), (8, .int w8), (9, .long w9)]) hx hb dL_areAllButSo_186 hl (by decide) rfl (fun ls hl => ?_)
            refine lv_iconst (v := 0) hx hb dL_areAllButSo_188 (by decide) ?_
            refine lv_istore (lv' := [(14, .int 0), (13, .int 0), (12, .int 0), (0, .ref (ad 0)), (3, .int w3), (5, .int w5), (8, .int w8), (9, .long w9)]) hx hb dL_areAllButSo_189 hl (by decide) rfl (fun ls hl => ?_)
            exact hL_191 n v w3 w5 w8 w9 0 0 0 _ _ _ hP hS (lv_sub hl [3, 4, 5, 6, 7, 2, 1, 0] rfl) hs
          · have hs := g_t hs hc
            refine lv_iconst (v := 1) hx hb dL_areAllButSo_178 (by decide) ?_
            refine lv_goto (tgt := 183) hx hb dL_areAllButSo_179 (by decide) ?_
            refine lv_istore (lv' := [(12, .int 1), (0, .ref (ad 0)), (3, .int w3), (5, .int w5), (8, .int w8), (9, .long w9)]) hx hb dL_areAllButSo_183 hl (by decide) rfl (fun ls hl => ?_)
            refine lv_iconst (v := 0) hx hb dL_areAllButSo_185 (by decide) ?_
            refine lv_istore (lv' := [(13, .int 0), (12, .int 1), (0, .ref (ad 0)), (3, .int w3), (5, .int w5), (8, .int w8), (9, .long w9)]) hx hb dL_areAllButSo_186 hl (by decide) rfl (fun ls hl => ?_)
            refine lv_iconst (v := 0) hx hb dL_areAllButSo_188 (by decide) ?_
            refine lv_istore (lv' := [(14, .int 0), (13, .int 0), (12, .int 1), (0, .ref (ad 0)), (3, .int w3), (5, .int w5), (8, .int w8), (9, .long w9)]) hx hb dL_areAllButSo_189 hl (by decide) rfl (fun ls hl => ?_)
            exact hL_191 n v w3 w5 w8 w9 1 0 0 _ _ _ hP hS (lv_sub hl [3, 4, 5, 6, 7, 2, 1, 0] rfl) hs
        · have hs := g_t hs hc
          refine lv_iconst (v := 1) hx hb dL_areAllButSo_155 (by decide) ?_
          refine lv_aload_n hx hb dL_areAllButSo_156 rfl (lv_at hl 0 rfl) ?_
          refine g_bind hs (fun q_20 hq_20 hs => ?_)
          refine gCV_i (As := []) (rest := [.int 1]) ⟨hx, hb, hml, hown, hts⟩ (cX5_it_c l D cy ad tL z0 hI v u q_20 hq_20) (cwV 0 hts gL_areAllButSo_X5_it rfl rfl rfl (by decide +kernel) ⟨Nat.le_of_ble_eq_true rfl, Nat.le_of_ble_eq_true rfl⟩) hK hP hS (va_recv hK.1 hP (ci := 5) (q0 := 0) rfl (gW_5 kd0)) hl.1 rfl rfl (Nat.le_of_ble_eq_true rfl) dL_areAllButSo_157 ⟨Nat.zero_le _, Nat.zero_le _⟩ (fun H locs hP hS => ?_)
          refine lv_ishl hx hb dL_areAllButSo_160 ?_
          refine lv_iload hx hb dL_areAllButSo_161 (lv_at hl 2 rfl) ?_
          refine lv_icmp_ne (tgt := 182) hx hb dL_areAllButSo_163 (by decide) (fun hc => ?_) (fun hc => ?_)
          · have hs := g_f hs hc
            refine lv_iconst (v := 0) hx hb dL_areAllButSo_182 (by decide) ?_
            refine lv_istore (lv' := [(12, .int 0), (0, .ref (ad 0)), (3, .int w3), (5, .int w5), (8, .int w8), (9, .long w9)]) hx hb dL_areAllButSo_183 hl (by decide) rfl (fun ls hl => ?_)
            refine lv_iconst (v := 0) hx hb dL_areAllButSo_185 (by decide) ?_
            refine lv_istore (lv' := [(13, .int 0), (12, .int 0), (0, .ref (ad 0)), (3, .int w3), (5, .int w5), (8, .int w8), (9, .long w9)]) hx hb dL_areAllButSo_186 hl (by decide) rfl (fun ls hl => ?_)
            refine lv_iconst (v := 0) hx hb dL_areAllButSo_188 (by decide) ?_
            refine lv_istore (lv' := [(14, .int 0), (13, .int 0), (12, .int 0), (0, .ref (ad 0)), (3, .int w3), (5, .int w5), (8, .int w8), (9, .long w9)]) hx hb dL_areAllButSo_189 hl (by decide) rfl (fun ls hl => ?_)
            exact hL_191 n v w3 w5 w8 w9 0 0 0 _ _ _ hP hS (lv_sub hl [3, 4, 5, 6, 7, 2, 1, 0] rfl) hs
          · have hs := g_t hs hc
            refine lv_goto (tgt := 178) hx hb dL_areAllButSo_166 (by decide) ?_
            refine lv_iconst (v := 1) hx hb dL_areAllButSo_178 (by decide) ?_
            refine lv_goto (tgt := 183) hx hb dL_areAllButSo_179 (by decide) ?_
            refine lv_istore (lv' := [(12, .int 1), (0, .ref (ad 0)), (3, .int w3), (5, .int w5), (8, .int w8), (9, .long w9)]) hx hb dL_areAllButSo_183 hl (by decide) rfl (fun ls hl => ?_)
            refine lv_iconst (v := 0) hx hb dL_areAllButSo_185 (by decide) ?_
            refine lv_istore (lv' := [(13, .int 0), (12, .int 1), (0, .ref (ad 0)), (3, .int w3), (5, .int w5), (8, .int w8), (9, .long w9)]) hx hb dL_areAllButSo_186 hl (by decide) rfl (fun ls hl => ?_)
            refine lv_iconst (v := 0) hx hb dL_areAllButSo_188 (by decide) ?_
            refine lv_istore (lv' := [(14, .int 0), (13, .int 0), (12, .int 1), (0, .ref (ad 0)), (3, .int w3), (5, .int w5), (8, .int w8), (9, .long w9)]) hx hb dL_areAllButSo_189 hl (by decide) rfl (fun ls hl => ?_)
            exact hL_191 n v w3 w5 w8 w9 1 0 0 _ _ _ hP hS (lv_sub hl [3, 4, 5, 6, 7, 2, 1, 0] rfl) hs
  have hJ_81 : ∀ (v : gV) (w2 : Int32) (w3 : Int32) (w5 : Int32) (t0 : Int32) (H : Heap) (locs : List Loc) (ls : Array Slot), va_P D vwCl (gW cy ad v u) H → va_S (gA z0) s.heap H locs → lv_has ls 16 [(0, .ref (ad 0)), (2, .int w2), (3, .int w3), (5, .int w5)] → sL_areAllButSo_81 n v w2 w3 w5 t0 = some (r0, v1) → W p l e (headSpec wsL_areAllButSo ({ frames := 7, cells := 0, slots := 0, locals := 161 } : Room)).room s m ([.ref (ad 0), .int x1] : List Value).toArray below meth c H locs 0 0 (MQ below (gQi D cy ad tL z0 v1 u r0) ([.ref (ad 0), .int x1] : List Value).toArray s 0 0 (gA z0)) (F0 m 81 ls [.int t0]) := by
    intro v w2 w3 w5 t0 H locs ls hP hS hl hs
    unfold sL_areAllButSo_81 at hs
    refine lv_istore (lv' := [(8, .int t0), (0, .ref (ad 0)), (2, .int w2), (3, .int w3), (5, .int w5)]) hx hb dL_areAllButSo_81 hl (by decide) rfl (fun ls hl => ?_)
    refine lv_aload_n hx hb dL_areAllButSo_83 rfl (lv_at hl 1 rfl) ?_
    refine g_bind hs (fun q_7 hq_7 hs => ?_)
    refine gCV_l (As := []) (rest := []) ⟨hx, hb, hml, hown, hts⟩ (cX5_digest_c l D cy ad tL z0 hI n v u q_7 hq_7) (cwV 0 hts gL_areAllButSo_X5_digest rfl rfl rfl (by decide +kernel) ⟨Nat.le_of_ble_eq_true rfl, Nat.le_of_ble_eq_true rfl⟩) hK hP hS (va_recv hK.1 hP (ci := 5) (q0 := 0) rfl (gW_5 kd0)) hl.1 rfl rfl (Nat.le_of_ble_eq_true rfl) dL_areAllButSo_84 ⟨Nat.zero_le _, Nat.zero_le _⟩ (fun H locs hP hS => ?_)
    refine lv_lstore (lv' := [(9, .long q_7), (8, .int t0), (0, .ref (ad 0)), (2, .int w2), (3, .int w3), (5, .int w5)]) hx hb dL_areAllButSo_87 hl (by decide) rfl (fun ls hl => ?_)
    refine lv_aload_n hx hb dL_areAllButSo_89 rfl (lv_at hl 2 rfl) ?_
    refine lv_bipush (v := 10) hx hb dL_areAllButSo_90 (by decide) ?_
    refine lv_iload_n hx hb dL_areAllButSo_92 rfl (lv_at hl 4 rfl) ?_
    refine lv_iadd hx hb dL_areAllButSo_93 ?_
    refine g_bind hs (fun q_8 hq_8 hs => ?_)
    refine gCV_i (As := [.int (10 + w3)]) (rest := []) ⟨hx, hb, hml, hown, hts⟩ (cX5_appendWord_c l D cy ad tL z0 hI n v u (10 + w3) q_8.1 q_8.2 hq_8) (cwV 1 hts gL_areAllButSo_X5_appendWord rfl rfl rfl (by decide +kernel) ⟨Nat.le_of_ble_eq_true rfl, Nat.le_of_ble_eq_true rfl⟩) hK hP hS (va_recv hK.1 hP (ci := 5) (q0 := 0) rfl (gW_5 kd0)) hl.1 rfl rfl (Nat.le_of_ble_eq_true rfl) dL_areAllButSo_94 ⟨Nat.zero_le _, Nat.zero_le _⟩ (fun H locs hP hS => ?_)
    refine lv_pop hx hb dL_areAllButSo_97 rfl ?_
    refine lv_aload_n hx hb dL_areAllButSo_98 rfl (lv_at hl 2 rfl) ?_
    refine lv_bipush (v := 17) hx hb dL_areAllButSo_99 (by decide) ?_
    refine g_bind hs (fun q_9 hq_9 hs => ?_)
    refine gCV_i (As := [.int 17]) (rest := []) ⟨hx, hb, hml, hown, hts⟩ (cX5_appendWord_c l D cy ad tL z0 hI n q_8.2 u 17 q_9.1 q_9.2 hq_9) (cwV 1 hts gL_areAllButSo_X5_appendWord rfl rfl rfl (by decide +kernel) ⟨Nat.le_of_ble_eq_true rfl, Nat.le_of_ble_eq_true rfl⟩) hK hP hS (va_recv hK.1 hP (ci := 5) (q0 := 0) rfl (gW_5 kd0)) hl.1 rfl rfl (Nat.le_of_ble_eq_true rfl) dL_areAllButSo_101 ⟨Nat.zero_le _, Nat.zero_le _⟩ (fun H locs hP hS => ?_)
    refine lv_pop hx hb dL_areAllButSo_104 rfl ?_
    refine lv_aload_n hx hb dL_areAllButSo_105 rfl (lv_at hl 2 rfl) ?_
    refine lv_bipush (v := 18) hx hb dL_areAllButSo_106 (by decide) ?_
    refine g_bind hs (fun q_10 hq_10 hs => ?_)
    refine gCV_i (As := [.int 18]) (rest := []) ⟨hx, hb, hml, hown, hts⟩ (cX5_appendWord_c l D cy ad tL z0 hI n q_9.2 u 18 q_10.1 q_10.2 hq_10) (cwV 1 hts gL_areAllButSo_X5_appendWord rfl rfl rfl (by decide +kernel) ⟨Nat.le_of_ble_eq_true rfl, Nat.le_of_ble_eq_true rfl⟩) hK hP hS (va_recv hK.1 hP (ci := 5) (q0 := 0) rfl (gW_5 kd0)) hl.1 rfl rfl (Nat.le_of_ble_eq_true rfl) dL_areAllButSo_108 ⟨Nat.zero_le _, Nat.zero_le _⟩ (fun H locs hP hS => ?_)
    refine lv_pop hx hb dL_areAllButSo_111 rfl ?_
    refine lv_aload_n hx hb dL_areAllButSo_112 rfl (lv_at hl 2 rfl) ?_
    refine lv_iload_n hx hb dL_areAllButSo_113 rfl (lv_at hl 3 rfl) ?_
    refine g_bind hs (fun q_11 hq_11 hs => ?_)
    refine gCV_i (As := [.int w2]) (rest := []) ⟨hx, hb, hml, hown, hts⟩ (cX5_appendWord_c l D cy ad tL z0 hI n q_10.2 u w2 q_11.1 q_11.2 hq_11) (cwV 1 hts gL_areAllButSo_X5_appendWord rfl rfl rfl (by decide +kernel) ⟨Nat.le_of_ble_eq_true rfl, Nat.le_of_ble_eq_true rfl⟩) hK hP hS (va_recv hK.1 hP (ci := 5) (q0 := 0) rfl (gW_5 kd0)) hl.1 rfl rfl (Nat.le_of_ble_eq_true rfl) dL_areAllButSo_114 ⟨Nat.zero_le _, Nat.zero_le _⟩ (fun H locs hP hS => ?_)
    refine lv_pop hx hb dL_areAllButSo_117 rfl ?_
    refine lv_aload_n hx hb dL_areAllButSo_118 rfl (lv_at hl 2 rfl) ?_
    refine g_bind hs (fun q_12 hq_12 hs => ?_)
    refine gCV_i (As := []) (rest := []) ⟨hx, hb, hml, hown, hts⟩ (cX5_enter_c l D cy ad tL z0 hI n q_11.2 u q_12.1 q_12.2 hq_12) (cwV 0 hts gL_areAllButSo_X5_enter rfl rfl rfl (by decide +kernel) ⟨Nat.le_of_ble_eq_true rfl, Nat.le_of_ble_eq_true rfl⟩) hK hP hS (va_recv hK.1 hP (ci := 5) (q0 := 0) rfl (gW_5 kd0)) hl.1 rfl rfl (Nat.le_of_ble_eq_true rfl) dL_areAllButSo_119 ⟨Nat.zero_le _, Nat.zero_le _⟩ (fun H locs hP hS => ?_)
    refine lv_istore (lv' := [(11, .int q_12.1), (9, .long q_7), (8, .int t0), (0, .ref (ad 0)), (2, .int w2), (3, .int w3), (5, .int w5)]) hx hb dL_areAllButSo_122 hl (by decide) rfl (fun ls hl => ?_)
    refine lv_iload hx hb dL_areAllButSo_124 (lv_at hl 0 rfl) ?_
    refine lv_iload hx hb dL_areAllButSo_126 (lv_at hl 6 rfl) ?_
    refine lv_if_ne (tgt := 136) hx hb dL_areAllButSo_128 (by decide) (fun hc => ?_) (fun hc => ?_)
    · have hs := g_f hs hc
      refine lv_iload hx hb dL_areAllButSo_136 (lv_at hl 2 rfl) ?_
      exact hJ_138 q_12.2 w3 w5 t0 q_7 q_12.1 t0 _ _ _ hP hS (lv_sub hl [3, 5, 6, 2, 1] rfl) hs
    · have hs := g_t hs hc
      refine lv_bipush (v := (-3)) hx hb dL_areAllButSo_131 (by decide) ?_
      refine lv_goto (tgt := 138) hx hb dL_areAllButSo_133 (by decide) ?_
      exact hJ_138 q_12.2 w3 w5 t0 q_7 q_12.1 ((-3)) _ _ _ hP hS (lv_sub hl [3, 5, 6, 2, 1] rfl) hs
  have hJ_59 : ∀ (v : gV) (w2 : Int32) (w3 : Int32) (w5 : Int32) (t0 : Int32) (H : Heap) (locs : List Loc) (ls : Array Slot), va_P D vwCl (gW cy ad v u) H → va_S (gA z0) s.heap H locs → lv_has ls 16 [(0, .ref (ad 0)), (2, .int w2), (3, .int w3), (5, .int w5)] → sL_areAllButSo_59 n v w2 w3 w5 t0 = some (r0, v1) → W p l e (headSpec wsL_areAllButSo ({ frames := 7, cells := 0, slots := 0, locals := 161 } : Room)).room s m ([.ref (ad 0), .int x1] : List Value).toArray below meth c H locs 0 0 (MQ below (gQi D cy ad tL z0 v1 u r0) ([.ref (ad 0), .int x1] : List Value).toArray s 0 0 (gA z0)) (F0 m 59 ls [.int t0]) := by
    intro v w2 w3 w5 t0 H locs ls hP hS hl hs
    unfold sL_areAllButSo_59 at hs
    refine lv_istore (lv' := [(7, .int t0), (0, .ref (ad 0)), (2, .int w2), (3, .int w3), (5, .int w5)]) hx hb dL_areAllButSo_59 hl (by decide) rfl (fun ls hl => ?_)
    refine lv_iload hx hb dL_areAllButSo_61 (lv_at hl 4 rfl) ?_
    refine g_bind hs (fun q_6 hq_6 hs => ?_)
    refine gCS_i (As := [.int w5]) (rest := []) ⟨hx, hb, hml, hown, hts⟩ (cL_size_c l D cy ad tL z0 hI n v u w5 q_6 hq_6) (va_cwS 1 hts gL_areAllButSo_L_size rfl rfl rfl (by decide +kernel) ⟨Nat.le_of_ble_eq_true rfl, Nat.le_of_ble_eq_true rfl⟩) hK hP hS hl.1 rfl rfl (Nat.le_of_ble_eq_true rfl) dL_areAllButSo_63 ⟨Nat.zero_le _, Nat.zero_le _⟩ (fun H locs hP hS => ?_)
    refine lv_iload hx hb dL_areAllButSo_66 (lv_at hl 0 rfl) ?_
    refine lv_icmp_ge (tgt := 79) hx hb dL_areAllButSo_68 (by decide) (fun hc => ?_) (fun hc => ?_)
    · have hs := g_t hs hc
      refine lv_iload hx hb dL_areAllButSo_79 (lv_at hl 0 rfl) ?_
      exact hJ_81 v w2 w3 w5 t0 _ _ _ hP hS (lv_sub hl [1, 2, 3, 4] rfl) hs
    · have hs := g_f hs hc
      refine lv_iload hx hb dL_areAllButSo_71 (lv_at hl 4 rfl) ?_
      refine g_bind hs (fun q_21 hq_21 hs => ?_)
      refine gCS_i (As := [.int w5]) (rest := []) ⟨hx, hb, hml, hown, hts⟩ (cL_size_c l D cy ad tL z0 hI n v u w5 q_21 hq_21) (va_cwS 1 hts gL_areAllButSo_L_size rfl rfl rfl (by decide +kernel) ⟨Nat.le_of_ble_eq_true rfl, Nat.le_of_ble_eq_true rfl⟩) hK hP hS hl.1 rfl rfl (Nat.le_of_ble_eq_true rfl) dL_areAllButSo_73 ⟨Nat.zero_le _, Nat.zero_le _⟩ (fun H locs hP hS => ?_)
      refine lv_goto (tgt := 81) hx hb dL_areAllButSo_76 (by decide) ?_
      exact hJ_81 v w2 w3 w5 q_21 _ _ _ hP hS (lv_sub hl [1, 2, 3, 4] rfl) hs
  unfold sL_areAllButSo at hs
  refine lv_iload_n hx hb dL_areAllButSo_0 rfl (lv_at hl 1 rfl) ?_
  refine lv_iconst (v := 4) hx hb dL_areAllButSo_1 (by decide) ?_
  refine lv_ishr hx hb dL_areAllButSo_2 ?_
  refine lv_bipush (v := 6) hx hb dL_areAllButSo_3 (by decide) ?_
  refine g_bind hs (fun q_1 hq_1 hs => ?_)
  refine gCS_i (As := [.int (x1 >>> (4 &&& 31)), .int 6]) (rest := []) ⟨hx, hb, hml, hown, hts⟩ (cL_low_c l D cy ad tL z0 hI v u (x1 >>> (4 &&& 31)) 6 q_1 hq_1) (va_cwS 2 hts gL_areAllButSo_L_low rfl rfl rfl (by decide +kernel) ⟨Nat.le_of_ble_eq_true rfl, Nat.le_of_ble_eq_true rfl⟩) hK hP hS hl.1 rfl rfl (Nat.le_of_ble_eq_true rfl) dL_areAllButSo_5 ⟨Nat.zero_le _, Nat.zero_le _⟩ (fun H locs hP hS => ?_)
  refine lv_istore_n (lv' := [(2, .int q_1), (0, .ref (ad 0)), (1, .int x1)]) hx hb dL_areAllButSo_8 rfl hl (by decide) rfl (fun ls hl => ?_)
  refine lv_iload_n hx hb dL_areAllButSo_9 rfl (lv_at hl 2 rfl) ?_
  refine lv_bipush (v := 7) hx hb dL_areAllButSo_10 (by decide) ?_
  refine lv_ishr hx hb dL_areAllButSo_12 ?_
  refine lv_iconst (v := 2) hx hb dL_areAllButSo_13 (by decide) ?_
  refine g_bind hs (fun q_2 hq_2 hs => ?_)
  refine gCS_i (As := [.int (x1 >>> (7 &&& 31)), .int 2]) (rest := []) ⟨hx, hb, hml, hown, hts⟩ (cL_low_c l D cy ad tL z0 hI v u (x1 >>> (7 &&& 31)) 2 q_2 hq_2) (va_cwS 2 hts gL_areAllButSo_L_low rfl rfl rfl (by decide +kernel) ⟨Nat.le_of_ble_eq_true rfl, Nat.le_of_ble_eq_true rfl⟩) hK hP hS hl.1 rfl rfl (Nat.le_of_ble_eq_true rfl) dL_areAllButSo_14 ⟨Nat.zero_le _, Nat.zero_le _⟩ (fun H locs hP hS => ?_)
  refine lv_istore_n (lv' := [(3, .int q_2), (2, .int q_1), (0, .ref (ad 0)), (1, .int x1)]) hx hb dL_areAllButSo_17 rfl hl (by decide) rfl (fun ls hl => ?_)
  refine lv_aload_n hx hb dL_areAllButSo_18 rfl (lv_at hl 2 rfl) ?_
  refine lv_iload_n hx hb dL_areAllButSo_19 rfl (lv_at hl 1 rfl) ?_
  refine lv_iconst (v := (-1)) hx hb dL_areAllButSo_20 (by decide) ?_
  refine g_bind hs (fun q_3 hq_3 hs => ?_)
  refine gCV_i (As := [.int q_1, .int ((-1))]) (rest := []) ⟨hx, hb, hml, hown, hts⟩ (cX5_fitting_c l D cy ad tL z0 hI n v u q_1 ((-1)) q_3 hq_3) (cwV 2 hts gL_areAllButSo_X5_fitting rfl rfl rfl (by decide +kernel) ⟨Nat.le_of_ble_eq_true rfl, Nat.le_of_ble_eq_true rfl⟩) hK hP hS (va_recv hK.1 hP (ci := 5) (q0 := 0) rfl (gW_5 kd0)) hl.1 rfl rfl (Nat.le_of_ble_eq_true rfl) dL_areAllButSo_21 ⟨Nat.zero_le _, Nat.zero_le _⟩ (fun H locs hP hS => ?_)
  refine lv_istore (lv' := [(4, .int q_3), (3, .int q_2), (2, .int q_1), (0, .ref (ad 0)), (1, .int x1)]) hx hb dL_areAllButSo_24 hl (by decide) rfl (fun ls hl => ?_)
  refine lv_aload_n hx hb dL_areAllButSo_26 rfl (lv_at hl 3 rfl) ?_
  refine lv_iload_n hx hb dL_areAllButSo_27 rfl (lv_at hl 1 rfl) ?_
  refine g_bind hs (fun q_4 hq_4 hs => ?_)
  refine gCV_i (As := [.int q_2]) (rest := []) ⟨hx, hb, hml, hown, hts⟩ (cX5_suitable_c l D cy ad tL z0 hI n v u q_2 q_4 hq_4) (cwV 1 hts gL_areAllButSo_X5_suitable rfl rfl rfl (by decide +kernel) ⟨Nat.le_of_ble_eq_true rfl, Nat.le_of_ble_eq_true rfl⟩) hK hP hS (va_recv hK.1 hP (ci := 5) (q0 := 0) rfl (gW_5 kd0)) hl.1 rfl rfl (Nat.le_of_ble_eq_true rfl) dL_areAllButSo_28 ⟨Nat.zero_le _, Nat.zero_le _⟩ (fun H locs hP hS => ?_)
  refine lv_iload hx hb dL_areAllButSo_31 (lv_at hl 0 rfl) ?_
  refine lv_iconst (v := (-1)) hx hb dL_areAllButSo_33 (by decide) ?_
  refine lv_ixor hx hb dL_areAllButSo_34 ?_
  refine lv_iand hx hb dL_areAllButSo_35 ?_
  refine lv_istore (lv' := [(5, .int (q_4 &&& (q_3 ^^^ ((-1))))), (4, .int q_3), (3, .int q_2), (2, .int q_1), (0, .ref (ad 0)), (1, .int x1)]) hx hb dL_areAllButSo_36 hl (by decide) rfl (fun ls hl => ?_)
  refine lv_aload_n hx hb dL_areAllButSo_38 rfl (lv_at hl 4 rfl) ?_
  refine lv_iconst (v := 4) hx hb dL_areAllButSo_39 (by decide) ?_
  refine g_bind hs (fun q_5 hq_5 hs => ?_)
  refine gCV_i (As := [.int 4]) (rest := []) ⟨hx, hb, hml, hown, hts⟩ (cX5_objectsAt_c l D cy ad tL z0 hI n v u 4 q_5 hq_5) (cwV 1 hts gL_areAllButSo_X5_objectsAt rfl rfl rfl (by decide +kernel) ⟨Nat.le_of_ble_eq_true rfl, Nat.le_of_ble_eq_true rfl⟩) hK hP hS (va_recv hK.1 hP (ci := 5) (q0 := 0) rfl (gW_5 kd0)) hl.1 rfl rfl (Nat.le_of_ble_eq_true rfl) dL_areAllButSo_40 ⟨Nat.zero_le _, Nat.zero_le _⟩ (fun H locs hP hS => ?_)
  refine lv_istore (lv' := [(6, .int q_5), (5, .int (q_4 &&& (q_3 ^^^ ((-1))))), (4, .int q_3), (3, .int q_2), (2, .int q_1), (0, .ref (ad 0)), (1, .int x1)]) hx hb dL_areAllButSo_43 hl (by decide) rfl (fun ls hl => ?_)
  refine lv_iload_n hx hb dL_areAllButSo_45 rfl (lv_at hl 3 rfl) ?_
  refine lv_if_ne (tgt := 57) hx hb dL_areAllButSo_46 (by decide) (fun hc => ?_) (fun hc => ?_)
  · have hs := g_f hs hc
    refine lv_bipush (v := 12) hx hb dL_areAllButSo_57 (by decide) ?_
    exact hJ_59 v q_1 q_2 (q_4 &&& (q_3 ^^^ ((-1)))) 12 _ _ _ hP hS (lv_sub hl [5, 4, 3, 1] rfl) hs
  · have hs := g_t hs hc
    refine lv_bipush (v := 6) hx hb dL_areAllButSo_49 (by decide) ?_
    refine lv_iload hx hb dL_areAllButSo_51 (lv_at hl 0 rfl) ?_
    refine lv_isub hx hb dL_areAllButSo_53 ?_
    refine lv_goto (tgt := 59) hx hb dL_areAllButSo_54 (by decide) ?_
    exact hJ_59 v q_1 q_2 (q_4 &&& (q_3 ^^^ ((-1)))) (6 - q_5) _ _ _ hP hS (lv_sub hl [5, 4, 3, 1] rfl) hs
