set_option maxHeartbeats 4000000 in
set_option maxRecDepth 100000 in
theorem cX6_execute_c (l : Launch) (D : va_G) (cy : Nat → ClassId) (ad : Nat → Nat) (tL z0 : Nat) (hI : gI z0 ad) (n : Nat) (v : gV) (u : Int64) (x1 : Int32) (x2 : Int32) (x3 : Int32) (r0 : Int32) (v1 : gV) (hs : sX6_execute n v x1 x2 x3 = some (r0, v1)) : Met l yX6_execute wsX6_execute ({ frames := 3, cells := 0, slots := 0, locals := 70 } : Room) (gPc D cy ad tL z0 v u [.ref (ad 81), .int x1, .int x2, .int x3]) (gQi D cy ad tL z0 v1 u r0) 0 0 (gA z0) := by
  refine Met.ofW (cc := cX6_execute) (maxL := 6) (ret := (some .int)) (by decide) rfl ?_
  intro p e s m args below meth c s₁ B hml hv
  obtain ⟨rfl, hB0⟩ := hv
  have hP : va_P D vwCl (gW cy ad v u) s.heap := hB0.1
  have hK : gK D cy tL z0 s s.heap := hB0.2
  have hx := B.exec
  have hb := B.bytes
  have hr := B.returns
  have hts := atoms_spec (ws := wsX6_execute) B.pre
  have hown : s.vm.findClass RX6 = some m.cls := findClass_of_methodNamed B.named
  have hlocks := B.notSynchronized
  have hS : va_S (gA z0) s.heap s.heap [] := va_S.rf
  have hl := lv_entry ([.ref (ad 81), .int x1, .int x2, .int x3]) (n := 6) (Nat.le_of_ble_eq_true rfl)
  rw [lg_entry_eq]
  generalize (lg_sl ([.ref (ad 81), .int x1, .int x2, .int x3]) ++ List.replicate (6 - (lg_sl ([.ref (ad 81), .int x1, .int x2, .int x3])).length) Slot.unset).toArray = ls at hl ⊢
  have hl : lv_has ls 6 [(0, .ref (ad 81)), (1, .int x1), (2, .int x2), (3, .int x3)] := hl
  have iX6 := (show ∀ w ∈ u_ws RX6 TX6 17, w ∈ wsX6_execute by decide +kernel)
  have f16 := hts (.fieldLink RX6 16 "AdventureParserModel" "s" "[I") (by decide +kernel)
  clear hB0
  have hJ_82 : ∀ (v : gV) (w2 : Int32) (w4 : Int32) (t1 : Int32) (t2 : Int32) (H : Heap) (locs : List Loc) (ls : Array Slot), va_P D vwCl (gW cy ad v u) H → va_S (gA z0) s.heap H locs → lv_has ls 6 [(0, .ref (ad 81)), (2, .int w2), (4, .int w4)] → sX6_execute_82 n v w2 w4 t1 t2 = some (r0, v1) → W p l e (headSpec wsX6_execute ({ frames := 3, cells := 0, slots := 0, locals := 70 } : Room)).room s m ([.ref (ad 81), .int x1, .int x2, .int x3] : List Value).toArray below meth c H locs 0 0 (MQ below (gQi D cy ad tL z0 v1 u r0) ([.ref (ad 81), .int x1, .int x2, .int x3] : List Value).toArray s 0 0 (gA z0)) (F0 m 82 ls [.int t2, .int t1, .ref (ad 84)]) := by
    intro v w2 w4 t1 t2 H locs ls hP hS hl hs
    unfold sX6_execute_82 at hs
    refine g_chk hs (fun hc hs => ?_)
    refine va_iast hx hb hK.1 hP (gD hI) hS 84 0 (gW_16 kd84) rfl hc dX6_execute_82 (fun H locs hP _ hS => ?_)
    refine g_let hs (fun v_2 ev_2 hs => ?_)
    have hP : va_P D vwCl (gW cy ad v_2 u) H := gPset ((gS_16 kd84 t1.toNatClampNeg t2).trans (congrArg (fun z => gW cy ad z u) ev_2.symm)) hP
    refine lv_aload_n hx hb dX6_execute_83 rfl (lv_at hl 0 rfl) ?_
    refine va_get (D := D) (ci := 6) (v := .ref (ad 84)) (C := RX6) (T := TX6) (N := 17) hx hb hts iX6 hown hK.1 hP 81 (gW_6 kd81) rfl 2 (by decide) f16 (fun _ h9 => h9) rfl dX6_execute_84 ?_
    refine lv_bipush (v := 51) hx hb dX6_execute_87 (by decide) ?_
    refine lv_iload_n hx hb dX6_execute_89 rfl (lv_at hl 1 rfl) ?_
    refine g_bind hs (fun q_3 hq_3 hs => ?_)
    refine gCS_i (As := [.int w2]) (rest := [.int 51, .ref (ad 84)]) ⟨hx, hb, hml, hown, hts⟩ (cX6_size_c l D cy ad tL z0 hI n v_2 u w2 q_3 hq_3) (va_cwS 1 hts gX6_execute_X6_size rfl rfl rfl (by decide +kernel) ⟨Nat.le_of_ble_eq_true rfl, Nat.le_of_ble_eq_true rfl⟩) hK hP hS hl.1 rfl rfl (Nat.le_of_ble_eq_true rfl) dX6_execute_90 ⟨Nat.zero_le _, Nat.zero_le _⟩ (fun H locs hP hS => ?_)
    refine lv_iconst (v := 1) hx hb dX6_execute_93 (by decide) ?_
    refine lv_icmp_le (tgt := 101) hx hb dX6_execute_94 (by decide) (fun hc => ?_) (fun hc => ?_)
    · have hs := g_t hs hc
      refine lv_aload_n hx hb dX6_execute_101 rfl (lv_at hl 0 rfl) ?_
      refine va_get (D := D) (ci := 6) (v := .ref (ad 84)) (C := RX6) (T := TX6) (N := 17) hx hb hts iX6 hown hK.1 hP 81 (gW_6 kd81) rfl 2 (by decide) f16 (fun _ h9 => h9) rfl dX6_execute_102 ?_
      refine lv_bipush (v := 51) hx hb dX6_execute_105 (by decide) ?_
      refine va_iald (i := 51) hx hb hK.1 hP 84 0 (gW_16 kd84) rfl (by unfold vp_in; decide) dX6_execute_107 ?_
      refine va_iast (i := 51) hx hb hK.1 hP (gD hI) hS 84 0 (gW_16 kd84) rfl (by unfold vp_in; decide) dX6_execute_108 (fun H locs hP _ hS => ?_)
      refine g_let hs (fun v_4 ev_4 hs => ?_)
      have hP : va_P D vwCl (gW cy ad v_4 u) H := gPset ((gS_16 kd84 51 (v_2 84 51)).trans (congrArg (fun z => gW cy ad z u) ev_4.symm)) hP
      refine lv_iload hx hb dX6_execute_109 (lv_at hl 2 rfl) ?_
      exact gRet_i hx hb hr hlocks hK hP hS (g_some2 hs) dX6_execute_111
    · have hs := g_f hs hc
      refine lv_iload_n hx hb dX6_execute_97 rfl (lv_at hl 1 rfl) ?_
      refine lv_goto (tgt := 108) hx hb dX6_execute_98 (by decide) ?_
      refine va_iast (i := 51) hx hb hK.1 hP (gD hI) hS 84 0 (gW_16 kd84) rfl (by unfold vp_in; decide) dX6_execute_108 (fun H locs hP _ hS => ?_)
      refine g_let hs (fun v_5 ev_5 hs => ?_)
      have hP : va_P D vwCl (gW cy ad v_5 u) H := gPset ((gS_16 kd84 51 w2).trans (congrArg (fun z => gW cy ad z u) ev_5.symm)) hP
      refine lv_iload hx hb dX6_execute_109 (lv_at hl 2 rfl) ?_
      exact gRet_i hx hb hr hlocks hK hP hS (g_some2 hs) dX6_execute_111
  have hL_6 : ∀ (k : Nat), ∀ (v : gV) (w1 : Int32) (w2 : Int32) (w3 : Int32) (w4 : Int32) (w5 : Int32) (H : Heap) (locs : List Loc) (ls : Array Slot), va_P D vwCl (gW cy ad v u) H → va_S (gA z0) s.heap H locs → lv_has ls 6 [(0, .ref (ad 81)), (1, .int w1), (2, .int w2), (3, .int w3), (4, .int w4), (5, .int w5)] → sX6_execute_6 n k v w1 w2 w3 w4 w5 = some (r0, v1) → W p l e (headSpec wsX6_execute ({ frames := 3, cells := 0, slots := 0, locals := 70 } : Room)).room s m ([.ref (ad 81), .int x1, .int x2, .int x3] : List Value).toArray below meth c H locs 0 0 (MQ below (gQi D cy ad tL z0 v1 u r0) ([.ref (ad 81), .int x1, .int x2, .int x3] : List Value).toArray s 0 0 (gA z0)) (F0 m 6 ls []) := by
    intro k
    induction k with
    | zero =>
      intro v w1 w2 w3 w4 w5 H locs ls hP hS hl hs
      exact g_none hs
    | succ k ih =>
      intro v w1 w2 w3 w4 w5 H locs ls hP hS hl hs
      rw [sX6_execute_6] at hs
      refine lv_iload hx hb dX6_execute_6 (lv_at hl 5 rfl) ?_
      refine lv_aload_n hx hb dX6_execute_8 rfl (lv_at hl 0 rfl) ?_
      refine va_get (D := D) (ci := 6) (v := .ref (ad 84)) (C := RX6) (T := TX6) (N := 17) hx hb hts iX6 hown hK.1 hP 81 (gW_6 kd81) rfl 2 (by decide) f16 (fun _ h9 => h9) rfl dX6_execute_9 ?_
      refine lv_iconst (v := 0) hx hb dX6_execute_12 (by decide) ?_
      refine va_iald (i := 0) hx hb hK.1 hP 84 0 (gW_16 kd84) rfl (by unfold vp_in; decide) dX6_execute_13 ?_
      refine lv_icmp_ge (tgt := 54) hx hb dX6_execute_14 (by decide) (fun hc => ?_) (fun hc => ?_)
      · have hs := g_t hs hc
        refine lv_aload_n hx hb dX6_execute_54 rfl (lv_at hl 0 rfl) ?_
        refine va_get (D := D) (ci := 6) (v := .ref (ad 84)) (C := RX6) (T := TX6) (N := 17) hx hb hts iX6 hown hK.1 hP 81 (gW_6 kd81) rfl 2 (by decide) f16 (fun _ h9 => h9) rfl dX6_execute_55 ?_
        refine lv_bipush (v := 50) hx hb dX6_execute_58 (by decide) ?_
        refine lv_iload_n hx hb dX6_execute_60 rfl (lv_at hl 2 rfl) ?_
        refine g_bind hs (fun q_1 hq_1 hs => ?_)
        refine gCS_i (As := [.int w2]) (rest := [.int 50, .ref (ad 84)]) ⟨hx, hb, hml, hown, hts⟩ (cX6_size_c l D cy ad tL z0 hI n v u w2 q_1 hq_1) (va_cwS 1 hts gX6_execute_X6_size rfl rfl rfl (by decide +kernel) ⟨Nat.le_of_ble_eq_true rfl, Nat.le_of_ble_eq_true rfl⟩) hK hP hS hl.1 rfl rfl (Nat.le_of_ble_eq_true rfl) dX6_execute_61 ⟨Nat.zero_le _, Nat.zero_le _⟩ (fun H locs hP hS => ?_)
        refine lv_iconst (v := 1) hx hb dX6_execute_64 (by decide) ?_
        refine lv_icmp_ne (tgt := 75) hx hb dX6_execute_65 (by decide) (fun hc => ?_) (fun hc => ?_)
        · have hs := g_f hs hc
          refine lv_aload_n hx hb dX6_execute_75 rfl (lv_at hl 0 rfl) ?_
          refine va_get (D := D) (ci := 6) (v := .ref (ad 84)) (C := RX6) (T := TX6) (N := 17) hx hb hts iX6 hown hK.1 hP 81 (gW_6 kd81) rfl 2 (by decide) f16 (fun _ h9 => h9) rfl dX6_execute_76 ?_
          refine lv_bipush (v := 50) hx hb dX6_execute_79 (by decide) ?_
          refine va_iald (i := 50) hx hb hK.1 hP 84 0 (gW_16 kd84) rfl (by unfold vp_in; decide) dX6_execute_81 ?_
          exact hJ_82 v w2 w4 50 (v 84 50) _ _ _ hP hS (lv_sub hl [0, 2, 4] rfl) hs
        · have hs := g_t hs hc
          refine lv_iload_n hx hb dX6_execute_68 rfl (lv_at hl 2 rfl) ?_
          refine g_bind hs (fun q_6 hq_6 hs => ?_)
          refine gCS_i (As := [.int w2]) (rest := [.int 50, .ref (ad 84)]) ⟨hx, hb, hml, hown, hts⟩ (cX6_lowest_c l D cy ad tL z0 hI n v u w2 q_6 hq_6) (va_cwS 1 hts gX6_execute_X6_lowest rfl rfl rfl (by decide +kernel) ⟨Nat.le_of_ble_eq_true rfl, Nat.le_of_ble_eq_true rfl⟩) hK hP hS hl.1 rfl rfl (Nat.le_of_ble_eq_true rfl) dX6_execute_69 ⟨Nat.zero_le _, Nat.zero_le _⟩ (fun H locs hP hS => ?_)
          refine lv_goto (tgt := 82) hx hb dX6_execute_72 (by decide) ?_
          exact hJ_82 v w2 w4 50 q_6 _ _ _ hP hS (lv_sub hl [0, 2, 4] rfl) hs
      · have hs := g_f hs hc
        refine lv_iload hx hb dX6_execute_17 (lv_at hl 4 rfl) ?_
        refine lv_iload_n hx hb dX6_execute_19 rfl (lv_at hl 2 rfl) ?_
        refine lv_iload hx hb dX6_execute_20 (lv_at hl 5 rfl) ?_
        refine lv_ishr hx hb dX6_execute_22 ?_
        refine lv_iconst (v := 1) hx hb dX6_execute_23 (by decide) ?_
        refine lv_iand hx hb dX6_execute_24 ?_
        refine lv_iconst (v := 1) hx hb dX6_execute_25 (by decide) ?_
        refine lv_icmp_ne (tgt := 44) hx hb dX6_execute_26 (by decide) (fun hc => ?_) (fun hc => ?_)
        · have hs := g_f hs hc
          refine lv_iconst (v := 0) hx hb dX6_execute_44 (by decide) ?_
          refine lv_iadd hx hb dX6_execute_45 ?_
          refine lv_istore (lv' := [(4, .int (w4 + 0)), (0, .ref (ad 81)), (1, .int w1), (2, .int w2), (3, .int w3), (5, .int w5)]) hx hb dX6_execute_46 hl (by decide) rfl (fun ls hl => ?_)
          refine lv_iinc (v := w5 + 1) (lv' := [(5, .int (w5 + 1)), (4, .int (w4 + 0)), (0, .ref (ad 81)), (1, .int w1), (2, .int w2), (3, .int w3)]) hx hb dX6_execute_48 hl (k := 5) rfl rfl (by decide) rfl (fun ls hl => ?_)
          refine lv_goto (tgt := 6) hx hb dX6_execute_51 (by decide) ?_
          exact ih v w1 w2 w3 (w4 + 0) (w5 + 1) _ _ _ hP hS (lv_sub hl [2, 3, 4, 5, 1, 0] rfl) hs
        · have hs := g_t hs hc
          refine lv_aload_n hx hb dX6_execute_29 rfl (lv_at hl 0 rfl) ?_
          refine lv_iload_n hx hb dX6_execute_30 rfl (lv_at hl 1 rfl) ?_
          refine lv_iload hx hb dX6_execute_31 (lv_at hl 5 rfl) ?_
          refine lv_iload_n hx hb dX6_execute_33 rfl (lv_at hl 3 rfl) ?_
          refine g_bind hs (fun q_7 hq_7 hs => ?_)
          refine gCV_i (As := [.int w1, .int w5, .int w3]) (rest := [.int w4]) ⟨hx, hb, hml, hown, hts⟩ (cX6_does_c l D cy ad tL z0 hI n v u w1 w5 w3 q_7.1 q_7.2 hq_7) (cwV 3 hts gX6_execute_X6_does rfl rfl rfl (by decide +kernel) ⟨Nat.le_of_ble_eq_true rfl, Nat.le_of_ble_eq_true rfl⟩) hK hP hS (va_recv hK.1 hP (ci := 6) (q0 := 81) rfl (gW_6 kd81)) hl.1 rfl rfl (Nat.le_of_ble_eq_true rfl) dX6_execute_34 ⟨Nat.zero_le _, Nat.zero_le _⟩ (fun H locs hP hS => ?_)
          refine lv_if_eq (tgt := 44) hx hb dX6_execute_37 (by decide) (fun hc => ?_) (fun hc => ?_)
          · have hs := g_t hs hc
            refine lv_iconst (v := 0) hx hb dX6_execute_44 (by decide) ?_
            refine lv_iadd hx hb dX6_execute_45 ?_
            refine lv_istore (lv' := [(4, .int (w4 + 0)), (0, .ref (ad 81)), (1, .int w1), (2, .int w2), (3, .int w3), (5, .int w5)]) hx hb dX6_execute_46 hl (by decide) rfl (fun ls hl => ?_)
            refine lv_iinc (v := w5 + 1) (lv' := [(5, .int (w5 + 1)), (4, .int (w4 + 0)), (0, .ref (ad 81)), (1, .int w1), (2, .int w2), (3, .int w3)]) hx hb dX6_execute_48 hl (k := 5) rfl rfl (by decide) rfl (fun ls hl => ?_)
            refine lv_goto (tgt := 6) hx hb dX6_execute_51 (by decide) ?_
            exact ih q_7.2 w1 w2 w3 (w4 + 0) (w5 + 1) _ _ _ hP hS (lv_sub hl [2, 3, 4, 5, 1, 0] rfl) hs
          · have hs := g_f hs hc
            refine lv_iconst (v := 1) hx hb dX6_execute_40 (by decide) ?_
            refine lv_goto (tgt := 45) hx hb dX6_execute_41 (by decide) ?_
            refine lv_iadd hx hb dX6_execute_45 ?_
            refine lv_istore (lv' := [(4, .int (w4 + 1)), (0, .ref (ad 81)), (1, .int w1), (2, .int w2), (3, .int w3), (5, .int w5)]) hx hb dX6_execute_46 hl (by decide) rfl (fun ls hl => ?_)
            refine lv_iinc (v := w5 + 1) (lv' := [(5, .int (w5 + 1)), (4, .int (w4 + 1)), (0, .ref (ad 81)), (1, .int w1), (2, .int w2), (3, .int w3)]) hx hb dX6_execute_48 hl (k := 5) rfl rfl (by decide) rfl (fun ls hl => ?_)
            refine lv_goto (tgt := 6) hx hb dX6_execute_51 (by decide) ?_
            exact ih q_7.2 w1 w2 w3 (w4 + 1) (w5 + 1) _ _ _ hP hS (lv_sub hl [2, 3, 4, 5, 1, 0] rfl) hs
  unfold sX6_execute at hs
  refine lv_iconst (v := 0) hx hb dX6_execute_0 (by decide) ?_
  refine lv_istore (lv' := [(4, .int 0), (0, .ref (ad 81)), (1, .int x1), (2, .int x2), (3, .int x3)]) hx hb dX6_execute_1 hl (by decide) rfl (fun ls hl => ?_)
  refine lv_iconst (v := 0) hx hb dX6_execute_3 (by decide) ?_
  refine lv_istore (lv' := [(5, .int 0), (4, .int 0), (0, .ref (ad 81)), (1, .int x1), (2, .int x2), (3, .int x3)]) hx hb dX6_execute_4 hl (by decide) rfl (fun ls hl => ?_)
  exact hL_6 n v x1 x2 x3 0 0 _ _ _ hP hS (lv_sub hl [2, 3, 4, 5, 1, 0] rfl) hs
set_option maxHeartbeats 4000000 in
set_option maxRecDepth 100000 in
theorem cX6_walk_c (l : Launch) (D : va_G) (cy : Nat → ClassId) (ad : Nat → Nat) (tL z0 : Nat) (hI : gI z0 ad) (v : gV) (u : Int64) (x1 : Int32) (r0 : Int32) (v1 : gV) (hs : sX6_walk v x1 = some (r0, v1)) : Met l yX6_walk wsX6_walk ({ frames := 1, cells := 0, slots := 0, locals := 22 } : Room) (gPc D cy ad tL z0 v u [.ref (ad 81), .int x1]) (gQi D cy ad tL z0 v1 u r0) 0 0 (gA z0) := by
  refine Met.ofW (cc := cX6_walk) (maxL := 4) (ret := (some .int)) (by decide) rfl ?_
  intro p e s m args below meth c s₁ B hml hv
  obtain ⟨rfl, hB0⟩ := hv
  have hP : va_P D vwCl (gW cy ad v u) s.heap := hB0.1
  have hK : gK D cy tL z0 s s.heap := hB0.2
  have hx := B.exec
  have hb := B.bytes
  have hr := B.returns
  have hts := atoms_spec (ws := wsX6_walk) B.pre
  have hown : s.vm.findClass RX6 = some m.cls := findClass_of_methodNamed B.named
  have hlocks := B.notSynchronized
  have hS : va_S (gA z0) s.heap s.heap [] := va_S.rf
  have hl := lv_entry ([.ref (ad 81), .int x1]) (n := 4) (Nat.le_of_ble_eq_true rfl)
  rw [lg_entry_eq]
  generalize (lg_sl ([.ref (ad 81), .int x1]) ++ List.replicate (4 - (lg_sl ([.ref (ad 81), .int x1])).length) Slot.unset).toArray = ls at hl ⊢
  have hl : lv_has ls 4 [(0, .ref (ad 81)), (1, .int x1)] := hl
  have iX6 := (show ∀ w ∈ u_ws RX6 TX6 17, w ∈ wsX6_walk by decide +kernel)
  have f16 := hts (.fieldLink RX6 16 "AdventureParserModel" "s" "[I") (by decide +kernel)
  clear hB0
  have hJ_46 : ∀ (v : gV) (w3 : Int32) (t1 : Int32) (t2 : Int32) (H : Heap) (locs : List Loc) (ls : Array Slot), va_P D vwCl (gW cy ad v u) H → va_S (gA z0) s.heap H locs → lv_has ls 4 [(3, .int w3)] → sX6_walk_46 v w3 t1 t2 = some (r0, v1) → W p l e (headSpec wsX6_walk ({ frames := 1, cells := 0, slots := 0, locals := 22 } : Room)).room s m ([.ref (ad 81), .int x1] : List Value).toArray below meth c H locs 0 0 (MQ below (gQi D cy ad tL z0 v1 u r0) ([.ref (ad 81), .int x1] : List Value).toArray s 0 0 (gA z0)) (F0 m 46 ls [.int t2, .int t1, .ref (ad 84)]) := by
    intro v w3 t1 t2 H locs ls hP hS hl hs
    unfold sX6_walk_46 at hs
    refine g_chk hs (fun hc hs => ?_)
    refine va_iast hx hb hK.1 hP (gD hI) hS 84 0 (gW_16 kd84) rfl hc dX6_walk_46 (fun H locs hP _ hS => ?_)
    refine g_let hs (fun v_2 ev_2 hs => ?_)
    have hP : va_P D vwCl (gW cy ad v_2 u) H := gPset ((gS_16 kd84 t1.toNatClampNeg t2).trans (congrArg (fun z => gW cy ad z u) ev_2.symm)) hP
    refine lv_iload_n hx hb dX6_walk_47 rfl (lv_at hl 0 rfl) ?_
    refine lv_if_eq (tgt := 55) hx hb dX6_walk_48 (by decide) (fun hc => ?_) (fun hc => ?_)
    · have hs := g_t hs hc
      refine lv_iconst (v := 0) hx hb dX6_walk_55 (by decide) ?_
      exact gRet_i hx hb hr hlocks hK hP hS (g_some2 hs) dX6_walk_56
    · have hs := g_f hs hc
      refine lv_iconst (v := 1) hx hb dX6_walk_51 (by decide) ?_
      refine lv_goto (tgt := 56) hx hb dX6_walk_52 (by decide) ?_
      exact gRet_i hx hb hr hlocks hK hP hS (g_some2 hs) dX6_walk_56
  have hJ_16 : ∀ (v : gV) (t0 : Int32) (t1 : Int32) (H : Heap) (locs : List Loc) (ls : Array Slot), va_P D vwCl (gW cy ad v u) H → va_S (gA z0) s.heap H locs → lv_has ls 4 [(0, .ref (ad 81))] → sX6_walk_16 v t0 t1 = some (r0, v1) → W p l e (headSpec wsX6_walk ({ frames := 1, cells := 0, slots := 0, locals := 22 } : Room)).room s m ([.ref (ad 81), .int x1] : List Value).toArray below meth c H locs 0 0 (MQ below (gQi D cy ad tL z0 v1 u r0) ([.ref (ad 81), .int x1] : List Value).toArray s 0 0 (gA z0)) (F0 m 16 ls [.int t1, .int t0]) := by
    intro v t0 t1 H locs ls hP hS hl hs
    unfold sX6_walk_16 at hs
    refine lv_iadd hx hb dX6_walk_16 ?_
    refine lv_istore_n (lv' := [(2, .int (t0 + t1)), (0, .ref (ad 81))]) hx hb dX6_walk_17 rfl hl (by decide) rfl (fun ls hl => ?_)
    refine lv_iload_n hx hb dX6_walk_18 rfl (lv_at hl 0 rfl) ?_
    refine lv_iconst (v := 0) hx hb dX6_walk_19 (by decide) ?_
    refine lv_iconst (v := 3) hx hb dX6_walk_20 (by decide) ?_
    refine g_bind hs (fun q_1 hq_1 hs => ?_)
    refine gCS_i (As := [.int (t0 + t1), .int 0, .int 3]) (rest := []) ⟨hx, hb, hml, hown, hts⟩ (cX6_in_c l D cy ad tL z0 hI v u (t0 + t1) 0 3 q_1 hq_1) (va_cwS 3 hts gX6_walk_X6_in rfl rfl rfl (by decide +kernel) ⟨Nat.le_of_ble_eq_true rfl, Nat.le_of_ble_eq_true rfl⟩) hK hP hS hl.1 rfl rfl (Nat.le_of_ble_eq_true rfl) dX6_walk_21 ⟨Nat.zero_le _, Nat.zero_le _⟩ (fun H locs hP hS => ?_)
    refine lv_istore_n (lv' := [(3, .int q_1), (2, .int (t0 + t1)), (0, .ref (ad 81))]) hx hb dX6_walk_24 rfl hl (by decide) rfl (fun ls hl => ?_)
    refine lv_aload_n hx hb dX6_walk_25 rfl (lv_at hl 2 rfl) ?_
    refine va_get (D := D) (ci := 6) (v := .ref (ad 84)) (C := RX6) (T := TX6) (N := 17) hx hb hts iX6 hown hK.1 hP 81 (gW_6 kd81) rfl 2 (by decide) f16 (fun _ h9 => h9) rfl dX6_walk_26 ?_
    refine lv_bipush (v := 49) hx hb dX6_walk_29 (by decide) ?_
    refine lv_iload_n hx hb dX6_walk_31 rfl (lv_at hl 0 rfl) ?_
    refine lv_if_eq (tgt := 39) hx hb dX6_walk_32 (by decide) (fun hc => ?_) (fun hc => ?_)
    · have hs := g_t hs hc
      refine lv_aload_n hx hb dX6_walk_39 rfl (lv_at hl 2 rfl) ?_
      refine va_get (D := D) (ci := 6) (v := .ref (ad 84)) (C := RX6) (T := TX6) (N := 17) hx hb hts iX6 hown hK.1 hP 81 (gW_6 kd81) rfl 2 (by decide) f16 (fun _ h9 => h9) rfl dX6_walk_40 ?_
      refine lv_bipush (v := 49) hx hb dX6_walk_43 (by decide) ?_
      refine va_iald (i := 49) hx hb hK.1 hP 84 0 (gW_16 kd84) rfl (by unfold vp_in; decide) dX6_walk_45 ?_
      exact hJ_46 v q_1 49 (v 84 49) _ _ _ hP hS (lv_sub hl [0] rfl) hs
    · have hs := g_f hs hc
      refine lv_iload_n hx hb dX6_walk_35 rfl (lv_at hl 1 rfl) ?_
      refine lv_goto (tgt := 46) hx hb dX6_walk_36 (by decide) ?_
      exact hJ_46 v q_1 49 (t0 + t1) _ _ _ hP hS (lv_sub hl [0] rfl) hs
  unfold sX6_walk at hs
  refine lv_aload_n hx hb dX6_walk_0 rfl (lv_at hl 0 rfl) ?_
  refine va_get (D := D) (ci := 6) (v := .ref (ad 84)) (C := RX6) (T := TX6) (N := 17) hx hb hts iX6 hown hK.1 hP 81 (gW_6 kd81) rfl 2 (by decide) f16 (fun _ h9 => h9) rfl dX6_walk_1 ?_
  refine lv_bipush (v := 49) hx hb dX6_walk_4 (by decide) ?_
  refine va_iald (i := 49) hx hb hK.1 hP 84 0 (gW_16 kd84) rfl (by unfold vp_in; decide) dX6_walk_6 ?_
  refine lv_iload_n hx hb dX6_walk_7 rfl (lv_at hl 1 rfl) ?_
  refine lv_if_eq (tgt := 15) hx hb dX6_walk_8 (by decide) (fun hc => ?_) (fun hc => ?_)
  · have hs := g_t hs hc
    refine lv_iconst (v := (-1)) hx hb dX6_walk_15 (by decide) ?_
    exact hJ_16 v (v 84 49) ((-1)) _ _ _ hP hS (lv_sub hl [0] rfl) hs
  · have hs := g_f hs hc
    refine lv_iconst (v := 1) hx hb dX6_walk_11 (by decide) ?_
    refine lv_goto (tgt := 16) hx hb dX6_walk_12 (by decide) ?_
    exact hJ_16 v (v 84 49) 1 _ _ _ hP hS (lv_sub hl [0] rfl) hs
set_option maxHeartbeats 4000000 in
set_option maxRecDepth 100000 in
theorem cX6_closeQuestion_c (l : Launch) (D : va_G) (cy : Nat → ClassId) (ad : Nat → Nat) (tL z0 : Nat) (hI : gI z0 ad) (n : Nat) (v : gV) (u : Int64) (v1 : gV) (hs : sX6_closeQuestion n v = some v1) : Met l yX6_closeQuestion wsX6_closeQuestion ({ frames := 0, cells := 0, slots := 0, locals := 0 } : Room) (gPc D cy ad tL z0 v u [.ref (ad 81)]) (gQv D cy ad tL z0 v1 u) 0 0 (gA z0) := by
  refine Met.ofW (cc := cX6_closeQuestion) (maxL := 2) (ret := none) (by decide) rfl ?_
  intro p e s m args below meth c s₁ B hml hv
  obtain ⟨rfl, hB0⟩ := hv
  have hP : va_P D vwCl (gW cy ad v u) s.heap := hB0.1
  have hK : gK D cy tL z0 s s.heap := hB0.2
  have hx := B.exec
  have hb := B.bytes
  have hr := B.returns
  have hts := atoms_spec (ws := wsX6_closeQuestion) B.pre
  have hown : s.vm.findClass RX6 = some m.cls := findClass_of_methodNamed B.named
  have hlocks := B.notSynchronized
  have hS : va_S (gA z0) s.heap s.heap [] := va_S.rf
  have hl := lv_entry ([.ref (ad 81)]) (n := 2) (Nat.le_of_ble_eq_true rfl)
  rw [lg_entry_eq]
  generalize (lg_sl ([.ref (ad 81)]) ++ List.replicate (2 - (lg_sl ([.ref (ad 81)])).length) Slot.unset).toArray = ls at hl ⊢
  have hl : lv_has ls 2 [(0, .ref (ad 81))] := hl
  have iX6 := (show ∀ w ∈ u_ws RX6 TX6 17, w ∈ wsX6_closeQuestion by decide +kernel)
  have f16 := hts (.fieldLink RX6 16 "AdventureParserModel" "s" "[I") (by decide +kernel)
  clear hB0
  have hL_3 : ∀ (k : Nat), ∀ (v : gV) (w1 : Int32) (H : Heap) (locs : List Loc) (ls : Array Slot), va_P D vwCl (gW cy ad v u) H → va_S (gA z0) s.heap H locs → lv_has ls 2 [(0, .ref (ad 81)), (1, .int w1)] → sX6_closeQuestion_3 n k v w1 = some v1 → W p l e (headSpec wsX6_closeQuestion ({ frames := 0, cells := 0, slots := 0, locals := 0 } : Room)).room s m ([.ref (ad 81)] : List Value).toArray below meth c H locs 0 0 (MQ below (gQv D cy ad tL z0 v1 u) ([.ref (ad 81)] : List Value).toArray s 0 0 (gA z0)) (F0 m 3 ls []) := by
    intro k
    induction k with
    | zero =>
      intro v w1 H locs ls hP hS hl hs
      exact g_none hs
    | succ k ih =>
      intro v w1 H locs ls hP hS hl hs
      rw [sX6_closeQuestion_3] at hs
      refine lv_iload_n hx hb dX6_closeQuestion_3 rfl (lv_at hl 1 rfl) ?_
      refine lv_bipush (v := 122) hx hb dX6_closeQuestion_4 (by decide) ?_
      refine lv_icmp_ge (tgt := 22) hx hb dX6_closeQuestion_6 (by decide) (fun hc => ?_) (fun hc => ?_)
      · have hs := g_t hs hc
        exact gRet_v hx hb hr hlocks hK hP hS (g_some hs) dX6_closeQuestion_22
      · have hs := g_f hs hc
        refine lv_aload_n hx hb dX6_closeQuestion_9 rfl (lv_at hl 0 rfl) ?_
        refine va_get (D := D) (ci := 6) (v := .ref (ad 84)) (C := RX6) (T := TX6) (N := 17) hx hb hts iX6 hown hK.1 hP 81 (gW_6 kd81) rfl 2 (by decide) f16 (fun _ h9 => h9) rfl dX6_closeQuestion_10 ?_
        refine lv_iload_n hx hb dX6_closeQuestion_13 rfl (lv_at hl 1 rfl) ?_
        refine lv_iconst (v := 0) hx hb dX6_closeQuestion_14 (by decide) ?_
        refine g_chk hs (fun hc hs => ?_)
        refine va_iast hx hb hK.1 hP (gD hI) hS 84 0 (gW_16 kd84) rfl hc dX6_closeQuestion_15 (fun H locs hP _ hS => ?_)
        refine g_let hs (fun v_1 ev_1 hs => ?_)
        have hP : va_P D vwCl (gW cy ad v_1 u) H := gPset ((gS_16 kd84 w1.toNatClampNeg 0).trans (congrArg (fun z => gW cy ad z u) ev_1.symm)) hP
        refine lv_iinc (v := w1 + 1) (lv' := [(1, .int (w1 + 1)), (0, .ref (ad 81))]) hx hb dX6_closeQuestion_16 hl (k := 1) rfl rfl (by decide) rfl (fun ls hl => ?_)
        refine lv_goto (tgt := 3) hx hb dX6_closeQuestion_19 (by decide) ?_
        exact ih v_1 (w1 + 1) _ _ _ hP hS (lv_sub hl [1, 0] rfl) hs
  unfold sX6_closeQuestion at hs
  refine lv_bipush (v := 55) hx hb dX6_closeQuestion_0 (by decide) ?_
  refine lv_istore_n (lv' := [(1, .int 55), (0, .ref (ad 81))]) hx hb dX6_closeQuestion_2 rfl hl (by decide) rfl (fun ls hl => ?_)
  exact hL_3 n v 55 _ _ _ hP hS (lv_sub hl [1, 0] rfl) hs
set_option maxHeartbeats 4000000 in
set_option maxRecDepth 100000 in
theorem cX6_run_c (l : Launch) (D : va_G) (cy : Nat → ClassId) (ad : Nat → Nat) (tL z0 : Nat) (hI : gI z0 ad) (n : Nat) (v : gV) (u : Int64) (r0 : Int32) (v1 : gV) (hs : sX6_run n v = some (r0, v1)) : Met l yX6_run wsX6_run ({ frames := 7, cells := 0, slots := 0, locals := 157 } : Room) (gPc D cy ad tL z0 v u [.ref (ad 81)]) (gQi D cy ad tL z0 v1 u r0) 0 0 (gA z0) := by
  refine Met.ofW (cc := cX6_run) (maxL := 5) (ret := (some .int)) (by decide) rfl ?_
  intro p e s m args below meth c s₁ B hml hv
  obtain ⟨rfl, hB0⟩ := hv
  have hP : va_P D vwCl (gW cy ad v u) s.heap := hB0.1
  have hK : gK D cy tL z0 s s.heap := hB0.2
  have hx := B.exec
  have hb := B.bytes
  have hr := B.returns
  have hts := atoms_spec (ws := wsX6_run) B.pre
  have hown : s.vm.findClass RX6 = some m.cls := findClass_of_methodNamed B.named
  have hlocks := B.notSynchronized
  have hS : va_S (gA z0) s.heap s.heap [] := va_S.rf
  have hl := lv_entry ([.ref (ad 81)]) (n := 5) (Nat.le_of_ble_eq_true rfl)
  rw [lg_entry_eq]
  generalize (lg_sl ([.ref (ad 81)]) ++ List.replicate (5 - (lg_sl ([.ref (ad 81)])).length) Slot.unset).toArray = ls at hl ⊢
  have hl : lv_has ls 5 [(0, .ref (ad 81))] := hl
  have iX6 := (show ∀ w ∈ u_ws RX6 TX6 17, w ∈ wsX6_run by decide +kernel)
  have f16 := hts (.fieldLink RX6 16 "AdventureParserModel" "s" "[I") (by decide +kernel)
  have f131 := hts (.fieldLink RX6 131 "AdventureParserModel" "failure" "I") (by decide +kernel)
  clear hB0
  have hJ_158 : ∀ (v : gV) (w2 : Int32) (t1 : Int32) (t2 : Int32) (t3 : Int32) (H : Heap) (locs : List Loc) (ls : Array Slot), va_P D vwCl (gW cy ad v u) H → va_S (gA z0) s.heap H locs → lv_has ls 5 [(0, .ref (ad 81)), (2, .int w2)] → sX6_run_158 n v w2 t1 t2 t3 = some (r0, v1) → W p l e (headSpec wsX6_run ({ frames := 7, cells := 0, slots := 0, locals := 157 } : Room)).room s m ([.ref (ad 81)] : List Value).toArray below meth c H locs 0 0 (MQ below (gQi D cy ad tL z0 v1 u r0) ([.ref (ad 81)] : List Value).toArray s 0 0 (gA z0)) (F0 m 158 ls [.int t3, .int t2, .int t1, .ref (ad 84)]) := by
    intro v w2 t1 t2 t3 H locs ls hP hS hl hs
    unfold sX6_run_158 at hs
    refine lv_iadd hx hb dX6_run_158 ?_
    refine g_chk hs (fun hc hs => ?_)
    refine va_iast hx hb hK.1 hP (gD hI) hS 84 0 (gW_16 kd84) rfl hc dX6_run_159 (fun H locs hP _ hS => ?_)
    refine g_let hs (fun v_5 ev_5 hs => ?_)
    have hP : va_P D vwCl (gW cy ad v_5 u) H := gPset ((gS_16 kd84 t1.toNatClampNeg (t2 + t3)).trans (congrArg (fun z => gW cy ad z u) ev_5.symm)) hP
    refine lv_aload_n hx hb dX6_run_160 rfl (lv_at hl 0 rfl) ?_
    refine g_bind hs (fun q_6 hq_6 hs => ?_)
    refine gCV_v (As := []) (rest := []) ⟨hx, hb, hml, hown, hts⟩ (cX6_closeQuestion_c l D cy ad tL z0 hI n v_5 u q_6 hq_6) (cwV 0 hts gX6_run_X6_closeQuestion rfl rfl rfl (by decide +kernel) ⟨Nat.le_of_ble_eq_true rfl, Nat.le_of_ble_eq_true rfl⟩) hK hP hS (va_recv hK.1 hP (ci := 6) (q0 := 81) rfl (gW_6 kd81)) hl.1 rfl rfl (Nat.le_of_ble_eq_true rfl) dX6_run_161 ⟨Nat.zero_le _, Nat.zero_le _⟩ (fun H locs hP hS => ?_)
    refine lv_iload_n hx hb dX6_run_164 rfl (lv_at hl 1 rfl) ?_
    exact gRet_i hx hb hr hlocks hK hP hS (g_some2 hs) dX6_run_165
  have hJ_139 : ∀ (v : gV) (w2 : Int32) (t1 : Int32) (t2 : Int32) (t3 : Int32) (H : Heap) (locs : List Loc) (ls : Array Slot), va_P D vwCl (gW cy ad v u) H → va_S (gA z0) s.heap H locs → lv_has ls 5 [(0, .ref (ad 81)), (2, .int w2)] → sX6_run_139 n v w2 t1 t2 t3 = some (r0, v1) → W p l e (headSpec wsX6_run ({ frames := 7, cells := 0, slots := 0, locals := 157 } : Room)).room s m ([.ref (ad 81)] : List Value).toArray below meth c H locs 0 0 (MQ below (gQi D cy ad tL z0 v1 u r0) ([.ref (ad 81)] : List Value).toArray s 0 0 (gA z0)) (F0 m 139 ls [.int t3, .int t2, .int t1, .ref (ad 84)]) := by
    intro v w2 t1 t2 t3 H locs ls hP hS hl hs
    unfold sX6_run_139 at hs
    refine lv_iadd hx hb dX6_run_139 ?_
    refine g_chk hs (fun hc hs => ?_)
    refine va_iast hx hb hK.1 hP (gD hI) hS 84 0 (gW_16 kd84) rfl hc dX6_run_140 (fun H locs hP _ hS => ?_)
    refine g_let hs (fun v_4 ev_4 hs => ?_)
    have hP : va_P D vwCl (gW cy ad v_4 u) H := gPset ((gS_16 kd84 t1.toNatClampNeg (t2 + t3)).trans (congrArg (fun z => gW cy ad z u) ev_4.symm)) hP
    refine lv_aload_n hx hb dX6_run_141 rfl (lv_at hl 0 rfl) ?_
    refine va_get (D := D) (ci := 6) (v := .ref (ad 84)) (C := RX6) (T := TX6) (N := 17) hx hb hts iX6 hown hK.1 hP 81 (gW_6 kd81) rfl 2 (by decide) f16 (fun _ h9 => h9) rfl dX6_run_142 ?_
    refine lv_bipush (v := 52) hx hb dX6_run_145 (by decide) ?_
    refine lv_dup2_11 hx hb dX6_run_147 rfl rfl ?_
    refine va_iald (i := 52) hx hb hK.1 hP 84 0 (gW_16 kd84) rfl (by unfold vp_in; decide) dX6_run_148 ?_
    refine lv_iload_n hx hb dX6_run_149 rfl (lv_at hl 1 rfl) ?_
    refine lv_if_ge (tgt := 157) hx hb dX6_run_150 (by decide) (fun hc => ?_) (fun hc => ?_)
    · have hs := g_t hs hc
      refine lv_iconst (v := 1) hx hb dX6_run_157 (by decide) ?_
      exact hJ_158 v_4 w2 52 (v_4 84 52) 1 _ _ _ hP hS (lv_sub hl [0, 1] rfl) hs
    · have hs := g_f hs hc
      refine lv_iconst (v := 0) hx hb dX6_run_153 (by decide) ?_
      refine lv_goto (tgt := 158) hx hb dX6_run_154 (by decide) ?_
      exact hJ_158 v_4 w2 52 (v_4 84 52) 0 _ _ _ hP hS (lv_sub hl [0, 1] rfl) hs
  have hJ_96 : ∀ (v : gV) (w2 : Int32) (H : Heap) (locs : List Loc) (ls : Array Slot), va_P D vwCl (gW cy ad v u) H → va_S (gA z0) s.heap H locs → lv_has ls 5 [(0, .ref (ad 81)), (2, .int w2)] → sX6_run_96 n v w2 = some (r0, v1) → W p l e (headSpec wsX6_run ({ frames := 7, cells := 0, slots := 0, locals := 157 } : Room)).room s m ([.ref (ad 81)] : List Value).toArray below meth c H locs 0 0 (MQ below (gQi D cy ad tL z0 v1 u r0) ([.ref (ad 81)] : List Value).toArray s 0 0 (gA z0)) (F0 m 96 ls []) := by
    intro v w2 H locs ls hP hS hl hs
    unfold sX6_run_96 at hs
    refine lv_iload_n hx hb dX6_run_96 rfl (lv_at hl 1 rfl) ?_
    refine lv_iconst (v := (-1)) hx hb dX6_run_97 (by decide) ?_
    refine lv_icmp_ne (tgt := 122) hx hb dX6_run_98 (by decide) (fun hc => ?_) (fun hc => ?_)
    · have hs := g_f hs hc
      refine lv_aload_n hx hb dX6_run_122 rfl (lv_at hl 0 rfl) ?_
      refine va_get (D := D) (ci := 6) (v := .ref (ad 84)) (C := RX6) (T := TX6) (N := 17) hx hb hts iX6 hown hK.1 hP 81 (gW_6 kd81) rfl 2 (by decide) f16 (fun _ h9 => h9) rfl dX6_run_123 ?_
      refine lv_bipush (v := 53) hx hb dX6_run_126 (by decide) ?_
      refine lv_dup2_11 hx hb dX6_run_128 rfl rfl ?_
      refine va_iald (i := 53) hx hb hK.1 hP 84 0 (gW_16 kd84) rfl (by unfold vp_in; decide) dX6_run_129 ?_
      refine lv_iload_n hx hb dX6_run_130 rfl (lv_at hl 1 rfl) ?_
      refine lv_if_ge (tgt := 138) hx hb dX6_run_131 (by decide) (fun hc => ?_) (fun hc => ?_)
      · have hs := g_t hs hc
        refine lv_iconst (v := 0) hx hb dX6_run_138 (by decide) ?_
        exact hJ_139 v w2 53 (v 84 53) 0 _ _ _ hP hS (lv_sub hl [0, 1] rfl) hs
      · have hs := g_f hs hc
        refine lv_iconst (v := 1) hx hb dX6_run_134 (by decide) ?_
        refine lv_goto (tgt := 139) hx hb dX6_run_135 (by decide) ?_
        exact hJ_139 v w2 53 (v 84 53) 1 _ _ _ hP hS (lv_sub hl [0, 1] rfl) hs
    · have hs := g_t hs hc
      refine lv_aload_n hx hb dX6_run_101 rfl (lv_at hl 0 rfl) ?_
      refine va_get (D := D) (ci := 6) (v := .ref (ad 84)) (C := RX6) (T := TX6) (N := 17) hx hb hts iX6 hown hK.1 hP 81 (gW_6 kd81) rfl 2 (by decide) f16 (fun _ h9 => h9) rfl dX6_run_102 ?_
      refine lv_bipush (v := 55) hx hb dX6_run_105 (by decide) ?_
      refine lv_iconst (v := 1) hx hb dX6_run_107 (by decide) ?_
      refine va_iast (i := 55) hx hb hK.1 hP (gD hI) hS 84 0 (gW_16 kd84) rfl (by unfold vp_in; decide) dX6_run_108 (fun H locs hP _ hS => ?_)
      refine g_let hs (fun v_7 ev_7 hs => ?_)
      have hP : va_P D vwCl (gW cy ad v_7 u) H := gPset ((gS_16 kd84 55 1).trans (congrArg (fun z => gW cy ad z u) ev_7.symm)) hP
      refine lv_aload_n hx hb dX6_run_109 rfl (lv_at hl 0 rfl) ?_
      refine va_get (D := D) (ci := 6) (v := .ref (ad 84)) (C := RX6) (T := TX6) (N := 17) hx hb hts iX6 hown hK.1 hP 81 (gW_6 kd81) rfl 2 (by decide) f16 (fun _ h9 => h9) rfl dX6_run_110 ?_
      refine lv_bipush (v := 54) hx hb dX6_run_113 (by decide) ?_
      refine lv_dup2_11 hx hb dX6_run_115 rfl rfl ?_
      refine va_iald (i := 54) hx hb hK.1 hP 84 0 (gW_16 kd84) rfl (by unfold vp_in; decide) dX6_run_116 ?_
      refine lv_iconst (v := 1) hx hb dX6_run_117 (by decide) ?_
      refine lv_iadd hx hb dX6_run_118 ?_
      refine va_iast (i := 54) hx hb hK.1 hP (gD hI) hS 84 0 (gW_16 kd84) rfl (by unfold vp_in; decide) dX6_run_119 (fun H locs hP _ hS => ?_)
      refine g_let hs (fun v_8 ev_8 hs => ?_)
      have hP : va_P D vwCl (gW cy ad v_8 u) H := gPset ((gS_16 kd84 54 ((v_7 84 54) + 1)).trans (congrArg (fun z => gW cy ad z u) ev_8.symm)) hP
      refine lv_iload_n hx hb dX6_run_120 rfl (lv_at hl 1 rfl) ?_
      exact gRet_i hx hb hr hlocks hK hP hS (g_some2 hs) dX6_run_121
  have hJ_71 : ∀ (v : gV) (w1 : Int32) (w3 : Int32) (t0 : Int32) (H : Heap) (locs : List Loc) (ls : Array Slot), va_P D vwCl (gW cy ad v u) H → va_S (gA z0) s.heap H locs → lv_has ls 5 [(0, .ref (ad 81)), (1, .int w1), (3, .int w3)] → sX6_run_71 n v w1 w3 t0 = some (r0, v1) → W p l e (headSpec wsX6_run ({ frames := 7, cells := 0, slots := 0, locals := 157 } : Room)).room s m ([.ref (ad 81)] : List Value).toArray below meth c H locs 0 0 (MQ below (gQi D cy ad tL z0 v1 u r0) ([.ref (ad 81)] : List Value).toArray s 0 0 (gA z0)) (F0 m 71 ls [.int t0]) := by
    intro v w1 w3 t0 H locs ls hP hS hl hs
    unfold sX6_run_71 at hs
    refine lv_istore (lv' := [(4, .int t0), (0, .ref (ad 81)), (1, .int w1), (3, .int w3)]) hx hb dX6_run_71 hl (by decide) rfl (fun ls hl => ?_)
    refine lv_aload_n hx hb dX6_run_73 rfl (lv_at hl 1 rfl) ?_
    refine va_get (D := D) (ci := 6) (v := .int (v 81 13)) (C := RX6) (T := TX6) (N := 17) hx hb hts iX6 hown hK.1 hP 81 (gW_6 kd81) rfl 13 (by decide) f131 (fun _ h9 => h9) rfl dX6_run_74 ?_
    refine lv_if_ge (tgt := 87) hx hb dX6_run_77 (by decide) (fun hc => ?_) (fun hc => ?_)
    · have hs := g_t hs hc
      refine lv_aload_n hx hb dX6_run_87 rfl (lv_at hl 1 rfl) ?_
      refine lv_iload_n hx hb dX6_run_88 rfl (lv_at hl 2 rfl) ?_
      refine lv_iload hx hb dX6_run_89 (lv_at hl 0 rfl) ?_
      refine lv_iload_n hx hb dX6_run_91 rfl (lv_at hl 3 rfl) ?_
      refine g_bind hs (fun q_3 hq_3 hs => ?_)
      refine gCV_i (As := [.int w1, .int t0, .int w3]) (rest := []) ⟨hx, hb, hml, hown, hts⟩ (cX6_execute_c l D cy ad tL z0 hI n v u w1 t0 w3 q_3.1 q_3.2 hq_3) (cwV 3 hts gX6_run_X6_execute rfl rfl rfl (by decide +kernel) ⟨Nat.le_of_ble_eq_true rfl, Nat.le_of_ble_eq_true rfl⟩) hK hP hS (va_recv hK.1 hP (ci := 6) (q0 := 81) rfl (gW_6 kd81)) hl.1 rfl rfl (Nat.le_of_ble_eq_true rfl) dX6_run_92 ⟨Nat.zero_le _, Nat.zero_le _⟩ (fun H locs hP hS => ?_)
      refine lv_istore_n (lv' := [(2, .int q_3.1), (4, .int t0), (0, .ref (ad 81)), (1, .int w1), (3, .int w3)]) hx hb dX6_run_95 rfl hl (by decide) rfl (fun ls hl => ?_)
      exact hJ_96 q_3.2 q_3.1 _ _ _ hP hS (lv_sub hl [2, 0] rfl) hs
    · have hs := g_f hs hc
      refine lv_aload_n hx hb dX6_run_80 rfl (lv_at hl 1 rfl) ?_
      refine va_get (D := D) (ci := 6) (v := .int (v 81 13)) (C := RX6) (T := TX6) (N := 17) hx hb hts iX6 hown hK.1 hP 81 (gW_6 kd81) rfl 13 (by decide) f131 (fun _ h9 => h9) rfl dX6_run_81 ?_
      refine lv_goto (tgt := 95) hx hb dX6_run_84 (by decide) ?_
      refine lv_istore_n (lv' := [(2, .int (v 81 13)), (4, .int t0), (0, .ref (ad 81)), (1, .int w1), (3, .int w3)]) hx hb dX6_run_95 rfl hl (by decide) rfl (fun ls hl => ?_)
      exact hJ_96 v (v 81 13) _ _ _ hP hS (lv_sub hl [2, 0] rfl) hs
  have hJ_54 : ∀ (v : gV) (w1 : Int32) (t0 : Int32) (H : Heap) (locs : List Loc) (ls : Array Slot), va_P D vwCl (gW cy ad v u) H → va_S (gA z0) s.heap H locs → lv_has ls 5 [(0, .ref (ad 81)), (1, .int w1)] → sX6_run_54 n v w1 t0 = some (r0, v1) → W p l e (headSpec wsX6_run ({ frames := 7, cells := 0, slots := 0, locals := 157 } : Room)).room s m ([.ref (ad 81)] : List Value).toArray below meth c H locs 0 0 (MQ below (gQi D cy ad tL z0 v1 u r0) ([.ref (ad 81)] : List Value).toArray s 0 0 (gA z0)) (F0 m 54 ls [.int t0]) := by
    intro v w1 t0 H locs ls hP hS hl hs
    unfold sX6_run_54 at hs
    refine lv_istore_n (lv' := [(3, .int t0), (0, .ref (ad 81)), (1, .int w1)]) hx hb dX6_run_54 rfl hl (by decide) rfl (fun ls hl => ?_)
    refine lv_aload_n hx hb dX6_run_55 rfl (lv_at hl 1 rfl) ?_
    refine va_get (D := D) (ci := 6) (v := .int (v 81 13)) (C := RX6) (T := TX6) (N := 17) hx hb hts iX6 hown hK.1 hP 81 (gW_6 kd81) rfl 13 (by decide) f131 (fun _ h9 => h9) rfl dX6_run_56 ?_
    refine lv_if_ge (tgt := 66) hx hb dX6_run_59 (by decide) (fun hc => ?_) (fun hc => ?_)
    · have hs := g_t hs hc
      refine lv_aload_n hx hb dX6_run_66 rfl (lv_at hl 1 rfl) ?_
      refine lv_iload_n hx hb dX6_run_67 rfl (lv_at hl 2 rfl) ?_
      refine g_bind hs (fun q_2 hq_2 hs => ?_)
      refine gCV_i (As := [.int w1]) (rest := []) ⟨hx, hb, hml, hown, hts⟩ (cX6_resolveObjects_c l D cy ad tL z0 hI n v u w1 q_2.1 q_2.2 hq_2) (cwV 1 hts gX6_run_X6_resolveObjects rfl rfl rfl (by decide +kernel) ⟨Nat.le_of_ble_eq_true rfl, Nat.le_of_ble_eq_true rfl⟩) hK hP hS (va_recv hK.1 hP (ci := 6) (q0 := 81) rfl (gW_6 kd81)) hl.1 rfl rfl (Nat.le_of_ble_eq_true rfl) dX6_run_68 ⟨Nat.zero_le _, Nat.zero_le _⟩ (fun H locs hP hS => ?_)
      exact hJ_71 q_2.2 w1 t0 q_2.1 _ _ _ hP hS (lv_sub hl [1, 2, 0] rfl) hs
    · have hs := g_f hs hc
      refine lv_iconst (v := 0) hx hb dX6_run_62 (by decide) ?_
      refine lv_goto (tgt := 71) hx hb dX6_run_63 (by decide) ?_
      exact hJ_71 v w1 t0 0 _ _ _ hP hS (lv_sub hl [1, 2, 0] rfl) hs
  have hJ_34 : ∀ (v : gV) (t1 : Int32) (H : Heap) (locs : List Loc) (ls : Array Slot), va_P D vwCl (gW cy ad v u) H → va_S (gA z0) s.heap H locs → lv_has ls 5 [(0, .ref (ad 81))] → sX6_run_34 n v t1 = some (r0, v1) → W p l e (headSpec wsX6_run ({ frames := 7, cells := 0, slots := 0, locals := 157 } : Room)).room s m ([.ref (ad 81)] : List Value).toArray below meth c H locs 0 0 (MQ below (gQi D cy ad tL z0 v1 u r0) ([.ref (ad 81)] : List Value).toArray s 0 0 (gA z0)) (F0 m 34 ls [.int t1, .ref (ad 81)]) := by
    intro v t1 H locs ls hP hS hl hs
    unfold sX6_run_34 at hs
    refine g_bind hs (fun q_10 hq_10 hs => ?_)
    refine gCV_i (As := [.int t1]) (rest := []) ⟨hx, hb, hml, hown, hts⟩ (cX6_walk_c l D cy ad tL z0 hI v u t1 q_10.1 q_10.2 hq_10) (cwV 1 hts gX6_run_X6_walk rfl rfl rfl (by decide +kernel) ⟨Nat.le_of_ble_eq_true rfl, Nat.le_of_ble_eq_true rfl⟩) hK hP hS (va_recv hK.1 hP (ci := 6) (q0 := 81) rfl (gW_6 kd81)) hl.1 rfl rfl (Nat.le_of_ble_eq_true rfl) dX6_run_34 ⟨Nat.zero_le _, Nat.zero_le _⟩ (fun H locs hP hS => ?_)
    refine lv_istore_n (lv' := [(2, .int q_10.1), (0, .ref (ad 81))]) hx hb dX6_run_37 rfl hl (by decide) rfl (fun ls hl => ?_)
    refine lv_goto (tgt := 96) hx hb dX6_run_38 (by decide) ?_
    exact hJ_96 q_10.2 q_10.1 _ _ _ hP hS (lv_sub hl [1, 0] rfl) hs
  unfold sX6_run at hs
  refine lv_aload_n hx hb dX6_run_0 rfl (lv_at hl 0 rfl) ?_
  refine va_get (D := D) (ci := 6) (v := .ref (ad 84)) (C := RX6) (T := TX6) (N := 17) hx hb hts iX6 hown hK.1 hP 81 (gW_6 kd81) rfl 2 (by decide) f16 (fun _ h9 => h9) rfl dX6_run_1 ?_
  refine lv_bipush (v := 59) hx hb dX6_run_4 (by decide) ?_
  refine va_iald (i := 59) hx hb hK.1 hP 84 0 (gW_16 kd84) rfl (by unfold vp_in; decide) dX6_run_6 ?_
  refine lv_bipush (v := 10) hx hb dX6_run_7 (by decide) ?_
  refine lv_isub hx hb dX6_run_9 ?_
  refine lv_istore_n (lv' := [(1, .int ((v 84 59) - 10)), (0, .ref (ad 81))]) hx hb dX6_run_10 rfl hl (by decide) rfl (fun ls hl => ?_)
  refine lv_iconst (v := 0) hx hb dX6_run_11 (by decide) ?_
  refine lv_istore_n (lv' := [(2, .int 0), (1, .int ((v 84 59) - 10)), (0, .ref (ad 81))]) hx hb dX6_run_12 rfl hl (by decide) rfl (fun ls hl => ?_)
  refine lv_aload_n hx hb dX6_run_13 rfl (lv_at hl 2 rfl) ?_
  refine lv_iconst (v := 0) hx hb dX6_run_14 (by decide) ?_
  refine va_put (D := D) (ci := 6) (v := .int 0) (ty := .int) (C := RX6) (T := TX6) (N := 17) hx hb hts iX6 tyX6 tyX6_ok nmX6 hown hK.1 hP (gD hI) hS 81 (gW_6 kd81) rfl 13 (by decide) f131 (fun _ h9 => h9) rfl (by decide +kernel) rfl rfl (Nat.le_of_ble_eq_true rfl) dX6_run_15 (fun H locs hP _ hS => ?_)
  refine g_let hs (fun v_1 ev_1 hs => ?_)
  have hP : va_P D vwCl (gW cy ad v_1 u) H := gPset ((gS_6_13 kd81 0).trans (congrArg (fun z => gW cy ad z u) ev_1.symm)) hP
  refine lv_iload_n hx hb dX6_run_18 rfl (lv_at hl 1 rfl) ?_
  refine lv_iconst (v := 5) hx hb dX6_run_19 (by decide) ?_
  refine lv_icmp_lt (tgt := 41) hx hb dX6_run_20 (by decide) (fun hc => ?_) (fun hc => ?_)
  · have hs := g_t hs hc
    refine lv_iload_n hx hb dX6_run_41 rfl (lv_at hl 1 rfl) ?_
    refine lv_iconst (v := 2) hx hb dX6_run_42 (by decide) ?_
    refine lv_icmp_ne (tgt := 53) hx hb dX6_run_43 (by decide) (fun hc => ?_) (fun hc => ?_)
    · have hs := g_f hs hc
      refine lv_iconst (v := 0) hx hb dX6_run_53 (by decide) ?_
      exact hJ_54 v_1 ((v 84 59) - 10) 0 _ _ _ hP hS (lv_sub hl [2, 1] rfl) hs
    · have hs := g_t hs hc
      refine lv_aload_n hx hb dX6_run_46 rfl (lv_at hl 2 rfl) ?_
      refine g_bind hs (fun q_9 hq_9 hs => ?_)
      refine gCV_i (As := []) (rest := []) ⟨hx, hb, hml, hown, hts⟩ (cX6_resolveTarget_c l D cy ad tL z0 hI n v_1 u q_9.1 q_9.2 hq_9) (cwV 0 hts gX6_run_X6_resolveTarget rfl rfl rfl (by decide +kernel) ⟨Nat.le_of_ble_eq_true rfl, Nat.le_of_ble_eq_true rfl⟩) hK hP hS (va_recv hK.1 hP (ci := 6) (q0 := 81) rfl (gW_6 kd81)) hl.1 rfl rfl (Nat.le_of_ble_eq_true rfl) dX6_run_47 ⟨Nat.zero_le _, Nat.zero_le _⟩ (fun H locs hP hS => ?_)
      refine lv_goto (tgt := 54) hx hb dX6_run_50 (by decide) ?_
      exact hJ_54 q_9.2 ((v 84 59) - 10) q_9.1 _ _ _ hP hS (lv_sub hl [2, 1] rfl) hs
  · have hs := g_f hs hc
    refine lv_aload_n hx hb dX6_run_23 rfl (lv_at hl 2 rfl) ?_
    refine lv_iload_n hx hb dX6_run_24 rfl (lv_at hl 1 rfl) ?_
    refine lv_iconst (v := 5) hx hb dX6_run_25 (by decide) ?_
    refine lv_icmp_ne (tgt := 33) hx hb dX6_run_26 (by decide) (fun hc => ?_) (fun hc => ?_)
    · have hs := g_f hs hc
      refine lv_iconst (v := 0) hx hb dX6_run_33 (by decide) ?_
      exact hJ_34 v_1 0 _ _ _ hP hS (lv_sub hl [2] rfl) hs
    · have hs := g_t hs hc
      refine lv_iconst (v := 1) hx hb dX6_run_29 (by decide) ?_
      refine lv_goto (tgt := 34) hx hb dX6_run_30 (by decide) ?_
      exact hJ_34 v_1 1 _ _ _ hP hS (lv_sub hl [2] rfl) hs
set_option maxHeartbeats 4000000 in
set_option maxRecDepth 100000 in
theorem cX6_command_c (l : Launch) (D : va_G) (cy : Nat → ClassId) (ad : Nat → Nat) (tL z0 : Nat) (hI : gI z0 ad) (n : Nat) (v : gV) (u : Int64) (r0 : Int32) (v1 : gV) (hs : sX6_command n v = some (r0, v1)) : Met l yX6_command wsX6_command ({ frames := 8, cells := 0, slots := 0, locals := 181 } : Room) (gPc D cy ad tL z0 v u [.ref (ad 81)]) (gQi D cy ad tL z0 v1 u r0) 0 0 (gA z0) := by
  refine Met.ofW (cc := cX6_command) (maxL := 2) (ret := (some .int)) (by decide) rfl ?_
  intro p e s m args below meth c s₁ B hml hv
  obtain ⟨rfl, hB0⟩ := hv
  have hP : va_P D vwCl (gW cy ad v u) s.heap := hB0.1
  have hK : gK D cy tL z0 s s.heap := hB0.2
  have hx := B.exec
  have hb := B.bytes
  have hr := B.returns
  have hts := atoms_spec (ws := wsX6_command) B.pre
  have hown : s.vm.findClass RX6 = some m.cls := findClass_of_methodNamed B.named
  have hlocks := B.notSynchronized
  have hS : va_S (gA z0) s.heap s.heap [] := va_S.rf
  have hl := lv_entry ([.ref (ad 81)]) (n := 2) (Nat.le_of_ble_eq_true rfl)
  rw [lg_entry_eq]
  generalize (lg_sl ([.ref (ad 81)]) ++ List.replicate (2 - (lg_sl ([.ref (ad 81)])).length) Slot.unset).toArray = ls at hl ⊢
  have hl : lv_has ls 2 [(0, .ref (ad 81))] := hl
  have iX6 := (show ∀ w ∈ u_ws RX6 TX6 17, w ∈ wsX6_command by decide +kernel)
  have f16 := hts (.fieldLink RX6 16 "AdventureParserModel" "s" "[I") (by decide +kernel)
  have f84 := hts (.fieldLink RX6 84 "AdventureParserModel" "many" "I") (by decide +kernel)
  have f28 := hts (.fieldLink RX6 28 "AdventureParserModel" "words" "[I") (by decide +kernel)
  clear hB0
  have hL_17 : ∀ (k : Nat), ∀ (v : gV) (w1 : Int32) (H : Heap) (locs : List Loc) (ls : Array Slot), va_P D vwCl (gW cy ad v u) H → va_S (gA z0) s.heap H locs → lv_has ls 2 [(0, .ref (ad 81)), (1, .int w1)] → sX6_command_17 n k v w1 = some (r0, v1) → W p l e (headSpec wsX6_command ({ frames := 8, cells := 0, slots := 0, locals := 181 } : Room)).room s m ([.ref (ad 81)] : List Value).toArray below meth c H locs 0 0 (MQ below (gQi D cy ad tL z0 v1 u r0) ([.ref (ad 81)] : List Value).toArray s 0 0 (gA z0)) (F0 m 17 ls []) := by
    intro k
    induction k with
    | zero =>
      intro v w1 H locs ls hP hS hl hs
      exact g_none hs
    | succ k ih =>
      intro v w1 H locs ls hP hS hl hs
      rw [sX6_command_17] at hs
      refine lv_iload_n hx hb dX6_command_17 rfl (lv_at hl 1 rfl) ?_
      refine lv_aload_n hx hb dX6_command_18 rfl (lv_at hl 0 rfl) ?_
      refine va_get (D := D) (ci := 6) (v := .int (v 81 10)) (C := RX6) (T := TX6) (N := 17) hx hb hts iX6 hown hK.1 hP 81 (gW_6 kd81) rfl 10 (by decide) f84 (fun _ h9 => h9) rfl dX6_command_19 ?_
      refine lv_icmp_ge (tgt := 46) hx hb dX6_command_22 (by decide) (fun hc => ?_) (fun hc => ?_)
      · have hs := g_t hs hc
        refine lv_aload_n hx hb dX6_command_46 rfl (lv_at hl 0 rfl) ?_
        refine g_bind hs (fun q_3 hq_3 hs => ?_)
        refine gCV_i (As := []) (rest := []) ⟨hx, hb, hml, hown, hts⟩ (cX6_run_c l D cy ad tL z0 hI n v u q_3.1 q_3.2 hq_3) (cwV 0 hts gX6_command_X6_run rfl rfl rfl (by decide +kernel) ⟨Nat.le_of_ble_eq_true rfl, Nat.le_of_ble_eq_true rfl⟩) hK hP hS (va_recv hK.1 hP (ci := 6) (q0 := 81) rfl (gW_6 kd81)) hl.1 rfl rfl (Nat.le_of_ble_eq_true rfl) dX6_command_47 ⟨Nat.zero_le _, Nat.zero_le _⟩ (fun H locs hP hS => ?_)
        exact gRet_i hx hb hr hlocks hK hP hS (g_some2 hs) dX6_command_50
      · have hs := g_f hs hc
        refine lv_aload_n hx hb dX6_command_25 rfl (lv_at hl 0 rfl) ?_
        refine va_get (D := D) (ci := 6) (v := .ref (ad 84)) (C := RX6) (T := TX6) (N := 17) hx hb hts iX6 hown hK.1 hP 81 (gW_6 kd81) rfl 2 (by decide) f16 (fun _ h9 => h9) rfl dX6_command_26 ?_
        refine lv_bipush (v := 59) hx hb dX6_command_29 (by decide) ?_
        refine lv_iload_n hx hb dX6_command_31 rfl (lv_at hl 1 rfl) ?_
        refine lv_iadd hx hb dX6_command_32 ?_
        refine lv_aload_n hx hb dX6_command_33 rfl (lv_at hl 0 rfl) ?_
        refine va_get (D := D) (ci := 6) (v := .ref (ad 88)) (C := RX6) (T := TX6) (N := 17) hx hb hts iX6 hown hK.1 hP 81 (gW_6 kd81) rfl 9 (by decide) f28 (fun _ h9 => h9) rfl dX6_command_34 ?_
        refine lv_iload_n hx hb dX6_command_37 rfl (lv_at hl 1 rfl) ?_
        refine g_chk hs (fun hc hs => ?_)
        refine va_iald hx hb hK.1 hP 88 0 (gW_19 kd88) rfl hc dX6_command_38 ?_
        refine g_chk hs (fun hc hs => ?_)
        refine va_iast hx hb hK.1 hP (gD hI) hS 84 0 (gW_16 kd84) rfl hc dX6_command_39 (fun H locs hP _ hS => ?_)
        refine g_let hs (fun v_4 ev_4 hs => ?_)
        have hP : va_P D vwCl (gW cy ad v_4 u) H := gPset ((gS_16 kd84 (59 + w1).toNatClampNeg (v 88 w1.toNatClampNeg)).trans (congrArg (fun z => gW cy ad z u) ev_4.symm)) hP
        refine lv_iinc (v := w1 + 1) (lv' := [(1, .int (w1 + 1)), (0, .ref (ad 81))]) hx hb dX6_command_40 hl (k := 1) rfl rfl (by decide) rfl (fun ls hl => ?_)
        refine lv_goto (tgt := 17) hx hb dX6_command_43 (by decide) ?_
        exact ih v_4 (w1 + 1) _ _ _ hP hS (lv_sub hl [1, 0] rfl) hs
  unfold sX6_command at hs
  refine lv_aload_n hx hb dX6_command_0 rfl (lv_at hl 0 rfl) ?_
  refine g_bind hs (fun q_1 hq_1 hs => ?_)
  refine gCV_v (As := []) (rest := []) ⟨hx, hb, hml, hown, hts⟩ (cX6_closeQuestion_c l D cy ad tL z0 hI n v u q_1 hq_1) (cwV 0 hts gX6_command_X6_closeQuestion rfl rfl rfl (by decide +kernel) ⟨Nat.le_of_ble_eq_true rfl, Nat.le_of_ble_eq_true rfl⟩) hK hP hS (va_recv hK.1 hP (ci := 6) (q0 := 81) rfl (gW_6 kd81)) hl.1 rfl rfl (Nat.le_of_ble_eq_true rfl) dX6_command_1 ⟨Nat.zero_le _, Nat.zero_le _⟩ (fun H locs hP hS => ?_)
  refine lv_aload_n hx hb dX6_command_4 rfl (lv_at hl 0 rfl) ?_
  refine va_get (D := D) (ci := 6) (v := .ref (ad 84)) (C := RX6) (T := TX6) (N := 17) hx hb hts iX6 hown hK.1 hP 81 (gW_6 kd81) rfl 2 (by decide) f16 (fun _ h9 => h9) rfl dX6_command_5 ?_
  refine lv_bipush (v := 58) hx hb dX6_command_8 (by decide) ?_
  refine lv_aload_n hx hb dX6_command_10 rfl (lv_at hl 0 rfl) ?_
  refine va_get (D := D) (ci := 6) (v := .int (q_1 81 10)) (C := RX6) (T := TX6) (N := 17) hx hb hts iX6 hown hK.1 hP 81 (gW_6 kd81) rfl 10 (by decide) f84 (fun _ h9 => h9) rfl dX6_command_11 ?_
  refine va_iast (i := 58) hx hb hK.1 hP (gD hI) hS 84 0 (gW_16 kd84) rfl (by unfold vp_in; decide) dX6_command_14 (fun H locs hP _ hS => ?_)
  refine g_let hs (fun v_2 ev_2 hs => ?_)
  have hP : va_P D vwCl (gW cy ad v_2 u) H := gPset ((gS_16 kd84 58 (q_1 81 10)).trans (congrArg (fun z => gW cy ad z u) ev_2.symm)) hP
  refine lv_iconst (v := 0) hx hb dX6_command_15 (by decide) ?_
  refine lv_istore_n (lv' := [(1, .int 0), (0, .ref (ad 81))]) hx hb dX6_command_16 rfl hl (by decide) rfl (fun ls hl => ?_)
  exact hL_17 n v_2 0 _ _ _ hP hS (lv_sub hl [1, 0] rfl) hs
set_option maxHeartbeats 4000000 in
set_option maxRecDepth 100000 in
theorem cX6_answer_c (l : Launch) (D : va_G) (cy : Nat → ClassId) (ad : Nat → Nat) (tL z0 : Nat) (hI : gI z0 ad) (n : Nat) (v : gV) (u : Int64) (r0 : Int32) (v1 : gV) (hs : sX6_answer n v = some (r0, v1)) : Met l yX6_answer wsX6_answer ({ frames := 8, cells := 0, slots := 0, locals := 181 } : Room) (gPc D cy ad tL z0 v u [.ref (ad 81)]) (gQi D cy ad tL z0 v1 u r0) 0 0 (gA z0) := by
  refine Met.ofW (cc := cX6_answer) (maxL := 7) (ret := (some .int)) (by decide) rfl ?_
  intro p e s m args below meth c s₁ B hml hv
  obtain ⟨rfl, hB0⟩ := hv
  have hP : va_P D vwCl (gW cy ad v u) s.heap := hB0.1
  have hK : gK D cy tL z0 s s.heap := hB0.2
  have hx := B.exec
  have hb := B.bytes
  have hr := B.returns
  have hts := atoms_spec (ws := wsX6_answer) B.pre
  have hown : s.vm.findClass RX6 = some m.cls := findClass_of_methodNamed B.named
  have hlocks := B.notSynchronized
  have hS : va_S (gA z0) s.heap s.heap [] := va_S.rf
  have hl := lv_entry ([.ref (ad 81)]) (n := 7) (Nat.le_of_ble_eq_true rfl)
  rw [lg_entry_eq]
  generalize (lg_sl ([.ref (ad 81)]) ++ List.replicate (7 - (lg_sl ([.ref (ad 81)])).length) Slot.unset).toArray = ls at hl ⊢
  have hl : lv_has ls 7 [(0, .ref (ad 81))] := hl
  have iX6 := (show ∀ w ∈ u_ws RX6 TX6 17, w ∈ wsX6_answer by decide +kernel)
  have f28 := hts (.fieldLink RX6 28 "AdventureParserModel" "words" "[I") (by decide +kernel)
  have f84 := hts (.fieldLink RX6 84 "AdventureParserModel" "many" "I") (by decide +kernel)
  have f16 := hts (.fieldLink RX6 16 "AdventureParserModel" "s" "[I") (by decide +kernel)
  clear hB0
  have hL_70 : ∀ (k : Nat), ∀ (v : gV) (w2 : Int32) (w3 : Int32) (w4 : Int32) (w5 : Int32) (H : Heap) (locs : List Loc) (ls : Array Slot), va_P D vwCl (gW cy ad v u) H → va_S (gA z0) s.heap H locs → lv_has ls 7 [(0, .ref (ad 81)), (2, .int w2), (3, .int w3), (4, .int w4), (5, .int w5)] → sX6_answer_70 n k v w2 w3 w4 w5 = some (r0, v1) → W p l e (headSpec wsX6_answer ({ frames := 8, cells := 0, slots := 0, locals := 181 } : Room)).room s m ([.ref (ad 81)] : List Value).toArray below meth c H locs 0 0 (MQ below (gQi D cy ad tL z0 v1 u r0) ([.ref (ad 81)] : List Value).toArray s 0 0 (gA z0)) (F0 m 70 ls []) := by
    intro k
    induction k with
    | zero =>
      intro v w2 w3 w4 w5 H locs ls hP hS hl hs
      exact g_none hs
    | succ k ih =>
      have hJ_128 : ∀ (v : gV) (w2 : Int32) (w3 : Int32) (w4 : Int32) (w5 : Int32) (t0 : Int32) (H : Heap) (locs : List Loc) (ls : Array Slot), va_P D vwCl (gW cy ad v u) H → va_S (gA z0) s.heap H locs → lv_has ls 7 [(0, .ref (ad 81)), (2, .int w2), (3, .int w3), (4, .int w4), (5, .int w5)] → sX6_answer_128 n (sX6_answer_70 n k) v w2 w3 w4 w5 t0 = some (r0, v1) → W p l e (headSpec wsX6_answer ({ frames := 8, cells := 0, slots := 0, locals := 181 } : Room)).room s m ([.ref (ad 81)] : List Value).toArray below meth c H locs 0 0 (MQ below (gQi D cy ad tL z0 v1 u r0) ([.ref (ad 81)] : List Value).toArray s 0 0 (gA z0)) (F0 m 128 ls [.int t0]) := by
        intro v w2 w3 w4 w5 t0 H locs ls hP hS hl hs
        unfold sX6_answer_128 at hs
        refine lv_istore (lv' := [(6, .int t0), (0, .ref (ad 81)), (2, .int w2), (3, .int w3), (4, .int w4), (5, .int w5)]) hx hb dX6_answer_128 hl (by decide) rfl (fun ls hl => ?_)
        refine lv_iload hx hb dX6_answer_130 (lv_at hl 4 rfl) ?_
        refine lv_iload hx hb dX6_answer_132 (lv_at hl 0 rfl) ?_
        refine lv_if_eq (tgt := 144) hx hb dX6_answer_134 (by decide) (fun hc => ?_) (fun hc => ?_)
        · have hs := g_t hs hc
          refine lv_iconst (v := 0) hx hb dX6_answer_144 (by decide) ?_
          refine lv_ior hx hb dX6_answer_145 ?_
          refine lv_istore (lv' := [(4, .int (w4 ||| 0)), (6, .int t0), (0, .ref (ad 81)), (2, .int w2), (3, .int w3), (5, .int w5)]) hx hb dX6_answer_146 hl (by decide) rfl (fun ls hl => ?_)
          refine lv_iinc (v := w5 + 1) (lv' := [(5, .int (w5 + 1)), (4, .int (w4 ||| 0)), (6, .int t0), (0, .ref (ad 81)), (2, .int w2), (3, .int w3)]) hx hb dX6_answer_148 hl (k := 5) rfl rfl (by decide) rfl (fun ls hl => ?_)
          refine lv_goto (tgt := 70) hx hb dX6_answer_151 (by decide) ?_
          exact ih v w2 w3 (w4 ||| 0) (w5 + 1) _ _ _ hP hS (lv_sub hl [3, 4, 5, 1, 0] rfl) hs
        · have hs := g_f hs hc
          refine lv_iconst (v := 1) hx hb dX6_answer_137 (by decide) ?_
          refine lv_iload hx hb dX6_answer_138 (lv_at hl 5 rfl) ?_
          refine lv_ishl hx hb dX6_answer_140 ?_
          refine lv_goto (tgt := 145) hx hb dX6_answer_141 (by decide) ?_
          refine lv_ior hx hb dX6_answer_145 ?_
          refine lv_istore (lv' := [(4, .int (w4 ||| ((1 : Int32) <<< (w5 &&& 31)))), (6, .int t0), (0, .ref (ad 81)), (2, .int w2), (3, .int w3), (5, .int w5)]) hx hb dX6_answer_146 hl (by decide) rfl (fun ls hl => ?_)
          refine lv_iinc (v := w5 + 1) (lv' := [(5, .int (w5 + 1)), (4, .int (w4 ||| ((1 : Int32) <<< (w5 &&& 31)))), (6, .int t0), (0, .ref (ad 81)), (2, .int w2), (3, .int w3)]) hx hb dX6_answer_148 hl (k := 5) rfl rfl (by decide) rfl (fun ls hl => ?_)
          refine lv_goto (tgt := 70) hx hb dX6_answer_151 (by decide) ?_
          exact ih v w2 w3 (w4 ||| ((1 : Int32) <<< (w5 &&& 31))) (w5 + 1) _ _ _ hP hS (lv_sub hl [3, 4, 5, 1, 0] rfl) hs
      intro v w2 w3 w4 w5 H locs ls hP hS hl hs
      rw [sX6_answer_70] at hs
      refine lv_iload hx hb dX6_answer_70 (lv_at hl 4 rfl) ?_
      refine lv_aload_n hx hb dX6_answer_72 rfl (lv_at hl 0 rfl) ?_
      refine va_get (D := D) (ci := 6) (v := .ref (ad 84)) (C := RX6) (T := TX6) (N := 17) hx hb hts iX6 hown hK.1 hP 81 (gW_6 kd81) rfl 2 (by decide) f16 (fun _ h9 => h9) rfl dX6_answer_73 ?_
      refine lv_iconst (v := 0) hx hb dX6_answer_76 (by decide) ?_
      refine va_iald (i := 0) hx hb hK.1 hP 84 0 (gW_16 kd84) rfl (by unfold vp_in; decide) dX6_answer_77 ?_
      refine lv_icmp_ge (tgt := 154) hx hb dX6_answer_78 (by decide) (fun hc => ?_) (fun hc => ?_)
      · have hs := g_t hs hc
        refine lv_iload hx hb dX6_answer_154 (lv_at hl 3 rfl) ?_
        refine g_bind hs (fun q_1 hq_1 hs => ?_)
        refine gCS_i (As := [.int w4]) (rest := []) ⟨hx, hb, hml, hown, hts⟩ (cX6_size_c l D cy ad tL z0 hI n v u w4 q_1 hq_1) (va_cwS 1 hts gX6_answer_X6_size rfl rfl rfl (by decide +kernel) ⟨Nat.le_of_ble_eq_true rfl, Nat.le_of_ble_eq_true rfl⟩) hK hP hS hl.1 rfl rfl (Nat.le_of_ble_eq_true rfl) dX6_answer_156 ⟨Nat.zero_le _, Nat.zero_le _⟩ (fun H locs hP hS => ?_)
        refine lv_iconst (v := 1) hx hb dX6_answer_159 (by decide) ?_
        refine lv_icmp_eq (tgt := 166) hx hb dX6_answer_160 (by decide) (fun hc => ?_) (fun hc => ?_)
        · have hs := g_t hs hc
          refine lv_aload_n hx hb dX6_answer_166 rfl (lv_at hl 0 rfl) ?_
          refine va_get (D := D) (ci := 6) (v := .ref (ad 84)) (C := RX6) (T := TX6) (N := 17) hx hb hts iX6 hown hK.1 hP 81 (gW_6 kd81) rfl 2 (by decide) f16 (fun _ h9 => h9) rfl dX6_answer_167 ?_
          refine lv_bipush (v := 90) hx hb dX6_answer_170 (by decide) ?_
          refine lv_aload_n hx hb dX6_answer_172 rfl (lv_at hl 0 rfl) ?_
          refine va_get (D := D) (ci := 6) (v := .ref (ad 84)) (C := RX6) (T := TX6) (N := 17) hx hb hts iX6 hown hK.1 hP 81 (gW_6 kd81) rfl 2 (by decide) f16 (fun _ h9 => h9) rfl dX6_answer_173 ?_
          refine lv_bipush (v := 56) hx hb dX6_answer_176 (by decide) ?_
          refine va_iald (i := 56) hx hb hK.1 hP 84 0 (gW_16 kd84) rfl (by unfold vp_in; decide) dX6_answer_178 ?_
          refine lv_iadd hx hb dX6_answer_179 ?_
          refine lv_iload hx hb dX6_answer_180 (lv_at hl 3 rfl) ?_
          refine g_bind hs (fun q_2 hq_2 hs => ?_)
          refine gCS_i (As := [.int w4]) (rest := [.int (90 + (v 84 56)), .ref (ad 84)]) ⟨hx, hb, hml, hown, hts⟩ (cX6_lowest_c l D cy ad tL z0 hI n v u w4 q_2 hq_2) (va_cwS 1 hts gX6_answer_X6_lowest rfl rfl rfl (by decide +kernel) ⟨Nat.le_of_ble_eq_true rfl, Nat.le_of_ble_eq_true rfl⟩) hK hP hS hl.1 rfl rfl (Nat.le_of_ble_eq_true rfl) dX6_answer_182 ⟨Nat.zero_le _, Nat.zero_le _⟩ (fun H locs hP hS => ?_)
          refine lv_iconst (v := 1) hx hb dX6_answer_185 (by decide) ?_
          refine lv_iadd hx hb dX6_answer_186 ?_
          refine g_chk hs (fun hc hs => ?_)
          refine va_iast hx hb hK.1 hP (gD hI) hS 84 0 (gW_16 kd84) rfl hc dX6_answer_187 (fun H locs hP _ hS => ?_)
          refine g_let hs (fun v_3 ev_3 hs => ?_)
          have hP : va_P D vwCl (gW cy ad v_3 u) H := gPset ((gS_16 kd84 (90 + (v 84 56)).toNatClampNeg (q_2 + 1)).trans (congrArg (fun z => gW cy ad z u) ev_3.symm)) hP
          refine lv_aload_n hx hb dX6_answer_188 rfl (lv_at hl 0 rfl) ?_
          refine va_get (D := D) (ci := 6) (v := .ref (ad 84)) (C := RX6) (T := TX6) (N := 17) hx hb hts iX6 hown hK.1 hP 81 (gW_6 kd81) rfl 2 (by decide) f16 (fun _ h9 => h9) rfl dX6_answer_189 ?_
          refine lv_bipush (v := 57) hx hb dX6_answer_192 (by decide) ?_
          refine lv_iconst (v := 0) hx hb dX6_answer_194 (by decide) ?_
          refine va_iast (i := 57) hx hb hK.1 hP (gD hI) hS 84 0 (gW_16 kd84) rfl (by unfold vp_in; decide) dX6_answer_195 (fun H locs hP _ hS => ?_)
          refine g_let hs (fun v_4 ev_4 hs => ?_)
          have hP : va_P D vwCl (gW cy ad v_4 u) H := gPset ((gS_16 kd84 57 0).trans (congrArg (fun z => gW cy ad z u) ev_4.symm)) hP
          refine lv_aload_n hx hb dX6_answer_196 rfl (lv_at hl 0 rfl) ?_
          refine va_get (D := D) (ci := 6) (v := .ref (ad 84)) (C := RX6) (T := TX6) (N := 17) hx hb hts iX6 hown hK.1 hP 81 (gW_6 kd81) rfl 2 (by decide) f16 (fun _ h9 => h9) rfl dX6_answer_197 ?_
          refine lv_bipush (v := 55) hx hb dX6_answer_200 (by decide) ?_
          refine lv_iconst (v := 0) hx hb dX6_answer_202 (by decide) ?_
          refine va_iast (i := 55) hx hb hK.1 hP (gD hI) hS 84 0 (gW_16 kd84) rfl (by unfold vp_in; decide) dX6_answer_203 (fun H locs hP _ hS => ?_)
          refine g_let hs (fun v_5 ev_5 hs => ?_)
          have hP : va_P D vwCl (gW cy ad v_5 u) H := gPset ((gS_16 kd84 55 0).trans (congrArg (fun z => gW cy ad z u) ev_5.symm)) hP
          refine lv_aload_n hx hb dX6_answer_204 rfl (lv_at hl 0 rfl) ?_
          refine g_bind hs (fun q_6 hq_6 hs => ?_)
          refine gCV_i (As := []) (rest := []) ⟨hx, hb, hml, hown, hts⟩ (cX6_run_c l D cy ad tL z0 hI n v_5 u q_6.1 q_6.2 hq_6) (cwV 0 hts gX6_answer_X6_run rfl rfl rfl (by decide +kernel) ⟨Nat.le_of_ble_eq_true rfl, Nat.le_of_ble_eq_true rfl⟩) hK hP hS (va_recv hK.1 hP (ci := 6) (q0 := 81) rfl (gW_6 kd81)) hl.1 rfl rfl (Nat.le_of_ble_eq_true rfl) dX6_answer_205 ⟨Nat.zero_le _, Nat.zero_le _⟩ (fun H locs hP hS => ?_)
          exact gRet_i hx hb hr hlocks hK hP hS (g_some2 hs) dX6_answer_208
        · have hs := g_f hs hc
          refine lv_bipush (v := (-5)) hx hb dX6_answer_163 (by decide) ?_
          exact gRet_i hx hb hr hlocks hK hP hS (g_some2 hs) dX6_answer_165
      · have hs := g_f hs hc
        refine lv_aload_n hx hb dX6_answer_81 rfl (lv_at hl 0 rfl) ?_
        refine va_get (D := D) (ci := 6) (v := .ref (ad 84)) (C := RX6) (T := TX6) (N := 17) hx hb hts iX6 hown hK.1 hP 81 (gW_6 kd81) rfl 2 (by decide) f16 (fun _ h9 => h9) rfl dX6_answer_82 ?_
        refine lv_bipush (v := 57) hx hb dX6_answer_85 (by decide) ?_
        refine va_iald (i := 57) hx hb hK.1 hP 84 0 (gW_16 kd84) rfl (by unfold vp_in; decide) dX6_answer_87 ?_
        refine lv_iload hx hb dX6_answer_88 (lv_at hl 4 rfl) ?_
        refine lv_ishr hx hb dX6_answer_90 ?_
        refine lv_iconst (v := 1) hx hb dX6_answer_91 (by decide) ?_
        refine lv_iand hx hb dX6_answer_92 ?_
        refine lv_iconst (v := 1) hx hb dX6_answer_93 (by decide) ?_
        refine lv_icmp_ne (tgt := 127) hx hb dX6_answer_94 (by decide) (fun hc => ?_) (fun hc => ?_)
        · have hs := g_f hs hc
          refine lv_iconst (v := 0) hx hb dX6_answer_127 (by decide) ?_
          exact hJ_128 v w2 w3 w4 w5 0 _ _ _ hP hS (lv_sub hl [0, 1, 2, 3, 4] rfl) hs
        · have hs := g_t hs hc
          refine lv_aload_n hx hb dX6_answer_97 rfl (lv_at hl 0 rfl) ?_
          refine lv_iload hx hb dX6_answer_98 (lv_at hl 4 rfl) ?_
          refine lv_iconst (v := 1) hx hb dX6_answer_100 (by decide) ?_
          refine g_bind hs (fun q_7 hq_7 hs => ?_)
          refine gCV_i (As := [.int w5, .int 1]) (rest := []) ⟨hx, hb, hml, hown, hts⟩ (cX6_of_c l D cy ad tL z0 hI v u w5 1 q_7 hq_7) (cwV 2 hts gX6_answer_X6_of rfl rfl rfl (by decide +kernel) ⟨Nat.le_of_ble_eq_true rfl, Nat.le_of_ble_eq_true rfl⟩) hK hP hS (va_recv hK.1 hP (ci := 6) (q0 := 81) rfl (gW_6 kd81)) hl.1 rfl rfl (Nat.le_of_ble_eq_true rfl) dX6_answer_101 ⟨Nat.zero_le _, Nat.zero_le _⟩ (fun H locs hP hS => ?_)
          refine lv_iload_n hx hb dX6_answer_104 rfl (lv_at hl 1 rfl) ?_
          refine lv_icmp_ne (tgt := 127) hx hb dX6_answer_105 (by decide) (fun hc => ?_) (fun hc => ?_)
          · have hs := g_f hs hc
            refine lv_iconst (v := 0) hx hb dX6_answer_127 (by decide) ?_
            exact hJ_128 v w2 w3 w4 w5 0 _ _ _ hP hS (lv_sub hl [0, 1, 2, 3, 4] rfl) hs
          · have hs := g_t hs hc
            refine lv_iload_n hx hb dX6_answer_108 rfl (lv_at hl 2 rfl) ?_
            refine lv_if_lt (tgt := 123) hx hb dX6_answer_109 (by decide) (fun hc => ?_) (fun hc => ?_)
            · have hs := g_t hs hc
              refine lv_iconst (v := 1) hx hb dX6_answer_123 (by decide) ?_
              refine lv_goto (tgt := 128) hx hb dX6_answer_124 (by decide) ?_
              exact hJ_128 v w2 w3 w4 w5 1 _ _ _ hP hS (lv_sub hl [0, 1, 2, 3, 4] rfl) hs
            · have hs := g_f hs hc
              refine lv_aload_n hx hb dX6_answer_112 rfl (lv_at hl 0 rfl) ?_
              refine lv_iload hx hb dX6_answer_113 (lv_at hl 4 rfl) ?_
              refine lv_iconst (v := 0) hx hb dX6_answer_115 (by decide) ?_
              refine g_bind hs (fun q_8 hq_8 hs => ?_)
              refine gCV_i (As := [.int w5, .int 0]) (rest := []) ⟨hx, hb, hml, hown, hts⟩ (cX6_of_c l D cy ad tL z0 hI v u w5 0 q_8 hq_8) (cwV 2 hts gX6_answer_X6_of rfl rfl rfl (by decide +kernel) ⟨Nat.le_of_ble_eq_true rfl, Nat.le_of_ble_eq_true rfl⟩) hK hP hS (va_recv hK.1 hP (ci := 6) (q0 := 81) rfl (gW_6 kd81)) hl.1 rfl rfl (Nat.le_of_ble_eq_true rfl) dX6_answer_116 ⟨Nat.zero_le _, Nat.zero_le _⟩ (fun H locs hP hS => ?_)
              refine lv_iload_n hx hb dX6_answer_119 rfl (lv_at hl 2 rfl) ?_
              refine lv_icmp_ne (tgt := 127) hx hb dX6_answer_120 (by decide) (fun hc => ?_) (fun hc => ?_)
              · have hs := g_f hs hc
                refine lv_iconst (v := 0) hx hb dX6_answer_127 (by decide) ?_
                exact hJ_128 v w2 w3 w4 w5 0 _ _ _ hP hS (lv_sub hl [0, 1, 2, 3, 4] rfl) hs
              · have hs := g_t hs hc
                refine lv_iconst (v := 1) hx hb dX6_answer_123 (by decide) ?_
                refine lv_goto (tgt := 128) hx hb dX6_answer_124 (by decide) ?_
                exact hJ_128 v w2 w3 w4 w5 1 _ _ _ hP hS (lv_sub hl [0, 1, 2, 3, 4] rfl) hs
  have hJ_16 : ∀ (v : gV) (t0 : Int32) (H : Heap) (locs : List Loc) (ls : Array Slot), va_P D vwCl (gW cy ad v u) H → va_S (gA z0) s.heap H locs → lv_has ls 7 [(0, .ref (ad 81))] → sX6_answer_16 n v t0 = some (r0, v1) → W p l e (headSpec wsX6_answer ({ frames := 8, cells := 0, slots := 0, locals := 181 } : Room)).room s m ([.ref (ad 81)] : List Value).toArray below meth c H locs 0 0 (MQ below (gQi D cy ad tL z0 v1 u r0) ([.ref (ad 81)] : List Value).toArray s 0 0 (gA z0)) (F0 m 16 ls [.int t0]) := by
    intro v t0 H locs ls hP hS hl hs
    unfold sX6_answer_16 at hs
    refine lv_istore_n (lv' := [(1, .int t0), (0, .ref (ad 81))]) hx hb dX6_answer_16 rfl hl (by decide) rfl (fun ls hl => ?_)
    refine lv_aload_n hx hb dX6_answer_17 rfl (lv_at hl 1 rfl) ?_
    refine va_get (D := D) (ci := 6) (v := .ref (ad 88)) (C := RX6) (T := TX6) (N := 17) hx hb hts iX6 hown hK.1 hP 81 (gW_6 kd81) rfl 9 (by decide) f28 (fun _ h9 => h9) rfl dX6_answer_18 ?_
    refine lv_iload_n hx hb dX6_answer_21 rfl (lv_at hl 0 rfl) ?_
    refine g_chk hs (fun hc hs => ?_)
    refine va_iald hx hb hK.1 hP 88 0 (gW_19 kd88) rfl hc dX6_answer_22 ?_
    refine lv_bipush (v := 6) hx hb dX6_answer_23 (by decide) ?_
    refine lv_isub hx hb dX6_answer_25 ?_
    refine lv_istore_n (lv' := [(2, .int ((v 88 t0.toNatClampNeg) - 6)), (1, .int t0), (0, .ref (ad 81))]) hx hb dX6_answer_26 rfl hl (by decide) rfl (fun ls hl => ?_)
    refine lv_iload_n hx hb dX6_answer_27 rfl (lv_at hl 1 rfl) ?_
    refine lv_iconst (v := 1) hx hb dX6_answer_28 (by decide) ?_
    refine lv_iadd hx hb dX6_answer_29 ?_
    refine lv_aload_n hx hb dX6_answer_30 rfl (lv_at hl 2 rfl) ?_
    refine va_get (D := D) (ci := 6) (v := .int (v 81 10)) (C := RX6) (T := TX6) (N := 17) hx hb hts iX6 hown hK.1 hP 81 (gW_6 kd81) rfl 10 (by decide) f84 (fun _ h9 => h9) rfl dX6_answer_31 ?_
    refine lv_icmp_ge (tgt := 62) hx hb dX6_answer_34 (by decide) (fun hc => ?_) (fun hc => ?_)
    · have hs := g_t hs hc
      refine lv_iconst (v := (-1)) hx hb dX6_answer_62 (by decide) ?_
      refine lv_istore_n (lv' := [(3, .int ((-1))), (2, .int ((v 88 t0.toNatClampNeg) - 6)), (1, .int t0), (0, .ref (ad 81))]) hx hb dX6_answer_63 rfl hl (by decide) rfl (fun ls hl => ?_)
      refine lv_iconst (v := 0) hx hb dX6_answer_64 (by decide) ?_
      refine lv_istore (lv' := [(4, .int 0), (3, .int ((-1))), (2, .int ((v 88 t0.toNatClampNeg) - 6)), (1, .int t0), (0, .ref (ad 81))]) hx hb dX6_answer_65 hl (by decide) rfl (fun ls hl => ?_)
      refine lv_iconst (v := 0) hx hb dX6_answer_67 (by decide) ?_
      refine lv_istore (lv' := [(5, .int 0), (4, .int 0), (3, .int ((-1))), (2, .int ((v 88 t0.toNatClampNeg) - 6)), (1, .int t0), (0, .ref (ad 81))]) hx hb dX6_answer_68 hl (by decide) rfl (fun ls hl => ?_)
      exact hL_70 n v ((v 88 t0.toNatClampNeg) - 6) ((-1)) 0 0 _ _ _ hP hS (lv_sub hl [5, 3, 2, 1, 0] rfl) hs
    · have hs := g_f hs hc
      refine lv_aload_n hx hb dX6_answer_37 rfl (lv_at hl 2 rfl) ?_
      refine va_get (D := D) (ci := 6) (v := .ref (ad 88)) (C := RX6) (T := TX6) (N := 17) hx hb hts iX6 hown hK.1 hP 81 (gW_6 kd81) rfl 9 (by decide) f28 (fun _ h9 => h9) rfl dX6_answer_38 ?_
      refine lv_iload_n hx hb dX6_answer_41 rfl (lv_at hl 1 rfl) ?_
      refine lv_iconst (v := 1) hx hb dX6_answer_42 (by decide) ?_
      refine lv_iadd hx hb dX6_answer_43 ?_
      refine g_chk hs (fun hc hs => ?_)
      refine va_iald hx hb hK.1 hP 88 0 (gW_19 kd88) rfl hc dX6_answer_44 ?_
      refine g_bind hs (fun q_9 hq_9 hs => ?_)
      refine gCS_i (As := [.int (v 88 (t0 + 1).toNatClampNeg)]) (rest := []) ⟨hx, hb, hml, hown, hts⟩ (cX6_isNoun_c l D cy ad tL z0 hI v u (v 88 (t0 + 1).toNatClampNeg) q_9 hq_9) (va_cwS 1 hts gX6_answer_X6_isNoun rfl rfl rfl (by decide +kernel) ⟨Nat.le_of_ble_eq_true rfl, Nat.le_of_ble_eq_true rfl⟩) hK hP hS hl.1 rfl rfl (Nat.le_of_ble_eq_true rfl) dX6_answer_45 ⟨Nat.zero_le _, Nat.zero_le _⟩ (fun H locs hP hS => ?_)
      refine lv_if_eq (tgt := 62) hx hb dX6_answer_48 (by decide) (fun hc => ?_) (fun hc => ?_)
      · have hs := g_t hs hc
        refine lv_iconst (v := (-1)) hx hb dX6_answer_62 (by decide) ?_
        refine lv_istore_n (lv' := [(3, .int ((-1))), (2, .int ((v 88 t0.toNatClampNeg) - 6)), (1, .int t0), (0, .ref (ad 81))]) hx hb dX6_answer_63 rfl hl (by decide) rfl (fun ls hl => ?_)
        refine lv_iconst (v := 0) hx hb dX6_answer_64 (by decide) ?_
        refine lv_istore (lv' := [(4, .int 0), (3, .int ((-1))), (2, .int ((v 88 t0.toNatClampNeg) - 6)), (1, .int t0), (0, .ref (ad 81))]) hx hb dX6_answer_65 hl (by decide) rfl (fun ls hl => ?_)
        refine lv_iconst (v := 0) hx hb dX6_answer_67 (by decide) ?_
        refine lv_istore (lv' := [(5, .int 0), (4, .int 0), (3, .int ((-1))), (2, .int ((v 88 t0.toNatClampNeg) - 6)), (1, .int t0), (0, .ref (ad 81))]) hx hb dX6_answer_68 hl (by decide) rfl (fun ls hl => ?_)
        exact hL_70 n v ((v 88 t0.toNatClampNeg) - 6) ((-1)) 0 0 _ _ _ hP hS (lv_sub hl [5, 3, 2, 1, 0] rfl) hs
      · have hs := g_f hs hc
        refine lv_aload_n hx hb dX6_answer_51 rfl (lv_at hl 2 rfl) ?_
        refine va_get (D := D) (ci := 6) (v := .ref (ad 88)) (C := RX6) (T := TX6) (N := 17) hx hb hts iX6 hown hK.1 hP 81 (gW_6 kd81) rfl 9 (by decide) f28 (fun _ h9 => h9) rfl dX6_answer_52 ?_
        refine lv_iload_n hx hb dX6_answer_55 rfl (lv_at hl 1 rfl) ?_
        refine lv_iconst (v := 1) hx hb dX6_answer_56 (by decide) ?_
        refine lv_iadd hx hb dX6_answer_57 ?_
        refine g_chk hs (fun hc hs => ?_)
        refine va_iald hx hb hK.1 hP 88 0 (gW_19 kd88) rfl hc dX6_answer_58 ?_
        refine lv_goto (tgt := 63) hx hb dX6_answer_59 (by decide) ?_
        refine lv_istore_n (lv' := [(3, .int (v 88 (t0 + 1).toNatClampNeg)), (2, .int ((v 88 t0.toNatClampNeg) - 6)), (1, .int t0), (0, .ref (ad 81))]) hx hb dX6_answer_63 rfl hl (by decide) rfl (fun ls hl => ?_)
        refine lv_iconst (v := 0) hx hb dX6_answer_64 (by decide) ?_
        refine lv_istore (lv' := [(4, .int 0), (3, .int (v 88 (t0 + 1).toNatClampNeg)), (2, .int ((v 88 t0.toNatClampNeg) - 6)), (1, .int t0), (0, .ref (ad 81))]) hx hb dX6_answer_65 hl (by decide) rfl (fun ls hl => ?_)
        refine lv_iconst (v := 0) hx hb dX6_answer_67 (by decide) ?_
        refine lv_istore (lv' := [(5, .int 0), (4, .int 0), (3, .int (v 88 (t0 + 1).toNatClampNeg)), (2, .int ((v 88 t0.toNatClampNeg) - 6)), (1, .int t0), (0, .ref (ad 81))]) hx hb dX6_answer_68 hl (by decide) rfl (fun ls hl => ?_)
        exact hL_70 n v ((v 88 t0.toNatClampNeg) - 6) (v 88 (t0 + 1).toNatClampNeg) 0 0 _ _ _ hP hS (lv_sub hl [5, 3, 2, 1, 0] rfl) hs
  unfold sX6_answer at hs
  refine lv_aload_n hx hb dX6_answer_0 rfl (lv_at hl 0 rfl) ?_
  refine va_get (D := D) (ci := 6) (v := .ref (ad 88)) (C := RX6) (T := TX6) (N := 17) hx hb hts iX6 hown hK.1 hP 81 (gW_6 kd81) rfl 9 (by decide) f28 (fun _ h9 => h9) rfl dX6_answer_1 ?_
  refine lv_iconst (v := 0) hx hb dX6_answer_4 (by decide) ?_
  refine va_iald (i := 0) hx hb hK.1 hP 88 0 (gW_19 kd88) rfl (by unfold vp_in; decide) dX6_answer_5 ?_
  refine lv_bipush (v := 21) hx hb dX6_answer_6 (by decide) ?_
  refine lv_icmp_ne (tgt := 15) hx hb dX6_answer_8 (by decide) (fun hc => ?_) (fun hc => ?_)
  · have hs := g_f hs hc
    refine lv_iconst (v := 0) hx hb dX6_answer_15 (by decide) ?_
    exact hJ_16 v 0 _ _ _ hP hS (lv_sub hl [0] rfl) hs
  · have hs := g_t hs hc
    refine lv_iconst (v := 1) hx hb dX6_answer_11 (by decide) ?_
    refine lv_goto (tgt := 16) hx hb dX6_answer_12 (by decide) ?_
    exact hJ_16 v 1 _ _ _ hP hS (lv_sub hl [0] rfl) hs
set_option maxHeartbeats 4000000 in
set_option maxRecDepth 100000 in
theorem cX6_entered_c (l : Launch) (D : va_G) (cy : Nat → ClassId) (ad : Nat → Nat) (tL z0 : Nat) (hI : gI z0 ad) (n : Nat) (v : gV) (u : Int64) (r0 : Int32) (v1 : gV) (hs : sX6_entered n v = some (r0, v1)) : Met l yX6_entered wsX6_entered ({ frames := 9, cells := 0, slots := 0, locals := 207 } : Room) (gPc D cy ad tL z0 v u [.ref (ad 81)]) (gQi D cy ad tL z0 v1 u r0) 0 0 (gA z0) := by
  refine Met.ofW (cc := cX6_entered) (maxL := 1) (ret := (some .int)) (by decide) rfl ?_
  intro p e s m args below meth c s₁ B hml hv
  obtain ⟨rfl, hB0⟩ := hv
  have hP : va_P D vwCl (gW cy ad v u) s.heap := hB0.1
  have hK : gK D cy tL z0 s s.heap := hB0.2
  have hx := B.exec
  have hb := B.bytes
  have hr := B.returns
  have hts := atoms_spec (ws := wsX6_entered) B.pre
  have hown : s.vm.findClass RX6 = some m.cls := findClass_of_methodNamed B.named
  have hlocks := B.notSynchronized
  have hS : va_S (gA z0) s.heap s.heap [] := va_S.rf
  have hl := lv_entry ([.ref (ad 81)]) (n := 1) (Nat.le_of_ble_eq_true rfl)
  rw [lg_entry_eq]
  generalize (lg_sl ([.ref (ad 81)]) ++ List.replicate (1 - (lg_sl ([.ref (ad 81)])).length) Slot.unset).toArray = ls at hl ⊢
  have hl : lv_has ls 1 [(0, .ref (ad 81))] := hl
  have iX6 := (show ∀ w ∈ u_ws RX6 TX6 17, w ∈ wsX6_entered by decide +kernel)
  have f28 := hts (.fieldLink RX6 28 "AdventureParserModel" "words" "[I") (by decide +kernel)
  clear hB0
  unfold sX6_entered at hs
  refine lv_aload_n hx hb dX6_entered_0 rfl (lv_at hl 0 rfl) ?_
  refine va_get (D := D) (ci := 6) (v := .ref (ad 88)) (C := RX6) (T := TX6) (N := 17) hx hb hts iX6 hown hK.1 hP 81 (gW_6 kd81) rfl 9 (by decide) f28 (fun _ h9 => h9) rfl dX6_entered_1 ?_
  refine lv_iconst (v := 0) hx hb dX6_entered_4 (by decide) ?_
  refine va_iald (i := 0) hx hb hK.1 hP 88 0 (gW_19 kd88) rfl (by unfold vp_in; decide) dX6_entered_5 ?_
  refine lv_bipush (v := 10) hx hb dX6_entered_6 (by decide) ?_
  refine lv_bipush (v := 16) hx hb dX6_entered_8 (by decide) ?_
  refine g_bind hs (fun q_1 hq_1 hs => ?_)
  refine gCS_i (As := [.int (v 88 0), .int 10, .int 16]) (rest := []) ⟨hx, hb, hml, hown, hts⟩ (cX6_in_c l D cy ad tL z0 hI v u (v 88 0) 10 16 q_1 hq_1) (va_cwS 3 hts gX6_entered_X6_in rfl rfl rfl (by decide +kernel) ⟨Nat.le_of_ble_eq_true rfl, Nat.le_of_ble_eq_true rfl⟩) hK hP hS hl.1 rfl rfl (Nat.le_of_ble_eq_true rfl) dX6_entered_10 ⟨Nat.zero_le _, Nat.zero_le _⟩ (fun H locs hP hS => ?_)
  refine lv_if_eq (tgt := 23) hx hb dX6_entered_13 (by decide) (fun hc => ?_) (fun hc => ?_)
  · have hs := g_t hs hc
    refine lv_aload_n hx hb dX6_entered_23 rfl (lv_at hl 0 rfl) ?_
    refine g_bind hs (fun q_2 hq_2 hs => ?_)
    refine gCV_i (As := []) (rest := []) ⟨hx, hb, hml, hown, hts⟩ (cX6_answer_c l D cy ad tL z0 hI n v u q_2.1 q_2.2 hq_2) (cwV 0 hts gX6_entered_X6_answer rfl rfl rfl (by decide +kernel) ⟨Nat.le_of_ble_eq_true rfl, Nat.le_of_ble_eq_true rfl⟩) hK hP hS (va_recv hK.1 hP (ci := 6) (q0 := 81) rfl (gW_6 kd81)) hl.1 rfl rfl (Nat.le_of_ble_eq_true rfl) dX6_entered_24 ⟨Nat.zero_le _, Nat.zero_le _⟩ (fun H locs hP hS => ?_)
    exact gRet_i hx hb hr hlocks hK hP hS (g_some2 hs) dX6_entered_27
  · have hs := g_f hs hc
    refine lv_aload_n hx hb dX6_entered_16 rfl (lv_at hl 0 rfl) ?_
    refine g_bind hs (fun q_3 hq_3 hs => ?_)
    refine gCV_i (As := []) (rest := []) ⟨hx, hb, hml, hown, hts⟩ (cX6_command_c l D cy ad tL z0 hI n v u q_3.1 q_3.2 hq_3) (cwV 0 hts gX6_entered_X6_command rfl rfl rfl (by decide +kernel) ⟨Nat.le_of_ble_eq_true rfl, Nat.le_of_ble_eq_true rfl⟩) hK hP hS (va_recv hK.1 hP (ci := 6) (q0 := 81) rfl (gW_6 kd81)) hl.1 rfl rfl (Nat.le_of_ble_eq_true rfl) dX6_entered_17 ⟨Nat.zero_le _, Nat.zero_le _⟩ (fun H locs hP hS => ?_)
    refine lv_goto (tgt := 27) hx hb dX6_entered_20 (by decide) ?_
    exact gRet_i hx hb hr hlocks hK hP hS (g_some2 hs) dX6_entered_27
set_option maxHeartbeats 4000000 in
set_option maxRecDepth 100000 in
theorem cX6_addObject_c (l : Launch) (D : va_G) (cy : Nat → ClassId) (ad : Nat → Nat) (tL z0 : Nat) (hI : gI z0 ad) (n : Nat) (v : gV) (u : Int64) (x1 : Int32) (x2 : Int32) (x3 : Int32) (r0 : Int32) (v1 : gV) (hs : sX6_addObject n v x1 x2 x3 = some (r0, v1)) : Met l yX6_addObject wsX6_addObject ({ frames := 2, cells := 0, slots := 0, locals := 46 } : Room) (gPc D cy ad tL z0 v u [.ref (ad 81), .int x1, .int x2, .int x3]) (gQi D cy ad tL z0 v1 u r0) 0 0 (gA z0) := by
  refine Met.ofW (cc := cX6_addObject) (maxL := 8) (ret := (some .int)) (by decide) rfl ?_
  intro p e s m args below meth c s₁ B hml hv
  obtain ⟨rfl, hB0⟩ := hv
  have hP : va_P D vwCl (gW cy ad v u) s.heap := hB0.1
  have hK : gK D cy tL z0 s s.heap := hB0.2
  have hx := B.exec
  have hb := B.bytes
  have hr := B.returns
  have hts := atoms_spec (ws := wsX6_addObject) B.pre
  have hown : s.vm.findClass RX6 = some m.cls := findClass_of_methodNamed B.named
  have hlocks := B.notSynchronized
  have hS : va_S (gA z0) s.heap s.heap [] := va_S.rf
  have hl := lv_entry ([.ref (ad 81), .int x1, .int x2, .int x3]) (n := 8) (Nat.le_of_ble_eq_true rfl)
  rw [lg_entry_eq]
  generalize (lg_sl ([.ref (ad 81), .int x1, .int x2, .int x3]) ++ List.replicate (8 - (lg_sl ([.ref (ad 81), .int x1, .int x2, .int x3])).length) Slot.unset).toArray = ls at hl ⊢
  have hl : lv_has ls 8 [(0, .ref (ad 81)), (1, .int x1), (2, .int x2), (3, .int x3)] := hl
  have iX6 := (show ∀ w ∈ u_ws RX6 TX6 17, w ∈ wsX6_addObject by decide +kernel)
  have f31 := hts (.fieldLink RX6 31 "AdventureParserModel" "thrown" "I") (by decide +kernel)
  have f16 := hts (.fieldLink RX6 16 "AdventureParserModel" "s" "[I") (by decide +kernel)
  clear hB0
  have hJ_101 : ∀ (v : gV)  (H : Heap) (locs : List Loc) (ls : Array Slot), va_P D vwCl (gW cy ad v u) H → va_S (gA z0) s.heap H locs → lv_has ls 8 [(0, .ref (ad 81))] → sX6_addObject_101 n v = some (r0, v1) → W p l e (headSpec wsX6_addObject ({ frames := 2, cells := 0, slots := 0, locals := 46 } : Room)).room s m ([.ref (ad 81), .int x1, .int x2, .int x3] : List Value).toArray below meth c H locs 0 0 (MQ below (gQi D cy ad tL z0 v1 u r0) ([.ref (ad 81), .int x1, .int x2, .int x3] : List Value).toArray s 0 0 (gA z0)) (F0 m 101 ls []) := by
    intro v H locs ls hP hS hl hs
    unfold sX6_addObject_101 at hs
    refine lv_aload_n hx hb dX6_addObject_101 rfl (lv_at hl 0 rfl) ?_
    refine lv_iconst (v := 1) hx hb dX6_addObject_102 (by decide) ?_
    refine g_bind hs (fun q_5 hq_5 hs => ?_)
    refine gCV_i (As := [.int 1]) (rest := []) ⟨hx, hb, hml, hown, hts⟩ (cX6_throwing_c l D cy ad tL z0 hI v u 1 q_5.1 q_5.2 hq_5) (cwV 1 hts gX6_addObject_X6_throwing rfl rfl rfl (by decide +kernel) ⟨Nat.le_of_ble_eq_true rfl, Nat.le_of_ble_eq_true rfl⟩) hK hP hS (va_recv hK.1 hP (ci := 6) (q0 := 81) rfl (gW_6 kd81)) hl.1 rfl rfl (Nat.le_of_ble_eq_true rfl) dX6_addObject_103 ⟨Nat.zero_le _, Nat.zero_le _⟩ (fun H locs hP hS => ?_)
    exact gRet_i hx hb hr hlocks hK hP hS (g_some2 hs) dX6_addObject_106
  have hJ_156 : ∀ (v : gV)  (H : Heap) (locs : List Loc) (ls : Array Slot), va_P D vwCl (gW cy ad v u) H → va_S (gA z0) s.heap H locs → lv_has ls 8 [(0, .ref (ad 81))] → sX6_addObject_156 n v = some (r0, v1) → W p l e (headSpec wsX6_addObject ({ frames := 2, cells := 0, slots := 0, locals := 46 } : Room)).room s m ([.ref (ad 81), .int x1, .int x2, .int x3] : List Value).toArray below meth c H locs 0 0 (MQ below (gQi D cy ad tL z0 v1 u r0) ([.ref (ad 81), .int x1, .int x2, .int x3] : List Value).toArray s 0 0 (gA z0)) (F0 m 156 ls []) := by
    intro v H locs ls hP hS hl hs
    unfold sX6_addObject_156 at hs
    refine lv_aload_n hx hb dX6_addObject_156 rfl (lv_at hl 0 rfl) ?_
    refine lv_iconst (v := 2) hx hb dX6_addObject_157 (by decide) ?_
    refine g_bind hs (fun q_7 hq_7 hs => ?_)
    refine gCV_i (As := [.int 2]) (rest := []) ⟨hx, hb, hml, hown, hts⟩ (cX6_throwing_c l D cy ad tL z0 hI v u 2 q_7.1 q_7.2 hq_7) (cwV 1 hts gX6_addObject_X6_throwing rfl rfl rfl (by decide +kernel) ⟨Nat.le_of_ble_eq_true rfl, Nat.le_of_ble_eq_true rfl⟩) hK hP hS (va_recv hK.1 hP (ci := 6) (q0 := 81) rfl (gW_6 kd81)) hl.1 rfl rfl (Nat.le_of_ble_eq_true rfl) dX6_addObject_158 ⟨Nat.zero_le _, Nat.zero_le _⟩ (fun H locs hP hS => ?_)
    exact gRet_i hx hb hr hlocks hK hP hS (g_some2 hs) dX6_addObject_161
  have hJ_162 : ∀ (v : gV) (w1 : Int32) (w2 : Int32) (w3 : Int32) (H : Heap) (locs : List Loc) (ls : Array Slot), va_P D vwCl (gW cy ad v u) H → va_S (gA z0) s.heap H locs → lv_has ls 8 [(0, .ref (ad 81)), (1, .int w1), (2, .int w2), (3, .int w3)] → sX6_addObject_162 n v w1 w2 w3 = some (r0, v1) → W p l e (headSpec wsX6_addObject ({ frames := 2, cells := 0, slots := 0, locals := 46 } : Room)).room s m ([.ref (ad 81), .int x1, .int x2, .int x3] : List Value).toArray below meth c H locs 0 0 (MQ below (gQi D cy ad tL z0 v1 u r0) ([.ref (ad 81), .int x1, .int x2, .int x3] : List Value).toArray s 0 0 (gA z0)) (F0 m 162 ls []) := by
    intro v w1 w2 w3 H locs ls hP hS hl hs
    unfold sX6_addObject_162 at hs
    refine lv_aload_n hx hb dX6_addObject_162 rfl (lv_at hl 0 rfl) ?_
    refine g_bind hs (fun q_9 hq_9 hs => ?_)
    refine gCV_v (As := []) (rest := []) ⟨hx, hb, hml, hown, hts⟩ (cX6_save_c l D cy ad tL z0 hI n v u q_9 hq_9) (cwV 0 hts gX6_addObject_X6_save rfl rfl rfl (by decide +kernel) ⟨Nat.le_of_ble_eq_true rfl, Nat.le_of_ble_eq_true rfl⟩) hK hP hS (va_recv hK.1 hP (ci := 6) (q0 := 81) rfl (gW_6 kd81)) hl.1 rfl rfl (Nat.le_of_ble_eq_true rfl) dX6_addObject_163 ⟨Nat.zero_le _, Nat.zero_le _⟩ (fun H locs hP hS => ?_)
    refine lv_aload_n hx hb dX6_addObject_166 rfl (lv_at hl 0 rfl) ?_
    refine g_bind hs (fun q_10 hq_10 hs => ?_)
    refine gCV_v (As := []) (rest := []) ⟨hx, hb, hml, hown, hts⟩ (cX6_closeQuestion_c l D cy ad tL z0 hI n q_9 u q_10 hq_10) (cwV 0 hts gX6_addObject_X6_closeQuestion rfl rfl rfl (by decide +kernel) ⟨Nat.le_of_ble_eq_true rfl, Nat.le_of_ble_eq_true rfl⟩) hK hP hS (va_recv hK.1 hP (ci := 6) (q0 := 81) rfl (gW_6 kd81)) hl.1 rfl rfl (Nat.le_of_ble_eq_true rfl) dX6_addObject_167 ⟨Nat.zero_le _, Nat.zero_le _⟩ (fun H locs hP hS => ?_)
    refine lv_iconst (v := 1) hx hb dX6_addObject_170 (by decide) ?_
    refine lv_iconst (v := 4) hx hb dX6_addObject_171 (by decide) ?_
    refine lv_aload_n hx hb dX6_addObject_172 rfl (lv_at hl 0 rfl) ?_
    refine va_get (D := D) (ci := 6) (v := .ref (ad 84)) (C := RX6) (T := TX6) (N := 17) hx hb hts iX6 hown hK.1 hP 81 (gW_6 kd81) rfl 2 (by decide) f16 (fun _ h9 => h9) rfl dX6_addObject_173 ?_
    refine lv_iconst (v := 0) hx hb dX6_addObject_176 (by decide) ?_
    refine va_iald (i := 0) hx hb hK.1 hP 84 0 (gW_16 kd84) rfl (by unfold vp_in; decide) dX6_addObject_177 ?_
    refine lv_imul hx hb dX6_addObject_178 ?_
    refine lv_iadd hx hb dX6_addObject_179 ?_
    refine lv_istore (lv' := [(7, .int (1 + (4 * (q_10 84 0)))), (0, .ref (ad 81)), (1, .int w1), (2, .int w2), (3, .int w3)]) hx hb dX6_addObject_180 hl (by decide) rfl (fun ls hl => ?_)
    refine lv_aload_n hx hb dX6_addObject_182 rfl (lv_at hl 1 rfl) ?_
    refine va_get (D := D) (ci := 6) (v := .ref (ad 84)) (C := RX6) (T := TX6) (N := 17) hx hb hts iX6 hown hK.1 hP 81 (gW_6 kd81) rfl 2 (by decide) f16 (fun _ h9 => h9) rfl dX6_addObject_183 ?_
    refine lv_iload hx hb dX6_addObject_186 (lv_at hl 0 rfl) ?_
    refine lv_iconst (v := 0) hx hb dX6_addObject_188 (by decide) ?_
    refine lv_iadd hx hb dX6_addObject_189 ?_
    refine lv_iload_n hx hb dX6_addObject_190 rfl (lv_at hl 2 rfl) ?_
    refine g_chk hs (fun hc hs => ?_)
    refine va_iast hx hb hK.1 hP (gD hI) hS 84 0 (gW_16 kd84) rfl hc dX6_addObject_191 (fun H locs hP _ hS => ?_)
    refine g_let hs (fun v_11 ev_11 hs => ?_)
    have hP : va_P D vwCl (gW cy ad v_11 u) H := gPset ((gS_16 kd84 ((1 + (4 * (q_10 84 0))) + 0).toNatClampNeg w1).trans (congrArg (fun z => gW cy ad z u) ev_11.symm)) hP
    refine lv_aload_n hx hb dX6_addObject_192 rfl (lv_at hl 1 rfl) ?_
    refine va_get (D := D) (ci := 6) (v := .ref (ad 84)) (C := RX6) (T := TX6) (N := 17) hx hb hts iX6 hown hK.1 hP 81 (gW_6 kd81) rfl 2 (by decide) f16 (fun _ h9 => h9) rfl dX6_addObject_193 ?_
    refine lv_iload hx hb dX6_addObject_196 (lv_at hl 0 rfl) ?_
    refine lv_iconst (v := 1) hx hb dX6_addObject_198 (by decide) ?_
    refine lv_iadd hx hb dX6_addObject_199 ?_
    refine lv_iload_n hx hb dX6_addObject_200 rfl (lv_at hl 3 rfl) ?_
    refine g_chk hs (fun hc hs => ?_)
    refine va_iast hx hb hK.1 hP (gD hI) hS 84 0 (gW_16 kd84) rfl hc dX6_addObject_201 (fun H locs hP _ hS => ?_)
    refine g_let hs (fun v_12 ev_12 hs => ?_)
    have hP : va_P D vwCl (gW cy ad v_12 u) H := gPset ((gS_16 kd84 ((1 + (4 * (q_10 84 0))) + 1).toNatClampNeg w2).trans (congrArg (fun z => gW cy ad z u) ev_12.symm)) hP
    refine lv_aload_n hx hb dX6_addObject_202 rfl (lv_at hl 1 rfl) ?_
    refine va_get (D := D) (ci := 6) (v := .ref (ad 84)) (C := RX6) (T := TX6) (N := 17) hx hb hts iX6 hown hK.1 hP 81 (gW_6 kd81) rfl 2 (by decide) f16 (fun _ h9 => h9) rfl dX6_addObject_203 ?_
    refine lv_iload hx hb dX6_addObject_206 (lv_at hl 0 rfl) ?_
    refine lv_iconst (v := 2) hx hb dX6_addObject_208 (by decide) ?_
    refine lv_iadd hx hb dX6_addObject_209 ?_
    refine lv_iload_n hx hb dX6_addObject_210 rfl (lv_at hl 4 rfl) ?_
    refine g_chk hs (fun hc hs => ?_)
    refine va_iast hx hb hK.1 hP (gD hI) hS 84 0 (gW_16 kd84) rfl hc dX6_addObject_211 (fun H locs hP _ hS => ?_)
    refine g_let hs (fun v_13 ev_13 hs => ?_)
    have hP : va_P D vwCl (gW cy ad v_13 u) H := gPset ((gS_16 kd84 ((1 + (4 * (q_10 84 0))) + 2).toNatClampNeg w3).trans (congrArg (fun z => gW cy ad z u) ev_13.symm)) hP
    refine lv_aload_n hx hb dX6_addObject_212 rfl (lv_at hl 1 rfl) ?_
    refine va_get (D := D) (ci := 6) (v := .ref (ad 84)) (C := RX6) (T := TX6) (N := 17) hx hb hts iX6 hown hK.1 hP 81 (gW_6 kd81) rfl 2 (by decide) f16 (fun _ h9 => h9) rfl dX6_addObject_213 ?_
    refine lv_iload hx hb dX6_addObject_216 (lv_at hl 0 rfl) ?_
    refine lv_iconst (v := 3) hx hb dX6_addObject_218 (by decide) ?_
    refine lv_iadd hx hb dX6_addObject_219 ?_
    refine lv_iconst (v := 0) hx hb dX6_addObject_220 (by decide) ?_
    refine g_chk hs (fun hc hs => ?_)
    refine va_iast hx hb hK.1 hP (gD hI) hS 84 0 (gW_16 kd84) rfl hc dX6_addObject_221 (fun H locs hP _ hS => ?_)
    refine g_let hs (fun v_14 ev_14 hs => ?_)
    have hP : va_P D vwCl (gW cy ad v_14 u) H := gPset ((gS_16 kd84 ((1 + (4 * (q_10 84 0))) + 3).toNatClampNeg 0).trans (congrArg (fun z => gW cy ad z u) ev_14.symm)) hP
    refine lv_aload_n hx hb dX6_addObject_222 rfl (lv_at hl 1 rfl) ?_
    refine va_get (D := D) (ci := 6) (v := .ref (ad 84)) (C := RX6) (T := TX6) (N := 17) hx hb hts iX6 hown hK.1 hP 81 (gW_6 kd81) rfl 2 (by decide) f16 (fun _ h9 => h9) rfl dX6_addObject_223 ?_
    refine lv_iconst (v := 0) hx hb dX6_addObject_226 (by decide) ?_
    refine lv_dup2_11 hx hb dX6_addObject_227 rfl rfl ?_
    refine va_iald (i := 0) hx hb hK.1 hP 84 0 (gW_16 kd84) rfl (by unfold vp_in; decide) dX6_addObject_228 ?_
    refine lv_iconst (v := 1) hx hb dX6_addObject_229 (by decide) ?_
    refine lv_iadd hx hb dX6_addObject_230 ?_
    refine va_iast (i := 0) hx hb hK.1 hP (gD hI) hS 84 0 (gW_16 kd84) rfl (by unfold vp_in; decide) dX6_addObject_231 (fun H locs hP _ hS => ?_)
    refine g_let hs (fun v_15 ev_15 hs => ?_)
    have hP : va_P D vwCl (gW cy ad v_15 u) H := gPset ((gS_16 kd84 0 ((v_14 84 0) + 1)).trans (congrArg (fun z => gW cy ad z u) ev_15.symm)) hP
    refine lv_aload_n hx hb dX6_addObject_232 rfl (lv_at hl 1 rfl) ?_
    refine va_get (D := D) (ci := 6) (v := .ref (ad 84)) (C := RX6) (T := TX6) (N := 17) hx hb hts iX6 hown hK.1 hP 81 (gW_6 kd81) rfl 2 (by decide) f16 (fun _ h9 => h9) rfl dX6_addObject_233 ?_
    refine lv_iconst (v := 0) hx hb dX6_addObject_236 (by decide) ?_
    refine va_iald (i := 0) hx hb hK.1 hP 84 0 (gW_16 kd84) rfl (by unfold vp_in; decide) dX6_addObject_237 ?_
    refine lv_iconst (v := 1) hx hb dX6_addObject_238 (by decide) ?_
    refine lv_isub hx hb dX6_addObject_239 ?_
    exact gRet_i hx hb hr hlocks hK hP hS (g_some2 hs) dX6_addObject_240
  have hJ_142 : ∀ (v : gV) (w1 : Int32) (w2 : Int32) (w3 : Int32) (w4 : Int32) (H : Heap) (locs : List Loc) (ls : Array Slot), va_P D vwCl (gW cy ad v u) H → va_S (gA z0) s.heap H locs → lv_has ls 8 [(0, .ref (ad 81)), (1, .int w1), (2, .int w2), (3, .int w3), (4, .int w4)] → sX6_addObject_142 n v w1 w2 w3 w4 = some (r0, v1) → W p l e (headSpec wsX6_addObject ({ frames := 2, cells := 0, slots := 0, locals := 46 } : Room)).room s m ([.ref (ad 81), .int x1, .int x2, .int x3] : List Value).toArray below meth c H locs 0 0 (MQ below (gQi D cy ad tL z0 v1 u r0) ([.ref (ad 81), .int x1, .int x2, .int x3] : List Value).toArray s 0 0 (gA z0)) (F0 m 142 ls []) := by
    intro v w1 w2 w3 w4 H locs ls hP hS hl hs
    unfold sX6_addObject_142 at hs
    refine lv_iload hx hb dX6_addObject_142 (lv_at hl 4 rfl) ?_
    refine lv_if_eq (tgt := 162) hx hb dX6_addObject_144 (by decide) (fun hc => ?_) (fun hc => ?_)
    · have hs := g_t hs hc
      exact hJ_162 v w1 w2 w3 _ _ _ hP hS (lv_sub hl [0, 1, 2, 3] rfl) hs
    · have hs := g_f hs hc
      refine lv_aload_n hx hb dX6_addObject_147 rfl (lv_at hl 0 rfl) ?_
      refine lv_iload_n hx hb dX6_addObject_148 rfl (lv_at hl 3 rfl) ?_
      refine g_bind hs (fun q_16 hq_16 hs => ?_)
      refine gCV_i (As := [.int w3]) (rest := []) ⟨hx, hb, hml, hown, hts⟩ (cX6_at_c l D cy ad tL z0 hI n v u w3 q_16 hq_16) (cwV 1 hts gX6_addObject_X6_at rfl rfl rfl (by decide +kernel) ⟨Nat.le_of_ble_eq_true rfl, Nat.le_of_ble_eq_true rfl⟩) hK hP hS (va_recv hK.1 hP (ci := 6) (q0 := 81) rfl (gW_6 kd81)) hl.1 rfl rfl (Nat.le_of_ble_eq_true rfl) dX6_addObject_149 ⟨Nat.zero_le _, Nat.zero_le _⟩ (fun H locs hP hS => ?_)
      refine lv_iconst (v := 4) hx hb dX6_addObject_152 (by decide) ?_
      refine lv_icmp_ne (tgt := 162) hx hb dX6_addObject_153 (by decide) (fun hc => ?_) (fun hc => ?_)
      · have hs := g_f hs hc
        exact hJ_162 v w1 w2 w3 _ _ _ hP hS (lv_sub hl [0, 1, 2, 3] rfl) hs
      · have hs := g_t hs hc
        exact hJ_156 v _ _ _ hP hS (lv_sub hl [0] rfl) hs
  have hJ_107 : ∀ (v : gV) (w1 : Int32) (w2 : Int32) (w3 : Int32) (w4 : Int32) (H : Heap) (locs : List Loc) (ls : Array Slot), va_P D vwCl (gW cy ad v u) H → va_S (gA z0) s.heap H locs → lv_has ls 8 [(0, .ref (ad 81)), (1, .int w1), (2, .int w2), (3, .int w3), (4, .int w4)] → sX6_addObject_107 n v w1 w2 w3 w4 = some (r0, v1) → W p l e (headSpec wsX6_addObject ({ frames := 2, cells := 0, slots := 0, locals := 46 } : Room)).room s m ([.ref (ad 81), .int x1, .int x2, .int x3] : List Value).toArray below meth c H locs 0 0 (MQ below (gQi D cy ad tL z0 v1 u r0) ([.ref (ad 81), .int x1, .int x2, .int x3] : List Value).toArray s 0 0 (gA z0)) (F0 m 107 ls []) := by
    intro v w1 w2 w3 w4 H locs ls hP hS hl hs
    unfold sX6_addObject_107 at hs
    refine lv_aload_n hx hb dX6_addObject_107 rfl (lv_at hl 0 rfl) ?_
    refine va_get (D := D) (ci := 6) (v := .ref (ad 84)) (C := RX6) (T := TX6) (N := 17) hx hb hts iX6 hown hK.1 hP 81 (gW_6 kd81) rfl 2 (by decide) f16 (fun _ h9 => h9) rfl dX6_addObject_108 ?_
    refine lv_iconst (v := 0) hx hb dX6_addObject_111 (by decide) ?_
    refine va_iald (i := 0) hx hb hK.1 hP 84 0 (gW_16 kd84) rfl (by unfold vp_in; decide) dX6_addObject_112 ?_
    refine lv_bipush (v := 12) hx hb dX6_addObject_113 (by decide) ?_
    refine lv_icmp_eq (tgt := 156) hx hb dX6_addObject_115 (by decide) (fun hc => ?_) (fun hc => ?_)
    · have hs := g_t hs hc
      exact hJ_156 v _ _ _ hP hS (lv_sub hl [0] rfl) hs
    · have hs := g_f hs hc
      refine lv_aload_n hx hb dX6_addObject_118 rfl (lv_at hl 0 rfl) ?_
      refine lv_iload_n hx hb dX6_addObject_119 rfl (lv_at hl 1 rfl) ?_
      refine lv_iload_n hx hb dX6_addObject_120 rfl (lv_at hl 2 rfl) ?_
      refine g_bind hs (fun q_8 hq_8 hs => ?_)
      refine gCV_i (As := [.int w1, .int w2]) (rest := []) ⟨hx, hb, hml, hown, hts⟩ (cX6_fittingOnes_c l D cy ad tL z0 hI n v u w1 w2 q_8 hq_8) (cwV 2 hts gX6_addObject_X6_fittingOnes rfl rfl rfl (by decide +kernel) ⟨Nat.le_of_ble_eq_true rfl, Nat.le_of_ble_eq_true rfl⟩) hK hP hS (va_recv hK.1 hP (ci := 6) (q0 := 81) rfl (gW_6 kd81)) hl.1 rfl rfl (Nat.le_of_ble_eq_true rfl) dX6_addObject_121 ⟨Nat.zero_le _, Nat.zero_le _⟩ (fun H locs hP hS => ?_)
      refine lv_if_ne (tgt := 156) hx hb dX6_addObject_124 (by decide) (fun hc => ?_) (fun hc => ?_)
      · have hs := g_f hs hc
        exact hJ_156 v _ _ _ hP hS (lv_sub hl [0] rfl) hs
      · have hs := g_t hs hc
        refine lv_iload_n hx hb dX6_addObject_127 rfl (lv_at hl 3 rfl) ?_
        refine lv_iconst (v := 4) hx hb dX6_addObject_128 (by decide) ?_
        refine lv_icmp_ne (tgt := 142) hx hb dX6_addObject_129 (by decide) (fun hc => ?_) (fun hc => ?_)
        · have hs := g_f hs hc
          exact hJ_142 v w1 w2 w3 w4 _ _ _ hP hS (lv_sub hl [0, 1, 2, 3, 4] rfl) hs
        · have hs := g_t hs hc
          refine lv_aload_n hx hb dX6_addObject_132 rfl (lv_at hl 0 rfl) ?_
          refine lv_iconst (v := 4) hx hb dX6_addObject_133 (by decide) ?_
          refine g_bind hs (fun q_17 hq_17 hs => ?_)
          refine gCV_i (As := [.int 4]) (rest := []) ⟨hx, hb, hml, hown, hts⟩ (cX6_at_c l D cy ad tL z0 hI n v u 4 q_17 hq_17) (cwV 1 hts gX6_addObject_X6_at rfl rfl rfl (by decide +kernel) ⟨Nat.le_of_ble_eq_true rfl, Nat.le_of_ble_eq_true rfl⟩) hK hP hS (va_recv hK.1 hP (ci := 6) (q0 := 81) rfl (gW_6 kd81)) hl.1 rfl rfl (Nat.le_of_ble_eq_true rfl) dX6_addObject_134 ⟨Nat.zero_le _, Nat.zero_le _⟩ (fun H locs hP hS => ?_)
          refine lv_bipush (v := 6) hx hb dX6_addObject_137 (by decide) ?_
          refine lv_icmp_eq (tgt := 156) hx hb dX6_addObject_139 (by decide) (fun hc => ?_) (fun hc => ?_)
          · have hs := g_t hs hc
            exact hJ_156 v _ _ _ hP hS (lv_sub hl [0] rfl) hs
          · have hs := g_f hs hc
            exact hJ_142 v w1 w2 w3 w4 _ _ _ hP hS (lv_sub hl [0, 1, 2, 3, 4] rfl) hs
  have hJ_66 : ∀ (v : gV) (w1 : Int32) (w2 : Int32) (w3 : Int32) (w4 : Int32) (w5 : Int32) (t0 : Int32) (H : Heap) (locs : List Loc) (ls : Array Slot), va_P D vwCl (gW cy ad v u) H → va_S (gA z0) s.heap H locs → lv_has ls 8 [(0, .ref (ad 81)), (1, .int w1), (2, .int w2), (3, .int w3), (4, .int w4), (5, .int w5)] → sX6_addObject_66 n v w1 w2 w3 w4 w5 t0 = some (r0, v1) → W p l e (headSpec wsX6_addObject ({ frames := 2, cells := 0, slots := 0, locals := 46 } : Room)).room s m ([.ref (ad 81), .int x1, .int x2, .int x3] : List Value).toArray below meth c H locs 0 0 (MQ below (gQi D cy ad tL z0 v1 u r0) ([.ref (ad 81), .int x1, .int x2, .int x3] : List Value).toArray s 0 0 (gA z0)) (F0 m 66 ls [.int t0]) := by
    intro v w1 w2 w3 w4 w5 t0 H locs ls hP hS hl hs
    unfold sX6_addObject_66 at hs
    refine lv_istore (lv' := [(6, .int t0), (0, .ref (ad 81)), (1, .int w1), (2, .int w2), (3, .int w3), (4, .int w4), (5, .int w5)]) hx hb dX6_addObject_66 hl (by decide) rfl (fun ls hl => ?_)
    refine lv_iload_n hx hb dX6_addObject_68 rfl (lv_at hl 2 rfl) ?_
    refine lv_iconst (v := 0) hx hb dX6_addObject_69 (by decide) ?_
    refine lv_iconst (v := 5) hx hb dX6_addObject_70 (by decide) ?_
    refine g_bind hs (fun q_4 hq_4 hs => ?_)
    refine gCS_i (As := [.int w1, .int 0, .int 5]) (rest := []) ⟨hx, hb, hml, hown, hts⟩ (cX6_in_c l D cy ad tL z0 hI v u w1 0 5 q_4 hq_4) (va_cwS 3 hts gX6_addObject_X6_in rfl rfl rfl (by decide +kernel) ⟨Nat.le_of_ble_eq_true rfl, Nat.le_of_ble_eq_true rfl⟩) hK hP hS hl.1 rfl rfl (Nat.le_of_ble_eq_true rfl) dX6_addObject_71 ⟨Nat.zero_le _, Nat.zero_le _⟩ (fun H locs hP hS => ?_)
    refine lv_if_eq (tgt := 101) hx hb dX6_addObject_74 (by decide) (fun hc => ?_) (fun hc => ?_)
    · have hs := g_t hs hc
      exact hJ_101 v _ _ _ hP hS (lv_sub hl [1] rfl) hs
    · have hs := g_f hs hc
      refine lv_iload_n hx hb dX6_addObject_77 rfl (lv_at hl 3 rfl) ?_
      refine lv_iconst (v := 0) hx hb dX6_addObject_78 (by decide) ?_
      refine lv_iconst (v := 3) hx hb dX6_addObject_79 (by decide) ?_
      refine g_bind hs (fun q_6 hq_6 hs => ?_)
      refine gCS_i (As := [.int w2, .int 0, .int 3]) (rest := []) ⟨hx, hb, hml, hown, hts⟩ (cX6_in_c l D cy ad tL z0 hI v u w2 0 3 q_6 hq_6) (va_cwS 3 hts gX6_addObject_X6_in rfl rfl rfl (by decide +kernel) ⟨Nat.le_of_ble_eq_true rfl, Nat.le_of_ble_eq_true rfl⟩) hK hP hS hl.1 rfl rfl (Nat.le_of_ble_eq_true rfl) dX6_addObject_80 ⟨Nat.zero_le _, Nat.zero_le _⟩ (fun H locs hP hS => ?_)
      refine lv_if_eq (tgt := 101) hx hb dX6_addObject_83 (by decide) (fun hc => ?_) (fun hc => ?_)
      · have hs := g_t hs hc
        exact hJ_101 v _ _ _ hP hS (lv_sub hl [1] rfl) hs
      · have hs := g_f hs hc
        refine lv_iload hx hb dX6_addObject_86 (lv_at hl 6 rfl) ?_
        refine lv_if_eq (tgt := 101) hx hb dX6_addObject_88 (by decide) (fun hc => ?_) (fun hc => ?_)
        · have hs := g_t hs hc
          exact hJ_101 v _ _ _ hP hS (lv_sub hl [1] rfl) hs
        · have hs := g_f hs hc
          refine lv_iload hx hb dX6_addObject_91 (lv_at hl 5 rfl) ?_
          refine lv_if_eq (tgt := 107) hx hb dX6_addObject_93 (by decide) (fun hc => ?_) (fun hc => ?_)
          · have hs := g_t hs hc
            exact hJ_107 v w1 w2 w3 w4 _ _ _ hP hS (lv_sub hl [1, 2, 3, 4, 5] rfl) hs
          · have hs := g_f hs hc
            refine lv_iload hx hb dX6_addObject_96 (lv_at hl 0 rfl) ?_
            refine lv_if_eq (tgt := 107) hx hb dX6_addObject_98 (by decide) (fun hc => ?_) (fun hc => ?_)
            · have hs := g_t hs hc
              exact hJ_107 v w1 w2 w3 w4 _ _ _ hP hS (lv_sub hl [1, 2, 3, 4, 5] rfl) hs
            · have hs := g_f hs hc
              exact hJ_101 v _ _ _ hP hS (lv_sub hl [1] rfl) hs
  have hJ_49 : ∀ (v : gV) (w1 : Int32) (w2 : Int32) (w3 : Int32) (w4 : Int32) (t0 : Int32) (H : Heap) (locs : List Loc) (ls : Array Slot), va_P D vwCl (gW cy ad v u) H → va_S (gA z0) s.heap H locs → lv_has ls 8 [(0, .ref (ad 81)), (1, .int w1), (2, .int w2), (3, .int w3), (4, .int w4)] → sX6_addObject_49 n v w1 w2 w3 w4 t0 = some (r0, v1) → W p l e (headSpec wsX6_addObject ({ frames := 2, cells := 0, slots := 0, locals := 46 } : Room)).room s m ([.ref (ad 81), .int x1, .int x2, .int x3] : List Value).toArray below meth c H locs 0 0 (MQ below (gQi D cy ad tL z0 v1 u r0) ([.ref (ad 81), .int x1, .int x2, .int x3] : List Value).toArray s 0 0 (gA z0)) (F0 m 49 ls [.int t0]) := by
    intro v w1 w2 w3 w4 t0 H locs ls hP hS hl hs
    unfold sX6_addObject_49 at hs
    refine lv_istore (lv' := [(5, .int t0), (0, .ref (ad 81)), (1, .int w1), (2, .int w2), (3, .int w3), (4, .int w4)]) hx hb dX6_addObject_49 hl (by decide) rfl (fun ls hl => ?_)
    refine lv_iload_n hx hb dX6_addObject_51 rfl (lv_at hl 2 rfl) ?_
    refine lv_iconst (v := 1) hx hb dX6_addObject_52 (by decide) ?_
    refine lv_icmp_eq (tgt := 61) hx hb dX6_addObject_53 (by decide) (fun hc => ?_) (fun hc => ?_)
    · have hs := g_t hs hc
      refine lv_iconst (v := 1) hx hb dX6_addObject_61 (by decide) ?_
      refine lv_goto (tgt := 66) hx hb dX6_addObject_62 (by decide) ?_
      exact hJ_66 v w1 w2 w3 w4 t0 1 _ _ _ hP hS (lv_sub hl [1, 2, 3, 4, 5, 0] rfl) hs
    · have hs := g_f hs hc
      refine lv_iload_n hx hb dX6_addObject_56 rfl (lv_at hl 2 rfl) ?_
      refine lv_iconst (v := 5) hx hb dX6_addObject_57 (by decide) ?_
      refine lv_icmp_ne (tgt := 65) hx hb dX6_addObject_58 (by decide) (fun hc => ?_) (fun hc => ?_)
      · have hs := g_f hs hc
        refine lv_iconst (v := 0) hx hb dX6_addObject_65 (by decide) ?_
        exact hJ_66 v w1 w2 w3 w4 t0 0 _ _ _ hP hS (lv_sub hl [1, 2, 3, 4, 5, 0] rfl) hs
      · have hs := g_t hs hc
        refine lv_iconst (v := 1) hx hb dX6_addObject_61 (by decide) ?_
        refine lv_goto (tgt := 66) hx hb dX6_addObject_62 (by decide) ?_
        exact hJ_66 v w1 w2 w3 w4 t0 1 _ _ _ hP hS (lv_sub hl [1, 2, 3, 4, 5, 0] rfl) hs
  unfold sX6_addObject at hs
  refine lv_aload_n hx hb dX6_addObject_0 rfl (lv_at hl 0 rfl) ?_
  refine lv_iconst (v := 0) hx hb dX6_addObject_1 (by decide) ?_
  refine va_put (D := D) (ci := 6) (v := .int 0) (ty := .int) (C := RX6) (T := TX6) (N := 17) hx hb hts iX6 tyX6 tyX6_ok nmX6 hown hK.1 hP (gD hI) hS 81 (gW_6 kd81) rfl 8 (by decide) f31 (fun _ h9 => h9) rfl (by decide +kernel) rfl rfl (Nat.le_of_ble_eq_true rfl) dX6_addObject_2 (fun H locs hP _ hS => ?_)
  refine g_let hs (fun v_1 ev_1 hs => ?_)
  have hP : va_P D vwCl (gW cy ad v_1 u) H := gPset ((gS_6_8 kd81 0).trans (congrArg (fun z => gW cy ad z u) ev_1.symm)) hP
  refine lv_iload_n hx hb dX6_addObject_5 rfl (lv_at hl 3 rfl) ?_
  refine lv_iconst (v := 5) hx hb dX6_addObject_6 (by decide) ?_
  refine lv_iconst (v := 4) hx hb dX6_addObject_7 (by decide) ?_
  refine lv_aload_n hx hb dX6_addObject_8 rfl (lv_at hl 0 rfl) ?_
  refine va_get (D := D) (ci := 6) (v := .ref (ad 84)) (C := RX6) (T := TX6) (N := 17) hx hb hts iX6 hown hK.1 hP 81 (gW_6 kd81) rfl 2 (by decide) f16 (fun _ h9 => h9) rfl dX6_addObject_9 ?_
  refine lv_iconst (v := 0) hx hb dX6_addObject_12 (by decide) ?_
  refine va_iald (i := 0) hx hb hK.1 hP 84 0 (gW_16 kd84) rfl (by unfold vp_in; decide) dX6_addObject_13 ?_
  refine lv_iadd hx hb dX6_addObject_14 ?_
  refine g_bind hs (fun q_2 hq_2 hs => ?_)
  refine gCS_i (As := [.int x3, .int 5, .int (4 + (v_1 84 0))]) (rest := []) ⟨hx, hb, hml, hown, hts⟩ (cX6_in_c l D cy ad tL z0 hI v_1 u x3 5 (4 + (v_1 84 0)) q_2 hq_2) (va_cwS 3 hts gX6_addObject_X6_in rfl rfl rfl (by decide +kernel) ⟨Nat.le_of_ble_eq_true rfl, Nat.le_of_ble_eq_true rfl⟩) hK hP hS hl.1 rfl rfl (Nat.le_of_ble_eq_true rfl) dX6_addObject_15 ⟨Nat.zero_le _, Nat.zero_le _⟩ (fun H locs hP hS => ?_)
  refine lv_istore (lv' := [(4, .int q_2), (0, .ref (ad 81)), (1, .int x1), (2, .int x2), (3, .int x3)]) hx hb dX6_addObject_18 hl (by decide) rfl (fun ls hl => ?_)
  refine lv_iload_n hx hb dX6_addObject_20 rfl (lv_at hl 4 rfl) ?_
  refine lv_iconst (v := 0) hx hb dX6_addObject_21 (by decide) ?_
  refine lv_iconst (v := 4) hx hb dX6_addObject_22 (by decide) ?_
  refine g_bind hs (fun q_3 hq_3 hs => ?_)
  refine gCS_i (As := [.int x3, .int 0, .int 4]) (rest := []) ⟨hx, hb, hml, hown, hts⟩ (cX6_in_c l D cy ad tL z0 hI v_1 u x3 0 4 q_3 hq_3) (va_cwS 3 hts gX6_addObject_X6_in rfl rfl rfl (by decide +kernel) ⟨Nat.le_of_ble_eq_true rfl, Nat.le_of_ble_eq_true rfl⟩) hK hP hS hl.1 rfl rfl (Nat.le_of_ble_eq_true rfl) dX6_addObject_23 ⟨Nat.zero_le _, Nat.zero_le _⟩ (fun H locs hP hS => ?_)
  refine lv_if_ne (tgt := 44) hx hb dX6_addObject_26 (by decide) (fun hc => ?_) (fun hc => ?_)
  · have hs := g_f hs hc
    refine lv_iconst (v := 1) hx hb dX6_addObject_44 (by decide) ?_
    refine lv_goto (tgt := 49) hx hb dX6_addObject_45 (by decide) ?_
    exact hJ_49 v_1 x1 x2 x3 q_2 1 _ _ _ hP hS (lv_sub hl [1, 2, 3, 4, 0] rfl) hs
  · have hs := g_t hs hc
    refine lv_iload hx hb dX6_addObject_29 (lv_at hl 0 rfl) ?_
    refine lv_if_eq (tgt := 48) hx hb dX6_addObject_31 (by decide) (fun hc => ?_) (fun hc => ?_)
    · have hs := g_t hs hc
      refine lv_iconst (v := 0) hx hb dX6_addObject_48 (by decide) ?_
      exact hJ_49 v_1 x1 x2 x3 q_2 0 _ _ _ hP hS (lv_sub hl [1, 2, 3, 4, 0] rfl) hs
    · have hs := g_f hs hc
      refine lv_aload_n hx hb dX6_addObject_34 rfl (lv_at hl 1 rfl) ?_
      refine lv_iload_n hx hb dX6_addObject_35 rfl (lv_at hl 4 rfl) ?_
      refine lv_iconst (v := 5) hx hb dX6_addObject_36 (by decide) ?_
      refine lv_isub hx hb dX6_addObject_37 ?_
      refine g_bind hs (fun q_18 hq_18 hs => ?_)
      refine gCV_i (As := [.int (x3 - 5)]) (rest := []) ⟨hx, hb, hml, hown, hts⟩ (cX6_isContainer_c l D cy ad tL z0 hI v_1 u (x3 - 5) q_18 hq_18) (cwV 1 hts gX6_addObject_X6_isContainer rfl rfl rfl (by decide +kernel) ⟨Nat.le_of_ble_eq_true rfl, Nat.le_of_ble_eq_true rfl⟩) hK hP hS (va_recv hK.1 hP (ci := 6) (q0 := 81) rfl (gW_6 kd81)) hl.1 rfl rfl (Nat.le_of_ble_eq_true rfl) dX6_addObject_38 ⟨Nat.zero_le _, Nat.zero_le _⟩ (fun H locs hP hS => ?_)
      refine lv_if_eq (tgt := 48) hx hb dX6_addObject_41 (by decide) (fun hc => ?_) (fun hc => ?_)
      · have hs := g_t hs hc
        refine lv_iconst (v := 0) hx hb dX6_addObject_48 (by decide) ?_
        exact hJ_49 v_1 x1 x2 x3 q_2 0 _ _ _ hP hS (lv_sub hl [1, 2, 3, 4, 0] rfl) hs
      · have hs := g_f hs hc
        refine lv_iconst (v := 1) hx hb dX6_addObject_44 (by decide) ?_
        refine lv_goto (tgt := 49) hx hb dX6_addObject_45 (by decide) ?_
        exact hJ_49 v_1 x1 x2 x3 q_2 1 _ _ _ hP hS (lv_sub hl [1, 2, 3, 4, 0] rfl) hs
set_option maxHeartbeats 4000000 in
set_option maxRecDepth 100000 in
theorem cX6_moveTo_c (l : Launch) (D : va_G) (cy : Nat → ClassId) (ad : Nat → Nat) (tL z0 : Nat) (hI : gI z0 ad) (n : Nat) (v : gV) (u : Int64) (x1 : Int32) (r0 : Int32) (v1 : gV) (hs : sX6_moveTo n v x1 = some (r0, v1)) : Met l yX6_moveTo wsX6_moveTo ({ frames := 1, cells := 0, slots := 0, locals := 22 } : Room) (gPc D cy ad tL z0 v u [.ref (ad 81), .int x1]) (gQi D cy ad tL z0 v1 u r0) 0 0 (gA z0) := by
  refine Met.ofW (cc := cX6_moveTo) (maxL := 3) (ret := (some .int)) (by decide) rfl ?_
  intro p e s m args below meth c s₁ B hml hv
  obtain ⟨rfl, hB0⟩ := hv
  have hP : va_P D vwCl (gW cy ad v u) s.heap := hB0.1
  have hK : gK D cy tL z0 s s.heap := hB0.2
  have hx := B.exec
  have hb := B.bytes
  have hr := B.returns
  have hts := atoms_spec (ws := wsX6_moveTo) B.pre
  have hown : s.vm.findClass RX6 = some m.cls := findClass_of_methodNamed B.named
  have hlocks := B.notSynchronized
  have hS : va_S (gA z0) s.heap s.heap [] := va_S.rf
  have hl := lv_entry ([.ref (ad 81), .int x1]) (n := 3) (Nat.le_of_ble_eq_true rfl)
  rw [lg_entry_eq]
  generalize (lg_sl ([.ref (ad 81), .int x1]) ++ List.replicate (3 - (lg_sl ([.ref (ad 81), .int x1])).length) Slot.unset).toArray = ls at hl ⊢
  have hl : lv_has ls 3 [(0, .ref (ad 81)), (1, .int x1)] := hl
  have iX6 := (show ∀ w ∈ u_ws RX6 TX6 17, w ∈ wsX6_moveTo by decide +kernel)
  have f31 := hts (.fieldLink RX6 31 "AdventureParserModel" "thrown" "I") (by decide +kernel)
  have f16 := hts (.fieldLink RX6 16 "AdventureParserModel" "s" "[I") (by decide +kernel)
  clear hB0
  unfold sX6_moveTo at hs
  refine lv_aload_n hx hb dX6_moveTo_0 rfl (lv_at hl 0 rfl) ?_
  refine lv_iconst (v := 0) hx hb dX6_moveTo_1 (by decide) ?_
  refine va_put (D := D) (ci := 6) (v := .int 0) (ty := .int) (C := RX6) (T := TX6) (N := 17) hx hb hts iX6 tyX6 tyX6_ok nmX6 hown hK.1 hP (gD hI) hS 81 (gW_6 kd81) rfl 8 (by decide) f31 (fun _ h9 => h9) rfl (by decide +kernel) rfl rfl (Nat.le_of_ble_eq_true rfl) dX6_moveTo_2 (fun H locs hP _ hS => ?_)
  refine g_let hs (fun v_1 ev_1 hs => ?_)
  have hP : va_P D vwCl (gW cy ad v_1 u) H := gPset ((gS_6_8 kd81 0).trans (congrArg (fun z => gW cy ad z u) ev_1.symm)) hP
  refine lv_iload_n hx hb dX6_moveTo_5 rfl (lv_at hl 1 rfl) ?_
  refine lv_iconst (v := 0) hx hb dX6_moveTo_6 (by decide) ?_
  refine lv_iconst (v := 3) hx hb dX6_moveTo_7 (by decide) ?_
  refine g_bind hs (fun q_2 hq_2 hs => ?_)
  refine gCS_i (As := [.int x1, .int 0, .int 3]) (rest := []) ⟨hx, hb, hml, hown, hts⟩ (cX6_in_c l D cy ad tL z0 hI v_1 u x1 0 3 q_2 hq_2) (va_cwS 3 hts gX6_moveTo_X6_in rfl rfl rfl (by decide +kernel) ⟨Nat.le_of_ble_eq_true rfl, Nat.le_of_ble_eq_true rfl⟩) hK hP hS hl.1 rfl rfl (Nat.le_of_ble_eq_true rfl) dX6_moveTo_8 ⟨Nat.zero_le _, Nat.zero_le _⟩ (fun H locs hP hS => ?_)
  refine lv_if_ne (tgt := 20) hx hb dX6_moveTo_11 (by decide) (fun hc => ?_) (fun hc => ?_)
  · have hs := g_f hs hc
    refine lv_aload_n hx hb dX6_moveTo_20 rfl (lv_at hl 0 rfl) ?_
    refine g_bind hs (fun q_3 hq_3 hs => ?_)
    refine gCV_v (As := []) (rest := []) ⟨hx, hb, hml, hown, hts⟩ (cX6_save_c l D cy ad tL z0 hI n v_1 u q_3 hq_3) (cwV 0 hts gX6_moveTo_X6_save rfl rfl rfl (by decide +kernel) ⟨Nat.le_of_ble_eq_true rfl, Nat.le_of_ble_eq_true rfl⟩) hK hP hS (va_recv hK.1 hP (ci := 6) (q0 := 81) rfl (gW_6 kd81)) hl.1 rfl rfl (Nat.le_of_ble_eq_true rfl) dX6_moveTo_21 ⟨Nat.zero_le _, Nat.zero_le _⟩ (fun H locs hP hS => ?_)
    refine lv_aload_n hx hb dX6_moveTo_24 rfl (lv_at hl 0 rfl) ?_
    refine g_bind hs (fun q_4 hq_4 hs => ?_)
    refine gCV_v (As := []) (rest := []) ⟨hx, hb, hml, hown, hts⟩ (cX6_closeQuestion_c l D cy ad tL z0 hI n q_3 u q_4 hq_4) (cwV 0 hts gX6_moveTo_X6_closeQuestion rfl rfl rfl (by decide +kernel) ⟨Nat.le_of_ble_eq_true rfl, Nat.le_of_ble_eq_true rfl⟩) hK hP hS (va_recv hK.1 hP (ci := 6) (q0 := 81) rfl (gW_6 kd81)) hl.1 rfl rfl (Nat.le_of_ble_eq_true rfl) dX6_moveTo_25 ⟨Nat.zero_le _, Nat.zero_le _⟩ (fun H locs hP hS => ?_)
    refine lv_aload_n hx hb dX6_moveTo_28 rfl (lv_at hl 0 rfl) ?_
    refine va_get (D := D) (ci := 6) (v := .ref (ad 84)) (C := RX6) (T := TX6) (N := 17) hx hb hts iX6 hown hK.1 hP 81 (gW_6 kd81) rfl 2 (by decide) f16 (fun _ h9 => h9) rfl dX6_moveTo_29 ?_
    refine lv_bipush (v := 49) hx hb dX6_moveTo_32 (by decide) ?_
    refine va_iald (i := 49) hx hb hK.1 hP 84 0 (gW_16 kd84) rfl (by unfold vp_in; decide) dX6_moveTo_34 ?_
    refine lv_istore_n (lv' := [(2, .int (q_4 84 49)), (0, .ref (ad 81)), (1, .int x1)]) hx hb dX6_moveTo_35 rfl hl (by decide) rfl (fun ls hl => ?_)
    refine lv_aload_n hx hb dX6_moveTo_36 rfl (lv_at hl 1 rfl) ?_
    refine va_get (D := D) (ci := 6) (v := .ref (ad 84)) (C := RX6) (T := TX6) (N := 17) hx hb hts iX6 hown hK.1 hP 81 (gW_6 kd81) rfl 2 (by decide) f16 (fun _ h9 => h9) rfl dX6_moveTo_37 ?_
    refine lv_bipush (v := 49) hx hb dX6_moveTo_40 (by decide) ?_
    refine lv_iload_n hx hb dX6_moveTo_42 rfl (lv_at hl 2 rfl) ?_
    refine va_iast (i := 49) hx hb hK.1 hP (gD hI) hS 84 0 (gW_16 kd84) rfl (by unfold vp_in; decide) dX6_moveTo_43 (fun H locs hP _ hS => ?_)
    refine g_let hs (fun v_5 ev_5 hs => ?_)
    have hP : va_P D vwCl (gW cy ad v_5 u) H := gPset ((gS_16 kd84 49 x1).trans (congrArg (fun z => gW cy ad z u) ev_5.symm)) hP
    refine lv_iload_n hx hb dX6_moveTo_44 rfl (lv_at hl 0 rfl) ?_
    exact gRet_i hx hb hr hlocks hK hP hS (g_some2 hs) dX6_moveTo_45
  · have hs := g_t hs hc
    refine lv_aload_n hx hb dX6_moveTo_14 rfl (lv_at hl 0 rfl) ?_
    refine lv_iconst (v := 1) hx hb dX6_moveTo_15 (by decide) ?_
    refine g_bind hs (fun q_6 hq_6 hs => ?_)
    refine gCV_i (As := [.int 1]) (rest := []) ⟨hx, hb, hml, hown, hts⟩ (cX6_throwing_c l D cy ad tL z0 hI v_1 u 1 q_6.1 q_6.2 hq_6) (cwV 1 hts gX6_moveTo_X6_throwing rfl rfl rfl (by decide +kernel) ⟨Nat.le_of_ble_eq_true rfl, Nat.le_of_ble_eq_true rfl⟩) hK hP hS (va_recv hK.1 hP (ci := 6) (q0 := 81) rfl (gW_6 kd81)) hl.1 rfl rfl (Nat.le_of_ble_eq_true rfl) dX6_moveTo_16 ⟨Nat.zero_le _, Nat.zero_le _⟩ (fun H locs hP hS => ?_)
    exact gRet_i hx hb hr hlocks hK hP hS (g_some2 hs) dX6_moveTo_19
set_option maxHeartbeats 4000000 in
set_option maxRecDepth 100000 in
theorem cX6_objects_c (l : Launch) (D : va_G) (cy : Nat → ClassId) (ad : Nat → Nat) (tL z0 : Nat) (hI : gI z0 ad) (v : gV) (u : Int64) (r0 : Int32) (v1 : gV) (hs : sX6_objects v = some (r0, v1)) : Met l yX6_objects wsX6_objects ({ frames := 0, cells := 0, slots := 0, locals := 0 } : Room) (gPc D cy ad tL z0 v u [.ref (ad 81)]) (gQi D cy ad tL z0 v1 u r0) 0 0 (gA z0) := by
  refine Met.ofW (cc := cX6_objects) (maxL := 1) (ret := (some .int)) (by decide) rfl ?_
  intro p e s m args below meth c s₁ B hml hv
  obtain ⟨rfl, hB0⟩ := hv
  have hP : va_P D vwCl (gW cy ad v u) s.heap := hB0.1
  have hK : gK D cy tL z0 s s.heap := hB0.2
  have hx := B.exec
  have hb := B.bytes
  have hr := B.returns
  have hts := atoms_spec (ws := wsX6_objects) B.pre
  have hown : s.vm.findClass RX6 = some m.cls := findClass_of_methodNamed B.named
  have hlocks := B.notSynchronized
  have hS : va_S (gA z0) s.heap s.heap [] := va_S.rf
  have hl := lv_entry ([.ref (ad 81)]) (n := 1) (Nat.le_of_ble_eq_true rfl)
  rw [lg_entry_eq]
  generalize (lg_sl ([.ref (ad 81)]) ++ List.replicate (1 - (lg_sl ([.ref (ad 81)])).length) Slot.unset).toArray = ls at hl ⊢
  have hl : lv_has ls 1 [(0, .ref (ad 81))] := hl
  have iX6 := (show ∀ w ∈ u_ws RX6 TX6 17, w ∈ wsX6_objects by decide +kernel)
  have f31 := hts (.fieldLink RX6 31 "AdventureParserModel" "thrown" "I") (by decide +kernel)
  have f16 := hts (.fieldLink RX6 16 "AdventureParserModel" "s" "[I") (by decide +kernel)
  clear hB0
  unfold sX6_objects at hs
  refine lv_aload_n hx hb dX6_objects_0 rfl (lv_at hl 0 rfl) ?_
  refine lv_iconst (v := 0) hx hb dX6_objects_1 (by decide) ?_
  refine va_put (D := D) (ci := 6) (v := .int 0) (ty := .int) (C := RX6) (T := TX6) (N := 17) hx hb hts iX6 tyX6 tyX6_ok nmX6 hown hK.1 hP (gD hI) hS 81 (gW_6 kd81) rfl 8 (by decide) f31 (fun _ h9 => h9) rfl (by decide +kernel) rfl rfl (Nat.le_of_ble_eq_true rfl) dX6_objects_2 (fun H locs hP _ hS => ?_)
  refine g_let hs (fun v_1 ev_1 hs => ?_)
  have hP : va_P D vwCl (gW cy ad v_1 u) H := gPset ((gS_6_8 kd81 0).trans (congrArg (fun z => gW cy ad z u) ev_1.symm)) hP
  refine lv_aload_n hx hb dX6_objects_5 rfl (lv_at hl 0 rfl) ?_
  refine va_get (D := D) (ci := 6) (v := .ref (ad 84)) (C := RX6) (T := TX6) (N := 17) hx hb hts iX6 hown hK.1 hP 81 (gW_6 kd81) rfl 2 (by decide) f16 (fun _ h9 => h9) rfl dX6_objects_6 ?_
  refine lv_iconst (v := 0) hx hb dX6_objects_9 (by decide) ?_
  refine va_iald (i := 0) hx hb hK.1 hP 84 0 (gW_16 kd84) rfl (by unfold vp_in; decide) dX6_objects_10 ?_
  exact gRet_i hx hb hr hlocks hK hP hS (g_some2 hs) dX6_objects_11
set_option maxHeartbeats 4000000 in
set_option maxRecDepth 100000 in
theorem cX6_told_c (l : Launch) (D : va_G) (cy : Nat → ClassId) (ad : Nat → Nat) (tL z0 : Nat) (hI : gI z0 ad) (v : gV) (u : Int64) (x1 : Int32) (x2 : Int32) (r0 : Int32) (v1 : gV) (hs : sX6_told v x1 x2 = some (r0, v1)) : Met l yX6_told wsX6_told ({ frames := 2, cells := 0, slots := 0, locals := 43 } : Room) (gPc D cy ad tL z0 v u [.ref (ad 81), .int x1, .int x2]) (gQi D cy ad tL z0 v1 u r0) 0 0 (gA z0) := by
  refine Met.ofW (cc := cX6_told) (maxL := 3) (ret := (some .int)) (by decide) rfl ?_
  intro p e s m args below meth c s₁ B hml hv
  obtain ⟨rfl, hB0⟩ := hv
  have hP : va_P D vwCl (gW cy ad v u) s.heap := hB0.1
  have hK : gK D cy tL z0 s s.heap := hB0.2
  have hx := B.exec
  have hb := B.bytes
  have hr := B.returns
  have hts := atoms_spec (ws := wsX6_told) B.pre
  have hown : s.vm.findClass RX6 = some m.cls := findClass_of_methodNamed B.named
  have hlocks := B.notSynchronized
  have hS : va_S (gA z0) s.heap s.heap [] := va_S.rf
  have hl := lv_entry ([.ref (ad 81), .int x1, .int x2]) (n := 3) (Nat.le_of_ble_eq_true rfl)
  rw [lg_entry_eq]
  generalize (lg_sl ([.ref (ad 81), .int x1, .int x2]) ++ List.replicate (3 - (lg_sl ([.ref (ad 81), .int x1, .int x2])).length) Slot.unset).toArray = ls at hl ⊢
  have hl : lv_has ls 3 [(0, .ref (ad 81)), (1, .int x1), (2, .int x2)] := hl
  have iX6 := (show ∀ w ∈ u_ws RX6 TX6 17, w ∈ wsX6_told by decide +kernel)
  have f31 := hts (.fieldLink RX6 31 "AdventureParserModel" "thrown" "I") (by decide +kernel)
  clear hB0
  unfold sX6_told at hs
  refine lv_aload_n hx hb dX6_told_0 rfl (lv_at hl 0 rfl) ?_
  refine lv_iconst (v := 0) hx hb dX6_told_1 (by decide) ?_
  refine va_put (D := D) (ci := 6) (v := .int 0) (ty := .int) (C := RX6) (T := TX6) (N := 17) hx hb hts iX6 tyX6 tyX6_ok nmX6 hown hK.1 hP (gD hI) hS 81 (gW_6 kd81) rfl 8 (by decide) f31 (fun _ h9 => h9) rfl (by decide +kernel) rfl rfl (Nat.le_of_ble_eq_true rfl) dX6_told_2 (fun H locs hP _ hS => ?_)
  refine g_let hs (fun v_1 ev_1 hs => ?_)
  have hP : va_P D vwCl (gW cy ad v_1 u) H := gPset ((gS_6_8 kd81 0).trans (congrArg (fun z => gW cy ad z u) ev_1.symm)) hP
  refine lv_aload_n hx hb dX6_told_5 rfl (lv_at hl 0 rfl) ?_
  refine lv_iload_n hx hb dX6_told_6 rfl (lv_at hl 1 rfl) ?_
  refine g_bind hs (fun q_2 hq_2 hs => ?_)
  refine gCV_i (As := [.int x1]) (rest := []) ⟨hx, hb, hml, hown, hts⟩ (cX6_isObject_c l D cy ad tL z0 hI v_1 u x1 q_2 hq_2) (cwV 1 hts gX6_told_X6_isObject rfl rfl rfl (by decide +kernel) ⟨Nat.le_of_ble_eq_true rfl, Nat.le_of_ble_eq_true rfl⟩) hK hP hS (va_recv hK.1 hP (ci := 6) (q0 := 81) rfl (gW_6 kd81)) hl.1 rfl rfl (Nat.le_of_ble_eq_true rfl) dX6_told_7 ⟨Nat.zero_le _, Nat.zero_le _⟩ (fun H locs hP hS => ?_)
  refine lv_if_eq (tgt := 22) hx hb dX6_told_10 (by decide) (fun hc => ?_) (fun hc => ?_)
  · have hs := g_t hs hc
    refine lv_aload_n hx hb dX6_told_22 rfl (lv_at hl 0 rfl) ?_
    refine lv_iconst (v := 1) hx hb dX6_told_23 (by decide) ?_
    refine g_bind hs (fun q_3 hq_3 hs => ?_)
    refine gCV_i (As := [.int 1]) (rest := []) ⟨hx, hb, hml, hown, hts⟩ (cX6_throwing_c l D cy ad tL z0 hI v_1 u 1 q_3.1 q_3.2 hq_3) (cwV 1 hts gX6_told_X6_throwing rfl rfl rfl (by decide +kernel) ⟨Nat.le_of_ble_eq_true rfl, Nat.le_of_ble_eq_true rfl⟩) hK hP hS (va_recv hK.1 hP (ci := 6) (q0 := 81) rfl (gW_6 kd81)) hl.1 rfl rfl (Nat.le_of_ble_eq_true rfl) dX6_told_24 ⟨Nat.zero_le _, Nat.zero_le _⟩ (fun H locs hP hS => ?_)
    exact gRet_i hx hb hr hlocks hK hP hS (g_some2 hs) dX6_told_27
  · have hs := g_f hs hc
    refine lv_aload_n hx hb dX6_told_13 rfl (lv_at hl 0 rfl) ?_
    refine lv_iload_n hx hb dX6_told_14 rfl (lv_at hl 1 rfl) ?_
    refine lv_iload_n hx hb dX6_told_15 rfl (lv_at hl 2 rfl) ?_
    refine g_bind hs (fun q_4 hq_4 hs => ?_)
    refine gCV_i (As := [.int x1, .int x2]) (rest := []) ⟨hx, hb, hml, hown, hts⟩ (cX6_of_c l D cy ad tL z0 hI v_1 u x1 x2 q_4 hq_4) (cwV 2 hts gX6_told_X6_of rfl rfl rfl (by decide +kernel) ⟨Nat.le_of_ble_eq_true rfl, Nat.le_of_ble_eq_true rfl⟩) hK hP hS (va_recv hK.1 hP (ci := 6) (q0 := 81) rfl (gW_6 kd81)) hl.1 rfl rfl (Nat.le_of_ble_eq_true rfl) dX6_told_16 ⟨Nat.zero_le _, Nat.zero_le _⟩ (fun H locs hP hS => ?_)
    refine lv_goto (tgt := 27) hx hb dX6_told_19 (by decide) ?_
    exact gRet_i hx hb hr hlocks hK hP hS (g_some2 hs) dX6_told_27
set_option maxHeartbeats 4000000 in
set_option maxRecDepth 100000 in
theorem cX6_noun_c (l : Launch) (D : va_G) (cy : Nat → ClassId) (ad : Nat → Nat) (tL z0 : Nat) (hI : gI z0 ad) (v : gV) (u : Int64) (x1 : Int32) (r0 : Int32) (v1 : gV) (hs : sX6_noun v x1 = some (r0, v1)) : Met l yX6_noun wsX6_noun ({ frames := 3, cells := 0, slots := 0, locals := 65 } : Room) (gPc D cy ad tL z0 v u [.ref (ad 81), .int x1]) (gQi D cy ad tL z0 v1 u r0) 0 0 (gA z0) := by
  refine Met.ofW (cc := cX6_noun) (maxL := 2) (ret := (some .int)) (by decide) rfl ?_
  intro p e s m args below meth c s₁ B hml hv
  obtain ⟨rfl, hB0⟩ := hv
  have hP : va_P D vwCl (gW cy ad v u) s.heap := hB0.1
  have hK : gK D cy tL z0 s s.heap := hB0.2
  have hx := B.exec
  have hb := B.bytes
  have hr := B.returns
  have hts := atoms_spec (ws := wsX6_noun) B.pre
  have hown : s.vm.findClass RX6 = some m.cls := findClass_of_methodNamed B.named
  have hlocks := B.notSynchronized
  have hS : va_S (gA z0) s.heap s.heap [] := va_S.rf
  have hl := lv_entry ([.ref (ad 81), .int x1]) (n := 2) (Nat.le_of_ble_eq_true rfl)
  rw [lg_entry_eq]
  generalize (lg_sl ([.ref (ad 81), .int x1]) ++ List.replicate (2 - (lg_sl ([.ref (ad 81), .int x1])).length) Slot.unset).toArray = ls at hl ⊢
  have hl : lv_has ls 2 [(0, .ref (ad 81)), (1, .int x1)] := hl
  clear hB0
  unfold sX6_noun at hs
  refine lv_aload_n hx hb dX6_noun_0 rfl (lv_at hl 0 rfl) ?_
  refine lv_iload_n hx hb dX6_noun_1 rfl (lv_at hl 1 rfl) ?_
  refine lv_iconst (v := 0) hx hb dX6_noun_2 (by decide) ?_
  refine g_bind hs (fun q_1 hq_1 hs => ?_)
  refine gCV_i (As := [.int x1, .int 0]) (rest := []) ⟨hx, hb, hml, hown, hts⟩ (cX6_told_c l D cy ad tL z0 hI v u x1 0 q_1.1 q_1.2 hq_1) (cwV 2 hts gX6_noun_X6_told rfl rfl rfl (by decide +kernel) ⟨Nat.le_of_ble_eq_true rfl, Nat.le_of_ble_eq_true rfl⟩) hK hP hS (va_recv hK.1 hP (ci := 6) (q0 := 81) rfl (gW_6 kd81)) hl.1 rfl rfl (Nat.le_of_ble_eq_true rfl) dX6_noun_3 ⟨Nat.zero_le _, Nat.zero_le _⟩ (fun H locs hP hS => ?_)
  exact gRet_i hx hb hr hlocks hK hP hS (g_some2 hs) dX6_noun_6
set_option maxHeartbeats 4000000 in
set_option maxRecDepth 100000 in
theorem cX6_adjective_c (l : Launch) (D : va_G) (cy : Nat → ClassId) (ad : Nat → Nat) (tL z0 : Nat) (hI : gI z0 ad) (v : gV) (u : Int64) (x1 : Int32) (r0 : Int32) (v1 : gV) (hs : sX6_adjective v x1 = some (r0, v1)) : Met l yX6_adjective wsX6_adjective ({ frames := 3, cells := 0, slots := 0, locals := 65 } : Room) (gPc D cy ad tL z0 v u [.ref (ad 81), .int x1]) (gQi D cy ad tL z0 v1 u r0) 0 0 (gA z0) := by
  refine Met.ofW (cc := cX6_adjective) (maxL := 2) (ret := (some .int)) (by decide) rfl ?_
  intro p e s m args below meth c s₁ B hml hv
  obtain ⟨rfl, hB0⟩ := hv
  have hP : va_P D vwCl (gW cy ad v u) s.heap := hB0.1
  have hK : gK D cy tL z0 s s.heap := hB0.2
  have hx := B.exec
  have hb := B.bytes
  have hr := B.returns
  have hts := atoms_spec (ws := wsX6_adjective) B.pre
  have hown : s.vm.findClass RX6 = some m.cls := findClass_of_methodNamed B.named
  have hlocks := B.notSynchronized
  have hS : va_S (gA z0) s.heap s.heap [] := va_S.rf
  have hl := lv_entry ([.ref (ad 81), .int x1]) (n := 2) (Nat.le_of_ble_eq_true rfl)
  rw [lg_entry_eq]
  generalize (lg_sl ([.ref (ad 81), .int x1]) ++ List.replicate (2 - (lg_sl ([.ref (ad 81), .int x1])).length) Slot.unset).toArray = ls at hl ⊢
  have hl : lv_has ls 2 [(0, .ref (ad 81)), (1, .int x1)] := hl
  clear hB0
  unfold sX6_adjective at hs
  refine lv_aload_n hx hb dX6_adjective_0 rfl (lv_at hl 0 rfl) ?_
  refine lv_iload_n hx hb dX6_adjective_1 rfl (lv_at hl 1 rfl) ?_
  refine lv_iconst (v := 1) hx hb dX6_adjective_2 (by decide) ?_
  refine g_bind hs (fun q_1 hq_1 hs => ?_)
  refine gCV_i (As := [.int x1, .int 1]) (rest := []) ⟨hx, hb, hml, hown, hts⟩ (cX6_told_c l D cy ad tL z0 hI v u x1 1 q_1.1 q_1.2 hq_1) (cwV 2 hts gX6_adjective_X6_told rfl rfl rfl (by decide +kernel) ⟨Nat.le_of_ble_eq_true rfl, Nat.le_of_ble_eq_true rfl⟩) hK hP hS (va_recv hK.1 hP (ci := 6) (q0 := 81) rfl (gW_6 kd81)) hl.1 rfl rfl (Nat.le_of_ble_eq_true rfl) dX6_adjective_3 ⟨Nat.zero_le _, Nat.zero_le _⟩ (fun H locs hP hS => ?_)
  exact gRet_i hx hb hr hlocks hK hP hS (g_some2 hs) dX6_adjective_6
set_option maxHeartbeats 4000000 in
set_option maxRecDepth 100000 in
theorem cX6_place_c (l : Launch) (D : va_G) (cy : Nat → ClassId) (ad : Nat → Nat) (tL z0 : Nat) (hI : gI z0 ad) (v : gV) (u : Int64) (x1 : Int32) (r0 : Int32) (v1 : gV) (hs : sX6_place v x1 = some (r0, v1)) : Met l yX6_place wsX6_place ({ frames := 3, cells := 0, slots := 0, locals := 65 } : Room) (gPc D cy ad tL z0 v u [.ref (ad 81), .int x1]) (gQi D cy ad tL z0 v1 u r0) 0 0 (gA z0) := by
  refine Met.ofW (cc := cX6_place) (maxL := 2) (ret := (some .int)) (by decide) rfl ?_
  intro p e s m args below meth c s₁ B hml hv
  obtain ⟨rfl, hB0⟩ := hv
  have hP : va_P D vwCl (gW cy ad v u) s.heap := hB0.1
  have hK : gK D cy tL z0 s s.heap := hB0.2
  have hx := B.exec
  have hb := B.bytes
  have hr := B.returns
  have hts := atoms_spec (ws := wsX6_place) B.pre
  have hown : s.vm.findClass RX6 = some m.cls := findClass_of_methodNamed B.named
  have hlocks := B.notSynchronized
  have hS : va_S (gA z0) s.heap s.heap [] := va_S.rf
  have hl := lv_entry ([.ref (ad 81), .int x1]) (n := 2) (Nat.le_of_ble_eq_true rfl)
  rw [lg_entry_eq]
  generalize (lg_sl ([.ref (ad 81), .int x1]) ++ List.replicate (2 - (lg_sl ([.ref (ad 81), .int x1])).length) Slot.unset).toArray = ls at hl ⊢
  have hl : lv_has ls 2 [(0, .ref (ad 81)), (1, .int x1)] := hl
  clear hB0
  unfold sX6_place at hs
  refine lv_aload_n hx hb dX6_place_0 rfl (lv_at hl 0 rfl) ?_
  refine lv_iload_n hx hb dX6_place_1 rfl (lv_at hl 1 rfl) ?_
  refine lv_iconst (v := 2) hx hb dX6_place_2 (by decide) ?_
  refine g_bind hs (fun q_1 hq_1 hs => ?_)
  refine gCV_i (As := [.int x1, .int 2]) (rest := []) ⟨hx, hb, hml, hown, hts⟩ (cX6_told_c l D cy ad tL z0 hI v u x1 2 q_1.1 q_1.2 hq_1) (cwV 2 hts gX6_place_X6_told rfl rfl rfl (by decide +kernel) ⟨Nat.le_of_ble_eq_true rfl, Nat.le_of_ble_eq_true rfl⟩) hK hP hS (va_recv hK.1 hP (ci := 6) (q0 := 81) rfl (gW_6 kd81)) hl.1 rfl rfl (Nat.le_of_ble_eq_true rfl) dX6_place_3 ⟨Nat.zero_le _, Nat.zero_le _⟩ (fun H locs hP hS => ?_)
  exact gRet_i hx hb hr hlocks hK hP hS (g_some2 hs) dX6_place_6
set_option maxHeartbeats 4000000 in
set_option maxRecDepth 100000 in
theorem cX6_isOpen_c (l : Launch) (D : va_G) (cy : Nat → ClassId) (ad : Nat → Nat) (tL z0 : Nat) (hI : gI z0 ad) (v : gV) (u : Int64) (x1 : Int32) (r0 : Int32) (v1 : gV) (hs : sX6_isOpen v x1 = some (r0, v1)) : Met l yX6_isOpen wsX6_isOpen ({ frames := 3, cells := 0, slots := 0, locals := 65 } : Room) (gPc D cy ad tL z0 v u [.ref (ad 81), .int x1]) (gQi D cy ad tL z0 v1 u r0) 0 0 (gA z0) := by
  refine Met.ofW (cc := cX6_isOpen) (maxL := 2) (ret := (some .boolean)) (by decide) rfl ?_
  intro p e s m args below meth c s₁ B hml hv
  obtain ⟨rfl, hB0⟩ := hv
  have hP : va_P D vwCl (gW cy ad v u) s.heap := hB0.1
  have hK : gK D cy tL z0 s s.heap := hB0.2
  have hx := B.exec
  have hb := B.bytes
  have hr := B.returns
  have hts := atoms_spec (ws := wsX6_isOpen) B.pre
  have hown : s.vm.findClass RX6 = some m.cls := findClass_of_methodNamed B.named
  have hlocks := B.notSynchronized
  have hS : va_S (gA z0) s.heap s.heap [] := va_S.rf
  have hl := lv_entry ([.ref (ad 81), .int x1]) (n := 2) (Nat.le_of_ble_eq_true rfl)
  rw [lg_entry_eq]
  generalize (lg_sl ([.ref (ad 81), .int x1]) ++ List.replicate (2 - (lg_sl ([.ref (ad 81), .int x1])).length) Slot.unset).toArray = ls at hl ⊢
  have hl : lv_has ls 2 [(0, .ref (ad 81)), (1, .int x1)] := hl
  clear hB0
  unfold sX6_isOpen at hs
  refine lv_aload_n hx hb dX6_isOpen_0 rfl (lv_at hl 0 rfl) ?_
  refine lv_iload_n hx hb dX6_isOpen_1 rfl (lv_at hl 1 rfl) ?_
  refine lv_iconst (v := 3) hx hb dX6_isOpen_2 (by decide) ?_
  refine g_bind hs (fun q_1 hq_1 hs => ?_)
  refine gCV_i (As := [.int x1, .int 3]) (rest := []) ⟨hx, hb, hml, hown, hts⟩ (cX6_told_c l D cy ad tL z0 hI v u x1 3 q_1.1 q_1.2 hq_1) (cwV 2 hts gX6_isOpen_X6_told rfl rfl rfl (by decide +kernel) ⟨Nat.le_of_ble_eq_true rfl, Nat.le_of_ble_eq_true rfl⟩) hK hP hS (va_recv hK.1 hP (ci := 6) (q0 := 81) rfl (gW_6 kd81)) hl.1 rfl rfl (Nat.le_of_ble_eq_true rfl) dX6_isOpen_3 ⟨Nat.zero_le _, Nat.zero_le _⟩ (fun H locs hP hS => ?_)
  refine lv_iconst (v := 1) hx hb dX6_isOpen_6 (by decide) ?_
  refine lv_icmp_ne (tgt := 14) hx hb dX6_isOpen_7 (by decide) (fun hc => ?_) (fun hc => ?_)
  · have hs := g_f hs hc
    refine lv_iconst (v := 0) hx hb dX6_isOpen_14 (by decide) ?_
    exact gRet_z hx hb hr hlocks rfl hK hP hS (g_some2 hs) dX6_isOpen_15
  · have hs := g_t hs hc
    refine lv_iconst (v := 1) hx hb dX6_isOpen_10 (by decide) ?_
    refine lv_goto (tgt := 15) hx hb dX6_isOpen_11 (by decide) ?_
    exact gRet_z hx hb hr hlocks rfl hK hP hS (g_some2 hs) dX6_isOpen_15
set_option maxHeartbeats 4000000 in
set_option maxRecDepth 100000 in
theorem cX6_objectsAt_c (l : Launch) (D : va_G) (cy : Nat → ClassId) (ad : Nat → Nat) (tL z0 : Nat) (hI : gI z0 ad) (n : Nat) (v : gV) (u : Int64) (x1 : Int32) (r0 : Int32) (v1 : gV) (hs : sX6_objectsAt n v x1 = some (r0, v1)) : Met l yX6_objectsAt wsX6_objectsAt ({ frames := 2, cells := 0, slots := 0, locals := 45 } : Room) (gPc D cy ad tL z0 v u [.ref (ad 81), .int x1]) (gQi D cy ad tL z0 v1 u r0) 0 0 (gA z0) := by
  refine Met.ofW (cc := cX6_objectsAt) (maxL := 2) (ret := (some .int)) (by decide) rfl ?_
  intro p e s m args below meth c s₁ B hml hv
  obtain ⟨rfl, hB0⟩ := hv
  have hP : va_P D vwCl (gW cy ad v u) s.heap := hB0.1
  have hK : gK D cy tL z0 s s.heap := hB0.2
  have hx := B.exec
  have hb := B.bytes
  have hr := B.returns
  have hts := atoms_spec (ws := wsX6_objectsAt) B.pre
  have hown : s.vm.findClass RX6 = some m.cls := findClass_of_methodNamed B.named
  have hlocks := B.notSynchronized
  have hS : va_S (gA z0) s.heap s.heap [] := va_S.rf
  have hl := lv_entry ([.ref (ad 81), .int x1]) (n := 2) (Nat.le_of_ble_eq_true rfl)
  rw [lg_entry_eq]
  generalize (lg_sl ([.ref (ad 81), .int x1]) ++ List.replicate (2 - (lg_sl ([.ref (ad 81), .int x1])).length) Slot.unset).toArray = ls at hl ⊢
  have hl : lv_has ls 2 [(0, .ref (ad 81)), (1, .int x1)] := hl
  have iX6 := (show ∀ w ∈ u_ws RX6 TX6 17, w ∈ wsX6_objectsAt by decide +kernel)
  have f31 := hts (.fieldLink RX6 31 "AdventureParserModel" "thrown" "I") (by decide +kernel)
  clear hB0
  unfold sX6_objectsAt at hs
  refine lv_aload_n hx hb dX6_objectsAt_0 rfl (lv_at hl 0 rfl) ?_
  refine lv_iconst (v := 0) hx hb dX6_objectsAt_1 (by decide) ?_
  refine va_put (D := D) (ci := 6) (v := .int 0) (ty := .int) (C := RX6) (T := TX6) (N := 17) hx hb hts iX6 tyX6 tyX6_ok nmX6 hown hK.1 hP (gD hI) hS 81 (gW_6 kd81) rfl 8 (by decide) f31 (fun _ h9 => h9) rfl (by decide +kernel) rfl rfl (Nat.le_of_ble_eq_true rfl) dX6_objectsAt_2 (fun H locs hP _ hS => ?_)
  refine g_let hs (fun v_1 ev_1 hs => ?_)
  have hP : va_P D vwCl (gW cy ad v_1 u) H := gPset ((gS_6_8 kd81 0).trans (congrArg (fun z => gW cy ad z u) ev_1.symm)) hP
  refine lv_iload_n hx hb dX6_objectsAt_5 rfl (lv_at hl 1 rfl) ?_
  refine lv_iconst (v := 0) hx hb dX6_objectsAt_6 (by decide) ?_
  refine lv_bipush (v := 16) hx hb dX6_objectsAt_7 (by decide) ?_
  refine g_bind hs (fun q_2 hq_2 hs => ?_)
  refine gCS_i (As := [.int x1, .int 0, .int 16]) (rest := []) ⟨hx, hb, hml, hown, hts⟩ (cX6_in_c l D cy ad tL z0 hI v_1 u x1 0 16 q_2 hq_2) (va_cwS 3 hts gX6_objectsAt_X6_in rfl rfl rfl (by decide +kernel) ⟨Nat.le_of_ble_eq_true rfl, Nat.le_of_ble_eq_true rfl⟩) hK hP hS hl.1 rfl rfl (Nat.le_of_ble_eq_true rfl) dX6_objectsAt_9 ⟨Nat.zero_le _, Nat.zero_le _⟩ (fun H locs hP hS => ?_)
  refine lv_if_eq (tgt := 23) hx hb dX6_objectsAt_12 (by decide) (fun hc => ?_) (fun hc => ?_)
  · have hs := g_t hs hc
    refine lv_aload_n hx hb dX6_objectsAt_23 rfl (lv_at hl 0 rfl) ?_
    refine lv_iconst (v := 1) hx hb dX6_objectsAt_24 (by decide) ?_
    refine g_bind hs (fun q_3 hq_3 hs => ?_)
    refine gCV_i (As := [.int 1]) (rest := []) ⟨hx, hb, hml, hown, hts⟩ (cX6_throwing_c l D cy ad tL z0 hI v_1 u 1 q_3.1 q_3.2 hq_3) (cwV 1 hts gX6_objectsAt_X6_throwing rfl rfl rfl (by decide +kernel) ⟨Nat.le_of_ble_eq_true rfl, Nat.le_of_ble_eq_true rfl⟩) hK hP hS (va_recv hK.1 hP (ci := 6) (q0 := 81) rfl (gW_6 kd81)) hl.1 rfl rfl (Nat.le_of_ble_eq_true rfl) dX6_objectsAt_25 ⟨Nat.zero_le _, Nat.zero_le _⟩ (fun H locs hP hS => ?_)
    exact gRet_i hx hb hr hlocks hK hP hS (g_some2 hs) dX6_objectsAt_28
  · have hs := g_f hs hc
    refine lv_aload_n hx hb dX6_objectsAt_15 rfl (lv_at hl 0 rfl) ?_
    refine lv_iload_n hx hb dX6_objectsAt_16 rfl (lv_at hl 1 rfl) ?_
    refine g_bind hs (fun q_4 hq_4 hs => ?_)
    refine gCV_i (As := [.int x1]) (rest := []) ⟨hx, hb, hml, hown, hts⟩ (cX6_at_c l D cy ad tL z0 hI n v_1 u x1 q_4 hq_4) (cwV 1 hts gX6_objectsAt_X6_at rfl rfl rfl (by decide +kernel) ⟨Nat.le_of_ble_eq_true rfl, Nat.le_of_ble_eq_true rfl⟩) hK hP hS (va_recv hK.1 hP (ci := 6) (q0 := 81) rfl (gW_6 kd81)) hl.1 rfl rfl (Nat.le_of_ble_eq_true rfl) dX6_objectsAt_17 ⟨Nat.zero_le _, Nat.zero_le _⟩ (fun H locs hP hS => ?_)
    refine lv_goto (tgt := 28) hx hb dX6_objectsAt_20 (by decide) ?_
    exact gRet_i hx hb hr hlocks hK hP hS (g_some2 hs) dX6_objectsAt_28
set_option maxHeartbeats 4000000 in
set_option maxRecDepth 100000 in
theorem cX6_room_c (l : Launch) (D : va_G) (cy : Nat → ClassId) (ad : Nat → Nat) (tL z0 : Nat) (hI : gI z0 ad) (v : gV) (u : Int64) (r0 : Int32) (v1 : gV) (hs : sX6_room v = some (r0, v1)) : Met l yX6_room wsX6_room ({ frames := 0, cells := 0, slots := 0, locals := 0 } : Room) (gPc D cy ad tL z0 v u [.ref (ad 81)]) (gQi D cy ad tL z0 v1 u r0) 0 0 (gA z0) := by
  refine Met.ofW (cc := cX6_room) (maxL := 1) (ret := (some .int)) (by decide) rfl ?_
  intro p e s m args below meth c s₁ B hml hv
  obtain ⟨rfl, hB0⟩ := hv
  have hP : va_P D vwCl (gW cy ad v u) s.heap := hB0.1
  have hK : gK D cy tL z0 s s.heap := hB0.2
  have hx := B.exec
  have hb := B.bytes
  have hr := B.returns
  have hts := atoms_spec (ws := wsX6_room) B.pre
  have hown : s.vm.findClass RX6 = some m.cls := findClass_of_methodNamed B.named
  have hlocks := B.notSynchronized
  have hS : va_S (gA z0) s.heap s.heap [] := va_S.rf
  have hl := lv_entry ([.ref (ad 81)]) (n := 1) (Nat.le_of_ble_eq_true rfl)
  rw [lg_entry_eq]
  generalize (lg_sl ([.ref (ad 81)]) ++ List.replicate (1 - (lg_sl ([.ref (ad 81)])).length) Slot.unset).toArray = ls at hl ⊢
  have hl : lv_has ls 1 [(0, .ref (ad 81))] := hl
  have iX6 := (show ∀ w ∈ u_ws RX6 TX6 17, w ∈ wsX6_room by decide +kernel)
  have f31 := hts (.fieldLink RX6 31 "AdventureParserModel" "thrown" "I") (by decide +kernel)
  have f16 := hts (.fieldLink RX6 16 "AdventureParserModel" "s" "[I") (by decide +kernel)
  clear hB0
  unfold sX6_room at hs
  refine lv_aload_n hx hb dX6_room_0 rfl (lv_at hl 0 rfl) ?_
  refine lv_iconst (v := 0) hx hb dX6_room_1 (by decide) ?_
  refine va_put (D := D) (ci := 6) (v := .int 0) (ty := .int) (C := RX6) (T := TX6) (N := 17) hx hb hts iX6 tyX6 tyX6_ok nmX6 hown hK.1 hP (gD hI) hS 81 (gW_6 kd81) rfl 8 (by decide) f31 (fun _ h9 => h9) rfl (by decide +kernel) rfl rfl (Nat.le_of_ble_eq_true rfl) dX6_room_2 (fun H locs hP _ hS => ?_)
  refine g_let hs (fun v_1 ev_1 hs => ?_)
  have hP : va_P D vwCl (gW cy ad v_1 u) H := gPset ((gS_6_8 kd81 0).trans (congrArg (fun z => gW cy ad z u) ev_1.symm)) hP
  refine lv_aload_n hx hb dX6_room_5 rfl (lv_at hl 0 rfl) ?_
  refine va_get (D := D) (ci := 6) (v := .ref (ad 84)) (C := RX6) (T := TX6) (N := 17) hx hb hts iX6 hown hK.1 hP 81 (gW_6 kd81) rfl 2 (by decide) f16 (fun _ h9 => h9) rfl dX6_room_6 ?_
  refine lv_bipush (v := 49) hx hb dX6_room_9 (by decide) ?_
  refine va_iald (i := 49) hx hb hK.1 hP 84 0 (gW_16 kd84) rfl (by unfold vp_in; decide) dX6_room_11 ?_
  exact gRet_i hx hb hr hlocks hK hP hS (g_some2 hs) dX6_room_12
set_option maxHeartbeats 4000000 in
set_option maxRecDepth 100000 in
theorem cX6_visible_c (l : Launch) (D : va_G) (cy : Nat → ClassId) (ad : Nat → Nat) (tL z0 : Nat) (hI : gI z0 ad) (n : Nat) (v : gV) (u : Int64) (r0 : Int32) (v1 : gV) (hs : sX6_visible n v = some (r0, v1)) : Met l yX6_visible wsX6_visible ({ frames := 3, cells := 0, slots := 0, locals := 66 } : Room) (gPc D cy ad tL z0 v u [.ref (ad 81)]) (gQi D cy ad tL z0 v1 u r0) 0 0 (gA z0) := by
  refine Met.ofW (cc := cX6_visible) (maxL := 1) (ret := (some .int)) (by decide) rfl ?_
  intro p e s m args below meth c s₁ B hml hv
  obtain ⟨rfl, hB0⟩ := hv
  have hP : va_P D vwCl (gW cy ad v u) s.heap := hB0.1
  have hK : gK D cy tL z0 s s.heap := hB0.2
  have hx := B.exec
  have hb := B.bytes
  have hr := B.returns
  have hts := atoms_spec (ws := wsX6_visible) B.pre
  have hown : s.vm.findClass RX6 = some m.cls := findClass_of_methodNamed B.named
  have hlocks := B.notSynchronized
  have hS : va_S (gA z0) s.heap s.heap [] := va_S.rf
  have hl := lv_entry ([.ref (ad 81)]) (n := 1) (Nat.le_of_ble_eq_true rfl)
  rw [lg_entry_eq]
  generalize (lg_sl ([.ref (ad 81)]) ++ List.replicate (1 - (lg_sl ([.ref (ad 81)])).length) Slot.unset).toArray = ls at hl ⊢
  have hl : lv_has ls 1 [(0, .ref (ad 81))] := hl
  have iX6 := (show ∀ w ∈ u_ws RX6 TX6 17, w ∈ wsX6_visible by decide +kernel)
  have f31 := hts (.fieldLink RX6 31 "AdventureParserModel" "thrown" "I") (by decide +kernel)
  clear hB0
  unfold sX6_visible at hs
  refine lv_aload_n hx hb dX6_visible_0 rfl (lv_at hl 0 rfl) ?_
  refine lv_iconst (v := 0) hx hb dX6_visible_1 (by decide) ?_
  refine va_put (D := D) (ci := 6) (v := .int 0) (ty := .int) (C := RX6) (T := TX6) (N := 17) hx hb hts iX6 tyX6 tyX6_ok nmX6 hown hK.1 hP (gD hI) hS 81 (gW_6 kd81) rfl 8 (by decide) f31 (fun _ h9 => h9) rfl (by decide +kernel) rfl rfl (Nat.le_of_ble_eq_true rfl) dX6_visible_2 (fun H locs hP _ hS => ?_)
  refine g_let hs (fun v_1 ev_1 hs => ?_)
  have hP : va_P D vwCl (gW cy ad v_1 u) H := gPset ((gS_6_8 kd81 0).trans (congrArg (fun z => gW cy ad z u) ev_1.symm)) hP
  refine lv_aload_n hx hb dX6_visible_5 rfl (lv_at hl 0 rfl) ?_
  refine g_bind hs (fun q_2 hq_2 hs => ?_)
  refine gCV_i (As := []) (rest := []) ⟨hx, hb, hml, hown, hts⟩ (cX6_visibleOnes_c l D cy ad tL z0 hI n v_1 u q_2 hq_2) (cwV 0 hts gX6_visible_X6_visibleOnes rfl rfl rfl (by decide +kernel) ⟨Nat.le_of_ble_eq_true rfl, Nat.le_of_ble_eq_true rfl⟩) hK hP hS (va_recv hK.1 hP (ci := 6) (q0 := 81) rfl (gW_6 kd81)) hl.1 rfl rfl (Nat.le_of_ble_eq_true rfl) dX6_visible_6 ⟨Nat.zero_le _, Nat.zero_le _⟩ (fun H locs hP hS => ?_)
  exact gRet_i hx hb hr hlocks hK hP hS (g_some2 hs) dX6_visible_9
set_option maxHeartbeats 4000000 in
set_option maxRecDepth 100000 in
theorem cX6_suitable_c (l : Launch) (D : va_G) (cy : Nat → ClassId) (ad : Nat → Nat) (tL z0 : Nat) (hI : gI z0 ad) (n : Nat) (v : gV) (u : Int64) (x1 : Int32) (r0 : Int32) (v1 : gV) (hs : sX6_suitable n v x1 = some (r0, v1)) : Met l yX6_suitable wsX6_suitable ({ frames := 5, cells := 0, slots := 0, locals := 110 } : Room) (gPc D cy ad tL z0 v u [.ref (ad 81), .int x1]) (gQi D cy ad tL z0 v1 u r0) 0 0 (gA z0) := by
  refine Met.ofW (cc := cX6_suitable) (maxL := 2) (ret := (some .int)) (by decide) rfl ?_
  intro p e s m args below meth c s₁ B hml hv
  obtain ⟨rfl, hB0⟩ := hv
  have hP : va_P D vwCl (gW cy ad v u) s.heap := hB0.1
  have hK : gK D cy tL z0 s s.heap := hB0.2
  have hx := B.exec
  have hb := B.bytes
  have hr := B.returns
  have hts := atoms_spec (ws := wsX6_suitable) B.pre
  have hown : s.vm.findClass RX6 = some m.cls := findClass_of_methodNamed B.named
  have hlocks := B.notSynchronized
  have hS : va_S (gA z0) s.heap s.heap [] := va_S.rf
  have hl := lv_entry ([.ref (ad 81), .int x1]) (n := 2) (Nat.le_of_ble_eq_true rfl)
  rw [lg_entry_eq]
  generalize (lg_sl ([.ref (ad 81), .int x1]) ++ List.replicate (2 - (lg_sl ([.ref (ad 81), .int x1])).length) Slot.unset).toArray = ls at hl ⊢
  have hl : lv_has ls 2 [(0, .ref (ad 81)), (1, .int x1)] := hl
  have iX6 := (show ∀ w ∈ u_ws RX6 TX6 17, w ∈ wsX6_suitable by decide +kernel)
  have f31 := hts (.fieldLink RX6 31 "AdventureParserModel" "thrown" "I") (by decide +kernel)
  clear hB0
  unfold sX6_suitable at hs
  refine lv_aload_n hx hb dX6_suitable_0 rfl (lv_at hl 0 rfl) ?_
  refine lv_iconst (v := 0) hx hb dX6_suitable_1 (by decide) ?_
  refine va_put (D := D) (ci := 6) (v := .int 0) (ty := .int) (C := RX6) (T := TX6) (N := 17) hx hb hts iX6 tyX6 tyX6_ok nmX6 hown hK.1 hP (gD hI) hS 81 (gW_6 kd81) rfl 8 (by decide) f31 (fun _ h9 => h9) rfl (by decide +kernel) rfl rfl (Nat.le_of_ble_eq_true rfl) dX6_suitable_2 (fun H locs hP _ hS => ?_)
  refine g_let hs (fun v_1 ev_1 hs => ?_)
  have hP : va_P D vwCl (gW cy ad v_1 u) H := gPset ((gS_6_8 kd81 0).trans (congrArg (fun z => gW cy ad z u) ev_1.symm)) hP
  refine lv_iload_n hx hb dX6_suitable_5 rfl (lv_at hl 1 rfl) ?_
  refine lv_iconst (v := 0) hx hb dX6_suitable_6 (by decide) ?_
  refine lv_iconst (v := 4) hx hb dX6_suitable_7 (by decide) ?_
  refine g_bind hs (fun q_2 hq_2 hs => ?_)
  refine gCS_i (As := [.int x1, .int 0, .int 4]) (rest := []) ⟨hx, hb, hml, hown, hts⟩ (cX6_in_c l D cy ad tL z0 hI v_1 u x1 0 4 q_2 hq_2) (va_cwS 3 hts gX6_suitable_X6_in rfl rfl rfl (by decide +kernel) ⟨Nat.le_of_ble_eq_true rfl, Nat.le_of_ble_eq_true rfl⟩) hK hP hS hl.1 rfl rfl (Nat.le_of_ble_eq_true rfl) dX6_suitable_8 ⟨Nat.zero_le _, Nat.zero_le _⟩ (fun H locs hP hS => ?_)
  refine lv_if_eq (tgt := 22) hx hb dX6_suitable_11 (by decide) (fun hc => ?_) (fun hc => ?_)
  · have hs := g_t hs hc
    refine lv_aload_n hx hb dX6_suitable_22 rfl (lv_at hl 0 rfl) ?_
    refine lv_iconst (v := 1) hx hb dX6_suitable_23 (by decide) ?_
    refine g_bind hs (fun q_3 hq_3 hs => ?_)
    refine gCV_i (As := [.int 1]) (rest := []) ⟨hx, hb, hml, hown, hts⟩ (cX6_throwing_c l D cy ad tL z0 hI v_1 u 1 q_3.1 q_3.2 hq_3) (cwV 1 hts gX6_suitable_X6_throwing rfl rfl rfl (by decide +kernel) ⟨Nat.le_of_ble_eq_true rfl, Nat.le_of_ble_eq_true rfl⟩) hK hP hS (va_recv hK.1 hP (ci := 6) (q0 := 81) rfl (gW_6 kd81)) hl.1 rfl rfl (Nat.le_of_ble_eq_true rfl) dX6_suitable_24 ⟨Nat.zero_le _, Nat.zero_le _⟩ (fun H locs hP hS => ?_)
    exact gRet_i hx hb hr hlocks hK hP hS (g_some2 hs) dX6_suitable_27
  · have hs := g_f hs hc
    refine lv_aload_n hx hb dX6_suitable_14 rfl (lv_at hl 0 rfl) ?_
    refine lv_iload_n hx hb dX6_suitable_15 rfl (lv_at hl 1 rfl) ?_
    refine g_bind hs (fun q_4 hq_4 hs => ?_)
    refine gCV_i (As := [.int x1]) (rest := []) ⟨hx, hb, hml, hown, hts⟩ (cX6_suitableOnes_c l D cy ad tL z0 hI n v_1 u x1 q_4 hq_4) (cwV 1 hts gX6_suitable_X6_suitableOnes rfl rfl rfl (by decide +kernel) ⟨Nat.le_of_ble_eq_true rfl, Nat.le_of_ble_eq_true rfl⟩) hK hP hS (va_recv hK.1 hP (ci := 6) (q0 := 81) rfl (gW_6 kd81)) hl.1 rfl rfl (Nat.le_of_ble_eq_true rfl) dX6_suitable_16 ⟨Nat.zero_le _, Nat.zero_le _⟩ (fun H locs hP hS => ?_)
    refine lv_goto (tgt := 27) hx hb dX6_suitable_19 (by decide) ?_
    exact gRet_i hx hb hr hlocks hK hP hS (g_some2 hs) dX6_suitable_27
set_option maxHeartbeats 4000000 in
set_option maxRecDepth 100000 in
theorem cX6_fitting_c (l : Launch) (D : va_G) (cy : Nat → ClassId) (ad : Nat → Nat) (tL z0 : Nat) (hI : gI z0 ad) (n : Nat) (v : gV) (u : Int64) (x1 : Int32) (x2 : Int32) (r0 : Int32) (v1 : gV) (hs : sX6_fitting n v x1 x2 = some (r0, v1)) : Met l yX6_fitting wsX6_fitting ({ frames := 2, cells := 0, slots := 0, locals := 46 } : Room) (gPc D cy ad tL z0 v u [.ref (ad 81), .int x1, .int x2]) (gQi D cy ad tL z0 v1 u r0) 0 0 (gA z0) := by
  refine Met.ofW (cc := cX6_fitting) (maxL := 3) (ret := (some .int)) (by decide) rfl ?_
  intro p e s m args below meth c s₁ B hml hv
  obtain ⟨rfl, hB0⟩ := hv
  have hP : va_P D vwCl (gW cy ad v u) s.heap := hB0.1
  have hK : gK D cy tL z0 s s.heap := hB0.2
  have hx := B.exec
  have hb := B.bytes
  have hr := B.returns
  have hts := atoms_spec (ws := wsX6_fitting) B.pre
  have hown : s.vm.findClass RX6 = some m.cls := findClass_of_methodNamed B.named
  have hlocks := B.notSynchronized
  have hS : va_S (gA z0) s.heap s.heap [] := va_S.rf
  have hl := lv_entry ([.ref (ad 81), .int x1, .int x2]) (n := 3) (Nat.le_of_ble_eq_true rfl)
  rw [lg_entry_eq]
  generalize (lg_sl ([.ref (ad 81), .int x1, .int x2]) ++ List.replicate (3 - (lg_sl ([.ref (ad 81), .int x1, .int x2])).length) Slot.unset).toArray = ls at hl ⊢
  have hl : lv_has ls 3 [(0, .ref (ad 81)), (1, .int x1), (2, .int x2)] := hl
  have iX6 := (show ∀ w ∈ u_ws RX6 TX6 17, w ∈ wsX6_fitting by decide +kernel)
  have f31 := hts (.fieldLink RX6 31 "AdventureParserModel" "thrown" "I") (by decide +kernel)
  clear hB0
  have hJ_32 : ∀ (v : gV)  (H : Heap) (locs : List Loc) (ls : Array Slot), va_P D vwCl (gW cy ad v u) H → va_S (gA z0) s.heap H locs → lv_has ls 3 [(0, .ref (ad 81))] → sX6_fitting_32 n v = some (r0, v1) → W p l e (headSpec wsX6_fitting ({ frames := 2, cells := 0, slots := 0, locals := 46 } : Room)).room s m ([.ref (ad 81), .int x1, .int x2] : List Value).toArray below meth c H locs 0 0 (MQ below (gQi D cy ad tL z0 v1 u r0) ([.ref (ad 81), .int x1, .int x2] : List Value).toArray s 0 0 (gA z0)) (F0 m 32 ls []) := by
    intro v H locs ls hP hS hl hs
    unfold sX6_fitting_32 at hs
    refine lv_aload_n hx hb dX6_fitting_32 rfl (lv_at hl 0 rfl) ?_
    refine lv_iconst (v := 1) hx hb dX6_fitting_33 (by decide) ?_
    refine g_bind hs (fun q_3 hq_3 hs => ?_)
    refine gCV_i (As := [.int 1]) (rest := []) ⟨hx, hb, hml, hown, hts⟩ (cX6_throwing_c l D cy ad tL z0 hI v u 1 q_3.1 q_3.2 hq_3) (cwV 1 hts gX6_fitting_X6_throwing rfl rfl rfl (by decide +kernel) ⟨Nat.le_of_ble_eq_true rfl, Nat.le_of_ble_eq_true rfl⟩) hK hP hS (va_recv hK.1 hP (ci := 6) (q0 := 81) rfl (gW_6 kd81)) hl.1 rfl rfl (Nat.le_of_ble_eq_true rfl) dX6_fitting_34 ⟨Nat.zero_le _, Nat.zero_le _⟩ (fun H locs hP hS => ?_)
    exact gRet_i hx hb hr hlocks hK hP hS (g_some2 hs) dX6_fitting_37
  unfold sX6_fitting at hs
  refine lv_aload_n hx hb dX6_fitting_0 rfl (lv_at hl 0 rfl) ?_
  refine lv_iconst (v := 0) hx hb dX6_fitting_1 (by decide) ?_
  refine va_put (D := D) (ci := 6) (v := .int 0) (ty := .int) (C := RX6) (T := TX6) (N := 17) hx hb hts iX6 tyX6 tyX6_ok nmX6 hown hK.1 hP (gD hI) hS 81 (gW_6 kd81) rfl 8 (by decide) f31 (fun _ h9 => h9) rfl (by decide +kernel) rfl rfl (Nat.le_of_ble_eq_true rfl) dX6_fitting_2 (fun H locs hP _ hS => ?_)
  refine g_let hs (fun v_1 ev_1 hs => ?_)
  have hP : va_P D vwCl (gW cy ad v_1 u) H := gPset ((gS_6_8 kd81 0).trans (congrArg (fun z => gW cy ad z u) ev_1.symm)) hP
  refine lv_iload_n hx hb dX6_fitting_5 rfl (lv_at hl 1 rfl) ?_
  refine lv_iconst (v := 0) hx hb dX6_fitting_6 (by decide) ?_
  refine lv_iconst (v := 5) hx hb dX6_fitting_7 (by decide) ?_
  refine g_bind hs (fun q_2 hq_2 hs => ?_)
  refine gCS_i (As := [.int x1, .int 0, .int 5]) (rest := []) ⟨hx, hb, hml, hown, hts⟩ (cX6_in_c l D cy ad tL z0 hI v_1 u x1 0 5 q_2 hq_2) (va_cwS 3 hts gX6_fitting_X6_in rfl rfl rfl (by decide +kernel) ⟨Nat.le_of_ble_eq_true rfl, Nat.le_of_ble_eq_true rfl⟩) hK hP hS hl.1 rfl rfl (Nat.le_of_ble_eq_true rfl) dX6_fitting_8 ⟨Nat.zero_le _, Nat.zero_le _⟩ (fun H locs hP hS => ?_)
  refine lv_if_eq (tgt := 32) hx hb dX6_fitting_11 (by decide) (fun hc => ?_) (fun hc => ?_)
  · have hs := g_t hs hc
    exact hJ_32 v_1 _ _ _ hP hS (lv_sub hl [0] rfl) hs
  · have hs := g_f hs hc
    refine lv_iload_n hx hb dX6_fitting_14 rfl (lv_at hl 2 rfl) ?_
    refine lv_iconst (v := (-1)) hx hb dX6_fitting_15 (by decide) ?_
    refine lv_iconst (v := 3) hx hb dX6_fitting_16 (by decide) ?_
    refine g_bind hs (fun q_4 hq_4 hs => ?_)
    refine gCS_i (As := [.int x2, .int ((-1)), .int 3]) (rest := []) ⟨hx, hb, hml, hown, hts⟩ (cX6_in_c l D cy ad tL z0 hI v_1 u x2 ((-1)) 3 q_4 hq_4) (va_cwS 3 hts gX6_fitting_X6_in rfl rfl rfl (by decide +kernel) ⟨Nat.le_of_ble_eq_true rfl, Nat.le_of_ble_eq_true rfl⟩) hK hP hS hl.1 rfl rfl (Nat.le_of_ble_eq_true rfl) dX6_fitting_17 ⟨Nat.zero_le _, Nat.zero_le _⟩ (fun H locs hP hS => ?_)
    refine lv_if_eq (tgt := 32) hx hb dX6_fitting_20 (by decide) (fun hc => ?_) (fun hc => ?_)
    · have hs := g_t hs hc
      exact hJ_32 v_1 _ _ _ hP hS (lv_sub hl [0] rfl) hs
    · have hs := g_f hs hc
      refine lv_aload_n hx hb dX6_fitting_23 rfl (lv_at hl 0 rfl) ?_
      refine lv_iload_n hx hb dX6_fitting_24 rfl (lv_at hl 1 rfl) ?_
      refine lv_iload_n hx hb dX6_fitting_25 rfl (lv_at hl 2 rfl) ?_
      refine g_bind hs (fun q_5 hq_5 hs => ?_)
      refine gCV_i (As := [.int x1, .int x2]) (rest := []) ⟨hx, hb, hml, hown, hts⟩ (cX6_fittingOnes_c l D cy ad tL z0 hI n v_1 u x1 x2 q_5 hq_5) (cwV 2 hts gX6_fitting_X6_fittingOnes rfl rfl rfl (by decide +kernel) ⟨Nat.le_of_ble_eq_true rfl, Nat.le_of_ble_eq_true rfl⟩) hK hP hS (va_recv hK.1 hP (ci := 6) (q0 := 81) rfl (gW_6 kd81)) hl.1 rfl rfl (Nat.le_of_ble_eq_true rfl) dX6_fitting_26 ⟨Nat.zero_le _, Nat.zero_le _⟩ (fun H locs hP hS => ?_)
      refine lv_goto (tgt := 37) hx hb dX6_fitting_29 (by decide) ?_
      exact gRet_i hx hb hr hlocks hK hP hS (g_some2 hs) dX6_fitting_37
set_option maxHeartbeats 4000000 in
set_option maxRecDepth 100000 in
theorem cX6_candidates_c (l : Launch) (D : va_G) (cy : Nat → ClassId) (ad : Nat → Nat) (tL z0 : Nat) (hI : gI z0 ad) (v : gV) (u : Int64) (r0 : Int32) (v1 : gV) (hs : sX6_candidates v = some (r0, v1)) : Met l yX6_candidates wsX6_candidates ({ frames := 0, cells := 0, slots := 0, locals := 0 } : Room) (gPc D cy ad tL z0 v u [.ref (ad 81)]) (gQi D cy ad tL z0 v1 u r0) 0 0 (gA z0) := by
  refine Met.ofW (cc := cX6_candidates) (maxL := 1) (ret := (some .int)) (by decide) rfl ?_
  intro p e s m args below meth c s₁ B hml hv
  obtain ⟨rfl, hB0⟩ := hv
  have hP : va_P D vwCl (gW cy ad v u) s.heap := hB0.1
  have hK : gK D cy tL z0 s s.heap := hB0.2
  have hx := B.exec
  have hb := B.bytes
  have hr := B.returns
  have hts := atoms_spec (ws := wsX6_candidates) B.pre
  have hown : s.vm.findClass RX6 = some m.cls := findClass_of_methodNamed B.named
  have hlocks := B.notSynchronized
  have hS : va_S (gA z0) s.heap s.heap [] := va_S.rf
  have hl := lv_entry ([.ref (ad 81)]) (n := 1) (Nat.le_of_ble_eq_true rfl)
  rw [lg_entry_eq]
  generalize (lg_sl ([.ref (ad 81)]) ++ List.replicate (1 - (lg_sl ([.ref (ad 81)])).length) Slot.unset).toArray = ls at hl ⊢
  have hl : lv_has ls 1 [(0, .ref (ad 81))] := hl
  have iX6 := (show ∀ w ∈ u_ws RX6 TX6 17, w ∈ wsX6_candidates by decide +kernel)
  have f31 := hts (.fieldLink RX6 31 "AdventureParserModel" "thrown" "I") (by decide +kernel)
  have f16 := hts (.fieldLink RX6 16 "AdventureParserModel" "s" "[I") (by decide +kernel)
  clear hB0
  unfold sX6_candidates at hs
  refine lv_aload_n hx hb dX6_candidates_0 rfl (lv_at hl 0 rfl) ?_
  refine lv_iconst (v := 0) hx hb dX6_candidates_1 (by decide) ?_
  refine va_put (D := D) (ci := 6) (v := .int 0) (ty := .int) (C := RX6) (T := TX6) (N := 17) hx hb hts iX6 tyX6 tyX6_ok nmX6 hown hK.1 hP (gD hI) hS 81 (gW_6 kd81) rfl 8 (by decide) f31 (fun _ h9 => h9) rfl (by decide +kernel) rfl rfl (Nat.le_of_ble_eq_true rfl) dX6_candidates_2 (fun H locs hP _ hS => ?_)
  refine g_let hs (fun v_1 ev_1 hs => ?_)
  have hP : va_P D vwCl (gW cy ad v_1 u) H := gPset ((gS_6_8 kd81 0).trans (congrArg (fun z => gW cy ad z u) ev_1.symm)) hP
  refine lv_aload_n hx hb dX6_candidates_5 rfl (lv_at hl 0 rfl) ?_
  refine va_get (D := D) (ci := 6) (v := .ref (ad 84)) (C := RX6) (T := TX6) (N := 17) hx hb hts iX6 hown hK.1 hP 81 (gW_6 kd81) rfl 2 (by decide) f16 (fun _ h9 => h9) rfl dX6_candidates_6 ?_
  refine lv_bipush (v := 57) hx hb dX6_candidates_9 (by decide) ?_
  refine va_iald (i := 57) hx hb hK.1 hP 84 0 (gW_16 kd84) rfl (by unfold vp_in; decide) dX6_candidates_11 ?_
  exact gRet_i hx hb hr hlocks hK hP hS (g_some2 hs) dX6_candidates_12
set_option maxHeartbeats 4000000 in
set_option maxRecDepth 100000 in
theorem cX6_it_c (l : Launch) (D : va_G) (cy : Nat → ClassId) (ad : Nat → Nat) (tL z0 : Nat) (hI : gI z0 ad) (v : gV) (u : Int64) (r0 : Int32) (v1 : gV) (hs : sX6_it v = some (r0, v1)) : Met l yX6_it wsX6_it ({ frames := 0, cells := 0, slots := 0, locals := 0 } : Room) (gPc D cy ad tL z0 v u [.ref (ad 81)]) (gQi D cy ad tL z0 v1 u r0) 0 0 (gA z0) := by
  refine Met.ofW (cc := cX6_it) (maxL := 1) (ret := (some .int)) (by decide) rfl ?_
  intro p e s m args below meth c s₁ B hml hv
  obtain ⟨rfl, hB0⟩ := hv
  have hP : va_P D vwCl (gW cy ad v u) s.heap := hB0.1
  have hK : gK D cy tL z0 s s.heap := hB0.2
  have hx := B.exec
  have hb := B.bytes
  have hr := B.returns
  have hts := atoms_spec (ws := wsX6_it) B.pre
  have hown : s.vm.findClass RX6 = some m.cls := findClass_of_methodNamed B.named
  have hlocks := B.notSynchronized
  have hS : va_S (gA z0) s.heap s.heap [] := va_S.rf
  have hl := lv_entry ([.ref (ad 81)]) (n := 1) (Nat.le_of_ble_eq_true rfl)
  rw [lg_entry_eq]
  generalize (lg_sl ([.ref (ad 81)]) ++ List.replicate (1 - (lg_sl ([.ref (ad 81)])).length) Slot.unset).toArray = ls at hl ⊢
  have hl : lv_has ls 1 [(0, .ref (ad 81))] := hl
  have iX6 := (show ∀ w ∈ u_ws RX6 TX6 17, w ∈ wsX6_it by decide +kernel)
  have f31 := hts (.fieldLink RX6 31 "AdventureParserModel" "thrown" "I") (by decide +kernel)
  have f16 := hts (.fieldLink RX6 16 "AdventureParserModel" "s" "[I") (by decide +kernel)
  clear hB0
  unfold sX6_it at hs
  refine lv_aload_n hx hb dX6_it_0 rfl (lv_at hl 0 rfl) ?_
  refine lv_iconst (v := 0) hx hb dX6_it_1 (by decide) ?_
  refine va_put (D := D) (ci := 6) (v := .int 0) (ty := .int) (C := RX6) (T := TX6) (N := 17) hx hb hts iX6 tyX6 tyX6_ok nmX6 hown hK.1 hP (gD hI) hS 81 (gW_6 kd81) rfl 8 (by decide) f31 (fun _ h9 => h9) rfl (by decide +kernel) rfl rfl (Nat.le_of_ble_eq_true rfl) dX6_it_2 (fun H locs hP _ hS => ?_)
  refine g_let hs (fun v_1 ev_1 hs => ?_)
  have hP : va_P D vwCl (gW cy ad v_1 u) H := gPset ((gS_6_8 kd81 0).trans (congrArg (fun z => gW cy ad z u) ev_1.symm)) hP
  refine lv_aload_n hx hb dX6_it_5 rfl (lv_at hl 0 rfl) ?_
  refine va_get (D := D) (ci := 6) (v := .ref (ad 84)) (C := RX6) (T := TX6) (N := 17) hx hb hts iX6 hown hK.1 hP 81 (gW_6 kd81) rfl 2 (by decide) f16 (fun _ h9 => h9) rfl dX6_it_6 ?_
  refine lv_bipush (v := 50) hx hb dX6_it_9 (by decide) ?_
  refine va_iald (i := 50) hx hb hK.1 hP 84 0 (gW_16 kd84) rfl (by unfold vp_in; decide) dX6_it_11 ?_
  exact gRet_i hx hb hr hlocks hK hP hS (g_some2 hs) dX6_it_12
set_option maxHeartbeats 4000000 in
set_option maxRecDepth 100000 in
theorem cX6_them_c (l : Launch) (D : va_G) (cy : Nat → ClassId) (ad : Nat → Nat) (tL z0 : Nat) (hI : gI z0 ad) (v : gV) (u : Int64) (r0 : Int32) (v1 : gV) (hs : sX6_them v = some (r0, v1)) : Met l yX6_them wsX6_them ({ frames := 0, cells := 0, slots := 0, locals := 0 } : Room) (gPc D cy ad tL z0 v u [.ref (ad 81)]) (gQi D cy ad tL z0 v1 u r0) 0 0 (gA z0) := by
  refine Met.ofW (cc := cX6_them) (maxL := 1) (ret := (some .int)) (by decide) rfl ?_
  intro p e s m args below meth c s₁ B hml hv
  obtain ⟨rfl, hB0⟩ := hv
  have hP : va_P D vwCl (gW cy ad v u) s.heap := hB0.1
  have hK : gK D cy tL z0 s s.heap := hB0.2
  have hx := B.exec
  have hb := B.bytes
  have hr := B.returns
  have hts := atoms_spec (ws := wsX6_them) B.pre
  have hown : s.vm.findClass RX6 = some m.cls := findClass_of_methodNamed B.named
  have hlocks := B.notSynchronized
  have hS : va_S (gA z0) s.heap s.heap [] := va_S.rf
  have hl := lv_entry ([.ref (ad 81)]) (n := 1) (Nat.le_of_ble_eq_true rfl)
  rw [lg_entry_eq]
  generalize (lg_sl ([.ref (ad 81)]) ++ List.replicate (1 - (lg_sl ([.ref (ad 81)])).length) Slot.unset).toArray = ls at hl ⊢
  have hl : lv_has ls 1 [(0, .ref (ad 81))] := hl
  have iX6 := (show ∀ w ∈ u_ws RX6 TX6 17, w ∈ wsX6_them by decide +kernel)
  have f31 := hts (.fieldLink RX6 31 "AdventureParserModel" "thrown" "I") (by decide +kernel)
  have f16 := hts (.fieldLink RX6 16 "AdventureParserModel" "s" "[I") (by decide +kernel)
  clear hB0
  unfold sX6_them at hs
  refine lv_aload_n hx hb dX6_them_0 rfl (lv_at hl 0 rfl) ?_
  refine lv_iconst (v := 0) hx hb dX6_them_1 (by decide) ?_
  refine va_put (D := D) (ci := 6) (v := .int 0) (ty := .int) (C := RX6) (T := TX6) (N := 17) hx hb hts iX6 tyX6 tyX6_ok nmX6 hown hK.1 hP (gD hI) hS 81 (gW_6 kd81) rfl 8 (by decide) f31 (fun _ h9 => h9) rfl (by decide +kernel) rfl rfl (Nat.le_of_ble_eq_true rfl) dX6_them_2 (fun H locs hP _ hS => ?_)
  refine g_let hs (fun v_1 ev_1 hs => ?_)
  have hP : va_P D vwCl (gW cy ad v_1 u) H := gPset ((gS_6_8 kd81 0).trans (congrArg (fun z => gW cy ad z u) ev_1.symm)) hP
  refine lv_aload_n hx hb dX6_them_5 rfl (lv_at hl 0 rfl) ?_
  refine va_get (D := D) (ci := 6) (v := .ref (ad 84)) (C := RX6) (T := TX6) (N := 17) hx hb hts iX6 hown hK.1 hP 81 (gW_6 kd81) rfl 2 (by decide) f16 (fun _ h9 => h9) rfl dX6_them_6 ?_
  refine lv_bipush (v := 51) hx hb dX6_them_9 (by decide) ?_
  refine va_iald (i := 51) hx hb hK.1 hP 84 0 (gW_16 kd84) rfl (by unfold vp_in; decide) dX6_them_11 ?_
  exact gRet_i hx hb hr hlocks hK hP hS (g_some2 hs) dX6_them_12
set_option maxHeartbeats 4000000 in
set_option maxRecDepth 100000 in
theorem cX6_append_c (l : Launch) (D : va_G) (cy : Nat → ClassId) (ad : Nat → Nat) (tL z0 : Nat) (hI : gI z0 ad) (v : gV) (u : Int64) (x1 : Int32) (r0 : Int32) (v1 : gV) (hs : sX6_append v x1 = some (r0, v1)) : Met l yX6_append wsX6_append ({ frames := 1, cells := 0, slots := 0, locals := 22 } : Room) (gPc D cy ad tL z0 v u [.ref (ad 81), .int x1]) (gQi D cy ad tL z0 v1 u r0) 0 0 (gA z0) := by
  refine Met.ofW (cc := cX6_append) (maxL := 2) (ret := (some .int)) (by decide) rfl ?_
  intro p e s m args below meth c s₁ B hml hv
  obtain ⟨rfl, hB0⟩ := hv
  have hP : va_P D vwCl (gW cy ad v u) s.heap := hB0.1
  have hK : gK D cy tL z0 s s.heap := hB0.2
  have hx := B.exec
  have hb := B.bytes
  have hr := B.returns
  have hts := atoms_spec (ws := wsX6_append) B.pre
  have hown : s.vm.findClass RX6 = some m.cls := findClass_of_methodNamed B.named
  have hlocks := B.notSynchronized
  have hS : va_S (gA z0) s.heap s.heap [] := va_S.rf
  have hl := lv_entry ([.ref (ad 81), .int x1]) (n := 2) (Nat.le_of_ble_eq_true rfl)
  rw [lg_entry_eq]
  generalize (lg_sl ([.ref (ad 81), .int x1]) ++ List.replicate (2 - (lg_sl ([.ref (ad 81), .int x1])).length) Slot.unset).toArray = ls at hl ⊢
  have hl : lv_has ls 2 [(0, .ref (ad 81)), (1, .int x1)] := hl
  have iX6 := (show ∀ w ∈ u_ws RX6 TX6 17, w ∈ wsX6_append by decide +kernel)
  have f31 := hts (.fieldLink RX6 31 "AdventureParserModel" "thrown" "I") (by decide +kernel)
  have f91 := hts (.fieldLink RX6 91 "AdventureParserModel" "length" "I") (by decide +kernel)
  have f25 := hts (.fieldLink RX6 25 "AdventureParserModel" "text" "[I") (by decide +kernel)
  clear hB0
  unfold sX6_append at hs
  refine lv_aload_n hx hb dX6_append_0 rfl (lv_at hl 0 rfl) ?_
  refine lv_iconst (v := 0) hx hb dX6_append_1 (by decide) ?_
  refine va_put (D := D) (ci := 6) (v := .int 0) (ty := .int) (C := RX6) (T := TX6) (N := 17) hx hb hts iX6 tyX6 tyX6_ok nmX6 hown hK.1 hP (gD hI) hS 81 (gW_6 kd81) rfl 8 (by decide) f31 (fun _ h9 => h9) rfl (by decide +kernel) rfl rfl (Nat.le_of_ble_eq_true rfl) dX6_append_2 (fun H locs hP _ hS => ?_)
  refine g_let hs (fun v_1 ev_1 hs => ?_)
  have hP : va_P D vwCl (gW cy ad v_1 u) H := gPset ((gS_6_8 kd81 0).trans (congrArg (fun z => gW cy ad z u) ev_1.symm)) hP
  refine lv_iload_n hx hb dX6_append_5 rfl (lv_at hl 1 rfl) ?_
  refine lv_bipush (v := 32) hx hb dX6_append_6 (by decide) ?_
  refine lv_bipush (v := 126) hx hb dX6_append_8 (by decide) ?_
  refine g_bind hs (fun q_2 hq_2 hs => ?_)
  refine gCS_i (As := [.int x1, .int 32, .int 126]) (rest := []) ⟨hx, hb, hml, hown, hts⟩ (cX6_in_c l D cy ad tL z0 hI v_1 u x1 32 126 q_2 hq_2) (va_cwS 3 hts gX6_append_X6_in rfl rfl rfl (by decide +kernel) ⟨Nat.le_of_ble_eq_true rfl, Nat.le_of_ble_eq_true rfl⟩) hK hP hS hl.1 rfl rfl (Nat.le_of_ble_eq_true rfl) dX6_append_10 ⟨Nat.zero_le _, Nat.zero_le _⟩ (fun H locs hP hS => ?_)
  refine lv_if_ne (tgt := 22) hx hb dX6_append_13 (by decide) (fun hc => ?_) (fun hc => ?_)
  · have hs := g_f hs hc
    refine lv_aload_n hx hb dX6_append_22 rfl (lv_at hl 0 rfl) ?_
    refine va_get (D := D) (ci := 6) (v := .int (v_1 81 7)) (C := RX6) (T := TX6) (N := 17) hx hb hts iX6 hown hK.1 hP 81 (gW_6 kd81) rfl 7 (by decide) f91 (fun _ h9 => h9) rfl dX6_append_23 ?_
    refine lv_bipush (v := 60) hx hb dX6_append_26 (by decide) ?_
    refine lv_icmp_ne (tgt := 37) hx hb dX6_append_28 (by decide) (fun hc => ?_) (fun hc => ?_)
    · have hs := g_f hs hc
      refine lv_aload_n hx hb dX6_append_37 rfl (lv_at hl 0 rfl) ?_
      refine va_get (D := D) (ci := 6) (v := .ref (ad 87)) (C := RX6) (T := TX6) (N := 17) hx hb hts iX6 hown hK.1 hP 81 (gW_6 kd81) rfl 6 (by decide) f25 (fun _ h9 => h9) rfl dX6_append_38 ?_
      refine lv_aload_n hx hb dX6_append_41 rfl (lv_at hl 0 rfl) ?_
      refine va_get (D := D) (ci := 6) (v := .int (v_1 81 7)) (C := RX6) (T := TX6) (N := 17) hx hb hts iX6 hown hK.1 hP 81 (gW_6 kd81) rfl 7 (by decide) f91 (fun _ h9 => h9) rfl dX6_append_42 ?_
      refine lv_iload_n hx hb dX6_append_45 rfl (lv_at hl 1 rfl) ?_
      refine g_chk hs (fun hc hs => ?_)
      refine va_iast hx hb hK.1 hP (gD hI) hS 87 0 (gW_18 kd87) rfl hc dX6_append_46 (fun H locs hP _ hS => ?_)
      refine g_let hs (fun v_3 ev_3 hs => ?_)
      have hP : va_P D vwCl (gW cy ad v_3 u) H := gPset ((gS_18 kd87 (v_1 81 7).toNatClampNeg x1).trans (congrArg (fun z => gW cy ad z u) ev_3.symm)) hP
      refine lv_aload_n hx hb dX6_append_47 rfl (lv_at hl 0 rfl) ?_
      refine lv_dup hx hb dX6_append_48 rfl ?_
      refine va_get (D := D) (ci := 6) (v := .int (v_3 81 7)) (C := RX6) (T := TX6) (N := 17) hx hb hts iX6 hown hK.1 hP 81 (gW_6 kd81) rfl 7 (by decide) f91 (fun _ h9 => h9) rfl dX6_append_49 ?_
      refine lv_iconst (v := 1) hx hb dX6_append_52 (by decide) ?_
      refine lv_iadd hx hb dX6_append_53 ?_
      refine va_put (D := D) (ci := 6) (v := .int ((v_3 81 7) + 1)) (ty := .int) (C := RX6) (T := TX6) (N := 17) hx hb hts iX6 tyX6 tyX6_ok nmX6 hown hK.1 hP (gD hI) hS 81 (gW_6 kd81) rfl 7 (by decide) f91 (fun _ h9 => h9) rfl (by decide +kernel) rfl rfl (Nat.le_of_ble_eq_true rfl) dX6_append_54 (fun H locs hP _ hS => ?_)
      refine g_let hs (fun v_4 ev_4 hs => ?_)
      have hP : va_P D vwCl (gW cy ad v_4 u) H := gPset ((gS_6_7 kd81 ((v_3 81 7) + 1)).trans (congrArg (fun z => gW cy ad z u) ev_4.symm)) hP
      refine lv_aload_n hx hb dX6_append_57 rfl (lv_at hl 0 rfl) ?_
      refine va_get (D := D) (ci := 6) (v := .int (v_4 81 7)) (C := RX6) (T := TX6) (N := 17) hx hb hts iX6 hown hK.1 hP 81 (gW_6 kd81) rfl 7 (by decide) f91 (fun _ h9 => h9) rfl dX6_append_58 ?_
      exact gRet_i hx hb hr hlocks hK hP hS (g_some2 hs) dX6_append_61
    · have hs := g_t hs hc
      refine lv_aload_n hx hb dX6_append_31 rfl (lv_at hl 0 rfl) ?_
      refine lv_iconst (v := 2) hx hb dX6_append_32 (by decide) ?_
      refine g_bind hs (fun q_5 hq_5 hs => ?_)
      refine gCV_i (As := [.int 2]) (rest := []) ⟨hx, hb, hml, hown, hts⟩ (cX6_throwing_c l D cy ad tL z0 hI v_1 u 2 q_5.1 q_5.2 hq_5) (cwV 1 hts gX6_append_X6_throwing rfl rfl rfl (by decide +kernel) ⟨Nat.le_of_ble_eq_true rfl, Nat.le_of_ble_eq_true rfl⟩) hK hP hS (va_recv hK.1 hP (ci := 6) (q0 := 81) rfl (gW_6 kd81)) hl.1 rfl rfl (Nat.le_of_ble_eq_true rfl) dX6_append_33 ⟨Nat.zero_le _, Nat.zero_le _⟩ (fun H locs hP hS => ?_)
      exact gRet_i hx hb hr hlocks hK hP hS (g_some2 hs) dX6_append_36
  · have hs := g_t hs hc
    refine lv_aload_n hx hb dX6_append_16 rfl (lv_at hl 0 rfl) ?_
    refine lv_iconst (v := 1) hx hb dX6_append_17 (by decide) ?_
    refine g_bind hs (fun q_6 hq_6 hs => ?_)
    refine gCV_i (As := [.int 1]) (rest := []) ⟨hx, hb, hml, hown, hts⟩ (cX6_throwing_c l D cy ad tL z0 hI v_1 u 1 q_6.1 q_6.2 hq_6) (cwV 1 hts gX6_append_X6_throwing rfl rfl rfl (by decide +kernel) ⟨Nat.le_of_ble_eq_true rfl, Nat.le_of_ble_eq_true rfl⟩) hK hP hS (va_recv hK.1 hP (ci := 6) (q0 := 81) rfl (gW_6 kd81)) hl.1 rfl rfl (Nat.le_of_ble_eq_true rfl) dX6_append_18 ⟨Nat.zero_le _, Nat.zero_le _⟩ (fun H locs hP hS => ?_)
    exact gRet_i hx hb hr hlocks hK hP hS (g_some2 hs) dX6_append_21
